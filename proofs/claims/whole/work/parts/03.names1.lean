def RX0 : String := "NightBook$Absent"
def TX0 : u_T := fun k => match k with
  | 0 => ("NightBook$Window", "land", "I", true)
  | 1 => ("NightBook$Window", "n", "I", true)
  | 2 => ("NightBook$Window", "reach", "I", true)
  | 3 => ("NightBook$Window", "here", "LNightBook$Tally;", true)
  | 4 => ("NightBook$Window", "end", "LNightBook$Tally;", true)
  | _ => ("NightBook$Window", "endFrom", "I", false)
def tyX0 : Nat → FieldType := fun k => match k with
  | 0 => .int
  | 1 => .int
  | 2 => .int
  | 3 => .object "NightBook$Tally"
  | 4 => .object "NightBook$Tally"
  | _ => .int
abbrev wsX00 : List Cond := u_ws RX0 TX0 6
theorem nmX0 : ∀ a, a < 6 → ∀ b, b < 6 → a ≠ b → (TX0 a).2.1 ≠ (TX0 b).2.1 := by decide +kernel
theorem tyX0_ok : ∀ k, k < 6 → parseFieldDescriptor (TX0 k).2.2.1 = some (tyX0 k) := by decide +kernel
abbrev cX0_init : ByteArray := prog_2_method_1_code
def yX0_init : MethodName := ⟨RX0, "<init>", "(II)V"⟩
abbrev cX0_kind : ByteArray := prog_2_method_2_code
def yX0_kind : MethodName := ⟨RX0, "kind", "()I"⟩
abbrev cX0_verdict : ByteArray := prog_2_method_3_code
def yX0_verdict : MethodName := ⟨RX0, "verdict", "(LNightBook$Tally;I)I"⟩
abbrev cX0_heft : ByteArray := prog_2_method_4_code
def yX0_heft : MethodName := ⟨RX0, "heft", "()I"⟩
def RX1 : String := "NightBook$Bill"
def TX1 : u_T := fun k => match k with
  | 0 => ("NightBook$Span", "number", "I", true)
  | 1 => ("NightBook$Span", "from", "I", true)
  | 2 => ("NightBook$Span", "to", "I", true)
  | 3 => ("NightBook$Span", "lands", "I", true)
  | 4 => ("NightBook$Span", "person", "I", false)
  | _ => ("NightBook$Span", "dropped", "Z", false)
def tyX1 : Nat → FieldType := fun k => match k with
  | 0 => .int
  | 1 => .int
  | 2 => .int
  | 3 => .int
  | 4 => .int
  | _ => .boolean
abbrev wsX10 : List Cond := u_ws RX1 TX1 6
theorem nmX1 : ∀ a, a < 6 → ∀ b, b < 6 → a ≠ b → (TX1 a).2.1 ≠ (TX1 b).2.1 := by decide +kernel
theorem tyX1_ok : ∀ k, k < 6 → parseFieldDescriptor (TX1 k).2.2.1 = some (tyX1 k) := by decide +kernel
abbrev cX1_init : ByteArray := prog_3_method_1_code
def yX1_init : MethodName := ⟨RX1, "<init>", "(IIII)V"⟩
abbrev cX1_kind : ByteArray := prog_3_method_2_code
def yX1_kind : MethodName := ⟨RX1, "kind", "()I"⟩
abbrev cX1_heft : ByteArray := prog_3_method_3_code
def yX1_heft : MethodName := ⟨RX1, "heft", "()I"⟩
def RX2 : String := "NightBook$Held"
def TX2 : u_T := fun k => match k with
  | _ => ("", "", "", false)
def tyX2 : Nat → FieldType := fun k => match k with
  | _ => .int
abbrev wsX20 : List Cond := u_ws RX2 TX2 0
theorem nmX2 : ∀ a, a < 0 → ∀ b, b < 0 → a ≠ b → (TX2 a).2.1 ≠ (TX2 b).2.1 := by decide +kernel
theorem tyX2_ok : ∀ k, k < 0 → parseFieldDescriptor (TX2 k).2.2.1 = some (tyX2 k) := by decide +kernel
abbrev cX2_init : ByteArray := prog_4_method_1_code
def yX2_init : MethodName := ⟨RX2, "<init>", "()V"⟩
abbrev cX2_fail : ByteArray := prog_4_method_3_code
def yX2_fail : MethodName := ⟨RX2, "fail", "()V"⟩
abbrev cX2_failureNumber : ByteArray := prog_4_method_4_code
def yX2_failureNumber : MethodName := ⟨RX2, "failureNumber", "()I"⟩
def RX3 : String := "NightBook$Needs"
def TX3 : u_T := fun k => match k with
  | 0 => ("NightBook$Window", "land", "I", true)
  | 1 => ("NightBook$Window", "n", "I", true)
  | 2 => ("NightBook$Window", "reach", "I", true)
  | 3 => ("NightBook$Window", "here", "LNightBook$Tally;", true)
  | 4 => ("NightBook$Window", "end", "LNightBook$Tally;", true)
  | _ => ("NightBook$Window", "endFrom", "I", false)
def tyX3 : Nat → FieldType := fun k => match k with
  | 0 => .int
  | 1 => .int
  | 2 => .int
  | 3 => .object "NightBook$Tally"
  | 4 => .object "NightBook$Tally"
  | _ => .int
abbrev wsX30 : List Cond := u_ws RX3 TX3 6
theorem nmX3 : ∀ a, a < 6 → ∀ b, b < 6 → a ≠ b → (TX3 a).2.1 ≠ (TX3 b).2.1 := by decide +kernel
theorem tyX3_ok : ∀ k, k < 6 → parseFieldDescriptor (TX3 k).2.2.1 = some (tyX3 k) := by decide +kernel
abbrev cX3_init : ByteArray := prog_5_method_1_code
def yX3_init : MethodName := ⟨RX3, "<init>", "(III)V"⟩
abbrev cX3_kind : ByteArray := prog_5_method_2_code
def yX3_kind : MethodName := ⟨RX3, "kind", "()I"⟩
abbrev cX3_bindsTrips : ByteArray := prog_5_method_3_code
def yX3_bindsTrips : MethodName := ⟨RX3, "bindsTrips", "()Z"⟩
abbrev cX3_verdict : ByteArray := prog_5_method_4_code
def yX3_verdict : MethodName := ⟨RX3, "verdict", "(LNightBook$Tally;I)I"⟩
abbrev cX3_heft : ByteArray := prog_5_method_5_code
def yX3_heft : MethodName := ⟨RX3, "heft", "()I"⟩
abbrev cX3_fail : ByteArray := prog_5_method_6_code
def yX3_fail : MethodName := ⟨RX3, "fail", "()V"⟩
def RX4 : String := "NightBook$Row"
def TX4 : u_T := fun k => match k with
  | 0 => ("NightBook$Row", "wide", "Z", true)
  | _ => ("NightBook$Row", "cells", "[S", true)
def tyX4 : Nat → FieldType := fun k => match k with
  | 0 => .boolean
  | _ => .array .short
abbrev wsX40 : List Cond := u_ws RX4 TX4 2
theorem nmX4 : ∀ a, a < 2 → ∀ b, b < 2 → a ≠ b → (TX4 a).2.1 ≠ (TX4 b).2.1 := by decide +kernel
theorem tyX4_ok : ∀ k, k < 2 → parseFieldDescriptor (TX4 k).2.2.1 = some (tyX4 k) := by decide +kernel
abbrev cX4_init : ByteArray := prog_6_method_1_code
def yX4_init : MethodName := ⟨RX4, "<init>", "(ZI)V"⟩
abbrev cX4_heft : ByteArray := prog_6_method_2_code
def yX4_heft : MethodName := ⟨RX4, "heft", "()I"⟩
abbrev cX4_hasPlaces : ByteArray := prog_6_method_3_code
def yX4_hasPlaces : MethodName := ⟨RX4, "hasPlaces", "(II)Z"⟩
def RX5 : String := "NightBook$Span"
def TX5 : u_T := fun k => match k with
  | 0 => ("NightBook$Span", "number", "I", true)
  | 1 => ("NightBook$Span", "from", "I", true)
  | 2 => ("NightBook$Span", "to", "I", true)
  | 3 => ("NightBook$Span", "lands", "I", true)
  | 4 => ("NightBook$Span", "person", "I", false)
  | _ => ("NightBook$Span", "dropped", "Z", false)
def tyX5 : Nat → FieldType := fun k => match k with
  | 0 => .int
  | 1 => .int
  | 2 => .int
  | 3 => .int
  | 4 => .int
  | _ => .boolean
abbrev wsX50 : List Cond := u_ws RX5 TX5 6
theorem nmX5 : ∀ a, a < 6 → ∀ b, b < 6 → a ≠ b → (TX5 a).2.1 ≠ (TX5 b).2.1 := by decide +kernel
theorem tyX5_ok : ∀ k, k < 6 → parseFieldDescriptor (TX5 k).2.2.1 = some (tyX5 k) := by decide +kernel
abbrev cX5_init : ByteArray := prog_7_method_1_code
def yX5_init : MethodName := ⟨RX5, "<init>", "(IIIII)V"⟩
abbrev cX5_kind : ByteArray := prog_7_method_2_code
def yX5_kind : MethodName := ⟨RX5, "kind", "()I"⟩
abbrev cX5_givesWay : ByteArray := prog_7_method_3_code
def yX5_givesWay : MethodName := ⟨RX5, "givesWay", "()Z"⟩
abbrev cX5_heft : ByteArray := prog_7_method_4_code
def yX5_heft : MethodName := ⟨RX5, "heft", "()I"⟩
abbrev cX5_fail : ByteArray := prog_7_method_5_code
def yX5_fail : MethodName := ⟨RX5, "fail", "()V"⟩
abbrev cX5_failureNumber : ByteArray := prog_7_method_6_code
def yX5_failureNumber : MethodName := ⟨RX5, "failureNumber", "()I"⟩
def RX6 : String := "NightBook$Stamp"
def TX6 : u_T := fun k => match k with
  | 0 => ("NightBook$Span", "number", "I", true)
  | 1 => ("NightBook$Span", "from", "I", true)
  | 2 => ("NightBook$Span", "to", "I", true)
  | 3 => ("NightBook$Span", "lands", "I", true)
  | 4 => ("NightBook$Span", "person", "I", false)
  | _ => ("NightBook$Span", "dropped", "Z", false)
def tyX6 : Nat → FieldType := fun k => match k with
  | 0 => .int
  | 1 => .int
  | 2 => .int
  | 3 => .int
  | 4 => .int
  | _ => .boolean
abbrev wsX60 : List Cond := u_ws RX6 TX6 6
theorem nmX6 : ∀ a, a < 6 → ∀ b, b < 6 → a ≠ b → (TX6 a).2.1 ≠ (TX6 b).2.1 := by decide +kernel
theorem tyX6_ok : ∀ k, k < 6 → parseFieldDescriptor (TX6 k).2.2.1 = some (tyX6 k) := by decide +kernel
abbrev cX6_init : ByteArray := prog_8_method_1_code
def yX6_init : MethodName := ⟨RX6, "<init>", "(IIIII)V"⟩
abbrev cX6_kind : ByteArray := prog_8_method_2_code
def yX6_kind : MethodName := ⟨RX6, "kind", "()I"⟩
abbrev cX6_heft : ByteArray := prog_8_method_3_code
def yX6_heft : MethodName := ⟨RX6, "heft", "()I"⟩
def RX7 : String := "NightBook$Stretch"
def TX7 : u_T := fun k => match k with
  | 0 => ("NightBook$Window", "land", "I", true)
  | 1 => ("NightBook$Window", "n", "I", true)
  | 2 => ("NightBook$Window", "reach", "I", true)
  | 3 => ("NightBook$Window", "here", "LNightBook$Tally;", true)
  | 4 => ("NightBook$Window", "end", "LNightBook$Tally;", true)
  | _ => ("NightBook$Window", "endFrom", "I", false)
def tyX7 : Nat → FieldType := fun k => match k with
  | 0 => .int
  | 1 => .int
  | 2 => .int
  | 3 => .object "NightBook$Tally"
  | 4 => .object "NightBook$Tally"
  | _ => .int
abbrev wsX70 : List Cond := u_ws RX7 TX7 6
theorem nmX7 : ∀ a, a < 6 → ∀ b, b < 6 → a ≠ b → (TX7 a).2.1 ≠ (TX7 b).2.1 := by decide +kernel
theorem tyX7_ok : ∀ k, k < 6 → parseFieldDescriptor (TX7 k).2.2.1 = some (tyX7 k) := by decide +kernel
abbrev cX7_init : ByteArray := prog_9_method_1_code
def yX7_init : MethodName := ⟨RX7, "<init>", "(II)V"⟩
abbrev cX7_kind : ByteArray := prog_9_method_2_code
def yX7_kind : MethodName := ⟨RX7, "kind", "()I"⟩
abbrev cX7_heft : ByteArray := prog_9_method_3_code
def yX7_heft : MethodName := ⟨RX7, "heft", "()I"⟩
def RX8 : String := "NightBook$Tally"
def TX8 : u_T := fun k => match k with
  | 0 => ("NightBook$Tally", "land", "I", true)
  | 1 => ("NightBook$Tally", "least", "I", false)
  | _ => ("NightBook$Tally", "most", "I", false)
def tyX8 : Nat → FieldType := fun k => match k with
  | 0 => .int
  | 1 => .int
  | _ => .int
abbrev wsX80 : List Cond := u_ws RX8 TX8 3
theorem nmX8 : ∀ a, a < 3 → ∀ b, b < 3 → a ≠ b → (TX8 a).2.1 ≠ (TX8 b).2.1 := by decide +kernel
theorem tyX8_ok : ∀ k, k < 3 → parseFieldDescriptor (TX8 k).2.2.1 = some (tyX8 k) := by decide +kernel
abbrev cX8_init : ByteArray := prog_10_method_1_code
def yX8_init : MethodName := ⟨RX8, "<init>", "(I)V"⟩
abbrev cX8_sum : ByteArray := prog_10_method_2_code
def yX8_sum : MethodName := ⟨RX8, "sum", "([III)V"⟩
abbrev cX8_add : ByteArray := prog_10_method_3_code
def yX8_add : MethodName := ⟨RX8, "add", "(II)V"⟩
def RX9 : String := "NightBook$Window"
def TX9 : u_T := fun k => match k with
  | 0 => ("NightBook$Window", "land", "I", true)
  | 1 => ("NightBook$Window", "n", "I", true)
  | 2 => ("NightBook$Window", "reach", "I", true)
  | 3 => ("NightBook$Window", "here", "LNightBook$Tally;", true)
  | 4 => ("NightBook$Window", "end", "LNightBook$Tally;", true)
  | _ => ("NightBook$Window", "endFrom", "I", false)
def tyX9 : Nat → FieldType := fun k => match k with
  | 0 => .int
  | 1 => .int
  | 2 => .int
  | 3 => .object "NightBook$Tally"
  | 4 => .object "NightBook$Tally"
  | _ => .int
abbrev wsX90 : List Cond := u_ws RX9 TX9 6
theorem nmX9 : ∀ a, a < 6 → ∀ b, b < 6 → a ≠ b → (TX9 a).2.1 ≠ (TX9 b).2.1 := by decide +kernel
theorem tyX9_ok : ∀ k, k < 6 → parseFieldDescriptor (TX9 k).2.2.1 = some (tyX9 k) := by decide +kernel
abbrev cX9_init : ByteArray := prog_11_method_1_code
def yX9_init : MethodName := ⟨RX9, "<init>", "(III)V"⟩
abbrev cX9_kind : ByteArray := prog_11_method_2_code
def yX9_kind : MethodName := ⟨RX9, "kind", "()I"⟩
abbrev cX9_bindsTrips : ByteArray := prog_11_method_3_code
def yX9_bindsTrips : MethodName := ⟨RX9, "bindsTrips", "()Z"⟩
abbrev cX9_verdict : ByteArray := prog_11_method_4_code
def yX9_verdict : MethodName := ⟨RX9, "verdict", "(LNightBook$Tally;I)I"⟩
abbrev cX9_lookAt : ByteArray := prog_11_method_5_code
def yX9_lookAt : MethodName := ⟨RX9, "lookAt", "([II)V"⟩
abbrev cX9_moveTo : ByteArray := prog_11_method_6_code
def yX9_moveTo : MethodName := ⟨RX9, "moveTo", "([II)V"⟩
abbrev cX9_lookAtEnd : ByteArray := prog_11_method_7_code
def yX9_lookAtEnd : MethodName := ⟨RX9, "lookAtEnd", "([II)V"⟩
abbrev cX9_change : ByteArray := prog_11_method_8_code
def yX9_change : MethodName := ⟨RX9, "change", "(III)V"⟩
abbrev cX9_heft : ByteArray := prog_11_method_9_code
def yX9_heft : MethodName := ⟨RX9, "heft", "()I"⟩
abbrev cX9_fail : ByteArray := prog_11_method_10_code
def yX9_fail : MethodName := ⟨RX9, "fail", "()V"⟩
abbrev cX9_failureNumber : ByteArray := prog_11_method_11_code
def yX9_failureNumber : MethodName := ⟨RX9, "failureNumber", "()I"⟩
def RX10 : String := "NightBook$Word"
def TX10 : u_T := fun k => match k with
  | 0 => ("NightBook$Span", "number", "I", true)
  | 1 => ("NightBook$Span", "from", "I", true)
  | 2 => ("NightBook$Span", "to", "I", true)
  | 3 => ("NightBook$Span", "lands", "I", true)
  | 4 => ("NightBook$Span", "person", "I", false)
  | _ => ("NightBook$Span", "dropped", "Z", false)
def tyX10 : Nat → FieldType := fun k => match k with
  | 0 => .int
  | 1 => .int
  | 2 => .int
  | 3 => .int
  | 4 => .int
  | _ => .boolean
abbrev wsX100 : List Cond := u_ws RX10 TX10 6
theorem nmX10 : ∀ a, a < 6 → ∀ b, b < 6 → a ≠ b → (TX10 a).2.1 ≠ (TX10 b).2.1 := by decide +kernel
theorem tyX10_ok : ∀ k, k < 6 → parseFieldDescriptor (TX10 k).2.2.1 = some (tyX10 k) := by decide +kernel
abbrev cX10_init : ByteArray := prog_12_method_1_code
def yX10_init : MethodName := ⟨RX10, "<init>", "(IIII)V"⟩
abbrev cX10_kind : ByteArray := prog_12_method_2_code
def yX10_kind : MethodName := ⟨RX10, "kind", "()I"⟩
abbrev cX10_givesWay : ByteArray := prog_12_method_3_code
def yX10_givesWay : MethodName := ⟨RX10, "givesWay", "()Z"⟩
abbrev cX10_heft : ByteArray := prog_12_method_4_code
def yX10_heft : MethodName := ⟨RX10, "heft", "()I"⟩
abbrev cX10_fail : ByteArray := prog_12_method_5_code
def yX10_fail : MethodName := ⟨RX10, "fail", "()V"⟩
def RX11 : String := "NightBook"
def TX11 : u_T := fun k => match k with
  | 0 => ("NightBook", "homes", "[I", true)
  | 1 => ("NightBook", "passports", "[I", true)
  | 2 => ("NightBook", "joined", "[Z", true)
  | 3 => ("NightBook", "people", "I", false)
  | 4 => ("NightBook", "cans", "[[I", true)
  | 5 => ("NightBook", "marks", "[LNightBook$Span;", true)
  | 6 => ("NightBook", "markCount", "I", false)
  | 7 => ("NightBook", "laws", "[LNightBook$Window;", true)
  | 8 => ("NightBook", "lawCount", "I", false)
  | 9 => ("NightBook", "claimNights", "[I", true)
  | 10 => ("NightBook", "treaties", "[I", true)
  | 11 => ("NightBook", "treatyCount", "I", false)
  | 12 => ("NightBook", "shelves", "[LNightBook$Held;", true)
  | 13 => ("NightBook", "tallies", "[LNightBook$Tally;", true)
  | 14 => ("NightBook", "mind", "[I", true)
  | _ => ("NightBook", "words", "[I", true)
def tyX11 : Nat → FieldType := fun k => match k with
  | 0 => .array .int
  | 1 => .array .int
  | 2 => .array .boolean
  | 3 => .int
  | 4 => .array (.array .int)
  | 5 => .array (.object "NightBook$Span")
  | 6 => .int
  | 7 => .array (.object "NightBook$Window")
  | 8 => .int
  | 9 => .array .int
  | 10 => .array .int
  | 11 => .int
  | 12 => .array (.object "NightBook$Held")
  | 13 => .array (.object "NightBook$Tally")
  | 14 => .array .int
  | _ => .array .int
abbrev wsX110 : List Cond := u_ws RX11 TX11 16
theorem nmX11 : ∀ a, a < 16 → ∀ b, b < 16 → a ≠ b → (TX11 a).2.1 ≠ (TX11 b).2.1 := by decide +kernel
theorem tyX11_ok : ∀ k, k < 16 → parseFieldDescriptor (TX11 k).2.2.1 = some (tyX11 k) := by decide +kernel
abbrev cX11_init : ByteArray := prog_1_method_1_code
def yX11_init : MethodName := ⟨RX11, "<init>", "()V"⟩
abbrev cX11_person : ByteArray := prog_1_method_2_code
def yX11_person : MethodName := ⟨RX11, "person", "(II)I"⟩
abbrev cX11_span : ByteArray := prog_1_method_3_code
def yX11_span : MethodName := ⟨RX11, "span", "(IIII)I"⟩
abbrev cX11_slept : ByteArray := prog_1_method_4_code
def yX11_slept : MethodName := ⟨RX11, "slept", "(IIIZ)I"⟩
abbrev cX11_stamp : ByteArray := prog_1_method_5_code
def yX11_stamp : MethodName := ⟨RX11, "stamp", "(IIII)I"⟩
abbrev cX11_drop : ByteArray := prog_1_method_6_code
def yX11_drop : MethodName := ⟨RX11, "drop", "(IZ)I"⟩
abbrev cX11_mark : ByteArray := prog_1_method_7_code
def yX11_mark : MethodName := ⟨RX11, "mark", "(II)I"⟩
abbrev cX11_can : ByteArray := prog_1_method_8_code
def yX11_can : MethodName := ⟨RX11, "can", "(II)I"⟩
abbrev cX11_nights : ByteArray := prog_1_method_9_code
def yX11_nights : MethodName := ⟨RX11, "nights", "(IIIIZ)I"⟩
abbrev cX11_sure : ByteArray := prog_1_method_10_code
def yX11_sure : MethodName := ⟨RX11, "sure", "(III)I"⟩
abbrev cX11_join : ByteArray := prog_1_method_11_code
def yX11_join : MethodName := ⟨RX11, "join", "(II)I"⟩
abbrev cX11_isLand : ByteArray := prog_1_method_12_code
def yX11_isLand : MethodName := ⟨RX11, "isLand", "(I)Z"⟩
abbrev cX11_isDay : ByteArray := prog_1_method_13_code
def yX11_isDay : MethodName := ⟨RX11, "isDay", "(I)Z"⟩
abbrev cX11_areDays : ByteArray := prog_1_method_14_code
def yX11_areDays : MethodName := ⟨RX11, "areDays", "(II)Z"⟩
abbrev cX11_isYear : ByteArray := prog_1_method_15_code
def yX11_isYear : MethodName := ⟨RX11, "isYear", "(I)Z"⟩
abbrev cX11_isShelf : ByteArray := prog_1_method_16_code
def yX11_isShelf : MethodName := ⟨RX11, "isShelf", "(I)Z"⟩
abbrev cX11_isPerson : ByteArray := prog_1_method_17_code
def yX11_isPerson : MethodName := ⟨RX11, "isPerson", "(I)Z"⟩
abbrev cX11_markAt : ByteArray := prog_1_method_18_code
def yX11_markAt : MethodName := ⟨RX11, "markAt", "(I)LNightBook$Span;"⟩
abbrev cX11_lawAt : ByteArray := prog_1_method_19_code
def yX11_lawAt : MethodName := ⟨RX11, "lawAt", "(I)LNightBook$Window;"⟩
abbrev cX11_enter : ByteArray := prog_1_method_20_code
def yX11_enter : MethodName := ⟨RX11, "enter", "(LNightBook$Span;)I"⟩
abbrev cX11_tellAnew : ByteArray := prog_1_method_21_code
def yX11_tellAnew : MethodName := ⟨RX11, "tellAnew", "(IIII)Z"⟩
abbrev cX11_narrow : ByteArray := prog_1_method_22_code
def yX11_narrow : MethodName := ⟨RX11, "narrow", "([ILNightBook$Span;II)V"⟩
abbrev cX11_handOverMarks : ByteArray := prog_1_method_23_code
def yX11_handOverMarks : MethodName := ⟨RX11, "handOverMarks", "(II)I"⟩
abbrev cX11_law : ByteArray := prog_1_method_24_code
def yX11_law : MethodName := ⟨RX11, "law", "(III)I"⟩
abbrev cX11_kept : ByteArray := prog_1_method_25_code
def yX11_kept : MethodName := ⟨RX11, "kept", "(III)I"⟩
abbrev cX11_first : ByteArray := prog_1_method_26_code
def yX11_first : MethodName := ⟨RX11, "first", "(IIIZ)I"⟩
abbrev cX11_broken : ByteArray := prog_1_method_27_code
def yX11_broken : MethodName := ⟨RX11, "broken", "(I)I"⟩
abbrev cX11_free : ByteArray := prog_1_method_28_code
def yX11_free : MethodName := ⟨RX11, "free", "(IIII)I"⟩
abbrev cX11_trip : ByteArray := prog_1_method_29_code
def yX11_trip : MethodName := ⟨RX11, "trip", "(IIIII)I"⟩
abbrev cX11_newLaw : ByteArray := prog_1_method_30_code
def yX11_newLaw : MethodName := ⟨RX11, "newLaw", "(IIII)LNightBook$Window;"⟩
abbrev cX11_firstAtMost : ByteArray := prog_1_method_31_code
def yX11_firstAtMost : MethodName := ⟨RX11, "firstAtMost", "(ILNightBook$Window;[II)I"⟩
abbrev cX11_travel : ByteArray := prog_1_method_32_code
def yX11_travel : MethodName := ⟨RX11, "travel", "(IIII)I"⟩
abbrev cX11_landOfRest : ByteArray := prog_1_method_33_code
def yX11_landOfRest : MethodName := ⟨RX11, "landOfRest", "(II)I"⟩
abbrev cX11_takes : ByteArray := prog_1_method_34_code
def yX11_takes : MethodName := ⟨RX11, "takes", "(IIII)Z"⟩
abbrev cX11_change : ByteArray := prog_1_method_35_code
def yX11_change : MethodName := ⟨RX11, "change", "(III)V"⟩
abbrev cX11_areSurelyKept : ByteArray := prog_1_method_36_code
def yX11_areSurelyKept : MethodName := ⟨RX11, "areSurelyKept", "(II)Z"⟩
abbrev cX11_claim : ByteArray := prog_1_method_37_code
def yX11_claim : MethodName := ⟨RX11, "claim", "(II)I"⟩
abbrev cX11_claims : ByteArray := prog_1_method_38_code
def yX11_claims : MethodName := ⟨RX11, "claims", "(III)I"⟩
abbrev cX11_treaty : ByteArray := prog_1_method_39_code
def yX11_treaty : MethodName := ⟨RX11, "treaty", "(III)I"⟩
abbrev cX11_decides : ByteArray := prog_1_method_40_code
def yX11_decides : MethodName := ⟨RX11, "decides", "(IIII)I"⟩
abbrev cX11_taxed : ByteArray := prog_1_method_41_code
def yX11_taxed : MethodName := ⟨RX11, "taxed", "(II)I"⟩
abbrev cX11_quarrels : ByteArray := prog_1_method_42_code
def yX11_quarrels : MethodName := ⟨RX11, "quarrels", "()I"⟩
abbrev cX11_count : ByteArray := prog_1_method_43_code
def yX11_count : MethodName := ⟨RX11, "count", "(I)I"⟩
abbrev cX11_keep : ByteArray := prog_1_method_44_code
def yX11_keep : MethodName := ⟨RX11, "keep", "(III)I"⟩
abbrev cX11_make : ByteArray := prog_1_method_45_code
def yX11_make : MethodName := ⟨RX11, "make", "(III)I"⟩
abbrev cX11_element : ByteArray := prog_1_method_46_code
def yX11_element : MethodName := ⟨RX11, "element", "(II)J"⟩
abbrev cX11_copy : ByteArray := prog_1_method_47_code
def yX11_copy : MethodName := ⟨RX11, "copy", "(IIIII)I"⟩
abbrev cX11_weight : ByteArray := prog_1_method_48_code
def yX11_weight : MethodName := ⟨RX11, "weight", "(I)I"⟩
abbrev cX11_toss : ByteArray := prog_1_method_49_code
def yX11_toss : MethodName := ⟨RX11, "toss", "(I)I"⟩
abbrev cX11_rowOn : ByteArray := prog_1_method_50_code
def yX11_rowOn : MethodName := ⟨RX11, "rowOn", "(I)LNightBook$Row;"⟩
abbrev cX11_sumYear : ByteArray := prog_1_method_51_code
def yX11_sumYear : MethodName := ⟨RX11, "sumYear", "(III)V"⟩
abbrev cX11_areTests : ByteArray := prog_1_method_52_code
def yX11_areTests : MethodName := ⟨RX11, "areTests", "(I)Z"⟩
abbrev cX11_testAt : ByteArray := prog_1_method_53_code
def yX11_testAt : MethodName := ⟨RX11, "testAt", "(II)I"⟩
abbrev cX11_pairOf : ByteArray := prog_1_method_54_code
def yX11_pairOf : MethodName := ⟨RX11, "pairOf", "(II)I"⟩
abbrev cX11_decidedFor : ByteArray := prog_1_method_55_code
def yX11_decidedFor : MethodName := ⟨RX11, "decidedFor", "(III)I"⟩
abbrev cX11_winnerBy : ByteArray := prog_1_method_56_code
def yX11_winnerBy : MethodName := ⟨RX11, "winnerBy", "(IIII)I"⟩
abbrev cX11_oneOfTwo : ByteArray := prog_1_method_57_code
def yX11_oneOfTwo : MethodName := ⟨RX11, "oneOfTwo", "(III)I"⟩
abbrev cX11_winnerByNights : ByteArray := prog_1_method_58_code
def yX11_winnerByNights : MethodName := ⟨RX11, "winnerByNights", "(II)I"⟩
abbrev cX11_taxingLand : ByteArray := prog_1_method_59_code
def yX11_taxingLand : MethodName := ⟨RX11, "taxingLand", "(II)I"⟩
abbrev cX11_prevails : ByteArray := prog_1_method_60_code
def yX11_prevails : MethodName := ⟨RX11, "prevails", "(III)Z"⟩
abbrev cX11_droppedMarks : ByteArray := prog_1_method_61_code
def yX11_droppedMarks : MethodName := ⟨RX11, "droppedMarks", "()I"⟩
abbrev cX11_joinedPeople : ByteArray := prog_1_method_62_code
def yX11_joinedPeople : MethodName := ⟨RX11, "joinedPeople", "()I"⟩
abbrev cX11_wanted : ByteArray := prog_1_method_63_code
def yX11_wanted : MethodName := ⟨RX11, "wanted", "(II)LNightBook$Held;"⟩
abbrev cX11_rowOfCans : ByteArray := prog_1_method_64_code
def yX11_rowOfCans : MethodName := ⟨RX11, "rowOfCans", "(I)LNightBook$Row;"⟩
abbrev cX11_rowOfMost : ByteArray := prog_1_method_65_code
def yX11_rowOfMost : MethodName := ⟨RX11, "rowOfMost", "(I)LNightBook$Row;"⟩
def RX12 : String := "NightBookModel"
def TX12 : u_T := fun k => match k with
  | 0 => ("NightBookModel", "thrown", "I", false)
  | 1 => ("NightBookModel", "people", "I", false)
  | 2 => ("NightBookModel", "home", "[I", true)
  | 3 => ("NightBookModel", "passport", "[I", true)
  | 4 => ("NightBookModel", "joined", "[Z", true)
  | 5 => ("NightBookModel", "marks", "I", false)
  | 6 => ("NightBookModel", "markKind", "[I", true)
  | 7 => ("NightBookModel", "markOf", "[I", true)
  | 8 => ("NightBookModel", "markFrom", "[I", true)
  | 9 => ("NightBookModel", "markTo", "[I", true)
  | 10 => ("NightBookModel", "markLands", "[I", true)
  | 11 => ("NightBookModel", "dropped", "[Z", true)
  | 12 => ("NightBookModel", "cans", "[I", true)
  | 13 => ("NightBookModel", "least", "[I", true)
  | 14 => ("NightBookModel", "most", "[I", true)
  | 15 => ("NightBookModel", "came", "[Z", true)
  | 16 => ("NightBookModel", "laws", "I", false)
  | 17 => ("NightBookModel", "lawKind", "[I", true)
  | 18 => ("NightBookModel", "lawLand", "[I", true)
  | 19 => ("NightBookModel", "lawN", "[I", true)
  | 20 => ("NightBookModel", "lawW", "[I", true)
  | 21 => ("NightBookModel", "taken", "[Z", true)
  | 22 => ("NightBookModel", "claimNights", "[I", true)
  | 23 => ("NightBookModel", "treaties", "[I", true)
  | 24 => ("NightBookModel", "held", "[I", true)
  | 25 => ("NightBookModel", "heldNumber", "[I", true)
  | 26 => ("NightBookModel", "rowSize", "[I", true)
  | _ => ("NightBookModel", "rows", "[I", true)
def tyX12 : Nat → FieldType := fun k => match k with
  | 0 => .int
  | 1 => .int
  | 2 => .array .int
  | 3 => .array .int
  | 4 => .array .boolean
  | 5 => .int
  | 6 => .array .int
  | 7 => .array .int
  | 8 => .array .int
  | 9 => .array .int
  | 10 => .array .int
  | 11 => .array .boolean
  | 12 => .array .int
  | 13 => .array .int
  | 14 => .array .int
  | 15 => .array .boolean
  | 16 => .int
  | 17 => .array .int
  | 18 => .array .int
  | 19 => .array .int
  | 20 => .array .int
  | 21 => .array .boolean
  | 22 => .array .int
  | 23 => .array .int
  | 24 => .array .int
  | 25 => .array .int
  | 26 => .array .int
  | _ => .array .int
abbrev wsX120 : List Cond := u_ws RX12 TX12 28
theorem nmX12 : ∀ a, a < 28 → ∀ b, b < 28 → a ≠ b → (TX12 a).2.1 ≠ (TX12 b).2.1 := by decide +kernel
theorem tyX12_ok : ∀ k, k < 28 → parseFieldDescriptor (TX12 k).2.2.1 = some (tyX12 k) := by decide +kernel
abbrev cX12_init : ByteArray := prog_14_method_1_code
def yX12_init : MethodName := ⟨RX12, "<init>", "()V"⟩
abbrev cX12_thrown : ByteArray := prog_14_method_2_code
def yX12_thrown : MethodName := ⟨RX12, "thrown", "()I"⟩
abbrev cX12_in : ByteArray := prog_14_method_3_code
def yX12_in : MethodName := ⟨RX12, "in", "(III)Z"⟩
abbrev cX12_isLand : ByteArray := prog_14_method_4_code
def yX12_isLand : MethodName := ⟨RX12, "isLand", "(I)Z"⟩
abbrev cX12_isDay : ByteArray := prog_14_method_5_code
def yX12_isDay : MethodName := ⟨RX12, "isDay", "(I)Z"⟩
abbrev cX12_isPerson : ByteArray := prog_14_method_6_code
def yX12_isPerson : MethodName := ⟨RX12, "isPerson", "(I)Z"⟩
abbrev cX12_isMark : ByteArray := prog_14_method_7_code
def yX12_isMark : MethodName := ⟨RX12, "isMark", "(I)Z"⟩
abbrev cX12_person : ByteArray := prog_14_method_8_code
def yX12_person : MethodName := ⟨RX12, "person", "(II)I"⟩
abbrev cX12_tells : ByteArray := prog_14_method_9_code
def yX12_tells : MethodName := ⟨RX12, "tells", "(III)Z"⟩
abbrev cX12_canOf : ByteArray := prog_14_method_10_code
def yX12_canOf : MethodName := ⟨RX12, "canOf", "(II)I"⟩
abbrev cX12_isWhole : ByteArray := prog_14_method_11_code
def yX12_isWhole : MethodName := ⟨RX12, "isWhole", "(I)Z"⟩
abbrev cX12_comes : ByteArray := prog_14_method_12_code
def yX12_comes : MethodName := ⟨RX12, "comes", "(IIIII)I"⟩
abbrev cX12_isSpan : ByteArray := prog_14_method_13_code
def yX12_isSpan : MethodName := ⟨RX12, "isSpan", "(II)Z"⟩
abbrev cX12_span : ByteArray := prog_14_method_14_code
def yX12_span : MethodName := ⟨RX12, "span", "(IIII)I"⟩
abbrev cX12_slept : ByteArray := prog_14_method_15_code
def yX12_slept : MethodName := ⟨RX12, "slept", "(IIIZ)I"⟩
abbrev cX12_stamp : ByteArray := prog_14_method_16_code
def yX12_stamp : MethodName := ⟨RX12, "stamp", "(IIII)I"⟩
abbrev cX12_drop : ByteArray := prog_14_method_17_code
def yX12_drop : MethodName := ⟨RX12, "drop", "(IZ)I"⟩
abbrev cX12_mark : ByteArray := prog_14_method_18_code
def yX12_mark : MethodName := ⟨RX12, "mark", "(II)I"⟩
abbrev cX12_can : ByteArray := prog_14_method_19_code
def yX12_can : MethodName := ⟨RX12, "can", "(II)I"⟩
abbrev cX12_addLand : ByteArray := prog_14_method_20_code
def yX12_addLand : MethodName := ⟨RX12, "addLand", "(I)V"⟩
abbrev cX12_add : ByteArray := prog_14_method_21_code
def yX12_add : MethodName := ⟨RX12, "add", "()V"⟩
abbrev cX12_lay : ByteArray := prog_14_method_22_code
def yX12_lay : MethodName := ⟨RX12, "lay", "(I)V"⟩
abbrev cX12_leastOf : ByteArray := prog_14_method_23_code
def yX12_leastOf : MethodName := ⟨RX12, "leastOf", "(III)I"⟩
abbrev cX12_mostOf : ByteArray := prog_14_method_24_code
def yX12_mostOf : MethodName := ⟨RX12, "mostOf", "(III)I"⟩
abbrev cX12_nights : ByteArray := prog_14_method_25_code
def yX12_nights : MethodName := ⟨RX12, "nights", "(IIIIZ)I"⟩
abbrev cX12_sure : ByteArray := prog_14_method_26_code
def yX12_sure : MethodName := ⟨RX12, "sure", "(III)I"⟩
abbrev cX12_join : ByteArray := prog_14_method_27_code
def yX12_join : MethodName := ⟨RX12, "join", "(II)I"⟩
abbrev cX12_isLaw : ByteArray := prog_14_method_28_code
def yX12_isLaw : MethodName := ⟨RX12, "isLaw", "(I)Z"⟩
abbrev cX12_law : ByteArray := prog_14_method_29_code
def yX12_law : MethodName := ⟨RX12, "law", "(III)I"⟩
abbrev cX12_keptOn : ByteArray := prog_14_method_30_code
def yX12_keptOn : MethodName := ⟨RX12, "keptOn", "(II)I"⟩
abbrev cX12_kept : ByteArray := prog_14_method_31_code
def yX12_kept : MethodName := ⟨RX12, "kept", "(III)I"⟩
abbrev cX12_first : ByteArray := prog_14_method_32_code
def yX12_first : MethodName := ⟨RX12, "first", "(IIIZ)I"⟩
abbrev cX12_broken : ByteArray := prog_14_method_33_code
def yX12_broken : MethodName := ⟨RX12, "broken", "(I)I"⟩
abbrev cX12_allKept : ByteArray := prog_14_method_34_code
def yX12_allKept : MethodName := ⟨RX12, "allKept", "(II)Z"⟩
abbrev cX12_travel : ByteArray := prog_14_method_35_code
def yX12_travel : MethodName := ⟨RX12, "travel", "(IIII)I"⟩
abbrev cX12_free : ByteArray := prog_14_method_36_code
def yX12_free : MethodName := ⟨RX12, "free", "(IIII)I"⟩
abbrev cX12_trip : ByteArray := prog_14_method_37_code
def yX12_trip : MethodName := ⟨RX12, "trip", "(IIIII)I"⟩
abbrev cX12_claim : ByteArray := prog_14_method_38_code
def yX12_claim : MethodName := ⟨RX12, "claim", "(II)I"⟩
abbrev cX12_claimsOf : ByteArray := prog_14_method_39_code
def yX12_claimsOf : MethodName := ⟨RX12, "claimsOf", "(II)I"⟩
abbrev cX12_isYear : ByteArray := prog_14_method_40_code
def yX12_isYear : MethodName := ⟨RX12, "isYear", "(I)Z"⟩
abbrev cX12_claims : ByteArray := prog_14_method_41_code
def yX12_claims : MethodName := ⟨RX12, "claims", "(III)I"⟩
abbrev cX12_pair : ByteArray := prog_14_method_42_code
def yX12_pair : MethodName := ⟨RX12, "pair", "(II)I"⟩
abbrev cX12_areTests : ByteArray := prog_14_method_43_code
def yX12_areTests : MethodName := ⟨RX12, "areTests", "(I)Z"⟩
abbrev cX12_treaty : ByteArray := prog_14_method_44_code
def yX12_treaty : MethodName := ⟨RX12, "treaty", "(III)I"⟩
abbrev cX12_decided : ByteArray := prog_14_method_45_code
def yX12_decided : MethodName := ⟨RX12, "decided", "(IIII)I"⟩
abbrev cX12_decides : ByteArray := prog_14_method_46_code
def yX12_decides : MethodName := ⟨RX12, "decides", "(IIII)I"⟩
abbrev cX12_taxedOf : ByteArray := prog_14_method_47_code
def yX12_taxedOf : MethodName := ⟨RX12, "taxedOf", "(II)I"⟩
abbrev cX12_taxed : ByteArray := prog_14_method_48_code
def yX12_taxed : MethodName := ⟨RX12, "taxed", "(II)I"⟩
abbrev cX12_quarrels : ByteArray := prog_14_method_49_code
def yX12_quarrels : MethodName := ⟨RX12, "quarrels", "()I"⟩
abbrev cX12_count : ByteArray := prog_14_method_50_code
def yX12_count : MethodName := ⟨RX12, "count", "(I)I"⟩
abbrev cX12_isShelf : ByteArray := prog_14_method_51_code
def yX12_isShelf : MethodName := ⟨RX12, "isShelf", "(I)Z"⟩
abbrev cX12_isThing : ByteArray := prog_14_method_52_code
def yX12_isThing : MethodName := ⟨RX12, "isThing", "(II)Z"⟩
abbrev cX12_keep : ByteArray := prog_14_method_53_code
def yX12_keep : MethodName := ⟨RX12, "keep", "(III)I"⟩
abbrev cX12_make : ByteArray := prog_14_method_54_code
def yX12_make : MethodName := ⟨RX12, "make", "(III)I"⟩
abbrev cX12_element : ByteArray := prog_14_method_55_code
def yX12_element : MethodName := ⟨RX12, "element", "(II)J"⟩
abbrev cX12_copy : ByteArray := prog_14_method_56_code
def yX12_copy : MethodName := ⟨RX12, "copy", "(IIIII)I"⟩
abbrev cX12_lawWeight : ByteArray := prog_14_method_57_code
def yX12_lawWeight : MethodName := ⟨RX12, "lawWeight", "(I)I"⟩
abbrev cX12_markWeight : ByteArray := prog_14_method_58_code
def yX12_markWeight : MethodName := ⟨RX12, "markWeight", "(I)I"⟩
abbrev cX12_noThing : ByteArray := prog_14_method_59_code
def yX12_noThing : MethodName := ⟨RX12, "noThing", "(I)I"⟩
abbrev cX12_weight : ByteArray := prog_14_method_60_code
def yX12_weight : MethodName := ⟨RX12, "weight", "(I)I"⟩
abbrev cX12_toss : ByteArray := prog_14_method_61_code
def yX12_toss : MethodName := ⟨RX12, "toss", "(I)I"⟩
def RJ5 : String := "java/lang/AbstractStringBuilder"
def TJ5 : u_T := fun k => match k with
  | _ => ("", "", "", false)
def tyJ5 : Nat → FieldType := fun k => match k with
  | _ => .int
abbrev wsJ50 : List Cond := u_ws RJ5 TJ5 0
theorem nmJ5 : ∀ a, a < 0 → ∀ b, b < 0 → a ≠ b → (TJ5 a).2.1 ≠ (TJ5 b).2.1 := by decide +kernel
theorem tyJ5_ok : ∀ k, k < 0 → parseFieldDescriptor (TJ5 k).2.2.1 = some (tyJ5 k) := by decide +kernel
abbrev cJ5_init_d00df : ByteArray := prog_15_method_2_code
def yJ5_init_d00df : MethodName := ⟨RJ5, "<init>", "(I)V"⟩
abbrev cJ5_length_8abf5 : ByteArray := prog_15_method_6_code
def yJ5_length_8abf5 : MethodName := ⟨RJ5, "length", "()I"⟩
abbrev cJ5_ensureCapacityInternal_d00df : ByteArray := prog_15_method_9_code
def yJ5_ensureCapacityInternal_d00df : MethodName := ⟨RJ5, "ensureCapacityInternal", "(I)V"⟩
abbrev cJ5_newCapacity_0f7a4 : ByteArray := prog_15_method_10_code
def yJ5_newCapacity_0f7a4 : MethodName := ⟨RJ5, "newCapacity", "(I)I"⟩
abbrev cJ5_inflate_da8c8 : ByteArray := prog_15_method_11_code
def yJ5_inflate_da8c8 : MethodName := ⟨RJ5, "inflate", "()V"⟩
abbrev cJ5_append_cf1ce : ByteArray := prog_15_method_22_code
def yJ5_append_cf1ce : MethodName := ⟨RJ5, "append", "(Ljava/lang/String;)Ljava/lang/AbstractStringBuilder;"⟩
abbrev cJ5_appendNull_278bc : ByteArray := prog_15_method_26_code
def yJ5_appendNull_278bc : MethodName := ⟨RJ5, "appendNull", "()Ljava/lang/AbstractStringBuilder;"⟩
abbrev cJ5_append_c97b9 : ByteArray := prog_15_method_32_code
def yJ5_append_c97b9 : MethodName := ⟨RJ5, "append", "(I)Ljava/lang/AbstractStringBuilder;"⟩
abbrev cJ5_getValue_6d5f1 : ByteArray := prog_15_method_64_code
def yJ5_getValue_6d5f1 : MethodName := ⟨RJ5, "getValue", "()[B"⟩
abbrev cJ5_isLatin1_aae02 : ByteArray := prog_15_method_68_code
def yJ5_isLatin1_aae02 : MethodName := ⟨RJ5, "isLatin1", "()Z"⟩
abbrev cJ5_inflateIfNeededFor_a7421 : ByteArray := prog_15_method_71_code
def yJ5_inflateIfNeededFor_a7421 : MethodName := ⟨RJ5, "inflateIfNeededFor", "(Ljava/lang/String;)V"⟩
abbrev cJ5_putStringAt_47b60 : ByteArray := prog_15_method_73_code
def yJ5_putStringAt_47b60 : MethodName := ⟨RJ5, "putStringAt", "(ILjava/lang/String;)V"⟩
def RJx8e188 : String := "java/lang/Cloneable"
def TJx8e188 : u_T := fun k => match k with
  | _ => ("", "", "", false)
def tyJx8e188 : Nat → FieldType := fun k => match k with
  | _ => .int
abbrev wsJx8e1880 : List Cond := u_ws RJx8e188 TJx8e188 0
theorem nmJx8e188 : ∀ a, a < 0 → ∀ b, b < 0 → a ≠ b → (TJx8e188 a).2.1 ≠ (TJx8e188 b).2.1 := by decide +kernel
theorem tyJx8e188_ok : ∀ k, k < 0 → parseFieldDescriptor (TJx8e188 k).2.2.1 = some (tyJx8e188 k) := by decide +kernel
def RJ6 : String := "java/lang/Integer"
def TJ6 : u_T := fun k => match k with
  | _ => ("", "", "", false)
def tyJ6 : Nat → FieldType := fun k => match k with
  | _ => .int
abbrev wsJ60 : List Cond := u_ws RJ6 TJ6 0
theorem nmJ6 : ∀ a, a < 0 → ∀ b, b < 0 → a ≠ b → (TJ6 a).2.1 ≠ (TJ6 b).2.1 := by decide +kernel
theorem tyJ6_ok : ∀ k, k < 0 → parseFieldDescriptor (TJ6 k).2.2.1 = some (tyJ6 k) := by decide +kernel
abbrev cJ6_getChars_ba4f3 : ByteArray := prog_20_method_12_code
def yJ6_getChars_ba4f3 : MethodName := ⟨RJ6, "getChars", "(II[B)I"⟩
abbrev cJ6_stringSize_0f7a4 : ByteArray := prog_20_method_13_code
def yJ6_stringSize_0f7a4 : MethodName := ⟨RJ6, "stringSize", "(I)I"⟩
abbrev cJ6_bitCount_0f7a4 : ByteArray := prog_20_method_49_code
def yJ6_bitCount_0f7a4 : MethodName := ⟨RJ6, "bitCount", "(I)I"⟩
def RJ9 : String := "java/lang/Math"
def TJ9 : u_T := fun k => match k with
  | _ => ("", "", "", false)
def tyJ9 : Nat → FieldType := fun k => match k with
  | _ => .int
abbrev wsJ90 : List Cond := u_ws RJ9 TJ9 0
theorem nmJ9 : ∀ a, a < 0 → ∀ b, b < 0 → a ≠ b → (TJ9 a).2.1 ≠ (TJ9 b).2.1 := by decide +kernel
theorem tyJ9_ok : ∀ k, k < 0 → parseFieldDescriptor (TJ9 k).2.2.1 = some (tyJ9 k) := by decide +kernel
abbrev cJ9_max_7cf53 : ByteArray := prog_21_method_65_code
def yJ9_max_7cf53 : MethodName := ⟨RJ9, "max", "(II)I"⟩
abbrev cJ9_min_7cf53 : ByteArray := prog_21_method_69_code
def yJ9_min_7cf53 : MethodName := ⟨RJ9, "min", "(II)I"⟩
def RJ0 : String := "java/lang/String"
def TJ0 : u_T := fun k => match k with
  | 0 => ("java/lang/String", "value", "[B", true)
  | 1 => ("java/lang/String", "coder", "B", true)
  | 2 => ("java/lang/String", "hash", "I", false)
  | _ => ("java/lang/String", "hashIsZero", "Z", false)
def tyJ0 : Nat → FieldType := fun k => match k with
  | 0 => .array .byte
  | 1 => .byte
  | 2 => .int
  | _ => .boolean
abbrev wsJ00 : List Cond := u_ws RJ0 TJ0 4
theorem nmJ0 : ∀ a, a < 4 → ∀ b, b < 4 → a ≠ b → (TJ0 a).2.1 ≠ (TJ0 b).2.1 := by decide +kernel
theorem tyJ0_ok : ∀ k, k < 4 → parseFieldDescriptor (TJ0 k).2.2.1 = some (tyJ0 k) := by decide +kernel
abbrev cJ0_init_81219 : ByteArray := prog_23_method_53_code
def yJ0_init_81219 : MethodName := ⟨RJ0, "<init>", "(Ljava/lang/StringBuilder;)V"⟩
abbrev cJ0_length_8abf5 : ByteArray := prog_23_method_54_code
def yJ0_length_8abf5 : MethodName := ⟨RJ0, "length", "()I"⟩
abbrev cJ0_getBytes_840e7 : ByteArray := prog_23_method_147_code
def yJ0_getBytes_840e7 : MethodName := ⟨RJ0, "getBytes", "([BIB)V"⟩
abbrev cJ0_init_db425 : ByteArray := prog_23_method_150_code
def yJ0_init_db425 : MethodName := ⟨RJ0, "<init>", "(Ljava/lang/AbstractStringBuilder;Ljava/lang/Void;)V"⟩
abbrev cJ0_coder_7d493 : ByteArray := prog_23_method_152_code
def yJ0_coder_7d493 : MethodName := ⟨RJ0, "coder", "()B"⟩
abbrev cJ0_checkBoundsOffCount_cabcc : ByteArray := prog_23_method_157_code
def yJ0_checkBoundsOffCount_cabcc : MethodName := ⟨RJ0, "checkBoundsOffCount", "(III)I"⟩
abbrev cJ0_checkBoundsBeginEnd_23922 : ByteArray := prog_23_method_158_code
def yJ0_checkBoundsBeginEnd_23922 : MethodName := ⟨RJ0, "checkBoundsBeginEnd", "(III)V"⟩
def RJ4 : String := "java/lang/StringBuilder"
def TJ4 : u_T := fun k => match k with
  | 0 => ("java/lang/AbstractStringBuilder", "value", "[B", false)
  | 1 => ("java/lang/AbstractStringBuilder", "coder", "B", false)
  | 2 => ("java/lang/AbstractStringBuilder", "maybeLatin1", "Z", false)
  | _ => ("java/lang/AbstractStringBuilder", "count", "I", false)
def tyJ4 : Nat → FieldType := fun k => match k with
  | 0 => .array .byte
  | 1 => .byte
  | 2 => .boolean
  | _ => .int
abbrev wsJ40 : List Cond := u_ws RJ4 TJ4 4
theorem nmJ4 : ∀ a, a < 4 → ∀ b, b < 4 → a ≠ b → (TJ4 a).2.1 ≠ (TJ4 b).2.1 := by decide +kernel
theorem tyJ4_ok : ∀ k, k < 4 → parseFieldDescriptor (TJ4 k).2.2.1 = some (tyJ4 k) := by decide +kernel
abbrev cJ4_init_da8c8 : ByteArray := prog_24_method_1_code
def yJ4_init_da8c8 : MethodName := ⟨RJ4, "<init>", "()V"⟩
abbrev cJ4_append_15ec4 : ByteArray := prog_24_method_7_code
def yJ4_append_15ec4 : MethodName := ⟨RJ4, "append", "(Ljava/lang/String;)Ljava/lang/StringBuilder;"⟩
abbrev cJ4_append_bf812 : ByteArray := prog_24_method_15_code
def yJ4_append_bf812 : MethodName := ⟨RJ4, "append", "(I)Ljava/lang/StringBuilder;"⟩
abbrev cJ4_toString_0e30d : ByteArray := prog_24_method_42_code
def yJ4_toString_0e30d : MethodName := ⟨RJ4, "toString", "()Ljava/lang/String;"⟩
abbrev cJ4_length_8abf5 : ByteArray := prog_24_method_93_code
def yJ4_length_8abf5 : MethodName := ⟨RJ4, "length", "()I"⟩
def RJ1 : String := "java/lang/StringLatin1"
def TJ1 : u_T := fun k => match k with
  | _ => ("", "", "", false)
def tyJ1 : Nat → FieldType := fun k => match k with
  | _ => .int
abbrev wsJ10 : List Cond := u_ws RJ1 TJ1 0
theorem nmJ1 : ∀ a, a < 0 → ∀ b, b < 0 → a ≠ b → (TJ1 a).2.1 ≠ (TJ1 b).2.1 := by decide +kernel
theorem tyJ1_ok : ∀ k, k < 0 → parseFieldDescriptor (TJ1 k).2.2.1 = some (tyJ1 k) := by decide +kernel
abbrev cJ1_inflate_0e8fd : ByteArray := prog_25_method_50_code
def yJ1_inflate_0e8fd : MethodName := ⟨RJ1, "inflate", "([BI[BII)V"⟩
def RJ2 : String := "java/lang/StringUTF16"
def TJ2 : u_T := fun k => match k with
  | _ => ("", "", "", false)
def tyJ2 : Nat → FieldType := fun k => match k with
  | _ => .int
abbrev wsJ20 : List Cond := u_ws RJ2 TJ2 0
theorem nmJ2 : ∀ a, a < 0 → ∀ b, b < 0 → a ≠ b → (TJ2 a).2.1 ≠ (TJ2 b).2.1 := by decide +kernel
theorem tyJ2_ok : ∀ k, k < 0 → parseFieldDescriptor (TJ2 k).2.2.1 = some (tyJ2 k) := by decide +kernel
abbrev cJ2_newBytesFor_77867 : ByteArray := prog_26_method_2_code
def yJ2_newBytesFor_77867 : MethodName := ⟨RJ2, "newBytesFor", "(I)[B"⟩
abbrev cJ2_newBytesLength_0f7a4 : ByteArray := prog_26_method_3_code
def yJ2_newBytesLength_0f7a4 : MethodName := ⟨RJ2, "newBytesLength", "(I)I"⟩
abbrev cJ2_putChar_b72d1 : ByteArray := prog_26_method_4_code
def yJ2_putChar_b72d1 : MethodName := ⟨RJ2, "putChar", "([BII)V"⟩
abbrev cJ2_getChar_3b067 : ByteArray := prog_26_method_5_code
def yJ2_getChar_3b067 : MethodName := ⟨RJ2, "getChar", "([BI)C"⟩
abbrev cJ2_length_9d52b : ByteArray := prog_26_method_6_code
def yJ2_length_9d52b : MethodName := ⟨RJ2, "length", "([B)I"⟩
abbrev cJ2_coderFromArrayLen_85cad : ByteArray := prog_26_method_15_code
def yJ2_coderFromArrayLen_85cad : MethodName := ⟨RJ2, "coderFromArrayLen", "([BI)B"⟩
abbrev cJ2_compress_39247 : ByteArray := prog_26_method_17_code
def yJ2_compress_39247 : MethodName := ⟨RJ2, "compress", "([BII)[B"⟩
abbrev cJ2_compress_5af95 : ByteArray := prog_26_method_22_code
def yJ2_compress_5af95 : MethodName := ⟨RJ2, "compress", "([BI[BII)I"⟩
abbrev cJ2_getChars_46870 : ByteArray := prog_26_method_77_code
def yJ2_getChars_46870 : MethodName := ⟨RJ2, "getChars", "(III[B)I"⟩
abbrev cJ2_putCharsAt_cd4e5 : ByteArray := prog_26_method_81_code
def yJ2_putCharsAt_cd4e5 : MethodName := ⟨RJ2, "putCharsAt", "([BICCCC)I"⟩
abbrev cJ2_inflate_0e8fd : ByteArray := prog_26_method_86_code
def yJ2_inflate_0e8fd : MethodName := ⟨RJ2, "inflate", "([BI[BII)V"⟩
abbrev cJ2_getChars_ba4f3 : ByteArray := prog_26_method_89_code
def yJ2_getChars_ba4f3 : MethodName := ⟨RJ2, "getChars", "(II[B)I"⟩
abbrev cJ2_checkBoundsBeginEnd_d044e : ByteArray := prog_26_method_93_code
def yJ2_checkBoundsBeginEnd_d044e : MethodName := ⟨RJ2, "checkBoundsBeginEnd", "(II[B)V"⟩
abbrev cJ2_checkBoundsOffCount_d044e : ByteArray := prog_26_method_94_code
def yJ2_checkBoundsOffCount_d044e : MethodName := ⟨RJ2, "checkBoundsOffCount", "(II[B)V"⟩
def RJ10 : String := "java/lang/System"
def TJ10 : u_T := fun k => match k with
  | _ => ("", "", "", false)
def tyJ10 : Nat → FieldType := fun k => match k with
  | _ => .int
abbrev wsJ100 : List Cond := u_ws RJ10 TJ10 0
theorem nmJ10 : ∀ a, a < 0 → ∀ b, b < 0 → a ≠ b → (TJ10 a).2.1 ≠ (TJ10 b).2.1 := by decide +kernel
theorem tyJ10_ok : ∀ k, k < 0 → parseFieldDescriptor (TJ10 k).2.2.1 = some (tyJ10 k) := by decide +kernel
def RJ7 : String := "java/util/Arrays"
def TJ7 : u_T := fun k => match k with
  | _ => ("", "", "", false)
def tyJ7 : Nat → FieldType := fun k => match k with
  | _ => .int
abbrev wsJ70 : List Cond := u_ws RJ7 TJ7 0
theorem nmJ7 : ∀ a, a < 0 → ∀ b, b < 0 → a ≠ b → (TJ7 a).2.1 ≠ (TJ7 b).2.1 := by decide +kernel
theorem tyJ7_ok : ∀ k, k < 0 → parseFieldDescriptor (TJ7 k).2.2.1 = some (tyJ7 k) := by decide +kernel
abbrev cJ7_rangeCheck_23922 : ByteArray := prog_29_method_30_code
def yJ7_rangeCheck_23922 : MethodName := ⟨RJ7, "rangeCheck", "(III)V"⟩
abbrev cJ7_fill_53178 : ByteArray := prog_29_method_103_code
def yJ7_fill_53178 : MethodName := ⟨RJ7, "fill", "([II)V"⟩
abbrev cJ7_fill_fda19 : ByteArray := prog_29_method_104_code
def yJ7_fill_fda19 : MethodName := ⟨RJ7, "fill", "([IIII)V"⟩
abbrev cJ7_copyOf_9075b : ByteArray := prog_29_method_121_code
def yJ7_copyOf_9075b : MethodName := ⟨RJ7, "copyOf", "([BI)[B"⟩
abbrev cJ7_checkLength_df160 : ByteArray := prog_29_method_131_code
def yJ7_checkLength_df160 : MethodName := ⟨RJ7, "checkLength", "(II)V"⟩
abbrev cJ7_copyOfRange_39247 : ByteArray := prog_29_method_132_code
def yJ7_copyOfRange_39247 : MethodName := ⟨RJ7, "copyOfRange", "([BII)[B"⟩
abbrev cJ7_copyOfRangeByte_39247 : ByteArray := prog_29_method_133_code
def yJ7_copyOfRangeByte_39247 : MethodName := ⟨RJ7, "copyOfRangeByte", "([BII)[B"⟩
def RJ8 : String := "jdk/internal/util/ArraysSupport"
def TJ8 : u_T := fun k => match k with
  | _ => ("", "", "", false)
def tyJ8 : Nat → FieldType := fun k => match k with
  | _ => .int
abbrev wsJ80 : List Cond := u_ws RJ8 TJ8 0
theorem nmJ8 : ∀ a, a < 0 → ∀ b, b < 0 → a ≠ b → (TJ8 a).2.1 ≠ (TJ8 b).2.1 := by decide +kernel
theorem tyJ8_ok : ∀ k, k < 0 → parseFieldDescriptor (TJ8 k).2.2.1 = some (tyJ8 k) := by decide +kernel
abbrev cJ8_newLength_cabcc : ByteArray := prog_30_method_27_code
def yJ8_newLength_cabcc : MethodName := ⟨RJ8, "newLength", "(III)I"⟩
abbrev cJ8_hugeLength_7cf53 : ByteArray := prog_30_method_28_code
def yJ8_hugeLength_7cf53 : MethodName := ⟨RJ8, "hugeLength", "(II)I"⟩
def RJ3 : String := "jdk/internal/util/Preconditions"
def TJ3 : u_T := fun k => match k with
  | _ => ("", "", "", false)
def tyJ3 : Nat → FieldType := fun k => match k with
  | _ => .int
abbrev wsJ30 : List Cond := u_ws RJ3 TJ3 0
theorem nmJ3 : ∀ a, a < 0 → ∀ b, b < 0 → a ≠ b → (TJ3 a).2.1 ≠ (TJ3 b).2.1 := by decide +kernel
theorem tyJ3_ok : ∀ k, k < 0 → parseFieldDescriptor (TJ3 k).2.2.1 = some (tyJ3 k) := by decide +kernel
abbrev cJ3_checkFromToIndex_8c36e : ByteArray := prog_31_method_12_code
def yJ3_checkFromToIndex_8c36e : MethodName := ⟨RJ3, "checkFromToIndex", "(IIILjava/util/function/BiFunction;)I"⟩
abbrev cJ3_checkFromIndexSize_8c36e : ByteArray := prog_31_method_13_code
def yJ3_checkFromIndexSize_8c36e : MethodName := ⟨RJ3, "checkFromIndexSize", "(IIILjava/util/function/BiFunction;)I"⟩
def RL : String := "NightBookLaw"
abbrev cL_element : ByteArray := method_3_code
def yL_element : MethodName := ⟨RL, "element", "(LNightBook;II[J)I"⟩
abbrev cL_law : ByteArray := code
def yL_law : MethodName := ⟨RL, "law", "([I)Z"⟩
def wsX2_init : List Cond := .code yX2_init cX2_init 1 none :: ([.methodLink RX2 3 objectInit, .instanceMethod objectInit, .code objectInit ⟨#[0xb1]⟩ 1 none])
def wsX8_init : List Cond := .code yX8_init cX8_init 2 none :: ([.methodLink RX8 1 objectInit, .instanceMethod objectInit, .code objectInit ⟨#[0xb1]⟩ 1 none, .fieldLink RX8 7 "NightBook$Tally" "land" "I"] ++ wsX80)
def wsX9_init : List Cond := .code yX9_init cX9_init 4 none :: ([.fieldLink RX9 9 "NightBook$Window" "land" "I", .fieldLink RX9 15 "NightBook$Window" "n" "I", .fieldLink RX9 18 "NightBook$Window" "reach" "I", .classLink RX9 21 RX8, .instantiable RX8 3, .initialized RX8, .fieldLink RX9 26 "NightBook$Window" "here" "LNightBook$Tally;", .fieldLink RX9 30 "NightBook$Window" "end" "LNightBook$Tally;", .instanceMethod yX2_init, .initialized RX2, .code yX2_init cX2_init 1 none, .methodLink RX2 3 objectInit, .instanceMethod objectInit, .code objectInit ⟨#[0xb1]⟩ 1 none, .methodLink RX9 23 yX8_init, .instanceMethod yX8_init, .code yX8_init cX8_init 2 none, .methodLink RX8 1 objectInit, .fieldLink RX8 7 "NightBook$Tally" "land" "I"] ++ wsX00 ++ wsX30 ++ wsX70 ++ wsX90 ++ wsX80)
def wsX7_init : List Cond := .code yX7_init cX7_init 3 none :: ([.methodLink RX7 3 yX9_init, .instanceMethod yX9_init, .initialized RX9, .code yX9_init cX9_init 4 none, .fieldLink RX9 9 "NightBook$Window" "land" "I", .fieldLink RX9 15 "NightBook$Window" "n" "I", .fieldLink RX9 18 "NightBook$Window" "reach" "I", .classLink RX9 21 RX8, .instantiable RX8 3, .initialized RX8, .fieldLink RX9 26 "NightBook$Window" "here" "LNightBook$Tally;", .fieldLink RX9 30 "NightBook$Window" "end" "LNightBook$Tally;", .instanceMethod yX2_init, .initialized RX2, .code yX2_init cX2_init 1 none, .methodLink RX2 3 objectInit, .instanceMethod objectInit, .code objectInit ⟨#[0xb1]⟩ 1 none, .methodLink RX9 23 yX8_init, .instanceMethod yX8_init, .code yX8_init cX8_init 2 none, .methodLink RX8 1 objectInit, .fieldLink RX8 7 "NightBook$Tally" "land" "I"] ++ wsX00 ++ wsX30 ++ wsX70 ++ wsX90 ++ wsX80)
def wsX0_init_r1 : List Cond := [Cond.methodLink RX0 3 yX7_init, Cond.instanceMethod yX7_init, Cond.initialized RX7, Cond.code yX7_init cX7_init 3 none, Cond.methodLink RX7 3 yX9_init, Cond.instanceMethod yX9_init, Cond.initialized RX9, Cond.code yX9_init cX9_init 4 none, Cond.fieldLink RX9 9 "NightBook$Window" "land" "I", Cond.fieldLink RX9 15 "NightBook$Window" "n" "I", Cond.fieldLink RX9 18 "NightBook$Window" "reach" "I", Cond.classLink RX9 21 RX8, Cond.instantiable RX8 3, Cond.initialized RX8, Cond.fieldLink RX9 26 "NightBook$Window" "here" "LNightBook$Tally;", Cond.fieldLink RX9 30 "NightBook$Window" "end" "LNightBook$Tally;", Cond.instanceMethod yX2_init, Cond.initialized RX2, Cond.code yX2_init cX2_init 1 none, Cond.methodLink RX2 3 objectInit, Cond.instanceMethod objectInit, Cond.code objectInit ⟨#[0xb1]⟩ 1 none, Cond.methodLink RX9 23 yX8_init, Cond.instanceMethod yX8_init]
def wsX0_init_r2 : List Cond := [Cond.code yX8_init cX8_init 2 none, Cond.methodLink RX8 1 objectInit, Cond.fieldLink RX8 7 "NightBook$Tally" "land" "I"]
def wsX0_init : List Cond := .code yX0_init cX0_init 3 none :: ((wsX0_init_r1 ++ wsX0_init_r2) ++ wsX00 ++ wsX30 ++ wsX70 ++ wsX90 ++ wsX80)
def wsX0_kind : List Cond := .code yX0_kind cX0_kind 1 (some .int) :: ([])
def wsX0_verdict : List Cond := .code yX0_verdict cX0_verdict 3 (some .int) :: ([.fieldLink RX0 9 "NightBook$Absent" "n" "I", .sameField "NightBook$Absent" "NightBook$Window" "n" "I", .fieldLink RX0 15 "NightBook$Tally" "least" "I", .fieldLink RX0 20 "NightBook$Tally" "most" "I"] ++ wsX00 ++ wsX30 ++ wsX70 ++ wsX90 ++ wsX80)
def wsX9_kind : List Cond := .code yX9_kind cX9_kind 1 (some .int) :: ([])
def wsX3_kind : List Cond := .code yX3_kind cX3_kind 1 (some .int) :: ([])
def wsX7_kind : List Cond := .code yX7_kind cX7_kind 1 (some .int) :: ([])
def wsX9_heft : List Cond := .code yX9_heft cX9_heft 1 (some .int) :: ([.fieldLink RX9 15 "NightBook$Window" "n" "I", .methodLink RX9 50 ⟨"NightBook$Window", "kind", "()I"⟩, .sameMethod "NightBook$Window" "NightBook$Window" "kind" "()I", .instanceMethod ⟨"NightBook$Window", "kind", "()I"⟩, .selects RX0 ⟨"NightBook$Window", "kind", "()I"⟩ yX0_kind, .instanceMethod yX0_kind, .initialized RX0, .code yX0_kind cX0_kind 1 (some .int), .code yX9_kind cX9_kind 1 (some .int), .selects RX3 ⟨"NightBook$Window", "kind", "()I"⟩ yX3_kind, .instanceMethod yX3_kind, .initialized RX3, .code yX3_kind cX3_kind 1 (some .int), .selects RX7 ⟨"NightBook$Window", "kind", "()I"⟩ yX7_kind, .instanceMethod yX7_kind, .initialized RX7, .code yX7_kind cX7_kind 1 (some .int), .methodLink RX9 50 yX9_kind, .instanceMethod yX9_kind, .selects RX9 yX9_kind yX9_kind, .initialized RX9] ++ wsX00 ++ wsX30 ++ wsX70 ++ wsX90)
def wsX7_heft_r1 : List Cond := [Cond.methodLink RX7 9 yX9_heft, Cond.sameMethod "NightBook$Window" "NightBook$Window" "heft" "()I", Cond.superclass RX7 RX9, Cond.instanceMethod yX9_heft, Cond.initialized RX9, Cond.code yX9_heft cX9_heft 1 (some .int), Cond.fieldLink RX9 15 "NightBook$Window" "n" "I", Cond.methodLink RX9 50 ⟨"NightBook$Window", "kind", "()I"⟩, Cond.sameMethod "NightBook$Window" "NightBook$Window" "kind" "()I", Cond.instanceMethod ⟨"NightBook$Window", "kind", "()I"⟩, Cond.selects RX0 ⟨"NightBook$Window", "kind", "()I"⟩ yX0_kind, Cond.instanceMethod yX0_kind, Cond.initialized RX0, Cond.code yX0_kind cX0_kind 1 (some .int), Cond.code yX9_kind cX9_kind 1 (some .int), Cond.selects RX3 ⟨"NightBook$Window", "kind", "()I"⟩ yX3_kind, Cond.instanceMethod yX3_kind, Cond.initialized RX3, Cond.code yX3_kind cX3_kind 1 (some .int), Cond.selects RX7 ⟨"NightBook$Window", "kind", "()I"⟩ yX7_kind, Cond.instanceMethod yX7_kind, Cond.initialized RX7, Cond.code yX7_kind cX7_kind 1 (some .int), Cond.methodLink RX9 50 yX9_kind]
def wsX7_heft_r2 : List Cond := [Cond.instanceMethod yX9_kind, Cond.selects RX9 yX9_kind yX9_kind]
def wsX7_heft : List Cond := .code yX7_heft cX7_heft 1 (some .int) :: ((wsX7_heft_r1 ++ wsX7_heft_r2) ++ wsX00 ++ wsX30 ++ wsX70 ++ wsX90)
def wsX0_heft_r1 : List Cond := [Cond.methodLink RX0 23 yX7_heft, Cond.sameMethod "NightBook$Stretch" "NightBook$Stretch" "heft" "()I", Cond.superclass RX0 RX7, Cond.instanceMethod yX7_heft, Cond.initialized RX7, Cond.code yX7_heft cX7_heft 1 (some .int), Cond.methodLink RX7 9 yX9_heft, Cond.sameMethod "NightBook$Window" "NightBook$Window" "heft" "()I", Cond.superclass RX7 RX9, Cond.instanceMethod yX9_heft, Cond.initialized RX9, Cond.code yX9_heft cX9_heft 1 (some .int), Cond.fieldLink RX9 15 "NightBook$Window" "n" "I", Cond.methodLink RX9 50 ⟨"NightBook$Window", "kind", "()I"⟩, Cond.sameMethod "NightBook$Window" "NightBook$Window" "kind" "()I", Cond.instanceMethod ⟨"NightBook$Window", "kind", "()I"⟩, Cond.selects RX0 ⟨"NightBook$Window", "kind", "()I"⟩ yX0_kind, Cond.instanceMethod yX0_kind, Cond.initialized RX0, Cond.code yX0_kind cX0_kind 1 (some .int), Cond.code yX9_kind cX9_kind 1 (some .int), Cond.selects RX3 ⟨"NightBook$Window", "kind", "()I"⟩ yX3_kind, Cond.instanceMethod yX3_kind, Cond.initialized RX3]
def wsX0_heft_r2 : List Cond := [Cond.code yX3_kind cX3_kind 1 (some .int), Cond.selects RX7 ⟨"NightBook$Window", "kind", "()I"⟩ yX7_kind, Cond.instanceMethod yX7_kind, Cond.code yX7_kind cX7_kind 1 (some .int), Cond.methodLink RX9 50 yX9_kind, Cond.instanceMethod yX9_kind, Cond.selects RX9 yX9_kind yX9_kind]
def wsX0_heft : List Cond := .code yX0_heft cX0_heft 1 (some .int) :: ((wsX0_heft_r1 ++ wsX0_heft_r2) ++ wsX00 ++ wsX30 ++ wsX70 ++ wsX90)
def wsX5_init : List Cond := .code yX5_init cX5_init 6 none :: ([.fieldLink RX5 9 "NightBook$Span" "number" "I", .fieldLink RX5 15 "NightBook$Span" "person" "I", .fieldLink RX5 18 "NightBook$Span" "from" "I", .fieldLink RX5 21 "NightBook$Span" "to" "I", .fieldLink RX5 24 "NightBook$Span" "lands" "I", .instanceMethod yX2_init, .initialized RX2, .code yX2_init cX2_init 1 none, .methodLink RX2 3 objectInit, .instanceMethod objectInit, .code objectInit ⟨#[0xb1]⟩ 1 none] ++ wsX10 ++ wsX50 ++ wsX60 ++ wsX100)
def wsX1_init : List Cond := .code yX1_init cX1_init 5 none :: ([.methodLink RX1 3 yX5_init, .instanceMethod yX5_init, .initialized RX5, .code yX5_init cX5_init 6 none, .fieldLink RX5 9 "NightBook$Span" "number" "I", .fieldLink RX5 15 "NightBook$Span" "person" "I", .fieldLink RX5 18 "NightBook$Span" "from" "I", .fieldLink RX5 21 "NightBook$Span" "to" "I", .fieldLink RX5 24 "NightBook$Span" "lands" "I", .instanceMethod yX2_init, .initialized RX2, .code yX2_init cX2_init 1 none, .methodLink RX2 3 objectInit, .instanceMethod objectInit, .code objectInit ⟨#[0xb1]⟩ 1 none] ++ wsX10 ++ wsX50 ++ wsX60 ++ wsX100)
def wsX1_kind : List Cond := .code yX1_kind cX1_kind 1 (some .int) :: ([])
def wsX5_heft : List Cond := .code yX5_heft cX5_heft 1 (some .int) :: ([.fieldLink RX5 21 "NightBook$Span" "to" "I", .fieldLink RX5 18 "NightBook$Span" "from" "I"] ++ wsX10 ++ wsX50 ++ wsX60 ++ wsX100)
def wsX1_heft : List Cond := .code yX1_heft cX1_heft 1 (some .int) :: ([.methodLink RX1 9 yX5_heft, .sameMethod "NightBook$Span" "NightBook$Span" "heft" "()I", .superclass RX1 RX5, .instanceMethod yX5_heft, .initialized RX5, .code yX5_heft cX5_heft 1 (some .int), .fieldLink RX5 21 "NightBook$Span" "to" "I", .fieldLink RX5 18 "NightBook$Span" "from" "I"] ++ wsX10 ++ wsX50 ++ wsX60 ++ wsX100)
def wsX2_fail : List Cond := .code yX2_fail cX2_fail 1 none :: ([])
def wsX2_failureNumber : List Cond := .code yX2_failureNumber cX2_failureNumber 1 (some .int) :: ([])
def wsX3_init : List Cond := .code yX3_init cX3_init 4 none :: ([.methodLink RX3 3 yX9_init, .instanceMethod yX9_init, .initialized RX9, .code yX9_init cX9_init 4 none, .fieldLink RX9 9 "NightBook$Window" "land" "I", .fieldLink RX9 15 "NightBook$Window" "n" "I", .fieldLink RX9 18 "NightBook$Window" "reach" "I", .classLink RX9 21 RX8, .instantiable RX8 3, .initialized RX8, .fieldLink RX9 26 "NightBook$Window" "here" "LNightBook$Tally;", .fieldLink RX9 30 "NightBook$Window" "end" "LNightBook$Tally;", .instanceMethod yX2_init, .initialized RX2, .code yX2_init cX2_init 1 none, .methodLink RX2 3 objectInit, .instanceMethod objectInit, .code objectInit ⟨#[0xb1]⟩ 1 none, .methodLink RX9 23 yX8_init, .instanceMethod yX8_init, .code yX8_init cX8_init 2 none, .methodLink RX8 1 objectInit, .fieldLink RX8 7 "NightBook$Tally" "land" "I"] ++ wsX00 ++ wsX30 ++ wsX70 ++ wsX90 ++ wsX80)
def wsX3_bindsTrips : List Cond := .code yX3_bindsTrips cX3_bindsTrips 1 (some .boolean) :: ([])
def wsX3_verdict : List Cond := .code yX3_verdict cX3_verdict 3 (some .int) :: ([.fieldLink RX3 9 "NightBook$Tally" "least" "I", .fieldLink RX3 15 "NightBook$Needs" "n" "I", .sameField "NightBook$Needs" "NightBook$Window" "n" "I", .fieldLink RX3 20 "NightBook$Tally" "most" "I"] ++ wsX80 ++ wsX00 ++ wsX30 ++ wsX70 ++ wsX90)
def wsX3_heft_r1 : List Cond := [Cond.fieldLink RX3 27 "NightBook$Needs" "reach" "I", Cond.sameField "NightBook$Needs" "NightBook$Window" "reach" "I", Cond.methodLink RX3 23 yX9_heft, Cond.sameMethod "NightBook$Window" "NightBook$Window" "heft" "()I", Cond.superclass RX3 RX9, Cond.instanceMethod yX9_heft, Cond.initialized RX9, Cond.code yX9_heft cX9_heft 1 (some .int), Cond.fieldLink RX9 15 "NightBook$Window" "n" "I", Cond.methodLink RX9 50 ⟨"NightBook$Window", "kind", "()I"⟩, Cond.sameMethod "NightBook$Window" "NightBook$Window" "kind" "()I", Cond.instanceMethod ⟨"NightBook$Window", "kind", "()I"⟩, Cond.selects RX0 ⟨"NightBook$Window", "kind", "()I"⟩ yX0_kind, Cond.instanceMethod yX0_kind, Cond.initialized RX0, Cond.code yX0_kind cX0_kind 1 (some .int), Cond.code yX9_kind cX9_kind 1 (some .int), Cond.selects RX3 ⟨"NightBook$Window", "kind", "()I"⟩ yX3_kind, Cond.instanceMethod yX3_kind, Cond.initialized RX3, Cond.code yX3_kind cX3_kind 1 (some .int), Cond.selects RX7 ⟨"NightBook$Window", "kind", "()I"⟩ yX7_kind, Cond.instanceMethod yX7_kind, Cond.initialized RX7]
def wsX3_heft_r2 : List Cond := [Cond.code yX7_kind cX7_kind 1 (some .int), Cond.methodLink RX9 50 yX9_kind, Cond.instanceMethod yX9_kind, Cond.selects RX9 yX9_kind yX9_kind]
def wsX3_heft : List Cond := .code yX3_heft cX3_heft 1 (some .int) :: ((wsX3_heft_r1 ++ wsX3_heft_r2) ++ wsX00 ++ wsX30 ++ wsX70 ++ wsX90)
def wsX3_fail : List Cond := .code yX3_fail cX3_fail 1 none :: ([])
def wsX4_init : List Cond := .code yX4_init cX4_init 3 none :: ([.fieldLink RX4 9 "NightBook$Row" "wide" "Z", .methodLink RX4 15 Lib.Math.max.name, .static Lib.Math.max.name, .initialized "java/lang/Math", .code Lib.Math.max.name Lib.Math.max.code 2 (some .int), .arrayClass .short, .fieldLink RX4 21 "NightBook$Row" "cells" "[S", .instanceMethod yX2_init, .initialized RX2, .code yX2_init cX2_init 1 none, .methodLink RX2 3 objectInit, .instanceMethod objectInit, .code objectInit ⟨#[0xb1]⟩ 1 none] ++ wsX40)
def wsX4_heft : List Cond := .code yX4_heft cX4_heft 1 (some .int) :: ([])
def wsX4_hasPlaces : List Cond := .code yX4_hasPlaces cX4_hasPlaces 3 (some .boolean) :: ([.fieldLink RX4 21 "NightBook$Row" "cells" "[S"] ++ wsX40)
def wsX5_kind : List Cond := .code yX5_kind cX5_kind 1 (some .int) :: ([])
def wsX5_givesWay : List Cond := .code yX5_givesWay cX5_givesWay 1 (some .boolean) :: ([])
def wsX5_fail : List Cond := .code yX5_fail cX5_fail 1 none :: ([.classLink RX5 27 "java/lang/IllegalStateException", .initialized "java/lang/IllegalStateException"] ++ (vx_atS RX5 31 "java/lang/IllegalStateException" ["java/lang/RuntimeException", "java/lang/Exception"]).filter goodWord)
def wsX5_failureNumber : List Cond := .code yX5_failureNumber cX5_failureNumber 1 (some .int) :: ([.fieldLink RX5 9 "NightBook$Span" "number" "I"] ++ wsX10 ++ wsX50 ++ wsX60 ++ wsX100)
def wsX6_init : List Cond := .code yX6_init cX6_init 6 none :: ([.methodLink RX6 3 yX5_init, .instanceMethod yX5_init, .initialized RX5, .code yX5_init cX5_init 6 none, .fieldLink RX5 9 "NightBook$Span" "number" "I", .fieldLink RX5 15 "NightBook$Span" "person" "I", .fieldLink RX5 18 "NightBook$Span" "from" "I", .fieldLink RX5 21 "NightBook$Span" "to" "I", .fieldLink RX5 24 "NightBook$Span" "lands" "I", .instanceMethod yX2_init, .initialized RX2, .code yX2_init cX2_init 1 none, .methodLink RX2 3 objectInit, .instanceMethod objectInit, .code objectInit ⟨#[0xb1]⟩ 1 none] ++ wsX10 ++ wsX50 ++ wsX60 ++ wsX100)
def wsX6_kind : List Cond := .code yX6_kind cX6_kind 1 (some .int) :: ([])
def wsX6_heft : List Cond := .code yX6_heft cX6_heft 1 (some .int) :: ([.methodLink RX6 9 yX5_heft, .sameMethod "NightBook$Span" "NightBook$Span" "heft" "()I", .superclass RX6 RX5, .instanceMethod yX5_heft, .initialized RX5, .code yX5_heft cX5_heft 1 (some .int), .fieldLink RX5 21 "NightBook$Span" "to" "I", .fieldLink RX5 18 "NightBook$Span" "from" "I"] ++ wsX10 ++ wsX50 ++ wsX60 ++ wsX100)
def wsX8_add : List Cond := .code yX8_add cX8_add 3 none :: ([.fieldLink RX8 7 "NightBook$Tally" "land" "I", .fieldLink RX8 16 "NightBook$Tally" "most" "I", .fieldLink RX8 13 "NightBook$Tally" "least" "I"] ++ wsX80)
def wsX8_sum : List Cond := .code yX8_sum cX8_sum 5 none :: ([.fieldLink RX8 13 "NightBook$Tally" "least" "I", .fieldLink RX8 16 "NightBook$Tally" "most" "I", .methodLink RX8 19 Lib.Math.max.name, .static Lib.Math.max.name, .initialized "java/lang/Math", .code Lib.Math.max.name Lib.Math.max.code 2 (some .int), .methodLink RX8 25 yX8_add, .instanceMethod yX8_add, .selects RX8 yX8_add yX8_add, .initialized RX8, .code yX8_add cX8_add 3 none, .fieldLink RX8 7 "NightBook$Tally" "land" "I"] ++ wsX80)
def wsX9_bindsTrips : List Cond := .code yX9_bindsTrips cX9_bindsTrips 1 (some .boolean) :: ([])
def wsX9_verdict : List Cond := .code yX9_verdict cX9_verdict 3 (some .int) :: ([.fieldLink RX9 33 "NightBook$Tally" "most" "I", .fieldLink RX9 15 "NightBook$Window" "n" "I", .fieldLink RX9 36 "NightBook$Tally" "least" "I"] ++ wsX80 ++ wsX00 ++ wsX30 ++ wsX70 ++ wsX90)
def wsX9_lookAt : List Cond := .code yX9_lookAt cX9_lookAt 3 none :: ([.fieldLink RX9 26 "NightBook$Window" "here" "LNightBook$Tally;", .fieldLink RX9 18 "NightBook$Window" "reach" "I", .methodLink RX9 39 yX8_sum, .instanceMethod yX8_sum, .selects RX8 yX8_sum yX8_sum, .initialized RX8, .code yX8_sum cX8_sum 5 none, .fieldLink RX8 13 "NightBook$Tally" "least" "I", .fieldLink RX8 16 "NightBook$Tally" "most" "I", .methodLink RX8 19 Lib.Math.max.name, .static Lib.Math.max.name, .initialized "java/lang/Math", .code Lib.Math.max.name Lib.Math.max.code 2 (some .int), .methodLink RX8 25 yX8_add, .instanceMethod yX8_add, .selects RX8 yX8_add yX8_add, .code yX8_add cX8_add 3 none, .fieldLink RX8 7 "NightBook$Tally" "land" "I"] ++ wsX00 ++ wsX30 ++ wsX70 ++ wsX90 ++ wsX80)
def wsX9_moveTo : List Cond := .code yX9_moveTo cX9_moveTo 3 none :: ([.fieldLink RX9 26 "NightBook$Window" "here" "LNightBook$Tally;", .fieldLink RX9 18 "NightBook$Window" "reach" "I", .methodLink RX9 43 yX8_add, .instanceMethod yX8_add, .selects RX8 yX8_add yX8_add, .initialized RX8, .code yX8_add cX8_add 3 none, .fieldLink RX8 7 "NightBook$Tally" "land" "I", .fieldLink RX8 16 "NightBook$Tally" "most" "I", .fieldLink RX8 13 "NightBook$Tally" "least" "I"] ++ wsX00 ++ wsX30 ++ wsX70 ++ wsX90 ++ wsX80)
def wsX9_lookAtEnd : List Cond := .code yX9_lookAtEnd cX9_lookAtEnd 3 none :: ([.fieldLink RX9 18 "NightBook$Window" "reach" "I", .fieldLink RX9 47 "NightBook$Window" "endFrom" "I", .fieldLink RX9 30 "NightBook$Window" "end" "LNightBook$Tally;", .methodLink RX9 39 yX8_sum, .instanceMethod yX8_sum, .selects RX8 yX8_sum yX8_sum, .initialized RX8, .code yX8_sum cX8_sum 5 none, .fieldLink RX8 13 "NightBook$Tally" "least" "I", .fieldLink RX8 16 "NightBook$Tally" "most" "I", .methodLink RX8 19 Lib.Math.max.name, .static Lib.Math.max.name, .initialized "java/lang/Math", .code Lib.Math.max.name Lib.Math.max.code 2 (some .int), .methodLink RX8 25 yX8_add, .instanceMethod yX8_add, .selects RX8 yX8_add yX8_add, .code yX8_add cX8_add 3 none, .fieldLink RX8 7 "NightBook$Tally" "land" "I"] ++ wsX00 ++ wsX30 ++ wsX70 ++ wsX90 ++ wsX80)
def wsX9_change : List Cond := .code yX9_change cX9_change 4 none :: ([.fieldLink RX9 26 "NightBook$Window" "here" "LNightBook$Tally;", .fieldLink RX9 47 "NightBook$Window" "endFrom" "I", .fieldLink RX9 30 "NightBook$Window" "end" "LNightBook$Tally;", .methodLink RX9 43 yX8_add, .instanceMethod yX8_add, .selects RX8 yX8_add yX8_add, .initialized RX8, .code yX8_add cX8_add 3 none, .fieldLink RX8 7 "NightBook$Tally" "land" "I", .fieldLink RX8 16 "NightBook$Tally" "most" "I", .fieldLink RX8 13 "NightBook$Tally" "least" "I"] ++ wsX00 ++ wsX30 ++ wsX70 ++ wsX90 ++ wsX80)
def wsX9_fail : List Cond := .code yX9_fail cX9_fail 1 none :: ([.classLink RX9 54 "java/lang/IllegalStateException", .initialized "java/lang/IllegalStateException"] ++ (vx_atS RX9 58 "java/lang/IllegalStateException" ["java/lang/RuntimeException", "java/lang/Exception"]).filter goodWord)
def wsX9_failureNumber : List Cond := .code yX9_failureNumber cX9_failureNumber 1 (some .int) :: ([.fieldLink RX9 9 "NightBook$Window" "land" "I"] ++ wsX00 ++ wsX30 ++ wsX70 ++ wsX90)
def wsX10_init : List Cond := .code yX10_init cX10_init 5 none :: ([.methodLink RX10 3 yX1_init, .instanceMethod yX1_init, .initialized RX1, .code yX1_init cX1_init 5 none, .methodLink RX1 3 yX5_init, .instanceMethod yX5_init, .initialized RX5, .code yX5_init cX5_init 6 none, .fieldLink RX5 9 "NightBook$Span" "number" "I", .fieldLink RX5 15 "NightBook$Span" "person" "I", .fieldLink RX5 18 "NightBook$Span" "from" "I", .fieldLink RX5 21 "NightBook$Span" "to" "I", .fieldLink RX5 24 "NightBook$Span" "lands" "I", .instanceMethod yX2_init, .initialized RX2, .code yX2_init cX2_init 1 none, .methodLink RX2 3 objectInit, .instanceMethod objectInit, .code objectInit ⟨#[0xb1]⟩ 1 none] ++ wsX10 ++ wsX50 ++ wsX60 ++ wsX100)
def wsX10_kind : List Cond := .code yX10_kind cX10_kind 1 (some .int) :: ([])
def wsX10_givesWay : List Cond := .code yX10_givesWay cX10_givesWay 1 (some .boolean) :: ([])
def wsX10_heft : List Cond := .code yX10_heft cX10_heft 1 (some .int) :: ([.methodLink RX10 9 yX1_heft, .sameMethod "NightBook$Bill" "NightBook$Bill" "heft" "()I", .superclass RX10 RX1, .instanceMethod yX1_heft, .initialized RX1, .code yX1_heft cX1_heft 1 (some .int), .methodLink RX1 9 yX5_heft, .sameMethod "NightBook$Span" "NightBook$Span" "heft" "()I", .superclass RX1 RX5, .instanceMethod yX5_heft, .initialized RX5, .code yX5_heft cX5_heft 1 (some .int), .fieldLink RX5 21 "NightBook$Span" "to" "I", .fieldLink RX5 18 "NightBook$Span" "from" "I"] ++ wsX10 ++ wsX50 ++ wsX60 ++ wsX100)
def wsX10_fail : List Cond := .code yX10_fail cX10_fail 1 none :: ([])
def wsJ7_fill_53178 : List Cond := .code yJ7_fill_53178 cJ7_fill_53178 4 none :: ([])
def wsX11_init_r1 : List Cond := [Cond.methodLink RX11 1 objectInit, Cond.instanceMethod objectInit, Cond.code objectInit ⟨#[0xb1]⟩ 1 none, Cond.arrayClass .int, Cond.fieldLink RX11 9 "NightBook" "homes" "[I", Cond.fieldLink RX11 13 "NightBook" "passports" "[I", Cond.arrayClass .boolean, Cond.fieldLink RX11 16 "NightBook" "joined" "[Z", Cond.classLink RX11 20 "[[I", Cond.fieldLink RX11 22 "NightBook" "cans" "[[I", Cond.classLink RX11 25 RX5, Cond.fieldLink RX11 27 "NightBook" "marks" "[LNightBook$Span;", Cond.classLink RX11 31 RX9, Cond.fieldLink RX11 33 "NightBook" "laws" "[LNightBook$Window;", Cond.fieldLink RX11 37 "NightBook" "claimNights" "[I", Cond.fieldLink RX11 46 "NightBook" "treaties" "[I", Cond.classLink RX11 49 RX2, Cond.fieldLink RX11 51 "NightBook" "shelves" "[LNightBook$Held;", Cond.classLink RX11 55 RX8, Cond.fieldLink RX11 57 "NightBook" "tallies" "[LNightBook$Tally;", Cond.instantiable RX8 3, Cond.initialized RX8, Cond.fieldLink RX11 64 "NightBook" "mind" "[I", Cond.fieldLink RX11 67 "NightBook" "words" "[I"]
def wsX11_init_r2 : List Cond := [Cond.methodLink RX11 40 yJ7_fill_53178, Cond.static yJ7_fill_53178, Cond.initialized RJ7, Cond.code yJ7_fill_53178 cJ7_fill_53178 4 none, Cond.methodLink RX11 61 yX8_init, Cond.instanceMethod yX8_init, Cond.code yX8_init cX8_init 2 none, Cond.methodLink RX8 1 objectInit, Cond.fieldLink RX8 7 "NightBook$Tally" "land" "I"]
def wsX11_init : List Cond := .code yX11_init cX11_init 2 none :: ((wsX11_init_r1 ++ wsX11_init_r2) ++ wsX110 ++ wsX80)
def wsX11_isLand : List Cond := .code yX11_isLand cX11_isLand 1 (some .boolean) :: ([])
def wsX11_person : List Cond := .code yX11_person cX11_person 4 (some .int) :: ([.fieldLink RX11 74 "NightBook" "people" "I", .fieldLink RX11 9 "NightBook" "homes" "[I", .fieldLink RX11 13 "NightBook" "passports" "[I", .fieldLink RX11 22 "NightBook" "cans" "[[I", .methodLink RX11 70 yX11_isLand, .static yX11_isLand, .initialized RX11, .code yX11_isLand cX11_isLand 1 (some .boolean), .methodLink RX11 40 yJ7_fill_53178, .static yJ7_fill_53178, .initialized RJ7, .code yJ7_fill_53178 cJ7_fill_53178 4 none] ++ wsX110)
def wsX11_isPerson : List Cond := .code yX11_isPerson cX11_isPerson 2 (some .boolean) :: ([.fieldLink RX11 74 "NightBook" "people" "I"] ++ wsX110)
def wsX11_isDay : List Cond := .code yX11_isDay cX11_isDay 1 (some .boolean) :: ([])
def wsX11_areDays : List Cond := .code yX11_areDays cX11_areDays 2 (some .boolean) :: ([.methodLink RX11 95 yX11_isDay, .static yX11_isDay, .initialized RX11, .code yX11_isDay cX11_isDay 1 (some .boolean)])
def wsJ7_rangeCheck_23922 : List Cond := .code yJ7_rangeCheck_23922 cJ7_rangeCheck_23922 3 none :: ([.classLink RJ7 45 RJ4, .instantiable RJ4 4, .initialized RJ4] ++ wsJ40)
def wsJ7_fill_fda19 : List Cond := .code yJ7_fill_fda19 cJ7_fill_fda19 5 none :: ([.methodLink RJ7 13 yJ7_rangeCheck_23922, .static yJ7_rangeCheck_23922, .initialized RJ7, .code yJ7_rangeCheck_23922 cJ7_rangeCheck_23922 3 none, .classLink RJ7 45 RJ4, .instantiable RJ4 4, .initialized RJ4] ++ wsJ40)
def wsX11_narrow : List Cond := .code yX11_narrow cX11_narrow 6 none :: ([.fieldLink RX11 123 "NightBook$Span" "to" "I", .methodLink RX11 177 Lib.Math.min.name, .static Lib.Math.min.name, .initialized "java/lang/Math", .code Lib.Math.min.name Lib.Math.min.code 2 (some .int), .fieldLink RX11 120 "NightBook$Span" "from" "I", .methodLink RX11 182 Lib.Math.max.name, .static Lib.Math.max.name, .code Lib.Math.max.name Lib.Math.max.code 2 (some .int), .fieldLink RX11 134 "NightBook$Span" "lands" "I"] ++ wsX10 ++ wsX50 ++ wsX60 ++ wsX100)
def wsX11_tellAnew_r1 : List Cond := [Cond.fieldLink RX11 64 "NightBook" "mind" "[I", Cond.fieldLink RX11 67 "NightBook" "words" "[I", Cond.fieldLink RX11 85 "NightBook" "markCount" "I", Cond.fieldLink RX11 27 "NightBook" "marks" "[LNightBook$Span;", Cond.fieldLink RX11 113 "NightBook$Span" "dropped" "Z", Cond.fieldLink RX11 117 "NightBook$Span" "person" "I", Cond.fieldLink RX11 22 "NightBook" "cans" "[[I", Cond.methodLink RX11 171 arraycopyName, Cond.native arraycopyName, Cond.static arraycopyName, Cond.initialized "java/lang/System", Cond.methodLink RX11 160 yJ7_fill_fda19, Cond.static yJ7_fill_fda19, Cond.initialized RJ7, Cond.code yJ7_fill_fda19 cJ7_fill_fda19 5 none, Cond.methodLink RJ7 13 yJ7_rangeCheck_23922, Cond.static yJ7_rangeCheck_23922, Cond.code yJ7_rangeCheck_23922 cJ7_rangeCheck_23922 3 none, Cond.classLink RJ7 45 RJ4, Cond.instantiable RJ4 4, Cond.initialized RJ4, Cond.methodLink RX11 163 ⟨"NightBook$Span", "givesWay", "()Z"⟩, Cond.sameMethod "NightBook$Span" "NightBook$Span" "givesWay" "()Z", Cond.selects RX1 ⟨"NightBook$Span", "givesWay", "()Z"⟩ yX5_givesWay]
def wsX11_tellAnew_r2 : List Cond := [Cond.instanceMethod yX5_givesWay, Cond.initialized RX5, Cond.code yX5_givesWay cX5_givesWay 1 (some .boolean), Cond.methodLink RX11 163 yX5_givesWay, Cond.selects RX5 yX5_givesWay yX5_givesWay, Cond.selects RX6 ⟨"NightBook$Span", "givesWay", "()Z"⟩ yX5_givesWay, Cond.instanceMethod ⟨"NightBook$Span", "givesWay", "()Z"⟩, Cond.selects RX10 ⟨"NightBook$Span", "givesWay", "()Z"⟩ yX10_givesWay, Cond.instanceMethod yX10_givesWay, Cond.initialized RX10, Cond.code yX10_givesWay cX10_givesWay 1 (some .boolean), Cond.methodLink RX11 167 yX11_narrow, Cond.static yX11_narrow, Cond.initialized RX11, Cond.code yX11_narrow cX11_narrow 6 none, Cond.fieldLink RX11 123 "NightBook$Span" "to" "I", Cond.methodLink RX11 177 Lib.Math.min.name, Cond.static Lib.Math.min.name, Cond.initialized "java/lang/Math", Cond.code Lib.Math.min.name Lib.Math.min.code 2 (some .int), Cond.fieldLink RX11 120 "NightBook$Span" "from" "I", Cond.methodLink RX11 182 Lib.Math.max.name, Cond.static Lib.Math.max.name, Cond.code Lib.Math.max.name Lib.Math.max.code 2 (some .int)]
def wsX11_tellAnew_r3 : List Cond := [Cond.fieldLink RX11 134 "NightBook$Span" "lands" "I"]
def wsX11_tellAnew : List Cond := .code yX11_tellAnew cX11_tellAnew 7 (some .boolean) :: ((wsX11_tellAnew_r1 ++ (wsX11_tellAnew_r2 ++ wsX11_tellAnew_r3)) ++ wsX110 ++ wsX10 ++ wsX50 ++ wsX60 ++ wsX100 ++ wsJ40)
def wsX11_enter_r1 : List Cond := [Cond.fieldLink RX11 85 "NightBook" "markCount" "I", Cond.fieldLink RX11 16 "NightBook" "joined" "[Z", Cond.fieldLink RX11 117 "NightBook$Span" "person" "I", Cond.fieldLink RX11 27 "NightBook" "marks" "[LNightBook$Span;", Cond.fieldLink RX11 120 "NightBook$Span" "from" "I", Cond.fieldLink RX11 123 "NightBook$Span" "to" "I", Cond.methodLink RX11 126 yX11_tellAnew, Cond.instanceMethod yX11_tellAnew, Cond.selects RX11 yX11_tellAnew yX11_tellAnew, Cond.initialized RX11, Cond.code yX11_tellAnew cX11_tellAnew 7 (some .boolean), Cond.fieldLink RX11 64 "NightBook" "mind" "[I", Cond.fieldLink RX11 67 "NightBook" "words" "[I", Cond.fieldLink RX11 113 "NightBook$Span" "dropped" "Z", Cond.fieldLink RX11 22 "NightBook" "cans" "[[I", Cond.methodLink RX11 171 arraycopyName, Cond.native arraycopyName, Cond.static arraycopyName, Cond.initialized "java/lang/System", Cond.methodLink RX11 160 yJ7_fill_fda19, Cond.static yJ7_fill_fda19, Cond.initialized RJ7, Cond.code yJ7_fill_fda19 cJ7_fill_fda19 5 none, Cond.methodLink RJ7 13 yJ7_rangeCheck_23922]
def wsX11_enter_r2 : List Cond := [Cond.static yJ7_rangeCheck_23922, Cond.code yJ7_rangeCheck_23922 cJ7_rangeCheck_23922 3 none, Cond.classLink RJ7 45 RJ4, Cond.instantiable RJ4 4, Cond.initialized RJ4, Cond.methodLink RX11 163 ⟨"NightBook$Span", "givesWay", "()Z"⟩, Cond.sameMethod "NightBook$Span" "NightBook$Span" "givesWay" "()Z", Cond.selects RX1 ⟨"NightBook$Span", "givesWay", "()Z"⟩ yX5_givesWay, Cond.instanceMethod yX5_givesWay, Cond.initialized RX5, Cond.code yX5_givesWay cX5_givesWay 1 (some .boolean), Cond.methodLink RX11 163 yX5_givesWay, Cond.selects RX5 yX5_givesWay yX5_givesWay, Cond.selects RX6 ⟨"NightBook$Span", "givesWay", "()Z"⟩ yX5_givesWay, Cond.instanceMethod ⟨"NightBook$Span", "givesWay", "()Z"⟩, Cond.selects RX10 ⟨"NightBook$Span", "givesWay", "()Z"⟩ yX10_givesWay, Cond.instanceMethod yX10_givesWay, Cond.initialized RX10, Cond.code yX10_givesWay cX10_givesWay 1 (some .boolean), Cond.methodLink RX11 167 yX11_narrow, Cond.static yX11_narrow, Cond.code yX11_narrow cX11_narrow 6 none, Cond.methodLink RX11 177 Lib.Math.min.name, Cond.static Lib.Math.min.name]
def wsX11_enter_r3 : List Cond := [Cond.initialized "java/lang/Math", Cond.code Lib.Math.min.name Lib.Math.min.code 2 (some .int), Cond.methodLink RX11 182 Lib.Math.max.name, Cond.static Lib.Math.max.name, Cond.code Lib.Math.max.name Lib.Math.max.code 2 (some .int), Cond.fieldLink RX11 134 "NightBook$Span" "lands" "I"]
def wsX11_enter : List Cond := .code yX11_enter cX11_enter 3 (some .int) :: ((wsX11_enter_r1 ++ (wsX11_enter_r2 ++ wsX11_enter_r3)) ++ wsX110 ++ wsX10 ++ wsX50 ++ wsX60 ++ wsX100 ++ wsJ40)
def wsX11_span_r1 : List Cond := [Cond.classLink RX11 25 RX5, Cond.instantiable RX5 6, Cond.initialized RX5, Cond.fieldLink RX11 85 "NightBook" "markCount" "I", Cond.methodLink RX11 78 yX11_isPerson, Cond.instanceMethod yX11_isPerson, Cond.selects RX11 yX11_isPerson yX11_isPerson, Cond.initialized RX11, Cond.code yX11_isPerson cX11_isPerson 2 (some .boolean), Cond.fieldLink RX11 74 "NightBook" "people" "I", Cond.methodLink RX11 81 yX11_areDays, Cond.static yX11_areDays, Cond.code yX11_areDays cX11_areDays 2 (some .boolean), Cond.methodLink RX11 95 yX11_isDay, Cond.static yX11_isDay, Cond.code yX11_isDay cX11_isDay 1 (some .boolean), Cond.methodLink RX11 88 yX5_init, Cond.instanceMethod yX5_init, Cond.code yX5_init cX5_init 6 none, Cond.fieldLink RX5 9 "NightBook$Span" "number" "I", Cond.fieldLink RX5 15 "NightBook$Span" "person" "I", Cond.fieldLink RX5 18 "NightBook$Span" "from" "I", Cond.fieldLink RX5 21 "NightBook$Span" "to" "I", Cond.fieldLink RX5 24 "NightBook$Span" "lands" "I"]
def wsX11_span_r2 : List Cond := [Cond.instanceMethod yX2_init, Cond.initialized RX2, Cond.code yX2_init cX2_init 1 none, Cond.methodLink RX2 3 objectInit, Cond.instanceMethod objectInit, Cond.code objectInit ⟨#[0xb1]⟩ 1 none, Cond.methodLink RX11 91 yX11_enter, Cond.instanceMethod yX11_enter, Cond.selects RX11 yX11_enter yX11_enter, Cond.code yX11_enter cX11_enter 3 (some .int), Cond.fieldLink RX11 16 "NightBook" "joined" "[Z", Cond.fieldLink RX11 117 "NightBook$Span" "person" "I", Cond.fieldLink RX11 27 "NightBook" "marks" "[LNightBook$Span;", Cond.fieldLink RX11 120 "NightBook$Span" "from" "I", Cond.fieldLink RX11 123 "NightBook$Span" "to" "I", Cond.methodLink RX11 126 yX11_tellAnew, Cond.instanceMethod yX11_tellAnew, Cond.selects RX11 yX11_tellAnew yX11_tellAnew, Cond.code yX11_tellAnew cX11_tellAnew 7 (some .boolean), Cond.fieldLink RX11 64 "NightBook" "mind" "[I", Cond.fieldLink RX11 67 "NightBook" "words" "[I", Cond.fieldLink RX11 113 "NightBook$Span" "dropped" "Z", Cond.fieldLink RX11 22 "NightBook" "cans" "[[I", Cond.methodLink RX11 171 arraycopyName]
def wsX11_span_r3 : List Cond := [Cond.native arraycopyName, Cond.static arraycopyName, Cond.initialized "java/lang/System", Cond.methodLink RX11 160 yJ7_fill_fda19, Cond.static yJ7_fill_fda19, Cond.initialized RJ7, Cond.code yJ7_fill_fda19 cJ7_fill_fda19 5 none, Cond.methodLink RJ7 13 yJ7_rangeCheck_23922, Cond.static yJ7_rangeCheck_23922, Cond.code yJ7_rangeCheck_23922 cJ7_rangeCheck_23922 3 none, Cond.classLink RJ7 45 RJ4, Cond.instantiable RJ4 4, Cond.initialized RJ4, Cond.methodLink RX11 163 ⟨"NightBook$Span", "givesWay", "()Z"⟩, Cond.sameMethod "NightBook$Span" "NightBook$Span" "givesWay" "()Z", Cond.selects RX1 ⟨"NightBook$Span", "givesWay", "()Z"⟩ yX5_givesWay, Cond.instanceMethod yX5_givesWay, Cond.code yX5_givesWay cX5_givesWay 1 (some .boolean), Cond.methodLink RX11 163 yX5_givesWay, Cond.selects RX5 yX5_givesWay yX5_givesWay, Cond.selects RX6 ⟨"NightBook$Span", "givesWay", "()Z"⟩ yX5_givesWay, Cond.instanceMethod ⟨"NightBook$Span", "givesWay", "()Z"⟩, Cond.selects RX10 ⟨"NightBook$Span", "givesWay", "()Z"⟩ yX10_givesWay, Cond.instanceMethod yX10_givesWay]
def wsX11_span_r4 : List Cond := [Cond.initialized RX10, Cond.code yX10_givesWay cX10_givesWay 1 (some .boolean), Cond.methodLink RX11 167 yX11_narrow, Cond.static yX11_narrow, Cond.code yX11_narrow cX11_narrow 6 none, Cond.methodLink RX11 177 Lib.Math.min.name, Cond.static Lib.Math.min.name, Cond.initialized "java/lang/Math", Cond.code Lib.Math.min.name Lib.Math.min.code 2 (some .int), Cond.methodLink RX11 182 Lib.Math.max.name, Cond.static Lib.Math.max.name, Cond.code Lib.Math.max.name Lib.Math.max.code 2 (some .int), Cond.fieldLink RX11 134 "NightBook$Span" "lands" "I"]
def wsX11_span : List Cond := .code yX11_span cX11_span 5 (some .int) :: ((wsX11_span_r1 ++ (wsX11_span_r2 ++ (wsX11_span_r3 ++ wsX11_span_r4))) ++ wsX50 ++ wsX110 ++ wsX10 ++ wsX60 ++ wsX100 ++ wsJ40)
def wsX11_slept_r1 : List Cond := [Cond.classLink RX11 98 RX10, Cond.instantiable RX10 6, Cond.initialized RX10, Cond.fieldLink RX11 85 "NightBook" "markCount" "I", Cond.classLink RX11 103 RX1, Cond.instantiable RX1 6, Cond.initialized RX1, Cond.methodLink RX11 78 yX11_isPerson, Cond.instanceMethod yX11_isPerson, Cond.selects RX11 yX11_isPerson yX11_isPerson, Cond.initialized RX11, Cond.code yX11_isPerson cX11_isPerson 2 (some .boolean), Cond.fieldLink RX11 74 "NightBook" "people" "I", Cond.methodLink RX11 95 yX11_isDay, Cond.static yX11_isDay, Cond.code yX11_isDay cX11_isDay 1 (some .boolean), Cond.methodLink RX11 70 yX11_isLand, Cond.static yX11_isLand, Cond.code yX11_isLand cX11_isLand 1 (some .boolean), Cond.methodLink RX11 100 yX10_init, Cond.instanceMethod yX10_init, Cond.code yX10_init cX10_init 5 none, Cond.methodLink RX10 3 yX1_init, Cond.instanceMethod yX1_init]
def wsX11_slept_r2 : List Cond := [Cond.code yX1_init cX1_init 5 none, Cond.methodLink RX1 3 yX5_init, Cond.instanceMethod yX5_init, Cond.initialized RX5, Cond.code yX5_init cX5_init 6 none, Cond.fieldLink RX5 9 "NightBook$Span" "number" "I", Cond.fieldLink RX5 15 "NightBook$Span" "person" "I", Cond.fieldLink RX5 18 "NightBook$Span" "from" "I", Cond.fieldLink RX5 21 "NightBook$Span" "to" "I", Cond.fieldLink RX5 24 "NightBook$Span" "lands" "I", Cond.instanceMethod yX2_init, Cond.initialized RX2, Cond.code yX2_init cX2_init 1 none, Cond.methodLink RX2 3 objectInit, Cond.instanceMethod objectInit, Cond.code objectInit ⟨#[0xb1]⟩ 1 none, Cond.methodLink RX11 105 yX1_init, Cond.methodLink RX11 91 yX11_enter, Cond.instanceMethod yX11_enter, Cond.selects RX11 yX11_enter yX11_enter, Cond.code yX11_enter cX11_enter 3 (some .int), Cond.fieldLink RX11 16 "NightBook" "joined" "[Z", Cond.fieldLink RX11 117 "NightBook$Span" "person" "I", Cond.fieldLink RX11 27 "NightBook" "marks" "[LNightBook$Span;"]
def wsX11_slept_r3 : List Cond := [Cond.fieldLink RX11 120 "NightBook$Span" "from" "I", Cond.fieldLink RX11 123 "NightBook$Span" "to" "I", Cond.methodLink RX11 126 yX11_tellAnew, Cond.instanceMethod yX11_tellAnew, Cond.selects RX11 yX11_tellAnew yX11_tellAnew, Cond.code yX11_tellAnew cX11_tellAnew 7 (some .boolean), Cond.fieldLink RX11 64 "NightBook" "mind" "[I", Cond.fieldLink RX11 67 "NightBook" "words" "[I", Cond.fieldLink RX11 113 "NightBook$Span" "dropped" "Z", Cond.fieldLink RX11 22 "NightBook" "cans" "[[I", Cond.methodLink RX11 171 arraycopyName, Cond.native arraycopyName, Cond.static arraycopyName, Cond.initialized "java/lang/System", Cond.methodLink RX11 160 yJ7_fill_fda19, Cond.static yJ7_fill_fda19, Cond.initialized RJ7, Cond.code yJ7_fill_fda19 cJ7_fill_fda19 5 none, Cond.methodLink RJ7 13 yJ7_rangeCheck_23922, Cond.static yJ7_rangeCheck_23922, Cond.code yJ7_rangeCheck_23922 cJ7_rangeCheck_23922 3 none, Cond.classLink RJ7 45 RJ4, Cond.instantiable RJ4 4, Cond.initialized RJ4]
def wsX11_slept_r4 : List Cond := [Cond.methodLink RX11 163 ⟨"NightBook$Span", "givesWay", "()Z"⟩, Cond.sameMethod "NightBook$Span" "NightBook$Span" "givesWay" "()Z", Cond.selects RX1 ⟨"NightBook$Span", "givesWay", "()Z"⟩ yX5_givesWay, Cond.instanceMethod yX5_givesWay, Cond.code yX5_givesWay cX5_givesWay 1 (some .boolean), Cond.methodLink RX11 163 yX5_givesWay, Cond.selects RX5 yX5_givesWay yX5_givesWay, Cond.selects RX6 ⟨"NightBook$Span", "givesWay", "()Z"⟩ yX5_givesWay, Cond.instanceMethod ⟨"NightBook$Span", "givesWay", "()Z"⟩, Cond.selects RX10 ⟨"NightBook$Span", "givesWay", "()Z"⟩ yX10_givesWay, Cond.instanceMethod yX10_givesWay, Cond.code yX10_givesWay cX10_givesWay 1 (some .boolean), Cond.methodLink RX11 167 yX11_narrow, Cond.static yX11_narrow, Cond.code yX11_narrow cX11_narrow 6 none, Cond.methodLink RX11 177 Lib.Math.min.name, Cond.static Lib.Math.min.name, Cond.initialized "java/lang/Math", Cond.code Lib.Math.min.name Lib.Math.min.code 2 (some .int), Cond.methodLink RX11 182 Lib.Math.max.name, Cond.static Lib.Math.max.name, Cond.code Lib.Math.max.name Lib.Math.max.code 2 (some .int), Cond.fieldLink RX11 134 "NightBook$Span" "lands" "I"]
def wsX11_slept : List Cond := .code yX11_slept cX11_slept 5 (some .int) :: ((wsX11_slept_r1 ++ (wsX11_slept_r2 ++ (wsX11_slept_r3 ++ wsX11_slept_r4))) ++ wsX100 ++ wsX110 ++ wsX10 ++ wsX50 ++ wsX60 ++ wsJ40)
def wsX11_stamp_r1 : List Cond := [Cond.classLink RX11 106 RX6, Cond.instantiable RX6 6, Cond.initialized RX6, Cond.fieldLink RX11 85 "NightBook" "markCount" "I", Cond.methodLink RX11 78 yX11_isPerson, Cond.instanceMethod yX11_isPerson, Cond.selects RX11 yX11_isPerson yX11_isPerson, Cond.initialized RX11, Cond.code yX11_isPerson cX11_isPerson 2 (some .boolean), Cond.fieldLink RX11 74 "NightBook" "people" "I", Cond.methodLink RX11 81 yX11_areDays, Cond.static yX11_areDays, Cond.code yX11_areDays cX11_areDays 2 (some .boolean), Cond.methodLink RX11 95 yX11_isDay, Cond.static yX11_isDay, Cond.code yX11_isDay cX11_isDay 1 (some .boolean), Cond.methodLink RX11 70 yX11_isLand, Cond.static yX11_isLand, Cond.code yX11_isLand cX11_isLand 1 (some .boolean), Cond.methodLink RX11 108 yX6_init, Cond.instanceMethod yX6_init, Cond.code yX6_init cX6_init 6 none, Cond.methodLink RX6 3 yX5_init, Cond.instanceMethod yX5_init]
def wsX11_stamp_r2 : List Cond := [Cond.initialized RX5, Cond.code yX5_init cX5_init 6 none, Cond.fieldLink RX5 9 "NightBook$Span" "number" "I", Cond.fieldLink RX5 15 "NightBook$Span" "person" "I", Cond.fieldLink RX5 18 "NightBook$Span" "from" "I", Cond.fieldLink RX5 21 "NightBook$Span" "to" "I", Cond.fieldLink RX5 24 "NightBook$Span" "lands" "I", Cond.instanceMethod yX2_init, Cond.initialized RX2, Cond.code yX2_init cX2_init 1 none, Cond.methodLink RX2 3 objectInit, Cond.instanceMethod objectInit, Cond.code objectInit ⟨#[0xb1]⟩ 1 none, Cond.methodLink RX11 91 yX11_enter, Cond.instanceMethod yX11_enter, Cond.selects RX11 yX11_enter yX11_enter, Cond.code yX11_enter cX11_enter 3 (some .int), Cond.fieldLink RX11 16 "NightBook" "joined" "[Z", Cond.fieldLink RX11 117 "NightBook$Span" "person" "I", Cond.fieldLink RX11 27 "NightBook" "marks" "[LNightBook$Span;", Cond.fieldLink RX11 120 "NightBook$Span" "from" "I", Cond.fieldLink RX11 123 "NightBook$Span" "to" "I", Cond.methodLink RX11 126 yX11_tellAnew, Cond.instanceMethod yX11_tellAnew]
def wsX11_stamp_r3 : List Cond := [Cond.selects RX11 yX11_tellAnew yX11_tellAnew, Cond.code yX11_tellAnew cX11_tellAnew 7 (some .boolean), Cond.fieldLink RX11 64 "NightBook" "mind" "[I", Cond.fieldLink RX11 67 "NightBook" "words" "[I", Cond.fieldLink RX11 113 "NightBook$Span" "dropped" "Z", Cond.fieldLink RX11 22 "NightBook" "cans" "[[I", Cond.methodLink RX11 171 arraycopyName, Cond.native arraycopyName, Cond.static arraycopyName, Cond.initialized "java/lang/System", Cond.methodLink RX11 160 yJ7_fill_fda19, Cond.static yJ7_fill_fda19, Cond.initialized RJ7, Cond.code yJ7_fill_fda19 cJ7_fill_fda19 5 none, Cond.methodLink RJ7 13 yJ7_rangeCheck_23922, Cond.static yJ7_rangeCheck_23922, Cond.code yJ7_rangeCheck_23922 cJ7_rangeCheck_23922 3 none, Cond.classLink RJ7 45 RJ4, Cond.instantiable RJ4 4, Cond.initialized RJ4, Cond.methodLink RX11 163 ⟨"NightBook$Span", "givesWay", "()Z"⟩, Cond.sameMethod "NightBook$Span" "NightBook$Span" "givesWay" "()Z", Cond.selects RX1 ⟨"NightBook$Span", "givesWay", "()Z"⟩ yX5_givesWay, Cond.instanceMethod yX5_givesWay]
def wsX11_stamp_r4 : List Cond := [Cond.code yX5_givesWay cX5_givesWay 1 (some .boolean), Cond.methodLink RX11 163 yX5_givesWay, Cond.selects RX5 yX5_givesWay yX5_givesWay, Cond.selects RX6 ⟨"NightBook$Span", "givesWay", "()Z"⟩ yX5_givesWay, Cond.instanceMethod ⟨"NightBook$Span", "givesWay", "()Z"⟩, Cond.selects RX10 ⟨"NightBook$Span", "givesWay", "()Z"⟩ yX10_givesWay, Cond.instanceMethod yX10_givesWay, Cond.initialized RX10, Cond.code yX10_givesWay cX10_givesWay 1 (some .boolean), Cond.methodLink RX11 167 yX11_narrow, Cond.static yX11_narrow, Cond.code yX11_narrow cX11_narrow 6 none, Cond.methodLink RX11 177 Lib.Math.min.name, Cond.static Lib.Math.min.name, Cond.initialized "java/lang/Math", Cond.code Lib.Math.min.name Lib.Math.min.code 2 (some .int), Cond.methodLink RX11 182 Lib.Math.max.name, Cond.static Lib.Math.max.name, Cond.code Lib.Math.max.name Lib.Math.max.code 2 (some .int), Cond.fieldLink RX11 134 "NightBook$Span" "lands" "I"]
def wsX11_stamp : List Cond := .code yX11_stamp cX11_stamp 5 (some .int) :: ((wsX11_stamp_r1 ++ (wsX11_stamp_r2 ++ (wsX11_stamp_r3 ++ wsX11_stamp_r4))) ++ wsX60 ++ wsX110 ++ wsX10 ++ wsX50 ++ wsX100 ++ wsJ40)
def wsX11_markAt : List Cond := .code yX11_markAt cX11_markAt 2 (some (.object "NightBook$Span")) :: ([.fieldLink RX11 85 "NightBook" "markCount" "I", .fieldLink RX11 27 "NightBook" "marks" "[LNightBook$Span;"] ++ wsX110)
def wsX11_drop_r1 : List Cond := [Cond.fieldLink RX11 113 "NightBook$Span" "dropped" "Z", Cond.fieldLink RX11 117 "NightBook$Span" "person" "I", Cond.fieldLink RX11 120 "NightBook$Span" "from" "I", Cond.fieldLink RX11 123 "NightBook$Span" "to" "I", Cond.methodLink RX11 109 yX11_markAt, Cond.instanceMethod yX11_markAt, Cond.selects RX11 yX11_markAt yX11_markAt, Cond.initialized RX11, Cond.code yX11_markAt cX11_markAt 2 (some (.object "NightBook$Span")), Cond.fieldLink RX11 85 "NightBook" "markCount" "I", Cond.fieldLink RX11 27 "NightBook" "marks" "[LNightBook$Span;", Cond.methodLink RX11 126 yX11_tellAnew, Cond.instanceMethod yX11_tellAnew, Cond.selects RX11 yX11_tellAnew yX11_tellAnew, Cond.code yX11_tellAnew cX11_tellAnew 7 (some .boolean), Cond.fieldLink RX11 64 "NightBook" "mind" "[I", Cond.fieldLink RX11 67 "NightBook" "words" "[I", Cond.fieldLink RX11 22 "NightBook" "cans" "[[I", Cond.methodLink RX11 171 arraycopyName, Cond.native arraycopyName, Cond.static arraycopyName, Cond.initialized "java/lang/System", Cond.methodLink RX11 160 yJ7_fill_fda19, Cond.static yJ7_fill_fda19]
def wsX11_drop_r2 : List Cond := [Cond.initialized RJ7, Cond.code yJ7_fill_fda19 cJ7_fill_fda19 5 none, Cond.methodLink RJ7 13 yJ7_rangeCheck_23922, Cond.static yJ7_rangeCheck_23922, Cond.code yJ7_rangeCheck_23922 cJ7_rangeCheck_23922 3 none, Cond.classLink RJ7 45 RJ4, Cond.instantiable RJ4 4, Cond.initialized RJ4, Cond.methodLink RX11 163 ⟨"NightBook$Span", "givesWay", "()Z"⟩, Cond.sameMethod "NightBook$Span" "NightBook$Span" "givesWay" "()Z", Cond.selects RX1 ⟨"NightBook$Span", "givesWay", "()Z"⟩ yX5_givesWay, Cond.instanceMethod yX5_givesWay, Cond.initialized RX5, Cond.code yX5_givesWay cX5_givesWay 1 (some .boolean), Cond.methodLink RX11 163 yX5_givesWay, Cond.selects RX5 yX5_givesWay yX5_givesWay, Cond.selects RX6 ⟨"NightBook$Span", "givesWay", "()Z"⟩ yX5_givesWay, Cond.instanceMethod ⟨"NightBook$Span", "givesWay", "()Z"⟩, Cond.selects RX10 ⟨"NightBook$Span", "givesWay", "()Z"⟩ yX10_givesWay, Cond.instanceMethod yX10_givesWay, Cond.initialized RX10, Cond.code yX10_givesWay cX10_givesWay 1 (some .boolean), Cond.methodLink RX11 167 yX11_narrow, Cond.static yX11_narrow]
def wsX11_drop_r3 : List Cond := [Cond.code yX11_narrow cX11_narrow 6 none, Cond.methodLink RX11 177 Lib.Math.min.name, Cond.static Lib.Math.min.name, Cond.initialized "java/lang/Math", Cond.code Lib.Math.min.name Lib.Math.min.code 2 (some .int), Cond.methodLink RX11 182 Lib.Math.max.name, Cond.static Lib.Math.max.name, Cond.code Lib.Math.max.name Lib.Math.max.code 2 (some .int), Cond.fieldLink RX11 134 "NightBook$Span" "lands" "I"]
def wsX11_drop : List Cond := .code yX11_drop cX11_drop 4 (some .int) :: ((wsX11_drop_r1 ++ (wsX11_drop_r2 ++ wsX11_drop_r3)) ++ wsX10 ++ wsX50 ++ wsX60 ++ wsX100 ++ wsX110 ++ wsJ40)
def wsX11_mark_r1 : List Cond := [Cond.fieldLink RX11 117 "NightBook$Span" "person" "I", Cond.fieldLink RX11 120 "NightBook$Span" "from" "I", Cond.fieldLink RX11 123 "NightBook$Span" "to" "I", Cond.fieldLink RX11 134 "NightBook$Span" "lands" "I", Cond.fieldLink RX11 113 "NightBook$Span" "dropped" "Z", Cond.methodLink RX11 109 yX11_markAt, Cond.instanceMethod yX11_markAt, Cond.selects RX11 yX11_markAt yX11_markAt, Cond.initialized RX11, Cond.code yX11_markAt cX11_markAt 2 (some (.object "NightBook$Span")), Cond.fieldLink RX11 85 "NightBook" "markCount" "I", Cond.fieldLink RX11 27 "NightBook" "marks" "[LNightBook$Span;", Cond.methodLink RX11 130 ⟨"NightBook$Span", "kind", "()I"⟩, Cond.sameMethod "NightBook$Span" "NightBook$Span" "kind" "()I", Cond.instanceMethod ⟨"NightBook$Span", "kind", "()I"⟩, Cond.selects RX1 ⟨"NightBook$Span", "kind", "()I"⟩ yX1_kind, Cond.instanceMethod yX1_kind, Cond.initialized RX1, Cond.code yX1_kind cX1_kind 1 (some .int), Cond.code yX5_kind cX5_kind 1 (some .int), Cond.methodLink RX11 130 yX5_kind, Cond.instanceMethod yX5_kind, Cond.selects RX5 yX5_kind yX5_kind, Cond.initialized RX5]
def wsX11_mark_r2 : List Cond := [Cond.selects RX6 ⟨"NightBook$Span", "kind", "()I"⟩ yX6_kind, Cond.instanceMethod yX6_kind, Cond.initialized RX6, Cond.code yX6_kind cX6_kind 1 (some .int), Cond.selects RX10 ⟨"NightBook$Span", "kind", "()I"⟩ yX10_kind, Cond.instanceMethod yX10_kind, Cond.initialized RX10, Cond.code yX10_kind cX10_kind 1 (some .int)]
def wsX11_mark : List Cond := .code yX11_mark cX11_mark 4 (some .int) :: ((wsX11_mark_r1 ++ wsX11_mark_r2) ++ wsX10 ++ wsX50 ++ wsX60 ++ wsX100 ++ wsX110)
def wsX11_can : List Cond := .code yX11_can cX11_can 3 (some .int) :: ([.fieldLink RX11 22 "NightBook" "cans" "[[I", .methodLink RX11 78 yX11_isPerson, .instanceMethod yX11_isPerson, .selects RX11 yX11_isPerson yX11_isPerson, .initialized RX11, .code yX11_isPerson cX11_isPerson 2 (some .boolean), .fieldLink RX11 74 "NightBook" "people" "I", .methodLink RX11 95 yX11_isDay, .static yX11_isDay, .code yX11_isDay cX11_isDay 1 (some .boolean)] ++ wsX110)
def wsX11_nights_r1 : List Cond := [Cond.fieldLink RX11 57 "NightBook" "tallies" "[LNightBook$Tally;", Cond.fieldLink RX11 22 "NightBook" "cans" "[[I", Cond.fieldLink RX11 141 "NightBook$Tally" "most" "I", Cond.fieldLink RX11 144 "NightBook$Tally" "least" "I", Cond.methodLink RX11 78 yX11_isPerson, Cond.instanceMethod yX11_isPerson, Cond.selects RX11 yX11_isPerson yX11_isPerson, Cond.initialized RX11, Cond.code yX11_isPerson cX11_isPerson 2 (some .boolean), Cond.fieldLink RX11 74 "NightBook" "people" "I", Cond.methodLink RX11 70 yX11_isLand, Cond.static yX11_isLand, Cond.code yX11_isLand cX11_isLand 1 (some .boolean), Cond.methodLink RX11 81 yX11_areDays, Cond.static yX11_areDays, Cond.code yX11_areDays cX11_areDays 2 (some .boolean), Cond.methodLink RX11 95 yX11_isDay, Cond.static yX11_isDay, Cond.code yX11_isDay cX11_isDay 1 (some .boolean), Cond.methodLink RX11 137 yX8_sum, Cond.instanceMethod yX8_sum, Cond.selects RX8 yX8_sum yX8_sum, Cond.initialized RX8, Cond.code yX8_sum cX8_sum 5 none]
def wsX11_nights_r2 : List Cond := [Cond.fieldLink RX8 13 "NightBook$Tally" "least" "I", Cond.fieldLink RX8 16 "NightBook$Tally" "most" "I", Cond.methodLink RX8 19 Lib.Math.max.name, Cond.static Lib.Math.max.name, Cond.initialized "java/lang/Math", Cond.code Lib.Math.max.name Lib.Math.max.code 2 (some .int), Cond.methodLink RX8 25 yX8_add, Cond.instanceMethod yX8_add, Cond.selects RX8 yX8_add yX8_add, Cond.code yX8_add cX8_add 3 none, Cond.fieldLink RX8 7 "NightBook$Tally" "land" "I"]
def wsX11_nights : List Cond := .code yX11_nights cX11_nights 7 (some .int) :: ((wsX11_nights_r1 ++ wsX11_nights_r2) ++ wsX110 ++ wsX80)
def wsJ6_bitCount_0f7a4 : List Cond := .code yJ6_bitCount_0f7a4 cJ6_bitCount_0f7a4 1 (some .int) :: ([.constant RJ6 265 (1431655765), .constant RJ6 266 (858993459), .constant RJ6 267 (252645135)])
def wsX11_sure : List Cond := .code yX11_sure cX11_sure 6 (some .int) :: ([.fieldLink RX11 22 "NightBook" "cans" "[[I", .methodLink RX11 78 yX11_isPerson, .instanceMethod yX11_isPerson, .selects RX11 yX11_isPerson yX11_isPerson, .initialized RX11, .code yX11_isPerson cX11_isPerson 2 (some .boolean), .fieldLink RX11 74 "NightBook" "people" "I", .methodLink RX11 81 yX11_areDays, .static yX11_areDays, .code yX11_areDays cX11_areDays 2 (some .boolean), .methodLink RX11 95 yX11_isDay, .static yX11_isDay, .code yX11_isDay cX11_isDay 1 (some .boolean), .methodLink RX11 147 yJ6_bitCount_0f7a4, .static yJ6_bitCount_0f7a4, .initialized RJ6, .code yJ6_bitCount_0f7a4 cJ6_bitCount_0f7a4 1 (some .int), .constant RJ6 265 (1431655765), .constant RJ6 266 (858993459), .constant RJ6 267 (252645135)] ++ wsX110)
def wsX11_handOverMarks : List Cond := .code yX11_handOverMarks cX11_handOverMarks 6 (some .int) :: ([.fieldLink RX11 85 "NightBook" "markCount" "I", .fieldLink RX11 27 "NightBook" "marks" "[LNightBook$Span;", .fieldLink RX11 117 "NightBook$Span" "person" "I"] ++ wsX110 ++ wsX10 ++ wsX50 ++ wsX60 ++ wsX100)
def wsX11_join_r1 : List Cond := [Cond.fieldLink RX11 16 "NightBook" "joined" "[Z", Cond.fieldLink RX11 22 "NightBook" "cans" "[[I", Cond.methodLink RX11 78 yX11_isPerson, Cond.instanceMethod yX11_isPerson, Cond.selects RX11 yX11_isPerson yX11_isPerson, Cond.initialized RX11, Cond.code yX11_isPerson cX11_isPerson 2 (some .boolean), Cond.fieldLink RX11 74 "NightBook" "people" "I", Cond.methodLink RX11 126 yX11_tellAnew, Cond.instanceMethod yX11_tellAnew, Cond.selects RX11 yX11_tellAnew yX11_tellAnew, Cond.code yX11_tellAnew cX11_tellAnew 7 (some .boolean), Cond.fieldLink RX11 64 "NightBook" "mind" "[I", Cond.fieldLink RX11 67 "NightBook" "words" "[I", Cond.fieldLink RX11 85 "NightBook" "markCount" "I", Cond.fieldLink RX11 27 "NightBook" "marks" "[LNightBook$Span;", Cond.fieldLink RX11 113 "NightBook$Span" "dropped" "Z", Cond.fieldLink RX11 117 "NightBook$Span" "person" "I", Cond.methodLink RX11 171 arraycopyName, Cond.native arraycopyName, Cond.static arraycopyName, Cond.initialized "java/lang/System", Cond.methodLink RX11 160 yJ7_fill_fda19, Cond.static yJ7_fill_fda19]
def wsX11_join_r2 : List Cond := [Cond.initialized RJ7, Cond.code yJ7_fill_fda19 cJ7_fill_fda19 5 none, Cond.methodLink RJ7 13 yJ7_rangeCheck_23922, Cond.static yJ7_rangeCheck_23922, Cond.code yJ7_rangeCheck_23922 cJ7_rangeCheck_23922 3 none, Cond.classLink RJ7 45 RJ4, Cond.instantiable RJ4 4, Cond.initialized RJ4, Cond.methodLink RX11 163 ⟨"NightBook$Span", "givesWay", "()Z"⟩, Cond.sameMethod "NightBook$Span" "NightBook$Span" "givesWay" "()Z", Cond.selects RX1 ⟨"NightBook$Span", "givesWay", "()Z"⟩ yX5_givesWay, Cond.instanceMethod yX5_givesWay, Cond.initialized RX5, Cond.code yX5_givesWay cX5_givesWay 1 (some .boolean), Cond.methodLink RX11 163 yX5_givesWay, Cond.selects RX5 yX5_givesWay yX5_givesWay, Cond.selects RX6 ⟨"NightBook$Span", "givesWay", "()Z"⟩ yX5_givesWay, Cond.instanceMethod ⟨"NightBook$Span", "givesWay", "()Z"⟩, Cond.selects RX10 ⟨"NightBook$Span", "givesWay", "()Z"⟩ yX10_givesWay, Cond.instanceMethod yX10_givesWay, Cond.initialized RX10, Cond.code yX10_givesWay cX10_givesWay 1 (some .boolean), Cond.methodLink RX11 167 yX11_narrow, Cond.static yX11_narrow]
def wsX11_join_r3 : List Cond := [Cond.code yX11_narrow cX11_narrow 6 none, Cond.fieldLink RX11 123 "NightBook$Span" "to" "I", Cond.methodLink RX11 177 Lib.Math.min.name, Cond.static Lib.Math.min.name, Cond.initialized "java/lang/Math", Cond.code Lib.Math.min.name Lib.Math.min.code 2 (some .int), Cond.fieldLink RX11 120 "NightBook$Span" "from" "I", Cond.methodLink RX11 182 Lib.Math.max.name, Cond.static Lib.Math.max.name, Cond.code Lib.Math.max.name Lib.Math.max.code 2 (some .int), Cond.fieldLink RX11 134 "NightBook$Span" "lands" "I", Cond.methodLink RX11 40 yJ7_fill_53178, Cond.static yJ7_fill_53178, Cond.code yJ7_fill_53178 cJ7_fill_53178 4 none, Cond.methodLink RX11 153 yX11_handOverMarks, Cond.instanceMethod yX11_handOverMarks, Cond.selects RX11 yX11_handOverMarks yX11_handOverMarks, Cond.code yX11_handOverMarks cX11_handOverMarks 6 (some .int)]
def wsX11_join : List Cond := .code yX11_join cX11_join 3 (some .int) :: ((wsX11_join_r1 ++ (wsX11_join_r2 ++ wsX11_join_r3)) ++ wsX110 ++ wsX10 ++ wsX50 ++ wsX60 ++ wsX100 ++ wsJ40)
def wsX11_isYear : List Cond := .code yX11_isYear cX11_isYear 1 (some .boolean) :: ([])
def wsX11_isShelf : List Cond := .code yX11_isShelf cX11_isShelf 1 (some .boolean) :: ([])
def wsX11_lawAt : List Cond := .code yX11_lawAt cX11_lawAt 2 (some (.object "NightBook$Window")) :: ([.fieldLink RX11 157 "NightBook" "lawCount" "I", .fieldLink RX11 33 "NightBook" "laws" "[LNightBook$Window;"] ++ wsX110)
def wsX11_newLaw_r1 : List Cond := [Cond.classLink RX11 212 RX7, Cond.instantiable RX7 6, Cond.initialized RX7, Cond.classLink RX11 217 RX3, Cond.instantiable RX3 6, Cond.initialized RX3, Cond.classLink RX11 222 RX0, Cond.instantiable RX0 6, Cond.initialized RX0, Cond.classLink RX11 31 RX9, Cond.instantiable RX9 6, Cond.initialized RX9, Cond.methodLink RX11 214 yX7_init, Cond.instanceMethod yX7_init, Cond.code yX7_init cX7_init 3 none, Cond.methodLink RX7 3 yX9_init, Cond.instanceMethod yX9_init, Cond.code yX9_init cX9_init 4 none, Cond.fieldLink RX9 9 "NightBook$Window" "land" "I", Cond.fieldLink RX9 15 "NightBook$Window" "n" "I", Cond.fieldLink RX9 18 "NightBook$Window" "reach" "I", Cond.classLink RX9 21 RX8, Cond.instantiable RX8 3, Cond.initialized RX8]
def wsX11_newLaw_r2 : List Cond := [Cond.fieldLink RX9 26 "NightBook$Window" "here" "LNightBook$Tally;", Cond.fieldLink RX9 30 "NightBook$Window" "end" "LNightBook$Tally;", Cond.instanceMethod yX2_init, Cond.initialized RX2, Cond.code yX2_init cX2_init 1 none, Cond.methodLink RX2 3 objectInit, Cond.instanceMethod objectInit, Cond.code objectInit ⟨#[0xb1]⟩ 1 none, Cond.methodLink RX9 23 yX8_init, Cond.instanceMethod yX8_init, Cond.code yX8_init cX8_init 2 none, Cond.methodLink RX8 1 objectInit, Cond.fieldLink RX8 7 "NightBook$Tally" "land" "I", Cond.methodLink RX11 219 yX3_init, Cond.instanceMethod yX3_init, Cond.code yX3_init cX3_init 4 none, Cond.methodLink RX3 3 yX9_init, Cond.methodLink RX11 224 yX0_init, Cond.instanceMethod yX0_init, Cond.code yX0_init cX0_init 3 none, Cond.methodLink RX0 3 yX7_init, Cond.methodLink RX11 225 yX9_init]
def wsX11_newLaw : List Cond := .code yX11_newLaw cX11_newLaw 4 (some (.object "NightBook$Window")) :: ((wsX11_newLaw_r1 ++ wsX11_newLaw_r2) ++ wsX70 ++ wsX30 ++ wsX00 ++ wsX90 ++ wsX80)
def wsX11_law_r1 : List Cond := [Cond.fieldLink RX11 157 "NightBook" "lawCount" "I", Cond.fieldLink RX11 33 "NightBook" "laws" "[LNightBook$Window;", Cond.methodLink RX11 70 yX11_isLand, Cond.static yX11_isLand, Cond.initialized RX11, Cond.code yX11_isLand cX11_isLand 1 (some .boolean), Cond.methodLink RX11 185 yX11_newLaw, Cond.static yX11_newLaw, Cond.code yX11_newLaw cX11_newLaw 4 (some (.object "NightBook$Window")), Cond.classLink RX11 212 RX7, Cond.instantiable RX7 6, Cond.initialized RX7, Cond.classLink RX11 217 RX3, Cond.instantiable RX3 6, Cond.initialized RX3, Cond.classLink RX11 222 RX0, Cond.instantiable RX0 6, Cond.initialized RX0, Cond.classLink RX11 31 RX9, Cond.instantiable RX9 6, Cond.initialized RX9, Cond.methodLink RX11 214 yX7_init, Cond.instanceMethod yX7_init, Cond.code yX7_init cX7_init 3 none]
def wsX11_law_r2 : List Cond := [Cond.methodLink RX7 3 yX9_init, Cond.instanceMethod yX9_init, Cond.code yX9_init cX9_init 4 none, Cond.fieldLink RX9 9 "NightBook$Window" "land" "I", Cond.fieldLink RX9 15 "NightBook$Window" "n" "I", Cond.fieldLink RX9 18 "NightBook$Window" "reach" "I", Cond.classLink RX9 21 RX8, Cond.instantiable RX8 3, Cond.initialized RX8, Cond.fieldLink RX9 26 "NightBook$Window" "here" "LNightBook$Tally;", Cond.fieldLink RX9 30 "NightBook$Window" "end" "LNightBook$Tally;", Cond.instanceMethod yX2_init, Cond.initialized RX2, Cond.code yX2_init cX2_init 1 none, Cond.methodLink RX2 3 objectInit, Cond.instanceMethod objectInit, Cond.code objectInit ⟨#[0xb1]⟩ 1 none, Cond.methodLink RX9 23 yX8_init, Cond.instanceMethod yX8_init, Cond.code yX8_init cX8_init 2 none, Cond.methodLink RX8 1 objectInit, Cond.fieldLink RX8 7 "NightBook$Tally" "land" "I", Cond.methodLink RX11 219 yX3_init, Cond.instanceMethod yX3_init]
def wsX11_law_r3 : List Cond := [Cond.code yX3_init cX3_init 4 none, Cond.methodLink RX3 3 yX9_init, Cond.methodLink RX11 224 yX0_init, Cond.instanceMethod yX0_init, Cond.code yX0_init cX0_init 3 none, Cond.methodLink RX0 3 yX7_init, Cond.methodLink RX11 225 yX9_init]
def wsX11_law : List Cond := .code yX11_law cX11_law 7 (some .int) :: ((wsX11_law_r1 ++ (wsX11_law_r2 ++ wsX11_law_r3)) ++ wsX110 ++ wsX70 ++ wsX30 ++ wsX00 ++ wsX90 ++ wsX80)
def wsX11_kept_r1 : List Cond := [Cond.fieldLink RX11 22 "NightBook" "cans" "[[I", Cond.fieldLink RX11 196 "NightBook$Window" "here" "LNightBook$Tally;", Cond.methodLink RX11 189 yX11_lawAt, Cond.instanceMethod yX11_lawAt, Cond.selects RX11 yX11_lawAt yX11_lawAt, Cond.initialized RX11, Cond.code yX11_lawAt cX11_lawAt 2 (some (.object "NightBook$Window")), Cond.fieldLink RX11 157 "NightBook" "lawCount" "I", Cond.fieldLink RX11 33 "NightBook" "laws" "[LNightBook$Window;", Cond.methodLink RX11 78 yX11_isPerson, Cond.instanceMethod yX11_isPerson, Cond.selects RX11 yX11_isPerson yX11_isPerson, Cond.code yX11_isPerson cX11_isPerson 2 (some .boolean), Cond.fieldLink RX11 74 "NightBook" "people" "I", Cond.methodLink RX11 95 yX11_isDay, Cond.static yX11_isDay, Cond.code yX11_isDay cX11_isDay 1 (some .boolean), Cond.methodLink RX11 193 ⟨"NightBook$Window", "lookAt", "([II)V"⟩, Cond.sameMethod "NightBook$Window" "NightBook$Window" "lookAt" "([II)V", Cond.selects RX0 ⟨"NightBook$Window", "lookAt", "([II)V"⟩ yX9_lookAt, Cond.instanceMethod yX9_lookAt, Cond.initialized RX9, Cond.code yX9_lookAt cX9_lookAt 3 none, Cond.fieldLink RX9 26 "NightBook$Window" "here" "LNightBook$Tally;"]
def wsX11_kept_r2 : List Cond := [Cond.fieldLink RX9 18 "NightBook$Window" "reach" "I", Cond.methodLink RX9 39 yX8_sum, Cond.instanceMethod yX8_sum, Cond.selects RX8 yX8_sum yX8_sum, Cond.initialized RX8, Cond.code yX8_sum cX8_sum 5 none, Cond.fieldLink RX8 13 "NightBook$Tally" "least" "I", Cond.fieldLink RX8 16 "NightBook$Tally" "most" "I", Cond.methodLink RX8 19 Lib.Math.max.name, Cond.static Lib.Math.max.name, Cond.initialized "java/lang/Math", Cond.code Lib.Math.max.name Lib.Math.max.code 2 (some .int), Cond.methodLink RX8 25 yX8_add, Cond.instanceMethod yX8_add, Cond.selects RX8 yX8_add yX8_add, Cond.code yX8_add cX8_add 3 none, Cond.fieldLink RX8 7 "NightBook$Tally" "land" "I", Cond.selects RX3 ⟨"NightBook$Window", "lookAt", "([II)V"⟩ yX9_lookAt, Cond.selects RX7 ⟨"NightBook$Window", "lookAt", "([II)V"⟩ yX9_lookAt, Cond.methodLink RX11 193 yX9_lookAt, Cond.selects RX9 yX9_lookAt yX9_lookAt, Cond.methodLink RX11 200 ⟨"NightBook$Window", "verdict", "(LNightBook$Tally;I)I"⟩, Cond.sameMethod "NightBook$Window" "NightBook$Window" "verdict" "(LNightBook$Tally;I)I", Cond.instanceMethod ⟨"NightBook$Window", "verdict", "(LNightBook$Tally;I)I"⟩]
def wsX11_kept_r3 : List Cond := [Cond.selects RX0 ⟨"NightBook$Window", "verdict", "(LNightBook$Tally;I)I"⟩ yX0_verdict, Cond.instanceMethod yX0_verdict, Cond.initialized RX0, Cond.code yX0_verdict cX0_verdict 3 (some .int), Cond.fieldLink RX0 9 "NightBook$Absent" "n" "I", Cond.sameField "NightBook$Absent" "NightBook$Window" "n" "I", Cond.fieldLink RX0 15 "NightBook$Tally" "least" "I", Cond.fieldLink RX0 20 "NightBook$Tally" "most" "I", Cond.code yX9_verdict cX9_verdict 3 (some .int), Cond.selects RX3 ⟨"NightBook$Window", "verdict", "(LNightBook$Tally;I)I"⟩ yX3_verdict, Cond.instanceMethod yX3_verdict, Cond.initialized RX3, Cond.code yX3_verdict cX3_verdict 3 (some .int), Cond.fieldLink RX3 9 "NightBook$Tally" "least" "I", Cond.fieldLink RX3 15 "NightBook$Needs" "n" "I", Cond.sameField "NightBook$Needs" "NightBook$Window" "n" "I", Cond.fieldLink RX3 20 "NightBook$Tally" "most" "I", Cond.selects RX7 ⟨"NightBook$Window", "verdict", "(LNightBook$Tally;I)I"⟩ yX9_verdict, Cond.instanceMethod yX9_verdict, Cond.fieldLink RX9 33 "NightBook$Tally" "most" "I", Cond.fieldLink RX9 15 "NightBook$Window" "n" "I", Cond.fieldLink RX9 36 "NightBook$Tally" "least" "I", Cond.methodLink RX11 200 yX9_verdict, Cond.selects RX9 yX9_verdict yX9_verdict]
def wsX11_kept : List Cond := .code yX11_kept cX11_kept 5 (some .int) :: ((wsX11_kept_r1 ++ (wsX11_kept_r2 ++ wsX11_kept_r3)) ++ wsX110 ++ wsX00 ++ wsX30 ++ wsX70 ++ wsX90 ++ wsX80)
def wsX11_firstAtMost_r1 : List Cond := [Cond.fieldLink RX11 196 "NightBook$Window" "here" "LNightBook$Tally;", Cond.methodLink RX11 193 ⟨"NightBook$Window", "lookAt", "([II)V"⟩, Cond.sameMethod "NightBook$Window" "NightBook$Window" "lookAt" "([II)V", Cond.selects RX0 ⟨"NightBook$Window", "lookAt", "([II)V"⟩ yX9_lookAt, Cond.instanceMethod yX9_lookAt, Cond.initialized RX9, Cond.code yX9_lookAt cX9_lookAt 3 none, Cond.fieldLink RX9 26 "NightBook$Window" "here" "LNightBook$Tally;", Cond.fieldLink RX9 18 "NightBook$Window" "reach" "I", Cond.methodLink RX9 39 yX8_sum, Cond.instanceMethod yX8_sum, Cond.selects RX8 yX8_sum yX8_sum, Cond.initialized RX8, Cond.code yX8_sum cX8_sum 5 none, Cond.fieldLink RX8 13 "NightBook$Tally" "least" "I", Cond.fieldLink RX8 16 "NightBook$Tally" "most" "I", Cond.methodLink RX8 19 Lib.Math.max.name, Cond.static Lib.Math.max.name, Cond.initialized "java/lang/Math", Cond.code Lib.Math.max.name Lib.Math.max.code 2 (some .int), Cond.methodLink RX8 25 yX8_add, Cond.instanceMethod yX8_add, Cond.selects RX8 yX8_add yX8_add, Cond.code yX8_add cX8_add 3 none]
def wsX11_firstAtMost_r2 : List Cond := [Cond.fieldLink RX8 7 "NightBook$Tally" "land" "I", Cond.selects RX3 ⟨"NightBook$Window", "lookAt", "([II)V"⟩ yX9_lookAt, Cond.selects RX7 ⟨"NightBook$Window", "lookAt", "([II)V"⟩ yX9_lookAt, Cond.methodLink RX11 193 yX9_lookAt, Cond.selects RX9 yX9_lookAt yX9_lookAt, Cond.methodLink RX11 226 ⟨"NightBook$Window", "moveTo", "([II)V"⟩, Cond.sameMethod "NightBook$Window" "NightBook$Window" "moveTo" "([II)V", Cond.selects RX0 ⟨"NightBook$Window", "moveTo", "([II)V"⟩ yX9_moveTo, Cond.instanceMethod yX9_moveTo, Cond.code yX9_moveTo cX9_moveTo 3 none, Cond.methodLink RX9 43 yX8_add, Cond.selects RX3 ⟨"NightBook$Window", "moveTo", "([II)V"⟩ yX9_moveTo, Cond.selects RX7 ⟨"NightBook$Window", "moveTo", "([II)V"⟩ yX9_moveTo, Cond.methodLink RX11 226 yX9_moveTo, Cond.selects RX9 yX9_moveTo yX9_moveTo, Cond.methodLink RX11 200 ⟨"NightBook$Window", "verdict", "(LNightBook$Tally;I)I"⟩, Cond.sameMethod "NightBook$Window" "NightBook$Window" "verdict" "(LNightBook$Tally;I)I", Cond.instanceMethod ⟨"NightBook$Window", "verdict", "(LNightBook$Tally;I)I"⟩, Cond.selects RX0 ⟨"NightBook$Window", "verdict", "(LNightBook$Tally;I)I"⟩ yX0_verdict, Cond.instanceMethod yX0_verdict, Cond.initialized RX0, Cond.code yX0_verdict cX0_verdict 3 (some .int), Cond.fieldLink RX0 9 "NightBook$Absent" "n" "I", Cond.sameField "NightBook$Absent" "NightBook$Window" "n" "I"]
def wsX11_firstAtMost_r3 : List Cond := [Cond.fieldLink RX0 15 "NightBook$Tally" "least" "I", Cond.fieldLink RX0 20 "NightBook$Tally" "most" "I", Cond.code yX9_verdict cX9_verdict 3 (some .int), Cond.selects RX3 ⟨"NightBook$Window", "verdict", "(LNightBook$Tally;I)I"⟩ yX3_verdict, Cond.instanceMethod yX3_verdict, Cond.initialized RX3, Cond.code yX3_verdict cX3_verdict 3 (some .int), Cond.fieldLink RX3 9 "NightBook$Tally" "least" "I", Cond.fieldLink RX3 15 "NightBook$Needs" "n" "I", Cond.sameField "NightBook$Needs" "NightBook$Window" "n" "I", Cond.fieldLink RX3 20 "NightBook$Tally" "most" "I", Cond.selects RX7 ⟨"NightBook$Window", "verdict", "(LNightBook$Tally;I)I"⟩ yX9_verdict, Cond.instanceMethod yX9_verdict, Cond.fieldLink RX9 33 "NightBook$Tally" "most" "I", Cond.fieldLink RX9 15 "NightBook$Window" "n" "I", Cond.fieldLink RX9 36 "NightBook$Tally" "least" "I", Cond.methodLink RX11 200 yX9_verdict, Cond.selects RX9 yX9_verdict yX9_verdict]
def wsX11_firstAtMost : List Cond := .code yX11_firstAtMost cX11_firstAtMost 5 (some .int) :: ((wsX11_firstAtMost_r1 ++ (wsX11_firstAtMost_r2 ++ wsX11_firstAtMost_r3)) ++ wsX00 ++ wsX30 ++ wsX70 ++ wsX90 ++ wsX80)
def wsX11_first_r1 : List Cond := [Cond.fieldLink RX11 22 "NightBook" "cans" "[[I", Cond.methodLink RX11 189 yX11_lawAt, Cond.instanceMethod yX11_lawAt, Cond.selects RX11 yX11_lawAt yX11_lawAt, Cond.initialized RX11, Cond.code yX11_lawAt cX11_lawAt 2 (some (.object "NightBook$Window")), Cond.fieldLink RX11 157 "NightBook" "lawCount" "I", Cond.fieldLink RX11 33 "NightBook" "laws" "[LNightBook$Window;", Cond.methodLink RX11 78 yX11_isPerson, Cond.instanceMethod yX11_isPerson, Cond.selects RX11 yX11_isPerson yX11_isPerson, Cond.code yX11_isPerson cX11_isPerson 2 (some .boolean), Cond.fieldLink RX11 74 "NightBook" "people" "I", Cond.methodLink RX11 95 yX11_isDay, Cond.static yX11_isDay, Cond.code yX11_isDay cX11_isDay 1 (some .boolean), Cond.methodLink RX11 204 yX11_firstAtMost, Cond.static yX11_firstAtMost, Cond.code yX11_firstAtMost cX11_firstAtMost 5 (some .int), Cond.fieldLink RX11 196 "NightBook$Window" "here" "LNightBook$Tally;", Cond.methodLink RX11 193 ⟨"NightBook$Window", "lookAt", "([II)V"⟩, Cond.sameMethod "NightBook$Window" "NightBook$Window" "lookAt" "([II)V", Cond.selects RX0 ⟨"NightBook$Window", "lookAt", "([II)V"⟩ yX9_lookAt, Cond.instanceMethod yX9_lookAt]
def wsX11_first_r2 : List Cond := [Cond.initialized RX9, Cond.code yX9_lookAt cX9_lookAt 3 none, Cond.fieldLink RX9 26 "NightBook$Window" "here" "LNightBook$Tally;", Cond.fieldLink RX9 18 "NightBook$Window" "reach" "I", Cond.methodLink RX9 39 yX8_sum, Cond.instanceMethod yX8_sum, Cond.selects RX8 yX8_sum yX8_sum, Cond.initialized RX8, Cond.code yX8_sum cX8_sum 5 none, Cond.fieldLink RX8 13 "NightBook$Tally" "least" "I", Cond.fieldLink RX8 16 "NightBook$Tally" "most" "I", Cond.methodLink RX8 19 Lib.Math.max.name, Cond.static Lib.Math.max.name, Cond.initialized "java/lang/Math", Cond.code Lib.Math.max.name Lib.Math.max.code 2 (some .int), Cond.methodLink RX8 25 yX8_add, Cond.instanceMethod yX8_add, Cond.selects RX8 yX8_add yX8_add, Cond.code yX8_add cX8_add 3 none, Cond.fieldLink RX8 7 "NightBook$Tally" "land" "I", Cond.selects RX3 ⟨"NightBook$Window", "lookAt", "([II)V"⟩ yX9_lookAt, Cond.selects RX7 ⟨"NightBook$Window", "lookAt", "([II)V"⟩ yX9_lookAt, Cond.methodLink RX11 193 yX9_lookAt, Cond.selects RX9 yX9_lookAt yX9_lookAt]
def wsX11_first_r3 : List Cond := [Cond.methodLink RX11 226 ⟨"NightBook$Window", "moveTo", "([II)V"⟩, Cond.sameMethod "NightBook$Window" "NightBook$Window" "moveTo" "([II)V", Cond.selects RX0 ⟨"NightBook$Window", "moveTo", "([II)V"⟩ yX9_moveTo, Cond.instanceMethod yX9_moveTo, Cond.code yX9_moveTo cX9_moveTo 3 none, Cond.methodLink RX9 43 yX8_add, Cond.selects RX3 ⟨"NightBook$Window", "moveTo", "([II)V"⟩ yX9_moveTo, Cond.selects RX7 ⟨"NightBook$Window", "moveTo", "([II)V"⟩ yX9_moveTo, Cond.methodLink RX11 226 yX9_moveTo, Cond.selects RX9 yX9_moveTo yX9_moveTo, Cond.methodLink RX11 200 ⟨"NightBook$Window", "verdict", "(LNightBook$Tally;I)I"⟩, Cond.sameMethod "NightBook$Window" "NightBook$Window" "verdict" "(LNightBook$Tally;I)I", Cond.instanceMethod ⟨"NightBook$Window", "verdict", "(LNightBook$Tally;I)I"⟩, Cond.selects RX0 ⟨"NightBook$Window", "verdict", "(LNightBook$Tally;I)I"⟩ yX0_verdict, Cond.instanceMethod yX0_verdict, Cond.initialized RX0, Cond.code yX0_verdict cX0_verdict 3 (some .int), Cond.fieldLink RX0 9 "NightBook$Absent" "n" "I", Cond.sameField "NightBook$Absent" "NightBook$Window" "n" "I", Cond.fieldLink RX0 15 "NightBook$Tally" "least" "I", Cond.fieldLink RX0 20 "NightBook$Tally" "most" "I", Cond.code yX9_verdict cX9_verdict 3 (some .int), Cond.selects RX3 ⟨"NightBook$Window", "verdict", "(LNightBook$Tally;I)I"⟩ yX3_verdict, Cond.instanceMethod yX3_verdict]
def wsX11_first_r4 : List Cond := [Cond.initialized RX3, Cond.code yX3_verdict cX3_verdict 3 (some .int), Cond.fieldLink RX3 9 "NightBook$Tally" "least" "I", Cond.fieldLink RX3 15 "NightBook$Needs" "n" "I", Cond.sameField "NightBook$Needs" "NightBook$Window" "n" "I", Cond.fieldLink RX3 20 "NightBook$Tally" "most" "I", Cond.selects RX7 ⟨"NightBook$Window", "verdict", "(LNightBook$Tally;I)I"⟩ yX9_verdict, Cond.instanceMethod yX9_verdict, Cond.fieldLink RX9 33 "NightBook$Tally" "most" "I", Cond.fieldLink RX9 15 "NightBook$Window" "n" "I", Cond.fieldLink RX9 36 "NightBook$Tally" "least" "I", Cond.methodLink RX11 200 yX9_verdict, Cond.selects RX9 yX9_verdict yX9_verdict]
def wsX11_first : List Cond := .code yX11_first cX11_first 6 (some .int) :: ((wsX11_first_r1 ++ (wsX11_first_r2 ++ (wsX11_first_r3 ++ wsX11_first_r4))) ++ wsX110 ++ wsX00 ++ wsX30 ++ wsX70 ++ wsX90 ++ wsX80)
def wsX11_broken_r1 : List Cond := [Cond.fieldLink RX11 157 "NightBook" "lawCount" "I", Cond.fieldLink RX11 33 "NightBook" "laws" "[LNightBook$Window;", Cond.fieldLink RX11 22 "NightBook" "cans" "[[I", Cond.methodLink RX11 78 yX11_isPerson, Cond.instanceMethod yX11_isPerson, Cond.selects RX11 yX11_isPerson yX11_isPerson, Cond.initialized RX11, Cond.code yX11_isPerson cX11_isPerson 2 (some .boolean), Cond.fieldLink RX11 74 "NightBook" "people" "I", Cond.methodLink RX11 204 yX11_firstAtMost, Cond.static yX11_firstAtMost, Cond.code yX11_firstAtMost cX11_firstAtMost 5 (some .int), Cond.fieldLink RX11 196 "NightBook$Window" "here" "LNightBook$Tally;", Cond.methodLink RX11 193 ⟨"NightBook$Window", "lookAt", "([II)V"⟩, Cond.sameMethod "NightBook$Window" "NightBook$Window" "lookAt" "([II)V", Cond.selects RX0 ⟨"NightBook$Window", "lookAt", "([II)V"⟩ yX9_lookAt, Cond.instanceMethod yX9_lookAt, Cond.initialized RX9, Cond.code yX9_lookAt cX9_lookAt 3 none, Cond.fieldLink RX9 26 "NightBook$Window" "here" "LNightBook$Tally;", Cond.fieldLink RX9 18 "NightBook$Window" "reach" "I", Cond.methodLink RX9 39 yX8_sum, Cond.instanceMethod yX8_sum, Cond.selects RX8 yX8_sum yX8_sum]
def wsX11_broken_r2 : List Cond := [Cond.initialized RX8, Cond.code yX8_sum cX8_sum 5 none, Cond.fieldLink RX8 13 "NightBook$Tally" "least" "I", Cond.fieldLink RX8 16 "NightBook$Tally" "most" "I", Cond.methodLink RX8 19 Lib.Math.max.name, Cond.static Lib.Math.max.name, Cond.initialized "java/lang/Math", Cond.code Lib.Math.max.name Lib.Math.max.code 2 (some .int), Cond.methodLink RX8 25 yX8_add, Cond.instanceMethod yX8_add, Cond.selects RX8 yX8_add yX8_add, Cond.code yX8_add cX8_add 3 none, Cond.fieldLink RX8 7 "NightBook$Tally" "land" "I", Cond.selects RX3 ⟨"NightBook$Window", "lookAt", "([II)V"⟩ yX9_lookAt, Cond.selects RX7 ⟨"NightBook$Window", "lookAt", "([II)V"⟩ yX9_lookAt, Cond.methodLink RX11 193 yX9_lookAt, Cond.selects RX9 yX9_lookAt yX9_lookAt, Cond.methodLink RX11 226 ⟨"NightBook$Window", "moveTo", "([II)V"⟩, Cond.sameMethod "NightBook$Window" "NightBook$Window" "moveTo" "([II)V", Cond.selects RX0 ⟨"NightBook$Window", "moveTo", "([II)V"⟩ yX9_moveTo, Cond.instanceMethod yX9_moveTo, Cond.code yX9_moveTo cX9_moveTo 3 none, Cond.methodLink RX9 43 yX8_add, Cond.selects RX3 ⟨"NightBook$Window", "moveTo", "([II)V"⟩ yX9_moveTo]
def wsX11_broken_r3 : List Cond := [Cond.selects RX7 ⟨"NightBook$Window", "moveTo", "([II)V"⟩ yX9_moveTo, Cond.methodLink RX11 226 yX9_moveTo, Cond.selects RX9 yX9_moveTo yX9_moveTo, Cond.methodLink RX11 200 ⟨"NightBook$Window", "verdict", "(LNightBook$Tally;I)I"⟩, Cond.sameMethod "NightBook$Window" "NightBook$Window" "verdict" "(LNightBook$Tally;I)I", Cond.instanceMethod ⟨"NightBook$Window", "verdict", "(LNightBook$Tally;I)I"⟩, Cond.selects RX0 ⟨"NightBook$Window", "verdict", "(LNightBook$Tally;I)I"⟩ yX0_verdict, Cond.instanceMethod yX0_verdict, Cond.initialized RX0, Cond.code yX0_verdict cX0_verdict 3 (some .int), Cond.fieldLink RX0 9 "NightBook$Absent" "n" "I", Cond.sameField "NightBook$Absent" "NightBook$Window" "n" "I", Cond.fieldLink RX0 15 "NightBook$Tally" "least" "I", Cond.fieldLink RX0 20 "NightBook$Tally" "most" "I", Cond.code yX9_verdict cX9_verdict 3 (some .int), Cond.selects RX3 ⟨"NightBook$Window", "verdict", "(LNightBook$Tally;I)I"⟩ yX3_verdict, Cond.instanceMethod yX3_verdict, Cond.initialized RX3, Cond.code yX3_verdict cX3_verdict 3 (some .int), Cond.fieldLink RX3 9 "NightBook$Tally" "least" "I", Cond.fieldLink RX3 15 "NightBook$Needs" "n" "I", Cond.sameField "NightBook$Needs" "NightBook$Window" "n" "I", Cond.fieldLink RX3 20 "NightBook$Tally" "most" "I", Cond.selects RX7 ⟨"NightBook$Window", "verdict", "(LNightBook$Tally;I)I"⟩ yX9_verdict]
def wsX11_broken_r4 : List Cond := [Cond.instanceMethod yX9_verdict, Cond.fieldLink RX9 33 "NightBook$Tally" "most" "I", Cond.fieldLink RX9 15 "NightBook$Window" "n" "I", Cond.fieldLink RX9 36 "NightBook$Tally" "least" "I", Cond.methodLink RX11 200 yX9_verdict, Cond.selects RX9 yX9_verdict yX9_verdict]
def wsX11_broken : List Cond := .code yX11_broken cX11_broken 5 (some .int) :: ((wsX11_broken_r1 ++ (wsX11_broken_r2 ++ (wsX11_broken_r3 ++ wsX11_broken_r4))) ++ wsX110 ++ wsX00 ++ wsX30 ++ wsX70 ++ wsX90 ++ wsX80)
def wsX11_landOfRest : List Cond := .code yX11_landOfRest cX11_landOfRest 3 (some .int) :: ([.fieldLink RX11 9 "NightBook" "homes" "[I", .fieldLink RX11 13 "NightBook" "passports" "[I"] ++ wsX110)
def wsX11_change : List Cond := .code yX11_change cX11_change 6 none :: ([.fieldLink RX11 64 "NightBook" "mind" "[I", .fieldLink RX11 157 "NightBook" "lawCount" "I", .fieldLink RX11 33 "NightBook" "laws" "[LNightBook$Window;", .methodLink RX11 244 ⟨"NightBook$Window", "change", "(III)V"⟩, .sameMethod "NightBook$Window" "NightBook$Window" "change" "(III)V", .selects RX0 ⟨"NightBook$Window", "change", "(III)V"⟩ yX9_change, .instanceMethod yX9_change, .initialized RX9, .code yX9_change cX9_change 4 none, .fieldLink RX9 26 "NightBook$Window" "here" "LNightBook$Tally;", .fieldLink RX9 47 "NightBook$Window" "endFrom" "I", .fieldLink RX9 30 "NightBook$Window" "end" "LNightBook$Tally;", .methodLink RX9 43 yX8_add, .instanceMethod yX8_add, .selects RX8 yX8_add yX8_add, .initialized RX8, .code yX8_add cX8_add 3 none, .fieldLink RX8 7 "NightBook$Tally" "land" "I", .fieldLink RX8 16 "NightBook$Tally" "most" "I", .fieldLink RX8 13 "NightBook$Tally" "least" "I", .selects RX3 ⟨"NightBook$Window", "change", "(III)V"⟩ yX9_change, .selects RX7 ⟨"NightBook$Window", "change", "(III)V"⟩ yX9_change, .methodLink RX11 244 yX9_change, .selects RX9 yX9_change yX9_change] ++ wsX110 ++ wsX00 ++ wsX30 ++ wsX70 ++ wsX90 ++ wsX80)
def wsX11_areSurelyKept_r1 : List Cond := [Cond.fieldLink RX11 157 "NightBook" "lawCount" "I", Cond.fieldLink RX11 33 "NightBook" "laws" "[LNightBook$Window;", Cond.fieldLink RX11 196 "NightBook$Window" "here" "LNightBook$Tally;", Cond.fieldLink RX11 248 "NightBook$Window" "end" "LNightBook$Tally;", Cond.methodLink RX11 245 ⟨"NightBook$Window", "bindsTrips", "()Z"⟩, Cond.sameMethod "NightBook$Window" "NightBook$Window" "bindsTrips" "()Z", Cond.selects RX0 ⟨"NightBook$Window", "bindsTrips", "()Z"⟩ yX9_bindsTrips, Cond.instanceMethod yX9_bindsTrips, Cond.initialized RX9, Cond.code yX9_bindsTrips cX9_bindsTrips 1 (some .boolean), Cond.instanceMethod ⟨"NightBook$Window", "bindsTrips", "()Z"⟩, Cond.selects RX3 ⟨"NightBook$Window", "bindsTrips", "()Z"⟩ yX3_bindsTrips, Cond.instanceMethod yX3_bindsTrips, Cond.initialized RX3, Cond.code yX3_bindsTrips cX3_bindsTrips 1 (some .boolean), Cond.selects RX7 ⟨"NightBook$Window", "bindsTrips", "()Z"⟩ yX9_bindsTrips, Cond.methodLink RX11 245 yX9_bindsTrips, Cond.selects RX9 yX9_bindsTrips yX9_bindsTrips, Cond.methodLink RX11 200 ⟨"NightBook$Window", "verdict", "(LNightBook$Tally;I)I"⟩, Cond.sameMethod "NightBook$Window" "NightBook$Window" "verdict" "(LNightBook$Tally;I)I", Cond.instanceMethod ⟨"NightBook$Window", "verdict", "(LNightBook$Tally;I)I"⟩, Cond.selects RX0 ⟨"NightBook$Window", "verdict", "(LNightBook$Tally;I)I"⟩ yX0_verdict, Cond.instanceMethod yX0_verdict, Cond.initialized RX0]
def wsX11_areSurelyKept_r2 : List Cond := [Cond.code yX0_verdict cX0_verdict 3 (some .int), Cond.fieldLink RX0 9 "NightBook$Absent" "n" "I", Cond.sameField "NightBook$Absent" "NightBook$Window" "n" "I", Cond.fieldLink RX0 15 "NightBook$Tally" "least" "I", Cond.fieldLink RX0 20 "NightBook$Tally" "most" "I", Cond.code yX9_verdict cX9_verdict 3 (some .int), Cond.selects RX3 ⟨"NightBook$Window", "verdict", "(LNightBook$Tally;I)I"⟩ yX3_verdict, Cond.instanceMethod yX3_verdict, Cond.code yX3_verdict cX3_verdict 3 (some .int), Cond.fieldLink RX3 9 "NightBook$Tally" "least" "I", Cond.fieldLink RX3 15 "NightBook$Needs" "n" "I", Cond.sameField "NightBook$Needs" "NightBook$Window" "n" "I", Cond.fieldLink RX3 20 "NightBook$Tally" "most" "I", Cond.selects RX7 ⟨"NightBook$Window", "verdict", "(LNightBook$Tally;I)I"⟩ yX9_verdict, Cond.instanceMethod yX9_verdict, Cond.fieldLink RX9 33 "NightBook$Tally" "most" "I", Cond.fieldLink RX9 15 "NightBook$Window" "n" "I", Cond.fieldLink RX9 36 "NightBook$Tally" "least" "I", Cond.methodLink RX11 200 yX9_verdict, Cond.selects RX9 yX9_verdict yX9_verdict]
def wsX11_areSurelyKept : List Cond := .code yX11_areSurelyKept cX11_areSurelyKept 5 (some .boolean) :: ((wsX11_areSurelyKept_r1 ++ wsX11_areSurelyKept_r2) ++ wsX110 ++ wsX00 ++ wsX30 ++ wsX70 ++ wsX90 ++ wsX80)
def wsX11_takes_r1 : List Cond := [Cond.fieldLink RX11 157 "NightBook" "lawCount" "I", Cond.fieldLink RX11 33 "NightBook" "laws" "[LNightBook$Window;", Cond.fieldLink RX11 64 "NightBook" "mind" "[I", Cond.methodLink RX11 226 ⟨"NightBook$Window", "moveTo", "([II)V"⟩, Cond.sameMethod "NightBook$Window" "NightBook$Window" "moveTo" "([II)V", Cond.selects RX0 ⟨"NightBook$Window", "moveTo", "([II)V"⟩ yX9_moveTo, Cond.instanceMethod yX9_moveTo, Cond.initialized RX9, Cond.code yX9_moveTo cX9_moveTo 3 none, Cond.fieldLink RX9 26 "NightBook$Window" "here" "LNightBook$Tally;", Cond.fieldLink RX9 18 "NightBook$Window" "reach" "I", Cond.methodLink RX9 43 yX8_add, Cond.instanceMethod yX8_add, Cond.selects RX8 yX8_add yX8_add, Cond.initialized RX8, Cond.code yX8_add cX8_add 3 none, Cond.fieldLink RX8 7 "NightBook$Tally" "land" "I", Cond.fieldLink RX8 16 "NightBook$Tally" "most" "I", Cond.fieldLink RX8 13 "NightBook$Tally" "least" "I", Cond.selects RX3 ⟨"NightBook$Window", "moveTo", "([II)V"⟩ yX9_moveTo, Cond.selects RX7 ⟨"NightBook$Window", "moveTo", "([II)V"⟩ yX9_moveTo, Cond.methodLink RX11 226 yX9_moveTo, Cond.selects RX9 yX9_moveTo yX9_moveTo, Cond.methodLink RX11 238 yX11_change]
def wsX11_takes_r2 : List Cond := [Cond.instanceMethod yX11_change, Cond.selects RX11 yX11_change yX11_change, Cond.initialized RX11, Cond.code yX11_change cX11_change 6 none, Cond.methodLink RX11 244 ⟨"NightBook$Window", "change", "(III)V"⟩, Cond.sameMethod "NightBook$Window" "NightBook$Window" "change" "(III)V", Cond.selects RX0 ⟨"NightBook$Window", "change", "(III)V"⟩ yX9_change, Cond.instanceMethod yX9_change, Cond.code yX9_change cX9_change 4 none, Cond.fieldLink RX9 47 "NightBook$Window" "endFrom" "I", Cond.fieldLink RX9 30 "NightBook$Window" "end" "LNightBook$Tally;", Cond.selects RX3 ⟨"NightBook$Window", "change", "(III)V"⟩ yX9_change, Cond.selects RX7 ⟨"NightBook$Window", "change", "(III)V"⟩ yX9_change, Cond.methodLink RX11 244 yX9_change, Cond.selects RX9 yX9_change yX9_change, Cond.methodLink RX11 241 yX11_areSurelyKept, Cond.instanceMethod yX11_areSurelyKept, Cond.selects RX11 yX11_areSurelyKept yX11_areSurelyKept, Cond.code yX11_areSurelyKept cX11_areSurelyKept 5 (some .boolean), Cond.fieldLink RX11 196 "NightBook$Window" "here" "LNightBook$Tally;", Cond.fieldLink RX11 248 "NightBook$Window" "end" "LNightBook$Tally;", Cond.methodLink RX11 245 ⟨"NightBook$Window", "bindsTrips", "()Z"⟩, Cond.sameMethod "NightBook$Window" "NightBook$Window" "bindsTrips" "()Z", Cond.selects RX0 ⟨"NightBook$Window", "bindsTrips", "()Z"⟩ yX9_bindsTrips]
def wsX11_takes_r3 : List Cond := [Cond.instanceMethod yX9_bindsTrips, Cond.code yX9_bindsTrips cX9_bindsTrips 1 (some .boolean), Cond.instanceMethod ⟨"NightBook$Window", "bindsTrips", "()Z"⟩, Cond.selects RX3 ⟨"NightBook$Window", "bindsTrips", "()Z"⟩ yX3_bindsTrips, Cond.instanceMethod yX3_bindsTrips, Cond.initialized RX3, Cond.code yX3_bindsTrips cX3_bindsTrips 1 (some .boolean), Cond.selects RX7 ⟨"NightBook$Window", "bindsTrips", "()Z"⟩ yX9_bindsTrips, Cond.methodLink RX11 245 yX9_bindsTrips, Cond.selects RX9 yX9_bindsTrips yX9_bindsTrips, Cond.methodLink RX11 200 ⟨"NightBook$Window", "verdict", "(LNightBook$Tally;I)I"⟩, Cond.sameMethod "NightBook$Window" "NightBook$Window" "verdict" "(LNightBook$Tally;I)I", Cond.instanceMethod ⟨"NightBook$Window", "verdict", "(LNightBook$Tally;I)I"⟩, Cond.selects RX0 ⟨"NightBook$Window", "verdict", "(LNightBook$Tally;I)I"⟩ yX0_verdict, Cond.instanceMethod yX0_verdict, Cond.initialized RX0, Cond.code yX0_verdict cX0_verdict 3 (some .int), Cond.fieldLink RX0 9 "NightBook$Absent" "n" "I", Cond.sameField "NightBook$Absent" "NightBook$Window" "n" "I", Cond.fieldLink RX0 15 "NightBook$Tally" "least" "I", Cond.fieldLink RX0 20 "NightBook$Tally" "most" "I", Cond.code yX9_verdict cX9_verdict 3 (some .int), Cond.selects RX3 ⟨"NightBook$Window", "verdict", "(LNightBook$Tally;I)I"⟩ yX3_verdict, Cond.instanceMethod yX3_verdict]
def wsX11_takes_r4 : List Cond := [Cond.code yX3_verdict cX3_verdict 3 (some .int), Cond.fieldLink RX3 9 "NightBook$Tally" "least" "I", Cond.fieldLink RX3 15 "NightBook$Needs" "n" "I", Cond.sameField "NightBook$Needs" "NightBook$Window" "n" "I", Cond.fieldLink RX3 20 "NightBook$Tally" "most" "I", Cond.selects RX7 ⟨"NightBook$Window", "verdict", "(LNightBook$Tally;I)I"⟩ yX9_verdict, Cond.instanceMethod yX9_verdict, Cond.fieldLink RX9 33 "NightBook$Tally" "most" "I", Cond.fieldLink RX9 15 "NightBook$Window" "n" "I", Cond.fieldLink RX9 36 "NightBook$Tally" "least" "I", Cond.methodLink RX11 200 yX9_verdict, Cond.selects RX9 yX9_verdict yX9_verdict]
def wsX11_takes : List Cond := .code yX11_takes cX11_takes 7 (some .boolean) :: ((wsX11_takes_r1 ++ (wsX11_takes_r2 ++ (wsX11_takes_r3 ++ wsX11_takes_r4))) ++ wsX110 ++ wsX00 ++ wsX30 ++ wsX70 ++ wsX90 ++ wsX80)
def wsX11_travel_r1 : List Cond := [Cond.fieldLink RX11 22 "NightBook" "cans" "[[I", Cond.fieldLink RX11 64 "NightBook" "mind" "[I", Cond.methodLink RX11 171 arraycopyName, Cond.native arraycopyName, Cond.static arraycopyName, Cond.initialized "java/lang/System", Cond.fieldLink RX11 157 "NightBook" "lawCount" "I", Cond.fieldLink RX11 33 "NightBook" "laws" "[LNightBook$Window;", Cond.methodLink RX11 229 yX11_landOfRest, Cond.instanceMethod yX11_landOfRest, Cond.selects RX11 yX11_landOfRest yX11_landOfRest, Cond.initialized RX11, Cond.code yX11_landOfRest cX11_landOfRest 3 (some .int), Cond.fieldLink RX11 9 "NightBook" "homes" "[I", Cond.fieldLink RX11 13 "NightBook" "passports" "[I", Cond.methodLink RX11 160 yJ7_fill_fda19, Cond.static yJ7_fill_fda19, Cond.initialized RJ7, Cond.code yJ7_fill_fda19 cJ7_fill_fda19 5 none, Cond.methodLink RJ7 13 yJ7_rangeCheck_23922, Cond.static yJ7_rangeCheck_23922, Cond.code yJ7_rangeCheck_23922 cJ7_rangeCheck_23922 3 none, Cond.classLink RJ7 45 RJ4, Cond.instantiable RJ4 4]
def wsX11_travel_r2 : List Cond := [Cond.initialized RJ4, Cond.methodLink RX11 193 ⟨"NightBook$Window", "lookAt", "([II)V"⟩, Cond.sameMethod "NightBook$Window" "NightBook$Window" "lookAt" "([II)V", Cond.selects RX0 ⟨"NightBook$Window", "lookAt", "([II)V"⟩ yX9_lookAt, Cond.instanceMethod yX9_lookAt, Cond.initialized RX9, Cond.code yX9_lookAt cX9_lookAt 3 none, Cond.fieldLink RX9 26 "NightBook$Window" "here" "LNightBook$Tally;", Cond.fieldLink RX9 18 "NightBook$Window" "reach" "I", Cond.methodLink RX9 39 yX8_sum, Cond.instanceMethod yX8_sum, Cond.selects RX8 yX8_sum yX8_sum, Cond.initialized RX8, Cond.code yX8_sum cX8_sum 5 none, Cond.fieldLink RX8 13 "NightBook$Tally" "least" "I", Cond.fieldLink RX8 16 "NightBook$Tally" "most" "I", Cond.methodLink RX8 19 Lib.Math.max.name, Cond.static Lib.Math.max.name, Cond.initialized "java/lang/Math", Cond.code Lib.Math.max.name Lib.Math.max.code 2 (some .int), Cond.methodLink RX8 25 yX8_add, Cond.instanceMethod yX8_add, Cond.selects RX8 yX8_add yX8_add, Cond.code yX8_add cX8_add 3 none]
def wsX11_travel_r3 : List Cond := [Cond.fieldLink RX8 7 "NightBook$Tally" "land" "I", Cond.selects RX3 ⟨"NightBook$Window", "lookAt", "([II)V"⟩ yX9_lookAt, Cond.selects RX7 ⟨"NightBook$Window", "lookAt", "([II)V"⟩ yX9_lookAt, Cond.methodLink RX11 193 yX9_lookAt, Cond.selects RX9 yX9_lookAt yX9_lookAt, Cond.methodLink RX11 232 ⟨"NightBook$Window", "lookAtEnd", "([II)V"⟩, Cond.sameMethod "NightBook$Window" "NightBook$Window" "lookAtEnd" "([II)V", Cond.selects RX0 ⟨"NightBook$Window", "lookAtEnd", "([II)V"⟩ yX9_lookAtEnd, Cond.instanceMethod yX9_lookAtEnd, Cond.code yX9_lookAtEnd cX9_lookAtEnd 3 none, Cond.fieldLink RX9 47 "NightBook$Window" "endFrom" "I", Cond.fieldLink RX9 30 "NightBook$Window" "end" "LNightBook$Tally;", Cond.selects RX3 ⟨"NightBook$Window", "lookAtEnd", "([II)V"⟩ yX9_lookAtEnd, Cond.selects RX7 ⟨"NightBook$Window", "lookAtEnd", "([II)V"⟩ yX9_lookAtEnd, Cond.methodLink RX11 232 yX9_lookAtEnd, Cond.selects RX9 yX9_lookAtEnd yX9_lookAtEnd, Cond.methodLink RX11 235 yX11_takes, Cond.instanceMethod yX11_takes, Cond.selects RX11 yX11_takes yX11_takes, Cond.code yX11_takes cX11_takes 7 (some .boolean), Cond.methodLink RX11 226 ⟨"NightBook$Window", "moveTo", "([II)V"⟩, Cond.sameMethod "NightBook$Window" "NightBook$Window" "moveTo" "([II)V", Cond.selects RX0 ⟨"NightBook$Window", "moveTo", "([II)V"⟩ yX9_moveTo, Cond.instanceMethod yX9_moveTo]
def wsX11_travel_r4 : List Cond := [Cond.code yX9_moveTo cX9_moveTo 3 none, Cond.methodLink RX9 43 yX8_add, Cond.selects RX3 ⟨"NightBook$Window", "moveTo", "([II)V"⟩ yX9_moveTo, Cond.selects RX7 ⟨"NightBook$Window", "moveTo", "([II)V"⟩ yX9_moveTo, Cond.methodLink RX11 226 yX9_moveTo, Cond.selects RX9 yX9_moveTo yX9_moveTo, Cond.methodLink RX11 238 yX11_change, Cond.instanceMethod yX11_change, Cond.selects RX11 yX11_change yX11_change, Cond.code yX11_change cX11_change 6 none, Cond.methodLink RX11 244 ⟨"NightBook$Window", "change", "(III)V"⟩, Cond.sameMethod "NightBook$Window" "NightBook$Window" "change" "(III)V", Cond.selects RX0 ⟨"NightBook$Window", "change", "(III)V"⟩ yX9_change, Cond.instanceMethod yX9_change, Cond.code yX9_change cX9_change 4 none, Cond.selects RX3 ⟨"NightBook$Window", "change", "(III)V"⟩ yX9_change, Cond.selects RX7 ⟨"NightBook$Window", "change", "(III)V"⟩ yX9_change, Cond.methodLink RX11 244 yX9_change, Cond.selects RX9 yX9_change yX9_change, Cond.methodLink RX11 241 yX11_areSurelyKept, Cond.instanceMethod yX11_areSurelyKept, Cond.selects RX11 yX11_areSurelyKept yX11_areSurelyKept, Cond.code yX11_areSurelyKept cX11_areSurelyKept 5 (some .boolean), Cond.fieldLink RX11 196 "NightBook$Window" "here" "LNightBook$Tally;"]
def wsX11_travel_r5 : List Cond := [Cond.fieldLink RX11 248 "NightBook$Window" "end" "LNightBook$Tally;", Cond.methodLink RX11 245 ⟨"NightBook$Window", "bindsTrips", "()Z"⟩, Cond.sameMethod "NightBook$Window" "NightBook$Window" "bindsTrips" "()Z", Cond.selects RX0 ⟨"NightBook$Window", "bindsTrips", "()Z"⟩ yX9_bindsTrips, Cond.instanceMethod yX9_bindsTrips, Cond.code yX9_bindsTrips cX9_bindsTrips 1 (some .boolean), Cond.instanceMethod ⟨"NightBook$Window", "bindsTrips", "()Z"⟩, Cond.selects RX3 ⟨"NightBook$Window", "bindsTrips", "()Z"⟩ yX3_bindsTrips, Cond.instanceMethod yX3_bindsTrips, Cond.initialized RX3, Cond.code yX3_bindsTrips cX3_bindsTrips 1 (some .boolean), Cond.selects RX7 ⟨"NightBook$Window", "bindsTrips", "()Z"⟩ yX9_bindsTrips, Cond.methodLink RX11 245 yX9_bindsTrips, Cond.selects RX9 yX9_bindsTrips yX9_bindsTrips, Cond.methodLink RX11 200 ⟨"NightBook$Window", "verdict", "(LNightBook$Tally;I)I"⟩, Cond.sameMethod "NightBook$Window" "NightBook$Window" "verdict" "(LNightBook$Tally;I)I", Cond.instanceMethod ⟨"NightBook$Window", "verdict", "(LNightBook$Tally;I)I"⟩, Cond.selects RX0 ⟨"NightBook$Window", "verdict", "(LNightBook$Tally;I)I"⟩ yX0_verdict, Cond.instanceMethod yX0_verdict, Cond.initialized RX0, Cond.code yX0_verdict cX0_verdict 3 (some .int), Cond.fieldLink RX0 9 "NightBook$Absent" "n" "I", Cond.sameField "NightBook$Absent" "NightBook$Window" "n" "I", Cond.fieldLink RX0 15 "NightBook$Tally" "least" "I"]
def wsX11_travel_r6 : List Cond := [Cond.fieldLink RX0 20 "NightBook$Tally" "most" "I", Cond.code yX9_verdict cX9_verdict 3 (some .int), Cond.selects RX3 ⟨"NightBook$Window", "verdict", "(LNightBook$Tally;I)I"⟩ yX3_verdict, Cond.instanceMethod yX3_verdict, Cond.code yX3_verdict cX3_verdict 3 (some .int), Cond.fieldLink RX3 9 "NightBook$Tally" "least" "I", Cond.fieldLink RX3 15 "NightBook$Needs" "n" "I", Cond.sameField "NightBook$Needs" "NightBook$Window" "n" "I", Cond.fieldLink RX3 20 "NightBook$Tally" "most" "I", Cond.selects RX7 ⟨"NightBook$Window", "verdict", "(LNightBook$Tally;I)I"⟩ yX9_verdict, Cond.instanceMethod yX9_verdict, Cond.fieldLink RX9 33 "NightBook$Tally" "most" "I", Cond.fieldLink RX9 15 "NightBook$Window" "n" "I", Cond.fieldLink RX9 36 "NightBook$Tally" "least" "I", Cond.methodLink RX11 200 yX9_verdict, Cond.selects RX9 yX9_verdict yX9_verdict]
def wsX11_travel : List Cond := .code yX11_travel cX11_travel 9 (some .int) :: ((wsX11_travel_r1 ++ (wsX11_travel_r2 ++ (wsX11_travel_r3 ++ (wsX11_travel_r4 ++ (wsX11_travel_r5 ++ wsX11_travel_r6))))) ++ wsX110 ++ wsJ40 ++ wsX00 ++ wsX30 ++ wsX70 ++ wsX90 ++ wsX80)
def wsX11_free_r1 : List Cond := [Cond.methodLink RX11 78 yX11_isPerson, Cond.instanceMethod yX11_isPerson, Cond.selects RX11 yX11_isPerson yX11_isPerson, Cond.initialized RX11, Cond.code yX11_isPerson cX11_isPerson 2 (some .boolean), Cond.fieldLink RX11 74 "NightBook" "people" "I", Cond.methodLink RX11 70 yX11_isLand, Cond.static yX11_isLand, Cond.code yX11_isLand cX11_isLand 1 (some .boolean), Cond.methodLink RX11 81 yX11_areDays, Cond.static yX11_areDays, Cond.code yX11_areDays cX11_areDays 2 (some .boolean), Cond.methodLink RX11 95 yX11_isDay, Cond.static yX11_isDay, Cond.code yX11_isDay cX11_isDay 1 (some .boolean), Cond.methodLink RX11 208 yX11_travel, Cond.instanceMethod yX11_travel, Cond.selects RX11 yX11_travel yX11_travel, Cond.code yX11_travel cX11_travel 9 (some .int), Cond.fieldLink RX11 22 "NightBook" "cans" "[[I", Cond.fieldLink RX11 64 "NightBook" "mind" "[I", Cond.methodLink RX11 171 arraycopyName, Cond.native arraycopyName, Cond.static arraycopyName]
def wsX11_free_r2 : List Cond := [Cond.initialized "java/lang/System", Cond.fieldLink RX11 157 "NightBook" "lawCount" "I", Cond.fieldLink RX11 33 "NightBook" "laws" "[LNightBook$Window;", Cond.methodLink RX11 229 yX11_landOfRest, Cond.instanceMethod yX11_landOfRest, Cond.selects RX11 yX11_landOfRest yX11_landOfRest, Cond.code yX11_landOfRest cX11_landOfRest 3 (some .int), Cond.fieldLink RX11 9 "NightBook" "homes" "[I", Cond.fieldLink RX11 13 "NightBook" "passports" "[I", Cond.methodLink RX11 160 yJ7_fill_fda19, Cond.static yJ7_fill_fda19, Cond.initialized RJ7, Cond.code yJ7_fill_fda19 cJ7_fill_fda19 5 none, Cond.methodLink RJ7 13 yJ7_rangeCheck_23922, Cond.static yJ7_rangeCheck_23922, Cond.code yJ7_rangeCheck_23922 cJ7_rangeCheck_23922 3 none, Cond.classLink RJ7 45 RJ4, Cond.instantiable RJ4 4, Cond.initialized RJ4, Cond.methodLink RX11 193 ⟨"NightBook$Window", "lookAt", "([II)V"⟩, Cond.sameMethod "NightBook$Window" "NightBook$Window" "lookAt" "([II)V", Cond.selects RX0 ⟨"NightBook$Window", "lookAt", "([II)V"⟩ yX9_lookAt, Cond.instanceMethod yX9_lookAt, Cond.initialized RX9]
def wsX11_free_r3 : List Cond := [Cond.code yX9_lookAt cX9_lookAt 3 none, Cond.fieldLink RX9 26 "NightBook$Window" "here" "LNightBook$Tally;", Cond.fieldLink RX9 18 "NightBook$Window" "reach" "I", Cond.methodLink RX9 39 yX8_sum, Cond.instanceMethod yX8_sum, Cond.selects RX8 yX8_sum yX8_sum, Cond.initialized RX8, Cond.code yX8_sum cX8_sum 5 none, Cond.fieldLink RX8 13 "NightBook$Tally" "least" "I", Cond.fieldLink RX8 16 "NightBook$Tally" "most" "I", Cond.methodLink RX8 19 Lib.Math.max.name, Cond.static Lib.Math.max.name, Cond.initialized "java/lang/Math", Cond.code Lib.Math.max.name Lib.Math.max.code 2 (some .int), Cond.methodLink RX8 25 yX8_add, Cond.instanceMethod yX8_add, Cond.selects RX8 yX8_add yX8_add, Cond.code yX8_add cX8_add 3 none, Cond.fieldLink RX8 7 "NightBook$Tally" "land" "I", Cond.selects RX3 ⟨"NightBook$Window", "lookAt", "([II)V"⟩ yX9_lookAt, Cond.selects RX7 ⟨"NightBook$Window", "lookAt", "([II)V"⟩ yX9_lookAt, Cond.methodLink RX11 193 yX9_lookAt, Cond.selects RX9 yX9_lookAt yX9_lookAt, Cond.methodLink RX11 232 ⟨"NightBook$Window", "lookAtEnd", "([II)V"⟩]
def wsX11_free_r4 : List Cond := [Cond.sameMethod "NightBook$Window" "NightBook$Window" "lookAtEnd" "([II)V", Cond.selects RX0 ⟨"NightBook$Window", "lookAtEnd", "([II)V"⟩ yX9_lookAtEnd, Cond.instanceMethod yX9_lookAtEnd, Cond.code yX9_lookAtEnd cX9_lookAtEnd 3 none, Cond.fieldLink RX9 47 "NightBook$Window" "endFrom" "I", Cond.fieldLink RX9 30 "NightBook$Window" "end" "LNightBook$Tally;", Cond.selects RX3 ⟨"NightBook$Window", "lookAtEnd", "([II)V"⟩ yX9_lookAtEnd, Cond.selects RX7 ⟨"NightBook$Window", "lookAtEnd", "([II)V"⟩ yX9_lookAtEnd, Cond.methodLink RX11 232 yX9_lookAtEnd, Cond.selects RX9 yX9_lookAtEnd yX9_lookAtEnd, Cond.methodLink RX11 235 yX11_takes, Cond.instanceMethod yX11_takes, Cond.selects RX11 yX11_takes yX11_takes, Cond.code yX11_takes cX11_takes 7 (some .boolean), Cond.methodLink RX11 226 ⟨"NightBook$Window", "moveTo", "([II)V"⟩, Cond.sameMethod "NightBook$Window" "NightBook$Window" "moveTo" "([II)V", Cond.selects RX0 ⟨"NightBook$Window", "moveTo", "([II)V"⟩ yX9_moveTo, Cond.instanceMethod yX9_moveTo, Cond.code yX9_moveTo cX9_moveTo 3 none, Cond.methodLink RX9 43 yX8_add, Cond.selects RX3 ⟨"NightBook$Window", "moveTo", "([II)V"⟩ yX9_moveTo, Cond.selects RX7 ⟨"NightBook$Window", "moveTo", "([II)V"⟩ yX9_moveTo, Cond.methodLink RX11 226 yX9_moveTo, Cond.selects RX9 yX9_moveTo yX9_moveTo]
def wsX11_free_r5 : List Cond := [Cond.methodLink RX11 238 yX11_change, Cond.instanceMethod yX11_change, Cond.selects RX11 yX11_change yX11_change, Cond.code yX11_change cX11_change 6 none, Cond.methodLink RX11 244 ⟨"NightBook$Window", "change", "(III)V"⟩, Cond.sameMethod "NightBook$Window" "NightBook$Window" "change" "(III)V", Cond.selects RX0 ⟨"NightBook$Window", "change", "(III)V"⟩ yX9_change, Cond.instanceMethod yX9_change, Cond.code yX9_change cX9_change 4 none, Cond.selects RX3 ⟨"NightBook$Window", "change", "(III)V"⟩ yX9_change, Cond.selects RX7 ⟨"NightBook$Window", "change", "(III)V"⟩ yX9_change, Cond.methodLink RX11 244 yX9_change, Cond.selects RX9 yX9_change yX9_change, Cond.methodLink RX11 241 yX11_areSurelyKept, Cond.instanceMethod yX11_areSurelyKept, Cond.selects RX11 yX11_areSurelyKept yX11_areSurelyKept, Cond.code yX11_areSurelyKept cX11_areSurelyKept 5 (some .boolean), Cond.fieldLink RX11 196 "NightBook$Window" "here" "LNightBook$Tally;", Cond.fieldLink RX11 248 "NightBook$Window" "end" "LNightBook$Tally;", Cond.methodLink RX11 245 ⟨"NightBook$Window", "bindsTrips", "()Z"⟩, Cond.sameMethod "NightBook$Window" "NightBook$Window" "bindsTrips" "()Z", Cond.selects RX0 ⟨"NightBook$Window", "bindsTrips", "()Z"⟩ yX9_bindsTrips, Cond.instanceMethod yX9_bindsTrips, Cond.code yX9_bindsTrips cX9_bindsTrips 1 (some .boolean)]
def wsX11_free_r6 : List Cond := [Cond.instanceMethod ⟨"NightBook$Window", "bindsTrips", "()Z"⟩, Cond.selects RX3 ⟨"NightBook$Window", "bindsTrips", "()Z"⟩ yX3_bindsTrips, Cond.instanceMethod yX3_bindsTrips, Cond.initialized RX3, Cond.code yX3_bindsTrips cX3_bindsTrips 1 (some .boolean), Cond.selects RX7 ⟨"NightBook$Window", "bindsTrips", "()Z"⟩ yX9_bindsTrips, Cond.methodLink RX11 245 yX9_bindsTrips, Cond.selects RX9 yX9_bindsTrips yX9_bindsTrips, Cond.methodLink RX11 200 ⟨"NightBook$Window", "verdict", "(LNightBook$Tally;I)I"⟩, Cond.sameMethod "NightBook$Window" "NightBook$Window" "verdict" "(LNightBook$Tally;I)I", Cond.instanceMethod ⟨"NightBook$Window", "verdict", "(LNightBook$Tally;I)I"⟩, Cond.selects RX0 ⟨"NightBook$Window", "verdict", "(LNightBook$Tally;I)I"⟩ yX0_verdict, Cond.instanceMethod yX0_verdict, Cond.initialized RX0, Cond.code yX0_verdict cX0_verdict 3 (some .int), Cond.fieldLink RX0 9 "NightBook$Absent" "n" "I", Cond.sameField "NightBook$Absent" "NightBook$Window" "n" "I", Cond.fieldLink RX0 15 "NightBook$Tally" "least" "I", Cond.fieldLink RX0 20 "NightBook$Tally" "most" "I", Cond.code yX9_verdict cX9_verdict 3 (some .int), Cond.selects RX3 ⟨"NightBook$Window", "verdict", "(LNightBook$Tally;I)I"⟩ yX3_verdict, Cond.instanceMethod yX3_verdict, Cond.code yX3_verdict cX3_verdict 3 (some .int), Cond.fieldLink RX3 9 "NightBook$Tally" "least" "I"]
def wsX11_free_r7 : List Cond := [Cond.fieldLink RX3 15 "NightBook$Needs" "n" "I", Cond.sameField "NightBook$Needs" "NightBook$Window" "n" "I", Cond.fieldLink RX3 20 "NightBook$Tally" "most" "I", Cond.selects RX7 ⟨"NightBook$Window", "verdict", "(LNightBook$Tally;I)I"⟩ yX9_verdict, Cond.instanceMethod yX9_verdict, Cond.fieldLink RX9 33 "NightBook$Tally" "most" "I", Cond.fieldLink RX9 15 "NightBook$Window" "n" "I", Cond.fieldLink RX9 36 "NightBook$Tally" "least" "I", Cond.methodLink RX11 200 yX9_verdict, Cond.selects RX9 yX9_verdict yX9_verdict]
def wsX11_free : List Cond := .code yX11_free cX11_free 5 (some .int) :: ((wsX11_free_r1 ++ (wsX11_free_r2 ++ (wsX11_free_r3 ++ (wsX11_free_r4 ++ (wsX11_free_r5 ++ (wsX11_free_r6 ++ wsX11_free_r7)))))) ++ wsX110 ++ wsJ40 ++ wsX00 ++ wsX30 ++ wsX70 ++ wsX90 ++ wsX80)
def wsX11_trip_r1 : List Cond := [Cond.fieldLink RX11 64 "NightBook" "mind" "[I", Cond.methodLink RX11 78 yX11_isPerson, Cond.instanceMethod yX11_isPerson, Cond.selects RX11 yX11_isPerson yX11_isPerson, Cond.initialized RX11, Cond.code yX11_isPerson cX11_isPerson 2 (some .boolean), Cond.fieldLink RX11 74 "NightBook" "people" "I", Cond.methodLink RX11 70 yX11_isLand, Cond.static yX11_isLand, Cond.code yX11_isLand cX11_isLand 1 (some .boolean), Cond.methodLink RX11 81 yX11_areDays, Cond.static yX11_areDays, Cond.code yX11_areDays cX11_areDays 2 (some .boolean), Cond.methodLink RX11 95 yX11_isDay, Cond.static yX11_isDay, Cond.code yX11_isDay cX11_isDay 1 (some .boolean), Cond.methodLink RX11 208 yX11_travel, Cond.instanceMethod yX11_travel, Cond.selects RX11 yX11_travel yX11_travel, Cond.code yX11_travel cX11_travel 9 (some .int), Cond.fieldLink RX11 22 "NightBook" "cans" "[[I", Cond.methodLink RX11 171 arraycopyName, Cond.native arraycopyName, Cond.static arraycopyName]
def wsX11_trip_r2 : List Cond := [Cond.initialized "java/lang/System", Cond.fieldLink RX11 157 "NightBook" "lawCount" "I", Cond.fieldLink RX11 33 "NightBook" "laws" "[LNightBook$Window;", Cond.methodLink RX11 229 yX11_landOfRest, Cond.instanceMethod yX11_landOfRest, Cond.selects RX11 yX11_landOfRest yX11_landOfRest, Cond.code yX11_landOfRest cX11_landOfRest 3 (some .int), Cond.fieldLink RX11 9 "NightBook" "homes" "[I", Cond.fieldLink RX11 13 "NightBook" "passports" "[I", Cond.methodLink RX11 160 yJ7_fill_fda19, Cond.static yJ7_fill_fda19, Cond.initialized RJ7, Cond.code yJ7_fill_fda19 cJ7_fill_fda19 5 none, Cond.methodLink RJ7 13 yJ7_rangeCheck_23922, Cond.static yJ7_rangeCheck_23922, Cond.code yJ7_rangeCheck_23922 cJ7_rangeCheck_23922 3 none, Cond.classLink RJ7 45 RJ4, Cond.instantiable RJ4 4, Cond.initialized RJ4, Cond.methodLink RX11 193 ⟨"NightBook$Window", "lookAt", "([II)V"⟩, Cond.sameMethod "NightBook$Window" "NightBook$Window" "lookAt" "([II)V", Cond.selects RX0 ⟨"NightBook$Window", "lookAt", "([II)V"⟩ yX9_lookAt, Cond.instanceMethod yX9_lookAt, Cond.initialized RX9]
def wsX11_trip_r3 : List Cond := [Cond.code yX9_lookAt cX9_lookAt 3 none, Cond.fieldLink RX9 26 "NightBook$Window" "here" "LNightBook$Tally;", Cond.fieldLink RX9 18 "NightBook$Window" "reach" "I", Cond.methodLink RX9 39 yX8_sum, Cond.instanceMethod yX8_sum, Cond.selects RX8 yX8_sum yX8_sum, Cond.initialized RX8, Cond.code yX8_sum cX8_sum 5 none, Cond.fieldLink RX8 13 "NightBook$Tally" "least" "I", Cond.fieldLink RX8 16 "NightBook$Tally" "most" "I", Cond.methodLink RX8 19 Lib.Math.max.name, Cond.static Lib.Math.max.name, Cond.initialized "java/lang/Math", Cond.code Lib.Math.max.name Lib.Math.max.code 2 (some .int), Cond.methodLink RX8 25 yX8_add, Cond.instanceMethod yX8_add, Cond.selects RX8 yX8_add yX8_add, Cond.code yX8_add cX8_add 3 none, Cond.fieldLink RX8 7 "NightBook$Tally" "land" "I", Cond.selects RX3 ⟨"NightBook$Window", "lookAt", "([II)V"⟩ yX9_lookAt, Cond.selects RX7 ⟨"NightBook$Window", "lookAt", "([II)V"⟩ yX9_lookAt, Cond.methodLink RX11 193 yX9_lookAt, Cond.selects RX9 yX9_lookAt yX9_lookAt, Cond.methodLink RX11 232 ⟨"NightBook$Window", "lookAtEnd", "([II)V"⟩]
def wsX11_trip_r4 : List Cond := [Cond.sameMethod "NightBook$Window" "NightBook$Window" "lookAtEnd" "([II)V", Cond.selects RX0 ⟨"NightBook$Window", "lookAtEnd", "([II)V"⟩ yX9_lookAtEnd, Cond.instanceMethod yX9_lookAtEnd, Cond.code yX9_lookAtEnd cX9_lookAtEnd 3 none, Cond.fieldLink RX9 47 "NightBook$Window" "endFrom" "I", Cond.fieldLink RX9 30 "NightBook$Window" "end" "LNightBook$Tally;", Cond.selects RX3 ⟨"NightBook$Window", "lookAtEnd", "([II)V"⟩ yX9_lookAtEnd, Cond.selects RX7 ⟨"NightBook$Window", "lookAtEnd", "([II)V"⟩ yX9_lookAtEnd, Cond.methodLink RX11 232 yX9_lookAtEnd, Cond.selects RX9 yX9_lookAtEnd yX9_lookAtEnd, Cond.methodLink RX11 235 yX11_takes, Cond.instanceMethod yX11_takes, Cond.selects RX11 yX11_takes yX11_takes, Cond.code yX11_takes cX11_takes 7 (some .boolean), Cond.methodLink RX11 226 ⟨"NightBook$Window", "moveTo", "([II)V"⟩, Cond.sameMethod "NightBook$Window" "NightBook$Window" "moveTo" "([II)V", Cond.selects RX0 ⟨"NightBook$Window", "moveTo", "([II)V"⟩ yX9_moveTo, Cond.instanceMethod yX9_moveTo, Cond.code yX9_moveTo cX9_moveTo 3 none, Cond.methodLink RX9 43 yX8_add, Cond.selects RX3 ⟨"NightBook$Window", "moveTo", "([II)V"⟩ yX9_moveTo, Cond.selects RX7 ⟨"NightBook$Window", "moveTo", "([II)V"⟩ yX9_moveTo, Cond.methodLink RX11 226 yX9_moveTo, Cond.selects RX9 yX9_moveTo yX9_moveTo]
def wsX11_trip_r5 : List Cond := [Cond.methodLink RX11 238 yX11_change, Cond.instanceMethod yX11_change, Cond.selects RX11 yX11_change yX11_change, Cond.code yX11_change cX11_change 6 none, Cond.methodLink RX11 244 ⟨"NightBook$Window", "change", "(III)V"⟩, Cond.sameMethod "NightBook$Window" "NightBook$Window" "change" "(III)V", Cond.selects RX0 ⟨"NightBook$Window", "change", "(III)V"⟩ yX9_change, Cond.instanceMethod yX9_change, Cond.code yX9_change cX9_change 4 none, Cond.selects RX3 ⟨"NightBook$Window", "change", "(III)V"⟩ yX9_change, Cond.selects RX7 ⟨"NightBook$Window", "change", "(III)V"⟩ yX9_change, Cond.methodLink RX11 244 yX9_change, Cond.selects RX9 yX9_change yX9_change, Cond.methodLink RX11 241 yX11_areSurelyKept, Cond.instanceMethod yX11_areSurelyKept, Cond.selects RX11 yX11_areSurelyKept yX11_areSurelyKept, Cond.code yX11_areSurelyKept cX11_areSurelyKept 5 (some .boolean), Cond.fieldLink RX11 196 "NightBook$Window" "here" "LNightBook$Tally;", Cond.fieldLink RX11 248 "NightBook$Window" "end" "LNightBook$Tally;", Cond.methodLink RX11 245 ⟨"NightBook$Window", "bindsTrips", "()Z"⟩, Cond.sameMethod "NightBook$Window" "NightBook$Window" "bindsTrips" "()Z", Cond.selects RX0 ⟨"NightBook$Window", "bindsTrips", "()Z"⟩ yX9_bindsTrips, Cond.instanceMethod yX9_bindsTrips, Cond.code yX9_bindsTrips cX9_bindsTrips 1 (some .boolean)]
def wsX11_trip_r6 : List Cond := [Cond.instanceMethod ⟨"NightBook$Window", "bindsTrips", "()Z"⟩, Cond.selects RX3 ⟨"NightBook$Window", "bindsTrips", "()Z"⟩ yX3_bindsTrips, Cond.instanceMethod yX3_bindsTrips, Cond.initialized RX3, Cond.code yX3_bindsTrips cX3_bindsTrips 1 (some .boolean), Cond.selects RX7 ⟨"NightBook$Window", "bindsTrips", "()Z"⟩ yX9_bindsTrips, Cond.methodLink RX11 245 yX9_bindsTrips, Cond.selects RX9 yX9_bindsTrips yX9_bindsTrips, Cond.methodLink RX11 200 ⟨"NightBook$Window", "verdict", "(LNightBook$Tally;I)I"⟩, Cond.sameMethod "NightBook$Window" "NightBook$Window" "verdict" "(LNightBook$Tally;I)I", Cond.instanceMethod ⟨"NightBook$Window", "verdict", "(LNightBook$Tally;I)I"⟩, Cond.selects RX0 ⟨"NightBook$Window", "verdict", "(LNightBook$Tally;I)I"⟩ yX0_verdict, Cond.instanceMethod yX0_verdict, Cond.initialized RX0, Cond.code yX0_verdict cX0_verdict 3 (some .int), Cond.fieldLink RX0 9 "NightBook$Absent" "n" "I", Cond.sameField "NightBook$Absent" "NightBook$Window" "n" "I", Cond.fieldLink RX0 15 "NightBook$Tally" "least" "I", Cond.fieldLink RX0 20 "NightBook$Tally" "most" "I", Cond.code yX9_verdict cX9_verdict 3 (some .int), Cond.selects RX3 ⟨"NightBook$Window", "verdict", "(LNightBook$Tally;I)I"⟩ yX3_verdict, Cond.instanceMethod yX3_verdict, Cond.code yX3_verdict cX3_verdict 3 (some .int), Cond.fieldLink RX3 9 "NightBook$Tally" "least" "I"]
def wsX11_trip_r7 : List Cond := [Cond.fieldLink RX3 15 "NightBook$Needs" "n" "I", Cond.sameField "NightBook$Needs" "NightBook$Window" "n" "I", Cond.fieldLink RX3 20 "NightBook$Tally" "most" "I", Cond.selects RX7 ⟨"NightBook$Window", "verdict", "(LNightBook$Tally;I)I"⟩ yX9_verdict, Cond.instanceMethod yX9_verdict, Cond.fieldLink RX9 33 "NightBook$Tally" "most" "I", Cond.fieldLink RX9 15 "NightBook$Window" "n" "I", Cond.fieldLink RX9 36 "NightBook$Tally" "least" "I", Cond.methodLink RX11 200 yX9_verdict, Cond.selects RX9 yX9_verdict yX9_verdict]
def wsX11_trip : List Cond := .code yX11_trip cX11_trip 8 (some .int) :: ((wsX11_trip_r1 ++ (wsX11_trip_r2 ++ (wsX11_trip_r3 ++ (wsX11_trip_r4 ++ (wsX11_trip_r5 ++ (wsX11_trip_r6 ++ wsX11_trip_r7)))))) ++ wsX110 ++ wsJ40 ++ wsX00 ++ wsX30 ++ wsX70 ++ wsX90 ++ wsX80)
def wsX11_claim : List Cond := .code yX11_claim cX11_claim 4 (some .int) :: ([.fieldLink RX11 37 "NightBook" "claimNights" "[I", .methodLink RX11 70 yX11_isLand, .static yX11_isLand, .initialized RX11, .code yX11_isLand cX11_isLand 1 (some .boolean)] ++ wsX110)
def wsX11_sumYear : List Cond := .code yX11_sumYear cX11_sumYear 5 none :: ([.fieldLink RX11 57 "NightBook" "tallies" "[LNightBook$Tally;", .fieldLink RX11 22 "NightBook" "cans" "[[I", .methodLink RX11 137 yX8_sum, .instanceMethod yX8_sum, .selects RX8 yX8_sum yX8_sum, .initialized RX8, .code yX8_sum cX8_sum 5 none, .fieldLink RX8 13 "NightBook$Tally" "least" "I", .fieldLink RX8 16 "NightBook$Tally" "most" "I", .methodLink RX8 19 Lib.Math.max.name, .static Lib.Math.max.name, .initialized "java/lang/Math", .code Lib.Math.max.name Lib.Math.max.code 2 (some .int), .methodLink RX8 25 yX8_add, .instanceMethod yX8_add, .selects RX8 yX8_add yX8_add, .code yX8_add cX8_add 3 none, .fieldLink RX8 7 "NightBook$Tally" "land" "I"] ++ wsX110 ++ wsX80)
def wsX11_claims_r1 : List Cond := [Cond.fieldLink RX11 57 "NightBook" "tallies" "[LNightBook$Tally;", Cond.fieldLink RX11 144 "NightBook$Tally" "least" "I", Cond.fieldLink RX11 37 "NightBook" "claimNights" "[I", Cond.fieldLink RX11 141 "NightBook$Tally" "most" "I", Cond.methodLink RX11 70 yX11_isLand, Cond.static yX11_isLand, Cond.initialized RX11, Cond.code yX11_isLand cX11_isLand 1 (some .boolean), Cond.methodLink RX11 78 yX11_isPerson, Cond.instanceMethod yX11_isPerson, Cond.selects RX11 yX11_isPerson yX11_isPerson, Cond.code yX11_isPerson cX11_isPerson 2 (some .boolean), Cond.fieldLink RX11 74 "NightBook" "people" "I", Cond.methodLink RX11 251 yX11_isYear, Cond.static yX11_isYear, Cond.code yX11_isYear cX11_isYear 1 (some .boolean), Cond.methodLink RX11 254 yX11_sumYear, Cond.instanceMethod yX11_sumYear, Cond.selects RX11 yX11_sumYear yX11_sumYear, Cond.code yX11_sumYear cX11_sumYear 5 none, Cond.fieldLink RX11 22 "NightBook" "cans" "[[I", Cond.methodLink RX11 137 yX8_sum, Cond.instanceMethod yX8_sum, Cond.selects RX8 yX8_sum yX8_sum]
def wsX11_claims_r2 : List Cond := [Cond.initialized RX8, Cond.code yX8_sum cX8_sum 5 none, Cond.fieldLink RX8 13 "NightBook$Tally" "least" "I", Cond.fieldLink RX8 16 "NightBook$Tally" "most" "I", Cond.methodLink RX8 19 Lib.Math.max.name, Cond.static Lib.Math.max.name, Cond.initialized "java/lang/Math", Cond.code Lib.Math.max.name Lib.Math.max.code 2 (some .int), Cond.methodLink RX8 25 yX8_add, Cond.instanceMethod yX8_add, Cond.selects RX8 yX8_add yX8_add, Cond.code yX8_add cX8_add 3 none, Cond.fieldLink RX8 7 "NightBook$Tally" "land" "I"]
def wsX11_claims : List Cond := .code yX11_claims cX11_claims 4 (some .int) :: ((wsX11_claims_r1 ++ wsX11_claims_r2) ++ wsX110 ++ wsX80)
def wsX11_testAt : List Cond := .code yX11_testAt cX11_testAt 2 (some .int) :: ([])
def wsX11_areTests : List Cond := .code yX11_areTests cX11_areTests 5 (some .boolean) :: ([.methodLink RX11 328 yX11_testAt, .static yX11_testAt, .initialized RX11, .code yX11_testAt cX11_testAt 2 (some .int)])
def wsX11_pairOf : List Cond := .code yX11_pairOf cX11_pairOf 2 (some .int) :: ([.methodLink RX11 177 Lib.Math.min.name, .static Lib.Math.min.name, .initialized "java/lang/Math", .code Lib.Math.min.name Lib.Math.min.code 2 (some .int), .methodLink RX11 182 Lib.Math.max.name, .static Lib.Math.max.name, .code Lib.Math.max.name Lib.Math.max.code 2 (some .int)])
def wsX11_treaty : List Cond := .code yX11_treaty cX11_treaty 6 (some .int) :: ([.fieldLink RX11 46 "NightBook" "treaties" "[I", .fieldLink RX11 263 "NightBook" "treatyCount" "I", .methodLink RX11 70 yX11_isLand, .static yX11_isLand, .initialized RX11, .code yX11_isLand cX11_isLand 1 (some .boolean), .methodLink RX11 257 yX11_areTests, .static yX11_areTests, .code yX11_areTests cX11_areTests 5 (some .boolean), .methodLink RX11 328 yX11_testAt, .static yX11_testAt, .code yX11_testAt cX11_testAt 2 (some .int), .methodLink RX11 260 yX11_pairOf, .static yX11_pairOf, .code yX11_pairOf cX11_pairOf 2 (some .int), .methodLink RX11 177 Lib.Math.min.name, .static Lib.Math.min.name, .initialized "java/lang/Math", .code Lib.Math.min.name Lib.Math.min.code 2 (some .int), .methodLink RX11 182 Lib.Math.max.name, .static Lib.Math.max.name, .code Lib.Math.max.name Lib.Math.max.code 2 (some .int)] ++ wsX110)
def wsX11_oneOfTwo : List Cond := .code yX11_oneOfTwo cX11_oneOfTwo 3 (some .int) :: ([])
def wsX11_winnerByNights : List Cond := .code yX11_winnerByNights cX11_winnerByNights 3 (some .int) :: ([.fieldLink RX11 57 "NightBook" "tallies" "[LNightBook$Tally;", .fieldLink RX11 144 "NightBook$Tally" "least" "I", .fieldLink RX11 141 "NightBook$Tally" "most" "I"] ++ wsX110 ++ wsX80)
def wsX11_winnerBy : List Cond := .code yX11_winnerBy cX11_winnerBy 5 (some .int) :: ([.fieldLink RX11 9 "NightBook" "homes" "[I", .fieldLink RX11 13 "NightBook" "passports" "[I", .methodLink RX11 334 yX11_oneOfTwo, .static yX11_oneOfTwo, .initialized RX11, .code yX11_oneOfTwo cX11_oneOfTwo 3 (some .int), .methodLink RX11 337 yX11_winnerByNights, .instanceMethod yX11_winnerByNights, .selects RX11 yX11_winnerByNights yX11_winnerByNights, .code yX11_winnerByNights cX11_winnerByNights 3 (some .int), .fieldLink RX11 57 "NightBook" "tallies" "[LNightBook$Tally;", .fieldLink RX11 144 "NightBook$Tally" "least" "I", .fieldLink RX11 141 "NightBook$Tally" "most" "I"] ++ wsX110 ++ wsX80)
def wsX11_decidedFor_r1 : List Cond := [Cond.fieldLink RX11 46 "NightBook" "treaties" "[I", Cond.methodLink RX11 260 yX11_pairOf, Cond.static yX11_pairOf, Cond.initialized RX11, Cond.code yX11_pairOf cX11_pairOf 2 (some .int), Cond.methodLink RX11 177 Lib.Math.min.name, Cond.static Lib.Math.min.name, Cond.initialized "java/lang/Math", Cond.code Lib.Math.min.name Lib.Math.min.code 2 (some .int), Cond.methodLink RX11 182 Lib.Math.max.name, Cond.static Lib.Math.max.name, Cond.code Lib.Math.max.name Lib.Math.max.code 2 (some .int), Cond.methodLink RX11 328 yX11_testAt, Cond.static yX11_testAt, Cond.code yX11_testAt cX11_testAt 2 (some .int), Cond.methodLink RX11 331 yX11_winnerBy, Cond.instanceMethod yX11_winnerBy, Cond.selects RX11 yX11_winnerBy yX11_winnerBy, Cond.code yX11_winnerBy cX11_winnerBy 5 (some .int), Cond.fieldLink RX11 9 "NightBook" "homes" "[I", Cond.fieldLink RX11 13 "NightBook" "passports" "[I", Cond.methodLink RX11 334 yX11_oneOfTwo, Cond.static yX11_oneOfTwo, Cond.code yX11_oneOfTwo cX11_oneOfTwo 3 (some .int)]
def wsX11_decidedFor_r2 : List Cond := [Cond.methodLink RX11 337 yX11_winnerByNights, Cond.instanceMethod yX11_winnerByNights, Cond.selects RX11 yX11_winnerByNights yX11_winnerByNights, Cond.code yX11_winnerByNights cX11_winnerByNights 3 (some .int), Cond.fieldLink RX11 57 "NightBook" "tallies" "[LNightBook$Tally;", Cond.fieldLink RX11 144 "NightBook$Tally" "least" "I", Cond.fieldLink RX11 141 "NightBook$Tally" "most" "I"]
def wsX11_decidedFor : List Cond := .code yX11_decidedFor cX11_decidedFor 7 (some .int) :: ((wsX11_decidedFor_r1 ++ wsX11_decidedFor_r2) ++ wsX110 ++ wsX80)
def wsX11_decides_r1 : List Cond := [Cond.methodLink RX11 70 yX11_isLand, Cond.static yX11_isLand, Cond.initialized RX11, Cond.code yX11_isLand cX11_isLand 1 (some .boolean), Cond.methodLink RX11 78 yX11_isPerson, Cond.instanceMethod yX11_isPerson, Cond.selects RX11 yX11_isPerson yX11_isPerson, Cond.code yX11_isPerson cX11_isPerson 2 (some .boolean), Cond.fieldLink RX11 74 "NightBook" "people" "I", Cond.methodLink RX11 251 yX11_isYear, Cond.static yX11_isYear, Cond.code yX11_isYear cX11_isYear 1 (some .boolean), Cond.methodLink RX11 254 yX11_sumYear, Cond.instanceMethod yX11_sumYear, Cond.selects RX11 yX11_sumYear yX11_sumYear, Cond.code yX11_sumYear cX11_sumYear 5 none, Cond.fieldLink RX11 57 "NightBook" "tallies" "[LNightBook$Tally;", Cond.fieldLink RX11 22 "NightBook" "cans" "[[I", Cond.methodLink RX11 137 yX8_sum, Cond.instanceMethod yX8_sum, Cond.selects RX8 yX8_sum yX8_sum, Cond.initialized RX8, Cond.code yX8_sum cX8_sum 5 none, Cond.fieldLink RX8 13 "NightBook$Tally" "least" "I"]
def wsX11_decides_r2 : List Cond := [Cond.fieldLink RX8 16 "NightBook$Tally" "most" "I", Cond.methodLink RX8 19 Lib.Math.max.name, Cond.static Lib.Math.max.name, Cond.initialized "java/lang/Math", Cond.code Lib.Math.max.name Lib.Math.max.code 2 (some .int), Cond.methodLink RX8 25 yX8_add, Cond.instanceMethod yX8_add, Cond.selects RX8 yX8_add yX8_add, Cond.code yX8_add cX8_add 3 none, Cond.fieldLink RX8 7 "NightBook$Tally" "land" "I", Cond.methodLink RX11 266 yX11_decidedFor, Cond.instanceMethod yX11_decidedFor, Cond.selects RX11 yX11_decidedFor yX11_decidedFor, Cond.code yX11_decidedFor cX11_decidedFor 7 (some .int), Cond.fieldLink RX11 46 "NightBook" "treaties" "[I", Cond.methodLink RX11 260 yX11_pairOf, Cond.static yX11_pairOf, Cond.code yX11_pairOf cX11_pairOf 2 (some .int), Cond.methodLink RX11 177 Lib.Math.min.name, Cond.static Lib.Math.min.name, Cond.code Lib.Math.min.name Lib.Math.min.code 2 (some .int), Cond.methodLink RX11 182 Lib.Math.max.name, Cond.methodLink RX11 328 yX11_testAt, Cond.static yX11_testAt]
def wsX11_decides_r3 : List Cond := [Cond.code yX11_testAt cX11_testAt 2 (some .int), Cond.methodLink RX11 331 yX11_winnerBy, Cond.instanceMethod yX11_winnerBy, Cond.selects RX11 yX11_winnerBy yX11_winnerBy, Cond.code yX11_winnerBy cX11_winnerBy 5 (some .int), Cond.fieldLink RX11 9 "NightBook" "homes" "[I", Cond.fieldLink RX11 13 "NightBook" "passports" "[I", Cond.methodLink RX11 334 yX11_oneOfTwo, Cond.static yX11_oneOfTwo, Cond.code yX11_oneOfTwo cX11_oneOfTwo 3 (some .int), Cond.methodLink RX11 337 yX11_winnerByNights, Cond.instanceMethod yX11_winnerByNights, Cond.selects RX11 yX11_winnerByNights yX11_winnerByNights, Cond.code yX11_winnerByNights cX11_winnerByNights 3 (some .int), Cond.fieldLink RX11 144 "NightBook$Tally" "least" "I", Cond.fieldLink RX11 141 "NightBook$Tally" "most" "I"]
def wsX11_decides : List Cond := .code yX11_decides cX11_decides 5 (some .int) :: ((wsX11_decides_r1 ++ (wsX11_decides_r2 ++ wsX11_decides_r3)) ++ wsX110 ++ wsX80)
def wsX11_prevails_r1 : List Cond := [Cond.methodLink RX11 266 yX11_decidedFor, Cond.instanceMethod yX11_decidedFor, Cond.selects RX11 yX11_decidedFor yX11_decidedFor, Cond.initialized RX11, Cond.code yX11_decidedFor cX11_decidedFor 7 (some .int), Cond.fieldLink RX11 46 "NightBook" "treaties" "[I", Cond.methodLink RX11 260 yX11_pairOf, Cond.static yX11_pairOf, Cond.code yX11_pairOf cX11_pairOf 2 (some .int), Cond.methodLink RX11 177 Lib.Math.min.name, Cond.static Lib.Math.min.name, Cond.initialized "java/lang/Math", Cond.code Lib.Math.min.name Lib.Math.min.code 2 (some .int), Cond.methodLink RX11 182 Lib.Math.max.name, Cond.static Lib.Math.max.name, Cond.code Lib.Math.max.name Lib.Math.max.code 2 (some .int), Cond.methodLink RX11 328 yX11_testAt, Cond.static yX11_testAt, Cond.code yX11_testAt cX11_testAt 2 (some .int), Cond.methodLink RX11 331 yX11_winnerBy, Cond.instanceMethod yX11_winnerBy, Cond.selects RX11 yX11_winnerBy yX11_winnerBy, Cond.code yX11_winnerBy cX11_winnerBy 5 (some .int), Cond.fieldLink RX11 9 "NightBook" "homes" "[I"]
def wsX11_prevails_r2 : List Cond := [Cond.fieldLink RX11 13 "NightBook" "passports" "[I", Cond.methodLink RX11 334 yX11_oneOfTwo, Cond.static yX11_oneOfTwo, Cond.code yX11_oneOfTwo cX11_oneOfTwo 3 (some .int), Cond.methodLink RX11 337 yX11_winnerByNights, Cond.instanceMethod yX11_winnerByNights, Cond.selects RX11 yX11_winnerByNights yX11_winnerByNights, Cond.code yX11_winnerByNights cX11_winnerByNights 3 (some .int), Cond.fieldLink RX11 57 "NightBook" "tallies" "[LNightBook$Tally;", Cond.fieldLink RX11 144 "NightBook$Tally" "least" "I", Cond.fieldLink RX11 141 "NightBook$Tally" "most" "I"]
def wsX11_prevails : List Cond := .code yX11_prevails cX11_prevails 5 (some .boolean) :: ((wsX11_prevails_r1 ++ wsX11_prevails_r2) ++ wsX110 ++ wsX80)
def wsX11_taxingLand_r1 : List Cond := [Cond.fieldLink RX11 57 "NightBook" "tallies" "[LNightBook$Tally;", Cond.fieldLink RX11 144 "NightBook$Tally" "least" "I", Cond.fieldLink RX11 37 "NightBook" "claimNights" "[I", Cond.methodLink RX11 254 yX11_sumYear, Cond.instanceMethod yX11_sumYear, Cond.selects RX11 yX11_sumYear yX11_sumYear, Cond.initialized RX11, Cond.code yX11_sumYear cX11_sumYear 5 none, Cond.fieldLink RX11 22 "NightBook" "cans" "[[I", Cond.methodLink RX11 137 yX8_sum, Cond.instanceMethod yX8_sum, Cond.selects RX8 yX8_sum yX8_sum, Cond.initialized RX8, Cond.code yX8_sum cX8_sum 5 none, Cond.fieldLink RX8 13 "NightBook$Tally" "least" "I", Cond.fieldLink RX8 16 "NightBook$Tally" "most" "I", Cond.methodLink RX8 19 Lib.Math.max.name, Cond.static Lib.Math.max.name, Cond.initialized "java/lang/Math", Cond.code Lib.Math.max.name Lib.Math.max.code 2 (some .int), Cond.methodLink RX8 25 yX8_add, Cond.instanceMethod yX8_add, Cond.selects RX8 yX8_add yX8_add, Cond.code yX8_add cX8_add 3 none]
def wsX11_taxingLand_r2 : List Cond := [Cond.fieldLink RX8 7 "NightBook$Tally" "land" "I", Cond.methodLink RX11 340 yX11_prevails, Cond.instanceMethod yX11_prevails, Cond.selects RX11 yX11_prevails yX11_prevails, Cond.code yX11_prevails cX11_prevails 5 (some .boolean), Cond.methodLink RX11 266 yX11_decidedFor, Cond.instanceMethod yX11_decidedFor, Cond.selects RX11 yX11_decidedFor yX11_decidedFor, Cond.code yX11_decidedFor cX11_decidedFor 7 (some .int), Cond.fieldLink RX11 46 "NightBook" "treaties" "[I", Cond.methodLink RX11 260 yX11_pairOf, Cond.static yX11_pairOf, Cond.code yX11_pairOf cX11_pairOf 2 (some .int), Cond.methodLink RX11 177 Lib.Math.min.name, Cond.static Lib.Math.min.name, Cond.code Lib.Math.min.name Lib.Math.min.code 2 (some .int), Cond.methodLink RX11 182 Lib.Math.max.name, Cond.methodLink RX11 328 yX11_testAt, Cond.static yX11_testAt, Cond.code yX11_testAt cX11_testAt 2 (some .int), Cond.methodLink RX11 331 yX11_winnerBy, Cond.instanceMethod yX11_winnerBy, Cond.selects RX11 yX11_winnerBy yX11_winnerBy, Cond.code yX11_winnerBy cX11_winnerBy 5 (some .int)]
def wsX11_taxingLand_r3 : List Cond := [Cond.fieldLink RX11 9 "NightBook" "homes" "[I", Cond.fieldLink RX11 13 "NightBook" "passports" "[I", Cond.methodLink RX11 334 yX11_oneOfTwo, Cond.static yX11_oneOfTwo, Cond.code yX11_oneOfTwo cX11_oneOfTwo 3 (some .int), Cond.methodLink RX11 337 yX11_winnerByNights, Cond.instanceMethod yX11_winnerByNights, Cond.selects RX11 yX11_winnerByNights yX11_winnerByNights, Cond.code yX11_winnerByNights cX11_winnerByNights 3 (some .int), Cond.fieldLink RX11 141 "NightBook$Tally" "most" "I"]
def wsX11_taxingLand : List Cond := .code yX11_taxingLand cX11_taxingLand 5 (some .int) :: ((wsX11_taxingLand_r1 ++ (wsX11_taxingLand_r2 ++ wsX11_taxingLand_r3)) ++ wsX110 ++ wsX80)
def wsX11_taxed_r1 : List Cond := [Cond.methodLink RX11 78 yX11_isPerson, Cond.instanceMethod yX11_isPerson, Cond.selects RX11 yX11_isPerson yX11_isPerson, Cond.initialized RX11, Cond.code yX11_isPerson cX11_isPerson 2 (some .boolean), Cond.fieldLink RX11 74 "NightBook" "people" "I", Cond.methodLink RX11 251 yX11_isYear, Cond.static yX11_isYear, Cond.code yX11_isYear cX11_isYear 1 (some .boolean), Cond.methodLink RX11 270 yX11_taxingLand, Cond.instanceMethod yX11_taxingLand, Cond.selects RX11 yX11_taxingLand yX11_taxingLand, Cond.code yX11_taxingLand cX11_taxingLand 5 (some .int), Cond.fieldLink RX11 57 "NightBook" "tallies" "[LNightBook$Tally;", Cond.fieldLink RX11 144 "NightBook$Tally" "least" "I", Cond.fieldLink RX11 37 "NightBook" "claimNights" "[I", Cond.methodLink RX11 254 yX11_sumYear, Cond.instanceMethod yX11_sumYear, Cond.selects RX11 yX11_sumYear yX11_sumYear, Cond.code yX11_sumYear cX11_sumYear 5 none, Cond.fieldLink RX11 22 "NightBook" "cans" "[[I", Cond.methodLink RX11 137 yX8_sum, Cond.instanceMethod yX8_sum, Cond.selects RX8 yX8_sum yX8_sum]
def wsX11_taxed_r2 : List Cond := [Cond.initialized RX8, Cond.code yX8_sum cX8_sum 5 none, Cond.fieldLink RX8 13 "NightBook$Tally" "least" "I", Cond.fieldLink RX8 16 "NightBook$Tally" "most" "I", Cond.methodLink RX8 19 Lib.Math.max.name, Cond.static Lib.Math.max.name, Cond.initialized "java/lang/Math", Cond.code Lib.Math.max.name Lib.Math.max.code 2 (some .int), Cond.methodLink RX8 25 yX8_add, Cond.instanceMethod yX8_add, Cond.selects RX8 yX8_add yX8_add, Cond.code yX8_add cX8_add 3 none, Cond.fieldLink RX8 7 "NightBook$Tally" "land" "I", Cond.methodLink RX11 340 yX11_prevails, Cond.instanceMethod yX11_prevails, Cond.selects RX11 yX11_prevails yX11_prevails, Cond.code yX11_prevails cX11_prevails 5 (some .boolean), Cond.methodLink RX11 266 yX11_decidedFor, Cond.instanceMethod yX11_decidedFor, Cond.selects RX11 yX11_decidedFor yX11_decidedFor, Cond.code yX11_decidedFor cX11_decidedFor 7 (some .int), Cond.fieldLink RX11 46 "NightBook" "treaties" "[I", Cond.methodLink RX11 260 yX11_pairOf, Cond.static yX11_pairOf]
def wsX11_taxed_r3 : List Cond := [Cond.code yX11_pairOf cX11_pairOf 2 (some .int), Cond.methodLink RX11 177 Lib.Math.min.name, Cond.static Lib.Math.min.name, Cond.code Lib.Math.min.name Lib.Math.min.code 2 (some .int), Cond.methodLink RX11 182 Lib.Math.max.name, Cond.methodLink RX11 328 yX11_testAt, Cond.static yX11_testAt, Cond.code yX11_testAt cX11_testAt 2 (some .int), Cond.methodLink RX11 331 yX11_winnerBy, Cond.instanceMethod yX11_winnerBy, Cond.selects RX11 yX11_winnerBy yX11_winnerBy, Cond.code yX11_winnerBy cX11_winnerBy 5 (some .int), Cond.fieldLink RX11 9 "NightBook" "homes" "[I", Cond.fieldLink RX11 13 "NightBook" "passports" "[I", Cond.methodLink RX11 334 yX11_oneOfTwo, Cond.static yX11_oneOfTwo, Cond.code yX11_oneOfTwo cX11_oneOfTwo 3 (some .int), Cond.methodLink RX11 337 yX11_winnerByNights, Cond.instanceMethod yX11_winnerByNights, Cond.selects RX11 yX11_winnerByNights yX11_winnerByNights, Cond.code yX11_winnerByNights cX11_winnerByNights 3 (some .int), Cond.fieldLink RX11 141 "NightBook$Tally" "most" "I"]
def wsX11_taxed : List Cond := .code yX11_taxed cX11_taxed 3 (some .int) :: ((wsX11_taxed_r1 ++ (wsX11_taxed_r2 ++ wsX11_taxed_r3)) ++ wsX110 ++ wsX80)
def wsX11_quarrels_r1 : List Cond := [Cond.fieldLink RX11 74 "NightBook" "people" "I", Cond.methodLink RX11 270 yX11_taxingLand, Cond.instanceMethod yX11_taxingLand, Cond.selects RX11 yX11_taxingLand yX11_taxingLand, Cond.initialized RX11, Cond.code yX11_taxingLand cX11_taxingLand 5 (some .int), Cond.fieldLink RX11 57 "NightBook" "tallies" "[LNightBook$Tally;", Cond.fieldLink RX11 144 "NightBook$Tally" "least" "I", Cond.fieldLink RX11 37 "NightBook" "claimNights" "[I", Cond.methodLink RX11 254 yX11_sumYear, Cond.instanceMethod yX11_sumYear, Cond.selects RX11 yX11_sumYear yX11_sumYear, Cond.code yX11_sumYear cX11_sumYear 5 none, Cond.fieldLink RX11 22 "NightBook" "cans" "[[I", Cond.methodLink RX11 137 yX8_sum, Cond.instanceMethod yX8_sum, Cond.selects RX8 yX8_sum yX8_sum, Cond.initialized RX8, Cond.code yX8_sum cX8_sum 5 none, Cond.fieldLink RX8 13 "NightBook$Tally" "least" "I", Cond.fieldLink RX8 16 "NightBook$Tally" "most" "I", Cond.methodLink RX8 19 Lib.Math.max.name, Cond.static Lib.Math.max.name, Cond.initialized "java/lang/Math"]
def wsX11_quarrels_r2 : List Cond := [Cond.code Lib.Math.max.name Lib.Math.max.code 2 (some .int), Cond.methodLink RX8 25 yX8_add, Cond.instanceMethod yX8_add, Cond.selects RX8 yX8_add yX8_add, Cond.code yX8_add cX8_add 3 none, Cond.fieldLink RX8 7 "NightBook$Tally" "land" "I", Cond.methodLink RX11 340 yX11_prevails, Cond.instanceMethod yX11_prevails, Cond.selects RX11 yX11_prevails yX11_prevails, Cond.code yX11_prevails cX11_prevails 5 (some .boolean), Cond.methodLink RX11 266 yX11_decidedFor, Cond.instanceMethod yX11_decidedFor, Cond.selects RX11 yX11_decidedFor yX11_decidedFor, Cond.code yX11_decidedFor cX11_decidedFor 7 (some .int), Cond.fieldLink RX11 46 "NightBook" "treaties" "[I", Cond.methodLink RX11 260 yX11_pairOf, Cond.static yX11_pairOf, Cond.code yX11_pairOf cX11_pairOf 2 (some .int), Cond.methodLink RX11 177 Lib.Math.min.name, Cond.static Lib.Math.min.name, Cond.code Lib.Math.min.name Lib.Math.min.code 2 (some .int), Cond.methodLink RX11 182 Lib.Math.max.name, Cond.methodLink RX11 328 yX11_testAt, Cond.static yX11_testAt]
def wsX11_quarrels_r3 : List Cond := [Cond.code yX11_testAt cX11_testAt 2 (some .int), Cond.methodLink RX11 331 yX11_winnerBy, Cond.instanceMethod yX11_winnerBy, Cond.selects RX11 yX11_winnerBy yX11_winnerBy, Cond.code yX11_winnerBy cX11_winnerBy 5 (some .int), Cond.fieldLink RX11 9 "NightBook" "homes" "[I", Cond.fieldLink RX11 13 "NightBook" "passports" "[I", Cond.methodLink RX11 334 yX11_oneOfTwo, Cond.static yX11_oneOfTwo, Cond.code yX11_oneOfTwo cX11_oneOfTwo 3 (some .int), Cond.methodLink RX11 337 yX11_winnerByNights, Cond.instanceMethod yX11_winnerByNights, Cond.selects RX11 yX11_winnerByNights yX11_winnerByNights, Cond.code yX11_winnerByNights cX11_winnerByNights 3 (some .int), Cond.fieldLink RX11 141 "NightBook$Tally" "most" "I"]
def wsX11_quarrels : List Cond := .code yX11_quarrels cX11_quarrels 4 (some .int) :: ((wsX11_quarrels_r1 ++ (wsX11_quarrels_r2 ++ wsX11_quarrels_r3)) ++ wsX110 ++ wsX80)
def wsX11_droppedMarks : List Cond := .code yX11_droppedMarks cX11_droppedMarks 4 (some .int) :: ([.fieldLink RX11 85 "NightBook" "markCount" "I", .fieldLink RX11 27 "NightBook" "marks" "[LNightBook$Span;", .fieldLink RX11 113 "NightBook$Span" "dropped" "Z"] ++ wsX110 ++ wsX10 ++ wsX50 ++ wsX60 ++ wsX100)
def wsX11_joinedPeople : List Cond := .code yX11_joinedPeople cX11_joinedPeople 3 (some .int) :: ([.fieldLink RX11 74 "NightBook" "people" "I", .fieldLink RX11 16 "NightBook" "joined" "[Z"] ++ wsX110)
def wsX11_count : List Cond := .code yX11_count cX11_count 2 (some .int) :: ([.fieldLink RX11 74 "NightBook" "people" "I", .fieldLink RX11 85 "NightBook" "markCount" "I", .fieldLink RX11 157 "NightBook" "lawCount" "I", .fieldLink RX11 263 "NightBook" "treatyCount" "I", .methodLink RX11 273 yX11_droppedMarks, .instanceMethod yX11_droppedMarks, .selects RX11 yX11_droppedMarks yX11_droppedMarks, .initialized RX11, .code yX11_droppedMarks cX11_droppedMarks 4 (some .int), .fieldLink RX11 27 "NightBook" "marks" "[LNightBook$Span;", .fieldLink RX11 113 "NightBook$Span" "dropped" "Z", .methodLink RX11 276 yX11_joinedPeople, .instanceMethod yX11_joinedPeople, .selects RX11 yX11_joinedPeople yX11_joinedPeople, .code yX11_joinedPeople cX11_joinedPeople 3 (some .int), .fieldLink RX11 16 "NightBook" "joined" "[Z"] ++ wsX110 ++ wsX10 ++ wsX50 ++ wsX60 ++ wsX100)
def wsX11_rowOfCans : List Cond := .code yX11_rowOfCans cX11_rowOfCans 4 (some (.object "NightBook$Row")) :: ([.classLink RX11 286 RX4, .instantiable RX4 2, .initialized RX4, .fieldLink RX11 307 "NightBook$Row" "cells" "[S", .fieldLink RX11 22 "NightBook" "cans" "[[I", .methodLink RX11 288 yX4_init, .instanceMethod yX4_init, .code yX4_init cX4_init 3 none, .fieldLink RX4 9 "NightBook$Row" "wide" "Z", .methodLink RX4 15 Lib.Math.max.name, .static Lib.Math.max.name, .initialized "java/lang/Math", .code Lib.Math.max.name Lib.Math.max.code 2 (some .int), .arrayClass .short, .fieldLink RX4 21 "NightBook$Row" "cells" "[S", .instanceMethod yX2_init, .initialized RX2, .code yX2_init cX2_init 1 none, .methodLink RX2 3 objectInit, .instanceMethod objectInit, .code objectInit ⟨#[0xb1]⟩ 1 none] ++ wsX40 ++ wsX110)
def wsX11_rowOfMost_r1 : List Cond := [Cond.classLink RX11 286 RX4, Cond.instantiable RX4 2, Cond.initialized RX4, Cond.fieldLink RX11 57 "NightBook" "tallies" "[LNightBook$Tally;", Cond.fieldLink RX11 22 "NightBook" "cans" "[[I", Cond.fieldLink RX11 307 "NightBook$Row" "cells" "[S", Cond.fieldLink RX11 141 "NightBook$Tally" "most" "I", Cond.methodLink RX11 288 yX4_init, Cond.instanceMethod yX4_init, Cond.code yX4_init cX4_init 3 none, Cond.fieldLink RX4 9 "NightBook$Row" "wide" "Z", Cond.methodLink RX4 15 Lib.Math.max.name, Cond.static Lib.Math.max.name, Cond.initialized "java/lang/Math", Cond.code Lib.Math.max.name Lib.Math.max.code 2 (some .int), Cond.arrayClass .short, Cond.fieldLink RX4 21 "NightBook$Row" "cells" "[S", Cond.instanceMethod yX2_init, Cond.initialized RX2, Cond.code yX2_init cX2_init 1 none, Cond.methodLink RX2 3 objectInit, Cond.instanceMethod objectInit, Cond.code objectInit ⟨#[0xb1]⟩ 1 none, Cond.methodLink RX11 137 yX8_sum]
def wsX11_rowOfMost_r2 : List Cond := [Cond.instanceMethod yX8_sum, Cond.selects RX8 yX8_sum yX8_sum, Cond.initialized RX8, Cond.code yX8_sum cX8_sum 5 none, Cond.fieldLink RX8 13 "NightBook$Tally" "least" "I", Cond.fieldLink RX8 16 "NightBook$Tally" "most" "I", Cond.methodLink RX8 19 Lib.Math.max.name, Cond.methodLink RX8 25 yX8_add, Cond.instanceMethod yX8_add, Cond.selects RX8 yX8_add yX8_add, Cond.code yX8_add cX8_add 3 none, Cond.fieldLink RX8 7 "NightBook$Tally" "land" "I"]
def wsX11_rowOfMost : List Cond := .code yX11_rowOfMost cX11_rowOfMost 4 (some (.object "NightBook$Row")) :: ((wsX11_rowOfMost_r1 ++ wsX11_rowOfMost_r2) ++ wsX40 ++ wsX110 ++ wsX80)
def wsX11_wanted_r1 : List Cond := [Cond.methodLink RX11 189 yX11_lawAt, Cond.instanceMethod yX11_lawAt, Cond.selects RX11 yX11_lawAt yX11_lawAt, Cond.initialized RX11, Cond.code yX11_lawAt cX11_lawAt 2 (some (.object "NightBook$Window")), Cond.fieldLink RX11 157 "NightBook" "lawCount" "I", Cond.fieldLink RX11 33 "NightBook" "laws" "[LNightBook$Window;", Cond.methodLink RX11 109 yX11_markAt, Cond.instanceMethod yX11_markAt, Cond.selects RX11 yX11_markAt yX11_markAt, Cond.code yX11_markAt cX11_markAt 2 (some (.object "NightBook$Span")), Cond.fieldLink RX11 85 "NightBook" "markCount" "I", Cond.fieldLink RX11 27 "NightBook" "marks" "[LNightBook$Span;", Cond.methodLink RX11 78 yX11_isPerson, Cond.instanceMethod yX11_isPerson, Cond.selects RX11 yX11_isPerson yX11_isPerson, Cond.code yX11_isPerson cX11_isPerson 2 (some .boolean), Cond.fieldLink RX11 74 "NightBook" "people" "I", Cond.methodLink RX11 344 yX11_rowOfCans, Cond.instanceMethod yX11_rowOfCans, Cond.selects RX11 yX11_rowOfCans yX11_rowOfCans, Cond.code yX11_rowOfCans cX11_rowOfCans 4 (some (.object "NightBook$Row")), Cond.classLink RX11 286 RX4, Cond.instantiable RX4 2]
def wsX11_wanted_r2 : List Cond := [Cond.initialized RX4, Cond.fieldLink RX11 307 "NightBook$Row" "cells" "[S", Cond.fieldLink RX11 22 "NightBook" "cans" "[[I", Cond.methodLink RX11 288 yX4_init, Cond.instanceMethod yX4_init, Cond.code yX4_init cX4_init 3 none, Cond.fieldLink RX4 9 "NightBook$Row" "wide" "Z", Cond.methodLink RX4 15 Lib.Math.max.name, Cond.static Lib.Math.max.name, Cond.initialized "java/lang/Math", Cond.code Lib.Math.max.name Lib.Math.max.code 2 (some .int), Cond.arrayClass .short, Cond.fieldLink RX4 21 "NightBook$Row" "cells" "[S", Cond.instanceMethod yX2_init, Cond.initialized RX2, Cond.code yX2_init cX2_init 1 none, Cond.methodLink RX2 3 objectInit, Cond.instanceMethod objectInit, Cond.code objectInit ⟨#[0xb1]⟩ 1 none, Cond.methodLink RX11 347 yX11_rowOfMost, Cond.instanceMethod yX11_rowOfMost, Cond.selects RX11 yX11_rowOfMost yX11_rowOfMost, Cond.code yX11_rowOfMost cX11_rowOfMost 4 (some (.object "NightBook$Row")), Cond.fieldLink RX11 57 "NightBook" "tallies" "[LNightBook$Tally;"]
def wsX11_wanted_r3 : List Cond := [Cond.fieldLink RX11 141 "NightBook$Tally" "most" "I", Cond.methodLink RX11 137 yX8_sum, Cond.instanceMethod yX8_sum, Cond.selects RX8 yX8_sum yX8_sum, Cond.initialized RX8, Cond.code yX8_sum cX8_sum 5 none, Cond.fieldLink RX8 13 "NightBook$Tally" "least" "I", Cond.fieldLink RX8 16 "NightBook$Tally" "most" "I", Cond.methodLink RX8 19 Lib.Math.max.name, Cond.methodLink RX8 25 yX8_add, Cond.instanceMethod yX8_add, Cond.selects RX8 yX8_add yX8_add, Cond.code yX8_add cX8_add 3 none, Cond.fieldLink RX8 7 "NightBook$Tally" "land" "I"]
def wsX11_wanted : List Cond := .code yX11_wanted cX11_wanted 3 (some (.object "NightBook$Held")) :: ((wsX11_wanted_r1 ++ (wsX11_wanted_r2 ++ wsX11_wanted_r3)) ++ wsX110 ++ wsX40 ++ wsX80)
def wsX11_keep_r1 : List Cond := [Cond.fieldLink RX11 51 "NightBook" "shelves" "[LNightBook$Held;", Cond.methodLink RX11 279 yX11_isShelf, Cond.static yX11_isShelf, Cond.initialized RX11, Cond.code yX11_isShelf cX11_isShelf 1 (some .boolean), Cond.methodLink RX11 282 yX11_wanted, Cond.instanceMethod yX11_wanted, Cond.selects RX11 yX11_wanted yX11_wanted, Cond.code yX11_wanted cX11_wanted 3 (some (.object "NightBook$Held")), Cond.methodLink RX11 189 yX11_lawAt, Cond.instanceMethod yX11_lawAt, Cond.selects RX11 yX11_lawAt yX11_lawAt, Cond.code yX11_lawAt cX11_lawAt 2 (some (.object "NightBook$Window")), Cond.fieldLink RX11 157 "NightBook" "lawCount" "I", Cond.fieldLink RX11 33 "NightBook" "laws" "[LNightBook$Window;", Cond.methodLink RX11 109 yX11_markAt, Cond.instanceMethod yX11_markAt, Cond.selects RX11 yX11_markAt yX11_markAt, Cond.code yX11_markAt cX11_markAt 2 (some (.object "NightBook$Span")), Cond.fieldLink RX11 85 "NightBook" "markCount" "I", Cond.fieldLink RX11 27 "NightBook" "marks" "[LNightBook$Span;", Cond.methodLink RX11 78 yX11_isPerson, Cond.instanceMethod yX11_isPerson, Cond.selects RX11 yX11_isPerson yX11_isPerson]
def wsX11_keep_r2 : List Cond := [Cond.code yX11_isPerson cX11_isPerson 2 (some .boolean), Cond.fieldLink RX11 74 "NightBook" "people" "I", Cond.methodLink RX11 344 yX11_rowOfCans, Cond.instanceMethod yX11_rowOfCans, Cond.selects RX11 yX11_rowOfCans yX11_rowOfCans, Cond.code yX11_rowOfCans cX11_rowOfCans 4 (some (.object "NightBook$Row")), Cond.classLink RX11 286 RX4, Cond.instantiable RX4 2, Cond.initialized RX4, Cond.fieldLink RX11 307 "NightBook$Row" "cells" "[S", Cond.fieldLink RX11 22 "NightBook" "cans" "[[I", Cond.methodLink RX11 288 yX4_init, Cond.instanceMethod yX4_init, Cond.code yX4_init cX4_init 3 none, Cond.fieldLink RX4 9 "NightBook$Row" "wide" "Z", Cond.methodLink RX4 15 Lib.Math.max.name, Cond.static Lib.Math.max.name, Cond.initialized "java/lang/Math", Cond.code Lib.Math.max.name Lib.Math.max.code 2 (some .int), Cond.arrayClass .short, Cond.fieldLink RX4 21 "NightBook$Row" "cells" "[S", Cond.instanceMethod yX2_init, Cond.initialized RX2, Cond.code yX2_init cX2_init 1 none]
def wsX11_keep_r3 : List Cond := [Cond.methodLink RX2 3 objectInit, Cond.instanceMethod objectInit, Cond.code objectInit ⟨#[0xb1]⟩ 1 none, Cond.methodLink RX11 347 yX11_rowOfMost, Cond.instanceMethod yX11_rowOfMost, Cond.selects RX11 yX11_rowOfMost yX11_rowOfMost, Cond.code yX11_rowOfMost cX11_rowOfMost 4 (some (.object "NightBook$Row")), Cond.fieldLink RX11 57 "NightBook" "tallies" "[LNightBook$Tally;", Cond.fieldLink RX11 141 "NightBook$Tally" "most" "I", Cond.methodLink RX11 137 yX8_sum, Cond.instanceMethod yX8_sum, Cond.selects RX8 yX8_sum yX8_sum, Cond.initialized RX8, Cond.code yX8_sum cX8_sum 5 none, Cond.fieldLink RX8 13 "NightBook$Tally" "least" "I", Cond.fieldLink RX8 16 "NightBook$Tally" "most" "I", Cond.methodLink RX8 19 Lib.Math.max.name, Cond.methodLink RX8 25 yX8_add, Cond.instanceMethod yX8_add, Cond.selects RX8 yX8_add yX8_add, Cond.code yX8_add cX8_add 3 none, Cond.fieldLink RX8 7 "NightBook$Tally" "land" "I"]
def wsX11_keep : List Cond := .code yX11_keep cX11_keep 5 (some .int) :: ((wsX11_keep_r1 ++ (wsX11_keep_r2 ++ wsX11_keep_r3)) ++ wsX110 ++ wsX40 ++ wsX80)
def wsX11_make : List Cond := .code yX11_make cX11_make 4 (some .int) :: ([.fieldLink RX11 51 "NightBook" "shelves" "[LNightBook$Held;", .classLink RX11 286 RX4, .instantiable RX4 2, .initialized RX4, .methodLink RX11 279 yX11_isShelf, .static yX11_isShelf, .initialized RX11, .code yX11_isShelf cX11_isShelf 1 (some .boolean), .methodLink RX11 288 yX4_init, .instanceMethod yX4_init, .code yX4_init cX4_init 3 none, .fieldLink RX4 9 "NightBook$Row" "wide" "Z", .methodLink RX4 15 Lib.Math.max.name, .static Lib.Math.max.name, .initialized "java/lang/Math", .code Lib.Math.max.name Lib.Math.max.code 2 (some .int), .arrayClass .short, .fieldLink RX4 21 "NightBook$Row" "cells" "[S", .instanceMethod yX2_init, .initialized RX2, .code yX2_init cX2_init 1 none, .methodLink RX2 3 objectInit, .instanceMethod objectInit, .code objectInit ⟨#[0xb1]⟩ 1 none] ++ wsX110 ++ wsX40)
def wsX11_rowOn : List Cond := .code yX11_rowOn cX11_rowOn 4 (some (.object "NightBook$Row")) :: ([.fieldLink RX11 51 "NightBook" "shelves" "[LNightBook$Held;", .classLink RX11 286 "NightBook$Row"] ++ wsX110)
def wsX11_element : List Cond := .code yX11_element cX11_element 4 (some .long) :: ([.classLink RX11 291 "java/lang/IllegalArgumentException", .initialized "java/lang/IllegalArgumentException", .classLink RX11 302 "java/lang/IllegalStateException", .initialized "java/lang/IllegalStateException", .fieldLink RX11 307 "NightBook$Row" "cells" "[S", .methodLink RX11 279 yX11_isShelf, .static yX11_isShelf, .initialized RX11, .code yX11_isShelf cX11_isShelf 1 (some .boolean), .methodLink RX11 298 yX11_rowOn, .instanceMethod yX11_rowOn, .selects RX11 yX11_rowOn yX11_rowOn, .code yX11_rowOn cX11_rowOn 4 (some (.object "NightBook$Row")), .fieldLink RX11 51 "NightBook" "shelves" "[LNightBook$Held;", .classLink RX11 286 "NightBook$Row"] ++ wsX40 ++ wsX110 ++ (vx_atS RX11 295 "java/lang/IllegalArgumentException" ["java/lang/RuntimeException", "java/lang/Exception"]).filter goodWord ++ (vx_atS RX11 306 "java/lang/IllegalStateException" ["java/lang/RuntimeException", "java/lang/Exception"]).filter goodWord)
def wsX11_copy : List Cond := .code yX11_copy cX11_copy 8 (some .int) :: ([.fieldLink RX11 51 "NightBook" "shelves" "[LNightBook$Held;", .fieldLink RX11 313 "NightBook$Row" "wide" "Z", .fieldLink RX11 307 "NightBook$Row" "cells" "[S", .methodLink RX11 171 arraycopyName, .native arraycopyName, .static arraycopyName, .initialized "java/lang/System", .methodLink RX11 279 yX11_isShelf, .static yX11_isShelf, .initialized RX11, .code yX11_isShelf cX11_isShelf 1 (some .boolean), .methodLink RX11 298 yX11_rowOn, .instanceMethod yX11_rowOn, .selects RX11 yX11_rowOn yX11_rowOn, .code yX11_rowOn cX11_rowOn 4 (some (.object "NightBook$Row")), .classLink RX11 286 "NightBook$Row", .methodLink RX11 316 yX4_hasPlaces, .instanceMethod yX4_hasPlaces, .selects RX4 yX4_hasPlaces yX4_hasPlaces, .initialized RX4, .code yX4_hasPlaces cX4_hasPlaces 3 (some .boolean), .fieldLink RX4 21 "NightBook$Row" "cells" "[S"] ++ wsX110 ++ wsX40)
def wsX11_weight_r1 : List Cond := [Cond.fieldLink RX11 51 "NightBook" "shelves" "[LNightBook$Held;", Cond.methodLink RX11 279 yX11_isShelf, Cond.static yX11_isShelf, Cond.initialized RX11, Cond.code yX11_isShelf cX11_isShelf 1 (some .boolean), Cond.methodLink RX11 319 ⟨"NightBook$Held", "heft", "()I"⟩, Cond.sameMethod "NightBook$Held" "NightBook$Held" "heft" "()I", Cond.selects RX0 ⟨"NightBook$Held", "heft", "()I"⟩ yX0_heft, Cond.instanceMethod yX0_heft, Cond.initialized RX0, Cond.code yX0_heft cX0_heft 1 (some .int), Cond.methodLink RX0 23 yX7_heft, Cond.sameMethod "NightBook$Stretch" "NightBook$Stretch" "heft" "()I", Cond.superclass RX0 RX7, Cond.instanceMethod yX7_heft, Cond.initialized RX7, Cond.code yX7_heft cX7_heft 1 (some .int), Cond.methodLink RX7 9 yX9_heft, Cond.sameMethod "NightBook$Window" "NightBook$Window" "heft" "()I", Cond.superclass RX7 RX9, Cond.instanceMethod yX9_heft, Cond.initialized RX9, Cond.code yX9_heft cX9_heft 1 (some .int), Cond.fieldLink RX9 15 "NightBook$Window" "n" "I"]
def wsX11_weight_r2 : List Cond := [Cond.methodLink RX9 50 ⟨"NightBook$Window", "kind", "()I"⟩, Cond.sameMethod "NightBook$Window" "NightBook$Window" "kind" "()I", Cond.instanceMethod ⟨"NightBook$Window", "kind", "()I"⟩, Cond.selects RX0 ⟨"NightBook$Window", "kind", "()I"⟩ yX0_kind, Cond.instanceMethod yX0_kind, Cond.code yX0_kind cX0_kind 1 (some .int), Cond.code yX9_kind cX9_kind 1 (some .int), Cond.selects RX3 ⟨"NightBook$Window", "kind", "()I"⟩ yX3_kind, Cond.instanceMethod yX3_kind, Cond.initialized RX3, Cond.code yX3_kind cX3_kind 1 (some .int), Cond.selects RX7 ⟨"NightBook$Window", "kind", "()I"⟩ yX7_kind, Cond.instanceMethod yX7_kind, Cond.code yX7_kind cX7_kind 1 (some .int), Cond.methodLink RX9 50 yX9_kind, Cond.instanceMethod yX9_kind, Cond.selects RX9 yX9_kind yX9_kind, Cond.selects RX1 ⟨"NightBook$Held", "heft", "()I"⟩ yX1_heft, Cond.instanceMethod yX1_heft, Cond.initialized RX1, Cond.code yX1_heft cX1_heft 1 (some .int), Cond.methodLink RX1 9 yX5_heft, Cond.sameMethod "NightBook$Span" "NightBook$Span" "heft" "()I", Cond.superclass RX1 RX5]
def wsX11_weight_r3 : List Cond := [Cond.instanceMethod yX5_heft, Cond.initialized RX5, Cond.code yX5_heft cX5_heft 1 (some .int), Cond.fieldLink RX5 21 "NightBook$Span" "to" "I", Cond.fieldLink RX5 18 "NightBook$Span" "from" "I", Cond.selects RX3 ⟨"NightBook$Held", "heft", "()I"⟩ yX3_heft, Cond.instanceMethod yX3_heft, Cond.code yX3_heft cX3_heft 1 (some .int), Cond.fieldLink RX3 27 "NightBook$Needs" "reach" "I", Cond.sameField "NightBook$Needs" "NightBook$Window" "reach" "I", Cond.methodLink RX3 23 yX9_heft, Cond.superclass RX3 RX9, Cond.selects RX4 ⟨"NightBook$Held", "heft", "()I"⟩ yX4_heft, Cond.instanceMethod yX4_heft, Cond.initialized RX4, Cond.code yX4_heft cX4_heft 1 (some .int), Cond.selects RX5 ⟨"NightBook$Held", "heft", "()I"⟩ yX5_heft, Cond.selects RX6 ⟨"NightBook$Held", "heft", "()I"⟩ yX6_heft, Cond.instanceMethod yX6_heft, Cond.initialized RX6, Cond.code yX6_heft cX6_heft 1 (some .int), Cond.methodLink RX6 9 yX5_heft, Cond.superclass RX6 RX5, Cond.selects RX7 ⟨"NightBook$Held", "heft", "()I"⟩ yX7_heft]
def wsX11_weight_r4 : List Cond := [Cond.selects RX9 ⟨"NightBook$Held", "heft", "()I"⟩ yX9_heft, Cond.selects RX10 ⟨"NightBook$Held", "heft", "()I"⟩ yX10_heft, Cond.instanceMethod yX10_heft, Cond.initialized RX10, Cond.code yX10_heft cX10_heft 1 (some .int), Cond.methodLink RX10 9 yX1_heft, Cond.sameMethod "NightBook$Bill" "NightBook$Bill" "heft" "()I", Cond.superclass RX10 RX1]
def wsX11_weight : List Cond := .code yX11_weight cX11_weight 3 (some .int) :: ((wsX11_weight_r1 ++ (wsX11_weight_r2 ++ (wsX11_weight_r3 ++ wsX11_weight_r4))) ++ wsX110 ++ wsX00 ++ wsX30 ++ wsX70 ++ wsX90 ++ wsX10 ++ wsX50 ++ wsX60 ++ wsX100)
def wsX11_toss_r1 : List Cond := [Cond.classLink RX11 302 "java/lang/IllegalStateException", Cond.fieldLink RX11 51 "NightBook" "shelves" "[LNightBook$Held;", Cond.classLink RX11 286 "NightBook$Row", Cond.methodLink RX11 279 yX11_isShelf, Cond.static yX11_isShelf, Cond.initialized RX11, Cond.code yX11_isShelf cX11_isShelf 1 (some .boolean), Cond.methodLink RX11 322 ⟨"NightBook$Held", "fail", "()V"⟩, Cond.sameMethod "NightBook$Held" "NightBook$Held" "fail" "()V", Cond.instanceMethod ⟨"NightBook$Held", "fail", "()V"⟩, Cond.selects RX0 ⟨"NightBook$Held", "fail", "()V"⟩ yX9_fail, Cond.instanceMethod yX9_fail, Cond.initialized RX9, Cond.code yX9_fail cX9_fail 1 none, Cond.classLink RX9 54 "java/lang/IllegalStateException", Cond.initialized "java/lang/IllegalStateException", Cond.code yX2_fail cX2_fail 1 none, Cond.selects RX1 ⟨"NightBook$Held", "fail", "()V"⟩ yX5_fail, Cond.instanceMethod yX5_fail, Cond.initialized RX5, Cond.code yX5_fail cX5_fail 1 none, Cond.classLink RX5 27 "java/lang/IllegalStateException", Cond.selects RX3 ⟨"NightBook$Held", "fail", "()V"⟩ yX3_fail, Cond.instanceMethod yX3_fail]
def wsX11_toss_r2 : List Cond := [Cond.initialized RX3, Cond.code yX3_fail cX3_fail 1 none, Cond.selects RX4 ⟨"NightBook$Held", "fail", "()V"⟩ yX2_fail, Cond.instanceMethod yX2_fail, Cond.initialized RX2, Cond.selects RX5 ⟨"NightBook$Held", "fail", "()V"⟩ yX5_fail, Cond.selects RX6 ⟨"NightBook$Held", "fail", "()V"⟩ yX5_fail, Cond.selects RX7 ⟨"NightBook$Held", "fail", "()V"⟩ yX9_fail, Cond.selects RX9 ⟨"NightBook$Held", "fail", "()V"⟩ yX9_fail, Cond.selects RX10 ⟨"NightBook$Held", "fail", "()V"⟩ yX10_fail, Cond.instanceMethod yX10_fail, Cond.initialized RX10, Cond.code yX10_fail cX10_fail 1 none, Cond.methodLink RX11 325 ⟨"NightBook$Held", "failureNumber", "()I"⟩, Cond.sameMethod "NightBook$Held" "NightBook$Held" "failureNumber" "()I", Cond.instanceMethod ⟨"NightBook$Held", "failureNumber", "()I"⟩, Cond.selects RX0 ⟨"NightBook$Held", "failureNumber", "()I"⟩ yX9_failureNumber, Cond.instanceMethod yX9_failureNumber, Cond.code yX9_failureNumber cX9_failureNumber 1 (some .int), Cond.fieldLink RX9 9 "NightBook$Window" "land" "I", Cond.code yX2_failureNumber cX2_failureNumber 1 (some .int), Cond.selects RX1 ⟨"NightBook$Held", "failureNumber", "()I"⟩ yX5_failureNumber, Cond.instanceMethod yX5_failureNumber, Cond.code yX5_failureNumber cX5_failureNumber 1 (some .int)]
def wsX11_toss_r3 : List Cond := [Cond.fieldLink RX5 9 "NightBook$Span" "number" "I", Cond.selects RX3 ⟨"NightBook$Held", "failureNumber", "()I"⟩ yX9_failureNumber, Cond.selects RX4 ⟨"NightBook$Held", "failureNumber", "()I"⟩ yX2_failureNumber, Cond.instanceMethod yX2_failureNumber, Cond.selects RX5 ⟨"NightBook$Held", "failureNumber", "()I"⟩ yX5_failureNumber, Cond.selects RX6 ⟨"NightBook$Held", "failureNumber", "()I"⟩ yX5_failureNumber, Cond.selects RX7 ⟨"NightBook$Held", "failureNumber", "()I"⟩ yX9_failureNumber, Cond.selects RX9 ⟨"NightBook$Held", "failureNumber", "()I"⟩ yX9_failureNumber, Cond.selects RX10 ⟨"NightBook$Held", "failureNumber", "()I"⟩ yX5_failureNumber]
def wsX11_toss : List Cond := .codeWith yX11_toss cX11_toss 4 (some .int) [(33, 37, 40, 302)] :: ((wsX11_toss_r1 ++ (wsX11_toss_r2 ++ wsX11_toss_r3)) ++ wsX110 ++ wsX00 ++ wsX30 ++ wsX70 ++ wsX90 ++ wsX10 ++ wsX50 ++ wsX60 ++ wsX100 ++ (vx_atS RX9 58 "java/lang/IllegalStateException" ["java/lang/RuntimeException", "java/lang/Exception"]).filter goodWord ++ (vx_atS RX5 31 "java/lang/IllegalStateException" ["java/lang/RuntimeException", "java/lang/Exception"]).filter goodWord)
def wsX12_init_r1 : List Cond := [Cond.methodLink RX12 1 objectInit, Cond.instanceMethod objectInit, Cond.code objectInit ⟨#[0xb1]⟩ 1 none, Cond.arrayClass .int, Cond.fieldLink RX12 7 "NightBookModel" "home" "[I", Cond.fieldLink RX12 13 "NightBookModel" "passport" "[I", Cond.arrayClass .boolean, Cond.fieldLink RX12 16 "NightBookModel" "joined" "[Z", Cond.fieldLink RX12 20 "NightBookModel" "markKind" "[I", Cond.fieldLink RX12 23 "NightBookModel" "markOf" "[I", Cond.fieldLink RX12 26 "NightBookModel" "markFrom" "[I", Cond.fieldLink RX12 29 "NightBookModel" "markTo" "[I", Cond.fieldLink RX12 32 "NightBookModel" "markLands" "[I", Cond.fieldLink RX12 35 "NightBookModel" "dropped" "[Z", Cond.fieldLink RX12 38 "NightBookModel" "cans" "[I", Cond.fieldLink RX12 41 "NightBookModel" "least" "[I", Cond.fieldLink RX12 44 "NightBookModel" "most" "[I", Cond.fieldLink RX12 47 "NightBookModel" "came" "[Z", Cond.fieldLink RX12 50 "NightBookModel" "lawKind" "[I", Cond.fieldLink RX12 53 "NightBookModel" "lawLand" "[I", Cond.fieldLink RX12 56 "NightBookModel" "lawN" "[I", Cond.fieldLink RX12 59 "NightBookModel" "lawW" "[I", Cond.fieldLink RX12 62 "NightBookModel" "taken" "[Z", Cond.fieldLink RX12 65 "NightBookModel" "claimNights" "[I"]
def wsX12_init_r2 : List Cond := [Cond.fieldLink RX12 68 "NightBookModel" "treaties" "[I", Cond.fieldLink RX12 71 "NightBookModel" "held" "[I", Cond.fieldLink RX12 74 "NightBookModel" "heldNumber" "[I", Cond.fieldLink RX12 77 "NightBookModel" "rowSize" "[I", Cond.fieldLink RX12 80 "NightBookModel" "rows" "[I"]
def wsX12_init : List Cond := .code yX12_init cX12_init 1 none :: ((wsX12_init_r1 ++ wsX12_init_r2) ++ wsX120)
def wsX12_thrown : List Cond := .code yX12_thrown cX12_thrown 1 (some .int) :: ([.fieldLink RX12 83 "NightBookModel" "thrown" "I"] ++ wsX120)
def wsX12_in : List Cond := .code yX12_in cX12_in 3 (some .boolean) :: ([])
def wsX12_isLand : List Cond := .code yX12_isLand cX12_isLand 1 (some .boolean) :: ([.methodLink RX12 87 yX12_in, .static yX12_in, .initialized RX12, .code yX12_in cX12_in 3 (some .boolean)])
def wsX12_isDay : List Cond := .code yX12_isDay cX12_isDay 1 (some .boolean) :: ([.methodLink RX12 87 yX12_in, .static yX12_in, .initialized RX12, .code yX12_in cX12_in 3 (some .boolean)])
def wsX12_isPerson : List Cond := .code yX12_isPerson cX12_isPerson 2 (some .boolean) :: ([.fieldLink RX12 91 "NightBookModel" "people" "I", .methodLink RX12 87 yX12_in, .static yX12_in, .initialized RX12, .code yX12_in cX12_in 3 (some .boolean)] ++ wsX120)
def wsX12_isMark : List Cond := .code yX12_isMark cX12_isMark 2 (some .boolean) :: ([.fieldLink RX12 94 "NightBookModel" "marks" "I", .methodLink RX12 87 yX12_in, .static yX12_in, .initialized RX12, .code yX12_in cX12_in 3 (some .boolean)] ++ wsX120)
def wsX12_person : List Cond := .code yX12_person cX12_person 3 (some .int) :: ([.fieldLink RX12 91 "NightBookModel" "people" "I", .fieldLink RX12 7 "NightBookModel" "home" "[I", .fieldLink RX12 13 "NightBookModel" "passport" "[I", .fieldLink RX12 16 "NightBookModel" "joined" "[Z", .methodLink RX12 97 yX12_isLand, .static yX12_isLand, .initialized RX12, .code yX12_isLand cX12_isLand 1 (some .boolean), .methodLink RX12 87 yX12_in, .static yX12_in, .code yX12_in cX12_in 3 (some .boolean)] ++ wsX120)
def wsX12_tells : List Cond := .code yX12_tells cX12_tells 4 (some .boolean) :: ([.fieldLink RX12 23 "NightBookModel" "markOf" "[I", .fieldLink RX12 35 "NightBookModel" "dropped" "[Z", .fieldLink RX12 26 "NightBookModel" "markFrom" "[I", .fieldLink RX12 29 "NightBookModel" "markTo" "[I"] ++ wsX120)
def wsX12_canOf : List Cond := .code yX12_canOf cX12_canOf 7 (some .int) :: ([.fieldLink RX12 94 "NightBookModel" "marks" "I", .fieldLink RX12 20 "NightBookModel" "markKind" "[I", .fieldLink RX12 32 "NightBookModel" "markLands" "[I", .methodLink RX12 101 yX12_tells, .instanceMethod yX12_tells, .selects RX12 yX12_tells yX12_tells, .initialized RX12, .code yX12_tells cX12_tells 4 (some .boolean), .fieldLink RX12 23 "NightBookModel" "markOf" "[I", .fieldLink RX12 35 "NightBookModel" "dropped" "[Z", .fieldLink RX12 26 "NightBookModel" "markFrom" "[I", .fieldLink RX12 29 "NightBookModel" "markTo" "[I"] ++ wsX120)
def wsX12_isWhole : List Cond := .code yX12_isWhole cX12_isWhole 3 (some .boolean) :: ([.methodLink RX12 104 yX12_canOf, .instanceMethod yX12_canOf, .selects RX12 yX12_canOf yX12_canOf, .initialized RX12, .code yX12_canOf cX12_canOf 7 (some .int), .fieldLink RX12 94 "NightBookModel" "marks" "I", .fieldLink RX12 20 "NightBookModel" "markKind" "[I", .fieldLink RX12 32 "NightBookModel" "markLands" "[I", .methodLink RX12 101 yX12_tells, .instanceMethod yX12_tells, .selects RX12 yX12_tells yX12_tells, .code yX12_tells cX12_tells 4 (some .boolean), .fieldLink RX12 23 "NightBookModel" "markOf" "[I", .fieldLink RX12 35 "NightBookModel" "dropped" "[Z", .fieldLink RX12 26 "NightBookModel" "markFrom" "[I", .fieldLink RX12 29 "NightBookModel" "markTo" "[I"] ++ wsX120)
def wsX12_comes : List Cond := .code yX12_comes cX12_comes 6 (some .int) :: ([.fieldLink RX12 94 "NightBookModel" "marks" "I", .fieldLink RX12 16 "NightBookModel" "joined" "[Z", .fieldLink RX12 20 "NightBookModel" "markKind" "[I", .fieldLink RX12 23 "NightBookModel" "markOf" "[I", .fieldLink RX12 26 "NightBookModel" "markFrom" "[I", .fieldLink RX12 29 "NightBookModel" "markTo" "[I", .fieldLink RX12 32 "NightBookModel" "markLands" "[I", .fieldLink RX12 35 "NightBookModel" "dropped" "[Z", .methodLink RX12 108 yX12_isWhole, .instanceMethod yX12_isWhole, .selects RX12 yX12_isWhole yX12_isWhole, .initialized RX12, .code yX12_isWhole cX12_isWhole 3 (some .boolean), .methodLink RX12 104 yX12_canOf, .instanceMethod yX12_canOf, .selects RX12 yX12_canOf yX12_canOf, .code yX12_canOf cX12_canOf 7 (some .int), .methodLink RX12 101 yX12_tells, .instanceMethod yX12_tells, .selects RX12 yX12_tells yX12_tells, .code yX12_tells cX12_tells 4 (some .boolean)] ++ wsX120)
def wsX12_isSpan : List Cond := .code yX12_isSpan cX12_isSpan 2 (some .boolean) :: ([.methodLink RX12 111 yX12_isDay, .static yX12_isDay, .initialized RX12, .code yX12_isDay cX12_isDay 1 (some .boolean), .methodLink RX12 87 yX12_in, .static yX12_in, .code yX12_in cX12_in 3 (some .boolean)])
def wsX12_span_r1 : List Cond := [Cond.methodLink RX12 114 yX12_isPerson, Cond.instanceMethod yX12_isPerson, Cond.selects RX12 yX12_isPerson yX12_isPerson, Cond.initialized RX12, Cond.code yX12_isPerson cX12_isPerson 2 (some .boolean), Cond.fieldLink RX12 91 "NightBookModel" "people" "I", Cond.methodLink RX12 87 yX12_in, Cond.static yX12_in, Cond.code yX12_in cX12_in 3 (some .boolean), Cond.methodLink RX12 117 yX12_isSpan, Cond.static yX12_isSpan, Cond.code yX12_isSpan cX12_isSpan 2 (some .boolean), Cond.methodLink RX12 111 yX12_isDay, Cond.static yX12_isDay, Cond.code yX12_isDay cX12_isDay 1 (some .boolean), Cond.methodLink RX12 121 yX12_comes, Cond.instanceMethod yX12_comes, Cond.selects RX12 yX12_comes yX12_comes, Cond.code yX12_comes cX12_comes 6 (some .int), Cond.fieldLink RX12 94 "NightBookModel" "marks" "I", Cond.fieldLink RX12 16 "NightBookModel" "joined" "[Z", Cond.fieldLink RX12 20 "NightBookModel" "markKind" "[I", Cond.fieldLink RX12 23 "NightBookModel" "markOf" "[I", Cond.fieldLink RX12 26 "NightBookModel" "markFrom" "[I"]
def wsX12_span_r2 : List Cond := [Cond.fieldLink RX12 29 "NightBookModel" "markTo" "[I", Cond.fieldLink RX12 32 "NightBookModel" "markLands" "[I", Cond.fieldLink RX12 35 "NightBookModel" "dropped" "[Z", Cond.methodLink RX12 108 yX12_isWhole, Cond.instanceMethod yX12_isWhole, Cond.selects RX12 yX12_isWhole yX12_isWhole, Cond.code yX12_isWhole cX12_isWhole 3 (some .boolean), Cond.methodLink RX12 104 yX12_canOf, Cond.instanceMethod yX12_canOf, Cond.selects RX12 yX12_canOf yX12_canOf, Cond.code yX12_canOf cX12_canOf 7 (some .int), Cond.methodLink RX12 101 yX12_tells, Cond.instanceMethod yX12_tells, Cond.selects RX12 yX12_tells yX12_tells, Cond.code yX12_tells cX12_tells 4 (some .boolean)]
def wsX12_span : List Cond := .code yX12_span cX12_span 5 (some .int) :: ((wsX12_span_r1 ++ wsX12_span_r2) ++ wsX120)
def wsX12_slept_r1 : List Cond := [Cond.methodLink RX12 114 yX12_isPerson, Cond.instanceMethod yX12_isPerson, Cond.selects RX12 yX12_isPerson yX12_isPerson, Cond.initialized RX12, Cond.code yX12_isPerson cX12_isPerson 2 (some .boolean), Cond.fieldLink RX12 91 "NightBookModel" "people" "I", Cond.methodLink RX12 87 yX12_in, Cond.static yX12_in, Cond.code yX12_in cX12_in 3 (some .boolean), Cond.methodLink RX12 111 yX12_isDay, Cond.static yX12_isDay, Cond.code yX12_isDay cX12_isDay 1 (some .boolean), Cond.methodLink RX12 97 yX12_isLand, Cond.static yX12_isLand, Cond.code yX12_isLand cX12_isLand 1 (some .boolean), Cond.methodLink RX12 121 yX12_comes, Cond.instanceMethod yX12_comes, Cond.selects RX12 yX12_comes yX12_comes, Cond.code yX12_comes cX12_comes 6 (some .int), Cond.fieldLink RX12 94 "NightBookModel" "marks" "I", Cond.fieldLink RX12 16 "NightBookModel" "joined" "[Z", Cond.fieldLink RX12 20 "NightBookModel" "markKind" "[I", Cond.fieldLink RX12 23 "NightBookModel" "markOf" "[I", Cond.fieldLink RX12 26 "NightBookModel" "markFrom" "[I"]
def wsX12_slept_r2 : List Cond := [Cond.fieldLink RX12 29 "NightBookModel" "markTo" "[I", Cond.fieldLink RX12 32 "NightBookModel" "markLands" "[I", Cond.fieldLink RX12 35 "NightBookModel" "dropped" "[Z", Cond.methodLink RX12 108 yX12_isWhole, Cond.instanceMethod yX12_isWhole, Cond.selects RX12 yX12_isWhole yX12_isWhole, Cond.code yX12_isWhole cX12_isWhole 3 (some .boolean), Cond.methodLink RX12 104 yX12_canOf, Cond.instanceMethod yX12_canOf, Cond.selects RX12 yX12_canOf yX12_canOf, Cond.code yX12_canOf cX12_canOf 7 (some .int), Cond.methodLink RX12 101 yX12_tells, Cond.instanceMethod yX12_tells, Cond.selects RX12 yX12_tells yX12_tells, Cond.code yX12_tells cX12_tells 4 (some .boolean)]
def wsX12_slept : List Cond := .code yX12_slept cX12_slept 5 (some .int) :: ((wsX12_slept_r1 ++ wsX12_slept_r2) ++ wsX120)
def wsX12_stamp_r1 : List Cond := [Cond.methodLink RX12 114 yX12_isPerson, Cond.instanceMethod yX12_isPerson, Cond.selects RX12 yX12_isPerson yX12_isPerson, Cond.initialized RX12, Cond.code yX12_isPerson cX12_isPerson 2 (some .boolean), Cond.fieldLink RX12 91 "NightBookModel" "people" "I", Cond.methodLink RX12 87 yX12_in, Cond.static yX12_in, Cond.code yX12_in cX12_in 3 (some .boolean), Cond.methodLink RX12 117 yX12_isSpan, Cond.static yX12_isSpan, Cond.code yX12_isSpan cX12_isSpan 2 (some .boolean), Cond.methodLink RX12 111 yX12_isDay, Cond.static yX12_isDay, Cond.code yX12_isDay cX12_isDay 1 (some .boolean), Cond.methodLink RX12 97 yX12_isLand, Cond.static yX12_isLand, Cond.code yX12_isLand cX12_isLand 1 (some .boolean), Cond.methodLink RX12 121 yX12_comes, Cond.instanceMethod yX12_comes, Cond.selects RX12 yX12_comes yX12_comes, Cond.code yX12_comes cX12_comes 6 (some .int), Cond.fieldLink RX12 94 "NightBookModel" "marks" "I", Cond.fieldLink RX12 16 "NightBookModel" "joined" "[Z"]
def wsX12_stamp_r2 : List Cond := [Cond.fieldLink RX12 20 "NightBookModel" "markKind" "[I", Cond.fieldLink RX12 23 "NightBookModel" "markOf" "[I", Cond.fieldLink RX12 26 "NightBookModel" "markFrom" "[I", Cond.fieldLink RX12 29 "NightBookModel" "markTo" "[I", Cond.fieldLink RX12 32 "NightBookModel" "markLands" "[I", Cond.fieldLink RX12 35 "NightBookModel" "dropped" "[Z", Cond.methodLink RX12 108 yX12_isWhole, Cond.instanceMethod yX12_isWhole, Cond.selects RX12 yX12_isWhole yX12_isWhole, Cond.code yX12_isWhole cX12_isWhole 3 (some .boolean), Cond.methodLink RX12 104 yX12_canOf, Cond.instanceMethod yX12_canOf, Cond.selects RX12 yX12_canOf yX12_canOf, Cond.code yX12_canOf cX12_canOf 7 (some .int), Cond.methodLink RX12 101 yX12_tells, Cond.instanceMethod yX12_tells, Cond.selects RX12 yX12_tells yX12_tells, Cond.code yX12_tells cX12_tells 4 (some .boolean)]
def wsX12_stamp : List Cond := .code yX12_stamp cX12_stamp 5 (some .int) :: ((wsX12_stamp_r1 ++ wsX12_stamp_r2) ++ wsX120)
def wsX12_drop_r1 : List Cond := [Cond.fieldLink RX12 35 "NightBookModel" "dropped" "[Z", Cond.fieldLink RX12 23 "NightBookModel" "markOf" "[I", Cond.methodLink RX12 125 yX12_isMark, Cond.instanceMethod yX12_isMark, Cond.selects RX12 yX12_isMark yX12_isMark, Cond.initialized RX12, Cond.code yX12_isMark cX12_isMark 2 (some .boolean), Cond.fieldLink RX12 94 "NightBookModel" "marks" "I", Cond.methodLink RX12 87 yX12_in, Cond.static yX12_in, Cond.code yX12_in cX12_in 3 (some .boolean), Cond.methodLink RX12 108 yX12_isWhole, Cond.instanceMethod yX12_isWhole, Cond.selects RX12 yX12_isWhole yX12_isWhole, Cond.code yX12_isWhole cX12_isWhole 3 (some .boolean), Cond.methodLink RX12 104 yX12_canOf, Cond.instanceMethod yX12_canOf, Cond.selects RX12 yX12_canOf yX12_canOf, Cond.code yX12_canOf cX12_canOf 7 (some .int), Cond.fieldLink RX12 20 "NightBookModel" "markKind" "[I", Cond.fieldLink RX12 32 "NightBookModel" "markLands" "[I", Cond.methodLink RX12 101 yX12_tells, Cond.instanceMethod yX12_tells, Cond.selects RX12 yX12_tells yX12_tells]
def wsX12_drop_r2 : List Cond := [Cond.code yX12_tells cX12_tells 4 (some .boolean), Cond.fieldLink RX12 26 "NightBookModel" "markFrom" "[I", Cond.fieldLink RX12 29 "NightBookModel" "markTo" "[I"]
def wsX12_drop : List Cond := .code yX12_drop cX12_drop 3 (some .int) :: ((wsX12_drop_r1 ++ wsX12_drop_r2) ++ wsX120)
def wsX12_mark : List Cond := .code yX12_mark cX12_mark 3 (some .int) :: ([.fieldLink RX12 20 "NightBookModel" "markKind" "[I", .fieldLink RX12 23 "NightBookModel" "markOf" "[I", .fieldLink RX12 26 "NightBookModel" "markFrom" "[I", .fieldLink RX12 29 "NightBookModel" "markTo" "[I", .fieldLink RX12 32 "NightBookModel" "markLands" "[I", .fieldLink RX12 35 "NightBookModel" "dropped" "[Z", .methodLink RX12 125 yX12_isMark, .instanceMethod yX12_isMark, .selects RX12 yX12_isMark yX12_isMark, .initialized RX12, .code yX12_isMark cX12_isMark 2 (some .boolean), .fieldLink RX12 94 "NightBookModel" "marks" "I", .methodLink RX12 87 yX12_in, .static yX12_in, .code yX12_in cX12_in 3 (some .boolean)] ++ wsX120)
def wsX12_can_r1 : List Cond := [Cond.methodLink RX12 114 yX12_isPerson, Cond.instanceMethod yX12_isPerson, Cond.selects RX12 yX12_isPerson yX12_isPerson, Cond.initialized RX12, Cond.code yX12_isPerson cX12_isPerson 2 (some .boolean), Cond.fieldLink RX12 91 "NightBookModel" "people" "I", Cond.methodLink RX12 87 yX12_in, Cond.static yX12_in, Cond.code yX12_in cX12_in 3 (some .boolean), Cond.methodLink RX12 111 yX12_isDay, Cond.static yX12_isDay, Cond.code yX12_isDay cX12_isDay 1 (some .boolean), Cond.methodLink RX12 104 yX12_canOf, Cond.instanceMethod yX12_canOf, Cond.selects RX12 yX12_canOf yX12_canOf, Cond.code yX12_canOf cX12_canOf 7 (some .int), Cond.fieldLink RX12 94 "NightBookModel" "marks" "I", Cond.fieldLink RX12 20 "NightBookModel" "markKind" "[I", Cond.fieldLink RX12 32 "NightBookModel" "markLands" "[I", Cond.methodLink RX12 101 yX12_tells, Cond.instanceMethod yX12_tells, Cond.selects RX12 yX12_tells yX12_tells, Cond.code yX12_tells cX12_tells 4 (some .boolean), Cond.fieldLink RX12 23 "NightBookModel" "markOf" "[I"]
def wsX12_can_r2 : List Cond := [Cond.fieldLink RX12 35 "NightBookModel" "dropped" "[Z", Cond.fieldLink RX12 26 "NightBookModel" "markFrom" "[I", Cond.fieldLink RX12 29 "NightBookModel" "markTo" "[I"]
def wsX12_can : List Cond := .code yX12_can cX12_can 3 (some .int) :: ((wsX12_can_r1 ++ wsX12_can_r2) ++ wsX120)
def wsX12_addLand : List Cond := .code yX12_addLand cX12_addLand 3 none :: ([.fieldLink RX12 41 "NightBookModel" "least" "[I", .fieldLink RX12 44 "NightBookModel" "most" "[I", .fieldLink RX12 38 "NightBookModel" "cans" "[I"] ++ wsX120)
def wsX12_add : List Cond := .code yX12_add cX12_add 2 none :: ([.methodLink RX12 128 yX12_addLand, .instanceMethod yX12_addLand, .selects RX12 yX12_addLand yX12_addLand, .initialized RX12, .code yX12_addLand cX12_addLand 3 none, .fieldLink RX12 41 "NightBookModel" "least" "[I", .fieldLink RX12 44 "NightBookModel" "most" "[I", .fieldLink RX12 38 "NightBookModel" "cans" "[I"] ++ wsX120)
def wsX12_lay_r1 : List Cond := [Cond.fieldLink RX12 38 "NightBookModel" "cans" "[I", Cond.methodLink RX12 104 yX12_canOf, Cond.instanceMethod yX12_canOf, Cond.selects RX12 yX12_canOf yX12_canOf, Cond.initialized RX12, Cond.code yX12_canOf cX12_canOf 7 (some .int), Cond.fieldLink RX12 94 "NightBookModel" "marks" "I", Cond.fieldLink RX12 20 "NightBookModel" "markKind" "[I", Cond.fieldLink RX12 32 "NightBookModel" "markLands" "[I", Cond.methodLink RX12 101 yX12_tells, Cond.instanceMethod yX12_tells, Cond.selects RX12 yX12_tells yX12_tells, Cond.code yX12_tells cX12_tells 4 (some .boolean), Cond.fieldLink RX12 23 "NightBookModel" "markOf" "[I", Cond.fieldLink RX12 35 "NightBookModel" "dropped" "[Z", Cond.fieldLink RX12 26 "NightBookModel" "markFrom" "[I", Cond.fieldLink RX12 29 "NightBookModel" "markTo" "[I", Cond.methodLink RX12 132 yX12_add, Cond.instanceMethod yX12_add, Cond.selects RX12 yX12_add yX12_add, Cond.code yX12_add cX12_add 2 none, Cond.methodLink RX12 128 yX12_addLand, Cond.instanceMethod yX12_addLand, Cond.selects RX12 yX12_addLand yX12_addLand]
def wsX12_lay_r2 : List Cond := [Cond.code yX12_addLand cX12_addLand 3 none, Cond.fieldLink RX12 41 "NightBookModel" "least" "[I", Cond.fieldLink RX12 44 "NightBookModel" "most" "[I"]
def wsX12_lay : List Cond := .code yX12_lay cX12_lay 3 none :: ((wsX12_lay_r1 ++ wsX12_lay_r2) ++ wsX120)
def wsX12_leastOf : List Cond := .code yX12_leastOf cX12_leastOf 4 (some .int) :: ([.fieldLink RX12 41 "NightBookModel" "least" "[I"] ++ wsX120)
def wsX12_mostOf : List Cond := .code yX12_mostOf cX12_mostOf 4 (some .int) :: ([.fieldLink RX12 44 "NightBookModel" "most" "[I"] ++ wsX120)
def wsX12_nights_r1 : List Cond := [Cond.methodLink RX12 114 yX12_isPerson, Cond.instanceMethod yX12_isPerson, Cond.selects RX12 yX12_isPerson yX12_isPerson, Cond.initialized RX12, Cond.code yX12_isPerson cX12_isPerson 2 (some .boolean), Cond.fieldLink RX12 91 "NightBookModel" "people" "I", Cond.methodLink RX12 87 yX12_in, Cond.static yX12_in, Cond.code yX12_in cX12_in 3 (some .boolean), Cond.methodLink RX12 97 yX12_isLand, Cond.static yX12_isLand, Cond.code yX12_isLand cX12_isLand 1 (some .boolean), Cond.methodLink RX12 117 yX12_isSpan, Cond.static yX12_isSpan, Cond.code yX12_isSpan cX12_isSpan 2 (some .boolean), Cond.methodLink RX12 111 yX12_isDay, Cond.static yX12_isDay, Cond.code yX12_isDay cX12_isDay 1 (some .boolean), Cond.methodLink RX12 135 yX12_lay, Cond.instanceMethod yX12_lay, Cond.selects RX12 yX12_lay yX12_lay, Cond.code yX12_lay cX12_lay 3 none, Cond.fieldLink RX12 38 "NightBookModel" "cans" "[I", Cond.methodLink RX12 104 yX12_canOf]
def wsX12_nights_r2 : List Cond := [Cond.instanceMethod yX12_canOf, Cond.selects RX12 yX12_canOf yX12_canOf, Cond.code yX12_canOf cX12_canOf 7 (some .int), Cond.fieldLink RX12 94 "NightBookModel" "marks" "I", Cond.fieldLink RX12 20 "NightBookModel" "markKind" "[I", Cond.fieldLink RX12 32 "NightBookModel" "markLands" "[I", Cond.methodLink RX12 101 yX12_tells, Cond.instanceMethod yX12_tells, Cond.selects RX12 yX12_tells yX12_tells, Cond.code yX12_tells cX12_tells 4 (some .boolean), Cond.fieldLink RX12 23 "NightBookModel" "markOf" "[I", Cond.fieldLink RX12 35 "NightBookModel" "dropped" "[Z", Cond.fieldLink RX12 26 "NightBookModel" "markFrom" "[I", Cond.fieldLink RX12 29 "NightBookModel" "markTo" "[I", Cond.methodLink RX12 132 yX12_add, Cond.instanceMethod yX12_add, Cond.selects RX12 yX12_add yX12_add, Cond.code yX12_add cX12_add 2 none, Cond.methodLink RX12 128 yX12_addLand, Cond.instanceMethod yX12_addLand, Cond.selects RX12 yX12_addLand yX12_addLand, Cond.code yX12_addLand cX12_addLand 3 none, Cond.fieldLink RX12 41 "NightBookModel" "least" "[I", Cond.fieldLink RX12 44 "NightBookModel" "most" "[I"]
def wsX12_nights_r3 : List Cond := [Cond.methodLink RX12 138 yX12_mostOf, Cond.instanceMethod yX12_mostOf, Cond.selects RX12 yX12_mostOf yX12_mostOf, Cond.code yX12_mostOf cX12_mostOf 4 (some .int), Cond.methodLink RX12 142 yX12_leastOf, Cond.instanceMethod yX12_leastOf, Cond.selects RX12 yX12_leastOf yX12_leastOf, Cond.code yX12_leastOf cX12_leastOf 4 (some .int)]
def wsX12_nights : List Cond := .code yX12_nights cX12_nights 6 (some .int) :: ((wsX12_nights_r1 ++ (wsX12_nights_r2 ++ wsX12_nights_r3)) ++ wsX120)
def wsX12_sure_r1 : List Cond := [Cond.methodLink RX12 114 yX12_isPerson, Cond.instanceMethod yX12_isPerson, Cond.selects RX12 yX12_isPerson yX12_isPerson, Cond.initialized RX12, Cond.code yX12_isPerson cX12_isPerson 2 (some .boolean), Cond.fieldLink RX12 91 "NightBookModel" "people" "I", Cond.methodLink RX12 87 yX12_in, Cond.static yX12_in, Cond.code yX12_in cX12_in 3 (some .boolean), Cond.methodLink RX12 117 yX12_isSpan, Cond.static yX12_isSpan, Cond.code yX12_isSpan cX12_isSpan 2 (some .boolean), Cond.methodLink RX12 111 yX12_isDay, Cond.static yX12_isDay, Cond.code yX12_isDay cX12_isDay 1 (some .boolean), Cond.methodLink RX12 104 yX12_canOf, Cond.instanceMethod yX12_canOf, Cond.selects RX12 yX12_canOf yX12_canOf, Cond.code yX12_canOf cX12_canOf 7 (some .int), Cond.fieldLink RX12 94 "NightBookModel" "marks" "I", Cond.fieldLink RX12 20 "NightBookModel" "markKind" "[I", Cond.fieldLink RX12 32 "NightBookModel" "markLands" "[I", Cond.methodLink RX12 101 yX12_tells, Cond.instanceMethod yX12_tells]
def wsX12_sure_r2 : List Cond := [Cond.selects RX12 yX12_tells yX12_tells, Cond.code yX12_tells cX12_tells 4 (some .boolean), Cond.fieldLink RX12 23 "NightBookModel" "markOf" "[I", Cond.fieldLink RX12 35 "NightBookModel" "dropped" "[Z", Cond.fieldLink RX12 26 "NightBookModel" "markFrom" "[I", Cond.fieldLink RX12 29 "NightBookModel" "markTo" "[I"]
def wsX12_sure : List Cond := .code yX12_sure cX12_sure 7 (some .int) :: ((wsX12_sure_r1 ++ wsX12_sure_r2) ++ wsX120)
def wsX12_join_r1 : List Cond := [Cond.fieldLink RX12 16 "NightBookModel" "joined" "[Z", Cond.fieldLink RX12 94 "NightBookModel" "marks" "I", Cond.fieldLink RX12 47 "NightBookModel" "came" "[Z", Cond.fieldLink RX12 23 "NightBookModel" "markOf" "[I", Cond.methodLink RX12 114 yX12_isPerson, Cond.instanceMethod yX12_isPerson, Cond.selects RX12 yX12_isPerson yX12_isPerson, Cond.initialized RX12, Cond.code yX12_isPerson cX12_isPerson 2 (some .boolean), Cond.fieldLink RX12 91 "NightBookModel" "people" "I", Cond.methodLink RX12 87 yX12_in, Cond.static yX12_in, Cond.code yX12_in cX12_in 3 (some .boolean), Cond.methodLink RX12 108 yX12_isWhole, Cond.instanceMethod yX12_isWhole, Cond.selects RX12 yX12_isWhole yX12_isWhole, Cond.code yX12_isWhole cX12_isWhole 3 (some .boolean), Cond.methodLink RX12 104 yX12_canOf, Cond.instanceMethod yX12_canOf, Cond.selects RX12 yX12_canOf yX12_canOf, Cond.code yX12_canOf cX12_canOf 7 (some .int), Cond.fieldLink RX12 20 "NightBookModel" "markKind" "[I", Cond.fieldLink RX12 32 "NightBookModel" "markLands" "[I", Cond.methodLink RX12 101 yX12_tells]
def wsX12_join_r2 : List Cond := [Cond.instanceMethod yX12_tells, Cond.selects RX12 yX12_tells yX12_tells, Cond.code yX12_tells cX12_tells 4 (some .boolean), Cond.fieldLink RX12 35 "NightBookModel" "dropped" "[Z", Cond.fieldLink RX12 26 "NightBookModel" "markFrom" "[I", Cond.fieldLink RX12 29 "NightBookModel" "markTo" "[I"]
def wsX12_join : List Cond := .code yX12_join cX12_join 5 (some .int) :: ((wsX12_join_r1 ++ wsX12_join_r2) ++ wsX120)
def wsX12_isLaw : List Cond := .code yX12_isLaw cX12_isLaw 2 (some .boolean) :: ([.fieldLink RX12 145 "NightBookModel" "laws" "I", .methodLink RX12 87 yX12_in, .static yX12_in, .initialized RX12, .code yX12_in cX12_in 3 (some .boolean)] ++ wsX120)
def wsX12_law : List Cond := .code yX12_law cX12_law 4 (some .int) :: ([.fieldLink RX12 145 "NightBookModel" "laws" "I", .fieldLink RX12 50 "NightBookModel" "lawKind" "[I", .fieldLink RX12 53 "NightBookModel" "lawLand" "[I", .fieldLink RX12 56 "NightBookModel" "lawN" "[I", .fieldLink RX12 59 "NightBookModel" "lawW" "[I", .methodLink RX12 97 yX12_isLand, .static yX12_isLand, .initialized RX12, .code yX12_isLand cX12_isLand 1 (some .boolean), .methodLink RX12 87 yX12_in, .static yX12_in, .code yX12_in cX12_in 3 (some .boolean)] ++ wsX120)
def wsX12_keptOn : List Cond := .code yX12_keptOn cX12_keptOn 9 (some .int) :: ([.fieldLink RX12 56 "NightBookModel" "lawN" "[I", .fieldLink RX12 53 "NightBookModel" "lawLand" "[I", .fieldLink RX12 50 "NightBookModel" "lawKind" "[I", .fieldLink RX12 59 "NightBookModel" "lawW" "[I", .methodLink RX12 142 yX12_leastOf, .instanceMethod yX12_leastOf, .selects RX12 yX12_leastOf yX12_leastOf, .initialized RX12, .code yX12_leastOf cX12_leastOf 4 (some .int), .fieldLink RX12 41 "NightBookModel" "least" "[I", .methodLink RX12 138 yX12_mostOf, .instanceMethod yX12_mostOf, .selects RX12 yX12_mostOf yX12_mostOf, .code yX12_mostOf cX12_mostOf 4 (some .int), .fieldLink RX12 44 "NightBookModel" "most" "[I"] ++ wsX120)
def wsX12_kept_r1 : List Cond := [Cond.methodLink RX12 148 yX12_isLaw, Cond.instanceMethod yX12_isLaw, Cond.selects RX12 yX12_isLaw yX12_isLaw, Cond.initialized RX12, Cond.code yX12_isLaw cX12_isLaw 2 (some .boolean), Cond.fieldLink RX12 145 "NightBookModel" "laws" "I", Cond.methodLink RX12 87 yX12_in, Cond.static yX12_in, Cond.code yX12_in cX12_in 3 (some .boolean), Cond.methodLink RX12 114 yX12_isPerson, Cond.instanceMethod yX12_isPerson, Cond.selects RX12 yX12_isPerson yX12_isPerson, Cond.code yX12_isPerson cX12_isPerson 2 (some .boolean), Cond.fieldLink RX12 91 "NightBookModel" "people" "I", Cond.methodLink RX12 111 yX12_isDay, Cond.static yX12_isDay, Cond.code yX12_isDay cX12_isDay 1 (some .boolean), Cond.methodLink RX12 135 yX12_lay, Cond.instanceMethod yX12_lay, Cond.selects RX12 yX12_lay yX12_lay, Cond.code yX12_lay cX12_lay 3 none, Cond.fieldLink RX12 38 "NightBookModel" "cans" "[I", Cond.methodLink RX12 104 yX12_canOf, Cond.instanceMethod yX12_canOf]
def wsX12_kept_r2 : List Cond := [Cond.selects RX12 yX12_canOf yX12_canOf, Cond.code yX12_canOf cX12_canOf 7 (some .int), Cond.fieldLink RX12 94 "NightBookModel" "marks" "I", Cond.fieldLink RX12 20 "NightBookModel" "markKind" "[I", Cond.fieldLink RX12 32 "NightBookModel" "markLands" "[I", Cond.methodLink RX12 101 yX12_tells, Cond.instanceMethod yX12_tells, Cond.selects RX12 yX12_tells yX12_tells, Cond.code yX12_tells cX12_tells 4 (some .boolean), Cond.fieldLink RX12 23 "NightBookModel" "markOf" "[I", Cond.fieldLink RX12 35 "NightBookModel" "dropped" "[Z", Cond.fieldLink RX12 26 "NightBookModel" "markFrom" "[I", Cond.fieldLink RX12 29 "NightBookModel" "markTo" "[I", Cond.methodLink RX12 132 yX12_add, Cond.instanceMethod yX12_add, Cond.selects RX12 yX12_add yX12_add, Cond.code yX12_add cX12_add 2 none, Cond.methodLink RX12 128 yX12_addLand, Cond.instanceMethod yX12_addLand, Cond.selects RX12 yX12_addLand yX12_addLand, Cond.code yX12_addLand cX12_addLand 3 none, Cond.fieldLink RX12 41 "NightBookModel" "least" "[I", Cond.fieldLink RX12 44 "NightBookModel" "most" "[I", Cond.methodLink RX12 151 yX12_keptOn]
def wsX12_kept_r3 : List Cond := [Cond.instanceMethod yX12_keptOn, Cond.selects RX12 yX12_keptOn yX12_keptOn, Cond.code yX12_keptOn cX12_keptOn 9 (some .int), Cond.fieldLink RX12 56 "NightBookModel" "lawN" "[I", Cond.fieldLink RX12 53 "NightBookModel" "lawLand" "[I", Cond.fieldLink RX12 50 "NightBookModel" "lawKind" "[I", Cond.fieldLink RX12 59 "NightBookModel" "lawW" "[I", Cond.methodLink RX12 142 yX12_leastOf, Cond.instanceMethod yX12_leastOf, Cond.selects RX12 yX12_leastOf yX12_leastOf, Cond.code yX12_leastOf cX12_leastOf 4 (some .int), Cond.methodLink RX12 138 yX12_mostOf, Cond.instanceMethod yX12_mostOf, Cond.selects RX12 yX12_mostOf yX12_mostOf, Cond.code yX12_mostOf cX12_mostOf 4 (some .int)]
def wsX12_kept : List Cond := .code yX12_kept cX12_kept 4 (some .int) :: ((wsX12_kept_r1 ++ (wsX12_kept_r2 ++ wsX12_kept_r3)) ++ wsX120)
def wsX12_first_r1 : List Cond := [Cond.methodLink RX12 148 yX12_isLaw, Cond.instanceMethod yX12_isLaw, Cond.selects RX12 yX12_isLaw yX12_isLaw, Cond.initialized RX12, Cond.code yX12_isLaw cX12_isLaw 2 (some .boolean), Cond.fieldLink RX12 145 "NightBookModel" "laws" "I", Cond.methodLink RX12 87 yX12_in, Cond.static yX12_in, Cond.code yX12_in cX12_in 3 (some .boolean), Cond.methodLink RX12 114 yX12_isPerson, Cond.instanceMethod yX12_isPerson, Cond.selects RX12 yX12_isPerson yX12_isPerson, Cond.code yX12_isPerson cX12_isPerson 2 (some .boolean), Cond.fieldLink RX12 91 "NightBookModel" "people" "I", Cond.methodLink RX12 111 yX12_isDay, Cond.static yX12_isDay, Cond.code yX12_isDay cX12_isDay 1 (some .boolean), Cond.methodLink RX12 135 yX12_lay, Cond.instanceMethod yX12_lay, Cond.selects RX12 yX12_lay yX12_lay, Cond.code yX12_lay cX12_lay 3 none, Cond.fieldLink RX12 38 "NightBookModel" "cans" "[I", Cond.methodLink RX12 104 yX12_canOf, Cond.instanceMethod yX12_canOf]
def wsX12_first_r2 : List Cond := [Cond.selects RX12 yX12_canOf yX12_canOf, Cond.code yX12_canOf cX12_canOf 7 (some .int), Cond.fieldLink RX12 94 "NightBookModel" "marks" "I", Cond.fieldLink RX12 20 "NightBookModel" "markKind" "[I", Cond.fieldLink RX12 32 "NightBookModel" "markLands" "[I", Cond.methodLink RX12 101 yX12_tells, Cond.instanceMethod yX12_tells, Cond.selects RX12 yX12_tells yX12_tells, Cond.code yX12_tells cX12_tells 4 (some .boolean), Cond.fieldLink RX12 23 "NightBookModel" "markOf" "[I", Cond.fieldLink RX12 35 "NightBookModel" "dropped" "[Z", Cond.fieldLink RX12 26 "NightBookModel" "markFrom" "[I", Cond.fieldLink RX12 29 "NightBookModel" "markTo" "[I", Cond.methodLink RX12 132 yX12_add, Cond.instanceMethod yX12_add, Cond.selects RX12 yX12_add yX12_add, Cond.code yX12_add cX12_add 2 none, Cond.methodLink RX12 128 yX12_addLand, Cond.instanceMethod yX12_addLand, Cond.selects RX12 yX12_addLand yX12_addLand, Cond.code yX12_addLand cX12_addLand 3 none, Cond.fieldLink RX12 41 "NightBookModel" "least" "[I", Cond.fieldLink RX12 44 "NightBookModel" "most" "[I", Cond.methodLink RX12 151 yX12_keptOn]
def wsX12_first_r3 : List Cond := [Cond.instanceMethod yX12_keptOn, Cond.selects RX12 yX12_keptOn yX12_keptOn, Cond.code yX12_keptOn cX12_keptOn 9 (some .int), Cond.fieldLink RX12 56 "NightBookModel" "lawN" "[I", Cond.fieldLink RX12 53 "NightBookModel" "lawLand" "[I", Cond.fieldLink RX12 50 "NightBookModel" "lawKind" "[I", Cond.fieldLink RX12 59 "NightBookModel" "lawW" "[I", Cond.methodLink RX12 142 yX12_leastOf, Cond.instanceMethod yX12_leastOf, Cond.selects RX12 yX12_leastOf yX12_leastOf, Cond.code yX12_leastOf cX12_leastOf 4 (some .int), Cond.methodLink RX12 138 yX12_mostOf, Cond.instanceMethod yX12_mostOf, Cond.selects RX12 yX12_mostOf yX12_mostOf, Cond.code yX12_mostOf cX12_mostOf 4 (some .int)]
def wsX12_first : List Cond := .code yX12_first cX12_first 6 (some .int) :: ((wsX12_first_r1 ++ (wsX12_first_r2 ++ wsX12_first_r3)) ++ wsX120)
def wsX12_broken_r1 : List Cond := [Cond.fieldLink RX12 145 "NightBookModel" "laws" "I", Cond.methodLink RX12 114 yX12_isPerson, Cond.instanceMethod yX12_isPerson, Cond.selects RX12 yX12_isPerson yX12_isPerson, Cond.initialized RX12, Cond.code yX12_isPerson cX12_isPerson 2 (some .boolean), Cond.fieldLink RX12 91 "NightBookModel" "people" "I", Cond.methodLink RX12 87 yX12_in, Cond.static yX12_in, Cond.code yX12_in cX12_in 3 (some .boolean), Cond.methodLink RX12 135 yX12_lay, Cond.instanceMethod yX12_lay, Cond.selects RX12 yX12_lay yX12_lay, Cond.code yX12_lay cX12_lay 3 none, Cond.fieldLink RX12 38 "NightBookModel" "cans" "[I", Cond.methodLink RX12 104 yX12_canOf, Cond.instanceMethod yX12_canOf, Cond.selects RX12 yX12_canOf yX12_canOf, Cond.code yX12_canOf cX12_canOf 7 (some .int), Cond.fieldLink RX12 94 "NightBookModel" "marks" "I", Cond.fieldLink RX12 20 "NightBookModel" "markKind" "[I", Cond.fieldLink RX12 32 "NightBookModel" "markLands" "[I", Cond.methodLink RX12 101 yX12_tells, Cond.instanceMethod yX12_tells]
def wsX12_broken_r2 : List Cond := [Cond.selects RX12 yX12_tells yX12_tells, Cond.code yX12_tells cX12_tells 4 (some .boolean), Cond.fieldLink RX12 23 "NightBookModel" "markOf" "[I", Cond.fieldLink RX12 35 "NightBookModel" "dropped" "[Z", Cond.fieldLink RX12 26 "NightBookModel" "markFrom" "[I", Cond.fieldLink RX12 29 "NightBookModel" "markTo" "[I", Cond.methodLink RX12 132 yX12_add, Cond.instanceMethod yX12_add, Cond.selects RX12 yX12_add yX12_add, Cond.code yX12_add cX12_add 2 none, Cond.methodLink RX12 128 yX12_addLand, Cond.instanceMethod yX12_addLand, Cond.selects RX12 yX12_addLand yX12_addLand, Cond.code yX12_addLand cX12_addLand 3 none, Cond.fieldLink RX12 41 "NightBookModel" "least" "[I", Cond.fieldLink RX12 44 "NightBookModel" "most" "[I", Cond.methodLink RX12 151 yX12_keptOn, Cond.instanceMethod yX12_keptOn, Cond.selects RX12 yX12_keptOn yX12_keptOn, Cond.code yX12_keptOn cX12_keptOn 9 (some .int), Cond.fieldLink RX12 56 "NightBookModel" "lawN" "[I", Cond.fieldLink RX12 53 "NightBookModel" "lawLand" "[I", Cond.fieldLink RX12 50 "NightBookModel" "lawKind" "[I", Cond.fieldLink RX12 59 "NightBookModel" "lawW" "[I"]
def wsX12_broken_r3 : List Cond := [Cond.methodLink RX12 142 yX12_leastOf, Cond.instanceMethod yX12_leastOf, Cond.selects RX12 yX12_leastOf yX12_leastOf, Cond.code yX12_leastOf cX12_leastOf 4 (some .int), Cond.methodLink RX12 138 yX12_mostOf, Cond.instanceMethod yX12_mostOf, Cond.selects RX12 yX12_mostOf yX12_mostOf, Cond.code yX12_mostOf cX12_mostOf 4 (some .int)]
def wsX12_broken : List Cond := .code yX12_broken cX12_broken 5 (some .int) :: ((wsX12_broken_r1 ++ (wsX12_broken_r2 ++ wsX12_broken_r3)) ++ wsX120)
def wsX12_allKept : List Cond := .code yX12_allKept cX12_allKept 5 (some .boolean) :: ([.fieldLink RX12 145 "NightBookModel" "laws" "I", .fieldLink RX12 50 "NightBookModel" "lawKind" "[I", .methodLink RX12 151 yX12_keptOn, .instanceMethod yX12_keptOn, .selects RX12 yX12_keptOn yX12_keptOn, .initialized RX12, .code yX12_keptOn cX12_keptOn 9 (some .int), .fieldLink RX12 56 "NightBookModel" "lawN" "[I", .fieldLink RX12 53 "NightBookModel" "lawLand" "[I", .fieldLink RX12 59 "NightBookModel" "lawW" "[I", .methodLink RX12 142 yX12_leastOf, .instanceMethod yX12_leastOf, .selects RX12 yX12_leastOf yX12_leastOf, .code yX12_leastOf cX12_leastOf 4 (some .int), .fieldLink RX12 41 "NightBookModel" "least" "[I", .methodLink RX12 138 yX12_mostOf, .instanceMethod yX12_mostOf, .selects RX12 yX12_mostOf yX12_mostOf, .code yX12_mostOf cX12_mostOf 4 (some .int), .fieldLink RX12 44 "NightBookModel" "most" "[I"] ++ wsX120)
def wsX12_travel_r1 : List Cond := [Cond.fieldLink RX12 7 "NightBookModel" "home" "[I", Cond.fieldLink RX12 13 "NightBookModel" "passport" "[I", Cond.fieldLink RX12 38 "NightBookModel" "cans" "[I", Cond.fieldLink RX12 62 "NightBookModel" "taken" "[Z", Cond.methodLink RX12 135 yX12_lay, Cond.instanceMethod yX12_lay, Cond.selects RX12 yX12_lay yX12_lay, Cond.initialized RX12, Cond.code yX12_lay cX12_lay 3 none, Cond.methodLink RX12 104 yX12_canOf, Cond.instanceMethod yX12_canOf, Cond.selects RX12 yX12_canOf yX12_canOf, Cond.code yX12_canOf cX12_canOf 7 (some .int), Cond.fieldLink RX12 94 "NightBookModel" "marks" "I", Cond.fieldLink RX12 20 "NightBookModel" "markKind" "[I", Cond.fieldLink RX12 32 "NightBookModel" "markLands" "[I", Cond.methodLink RX12 101 yX12_tells, Cond.instanceMethod yX12_tells, Cond.selects RX12 yX12_tells yX12_tells, Cond.code yX12_tells cX12_tells 4 (some .boolean), Cond.fieldLink RX12 23 "NightBookModel" "markOf" "[I", Cond.fieldLink RX12 35 "NightBookModel" "dropped" "[Z", Cond.fieldLink RX12 26 "NightBookModel" "markFrom" "[I", Cond.fieldLink RX12 29 "NightBookModel" "markTo" "[I"]
def wsX12_travel_r2 : List Cond := [Cond.methodLink RX12 132 yX12_add, Cond.instanceMethod yX12_add, Cond.selects RX12 yX12_add yX12_add, Cond.code yX12_add cX12_add 2 none, Cond.methodLink RX12 128 yX12_addLand, Cond.instanceMethod yX12_addLand, Cond.selects RX12 yX12_addLand yX12_addLand, Cond.code yX12_addLand cX12_addLand 3 none, Cond.fieldLink RX12 41 "NightBookModel" "least" "[I", Cond.fieldLink RX12 44 "NightBookModel" "most" "[I", Cond.methodLink RX12 154 yX12_allKept, Cond.instanceMethod yX12_allKept, Cond.selects RX12 yX12_allKept yX12_allKept, Cond.code yX12_allKept cX12_allKept 5 (some .boolean), Cond.fieldLink RX12 145 "NightBookModel" "laws" "I", Cond.fieldLink RX12 50 "NightBookModel" "lawKind" "[I", Cond.methodLink RX12 151 yX12_keptOn, Cond.instanceMethod yX12_keptOn, Cond.selects RX12 yX12_keptOn yX12_keptOn, Cond.code yX12_keptOn cX12_keptOn 9 (some .int), Cond.fieldLink RX12 56 "NightBookModel" "lawN" "[I", Cond.fieldLink RX12 53 "NightBookModel" "lawLand" "[I", Cond.fieldLink RX12 59 "NightBookModel" "lawW" "[I", Cond.methodLink RX12 142 yX12_leastOf]
def wsX12_travel_r3 : List Cond := [Cond.instanceMethod yX12_leastOf, Cond.selects RX12 yX12_leastOf yX12_leastOf, Cond.code yX12_leastOf cX12_leastOf 4 (some .int), Cond.methodLink RX12 138 yX12_mostOf, Cond.instanceMethod yX12_mostOf, Cond.selects RX12 yX12_mostOf yX12_mostOf, Cond.code yX12_mostOf cX12_mostOf 4 (some .int)]
def wsX12_travel : List Cond := .code yX12_travel cX12_travel 8 (some .int) :: ((wsX12_travel_r1 ++ (wsX12_travel_r2 ++ wsX12_travel_r3)) ++ wsX120)
def wsX12_free_r1 : List Cond := [Cond.methodLink RX12 114 yX12_isPerson, Cond.instanceMethod yX12_isPerson, Cond.selects RX12 yX12_isPerson yX12_isPerson, Cond.initialized RX12, Cond.code yX12_isPerson cX12_isPerson 2 (some .boolean), Cond.fieldLink RX12 91 "NightBookModel" "people" "I", Cond.methodLink RX12 87 yX12_in, Cond.static yX12_in, Cond.code yX12_in cX12_in 3 (some .boolean), Cond.methodLink RX12 97 yX12_isLand, Cond.static yX12_isLand, Cond.code yX12_isLand cX12_isLand 1 (some .boolean), Cond.methodLink RX12 117 yX12_isSpan, Cond.static yX12_isSpan, Cond.code yX12_isSpan cX12_isSpan 2 (some .boolean), Cond.methodLink RX12 111 yX12_isDay, Cond.static yX12_isDay, Cond.code yX12_isDay cX12_isDay 1 (some .boolean), Cond.methodLink RX12 157 yX12_travel, Cond.instanceMethod yX12_travel, Cond.selects RX12 yX12_travel yX12_travel, Cond.code yX12_travel cX12_travel 8 (some .int), Cond.fieldLink RX12 7 "NightBookModel" "home" "[I", Cond.fieldLink RX12 13 "NightBookModel" "passport" "[I"]
def wsX12_free_r2 : List Cond := [Cond.fieldLink RX12 38 "NightBookModel" "cans" "[I", Cond.fieldLink RX12 62 "NightBookModel" "taken" "[Z", Cond.methodLink RX12 135 yX12_lay, Cond.instanceMethod yX12_lay, Cond.selects RX12 yX12_lay yX12_lay, Cond.code yX12_lay cX12_lay 3 none, Cond.methodLink RX12 104 yX12_canOf, Cond.instanceMethod yX12_canOf, Cond.selects RX12 yX12_canOf yX12_canOf, Cond.code yX12_canOf cX12_canOf 7 (some .int), Cond.fieldLink RX12 94 "NightBookModel" "marks" "I", Cond.fieldLink RX12 20 "NightBookModel" "markKind" "[I", Cond.fieldLink RX12 32 "NightBookModel" "markLands" "[I", Cond.methodLink RX12 101 yX12_tells, Cond.instanceMethod yX12_tells, Cond.selects RX12 yX12_tells yX12_tells, Cond.code yX12_tells cX12_tells 4 (some .boolean), Cond.fieldLink RX12 23 "NightBookModel" "markOf" "[I", Cond.fieldLink RX12 35 "NightBookModel" "dropped" "[Z", Cond.fieldLink RX12 26 "NightBookModel" "markFrom" "[I", Cond.fieldLink RX12 29 "NightBookModel" "markTo" "[I", Cond.methodLink RX12 132 yX12_add, Cond.instanceMethod yX12_add, Cond.selects RX12 yX12_add yX12_add]
def wsX12_free_r3 : List Cond := [Cond.code yX12_add cX12_add 2 none, Cond.methodLink RX12 128 yX12_addLand, Cond.instanceMethod yX12_addLand, Cond.selects RX12 yX12_addLand yX12_addLand, Cond.code yX12_addLand cX12_addLand 3 none, Cond.fieldLink RX12 41 "NightBookModel" "least" "[I", Cond.fieldLink RX12 44 "NightBookModel" "most" "[I", Cond.methodLink RX12 154 yX12_allKept, Cond.instanceMethod yX12_allKept, Cond.selects RX12 yX12_allKept yX12_allKept, Cond.code yX12_allKept cX12_allKept 5 (some .boolean), Cond.fieldLink RX12 145 "NightBookModel" "laws" "I", Cond.fieldLink RX12 50 "NightBookModel" "lawKind" "[I", Cond.methodLink RX12 151 yX12_keptOn, Cond.instanceMethod yX12_keptOn, Cond.selects RX12 yX12_keptOn yX12_keptOn, Cond.code yX12_keptOn cX12_keptOn 9 (some .int), Cond.fieldLink RX12 56 "NightBookModel" "lawN" "[I", Cond.fieldLink RX12 53 "NightBookModel" "lawLand" "[I", Cond.fieldLink RX12 59 "NightBookModel" "lawW" "[I", Cond.methodLink RX12 142 yX12_leastOf, Cond.instanceMethod yX12_leastOf, Cond.selects RX12 yX12_leastOf yX12_leastOf, Cond.code yX12_leastOf cX12_leastOf 4 (some .int)]
def wsX12_free_r4 : List Cond := [Cond.methodLink RX12 138 yX12_mostOf, Cond.instanceMethod yX12_mostOf, Cond.selects RX12 yX12_mostOf yX12_mostOf, Cond.code yX12_mostOf cX12_mostOf 4 (some .int)]
def wsX12_free : List Cond := .code yX12_free cX12_free 5 (some .int) :: ((wsX12_free_r1 ++ (wsX12_free_r2 ++ (wsX12_free_r3 ++ wsX12_free_r4))) ++ wsX120)
def wsX12_trip_r1 : List Cond := [Cond.fieldLink RX12 62 "NightBookModel" "taken" "[Z", Cond.methodLink RX12 114 yX12_isPerson, Cond.instanceMethod yX12_isPerson, Cond.selects RX12 yX12_isPerson yX12_isPerson, Cond.initialized RX12, Cond.code yX12_isPerson cX12_isPerson 2 (some .boolean), Cond.fieldLink RX12 91 "NightBookModel" "people" "I", Cond.methodLink RX12 87 yX12_in, Cond.static yX12_in, Cond.code yX12_in cX12_in 3 (some .boolean), Cond.methodLink RX12 97 yX12_isLand, Cond.static yX12_isLand, Cond.code yX12_isLand cX12_isLand 1 (some .boolean), Cond.methodLink RX12 117 yX12_isSpan, Cond.static yX12_isSpan, Cond.code yX12_isSpan cX12_isSpan 2 (some .boolean), Cond.methodLink RX12 111 yX12_isDay, Cond.static yX12_isDay, Cond.code yX12_isDay cX12_isDay 1 (some .boolean), Cond.methodLink RX12 157 yX12_travel, Cond.instanceMethod yX12_travel, Cond.selects RX12 yX12_travel yX12_travel, Cond.code yX12_travel cX12_travel 8 (some .int), Cond.fieldLink RX12 7 "NightBookModel" "home" "[I"]
def wsX12_trip_r2 : List Cond := [Cond.fieldLink RX12 13 "NightBookModel" "passport" "[I", Cond.fieldLink RX12 38 "NightBookModel" "cans" "[I", Cond.methodLink RX12 135 yX12_lay, Cond.instanceMethod yX12_lay, Cond.selects RX12 yX12_lay yX12_lay, Cond.code yX12_lay cX12_lay 3 none, Cond.methodLink RX12 104 yX12_canOf, Cond.instanceMethod yX12_canOf, Cond.selects RX12 yX12_canOf yX12_canOf, Cond.code yX12_canOf cX12_canOf 7 (some .int), Cond.fieldLink RX12 94 "NightBookModel" "marks" "I", Cond.fieldLink RX12 20 "NightBookModel" "markKind" "[I", Cond.fieldLink RX12 32 "NightBookModel" "markLands" "[I", Cond.methodLink RX12 101 yX12_tells, Cond.instanceMethod yX12_tells, Cond.selects RX12 yX12_tells yX12_tells, Cond.code yX12_tells cX12_tells 4 (some .boolean), Cond.fieldLink RX12 23 "NightBookModel" "markOf" "[I", Cond.fieldLink RX12 35 "NightBookModel" "dropped" "[Z", Cond.fieldLink RX12 26 "NightBookModel" "markFrom" "[I", Cond.fieldLink RX12 29 "NightBookModel" "markTo" "[I", Cond.methodLink RX12 132 yX12_add, Cond.instanceMethod yX12_add, Cond.selects RX12 yX12_add yX12_add]
def wsX12_trip_r3 : List Cond := [Cond.code yX12_add cX12_add 2 none, Cond.methodLink RX12 128 yX12_addLand, Cond.instanceMethod yX12_addLand, Cond.selects RX12 yX12_addLand yX12_addLand, Cond.code yX12_addLand cX12_addLand 3 none, Cond.fieldLink RX12 41 "NightBookModel" "least" "[I", Cond.fieldLink RX12 44 "NightBookModel" "most" "[I", Cond.methodLink RX12 154 yX12_allKept, Cond.instanceMethod yX12_allKept, Cond.selects RX12 yX12_allKept yX12_allKept, Cond.code yX12_allKept cX12_allKept 5 (some .boolean), Cond.fieldLink RX12 145 "NightBookModel" "laws" "I", Cond.fieldLink RX12 50 "NightBookModel" "lawKind" "[I", Cond.methodLink RX12 151 yX12_keptOn, Cond.instanceMethod yX12_keptOn, Cond.selects RX12 yX12_keptOn yX12_keptOn, Cond.code yX12_keptOn cX12_keptOn 9 (some .int), Cond.fieldLink RX12 56 "NightBookModel" "lawN" "[I", Cond.fieldLink RX12 53 "NightBookModel" "lawLand" "[I", Cond.fieldLink RX12 59 "NightBookModel" "lawW" "[I", Cond.methodLink RX12 142 yX12_leastOf, Cond.instanceMethod yX12_leastOf, Cond.selects RX12 yX12_leastOf yX12_leastOf, Cond.code yX12_leastOf cX12_leastOf 4 (some .int)]
def wsX12_trip_r4 : List Cond := [Cond.methodLink RX12 138 yX12_mostOf, Cond.instanceMethod yX12_mostOf, Cond.selects RX12 yX12_mostOf yX12_mostOf, Cond.code yX12_mostOf cX12_mostOf 4 (some .int)]
def wsX12_trip : List Cond := .code yX12_trip cX12_trip 8 (some .int) :: ((wsX12_trip_r1 ++ (wsX12_trip_r2 ++ (wsX12_trip_r3 ++ wsX12_trip_r4))) ++ wsX120)
def wsX12_claim : List Cond := .code yX12_claim cX12_claim 4 (some .int) :: ([.fieldLink RX12 65 "NightBookModel" "claimNights" "[I", .methodLink RX12 97 yX12_isLand, .static yX12_isLand, .initialized RX12, .code yX12_isLand cX12_isLand 1 (some .boolean), .methodLink RX12 87 yX12_in, .static yX12_in, .code yX12_in cX12_in 3 (some .boolean)] ++ wsX120)
def wsX12_claimsOf : List Cond := .code yX12_claimsOf cX12_claimsOf 4 (some .int) :: ([.fieldLink RX12 65 "NightBookModel" "claimNights" "[I", .methodLink RX12 142 yX12_leastOf, .instanceMethod yX12_leastOf, .selects RX12 yX12_leastOf yX12_leastOf, .initialized RX12, .code yX12_leastOf cX12_leastOf 4 (some .int), .fieldLink RX12 41 "NightBookModel" "least" "[I", .methodLink RX12 138 yX12_mostOf, .instanceMethod yX12_mostOf, .selects RX12 yX12_mostOf yX12_mostOf, .code yX12_mostOf cX12_mostOf 4 (some .int), .fieldLink RX12 44 "NightBookModel" "most" "[I"] ++ wsX120)
def wsX12_isYear : List Cond := .code yX12_isYear cX12_isYear 1 (some .boolean) :: ([.methodLink RX12 87 yX12_in, .static yX12_in, .initialized RX12, .code yX12_in cX12_in 3 (some .boolean)])
def wsX12_claims_r1 : List Cond := [Cond.methodLink RX12 97 yX12_isLand, Cond.static yX12_isLand, Cond.initialized RX12, Cond.code yX12_isLand cX12_isLand 1 (some .boolean), Cond.methodLink RX12 87 yX12_in, Cond.static yX12_in, Cond.code yX12_in cX12_in 3 (some .boolean), Cond.methodLink RX12 114 yX12_isPerson, Cond.instanceMethod yX12_isPerson, Cond.selects RX12 yX12_isPerson yX12_isPerson, Cond.code yX12_isPerson cX12_isPerson 2 (some .boolean), Cond.fieldLink RX12 91 "NightBookModel" "people" "I", Cond.methodLink RX12 161 yX12_isYear, Cond.static yX12_isYear, Cond.code yX12_isYear cX12_isYear 1 (some .boolean), Cond.methodLink RX12 135 yX12_lay, Cond.instanceMethod yX12_lay, Cond.selects RX12 yX12_lay yX12_lay, Cond.code yX12_lay cX12_lay 3 none, Cond.fieldLink RX12 38 "NightBookModel" "cans" "[I", Cond.methodLink RX12 104 yX12_canOf, Cond.instanceMethod yX12_canOf, Cond.selects RX12 yX12_canOf yX12_canOf, Cond.code yX12_canOf cX12_canOf 7 (some .int)]
def wsX12_claims_r2 : List Cond := [Cond.fieldLink RX12 94 "NightBookModel" "marks" "I", Cond.fieldLink RX12 20 "NightBookModel" "markKind" "[I", Cond.fieldLink RX12 32 "NightBookModel" "markLands" "[I", Cond.methodLink RX12 101 yX12_tells, Cond.instanceMethod yX12_tells, Cond.selects RX12 yX12_tells yX12_tells, Cond.code yX12_tells cX12_tells 4 (some .boolean), Cond.fieldLink RX12 23 "NightBookModel" "markOf" "[I", Cond.fieldLink RX12 35 "NightBookModel" "dropped" "[Z", Cond.fieldLink RX12 26 "NightBookModel" "markFrom" "[I", Cond.fieldLink RX12 29 "NightBookModel" "markTo" "[I", Cond.methodLink RX12 132 yX12_add, Cond.instanceMethod yX12_add, Cond.selects RX12 yX12_add yX12_add, Cond.code yX12_add cX12_add 2 none, Cond.methodLink RX12 128 yX12_addLand, Cond.instanceMethod yX12_addLand, Cond.selects RX12 yX12_addLand yX12_addLand, Cond.code yX12_addLand cX12_addLand 3 none, Cond.fieldLink RX12 41 "NightBookModel" "least" "[I", Cond.fieldLink RX12 44 "NightBookModel" "most" "[I", Cond.methodLink RX12 164 yX12_claimsOf, Cond.instanceMethod yX12_claimsOf, Cond.selects RX12 yX12_claimsOf yX12_claimsOf]
def wsX12_claims_r3 : List Cond := [Cond.code yX12_claimsOf cX12_claimsOf 4 (some .int), Cond.fieldLink RX12 65 "NightBookModel" "claimNights" "[I", Cond.methodLink RX12 142 yX12_leastOf, Cond.instanceMethod yX12_leastOf, Cond.selects RX12 yX12_leastOf yX12_leastOf, Cond.code yX12_leastOf cX12_leastOf 4 (some .int), Cond.methodLink RX12 138 yX12_mostOf, Cond.instanceMethod yX12_mostOf, Cond.selects RX12 yX12_mostOf yX12_mostOf, Cond.code yX12_mostOf cX12_mostOf 4 (some .int)]
def wsX12_claims : List Cond := .code yX12_claims cX12_claims 4 (some .int) :: ((wsX12_claims_r1 ++ (wsX12_claims_r2 ++ wsX12_claims_r3)) ++ wsX120)
def wsX12_pair : List Cond := .code yX12_pair cX12_pair 2 (some .int) :: ([])
def wsX12_areTests : List Cond := .code yX12_areTests cX12_areTests 4 (some .boolean) :: ([.methodLink RX12 87 yX12_in, .static yX12_in, .initialized RX12, .code yX12_in cX12_in 3 (some .boolean)])
def wsX12_treaty : List Cond := .code yX12_treaty cX12_treaty 6 (some .int) :: ([.fieldLink RX12 68 "NightBookModel" "treaties" "[I", .methodLink RX12 97 yX12_isLand, .static yX12_isLand, .initialized RX12, .code yX12_isLand cX12_isLand 1 (some .boolean), .methodLink RX12 87 yX12_in, .static yX12_in, .code yX12_in cX12_in 3 (some .boolean), .methodLink RX12 167 yX12_areTests, .static yX12_areTests, .code yX12_areTests cX12_areTests 4 (some .boolean), .methodLink RX12 170 yX12_pair, .static yX12_pair, .code yX12_pair cX12_pair 2 (some .int)] ++ wsX120)
def wsX12_decided : List Cond := .code yX12_decided cX12_decided 9 (some .int) :: ([.fieldLink RX12 68 "NightBookModel" "treaties" "[I", .fieldLink RX12 7 "NightBookModel" "home" "[I", .fieldLink RX12 13 "NightBookModel" "passport" "[I", .methodLink RX12 170 yX12_pair, .static yX12_pair, .initialized RX12, .code yX12_pair cX12_pair 2 (some .int), .methodLink RX12 142 yX12_leastOf, .instanceMethod yX12_leastOf, .selects RX12 yX12_leastOf yX12_leastOf, .code yX12_leastOf cX12_leastOf 4 (some .int), .fieldLink RX12 41 "NightBookModel" "least" "[I", .methodLink RX12 138 yX12_mostOf, .instanceMethod yX12_mostOf, .selects RX12 yX12_mostOf yX12_mostOf, .code yX12_mostOf cX12_mostOf 4 (some .int), .fieldLink RX12 44 "NightBookModel" "most" "[I"] ++ wsX120)
def wsX12_decides_r1 : List Cond := [Cond.methodLink RX12 97 yX12_isLand, Cond.static yX12_isLand, Cond.initialized RX12, Cond.code yX12_isLand cX12_isLand 1 (some .boolean), Cond.methodLink RX12 87 yX12_in, Cond.static yX12_in, Cond.code yX12_in cX12_in 3 (some .boolean), Cond.methodLink RX12 114 yX12_isPerson, Cond.instanceMethod yX12_isPerson, Cond.selects RX12 yX12_isPerson yX12_isPerson, Cond.code yX12_isPerson cX12_isPerson 2 (some .boolean), Cond.fieldLink RX12 91 "NightBookModel" "people" "I", Cond.methodLink RX12 161 yX12_isYear, Cond.static yX12_isYear, Cond.code yX12_isYear cX12_isYear 1 (some .boolean), Cond.methodLink RX12 135 yX12_lay, Cond.instanceMethod yX12_lay, Cond.selects RX12 yX12_lay yX12_lay, Cond.code yX12_lay cX12_lay 3 none, Cond.fieldLink RX12 38 "NightBookModel" "cans" "[I", Cond.methodLink RX12 104 yX12_canOf, Cond.instanceMethod yX12_canOf, Cond.selects RX12 yX12_canOf yX12_canOf, Cond.code yX12_canOf cX12_canOf 7 (some .int)]
def wsX12_decides_r2 : List Cond := [Cond.fieldLink RX12 94 "NightBookModel" "marks" "I", Cond.fieldLink RX12 20 "NightBookModel" "markKind" "[I", Cond.fieldLink RX12 32 "NightBookModel" "markLands" "[I", Cond.methodLink RX12 101 yX12_tells, Cond.instanceMethod yX12_tells, Cond.selects RX12 yX12_tells yX12_tells, Cond.code yX12_tells cX12_tells 4 (some .boolean), Cond.fieldLink RX12 23 "NightBookModel" "markOf" "[I", Cond.fieldLink RX12 35 "NightBookModel" "dropped" "[Z", Cond.fieldLink RX12 26 "NightBookModel" "markFrom" "[I", Cond.fieldLink RX12 29 "NightBookModel" "markTo" "[I", Cond.methodLink RX12 132 yX12_add, Cond.instanceMethod yX12_add, Cond.selects RX12 yX12_add yX12_add, Cond.code yX12_add cX12_add 2 none, Cond.methodLink RX12 128 yX12_addLand, Cond.instanceMethod yX12_addLand, Cond.selects RX12 yX12_addLand yX12_addLand, Cond.code yX12_addLand cX12_addLand 3 none, Cond.fieldLink RX12 41 "NightBookModel" "least" "[I", Cond.fieldLink RX12 44 "NightBookModel" "most" "[I", Cond.methodLink RX12 173 yX12_decided, Cond.instanceMethod yX12_decided, Cond.selects RX12 yX12_decided yX12_decided]
def wsX12_decides_r3 : List Cond := [Cond.code yX12_decided cX12_decided 9 (some .int), Cond.fieldLink RX12 68 "NightBookModel" "treaties" "[I", Cond.fieldLink RX12 7 "NightBookModel" "home" "[I", Cond.fieldLink RX12 13 "NightBookModel" "passport" "[I", Cond.methodLink RX12 170 yX12_pair, Cond.static yX12_pair, Cond.code yX12_pair cX12_pair 2 (some .int), Cond.methodLink RX12 142 yX12_leastOf, Cond.instanceMethod yX12_leastOf, Cond.selects RX12 yX12_leastOf yX12_leastOf, Cond.code yX12_leastOf cX12_leastOf 4 (some .int), Cond.methodLink RX12 138 yX12_mostOf, Cond.instanceMethod yX12_mostOf, Cond.selects RX12 yX12_mostOf yX12_mostOf, Cond.code yX12_mostOf cX12_mostOf 4 (some .int)]
def wsX12_decides : List Cond := .code yX12_decides cX12_decides 5 (some .int) :: ((wsX12_decides_r1 ++ (wsX12_decides_r2 ++ wsX12_decides_r3)) ++ wsX120)
def wsX12_taxedOf_r1 : List Cond := [Cond.methodLink RX12 164 yX12_claimsOf, Cond.instanceMethod yX12_claimsOf, Cond.selects RX12 yX12_claimsOf yX12_claimsOf, Cond.initialized RX12, Cond.code yX12_claimsOf cX12_claimsOf 4 (some .int), Cond.fieldLink RX12 65 "NightBookModel" "claimNights" "[I", Cond.methodLink RX12 142 yX12_leastOf, Cond.instanceMethod yX12_leastOf, Cond.selects RX12 yX12_leastOf yX12_leastOf, Cond.code yX12_leastOf cX12_leastOf 4 (some .int), Cond.fieldLink RX12 41 "NightBookModel" "least" "[I", Cond.methodLink RX12 138 yX12_mostOf, Cond.instanceMethod yX12_mostOf, Cond.selects RX12 yX12_mostOf yX12_mostOf, Cond.code yX12_mostOf cX12_mostOf 4 (some .int), Cond.fieldLink RX12 44 "NightBookModel" "most" "[I", Cond.methodLink RX12 173 yX12_decided, Cond.instanceMethod yX12_decided, Cond.selects RX12 yX12_decided yX12_decided, Cond.code yX12_decided cX12_decided 9 (some .int), Cond.fieldLink RX12 68 "NightBookModel" "treaties" "[I", Cond.fieldLink RX12 7 "NightBookModel" "home" "[I", Cond.fieldLink RX12 13 "NightBookModel" "passport" "[I", Cond.methodLink RX12 170 yX12_pair]
def wsX12_taxedOf_r2 : List Cond := [Cond.static yX12_pair, Cond.code yX12_pair cX12_pair 2 (some .int)]
def wsX12_taxedOf : List Cond := .code yX12_taxedOf cX12_taxedOf 8 (some .int) :: ((wsX12_taxedOf_r1 ++ wsX12_taxedOf_r2) ++ wsX120)
def wsX12_taxed_r1 : List Cond := [Cond.methodLink RX12 114 yX12_isPerson, Cond.instanceMethod yX12_isPerson, Cond.selects RX12 yX12_isPerson yX12_isPerson, Cond.initialized RX12, Cond.code yX12_isPerson cX12_isPerson 2 (some .boolean), Cond.fieldLink RX12 91 "NightBookModel" "people" "I", Cond.methodLink RX12 87 yX12_in, Cond.static yX12_in, Cond.code yX12_in cX12_in 3 (some .boolean), Cond.methodLink RX12 161 yX12_isYear, Cond.static yX12_isYear, Cond.code yX12_isYear cX12_isYear 1 (some .boolean), Cond.methodLink RX12 135 yX12_lay, Cond.instanceMethod yX12_lay, Cond.selects RX12 yX12_lay yX12_lay, Cond.code yX12_lay cX12_lay 3 none, Cond.fieldLink RX12 38 "NightBookModel" "cans" "[I", Cond.methodLink RX12 104 yX12_canOf, Cond.instanceMethod yX12_canOf, Cond.selects RX12 yX12_canOf yX12_canOf, Cond.code yX12_canOf cX12_canOf 7 (some .int), Cond.fieldLink RX12 94 "NightBookModel" "marks" "I", Cond.fieldLink RX12 20 "NightBookModel" "markKind" "[I", Cond.fieldLink RX12 32 "NightBookModel" "markLands" "[I"]
def wsX12_taxed_r2 : List Cond := [Cond.methodLink RX12 101 yX12_tells, Cond.instanceMethod yX12_tells, Cond.selects RX12 yX12_tells yX12_tells, Cond.code yX12_tells cX12_tells 4 (some .boolean), Cond.fieldLink RX12 23 "NightBookModel" "markOf" "[I", Cond.fieldLink RX12 35 "NightBookModel" "dropped" "[Z", Cond.fieldLink RX12 26 "NightBookModel" "markFrom" "[I", Cond.fieldLink RX12 29 "NightBookModel" "markTo" "[I", Cond.methodLink RX12 132 yX12_add, Cond.instanceMethod yX12_add, Cond.selects RX12 yX12_add yX12_add, Cond.code yX12_add cX12_add 2 none, Cond.methodLink RX12 128 yX12_addLand, Cond.instanceMethod yX12_addLand, Cond.selects RX12 yX12_addLand yX12_addLand, Cond.code yX12_addLand cX12_addLand 3 none, Cond.fieldLink RX12 41 "NightBookModel" "least" "[I", Cond.fieldLink RX12 44 "NightBookModel" "most" "[I", Cond.methodLink RX12 176 yX12_taxedOf, Cond.instanceMethod yX12_taxedOf, Cond.selects RX12 yX12_taxedOf yX12_taxedOf, Cond.code yX12_taxedOf cX12_taxedOf 8 (some .int), Cond.methodLink RX12 164 yX12_claimsOf, Cond.instanceMethod yX12_claimsOf]
def wsX12_taxed_r3 : List Cond := [Cond.selects RX12 yX12_claimsOf yX12_claimsOf, Cond.code yX12_claimsOf cX12_claimsOf 4 (some .int), Cond.fieldLink RX12 65 "NightBookModel" "claimNights" "[I", Cond.methodLink RX12 142 yX12_leastOf, Cond.instanceMethod yX12_leastOf, Cond.selects RX12 yX12_leastOf yX12_leastOf, Cond.code yX12_leastOf cX12_leastOf 4 (some .int), Cond.methodLink RX12 138 yX12_mostOf, Cond.instanceMethod yX12_mostOf, Cond.selects RX12 yX12_mostOf yX12_mostOf, Cond.code yX12_mostOf cX12_mostOf 4 (some .int), Cond.methodLink RX12 173 yX12_decided, Cond.instanceMethod yX12_decided, Cond.selects RX12 yX12_decided yX12_decided, Cond.code yX12_decided cX12_decided 9 (some .int), Cond.fieldLink RX12 68 "NightBookModel" "treaties" "[I", Cond.fieldLink RX12 7 "NightBookModel" "home" "[I", Cond.fieldLink RX12 13 "NightBookModel" "passport" "[I", Cond.methodLink RX12 170 yX12_pair, Cond.static yX12_pair, Cond.code yX12_pair cX12_pair 2 (some .int)]
def wsX12_taxed : List Cond := .code yX12_taxed cX12_taxed 3 (some .int) :: ((wsX12_taxed_r1 ++ (wsX12_taxed_r2 ++ wsX12_taxed_r3)) ++ wsX120)
def wsX12_quarrels_r1 : List Cond := [Cond.fieldLink RX12 91 "NightBookModel" "people" "I", Cond.methodLink RX12 135 yX12_lay, Cond.instanceMethod yX12_lay, Cond.selects RX12 yX12_lay yX12_lay, Cond.initialized RX12, Cond.code yX12_lay cX12_lay 3 none, Cond.fieldLink RX12 38 "NightBookModel" "cans" "[I", Cond.methodLink RX12 104 yX12_canOf, Cond.instanceMethod yX12_canOf, Cond.selects RX12 yX12_canOf yX12_canOf, Cond.code yX12_canOf cX12_canOf 7 (some .int), Cond.fieldLink RX12 94 "NightBookModel" "marks" "I", Cond.fieldLink RX12 20 "NightBookModel" "markKind" "[I", Cond.fieldLink RX12 32 "NightBookModel" "markLands" "[I", Cond.methodLink RX12 101 yX12_tells, Cond.instanceMethod yX12_tells, Cond.selects RX12 yX12_tells yX12_tells, Cond.code yX12_tells cX12_tells 4 (some .boolean), Cond.fieldLink RX12 23 "NightBookModel" "markOf" "[I", Cond.fieldLink RX12 35 "NightBookModel" "dropped" "[Z", Cond.fieldLink RX12 26 "NightBookModel" "markFrom" "[I", Cond.fieldLink RX12 29 "NightBookModel" "markTo" "[I", Cond.methodLink RX12 132 yX12_add, Cond.instanceMethod yX12_add]
def wsX12_quarrels_r2 : List Cond := [Cond.selects RX12 yX12_add yX12_add, Cond.code yX12_add cX12_add 2 none, Cond.methodLink RX12 128 yX12_addLand, Cond.instanceMethod yX12_addLand, Cond.selects RX12 yX12_addLand yX12_addLand, Cond.code yX12_addLand cX12_addLand 3 none, Cond.fieldLink RX12 41 "NightBookModel" "least" "[I", Cond.fieldLink RX12 44 "NightBookModel" "most" "[I", Cond.methodLink RX12 176 yX12_taxedOf, Cond.instanceMethod yX12_taxedOf, Cond.selects RX12 yX12_taxedOf yX12_taxedOf, Cond.code yX12_taxedOf cX12_taxedOf 8 (some .int), Cond.methodLink RX12 164 yX12_claimsOf, Cond.instanceMethod yX12_claimsOf, Cond.selects RX12 yX12_claimsOf yX12_claimsOf, Cond.code yX12_claimsOf cX12_claimsOf 4 (some .int), Cond.fieldLink RX12 65 "NightBookModel" "claimNights" "[I", Cond.methodLink RX12 142 yX12_leastOf, Cond.instanceMethod yX12_leastOf, Cond.selects RX12 yX12_leastOf yX12_leastOf, Cond.code yX12_leastOf cX12_leastOf 4 (some .int), Cond.methodLink RX12 138 yX12_mostOf, Cond.instanceMethod yX12_mostOf, Cond.selects RX12 yX12_mostOf yX12_mostOf]
def wsX12_quarrels_r3 : List Cond := [Cond.code yX12_mostOf cX12_mostOf 4 (some .int), Cond.methodLink RX12 173 yX12_decided, Cond.instanceMethod yX12_decided, Cond.selects RX12 yX12_decided yX12_decided, Cond.code yX12_decided cX12_decided 9 (some .int), Cond.fieldLink RX12 68 "NightBookModel" "treaties" "[I", Cond.fieldLink RX12 7 "NightBookModel" "home" "[I", Cond.fieldLink RX12 13 "NightBookModel" "passport" "[I", Cond.methodLink RX12 170 yX12_pair, Cond.static yX12_pair, Cond.code yX12_pair cX12_pair 2 (some .int)]
def wsX12_quarrels : List Cond := .code yX12_quarrels cX12_quarrels 4 (some .int) :: ((wsX12_quarrels_r1 ++ (wsX12_quarrels_r2 ++ wsX12_quarrels_r3)) ++ wsX120)
def wsX12_count : List Cond := .code yX12_count cX12_count 4 (some .int) :: ([.fieldLink RX12 91 "NightBookModel" "people" "I", .fieldLink RX12 94 "NightBookModel" "marks" "I", .fieldLink RX12 145 "NightBookModel" "laws" "I", .fieldLink RX12 68 "NightBookModel" "treaties" "[I", .fieldLink RX12 35 "NightBookModel" "dropped" "[Z", .fieldLink RX12 16 "NightBookModel" "joined" "[Z"] ++ wsX120)
def wsX12_isShelf : List Cond := .code yX12_isShelf cX12_isShelf 1 (some .boolean) :: ([.methodLink RX12 87 yX12_in, .static yX12_in, .initialized RX12, .code yX12_in cX12_in 3 (some .boolean)])
def wsX12_isThing : List Cond := .code yX12_isThing cX12_isThing 3 (some .boolean) :: ([.methodLink RX12 148 yX12_isLaw, .instanceMethod yX12_isLaw, .selects RX12 yX12_isLaw yX12_isLaw, .initialized RX12, .code yX12_isLaw cX12_isLaw 2 (some .boolean), .fieldLink RX12 145 "NightBookModel" "laws" "I", .methodLink RX12 87 yX12_in, .static yX12_in, .code yX12_in cX12_in 3 (some .boolean), .methodLink RX12 125 yX12_isMark, .instanceMethod yX12_isMark, .selects RX12 yX12_isMark yX12_isMark, .code yX12_isMark cX12_isMark 2 (some .boolean), .fieldLink RX12 94 "NightBookModel" "marks" "I", .methodLink RX12 114 yX12_isPerson, .instanceMethod yX12_isPerson, .selects RX12 yX12_isPerson yX12_isPerson, .code yX12_isPerson cX12_isPerson 2 (some .boolean), .fieldLink RX12 91 "NightBookModel" "people" "I"] ++ wsX120)
def wsX12_keep_r1 : List Cond := [Cond.fieldLink RX12 71 "NightBookModel" "held" "[I", Cond.fieldLink RX12 74 "NightBookModel" "heldNumber" "[I", Cond.fieldLink RX12 77 "NightBookModel" "rowSize" "[I", Cond.fieldLink RX12 80 "NightBookModel" "rows" "[I", Cond.fieldLink RX12 38 "NightBookModel" "cans" "[I", Cond.methodLink RX12 179 yX12_isShelf, Cond.static yX12_isShelf, Cond.initialized RX12, Cond.code yX12_isShelf cX12_isShelf 1 (some .boolean), Cond.methodLink RX12 87 yX12_in, Cond.static yX12_in, Cond.code yX12_in cX12_in 3 (some .boolean), Cond.methodLink RX12 182 yX12_isThing, Cond.instanceMethod yX12_isThing, Cond.selects RX12 yX12_isThing yX12_isThing, Cond.code yX12_isThing cX12_isThing 3 (some .boolean), Cond.methodLink RX12 148 yX12_isLaw, Cond.instanceMethod yX12_isLaw, Cond.selects RX12 yX12_isLaw yX12_isLaw, Cond.code yX12_isLaw cX12_isLaw 2 (some .boolean), Cond.fieldLink RX12 145 "NightBookModel" "laws" "I", Cond.methodLink RX12 125 yX12_isMark, Cond.instanceMethod yX12_isMark, Cond.selects RX12 yX12_isMark yX12_isMark]
def wsX12_keep_r2 : List Cond := [Cond.code yX12_isMark cX12_isMark 2 (some .boolean), Cond.fieldLink RX12 94 "NightBookModel" "marks" "I", Cond.methodLink RX12 114 yX12_isPerson, Cond.instanceMethod yX12_isPerson, Cond.selects RX12 yX12_isPerson yX12_isPerson, Cond.code yX12_isPerson cX12_isPerson 2 (some .boolean), Cond.fieldLink RX12 91 "NightBookModel" "people" "I", Cond.methodLink RX12 135 yX12_lay, Cond.instanceMethod yX12_lay, Cond.selects RX12 yX12_lay yX12_lay, Cond.code yX12_lay cX12_lay 3 none, Cond.methodLink RX12 104 yX12_canOf, Cond.instanceMethod yX12_canOf, Cond.selects RX12 yX12_canOf yX12_canOf, Cond.code yX12_canOf cX12_canOf 7 (some .int), Cond.fieldLink RX12 20 "NightBookModel" "markKind" "[I", Cond.fieldLink RX12 32 "NightBookModel" "markLands" "[I", Cond.methodLink RX12 101 yX12_tells, Cond.instanceMethod yX12_tells, Cond.selects RX12 yX12_tells yX12_tells, Cond.code yX12_tells cX12_tells 4 (some .boolean), Cond.fieldLink RX12 23 "NightBookModel" "markOf" "[I", Cond.fieldLink RX12 35 "NightBookModel" "dropped" "[Z", Cond.fieldLink RX12 26 "NightBookModel" "markFrom" "[I"]
def wsX12_keep_r3 : List Cond := [Cond.fieldLink RX12 29 "NightBookModel" "markTo" "[I", Cond.methodLink RX12 132 yX12_add, Cond.instanceMethod yX12_add, Cond.selects RX12 yX12_add yX12_add, Cond.code yX12_add cX12_add 2 none, Cond.methodLink RX12 128 yX12_addLand, Cond.instanceMethod yX12_addLand, Cond.selects RX12 yX12_addLand yX12_addLand, Cond.code yX12_addLand cX12_addLand 3 none, Cond.fieldLink RX12 41 "NightBookModel" "least" "[I", Cond.fieldLink RX12 44 "NightBookModel" "most" "[I", Cond.methodLink RX12 138 yX12_mostOf, Cond.instanceMethod yX12_mostOf, Cond.selects RX12 yX12_mostOf yX12_mostOf, Cond.code yX12_mostOf cX12_mostOf 4 (some .int)]
def wsX12_keep : List Cond := .code yX12_keep cX12_keep 5 (some .int) :: ((wsX12_keep_r1 ++ (wsX12_keep_r2 ++ wsX12_keep_r3)) ++ wsX120)
def wsX12_make : List Cond := .code yX12_make cX12_make 5 (some .int) :: ([.fieldLink RX12 71 "NightBookModel" "held" "[I", .fieldLink RX12 77 "NightBookModel" "rowSize" "[I", .fieldLink RX12 80 "NightBookModel" "rows" "[I", .methodLink RX12 179 yX12_isShelf, .static yX12_isShelf, .initialized RX12, .code yX12_isShelf cX12_isShelf 1 (some .boolean), .methodLink RX12 87 yX12_in, .static yX12_in, .code yX12_in cX12_in 3 (some .boolean)] ++ wsX120)
def wsX12_element : List Cond := .code yX12_element cX12_element 3 (some .long) :: ([.fieldLink RX12 71 "NightBookModel" "held" "[I", .fieldLink RX12 77 "NightBookModel" "rowSize" "[I", .fieldLink RX12 83 "NightBookModel" "thrown" "I", .fieldLink RX12 80 "NightBookModel" "rows" "[I", .methodLink RX12 179 yX12_isShelf, .static yX12_isShelf, .initialized RX12, .code yX12_isShelf cX12_isShelf 1 (some .boolean), .methodLink RX12 87 yX12_in, .static yX12_in, .code yX12_in cX12_in 3 (some .boolean)] ++ wsX120)
def wsX12_copy : List Cond := .code yX12_copy cX12_copy 7 (some .int) :: ([.fieldLink RX12 71 "NightBookModel" "held" "[I", .fieldLink RX12 77 "NightBookModel" "rowSize" "[I", .fieldLink RX12 80 "NightBookModel" "rows" "[I", .methodLink RX12 179 yX12_isShelf, .static yX12_isShelf, .initialized RX12, .code yX12_isShelf cX12_isShelf 1 (some .boolean), .methodLink RX12 87 yX12_in, .static yX12_in, .code yX12_in cX12_in 3 (some .boolean)] ++ wsX120)
def wsX12_lawWeight : List Cond := .code yX12_lawWeight cX12_lawWeight 3 (some .int) :: ([.fieldLink RX12 50 "NightBookModel" "lawKind" "[I", .fieldLink RX12 56 "NightBookModel" "lawN" "[I", .fieldLink RX12 59 "NightBookModel" "lawW" "[I"] ++ wsX120)
def wsX12_markWeight : List Cond := .code yX12_markWeight cX12_markWeight 3 (some .int) :: ([.fieldLink RX12 29 "NightBookModel" "markTo" "[I", .fieldLink RX12 26 "NightBookModel" "markFrom" "[I", .fieldLink RX12 20 "NightBookModel" "markKind" "[I"] ++ wsX120)
def wsX12_noThing : List Cond := .code yX12_noThing cX12_noThing 2 (some .int) :: ([.fieldLink RX12 71 "NightBookModel" "held" "[I", .methodLink RX12 179 yX12_isShelf, .static yX12_isShelf, .initialized RX12, .code yX12_isShelf cX12_isShelf 1 (some .boolean), .methodLink RX12 87 yX12_in, .static yX12_in, .code yX12_in cX12_in 3 (some .boolean)] ++ wsX120)
def wsX12_weight_r1 : List Cond := [Cond.fieldLink RX12 71 "NightBookModel" "held" "[I", Cond.fieldLink RX12 74 "NightBookModel" "heldNumber" "[I", Cond.methodLink RX12 185 yX12_noThing, Cond.instanceMethod yX12_noThing, Cond.selects RX12 yX12_noThing yX12_noThing, Cond.initialized RX12, Cond.code yX12_noThing cX12_noThing 2 (some .int), Cond.methodLink RX12 179 yX12_isShelf, Cond.static yX12_isShelf, Cond.code yX12_isShelf cX12_isShelf 1 (some .boolean), Cond.methodLink RX12 87 yX12_in, Cond.static yX12_in, Cond.code yX12_in cX12_in 3 (some .boolean), Cond.methodLink RX12 189 yX12_lawWeight, Cond.instanceMethod yX12_lawWeight, Cond.selects RX12 yX12_lawWeight yX12_lawWeight, Cond.code yX12_lawWeight cX12_lawWeight 3 (some .int), Cond.fieldLink RX12 50 "NightBookModel" "lawKind" "[I", Cond.fieldLink RX12 56 "NightBookModel" "lawN" "[I", Cond.fieldLink RX12 59 "NightBookModel" "lawW" "[I", Cond.methodLink RX12 192 yX12_markWeight, Cond.instanceMethod yX12_markWeight, Cond.selects RX12 yX12_markWeight yX12_markWeight, Cond.code yX12_markWeight cX12_markWeight 3 (some .int)]
def wsX12_weight_r2 : List Cond := [Cond.fieldLink RX12 29 "NightBookModel" "markTo" "[I", Cond.fieldLink RX12 26 "NightBookModel" "markFrom" "[I", Cond.fieldLink RX12 20 "NightBookModel" "markKind" "[I"]
def wsX12_weight : List Cond := .code yX12_weight cX12_weight 3 (some .int) :: ((wsX12_weight_r1 ++ wsX12_weight_r2) ++ wsX120)
def wsX12_toss : List Cond := .code yX12_toss cX12_toss 4 (some .int) :: ([.fieldLink RX12 74 "NightBookModel" "heldNumber" "[I", .fieldLink RX12 71 "NightBookModel" "held" "[I", .fieldLink RX12 50 "NightBookModel" "lawKind" "[I", .fieldLink RX12 53 "NightBookModel" "lawLand" "[I", .fieldLink RX12 20 "NightBookModel" "markKind" "[I", .methodLink RX12 185 yX12_noThing, .instanceMethod yX12_noThing, .selects RX12 yX12_noThing yX12_noThing, .initialized RX12, .code yX12_noThing cX12_noThing 2 (some .int), .methodLink RX12 179 yX12_isShelf, .static yX12_isShelf, .code yX12_isShelf cX12_isShelf 1 (some .boolean), .methodLink RX12 87 yX12_in, .static yX12_in, .code yX12_in cX12_in 3 (some .boolean)] ++ wsX120)
def wsJ2_newBytesLength_0f7a4 : List Cond := .code yJ2_newBytesLength_0f7a4 cJ2_newBytesLength_0f7a4 1 (some .int) :: ([.constant RJ2 20 (1073741823)])
def wsJ2_newBytesFor_77867 : List Cond := .code yJ2_newBytesFor_77867 cJ2_newBytesFor_77867 1 (some (.array .byte)) :: ([.arrayClass .byte, .methodLink RJ2 11 yJ2_newBytesLength_0f7a4, .static yJ2_newBytesLength_0f7a4, .initialized RJ2, .code yJ2_newBytesLength_0f7a4 cJ2_newBytesLength_0f7a4 1 (some .int), .constant RJ2 20 (1073741823)])
def wsJ5_init_d00df : List Cond := .code yJ5_init_d00df cJ5_init_d00df 2 none :: ([.methodLink RJ5 3 objectInit, .instanceMethod objectInit, .code objectInit ⟨#[0xb1]⟩ 1 none, .fieldLink RJ5 18 "java/lang/String" "COMPACT_STRINGS" "Z", .arrayClass .byte, .fieldLink RJ5 15 "java/lang/AbstractStringBuilder" "value" "[B", .fieldLink RJ5 22 "java/lang/AbstractStringBuilder" "coder" "B", .methodLink RJ5 26 yJ2_newBytesFor_77867, .static yJ2_newBytesFor_77867, .initialized RJ2, .code yJ2_newBytesFor_77867 cJ2_newBytesFor_77867 1 (some (.array .byte)), .methodLink RJ2 11 yJ2_newBytesLength_0f7a4, .static yJ2_newBytesLength_0f7a4, .code yJ2_newBytesLength_0f7a4 cJ2_newBytesLength_0f7a4 1 (some .int), .constant RJ2 20 (1073741823)] ++ wsJ40)
def wsJ5_length_8abf5 : List Cond := .code yJ5_length_8abf5 cJ5_length_8abf5 1 (some .int) :: ([.fieldLink RJ5 79 "java/lang/AbstractStringBuilder" "count" "I"] ++ wsJ40)
def wsJ8_hugeLength_7cf53 : List Cond := .code yJ8_hugeLength_7cf53 cJ8_hugeLength_7cf53 3 (some .int) :: ([.constant RJ8 200 (2147483639)])
def wsJ8_newLength_cabcc : List Cond := .code yJ8_newLength_cabcc cJ8_newLength_cabcc 4 (some .int) :: ([.methodLink RJ8 194 Lib.Math.max.name, .static Lib.Math.max.name, .initialized "java/lang/Math", .code Lib.Math.max.name Lib.Math.max.code 2 (some .int), .constant RJ8 200 (2147483639), .methodLink RJ8 201 yJ8_hugeLength_7cf53, .static yJ8_hugeLength_7cf53, .initialized RJ8, .code yJ8_hugeLength_7cf53 cJ8_hugeLength_7cf53 3 (some .int)])
def wsJ5_newCapacity_0f7a4 : List Cond := .code yJ5_newCapacity_0f7a4 cJ5_newCapacity_0f7a4 6 (some .int) :: ([.fieldLink RJ5 15 "java/lang/AbstractStringBuilder" "value" "[B", .fieldLink RJ5 22 "java/lang/AbstractStringBuilder" "coder" "B", .constant RJ5 39 (2147483647), .methodLink RJ5 114 yJ8_newLength_cabcc, .static yJ8_newLength_cabcc, .initialized RJ8, .code yJ8_newLength_cabcc cJ8_newLength_cabcc 4 (some .int), .methodLink RJ8 194 Lib.Math.max.name, .static Lib.Math.max.name, .initialized "java/lang/Math", .code Lib.Math.max.name Lib.Math.max.code 2 (some .int), .constant RJ8 200 (2147483639), .methodLink RJ8 201 yJ8_hugeLength_7cf53, .static yJ8_hugeLength_7cf53, .code yJ8_hugeLength_7cf53 cJ8_hugeLength_7cf53 3 (some .int)] ++ wsJ40)
def wsJ7_copyOf_9075b : List Cond := .code yJ7_copyOf_9075b cJ7_copyOf_9075b 3 (some (.array .byte)) :: ([.methodLink RJ7 310 ⟨"[B", "clone", "()Ljava/lang/Object;"⟩, .sameMethod "[B" "java/lang/Object" "clone" "()Ljava/lang/Object;", .native ⟨"java/lang/Object", "clone", "()Ljava/lang/Object;"⟩, .instanceMethod ⟨"java/lang/Object", "clone", "()Ljava/lang/Object;"⟩, .selects "[B" ⟨"[B", "clone", "()Ljava/lang/Object;"⟩ ⟨"java/lang/Object", "clone", "()Ljava/lang/Object;"⟩, .classLink RJ7 311 "[B", .arrayClass .byte, .methodLink RJ7 304 Lib.Math.min.name, .static Lib.Math.min.name, .initialized "java/lang/Math", .code Lib.Math.min.name Lib.Math.min.code 2 (some .int), .methodLink RJ7 150 arraycopyName, .native arraycopyName, .static arraycopyName, .initialized "java/lang/System"])
def wsJ5_ensureCapacityInternal_d00df_r1 : List Cond := [Cond.fieldLink RJ5 15 "java/lang/AbstractStringBuilder" "value" "[B", Cond.fieldLink RJ5 22 "java/lang/AbstractStringBuilder" "coder" "B", Cond.methodLink RJ5 104 ⟨"java/lang/AbstractStringBuilder", "newCapacity", "(I)I"⟩, Cond.sameMethod "java/lang/AbstractStringBuilder" "java/lang/AbstractStringBuilder" "newCapacity" "(I)I", Cond.selects RJ4 ⟨"java/lang/AbstractStringBuilder", "newCapacity", "(I)I"⟩ yJ5_newCapacity_0f7a4, Cond.instanceMethod yJ5_newCapacity_0f7a4, Cond.initialized RJ5, Cond.code yJ5_newCapacity_0f7a4 cJ5_newCapacity_0f7a4 6 (some .int), Cond.constant RJ5 39 (2147483647), Cond.methodLink RJ5 114 yJ8_newLength_cabcc, Cond.static yJ8_newLength_cabcc, Cond.initialized RJ8, Cond.code yJ8_newLength_cabcc cJ8_newLength_cabcc 4 (some .int), Cond.methodLink RJ8 194 Lib.Math.max.name, Cond.static Lib.Math.max.name, Cond.initialized "java/lang/Math", Cond.code Lib.Math.max.name Lib.Math.max.code 2 (some .int), Cond.constant RJ8 200 (2147483639), Cond.methodLink RJ8 201 yJ8_hugeLength_7cf53, Cond.static yJ8_hugeLength_7cf53, Cond.code yJ8_hugeLength_7cf53 cJ8_hugeLength_7cf53 3 (some .int), Cond.methodLink RJ5 108 yJ7_copyOf_9075b, Cond.static yJ7_copyOf_9075b, Cond.initialized RJ7]
def wsJ5_ensureCapacityInternal_d00df_r2 : List Cond := [Cond.code yJ7_copyOf_9075b cJ7_copyOf_9075b 3 (some (.array .byte)), Cond.methodLink RJ7 310 ⟨"[B", "clone", "()Ljava/lang/Object;"⟩, Cond.sameMethod "[B" "java/lang/Object" "clone" "()Ljava/lang/Object;", Cond.native ⟨"java/lang/Object", "clone", "()Ljava/lang/Object;"⟩, Cond.instanceMethod ⟨"java/lang/Object", "clone", "()Ljava/lang/Object;"⟩, Cond.selects "[B" ⟨"[B", "clone", "()Ljava/lang/Object;"⟩ ⟨"java/lang/Object", "clone", "()Ljava/lang/Object;"⟩, Cond.classLink RJ7 311 "[B", Cond.arrayClass .byte, Cond.methodLink RJ7 304 Lib.Math.min.name, Cond.static Lib.Math.min.name, Cond.code Lib.Math.min.name Lib.Math.min.code 2 (some .int), Cond.methodLink RJ7 150 arraycopyName, Cond.native arraycopyName, Cond.static arraycopyName, Cond.initialized "java/lang/System"]
def wsJ5_ensureCapacityInternal_d00df : List Cond := .code yJ5_ensureCapacityInternal_d00df cJ5_ensureCapacityInternal_d00df 3 none :: ((wsJ5_ensureCapacityInternal_d00df_r1 ++ wsJ5_ensureCapacityInternal_d00df_r2) ++ wsJ40)
def wsJ5_isLatin1_aae02 : List Cond := .code yJ5_isLatin1_aae02 cJ5_isLatin1_aae02 1 (some .boolean) :: ([.fieldLink RJ5 18 "java/lang/String" "COMPACT_STRINGS" "Z", .fieldLink RJ5 22 "java/lang/AbstractStringBuilder" "coder" "B"] ++ wsJ40)
def wsJ2_length_9d52b : List Cond := .code yJ2_length_9d52b cJ2_length_9d52b 1 (some .int) :: ([])
def wsJ3_checkFromIndexSize_8c36e : List Cond := .code yJ3_checkFromIndexSize_8c36e cJ3_checkFromIndexSize_8c36e 4 (some .int) :: ([])
def wsJ0_checkBoundsOffCount_cabcc : List Cond := .code yJ0_checkBoundsOffCount_cabcc cJ0_checkBoundsOffCount_cabcc 3 (some .int) :: ([.fieldLink RJ0 1053 "jdk/internal/util/Preconditions" "SIOOBE_FORMATTER" "Ljava/util/function/BiFunction;", .methodLink RJ0 1065 yJ3_checkFromIndexSize_8c36e, .static yJ3_checkFromIndexSize_8c36e, .initialized RJ3, .code yJ3_checkFromIndexSize_8c36e cJ3_checkFromIndexSize_8c36e 4 (some .int)])
def wsJ2_checkBoundsOffCount_d044e : List Cond := .code yJ2_checkBoundsOffCount_d044e cJ2_checkBoundsOffCount_d044e 3 none :: ([.methodLink RJ2 48 yJ2_length_9d52b, .static yJ2_length_9d52b, .initialized RJ2, .code yJ2_length_9d52b cJ2_length_9d52b 1 (some .int), .methodLink RJ2 419 yJ0_checkBoundsOffCount_cabcc, .static yJ0_checkBoundsOffCount_cabcc, .initialized RJ0, .code yJ0_checkBoundsOffCount_cabcc cJ0_checkBoundsOffCount_cabcc 3 (some .int), .fieldLink RJ0 1053 "jdk/internal/util/Preconditions" "SIOOBE_FORMATTER" "Ljava/util/function/BiFunction;", .methodLink RJ0 1065 yJ3_checkFromIndexSize_8c36e, .static yJ3_checkFromIndexSize_8c36e, .initialized RJ3, .code yJ3_checkFromIndexSize_8c36e cJ3_checkFromIndexSize_8c36e 4 (some .int)])
def wsJ2_putChar_b72d1 : List Cond := .code yJ2_putChar_b72d1 cJ2_putChar_b72d1 3 none :: ([.fieldLink RJ2 44 "java/lang/StringUTF16" "$assertionsDisabled" "Z", .fieldLink RJ2 59 "java/lang/StringUTF16" "HI_BYTE_SHIFT" "I", .fieldLink RJ2 63 "java/lang/StringUTF16" "LO_BYTE_SHIFT" "I", .methodLink RJ2 48 yJ2_length_9d52b, .static yJ2_length_9d52b, .initialized RJ2, .code yJ2_length_9d52b cJ2_length_9d52b 1 (some .int)])
def wsJ2_inflate_0e8fd : List Cond := .code yJ2_inflate_0e8fd cJ2_inflate_0e8fd 6 none :: ([.methodLink RJ2 173 yJ2_checkBoundsOffCount_d044e, .static yJ2_checkBoundsOffCount_d044e, .initialized RJ2, .code yJ2_checkBoundsOffCount_d044e cJ2_checkBoundsOffCount_d044e 3 none, .methodLink RJ2 48 yJ2_length_9d52b, .static yJ2_length_9d52b, .code yJ2_length_9d52b cJ2_length_9d52b 1 (some .int), .methodLink RJ2 419 yJ0_checkBoundsOffCount_cabcc, .static yJ0_checkBoundsOffCount_cabcc, .initialized RJ0, .code yJ0_checkBoundsOffCount_cabcc cJ0_checkBoundsOffCount_cabcc 3 (some .int), .fieldLink RJ0 1053 "jdk/internal/util/Preconditions" "SIOOBE_FORMATTER" "Ljava/util/function/BiFunction;", .methodLink RJ0 1065 yJ3_checkFromIndexSize_8c36e, .static yJ3_checkFromIndexSize_8c36e, .initialized RJ3, .code yJ3_checkFromIndexSize_8c36e cJ3_checkFromIndexSize_8c36e 4 (some .int), .methodLink RJ2 111 yJ2_putChar_b72d1, .static yJ2_putChar_b72d1, .code yJ2_putChar_b72d1 cJ2_putChar_b72d1 3 none, .fieldLink RJ2 44 "java/lang/StringUTF16" "$assertionsDisabled" "Z", .fieldLink RJ2 59 "java/lang/StringUTF16" "HI_BYTE_SHIFT" "I", .fieldLink RJ2 63 "java/lang/StringUTF16" "LO_BYTE_SHIFT" "I"])
def wsJ1_inflate_0e8fd_r1 : List Cond := [Cond.methodLink RJ1 240 yJ2_inflate_0e8fd, Cond.static yJ2_inflate_0e8fd, Cond.initialized RJ2, Cond.code yJ2_inflate_0e8fd cJ2_inflate_0e8fd 6 none, Cond.methodLink RJ2 173 yJ2_checkBoundsOffCount_d044e, Cond.static yJ2_checkBoundsOffCount_d044e, Cond.code yJ2_checkBoundsOffCount_d044e cJ2_checkBoundsOffCount_d044e 3 none, Cond.methodLink RJ2 48 yJ2_length_9d52b, Cond.static yJ2_length_9d52b, Cond.code yJ2_length_9d52b cJ2_length_9d52b 1 (some .int), Cond.methodLink RJ2 419 yJ0_checkBoundsOffCount_cabcc, Cond.static yJ0_checkBoundsOffCount_cabcc, Cond.initialized RJ0, Cond.code yJ0_checkBoundsOffCount_cabcc cJ0_checkBoundsOffCount_cabcc 3 (some .int), Cond.fieldLink RJ0 1053 "jdk/internal/util/Preconditions" "SIOOBE_FORMATTER" "Ljava/util/function/BiFunction;", Cond.methodLink RJ0 1065 yJ3_checkFromIndexSize_8c36e, Cond.static yJ3_checkFromIndexSize_8c36e, Cond.initialized RJ3, Cond.code yJ3_checkFromIndexSize_8c36e cJ3_checkFromIndexSize_8c36e 4 (some .int), Cond.methodLink RJ2 111 yJ2_putChar_b72d1, Cond.static yJ2_putChar_b72d1, Cond.code yJ2_putChar_b72d1 cJ2_putChar_b72d1 3 none, Cond.fieldLink RJ2 44 "java/lang/StringUTF16" "$assertionsDisabled" "Z", Cond.fieldLink RJ2 59 "java/lang/StringUTF16" "HI_BYTE_SHIFT" "I"]
def wsJ1_inflate_0e8fd_r2 : List Cond := [Cond.fieldLink RJ2 63 "java/lang/StringUTF16" "LO_BYTE_SHIFT" "I"]
def wsJ1_inflate_0e8fd : List Cond := .code yJ1_inflate_0e8fd cJ1_inflate_0e8fd 5 none :: ((wsJ1_inflate_0e8fd_r1 ++ wsJ1_inflate_0e8fd_r2))
def wsJ5_inflate_da8c8_r1 : List Cond := [Cond.fieldLink RJ5 15 "java/lang/AbstractStringBuilder" "value" "[B", Cond.fieldLink RJ5 79 "java/lang/AbstractStringBuilder" "count" "I", Cond.fieldLink RJ5 22 "java/lang/AbstractStringBuilder" "coder" "B", Cond.methodLink RJ5 83 ⟨"java/lang/AbstractStringBuilder", "isLatin1", "()Z"⟩, Cond.sameMethod "java/lang/AbstractStringBuilder" "java/lang/AbstractStringBuilder" "isLatin1" "()Z", Cond.selects RJ4 ⟨"java/lang/AbstractStringBuilder", "isLatin1", "()Z"⟩ yJ5_isLatin1_aae02, Cond.instanceMethod yJ5_isLatin1_aae02, Cond.initialized RJ5, Cond.code yJ5_isLatin1_aae02 cJ5_isLatin1_aae02 1 (some .boolean), Cond.fieldLink RJ5 18 "java/lang/String" "COMPACT_STRINGS" "Z", Cond.methodLink RJ5 26 yJ2_newBytesFor_77867, Cond.static yJ2_newBytesFor_77867, Cond.initialized RJ2, Cond.code yJ2_newBytesFor_77867 cJ2_newBytesFor_77867 1 (some (.array .byte)), Cond.arrayClass .byte, Cond.methodLink RJ2 11 yJ2_newBytesLength_0f7a4, Cond.static yJ2_newBytesLength_0f7a4, Cond.code yJ2_newBytesLength_0f7a4 cJ2_newBytesLength_0f7a4 1 (some .int), Cond.constant RJ2 20 (1073741823), Cond.methodLink RJ5 125 yJ1_inflate_0e8fd, Cond.static yJ1_inflate_0e8fd, Cond.initialized RJ1, Cond.code yJ1_inflate_0e8fd cJ1_inflate_0e8fd 5 none, Cond.methodLink RJ1 240 yJ2_inflate_0e8fd]
def wsJ5_inflate_da8c8_r2 : List Cond := [Cond.static yJ2_inflate_0e8fd, Cond.code yJ2_inflate_0e8fd cJ2_inflate_0e8fd 6 none, Cond.methodLink RJ2 173 yJ2_checkBoundsOffCount_d044e, Cond.static yJ2_checkBoundsOffCount_d044e, Cond.code yJ2_checkBoundsOffCount_d044e cJ2_checkBoundsOffCount_d044e 3 none, Cond.methodLink RJ2 48 yJ2_length_9d52b, Cond.static yJ2_length_9d52b, Cond.code yJ2_length_9d52b cJ2_length_9d52b 1 (some .int), Cond.methodLink RJ2 419 yJ0_checkBoundsOffCount_cabcc, Cond.static yJ0_checkBoundsOffCount_cabcc, Cond.initialized RJ0, Cond.code yJ0_checkBoundsOffCount_cabcc cJ0_checkBoundsOffCount_cabcc 3 (some .int), Cond.fieldLink RJ0 1053 "jdk/internal/util/Preconditions" "SIOOBE_FORMATTER" "Ljava/util/function/BiFunction;", Cond.methodLink RJ0 1065 yJ3_checkFromIndexSize_8c36e, Cond.static yJ3_checkFromIndexSize_8c36e, Cond.initialized RJ3, Cond.code yJ3_checkFromIndexSize_8c36e cJ3_checkFromIndexSize_8c36e 4 (some .int), Cond.methodLink RJ2 111 yJ2_putChar_b72d1, Cond.static yJ2_putChar_b72d1, Cond.code yJ2_putChar_b72d1 cJ2_putChar_b72d1 3 none, Cond.fieldLink RJ2 44 "java/lang/StringUTF16" "$assertionsDisabled" "Z", Cond.fieldLink RJ2 59 "java/lang/StringUTF16" "HI_BYTE_SHIFT" "I", Cond.fieldLink RJ2 63 "java/lang/StringUTF16" "LO_BYTE_SHIFT" "I"]
def wsJ5_inflate_da8c8 : List Cond := .code yJ5_inflate_da8c8 cJ5_inflate_da8c8 2 none :: ((wsJ5_inflate_da8c8_r1 ++ wsJ5_inflate_da8c8_r2) ++ wsJ40)
def wsJ3_checkFromToIndex_8c36e : List Cond := .code yJ3_checkFromToIndex_8c36e cJ3_checkFromToIndex_8c36e 4 (some .int) :: ([])
def wsJ0_checkBoundsBeginEnd_23922 : List Cond := .code yJ0_checkBoundsBeginEnd_23922 cJ0_checkBoundsBeginEnd_23922 3 none :: ([.fieldLink RJ0 1053 "jdk/internal/util/Preconditions" "SIOOBE_FORMATTER" "Ljava/util/function/BiFunction;", .methodLink RJ0 1062 yJ3_checkFromToIndex_8c36e, .static yJ3_checkFromToIndex_8c36e, .initialized RJ3, .code yJ3_checkFromToIndex_8c36e cJ3_checkFromToIndex_8c36e 4 (some .int)])
def wsJ2_checkBoundsBeginEnd_d044e : List Cond := .code yJ2_checkBoundsBeginEnd_d044e cJ2_checkBoundsBeginEnd_d044e 3 none :: ([.methodLink RJ2 48 yJ2_length_9d52b, .static yJ2_length_9d52b, .initialized RJ2, .code yJ2_length_9d52b cJ2_length_9d52b 1 (some .int), .methodLink RJ2 241 yJ0_checkBoundsBeginEnd_23922, .static yJ0_checkBoundsBeginEnd_23922, .initialized RJ0, .code yJ0_checkBoundsBeginEnd_23922 cJ0_checkBoundsBeginEnd_23922 3 none, .fieldLink RJ0 1053 "jdk/internal/util/Preconditions" "SIOOBE_FORMATTER" "Ljava/util/function/BiFunction;", .methodLink RJ0 1062 yJ3_checkFromToIndex_8c36e, .static yJ3_checkFromToIndex_8c36e, .initialized RJ3, .code yJ3_checkFromToIndex_8c36e cJ3_checkFromToIndex_8c36e 4 (some .int)])
def wsJ2_putCharsAt_cd4e5 : List Cond := .code yJ2_putCharsAt_cd4e5 cJ2_putCharsAt_cd4e5 7 (some .int) :: ([.fieldLink RJ2 44 "java/lang/StringUTF16" "$assertionsDisabled" "Z", .methodLink RJ2 96 yJ2_checkBoundsBeginEnd_d044e, .static yJ2_checkBoundsBeginEnd_d044e, .initialized RJ2, .code yJ2_checkBoundsBeginEnd_d044e cJ2_checkBoundsBeginEnd_d044e 3 none, .methodLink RJ2 48 yJ2_length_9d52b, .static yJ2_length_9d52b, .code yJ2_length_9d52b cJ2_length_9d52b 1 (some .int), .methodLink RJ2 241 yJ0_checkBoundsBeginEnd_23922, .static yJ0_checkBoundsBeginEnd_23922, .initialized RJ0, .code yJ0_checkBoundsBeginEnd_23922 cJ0_checkBoundsBeginEnd_23922 3 none, .fieldLink RJ0 1053 "jdk/internal/util/Preconditions" "SIOOBE_FORMATTER" "Ljava/util/function/BiFunction;", .methodLink RJ0 1062 yJ3_checkFromToIndex_8c36e, .static yJ3_checkFromToIndex_8c36e, .initialized RJ3, .code yJ3_checkFromToIndex_8c36e cJ3_checkFromToIndex_8c36e 4 (some .int), .methodLink RJ2 111 yJ2_putChar_b72d1, .static yJ2_putChar_b72d1, .code yJ2_putChar_b72d1 cJ2_putChar_b72d1 3 none, .fieldLink RJ2 59 "java/lang/StringUTF16" "HI_BYTE_SHIFT" "I", .fieldLink RJ2 63 "java/lang/StringUTF16" "LO_BYTE_SHIFT" "I"])
def wsJ5_appendNull_278bc_r1 : List Cond := [Cond.fieldLink RJ5 79 "java/lang/AbstractStringBuilder" "count" "I", Cond.fieldLink RJ5 15 "java/lang/AbstractStringBuilder" "value" "[B", Cond.methodLink RJ5 100 ⟨"java/lang/AbstractStringBuilder", "ensureCapacityInternal", "(I)V"⟩, Cond.sameMethod "java/lang/AbstractStringBuilder" "java/lang/AbstractStringBuilder" "ensureCapacityInternal" "(I)V", Cond.selects RJ4 ⟨"java/lang/AbstractStringBuilder", "ensureCapacityInternal", "(I)V"⟩ yJ5_ensureCapacityInternal_d00df, Cond.instanceMethod yJ5_ensureCapacityInternal_d00df, Cond.initialized RJ5, Cond.code yJ5_ensureCapacityInternal_d00df cJ5_ensureCapacityInternal_d00df 3 none, Cond.fieldLink RJ5 22 "java/lang/AbstractStringBuilder" "coder" "B", Cond.methodLink RJ5 104 ⟨"java/lang/AbstractStringBuilder", "newCapacity", "(I)I"⟩, Cond.sameMethod "java/lang/AbstractStringBuilder" "java/lang/AbstractStringBuilder" "newCapacity" "(I)I", Cond.selects RJ4 ⟨"java/lang/AbstractStringBuilder", "newCapacity", "(I)I"⟩ yJ5_newCapacity_0f7a4, Cond.instanceMethod yJ5_newCapacity_0f7a4, Cond.code yJ5_newCapacity_0f7a4 cJ5_newCapacity_0f7a4 6 (some .int), Cond.constant RJ5 39 (2147483647), Cond.methodLink RJ5 114 yJ8_newLength_cabcc, Cond.static yJ8_newLength_cabcc, Cond.initialized RJ8, Cond.code yJ8_newLength_cabcc cJ8_newLength_cabcc 4 (some .int), Cond.methodLink RJ8 194 Lib.Math.max.name, Cond.static Lib.Math.max.name, Cond.initialized "java/lang/Math", Cond.code Lib.Math.max.name Lib.Math.max.code 2 (some .int), Cond.constant RJ8 200 (2147483639)]
def wsJ5_appendNull_278bc_r2 : List Cond := [Cond.methodLink RJ8 201 yJ8_hugeLength_7cf53, Cond.static yJ8_hugeLength_7cf53, Cond.code yJ8_hugeLength_7cf53 cJ8_hugeLength_7cf53 3 (some .int), Cond.methodLink RJ5 108 yJ7_copyOf_9075b, Cond.static yJ7_copyOf_9075b, Cond.initialized RJ7, Cond.code yJ7_copyOf_9075b cJ7_copyOf_9075b 3 (some (.array .byte)), Cond.methodLink RJ7 310 ⟨"[B", "clone", "()Ljava/lang/Object;"⟩, Cond.sameMethod "[B" "java/lang/Object" "clone" "()Ljava/lang/Object;", Cond.native ⟨"java/lang/Object", "clone", "()Ljava/lang/Object;"⟩, Cond.instanceMethod ⟨"java/lang/Object", "clone", "()Ljava/lang/Object;"⟩, Cond.selects "[B" ⟨"[B", "clone", "()Ljava/lang/Object;"⟩ ⟨"java/lang/Object", "clone", "()Ljava/lang/Object;"⟩, Cond.classLink RJ7 311 "[B", Cond.arrayClass .byte, Cond.methodLink RJ7 304 Lib.Math.min.name, Cond.static Lib.Math.min.name, Cond.code Lib.Math.min.name Lib.Math.min.code 2 (some .int), Cond.methodLink RJ7 150 arraycopyName, Cond.native arraycopyName, Cond.static arraycopyName, Cond.initialized "java/lang/System", Cond.methodLink RJ5 83 ⟨"java/lang/AbstractStringBuilder", "isLatin1", "()Z"⟩, Cond.sameMethod "java/lang/AbstractStringBuilder" "java/lang/AbstractStringBuilder" "isLatin1" "()Z", Cond.selects RJ4 ⟨"java/lang/AbstractStringBuilder", "isLatin1", "()Z"⟩ yJ5_isLatin1_aae02]
def wsJ5_appendNull_278bc_r3 : List Cond := [Cond.instanceMethod yJ5_isLatin1_aae02, Cond.code yJ5_isLatin1_aae02 cJ5_isLatin1_aae02 1 (some .boolean), Cond.fieldLink RJ5 18 "java/lang/String" "COMPACT_STRINGS" "Z", Cond.methodLink RJ5 226 yJ2_putCharsAt_cd4e5, Cond.static yJ2_putCharsAt_cd4e5, Cond.initialized RJ2, Cond.code yJ2_putCharsAt_cd4e5 cJ2_putCharsAt_cd4e5 7 (some .int), Cond.fieldLink RJ2 44 "java/lang/StringUTF16" "$assertionsDisabled" "Z", Cond.methodLink RJ2 96 yJ2_checkBoundsBeginEnd_d044e, Cond.static yJ2_checkBoundsBeginEnd_d044e, Cond.code yJ2_checkBoundsBeginEnd_d044e cJ2_checkBoundsBeginEnd_d044e 3 none, Cond.methodLink RJ2 48 yJ2_length_9d52b, Cond.static yJ2_length_9d52b, Cond.code yJ2_length_9d52b cJ2_length_9d52b 1 (some .int), Cond.methodLink RJ2 241 yJ0_checkBoundsBeginEnd_23922, Cond.static yJ0_checkBoundsBeginEnd_23922, Cond.initialized RJ0, Cond.code yJ0_checkBoundsBeginEnd_23922 cJ0_checkBoundsBeginEnd_23922 3 none, Cond.fieldLink RJ0 1053 "jdk/internal/util/Preconditions" "SIOOBE_FORMATTER" "Ljava/util/function/BiFunction;", Cond.methodLink RJ0 1062 yJ3_checkFromToIndex_8c36e, Cond.static yJ3_checkFromToIndex_8c36e, Cond.initialized RJ3, Cond.code yJ3_checkFromToIndex_8c36e cJ3_checkFromToIndex_8c36e 4 (some .int), Cond.methodLink RJ2 111 yJ2_putChar_b72d1]
def wsJ5_appendNull_278bc_r4 : List Cond := [Cond.static yJ2_putChar_b72d1, Cond.code yJ2_putChar_b72d1 cJ2_putChar_b72d1 3 none, Cond.fieldLink RJ2 59 "java/lang/StringUTF16" "HI_BYTE_SHIFT" "I", Cond.fieldLink RJ2 63 "java/lang/StringUTF16" "LO_BYTE_SHIFT" "I"]
def wsJ5_appendNull_278bc : List Cond := .code yJ5_appendNull_278bc cJ5_appendNull_278bc 3 (some (.object "java/lang/AbstractStringBuilder")) :: ((wsJ5_appendNull_278bc_r1 ++ (wsJ5_appendNull_278bc_r2 ++ (wsJ5_appendNull_278bc_r3 ++ wsJ5_appendNull_278bc_r4))) ++ wsJ40)
def wsJ0_coder_7d493 : List Cond := .code yJ0_coder_7d493 cJ0_coder_7d493 1 (some .byte) :: ([.fieldLink RJ0 38 "java/lang/String" "COMPACT_STRINGS" "Z", .fieldLink RJ0 15 "java/lang/String" "coder" "B"] ++ wsJ00)
def wsJ0_length_8abf5 : List Cond := .code yJ0_length_8abf5 cJ0_length_8abf5 1 (some .int) :: ([.fieldLink RJ0 9 "java/lang/String" "value" "[B", .methodLink RJ0 335 yJ0_coder_7d493, .instanceMethod yJ0_coder_7d493, .selects RJ0 yJ0_coder_7d493 yJ0_coder_7d493, .initialized RJ0, .code yJ0_coder_7d493 cJ0_coder_7d493 1 (some .byte), .fieldLink RJ0 38 "java/lang/String" "COMPACT_STRINGS" "Z", .fieldLink RJ0 15 "java/lang/String" "coder" "B"] ++ wsJ00)
def wsJ5_inflateIfNeededFor_a7421_r1 : List Cond := [Cond.fieldLink RJ5 18 "java/lang/String" "COMPACT_STRINGS" "Z", Cond.fieldLink RJ5 22 "java/lang/AbstractStringBuilder" "coder" "B", Cond.methodLink RJ5 40 yJ0_coder_7d493, Cond.instanceMethod yJ0_coder_7d493, Cond.selects RJ0 yJ0_coder_7d493 yJ0_coder_7d493, Cond.initialized RJ0, Cond.code yJ0_coder_7d493 cJ0_coder_7d493 1 (some .byte), Cond.fieldLink RJ0 38 "java/lang/String" "COMPACT_STRINGS" "Z", Cond.fieldLink RJ0 15 "java/lang/String" "coder" "B", Cond.methodLink RJ5 195 ⟨"java/lang/AbstractStringBuilder", "inflate", "()V"⟩, Cond.sameMethod "java/lang/AbstractStringBuilder" "java/lang/AbstractStringBuilder" "inflate" "()V", Cond.selects RJ4 ⟨"java/lang/AbstractStringBuilder", "inflate", "()V"⟩ yJ5_inflate_da8c8, Cond.instanceMethod yJ5_inflate_da8c8, Cond.initialized RJ5, Cond.code yJ5_inflate_da8c8 cJ5_inflate_da8c8 2 none, Cond.fieldLink RJ5 15 "java/lang/AbstractStringBuilder" "value" "[B", Cond.fieldLink RJ5 79 "java/lang/AbstractStringBuilder" "count" "I", Cond.methodLink RJ5 83 ⟨"java/lang/AbstractStringBuilder", "isLatin1", "()Z"⟩, Cond.sameMethod "java/lang/AbstractStringBuilder" "java/lang/AbstractStringBuilder" "isLatin1" "()Z", Cond.selects RJ4 ⟨"java/lang/AbstractStringBuilder", "isLatin1", "()Z"⟩ yJ5_isLatin1_aae02, Cond.instanceMethod yJ5_isLatin1_aae02, Cond.code yJ5_isLatin1_aae02 cJ5_isLatin1_aae02 1 (some .boolean), Cond.methodLink RJ5 26 yJ2_newBytesFor_77867, Cond.static yJ2_newBytesFor_77867]
def wsJ5_inflateIfNeededFor_a7421_r2 : List Cond := [Cond.initialized RJ2, Cond.code yJ2_newBytesFor_77867 cJ2_newBytesFor_77867 1 (some (.array .byte)), Cond.arrayClass .byte, Cond.methodLink RJ2 11 yJ2_newBytesLength_0f7a4, Cond.static yJ2_newBytesLength_0f7a4, Cond.code yJ2_newBytesLength_0f7a4 cJ2_newBytesLength_0f7a4 1 (some .int), Cond.constant RJ2 20 (1073741823), Cond.methodLink RJ5 125 yJ1_inflate_0e8fd, Cond.static yJ1_inflate_0e8fd, Cond.initialized RJ1, Cond.code yJ1_inflate_0e8fd cJ1_inflate_0e8fd 5 none, Cond.methodLink RJ1 240 yJ2_inflate_0e8fd, Cond.static yJ2_inflate_0e8fd, Cond.code yJ2_inflate_0e8fd cJ2_inflate_0e8fd 6 none, Cond.methodLink RJ2 173 yJ2_checkBoundsOffCount_d044e, Cond.static yJ2_checkBoundsOffCount_d044e, Cond.code yJ2_checkBoundsOffCount_d044e cJ2_checkBoundsOffCount_d044e 3 none, Cond.methodLink RJ2 48 yJ2_length_9d52b, Cond.static yJ2_length_9d52b, Cond.code yJ2_length_9d52b cJ2_length_9d52b 1 (some .int), Cond.methodLink RJ2 419 yJ0_checkBoundsOffCount_cabcc, Cond.static yJ0_checkBoundsOffCount_cabcc, Cond.code yJ0_checkBoundsOffCount_cabcc cJ0_checkBoundsOffCount_cabcc 3 (some .int), Cond.fieldLink RJ0 1053 "jdk/internal/util/Preconditions" "SIOOBE_FORMATTER" "Ljava/util/function/BiFunction;"]
def wsJ5_inflateIfNeededFor_a7421_r3 : List Cond := [Cond.methodLink RJ0 1065 yJ3_checkFromIndexSize_8c36e, Cond.static yJ3_checkFromIndexSize_8c36e, Cond.initialized RJ3, Cond.code yJ3_checkFromIndexSize_8c36e cJ3_checkFromIndexSize_8c36e 4 (some .int), Cond.methodLink RJ2 111 yJ2_putChar_b72d1, Cond.static yJ2_putChar_b72d1, Cond.code yJ2_putChar_b72d1 cJ2_putChar_b72d1 3 none, Cond.fieldLink RJ2 44 "java/lang/StringUTF16" "$assertionsDisabled" "Z", Cond.fieldLink RJ2 59 "java/lang/StringUTF16" "HI_BYTE_SHIFT" "I", Cond.fieldLink RJ2 63 "java/lang/StringUTF16" "LO_BYTE_SHIFT" "I"]
def wsJ5_inflateIfNeededFor_a7421 : List Cond := .code yJ5_inflateIfNeededFor_a7421 cJ5_inflateIfNeededFor_a7421 2 none :: ((wsJ5_inflateIfNeededFor_a7421_r1 ++ (wsJ5_inflateIfNeededFor_a7421_r2 ++ wsJ5_inflateIfNeededFor_a7421_r3)) ++ wsJ40 ++ wsJ00)
def wsJ0_getBytes_840e7_r1 : List Cond := [Cond.fieldLink RJ0 9 "java/lang/String" "value" "[B", Cond.methodLink RJ0 212 arraycopyName, Cond.native arraycopyName, Cond.static arraycopyName, Cond.initialized "java/lang/System", Cond.methodLink RJ0 335 yJ0_coder_7d493, Cond.instanceMethod yJ0_coder_7d493, Cond.selects RJ0 yJ0_coder_7d493 yJ0_coder_7d493, Cond.initialized RJ0, Cond.code yJ0_coder_7d493 cJ0_coder_7d493 1 (some .byte), Cond.fieldLink RJ0 38 "java/lang/String" "COMPACT_STRINGS" "Z", Cond.fieldLink RJ0 15 "java/lang/String" "coder" "B", Cond.methodLink RJ0 106 yJ1_inflate_0e8fd, Cond.static yJ1_inflate_0e8fd, Cond.initialized RJ1, Cond.code yJ1_inflate_0e8fd cJ1_inflate_0e8fd 5 none, Cond.methodLink RJ1 240 yJ2_inflate_0e8fd, Cond.static yJ2_inflate_0e8fd, Cond.initialized RJ2, Cond.code yJ2_inflate_0e8fd cJ2_inflate_0e8fd 6 none, Cond.methodLink RJ2 173 yJ2_checkBoundsOffCount_d044e, Cond.static yJ2_checkBoundsOffCount_d044e, Cond.code yJ2_checkBoundsOffCount_d044e cJ2_checkBoundsOffCount_d044e 3 none, Cond.methodLink RJ2 48 yJ2_length_9d52b]
def wsJ0_getBytes_840e7_r2 : List Cond := [Cond.static yJ2_length_9d52b, Cond.code yJ2_length_9d52b cJ2_length_9d52b 1 (some .int), Cond.methodLink RJ2 419 yJ0_checkBoundsOffCount_cabcc, Cond.static yJ0_checkBoundsOffCount_cabcc, Cond.code yJ0_checkBoundsOffCount_cabcc cJ0_checkBoundsOffCount_cabcc 3 (some .int), Cond.fieldLink RJ0 1053 "jdk/internal/util/Preconditions" "SIOOBE_FORMATTER" "Ljava/util/function/BiFunction;", Cond.methodLink RJ0 1065 yJ3_checkFromIndexSize_8c36e, Cond.static yJ3_checkFromIndexSize_8c36e, Cond.initialized RJ3, Cond.code yJ3_checkFromIndexSize_8c36e cJ3_checkFromIndexSize_8c36e 4 (some .int), Cond.methodLink RJ2 111 yJ2_putChar_b72d1, Cond.static yJ2_putChar_b72d1, Cond.code yJ2_putChar_b72d1 cJ2_putChar_b72d1 3 none, Cond.fieldLink RJ2 44 "java/lang/StringUTF16" "$assertionsDisabled" "Z", Cond.fieldLink RJ2 59 "java/lang/StringUTF16" "HI_BYTE_SHIFT" "I", Cond.fieldLink RJ2 63 "java/lang/StringUTF16" "LO_BYTE_SHIFT" "I"]
def wsJ0_getBytes_840e7 : List Cond := .code yJ0_getBytes_840e7 cJ0_getBytes_840e7 4 none :: ((wsJ0_getBytes_840e7_r1 ++ wsJ0_getBytes_840e7_r2) ++ wsJ00)
def wsJ5_putStringAt_47b60_r1 : List Cond := [Cond.fieldLink RJ5 15 "java/lang/AbstractStringBuilder" "value" "[B", Cond.fieldLink RJ5 22 "java/lang/AbstractStringBuilder" "coder" "B", Cond.methodLink RJ5 397 ⟨"java/lang/AbstractStringBuilder", "inflateIfNeededFor", "(Ljava/lang/String;)V"⟩, Cond.sameMethod "java/lang/AbstractStringBuilder" "java/lang/AbstractStringBuilder" "inflateIfNeededFor" "(Ljava/lang/String;)V", Cond.selects RJ4 ⟨"java/lang/AbstractStringBuilder", "inflateIfNeededFor", "(Ljava/lang/String;)V"⟩ yJ5_inflateIfNeededFor_a7421, Cond.instanceMethod yJ5_inflateIfNeededFor_a7421, Cond.initialized RJ5, Cond.code yJ5_inflateIfNeededFor_a7421 cJ5_inflateIfNeededFor_a7421 2 none, Cond.fieldLink RJ5 18 "java/lang/String" "COMPACT_STRINGS" "Z", Cond.methodLink RJ5 40 yJ0_coder_7d493, Cond.instanceMethod yJ0_coder_7d493, Cond.selects RJ0 yJ0_coder_7d493 yJ0_coder_7d493, Cond.initialized RJ0, Cond.code yJ0_coder_7d493 cJ0_coder_7d493 1 (some .byte), Cond.fieldLink RJ0 38 "java/lang/String" "COMPACT_STRINGS" "Z", Cond.fieldLink RJ0 15 "java/lang/String" "coder" "B", Cond.methodLink RJ5 195 ⟨"java/lang/AbstractStringBuilder", "inflate", "()V"⟩, Cond.sameMethod "java/lang/AbstractStringBuilder" "java/lang/AbstractStringBuilder" "inflate" "()V", Cond.selects RJ4 ⟨"java/lang/AbstractStringBuilder", "inflate", "()V"⟩ yJ5_inflate_da8c8, Cond.instanceMethod yJ5_inflate_da8c8, Cond.code yJ5_inflate_da8c8 cJ5_inflate_da8c8 2 none, Cond.fieldLink RJ5 79 "java/lang/AbstractStringBuilder" "count" "I", Cond.methodLink RJ5 83 ⟨"java/lang/AbstractStringBuilder", "isLatin1", "()Z"⟩, Cond.sameMethod "java/lang/AbstractStringBuilder" "java/lang/AbstractStringBuilder" "isLatin1" "()Z"]
def wsJ5_putStringAt_47b60_r2 : List Cond := [Cond.selects RJ4 ⟨"java/lang/AbstractStringBuilder", "isLatin1", "()Z"⟩ yJ5_isLatin1_aae02, Cond.instanceMethod yJ5_isLatin1_aae02, Cond.code yJ5_isLatin1_aae02 cJ5_isLatin1_aae02 1 (some .boolean), Cond.methodLink RJ5 26 yJ2_newBytesFor_77867, Cond.static yJ2_newBytesFor_77867, Cond.initialized RJ2, Cond.code yJ2_newBytesFor_77867 cJ2_newBytesFor_77867 1 (some (.array .byte)), Cond.arrayClass .byte, Cond.methodLink RJ2 11 yJ2_newBytesLength_0f7a4, Cond.static yJ2_newBytesLength_0f7a4, Cond.code yJ2_newBytesLength_0f7a4 cJ2_newBytesLength_0f7a4 1 (some .int), Cond.constant RJ2 20 (1073741823), Cond.methodLink RJ5 125 yJ1_inflate_0e8fd, Cond.static yJ1_inflate_0e8fd, Cond.initialized RJ1, Cond.code yJ1_inflate_0e8fd cJ1_inflate_0e8fd 5 none, Cond.methodLink RJ1 240 yJ2_inflate_0e8fd, Cond.static yJ2_inflate_0e8fd, Cond.code yJ2_inflate_0e8fd cJ2_inflate_0e8fd 6 none, Cond.methodLink RJ2 173 yJ2_checkBoundsOffCount_d044e, Cond.static yJ2_checkBoundsOffCount_d044e, Cond.code yJ2_checkBoundsOffCount_d044e cJ2_checkBoundsOffCount_d044e 3 none, Cond.methodLink RJ2 48 yJ2_length_9d52b, Cond.static yJ2_length_9d52b]
def wsJ5_putStringAt_47b60_r3 : List Cond := [Cond.code yJ2_length_9d52b cJ2_length_9d52b 1 (some .int), Cond.methodLink RJ2 419 yJ0_checkBoundsOffCount_cabcc, Cond.static yJ0_checkBoundsOffCount_cabcc, Cond.code yJ0_checkBoundsOffCount_cabcc cJ0_checkBoundsOffCount_cabcc 3 (some .int), Cond.fieldLink RJ0 1053 "jdk/internal/util/Preconditions" "SIOOBE_FORMATTER" "Ljava/util/function/BiFunction;", Cond.methodLink RJ0 1065 yJ3_checkFromIndexSize_8c36e, Cond.static yJ3_checkFromIndexSize_8c36e, Cond.initialized RJ3, Cond.code yJ3_checkFromIndexSize_8c36e cJ3_checkFromIndexSize_8c36e 4 (some .int), Cond.methodLink RJ2 111 yJ2_putChar_b72d1, Cond.static yJ2_putChar_b72d1, Cond.code yJ2_putChar_b72d1 cJ2_putChar_b72d1 3 none, Cond.fieldLink RJ2 44 "java/lang/StringUTF16" "$assertionsDisabled" "Z", Cond.fieldLink RJ2 59 "java/lang/StringUTF16" "HI_BYTE_SHIFT" "I", Cond.fieldLink RJ2 63 "java/lang/StringUTF16" "LO_BYTE_SHIFT" "I", Cond.methodLink RJ5 399 yJ0_getBytes_840e7, Cond.instanceMethod yJ0_getBytes_840e7, Cond.selects RJ0 yJ0_getBytes_840e7 yJ0_getBytes_840e7, Cond.code yJ0_getBytes_840e7 cJ0_getBytes_840e7 4 none, Cond.fieldLink RJ0 9 "java/lang/String" "value" "[B", Cond.methodLink RJ0 212 arraycopyName, Cond.native arraycopyName, Cond.static arraycopyName, Cond.initialized "java/lang/System"]
def wsJ5_putStringAt_47b60_r4 : List Cond := [Cond.methodLink RJ0 335 yJ0_coder_7d493, Cond.methodLink RJ0 106 yJ1_inflate_0e8fd]
def wsJ5_putStringAt_47b60 : List Cond := .code yJ5_putStringAt_47b60 cJ5_putStringAt_47b60 3 none :: ((wsJ5_putStringAt_47b60_r1 ++ (wsJ5_putStringAt_47b60_r2 ++ (wsJ5_putStringAt_47b60_r3 ++ wsJ5_putStringAt_47b60_r4))) ++ wsJ40 ++ wsJ00)
def wsJ5_append_cf1ce_r1 : List Cond := [Cond.fieldLink RJ5 79 "java/lang/AbstractStringBuilder" "count" "I", Cond.methodLink RJ5 204 ⟨"java/lang/AbstractStringBuilder", "appendNull", "()Ljava/lang/AbstractStringBuilder;"⟩, Cond.sameMethod "java/lang/AbstractStringBuilder" "java/lang/AbstractStringBuilder" "appendNull" "()Ljava/lang/AbstractStringBuilder;", Cond.selects RJ4 ⟨"java/lang/AbstractStringBuilder", "appendNull", "()Ljava/lang/AbstractStringBuilder;"⟩ yJ5_appendNull_278bc, Cond.instanceMethod yJ5_appendNull_278bc, Cond.initialized RJ5, Cond.code yJ5_appendNull_278bc cJ5_appendNull_278bc 3 (some (.object "java/lang/AbstractStringBuilder")), Cond.fieldLink RJ5 15 "java/lang/AbstractStringBuilder" "value" "[B", Cond.methodLink RJ5 100 ⟨"java/lang/AbstractStringBuilder", "ensureCapacityInternal", "(I)V"⟩, Cond.sameMethod "java/lang/AbstractStringBuilder" "java/lang/AbstractStringBuilder" "ensureCapacityInternal" "(I)V", Cond.selects RJ4 ⟨"java/lang/AbstractStringBuilder", "ensureCapacityInternal", "(I)V"⟩ yJ5_ensureCapacityInternal_d00df, Cond.instanceMethod yJ5_ensureCapacityInternal_d00df, Cond.code yJ5_ensureCapacityInternal_d00df cJ5_ensureCapacityInternal_d00df 3 none, Cond.fieldLink RJ5 22 "java/lang/AbstractStringBuilder" "coder" "B", Cond.methodLink RJ5 104 ⟨"java/lang/AbstractStringBuilder", "newCapacity", "(I)I"⟩, Cond.sameMethod "java/lang/AbstractStringBuilder" "java/lang/AbstractStringBuilder" "newCapacity" "(I)I", Cond.selects RJ4 ⟨"java/lang/AbstractStringBuilder", "newCapacity", "(I)I"⟩ yJ5_newCapacity_0f7a4, Cond.instanceMethod yJ5_newCapacity_0f7a4, Cond.code yJ5_newCapacity_0f7a4 cJ5_newCapacity_0f7a4 6 (some .int), Cond.constant RJ5 39 (2147483647), Cond.methodLink RJ5 114 yJ8_newLength_cabcc, Cond.static yJ8_newLength_cabcc, Cond.initialized RJ8, Cond.code yJ8_newLength_cabcc cJ8_newLength_cabcc 4 (some .int)]
def wsJ5_append_cf1ce_r2 : List Cond := [Cond.methodLink RJ8 194 Lib.Math.max.name, Cond.static Lib.Math.max.name, Cond.initialized "java/lang/Math", Cond.code Lib.Math.max.name Lib.Math.max.code 2 (some .int), Cond.constant RJ8 200 (2147483639), Cond.methodLink RJ8 201 yJ8_hugeLength_7cf53, Cond.static yJ8_hugeLength_7cf53, Cond.code yJ8_hugeLength_7cf53 cJ8_hugeLength_7cf53 3 (some .int), Cond.methodLink RJ5 108 yJ7_copyOf_9075b, Cond.static yJ7_copyOf_9075b, Cond.initialized RJ7, Cond.code yJ7_copyOf_9075b cJ7_copyOf_9075b 3 (some (.array .byte)), Cond.methodLink RJ7 310 ⟨"[B", "clone", "()Ljava/lang/Object;"⟩, Cond.sameMethod "[B" "java/lang/Object" "clone" "()Ljava/lang/Object;", Cond.native ⟨"java/lang/Object", "clone", "()Ljava/lang/Object;"⟩, Cond.instanceMethod ⟨"java/lang/Object", "clone", "()Ljava/lang/Object;"⟩, Cond.selects "[B" ⟨"[B", "clone", "()Ljava/lang/Object;"⟩ ⟨"java/lang/Object", "clone", "()Ljava/lang/Object;"⟩, Cond.classLink RJ7 311 "[B", Cond.arrayClass .byte, Cond.methodLink RJ7 304 Lib.Math.min.name, Cond.static Lib.Math.min.name, Cond.code Lib.Math.min.name Lib.Math.min.code 2 (some .int), Cond.methodLink RJ7 150 arraycopyName, Cond.native arraycopyName]
def wsJ5_append_cf1ce_r3 : List Cond := [Cond.static arraycopyName, Cond.initialized "java/lang/System", Cond.methodLink RJ5 83 ⟨"java/lang/AbstractStringBuilder", "isLatin1", "()Z"⟩, Cond.sameMethod "java/lang/AbstractStringBuilder" "java/lang/AbstractStringBuilder" "isLatin1" "()Z", Cond.selects RJ4 ⟨"java/lang/AbstractStringBuilder", "isLatin1", "()Z"⟩ yJ5_isLatin1_aae02, Cond.instanceMethod yJ5_isLatin1_aae02, Cond.code yJ5_isLatin1_aae02 cJ5_isLatin1_aae02 1 (some .boolean), Cond.fieldLink RJ5 18 "java/lang/String" "COMPACT_STRINGS" "Z", Cond.methodLink RJ5 226 yJ2_putCharsAt_cd4e5, Cond.static yJ2_putCharsAt_cd4e5, Cond.initialized RJ2, Cond.code yJ2_putCharsAt_cd4e5 cJ2_putCharsAt_cd4e5 7 (some .int), Cond.fieldLink RJ2 44 "java/lang/StringUTF16" "$assertionsDisabled" "Z", Cond.methodLink RJ2 96 yJ2_checkBoundsBeginEnd_d044e, Cond.static yJ2_checkBoundsBeginEnd_d044e, Cond.code yJ2_checkBoundsBeginEnd_d044e cJ2_checkBoundsBeginEnd_d044e 3 none, Cond.methodLink RJ2 48 yJ2_length_9d52b, Cond.static yJ2_length_9d52b, Cond.code yJ2_length_9d52b cJ2_length_9d52b 1 (some .int), Cond.methodLink RJ2 241 yJ0_checkBoundsBeginEnd_23922, Cond.static yJ0_checkBoundsBeginEnd_23922, Cond.initialized RJ0, Cond.code yJ0_checkBoundsBeginEnd_23922 cJ0_checkBoundsBeginEnd_23922 3 none, Cond.fieldLink RJ0 1053 "jdk/internal/util/Preconditions" "SIOOBE_FORMATTER" "Ljava/util/function/BiFunction;"]
def wsJ5_append_cf1ce_r4 : List Cond := [Cond.methodLink RJ0 1062 yJ3_checkFromToIndex_8c36e, Cond.static yJ3_checkFromToIndex_8c36e, Cond.initialized RJ3, Cond.code yJ3_checkFromToIndex_8c36e cJ3_checkFromToIndex_8c36e 4 (some .int), Cond.methodLink RJ2 111 yJ2_putChar_b72d1, Cond.static yJ2_putChar_b72d1, Cond.code yJ2_putChar_b72d1 cJ2_putChar_b72d1 3 none, Cond.fieldLink RJ2 59 "java/lang/StringUTF16" "HI_BYTE_SHIFT" "I", Cond.fieldLink RJ2 63 "java/lang/StringUTF16" "LO_BYTE_SHIFT" "I", Cond.methodLink RJ5 32 yJ0_length_8abf5, Cond.instanceMethod yJ0_length_8abf5, Cond.selects RJ0 yJ0_length_8abf5 yJ0_length_8abf5, Cond.code yJ0_length_8abf5 cJ0_length_8abf5 1 (some .int), Cond.fieldLink RJ0 9 "java/lang/String" "value" "[B", Cond.methodLink RJ0 335 yJ0_coder_7d493, Cond.instanceMethod yJ0_coder_7d493, Cond.selects RJ0 yJ0_coder_7d493 yJ0_coder_7d493, Cond.code yJ0_coder_7d493 cJ0_coder_7d493 1 (some .byte), Cond.fieldLink RJ0 38 "java/lang/String" "COMPACT_STRINGS" "Z", Cond.fieldLink RJ0 15 "java/lang/String" "coder" "B", Cond.methodLink RJ5 208 ⟨"java/lang/AbstractStringBuilder", "putStringAt", "(ILjava/lang/String;)V"⟩, Cond.sameMethod "java/lang/AbstractStringBuilder" "java/lang/AbstractStringBuilder" "putStringAt" "(ILjava/lang/String;)V", Cond.selects RJ4 ⟨"java/lang/AbstractStringBuilder", "putStringAt", "(ILjava/lang/String;)V"⟩ yJ5_putStringAt_47b60, Cond.instanceMethod yJ5_putStringAt_47b60]
def wsJ5_append_cf1ce_r5 : List Cond := [Cond.code yJ5_putStringAt_47b60 cJ5_putStringAt_47b60 3 none, Cond.methodLink RJ5 397 ⟨"java/lang/AbstractStringBuilder", "inflateIfNeededFor", "(Ljava/lang/String;)V"⟩, Cond.sameMethod "java/lang/AbstractStringBuilder" "java/lang/AbstractStringBuilder" "inflateIfNeededFor" "(Ljava/lang/String;)V", Cond.selects RJ4 ⟨"java/lang/AbstractStringBuilder", "inflateIfNeededFor", "(Ljava/lang/String;)V"⟩ yJ5_inflateIfNeededFor_a7421, Cond.instanceMethod yJ5_inflateIfNeededFor_a7421, Cond.code yJ5_inflateIfNeededFor_a7421 cJ5_inflateIfNeededFor_a7421 2 none, Cond.methodLink RJ5 40 yJ0_coder_7d493, Cond.methodLink RJ5 195 ⟨"java/lang/AbstractStringBuilder", "inflate", "()V"⟩, Cond.sameMethod "java/lang/AbstractStringBuilder" "java/lang/AbstractStringBuilder" "inflate" "()V", Cond.selects RJ4 ⟨"java/lang/AbstractStringBuilder", "inflate", "()V"⟩ yJ5_inflate_da8c8, Cond.instanceMethod yJ5_inflate_da8c8, Cond.code yJ5_inflate_da8c8 cJ5_inflate_da8c8 2 none, Cond.methodLink RJ5 26 yJ2_newBytesFor_77867, Cond.static yJ2_newBytesFor_77867, Cond.code yJ2_newBytesFor_77867 cJ2_newBytesFor_77867 1 (some (.array .byte)), Cond.methodLink RJ2 11 yJ2_newBytesLength_0f7a4, Cond.static yJ2_newBytesLength_0f7a4, Cond.code yJ2_newBytesLength_0f7a4 cJ2_newBytesLength_0f7a4 1 (some .int), Cond.constant RJ2 20 (1073741823), Cond.methodLink RJ5 125 yJ1_inflate_0e8fd, Cond.static yJ1_inflate_0e8fd, Cond.initialized RJ1, Cond.code yJ1_inflate_0e8fd cJ1_inflate_0e8fd 5 none, Cond.methodLink RJ1 240 yJ2_inflate_0e8fd]
def wsJ5_append_cf1ce_r6 : List Cond := [Cond.static yJ2_inflate_0e8fd, Cond.code yJ2_inflate_0e8fd cJ2_inflate_0e8fd 6 none, Cond.methodLink RJ2 173 yJ2_checkBoundsOffCount_d044e, Cond.static yJ2_checkBoundsOffCount_d044e, Cond.code yJ2_checkBoundsOffCount_d044e cJ2_checkBoundsOffCount_d044e 3 none, Cond.methodLink RJ2 419 yJ0_checkBoundsOffCount_cabcc, Cond.static yJ0_checkBoundsOffCount_cabcc, Cond.code yJ0_checkBoundsOffCount_cabcc cJ0_checkBoundsOffCount_cabcc 3 (some .int), Cond.methodLink RJ0 1065 yJ3_checkFromIndexSize_8c36e, Cond.static yJ3_checkFromIndexSize_8c36e, Cond.code yJ3_checkFromIndexSize_8c36e cJ3_checkFromIndexSize_8c36e 4 (some .int), Cond.methodLink RJ5 399 yJ0_getBytes_840e7, Cond.instanceMethod yJ0_getBytes_840e7, Cond.selects RJ0 yJ0_getBytes_840e7 yJ0_getBytes_840e7, Cond.code yJ0_getBytes_840e7 cJ0_getBytes_840e7 4 none, Cond.methodLink RJ0 212 arraycopyName, Cond.methodLink RJ0 106 yJ1_inflate_0e8fd]
def wsJ5_append_cf1ce : List Cond := .code yJ5_append_cf1ce cJ5_append_cf1ce 3 (some (.object "java/lang/AbstractStringBuilder")) :: ((wsJ5_append_cf1ce_r1 ++ (wsJ5_append_cf1ce_r2 ++ (wsJ5_append_cf1ce_r3 ++ (wsJ5_append_cf1ce_r4 ++ (wsJ5_append_cf1ce_r5 ++ wsJ5_append_cf1ce_r6))))) ++ wsJ40 ++ wsJ00)
def wsJ6_stringSize_0f7a4 : List Cond := .code yJ6_stringSize_0f7a4 cJ6_stringSize_0f7a4 4 (some .int) :: ([])
def wsJ6_getChars_ba4f3 : List Cond := .code yJ6_getChars_ba4f3 cJ6_getChars_ba4f3 7 (some .int) :: ([.fieldLink RJ6 83 "java/lang/Integer" "DigitOnes" "[B", .fieldLink RJ6 87 "java/lang/Integer" "DigitTens" "[B"])
def wsJ2_getChars_ba4f3 : List Cond := .code yJ2_getChars_ba4f3 cJ2_getChars_ba4f3 7 (some .int) :: ([.fieldLink RJ2 403 "java/lang/Integer" "DigitOnes" "[B", .fieldLink RJ2 407 "java/lang/Integer" "DigitTens" "[B", .methodLink RJ2 111 yJ2_putChar_b72d1, .static yJ2_putChar_b72d1, .initialized RJ2, .code yJ2_putChar_b72d1 cJ2_putChar_b72d1 3 none, .fieldLink RJ2 44 "java/lang/StringUTF16" "$assertionsDisabled" "Z", .fieldLink RJ2 59 "java/lang/StringUTF16" "HI_BYTE_SHIFT" "I", .fieldLink RJ2 63 "java/lang/StringUTF16" "LO_BYTE_SHIFT" "I", .methodLink RJ2 48 yJ2_length_9d52b, .static yJ2_length_9d52b, .code yJ2_length_9d52b cJ2_length_9d52b 1 (some .int)])
def wsJ2_getChars_46870_r1 : List Cond := [Cond.fieldLink RJ2 44 "java/lang/StringUTF16" "$assertionsDisabled" "Z", Cond.methodLink RJ2 96 yJ2_checkBoundsBeginEnd_d044e, Cond.static yJ2_checkBoundsBeginEnd_d044e, Cond.initialized RJ2, Cond.code yJ2_checkBoundsBeginEnd_d044e cJ2_checkBoundsBeginEnd_d044e 3 none, Cond.methodLink RJ2 48 yJ2_length_9d52b, Cond.static yJ2_length_9d52b, Cond.code yJ2_length_9d52b cJ2_length_9d52b 1 (some .int), Cond.methodLink RJ2 241 yJ0_checkBoundsBeginEnd_23922, Cond.static yJ0_checkBoundsBeginEnd_23922, Cond.initialized RJ0, Cond.code yJ0_checkBoundsBeginEnd_23922 cJ0_checkBoundsBeginEnd_23922 3 none, Cond.fieldLink RJ0 1053 "jdk/internal/util/Preconditions" "SIOOBE_FORMATTER" "Ljava/util/function/BiFunction;", Cond.methodLink RJ0 1062 yJ3_checkFromToIndex_8c36e, Cond.static yJ3_checkFromToIndex_8c36e, Cond.initialized RJ3, Cond.code yJ3_checkFromToIndex_8c36e cJ3_checkFromToIndex_8c36e 4 (some .int), Cond.methodLink RJ2 393 yJ2_getChars_ba4f3, Cond.static yJ2_getChars_ba4f3, Cond.code yJ2_getChars_ba4f3 cJ2_getChars_ba4f3 7 (some .int), Cond.fieldLink RJ2 403 "java/lang/Integer" "DigitOnes" "[B", Cond.fieldLink RJ2 407 "java/lang/Integer" "DigitTens" "[B", Cond.methodLink RJ2 111 yJ2_putChar_b72d1, Cond.static yJ2_putChar_b72d1]
def wsJ2_getChars_46870_r2 : List Cond := [Cond.code yJ2_putChar_b72d1 cJ2_putChar_b72d1 3 none, Cond.fieldLink RJ2 59 "java/lang/StringUTF16" "HI_BYTE_SHIFT" "I", Cond.fieldLink RJ2 63 "java/lang/StringUTF16" "LO_BYTE_SHIFT" "I"]
def wsJ2_getChars_46870 : List Cond := .code yJ2_getChars_46870 cJ2_getChars_46870 5 (some .int) :: ((wsJ2_getChars_46870_r1 ++ wsJ2_getChars_46870_r2))
def wsJ5_append_c97b9_r1 : List Cond := [Cond.fieldLink RJ5 79 "java/lang/AbstractStringBuilder" "count" "I", Cond.fieldLink RJ5 15 "java/lang/AbstractStringBuilder" "value" "[B", Cond.methodLink RJ5 245 yJ6_stringSize_0f7a4, Cond.static yJ6_stringSize_0f7a4, Cond.initialized RJ6, Cond.code yJ6_stringSize_0f7a4 cJ6_stringSize_0f7a4 4 (some .int), Cond.methodLink RJ5 100 ⟨"java/lang/AbstractStringBuilder", "ensureCapacityInternal", "(I)V"⟩, Cond.sameMethod "java/lang/AbstractStringBuilder" "java/lang/AbstractStringBuilder" "ensureCapacityInternal" "(I)V", Cond.selects RJ4 ⟨"java/lang/AbstractStringBuilder", "ensureCapacityInternal", "(I)V"⟩ yJ5_ensureCapacityInternal_d00df, Cond.instanceMethod yJ5_ensureCapacityInternal_d00df, Cond.initialized RJ5, Cond.code yJ5_ensureCapacityInternal_d00df cJ5_ensureCapacityInternal_d00df 3 none, Cond.fieldLink RJ5 22 "java/lang/AbstractStringBuilder" "coder" "B", Cond.methodLink RJ5 104 ⟨"java/lang/AbstractStringBuilder", "newCapacity", "(I)I"⟩, Cond.sameMethod "java/lang/AbstractStringBuilder" "java/lang/AbstractStringBuilder" "newCapacity" "(I)I", Cond.selects RJ4 ⟨"java/lang/AbstractStringBuilder", "newCapacity", "(I)I"⟩ yJ5_newCapacity_0f7a4, Cond.instanceMethod yJ5_newCapacity_0f7a4, Cond.code yJ5_newCapacity_0f7a4 cJ5_newCapacity_0f7a4 6 (some .int), Cond.constant RJ5 39 (2147483647), Cond.methodLink RJ5 114 yJ8_newLength_cabcc, Cond.static yJ8_newLength_cabcc, Cond.initialized RJ8, Cond.code yJ8_newLength_cabcc cJ8_newLength_cabcc 4 (some .int), Cond.methodLink RJ8 194 Lib.Math.max.name]
def wsJ5_append_c97b9_r2 : List Cond := [Cond.static Lib.Math.max.name, Cond.initialized "java/lang/Math", Cond.code Lib.Math.max.name Lib.Math.max.code 2 (some .int), Cond.constant RJ8 200 (2147483639), Cond.methodLink RJ8 201 yJ8_hugeLength_7cf53, Cond.static yJ8_hugeLength_7cf53, Cond.code yJ8_hugeLength_7cf53 cJ8_hugeLength_7cf53 3 (some .int), Cond.methodLink RJ5 108 yJ7_copyOf_9075b, Cond.static yJ7_copyOf_9075b, Cond.initialized RJ7, Cond.code yJ7_copyOf_9075b cJ7_copyOf_9075b 3 (some (.array .byte)), Cond.methodLink RJ7 310 ⟨"[B", "clone", "()Ljava/lang/Object;"⟩, Cond.sameMethod "[B" "java/lang/Object" "clone" "()Ljava/lang/Object;", Cond.native ⟨"java/lang/Object", "clone", "()Ljava/lang/Object;"⟩, Cond.instanceMethod ⟨"java/lang/Object", "clone", "()Ljava/lang/Object;"⟩, Cond.selects "[B" ⟨"[B", "clone", "()Ljava/lang/Object;"⟩ ⟨"java/lang/Object", "clone", "()Ljava/lang/Object;"⟩, Cond.classLink RJ7 311 "[B", Cond.arrayClass .byte, Cond.methodLink RJ7 304 Lib.Math.min.name, Cond.static Lib.Math.min.name, Cond.code Lib.Math.min.name Lib.Math.min.code 2 (some .int), Cond.methodLink RJ7 150 arraycopyName, Cond.native arraycopyName, Cond.static arraycopyName]
def wsJ5_append_c97b9_r3 : List Cond := [Cond.initialized "java/lang/System", Cond.methodLink RJ5 83 ⟨"java/lang/AbstractStringBuilder", "isLatin1", "()Z"⟩, Cond.sameMethod "java/lang/AbstractStringBuilder" "java/lang/AbstractStringBuilder" "isLatin1" "()Z", Cond.selects RJ4 ⟨"java/lang/AbstractStringBuilder", "isLatin1", "()Z"⟩ yJ5_isLatin1_aae02, Cond.instanceMethod yJ5_isLatin1_aae02, Cond.code yJ5_isLatin1_aae02 cJ5_isLatin1_aae02 1 (some .boolean), Cond.fieldLink RJ5 18 "java/lang/String" "COMPACT_STRINGS" "Z", Cond.methodLink RJ5 248 yJ6_getChars_ba4f3, Cond.static yJ6_getChars_ba4f3, Cond.code yJ6_getChars_ba4f3 cJ6_getChars_ba4f3 7 (some .int), Cond.fieldLink RJ6 83 "java/lang/Integer" "DigitOnes" "[B", Cond.fieldLink RJ6 87 "java/lang/Integer" "DigitTens" "[B", Cond.methodLink RJ5 251 yJ2_getChars_46870, Cond.static yJ2_getChars_46870, Cond.initialized RJ2, Cond.code yJ2_getChars_46870 cJ2_getChars_46870 5 (some .int), Cond.fieldLink RJ2 44 "java/lang/StringUTF16" "$assertionsDisabled" "Z", Cond.methodLink RJ2 96 yJ2_checkBoundsBeginEnd_d044e, Cond.static yJ2_checkBoundsBeginEnd_d044e, Cond.code yJ2_checkBoundsBeginEnd_d044e cJ2_checkBoundsBeginEnd_d044e 3 none, Cond.methodLink RJ2 48 yJ2_length_9d52b, Cond.static yJ2_length_9d52b, Cond.code yJ2_length_9d52b cJ2_length_9d52b 1 (some .int), Cond.methodLink RJ2 241 yJ0_checkBoundsBeginEnd_23922]
def wsJ5_append_c97b9_r4 : List Cond := [Cond.static yJ0_checkBoundsBeginEnd_23922, Cond.initialized RJ0, Cond.code yJ0_checkBoundsBeginEnd_23922 cJ0_checkBoundsBeginEnd_23922 3 none, Cond.fieldLink RJ0 1053 "jdk/internal/util/Preconditions" "SIOOBE_FORMATTER" "Ljava/util/function/BiFunction;", Cond.methodLink RJ0 1062 yJ3_checkFromToIndex_8c36e, Cond.static yJ3_checkFromToIndex_8c36e, Cond.initialized RJ3, Cond.code yJ3_checkFromToIndex_8c36e cJ3_checkFromToIndex_8c36e 4 (some .int), Cond.methodLink RJ2 393 yJ2_getChars_ba4f3, Cond.static yJ2_getChars_ba4f3, Cond.code yJ2_getChars_ba4f3 cJ2_getChars_ba4f3 7 (some .int), Cond.fieldLink RJ2 403 "java/lang/Integer" "DigitOnes" "[B", Cond.fieldLink RJ2 407 "java/lang/Integer" "DigitTens" "[B", Cond.methodLink RJ2 111 yJ2_putChar_b72d1, Cond.static yJ2_putChar_b72d1, Cond.code yJ2_putChar_b72d1 cJ2_putChar_b72d1 3 none, Cond.fieldLink RJ2 59 "java/lang/StringUTF16" "HI_BYTE_SHIFT" "I", Cond.fieldLink RJ2 63 "java/lang/StringUTF16" "LO_BYTE_SHIFT" "I"]
def wsJ5_append_c97b9 : List Cond := .code yJ5_append_c97b9 cJ5_append_c97b9 4 (some (.object "java/lang/AbstractStringBuilder")) :: ((wsJ5_append_c97b9_r1 ++ (wsJ5_append_c97b9_r2 ++ (wsJ5_append_c97b9_r3 ++ wsJ5_append_c97b9_r4))) ++ wsJ40)
def wsJ5_getValue_6d5f1 : List Cond := .code yJ5_getValue_6d5f1 cJ5_getValue_6d5f1 1 (some (.array .byte)) :: ([.fieldLink RJ5 15 "java/lang/AbstractStringBuilder" "value" "[B"] ++ wsJ40)
def wsJ9_max_7cf53 : List Cond := .code yJ9_max_7cf53 cJ9_max_7cf53 2 (some .int) :: ([])
def wsJ9_min_7cf53 : List Cond := .code yJ9_min_7cf53 cJ9_min_7cf53 2 (some .int) :: ([])
def wsJ4_length_8abf5 : List Cond := .code yJ4_length_8abf5 cJ4_length_8abf5 1 (some .int) :: ([.methodLink RJ4 343 yJ5_length_8abf5, .sameMethod "java/lang/AbstractStringBuilder" "java/lang/AbstractStringBuilder" "length" "()I", .superclass RJ4 RJ5, .instanceMethod yJ5_length_8abf5, .initialized RJ5, .code yJ5_length_8abf5 cJ5_length_8abf5 1 (some .int), .fieldLink RJ5 79 "java/lang/AbstractStringBuilder" "count" "I"] ++ wsJ40)
def wsJ7_checkLength_df160 : List Cond := .code yJ7_checkLength_df160 cJ7_checkLength_df160 2 none :: ([.classLink RJ7 45 RJ4, .instantiable RJ4 4, .initialized RJ4] ++ wsJ40)
def wsJ7_copyOfRangeByte_39247 : List Cond := .code yJ7_copyOfRangeByte_39247 cJ7_copyOfRangeByte_39247 5 (some (.array .byte)) :: ([.arrayClass .byte, .methodLink RJ7 304 Lib.Math.min.name, .static Lib.Math.min.name, .initialized "java/lang/Math", .code Lib.Math.min.name Lib.Math.min.code 2 (some .int), .methodLink RJ7 150 arraycopyName, .native arraycopyName, .static arraycopyName, .initialized "java/lang/System", .methodLink RJ7 343 yJ7_checkLength_df160, .static yJ7_checkLength_df160, .initialized RJ7, .code yJ7_checkLength_df160 cJ7_checkLength_df160 2 none, .classLink RJ7 45 RJ4, .instantiable RJ4 4, .initialized RJ4] ++ wsJ40)
def wsJ7_copyOfRange_39247_r1 : List Cond := [Cond.methodLink RJ7 310 ⟨"[B", "clone", "()Ljava/lang/Object;"⟩, Cond.sameMethod "[B" "java/lang/Object" "clone" "()Ljava/lang/Object;", Cond.native ⟨"java/lang/Object", "clone", "()Ljava/lang/Object;"⟩, Cond.instanceMethod ⟨"java/lang/Object", "clone", "()Ljava/lang/Object;"⟩, Cond.selects "[B" ⟨"[B", "clone", "()Ljava/lang/Object;"⟩ ⟨"java/lang/Object", "clone", "()Ljava/lang/Object;"⟩, Cond.classLink RJ7 311 "[B", Cond.methodLink RJ7 339 yJ7_copyOfRangeByte_39247, Cond.static yJ7_copyOfRangeByte_39247, Cond.initialized RJ7, Cond.code yJ7_copyOfRangeByte_39247 cJ7_copyOfRangeByte_39247 5 (some (.array .byte)), Cond.arrayClass .byte, Cond.methodLink RJ7 304 Lib.Math.min.name, Cond.static Lib.Math.min.name, Cond.initialized "java/lang/Math", Cond.code Lib.Math.min.name Lib.Math.min.code 2 (some .int), Cond.methodLink RJ7 150 arraycopyName, Cond.native arraycopyName, Cond.static arraycopyName, Cond.initialized "java/lang/System", Cond.methodLink RJ7 343 yJ7_checkLength_df160, Cond.static yJ7_checkLength_df160, Cond.code yJ7_checkLength_df160 cJ7_checkLength_df160 2 none, Cond.classLink RJ7 45 RJ4, Cond.instantiable RJ4 4]
def wsJ7_copyOfRange_39247_r2 : List Cond := [Cond.initialized RJ4]
def wsJ7_copyOfRange_39247 : List Cond := .code yJ7_copyOfRange_39247 cJ7_copyOfRange_39247 3 (some (.array .byte)) :: ((wsJ7_copyOfRange_39247_r1 ++ wsJ7_copyOfRange_39247_r2) ++ wsJ40)
def wsJ2_getChar_3b067 : List Cond := .code yJ2_getChar_3b067 cJ2_getChar_3b067 2 (some .char) :: ([.fieldLink RJ2 44 "java/lang/StringUTF16" "$assertionsDisabled" "Z", .fieldLink RJ2 59 "java/lang/StringUTF16" "HI_BYTE_SHIFT" "I", .fieldLink RJ2 63 "java/lang/StringUTF16" "LO_BYTE_SHIFT" "I", .methodLink RJ2 48 yJ2_length_9d52b, .static yJ2_length_9d52b, .initialized RJ2, .code yJ2_length_9d52b cJ2_length_9d52b 1 (some .int)])
def wsJ2_compress_5af95 : List Cond := .code yJ2_compress_5af95 cJ2_compress_5af95 7 (some .int) :: ([.methodLink RJ2 173 yJ2_checkBoundsOffCount_d044e, .static yJ2_checkBoundsOffCount_d044e, .initialized RJ2, .code yJ2_checkBoundsOffCount_d044e cJ2_checkBoundsOffCount_d044e 3 none, .methodLink RJ2 48 yJ2_length_9d52b, .static yJ2_length_9d52b, .code yJ2_length_9d52b cJ2_length_9d52b 1 (some .int), .methodLink RJ2 419 yJ0_checkBoundsOffCount_cabcc, .static yJ0_checkBoundsOffCount_cabcc, .initialized RJ0, .code yJ0_checkBoundsOffCount_cabcc cJ0_checkBoundsOffCount_cabcc 3 (some .int), .fieldLink RJ0 1053 "jdk/internal/util/Preconditions" "SIOOBE_FORMATTER" "Ljava/util/function/BiFunction;", .methodLink RJ0 1065 yJ3_checkFromIndexSize_8c36e, .static yJ3_checkFromIndexSize_8c36e, .initialized RJ3, .code yJ3_checkFromIndexSize_8c36e cJ3_checkFromIndexSize_8c36e 4 (some .int), .methodLink RJ2 71 yJ2_getChar_3b067, .static yJ2_getChar_3b067, .code yJ2_getChar_3b067 cJ2_getChar_3b067 2 (some .char), .fieldLink RJ2 44 "java/lang/StringUTF16" "$assertionsDisabled" "Z", .fieldLink RJ2 59 "java/lang/StringUTF16" "HI_BYTE_SHIFT" "I", .fieldLink RJ2 63 "java/lang/StringUTF16" "LO_BYTE_SHIFT" "I"])
def wsJ2_compress_39247_r1 : List Cond := [Cond.arrayClass .byte, Cond.methodLink RJ2 123 yJ2_compress_5af95, Cond.static yJ2_compress_5af95, Cond.initialized RJ2, Cond.code yJ2_compress_5af95 cJ2_compress_5af95 7 (some .int), Cond.methodLink RJ2 173 yJ2_checkBoundsOffCount_d044e, Cond.static yJ2_checkBoundsOffCount_d044e, Cond.code yJ2_checkBoundsOffCount_d044e cJ2_checkBoundsOffCount_d044e 3 none, Cond.methodLink RJ2 48 yJ2_length_9d52b, Cond.static yJ2_length_9d52b, Cond.code yJ2_length_9d52b cJ2_length_9d52b 1 (some .int), Cond.methodLink RJ2 419 yJ0_checkBoundsOffCount_cabcc, Cond.static yJ0_checkBoundsOffCount_cabcc, Cond.initialized RJ0, Cond.code yJ0_checkBoundsOffCount_cabcc cJ0_checkBoundsOffCount_cabcc 3 (some .int), Cond.fieldLink RJ0 1053 "jdk/internal/util/Preconditions" "SIOOBE_FORMATTER" "Ljava/util/function/BiFunction;", Cond.methodLink RJ0 1065 yJ3_checkFromIndexSize_8c36e, Cond.static yJ3_checkFromIndexSize_8c36e, Cond.initialized RJ3, Cond.code yJ3_checkFromIndexSize_8c36e cJ3_checkFromIndexSize_8c36e 4 (some .int), Cond.methodLink RJ2 71 yJ2_getChar_3b067, Cond.static yJ2_getChar_3b067, Cond.code yJ2_getChar_3b067 cJ2_getChar_3b067 2 (some .char), Cond.fieldLink RJ2 44 "java/lang/StringUTF16" "$assertionsDisabled" "Z"]
def wsJ2_compress_39247_r2 : List Cond := [Cond.fieldLink RJ2 59 "java/lang/StringUTF16" "HI_BYTE_SHIFT" "I", Cond.fieldLink RJ2 63 "java/lang/StringUTF16" "LO_BYTE_SHIFT" "I", Cond.methodLink RJ2 11 yJ2_newBytesLength_0f7a4, Cond.static yJ2_newBytesLength_0f7a4, Cond.code yJ2_newBytesLength_0f7a4 cJ2_newBytesLength_0f7a4 1 (some .int), Cond.constant RJ2 20 (1073741823), Cond.methodLink RJ2 126 yJ7_copyOfRange_39247, Cond.static yJ7_copyOfRange_39247, Cond.initialized RJ7, Cond.code yJ7_copyOfRange_39247 cJ7_copyOfRange_39247 3 (some (.array .byte)), Cond.methodLink RJ7 310 ⟨"[B", "clone", "()Ljava/lang/Object;"⟩, Cond.sameMethod "[B" "java/lang/Object" "clone" "()Ljava/lang/Object;", Cond.native ⟨"java/lang/Object", "clone", "()Ljava/lang/Object;"⟩, Cond.instanceMethod ⟨"java/lang/Object", "clone", "()Ljava/lang/Object;"⟩, Cond.selects "[B" ⟨"[B", "clone", "()Ljava/lang/Object;"⟩ ⟨"java/lang/Object", "clone", "()Ljava/lang/Object;"⟩, Cond.classLink RJ7 311 "[B", Cond.methodLink RJ7 339 yJ7_copyOfRangeByte_39247, Cond.static yJ7_copyOfRangeByte_39247, Cond.code yJ7_copyOfRangeByte_39247 cJ7_copyOfRangeByte_39247 5 (some (.array .byte)), Cond.methodLink RJ7 304 Lib.Math.min.name, Cond.static Lib.Math.min.name, Cond.initialized "java/lang/Math", Cond.code Lib.Math.min.name Lib.Math.min.code 2 (some .int), Cond.methodLink RJ7 150 arraycopyName]
def wsJ2_compress_39247_r3 : List Cond := [Cond.native arraycopyName, Cond.static arraycopyName, Cond.initialized "java/lang/System", Cond.methodLink RJ7 343 yJ7_checkLength_df160, Cond.static yJ7_checkLength_df160, Cond.code yJ7_checkLength_df160 cJ7_checkLength_df160 2 none, Cond.classLink RJ7 45 RJ4, Cond.instantiable RJ4 4, Cond.initialized RJ4]
def wsJ2_compress_39247 : List Cond := .code yJ2_compress_39247 cJ2_compress_39247 6 (some (.array .byte)) :: ((wsJ2_compress_39247_r1 ++ (wsJ2_compress_39247_r2 ++ wsJ2_compress_39247_r3)) ++ wsJ40)
def wsJ2_coderFromArrayLen_85cad : List Cond := .code yJ2_coderFromArrayLen_85cad cJ2_coderFromArrayLen_85cad 2 (some .byte) :: ([])
def wsJ0_init_db425_r1 : List Cond := [Cond.methodLink RJ0 1 objectInit, Cond.instanceMethod objectInit, Cond.code objectInit ⟨#[0xb1]⟩ 1 none, Cond.fieldLink RJ0 15 "java/lang/String" "coder" "B", Cond.fieldLink RJ0 9 "java/lang/String" "value" "[B", Cond.fieldLink RJ0 38 "java/lang/String" "COMPACT_STRINGS" "Z", Cond.fieldLink RJ0 1048 "java/lang/AbstractStringBuilder" "maybeLatin1" "Z", Cond.methodLink RJ0 552 ⟨"java/lang/AbstractStringBuilder", "getValue", "()[B"⟩, Cond.sameMethod "java/lang/AbstractStringBuilder" "java/lang/AbstractStringBuilder" "getValue" "()[B", Cond.selects RJ4 ⟨"java/lang/AbstractStringBuilder", "getValue", "()[B"⟩ yJ5_getValue_6d5f1, Cond.instanceMethod yJ5_getValue_6d5f1, Cond.initialized RJ5, Cond.code yJ5_getValue_6d5f1 cJ5_getValue_6d5f1 1 (some (.array .byte)), Cond.fieldLink RJ5 15 "java/lang/AbstractStringBuilder" "value" "[B", Cond.methodLink RJ0 549 ⟨"java/lang/AbstractStringBuilder", "length", "()I"⟩, Cond.sameMethod "java/lang/AbstractStringBuilder" "java/lang/AbstractStringBuilder" "length" "()I", Cond.instanceMethod ⟨"java/lang/AbstractStringBuilder", "length", "()I"⟩, Cond.selects RJ4 ⟨"java/lang/AbstractStringBuilder", "length", "()I"⟩ yJ4_length_8abf5, Cond.instanceMethod yJ4_length_8abf5, Cond.initialized RJ4, Cond.code yJ4_length_8abf5 cJ4_length_8abf5 1 (some .int), Cond.methodLink RJ4 343 yJ5_length_8abf5, Cond.superclass RJ4 RJ5, Cond.instanceMethod yJ5_length_8abf5]
def wsJ0_init_db425_r2 : List Cond := [Cond.code yJ5_length_8abf5 cJ5_length_8abf5 1 (some .int), Cond.fieldLink RJ5 79 "java/lang/AbstractStringBuilder" "count" "I", Cond.methodLink RJ0 1047 ⟨"java/lang/AbstractStringBuilder", "isLatin1", "()Z"⟩, Cond.sameMethod "java/lang/AbstractStringBuilder" "java/lang/AbstractStringBuilder" "isLatin1" "()Z", Cond.selects RJ4 ⟨"java/lang/AbstractStringBuilder", "isLatin1", "()Z"⟩ yJ5_isLatin1_aae02, Cond.instanceMethod yJ5_isLatin1_aae02, Cond.code yJ5_isLatin1_aae02 cJ5_isLatin1_aae02 1 (some .boolean), Cond.fieldLink RJ5 18 "java/lang/String" "COMPACT_STRINGS" "Z", Cond.fieldLink RJ5 22 "java/lang/AbstractStringBuilder" "coder" "B", Cond.methodLink RJ0 54 yJ7_copyOfRange_39247, Cond.static yJ7_copyOfRange_39247, Cond.initialized RJ7, Cond.code yJ7_copyOfRange_39247 cJ7_copyOfRange_39247 3 (some (.array .byte)), Cond.methodLink RJ7 310 ⟨"[B", "clone", "()Ljava/lang/Object;"⟩, Cond.sameMethod "[B" "java/lang/Object" "clone" "()Ljava/lang/Object;", Cond.native ⟨"java/lang/Object", "clone", "()Ljava/lang/Object;"⟩, Cond.instanceMethod ⟨"java/lang/Object", "clone", "()Ljava/lang/Object;"⟩, Cond.selects "[B" ⟨"[B", "clone", "()Ljava/lang/Object;"⟩ ⟨"java/lang/Object", "clone", "()Ljava/lang/Object;"⟩, Cond.classLink RJ7 311 "[B", Cond.methodLink RJ7 339 yJ7_copyOfRangeByte_39247, Cond.static yJ7_copyOfRangeByte_39247, Cond.code yJ7_copyOfRangeByte_39247 cJ7_copyOfRangeByte_39247 5 (some (.array .byte)), Cond.arrayClass .byte, Cond.methodLink RJ7 304 Lib.Math.min.name]
def wsJ0_init_db425_r3 : List Cond := [Cond.static Lib.Math.min.name, Cond.initialized "java/lang/Math", Cond.code Lib.Math.min.name Lib.Math.min.code 2 (some .int), Cond.methodLink RJ7 150 arraycopyName, Cond.native arraycopyName, Cond.static arraycopyName, Cond.initialized "java/lang/System", Cond.methodLink RJ7 343 yJ7_checkLength_df160, Cond.static yJ7_checkLength_df160, Cond.code yJ7_checkLength_df160 cJ7_checkLength_df160 2 none, Cond.classLink RJ7 45 RJ4, Cond.instantiable RJ4 4, Cond.methodLink RJ0 1051 yJ2_compress_39247, Cond.static yJ2_compress_39247, Cond.initialized RJ2, Cond.code yJ2_compress_39247 cJ2_compress_39247 6 (some (.array .byte)), Cond.methodLink RJ2 123 yJ2_compress_5af95, Cond.static yJ2_compress_5af95, Cond.code yJ2_compress_5af95 cJ2_compress_5af95 7 (some .int), Cond.methodLink RJ2 173 yJ2_checkBoundsOffCount_d044e, Cond.static yJ2_checkBoundsOffCount_d044e, Cond.code yJ2_checkBoundsOffCount_d044e cJ2_checkBoundsOffCount_d044e 3 none, Cond.methodLink RJ2 48 yJ2_length_9d52b, Cond.static yJ2_length_9d52b]
def wsJ0_init_db425_r4 : List Cond := [Cond.code yJ2_length_9d52b cJ2_length_9d52b 1 (some .int), Cond.methodLink RJ2 419 yJ0_checkBoundsOffCount_cabcc, Cond.static yJ0_checkBoundsOffCount_cabcc, Cond.initialized RJ0, Cond.code yJ0_checkBoundsOffCount_cabcc cJ0_checkBoundsOffCount_cabcc 3 (some .int), Cond.fieldLink RJ0 1053 "jdk/internal/util/Preconditions" "SIOOBE_FORMATTER" "Ljava/util/function/BiFunction;", Cond.methodLink RJ0 1065 yJ3_checkFromIndexSize_8c36e, Cond.static yJ3_checkFromIndexSize_8c36e, Cond.initialized RJ3, Cond.code yJ3_checkFromIndexSize_8c36e cJ3_checkFromIndexSize_8c36e 4 (some .int), Cond.methodLink RJ2 71 yJ2_getChar_3b067, Cond.static yJ2_getChar_3b067, Cond.code yJ2_getChar_3b067 cJ2_getChar_3b067 2 (some .char), Cond.fieldLink RJ2 44 "java/lang/StringUTF16" "$assertionsDisabled" "Z", Cond.fieldLink RJ2 59 "java/lang/StringUTF16" "HI_BYTE_SHIFT" "I", Cond.fieldLink RJ2 63 "java/lang/StringUTF16" "LO_BYTE_SHIFT" "I", Cond.methodLink RJ2 11 yJ2_newBytesLength_0f7a4, Cond.static yJ2_newBytesLength_0f7a4, Cond.code yJ2_newBytesLength_0f7a4 cJ2_newBytesLength_0f7a4 1 (some .int), Cond.constant RJ2 20 (1073741823), Cond.methodLink RJ2 126 yJ7_copyOfRange_39247, Cond.methodLink RJ0 47 yJ2_coderFromArrayLen_85cad, Cond.static yJ2_coderFromArrayLen_85cad, Cond.code yJ2_coderFromArrayLen_85cad cJ2_coderFromArrayLen_85cad 2 (some .byte)]
def wsJ0_init_db425 : List Cond := .code yJ0_init_db425 cJ0_init_db425 5 none :: ((wsJ0_init_db425_r1 ++ (wsJ0_init_db425_r2 ++ (wsJ0_init_db425_r3 ++ wsJ0_init_db425_r4))) ++ wsJ00 ++ wsJ40)
def wsJ0_init_81219_r1 : List Cond := [Cond.methodLink RJ0 489 yJ0_init_db425, Cond.instanceMethod yJ0_init_db425, Cond.initialized RJ0, Cond.code yJ0_init_db425 cJ0_init_db425 5 none, Cond.methodLink RJ0 1 objectInit, Cond.instanceMethod objectInit, Cond.code objectInit ⟨#[0xb1]⟩ 1 none, Cond.fieldLink RJ0 15 "java/lang/String" "coder" "B", Cond.fieldLink RJ0 9 "java/lang/String" "value" "[B", Cond.fieldLink RJ0 38 "java/lang/String" "COMPACT_STRINGS" "Z", Cond.fieldLink RJ0 1048 "java/lang/AbstractStringBuilder" "maybeLatin1" "Z", Cond.methodLink RJ0 552 ⟨"java/lang/AbstractStringBuilder", "getValue", "()[B"⟩, Cond.sameMethod "java/lang/AbstractStringBuilder" "java/lang/AbstractStringBuilder" "getValue" "()[B", Cond.selects RJ4 ⟨"java/lang/AbstractStringBuilder", "getValue", "()[B"⟩ yJ5_getValue_6d5f1, Cond.instanceMethod yJ5_getValue_6d5f1, Cond.initialized RJ5, Cond.code yJ5_getValue_6d5f1 cJ5_getValue_6d5f1 1 (some (.array .byte)), Cond.fieldLink RJ5 15 "java/lang/AbstractStringBuilder" "value" "[B", Cond.methodLink RJ0 549 ⟨"java/lang/AbstractStringBuilder", "length", "()I"⟩, Cond.sameMethod "java/lang/AbstractStringBuilder" "java/lang/AbstractStringBuilder" "length" "()I", Cond.instanceMethod ⟨"java/lang/AbstractStringBuilder", "length", "()I"⟩, Cond.selects RJ4 ⟨"java/lang/AbstractStringBuilder", "length", "()I"⟩ yJ4_length_8abf5, Cond.instanceMethod yJ4_length_8abf5, Cond.initialized RJ4]
def wsJ0_init_81219_r2 : List Cond := [Cond.code yJ4_length_8abf5 cJ4_length_8abf5 1 (some .int), Cond.methodLink RJ4 343 yJ5_length_8abf5, Cond.superclass RJ4 RJ5, Cond.instanceMethod yJ5_length_8abf5, Cond.code yJ5_length_8abf5 cJ5_length_8abf5 1 (some .int), Cond.fieldLink RJ5 79 "java/lang/AbstractStringBuilder" "count" "I", Cond.methodLink RJ0 1047 ⟨"java/lang/AbstractStringBuilder", "isLatin1", "()Z"⟩, Cond.sameMethod "java/lang/AbstractStringBuilder" "java/lang/AbstractStringBuilder" "isLatin1" "()Z", Cond.selects RJ4 ⟨"java/lang/AbstractStringBuilder", "isLatin1", "()Z"⟩ yJ5_isLatin1_aae02, Cond.instanceMethod yJ5_isLatin1_aae02, Cond.code yJ5_isLatin1_aae02 cJ5_isLatin1_aae02 1 (some .boolean), Cond.fieldLink RJ5 18 "java/lang/String" "COMPACT_STRINGS" "Z", Cond.fieldLink RJ5 22 "java/lang/AbstractStringBuilder" "coder" "B", Cond.methodLink RJ0 54 yJ7_copyOfRange_39247, Cond.static yJ7_copyOfRange_39247, Cond.initialized RJ7, Cond.code yJ7_copyOfRange_39247 cJ7_copyOfRange_39247 3 (some (.array .byte)), Cond.methodLink RJ7 310 ⟨"[B", "clone", "()Ljava/lang/Object;"⟩, Cond.sameMethod "[B" "java/lang/Object" "clone" "()Ljava/lang/Object;", Cond.native ⟨"java/lang/Object", "clone", "()Ljava/lang/Object;"⟩, Cond.instanceMethod ⟨"java/lang/Object", "clone", "()Ljava/lang/Object;"⟩, Cond.selects "[B" ⟨"[B", "clone", "()Ljava/lang/Object;"⟩ ⟨"java/lang/Object", "clone", "()Ljava/lang/Object;"⟩, Cond.classLink RJ7 311 "[B", Cond.methodLink RJ7 339 yJ7_copyOfRangeByte_39247]
def wsJ0_init_81219_r3 : List Cond := [Cond.static yJ7_copyOfRangeByte_39247, Cond.code yJ7_copyOfRangeByte_39247 cJ7_copyOfRangeByte_39247 5 (some (.array .byte)), Cond.arrayClass .byte, Cond.methodLink RJ7 304 Lib.Math.min.name, Cond.static Lib.Math.min.name, Cond.initialized "java/lang/Math", Cond.code Lib.Math.min.name Lib.Math.min.code 2 (some .int), Cond.methodLink RJ7 150 arraycopyName, Cond.native arraycopyName, Cond.static arraycopyName, Cond.initialized "java/lang/System", Cond.methodLink RJ7 343 yJ7_checkLength_df160, Cond.static yJ7_checkLength_df160, Cond.code yJ7_checkLength_df160 cJ7_checkLength_df160 2 none, Cond.classLink RJ7 45 RJ4, Cond.instantiable RJ4 4, Cond.methodLink RJ0 1051 yJ2_compress_39247, Cond.static yJ2_compress_39247, Cond.initialized RJ2, Cond.code yJ2_compress_39247 cJ2_compress_39247 6 (some (.array .byte)), Cond.methodLink RJ2 123 yJ2_compress_5af95, Cond.static yJ2_compress_5af95, Cond.code yJ2_compress_5af95 cJ2_compress_5af95 7 (some .int), Cond.methodLink RJ2 173 yJ2_checkBoundsOffCount_d044e]
def wsJ0_init_81219_r4 : List Cond := [Cond.static yJ2_checkBoundsOffCount_d044e, Cond.code yJ2_checkBoundsOffCount_d044e cJ2_checkBoundsOffCount_d044e 3 none, Cond.methodLink RJ2 48 yJ2_length_9d52b, Cond.static yJ2_length_9d52b, Cond.code yJ2_length_9d52b cJ2_length_9d52b 1 (some .int), Cond.methodLink RJ2 419 yJ0_checkBoundsOffCount_cabcc, Cond.static yJ0_checkBoundsOffCount_cabcc, Cond.code yJ0_checkBoundsOffCount_cabcc cJ0_checkBoundsOffCount_cabcc 3 (some .int), Cond.fieldLink RJ0 1053 "jdk/internal/util/Preconditions" "SIOOBE_FORMATTER" "Ljava/util/function/BiFunction;", Cond.methodLink RJ0 1065 yJ3_checkFromIndexSize_8c36e, Cond.static yJ3_checkFromIndexSize_8c36e, Cond.initialized RJ3, Cond.code yJ3_checkFromIndexSize_8c36e cJ3_checkFromIndexSize_8c36e 4 (some .int), Cond.methodLink RJ2 71 yJ2_getChar_3b067, Cond.static yJ2_getChar_3b067, Cond.code yJ2_getChar_3b067 cJ2_getChar_3b067 2 (some .char), Cond.fieldLink RJ2 44 "java/lang/StringUTF16" "$assertionsDisabled" "Z", Cond.fieldLink RJ2 59 "java/lang/StringUTF16" "HI_BYTE_SHIFT" "I", Cond.fieldLink RJ2 63 "java/lang/StringUTF16" "LO_BYTE_SHIFT" "I", Cond.methodLink RJ2 11 yJ2_newBytesLength_0f7a4, Cond.static yJ2_newBytesLength_0f7a4, Cond.code yJ2_newBytesLength_0f7a4 cJ2_newBytesLength_0f7a4 1 (some .int), Cond.constant RJ2 20 (1073741823), Cond.methodLink RJ2 126 yJ7_copyOfRange_39247]
def wsJ0_init_81219_r5 : List Cond := [Cond.methodLink RJ0 47 yJ2_coderFromArrayLen_85cad, Cond.static yJ2_coderFromArrayLen_85cad, Cond.code yJ2_coderFromArrayLen_85cad cJ2_coderFromArrayLen_85cad 2 (some .byte)]
def wsJ0_init_81219 : List Cond := .code yJ0_init_81219 cJ0_init_81219 2 none :: ((wsJ0_init_81219_r1 ++ (wsJ0_init_81219_r2 ++ (wsJ0_init_81219_r3 ++ (wsJ0_init_81219_r4 ++ wsJ0_init_81219_r5)))) ++ wsJ00 ++ wsJ40)
def wsJ4_init_da8c8 : List Cond := .code yJ4_init_da8c8 cJ4_init_da8c8 1 none :: ([.methodLink RJ4 1 yJ5_init_d00df, .instanceMethod yJ5_init_d00df, .initialized RJ5, .code yJ5_init_d00df cJ5_init_d00df 2 none, .methodLink RJ5 3 objectInit, .instanceMethod objectInit, .code objectInit ⟨#[0xb1]⟩ 1 none, .fieldLink RJ5 18 "java/lang/String" "COMPACT_STRINGS" "Z", .arrayClass .byte, .fieldLink RJ5 15 "java/lang/AbstractStringBuilder" "value" "[B", .fieldLink RJ5 22 "java/lang/AbstractStringBuilder" "coder" "B", .methodLink RJ5 26 yJ2_newBytesFor_77867, .static yJ2_newBytesFor_77867, .initialized RJ2, .code yJ2_newBytesFor_77867 cJ2_newBytesFor_77867 1 (some (.array .byte)), .methodLink RJ2 11 yJ2_newBytesLength_0f7a4, .static yJ2_newBytesLength_0f7a4, .code yJ2_newBytesLength_0f7a4 cJ2_newBytesLength_0f7a4 1 (some .int), .constant RJ2 20 (1073741823)] ++ wsJ40)
def wsJ4_append_15ec4_r1 : List Cond := [Cond.methodLink RJ4 29 yJ5_append_cf1ce, Cond.sameMethod "java/lang/AbstractStringBuilder" "java/lang/AbstractStringBuilder" "append" "(Ljava/lang/String;)Ljava/lang/AbstractStringBuilder;", Cond.superclass RJ4 RJ5, Cond.instanceMethod yJ5_append_cf1ce, Cond.initialized RJ5, Cond.code yJ5_append_cf1ce cJ5_append_cf1ce 3 (some (.object "java/lang/AbstractStringBuilder")), Cond.fieldLink RJ5 79 "java/lang/AbstractStringBuilder" "count" "I", Cond.methodLink RJ5 204 ⟨"java/lang/AbstractStringBuilder", "appendNull", "()Ljava/lang/AbstractStringBuilder;"⟩, Cond.sameMethod "java/lang/AbstractStringBuilder" "java/lang/AbstractStringBuilder" "appendNull" "()Ljava/lang/AbstractStringBuilder;", Cond.selects RJ4 ⟨"java/lang/AbstractStringBuilder", "appendNull", "()Ljava/lang/AbstractStringBuilder;"⟩ yJ5_appendNull_278bc, Cond.instanceMethod yJ5_appendNull_278bc, Cond.code yJ5_appendNull_278bc cJ5_appendNull_278bc 3 (some (.object "java/lang/AbstractStringBuilder")), Cond.fieldLink RJ5 15 "java/lang/AbstractStringBuilder" "value" "[B", Cond.methodLink RJ5 100 ⟨"java/lang/AbstractStringBuilder", "ensureCapacityInternal", "(I)V"⟩, Cond.sameMethod "java/lang/AbstractStringBuilder" "java/lang/AbstractStringBuilder" "ensureCapacityInternal" "(I)V", Cond.selects RJ4 ⟨"java/lang/AbstractStringBuilder", "ensureCapacityInternal", "(I)V"⟩ yJ5_ensureCapacityInternal_d00df, Cond.instanceMethod yJ5_ensureCapacityInternal_d00df, Cond.code yJ5_ensureCapacityInternal_d00df cJ5_ensureCapacityInternal_d00df 3 none, Cond.fieldLink RJ5 22 "java/lang/AbstractStringBuilder" "coder" "B", Cond.methodLink RJ5 104 ⟨"java/lang/AbstractStringBuilder", "newCapacity", "(I)I"⟩, Cond.sameMethod "java/lang/AbstractStringBuilder" "java/lang/AbstractStringBuilder" "newCapacity" "(I)I", Cond.selects RJ4 ⟨"java/lang/AbstractStringBuilder", "newCapacity", "(I)I"⟩ yJ5_newCapacity_0f7a4, Cond.instanceMethod yJ5_newCapacity_0f7a4, Cond.code yJ5_newCapacity_0f7a4 cJ5_newCapacity_0f7a4 6 (some .int)]
def wsJ4_append_15ec4_r2 : List Cond := [Cond.constant RJ5 39 (2147483647), Cond.methodLink RJ5 114 yJ8_newLength_cabcc, Cond.static yJ8_newLength_cabcc, Cond.initialized RJ8, Cond.code yJ8_newLength_cabcc cJ8_newLength_cabcc 4 (some .int), Cond.methodLink RJ8 194 Lib.Math.max.name, Cond.static Lib.Math.max.name, Cond.initialized "java/lang/Math", Cond.code Lib.Math.max.name Lib.Math.max.code 2 (some .int), Cond.constant RJ8 200 (2147483639), Cond.methodLink RJ8 201 yJ8_hugeLength_7cf53, Cond.static yJ8_hugeLength_7cf53, Cond.code yJ8_hugeLength_7cf53 cJ8_hugeLength_7cf53 3 (some .int), Cond.methodLink RJ5 108 yJ7_copyOf_9075b, Cond.static yJ7_copyOf_9075b, Cond.initialized RJ7, Cond.code yJ7_copyOf_9075b cJ7_copyOf_9075b 3 (some (.array .byte)), Cond.methodLink RJ7 310 ⟨"[B", "clone", "()Ljava/lang/Object;"⟩, Cond.sameMethod "[B" "java/lang/Object" "clone" "()Ljava/lang/Object;", Cond.native ⟨"java/lang/Object", "clone", "()Ljava/lang/Object;"⟩, Cond.instanceMethod ⟨"java/lang/Object", "clone", "()Ljava/lang/Object;"⟩, Cond.selects "[B" ⟨"[B", "clone", "()Ljava/lang/Object;"⟩ ⟨"java/lang/Object", "clone", "()Ljava/lang/Object;"⟩, Cond.classLink RJ7 311 "[B", Cond.arrayClass .byte]
def wsJ4_append_15ec4_r3 : List Cond := [Cond.methodLink RJ7 304 Lib.Math.min.name, Cond.static Lib.Math.min.name, Cond.code Lib.Math.min.name Lib.Math.min.code 2 (some .int), Cond.methodLink RJ7 150 arraycopyName, Cond.native arraycopyName, Cond.static arraycopyName, Cond.initialized "java/lang/System", Cond.methodLink RJ5 83 ⟨"java/lang/AbstractStringBuilder", "isLatin1", "()Z"⟩, Cond.sameMethod "java/lang/AbstractStringBuilder" "java/lang/AbstractStringBuilder" "isLatin1" "()Z", Cond.selects RJ4 ⟨"java/lang/AbstractStringBuilder", "isLatin1", "()Z"⟩ yJ5_isLatin1_aae02, Cond.instanceMethod yJ5_isLatin1_aae02, Cond.code yJ5_isLatin1_aae02 cJ5_isLatin1_aae02 1 (some .boolean), Cond.fieldLink RJ5 18 "java/lang/String" "COMPACT_STRINGS" "Z", Cond.methodLink RJ5 226 yJ2_putCharsAt_cd4e5, Cond.static yJ2_putCharsAt_cd4e5, Cond.initialized RJ2, Cond.code yJ2_putCharsAt_cd4e5 cJ2_putCharsAt_cd4e5 7 (some .int), Cond.fieldLink RJ2 44 "java/lang/StringUTF16" "$assertionsDisabled" "Z", Cond.methodLink RJ2 96 yJ2_checkBoundsBeginEnd_d044e, Cond.static yJ2_checkBoundsBeginEnd_d044e, Cond.code yJ2_checkBoundsBeginEnd_d044e cJ2_checkBoundsBeginEnd_d044e 3 none, Cond.methodLink RJ2 48 yJ2_length_9d52b, Cond.static yJ2_length_9d52b, Cond.code yJ2_length_9d52b cJ2_length_9d52b 1 (some .int)]
def wsJ4_append_15ec4_r4 : List Cond := [Cond.methodLink RJ2 241 yJ0_checkBoundsBeginEnd_23922, Cond.static yJ0_checkBoundsBeginEnd_23922, Cond.initialized RJ0, Cond.code yJ0_checkBoundsBeginEnd_23922 cJ0_checkBoundsBeginEnd_23922 3 none, Cond.fieldLink RJ0 1053 "jdk/internal/util/Preconditions" "SIOOBE_FORMATTER" "Ljava/util/function/BiFunction;", Cond.methodLink RJ0 1062 yJ3_checkFromToIndex_8c36e, Cond.static yJ3_checkFromToIndex_8c36e, Cond.initialized RJ3, Cond.code yJ3_checkFromToIndex_8c36e cJ3_checkFromToIndex_8c36e 4 (some .int), Cond.methodLink RJ2 111 yJ2_putChar_b72d1, Cond.static yJ2_putChar_b72d1, Cond.code yJ2_putChar_b72d1 cJ2_putChar_b72d1 3 none, Cond.fieldLink RJ2 59 "java/lang/StringUTF16" "HI_BYTE_SHIFT" "I", Cond.fieldLink RJ2 63 "java/lang/StringUTF16" "LO_BYTE_SHIFT" "I", Cond.methodLink RJ5 32 yJ0_length_8abf5, Cond.instanceMethod yJ0_length_8abf5, Cond.selects RJ0 yJ0_length_8abf5 yJ0_length_8abf5, Cond.code yJ0_length_8abf5 cJ0_length_8abf5 1 (some .int), Cond.fieldLink RJ0 9 "java/lang/String" "value" "[B", Cond.methodLink RJ0 335 yJ0_coder_7d493, Cond.instanceMethod yJ0_coder_7d493, Cond.selects RJ0 yJ0_coder_7d493 yJ0_coder_7d493, Cond.code yJ0_coder_7d493 cJ0_coder_7d493 1 (some .byte), Cond.fieldLink RJ0 38 "java/lang/String" "COMPACT_STRINGS" "Z"]
def wsJ4_append_15ec4_r5 : List Cond := [Cond.fieldLink RJ0 15 "java/lang/String" "coder" "B", Cond.methodLink RJ5 208 ⟨"java/lang/AbstractStringBuilder", "putStringAt", "(ILjava/lang/String;)V"⟩, Cond.sameMethod "java/lang/AbstractStringBuilder" "java/lang/AbstractStringBuilder" "putStringAt" "(ILjava/lang/String;)V", Cond.selects RJ4 ⟨"java/lang/AbstractStringBuilder", "putStringAt", "(ILjava/lang/String;)V"⟩ yJ5_putStringAt_47b60, Cond.instanceMethod yJ5_putStringAt_47b60, Cond.code yJ5_putStringAt_47b60 cJ5_putStringAt_47b60 3 none, Cond.methodLink RJ5 397 ⟨"java/lang/AbstractStringBuilder", "inflateIfNeededFor", "(Ljava/lang/String;)V"⟩, Cond.sameMethod "java/lang/AbstractStringBuilder" "java/lang/AbstractStringBuilder" "inflateIfNeededFor" "(Ljava/lang/String;)V", Cond.selects RJ4 ⟨"java/lang/AbstractStringBuilder", "inflateIfNeededFor", "(Ljava/lang/String;)V"⟩ yJ5_inflateIfNeededFor_a7421, Cond.instanceMethod yJ5_inflateIfNeededFor_a7421, Cond.code yJ5_inflateIfNeededFor_a7421 cJ5_inflateIfNeededFor_a7421 2 none, Cond.methodLink RJ5 40 yJ0_coder_7d493, Cond.methodLink RJ5 195 ⟨"java/lang/AbstractStringBuilder", "inflate", "()V"⟩, Cond.sameMethod "java/lang/AbstractStringBuilder" "java/lang/AbstractStringBuilder" "inflate" "()V", Cond.selects RJ4 ⟨"java/lang/AbstractStringBuilder", "inflate", "()V"⟩ yJ5_inflate_da8c8, Cond.instanceMethod yJ5_inflate_da8c8, Cond.code yJ5_inflate_da8c8 cJ5_inflate_da8c8 2 none, Cond.methodLink RJ5 26 yJ2_newBytesFor_77867, Cond.static yJ2_newBytesFor_77867, Cond.code yJ2_newBytesFor_77867 cJ2_newBytesFor_77867 1 (some (.array .byte)), Cond.methodLink RJ2 11 yJ2_newBytesLength_0f7a4, Cond.static yJ2_newBytesLength_0f7a4, Cond.code yJ2_newBytesLength_0f7a4 cJ2_newBytesLength_0f7a4 1 (some .int), Cond.constant RJ2 20 (1073741823)]
def wsJ4_append_15ec4_r6 : List Cond := [Cond.methodLink RJ5 125 yJ1_inflate_0e8fd, Cond.static yJ1_inflate_0e8fd, Cond.initialized RJ1, Cond.code yJ1_inflate_0e8fd cJ1_inflate_0e8fd 5 none, Cond.methodLink RJ1 240 yJ2_inflate_0e8fd, Cond.static yJ2_inflate_0e8fd, Cond.code yJ2_inflate_0e8fd cJ2_inflate_0e8fd 6 none, Cond.methodLink RJ2 173 yJ2_checkBoundsOffCount_d044e, Cond.static yJ2_checkBoundsOffCount_d044e, Cond.code yJ2_checkBoundsOffCount_d044e cJ2_checkBoundsOffCount_d044e 3 none, Cond.methodLink RJ2 419 yJ0_checkBoundsOffCount_cabcc, Cond.static yJ0_checkBoundsOffCount_cabcc, Cond.code yJ0_checkBoundsOffCount_cabcc cJ0_checkBoundsOffCount_cabcc 3 (some .int), Cond.methodLink RJ0 1065 yJ3_checkFromIndexSize_8c36e, Cond.static yJ3_checkFromIndexSize_8c36e, Cond.code yJ3_checkFromIndexSize_8c36e cJ3_checkFromIndexSize_8c36e 4 (some .int), Cond.methodLink RJ5 399 yJ0_getBytes_840e7, Cond.instanceMethod yJ0_getBytes_840e7, Cond.selects RJ0 yJ0_getBytes_840e7 yJ0_getBytes_840e7, Cond.code yJ0_getBytes_840e7 cJ0_getBytes_840e7 4 none, Cond.methodLink RJ0 212 arraycopyName, Cond.methodLink RJ0 106 yJ1_inflate_0e8fd]
def wsJ4_append_15ec4 : List Cond := .code yJ4_append_15ec4 cJ4_append_15ec4 2 (some (.object "java/lang/StringBuilder")) :: ((wsJ4_append_15ec4_r1 ++ (wsJ4_append_15ec4_r2 ++ (wsJ4_append_15ec4_r3 ++ (wsJ4_append_15ec4_r4 ++ (wsJ4_append_15ec4_r5 ++ wsJ4_append_15ec4_r6))))) ++ wsJ40 ++ wsJ00)
def wsJ4_append_bf812_r1 : List Cond := [Cond.methodLink RJ4 53 yJ5_append_c97b9, Cond.sameMethod "java/lang/AbstractStringBuilder" "java/lang/AbstractStringBuilder" "append" "(I)Ljava/lang/AbstractStringBuilder;", Cond.superclass RJ4 RJ5, Cond.instanceMethod yJ5_append_c97b9, Cond.initialized RJ5, Cond.code yJ5_append_c97b9 cJ5_append_c97b9 4 (some (.object "java/lang/AbstractStringBuilder")), Cond.fieldLink RJ5 79 "java/lang/AbstractStringBuilder" "count" "I", Cond.fieldLink RJ5 15 "java/lang/AbstractStringBuilder" "value" "[B", Cond.methodLink RJ5 245 yJ6_stringSize_0f7a4, Cond.static yJ6_stringSize_0f7a4, Cond.initialized RJ6, Cond.code yJ6_stringSize_0f7a4 cJ6_stringSize_0f7a4 4 (some .int), Cond.methodLink RJ5 100 ⟨"java/lang/AbstractStringBuilder", "ensureCapacityInternal", "(I)V"⟩, Cond.sameMethod "java/lang/AbstractStringBuilder" "java/lang/AbstractStringBuilder" "ensureCapacityInternal" "(I)V", Cond.selects RJ4 ⟨"java/lang/AbstractStringBuilder", "ensureCapacityInternal", "(I)V"⟩ yJ5_ensureCapacityInternal_d00df, Cond.instanceMethod yJ5_ensureCapacityInternal_d00df, Cond.code yJ5_ensureCapacityInternal_d00df cJ5_ensureCapacityInternal_d00df 3 none, Cond.fieldLink RJ5 22 "java/lang/AbstractStringBuilder" "coder" "B", Cond.methodLink RJ5 104 ⟨"java/lang/AbstractStringBuilder", "newCapacity", "(I)I"⟩, Cond.sameMethod "java/lang/AbstractStringBuilder" "java/lang/AbstractStringBuilder" "newCapacity" "(I)I", Cond.selects RJ4 ⟨"java/lang/AbstractStringBuilder", "newCapacity", "(I)I"⟩ yJ5_newCapacity_0f7a4, Cond.instanceMethod yJ5_newCapacity_0f7a4, Cond.code yJ5_newCapacity_0f7a4 cJ5_newCapacity_0f7a4 6 (some .int), Cond.constant RJ5 39 (2147483647)]
def wsJ4_append_bf812_r2 : List Cond := [Cond.methodLink RJ5 114 yJ8_newLength_cabcc, Cond.static yJ8_newLength_cabcc, Cond.initialized RJ8, Cond.code yJ8_newLength_cabcc cJ8_newLength_cabcc 4 (some .int), Cond.methodLink RJ8 194 Lib.Math.max.name, Cond.static Lib.Math.max.name, Cond.initialized "java/lang/Math", Cond.code Lib.Math.max.name Lib.Math.max.code 2 (some .int), Cond.constant RJ8 200 (2147483639), Cond.methodLink RJ8 201 yJ8_hugeLength_7cf53, Cond.static yJ8_hugeLength_7cf53, Cond.code yJ8_hugeLength_7cf53 cJ8_hugeLength_7cf53 3 (some .int), Cond.methodLink RJ5 108 yJ7_copyOf_9075b, Cond.static yJ7_copyOf_9075b, Cond.initialized RJ7, Cond.code yJ7_copyOf_9075b cJ7_copyOf_9075b 3 (some (.array .byte)), Cond.methodLink RJ7 310 ⟨"[B", "clone", "()Ljava/lang/Object;"⟩, Cond.sameMethod "[B" "java/lang/Object" "clone" "()Ljava/lang/Object;", Cond.native ⟨"java/lang/Object", "clone", "()Ljava/lang/Object;"⟩, Cond.instanceMethod ⟨"java/lang/Object", "clone", "()Ljava/lang/Object;"⟩, Cond.selects "[B" ⟨"[B", "clone", "()Ljava/lang/Object;"⟩ ⟨"java/lang/Object", "clone", "()Ljava/lang/Object;"⟩, Cond.classLink RJ7 311 "[B", Cond.arrayClass .byte, Cond.methodLink RJ7 304 Lib.Math.min.name]
def wsJ4_append_bf812_r3 : List Cond := [Cond.static Lib.Math.min.name, Cond.code Lib.Math.min.name Lib.Math.min.code 2 (some .int), Cond.methodLink RJ7 150 arraycopyName, Cond.native arraycopyName, Cond.static arraycopyName, Cond.initialized "java/lang/System", Cond.methodLink RJ5 83 ⟨"java/lang/AbstractStringBuilder", "isLatin1", "()Z"⟩, Cond.sameMethod "java/lang/AbstractStringBuilder" "java/lang/AbstractStringBuilder" "isLatin1" "()Z", Cond.selects RJ4 ⟨"java/lang/AbstractStringBuilder", "isLatin1", "()Z"⟩ yJ5_isLatin1_aae02, Cond.instanceMethod yJ5_isLatin1_aae02, Cond.code yJ5_isLatin1_aae02 cJ5_isLatin1_aae02 1 (some .boolean), Cond.fieldLink RJ5 18 "java/lang/String" "COMPACT_STRINGS" "Z", Cond.methodLink RJ5 248 yJ6_getChars_ba4f3, Cond.static yJ6_getChars_ba4f3, Cond.code yJ6_getChars_ba4f3 cJ6_getChars_ba4f3 7 (some .int), Cond.fieldLink RJ6 83 "java/lang/Integer" "DigitOnes" "[B", Cond.fieldLink RJ6 87 "java/lang/Integer" "DigitTens" "[B", Cond.methodLink RJ5 251 yJ2_getChars_46870, Cond.static yJ2_getChars_46870, Cond.initialized RJ2, Cond.code yJ2_getChars_46870 cJ2_getChars_46870 5 (some .int), Cond.fieldLink RJ2 44 "java/lang/StringUTF16" "$assertionsDisabled" "Z", Cond.methodLink RJ2 96 yJ2_checkBoundsBeginEnd_d044e, Cond.static yJ2_checkBoundsBeginEnd_d044e]
def wsJ4_append_bf812_r4 : List Cond := [Cond.code yJ2_checkBoundsBeginEnd_d044e cJ2_checkBoundsBeginEnd_d044e 3 none, Cond.methodLink RJ2 48 yJ2_length_9d52b, Cond.static yJ2_length_9d52b, Cond.code yJ2_length_9d52b cJ2_length_9d52b 1 (some .int), Cond.methodLink RJ2 241 yJ0_checkBoundsBeginEnd_23922, Cond.static yJ0_checkBoundsBeginEnd_23922, Cond.initialized RJ0, Cond.code yJ0_checkBoundsBeginEnd_23922 cJ0_checkBoundsBeginEnd_23922 3 none, Cond.fieldLink RJ0 1053 "jdk/internal/util/Preconditions" "SIOOBE_FORMATTER" "Ljava/util/function/BiFunction;", Cond.methodLink RJ0 1062 yJ3_checkFromToIndex_8c36e, Cond.static yJ3_checkFromToIndex_8c36e, Cond.initialized RJ3, Cond.code yJ3_checkFromToIndex_8c36e cJ3_checkFromToIndex_8c36e 4 (some .int), Cond.methodLink RJ2 393 yJ2_getChars_ba4f3, Cond.static yJ2_getChars_ba4f3, Cond.code yJ2_getChars_ba4f3 cJ2_getChars_ba4f3 7 (some .int), Cond.fieldLink RJ2 403 "java/lang/Integer" "DigitOnes" "[B", Cond.fieldLink RJ2 407 "java/lang/Integer" "DigitTens" "[B", Cond.methodLink RJ2 111 yJ2_putChar_b72d1, Cond.static yJ2_putChar_b72d1, Cond.code yJ2_putChar_b72d1 cJ2_putChar_b72d1 3 none, Cond.fieldLink RJ2 59 "java/lang/StringUTF16" "HI_BYTE_SHIFT" "I", Cond.fieldLink RJ2 63 "java/lang/StringUTF16" "LO_BYTE_SHIFT" "I"]
def wsJ4_append_bf812 : List Cond := .code yJ4_append_bf812 cJ4_append_bf812 2 (some (.object "java/lang/StringBuilder")) :: ((wsJ4_append_bf812_r1 ++ (wsJ4_append_bf812_r2 ++ (wsJ4_append_bf812_r3 ++ wsJ4_append_bf812_r4))) ++ wsJ40)
def wsJ4_toString_0e30d_r1 : List Cond := [Cond.classLink RJ4 18 RJ0, Cond.instantiable RJ0 4, Cond.initialized RJ0, Cond.methodLink RJ4 137 yJ0_init_81219, Cond.instanceMethod yJ0_init_81219, Cond.code yJ0_init_81219 cJ0_init_81219 2 none, Cond.methodLink RJ0 489 yJ0_init_db425, Cond.instanceMethod yJ0_init_db425, Cond.code yJ0_init_db425 cJ0_init_db425 5 none, Cond.methodLink RJ0 1 objectInit, Cond.instanceMethod objectInit, Cond.code objectInit ⟨#[0xb1]⟩ 1 none, Cond.fieldLink RJ0 15 "java/lang/String" "coder" "B", Cond.fieldLink RJ0 9 "java/lang/String" "value" "[B", Cond.fieldLink RJ0 38 "java/lang/String" "COMPACT_STRINGS" "Z", Cond.fieldLink RJ0 1048 "java/lang/AbstractStringBuilder" "maybeLatin1" "Z", Cond.methodLink RJ0 552 ⟨"java/lang/AbstractStringBuilder", "getValue", "()[B"⟩, Cond.sameMethod "java/lang/AbstractStringBuilder" "java/lang/AbstractStringBuilder" "getValue" "()[B", Cond.selects RJ4 ⟨"java/lang/AbstractStringBuilder", "getValue", "()[B"⟩ yJ5_getValue_6d5f1, Cond.instanceMethod yJ5_getValue_6d5f1, Cond.initialized RJ5, Cond.code yJ5_getValue_6d5f1 cJ5_getValue_6d5f1 1 (some (.array .byte)), Cond.fieldLink RJ5 15 "java/lang/AbstractStringBuilder" "value" "[B", Cond.methodLink RJ0 549 ⟨"java/lang/AbstractStringBuilder", "length", "()I"⟩]
def wsJ4_toString_0e30d_r2 : List Cond := [Cond.sameMethod "java/lang/AbstractStringBuilder" "java/lang/AbstractStringBuilder" "length" "()I", Cond.instanceMethod ⟨"java/lang/AbstractStringBuilder", "length", "()I"⟩, Cond.selects RJ4 ⟨"java/lang/AbstractStringBuilder", "length", "()I"⟩ yJ4_length_8abf5, Cond.instanceMethod yJ4_length_8abf5, Cond.initialized RJ4, Cond.code yJ4_length_8abf5 cJ4_length_8abf5 1 (some .int), Cond.methodLink RJ4 343 yJ5_length_8abf5, Cond.superclass RJ4 RJ5, Cond.instanceMethod yJ5_length_8abf5, Cond.code yJ5_length_8abf5 cJ5_length_8abf5 1 (some .int), Cond.fieldLink RJ5 79 "java/lang/AbstractStringBuilder" "count" "I", Cond.methodLink RJ0 1047 ⟨"java/lang/AbstractStringBuilder", "isLatin1", "()Z"⟩, Cond.sameMethod "java/lang/AbstractStringBuilder" "java/lang/AbstractStringBuilder" "isLatin1" "()Z", Cond.selects RJ4 ⟨"java/lang/AbstractStringBuilder", "isLatin1", "()Z"⟩ yJ5_isLatin1_aae02, Cond.instanceMethod yJ5_isLatin1_aae02, Cond.code yJ5_isLatin1_aae02 cJ5_isLatin1_aae02 1 (some .boolean), Cond.fieldLink RJ5 18 "java/lang/String" "COMPACT_STRINGS" "Z", Cond.fieldLink RJ5 22 "java/lang/AbstractStringBuilder" "coder" "B", Cond.methodLink RJ0 54 yJ7_copyOfRange_39247, Cond.static yJ7_copyOfRange_39247, Cond.initialized RJ7, Cond.code yJ7_copyOfRange_39247 cJ7_copyOfRange_39247 3 (some (.array .byte)), Cond.methodLink RJ7 310 ⟨"[B", "clone", "()Ljava/lang/Object;"⟩, Cond.sameMethod "[B" "java/lang/Object" "clone" "()Ljava/lang/Object;"]
def wsJ4_toString_0e30d_r3 : List Cond := [Cond.native ⟨"java/lang/Object", "clone", "()Ljava/lang/Object;"⟩, Cond.instanceMethod ⟨"java/lang/Object", "clone", "()Ljava/lang/Object;"⟩, Cond.selects "[B" ⟨"[B", "clone", "()Ljava/lang/Object;"⟩ ⟨"java/lang/Object", "clone", "()Ljava/lang/Object;"⟩, Cond.classLink RJ7 311 "[B", Cond.methodLink RJ7 339 yJ7_copyOfRangeByte_39247, Cond.static yJ7_copyOfRangeByte_39247, Cond.code yJ7_copyOfRangeByte_39247 cJ7_copyOfRangeByte_39247 5 (some (.array .byte)), Cond.arrayClass .byte, Cond.methodLink RJ7 304 Lib.Math.min.name, Cond.static Lib.Math.min.name, Cond.initialized "java/lang/Math", Cond.code Lib.Math.min.name Lib.Math.min.code 2 (some .int), Cond.methodLink RJ7 150 arraycopyName, Cond.native arraycopyName, Cond.static arraycopyName, Cond.initialized "java/lang/System", Cond.methodLink RJ7 343 yJ7_checkLength_df160, Cond.static yJ7_checkLength_df160, Cond.code yJ7_checkLength_df160 cJ7_checkLength_df160 2 none, Cond.classLink RJ7 45 RJ4, Cond.instantiable RJ4 4, Cond.methodLink RJ0 1051 yJ2_compress_39247, Cond.static yJ2_compress_39247, Cond.initialized RJ2]
def wsJ4_toString_0e30d_r4 : List Cond := [Cond.code yJ2_compress_39247 cJ2_compress_39247 6 (some (.array .byte)), Cond.methodLink RJ2 123 yJ2_compress_5af95, Cond.static yJ2_compress_5af95, Cond.code yJ2_compress_5af95 cJ2_compress_5af95 7 (some .int), Cond.methodLink RJ2 173 yJ2_checkBoundsOffCount_d044e, Cond.static yJ2_checkBoundsOffCount_d044e, Cond.code yJ2_checkBoundsOffCount_d044e cJ2_checkBoundsOffCount_d044e 3 none, Cond.methodLink RJ2 48 yJ2_length_9d52b, Cond.static yJ2_length_9d52b, Cond.code yJ2_length_9d52b cJ2_length_9d52b 1 (some .int), Cond.methodLink RJ2 419 yJ0_checkBoundsOffCount_cabcc, Cond.static yJ0_checkBoundsOffCount_cabcc, Cond.code yJ0_checkBoundsOffCount_cabcc cJ0_checkBoundsOffCount_cabcc 3 (some .int), Cond.fieldLink RJ0 1053 "jdk/internal/util/Preconditions" "SIOOBE_FORMATTER" "Ljava/util/function/BiFunction;", Cond.methodLink RJ0 1065 yJ3_checkFromIndexSize_8c36e, Cond.static yJ3_checkFromIndexSize_8c36e, Cond.initialized RJ3, Cond.code yJ3_checkFromIndexSize_8c36e cJ3_checkFromIndexSize_8c36e 4 (some .int), Cond.methodLink RJ2 71 yJ2_getChar_3b067, Cond.static yJ2_getChar_3b067, Cond.code yJ2_getChar_3b067 cJ2_getChar_3b067 2 (some .char), Cond.fieldLink RJ2 44 "java/lang/StringUTF16" "$assertionsDisabled" "Z", Cond.fieldLink RJ2 59 "java/lang/StringUTF16" "HI_BYTE_SHIFT" "I", Cond.fieldLink RJ2 63 "java/lang/StringUTF16" "LO_BYTE_SHIFT" "I"]
def wsJ4_toString_0e30d_r5 : List Cond := [Cond.methodLink RJ2 11 yJ2_newBytesLength_0f7a4, Cond.static yJ2_newBytesLength_0f7a4, Cond.code yJ2_newBytesLength_0f7a4 cJ2_newBytesLength_0f7a4 1 (some .int), Cond.constant RJ2 20 (1073741823), Cond.methodLink RJ2 126 yJ7_copyOfRange_39247, Cond.methodLink RJ0 47 yJ2_coderFromArrayLen_85cad, Cond.static yJ2_coderFromArrayLen_85cad, Cond.code yJ2_coderFromArrayLen_85cad cJ2_coderFromArrayLen_85cad 2 (some .byte)]
def wsJ4_toString_0e30d : List Cond := .code yJ4_toString_0e30d cJ4_toString_0e30d 1 (some (.object "java/lang/String")) :: ((wsJ4_toString_0e30d_r1 ++ (wsJ4_toString_0e30d_r2 ++ (wsJ4_toString_0e30d_r3 ++ (wsJ4_toString_0e30d_r4 ++ wsJ4_toString_0e30d_r5)))) ++ wsJ00 ++ wsJ40)
def wsL_element : List Cond := .codeWith yL_element cL_element 5 (some .int) [(0, 9, 12, 13), (0, 9, 16, 15)] :: ([.classLink RL 13 "java/lang/IllegalArgumentException", .classLink RL 15 "java/lang/IllegalStateException", .methodLink RL 7 yX11_element, .instanceMethod yX11_element, .selects RX11 yX11_element yX11_element, .initialized RX11, .code yX11_element cX11_element 4 (some .long), .classLink RX11 291 "java/lang/IllegalArgumentException", .initialized "java/lang/IllegalArgumentException", .classLink RX11 302 "java/lang/IllegalStateException", .initialized "java/lang/IllegalStateException", .fieldLink RX11 307 "NightBook$Row" "cells" "[S", .methodLink RX11 279 yX11_isShelf, .static yX11_isShelf, .code yX11_isShelf cX11_isShelf 1 (some .boolean), .methodLink RX11 298 yX11_rowOn, .instanceMethod yX11_rowOn, .selects RX11 yX11_rowOn yX11_rowOn, .code yX11_rowOn cX11_rowOn 4 (some (.object "NightBook$Row")), .fieldLink RX11 51 "NightBook" "shelves" "[LNightBook$Held;", .classLink RX11 286 "NightBook$Row"] ++ wsX40 ++ wsX110 ++ (vx_atS RX11 295 "java/lang/IllegalArgumentException" ["java/lang/RuntimeException", "java/lang/Exception"]).filter goodWord ++ (vx_atS RX11 306 "java/lang/IllegalStateException" ["java/lang/RuntimeException", "java/lang/Exception"]).filter goodWord)
theorem inX2 : ∀ w ∈ wsX20, w ∈ lw_tbl := by decide +kernel
theorem inJ5 : ∀ w ∈ wsJ50, w ∈ lw_tbl := by decide +kernel
theorem inJx8e188 : ∀ w ∈ wsJx8e1880, w ∈ lw_tbl := by decide +kernel
theorem inJ6 : ∀ w ∈ wsJ60, w ∈ lw_tbl := by decide +kernel
theorem inJ9 : ∀ w ∈ wsJ90, w ∈ lw_tbl := by decide +kernel
theorem inJ0 : ∀ w ∈ wsJ00, w ∈ lw_tbl := by decide +kernel
theorem inJ1 : ∀ w ∈ wsJ10, w ∈ lw_tbl := by decide +kernel
theorem inJ2 : ∀ w ∈ wsJ20, w ∈ lw_tbl := by decide +kernel
theorem inJ10 : ∀ w ∈ wsJ100, w ∈ lw_tbl := by decide +kernel
theorem inJ7 : ∀ w ∈ wsJ70, w ∈ lw_tbl := by decide +kernel
theorem inJ8 : ∀ w ∈ wsJ80, w ∈ lw_tbl := by decide +kernel
theorem inJ3 : ∀ w ∈ wsJ30, w ∈ lw_tbl := by decide +kernel
set_option maxRecDepth 20000 in
theorem ggX0_init_X7_init : GoodIn wsX0_init wsX7_init := goodIn_r _ [4, 5, 6, 7, 8, 9, 10, 11, 12, 13, 14, 15, 16, 17, 18, 19, 20, 21, 22, 23, 24, 25, 26, 27, 28, 29, 30, 31, 32, 33, 34, 35, 36, 37, 38, 39, 40, 41, 42, 43, 44, 45, 46, 47, 48, 49, 50, 51, 52, 53, 54] (by decide +kernel) (by decide +kernel)
set_option maxRecDepth 20000 in
theorem gX0_init_X7_init : GoodIn wsX0_init (wsX7_init) := ggX0_init_X7_init
theorem dX0_init_0 : decode cX0_init 0 = .ok (.aload_n 0, 1) := by decide +kernel
theorem dX0_init_1 : decode cX0_init 1 = .ok (.iload_n 1, 1) := by decide +kernel
theorem dX0_init_2 : decode cX0_init 2 = .ok (.iload_n 2, 1) := by decide +kernel
theorem dX0_init_3 : decode cX0_init 3 = .ok (.invokespecial 3, 3) := by decide +kernel
theorem dX0_init_6 : decode cX0_init 6 = .ok (.return_, 1) := by decide +kernel
theorem dX0_kind_0 : decode cX0_kind 0 = .ok (.iconst 3, 1) := by decide +kernel
theorem dX0_kind_1 : decode cX0_kind 1 = .ok (.ireturn, 1) := by decide +kernel
theorem dX0_verdict_0 : decode cX0_verdict 0 = .ok (.iload_n 2, 1) := by decide +kernel
theorem dX0_verdict_1 : decode cX0_verdict 1 = .ok (.aload_n 0, 1) := by decide +kernel
theorem dX0_verdict_2 : decode cX0_verdict 2 = .ok (.getfield 9, 3) := by decide +kernel
theorem dX0_verdict_5 : decode cX0_verdict 5 = .ok (.if_icmp .lt 10, 3) := by decide +kernel
theorem dX0_verdict_8 : decode cX0_verdict 8 = .ok (.aload_n 1, 1) := by decide +kernel
theorem dX0_verdict_9 : decode cX0_verdict 9 = .ok (.getfield 15, 3) := by decide +kernel
theorem dX0_verdict_12 : decode cX0_verdict 12 = .ok (.ifCond .le 5, 3) := by decide +kernel
theorem dX0_verdict_15 : decode cX0_verdict 15 = .ok (.iconst 2, 1) := by decide +kernel
theorem dX0_verdict_16 : decode cX0_verdict 16 = .ok (.ireturn, 1) := by decide +kernel
theorem dX0_verdict_17 : decode cX0_verdict 17 = .ok (.aload_n 1, 1) := by decide +kernel
theorem dX0_verdict_18 : decode cX0_verdict 18 = .ok (.getfield 20, 3) := by decide +kernel
theorem dX0_verdict_21 : decode cX0_verdict 21 = .ok (.ifCond .ne 7, 3) := by decide +kernel
theorem dX0_verdict_24 : decode cX0_verdict 24 = .ok (.iconst 0, 1) := by decide +kernel
theorem dX0_verdict_25 : decode cX0_verdict 25 = .ok (.goto 4, 3) := by decide +kernel
theorem dX0_verdict_28 : decode cX0_verdict 28 = .ok (.iconst 1, 1) := by decide +kernel
theorem dX0_verdict_29 : decode cX0_verdict 29 = .ok (.ireturn, 1) := by decide +kernel
set_option maxRecDepth 20000 in
theorem ggX0_heft_X7_heft : GoodIn wsX0_heft wsX7_heft := goodIn_r _ [6, 7, 8, 9, 10, 11, 12, 13, 14, 15, 16, 17, 18, 19, 20, 21, 22, 23, 24, 25, 26, 27, 5, 28, 29, 30, 31, 32, 33, 34, 35, 36, 37, 38, 39, 40, 41, 42, 43, 44, 45, 46, 47, 48, 49, 50, 51, 52, 53, 54, 55] (by decide +kernel) (by decide +kernel)
set_option maxRecDepth 20000 in
theorem gX0_heft_X7_heft_s23 : GoodIn wsX0_heft (va_wsSU RX0 23 yX7_heft wsX7_heft) := goodIn_app (goodIn_of _ (by decide +kernel)) ggX0_heft_X7_heft
theorem dX0_heft_0 : decode cX0_heft 0 = .ok (.iconst 2, 1) := by decide +kernel
theorem dX0_heft_1 : decode cX0_heft 1 = .ok (.aload_n 0, 1) := by decide +kernel
theorem dX0_heft_2 : decode cX0_heft 2 = .ok (.invokespecial 23, 3) := by decide +kernel
theorem dX0_heft_5 : decode cX0_heft 5 = .ok (.imul, 1) := by decide +kernel
theorem dX0_heft_6 : decode cX0_heft 6 = .ok (.ireturn, 1) := by decide +kernel
set_option maxRecDepth 20000 in
theorem ggX1_init_X5_init : GoodIn wsX1_init wsX5_init := goodIn_r _ [4, 5, 6, 7, 8, 9, 10, 11, 12, 13, 14, 15, 16, 17, 18, 19, 20, 21, 22, 23, 24, 25, 26, 27, 28, 29, 30, 31, 32, 33, 34, 35, 36, 37, 38, 39] (by decide +kernel) (by decide +kernel)
set_option maxRecDepth 20000 in
theorem gX1_init_X5_init : GoodIn wsX1_init (wsX5_init) := ggX1_init_X5_init
theorem dX1_init_0 : decode cX1_init 0 = .ok (.aload_n 0, 1) := by decide +kernel
theorem dX1_init_1 : decode cX1_init 1 = .ok (.iload_n 1, 1) := by decide +kernel
theorem dX1_init_2 : decode cX1_init 2 = .ok (.iload_n 2, 1) := by decide +kernel
theorem dX1_init_3 : decode cX1_init 3 = .ok (.iload_n 3, 1) := by decide +kernel
theorem dX1_init_4 : decode cX1_init 4 = .ok (.iload_n 3, 1) := by decide +kernel
theorem dX1_init_5 : decode cX1_init 5 = .ok (.iconst 1, 1) := by decide +kernel
theorem dX1_init_6 : decode cX1_init 6 = .ok (.iload 4, 2) := by decide +kernel
theorem dX1_init_8 : decode cX1_init 8 = .ok (.ishl, 1) := by decide +kernel
theorem dX1_init_9 : decode cX1_init 9 = .ok (.invokespecial 3, 3) := by decide +kernel
theorem dX1_init_12 : decode cX1_init 12 = .ok (.return_, 1) := by decide +kernel
theorem dX1_kind_0 : decode cX1_kind 0 = .ok (.iconst 1, 1) := by decide +kernel
theorem dX1_kind_1 : decode cX1_kind 1 = .ok (.ireturn, 1) := by decide +kernel
set_option maxRecDepth 20000 in
theorem ggX1_heft_X5_heft : GoodIn wsX1_heft wsX5_heft := goodIn_r _ [6, 7, 8, 9, 10, 11, 12, 13, 14, 15, 16, 17, 18, 19, 20, 21, 22, 23, 24, 25, 26, 27, 28, 29, 30, 31, 32] (by decide +kernel) (by decide +kernel)
set_option maxRecDepth 20000 in
theorem gX1_heft_X5_heft_s9 : GoodIn wsX1_heft (va_wsSU RX1 9 yX5_heft wsX5_heft) := goodIn_app (goodIn_of _ (by decide +kernel)) ggX1_heft_X5_heft
theorem dX1_heft_0 : decode cX1_heft 0 = .ok (.aload_n 0, 1) := by decide +kernel
theorem dX1_heft_1 : decode cX1_heft 1 = .ok (.invokespecial 9, 3) := by decide +kernel
theorem dX1_heft_4 : decode cX1_heft 4 = .ok (.bipush 50, 2) := by decide +kernel
theorem dX1_heft_6 : decode cX1_heft 6 = .ok (.iadd, 1) := by decide +kernel
theorem dX1_heft_7 : decode cX1_heft 7 = .ok (.ireturn, 1) := by decide +kernel
theorem dX2_init_0 : decode cX2_init 0 = .ok (.aload_n 0, 1) := by decide +kernel
theorem dX2_init_1 : decode cX2_init 1 = .ok (.invokespecial 3, 3) := by decide +kernel
theorem dX2_init_4 : decode cX2_init 4 = .ok (.return_, 1) := by decide +kernel
theorem dX2_fail_0 : decode cX2_fail 0 = .ok (.return_, 1) := by decide +kernel
theorem dX2_failureNumber_0 : decode cX2_failureNumber 0 = .ok (.bipush (-15), 2) := by decide +kernel
theorem dX2_failureNumber_2 : decode cX2_failureNumber 2 = .ok (.ireturn, 1) := by decide +kernel
set_option maxRecDepth 20000 in
theorem ggX3_init_X9_init : GoodIn wsX3_init wsX9_init := goodIn_r _ [4, 5, 6, 7, 8, 9, 10, 11, 12, 13, 14, 15, 16, 17, 18, 19, 20, 21, 22, 23, 24, 25, 26, 27, 28, 29, 30, 31, 32, 33, 34, 35, 36, 37, 38, 39, 40, 41, 42, 43, 44, 45, 46, 47, 48, 49, 50] (by decide +kernel) (by decide +kernel)
set_option maxRecDepth 20000 in
theorem gX3_init_X9_init : GoodIn wsX3_init (wsX9_init) := ggX3_init_X9_init
theorem dX3_init_0 : decode cX3_init 0 = .ok (.aload_n 0, 1) := by decide +kernel
theorem dX3_init_1 : decode cX3_init 1 = .ok (.iload_n 1, 1) := by decide +kernel
theorem dX3_init_2 : decode cX3_init 2 = .ok (.iload_n 2, 1) := by decide +kernel
theorem dX3_init_3 : decode cX3_init 3 = .ok (.iload_n 3, 1) := by decide +kernel
theorem dX3_init_4 : decode cX3_init 4 = .ok (.invokespecial 3, 3) := by decide +kernel
theorem dX3_init_7 : decode cX3_init 7 = .ok (.return_, 1) := by decide +kernel
theorem dX3_kind_0 : decode cX3_kind 0 = .ok (.iconst 2, 1) := by decide +kernel
theorem dX3_kind_1 : decode cX3_kind 1 = .ok (.ireturn, 1) := by decide +kernel
theorem dX3_bindsTrips_0 : decode cX3_bindsTrips 0 = .ok (.iconst 0, 1) := by decide +kernel
theorem dX3_bindsTrips_1 : decode cX3_bindsTrips 1 = .ok (.ireturn, 1) := by decide +kernel
theorem dX3_verdict_0 : decode cX3_verdict 0 = .ok (.aload_n 1, 1) := by decide +kernel
theorem dX3_verdict_1 : decode cX3_verdict 1 = .ok (.getfield 9, 3) := by decide +kernel
theorem dX3_verdict_4 : decode cX3_verdict 4 = .ok (.aload_n 0, 1) := by decide +kernel
theorem dX3_verdict_5 : decode cX3_verdict 5 = .ok (.getfield 15, 3) := by decide +kernel
theorem dX3_verdict_8 : decode cX3_verdict 8 = .ok (.if_icmp .lt 5, 3) := by decide +kernel
theorem dX3_verdict_11 : decode cX3_verdict 11 = .ok (.iconst 2, 1) := by decide +kernel
theorem dX3_verdict_12 : decode cX3_verdict 12 = .ok (.ireturn, 1) := by decide +kernel
theorem dX3_verdict_13 : decode cX3_verdict 13 = .ok (.aload_n 1, 1) := by decide +kernel
theorem dX3_verdict_14 : decode cX3_verdict 14 = .ok (.getfield 20, 3) := by decide +kernel
theorem dX3_verdict_17 : decode cX3_verdict 17 = .ok (.aload_n 0, 1) := by decide +kernel
theorem dX3_verdict_18 : decode cX3_verdict 18 = .ok (.getfield 15, 3) := by decide +kernel
theorem dX3_verdict_21 : decode cX3_verdict 21 = .ok (.if_icmp .ge 7, 3) := by decide +kernel
theorem dX3_verdict_24 : decode cX3_verdict 24 = .ok (.iconst 0, 1) := by decide +kernel
theorem dX3_verdict_25 : decode cX3_verdict 25 = .ok (.goto 4, 3) := by decide +kernel
theorem dX3_verdict_28 : decode cX3_verdict 28 = .ok (.iconst 1, 1) := by decide +kernel
theorem dX3_verdict_29 : decode cX3_verdict 29 = .ok (.ireturn, 1) := by decide +kernel
set_option maxRecDepth 20000 in
theorem ggX3_heft_X9_heft : GoodIn wsX3_heft wsX9_heft := goodIn_r _ [8, 9, 10, 11, 12, 13, 14, 15, 16, 17, 18, 19, 20, 21, 22, 23, 24, 25, 26, 27, 28, 7, 29, 30, 31, 32, 33, 34, 35, 36, 37, 38, 39, 40, 41, 42, 43, 44, 45, 46, 47, 48, 49, 50, 51, 52] (by decide +kernel) (by decide +kernel)
set_option maxRecDepth 20000 in
theorem gX3_heft_X9_heft_s23 : GoodIn wsX3_heft (va_wsSU RX3 23 yX9_heft wsX9_heft) := goodIn_app (goodIn_of _ (by decide +kernel)) ggX3_heft_X9_heft
theorem dX3_heft_0 : decode cX3_heft 0 = .ok (.aload_n 0, 1) := by decide +kernel
theorem dX3_heft_1 : decode cX3_heft 1 = .ok (.invokespecial 23, 3) := by decide +kernel
theorem dX3_heft_4 : decode cX3_heft 4 = .ok (.aload_n 0, 1) := by decide +kernel
theorem dX3_heft_5 : decode cX3_heft 5 = .ok (.getfield 27, 3) := by decide +kernel
theorem dX3_heft_8 : decode cX3_heft 8 = .ok (.iadd, 1) := by decide +kernel
theorem dX3_heft_9 : decode cX3_heft 9 = .ok (.ireturn, 1) := by decide +kernel
theorem dX3_fail_0 : decode cX3_fail 0 = .ok (.return_, 1) := by decide +kernel
set_option maxRecDepth 20000 in
theorem ggX4_init_X2_init : GoodIn wsX4_init wsX2_init := goodIn_r _ [10, 11, 12, 13] (by decide +kernel) (by decide +kernel)
set_option maxRecDepth 20000 in
theorem gX4_init_X2_init_n3 : GoodIn wsX4_init (wsX2_init) := ggX4_init_X2_init
theorem dX4_init_0 : decode cX4_init 0 = .ok (.aload_n 0, 1) := by decide +kernel
theorem dX4_init_1 : decode cX4_init 1 = .ok (.invokespecial 3, 3) := by decide +kernel
theorem dX4_init_4 : decode cX4_init 4 = .ok (.aload_n 0, 1) := by decide +kernel
theorem dX4_init_5 : decode cX4_init 5 = .ok (.iload_n 1, 1) := by decide +kernel
theorem dX4_init_6 : decode cX4_init 6 = .ok (.putfield 9, 3) := by decide +kernel
theorem dX4_init_9 : decode cX4_init 9 = .ok (.aload_n 0, 1) := by decide +kernel
theorem dX4_init_10 : decode cX4_init 10 = .ok (.iload_n 2, 1) := by decide +kernel
theorem dX4_init_11 : decode cX4_init 11 = .ok (.iconst 0, 1) := by decide +kernel
theorem dX4_init_12 : decode cX4_init 12 = .ok (.invokestatic 15, 3) := by decide +kernel
theorem dX4_init_15 : decode cX4_init 15 = .ok (.newarray .short, 2) := by decide +kernel
theorem dX4_init_17 : decode cX4_init 17 = .ok (.putfield 21, 3) := by decide +kernel
theorem dX4_init_20 : decode cX4_init 20 = .ok (.return_, 1) := by decide +kernel
theorem dX4_heft_0 : decode cX4_heft 0 = .ok (.bipush (-12), 2) := by decide +kernel
theorem dX4_heft_2 : decode cX4_heft 2 = .ok (.ireturn, 1) := by decide +kernel
theorem dX4_hasPlaces_0 : decode cX4_hasPlaces 0 = .ok (.iload_n 1, 1) := by decide +kernel
theorem dX4_hasPlaces_1 : decode cX4_hasPlaces 1 = .ok (.ifCond .lt 22, 3) := by decide +kernel
theorem dX4_hasPlaces_4 : decode cX4_hasPlaces 4 = .ok (.iload_n 2, 1) := by decide +kernel
theorem dX4_hasPlaces_5 : decode cX4_hasPlaces 5 = .ok (.ifCond .lt 18, 3) := by decide +kernel
theorem dX4_hasPlaces_8 : decode cX4_hasPlaces 8 = .ok (.iload_n 1, 1) := by decide +kernel
theorem dX4_hasPlaces_9 : decode cX4_hasPlaces 9 = .ok (.aload_n 0, 1) := by decide +kernel
theorem dX4_hasPlaces_10 : decode cX4_hasPlaces 10 = .ok (.getfield 21, 3) := by decide +kernel
theorem dX4_hasPlaces_13 : decode cX4_hasPlaces 13 = .ok (.arraylength, 1) := by decide +kernel
theorem dX4_hasPlaces_14 : decode cX4_hasPlaces 14 = .ok (.iload_n 2, 1) := by decide +kernel
theorem dX4_hasPlaces_15 : decode cX4_hasPlaces 15 = .ok (.isub, 1) := by decide +kernel
theorem dX4_hasPlaces_16 : decode cX4_hasPlaces 16 = .ok (.if_icmp .gt 7, 3) := by decide +kernel
theorem dX4_hasPlaces_19 : decode cX4_hasPlaces 19 = .ok (.iconst 1, 1) := by decide +kernel
theorem dX4_hasPlaces_20 : decode cX4_hasPlaces 20 = .ok (.goto 4, 3) := by decide +kernel
theorem dX4_hasPlaces_23 : decode cX4_hasPlaces 23 = .ok (.iconst 0, 1) := by decide +kernel
theorem dX4_hasPlaces_24 : decode cX4_hasPlaces 24 = .ok (.ireturn, 1) := by decide +kernel
set_option maxRecDepth 20000 in
theorem ggX5_init_X2_init : GoodIn wsX5_init wsX2_init := goodIn_r _ [8, 9, 10, 11] (by decide +kernel) (by decide +kernel)
set_option maxRecDepth 20000 in
theorem gX5_init_X2_init_n3 : GoodIn wsX5_init (wsX2_init) := ggX5_init_X2_init
theorem dX5_init_0 : decode cX5_init 0 = .ok (.aload_n 0, 1) := by decide +kernel
theorem dX5_init_1 : decode cX5_init 1 = .ok (.invokespecial 3, 3) := by decide +kernel
theorem dX5_init_4 : decode cX5_init 4 = .ok (.aload_n 0, 1) := by decide +kernel
theorem dX5_init_5 : decode cX5_init 5 = .ok (.iload_n 1, 1) := by decide +kernel
theorem dX5_init_6 : decode cX5_init 6 = .ok (.putfield 9, 3) := by decide +kernel
theorem dX5_init_9 : decode cX5_init 9 = .ok (.aload_n 0, 1) := by decide +kernel
theorem dX5_init_10 : decode cX5_init 10 = .ok (.iload_n 2, 1) := by decide +kernel
theorem dX5_init_11 : decode cX5_init 11 = .ok (.putfield 15, 3) := by decide +kernel
theorem dX5_init_14 : decode cX5_init 14 = .ok (.aload_n 0, 1) := by decide +kernel
theorem dX5_init_15 : decode cX5_init 15 = .ok (.iload_n 3, 1) := by decide +kernel
theorem dX5_init_16 : decode cX5_init 16 = .ok (.putfield 18, 3) := by decide +kernel
theorem dX5_init_19 : decode cX5_init 19 = .ok (.aload_n 0, 1) := by decide +kernel
theorem dX5_init_20 : decode cX5_init 20 = .ok (.iload 4, 2) := by decide +kernel
theorem dX5_init_22 : decode cX5_init 22 = .ok (.putfield 21, 3) := by decide +kernel
theorem dX5_init_25 : decode cX5_init 25 = .ok (.aload_n 0, 1) := by decide +kernel
theorem dX5_init_26 : decode cX5_init 26 = .ok (.iload 5, 2) := by decide +kernel
theorem dX5_init_28 : decode cX5_init 28 = .ok (.putfield 24, 3) := by decide +kernel
theorem dX5_init_31 : decode cX5_init 31 = .ok (.return_, 1) := by decide +kernel
theorem dX5_kind_0 : decode cX5_kind 0 = .ok (.iconst 0, 1) := by decide +kernel
theorem dX5_kind_1 : decode cX5_kind 1 = .ok (.ireturn, 1) := by decide +kernel
theorem dX5_givesWay_0 : decode cX5_givesWay 0 = .ok (.iconst 0, 1) := by decide +kernel
theorem dX5_givesWay_1 : decode cX5_givesWay 1 = .ok (.ireturn, 1) := by decide +kernel
theorem dX5_heft_0 : decode cX5_heft 0 = .ok (.iconst 1, 1) := by decide +kernel
theorem dX5_heft_1 : decode cX5_heft 1 = .ok (.aload_n 0, 1) := by decide +kernel
theorem dX5_heft_2 : decode cX5_heft 2 = .ok (.getfield 21, 3) := by decide +kernel
theorem dX5_heft_5 : decode cX5_heft 5 = .ok (.aload_n 0, 1) := by decide +kernel
theorem dX5_heft_6 : decode cX5_heft 6 = .ok (.getfield 18, 3) := by decide +kernel
theorem dX5_heft_9 : decode cX5_heft 9 = .ok (.isub, 1) := by decide +kernel
theorem dX5_heft_10 : decode cX5_heft 10 = .ok (.iconst 1, 1) := by decide +kernel
theorem dX5_heft_11 : decode cX5_heft 11 = .ok (.iadd, 1) := by decide +kernel
theorem dX5_heft_12 : decode cX5_heft 12 = .ok (.iadd, 1) := by decide +kernel
theorem dX5_heft_13 : decode cX5_heft 13 = .ok (.ireturn, 1) := by decide +kernel
theorem dX5_fail_0 : decode cX5_fail 0 = .ok (.new 27, 3) := by decide +kernel
theorem dX5_fail_3 : decode cX5_fail 3 = .ok (.dup, 1) := by decide +kernel
theorem dX5_fail_4 : decode cX5_fail 4 = .ok (.ldc 29, 2) := by decide +kernel
theorem dX5_fail_6 : decode cX5_fail 6 = .ok (.invokespecial 31, 3) := by decide +kernel
theorem dX5_fail_9 : decode cX5_fail 9 = .ok (.athrow, 1) := by decide +kernel
theorem dX5_failureNumber_0 : decode cX5_failureNumber 0 = .ok (.bipush 100, 2) := by decide +kernel
theorem dX5_failureNumber_2 : decode cX5_failureNumber 2 = .ok (.aload_n 0, 1) := by decide +kernel
theorem dX5_failureNumber_3 : decode cX5_failureNumber 3 = .ok (.getfield 9, 3) := by decide +kernel
theorem dX5_failureNumber_6 : decode cX5_failureNumber 6 = .ok (.iadd, 1) := by decide +kernel
theorem dX5_failureNumber_7 : decode cX5_failureNumber 7 = .ok (.ireturn, 1) := by decide +kernel
set_option maxRecDepth 20000 in
theorem ggX6_init_X5_init : GoodIn wsX6_init wsX5_init := goodIn_r _ [4, 5, 6, 7, 8, 9, 10, 11, 12, 13, 14, 15, 16, 17, 18, 19, 20, 21, 22, 23, 24, 25, 26, 27, 28, 29, 30, 31, 32, 33, 34, 35, 36, 37, 38, 39] (by decide +kernel) (by decide +kernel)
set_option maxRecDepth 20000 in
theorem gX6_init_X5_init : GoodIn wsX6_init (wsX5_init) := ggX6_init_X5_init
theorem dX6_init_0 : decode cX6_init 0 = .ok (.aload_n 0, 1) := by decide +kernel
theorem dX6_init_1 : decode cX6_init 1 = .ok (.iload_n 1, 1) := by decide +kernel
theorem dX6_init_2 : decode cX6_init 2 = .ok (.iload_n 2, 1) := by decide +kernel
theorem dX6_init_3 : decode cX6_init 3 = .ok (.iload_n 3, 1) := by decide +kernel
theorem dX6_init_4 : decode cX6_init 4 = .ok (.iload 4, 2) := by decide +kernel
theorem dX6_init_6 : decode cX6_init 6 = .ok (.sipush 255, 3) := by decide +kernel
theorem dX6_init_9 : decode cX6_init 9 = .ok (.iconst 1, 1) := by decide +kernel
theorem dX6_init_10 : decode cX6_init 10 = .ok (.iload 5, 2) := by decide +kernel
theorem dX6_init_12 : decode cX6_init 12 = .ok (.ishl, 1) := by decide +kernel
theorem dX6_init_13 : decode cX6_init 13 = .ok (.iconst (-1), 1) := by decide +kernel
theorem dX6_init_14 : decode cX6_init 14 = .ok (.ixor, 1) := by decide +kernel
theorem dX6_init_15 : decode cX6_init 15 = .ok (.iand, 1) := by decide +kernel
theorem dX6_init_16 : decode cX6_init 16 = .ok (.invokespecial 3, 3) := by decide +kernel
theorem dX6_init_19 : decode cX6_init 19 = .ok (.return_, 1) := by decide +kernel
theorem dX6_kind_0 : decode cX6_kind 0 = .ok (.iconst 2, 1) := by decide +kernel
theorem dX6_kind_1 : decode cX6_kind 1 = .ok (.ireturn, 1) := by decide +kernel
set_option maxRecDepth 20000 in
theorem ggX6_heft_X5_heft : GoodIn wsX6_heft wsX5_heft := goodIn_r _ [6, 7, 8, 9, 10, 11, 12, 13, 14, 15, 16, 17, 18, 19, 20, 21, 22, 23, 24, 25, 26, 27, 28, 29, 30, 31, 32] (by decide +kernel) (by decide +kernel)
set_option maxRecDepth 20000 in
theorem gX6_heft_X5_heft_s9 : GoodIn wsX6_heft (va_wsSU RX6 9 yX5_heft wsX5_heft) := goodIn_app (goodIn_of _ (by decide +kernel)) ggX6_heft_X5_heft
theorem dX6_heft_0 : decode cX6_heft 0 = .ok (.aload_n 0, 1) := by decide +kernel
theorem dX6_heft_1 : decode cX6_heft 1 = .ok (.invokespecial 9, 3) := by decide +kernel
theorem dX6_heft_4 : decode cX6_heft 4 = .ok (.bipush 70, 2) := by decide +kernel
theorem dX6_heft_6 : decode cX6_heft 6 = .ok (.iadd, 1) := by decide +kernel
theorem dX6_heft_7 : decode cX6_heft 7 = .ok (.ireturn, 1) := by decide +kernel
set_option maxRecDepth 20000 in
theorem ggX7_init_X9_init : GoodIn wsX7_init wsX9_init := goodIn_r _ [4, 5, 6, 7, 8, 9, 10, 11, 12, 13, 14, 15, 16, 17, 18, 19, 20, 21, 22, 23, 24, 25, 26, 27, 28, 29, 30, 31, 32, 33, 34, 35, 36, 37, 38, 39, 40, 41, 42, 43, 44, 45, 46, 47, 48, 49, 50] (by decide +kernel) (by decide +kernel)
set_option maxRecDepth 20000 in
theorem gX7_init_X9_init : GoodIn wsX7_init (wsX9_init) := ggX7_init_X9_init
theorem dX7_init_0 : decode cX7_init 0 = .ok (.aload_n 0, 1) := by decide +kernel
theorem dX7_init_1 : decode cX7_init 1 = .ok (.iload_n 1, 1) := by decide +kernel
theorem dX7_init_2 : decode cX7_init 2 = .ok (.iload_n 2, 1) := by decide +kernel
theorem dX7_init_3 : decode cX7_init 3 = .ok (.iload_n 2, 1) := by decide +kernel
theorem dX7_init_4 : decode cX7_init 4 = .ok (.iconst 1, 1) := by decide +kernel
theorem dX7_init_5 : decode cX7_init 5 = .ok (.iadd, 1) := by decide +kernel
theorem dX7_init_6 : decode cX7_init 6 = .ok (.invokespecial 3, 3) := by decide +kernel
theorem dX7_init_9 : decode cX7_init 9 = .ok (.return_, 1) := by decide +kernel
theorem dX7_kind_0 : decode cX7_kind 0 = .ok (.iconst 1, 1) := by decide +kernel
theorem dX7_kind_1 : decode cX7_kind 1 = .ok (.ireturn, 1) := by decide +kernel
set_option maxRecDepth 20000 in
theorem ggX7_heft_X9_heft : GoodIn wsX7_heft wsX9_heft := goodIn_r _ [6, 7, 8, 9, 10, 11, 12, 13, 14, 15, 16, 17, 18, 19, 20, 21, 22, 23, 24, 25, 26, 5, 27, 28, 29, 30, 31, 32, 33, 34, 35, 36, 37, 38, 39, 40, 41, 42, 43, 44, 45, 46, 47, 48, 49, 50] (by decide +kernel) (by decide +kernel)
set_option maxRecDepth 20000 in
theorem gX7_heft_X9_heft_s9 : GoodIn wsX7_heft (va_wsSU RX7 9 yX9_heft wsX9_heft) := goodIn_app (goodIn_of _ (by decide +kernel)) ggX7_heft_X9_heft
theorem dX7_heft_0 : decode cX7_heft 0 = .ok (.aload_n 0, 1) := by decide +kernel
theorem dX7_heft_1 : decode cX7_heft 1 = .ok (.invokespecial 9, 3) := by decide +kernel
theorem dX7_heft_4 : decode cX7_heft 4 = .ok (.bipush 100, 2) := by decide +kernel
theorem dX7_heft_6 : decode cX7_heft 6 = .ok (.iadd, 1) := by decide +kernel
theorem dX7_heft_7 : decode cX7_heft 7 = .ok (.ireturn, 1) := by decide +kernel
theorem dX8_init_0 : decode cX8_init 0 = .ok (.aload_n 0, 1) := by decide +kernel
theorem dX8_init_1 : decode cX8_init 1 = .ok (.invokespecial 1, 3) := by decide +kernel
theorem dX8_init_4 : decode cX8_init 4 = .ok (.aload_n 0, 1) := by decide +kernel
theorem dX8_init_5 : decode cX8_init 5 = .ok (.iload_n 1, 1) := by decide +kernel
theorem dX8_init_6 : decode cX8_init 6 = .ok (.putfield 7, 3) := by decide +kernel
theorem dX8_init_9 : decode cX8_init 9 = .ok (.return_, 1) := by decide +kernel
set_option maxRecDepth 20000 in
theorem ggX8_sum_X8_add : GoodIn wsX8_sum wsX8_add := goodIn_r _ [11, 12, 2, 1, 13, 14, 15] (by decide +kernel) (by decide +kernel)
set_option maxRecDepth 20000 in
theorem gX8_sum_X8_add : GoodIn wsX8_sum (wsV RX8 25 RX8 yX8_add wsX8_add) := goodIn_app (goodIn_of _ (by decide +kernel)) ggX8_sum_X8_add
theorem dX8_sum_0 : decode cX8_sum 0 = .ok (.aload_n 0, 1) := by decide +kernel
theorem dX8_sum_1 : decode cX8_sum 1 = .ok (.iconst 0, 1) := by decide +kernel
theorem dX8_sum_2 : decode cX8_sum 2 = .ok (.putfield 13, 3) := by decide +kernel
theorem dX8_sum_5 : decode cX8_sum 5 = .ok (.aload_n 0, 1) := by decide +kernel
theorem dX8_sum_6 : decode cX8_sum 6 = .ok (.iconst 0, 1) := by decide +kernel
theorem dX8_sum_7 : decode cX8_sum 7 = .ok (.putfield 16, 3) := by decide +kernel
theorem dX8_sum_10 : decode cX8_sum 10 = .ok (.iload_n 2, 1) := by decide +kernel
theorem dX8_sum_11 : decode cX8_sum 11 = .ok (.iconst 0, 1) := by decide +kernel
theorem dX8_sum_12 : decode cX8_sum 12 = .ok (.invokestatic 19, 3) := by decide +kernel
theorem dX8_sum_15 : decode cX8_sum 15 = .ok (.istore 4, 2) := by decide +kernel
theorem dX8_sum_17 : decode cX8_sum 17 = .ok (.iload 4, 2) := by decide +kernel
theorem dX8_sum_19 : decode cX8_sum 19 = .ok (.iload_n 3, 1) := by decide +kernel
theorem dX8_sum_20 : decode cX8_sum 20 = .ok (.if_icmp .gt 25, 3) := by decide +kernel
theorem dX8_sum_23 : decode cX8_sum 23 = .ok (.iload 4, 2) := by decide +kernel
theorem dX8_sum_25 : decode cX8_sum 25 = .ok (.aload_n 1, 1) := by decide +kernel
theorem dX8_sum_26 : decode cX8_sum 26 = .ok (.arraylength, 1) := by decide +kernel
theorem dX8_sum_27 : decode cX8_sum 27 = .ok (.if_icmp .ge 18, 3) := by decide +kernel
theorem dX8_sum_30 : decode cX8_sum 30 = .ok (.aload_n 0, 1) := by decide +kernel
theorem dX8_sum_31 : decode cX8_sum 31 = .ok (.aload_n 1, 1) := by decide +kernel
theorem dX8_sum_32 : decode cX8_sum 32 = .ok (.iload 4, 2) := by decide +kernel
theorem dX8_sum_34 : decode cX8_sum 34 = .ok (.iaload, 1) := by decide +kernel
theorem dX8_sum_35 : decode cX8_sum 35 = .ok (.iconst 1, 1) := by decide +kernel
theorem dX8_sum_36 : decode cX8_sum 36 = .ok (.invokevirtual 25, 3) := by decide +kernel
theorem dX8_sum_39 : decode cX8_sum 39 = .ok (.iinc 4 1, 3) := by decide +kernel
theorem dX8_sum_42 : decode cX8_sum 42 = .ok (.goto (-25), 3) := by decide +kernel
theorem dX8_sum_45 : decode cX8_sum 45 = .ok (.return_, 1) := by decide +kernel
theorem dX8_add_0 : decode cX8_add 0 = .ok (.iload_n 1, 1) := by decide +kernel
theorem dX8_add_1 : decode cX8_add 1 = .ok (.aload_n 0, 1) := by decide +kernel
theorem dX8_add_2 : decode cX8_add 2 = .ok (.getfield 7, 3) := by decide +kernel
theorem dX8_add_5 : decode cX8_add 5 = .ok (.ishr, 1) := by decide +kernel
theorem dX8_add_6 : decode cX8_add 6 = .ok (.iconst 1, 1) := by decide +kernel
theorem dX8_add_7 : decode cX8_add 7 = .ok (.iand, 1) := by decide +kernel
theorem dX8_add_8 : decode cX8_add 8 = .ok (.ifCond .eq 33, 3) := by decide +kernel
theorem dX8_add_11 : decode cX8_add 11 = .ok (.aload_n 0, 1) := by decide +kernel
theorem dX8_add_12 : decode cX8_add 12 = .ok (.dup, 1) := by decide +kernel
theorem dX8_add_13 : decode cX8_add 13 = .ok (.getfield 16, 3) := by decide +kernel
theorem dX8_add_16 : decode cX8_add 16 = .ok (.iload_n 2, 1) := by decide +kernel
theorem dX8_add_17 : decode cX8_add 17 = .ok (.iadd, 1) := by decide +kernel
theorem dX8_add_18 : decode cX8_add 18 = .ok (.putfield 16, 3) := by decide +kernel
theorem dX8_add_21 : decode cX8_add 21 = .ok (.iload_n 1, 1) := by decide +kernel
theorem dX8_add_22 : decode cX8_add 22 = .ok (.iconst 1, 1) := by decide +kernel
theorem dX8_add_23 : decode cX8_add 23 = .ok (.aload_n 0, 1) := by decide +kernel
theorem dX8_add_24 : decode cX8_add 24 = .ok (.getfield 7, 3) := by decide +kernel
theorem dX8_add_27 : decode cX8_add 27 = .ok (.ishl, 1) := by decide +kernel
theorem dX8_add_28 : decode cX8_add 28 = .ok (.if_icmp .ne 13, 3) := by decide +kernel
theorem dX8_add_31 : decode cX8_add 31 = .ok (.aload_n 0, 1) := by decide +kernel
theorem dX8_add_32 : decode cX8_add 32 = .ok (.dup, 1) := by decide +kernel
theorem dX8_add_33 : decode cX8_add 33 = .ok (.getfield 13, 3) := by decide +kernel
theorem dX8_add_36 : decode cX8_add 36 = .ok (.iload_n 2, 1) := by decide +kernel
theorem dX8_add_37 : decode cX8_add 37 = .ok (.iadd, 1) := by decide +kernel
theorem dX8_add_38 : decode cX8_add 38 = .ok (.putfield 13, 3) := by decide +kernel
theorem dX8_add_41 : decode cX8_add 41 = .ok (.return_, 1) := by decide +kernel
set_option maxRecDepth 20000 in
theorem ggX9_init_X2_init : GoodIn wsX9_init wsX2_init := goodIn_r _ [11, 12, 13, 14] (by decide +kernel) (by decide +kernel)
set_option maxRecDepth 20000 in
theorem gX9_init_X2_init_n3 : GoodIn wsX9_init (wsX2_init) := ggX9_init_X2_init
set_option maxRecDepth 20000 in
theorem ggX9_init_X8_init : GoodIn wsX9_init wsX8_init := goodIn_r _ [17, 18, 13, 14, 19, 44, 45, 46] (by decide +kernel) (by decide +kernel)
set_option maxRecDepth 20000 in
theorem gX9_init_X8_init : GoodIn wsX9_init (wsX8_init) := ggX9_init_X8_init
theorem dX9_init_0 : decode cX9_init 0 = .ok (.aload_n 0, 1) := by decide +kernel
theorem dX9_init_1 : decode cX9_init 1 = .ok (.invokespecial 3, 3) := by decide +kernel
theorem dX9_init_4 : decode cX9_init 4 = .ok (.aload_n 0, 1) := by decide +kernel
theorem dX9_init_5 : decode cX9_init 5 = .ok (.iload_n 1, 1) := by decide +kernel
theorem dX9_init_6 : decode cX9_init 6 = .ok (.putfield 9, 3) := by decide +kernel
theorem dX9_init_9 : decode cX9_init 9 = .ok (.aload_n 0, 1) := by decide +kernel
theorem dX9_init_10 : decode cX9_init 10 = .ok (.iload_n 2, 1) := by decide +kernel
theorem dX9_init_11 : decode cX9_init 11 = .ok (.putfield 15, 3) := by decide +kernel
theorem dX9_init_14 : decode cX9_init 14 = .ok (.aload_n 0, 1) := by decide +kernel
theorem dX9_init_15 : decode cX9_init 15 = .ok (.iload_n 3, 1) := by decide +kernel
theorem dX9_init_16 : decode cX9_init 16 = .ok (.putfield 18, 3) := by decide +kernel
theorem dX9_init_19 : decode cX9_init 19 = .ok (.aload_n 0, 1) := by decide +kernel
theorem dX9_init_20 : decode cX9_init 20 = .ok (.new 21, 3) := by decide +kernel
theorem dX9_init_23 : decode cX9_init 23 = .ok (.dup, 1) := by decide +kernel
theorem dX9_init_24 : decode cX9_init 24 = .ok (.iload_n 1, 1) := by decide +kernel
theorem dX9_init_25 : decode cX9_init 25 = .ok (.invokespecial 23, 3) := by decide +kernel
theorem dX9_init_28 : decode cX9_init 28 = .ok (.putfield 26, 3) := by decide +kernel
theorem dX9_init_31 : decode cX9_init 31 = .ok (.aload_n 0, 1) := by decide +kernel
theorem dX9_init_32 : decode cX9_init 32 = .ok (.new 21, 3) := by decide +kernel
theorem dX9_init_35 : decode cX9_init 35 = .ok (.dup, 1) := by decide +kernel
theorem dX9_init_36 : decode cX9_init 36 = .ok (.iload_n 1, 1) := by decide +kernel
theorem dX9_init_37 : decode cX9_init 37 = .ok (.invokespecial 23, 3) := by decide +kernel
theorem dX9_init_40 : decode cX9_init 40 = .ok (.putfield 30, 3) := by decide +kernel
theorem dX9_init_43 : decode cX9_init 43 = .ok (.return_, 1) := by decide +kernel
theorem dX9_kind_0 : decode cX9_kind 0 = .ok (.iconst 0, 1) := by decide +kernel
theorem dX9_kind_1 : decode cX9_kind 1 = .ok (.ireturn, 1) := by decide +kernel
theorem dX9_bindsTrips_0 : decode cX9_bindsTrips 0 = .ok (.iconst 1, 1) := by decide +kernel
theorem dX9_bindsTrips_1 : decode cX9_bindsTrips 1 = .ok (.ireturn, 1) := by decide +kernel
theorem dX9_verdict_0 : decode cX9_verdict 0 = .ok (.aload_n 1, 1) := by decide +kernel
theorem dX9_verdict_1 : decode cX9_verdict 1 = .ok (.getfield 33, 3) := by decide +kernel
theorem dX9_verdict_4 : decode cX9_verdict 4 = .ok (.aload_n 0, 1) := by decide +kernel
theorem dX9_verdict_5 : decode cX9_verdict 5 = .ok (.getfield 15, 3) := by decide +kernel
theorem dX9_verdict_8 : decode cX9_verdict 8 = .ok (.if_icmp .gt 5, 3) := by decide +kernel
theorem dX9_verdict_11 : decode cX9_verdict 11 = .ok (.iconst 2, 1) := by decide +kernel
theorem dX9_verdict_12 : decode cX9_verdict 12 = .ok (.ireturn, 1) := by decide +kernel
theorem dX9_verdict_13 : decode cX9_verdict 13 = .ok (.aload_n 1, 1) := by decide +kernel
theorem dX9_verdict_14 : decode cX9_verdict 14 = .ok (.getfield 36, 3) := by decide +kernel
theorem dX9_verdict_17 : decode cX9_verdict 17 = .ok (.aload_n 0, 1) := by decide +kernel
theorem dX9_verdict_18 : decode cX9_verdict 18 = .ok (.getfield 15, 3) := by decide +kernel
theorem dX9_verdict_21 : decode cX9_verdict 21 = .ok (.if_icmp .le 7, 3) := by decide +kernel
theorem dX9_verdict_24 : decode cX9_verdict 24 = .ok (.iconst 0, 1) := by decide +kernel
theorem dX9_verdict_25 : decode cX9_verdict 25 = .ok (.goto 4, 3) := by decide +kernel
theorem dX9_verdict_28 : decode cX9_verdict 28 = .ok (.iconst 1, 1) := by decide +kernel
theorem dX9_verdict_29 : decode cX9_verdict 29 = .ok (.ireturn, 1) := by decide +kernel
set_option maxRecDepth 20000 in
theorem ggX9_lookAt_X8_sum : GoodIn wsX9_lookAt wsX8_sum := goodIn_r _ [7, 8, 9, 10, 11, 12, 13, 14, 15, 16, 6, 17, 18, 43, 44, 45] (by decide +kernel) (by decide +kernel)
set_option maxRecDepth 20000 in
theorem gX9_lookAt_X8_sum : GoodIn wsX9_lookAt (wsV RX9 39 RX8 yX8_sum wsX8_sum) := goodIn_app (goodIn_of _ (by decide +kernel)) ggX9_lookAt_X8_sum
theorem dX9_lookAt_0 : decode cX9_lookAt 0 = .ok (.aload_n 0, 1) := by decide +kernel
theorem dX9_lookAt_1 : decode cX9_lookAt 1 = .ok (.getfield 26, 3) := by decide +kernel
theorem dX9_lookAt_4 : decode cX9_lookAt 4 = .ok (.aload_n 1, 1) := by decide +kernel
theorem dX9_lookAt_5 : decode cX9_lookAt 5 = .ok (.iload_n 2, 1) := by decide +kernel
theorem dX9_lookAt_6 : decode cX9_lookAt 6 = .ok (.aload_n 0, 1) := by decide +kernel
theorem dX9_lookAt_7 : decode cX9_lookAt 7 = .ok (.getfield 18, 3) := by decide +kernel
theorem dX9_lookAt_10 : decode cX9_lookAt 10 = .ok (.isub, 1) := by decide +kernel
theorem dX9_lookAt_11 : decode cX9_lookAt 11 = .ok (.iconst 1, 1) := by decide +kernel
theorem dX9_lookAt_12 : decode cX9_lookAt 12 = .ok (.iadd, 1) := by decide +kernel
theorem dX9_lookAt_13 : decode cX9_lookAt 13 = .ok (.iload_n 2, 1) := by decide +kernel
theorem dX9_lookAt_14 : decode cX9_lookAt 14 = .ok (.invokevirtual 39, 3) := by decide +kernel
theorem dX9_lookAt_17 : decode cX9_lookAt 17 = .ok (.return_, 1) := by decide +kernel
set_option maxRecDepth 20000 in
theorem ggX9_moveTo_X8_add : GoodIn wsX9_moveTo wsX8_add := goodIn_r _ [7, 8, 9, 10, 35, 36, 37] (by decide +kernel) (by decide +kernel)
set_option maxRecDepth 20000 in
theorem gX9_moveTo_X8_add : GoodIn wsX9_moveTo (wsV RX9 43 RX8 yX8_add wsX8_add) := goodIn_app (goodIn_of _ (by decide +kernel)) ggX9_moveTo_X8_add
theorem dX9_moveTo_0 : decode cX9_moveTo 0 = .ok (.iload_n 2, 1) := by decide +kernel
theorem dX9_moveTo_1 : decode cX9_moveTo 1 = .ok (.ifCond .lt 9, 3) := by decide +kernel
theorem dX9_moveTo_4 : decode cX9_moveTo 4 = .ok (.iload_n 2, 1) := by decide +kernel
theorem dX9_moveTo_5 : decode cX9_moveTo 5 = .ok (.aload_n 1, 1) := by decide +kernel
theorem dX9_moveTo_6 : decode cX9_moveTo 6 = .ok (.arraylength, 1) := by decide +kernel
theorem dX9_moveTo_7 : decode cX9_moveTo 7 = .ok (.if_icmp .lt 4, 3) := by decide +kernel
theorem dX9_moveTo_10 : decode cX9_moveTo 10 = .ok (.return_, 1) := by decide +kernel
theorem dX9_moveTo_11 : decode cX9_moveTo 11 = .ok (.aload_n 0, 1) := by decide +kernel
theorem dX9_moveTo_12 : decode cX9_moveTo 12 = .ok (.getfield 26, 3) := by decide +kernel
theorem dX9_moveTo_15 : decode cX9_moveTo 15 = .ok (.aload_n 1, 1) := by decide +kernel
theorem dX9_moveTo_16 : decode cX9_moveTo 16 = .ok (.iload_n 2, 1) := by decide +kernel
theorem dX9_moveTo_17 : decode cX9_moveTo 17 = .ok (.iaload, 1) := by decide +kernel
theorem dX9_moveTo_18 : decode cX9_moveTo 18 = .ok (.iconst 1, 1) := by decide +kernel
theorem dX9_moveTo_19 : decode cX9_moveTo 19 = .ok (.invokevirtual 43, 3) := by decide +kernel
theorem dX9_moveTo_22 : decode cX9_moveTo 22 = .ok (.iload_n 2, 1) := by decide +kernel
theorem dX9_moveTo_23 : decode cX9_moveTo 23 = .ok (.aload_n 0, 1) := by decide +kernel
theorem dX9_moveTo_24 : decode cX9_moveTo 24 = .ok (.getfield 18, 3) := by decide +kernel
theorem dX9_moveTo_27 : decode cX9_moveTo 27 = .ok (.if_icmp .lt 19, 3) := by decide +kernel
theorem dX9_moveTo_30 : decode cX9_moveTo 30 = .ok (.aload_n 0, 1) := by decide +kernel
theorem dX9_moveTo_31 : decode cX9_moveTo 31 = .ok (.getfield 26, 3) := by decide +kernel
theorem dX9_moveTo_34 : decode cX9_moveTo 34 = .ok (.aload_n 1, 1) := by decide +kernel
theorem dX9_moveTo_35 : decode cX9_moveTo 35 = .ok (.iload_n 2, 1) := by decide +kernel
theorem dX9_moveTo_36 : decode cX9_moveTo 36 = .ok (.aload_n 0, 1) := by decide +kernel
theorem dX9_moveTo_37 : decode cX9_moveTo 37 = .ok (.getfield 18, 3) := by decide +kernel
theorem dX9_moveTo_40 : decode cX9_moveTo 40 = .ok (.isub, 1) := by decide +kernel
theorem dX9_moveTo_41 : decode cX9_moveTo 41 = .ok (.iaload, 1) := by decide +kernel
theorem dX9_moveTo_42 : decode cX9_moveTo 42 = .ok (.iconst (-1), 1) := by decide +kernel
theorem dX9_moveTo_43 : decode cX9_moveTo 43 = .ok (.invokevirtual 43, 3) := by decide +kernel
theorem dX9_moveTo_46 : decode cX9_moveTo 46 = .ok (.return_, 1) := by decide +kernel
set_option maxRecDepth 20000 in
theorem ggX9_lookAtEnd_X8_sum : GoodIn wsX9_lookAtEnd wsX8_sum := goodIn_r _ [8, 9, 10, 11, 12, 13, 14, 15, 16, 17, 7, 18, 19, 44, 45, 46] (by decide +kernel) (by decide +kernel)
set_option maxRecDepth 20000 in
theorem gX9_lookAtEnd_X8_sum : GoodIn wsX9_lookAtEnd (wsV RX9 39 RX8 yX8_sum wsX8_sum) := goodIn_app (goodIn_of _ (by decide +kernel)) ggX9_lookAtEnd_X8_sum
theorem dX9_lookAtEnd_0 : decode cX9_lookAtEnd 0 = .ok (.aload_n 0, 1) := by decide +kernel
theorem dX9_lookAtEnd_1 : decode cX9_lookAtEnd 1 = .ok (.iload_n 2, 1) := by decide +kernel
theorem dX9_lookAtEnd_2 : decode cX9_lookAtEnd 2 = .ok (.aload_n 0, 1) := by decide +kernel
theorem dX9_lookAtEnd_3 : decode cX9_lookAtEnd 3 = .ok (.getfield 18, 3) := by decide +kernel
theorem dX9_lookAtEnd_6 : decode cX9_lookAtEnd 6 = .ok (.isub, 1) := by decide +kernel
theorem dX9_lookAtEnd_7 : decode cX9_lookAtEnd 7 = .ok (.iconst 1, 1) := by decide +kernel
theorem dX9_lookAtEnd_8 : decode cX9_lookAtEnd 8 = .ok (.iadd, 1) := by decide +kernel
theorem dX9_lookAtEnd_9 : decode cX9_lookAtEnd 9 = .ok (.putfield 47, 3) := by decide +kernel
theorem dX9_lookAtEnd_12 : decode cX9_lookAtEnd 12 = .ok (.aload_n 0, 1) := by decide +kernel
theorem dX9_lookAtEnd_13 : decode cX9_lookAtEnd 13 = .ok (.getfield 30, 3) := by decide +kernel
theorem dX9_lookAtEnd_16 : decode cX9_lookAtEnd 16 = .ok (.aload_n 1, 1) := by decide +kernel
theorem dX9_lookAtEnd_17 : decode cX9_lookAtEnd 17 = .ok (.aload_n 0, 1) := by decide +kernel
theorem dX9_lookAtEnd_18 : decode cX9_lookAtEnd 18 = .ok (.getfield 47, 3) := by decide +kernel
theorem dX9_lookAtEnd_21 : decode cX9_lookAtEnd 21 = .ok (.iload_n 2, 1) := by decide +kernel
theorem dX9_lookAtEnd_22 : decode cX9_lookAtEnd 22 = .ok (.invokevirtual 39, 3) := by decide +kernel
theorem dX9_lookAtEnd_25 : decode cX9_lookAtEnd 25 = .ok (.return_, 1) := by decide +kernel
set_option maxRecDepth 20000 in
theorem ggX9_change_X8_add : GoodIn wsX9_change wsX8_add := goodIn_r _ [8, 9, 10, 11, 36, 37, 38] (by decide +kernel) (by decide +kernel)
set_option maxRecDepth 20000 in
theorem gX9_change_X8_add : GoodIn wsX9_change (wsV RX9 43 RX8 yX8_add wsX8_add) := goodIn_app (goodIn_of _ (by decide +kernel)) ggX9_change_X8_add
theorem dX9_change_0 : decode cX9_change 0 = .ok (.aload_n 0, 1) := by decide +kernel
theorem dX9_change_1 : decode cX9_change 1 = .ok (.getfield 26, 3) := by decide +kernel
theorem dX9_change_4 : decode cX9_change 4 = .ok (.iload_n 2, 1) := by decide +kernel
theorem dX9_change_5 : decode cX9_change 5 = .ok (.iconst (-1), 1) := by decide +kernel
theorem dX9_change_6 : decode cX9_change 6 = .ok (.invokevirtual 43, 3) := by decide +kernel
theorem dX9_change_9 : decode cX9_change 9 = .ok (.aload_n 0, 1) := by decide +kernel
theorem dX9_change_10 : decode cX9_change 10 = .ok (.getfield 26, 3) := by decide +kernel
theorem dX9_change_13 : decode cX9_change 13 = .ok (.iload_n 3, 1) := by decide +kernel
theorem dX9_change_14 : decode cX9_change 14 = .ok (.iconst 1, 1) := by decide +kernel
theorem dX9_change_15 : decode cX9_change 15 = .ok (.invokevirtual 43, 3) := by decide +kernel
theorem dX9_change_18 : decode cX9_change 18 = .ok (.iload_n 1, 1) := by decide +kernel
theorem dX9_change_19 : decode cX9_change 19 = .ok (.aload_n 0, 1) := by decide +kernel
theorem dX9_change_20 : decode cX9_change 20 = .ok (.getfield 47, 3) := by decide +kernel
theorem dX9_change_23 : decode cX9_change 23 = .ok (.if_icmp .lt 21, 3) := by decide +kernel
theorem dX9_change_26 : decode cX9_change 26 = .ok (.aload_n 0, 1) := by decide +kernel
theorem dX9_change_27 : decode cX9_change 27 = .ok (.getfield 30, 3) := by decide +kernel
theorem dX9_change_30 : decode cX9_change 30 = .ok (.iload_n 2, 1) := by decide +kernel
theorem dX9_change_31 : decode cX9_change 31 = .ok (.iconst (-1), 1) := by decide +kernel
theorem dX9_change_32 : decode cX9_change 32 = .ok (.invokevirtual 43, 3) := by decide +kernel
theorem dX9_change_35 : decode cX9_change 35 = .ok (.aload_n 0, 1) := by decide +kernel
theorem dX9_change_36 : decode cX9_change 36 = .ok (.getfield 30, 3) := by decide +kernel
theorem dX9_change_39 : decode cX9_change 39 = .ok (.iload_n 3, 1) := by decide +kernel
theorem dX9_change_40 : decode cX9_change 40 = .ok (.iconst 1, 1) := by decide +kernel
theorem dX9_change_41 : decode cX9_change 41 = .ok (.invokevirtual 43, 3) := by decide +kernel
theorem dX9_change_44 : decode cX9_change 44 = .ok (.return_, 1) := by decide +kernel
set_option maxRecDepth 20000 in
theorem ggX9_heft_X0_kind : GoodIn wsX9_heft wsX0_kind := goodIn_r _ [8] (by decide +kernel) (by decide +kernel)
set_option maxRecDepth 20000 in
theorem gX9_heft_X0_kind_u50X0 : GoodIn wsX9_heft (va_wsO RX9 50 RX0 "NightBook$Window" ⟨"NightBook$Window", "kind", "()I"⟩ yX0_kind wsX0_kind) := goodIn_app (goodIn_of _ (by decide +kernel)) ggX9_heft_X0_kind
set_option maxRecDepth 20000 in
theorem ggX9_heft_X3_kind : GoodIn wsX9_heft wsX3_kind := goodIn_r _ [13] (by decide +kernel) (by decide +kernel)
set_option maxRecDepth 20000 in
theorem gX9_heft_X3_kind_u50X3 : GoodIn wsX9_heft (va_wsO RX9 50 RX3 "NightBook$Window" ⟨"NightBook$Window", "kind", "()I"⟩ yX3_kind wsX3_kind) := goodIn_app (goodIn_of _ (by decide +kernel)) ggX9_heft_X3_kind
set_option maxRecDepth 20000 in
theorem ggX9_heft_X7_kind : GoodIn wsX9_heft wsX7_kind := goodIn_r _ [17] (by decide +kernel) (by decide +kernel)
set_option maxRecDepth 20000 in
theorem gX9_heft_X7_kind_u50X7 : GoodIn wsX9_heft (va_wsO RX9 50 RX7 "NightBook$Window" ⟨"NightBook$Window", "kind", "()I"⟩ yX7_kind wsX7_kind) := goodIn_app (goodIn_of _ (by decide +kernel)) ggX9_heft_X7_kind
set_option maxRecDepth 20000 in
theorem ggX9_heft_X9_kind : GoodIn wsX9_heft wsX9_kind := goodIn_r _ [9] (by decide +kernel) (by decide +kernel)
set_option maxRecDepth 20000 in
theorem gX9_heft_X9_kind : GoodIn wsX9_heft (wsV RX9 50 RX9 yX9_kind wsX9_kind) := goodIn_app (goodIn_of _ (by decide +kernel)) ggX9_heft_X9_kind
theorem dX9_heft_0 : decode cX9_heft 0 = .ok (.bipush 10, 2) := by decide +kernel
theorem dX9_heft_2 : decode cX9_heft 2 = .ok (.aload_n 0, 1) := by decide +kernel
theorem dX9_heft_3 : decode cX9_heft 3 = .ok (.invokevirtual 50, 3) := by decide +kernel
theorem dX9_heft_6 : decode cX9_heft 6 = .ok (.iadd, 1) := by decide +kernel
theorem dX9_heft_7 : decode cX9_heft 7 = .ok (.aload_n 0, 1) := by decide +kernel
theorem dX9_heft_8 : decode cX9_heft 8 = .ok (.getfield 15, 3) := by decide +kernel
theorem dX9_heft_11 : decode cX9_heft 11 = .ok (.iadd, 1) := by decide +kernel
theorem dX9_heft_12 : decode cX9_heft 12 = .ok (.ireturn, 1) := by decide +kernel
theorem dX9_fail_0 : decode cX9_fail 0 = .ok (.new 54, 3) := by decide +kernel
theorem dX9_fail_3 : decode cX9_fail 3 = .ok (.dup, 1) := by decide +kernel
theorem dX9_fail_4 : decode cX9_fail 4 = .ok (.ldc 56, 2) := by decide +kernel
theorem dX9_fail_6 : decode cX9_fail 6 = .ok (.invokespecial 58, 3) := by decide +kernel
theorem dX9_fail_9 : decode cX9_fail 9 = .ok (.athrow, 1) := by decide +kernel
theorem dX9_failureNumber_0 : decode cX9_failureNumber 0 = .ok (.aload_n 0, 1) := by decide +kernel
theorem dX9_failureNumber_1 : decode cX9_failureNumber 1 = .ok (.getfield 9, 3) := by decide +kernel
theorem dX9_failureNumber_4 : decode cX9_failureNumber 4 = .ok (.ireturn, 1) := by decide +kernel
set_option maxRecDepth 20000 in
theorem ggX10_init_X1_init : GoodIn wsX10_init wsX1_init := goodIn_r _ [4, 5, 6, 7, 8, 9, 10, 11, 12, 13, 14, 15, 16, 17, 18, 19, 20, 21, 22, 23, 24, 25, 26, 27, 28, 29, 30, 31, 32, 33, 34, 35, 36, 37, 38, 39, 40, 41, 42, 43] (by decide +kernel) (by decide +kernel)
set_option maxRecDepth 20000 in
theorem gX10_init_X1_init : GoodIn wsX10_init (wsX1_init) := ggX10_init_X1_init
theorem dX10_init_0 : decode cX10_init 0 = .ok (.aload_n 0, 1) := by decide +kernel
theorem dX10_init_1 : decode cX10_init 1 = .ok (.iload_n 1, 1) := by decide +kernel
theorem dX10_init_2 : decode cX10_init 2 = .ok (.iload_n 2, 1) := by decide +kernel
theorem dX10_init_3 : decode cX10_init 3 = .ok (.iload_n 3, 1) := by decide +kernel
theorem dX10_init_4 : decode cX10_init 4 = .ok (.iload 4, 2) := by decide +kernel
theorem dX10_init_6 : decode cX10_init 6 = .ok (.invokespecial 3, 3) := by decide +kernel
theorem dX10_init_9 : decode cX10_init 9 = .ok (.return_, 1) := by decide +kernel
theorem dX10_kind_0 : decode cX10_kind 0 = .ok (.iconst 3, 1) := by decide +kernel
theorem dX10_kind_1 : decode cX10_kind 1 = .ok (.ireturn, 1) := by decide +kernel
theorem dX10_givesWay_0 : decode cX10_givesWay 0 = .ok (.iconst 1, 1) := by decide +kernel
theorem dX10_givesWay_1 : decode cX10_givesWay 1 = .ok (.ireturn, 1) := by decide +kernel
set_option maxRecDepth 20000 in
theorem ggX10_heft_X1_heft : GoodIn wsX10_heft wsX1_heft := goodIn_r _ [6, 7, 8, 9, 10, 11, 12, 13, 14, 15, 16, 17, 18, 19, 20, 21, 22, 23, 24, 25, 26, 27, 28, 29, 30, 31, 32, 33, 34, 35, 36, 37, 38] (by decide +kernel) (by decide +kernel)
set_option maxRecDepth 20000 in
theorem gX10_heft_X1_heft_s9 : GoodIn wsX10_heft (va_wsSU RX10 9 yX1_heft wsX1_heft) := goodIn_app (goodIn_of _ (by decide +kernel)) ggX10_heft_X1_heft
theorem dX10_heft_0 : decode cX10_heft 0 = .ok (.iconst 2, 1) := by decide +kernel
theorem dX10_heft_1 : decode cX10_heft 1 = .ok (.aload_n 0, 1) := by decide +kernel
theorem dX10_heft_2 : decode cX10_heft 2 = .ok (.invokespecial 9, 3) := by decide +kernel
theorem dX10_heft_5 : decode cX10_heft 5 = .ok (.imul, 1) := by decide +kernel
theorem dX10_heft_6 : decode cX10_heft 6 = .ok (.ireturn, 1) := by decide +kernel
theorem dX10_fail_0 : decode cX10_fail 0 = .ok (.return_, 1) := by decide +kernel
set_option maxRecDepth 20000 in
theorem ggX11_init_J7_fill_53178 : GoodIn wsX11_init wsJ7_fill_53178 := goodIn_r _ [28] (by decide +kernel) (by decide +kernel)
set_option maxRecDepth 20000 in
theorem gX11_init_J7_fill_53178 : GoodIn wsX11_init (va_wsS RX11 40 yJ7_fill_53178 wsJ7_fill_53178) := goodIn_app (goodIn_of _ (by decide +kernel)) ggX11_init_J7_fill_53178
set_option maxRecDepth 20000 in
theorem ggX11_init_X8_init : GoodIn wsX11_init wsX8_init := goodIn_r _ [31, 32, 2, 3, 33, 50, 51, 52] (by decide +kernel) (by decide +kernel)
set_option maxRecDepth 20000 in
theorem gX11_init_X8_init : GoodIn wsX11_init (wsX8_init) := ggX11_init_X8_init
theorem dX11_init_0 : decode cX11_init 0 = .ok (.aload_n 0, 1) := by decide +kernel
theorem dX11_init_1 : decode cX11_init 1 = .ok (.invokespecial 1, 3) := by decide +kernel
theorem dX11_init_4 : decode cX11_init 4 = .ok (.aload_n 0, 1) := by decide +kernel
theorem dX11_init_5 : decode cX11_init 5 = .ok (.bipush 6, 2) := by decide +kernel
theorem dX11_init_7 : decode cX11_init 7 = .ok (.newarray .int, 2) := by decide +kernel
theorem dX11_init_9 : decode cX11_init 9 = .ok (.putfield 9, 3) := by decide +kernel
theorem dX11_init_12 : decode cX11_init 12 = .ok (.aload_n 0, 1) := by decide +kernel
theorem dX11_init_13 : decode cX11_init 13 = .ok (.bipush 6, 2) := by decide +kernel
theorem dX11_init_15 : decode cX11_init 15 = .ok (.newarray .int, 2) := by decide +kernel
theorem dX11_init_17 : decode cX11_init 17 = .ok (.putfield 13, 3) := by decide +kernel
theorem dX11_init_20 : decode cX11_init 20 = .ok (.aload_n 0, 1) := by decide +kernel
theorem dX11_init_21 : decode cX11_init 21 = .ok (.bipush 6, 2) := by decide +kernel
theorem dX11_init_23 : decode cX11_init 23 = .ok (.newarray .boolean, 2) := by decide +kernel
theorem dX11_init_25 : decode cX11_init 25 = .ok (.putfield 16, 3) := by decide +kernel
theorem dX11_init_28 : decode cX11_init 28 = .ok (.aload_n 0, 1) := by decide +kernel
theorem dX11_init_29 : decode cX11_init 29 = .ok (.bipush 6, 2) := by decide +kernel
theorem dX11_init_31 : decode cX11_init 31 = .ok (.sipush 400, 3) := by decide +kernel
theorem dX11_init_34 : decode cX11_init 34 = .ok (.multianewarray 20 2, 4) := by decide +kernel
theorem dX11_init_38 : decode cX11_init 38 = .ok (.putfield 22, 3) := by decide +kernel
theorem dX11_init_41 : decode cX11_init 41 = .ok (.aload_n 0, 1) := by decide +kernel
theorem dX11_init_42 : decode cX11_init 42 = .ok (.bipush 80, 2) := by decide +kernel
theorem dX11_init_44 : decode cX11_init 44 = .ok (.anewarray 25, 3) := by decide +kernel
theorem dX11_init_47 : decode cX11_init 47 = .ok (.putfield 27, 3) := by decide +kernel
theorem dX11_init_50 : decode cX11_init 50 = .ok (.aload_n 0, 1) := by decide +kernel
theorem dX11_init_51 : decode cX11_init 51 = .ok (.bipush 12, 2) := by decide +kernel
theorem dX11_init_53 : decode cX11_init 53 = .ok (.anewarray 31, 3) := by decide +kernel
theorem dX11_init_56 : decode cX11_init 56 = .ok (.putfield 33, 3) := by decide +kernel
theorem dX11_init_59 : decode cX11_init 59 = .ok (.aload_n 0, 1) := by decide +kernel
theorem dX11_init_60 : decode cX11_init 60 = .ok (.bipush 8, 2) := by decide +kernel
theorem dX11_init_62 : decode cX11_init 62 = .ok (.newarray .int, 2) := by decide +kernel
theorem dX11_init_64 : decode cX11_init 64 = .ok (.putfield 37, 3) := by decide +kernel
theorem dX11_init_67 : decode cX11_init 67 = .ok (.aload_n 0, 1) := by decide +kernel
theorem dX11_init_68 : decode cX11_init 68 = .ok (.getfield 37, 3) := by decide +kernel
theorem dX11_init_71 : decode cX11_init 71 = .ok (.bipush 51, 2) := by decide +kernel
theorem dX11_init_73 : decode cX11_init 73 = .ok (.invokestatic 40, 3) := by decide +kernel
theorem dX11_init_76 : decode cX11_init 76 = .ok (.aload_n 0, 1) := by decide +kernel
theorem dX11_init_77 : decode cX11_init 77 = .ok (.bipush 64, 2) := by decide +kernel
theorem dX11_init_79 : decode cX11_init 79 = .ok (.newarray .int, 2) := by decide +kernel
theorem dX11_init_81 : decode cX11_init 81 = .ok (.putfield 46, 3) := by decide +kernel
theorem dX11_init_84 : decode cX11_init 84 = .ok (.aload_n 0, 1) := by decide +kernel
theorem dX11_init_85 : decode cX11_init 85 = .ok (.getfield 46, 3) := by decide +kernel
theorem dX11_init_88 : decode cX11_init 88 = .ok (.iconst (-1), 1) := by decide +kernel
theorem dX11_init_89 : decode cX11_init 89 = .ok (.invokestatic 40, 3) := by decide +kernel
theorem dX11_init_92 : decode cX11_init 92 = .ok (.aload_n 0, 1) := by decide +kernel
theorem dX11_init_93 : decode cX11_init 93 = .ok (.bipush 8, 2) := by decide +kernel
theorem dX11_init_95 : decode cX11_init 95 = .ok (.anewarray 49, 3) := by decide +kernel
theorem dX11_init_98 : decode cX11_init 98 = .ok (.putfield 51, 3) := by decide +kernel
theorem dX11_init_101 : decode cX11_init 101 = .ok (.aload_n 0, 1) := by decide +kernel
theorem dX11_init_102 : decode cX11_init 102 = .ok (.bipush 8, 2) := by decide +kernel
theorem dX11_init_104 : decode cX11_init 104 = .ok (.anewarray 55, 3) := by decide +kernel
theorem dX11_init_107 : decode cX11_init 107 = .ok (.putfield 57, 3) := by decide +kernel
theorem dX11_init_110 : decode cX11_init 110 = .ok (.iconst 0, 1) := by decide +kernel
theorem dX11_init_111 : decode cX11_init 111 = .ok (.istore_n 1, 1) := by decide +kernel
theorem dX11_init_112 : decode cX11_init 112 = .ok (.iload_n 1, 1) := by decide +kernel
theorem dX11_init_113 : decode cX11_init 113 = .ok (.bipush 8, 2) := by decide +kernel
theorem dX11_init_115 : decode cX11_init 115 = .ok (.if_icmp .ge 23, 3) := by decide +kernel
theorem dX11_init_118 : decode cX11_init 118 = .ok (.aload_n 0, 1) := by decide +kernel
theorem dX11_init_119 : decode cX11_init 119 = .ok (.getfield 57, 3) := by decide +kernel
theorem dX11_init_122 : decode cX11_init 122 = .ok (.iload_n 1, 1) := by decide +kernel
theorem dX11_init_123 : decode cX11_init 123 = .ok (.new 55, 3) := by decide +kernel
theorem dX11_init_126 : decode cX11_init 126 = .ok (.dup, 1) := by decide +kernel
theorem dX11_init_127 : decode cX11_init 127 = .ok (.iload_n 1, 1) := by decide +kernel
theorem dX11_init_128 : decode cX11_init 128 = .ok (.invokespecial 61, 3) := by decide +kernel
theorem dX11_init_131 : decode cX11_init 131 = .ok (.aastore, 1) := by decide +kernel
theorem dX11_init_132 : decode cX11_init 132 = .ok (.iinc 1 1, 3) := by decide +kernel
theorem dX11_init_135 : decode cX11_init 135 = .ok (.goto (-23), 3) := by decide +kernel
theorem dX11_init_138 : decode cX11_init 138 = .ok (.aload_n 0, 1) := by decide +kernel
theorem dX11_init_139 : decode cX11_init 139 = .ok (.sipush 400, 3) := by decide +kernel
theorem dX11_init_142 : decode cX11_init 142 = .ok (.newarray .int, 2) := by decide +kernel
theorem dX11_init_144 : decode cX11_init 144 = .ok (.putfield 64, 3) := by decide +kernel
theorem dX11_init_147 : decode cX11_init 147 = .ok (.aload_n 0, 1) := by decide +kernel
theorem dX11_init_148 : decode cX11_init 148 = .ok (.sipush 400, 3) := by decide +kernel
theorem dX11_init_151 : decode cX11_init 151 = .ok (.newarray .int, 2) := by decide +kernel
theorem dX11_init_153 : decode cX11_init 153 = .ok (.putfield 67, 3) := by decide +kernel
theorem dX11_init_156 : decode cX11_init 156 = .ok (.return_, 1) := by decide +kernel
set_option maxRecDepth 20000 in
theorem ggX11_person_X11_isLand : GoodIn wsX11_person wsX11_isLand := goodIn_r _ [8] (by decide +kernel) (by decide +kernel)
set_option maxRecDepth 20000 in
theorem gX11_person_X11_isLand : GoodIn wsX11_person (va_wsS RX11 70 yX11_isLand wsX11_isLand) := goodIn_app (goodIn_of _ (by decide +kernel)) ggX11_person_X11_isLand
set_option maxRecDepth 20000 in
theorem ggX11_person_J7_fill_53178 : GoodIn wsX11_person wsJ7_fill_53178 := goodIn_r _ [12] (by decide +kernel) (by decide +kernel)
set_option maxRecDepth 20000 in
theorem gX11_person_J7_fill_53178 : GoodIn wsX11_person (va_wsS RX11 40 yJ7_fill_53178 wsJ7_fill_53178) := goodIn_app (goodIn_of _ (by decide +kernel)) ggX11_person_J7_fill_53178
theorem dX11_person_0 : decode cX11_person 0 = .ok (.iload_n 1, 1) := by decide +kernel
theorem dX11_person_1 : decode cX11_person 1 = .ok (.invokestatic 70, 3) := by decide +kernel
theorem dX11_person_4 : decode cX11_person 4 = .ok (.ifCond .eq 10, 3) := by decide +kernel
theorem dX11_person_7 : decode cX11_person 7 = .ok (.iload_n 2, 1) := by decide +kernel
theorem dX11_person_8 : decode cX11_person 8 = .ok (.invokestatic 70, 3) := by decide +kernel
theorem dX11_person_11 : decode cX11_person 11 = .ok (.ifCond .ne 5, 3) := by decide +kernel
theorem dX11_person_14 : decode cX11_person 14 = .ok (.iconst (-1), 1) := by decide +kernel
theorem dX11_person_15 : decode cX11_person 15 = .ok (.ireturn, 1) := by decide +kernel
theorem dX11_person_16 : decode cX11_person 16 = .ok (.aload_n 0, 1) := by decide +kernel
theorem dX11_person_17 : decode cX11_person 17 = .ok (.getfield 74, 3) := by decide +kernel
theorem dX11_person_20 : decode cX11_person 20 = .ok (.bipush 6, 2) := by decide +kernel
theorem dX11_person_22 : decode cX11_person 22 = .ok (.if_icmp .lt 6, 3) := by decide +kernel
theorem dX11_person_25 : decode cX11_person 25 = .ok (.bipush (-2), 2) := by decide +kernel
theorem dX11_person_27 : decode cX11_person 27 = .ok (.ireturn, 1) := by decide +kernel
theorem dX11_person_28 : decode cX11_person 28 = .ok (.aload_n 0, 1) := by decide +kernel
theorem dX11_person_29 : decode cX11_person 29 = .ok (.getfield 74, 3) := by decide +kernel
theorem dX11_person_32 : decode cX11_person 32 = .ok (.istore_n 3, 1) := by decide +kernel
theorem dX11_person_33 : decode cX11_person 33 = .ok (.aload_n 0, 1) := by decide +kernel
theorem dX11_person_34 : decode cX11_person 34 = .ok (.dup, 1) := by decide +kernel
theorem dX11_person_35 : decode cX11_person 35 = .ok (.getfield 74, 3) := by decide +kernel
theorem dX11_person_38 : decode cX11_person 38 = .ok (.iconst 1, 1) := by decide +kernel
theorem dX11_person_39 : decode cX11_person 39 = .ok (.iadd, 1) := by decide +kernel
theorem dX11_person_40 : decode cX11_person 40 = .ok (.putfield 74, 3) := by decide +kernel
theorem dX11_person_43 : decode cX11_person 43 = .ok (.aload_n 0, 1) := by decide +kernel
theorem dX11_person_44 : decode cX11_person 44 = .ok (.getfield 9, 3) := by decide +kernel
theorem dX11_person_47 : decode cX11_person 47 = .ok (.iload_n 3, 1) := by decide +kernel
theorem dX11_person_48 : decode cX11_person 48 = .ok (.iload_n 1, 1) := by decide +kernel
theorem dX11_person_49 : decode cX11_person 49 = .ok (.iastore, 1) := by decide +kernel
theorem dX11_person_50 : decode cX11_person 50 = .ok (.aload_n 0, 1) := by decide +kernel
theorem dX11_person_51 : decode cX11_person 51 = .ok (.getfield 13, 3) := by decide +kernel
theorem dX11_person_54 : decode cX11_person 54 = .ok (.iload_n 3, 1) := by decide +kernel
theorem dX11_person_55 : decode cX11_person 55 = .ok (.iload_n 2, 1) := by decide +kernel
theorem dX11_person_56 : decode cX11_person 56 = .ok (.iastore, 1) := by decide +kernel
theorem dX11_person_57 : decode cX11_person 57 = .ok (.aload_n 0, 1) := by decide +kernel
theorem dX11_person_58 : decode cX11_person 58 = .ok (.getfield 22, 3) := by decide +kernel
theorem dX11_person_61 : decode cX11_person 61 = .ok (.iload_n 3, 1) := by decide +kernel
theorem dX11_person_62 : decode cX11_person 62 = .ok (.aaload, 1) := by decide +kernel
theorem dX11_person_63 : decode cX11_person 63 = .ok (.sipush 255, 3) := by decide +kernel
theorem dX11_person_66 : decode cX11_person 66 = .ok (.invokestatic 40, 3) := by decide +kernel
theorem dX11_person_69 : decode cX11_person 69 = .ok (.iload_n 3, 1) := by decide +kernel
theorem dX11_person_70 : decode cX11_person 70 = .ok (.ireturn, 1) := by decide +kernel
set_option maxRecDepth 20000 in
theorem ggX11_span_X11_isPerson : GoodIn wsX11_span wsX11_isPerson := goodIn_r _ [9, 10, 92, 93, 94, 95, 96, 97, 98, 99, 100, 101, 102, 103, 104, 105, 106, 107] (by decide +kernel) (by decide +kernel)
set_option maxRecDepth 20000 in
theorem gX11_span_X11_isPerson : GoodIn wsX11_span (wsV RX11 78 RX11 yX11_isPerson wsX11_isPerson) := goodIn_app (goodIn_of _ (by decide +kernel)) ggX11_span_X11_isPerson
set_option maxRecDepth 20000 in
theorem ggX11_span_X11_areDays : GoodIn wsX11_span wsX11_areDays := goodIn_r _ [13, 14, 15, 8, 16] (by decide +kernel) (by decide +kernel)
set_option maxRecDepth 20000 in
theorem gX11_span_X11_areDays : GoodIn wsX11_span (va_wsS RX11 81 yX11_areDays wsX11_areDays) := goodIn_app (goodIn_of _ (by decide +kernel)) ggX11_span_X11_areDays
set_option maxRecDepth 20000 in
theorem ggX11_span_X5_init : GoodIn wsX11_span wsX5_init := goodIn_r _ [19, 20, 21, 22, 23, 24, 25, 26, 27, 28, 29, 30, 108, 109, 110, 111, 112, 113, 86, 87, 88, 89, 90, 91, 114, 115, 116, 117, 118, 119, 120, 121, 122, 123, 124, 125] (by decide +kernel) (by decide +kernel)
set_option maxRecDepth 20000 in
theorem gX11_span_X5_init : GoodIn wsX11_span (wsX5_init) := ggX11_span_X5_init
set_option maxRecDepth 20000 in
theorem ggX11_span_X11_enter : GoodIn wsX11_span wsX11_enter := goodIn_r _ [34, 4, 35, 36, 37, 38, 39, 40, 41, 42, 8, 43, 44, 45, 46, 47, 48, 49, 50, 51, 52, 53, 54, 55, 56, 57, 58, 59, 60, 61, 62, 63, 64, 65, 3, 66, 67, 68, 69, 70, 71, 72, 73, 74, 75, 76, 77, 78, 79, 80, 81, 82, 83, 84, 85, 92, 93, 94, 95, 96, 97, 98, 99, 100, 101, 102, 103, 104, 105, 106, 107, 108, 109, 110, 111, 112, 113, 86, 87, 88, 89, 90, 91, 114, 115, 116, 117, 118, 119, 120, 121, 122, 123, 124, 125, 126, 127, 128, 129] (by decide +kernel) (by decide +kernel)
set_option maxRecDepth 20000 in
theorem gX11_span_X11_enter : GoodIn wsX11_span (wsV RX11 91 RX11 yX11_enter wsX11_enter) := goodIn_app (goodIn_of _ (by decide +kernel)) ggX11_span_X11_enter
theorem dX11_span_0 : decode cX11_span 0 = .ok (.aload_n 0, 1) := by decide +kernel
theorem dX11_span_1 : decode cX11_span 1 = .ok (.iload_n 1, 1) := by decide +kernel
theorem dX11_span_2 : decode cX11_span 2 = .ok (.invokevirtual 78, 3) := by decide +kernel
theorem dX11_span_5 : decode cX11_span 5 = .ok (.ifCond .eq 25, 3) := by decide +kernel
theorem dX11_span_8 : decode cX11_span 8 = .ok (.iload_n 2, 1) := by decide +kernel
theorem dX11_span_9 : decode cX11_span 9 = .ok (.iload_n 3, 1) := by decide +kernel
theorem dX11_span_10 : decode cX11_span 10 = .ok (.invokestatic 81, 3) := by decide +kernel
theorem dX11_span_13 : decode cX11_span 13 = .ok (.ifCond .eq 17, 3) := by decide +kernel
theorem dX11_span_16 : decode cX11_span 16 = .ok (.iload 4, 2) := by decide +kernel
theorem dX11_span_18 : decode cX11_span 18 = .ok (.iconst 1, 1) := by decide +kernel
theorem dX11_span_19 : decode cX11_span 19 = .ok (.if_icmp .lt 11, 3) := by decide +kernel
theorem dX11_span_22 : decode cX11_span 22 = .ok (.iload 4, 2) := by decide +kernel
theorem dX11_span_24 : decode cX11_span 24 = .ok (.sipush 255, 3) := by decide +kernel
theorem dX11_span_27 : decode cX11_span 27 = .ok (.if_icmp .le 5, 3) := by decide +kernel
theorem dX11_span_30 : decode cX11_span 30 = .ok (.iconst (-1), 1) := by decide +kernel
theorem dX11_span_31 : decode cX11_span 31 = .ok (.ireturn, 1) := by decide +kernel
theorem dX11_span_32 : decode cX11_span 32 = .ok (.aload_n 0, 1) := by decide +kernel
theorem dX11_span_33 : decode cX11_span 33 = .ok (.new 25, 3) := by decide +kernel
theorem dX11_span_36 : decode cX11_span 36 = .ok (.dup, 1) := by decide +kernel
theorem dX11_span_37 : decode cX11_span 37 = .ok (.aload_n 0, 1) := by decide +kernel
theorem dX11_span_38 : decode cX11_span 38 = .ok (.getfield 85, 3) := by decide +kernel
theorem dX11_span_41 : decode cX11_span 41 = .ok (.iload_n 1, 1) := by decide +kernel
theorem dX11_span_42 : decode cX11_span 42 = .ok (.iload_n 2, 1) := by decide +kernel
theorem dX11_span_43 : decode cX11_span 43 = .ok (.iload_n 3, 1) := by decide +kernel
theorem dX11_span_44 : decode cX11_span 44 = .ok (.iload 4, 2) := by decide +kernel
theorem dX11_span_46 : decode cX11_span 46 = .ok (.invokespecial 88, 3) := by decide +kernel
theorem dX11_span_49 : decode cX11_span 49 = .ok (.invokevirtual 91, 3) := by decide +kernel
theorem dX11_span_52 : decode cX11_span 52 = .ok (.ireturn, 1) := by decide +kernel
set_option maxRecDepth 20000 in
theorem ggX11_slept_X11_isPerson : GoodIn wsX11_slept wsX11_isPerson := goodIn_r _ [12, 13, 102, 103, 104, 105, 106, 107, 108, 109, 110, 111, 112, 113, 114, 115, 116, 117] (by decide +kernel) (by decide +kernel)
set_option maxRecDepth 20000 in
theorem gX11_slept_X11_isPerson : GoodIn wsX11_slept (wsV RX11 78 RX11 yX11_isPerson wsX11_isPerson) := goodIn_app (goodIn_of _ (by decide +kernel)) ggX11_slept_X11_isPerson
set_option maxRecDepth 20000 in
theorem ggX11_slept_X11_isDay : GoodIn wsX11_slept wsX11_isDay := goodIn_r _ [16] (by decide +kernel) (by decide +kernel)
set_option maxRecDepth 20000 in
theorem gX11_slept_X11_isDay : GoodIn wsX11_slept (va_wsS RX11 95 yX11_isDay wsX11_isDay) := goodIn_app (goodIn_of _ (by decide +kernel)) ggX11_slept_X11_isDay
set_option maxRecDepth 20000 in
theorem ggX11_slept_X11_isLand : GoodIn wsX11_slept wsX11_isLand := goodIn_r _ [19] (by decide +kernel) (by decide +kernel)
set_option maxRecDepth 20000 in
theorem gX11_slept_X11_isLand : GoodIn wsX11_slept (va_wsS RX11 70 yX11_isLand wsX11_isLand) := goodIn_app (goodIn_of _ (by decide +kernel)) ggX11_slept_X11_isLand
set_option maxRecDepth 20000 in
theorem ggX11_slept_X10_init : GoodIn wsX11_slept wsX10_init := goodIn_r _ [22, 23, 24, 7, 25, 26, 27, 28, 29, 30, 31, 32, 33, 34, 35, 36, 37, 38, 39, 40, 118, 119, 120, 121, 122, 123, 124, 125, 126, 127, 128, 129, 130, 131, 132, 133, 134, 135, 96, 97, 98, 99, 100, 101] (by decide +kernel) (by decide +kernel)
set_option maxRecDepth 20000 in
theorem gX11_slept_X10_init : GoodIn wsX11_slept (wsX10_init) := ggX11_slept_X10_init
set_option maxRecDepth 20000 in
theorem ggX11_slept_X1_init : GoodIn wsX11_slept wsX1_init := goodIn_r _ [25, 26, 27, 28, 29, 30, 31, 32, 33, 34, 35, 36, 37, 38, 39, 40, 118, 119, 120, 121, 122, 123, 124, 125, 126, 127, 128, 129, 130, 131, 132, 133, 134, 135, 96, 97, 98, 99, 100, 101] (by decide +kernel) (by decide +kernel)
set_option maxRecDepth 20000 in
theorem gX11_slept_X1_init : GoodIn wsX11_slept (wsX1_init) := ggX11_slept_X1_init
set_option maxRecDepth 20000 in
theorem ggX11_slept_X11_enter : GoodIn wsX11_slept wsX11_enter := goodIn_r _ [45, 4, 46, 47, 48, 49, 50, 51, 52, 53, 11, 54, 55, 56, 57, 58, 59, 60, 61, 62, 63, 64, 65, 66, 67, 68, 69, 70, 71, 72, 73, 74, 75, 76, 28, 77, 78, 79, 80, 81, 82, 83, 3, 84, 85, 86, 87, 88, 89, 90, 91, 92, 93, 94, 95, 102, 103, 104, 105, 106, 107, 108, 109, 110, 111, 112, 113, 114, 115, 116, 117, 118, 119, 120, 121, 122, 123, 124, 125, 126, 127, 128, 129, 130, 131, 132, 133, 134, 135, 96, 97, 98, 99, 100, 101, 136, 137, 138, 139] (by decide +kernel) (by decide +kernel)
set_option maxRecDepth 20000 in
theorem gX11_slept_X11_enter : GoodIn wsX11_slept (wsV RX11 91 RX11 yX11_enter wsX11_enter) := goodIn_app (goodIn_of _ (by decide +kernel)) ggX11_slept_X11_enter
theorem dX11_slept_0 : decode cX11_slept 0 = .ok (.aload_n 0, 1) := by decide +kernel
theorem dX11_slept_1 : decode cX11_slept 1 = .ok (.iload_n 1, 1) := by decide +kernel
theorem dX11_slept_2 : decode cX11_slept 2 = .ok (.invokevirtual 78, 3) := by decide +kernel
theorem dX11_slept_5 : decode cX11_slept 5 = .ok (.ifCond .eq 17, 3) := by decide +kernel
theorem dX11_slept_8 : decode cX11_slept 8 = .ok (.iload_n 2, 1) := by decide +kernel
theorem dX11_slept_9 : decode cX11_slept 9 = .ok (.invokestatic 95, 3) := by decide +kernel
theorem dX11_slept_12 : decode cX11_slept 12 = .ok (.ifCond .eq 10, 3) := by decide +kernel
theorem dX11_slept_15 : decode cX11_slept 15 = .ok (.iload_n 3, 1) := by decide +kernel
theorem dX11_slept_16 : decode cX11_slept 16 = .ok (.invokestatic 70, 3) := by decide +kernel
theorem dX11_slept_19 : decode cX11_slept 19 = .ok (.ifCond .ne 5, 3) := by decide +kernel
theorem dX11_slept_22 : decode cX11_slept 22 = .ok (.iconst (-1), 1) := by decide +kernel
theorem dX11_slept_23 : decode cX11_slept 23 = .ok (.ireturn, 1) := by decide +kernel
theorem dX11_slept_24 : decode cX11_slept 24 = .ok (.aload_n 0, 1) := by decide +kernel
theorem dX11_slept_25 : decode cX11_slept 25 = .ok (.iload 4, 2) := by decide +kernel
theorem dX11_slept_27 : decode cX11_slept 27 = .ok (.ifCond .eq 20, 3) := by decide +kernel
theorem dX11_slept_30 : decode cX11_slept 30 = .ok (.new 98, 3) := by decide +kernel
theorem dX11_slept_33 : decode cX11_slept 33 = .ok (.dup, 1) := by decide +kernel
theorem dX11_slept_34 : decode cX11_slept 34 = .ok (.aload_n 0, 1) := by decide +kernel
theorem dX11_slept_35 : decode cX11_slept 35 = .ok (.getfield 85, 3) := by decide +kernel
theorem dX11_slept_38 : decode cX11_slept 38 = .ok (.iload_n 1, 1) := by decide +kernel
theorem dX11_slept_39 : decode cX11_slept 39 = .ok (.iload_n 2, 1) := by decide +kernel
theorem dX11_slept_40 : decode cX11_slept 40 = .ok (.iload_n 3, 1) := by decide +kernel
theorem dX11_slept_41 : decode cX11_slept 41 = .ok (.invokespecial 100, 3) := by decide +kernel
theorem dX11_slept_44 : decode cX11_slept 44 = .ok (.goto 17, 3) := by decide +kernel
theorem dX11_slept_47 : decode cX11_slept 47 = .ok (.new 103, 3) := by decide +kernel
theorem dX11_slept_50 : decode cX11_slept 50 = .ok (.dup, 1) := by decide +kernel
theorem dX11_slept_51 : decode cX11_slept 51 = .ok (.aload_n 0, 1) := by decide +kernel
theorem dX11_slept_52 : decode cX11_slept 52 = .ok (.getfield 85, 3) := by decide +kernel
theorem dX11_slept_55 : decode cX11_slept 55 = .ok (.iload_n 1, 1) := by decide +kernel
theorem dX11_slept_56 : decode cX11_slept 56 = .ok (.iload_n 2, 1) := by decide +kernel
theorem dX11_slept_57 : decode cX11_slept 57 = .ok (.iload_n 3, 1) := by decide +kernel
theorem dX11_slept_58 : decode cX11_slept 58 = .ok (.invokespecial 105, 3) := by decide +kernel
theorem dX11_slept_61 : decode cX11_slept 61 = .ok (.invokevirtual 91, 3) := by decide +kernel
theorem dX11_slept_64 : decode cX11_slept 64 = .ok (.ireturn, 1) := by decide +kernel
set_option maxRecDepth 20000 in
theorem ggX11_stamp_X11_isPerson : GoodIn wsX11_stamp wsX11_isPerson := goodIn_r _ [9, 10, 99, 100, 101, 102, 103, 104, 105, 106, 107, 108, 109, 110, 111, 112, 113, 114] (by decide +kernel) (by decide +kernel)
set_option maxRecDepth 20000 in
theorem gX11_stamp_X11_isPerson : GoodIn wsX11_stamp (wsV RX11 78 RX11 yX11_isPerson wsX11_isPerson) := goodIn_app (goodIn_of _ (by decide +kernel)) ggX11_stamp_X11_isPerson
set_option maxRecDepth 20000 in
theorem ggX11_stamp_X11_areDays : GoodIn wsX11_stamp wsX11_areDays := goodIn_r _ [13, 14, 15, 8, 16] (by decide +kernel) (by decide +kernel)
set_option maxRecDepth 20000 in
theorem gX11_stamp_X11_areDays : GoodIn wsX11_stamp (va_wsS RX11 81 yX11_areDays wsX11_areDays) := goodIn_app (goodIn_of _ (by decide +kernel)) ggX11_stamp_X11_areDays
set_option maxRecDepth 20000 in
theorem ggX11_stamp_X11_isLand : GoodIn wsX11_stamp wsX11_isLand := goodIn_r _ [19] (by decide +kernel) (by decide +kernel)
set_option maxRecDepth 20000 in
theorem gX11_stamp_X11_isLand : GoodIn wsX11_stamp (va_wsS RX11 70 yX11_isLand wsX11_isLand) := goodIn_app (goodIn_of _ (by decide +kernel)) ggX11_stamp_X11_isLand
set_option maxRecDepth 20000 in
theorem ggX11_stamp_X6_init : GoodIn wsX11_stamp wsX6_init := goodIn_r _ [22, 23, 24, 25, 26, 27, 28, 29, 30, 31, 32, 33, 34, 35, 36, 37, 115, 116, 117, 118, 119, 120, 121, 122, 123, 124, 125, 126, 93, 94, 95, 96, 97, 98, 127, 128, 129, 130, 131, 132] (by decide +kernel) (by decide +kernel)
set_option maxRecDepth 20000 in
theorem gX11_stamp_X6_init : GoodIn wsX11_stamp (wsX6_init) := ggX11_stamp_X6_init
set_option maxRecDepth 20000 in
theorem ggX11_stamp_X11_enter : GoodIn wsX11_stamp wsX11_enter := goodIn_r _ [41, 4, 42, 43, 44, 45, 46, 47, 48, 49, 8, 50, 51, 52, 53, 54, 55, 56, 57, 58, 59, 60, 61, 62, 63, 64, 65, 66, 67, 68, 69, 70, 71, 72, 25, 73, 74, 75, 76, 77, 78, 79, 80, 81, 82, 83, 84, 85, 86, 87, 88, 89, 90, 91, 92, 99, 100, 101, 102, 103, 104, 105, 106, 107, 108, 109, 110, 111, 112, 113, 114, 115, 116, 117, 118, 119, 120, 121, 122, 123, 124, 125, 126, 93, 94, 95, 96, 97, 98, 127, 128, 129, 130, 131, 132, 133, 134, 135, 136] (by decide +kernel) (by decide +kernel)
set_option maxRecDepth 20000 in
theorem gX11_stamp_X11_enter : GoodIn wsX11_stamp (wsV RX11 91 RX11 yX11_enter wsX11_enter) := goodIn_app (goodIn_of _ (by decide +kernel)) ggX11_stamp_X11_enter
theorem dX11_stamp_0 : decode cX11_stamp 0 = .ok (.aload_n 0, 1) := by decide +kernel
theorem dX11_stamp_1 : decode cX11_stamp 1 = .ok (.iload_n 1, 1) := by decide +kernel
theorem dX11_stamp_2 : decode cX11_stamp 2 = .ok (.invokevirtual 78, 3) := by decide +kernel
theorem dX11_stamp_5 : decode cX11_stamp 5 = .ok (.ifCond .eq 19, 3) := by decide +kernel
theorem dX11_stamp_8 : decode cX11_stamp 8 = .ok (.iload_n 2, 1) := by decide +kernel
theorem dX11_stamp_9 : decode cX11_stamp 9 = .ok (.iload_n 3, 1) := by decide +kernel
theorem dX11_stamp_10 : decode cX11_stamp 10 = .ok (.invokestatic 81, 3) := by decide +kernel
theorem dX11_stamp_13 : decode cX11_stamp 13 = .ok (.ifCond .eq 11, 3) := by decide +kernel
theorem dX11_stamp_16 : decode cX11_stamp 16 = .ok (.iload 4, 2) := by decide +kernel
theorem dX11_stamp_18 : decode cX11_stamp 18 = .ok (.invokestatic 70, 3) := by decide +kernel
theorem dX11_stamp_21 : decode cX11_stamp 21 = .ok (.ifCond .ne 5, 3) := by decide +kernel
theorem dX11_stamp_24 : decode cX11_stamp 24 = .ok (.iconst (-1), 1) := by decide +kernel
theorem dX11_stamp_25 : decode cX11_stamp 25 = .ok (.ireturn, 1) := by decide +kernel
theorem dX11_stamp_26 : decode cX11_stamp 26 = .ok (.aload_n 0, 1) := by decide +kernel
theorem dX11_stamp_27 : decode cX11_stamp 27 = .ok (.new 106, 3) := by decide +kernel
theorem dX11_stamp_30 : decode cX11_stamp 30 = .ok (.dup, 1) := by decide +kernel
theorem dX11_stamp_31 : decode cX11_stamp 31 = .ok (.aload_n 0, 1) := by decide +kernel
theorem dX11_stamp_32 : decode cX11_stamp 32 = .ok (.getfield 85, 3) := by decide +kernel
theorem dX11_stamp_35 : decode cX11_stamp 35 = .ok (.iload_n 1, 1) := by decide +kernel
theorem dX11_stamp_36 : decode cX11_stamp 36 = .ok (.iload_n 2, 1) := by decide +kernel
theorem dX11_stamp_37 : decode cX11_stamp 37 = .ok (.iload_n 3, 1) := by decide +kernel
theorem dX11_stamp_38 : decode cX11_stamp 38 = .ok (.iload 4, 2) := by decide +kernel
theorem dX11_stamp_40 : decode cX11_stamp 40 = .ok (.invokespecial 108, 3) := by decide +kernel
theorem dX11_stamp_43 : decode cX11_stamp 43 = .ok (.invokevirtual 91, 3) := by decide +kernel
theorem dX11_stamp_46 : decode cX11_stamp 46 = .ok (.ireturn, 1) := by decide +kernel
set_option maxRecDepth 20000 in
theorem ggX11_drop_X11_markAt : GoodIn wsX11_drop wsX11_markAt := goodIn_r _ [9, 10, 11, 82, 83, 84, 85, 86, 87, 88, 89, 90, 91, 92, 93, 94, 95, 96, 97] (by decide +kernel) (by decide +kernel)
set_option maxRecDepth 20000 in
theorem gX11_drop_X11_markAt : GoodIn wsX11_drop (wsV RX11 109 RX11 yX11_markAt wsX11_markAt) := goodIn_app (goodIn_of _ (by decide +kernel)) ggX11_drop_X11_markAt
set_option maxRecDepth 20000 in
theorem ggX11_drop_X11_tellAnew : GoodIn wsX11_drop wsX11_tellAnew := goodIn_r _ [15, 16, 17, 10, 11, 1, 2, 18, 19, 20, 21, 22, 23, 24, 25, 26, 27, 28, 29, 30, 31, 32, 33, 34, 35, 36, 37, 38, 39, 40, 41, 42, 43, 44, 45, 46, 47, 48, 8, 49, 4, 50, 51, 52, 53, 3, 54, 55, 56, 57, 82, 83, 84, 85, 86, 87, 88, 89, 90, 91, 92, 93, 94, 95, 96, 97, 58, 59, 60, 61, 62, 63, 64, 65, 66, 67, 68, 69, 70, 71, 72, 73, 74, 75, 76, 77, 78, 79, 80, 81, 98, 99, 100, 101] (by decide +kernel) (by decide +kernel)
set_option maxRecDepth 20000 in
theorem gX11_drop_X11_tellAnew : GoodIn wsX11_drop (wsV RX11 126 RX11 yX11_tellAnew wsX11_tellAnew) := goodIn_app (goodIn_of _ (by decide +kernel)) ggX11_drop_X11_tellAnew
theorem dX11_drop_0 : decode cX11_drop 0 = .ok (.aload_n 0, 1) := by decide +kernel
theorem dX11_drop_1 : decode cX11_drop 1 = .ok (.iload_n 1, 1) := by decide +kernel
theorem dX11_drop_2 : decode cX11_drop 2 = .ok (.invokevirtual 109, 3) := by decide +kernel
theorem dX11_drop_5 : decode cX11_drop 5 = .ok (.astore_n 3, 1) := by decide +kernel
theorem dX11_drop_6 : decode cX11_drop 6 = .ok (.aload_n 3, 1) := by decide +kernel
theorem dX11_drop_7 : decode cX11_drop 7 = .ok (.ifnonnull 5, 3) := by decide +kernel
theorem dX11_drop_10 : decode cX11_drop 10 = .ok (.iconst (-1), 1) := by decide +kernel
theorem dX11_drop_11 : decode cX11_drop 11 = .ok (.ireturn, 1) := by decide +kernel
theorem dX11_drop_12 : decode cX11_drop 12 = .ok (.aload_n 3, 1) := by decide +kernel
theorem dX11_drop_13 : decode cX11_drop 13 = .ok (.getfield 113, 3) := by decide +kernel
theorem dX11_drop_16 : decode cX11_drop 16 = .ok (.iload_n 2, 1) := by decide +kernel
theorem dX11_drop_17 : decode cX11_drop 17 = .ok (.if_icmp .ne 5, 3) := by decide +kernel
theorem dX11_drop_20 : decode cX11_drop 20 = .ok (.iconst 0, 1) := by decide +kernel
theorem dX11_drop_21 : decode cX11_drop 21 = .ok (.ireturn, 1) := by decide +kernel
theorem dX11_drop_22 : decode cX11_drop 22 = .ok (.aload_n 3, 1) := by decide +kernel
theorem dX11_drop_23 : decode cX11_drop 23 = .ok (.iload_n 2, 1) := by decide +kernel
theorem dX11_drop_24 : decode cX11_drop 24 = .ok (.putfield 113, 3) := by decide +kernel
theorem dX11_drop_27 : decode cX11_drop 27 = .ok (.aload_n 0, 1) := by decide +kernel
theorem dX11_drop_28 : decode cX11_drop 28 = .ok (.aload_n 3, 1) := by decide +kernel
theorem dX11_drop_29 : decode cX11_drop 29 = .ok (.getfield 117, 3) := by decide +kernel
theorem dX11_drop_32 : decode cX11_drop 32 = .ok (.aload_n 3, 1) := by decide +kernel
theorem dX11_drop_33 : decode cX11_drop 33 = .ok (.getfield 117, 3) := by decide +kernel
theorem dX11_drop_36 : decode cX11_drop 36 = .ok (.aload_n 3, 1) := by decide +kernel
theorem dX11_drop_37 : decode cX11_drop 37 = .ok (.getfield 120, 3) := by decide +kernel
theorem dX11_drop_40 : decode cX11_drop 40 = .ok (.aload_n 3, 1) := by decide +kernel
theorem dX11_drop_41 : decode cX11_drop 41 = .ok (.getfield 123, 3) := by decide +kernel
theorem dX11_drop_44 : decode cX11_drop 44 = .ok (.invokevirtual 126, 3) := by decide +kernel
theorem dX11_drop_47 : decode cX11_drop 47 = .ok (.ifCond .eq 5, 3) := by decide +kernel
theorem dX11_drop_50 : decode cX11_drop 50 = .ok (.iconst 1, 1) := by decide +kernel
theorem dX11_drop_51 : decode cX11_drop 51 = .ok (.ireturn, 1) := by decide +kernel
theorem dX11_drop_52 : decode cX11_drop 52 = .ok (.aload_n 3, 1) := by decide +kernel
theorem dX11_drop_53 : decode cX11_drop 53 = .ok (.iload_n 2, 1) := by decide +kernel
theorem dX11_drop_54 : decode cX11_drop 54 = .ok (.ifCond .ne 7, 3) := by decide +kernel
theorem dX11_drop_57 : decode cX11_drop 57 = .ok (.iconst 1, 1) := by decide +kernel
theorem dX11_drop_58 : decode cX11_drop 58 = .ok (.goto 4, 3) := by decide +kernel
theorem dX11_drop_61 : decode cX11_drop 61 = .ok (.iconst 0, 1) := by decide +kernel
theorem dX11_drop_62 : decode cX11_drop 62 = .ok (.putfield 113, 3) := by decide +kernel
theorem dX11_drop_65 : decode cX11_drop 65 = .ok (.bipush (-4), 2) := by decide +kernel
theorem dX11_drop_67 : decode cX11_drop 67 = .ok (.ireturn, 1) := by decide +kernel
set_option maxRecDepth 20000 in
theorem ggX11_mark_X11_markAt : GoodIn wsX11_mark wsX11_markAt := goodIn_r _ [10, 11, 12, 57, 58, 59, 60, 61, 62, 63, 64, 65, 66, 67, 68, 69, 70, 71, 72] (by decide +kernel) (by decide +kernel)
set_option maxRecDepth 20000 in
theorem gX11_mark_X11_markAt : GoodIn wsX11_mark (wsV RX11 109 RX11 yX11_markAt wsX11_markAt) := goodIn_app (goodIn_of _ (by decide +kernel)) ggX11_mark_X11_markAt
set_option maxRecDepth 20000 in
theorem ggX11_mark_X1_kind : GoodIn wsX11_mark wsX1_kind := goodIn_r _ [19] (by decide +kernel) (by decide +kernel)
set_option maxRecDepth 20000 in
theorem gX11_mark_X1_kind_u130X1 : GoodIn wsX11_mark (va_wsO RX11 130 RX1 "NightBook$Span" ⟨"NightBook$Span", "kind", "()I"⟩ yX1_kind wsX1_kind) := goodIn_app (goodIn_of _ (by decide +kernel)) ggX11_mark_X1_kind
set_option maxRecDepth 20000 in
theorem ggX11_mark_X5_kind : GoodIn wsX11_mark wsX5_kind := goodIn_r _ [20] (by decide +kernel) (by decide +kernel)
set_option maxRecDepth 20000 in
theorem gX11_mark_X5_kind : GoodIn wsX11_mark (wsV RX11 130 RX5 yX5_kind wsX5_kind) := goodIn_app (goodIn_of _ (by decide +kernel)) ggX11_mark_X5_kind
set_option maxRecDepth 20000 in
theorem ggX11_mark_X6_kind : GoodIn wsX11_mark wsX6_kind := goodIn_r _ [28] (by decide +kernel) (by decide +kernel)
set_option maxRecDepth 20000 in
theorem gX11_mark_X6_kind_u130X6 : GoodIn wsX11_mark (va_wsO RX11 130 RX6 "NightBook$Span" ⟨"NightBook$Span", "kind", "()I"⟩ yX6_kind wsX6_kind) := goodIn_app (goodIn_of _ (by decide +kernel)) ggX11_mark_X6_kind
set_option maxRecDepth 20000 in
theorem ggX11_mark_X10_kind : GoodIn wsX11_mark wsX10_kind := goodIn_r _ [32] (by decide +kernel) (by decide +kernel)
set_option maxRecDepth 20000 in
theorem gX11_mark_X10_kind_u130X10 : GoodIn wsX11_mark (va_wsO RX11 130 RX10 "NightBook$Span" ⟨"NightBook$Span", "kind", "()I"⟩ yX10_kind wsX10_kind) := goodIn_app (goodIn_of _ (by decide +kernel)) ggX11_mark_X10_kind
theorem dX11_mark_0 : decode cX11_mark 0 = .ok (.aload_n 0, 1) := by decide +kernel
theorem dX11_mark_1 : decode cX11_mark 1 = .ok (.iload_n 1, 1) := by decide +kernel
theorem dX11_mark_2 : decode cX11_mark 2 = .ok (.invokevirtual 109, 3) := by decide +kernel
theorem dX11_mark_5 : decode cX11_mark 5 = .ok (.astore_n 3, 1) := by decide +kernel
theorem dX11_mark_6 : decode cX11_mark 6 = .ok (.aload_n 3, 1) := by decide +kernel
theorem dX11_mark_7 : decode cX11_mark 7 = .ok (.ifnonnull 5, 3) := by decide +kernel
theorem dX11_mark_10 : decode cX11_mark 10 = .ok (.iconst (-1), 1) := by decide +kernel
theorem dX11_mark_11 : decode cX11_mark 11 = .ok (.ireturn, 1) := by decide +kernel
theorem dX11_mark_12 : decode cX11_mark 12 = .ok (.iload_n 2, 1) := by decide +kernel
theorem dX11_mark_13 : decode cX11_mark 13 = .ok (.tableswitch 77 0 5 #[39, 44, 49, 54, 59, 64], 39) := by decide +kernel
theorem dX11_mark_52 : decode cX11_mark 52 = .ok (.aload_n 3, 1) := by decide +kernel
theorem dX11_mark_53 : decode cX11_mark 53 = .ok (.invokevirtual 130, 3) := by decide +kernel
theorem dX11_mark_56 : decode cX11_mark 56 = .ok (.ireturn, 1) := by decide +kernel
theorem dX11_mark_57 : decode cX11_mark 57 = .ok (.aload_n 3, 1) := by decide +kernel
theorem dX11_mark_58 : decode cX11_mark 58 = .ok (.getfield 117, 3) := by decide +kernel
theorem dX11_mark_61 : decode cX11_mark 61 = .ok (.ireturn, 1) := by decide +kernel
theorem dX11_mark_62 : decode cX11_mark 62 = .ok (.aload_n 3, 1) := by decide +kernel
theorem dX11_mark_63 : decode cX11_mark 63 = .ok (.getfield 120, 3) := by decide +kernel
theorem dX11_mark_66 : decode cX11_mark 66 = .ok (.ireturn, 1) := by decide +kernel
theorem dX11_mark_67 : decode cX11_mark 67 = .ok (.aload_n 3, 1) := by decide +kernel
theorem dX11_mark_68 : decode cX11_mark 68 = .ok (.getfield 123, 3) := by decide +kernel
theorem dX11_mark_71 : decode cX11_mark 71 = .ok (.ireturn, 1) := by decide +kernel
theorem dX11_mark_72 : decode cX11_mark 72 = .ok (.aload_n 3, 1) := by decide +kernel
theorem dX11_mark_73 : decode cX11_mark 73 = .ok (.getfield 134, 3) := by decide +kernel
theorem dX11_mark_76 : decode cX11_mark 76 = .ok (.ireturn, 1) := by decide +kernel
theorem dX11_mark_77 : decode cX11_mark 77 = .ok (.aload_n 3, 1) := by decide +kernel
theorem dX11_mark_78 : decode cX11_mark 78 = .ok (.getfield 113, 3) := by decide +kernel
theorem dX11_mark_81 : decode cX11_mark 81 = .ok (.ifCond .eq 7, 3) := by decide +kernel
theorem dX11_mark_84 : decode cX11_mark 84 = .ok (.iconst 1, 1) := by decide +kernel
theorem dX11_mark_85 : decode cX11_mark 85 = .ok (.goto 4, 3) := by decide +kernel
theorem dX11_mark_88 : decode cX11_mark 88 = .ok (.iconst 0, 1) := by decide +kernel
theorem dX11_mark_89 : decode cX11_mark 89 = .ok (.ireturn, 1) := by decide +kernel
theorem dX11_mark_90 : decode cX11_mark 90 = .ok (.iconst (-1), 1) := by decide +kernel
theorem dX11_mark_91 : decode cX11_mark 91 = .ok (.ireturn, 1) := by decide +kernel
set_option maxRecDepth 20000 in
theorem ggX11_can_X11_isPerson : GoodIn wsX11_can wsX11_isPerson := goodIn_r _ [6, 7, 11, 12, 13, 14, 15, 16, 17, 18, 19, 20, 21, 22, 23, 24, 25, 26] (by decide +kernel) (by decide +kernel)
set_option maxRecDepth 20000 in
theorem gX11_can_X11_isPerson : GoodIn wsX11_can (wsV RX11 78 RX11 yX11_isPerson wsX11_isPerson) := goodIn_app (goodIn_of _ (by decide +kernel)) ggX11_can_X11_isPerson
set_option maxRecDepth 20000 in
theorem ggX11_can_X11_isDay : GoodIn wsX11_can wsX11_isDay := goodIn_r _ [10] (by decide +kernel) (by decide +kernel)
set_option maxRecDepth 20000 in
theorem gX11_can_X11_isDay : GoodIn wsX11_can (va_wsS RX11 95 yX11_isDay wsX11_isDay) := goodIn_app (goodIn_of _ (by decide +kernel)) ggX11_can_X11_isDay
theorem dX11_can_0 : decode cX11_can 0 = .ok (.aload_n 0, 1) := by decide +kernel
theorem dX11_can_1 : decode cX11_can 1 = .ok (.iload_n 1, 1) := by decide +kernel
theorem dX11_can_2 : decode cX11_can 2 = .ok (.invokevirtual 78, 3) := by decide +kernel
theorem dX11_can_5 : decode cX11_can 5 = .ok (.ifCond .eq 21, 3) := by decide +kernel
theorem dX11_can_8 : decode cX11_can 8 = .ok (.iload_n 2, 1) := by decide +kernel
theorem dX11_can_9 : decode cX11_can 9 = .ok (.invokestatic 95, 3) := by decide +kernel
theorem dX11_can_12 : decode cX11_can 12 = .ok (.ifCond .eq 14, 3) := by decide +kernel
theorem dX11_can_15 : decode cX11_can 15 = .ok (.aload_n 0, 1) := by decide +kernel
theorem dX11_can_16 : decode cX11_can 16 = .ok (.getfield 22, 3) := by decide +kernel
theorem dX11_can_19 : decode cX11_can 19 = .ok (.iload_n 1, 1) := by decide +kernel
theorem dX11_can_20 : decode cX11_can 20 = .ok (.aaload, 1) := by decide +kernel
theorem dX11_can_21 : decode cX11_can 21 = .ok (.iload_n 2, 1) := by decide +kernel
theorem dX11_can_22 : decode cX11_can 22 = .ok (.iaload, 1) := by decide +kernel

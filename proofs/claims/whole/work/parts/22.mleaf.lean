/-! ===== the reference's small methods ===== -/
/-- x is one of 0 .. n - 1 -/
abbrev rg (x : Int32) (n : Nat) : Prop := 0 ≤ x.toInt ∧ x.toInt < (n : Int)
theorem rg_of {x : Int32} {n : Nat} (h : rg x n) (hn : n < 2147483648) : ∃ j : Nat, j < n ∧ x = nI j := vp_in_of (vp_in_iff.mpr h) hn
theorem rg_nI {j n : Nat} (hj : j < 2147483648) : rg (nI j) n ↔ j < n := by
  unfold rg
  rw [nI_toInt (by omega)]
  omega
noncomputable def b2 (c : Prop) : Nat := @ite Nat c (Classical.propDecidable c) 1 0
theorem b2_t {c : Prop} (h : c) : b2 c = 1 := by unfold b2; exact if_pos h
theorem b2_f {c : Prop} (h : ¬ c) : b2 c = 0 := by unfold b2; exact if_neg h
theorem b2_lt (c : Prop) : b2 c < 2 := by
  by_cases h : c
  · rw [b2_t h]; omega
  · rw [b2_f h]; omega
theorem b2_1 {c : Prop} : b2 c ≠ 0 ↔ c := by
  by_cases h : c
  · rw [b2_t h]; simp [h]
  · rw [b2_f h]; simp [h]
theorem b2_0 {c : Prop} : b2 c = 0 ↔ ¬ c := by
  by_cases h : c
  · rw [b2_t h]; simp [h]
  · rw [b2_f h]; simp [h]
theorem b2_iff {c e : Prop} (h : c ↔ e) : b2 c = b2 e := by
  by_cases hc : c
  · rw [b2_t hc, b2_t (h.mp hc)]
  · rw [b2_f hc, b2_f (fun z => hc (h.mpr z))]
theorem le_i {x y : Int32} : x ≤ y ↔ x.toInt ≤ y.toInt := Int32.le_iff_toInt_le
theorem lt_i {x y : Int32} : x < y ↔ x.toInt < y.toInt := Int32.lt_iff_toInt_lt

set_option maxHeartbeats 4000000 in
set_option maxRecDepth 100000 in
/-- in -/
theorem mc_X12_in {l : Launch} {E : EV} {x y z : Int32} {w : RW} : MC l E yX12_in wsX12_in 0 0 0 [.int x, .int y, .int z] (w) (fun r w' => w' = w ∧ r = some (.int (nI (b2 (y.toInt ≤ x.toInt ∧ x.toInt ≤ z.toInt))))) := by
  refine MC.enter (cc := cX12_in) (maxL := 3) (ret := (some .boolean)) (lv0 := [some (.int x), some (.int y), some (.int z)]) (by decide) rfl (by simp [Value.category]) (Nat.le_of_ble_eq_true rfl) rfl ?_
  intro X hl hE C D
  subst hl
  subst hE
  refine r_iload_n (pq := 1) C dX12_in_0 rfl rfl ?_
  refine r_iload_n (pq := 2) C dX12_in_1 rfl rfl ?_
  refine r_icmp_lt (tg := 14) (pq := 5) C dX12_in_2 (by decide) rfl (fun c2 => ?_) (fun c2 => ?_)
  · refine r_iconst (v := nI 0) (pq := 15) C dX12_in_14 (by decide) rfl ?_
    refine r_zret C D rfl (by decide) ⟨Nat.le_refl _, Nat.le_refl _⟩ dX12_in_15 ?_
    refine ⟨rfl, ?_⟩
    simp only [le_i, lt_i] at *
    first | rw [b2_t (by omega)] | rw [b2_f (by omega)]
  · refine r_iload_n (pq := 6) C dX12_in_5 rfl rfl ?_
    refine r_iload_n (pq := 7) C dX12_in_6 rfl rfl ?_
    refine r_icmp_gt (tg := 14) (pq := 10) C dX12_in_7 (by decide) rfl (fun c7 => ?_) (fun c7 => ?_)
    · refine r_iconst (v := nI 0) (pq := 15) C dX12_in_14 (by decide) rfl ?_
      refine r_zret C D rfl (by decide) ⟨Nat.le_refl _, Nat.le_refl _⟩ dX12_in_15 ?_
      refine ⟨rfl, ?_⟩
      simp only [le_i, lt_i] at *
      first | rw [b2_t (by omega)] | rw [b2_f (by omega)]
    · refine r_iconst (v := nI 1) (pq := 11) C dX12_in_10 (by decide) rfl ?_
      refine r_goto (tg := 15) C dX12_in_11 (by decide) ?_
      refine r_zret C D rfl (by decide) ⟨Nat.le_refl _, Nat.le_refl _⟩ dX12_in_15 ?_
      refine ⟨rfl, ?_⟩
      simp only [le_i, lt_i] at *
      first | rw [b2_t (by omega)] | rw [b2_f (by omega)]

set_option maxHeartbeats 4000000 in
set_option maxRecDepth 100000 in
/-- isLand -/
theorem mc_X12_isLand {l : Launch} {E : EV} {x : Int32} {w : RW} : MC l E yX12_isLand wsX12_isLand 1 0 0 [.int x] (w) (fun r w' => w' = w ∧ r = some (.int (nI (b2 (rg x 8))))) := by
  refine MC.enter (cc := cX12_isLand) (maxL := 1) (ret := (some .boolean)) (lv0 := [some (.int x)]) (by decide) rfl (by simp [Value.category]) (Nat.le_of_ble_eq_true rfl) rfl ?_
  intro X hl hE C D
  subst hl
  subst hE
  refine r_iload_n (pq := 1) C dX12_isLand_0 rfl rfl ?_
  refine r_iconst (v := nI 0) (pq := 2) C dX12_isLand_1 (by decide) rfl ?_
  refine r_bipush (v := nI 7) (pq := 4) C dX12_isLand_2 (by decide) rfl ?_
  refine r_callS (pq := 7) C (mc_X12_in) gX12_isLand_X12_in rfl (na := 3) (by decide +kernel) rfl (by decide) (by decide) (Nat.le_of_ble_eq_true rfl) ⟨Nat.zero_le _, Nat.zero_le _⟩ dX12_isLand_4 rfl rfl (fun r9 w9 hq => ?_)
  obtain ⟨rfl, rfl⟩ := hq
  dsimp only [Option.toList, List.cons_append, List.nil_append]
  refine r_zret C D rfl (na_01 (b2_lt _)) ⟨Nat.le_refl _, Nat.le_refl _⟩ dX12_isLand_7 ?_
  refine ⟨rfl, ?_⟩
  rw [b2_iff (e := rg x 8)]
  unfold rg
  rw [nI_toInt (by omega), nI_toInt (by omega)]
  omega

set_option maxHeartbeats 4000000 in
set_option maxRecDepth 100000 in
/-- isDay -/
theorem mc_X12_isDay {l : Launch} {E : EV} {x : Int32} {w : RW} : MC l E yX12_isDay wsX12_isDay 1 0 0 [.int x] (w) (fun r w' => w' = w ∧ r = some (.int (nI (b2 (rg x 400))))) := by
  refine MC.enter (cc := cX12_isDay) (maxL := 1) (ret := (some .boolean)) (lv0 := [some (.int x)]) (by decide) rfl (by simp [Value.category]) (Nat.le_of_ble_eq_true rfl) rfl ?_
  intro X hl hE C D
  subst hl
  subst hE
  refine r_iload_n (pq := 1) C dX12_isDay_0 rfl rfl ?_
  refine r_iconst (v := nI 0) (pq := 2) C dX12_isDay_1 (by decide) rfl ?_
  refine r_sipush (v := nI 399) (pq := 5) C dX12_isDay_2 (by decide) rfl ?_
  refine r_callS (pq := 8) C (mc_X12_in) gX12_isDay_X12_in rfl (na := 3) (by decide +kernel) rfl (by decide) (by decide) (Nat.le_of_ble_eq_true rfl) ⟨Nat.zero_le _, Nat.zero_le _⟩ dX12_isDay_5 rfl rfl (fun r9 w9 hq => ?_)
  obtain ⟨rfl, rfl⟩ := hq
  dsimp only [Option.toList, List.cons_append, List.nil_append]
  refine r_zret C D rfl (na_01 (b2_lt _)) ⟨Nat.le_refl _, Nat.le_refl _⟩ dX12_isDay_8 ?_
  refine ⟨rfl, ?_⟩
  rw [b2_iff (e := rg x 400)]
  unfold rg
  rw [nI_toInt (by omega), nI_toInt (by omega)]
  omega

set_option maxHeartbeats 4000000 in
set_option maxRecDepth 100000 in
/-- isYear -/
theorem mc_X12_isYear {l : Launch} {E : EV} {x : Int32} {w : RW} : MC l E yX12_isYear wsX12_isYear 1 0 0 [.int x] (w) (fun r w' => w' = w ∧ r = some (.int (nI (b2 (rg x 4))))) := by
  refine MC.enter (cc := cX12_isYear) (maxL := 1) (ret := (some .boolean)) (lv0 := [some (.int x)]) (by decide) rfl (by simp [Value.category]) (Nat.le_of_ble_eq_true rfl) rfl ?_
  intro X hl hE C D
  subst hl
  subst hE
  refine r_iload_n (pq := 1) C dX12_isYear_0 rfl rfl ?_
  refine r_iconst (v := nI 0) (pq := 2) C dX12_isYear_1 (by decide) rfl ?_
  refine r_iconst (v := nI 3) (pq := 3) C dX12_isYear_2 (by decide) rfl ?_
  refine r_callS (pq := 6) C (mc_X12_in) gX12_isYear_X12_in rfl (na := 3) (by decide +kernel) rfl (by decide) (by decide) (Nat.le_of_ble_eq_true rfl) ⟨Nat.zero_le _, Nat.zero_le _⟩ dX12_isYear_3 rfl rfl (fun r9 w9 hq => ?_)
  obtain ⟨rfl, rfl⟩ := hq
  dsimp only [Option.toList, List.cons_append, List.nil_append]
  refine r_zret C D rfl (na_01 (b2_lt _)) ⟨Nat.le_refl _, Nat.le_refl _⟩ dX12_isYear_6 ?_
  refine ⟨rfl, ?_⟩
  rw [b2_iff (e := rg x 4)]
  unfold rg
  rw [nI_toInt (by omega), nI_toInt (by omega)]
  omega

set_option maxHeartbeats 4000000 in
set_option maxRecDepth 100000 in
/-- isShelf -/
theorem mc_X12_isShelf {l : Launch} {E : EV} {x : Int32} {w : RW} : MC l E yX12_isShelf wsX12_isShelf 1 0 0 [.int x] (w) (fun r w' => w' = w ∧ r = some (.int (nI (b2 (rg x 8))))) := by
  refine MC.enter (cc := cX12_isShelf) (maxL := 1) (ret := (some .boolean)) (lv0 := [some (.int x)]) (by decide) rfl (by simp [Value.category]) (Nat.le_of_ble_eq_true rfl) rfl ?_
  intro X hl hE C D
  subst hl
  subst hE
  refine r_iload_n (pq := 1) C dX12_isShelf_0 rfl rfl ?_
  refine r_iconst (v := nI 0) (pq := 2) C dX12_isShelf_1 (by decide) rfl ?_
  refine r_bipush (v := nI 7) (pq := 4) C dX12_isShelf_2 (by decide) rfl ?_
  refine r_callS (pq := 7) C (mc_X12_in) gX12_isShelf_X12_in rfl (na := 3) (by decide +kernel) rfl (by decide) (by decide) (Nat.le_of_ble_eq_true rfl) ⟨Nat.zero_le _, Nat.zero_le _⟩ dX12_isShelf_4 rfl rfl (fun r9 w9 hq => ?_)
  obtain ⟨rfl, rfl⟩ := hq
  dsimp only [Option.toList, List.cons_append, List.nil_append]
  refine r_zret C D rfl (na_01 (b2_lt _)) ⟨Nat.le_refl _, Nat.le_refl _⟩ dX12_isShelf_7 ?_
  refine ⟨rfl, ?_⟩
  rw [b2_iff (e := rg x 8)]
  unfold rg
  rw [nI_toInt (by omega), nI_toInt (by omega)]
  omega

set_option maxHeartbeats 4000000 in
set_option maxRecDepth 100000 in
/-- isPerson -/
theorem mc_X12_isPerson {l : Launch} {E : EV} {x : Int32} {A : Nat → Nat} {w0 : RW} {I : Nat → Nat} {f : Nat → Nat → Nat} {g : Nat → Nat → Int32} (hB : mOK I f) : MC l E yX12_isPerson wsX12_isPerson 1 0 0 [.ref (A 0), .int x] (WM E A w0 I f g) (fun r w' => w' = WM E A w0 I f g ∧ r = some (.int (nI (b2 (rg x (I 1)))))) := by
  refine MC.enter (cc := cX12_isPerson) (maxL := 2) (ret := (some .boolean)) (lv0 := [some (.ref (A 0)), some (.int x)]) (by decide) rfl (by simp [Value.category]) (Nat.le_of_ble_eq_true rfl) rfl ?_
  intro X hl hE C D
  subst hl
  subst hE
  refine r_iload_n (pq := 1) C dX12_isPerson_0 rfl rfl ?_
  refine r_iconst (v := nI 0) (pq := 2) C dX12_isPerson_1 (by decide) rfl ?_
  refine r_aload_n (pq := 3) C dX12_isPerson_2 rfl rfl ?_
  refine m_geti (pq := 6) C hB 1 (by decide) rfl rfl (by decide +kernel) dX12_isPerson_3 rfl (fun b3 => ?_)
  refine r_iconst (v := nI 1) (pq := 7) C dX12_isPerson_6 (by decide) rfl ?_
  refine r_isub (pq := 8) C dX12_isPerson_7 rfl ?_
  refine r_callS (pq := 11) C (mc_X12_in) gX12_isPerson_X12_in rfl (na := 3) (by decide +kernel) rfl (by decide) (by decide) (Nat.le_of_ble_eq_true rfl) ⟨Nat.zero_le _, Nat.zero_le _⟩ dX12_isPerson_8 rfl rfl (fun r9 w9 hq => ?_)
  obtain ⟨rfl, rfl⟩ := hq
  dsimp only [Option.toList, List.cons_append, List.nil_append]
  refine r_zret C D rfl (na_01 (b2_lt _)) ⟨Nat.le_refl _, Nat.le_refl _⟩ dX12_isPerson_11 ?_
  refine ⟨rfl, ?_⟩
  rw [b2_iff (e := rg x (I 1))]
  unfold rg
  have e1 : (nI (I 1) - nI 1).toInt = (I 1 : Int) - 1 := pk_sub_toInt (by omega) (by omega)
  rw [e1, nI_toInt (by omega)]
  omega

set_option maxHeartbeats 4000000 in
set_option maxRecDepth 100000 in
/-- isMark -/
theorem mc_X12_isMark {l : Launch} {E : EV} {x : Int32} {A : Nat → Nat} {w0 : RW} {I : Nat → Nat} {f : Nat → Nat → Nat} {g : Nat → Nat → Int32} (hB : mOK I f) : MC l E yX12_isMark wsX12_isMark 1 0 0 [.ref (A 0), .int x] (WM E A w0 I f g) (fun r w' => w' = WM E A w0 I f g ∧ r = some (.int (nI (b2 (rg x (I 5)))))) := by
  refine MC.enter (cc := cX12_isMark) (maxL := 2) (ret := (some .boolean)) (lv0 := [some (.ref (A 0)), some (.int x)]) (by decide) rfl (by simp [Value.category]) (Nat.le_of_ble_eq_true rfl) rfl ?_
  intro X hl hE C D
  subst hl
  subst hE
  refine r_iload_n (pq := 1) C dX12_isMark_0 rfl rfl ?_
  refine r_iconst (v := nI 0) (pq := 2) C dX12_isMark_1 (by decide) rfl ?_
  refine r_aload_n (pq := 3) C dX12_isMark_2 rfl rfl ?_
  refine m_geti (pq := 6) C hB 5 (by decide) rfl rfl (by decide +kernel) dX12_isMark_3 rfl (fun b3 => ?_)
  refine r_iconst (v := nI 1) (pq := 7) C dX12_isMark_6 (by decide) rfl ?_
  refine r_isub (pq := 8) C dX12_isMark_7 rfl ?_
  refine r_callS (pq := 11) C (mc_X12_in) gX12_isMark_X12_in rfl (na := 3) (by decide +kernel) rfl (by decide) (by decide) (Nat.le_of_ble_eq_true rfl) ⟨Nat.zero_le _, Nat.zero_le _⟩ dX12_isMark_8 rfl rfl (fun r9 w9 hq => ?_)
  obtain ⟨rfl, rfl⟩ := hq
  dsimp only [Option.toList, List.cons_append, List.nil_append]
  refine r_zret C D rfl (na_01 (b2_lt _)) ⟨Nat.le_refl _, Nat.le_refl _⟩ dX12_isMark_11 ?_
  refine ⟨rfl, ?_⟩
  rw [b2_iff (e := rg x (I 5))]
  unfold rg
  have e1 : (nI (I 5) - nI 1).toInt = (I 5 : Int) - 1 := pk_sub_toInt (by omega) (by omega)
  rw [e1, nI_toInt (by omega)]
  omega

set_option maxHeartbeats 4000000 in
set_option maxRecDepth 100000 in
/-- isLaw -/
theorem mc_X12_isLaw {l : Launch} {E : EV} {x : Int32} {A : Nat → Nat} {w0 : RW} {I : Nat → Nat} {f : Nat → Nat → Nat} {g : Nat → Nat → Int32} (hB : mOK I f) : MC l E yX12_isLaw wsX12_isLaw 1 0 0 [.ref (A 0), .int x] (WM E A w0 I f g) (fun r w' => w' = WM E A w0 I f g ∧ r = some (.int (nI (b2 (rg x (I 16)))))) := by
  refine MC.enter (cc := cX12_isLaw) (maxL := 2) (ret := (some .boolean)) (lv0 := [some (.ref (A 0)), some (.int x)]) (by decide) rfl (by simp [Value.category]) (Nat.le_of_ble_eq_true rfl) rfl ?_
  intro X hl hE C D
  subst hl
  subst hE
  refine r_iload_n (pq := 1) C dX12_isLaw_0 rfl rfl ?_
  refine r_iconst (v := nI 0) (pq := 2) C dX12_isLaw_1 (by decide) rfl ?_
  refine r_aload_n (pq := 3) C dX12_isLaw_2 rfl rfl ?_
  refine m_geti (pq := 6) C hB 16 (by decide) rfl rfl (by decide +kernel) dX12_isLaw_3 rfl (fun b3 => ?_)
  refine r_iconst (v := nI 1) (pq := 7) C dX12_isLaw_6 (by decide) rfl ?_
  refine r_isub (pq := 8) C dX12_isLaw_7 rfl ?_
  refine r_callS (pq := 11) C (mc_X12_in) gX12_isLaw_X12_in rfl (na := 3) (by decide +kernel) rfl (by decide) (by decide) (Nat.le_of_ble_eq_true rfl) ⟨Nat.zero_le _, Nat.zero_le _⟩ dX12_isLaw_8 rfl rfl (fun r9 w9 hq => ?_)
  obtain ⟨rfl, rfl⟩ := hq
  dsimp only [Option.toList, List.cons_append, List.nil_append]
  refine r_zret C D rfl (na_01 (b2_lt _)) ⟨Nat.le_refl _, Nat.le_refl _⟩ dX12_isLaw_11 ?_
  refine ⟨rfl, ?_⟩
  rw [b2_iff (e := rg x (I 16))]
  unfold rg
  have e1 : (nI (I 16) - nI 1).toInt = (I 16 : Int) - 1 := pk_sub_toInt (by omega) (by omega)
  rw [e1, nI_toInt (by omega)]
  omega

set_option maxHeartbeats 4000000 in
set_option maxRecDepth 100000 in
/-- isSpan -/
theorem mc_X12_isSpan {l : Launch} {E : EV} {x y : Int32} {w : RW} : MC l E yX12_isSpan wsX12_isSpan 2 0 0 [.int x, .int y] (w) (fun r w' => w' = w ∧ r = some (.int (nI (b2 (rg x 400 ∧ rg y 400 ∧ x.toInt ≤ y.toInt))))) := by
  refine MC.enter (cc := cX12_isSpan) (maxL := 2) (ret := (some .boolean)) (lv0 := [some (.int x), some (.int y)]) (by decide) rfl (by simp [Value.category]) (Nat.le_of_ble_eq_true rfl) rfl ?_
  intro X hl hE C D
  subst hl
  subst hE
  refine r_iload_n (pq := 1) C dX12_isSpan_0 rfl rfl ?_
  refine r_callS (pq := 4) C (mc_X12_isDay) gX12_isSpan_X12_isDay rfl (na := 1) (by decide +kernel) rfl (by decide) (by decide) (Nat.le_of_ble_eq_true rfl) ⟨Nat.zero_le _, Nat.zero_le _⟩ dX12_isSpan_1 rfl rfl (fun r9 w9 hq => ?_)
  obtain ⟨rfl, rfl⟩ := hq
  dsimp only [Option.toList, List.cons_append, List.nil_append]
  have b1 := b2_lt (rg x 400)
  refine rN_if_eq (tg := 23) (pq := 7) C dX12_isSpan_4 (by decide) rfl (by omega) (fun c4 => ?_) (fun c4 => ?_)
  · refine r_iconst (v := nI 0) (pq := 24) C dX12_isSpan_23 (by decide) rfl ?_
    refine r_zret C D rfl (by decide) ⟨Nat.le_refl _, Nat.le_refl _⟩ dX12_isSpan_24 ?_
    refine ⟨rfl, ?_⟩
    simp only [le_i, lt_i, b2_1, b2_0, Classical.not_not, ne_eq] at *
    first | rw [b2_t ⟨by assumption, by assumption, by omega⟩] | (rw [b2_f]; rintro ⟨h7, h8, h9⟩; first | omega | contradiction)
  · refine r_iload_n (pq := 8) C dX12_isSpan_7 rfl rfl ?_
    refine r_callS (pq := 11) C (mc_X12_isDay) gX12_isSpan_X12_isDay rfl (na := 1) (by decide +kernel) rfl (by decide) (by decide) (Nat.le_of_ble_eq_true rfl) ⟨Nat.zero_le _, Nat.zero_le _⟩ dX12_isSpan_8 rfl rfl (fun r9 w9 hq => ?_)
    obtain ⟨rfl, rfl⟩ := hq
    dsimp only [Option.toList, List.cons_append, List.nil_append]
    have b8 := b2_lt (rg y 400)
    refine rN_if_eq (tg := 23) (pq := 14) C dX12_isSpan_11 (by decide) rfl (by omega) (fun c11 => ?_) (fun c11 => ?_)
    · refine r_iconst (v := nI 0) (pq := 24) C dX12_isSpan_23 (by decide) rfl ?_
      refine r_zret C D rfl (by decide) ⟨Nat.le_refl _, Nat.le_refl _⟩ dX12_isSpan_24 ?_
      refine ⟨rfl, ?_⟩
      simp only [le_i, lt_i, b2_1, b2_0, Classical.not_not, ne_eq] at *
      first | rw [b2_t ⟨by assumption, by assumption, by omega⟩] | (rw [b2_f]; rintro ⟨h7, h8, h9⟩; first | omega | contradiction)
    · refine r_iload_n (pq := 15) C dX12_isSpan_14 rfl rfl ?_
      refine r_iload_n (pq := 16) C dX12_isSpan_15 rfl rfl ?_
      refine r_icmp_gt (tg := 23) (pq := 19) C dX12_isSpan_16 (by decide) rfl (fun c16 => ?_) (fun c16 => ?_)
      · refine r_iconst (v := nI 0) (pq := 24) C dX12_isSpan_23 (by decide) rfl ?_
        refine r_zret C D rfl (by decide) ⟨Nat.le_refl _, Nat.le_refl _⟩ dX12_isSpan_24 ?_
        refine ⟨rfl, ?_⟩
        simp only [le_i, lt_i, b2_1, b2_0, Classical.not_not, ne_eq] at *
        first | rw [b2_t ⟨by assumption, by assumption, by omega⟩] | (rw [b2_f]; rintro ⟨h7, h8, h9⟩; first | omega | contradiction)
      · refine r_iconst (v := nI 1) (pq := 20) C dX12_isSpan_19 (by decide) rfl ?_
        refine r_goto (tg := 24) C dX12_isSpan_20 (by decide) ?_
        refine r_zret C D rfl (by decide) ⟨Nat.le_refl _, Nat.le_refl _⟩ dX12_isSpan_24 ?_
        refine ⟨rfl, ?_⟩
        simp only [le_i, lt_i, b2_1, b2_0, Classical.not_not, ne_eq] at *
        first | rw [b2_t ⟨by assumption, by assumption, by omega⟩] | (rw [b2_f]; rintro ⟨h7, h8, h9⟩; first | omega | contradiction)

def tlP (f : Nat → Nat → Nat) (m p d : Nat) : Prop := f 7 m = p ∧ f 11 m = 0 ∧ f 8 m ≤ d ∧ d ≤ f 9 m
set_option maxHeartbeats 4000000 in
set_option maxRecDepth 100000 in
/-- tells -/
theorem mc_X12_tells {l : Launch} {E : EV} {A : Nat → Nat} {w0 : RW} {I : Nat → Nat} {f : Nat → Nat → Nat} {g : Nat → Nat → Int32} (hB : mOK I f) {m p d : Nat} (hm : m < 80) (hp : p < 1000000) (hd : d < 1000000) : MC l E yX12_tells wsX12_tells 0 0 0 [.ref (A 0), .int (nI m), .int (nI p), .int (nI d)] (WM E A w0 I f g) (fun r w' => w' = WM E A w0 I f g ∧ r = some (.int (nI (b2 (tlP f m p d))))) := by
  refine MC.enter (cc := cX12_tells) (maxL := 4) (ret := (some .boolean)) (lv0 := [some (.ref (A 0)), some (.int (nI m)), some (.int (nI p)), some (.int (nI d))]) (by decide) rfl (by simp [Value.category]) (Nat.le_of_ble_eq_true rfl) rfl ?_
  intro X hl hE C D
  subst hl
  subst hE
  refine r_aload_n (pq := 1) C dX12_tells_0 rfl rfl ?_
  refine m_geta (pq := 4) C 7 (by decide) rfl rfl (by decide +kernel) dX12_tells_1 rfl ?_
  refine r_iload_n (pq := 5) C dX12_tells_4 rfl rfl ?_
  refine m_iald (pq := 6) C hB 7 80 rfl rfl (by decide) rfl (by decide) (by omega) dX12_tells_5 rfl (fun b5 => ?_)
  refine r_iload_n (pq := 7) C dX12_tells_6 rfl rfl ?_
  refine rN_icmp_ne (tg := 43) (pq := 10) C dX12_tells_7 (by decide) rfl (by omega) (by omega) (fun c7 => ?_) (fun c7 => ?_)
  · refine r_iconst (v := nI 0) (pq := 44) C dX12_tells_43 (by decide) rfl ?_
    refine r_zret C D rfl (by decide) ⟨Nat.le_refl _, Nat.le_refl _⟩ dX12_tells_44 ?_
    refine ⟨rfl, ?_⟩
    first | rw [b2_t (by unfold tlP; omega)] | rw [b2_f (by unfold tlP; omega)]
  · refine r_aload_n (pq := 11) C dX12_tells_10 rfl rfl ?_
    refine m_geta (pq := 14) C 11 (by decide) rfl rfl (by decide +kernel) dX12_tells_11 rfl ?_
    refine r_iload_n (pq := 15) C dX12_tells_14 rfl rfl ?_
    refine m_zald (pq := 16) C hB 11 80 rfl rfl (by decide) rfl (by decide) (by omega) dX12_tells_15 rfl (fun b15 => ?_)
    refine rN_if_ne (tg := 43) (pq := 19) C dX12_tells_16 (by decide) rfl (by omega) (fun c16 => ?_) (fun c16 => ?_)
    · refine r_iconst (v := nI 0) (pq := 44) C dX12_tells_43 (by decide) rfl ?_
      refine r_zret C D rfl (by decide) ⟨Nat.le_refl _, Nat.le_refl _⟩ dX12_tells_44 ?_
      refine ⟨rfl, ?_⟩
      first | rw [b2_t (by unfold tlP; omega)] | rw [b2_f (by unfold tlP; omega)]
    · refine r_iload_n (pq := 20) C dX12_tells_19 rfl rfl ?_
      refine r_aload_n (pq := 21) C dX12_tells_20 rfl rfl ?_
      refine m_geta (pq := 24) C 8 (by decide) rfl rfl (by decide +kernel) dX12_tells_21 rfl ?_
      refine r_iload_n (pq := 25) C dX12_tells_24 rfl rfl ?_
      refine m_iald (pq := 26) C hB 8 80 rfl rfl (by decide) rfl (by decide) (by omega) dX12_tells_25 rfl (fun b25 => ?_)
      refine rN_icmp_lt (tg := 43) (pq := 29) C dX12_tells_26 (by decide) rfl (by omega) (by omega) (fun c26 => ?_) (fun c26 => ?_)
      · refine r_iconst (v := nI 0) (pq := 44) C dX12_tells_43 (by decide) rfl ?_
        refine r_zret C D rfl (by decide) ⟨Nat.le_refl _, Nat.le_refl _⟩ dX12_tells_44 ?_
        refine ⟨rfl, ?_⟩
        first | rw [b2_t (by unfold tlP; omega)] | rw [b2_f (by unfold tlP; omega)]
      · refine r_iload_n (pq := 30) C dX12_tells_29 rfl rfl ?_
        refine r_aload_n (pq := 31) C dX12_tells_30 rfl rfl ?_
        refine m_geta (pq := 34) C 9 (by decide) rfl rfl (by decide +kernel) dX12_tells_31 rfl ?_
        refine r_iload_n (pq := 35) C dX12_tells_34 rfl rfl ?_
        refine m_iald (pq := 36) C hB 9 80 rfl rfl (by decide) rfl (by decide) (by omega) dX12_tells_35 rfl (fun b35 => ?_)
        refine rN_icmp_gt (tg := 43) (pq := 39) C dX12_tells_36 (by decide) rfl (by omega) (by omega) (fun c36 => ?_) (fun c36 => ?_)
        · refine r_iconst (v := nI 0) (pq := 44) C dX12_tells_43 (by decide) rfl ?_
          refine r_zret C D rfl (by decide) ⟨Nat.le_refl _, Nat.le_refl _⟩ dX12_tells_44 ?_
          refine ⟨rfl, ?_⟩
          first | rw [b2_t (by unfold tlP; omega)] | rw [b2_f (by unfold tlP; omega)]
        · refine r_iconst (v := nI 1) (pq := 40) C dX12_tells_39 (by decide) rfl ?_
          refine r_goto (tg := 44) C dX12_tells_40 (by decide) ?_
          refine r_zret C D rfl (by decide) ⟨Nat.le_refl _, Nat.le_refl _⟩ dX12_tells_44 ?_
          refine ⟨rfl, ?_⟩
          first | rw [b2_t (by unfold tlP; omega)] | rw [b2_f (by unfold tlP; omega)]


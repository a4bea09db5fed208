/-! ===== the JDK's own: Arrays.fill, Integer.bitCount ===== -/
theorem r_ldcw {X : XX} {own : String} {cc : ByteArray} {Ts : List Cond} {d nL : Nat} {w : RW} {k n pc pq : Nat} {lv : List (Option Value)} {st : List Value} (C : C0 X own cc Ts d nL) {idx : Nat} {v : Int32} (hc : Cond.constant own idx v ∈ Ts) (hdg : decode cc pc = .ok (.ldc_w idx, 3)) (hp : pc + 3 = pq) (kk : GG X w k n pq lv (.int v :: st)) : GG X w k n pc lv st := by
  subst hp
  exact fun H locs ls a b c => lv_ldcw C.exec C.code C.cls (C.wds _ hc) hdg (kk H locs ls a b c)
/-- an array filled from a to below b -/
def fil (h : Nat → Int32) (a b : Nat) (x : Int32) : Nat → Int32 := fun i => if a ≤ i ∧ i < b then x else h i
theorem fil_0 (h : Nat → Int32) (a : Nat) (x : Int32) : fil h a a x = h := by
  funext i
  unfold fil
  rw [if_neg (by omega)]
theorem fil_s (h : Nat → Int32) {a b : Nat} (hab : a ≤ b) (x : Int32) : upd (fil h a b x) b x = fil h a (b + 1) x := by
  funext i
  unfold upd fil
  by_cases e : i = b
  · subst e; rw [if_pos rfl, if_pos (by omega)]
  · rw [if_neg e]
    by_cases e2 : a ≤ i ∧ i < b
    · rw [if_pos e2, if_pos (by omega)]
    · rw [if_neg e2, if_neg (by omega)]

set_option maxHeartbeats 4000000 in
set_option maxRecDepth 100000 in
/-- rangeCheck_23922 -/
theorem mc_J7_rangeCheck_23922 {l : Launch} {E : EV} {w : RW} {n9 a9 b9 : Nat} (h1 : a9 ≤ b9) (h2 : b9 ≤ n9) (h3 : n9 < 1000000) : MC l E yJ7_rangeCheck_23922 wsJ7_rangeCheck_23922 0 0 0 [.int (nI n9), .int (nI a9), .int (nI b9)] (w) (fun v w' => v = none ∧ w' = w) := by
  refine MC.enter (cc := cJ7_rangeCheck_23922) (maxL := 3) (ret := none) (lv0 := [some (.int (nI n9)), some (.int (nI a9)), some (.int (nI b9))]) (by decide) rfl (by simp [Value.category]) (Nat.le_of_ble_eq_true rfl) rfl ?_
  intro X hl hE C D
  subst hl
  subst hE
  refine r_iload_n (pq := 1) C dJ7_rangeCheck_23922_0 rfl rfl ?_
  refine r_iload_n (pq := 2) C dJ7_rangeCheck_23922_1 rfl rfl ?_
  refine rN_icmp_le (tg := 46) (pq := 5) C dJ7_rangeCheck_23922_2 (by decide) rfl (by omega) (by omega) (fun c2 => ?_) (fun c2 => absurd c2 (by omega))
  refine r_iload_n (pq := 47) C dJ7_rangeCheck_23922_46 rfl rfl ?_
  refine rN_if_ge (tg := 59) (pq := 50) C dJ7_rangeCheck_23922_47 (by decide) rfl (by omega) ?_
  refine r_iload_n (pq := 60) C dJ7_rangeCheck_23922_59 rfl rfl ?_
  refine r_iload_n (pq := 61) C dJ7_rangeCheck_23922_60 rfl rfl ?_
  refine rN_icmp_le (tg := 73) (pq := 64) C dJ7_rangeCheck_23922_61 (by decide) rfl (by omega) (by omega) (fun c61 => ?_) (fun c61 => absurd c61 (by omega))
  refine r_vret C D rfl ⟨Nat.le_refl _, Nat.le_refl _⟩ dJ7_rangeCheck_23922_73 ?_
  exact ⟨rfl, rfl⟩

set_option maxHeartbeats 4000000 in
set_option maxRecDepth 100000 in
/-- fill_53178 -/
theorem mc_J7_fill_53178 {l : Launch} {E : EV} {w : RW} {r a N9 : Nat} {h9 : Nat → Int32} {x : Int32} (hN : N9 < 1000000) (hr : w r = some (a, .inl (E.2.1 0, N9, .inl h9))) : MC l E yJ7_fill_53178 wsJ7_fill_53178 0 0 0 [.ref a, .int x] (w) (fun v w' => v = none ∧ w' = va_up w r (some (a, .inl (E.2.1 0, N9, .inl (fil h9 0 N9 x))))) := by
  refine MC.enter (cc := cJ7_fill_53178) (maxL := 4) (ret := none) (lv0 := [some (.ref a), some (.int x), none, none]) (by decide) rfl (by simp [Value.category]) (Nat.le_of_ble_eq_true rfl) rfl ?_
  intro X hl hE C D
  subst hl
  subst hE
  have loop : ∀ (t d9 : Nat), d9 ≤ N9 → N9 - d9 < t → GG X (va_up w r (some (a, .inl ((xE X).2.1 0, N9, .inl (fil h9 0 d9 x))))) 0 0 5 [some (.ref a), some (.int x), some (.int (nI d9)), some (.int (nI N9))] [] := by
    intro t
    induction t with
    | zero => intro d9 h1 h2; omega
    | succ t ih =>
      intro d9 hd ht
      refine r_iload_n (pq := 6) C dJ7_fill_53178_5 rfl rfl ?_
      refine r_iload_n (pq := 7) C dJ7_fill_53178_6 rfl rfl ?_
      refine rN_icmp_ge (tg := 20) (pq := 10) C dJ7_fill_53178_7 (by decide) rfl (by omega) (by omega) (fun c7 => ?_) (fun c7 => ?_)
      · refine r_vret C D rfl ⟨Nat.le_refl _, Nat.le_refl _⟩ dJ7_fill_53178_20 ?_
        refine ⟨rfl, ?_⟩
        have e9 : d9 = N9 := by omega
        rw [e9]
      · refine r_aload_n (pq := 11) C dJ7_fill_53178_10 rfl rfl ?_
        refine r_iload_n (pq := 12) C dJ7_fill_53178_11 rfl rfl ?_
        refine r_iload_n (pq := 13) C dJ7_fill_53178_12 rfl rfl ?_
        refine rN_iast (pq := 14) C (va_s _ _ _) (by omega) (by omega) dJ7_fill_53178_13 rfl ?_
        refine GG.cast (bx_uu _ _ _ _) ?_
        rw [fil_s h9 (Nat.zero_le _)]
        refine rN_iinc (c := 1) (pq := 17) C dJ7_fill_53178_14 rfl (by decide) (by decide) rfl rfl ?_
        dsimp only [List.set]
        refine r_goto (tg := 5) C dJ7_fill_53178_17 (by decide) ?_
        exact ih (d9 + 1) (by omega) (by omega)
  refine r_iconst (v := nI 0) (pq := 1) C dJ7_fill_53178_0 (by decide) rfl ?_
  refine r_istore_n (j := 2) (pq := 2) C dJ7_fill_53178_1 rfl (by decide) rfl rfl ?_
  dsimp only [List.set]
  refine r_aload_n (pq := 3) C dJ7_fill_53178_2 rfl rfl ?_
  refine r_alen (pq := 4) C (v := nI N9) 0 rfl hr rfl dJ7_fill_53178_3 rfl ?_
  refine r_istore_n (j := 3) (pq := 5) C dJ7_fill_53178_4 rfl (by decide) rfl rfl ?_
  dsimp only [List.set]
  refine GG.cast (ve_self hr).symm ?_
  rw [← fil_0 h9 0 x]
  exact loop (N9 + 1) 0 (by omega) (by omega)

set_option maxHeartbeats 4000000 in
set_option maxRecDepth 100000 in
/-- fill_fda19 -/
theorem mc_J7_fill_fda19 {l : Launch} {E : EV} {w : RW} {r a N9 a9 b9 : Nat} {h9 : Nat → Int32} {x : Int32} (hN : N9 < 1000000) (hab : a9 ≤ b9) (hb : b9 ≤ N9) (hr : w r = some (a, .inl (E.2.1 0, N9, .inl h9))) : MC l E yJ7_fill_fda19 wsJ7_fill_fda19 1 0 0 [.ref a, .int (nI a9), .int (nI b9), .int x] (w) (fun v w' => v = none ∧ w' = va_up w r (some (a, .inl (E.2.1 0, N9, .inl (fil h9 a9 b9 x))))) := by
  refine MC.enter (cc := cJ7_fill_fda19) (maxL := 5) (ret := none) (lv0 := [some (.ref a), some (.int (nI a9)), some (.int (nI b9)), some (.int x), none]) (by decide) rfl (by simp [Value.category]) (Nat.le_of_ble_eq_true rfl) rfl ?_
  intro X hl hE C D
  subst hl
  subst hE
  have loop : ∀ (t d9 : Nat), a9 ≤ d9 → d9 ≤ b9 → b9 - d9 < t → GG X (va_up w r (some (a, .inl ((xE X).2.1 0, N9, .inl (fil h9 a9 d9 x))))) 0 0 10 [some (.ref a), some (.int (nI a9)), some (.int (nI b9)), some (.int x), some (.int (nI d9))] [] := by
    intro t
    induction t with
    | zero => intro d9 ha h1 h2; omega
    | succ t ih =>
      intro d9 ha hd ht
      refine r_iload (pq := 12) C dJ7_fill_fda19_10 rfl rfl ?_
      refine r_iload_n (pq := 13) C dJ7_fill_fda19_12 rfl rfl ?_
      refine rN_icmp_ge (tg := 27) (pq := 16) C dJ7_fill_fda19_13 (by decide) rfl (by omega) (by omega) (fun c13 => ?_) (fun c13 => ?_)
      · refine r_vret C D rfl ⟨Nat.le_refl _, Nat.le_refl _⟩ dJ7_fill_fda19_27 ?_
        refine ⟨rfl, ?_⟩
        have e9 : d9 = b9 := by omega
        rw [e9]
      · refine r_aload_n (pq := 17) C dJ7_fill_fda19_16 rfl rfl ?_
        refine r_iload (pq := 19) C dJ7_fill_fda19_17 rfl rfl ?_
        refine r_iload_n (pq := 20) C dJ7_fill_fda19_19 rfl rfl ?_
        refine rN_iast (pq := 21) C (va_s _ _ _) (by omega) (by omega) dJ7_fill_fda19_20 rfl ?_
        refine GG.cast (bx_uu _ _ _ _) ?_
        rw [fil_s h9 ha]
        refine rN_iinc (c := 1) (pq := 24) C dJ7_fill_fda19_21 rfl (by decide) (by decide) rfl rfl ?_
        dsimp only [List.set]
        refine r_goto (tg := 10) C dJ7_fill_fda19_24 (by decide) ?_
        exact ih (d9 + 1) (by omega) (by omega) (by omega)
  refine r_aload_n (pq := 1) C dJ7_fill_fda19_0 rfl rfl ?_
  refine r_alen (pq := 2) C (v := nI N9) 0 rfl hr rfl dJ7_fill_fda19_1 rfl ?_
  refine r_iload_n (pq := 3) C dJ7_fill_fda19_2 rfl rfl ?_
  refine r_iload_n (pq := 4) C dJ7_fill_fda19_3 rfl rfl ?_
  refine r_callS (pq := 7) C (mc_J7_rangeCheck_23922 hab hb hN) gJ7_fill_fda19_J7_rangeCheck_23922 rfl (na := 3) (by decide +kernel) rfl (by decide) (by decide) (Nat.le_of_ble_eq_true rfl) ⟨Nat.zero_le _, Nat.zero_le _⟩ dJ7_fill_fda19_4 rfl rfl (fun r9 w9 hq => ?_)
  obtain ⟨rfl, rfl⟩ := hq
  dsimp only [Option.toList, List.cons_append, List.nil_append]
  refine r_iload_n (pq := 8) C dJ7_fill_fda19_7 rfl rfl ?_
  refine r_istore (j := 4) (pq := 10) C dJ7_fill_fda19_8 rfl (by decide) rfl rfl ?_
  dsimp only [List.set]
  refine GG.cast (ve_self hr).symm ?_
  rw [← fil_0 h9 a9 x]
  exact loop (b9 + 1) a9 (Nat.le_refl _) hab (by omega)

def us (x y : Int32) : Int32 := (x.toUInt32 >>> (y.toUInt32 &&& Int32.toUInt32 31)).toInt32
def bc1 (x : Int32) : Int32 := x - (us x (nI 1) &&& 1431655765)
def bc2 (x : Int32) : Int32 := (x &&& 858993459) + (us x (nI 2) &&& 858993459)
def bc3 (x : Int32) : Int32 := (x + us x (nI 4)) &&& 252645135
def bc4 (x : Int32) : Int32 := x + us x (nI 8)
def bc5 (x : Int32) : Int32 := x + us x (nI 16)
def bcn (c : Nat) : Nat := c % 2 + c / 2 % 2 + c / 4 % 2 + c / 8 % 2 + c / 16 % 2 + c / 32 % 2 + c / 64 % 2 + c / 128 % 2
theorem bc_ok : ∀ c, c < 256 → bc5 (bc4 (bc3 (bc2 (bc1 (nI c))))) &&& nI 63 = nI (bcn c) := by decide +kernel
theorem bcn_le (c : Nat) : bcn c ≤ 8 := by unfold bcn; omega
theorem bcn_1 : ∀ c, c < 256 → c ≠ 0 → (bcn c = 1 ↔ c &&& (c - 1) = 0) := by decide +kernel

set_option maxHeartbeats 4000000 in
set_option maxRecDepth 100000 in
/-- bitCount_0f7a4 -/
theorem mc_J6_bitCount_0f7a4 {l : Launch} {E : EV} {w : RW} {c9 : Nat} (hc : c9 < 256) : MC l E yJ6_bitCount_0f7a4 wsJ6_bitCount_0f7a4 0 0 0 [.int (nI c9)] (w) (fun v w' => w' = w ∧ v = some (.int (nI (bcn c9)))) := by
  refine MC.enter (cc := cJ6_bitCount_0f7a4) (maxL := 1) (ret := (some .int)) (lv0 := [some (.int (nI c9))]) (by decide) rfl (by simp [Value.category]) (Nat.le_of_ble_eq_true rfl) rfl ?_
  intro X hl hE C D
  subst hl
  subst hE
  refine r_iload_n (pq := 1) C dJ6_bitCount_0f7a4_0 rfl rfl ?_
  refine r_iload_n (pq := 2) C dJ6_bitCount_0f7a4_1 rfl rfl ?_
  refine r_iconst (v := nI 1) (pq := 3) C dJ6_bitCount_0f7a4_2 (by decide) rfl ?_
  refine r_iushr (pq := 4) C dJ6_bitCount_0f7a4_3 rfl ?_
  refine r_ldcw (pq := 7) C (v := 1431655765) (by decide +kernel) dJ6_bitCount_0f7a4_4 rfl ?_
  refine r_iand (pq := 8) C dJ6_bitCount_0f7a4_7 rfl ?_
  refine r_isub (pq := 9) C dJ6_bitCount_0f7a4_8 rfl ?_
  refine r_top (fun z hz => ?_)
  change z = bc1 _ at hz
  subst hz
  refine r_istore_n (j := 0) (pq := 10) C dJ6_bitCount_0f7a4_9 rfl (by decide) rfl rfl ?_
  dsimp only [List.set]
  refine r_iload_n (pq := 11) C dJ6_bitCount_0f7a4_10 rfl rfl ?_
  refine r_ldcw (pq := 14) C (v := 858993459) (by decide +kernel) dJ6_bitCount_0f7a4_11 rfl ?_
  refine r_iand (pq := 15) C dJ6_bitCount_0f7a4_14 rfl ?_
  refine r_iload_n (pq := 16) C dJ6_bitCount_0f7a4_15 rfl rfl ?_
  refine r_iconst (v := nI 2) (pq := 17) C dJ6_bitCount_0f7a4_16 (by decide) rfl ?_
  refine r_iushr (pq := 18) C dJ6_bitCount_0f7a4_17 rfl ?_
  refine r_ldcw (pq := 21) C (v := 858993459) (by decide +kernel) dJ6_bitCount_0f7a4_18 rfl ?_
  refine r_iand (pq := 22) C dJ6_bitCount_0f7a4_21 rfl ?_
  refine r_iadd (pq := 23) C dJ6_bitCount_0f7a4_22 rfl ?_
  refine r_top (fun z hz => ?_)
  change z = bc2 _ at hz
  subst hz
  refine r_istore_n (j := 0) (pq := 24) C dJ6_bitCount_0f7a4_23 rfl (by decide) rfl rfl ?_
  dsimp only [List.set]
  refine r_iload_n (pq := 25) C dJ6_bitCount_0f7a4_24 rfl rfl ?_
  refine r_iload_n (pq := 26) C dJ6_bitCount_0f7a4_25 rfl rfl ?_
  refine r_iconst (v := nI 4) (pq := 27) C dJ6_bitCount_0f7a4_26 (by decide) rfl ?_
  refine r_iushr (pq := 28) C dJ6_bitCount_0f7a4_27 rfl ?_
  refine r_iadd (pq := 29) C dJ6_bitCount_0f7a4_28 rfl ?_
  refine r_ldcw (pq := 32) C (v := 252645135) (by decide +kernel) dJ6_bitCount_0f7a4_29 rfl ?_
  refine r_iand (pq := 33) C dJ6_bitCount_0f7a4_32 rfl ?_
  refine r_top (fun z hz => ?_)
  change z = bc3 _ at hz
  subst hz
  refine r_istore_n (j := 0) (pq := 34) C dJ6_bitCount_0f7a4_33 rfl (by decide) rfl rfl ?_
  dsimp only [List.set]
  refine r_iload_n (pq := 35) C dJ6_bitCount_0f7a4_34 rfl rfl ?_
  refine r_iload_n (pq := 36) C dJ6_bitCount_0f7a4_35 rfl rfl ?_
  refine r_bipush (v := nI 8) (pq := 38) C dJ6_bitCount_0f7a4_36 (by decide) rfl ?_
  refine r_iushr (pq := 39) C dJ6_bitCount_0f7a4_38 rfl ?_
  refine r_iadd (pq := 40) C dJ6_bitCount_0f7a4_39 rfl ?_
  refine r_top (fun z hz => ?_)
  change z = bc4 _ at hz
  subst hz
  refine r_istore_n (j := 0) (pq := 41) C dJ6_bitCount_0f7a4_40 rfl (by decide) rfl rfl ?_
  dsimp only [List.set]
  refine r_iload_n (pq := 42) C dJ6_bitCount_0f7a4_41 rfl rfl ?_
  refine r_iload_n (pq := 43) C dJ6_bitCount_0f7a4_42 rfl rfl ?_
  refine r_bipush (v := nI 16) (pq := 45) C dJ6_bitCount_0f7a4_43 (by decide) rfl ?_
  refine r_iushr (pq := 46) C dJ6_bitCount_0f7a4_45 rfl ?_
  refine r_iadd (pq := 47) C dJ6_bitCount_0f7a4_46 rfl ?_
  refine r_top (fun z hz => ?_)
  change z = bc5 _ at hz
  subst hz
  refine r_istore_n (j := 0) (pq := 48) C dJ6_bitCount_0f7a4_47 rfl (by decide) rfl rfl ?_
  dsimp only [List.set]
  refine r_iload_n (pq := 49) C dJ6_bitCount_0f7a4_48 rfl rfl ?_
  refine r_bipush (v := nI 63) (pq := 51) C dJ6_bitCount_0f7a4_49 (by decide) rfl ?_
  refine r_iand (pq := 52) C dJ6_bitCount_0f7a4_51 rfl ?_
  refine r_iret C D rfl ⟨Nat.le_refl _, Nat.le_refl _⟩ dJ6_bitCount_0f7a4_52 ?_
  exact ⟨rfl, congrArg (fun z => some (Value.int z)) (bc_ok c9 hc)⟩


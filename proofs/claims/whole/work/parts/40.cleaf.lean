/-! ===== the class: Held, Tally ===== -/
set_option maxHeartbeats 4000000 in
set_option maxRecDepth 100000 in
/-- init -/
theorem mc_X2_init {l : Launch} {E : EV} {w : RW} {a : Nat} : MC l E yX2_init wsX2_init 1 0 0 [.ref a] (w) (fun r w' => r = none ∧ w' = w) := by
  refine MC.enter (cc := cX2_init) (maxL := 1) (ret := none) (lv0 := [some (.ref a)]) (by decide) rfl (by simp [Value.category]) (Nat.le_of_ble_eq_true rfl) rfl ?_
  intro X hl hE C D
  subst hl
  subst hE
  refine r_aload_n (pq := 1) C dX2_init_0 rfl rfl ?_
  refine r_objInit (pq := 4) C (by decide +kernel) (by decide +kernel) (List.mem_cons_of_mem _ (List.mem_of_getElem? (i := 2) rfl)) (by decide) (Nat.le_of_ble_eq_true rfl) dX2_init_1 rfl ?_
  refine r_vret C D rfl ⟨Nat.le_refl _, Nat.le_refl _⟩ dX2_init_4 ?_
  exact ⟨rfl, rfl⟩

set_option maxHeartbeats 4000000 in
set_option maxRecDepth 100000 in
/-- fail -/
theorem mc_X2_fail {l : Launch} {E : EV} {w : RW} {a : Nat} : MC l E yX2_fail wsX2_fail 0 0 0 [.ref a] (w) (fun r w' => r = none ∧ w' = w) := by
  refine MC.enter (cc := cX2_fail) (maxL := 1) (ret := none) (lv0 := [some (.ref a)]) (by decide) rfl (by simp [Value.category]) (Nat.le_of_ble_eq_true rfl) rfl ?_
  intro X hl hE C D
  subst hl
  subst hE
  refine r_vret C D rfl ⟨Nat.le_refl _, Nat.le_refl _⟩ dX2_fail_0 ?_
  exact ⟨rfl, rfl⟩

set_option maxHeartbeats 4000000 in
set_option maxRecDepth 100000 in
/-- failureNumber -/
theorem mc_X2_failureNumber {l : Launch} {E : EV} {w : RW} {a : Nat} : MC l E yX2_failureNumber wsX2_failureNumber 0 0 0 [.ref a] (w) (fun r w' => w' = w ∧ r = some (.int (-15))) := by
  refine MC.enter (cc := cX2_failureNumber) (maxL := 1) (ret := (some .int)) (lv0 := [some (.ref a)]) (by decide) rfl (by simp [Value.category]) (Nat.le_of_ble_eq_true rfl) rfl ?_
  intro X hl hE C D
  subst hl
  subst hE
  refine r_bipush (v := (-15)) (pq := 2) C dX2_failureNumber_0 (by decide) rfl ?_
  refine r_iret C D rfl ⟨Nat.le_refl _, Nat.le_refl _⟩ dX2_failureNumber_2 ?_
  exact ⟨rfl, rfl⟩

set_option maxHeartbeats 4000000 in
set_option maxRecDepth 100000 in
/-- init -/
theorem mc_X8_init {l : Launch} {E : EV} {w : RW} {r a : Nat} {l9 z x y : Int32} (hr : w r = some (a, .inr (9, [.int z, .int x, .int y]))) : MC l E yX8_init wsX8_init 1 0 0 [.ref a, .int l9] (w) (fun v w' => v = none ∧ w' = va_up w r (some (a, .inr (9, [.int l9, .int x, .int y])))) := by
  refine MC.enter (cc := cX8_init) (maxL := 2) (ret := none) (lv0 := [some (.ref a), some (.int l9)]) (by decide) rfl (by simp [Value.category]) (Nat.le_of_ble_eq_true rfl) rfl ?_
  intro X hl hE C D
  subst hl
  subst hE
  refine r_aload_n (pq := 1) C dX8_init_0 rfl rfl ?_
  refine r_objInit (pq := 4) C (by decide +kernel) (by decide +kernel) (List.mem_cons_of_mem _ (List.mem_append_left _ (List.mem_of_getElem? (i := 2) rfl))) (by decide) (Nat.le_of_ble_eq_true rfl) dX8_init_1 rfl ?_
  refine r_aload_n (pq := 5) C dX8_init_4 rfl rfl ?_
  refine r_iload_n (pq := 6) C dX8_init_5 rfl rfl ?_
  refine r_putfF (pq := 9) C D.2.2.1 0 hr rfl tyX8 tyX8_ok nmX8 (by decide) (by decide +kernel) rfl rfl rfl rfl rfl rfl (Nat.le_of_ble_eq_true rfl) dX8_init_6 rfl ?_
  refine r_vret C D rfl ⟨Nat.le_refl _, Nat.le_refl _⟩ dX8_init_9 ?_
  exact ⟨rfl, rfl⟩

theorem ta_bit {c l : Nat} (hl : l < 8) (hc : c < 2147483648) : nI c >>> (nI l &&& 31) &&& nI 1 = nI (c / 2 ^ l % 2) := by
  rw [na_shr (by omega) hc, na_and, Nat.and_one_is_mod]
theorem ta_pw {l : Nat} (hl : l < 8) : nI 1 <<< (nI l &&& 31) = nI (2 ^ l) := by
  have := pw8 hl
  rw [na_shl (by omega) (by omega), Nat.one_mul]
theorem pw_bit {c l : Nat} (h : c = 2 ^ l) : c / 2 ^ l % 2 = 1 := by
  subst h
  rw [Nat.div_self (Nat.two_pow_pos l)]
/-- the least and the most, once a night c has come k times -/
def tL (l c : Nat) (k x : Int32) : Int32 := if c = 2 ^ l then x + k else x
def tM (l c : Nat) (k y : Int32) : Int32 := if c / 2 ^ l % 2 = 1 then y + k else y
theorem ve_self {w : RW} {r : Nat} {x : Nat × va_E} (h : w r = some x) : va_up w r (some x) = w := by
  funext q
  by_cases e : q = r
  · subst e; rw [va_s, h]
  · rw [va_n _ _ e]
set_option maxHeartbeats 4000000 in
set_option maxRecDepth 100000 in
/-- add -/
theorem mc_X8_add {l : Launch} {E : EV} {w : RW} {r a l9 c : Nat} {k x y : Int32} (hl : l9 < 8) (hc : c < 1000000) (hr : w r = some (a, .inr (9, [.int (nI l9), .int x, .int y]))) : MC l E yX8_add wsX8_add 0 0 0 [.ref a, .int (nI c), .int k] (w) (fun v w' => v = none ∧ w' = va_up w r (some (a, .inr (9, [.int (nI l9), .int (tL l9 c k x), .int (tM l9 c k y)])))) := by
  refine MC.enter (cc := cX8_add) (maxL := 3) (ret := none) (lv0 := [some (.ref a), some (.int (nI c)), some (.int k)]) (by decide) rfl (by simp [Value.category]) (Nat.le_of_ble_eq_true rfl) rfl ?_
  intro X hl hE C D
  subst hl
  subst hE
  have hpw := pw8 hl
  have hbt : c / 2 ^ l9 % 2 < 2 := Nat.mod_lt _ (by decide)
  refine r_iload_n (pq := 1) C dX8_add_0 rfl rfl ?_
  refine r_aload_n (pq := 2) C dX8_add_1 rfl rfl ?_
  refine r_getf (pq := 5) C 0 hr rfl (by decide) (by decide +kernel) (Or.inl rfl) rfl dX8_add_2 rfl ?_
  refine r_ishr (pq := 6) C dX8_add_5 rfl ?_
  refine r_iconst (v := nI 1) (pq := 7) C dX8_add_6 (by decide) rfl ?_
  refine r_iand (pq := 8) C dX8_add_7 rfl ?_
  refine r_at (ta_bit hl (by omega)) ?_
  refine rN_if_eq (tg := 41) (pq := 11) C dX8_add_8 (by decide) rfl (by omega) (fun c8 => ?_) (fun c8 => ?_)
  · refine r_vret C D rfl ⟨Nat.le_refl _, Nat.le_refl _⟩ dX8_add_41 ?_
    refine ⟨rfl, ?_⟩
    unfold tL tM
    rw [if_neg (fun e => by have := pw_bit e; omega), if_neg (by omega)]
    exact (ve_self hr).symm
  · refine r_aload_n (pq := 12) C dX8_add_11 rfl rfl ?_
    refine r_dup (pq := 13) C dX8_add_12 rfl rfl ?_
    refine r_getf (pq := 16) C 2 hr rfl (by decide) (by decide +kernel) (Or.inl rfl) rfl dX8_add_13 rfl ?_
    refine r_iload_n (pq := 17) C dX8_add_16 rfl rfl ?_
    refine r_iadd (pq := 18) C dX8_add_17 rfl ?_
    refine r_putf (pq := 21) C 2 hr rfl tyX8 tyX8_ok nmX8 (by decide) (by decide +kernel) (Or.inl rfl) rfl rfl rfl rfl (Nat.le_of_ble_eq_true rfl) dX8_add_18 rfl ?_
    refine r_iload_n (pq := 22) C dX8_add_21 rfl rfl ?_
    refine r_iconst (v := nI 1) (pq := 23) C dX8_add_22 (by decide) rfl ?_
    refine r_aload_n (pq := 24) C dX8_add_23 rfl rfl ?_
    refine r_getf (pq := 27) C 0 (va_s _ _ _) rfl (by decide) (by decide +kernel) (Or.inl rfl) rfl dX8_add_24 rfl ?_
    refine r_ishl (pq := 28) C dX8_add_27 rfl ?_
    refine r_at (ta_pw hl) ?_
    refine rN_icmp_ne (tg := 41) (pq := 31) C dX8_add_28 (by decide) rfl (by omega) (by omega) (fun c28 => ?_) (fun c28 => ?_)
    · refine r_vret C D rfl ⟨Nat.le_refl _, Nat.le_refl _⟩ dX8_add_41 ?_
      refine ⟨rfl, ?_⟩
      unfold tL tM
      rw [if_neg c28, if_pos (by omega)]
      rfl
    · refine r_aload_n (pq := 32) C dX8_add_31 rfl rfl ?_
      refine r_dup (pq := 33) C dX8_add_32 rfl rfl ?_
      refine r_getf (pq := 36) C 1 (va_s _ _ _) rfl (by decide) (by decide +kernel) (Or.inl rfl) rfl dX8_add_33 rfl ?_
      refine r_iload_n (pq := 37) C dX8_add_36 rfl rfl ?_
      refine r_iadd (pq := 38) C dX8_add_37 rfl ?_
      refine r_putf (pq := 41) C 1 (va_s _ _ _) rfl tyX8 tyX8_ok nmX8 (by decide) (by decide +kernel) (Or.inl rfl) rfl rfl rfl rfl (Nat.le_of_ble_eq_true rfl) dX8_add_38 rfl ?_
      refine GG.cast (bx_uu _ _ _ _) ?_
      refine r_vret C D rfl ⟨Nat.le_refl _, Nat.le_refl _⟩ dX8_add_41 ?_
      refine ⟨rfl, ?_⟩
      unfold tL tM
      rw [if_pos c28, if_pos (by omega)]
      rfl


/-! ===== the class: tallies over a row, laws ===== -/
def sl (h : Nat → Nat) (a b : Nat) : Nat := ps h b - ps h a
theorem sl_s (h : Nat → Nat) {a b : Nat} (hab : a ≤ b) : sl h a (b + 1) = sl h a b + h b := by
  have := ps_mono h hab
  simp only [sl, ps]
  omega
theorem sl_0 (h : Nat → Nat) (a : Nat) : sl h a a = 0 := by unfold sl; omega
theorem sl_le {h : Nat → Nat} (hh : ∀ i, h i ≤ 1) (a b : Nat) : sl h a b ≤ b := by
  have := ps_le hh b
  unfold sl
  omega
/-- the sum over the last R of e nights -/
def wsm (h : Nat → Nat) (R e : Nat) : Nat := sl h (e - R) e
theorem tL_1 {l c n : Nat} : tL l c (nI 1) (nI n) = nI (n + if c = 2 ^ l then 1 else 0) := by
  unfold tL
  by_cases h : c = 2 ^ l
  · rw [if_pos h, if_pos h, nI_add]
  · rw [if_neg h, if_neg h, Nat.add_zero]
theorem tM_1 {l c n : Nat} : tM l c (nI 1) (nI n) = nI (n + c / 2 ^ l % 2) := by
  unfold tM
  by_cases h : c / 2 ^ l % 2 = 1
  · rw [if_pos h, h, nI_add]
  · rw [if_neg h, show c / 2 ^ l % 2 = 0 by omega, Nat.add_zero]
theorem tL_1q {l n i : Nat} {c : Nat → Nat} : tL l (c i) (nI 1) (nI n) = nI (n + lq l c i) := tL_1
theorem tM_1q {l n i : Nat} {c : Nat → Nat} : tM l (c i) (nI 1) (nI n) = nI (n + mq l c i) := tM_1
theorem tL_m {l c n : Nat} (hn : c = 2 ^ l → 1 ≤ n) : tL l c (-1) (nI n) = nI (n - if c = 2 ^ l then 1 else 0) := by
  unfold tL
  by_cases h : c = 2 ^ l
  · rw [if_pos h, if_pos h]
    obtain ⟨m, rfl⟩ : ∃ m, n = m + 1 := ⟨n - 1, by have := hn h; omega⟩
    exact pk_m1 m
  · rw [if_neg h, if_neg h, Nat.sub_zero]
theorem tM_m {l c n : Nat} (hn : c / 2 ^ l % 2 = 1 → 1 ≤ n) : tM l c (-1) (nI n) = nI (n - c / 2 ^ l % 2) := by
  unfold tM
  by_cases h : c / 2 ^ l % 2 = 1
  · rw [if_pos h, h]
    obtain ⟨m, rfl⟩ : ∃ m, n = m + 1 := ⟨n - 1, by have := hn h; omega⟩
    exact pk_m1 m
  · rw [if_neg h, show c / 2 ^ l % 2 = 0 by omega, Nat.sub_zero]
/-- a tally's cell -/
abbrev tC (a l x y : Nat) : Option (Nat × va_E) := some (a, .inr (9, [.int (nI l), .int (nI x), .int (nI y)]))
abbrev tCz (a l : Nat) (x y : Int32) : Option (Nat × va_E) := some (a, .inr (9, [.int (nI l), .int x, .int y]))
/-- a row of 400 nights holds c -/
abbrev rowC (E : EV) (a : Nat) (h : Nat → Int32) : Option (Nat × va_E) := some (a, .inl (E.2.1 0, 400, .inl h))

set_option maxHeartbeats 4000000 in
set_option maxRecDepth 100000 in
/-- sum -/
theorem mc_X8_sum {l : Launch} {E : EV} {w : RW} {r rr a ar l9 a9 b9 : Nat} {h9 : Nat → Int32} {c : Nat → Nat} {z u x y : Int32} (hl : l9 < 8) (hrr : rr ≠ r) (ha9 : a9 = z.toInt.toNat) (hb9 : b9 = (u.toInt + 1).toNat) (hz : z.toInt < 1000) (hu : u.toInt < 400) (hc : ∀ i, i < 400 → h9 i = nI (c i) ∧ c i < 1000000) (hr : w r = tCz a l9 x y) (hrw : w rr = rowC E ar h9) : MC l E yX8_sum wsX8_sum 1 0 0 [.ref a, .ref ar, .int z, .int u] (w) (fun v w' => v = none ∧ w' = va_up w r (tC a l9 (sl (lq l9 c) a9 b9) (sl (mq l9 c) a9 b9))) := by
  refine MC.enter (cc := cX8_sum) (maxL := 5) (ret := none) (lv0 := [some (.ref a), some (.ref ar), some (.int z), some (.int u), none]) (by decide) rfl (by simp [Value.category]) (Nat.le_of_ble_eq_true rfl) rfl ?_
  intro X hl hE C D
  subst hl
  subst hE
  have hmax : (if z < nI 0 then nI 0 else z) = nI a9 := by
    by_cases q : z < nI 0
    · rw [if_pos q]
      rw [lt_i, nI_toInt (by omega)] at q
      rw [show a9 = 0 by omega]
    · rw [if_neg q]
      rw [lt_i, nI_toInt (by omega)] at q
      obtain ⟨j, hj, e⟩ := rg_of (x := z) (n := 1000000) ⟨by omega, by omega⟩ (by omega)
      subst e
      rw [nI_toInt (by omega)] at ha9
      rw [ha9]
      congr 1
  have hfin : va_up w r (tC a l9 (sl (lq l9 c) a9 (max a9 b9)) (sl (mq l9 c) a9 (max a9 b9))) = va_up w r (tC a l9 (sl (lq l9 c) a9 b9) (sl (mq l9 c) a9 b9)) := by
    by_cases q : a9 ≤ b9
    · rw [Nat.max_eq_right q]
    · rw [Nat.max_eq_left (by omega)]
      have m1 := ps_mono (lq l9 c) (show b9 ≤ a9 by omega)
      have m2 := ps_mono (mq l9 c) (show b9 ≤ a9 by omega)
      have e1 : sl (lq l9 c) a9 b9 = 0 := by unfold sl; omega
      have e2 : sl (mq l9 c) a9 b9 = 0 := by unfold sl; omega
      rw [e1, e2, sl_0, sl_0]
  have loop : ∀ (t d9 : Nat), a9 ≤ d9 → d9 ≤ max a9 b9 → max a9 b9 - d9 < t → GG X (va_up w r (tC a l9 (sl (lq l9 c) a9 d9) (sl (mq l9 c) a9 d9))) 0 0 17 [some (.ref a), some (.ref ar), some (.int z), some (.int u), some (.int (nI d9))] [] := by
    intro t
    induction t with
    | zero => intro d9 ha h1 h2; omega
    | succ t ih =>
      intro d9 ha hd ht
      have hrow : (va_up w r (tC a l9 (sl (lq l9 c) a9 d9) (sl (mq l9 c) a9 d9))) rr = rowC (xE X) ar h9 := by rw [va_n _ _ hrr]; exact hrw
      refine r_iload (pq := 19) C dX8_sum_17 rfl rfl ?_
      refine r_iload_n (pq := 20) C dX8_sum_19 rfl rfl ?_
      refine r_icmp_gt (tg := 45) (pq := 23) C dX8_sum_20 (by decide) rfl (fun c20 => ?_) (fun c20 => ?_)
      · refine r_vret C D rfl ⟨Nat.le_refl _, Nat.le_refl _⟩ dX8_sum_45 ?_
        refine ⟨rfl, ?_⟩
        rw [lt_i, nI_toInt (by omega)] at c20
        have e9 : d9 = max a9 b9 := by omega
        rw [e9]
        exact hfin
      · rw [lt_i, nI_toInt (by omega)] at c20
        refine r_iload (pq := 25) C dX8_sum_23 rfl rfl ?_
        refine r_aload_n (pq := 26) C dX8_sum_25 rfl rfl ?_
        refine r_alen (pq := 27) C (v := nI 400) 0 rfl hrow rfl dX8_sum_26 rfl ?_
        refine rN_icmp_ge (tg := 45) (pq := 30) C dX8_sum_27 (by decide) rfl (by omega) (by omega) (fun c27 => ?_) (fun c27 => ?_)
        · refine r_vret C D rfl ⟨Nat.le_refl _, Nat.le_refl _⟩ dX8_sum_45 ?_
          refine ⟨rfl, ?_⟩
          have e9 : d9 = max a9 b9 := by omega
          rw [e9]
          exact hfin
        · refine r_aload_n (pq := 31) C dX8_sum_30 rfl rfl ?_
          refine r_aload_n (pq := 32) C dX8_sum_31 rfl rfl ?_
          refine r_iload (pq := 34) C dX8_sum_32 rfl rfl ?_
          refine rN_iald (pq := 35) C hrow (by omega) (by decide) dX8_sum_34 rfl ?_
          refine r_at (hc d9 (by omega)).1 ?_
          refine r_iconst (v := nI 1) (pq := 36) C dX8_sum_35 (by decide) rfl ?_
          refine r_callV (pq := 39) C (mc_X8_add hl (hc d9 (by omega)).2 (va_s _ _ _)) (va_s _ _ _) rfl gX8_sum_X8_add rfl (na := 2) (by decide +kernel) rfl (by decide) (by decide) (Nat.le_of_ble_eq_true rfl) ⟨Nat.zero_le _, Nat.zero_le _⟩ dX8_sum_36 rfl rfl (fun r9 w9 hq => ?_)
          obtain ⟨rfl, rfl⟩ := hq
          dsimp only [Option.toList, List.cons_append, List.nil_append]
          refine GG.cast (bx_uu _ _ _ _) ?_
          rw [tL_1q, tM_1q, ← sl_s _ ha, ← sl_s _ ha]
          refine rN_iinc (c := 1) (pq := 42) C dX8_sum_39 rfl (by decide) (by decide) rfl rfl ?_
          dsimp only [List.set]
          refine r_goto (tg := 17) C dX8_sum_42 (by decide) ?_
          exact ih (d9 + 1) (by omega) (by omega) (by omega)
  refine r_aload_n (pq := 1) C dX8_sum_0 rfl rfl ?_
  refine r_iconst (v := nI 0) (pq := 2) C dX8_sum_1 (by decide) rfl ?_
  refine r_putf (pq := 5) C 1 hr rfl tyX8 tyX8_ok nmX8 (by decide) (by decide +kernel) (Or.inl rfl) rfl rfl rfl rfl (Nat.le_of_ble_eq_true rfl) dX8_sum_2 rfl ?_
  refine r_aload_n (pq := 6) C dX8_sum_5 rfl rfl ?_
  refine r_iconst (v := nI 0) (pq := 7) C dX8_sum_6 (by decide) rfl ?_
  refine r_putf (pq := 10) C 2 (va_s _ _ _) rfl tyX8 tyX8_ok nmX8 (by decide) (by decide +kernel) (Or.inl rfl) rfl rfl rfl rfl (Nat.le_of_ble_eq_true rfl) dX8_sum_7 rfl ?_
  refine GG.cast (bx_uu _ _ _ _) ?_
  refine r_iload_n (pq := 11) C dX8_sum_10 rfl rfl ?_
  refine r_iconst (v := nI 0) (pq := 12) C dX8_sum_11 (by decide) rfl ?_
  refine r_max (pq := 15) C (by decide +kernel) (by decide +kernel) (by decide +kernel) (by decide +kernel) (by decide) (Nat.le_of_ble_eq_true rfl) ⟨Nat.zero_le _, Nat.zero_le _⟩ dX8_sum_12 rfl ?_
  refine r_at (show _ = nI a9 from hmax) ?_
  refine r_istore (j := 4) (pq := 17) C dX8_sum_15 rfl (by decide) rfl rfl ?_
  dsimp only [List.set]
  have key := loop (max a9 b9 + 1 - a9) a9 (Nat.le_refl _) (by omega) (by omega)
  rw [sl_0, sl_0] at key
  exact key


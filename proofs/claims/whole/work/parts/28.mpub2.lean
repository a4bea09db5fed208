/-! ===== the reference: span, slept, stamp, drop, mark, can, nights, sure ===== -/
set_option maxHeartbeats 4000000 in
set_option maxRecDepth 100000 in
/-- span -/
theorem mc_X12_span {l : Launch} {E : EV} {A : Nat → Nat} {w0 : RW} {I : Nat → Nat} {f : Nat → Nat → Nat} {g : Nat → Nat → Int32} (hS : SI (I, f, g)) {x y z u : Int32} : MC l E yX12_span wsX12_span 4 0 0 [.ref (A 0), .int x, .int y, .int z, .int u] (WM E A w0 I f g) (mP E A w0 (rs_span (I, f, g) x y z u) (nx_span (I, f, g) x y z u)) := by
  refine MC.enter (cc := cX12_span) (maxL := 5) (ret := (some .int)) (lv0 := [some (.ref (A 0)), some (.int x), some (.int y), some (.int z), some (.int u)]) (by decide) rfl (by simp [Value.category]) (Nat.le_of_ble_eq_true rfl) rfl ?_
  intro X hl hE C D
  subst hl
  subst hE
  have hB : mOK I f := hS.1
  by_cases hok : okSpan (I, f, g) x y z u
  · have hP6 : I 1 ≤ 6 := hS.2.1
    obtain ⟨p, hp, rfl⟩ := rg_of hok.1 (by show I 1 < _; omega)
    obtain ⟨a, ha, rfl⟩ := rg_of hok.2.1.1 (by omega)
    obtain ⟨b, hb, rfl⟩ := rg_of hok.2.1.2.1 (by omega)
    obtain ⟨l9, hl1, hl2, rfl⟩ := in_of (a := 1) (b := 255) hok.2.2 (by omega)
    change p < I 1 at hp
    refine r_aload_n (pq := 1) C dX12_span_0 rfl rfl ?_
    refine r_iload_n (pq := 2) C dX12_span_1 rfl rfl ?_
    refine r_callV (pq := 5) C (mc_X12_isPerson hB) (WM_obj _ _ _ _ _ _) rfl gX12_span_X12_isPerson rfl (na := 1) (by decide +kernel) rfl (by decide) (by decide) (Nat.le_of_ble_eq_true rfl) ⟨Nat.zero_le _, Nat.zero_le _⟩ dX12_span_2 rfl rfl (fun r9 w9 hq => ?_)
    obtain ⟨rfl, rfl⟩ := hq
    dsimp only [Option.toList, List.cons_append, List.nil_append]
    have l2 := b2_lt (rg (nI p) (I 1))
    refine rN_if_eq (tg := 41) (pq := 8) C dX12_span_5 (by decide) rfl (by omega) (fun c5 => absurd c5 (b2_1.mpr (hok.1))) (fun c5 => ?_)
    refine r_iload_n (pq := 9) C dX12_span_8 rfl rfl ?_
    refine r_iload_n (pq := 10) C dX12_span_9 rfl rfl ?_
    refine r_callS (pq := 13) C (mc_X12_isSpan) gX12_span_X12_isSpan rfl (na := 2) (by decide +kernel) rfl (by decide) (by decide) (Nat.le_of_ble_eq_true rfl) ⟨Nat.zero_le _, Nat.zero_le _⟩ dX12_span_10 rfl rfl (fun r9 w9 hq => ?_)
    obtain ⟨rfl, rfl⟩ := hq
    dsimp only [Option.toList, List.cons_append, List.nil_append]
    have l10 := b2_lt (rg (nI a) 400 ∧ rg (nI b) 400 ∧ (nI a).toInt ≤ (nI b).toInt)
    refine rN_if_eq (tg := 41) (pq := 16) C dX12_span_13 (by decide) rfl (by omega) (fun c13 => absurd c13 (b2_1.mpr (hok.2.1))) (fun c13 => ?_)
    refine r_iload (pq := 18) C dX12_span_16 rfl rfl ?_
    refine r_iconst (v := nI 1) (pq := 19) C dX12_span_18 (by decide) rfl ?_
    refine r_sipush (v := nI 255) (pq := 22) C dX12_span_19 (by decide) rfl ?_
    refine r_callS (pq := 25) C (mc_X12_in) gX12_span_X12_in rfl (na := 3) (by decide +kernel) rfl (by decide) (by decide) (Nat.le_of_ble_eq_true rfl) ⟨Nat.zero_le _, Nat.zero_le _⟩ dX12_span_22 rfl rfl (fun r9 w9 hq => ?_)
    obtain ⟨rfl, rfl⟩ := hq
    dsimp only [Option.toList, List.cons_append, List.nil_append]
    have l22 := b2_lt ((nI 1).toInt ≤ (nI l9).toInt ∧ (nI l9).toInt ≤ (nI 255).toInt)
    refine rN_if_eq (tg := 41) (pq := 28) C dX12_span_25 (by decide) rfl (by omega) (fun c25 => absurd c25 (b2_1.mpr ((in_b (by omega) (by omega)).mpr hok.2.2))) (fun c25 => ?_)
    refine r_aload_n (pq := 29) C dX12_span_28 rfl rfl ?_
    refine r_iconst (v := nI 0) (pq := 30) C dX12_span_29 (by decide) rfl ?_
    refine r_iload_n (pq := 31) C dX12_span_30 rfl rfl ?_
    refine r_iload_n (pq := 32) C dX12_span_31 rfl rfl ?_
    refine r_iload_n (pq := 33) C dX12_span_32 rfl rfl ?_
    refine r_iload (pq := 35) C dX12_span_33 rfl rfl ?_
    refine r_callV (pq := 38) C (mc_X12_comes hS (by omega) hp ha hb hl2) (WM_obj _ _ _ _ _ _) rfl gX12_span_X12_comes rfl (na := 5) (by decide +kernel) rfl (by decide) (by decide) (Nat.le_of_ble_eq_true rfl) ⟨Nat.zero_le _, Nat.zero_le _⟩ dX12_span_35 rfl rfl (fun r9 w9 hq => ?_)
    obtain ⟨rfl, t, rfl, hB2, hq2⟩ := hq
    dsimp only [Option.toList, List.cons_append, List.nil_append]
    refine r_goto (tg := 42) C dX12_span_38 (by decide) ?_
    refine r_iret C D rfl ⟨Nat.le_refl _, Nat.le_refl _⟩ dX12_span_42 ?_
    refine ⟨?_, t, rfl, hB2, ?_⟩
    · unfold rs_span
      rw [if_pos hok, tn_nI (by omega), tn_nI (by omega), tn_nI (by omega), tn_nI (by omega)]
    · unfold nx_span
      rw [if_pos hok, tn_nI (by omega), tn_nI (by omega), tn_nI (by omega), tn_nI (by omega)]
      exact hq2
  · have hbad := hok
    refine r_aload_n (pq := 1) C dX12_span_0 rfl rfl ?_
    refine r_iload_n (pq := 2) C dX12_span_1 rfl rfl ?_
    refine r_callV (pq := 5) C (mc_X12_isPerson hB) (WM_obj _ _ _ _ _ _) rfl gX12_span_X12_isPerson rfl (na := 1) (by decide +kernel) rfl (by decide) (by decide) (Nat.le_of_ble_eq_true rfl) ⟨Nat.zero_le _, Nat.zero_le _⟩ dX12_span_2 rfl rfl (fun r9 w9 hq => ?_)
    obtain ⟨rfl, rfl⟩ := hq
    dsimp only [Option.toList, List.cons_append, List.nil_append]
    have l2 := b2_lt (rg x (I 1))
    refine rN_if_eq (tg := 41) (pq := 8) C dX12_span_5 (by decide) rfl (by omega) (fun c5 => ?_) (fun c5 => ?_)
    · refine r_iconst (v := (-1)) (pq := 42) C dX12_span_41 (by decide) rfl ?_
      refine r_iret C D rfl ⟨Nat.le_refl _, Nat.le_refl _⟩ dX12_span_42 ?_
      refine ⟨?_, (I, f, g), rfl, hB, ?_⟩
      · unfold rs_span
        rw [if_neg hbad]
      · unfold nx_span
        rw [if_neg hbad]
        exact EQ_rfl _
    · refine r_iload_n (pq := 9) C dX12_span_8 rfl rfl ?_
      refine r_iload_n (pq := 10) C dX12_span_9 rfl rfl ?_
      refine r_callS (pq := 13) C (mc_X12_isSpan) gX12_span_X12_isSpan rfl (na := 2) (by decide +kernel) rfl (by decide) (by decide) (Nat.le_of_ble_eq_true rfl) ⟨Nat.zero_le _, Nat.zero_le _⟩ dX12_span_10 rfl rfl (fun r9 w9 hq => ?_)
      obtain ⟨rfl, rfl⟩ := hq
      dsimp only [Option.toList, List.cons_append, List.nil_append]
      have l10 := b2_lt (rg y 400 ∧ rg z 400 ∧ y.toInt ≤ z.toInt)
      refine rN_if_eq (tg := 41) (pq := 16) C dX12_span_13 (by decide) rfl (by omega) (fun c13 => ?_) (fun c13 => ?_)
      · refine r_iconst (v := (-1)) (pq := 42) C dX12_span_41 (by decide) rfl ?_
        refine r_iret C D rfl ⟨Nat.le_refl _, Nat.le_refl _⟩ dX12_span_42 ?_
        refine ⟨?_, (I, f, g), rfl, hB, ?_⟩
        · unfold rs_span
          rw [if_neg hbad]
        · unfold nx_span
          rw [if_neg hbad]
          exact EQ_rfl _
      · refine r_iload (pq := 18) C dX12_span_16 rfl rfl ?_
        refine r_iconst (v := nI 1) (pq := 19) C dX12_span_18 (by decide) rfl ?_
        refine r_sipush (v := nI 255) (pq := 22) C dX12_span_19 (by decide) rfl ?_
        refine r_callS (pq := 25) C (mc_X12_in) gX12_span_X12_in rfl (na := 3) (by decide +kernel) rfl (by decide) (by decide) (Nat.le_of_ble_eq_true rfl) ⟨Nat.zero_le _, Nat.zero_le _⟩ dX12_span_22 rfl rfl (fun r9 w9 hq => ?_)
        obtain ⟨rfl, rfl⟩ := hq
        dsimp only [Option.toList, List.cons_append, List.nil_append]
        have l22 := b2_lt ((nI 1).toInt ≤ u.toInt ∧ u.toInt ≤ (nI 255).toInt)
        refine rN_if_eq (tg := 41) (pq := 28) C dX12_span_25 (by decide) rfl (by omega) (fun c25 => ?_) (fun c25 => ?_)
        · refine r_iconst (v := (-1)) (pq := 42) C dX12_span_41 (by decide) rfl ?_
          refine r_iret C D rfl ⟨Nat.le_refl _, Nat.le_refl _⟩ dX12_span_42 ?_
          refine ⟨?_, (I, f, g), rfl, hB, ?_⟩
          · unfold rs_span
            rw [if_neg hbad]
          · unfold nx_span
            rw [if_neg hbad]
            exact EQ_rfl _
        · exact absurd ⟨b2_1.mp c5, b2_1.mp c13, (in_b (a := 1) (b := 255) (by omega) (by omega)).mp (b2_1.mp c25)⟩ hbad

set_option maxHeartbeats 4000000 in
set_option maxRecDepth 100000 in
/-- slept -/
theorem mc_X12_slept {l : Launch} {E : EV} {A : Nat → Nat} {w0 : RW} {I : Nat → Nat} {f : Nat → Nat → Nat} {g : Nat → Nat → Int32} (hS : SI (I, f, g)) {x y z : Int32} {u9 : Nat} (hu9 : u9 < 2) : MC l E yX12_slept wsX12_slept 4 0 0 [.ref (A 0), .int x, .int y, .int z, .int (nI u9)] (WM E A w0 I f g) (mP E A w0 (rs_slept (I, f, g) x y z u9) (nx_slept (I, f, g) x y z u9)) := by
  refine MC.enter (cc := cX12_slept) (maxL := 5) (ret := (some .int)) (lv0 := [some (.ref (A 0)), some (.int x), some (.int y), some (.int z), some (.int (nI u9))]) (by decide) rfl (by simp [Value.category]) (Nat.le_of_ble_eq_true rfl) rfl ?_
  intro X hl hE C D
  subst hl
  subst hE
  have hB : mOK I f := hS.1
  by_cases hok : okSlept (I, f, g) x y z
  · have hP6 : I 1 ≤ 6 := hS.2.1
    obtain ⟨p, hp, rfl⟩ := rg_of hok.1 (by show I 1 < _; omega)
    obtain ⟨a, ha, rfl⟩ := rg_of hok.2.1 (by omega)
    obtain ⟨l9, hl9, rfl⟩ := rg_of hok.2.2 (by omega)
    have hpw := pw8 hl9
    change p < I 1 at hp
    refine r_aload_n (pq := 1) C dX12_slept_0 rfl rfl ?_
    refine r_iload_n (pq := 2) C dX12_slept_1 rfl rfl ?_
    refine r_callV (pq := 5) C (mc_X12_isPerson hB) (WM_obj _ _ _ _ _ _) rfl gX12_slept_X12_isPerson rfl (na := 1) (by decide +kernel) rfl (by decide) (by decide) (Nat.le_of_ble_eq_true rfl) ⟨Nat.zero_le _, Nat.zero_le _⟩ dX12_slept_2 rfl rfl (fun r9 w9 hq => ?_)
    obtain ⟨rfl, rfl⟩ := hq
    dsimp only [Option.toList, List.cons_append, List.nil_append]
    have l2 := b2_lt (rg (nI p) (I 1))
    refine rN_if_eq (tg := 45) (pq := 8) C dX12_slept_5 (by decide) rfl (by omega) (fun c5 => absurd c5 (b2_1.mpr (hok.1))) (fun c5 => ?_)
    refine r_iload_n (pq := 9) C dX12_slept_8 rfl rfl ?_
    refine r_callS (pq := 12) C (mc_X12_isDay) gX12_slept_X12_isDay rfl (na := 1) (by decide +kernel) rfl (by decide) (by decide) (Nat.le_of_ble_eq_true rfl) ⟨Nat.zero_le _, Nat.zero_le _⟩ dX12_slept_9 rfl rfl (fun r9 w9 hq => ?_)
    obtain ⟨rfl, rfl⟩ := hq
    dsimp only [Option.toList, List.cons_append, List.nil_append]
    have l9x := b2_lt (rg (nI a) 400)
    refine rN_if_eq (tg := 45) (pq := 15) C dX12_slept_12 (by decide) rfl (by omega) (fun c12 => absurd c12 (b2_1.mpr (hok.2.1))) (fun c12 => ?_)
    refine r_iload_n (pq := 16) C dX12_slept_15 rfl rfl ?_
    refine r_callS (pq := 19) C (mc_X12_isLand) gX12_slept_X12_isLand rfl (na := 1) (by decide +kernel) rfl (by decide) (by decide) (Nat.le_of_ble_eq_true rfl) ⟨Nat.zero_le _, Nat.zero_le _⟩ dX12_slept_16 rfl rfl (fun r9 w9 hq => ?_)
    obtain ⟨rfl, rfl⟩ := hq
    dsimp only [Option.toList, List.cons_append, List.nil_append]
    have l16 := b2_lt (rg (nI l9) 8)
    refine rN_if_eq (tg := 45) (pq := 22) C dX12_slept_19 (by decide) rfl (by omega) (fun c19 => absurd c19 (b2_1.mpr (hok.2.2))) (fun c19 => ?_)
    refine r_aload_n (pq := 23) C dX12_slept_22 rfl rfl ?_
    refine r_iload (pq := 25) C dX12_slept_23 rfl rfl ?_
    refine rN_if_eq (tg := 32) (pq := 28) C dX12_slept_25 (by decide) rfl (by omega) (fun c25 => ?_) (fun c25 => ?_)
    · refine r_iconst (v := nI 1) (pq := 33) C dX12_slept_32 (by decide) rfl ?_
      refine r_iload_n (pq := 34) C dX12_slept_33 rfl rfl ?_
      refine r_iload_n (pq := 35) C dX12_slept_34 rfl rfl ?_
      refine r_iload_n (pq := 36) C dX12_slept_35 rfl rfl ?_
      refine r_iconst (v := nI 1) (pq := 37) C dX12_slept_36 (by decide) rfl ?_
      refine r_iload_n (pq := 38) C dX12_slept_37 rfl rfl ?_
      refine rN_ishl (pq := 39) C dX12_slept_38 (by omega) (by omega) rfl ?_
      refine r_callV (pq := 42) C (mc_X12_comes hS (by omega) hp ha ha (by omega)) (WM_obj _ _ _ _ _ _) rfl gX12_slept_X12_comes rfl (na := 5) (by decide +kernel) rfl (by decide) (by decide) (Nat.le_of_ble_eq_true rfl) ⟨Nat.zero_le _, Nat.zero_le _⟩ dX12_slept_39 rfl rfl (fun r9 w9 hq => ?_)
      obtain ⟨rfl, t, rfl, hB2, hq2⟩ := hq
      dsimp only [Option.toList, List.cons_append, List.nil_append]
      refine r_goto (tg := 46) C dX12_slept_42 (by decide) ?_
      refine r_iret C D rfl ⟨Nat.le_refl _, Nat.le_refl _⟩ dX12_slept_46 ?_
      refine ⟨?_, t, rfl, hB2, ?_⟩
      · unfold rs_slept
        rw [if_pos hok, tn_nI (by omega), tn_nI (by omega), tn_nI (by omega)]
        first | rw [if_pos c25, Nat.one_mul] | rw [if_neg c25, Nat.one_mul]
      · unfold nx_slept
        rw [if_pos hok, tn_nI (by omega), tn_nI (by omega), tn_nI (by omega)]
        first | (rw [if_pos c25]; rw [Nat.one_mul] at hq2; exact hq2) | (rw [if_neg c25]; rw [Nat.one_mul] at hq2; exact hq2)
    · refine r_iconst (v := nI 3) (pq := 29) C dX12_slept_28 (by decide) rfl ?_
      refine r_goto (tg := 33) C dX12_slept_29 (by decide) ?_
      refine r_iload_n (pq := 34) C dX12_slept_33 rfl rfl ?_
      refine r_iload_n (pq := 35) C dX12_slept_34 rfl rfl ?_
      refine r_iload_n (pq := 36) C dX12_slept_35 rfl rfl ?_
      refine r_iconst (v := nI 1) (pq := 37) C dX12_slept_36 (by decide) rfl ?_
      refine r_iload_n (pq := 38) C dX12_slept_37 rfl rfl ?_
      refine rN_ishl (pq := 39) C dX12_slept_38 (by omega) (by omega) rfl ?_
      refine r_callV (pq := 42) C (mc_X12_comes hS (by omega) hp ha ha (by omega)) (WM_obj _ _ _ _ _ _) rfl gX12_slept_X12_comes rfl (na := 5) (by decide +kernel) rfl (by decide) (by decide) (Nat.le_of_ble_eq_true rfl) ⟨Nat.zero_le _, Nat.zero_le _⟩ dX12_slept_39 rfl rfl (fun r9 w9 hq => ?_)
      obtain ⟨rfl, t, rfl, hB2, hq2⟩ := hq
      dsimp only [Option.toList, List.cons_append, List.nil_append]
      refine r_goto (tg := 46) C dX12_slept_42 (by decide) ?_
      refine r_iret C D rfl ⟨Nat.le_refl _, Nat.le_refl _⟩ dX12_slept_46 ?_
      refine ⟨?_, t, rfl, hB2, ?_⟩
      · unfold rs_slept
        rw [if_pos hok, tn_nI (by omega), tn_nI (by omega), tn_nI (by omega)]
        first | rw [if_pos c25, Nat.one_mul] | rw [if_neg c25, Nat.one_mul]
      · unfold nx_slept
        rw [if_pos hok, tn_nI (by omega), tn_nI (by omega), tn_nI (by omega)]
        first | (rw [if_pos c25]; rw [Nat.one_mul] at hq2; exact hq2) | (rw [if_neg c25]; rw [Nat.one_mul] at hq2; exact hq2)
  · have hbad := hok
    refine r_aload_n (pq := 1) C dX12_slept_0 rfl rfl ?_
    refine r_iload_n (pq := 2) C dX12_slept_1 rfl rfl ?_
    refine r_callV (pq := 5) C (mc_X12_isPerson hB) (WM_obj _ _ _ _ _ _) rfl gX12_slept_X12_isPerson rfl (na := 1) (by decide +kernel) rfl (by decide) (by decide) (Nat.le_of_ble_eq_true rfl) ⟨Nat.zero_le _, Nat.zero_le _⟩ dX12_slept_2 rfl rfl (fun r9 w9 hq => ?_)
    obtain ⟨rfl, rfl⟩ := hq
    dsimp only [Option.toList, List.cons_append, List.nil_append]
    have l2 := b2_lt (rg x (I 1))
    refine rN_if_eq (tg := 45) (pq := 8) C dX12_slept_5 (by decide) rfl (by omega) (fun c5 => ?_) (fun c5 => ?_)
    · refine r_iconst (v := (-1)) (pq := 46) C dX12_slept_45 (by decide) rfl ?_
      refine r_iret C D rfl ⟨Nat.le_refl _, Nat.le_refl _⟩ dX12_slept_46 ?_
      refine ⟨?_, (I, f, g), rfl, hB, ?_⟩
      · unfold rs_slept
        rw [if_neg hbad]
      · unfold nx_slept
        rw [if_neg hbad]
        exact EQ_rfl _
    · refine r_iload_n (pq := 9) C dX12_slept_8 rfl rfl ?_
      refine r_callS (pq := 12) C (mc_X12_isDay) gX12_slept_X12_isDay rfl (na := 1) (by decide +kernel) rfl (by decide) (by decide) (Nat.le_of_ble_eq_true rfl) ⟨Nat.zero_le _, Nat.zero_le _⟩ dX12_slept_9 rfl rfl (fun r9 w9 hq => ?_)
      obtain ⟨rfl, rfl⟩ := hq
      dsimp only [Option.toList, List.cons_append, List.nil_append]
      have l9 := b2_lt (rg y 400)
      refine rN_if_eq (tg := 45) (pq := 15) C dX12_slept_12 (by decide) rfl (by omega) (fun c12 => ?_) (fun c12 => ?_)
      · refine r_iconst (v := (-1)) (pq := 46) C dX12_slept_45 (by decide) rfl ?_
        refine r_iret C D rfl ⟨Nat.le_refl _, Nat.le_refl _⟩ dX12_slept_46 ?_
        refine ⟨?_, (I, f, g), rfl, hB, ?_⟩
        · unfold rs_slept
          rw [if_neg hbad]
        · unfold nx_slept
          rw [if_neg hbad]
          exact EQ_rfl _
      · refine r_iload_n (pq := 16) C dX12_slept_15 rfl rfl ?_
        refine r_callS (pq := 19) C (mc_X12_isLand) gX12_slept_X12_isLand rfl (na := 1) (by decide +kernel) rfl (by decide) (by decide) (Nat.le_of_ble_eq_true rfl) ⟨Nat.zero_le _, Nat.zero_le _⟩ dX12_slept_16 rfl rfl (fun r9 w9 hq => ?_)
        obtain ⟨rfl, rfl⟩ := hq
        dsimp only [Option.toList, List.cons_append, List.nil_append]
        have l16 := b2_lt (rg z 8)
        refine rN_if_eq (tg := 45) (pq := 22) C dX12_slept_19 (by decide) rfl (by omega) (fun c19 => ?_) (fun c19 => ?_)
        · refine r_iconst (v := (-1)) (pq := 46) C dX12_slept_45 (by decide) rfl ?_
          refine r_iret C D rfl ⟨Nat.le_refl _, Nat.le_refl _⟩ dX12_slept_46 ?_
          refine ⟨?_, (I, f, g), rfl, hB, ?_⟩
          · unfold rs_slept
            rw [if_neg hbad]
          · unfold nx_slept
            rw [if_neg hbad]
            exact EQ_rfl _
        · exact absurd ⟨b2_1.mp c5, b2_1.mp c12, b2_1.mp c19⟩ hbad

theorem st_c : ∀ l, l < 8 → (nI 255 &&& (nI (1 * 2 ^ l) ^^^ (-1))) = nI (255 - 2 ^ l) := by decide +kernel
set_option maxHeartbeats 4000000 in
set_option maxRecDepth 100000 in
/-- stamp -/
theorem mc_X12_stamp {l : Launch} {E : EV} {A : Nat → Nat} {w0 : RW} {I : Nat → Nat} {f : Nat → Nat → Nat} {g : Nat → Nat → Int32} (hS : SI (I, f, g)) {x y z u : Int32} : MC l E yX12_stamp wsX12_stamp 4 0 0 [.ref (A 0), .int x, .int y, .int z, .int u] (WM E A w0 I f g) (mP E A w0 (rs_stamp (I, f, g) x y z u) (nx_stamp (I, f, g) x y z u)) := by
  refine MC.enter (cc := cX12_stamp) (maxL := 5) (ret := (some .int)) (lv0 := [some (.ref (A 0)), some (.int x), some (.int y), some (.int z), some (.int u)]) (by decide) rfl (by simp [Value.category]) (Nat.le_of_ble_eq_true rfl) rfl ?_
  intro X hl hE C D
  subst hl
  subst hE
  have hB : mOK I f := hS.1
  by_cases hok : okStamp (I, f, g) x y z u
  · have hP6 : I 1 ≤ 6 := hS.2.1
    obtain ⟨p, hp, rfl⟩ := rg_of hok.1 (by show I 1 < _; omega)
    obtain ⟨a, ha, rfl⟩ := rg_of hok.2.1.1 (by omega)
    obtain ⟨b, hb, rfl⟩ := rg_of hok.2.1.2.1 (by omega)
    obtain ⟨l9, hl9, rfl⟩ := rg_of hok.2.2 (by omega)
    change p < I 1 at hp
    have hpw := pw8 hl9
    refine r_aload_n (pq := 1) C dX12_stamp_0 rfl rfl ?_
    refine r_iload_n (pq := 2) C dX12_stamp_1 rfl rfl ?_
    refine r_callV (pq := 5) C (mc_X12_isPerson hB) (WM_obj _ _ _ _ _ _) rfl gX12_stamp_X12_isPerson rfl (na := 1) (by decide +kernel) rfl (by decide) (by decide) (Nat.le_of_ble_eq_true rfl) ⟨Nat.zero_le _, Nat.zero_le _⟩ dX12_stamp_2 rfl rfl (fun r9 w9 hq => ?_)
    obtain ⟨rfl, rfl⟩ := hq
    dsimp only [Option.toList, List.cons_append, List.nil_append]
    have l2 := b2_lt (rg (nI p) (I 1))
    refine rN_if_eq (tg := 45) (pq := 8) C dX12_stamp_5 (by decide) rfl (by omega) (fun c5 => absurd c5 (b2_1.mpr (hok.1))) (fun c5 => ?_)
    refine r_iload_n (pq := 9) C dX12_stamp_8 rfl rfl ?_
    refine r_iload_n (pq := 10) C dX12_stamp_9 rfl rfl ?_
    refine r_callS (pq := 13) C (mc_X12_isSpan) gX12_stamp_X12_isSpan rfl (na := 2) (by decide +kernel) rfl (by decide) (by decide) (Nat.le_of_ble_eq_true rfl) ⟨Nat.zero_le _, Nat.zero_le _⟩ dX12_stamp_10 rfl rfl (fun r9 w9 hq => ?_)
    obtain ⟨rfl, rfl⟩ := hq
    dsimp only [Option.toList, List.cons_append, List.nil_append]
    have l10 := b2_lt (rg (nI a) 400 ∧ rg (nI b) 400 ∧ (nI a).toInt ≤ (nI b).toInt)
    refine rN_if_eq (tg := 45) (pq := 16) C dX12_stamp_13 (by decide) rfl (by omega) (fun c13 => absurd c13 (b2_1.mpr (hok.2.1))) (fun c13 => ?_)
    refine r_iload (pq := 18) C dX12_stamp_16 rfl rfl ?_
    refine r_callS (pq := 21) C (mc_X12_isLand) gX12_stamp_X12_isLand rfl (na := 1) (by decide +kernel) rfl (by decide) (by decide) (Nat.le_of_ble_eq_true rfl) ⟨Nat.zero_le _, Nat.zero_le _⟩ dX12_stamp_18 rfl rfl (fun r9 w9 hq => ?_)
    obtain ⟨rfl, rfl⟩ := hq
    dsimp only [Option.toList, List.cons_append, List.nil_append]
    have l18 := b2_lt (rg (nI l9) 8)
    refine rN_if_eq (tg := 45) (pq := 24) C dX12_stamp_21 (by decide) rfl (by omega) (fun c21 => absurd c21 (b2_1.mpr (hok.2.2))) (fun c21 => ?_)
    refine r_aload_n (pq := 25) C dX12_stamp_24 rfl rfl ?_
    refine r_iconst (v := nI 2) (pq := 26) C dX12_stamp_25 (by decide) rfl ?_
    refine r_iload_n (pq := 27) C dX12_stamp_26 rfl rfl ?_
    refine r_iload_n (pq := 28) C dX12_stamp_27 rfl rfl ?_
    refine r_iload_n (pq := 29) C dX12_stamp_28 rfl rfl ?_
    refine r_sipush (v := nI 255) (pq := 32) C dX12_stamp_29 (by decide) rfl ?_
    refine r_iconst (v := nI 1) (pq := 33) C dX12_stamp_32 (by decide) rfl ?_
    refine r_iload (pq := 35) C dX12_stamp_33 rfl rfl ?_
    refine rN_ishl (pq := 36) C dX12_stamp_35 (by omega) (by omega) rfl ?_
    refine r_iconst (v := (-1)) (pq := 37) C dX12_stamp_36 (by decide) rfl ?_
    refine r_ixor (pq := 38) C dX12_stamp_37 rfl ?_
    refine r_iand (pq := 39) C dX12_stamp_38 rfl ?_
    refine r_at (st_c l9 hl9) ?_
    refine r_callV (pq := 42) C (mc_X12_comes hS (by omega) hp ha hb (Nat.sub_le _ _)) (WM_obj _ _ _ _ _ _) rfl gX12_stamp_X12_comes rfl (na := 5) (by decide +kernel) rfl (by decide) (by decide) (Nat.le_of_ble_eq_true rfl) ⟨Nat.zero_le _, Nat.zero_le _⟩ dX12_stamp_39 rfl rfl (fun r9 w9 hq => ?_)
    obtain ⟨rfl, t, rfl, hB2, hq2⟩ := hq
    dsimp only [Option.toList, List.cons_append, List.nil_append]
    refine r_goto (tg := 46) C dX12_stamp_42 (by decide) ?_
    refine r_iret C D rfl ⟨Nat.le_refl _, Nat.le_refl _⟩ dX12_stamp_46 ?_
    refine ⟨?_, t, rfl, hB2, ?_⟩
    · unfold rs_stamp
      rw [if_pos hok, tn_nI (by omega), tn_nI (by omega), tn_nI (by omega), tn_nI (by omega)]
    · unfold nx_stamp
      rw [if_pos hok, tn_nI (by omega), tn_nI (by omega), tn_nI (by omega), tn_nI (by omega)]
      exact hq2
  · have hbad := hok
    refine r_aload_n (pq := 1) C dX12_stamp_0 rfl rfl ?_
    refine r_iload_n (pq := 2) C dX12_stamp_1 rfl rfl ?_
    refine r_callV (pq := 5) C (mc_X12_isPerson hB) (WM_obj _ _ _ _ _ _) rfl gX12_stamp_X12_isPerson rfl (na := 1) (by decide +kernel) rfl (by decide) (by decide) (Nat.le_of_ble_eq_true rfl) ⟨Nat.zero_le _, Nat.zero_le _⟩ dX12_stamp_2 rfl rfl (fun r9 w9 hq => ?_)
    obtain ⟨rfl, rfl⟩ := hq
    dsimp only [Option.toList, List.cons_append, List.nil_append]
    have l2 := b2_lt (rg x (I 1))
    refine rN_if_eq (tg := 45) (pq := 8) C dX12_stamp_5 (by decide) rfl (by omega) (fun c5 => ?_) (fun c5 => ?_)
    · refine r_iconst (v := (-1)) (pq := 46) C dX12_stamp_45 (by decide) rfl ?_
      refine r_iret C D rfl ⟨Nat.le_refl _, Nat.le_refl _⟩ dX12_stamp_46 ?_
      refine ⟨?_, (I, f, g), rfl, hB, ?_⟩
      · unfold rs_stamp
        rw [if_neg hbad]
      · unfold nx_stamp
        rw [if_neg hbad]
        exact EQ_rfl _
    · refine r_iload_n (pq := 9) C dX12_stamp_8 rfl rfl ?_
      refine r_iload_n (pq := 10) C dX12_stamp_9 rfl rfl ?_
      refine r_callS (pq := 13) C (mc_X12_isSpan) gX12_stamp_X12_isSpan rfl (na := 2) (by decide +kernel) rfl (by decide) (by decide) (Nat.le_of_ble_eq_true rfl) ⟨Nat.zero_le _, Nat.zero_le _⟩ dX12_stamp_10 rfl rfl (fun r9 w9 hq => ?_)
      obtain ⟨rfl, rfl⟩ := hq
      dsimp only [Option.toList, List.cons_append, List.nil_append]
      have l10 := b2_lt (rg y 400 ∧ rg z 400 ∧ y.toInt ≤ z.toInt)
      refine rN_if_eq (tg := 45) (pq := 16) C dX12_stamp_13 (by decide) rfl (by omega) (fun c13 => ?_) (fun c13 => ?_)
      · refine r_iconst (v := (-1)) (pq := 46) C dX12_stamp_45 (by decide) rfl ?_
        refine r_iret C D rfl ⟨Nat.le_refl _, Nat.le_refl _⟩ dX12_stamp_46 ?_
        refine ⟨?_, (I, f, g), rfl, hB, ?_⟩
        · unfold rs_stamp
          rw [if_neg hbad]
        · unfold nx_stamp
          rw [if_neg hbad]
          exact EQ_rfl _
      · refine r_iload (pq := 18) C dX12_stamp_16 rfl rfl ?_
        refine r_callS (pq := 21) C (mc_X12_isLand) gX12_stamp_X12_isLand rfl (na := 1) (by decide +kernel) rfl (by decide) (by decide) (Nat.le_of_ble_eq_true rfl) ⟨Nat.zero_le _, Nat.zero_le _⟩ dX12_stamp_18 rfl rfl (fun r9 w9 hq => ?_)
        obtain ⟨rfl, rfl⟩ := hq
        dsimp only [Option.toList, List.cons_append, List.nil_append]
        have l18 := b2_lt (rg u 8)
        refine rN_if_eq (tg := 45) (pq := 24) C dX12_stamp_21 (by decide) rfl (by omega) (fun c21 => ?_) (fun c21 => ?_)
        · refine r_iconst (v := (-1)) (pq := 46) C dX12_stamp_45 (by decide) rfl ?_
          refine r_iret C D rfl ⟨Nat.le_refl _, Nat.le_refl _⟩ dX12_stamp_46 ?_
          refine ⟨?_, (I, f, g), rfl, hB, ?_⟩
          · unfold rs_stamp
            rw [if_neg hbad]
          · unfold nx_stamp
            rw [if_neg hbad]
            exact EQ_rfl _
        · exact absurd ⟨b2_1.mp c5, b2_1.mp c13, b2_1.mp c21⟩ hbad

set_option maxHeartbeats 4000000 in
set_option maxRecDepth 100000 in
/-- drop -/
theorem mc_X12_drop {l : Launch} {E : EV} {A : Nat → Nat} {w0 : RW} {I : Nat → Nat} {f : Nat → Nat → Nat} {g : Nat → Nat → Int32} (hS : SI (I, f, g)) {x : Int32} {z : Nat} (hz : z < 2) : MC l E yX12_drop wsX12_drop 3 0 0 [.ref (A 0), .int x, .int (nI z)] (WM E A w0 I f g) (mP E A w0 (rs_drop (I, f, g) x z) (nx_drop (I, f, g) x z)) := by
  refine MC.enter (cc := cX12_drop) (maxL := 3) (ret := (some .int)) (lv0 := [some (.ref (A 0)), some (.int x), some (.int (nI z))]) (by decide) rfl (by simp [Value.category]) (Nat.le_of_ble_eq_true rfl) rfl ?_
  intro X hl hE C D
  subst hl
  subst hE
  have hB : mOK I f := hS.1
  by_cases hok : rg x (I 5)
  · have hM : I 5 ≤ 80 := hS.2.2.1
    obtain ⟨m, hm, rfl⟩ := rg_of hok (by omega)
    have h6 := hS.2.2.2.2.2.1 m hm
    change f 6 m < 4 ∧ f 7 m < I 1 ∧ f 8 m ≤ f 9 m ∧ f 9 m < 400 ∧ f 10 m ≤ 255 ∧ f 11 m < 2 at h6
    have hP6 : I 1 ≤ 6 := hS.2.1
    have e7 : va_up f 11 (va_up (f 11) m z) 7 m = f 7 m := by rw [va_n _ _ (by decide)]
    refine r_aload_n (pq := 1) C dX12_drop_0 rfl rfl ?_
    refine r_iload_n (pq := 2) C dX12_drop_1 rfl rfl ?_
    refine r_callV (pq := 5) C (mc_X12_isMark hB) (WM_obj _ _ _ _ _ _) rfl gX12_drop_X12_isMark rfl (na := 1) (by decide +kernel) rfl (by decide) (by decide) (Nat.le_of_ble_eq_true rfl) ⟨Nat.zero_le _, Nat.zero_le _⟩ dX12_drop_2 rfl rfl (fun r9 w9 hq => ?_)
    obtain ⟨rfl, rfl⟩ := hq
    dsimp only [Option.toList, List.cons_append, List.nil_append]
    have l2 := b2_lt (rg (nI m) (I 5))
    refine rN_if_ne (tg := 10) (pq := 8) C dX12_drop_5 (by decide) rfl (by omega) (fun c5 => ?_) (fun c5 => absurd c5 (b2_1.mpr (hok)))
    refine r_aload_n (pq := 11) C dX12_drop_10 rfl rfl ?_
    refine m_geta (pq := 14) C 11 (by decide) rfl rfl (by decide +kernel) dX12_drop_11 rfl ?_
    refine r_iload_n (pq := 15) C dX12_drop_14 rfl rfl ?_
    refine m_zald (pq := 16) C hB 11 80 rfl rfl (by decide) rfl (by decide) (by omega) dX12_drop_15 rfl (fun b15 => ?_)
    refine r_iload_n (pq := 17) C dX12_drop_16 rfl rfl ?_
    refine rN_icmp_ne (tg := 22) (pq := 20) C dX12_drop_17 (by decide) rfl (by omega) (by omega) (fun c17 => ?_) (fun c17 => ?_)
    · refine r_aload_n (pq := 23) C dX12_drop_22 rfl rfl ?_
      refine m_geta (pq := 26) C 11 (by decide) rfl rfl (by decide +kernel) dX12_drop_23 rfl ?_
      refine r_iload_n (pq := 27) C dX12_drop_26 rfl rfl ?_
      refine r_iload_n (pq := 28) C dX12_drop_27 rfl rfl ?_
      refine m_zast (pq := 29) C hB 11 80 (by omega) rfl rfl (by decide) rfl (by decide) (by omega) dX12_drop_28 rfl (by omega) (fun hB => ?_)
      refine r_aload_n (pq := 30) C dX12_drop_29 rfl rfl ?_
      refine r_aload_n (pq := 31) C dX12_drop_30 rfl rfl ?_
      refine m_geta (pq := 34) C 7 (by decide) rfl rfl (by decide +kernel) dX12_drop_31 rfl ?_
      refine r_iload_n (pq := 35) C dX12_drop_34 rfl rfl ?_
      refine m_iald (pq := 36) C hB 7 80 rfl rfl (by decide) rfl (by decide) (by omega) dX12_drop_35 rfl (fun b35 => ?_)
      simp only [e7]
      refine r_callV (pq := 39) C (mc_X12_isWhole hB hM (by omega)) (WM_obj _ _ _ _ _ _) rfl gX12_drop_X12_isWhole rfl (na := 1) (by decide +kernel) rfl (by decide) (by decide) (Nat.le_of_ble_eq_true rfl) ⟨Nat.zero_le _, Nat.zero_le _⟩ dX12_drop_36 rfl rfl (fun r9 w9 hq => ?_)
      obtain ⟨rfl, rfl⟩ := hq
      dsimp only [Option.toList, List.cons_append, List.nil_append]
      have l36 := b2_lt (whl (va_up f 11 (va_up (f 11) m z)) (I 5) (f 7 m))
      refine rN_if_ne (tg := 60) (pq := 42) C dX12_drop_39 (by decide) rfl (by omega) (fun c39 => ?_) (fun c39 => ?_)
      · refine r_iconst (v := nI 1) (pq := 61) C dX12_drop_60 (by decide) rfl ?_
        refine r_iret C D rfl ⟨Nat.le_refl _, Nat.le_refl _⟩ dX12_drop_61 ?_
        refine ⟨?_, (_, _, _), rfl, hB, ?_⟩
        · unfold rs_drop
          rw [if_pos hok, tn_nI (by omega), if_neg (show ¬ (I, f, g).2.1 11 m = z from c17), if_pos (show whl (upf (I, f, g).2.1 11 m z) ((I, f, g).1 5) ((I, f, g).2.1 7 m) from b2_1.mp c39)]
          rfl
        · unfold nx_drop
          rw [if_pos (by rw [tn_nI (by omega)]; exact ⟨hok, c17, b2_1.mp c39⟩), tn_nI (by omega)]
          exact EQ_rfl _
      · refine r_aload_n (pq := 43) C dX12_drop_42 rfl rfl ?_
        refine m_geta (pq := 46) C 11 (by decide) rfl rfl (by decide +kernel) dX12_drop_43 rfl ?_
        refine r_iload_n (pq := 47) C dX12_drop_46 rfl rfl ?_
        refine r_iload_n (pq := 48) C dX12_drop_47 rfl rfl ?_
        refine rN_if_ne (tg := 55) (pq := 51) C dX12_drop_48 (by decide) rfl (by omega) (fun c48 => ?_) (fun c48 => ?_)
        · refine r_iconst (v := nI 0) (pq := 56) C dX12_drop_55 (by decide) rfl ?_
          refine m_zast (pq := 57) C hB 11 80 (by omega) rfl rfl (by decide) rfl (by decide) (by omega) dX12_drop_56 rfl (by omega) (fun hB => ?_)
          refine r_bipush (v := (-4)) (pq := 59) C dX12_drop_57 (by decide) rfl ?_
          refine r_iret C D rfl ⟨Nat.le_refl _, Nat.le_refl _⟩ dX12_drop_59 ?_
          have e9 : va_up (va_up f 11 (va_up (f 11) m z)) 11 (va_up (va_up f 11 (va_up (f 11) m z) 11) m (f 11 m)) = f := by
            rw [va_s, bx_uu, bx_uu]
            funext j
            by_cases e : j = 11
            · subst e
              rw [va_s]
              funext i
              by_cases e : i = m
              · subst e; rw [va_s]
              · rw [va_n _ _ e]
            · rw [va_n _ _ e]
          first | rw [show (1 : Nat) = f 11 m by omega, e9] at hB ⊢ | rw [show (0 : Nat) = f 11 m by omega, e9] at hB ⊢
          refine ⟨?_, (I, f, g), rfl, hB, ?_⟩
          · unfold rs_drop
            rw [if_pos hok, tn_nI (by omega), if_neg (show ¬ (I, f, g).2.1 11 m = z from c17), if_neg (show ¬ whl (upf (I, f, g).2.1 11 m z) ((I, f, g).1 5) ((I, f, g).2.1 7 m) from b2_0.mp c39)]
          · unfold nx_drop
            rw [if_neg (fun h => b2_0.mp c39 (by have := h.2.2; rw [tn_nI (by omega)] at this; exact this))]
            exact EQ_rfl _
        · refine r_iconst (v := nI 1) (pq := 52) C dX12_drop_51 (by decide) rfl ?_
          refine r_goto (tg := 56) C dX12_drop_52 (by decide) ?_
          refine m_zast (pq := 57) C hB 11 80 (by omega) rfl rfl (by decide) rfl (by decide) (by omega) dX12_drop_56 rfl (by omega) (fun hB => ?_)
          refine r_bipush (v := (-4)) (pq := 59) C dX12_drop_57 (by decide) rfl ?_
          refine r_iret C D rfl ⟨Nat.le_refl _, Nat.le_refl _⟩ dX12_drop_59 ?_
          have e9 : va_up (va_up f 11 (va_up (f 11) m z)) 11 (va_up (va_up f 11 (va_up (f 11) m z) 11) m (f 11 m)) = f := by
            rw [va_s, bx_uu, bx_uu]
            funext j
            by_cases e : j = 11
            · subst e
              rw [va_s]
              funext i
              by_cases e : i = m
              · subst e; rw [va_s]
              · rw [va_n _ _ e]
            · rw [va_n _ _ e]
          first | rw [show (1 : Nat) = f 11 m by omega, e9] at hB ⊢ | rw [show (0 : Nat) = f 11 m by omega, e9] at hB ⊢
          refine ⟨?_, (I, f, g), rfl, hB, ?_⟩
          · unfold rs_drop
            rw [if_pos hok, tn_nI (by omega), if_neg (show ¬ (I, f, g).2.1 11 m = z from c17), if_neg (show ¬ whl (upf (I, f, g).2.1 11 m z) ((I, f, g).1 5) ((I, f, g).2.1 7 m) from b2_0.mp c39)]
          · unfold nx_drop
            rw [if_neg (fun h => b2_0.mp c39 (by have := h.2.2; rw [tn_nI (by omega)] at this; exact this))]
            exact EQ_rfl _
    · refine r_iconst (v := nI 0) (pq := 21) C dX12_drop_20 (by decide) rfl ?_
      refine r_iret C D rfl ⟨Nat.le_refl _, Nat.le_refl _⟩ dX12_drop_21 ?_
      refine ⟨?_, (I, f, g), rfl, hB, ?_⟩
      · unfold rs_drop
        rw [if_pos hok, tn_nI (by omega), if_pos c17]
        rfl
      · unfold nx_drop
        rw [if_neg (fun h => h.2.1 (by rw [tn_nI (by omega)]; exact c17))]
        exact EQ_rfl _
  · have hbad := hok
    refine r_aload_n (pq := 1) C dX12_drop_0 rfl rfl ?_
    refine r_iload_n (pq := 2) C dX12_drop_1 rfl rfl ?_
    refine r_callV (pq := 5) C (mc_X12_isMark hB) (WM_obj _ _ _ _ _ _) rfl gX12_drop_X12_isMark rfl (na := 1) (by decide +kernel) rfl (by decide) (by decide) (Nat.le_of_ble_eq_true rfl) ⟨Nat.zero_le _, Nat.zero_le _⟩ dX12_drop_2 rfl rfl (fun r9 w9 hq => ?_)
    obtain ⟨rfl, rfl⟩ := hq
    dsimp only [Option.toList, List.cons_append, List.nil_append]
    have l2 := b2_lt (rg x (I 5))
    refine rN_if_ne (tg := 10) (pq := 8) C dX12_drop_5 (by decide) rfl (by omega) (fun c5 => ?_) (fun c5 => ?_)
    · exact absurd (b2_1.mp c5) hbad
    · refine r_iconst (v := (-1)) (pq := 9) C dX12_drop_8 (by decide) rfl ?_
      refine r_iret C D rfl ⟨Nat.le_refl _, Nat.le_refl _⟩ dX12_drop_9 ?_
      refine ⟨?_, (I, f, g), rfl, hB, ?_⟩
      · unfold rs_drop
        rw [if_neg hbad]
      · unfold nx_drop
        rw [if_neg (fun h => hbad h.1)]
        exact EQ_rfl _

set_option maxHeartbeats 4000000 in
set_option maxRecDepth 100000 in
/-- can -/
theorem mc_X12_can {l : Launch} {E : EV} {A : Nat → Nat} {w0 : RW} {I : Nat → Nat} {f : Nat → Nat → Nat} {g : Nat → Nat → Int32} (hS : SI (I, f, g)) {x y : Int32} : MC l E yX12_can wsX12_can 2 0 0 [.ref (A 0), .int x, .int y] (WM E A w0 I f g) (mP E A w0 (rs_can (I, f, g) x y) ((I, f, g))) := by
  refine MC.enter (cc := cX12_can) (maxL := 3) (ret := (some .int)) (lv0 := [some (.ref (A 0)), some (.int x), some (.int y)]) (by decide) rfl (by simp [Value.category]) (Nat.le_of_ble_eq_true rfl) rfl ?_
  intro X hl hE C D
  subst hl
  subst hE
  have hB : mOK I f := hS.1
  by_cases hok : rg x (I 1) ∧ rg y 400
  · have hP6 : I 1 ≤ 6 := hS.2.1
    obtain ⟨p, hp, rfl⟩ := rg_of hok.1 (by show I 1 < _; omega)
    obtain ⟨a, ha, rfl⟩ := rg_of hok.2 (by omega)
    change p < I 1 at hp
    refine r_aload_n (pq := 1) C dX12_can_0 rfl rfl ?_
    refine r_iload_n (pq := 2) C dX12_can_1 rfl rfl ?_
    refine r_callV (pq := 5) C (mc_X12_isPerson hB) (WM_obj _ _ _ _ _ _) rfl gX12_can_X12_isPerson rfl (na := 1) (by decide +kernel) rfl (by decide) (by decide) (Nat.le_of_ble_eq_true rfl) ⟨Nat.zero_le _, Nat.zero_le _⟩ dX12_can_2 rfl rfl (fun r9 w9 hq => ?_)
    obtain ⟨rfl, rfl⟩ := hq
    dsimp only [Option.toList, List.cons_append, List.nil_append]
    have l2 := b2_lt (rg (nI p) (I 1))
    refine rN_if_eq (tg := 24) (pq := 8) C dX12_can_5 (by decide) rfl (by omega) (fun c5 => absurd c5 (b2_1.mpr (hok.1))) (fun c5 => ?_)
    refine r_iload_n (pq := 9) C dX12_can_8 rfl rfl ?_
    refine r_callS (pq := 12) C (mc_X12_isDay) gX12_can_X12_isDay rfl (na := 1) (by decide +kernel) rfl (by decide) (by decide) (Nat.le_of_ble_eq_true rfl) ⟨Nat.zero_le _, Nat.zero_le _⟩ dX12_can_9 rfl rfl (fun r9 w9 hq => ?_)
    obtain ⟨rfl, rfl⟩ := hq
    dsimp only [Option.toList, List.cons_append, List.nil_append]
    have l9 := b2_lt (rg (nI a) 400)
    refine rN_if_eq (tg := 24) (pq := 15) C dX12_can_12 (by decide) rfl (by omega) (fun c12 => absurd c12 (b2_1.mpr (hok.2))) (fun c12 => ?_)
    refine r_aload_n (pq := 16) C dX12_can_15 rfl rfl ?_
    refine r_iload_n (pq := 17) C dX12_can_16 rfl rfl ?_
    refine r_iload_n (pq := 18) C dX12_can_17 rfl rfl ?_
    refine r_callV (pq := 21) C (mc_X12_canOf hB hS.2.2.1 (by omega) (by omega)) (WM_obj _ _ _ _ _ _) rfl gX12_can_X12_canOf rfl (na := 2) (by decide +kernel) rfl (by decide) (by decide) (Nat.le_of_ble_eq_true rfl) ⟨Nat.zero_le _, Nat.zero_le _⟩ dX12_can_18 rfl rfl (fun r9 w9 hq => ?_)
    obtain ⟨rfl, rfl⟩ := hq
    dsimp only [Option.toList, List.cons_append, List.nil_append]
    refine r_goto (tg := 25) C dX12_can_21 (by decide) ?_
    refine r_iret C D rfl ⟨Nat.le_refl _, Nat.le_refl _⟩ dX12_can_25 ?_
    refine ⟨?_, (I, f, g), rfl, hB, EQ_rfl _⟩
    unfold rs_can
    rw [if_pos hok, tn_nI (by omega), tn_nI (by omega)]
    rfl
  · have hbad := hok
    refine r_aload_n (pq := 1) C dX12_can_0 rfl rfl ?_
    refine r_iload_n (pq := 2) C dX12_can_1 rfl rfl ?_
    refine r_callV (pq := 5) C (mc_X12_isPerson hB) (WM_obj _ _ _ _ _ _) rfl gX12_can_X12_isPerson rfl (na := 1) (by decide +kernel) rfl (by decide) (by decide) (Nat.le_of_ble_eq_true rfl) ⟨Nat.zero_le _, Nat.zero_le _⟩ dX12_can_2 rfl rfl (fun r9 w9 hq => ?_)
    obtain ⟨rfl, rfl⟩ := hq
    dsimp only [Option.toList, List.cons_append, List.nil_append]
    have l2 := b2_lt (rg x (I 1))
    refine rN_if_eq (tg := 24) (pq := 8) C dX12_can_5 (by decide) rfl (by omega) (fun c5 => ?_) (fun c5 => ?_)
    · refine r_iconst (v := (-1)) (pq := 25) C dX12_can_24 (by decide) rfl ?_
      refine r_iret C D rfl ⟨Nat.le_refl _, Nat.le_refl _⟩ dX12_can_25 ?_
      refine ⟨?_, (I, f, g), rfl, hB, ?_⟩
      · unfold rs_can
        rw [if_neg hbad]
      · exact EQ_rfl _
    · refine r_iload_n (pq := 9) C dX12_can_8 rfl rfl ?_
      refine r_callS (pq := 12) C (mc_X12_isDay) gX12_can_X12_isDay rfl (na := 1) (by decide +kernel) rfl (by decide) (by decide) (Nat.le_of_ble_eq_true rfl) ⟨Nat.zero_le _, Nat.zero_le _⟩ dX12_can_9 rfl rfl (fun r9 w9 hq => ?_)
      obtain ⟨rfl, rfl⟩ := hq
      dsimp only [Option.toList, List.cons_append, List.nil_append]
      have l9 := b2_lt (rg y 400)
      refine rN_if_eq (tg := 24) (pq := 15) C dX12_can_12 (by decide) rfl (by omega) (fun c12 => ?_) (fun c12 => ?_)
      · refine r_iconst (v := (-1)) (pq := 25) C dX12_can_24 (by decide) rfl ?_
        refine r_iret C D rfl ⟨Nat.le_refl _, Nat.le_refl _⟩ dX12_can_25 ?_
        refine ⟨?_, (I, f, g), rfl, hB, ?_⟩
        · unfold rs_can
          rw [if_neg hbad]
        · exact EQ_rfl _
      · exact absurd ⟨b2_1.mp c5, b2_1.mp c12⟩ hbad

theorem lqc {l : Nat} {c c' : Nat → Nat} {n : Nat} (h : ∀ i, i < n → c i = c' i) : ps (lq l c) n = ps (lq l c') n := ps_congr (fun i hi => by unfold lq; rw [h i hi])
theorem mqc {l : Nat} {c c' : Nat → Nat} {n : Nat} (h : ∀ i, i < n → c i = c' i) : ps (mq l c) n = ps (mq l c') n := ps_congr (fun i hi => by unfold mq; rw [h i hi])
theorem EQ_lay {I : Nat → Nat} {f f1 : Nat → Nat → Nat} {g : Nat → Nat → Int32} (h : ∀ k, k ≠ 12 → k ≠ 13 → k ≠ 14 → f1 k = f k) : EQ (I, f, g) (I, f1, g) := EQ_of rfl rfl rfl (fun k q1 q2 q3 _ _ => h k q1 q2 q3) rfl
set_option maxHeartbeats 4000000 in
set_option maxRecDepth 100000 in
/-- nights -/
theorem mc_X12_nights {l : Launch} {E : EV} {A : Nat → Nat} {w0 : RW} {I : Nat → Nat} {f : Nat → Nat → Nat} {g : Nat → Nat → Int32} (hS : SI (I, f, g)) {x y z u : Int32} {v9 : Nat} (hv9 : v9 < 2) : MC l E yX12_nights wsX12_nights 3 0 0 [.ref (A 0), .int x, .int y, .int z, .int u, .int (nI v9)] (WM E A w0 I f g) (mP E A w0 (rs_nights (I, f, g) x y z u v9) ((I, f, g))) := by
  refine MC.enter (cc := cX12_nights) (maxL := 6) (ret := (some .int)) (lv0 := [some (.ref (A 0)), some (.int x), some (.int y), some (.int z), some (.int u), some (.int (nI v9))]) (by decide) rfl (by simp [Value.category]) (Nat.le_of_ble_eq_true rfl) rfl ?_
  intro X hl hE C D
  subst hl
  subst hE
  have hB : mOK I f := hS.1
  by_cases hok : okNights (I, f, g) x y z u
  · have hP6 : I 1 ≤ 6 := hS.2.1
    obtain ⟨p, hp, rfl⟩ := rg_of hok.1 (by show I 1 < _; omega)
    obtain ⟨l9, hl9, rfl⟩ := rg_of hok.2.1 (by omega)
    obtain ⟨a, ha, rfl⟩ := rg_of hok.2.2.1 (by omega)
    obtain ⟨b, hb, rfl⟩ := rg_of hok.2.2.2.1 (by omega)
    have hab := hok.2.2.2.2
    rw [nI_toInt (by omega), nI_toInt (by omega)] at hab
    change p < I 1 at hp
    refine r_aload_n (pq := 1) C dX12_nights_0 rfl rfl ?_
    refine r_iload_n (pq := 2) C dX12_nights_1 rfl rfl ?_
    refine r_callV (pq := 5) C (mc_X12_isPerson hB) (WM_obj _ _ _ _ _ _) rfl gX12_nights_X12_isPerson rfl (na := 1) (by decide +kernel) rfl (by decide) (by decide) (Nat.le_of_ble_eq_true rfl) ⟨Nat.zero_le _, Nat.zero_le _⟩ dX12_nights_2 rfl rfl (fun r9 w9 hq => ?_)
    obtain ⟨rfl, rfl⟩ := hq
    dsimp only [Option.toList, List.cons_append, List.nil_append]
    have l2 := b2_lt (rg (nI p) (I 1))
    refine rN_if_eq (tg := 24) (pq := 8) C dX12_nights_5 (by decide) rfl (by omega) (fun c5 => absurd c5 (b2_1.mpr (hok.1))) (fun c5 => ?_)
    refine r_iload_n (pq := 9) C dX12_nights_8 rfl rfl ?_
    refine r_callS (pq := 12) C (mc_X12_isLand) gX12_nights_X12_isLand rfl (na := 1) (by decide +kernel) rfl (by decide) (by decide) (Nat.le_of_ble_eq_true rfl) ⟨Nat.zero_le _, Nat.zero_le _⟩ dX12_nights_9 rfl rfl (fun r9 w9 hq => ?_)
    obtain ⟨rfl, rfl⟩ := hq
    dsimp only [Option.toList, List.cons_append, List.nil_append]
    have l9x := b2_lt (rg (nI l9) 8)
    refine rN_if_eq (tg := 24) (pq := 15) C dX12_nights_12 (by decide) rfl (by omega) (fun c12 => absurd c12 (b2_1.mpr (hok.2.1))) (fun c12 => ?_)
    refine r_iload_n (pq := 16) C dX12_nights_15 rfl rfl ?_
    refine r_iload (pq := 18) C dX12_nights_16 rfl rfl ?_
    refine r_callS (pq := 21) C (mc_X12_isSpan) gX12_nights_X12_isSpan rfl (na := 2) (by decide +kernel) rfl (by decide) (by decide) (Nat.le_of_ble_eq_true rfl) ⟨Nat.zero_le _, Nat.zero_le _⟩ dX12_nights_18 rfl rfl (fun r9 w9 hq => ?_)
    obtain ⟨rfl, rfl⟩ := hq
    dsimp only [Option.toList, List.cons_append, List.nil_append]
    have l18 := b2_lt (rg (nI a) 400 ∧ rg (nI b) 400 ∧ (nI a).toInt ≤ (nI b).toInt)
    refine rN_if_ne (tg := 26) (pq := 24) C dX12_nights_21 (by decide) rfl (by omega) (fun c21 => ?_) (fun c21 => absurd c21 (b2_1.mpr (hok.2.2)))
    refine r_aload_n (pq := 27) C dX12_nights_26 rfl rfl ?_
    refine r_iload_n (pq := 28) C dX12_nights_27 rfl rfl ?_
    refine r_callV (pq := 31) C (mc_X12_lay hB hS.2.2.1 (by omega)) (WM_obj _ _ _ _ _ _) rfl gX12_nights_X12_lay rfl (na := 1) (by decide +kernel) rfl (by decide) (by decide) (Nat.le_of_ble_eq_true rfl) ⟨Nat.zero_le _, Nat.zero_le _⟩ dX12_nights_28 rfl rfl (fun r9 w9 hq => ?_)
    obtain ⟨rfl, f1, rfl, hB1, hk1, hc1, hl1⟩ := hq
    dsimp only [Option.toList, List.cons_append, List.nil_append]
    refine r_iload (pq := 33) C dX12_nights_31 rfl rfl ?_
    refine rN_if_eq (tg := 47) (pq := 36) C dX12_nights_33 (by decide) rfl (by omega) (fun c33 => ?_) (fun c33 => ?_)
    · refine r_aload_n (pq := 48) C dX12_nights_47 rfl rfl ?_
      refine r_iload_n (pq := 49) C dX12_nights_48 rfl rfl ?_
      refine r_iload_n (pq := 50) C dX12_nights_49 rfl rfl ?_
      refine r_iload (pq := 52) C dX12_nights_50 rfl rfl ?_
      refine r_callV (pq := 55) C (mc_X12_leastOf hB1 hl9 (hl1 l9 hl9) (by omega) hb) (WM_obj _ _ _ _ _ _) rfl gX12_nights_X12_leastOf rfl (na := 3) (by decide +kernel) rfl (by decide) (by decide) (Nat.le_of_ble_eq_true rfl) ⟨Nat.zero_le _, Nat.zero_le _⟩ dX12_nights_52 rfl rfl (fun r9 w9 hq => ?_)
      obtain ⟨rfl, rfl⟩ := hq
      dsimp only [Option.toList, List.cons_append, List.nil_append]
      refine r_iret C D rfl ⟨Nat.le_refl _, Nat.le_refl _⟩ dX12_nights_55 ?_
      refine ⟨?_, (_, _, _), rfl, hB1, EQ_lay hk1⟩
      unfold rs_nights
      rw [if_pos hok, tn_nI (by omega), tn_nI (by omega), tn_nI (by omega), tn_nI (by omega)]
      have e1 : ∀ n, n ≤ 400 → ∀ i, i < n → f1 12 i = cr (I, f, g) p i := fun n hn i hi => hc1 i (by omega)
      first
      | rw [if_pos c33, lqc (e1 (b + 1) (by omega)), lqc (e1 a (by omega))]
      | rw [if_neg c33, mqc (e1 (b + 1) (by omega)), mqc (e1 a (by omega))]
    · refine r_aload_n (pq := 37) C dX12_nights_36 rfl rfl ?_
      refine r_iload_n (pq := 38) C dX12_nights_37 rfl rfl ?_
      refine r_iload_n (pq := 39) C dX12_nights_38 rfl rfl ?_
      refine r_iload (pq := 41) C dX12_nights_39 rfl rfl ?_
      refine r_callV (pq := 44) C (mc_X12_mostOf hB1 hl9 (hl1 l9 hl9) (by omega) hb) (WM_obj _ _ _ _ _ _) rfl gX12_nights_X12_mostOf rfl (na := 3) (by decide +kernel) rfl (by decide) (by decide) (Nat.le_of_ble_eq_true rfl) ⟨Nat.zero_le _, Nat.zero_le _⟩ dX12_nights_41 rfl rfl (fun r9 w9 hq => ?_)
      obtain ⟨rfl, rfl⟩ := hq
      dsimp only [Option.toList, List.cons_append, List.nil_append]
      refine r_goto (tg := 55) C dX12_nights_44 (by decide) ?_
      refine r_iret C D rfl ⟨Nat.le_refl _, Nat.le_refl _⟩ dX12_nights_55 ?_
      refine ⟨?_, (_, _, _), rfl, hB1, EQ_lay hk1⟩
      unfold rs_nights
      rw [if_pos hok, tn_nI (by omega), tn_nI (by omega), tn_nI (by omega), tn_nI (by omega)]
      have e1 : ∀ n, n ≤ 400 → ∀ i, i < n → f1 12 i = cr (I, f, g) p i := fun n hn i hi => hc1 i (by omega)
      first
      | rw [if_pos c33, lqc (e1 (b + 1) (by omega)), lqc (e1 a (by omega))]
      | rw [if_neg c33, mqc (e1 (b + 1) (by omega)), mqc (e1 a (by omega))]
  · have hbad := hok
    refine r_aload_n (pq := 1) C dX12_nights_0 rfl rfl ?_
    refine r_iload_n (pq := 2) C dX12_nights_1 rfl rfl ?_
    refine r_callV (pq := 5) C (mc_X12_isPerson hB) (WM_obj _ _ _ _ _ _) rfl gX12_nights_X12_isPerson rfl (na := 1) (by decide +kernel) rfl (by decide) (by decide) (Nat.le_of_ble_eq_true rfl) ⟨Nat.zero_le _, Nat.zero_le _⟩ dX12_nights_2 rfl rfl (fun r9 w9 hq => ?_)
    obtain ⟨rfl, rfl⟩ := hq
    dsimp only [Option.toList, List.cons_append, List.nil_append]
    have l2 := b2_lt (rg x (I 1))
    refine rN_if_eq (tg := 24) (pq := 8) C dX12_nights_5 (by decide) rfl (by omega) (fun c5 => ?_) (fun c5 => ?_)
    · refine r_iconst (v := (-1)) (pq := 25) C dX12_nights_24 (by decide) rfl ?_
      refine r_iret C D rfl ⟨Nat.le_refl _, Nat.le_refl _⟩ dX12_nights_25 ?_
      refine ⟨?_, (I, f, g), rfl, hB, ?_⟩
      · unfold rs_nights
        rw [if_neg hbad]
      · exact EQ_rfl _
    · refine r_iload_n (pq := 9) C dX12_nights_8 rfl rfl ?_
      refine r_callS (pq := 12) C (mc_X12_isLand) gX12_nights_X12_isLand rfl (na := 1) (by decide +kernel) rfl (by decide) (by decide) (Nat.le_of_ble_eq_true rfl) ⟨Nat.zero_le _, Nat.zero_le _⟩ dX12_nights_9 rfl rfl (fun r9 w9 hq => ?_)
      obtain ⟨rfl, rfl⟩ := hq
      dsimp only [Option.toList, List.cons_append, List.nil_append]
      have l9 := b2_lt (rg y 8)
      refine rN_if_eq (tg := 24) (pq := 15) C dX12_nights_12 (by decide) rfl (by omega) (fun c12 => ?_) (fun c12 => ?_)
      · refine r_iconst (v := (-1)) (pq := 25) C dX12_nights_24 (by decide) rfl ?_
        refine r_iret C D rfl ⟨Nat.le_refl _, Nat.le_refl _⟩ dX12_nights_25 ?_
        refine ⟨?_, (I, f, g), rfl, hB, ?_⟩
        · unfold rs_nights
          rw [if_neg hbad]
        · exact EQ_rfl _
      · refine r_iload_n (pq := 16) C dX12_nights_15 rfl rfl ?_
        refine r_iload (pq := 18) C dX12_nights_16 rfl rfl ?_
        refine r_callS (pq := 21) C (mc_X12_isSpan) gX12_nights_X12_isSpan rfl (na := 2) (by decide +kernel) rfl (by decide) (by decide) (Nat.le_of_ble_eq_true rfl) ⟨Nat.zero_le _, Nat.zero_le _⟩ dX12_nights_18 rfl rfl (fun r9 w9 hq => ?_)
        obtain ⟨rfl, rfl⟩ := hq
        dsimp only [Option.toList, List.cons_append, List.nil_append]
        have l18 := b2_lt (rg z 400 ∧ rg u 400 ∧ z.toInt ≤ u.toInt)
        refine rN_if_ne (tg := 26) (pq := 24) C dX12_nights_21 (by decide) rfl (by omega) (fun c21 => ?_) (fun c21 => ?_)
        · exact absurd ⟨b2_1.mp c5, b2_1.mp c12, b2_1.mp c21⟩ hbad
        · refine r_iconst (v := (-1)) (pq := 25) C dX12_nights_24 (by decide) rfl ?_
          refine r_iret C D rfl ⟨Nat.le_refl _, Nat.le_refl _⟩ dX12_nights_25 ?_
          refine ⟨?_, (I, f, g), rfl, hB, ?_⟩
          · unfold rs_nights
            rw [if_neg hbad]
          · exact EQ_rfl _


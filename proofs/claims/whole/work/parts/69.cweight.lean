/-! ===== the class's calls: weight ===== -/
theorem nth_of {s : ST} {d : Nat} (hd : d < 8) : nth s (nI d) = if s.2.1 24 d = 0 then -11 else if 2 < s.2.1 24 d then -12 else 0 := by
  unfold nth
  rw [if_neg (fun h => h ((rg_nI (by omega)).mpr hd)), tn_nI (by omega)]
theorem rs_weight_n {s : ST} {x : Int32} (h : nth s x ≠ 0) : rs_weight s x = nth s x := by unfold rs_weight; rw [if_pos h]
theorem rs_weight_1 {s : ST} {d : Nat} (hd : d < 8) (h : s.2.1 24 d = 1) : rs_weight s (nI d) = nI (lwt s (tn (s.2.2 25 d))) := by
  unfold rs_weight
  rw [nth_of hd, tn_nI (by omega), h]
  rfl
theorem rs_weight_2 {s : ST} {d : Nat} (hd : d < 8) (h : s.2.1 24 d = 2) : rs_weight s (nI d) = nI (mwt s (tn (s.2.2 25 d))) := by
  unfold rs_weight
  rw [nth_of hd, tn_nI (by omega), h]
  rfl
theorem rs_weight_0 {s : ST} {d : Nat} (hd : d < 8) (h : s.2.1 24 d = 0) : rs_weight s (nI d) = -11 := by
  rw [rs_weight_n (by rw [nth_of hd, if_pos h]; decide), nth_of hd, if_pos h]
theorem rs_weight_3 {s : ST} {d : Nat} (hd : d < 8) (h : 3 ≤ s.2.1 24 d) : rs_weight s (nI d) = -12 := by
  rw [rs_weight_n (by rw [nth_of hd, if_neg (by omega), if_pos (by omega)]; decide), nth_of hd, if_neg (by omega), if_pos (by omega)]
theorem rs_weight_x {s : ST} {x : Int32} (h : ¬ rg x 8) : rs_weight s x = -1 := by
  have e : nth s x = -1 := by unfold nth; rw [if_pos h]
  rw [rs_weight_n (by rw [e]; decide), e]

set_option maxHeartbeats 4000000 in
set_option maxRecDepth 100000 in
/-- weight -/
theorem mc_X11_weight {l : Launch} {E : EV} {w : RW} {B : Nat → Nat} {s : ST} (hS : SI s) (hN : NS E B s w) {x : Int32} : MC l E yX11_weight wsX11_weight 4 0 0 [.ref (B 0), .int x] (w) (nP E B w (rs_weight s x) s) := by
  refine MC.enter (cc := cX11_weight) (maxL := 3) (ret := (some .int)) (lv0 := [some (.ref (B 0)), some (.int x), none]) (by decide) rfl (by simp [Value.category]) (Nat.le_of_ble_eq_true rfl) rfl ?_
  intro X hl hE C D
  subst hl
  subst hE
  have hI1 : s.1 1 ≤ 6 := hS.2.1
  have hI5 : s.1 5 ≤ 80 := hS.2.2.1
  have hI16 : s.1 16 ≤ 12 := hS.2.2.2.1
  have hNN := hN
  obtain ⟨o0, ⟨u1, e1, f1⟩, ⟨u2, e2, f2⟩, ⟨u3, e3, f3⟩, ⟨u5, e5, f5⟩, ⟨u6, e6, f6⟩, ⟨u8, e8, f8⟩, ⟨u10, e10, f10⟩, ⟨u11, e11, f11⟩, ⟨u13, e13, f13⟩, ⟨u14, e14, f14⟩, ⟨u15, e15⟩, ⟨u16, e16⟩, h20, h30, h100, h200, h220, h240, h300, h310⟩ := hNN
  by_cases hd : rg x 8
  · obtain ⟨d, hd9, rfl⟩ := rg_of hd (by omega)
    have hs := hS.sh hd9
    have hsh0 := f13 d hd9
    rcases (by omega : s.2.1 24 d = 0 ∨ s.2.1 24 d = 1 ∨ s.2.1 24 d = 2 ∨ 3 ≤ s.2.1 24 d) with e | e | e | e
    · have hsh : u13 d = none := by rw [hsh0]; unfold shl; rw [if_pos e]
      refine r_iload_n (pq := 1) C dX11_weight_0 rfl rfl ?_
      refine r_callS (pq := 4) C (mc_X11_isShelf) gX11_weight_X11_isShelf rfl (na := 1) (by decide +kernel) rfl (by decide) (by decide) (Nat.le_of_ble_eq_true rfl) ⟨Nat.zero_le _, Nat.zero_le _⟩ dX11_weight_1 rfl rfl (fun r9 w hq => ?_)
      obtain ⟨rfl, rfl⟩ := hq
      dsimp only [Option.toList, List.cons_append, List.nil_append]
      have l1 := b2_lt (rg (nI d) 8)
      refine rN_if_ne (tg := 9) (pq := 7) C dX11_weight_4 (by decide) rfl (by omega) (fun c4 => ?_) (fun c4 => absurd c4 (b2_1.mpr hd))
      refine r_aload_n (pq := 10) C dX11_weight_9 rfl rfl ?_
      refine r_getf (pq := 13) C 12 o0 rfl (by decide) (by decide +kernel) (Or.inl rfl) rfl dX11_weight_10 rfl ?_
      refine r_iload_n (pq := 14) C dX11_weight_13 rfl rfl ?_
      refine rN_aaldN (pq := 15) C 6 rfl rfl e13 (by omega) (by decide) hsh dX11_weight_14 rfl ?_
      refine r_astore_nN (j := 2) (pq := 16) C dX11_weight_15 rfl (by decide) rfl rfl ?_
      dsimp only [List.set]
      refine r_aload_nN (pq := 17) C dX11_weight_16 rfl rfl ?_
      refine r_ifnonnullN (pq := 20) C dX11_weight_17 rfl ?_
      refine r_bipush (v := (-11)) (pq := 22) C dX11_weight_20 (by decide) rfl ?_
      refine r_goto (tg := 29) C dX11_weight_22 (by decide) ?_
      refine r_iret C D rfl ⟨Nat.le_refl _, Nat.le_refl _⟩ dX11_weight_29 ?_
      refine ⟨?_, fun _ _ => rfl, B, rfl, hN⟩
      rw [rs_weight_0 hd9 e]
    · have hsh : u13 d = some (B (200 + tn (s.2.2 25 d))) := by rw [hsh0]; unfold shl; rw [if_neg (by omega), if_pos e]
      have hj := hs.2.1 e
      rw [show nP (xE X) B w (rs_weight s (nI d)) s = nP (xE X) B w (nI (lwt s (tn (s.2.2 25 d)))) s by rw [rs_weight_1 hd9 e]] at D
      generalize tn (s.2.2 25 d) = j at hsh hj D
      obtain ⟨z9, hr⟩ := h200 j hj
      have hlw := hS.2.2.2.2.2.2.1 j hj
      rcases (by have := hlw.1; omega : s.2.1 17 j = 0 ∨ s.2.1 17 j = 1 ∨ s.2.1 17 j = 2 ∨ s.2.1 17 j = 3) with k | k | k | k
      · rw [k] at hr
        refine r_iload_n (pq := 1) C dX11_weight_0 rfl rfl ?_
        refine r_callS (pq := 4) C (mc_X11_isShelf) gX11_weight_X11_isShelf rfl (na := 1) (by decide +kernel) rfl (by decide) (by decide) (Nat.le_of_ble_eq_true rfl) ⟨Nat.zero_le _, Nat.zero_le _⟩ dX11_weight_1 rfl rfl (fun r9 w hq => ?_)
        obtain ⟨rfl, rfl⟩ := hq
        dsimp only [Option.toList, List.cons_append, List.nil_append]
        have l1 := b2_lt (rg (nI d) 8)
        refine rN_if_ne (tg := 9) (pq := 7) C dX11_weight_4 (by decide) rfl (by omega) (fun c4 => ?_) (fun c4 => absurd c4 (b2_1.mpr hd))
        refine r_aload_n (pq := 10) C dX11_weight_9 rfl rfl ?_
        refine r_getf (pq := 13) C 12 o0 rfl (by decide) (by decide +kernel) (Or.inl rfl) rfl dX11_weight_10 rfl ?_
        refine r_iload_n (pq := 14) C dX11_weight_13 rfl rfl ?_
        refine rN_aaldS (pq := 15) C 6 rfl rfl e13 (by omega) (by decide) hsh dX11_weight_14 rfl ?_
        refine r_astore_n (j := 2) (pq := 16) C dX11_weight_15 rfl (by decide) rfl rfl ?_
        dsimp only [List.set]
        refine r_aload_n (pq := 17) C dX11_weight_16 rfl rfl ?_
        refine r_ifnonnull (tg := 25) C dX11_weight_17 (by decide) ?_
        refine r_aload_n (pq := 26) C dX11_weight_25 rfl rfl ?_
        refine r_callA (pq := 29) C (mc_X9_heft (k9 := 0) (by decide) hr) hr rfl gX11_weight_X9_heft_u319X9 rfl ⟨rfl, rfl⟩ (na := 0) (by decide +kernel) rfl (by decide) (by decide) (Nat.le_of_ble_eq_true rfl) ⟨Nat.zero_le _, Nat.zero_le _⟩ dX11_weight_26 rfl rfl (fun r9 w9 hq => ?_)
        obtain ⟨rfl, rfl⟩ := hq
        dsimp only [Option.toList, List.cons_append, List.nil_append]
        refine r_iret C D rfl ⟨Nat.le_refl _, Nat.le_refl _⟩ dX11_weight_29 ?_
        refine ⟨?_, fun _ _ => rfl, B, rfl, hN⟩
        unfold lwt
        rw [k]
        simp only [show ¬ (1 : Nat) = 0 by decide, show ¬ (2 : Nat) = 0 by decide, show ¬ (2 : Nat) = 1 by decide, show ¬ (3 : Nat) = 0 by decide, show ¬ (3 : Nat) = 1 by decide, show ¬ (3 : Nat) = 2 by decide, if_true, if_false]
        all_goals (congr 3; omega)
      · rw [k] at hr
        refine r_iload_n (pq := 1) C dX11_weight_0 rfl rfl ?_
        refine r_callS (pq := 4) C (mc_X11_isShelf) gX11_weight_X11_isShelf rfl (na := 1) (by decide +kernel) rfl (by decide) (by decide) (Nat.le_of_ble_eq_true rfl) ⟨Nat.zero_le _, Nat.zero_le _⟩ dX11_weight_1 rfl rfl (fun r9 w hq => ?_)
        obtain ⟨rfl, rfl⟩ := hq
        dsimp only [Option.toList, List.cons_append, List.nil_append]
        have l1 := b2_lt (rg (nI d) 8)
        refine rN_if_ne (tg := 9) (pq := 7) C dX11_weight_4 (by decide) rfl (by omega) (fun c4 => ?_) (fun c4 => absurd c4 (b2_1.mpr hd))
        refine r_aload_n (pq := 10) C dX11_weight_9 rfl rfl ?_
        refine r_getf (pq := 13) C 12 o0 rfl (by decide) (by decide +kernel) (Or.inl rfl) rfl dX11_weight_10 rfl ?_
        refine r_iload_n (pq := 14) C dX11_weight_13 rfl rfl ?_
        refine rN_aaldS (pq := 15) C 6 rfl rfl e13 (by omega) (by decide) hsh dX11_weight_14 rfl ?_
        refine r_astore_n (j := 2) (pq := 16) C dX11_weight_15 rfl (by decide) rfl rfl ?_
        dsimp only [List.set]
        refine r_aload_n (pq := 17) C dX11_weight_16 rfl rfl ?_
        refine r_ifnonnull (tg := 25) C dX11_weight_17 (by decide) ?_
        refine r_aload_n (pq := 26) C dX11_weight_25 rfl rfl ?_
        refine r_callA (pq := 29) C (mc_X7_heft (k9 := 1) (by decide) hr) hr rfl gX11_weight_X7_heft_u319X7 rfl ⟨rfl, rfl⟩ (na := 0) (by decide +kernel) rfl (by decide) (by decide) (Nat.le_of_ble_eq_true rfl) ⟨Nat.zero_le _, Nat.zero_le _⟩ dX11_weight_26 rfl rfl (fun r9 w9 hq => ?_)
        obtain ⟨rfl, rfl⟩ := hq
        dsimp only [Option.toList, List.cons_append, List.nil_append]
        refine r_iret C D rfl ⟨Nat.le_refl _, Nat.le_refl _⟩ dX11_weight_29 ?_
        refine ⟨?_, fun _ _ => rfl, B, rfl, hN⟩
        unfold lwt
        rw [k]
        simp only [show ¬ (1 : Nat) = 0 by decide, show ¬ (2 : Nat) = 0 by decide, show ¬ (2 : Nat) = 1 by decide, show ¬ (3 : Nat) = 0 by decide, show ¬ (3 : Nat) = 1 by decide, show ¬ (3 : Nat) = 2 by decide, if_true, if_false]
        all_goals (congr 3; omega)
      · rw [k] at hr
        refine r_iload_n (pq := 1) C dX11_weight_0 rfl rfl ?_
        refine r_callS (pq := 4) C (mc_X11_isShelf) gX11_weight_X11_isShelf rfl (na := 1) (by decide +kernel) rfl (by decide) (by decide) (Nat.le_of_ble_eq_true rfl) ⟨Nat.zero_le _, Nat.zero_le _⟩ dX11_weight_1 rfl rfl (fun r9 w hq => ?_)
        obtain ⟨rfl, rfl⟩ := hq
        dsimp only [Option.toList, List.cons_append, List.nil_append]
        have l1 := b2_lt (rg (nI d) 8)
        refine rN_if_ne (tg := 9) (pq := 7) C dX11_weight_4 (by decide) rfl (by omega) (fun c4 => ?_) (fun c4 => absurd c4 (b2_1.mpr hd))
        refine r_aload_n (pq := 10) C dX11_weight_9 rfl rfl ?_
        refine r_getf (pq := 13) C 12 o0 rfl (by decide) (by decide +kernel) (Or.inl rfl) rfl dX11_weight_10 rfl ?_
        refine r_iload_n (pq := 14) C dX11_weight_13 rfl rfl ?_
        refine rN_aaldS (pq := 15) C 6 rfl rfl e13 (by omega) (by decide) hsh dX11_weight_14 rfl ?_
        refine r_astore_n (j := 2) (pq := 16) C dX11_weight_15 rfl (by decide) rfl rfl ?_
        dsimp only [List.set]
        refine r_aload_n (pq := 17) C dX11_weight_16 rfl rfl ?_
        refine r_ifnonnull (tg := 25) C dX11_weight_17 (by decide) ?_
        refine r_aload_n (pq := 26) C dX11_weight_25 rfl rfl ?_
        refine r_callA (pq := 29) C (mc_X3_heft hr) hr rfl gX11_weight_X3_heft_u319X3 rfl ⟨rfl, rfl⟩ (na := 0) (by decide +kernel) rfl (by decide) (by decide) (Nat.le_of_ble_eq_true rfl) ⟨Nat.zero_le _, Nat.zero_le _⟩ dX11_weight_26 rfl rfl (fun r9 w9 hq => ?_)
        obtain ⟨rfl, rfl⟩ := hq
        dsimp only [Option.toList, List.cons_append, List.nil_append]
        refine r_iret C D rfl ⟨Nat.le_refl _, Nat.le_refl _⟩ dX11_weight_29 ?_
        refine ⟨?_, fun _ _ => rfl, B, rfl, hN⟩
        unfold lwt
        rw [k]
        simp only [show ¬ (1 : Nat) = 0 by decide, show ¬ (2 : Nat) = 0 by decide, show ¬ (2 : Nat) = 1 by decide, show ¬ (3 : Nat) = 0 by decide, show ¬ (3 : Nat) = 1 by decide, show ¬ (3 : Nat) = 2 by decide, if_true, if_false]
        congr 3
        unfold rch
        rw [k, if_pos (by decide)]
      · rw [k] at hr
        refine r_iload_n (pq := 1) C dX11_weight_0 rfl rfl ?_
        refine r_callS (pq := 4) C (mc_X11_isShelf) gX11_weight_X11_isShelf rfl (na := 1) (by decide +kernel) rfl (by decide) (by decide) (Nat.le_of_ble_eq_true rfl) ⟨Nat.zero_le _, Nat.zero_le _⟩ dX11_weight_1 rfl rfl (fun r9 w hq => ?_)
        obtain ⟨rfl, rfl⟩ := hq
        dsimp only [Option.toList, List.cons_append, List.nil_append]
        have l1 := b2_lt (rg (nI d) 8)
        refine rN_if_ne (tg := 9) (pq := 7) C dX11_weight_4 (by decide) rfl (by omega) (fun c4 => ?_) (fun c4 => absurd c4 (b2_1.mpr hd))
        refine r_aload_n (pq := 10) C dX11_weight_9 rfl rfl ?_
        refine r_getf (pq := 13) C 12 o0 rfl (by decide) (by decide +kernel) (Or.inl rfl) rfl dX11_weight_10 rfl ?_
        refine r_iload_n (pq := 14) C dX11_weight_13 rfl rfl ?_
        refine rN_aaldS (pq := 15) C 6 rfl rfl e13 (by omega) (by decide) hsh dX11_weight_14 rfl ?_
        refine r_astore_n (j := 2) (pq := 16) C dX11_weight_15 rfl (by decide) rfl rfl ?_
        dsimp only [List.set]
        refine r_aload_n (pq := 17) C dX11_weight_16 rfl rfl ?_
        refine r_ifnonnull (tg := 25) C dX11_weight_17 (by decide) ?_
        refine r_aload_n (pq := 26) C dX11_weight_25 rfl rfl ?_
        refine r_callA (pq := 29) C (mc_X0_heft (k9 := 3) (by decide) hr) hr rfl gX11_weight_X0_heft_u319X0 rfl ⟨rfl, rfl⟩ (na := 0) (by decide +kernel) rfl (by decide) (by decide) (Nat.le_of_ble_eq_true rfl) ⟨Nat.zero_le _, Nat.zero_le _⟩ dX11_weight_26 rfl rfl (fun r9 w9 hq => ?_)
        obtain ⟨rfl, rfl⟩ := hq
        dsimp only [Option.toList, List.cons_append, List.nil_append]
        refine r_iret C D rfl ⟨Nat.le_refl _, Nat.le_refl _⟩ dX11_weight_29 ?_
        refine ⟨?_, fun _ _ => rfl, B, rfl, hN⟩
        unfold lwt
        rw [k]
        simp only [show ¬ (1 : Nat) = 0 by decide, show ¬ (2 : Nat) = 0 by decide, show ¬ (2 : Nat) = 1 by decide, show ¬ (3 : Nat) = 0 by decide, show ¬ (3 : Nat) = 1 by decide, show ¬ (3 : Nat) = 2 by decide, if_true, if_false]
        all_goals (congr 3; omega)
    · have hsh : u13 d = some (B (100 + tn (s.2.2 25 d))) := by rw [hsh0]; unfold shl; rw [if_neg (by omega), if_neg (by omega), if_pos e]
      have hj := hs.2.2.1 e
      rw [show nP (xE X) B w (rs_weight s (nI d)) s = nP (xE X) B w (nI (mwt s (tn (s.2.2 25 d)))) s by rw [rs_weight_2 hd9 e]] at D
      generalize tn (s.2.2 25 d) = j at hsh hj D
      have hr := h100 j hj
      have hb := hS.2.2.2.2.2.1 j hj
      rcases (by have := hb.1; omega : s.2.1 6 j = 0 ∨ s.2.1 6 j = 1 ∨ s.2.1 6 j = 2 ∨ s.2.1 6 j = 3) with k | k | k | k
      · rw [k] at hr
        refine r_iload_n (pq := 1) C dX11_weight_0 rfl rfl ?_
        refine r_callS (pq := 4) C (mc_X11_isShelf) gX11_weight_X11_isShelf rfl (na := 1) (by decide +kernel) rfl (by decide) (by decide) (Nat.le_of_ble_eq_true rfl) ⟨Nat.zero_le _, Nat.zero_le _⟩ dX11_weight_1 rfl rfl (fun r9 w hq => ?_)
        obtain ⟨rfl, rfl⟩ := hq
        dsimp only [Option.toList, List.cons_append, List.nil_append]
        have l1 := b2_lt (rg (nI d) 8)
        refine rN_if_ne (tg := 9) (pq := 7) C dX11_weight_4 (by decide) rfl (by omega) (fun c4 => ?_) (fun c4 => absurd c4 (b2_1.mpr hd))
        refine r_aload_n (pq := 10) C dX11_weight_9 rfl rfl ?_
        refine r_getf (pq := 13) C 12 o0 rfl (by decide) (by decide +kernel) (Or.inl rfl) rfl dX11_weight_10 rfl ?_
        refine r_iload_n (pq := 14) C dX11_weight_13 rfl rfl ?_
        refine rN_aaldS (pq := 15) C 6 rfl rfl e13 (by omega) (by decide) hsh dX11_weight_14 rfl ?_
        refine r_astore_n (j := 2) (pq := 16) C dX11_weight_15 rfl (by decide) rfl rfl ?_
        dsimp only [List.set]
        refine r_aload_n (pq := 17) C dX11_weight_16 rfl rfl ?_
        refine r_ifnonnull (tg := 25) C dX11_weight_17 (by decide) ?_
        refine r_aload_n (pq := 26) C dX11_weight_25 rfl rfl ?_
        refine r_callA (pq := 29) C (mc_X5_heft (ci := 6) (Or.inl rfl) hb.2.2.1 hb.2.2.2.1 hr) hr rfl gX11_weight_X5_heft_u319X5 rfl ⟨rfl, rfl⟩ (na := 0) (by decide +kernel) rfl (by decide) (by decide) (Nat.le_of_ble_eq_true rfl) ⟨Nat.zero_le _, Nat.zero_le _⟩ dX11_weight_26 rfl rfl (fun r9 w9 hq => ?_)
        obtain ⟨rfl, rfl⟩ := hq
        dsimp only [Option.toList, List.cons_append, List.nil_append]
        refine r_iret C D rfl ⟨Nat.le_refl _, Nat.le_refl _⟩ dX11_weight_29 ?_
        refine ⟨?_, fun _ _ => rfl, B, rfl, hN⟩
        unfold mwt
        rw [k]
        simp only [show ¬ (1 : Nat) = 0 by decide, show ¬ (2 : Nat) = 0 by decide, show ¬ (2 : Nat) = 1 by decide, show ¬ (3 : Nat) = 0 by decide, show ¬ (3 : Nat) = 1 by decide, show ¬ (3 : Nat) = 2 by decide, if_true, if_false]
      · rw [k] at hr
        refine r_iload_n (pq := 1) C dX11_weight_0 rfl rfl ?_
        refine r_callS (pq := 4) C (mc_X11_isShelf) gX11_weight_X11_isShelf rfl (na := 1) (by decide +kernel) rfl (by decide) (by decide) (Nat.le_of_ble_eq_true rfl) ⟨Nat.zero_le _, Nat.zero_le _⟩ dX11_weight_1 rfl rfl (fun r9 w hq => ?_)
        obtain ⟨rfl, rfl⟩ := hq
        dsimp only [Option.toList, List.cons_append, List.nil_append]
        have l1 := b2_lt (rg (nI d) 8)
        refine rN_if_ne (tg := 9) (pq := 7) C dX11_weight_4 (by decide) rfl (by omega) (fun c4 => ?_) (fun c4 => absurd c4 (b2_1.mpr hd))
        refine r_aload_n (pq := 10) C dX11_weight_9 rfl rfl ?_
        refine r_getf (pq := 13) C 12 o0 rfl (by decide) (by decide +kernel) (Or.inl rfl) rfl dX11_weight_10 rfl ?_
        refine r_iload_n (pq := 14) C dX11_weight_13 rfl rfl ?_
        refine rN_aaldS (pq := 15) C 6 rfl rfl e13 (by omega) (by decide) hsh dX11_weight_14 rfl ?_
        refine r_astore_n (j := 2) (pq := 16) C dX11_weight_15 rfl (by decide) rfl rfl ?_
        dsimp only [List.set]
        refine r_aload_n (pq := 17) C dX11_weight_16 rfl rfl ?_
        refine r_ifnonnull (tg := 25) C dX11_weight_17 (by decide) ?_
        refine r_aload_n (pq := 26) C dX11_weight_25 rfl rfl ?_
        refine r_callA (pq := 29) C (mc_X1_heft (ci := 3) (Or.inr (Or.inl rfl)) hb.2.2.1 hb.2.2.2.1 hr) hr rfl gX11_weight_X1_heft_u319X1 rfl ⟨rfl, rfl⟩ (na := 0) (by decide +kernel) rfl (by decide) (by decide) (Nat.le_of_ble_eq_true rfl) ⟨Nat.zero_le _, Nat.zero_le _⟩ dX11_weight_26 rfl rfl (fun r9 w9 hq => ?_)
        obtain ⟨rfl, rfl⟩ := hq
        dsimp only [Option.toList, List.cons_append, List.nil_append]
        refine r_iret C D rfl ⟨Nat.le_refl _, Nat.le_refl _⟩ dX11_weight_29 ?_
        refine ⟨?_, fun _ _ => rfl, B, rfl, hN⟩
        unfold mwt
        rw [k]
        simp only [show ¬ (1 : Nat) = 0 by decide, show ¬ (2 : Nat) = 0 by decide, show ¬ (2 : Nat) = 1 by decide, show ¬ (3 : Nat) = 0 by decide, show ¬ (3 : Nat) = 1 by decide, show ¬ (3 : Nat) = 2 by decide, if_true, if_false]
      · rw [k] at hr
        refine r_iload_n (pq := 1) C dX11_weight_0 rfl rfl ?_
        refine r_callS (pq := 4) C (mc_X11_isShelf) gX11_weight_X11_isShelf rfl (na := 1) (by decide +kernel) rfl (by decide) (by decide) (Nat.le_of_ble_eq_true rfl) ⟨Nat.zero_le _, Nat.zero_le _⟩ dX11_weight_1 rfl rfl (fun r9 w hq => ?_)
        obtain ⟨rfl, rfl⟩ := hq
        dsimp only [Option.toList, List.cons_append, List.nil_append]
        have l1 := b2_lt (rg (nI d) 8)
        refine rN_if_ne (tg := 9) (pq := 7) C dX11_weight_4 (by decide) rfl (by omega) (fun c4 => ?_) (fun c4 => absurd c4 (b2_1.mpr hd))
        refine r_aload_n (pq := 10) C dX11_weight_9 rfl rfl ?_
        refine r_getf (pq := 13) C 12 o0 rfl (by decide) (by decide +kernel) (Or.inl rfl) rfl dX11_weight_10 rfl ?_
        refine r_iload_n (pq := 14) C dX11_weight_13 rfl rfl ?_
        refine rN_aaldS (pq := 15) C 6 rfl rfl e13 (by omega) (by decide) hsh dX11_weight_14 rfl ?_
        refine r_astore_n (j := 2) (pq := 16) C dX11_weight_15 rfl (by decide) rfl rfl ?_
        dsimp only [List.set]
        refine r_aload_n (pq := 17) C dX11_weight_16 rfl rfl ?_
        refine r_ifnonnull (tg := 25) C dX11_weight_17 (by decide) ?_
        refine r_aload_n (pq := 26) C dX11_weight_25 rfl rfl ?_
        refine r_callA (pq := 29) C (mc_X6_heft (ci := 7) (Or.inr (Or.inr (Or.inl rfl))) hb.2.2.1 hb.2.2.2.1 hr) hr rfl gX11_weight_X6_heft_u319X6 rfl ⟨rfl, rfl⟩ (na := 0) (by decide +kernel) rfl (by decide) (by decide) (Nat.le_of_ble_eq_true rfl) ⟨Nat.zero_le _, Nat.zero_le _⟩ dX11_weight_26 rfl rfl (fun r9 w9 hq => ?_)
        obtain ⟨rfl, rfl⟩ := hq
        dsimp only [Option.toList, List.cons_append, List.nil_append]
        refine r_iret C D rfl ⟨Nat.le_refl _, Nat.le_refl _⟩ dX11_weight_29 ?_
        refine ⟨?_, fun _ _ => rfl, B, rfl, hN⟩
        unfold mwt
        rw [k]
        simp only [show ¬ (1 : Nat) = 0 by decide, show ¬ (2 : Nat) = 0 by decide, show ¬ (2 : Nat) = 1 by decide, show ¬ (3 : Nat) = 0 by decide, show ¬ (3 : Nat) = 1 by decide, show ¬ (3 : Nat) = 2 by decide, if_true, if_false]
      · rw [k] at hr
        refine r_iload_n (pq := 1) C dX11_weight_0 rfl rfl ?_
        refine r_callS (pq := 4) C (mc_X11_isShelf) gX11_weight_X11_isShelf rfl (na := 1) (by decide +kernel) rfl (by decide) (by decide) (Nat.le_of_ble_eq_true rfl) ⟨Nat.zero_le _, Nat.zero_le _⟩ dX11_weight_1 rfl rfl (fun r9 w hq => ?_)
        obtain ⟨rfl, rfl⟩ := hq
        dsimp only [Option.toList, List.cons_append, List.nil_append]
        have l1 := b2_lt (rg (nI d) 8)
        refine rN_if_ne (tg := 9) (pq := 7) C dX11_weight_4 (by decide) rfl (by omega) (fun c4 => ?_) (fun c4 => absurd c4 (b2_1.mpr hd))
        refine r_aload_n (pq := 10) C dX11_weight_9 rfl rfl ?_
        refine r_getf (pq := 13) C 12 o0 rfl (by decide) (by decide +kernel) (Or.inl rfl) rfl dX11_weight_10 rfl ?_
        refine r_iload_n (pq := 14) C dX11_weight_13 rfl rfl ?_
        refine rN_aaldS (pq := 15) C 6 rfl rfl e13 (by omega) (by decide) hsh dX11_weight_14 rfl ?_
        refine r_astore_n (j := 2) (pq := 16) C dX11_weight_15 rfl (by decide) rfl rfl ?_
        dsimp only [List.set]
        refine r_aload_n (pq := 17) C dX11_weight_16 rfl rfl ?_
        refine r_ifnonnull (tg := 25) C dX11_weight_17 (by decide) ?_
        refine r_aload_n (pq := 26) C dX11_weight_25 rfl rfl ?_
        refine r_callA (pq := 29) C (mc_X10_heft (ci := 11) (Or.inr (Or.inr (Or.inr rfl))) hb.2.2.1 hb.2.2.2.1 hr) hr rfl gX11_weight_X10_heft_u319X10 rfl ⟨rfl, rfl⟩ (na := 0) (by decide +kernel) rfl (by decide) (by decide) (Nat.le_of_ble_eq_true rfl) ⟨Nat.zero_le _, Nat.zero_le _⟩ dX11_weight_26 rfl rfl (fun r9 w9 hq => ?_)
        obtain ⟨rfl, rfl⟩ := hq
        dsimp only [Option.toList, List.cons_append, List.nil_append]
        refine r_iret C D rfl ⟨Nat.le_refl _, Nat.le_refl _⟩ dX11_weight_29 ?_
        refine ⟨?_, fun _ _ => rfl, B, rfl, hN⟩
        unfold mwt
        rw [k]
        simp only [show ¬ (1 : Nat) = 0 by decide, show ¬ (2 : Nat) = 0 by decide, show ¬ (2 : Nat) = 1 by decide, show ¬ (3 : Nat) = 0 by decide, show ¬ (3 : Nat) = 1 by decide, show ¬ (3 : Nat) = 2 by decide, if_true, if_false]
    · have hsh : u13 d = some (B (300 + d)) := by rw [hsh0]; unfold shl; rw [if_neg (by omega), if_neg (by omega), if_neg (by omega)]
      have hr := h300 d hd9 e
      refine r_iload_n (pq := 1) C dX11_weight_0 rfl rfl ?_
      refine r_callS (pq := 4) C (mc_X11_isShelf) gX11_weight_X11_isShelf rfl (na := 1) (by decide +kernel) rfl (by decide) (by decide) (Nat.le_of_ble_eq_true rfl) ⟨Nat.zero_le _, Nat.zero_le _⟩ dX11_weight_1 rfl rfl (fun r9 w hq => ?_)
      obtain ⟨rfl, rfl⟩ := hq
      dsimp only [Option.toList, List.cons_append, List.nil_append]
      have l1 := b2_lt (rg (nI d) 8)
      refine rN_if_ne (tg := 9) (pq := 7) C dX11_weight_4 (by decide) rfl (by omega) (fun c4 => ?_) (fun c4 => absurd c4 (b2_1.mpr hd))
      refine r_aload_n (pq := 10) C dX11_weight_9 rfl rfl ?_
      refine r_getf (pq := 13) C 12 o0 rfl (by decide) (by decide +kernel) (Or.inl rfl) rfl dX11_weight_10 rfl ?_
      refine r_iload_n (pq := 14) C dX11_weight_13 rfl rfl ?_
      refine rN_aaldS (pq := 15) C 6 rfl rfl e13 (by omega) (by decide) hsh dX11_weight_14 rfl ?_
      refine r_astore_n (j := 2) (pq := 16) C dX11_weight_15 rfl (by decide) rfl rfl ?_
      dsimp only [List.set]
      refine r_aload_n (pq := 17) C dX11_weight_16 rfl rfl ?_
      refine r_ifnonnull (tg := 25) C dX11_weight_17 (by decide) ?_
      refine r_aload_n (pq := 26) C dX11_weight_25 rfl rfl ?_
      refine r_callA (pq := 29) C (mc_X4_heft) hr rfl gX11_weight_X4_heft_u319X4 rfl ⟨rfl, rfl⟩ (na := 0) (by decide +kernel) rfl (by decide) (by decide) (Nat.le_of_ble_eq_true rfl) ⟨Nat.zero_le _, Nat.zero_le _⟩ dX11_weight_26 rfl rfl (fun r9 w9 hq => ?_)
      obtain ⟨rfl, rfl⟩ := hq
      dsimp only [Option.toList, List.cons_append, List.nil_append]
      refine r_iret C D rfl ⟨Nat.le_refl _, Nat.le_refl _⟩ dX11_weight_29 ?_
      refine ⟨?_, fun _ _ => rfl, B, rfl, hN⟩
      rw [rs_weight_3 hd9 e]
  · skip
    refine r_iload_n (pq := 1) C dX11_weight_0 rfl rfl ?_
    refine r_callS (pq := 4) C (mc_X11_isShelf) gX11_weight_X11_isShelf rfl (na := 1) (by decide +kernel) rfl (by decide) (by decide) (Nat.le_of_ble_eq_true rfl) ⟨Nat.zero_le _, Nat.zero_le _⟩ dX11_weight_1 rfl rfl (fun r9 w hq => ?_)
    obtain ⟨rfl, rfl⟩ := hq
    dsimp only [Option.toList, List.cons_append, List.nil_append]
    have l1 := b2_lt (rg x 8)
    refine rN_if_ne (tg := 9) (pq := 7) C dX11_weight_4 (by decide) rfl (by omega) (fun c4 => ?_) (fun c4 => ?_)
    · exact absurd (b2_1.mp c4) hd
    · refine r_iconst (v := (-1)) (pq := 8) C dX11_weight_7 (by decide) rfl ?_
      refine r_iret C D rfl ⟨Nat.le_refl _, Nat.le_refl _⟩ dX11_weight_8 ?_
      refine ⟨?_, fun _ _ => rfl, B, rfl, hN⟩
      rw [rs_weight_x hd]


/-! ===== the class's calls: what is thrown ===== -/
set_option maxHeartbeats 4000000 in
set_option maxRecDepth 100000 in
theorem mx_X5_fail {l : Launch} {E : EV} {w : RW} {a : Nat} (hst : l.stackTraces = false) : MX l E yX5_fail wsX5_fail 6 1 6 [.ref a] w (fun _ _ => False) (fun c => c = "java/lang/IllegalStateException") := by
  refine MX.enter (cc := cX5_fail) (maxL := 1) (ret := none) (lv0 := [some (.ref a)]) (by decide) rfl (by simp [Value.category]) (Nat.le_of_ble_eq_true rfl) rfl ?_
  intro X hl hE C D
  subst hl
  subst hE
  exact r_throwS C D hst (cls := "java/lang/IllegalStateException") (text := "a mark fails") rfl (by decide +kernel) (by decide +kernel) (by decide) (by decide) (by decide +kernel) (by decide +kernel) (by decide +kernel) (by decide +kernel) dX5_fail_0 dX5_fail_3 dX5_fail_4 dX5_fail_6 dX5_fail_9 (by decide) ⟨Nat.le_of_ble_eq_true rfl, Nat.le_of_ble_eq_true rfl⟩

set_option maxHeartbeats 4000000 in
set_option maxRecDepth 100000 in
theorem mx_X9_fail {l : Launch} {E : EV} {w : RW} {a : Nat} (hst : l.stackTraces = false) : MX l E yX9_fail wsX9_fail 6 1 6 [.ref a] w (fun _ _ => False) (fun c => c = "java/lang/IllegalStateException") := by
  refine MX.enter (cc := cX9_fail) (maxL := 1) (ret := none) (lv0 := [some (.ref a)]) (by decide) rfl (by simp [Value.category]) (Nat.le_of_ble_eq_true rfl) rfl ?_
  intro X hl hE C D
  subst hl
  subst hE
  exact r_throwS C D hst (cls := "java/lang/IllegalStateException") (text := "a law fails") rfl (by decide +kernel) (by decide +kernel) (by decide) (by decide) (by decide +kernel) (by decide +kernel) (by decide +kernel) (by decide +kernel) dX9_fail_0 dX9_fail_3 dX9_fail_4 dX9_fail_6 dX9_fail_9 (by decide) ⟨Nat.le_of_ble_eq_true rfl, Nat.le_of_ble_eq_true rfl⟩

theorem rs_toss_n {s : ST} {x : Int32} (h : nth s x ≠ 0) : rs_toss s x = nth s x := by unfold rs_toss; rw [if_pos h]
theorem rs_toss_1 {s : ST} {d : Nat} (hd : d < 8) (h : s.2.1 24 d = 1) : rs_toss s (nI d) = if s.2.1 17 (tn (s.2.2 25 d)) = 2 then -15 else nI (s.2.1 18 (tn (s.2.2 25 d))) := by
  unfold rs_toss
  rw [nth_of hd, tn_nI (by omega), h]
  rfl
theorem rs_toss_2 {s : ST} {d : Nat} (hd : d < 8) (h : s.2.1 24 d = 2) : rs_toss s (nI d) = if s.2.1 6 (tn (s.2.2 25 d)) = 3 then -15 else nI (100 + tn (s.2.2 25 d)) := by
  unfold rs_toss
  rw [nth_of hd, tn_nI (by omega), h]
  rfl
theorem rs_toss_0 {s : ST} {d : Nat} (hd : d < 8) (h : s.2.1 24 d = 0) : rs_toss s (nI d) = -11 := by
  rw [rs_toss_n (by rw [nth_of hd, if_pos h]; decide), nth_of hd, if_pos h]
theorem rs_toss_3 {s : ST} {d : Nat} (hd : d < 8) (h : 3 ≤ s.2.1 24 d) : rs_toss s (nI d) = -12 := by
  rw [rs_toss_n (by rw [nth_of hd, if_neg (by omega), if_pos (by omega)]; decide), nth_of hd, if_neg (by omega), if_pos (by omega)]
theorem rs_toss_x {s : ST} {x : Int32} (h : ¬ rg x 8) : rs_toss s x = -1 := by
  have e : nth s x = -1 := by unfold nth; rw [if_pos h]
  rw [rs_toss_n (by rw [e]; decide), e]

set_option maxHeartbeats 4000000 in
set_option maxRecDepth 100000 in
/-- toss -/
theorem mc_X11_toss {l : Launch} {E : EV} {w : RW} {B : Nat → Nat} {s : ST} (hS : SI s) (hN : NS E B s w) {x : Int32} (hst : l.stackTraces = false) : MC l E yX11_toss wsX11_toss 7 1 6 [.ref (B 0), .int x] w (nP E B w (rs_toss s x) s) := by
  refine MC.enterW (cc := cX11_toss) (maxL := 4) (ret := some .int) (hh := [(33, 37, 40, 302)]) (lv0 := [some (.ref (B 0)), some (.int x), none, none]) (by decide) rfl (by simp [Value.category]) (Nat.le_of_ble_eq_true rfl) rfl ?_
  intro X hl hE C D htab
  subst hl
  subst hE
  have hI1 : s.1 1 ≤ 6 := hS.2.1
  have hI5 : s.1 5 ≤ 80 := hS.2.2.1
  have hI16 : s.1 16 ≤ 12 := hS.2.2.2.1
  have hNN := hN
  obtain ⟨o0, ⟨u1, e1, f1⟩, ⟨u2, e2, f2⟩, ⟨u3, e3, f3⟩, ⟨u5, e5, f5⟩, ⟨u6, e6, f6⟩, ⟨u8, e8, f8⟩, ⟨u10, e10, f10⟩, ⟨u11, e11, f11⟩, ⟨u13, e13, f13⟩, ⟨u14, e14, f14⟩, ⟨u15, e15⟩, ⟨u16, e16⟩, h20, h30, h100, h200, h220, h240, h300, h310⟩ := hNN
  by_cases hd : rg x 8
  · obtain ⟨d, hd9, rfl⟩ := rg_of hd (by omega)
    have hs := hS.sh hd9
    have hsh0 := f13 d hd9
    rcases (by omega : s.2.1 24 d = 0 ∨ s.2.1 24 d = 1 ∨ s.2.1 24 d = 2 ∨ 3 ≤ s.2.1 24 d) with e | e | e | e
    · have hsh : u13 d = none := by rw [hsh0]; unfold shl; rw [if_pos e]
      refine r_iload_n (pq := 1) C dX11_toss_0 rfl rfl ?_
      refine r_callS (pq := 4) C (mc_X11_isShelf) gX11_toss_X11_isShelf rfl (na := 1) (by decide +kernel) rfl (by decide) (by decide) (Nat.le_of_ble_eq_true rfl) ⟨by rw [D.2.2.2.1]; decide, by rw [D.2.2.2.2.1]; decide⟩ dX11_toss_1 rfl rfl (fun r9 w hq => ?_)
      obtain ⟨rfl, rfl⟩ := hq
      dsimp only [Option.toList, List.cons_append, List.nil_append]
      have l1 := b2_lt (rg (nI d) 8)
      refine rN_if_ne (tg := 9) (pq := 7) C dX11_toss_4 (by decide) rfl (by omega) (fun c4 => ?_) (fun c4 => absurd c4 (b2_1.mpr hd))
      refine r_aload_n (pq := 10) C dX11_toss_9 rfl rfl ?_
      refine r_getf (pq := 13) C 12 o0 rfl (by decide) (by decide +kernel) (Or.inl rfl) rfl dX11_toss_10 rfl ?_
      refine r_iload_n (pq := 14) C dX11_toss_13 rfl rfl ?_
      refine rN_aaldN (pq := 15) C 6 rfl rfl e13 (by omega) (by decide) hsh dX11_toss_14 rfl ?_
      refine r_astore_nN (j := 2) (pq := 16) C dX11_toss_15 rfl (by decide) rfl rfl ?_
      dsimp only [List.set]
      refine r_aload_nN (pq := 17) C dX11_toss_16 rfl rfl ?_
      refine r_ifnonnullN (pq := 20) C dX11_toss_17 rfl ?_
      refine r_bipush (v := (-11)) (pq := 22) C dX11_toss_20 (by decide) rfl ?_
      refine r_iret C D rfl ⟨Nat.le_of_ble_eq_true rfl, Nat.le_of_ble_eq_true rfl⟩ dX11_toss_22 ?_
      refine ⟨?_, fun _ _ => rfl, B, rfl, hN⟩
      rw [rs_toss_0 hd9 e]
    · have hsh : u13 d = some (B (200 + tn (s.2.2 25 d))) := by rw [hsh0]; unfold shl; rw [if_neg (by omega), if_pos e]
      have hj := hs.2.1 e
      have hrs := rs_toss_1 hd9 e
      generalize tn (s.2.2 25 d) = j at hsh hj hrs
      obtain ⟨z9, hr⟩ := h200 j hj
      have hr9 := hr
      have hlw := hS.2.2.2.2.2.2.1 j hj
      rcases (by have := hlw.1; omega : s.2.1 17 j = 0 ∨ s.2.1 17 j = 1 ∨ s.2.1 17 j = 2 ∨ s.2.1 17 j = 3) with k | k | k | k
      · rw [k] at hr hrs
        refine r_iload_n (pq := 1) C dX11_toss_0 rfl rfl ?_
        refine r_callS (pq := 4) C (mc_X11_isShelf) gX11_toss_X11_isShelf rfl (na := 1) (by decide +kernel) rfl (by decide) (by decide) (Nat.le_of_ble_eq_true rfl) ⟨by rw [D.2.2.2.1]; decide, by rw [D.2.2.2.2.1]; decide⟩ dX11_toss_1 rfl rfl (fun r9 w hq => ?_)
        obtain ⟨rfl, rfl⟩ := hq
        dsimp only [Option.toList, List.cons_append, List.nil_append]
        have l1 := b2_lt (rg (nI d) 8)
        refine rN_if_ne (tg := 9) (pq := 7) C dX11_toss_4 (by decide) rfl (by omega) (fun c4 => ?_) (fun c4 => absurd c4 (b2_1.mpr hd))
        refine r_aload_n (pq := 10) C dX11_toss_9 rfl rfl ?_
        refine r_getf (pq := 13) C 12 o0 rfl (by decide) (by decide +kernel) (Or.inl rfl) rfl dX11_toss_10 rfl ?_
        refine r_iload_n (pq := 14) C dX11_toss_13 rfl rfl ?_
        refine rN_aaldS (pq := 15) C 6 rfl rfl e13 (by omega) (by decide) hsh dX11_toss_14 rfl ?_
        refine r_astore_n (j := 2) (pq := 16) C dX11_toss_15 rfl (by decide) rfl rfl ?_
        dsimp only [List.set]
        refine r_aload_n (pq := 17) C dX11_toss_16 rfl rfl ?_
        refine r_ifnonnull (tg := 23) C dX11_toss_17 (by decide) ?_
        refine r_aload_n (pq := 24) C dX11_toss_23 rfl rfl ?_
        refine r_instNo (pq := 27) C (Or.inr (lwC_W _)) (by decide +kernel) hr9 dX11_toss_24 rfl ?_
        refine rN_if_eq (tg := 33) (pq := 30) C dX11_toss_27 (by decide) rfl (by omega) (fun c27 => ?_) (fun c27 => absurd rfl c27)
        refine r_aload_n (pq := 34) C dX11_toss_33 rfl rfl ?_
        refine r_callOX (pq := 37) C (As := []) (mx_X9_fail hst) hr rfl gX11_toss_X9_fail_u322X9 rfl (ggX11_toss_X2_fail _ List.mem_cons_self).1 (na := 0) (by decide +kernel) rfl (by decide) (by decide) (Nat.le_of_ble_eq_true rfl) ⟨by rw [D.2.2.2.1]; decide, by rw [D.2.2.2.2.1]; decide⟩ dX11_toss_34 rfl rfl (fun r9 w9 hq => hq.elim) ?_
        refine r_catch C htab (fun _ h => h) [] ⟨33, 37, 40, 302⟩ [] rfl (fun _ h => nomatch h) rfl (by decide) (name := "java/lang/IllegalStateException") (by decide +kernel) (by decide) (fun q9 => ?_)
        show GG X w 1 6 40 _ _
        refine r_astore_n (j := 3) (pq := 41) C dX11_toss_40 rfl (by decide) rfl rfl ?_
        dsimp only [List.set]
        refine r_aload_n (pq := 42) C dX11_toss_41 rfl rfl ?_
        refine r_callO (pq := 45) C (As := []) (mc_X9_failureNumber (ci := 10) (lwC_W 0) hr) hr rfl gX11_toss_X9_failureNumber_u325X9 rfl (ggX11_toss_X2_failureNumber _ List.mem_cons_self).1 (na := 0) (by decide +kernel) rfl (by decide) (by decide) (Nat.le_of_ble_eq_true rfl) ⟨by rw [D.2.2.2.1]; decide, by rw [D.2.2.2.2.1]; decide⟩ dX11_toss_42 rfl rfl (fun r9 w9 hq => ?_)
        obtain ⟨rfl, rfl⟩ := hq
        dsimp only [Option.toList, List.cons_append, List.nil_append]
        refine r_iret C D rfl ⟨Nat.le_of_ble_eq_true rfl, Nat.le_of_ble_eq_true rfl⟩ dX11_toss_45 ?_
        refine ⟨?_, fun _ _ => rfl, B, rfl, hN⟩
        rw [hrs]
        rfl
      · rw [k] at hr hrs
        refine r_iload_n (pq := 1) C dX11_toss_0 rfl rfl ?_
        refine r_callS (pq := 4) C (mc_X11_isShelf) gX11_toss_X11_isShelf rfl (na := 1) (by decide +kernel) rfl (by decide) (by decide) (Nat.le_of_ble_eq_true rfl) ⟨by rw [D.2.2.2.1]; decide, by rw [D.2.2.2.2.1]; decide⟩ dX11_toss_1 rfl rfl (fun r9 w hq => ?_)
        obtain ⟨rfl, rfl⟩ := hq
        dsimp only [Option.toList, List.cons_append, List.nil_append]
        have l1 := b2_lt (rg (nI d) 8)
        refine rN_if_ne (tg := 9) (pq := 7) C dX11_toss_4 (by decide) rfl (by omega) (fun c4 => ?_) (fun c4 => absurd c4 (b2_1.mpr hd))
        refine r_aload_n (pq := 10) C dX11_toss_9 rfl rfl ?_
        refine r_getf (pq := 13) C 12 o0 rfl (by decide) (by decide +kernel) (Or.inl rfl) rfl dX11_toss_10 rfl ?_
        refine r_iload_n (pq := 14) C dX11_toss_13 rfl rfl ?_
        refine rN_aaldS (pq := 15) C 6 rfl rfl e13 (by omega) (by decide) hsh dX11_toss_14 rfl ?_
        refine r_astore_n (j := 2) (pq := 16) C dX11_toss_15 rfl (by decide) rfl rfl ?_
        dsimp only [List.set]
        refine r_aload_n (pq := 17) C dX11_toss_16 rfl rfl ?_
        refine r_ifnonnull (tg := 23) C dX11_toss_17 (by decide) ?_
        refine r_aload_n (pq := 24) C dX11_toss_23 rfl rfl ?_
        refine r_instNo (pq := 27) C (Or.inr (lwC_W _)) (by decide +kernel) hr9 dX11_toss_24 rfl ?_
        refine rN_if_eq (tg := 33) (pq := 30) C dX11_toss_27 (by decide) rfl (by omega) (fun c27 => ?_) (fun c27 => absurd rfl c27)
        refine r_aload_n (pq := 34) C dX11_toss_33 rfl rfl ?_
        refine r_callOX (pq := 37) C (As := []) (mx_X9_fail hst) hr rfl gX11_toss_X9_fail_u322X7 rfl (ggX11_toss_X2_fail _ List.mem_cons_self).1 (na := 0) (by decide +kernel) rfl (by decide) (by decide) (Nat.le_of_ble_eq_true rfl) ⟨by rw [D.2.2.2.1]; decide, by rw [D.2.2.2.2.1]; decide⟩ dX11_toss_34 rfl rfl (fun r9 w9 hq => hq.elim) ?_
        refine r_catch C htab (fun _ h => h) [] ⟨33, 37, 40, 302⟩ [] rfl (fun _ h => nomatch h) rfl (by decide) (name := "java/lang/IllegalStateException") (by decide +kernel) (by decide) (fun q9 => ?_)
        show GG X w 1 6 40 _ _
        refine r_astore_n (j := 3) (pq := 41) C dX11_toss_40 rfl (by decide) rfl rfl ?_
        dsimp only [List.set]
        refine r_aload_n (pq := 42) C dX11_toss_41 rfl rfl ?_
        refine r_callO (pq := 45) C (As := []) (mc_X9_failureNumber (ci := 8) (lwC_W 1) hr) hr rfl gX11_toss_X9_failureNumber_u325X7 rfl (ggX11_toss_X2_failureNumber _ List.mem_cons_self).1 (na := 0) (by decide +kernel) rfl (by decide) (by decide) (Nat.le_of_ble_eq_true rfl) ⟨by rw [D.2.2.2.1]; decide, by rw [D.2.2.2.2.1]; decide⟩ dX11_toss_42 rfl rfl (fun r9 w9 hq => ?_)
        obtain ⟨rfl, rfl⟩ := hq
        dsimp only [Option.toList, List.cons_append, List.nil_append]
        refine r_iret C D rfl ⟨Nat.le_of_ble_eq_true rfl, Nat.le_of_ble_eq_true rfl⟩ dX11_toss_45 ?_
        refine ⟨?_, fun _ _ => rfl, B, rfl, hN⟩
        rw [hrs]
        rfl
      · rw [k] at hr hrs
        refine r_iload_n (pq := 1) C dX11_toss_0 rfl rfl ?_
        refine r_callS (pq := 4) C (mc_X11_isShelf) gX11_toss_X11_isShelf rfl (na := 1) (by decide +kernel) rfl (by decide) (by decide) (Nat.le_of_ble_eq_true rfl) ⟨by rw [D.2.2.2.1]; decide, by rw [D.2.2.2.2.1]; decide⟩ dX11_toss_1 rfl rfl (fun r9 w hq => ?_)
        obtain ⟨rfl, rfl⟩ := hq
        dsimp only [Option.toList, List.cons_append, List.nil_append]
        have l1 := b2_lt (rg (nI d) 8)
        refine rN_if_ne (tg := 9) (pq := 7) C dX11_toss_4 (by decide) rfl (by omega) (fun c4 => ?_) (fun c4 => absurd c4 (b2_1.mpr hd))
        refine r_aload_n (pq := 10) C dX11_toss_9 rfl rfl ?_
        refine r_getf (pq := 13) C 12 o0 rfl (by decide) (by decide +kernel) (Or.inl rfl) rfl dX11_toss_10 rfl ?_
        refine r_iload_n (pq := 14) C dX11_toss_13 rfl rfl ?_
        refine rN_aaldS (pq := 15) C 6 rfl rfl e13 (by omega) (by decide) hsh dX11_toss_14 rfl ?_
        refine r_astore_n (j := 2) (pq := 16) C dX11_toss_15 rfl (by decide) rfl rfl ?_
        dsimp only [List.set]
        refine r_aload_n (pq := 17) C dX11_toss_16 rfl rfl ?_
        refine r_ifnonnull (tg := 23) C dX11_toss_17 (by decide) ?_
        refine r_aload_n (pq := 24) C dX11_toss_23 rfl rfl ?_
        refine r_instNo (pq := 27) C (Or.inr (lwC_W _)) (by decide +kernel) hr9 dX11_toss_24 rfl ?_
        refine rN_if_eq (tg := 33) (pq := 30) C dX11_toss_27 (by decide) rfl (by omega) (fun c27 => ?_) (fun c27 => absurd rfl c27)
        refine r_aload_n (pq := 34) C dX11_toss_33 rfl rfl ?_
        refine r_callO (pq := 37) C (As := []) (mc_X3_fail) hr rfl gX11_toss_X3_fail_u322X3 rfl (ggX11_toss_X2_fail _ List.mem_cons_self).1 (na := 0) (by decide +kernel) rfl (by decide) (by decide) (Nat.le_of_ble_eq_true rfl) ⟨by rw [D.2.2.2.1]; decide, by rw [D.2.2.2.2.1]; decide⟩ dX11_toss_34 rfl rfl (fun r9 w9 hq => ?_)
        obtain ⟨rfl, rfl⟩ := hq
        dsimp only [Option.toList, List.cons_append, List.nil_append]
        refine r_goto (tg := 46) C dX11_toss_37 (by decide) ?_
        refine r_bipush (v := (-15)) (pq := 48) C dX11_toss_46 (by decide) rfl ?_
        refine r_iret C D rfl ⟨Nat.le_of_ble_eq_true rfl, Nat.le_of_ble_eq_true rfl⟩ dX11_toss_48 ?_
        refine ⟨?_, fun _ _ => rfl, B, rfl, hN⟩
        rw [hrs]
        rfl
      · rw [k] at hr hrs
        refine r_iload_n (pq := 1) C dX11_toss_0 rfl rfl ?_
        refine r_callS (pq := 4) C (mc_X11_isShelf) gX11_toss_X11_isShelf rfl (na := 1) (by decide +kernel) rfl (by decide) (by decide) (Nat.le_of_ble_eq_true rfl) ⟨by rw [D.2.2.2.1]; decide, by rw [D.2.2.2.2.1]; decide⟩ dX11_toss_1 rfl rfl (fun r9 w hq => ?_)
        obtain ⟨rfl, rfl⟩ := hq
        dsimp only [Option.toList, List.cons_append, List.nil_append]
        have l1 := b2_lt (rg (nI d) 8)
        refine rN_if_ne (tg := 9) (pq := 7) C dX11_toss_4 (by decide) rfl (by omega) (fun c4 => ?_) (fun c4 => absurd c4 (b2_1.mpr hd))
        refine r_aload_n (pq := 10) C dX11_toss_9 rfl rfl ?_
        refine r_getf (pq := 13) C 12 o0 rfl (by decide) (by decide +kernel) (Or.inl rfl) rfl dX11_toss_10 rfl ?_
        refine r_iload_n (pq := 14) C dX11_toss_13 rfl rfl ?_
        refine rN_aaldS (pq := 15) C 6 rfl rfl e13 (by omega) (by decide) hsh dX11_toss_14 rfl ?_
        refine r_astore_n (j := 2) (pq := 16) C dX11_toss_15 rfl (by decide) rfl rfl ?_
        dsimp only [List.set]
        refine r_aload_n (pq := 17) C dX11_toss_16 rfl rfl ?_
        refine r_ifnonnull (tg := 23) C dX11_toss_17 (by decide) ?_
        refine r_aload_n (pq := 24) C dX11_toss_23 rfl rfl ?_
        refine r_instNo (pq := 27) C (Or.inr (lwC_W _)) (by decide +kernel) hr9 dX11_toss_24 rfl ?_
        refine rN_if_eq (tg := 33) (pq := 30) C dX11_toss_27 (by decide) rfl (by omega) (fun c27 => ?_) (fun c27 => absurd rfl c27)
        refine r_aload_n (pq := 34) C dX11_toss_33 rfl rfl ?_
        refine r_callOX (pq := 37) C (As := []) (mx_X9_fail hst) hr rfl gX11_toss_X9_fail_u322X0 rfl (ggX11_toss_X2_fail _ List.mem_cons_self).1 (na := 0) (by decide +kernel) rfl (by decide) (by decide) (Nat.le_of_ble_eq_true rfl) ⟨by rw [D.2.2.2.1]; decide, by rw [D.2.2.2.2.1]; decide⟩ dX11_toss_34 rfl rfl (fun r9 w9 hq => hq.elim) ?_
        refine r_catch C htab (fun _ h => h) [] ⟨33, 37, 40, 302⟩ [] rfl (fun _ h => nomatch h) rfl (by decide) (name := "java/lang/IllegalStateException") (by decide +kernel) (by decide) (fun q9 => ?_)
        show GG X w 1 6 40 _ _
        refine r_astore_n (j := 3) (pq := 41) C dX11_toss_40 rfl (by decide) rfl rfl ?_
        dsimp only [List.set]
        refine r_aload_n (pq := 42) C dX11_toss_41 rfl rfl ?_
        refine r_callO (pq := 45) C (As := []) (mc_X9_failureNumber (ci := 2) (lwC_W 3) hr) hr rfl gX11_toss_X9_failureNumber_u325X0 rfl (ggX11_toss_X2_failureNumber _ List.mem_cons_self).1 (na := 0) (by decide +kernel) rfl (by decide) (by decide) (Nat.le_of_ble_eq_true rfl) ⟨by rw [D.2.2.2.1]; decide, by rw [D.2.2.2.2.1]; decide⟩ dX11_toss_42 rfl rfl (fun r9 w9 hq => ?_)
        obtain ⟨rfl, rfl⟩ := hq
        dsimp only [Option.toList, List.cons_append, List.nil_append]
        refine r_iret C D rfl ⟨Nat.le_of_ble_eq_true rfl, Nat.le_of_ble_eq_true rfl⟩ dX11_toss_45 ?_
        refine ⟨?_, fun _ _ => rfl, B, rfl, hN⟩
        rw [hrs]
        rfl
    · have hsh : u13 d = some (B (100 + tn (s.2.2 25 d))) := by rw [hsh0]; unfold shl; rw [if_neg (by omega), if_neg (by omega), if_pos e]
      have hj := hs.2.2.1 e
      have hrs := rs_toss_2 hd9 e
      generalize tn (s.2.2 25 d) = j at hsh hj hrs
      have hr := h100 j hj
      have hr9 := hr
      have hb := hS.2.2.2.2.2.1 j hj
      rcases (by have := hb.1; omega : s.2.1 6 j = 0 ∨ s.2.1 6 j = 1 ∨ s.2.1 6 j = 2 ∨ s.2.1 6 j = 3) with k | k | k | k
      · rw [k] at hr hrs
        refine r_iload_n (pq := 1) C dX11_toss_0 rfl rfl ?_
        refine r_callS (pq := 4) C (mc_X11_isShelf) gX11_toss_X11_isShelf rfl (na := 1) (by decide +kernel) rfl (by decide) (by decide) (Nat.le_of_ble_eq_true rfl) ⟨by rw [D.2.2.2.1]; decide, by rw [D.2.2.2.2.1]; decide⟩ dX11_toss_1 rfl rfl (fun r9 w hq => ?_)
        obtain ⟨rfl, rfl⟩ := hq
        dsimp only [Option.toList, List.cons_append, List.nil_append]
        have l1 := b2_lt (rg (nI d) 8)
        refine rN_if_ne (tg := 9) (pq := 7) C dX11_toss_4 (by decide) rfl (by omega) (fun c4 => ?_) (fun c4 => absurd c4 (b2_1.mpr hd))
        refine r_aload_n (pq := 10) C dX11_toss_9 rfl rfl ?_
        refine r_getf (pq := 13) C 12 o0 rfl (by decide) (by decide +kernel) (Or.inl rfl) rfl dX11_toss_10 rfl ?_
        refine r_iload_n (pq := 14) C dX11_toss_13 rfl rfl ?_
        refine rN_aaldS (pq := 15) C 6 rfl rfl e13 (by omega) (by decide) hsh dX11_toss_14 rfl ?_
        refine r_astore_n (j := 2) (pq := 16) C dX11_toss_15 rfl (by decide) rfl rfl ?_
        dsimp only [List.set]
        refine r_aload_n (pq := 17) C dX11_toss_16 rfl rfl ?_
        refine r_ifnonnull (tg := 23) C dX11_toss_17 (by decide) ?_
        refine r_aload_n (pq := 24) C dX11_toss_23 rfl rfl ?_
        refine r_instNo (pq := 27) C (Or.inl (mkC_M _)) (by decide +kernel) hr9 dX11_toss_24 rfl ?_
        refine rN_if_eq (tg := 33) (pq := 30) C dX11_toss_27 (by decide) rfl (by omega) (fun c27 => ?_) (fun c27 => absurd rfl c27)
        refine r_aload_n (pq := 34) C dX11_toss_33 rfl rfl ?_
        refine r_callOX (pq := 37) C (As := []) (mx_X5_fail hst) hr rfl gX11_toss_X5_fail_u322X5 rfl (ggX11_toss_X2_fail _ List.mem_cons_self).1 (na := 0) (by decide +kernel) rfl (by decide) (by decide) (Nat.le_of_ble_eq_true rfl) ⟨by rw [D.2.2.2.1]; decide, by rw [D.2.2.2.2.1]; decide⟩ dX11_toss_34 rfl rfl (fun r9 w9 hq => hq.elim) ?_
        refine r_catch C htab (fun _ h => h) [] ⟨33, 37, 40, 302⟩ [] rfl (fun _ h => nomatch h) rfl (by decide) (name := "java/lang/IllegalStateException") (by decide +kernel) (by decide) (fun q9 => ?_)
        show GG X w 1 6 40 _ _
        refine r_astore_n (j := 3) (pq := 41) C dX11_toss_40 rfl (by decide) rfl rfl ?_
        dsimp only [List.set]
        refine r_aload_n (pq := 42) C dX11_toss_41 rfl rfl ?_
        refine r_callO (pq := 45) C (As := []) (mc_X5_failureNumber (ci := 6) (Or.inl rfl) hb.2.2.1 hb.2.2.2.1 hr) hr rfl gX11_toss_X5_failureNumber_u325X5 rfl (ggX11_toss_X2_failureNumber _ List.mem_cons_self).1 (na := 0) (by decide +kernel) rfl (by decide) (by decide) (Nat.le_of_ble_eq_true rfl) ⟨by rw [D.2.2.2.1]; decide, by rw [D.2.2.2.2.1]; decide⟩ dX11_toss_42 rfl rfl (fun r9 w9 hq => ?_)
        obtain ⟨rfl, rfl⟩ := hq
        dsimp only [Option.toList, List.cons_append, List.nil_append]
        refine r_iret C D rfl ⟨Nat.le_of_ble_eq_true rfl, Nat.le_of_ble_eq_true rfl⟩ dX11_toss_45 ?_
        refine ⟨?_, fun _ _ => rfl, B, rfl, hN⟩
        rw [hrs]
        rfl
      · rw [k] at hr hrs
        refine r_iload_n (pq := 1) C dX11_toss_0 rfl rfl ?_
        refine r_callS (pq := 4) C (mc_X11_isShelf) gX11_toss_X11_isShelf rfl (na := 1) (by decide +kernel) rfl (by decide) (by decide) (Nat.le_of_ble_eq_true rfl) ⟨by rw [D.2.2.2.1]; decide, by rw [D.2.2.2.2.1]; decide⟩ dX11_toss_1 rfl rfl (fun r9 w hq => ?_)
        obtain ⟨rfl, rfl⟩ := hq
        dsimp only [Option.toList, List.cons_append, List.nil_append]
        have l1 := b2_lt (rg (nI d) 8)
        refine rN_if_ne (tg := 9) (pq := 7) C dX11_toss_4 (by decide) rfl (by omega) (fun c4 => ?_) (fun c4 => absurd c4 (b2_1.mpr hd))
        refine r_aload_n (pq := 10) C dX11_toss_9 rfl rfl ?_
        refine r_getf (pq := 13) C 12 o0 rfl (by decide) (by decide +kernel) (Or.inl rfl) rfl dX11_toss_10 rfl ?_
        refine r_iload_n (pq := 14) C dX11_toss_13 rfl rfl ?_
        refine rN_aaldS (pq := 15) C 6 rfl rfl e13 (by omega) (by decide) hsh dX11_toss_14 rfl ?_
        refine r_astore_n (j := 2) (pq := 16) C dX11_toss_15 rfl (by decide) rfl rfl ?_
        dsimp only [List.set]
        refine r_aload_n (pq := 17) C dX11_toss_16 rfl rfl ?_
        refine r_ifnonnull (tg := 23) C dX11_toss_17 (by decide) ?_
        refine r_aload_n (pq := 24) C dX11_toss_23 rfl rfl ?_
        refine r_instNo (pq := 27) C (Or.inl (mkC_M _)) (by decide +kernel) hr9 dX11_toss_24 rfl ?_
        refine rN_if_eq (tg := 33) (pq := 30) C dX11_toss_27 (by decide) rfl (by omega) (fun c27 => ?_) (fun c27 => absurd rfl c27)
        refine r_aload_n (pq := 34) C dX11_toss_33 rfl rfl ?_
        refine r_callOX (pq := 37) C (As := []) (mx_X5_fail hst) hr rfl gX11_toss_X5_fail_u322X1 rfl (ggX11_toss_X2_fail _ List.mem_cons_self).1 (na := 0) (by decide +kernel) rfl (by decide) (by decide) (Nat.le_of_ble_eq_true rfl) ⟨by rw [D.2.2.2.1]; decide, by rw [D.2.2.2.2.1]; decide⟩ dX11_toss_34 rfl rfl (fun r9 w9 hq => hq.elim) ?_
        refine r_catch C htab (fun _ h => h) [] ⟨33, 37, 40, 302⟩ [] rfl (fun _ h => nomatch h) rfl (by decide) (name := "java/lang/IllegalStateException") (by decide +kernel) (by decide) (fun q9 => ?_)
        show GG X w 1 6 40 _ _
        refine r_astore_n (j := 3) (pq := 41) C dX11_toss_40 rfl (by decide) rfl rfl ?_
        dsimp only [List.set]
        refine r_aload_n (pq := 42) C dX11_toss_41 rfl rfl ?_
        refine r_callO (pq := 45) C (As := []) (mc_X5_failureNumber (ci := 3) (Or.inr (Or.inl rfl)) hb.2.2.1 hb.2.2.2.1 hr) hr rfl gX11_toss_X5_failureNumber_u325X1 rfl (ggX11_toss_X2_failureNumber _ List.mem_cons_self).1 (na := 0) (by decide +kernel) rfl (by decide) (by decide) (Nat.le_of_ble_eq_true rfl) ⟨by rw [D.2.2.2.1]; decide, by rw [D.2.2.2.2.1]; decide⟩ dX11_toss_42 rfl rfl (fun r9 w9 hq => ?_)
        obtain ⟨rfl, rfl⟩ := hq
        dsimp only [Option.toList, List.cons_append, List.nil_append]
        refine r_iret C D rfl ⟨Nat.le_of_ble_eq_true rfl, Nat.le_of_ble_eq_true rfl⟩ dX11_toss_45 ?_
        refine ⟨?_, fun _ _ => rfl, B, rfl, hN⟩
        rw [hrs]
        rfl
      · rw [k] at hr hrs
        refine r_iload_n (pq := 1) C dX11_toss_0 rfl rfl ?_
        refine r_callS (pq := 4) C (mc_X11_isShelf) gX11_toss_X11_isShelf rfl (na := 1) (by decide +kernel) rfl (by decide) (by decide) (Nat.le_of_ble_eq_true rfl) ⟨by rw [D.2.2.2.1]; decide, by rw [D.2.2.2.2.1]; decide⟩ dX11_toss_1 rfl rfl (fun r9 w hq => ?_)
        obtain ⟨rfl, rfl⟩ := hq
        dsimp only [Option.toList, List.cons_append, List.nil_append]
        have l1 := b2_lt (rg (nI d) 8)
        refine rN_if_ne (tg := 9) (pq := 7) C dX11_toss_4 (by decide) rfl (by omega) (fun c4 => ?_) (fun c4 => absurd c4 (b2_1.mpr hd))
        refine r_aload_n (pq := 10) C dX11_toss_9 rfl rfl ?_
        refine r_getf (pq := 13) C 12 o0 rfl (by decide) (by decide +kernel) (Or.inl rfl) rfl dX11_toss_10 rfl ?_
        refine r_iload_n (pq := 14) C dX11_toss_13 rfl rfl ?_
        refine rN_aaldS (pq := 15) C 6 rfl rfl e13 (by omega) (by decide) hsh dX11_toss_14 rfl ?_
        refine r_astore_n (j := 2) (pq := 16) C dX11_toss_15 rfl (by decide) rfl rfl ?_
        dsimp only [List.set]
        refine r_aload_n (pq := 17) C dX11_toss_16 rfl rfl ?_
        refine r_ifnonnull (tg := 23) C dX11_toss_17 (by decide) ?_
        refine r_aload_n (pq := 24) C dX11_toss_23 rfl rfl ?_
        refine r_instNo (pq := 27) C (Or.inl (mkC_M _)) (by decide +kernel) hr9 dX11_toss_24 rfl ?_
        refine rN_if_eq (tg := 33) (pq := 30) C dX11_toss_27 (by decide) rfl (by omega) (fun c27 => ?_) (fun c27 => absurd rfl c27)
        refine r_aload_n (pq := 34) C dX11_toss_33 rfl rfl ?_
        refine r_callOX (pq := 37) C (As := []) (mx_X5_fail hst) hr rfl gX11_toss_X5_fail_u322X6 rfl (ggX11_toss_X2_fail _ List.mem_cons_self).1 (na := 0) (by decide +kernel) rfl (by decide) (by decide) (Nat.le_of_ble_eq_true rfl) ⟨by rw [D.2.2.2.1]; decide, by rw [D.2.2.2.2.1]; decide⟩ dX11_toss_34 rfl rfl (fun r9 w9 hq => hq.elim) ?_
        refine r_catch C htab (fun _ h => h) [] ⟨33, 37, 40, 302⟩ [] rfl (fun _ h => nomatch h) rfl (by decide) (name := "java/lang/IllegalStateException") (by decide +kernel) (by decide) (fun q9 => ?_)
        show GG X w 1 6 40 _ _
        refine r_astore_n (j := 3) (pq := 41) C dX11_toss_40 rfl (by decide) rfl rfl ?_
        dsimp only [List.set]
        refine r_aload_n (pq := 42) C dX11_toss_41 rfl rfl ?_
        refine r_callO (pq := 45) C (As := []) (mc_X5_failureNumber (ci := 7) (Or.inr (Or.inr (Or.inl rfl))) hb.2.2.1 hb.2.2.2.1 hr) hr rfl gX11_toss_X5_failureNumber_u325X6 rfl (ggX11_toss_X2_failureNumber _ List.mem_cons_self).1 (na := 0) (by decide +kernel) rfl (by decide) (by decide) (Nat.le_of_ble_eq_true rfl) ⟨by rw [D.2.2.2.1]; decide, by rw [D.2.2.2.2.1]; decide⟩ dX11_toss_42 rfl rfl (fun r9 w9 hq => ?_)
        obtain ⟨rfl, rfl⟩ := hq
        dsimp only [Option.toList, List.cons_append, List.nil_append]
        refine r_iret C D rfl ⟨Nat.le_of_ble_eq_true rfl, Nat.le_of_ble_eq_true rfl⟩ dX11_toss_45 ?_
        refine ⟨?_, fun _ _ => rfl, B, rfl, hN⟩
        rw [hrs]
        rfl
      · rw [k] at hr hrs
        refine r_iload_n (pq := 1) C dX11_toss_0 rfl rfl ?_
        refine r_callS (pq := 4) C (mc_X11_isShelf) gX11_toss_X11_isShelf rfl (na := 1) (by decide +kernel) rfl (by decide) (by decide) (Nat.le_of_ble_eq_true rfl) ⟨by rw [D.2.2.2.1]; decide, by rw [D.2.2.2.2.1]; decide⟩ dX11_toss_1 rfl rfl (fun r9 w hq => ?_)
        obtain ⟨rfl, rfl⟩ := hq
        dsimp only [Option.toList, List.cons_append, List.nil_append]
        have l1 := b2_lt (rg (nI d) 8)
        refine rN_if_ne (tg := 9) (pq := 7) C dX11_toss_4 (by decide) rfl (by omega) (fun c4 => ?_) (fun c4 => absurd c4 (b2_1.mpr hd))
        refine r_aload_n (pq := 10) C dX11_toss_9 rfl rfl ?_
        refine r_getf (pq := 13) C 12 o0 rfl (by decide) (by decide +kernel) (Or.inl rfl) rfl dX11_toss_10 rfl ?_
        refine r_iload_n (pq := 14) C dX11_toss_13 rfl rfl ?_
        refine rN_aaldS (pq := 15) C 6 rfl rfl e13 (by omega) (by decide) hsh dX11_toss_14 rfl ?_
        refine r_astore_n (j := 2) (pq := 16) C dX11_toss_15 rfl (by decide) rfl rfl ?_
        dsimp only [List.set]
        refine r_aload_n (pq := 17) C dX11_toss_16 rfl rfl ?_
        refine r_ifnonnull (tg := 23) C dX11_toss_17 (by decide) ?_
        refine r_aload_n (pq := 24) C dX11_toss_23 rfl rfl ?_
        refine r_instNo (pq := 27) C (Or.inl (mkC_M _)) (by decide +kernel) hr9 dX11_toss_24 rfl ?_
        refine rN_if_eq (tg := 33) (pq := 30) C dX11_toss_27 (by decide) rfl (by omega) (fun c27 => ?_) (fun c27 => absurd rfl c27)
        refine r_aload_n (pq := 34) C dX11_toss_33 rfl rfl ?_
        refine r_callO (pq := 37) C (As := []) (mc_X10_fail) hr rfl gX11_toss_X10_fail_u322X10 rfl (ggX11_toss_X2_fail _ List.mem_cons_self).1 (na := 0) (by decide +kernel) rfl (by decide) (by decide) (Nat.le_of_ble_eq_true rfl) ⟨by rw [D.2.2.2.1]; decide, by rw [D.2.2.2.2.1]; decide⟩ dX11_toss_34 rfl rfl (fun r9 w9 hq => ?_)
        obtain ⟨rfl, rfl⟩ := hq
        dsimp only [Option.toList, List.cons_append, List.nil_append]
        refine r_goto (tg := 46) C dX11_toss_37 (by decide) ?_
        refine r_bipush (v := (-15)) (pq := 48) C dX11_toss_46 (by decide) rfl ?_
        refine r_iret C D rfl ⟨Nat.le_of_ble_eq_true rfl, Nat.le_of_ble_eq_true rfl⟩ dX11_toss_48 ?_
        refine ⟨?_, fun _ _ => rfl, B, rfl, hN⟩
        rw [hrs]
        rfl
    · have hsh : u13 d = some (B (300 + d)) := by rw [hsh0]; unfold shl; rw [if_neg (by omega), if_neg (by omega), if_neg (by omega)]
      have hr := h300 d hd9 e
      refine r_iload_n (pq := 1) C dX11_toss_0 rfl rfl ?_
      refine r_callS (pq := 4) C (mc_X11_isShelf) gX11_toss_X11_isShelf rfl (na := 1) (by decide +kernel) rfl (by decide) (by decide) (Nat.le_of_ble_eq_true rfl) ⟨by rw [D.2.2.2.1]; decide, by rw [D.2.2.2.2.1]; decide⟩ dX11_toss_1 rfl rfl (fun r9 w hq => ?_)
      obtain ⟨rfl, rfl⟩ := hq
      dsimp only [Option.toList, List.cons_append, List.nil_append]
      have l1 := b2_lt (rg (nI d) 8)
      refine rN_if_ne (tg := 9) (pq := 7) C dX11_toss_4 (by decide) rfl (by omega) (fun c4 => ?_) (fun c4 => absurd c4 (b2_1.mpr hd))
      refine r_aload_n (pq := 10) C dX11_toss_9 rfl rfl ?_
      refine r_getf (pq := 13) C 12 o0 rfl (by decide) (by decide +kernel) (Or.inl rfl) rfl dX11_toss_10 rfl ?_
      refine r_iload_n (pq := 14) C dX11_toss_13 rfl rfl ?_
      refine rN_aaldS (pq := 15) C 6 rfl rfl e13 (by omega) (by decide) hsh dX11_toss_14 rfl ?_
      refine r_astore_n (j := 2) (pq := 16) C dX11_toss_15 rfl (by decide) rfl rfl ?_
      dsimp only [List.set]
      refine r_aload_n (pq := 17) C dX11_toss_16 rfl rfl ?_
      refine r_ifnonnull (tg := 23) C dX11_toss_17 (by decide) ?_
      refine r_aload_n (pq := 24) C dX11_toss_23 rfl rfl ?_
      refine r_instS (pq := 27) C (by decide +kernel) hr dX11_toss_24 rfl ?_
      refine rN_if_eq (tg := 33) (pq := 30) C dX11_toss_27 (by decide) rfl (by omega) (fun c27 => absurd c27 (by decide)) (fun c27 => ?_)
      refine r_bipush (v := (-12)) (pq := 32) C dX11_toss_30 (by decide) rfl ?_
      refine r_iret C D rfl ⟨Nat.le_of_ble_eq_true rfl, Nat.le_of_ble_eq_true rfl⟩ dX11_toss_32 ?_
      refine ⟨?_, fun _ _ => rfl, B, rfl, hN⟩
      rw [rs_toss_3 hd9 e]
  · skip
    refine r_iload_n (pq := 1) C dX11_toss_0 rfl rfl ?_
    refine r_callS (pq := 4) C (mc_X11_isShelf) gX11_toss_X11_isShelf rfl (na := 1) (by decide +kernel) rfl (by decide) (by decide) (Nat.le_of_ble_eq_true rfl) ⟨by rw [D.2.2.2.1]; decide, by rw [D.2.2.2.2.1]; decide⟩ dX11_toss_1 rfl rfl (fun r9 w hq => ?_)
    obtain ⟨rfl, rfl⟩ := hq
    dsimp only [Option.toList, List.cons_append, List.nil_append]
    have l1 := b2_lt (rg x 8)
    refine rN_if_ne (tg := 9) (pq := 7) C dX11_toss_4 (by decide) rfl (by omega) (fun c4 => ?_) (fun c4 => ?_)
    · exact absurd (b2_1.mp c4) hd
    · refine r_iconst (v := (-1)) (pq := 8) C dX11_toss_7 (by decide) rfl ?_
      refine r_iret C D rfl ⟨Nat.le_of_ble_eq_true rfl, Nat.le_of_ble_eq_true rfl⟩ dX11_toss_8 ?_
      refine ⟨?_, fun _ _ => rfl, B, rfl, hN⟩
      rw [rs_toss_x hd]

theorem th_element_1 {s : ST} {x y : Int32} (h : ¬ rg x 8) : th_element s x y = 1 := by unfold th_element; rw [if_pos h]
theorem th_element_2 {s : ST} {d : Nat} {y : Int32} (hd : d < 8) (h : ¬ (3 ≤ s.2.1 24 d ∧ rg y (s.2.1 26 d))) : th_element s (nI d) y = 2 := by
  unfold th_element
  rw [if_neg (fun z => z ((rg_nI (by omega)).mpr hd)), tn_nI (by omega), if_pos (by
    by_cases q : 3 ≤ s.2.1 24 d
    · exact Or.inr (fun z => h ⟨q, z⟩)
    · exact Or.inl (by omega))]
theorem th_element_0 {s : ST} {d : Nat} {y : Int32} (hd : d < 8) (h1 : 3 ≤ s.2.1 24 d) (h2 : rg y (s.2.1 26 d)) : th_element s (nI d) y = 0 := by
  unfold th_element
  rw [if_neg (fun z => z ((rg_nI (by omega)).mpr hd)), tn_nI (by omega), if_neg (fun z => z.elim (fun q => by omega) (fun q => q h2))]
theorem rg_in {y : Int32} {m : Nat} (hm : m < 2147483648) (h0 : ¬ y < 0) (h1 : y < nI m) : rg y m := by
  have a : ¬ y.toInt < (0 : Int32).toInt := fun q => h0 (Int32.lt_iff_toInt_lt.mpr q)
  have b := Int32.lt_iff_toInt_lt.mp h1
  rw [nI_toInt hm] at b
  have c : (0 : Int32).toInt = 0 := rfl
  rw [c] at a
  exact ⟨by omega, by omega⟩
theorem nI_nn {i : Nat} (h : i < 2147483648) : ¬ nI i < 0 := by
  intro q
  have b := Int32.lt_iff_toInt_lt.mp q
  rw [nI_toInt h] at b
  have c : (0 : Int32).toInt = 0 := rfl
  omega

set_option maxHeartbeats 4000000 in
set_option maxRecDepth 100000 in
/-- element -/
theorem mx_X11_element {l : Launch} {E : EV} {w : RW} {B : Nat → Nat} {s : ST} (hS : SI s) (hN : NS E B s w) {x y : Int32} (hst : l.stackTraces = false) : MX l E yX11_element wsX11_element 6 1 6 [.ref (B 0), .int x, .int y] w (fun r w' => th_element s x y = 0 ∧ w' = w ∧ r = some (.long (rs_element s x y).toInt64)) (fun c => (th_element s x y = 1 ∧ c = "java/lang/IllegalArgumentException") ∨ (th_element s x y = 2 ∧ c = "java/lang/IllegalStateException")) := by
  refine MX.enter (cc := cX11_element) (maxL := 4) (ret := some .long) (lv0 := [some (.ref (B 0)), some (.int x), some (.int y), none]) (by decide) rfl (by simp [Value.category]) (Nat.le_of_ble_eq_true rfl) rfl ?_
  intro X hl hE C D
  subst hl
  subst hE
  have hI1 : s.1 1 ≤ 6 := hS.2.1
  have hI5 : s.1 5 ≤ 80 := hS.2.2.1
  have hI16 : s.1 16 ≤ 12 := hS.2.2.2.1
  have hNN := hN
  obtain ⟨o0, ⟨u1, e1, f1⟩, ⟨u2, e2, f2⟩, ⟨u3, e3, f3⟩, ⟨u5, e5, f5⟩, ⟨u6, e6, f6⟩, ⟨u8, e8, f8⟩, ⟨u10, e10, f10⟩, ⟨u11, e11, f11⟩, ⟨u13, e13, f13⟩, ⟨u14, e14, f14⟩, ⟨u15, e15⟩, ⟨u16, e16⟩, h20, h30, h100, h200, h220, h240, h300, h310⟩ := hNN
  by_cases hd : rg x 8
  · obtain ⟨d, hd9, rfl⟩ := rg_of hd (by omega)
    have hs := hS.sh hd9
    by_cases e : 3 ≤ s.2.1 24 d
    · have hr := h300 d hd9 e
      obtain ⟨h9, gd, gv⟩ := h310 d hd9 e
      have hz := hs.2.2.2
      by_cases hy : rg y (s.2.1 26 d)
      · obtain ⟨i9, hi9, rfl⟩ := rg_of hy (by omega)
        refine r_iload_n (pq := 1) C dX11_element_0 rfl rfl ?_
        refine r_callS (pq := 4) C (mc_X11_isShelf) gX11_element_X11_isShelf rfl (na := 1) (by decide +kernel) rfl (by decide) (by decide) (Nat.le_of_ble_eq_true rfl) ⟨by rw [D.2.2.2.1]; decide, by rw [D.2.2.2.2.1]; decide⟩ dX11_element_1 rfl rfl (fun r9 w hq => ?_)
        obtain ⟨rfl, rfl⟩ := hq
        dsimp only [Option.toList, List.cons_append, List.nil_append]
        have l1 := b2_lt (rg (nI d) 8)
        refine rN_if_ne (tg := 18) (pq := 7) C dX11_element_4 (by decide) rfl (by omega) (fun c4 => ?_) (fun c4 => absurd c4 (b2_1.mpr hd))
        refine r_aload_n (pq := 19) C dX11_element_18 rfl rfl ?_
        refine r_iload_n (pq := 20) C dX11_element_19 rfl rfl ?_
        refine r_callV (pq := 23) C (mc_X11_rowOn hS hN hd9) o0 rfl gX11_element_X11_rowOn rfl (na := 1) (by decide +kernel) rfl (by decide) (by decide) (Nat.le_of_ble_eq_true rfl) ⟨by rw [D.2.2.2.1]; decide, by rw [D.2.2.2.2.1]; decide⟩ dX11_element_20 rfl rfl (fun r9 w hq => ?_)
        obtain ⟨rfl, rfl⟩ := hq
        dsimp only [Option.toList, List.cons_append, List.nil_append]
        rw [if_pos e]
        refine r_astore_n (j := 3) (pq := 24) C dX11_element_23 rfl (by decide) rfl rfl ?_
        dsimp only [List.set]
        refine r_aload_n (pq := 25) C dX11_element_24 rfl rfl ?_
        refine r_ifnonnull (tg := 39) C dX11_element_25 (by decide) ?_
        refine r_iload_n (pq := 40) C dX11_element_39 rfl rfl ?_
        refine rN_if_lt (tg := 52) (pq := 43) C dX11_element_40 (by decide) rfl (by omega) ?_
        refine r_iload_n (pq := 44) C dX11_element_43 rfl rfl ?_
        refine r_aload_n (pq := 45) C dX11_element_44 rfl rfl ?_
        refine r_getf (pq := 48) C 1 hr rfl (by decide) (by decide +kernel) (Or.inl rfl) rfl dX11_element_45 rfl ?_
        refine r_alen (pq := 49) C (v := nI (s.2.1 26 d)) 2 rfl gd rfl dX11_element_48 rfl ?_
        refine rN_icmp_lt (tg := 63) (pq := 52) C dX11_element_49 (by decide) rfl (by omega) (by omega) (fun c49 => ?_) (fun c49 => absurd hi9 (by omega))
        refine r_aload_n (pq := 64) C dX11_element_63 rfl rfl ?_
        refine r_getf (pq := 67) C 1 hr rfl (by decide) (by decide +kernel) (Or.inl rfl) rfl dX11_element_64 rfl ?_
        refine r_iload_n (pq := 68) C dX11_element_67 rfl rfl ?_
        refine rN_sald (pq := 69) C gd hi9 (by omega) dX11_element_68 rfl ?_
        rw [(gv i9 hi9).1]
        refine r_i2l (pq := 70) C dX11_element_69 rfl ?_
        refine r_lretX C D rfl ⟨Nat.zero_le _, Nat.zero_le _⟩ dX11_element_70 ?_
        refine ⟨th_element_0 hd9 e ((rg_nI (by omega)).mpr hi9), rfl, ?_⟩
        unfold rs_element
        rw [tn_nI (by omega), tn_nI (by omega)]
      · skip
        refine r_iload_n (pq := 1) C dX11_element_0 rfl rfl ?_
        refine r_callS (pq := 4) C (mc_X11_isShelf) gX11_element_X11_isShelf rfl (na := 1) (by decide +kernel) rfl (by decide) (by decide) (Nat.le_of_ble_eq_true rfl) ⟨by rw [D.2.2.2.1]; decide, by rw [D.2.2.2.2.1]; decide⟩ dX11_element_1 rfl rfl (fun r9 w hq => ?_)
        obtain ⟨rfl, rfl⟩ := hq
        dsimp only [Option.toList, List.cons_append, List.nil_append]
        have l1 := b2_lt (rg (nI d) 8)
        refine rN_if_ne (tg := 18) (pq := 7) C dX11_element_4 (by decide) rfl (by omega) (fun c4 => ?_) (fun c4 => absurd c4 (b2_1.mpr hd))
        refine r_aload_n (pq := 19) C dX11_element_18 rfl rfl ?_
        refine r_iload_n (pq := 20) C dX11_element_19 rfl rfl ?_
        refine r_callV (pq := 23) C (mc_X11_rowOn hS hN hd9) o0 rfl gX11_element_X11_rowOn rfl (na := 1) (by decide +kernel) rfl (by decide) (by decide) (Nat.le_of_ble_eq_true rfl) ⟨by rw [D.2.2.2.1]; decide, by rw [D.2.2.2.2.1]; decide⟩ dX11_element_20 rfl rfl (fun r9 w hq => ?_)
        obtain ⟨rfl, rfl⟩ := hq
        dsimp only [Option.toList, List.cons_append, List.nil_append]
        rw [if_pos e]
        refine r_astore_n (j := 3) (pq := 24) C dX11_element_23 rfl (by decide) rfl rfl ?_
        dsimp only [List.set]
        refine r_aload_n (pq := 25) C dX11_element_24 rfl rfl ?_
        refine r_ifnonnull (tg := 39) C dX11_element_25 (by decide) ?_
        refine r_iload_n (pq := 40) C dX11_element_39 rfl rfl ?_
        refine r_if_lt (tg := 52) (pq := 43) C dX11_element_40 (by decide) rfl (fun c40 => ?_) (fun c40 => ?_)
        · exact r_throwW C D hst (cls := "java/lang/IllegalStateException") (text := "no such place") (Or.inr ⟨th_element_2 hd9 (fun h => hy h.2), rfl⟩) (by decide +kernel) (by decide +kernel) (by decide) (by decide) (by decide +kernel) (by decide +kernel) (by decide +kernel) (by decide +kernel) dX11_element_52 dX11_element_55 dX11_element_56 dX11_element_59 dX11_element_62 (by decide) ⟨Nat.le_of_ble_eq_true rfl, Nat.le_of_ble_eq_true rfl⟩
        · refine r_iload_n (pq := 44) C dX11_element_43 rfl rfl ?_
          refine r_aload_n (pq := 45) C dX11_element_44 rfl rfl ?_
          refine r_getf (pq := 48) C 1 hr rfl (by decide) (by decide +kernel) (Or.inl rfl) rfl dX11_element_45 rfl ?_
          refine r_alen (pq := 49) C (v := nI (s.2.1 26 d)) 2 rfl gd rfl dX11_element_48 rfl ?_
          refine r_icmp_lt (tg := 63) (pq := 52) C dX11_element_49 (by decide) rfl (fun c49 => ?_) (fun c49 => ?_)
          · exact absurd (rg_in (by omega) c40 c49) hy
          · exact r_throwW C D hst (cls := "java/lang/IllegalStateException") (text := "no such place") (Or.inr ⟨th_element_2 hd9 (fun h => hy h.2), rfl⟩) (by decide +kernel) (by decide +kernel) (by decide) (by decide) (by decide +kernel) (by decide +kernel) (by decide +kernel) (by decide +kernel) dX11_element_52 dX11_element_55 dX11_element_56 dX11_element_59 dX11_element_62 (by decide) ⟨Nat.le_of_ble_eq_true rfl, Nat.le_of_ble_eq_true rfl⟩
    · skip
      refine r_iload_n (pq := 1) C dX11_element_0 rfl rfl ?_
      refine r_callS (pq := 4) C (mc_X11_isShelf) gX11_element_X11_isShelf rfl (na := 1) (by decide +kernel) rfl (by decide) (by decide) (Nat.le_of_ble_eq_true rfl) ⟨by rw [D.2.2.2.1]; decide, by rw [D.2.2.2.2.1]; decide⟩ dX11_element_1 rfl rfl (fun r9 w hq => ?_)
      obtain ⟨rfl, rfl⟩ := hq
      dsimp only [Option.toList, List.cons_append, List.nil_append]
      have l1 := b2_lt (rg (nI d) 8)
      refine rN_if_ne (tg := 18) (pq := 7) C dX11_element_4 (by decide) rfl (by omega) (fun c4 => ?_) (fun c4 => absurd c4 (b2_1.mpr hd))
      refine r_aload_n (pq := 19) C dX11_element_18 rfl rfl ?_
      refine r_iload_n (pq := 20) C dX11_element_19 rfl rfl ?_
      refine r_callV (pq := 23) C (mc_X11_rowOn hS hN hd9) o0 rfl gX11_element_X11_rowOn rfl (na := 1) (by decide +kernel) rfl (by decide) (by decide) (Nat.le_of_ble_eq_true rfl) ⟨by rw [D.2.2.2.1]; decide, by rw [D.2.2.2.2.1]; decide⟩ dX11_element_20 rfl rfl (fun r9 w hq => ?_)
      obtain ⟨rfl, rfl⟩ := hq
      dsimp only [Option.toList, List.cons_append, List.nil_append]
      rw [if_neg e]
      refine r_astore_nN (j := 3) (pq := 24) C dX11_element_23 rfl (by decide) rfl rfl ?_
      dsimp only [List.set]
      refine r_aload_nN (pq := 25) C dX11_element_24 rfl rfl ?_
      refine r_ifnonnullN (pq := 28) C dX11_element_25 rfl ?_
      exact r_throwW C D hst (cls := "java/lang/IllegalStateException") (text := "no row is held") (Or.inr ⟨th_element_2 hd9 (fun h => e h.1), rfl⟩) (by decide +kernel) (by decide +kernel) (by decide) (by decide) (by decide +kernel) (by decide +kernel) (by decide +kernel) (by decide +kernel) dX11_element_28 dX11_element_31 dX11_element_32 dX11_element_35 dX11_element_38 (by decide) ⟨Nat.le_of_ble_eq_true rfl, Nat.le_of_ble_eq_true rfl⟩
  · skip
    refine r_iload_n (pq := 1) C dX11_element_0 rfl rfl ?_
    refine r_callS (pq := 4) C (mc_X11_isShelf) gX11_element_X11_isShelf rfl (na := 1) (by decide +kernel) rfl (by decide) (by decide) (Nat.le_of_ble_eq_true rfl) ⟨by rw [D.2.2.2.1]; decide, by rw [D.2.2.2.2.1]; decide⟩ dX11_element_1 rfl rfl (fun r9 w hq => ?_)
    obtain ⟨rfl, rfl⟩ := hq
    dsimp only [Option.toList, List.cons_append, List.nil_append]
    have l1 := b2_lt (rg x 8)
    refine rN_if_ne (tg := 18) (pq := 7) C dX11_element_4 (by decide) rfl (by omega) (fun c4 => ?_) (fun c4 => ?_)
    · exact absurd (b2_1.mp c4) hd
    · exact r_throwW C D hst (cls := "java/lang/IllegalArgumentException") (text := "no such shelf") (Or.inl ⟨th_element_1 hd, rfl⟩) (by decide +kernel) (by decide +kernel) (by decide) (by decide) (by decide +kernel) (by decide +kernel) (by decide +kernel) (by decide +kernel) dX11_element_7 dX11_element_10 dX11_element_11 dX11_element_14 dX11_element_17 (by decide) ⟨Nat.le_of_ble_eq_true rfl, Nat.le_of_ble_eq_true rfl⟩

set_option maxHeartbeats 4000000 in
set_option maxRecDepth 100000 in
/-- the law's element -/
theorem mc_L_element {l : Launch} {E : EV} {w : RW} {B : Nat → Nat} {s : ST} (hS : SI s) (hN : NS E B s w) {x y : Int32} {q : Nat} {fo : Nat → Int64} (ho : w 2000 = some (q, .inl (E.2.1 3, 1, .inr (.inl fo)))) (hst : l.stackTraces = false) : MC l E yL_element wsL_element 7 1 6 [.ref (B 0), .int x, .int y, .ref q] w (fun r w' => r = some (.int (nI (th_element s x y))) ∧ (∀ j, j ≠ 2000 → w' j = w j) ∧ ∃ f', w' 2000 = some (q, .inl (E.2.1 3, 1, .inr (.inl f'))) ∧ (th_element s x y = 0 → f' 0 = (rs_element s x y).toInt64)) := by
  refine MC.enterW (cc := cL_element) (maxL := 5) (ret := some .int) (hh := [(0, 9, 12, 13), (0, 9, 16, 15)]) (lv0 := [some (.ref (B 0)), some (.int x), some (.int y), some (.ref q), none]) (by decide) rfl (by simp [Value.category]) (Nat.le_of_ble_eq_true rfl) rfl ?_
  intro X hl hE C D htab
  subst hl
  subst hE
  have o0 := hN.1
  have h3 : th_element s x y = 0 ∨ th_element s x y = 1 ∨ th_element s x y = 2 := by
    unfold th_element
    repeat' split
    all_goals simp
  rcases h3 with hth | hth | hth
  · skip
    refine r_aload_n (pq := 1) C dL_element_0 rfl rfl ?_
    refine r_iconst (pq := 2) C dL_element_1 rfl rfl ?_
    refine r_aload_n (pq := 3) C dL_element_2 rfl rfl ?_
    refine r_iload_n (pq := 4) C dL_element_3 rfl rfl ?_
    refine r_iload_n (pq := 5) C dL_element_4 rfl rfl ?_
    refine r_callVX (pq := 8) C (As := [.int x, .int y]) (mx_X11_element hS hN hst) o0 rfl gL_element_X11_element rfl (na := 2) (by decide +kernel) rfl (by decide) (by decide) (Nat.le_of_ble_eq_true rfl) ⟨by rw [D.2.2.2.1]; decide, by rw [D.2.2.2.2.1]; decide⟩ dL_element_5 rfl rfl (fun r9 w9 hq => ?_) (VX.none (fun c h => by rcases h with h | h <;> omega))
    obtain ⟨-, rfl, rfl⟩ := hq
    dsimp only [Option.toList, List.cons_append, List.nil_append]
    refine r_last (pq := 9) C ho (by unfold vp_in; decide) dL_element_8 rfl ?_
    refine r_goto (tg := 20) C dL_element_9 (by decide) ?_
    refine r_iconst (pq := 21) C dL_element_20 rfl rfl ?_
    refine r_iret C D rfl ⟨Nat.le_of_ble_eq_true rfl, Nat.le_of_ble_eq_true rfl⟩ dL_element_21 ?_
    refine ⟨by rw [hth]; rfl, fun j hj => va_n _ _ hj, _, va_s _ _ _, fun _ => ?_⟩
    rfl
  · skip
    refine r_aload_n (pq := 1) C dL_element_0 rfl rfl ?_
    refine r_iconst (pq := 2) C dL_element_1 rfl rfl ?_
    refine r_aload_n (pq := 3) C dL_element_2 rfl rfl ?_
    refine r_iload_n (pq := 4) C dL_element_3 rfl rfl ?_
    refine r_iload_n (pq := 5) C dL_element_4 rfl rfl ?_
    refine r_callVX (pq := 8) C (As := [.int x, .int y]) (mx_X11_element hS hN hst) o0 rfl gL_element_X11_element rfl (na := 2) (by decide +kernel) rfl (by decide) (by decide) (Nat.le_of_ble_eq_true rfl) ⟨by rw [D.2.2.2.1]; decide, by rw [D.2.2.2.2.1]; decide⟩ dL_element_5 rfl rfl (fun r9 w9 hq => by have := hq.1; omega) (r_catch C htab (E9 := "java/lang/IllegalArgumentException") (fun c h => by rcases h with h | h; exact h.2; omega) [] ⟨0, 9, 12, 13⟩ [⟨0, 9, 16, 15⟩] rfl (fun _ h => nomatch h) rfl (by decide) (name := "java/lang/IllegalArgumentException") (by decide +kernel) (by decide) (fun q9 => ?_))
    show GG X w 1 6 12 _ _
    refine r_astore (j := 4) (pq := 14) C dL_element_12 rfl (by decide) rfl rfl ?_
    refine r_iconst (pq := 15) C dL_element_14 rfl rfl ?_
    refine r_iret C D rfl ⟨Nat.le_of_ble_eq_true rfl, Nat.le_of_ble_eq_true rfl⟩ dL_element_15 ?_
    exact ⟨by rw [hth]; rfl, fun j hj => rfl, _, ho, fun z => by omega⟩
  · skip
    refine r_aload_n (pq := 1) C dL_element_0 rfl rfl ?_
    refine r_iconst (pq := 2) C dL_element_1 rfl rfl ?_
    refine r_aload_n (pq := 3) C dL_element_2 rfl rfl ?_
    refine r_iload_n (pq := 4) C dL_element_3 rfl rfl ?_
    refine r_iload_n (pq := 5) C dL_element_4 rfl rfl ?_
    refine r_callVX (pq := 8) C (As := [.int x, .int y]) (mx_X11_element hS hN hst) o0 rfl gL_element_X11_element rfl (na := 2) (by decide +kernel) rfl (by decide) (by decide) (Nat.le_of_ble_eq_true rfl) ⟨by rw [D.2.2.2.1]; decide, by rw [D.2.2.2.2.1]; decide⟩ dL_element_5 rfl rfl (fun r9 w9 hq => by have := hq.1; omega) (r_catch C htab (E9 := "java/lang/IllegalStateException") (fun c h => by rcases h with h | h; omega; exact h.2) [⟨0, 9, 12, 13⟩] ⟨0, 9, 16, 15⟩ [] rfl (fun z hz => Or.inr (by cases List.mem_singleton.mp hz; exact ⟨by decide, "java/lang/IllegalArgumentException", C.wds _ (by decide +kernel), C.env.2.2.2.1.2.2.2.2.2⟩)) rfl (by decide) (name := "java/lang/IllegalStateException") (by decide +kernel) (by decide) (fun q9 => ?_))
    show GG X w 1 6 16 _ _
    refine r_astore (j := 4) (pq := 18) C dL_element_16 rfl (by decide) rfl rfl ?_
    refine r_iconst (pq := 19) C dL_element_18 rfl rfl ?_
    refine r_iret C D rfl ⟨Nat.le_of_ble_eq_true rfl, Nat.le_of_ble_eq_true rfl⟩ dL_element_19 ?_
    exact ⟨by rw [hth]; rfl, fun j hj => rfl, _, ho, fun z => by omega⟩


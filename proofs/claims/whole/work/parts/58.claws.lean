/-! ===== the class's calls: law ===== -/
theorem ps_diff {h h' : Nat → Nat} (hh : ∀ i, h i ≤ h' i) {a : Nat} : ∀ {b : Nat}, a ≤ b → ps h b - ps h a ≤ ps h' b - ps h' a
  | 0, h0 => by rw [show a = 0 by omega]; omega
  | b + 1, h0 => by
    by_cases e : a = b + 1
    · rw [e]; omega
    · have ih := ps_diff hh (a := a) (b := b) (by omega)
      have m1 := ps_mono h (show a ≤ b by omega)
      have m2 := ps_mono h' (show a ≤ b by omega)
      have := hh b
      simp only [ps]
      omega
theorem lq_mq (l : Nat) (c : Nat → Nat) (i : Nat) : lq l c i ≤ mq l c i := by
  unfold lq mq
  by_cases h : c i = 2 ^ l
  · rw [if_pos h, pw_bit h]; omega
  · rw [if_neg h]; omega
theorem sl_cnt {h : Nat → Nat} (hh : ∀ i, h i ≤ 1) (a : Nat) : ∀ b, a ≤ b → sl h a b ≤ b - a
  | 0, h0 => by rw [show a = 0 by omega]; unfold sl; omega
  | b + 1, h0 => by
    by_cases e : a = b + 1
    · rw [e]; unfold sl; omega
    · have ih := sl_cnt hh a b (by omega)
      rw [sl_s h (by omega)]
      have := hh b
      omega
theorem wsm_le {h : Nat → Nat} (hh : ∀ i, h i ≤ 1) (R e : Nat) : wsm h R e ≤ e := sl_le hh _ _
theorem vd_kp {k n l wd d : Nat} {c : Nat → Nat} (hk : k < 4) : vd k n (wsm (lq l c) (if k = 0 ∨ k = 2 then wd else n + 1) (d + 1)) (wsm (mq l c) (if k = 0 ∨ k = 2 then wd else n + 1) (d + 1)) d = kp k n l wd c d := by
  rcases (by omega : k = 0 ∨ k = 1 ∨ k = 2 ∨ k = 3) with e | e | e | e <;> subst e
  · rfl
  · have e1 : d + 1 - (n + 1) = d - n := by omega
    have q1 := ps_diff (lq_mq l c) (show d - n ≤ d + 1 by omega)
    have q2 := sl_cnt (lq_le l c) (d - n) (d + 1) (by omega)
    have q3 := sl_cnt (mq_le l c) (d - n) (d + 1) (by omega)
    unfold vd kp wsm
    simp only [e1, show ¬ (1 : Nat) = 2 by decide, show ¬ (1 : Nat) = 3 by decide, show ¬ (1 : Nat) = 0 by decide, show ¬ (3 : Nat) = 0 by decide, show ¬ (3 : Nat) = 1 by decide, show ¬ (3 : Nat) = 2 by decide, or_false, false_or, or_true, true_and, if_false, if_true]
    unfold sl at *
    have q4 : d < n → ps (mq l c) (d + 1) - ps (mq l c) (d - n) ≤ n := fun h => by omega
    generalize ps (lq l c) (d + 1) - ps (lq l c) (d - n) = x at *
    generalize ps (mq l c) (d + 1) - ps (mq l c) (d - n) = y at *
    repeat' split
    all_goals omega
  · rfl
  · have e1 : d + 1 - (n + 1) = d - n := by omega
    have q1 := ps_diff (lq_mq l c) (show d - n ≤ d + 1 by omega)
    unfold vd kp wsm
    simp only [e1, show ¬ (1 : Nat) = 2 by decide, show ¬ (1 : Nat) = 3 by decide, show ¬ (1 : Nat) = 0 by decide, show ¬ (3 : Nat) = 0 by decide, show ¬ (3 : Nat) = 1 by decide, show ¬ (3 : Nat) = 2 by decide, or_false, false_or, or_true, true_and, if_false, if_true]
    unfold sl at *
    generalize ps (lq l c) (d + 1) - ps (lq l c) (d - n) = x at *
    generalize ps (mq l c) (d + 1) - ps (mq l c) (d - n) = y at *
    repeat' split
    all_goals omega
theorem vd_kj {s : ST} {j : Nat} {c : Nat → Nat} {d : Nat} (hk : s.2.1 17 j < 4) : vd (s.2.1 17 j) (s.2.1 19 j) (wsm (lq (s.2.1 18 j) c) (rch s j) (d + 1)) (wsm (mq (s.2.1 18 j) c) (rch s j) (d + 1)) d = kj s j c d := vd_kp hk
theorem rch_rng {s : ST} {j : Nat} (h : lwOK s.2.1 s.2.2 j) : 1 ≤ rch s j ∧ rch s j ≤ 201 := by
  obtain ⟨h1, h2, h3, h4⟩ := h
  unfold rch
  by_cases e : s.2.1 17 j = 0 ∨ s.2.1 17 j = 2
  · obtain ⟨wd, q1, q2, q3⟩ := h4 e
    rw [if_pos e, q3, tn_nI (by omega)]
    omega
  · rw [if_neg e]
    omega

set_option maxHeartbeats 4000000 in
set_option maxRecDepth 100000 in
/-- newLaw -/
theorem mc_X11_newLaw {l : Launch} {E : EV} {w : RW} {r rh re k9 l9 n9 : Nat} {z : Int32} (hk : k9 < 4) (hz : k9 = 0 ∨ k9 = 2 → ∃ wd, wd ≤ 200 ∧ z = nI wd) (n1 : r ≠ rh) (n2 : r ≠ re) (n3 : rh ≠ re) : MC l E yX11_newLaw wsX11_newLaw 5 3 12 [.int (nI k9), .int (nI l9), .int (nI n9), .int z] (w) (fun v w' => ∃ a ah ae, v = some (.ref a) ∧ w' r = lC (lwC k9) a l9 n9 (if k9 = 0 ∨ k9 = 2 then tn z else n9 + 1) ah ae 0 ∧ w' rh = tC ah l9 0 0 ∧ w' re = tC ae l9 0 0 ∧ ∀ q, q ≠ r → q ≠ rh → q ≠ re → w' q = w q) := by
  refine MC.enter (cc := cX11_newLaw) (maxL := 4) (ret := (some (.object "NightBook$Window"))) (lv0 := [some (.int (nI k9)), some (.int (nI l9)), some (.int (nI n9)), some (.int z)]) (by decide) rfl (by simp [Value.category]) (Nat.le_of_ble_eq_true rfl) rfl ?_
  intro X hl hE C D
  subst hl
  subst hE
  rcases (by omega : k9 = 0 ∨ k9 = 1 ∨ k9 = 2 ∨ k9 = 3) with e | e | e | e <;> subst e
  · obtain ⟨wd, hwd, rfl⟩ := hz (by decide)
    refine r_iload_n (pq := 1) C dX11_newLaw_0 rfl rfl ?_
    refine r_tableOut (tg := 59) C dX11_newLaw_1 (by decide) (by decide) ?_
    refine r_new (pq := 62) C (N := 6) (ci := 10) r rfl tyX9 tyX9_ok (by decide +kernel) (by decide +kernel) (by decide +kernel) (fs := [.int 0, .int 0, .int 0, .null, .null, .int 0]) (by intro j hj; rcases (by omega : j = 0 ∨ j = 1 ∨ j = 2 ∨ j = 3 ∨ j = 4 ∨ j = 5) with e | e | e | e | e | e <;> subst e <;> rfl) (by rw [D.2.2.2.1]; decide) (by rw [D.2.2.2.2.1]; decide) dX11_newLaw_59 rfl (fun a => ?_)
    refine r_dup (pq := 63) C dX11_newLaw_62 rfl rfl ?_
    refine r_iload_n (pq := 64) C dX11_newLaw_63 rfl rfl ?_
    refine r_iload_n (pq := 65) C dX11_newLaw_64 rfl rfl ?_
    refine r_iload_n (pq := 66) C dX11_newLaw_65 rfl rfl ?_
    refine r_callI (pq := 69) C (mc_X9_init (r := r) (rh := rh) (re := re) (ci := 10) (Or.inl rfl) n1 n2 n3 (va_s _ _ _)) gX11_newLaw_X9_init rfl (by decide +kernel) (by decide +kernel) (by decide +kernel) (na := 3) (by decide +kernel) rfl (by decide) (by decide) (Nat.le_of_ble_eq_true rfl) ⟨by rw [D.2.2.2.1]; decide, by rw [D.2.2.2.2.1]; decide⟩ dX11_newLaw_66 rfl rfl (fun r9 w9 hq => ?_)
    obtain ⟨rfl, ah, ae, q1, q2, q3, q4⟩ := hq
    dsimp only [Option.toList, List.cons_append, List.nil_append]
    refine r_aret C D rfl (Or.inr ⟨_, rfl⟩) ⟨Nat.le_of_ble_eq_true rfl, Nat.le_of_ble_eq_true rfl⟩ dX11_newLaw_69 ?_
    refine ⟨a, ah, ae, rfl, ?_, q2, q3, fun q z1 z2 z3 => (q4 q z1 z2 z3).trans (va_n _ _ z1)⟩
    rw [q1, if_pos (by decide), tn_nI (by omega)]; rfl
  · refine r_iload_n (pq := 1) C dX11_newLaw_0 rfl rfl ?_
    refine r_tableIn (tg := 28) C dX11_newLaw_1 (by decide) (by decide) rfl (by decide) ?_
    refine r_new (pq := 31) C (N := 6) (ci := 8) r rfl tyX7 tyX7_ok (by decide +kernel) (by decide +kernel) (by decide +kernel) (fs := [.int 0, .int 0, .int 0, .null, .null, .int 0]) (by intro j hj; rcases (by omega : j = 0 ∨ j = 1 ∨ j = 2 ∨ j = 3 ∨ j = 4 ∨ j = 5) with e | e | e | e | e | e <;> subst e <;> rfl) (by rw [D.2.2.2.1]; decide) (by rw [D.2.2.2.2.1]; decide) dX11_newLaw_28 rfl (fun a => ?_)
    refine r_dup (pq := 32) C dX11_newLaw_31 rfl rfl ?_
    refine r_iload_n (pq := 33) C dX11_newLaw_32 rfl rfl ?_
    refine r_iload_n (pq := 34) C dX11_newLaw_33 rfl rfl ?_
    refine r_callI (pq := 37) C (mc_X7_init (r := r) (rh := rh) (re := re) (ci := 8) (Or.inr (Or.inl rfl)) n1 n2 n3 (va_s _ _ _)) gX11_newLaw_X7_init rfl (by decide +kernel) (by decide +kernel) (by decide +kernel) (na := 2) (by decide +kernel) rfl (by decide) (by decide) (Nat.le_of_ble_eq_true rfl) ⟨by rw [D.2.2.2.1]; decide, by rw [D.2.2.2.2.1]; decide⟩ dX11_newLaw_34 rfl rfl (fun r9 w9 hq => ?_)
    obtain ⟨rfl, ah, ae, q1, q2, q3, q4⟩ := hq
    dsimp only [Option.toList, List.cons_append, List.nil_append]
    refine r_aret C D rfl (Or.inr ⟨_, rfl⟩) ⟨Nat.le_of_ble_eq_true rfl, Nat.le_of_ble_eq_true rfl⟩ dX11_newLaw_37 ?_
    refine ⟨a, ah, ae, rfl, ?_, q2, q3, fun q z1 z2 z3 => (q4 q z1 z2 z3).trans (va_n _ _ z1)⟩
    exact q1
  · obtain ⟨wd, hwd, rfl⟩ := hz (by decide)
    refine r_iload_n (pq := 1) C dX11_newLaw_0 rfl rfl ?_
    refine r_tableIn (tg := 38) C dX11_newLaw_1 (by decide) (by decide) rfl (by decide) ?_
    refine r_new (pq := 41) C (N := 6) (ci := 4) r rfl tyX3 tyX3_ok (by decide +kernel) (by decide +kernel) (by decide +kernel) (fs := [.int 0, .int 0, .int 0, .null, .null, .int 0]) (by intro j hj; rcases (by omega : j = 0 ∨ j = 1 ∨ j = 2 ∨ j = 3 ∨ j = 4 ∨ j = 5) with e | e | e | e | e | e <;> subst e <;> rfl) (by rw [D.2.2.2.1]; decide) (by rw [D.2.2.2.2.1]; decide) dX11_newLaw_38 rfl (fun a => ?_)
    refine r_dup (pq := 42) C dX11_newLaw_41 rfl rfl ?_
    refine r_iload_n (pq := 43) C dX11_newLaw_42 rfl rfl ?_
    refine r_iload_n (pq := 44) C dX11_newLaw_43 rfl rfl ?_
    refine r_iload_n (pq := 45) C dX11_newLaw_44 rfl rfl ?_
    refine r_callI (pq := 48) C (mc_X3_init (r := r) (rh := rh) (re := re) (ci := 4) (Or.inr (Or.inr (Or.inl rfl))) n1 n2 n3 (va_s _ _ _)) gX11_newLaw_X3_init rfl (by decide +kernel) (by decide +kernel) (by decide +kernel) (na := 3) (by decide +kernel) rfl (by decide) (by decide) (Nat.le_of_ble_eq_true rfl) ⟨by rw [D.2.2.2.1]; decide, by rw [D.2.2.2.2.1]; decide⟩ dX11_newLaw_45 rfl rfl (fun r9 w9 hq => ?_)
    obtain ⟨rfl, ah, ae, q1, q2, q3, q4⟩ := hq
    dsimp only [Option.toList, List.cons_append, List.nil_append]
    refine r_aret C D rfl (Or.inr ⟨_, rfl⟩) ⟨Nat.le_of_ble_eq_true rfl, Nat.le_of_ble_eq_true rfl⟩ dX11_newLaw_48 ?_
    refine ⟨a, ah, ae, rfl, ?_, q2, q3, fun q z1 z2 z3 => (q4 q z1 z2 z3).trans (va_n _ _ z1)⟩
    rw [q1, if_pos (by decide), tn_nI (by omega)]; rfl
  · refine r_iload_n (pq := 1) C dX11_newLaw_0 rfl rfl ?_
    refine r_tableIn (tg := 49) C dX11_newLaw_1 (by decide) (by decide) rfl (by decide) ?_
    refine r_new (pq := 52) C (N := 6) (ci := 2) r rfl tyX0 tyX0_ok (by decide +kernel) (by decide +kernel) (by decide +kernel) (fs := [.int 0, .int 0, .int 0, .null, .null, .int 0]) (by intro j hj; rcases (by omega : j = 0 ∨ j = 1 ∨ j = 2 ∨ j = 3 ∨ j = 4 ∨ j = 5) with e | e | e | e | e | e <;> subst e <;> rfl) (by rw [D.2.2.2.1]; decide) (by rw [D.2.2.2.2.1]; decide) dX11_newLaw_49 rfl (fun a => ?_)
    refine r_dup (pq := 53) C dX11_newLaw_52 rfl rfl ?_
    refine r_iload_n (pq := 54) C dX11_newLaw_53 rfl rfl ?_
    refine r_iload_n (pq := 55) C dX11_newLaw_54 rfl rfl ?_
    refine r_callI (pq := 58) C (mc_X0_init (r := r) (rh := rh) (re := re) (ci := 2) (Or.inr (Or.inr (Or.inr rfl))) n1 n2 n3 (va_s _ _ _)) gX11_newLaw_X0_init rfl (by decide +kernel) (by decide +kernel) (by decide +kernel) (na := 2) (by decide +kernel) rfl (by decide) (by decide) (Nat.le_of_ble_eq_true rfl) ⟨by rw [D.2.2.2.1]; decide, by rw [D.2.2.2.2.1]; decide⟩ dX11_newLaw_55 rfl rfl (fun r9 w9 hq => ?_)
    obtain ⟨rfl, ah, ae, q1, q2, q3, q4⟩ := hq
    dsimp only [Option.toList, List.cons_append, List.nil_append]
    refine r_aret C D rfl (Or.inr ⟨_, rfl⟩) ⟨Nat.le_of_ble_eq_true rfl, Nat.le_of_ble_eq_true rfl⟩ dX11_newLaw_58 ?_
    refine ⟨a, ah, ae, rfl, ?_, q2, q3, fun q z1 z2 z3 => (q4 q z1 z2 z3).trans (va_n _ _ z1)⟩
    exact q1

set_option maxHeartbeats 4000000 in
set_option maxRecDepth 100000 in
/-- law -/
theorem mc_X11_law {l : Launch} {E : EV} {w : RW} {B : Nat → Nat} {s : ST} (hS : SI s) (hN : NS E B s w) {x y z : Int32} : MC l E yX11_law wsX11_law 6 3 12 [.ref (B 0), .int x, .int y, .int z] (w) (nP E B w (rs_law s x y z) (nx_law s x y z)) := by
  refine MC.enter (cc := cX11_law) (maxL := 7) (ret := (some .int)) (lv0 := [some (.ref (B 0)), some (.int x), some (.int y), some (.int z), none, none, none]) (by decide) rfl (by simp [Value.category]) (Nat.le_of_ble_eq_true rfl) rfl ?_
  intro X hl hE C D
  subst hl
  subst hE
  have hI1 : s.1 1 ≤ 6 := hS.2.1
  have hI5 : s.1 5 ≤ 80 := hS.2.2.1
  have hI16 : s.1 16 ≤ 12 := hS.2.2.2.1
  have hNN := hN
  obtain ⟨o0, ⟨u1, e1, f1⟩, ⟨u2, e2, f2⟩, ⟨u3, e3, f3⟩, ⟨u5, e5, f5⟩, ⟨u6, e6, f6⟩, ⟨u8, e8, f8⟩, ⟨u10, e10, f10⟩, ⟨u11, e11, f11⟩, ⟨u13, e13, f13⟩, ⟨u14, e14, f14⟩, ⟨u15, e15⟩, ⟨u16, e16⟩, h20, h30, h100, h200, h220, h240, h300, h310⟩ := hNN
  by_cases ht : 0 ≤ x.toInt
  · obtain ⟨t, ht2, rfl⟩ : ∃ t : Nat, t < 2147483648 ∧ x = nI t := nI_of (fun h => by rw [lt_i] at h; have e0 : (0 : Int32).toInt = 0 := rfl; omega)
    by_cases hok : okLaw (nI t) y z
    · obtain ⟨h1, h2, h3, h4, h5⟩ := id hok
      rw [tn_nI ht2] at h2 h3 h5
      obtain ⟨n9, hn1, hn2, rfl⟩ := in_of (a := 0) (b := 200) h4 (by omega)
      have hz9 : t / 10 = 0 ∨ t / 10 = 2 → ∃ wd, wd ≤ 200 ∧ z = nI wd := fun h => by
        obtain ⟨wd, z1, z2, z3⟩ := in_of (a := 1) (b := 200) (h5 h) (by omega)
        exact ⟨wd, z2, z3⟩
      have fin9 : GG X w 0 0 78 [some (.ref (B 0)), some (.int (nI t)), some (.int (nI n9)), some (.int z), some (.int (nI (t / 10))), none, none] [] := by
        refine r_aload_n (pq := 79) C dX11_law_78 rfl rfl ?_
        refine r_getf (pq := 82) C 8 o0 rfl (by decide) (by decide +kernel) (Or.inl rfl) rfl dX11_law_79 rfl ?_
        refine r_bipush (v := nI 12) (pq := 84) C dX11_law_82 (by decide) rfl ?_
        refine rN_icmp_lt (tg := 90) (pq := 87) C dX11_law_84 (by decide) rfl (by omega) (by omega) (fun c84 => ?_) (fun c84 => ?_)
        · refine r_aload_n (pq := 91) C dX11_law_90 rfl rfl ?_
          refine r_getf (pq := 94) C 8 o0 rfl (by decide) (by decide +kernel) (Or.inl rfl) rfl dX11_law_91 rfl ?_
          refine r_istore (j := 6) (pq := 96) C dX11_law_94 rfl (by decide) rfl rfl ?_
          dsimp only [List.set]
          refine r_aload_n (pq := 97) C dX11_law_96 rfl rfl ?_
          refine r_getf (pq := 100) C 7 o0 rfl (by decide) (by decide +kernel) (Or.inl rfl) rfl dX11_law_97 rfl ?_
          refine r_iload (pq := 102) C dX11_law_100 rfl rfl ?_
          refine r_iload (pq := 104) C dX11_law_102 rfl rfl ?_
          refine r_iload_n (pq := 105) C dX11_law_104 rfl rfl ?_
          refine r_bipush (v := nI 10) (pq := 107) C dX11_law_105 (by decide) rfl ?_
          refine rN_irem (pq := 108) C dX11_law_107 (by omega) (by omega) (by omega) rfl ?_
          refine r_iload_n (pq := 109) C dX11_law_108 rfl rfl ?_
          refine r_iload_n (pq := 110) C dX11_law_109 rfl rfl ?_
          refine r_callS (pq := 113) C (mc_X11_newLaw (r := 200 + s.1 16) (rh := 220 + s.1 16) (re := 240 + s.1 16) (by omega) hz9 (by omega) (by omega) (by omega)) gX11_law_X11_newLaw rfl (na := 4) (by decide +kernel) rfl (by decide) (by decide) (Nat.le_of_ble_eq_true rfl) ⟨by rw [D.2.2.2.1]; decide, by rw [D.2.2.2.2.1]; decide⟩ dX11_law_110 rfl rfl (fun r9 w9 hq => ?_)
          obtain ⟨a, ah, ae, rfl, q1, q2, q3, q4⟩ := hq
          dsimp only [Option.toList, List.cons_append, List.nil_append]
          refine rN_aast (pq := 114) C 5 rfl ((q4 8 (by omega) (by omega) (by omega)).trans e8) (any_W C (lwC_W _) (Or.inl rfl) q1) (by omega) (by decide) dX11_law_113 rfl ?_
          refine r_aload_n (pq := 115) C dX11_law_114 rfl rfl ?_
          refine r_dup (pq := 116) C dX11_law_115 rfl rfl ?_
          refine r_getf (pq := 119) C 8 ((va_n _ _ (by decide)).trans ((q4 0 (by omega) (by omega) (by omega)).trans o0)) rfl (by decide) (by decide +kernel) (Or.inl rfl) rfl dX11_law_116 rfl ?_
          refine r_iconst (v := nI 1) (pq := 120) C dX11_law_119 (by decide) rfl ?_
          refine rN_iadd (pq := 121) C dX11_law_120 rfl ?_
          refine r_putf (pq := 124) C 8 ((va_n _ _ (by decide)).trans ((q4 0 (by omega) (by omega) (by omega)).trans o0)) rfl tyX11 tyX11_ok nmX11 (by decide) (by decide +kernel) (Or.inl rfl) rfl rfl rfl rfl (Nat.le_of_ble_eq_true rfl) dX11_law_121 rfl ?_
          refine r_iload (pq := 126) C dX11_law_124 rfl rfl ?_
          refine r_iret C D rfl ⟨Nat.le_of_ble_eq_true rfl, Nat.le_of_ble_eq_true rfl⟩ dX11_law_126 ?_
          have hBj : ∀ r, r ≠ 200 + s.1 16 → r ≠ 220 + s.1 16 → r ≠ 240 + s.1 16 → (va_up (va_up (va_up B (200 + s.1 16) a) (220 + s.1 16) ah) (240 + s.1 16) ae) r = B r := fun r h1 h2 h3 => by rw [va_n _ _ h3, va_n _ _ h2, va_n _ _ h1]
          have bL : (va_up (va_up (va_up B (200 + s.1 16) a) (220 + s.1 16) ah) (240 + s.1 16) ae) (200 + s.1 16) = a := by rw [va_n _ _ (by omega), va_n _ _ (by omega), va_s]
          have bH : (va_up (va_up (va_up B (200 + s.1 16) a) (220 + s.1 16) ah) (240 + s.1 16) ae) (220 + s.1 16) = ah := by rw [va_n _ _ (by omega), va_s]
          have bE : (va_up (va_up (va_up B (200 + s.1 16) a) (220 + s.1 16) ah) (240 + s.1 16) ae) (240 + s.1 16) = ae := va_s _ _ _
          have l17 : ((va_up s.1 16 ((s.1 16) + 1), upf (upf (upf s.2.1 17 (s.1 16) (t / 10)) 18 (s.1 16) (t % 10)) 19 (s.1 16) n9, upg s.2.2 20 (s.1 16) z) : ST).2.1 17 (s.1 16) = t / 10 := by show (upf (upf (upf s.2.1 17 (s.1 16) (t / 10)) 18 (s.1 16) (t % 10)) 19 (s.1 16) n9) 17 (s.1 16) = t / 10; rw [upf_o _ _ (by decide), upf_o _ _ (by decide), upf_s]
          have l18 : ((va_up s.1 16 ((s.1 16) + 1), upf (upf (upf s.2.1 17 (s.1 16) (t / 10)) 18 (s.1 16) (t % 10)) 19 (s.1 16) n9, upg s.2.2 20 (s.1 16) z) : ST).2.1 18 (s.1 16) = t % 10 := by show (upf (upf (upf s.2.1 17 (s.1 16) (t / 10)) 18 (s.1 16) (t % 10)) 19 (s.1 16) n9) 18 (s.1 16) = t % 10; rw [upf_o _ _ (by decide), upf_s]
          have l19 : ((va_up s.1 16 ((s.1 16) + 1), upf (upf (upf s.2.1 17 (s.1 16) (t / 10)) 18 (s.1 16) (t % 10)) 19 (s.1 16) n9, upg s.2.2 20 (s.1 16) z) : ST).2.1 19 (s.1 16) = n9 := by show (upf (upf (upf s.2.1 17 (s.1 16) (t / 10)) 18 (s.1 16) (t % 10)) 19 (s.1 16) n9) 19 (s.1 16) = n9; rw [upf_s]
          have l20 : ((va_up s.1 16 ((s.1 16) + 1), upf (upf (upf s.2.1 17 (s.1 16) (t / 10)) 18 (s.1 16) (t % 10)) 19 (s.1 16) n9, upg s.2.2 20 (s.1 16) z) : ST).2.2 20 (s.1 16) = z := by show upg s.2.2 20 (s.1 16) z 20 (s.1 16) = z; unfold upg; rw [va_s]; unfold upd; rw [if_pos rfl]
          have m17 : ∀ {j : Nat}, j ≠ s.1 16 → ((va_up s.1 16 ((s.1 16) + 1), upf (upf (upf s.2.1 17 (s.1 16) (t / 10)) 18 (s.1 16) (t % 10)) 19 (s.1 16) n9, upg s.2.2 20 (s.1 16) z) : ST).2.1 17 j = s.2.1 17 j := fun h => by show (upf (upf (upf s.2.1 17 (s.1 16) (t / 10)) 18 (s.1 16) (t % 10)) 19 (s.1 16) n9) 17 _ = _; rw [upf_m _ _ h, upf_m _ _ h, upf_m _ _ h]
          have m18 : ∀ {j : Nat}, j ≠ s.1 16 → ((va_up s.1 16 ((s.1 16) + 1), upf (upf (upf s.2.1 17 (s.1 16) (t / 10)) 18 (s.1 16) (t % 10)) 19 (s.1 16) n9, upg s.2.2 20 (s.1 16) z) : ST).2.1 18 j = s.2.1 18 j := fun h => by show (upf (upf (upf s.2.1 17 (s.1 16) (t / 10)) 18 (s.1 16) (t % 10)) 19 (s.1 16) n9) 18 _ = _; rw [upf_m _ _ h, upf_m _ _ h, upf_m _ _ h]
          have m19 : ∀ {j : Nat}, j ≠ s.1 16 → ((va_up s.1 16 ((s.1 16) + 1), upf (upf (upf s.2.1 17 (s.1 16) (t / 10)) 18 (s.1 16) (t % 10)) 19 (s.1 16) n9, upg s.2.2 20 (s.1 16) z) : ST).2.1 19 j = s.2.1 19 j := fun h => by show (upf (upf (upf s.2.1 17 (s.1 16) (t / 10)) 18 (s.1 16) (t % 10)) 19 (s.1 16) n9) 19 _ = _; rw [upf_m _ _ h, upf_m _ _ h, upf_m _ _ h]
          have m20 : ∀ {j : Nat}, j ≠ s.1 16 → ((va_up s.1 16 ((s.1 16) + 1), upf (upf (upf s.2.1 17 (s.1 16) (t / 10)) 18 (s.1 16) (t % 10)) 19 (s.1 16) n9, upg s.2.2 20 (s.1 16) z) : ST).2.2 20 j = s.2.2 20 j := fun h => by show upg s.2.2 20 (s.1 16) z 20 _ = _; unfold upg; rw [va_s]; unfold upd; rw [if_neg h]
          refine ⟨?_, fun z1 hz1 => (va_n _ _ (by omega)).trans ((va_n _ _ (by omega)).trans (q4 z1 (by omega) (by omega) (by omega))), (va_up (va_up (va_up B (200 + s.1 16) a) (220 + s.1 16) ah) (240 + s.1 16) ae), hBj 0 (by omega) (by omega) (by omega), ?_⟩
          · unfold rs_law
            rw [if_pos hok, if_neg (by omega)]
          · unfold nx_law
            rw [if_pos ⟨hok, by omega⟩, tn_nI ht2, tn_nI (by omega)]
            refine ⟨?_, ?_, ?_, ?_, ?_, ?_, ?_, ?_, ?_, ?_, ?_, ?_, ?_, ?_, ?_, ?_, ?_, ?_, ?_, ?_, ?_⟩
            · rw [va_s, hBj 0 (by omega) (by omega) (by omega)]
              unfold nFs
              rw [hBj 1 (by omega) (by omega) (by omega), hBj 2 (by omega) (by omega) (by omega), hBj 3 (by omega) (by omega) (by omega), hBj 5 (by omega) (by omega) (by omega), hBj 6 (by omega) (by omega) (by omega), hBj 8 (by omega) (by omega) (by omega), hBj 10 (by omega) (by omega) (by omega), hBj 11 (by omega) (by omega) (by omega), hBj 13 (by omega) (by omega) (by omega), hBj 14 (by omega) (by omega) (by omega), hBj 15 (by omega) (by omega) (by omega), hBj 16 (by omega) (by omega) (by omega)]
              rfl
            · rw [hBj 1 (by omega) (by omega) (by omega)]
              exact ⟨u1, ((va_n _ _ (by omega)).trans ((va_n _ _ (by omega)).trans (q4 1 (by omega) (by omega) (by omega)))).trans e1, f1⟩
            · rw [hBj 2 (by omega) (by omega) (by omega)]
              exact ⟨u2, ((va_n _ _ (by omega)).trans ((va_n _ _ (by omega)).trans (q4 2 (by omega) (by omega) (by omega)))).trans e2, f2⟩
            · rw [hBj 3 (by omega) (by omega) (by omega)]
              exact ⟨u3, ((va_n _ _ (by omega)).trans ((va_n _ _ (by omega)).trans (q4 3 (by omega) (by omega) (by omega)))).trans e3, f3⟩
            · rw [hBj 5 (by omega) (by omega) (by omega)]
              refine ⟨u5, ((va_n _ _ (by omega)).trans ((va_n _ _ (by omega)).trans (q4 5 (by omega) (by omega) (by omega)))).trans e5, fun x hx => ?_⟩
              rw [hBj (20 + x) (by omega) (by omega) (by omega)]
              exact f5 x hx
            · rw [hBj 6 (by omega) (by omega) (by omega)]
              refine ⟨u6, ((va_n _ _ (by omega)).trans ((va_n _ _ (by omega)).trans (q4 6 (by omega) (by omega) (by omega)))).trans e6, fun x hx => ?_⟩
              have hx9 : x < s.1 5 := hx
              rw [hBj (100 + x) (by omega) (by omega) (by omega)]
              exact f6 x hx
            · rw [hBj 8 (by omega) (by omega) (by omega)]
              refine ⟨_, (va_n _ _ (by omega)).trans (va_s _ _ _), fun x hx => ?_⟩
              have hx9 : x < s.1 16 + 1 := hx
              by_cases e : x = s.1 16
              · subst e
                rw [va_s, bL]
              · rw [va_n _ _ e, hBj _ (by omega) (by omega) (by omega)]
                exact f8 x (by have : x < s.1 16 + 1 := hx; omega)
            · rw [hBj 10 (by omega) (by omega) (by omega)]
              exact ⟨u10, ((va_n _ _ (by omega)).trans ((va_n _ _ (by omega)).trans (q4 10 (by omega) (by omega) (by omega)))).trans e10, f10⟩
            · rw [hBj 11 (by omega) (by omega) (by omega)]
              exact ⟨u11, ((va_n _ _ (by omega)).trans ((va_n _ _ (by omega)).trans (q4 11 (by omega) (by omega) (by omega)))).trans e11, f11⟩
            · rw [hBj 13 (by omega) (by omega) (by omega)]
              refine ⟨u13, ((va_n _ _ (by omega)).trans ((va_n _ _ (by omega)).trans (q4 13 (by omega) (by omega) (by omega)))).trans e13, fun d hd => ?_⟩
              have z9 := hS.sh hd
              rw [f13 d hd]
              exact (shl_to rfl rfl (fun e => hBj _ (by have := z9.2.1 e; omega) (by have := z9.2.1 e; omega) (by have := z9.2.1 e; omega)) (fun e => hBj _ (by have := z9.2.2.1 e; omega) (by have := z9.2.2.1 e; omega) (by have := z9.2.2.1 e; omega)) (hBj _ (by omega) (by omega) (by omega))).symm
            · rw [hBj 14 (by omega) (by omega) (by omega)]
              refine ⟨u14, ((va_n _ _ (by omega)).trans ((va_n _ _ (by omega)).trans (q4 14 (by omega) (by omega) (by omega)))).trans e14, fun x hx => ?_⟩
              rw [hBj (30 + x) (by omega) (by omega) (by omega)]
              exact f14 x hx
            · rw [hBj 15 (by omega) (by omega) (by omega)]
              exact ⟨u15, ((va_n _ _ (by omega)).trans ((va_n _ _ (by omega)).trans (q4 15 (by omega) (by omega) (by omega)))).trans e15⟩
            · rw [hBj 16 (by omega) (by omega) (by omega)]
              exact ⟨u16, ((va_n _ _ (by omega)).trans ((va_n _ _ (by omega)).trans (q4 16 (by omega) (by omega) (by omega)))).trans e16⟩
            · intro p hp
              obtain ⟨h9, a1, a2⟩ := h20 p hp
              rw [hBj _ (by omega) (by omega) (by omega)]
              refine ⟨h9, ((va_n _ _ (by omega)).trans ((va_n _ _ (by omega)).trans (q4 _ (by omega) (by omega) (by omega)))).trans a1, fun z1 d hd => ?_⟩
              rw [a2 z1 d hd]
              exact congrArg nI (cn_congr (f := s.2.1) (f' := upf (upf (upf s.2.1 17 (s.1 16) (t / 10)) 18 (s.1 16) (t % 10)) 19 (s.1 16) n9) (fun k z1 z2 => by rw [upf_o _ _ (by omega), upf_o _ _ (by omega), upf_o _ _ (by omega)]) (s.1 5) p d).symm
            · intro l hl
              obtain ⟨x, y, a1⟩ := h30 l hl
              rw [hBj (30 + l) (by omega) (by omega) (by omega)]
              exact ⟨x, y, ((va_n _ _ (by omega)).trans ((va_n _ _ (by omega)).trans (q4 (30 + l) (by omega) (by omega) (by omega)))).trans a1⟩
            · intro m hm
              have hm9 : m < s.1 5 := hm
              rw [hBj (100 + m) (by omega) (by omega) (by omega)]
              exact ((va_n _ _ (by omega)).trans ((va_n _ _ (by omega)).trans (q4 (100 + m) (by omega) (by omega) (by omega)))).trans (h100 m hm)
            · intro j hj
              have hj9 : j < s.1 16 + 1 := hj
              by_cases e : j = s.1 16
              · subst e
                have r1 : rch (va_up s.1 16 ((s.1 16) + 1), upf (upf (upf s.2.1 17 (s.1 16) (t / 10)) 18 (s.1 16) (t % 10)) 19 (s.1 16) n9, upg s.2.2 20 (s.1 16) z) (s.1 16) = if t / 10 = 0 ∨ t / 10 = 2 then tn z else n9 + 1 := by
                  unfold rch
                  rw [l17, l19, l20]
                rw [l17, l18, l19, r1, bL, bH, bE]
                exact ⟨0, (va_n _ _ (by omega)).trans ((va_n _ _ (by omega)).trans q1)⟩
              · obtain ⟨z1, a1⟩ := h200 j (by have : j < s.1 16 + 1 := hj; omega)
                have r1 : rch (va_up s.1 16 ((s.1 16) + 1), upf (upf (upf s.2.1 17 (s.1 16) (t / 10)) 18 (s.1 16) (t % 10)) 19 (s.1 16) n9, upg s.2.2 20 (s.1 16) z) j = rch s j := by
                  unfold rch
                  rw [m17 e, m19 e, m20 e]
                rw [m17 e, m18 e, m19 e, r1, hBj _ (by omega) (by omega) (by omega), hBj _ (by omega) (by omega) (by omega), hBj _ (by omega) (by omega) (by omega)]
                exact ⟨z1, ((va_n _ _ (by omega)).trans ((va_n _ _ (by omega)).trans (q4 _ (by omega) (by omega) (by omega)))).trans a1⟩
            · intro j hj
              have hj9 : j < s.1 16 + 1 := hj
              by_cases e : j = s.1 16
              · subst e
                rw [l18, bH]
                exact ⟨_, _, (va_n _ _ (by omega)).trans ((va_n _ _ (by omega)).trans q2)⟩
              · obtain ⟨x1, y1, a1⟩ := h220 j (by have : j < s.1 16 + 1 := hj; omega)
                rw [m18 e, hBj _ (by omega) (by omega) (by omega)]
                exact ⟨x1, y1, ((va_n _ _ (by omega)).trans ((va_n _ _ (by omega)).trans (q4 _ (by omega) (by omega) (by omega)))).trans a1⟩
            · intro j hj
              have hj9 : j < s.1 16 + 1 := hj
              by_cases e : j = s.1 16
              · subst e
                rw [l18, bE]
                exact ⟨_, _, (va_n _ _ (by omega)).trans ((va_n _ _ (by omega)).trans q3)⟩
              · obtain ⟨x1, y1, a1⟩ := h240 j (by have : j < s.1 16 + 1 := hj; omega)
                rw [m18 e, hBj _ (by omega) (by omega) (by omega)]
                exact ⟨x1, y1, ((va_n _ _ (by omega)).trans ((va_n _ _ (by omega)).trans (q4 _ (by omega) (by omega) (by omega)))).trans a1⟩
            · intro d hd h3
              show _ = some (_, _)
              rw [hBj (300 + d) (by omega) (by omega) (by omega), hBj (310 + d) (by omega) (by omega) (by omega)]
              exact ((va_n _ _ (by omega)).trans ((va_n _ _ (by omega)).trans (q4 (300 + d) (by omega) (by omega) (by omega)))).trans (h300 d hd h3)
            · intro d hd h3
              obtain ⟨h9, a1, a2⟩ := h310 d hd h3
              rw [hBj (310 + d) (by omega) (by omega) (by omega)]
              exact ⟨h9, ((va_n _ _ (by omega)).trans ((va_n _ _ (by omega)).trans (q4 (310 + d) (by omega) (by omega) (by omega)))).trans a1, a2⟩
        · refine r_bipush (v := (-2)) (pq := 89) C dX11_law_87 (by decide) rfl ?_
          refine r_iret C D rfl ⟨Nat.le_of_ble_eq_true rfl, Nat.le_of_ble_eq_true rfl⟩ dX11_law_89 ?_
          refine ⟨?_, fun _ _ => rfl, B, rfl, ?_⟩
          · unfold rs_law
            rw [if_pos hok, if_pos (by omega)]
          · unfold nx_law
            rw [if_neg (fun h => h.2 (by omega))]
            exact hN
      refine r_iload_n (pq := 1) C dX11_law_0 rfl rfl ?_
      refine rN_if_lt (tg := 33) (pq := 4) C dX11_law_1 (by decide) rfl (by omega) ?_
      refine r_iload_n (pq := 5) C dX11_law_4 rfl rfl ?_
      refine r_bipush (v := nI 10) (pq := 7) C dX11_law_5 (by decide) rfl ?_
      refine rN_irem (pq := 8) C dX11_law_7 (by omega) (by omega) (by omega) rfl ?_
      refine r_callS (pq := 11) C (mc_X11_isLand) gX11_law_X11_isLand rfl (na := 1) (by decide +kernel) rfl (by decide) (by decide) (Nat.le_of_ble_eq_true rfl) ⟨by rw [D.2.2.2.1]; decide, by rw [D.2.2.2.2.1]; decide⟩ dX11_law_8 rfl rfl (fun r9 w hq => ?_)
      obtain ⟨rfl, rfl⟩ := hq
      dsimp only [Option.toList, List.cons_append, List.nil_append]
      have l8 := b2_lt (rg (nI (t % 10)) 8)
      refine rN_if_eq (tg := 33) (pq := 14) C dX11_law_11 (by decide) rfl (by omega) (fun c11 => absurd c11 (b2_1.mpr ((rg_nI (by omega)).mpr h3))) (fun c11 => ?_)
      refine r_iload_n (pq := 15) C dX11_law_14 rfl rfl ?_
      refine r_bipush (v := nI 10) (pq := 17) C dX11_law_15 (by decide) rfl ?_
      refine rN_idiv (pq := 18) C dX11_law_17 (by omega) (by omega) (by omega) rfl ?_
      refine r_iconst (v := nI 3) (pq := 19) C dX11_law_18 (by decide) rfl ?_
      refine rN_icmp_gt (tg := 33) (pq := 22) C dX11_law_19 (by decide) rfl (by omega) (by omega) (fun c19 => absurd c19 (by omega)) (fun c19 => ?_)
      refine r_iload_n (pq := 23) C dX11_law_22 rfl rfl ?_
      refine rN_if_lt (tg := 33) (pq := 26) C dX11_law_23 (by decide) rfl (by omega) ?_
      refine r_iload_n (pq := 27) C dX11_law_26 rfl rfl ?_
      refine r_sipush (v := nI 200) (pq := 30) C dX11_law_27 (by decide) rfl ?_
      refine rN_icmp_le (tg := 35) (pq := 33) C dX11_law_30 (by decide) rfl (by omega) (by omega) (fun c30 => ?_) (fun c30 => absurd c30 (by omega))
      refine r_iload_n (pq := 36) C dX11_law_35 rfl rfl ?_
      refine r_bipush (v := nI 10) (pq := 38) C dX11_law_36 (by decide) rfl ?_
      refine rN_idiv (pq := 39) C dX11_law_38 (by omega) (by omega) (by omega) rfl ?_
      refine r_istore (j := 4) (pq := 41) C dX11_law_39 rfl (by decide) rfl rfl ?_
      dsimp only [List.set]
      refine r_iload (pq := 43) C dX11_law_41 rfl rfl ?_
      refine rN_if_eq (tg := 52) (pq := 46) C dX11_law_43 (by decide) rfl (by omega) (fun c43 => ?_) (fun c43 => ?_)
      · refine r_iconst (v := nI 1) (pq := 53) C dX11_law_52 (by decide) rfl ?_
        refine r_goto (tg := 57) C dX11_law_53 (by decide) ?_
        refine r_istore (j := 5) (pq := 59) C dX11_law_57 rfl (by decide) rfl rfl ?_
        dsimp only [List.set]
        refine r_iload (pq := 61) C dX11_law_59 rfl rfl ?_
        refine rN_if_eq (tg := 78) (pq := 64) C dX11_law_61 (by decide) rfl (by omega) (fun c61 => ?_) (fun c61 => ?_)
        · refine GG.fgt 5 ?_
          dsimp only [List.set]
          exact fin9
        · refine r_iload_n (pq := 65) C dX11_law_64 rfl rfl ?_
          refine r_iconst (v := nI 1) (pq := 66) C dX11_law_65 (by decide) rfl ?_
          refine r_icmp_lt (tg := 76) (pq := 69) C dX11_law_66 (by decide) rfl (fun c66 => absurd c66 (by rw [lt_i, nI_toInt (by omega)]; have := (h5 (by omega)).1; omega)) (fun c66 => ?_)
          refine r_iload_n (pq := 70) C dX11_law_69 rfl rfl ?_
          refine r_sipush (v := nI 200) (pq := 73) C dX11_law_70 (by decide) rfl ?_
          refine r_icmp_le (tg := 78) (pq := 76) C dX11_law_73 (by decide) rfl (fun c73 => ?_) (fun c73 => absurd (show z ≤ nI 200 by rw [le_i, nI_toInt (by omega)]; exact (h5 (by omega)).2) c73)
          refine GG.fgt 5 ?_
          dsimp only [List.set]
          exact fin9
      · refine r_iload (pq := 48) C dX11_law_46 rfl rfl ?_
        refine r_iconst (v := nI 2) (pq := 49) C dX11_law_48 (by decide) rfl ?_
        refine rN_icmp_ne (tg := 56) (pq := 52) C dX11_law_49 (by decide) rfl (by omega) (by omega) (fun c49 => ?_) (fun c49 => ?_)
        · refine r_iconst (v := nI 0) (pq := 57) C dX11_law_56 (by decide) rfl ?_
          refine r_istore (j := 5) (pq := 59) C dX11_law_57 rfl (by decide) rfl rfl ?_
          dsimp only [List.set]
          refine r_iload (pq := 61) C dX11_law_59 rfl rfl ?_
          refine rN_if_eq (tg := 78) (pq := 64) C dX11_law_61 (by decide) rfl (by omega) (fun c61 => ?_) (fun c61 => ?_)
          · refine GG.fgt 5 ?_
            dsimp only [List.set]
            exact fin9
          · refine r_iload_n (pq := 65) C dX11_law_64 rfl rfl ?_
            refine r_iconst (v := nI 1) (pq := 66) C dX11_law_65 (by decide) rfl ?_
            refine r_icmp_lt (tg := 76) (pq := 69) C dX11_law_66 (by decide) rfl (fun c66 => absurd c66 (by rw [lt_i, nI_toInt (by omega)]; have := (h5 (by omega)).1; omega)) (fun c66 => ?_)
            refine r_iload_n (pq := 70) C dX11_law_69 rfl rfl ?_
            refine r_sipush (v := nI 200) (pq := 73) C dX11_law_70 (by decide) rfl ?_
            refine r_icmp_le (tg := 78) (pq := 76) C dX11_law_73 (by decide) rfl (fun c73 => ?_) (fun c73 => absurd (show z ≤ nI 200 by rw [le_i, nI_toInt (by omega)]; exact (h5 (by omega)).2) c73)
            refine GG.fgt 5 ?_
            dsimp only [List.set]
            exact fin9
        · refine r_iconst (v := nI 1) (pq := 53) C dX11_law_52 (by decide) rfl ?_
          refine r_goto (tg := 57) C dX11_law_53 (by decide) ?_
          refine r_istore (j := 5) (pq := 59) C dX11_law_57 rfl (by decide) rfl rfl ?_
          dsimp only [List.set]
          refine r_iload (pq := 61) C dX11_law_59 rfl rfl ?_
          refine rN_if_eq (tg := 78) (pq := 64) C dX11_law_61 (by decide) rfl (by omega) (fun c61 => ?_) (fun c61 => ?_)
          · refine GG.fgt 5 ?_
            dsimp only [List.set]
            exact fin9
          · refine r_iload_n (pq := 65) C dX11_law_64 rfl rfl ?_
            refine r_iconst (v := nI 1) (pq := 66) C dX11_law_65 (by decide) rfl ?_
            refine r_icmp_lt (tg := 76) (pq := 69) C dX11_law_66 (by decide) rfl (fun c66 => absurd c66 (by rw [lt_i, nI_toInt (by omega)]; have := (h5 (by omega)).1; omega)) (fun c66 => ?_)
            refine r_iload_n (pq := 70) C dX11_law_69 rfl rfl ?_
            refine r_sipush (v := nI 200) (pq := 73) C dX11_law_70 (by decide) rfl ?_
            refine r_icmp_le (tg := 78) (pq := 76) C dX11_law_73 (by decide) rfl (fun c73 => ?_) (fun c73 => absurd (show z ≤ nI 200 by rw [le_i, nI_toInt (by omega)]; exact (h5 (by omega)).2) c73)
            refine GG.fgt 5 ?_
            dsimp only [List.set]
            exact fin9
    · skip
      refine r_iload_n (pq := 1) C dX11_law_0 rfl rfl ?_
      refine rN_if_lt (tg := 33) (pq := 4) C dX11_law_1 (by decide) rfl (by omega) ?_
      refine r_iload_n (pq := 5) C dX11_law_4 rfl rfl ?_
      refine r_bipush (v := nI 10) (pq := 7) C dX11_law_5 (by decide) rfl ?_
      refine rN_irem (pq := 8) C dX11_law_7 (by omega) (by omega) (by omega) rfl ?_
      refine r_callS (pq := 11) C (mc_X11_isLand) gX11_law_X11_isLand rfl (na := 1) (by decide +kernel) rfl (by decide) (by decide) (Nat.le_of_ble_eq_true rfl) ⟨by rw [D.2.2.2.1]; decide, by rw [D.2.2.2.2.1]; decide⟩ dX11_law_8 rfl rfl (fun r9 w hq => ?_)
      obtain ⟨rfl, rfl⟩ := hq
      dsimp only [Option.toList, List.cons_append, List.nil_append]
      have l8 := b2_lt (rg (nI (t % 10)) 8)
      refine rN_if_eq (tg := 33) (pq := 14) C dX11_law_11 (by decide) rfl (by omega) (fun c11 => ?_) (fun c11 => ?_)
      · refine r_iconst (v := (-1)) (pq := 34) C dX11_law_33 (by decide) rfl ?_
        refine r_iret C D rfl ⟨Nat.le_of_ble_eq_true rfl, Nat.le_of_ble_eq_true rfl⟩ dX11_law_34 ?_
        refine ⟨?_, fun _ _ => rfl, B, rfl, ?_⟩
        · unfold rs_law
          rw [if_neg hok]
        · unfold nx_law
          rw [if_neg (fun h => hok h.1)]
          exact hN
      · refine r_iload_n (pq := 15) C dX11_law_14 rfl rfl ?_
        refine r_bipush (v := nI 10) (pq := 17) C dX11_law_15 (by decide) rfl ?_
        refine rN_idiv (pq := 18) C dX11_law_17 (by omega) (by omega) (by omega) rfl ?_
        refine r_iconst (v := nI 3) (pq := 19) C dX11_law_18 (by decide) rfl ?_
        refine rN_icmp_gt (tg := 33) (pq := 22) C dX11_law_19 (by decide) rfl (by omega) (by omega) (fun c19 => ?_) (fun c19 => ?_)
        · refine r_iconst (v := (-1)) (pq := 34) C dX11_law_33 (by decide) rfl ?_
          refine r_iret C D rfl ⟨Nat.le_of_ble_eq_true rfl, Nat.le_of_ble_eq_true rfl⟩ dX11_law_34 ?_
          refine ⟨?_, fun _ _ => rfl, B, rfl, ?_⟩
          · unfold rs_law
            rw [if_neg hok]
          · unfold nx_law
            rw [if_neg (fun h => hok h.1)]
            exact hN
        · refine r_iload_n (pq := 23) C dX11_law_22 rfl rfl ?_
          refine r_if_lt (tg := 33) (pq := 26) C dX11_law_23 (by decide) rfl (fun c23 => ?_) (fun c23 => ?_)
          · refine r_iconst (v := (-1)) (pq := 34) C dX11_law_33 (by decide) rfl ?_
            refine r_iret C D rfl ⟨Nat.le_of_ble_eq_true rfl, Nat.le_of_ble_eq_true rfl⟩ dX11_law_34 ?_
            refine ⟨?_, fun _ _ => rfl, B, rfl, ?_⟩
            · unfold rs_law
              rw [if_neg hok]
            · unfold nx_law
              rw [if_neg (fun h => hok h.1)]
              exact hN
          · refine r_iload_n (pq := 27) C dX11_law_26 rfl rfl ?_
            refine r_sipush (v := nI 200) (pq := 30) C dX11_law_27 (by decide) rfl ?_
            refine r_icmp_le (tg := 35) (pq := 33) C dX11_law_30 (by decide) rfl (fun c30 => ?_) (fun c30 => ?_)
            · refine r_iload_n (pq := 36) C dX11_law_35 rfl rfl ?_
              refine r_bipush (v := nI 10) (pq := 38) C dX11_law_36 (by decide) rfl ?_
              refine rN_idiv (pq := 39) C dX11_law_38 (by omega) (by omega) (by omega) rfl ?_
              refine r_istore (j := 4) (pq := 41) C dX11_law_39 rfl (by decide) rfl rfl ?_
              dsimp only [List.set]
              refine r_iload (pq := 43) C dX11_law_41 rfl rfl ?_
              refine rN_if_eq (tg := 52) (pq := 46) C dX11_law_43 (by decide) rfl (by omega) (fun c43 => ?_) (fun c43 => ?_)
              · refine r_iconst (v := nI 1) (pq := 53) C dX11_law_52 (by decide) rfl ?_
                refine r_goto (tg := 57) C dX11_law_53 (by decide) ?_
                refine r_istore (j := 5) (pq := 59) C dX11_law_57 rfl (by decide) rfl rfl ?_
                dsimp only [List.set]
                refine r_iload (pq := 61) C dX11_law_59 rfl rfl ?_
                refine rN_if_eq (tg := 78) (pq := 64) C dX11_law_61 (by decide) rfl (by omega) (fun c61 => ?_) (fun c61 => ?_)
                · have t0 : (0 : Int32).toInt = 0 := rfl
                  have t2 : (nI 200).toInt = 200 := nI_toInt (by omega)
                  have t1 : (nI 1).toInt = 1 := nI_toInt (by omega)
                  have l9 := (rg_nI (n := 8) (j := t % 10) (by omega)).mp (b2_1.mp c11)
                  try simp only [le_i, lt_i] at *
                  refine absurd (show okLaw (nI t) y z from ⟨ht, by rw [tn_nI ht2]; omega, by rw [tn_nI ht2]; exact l9, ⟨by omega, by omega⟩, fun hk => ?_⟩) hok
                  rw [tn_nI ht2] at hk
                  first | omega | exact ⟨by omega, by omega⟩
                · refine r_iload_n (pq := 65) C dX11_law_64 rfl rfl ?_
                  refine r_iconst (v := nI 1) (pq := 66) C dX11_law_65 (by decide) rfl ?_
                  refine r_icmp_lt (tg := 76) (pq := 69) C dX11_law_66 (by decide) rfl (fun c66 => ?_) (fun c66 => ?_)
                  · refine r_iconst (v := (-1)) (pq := 77) C dX11_law_76 (by decide) rfl ?_
                    refine r_iret C D rfl ⟨Nat.le_of_ble_eq_true rfl, Nat.le_of_ble_eq_true rfl⟩ dX11_law_77 ?_
                    refine ⟨?_, fun _ _ => rfl, B, rfl, ?_⟩
                    · unfold rs_law
                      rw [if_neg hok]
                    · unfold nx_law
                      rw [if_neg (fun h => hok h.1)]
                      exact hN
                  · refine r_iload_n (pq := 70) C dX11_law_69 rfl rfl ?_
                    refine r_sipush (v := nI 200) (pq := 73) C dX11_law_70 (by decide) rfl ?_
                    refine r_icmp_le (tg := 78) (pq := 76) C dX11_law_73 (by decide) rfl (fun c73 => ?_) (fun c73 => ?_)
                    · have t0 : (0 : Int32).toInt = 0 := rfl
                      have t2 : (nI 200).toInt = 200 := nI_toInt (by omega)
                      have t1 : (nI 1).toInt = 1 := nI_toInt (by omega)
                      have l9 := (rg_nI (n := 8) (j := t % 10) (by omega)).mp (b2_1.mp c11)
                      try simp only [le_i, lt_i] at *
                      refine absurd (show okLaw (nI t) y z from ⟨ht, by rw [tn_nI ht2]; omega, by rw [tn_nI ht2]; exact l9, ⟨by omega, by omega⟩, fun hk => ?_⟩) hok
                      rw [tn_nI ht2] at hk
                      first | omega | exact ⟨by omega, by omega⟩
                    · refine r_iconst (v := (-1)) (pq := 77) C dX11_law_76 (by decide) rfl ?_
                      refine r_iret C D rfl ⟨Nat.le_of_ble_eq_true rfl, Nat.le_of_ble_eq_true rfl⟩ dX11_law_77 ?_
                      refine ⟨?_, fun _ _ => rfl, B, rfl, ?_⟩
                      · unfold rs_law
                        rw [if_neg hok]
                      · unfold nx_law
                        rw [if_neg (fun h => hok h.1)]
                        exact hN
              · refine r_iload (pq := 48) C dX11_law_46 rfl rfl ?_
                refine r_iconst (v := nI 2) (pq := 49) C dX11_law_48 (by decide) rfl ?_
                refine rN_icmp_ne (tg := 56) (pq := 52) C dX11_law_49 (by decide) rfl (by omega) (by omega) (fun c49 => ?_) (fun c49 => ?_)
                · refine r_iconst (v := nI 0) (pq := 57) C dX11_law_56 (by decide) rfl ?_
                  refine r_istore (j := 5) (pq := 59) C dX11_law_57 rfl (by decide) rfl rfl ?_
                  dsimp only [List.set]
                  refine r_iload (pq := 61) C dX11_law_59 rfl rfl ?_
                  refine rN_if_eq (tg := 78) (pq := 64) C dX11_law_61 (by decide) rfl (by omega) (fun c61 => ?_) (fun c61 => ?_)
                  · have t0 : (0 : Int32).toInt = 0 := rfl
                    have t2 : (nI 200).toInt = 200 := nI_toInt (by omega)
                    have t1 : (nI 1).toInt = 1 := nI_toInt (by omega)
                    have l9 := (rg_nI (n := 8) (j := t % 10) (by omega)).mp (b2_1.mp c11)
                    try simp only [le_i, lt_i] at *
                    refine absurd (show okLaw (nI t) y z from ⟨ht, by rw [tn_nI ht2]; omega, by rw [tn_nI ht2]; exact l9, ⟨by omega, by omega⟩, fun hk => ?_⟩) hok
                    rw [tn_nI ht2] at hk
                    first | omega | exact ⟨by omega, by omega⟩
                  · refine r_iload_n (pq := 65) C dX11_law_64 rfl rfl ?_
                    refine r_iconst (v := nI 1) (pq := 66) C dX11_law_65 (by decide) rfl ?_
                    refine r_icmp_lt (tg := 76) (pq := 69) C dX11_law_66 (by decide) rfl (fun c66 => ?_) (fun c66 => ?_)
                    · refine r_iconst (v := (-1)) (pq := 77) C dX11_law_76 (by decide) rfl ?_
                      refine r_iret C D rfl ⟨Nat.le_of_ble_eq_true rfl, Nat.le_of_ble_eq_true rfl⟩ dX11_law_77 ?_
                      refine ⟨?_, fun _ _ => rfl, B, rfl, ?_⟩
                      · unfold rs_law
                        rw [if_neg hok]
                      · unfold nx_law
                        rw [if_neg (fun h => hok h.1)]
                        exact hN
                    · refine r_iload_n (pq := 70) C dX11_law_69 rfl rfl ?_
                      refine r_sipush (v := nI 200) (pq := 73) C dX11_law_70 (by decide) rfl ?_
                      refine r_icmp_le (tg := 78) (pq := 76) C dX11_law_73 (by decide) rfl (fun c73 => ?_) (fun c73 => ?_)
                      · have t0 : (0 : Int32).toInt = 0 := rfl
                        have t2 : (nI 200).toInt = 200 := nI_toInt (by omega)
                        have t1 : (nI 1).toInt = 1 := nI_toInt (by omega)
                        have l9 := (rg_nI (n := 8) (j := t % 10) (by omega)).mp (b2_1.mp c11)
                        try simp only [le_i, lt_i] at *
                        refine absurd (show okLaw (nI t) y z from ⟨ht, by rw [tn_nI ht2]; omega, by rw [tn_nI ht2]; exact l9, ⟨by omega, by omega⟩, fun hk => ?_⟩) hok
                        rw [tn_nI ht2] at hk
                        first | omega | exact ⟨by omega, by omega⟩
                      · refine r_iconst (v := (-1)) (pq := 77) C dX11_law_76 (by decide) rfl ?_
                        refine r_iret C D rfl ⟨Nat.le_of_ble_eq_true rfl, Nat.le_of_ble_eq_true rfl⟩ dX11_law_77 ?_
                        refine ⟨?_, fun _ _ => rfl, B, rfl, ?_⟩
                        · unfold rs_law
                          rw [if_neg hok]
                        · unfold nx_law
                          rw [if_neg (fun h => hok h.1)]
                          exact hN
                · refine r_iconst (v := nI 1) (pq := 53) C dX11_law_52 (by decide) rfl ?_
                  refine r_goto (tg := 57) C dX11_law_53 (by decide) ?_
                  refine r_istore (j := 5) (pq := 59) C dX11_law_57 rfl (by decide) rfl rfl ?_
                  dsimp only [List.set]
                  refine r_iload (pq := 61) C dX11_law_59 rfl rfl ?_
                  refine rN_if_eq (tg := 78) (pq := 64) C dX11_law_61 (by decide) rfl (by omega) (fun c61 => ?_) (fun c61 => ?_)
                  · have t0 : (0 : Int32).toInt = 0 := rfl
                    have t2 : (nI 200).toInt = 200 := nI_toInt (by omega)
                    have t1 : (nI 1).toInt = 1 := nI_toInt (by omega)
                    have l9 := (rg_nI (n := 8) (j := t % 10) (by omega)).mp (b2_1.mp c11)
                    try simp only [le_i, lt_i] at *
                    refine absurd (show okLaw (nI t) y z from ⟨ht, by rw [tn_nI ht2]; omega, by rw [tn_nI ht2]; exact l9, ⟨by omega, by omega⟩, fun hk => ?_⟩) hok
                    rw [tn_nI ht2] at hk
                    first | omega | exact ⟨by omega, by omega⟩
                  · refine r_iload_n (pq := 65) C dX11_law_64 rfl rfl ?_
                    refine r_iconst (v := nI 1) (pq := 66) C dX11_law_65 (by decide) rfl ?_
                    refine r_icmp_lt (tg := 76) (pq := 69) C dX11_law_66 (by decide) rfl (fun c66 => ?_) (fun c66 => ?_)
                    · refine r_iconst (v := (-1)) (pq := 77) C dX11_law_76 (by decide) rfl ?_
                      refine r_iret C D rfl ⟨Nat.le_of_ble_eq_true rfl, Nat.le_of_ble_eq_true rfl⟩ dX11_law_77 ?_
                      refine ⟨?_, fun _ _ => rfl, B, rfl, ?_⟩
                      · unfold rs_law
                        rw [if_neg hok]
                      · unfold nx_law
                        rw [if_neg (fun h => hok h.1)]
                        exact hN
                    · refine r_iload_n (pq := 70) C dX11_law_69 rfl rfl ?_
                      refine r_sipush (v := nI 200) (pq := 73) C dX11_law_70 (by decide) rfl ?_
                      refine r_icmp_le (tg := 78) (pq := 76) C dX11_law_73 (by decide) rfl (fun c73 => ?_) (fun c73 => ?_)
                      · have t0 : (0 : Int32).toInt = 0 := rfl
                        have t2 : (nI 200).toInt = 200 := nI_toInt (by omega)
                        have t1 : (nI 1).toInt = 1 := nI_toInt (by omega)
                        have l9 := (rg_nI (n := 8) (j := t % 10) (by omega)).mp (b2_1.mp c11)
                        try simp only [le_i, lt_i] at *
                        refine absurd (show okLaw (nI t) y z from ⟨ht, by rw [tn_nI ht2]; omega, by rw [tn_nI ht2]; exact l9, ⟨by omega, by omega⟩, fun hk => ?_⟩) hok
                        rw [tn_nI ht2] at hk
                        first | omega | exact ⟨by omega, by omega⟩
                      · refine r_iconst (v := (-1)) (pq := 77) C dX11_law_76 (by decide) rfl ?_
                        refine r_iret C D rfl ⟨Nat.le_of_ble_eq_true rfl, Nat.le_of_ble_eq_true rfl⟩ dX11_law_77 ?_
                        refine ⟨?_, fun _ _ => rfl, B, rfl, ?_⟩
                        · unfold rs_law
                          rw [if_neg hok]
                        · unfold nx_law
                          rw [if_neg (fun h => hok h.1)]
                          exact hN
            · refine r_iconst (v := (-1)) (pq := 34) C dX11_law_33 (by decide) rfl ?_
              refine r_iret C D rfl ⟨Nat.le_of_ble_eq_true rfl, Nat.le_of_ble_eq_true rfl⟩ dX11_law_34 ?_
              refine ⟨?_, fun _ _ => rfl, B, rfl, ?_⟩
              · unfold rs_law
                rw [if_neg hok]
              · unfold nx_law
                rw [if_neg (fun h => hok h.1)]
                exact hN
  · skip
    refine r_iload_n (pq := 1) C dX11_law_0 rfl rfl ?_
    refine r_if_lt (tg := 33) (pq := 4) C dX11_law_1 (by decide) rfl (fun c1 => ?_) (fun c1 => absurd (show x < 0 by rw [lt_i]; have e0 : (0 : Int32).toInt = 0 := rfl; omega) c1)
    refine r_iconst (v := (-1)) (pq := 34) C dX11_law_33 (by decide) rfl ?_
    refine r_iret C D rfl ⟨Nat.le_of_ble_eq_true rfl, Nat.le_of_ble_eq_true rfl⟩ dX11_law_34 ?_
    refine ⟨?_, fun _ _ => rfl, B, rfl, ?_⟩
    · unfold rs_law
      rw [if_neg (fun h => ht h.1)]
    · unfold nx_law
      rw [if_neg (fun h => ht h.1.1)]
      exact hN


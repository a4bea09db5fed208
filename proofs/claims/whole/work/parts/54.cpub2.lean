/-! ===== the class's calls: marks ===== -/
theorem NS.s100 {E : EV} {B : Nat → Nat} {s : ST} {w : RW} (hN : NS E B s w) (h5 : s.1 5 ≤ 80) (x : Option (Nat × va_E)) : NS E B s (va_up w (100 + s.1 5) x) := by
  obtain ⟨o0, ⟨u1, e1, f1⟩, ⟨u2, e2, f2⟩, ⟨u3, e3, f3⟩, ⟨u5, e5, f5⟩, ⟨u6, e6, f6⟩, ⟨u8, e8, f8⟩, ⟨u10, e10, f10⟩, ⟨u11, e11, f11⟩, ⟨u13, e13, f13⟩, ⟨u14, e14, f14⟩, ⟨u15, e15⟩, ⟨u16, e16⟩, h20, h30, h100, h200, h220, h240, h300, h310⟩ := hN
  refine ⟨?_, ?_, ?_, ?_, ?_, ?_, ?_, ?_, ?_, ?_, ?_, ?_, ?_, ?_, ?_, ?_, ?_, ?_, ?_, ?_, ?_⟩
  · exact (va_n _ _ (by omega)).trans o0
  · exact ⟨u1, (va_n _ _ (by omega)).trans e1, f1⟩
  · exact ⟨u2, (va_n _ _ (by omega)).trans e2, f2⟩
  · exact ⟨u3, (va_n _ _ (by omega)).trans e3, f3⟩
  · exact ⟨u5, (va_n _ _ (by omega)).trans e5, f5⟩
  · exact ⟨u6, (va_n _ _ (by omega)).trans e6, f6⟩
  · exact ⟨u8, (va_n _ _ (by omega)).trans e8, f8⟩
  · exact ⟨u10, (va_n _ _ (by omega)).trans e10, f10⟩
  · exact ⟨u11, (va_n _ _ (by omega)).trans e11, f11⟩
  · exact ⟨u13, (va_n _ _ (by omega)).trans e13, f13⟩
  · exact ⟨u14, (va_n _ _ (by omega)).trans e14, f14⟩
  · exact ⟨u15, (va_n _ _ (by omega)).trans e15⟩
  · exact ⟨u16, (va_n _ _ (by omega)).trans e16⟩
  · intro p hp
    obtain ⟨h9, a1, a2⟩ := h20 p hp
    exact ⟨h9, (va_n _ _ (by omega)).trans a1, a2⟩
  · intro l hl
    obtain ⟨x, y, a1⟩ := h30 l hl
    exact ⟨x, y, (va_n _ _ (by omega)).trans a1⟩
  · intro m hm
    exact (va_n _ _ (by omega)).trans (h100 m hm)
  · intro j hj
    obtain ⟨z, a1⟩ := h200 j hj
    exact ⟨z, (va_n _ _ (by omega)).trans a1⟩
  · intro j hj
    obtain ⟨x, y, a1⟩ := h220 j hj
    exact ⟨x, y, (va_n _ _ (by omega)).trans a1⟩
  · intro j hj
    obtain ⟨x, y, a1⟩ := h240 j hj
    exact ⟨x, y, (va_n _ _ (by omega)).trans a1⟩
  · intro d hd h3
    exact (va_n _ _ (by omega)).trans (h300 d hd h3)
  · intro d hd h3
    obtain ⟨h9, a1, a2⟩ := h310 d hd h3
    exact ⟨h9, (va_n _ _ (by omega)).trans a1, a2⟩
set_option maxHeartbeats 4000000 in
set_option maxRecDepth 100000 in
/-- span -/
theorem mc_X11_span {l : Launch} {E : EV} {w : RW} {B : Nat → Nat} {s : ST} (hS : SI s) (hN : NS E B s w) {x y z v : Int32} : MC l E yX11_span wsX11_span 5 1 6 [.ref (B 0), .int x, .int y, .int z, .int v] (w) (nP E B w (rs_span s x y z v) (nx_span s x y z v)) := by
  refine MC.enter (cc := cX11_span) (maxL := 5) (ret := (some .int)) (lv0 := [some (.ref (B 0)), some (.int x), some (.int y), some (.int z), some (.int v)]) (by decide) rfl (by simp [Value.category]) (Nat.le_of_ble_eq_true rfl) rfl ?_
  intro X hl hE C D
  subst hl
  subst hE
  have hI1 : s.1 1 ≤ 6 := hS.2.1
  have hI5 : s.1 5 ≤ 80 := hS.2.2.1
  have hI16 : s.1 16 ≤ 12 := hS.2.2.2.1
  have hNN := hN
  obtain ⟨o0, ⟨u1, e1, f1⟩, ⟨u2, e2, f2⟩, ⟨u3, e3, f3⟩, ⟨u5, e5, f5⟩, ⟨u6, e6, f6⟩, ⟨u8, e8, f8⟩, ⟨u10, e10, f10⟩, ⟨u11, e11, f11⟩, ⟨u13, e13, f13⟩, ⟨u14, e14, f14⟩, ⟨u15, e15⟩, ⟨u16, e16⟩, h20, h30, h100, h200, h220, h240, h300, h310⟩ := hNN
  by_cases hok : okSpan s x y z v
  · obtain ⟨p, hp, rfl⟩ := rg_of hok.1 (by omega)
    obtain ⟨a, ha, rfl⟩ := rg_of hok.2.1.1 (by omega)
    obtain ⟨b, hb, rfl⟩ := rg_of hok.2.1.2.1 (by omega)
    obtain ⟨l9, hl1, hl2, rfl⟩ := in_of (a := 1) (b := 255) hok.2.2 (by omega)
    have hab := hok.2.1.2.2
    rw [nI_toInt (by omega), nI_toInt (by omega)] at hab
    refine r_aload_n (pq := 1) C dX11_span_0 rfl rfl ?_
    refine r_iload_n (pq := 2) C dX11_span_1 rfl rfl ?_
    refine r_callV (pq := 5) C (mc_X11_isPerson hI1 o0) o0 rfl gX11_span_X11_isPerson rfl (na := 1) (by decide +kernel) rfl (by decide) (by decide) (Nat.le_of_ble_eq_true rfl) ⟨by rw [D.2.2.2.1]; decide, by rw [D.2.2.2.2.1]; decide⟩ dX11_span_2 rfl rfl (fun r9 w9 hq => ?_)
    obtain ⟨rfl, rfl⟩ := hq
    dsimp only [Option.toList, List.cons_append, List.nil_append]
    have l2 := b2_lt (rg (nI p) (s.1 1))
    refine rN_if_eq (tg := 30) (pq := 8) C dX11_span_5 (by decide) rfl (by omega) (fun c5 => absurd c5 (b2_1.mpr (hok.1))) (fun c5 => ?_)
    refine r_iload_n (pq := 9) C dX11_span_8 rfl rfl ?_
    refine r_iload_n (pq := 10) C dX11_span_9 rfl rfl ?_
    refine r_callS (pq := 13) C (mc_X11_areDays) gX11_span_X11_areDays rfl (na := 2) (by decide +kernel) rfl (by decide) (by decide) (Nat.le_of_ble_eq_true rfl) ⟨by rw [D.2.2.2.1]; decide, by rw [D.2.2.2.2.1]; decide⟩ dX11_span_10 rfl rfl (fun r9 w9 hq => ?_)
    obtain ⟨rfl, rfl⟩ := hq
    dsimp only [Option.toList, List.cons_append, List.nil_append]
    have l10 := b2_lt (okDays (nI a) (nI b))
    refine rN_if_eq (tg := 30) (pq := 16) C dX11_span_13 (by decide) rfl (by omega) (fun c13 => absurd c13 (b2_1.mpr (hok.2.1))) (fun c13 => ?_)
    refine r_iload (pq := 18) C dX11_span_16 rfl rfl ?_
    refine r_iconst (v := nI 1) (pq := 19) C dX11_span_18 (by decide) rfl ?_
    refine rN_icmp_lt (tg := 30) (pq := 22) C dX11_span_19 (by decide) rfl (by omega) (by omega) (fun c19 => absurd c19 (by omega)) (fun c19 => ?_)
    refine r_iload (pq := 24) C dX11_span_22 rfl rfl ?_
    refine r_sipush (v := nI 255) (pq := 27) C dX11_span_24 (by decide) rfl ?_
    refine rN_icmp_le (tg := 32) (pq := 30) C dX11_span_27 (by decide) rfl (by omega) (by omega) (fun c27 => ?_) (fun c27 => absurd c27 (by omega))
    refine r_aload_n (pq := 33) C dX11_span_32 rfl rfl ?_
    refine r_new (pq := 36) C (N := 6) (ci := 6) (100 + s.1 5) rfl tyX5 tyX5_ok (by decide +kernel) (by decide +kernel) (by decide +kernel) (fs := [.int 0, .int 0, .int 0, .int 0, .int 0, .int 0]) (by intro j hj; rcases (by omega : j = 0 ∨ j = 1 ∨ j = 2 ∨ j = 3 ∨ j = 4 ∨ j = 5) with e | e | e | e | e | e <;> subst e <;> rfl) (by rw [D.2.2.2.1]; decide) (by rw [D.2.2.2.2.1]; decide) dX11_span_33 rfl (fun q => ?_)
    refine r_dup (pq := 37) C dX11_span_36 rfl rfl ?_
    refine r_aload_n (pq := 38) C dX11_span_37 rfl rfl ?_
    refine r_getf (pq := 41) C 6 ((va_n _ _ (by omega)).trans o0) rfl (by decide) (by decide +kernel) (Or.inl rfl) rfl dX11_span_38 rfl ?_
    refine r_iload_n (pq := 42) C dX11_span_41 rfl rfl ?_
    refine r_iload_n (pq := 43) C dX11_span_42 rfl rfl ?_
    refine r_iload_n (pq := 44) C dX11_span_43 rfl rfl ?_
    refine r_iload (pq := 46) C dX11_span_44 rfl rfl ?_
    refine r_callI (pq := 49) C (mc_X5_init (ci := 6) (Or.inl rfl) (va_s _ _ _)) gX11_span_X5_init rfl (by decide +kernel) (by decide +kernel) (by decide +kernel) (na := 5) (by decide +kernel) rfl (by decide) (by decide) (Nat.le_of_ble_eq_true rfl) ⟨by rw [D.2.2.2.1]; decide, by rw [D.2.2.2.2.1]; decide⟩ dX11_span_46 rfl rfl (fun r9 w9 hq => ?_)
    obtain ⟨rfl, rfl⟩ := hq
    dsimp only [Option.toList, List.cons_append, List.nil_append]
    refine GG.cast (bx_uu _ _ _ _) ?_
    refine r_callV (pq := 52) C (mc_X11_enter (k9 := 0)  hS (NS.s100 hN hI5 _) (by decide) hp (by omega) (by omega) (by omega) (va_s _ _ _)) ((va_n _ _ (by omega)).trans o0) rfl gX11_span_X11_enter rfl (na := 1) (by decide +kernel) rfl (by decide) (by decide) (Nat.le_of_ble_eq_true rfl) ⟨by rw [D.2.2.2.1]; decide, by rw [D.2.2.2.2.1]; decide⟩ dX11_span_49 rfl rfl (fun r9 w9 hq => ?_)
    obtain ⟨rfl, hz, B9, hB0, hN9⟩ := hq
    dsimp only [Option.toList, List.cons_append, List.nil_append]
    refine r_iret C D rfl ⟨Nat.le_of_ble_eq_true rfl, Nat.le_of_ble_eq_true rfl⟩ dX11_span_52 ?_
    refine ⟨?_, fun z q => (hz z q).trans (va_n _ _ (by omega)), B9, hB0, ?_⟩
    · unfold rs_span
      rw [if_pos hok, tn_nI (by omega), tn_nI (by omega), tn_nI (by omega), tn_nI (by omega)]
    · unfold nx_span
      rw [if_pos hok, tn_nI (by omega), tn_nI (by omega), tn_nI (by omega), tn_nI (by omega)]
      exact hN9
  · have hbad := hok
    refine r_aload_n (pq := 1) C dX11_span_0 rfl rfl ?_
    refine r_iload_n (pq := 2) C dX11_span_1 rfl rfl ?_
    refine r_callV (pq := 5) C (mc_X11_isPerson hI1 o0) o0 rfl gX11_span_X11_isPerson rfl (na := 1) (by decide +kernel) rfl (by decide) (by decide) (Nat.le_of_ble_eq_true rfl) ⟨by rw [D.2.2.2.1]; decide, by rw [D.2.2.2.2.1]; decide⟩ dX11_span_2 rfl rfl (fun r9 w9 hq => ?_)
    obtain ⟨rfl, rfl⟩ := hq
    dsimp only [Option.toList, List.cons_append, List.nil_append]
    have l2 := b2_lt (rg x (s.1 1))
    refine rN_if_eq (tg := 30) (pq := 8) C dX11_span_5 (by decide) rfl (by omega) (fun c5 => ?_) (fun c5 => ?_)
    · refine r_iconst (v := (-1)) (pq := 31) C dX11_span_30 (by decide) rfl ?_
      refine r_iret C D rfl ⟨Nat.le_of_ble_eq_true rfl, Nat.le_of_ble_eq_true rfl⟩ dX11_span_31 ?_
      refine ⟨?_, fun _ _ => rfl, B, rfl, ?_⟩
      · unfold rs_span
        rw [if_neg hbad]
      · unfold nx_span
        rw [if_neg hbad]
        exact hN
    · refine r_iload_n (pq := 9) C dX11_span_8 rfl rfl ?_
      refine r_iload_n (pq := 10) C dX11_span_9 rfl rfl ?_
      refine r_callS (pq := 13) C (mc_X11_areDays) gX11_span_X11_areDays rfl (na := 2) (by decide +kernel) rfl (by decide) (by decide) (Nat.le_of_ble_eq_true rfl) ⟨by rw [D.2.2.2.1]; decide, by rw [D.2.2.2.2.1]; decide⟩ dX11_span_10 rfl rfl (fun r9 w9 hq => ?_)
      obtain ⟨rfl, rfl⟩ := hq
      dsimp only [Option.toList, List.cons_append, List.nil_append]
      have l10 := b2_lt (okDays y z)
      refine rN_if_eq (tg := 30) (pq := 16) C dX11_span_13 (by decide) rfl (by omega) (fun c13 => ?_) (fun c13 => ?_)
      · refine r_iconst (v := (-1)) (pq := 31) C dX11_span_30 (by decide) rfl ?_
        refine r_iret C D rfl ⟨Nat.le_of_ble_eq_true rfl, Nat.le_of_ble_eq_true rfl⟩ dX11_span_31 ?_
        refine ⟨?_, fun _ _ => rfl, B, rfl, ?_⟩
        · unfold rs_span
          rw [if_neg hbad]
        · unfold nx_span
          rw [if_neg hbad]
          exact hN
      · refine r_iload (pq := 18) C dX11_span_16 rfl rfl ?_
        refine r_iconst (v := nI 1) (pq := 19) C dX11_span_18 (by decide) rfl ?_
        refine r_icmp_lt (tg := 30) (pq := 22) C dX11_span_19 (by decide) rfl (fun c19 => ?_) (fun c19 => ?_)
        · refine r_iconst (v := (-1)) (pq := 31) C dX11_span_30 (by decide) rfl ?_
          refine r_iret C D rfl ⟨Nat.le_of_ble_eq_true rfl, Nat.le_of_ble_eq_true rfl⟩ dX11_span_31 ?_
          refine ⟨?_, fun _ _ => rfl, B, rfl, ?_⟩
          · unfold rs_span
            rw [if_neg hbad]
          · unfold nx_span
            rw [if_neg hbad]
            exact hN
        · refine r_iload (pq := 24) C dX11_span_22 rfl rfl ?_
          refine r_sipush (v := nI 255) (pq := 27) C dX11_span_24 (by decide) rfl ?_
          refine r_icmp_le (tg := 32) (pq := 30) C dX11_span_27 (by decide) rfl (fun c27 => ?_) (fun c27 => ?_)
          · have t1 : (nI 1).toInt = 1 := nI_toInt (by omega)
            have t2 : (nI 255).toInt = 255 := nI_toInt (by omega)
            rw [lt_i] at c19
            rw [le_i] at c27
            exact absurd ⟨b2_1.mp c5, b2_1.mp c13, by omega, by omega⟩ hbad
          · refine r_iconst (v := (-1)) (pq := 31) C dX11_span_30 (by decide) rfl ?_
            refine r_iret C D rfl ⟨Nat.le_of_ble_eq_true rfl, Nat.le_of_ble_eq_true rfl⟩ dX11_span_31 ?_
            refine ⟨?_, fun _ _ => rfl, B, rfl, ?_⟩
            · unfold rs_span
              rw [if_neg hbad]
            · unfold nx_span
              rw [if_neg hbad]
              exact hN

set_option maxHeartbeats 4000000 in
set_option maxRecDepth 100000 in
/-- stamp -/
theorem mc_X11_stamp {l : Launch} {E : EV} {w : RW} {B : Nat → Nat} {s : ST} (hS : SI s) (hN : NS E B s w) {x y z v : Int32} : MC l E yX11_stamp wsX11_stamp 5 1 6 [.ref (B 0), .int x, .int y, .int z, .int v] (w) (nP E B w (rs_stamp s x y z v) (nx_stamp s x y z v)) := by
  refine MC.enter (cc := cX11_stamp) (maxL := 5) (ret := (some .int)) (lv0 := [some (.ref (B 0)), some (.int x), some (.int y), some (.int z), some (.int v)]) (by decide) rfl (by simp [Value.category]) (Nat.le_of_ble_eq_true rfl) rfl ?_
  intro X hl hE C D
  subst hl
  subst hE
  have hI1 : s.1 1 ≤ 6 := hS.2.1
  have hI5 : s.1 5 ≤ 80 := hS.2.2.1
  have hI16 : s.1 16 ≤ 12 := hS.2.2.2.1
  have hNN := hN
  obtain ⟨o0, ⟨u1, e1, f1⟩, ⟨u2, e2, f2⟩, ⟨u3, e3, f3⟩, ⟨u5, e5, f5⟩, ⟨u6, e6, f6⟩, ⟨u8, e8, f8⟩, ⟨u10, e10, f10⟩, ⟨u11, e11, f11⟩, ⟨u13, e13, f13⟩, ⟨u14, e14, f14⟩, ⟨u15, e15⟩, ⟨u16, e16⟩, h20, h30, h100, h200, h220, h240, h300, h310⟩ := hNN
  by_cases hok : okStamp s x y z v
  · obtain ⟨p, hp, rfl⟩ := rg_of hok.1 (by omega)
    obtain ⟨a, ha, rfl⟩ := rg_of hok.2.1.1 (by omega)
    obtain ⟨b, hb, rfl⟩ := rg_of hok.2.1.2.1 (by omega)
    obtain ⟨l9, hl9, rfl⟩ := rg_of hok.2.2 (by omega)
    have hpw := pw8 hl9
    have hab := hok.2.1.2.2
    rw [nI_toInt (by omega), nI_toInt (by omega)] at hab
    refine r_aload_n (pq := 1) C dX11_stamp_0 rfl rfl ?_
    refine r_iload_n (pq := 2) C dX11_stamp_1 rfl rfl ?_
    refine r_callV (pq := 5) C (mc_X11_isPerson hI1 o0) o0 rfl gX11_stamp_X11_isPerson rfl (na := 1) (by decide +kernel) rfl (by decide) (by decide) (Nat.le_of_ble_eq_true rfl) ⟨by rw [D.2.2.2.1]; decide, by rw [D.2.2.2.2.1]; decide⟩ dX11_stamp_2 rfl rfl (fun r9 w9 hq => ?_)
    obtain ⟨rfl, rfl⟩ := hq
    dsimp only [Option.toList, List.cons_append, List.nil_append]
    have l2 := b2_lt (rg (nI p) (s.1 1))
    refine rN_if_eq (tg := 24) (pq := 8) C dX11_stamp_5 (by decide) rfl (by omega) (fun c5 => absurd c5 (b2_1.mpr (hok.1))) (fun c5 => ?_)
    refine r_iload_n (pq := 9) C dX11_stamp_8 rfl rfl ?_
    refine r_iload_n (pq := 10) C dX11_stamp_9 rfl rfl ?_
    refine r_callS (pq := 13) C (mc_X11_areDays) gX11_stamp_X11_areDays rfl (na := 2) (by decide +kernel) rfl (by decide) (by decide) (Nat.le_of_ble_eq_true rfl) ⟨by rw [D.2.2.2.1]; decide, by rw [D.2.2.2.2.1]; decide⟩ dX11_stamp_10 rfl rfl (fun r9 w9 hq => ?_)
    obtain ⟨rfl, rfl⟩ := hq
    dsimp only [Option.toList, List.cons_append, List.nil_append]
    have l10 := b2_lt (okDays (nI a) (nI b))
    refine rN_if_eq (tg := 24) (pq := 16) C dX11_stamp_13 (by decide) rfl (by omega) (fun c13 => absurd c13 (b2_1.mpr (hok.2.1))) (fun c13 => ?_)
    refine r_iload (pq := 18) C dX11_stamp_16 rfl rfl ?_
    refine r_callS (pq := 21) C (mc_X11_isLand) gX11_stamp_X11_isLand rfl (na := 1) (by decide +kernel) rfl (by decide) (by decide) (Nat.le_of_ble_eq_true rfl) ⟨by rw [D.2.2.2.1]; decide, by rw [D.2.2.2.2.1]; decide⟩ dX11_stamp_18 rfl rfl (fun r9 w9 hq => ?_)
    obtain ⟨rfl, rfl⟩ := hq
    dsimp only [Option.toList, List.cons_append, List.nil_append]
    have l18 := b2_lt (rg (nI l9) 8)
    refine rN_if_ne (tg := 26) (pq := 24) C dX11_stamp_21 (by decide) rfl (by omega) (fun c21 => ?_) (fun c21 => absurd c21 (b2_1.mpr (hok.2.2)))
    refine r_aload_n (pq := 27) C dX11_stamp_26 rfl rfl ?_
    refine r_new (pq := 30) C (N := 6) (ci := 7) (100 + s.1 5) rfl tyX6 tyX6_ok (by decide +kernel) (by decide +kernel) (by decide +kernel) (fs := [.int 0, .int 0, .int 0, .int 0, .int 0, .int 0]) (by intro j hj; rcases (by omega : j = 0 ∨ j = 1 ∨ j = 2 ∨ j = 3 ∨ j = 4 ∨ j = 5) with e | e | e | e | e | e <;> subst e <;> rfl) (by rw [D.2.2.2.1]; decide) (by rw [D.2.2.2.2.1]; decide) dX11_stamp_27 rfl (fun q => ?_)
    refine r_dup (pq := 31) C dX11_stamp_30 rfl rfl ?_
    refine r_aload_n (pq := 32) C dX11_stamp_31 rfl rfl ?_
    refine r_getf (pq := 35) C 6 ((va_n _ _ (by omega)).trans o0) rfl (by decide) (by decide +kernel) (Or.inl rfl) rfl dX11_stamp_32 rfl ?_
    refine r_iload_n (pq := 36) C dX11_stamp_35 rfl rfl ?_
    refine r_iload_n (pq := 37) C dX11_stamp_36 rfl rfl ?_
    refine r_iload_n (pq := 38) C dX11_stamp_37 rfl rfl ?_
    refine r_iload (pq := 40) C dX11_stamp_38 rfl rfl ?_
    refine r_callI (pq := 43) C (mc_X6_init (ci := 7) (Or.inr (Or.inr (Or.inl rfl))) hl9 (va_s _ _ _)) gX11_stamp_X6_init rfl (by decide +kernel) (by decide +kernel) (by decide +kernel) (na := 5) (by decide +kernel) rfl (by decide) (by decide) (Nat.le_of_ble_eq_true rfl) ⟨by rw [D.2.2.2.1]; decide, by rw [D.2.2.2.2.1]; decide⟩ dX11_stamp_40 rfl rfl (fun r9 w9 hq => ?_)
    obtain ⟨rfl, rfl⟩ := hq
    dsimp only [Option.toList, List.cons_append, List.nil_append]
    refine GG.cast (bx_uu _ _ _ _) ?_
    refine r_callV (pq := 46) C (mc_X11_enter (k9 := 2)  hS (NS.s100 hN hI5 _) (by decide) hp (by omega) (by omega) (Nat.sub_le _ _) (va_s _ _ _)) ((va_n _ _ (by omega)).trans o0) rfl gX11_stamp_X11_enter rfl (na := 1) (by decide +kernel) rfl (by decide) (by decide) (Nat.le_of_ble_eq_true rfl) ⟨by rw [D.2.2.2.1]; decide, by rw [D.2.2.2.2.1]; decide⟩ dX11_stamp_43 rfl rfl (fun r9 w9 hq => ?_)
    obtain ⟨rfl, hz, B9, hB0, hN9⟩ := hq
    dsimp only [Option.toList, List.cons_append, List.nil_append]
    refine r_iret C D rfl ⟨Nat.le_of_ble_eq_true rfl, Nat.le_of_ble_eq_true rfl⟩ dX11_stamp_46 ?_
    refine ⟨?_, fun z q => (hz z q).trans (va_n _ _ (by omega)), B9, hB0, ?_⟩
    · unfold rs_stamp
      rw [if_pos hok, tn_nI (by omega), tn_nI (by omega), tn_nI (by omega), tn_nI (by omega)]
    · unfold nx_stamp
      rw [if_pos hok, tn_nI (by omega), tn_nI (by omega), tn_nI (by omega), tn_nI (by omega)]
      exact hN9
  · have hbad := hok
    refine r_aload_n (pq := 1) C dX11_stamp_0 rfl rfl ?_
    refine r_iload_n (pq := 2) C dX11_stamp_1 rfl rfl ?_
    refine r_callV (pq := 5) C (mc_X11_isPerson hI1 o0) o0 rfl gX11_stamp_X11_isPerson rfl (na := 1) (by decide +kernel) rfl (by decide) (by decide) (Nat.le_of_ble_eq_true rfl) ⟨by rw [D.2.2.2.1]; decide, by rw [D.2.2.2.2.1]; decide⟩ dX11_stamp_2 rfl rfl (fun r9 w9 hq => ?_)
    obtain ⟨rfl, rfl⟩ := hq
    dsimp only [Option.toList, List.cons_append, List.nil_append]
    have l2 := b2_lt (rg x (s.1 1))
    refine rN_if_eq (tg := 24) (pq := 8) C dX11_stamp_5 (by decide) rfl (by omega) (fun c5 => ?_) (fun c5 => ?_)
    · refine r_iconst (v := (-1)) (pq := 25) C dX11_stamp_24 (by decide) rfl ?_
      refine r_iret C D rfl ⟨Nat.le_of_ble_eq_true rfl, Nat.le_of_ble_eq_true rfl⟩ dX11_stamp_25 ?_
      refine ⟨?_, fun _ _ => rfl, B, rfl, ?_⟩
      · unfold rs_stamp
        rw [if_neg hbad]
      · unfold nx_stamp
        rw [if_neg hbad]
        exact hN
    · refine r_iload_n (pq := 9) C dX11_stamp_8 rfl rfl ?_
      refine r_iload_n (pq := 10) C dX11_stamp_9 rfl rfl ?_
      refine r_callS (pq := 13) C (mc_X11_areDays) gX11_stamp_X11_areDays rfl (na := 2) (by decide +kernel) rfl (by decide) (by decide) (Nat.le_of_ble_eq_true rfl) ⟨by rw [D.2.2.2.1]; decide, by rw [D.2.2.2.2.1]; decide⟩ dX11_stamp_10 rfl rfl (fun r9 w9 hq => ?_)
      obtain ⟨rfl, rfl⟩ := hq
      dsimp only [Option.toList, List.cons_append, List.nil_append]
      have l10 := b2_lt (okDays y z)
      refine rN_if_eq (tg := 24) (pq := 16) C dX11_stamp_13 (by decide) rfl (by omega) (fun c13 => ?_) (fun c13 => ?_)
      · refine r_iconst (v := (-1)) (pq := 25) C dX11_stamp_24 (by decide) rfl ?_
        refine r_iret C D rfl ⟨Nat.le_of_ble_eq_true rfl, Nat.le_of_ble_eq_true rfl⟩ dX11_stamp_25 ?_
        refine ⟨?_, fun _ _ => rfl, B, rfl, ?_⟩
        · unfold rs_stamp
          rw [if_neg hbad]
        · unfold nx_stamp
          rw [if_neg hbad]
          exact hN
      · refine r_iload (pq := 18) C dX11_stamp_16 rfl rfl ?_
        refine r_callS (pq := 21) C (mc_X11_isLand) gX11_stamp_X11_isLand rfl (na := 1) (by decide +kernel) rfl (by decide) (by decide) (Nat.le_of_ble_eq_true rfl) ⟨by rw [D.2.2.2.1]; decide, by rw [D.2.2.2.2.1]; decide⟩ dX11_stamp_18 rfl rfl (fun r9 w9 hq => ?_)
        obtain ⟨rfl, rfl⟩ := hq
        dsimp only [Option.toList, List.cons_append, List.nil_append]
        have l18 := b2_lt (rg v 8)
        refine rN_if_ne (tg := 26) (pq := 24) C dX11_stamp_21 (by decide) rfl (by omega) (fun c21 => ?_) (fun c21 => ?_)
        · exact absurd ⟨b2_1.mp c5, b2_1.mp c13, b2_1.mp c21⟩ hbad
        · refine r_iconst (v := (-1)) (pq := 25) C dX11_stamp_24 (by decide) rfl ?_
          refine r_iret C D rfl ⟨Nat.le_of_ble_eq_true rfl, Nat.le_of_ble_eq_true rfl⟩ dX11_stamp_25 ?_
          refine ⟨?_, fun _ _ => rfl, B, rfl, ?_⟩
          · unfold rs_stamp
            rw [if_neg hbad]
          · unfold nx_stamp
            rw [if_neg hbad]
            exact hN

set_option maxHeartbeats 4000000 in
set_option maxRecDepth 100000 in
/-- slept -/
theorem mc_X11_slept {l : Launch} {E : EV} {w : RW} {B : Nat → Nat} {s : ST} (hS : SI s) (hN : NS E B s w) {x y v : Int32} {z9 : Nat} (hz9 : z9 < 2) : MC l E yX11_slept wsX11_slept 5 1 6 [.ref (B 0), .int x, .int y, .int v, .int (nI z9)] (w) (nP E B w (rs_slept s x y v z9) (nx_slept s x y v z9)) := by
  refine MC.enter (cc := cX11_slept) (maxL := 5) (ret := (some .int)) (lv0 := [some (.ref (B 0)), some (.int x), some (.int y), some (.int v), some (.int (nI z9))]) (by decide) rfl (by simp [Value.category]) (Nat.le_of_ble_eq_true rfl) rfl ?_
  intro X hl hE C D
  subst hl
  subst hE
  have hI1 : s.1 1 ≤ 6 := hS.2.1
  have hI5 : s.1 5 ≤ 80 := hS.2.2.1
  have hI16 : s.1 16 ≤ 12 := hS.2.2.2.1
  have hNN := hN
  obtain ⟨o0, ⟨u1, e1, f1⟩, ⟨u2, e2, f2⟩, ⟨u3, e3, f3⟩, ⟨u5, e5, f5⟩, ⟨u6, e6, f6⟩, ⟨u8, e8, f8⟩, ⟨u10, e10, f10⟩, ⟨u11, e11, f11⟩, ⟨u13, e13, f13⟩, ⟨u14, e14, f14⟩, ⟨u15, e15⟩, ⟨u16, e16⟩, h20, h30, h100, h200, h220, h240, h300, h310⟩ := hNN
  by_cases hok : okSlept s x y v
  · obtain ⟨p, hp, rfl⟩ := rg_of hok.1 (by omega)
    obtain ⟨a, ha, rfl⟩ := rg_of hok.2.1 (by omega)
    obtain ⟨l9, hl9, rfl⟩ := rg_of hok.2.2 (by omega)
    have hpw := pw8 hl9
    refine r_aload_n (pq := 1) C dX11_slept_0 rfl rfl ?_
    refine r_iload_n (pq := 2) C dX11_slept_1 rfl rfl ?_
    refine r_callV (pq := 5) C (mc_X11_isPerson hI1 o0) o0 rfl gX11_slept_X11_isPerson rfl (na := 1) (by decide +kernel) rfl (by decide) (by decide) (Nat.le_of_ble_eq_true rfl) ⟨by rw [D.2.2.2.1]; decide, by rw [D.2.2.2.2.1]; decide⟩ dX11_slept_2 rfl rfl (fun r9 w9 hq => ?_)
    obtain ⟨rfl, rfl⟩ := hq
    dsimp only [Option.toList, List.cons_append, List.nil_append]
    have l2 := b2_lt (rg (nI p) (s.1 1))
    refine rN_if_eq (tg := 22) (pq := 8) C dX11_slept_5 (by decide) rfl (by omega) (fun c5 => absurd c5 (b2_1.mpr hok.1)) (fun c5 => ?_)
    refine r_iload_n (pq := 9) C dX11_slept_8 rfl rfl ?_
    refine r_callS (pq := 12) C (mc_X11_isDay) gX11_slept_X11_isDay rfl (na := 1) (by decide +kernel) rfl (by decide) (by decide) (Nat.le_of_ble_eq_true rfl) ⟨by rw [D.2.2.2.1]; decide, by rw [D.2.2.2.2.1]; decide⟩ dX11_slept_9 rfl rfl (fun r9 w9 hq => ?_)
    obtain ⟨rfl, rfl⟩ := hq
    dsimp only [Option.toList, List.cons_append, List.nil_append]
    have l9x := b2_lt (rg (nI a) 400)
    refine rN_if_eq (tg := 22) (pq := 15) C dX11_slept_12 (by decide) rfl (by omega) (fun c12 => absurd c12 (b2_1.mpr hok.2.1)) (fun c12 => ?_)
    refine r_iload_n (pq := 16) C dX11_slept_15 rfl rfl ?_
    refine r_callS (pq := 19) C (mc_X11_isLand) gX11_slept_X11_isLand rfl (na := 1) (by decide +kernel) rfl (by decide) (by decide) (Nat.le_of_ble_eq_true rfl) ⟨by rw [D.2.2.2.1]; decide, by rw [D.2.2.2.2.1]; decide⟩ dX11_slept_16 rfl rfl (fun r9 w9 hq => ?_)
    obtain ⟨rfl, rfl⟩ := hq
    dsimp only [Option.toList, List.cons_append, List.nil_append]
    have l16 := b2_lt (rg (nI l9) 8)
    refine rN_if_ne (tg := 24) (pq := 22) C dX11_slept_19 (by decide) rfl (by omega) (fun c19 => ?_) (fun c19 => absurd c19 (b2_1.mpr hok.2.2))
    refine r_aload_n (pq := 25) C dX11_slept_24 rfl rfl ?_
    refine r_iload (pq := 27) C dX11_slept_25 rfl rfl ?_
    refine rN_if_eq (tg := 47) (pq := 30) C dX11_slept_27 (by decide) rfl (by omega) (fun c27 => ?_) (fun c27 => ?_)
    · refine r_new (pq := 50) C (N := 6) (ci := 3) (100 + s.1 5) rfl tyX1 tyX1_ok (by decide +kernel) (by decide +kernel) (by decide +kernel) (fs := [.int 0, .int 0, .int 0, .int 0, .int 0, .int 0]) (by intro j hj; rcases (by omega : j = 0 ∨ j = 1 ∨ j = 2 ∨ j = 3 ∨ j = 4 ∨ j = 5) with e | e | e | e | e | e <;> subst e <;> rfl) (by rw [D.2.2.2.1]; decide) (by rw [D.2.2.2.2.1]; decide) dX11_slept_47 rfl (fun q => ?_)
      refine r_dup (pq := 51) C dX11_slept_50 rfl rfl ?_
      refine r_aload_n (pq := 52) C dX11_slept_51 rfl rfl ?_
      refine r_getf (pq := 55) C 6 ((va_n _ _ (by omega)).trans o0) rfl (by decide) (by decide +kernel) (Or.inl rfl) rfl dX11_slept_52 rfl ?_
      refine r_iload_n (pq := 56) C dX11_slept_55 rfl rfl ?_
      refine r_iload_n (pq := 57) C dX11_slept_56 rfl rfl ?_
      refine r_iload_n (pq := 58) C dX11_slept_57 rfl rfl ?_
      refine r_callI (pq := 61) C (mc_X1_init (ci := 3) (Or.inr (Or.inl rfl)) hl9 (va_s _ _ _)) gX11_slept_X1_init rfl (by decide +kernel) (by decide +kernel) (by decide +kernel) (na := 4) (by decide +kernel) rfl (by decide) (by decide) (Nat.le_of_ble_eq_true rfl) ⟨by rw [D.2.2.2.1]; decide, by rw [D.2.2.2.2.1]; decide⟩ dX11_slept_58 rfl rfl (fun r9 w9 hq => ?_)
      obtain ⟨rfl, rfl⟩ := hq
      dsimp only [Option.toList, List.cons_append, List.nil_append]
      refine GG.cast (bx_uu _ _ _ _) ?_
      refine r_callV (pq := 64) C (mc_X11_enter (k9 := 1)  hS (NS.s100 hN hI5 _) (by decide) hp (Nat.le_refl _) (by omega) (by omega) (va_s _ _ _)) ((va_n _ _ (by omega)).trans o0) rfl gX11_slept_X11_enter rfl (na := 1) (by decide +kernel) rfl (by decide) (by decide) (Nat.le_of_ble_eq_true rfl) ⟨by rw [D.2.2.2.1]; decide, by rw [D.2.2.2.2.1]; decide⟩ dX11_slept_61 rfl rfl (fun r9 w9 hq => ?_)
      obtain ⟨rfl, hz, B9, hB0, hN9⟩ := hq
      dsimp only [Option.toList, List.cons_append, List.nil_append]
      refine r_iret C D rfl ⟨Nat.le_of_ble_eq_true rfl, Nat.le_of_ble_eq_true rfl⟩ dX11_slept_64 ?_
      refine ⟨?_, fun z q => (hz z q).trans (va_n _ _ (by omega)), B9, hB0, ?_⟩
      · unfold rs_slept
        rw [if_pos hok, tn_nI (by omega), tn_nI (by omega), tn_nI (by omega), if_pos c27]
      · unfold nx_slept
        rw [if_pos hok, tn_nI (by omega), tn_nI (by omega), tn_nI (by omega), if_pos c27]
        exact hN9
    · refine r_new (pq := 33) C (N := 6) (ci := 11) (100 + s.1 5) rfl tyX10 tyX10_ok (by decide +kernel) (by decide +kernel) (by decide +kernel) (fs := [.int 0, .int 0, .int 0, .int 0, .int 0, .int 0]) (by intro j hj; rcases (by omega : j = 0 ∨ j = 1 ∨ j = 2 ∨ j = 3 ∨ j = 4 ∨ j = 5) with e | e | e | e | e | e <;> subst e <;> rfl) (by rw [D.2.2.2.1]; decide) (by rw [D.2.2.2.2.1]; decide) dX11_slept_30 rfl (fun q => ?_)
      refine r_dup (pq := 34) C dX11_slept_33 rfl rfl ?_
      refine r_aload_n (pq := 35) C dX11_slept_34 rfl rfl ?_
      refine r_getf (pq := 38) C 6 ((va_n _ _ (by omega)).trans o0) rfl (by decide) (by decide +kernel) (Or.inl rfl) rfl dX11_slept_35 rfl ?_
      refine r_iload_n (pq := 39) C dX11_slept_38 rfl rfl ?_
      refine r_iload_n (pq := 40) C dX11_slept_39 rfl rfl ?_
      refine r_iload_n (pq := 41) C dX11_slept_40 rfl rfl ?_
      refine r_callI (pq := 44) C (mc_X10_init (ci := 11) (Or.inr (Or.inr (Or.inr rfl))) hl9 (va_s _ _ _)) gX11_slept_X10_init rfl (by decide +kernel) (by decide +kernel) (by decide +kernel) (na := 4) (by decide +kernel) rfl (by decide) (by decide) (Nat.le_of_ble_eq_true rfl) ⟨by rw [D.2.2.2.1]; decide, by rw [D.2.2.2.2.1]; decide⟩ dX11_slept_41 rfl rfl (fun r9 w9 hq => ?_)
      obtain ⟨rfl, rfl⟩ := hq
      dsimp only [Option.toList, List.cons_append, List.nil_append]
      refine GG.cast (bx_uu _ _ _ _) ?_
      refine r_goto (tg := 61) C dX11_slept_44 (by decide) ?_
      refine r_callV (pq := 64) C (mc_X11_enter (k9 := 3)  hS (NS.s100 hN hI5 _) (by decide) hp (Nat.le_refl _) (by omega) (by omega) (va_s _ _ _)) ((va_n _ _ (by omega)).trans o0) rfl gX11_slept_X11_enter rfl (na := 1) (by decide +kernel) rfl (by decide) (by decide) (Nat.le_of_ble_eq_true rfl) ⟨by rw [D.2.2.2.1]; decide, by rw [D.2.2.2.2.1]; decide⟩ dX11_slept_61 rfl rfl (fun r9 w9 hq => ?_)
      obtain ⟨rfl, hz, B9, hB0, hN9⟩ := hq
      dsimp only [Option.toList, List.cons_append, List.nil_append]
      refine r_iret C D rfl ⟨Nat.le_of_ble_eq_true rfl, Nat.le_of_ble_eq_true rfl⟩ dX11_slept_64 ?_
      refine ⟨?_, fun z q => (hz z q).trans (va_n _ _ (by omega)), B9, hB0, ?_⟩
      · unfold rs_slept
        rw [if_pos hok, tn_nI (by omega), tn_nI (by omega), tn_nI (by omega), if_neg c27]
      · unfold nx_slept
        rw [if_pos hok, tn_nI (by omega), tn_nI (by omega), tn_nI (by omega), if_neg c27]
        exact hN9
  · have hbad := hok
    refine r_aload_n (pq := 1) C dX11_slept_0 rfl rfl ?_
    refine r_iload_n (pq := 2) C dX11_slept_1 rfl rfl ?_
    refine r_callV (pq := 5) C (mc_X11_isPerson hI1 o0) o0 rfl gX11_slept_X11_isPerson rfl (na := 1) (by decide +kernel) rfl (by decide) (by decide) (Nat.le_of_ble_eq_true rfl) ⟨by rw [D.2.2.2.1]; decide, by rw [D.2.2.2.2.1]; decide⟩ dX11_slept_2 rfl rfl (fun r9 w9 hq => ?_)
    obtain ⟨rfl, rfl⟩ := hq
    dsimp only [Option.toList, List.cons_append, List.nil_append]
    have l2 := b2_lt (rg x (s.1 1))
    refine rN_if_eq (tg := 22) (pq := 8) C dX11_slept_5 (by decide) rfl (by omega) (fun c5 => ?_) (fun c5 => ?_)
    · refine r_iconst (v := (-1)) (pq := 23) C dX11_slept_22 (by decide) rfl ?_
      refine r_iret C D rfl ⟨Nat.le_of_ble_eq_true rfl, Nat.le_of_ble_eq_true rfl⟩ dX11_slept_23 ?_
      refine ⟨?_, fun _ _ => rfl, B, rfl, ?_⟩
      · unfold rs_slept
        rw [if_neg hbad]
      · unfold nx_slept
        rw [if_neg hbad]
        exact hN
    · refine r_iload_n (pq := 9) C dX11_slept_8 rfl rfl ?_
      refine r_callS (pq := 12) C (mc_X11_isDay) gX11_slept_X11_isDay rfl (na := 1) (by decide +kernel) rfl (by decide) (by decide) (Nat.le_of_ble_eq_true rfl) ⟨by rw [D.2.2.2.1]; decide, by rw [D.2.2.2.2.1]; decide⟩ dX11_slept_9 rfl rfl (fun r9 w9 hq => ?_)
      obtain ⟨rfl, rfl⟩ := hq
      dsimp only [Option.toList, List.cons_append, List.nil_append]
      have l9 := b2_lt (rg y 400)
      refine rN_if_eq (tg := 22) (pq := 15) C dX11_slept_12 (by decide) rfl (by omega) (fun c12 => ?_) (fun c12 => ?_)
      · refine r_iconst (v := (-1)) (pq := 23) C dX11_slept_22 (by decide) rfl ?_
        refine r_iret C D rfl ⟨Nat.le_of_ble_eq_true rfl, Nat.le_of_ble_eq_true rfl⟩ dX11_slept_23 ?_
        refine ⟨?_, fun _ _ => rfl, B, rfl, ?_⟩
        · unfold rs_slept
          rw [if_neg hbad]
        · unfold nx_slept
          rw [if_neg hbad]
          exact hN
      · refine r_iload_n (pq := 16) C dX11_slept_15 rfl rfl ?_
        refine r_callS (pq := 19) C (mc_X11_isLand) gX11_slept_X11_isLand rfl (na := 1) (by decide +kernel) rfl (by decide) (by decide) (Nat.le_of_ble_eq_true rfl) ⟨by rw [D.2.2.2.1]; decide, by rw [D.2.2.2.2.1]; decide⟩ dX11_slept_16 rfl rfl (fun r9 w9 hq => ?_)
        obtain ⟨rfl, rfl⟩ := hq
        dsimp only [Option.toList, List.cons_append, List.nil_append]
        have l16 := b2_lt (rg v 8)
        refine rN_if_ne (tg := 24) (pq := 22) C dX11_slept_19 (by decide) rfl (by omega) (fun c19 => ?_) (fun c19 => ?_)
        · exact absurd ⟨b2_1.mp c5, b2_1.mp c12, b2_1.mp c19⟩ hbad
        · refine r_iconst (v := (-1)) (pq := 23) C dX11_slept_22 (by decide) rfl ?_
          refine r_iret C D rfl ⟨Nat.le_of_ble_eq_true rfl, Nat.le_of_ble_eq_true rfl⟩ dX11_slept_23 ?_
          refine ⟨?_, fun _ _ => rfl, B, rfl, ?_⟩
          · unfold rs_slept
            rw [if_neg hbad]
          · unfold nx_slept
            rw [if_neg hbad]
            exact hN


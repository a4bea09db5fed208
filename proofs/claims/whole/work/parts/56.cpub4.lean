/-! ===== the class's calls: nights, sure ===== -/
/-- a row of a person's nights as the sums want it -/
theorem row_ok {s : ST} {p : Nat} {h : Nat → Int32} (hh : ∀ d, d < 400 → h d = nI (cr s p d)) : ∀ i, i < 400 → h i = nI (cr s p i) ∧ cr s p i < 1000000 := fun i hi => ⟨hh i hi, by have := cn_le s.2.1 (s.1 5) p i; unfold cr; omega⟩
theorem ti_n {a : Nat} (h : a < 1000000) : a = (nI a).toInt.toNat := by rw [nI_toInt (by omega)]; omega
theorem ti_s {a : Nat} (h : a < 1000000) : a + 1 = ((nI a).toInt + 1).toNat := by rw [nI_toInt (by omega)]; omega
theorem ti_lt {a b : Nat} (h : a < b) (hb : b < 1000000) : (nI a).toInt < (b : Int) := by rw [nI_toInt (by omega)]; omega

set_option maxHeartbeats 4000000 in
set_option maxRecDepth 100000 in
/-- nights -/
theorem mc_X11_nights {l : Launch} {E : EV} {w : RW} {B : Nat → Nat} {s : ST} (hS : SI s) (hN : NS E B s w) {x y v u : Int32} {z9 : Nat} (hz9 : z9 < 2) : MC l E yX11_nights wsX11_nights 2 0 0 [.ref (B 0), .int x, .int y, .int v, .int u, .int (nI z9)] (w) (nP E B w (rs_nights s x y v u z9) (s)) := by
  refine MC.enter (cc := cX11_nights) (maxL := 7) (ret := (some .int)) (lv0 := [some (.ref (B 0)), some (.int x), some (.int y), some (.int v), some (.int u), some (.int (nI z9)), none]) (by decide) rfl (by simp [Value.category]) (Nat.le_of_ble_eq_true rfl) rfl ?_
  intro X hl hE C D
  subst hl
  subst hE
  have hI1 : s.1 1 ≤ 6 := hS.2.1
  have hI5 : s.1 5 ≤ 80 := hS.2.2.1
  have hI16 : s.1 16 ≤ 12 := hS.2.2.2.1
  have hNN := hN
  obtain ⟨o0, ⟨u1, e1, f1⟩, ⟨u2, e2, f2⟩, ⟨u3, e3, f3⟩, ⟨u5, e5, f5⟩, ⟨u6, e6, f6⟩, ⟨u8, e8, f8⟩, ⟨u10, e10, f10⟩, ⟨u11, e11, f11⟩, ⟨u13, e13, f13⟩, ⟨u14, e14, f14⟩, ⟨u15, e15⟩, ⟨u16, e16⟩, h20, h30, h100, h200, h220, h240, h300, h310⟩ := hNN
  by_cases hok : okNights s x y v u
  · obtain ⟨p, hp, rfl⟩ := rg_of hok.1 (by omega)
    obtain ⟨l9, hl9, rfl⟩ := rg_of hok.2.1 (by omega)
    obtain ⟨a, ha, rfl⟩ := rg_of hok.2.2.1 (by omega)
    obtain ⟨b, hb, rfl⟩ := rg_of hok.2.2.2.1 (by omega)
    have hab := hok.2.2.2.2
    rw [nI_toInt (by omega), nI_toInt (by omega)] at hab
    obtain ⟨h9, a1, a2⟩ := h20 p (by omega)
    obtain ⟨x1, y1, t1⟩ := h30 l9 hl9
    refine r_aload_n (pq := 1) C dX11_nights_0 rfl rfl ?_
    refine r_iload_n (pq := 2) C dX11_nights_1 rfl rfl ?_
    refine r_callV (pq := 5) C (mc_X11_isPerson hI1 o0) o0 rfl gX11_nights_X11_isPerson rfl (na := 1) (by decide +kernel) rfl (by decide) (by decide) (Nat.le_of_ble_eq_true rfl) ⟨Nat.zero_le _, Nat.zero_le _⟩ dX11_nights_2 rfl rfl (fun r9 w hq => ?_)
    obtain ⟨rfl, rfl⟩ := hq
    dsimp only [Option.toList, List.cons_append, List.nil_append]
    have l2 := b2_lt (rg (nI p) (s.1 1))
    refine rN_if_eq (tg := 24) (pq := 8) C dX11_nights_5 (by decide) rfl (by omega) (fun c5 => absurd c5 (b2_1.mpr hok.1)) (fun c5 => ?_)
    refine r_iload_n (pq := 9) C dX11_nights_8 rfl rfl ?_
    refine r_callS (pq := 12) C (mc_X11_isLand) gX11_nights_X11_isLand rfl (na := 1) (by decide +kernel) rfl (by decide) (by decide) (Nat.le_of_ble_eq_true rfl) ⟨Nat.zero_le _, Nat.zero_le _⟩ dX11_nights_9 rfl rfl (fun r9 w hq => ?_)
    obtain ⟨rfl, rfl⟩ := hq
    dsimp only [Option.toList, List.cons_append, List.nil_append]
    have l9x := b2_lt (rg (nI l9) 8)
    refine rN_if_eq (tg := 24) (pq := 15) C dX11_nights_12 (by decide) rfl (by omega) (fun c12 => absurd c12 (b2_1.mpr hok.2.1)) (fun c12 => ?_)
    refine r_iload_n (pq := 16) C dX11_nights_15 rfl rfl ?_
    refine r_iload (pq := 18) C dX11_nights_16 rfl rfl ?_
    refine r_callS (pq := 21) C (mc_X11_areDays) gX11_nights_X11_areDays rfl (na := 2) (by decide +kernel) rfl (by decide) (by decide) (Nat.le_of_ble_eq_true rfl) ⟨Nat.zero_le _, Nat.zero_le _⟩ dX11_nights_18 rfl rfl (fun r9 w hq => ?_)
    obtain ⟨rfl, rfl⟩ := hq
    dsimp only [Option.toList, List.cons_append, List.nil_append]
    have l18 := b2_lt (okDays (nI a) (nI b))
    refine rN_if_ne (tg := 26) (pq := 24) C dX11_nights_21 (by decide) rfl (by omega) (fun c21 => ?_) (fun c21 => absurd c21 (b2_1.mpr hok.2.2))
    refine r_aload_n (pq := 27) C dX11_nights_26 rfl rfl ?_
    refine r_getf (pq := 30) C 13 o0 rfl (by decide) (by decide +kernel) (Or.inl rfl) rfl dX11_nights_27 rfl ?_
    refine r_iload_n (pq := 31) C dX11_nights_30 rfl rfl ?_
    refine rN_aaldS (pq := 32) C 7 rfl rfl e14 (by omega) (by decide) (f14 l9 hl9) dX11_nights_31 rfl ?_
    refine r_astore (j := 6) (pq := 34) C dX11_nights_32 rfl (by decide) rfl rfl ?_
    dsimp only [List.set]
    refine r_aload (pq := 36) C dX11_nights_34 rfl rfl ?_
    refine r_aload_n (pq := 37) C dX11_nights_36 rfl rfl ?_
    refine r_getf (pq := 40) C 4 o0 rfl (by decide) (by decide +kernel) (Or.inl rfl) rfl dX11_nights_37 rfl ?_
    refine r_iload_n (pq := 41) C dX11_nights_40 rfl rfl ?_
    refine rN_aaldS (pq := 42) C 8 rfl rfl e5 (by omega) (by decide) (f5 p (by omega)) dX11_nights_41 rfl ?_
    refine r_iload_n (pq := 43) C dX11_nights_42 rfl rfl ?_
    refine r_iload (pq := 45) C dX11_nights_43 rfl rfl ?_
    refine r_callV (pq := 48) C (mc_X8_sum (r := 30 + l9) (rr := 20 + p) (a9 := a) (b9 := b + 1) (c := cr s p) hl9 (by omega) (ti_n (by omega)) (ti_s (by omega)) (ti_lt (b := 1000) (by omega) (by omega)) (ti_lt (b := 400) (by omega) (by omega)) (row_ok (a2 hp)) t1 a1) t1 rfl gX11_nights_X8_sum rfl (na := 3) (by decide +kernel) rfl (by decide) (by decide) (Nat.le_of_ble_eq_true rfl) ⟨Nat.zero_le _, Nat.zero_le _⟩ dX11_nights_45 rfl rfl (fun r9 w hq => ?_)
    obtain ⟨rfl, rfl⟩ := hq
    dsimp only [Option.toList, List.cons_append, List.nil_append]
    refine r_iload (pq := 50) C dX11_nights_48 rfl rfl ?_
    refine rN_if_eq (tg := 61) (pq := 53) C dX11_nights_50 (by decide) rfl (by omega) (fun c50 => ?_) (fun c50 => ?_)
    · refine r_aload (pq := 63) C dX11_nights_61 rfl rfl ?_
      refine r_getf (pq := 66) C 1 (va_s _ _ _) rfl (by decide) (by decide +kernel) (Or.inl rfl) rfl dX11_nights_63 rfl ?_
      refine r_iret C D rfl ⟨Nat.le_refl _, Nat.le_refl _⟩ dX11_nights_66 ?_
      refine ⟨?_, fun z hz => va_n _ _ (by omega), B, rfl, NS.s30 hN hl9 _ _⟩
      unfold rs_nights
      rw [if_pos hok, if_pos c50, tn_nI (by omega), tn_nI (by omega), tn_nI (by omega), tn_nI (by omega)]
      rfl
    · refine r_aload (pq := 55) C dX11_nights_53 rfl rfl ?_
      refine r_getf (pq := 58) C 2 (va_s _ _ _) rfl (by decide) (by decide +kernel) (Or.inl rfl) rfl dX11_nights_55 rfl ?_
      refine r_goto (tg := 66) C dX11_nights_58 (by decide) ?_
      refine r_iret C D rfl ⟨Nat.le_refl _, Nat.le_refl _⟩ dX11_nights_66 ?_
      refine ⟨?_, fun z hz => va_n _ _ (by omega), B, rfl, NS.s30 hN hl9 _ _⟩
      unfold rs_nights
      rw [if_pos hok, if_neg c50, tn_nI (by omega), tn_nI (by omega), tn_nI (by omega), tn_nI (by omega)]
      rfl
  · have hbad := hok
    refine r_aload_n (pq := 1) C dX11_nights_0 rfl rfl ?_
    refine r_iload_n (pq := 2) C dX11_nights_1 rfl rfl ?_
    refine r_callV (pq := 5) C (mc_X11_isPerson hI1 o0) o0 rfl gX11_nights_X11_isPerson rfl (na := 1) (by decide +kernel) rfl (by decide) (by decide) (Nat.le_of_ble_eq_true rfl) ⟨Nat.zero_le _, Nat.zero_le _⟩ dX11_nights_2 rfl rfl (fun r9 w hq => ?_)
    obtain ⟨rfl, rfl⟩ := hq
    dsimp only [Option.toList, List.cons_append, List.nil_append]
    have l2 := b2_lt (rg x (s.1 1))
    refine rN_if_eq (tg := 24) (pq := 8) C dX11_nights_5 (by decide) rfl (by omega) (fun c5 => ?_) (fun c5 => ?_)
    · refine r_iconst (v := (-1)) (pq := 25) C dX11_nights_24 (by decide) rfl ?_
      refine r_iret C D rfl ⟨Nat.le_refl _, Nat.le_refl _⟩ dX11_nights_25 ?_
      refine ⟨?_, fun _ _ => rfl, B, rfl, ?_⟩
      · unfold rs_nights
        rw [if_neg hbad]
      · exact hN
    · refine r_iload_n (pq := 9) C dX11_nights_8 rfl rfl ?_
      refine r_callS (pq := 12) C (mc_X11_isLand) gX11_nights_X11_isLand rfl (na := 1) (by decide +kernel) rfl (by decide) (by decide) (Nat.le_of_ble_eq_true rfl) ⟨Nat.zero_le _, Nat.zero_le _⟩ dX11_nights_9 rfl rfl (fun r9 w hq => ?_)
      obtain ⟨rfl, rfl⟩ := hq
      dsimp only [Option.toList, List.cons_append, List.nil_append]
      have l9 := b2_lt (rg y 8)
      refine rN_if_eq (tg := 24) (pq := 15) C dX11_nights_12 (by decide) rfl (by omega) (fun c12 => ?_) (fun c12 => ?_)
      · refine r_iconst (v := (-1)) (pq := 25) C dX11_nights_24 (by decide) rfl ?_
        refine r_iret C D rfl ⟨Nat.le_refl _, Nat.le_refl _⟩ dX11_nights_25 ?_
        refine ⟨?_, fun _ _ => rfl, B, rfl, ?_⟩
        · unfold rs_nights
          rw [if_neg hbad]
        · exact hN
      · refine r_iload_n (pq := 16) C dX11_nights_15 rfl rfl ?_
        refine r_iload (pq := 18) C dX11_nights_16 rfl rfl ?_
        refine r_callS (pq := 21) C (mc_X11_areDays) gX11_nights_X11_areDays rfl (na := 2) (by decide +kernel) rfl (by decide) (by decide) (Nat.le_of_ble_eq_true rfl) ⟨Nat.zero_le _, Nat.zero_le _⟩ dX11_nights_18 rfl rfl (fun r9 w hq => ?_)
        obtain ⟨rfl, rfl⟩ := hq
        dsimp only [Option.toList, List.cons_append, List.nil_append]
        have l18 := b2_lt (okDays v u)
        refine rN_if_ne (tg := 26) (pq := 24) C dX11_nights_21 (by decide) rfl (by omega) (fun c21 => ?_) (fun c21 => ?_)
        · exact absurd ⟨b2_1.mp c5, b2_1.mp c12, b2_1.mp c21⟩ hbad
        · refine r_iconst (v := (-1)) (pq := 25) C dX11_nights_24 (by decide) rfl ?_
          refine r_iret C D rfl ⟨Nat.le_refl _, Nat.le_refl _⟩ dX11_nights_25 ?_
          refine ⟨?_, fun _ _ => rfl, B, rfl, ?_⟩
          · unfold rs_nights
            rw [if_neg hbad]
          · exact hN

theorem sq_bc {c : Nat → Nat} {d : Nat} (h : c d ≠ 0) (h2 : c d < 256) : sq c d = if bcn (c d) = 1 then 1 else 0 := by
  unfold sq
  by_cases e : bcn (c d) = 1
  · rw [if_pos e, if_pos ((bcn_1 _ h2 h).mp e)]
  · rw [if_neg e, if_neg (fun q => e ((bcn_1 _ h2 h).mpr q))]

set_option maxHeartbeats 4000000 in
set_option maxRecDepth 100000 in
/-- sure -/
theorem mc_X11_sure {l : Launch} {E : EV} {w : RW} {B : Nat → Nat} {s : ST} (hS : SI s) (hN : NS E B s w) {x v u : Int32} : MC l E yX11_sure wsX11_sure 2 0 0 [.ref (B 0), .int x, .int v, .int u] (w) (nP E B w (rs_sure s x v u) (s)) := by
  refine MC.enter (cc := cX11_sure) (maxL := 6) (ret := (some .int)) (lv0 := [some (.ref (B 0)), some (.int x), some (.int v), some (.int u), none, none]) (by decide) rfl (by simp [Value.category]) (Nat.le_of_ble_eq_true rfl) rfl ?_
  intro X hl hE C D
  subst hl
  subst hE
  have hI1 : s.1 1 ≤ 6 := hS.2.1
  have hI5 : s.1 5 ≤ 80 := hS.2.2.1
  have hI16 : s.1 16 ≤ 12 := hS.2.2.2.1
  have hNN := hN
  obtain ⟨o0, ⟨u1, e1, f1⟩, ⟨u2, e2, f2⟩, ⟨u3, e3, f3⟩, ⟨u5, e5, f5⟩, ⟨u6, e6, f6⟩, ⟨u8, e8, f8⟩, ⟨u10, e10, f10⟩, ⟨u11, e11, f11⟩, ⟨u13, e13, f13⟩, ⟨u14, e14, f14⟩, ⟨u15, e15⟩, ⟨u16, e16⟩, h20, h30, h100, h200, h220, h240, h300, h310⟩ := hNN
  by_cases hok : rg x (s.1 1) ∧ okDays v u
  · obtain ⟨p, hp, rfl⟩ := rg_of hok.1 (by omega)
    obtain ⟨a, ha, rfl⟩ := rg_of hok.2.1 (by omega)
    obtain ⟨b, hb, rfl⟩ := rg_of hok.2.2.1 (by omega)
    have hab := hok.2.2.2
    rw [nI_toInt (by omega), nI_toInt (by omega)] at hab
    obtain ⟨h9, a1, a2⟩ := h20 p (by omega)
    have hwp := hS.2.2.2.2.2.2.2.2.2.2 p hp
    have loop : ∀ (t e : Nat), a ≤ e → e ≤ b + 1 → b + 1 - e < t → GG X w 0 0 24 [some (.ref (B 0)), some (.int (nI p)), some (.int (nI a)), some (.int (nI b)), some (.int (nI (sl (sq (cr s p)) a e))), some (.int (nI e))] [] := by
      intro t
      induction t with
      | zero => intro e h1 h2 h3; omega
      | succ t ih =>
        intro e hae he ht
        refine r_iload (pq := 26) C dX11_sure_24 rfl rfl ?_
        refine r_iload_n (pq := 27) C dX11_sure_26 rfl rfl ?_
        refine rN_icmp_gt (tg := 55) (pq := 30) C dX11_sure_27 (by decide) rfl (by omega) (by omega) (fun c27 => ?_) (fun c27 => ?_)
        · refine r_iload (pq := 57) C dX11_sure_55 rfl rfl ?_
          refine r_iret C D rfl ⟨Nat.le_refl _, Nat.le_refl _⟩ dX11_sure_57 ?_
          refine ⟨?_, fun _ _ => rfl, B, rfl, hN⟩
          unfold rs_sure
          have e9 : e = b + 1 := by omega
          rw [if_pos hok, tn_nI (by omega), tn_nI (by omega), tn_nI (by omega), e9]
          rfl
        · refine r_aload_n (pq := 31) C dX11_sure_30 rfl rfl ?_
          refine r_getf (pq := 34) C 4 o0 rfl (by decide) (by decide +kernel) (Or.inl rfl) rfl dX11_sure_31 rfl ?_
          refine r_iload_n (pq := 35) C dX11_sure_34 rfl rfl ?_
          refine rN_aaldS (pq := 36) C 8 rfl rfl e5 (by omega) (by decide) (f5 p (by omega)) dX11_sure_35 rfl ?_
          refine r_iload (pq := 38) C dX11_sure_36 rfl rfl ?_
          refine rN_iald (pq := 39) C a1 (by omega) (by decide) dX11_sure_38 rfl ?_
          refine r_at (a2 hp e (by omega)) ?_
          have hc9 := cn_le s.2.1 (s.1 5) p e
          have hs9 := sq_bc (c := cr s p) (hwp e (by omega)) (show cr s p e < 256 by unfold cr; omega)
          have hbc := bcn_le (cr s p e)
          refine r_callS (pq := 42) C (mc_J6_bitCount_0f7a4 (c9 := cr s p e) (by unfold cr; omega)) gX11_sure_J6_bitCount_0f7a4 rfl (na := 1) (by decide +kernel) rfl (by decide) (by decide) (Nat.le_of_ble_eq_true rfl) ⟨Nat.zero_le _, Nat.zero_le _⟩ dX11_sure_39 rfl rfl (fun r9 w hq => ?_)
          obtain ⟨rfl, rfl⟩ := hq
          dsimp only [Option.toList, List.cons_append, List.nil_append]
          refine r_iconst (v := nI 1) (pq := 43) C dX11_sure_42 (by decide) rfl ?_
          refine rN_icmp_ne (tg := 49) (pq := 46) C dX11_sure_43 (by decide) rfl (by omega) (by omega) (fun c43 => ?_) (fun c43 => ?_)
          · refine rN_iinc (c := 1) (pq := 52) C dX11_sure_49 rfl (by decide) (by decide) rfl rfl ?_
            dsimp only [List.set]
            refine r_goto (tg := 24) C dX11_sure_52 (by decide) ?_
            have key := ih (e + 1) (by omega) (by omega) (by omega)
            rw [sl_s _ hae, hs9, if_neg c43, Nat.add_zero] at key
            exact key
          · refine rN_iinc (c := 1) (pq := 49) C dX11_sure_46 rfl (by decide) (by decide) rfl rfl ?_
            dsimp only [List.set]
            refine rN_iinc (c := 1) (pq := 52) C dX11_sure_49 rfl (by decide) (by decide) rfl rfl ?_
            dsimp only [List.set]
            refine r_goto (tg := 24) C dX11_sure_52 (by decide) ?_
            have key := ih (e + 1) (by omega) (by omega) (by omega)
            rw [sl_s _ hae, hs9, if_pos c43] at key
            exact key
    refine r_aload_n (pq := 1) C dX11_sure_0 rfl rfl ?_
    refine r_iload_n (pq := 2) C dX11_sure_1 rfl rfl ?_
    refine r_callV (pq := 5) C (mc_X11_isPerson hI1 o0) o0 rfl gX11_sure_X11_isPerson rfl (na := 1) (by decide +kernel) rfl (by decide) (by decide) (Nat.le_of_ble_eq_true rfl) ⟨Nat.zero_le _, Nat.zero_le _⟩ dX11_sure_2 rfl rfl (fun r9 w hq => ?_)
    obtain ⟨rfl, rfl⟩ := hq
    dsimp only [Option.toList, List.cons_append, List.nil_append]
    have l2 := b2_lt (rg (nI p) (s.1 1))
    refine rN_if_eq (tg := 16) (pq := 8) C dX11_sure_5 (by decide) rfl (by omega) (fun c5 => absurd c5 (b2_1.mpr hok.1)) (fun c5 => ?_)
    refine r_iload_n (pq := 9) C dX11_sure_8 rfl rfl ?_
    refine r_iload_n (pq := 10) C dX11_sure_9 rfl rfl ?_
    refine r_callS (pq := 13) C (mc_X11_areDays) gX11_sure_X11_areDays rfl (na := 2) (by decide +kernel) rfl (by decide) (by decide) (Nat.le_of_ble_eq_true rfl) ⟨Nat.zero_le _, Nat.zero_le _⟩ dX11_sure_10 rfl rfl (fun r9 w hq => ?_)
    obtain ⟨rfl, rfl⟩ := hq
    dsimp only [Option.toList, List.cons_append, List.nil_append]
    have l10 := b2_lt (okDays (nI a) (nI b))
    refine rN_if_ne (tg := 18) (pq := 16) C dX11_sure_13 (by decide) rfl (by omega) (fun c13 => ?_) (fun c13 => absurd c13 (b2_1.mpr hok.2))
    refine r_iconst (v := nI 0) (pq := 19) C dX11_sure_18 (by decide) rfl ?_
    refine r_istore (j := 4) (pq := 21) C dX11_sure_19 rfl (by decide) rfl rfl ?_
    dsimp only [List.set]
    refine r_iload_n (pq := 22) C dX11_sure_21 rfl rfl ?_
    refine r_istore (j := 5) (pq := 24) C dX11_sure_22 rfl (by decide) rfl rfl ?_
    dsimp only [List.set]
    have key := loop (b + 2) a (Nat.le_refl _) (by omega) (by omega)
    rw [sl_0] at key
    exact key
  · have hbad := hok
    refine r_aload_n (pq := 1) C dX11_sure_0 rfl rfl ?_
    refine r_iload_n (pq := 2) C dX11_sure_1 rfl rfl ?_
    refine r_callV (pq := 5) C (mc_X11_isPerson hI1 o0) o0 rfl gX11_sure_X11_isPerson rfl (na := 1) (by decide +kernel) rfl (by decide) (by decide) (Nat.le_of_ble_eq_true rfl) ⟨Nat.zero_le _, Nat.zero_le _⟩ dX11_sure_2 rfl rfl (fun r9 w hq => ?_)
    obtain ⟨rfl, rfl⟩ := hq
    dsimp only [Option.toList, List.cons_append, List.nil_append]
    have l2 := b2_lt (rg x (s.1 1))
    refine rN_if_eq (tg := 16) (pq := 8) C dX11_sure_5 (by decide) rfl (by omega) (fun c5 => ?_) (fun c5 => ?_)
    · refine r_iconst (v := (-1)) (pq := 17) C dX11_sure_16 (by decide) rfl ?_
      refine r_iret C D rfl ⟨Nat.le_refl _, Nat.le_refl _⟩ dX11_sure_17 ?_
      refine ⟨?_, fun _ _ => rfl, B, rfl, ?_⟩
      · unfold rs_sure
        rw [if_neg hbad]
      · exact hN
    · refine r_iload_n (pq := 9) C dX11_sure_8 rfl rfl ?_
      refine r_iload_n (pq := 10) C dX11_sure_9 rfl rfl ?_
      refine r_callS (pq := 13) C (mc_X11_areDays) gX11_sure_X11_areDays rfl (na := 2) (by decide +kernel) rfl (by decide) (by decide) (Nat.le_of_ble_eq_true rfl) ⟨Nat.zero_le _, Nat.zero_le _⟩ dX11_sure_10 rfl rfl (fun r9 w hq => ?_)
      obtain ⟨rfl, rfl⟩ := hq
      dsimp only [Option.toList, List.cons_append, List.nil_append]
      have l10 := b2_lt (okDays v u)
      refine rN_if_ne (tg := 18) (pq := 16) C dX11_sure_13 (by decide) rfl (by omega) (fun c13 => ?_) (fun c13 => ?_)
      · exact absurd ⟨b2_1.mp c5, b2_1.mp c13⟩ hbad
      · refine r_iconst (v := (-1)) (pq := 17) C dX11_sure_16 (by decide) rfl ?_
        refine r_iret C D rfl ⟨Nat.le_refl _, Nat.le_refl _⟩ dX11_sure_17 ?_
        refine ⟨?_, fun _ _ => rfl, B, rfl, ?_⟩
        · unfold rs_sure
          rw [if_neg hbad]
        · exact hN


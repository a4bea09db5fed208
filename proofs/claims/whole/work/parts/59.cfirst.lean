/-! ===== the class's calls: kept, first, broken ===== -/
theorem wsm_lt {h : Nat → Nat} (hh : ∀ i, h i ≤ 1) {R e : Nat} (he : e < 1000000) : wsm h R e < 1000000 := by have := wsm_le hh R e; omega

set_option maxHeartbeats 4000000 in
set_option maxRecDepth 100000 in
/-- firstAtMost -/
theorem mc_X11_firstAtMost {l : Launch} {E : EV} {w : RW} {r rh rr a ar k9 l9 n9 r9 ah ae v9 a9 wd : Nat} {z9 x y : Int32} {h9 : Nat → Int32} {c : Nat → Nat} (hk : k9 < 4) (hn : n9 ≤ 200) (hR : r9 = if k9 = 0 ∨ k9 = 2 then wd else n9 + 1) (hv : v9 < 2) (ha : a9 < 400) (hl : l9 < 8) (h1 : 1 ≤ r9) (h2 : r9 ≤ 201) (hrr : rr ≠ rh) (hrh : r ≠ rh) (hc : ∀ i, i < 400 → h9 i = nI (c i) ∧ c i < 1000000) (hrw : w rr = rowC E ar h9) (hr : w r = lC (lwC k9) a l9 n9 r9 ah ae z9) (hh : w rh = tCz ah l9 x y) : MC l E yX11_firstAtMost wsX11_firstAtMost 3 0 0 [.int (nI v9), .ref a, .ref ar, .int (nI a9)] (w) (fun v w' => v = some (.int (if fst (kp k9 n9 l9 wd c) (v9 + 1) (400 - a9) (a9) = 400 then -2 else nI (fst (kp k9 n9 l9 wd c) (v9 + 1) (400 - a9) (a9)))) ∧ ∃ x y, w' = va_up w rh (tCz ah l9 x y)) := by
  refine MC.enter (cc := cX11_firstAtMost) (maxL := 5) (ret := (some .int)) (lv0 := [some (.int (nI v9)), some (.ref a), some (.ref ar), some (.int (nI a9)), none]) (by decide) rfl (by simp [Value.category]) (Nat.le_of_ble_eq_true rfl) rfl ?_
  intro X hl hE C D
  subst hl
  subst hE
  have mid : ∀ e, a9 ≤ e → e < 400 → fst (kp k9 n9 l9 wd c) (v9 + 1) (400 - a9) (a9) = fst (kp k9 n9 l9 wd c) (v9 + 1) (400 - e) (e) → (fst (kp k9 n9 l9 wd c) (v9 + 1) (400 - a9) (a9) = fst (kp k9 n9 l9 wd c) (v9 + 1) (400 - (e + 1)) (e + 1) → GG X (va_up w rh (tC ah l9 (wsm (lq l9 c) r9 (if e + 1 = a9 then a9 + 1 else e + 1)) (wsm (mq l9 c) r9 (if e + 1 = a9 then a9 + 1 else e + 1)))) 0 0 9 [some (.int (nI v9)), some (.ref a), some (.ref ar), some (.int (nI a9)), some (.int (nI (e + 1)))] []) → GG X (va_up w rh (tC ah l9 (wsm (lq l9 c) r9 (e + 1)) (wsm (mq l9 c) r9 (e + 1)))) 0 0 30 [some (.int (nI v9)), some (.ref a), some (.ref ar), some (.int (nI a9)), some (.int (nI (e)))] [] := by
    intro e hae he hfe nxt
    rw [if_neg (by omega)] at nxt
    have hr1 : (va_up w rh (tC ah l9 (wsm (lq l9 c) r9 (e + 1)) (wsm (mq l9 c) r9 (e + 1)))) r = lC (lwC k9) a l9 n9 r9 ah ae z9 := (va_n _ _ hrh).trans hr
    have hvd := vd_kp (n := n9) (l := l9) (wd := wd) (d := e) (c := c) hk
    rw [← hR] at hvd
    refine r_aload_n (pq := 31) C dX11_firstAtMost_30 rfl rfl ?_
    refine r_aload_n (pq := 32) C dX11_firstAtMost_31 rfl rfl ?_
    refine r_getW (pq := 35) C (lwC_W k9) 3 hr1 (by decide) (by decide +kernel) rfl rfl dX11_firstAtMost_32 rfl ?_
    refine r_iload (pq := 37) C dX11_firstAtMost_35 rfl rfl ?_
    refine r_verdict (pq := 40) C hk hn (wsm_lt (lq_le _ _) (by omega)) (wsm_lt (mq_le _ _) (by omega)) he hr1 (va_s _ _ _) gX11_firstAtMost_X9_verdict gX11_firstAtMost_X9_verdict_u200X7 gX11_firstAtMost_X3_verdict_u200X3 gX11_firstAtMost_X0_verdict_u200X0 (by decide +kernel) (by decide) (Nat.le_of_ble_eq_true rfl) ⟨Nat.zero_le _, Nat.zero_le _⟩ dX11_firstAtMost_37 rfl ?_
    rw [hvd]
    have hkl := kp_le k9 n9 l9 wd c e
    refine r_iload_n (pq := 41) C dX11_firstAtMost_40 rfl rfl ?_
    refine rN_icmp_gt (tg := 47) (pq := 44) C dX11_firstAtMost_41 (by decide) rfl (by omega) (by omega) (fun c41 => ?_) (fun c41 => ?_)
    · refine rN_iinc (c := 1) (pq := 50) C dX11_firstAtMost_47 rfl (by decide) (by decide) rfl rfl ?_
      dsimp only [List.set]
      refine r_goto (tg := 9) C dX11_firstAtMost_50 (by decide) ?_
      exact nxt (by rw [hfe, show 400 - e = (400 - (e + 1)) + 1 by omega]; exact if_neg (by omega))
    · refine r_iload (pq := 46) C dX11_firstAtMost_44 rfl rfl ?_
      refine r_iret C D rfl ⟨Nat.le_refl _, Nat.le_refl _⟩ dX11_firstAtMost_46 ?_
      refine ⟨?_, _, _, rfl⟩
      have e9 : fst (kp k9 n9 l9 wd c) (v9 + 1) (400 - e) e = e := by
        rw [show 400 - e = (399 - e) + 1 by omega]
        unfold fst
        rw [if_pos (by omega)]
      rw [hfe, e9, if_neg (by omega)]
  have loop : ∀ (t e : Nat), a9 ≤ e → e ≤ 400 → fst (kp k9 n9 l9 wd c) (v9 + 1) (400 - a9) (a9) = fst (kp k9 n9 l9 wd c) (v9 + 1) (400 - e) (e) → 400 - e < t → GG X (va_up w rh (tC ah l9 (wsm (lq l9 c) r9 (if e = a9 then a9 + 1 else e)) (wsm (mq l9 c) r9 (if e = a9 then a9 + 1 else e)))) 0 0 9 [some (.int (nI v9)), some (.ref a), some (.ref ar), some (.int (nI a9)), some (.int (nI (e)))] [] := by
    intro t
    induction t with
    | zero => intro e h1 h2 h3 h4; omega
    | succ t ih =>
      intro e hae he hfe ht
      have hr1 : (va_up w rh (tC ah l9 (wsm (lq l9 c) r9 (if e = a9 then a9 + 1 else e)) (wsm (mq l9 c) r9 (if e = a9 then a9 + 1 else e)))) r = lC (lwC k9) a l9 n9 r9 ah ae z9 := (va_n _ _ hrh).trans hr
      have hrw1 : (va_up w rh (tC ah l9 (wsm (lq l9 c) r9 (if e = a9 then a9 + 1 else e)) (wsm (mq l9 c) r9 (if e = a9 then a9 + 1 else e)))) rr = rowC (xE X) ar h9 := (va_n _ _ hrr).trans hrw
      have hT : a9 < e → (va_up w rh (tC ah l9 (wsm (lq l9 c) r9 (if e = a9 then a9 + 1 else e)) (wsm (mq l9 c) r9 (if e = a9 then a9 + 1 else e)))) rh = tC ah l9 (wsm (lq l9 c) r9 e) (wsm (mq l9 c) r9 e) := fun q => by rw [va_s, if_neg (by omega)]
      refine r_iload (pq := 11) C dX11_firstAtMost_9 rfl rfl ?_
      refine r_sipush (v := nI 400) (pq := 14) C dX11_firstAtMost_11 (by decide) rfl ?_
      refine rN_icmp_ge (tg := 53) (pq := 17) C dX11_firstAtMost_14 (by decide) rfl (by omega) (by omega) (fun c14 => ?_) (fun c14 => ?_)
      · refine r_bipush (v := (-2)) (pq := 55) C dX11_firstAtMost_53 (by decide) rfl ?_
        refine r_iret C D rfl ⟨Nat.le_refl _, Nat.le_refl _⟩ dX11_firstAtMost_55 ?_
        refine ⟨?_, _, _, rfl⟩
        have e9 : e = 400 := by omega
        rw [hfe, e9]
        rfl
      · refine r_iload (pq := 19) C dX11_firstAtMost_17 rfl rfl ?_
        refine r_iload_n (pq := 20) C dX11_firstAtMost_19 rfl rfl ?_
        refine rN_icmp_le (tg := 30) (pq := 23) C dX11_firstAtMost_20 (by decide) rfl (by omega) (by omega) (fun c20 => ?_) (fun c20 => ?_)
        have e9 : e = a9 := by omega
        subst e9
        rw [if_pos rfl]
        exact mid e (by omega) (by omega) hfe (fun q => ih (e + 1) (by omega) (by omega) q (by omega))
        · refine r_aload_n (pq := 24) C dX11_firstAtMost_23 rfl rfl ?_
          refine r_aload_n (pq := 25) C dX11_firstAtMost_24 rfl rfl ?_
          refine r_iload (pq := 27) C dX11_firstAtMost_25 rfl rfl ?_
          refine r_callW (pq := 30) C (mc_X9_moveTo (rr := rr) (rh := rh) (c := c) (lwC_W k9) hl h1 h2 hrr hc hrw1 hrh hr1 (hT c20) (by omega)) (lwC_W k9) hr1 gX11_firstAtMost_X9_moveTo gX11_firstAtMost_X9_moveTo_u226X7 gX11_firstAtMost_X9_moveTo_u226X3 gX11_firstAtMost_X9_moveTo_u226X0 rfl rfl (na := 2) (by decide +kernel) (by decide +kernel) rfl (by decide) (by decide) (Nat.le_of_ble_eq_true rfl) ⟨Nat.zero_le _, Nat.zero_le _⟩ dX11_firstAtMost_27 rfl rfl (fun r9 w9 hq => ?_)
          obtain ⟨rfl, rfl⟩ := hq
          dsimp only [Option.toList, List.nil_append]
          refine GG.cast (bx_uu _ _ _ _) ?_
          exact mid e (by omega) (by omega) hfe (fun q => ih (e + 1) (by omega) (by omega) q (by omega))
  refine r_aload_n (pq := 1) C dX11_firstAtMost_0 rfl rfl ?_
  refine r_aload_n (pq := 2) C dX11_firstAtMost_1 rfl rfl ?_
  refine r_iload_n (pq := 3) C dX11_firstAtMost_2 rfl rfl ?_
  refine r_callW (pq := 6) C (mc_X9_lookAt (rr := rr) (rh := rh) (c := c) (e9 := a9 + 1) (lwC_W k9) hl h1 h2 hrr hc hrw hr hh (by omega) (by rw [nI_toInt (by omega)]; omega)) (lwC_W k9) hr gX11_firstAtMost_X9_lookAt gX11_firstAtMost_X9_lookAt_u193X7 gX11_firstAtMost_X9_lookAt_u193X3 gX11_firstAtMost_X9_lookAt_u193X0 rfl rfl (na := 2) (by decide +kernel) (by decide +kernel) rfl (by decide) (by decide) (Nat.le_of_ble_eq_true rfl) ⟨Nat.zero_le _, Nat.zero_le _⟩ dX11_firstAtMost_3 rfl rfl (fun r9 w9 hq => ?_)
  obtain ⟨rfl, rfl⟩ := hq
  dsimp only [Option.toList, List.nil_append]
  refine r_iload_n (pq := 7) C dX11_firstAtMost_6 rfl rfl ?_
  refine r_istore (j := 4) (pq := 9) C dX11_firstAtMost_7 rfl (by decide) rfl rfl ?_
  dsimp only [List.set]
  have key := loop (401 - a9) a9 (Nat.le_refl _) (by omega) rfl (by omega)
  rw [if_pos rfl] at key
  exact key

set_option maxHeartbeats 4000000 in
set_option maxRecDepth 100000 in
/-- kept -/
theorem mc_X11_kept {l : Launch} {E : EV} {w : RW} {B : Nat → Nat} {s : ST} (hS : SI s) (hN : NS E B s w) {x y z : Int32} : MC l E yX11_kept wsX11_kept 4 0 0 [.ref (B 0), .int x, .int y, .int z] (w) (nP E B w (rs_kept s x y z) s) := by
  refine MC.enter (cc := cX11_kept) (maxL := 5) (ret := (some .int)) (lv0 := [some (.ref (B 0)), some (.int x), some (.int y), some (.int z), none]) (by decide) rfl (by simp [Value.category]) (Nat.le_of_ble_eq_true rfl) rfl ?_
  intro X hl hE C D
  subst hl
  subst hE
  have hI1 : s.1 1 ≤ 6 := hS.2.1
  have hI5 : s.1 5 ≤ 80 := hS.2.2.1
  have hI16 : s.1 16 ≤ 12 := hS.2.2.2.1
  have hNN := hN
  obtain ⟨o0, ⟨u1, e1, f1⟩, ⟨u2, e2, f2⟩, ⟨u3, e3, f3⟩, ⟨u5, e5, f5⟩, ⟨u6, e6, f6⟩, ⟨u8, e8, f8⟩, ⟨u10, e10, f10⟩, ⟨u11, e11, f11⟩, ⟨u13, e13, f13⟩, ⟨u14, e14, f14⟩, ⟨u15, e15⟩, ⟨u16, e16⟩, h20, h30, h100, h200, h220, h240, h300, h310⟩ := hNN
  by_cases hok : okKept s x y z
  · obtain ⟨j, hj, rfl⟩ := rg_of hok.1 (by omega)
    obtain ⟨p, hp, rfl⟩ := rg_of hok.2.1 (by omega)
    obtain ⟨e, he, rfl⟩ := rg_of hok.2.2 (by omega)
    obtain ⟨h9, a1, a2⟩ := h20 p (by omega)
    have hlw := hS.2.2.2.2.2.2.1 j hj
    obtain ⟨z9, hr⟩ := h200 j hj
    obtain ⟨x1, y1, hh⟩ := h220 j hj
    have hrc := rch_rng hlw
    refine r_aload_n (pq := 1) C dX11_kept_0 rfl rfl ?_
    refine r_iload_n (pq := 2) C dX11_kept_1 rfl rfl ?_
    refine r_callV (pq := 5) C (mc_X11_lawAt hI16 o0 e8 f8) o0 rfl gX11_kept_X11_lawAt rfl (na := 1) (by decide +kernel) rfl (by decide) (by decide) (Nat.le_of_ble_eq_true rfl) ⟨Nat.zero_le _, Nat.zero_le _⟩ dX11_kept_2 rfl rfl (fun r9 w hq => ?_)
    obtain ⟨rfl, rfl⟩ := hq
    dsimp only [Option.toList, List.cons_append, List.nil_append]
    rw [if_pos hok.1, tn_nI (by omega)]
    refine r_astore (j := 4) (pq := 7) C dX11_kept_5 rfl (by decide) rfl rfl ?_
    dsimp only [List.set]
    refine r_aload (pq := 9) C dX11_kept_7 rfl rfl ?_
    refine r_ifnull (pq := 12) C dX11_kept_9 rfl ?_
    refine r_aload_n (pq := 13) C dX11_kept_12 rfl rfl ?_
    refine r_iload_n (pq := 14) C dX11_kept_13 rfl rfl ?_
    refine r_callV (pq := 17) C (mc_X11_isPerson hI1 o0) o0 rfl gX11_kept_X11_isPerson rfl (na := 1) (by decide +kernel) rfl (by decide) (by decide) (Nat.le_of_ble_eq_true rfl) ⟨Nat.zero_le _, Nat.zero_le _⟩ dX11_kept_14 rfl rfl (fun r9 w hq => ?_)
    obtain ⟨rfl, rfl⟩ := hq
    dsimp only [Option.toList, List.cons_append, List.nil_append]
    have l14 := b2_lt (rg (nI p) (s.1 1))
    refine rN_if_eq (tg := 27) (pq := 20) C dX11_kept_17 (by decide) rfl (by omega) (fun c17 => absurd c17 (b2_1.mpr hok.2.1)) (fun c17 => ?_)
    refine r_iload_n (pq := 21) C dX11_kept_20 rfl rfl ?_
    refine r_callS (pq := 24) C (mc_X11_isDay) gX11_kept_X11_isDay rfl (na := 1) (by decide +kernel) rfl (by decide) (by decide) (Nat.le_of_ble_eq_true rfl) ⟨Nat.zero_le _, Nat.zero_le _⟩ dX11_kept_21 rfl rfl (fun r9 w hq => ?_)
    obtain ⟨rfl, rfl⟩ := hq
    dsimp only [Option.toList, List.cons_append, List.nil_append]
    have l21 := b2_lt (rg (nI e) 400)
    refine rN_if_ne (tg := 29) (pq := 27) C dX11_kept_24 (by decide) rfl (by omega) (fun c24 => ?_) (fun c24 => absurd c24 (b2_1.mpr hok.2.2))
    refine r_aload (pq := 31) C dX11_kept_29 rfl rfl ?_
    refine r_aload_n (pq := 32) C dX11_kept_31 rfl rfl ?_
    refine r_getf (pq := 35) C 4 o0 rfl (by decide) (by decide +kernel) (Or.inl rfl) rfl dX11_kept_32 rfl ?_
    refine r_iload_n (pq := 36) C dX11_kept_35 rfl rfl ?_
    refine rN_aaldS (pq := 37) C 8 rfl rfl e5 (by omega) (by decide) (f5 p (by omega)) dX11_kept_36 rfl ?_
    refine r_iload_n (pq := 38) C dX11_kept_37 rfl rfl ?_
    refine r_callW (pq := 41) C (mc_X9_lookAt (rr := 20 + p) (rh := 220 + j) (c := cr s p) (e9 := e + 1) (lwC_W _) hlw.2.1 hrc.1 hrc.2 (by omega) (row_ok (a2 hp)) a1 hr hh (by omega) (by rw [nI_toInt (by omega)]; omega)) (lwC_W _) hr gX11_kept_X9_lookAt gX11_kept_X9_lookAt_u193X7 gX11_kept_X9_lookAt_u193X3 gX11_kept_X9_lookAt_u193X0 rfl rfl (na := 2) (by decide +kernel) (by decide +kernel) rfl (by decide) (by decide) (Nat.le_of_ble_eq_true rfl) ⟨Nat.zero_le _, Nat.zero_le _⟩ dX11_kept_38 rfl rfl (fun r9 w9 hq => ?_)
    obtain ⟨rfl, rfl⟩ := hq
    dsimp only [Option.toList, List.nil_append]
    refine r_aload (pq := 43) C dX11_kept_41 rfl rfl ?_
    refine r_aload (pq := 45) C dX11_kept_43 rfl rfl ?_
    refine r_getW (pq := 48) C (lwC_W _) 3 ((va_n _ _ (by omega)).trans hr) (by decide) (by decide +kernel) rfl rfl dX11_kept_45 rfl ?_
    refine r_iload_n (pq := 49) C dX11_kept_48 rfl rfl ?_
    refine r_verdict (pq := 52) C hlw.1 hlw.2.2.1 (wsm_lt (lq_le _ _) (by omega)) (wsm_lt (mq_le _ _) (by omega)) he ((va_n _ _ (by omega)).trans hr) (va_s _ _ _) gX11_kept_X9_verdict gX11_kept_X9_verdict_u200X7 gX11_kept_X3_verdict_u200X3 gX11_kept_X0_verdict_u200X0 (by decide +kernel) (by decide) (Nat.le_of_ble_eq_true rfl) ⟨Nat.zero_le _, Nat.zero_le _⟩ dX11_kept_49 rfl ?_
    rw [vd_kj hlw.1]
    refine r_iret C D rfl ⟨Nat.le_refl _, Nat.le_refl _⟩ dX11_kept_52 ?_
    refine ⟨?_, fun q hq => va_n _ _ (by omega), B, rfl, NS.s220 hN hI16 hI5 hj _ _⟩
    unfold rs_kept
    rw [if_pos hok, tn_nI (by omega), tn_nI (by omega), tn_nI (by omega)]
  · by_cases hj9 : rg x (s.1 16)
    · refine r_aload_n (pq := 1) C dX11_kept_0 rfl rfl ?_
      refine r_iload_n (pq := 2) C dX11_kept_1 rfl rfl ?_
      refine r_callV (pq := 5) C (mc_X11_lawAt hI16 o0 e8 f8) o0 rfl gX11_kept_X11_lawAt rfl (na := 1) (by decide +kernel) rfl (by decide) (by decide) (Nat.le_of_ble_eq_true rfl) ⟨Nat.zero_le _, Nat.zero_le _⟩ dX11_kept_2 rfl rfl (fun r9 w hq => ?_)
      obtain ⟨rfl, rfl⟩ := hq
      dsimp only [Option.toList, List.cons_append, List.nil_append]
      rw [if_pos hj9]
      refine r_astore (j := 4) (pq := 7) C dX11_kept_5 rfl (by decide) rfl rfl ?_
      dsimp only [List.set]
      refine r_aload (pq := 9) C dX11_kept_7 rfl rfl ?_
      refine r_ifnull (pq := 12) C dX11_kept_9 rfl ?_
      refine r_aload_n (pq := 13) C dX11_kept_12 rfl rfl ?_
      refine r_iload_n (pq := 14) C dX11_kept_13 rfl rfl ?_
      refine r_callV (pq := 17) C (mc_X11_isPerson hI1 o0) o0 rfl gX11_kept_X11_isPerson rfl (na := 1) (by decide +kernel) rfl (by decide) (by decide) (Nat.le_of_ble_eq_true rfl) ⟨Nat.zero_le _, Nat.zero_le _⟩ dX11_kept_14 rfl rfl (fun r9 w hq => ?_)
      obtain ⟨rfl, rfl⟩ := hq
      dsimp only [Option.toList, List.cons_append, List.nil_append]
      have l14 := b2_lt (rg y (s.1 1))
      refine rN_if_eq (tg := 27) (pq := 20) C dX11_kept_17 (by decide) rfl (by omega) (fun c17 => ?_) (fun c17 => ?_)
      · refine r_iconst (v := (-1)) (pq := 28) C dX11_kept_27 (by decide) rfl ?_
        refine r_iret C D rfl ⟨Nat.le_refl _, Nat.le_refl _⟩ dX11_kept_28 ?_
        refine ⟨?_, fun _ _ => rfl, B, rfl, ?_⟩
        · unfold rs_kept
          rw [if_neg hok]
        · exact hN
      · refine r_iload_n (pq := 21) C dX11_kept_20 rfl rfl ?_
        refine r_callS (pq := 24) C (mc_X11_isDay) gX11_kept_X11_isDay rfl (na := 1) (by decide +kernel) rfl (by decide) (by decide) (Nat.le_of_ble_eq_true rfl) ⟨Nat.zero_le _, Nat.zero_le _⟩ dX11_kept_21 rfl rfl (fun r9 w hq => ?_)
        obtain ⟨rfl, rfl⟩ := hq
        dsimp only [Option.toList, List.cons_append, List.nil_append]
        have l21 := b2_lt (rg z 400)
        refine rN_if_ne (tg := 29) (pq := 27) C dX11_kept_24 (by decide) rfl (by omega) (fun c24 => ?_) (fun c24 => ?_)
        · exact absurd ⟨hj9, b2_1.mp c17, b2_1.mp c24⟩ hok
        · refine r_iconst (v := (-1)) (pq := 28) C dX11_kept_27 (by decide) rfl ?_
          refine r_iret C D rfl ⟨Nat.le_refl _, Nat.le_refl _⟩ dX11_kept_28 ?_
          refine ⟨?_, fun _ _ => rfl, B, rfl, ?_⟩
          · unfold rs_kept
            rw [if_neg hok]
          · exact hN
    · refine r_aload_n (pq := 1) C dX11_kept_0 rfl rfl ?_
      refine r_iload_n (pq := 2) C dX11_kept_1 rfl rfl ?_
      refine r_callV (pq := 5) C (mc_X11_lawAt hI16 o0 e8 f8) o0 rfl gX11_kept_X11_lawAt rfl (na := 1) (by decide +kernel) rfl (by decide) (by decide) (Nat.le_of_ble_eq_true rfl) ⟨Nat.zero_le _, Nat.zero_le _⟩ dX11_kept_2 rfl rfl (fun r9 w hq => ?_)
      obtain ⟨rfl, rfl⟩ := hq
      dsimp only [Option.toList, List.cons_append, List.nil_append]
      rw [if_neg hj9]
      refine r_astoreN (j := 4) (pq := 7) C dX11_kept_5 rfl (by decide) rfl rfl ?_
      dsimp only [List.set]
      refine r_aloadN (pq := 9) C dX11_kept_7 rfl rfl ?_
      refine r_ifnullN (tg := 27) C dX11_kept_9 (by decide) ?_
      refine r_iconst (v := (-1)) (pq := 28) C dX11_kept_27 (by decide) rfl ?_
      refine r_iret C D rfl ⟨Nat.le_refl _, Nat.le_refl _⟩ dX11_kept_28 ?_
      refine ⟨?_, fun _ _ => rfl, B, rfl, ?_⟩
      · unfold rs_kept
        rw [if_neg hok]
      · exact hN

set_option maxHeartbeats 4000000 in
set_option maxRecDepth 100000 in
/-- first -/
theorem mc_X11_first {l : Launch} {E : EV} {w : RW} {B : Nat → Nat} {s : ST} (hS : SI s) (hN : NS E B s w) {x y z : Int32} {z9 : Nat} (hz9 : z9 < 2) : MC l E yX11_first wsX11_first 4 0 0 [.ref (B 0), .int x, .int y, .int z, .int (nI z9)] (w) (nP E B w (rs_first s x y z z9) s) := by
  refine MC.enter (cc := cX11_first) (maxL := 6) (ret := (some .int)) (lv0 := [some (.ref (B 0)), some (.int x), some (.int y), some (.int z), some (.int (nI z9)), none]) (by decide) rfl (by simp [Value.category]) (Nat.le_of_ble_eq_true rfl) rfl ?_
  intro X hl hE C D
  subst hl
  subst hE
  have hI1 : s.1 1 ≤ 6 := hS.2.1
  have hI5 : s.1 5 ≤ 80 := hS.2.2.1
  have hI16 : s.1 16 ≤ 12 := hS.2.2.2.1
  have hNN := hN
  obtain ⟨o0, ⟨u1, e1, f1⟩, ⟨u2, e2, f2⟩, ⟨u3, e3, f3⟩, ⟨u5, e5, f5⟩, ⟨u6, e6, f6⟩, ⟨u8, e8, f8⟩, ⟨u10, e10, f10⟩, ⟨u11, e11, f11⟩, ⟨u13, e13, f13⟩, ⟨u14, e14, f14⟩, ⟨u15, e15⟩, ⟨u16, e16⟩, h20, h30, h100, h200, h220, h240, h300, h310⟩ := hNN
  by_cases hok : okKept s x y z
  · obtain ⟨j, hj, rfl⟩ := rg_of hok.1 (by omega)
    obtain ⟨p, hp, rfl⟩ := rg_of hok.2.1 (by omega)
    obtain ⟨e, he, rfl⟩ := rg_of hok.2.2 (by omega)
    obtain ⟨h9, a1, a2⟩ := h20 p (by omega)
    have hlw := hS.2.2.2.2.2.2.1 j hj
    obtain ⟨zz, hr⟩ := h200 j hj
    obtain ⟨x1, y1, hh⟩ := h220 j hj
    have hrc := rch_rng hlw
    refine r_aload_n (pq := 1) C dX11_first_0 rfl rfl ?_
    refine r_iload_n (pq := 2) C dX11_first_1 rfl rfl ?_
    refine r_callV (pq := 5) C (mc_X11_lawAt hI16 o0 e8 f8) o0 rfl gX11_first_X11_lawAt rfl (na := 1) (by decide +kernel) rfl (by decide) (by decide) (Nat.le_of_ble_eq_true rfl) ⟨Nat.zero_le _, Nat.zero_le _⟩ dX11_first_2 rfl rfl (fun r9 w hq => ?_)
    obtain ⟨rfl, rfl⟩ := hq
    dsimp only [Option.toList, List.cons_append, List.nil_append]
    rw [if_pos hok.1, tn_nI (by omega)]
    refine r_astore (j := 5) (pq := 7) C dX11_first_5 rfl (by decide) rfl rfl ?_
    dsimp only [List.set]
    refine r_aload (pq := 9) C dX11_first_7 rfl rfl ?_
    refine r_ifnull (pq := 12) C dX11_first_9 rfl ?_
    refine r_aload_n (pq := 13) C dX11_first_12 rfl rfl ?_
    refine r_iload_n (pq := 14) C dX11_first_13 rfl rfl ?_
    refine r_callV (pq := 17) C (mc_X11_isPerson hI1 o0) o0 rfl gX11_first_X11_isPerson rfl (na := 1) (by decide +kernel) rfl (by decide) (by decide) (Nat.le_of_ble_eq_true rfl) ⟨Nat.zero_le _, Nat.zero_le _⟩ dX11_first_14 rfl rfl (fun r9 w hq => ?_)
    obtain ⟨rfl, rfl⟩ := hq
    dsimp only [Option.toList, List.cons_append, List.nil_append]
    have l14 := b2_lt (rg (nI p) (s.1 1))
    refine rN_if_eq (tg := 27) (pq := 20) C dX11_first_17 (by decide) rfl (by omega) (fun c17 => absurd c17 (b2_1.mpr hok.2.1)) (fun c17 => ?_)
    refine r_iload_n (pq := 21) C dX11_first_20 rfl rfl ?_
    refine r_callS (pq := 24) C (mc_X11_isDay) gX11_first_X11_isDay rfl (na := 1) (by decide +kernel) rfl (by decide) (by decide) (Nat.le_of_ble_eq_true rfl) ⟨Nat.zero_le _, Nat.zero_le _⟩ dX11_first_21 rfl rfl (fun r9 w hq => ?_)
    obtain ⟨rfl, rfl⟩ := hq
    dsimp only [Option.toList, List.cons_append, List.nil_append]
    have l21 := b2_lt (rg (nI e) 400)
    refine rN_if_ne (tg := 29) (pq := 27) C dX11_first_24 (by decide) rfl (by omega) (fun c24 => ?_) (fun c24 => absurd c24 (b2_1.mpr hok.2.2))
    refine r_iload (pq := 31) C dX11_first_29 rfl rfl ?_
    refine rN_if_eq (tg := 38) (pq := 34) C dX11_first_31 (by decide) rfl (by omega) (fun c31 => ?_) (fun c31 => ?_)
    · refine r_iconst (v := nI 1) (pq := 39) C dX11_first_38 (by decide) rfl ?_
      refine r_aload (pq := 41) C dX11_first_39 rfl rfl ?_
      refine r_aload_n (pq := 42) C dX11_first_41 rfl rfl ?_
      refine r_getf (pq := 45) C 4 o0 rfl (by decide) (by decide +kernel) (Or.inl rfl) rfl dX11_first_42 rfl ?_
      refine r_iload_n (pq := 46) C dX11_first_45 rfl rfl ?_
      refine rN_aaldS (pq := 47) C 8 rfl rfl e5 (by omega) (by decide) (f5 p (by omega)) dX11_first_46 rfl ?_
      refine r_iload_n (pq := 48) C dX11_first_47 rfl rfl ?_
      refine r_callS (pq := 51) C (mc_X11_firstAtMost (rr := 20 + p) (r := 200 + j) (rh := 220 + j) (c := cr s p) (v9 := 1) (a9 := e) (wd := tn (s.2.2 20 j)) hlw.1 hlw.2.2.1 rfl (by decide) (by omega) hlw.2.1 hrc.1 hrc.2 (by omega) (by omega) (row_ok (a2 hp)) a1 hr hh) gX11_first_X11_firstAtMost rfl (na := 4) (by decide +kernel) rfl (by decide) (by decide) (Nat.le_of_ble_eq_true rfl) ⟨Nat.zero_le _, Nat.zero_le _⟩ dX11_first_48 rfl rfl (fun r9 w9 hq => ?_)
      obtain ⟨rfl, x2, y2, rfl⟩ := hq
      dsimp only [Option.toList, List.cons_append, List.nil_append]
      refine r_iret C D rfl ⟨Nat.le_refl _, Nat.le_refl _⟩ dX11_first_51 ?_
      refine ⟨?_, fun q hq => va_n _ _ (by omega), B, rfl, NS.s220 hN hI16 hI5 hj _ _⟩
      unfold rs_first
      rw [if_pos hok, tn_nI (by omega), tn_nI (by omega), tn_nI (by omega), if_pos c31]
      rfl
    · refine r_iconst (v := nI 0) (pq := 35) C dX11_first_34 (by decide) rfl ?_
      refine r_goto (tg := 39) C dX11_first_35 (by decide) ?_
      refine r_aload (pq := 41) C dX11_first_39 rfl rfl ?_
      refine r_aload_n (pq := 42) C dX11_first_41 rfl rfl ?_
      refine r_getf (pq := 45) C 4 o0 rfl (by decide) (by decide +kernel) (Or.inl rfl) rfl dX11_first_42 rfl ?_
      refine r_iload_n (pq := 46) C dX11_first_45 rfl rfl ?_
      refine rN_aaldS (pq := 47) C 8 rfl rfl e5 (by omega) (by decide) (f5 p (by omega)) dX11_first_46 rfl ?_
      refine r_iload_n (pq := 48) C dX11_first_47 rfl rfl ?_
      refine r_callS (pq := 51) C (mc_X11_firstAtMost (rr := 20 + p) (r := 200 + j) (rh := 220 + j) (c := cr s p) (v9 := 0) (a9 := e) (wd := tn (s.2.2 20 j)) hlw.1 hlw.2.2.1 rfl (by decide) (by omega) hlw.2.1 hrc.1 hrc.2 (by omega) (by omega) (row_ok (a2 hp)) a1 hr hh) gX11_first_X11_firstAtMost rfl (na := 4) (by decide +kernel) rfl (by decide) (by decide) (Nat.le_of_ble_eq_true rfl) ⟨Nat.zero_le _, Nat.zero_le _⟩ dX11_first_48 rfl rfl (fun r9 w9 hq => ?_)
      obtain ⟨rfl, x2, y2, rfl⟩ := hq
      dsimp only [Option.toList, List.cons_append, List.nil_append]
      refine r_iret C D rfl ⟨Nat.le_refl _, Nat.le_refl _⟩ dX11_first_51 ?_
      refine ⟨?_, fun q hq => va_n _ _ (by omega), B, rfl, NS.s220 hN hI16 hI5 hj _ _⟩
      unfold rs_first
      rw [if_pos hok, tn_nI (by omega), tn_nI (by omega), tn_nI (by omega), if_neg c31]
      rfl
  · by_cases hj9 : rg x (s.1 16)
    · refine r_aload_n (pq := 1) C dX11_first_0 rfl rfl ?_
      refine r_iload_n (pq := 2) C dX11_first_1 rfl rfl ?_
      refine r_callV (pq := 5) C (mc_X11_lawAt hI16 o0 e8 f8) o0 rfl gX11_first_X11_lawAt rfl (na := 1) (by decide +kernel) rfl (by decide) (by decide) (Nat.le_of_ble_eq_true rfl) ⟨Nat.zero_le _, Nat.zero_le _⟩ dX11_first_2 rfl rfl (fun r9 w hq => ?_)
      obtain ⟨rfl, rfl⟩ := hq
      dsimp only [Option.toList, List.cons_append, List.nil_append]
      rw [if_pos hj9]
      refine r_astore (j := 5) (pq := 7) C dX11_first_5 rfl (by decide) rfl rfl ?_
      dsimp only [List.set]
      refine r_aload (pq := 9) C dX11_first_7 rfl rfl ?_
      refine r_ifnull (pq := 12) C dX11_first_9 rfl ?_
      refine r_aload_n (pq := 13) C dX11_first_12 rfl rfl ?_
      refine r_iload_n (pq := 14) C dX11_first_13 rfl rfl ?_
      refine r_callV (pq := 17) C (mc_X11_isPerson hI1 o0) o0 rfl gX11_first_X11_isPerson rfl (na := 1) (by decide +kernel) rfl (by decide) (by decide) (Nat.le_of_ble_eq_true rfl) ⟨Nat.zero_le _, Nat.zero_le _⟩ dX11_first_14 rfl rfl (fun r9 w hq => ?_)
      obtain ⟨rfl, rfl⟩ := hq
      dsimp only [Option.toList, List.cons_append, List.nil_append]
      have l14 := b2_lt (rg y (s.1 1))
      refine rN_if_eq (tg := 27) (pq := 20) C dX11_first_17 (by decide) rfl (by omega) (fun c17 => ?_) (fun c17 => ?_)
      · refine r_iconst (v := (-1)) (pq := 28) C dX11_first_27 (by decide) rfl ?_
        refine r_iret C D rfl ⟨Nat.le_refl _, Nat.le_refl _⟩ dX11_first_28 ?_
        refine ⟨?_, fun _ _ => rfl, B, rfl, ?_⟩
        · unfold rs_first
          rw [if_neg hok]
        · exact hN
      · refine r_iload_n (pq := 21) C dX11_first_20 rfl rfl ?_
        refine r_callS (pq := 24) C (mc_X11_isDay) gX11_first_X11_isDay rfl (na := 1) (by decide +kernel) rfl (by decide) (by decide) (Nat.le_of_ble_eq_true rfl) ⟨Nat.zero_le _, Nat.zero_le _⟩ dX11_first_21 rfl rfl (fun r9 w hq => ?_)
        obtain ⟨rfl, rfl⟩ := hq
        dsimp only [Option.toList, List.cons_append, List.nil_append]
        have l21 := b2_lt (rg z 400)
        refine rN_if_ne (tg := 29) (pq := 27) C dX11_first_24 (by decide) rfl (by omega) (fun c24 => ?_) (fun c24 => ?_)
        · exact absurd ⟨hj9, b2_1.mp c17, b2_1.mp c24⟩ hok
        · refine r_iconst (v := (-1)) (pq := 28) C dX11_first_27 (by decide) rfl ?_
          refine r_iret C D rfl ⟨Nat.le_refl _, Nat.le_refl _⟩ dX11_first_28 ?_
          refine ⟨?_, fun _ _ => rfl, B, rfl, ?_⟩
          · unfold rs_first
            rw [if_neg hok]
          · exact hN
    · refine r_aload_n (pq := 1) C dX11_first_0 rfl rfl ?_
      refine r_iload_n (pq := 2) C dX11_first_1 rfl rfl ?_
      refine r_callV (pq := 5) C (mc_X11_lawAt hI16 o0 e8 f8) o0 rfl gX11_first_X11_lawAt rfl (na := 1) (by decide +kernel) rfl (by decide) (by decide) (Nat.le_of_ble_eq_true rfl) ⟨Nat.zero_le _, Nat.zero_le _⟩ dX11_first_2 rfl rfl (fun r9 w hq => ?_)
      obtain ⟨rfl, rfl⟩ := hq
      dsimp only [Option.toList, List.cons_append, List.nil_append]
      rw [if_neg hj9]
      refine r_astoreN (j := 5) (pq := 7) C dX11_first_5 rfl (by decide) rfl rfl ?_
      dsimp only [List.set]
      refine r_aloadN (pq := 9) C dX11_first_7 rfl rfl ?_
      refine r_ifnullN (tg := 27) C dX11_first_9 (by decide) ?_
      refine r_iconst (v := (-1)) (pq := 28) C dX11_first_27 (by decide) rfl ?_
      refine r_iret C D rfl ⟨Nat.le_refl _, Nat.le_refl _⟩ dX11_first_28 ?_
      refine ⟨?_, fun _ _ => rfl, B, rfl, ?_⟩
      · unfold rs_first
        rw [if_neg hok]
      · exact hN

set_option maxHeartbeats 4000000 in
set_option maxRecDepth 100000 in
/-- broken -/
theorem mc_X11_broken {l : Launch} {E : EV} {w : RW} {B : Nat → Nat} {s : ST} (hS : SI s) (hN : NS E B s w) {x : Int32} : MC l E yX11_broken wsX11_broken 4 0 0 [.ref (B 0), .int x] (w) (nP E B w (rs_broken s x) (s)) := by
  refine MC.enter (cc := cX11_broken) (maxL := 5) (ret := (some .int)) (lv0 := [some (.ref (B 0)), some (.int x), none, none, none]) (by decide) rfl (by simp [Value.category]) (Nat.le_of_ble_eq_true rfl) rfl ?_
  intro X hl hE C D
  subst hl
  subst hE
  have hI1 : s.1 1 ≤ 6 := hS.2.1
  have hI5 : s.1 5 ≤ 80 := hS.2.2.1
  have hI16 : s.1 16 ≤ 12 := hS.2.2.2.1
  have hNN := hN
  obtain ⟨o0, ⟨u1, e1, f1⟩, ⟨u2, e2, f2⟩, ⟨u3, e3, f3⟩, ⟨u5, e5, f5⟩, ⟨u6, e6, f6⟩, ⟨u8, e8, f8⟩, ⟨u10, e10, f10⟩, ⟨u11, e11, f11⟩, ⟨u13, e13, f13⟩, ⟨u14, e14, f14⟩, ⟨u15, e15⟩, ⟨u16, e16⟩, h20, h30, h100, h200, h220, h240, h300, h310⟩ := hNN
  by_cases hok : rg x (s.1 1)
  · obtain ⟨p, hp, rfl⟩ := rg_of hok (by omega)
    have loop : ∀ (t i : Nat) (w1 : RW), i ≤ s.1 16 → s.1 16 - i < t → NS (xE X) B s w1 → (∀ q, 1000 ≤ q → w1 q = w q) → GG X w1 0 0 14 [some (.ref (B 0)), some (.int (nI p)), some (.int (nI (brk s (cr s p) i))), some (.int (nI i)), none] [] := by
      intro t
      induction t with
      | zero => intro i w1 h1 h2; omega
      | succ t ih =>
        intro i w1 hi ht hN1 hw1
        have hN2 := hN1
        obtain ⟨o0, ⟨u1, e1, f1⟩, ⟨u2, e2, f2⟩, ⟨u3, e3, f3⟩, ⟨u5, e5, f5⟩, ⟨u6, e6, f6⟩, ⟨u8, e8, f8⟩, ⟨u10, e10, f10⟩, ⟨u11, e11, f11⟩, ⟨u13, e13, f13⟩, ⟨u14, e14, f14⟩, ⟨u15, e15⟩, ⟨u16, e16⟩, h20, h30, h100, h200, h220, h240, h300, h310⟩ := hN2
        have hbk := brk_lt s (cr s p) i
        have hpw := pw12 (show i ≤ 12 by omega)
        refine r_iload_n (pq := 15) C dX11_broken_14 rfl rfl ?_
        refine r_aload_n (pq := 16) C dX11_broken_15 rfl rfl ?_
        refine r_getf (pq := 19) C 8 o0 rfl (by decide) (by decide +kernel) (Or.inl rfl) rfl dX11_broken_16 rfl ?_
        refine rN_icmp_ge (tg := 65) (pq := 22) C dX11_broken_19 (by decide) rfl (by omega) (by omega) (fun c19 => ?_) (fun c19 => ?_)
        · refine r_iload_n (pq := 66) C dX11_broken_65 rfl rfl ?_
          refine r_iret C D rfl ⟨Nat.le_refl _, Nat.le_refl _⟩ dX11_broken_66 ?_
          refine ⟨?_, hw1, B, rfl, hN1⟩
          unfold rs_broken
          have e9 : i = s.1 16 := by omega
          rw [if_pos hok, tn_nI (by omega), e9]
        · refine r_aload_n (pq := 23) C dX11_broken_22 rfl rfl ?_
          refine r_getf (pq := 26) C 7 o0 rfl (by decide) (by decide +kernel) (Or.inl rfl) rfl dX11_broken_23 rfl ?_
          refine r_iload_n (pq := 27) C dX11_broken_26 rfl rfl ?_
          refine rN_aaldS (pq := 28) C 5 rfl rfl e8 (by omega) (by decide) (f8 i c19) dX11_broken_27 rfl ?_
          have hlw := hS.2.2.2.2.2.2.1 i c19
          obtain ⟨z9, hr⟩ := h200 i c19
          obtain ⟨x1, y1, hh⟩ := h220 i c19
          have hrc := rch_rng hlw
          obtain ⟨h9, a1, a2⟩ := h20 p (by omega)
          refine r_astore (j := 4) (pq := 30) C dX11_broken_28 rfl (by decide) rfl rfl ?_
          dsimp only [List.set]
          refine r_aload (pq := 32) C dX11_broken_30 rfl rfl ?_
          refine r_ifnull (pq := 35) C dX11_broken_32 rfl ?_
          refine r_iconst (v := nI 0) (pq := 36) C dX11_broken_35 (by decide) rfl ?_
          refine r_aload (pq := 38) C dX11_broken_36 rfl rfl ?_
          refine r_aload_n (pq := 39) C dX11_broken_38 rfl rfl ?_
          refine r_getf (pq := 42) C 4 o0 rfl (by decide) (by decide +kernel) (Or.inl rfl) rfl dX11_broken_39 rfl ?_
          refine r_iload_n (pq := 43) C dX11_broken_42 rfl rfl ?_
          refine rN_aaldS (pq := 44) C 8 rfl rfl e5 (by omega) (by decide) (f5 p (by omega)) dX11_broken_43 rfl ?_
          refine r_iconst (v := nI 0) (pq := 45) C dX11_broken_44 (by decide) rfl ?_
          refine r_callS (pq := 48) C (mc_X11_firstAtMost (rr := 20 + p) (r := 200 + i) (rh := 220 + i) (c := cr s p) (v9 := 0) (a9 := 0) (wd := tn (s.2.2 20 i)) hlw.1 hlw.2.2.1 rfl (by decide) (by omega) hlw.2.1 hrc.1 hrc.2 (by omega) (by omega) (row_ok (a2 hp)) a1 hr hh) gX11_broken_X11_firstAtMost rfl (na := 4) (by decide +kernel) rfl (by decide) (by decide) (Nat.le_of_ble_eq_true rfl) ⟨Nat.zero_le _, Nat.zero_le _⟩ dX11_broken_45 rfl rfl (fun r9 w9 hq => ?_)
          obtain ⟨rfl, x2, y2, rfl⟩ := hq
          dsimp only [Option.toList, List.cons_append, List.nil_append]
          have hw9 := NS.s220 hN1 hI16 hI5 c19 x2 y2
          have hfg := fst_ge (kj s i (cr s p)) 1 400 0
          refine r_bipush (v := (-2)) (pq := 50) C dX11_broken_48 (by decide) rfl ?_
          refine r_icmp_eq (tg := 59) (pq := 53) C dX11_broken_50 (by decide) rfl (fun c50 => ?_) (fun c50 => ?_)
          · refine rN_iinc (c := 1) (pq := 62) C dX11_broken_59 rfl (by decide) (by decide) rfl rfl ?_
            dsimp only [List.set]
            refine r_goto (tg := 14) C dX11_broken_62 (by decide) ?_
            refine GG.fgt 4 ?_
            dsimp only [List.set]
            have key := ih (i + 1) _ (by omega) (by omega) hw9 (fun q hq => (va_n _ _ (by omega)).trans (hw1 q hq))
            have e9 : fst (kj s i (cr s p)) 1 400 0 = 400 := Decidable.byContradiction fun q => by
              rw [show fst (kp (s.2.1 17 i) (s.2.1 19 i) (s.2.1 18 i) (tn (s.2.2 20 i)) (cr s p)) (0 + 1) (400 - 0) 0 = fst (kj s i (cr s p)) 1 400 0 from rfl, if_neg q] at c50
              exact nI_ne_neg (by omega) (by decide) c50
            rw [show brk s (cr s p) (i + 1) = brk s (cr s p) i ||| (if fst (kj s i (cr s p)) 1 400 0 = 400 then 0 else 2 ^ i) from rfl, if_pos e9, Nat.or_zero] at key
            exact key
          · refine r_iload_n (pq := 54) C dX11_broken_53 rfl rfl ?_
            refine r_iconst (v := nI 1) (pq := 55) C dX11_broken_54 (by decide) rfl ?_
            refine r_iload_n (pq := 56) C dX11_broken_55 rfl rfl ?_
            refine rN_ishl (pq := 57) C dX11_broken_56 (by omega) (by omega) rfl ?_
            refine rN_ior (pq := 58) C dX11_broken_57 rfl ?_
            refine r_istore_n (j := 2) (pq := 59) C dX11_broken_58 rfl (by decide) rfl rfl ?_
            dsimp only [List.set]
            refine rN_iinc (c := 1) (pq := 62) C dX11_broken_59 rfl (by decide) (by decide) rfl rfl ?_
            dsimp only [List.set]
            refine r_goto (tg := 14) C dX11_broken_62 (by decide) ?_
            refine GG.fgt 4 ?_
            dsimp only [List.set]
            have key := ih (i + 1) _ (by omega) (by omega) hw9 (fun q hq => (va_n _ _ (by omega)).trans (hw1 q hq))
            have e9 : ¬ fst (kj s i (cr s p)) 1 400 0 = 400 := fun q => by
              rw [show fst (kp (s.2.1 17 i) (s.2.1 19 i) (s.2.1 18 i) (tn (s.2.2 20 i)) (cr s p)) (0 + 1) (400 - 0) 0 = fst (kj s i (cr s p)) 1 400 0 from rfl, if_pos q] at c50
              exact c50 rfl
            rw [show brk s (cr s p) (i + 1) = brk s (cr s p) i ||| (if fst (kj s i (cr s p)) 1 400 0 = 400 then 0 else 2 ^ i) from rfl, if_neg e9] at key
            rw [Nat.one_mul]
            exact key
    refine r_aload_n (pq := 1) C dX11_broken_0 rfl rfl ?_
    refine r_iload_n (pq := 2) C dX11_broken_1 rfl rfl ?_
    refine r_callV (pq := 5) C (mc_X11_isPerson hI1 o0) o0 rfl gX11_broken_X11_isPerson rfl (na := 1) (by decide +kernel) rfl (by decide) (by decide) (Nat.le_of_ble_eq_true rfl) ⟨Nat.zero_le _, Nat.zero_le _⟩ dX11_broken_2 rfl rfl (fun r9 w hq => ?_)
    obtain ⟨rfl, rfl⟩ := hq
    dsimp only [Option.toList, List.cons_append, List.nil_append]
    have l2 := b2_lt (rg (nI p) (s.1 1))
    refine rN_if_ne (tg := 10) (pq := 8) C dX11_broken_5 (by decide) rfl (by omega) (fun c5 => ?_) (fun c5 => absurd c5 (b2_1.mpr hok))
    refine r_iconst (v := nI 0) (pq := 11) C dX11_broken_10 (by decide) rfl ?_
    refine r_istore_n (j := 2) (pq := 12) C dX11_broken_11 rfl (by decide) rfl rfl ?_
    dsimp only [List.set]
    refine r_iconst (v := nI 0) (pq := 13) C dX11_broken_12 (by decide) rfl ?_
    refine r_istore_n (j := 3) (pq := 14) C dX11_broken_13 rfl (by decide) rfl rfl ?_
    dsimp only [List.set]
    exact loop (s.1 16 + 1) 0 w (Nat.zero_le _) (by omega) hN (fun _ _ => rfl)
  · have hbad := hok
    refine r_aload_n (pq := 1) C dX11_broken_0 rfl rfl ?_
    refine r_iload_n (pq := 2) C dX11_broken_1 rfl rfl ?_
    refine r_callV (pq := 5) C (mc_X11_isPerson hI1 o0) o0 rfl gX11_broken_X11_isPerson rfl (na := 1) (by decide +kernel) rfl (by decide) (by decide) (Nat.le_of_ble_eq_true rfl) ⟨Nat.zero_le _, Nat.zero_le _⟩ dX11_broken_2 rfl rfl (fun r9 w hq => ?_)
    obtain ⟨rfl, rfl⟩ := hq
    dsimp only [Option.toList, List.cons_append, List.nil_append]
    have l2 := b2_lt (rg x (s.1 1))
    refine rN_if_ne (tg := 10) (pq := 8) C dX11_broken_5 (by decide) rfl (by omega) (fun c5 => ?_) (fun c5 => ?_)
    · exact absurd (b2_1.mp c5) hbad
    · refine r_iconst (v := (-1)) (pq := 9) C dX11_broken_8 (by decide) rfl ?_
      refine r_iret C D rfl ⟨Nat.le_refl _, Nat.le_refl _⟩ dX11_broken_9 ?_
      refine ⟨?_, fun _ _ => rfl, B, rfl, ?_⟩
      · unfold rs_broken
        rw [if_neg hbad]
      · exact hN


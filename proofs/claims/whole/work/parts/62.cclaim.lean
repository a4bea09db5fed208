/-! ===== the class's calls: claims and treaties ===== -/
set_option maxHeartbeats 4000000 in
set_option maxRecDepth 100000 in
/-- claim -/
theorem mc_X11_claim {l : Launch} {E : EV} {w : RW} {B : Nat → Nat} {s : ST} (hS : SI s) (hN : NS E B s w) {x y : Int32} : MC l E yX11_claim wsX11_claim 1 0 0 [.ref (B 0), .int x, .int y] (w) (nP E B w (rs_claim s x y) (nx_claim s x y)) := by
  refine MC.enter (cc := cX11_claim) (maxL := 4) (ret := (some .int)) (lv0 := [some (.ref (B 0)), some (.int x), some (.int y), none]) (by decide) rfl (by simp [Value.category]) (Nat.le_of_ble_eq_true rfl) rfl ?_
  intro X hl hE C D
  subst hl
  subst hE
  have hI1 : s.1 1 ≤ 6 := hS.2.1
  have hI5 : s.1 5 ≤ 80 := hS.2.2.1
  have hI16 : s.1 16 ≤ 12 := hS.2.2.2.1
  have hNN := hN
  obtain ⟨o0, ⟨u1, e1, f1⟩, ⟨u2, e2, f2⟩, ⟨u3, e3, f3⟩, ⟨u5, e5, f5⟩, ⟨u6, e6, f6⟩, ⟨u8, e8, f8⟩, ⟨u10, e10, f10⟩, ⟨u11, e11, f11⟩, ⟨u13, e13, f13⟩, ⟨u14, e14, f14⟩, ⟨u15, e15⟩, ⟨u16, e16⟩, h20, h30, h100, h200, h220, h240, h300, h310⟩ := hNN
  by_cases hok : rg x 8 ∧ (1 ≤ y.toInt ∧ y.toInt ≤ 100)
  · obtain ⟨l9, hl9, rfl⟩ := rg_of hok.1 (by omega)
    obtain ⟨n9, hn1, hn2, rfl⟩ := in_of (a := 1) (b := 100) hok.2 (by omega)
    refine r_iload_n (pq := 1) C dX11_claim_0 rfl rfl ?_
    refine r_callS (pq := 4) C (mc_X11_isLand) gX11_claim_X11_isLand rfl (na := 1) (by decide +kernel) rfl (by decide) (by decide) (Nat.le_of_ble_eq_true rfl) ⟨Nat.zero_le _, Nat.zero_le _⟩ dX11_claim_1 rfl rfl (fun r9 w hq => ?_)
    obtain ⟨rfl, rfl⟩ := hq
    dsimp only [Option.toList, List.cons_append, List.nil_append]
    have l1 := b2_lt (rg (nI l9) 8)
    refine rN_if_eq (tg := 18) (pq := 7) C dX11_claim_4 (by decide) rfl (by omega) (fun c4 => absurd c4 (b2_1.mpr (hok.1))) (fun c4 => ?_)
    refine r_iload_n (pq := 8) C dX11_claim_7 rfl rfl ?_
    refine r_iconst (v := nI 1) (pq := 9) C dX11_claim_8 (by decide) rfl ?_
    refine rN_icmp_lt (tg := 18) (pq := 12) C dX11_claim_9 (by decide) rfl (by omega) (by omega) (fun c9 => absurd c9 (by omega)) (fun c9 => ?_)
    refine r_iload_n (pq := 13) C dX11_claim_12 rfl rfl ?_
    refine r_bipush (v := nI 100) (pq := 15) C dX11_claim_13 (by decide) rfl ?_
    refine rN_icmp_le (tg := 20) (pq := 18) C dX11_claim_15 (by decide) rfl (by omega) (by omega) (fun c15 => ?_) (fun c15 => absurd c15 (by omega))
    refine r_aload_n (pq := 21) C dX11_claim_20 rfl rfl ?_
    refine r_getf (pq := 24) C 9 o0 rfl (by decide) (by decide +kernel) (Or.inl rfl) rfl dX11_claim_21 rfl ?_
    refine r_iload_n (pq := 25) C dX11_claim_24 rfl rfl ?_
    refine rN_iald (pq := 26) C e10 (by omega) (by decide) dX11_claim_25 rfl ?_
    refine r_at (f10 l9 hl9) ?_
    refine r_istore_n (j := 3) (pq := 27) C dX11_claim_26 rfl (by decide) rfl rfl ?_
    dsimp only [List.set]
    refine r_aload_n (pq := 28) C dX11_claim_27 rfl rfl ?_
    refine r_getf (pq := 31) C 9 o0 rfl (by decide) (by decide +kernel) (Or.inl rfl) rfl dX11_claim_28 rfl ?_
    refine r_iload_n (pq := 32) C dX11_claim_31 rfl rfl ?_
    refine r_iload_n (pq := 33) C dX11_claim_32 rfl rfl ?_
    refine rN_iast (pq := 34) C e10 (by omega) (by decide) dX11_claim_33 rfl ?_
    refine r_iload_n (pq := 35) C dX11_claim_34 rfl rfl ?_
    refine r_iret C D rfl ⟨Nat.le_refl _, Nat.le_refl _⟩ dX11_claim_35 ?_
    refine ⟨?_, fun q hq => va_n _ _ (by omega), B, rfl, ?_⟩
    · unfold rs_claim
      rw [if_pos hok, tn_nI (by omega)]
    · unfold nx_claim
      rw [if_pos hok, tn_nI (by omega), tn_nI (by omega)]
      refine ⟨?_, ?_, ?_, ?_, ?_, ?_, ?_, ?_, ?_, ?_, ?_, ?_, ?_, ?_, ?_, ?_, ?_, ?_, ?_, ?_, ?_⟩
      · exact ((va_n _ _ (by omega))).trans o0
      · exact ⟨u1, ((va_n _ _ (by omega))).trans e1, f1⟩
      · exact ⟨u2, ((va_n _ _ (by omega))).trans e2, f2⟩
      · exact ⟨u3, ((va_n _ _ (by omega))).trans e3, f3⟩
      · exact ⟨u5, ((va_n _ _ (by omega))).trans e5, f5⟩
      · exact ⟨u6, ((va_n _ _ (by omega))).trans e6, f6⟩
      · exact ⟨u8, ((va_n _ _ (by omega))).trans e8, f8⟩
      · refine ⟨_, va_s _ _ _, fun l hl => ?_⟩
        show _ = nI (upf s.2.1 22 l9 n9 22 l)
        unfold upd
        by_cases e : l = l9
        · subst e; rw [if_pos rfl, upf_s]
        · rw [if_neg e, f10 l hl, upf_n _ _ e]
      · exact ⟨u11, ((va_n _ _ (by omega))).trans e11, f11⟩
      · exact ⟨u13, ((va_n _ _ (by omega))).trans e13, f13⟩
      · exact ⟨u14, ((va_n _ _ (by omega))).trans e14, f14⟩
      · exact ⟨u15, ((va_n _ _ (by omega))).trans e15⟩
      · exact ⟨u16, ((va_n _ _ (by omega))).trans e16⟩
      · intro p hp
        obtain ⟨h9, a1, a2⟩ := h20 p hp
        refine ⟨h9, (va_n _ _ (by omega)).trans a1, fun z d hd => ?_⟩
        rw [a2 z d hd]
        exact congrArg nI (cn_congr (f := s.2.1) (f' := upf s.2.1 22 l9 n9) (fun k z1 z2 => by rw [upf_o _ _ (by omega)]) (s.1 5) p d).symm
      · intro l hl
        obtain ⟨x, y, a1⟩ := h30 l hl
        exact ⟨x, y, ((va_n _ _ (by omega))).trans a1⟩
      · intro m hm
        exact ((va_n _ _ (by omega))).trans (h100 m hm)
      · intro j hj
        obtain ⟨z, a1⟩ := h200 j hj
        exact ⟨z, ((va_n _ _ (by omega))).trans a1⟩
      · intro j hj
        obtain ⟨x, y, a1⟩ := h220 j hj
        exact ⟨x, y, ((va_n _ _ (by omega))).trans a1⟩
      · intro j hj
        obtain ⟨x, y, a1⟩ := h240 j hj
        exact ⟨x, y, ((va_n _ _ (by omega))).trans a1⟩
      · intro d hd h3
        exact ((va_n _ _ (by omega))).trans (h300 d hd h3)
      · intro d hd h3
        obtain ⟨h9, a1, a2⟩ := h310 d hd h3
        exact ⟨h9, ((va_n _ _ (by omega))).trans a1, a2⟩
  · have hbad := hok
    refine r_iload_n (pq := 1) C dX11_claim_0 rfl rfl ?_
    refine r_callS (pq := 4) C (mc_X11_isLand) gX11_claim_X11_isLand rfl (na := 1) (by decide +kernel) rfl (by decide) (by decide) (Nat.le_of_ble_eq_true rfl) ⟨Nat.zero_le _, Nat.zero_le _⟩ dX11_claim_1 rfl rfl (fun r9 w hq => ?_)
    obtain ⟨rfl, rfl⟩ := hq
    dsimp only [Option.toList, List.cons_append, List.nil_append]
    have l1 := b2_lt (rg x 8)
    refine rN_if_eq (tg := 18) (pq := 7) C dX11_claim_4 (by decide) rfl (by omega) (fun c4 => ?_) (fun c4 => ?_)
    · refine r_iconst (v := (-1)) (pq := 19) C dX11_claim_18 (by decide) rfl ?_
      refine r_iret C D rfl ⟨Nat.le_refl _, Nat.le_refl _⟩ dX11_claim_19 ?_
      refine ⟨?_, fun _ _ => rfl, B, rfl, ?_⟩
      · unfold rs_claim
        rw [if_neg hbad]
      · unfold nx_claim
        rw [if_neg hbad]
        exact hN
    · refine r_iload_n (pq := 8) C dX11_claim_7 rfl rfl ?_
      refine r_iconst (v := nI 1) (pq := 9) C dX11_claim_8 (by decide) rfl ?_
      refine r_icmp_lt (tg := 18) (pq := 12) C dX11_claim_9 (by decide) rfl (fun c9 => ?_) (fun c9 => ?_)
      · refine r_iconst (v := (-1)) (pq := 19) C dX11_claim_18 (by decide) rfl ?_
        refine r_iret C D rfl ⟨Nat.le_refl _, Nat.le_refl _⟩ dX11_claim_19 ?_
        refine ⟨?_, fun _ _ => rfl, B, rfl, ?_⟩
        · unfold rs_claim
          rw [if_neg hbad]
        · unfold nx_claim
          rw [if_neg hbad]
          exact hN
      · refine r_iload_n (pq := 13) C dX11_claim_12 rfl rfl ?_
        refine r_bipush (v := nI 100) (pq := 15) C dX11_claim_13 (by decide) rfl ?_
        refine r_icmp_le (tg := 20) (pq := 18) C dX11_claim_15 (by decide) rfl (fun c15 => ?_) (fun c15 => ?_)
        · have t1 : (nI 1).toInt = 1 := nI_toInt (by omega)
          have t2 : (nI 100).toInt = 100 := nI_toInt (by omega)
          rw [lt_i] at c9
          rw [le_i] at c15
          exact absurd ⟨b2_1.mp c4, by omega, by omega⟩ hbad
        · refine r_iconst (v := (-1)) (pq := 19) C dX11_claim_18 (by decide) rfl ?_
          refine r_iret C D rfl ⟨Nat.le_refl _, Nat.le_refl _⟩ dX11_claim_19 ?_
          refine ⟨?_, fun _ _ => rfl, B, rfl, ?_⟩
          · unfold rs_claim
            rw [if_neg hbad]
          · unfold nx_claim
            rw [if_neg hbad]
            exact hN

set_option maxHeartbeats 4000000 in
set_option maxRecDepth 100000 in
/-- sumYear -/
theorem mc_X11_sumYear {l : Launch} {E : EV} {w : RW} {B : Nat → Nat} {s : ST} {l9 p9 y9 : Nat} (hS : SI s) (hN : NS E B s w) (hl : l9 < 8) (hp : p9 < s.1 1) (hy : y9 < 4) : MC l E yX11_sumYear wsX11_sumYear 2 0 0 [.ref (B 0), .int (nI l9), .int (nI p9), .int (nI y9)] (w) (fun v w' => v = none ∧ w' = va_up w (30 + l9) (tC (B (30 + l9)) l9 (yl l9 (cr s p9) y9) (ym l9 (cr s p9) y9))) := by
  refine MC.enter (cc := cX11_sumYear) (maxL := 5) (ret := none) (lv0 := [some (.ref (B 0)), some (.int (nI l9)), some (.int (nI p9)), some (.int (nI y9)), none]) (by decide) rfl (by simp [Value.category]) (Nat.le_of_ble_eq_true rfl) rfl ?_
  intro X hl hE C D
  subst hl
  subst hE
  have hI1 : s.1 1 ≤ 6 := hS.2.1
  have hI5 : s.1 5 ≤ 80 := hS.2.2.1
  have hI16 : s.1 16 ≤ 12 := hS.2.2.2.1
  have hNN := hN
  obtain ⟨o0, ⟨u1, e1, f1⟩, ⟨u2, e2, f2⟩, ⟨u3, e3, f3⟩, ⟨u5, e5, f5⟩, ⟨u6, e6, f6⟩, ⟨u8, e8, f8⟩, ⟨u10, e10, f10⟩, ⟨u11, e11, f11⟩, ⟨u13, e13, f13⟩, ⟨u14, e14, f14⟩, ⟨u15, e15⟩, ⟨u16, e16⟩, h20, h30, h100, h200, h220, h240, h300, h310⟩ := hNN
  obtain ⟨h9, a1, a2⟩ := h20 p9 (by omega)
  obtain ⟨x1, y1, t1⟩ := h30 l9 hl
  refine r_iload_n (pq := 1) C dX11_sumYear_0 rfl rfl ?_
  refine r_bipush (v := nI 100) (pq := 3) C dX11_sumYear_1 (by decide) rfl ?_
  refine rN_imul (pq := 4) C dX11_sumYear_3 rfl ?_
  refine r_istore (j := 4) (pq := 6) C dX11_sumYear_4 rfl (by decide) rfl rfl ?_
  dsimp only [List.set]
  refine r_aload_n (pq := 7) C dX11_sumYear_6 rfl rfl ?_
  refine r_getf (pq := 10) C 13 o0 rfl (by decide) (by decide +kernel) (Or.inl rfl) rfl dX11_sumYear_7 rfl ?_
  refine r_iload_n (pq := 11) C dX11_sumYear_10 rfl rfl ?_
  refine rN_aaldS (pq := 12) C 7 rfl rfl e14 (by omega) (by decide) (f14 l9 hl) dX11_sumYear_11 rfl ?_
  refine r_aload_n (pq := 13) C dX11_sumYear_12 rfl rfl ?_
  refine r_getf (pq := 16) C 4 o0 rfl (by decide) (by decide +kernel) (Or.inl rfl) rfl dX11_sumYear_13 rfl ?_
  refine r_iload_n (pq := 17) C dX11_sumYear_16 rfl rfl ?_
  refine rN_aaldS (pq := 18) C 8 rfl rfl e5 (by omega) (by decide) (f5 p9 (by omega)) dX11_sumYear_17 rfl ?_
  refine r_iload (pq := 20) C dX11_sumYear_18 rfl rfl ?_
  refine r_iload (pq := 22) C dX11_sumYear_20 rfl rfl ?_
  refine r_bipush (v := nI 100) (pq := 24) C dX11_sumYear_22 (by decide) rfl ?_
  refine rN_iadd (pq := 25) C dX11_sumYear_24 rfl ?_
  refine r_iconst (v := nI 1) (pq := 26) C dX11_sumYear_25 (by decide) rfl ?_
  refine rN_isub (pq := 27) C dX11_sumYear_26 (by omega) rfl ?_
  refine r_callV (pq := 30) C (mc_X8_sum (r := 30 + l9) (rr := 20 + p9) (a9 := 100 * y9) (b9 := 100 * y9 + 100) (c := cr s p9) hl (by omega) (by rw [nI_toInt (by omega)]; omega) (by rw [nI_toInt (by omega)]; omega) (by rw [nI_toInt (by omega)]; omega) (by rw [nI_toInt (by omega)]; omega) (row_ok (a2 hp)) t1 a1) t1 rfl gX11_sumYear_X8_sum rfl (na := 3) (by decide +kernel) rfl (by decide) (by decide) (Nat.le_of_ble_eq_true rfl) ⟨Nat.zero_le _, Nat.zero_le _⟩ dX11_sumYear_27 rfl rfl (fun r9 w hq => ?_)
  obtain ⟨rfl, rfl⟩ := hq
  dsimp only [Option.toList, List.cons_append, List.nil_append]
  refine r_vret C D rfl ⟨Nat.le_refl _, Nat.le_refl _⟩ dX11_sumYear_30 ?_
  exact ⟨rfl, rfl⟩

theorem yl_lt (l : Nat) (c : Nat → Nat) {y : Nat} (hy : y < 4) : yl l c y < 1000000 := by
  have := ps_le (lq_le l c) (100 * y + 100)
  unfold yl
  omega
theorem ym_lt (l : Nat) (c : Nat → Nat) {y : Nat} (hy : y < 4) : ym l c y < 1000000 := by
  have := ps_le (mq_le l c) (100 * y + 100)
  unfold ym
  omega

set_option maxHeartbeats 4000000 in
set_option maxRecDepth 100000 in
/-- claims -/
theorem mc_X11_claims {l : Launch} {E : EV} {w : RW} {B : Nat → Nat} {s : ST} (hS : SI s) (hN : NS E B s w) {x y z : Int32} : MC l E yX11_claims wsX11_claims 3 0 0 [.ref (B 0), .int x, .int y, .int z] (w) (nP E B w (rs_claims s x y z) (s)) := by
  refine MC.enter (cc := cX11_claims) (maxL := 4) (ret := (some .int)) (lv0 := [some (.ref (B 0)), some (.int x), some (.int y), some (.int z)]) (by decide) rfl (by simp [Value.category]) (Nat.le_of_ble_eq_true rfl) rfl ?_
  intro X hl hE C D
  subst hl
  subst hE
  have hI1 : s.1 1 ≤ 6 := hS.2.1
  have hI5 : s.1 5 ≤ 80 := hS.2.2.1
  have hI16 : s.1 16 ≤ 12 := hS.2.2.2.1
  have hNN := hN
  obtain ⟨o0, ⟨u1, e1, f1⟩, ⟨u2, e2, f2⟩, ⟨u3, e3, f3⟩, ⟨u5, e5, f5⟩, ⟨u6, e6, f6⟩, ⟨u8, e8, f8⟩, ⟨u10, e10, f10⟩, ⟨u11, e11, f11⟩, ⟨u13, e13, f13⟩, ⟨u14, e14, f14⟩, ⟨u15, e15⟩, ⟨u16, e16⟩, h20, h30, h100, h200, h220, h240, h300, h310⟩ := hNN
  by_cases hok : rg x 8 ∧ rg y (s.1 1) ∧ rg z 4
  · obtain ⟨l9, hl9, rfl⟩ := rg_of hok.1 (by omega)
    obtain ⟨p, hp, rfl⟩ := rg_of hok.2.1 (by omega)
    obtain ⟨y9, hy9, rfl⟩ := rg_of hok.2.2 (by omega)
    have hc9 := hS.2.2.2.2.2.2.2.1 l9 hl9
    have b1 := yl_lt l9 (cr s p) hy9
    have b2x := ym_lt l9 (cr s p) hy9
    refine r_iload_n (pq := 1) C dX11_claims_0 rfl rfl ?_
    refine r_callS (pq := 4) C (mc_X11_isLand) gX11_claims_X11_isLand rfl (na := 1) (by decide +kernel) rfl (by decide) (by decide) (Nat.le_of_ble_eq_true rfl) ⟨Nat.zero_le _, Nat.zero_le _⟩ dX11_claims_1 rfl rfl (fun r9 w hq => ?_)
    obtain ⟨rfl, rfl⟩ := hq
    dsimp only [Option.toList, List.cons_append, List.nil_append]
    have l1 := b2_lt (rg (nI l9) 8)
    refine rN_if_eq (tg := 22) (pq := 7) C dX11_claims_4 (by decide) rfl (by omega) (fun c4 => absurd c4 (b2_1.mpr hok.1)) (fun c4 => ?_)
    refine r_aload_n (pq := 8) C dX11_claims_7 rfl rfl ?_
    refine r_iload_n (pq := 9) C dX11_claims_8 rfl rfl ?_
    refine r_callV (pq := 12) C (mc_X11_isPerson hI1 o0) o0 rfl gX11_claims_X11_isPerson rfl (na := 1) (by decide +kernel) rfl (by decide) (by decide) (Nat.le_of_ble_eq_true rfl) ⟨Nat.zero_le _, Nat.zero_le _⟩ dX11_claims_9 rfl rfl (fun r9 w hq => ?_)
    obtain ⟨rfl, rfl⟩ := hq
    dsimp only [Option.toList, List.cons_append, List.nil_append]
    have l9x := b2_lt (rg (nI p) (s.1 1))
    refine rN_if_eq (tg := 22) (pq := 15) C dX11_claims_12 (by decide) rfl (by omega) (fun c12 => absurd c12 (b2_1.mpr hok.2.1)) (fun c12 => ?_)
    refine r_iload_n (pq := 16) C dX11_claims_15 rfl rfl ?_
    refine r_callS (pq := 19) C (mc_X11_isYear) gX11_claims_X11_isYear rfl (na := 1) (by decide +kernel) rfl (by decide) (by decide) (Nat.le_of_ble_eq_true rfl) ⟨Nat.zero_le _, Nat.zero_le _⟩ dX11_claims_16 rfl rfl (fun r9 w hq => ?_)
    obtain ⟨rfl, rfl⟩ := hq
    dsimp only [Option.toList, List.cons_append, List.nil_append]
    have l16 := b2_lt (rg (nI y9) 4)
    refine rN_if_ne (tg := 24) (pq := 22) C dX11_claims_19 (by decide) rfl (by omega) (fun c19 => ?_) (fun c19 => absurd c19 (b2_1.mpr hok.2.2))
    refine r_aload_n (pq := 25) C dX11_claims_24 rfl rfl ?_
    refine r_iload_n (pq := 26) C dX11_claims_25 rfl rfl ?_
    refine r_iload_n (pq := 27) C dX11_claims_26 rfl rfl ?_
    refine r_iload_n (pq := 28) C dX11_claims_27 rfl rfl ?_
    refine r_callV (pq := 31) C (mc_X11_sumYear hS hN hl9 hp hy9) o0 rfl gX11_claims_X11_sumYear rfl (na := 3) (by decide +kernel) rfl (by decide) (by decide) (Nat.le_of_ble_eq_true rfl) ⟨Nat.zero_le _, Nat.zero_le _⟩ dX11_claims_28 rfl rfl (fun r9 w hq => ?_)
    obtain ⟨rfl, rfl⟩ := hq
    dsimp only [Option.toList, List.cons_append, List.nil_append]
    refine r_aload_n (pq := 32) C dX11_claims_31 rfl rfl ?_
    refine r_getf (pq := 35) C 13 ((va_n _ _ (by omega)).trans o0) rfl (by decide) (by decide +kernel) (Or.inl rfl) rfl dX11_claims_32 rfl ?_
    refine r_iload_n (pq := 36) C dX11_claims_35 rfl rfl ?_
    refine rN_aaldS (pq := 37) C 7 rfl rfl ((va_n _ _ (by omega)).trans e14) (by omega) (by decide) (f14 l9 hl9) dX11_claims_36 rfl ?_
    refine r_getf (pq := 40) C 1 (va_s _ _ _) rfl (by decide) (by decide +kernel) (Or.inl rfl) rfl dX11_claims_37 rfl ?_
    refine r_aload_n (pq := 41) C dX11_claims_40 rfl rfl ?_
    refine r_getf (pq := 44) C 9 ((va_n _ _ (by omega)).trans o0) rfl (by decide) (by decide +kernel) (Or.inl rfl) rfl dX11_claims_41 rfl ?_
    refine r_iload_n (pq := 45) C dX11_claims_44 rfl rfl ?_
    refine rN_iald (pq := 46) C ((va_n _ _ (by omega)).trans e10) (by omega) (by decide) dX11_claims_45 rfl ?_
    refine r_at (f10 l9 hl9) ?_
    refine rN_icmp_lt (tg := 51) (pq := 49) C dX11_claims_46 (by decide) rfl (by omega) (by omega) (fun c46 => ?_) (fun c46 => ?_)
    · refine r_aload_n (pq := 52) C dX11_claims_51 rfl rfl ?_
      refine r_getf (pq := 55) C 13 ((va_n _ _ (by omega)).trans o0) rfl (by decide) (by decide +kernel) (Or.inl rfl) rfl dX11_claims_52 rfl ?_
      refine r_iload_n (pq := 56) C dX11_claims_55 rfl rfl ?_
      refine rN_aaldS (pq := 57) C 7 rfl rfl ((va_n _ _ (by omega)).trans e14) (by omega) (by decide) (f14 l9 hl9) dX11_claims_56 rfl ?_
      refine r_getf (pq := 60) C 2 (va_s _ _ _) rfl (by decide) (by decide +kernel) (Or.inl rfl) rfl dX11_claims_57 rfl ?_
      refine r_aload_n (pq := 61) C dX11_claims_60 rfl rfl ?_
      refine r_getf (pq := 64) C 9 ((va_n _ _ (by omega)).trans o0) rfl (by decide) (by decide +kernel) (Or.inl rfl) rfl dX11_claims_61 rfl ?_
      refine r_iload_n (pq := 65) C dX11_claims_64 rfl rfl ?_
      refine rN_iald (pq := 66) C ((va_n _ _ (by omega)).trans e10) (by omega) (by decide) dX11_claims_65 rfl ?_
      refine r_at (f10 l9 hl9) ?_
      refine rN_icmp_lt (tg := 73) (pq := 69) C dX11_claims_66 (by decide) rfl (by omega) (by omega) (fun c66 => ?_) (fun c66 => ?_)
      · refine r_iconst (v := nI 0) (pq := 74) C dX11_claims_73 (by decide) rfl ?_
        refine r_iret C D rfl ⟨Nat.le_refl _, Nat.le_refl _⟩ dX11_claims_74 ?_
        refine ⟨?_, fun q hq => va_n _ _ (by omega), B, rfl, NS.s30 hN hl9 _ _⟩
        unfold rs_claims
        rw [if_pos hok, tn_nI (by omega), tn_nI (by omega), tn_nI (by omega)]
        unfold clm
        rw [if_neg (by omega), if_neg (by omega)]
      · refine r_iconst (v := nI 1) (pq := 70) C dX11_claims_69 (by decide) rfl ?_
        refine r_goto (tg := 74) C dX11_claims_70 (by decide) ?_
        refine r_iret C D rfl ⟨Nat.le_refl _, Nat.le_refl _⟩ dX11_claims_74 ?_
        refine ⟨?_, fun q hq => va_n _ _ (by omega), B, rfl, NS.s30 hN hl9 _ _⟩
        unfold rs_claims
        rw [if_pos hok, tn_nI (by omega), tn_nI (by omega), tn_nI (by omega)]
        unfold clm
        rw [if_neg (by omega), if_pos (by omega)]
    · refine r_iconst (v := nI 2) (pq := 50) C dX11_claims_49 (by decide) rfl ?_
      refine r_iret C D rfl ⟨Nat.le_refl _, Nat.le_refl _⟩ dX11_claims_50 ?_
      refine ⟨?_, fun q hq => va_n _ _ (by omega), B, rfl, NS.s30 hN hl9 _ _⟩
      unfold rs_claims
      rw [if_pos hok, tn_nI (by omega), tn_nI (by omega), tn_nI (by omega)]
      unfold clm
      rw [if_pos (by omega)]
  · have hbad := hok
    refine r_iload_n (pq := 1) C dX11_claims_0 rfl rfl ?_
    refine r_callS (pq := 4) C (mc_X11_isLand) gX11_claims_X11_isLand rfl (na := 1) (by decide +kernel) rfl (by decide) (by decide) (Nat.le_of_ble_eq_true rfl) ⟨Nat.zero_le _, Nat.zero_le _⟩ dX11_claims_1 rfl rfl (fun r9 w hq => ?_)
    obtain ⟨rfl, rfl⟩ := hq
    dsimp only [Option.toList, List.cons_append, List.nil_append]
    have l1 := b2_lt (rg x 8)
    refine rN_if_eq (tg := 22) (pq := 7) C dX11_claims_4 (by decide) rfl (by omega) (fun c4 => ?_) (fun c4 => ?_)
    · refine r_iconst (v := (-1)) (pq := 23) C dX11_claims_22 (by decide) rfl ?_
      refine r_iret C D rfl ⟨Nat.le_refl _, Nat.le_refl _⟩ dX11_claims_23 ?_
      refine ⟨?_, fun _ _ => rfl, B, rfl, ?_⟩
      · unfold rs_claims
        rw [if_neg hbad]
      · exact hN
    · refine r_aload_n (pq := 8) C dX11_claims_7 rfl rfl ?_
      refine r_iload_n (pq := 9) C dX11_claims_8 rfl rfl ?_
      refine r_callV (pq := 12) C (mc_X11_isPerson hI1 o0) o0 rfl gX11_claims_X11_isPerson rfl (na := 1) (by decide +kernel) rfl (by decide) (by decide) (Nat.le_of_ble_eq_true rfl) ⟨Nat.zero_le _, Nat.zero_le _⟩ dX11_claims_9 rfl rfl (fun r9 w hq => ?_)
      obtain ⟨rfl, rfl⟩ := hq
      dsimp only [Option.toList, List.cons_append, List.nil_append]
      have l9 := b2_lt (rg y (s.1 1))
      refine rN_if_eq (tg := 22) (pq := 15) C dX11_claims_12 (by decide) rfl (by omega) (fun c12 => ?_) (fun c12 => ?_)
      · refine r_iconst (v := (-1)) (pq := 23) C dX11_claims_22 (by decide) rfl ?_
        refine r_iret C D rfl ⟨Nat.le_refl _, Nat.le_refl _⟩ dX11_claims_23 ?_
        refine ⟨?_, fun _ _ => rfl, B, rfl, ?_⟩
        · unfold rs_claims
          rw [if_neg hbad]
        · exact hN
      · refine r_iload_n (pq := 16) C dX11_claims_15 rfl rfl ?_
        refine r_callS (pq := 19) C (mc_X11_isYear) gX11_claims_X11_isYear rfl (na := 1) (by decide +kernel) rfl (by decide) (by decide) (Nat.le_of_ble_eq_true rfl) ⟨Nat.zero_le _, Nat.zero_le _⟩ dX11_claims_16 rfl rfl (fun r9 w hq => ?_)
        obtain ⟨rfl, rfl⟩ := hq
        dsimp only [Option.toList, List.cons_append, List.nil_append]
        have l16 := b2_lt (rg z 4)
        refine rN_if_ne (tg := 24) (pq := 22) C dX11_claims_19 (by decide) rfl (by omega) (fun c19 => ?_) (fun c19 => ?_)
        · exact absurd ⟨b2_1.mp c4, b2_1.mp c12, b2_1.mp c19⟩ hbad
        · refine r_iconst (v := (-1)) (pq := 23) C dX11_claims_22 (by decide) rfl ?_
          refine r_iret C D rfl ⟨Nat.le_refl _, Nat.le_refl _⟩ dX11_claims_23 ?_
          refine ⟨?_, fun _ _ => rfl, B, rfl, ?_⟩
          · unfold rs_claims
            rw [if_neg hbad]
          · exact hN

theorem and3 (n : Nat) : n &&& 3 = n % 4 := Nat.and_two_pow_sub_one_eq_mod n 2
def tst (t k : Nat) : Nat := t / 2 ^ (2 * k) % 4
theorem tst_lt (t k : Nat) : tst t k < 4 := Nat.mod_lt _ (by decide)

set_option maxHeartbeats 4000000 in
set_option maxRecDepth 100000 in
/-- testAt -/
theorem mc_X11_testAt {l : Launch} {E : EV} {w : RW} {t9 k9 : Nat} (ht : t9 < 64) (hk : k9 < 3) : MC l E yX11_testAt wsX11_testAt 0 0 0 [.int (nI t9), .int (nI k9)] (w) (fun v w' => w' = w ∧ v = some (.int (nI (tst t9 k9)))) := by
  refine MC.enter (cc := cX11_testAt) (maxL := 2) (ret := (some .int)) (lv0 := [some (.int (nI t9)), some (.int (nI k9))]) (by decide) rfl (by simp [Value.category]) (Nat.le_of_ble_eq_true rfl) rfl ?_
  intro X hl hE C D
  subst hl
  subst hE
  refine r_iload_n (pq := 1) C dX11_testAt_0 rfl rfl ?_
  refine r_iconst (v := nI 2) (pq := 2) C dX11_testAt_1 (by decide) rfl ?_
  refine r_iload_n (pq := 3) C dX11_testAt_2 rfl rfl ?_
  refine rN_imul (pq := 4) C dX11_testAt_3 rfl ?_
  refine rN_ishr (pq := 5) C dX11_testAt_4 (by omega) (by omega) rfl ?_
  refine r_iconst (v := nI 3) (pq := 6) C dX11_testAt_5 (by decide) rfl ?_
  refine rN_iand (pq := 7) C dX11_testAt_6 rfl ?_
  rw [and3]
  refine r_iret C D rfl ⟨Nat.le_refl _, Nat.le_refl _⟩ dX11_testAt_7 ?_
  exact ⟨rfl, rfl⟩

def sn (t : Nat) : Nat → Nat
  | 0 => 0
  | k + 1 => sn t k ||| 2 ^ tst t k
def en (t : Nat) : Nat → Nat
  | 0 => 0
  | k + 1 => if tst t k = 0 then 1 else 0
abbrev bdt (t k : Nat) : Prop := tst t k ≠ 0 ∧ (en t k ≠ 0 ∨ sn t k / 2 ^ tst t k % 2 ≠ 0)
theorem at_ok : ∀ t, t < 64 → ((∀ k, k < 3 → ¬ bdt t k) ↔ atF 4 0 t = true) := by decide +kernel
theorem sn_le : ∀ t, t < 64 → ∀ k, k < 4 → sn t k < 16 := by decide +kernel
theorem en_le (t k : Nat) : en t k ≤ 1 := by
  cases k with
  | zero => exact Nat.zero_le _
  | succ k => show (if tst t k = 0 then 1 else 0) ≤ 1; split <;> omega

set_option maxHeartbeats 4000000 in
set_option maxRecDepth 100000 in
/-- areTests -/
theorem mc_X11_areTests {l : Launch} {E : EV} {w : RW} {x : Int32} : MC l E yX11_areTests wsX11_areTests 1 0 0 [.int x] (w) (fun v w' => w' = w ∧ v = some (.int (nI (b2 (rg x 64 ∧ atF 4 0 (tn x) = true))))) := by
  refine MC.enter (cc := cX11_areTests) (maxL := 5) (ret := (some .boolean)) (lv0 := [some (.int x), none, none, none, none]) (by decide) rfl (by simp [Value.category]) (Nat.le_of_ble_eq_true rfl) rfl ?_
  intro X hl hE C D
  subst hl
  subst hE
  by_cases hok : rg x 64
  · obtain ⟨t9, ht, rfl⟩ := rg_of hok (by omega)
    have loop : ∀ (t k9 : Nat), k9 ≤ 3 → 3 - k9 < t → (∀ k, k < k9 → ¬ bdt t9 k) → GG X w 0 0 18 [some (.int (nI t9)), some (.int (nI (sn t9 k9))), some (.int (nI (en t9 k9))), some (.int (nI k9)), none] [] := by
      intro t
      induction t with
      | zero => intro k9 h1 h2; omega
      | succ t ih =>
        intro k9 hk htt hg
        have hsn := sn_le t9 ht k9 (by omega)
        have hen := en_le t9 k9
        refine r_iload_n (pq := 19) C dX11_areTests_18 rfl rfl ?_
        refine r_iconst (v := nI 3) (pq := 20) C dX11_areTests_19 (by decide) rfl ?_
        refine rN_icmp_ge (tg := 74) (pq := 23) C dX11_areTests_20 (by decide) rfl (by omega) (by omega) (fun c20 => ?_) (fun c20 => ?_)
        · refine r_iconst (v := nI 1) (pq := 75) C dX11_areTests_74 (by decide) rfl ?_
          refine r_zret C D rfl (by decide) ⟨Nat.le_refl _, Nat.le_refl _⟩ dX11_areTests_75 ?_
          refine ⟨rfl, ?_⟩
          have e9 : k9 = 3 := by omega
          subst e9
          have hh := (at_ok t9 ht).mp hg
          rw [b2_t ⟨(rg_nI (by omega)).mpr ht, by rw [tn_nI (by omega)]; exact hh⟩]
        · refine r_iload_n (pq := 24) C dX11_areTests_23 rfl rfl ?_
          refine r_iload_n (pq := 25) C dX11_areTests_24 rfl rfl ?_
          refine r_callS (pq := 28) C (mc_X11_testAt (t9 := t9) (k9 := k9) ht (by omega)) gX11_areTests_X11_testAt rfl (na := 2) (by decide +kernel) rfl (by decide) (by decide) (Nat.le_of_ble_eq_true rfl) ⟨Nat.zero_le _, Nat.zero_le _⟩ dX11_areTests_25 rfl rfl (fun r9 w hq => ?_)
          obtain ⟨rfl, rfl⟩ := hq
          dsimp only [Option.toList, List.cons_append, List.nil_append]
          have ht4 := tst_lt t9 k9
          have hp4 := pw4 _ ht4
          have hbt : sn t9 k9 / 2 ^ tst t9 k9 % 2 < 2 := Nat.mod_lt _ (by decide)
          refine r_istore (j := 4) (pq := 30) C dX11_areTests_28 rfl (by decide) rfl rfl ?_
          dsimp only [List.set]
          refine r_iload (pq := 32) C dX11_areTests_30 rfl rfl ?_
          refine rN_if_eq (tg := 50) (pq := 35) C dX11_areTests_32 (by decide) rfl (by omega) (fun c32 => ?_) (fun c32 => ?_)
          · refine r_iload (pq := 52) C dX11_areTests_50 rfl rfl ?_
            refine rN_if_ne (tg := 59) (pq := 55) C dX11_areTests_52 (by decide) rfl (by omega) (fun c52 => ?_) (fun c52 => ?_)
            · refine r_iconst (v := nI 0) (pq := 60) C dX11_areTests_59 (by decide) rfl ?_
              refine r_istore_n (j := 2) (pq := 61) C dX11_areTests_60 rfl (by decide) rfl rfl ?_
              dsimp only [List.set]
              refine r_iload_n (pq := 62) C dX11_areTests_61 rfl rfl ?_
              refine r_iconst (v := nI 1) (pq := 63) C dX11_areTests_62 (by decide) rfl ?_
              refine r_iload (pq := 65) C dX11_areTests_63 rfl rfl ?_
              refine rN_ishl (pq := 66) C dX11_areTests_65 (by omega) (by omega) rfl ?_
              refine rN_ior (pq := 67) C dX11_areTests_66 rfl ?_
              refine r_istore_n (j := 1) (pq := 68) C dX11_areTests_67 rfl (by decide) rfl rfl ?_
              dsimp only [List.set]
              refine rN_iinc (c := 1) (pq := 71) C dX11_areTests_68 rfl (by decide) (by decide) rfl rfl ?_
              dsimp only [List.set]
              refine r_goto (tg := 18) C dX11_areTests_71 (by decide) ?_
              exact absurd c32 c52
            · refine r_iconst (v := nI 1) (pq := 56) C dX11_areTests_55 (by decide) rfl ?_
              refine r_goto (tg := 60) C dX11_areTests_56 (by decide) ?_
              refine r_istore_n (j := 2) (pq := 61) C dX11_areTests_60 rfl (by decide) rfl rfl ?_
              dsimp only [List.set]
              refine r_iload_n (pq := 62) C dX11_areTests_61 rfl rfl ?_
              refine r_iconst (v := nI 1) (pq := 63) C dX11_areTests_62 (by decide) rfl ?_
              refine r_iload (pq := 65) C dX11_areTests_63 rfl rfl ?_
              refine rN_ishl (pq := 66) C dX11_areTests_65 (by omega) (by omega) rfl ?_
              refine rN_ior (pq := 67) C dX11_areTests_66 rfl ?_
              refine r_istore_n (j := 1) (pq := 68) C dX11_areTests_67 rfl (by decide) rfl rfl ?_
              dsimp only [List.set]
              refine rN_iinc (c := 1) (pq := 71) C dX11_areTests_68 rfl (by decide) (by decide) rfl rfl ?_
              dsimp only [List.set]
              refine r_goto (tg := 18) C dX11_areTests_71 (by decide) ?_
              refine GG.fgt 4 ?_
              dsimp only [List.set]
              have hgd : ∀ k, k < k9 + 1 → ¬ bdt t9 k := fun k hk9 => by
                by_cases e : k = k9
                · subst e
                  exact fun h => h.1 c32
                · exact hg k (by omega)
              have key := ih (k9 + 1) (by omega) (by omega) hgd
              have z1 : en t9 (k9 + 1) = 1 := if_pos c32
              have z2 : sn t9 (k9 + 1) = sn t9 k9 ||| 1 * 2 ^ tst t9 k9 := by rw [Nat.one_mul]; rfl
              rw [z1, z2] at key
              exact key
          · refine r_iload_n (pq := 36) C dX11_areTests_35 rfl rfl ?_
            refine rN_if_ne (tg := 48) (pq := 39) C dX11_areTests_36 (by decide) rfl (by omega) (fun c36 => ?_) (fun c36 => ?_)
            · refine r_iconst (v := nI 0) (pq := 49) C dX11_areTests_48 (by decide) rfl ?_
              refine r_zret C D rfl (by decide) ⟨Nat.le_refl _, Nat.le_refl _⟩ dX11_areTests_49 ?_
              refine ⟨rfl, ?_⟩
              rw [b2_f (fun h => by have h2 := h.2; rw [tn_nI (by omega)] at h2; exact (at_ok t9 ht).mpr h2 k9 (by omega) ⟨c32, Or.inl c36⟩)]
            · refine r_iload_n (pq := 40) C dX11_areTests_39 rfl rfl ?_
              refine r_iload (pq := 42) C dX11_areTests_40 rfl rfl ?_
              refine rN_ishr (pq := 43) C dX11_areTests_42 (by omega) (by omega) rfl ?_
              refine r_iconst (v := nI 1) (pq := 44) C dX11_areTests_43 (by decide) rfl ?_
              refine rN_iand (pq := 45) C dX11_areTests_44 rfl ?_
              rw [Nat.and_one_is_mod]
              refine rN_if_eq (tg := 50) (pq := 48) C dX11_areTests_45 (by decide) rfl (by omega) (fun c45 => ?_) (fun c45 => ?_)
              · refine r_iload (pq := 52) C dX11_areTests_50 rfl rfl ?_
                refine rN_if_ne (tg := 59) (pq := 55) C dX11_areTests_52 (by decide) rfl (by omega) (fun c52 => ?_) (fun c52 => ?_)
                · refine r_iconst (v := nI 0) (pq := 60) C dX11_areTests_59 (by decide) rfl ?_
                  refine r_istore_n (j := 2) (pq := 61) C dX11_areTests_60 rfl (by decide) rfl rfl ?_
                  dsimp only [List.set]
                  refine r_iload_n (pq := 62) C dX11_areTests_61 rfl rfl ?_
                  refine r_iconst (v := nI 1) (pq := 63) C dX11_areTests_62 (by decide) rfl ?_
                  refine r_iload (pq := 65) C dX11_areTests_63 rfl rfl ?_
                  refine rN_ishl (pq := 66) C dX11_areTests_65 (by omega) (by omega) rfl ?_
                  refine rN_ior (pq := 67) C dX11_areTests_66 rfl ?_
                  refine r_istore_n (j := 1) (pq := 68) C dX11_areTests_67 rfl (by decide) rfl rfl ?_
                  dsimp only [List.set]
                  refine rN_iinc (c := 1) (pq := 71) C dX11_areTests_68 rfl (by decide) (by decide) rfl rfl ?_
                  dsimp only [List.set]
                  refine r_goto (tg := 18) C dX11_areTests_71 (by decide) ?_
                  refine GG.fgt 4 ?_
                  dsimp only [List.set]
                  have hgd : ∀ k, k < k9 + 1 → ¬ bdt t9 k := fun k hk9 => by
                    by_cases e : k = k9
                    · subst e
                      exact fun h => h.2.elim (fun z => z c36) (fun z => z c45)
                    · exact hg k (by omega)
                  have key := ih (k9 + 1) (by omega) (by omega) hgd
                  have z1 : en t9 (k9 + 1) = 0 := if_neg c32
                  have z2 : sn t9 (k9 + 1) = sn t9 k9 ||| 1 * 2 ^ tst t9 k9 := by rw [Nat.one_mul]; rfl
                  rw [z1, z2] at key
                  exact key
                · refine r_iconst (v := nI 1) (pq := 56) C dX11_areTests_55 (by decide) rfl ?_
                  refine r_goto (tg := 60) C dX11_areTests_56 (by decide) ?_
                  refine r_istore_n (j := 2) (pq := 61) C dX11_areTests_60 rfl (by decide) rfl rfl ?_
                  dsimp only [List.set]
                  refine r_iload_n (pq := 62) C dX11_areTests_61 rfl rfl ?_
                  refine r_iconst (v := nI 1) (pq := 63) C dX11_areTests_62 (by decide) rfl ?_
                  refine r_iload (pq := 65) C dX11_areTests_63 rfl rfl ?_
                  refine rN_ishl (pq := 66) C dX11_areTests_65 (by omega) (by omega) rfl ?_
                  refine rN_ior (pq := 67) C dX11_areTests_66 rfl ?_
                  refine r_istore_n (j := 1) (pq := 68) C dX11_areTests_67 rfl (by decide) rfl rfl ?_
                  dsimp only [List.set]
                  refine rN_iinc (c := 1) (pq := 71) C dX11_areTests_68 rfl (by decide) (by decide) rfl rfl ?_
                  dsimp only [List.set]
                  refine r_goto (tg := 18) C dX11_areTests_71 (by decide) ?_
                  exact absurd c52 c32
              · refine r_iconst (v := nI 0) (pq := 49) C dX11_areTests_48 (by decide) rfl ?_
                refine r_zret C D rfl (by decide) ⟨Nat.le_refl _, Nat.le_refl _⟩ dX11_areTests_49 ?_
                refine ⟨rfl, ?_⟩
                rw [b2_f (fun h => by have h2 := h.2; rw [tn_nI (by omega)] at h2; exact (at_ok t9 ht).mpr h2 k9 (by omega) ⟨c32, Or.inr c45⟩)]
    refine r_iload_n (pq := 1) C dX11_areTests_0 rfl rfl ?_
    refine rN_if_lt (tg := 10) (pq := 4) C dX11_areTests_1 (by decide) rfl (by omega) ?_
    refine r_iload_n (pq := 5) C dX11_areTests_4 rfl rfl ?_
    refine r_bipush (v := nI 64) (pq := 7) C dX11_areTests_5 (by decide) rfl ?_
    refine rN_icmp_lt (tg := 12) (pq := 10) C dX11_areTests_7 (by decide) rfl (by omega) (by omega) (fun c7 => ?_) (fun c7 => absurd c7 (by omega))
    refine r_iconst (v := nI 0) (pq := 13) C dX11_areTests_12 (by decide) rfl ?_
    refine r_istore_n (j := 1) (pq := 14) C dX11_areTests_13 rfl (by decide) rfl rfl ?_
    dsimp only [List.set]
    refine r_iconst (v := nI 0) (pq := 15) C dX11_areTests_14 (by decide) rfl ?_
    refine r_istore_n (j := 2) (pq := 16) C dX11_areTests_15 rfl (by decide) rfl rfl ?_
    dsimp only [List.set]
    refine r_iconst (v := nI 0) (pq := 17) C dX11_areTests_16 (by decide) rfl ?_
    refine r_istore_n (j := 3) (pq := 18) C dX11_areTests_17 rfl (by decide) rfl rfl ?_
    dsimp only [List.set]
    exact loop 4 0 (by omega) (by omega) (fun k hk => absurd hk (by omega))
  · skip
    refine r_iload_n (pq := 1) C dX11_areTests_0 rfl rfl ?_
    refine r_if_lt (tg := 10) (pq := 4) C dX11_areTests_1 (by decide) rfl (fun c1 => ?_) (fun c1 => ?_)
    · refine r_iconst (v := nI 0) (pq := 11) C dX11_areTests_10 (by decide) rfl ?_
      refine r_zret C D rfl (by decide) ⟨Nat.le_refl _, Nat.le_refl _⟩ dX11_areTests_11 ?_
      refine ⟨rfl, ?_⟩
      rw [b2_f (fun h => hok h.1)]
    · refine r_iload_n (pq := 5) C dX11_areTests_4 rfl rfl ?_
      refine r_bipush (v := nI 64) (pq := 7) C dX11_areTests_5 (by decide) rfl ?_
      refine r_icmp_lt (tg := 12) (pq := 10) C dX11_areTests_7 (by decide) rfl (fun c7 => ?_) (fun c7 => ?_)
      · exfalso
        rw [lt_i, nI_toInt (by omega)] at c7
        rw [lt_i] at c1
        have e0 : (0 : Int32).toInt = 0 := rfl
        exact hok ⟨by omega, by omega⟩
      · refine r_iconst (v := nI 0) (pq := 11) C dX11_areTests_10 (by decide) rfl ?_
        refine r_zret C D rfl (by decide) ⟨Nat.le_refl _, Nat.le_refl _⟩ dX11_areTests_11 ?_
        refine ⟨rfl, ?_⟩
        rw [b2_f (fun h => hok h.1)]

set_option maxHeartbeats 4000000 in
set_option maxRecDepth 100000 in
/-- pairOf -/
theorem mc_X11_pairOf {l : Launch} {E : EV} {w : RW} {a9 b9 : Nat} (ha : a9 < 8) (hb : b9 < 8) : MC l E yX11_pairOf wsX11_pairOf 1 0 0 [.int (nI a9), .int (nI b9)] (w) (fun v w' => w' = w ∧ v = some (.int (nI (pr a9 b9)))) := by
  refine MC.enter (cc := cX11_pairOf) (maxL := 2) (ret := (some .int)) (lv0 := [some (.int (nI a9)), some (.int (nI b9))]) (by decide) rfl (by simp [Value.category]) (Nat.le_of_ble_eq_true rfl) rfl ?_
  intro X hl hE C D
  subst hl
  subst hE
  refine r_iload_n (pq := 1) C dX11_pairOf_0 rfl rfl ?_
  refine r_iload_n (pq := 2) C dX11_pairOf_1 rfl rfl ?_
  refine r_min (pq := 5) C (by decide +kernel) (by decide +kernel) (by decide +kernel) (by decide +kernel) (by decide) (Nat.le_of_ble_eq_true rfl) ⟨Nat.zero_le _, Nat.zero_le _⟩ dX11_pairOf_2 rfl ?_
  refine r_at (mn_n (by omega) (by omega)) ?_
  refine r_bipush (v := nI 8) (pq := 7) C dX11_pairOf_5 (by decide) rfl ?_
  refine rN_imul (pq := 8) C dX11_pairOf_7 rfl ?_
  refine r_iload_n (pq := 9) C dX11_pairOf_8 rfl rfl ?_
  refine r_iload_n (pq := 10) C dX11_pairOf_9 rfl rfl ?_
  refine r_max (pq := 13) C (by decide +kernel) (by decide +kernel) (by decide +kernel) (by decide +kernel) (by decide) (Nat.le_of_ble_eq_true rfl) ⟨Nat.zero_le _, Nat.zero_le _⟩ dX11_pairOf_10 rfl ?_
  refine r_at (mx_n (by omega) (by omega)) ?_
  refine rN_iadd (pq := 14) C dX11_pairOf_13 rfl ?_
  refine r_iret C D rfl ⟨Nat.le_refl _, Nat.le_refl _⟩ dX11_pairOf_14 ?_
  refine ⟨rfl, ?_⟩
  congr 3
  unfold pr
  by_cases h : a9 < b9
  · rw [if_pos h, Nat.min_eq_left (by omega), Nat.max_eq_right (by omega)]; omega
  · rw [if_neg h, Nat.min_eq_right (by omega), Nat.max_eq_left (by omega)]; omega

theorem nI_nm1 {t : Nat} (h : t < 2147483648) : nI t ≠ -1 := nI_ne_neg h (by decide)
theorem upg_s (g : Nat → Nat → Int32) (k i : Nat) (x : Int32) : upg g k i x k i = x := by unfold upg; rw [va_s]; unfold upd; rw [if_pos rfl]
theorem upg_n (g : Nat → Nat → Int32) {k i j : Nat} (x : Int32) (h : j ≠ i) : upg g k i x k j = g k j := by unfold upg; rw [va_s]; unfold upd; rw [if_neg h]
theorem upg_o (g : Nat → Nat → Int32) {k i j : Nat} (x : Int32) (h : j ≠ k) : upg g k i x j = g j := by unfold upg; rw [va_n _ _ h]
theorem tcn_up {s : ST} {k t : Nat} (hk : k < 64) (ht : t < 64) : tcn (s.1, s.2.1, upg s.2.2 23 k (nI t)) = if s.2.2 23 k = -1 then tcn s + 1 else tcn s := by
  have q := ps_upd (fun k => if s.2.2 23 k = -1 then 0 else 1) (fun j => if upg s.2.2 23 k (nI t) 23 j = -1 then 0 else 1) k (fun i hi => by show (if upg s.2.2 23 k (nI t) 23 i = -1 then 0 else 1) = _; rw [upg_n _ _ hi]) 64 hk
  rw [upg_s, if_neg (nI_nm1 (by omega))] at q
  show ps _ 64 = _
  unfold tcn
  by_cases h : s.2.2 23 k = -1
  · rw [if_pos h] at q ⊢
    exact q
  · rw [if_neg h] at q ⊢
    exact Nat.succ.inj q
theorem tcn_le (s : ST) : tcn s ≤ 64 := ps_le (fun i => by split <;> omega) 64

set_option maxHeartbeats 4000000 in
set_option maxRecDepth 100000 in
/-- treaty -/
theorem mc_X11_treaty {l : Launch} {E : EV} {w : RW} {B : Nat → Nat} {s : ST} (hS : SI s) (hN : NS E B s w) {x y z : Int32} : MC l E yX11_treaty wsX11_treaty 2 0 0 [.ref (B 0), .int x, .int y, .int z] (w) (nP E B w (rs_treaty s x y z) (nx_treaty s x y z)) := by
  refine MC.enter (cc := cX11_treaty) (maxL := 6) (ret := (some .int)) (lv0 := [some (.ref (B 0)), some (.int x), some (.int y), some (.int z), none, none]) (by decide) rfl (by simp [Value.category]) (Nat.le_of_ble_eq_true rfl) rfl ?_
  intro X hl hE C D
  subst hl
  subst hE
  have hI1 : s.1 1 ≤ 6 := hS.2.1
  have hI5 : s.1 5 ≤ 80 := hS.2.2.1
  have hI16 : s.1 16 ≤ 12 := hS.2.2.2.1
  have hNN := hN
  obtain ⟨o0, ⟨u1, e1, f1⟩, ⟨u2, e2, f2⟩, ⟨u3, e3, f3⟩, ⟨u5, e5, f5⟩, ⟨u6, e6, f6⟩, ⟨u8, e8, f8⟩, ⟨u10, e10, f10⟩, ⟨u11, e11, f11⟩, ⟨u13, e13, f13⟩, ⟨u14, e14, f14⟩, ⟨u15, e15⟩, ⟨u16, e16⟩, h20, h30, h100, h200, h220, h240, h300, h310⟩ := hNN
  by_cases hok : okTreaty x y z
  · have hT := okT.mp hok
    obtain ⟨a, ha, rfl⟩ := rg_of hT.1 (by omega)
    obtain ⟨b, hb, rfl⟩ := rg_of hT.2.1 (by omega)
    obtain ⟨t, ht64, rfl⟩ := rg_of hT.2.2.2.1 (by omega)
    have hab : a ≠ b := fun e => hT.2.2.1 (by rw [e])
    have hpr := pr_lt ha hb
    have htc := tcn_le s
    refine r_iload_n (pq := 1) C dX11_treaty_0 rfl rfl ?_
    refine r_callS (pq := 4) C (mc_X11_isLand) gX11_treaty_X11_isLand rfl (na := 1) (by decide +kernel) rfl (by decide) (by decide) (Nat.le_of_ble_eq_true rfl) ⟨Nat.zero_le _, Nat.zero_le _⟩ dX11_treaty_1 rfl rfl (fun r9 w hq => ?_)
    obtain ⟨rfl, rfl⟩ := hq
    dsimp only [Option.toList, List.cons_append, List.nil_append]
    have l1 := b2_lt (rg (nI a) 8)
    refine rN_if_eq (tg := 26) (pq := 7) C dX11_treaty_4 (by decide) rfl (by omega) (fun c4 => absurd c4 (b2_1.mpr hT.1)) (fun c4 => ?_)
    refine r_iload_n (pq := 8) C dX11_treaty_7 rfl rfl ?_
    refine r_callS (pq := 11) C (mc_X11_isLand) gX11_treaty_X11_isLand rfl (na := 1) (by decide +kernel) rfl (by decide) (by decide) (Nat.le_of_ble_eq_true rfl) ⟨Nat.zero_le _, Nat.zero_le _⟩ dX11_treaty_8 rfl rfl (fun r9 w hq => ?_)
    obtain ⟨rfl, rfl⟩ := hq
    dsimp only [Option.toList, List.cons_append, List.nil_append]
    have l8 := b2_lt (rg (nI b) 8)
    refine rN_if_eq (tg := 26) (pq := 14) C dX11_treaty_11 (by decide) rfl (by omega) (fun c11 => absurd c11 (b2_1.mpr hT.2.1)) (fun c11 => ?_)
    refine r_iload_n (pq := 15) C dX11_treaty_14 rfl rfl ?_
    refine r_iload_n (pq := 16) C dX11_treaty_15 rfl rfl ?_
    refine rN_icmp_eq (tg := 26) (pq := 19) C dX11_treaty_16 (by decide) rfl (by omega) (by omega) (fun c16 => absurd c16 hab) (fun c16 => ?_)
    refine r_iload_n (pq := 20) C dX11_treaty_19 rfl rfl ?_
    refine r_callS (pq := 23) C (mc_X11_areTests) gX11_treaty_X11_areTests rfl (na := 1) (by decide +kernel) rfl (by decide) (by decide) (Nat.le_of_ble_eq_true rfl) ⟨Nat.zero_le _, Nat.zero_le _⟩ dX11_treaty_20 rfl rfl (fun r9 w hq => ?_)
    obtain ⟨rfl, rfl⟩ := hq
    dsimp only [Option.toList, List.cons_append, List.nil_append]
    have l20 := b2_lt (rg (nI t) 64 ∧ atF 4 0 (tn (nI t)) = true)
    refine rN_if_ne (tg := 28) (pq := 26) C dX11_treaty_23 (by decide) rfl (by omega) (fun c23 => ?_) (fun c23 => absurd c23 (b2_1.mpr hT.2.2.2))
    refine r_iload_n (pq := 29) C dX11_treaty_28 rfl rfl ?_
    refine r_iload_n (pq := 30) C dX11_treaty_29 rfl rfl ?_
    refine r_callS (pq := 33) C (mc_X11_pairOf ha hb) gX11_treaty_X11_pairOf rfl (na := 2) (by decide +kernel) rfl (by decide) (by decide) (Nat.le_of_ble_eq_true rfl) ⟨Nat.zero_le _, Nat.zero_le _⟩ dX11_treaty_30 rfl rfl (fun r9 w hq => ?_)
    obtain ⟨rfl, rfl⟩ := hq
    dsimp only [Option.toList, List.cons_append, List.nil_append]
    refine r_istore (j := 4) (pq := 35) C dX11_treaty_33 rfl (by decide) rfl rfl ?_
    dsimp only [List.set]
    refine r_aload_n (pq := 36) C dX11_treaty_35 rfl rfl ?_
    refine r_getf (pq := 39) C 10 o0 rfl (by decide) (by decide +kernel) (Or.inl rfl) rfl dX11_treaty_36 rfl ?_
    refine r_iload (pq := 41) C dX11_treaty_39 rfl rfl ?_
    refine rN_iald (pq := 42) C e11 (by omega) (by decide) dX11_treaty_41 rfl ?_
    refine r_at (f11 _ hpr) ?_
    refine r_iconst (v := (-1)) (pq := 43) C dX11_treaty_42 (by decide) rfl ?_
    refine r_icmp_eq (tg := 50) (pq := 46) C dX11_treaty_43 (by decide) rfl (fun c43 => ?_) (fun c43 => ?_)
    · refine r_iconst (v := nI 0) (pq := 51) C dX11_treaty_50 (by decide) rfl ?_
      refine r_istore (j := 5) (pq := 53) C dX11_treaty_51 rfl (by decide) rfl rfl ?_
      dsimp only [List.set]
      refine r_aload_n (pq := 54) C dX11_treaty_53 rfl rfl ?_
      refine r_getf (pq := 57) C 10 o0 rfl (by decide) (by decide +kernel) (Or.inl rfl) rfl dX11_treaty_54 rfl ?_
      refine r_iload (pq := 59) C dX11_treaty_57 rfl rfl ?_
      refine r_iload_n (pq := 60) C dX11_treaty_59 rfl rfl ?_
      refine rN_iast (pq := 61) C e11 (by omega) (by decide) dX11_treaty_60 rfl ?_
      refine r_iload (pq := 63) C dX11_treaty_61 rfl rfl ?_
      refine rN_if_ne (tg := 76) (pq := 66) C dX11_treaty_63 (by decide) rfl (by omega) (fun c63 => ?_) (fun c63 => ?_)
      · refine r_iload (pq := 78) C dX11_treaty_76 rfl rfl ?_
        refine rN_if_eq (tg := 85) (pq := 81) C dX11_treaty_78 (by decide) rfl (by omega) (fun c78 => ?_) (fun c78 => ?_)
        · refine r_iconst (v := nI 0) (pq := 86) C dX11_treaty_85 (by decide) rfl ?_
          refine r_iret C D rfl ⟨Nat.le_refl _, Nat.le_refl _⟩ dX11_treaty_86 ?_
          exact absurd rfl c63
        · refine r_iconst (v := nI 1) (pq := 82) C dX11_treaty_81 (by decide) rfl ?_
          refine r_goto (tg := 86) C dX11_treaty_82 (by decide) ?_
          refine r_iret C D rfl ⟨Nat.le_refl _, Nat.le_refl _⟩ dX11_treaty_86 ?_
          exact absurd rfl c63
      · refine r_aload_n (pq := 67) C dX11_treaty_66 rfl rfl ?_
        refine r_dup (pq := 68) C dX11_treaty_67 rfl rfl ?_
        refine r_getf (pq := 71) C 11 ((va_n _ _ (by decide)).trans o0) rfl (by decide) (by decide +kernel) (Or.inl rfl) rfl dX11_treaty_68 rfl ?_
        refine r_iconst (v := nI 1) (pq := 72) C dX11_treaty_71 (by decide) rfl ?_
        refine rN_iadd (pq := 73) C dX11_treaty_72 rfl ?_
        refine r_putf (pq := 76) C 11 ((va_n _ _ (by decide)).trans o0) rfl tyX11 tyX11_ok nmX11 (by decide) (by decide +kernel) (Or.inl rfl) rfl rfl rfl rfl (Nat.le_of_ble_eq_true rfl) dX11_treaty_73 rfl ?_
        refine r_iload (pq := 78) C dX11_treaty_76 rfl rfl ?_
        refine rN_if_eq (tg := 85) (pq := 81) C dX11_treaty_78 (by decide) rfl (by omega) (fun c78 => ?_) (fun c78 => ?_)
        · refine r_iconst (v := nI 0) (pq := 86) C dX11_treaty_85 (by decide) rfl ?_
          refine r_iret C D rfl ⟨Nat.le_refl _, Nat.le_refl _⟩ dX11_treaty_86 ?_
          refine ⟨?_, fun q hq => ((va_n _ _ (by omega)).trans (va_n _ _ (by omega))), B, rfl, ?_⟩
          · unfold rs_treaty
            rw [if_pos hok, tn_nI (by omega), tn_nI (by omega), if_pos c43]
            rfl
          · unfold nx_treaty
            rw [if_pos hok, tn_nI (by omega), tn_nI (by omega)]
            refine ⟨?_, ?_, ?_, ?_, ?_, ?_, ?_, ?_, ?_, ?_, ?_, ?_, ?_, ?_, ?_, ?_, ?_, ?_, ?_, ?_, ?_⟩
            · rw [va_s]
              unfold nFs
              rw [tcn_up hpr ht64, if_pos c43]
              rfl
            · exact ⟨u1, (((va_n _ _ (by omega)).trans (va_n _ _ (by omega)))).trans e1, f1⟩
            · exact ⟨u2, (((va_n _ _ (by omega)).trans (va_n _ _ (by omega)))).trans e2, f2⟩
            · exact ⟨u3, (((va_n _ _ (by omega)).trans (va_n _ _ (by omega)))).trans e3, f3⟩
            · exact ⟨u5, (((va_n _ _ (by omega)).trans (va_n _ _ (by omega)))).trans e5, f5⟩
            · exact ⟨u6, (((va_n _ _ (by omega)).trans (va_n _ _ (by omega)))).trans e6, f6⟩
            · exact ⟨u8, (((va_n _ _ (by omega)).trans (va_n _ _ (by omega)))).trans e8, f8⟩
            · exact ⟨u10, (((va_n _ _ (by omega)).trans (va_n _ _ (by omega)))).trans e10, f10⟩
            · rw [va_n _ _ (by decide)]; refine ⟨_, va_s _ _ _, fun k hk => ?_⟩
              show _ = upg s.2.2 23 (pr a b) (nI t) 23 k
              unfold upd
              by_cases e : k = pr a b
              · subst e; rw [if_pos rfl, upg_s]
              · rw [if_neg e, f11 k hk, upg_n _ _ e]
            · exact ⟨u13, (((va_n _ _ (by omega)).trans (va_n _ _ (by omega)))).trans e13, f13⟩
            · exact ⟨u14, (((va_n _ _ (by omega)).trans (va_n _ _ (by omega)))).trans e14, f14⟩
            · exact ⟨u15, (((va_n _ _ (by omega)).trans (va_n _ _ (by omega)))).trans e15⟩
            · exact ⟨u16, (((va_n _ _ (by omega)).trans (va_n _ _ (by omega)))).trans e16⟩
            · intro p hp
              obtain ⟨h9, a1, a2⟩ := h20 p hp
              exact ⟨h9, (((va_n _ _ (by omega)).trans (va_n _ _ (by omega)))).trans a1, a2⟩
            · intro l hl
              obtain ⟨x, y, a1⟩ := h30 l hl
              exact ⟨x, y, (((va_n _ _ (by omega)).trans (va_n _ _ (by omega)))).trans a1⟩
            · intro m hm
              exact (((va_n _ _ (by omega)).trans (va_n _ _ (by omega)))).trans (h100 m hm)
            · intro j hj
              obtain ⟨z, a1⟩ := h200 j hj
              exact ⟨z, (((va_n _ _ (by omega)).trans (va_n _ _ (by omega)))).trans a1⟩
            · intro j hj
              obtain ⟨x, y, a1⟩ := h220 j hj
              exact ⟨x, y, (((va_n _ _ (by omega)).trans (va_n _ _ (by omega)))).trans a1⟩
            · intro j hj
              obtain ⟨x, y, a1⟩ := h240 j hj
              exact ⟨x, y, (((va_n _ _ (by omega)).trans (va_n _ _ (by omega)))).trans a1⟩
            · intro d hd h3
              exact (((va_n _ _ (by omega)).trans (va_n _ _ (by omega)))).trans (h300 d hd h3)
            · intro d hd h3
              obtain ⟨h9, a1, a2⟩ := h310 d hd h3
              exact ⟨h9, (((va_n _ _ (by omega)).trans (va_n _ _ (by omega)))).trans a1, a2⟩
        · refine r_iconst (v := nI 1) (pq := 82) C dX11_treaty_81 (by decide) rfl ?_
          refine r_goto (tg := 86) C dX11_treaty_82 (by decide) ?_
          refine r_iret C D rfl ⟨Nat.le_refl _, Nat.le_refl _⟩ dX11_treaty_86 ?_
          exact absurd rfl c78
    · refine r_iconst (v := nI 1) (pq := 47) C dX11_treaty_46 (by decide) rfl ?_
      refine r_goto (tg := 51) C dX11_treaty_47 (by decide) ?_
      refine r_istore (j := 5) (pq := 53) C dX11_treaty_51 rfl (by decide) rfl rfl ?_
      dsimp only [List.set]
      refine r_aload_n (pq := 54) C dX11_treaty_53 rfl rfl ?_
      refine r_getf (pq := 57) C 10 o0 rfl (by decide) (by decide +kernel) (Or.inl rfl) rfl dX11_treaty_54 rfl ?_
      refine r_iload (pq := 59) C dX11_treaty_57 rfl rfl ?_
      refine r_iload_n (pq := 60) C dX11_treaty_59 rfl rfl ?_
      refine rN_iast (pq := 61) C e11 (by omega) (by decide) dX11_treaty_60 rfl ?_
      refine r_iload (pq := 63) C dX11_treaty_61 rfl rfl ?_
      refine rN_if_ne (tg := 76) (pq := 66) C dX11_treaty_63 (by decide) rfl (by omega) (fun c63 => ?_) (fun c63 => ?_)
      · refine r_iload (pq := 78) C dX11_treaty_76 rfl rfl ?_
        refine rN_if_eq (tg := 85) (pq := 81) C dX11_treaty_78 (by decide) rfl (by omega) (fun c78 => ?_) (fun c78 => ?_)
        · refine r_iconst (v := nI 0) (pq := 86) C dX11_treaty_85 (by decide) rfl ?_
          refine r_iret C D rfl ⟨Nat.le_refl _, Nat.le_refl _⟩ dX11_treaty_86 ?_
          exact absurd c78 (by decide)
        · refine r_iconst (v := nI 1) (pq := 82) C dX11_treaty_81 (by decide) rfl ?_
          refine r_goto (tg := 86) C dX11_treaty_82 (by decide) ?_
          refine r_iret C D rfl ⟨Nat.le_refl _, Nat.le_refl _⟩ dX11_treaty_86 ?_
          refine ⟨?_, fun q hq => (va_n _ _ (by omega)), B, rfl, ?_⟩
          · unfold rs_treaty
            rw [if_pos hok, tn_nI (by omega), tn_nI (by omega), if_neg c43]
            rfl
          · unfold nx_treaty
            rw [if_pos hok, tn_nI (by omega), tn_nI (by omega)]
            refine ⟨?_, ?_, ?_, ?_, ?_, ?_, ?_, ?_, ?_, ?_, ?_, ?_, ?_, ?_, ?_, ?_, ?_, ?_, ?_, ?_, ?_⟩
            · rw [va_n _ _ (by decide), o0]
              unfold nFs
              rw [tcn_up hpr ht64, if_neg c43]
            · exact ⟨u1, ((va_n _ _ (by omega))).trans e1, f1⟩
            · exact ⟨u2, ((va_n _ _ (by omega))).trans e2, f2⟩
            · exact ⟨u3, ((va_n _ _ (by omega))).trans e3, f3⟩
            · exact ⟨u5, ((va_n _ _ (by omega))).trans e5, f5⟩
            · exact ⟨u6, ((va_n _ _ (by omega))).trans e6, f6⟩
            · exact ⟨u8, ((va_n _ _ (by omega))).trans e8, f8⟩
            · exact ⟨u10, ((va_n _ _ (by omega))).trans e10, f10⟩
            · refine ⟨_, va_s _ _ _, fun k hk => ?_⟩
              show _ = upg s.2.2 23 (pr a b) (nI t) 23 k
              unfold upd
              by_cases e : k = pr a b
              · subst e; rw [if_pos rfl, upg_s]
              · rw [if_neg e, f11 k hk, upg_n _ _ e]
            · exact ⟨u13, ((va_n _ _ (by omega))).trans e13, f13⟩
            · exact ⟨u14, ((va_n _ _ (by omega))).trans e14, f14⟩
            · exact ⟨u15, ((va_n _ _ (by omega))).trans e15⟩
            · exact ⟨u16, ((va_n _ _ (by omega))).trans e16⟩
            · intro p hp
              obtain ⟨h9, a1, a2⟩ := h20 p hp
              exact ⟨h9, ((va_n _ _ (by omega))).trans a1, a2⟩
            · intro l hl
              obtain ⟨x, y, a1⟩ := h30 l hl
              exact ⟨x, y, ((va_n _ _ (by omega))).trans a1⟩
            · intro m hm
              exact ((va_n _ _ (by omega))).trans (h100 m hm)
            · intro j hj
              obtain ⟨z, a1⟩ := h200 j hj
              exact ⟨z, ((va_n _ _ (by omega))).trans a1⟩
            · intro j hj
              obtain ⟨x, y, a1⟩ := h220 j hj
              exact ⟨x, y, ((va_n _ _ (by omega))).trans a1⟩
            · intro j hj
              obtain ⟨x, y, a1⟩ := h240 j hj
              exact ⟨x, y, ((va_n _ _ (by omega))).trans a1⟩
            · intro d hd h3
              exact ((va_n _ _ (by omega))).trans (h300 d hd h3)
            · intro d hd h3
              obtain ⟨h9, a1, a2⟩ := h310 d hd h3
              exact ⟨h9, ((va_n _ _ (by omega))).trans a1, a2⟩
      · refine r_aload_n (pq := 67) C dX11_treaty_66 rfl rfl ?_
        refine r_dup (pq := 68) C dX11_treaty_67 rfl rfl ?_
        refine r_getf (pq := 71) C 11 ((va_n _ _ (by decide)).trans o0) rfl (by decide) (by decide +kernel) (Or.inl rfl) rfl dX11_treaty_68 rfl ?_
        refine r_iconst (v := nI 1) (pq := 72) C dX11_treaty_71 (by decide) rfl ?_
        refine rN_iadd (pq := 73) C dX11_treaty_72 rfl ?_
        refine r_putf (pq := 76) C 11 ((va_n _ _ (by decide)).trans o0) rfl tyX11 tyX11_ok nmX11 (by decide) (by decide +kernel) (Or.inl rfl) rfl rfl rfl rfl (Nat.le_of_ble_eq_true rfl) dX11_treaty_73 rfl ?_
        refine r_iload (pq := 78) C dX11_treaty_76 rfl rfl ?_
        refine rN_if_eq (tg := 85) (pq := 81) C dX11_treaty_78 (by decide) rfl (by omega) (fun c78 => ?_) (fun c78 => ?_)
        · refine r_iconst (v := nI 0) (pq := 86) C dX11_treaty_85 (by decide) rfl ?_
          refine r_iret C D rfl ⟨Nat.le_refl _, Nat.le_refl _⟩ dX11_treaty_86 ?_
          exact absurd c63 (by decide)
        · refine r_iconst (v := nI 1) (pq := 82) C dX11_treaty_81 (by decide) rfl ?_
          refine r_goto (tg := 86) C dX11_treaty_82 (by decide) ?_
          refine r_iret C D rfl ⟨Nat.le_refl _, Nat.le_refl _⟩ dX11_treaty_86 ?_
          exact absurd c63 (by decide)
  · have hbad := hok
    refine r_iload_n (pq := 1) C dX11_treaty_0 rfl rfl ?_
    refine r_callS (pq := 4) C (mc_X11_isLand) gX11_treaty_X11_isLand rfl (na := 1) (by decide +kernel) rfl (by decide) (by decide) (Nat.le_of_ble_eq_true rfl) ⟨Nat.zero_le _, Nat.zero_le _⟩ dX11_treaty_1 rfl rfl (fun r9 w hq => ?_)
    obtain ⟨rfl, rfl⟩ := hq
    dsimp only [Option.toList, List.cons_append, List.nil_append]
    have l1 := b2_lt (rg x 8)
    refine rN_if_eq (tg := 26) (pq := 7) C dX11_treaty_4 (by decide) rfl (by omega) (fun c4 => ?_) (fun c4 => ?_)
    · refine r_iconst (v := (-1)) (pq := 27) C dX11_treaty_26 (by decide) rfl ?_
      refine r_iret C D rfl ⟨Nat.le_refl _, Nat.le_refl _⟩ dX11_treaty_27 ?_
      refine ⟨?_, fun _ _ => rfl, B, rfl, ?_⟩
      · unfold rs_treaty
        rw [if_neg hbad]
      · unfold nx_treaty
        rw [if_neg hbad]
        exact hN
    · refine r_iload_n (pq := 8) C dX11_treaty_7 rfl rfl ?_
      refine r_callS (pq := 11) C (mc_X11_isLand) gX11_treaty_X11_isLand rfl (na := 1) (by decide +kernel) rfl (by decide) (by decide) (Nat.le_of_ble_eq_true rfl) ⟨Nat.zero_le _, Nat.zero_le _⟩ dX11_treaty_8 rfl rfl (fun r9 w hq => ?_)
      obtain ⟨rfl, rfl⟩ := hq
      dsimp only [Option.toList, List.cons_append, List.nil_append]
      have l8 := b2_lt (rg y 8)
      refine rN_if_eq (tg := 26) (pq := 14) C dX11_treaty_11 (by decide) rfl (by omega) (fun c11 => ?_) (fun c11 => ?_)
      · refine r_iconst (v := (-1)) (pq := 27) C dX11_treaty_26 (by decide) rfl ?_
        refine r_iret C D rfl ⟨Nat.le_refl _, Nat.le_refl _⟩ dX11_treaty_27 ?_
        refine ⟨?_, fun _ _ => rfl, B, rfl, ?_⟩
        · unfold rs_treaty
          rw [if_neg hbad]
        · unfold nx_treaty
          rw [if_neg hbad]
          exact hN
      · refine r_iload_n (pq := 15) C dX11_treaty_14 rfl rfl ?_
        refine r_iload_n (pq := 16) C dX11_treaty_15 rfl rfl ?_
        refine r_icmp_eq (tg := 26) (pq := 19) C dX11_treaty_16 (by decide) rfl (fun c16 => ?_) (fun c16 => ?_)
        · refine r_iconst (v := (-1)) (pq := 27) C dX11_treaty_26 (by decide) rfl ?_
          refine r_iret C D rfl ⟨Nat.le_refl _, Nat.le_refl _⟩ dX11_treaty_27 ?_
          refine ⟨?_, fun _ _ => rfl, B, rfl, ?_⟩
          · unfold rs_treaty
            rw [if_neg hbad]
          · unfold nx_treaty
            rw [if_neg hbad]
            exact hN
        · refine r_iload_n (pq := 20) C dX11_treaty_19 rfl rfl ?_
          refine r_callS (pq := 23) C (mc_X11_areTests) gX11_treaty_X11_areTests rfl (na := 1) (by decide +kernel) rfl (by decide) (by decide) (Nat.le_of_ble_eq_true rfl) ⟨Nat.zero_le _, Nat.zero_le _⟩ dX11_treaty_20 rfl rfl (fun r9 w hq => ?_)
          obtain ⟨rfl, rfl⟩ := hq
          dsimp only [Option.toList, List.cons_append, List.nil_append]
          have l20 := b2_lt (rg z 64 ∧ atF 4 0 (tn z) = true)
          refine rN_if_ne (tg := 28) (pq := 26) C dX11_treaty_23 (by decide) rfl (by omega) (fun c23 => ?_) (fun c23 => ?_)
          · exact absurd (okT.mpr ⟨b2_1.mp c4, b2_1.mp c11, c16, b2_1.mp c23⟩) hbad
          · refine r_iconst (v := (-1)) (pq := 27) C dX11_treaty_26 (by decide) rfl ?_
            refine r_iret C D rfl ⟨Nat.le_refl _, Nat.le_refl _⟩ dX11_treaty_27 ?_
            refine ⟨?_, fun _ _ => rfl, B, rfl, ?_⟩
            · unfold rs_treaty
              rw [if_neg hbad]
            · unfold nx_treaty
              rw [if_neg hbad]
              exact hN


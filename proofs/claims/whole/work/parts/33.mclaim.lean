/-! ===== the reference: claims and treaties ===== -/
set_option maxHeartbeats 4000000 in
set_option maxRecDepth 100000 in
/-- claim -/
theorem mc_X12_claim {l : Launch} {E : EV} {A : Nat → Nat} {w0 : RW} {I : Nat → Nat} {f : Nat → Nat → Nat} {g : Nat → Nat → Int32} (hS : SI (I, f, g)) {x y : Int32} : MC l E yX12_claim wsX12_claim 2 0 0 [.ref (A 0), .int x, .int y] (WM E A w0 I f g) (mP E A w0 (rs_claim (I, f, g) x y) (nx_claim (I, f, g) x y)) := by
  refine MC.enter (cc := cX12_claim) (maxL := 4) (ret := (some .int)) (lv0 := [some (.ref (A 0)), some (.int x), some (.int y), none]) (by decide) rfl (by simp [Value.category]) (Nat.le_of_ble_eq_true rfl) rfl ?_
  intro X hl hE C D
  subst hl
  subst hE
  have hB : mOK I f := hS.1
  by_cases hok : rg x 8 ∧ (1 ≤ y.toInt ∧ y.toInt ≤ 100)
  · obtain ⟨l9, hl9, rfl⟩ := rg_of hok.1 (by omega)
    obtain ⟨n9, hn1, hn2, rfl⟩ := in_of (a := 1) (b := 100) hok.2 (by omega)
    refine r_iload_n (pq := 1) C dX12_claim_0 rfl rfl ?_
    refine r_callS (pq := 4) C (mc_X12_isLand) gX12_claim_X12_isLand rfl (na := 1) (by decide +kernel) rfl (by decide) (by decide) (Nat.le_of_ble_eq_true rfl) ⟨Nat.zero_le _, Nat.zero_le _⟩ dX12_claim_1 rfl rfl (fun r9 w9 hq => ?_)
    obtain ⟨rfl, rfl⟩ := hq
    dsimp only [Option.toList, List.cons_append, List.nil_append]
    have l1 := b2_lt (rg (nI l9) 8)
    refine rN_if_eq (tg := 17) (pq := 7) C dX12_claim_4 (by decide) rfl (by omega) (fun c4 => absurd c4 (b2_1.mpr (hok.1))) (fun c4 => ?_)
    refine r_iload_n (pq := 8) C dX12_claim_7 rfl rfl ?_
    refine r_iconst (v := nI 1) (pq := 9) C dX12_claim_8 (by decide) rfl ?_
    refine r_bipush (v := nI 100) (pq := 11) C dX12_claim_9 (by decide) rfl ?_
    refine r_callS (pq := 14) C (mc_X12_in) gX12_claim_X12_in rfl (na := 3) (by decide +kernel) rfl (by decide) (by decide) (Nat.le_of_ble_eq_true rfl) ⟨Nat.zero_le _, Nat.zero_le _⟩ dX12_claim_11 rfl rfl (fun r9 w9 hq => ?_)
    obtain ⟨rfl, rfl⟩ := hq
    dsimp only [Option.toList, List.cons_append, List.nil_append]
    have l11 := b2_lt ((nI 1).toInt ≤ (nI n9).toInt ∧ (nI n9).toInt ≤ (nI 100).toInt)
    refine rN_if_ne (tg := 19) (pq := 17) C dX12_claim_14 (by decide) rfl (by omega) (fun c14 => ?_) (fun c14 => absurd c14 (b2_1.mpr ((in_b (by omega) (by omega)).mpr hok.2)))
    refine r_aload_n (pq := 20) C dX12_claim_19 rfl rfl ?_
    refine m_geta (pq := 23) C 22 (by decide) rfl rfl (by decide +kernel) dX12_claim_20 rfl ?_
    refine r_iload_n (pq := 24) C dX12_claim_23 rfl rfl ?_
    refine m_iald (pq := 25) C hB 22 8 rfl rfl (by decide) rfl (by decide) (by omega) dX12_claim_24 rfl (fun b24 => ?_)
    refine r_istore_n (j := 3) (pq := 26) C dX12_claim_25 rfl (by decide) rfl rfl ?_
    dsimp only [List.set]
    refine r_aload_n (pq := 27) C dX12_claim_26 rfl rfl ?_
    refine m_geta (pq := 30) C 22 (by decide) rfl rfl (by decide +kernel) dX12_claim_27 rfl ?_
    refine r_iload_n (pq := 31) C dX12_claim_30 rfl rfl ?_
    refine r_iload_n (pq := 32) C dX12_claim_31 rfl rfl ?_
    refine m_iast (pq := 33) C hB 22 8 rfl rfl (by decide) rfl (by decide) (by omega) dX12_claim_32 rfl (by omega) (fun hB => ?_)
    refine r_iload_n (pq := 34) C dX12_claim_33 rfl rfl ?_
    refine r_iret C D rfl ⟨Nat.le_refl _, Nat.le_refl _⟩ dX12_claim_34 ?_
    refine ⟨?_, (_, _, _), rfl, hB, ?_⟩
    · unfold rs_claim
      rw [if_pos hok, tn_nI (by omega)]
    · unfold nx_claim
      rw [if_pos hok, tn_nI (by omega), tn_nI (by omega)]
      exact EQ_rfl _
  · have hbad := hok
    refine r_iload_n (pq := 1) C dX12_claim_0 rfl rfl ?_
    refine r_callS (pq := 4) C (mc_X12_isLand) gX12_claim_X12_isLand rfl (na := 1) (by decide +kernel) rfl (by decide) (by decide) (Nat.le_of_ble_eq_true rfl) ⟨Nat.zero_le _, Nat.zero_le _⟩ dX12_claim_1 rfl rfl (fun r9 w9 hq => ?_)
    obtain ⟨rfl, rfl⟩ := hq
    dsimp only [Option.toList, List.cons_append, List.nil_append]
    have l1 := b2_lt (rg x 8)
    refine rN_if_eq (tg := 17) (pq := 7) C dX12_claim_4 (by decide) rfl (by omega) (fun c4 => ?_) (fun c4 => ?_)
    · refine r_iconst (v := (-1)) (pq := 18) C dX12_claim_17 (by decide) rfl ?_
      refine r_iret C D rfl ⟨Nat.le_refl _, Nat.le_refl _⟩ dX12_claim_18 ?_
      refine ⟨?_, (I, f, g), rfl, hB, ?_⟩
      · unfold rs_claim
        rw [if_neg hbad]
      · unfold nx_claim
        rw [if_neg hbad]
        exact EQ_rfl _
    · refine r_iload_n (pq := 8) C dX12_claim_7 rfl rfl ?_
      refine r_iconst (v := nI 1) (pq := 9) C dX12_claim_8 (by decide) rfl ?_
      refine r_bipush (v := nI 100) (pq := 11) C dX12_claim_9 (by decide) rfl ?_
      refine r_callS (pq := 14) C (mc_X12_in) gX12_claim_X12_in rfl (na := 3) (by decide +kernel) rfl (by decide) (by decide) (Nat.le_of_ble_eq_true rfl) ⟨Nat.zero_le _, Nat.zero_le _⟩ dX12_claim_11 rfl rfl (fun r9 w9 hq => ?_)
      obtain ⟨rfl, rfl⟩ := hq
      dsimp only [Option.toList, List.cons_append, List.nil_append]
      have l11 := b2_lt ((nI 1).toInt ≤ y.toInt ∧ y.toInt ≤ (nI 100).toInt)
      refine rN_if_ne (tg := 19) (pq := 17) C dX12_claim_14 (by decide) rfl (by omega) (fun c14 => ?_) (fun c14 => ?_)
      · exact absurd ⟨b2_1.mp c4, (in_b (a := 1) (b := 100) (by omega) (by omega)).mp (b2_1.mp c14)⟩ hbad
      · refine r_iconst (v := (-1)) (pq := 18) C dX12_claim_17 (by decide) rfl ?_
        refine r_iret C D rfl ⟨Nat.le_refl _, Nat.le_refl _⟩ dX12_claim_18 ?_
        refine ⟨?_, (I, f, g), rfl, hB, ?_⟩
        · unfold rs_claim
          rw [if_neg hbad]
        · unfold nx_claim
          rw [if_neg hbad]
          exact EQ_rfl _

theorem clm_le (s : ST) (l : Nat) (c : Nat → Nat) (y : Nat) : clm s l c y ≤ 2 := by
  unfold clm
  split
  · omega
  · split <;> omega
set_option maxHeartbeats 4000000 in
set_option maxRecDepth 100000 in
/-- claimsOf -/
theorem mc_X12_claimsOf {l : Launch} {E : EV} {A : Nat → Nat} {w0 : RW} {I : Nat → Nat} {f : Nat → Nat → Nat} {g : Nat → Nat → Int32} (hB : mOK I f) {l8 y : Nat} (hl8 : l8 < 8) (hL : LY f) (hy : y < 4) : MC l E yX12_claimsOf wsX12_claimsOf 1 0 0 [.ref (A 0), .int (nI l8), .int (nI y)] (WM E A w0 I f g) (fun r w' => w' = WM E A w0 I f g ∧ r = some (.int (nI (clm (I, f, g) l8 (f 12) y)))) := by
  refine MC.enter (cc := cX12_claimsOf) (maxL := 4) (ret := (some .int)) (lv0 := [some (.ref (A 0)), some (.int (nI l8)), some (.int (nI y)), none]) (by decide) rfl (by simp [Value.category]) (Nat.le_of_ble_eq_true rfl) rfl ?_
  intro X hl hE C D
  subst hl
  subst hE
  have q1 := hL l8 hl8
  have z1 := ps_le (lq_le l8 (f 12)) (100 * y + 99 + 1)
  have z2 := ps_le (mq_le l8 (f 12)) (100 * y + 99 + 1)
  refine r_bipush (v := nI 100) (pq := 2) C dX12_claimsOf_0 (by decide) rfl ?_
  refine r_iload_n (pq := 3) C dX12_claimsOf_2 rfl rfl ?_
  refine rN_imul (pq := 4) C dX12_claimsOf_3 rfl ?_
  refine r_istore_n (j := 3) (pq := 5) C dX12_claimsOf_4 rfl (by decide) rfl rfl ?_
  dsimp only [List.set]
  refine r_aload_n (pq := 6) C dX12_claimsOf_5 rfl rfl ?_
  refine r_iload_n (pq := 7) C dX12_claimsOf_6 rfl rfl ?_
  refine r_iload_n (pq := 8) C dX12_claimsOf_7 rfl rfl ?_
  refine r_iload_n (pq := 9) C dX12_claimsOf_8 rfl rfl ?_
  refine r_bipush (v := nI 99) (pq := 11) C dX12_claimsOf_9 (by decide) rfl ?_
  refine rN_iadd (pq := 12) C dX12_claimsOf_11 rfl ?_
  refine r_callV (pq := 15) C (mc_X12_leastOf hB hl8 q1 (by omega) (by omega)) (WM_obj _ _ _ _ _ _) rfl gX12_claimsOf_X12_leastOf rfl (na := 3) (by decide +kernel) rfl (by decide) (by decide) (Nat.le_of_ble_eq_true rfl) ⟨Nat.zero_le _, Nat.zero_le _⟩ dX12_claimsOf_12 rfl rfl (fun r9 w9 hq => ?_)
  obtain ⟨rfl, rfl⟩ := hq
  dsimp only [Option.toList, List.cons_append, List.nil_append]
  refine r_aload_n (pq := 16) C dX12_claimsOf_15 rfl rfl ?_
  refine m_geta (pq := 19) C 22 (by decide) rfl rfl (by decide +kernel) dX12_claimsOf_16 rfl ?_
  refine r_iload_n (pq := 20) C dX12_claimsOf_19 rfl rfl ?_
  refine m_iald (pq := 21) C hB 22 8 rfl rfl (by decide) rfl (by decide) (by omega) dX12_claimsOf_20 rfl (fun b20 => ?_)
  refine rN_icmp_lt (tg := 28) (pq := 24) C dX12_claimsOf_21 (by decide) rfl (by omega) (by omega) (fun c21 => ?_) (fun c21 => ?_)
  · refine r_aload_n (pq := 29) C dX12_claimsOf_28 rfl rfl ?_
    refine r_iload_n (pq := 30) C dX12_claimsOf_29 rfl rfl ?_
    refine r_iload_n (pq := 31) C dX12_claimsOf_30 rfl rfl ?_
    refine r_iload_n (pq := 32) C dX12_claimsOf_31 rfl rfl ?_
    refine r_bipush (v := nI 99) (pq := 34) C dX12_claimsOf_32 (by decide) rfl ?_
    refine rN_iadd (pq := 35) C dX12_claimsOf_34 rfl ?_
    refine r_callV (pq := 38) C (mc_X12_mostOf hB hl8 q1 (by omega) (by omega)) (WM_obj _ _ _ _ _ _) rfl gX12_claimsOf_X12_mostOf rfl (na := 3) (by decide +kernel) rfl (by decide) (by decide) (Nat.le_of_ble_eq_true rfl) ⟨Nat.zero_le _, Nat.zero_le _⟩ dX12_claimsOf_35 rfl rfl (fun r9 w9 hq => ?_)
    obtain ⟨rfl, rfl⟩ := hq
    dsimp only [Option.toList, List.cons_append, List.nil_append]
    refine r_aload_n (pq := 39) C dX12_claimsOf_38 rfl rfl ?_
    refine m_geta (pq := 42) C 22 (by decide) rfl rfl (by decide +kernel) dX12_claimsOf_39 rfl ?_
    refine r_iload_n (pq := 43) C dX12_claimsOf_42 rfl rfl ?_
    refine m_iald (pq := 44) C hB 22 8 rfl rfl (by decide) rfl (by decide) (by omega) dX12_claimsOf_43 rfl (fun b43 => ?_)
    refine rN_icmp_lt (tg := 51) (pq := 47) C dX12_claimsOf_44 (by decide) rfl (by omega) (by omega) (fun c44 => ?_) (fun c44 => ?_)
    · refine r_iconst (v := nI 0) (pq := 52) C dX12_claimsOf_51 (by decide) rfl ?_
      refine r_iret C D rfl ⟨Nat.le_refl _, Nat.le_refl _⟩ dX12_claimsOf_52 ?_
      refine ⟨rfl, ?_⟩
      unfold clm yl ym
      show some (Value.int (nI _)) = some (Value.int (nI (if f 22 l8 ≤ ps (lq l8 (f 12)) (100 * y + 99 + 1) - ps (lq l8 (f 12)) (100 * y) then 2 else if f 22 l8 ≤ ps (mq l8 (f 12)) (100 * y + 99 + 1) - ps (mq l8 (f 12)) (100 * y) then 1 else 0)))
      first
      | rw [if_pos (by omega)]
      | rw [if_neg (by omega), if_pos (by omega)]
      | rw [if_neg (by omega), if_neg (by omega)]
    · refine r_iconst (v := nI 1) (pq := 48) C dX12_claimsOf_47 (by decide) rfl ?_
      refine r_goto (tg := 52) C dX12_claimsOf_48 (by decide) ?_
      refine r_iret C D rfl ⟨Nat.le_refl _, Nat.le_refl _⟩ dX12_claimsOf_52 ?_
      refine ⟨rfl, ?_⟩
      unfold clm yl ym
      show some (Value.int (nI _)) = some (Value.int (nI (if f 22 l8 ≤ ps (lq l8 (f 12)) (100 * y + 99 + 1) - ps (lq l8 (f 12)) (100 * y) then 2 else if f 22 l8 ≤ ps (mq l8 (f 12)) (100 * y + 99 + 1) - ps (mq l8 (f 12)) (100 * y) then 1 else 0)))
      first
      | rw [if_pos (by omega)]
      | rw [if_neg (by omega), if_pos (by omega)]
      | rw [if_neg (by omega), if_neg (by omega)]
  · refine r_iconst (v := nI 2) (pq := 25) C dX12_claimsOf_24 (by decide) rfl ?_
    refine r_goto (tg := 52) C dX12_claimsOf_25 (by decide) ?_
    refine r_iret C D rfl ⟨Nat.le_refl _, Nat.le_refl _⟩ dX12_claimsOf_52 ?_
    refine ⟨rfl, ?_⟩
    unfold clm yl ym
    show some (Value.int (nI _)) = some (Value.int (nI (if f 22 l8 ≤ ps (lq l8 (f 12)) (100 * y + 99 + 1) - ps (lq l8 (f 12)) (100 * y) then 2 else if f 22 l8 ≤ ps (mq l8 (f 12)) (100 * y + 99 + 1) - ps (mq l8 (f 12)) (100 * y) then 1 else 0)))
    first
    | rw [if_pos (by omega)]
    | rw [if_neg (by omega), if_pos (by omega)]
    | rw [if_neg (by omega), if_neg (by omega)]

theorem clm_ext {I : Nat → Nat} {f f1 : Nat → Nat → Nat} {g : Nat → Nat → Int32} {l y : Nat} {c c' : Nat → Nat} (h : ∀ i, i < 400 → c i = c' i) (h22 : f1 22 = f 22) (hy : y < 4) : clm (I, f1, g) l c y = clm (I, f, g) l c' y := by
  unfold clm yl ym
  show (if f1 22 l ≤ _ then _ else if f1 22 l ≤ _ then _ else _) = _
  rw [h22, lqc (n := 100 * y + 100) (fun i hi => h i (by omega)), lqc (n := 100 * y) (fun i hi => h i (by omega)), mqc (n := 100 * y + 100) (fun i hi => h i (by omega)), mqc (n := 100 * y) (fun i hi => h i (by omega))]
theorem yl_ext {l y : Nat} {c c' : Nat → Nat} (h : ∀ i, i < 400 → c i = c' i) (hy : y < 4) : yl l c y = yl l c' y ∧ ym l c y = ym l c' y := by
  unfold yl ym
  rw [lqc (n := 100 * y + 100) (fun i hi => h i (by omega)), lqc (n := 100 * y) (fun i hi => h i (by omega)), mqc (n := 100 * y + 100) (fun i hi => h i (by omega)), mqc (n := 100 * y) (fun i hi => h i (by omega))]
  exact ⟨rfl, rfl⟩
theorem dct_ext {I : Nat → Nat} {f f1 : Nat → Nat → Nat} {g : Nat → Nat → Int32} {t a b p y : Nat} {c c' : Nat → Nat} (h : ∀ i, i < 400 → c i = c' i) (h2 : f1 2 = f 2) (h3 : f1 3 = f 3) (hy : y < 4) : dct (I, f1, g) t a b p y c = dct (I, f, g) t a b p y c' := by
  unfold dct
  rw [(yl_ext (l := a) h hy).1, (yl_ext (l := b) h hy).1, (yl_ext (l := a) h hy).2, (yl_ext (l := b) h hy).2]
  show (if t = 1 then (if f1 2 p = a ∨ f1 2 p = b then f1 2 p else 8) else if t = 2 then _ else if t = 3 then (if f1 3 p = a ∨ f1 3 p = b then f1 3 p else 8) else 8) = _
  rw [h2, h3]
theorem dcd_ext {I : Nat → Nat} {f f1 : Nat → Nat → Nat} {g : Nat → Nat → Int32} {a b p y : Nat} {c c' : Nat → Nat} (h : ∀ i, i < 400 → c i = c' i) (h2 : f1 2 = f 2) (h3 : f1 3 = f 3) (hy : y < 4) : dcd (I, f1, g) a b p y c = dcd (I, f, g) a b p y c' := by
  unfold dcd
  simp only [dct_ext (I := I) (g := g) (a := a) (b := b) (p := p) h h2 h3 hy]
theorem txd_ext {I : Nat → Nat} {f f1 : Nat → Nat → Nat} {g : Nat → Nat → Int32} {p y : Nat} {c c' : Nat → Nat} (h : ∀ i, i < 400 → c i = c' i) (h2 : f1 2 = f 2) (h3 : f1 3 = f 3) (h22 : f1 22 = f 22) (hy : y < 4) : txd (I, f1, g) p y c = txd (I, f, g) p y c' := by
  unfold txd nocl wins
  simp only [dcd_ext (I := I) (g := g) (p := p) h h2 h3 hy, clm_ext (I := I) (g := g) h h22 hy]

set_option maxHeartbeats 4000000 in
set_option maxRecDepth 100000 in
/-- claims -/
theorem mc_X12_claims {l : Launch} {E : EV} {A : Nat → Nat} {w0 : RW} {I : Nat → Nat} {f : Nat → Nat → Nat} {g : Nat → Nat → Int32} (hS : SI (I, f, g)) {x y z : Int32} : MC l E yX12_claims wsX12_claims 3 0 0 [.ref (A 0), .int x, .int y, .int z] (WM E A w0 I f g) (mP E A w0 (rs_claims (I, f, g) x y z) ((I, f, g))) := by
  refine MC.enter (cc := cX12_claims) (maxL := 4) (ret := (some .int)) (lv0 := [some (.ref (A 0)), some (.int x), some (.int y), some (.int z)]) (by decide) rfl (by simp [Value.category]) (Nat.le_of_ble_eq_true rfl) rfl ?_
  intro X hl hE C D
  subst hl
  subst hE
  have hB : mOK I f := hS.1
  by_cases hok : rg x 8 ∧ rg y (I 1) ∧ rg z 4
  · have hP6 : I 1 ≤ 6 := hS.2.1
    have hM : I 5 ≤ 80 := hS.2.2.1
    obtain ⟨l9, hl9, rfl⟩ := rg_of hok.1 (by omega)
    obtain ⟨p, hp, rfl⟩ := rg_of hok.2.1 (by omega)
    obtain ⟨y9, hy9, rfl⟩ := rg_of hok.2.2 (by omega)
    refine r_iload_n (pq := 1) C dX12_claims_0 rfl rfl ?_
    refine r_callS (pq := 4) C (mc_X12_isLand) gX12_claims_X12_isLand rfl (na := 1) (by decide +kernel) rfl (by decide) (by decide) (Nat.le_of_ble_eq_true rfl) ⟨Nat.zero_le _, Nat.zero_le _⟩ dX12_claims_1 rfl rfl (fun r9 w9 hq => ?_)
    obtain ⟨rfl, rfl⟩ := hq
    dsimp only [Option.toList, List.cons_append, List.nil_append]
    have l1 := b2_lt (rg (nI l9) 8)
    refine rN_if_eq (tg := 22) (pq := 7) C dX12_claims_4 (by decide) rfl (by omega) (fun c4 => absurd c4 (b2_1.mpr (hok.1))) (fun c4 => ?_)
    refine r_aload_n (pq := 8) C dX12_claims_7 rfl rfl ?_
    refine r_iload_n (pq := 9) C dX12_claims_8 rfl rfl ?_
    refine r_callV (pq := 12) C (mc_X12_isPerson hB) (WM_obj _ _ _ _ _ _) rfl gX12_claims_X12_isPerson rfl (na := 1) (by decide +kernel) rfl (by decide) (by decide) (Nat.le_of_ble_eq_true rfl) ⟨Nat.zero_le _, Nat.zero_le _⟩ dX12_claims_9 rfl rfl (fun r9 w9 hq => ?_)
    obtain ⟨rfl, rfl⟩ := hq
    dsimp only [Option.toList, List.cons_append, List.nil_append]
    have l9x := b2_lt (rg (nI p) (I 1))
    refine rN_if_eq (tg := 22) (pq := 15) C dX12_claims_12 (by decide) rfl (by omega) (fun c12 => absurd c12 (b2_1.mpr (hok.2.1))) (fun c12 => ?_)
    refine r_iload_n (pq := 16) C dX12_claims_15 rfl rfl ?_
    refine r_callS (pq := 19) C (mc_X12_isYear) gX12_claims_X12_isYear rfl (na := 1) (by decide +kernel) rfl (by decide) (by decide) (Nat.le_of_ble_eq_true rfl) ⟨Nat.zero_le _, Nat.zero_le _⟩ dX12_claims_16 rfl rfl (fun r9 w9 hq => ?_)
    obtain ⟨rfl, rfl⟩ := hq
    dsimp only [Option.toList, List.cons_append, List.nil_append]
    have l16 := b2_lt (rg (nI y9) 4)
    refine rN_if_ne (tg := 24) (pq := 22) C dX12_claims_19 (by decide) rfl (by omega) (fun c19 => ?_) (fun c19 => absurd c19 (b2_1.mpr (hok.2.2)))
    refine r_aload_n (pq := 25) C dX12_claims_24 rfl rfl ?_
    refine r_iload_n (pq := 26) C dX12_claims_25 rfl rfl ?_
    refine r_callV (pq := 29) C (mc_X12_lay hB hM (by omega)) (WM_obj _ _ _ _ _ _) rfl gX12_claims_X12_lay rfl (na := 1) (by decide +kernel) rfl (by decide) (by decide) (Nat.le_of_ble_eq_true rfl) ⟨Nat.zero_le _, Nat.zero_le _⟩ dX12_claims_26 rfl rfl (fun r9 w9 hq => ?_)
    obtain ⟨rfl, f1, rfl, hB1, hk1, hc1, hl1⟩ := hq
    dsimp only [Option.toList, List.cons_append, List.nil_append]
    refine r_aload_n (pq := 30) C dX12_claims_29 rfl rfl ?_
    refine r_iload_n (pq := 31) C dX12_claims_30 rfl rfl ?_
    refine r_iload_n (pq := 32) C dX12_claims_31 rfl rfl ?_
    refine r_callV (pq := 35) C (mc_X12_claimsOf hB1 hl9 hl1 hy9) (WM_obj _ _ _ _ _ _) rfl gX12_claims_X12_claimsOf rfl (na := 2) (by decide +kernel) rfl (by decide) (by decide) (Nat.le_of_ble_eq_true rfl) ⟨Nat.zero_le _, Nat.zero_le _⟩ dX12_claims_32 rfl rfl (fun r9 w9 hq => ?_)
    obtain ⟨rfl, rfl⟩ := hq
    dsimp only [Option.toList, List.cons_append, List.nil_append]
    refine r_iret C D rfl ⟨Nat.le_refl _, Nat.le_refl _⟩ dX12_claims_35 ?_
    refine ⟨?_, (_, _, _), rfl, hB1, EQ_lay hk1⟩
    unfold rs_claims
    rw [if_pos hok, tn_nI (by omega), tn_nI (by omega), tn_nI (by omega), clm_ext (I := I) (g := g) (c' := cr (I, f, g) p) (f := f) hc1 (hk1 22 (by decide) (by decide) (by decide)) hy9]
  · have hbad := hok
    refine r_iload_n (pq := 1) C dX12_claims_0 rfl rfl ?_
    refine r_callS (pq := 4) C (mc_X12_isLand) gX12_claims_X12_isLand rfl (na := 1) (by decide +kernel) rfl (by decide) (by decide) (Nat.le_of_ble_eq_true rfl) ⟨Nat.zero_le _, Nat.zero_le _⟩ dX12_claims_1 rfl rfl (fun r9 w9 hq => ?_)
    obtain ⟨rfl, rfl⟩ := hq
    dsimp only [Option.toList, List.cons_append, List.nil_append]
    have l1 := b2_lt (rg x 8)
    refine rN_if_eq (tg := 22) (pq := 7) C dX12_claims_4 (by decide) rfl (by omega) (fun c4 => ?_) (fun c4 => ?_)
    · refine r_iconst (v := (-1)) (pq := 23) C dX12_claims_22 (by decide) rfl ?_
      refine r_iret C D rfl ⟨Nat.le_refl _, Nat.le_refl _⟩ dX12_claims_23 ?_
      refine ⟨?_, (I, f, g), rfl, hB, ?_⟩
      · unfold rs_claims
        rw [if_neg hbad]
      · exact EQ_rfl _
    · refine r_aload_n (pq := 8) C dX12_claims_7 rfl rfl ?_
      refine r_iload_n (pq := 9) C dX12_claims_8 rfl rfl ?_
      refine r_callV (pq := 12) C (mc_X12_isPerson hB) (WM_obj _ _ _ _ _ _) rfl gX12_claims_X12_isPerson rfl (na := 1) (by decide +kernel) rfl (by decide) (by decide) (Nat.le_of_ble_eq_true rfl) ⟨Nat.zero_le _, Nat.zero_le _⟩ dX12_claims_9 rfl rfl (fun r9 w9 hq => ?_)
      obtain ⟨rfl, rfl⟩ := hq
      dsimp only [Option.toList, List.cons_append, List.nil_append]
      have l9 := b2_lt (rg y (I 1))
      refine rN_if_eq (tg := 22) (pq := 15) C dX12_claims_12 (by decide) rfl (by omega) (fun c12 => ?_) (fun c12 => ?_)
      · refine r_iconst (v := (-1)) (pq := 23) C dX12_claims_22 (by decide) rfl ?_
        refine r_iret C D rfl ⟨Nat.le_refl _, Nat.le_refl _⟩ dX12_claims_23 ?_
        refine ⟨?_, (I, f, g), rfl, hB, ?_⟩
        · unfold rs_claims
          rw [if_neg hbad]
        · exact EQ_rfl _
      · refine r_iload_n (pq := 16) C dX12_claims_15 rfl rfl ?_
        refine r_callS (pq := 19) C (mc_X12_isYear) gX12_claims_X12_isYear rfl (na := 1) (by decide +kernel) rfl (by decide) (by decide) (Nat.le_of_ble_eq_true rfl) ⟨Nat.zero_le _, Nat.zero_le _⟩ dX12_claims_16 rfl rfl (fun r9 w9 hq => ?_)
        obtain ⟨rfl, rfl⟩ := hq
        dsimp only [Option.toList, List.cons_append, List.nil_append]
        have l16 := b2_lt (rg z 4)
        refine rN_if_ne (tg := 24) (pq := 22) C dX12_claims_19 (by decide) rfl (by omega) (fun c19 => ?_) (fun c19 => ?_)
        · exact absurd ⟨b2_1.mp c4, b2_1.mp c12, b2_1.mp c19⟩ hbad
        · refine r_iconst (v := (-1)) (pq := 23) C dX12_claims_22 (by decide) rfl ?_
          refine r_iret C D rfl ⟨Nat.le_refl _, Nat.le_refl _⟩ dX12_claims_23 ?_
          refine ⟨?_, (I, f, g), rfl, hB, ?_⟩
          · unfold rs_claims
            rw [if_neg hbad]
          · exact EQ_rfl _

set_option maxHeartbeats 4000000 in
set_option maxRecDepth 100000 in
/-- pair -/
theorem mc_X12_pair {l : Launch} {E : EV} {a b : Nat} {w : RW} (ha : a < 8) (hb : b < 8) : MC l E yX12_pair wsX12_pair 0 0 0 [.int (nI a), .int (nI b)] (w) (fun r w' => w' = w ∧ r = some (.int (nI (pr a b)))) := by
  refine MC.enter (cc := cX12_pair) (maxL := 2) (ret := (some .int)) (lv0 := [some (.int (nI a)), some (.int (nI b))]) (by decide) rfl (by simp [Value.category]) (Nat.le_of_ble_eq_true rfl) rfl ?_
  intro X hl hE C D
  subst hl
  subst hE
  refine r_iload_n (pq := 1) C dX12_pair_0 rfl rfl ?_
  refine r_iload_n (pq := 2) C dX12_pair_1 rfl rfl ?_
  refine rN_icmp_ge (tg := 14) (pq := 5) C dX12_pair_2 (by decide) rfl (by omega) (by omega) (fun c2 => ?_) (fun c2 => ?_)
  · refine r_bipush (v := nI 8) (pq := 16) C dX12_pair_14 (by decide) rfl ?_
    refine r_iload_n (pq := 17) C dX12_pair_16 rfl rfl ?_
    refine rN_imul (pq := 18) C dX12_pair_17 rfl ?_
    refine r_iload_n (pq := 19) C dX12_pair_18 rfl rfl ?_
    refine rN_iadd (pq := 20) C dX12_pair_19 rfl ?_
    refine r_iret C D rfl ⟨Nat.le_refl _, Nat.le_refl _⟩ dX12_pair_20 ?_
    refine ⟨rfl, ?_⟩
    unfold pr
    first | rw [if_pos (by omega)] | rw [if_neg (by omega)]
  · refine r_bipush (v := nI 8) (pq := 7) C dX12_pair_5 (by decide) rfl ?_
    refine r_iload_n (pq := 8) C dX12_pair_7 rfl rfl ?_
    refine rN_imul (pq := 9) C dX12_pair_8 rfl ?_
    refine r_iload_n (pq := 10) C dX12_pair_9 rfl rfl ?_
    refine rN_iadd (pq := 11) C dX12_pair_10 rfl ?_
    refine r_goto (tg := 20) C dX12_pair_11 (by decide) ?_
    refine r_iret C D rfl ⟨Nat.le_refl _, Nat.le_refl _⟩ dX12_pair_20 ?_
    refine ⟨rfl, ?_⟩
    unfold pr
    first | rw [if_pos (by omega)] | rw [if_neg (by omega)]

theorem pr_lt {a b : Nat} (ha : a < 8) (hb : b < 8) : pr a b < 64 := by unfold pr; split <;> omega
/-- the loop of areTests, as a function -/
def atF : Nat → Nat → Nat → Bool
  | 0, _, _ => false
  | t + 1, seen, left => if left = 0 then true else if left % 4 = 0 ∨ seen / 2 ^ (left % 4) % 2 = 1 then false else atF t (seen ||| 2 ^ (left % 4)) (left / 4)
theorem atF_ok : ∀ t, t < 64 → (atF 4 0 t = true ↔ ((t / 4 ≠ 0 → t % 4 ≠ 0) ∧ (t / 16 ≠ 0 → t / 4 % 4 ≠ 0) ∧ (t / 4 % 4 ≠ 0 → t / 4 % 4 ≠ t % 4) ∧ (t / 16 ≠ 0 → t / 16 ≠ t % 4 ∧ t / 16 ≠ t / 4 % 4))) := by decide +kernel
theorem pw4 : ∀ j, j < 4 → 2 ^ j ≤ 8 := by decide
set_option maxHeartbeats 4000000 in
set_option maxRecDepth 100000 in
/-- areTests -/
theorem mc_X12_areTests {l : Launch} {E : EV} {x : Int32} {w : RW} : MC l E yX12_areTests wsX12_areTests 1 0 0 [.int x] (w) (fun r w' => w' = w ∧ r = some (.int (nI (b2 (rg x 64 ∧ atF 4 0 (tn x) = true))))) := by
  refine MC.enter (cc := cX12_areTests) (maxL := 4) (ret := (some .boolean)) (lv0 := [some (.int x), none, none, none]) (by decide) rfl (by simp [Value.category]) (Nat.le_of_ble_eq_true rfl) rfl ?_
  intro X hl hE C D
  subst hl
  subst hE
  by_cases hok : rg x 64
  · obtain ⟨x9, hx9, rfl⟩ := rg_of hok (by omega)
    have loop : ∀ (t seen left : Nat) (v9 : Option Value), seen < 16 → left < 4 ^ t → left < 64 → (atF (t + 1) seen left = true ↔ atF 4 0 x9 = true) → GG X w 0 0 16 [some (.int (nI x9)), some (.int (nI seen)), some (.int (nI left)), v9] [] := by
      intro t
      induction t with
      | zero =>
        intro seen left v9 h1 h2 h3 h4
        have e0 : left = 0 := by simp at h2; exact h2
        subst e0
        refine r_iload_n (pq := 17) C dX12_areTests_16 rfl rfl ?_
        refine rN_if_le (tg := 52) (pq := 20) C dX12_areTests_17 (by decide) rfl (by omega) (fun c17 => ?_) (fun c17 => absurd c17 (by omega))
        refine r_iconst (v := nI 1) (pq := 53) C dX12_areTests_52 (by decide) rfl ?_
        refine r_zret C D rfl (by decide) ⟨Nat.le_refl _, Nat.le_refl _⟩ dX12_areTests_53 ?_
        exact ⟨rfl, by rw [b2_t ⟨hok, by rw [tn_nI (by omega)]; exact h4.mp (by unfold atF; rfl)⟩]⟩
      | succ t ih =>
        intro seen left v9 h1 h2 h3 h4
        refine r_iload_n (pq := 17) C dX12_areTests_16 rfl rfl ?_
        refine rN_if_le (tg := 52) (pq := 20) C dX12_areTests_17 (by decide) rfl (by omega) (fun c17 => ?_) (fun c17 => ?_)
        · refine r_iconst (v := nI 1) (pq := 53) C dX12_areTests_52 (by decide) rfl ?_
          refine r_zret C D rfl (by decide) ⟨Nat.le_refl _, Nat.le_refl _⟩ dX12_areTests_53 ?_
          exact ⟨rfl, by rw [b2_t ⟨hok, by rw [tn_nI (by omega)]; exact h4.mp (by unfold atF; rw [if_pos (by omega)])⟩]⟩
        · refine r_iload_n (pq := 21) C dX12_areTests_20 rfl rfl ?_
          refine r_iconst (v := nI 4) (pq := 22) C dX12_areTests_21 (by decide) rfl ?_
          refine rN_irem (pq := 23) C dX12_areTests_22 (by omega) (by omega) (by omega) rfl ?_
          refine r_istore_n (j := 3) (pq := 24) C dX12_areTests_23 rfl (by decide) rfl rfl ?_
          dsimp only [List.set]
          refine r_iload_n (pq := 25) C dX12_areTests_24 rfl rfl ?_
          refine rN_if_eq (tg := 37) (pq := 28) C dX12_areTests_25 (by decide) rfl (by omega) (fun c25 => ?_) (fun c25 => ?_)
          · refine r_iconst (v := nI 0) (pq := 38) C dX12_areTests_37 (by decide) rfl ?_
            refine r_zret C D rfl (by decide) ⟨Nat.le_refl _, Nat.le_refl _⟩ dX12_areTests_38 ?_
            refine ⟨rfl, ?_⟩
            rw [b2_f (fun z => ?_)]
            have z2 := z.2
            rw [tn_nI (by omega)] at z2
            have z3 := h4.mpr z2
            unfold atF at z3
            rw [if_neg (by omega), if_pos (by first | exact Or.inl (by omega) | exact Or.inr (by rw [Nat.and_one_is_mod] at c34; omega))] at z3
            cases z3
          · refine r_iload_n (pq := 29) C dX12_areTests_28 rfl rfl ?_
            refine r_iload_n (pq := 30) C dX12_areTests_29 rfl rfl ?_
            refine rN_ishr (pq := 31) C dX12_areTests_30 (by omega) (by omega) rfl ?_
            refine r_iconst (v := nI 1) (pq := 32) C dX12_areTests_31 (by decide) rfl ?_
            refine rN_iand (pq := 33) C dX12_areTests_32 rfl ?_
            refine r_iconst (v := nI 1) (pq := 34) C dX12_areTests_33 (by decide) rfl ?_
            refine rN_icmp_ne (tg := 39) (pq := 37) C dX12_areTests_34 (by decide) rfl (by first | omega | (rw [Nat.and_one_is_mod]; omega)) (by first | omega | (rw [Nat.and_one_is_mod]; omega)) (fun c34 => ?_) (fun c34 => ?_)
            · refine r_iload_n (pq := 40) C dX12_areTests_39 rfl rfl ?_
              refine r_iconst (v := nI 1) (pq := 41) C dX12_areTests_40 (by decide) rfl ?_
              refine r_iload_n (pq := 42) C dX12_areTests_41 rfl rfl ?_
              refine rN_ishl (pq := 43) C dX12_areTests_42 (by omega) (by have := pw4 (left % 4) (by omega); omega) rfl ?_
              refine rN_ior (pq := 44) C dX12_areTests_43 rfl ?_
              refine r_istore_n (j := 1) (pq := 45) C dX12_areTests_44 rfl (by decide) rfl rfl ?_
              dsimp only [List.set]
              refine r_iload_n (pq := 46) C dX12_areTests_45 rfl rfl ?_
              refine r_iconst (v := nI 4) (pq := 47) C dX12_areTests_46 (by decide) rfl ?_
              refine rN_idiv (pq := 48) C dX12_areTests_47 (by omega) (by omega) (by omega) rfl ?_
              refine r_istore_n (j := 2) (pq := 49) C dX12_areTests_48 rfl (by decide) rfl rfl ?_
              dsimp only [List.set]
              refine r_goto (tg := 16) C dX12_areTests_49 (by decide) ?_
              have hp := pw4 (left % 4) (by omega)
              have e5 : (seen ||| 1 * 2 ^ (left % 4)) = (seen ||| 2 ^ (left % 4)) := by rw [Nat.one_mul]
              rw [e5]
              refine ih _ _ _ (Nat.or_lt_two_pow (n := 4) h1 (by omega)) (by rw [Nat.pow_succ] at h2; omega) (by omega) ?_
              rw [← h4]
              conv => rhs; unfold atF
              rw [if_neg (by omega), if_neg (by rw [Nat.and_one_is_mod] at c34; omega)]
            · refine r_iconst (v := nI 0) (pq := 38) C dX12_areTests_37 (by decide) rfl ?_
              refine r_zret C D rfl (by decide) ⟨Nat.le_refl _, Nat.le_refl _⟩ dX12_areTests_38 ?_
              refine ⟨rfl, ?_⟩
              rw [b2_f (fun z => ?_)]
              have z2 := z.2
              rw [tn_nI (by omega)] at z2
              have z3 := h4.mpr z2
              unfold atF at z3
              rw [if_neg (by omega), if_pos (by first | exact Or.inl (by omega) | exact Or.inr (by rw [Nat.and_one_is_mod] at c34; omega))] at z3
              cases z3
    refine r_iload_n (pq := 1) C dX12_areTests_0 rfl rfl ?_
    refine r_iconst (v := nI 0) (pq := 2) C dX12_areTests_1 (by decide) rfl ?_
    refine r_bipush (v := nI 63) (pq := 4) C dX12_areTests_2 (by decide) rfl ?_
    refine r_callS (pq := 7) C (mc_X12_in) gX12_areTests_X12_in rfl (na := 3) (by decide +kernel) rfl (by decide) (by decide) (Nat.le_of_ble_eq_true rfl) ⟨Nat.zero_le _, Nat.zero_le _⟩ dX12_areTests_4 rfl rfl (fun r9 w9 hq => ?_)
    obtain ⟨rfl, rfl⟩ := hq
    dsimp only [Option.toList, List.cons_append, List.nil_append]
    have l4 := b2_lt ((nI 0).toInt ≤ (nI x9).toInt ∧ (nI x9).toInt ≤ (nI 63).toInt)
    refine rN_if_ne (tg := 12) (pq := 10) C dX12_areTests_7 (by decide) rfl (by omega) (fun c7 => ?_) (fun c7 => absurd c7 (b2_1.mpr ((in_b (by omega) (by omega)).mpr (by rw [nI_toInt (by omega)]; omega))))
    refine r_iconst (v := nI 0) (pq := 13) C dX12_areTests_12 (by decide) rfl ?_
    refine r_istore_n (j := 1) (pq := 14) C dX12_areTests_13 rfl (by decide) rfl rfl ?_
    dsimp only [List.set]
    refine r_iload_n (pq := 15) C dX12_areTests_14 rfl rfl ?_
    refine r_istore_n (j := 2) (pq := 16) C dX12_areTests_15 rfl (by decide) rfl rfl ?_
    dsimp only [List.set]
    exact loop 3 0 x9 none (by omega) (by omega) hx9 Iff.rfl
  · refine r_iload_n (pq := 1) C dX12_areTests_0 rfl rfl ?_
    refine r_iconst (v := nI 0) (pq := 2) C dX12_areTests_1 (by decide) rfl ?_
    refine r_bipush (v := nI 63) (pq := 4) C dX12_areTests_2 (by decide) rfl ?_
    refine r_callS (pq := 7) C (mc_X12_in) gX12_areTests_X12_in rfl (na := 3) (by decide +kernel) rfl (by decide) (by decide) (Nat.le_of_ble_eq_true rfl) ⟨Nat.zero_le _, Nat.zero_le _⟩ dX12_areTests_4 rfl rfl (fun r9 w9 hq => ?_)
    obtain ⟨rfl, rfl⟩ := hq
    dsimp only [Option.toList, List.cons_append, List.nil_append]
    have l4 := b2_lt ((nI 0).toInt ≤ x.toInt ∧ x.toInt ≤ (nI 63).toInt)
    refine rN_if_ne (tg := 12) (pq := 10) C dX12_areTests_7 (by decide) rfl (by omega) (fun c7 => ?_) (fun c7 => ?_)
    · exact absurd (by have h9 := (in_b (a := 0) (b := 63) (by omega) (by omega)).mp (b2_1.mp c7); exact ⟨by omega, by omega⟩) hok
    · refine r_iconst (v := nI 0) (pq := 11) C dX12_areTests_10 (by decide) rfl ?_
      refine r_zret C D rfl (by decide) ⟨Nat.le_refl _, Nat.le_refl _⟩ dX12_areTests_11 ?_
      exact ⟨rfl, by rw [b2_f (fun z => hok z.1)]⟩

theorem okT {x y z : Int32} : okTreaty x y z ↔ rg x 8 ∧ rg y 8 ∧ x ≠ y ∧ (rg z 64 ∧ atF 4 0 (tn z) = true) := by
  constructor
  · intro h
    refine ⟨h.1, h.2.1, h.2.2.1, h.2.2.2.1, ?_⟩
    obtain ⟨t, ht, e⟩ := rg_of h.2.2.2.1 (by omega)
    have h5 := h.2.2.2.2
    subst e
    rw [tn_nI (by omega)] at h5 ⊢
    exact (atF_ok t ht).mpr h5
  · intro h
    refine ⟨h.1, h.2.1, h.2.2.1, h.2.2.2.1, ?_⟩
    obtain ⟨t, ht, e⟩ := rg_of h.2.2.2.1 (by omega)
    have h5 := h.2.2.2.2
    subst e
    rw [tn_nI (by omega)] at h5 ⊢
    exact (atF_ok t ht).mp h5
set_option maxHeartbeats 4000000 in
set_option maxRecDepth 100000 in
/-- treaty -/
theorem mc_X12_treaty {l : Launch} {E : EV} {A : Nat → Nat} {w0 : RW} {I : Nat → Nat} {f : Nat → Nat → Nat} {g : Nat → Nat → Int32} (hS : SI (I, f, g)) {x y z : Int32} : MC l E yX12_treaty wsX12_treaty 3 0 0 [.ref (A 0), .int x, .int y, .int z] (WM E A w0 I f g) (mP E A w0 (rs_treaty (I, f, g) x y z) (nx_treaty (I, f, g) x y z)) := by
  refine MC.enter (cc := cX12_treaty) (maxL := 6) (ret := (some .int)) (lv0 := [some (.ref (A 0)), some (.int x), some (.int y), some (.int z), none, none]) (by decide) rfl (by simp [Value.category]) (Nat.le_of_ble_eq_true rfl) rfl ?_
  intro X hl hE C D
  subst hl
  subst hE
  have hB : mOK I f := hS.1
  by_cases hok : okTreaty x y z
  · have hok2 := okT.mp hok
    obtain ⟨a, ha, rfl⟩ := rg_of hok.1 (by omega)
    obtain ⟨b, hb, rfl⟩ := rg_of hok.2.1 (by omega)
    obtain ⟨t9, ht9, rfl⟩ := rg_of hok.2.2.2.1 (by omega)
    have hab : a ≠ b := fun h => hok.2.2.1 (by rw [h])
    have hpr := pr_lt ha hb
    have h23 : g 23 (pr a b) = -1 ∨ ∃ t, tsOK t ∧ g 23 (pr a b) = nI t := hS.2.2.2.2.2.2.2.2.1 (pr a b) hpr
    refine r_iload_n (pq := 1) C dX12_treaty_0 rfl rfl ?_
    refine r_callS (pq := 4) C (mc_X12_isLand) gX12_treaty_X12_isLand rfl (na := 1) (by decide +kernel) rfl (by decide) (by decide) (Nat.le_of_ble_eq_true rfl) ⟨Nat.zero_le _, Nat.zero_le _⟩ dX12_treaty_1 rfl rfl (fun r9 w9 hq => ?_)
    obtain ⟨rfl, rfl⟩ := hq
    dsimp only [Option.toList, List.cons_append, List.nil_append]
    have l1 := b2_lt (rg (nI a) 8)
    refine rN_if_eq (tg := 26) (pq := 7) C dX12_treaty_4 (by decide) rfl (by omega) (fun c4 => absurd c4 (b2_1.mpr hok.1)) (fun c4 => ?_)
    refine r_iload_n (pq := 8) C dX12_treaty_7 rfl rfl ?_
    refine r_callS (pq := 11) C (mc_X12_isLand) gX12_treaty_X12_isLand rfl (na := 1) (by decide +kernel) rfl (by decide) (by decide) (Nat.le_of_ble_eq_true rfl) ⟨Nat.zero_le _, Nat.zero_le _⟩ dX12_treaty_8 rfl rfl (fun r9 w9 hq => ?_)
    obtain ⟨rfl, rfl⟩ := hq
    dsimp only [Option.toList, List.cons_append, List.nil_append]
    have l8 := b2_lt (rg (nI b) 8)
    refine rN_if_eq (tg := 26) (pq := 14) C dX12_treaty_11 (by decide) rfl (by omega) (fun c11 => absurd c11 (b2_1.mpr hok.2.1)) (fun c11 => ?_)
    refine r_iload_n (pq := 15) C dX12_treaty_14 rfl rfl ?_
    refine r_iload_n (pq := 16) C dX12_treaty_15 rfl rfl ?_
    refine rN_icmp_eq (tg := 26) (pq := 19) C dX12_treaty_16 (by decide) rfl (by omega) (by omega) (fun c16 => absurd c16 hab) (fun c16 => ?_)
    refine r_iload_n (pq := 20) C dX12_treaty_19 rfl rfl ?_
    refine r_callS (pq := 23) C (mc_X12_areTests) gX12_treaty_X12_areTests rfl (na := 1) (by decide +kernel) rfl (by decide) (by decide) (Nat.le_of_ble_eq_true rfl) ⟨Nat.zero_le _, Nat.zero_le _⟩ dX12_treaty_20 rfl rfl (fun r9 w9 hq => ?_)
    obtain ⟨rfl, rfl⟩ := hq
    dsimp only [Option.toList, List.cons_append, List.nil_append]
    have l20 := b2_lt (rg (nI t9) 64 ∧ atF 4 0 (tn (nI t9)) = true)
    refine rN_if_ne (tg := 28) (pq := 26) C dX12_treaty_23 (by decide) rfl (by omega) (fun c23 => ?_) (fun c23 => absurd c23 (b2_1.mpr hok2.2.2.2))
    refine r_iload_n (pq := 29) C dX12_treaty_28 rfl rfl ?_
    refine r_iload_n (pq := 30) C dX12_treaty_29 rfl rfl ?_
    refine r_callS (pq := 33) C (mc_X12_pair ha hb) gX12_treaty_X12_pair rfl (na := 2) (by decide +kernel) rfl (by decide) (by decide) (Nat.le_of_ble_eq_true rfl) ⟨Nat.zero_le _, Nat.zero_le _⟩ dX12_treaty_30 rfl rfl (fun r9 w9 hq => ?_)
    obtain ⟨rfl, rfl⟩ := hq
    dsimp only [Option.toList, List.cons_append, List.nil_append]
    refine r_istore (j := 4) (pq := 35) C dX12_treaty_33 rfl (by decide) rfl rfl ?_
    dsimp only [List.set]
    refine r_aload_n (pq := 36) C dX12_treaty_35 rfl rfl ?_
    refine m_geta (pq := 39) C 23 (by decide) rfl rfl (by decide +kernel) dX12_treaty_36 rfl ?_
    refine r_iload (pq := 41) C dX12_treaty_39 rfl rfl ?_
    refine m_ialdZ (pq := 42) C 23 64 rfl rfl (by decide) rfl (by decide) (by omega) dX12_treaty_41 rfl ?_
    refine r_if_lt (tg := 49) (pq := 45) C dX12_treaty_42 (by decide) rfl (fun c42 => ?_) (fun c42 => ?_)
    · refine r_iconst (v := nI 0) (pq := 50) C dX12_treaty_49 (by decide) rfl ?_
      refine r_istore (j := 5) (pq := 52) C dX12_treaty_50 rfl (by decide) rfl rfl ?_
      dsimp only [List.set]
      refine r_aload_n (pq := 53) C dX12_treaty_52 rfl rfl ?_
      refine m_geta (pq := 56) C 23 (by decide) rfl rfl (by decide +kernel) dX12_treaty_53 rfl ?_
      refine r_iload (pq := 58) C dX12_treaty_56 rfl rfl ?_
      refine r_iload_n (pq := 59) C dX12_treaty_58 rfl rfl ?_
      refine m_iastZ (pq := 60) C 23 64 rfl rfl (by decide) rfl (by decide) (by omega) dX12_treaty_59 rfl ?_
      refine r_iload (pq := 62) C dX12_treaty_60 rfl rfl ?_
      refine r_iret C D rfl ⟨Nat.le_refl _, Nat.le_refl _⟩ dX12_treaty_62 ?_
      refine ⟨?_, (_, _, _), rfl, hB, ?_⟩
      · unfold rs_treaty
        rw [if_pos hok, tn_nI (by omega), tn_nI (by omega)]
        show _ = some (Value.int (if g 23 (pr a b) = -1 then 0 else 1))
        rcases h23 with e | ⟨t, ht, e⟩
        · rw [if_pos e]
          first | rfl | (rw [e] at c42; exact absurd (by decide) c42)
        · have ht6 := ht.1
          rw [if_neg (by rw [e]; exact fun z => absurd (congrArg Int32.toInt z) (by rw [nI_toInt (by omega)]; have e1 : (-1 : Int32).toInt = -1 := rfl; omega))]
          first | rfl | (rw [e] at c42; exact absurd c42 (nI_pos (by omega)))
      · unfold nx_treaty
        rw [if_pos hok, tn_nI (by omega), tn_nI (by omega)]
        exact EQ_rfl _
    · refine r_iconst (v := nI 1) (pq := 46) C dX12_treaty_45 (by decide) rfl ?_
      refine r_goto (tg := 50) C dX12_treaty_46 (by decide) ?_
      refine r_istore (j := 5) (pq := 52) C dX12_treaty_50 rfl (by decide) rfl rfl ?_
      dsimp only [List.set]
      refine r_aload_n (pq := 53) C dX12_treaty_52 rfl rfl ?_
      refine m_geta (pq := 56) C 23 (by decide) rfl rfl (by decide +kernel) dX12_treaty_53 rfl ?_
      refine r_iload (pq := 58) C dX12_treaty_56 rfl rfl ?_
      refine r_iload_n (pq := 59) C dX12_treaty_58 rfl rfl ?_
      refine m_iastZ (pq := 60) C 23 64 rfl rfl (by decide) rfl (by decide) (by omega) dX12_treaty_59 rfl ?_
      refine r_iload (pq := 62) C dX12_treaty_60 rfl rfl ?_
      refine r_iret C D rfl ⟨Nat.le_refl _, Nat.le_refl _⟩ dX12_treaty_62 ?_
      refine ⟨?_, (_, _, _), rfl, hB, ?_⟩
      · unfold rs_treaty
        rw [if_pos hok, tn_nI (by omega), tn_nI (by omega)]
        show _ = some (Value.int (if g 23 (pr a b) = -1 then 0 else 1))
        rcases h23 with e | ⟨t, ht, e⟩
        · rw [if_pos e]
          first | rfl | (rw [e] at c42; exact absurd (by decide) c42)
        · have ht6 := ht.1
          rw [if_neg (by rw [e]; exact fun z => absurd (congrArg Int32.toInt z) (by rw [nI_toInt (by omega)]; have e1 : (-1 : Int32).toInt = -1 := rfl; omega))]
          first | rfl | (rw [e] at c42; exact absurd c42 (nI_pos (by omega)))
      · unfold nx_treaty
        rw [if_pos hok, tn_nI (by omega), tn_nI (by omega)]
        exact EQ_rfl _
  · refine r_iload_n (pq := 1) C dX12_treaty_0 rfl rfl ?_
    refine r_callS (pq := 4) C (mc_X12_isLand) gX12_treaty_X12_isLand rfl (na := 1) (by decide +kernel) rfl (by decide) (by decide) (Nat.le_of_ble_eq_true rfl) ⟨Nat.zero_le _, Nat.zero_le _⟩ dX12_treaty_1 rfl rfl (fun r9 w9 hq => ?_)
    obtain ⟨rfl, rfl⟩ := hq
    dsimp only [Option.toList, List.cons_append, List.nil_append]
    have l1 := b2_lt (rg x 8)
    refine rN_if_eq (tg := 26) (pq := 7) C dX12_treaty_4 (by decide) rfl (by omega) (fun c4 => ?_) (fun c4 => ?_)
    · refine r_iconst (v := (-1)) (pq := 27) C dX12_treaty_26 (by decide) rfl ?_
      refine r_iret C D rfl ⟨Nat.le_refl _, Nat.le_refl _⟩ dX12_treaty_27 ?_
      refine ⟨?_, (I, f, g), rfl, hB, ?_⟩
      · unfold rs_treaty
        rw [if_neg hok]
      · unfold nx_treaty
        rw [if_neg hok]
        exact EQ_rfl _
    · refine r_iload_n (pq := 8) C dX12_treaty_7 rfl rfl ?_
      refine r_callS (pq := 11) C (mc_X12_isLand) gX12_treaty_X12_isLand rfl (na := 1) (by decide +kernel) rfl (by decide) (by decide) (Nat.le_of_ble_eq_true rfl) ⟨Nat.zero_le _, Nat.zero_le _⟩ dX12_treaty_8 rfl rfl (fun r9 w9 hq => ?_)
      obtain ⟨rfl, rfl⟩ := hq
      dsimp only [Option.toList, List.cons_append, List.nil_append]
      have l8 := b2_lt (rg y 8)
      refine rN_if_eq (tg := 26) (pq := 14) C dX12_treaty_11 (by decide) rfl (by omega) (fun c11 => ?_) (fun c11 => ?_)
      · refine r_iconst (v := (-1)) (pq := 27) C dX12_treaty_26 (by decide) rfl ?_
        refine r_iret C D rfl ⟨Nat.le_refl _, Nat.le_refl _⟩ dX12_treaty_27 ?_
        refine ⟨?_, (I, f, g), rfl, hB, ?_⟩
        · unfold rs_treaty
          rw [if_neg hok]
        · unfold nx_treaty
          rw [if_neg hok]
          exact EQ_rfl _
      · refine r_iload_n (pq := 15) C dX12_treaty_14 rfl rfl ?_
        refine r_iload_n (pq := 16) C dX12_treaty_15 rfl rfl ?_
        refine r_icmp_eq (tg := 26) (pq := 19) C dX12_treaty_16 (by decide) rfl (fun c16 => ?_) (fun c16 => ?_)
        · refine r_iconst (v := (-1)) (pq := 27) C dX12_treaty_26 (by decide) rfl ?_
          refine r_iret C D rfl ⟨Nat.le_refl _, Nat.le_refl _⟩ dX12_treaty_27 ?_
          refine ⟨?_, (I, f, g), rfl, hB, ?_⟩
          · unfold rs_treaty
            rw [if_neg hok]
          · unfold nx_treaty
            rw [if_neg hok]
            exact EQ_rfl _
        · refine r_iload_n (pq := 20) C dX12_treaty_19 rfl rfl ?_
          refine r_callS (pq := 23) C (mc_X12_areTests) gX12_treaty_X12_areTests rfl (na := 1) (by decide +kernel) rfl (by decide) (by decide) (Nat.le_of_ble_eq_true rfl) ⟨Nat.zero_le _, Nat.zero_le _⟩ dX12_treaty_20 rfl rfl (fun r9 w9 hq => ?_)
          obtain ⟨rfl, rfl⟩ := hq
          dsimp only [Option.toList, List.cons_append, List.nil_append]
          have l20 := b2_lt (rg z 64 ∧ atF 4 0 (tn z) = true)
          refine rN_if_ne (tg := 28) (pq := 26) C dX12_treaty_23 (by decide) rfl (by omega) (fun c23 => ?_) (fun c23 => ?_)
          · exact absurd (okT.mpr ⟨b2_1.mp c4, b2_1.mp c11, c16, b2_1.mp c23⟩) hok
          · refine r_iconst (v := (-1)) (pq := 27) C dX12_treaty_26 (by decide) rfl ?_
            refine r_iret C D rfl ⟨Nat.le_refl _, Nat.le_refl _⟩ dX12_treaty_27 ?_
            refine ⟨?_, (I, f, g), rfl, hB, ?_⟩
            · unfold rs_treaty
              rw [if_neg hok]
            · unfold nx_treaty
              rw [if_neg hok]
              exact EQ_rfl _


/-! ===== laws, by the reference ===== -/
def tn (x : Int32) : Nat := x.toNatClampNeg
theorem tn_nI {n : Nat} (h : n < 2147483648) : tn (nI n) = n := nI_clamp h
/-- KEPT of a law (kind k, number n, land l, width wd) over the row c on day d -/
def kp (k n l wd : Nat) (c : Nat → Nat) (d : Nat) : Nat :=
  if (k = 1 ∨ k = 3) ∧ d < n then 2 else
  if k = 0 then (if ps (mq l c) (d + 1) - ps (mq l c) (d + 1 - wd) ≤ n then 2 else if n < ps (lq l c) (d + 1) - ps (lq l c) (d + 1 - wd) then 0 else 1)
  else if k = 1 then (if ps (lq l c) (d + 1) - ps (lq l c) (d - n) = n + 1 then 0 else if ps (mq l c) (d + 1) - ps (mq l c) (d - n) ≤ n then 2 else 1)
  else if k = 2 then (if n ≤ ps (lq l c) (d + 1) - ps (lq l c) (d + 1 - wd) then 2 else if ps (mq l c) (d + 1) - ps (mq l c) (d + 1 - wd) < n then 0 else 1)
  else (if ps (mq l c) (d + 1) - ps (mq l c) (d - n) = 0 then 0 else if 0 < ps (lq l c) (d + 1) - ps (lq l c) (d - n) then 2 else 1)
theorem kp_le (k n l wd : Nat) (c : Nat → Nat) (d : Nat) : kp k n l wd c d ≤ 2 := by
  unfold kp
  repeat' split
  all_goals omega
/-- what the state holds of a law -/
def lwOK (f : Nat → Nat → Nat) (g : Nat → Nat → Int32) (j : Nat) : Prop := f 17 j < 4 ∧ f 18 j < 8 ∧ f 19 j ≤ 200 ∧ (f 17 j = 0 ∨ f 17 j = 2 → ∃ wd, 1 ≤ wd ∧ wd ≤ 200 ∧ g 20 j = nI wd)

theorem fb_rng (x : Int32) : -2147483648 ≤ x.toInt ∧ x.toInt < 2147483648 := ⟨Int32.le_toInt x, Int32.toInt_lt x⟩
theorem fb_bmod {z : Int} (h1 : -2147483648 ≤ z) (h2 : z < 2147483648) : z.bmod (2 ^ 32) = z := by
  rw [Int.bmod_def]
  omega
theorem fb_addI {x y : Int32} (h1 : -2147483648 ≤ x.toInt + y.toInt) (h2 : x.toInt + y.toInt < 2147483648) : (x + y).toInt = x.toInt + y.toInt := by
  rw [Int32.toInt_add]
  exact fb_bmod h1 h2
theorem nz_sac (a b c : Int32) : a - b + c = a + c - b := by
  rw [Int32.sub_eq_add_neg, Int32.sub_eq_add_neg, Int32.add_assoc, Int32.add_comm (-b) c, ← Int32.add_assoc]
set_option maxHeartbeats 4000000 in
set_option maxRecDepth 100000 in
/-- keptOn -/
theorem mc_X12_keptOn {l : Launch} {E : EV} {A : Nat → Nat} {w0 : RW} {I : Nat → Nat} {f : Nat → Nat → Nat} {g : Nat → Nat → Int32} (hB : mOK I f) {j dd : Nat} (hj : j < 12) (hK : lwOK f g j) (hL : LY f) (hd : dd < 400) : MC l E yX12_keptOn wsX12_keptOn 1 0 0 [.ref (A 0), .int (nI j), .int (nI dd)] (WM E A w0 I f g) (fun r w' => w' = WM E A w0 I f g ∧ r = some (.int (nI (kp (f 17 j) (f 19 j) (f 18 j) (tn (g 20 j)) (f 12) dd)))) := by
  refine MC.enter (cc := cX12_keptOn) (maxL := 9) (ret := (some .int)) (lv0 := [some (.ref (A 0)), some (.int (nI j)), some (.int (nI dd)), none, none, none, none, none, none]) (by decide) rfl (by simp [Value.category]) (Nat.le_of_ble_eq_true rfl) rfl ?_
  intro X hl hE C D
  subst hl
  subst hE
  rcases (show f 17 j = 0 ∨ f 17 j = 1 ∨ f 17 j = 2 ∨ f 17 j = 3 by have := hK.1; omega) with hk | hk | hk | hk
  · obtain ⟨wd, hw1, hw2, hwd⟩ := hK.2.2.2 (by omega)
    have hn := hK.2.2.1
    refine r_aload_n (pq := 1) C dX12_keptOn_0 rfl rfl ?_
    refine m_geta (pq := 4) C 19 (by decide) rfl rfl (by decide +kernel) dX12_keptOn_1 rfl ?_
    refine r_iload_n (pq := 5) C dX12_keptOn_4 rfl rfl ?_
    refine m_iald (pq := 6) C hB 19 12 rfl rfl (by decide) rfl (by decide) (by omega) dX12_keptOn_5 rfl (fun b5 => ?_)
    refine r_istore_n (j := 3) (pq := 7) C dX12_keptOn_6 rfl (by decide) rfl rfl ?_
    dsimp only [List.set]
    refine r_aload_n (pq := 8) C dX12_keptOn_7 rfl rfl ?_
    refine m_geta (pq := 11) C 18 (by decide) rfl rfl (by decide +kernel) dX12_keptOn_8 rfl ?_
    refine r_iload_n (pq := 12) C dX12_keptOn_11 rfl rfl ?_
    refine m_iald (pq := 13) C hB 18 12 rfl rfl (by decide) rfl (by decide) (by omega) dX12_keptOn_12 rfl (fun b12 => ?_)
    refine r_istore (j := 4) (pq := 15) C dX12_keptOn_13 rfl (by decide) rfl rfl ?_
    dsimp only [List.set]
    refine r_aload_n (pq := 16) C dX12_keptOn_15 rfl rfl ?_
    refine m_geta (pq := 19) C 17 (by decide) rfl rfl (by decide +kernel) dX12_keptOn_16 rfl ?_
    refine r_iload_n (pq := 20) C dX12_keptOn_19 rfl rfl ?_
    refine m_iald (pq := 21) C hB 17 12 rfl rfl (by decide) rfl (by decide) (by omega) dX12_keptOn_20 rfl (fun b20 => ?_)
    refine r_iconst (v := nI 1) (pq := 22) C dX12_keptOn_21 (by decide) rfl ?_
    refine rN_icmp_eq (tg := 35) (pq := 25) C dX12_keptOn_22 (by decide) rfl (by omega) (by omega) (fun c22 => absurd hk (by omega)) (fun c22 => ?_)
    refine r_aload_n (pq := 26) C dX12_keptOn_25 rfl rfl ?_
    refine m_geta (pq := 29) C 17 (by decide) rfl rfl (by decide +kernel) dX12_keptOn_26 rfl ?_
    refine r_iload_n (pq := 30) C dX12_keptOn_29 rfl rfl ?_
    refine m_iald (pq := 31) C hB 17 12 rfl rfl (by decide) rfl (by decide) (by omega) dX12_keptOn_30 rfl (fun b30 => ?_)
    refine r_iconst (v := nI 3) (pq := 32) C dX12_keptOn_31 (by decide) rfl ?_
    refine rN_icmp_ne (tg := 39) (pq := 35) C dX12_keptOn_32 (by decide) rfl (by omega) (by omega) (fun c32 => ?_) (fun c32 => absurd hk (by omega))
    refine r_iconst (v := nI 0) (pq := 40) C dX12_keptOn_39 (by decide) rfl ?_
    refine r_istore (j := 5) (pq := 42) C dX12_keptOn_40 rfl (by decide) rfl rfl ?_
    dsimp only [List.set]
    refine r_iload (pq := 44) C dX12_keptOn_42 rfl rfl ?_
    refine rN_if_eq (tg := 54) (pq := 47) C dX12_keptOn_44 (by decide) rfl (by omega) (fun c44 => ?_) (fun c44 => absurd rfl c44)
    refine r_iload (pq := 56) C dX12_keptOn_54 rfl rfl ?_
    refine rN_if_eq (tg := 65) (pq := 59) C dX12_keptOn_56 (by decide) rfl (by omega) (fun c56 => ?_) (fun c56 => absurd rfl c56)
    refine r_iload_n (pq := 66) C dX12_keptOn_65 rfl rfl ?_
    refine r_aload_n (pq := 67) C dX12_keptOn_66 rfl rfl ?_
    refine m_geta (pq := 70) C 20 (by decide) rfl rfl (by decide +kernel) dX12_keptOn_67 rfl ?_
    refine r_iload_n (pq := 71) C dX12_keptOn_70 rfl rfl ?_
    refine m_ialdZ (pq := 72) C 20 12 rfl rfl (by decide) rfl (by decide) (by omega) dX12_keptOn_71 rfl ?_
    rw [hwd]
    refine r_isub (pq := 73) C dX12_keptOn_72 rfl ?_
    refine r_iconst (v := nI 1) (pq := 74) C dX12_keptOn_73 (by decide) rfl ?_
    refine r_iadd (pq := 75) C dX12_keptOn_74 rfl ?_
    rcases Nat.lt_or_ge (dd + 1) wd with q9 | q9
    · have e8 : (nI dd - nI wd + nI 1).toInt = (dd : Int) - wd + 1 := by
        rw [fb_addI, pk_sub_toInt (by omega) (by omega), nI_toInt (by omega)]
        · rfl
        · rw [pk_sub_toInt (by omega) (by omega), nI_toInt (by omega)]; omega
        · rw [pk_sub_toInt (by omega) (by omega), nI_toInt (by omega)]; omega
      have e9 : dd + 1 - wd = 0 := by omega
      refine r_top (fun x8 ex8 => ?_)
      rw [← ex8] at e8
      refine r_istore (j := 6) (pq := 77) C dX12_keptOn_75 rfl (by decide) rfl rfl ?_
      dsimp only [List.set]
      refine r_iload (pq := 79) C dX12_keptOn_77 rfl rfl ?_
      refine r_if_ge (tg := 86) (pq := 82) C dX12_keptOn_79 (by decide) rfl (fun c79 => absurd c79 (by rw [le_i, show (0 : Int32).toInt = 0 from rfl]; omega)) (fun c79 => ?_)
      refine r_iconst (v := nI 0) (pq := 83) C dX12_keptOn_82 (by decide) rfl ?_
      refine r_goto (tg := 88) C dX12_keptOn_83 (by decide) ?_
      refine r_istore (j := 6) (pq := 90) C dX12_keptOn_88 rfl (by decide) rfl rfl ?_
      dsimp only [List.set]
      refine r_aload_n (pq := 91) C dX12_keptOn_90 rfl rfl ?_
      refine r_iload (pq := 93) C dX12_keptOn_91 rfl rfl ?_
      refine r_iload (pq := 95) C dX12_keptOn_93 rfl rfl ?_
      refine r_iload_n (pq := 96) C dX12_keptOn_95 rfl rfl ?_
      refine r_callV (pq := 99) C (mc_X12_leastOf hB hK.2.1 (hL _ hK.2.1) (by omega) (by omega)) (WM_obj _ _ _ _ _ _) rfl gX12_keptOn_X12_leastOf rfl (na := 3) (by decide +kernel) rfl (by decide) (by decide) (Nat.le_of_ble_eq_true rfl) ⟨Nat.zero_le _, Nat.zero_le _⟩ dX12_keptOn_96 rfl rfl (fun r9 w9 hq => ?_)
      obtain ⟨rfl, rfl⟩ := hq
      dsimp only [Option.toList, List.cons_append, List.nil_append]
      have z1 := ps_le (lq_le (f 18 j) (f 12)) (dd + 1)
      refine r_istore (j := 7) (pq := 101) C dX12_keptOn_99 rfl (by decide) rfl rfl ?_
      dsimp only [List.set]
      refine r_aload_n (pq := 102) C dX12_keptOn_101 rfl rfl ?_
      refine r_iload (pq := 104) C dX12_keptOn_102 rfl rfl ?_
      refine r_iload (pq := 106) C dX12_keptOn_104 rfl rfl ?_
      refine r_iload_n (pq := 107) C dX12_keptOn_106 rfl rfl ?_
      refine r_callV (pq := 110) C (mc_X12_mostOf hB hK.2.1 (hL _ hK.2.1) (by omega) (by omega)) (WM_obj _ _ _ _ _ _) rfl gX12_keptOn_X12_mostOf rfl (na := 3) (by decide +kernel) rfl (by decide) (by decide) (Nat.le_of_ble_eq_true rfl) ⟨Nat.zero_le _, Nat.zero_le _⟩ dX12_keptOn_107 rfl rfl (fun r9 w9 hq => ?_)
      obtain ⟨rfl, rfl⟩ := hq
      dsimp only [Option.toList, List.cons_append, List.nil_append]
      have z2 := ps_le (mq_le (f 18 j) (f 12)) (dd + 1)
      refine r_istore (j := 8) (pq := 112) C dX12_keptOn_110 rfl (by decide) rfl rfl ?_
      dsimp only [List.set]
      refine r_aload_n (pq := 113) C dX12_keptOn_112 rfl rfl ?_
      refine m_geta (pq := 116) C 17 (by decide) rfl rfl (by decide +kernel) dX12_keptOn_113 rfl ?_
      refine r_iload_n (pq := 117) C dX12_keptOn_116 rfl rfl ?_
      refine m_iald (pq := 118) C hB 17 12 rfl rfl (by decide) rfl (by decide) (by omega) dX12_keptOn_117 rfl (fun b117 => ?_)
      refine r_tableIn (tg := 144) C dX12_keptOn_118 (by rw [hk]; decide) (by rw [hk]; decide) (by rw [hk]; rfl) (by decide) ?_
      refine r_iload (pq := 146) C dX12_keptOn_144 rfl rfl ?_
      refine r_iload_n (pq := 147) C dX12_keptOn_146 rfl rfl ?_
      refine rN_icmp_gt (tg := 154) (pq := 150) C dX12_keptOn_147 (by decide) rfl (by omega) (by omega) (fun c147 => ?_) (fun c147 => ?_)
      · refine r_iload (pq := 156) C dX12_keptOn_154 rfl rfl ?_
        refine r_iload_n (pq := 157) C dX12_keptOn_156 rfl rfl ?_
        refine rN_icmp_le (tg := 164) (pq := 160) C dX12_keptOn_157 (by decide) rfl (by omega) (by omega) (fun c157 => ?_) (fun c157 => ?_)
        · refine r_iconst (v := nI 1) (pq := 165) C dX12_keptOn_164 (by decide) rfl ?_
          refine r_iret C D rfl ⟨Nat.le_refl _, Nat.le_refl _⟩ dX12_keptOn_165 ?_
          refine ⟨rfl, ?_⟩
          unfold kp
          rw [if_neg (by omega)]
          rw [hk, if_pos rfl]
          rw [hwd, tn_nI (by omega)]
          simp only [e9]
          first
          | rw [if_pos (by omega)]
          | rw [if_neg (by omega), if_pos (by omega)]
          | rw [if_neg (by omega), if_neg (by omega)]
        · refine r_iconst (v := nI 0) (pq := 161) C dX12_keptOn_160 (by decide) rfl ?_
          refine r_goto (tg := 165) C dX12_keptOn_161 (by decide) ?_
          refine r_iret C D rfl ⟨Nat.le_refl _, Nat.le_refl _⟩ dX12_keptOn_165 ?_
          refine ⟨rfl, ?_⟩
          unfold kp
          rw [if_neg (by omega)]
          rw [hk, if_pos rfl]
          rw [hwd, tn_nI (by omega)]
          simp only [e9]
          first
          | rw [if_pos (by omega)]
          | rw [if_neg (by omega), if_pos (by omega)]
          | rw [if_neg (by omega), if_neg (by omega)]
      · refine r_iconst (v := nI 2) (pq := 151) C dX12_keptOn_150 (by decide) rfl ?_
        refine r_goto (tg := 165) C dX12_keptOn_151 (by decide) ?_
        refine r_iret C D rfl ⟨Nat.le_refl _, Nat.le_refl _⟩ dX12_keptOn_165 ?_
        refine ⟨rfl, ?_⟩
        unfold kp
        rw [if_neg (by omega)]
        rw [hk, if_pos rfl]
        rw [hwd, tn_nI (by omega)]
        simp only [e9]
        first
        | rw [if_pos (by omega)]
        | rw [if_neg (by omega), if_pos (by omega)]
        | rw [if_neg (by omega), if_neg (by omega)]
    · refine r_at (y := nI (dd + 1 - wd)) ?_ ?_
      · rw [show nI dd - nI wd + nI 1 = nI dd + nI 1 - nI wd by rw [nz_sac]]
        rw [nI_add, pk_sub q9]
      refine r_istore (j := 6) (pq := 77) C dX12_keptOn_75 rfl (by decide) rfl rfl ?_
      dsimp only [List.set]
      refine r_iload (pq := 79) C dX12_keptOn_77 rfl rfl ?_
      refine rN_if_ge (tg := 86) (pq := 82) C dX12_keptOn_79 (by decide) rfl (by omega) ?_
      refine r_iload (pq := 88) C dX12_keptOn_86 rfl rfl ?_
      refine r_istore (j := 6) (pq := 90) C dX12_keptOn_88 rfl (by decide) rfl rfl ?_
      dsimp only [List.set]
      refine r_aload_n (pq := 91) C dX12_keptOn_90 rfl rfl ?_
      refine r_iload (pq := 93) C dX12_keptOn_91 rfl rfl ?_
      refine r_iload (pq := 95) C dX12_keptOn_93 rfl rfl ?_
      refine r_iload_n (pq := 96) C dX12_keptOn_95 rfl rfl ?_
      refine r_callV (pq := 99) C (mc_X12_leastOf hB hK.2.1 (hL _ hK.2.1) (by omega) (by omega)) (WM_obj _ _ _ _ _ _) rfl gX12_keptOn_X12_leastOf rfl (na := 3) (by decide +kernel) rfl (by decide) (by decide) (Nat.le_of_ble_eq_true rfl) ⟨Nat.zero_le _, Nat.zero_le _⟩ dX12_keptOn_96 rfl rfl (fun r9 w9 hq => ?_)
      obtain ⟨rfl, rfl⟩ := hq
      dsimp only [Option.toList, List.cons_append, List.nil_append]
      have z1 := ps_le (lq_le (f 18 j) (f 12)) (dd + 1)
      refine r_istore (j := 7) (pq := 101) C dX12_keptOn_99 rfl (by decide) rfl rfl ?_
      dsimp only [List.set]
      refine r_aload_n (pq := 102) C dX12_keptOn_101 rfl rfl ?_
      refine r_iload (pq := 104) C dX12_keptOn_102 rfl rfl ?_
      refine r_iload (pq := 106) C dX12_keptOn_104 rfl rfl ?_
      refine r_iload_n (pq := 107) C dX12_keptOn_106 rfl rfl ?_
      refine r_callV (pq := 110) C (mc_X12_mostOf hB hK.2.1 (hL _ hK.2.1) (by omega) (by omega)) (WM_obj _ _ _ _ _ _) rfl gX12_keptOn_X12_mostOf rfl (na := 3) (by decide +kernel) rfl (by decide) (by decide) (Nat.le_of_ble_eq_true rfl) ⟨Nat.zero_le _, Nat.zero_le _⟩ dX12_keptOn_107 rfl rfl (fun r9 w9 hq => ?_)
      obtain ⟨rfl, rfl⟩ := hq
      dsimp only [Option.toList, List.cons_append, List.nil_append]
      have z2 := ps_le (mq_le (f 18 j) (f 12)) (dd + 1)
      refine r_istore (j := 8) (pq := 112) C dX12_keptOn_110 rfl (by decide) rfl rfl ?_
      dsimp only [List.set]
      refine r_aload_n (pq := 113) C dX12_keptOn_112 rfl rfl ?_
      refine m_geta (pq := 116) C 17 (by decide) rfl rfl (by decide +kernel) dX12_keptOn_113 rfl ?_
      refine r_iload_n (pq := 117) C dX12_keptOn_116 rfl rfl ?_
      refine m_iald (pq := 118) C hB 17 12 rfl rfl (by decide) rfl (by decide) (by omega) dX12_keptOn_117 rfl (fun b117 => ?_)
      refine r_tableIn (tg := 144) C dX12_keptOn_118 (by rw [hk]; decide) (by rw [hk]; decide) (by rw [hk]; rfl) (by decide) ?_
      refine r_iload (pq := 146) C dX12_keptOn_144 rfl rfl ?_
      refine r_iload_n (pq := 147) C dX12_keptOn_146 rfl rfl ?_
      refine rN_icmp_gt (tg := 154) (pq := 150) C dX12_keptOn_147 (by decide) rfl (by omega) (by omega) (fun c147 => ?_) (fun c147 => ?_)
      · refine r_iload (pq := 156) C dX12_keptOn_154 rfl rfl ?_
        refine r_iload_n (pq := 157) C dX12_keptOn_156 rfl rfl ?_
        refine rN_icmp_le (tg := 164) (pq := 160) C dX12_keptOn_157 (by decide) rfl (by omega) (by omega) (fun c157 => ?_) (fun c157 => ?_)
        · refine r_iconst (v := nI 1) (pq := 165) C dX12_keptOn_164 (by decide) rfl ?_
          refine r_iret C D rfl ⟨Nat.le_refl _, Nat.le_refl _⟩ dX12_keptOn_165 ?_
          refine ⟨rfl, ?_⟩
          unfold kp
          rw [if_neg (by omega)]
          rw [hk, if_pos rfl]
          rw [hwd, tn_nI (by omega)]
          first
          | rw [if_pos (by omega)]
          | rw [if_neg (by omega), if_pos (by omega)]
          | rw [if_neg (by omega), if_neg (by omega)]
        · refine r_iconst (v := nI 0) (pq := 161) C dX12_keptOn_160 (by decide) rfl ?_
          refine r_goto (tg := 165) C dX12_keptOn_161 (by decide) ?_
          refine r_iret C D rfl ⟨Nat.le_refl _, Nat.le_refl _⟩ dX12_keptOn_165 ?_
          refine ⟨rfl, ?_⟩
          unfold kp
          rw [if_neg (by omega)]
          rw [hk, if_pos rfl]
          rw [hwd, tn_nI (by omega)]
          first
          | rw [if_pos (by omega)]
          | rw [if_neg (by omega), if_pos (by omega)]
          | rw [if_neg (by omega), if_neg (by omega)]
      · refine r_iconst (v := nI 2) (pq := 151) C dX12_keptOn_150 (by decide) rfl ?_
        refine r_goto (tg := 165) C dX12_keptOn_151 (by decide) ?_
        refine r_iret C D rfl ⟨Nat.le_refl _, Nat.le_refl _⟩ dX12_keptOn_165 ?_
        refine ⟨rfl, ?_⟩
        unfold kp
        rw [if_neg (by omega)]
        rw [hk, if_pos rfl]
        rw [hwd, tn_nI (by omega)]
        first
        | rw [if_pos (by omega)]
        | rw [if_neg (by omega), if_pos (by omega)]
        | rw [if_neg (by omega), if_neg (by omega)]
  · have hn := hK.2.2.1
    refine r_aload_n (pq := 1) C dX12_keptOn_0 rfl rfl ?_
    refine m_geta (pq := 4) C 19 (by decide) rfl rfl (by decide +kernel) dX12_keptOn_1 rfl ?_
    refine r_iload_n (pq := 5) C dX12_keptOn_4 rfl rfl ?_
    refine m_iald (pq := 6) C hB 19 12 rfl rfl (by decide) rfl (by decide) (by omega) dX12_keptOn_5 rfl (fun b5 => ?_)
    refine r_istore_n (j := 3) (pq := 7) C dX12_keptOn_6 rfl (by decide) rfl rfl ?_
    dsimp only [List.set]
    refine r_aload_n (pq := 8) C dX12_keptOn_7 rfl rfl ?_
    refine m_geta (pq := 11) C 18 (by decide) rfl rfl (by decide +kernel) dX12_keptOn_8 rfl ?_
    refine r_iload_n (pq := 12) C dX12_keptOn_11 rfl rfl ?_
    refine m_iald (pq := 13) C hB 18 12 rfl rfl (by decide) rfl (by decide) (by omega) dX12_keptOn_12 rfl (fun b12 => ?_)
    refine r_istore (j := 4) (pq := 15) C dX12_keptOn_13 rfl (by decide) rfl rfl ?_
    dsimp only [List.set]
    refine r_aload_n (pq := 16) C dX12_keptOn_15 rfl rfl ?_
    refine m_geta (pq := 19) C 17 (by decide) rfl rfl (by decide +kernel) dX12_keptOn_16 rfl ?_
    refine r_iload_n (pq := 20) C dX12_keptOn_19 rfl rfl ?_
    refine m_iald (pq := 21) C hB 17 12 rfl rfl (by decide) rfl (by decide) (by omega) dX12_keptOn_20 rfl (fun b20 => ?_)
    refine r_iconst (v := nI 1) (pq := 22) C dX12_keptOn_21 (by decide) rfl ?_
    refine rN_icmp_eq (tg := 35) (pq := 25) C dX12_keptOn_22 (by decide) rfl (by omega) (by omega) (fun c22 => ?_) (fun c22 => absurd hk c22)
    refine r_iconst (v := nI 1) (pq := 36) C dX12_keptOn_35 (by decide) rfl ?_
    refine r_goto (tg := 40) C dX12_keptOn_36 (by decide) ?_
    refine r_istore (j := 5) (pq := 42) C dX12_keptOn_40 rfl (by decide) rfl rfl ?_
    dsimp only [List.set]
    refine r_iload (pq := 44) C dX12_keptOn_42 rfl rfl ?_
    refine rN_if_eq (tg := 54) (pq := 47) C dX12_keptOn_44 (by decide) rfl (by omega) (fun c44 => absurd c44 (by decide)) (fun c44 => ?_)
    refine r_iload_n (pq := 48) C dX12_keptOn_47 rfl rfl ?_
    refine r_iload_n (pq := 49) C dX12_keptOn_48 rfl rfl ?_
    refine rN_icmp_ge (tg := 54) (pq := 52) C dX12_keptOn_49 (by decide) rfl (by omega) (by omega) (fun c49 => ?_) (fun c49 => ?_)
    · refine r_iload (pq := 56) C dX12_keptOn_54 rfl rfl ?_
      refine rN_if_eq (tg := 65) (pq := 59) C dX12_keptOn_56 (by decide) rfl (by omega) (fun c56 => absurd c56 (by decide)) (fun c56 => ?_)
      refine r_iload_n (pq := 60) C dX12_keptOn_59 rfl rfl ?_
      refine r_iload_n (pq := 61) C dX12_keptOn_60 rfl rfl ?_
      refine rN_isub (pq := 62) C dX12_keptOn_61 (by omega) rfl ?_
      refine r_goto (tg := 75) C dX12_keptOn_62 (by decide) ?_
      refine r_istore (j := 6) (pq := 77) C dX12_keptOn_75 rfl (by decide) rfl rfl ?_
      dsimp only [List.set]
      refine r_iload (pq := 79) C dX12_keptOn_77 rfl rfl ?_
      refine rN_if_ge (tg := 86) (pq := 82) C dX12_keptOn_79 (by decide) rfl (by omega) ?_
      refine r_iload (pq := 88) C dX12_keptOn_86 rfl rfl ?_
      refine r_istore (j := 6) (pq := 90) C dX12_keptOn_88 rfl (by decide) rfl rfl ?_
      dsimp only [List.set]
      refine r_aload_n (pq := 91) C dX12_keptOn_90 rfl rfl ?_
      refine r_iload (pq := 93) C dX12_keptOn_91 rfl rfl ?_
      refine r_iload (pq := 95) C dX12_keptOn_93 rfl rfl ?_
      refine r_iload_n (pq := 96) C dX12_keptOn_95 rfl rfl ?_
      refine r_callV (pq := 99) C (mc_X12_leastOf hB hK.2.1 (hL _ hK.2.1) (by omega) (by omega)) (WM_obj _ _ _ _ _ _) rfl gX12_keptOn_X12_leastOf rfl (na := 3) (by decide +kernel) rfl (by decide) (by decide) (Nat.le_of_ble_eq_true rfl) ⟨Nat.zero_le _, Nat.zero_le _⟩ dX12_keptOn_96 rfl rfl (fun r9 w9 hq => ?_)
      obtain ⟨rfl, rfl⟩ := hq
      dsimp only [Option.toList, List.cons_append, List.nil_append]
      have z1 := ps_le (lq_le (f 18 j) (f 12)) (dd + 1)
      refine r_istore (j := 7) (pq := 101) C dX12_keptOn_99 rfl (by decide) rfl rfl ?_
      dsimp only [List.set]
      refine r_aload_n (pq := 102) C dX12_keptOn_101 rfl rfl ?_
      refine r_iload (pq := 104) C dX12_keptOn_102 rfl rfl ?_
      refine r_iload (pq := 106) C dX12_keptOn_104 rfl rfl ?_
      refine r_iload_n (pq := 107) C dX12_keptOn_106 rfl rfl ?_
      refine r_callV (pq := 110) C (mc_X12_mostOf hB hK.2.1 (hL _ hK.2.1) (by omega) (by omega)) (WM_obj _ _ _ _ _ _) rfl gX12_keptOn_X12_mostOf rfl (na := 3) (by decide +kernel) rfl (by decide) (by decide) (Nat.le_of_ble_eq_true rfl) ⟨Nat.zero_le _, Nat.zero_le _⟩ dX12_keptOn_107 rfl rfl (fun r9 w9 hq => ?_)
      obtain ⟨rfl, rfl⟩ := hq
      dsimp only [Option.toList, List.cons_append, List.nil_append]
      have z2 := ps_le (mq_le (f 18 j) (f 12)) (dd + 1)
      refine r_istore (j := 8) (pq := 112) C dX12_keptOn_110 rfl (by decide) rfl rfl ?_
      dsimp only [List.set]
      refine r_aload_n (pq := 113) C dX12_keptOn_112 rfl rfl ?_
      refine m_geta (pq := 116) C 17 (by decide) rfl rfl (by decide +kernel) dX12_keptOn_113 rfl ?_
      refine r_iload_n (pq := 117) C dX12_keptOn_116 rfl rfl ?_
      refine m_iald (pq := 118) C hB 17 12 rfl rfl (by decide) rfl (by decide) (by omega) dX12_keptOn_117 rfl (fun b117 => ?_)
      refine r_tableIn (tg := 166) C dX12_keptOn_118 (by rw [hk]; decide) (by rw [hk]; decide) (by rw [hk]; rfl) (by decide) ?_
      refine r_iload (pq := 168) C dX12_keptOn_166 rfl rfl ?_
      refine r_iload_n (pq := 169) C dX12_keptOn_168 rfl rfl ?_
      refine r_iconst (v := nI 1) (pq := 170) C dX12_keptOn_169 (by decide) rfl ?_
      refine rN_iadd (pq := 171) C dX12_keptOn_170 rfl ?_
      refine rN_icmp_ne (tg := 178) (pq := 174) C dX12_keptOn_171 (by decide) rfl (by omega) (by omega) (fun c171 => ?_) (fun c171 => ?_)
      · refine r_iload (pq := 180) C dX12_keptOn_178 rfl rfl ?_
        refine r_iload_n (pq := 181) C dX12_keptOn_180 rfl rfl ?_
        refine rN_icmp_gt (tg := 188) (pq := 184) C dX12_keptOn_181 (by decide) rfl (by omega) (by omega) (fun c181 => ?_) (fun c181 => ?_)
        · refine r_iconst (v := nI 1) (pq := 189) C dX12_keptOn_188 (by decide) rfl ?_
          refine r_iret C D rfl ⟨Nat.le_refl _, Nat.le_refl _⟩ dX12_keptOn_189 ?_
          refine ⟨rfl, ?_⟩
          unfold kp
          rw [if_neg (by omega)]
          rw [hk, if_neg (by decide)]
          rw [if_pos rfl]
          first
          | rw [if_pos (by omega)]
          | rw [if_neg (by omega), if_pos (by omega)]
          | rw [if_neg (by omega), if_neg (by omega)]
        · refine r_iconst (v := nI 2) (pq := 185) C dX12_keptOn_184 (by decide) rfl ?_
          refine r_goto (tg := 189) C dX12_keptOn_185 (by decide) ?_
          refine r_iret C D rfl ⟨Nat.le_refl _, Nat.le_refl _⟩ dX12_keptOn_189 ?_
          refine ⟨rfl, ?_⟩
          unfold kp
          rw [if_neg (by omega)]
          rw [hk, if_neg (by decide)]
          rw [if_pos rfl]
          first
          | rw [if_pos (by omega)]
          | rw [if_neg (by omega), if_pos (by omega)]
          | rw [if_neg (by omega), if_neg (by omega)]
      · refine r_iconst (v := nI 0) (pq := 175) C dX12_keptOn_174 (by decide) rfl ?_
        refine r_goto (tg := 189) C dX12_keptOn_175 (by decide) ?_
        refine r_iret C D rfl ⟨Nat.le_refl _, Nat.le_refl _⟩ dX12_keptOn_189 ?_
        refine ⟨rfl, ?_⟩
        unfold kp
        rw [if_neg (by omega)]
        rw [hk, if_neg (by decide)]
        rw [if_pos rfl]
        first
        | rw [if_pos (by omega)]
        | rw [if_neg (by omega), if_pos (by omega)]
        | rw [if_neg (by omega), if_neg (by omega)]
    · refine r_iconst (v := nI 2) (pq := 53) C dX12_keptOn_52 (by decide) rfl ?_
      refine r_iret C D rfl ⟨Nat.le_refl _, Nat.le_refl _⟩ dX12_keptOn_53 ?_
      refine ⟨rfl, ?_⟩
      unfold kp
      rw [if_pos (by omega)]
  · obtain ⟨wd, hw1, hw2, hwd⟩ := hK.2.2.2 (by omega)
    have hn := hK.2.2.1
    refine r_aload_n (pq := 1) C dX12_keptOn_0 rfl rfl ?_
    refine m_geta (pq := 4) C 19 (by decide) rfl rfl (by decide +kernel) dX12_keptOn_1 rfl ?_
    refine r_iload_n (pq := 5) C dX12_keptOn_4 rfl rfl ?_
    refine m_iald (pq := 6) C hB 19 12 rfl rfl (by decide) rfl (by decide) (by omega) dX12_keptOn_5 rfl (fun b5 => ?_)
    refine r_istore_n (j := 3) (pq := 7) C dX12_keptOn_6 rfl (by decide) rfl rfl ?_
    dsimp only [List.set]
    refine r_aload_n (pq := 8) C dX12_keptOn_7 rfl rfl ?_
    refine m_geta (pq := 11) C 18 (by decide) rfl rfl (by decide +kernel) dX12_keptOn_8 rfl ?_
    refine r_iload_n (pq := 12) C dX12_keptOn_11 rfl rfl ?_
    refine m_iald (pq := 13) C hB 18 12 rfl rfl (by decide) rfl (by decide) (by omega) dX12_keptOn_12 rfl (fun b12 => ?_)
    refine r_istore (j := 4) (pq := 15) C dX12_keptOn_13 rfl (by decide) rfl rfl ?_
    dsimp only [List.set]
    refine r_aload_n (pq := 16) C dX12_keptOn_15 rfl rfl ?_
    refine m_geta (pq := 19) C 17 (by decide) rfl rfl (by decide +kernel) dX12_keptOn_16 rfl ?_
    refine r_iload_n (pq := 20) C dX12_keptOn_19 rfl rfl ?_
    refine m_iald (pq := 21) C hB 17 12 rfl rfl (by decide) rfl (by decide) (by omega) dX12_keptOn_20 rfl (fun b20 => ?_)
    refine r_iconst (v := nI 1) (pq := 22) C dX12_keptOn_21 (by decide) rfl ?_
    refine rN_icmp_eq (tg := 35) (pq := 25) C dX12_keptOn_22 (by decide) rfl (by omega) (by omega) (fun c22 => absurd hk (by omega)) (fun c22 => ?_)
    refine r_aload_n (pq := 26) C dX12_keptOn_25 rfl rfl ?_
    refine m_geta (pq := 29) C 17 (by decide) rfl rfl (by decide +kernel) dX12_keptOn_26 rfl ?_
    refine r_iload_n (pq := 30) C dX12_keptOn_29 rfl rfl ?_
    refine m_iald (pq := 31) C hB 17 12 rfl rfl (by decide) rfl (by decide) (by omega) dX12_keptOn_30 rfl (fun b30 => ?_)
    refine r_iconst (v := nI 3) (pq := 32) C dX12_keptOn_31 (by decide) rfl ?_
    refine rN_icmp_ne (tg := 39) (pq := 35) C dX12_keptOn_32 (by decide) rfl (by omega) (by omega) (fun c32 => ?_) (fun c32 => absurd hk (by omega))
    refine r_iconst (v := nI 0) (pq := 40) C dX12_keptOn_39 (by decide) rfl ?_
    refine r_istore (j := 5) (pq := 42) C dX12_keptOn_40 rfl (by decide) rfl rfl ?_
    dsimp only [List.set]
    refine r_iload (pq := 44) C dX12_keptOn_42 rfl rfl ?_
    refine rN_if_eq (tg := 54) (pq := 47) C dX12_keptOn_44 (by decide) rfl (by omega) (fun c44 => ?_) (fun c44 => absurd rfl c44)
    refine r_iload (pq := 56) C dX12_keptOn_54 rfl rfl ?_
    refine rN_if_eq (tg := 65) (pq := 59) C dX12_keptOn_56 (by decide) rfl (by omega) (fun c56 => ?_) (fun c56 => absurd rfl c56)
    refine r_iload_n (pq := 66) C dX12_keptOn_65 rfl rfl ?_
    refine r_aload_n (pq := 67) C dX12_keptOn_66 rfl rfl ?_
    refine m_geta (pq := 70) C 20 (by decide) rfl rfl (by decide +kernel) dX12_keptOn_67 rfl ?_
    refine r_iload_n (pq := 71) C dX12_keptOn_70 rfl rfl ?_
    refine m_ialdZ (pq := 72) C 20 12 rfl rfl (by decide) rfl (by decide) (by omega) dX12_keptOn_71 rfl ?_
    rw [hwd]
    refine r_isub (pq := 73) C dX12_keptOn_72 rfl ?_
    refine r_iconst (v := nI 1) (pq := 74) C dX12_keptOn_73 (by decide) rfl ?_
    refine r_iadd (pq := 75) C dX12_keptOn_74 rfl ?_
    rcases Nat.lt_or_ge (dd + 1) wd with q9 | q9
    · have e8 : (nI dd - nI wd + nI 1).toInt = (dd : Int) - wd + 1 := by
        rw [fb_addI, pk_sub_toInt (by omega) (by omega), nI_toInt (by omega)]
        · rfl
        · rw [pk_sub_toInt (by omega) (by omega), nI_toInt (by omega)]; omega
        · rw [pk_sub_toInt (by omega) (by omega), nI_toInt (by omega)]; omega
      have e9 : dd + 1 - wd = 0 := by omega
      refine r_top (fun x8 ex8 => ?_)
      rw [← ex8] at e8
      refine r_istore (j := 6) (pq := 77) C dX12_keptOn_75 rfl (by decide) rfl rfl ?_
      dsimp only [List.set]
      refine r_iload (pq := 79) C dX12_keptOn_77 rfl rfl ?_
      refine r_if_ge (tg := 86) (pq := 82) C dX12_keptOn_79 (by decide) rfl (fun c79 => absurd c79 (by rw [le_i, show (0 : Int32).toInt = 0 from rfl]; omega)) (fun c79 => ?_)
      refine r_iconst (v := nI 0) (pq := 83) C dX12_keptOn_82 (by decide) rfl ?_
      refine r_goto (tg := 88) C dX12_keptOn_83 (by decide) ?_
      refine r_istore (j := 6) (pq := 90) C dX12_keptOn_88 rfl (by decide) rfl rfl ?_
      dsimp only [List.set]
      refine r_aload_n (pq := 91) C dX12_keptOn_90 rfl rfl ?_
      refine r_iload (pq := 93) C dX12_keptOn_91 rfl rfl ?_
      refine r_iload (pq := 95) C dX12_keptOn_93 rfl rfl ?_
      refine r_iload_n (pq := 96) C dX12_keptOn_95 rfl rfl ?_
      refine r_callV (pq := 99) C (mc_X12_leastOf hB hK.2.1 (hL _ hK.2.1) (by omega) (by omega)) (WM_obj _ _ _ _ _ _) rfl gX12_keptOn_X12_leastOf rfl (na := 3) (by decide +kernel) rfl (by decide) (by decide) (Nat.le_of_ble_eq_true rfl) ⟨Nat.zero_le _, Nat.zero_le _⟩ dX12_keptOn_96 rfl rfl (fun r9 w9 hq => ?_)
      obtain ⟨rfl, rfl⟩ := hq
      dsimp only [Option.toList, List.cons_append, List.nil_append]
      have z1 := ps_le (lq_le (f 18 j) (f 12)) (dd + 1)
      refine r_istore (j := 7) (pq := 101) C dX12_keptOn_99 rfl (by decide) rfl rfl ?_
      dsimp only [List.set]
      refine r_aload_n (pq := 102) C dX12_keptOn_101 rfl rfl ?_
      refine r_iload (pq := 104) C dX12_keptOn_102 rfl rfl ?_
      refine r_iload (pq := 106) C dX12_keptOn_104 rfl rfl ?_
      refine r_iload_n (pq := 107) C dX12_keptOn_106 rfl rfl ?_
      refine r_callV (pq := 110) C (mc_X12_mostOf hB hK.2.1 (hL _ hK.2.1) (by omega) (by omega)) (WM_obj _ _ _ _ _ _) rfl gX12_keptOn_X12_mostOf rfl (na := 3) (by decide +kernel) rfl (by decide) (by decide) (Nat.le_of_ble_eq_true rfl) ⟨Nat.zero_le _, Nat.zero_le _⟩ dX12_keptOn_107 rfl rfl (fun r9 w9 hq => ?_)
      obtain ⟨rfl, rfl⟩ := hq
      dsimp only [Option.toList, List.cons_append, List.nil_append]
      have z2 := ps_le (mq_le (f 18 j) (f 12)) (dd + 1)
      refine r_istore (j := 8) (pq := 112) C dX12_keptOn_110 rfl (by decide) rfl rfl ?_
      dsimp only [List.set]
      refine r_aload_n (pq := 113) C dX12_keptOn_112 rfl rfl ?_
      refine m_geta (pq := 116) C 17 (by decide) rfl rfl (by decide +kernel) dX12_keptOn_113 rfl ?_
      refine r_iload_n (pq := 117) C dX12_keptOn_116 rfl rfl ?_
      refine m_iald (pq := 118) C hB 17 12 rfl rfl (by decide) rfl (by decide) (by omega) dX12_keptOn_117 rfl (fun b117 => ?_)
      refine r_tableIn (tg := 190) C dX12_keptOn_118 (by rw [hk]; decide) (by rw [hk]; decide) (by rw [hk]; rfl) (by decide) ?_
      refine r_iload (pq := 192) C dX12_keptOn_190 rfl rfl ?_
      refine r_iload_n (pq := 193) C dX12_keptOn_192 rfl rfl ?_
      refine rN_icmp_lt (tg := 200) (pq := 196) C dX12_keptOn_193 (by decide) rfl (by omega) (by omega) (fun c193 => ?_) (fun c193 => ?_)
      · refine r_iload (pq := 202) C dX12_keptOn_200 rfl rfl ?_
        refine r_iload_n (pq := 203) C dX12_keptOn_202 rfl rfl ?_
        refine rN_icmp_ge (tg := 210) (pq := 206) C dX12_keptOn_203 (by decide) rfl (by omega) (by omega) (fun c203 => ?_) (fun c203 => ?_)
        · refine r_iconst (v := nI 1) (pq := 211) C dX12_keptOn_210 (by decide) rfl ?_
          refine r_iret C D rfl ⟨Nat.le_refl _, Nat.le_refl _⟩ dX12_keptOn_211 ?_
          refine ⟨rfl, ?_⟩
          unfold kp
          rw [if_neg (by omega)]
          rw [hk, if_neg (by decide)]
          rw [if_neg (by decide)]
          rw [if_pos rfl]
          rw [hwd, tn_nI (by omega)]
          simp only [e9]
          first
          | rw [if_pos (by omega)]
          | rw [if_neg (by omega), if_pos (by omega)]
          | rw [if_neg (by omega), if_neg (by omega)]
        · refine r_iconst (v := nI 0) (pq := 207) C dX12_keptOn_206 (by decide) rfl ?_
          refine r_goto (tg := 211) C dX12_keptOn_207 (by decide) ?_
          refine r_iret C D rfl ⟨Nat.le_refl _, Nat.le_refl _⟩ dX12_keptOn_211 ?_
          refine ⟨rfl, ?_⟩
          unfold kp
          rw [if_neg (by omega)]
          rw [hk, if_neg (by decide)]
          rw [if_neg (by decide)]
          rw [if_pos rfl]
          rw [hwd, tn_nI (by omega)]
          simp only [e9]
          first
          | rw [if_pos (by omega)]
          | rw [if_neg (by omega), if_pos (by omega)]
          | rw [if_neg (by omega), if_neg (by omega)]
      · refine r_iconst (v := nI 2) (pq := 197) C dX12_keptOn_196 (by decide) rfl ?_
        refine r_goto (tg := 211) C dX12_keptOn_197 (by decide) ?_
        refine r_iret C D rfl ⟨Nat.le_refl _, Nat.le_refl _⟩ dX12_keptOn_211 ?_
        refine ⟨rfl, ?_⟩
        unfold kp
        rw [if_neg (by omega)]
        rw [hk, if_neg (by decide)]
        rw [if_neg (by decide)]
        rw [if_pos rfl]
        rw [hwd, tn_nI (by omega)]
        simp only [e9]
        first
        | rw [if_pos (by omega)]
        | rw [if_neg (by omega), if_pos (by omega)]
        | rw [if_neg (by omega), if_neg (by omega)]
    · refine r_at (y := nI (dd + 1 - wd)) ?_ ?_
      · rw [show nI dd - nI wd + nI 1 = nI dd + nI 1 - nI wd by rw [nz_sac]]
        rw [nI_add, pk_sub q9]
      refine r_istore (j := 6) (pq := 77) C dX12_keptOn_75 rfl (by decide) rfl rfl ?_
      dsimp only [List.set]
      refine r_iload (pq := 79) C dX12_keptOn_77 rfl rfl ?_
      refine rN_if_ge (tg := 86) (pq := 82) C dX12_keptOn_79 (by decide) rfl (by omega) ?_
      refine r_iload (pq := 88) C dX12_keptOn_86 rfl rfl ?_
      refine r_istore (j := 6) (pq := 90) C dX12_keptOn_88 rfl (by decide) rfl rfl ?_
      dsimp only [List.set]
      refine r_aload_n (pq := 91) C dX12_keptOn_90 rfl rfl ?_
      refine r_iload (pq := 93) C dX12_keptOn_91 rfl rfl ?_
      refine r_iload (pq := 95) C dX12_keptOn_93 rfl rfl ?_
      refine r_iload_n (pq := 96) C dX12_keptOn_95 rfl rfl ?_
      refine r_callV (pq := 99) C (mc_X12_leastOf hB hK.2.1 (hL _ hK.2.1) (by omega) (by omega)) (WM_obj _ _ _ _ _ _) rfl gX12_keptOn_X12_leastOf rfl (na := 3) (by decide +kernel) rfl (by decide) (by decide) (Nat.le_of_ble_eq_true rfl) ⟨Nat.zero_le _, Nat.zero_le _⟩ dX12_keptOn_96 rfl rfl (fun r9 w9 hq => ?_)
      obtain ⟨rfl, rfl⟩ := hq
      dsimp only [Option.toList, List.cons_append, List.nil_append]
      have z1 := ps_le (lq_le (f 18 j) (f 12)) (dd + 1)
      refine r_istore (j := 7) (pq := 101) C dX12_keptOn_99 rfl (by decide) rfl rfl ?_
      dsimp only [List.set]
      refine r_aload_n (pq := 102) C dX12_keptOn_101 rfl rfl ?_
      refine r_iload (pq := 104) C dX12_keptOn_102 rfl rfl ?_
      refine r_iload (pq := 106) C dX12_keptOn_104 rfl rfl ?_
      refine r_iload_n (pq := 107) C dX12_keptOn_106 rfl rfl ?_
      refine r_callV (pq := 110) C (mc_X12_mostOf hB hK.2.1 (hL _ hK.2.1) (by omega) (by omega)) (WM_obj _ _ _ _ _ _) rfl gX12_keptOn_X12_mostOf rfl (na := 3) (by decide +kernel) rfl (by decide) (by decide) (Nat.le_of_ble_eq_true rfl) ⟨Nat.zero_le _, Nat.zero_le _⟩ dX12_keptOn_107 rfl rfl (fun r9 w9 hq => ?_)
      obtain ⟨rfl, rfl⟩ := hq
      dsimp only [Option.toList, List.cons_append, List.nil_append]
      have z2 := ps_le (mq_le (f 18 j) (f 12)) (dd + 1)
      refine r_istore (j := 8) (pq := 112) C dX12_keptOn_110 rfl (by decide) rfl rfl ?_
      dsimp only [List.set]
      refine r_aload_n (pq := 113) C dX12_keptOn_112 rfl rfl ?_
      refine m_geta (pq := 116) C 17 (by decide) rfl rfl (by decide +kernel) dX12_keptOn_113 rfl ?_
      refine r_iload_n (pq := 117) C dX12_keptOn_116 rfl rfl ?_
      refine m_iald (pq := 118) C hB 17 12 rfl rfl (by decide) rfl (by decide) (by omega) dX12_keptOn_117 rfl (fun b117 => ?_)
      refine r_tableIn (tg := 190) C dX12_keptOn_118 (by rw [hk]; decide) (by rw [hk]; decide) (by rw [hk]; rfl) (by decide) ?_
      refine r_iload (pq := 192) C dX12_keptOn_190 rfl rfl ?_
      refine r_iload_n (pq := 193) C dX12_keptOn_192 rfl rfl ?_
      refine rN_icmp_lt (tg := 200) (pq := 196) C dX12_keptOn_193 (by decide) rfl (by omega) (by omega) (fun c193 => ?_) (fun c193 => ?_)
      · refine r_iload (pq := 202) C dX12_keptOn_200 rfl rfl ?_
        refine r_iload_n (pq := 203) C dX12_keptOn_202 rfl rfl ?_
        refine rN_icmp_ge (tg := 210) (pq := 206) C dX12_keptOn_203 (by decide) rfl (by omega) (by omega) (fun c203 => ?_) (fun c203 => ?_)
        · refine r_iconst (v := nI 1) (pq := 211) C dX12_keptOn_210 (by decide) rfl ?_
          refine r_iret C D rfl ⟨Nat.le_refl _, Nat.le_refl _⟩ dX12_keptOn_211 ?_
          refine ⟨rfl, ?_⟩
          unfold kp
          rw [if_neg (by omega)]
          rw [hk, if_neg (by decide)]
          rw [if_neg (by decide)]
          rw [if_pos rfl]
          rw [hwd, tn_nI (by omega)]
          first
          | rw [if_pos (by omega)]
          | rw [if_neg (by omega), if_pos (by omega)]
          | rw [if_neg (by omega), if_neg (by omega)]
        · refine r_iconst (v := nI 0) (pq := 207) C dX12_keptOn_206 (by decide) rfl ?_
          refine r_goto (tg := 211) C dX12_keptOn_207 (by decide) ?_
          refine r_iret C D rfl ⟨Nat.le_refl _, Nat.le_refl _⟩ dX12_keptOn_211 ?_
          refine ⟨rfl, ?_⟩
          unfold kp
          rw [if_neg (by omega)]
          rw [hk, if_neg (by decide)]
          rw [if_neg (by decide)]
          rw [if_pos rfl]
          rw [hwd, tn_nI (by omega)]
          first
          | rw [if_pos (by omega)]
          | rw [if_neg (by omega), if_pos (by omega)]
          | rw [if_neg (by omega), if_neg (by omega)]
      · refine r_iconst (v := nI 2) (pq := 197) C dX12_keptOn_196 (by decide) rfl ?_
        refine r_goto (tg := 211) C dX12_keptOn_197 (by decide) ?_
        refine r_iret C D rfl ⟨Nat.le_refl _, Nat.le_refl _⟩ dX12_keptOn_211 ?_
        refine ⟨rfl, ?_⟩
        unfold kp
        rw [if_neg (by omega)]
        rw [hk, if_neg (by decide)]
        rw [if_neg (by decide)]
        rw [if_pos rfl]
        rw [hwd, tn_nI (by omega)]
        first
        | rw [if_pos (by omega)]
        | rw [if_neg (by omega), if_pos (by omega)]
        | rw [if_neg (by omega), if_neg (by omega)]
  · have hn := hK.2.2.1
    refine r_aload_n (pq := 1) C dX12_keptOn_0 rfl rfl ?_
    refine m_geta (pq := 4) C 19 (by decide) rfl rfl (by decide +kernel) dX12_keptOn_1 rfl ?_
    refine r_iload_n (pq := 5) C dX12_keptOn_4 rfl rfl ?_
    refine m_iald (pq := 6) C hB 19 12 rfl rfl (by decide) rfl (by decide) (by omega) dX12_keptOn_5 rfl (fun b5 => ?_)
    refine r_istore_n (j := 3) (pq := 7) C dX12_keptOn_6 rfl (by decide) rfl rfl ?_
    dsimp only [List.set]
    refine r_aload_n (pq := 8) C dX12_keptOn_7 rfl rfl ?_
    refine m_geta (pq := 11) C 18 (by decide) rfl rfl (by decide +kernel) dX12_keptOn_8 rfl ?_
    refine r_iload_n (pq := 12) C dX12_keptOn_11 rfl rfl ?_
    refine m_iald (pq := 13) C hB 18 12 rfl rfl (by decide) rfl (by decide) (by omega) dX12_keptOn_12 rfl (fun b12 => ?_)
    refine r_istore (j := 4) (pq := 15) C dX12_keptOn_13 rfl (by decide) rfl rfl ?_
    dsimp only [List.set]
    refine r_aload_n (pq := 16) C dX12_keptOn_15 rfl rfl ?_
    refine m_geta (pq := 19) C 17 (by decide) rfl rfl (by decide +kernel) dX12_keptOn_16 rfl ?_
    refine r_iload_n (pq := 20) C dX12_keptOn_19 rfl rfl ?_
    refine m_iald (pq := 21) C hB 17 12 rfl rfl (by decide) rfl (by decide) (by omega) dX12_keptOn_20 rfl (fun b20 => ?_)
    refine r_iconst (v := nI 1) (pq := 22) C dX12_keptOn_21 (by decide) rfl ?_
    refine rN_icmp_eq (tg := 35) (pq := 25) C dX12_keptOn_22 (by decide) rfl (by omega) (by omega) (fun c22 => absurd hk (by omega)) (fun c22 => ?_)
    refine r_aload_n (pq := 26) C dX12_keptOn_25 rfl rfl ?_
    refine m_geta (pq := 29) C 17 (by decide) rfl rfl (by decide +kernel) dX12_keptOn_26 rfl ?_
    refine r_iload_n (pq := 30) C dX12_keptOn_29 rfl rfl ?_
    refine m_iald (pq := 31) C hB 17 12 rfl rfl (by decide) rfl (by decide) (by omega) dX12_keptOn_30 rfl (fun b30 => ?_)
    refine r_iconst (v := nI 3) (pq := 32) C dX12_keptOn_31 (by decide) rfl ?_
    refine rN_icmp_ne (tg := 39) (pq := 35) C dX12_keptOn_32 (by decide) rfl (by omega) (by omega) (fun c32 => absurd hk c32) (fun c32 => ?_)
    refine r_iconst (v := nI 1) (pq := 36) C dX12_keptOn_35 (by decide) rfl ?_
    refine r_goto (tg := 40) C dX12_keptOn_36 (by decide) ?_
    refine r_istore (j := 5) (pq := 42) C dX12_keptOn_40 rfl (by decide) rfl rfl ?_
    dsimp only [List.set]
    refine r_iload (pq := 44) C dX12_keptOn_42 rfl rfl ?_
    refine rN_if_eq (tg := 54) (pq := 47) C dX12_keptOn_44 (by decide) rfl (by omega) (fun c44 => absurd c44 (by decide)) (fun c44 => ?_)
    refine r_iload_n (pq := 48) C dX12_keptOn_47 rfl rfl ?_
    refine r_iload_n (pq := 49) C dX12_keptOn_48 rfl rfl ?_
    refine rN_icmp_ge (tg := 54) (pq := 52) C dX12_keptOn_49 (by decide) rfl (by omega) (by omega) (fun c49 => ?_) (fun c49 => ?_)
    · refine r_iload (pq := 56) C dX12_keptOn_54 rfl rfl ?_
      refine rN_if_eq (tg := 65) (pq := 59) C dX12_keptOn_56 (by decide) rfl (by omega) (fun c56 => absurd c56 (by decide)) (fun c56 => ?_)
      refine r_iload_n (pq := 60) C dX12_keptOn_59 rfl rfl ?_
      refine r_iload_n (pq := 61) C dX12_keptOn_60 rfl rfl ?_
      refine rN_isub (pq := 62) C dX12_keptOn_61 (by omega) rfl ?_
      refine r_goto (tg := 75) C dX12_keptOn_62 (by decide) ?_
      refine r_istore (j := 6) (pq := 77) C dX12_keptOn_75 rfl (by decide) rfl rfl ?_
      dsimp only [List.set]
      refine r_iload (pq := 79) C dX12_keptOn_77 rfl rfl ?_
      refine rN_if_ge (tg := 86) (pq := 82) C dX12_keptOn_79 (by decide) rfl (by omega) ?_
      refine r_iload (pq := 88) C dX12_keptOn_86 rfl rfl ?_
      refine r_istore (j := 6) (pq := 90) C dX12_keptOn_88 rfl (by decide) rfl rfl ?_
      dsimp only [List.set]
      refine r_aload_n (pq := 91) C dX12_keptOn_90 rfl rfl ?_
      refine r_iload (pq := 93) C dX12_keptOn_91 rfl rfl ?_
      refine r_iload (pq := 95) C dX12_keptOn_93 rfl rfl ?_
      refine r_iload_n (pq := 96) C dX12_keptOn_95 rfl rfl ?_
      refine r_callV (pq := 99) C (mc_X12_leastOf hB hK.2.1 (hL _ hK.2.1) (by omega) (by omega)) (WM_obj _ _ _ _ _ _) rfl gX12_keptOn_X12_leastOf rfl (na := 3) (by decide +kernel) rfl (by decide) (by decide) (Nat.le_of_ble_eq_true rfl) ⟨Nat.zero_le _, Nat.zero_le _⟩ dX12_keptOn_96 rfl rfl (fun r9 w9 hq => ?_)
      obtain ⟨rfl, rfl⟩ := hq
      dsimp only [Option.toList, List.cons_append, List.nil_append]
      have z1 := ps_le (lq_le (f 18 j) (f 12)) (dd + 1)
      refine r_istore (j := 7) (pq := 101) C dX12_keptOn_99 rfl (by decide) rfl rfl ?_
      dsimp only [List.set]
      refine r_aload_n (pq := 102) C dX12_keptOn_101 rfl rfl ?_
      refine r_iload (pq := 104) C dX12_keptOn_102 rfl rfl ?_
      refine r_iload (pq := 106) C dX12_keptOn_104 rfl rfl ?_
      refine r_iload_n (pq := 107) C dX12_keptOn_106 rfl rfl ?_
      refine r_callV (pq := 110) C (mc_X12_mostOf hB hK.2.1 (hL _ hK.2.1) (by omega) (by omega)) (WM_obj _ _ _ _ _ _) rfl gX12_keptOn_X12_mostOf rfl (na := 3) (by decide +kernel) rfl (by decide) (by decide) (Nat.le_of_ble_eq_true rfl) ⟨Nat.zero_le _, Nat.zero_le _⟩ dX12_keptOn_107 rfl rfl (fun r9 w9 hq => ?_)
      obtain ⟨rfl, rfl⟩ := hq
      dsimp only [Option.toList, List.cons_append, List.nil_append]
      have z2 := ps_le (mq_le (f 18 j) (f 12)) (dd + 1)
      refine r_istore (j := 8) (pq := 112) C dX12_keptOn_110 rfl (by decide) rfl rfl ?_
      dsimp only [List.set]
      refine r_aload_n (pq := 113) C dX12_keptOn_112 rfl rfl ?_
      refine m_geta (pq := 116) C 17 (by decide) rfl rfl (by decide +kernel) dX12_keptOn_113 rfl ?_
      refine r_iload_n (pq := 117) C dX12_keptOn_116 rfl rfl ?_
      refine m_iald (pq := 118) C hB 17 12 rfl rfl (by decide) rfl (by decide) (by omega) dX12_keptOn_117 rfl (fun b117 => ?_)
      refine r_tableOut (tg := 212) C dX12_keptOn_118 (Or.inr (by rw [hk]; decide)) (by decide) ?_
      refine r_iload (pq := 214) C dX12_keptOn_212 rfl rfl ?_
      refine rN_if_ne (tg := 221) (pq := 217) C dX12_keptOn_214 (by decide) rfl (by omega) (fun c214 => ?_) (fun c214 => ?_)
      · refine r_iload (pq := 223) C dX12_keptOn_221 rfl rfl ?_
        refine rN_if_le (tg := 230) (pq := 226) C dX12_keptOn_223 (by decide) rfl (by omega) (fun c223 => ?_) (fun c223 => ?_)
        · refine r_iconst (v := nI 1) (pq := 231) C dX12_keptOn_230 (by decide) rfl ?_
          refine r_iret C D rfl ⟨Nat.le_refl _, Nat.le_refl _⟩ dX12_keptOn_231 ?_
          refine ⟨rfl, ?_⟩
          unfold kp
          rw [if_neg (by omega)]
          rw [hk, if_neg (by decide)]
          rw [if_neg (by decide)]
          rw [if_neg (by decide)]
          first
          | rw [if_pos (by omega)]
          | rw [if_neg (by omega), if_pos (by omega)]
          | rw [if_neg (by omega), if_neg (by omega)]
        · refine r_iconst (v := nI 2) (pq := 227) C dX12_keptOn_226 (by decide) rfl ?_
          refine r_goto (tg := 231) C dX12_keptOn_227 (by decide) ?_
          refine r_iret C D rfl ⟨Nat.le_refl _, Nat.le_refl _⟩ dX12_keptOn_231 ?_
          refine ⟨rfl, ?_⟩
          unfold kp
          rw [if_neg (by omega)]
          rw [hk, if_neg (by decide)]
          rw [if_neg (by decide)]
          rw [if_neg (by decide)]
          first
          | rw [if_pos (by omega)]
          | rw [if_neg (by omega), if_pos (by omega)]
          | rw [if_neg (by omega), if_neg (by omega)]
      · refine r_iconst (v := nI 0) (pq := 218) C dX12_keptOn_217 (by decide) rfl ?_
        refine r_goto (tg := 231) C dX12_keptOn_218 (by decide) ?_
        refine r_iret C D rfl ⟨Nat.le_refl _, Nat.le_refl _⟩ dX12_keptOn_231 ?_
        refine ⟨rfl, ?_⟩
        unfold kp
        rw [if_neg (by omega)]
        rw [hk, if_neg (by decide)]
        rw [if_neg (by decide)]
        rw [if_neg (by decide)]
        first
        | rw [if_pos (by omega)]
        | rw [if_neg (by omega), if_pos (by omega)]
        | rw [if_neg (by omega), if_neg (by omega)]
    · refine r_iconst (v := nI 2) (pq := 53) C dX12_keptOn_52 (by decide) rfl ?_
      refine r_iret C D rfl ⟨Nat.le_refl _, Nat.le_refl _⟩ dX12_keptOn_53 ?_
      refine ⟨rfl, ?_⟩
      unfold kp
      rw [if_pos (by omega)]


/-! ===== the reference: who decides, who taxes ===== -/
def dci (v : Nat) : Int32 := if v = 8 then -2 else nI v
theorem nI_ne_neg {n : Nat} (hn : n < 2147483648) {x : Int32} (hx : x.toInt < 0) : nI n ≠ x := fun e => by
  have := congrArg Int32.toInt e
  rw [nI_toInt (by omega)] at this
  omega
theorem dct_le {s : ST} {t a b p y : Nat} {c : Nat → Nat} (ha : a < 8) (hb : b < 8) : dct s t a b p y c ≤ 8 := by
  unfold dct
  repeat' split
  all_goals omega
theorem dcd_le {s : ST} {a b p y : Nat} {c : Nat → Nat} (ha : a < 8) (hb : b < 8) : dcd s a b p y c ≤ 8 := by
  unfold dcd
  repeat' split
  all_goals first | omega | exact dct_le ha hb
theorem dct_0 {s : ST} {a b p y : Nat} {c : Nat → Nat} : dct s 0 a b p y c = 8 := by
  unfold dct
  rw [if_neg (by decide), if_neg (by decide), if_neg (by decide)]

set_option maxHeartbeats 4000000 in
set_option maxRecDepth 100000 in
/-- decided -/
theorem mc_X12_decided {l : Launch} {E : EV} {A : Nat → Nat} {w0 : RW} {I : Nat → Nat} {f : Nat → Nat → Nat} {g : Nat → Nat → Int32} (hB : mOK I f) {a b p y : Nat} (ha : a < 8) (hb : b < 8) (hp : p < 6) (hy : y < 4) (hL : LY f) (hh : f 2 p < 8 ∧ f 3 p < 8) (h23 : g 23 (pr a b) = -1 ∨ ∃ t, tsOK t ∧ g 23 (pr a b) = nI t) : MC l E yX12_decided wsX12_decided 1 0 0 [.ref (A 0), .int (nI a), .int (nI b), .int (nI p), .int (nI y)] (WM E A w0 I f g) (fun r w' => w' = WM E A w0 I f g ∧ r = some (.int (dci (dcd (I, f, g) a b p y (f 12))))) := by
  refine MC.enter (cc := cX12_decided) (maxL := 9) (ret := (some .int)) (lv0 := [some (.ref (A 0)), some (.int (nI a)), some (.int (nI b)), some (.int (nI p)), some (.int (nI y)), none, none, none, none]) (by decide) rfl (by simp [Value.category]) (Nat.le_of_ble_eq_true rfl) rfl ?_
  intro X hl hE C D
  subst hl
  subst hE
  have hpr := pr_lt ha hb
  have hzero : (dcd (I, f, g) a b p y (f 12)) = 8 → ∀ (v7 v8 : Option Value), GG X (WM (xE X) A w0 I f g) 0 0 19 [some (.ref (A 0)), some (.int (nI a)), some (.int (nI b)), some (.int (nI p)), some (.int (nI y)), some (.int (nI (100 * y))), some (.int (nI 0)), v7, v8] [] := by
    intro h8 v7 v8
    refine r_iload (pq := 21) C dX12_decided_19 rfl rfl ?_
    refine rN_if_le (tg := 153) (pq := 24) C dX12_decided_21 (by decide) rfl (by omega) (fun c21 => ?_) (fun c21 => absurd c21 (by omega))
    refine r_bipush (v := (-2)) (pq := 155) C dX12_decided_153 (by decide) rfl ?_
    refine r_iret C D rfl ⟨Nat.le_refl _, Nat.le_refl _⟩ dX12_decided_155 ?_
    exact ⟨rfl, by unfold dci; rw [if_pos h8]⟩
  have hbody : ∀ (L : Nat) (v7 v8 : Option Value), 0 < L → L < 64 → L % 4 ≠ 0 → ((dct (I, f, g) (L % 4) a b p y (f 12)) ≠ 8 → (dcd (I, f, g) a b p y (f 12)) = (dct (I, f, g) (L % 4) a b p y (f 12))) → ((dct (I, f, g) (L % 4) a b p y (f 12)) = 8 → ∀ (v7 v8 : Option Value), GG X (WM (xE X) A w0 I f g) 0 0 19 [some (.ref (A 0)), some (.int (nI a)), some (.int (nI b)), some (.int (nI p)), some (.int (nI y)), some (.int (nI (100 * y))), some (.int (nI (L / 4))), v7, v8] []) → GG X (WM (xE X) A w0 I f g) 0 0 19 [some (.ref (A 0)), some (.int (nI a)), some (.int (nI b)), some (.int (nI p)), some (.int (nI y)), some (.int (nI (100 * y))), some (.int (nI L)), v7, v8] [] := by
    intro L v7 v8 h0 h64 hne hres hnext
    have ya : yl a (f 12) y = ps (lq a (f 12)) (100 * y + 99 + 1) - ps (lq a (f 12)) (100 * y) := rfl
    have yb : yl b (f 12) y = ps (lq b (f 12)) (100 * y + 99 + 1) - ps (lq b (f 12)) (100 * y) := rfl
    have za : ym a (f 12) y = ps (mq a (f 12)) (100 * y + 99 + 1) - ps (mq a (f 12)) (100 * y) := rfl
    have zb : ym b (f 12) y = ps (mq b (f 12)) (100 * y + 99 + 1) - ps (mq b (f 12)) (100 * y) := rfl
    have b1 := ps_le (lq_le a (f 12)) (100 * y + 99 + 1)
    have b2x := ps_le (lq_le b (f 12)) (100 * y + 99 + 1)
    have b3 := ps_le (mq_le a (f 12)) (100 * y + 99 + 1)
    have b4 := ps_le (mq_le b (f 12)) (100 * y + 99 + 1)
    have d1 : ∀ _ : Unit, L % 4 = 1 → (dct (I, f, g) (L % 4) a b p y (f 12)) = (if f 2 p = a ∨ f 2 p = b then f 2 p else 8) := fun _ h => by unfold dct; rw [if_pos h]
    have d2 : ∀ _ : Unit, L % 4 = 2 → (dct (I, f, g) (L % 4) a b p y (f 12)) = (if ym b (f 12) y < yl a (f 12) y then a else if ym a (f 12) y < yl b (f 12) y then b else 8) := fun _ h => by unfold dct; rw [if_neg (by omega), if_pos h]
    have d3 : ∀ _ : Unit, L % 4 = 3 → (dct (I, f, g) (L % 4) a b p y (f 12)) = (if f 3 p = a ∨ f 3 p = b then f 3 p else 8) := fun _ h => by unfold dct; rw [if_neg (by omega), if_neg (by omega), if_pos h]
    refine r_iload (pq := 21) C dX12_decided_19 rfl rfl ?_
    refine rN_if_le (tg := 153) (pq := 24) C dX12_decided_21 (by decide) rfl (by omega) (fun c21 => absurd c21 (by omega)) (fun c21 => ?_)
    refine r_iload (pq := 26) C dX12_decided_24 rfl rfl ?_
    refine r_iconst (v := nI 4) (pq := 27) C dX12_decided_26 (by decide) rfl ?_
    refine rN_irem (pq := 28) C dX12_decided_27 (by omega) (by omega) (by omega) rfl ?_
    refine r_istore (j := 7) (pq := 30) C dX12_decided_28 rfl (by decide) rfl rfl ?_
    dsimp only [List.set]
    refine r_iload (pq := 32) C dX12_decided_30 rfl rfl ?_
    refine r_iconst (v := nI 1) (pq := 33) C dX12_decided_32 (by decide) rfl ?_
    refine rN_icmp_ne (tg := 45) (pq := 36) C dX12_decided_33 (by decide) rfl (by omega) (by omega) (fun c33 => ?_) (fun c33 => ?_)
    · refine r_aload_n (pq := 46) C dX12_decided_45 rfl rfl ?_
      refine m_geta (pq := 49) C 3 (by decide) rfl rfl (by decide +kernel) dX12_decided_46 rfl ?_
      refine r_iload_n (pq := 50) C dX12_decided_49 rfl rfl ?_
      refine m_iald (pq := 51) C hB 3 6 rfl rfl (by decide) rfl (by decide) (by omega) dX12_decided_50 rfl (fun b50 => ?_)
      refine r_istore (j := 8) (pq := 53) C dX12_decided_51 rfl (by decide) rfl rfl ?_
      dsimp only [List.set]
      refine r_iload (pq := 55) C dX12_decided_53 rfl rfl ?_
      refine r_iconst (v := nI 2) (pq := 56) C dX12_decided_55 (by decide) rfl ?_
      refine rN_icmp_eq (tg := 74) (pq := 59) C dX12_decided_56 (by decide) rfl (by omega) (by omega) (fun c56 => ?_) (fun c56 => ?_)
      · refine r_iload (pq := 76) C dX12_decided_74 rfl rfl ?_
        refine r_iconst (v := nI 2) (pq := 77) C dX12_decided_76 (by decide) rfl ?_
        refine rN_icmp_ne (tg := 109) (pq := 80) C dX12_decided_77 (by decide) rfl (by omega) (by omega) (fun c77 => ?_) (fun c77 => ?_)
        · refine r_iload (pq := 111) C dX12_decided_109 rfl rfl ?_
          refine r_iconst (v := nI 2) (pq := 112) C dX12_decided_111 (by decide) rfl ?_
          refine rN_icmp_ne (tg := 144) (pq := 115) C dX12_decided_112 (by decide) rfl (by omega) (by omega) (fun c112 => ?_) (fun c112 => ?_)
          · refine r_iload (pq := 146) C dX12_decided_144 rfl rfl ?_
            refine r_iconst (v := nI 4) (pq := 147) C dX12_decided_146 (by decide) rfl ?_
            refine rN_idiv (pq := 148) C dX12_decided_147 (by omega) (by omega) (by omega) rfl ?_
            refine r_istore (j := 6) (pq := 150) C dX12_decided_148 rfl (by decide) rfl rfl ?_
            dsimp only [List.set]
            refine r_goto (tg := 19) C dX12_decided_150 (by decide) ?_
            refine hnext ?_ _ _
            first
            | (rw [d1 () (by omega), if_neg (by omega)])
            | (rw [d3 () (by omega), if_neg (by omega)])
            | (rw [d2 () (by omega), if_neg (by omega), if_neg (by omega)])
          · refine r_aload_n (pq := 116) C dX12_decided_115 rfl rfl ?_
            refine r_iload_n (pq := 117) C dX12_decided_116 rfl rfl ?_
            refine r_iload (pq := 119) C dX12_decided_117 rfl rfl ?_
            refine r_iload (pq := 121) C dX12_decided_119 rfl rfl ?_
            refine r_bipush (v := nI 99) (pq := 123) C dX12_decided_121 (by decide) rfl ?_
            refine rN_iadd (pq := 124) C dX12_decided_123 rfl ?_
            refine r_callV (pq := 127) C (mc_X12_leastOf hB hb (hL b hb) (by omega) (by omega)) (WM_obj _ _ _ _ _ _) rfl gX12_decided_X12_leastOf rfl (na := 3) (by decide +kernel) rfl (by decide) (by decide) (Nat.le_of_ble_eq_true rfl) ⟨Nat.zero_le _, Nat.zero_le _⟩ dX12_decided_124 rfl rfl (fun r9 w9 hq => ?_)
            obtain ⟨rfl, rfl⟩ := hq
            dsimp only [Option.toList, List.cons_append, List.nil_append]
            refine r_aload_n (pq := 128) C dX12_decided_127 rfl rfl ?_
            refine r_iload_n (pq := 129) C dX12_decided_128 rfl rfl ?_
            refine r_iload (pq := 131) C dX12_decided_129 rfl rfl ?_
            refine r_iload (pq := 133) C dX12_decided_131 rfl rfl ?_
            refine r_bipush (v := nI 99) (pq := 135) C dX12_decided_133 (by decide) rfl ?_
            refine rN_iadd (pq := 136) C dX12_decided_135 rfl ?_
            refine r_callV (pq := 139) C (mc_X12_mostOf hB ha (hL a ha) (by omega) (by omega)) (WM_obj _ _ _ _ _ _) rfl gX12_decided_X12_mostOf rfl (na := 3) (by decide +kernel) rfl (by decide) (by decide) (Nat.le_of_ble_eq_true rfl) ⟨Nat.zero_le _, Nat.zero_le _⟩ dX12_decided_136 rfl rfl (fun r9 w9 hq => ?_)
            obtain ⟨rfl, rfl⟩ := hq
            dsimp only [Option.toList, List.cons_append, List.nil_append]
            refine rN_icmp_le (tg := 144) (pq := 142) C dX12_decided_139 (by decide) rfl (by omega) (by omega) (fun c139 => ?_) (fun c139 => ?_)
            · refine r_iload (pq := 146) C dX12_decided_144 rfl rfl ?_
              refine r_iconst (v := nI 4) (pq := 147) C dX12_decided_146 (by decide) rfl ?_
              refine rN_idiv (pq := 148) C dX12_decided_147 (by omega) (by omega) (by omega) rfl ?_
              refine r_istore (j := 6) (pq := 150) C dX12_decided_148 rfl (by decide) rfl rfl ?_
              dsimp only [List.set]
              refine r_goto (tg := 19) C dX12_decided_150 (by decide) ?_
              refine hnext ?_ _ _
              first
              | (rw [d1 () (by omega), if_neg (by omega)])
              | (rw [d3 () (by omega), if_neg (by omega)])
              | (rw [d2 () (by omega), if_neg (by omega), if_neg (by omega)])
            · refine r_iload_n (pq := 143) C dX12_decided_142 rfl rfl ?_
              refine r_iret C D rfl ⟨Nat.le_refl _, Nat.le_refl _⟩ dX12_decided_143 ?_
              have e8 : (dct (I, f, g) (L % 4) a b p y (f 12)) = b := by rw [d2 () (by omega), if_neg (by omega), if_pos (by omega)]
              refine ⟨rfl, ?_⟩
              unfold dci
              rw [hres (by rw [e8]; omega), e8, if_neg (by omega)]
        · refine r_aload_n (pq := 81) C dX12_decided_80 rfl rfl ?_
          refine r_iload_n (pq := 82) C dX12_decided_81 rfl rfl ?_
          refine r_iload (pq := 84) C dX12_decided_82 rfl rfl ?_
          refine r_iload (pq := 86) C dX12_decided_84 rfl rfl ?_
          refine r_bipush (v := nI 99) (pq := 88) C dX12_decided_86 (by decide) rfl ?_
          refine rN_iadd (pq := 89) C dX12_decided_88 rfl ?_
          refine r_callV (pq := 92) C (mc_X12_leastOf hB ha (hL a ha) (by omega) (by omega)) (WM_obj _ _ _ _ _ _) rfl gX12_decided_X12_leastOf rfl (na := 3) (by decide +kernel) rfl (by decide) (by decide) (Nat.le_of_ble_eq_true rfl) ⟨Nat.zero_le _, Nat.zero_le _⟩ dX12_decided_89 rfl rfl (fun r9 w9 hq => ?_)
          obtain ⟨rfl, rfl⟩ := hq
          dsimp only [Option.toList, List.cons_append, List.nil_append]
          refine r_aload_n (pq := 93) C dX12_decided_92 rfl rfl ?_
          refine r_iload_n (pq := 94) C dX12_decided_93 rfl rfl ?_
          refine r_iload (pq := 96) C dX12_decided_94 rfl rfl ?_
          refine r_iload (pq := 98) C dX12_decided_96 rfl rfl ?_
          refine r_bipush (v := nI 99) (pq := 100) C dX12_decided_98 (by decide) rfl ?_
          refine rN_iadd (pq := 101) C dX12_decided_100 rfl ?_
          refine r_callV (pq := 104) C (mc_X12_mostOf hB hb (hL b hb) (by omega) (by omega)) (WM_obj _ _ _ _ _ _) rfl gX12_decided_X12_mostOf rfl (na := 3) (by decide +kernel) rfl (by decide) (by decide) (Nat.le_of_ble_eq_true rfl) ⟨Nat.zero_le _, Nat.zero_le _⟩ dX12_decided_101 rfl rfl (fun r9 w9 hq => ?_)
          obtain ⟨rfl, rfl⟩ := hq
          dsimp only [Option.toList, List.cons_append, List.nil_append]
          refine rN_icmp_le (tg := 109) (pq := 107) C dX12_decided_104 (by decide) rfl (by omega) (by omega) (fun c104 => ?_) (fun c104 => ?_)
          · refine r_iload (pq := 111) C dX12_decided_109 rfl rfl ?_
            refine r_iconst (v := nI 2) (pq := 112) C dX12_decided_111 (by decide) rfl ?_
            refine rN_icmp_ne (tg := 144) (pq := 115) C dX12_decided_112 (by decide) rfl (by omega) (by omega) (fun c112 => ?_) (fun c112 => ?_)
            · refine r_iload (pq := 146) C dX12_decided_144 rfl rfl ?_
              refine r_iconst (v := nI 4) (pq := 147) C dX12_decided_146 (by decide) rfl ?_
              refine rN_idiv (pq := 148) C dX12_decided_147 (by omega) (by omega) (by omega) rfl ?_
              refine r_istore (j := 6) (pq := 150) C dX12_decided_148 rfl (by decide) rfl rfl ?_
              dsimp only [List.set]
              refine r_goto (tg := 19) C dX12_decided_150 (by decide) ?_
              refine hnext ?_ _ _
              first
              | (rw [d1 () (by omega), if_neg (by omega)])
              | (rw [d3 () (by omega), if_neg (by omega)])
              | (rw [d2 () (by omega), if_neg (by omega), if_neg (by omega)])
            · refine r_aload_n (pq := 116) C dX12_decided_115 rfl rfl ?_
              refine r_iload_n (pq := 117) C dX12_decided_116 rfl rfl ?_
              refine r_iload (pq := 119) C dX12_decided_117 rfl rfl ?_
              refine r_iload (pq := 121) C dX12_decided_119 rfl rfl ?_
              refine r_bipush (v := nI 99) (pq := 123) C dX12_decided_121 (by decide) rfl ?_
              refine rN_iadd (pq := 124) C dX12_decided_123 rfl ?_
              refine r_callV (pq := 127) C (mc_X12_leastOf hB hb (hL b hb) (by omega) (by omega)) (WM_obj _ _ _ _ _ _) rfl gX12_decided_X12_leastOf rfl (na := 3) (by decide +kernel) rfl (by decide) (by decide) (Nat.le_of_ble_eq_true rfl) ⟨Nat.zero_le _, Nat.zero_le _⟩ dX12_decided_124 rfl rfl (fun r9 w9 hq => ?_)
              obtain ⟨rfl, rfl⟩ := hq
              dsimp only [Option.toList, List.cons_append, List.nil_append]
              refine r_aload_n (pq := 128) C dX12_decided_127 rfl rfl ?_
              refine r_iload_n (pq := 129) C dX12_decided_128 rfl rfl ?_
              refine r_iload (pq := 131) C dX12_decided_129 rfl rfl ?_
              refine r_iload (pq := 133) C dX12_decided_131 rfl rfl ?_
              refine r_bipush (v := nI 99) (pq := 135) C dX12_decided_133 (by decide) rfl ?_
              refine rN_iadd (pq := 136) C dX12_decided_135 rfl ?_
              refine r_callV (pq := 139) C (mc_X12_mostOf hB ha (hL a ha) (by omega) (by omega)) (WM_obj _ _ _ _ _ _) rfl gX12_decided_X12_mostOf rfl (na := 3) (by decide +kernel) rfl (by decide) (by decide) (Nat.le_of_ble_eq_true rfl) ⟨Nat.zero_le _, Nat.zero_le _⟩ dX12_decided_136 rfl rfl (fun r9 w9 hq => ?_)
              obtain ⟨rfl, rfl⟩ := hq
              dsimp only [Option.toList, List.cons_append, List.nil_append]
              refine rN_icmp_le (tg := 144) (pq := 142) C dX12_decided_139 (by decide) rfl (by omega) (by omega) (fun c139 => ?_) (fun c139 => ?_)
              · refine r_iload (pq := 146) C dX12_decided_144 rfl rfl ?_
                refine r_iconst (v := nI 4) (pq := 147) C dX12_decided_146 (by decide) rfl ?_
                refine rN_idiv (pq := 148) C dX12_decided_147 (by omega) (by omega) (by omega) rfl ?_
                refine r_istore (j := 6) (pq := 150) C dX12_decided_148 rfl (by decide) rfl rfl ?_
                dsimp only [List.set]
                refine r_goto (tg := 19) C dX12_decided_150 (by decide) ?_
                refine hnext ?_ _ _
                first
                | (rw [d1 () (by omega), if_neg (by omega)])
                | (rw [d3 () (by omega), if_neg (by omega)])
                | (rw [d2 () (by omega), if_neg (by omega), if_neg (by omega)])
              · refine r_iload_n (pq := 143) C dX12_decided_142 rfl rfl ?_
                refine r_iret C D rfl ⟨Nat.le_refl _, Nat.le_refl _⟩ dX12_decided_143 ?_
                have e8 : (dct (I, f, g) (L % 4) a b p y (f 12)) = b := by rw [d2 () (by omega), if_neg (by omega), if_pos (by omega)]
                refine ⟨rfl, ?_⟩
                unfold dci
                rw [hres (by rw [e8]; omega), e8, if_neg (by omega)]
          · refine r_iload_n (pq := 108) C dX12_decided_107 rfl rfl ?_
            refine r_iret C D rfl ⟨Nat.le_refl _, Nat.le_refl _⟩ dX12_decided_108 ?_
            have e8 : (dct (I, f, g) (L % 4) a b p y (f 12)) = a := by rw [d2 () (by omega), if_pos (by omega)]
            refine ⟨rfl, ?_⟩
            unfold dci
            rw [hres (by rw [e8]; omega), e8, if_neg (by omega)]
      · refine r_iload (pq := 61) C dX12_decided_59 rfl rfl ?_
        refine r_iload_n (pq := 62) C dX12_decided_61 rfl rfl ?_
        refine rN_icmp_eq (tg := 71) (pq := 65) C dX12_decided_62 (by decide) rfl (by omega) (by omega) (fun c62 => ?_) (fun c62 => ?_)
        · refine r_iload (pq := 73) C dX12_decided_71 rfl rfl ?_
          refine r_iret C D rfl ⟨Nat.le_refl _, Nat.le_refl _⟩ dX12_decided_73 ?_
          first
          | (have e8 : (dct (I, f, g) (L % 4) a b p y (f 12)) = f 2 p := (by rw [d1 () (by omega), if_pos (by omega)]); exact ⟨rfl, by unfold dci; rw [hres (by rw [e8]; omega), e8, if_neg (by omega)]⟩)
          | (have e8 : (dct (I, f, g) (L % 4) a b p y (f 12)) = f 3 p := (by rw [d3 () (by omega), if_pos (by omega)]); exact ⟨rfl, by unfold dci; rw [hres (by rw [e8]; omega), e8, if_neg (by omega)]⟩)
        · refine r_iload (pq := 67) C dX12_decided_65 rfl rfl ?_
          refine r_iload_n (pq := 68) C dX12_decided_67 rfl rfl ?_
          refine rN_icmp_ne (tg := 74) (pq := 71) C dX12_decided_68 (by decide) rfl (by omega) (by omega) (fun c68 => ?_) (fun c68 => ?_)
          · refine r_iload (pq := 76) C dX12_decided_74 rfl rfl ?_
            refine r_iconst (v := nI 2) (pq := 77) C dX12_decided_76 (by decide) rfl ?_
            refine rN_icmp_ne (tg := 109) (pq := 80) C dX12_decided_77 (by decide) rfl (by omega) (by omega) (fun c77 => ?_) (fun c77 => ?_)
            · refine r_iload (pq := 111) C dX12_decided_109 rfl rfl ?_
              refine r_iconst (v := nI 2) (pq := 112) C dX12_decided_111 (by decide) rfl ?_
              refine rN_icmp_ne (tg := 144) (pq := 115) C dX12_decided_112 (by decide) rfl (by omega) (by omega) (fun c112 => ?_) (fun c112 => ?_)
              · refine r_iload (pq := 146) C dX12_decided_144 rfl rfl ?_
                refine r_iconst (v := nI 4) (pq := 147) C dX12_decided_146 (by decide) rfl ?_
                refine rN_idiv (pq := 148) C dX12_decided_147 (by omega) (by omega) (by omega) rfl ?_
                refine r_istore (j := 6) (pq := 150) C dX12_decided_148 rfl (by decide) rfl rfl ?_
                dsimp only [List.set]
                refine r_goto (tg := 19) C dX12_decided_150 (by decide) ?_
                refine hnext ?_ _ _
                first
                | (rw [d1 () (by omega), if_neg (by omega)])
                | (rw [d3 () (by omega), if_neg (by omega)])
                | (rw [d2 () (by omega), if_neg (by omega), if_neg (by omega)])
              · refine r_aload_n (pq := 116) C dX12_decided_115 rfl rfl ?_
                refine r_iload_n (pq := 117) C dX12_decided_116 rfl rfl ?_
                refine r_iload (pq := 119) C dX12_decided_117 rfl rfl ?_
                refine r_iload (pq := 121) C dX12_decided_119 rfl rfl ?_
                refine r_bipush (v := nI 99) (pq := 123) C dX12_decided_121 (by decide) rfl ?_
                refine rN_iadd (pq := 124) C dX12_decided_123 rfl ?_
                refine r_callV (pq := 127) C (mc_X12_leastOf hB hb (hL b hb) (by omega) (by omega)) (WM_obj _ _ _ _ _ _) rfl gX12_decided_X12_leastOf rfl (na := 3) (by decide +kernel) rfl (by decide) (by decide) (Nat.le_of_ble_eq_true rfl) ⟨Nat.zero_le _, Nat.zero_le _⟩ dX12_decided_124 rfl rfl (fun r9 w9 hq => ?_)
                obtain ⟨rfl, rfl⟩ := hq
                dsimp only [Option.toList, List.cons_append, List.nil_append]
                refine r_aload_n (pq := 128) C dX12_decided_127 rfl rfl ?_
                refine r_iload_n (pq := 129) C dX12_decided_128 rfl rfl ?_
                refine r_iload (pq := 131) C dX12_decided_129 rfl rfl ?_
                refine r_iload (pq := 133) C dX12_decided_131 rfl rfl ?_
                refine r_bipush (v := nI 99) (pq := 135) C dX12_decided_133 (by decide) rfl ?_
                refine rN_iadd (pq := 136) C dX12_decided_135 rfl ?_
                refine r_callV (pq := 139) C (mc_X12_mostOf hB ha (hL a ha) (by omega) (by omega)) (WM_obj _ _ _ _ _ _) rfl gX12_decided_X12_mostOf rfl (na := 3) (by decide +kernel) rfl (by decide) (by decide) (Nat.le_of_ble_eq_true rfl) ⟨Nat.zero_le _, Nat.zero_le _⟩ dX12_decided_136 rfl rfl (fun r9 w9 hq => ?_)
                obtain ⟨rfl, rfl⟩ := hq
                dsimp only [Option.toList, List.cons_append, List.nil_append]
                refine rN_icmp_le (tg := 144) (pq := 142) C dX12_decided_139 (by decide) rfl (by omega) (by omega) (fun c139 => ?_) (fun c139 => ?_)
                · refine r_iload (pq := 146) C dX12_decided_144 rfl rfl ?_
                  refine r_iconst (v := nI 4) (pq := 147) C dX12_decided_146 (by decide) rfl ?_
                  refine rN_idiv (pq := 148) C dX12_decided_147 (by omega) (by omega) (by omega) rfl ?_
                  refine r_istore (j := 6) (pq := 150) C dX12_decided_148 rfl (by decide) rfl rfl ?_
                  dsimp only [List.set]
                  refine r_goto (tg := 19) C dX12_decided_150 (by decide) ?_
                  refine hnext ?_ _ _
                  first
                  | (rw [d1 () (by omega), if_neg (by omega)])
                  | (rw [d3 () (by omega), if_neg (by omega)])
                  | (rw [d2 () (by omega), if_neg (by omega), if_neg (by omega)])
                · refine r_iload_n (pq := 143) C dX12_decided_142 rfl rfl ?_
                  refine r_iret C D rfl ⟨Nat.le_refl _, Nat.le_refl _⟩ dX12_decided_143 ?_
                  have e8 : (dct (I, f, g) (L % 4) a b p y (f 12)) = b := by rw [d2 () (by omega), if_neg (by omega), if_pos (by omega)]
                  refine ⟨rfl, ?_⟩
                  unfold dci
                  rw [hres (by rw [e8]; omega), e8, if_neg (by omega)]
            · refine r_aload_n (pq := 81) C dX12_decided_80 rfl rfl ?_
              refine r_iload_n (pq := 82) C dX12_decided_81 rfl rfl ?_
              refine r_iload (pq := 84) C dX12_decided_82 rfl rfl ?_
              refine r_iload (pq := 86) C dX12_decided_84 rfl rfl ?_
              refine r_bipush (v := nI 99) (pq := 88) C dX12_decided_86 (by decide) rfl ?_
              refine rN_iadd (pq := 89) C dX12_decided_88 rfl ?_
              refine r_callV (pq := 92) C (mc_X12_leastOf hB ha (hL a ha) (by omega) (by omega)) (WM_obj _ _ _ _ _ _) rfl gX12_decided_X12_leastOf rfl (na := 3) (by decide +kernel) rfl (by decide) (by decide) (Nat.le_of_ble_eq_true rfl) ⟨Nat.zero_le _, Nat.zero_le _⟩ dX12_decided_89 rfl rfl (fun r9 w9 hq => ?_)
              obtain ⟨rfl, rfl⟩ := hq
              dsimp only [Option.toList, List.cons_append, List.nil_append]
              refine r_aload_n (pq := 93) C dX12_decided_92 rfl rfl ?_
              refine r_iload_n (pq := 94) C dX12_decided_93 rfl rfl ?_
              refine r_iload (pq := 96) C dX12_decided_94 rfl rfl ?_
              refine r_iload (pq := 98) C dX12_decided_96 rfl rfl ?_
              refine r_bipush (v := nI 99) (pq := 100) C dX12_decided_98 (by decide) rfl ?_
              refine rN_iadd (pq := 101) C dX12_decided_100 rfl ?_
              refine r_callV (pq := 104) C (mc_X12_mostOf hB hb (hL b hb) (by omega) (by omega)) (WM_obj _ _ _ _ _ _) rfl gX12_decided_X12_mostOf rfl (na := 3) (by decide +kernel) rfl (by decide) (by decide) (Nat.le_of_ble_eq_true rfl) ⟨Nat.zero_le _, Nat.zero_le _⟩ dX12_decided_101 rfl rfl (fun r9 w9 hq => ?_)
              obtain ⟨rfl, rfl⟩ := hq
              dsimp only [Option.toList, List.cons_append, List.nil_append]
              refine rN_icmp_le (tg := 109) (pq := 107) C dX12_decided_104 (by decide) rfl (by omega) (by omega) (fun c104 => ?_) (fun c104 => ?_)
              · refine r_iload (pq := 111) C dX12_decided_109 rfl rfl ?_
                refine r_iconst (v := nI 2) (pq := 112) C dX12_decided_111 (by decide) rfl ?_
                refine rN_icmp_ne (tg := 144) (pq := 115) C dX12_decided_112 (by decide) rfl (by omega) (by omega) (fun c112 => ?_) (fun c112 => ?_)
                · refine r_iload (pq := 146) C dX12_decided_144 rfl rfl ?_
                  refine r_iconst (v := nI 4) (pq := 147) C dX12_decided_146 (by decide) rfl ?_
                  refine rN_idiv (pq := 148) C dX12_decided_147 (by omega) (by omega) (by omega) rfl ?_
                  refine r_istore (j := 6) (pq := 150) C dX12_decided_148 rfl (by decide) rfl rfl ?_
                  dsimp only [List.set]
                  refine r_goto (tg := 19) C dX12_decided_150 (by decide) ?_
                  refine hnext ?_ _ _
                  first
                  | (rw [d1 () (by omega), if_neg (by omega)])
                  | (rw [d3 () (by omega), if_neg (by omega)])
                  | (rw [d2 () (by omega), if_neg (by omega), if_neg (by omega)])
                · refine r_aload_n (pq := 116) C dX12_decided_115 rfl rfl ?_
                  refine r_iload_n (pq := 117) C dX12_decided_116 rfl rfl ?_
                  refine r_iload (pq := 119) C dX12_decided_117 rfl rfl ?_
                  refine r_iload (pq := 121) C dX12_decided_119 rfl rfl ?_
                  refine r_bipush (v := nI 99) (pq := 123) C dX12_decided_121 (by decide) rfl ?_
                  refine rN_iadd (pq := 124) C dX12_decided_123 rfl ?_
                  refine r_callV (pq := 127) C (mc_X12_leastOf hB hb (hL b hb) (by omega) (by omega)) (WM_obj _ _ _ _ _ _) rfl gX12_decided_X12_leastOf rfl (na := 3) (by decide +kernel) rfl (by decide) (by decide) (Nat.le_of_ble_eq_true rfl) ⟨Nat.zero_le _, Nat.zero_le _⟩ dX12_decided_124 rfl rfl (fun r9 w9 hq => ?_)
                  obtain ⟨rfl, rfl⟩ := hq
                  dsimp only [Option.toList, List.cons_append, List.nil_append]
                  refine r_aload_n (pq := 128) C dX12_decided_127 rfl rfl ?_
                  refine r_iload_n (pq := 129) C dX12_decided_128 rfl rfl ?_
                  refine r_iload (pq := 131) C dX12_decided_129 rfl rfl ?_
                  refine r_iload (pq := 133) C dX12_decided_131 rfl rfl ?_
                  refine r_bipush (v := nI 99) (pq := 135) C dX12_decided_133 (by decide) rfl ?_
                  refine rN_iadd (pq := 136) C dX12_decided_135 rfl ?_
                  refine r_callV (pq := 139) C (mc_X12_mostOf hB ha (hL a ha) (by omega) (by omega)) (WM_obj _ _ _ _ _ _) rfl gX12_decided_X12_mostOf rfl (na := 3) (by decide +kernel) rfl (by decide) (by decide) (Nat.le_of_ble_eq_true rfl) ⟨Nat.zero_le _, Nat.zero_le _⟩ dX12_decided_136 rfl rfl (fun r9 w9 hq => ?_)
                  obtain ⟨rfl, rfl⟩ := hq
                  dsimp only [Option.toList, List.cons_append, List.nil_append]
                  refine rN_icmp_le (tg := 144) (pq := 142) C dX12_decided_139 (by decide) rfl (by omega) (by omega) (fun c139 => ?_) (fun c139 => ?_)
                  · refine r_iload (pq := 146) C dX12_decided_144 rfl rfl ?_
                    refine r_iconst (v := nI 4) (pq := 147) C dX12_decided_146 (by decide) rfl ?_
                    refine rN_idiv (pq := 148) C dX12_decided_147 (by omega) (by omega) (by omega) rfl ?_
                    refine r_istore (j := 6) (pq := 150) C dX12_decided_148 rfl (by decide) rfl rfl ?_
                    dsimp only [List.set]
                    refine r_goto (tg := 19) C dX12_decided_150 (by decide) ?_
                    refine hnext ?_ _ _
                    first
                    | (rw [d1 () (by omega), if_neg (by omega)])
                    | (rw [d3 () (by omega), if_neg (by omega)])
                    | (rw [d2 () (by omega), if_neg (by omega), if_neg (by omega)])
                  · refine r_iload_n (pq := 143) C dX12_decided_142 rfl rfl ?_
                    refine r_iret C D rfl ⟨Nat.le_refl _, Nat.le_refl _⟩ dX12_decided_143 ?_
                    have e8 : (dct (I, f, g) (L % 4) a b p y (f 12)) = b := by rw [d2 () (by omega), if_neg (by omega), if_pos (by omega)]
                    refine ⟨rfl, ?_⟩
                    unfold dci
                    rw [hres (by rw [e8]; omega), e8, if_neg (by omega)]
              · refine r_iload_n (pq := 108) C dX12_decided_107 rfl rfl ?_
                refine r_iret C D rfl ⟨Nat.le_refl _, Nat.le_refl _⟩ dX12_decided_108 ?_
                have e8 : (dct (I, f, g) (L % 4) a b p y (f 12)) = a := by rw [d2 () (by omega), if_pos (by omega)]
                refine ⟨rfl, ?_⟩
                unfold dci
                rw [hres (by rw [e8]; omega), e8, if_neg (by omega)]
          · refine r_iload (pq := 73) C dX12_decided_71 rfl rfl ?_
            refine r_iret C D rfl ⟨Nat.le_refl _, Nat.le_refl _⟩ dX12_decided_73 ?_
            first
            | (have e8 : (dct (I, f, g) (L % 4) a b p y (f 12)) = f 2 p := (by rw [d1 () (by omega), if_pos (by omega)]); exact ⟨rfl, by unfold dci; rw [hres (by rw [e8]; omega), e8, if_neg (by omega)]⟩)
            | (have e8 : (dct (I, f, g) (L % 4) a b p y (f 12)) = f 3 p := (by rw [d3 () (by omega), if_pos (by omega)]); exact ⟨rfl, by unfold dci; rw [hres (by rw [e8]; omega), e8, if_neg (by omega)]⟩)
    · refine r_aload_n (pq := 37) C dX12_decided_36 rfl rfl ?_
      refine m_geta (pq := 40) C 2 (by decide) rfl rfl (by decide +kernel) dX12_decided_37 rfl ?_
      refine r_iload_n (pq := 41) C dX12_decided_40 rfl rfl ?_
      refine m_iald (pq := 42) C hB 2 6 rfl rfl (by decide) rfl (by decide) (by omega) dX12_decided_41 rfl (fun b41 => ?_)
      refine r_goto (tg := 51) C dX12_decided_42 (by decide) ?_
      refine r_istore (j := 8) (pq := 53) C dX12_decided_51 rfl (by decide) rfl rfl ?_
      dsimp only [List.set]
      refine r_iload (pq := 55) C dX12_decided_53 rfl rfl ?_
      refine r_iconst (v := nI 2) (pq := 56) C dX12_decided_55 (by decide) rfl ?_
      refine rN_icmp_eq (tg := 74) (pq := 59) C dX12_decided_56 (by decide) rfl (by omega) (by omega) (fun c56 => ?_) (fun c56 => ?_)
      · refine r_iload (pq := 76) C dX12_decided_74 rfl rfl ?_
        refine r_iconst (v := nI 2) (pq := 77) C dX12_decided_76 (by decide) rfl ?_
        refine rN_icmp_ne (tg := 109) (pq := 80) C dX12_decided_77 (by decide) rfl (by omega) (by omega) (fun c77 => ?_) (fun c77 => ?_)
        · refine r_iload (pq := 111) C dX12_decided_109 rfl rfl ?_
          refine r_iconst (v := nI 2) (pq := 112) C dX12_decided_111 (by decide) rfl ?_
          refine rN_icmp_ne (tg := 144) (pq := 115) C dX12_decided_112 (by decide) rfl (by omega) (by omega) (fun c112 => ?_) (fun c112 => ?_)
          · refine r_iload (pq := 146) C dX12_decided_144 rfl rfl ?_
            refine r_iconst (v := nI 4) (pq := 147) C dX12_decided_146 (by decide) rfl ?_
            refine rN_idiv (pq := 148) C dX12_decided_147 (by omega) (by omega) (by omega) rfl ?_
            refine r_istore (j := 6) (pq := 150) C dX12_decided_148 rfl (by decide) rfl rfl ?_
            dsimp only [List.set]
            refine r_goto (tg := 19) C dX12_decided_150 (by decide) ?_
            refine hnext ?_ _ _
            first
            | (rw [d1 () (by omega), if_neg (by omega)])
            | (rw [d3 () (by omega), if_neg (by omega)])
            | (rw [d2 () (by omega), if_neg (by omega), if_neg (by omega)])
          · refine r_aload_n (pq := 116) C dX12_decided_115 rfl rfl ?_
            refine r_iload_n (pq := 117) C dX12_decided_116 rfl rfl ?_
            refine r_iload (pq := 119) C dX12_decided_117 rfl rfl ?_
            refine r_iload (pq := 121) C dX12_decided_119 rfl rfl ?_
            refine r_bipush (v := nI 99) (pq := 123) C dX12_decided_121 (by decide) rfl ?_
            refine rN_iadd (pq := 124) C dX12_decided_123 rfl ?_
            refine r_callV (pq := 127) C (mc_X12_leastOf hB hb (hL b hb) (by omega) (by omega)) (WM_obj _ _ _ _ _ _) rfl gX12_decided_X12_leastOf rfl (na := 3) (by decide +kernel) rfl (by decide) (by decide) (Nat.le_of_ble_eq_true rfl) ⟨Nat.zero_le _, Nat.zero_le _⟩ dX12_decided_124 rfl rfl (fun r9 w9 hq => ?_)
            obtain ⟨rfl, rfl⟩ := hq
            dsimp only [Option.toList, List.cons_append, List.nil_append]
            refine r_aload_n (pq := 128) C dX12_decided_127 rfl rfl ?_
            refine r_iload_n (pq := 129) C dX12_decided_128 rfl rfl ?_
            refine r_iload (pq := 131) C dX12_decided_129 rfl rfl ?_
            refine r_iload (pq := 133) C dX12_decided_131 rfl rfl ?_
            refine r_bipush (v := nI 99) (pq := 135) C dX12_decided_133 (by decide) rfl ?_
            refine rN_iadd (pq := 136) C dX12_decided_135 rfl ?_
            refine r_callV (pq := 139) C (mc_X12_mostOf hB ha (hL a ha) (by omega) (by omega)) (WM_obj _ _ _ _ _ _) rfl gX12_decided_X12_mostOf rfl (na := 3) (by decide +kernel) rfl (by decide) (by decide) (Nat.le_of_ble_eq_true rfl) ⟨Nat.zero_le _, Nat.zero_le _⟩ dX12_decided_136 rfl rfl (fun r9 w9 hq => ?_)
            obtain ⟨rfl, rfl⟩ := hq
            dsimp only [Option.toList, List.cons_append, List.nil_append]
            refine rN_icmp_le (tg := 144) (pq := 142) C dX12_decided_139 (by decide) rfl (by omega) (by omega) (fun c139 => ?_) (fun c139 => ?_)
            · refine r_iload (pq := 146) C dX12_decided_144 rfl rfl ?_
              refine r_iconst (v := nI 4) (pq := 147) C dX12_decided_146 (by decide) rfl ?_
              refine rN_idiv (pq := 148) C dX12_decided_147 (by omega) (by omega) (by omega) rfl ?_
              refine r_istore (j := 6) (pq := 150) C dX12_decided_148 rfl (by decide) rfl rfl ?_
              dsimp only [List.set]
              refine r_goto (tg := 19) C dX12_decided_150 (by decide) ?_
              refine hnext ?_ _ _
              first
              | (rw [d1 () (by omega), if_neg (by omega)])
              | (rw [d3 () (by omega), if_neg (by omega)])
              | (rw [d2 () (by omega), if_neg (by omega), if_neg (by omega)])
            · refine r_iload_n (pq := 143) C dX12_decided_142 rfl rfl ?_
              refine r_iret C D rfl ⟨Nat.le_refl _, Nat.le_refl _⟩ dX12_decided_143 ?_
              have e8 : (dct (I, f, g) (L % 4) a b p y (f 12)) = b := by rw [d2 () (by omega), if_neg (by omega), if_pos (by omega)]
              refine ⟨rfl, ?_⟩
              unfold dci
              rw [hres (by rw [e8]; omega), e8, if_neg (by omega)]
        · refine r_aload_n (pq := 81) C dX12_decided_80 rfl rfl ?_
          refine r_iload_n (pq := 82) C dX12_decided_81 rfl rfl ?_
          refine r_iload (pq := 84) C dX12_decided_82 rfl rfl ?_
          refine r_iload (pq := 86) C dX12_decided_84 rfl rfl ?_
          refine r_bipush (v := nI 99) (pq := 88) C dX12_decided_86 (by decide) rfl ?_
          refine rN_iadd (pq := 89) C dX12_decided_88 rfl ?_
          refine r_callV (pq := 92) C (mc_X12_leastOf hB ha (hL a ha) (by omega) (by omega)) (WM_obj _ _ _ _ _ _) rfl gX12_decided_X12_leastOf rfl (na := 3) (by decide +kernel) rfl (by decide) (by decide) (Nat.le_of_ble_eq_true rfl) ⟨Nat.zero_le _, Nat.zero_le _⟩ dX12_decided_89 rfl rfl (fun r9 w9 hq => ?_)
          obtain ⟨rfl, rfl⟩ := hq
          dsimp only [Option.toList, List.cons_append, List.nil_append]
          refine r_aload_n (pq := 93) C dX12_decided_92 rfl rfl ?_
          refine r_iload_n (pq := 94) C dX12_decided_93 rfl rfl ?_
          refine r_iload (pq := 96) C dX12_decided_94 rfl rfl ?_
          refine r_iload (pq := 98) C dX12_decided_96 rfl rfl ?_
          refine r_bipush (v := nI 99) (pq := 100) C dX12_decided_98 (by decide) rfl ?_
          refine rN_iadd (pq := 101) C dX12_decided_100 rfl ?_
          refine r_callV (pq := 104) C (mc_X12_mostOf hB hb (hL b hb) (by omega) (by omega)) (WM_obj _ _ _ _ _ _) rfl gX12_decided_X12_mostOf rfl (na := 3) (by decide +kernel) rfl (by decide) (by decide) (Nat.le_of_ble_eq_true rfl) ⟨Nat.zero_le _, Nat.zero_le _⟩ dX12_decided_101 rfl rfl (fun r9 w9 hq => ?_)
          obtain ⟨rfl, rfl⟩ := hq
          dsimp only [Option.toList, List.cons_append, List.nil_append]
          refine rN_icmp_le (tg := 109) (pq := 107) C dX12_decided_104 (by decide) rfl (by omega) (by omega) (fun c104 => ?_) (fun c104 => ?_)
          · refine r_iload (pq := 111) C dX12_decided_109 rfl rfl ?_
            refine r_iconst (v := nI 2) (pq := 112) C dX12_decided_111 (by decide) rfl ?_
            refine rN_icmp_ne (tg := 144) (pq := 115) C dX12_decided_112 (by decide) rfl (by omega) (by omega) (fun c112 => ?_) (fun c112 => ?_)
            · refine r_iload (pq := 146) C dX12_decided_144 rfl rfl ?_
              refine r_iconst (v := nI 4) (pq := 147) C dX12_decided_146 (by decide) rfl ?_
              refine rN_idiv (pq := 148) C dX12_decided_147 (by omega) (by omega) (by omega) rfl ?_
              refine r_istore (j := 6) (pq := 150) C dX12_decided_148 rfl (by decide) rfl rfl ?_
              dsimp only [List.set]
              refine r_goto (tg := 19) C dX12_decided_150 (by decide) ?_
              refine hnext ?_ _ _
              first
              | (rw [d1 () (by omega), if_neg (by omega)])
              | (rw [d3 () (by omega), if_neg (by omega)])
              | (rw [d2 () (by omega), if_neg (by omega), if_neg (by omega)])
            · refine r_aload_n (pq := 116) C dX12_decided_115 rfl rfl ?_
              refine r_iload_n (pq := 117) C dX12_decided_116 rfl rfl ?_
              refine r_iload (pq := 119) C dX12_decided_117 rfl rfl ?_
              refine r_iload (pq := 121) C dX12_decided_119 rfl rfl ?_
              refine r_bipush (v := nI 99) (pq := 123) C dX12_decided_121 (by decide) rfl ?_
              refine rN_iadd (pq := 124) C dX12_decided_123 rfl ?_
              refine r_callV (pq := 127) C (mc_X12_leastOf hB hb (hL b hb) (by omega) (by omega)) (WM_obj _ _ _ _ _ _) rfl gX12_decided_X12_leastOf rfl (na := 3) (by decide +kernel) rfl (by decide) (by decide) (Nat.le_of_ble_eq_true rfl) ⟨Nat.zero_le _, Nat.zero_le _⟩ dX12_decided_124 rfl rfl (fun r9 w9 hq => ?_)
              obtain ⟨rfl, rfl⟩ := hq
              dsimp only [Option.toList, List.cons_append, List.nil_append]
              refine r_aload_n (pq := 128) C dX12_decided_127 rfl rfl ?_
              refine r_iload_n (pq := 129) C dX12_decided_128 rfl rfl ?_
              refine r_iload (pq := 131) C dX12_decided_129 rfl rfl ?_
              refine r_iload (pq := 133) C dX12_decided_131 rfl rfl ?_
              refine r_bipush (v := nI 99) (pq := 135) C dX12_decided_133 (by decide) rfl ?_
              refine rN_iadd (pq := 136) C dX12_decided_135 rfl ?_
              refine r_callV (pq := 139) C (mc_X12_mostOf hB ha (hL a ha) (by omega) (by omega)) (WM_obj _ _ _ _ _ _) rfl gX12_decided_X12_mostOf rfl (na := 3) (by decide +kernel) rfl (by decide) (by decide) (Nat.le_of_ble_eq_true rfl) ⟨Nat.zero_le _, Nat.zero_le _⟩ dX12_decided_136 rfl rfl (fun r9 w9 hq => ?_)
              obtain ⟨rfl, rfl⟩ := hq
              dsimp only [Option.toList, List.cons_append, List.nil_append]
              refine rN_icmp_le (tg := 144) (pq := 142) C dX12_decided_139 (by decide) rfl (by omega) (by omega) (fun c139 => ?_) (fun c139 => ?_)
              · refine r_iload (pq := 146) C dX12_decided_144 rfl rfl ?_
                refine r_iconst (v := nI 4) (pq := 147) C dX12_decided_146 (by decide) rfl ?_
                refine rN_idiv (pq := 148) C dX12_decided_147 (by omega) (by omega) (by omega) rfl ?_
                refine r_istore (j := 6) (pq := 150) C dX12_decided_148 rfl (by decide) rfl rfl ?_
                dsimp only [List.set]
                refine r_goto (tg := 19) C dX12_decided_150 (by decide) ?_
                refine hnext ?_ _ _
                first
                | (rw [d1 () (by omega), if_neg (by omega)])
                | (rw [d3 () (by omega), if_neg (by omega)])
                | (rw [d2 () (by omega), if_neg (by omega), if_neg (by omega)])
              · refine r_iload_n (pq := 143) C dX12_decided_142 rfl rfl ?_
                refine r_iret C D rfl ⟨Nat.le_refl _, Nat.le_refl _⟩ dX12_decided_143 ?_
                have e8 : (dct (I, f, g) (L % 4) a b p y (f 12)) = b := by rw [d2 () (by omega), if_neg (by omega), if_pos (by omega)]
                refine ⟨rfl, ?_⟩
                unfold dci
                rw [hres (by rw [e8]; omega), e8, if_neg (by omega)]
          · refine r_iload_n (pq := 108) C dX12_decided_107 rfl rfl ?_
            refine r_iret C D rfl ⟨Nat.le_refl _, Nat.le_refl _⟩ dX12_decided_108 ?_
            have e8 : (dct (I, f, g) (L % 4) a b p y (f 12)) = a := by rw [d2 () (by omega), if_pos (by omega)]
            refine ⟨rfl, ?_⟩
            unfold dci
            rw [hres (by rw [e8]; omega), e8, if_neg (by omega)]
      · refine r_iload (pq := 61) C dX12_decided_59 rfl rfl ?_
        refine r_iload_n (pq := 62) C dX12_decided_61 rfl rfl ?_
        refine rN_icmp_eq (tg := 71) (pq := 65) C dX12_decided_62 (by decide) rfl (by omega) (by omega) (fun c62 => ?_) (fun c62 => ?_)
        · refine r_iload (pq := 73) C dX12_decided_71 rfl rfl ?_
          refine r_iret C D rfl ⟨Nat.le_refl _, Nat.le_refl _⟩ dX12_decided_73 ?_
          first
          | (have e8 : (dct (I, f, g) (L % 4) a b p y (f 12)) = f 2 p := (by rw [d1 () (by omega), if_pos (by omega)]); exact ⟨rfl, by unfold dci; rw [hres (by rw [e8]; omega), e8, if_neg (by omega)]⟩)
          | (have e8 : (dct (I, f, g) (L % 4) a b p y (f 12)) = f 3 p := (by rw [d3 () (by omega), if_pos (by omega)]); exact ⟨rfl, by unfold dci; rw [hres (by rw [e8]; omega), e8, if_neg (by omega)]⟩)
        · refine r_iload (pq := 67) C dX12_decided_65 rfl rfl ?_
          refine r_iload_n (pq := 68) C dX12_decided_67 rfl rfl ?_
          refine rN_icmp_ne (tg := 74) (pq := 71) C dX12_decided_68 (by decide) rfl (by omega) (by omega) (fun c68 => ?_) (fun c68 => ?_)
          · refine r_iload (pq := 76) C dX12_decided_74 rfl rfl ?_
            refine r_iconst (v := nI 2) (pq := 77) C dX12_decided_76 (by decide) rfl ?_
            refine rN_icmp_ne (tg := 109) (pq := 80) C dX12_decided_77 (by decide) rfl (by omega) (by omega) (fun c77 => ?_) (fun c77 => ?_)
            · refine r_iload (pq := 111) C dX12_decided_109 rfl rfl ?_
              refine r_iconst (v := nI 2) (pq := 112) C dX12_decided_111 (by decide) rfl ?_
              refine rN_icmp_ne (tg := 144) (pq := 115) C dX12_decided_112 (by decide) rfl (by omega) (by omega) (fun c112 => ?_) (fun c112 => ?_)
              · refine r_iload (pq := 146) C dX12_decided_144 rfl rfl ?_
                refine r_iconst (v := nI 4) (pq := 147) C dX12_decided_146 (by decide) rfl ?_
                refine rN_idiv (pq := 148) C dX12_decided_147 (by omega) (by omega) (by omega) rfl ?_
                refine r_istore (j := 6) (pq := 150) C dX12_decided_148 rfl (by decide) rfl rfl ?_
                dsimp only [List.set]
                refine r_goto (tg := 19) C dX12_decided_150 (by decide) ?_
                refine hnext ?_ _ _
                first
                | (rw [d1 () (by omega), if_neg (by omega)])
                | (rw [d3 () (by omega), if_neg (by omega)])
                | (rw [d2 () (by omega), if_neg (by omega), if_neg (by omega)])
              · refine r_aload_n (pq := 116) C dX12_decided_115 rfl rfl ?_
                refine r_iload_n (pq := 117) C dX12_decided_116 rfl rfl ?_
                refine r_iload (pq := 119) C dX12_decided_117 rfl rfl ?_
                refine r_iload (pq := 121) C dX12_decided_119 rfl rfl ?_
                refine r_bipush (v := nI 99) (pq := 123) C dX12_decided_121 (by decide) rfl ?_
                refine rN_iadd (pq := 124) C dX12_decided_123 rfl ?_
                refine r_callV (pq := 127) C (mc_X12_leastOf hB hb (hL b hb) (by omega) (by omega)) (WM_obj _ _ _ _ _ _) rfl gX12_decided_X12_leastOf rfl (na := 3) (by decide +kernel) rfl (by decide) (by decide) (Nat.le_of_ble_eq_true rfl) ⟨Nat.zero_le _, Nat.zero_le _⟩ dX12_decided_124 rfl rfl (fun r9 w9 hq => ?_)
                obtain ⟨rfl, rfl⟩ := hq
                dsimp only [Option.toList, List.cons_append, List.nil_append]
                refine r_aload_n (pq := 128) C dX12_decided_127 rfl rfl ?_
                refine r_iload_n (pq := 129) C dX12_decided_128 rfl rfl ?_
                refine r_iload (pq := 131) C dX12_decided_129 rfl rfl ?_
                refine r_iload (pq := 133) C dX12_decided_131 rfl rfl ?_
                refine r_bipush (v := nI 99) (pq := 135) C dX12_decided_133 (by decide) rfl ?_
                refine rN_iadd (pq := 136) C dX12_decided_135 rfl ?_
                refine r_callV (pq := 139) C (mc_X12_mostOf hB ha (hL a ha) (by omega) (by omega)) (WM_obj _ _ _ _ _ _) rfl gX12_decided_X12_mostOf rfl (na := 3) (by decide +kernel) rfl (by decide) (by decide) (Nat.le_of_ble_eq_true rfl) ⟨Nat.zero_le _, Nat.zero_le _⟩ dX12_decided_136 rfl rfl (fun r9 w9 hq => ?_)
                obtain ⟨rfl, rfl⟩ := hq
                dsimp only [Option.toList, List.cons_append, List.nil_append]
                refine rN_icmp_le (tg := 144) (pq := 142) C dX12_decided_139 (by decide) rfl (by omega) (by omega) (fun c139 => ?_) (fun c139 => ?_)
                · refine r_iload (pq := 146) C dX12_decided_144 rfl rfl ?_
                  refine r_iconst (v := nI 4) (pq := 147) C dX12_decided_146 (by decide) rfl ?_
                  refine rN_idiv (pq := 148) C dX12_decided_147 (by omega) (by omega) (by omega) rfl ?_
                  refine r_istore (j := 6) (pq := 150) C dX12_decided_148 rfl (by decide) rfl rfl ?_
                  dsimp only [List.set]
                  refine r_goto (tg := 19) C dX12_decided_150 (by decide) ?_
                  refine hnext ?_ _ _
                  first
                  | (rw [d1 () (by omega), if_neg (by omega)])
                  | (rw [d3 () (by omega), if_neg (by omega)])
                  | (rw [d2 () (by omega), if_neg (by omega), if_neg (by omega)])
                · refine r_iload_n (pq := 143) C dX12_decided_142 rfl rfl ?_
                  refine r_iret C D rfl ⟨Nat.le_refl _, Nat.le_refl _⟩ dX12_decided_143 ?_
                  have e8 : (dct (I, f, g) (L % 4) a b p y (f 12)) = b := by rw [d2 () (by omega), if_neg (by omega), if_pos (by omega)]
                  refine ⟨rfl, ?_⟩
                  unfold dci
                  rw [hres (by rw [e8]; omega), e8, if_neg (by omega)]
            · refine r_aload_n (pq := 81) C dX12_decided_80 rfl rfl ?_
              refine r_iload_n (pq := 82) C dX12_decided_81 rfl rfl ?_
              refine r_iload (pq := 84) C dX12_decided_82 rfl rfl ?_
              refine r_iload (pq := 86) C dX12_decided_84 rfl rfl ?_
              refine r_bipush (v := nI 99) (pq := 88) C dX12_decided_86 (by decide) rfl ?_
              refine rN_iadd (pq := 89) C dX12_decided_88 rfl ?_
              refine r_callV (pq := 92) C (mc_X12_leastOf hB ha (hL a ha) (by omega) (by omega)) (WM_obj _ _ _ _ _ _) rfl gX12_decided_X12_leastOf rfl (na := 3) (by decide +kernel) rfl (by decide) (by decide) (Nat.le_of_ble_eq_true rfl) ⟨Nat.zero_le _, Nat.zero_le _⟩ dX12_decided_89 rfl rfl (fun r9 w9 hq => ?_)
              obtain ⟨rfl, rfl⟩ := hq
              dsimp only [Option.toList, List.cons_append, List.nil_append]
              refine r_aload_n (pq := 93) C dX12_decided_92 rfl rfl ?_
              refine r_iload_n (pq := 94) C dX12_decided_93 rfl rfl ?_
              refine r_iload (pq := 96) C dX12_decided_94 rfl rfl ?_
              refine r_iload (pq := 98) C dX12_decided_96 rfl rfl ?_
              refine r_bipush (v := nI 99) (pq := 100) C dX12_decided_98 (by decide) rfl ?_
              refine rN_iadd (pq := 101) C dX12_decided_100 rfl ?_
              refine r_callV (pq := 104) C (mc_X12_mostOf hB hb (hL b hb) (by omega) (by omega)) (WM_obj _ _ _ _ _ _) rfl gX12_decided_X12_mostOf rfl (na := 3) (by decide +kernel) rfl (by decide) (by decide) (Nat.le_of_ble_eq_true rfl) ⟨Nat.zero_le _, Nat.zero_le _⟩ dX12_decided_101 rfl rfl (fun r9 w9 hq => ?_)
              obtain ⟨rfl, rfl⟩ := hq
              dsimp only [Option.toList, List.cons_append, List.nil_append]
              refine rN_icmp_le (tg := 109) (pq := 107) C dX12_decided_104 (by decide) rfl (by omega) (by omega) (fun c104 => ?_) (fun c104 => ?_)
              · refine r_iload (pq := 111) C dX12_decided_109 rfl rfl ?_
                refine r_iconst (v := nI 2) (pq := 112) C dX12_decided_111 (by decide) rfl ?_
                refine rN_icmp_ne (tg := 144) (pq := 115) C dX12_decided_112 (by decide) rfl (by omega) (by omega) (fun c112 => ?_) (fun c112 => ?_)
                · refine r_iload (pq := 146) C dX12_decided_144 rfl rfl ?_
                  refine r_iconst (v := nI 4) (pq := 147) C dX12_decided_146 (by decide) rfl ?_
                  refine rN_idiv (pq := 148) C dX12_decided_147 (by omega) (by omega) (by omega) rfl ?_
                  refine r_istore (j := 6) (pq := 150) C dX12_decided_148 rfl (by decide) rfl rfl ?_
                  dsimp only [List.set]
                  refine r_goto (tg := 19) C dX12_decided_150 (by decide) ?_
                  refine hnext ?_ _ _
                  first
                  | (rw [d1 () (by omega), if_neg (by omega)])
                  | (rw [d3 () (by omega), if_neg (by omega)])
                  | (rw [d2 () (by omega), if_neg (by omega), if_neg (by omega)])
                · refine r_aload_n (pq := 116) C dX12_decided_115 rfl rfl ?_
                  refine r_iload_n (pq := 117) C dX12_decided_116 rfl rfl ?_
                  refine r_iload (pq := 119) C dX12_decided_117 rfl rfl ?_
                  refine r_iload (pq := 121) C dX12_decided_119 rfl rfl ?_
                  refine r_bipush (v := nI 99) (pq := 123) C dX12_decided_121 (by decide) rfl ?_
                  refine rN_iadd (pq := 124) C dX12_decided_123 rfl ?_
                  refine r_callV (pq := 127) C (mc_X12_leastOf hB hb (hL b hb) (by omega) (by omega)) (WM_obj _ _ _ _ _ _) rfl gX12_decided_X12_leastOf rfl (na := 3) (by decide +kernel) rfl (by decide) (by decide) (Nat.le_of_ble_eq_true rfl) ⟨Nat.zero_le _, Nat.zero_le _⟩ dX12_decided_124 rfl rfl (fun r9 w9 hq => ?_)
                  obtain ⟨rfl, rfl⟩ := hq
                  dsimp only [Option.toList, List.cons_append, List.nil_append]
                  refine r_aload_n (pq := 128) C dX12_decided_127 rfl rfl ?_
                  refine r_iload_n (pq := 129) C dX12_decided_128 rfl rfl ?_
                  refine r_iload (pq := 131) C dX12_decided_129 rfl rfl ?_
                  refine r_iload (pq := 133) C dX12_decided_131 rfl rfl ?_
                  refine r_bipush (v := nI 99) (pq := 135) C dX12_decided_133 (by decide) rfl ?_
                  refine rN_iadd (pq := 136) C dX12_decided_135 rfl ?_
                  refine r_callV (pq := 139) C (mc_X12_mostOf hB ha (hL a ha) (by omega) (by omega)) (WM_obj _ _ _ _ _ _) rfl gX12_decided_X12_mostOf rfl (na := 3) (by decide +kernel) rfl (by decide) (by decide) (Nat.le_of_ble_eq_true rfl) ⟨Nat.zero_le _, Nat.zero_le _⟩ dX12_decided_136 rfl rfl (fun r9 w9 hq => ?_)
                  obtain ⟨rfl, rfl⟩ := hq
                  dsimp only [Option.toList, List.cons_append, List.nil_append]
                  refine rN_icmp_le (tg := 144) (pq := 142) C dX12_decided_139 (by decide) rfl (by omega) (by omega) (fun c139 => ?_) (fun c139 => ?_)
                  · refine r_iload (pq := 146) C dX12_decided_144 rfl rfl ?_
                    refine r_iconst (v := nI 4) (pq := 147) C dX12_decided_146 (by decide) rfl ?_
                    refine rN_idiv (pq := 148) C dX12_decided_147 (by omega) (by omega) (by omega) rfl ?_
                    refine r_istore (j := 6) (pq := 150) C dX12_decided_148 rfl (by decide) rfl rfl ?_
                    dsimp only [List.set]
                    refine r_goto (tg := 19) C dX12_decided_150 (by decide) ?_
                    refine hnext ?_ _ _
                    first
                    | (rw [d1 () (by omega), if_neg (by omega)])
                    | (rw [d3 () (by omega), if_neg (by omega)])
                    | (rw [d2 () (by omega), if_neg (by omega), if_neg (by omega)])
                  · refine r_iload_n (pq := 143) C dX12_decided_142 rfl rfl ?_
                    refine r_iret C D rfl ⟨Nat.le_refl _, Nat.le_refl _⟩ dX12_decided_143 ?_
                    have e8 : (dct (I, f, g) (L % 4) a b p y (f 12)) = b := by rw [d2 () (by omega), if_neg (by omega), if_pos (by omega)]
                    refine ⟨rfl, ?_⟩
                    unfold dci
                    rw [hres (by rw [e8]; omega), e8, if_neg (by omega)]
              · refine r_iload_n (pq := 108) C dX12_decided_107 rfl rfl ?_
                refine r_iret C D rfl ⟨Nat.le_refl _, Nat.le_refl _⟩ dX12_decided_108 ?_
                have e8 : (dct (I, f, g) (L % 4) a b p y (f 12)) = a := by rw [d2 () (by omega), if_pos (by omega)]
                refine ⟨rfl, ?_⟩
                unfold dci
                rw [hres (by rw [e8]; omega), e8, if_neg (by omega)]
          · refine r_iload (pq := 73) C dX12_decided_71 rfl rfl ?_
            refine r_iret C D rfl ⟨Nat.le_refl _, Nat.le_refl _⟩ dX12_decided_73 ?_
            first
            | (have e8 : (dct (I, f, g) (L % 4) a b p y (f 12)) = f 2 p := (by rw [d1 () (by omega), if_pos (by omega)]); exact ⟨rfl, by unfold dci; rw [hres (by rw [e8]; omega), e8, if_neg (by omega)]⟩)
            | (have e8 : (dct (I, f, g) (L % 4) a b p y (f 12)) = f 3 p := (by rw [d3 () (by omega), if_pos (by omega)]); exact ⟨rfl, by unfold dci; rw [hres (by rw [e8]; omega), e8, if_neg (by omega)]⟩)
  refine r_bipush (v := nI 100) (pq := 2) C dX12_decided_0 (by decide) rfl ?_
  refine r_iload (pq := 4) C dX12_decided_2 rfl rfl ?_
  refine rN_imul (pq := 5) C dX12_decided_4 rfl ?_
  refine r_istore (j := 5) (pq := 7) C dX12_decided_5 rfl (by decide) rfl rfl ?_
  dsimp only [List.set]
  refine r_aload_n (pq := 8) C dX12_decided_7 rfl rfl ?_
  refine m_geta (pq := 11) C 23 (by decide) rfl rfl (by decide +kernel) dX12_decided_8 rfl ?_
  refine r_iload_n (pq := 12) C dX12_decided_11 rfl rfl ?_
  refine r_iload_n (pq := 13) C dX12_decided_12 rfl rfl ?_
  refine r_callS (pq := 16) C (mc_X12_pair ha hb) gX12_decided_X12_pair rfl (na := 2) (by decide +kernel) rfl (by decide) (by decide) (Nat.le_of_ble_eq_true rfl) ⟨Nat.zero_le _, Nat.zero_le _⟩ dX12_decided_13 rfl rfl (fun r9 w9 hq => ?_)
  obtain ⟨rfl, rfl⟩ := hq
  dsimp only [Option.toList, List.cons_append, List.nil_append]
  refine m_ialdZ (pq := 17) C 23 64 rfl rfl (by decide) rfl (by decide) (by omega) dX12_decided_16 rfl ?_
  refine r_istore (j := 6) (pq := 19) C dX12_decided_17 rfl (by decide) rfl rfl ?_
  dsimp only [List.set]
  rcases h23 with e | ⟨t, ht, e⟩
  · rw [e]
    refine r_iload (pq := 21) C dX12_decided_19 rfl rfl ?_
    refine r_if_le (tg := 153) (pq := 24) C dX12_decided_21 (by decide) rfl (fun c21 => ?_) (fun c21 => absurd (by decide) c21)
    refine r_bipush (v := (-2)) (pq := 155) C dX12_decided_153 (by decide) rfl ?_
    refine r_iret C D rfl ⟨Nat.le_refl _, Nat.le_refl _⟩ dX12_decided_155 ?_
    exact ⟨rfl, by unfold dci dcd; rw [if_pos e, if_pos rfl]⟩
  · rw [e]
    have h64 := ht.1
    have ed : (dcd (I, f, g) a b p y (f 12)) = (if (dct (I, f, g) (t % 4) a b p y (f 12)) ≠ 8 then (dct (I, f, g) (t % 4) a b p y (f 12)) else if (dct (I, f, g) (t / 4 % 4) a b p y (f 12)) ≠ 8 then (dct (I, f, g) (t / 4 % 4) a b p y (f 12)) else (dct (I, f, g) (t / 16) a b p y (f 12))) := by
      unfold dcd
      rw [if_neg (by show ¬ g 23 (pr a b) = -1; rw [e]; exact nI_ne_neg (by omega) (by decide))]
      show (if dct (I, f, g) (tn (g 23 (pr a b)) % 4) a b p y (f 12) ≠ 8 then dct (I, f, g) (tn (g 23 (pr a b)) % 4) a b p y (f 12) else if dct (I, f, g) (tn (g 23 (pr a b)) / 4 % 4) a b p y (f 12) ≠ 8 then dct (I, f, g) (tn (g 23 (pr a b)) / 4 % 4) a b p y (f 12) else dct (I, f, g) (tn (g 23 (pr a b)) / 16) a b p y (f 12)) = _
      rw [e, tn_nI (by omega)]
    by_cases t0 : t = 0
    · subst t0
      exact hzero (by rw [ed]; simp [dct_0]) _ _
    · refine hbody t _ _ (by omega) h64 (by by_cases q : t / 4 = 0; omega; exact ht.2.1 q) (fun h => by rw [ed, if_pos h]) (fun h8 v7 v8 => ?_)
      by_cases t1 : t / 4 = 0
      · rw [t1]
        exact hzero (by rw [ed, if_neg (fun z => z h8), show t / 4 % 4 = 0 by omega, show t / 16 = 0 by omega]; simp [dct_0]) _ _
      · refine hbody (t / 4) _ _ (by omega) (by omega) (by by_cases q : t / 16 = 0; omega; exact ht.2.2.1 q) (fun h => by rw [ed, if_neg (fun z => z h8), if_pos h]) (fun h9 v7 v8 => ?_)
        by_cases t2 : t / 16 = 0
        · rw [show t / 4 / 4 = 0 by omega]
          exact hzero (by rw [ed, if_neg (fun z => z h8), if_neg (fun z => z h9), t2]; exact dct_0) _ _
        · rw [show t / 4 / 4 = t / 16 by omega]
          refine hbody (t / 16) _ _ (by omega) (by omega) (by omega) (fun h => by rw [ed, if_neg (fun z => z h8), if_neg (fun z => z h9), show t / 16 % 4 = t / 16 by omega]) (fun h10 v7 v8 => ?_)
          rw [show t / 16 / 4 = 0 by omega]
          exact hzero (by rw [ed, if_neg (fun z => z h8), if_neg (fun z => z h9), ← h10, show t / 16 % 4 = t / 16 by omega]) _ _

set_option maxHeartbeats 4000000 in
set_option maxRecDepth 100000 in
/-- decides -/
theorem mc_X12_decides {l : Launch} {E : EV} {A : Nat → Nat} {w0 : RW} {I : Nat → Nat} {f : Nat → Nat → Nat} {g : Nat → Nat → Int32} (hS : SI (I, f, g)) {x y z u : Int32} : MC l E yX12_decides wsX12_decides 3 0 0 [.ref (A 0), .int x, .int y, .int z, .int u] (WM E A w0 I f g) (mP E A w0 (rs_decides (I, f, g) x y z u) (I, f, g)) := by
  refine MC.enter (cc := cX12_decides) (maxL := 5) (ret := (some .int)) (lv0 := [some (.ref (A 0)), some (.int x), some (.int y), some (.int z), some (.int u)]) (by decide) rfl (by simp [Value.category]) (Nat.le_of_ble_eq_true rfl) rfl ?_
  intro X hl hE C D
  subst hl
  subst hE
  have hB : mOK I f := hS.1
  have hP6 : I 1 ≤ 6 := hS.2.1
  have hM : I 5 ≤ 80 := hS.2.2.1
  by_cases hok : okDecides (I, f, g) x y z u
  · obtain ⟨a, ha, rfl⟩ := rg_of hok.1 (by omega)
    obtain ⟨b, hb, rfl⟩ := rg_of hok.2.1 (by omega)
    obtain ⟨p, hp, rfl⟩ := rg_of hok.2.2.2.1 (by show I 1 < _; omega)
    obtain ⟨y9, hy9, rfl⟩ := rg_of hok.2.2.2.2 (by omega)
    change p < I 1 at hp
    have hab : a ≠ b := fun h => hok.2.2.1 (by rw [h])
    have hpr := pr_lt ha hb
    have hpp : f 2 p < 8 ∧ f 3 p < 8 ∧ f 4 p < 2 := hS.2.2.2.2.1 p hp
    have h23 : g 23 (pr a b) = -1 ∨ ∃ t, tsOK t ∧ g 23 (pr a b) = nI t := hS.2.2.2.2.2.2.2.2.1 (pr a b) hpr
    refine r_iload_n (pq := 1) C dX12_decides_0 rfl rfl ?_
    refine r_callS (pq := 4) C (mc_X12_isLand) gX12_decides_X12_isLand rfl (na := 1) (by decide +kernel) rfl (by decide) (by decide) (Nat.le_of_ble_eq_true rfl) ⟨Nat.zero_le _, Nat.zero_le _⟩ dX12_decides_1 rfl rfl (fun r9 w9 hq => ?_)
    obtain ⟨rfl, rfl⟩ := hq
    dsimp only [Option.toList, List.cons_append, List.nil_append]
    have l1 := b2_lt (rg (nI a) 8)
    refine rN_if_eq (tg := 35) (pq := 7) C dX12_decides_4 (by decide) rfl (by omega) (fun c4 => absurd c4 (b2_1.mpr hok.1)) (fun c4 => ?_)
    refine r_iload_n (pq := 8) C dX12_decides_7 rfl rfl ?_
    refine r_callS (pq := 11) C (mc_X12_isLand) gX12_decides_X12_isLand rfl (na := 1) (by decide +kernel) rfl (by decide) (by decide) (Nat.le_of_ble_eq_true rfl) ⟨Nat.zero_le _, Nat.zero_le _⟩ dX12_decides_8 rfl rfl (fun r9 w9 hq => ?_)
    obtain ⟨rfl, rfl⟩ := hq
    dsimp only [Option.toList, List.cons_append, List.nil_append]
    have l8 := b2_lt (rg (nI b) 8)
    refine rN_if_eq (tg := 35) (pq := 14) C dX12_decides_11 (by decide) rfl (by omega) (fun c11 => absurd c11 (b2_1.mpr hok.2.1)) (fun c11 => ?_)
    refine r_iload_n (pq := 15) C dX12_decides_14 rfl rfl ?_
    refine r_iload_n (pq := 16) C dX12_decides_15 rfl rfl ?_
    refine rN_icmp_eq (tg := 35) (pq := 19) C dX12_decides_16 (by decide) rfl (by omega) (by omega) (fun c16 => absurd c16 hab) (fun c16 => ?_)
    refine r_aload_n (pq := 20) C dX12_decides_19 rfl rfl ?_
    refine r_iload_n (pq := 21) C dX12_decides_20 rfl rfl ?_
    refine r_callV (pq := 24) C (mc_X12_isPerson hB) (WM_obj _ _ _ _ _ _) rfl gX12_decides_X12_isPerson rfl (na := 1) (by decide +kernel) rfl (by decide) (by decide) (Nat.le_of_ble_eq_true rfl) ⟨Nat.zero_le _, Nat.zero_le _⟩ dX12_decides_21 rfl rfl (fun r9 w9 hq => ?_)
    obtain ⟨rfl, rfl⟩ := hq
    dsimp only [Option.toList, List.cons_append, List.nil_append]
    have l21 := b2_lt (rg (nI p) (I 1))
    refine rN_if_eq (tg := 35) (pq := 27) C dX12_decides_24 (by decide) rfl (by omega) (fun c24 => absurd c24 (b2_1.mpr hok.2.2.2.1)) (fun c24 => ?_)
    refine r_iload (pq := 29) C dX12_decides_27 rfl rfl ?_
    refine r_callS (pq := 32) C (mc_X12_isYear) gX12_decides_X12_isYear rfl (na := 1) (by decide +kernel) rfl (by decide) (by decide) (Nat.le_of_ble_eq_true rfl) ⟨Nat.zero_le _, Nat.zero_le _⟩ dX12_decides_29 rfl rfl (fun r9 w9 hq => ?_)
    obtain ⟨rfl, rfl⟩ := hq
    dsimp only [Option.toList, List.cons_append, List.nil_append]
    have l29 := b2_lt (rg (nI y9) 4)
    refine rN_if_ne (tg := 37) (pq := 35) C dX12_decides_32 (by decide) rfl (by omega) (fun c32 => ?_) (fun c32 => absurd c32 (b2_1.mpr hok.2.2.2.2))
    refine r_aload_n (pq := 38) C dX12_decides_37 rfl rfl ?_
    refine r_iload_n (pq := 39) C dX12_decides_38 rfl rfl ?_
    refine r_callV (pq := 42) C (mc_X12_lay hB hM (by omega)) (WM_obj _ _ _ _ _ _) rfl gX12_decides_X12_lay rfl (na := 1) (by decide +kernel) rfl (by decide) (by decide) (Nat.le_of_ble_eq_true rfl) ⟨Nat.zero_le _, Nat.zero_le _⟩ dX12_decides_39 rfl rfl (fun r9 w9 hq => ?_)
    obtain ⟨rfl, f1, rfl, hB1, hk1, hc1, hl1⟩ := hq
    dsimp only [Option.toList, List.cons_append, List.nil_append]
    have k2 : f1 2 = f 2 := hk1 2 (by decide) (by decide) (by decide)
    have k3 : f1 3 = f 3 := hk1 3 (by decide) (by decide) (by decide)
    have k22 : f1 22 = f 22 := hk1 22 (by decide) (by decide) (by decide)
    refine r_aload_n (pq := 43) C dX12_decides_42 rfl rfl ?_
    refine r_iload_n (pq := 44) C dX12_decides_43 rfl rfl ?_
    refine r_iload_n (pq := 45) C dX12_decides_44 rfl rfl ?_
    refine r_iload_n (pq := 46) C dX12_decides_45 rfl rfl ?_
    refine r_iload (pq := 48) C dX12_decides_46 rfl rfl ?_
    refine r_callV (pq := 51) C (mc_X12_decided hB1 ha hb (by omega) hy9 hl1 (by rw [k2, k3]; exact ⟨hpp.1, hpp.2.1⟩) h23) (WM_obj _ _ _ _ _ _) rfl gX12_decides_X12_decided rfl (na := 4) (by decide +kernel) rfl (by decide) (by decide) (Nat.le_of_ble_eq_true rfl) ⟨Nat.zero_le _, Nat.zero_le _⟩ dX12_decides_48 rfl rfl (fun r9 w9 hq => ?_)
    obtain ⟨rfl, rfl⟩ := hq
    dsimp only [Option.toList, List.cons_append, List.nil_append]
    refine r_iret C D rfl ⟨Nat.le_refl _, Nat.le_refl _⟩ dX12_decides_51 ?_
    refine ⟨?_, (_, _, _), rfl, hB1, EQ_lay hk1⟩
    unfold rs_decides
    rw [if_pos hok, tn_nI (by omega), tn_nI (by omega), tn_nI (by omega), tn_nI (by omega), dcd_ext (I := I) (g := g) (f := f) (c' := cr (I, f, g) p) hc1 k2 k3 hy9]
    rfl
  · refine r_iload_n (pq := 1) C dX12_decides_0 rfl rfl ?_
    refine r_callS (pq := 4) C (mc_X12_isLand) gX12_decides_X12_isLand rfl (na := 1) (by decide +kernel) rfl (by decide) (by decide) (Nat.le_of_ble_eq_true rfl) ⟨Nat.zero_le _, Nat.zero_le _⟩ dX12_decides_1 rfl rfl (fun r9 w9 hq => ?_)
    obtain ⟨rfl, rfl⟩ := hq
    dsimp only [Option.toList, List.cons_append, List.nil_append]
    have l1 := b2_lt (rg x 8)
    refine rN_if_eq (tg := 35) (pq := 7) C dX12_decides_4 (by decide) rfl (by omega) (fun c4 => ?_) (fun c4 => ?_)
    · refine r_iconst (v := (-1)) (pq := 36) C dX12_decides_35 (by decide) rfl ?_
      refine r_iret C D rfl ⟨Nat.le_refl _, Nat.le_refl _⟩ dX12_decides_36 ?_
      refine ⟨?_, (I, f, g), rfl, hB, EQ_rfl _⟩
      unfold rs_decides
      rw [if_neg hok]
    · refine r_iload_n (pq := 8) C dX12_decides_7 rfl rfl ?_
      refine r_callS (pq := 11) C (mc_X12_isLand) gX12_decides_X12_isLand rfl (na := 1) (by decide +kernel) rfl (by decide) (by decide) (Nat.le_of_ble_eq_true rfl) ⟨Nat.zero_le _, Nat.zero_le _⟩ dX12_decides_8 rfl rfl (fun r9 w9 hq => ?_)
      obtain ⟨rfl, rfl⟩ := hq
      dsimp only [Option.toList, List.cons_append, List.nil_append]
      have l8 := b2_lt (rg y 8)
      refine rN_if_eq (tg := 35) (pq := 14) C dX12_decides_11 (by decide) rfl (by omega) (fun c11 => ?_) (fun c11 => ?_)
      · refine r_iconst (v := (-1)) (pq := 36) C dX12_decides_35 (by decide) rfl ?_
        refine r_iret C D rfl ⟨Nat.le_refl _, Nat.le_refl _⟩ dX12_decides_36 ?_
        refine ⟨?_, (I, f, g), rfl, hB, EQ_rfl _⟩
        unfold rs_decides
        rw [if_neg hok]
      · refine r_iload_n (pq := 15) C dX12_decides_14 rfl rfl ?_
        refine r_iload_n (pq := 16) C dX12_decides_15 rfl rfl ?_
        refine r_icmp_eq (tg := 35) (pq := 19) C dX12_decides_16 (by decide) rfl (fun c16 => ?_) (fun c16 => ?_)
        · refine r_iconst (v := (-1)) (pq := 36) C dX12_decides_35 (by decide) rfl ?_
          refine r_iret C D rfl ⟨Nat.le_refl _, Nat.le_refl _⟩ dX12_decides_36 ?_
          refine ⟨?_, (I, f, g), rfl, hB, EQ_rfl _⟩
          unfold rs_decides
          rw [if_neg hok]
        · refine r_aload_n (pq := 20) C dX12_decides_19 rfl rfl ?_
          refine r_iload_n (pq := 21) C dX12_decides_20 rfl rfl ?_
          refine r_callV (pq := 24) C (mc_X12_isPerson hB) (WM_obj _ _ _ _ _ _) rfl gX12_decides_X12_isPerson rfl (na := 1) (by decide +kernel) rfl (by decide) (by decide) (Nat.le_of_ble_eq_true rfl) ⟨Nat.zero_le _, Nat.zero_le _⟩ dX12_decides_21 rfl rfl (fun r9 w9 hq => ?_)
          obtain ⟨rfl, rfl⟩ := hq
          dsimp only [Option.toList, List.cons_append, List.nil_append]
          have l21 := b2_lt (rg z (I 1))
          refine rN_if_eq (tg := 35) (pq := 27) C dX12_decides_24 (by decide) rfl (by omega) (fun c24 => ?_) (fun c24 => ?_)
          · refine r_iconst (v := (-1)) (pq := 36) C dX12_decides_35 (by decide) rfl ?_
            refine r_iret C D rfl ⟨Nat.le_refl _, Nat.le_refl _⟩ dX12_decides_36 ?_
            refine ⟨?_, (I, f, g), rfl, hB, EQ_rfl _⟩
            unfold rs_decides
            rw [if_neg hok]
          · refine r_iload (pq := 29) C dX12_decides_27 rfl rfl ?_
            refine r_callS (pq := 32) C (mc_X12_isYear) gX12_decides_X12_isYear rfl (na := 1) (by decide +kernel) rfl (by decide) (by decide) (Nat.le_of_ble_eq_true rfl) ⟨Nat.zero_le _, Nat.zero_le _⟩ dX12_decides_29 rfl rfl (fun r9 w9 hq => ?_)
            obtain ⟨rfl, rfl⟩ := hq
            dsimp only [Option.toList, List.cons_append, List.nil_append]
            have l29 := b2_lt (rg u 4)
            refine rN_if_ne (tg := 37) (pq := 35) C dX12_decides_32 (by decide) rfl (by omega) (fun c32 => ?_) (fun c32 => ?_)
            · exact absurd ⟨b2_1.mp c4, b2_1.mp c11, c16, b2_1.mp c24, b2_1.mp c32⟩ hok
            · refine r_iconst (v := (-1)) (pq := 36) C dX12_decides_35 (by decide) rfl ?_
              refine r_iret C D rfl ⟨Nat.le_refl _, Nat.le_refl _⟩ dX12_decides_36 ?_
              refine ⟨?_, (I, f, g), rfl, hB, EQ_rfl _⟩
              unfold rs_decides
              rw [if_neg hok]


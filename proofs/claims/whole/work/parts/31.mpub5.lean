/-! ===== the reference: law, kept, first, broken ===== -/
set_option maxHeartbeats 4000000 in
set_option maxRecDepth 100000 in
/-- law -/
theorem mc_X12_law {l : Launch} {E : EV} {A : Nat → Nat} {w0 : RW} {I : Nat → Nat} {f : Nat → Nat → Nat} {g : Nat → Nat → Int32} (hS : SI (I, f, g)) {x y z : Int32} : MC l E yX12_law wsX12_law 2 0 0 [.ref (A 0), .int x, .int y, .int z] (WM E A w0 I f g) (mP E A w0 (rs_law (I, f, g) x y z) (nx_law (I, f, g) x y z)) := by
  refine MC.enter (cc := cX12_law) (maxL := 4) (ret := (some .int)) (lv0 := [some (.ref (A 0)), some (.int x), some (.int y), some (.int z)]) (by decide) rfl (by simp [Value.category]) (Nat.le_of_ble_eq_true rfl) rfl ?_
  intro X hl hE C D
  subst hl
  subst hE
  have hB : mOK I f := hS.1
  have hL12 : I 16 ≤ 12 := hS.2.2.2.1
  by_cases ht : 0 ≤ x.toInt
  · obtain ⟨t, ht2, rfl⟩ : ∃ t : Nat, t < 2147483648 ∧ x = nI t := nI_of (fun h => by rw [lt_i] at h; have e0 : (0 : Int32).toInt = 0 := rfl; omega)
    by_cases hok : okLaw (nI t) y z
    · obtain ⟨h1, h2, h3, h4, h5⟩ := id hok
      rw [tn_nI ht2] at h2 h3 h5
      obtain ⟨n9, hn1, hn2, rfl⟩ := in_of (a := 0) (b := 200) h4 (by omega)
      have fin : GG X (WM (xE X) A w0 I f g) 0 0 61 [some (.ref (A 0)), some (.int (nI t)), some (.int (nI n9)), some (.int z)] [] := by
        refine r_aload_n (pq := 62) C dX12_law_61 rfl rfl ?_
        refine m_geti (pq := 65) C hB 16 (by decide) rfl rfl (by decide +kernel) dX12_law_62 rfl (fun b62 => ?_)
        refine r_bipush (v := nI 12) (pq := 67) C dX12_law_65 (by decide) rfl ?_
        refine rN_icmp_ne (tg := 73) (pq := 70) C dX12_law_67 (by decide) rfl (by omega) (by omega) (fun c67 => ?_) (fun c67 => ?_)
        · refine r_aload_n (pq := 74) C dX12_law_73 rfl rfl ?_
          refine m_geta (pq := 77) C 17 (by decide) rfl rfl (by decide +kernel) dX12_law_74 rfl ?_
          refine r_aload_n (pq := 78) C dX12_law_77 rfl rfl ?_
          refine m_geti (pq := 81) C hB 16 (by decide) rfl rfl (by decide +kernel) dX12_law_78 rfl (fun b78 => ?_)
          refine r_iload_n (pq := 82) C dX12_law_81 rfl rfl ?_
          refine r_bipush (v := nI 10) (pq := 84) C dX12_law_82 (by decide) rfl ?_
          refine rN_idiv (pq := 85) C dX12_law_84 (by omega) (by omega) (by omega) rfl ?_
          refine m_iast (pq := 86) C hB 17 12 rfl rfl (by decide) rfl (by decide) (by omega) dX12_law_85 rfl (by omega) (fun hB => ?_)
          refine r_aload_n (pq := 87) C dX12_law_86 rfl rfl ?_
          refine m_geta (pq := 90) C 18 (by decide) rfl rfl (by decide +kernel) dX12_law_87 rfl ?_
          refine r_aload_n (pq := 91) C dX12_law_90 rfl rfl ?_
          refine m_geti (pq := 94) C hB 16 (by decide) rfl rfl (by decide +kernel) dX12_law_91 rfl (fun b91 => ?_)
          refine r_iload_n (pq := 95) C dX12_law_94 rfl rfl ?_
          refine r_bipush (v := nI 10) (pq := 97) C dX12_law_95 (by decide) rfl ?_
          refine rN_irem (pq := 98) C dX12_law_97 (by omega) (by omega) (by omega) rfl ?_
          refine m_iast (pq := 99) C hB 18 12 rfl rfl (by decide) rfl (by decide) (by omega) dX12_law_98 rfl (by omega) (fun hB => ?_)
          refine r_aload_n (pq := 100) C dX12_law_99 rfl rfl ?_
          refine m_geta (pq := 103) C 19 (by decide) rfl rfl (by decide +kernel) dX12_law_100 rfl ?_
          refine r_aload_n (pq := 104) C dX12_law_103 rfl rfl ?_
          refine m_geti (pq := 107) C hB 16 (by decide) rfl rfl (by decide +kernel) dX12_law_104 rfl (fun b104 => ?_)
          refine r_iload_n (pq := 108) C dX12_law_107 rfl rfl ?_
          refine m_iast (pq := 109) C hB 19 12 rfl rfl (by decide) rfl (by decide) (by omega) dX12_law_108 rfl (by omega) (fun hB => ?_)
          refine r_aload_n (pq := 110) C dX12_law_109 rfl rfl ?_
          refine m_geta (pq := 113) C 20 (by decide) rfl rfl (by decide +kernel) dX12_law_110 rfl ?_
          refine r_aload_n (pq := 114) C dX12_law_113 rfl rfl ?_
          refine m_geti (pq := 117) C hB 16 (by decide) rfl rfl (by decide +kernel) dX12_law_114 rfl (fun b114 => ?_)
          refine r_iload_n (pq := 118) C dX12_law_117 rfl rfl ?_
          refine m_iastZ (pq := 119) C 20 12 rfl rfl (by decide) rfl (by decide) (by omega) dX12_law_118 rfl ?_
          refine r_aload_n (pq := 120) C dX12_law_119 rfl rfl ?_
          refine r_dup (pq := 121) C dX12_law_120 rfl rfl ?_
          refine m_geti (pq := 124) C hB 16 (by decide) rfl rfl (by decide +kernel) dX12_law_121 rfl (fun b121 => ?_)
          refine r_iconst (v := nI 1) (pq := 125) C dX12_law_124 (by decide) rfl ?_
          refine rN_iadd (pq := 126) C dX12_law_125 rfl ?_
          refine m_puti (pq := 129) C hB 16 (by decide) rfl rfl rfl (by decide +kernel) dX12_law_126 rfl (by omega) (fun hB => ?_)
          refine r_aload_n (pq := 130) C dX12_law_129 rfl rfl ?_
          refine m_geti (pq := 133) C hB 16 (by decide) rfl rfl (by decide +kernel) dX12_law_130 rfl (fun b130 => ?_)
          refine r_iconst (v := nI 1) (pq := 134) C dX12_law_133 (by decide) rfl ?_
          refine rN_isub (pq := 135) C dX12_law_134 (by simp [va_up]) rfl ?_
          refine r_iret C D rfl ⟨Nat.le_refl _, Nat.le_refl _⟩ dX12_law_135 ?_
          refine ⟨?_, (_, _, _), rfl, hB, ?_⟩
          · unfold rs_law
            rw [if_pos hok, if_neg c67]
            simp [va_up]
          · unfold nx_law
            rw [if_pos ⟨hok, c67⟩, tn_nI ht2, tn_nI (by omega)]
            exact EQ_rfl _
        · refine r_bipush (v := (-2)) (pq := 72) C dX12_law_70 (by decide) rfl ?_
          refine r_iret C D rfl ⟨Nat.le_refl _, Nat.le_refl _⟩ dX12_law_72 ?_
          refine ⟨?_, (I, f, g), rfl, hB, ?_⟩
          · unfold rs_law
            rw [if_pos hok, if_pos c67]
          · unfold nx_law
            rw [if_neg (fun h => h.2 c67)]
            exact EQ_rfl _
      refine r_iload_n (pq := 1) C dX12_law_0 rfl rfl ?_
      refine rN_if_lt (tg := 59) (pq := 4) C dX12_law_1 (by decide) rfl (by omega) ?_
      refine r_iload_n (pq := 5) C dX12_law_4 rfl rfl ?_
      refine r_bipush (v := nI 10) (pq := 7) C dX12_law_5 (by decide) rfl ?_
      refine rN_idiv (pq := 8) C dX12_law_7 (by omega) (by omega) (by omega) rfl ?_
      refine r_iconst (v := nI 3) (pq := 9) C dX12_law_8 (by decide) rfl ?_
      refine rN_icmp_gt (tg := 59) (pq := 12) C dX12_law_9 (by decide) rfl (by omega) (by omega) (fun c9 => absurd h2 (by omega)) (fun c9 => ?_)
      refine r_iload_n (pq := 13) C dX12_law_12 rfl rfl ?_
      refine r_bipush (v := nI 10) (pq := 15) C dX12_law_13 (by decide) rfl ?_
      refine rN_irem (pq := 16) C dX12_law_15 (by omega) (by omega) (by omega) rfl ?_
      refine r_callS (pq := 19) C (mc_X12_isLand) gX12_law_X12_isLand rfl (na := 1) (by decide +kernel) rfl (by decide) (by decide) (Nat.le_of_ble_eq_true rfl) ⟨Nat.zero_le _, Nat.zero_le _⟩ dX12_law_16 rfl rfl (fun r9 w9 hq => ?_)
      obtain ⟨rfl, rfl⟩ := hq
      dsimp only [Option.toList, List.cons_append, List.nil_append]
      have l16 := b2_lt (rg (nI (t % 10)) 8)
      refine rN_if_eq (tg := 59) (pq := 22) C dX12_law_19 (by decide) rfl (by omega) (fun c19 => absurd c19 (b2_1.mpr ((rg_nI (by omega)).mpr h3))) (fun c19 => ?_)
      refine r_iload_n (pq := 23) C dX12_law_22 rfl rfl ?_
      refine r_iconst (v := nI 0) (pq := 24) C dX12_law_23 (by decide) rfl ?_
      refine r_sipush (v := nI 200) (pq := 27) C dX12_law_24 (by decide) rfl ?_
      refine r_callS (pq := 30) C (mc_X12_in) gX12_law_X12_in rfl (na := 3) (by decide +kernel) rfl (by decide) (by decide) (Nat.le_of_ble_eq_true rfl) ⟨Nat.zero_le _, Nat.zero_le _⟩ dX12_law_27 rfl rfl (fun r9 w9 hq => ?_)
      obtain ⟨rfl, rfl⟩ := hq
      dsimp only [Option.toList, List.cons_append, List.nil_append]
      have l27 := b2_lt ((nI 0).toInt ≤ (nI n9).toInt ∧ (nI n9).toInt ≤ (nI 200).toInt)
      refine rN_if_eq (tg := 59) (pq := 33) C dX12_law_30 (by decide) rfl (by omega) (fun c30 => absurd c30 (b2_1.mpr ((in_b (by omega) (by omega)).mpr h4))) (fun c30 => ?_)
      refine r_iload_n (pq := 34) C dX12_law_33 rfl rfl ?_
      refine r_bipush (v := nI 10) (pq := 36) C dX12_law_34 (by decide) rfl ?_
      refine rN_idiv (pq := 37) C dX12_law_36 (by omega) (by omega) (by omega) rfl ?_
      refine rN_if_eq (tg := 48) (pq := 40) C dX12_law_37 (by decide) rfl (by omega) (fun c37 => ?_) (fun c37 => ?_)
      · refine r_iload_n (pq := 49) C dX12_law_48 rfl rfl ?_
        refine r_iconst (v := nI 1) (pq := 50) C dX12_law_49 (by decide) rfl ?_
        refine r_sipush (v := nI 200) (pq := 53) C dX12_law_50 (by decide) rfl ?_
        refine r_callS (pq := 56) C (mc_X12_in) gX12_law_X12_in rfl (na := 3) (by decide +kernel) rfl (by decide) (by decide) (Nat.le_of_ble_eq_true rfl) ⟨Nat.zero_le _, Nat.zero_le _⟩ dX12_law_53 rfl rfl (fun r9 w9 hq => ?_)
        obtain ⟨rfl, rfl⟩ := hq
        dsimp only [Option.toList, List.cons_append, List.nil_append]
        have l53 := b2_lt ((nI 1).toInt ≤ z.toInt ∧ z.toInt ≤ (nI 200).toInt)
        refine rN_if_ne (tg := 61) (pq := 59) C dX12_law_56 (by decide) rfl (by omega) (fun c56 => ?_) (fun c56 => absurd c56 (b2_1.mpr ((in_b (by omega) (by omega)).mpr (h5 (by omega)))))
        exact fin
      · refine r_iload_n (pq := 41) C dX12_law_40 rfl rfl ?_
        refine r_bipush (v := nI 10) (pq := 43) C dX12_law_41 (by decide) rfl ?_
        refine rN_idiv (pq := 44) C dX12_law_43 (by omega) (by omega) (by omega) rfl ?_
        refine r_iconst (v := nI 2) (pq := 45) C dX12_law_44 (by decide) rfl ?_
        refine rN_icmp_ne (tg := 61) (pq := 48) C dX12_law_45 (by decide) rfl (by omega) (by omega) (fun c45 => ?_) (fun c45 => ?_)
        · exact fin
        · refine r_iload_n (pq := 49) C dX12_law_48 rfl rfl ?_
          refine r_iconst (v := nI 1) (pq := 50) C dX12_law_49 (by decide) rfl ?_
          refine r_sipush (v := nI 200) (pq := 53) C dX12_law_50 (by decide) rfl ?_
          refine r_callS (pq := 56) C (mc_X12_in) gX12_law_X12_in rfl (na := 3) (by decide +kernel) rfl (by decide) (by decide) (Nat.le_of_ble_eq_true rfl) ⟨Nat.zero_le _, Nat.zero_le _⟩ dX12_law_53 rfl rfl (fun r9 w9 hq => ?_)
          obtain ⟨rfl, rfl⟩ := hq
          dsimp only [Option.toList, List.cons_append, List.nil_append]
          have l53 := b2_lt ((nI 1).toInt ≤ z.toInt ∧ z.toInt ≤ (nI 200).toInt)
          refine rN_if_ne (tg := 61) (pq := 59) C dX12_law_56 (by decide) rfl (by omega) (fun c56 => ?_) (fun c56 => absurd c56 (b2_1.mpr ((in_b (by omega) (by omega)).mpr (h5 (by omega)))))
          exact fin
    · refine r_iload_n (pq := 1) C dX12_law_0 rfl rfl ?_
      refine rN_if_lt (tg := 59) (pq := 4) C dX12_law_1 (by decide) rfl (by omega) ?_
      refine r_iload_n (pq := 5) C dX12_law_4 rfl rfl ?_
      refine r_bipush (v := nI 10) (pq := 7) C dX12_law_5 (by decide) rfl ?_
      refine rN_idiv (pq := 8) C dX12_law_7 (by omega) (by omega) (by omega) rfl ?_
      refine r_iconst (v := nI 3) (pq := 9) C dX12_law_8 (by decide) rfl ?_
      refine rN_icmp_gt (tg := 59) (pq := 12) C dX12_law_9 (by decide) rfl (by omega) (by omega) (fun c9 => ?_) (fun c9 => ?_)
      · refine r_iconst (v := (-1)) (pq := 60) C dX12_law_59 (by decide) rfl ?_
        refine r_iret C D rfl ⟨Nat.le_refl _, Nat.le_refl _⟩ dX12_law_60 ?_
        refine ⟨?_, (I, f, g), rfl, hB, ?_⟩
        · unfold rs_law
          rw [if_neg hok]
        · unfold nx_law
          rw [if_neg (fun h => hok h.1)]
          exact EQ_rfl _
      · refine r_iload_n (pq := 13) C dX12_law_12 rfl rfl ?_
        refine r_bipush (v := nI 10) (pq := 15) C dX12_law_13 (by decide) rfl ?_
        refine rN_irem (pq := 16) C dX12_law_15 (by omega) (by omega) (by omega) rfl ?_
        refine r_callS (pq := 19) C (mc_X12_isLand) gX12_law_X12_isLand rfl (na := 1) (by decide +kernel) rfl (by decide) (by decide) (Nat.le_of_ble_eq_true rfl) ⟨Nat.zero_le _, Nat.zero_le _⟩ dX12_law_16 rfl rfl (fun r9 w9 hq => ?_)
        obtain ⟨rfl, rfl⟩ := hq
        dsimp only [Option.toList, List.cons_append, List.nil_append]
        have l16 := b2_lt (rg (nI (t % 10)) 8)
        refine rN_if_eq (tg := 59) (pq := 22) C dX12_law_19 (by decide) rfl (by omega) (fun c19 => ?_) (fun c19 => ?_)
        · refine r_iconst (v := (-1)) (pq := 60) C dX12_law_59 (by decide) rfl ?_
          refine r_iret C D rfl ⟨Nat.le_refl _, Nat.le_refl _⟩ dX12_law_60 ?_
          refine ⟨?_, (I, f, g), rfl, hB, ?_⟩
          · unfold rs_law
            rw [if_neg hok]
          · unfold nx_law
            rw [if_neg (fun h => hok h.1)]
            exact EQ_rfl _
        · refine r_iload_n (pq := 23) C dX12_law_22 rfl rfl ?_
          refine r_iconst (v := nI 0) (pq := 24) C dX12_law_23 (by decide) rfl ?_
          refine r_sipush (v := nI 200) (pq := 27) C dX12_law_24 (by decide) rfl ?_
          refine r_callS (pq := 30) C (mc_X12_in) gX12_law_X12_in rfl (na := 3) (by decide +kernel) rfl (by decide) (by decide) (Nat.le_of_ble_eq_true rfl) ⟨Nat.zero_le _, Nat.zero_le _⟩ dX12_law_27 rfl rfl (fun r9 w9 hq => ?_)
          obtain ⟨rfl, rfl⟩ := hq
          dsimp only [Option.toList, List.cons_append, List.nil_append]
          have l27 := b2_lt ((nI 0).toInt ≤ y.toInt ∧ y.toInt ≤ (nI 200).toInt)
          refine rN_if_eq (tg := 59) (pq := 33) C dX12_law_30 (by decide) rfl (by omega) (fun c30 => ?_) (fun c30 => ?_)
          · refine r_iconst (v := (-1)) (pq := 60) C dX12_law_59 (by decide) rfl ?_
            refine r_iret C D rfl ⟨Nat.le_refl _, Nat.le_refl _⟩ dX12_law_60 ?_
            refine ⟨?_, (I, f, g), rfl, hB, ?_⟩
            · unfold rs_law
              rw [if_neg hok]
            · unfold nx_law
              rw [if_neg (fun h => hok h.1)]
              exact EQ_rfl _
          · refine r_iload_n (pq := 34) C dX12_law_33 rfl rfl ?_
            refine r_bipush (v := nI 10) (pq := 36) C dX12_law_34 (by decide) rfl ?_
            refine rN_idiv (pq := 37) C dX12_law_36 (by omega) (by omega) (by omega) rfl ?_
            refine rN_if_eq (tg := 48) (pq := 40) C dX12_law_37 (by decide) rfl (by omega) (fun c37 => ?_) (fun c37 => ?_)
            · refine r_iload_n (pq := 49) C dX12_law_48 rfl rfl ?_
              refine r_iconst (v := nI 1) (pq := 50) C dX12_law_49 (by decide) rfl ?_
              refine r_sipush (v := nI 200) (pq := 53) C dX12_law_50 (by decide) rfl ?_
              refine r_callS (pq := 56) C (mc_X12_in) gX12_law_X12_in rfl (na := 3) (by decide +kernel) rfl (by decide) (by decide) (Nat.le_of_ble_eq_true rfl) ⟨Nat.zero_le _, Nat.zero_le _⟩ dX12_law_53 rfl rfl (fun r9 w9 hq => ?_)
              obtain ⟨rfl, rfl⟩ := hq
              dsimp only [Option.toList, List.cons_append, List.nil_append]
              have l53 := b2_lt ((nI 1).toInt ≤ z.toInt ∧ z.toInt ≤ (nI 200).toInt)
              refine rN_if_ne (tg := 61) (pq := 59) C dX12_law_56 (by decide) rfl (by omega) (fun c56 => ?_) (fun c56 => ?_)
              · refine absurd (show okLaw (nI t) y z from ⟨ht, by rw [tn_nI ht2]; omega, by rw [tn_nI ht2]; exact (rg_nI (by omega)).mp (b2_1.mp c19), (in_b (a := 0) (b := 200) (by omega) (by omega)).mp (b2_1.mp c30), fun hk => ?_⟩) hok
                rw [tn_nI ht2] at hk
                first | exact (in_b (a := 1) (b := 200) (by omega) (by omega)).mp (b2_1.mp c56) | omega
              · refine r_iconst (v := (-1)) (pq := 60) C dX12_law_59 (by decide) rfl ?_
                refine r_iret C D rfl ⟨Nat.le_refl _, Nat.le_refl _⟩ dX12_law_60 ?_
                refine ⟨?_, (I, f, g), rfl, hB, ?_⟩
                · unfold rs_law
                  rw [if_neg hok]
                · unfold nx_law
                  rw [if_neg (fun h => hok h.1)]
                  exact EQ_rfl _
            · refine r_iload_n (pq := 41) C dX12_law_40 rfl rfl ?_
              refine r_bipush (v := nI 10) (pq := 43) C dX12_law_41 (by decide) rfl ?_
              refine rN_idiv (pq := 44) C dX12_law_43 (by omega) (by omega) (by omega) rfl ?_
              refine r_iconst (v := nI 2) (pq := 45) C dX12_law_44 (by decide) rfl ?_
              refine rN_icmp_ne (tg := 61) (pq := 48) C dX12_law_45 (by decide) rfl (by omega) (by omega) (fun c45 => ?_) (fun c45 => ?_)
              · refine absurd (show okLaw (nI t) y z from ⟨ht, by rw [tn_nI ht2]; omega, by rw [tn_nI ht2]; exact (rg_nI (by omega)).mp (b2_1.mp c19), (in_b (a := 0) (b := 200) (by omega) (by omega)).mp (b2_1.mp c30), fun hk => ?_⟩) hok
                rw [tn_nI ht2] at hk
                first | exact (in_b (a := 1) (b := 200) (by omega) (by omega)).mp (b2_1.mp c56) | omega
              · refine r_iload_n (pq := 49) C dX12_law_48 rfl rfl ?_
                refine r_iconst (v := nI 1) (pq := 50) C dX12_law_49 (by decide) rfl ?_
                refine r_sipush (v := nI 200) (pq := 53) C dX12_law_50 (by decide) rfl ?_
                refine r_callS (pq := 56) C (mc_X12_in) gX12_law_X12_in rfl (na := 3) (by decide +kernel) rfl (by decide) (by decide) (Nat.le_of_ble_eq_true rfl) ⟨Nat.zero_le _, Nat.zero_le _⟩ dX12_law_53 rfl rfl (fun r9 w9 hq => ?_)
                obtain ⟨rfl, rfl⟩ := hq
                dsimp only [Option.toList, List.cons_append, List.nil_append]
                have l53 := b2_lt ((nI 1).toInt ≤ z.toInt ∧ z.toInt ≤ (nI 200).toInt)
                refine rN_if_ne (tg := 61) (pq := 59) C dX12_law_56 (by decide) rfl (by omega) (fun c56 => ?_) (fun c56 => ?_)
                · refine absurd (show okLaw (nI t) y z from ⟨ht, by rw [tn_nI ht2]; omega, by rw [tn_nI ht2]; exact (rg_nI (by omega)).mp (b2_1.mp c19), (in_b (a := 0) (b := 200) (by omega) (by omega)).mp (b2_1.mp c30), fun hk => ?_⟩) hok
                  rw [tn_nI ht2] at hk
                  first | exact (in_b (a := 1) (b := 200) (by omega) (by omega)).mp (b2_1.mp c56) | omega
                · refine r_iconst (v := (-1)) (pq := 60) C dX12_law_59 (by decide) rfl ?_
                  refine r_iret C D rfl ⟨Nat.le_refl _, Nat.le_refl _⟩ dX12_law_60 ?_
                  refine ⟨?_, (I, f, g), rfl, hB, ?_⟩
                  · unfold rs_law
                    rw [if_neg hok]
                  · unfold nx_law
                    rw [if_neg (fun h => hok h.1)]
                    exact EQ_rfl _
  · refine r_iload_n (pq := 1) C dX12_law_0 rfl rfl ?_
    refine r_if_lt (tg := 59) (pq := 4) C dX12_law_1 (by decide) rfl (fun c1 => ?_) (fun c1 => absurd (show x < 0 by rw [lt_i]; have e0 : (0 : Int32).toInt = 0 := rfl; omega) c1)
    refine r_iconst (v := (-1)) (pq := 60) C dX12_law_59 (by decide) rfl ?_
    refine r_iret C D rfl ⟨Nat.le_refl _, Nat.le_refl _⟩ dX12_law_60 ?_
    refine ⟨?_, (I, f, g), rfl, hB, ?_⟩
    · unfold rs_law
      rw [if_neg (fun h => ht h.1)]
    · unfold nx_law
      rw [if_neg (fun h => ht h.1.1)]
      exact EQ_rfl _

theorem kp_congr {k n l wd d : Nat} {c c' : Nat → Nat} (h : ∀ i, i < d + 1 → c i = c' i) : kp k n l wd c d = kp k n l wd c' d := by
  unfold kp
  rw [lqc (n := d + 1) h, mqc (n := d + 1) h, lqc (n := d - n) (fun i hi => h i (by omega)), mqc (n := d - n) (fun i hi => h i (by omega))]
  by_cases e : wd = 0
  · subst e
    rw [Nat.sub_zero, lqc (n := d + 1) h, mqc (n := d + 1) h]
  · rw [lqc (n := d + 1 - wd) (fun i hi => h i (by omega)), mqc (n := d + 1 - wd) (fun i hi => h i (by omega))]
theorem lwOK_lay {f f1 : Nat → Nat → Nat} {g : Nat → Nat → Int32} {j : Nat} (h : ∀ k, k ≠ 12 → k ≠ 13 → k ≠ 14 → f1 k = f k) (hK : lwOK f g j) : lwOK f1 g j := by
  unfold lwOK
  rw [h 17 (by decide) (by decide) (by decide), h 18 (by decide) (by decide) (by decide), h 19 (by decide) (by decide) (by decide)]
  exact hK
theorem kj_lay {I : Nat → Nat} {f f1 : Nat → Nat → Nat} {g : Nat → Nat → Int32} {j d p : Nat} (h : ∀ k, k ≠ 12 → k ≠ 13 → k ≠ 14 → f1 k = f k) (hc : ∀ i, i < 400 → f1 12 i = cn f (I 5) p i) (hd : d < 400) : kp (f1 17 j) (f1 19 j) (f1 18 j) (tn (g 20 j)) (f1 12) d = kj (I, f, g) j (cr (I, f, g) p) d := by
  unfold kj
  rw [h 17 (by decide) (by decide) (by decide), h 18 (by decide) (by decide) (by decide), h 19 (by decide) (by decide) (by decide)]
  exact kp_congr (fun i hi => hc i (by omega))
theorem fst_ge (h : Nat → Nat) (v : Nat) : ∀ t d, d ≤ fst h v t d ∧ fst h v t d ≤ d + t
  | 0, d => ⟨Nat.le_refl _, Nat.le_refl _⟩
  | t + 1, d => by
    have ih := fst_ge h v t (d + 1)
    unfold fst
    split
    · omega
    · omega
theorem fst_none (h : Nat → Nat) (v : Nat) : ∀ t d, fst h v t d = d + t ↔ ∀ e, d ≤ e → e < d + t → ¬ h e < v
  | 0, d => ⟨fun _ e h1 h2 => by omega, fun _ => rfl⟩
  | t + 1, d => by
    have ih := fst_none h v t (d + 1)
    unfold fst
    split
    · rename_i hc
      exact ⟨fun q => by omega, fun q => absurd hc (q d (Nat.le_refl d) (by omega))⟩
    · rename_i hc
      rw [show d + (t + 1) = d + 1 + t by omega, ih]
      constructor
      · intro q e h1 h2
        rcases Nat.lt_or_ge d e with z | z
        · exact q e (by omega) h2
        · rw [show e = d by omega]; exact hc
      · intro q e h1 h2
        exact q e (by omega) h2

set_option maxHeartbeats 4000000 in
set_option maxRecDepth 100000 in
/-- kept -/
theorem mc_X12_kept {l : Launch} {E : EV} {A : Nat → Nat} {w0 : RW} {I : Nat → Nat} {f : Nat → Nat → Nat} {g : Nat → Nat → Int32} (hS : SI (I, f, g)) {x y z : Int32} : MC l E yX12_kept wsX12_kept 3 0 0 [.ref (A 0), .int x, .int y, .int z] (WM E A w0 I f g) (mP E A w0 (rs_kept (I, f, g) x y z) ((I, f, g))) := by
  refine MC.enter (cc := cX12_kept) (maxL := 4) (ret := (some .int)) (lv0 := [some (.ref (A 0)), some (.int x), some (.int y), some (.int z)]) (by decide) rfl (by simp [Value.category]) (Nat.le_of_ble_eq_true rfl) rfl ?_
  intro X hl hE C D
  subst hl
  subst hE
  have hB : mOK I f := hS.1
  by_cases hok : okKept (I, f, g) x y z
  · have hP6 : I 1 ≤ 6 := hS.2.1
    have hM : I 5 ≤ 80 := hS.2.2.1
    have hL12 : I 16 ≤ 12 := hS.2.2.2.1
    obtain ⟨j, hj, rfl⟩ := rg_of hok.1 (by show I 16 < _; omega)
    obtain ⟨p, hp, rfl⟩ := rg_of hok.2.1 (by show I 1 < _; omega)
    obtain ⟨a, ha, rfl⟩ := rg_of hok.2.2 (by omega)
    change j < I 16 at hj
    change p < I 1 at hp
    have hK : lwOK f g j := hS.2.2.2.2.2.2.1 j hj
    refine r_aload_n (pq := 1) C dX12_kept_0 rfl rfl ?_
    refine r_iload_n (pq := 2) C dX12_kept_1 rfl rfl ?_
    refine r_callV (pq := 5) C (mc_X12_isLaw hB) (WM_obj _ _ _ _ _ _) rfl gX12_kept_X12_isLaw rfl (na := 1) (by decide +kernel) rfl (by decide) (by decide) (Nat.le_of_ble_eq_true rfl) ⟨Nat.zero_le _, Nat.zero_le _⟩ dX12_kept_2 rfl rfl (fun r9 w9 hq => ?_)
    obtain ⟨rfl, rfl⟩ := hq
    dsimp only [Option.toList, List.cons_append, List.nil_append]
    have l2 := b2_lt (rg (nI j) (I 16))
    refine rN_if_eq (tg := 23) (pq := 8) C dX12_kept_5 (by decide) rfl (by omega) (fun c5 => absurd c5 (b2_1.mpr (hok.1))) (fun c5 => ?_)
    refine r_aload_n (pq := 9) C dX12_kept_8 rfl rfl ?_
    refine r_iload_n (pq := 10) C dX12_kept_9 rfl rfl ?_
    refine r_callV (pq := 13) C (mc_X12_isPerson hB) (WM_obj _ _ _ _ _ _) rfl gX12_kept_X12_isPerson rfl (na := 1) (by decide +kernel) rfl (by decide) (by decide) (Nat.le_of_ble_eq_true rfl) ⟨Nat.zero_le _, Nat.zero_le _⟩ dX12_kept_10 rfl rfl (fun r9 w9 hq => ?_)
    obtain ⟨rfl, rfl⟩ := hq
    dsimp only [Option.toList, List.cons_append, List.nil_append]
    have l10 := b2_lt (rg (nI p) (I 1))
    refine rN_if_eq (tg := 23) (pq := 16) C dX12_kept_13 (by decide) rfl (by omega) (fun c13 => absurd c13 (b2_1.mpr (hok.2.1))) (fun c13 => ?_)
    refine r_iload_n (pq := 17) C dX12_kept_16 rfl rfl ?_
    refine r_callS (pq := 20) C (mc_X12_isDay) gX12_kept_X12_isDay rfl (na := 1) (by decide +kernel) rfl (by decide) (by decide) (Nat.le_of_ble_eq_true rfl) ⟨Nat.zero_le _, Nat.zero_le _⟩ dX12_kept_17 rfl rfl (fun r9 w9 hq => ?_)
    obtain ⟨rfl, rfl⟩ := hq
    dsimp only [Option.toList, List.cons_append, List.nil_append]
    have l17 := b2_lt (rg (nI a) 400)
    refine rN_if_ne (tg := 25) (pq := 23) C dX12_kept_20 (by decide) rfl (by omega) (fun c20 => ?_) (fun c20 => absurd c20 (b2_1.mpr (hok.2.2)))
    refine r_aload_n (pq := 26) C dX12_kept_25 rfl rfl ?_
    refine r_iload_n (pq := 27) C dX12_kept_26 rfl rfl ?_
    refine r_callV (pq := 30) C (mc_X12_lay hB hM (by omega)) (WM_obj _ _ _ _ _ _) rfl gX12_kept_X12_lay rfl (na := 1) (by decide +kernel) rfl (by decide) (by decide) (Nat.le_of_ble_eq_true rfl) ⟨Nat.zero_le _, Nat.zero_le _⟩ dX12_kept_27 rfl rfl (fun r9 w9 hq => ?_)
    obtain ⟨rfl, f1, rfl, hB1, hk1, hc1, hl1⟩ := hq
    dsimp only [Option.toList, List.cons_append, List.nil_append]
    refine r_aload_n (pq := 31) C dX12_kept_30 rfl rfl ?_
    refine r_iload_n (pq := 32) C dX12_kept_31 rfl rfl ?_
    refine r_iload_n (pq := 33) C dX12_kept_32 rfl rfl ?_
    refine r_callV (pq := 36) C (mc_X12_keptOn hB1 (by omega) (lwOK_lay hk1 hK) hl1 ha) (WM_obj _ _ _ _ _ _) rfl gX12_kept_X12_keptOn rfl (na := 2) (by decide +kernel) rfl (by decide) (by decide) (Nat.le_of_ble_eq_true rfl) ⟨Nat.zero_le _, Nat.zero_le _⟩ dX12_kept_33 rfl rfl (fun r9 w9 hq => ?_)
    obtain ⟨rfl, rfl⟩ := hq
    dsimp only [Option.toList, List.cons_append, List.nil_append]
    refine r_iret C D rfl ⟨Nat.le_refl _, Nat.le_refl _⟩ dX12_kept_36 ?_
    refine ⟨?_, (_, _, _), rfl, hB1, EQ_lay hk1⟩
    unfold rs_kept
    rw [if_pos hok, tn_nI (by omega), tn_nI (by omega), tn_nI (by omega), kj_lay (I := I) hk1 hc1 ha]
  · have hbad := hok
    refine r_aload_n (pq := 1) C dX12_kept_0 rfl rfl ?_
    refine r_iload_n (pq := 2) C dX12_kept_1 rfl rfl ?_
    refine r_callV (pq := 5) C (mc_X12_isLaw hB) (WM_obj _ _ _ _ _ _) rfl gX12_kept_X12_isLaw rfl (na := 1) (by decide +kernel) rfl (by decide) (by decide) (Nat.le_of_ble_eq_true rfl) ⟨Nat.zero_le _, Nat.zero_le _⟩ dX12_kept_2 rfl rfl (fun r9 w9 hq => ?_)
    obtain ⟨rfl, rfl⟩ := hq
    dsimp only [Option.toList, List.cons_append, List.nil_append]
    have l2 := b2_lt (rg x (I 16))
    refine rN_if_eq (tg := 23) (pq := 8) C dX12_kept_5 (by decide) rfl (by omega) (fun c5 => ?_) (fun c5 => ?_)
    · refine r_iconst (v := (-1)) (pq := 24) C dX12_kept_23 (by decide) rfl ?_
      refine r_iret C D rfl ⟨Nat.le_refl _, Nat.le_refl _⟩ dX12_kept_24 ?_
      refine ⟨?_, (I, f, g), rfl, hB, ?_⟩
      · unfold rs_kept
        rw [if_neg hbad]
      · exact EQ_rfl _
    · refine r_aload_n (pq := 9) C dX12_kept_8 rfl rfl ?_
      refine r_iload_n (pq := 10) C dX12_kept_9 rfl rfl ?_
      refine r_callV (pq := 13) C (mc_X12_isPerson hB) (WM_obj _ _ _ _ _ _) rfl gX12_kept_X12_isPerson rfl (na := 1) (by decide +kernel) rfl (by decide) (by decide) (Nat.le_of_ble_eq_true rfl) ⟨Nat.zero_le _, Nat.zero_le _⟩ dX12_kept_10 rfl rfl (fun r9 w9 hq => ?_)
      obtain ⟨rfl, rfl⟩ := hq
      dsimp only [Option.toList, List.cons_append, List.nil_append]
      have l10 := b2_lt (rg y (I 1))
      refine rN_if_eq (tg := 23) (pq := 16) C dX12_kept_13 (by decide) rfl (by omega) (fun c13 => ?_) (fun c13 => ?_)
      · refine r_iconst (v := (-1)) (pq := 24) C dX12_kept_23 (by decide) rfl ?_
        refine r_iret C D rfl ⟨Nat.le_refl _, Nat.le_refl _⟩ dX12_kept_24 ?_
        refine ⟨?_, (I, f, g), rfl, hB, ?_⟩
        · unfold rs_kept
          rw [if_neg hbad]
        · exact EQ_rfl _
      · refine r_iload_n (pq := 17) C dX12_kept_16 rfl rfl ?_
        refine r_callS (pq := 20) C (mc_X12_isDay) gX12_kept_X12_isDay rfl (na := 1) (by decide +kernel) rfl (by decide) (by decide) (Nat.le_of_ble_eq_true rfl) ⟨Nat.zero_le _, Nat.zero_le _⟩ dX12_kept_17 rfl rfl (fun r9 w9 hq => ?_)
        obtain ⟨rfl, rfl⟩ := hq
        dsimp only [Option.toList, List.cons_append, List.nil_append]
        have l17 := b2_lt (rg z 400)
        refine rN_if_ne (tg := 25) (pq := 23) C dX12_kept_20 (by decide) rfl (by omega) (fun c20 => ?_) (fun c20 => ?_)
        · exact absurd ⟨b2_1.mp c5, b2_1.mp c13, b2_1.mp c20⟩ hbad
        · refine r_iconst (v := (-1)) (pq := 24) C dX12_kept_23 (by decide) rfl ?_
          refine r_iret C D rfl ⟨Nat.le_refl _, Nat.le_refl _⟩ dX12_kept_24 ?_
          refine ⟨?_, (I, f, g), rfl, hB, ?_⟩
          · unfold rs_kept
            rw [if_neg hbad]
          · exact EQ_rfl _

set_option maxHeartbeats 4000000 in
set_option maxRecDepth 100000 in
/-- first -/
theorem mc_X12_first {l : Launch} {E : EV} {A : Nat → Nat} {w0 : RW} {I : Nat → Nat} {f : Nat → Nat → Nat} {g : Nat → Nat → Int32} (hS : SI (I, f, g)) {x y z : Int32} {u9 : Nat} (hu9 : u9 < 2) : MC l E yX12_first wsX12_first 3 0 0 [.ref (A 0), .int x, .int y, .int z, .int (nI u9)] (WM E A w0 I f g) (mP E A w0 (rs_first (I, f, g) x y z u9) ((I, f, g))) := by
  refine MC.enter (cc := cX12_first) (maxL := 6) (ret := (some .int)) (lv0 := [some (.ref (A 0)), some (.int x), some (.int y), some (.int z), some (.int (nI u9)), none]) (by decide) rfl (by simp [Value.category]) (Nat.le_of_ble_eq_true rfl) rfl ?_
  intro X hl hE C D
  subst hl
  subst hE
  have hB : mOK I f := hS.1
  by_cases hok : okKept (I, f, g) x y z
  · have hP6 : I 1 ≤ 6 := hS.2.1
    have hM : I 5 ≤ 80 := hS.2.2.1
    have hL12 : I 16 ≤ 12 := hS.2.2.2.1
    obtain ⟨j, hj, rfl⟩ := rg_of hok.1 (by show I 16 < _; omega)
    obtain ⟨p, hp, rfl⟩ := rg_of hok.2.1 (by show I 1 < _; omega)
    obtain ⟨a, ha, rfl⟩ := rg_of hok.2.2 (by omega)
    change j < I 16 at hj
    change p < I 1 at hp
    have hK : lwOK f g j := hS.2.2.2.2.2.2.1 j hj
    have hfst : ∀ (f1 : Nat → Nat → Nat), mOK I f1 → (∀ k, k ≠ 12 → k ≠ 13 → k ≠ 14 → f1 k = f k) → (∀ i, i < 400 → f1 12 i = cn f (I 5) p i) → LY f1 → ∀ (t d : Nat), a ≤ d → d ≤ 400 → 400 - d < t → fst (kj (I, f, g) j (cr (I, f, g) p)) (if u9 = 0 then 2 else 1) (400 - a) a = fst (kj (I, f, g) j (cr (I, f, g) p)) (if u9 = 0 then 2 else 1) (400 - d) d → GG X (WM (xE X) A w0 I f1 g) 0 0 33 [some (.ref (A 0)), some (.int (nI j)), some (.int (nI p)), some (.int (nI a)), some (.int (nI u9)), some (.int (nI d))] [] := by
      intro f1 hB1 hk1 hc1 hl1 t
      induction t with
      | zero => intro d h1 h2 h3; omega
      | succ t ih =>
        intro d hd1 hd2 ht hfs
        refine r_iload (pq := 35) C dX12_first_33 rfl rfl ?_
        refine r_sipush (v := nI 400) (pq := 38) C dX12_first_35 (by decide) rfl ?_
        refine rN_icmp_ge (tg := 70) (pq := 41) C dX12_first_38 (by decide) rfl (by omega) (by omega) (fun c38 => ?_) (fun c38 => ?_)
        · refine r_bipush (v := (-2)) (pq := 72) C dX12_first_70 (by decide) rfl ?_
          refine r_iret C D rfl ⟨Nat.le_refl _, Nat.le_refl _⟩ dX12_first_72 ?_
          refine ⟨?_, (_, _, _), rfl, hB1, EQ_lay hk1⟩
          have e9 : fst (kj (I, f, g) j (cr (I, f, g) p)) (if u9 = 0 then 2 else 1) (400 - a) a = 400 := by
            rw [hfs, show d = 400 by omega]
            rfl
          unfold rs_first
          rw [if_pos hok, tn_nI (by omega), tn_nI (by omega), tn_nI (by omega), e9, if_pos rfl]
        · refine r_aload_n (pq := 42) C dX12_first_41 rfl rfl ?_
          refine r_iload_n (pq := 43) C dX12_first_42 rfl rfl ?_
          refine r_iload (pq := 45) C dX12_first_43 rfl rfl ?_
          refine r_callV (pq := 48) C (mc_X12_keptOn hB1 (by omega) (lwOK_lay hk1 hK) hl1 (by omega)) (WM_obj _ _ _ _ _ _) rfl gX12_first_X12_keptOn rfl (na := 2) (by decide +kernel) rfl (by decide) (by decide) (Nat.le_of_ble_eq_true rfl) ⟨Nat.zero_le _, Nat.zero_le _⟩ dX12_first_45 rfl rfl (fun r9 w9 hq => ?_)
          obtain ⟨rfl, rfl⟩ := hq
          dsimp only [Option.toList, List.cons_append, List.nil_append]
          simp only [kj_lay (I := I) (j := j) hk1 hc1 (show d < 400 by omega)]
          have z1 : kj (I, f, g) j (cr (I, f, g) p) d ≤ 2 := kp_le _ _ _ _ _ _
          refine r_iload (pq := 50) C dX12_first_48 rfl rfl ?_
          refine rN_if_eq (tg := 57) (pq := 53) C dX12_first_50 (by decide) rfl (by omega) (fun c50 => ?_) (fun c50 => ?_)
          · refine r_iconst (v := nI 2) (pq := 58) C dX12_first_57 (by decide) rfl ?_
            refine rN_icmp_ge (tg := 64) (pq := 61) C dX12_first_58 (by decide) rfl (by omega) (by omega) (fun c58 => ?_) (fun c58 => ?_)
            · refine rN_iinc (c := 1) (pq := 67) C dX12_first_64 rfl (by decide) (by decide) rfl rfl ?_
              dsimp only [List.set]
              refine r_goto (tg := 33) C dX12_first_67 (by decide) ?_
              refine ih (d + 1) (by omega) (by omega) (by omega) ?_
              rw [hfs, show 400 - d = (400 - (d + 1)) + 1 by omega, fst, if_neg (by first | (rw [if_pos c50]; omega) | (rw [if_neg c50]; omega))]
            · refine r_iload (pq := 63) C dX12_first_61 rfl rfl ?_
              refine r_iret C D rfl ⟨Nat.le_refl _, Nat.le_refl _⟩ dX12_first_63 ?_
              refine ⟨?_, (_, _, _), rfl, hB1, EQ_lay hk1⟩
              have e9 : fst (kj (I, f, g) j (cr (I, f, g) p)) (if u9 = 0 then 2 else 1) (400 - a) a = d := by
                rw [hfs, show 400 - d = (400 - (d + 1)) + 1 by omega, fst, if_pos (by first | (rw [if_pos c50]; omega) | (rw [if_neg c50]; omega))]
              unfold rs_first
              rw [if_pos hok, tn_nI (by omega), tn_nI (by omega), tn_nI (by omega), e9, if_neg (by omega)]
          · refine r_iconst (v := nI 1) (pq := 54) C dX12_first_53 (by decide) rfl ?_
            refine r_goto (tg := 58) C dX12_first_54 (by decide) ?_
            refine rN_icmp_ge (tg := 64) (pq := 61) C dX12_first_58 (by decide) rfl (by omega) (by omega) (fun c58 => ?_) (fun c58 => ?_)
            · refine rN_iinc (c := 1) (pq := 67) C dX12_first_64 rfl (by decide) (by decide) rfl rfl ?_
              dsimp only [List.set]
              refine r_goto (tg := 33) C dX12_first_67 (by decide) ?_
              refine ih (d + 1) (by omega) (by omega) (by omega) ?_
              rw [hfs, show 400 - d = (400 - (d + 1)) + 1 by omega, fst, if_neg (by first | (rw [if_pos c50]; omega) | (rw [if_neg c50]; omega))]
            · refine r_iload (pq := 63) C dX12_first_61 rfl rfl ?_
              refine r_iret C D rfl ⟨Nat.le_refl _, Nat.le_refl _⟩ dX12_first_63 ?_
              refine ⟨?_, (_, _, _), rfl, hB1, EQ_lay hk1⟩
              have e9 : fst (kj (I, f, g) j (cr (I, f, g) p)) (if u9 = 0 then 2 else 1) (400 - a) a = d := by
                rw [hfs, show 400 - d = (400 - (d + 1)) + 1 by omega, fst, if_pos (by first | (rw [if_pos c50]; omega) | (rw [if_neg c50]; omega))]
              unfold rs_first
              rw [if_pos hok, tn_nI (by omega), tn_nI (by omega), tn_nI (by omega), e9, if_neg (by omega)]
    refine r_aload_n (pq := 1) C dX12_first_0 rfl rfl ?_
    refine r_iload_n (pq := 2) C dX12_first_1 rfl rfl ?_
    refine r_callV (pq := 5) C (mc_X12_isLaw hB) (WM_obj _ _ _ _ _ _) rfl gX12_first_X12_isLaw rfl (na := 1) (by decide +kernel) rfl (by decide) (by decide) (Nat.le_of_ble_eq_true rfl) ⟨Nat.zero_le _, Nat.zero_le _⟩ dX12_first_2 rfl rfl (fun r9 w9 hq => ?_)
    obtain ⟨rfl, rfl⟩ := hq
    dsimp only [Option.toList, List.cons_append, List.nil_append]
    have l2 := b2_lt (rg (nI j) (I 16))
    refine rN_if_eq (tg := 23) (pq := 8) C dX12_first_5 (by decide) rfl (by omega) (fun c5 => absurd c5 (b2_1.mpr (hok.1))) (fun c5 => ?_)
    refine r_aload_n (pq := 9) C dX12_first_8 rfl rfl ?_
    refine r_iload_n (pq := 10) C dX12_first_9 rfl rfl ?_
    refine r_callV (pq := 13) C (mc_X12_isPerson hB) (WM_obj _ _ _ _ _ _) rfl gX12_first_X12_isPerson rfl (na := 1) (by decide +kernel) rfl (by decide) (by decide) (Nat.le_of_ble_eq_true rfl) ⟨Nat.zero_le _, Nat.zero_le _⟩ dX12_first_10 rfl rfl (fun r9 w9 hq => ?_)
    obtain ⟨rfl, rfl⟩ := hq
    dsimp only [Option.toList, List.cons_append, List.nil_append]
    have l10 := b2_lt (rg (nI p) (I 1))
    refine rN_if_eq (tg := 23) (pq := 16) C dX12_first_13 (by decide) rfl (by omega) (fun c13 => absurd c13 (b2_1.mpr (hok.2.1))) (fun c13 => ?_)
    refine r_iload_n (pq := 17) C dX12_first_16 rfl rfl ?_
    refine r_callS (pq := 20) C (mc_X12_isDay) gX12_first_X12_isDay rfl (na := 1) (by decide +kernel) rfl (by decide) (by decide) (Nat.le_of_ble_eq_true rfl) ⟨Nat.zero_le _, Nat.zero_le _⟩ dX12_first_17 rfl rfl (fun r9 w9 hq => ?_)
    obtain ⟨rfl, rfl⟩ := hq
    dsimp only [Option.toList, List.cons_append, List.nil_append]
    have l17 := b2_lt (rg (nI a) 400)
    refine rN_if_ne (tg := 25) (pq := 23) C dX12_first_20 (by decide) rfl (by omega) (fun c20 => ?_) (fun c20 => absurd c20 (b2_1.mpr (hok.2.2)))
    refine r_aload_n (pq := 26) C dX12_first_25 rfl rfl ?_
    refine r_iload_n (pq := 27) C dX12_first_26 rfl rfl ?_
    refine r_callV (pq := 30) C (mc_X12_lay hB hM (by omega)) (WM_obj _ _ _ _ _ _) rfl gX12_first_X12_lay rfl (na := 1) (by decide +kernel) rfl (by decide) (by decide) (Nat.le_of_ble_eq_true rfl) ⟨Nat.zero_le _, Nat.zero_le _⟩ dX12_first_27 rfl rfl (fun r9 w9 hq => ?_)
    obtain ⟨rfl, f1, rfl, hB1, hk1, hc1, hl1⟩ := hq
    dsimp only [Option.toList, List.cons_append, List.nil_append]
    refine r_iload_n (pq := 31) C dX12_first_30 rfl rfl ?_
    refine r_istore (j := 5) (pq := 33) C dX12_first_31 rfl (by decide) rfl rfl ?_
    dsimp only [List.set]
    exact hfst f1 hB1 hk1 hc1 hl1 (401 - a) a (Nat.le_refl a) (by omega) (by omega) rfl
  · have hbad := hok
    refine r_aload_n (pq := 1) C dX12_first_0 rfl rfl ?_
    refine r_iload_n (pq := 2) C dX12_first_1 rfl rfl ?_
    refine r_callV (pq := 5) C (mc_X12_isLaw hB) (WM_obj _ _ _ _ _ _) rfl gX12_first_X12_isLaw rfl (na := 1) (by decide +kernel) rfl (by decide) (by decide) (Nat.le_of_ble_eq_true rfl) ⟨Nat.zero_le _, Nat.zero_le _⟩ dX12_first_2 rfl rfl (fun r9 w9 hq => ?_)
    obtain ⟨rfl, rfl⟩ := hq
    dsimp only [Option.toList, List.cons_append, List.nil_append]
    have l2 := b2_lt (rg x (I 16))
    refine rN_if_eq (tg := 23) (pq := 8) C dX12_first_5 (by decide) rfl (by omega) (fun c5 => ?_) (fun c5 => ?_)
    · refine r_iconst (v := (-1)) (pq := 24) C dX12_first_23 (by decide) rfl ?_
      refine r_iret C D rfl ⟨Nat.le_refl _, Nat.le_refl _⟩ dX12_first_24 ?_
      refine ⟨?_, (I, f, g), rfl, hB, ?_⟩
      · unfold rs_first
        rw [if_neg hbad]
      · exact EQ_rfl _
    · refine r_aload_n (pq := 9) C dX12_first_8 rfl rfl ?_
      refine r_iload_n (pq := 10) C dX12_first_9 rfl rfl ?_
      refine r_callV (pq := 13) C (mc_X12_isPerson hB) (WM_obj _ _ _ _ _ _) rfl gX12_first_X12_isPerson rfl (na := 1) (by decide +kernel) rfl (by decide) (by decide) (Nat.le_of_ble_eq_true rfl) ⟨Nat.zero_le _, Nat.zero_le _⟩ dX12_first_10 rfl rfl (fun r9 w9 hq => ?_)
      obtain ⟨rfl, rfl⟩ := hq
      dsimp only [Option.toList, List.cons_append, List.nil_append]
      have l10 := b2_lt (rg y (I 1))
      refine rN_if_eq (tg := 23) (pq := 16) C dX12_first_13 (by decide) rfl (by omega) (fun c13 => ?_) (fun c13 => ?_)
      · refine r_iconst (v := (-1)) (pq := 24) C dX12_first_23 (by decide) rfl ?_
        refine r_iret C D rfl ⟨Nat.le_refl _, Nat.le_refl _⟩ dX12_first_24 ?_
        refine ⟨?_, (I, f, g), rfl, hB, ?_⟩
        · unfold rs_first
          rw [if_neg hbad]
        · exact EQ_rfl _
      · refine r_iload_n (pq := 17) C dX12_first_16 rfl rfl ?_
        refine r_callS (pq := 20) C (mc_X12_isDay) gX12_first_X12_isDay rfl (na := 1) (by decide +kernel) rfl (by decide) (by decide) (Nat.le_of_ble_eq_true rfl) ⟨Nat.zero_le _, Nat.zero_le _⟩ dX12_first_17 rfl rfl (fun r9 w9 hq => ?_)
        obtain ⟨rfl, rfl⟩ := hq
        dsimp only [Option.toList, List.cons_append, List.nil_append]
        have l17 := b2_lt (rg z 400)
        refine rN_if_ne (tg := 25) (pq := 23) C dX12_first_20 (by decide) rfl (by omega) (fun c20 => ?_) (fun c20 => ?_)
        · exact absurd ⟨b2_1.mp c5, b2_1.mp c13, b2_1.mp c20⟩ hbad
        · refine r_iconst (v := (-1)) (pq := 24) C dX12_first_23 (by decide) rfl ?_
          refine r_iret C D rfl ⟨Nat.le_refl _, Nat.le_refl _⟩ dX12_first_24 ?_
          refine ⟨?_, (I, f, g), rfl, hB, ?_⟩
          · unfold rs_first
            rw [if_neg hbad]
          · exact EQ_rfl _

theorem brk_lt (s : ST) (c : Nat → Nat) : ∀ n, brk s c n < 2 ^ n
  | 0 => by simp [brk]
  | n + 1 => by
    have ih := brk_lt s c n
    unfold brk
    apply Nat.or_lt_two_pow
    · rw [Nat.pow_succ]; omega
    · split
      · exact Nat.two_pow_pos _
      · rw [Nat.pow_succ]; have := Nat.two_pow_pos n; omega
theorem pw12 {n : Nat} (h : n ≤ 12) : 2 ^ n ≤ 4096 := Nat.pow_le_pow_right (n := 2) (by decide) h
set_option maxHeartbeats 4000000 in
set_option maxRecDepth 100000 in
/-- broken -/
theorem mc_X12_broken {l : Launch} {E : EV} {A : Nat → Nat} {w0 : RW} {I : Nat → Nat} {f : Nat → Nat → Nat} {g : Nat → Nat → Int32} (hS : SI (I, f, g)) {x : Int32} : MC l E yX12_broken wsX12_broken 3 0 0 [.ref (A 0), .int x] (WM E A w0 I f g) (mP E A w0 (rs_broken (I, f, g) x) ((I, f, g))) := by
  refine MC.enter (cc := cX12_broken) (maxL := 5) (ret := (some .int)) (lv0 := [some (.ref (A 0)), some (.int x), none, none, none]) (by decide) rfl (by simp [Value.category]) (Nat.le_of_ble_eq_true rfl) rfl ?_
  intro X hl hE C D
  subst hl
  subst hE
  have hB : mOK I f := hS.1
  by_cases hok : rg x (I 1)
  · have hP6 : I 1 ≤ 6 := hS.2.1
    have hM : I 5 ≤ 80 := hS.2.2.1
    have hL12 : I 16 ≤ 12 := hS.2.2.2.1
    obtain ⟨p, hp, rfl⟩ := rg_of hok (by omega)
    have hin : ∀ (f1 : Nat → Nat → Nat) (hB1 : mOK I f1) (hk1 : ∀ k, k ≠ 12 → k ≠ 13 → k ≠ 14 → f1 k = f k) (hc1 : ∀ i, i < 400 → f1 12 i = cn f (I 5) p i) (hl1 : LY f1) (j : Nat), j < I 16 → (GG X (WM (xE X) A w0 I f1 g) 0 0 64 [some (.ref (A 0)), some (.int (nI p)), some (.int (nI (brk (I, f, g) (cr (I, f, g) p) (j + 1)))), some (.int (nI j)), some (.int (nI 400))] []) → ∀ (t d B : Nat), d ≤ 400 → 400 - d < t → B = brk (I, f, g) (cr (I, f, g) p) j ||| (if ∀ e, e < d → ¬ kj (I, f, g) j (cr (I, f, g) p) e < 1 then 0 else 2 ^ j) → GG X (WM (xE X) A w0 I f1 g) 0 0 30 [some (.ref (A 0)), some (.int (nI p)), some (.int (nI B)), some (.int (nI j)), some (.int (nI d))] [] := by
      intro f1 hB1 hk1 hc1 hl1 j hj hend t
      induction t with
      | zero => intro d B h1 h2; omega
      | succ t ih =>
        intro d B hd ht hBe
        have hK : lwOK f g j := hS.2.2.2.2.2.2.1 j hj
        have z2 := pw12 (show j ≤ 12 by omega)
        refine r_iload (pq := 32) C dX12_broken_30 rfl rfl ?_
        refine r_sipush (v := nI 400) (pq := 35) C dX12_broken_32 (by decide) rfl ?_
        refine rN_icmp_ge (tg := 64) (pq := 38) C dX12_broken_35 (by decide) rfl (by omega) (by omega) (fun c35 => ?_) (fun c35 => ?_)
        · have e4 : d = 400 := by omega
          subst e4
          have e5 : (if ∀ e, e < 400 → ¬ kj (I, f, g) j (cr (I, f, g) p) e < 1 then 0 else 2 ^ j) = (if fst (kj (I, f, g) j (cr (I, f, g) p)) 1 400 0 = 400 then 0 else 2 ^ j) := by
            have q1 := fst_none (kj (I, f, g) j (cr (I, f, g) p)) 1 400 0
            by_cases q : fst (kj (I, f, g) j (cr (I, f, g) p)) 1 400 0 = 400
            · rw [if_pos q, if_pos (fun e he => (q1.mp (by rw [q])) e (Nat.zero_le e) (by omega))]
            · rw [if_neg q, if_neg (fun z => q (by rw [q1.mpr (fun e _ he => z e (by omega))]))]
          rw [hBe, e5]
          exact hend
        · refine r_iload_n (pq := 39) C dX12_broken_38 rfl rfl ?_
          refine r_aload_n (pq := 40) C dX12_broken_39 rfl rfl ?_
          refine r_iload_n (pq := 41) C dX12_broken_40 rfl rfl ?_
          refine r_iload (pq := 43) C dX12_broken_41 rfl rfl ?_
          refine r_callV (pq := 46) C (mc_X12_keptOn hB1 (by omega) (lwOK_lay hk1 hK) hl1 (by omega)) (WM_obj _ _ _ _ _ _) rfl gX12_broken_X12_keptOn rfl (na := 2) (by decide +kernel) rfl (by decide) (by decide) (Nat.le_of_ble_eq_true rfl) ⟨Nat.zero_le _, Nat.zero_le _⟩ dX12_broken_43 rfl rfl (fun r9 w9 hq => ?_)
          obtain ⟨rfl, rfl⟩ := hq
          dsimp only [Option.toList, List.cons_append, List.nil_append]
          simp only [kj_lay (I := I) (j := j) hk1 hc1 (show d < 400 by omega)]
          have z1 : kj (I, f, g) j (cr (I, f, g) p) d ≤ 2 := kp_le _ _ _ _ _ _
          refine rN_if_ne (tg := 55) (pq := 49) C dX12_broken_46 (by decide) rfl (by omega) (fun c46 => ?_) (fun c46 => ?_)
          · refine r_iconst (v := nI 0) (pq := 56) C dX12_broken_55 (by decide) rfl ?_
            refine rN_ior (pq := 57) C dX12_broken_56 rfl ?_
            refine r_istore_n (j := 2) (pq := 58) C dX12_broken_57 rfl (by decide) rfl rfl ?_
            dsimp only [List.set]
            refine rN_iinc (c := 1) (pq := 61) C dX12_broken_58 rfl (by decide) (by decide) rfl rfl ?_
            dsimp only [List.set]
            refine r_goto (tg := 30) C dX12_broken_61 (by decide) ?_
            refine ih (d + 1) _ (by omega) (by omega) ?_
            rw [hBe]
            by_cases q : ∀ e, e < d → ¬ kj (I, f, g) j (cr (I, f, g) p) e < 1
            · rw [if_pos q]
              first
              | (rw [if_neg (fun z => z d (by omega) (by omega)), Nat.or_zero, Nat.one_mul])
              | (rw [if_pos (fun e he => by rcases Nat.lt_or_ge e d with z | z; exact q e z; rw [show e = d by omega]; omega), Nat.or_zero])
            · rw [if_neg q, if_neg (fun z => q (fun e he => z e (by omega)))]
              first
              | rw [Nat.or_zero]
              | rw [Nat.one_mul, Nat.or_assoc, Nat.or_self]
          · refine r_iconst (v := nI 1) (pq := 50) C dX12_broken_49 (by decide) rfl ?_
            refine r_iload_n (pq := 51) C dX12_broken_50 rfl rfl ?_
            refine rN_ishl (pq := 52) C dX12_broken_51 (by omega) (by omega) rfl ?_
            refine r_goto (tg := 56) C dX12_broken_52 (by decide) ?_
            refine rN_ior (pq := 57) C dX12_broken_56 rfl ?_
            refine r_istore_n (j := 2) (pq := 58) C dX12_broken_57 rfl (by decide) rfl rfl ?_
            dsimp only [List.set]
            refine rN_iinc (c := 1) (pq := 61) C dX12_broken_58 rfl (by decide) (by decide) rfl rfl ?_
            dsimp only [List.set]
            refine r_goto (tg := 30) C dX12_broken_61 (by decide) ?_
            refine ih (d + 1) _ (by omega) (by omega) ?_
            rw [hBe]
            by_cases q : ∀ e, e < d → ¬ kj (I, f, g) j (cr (I, f, g) p) e < 1
            · rw [if_pos q]
              first
              | (rw [if_neg (fun z => z d (by omega) (by omega)), Nat.or_zero, Nat.one_mul])
              | (rw [if_pos (fun e he => by rcases Nat.lt_or_ge e d with z | z; exact q e z; rw [show e = d by omega]; omega), Nat.or_zero])
            · rw [if_neg q, if_neg (fun z => q (fun e he => z e (by omega)))]
              first
              | rw [Nat.or_zero]
              | rw [Nat.one_mul, Nat.or_assoc, Nat.or_self]
    have hout : ∀ (f1 : Nat → Nat → Nat) (hB1 : mOK I f1) (hk1 : ∀ k, k ≠ 12 → k ≠ 13 → k ≠ 14 → f1 k = f k) (hc1 : ∀ i, i < 400 → f1 12 i = cn f (I 5) p i) (hl1 : LY f1) (t j : Nat) (v9 : Option Value), j ≤ I 16 → I 16 - j < t → GG X (WM (xE X) A w0 I f1 g) 0 0 19 [some (.ref (A 0)), some (.int (nI p)), some (.int (nI (brk (I, f, g) (cr (I, f, g) p) j))), some (.int (nI j)), v9] [] := by
      intro f1 hB1 hk1 hc1 hl1 t
      induction t with
      | zero => intro j v9 h1 h2; omega
      | succ t ih =>
        intro j v9 hj ht
        refine r_iload_n (pq := 20) C dX12_broken_19 rfl rfl ?_
        refine r_aload_n (pq := 21) C dX12_broken_20 rfl rfl ?_
        refine m_geti (pq := 24) C hB1 16 (by decide) rfl rfl (by decide +kernel) dX12_broken_21 rfl (fun b21 => ?_)
        refine rN_icmp_ge (tg := 70) (pq := 27) C dX12_broken_24 (by decide) rfl (by omega) (by omega) (fun c24 => ?_) (fun c24 => ?_)
        · refine r_iload_n (pq := 71) C dX12_broken_70 rfl rfl ?_
          refine r_iret C D rfl ⟨Nat.le_refl _, Nat.le_refl _⟩ dX12_broken_71 ?_
          refine ⟨?_, (_, _, _), rfl, hB1, EQ_lay hk1⟩
          unfold rs_broken
          rw [if_pos hok, tn_nI (by omega), show j = I 16 by omega]
        · refine r_iconst (v := nI 0) (pq := 28) C dX12_broken_27 (by decide) rfl ?_
          refine r_istore (j := 4) (pq := 30) C dX12_broken_28 rfl (by decide) rfl rfl ?_
          dsimp only [List.set]
          refine hin f1 hB1 hk1 hc1 hl1 j (by omega) ?_ 401 0 _ (by omega) (by omega) (by rw [if_pos (fun e he => absurd he (Nat.not_lt_zero e)), Nat.or_zero])
          refine rN_iinc (c := 1) (pq := 67) C dX12_broken_64 rfl (by decide) (by decide) rfl rfl ?_
          dsimp only [List.set]
          refine r_goto (tg := 19) C dX12_broken_67 (by decide) ?_
          exact ih (j + 1) _ (by omega) (by omega)
    refine r_aload_n (pq := 1) C dX12_broken_0 rfl rfl ?_
    refine r_iload_n (pq := 2) C dX12_broken_1 rfl rfl ?_
    refine r_callV (pq := 5) C (mc_X12_isPerson hB) (WM_obj _ _ _ _ _ _) rfl gX12_broken_X12_isPerson rfl (na := 1) (by decide +kernel) rfl (by decide) (by decide) (Nat.le_of_ble_eq_true rfl) ⟨Nat.zero_le _, Nat.zero_le _⟩ dX12_broken_2 rfl rfl (fun r9 w9 hq => ?_)
    obtain ⟨rfl, rfl⟩ := hq
    dsimp only [Option.toList, List.cons_append, List.nil_append]
    have l2 := b2_lt (rg (nI p) (I 1))
    refine rN_if_ne (tg := 10) (pq := 8) C dX12_broken_5 (by decide) rfl (by omega) (fun c5 => ?_) (fun c5 => absurd c5 (b2_1.mpr (hok)))
    refine r_aload_n (pq := 11) C dX12_broken_10 rfl rfl ?_
    refine r_iload_n (pq := 12) C dX12_broken_11 rfl rfl ?_
    refine r_callV (pq := 15) C (mc_X12_lay hB hM (by omega)) (WM_obj _ _ _ _ _ _) rfl gX12_broken_X12_lay rfl (na := 1) (by decide +kernel) rfl (by decide) (by decide) (Nat.le_of_ble_eq_true rfl) ⟨Nat.zero_le _, Nat.zero_le _⟩ dX12_broken_12 rfl rfl (fun r9 w9 hq => ?_)
    obtain ⟨rfl, f1, rfl, hB1, hk1, hc1, hl1⟩ := hq
    dsimp only [Option.toList, List.cons_append, List.nil_append]
    refine r_iconst (v := nI 0) (pq := 16) C dX12_broken_15 (by decide) rfl ?_
    refine r_istore_n (j := 2) (pq := 17) C dX12_broken_16 rfl (by decide) rfl rfl ?_
    dsimp only [List.set]
    refine r_iconst (v := nI 0) (pq := 18) C dX12_broken_17 (by decide) rfl ?_
    refine r_istore_n (j := 3) (pq := 19) C dX12_broken_18 rfl (by decide) rfl rfl ?_
    dsimp only [List.set]
    exact hout f1 hB1 hk1 hc1 hl1 (I 16 + 1) 0 none (by omega) (by omega)
  · have hbad := hok
    refine r_aload_n (pq := 1) C dX12_broken_0 rfl rfl ?_
    refine r_iload_n (pq := 2) C dX12_broken_1 rfl rfl ?_
    refine r_callV (pq := 5) C (mc_X12_isPerson hB) (WM_obj _ _ _ _ _ _) rfl gX12_broken_X12_isPerson rfl (na := 1) (by decide +kernel) rfl (by decide) (by decide) (Nat.le_of_ble_eq_true rfl) ⟨Nat.zero_le _, Nat.zero_le _⟩ dX12_broken_2 rfl rfl (fun r9 w9 hq => ?_)
    obtain ⟨rfl, rfl⟩ := hq
    dsimp only [Option.toList, List.cons_append, List.nil_append]
    have l2 := b2_lt (rg x (I 1))
    refine rN_if_ne (tg := 10) (pq := 8) C dX12_broken_5 (by decide) rfl (by omega) (fun c5 => ?_) (fun c5 => ?_)
    · exact absurd (b2_1.mp c5) hbad
    · refine r_iconst (v := (-1)) (pq := 9) C dX12_broken_8 (by decide) rfl ?_
      refine r_iret C D rfl ⟨Nat.le_refl _, Nat.le_refl _⟩ dX12_broken_9 ?_
      refine ⟨?_, (I, f, g), rfl, hB, ?_⟩
      · unfold rs_broken
        rw [if_neg hbad]
      · exact EQ_rfl _


/-! ===== the reference: keep, copy ===== -/
theorem okKeep_iff {I : Nat → Nat} {f : Nat → Nat → Nat} {g : Nat → Nat → Int32} {x z : Int32} {w9 : Nat} (hw : w9 < 5) : okKeep (I, f, g) x (nI w9) z ↔ rg x 8 ∧ (w9 = 0 ∨ (w9 = 1 ∧ rg z (I 16)) ∨ (w9 = 2 ∧ rg z (I 5)) ∨ (3 ≤ w9 ∧ rg z (I 1))) := by
  have e1 : (nI w9 = 1) ↔ w9 = 1 := nI_eq (b := 1) (by omega) (by omega)
  have e2 : (nI w9 = 2) ↔ w9 = 2 := nI_eq (b := 2) (by omega) (by omega)
  have e3 : (nI w9 = 3) ↔ w9 = 3 := nI_eq (b := 3) (by omega) (by omega)
  have e4 : (nI w9 = 4) ↔ w9 = 4 := nI_eq (b := 4) (by omega) (by omega)
  unfold okKeep
  rw [e1, e2, e3, e4]
  constructor
  · intro ⟨h1, _, h2, h3, h4⟩
    refine ⟨h1, ?_⟩
    rcases (show w9 = 0 ∨ w9 = 1 ∨ w9 = 2 ∨ w9 = 3 ∨ w9 = 4 by omega) with e | e | e | e | e
    · exact Or.inl e
    · exact Or.inr (Or.inl ⟨e, h2 e⟩)
    · exact Or.inr (Or.inr (Or.inl ⟨e, h3 e⟩))
    · exact Or.inr (Or.inr (Or.inr ⟨by omega, h4 (Or.inl e)⟩))
    · exact Or.inr (Or.inr (Or.inr ⟨by omega, h4 (Or.inr e)⟩))
  · intro ⟨h1, h2⟩
    refine ⟨h1, (rg_nI (by omega)).mpr hw, ?_, ?_, ?_⟩
    · intro e; rcases h2 with q | ⟨q, r⟩ | ⟨q, r⟩ | ⟨q, r⟩
      · omega
      · exact r
      · omega
      · omega
    · intro e; rcases h2 with q | ⟨q, r⟩ | ⟨q, r⟩ | ⟨q, r⟩
      · omega
      · omega
      · exact r
      · omega
    · intro e; rcases h2 with q | ⟨q, r⟩ | ⟨q, r⟩ | ⟨q, r⟩
      · omega
      · omega
      · omega
      · exact r

set_option maxHeartbeats 4000000 in
set_option maxRecDepth 100000 in
/-- keep -/
theorem mc_X12_keep {l : Launch} {E : EV} {A : Nat → Nat} {w0 : RW} {I : Nat → Nat} {f : Nat → Nat → Nat} {g : Nat → Nat → Int32} (hS : SI (I, f, g)) {x y z : Int32} : MC l E yX12_keep wsX12_keep 3 0 0 [.ref (A 0), .int x, .int y, .int z] (WM E A w0 I f g) (mP E A w0 (rs_keep (I, f, g) x y z) (nx_keep (I, f, g) x y z)) := by
  refine MC.enter (cc := cX12_keep) (maxL := 5) (ret := (some .int)) (lv0 := [some (.ref (A 0)), some (.int x), some (.int y), some (.int z), none]) (by decide) rfl (by simp [Value.category]) (Nat.le_of_ble_eq_true rfl) rfl ?_
  intro X hl hE C D
  subst hl
  subst hE
  have hB : mOK I f := hS.1
  have hP6 : I 1 ≤ 6 := hS.2.1
  have hM : I 5 ≤ 80 := hS.2.2.1
  have hL12 : I 16 ≤ 12 := hS.2.2.2.1
  by_cases hd8 : rg x 8
  · obtain ⟨d9, hd9, rfl⟩ := rg_of hd8 (by omega)
    by_cases hw5 : rg y 5
    · obtain ⟨w9, hw9, rfl⟩ := rg_of hw5 (by omega)
      by_cases hth : (w9 = 0 ∨ (w9 = 1 ∧ rg z (I 16)) ∨ (w9 = 2 ∧ rg z (I 5)) ∨ (3 ≤ w9 ∧ rg z (I 1)))
      · have hok : okKeep (I, f, g) (nI d9) (nI w9) z := (okKeep_iff hw9).mpr ⟨hd8, hth⟩
        by_cases hw3 : w9 < 3
        · refine r_iload_n (pq := 1) C dX12_keep_0 rfl rfl ?_
          refine r_callS (pq := 4) C (mc_X12_isShelf) gX12_keep_X12_isShelf rfl (na := 1) (by decide +kernel) rfl (by decide) (by decide) (Nat.le_of_ble_eq_true rfl) ⟨Nat.zero_le _, Nat.zero_le _⟩ dX12_keep_1 rfl rfl (fun r9 w9 hq => ?_)
          obtain ⟨rfl, rfl⟩ := hq
          dsimp only [Option.toList, List.cons_append, List.nil_append]
          have l1 := b2_lt (rg (nI d9) 8)
          refine rN_if_eq (tg := 25) (pq := 7) C dX12_keep_4 (by decide) rfl (by omega) (fun c4 => absurd c4 (b2_1.mpr hd8)) (fun c4 => ?_)
          refine r_iload_n (pq := 8) C dX12_keep_7 rfl rfl ?_
          refine r_iconst (v := nI 0) (pq := 9) C dX12_keep_8 (by decide) rfl ?_
          refine r_iconst (v := nI 4) (pq := 10) C dX12_keep_9 (by decide) rfl ?_
          refine r_callS (pq := 13) C (mc_X12_in) gX12_keep_X12_in rfl (na := 3) (by decide +kernel) rfl (by decide) (by decide) (Nat.le_of_ble_eq_true rfl) ⟨Nat.zero_le _, Nat.zero_le _⟩ dX12_keep_10 rfl rfl (fun r9 w9 hq => ?_)
          obtain ⟨rfl, rfl⟩ := hq
          dsimp only [Option.toList, List.cons_append, List.nil_append]
          have l10 := b2_lt ((nI 0).toInt ≤ (nI w9).toInt ∧ (nI w9).toInt ≤ (nI 4).toInt)
          refine rN_if_eq (tg := 25) (pq := 16) C dX12_keep_13 (by decide) rfl (by omega) (fun c13 => absurd c13 (b2_1.mpr ((in_b (by omega) (by omega)).mpr (by rw [nI_toInt (by omega)]; omega)))) (fun c13 => ?_)
          refine r_aload_n (pq := 17) C dX12_keep_16 rfl rfl ?_
          refine r_iload_n (pq := 18) C dX12_keep_17 rfl rfl ?_
          refine r_iload_n (pq := 19) C dX12_keep_18 rfl rfl ?_
          refine r_callV (pq := 22) C (mc_X12_isThing hB hw9) (WM_obj _ _ _ _ _ _) rfl gX12_keep_X12_isThing rfl (na := 2) (by decide +kernel) rfl (by decide) (by decide) (Nat.le_of_ble_eq_true rfl) ⟨Nat.zero_le _, Nat.zero_le _⟩ dX12_keep_19 rfl rfl (fun r9 w9 hq => ?_)
          obtain ⟨rfl, rfl⟩ := hq
          dsimp only [Option.toList, List.cons_append, List.nil_append]
          have l19 := b2_lt (w9 = 0 ∨ (w9 = 1 ∧ rg z (I 16)) ∨ (w9 = 2 ∧ rg z (I 5)) ∨ (3 ≤ w9 ∧ rg z (I 1)))
          refine rN_if_ne (tg := 27) (pq := 25) C dX12_keep_22 (by decide) rfl (by omega) (fun c22 => ?_) (fun c22 => absurd c22 (b2_1.mpr hth))
          refine r_aload_n (pq := 28) C dX12_keep_27 rfl rfl ?_
          refine m_geta (pq := 31) C 24 (by decide) rfl rfl (by decide +kernel) dX12_keep_28 rfl ?_
          refine r_iload_n (pq := 32) C dX12_keep_31 rfl rfl ?_
          refine r_iload_n (pq := 33) C dX12_keep_32 rfl rfl ?_
          refine m_iast (pq := 34) C hB 24 8 rfl rfl (by decide) rfl (by decide) (by omega) dX12_keep_33 rfl (by omega) (fun hB => ?_)
          refine r_aload_n (pq := 35) C dX12_keep_34 rfl rfl ?_
          refine m_geta (pq := 38) C 25 (by decide) rfl rfl (by decide +kernel) dX12_keep_35 rfl ?_
          refine r_iload_n (pq := 39) C dX12_keep_38 rfl rfl ?_
          refine r_iload_n (pq := 40) C dX12_keep_39 rfl rfl ?_
          refine m_iastZ (pq := 41) C 25 8 rfl rfl (by decide) rfl (by decide) (by omega) dX12_keep_40 rfl ?_
          refine r_iload_n (pq := 42) C dX12_keep_41 rfl rfl ?_
          refine r_iconst (v := nI 3) (pq := 43) C dX12_keep_42 (by decide) rfl ?_
          refine rN_icmp_ge (tg := 48) (pq := 46) C dX12_keep_43 (by decide) rfl (by omega) (by omega) (fun c43 => absurd hw3 (by omega)) (fun c43 => ?_)
          refine r_iconst (v := nI 0) (pq := 47) C dX12_keep_46 (by decide) rfl ?_
          refine r_iret C D rfl ⟨Nat.le_refl _, Nat.le_refl _⟩ dX12_keep_47 ?_
          refine ⟨?_, (_, _, _), rfl, hB, ?_⟩
          · unfold rs_keep
            rw [if_pos hok]
            rfl
          · unfold nx_keep
            rw [if_pos hok, tn_nI (by omega), tn_nI (by omega), if_pos hw3]
            exact EQ_rfl _
        · have hz1 : rg z (I 1) := by rcases hth with q | ⟨q, r⟩ | ⟨q, r⟩ | ⟨q, r⟩; omega; omega; omega; exact r
          obtain ⟨p, hp, rfl⟩ := rg_of hz1 (by omega)
          have loop : ∀ (f1 : Nat → Nat → Nat), mOK I f1 → (∀ k, k ≠ 12 → k ≠ 13 → k ≠ 14 → f1 k = upf (upf f 24 d9 w9) 26 d9 (if w9 = 3 then 400 else 8) k) → (∀ i, i < 400 → f1 12 i = cn f (I 5) p i) → LY f1 → ∀ (t i : Nat) (g1 : Nat → Nat → Int32), i ≤ (if w9 = 3 then 400 else 8) → (if w9 = 3 then 400 else 8) - i < t → ((∀ k, k ≠ 27 → g1 k = upg g 25 d9 (nI p) k) ∧ ∀ q, g1 27 q = if 400 * d9 ≤ q ∧ q < 400 * d9 + i then (fun i => if w9 = 3 then byt (cr (I, f, g) p i) else nI (ps (mq i (cr (I, f, g) p)) 400)) (q - 400 * d9) else g 27 q) → GG X (WM (xE X) A w0 I f1 g1) 0 0 75 [some (.ref (A 0)), some (.int (nI d9)), some (.int (nI w9)), some (.int (nI p)), some (.int (nI i))] [] := by
            intro f1 hB1 hk1 hc1 hl1 t
            induction t with
            | zero => intro i g1 h1 h2; omega
            | succ t ih =>
              intro i g1 hi ht hI
              obtain ⟨hg, h27⟩ := hI
              have h26 : f1 26 d9 = (if w9 = 3 then 400 else 8) := by rw [hk1 26 (by decide) (by decide) (by decide), upf_s]
              have hsz : (if w9 = 3 then 400 else 8) ≤ 400 := by split <;> omega
              refine r_iload (pq := 77) C dX12_keep_75 rfl rfl ?_
              refine r_aload_n (pq := 78) C dX12_keep_77 rfl rfl ?_
              refine m_geta (pq := 81) C 26 (by decide) rfl rfl (by decide +kernel) dX12_keep_78 rfl ?_
              refine r_iload_n (pq := 82) C dX12_keep_81 rfl rfl ?_
              refine m_iald (pq := 83) C hB1 26 8 rfl rfl (by decide) rfl (by decide) (by omega) dX12_keep_82 rfl (fun b82 => ?_)
              rw [h26]
              refine rN_icmp_ge (tg := 156) (pq := 86) C dX12_keep_83 (by decide) rfl (by omega) (by omega) (fun c83 => ?_) (fun c83 => ?_)
              · refine r_iconst (v := nI 0) (pq := 157) C dX12_keep_156 (by decide) rfl ?_
                refine r_iret C D rfl ⟨Nat.le_refl _, Nat.le_refl _⟩ dX12_keep_157 ?_
                refine ⟨?_, (_, _, _), rfl, hB1, ?_⟩
                · unfold rs_keep
                  rw [if_pos hok]
                  rfl
                · unfold nx_keep
                  rw [if_pos hok, tn_nI (by omega), tn_nI (by omega), tn_nI (by omega), if_neg hw3]
                  have ei : i = (if w9 = 3 then 400 else 8) := by omega
                  by_cases e3 : w9 = 3
                  · rw [if_pos e3]
                    rw [if_pos e3] at ei
                    subst ei
                    refine EQ_of3 (fun k q1 q2 q3 _ _ => by rw [hk1 k q1 q2 q3, if_pos e3, e3]) ?_ ?_ (fun d hd hd1 => ?_) (fun d _ _ j _ => ?_)
                    · rw [hg 20 (by decide)]; unfold rowg upg; rw [va_n _ _ (by decide), va_n _ _ (by decide)]
                    · rw [hg 23 (by decide)]; unfold rowg upg; rw [va_n _ _ (by decide), va_n _ _ (by decide)]
                    · rw [hg 25 (by decide)]; unfold rowg upg; rw [va_s, va_n _ _ (by decide)]
                      by_cases q : d = d9
                      · subst q; rw [upf_o _ _ (by decide), upf_s] at hd1; omega
                      · rw [pk_un q]
                    · rw [h27]; unfold rowg; rw [va_s]; simp only [if_pos e3]
                  · rw [if_neg e3]
                    rw [if_neg e3] at ei
                    subst ei
                    have e4 : w9 = 4 := by omega
                    refine EQ_of3 (fun k q1 q2 q3 _ _ => by rw [hk1 k q1 q2 q3, if_neg e3, e4]) ?_ ?_ (fun d hd hd1 => ?_) (fun d _ _ j _ => ?_)
                    · rw [hg 20 (by decide)]; unfold rowg upg; rw [va_n _ _ (by decide), va_n _ _ (by decide)]
                    · rw [hg 23 (by decide)]; unfold rowg upg; rw [va_n _ _ (by decide), va_n _ _ (by decide)]
                    · rw [hg 25 (by decide)]; unfold rowg upg; rw [va_s, va_n _ _ (by decide)]
                      by_cases q : d = d9
                      · subst q; rw [upf_o _ _ (by decide), upf_s] at hd1; omega
                      · rw [pk_un q]
                    · rw [h27]; unfold rowg; rw [va_s]; simp only [if_neg e3]
              · refine r_aload_n (pq := 87) C dX12_keep_86 rfl rfl ?_
                refine m_geta (pq := 90) C 27 (by decide) rfl rfl (by decide +kernel) dX12_keep_87 rfl ?_
                refine r_sipush (v := nI 400) (pq := 93) C dX12_keep_90 (by decide) rfl ?_
                refine r_iload_n (pq := 94) C dX12_keep_93 rfl rfl ?_
                refine rN_imul (pq := 95) C dX12_keep_94 rfl ?_
                refine r_iload (pq := 97) C dX12_keep_95 rfl rfl ?_
                refine rN_iadd (pq := 98) C dX12_keep_97 rfl ?_
                refine r_iload_n (pq := 99) C dX12_keep_98 rfl rfl ?_
                refine r_iconst (v := nI 4) (pq := 100) C dX12_keep_99 (by decide) rfl ?_
                refine rN_icmp_ne (tg := 116) (pq := 103) C dX12_keep_100 (by decide) rfl (by omega) (by omega) (fun c100 => ?_) (fun c100 => ?_)
                · refine r_aload_n (pq := 117) C dX12_keep_116 rfl rfl ?_
                  refine m_geta (pq := 120) C 12 (by decide) rfl rfl (by decide +kernel) dX12_keep_117 rfl ?_
                  refine r_iload (pq := 122) C dX12_keep_120 rfl rfl ?_
                  refine m_iald (pq := 123) C hB1 12 400 rfl rfl (by decide) rfl (by decide) (by omega) dX12_keep_122 rfl (fun b122 => ?_)
                  refine r_bipush (v := nI 127) (pq := 125) C dX12_keep_123 (by decide) rfl ?_
                  refine rN_icmp_le (tg := 142) (pq := 128) C dX12_keep_125 (by decide) rfl (by omega) (by omega) (fun c125 => ?_) (fun c125 => ?_)
                  · refine r_aload_n (pq := 143) C dX12_keep_142 rfl rfl ?_
                    refine m_geta (pq := 146) C 12 (by decide) rfl rfl (by decide +kernel) dX12_keep_143 rfl ?_
                    refine r_iload (pq := 148) C dX12_keep_146 rfl rfl ?_
                    refine m_iald (pq := 149) C hB1 12 400 rfl rfl (by decide) rfl (by decide) (by omega) dX12_keep_148 rfl (fun b148 => ?_)
                    refine m_iastZ (pq := 150) C 27 3200 rfl rfl (by decide) rfl (by decide) (by omega) dX12_keep_149 rfl ?_
                    refine rN_iinc (c := 1) (pq := 153) C dX12_keep_150 rfl (by decide) (by decide) rfl rfl ?_
                    dsimp only [List.set]
                    refine r_goto (tg := 75) C dX12_keep_153 (by decide) ?_
                    have ecr : i < 400 → f1 12 i = cr (I, f, g) p i := fun h => hc1 i h
                    refine ih (i + 1) _ (by omega) (by omega) ⟨fun k hk => by rw [va_n _ _ hk]; exact hg k hk, fun q => ?_⟩
                    rw [va_s]
                    by_cases e : q = 400 * d9 + i
                    · subst e
                      rw [pk_us, if_pos ⟨by omega, by omega⟩, show 400 * d9 + i - 400 * d9 = i by omega]
                      show _ = if w9 = 3 then byt (cr (I, f, g) p i) else nI (ps (mq i (cr (I, f, g) p)) 400)
                      first
                      | (rw [if_neg (by omega), show ps (mq i (f1 12)) (399 + 1) - ps (mq i (f1 12)) 0 = ps (mq i (cr (I, f, g) p)) 400 from mqc hc1])
                      | (rw [if_pos (by omega)]; unfold byt; rw [← ecr (by omega), if_pos (by omega)]; rfl)
                      | (rw [if_pos (by omega)]; unfold byt; rw [← ecr (by omega), if_neg (by omega)])
                    · rw [pk_un e, h27 q]
                      by_cases z : 400 * d9 ≤ q ∧ q < 400 * d9 + i
                      · rw [if_pos z, if_pos ⟨z.1, by omega⟩]
                      · rw [if_neg z, if_neg (fun y => z ⟨y.1, by omega⟩)]
                  · refine r_aload_n (pq := 129) C dX12_keep_128 rfl rfl ?_
                    refine m_geta (pq := 132) C 12 (by decide) rfl rfl (by decide +kernel) dX12_keep_129 rfl ?_
                    refine r_iload (pq := 134) C dX12_keep_132 rfl rfl ?_
                    refine m_iald (pq := 135) C hB1 12 400 rfl rfl (by decide) rfl (by decide) (by omega) dX12_keep_134 rfl (fun b134 => ?_)
                    refine r_sipush (v := nI 256) (pq := 138) C dX12_keep_135 (by decide) rfl ?_
                    refine r_isub (pq := 139) C dX12_keep_138 rfl ?_
                    refine r_goto (tg := 149) C dX12_keep_139 (by decide) ?_
                    refine m_iastZ (pq := 150) C 27 3200 rfl rfl (by decide) rfl (by decide) (by omega) dX12_keep_149 rfl ?_
                    refine rN_iinc (c := 1) (pq := 153) C dX12_keep_150 rfl (by decide) (by decide) rfl rfl ?_
                    dsimp only [List.set]
                    refine r_goto (tg := 75) C dX12_keep_153 (by decide) ?_
                    have ecr : i < 400 → f1 12 i = cr (I, f, g) p i := fun h => hc1 i h
                    refine ih (i + 1) _ (by omega) (by omega) ⟨fun k hk => by rw [va_n _ _ hk]; exact hg k hk, fun q => ?_⟩
                    rw [va_s]
                    by_cases e : q = 400 * d9 + i
                    · subst e
                      rw [pk_us, if_pos ⟨by omega, by omega⟩, show 400 * d9 + i - 400 * d9 = i by omega]
                      show _ = if w9 = 3 then byt (cr (I, f, g) p i) else nI (ps (mq i (cr (I, f, g) p)) 400)
                      first
                      | (rw [if_neg (by omega), show ps (mq i (f1 12)) (399 + 1) - ps (mq i (f1 12)) 0 = ps (mq i (cr (I, f, g) p)) 400 from mqc hc1])
                      | (rw [if_pos (by omega)]; unfold byt; rw [← ecr (by omega), if_pos (by omega)]; rfl)
                      | (rw [if_pos (by omega)]; unfold byt; rw [← ecr (by omega), if_neg (by omega)])
                    · rw [pk_un e, h27 q]
                      by_cases z : 400 * d9 ≤ q ∧ q < 400 * d9 + i
                      · rw [if_pos z, if_pos ⟨z.1, by omega⟩]
                      · rw [if_neg z, if_neg (fun y => z ⟨y.1, by omega⟩)]
                · refine r_aload_n (pq := 104) C dX12_keep_103 rfl rfl ?_
                  refine r_iload (pq := 106) C dX12_keep_104 rfl rfl ?_
                  refine r_iconst (v := nI 0) (pq := 107) C dX12_keep_106 (by decide) rfl ?_
                  refine r_sipush (v := nI 399) (pq := 110) C dX12_keep_107 (by decide) rfl ?_
                  refine r_callV (pq := 113) C (mc_X12_mostOf hB1 (by rw [if_neg (by omega)] at c83; omega) (hl1 i (by rw [if_neg (by omega)] at c83; omega)) (by omega) (by omega)) (WM_obj _ _ _ _ _ _) rfl gX12_keep_X12_mostOf rfl (na := 3) (by decide +kernel) rfl (by decide) (by decide) (Nat.le_of_ble_eq_true rfl) ⟨Nat.zero_le _, Nat.zero_le _⟩ dX12_keep_110 rfl rfl (fun r9 w9 hq => ?_)
                  obtain ⟨rfl, rfl⟩ := hq
                  dsimp only [Option.toList, List.cons_append, List.nil_append]
                  refine r_goto (tg := 149) C dX12_keep_113 (by decide) ?_
                  refine m_iastZ (pq := 150) C 27 3200 rfl rfl (by decide) rfl (by decide) (by omega) dX12_keep_149 rfl ?_
                  refine rN_iinc (c := 1) (pq := 153) C dX12_keep_150 rfl (by decide) (by decide) rfl rfl ?_
                  dsimp only [List.set]
                  refine r_goto (tg := 75) C dX12_keep_153 (by decide) ?_
                  have ecr : i < 400 → f1 12 i = cr (I, f, g) p i := fun h => hc1 i h
                  refine ih (i + 1) _ (by omega) (by omega) ⟨fun k hk => by rw [va_n _ _ hk]; exact hg k hk, fun q => ?_⟩
                  rw [va_s]
                  by_cases e : q = 400 * d9 + i
                  · subst e
                    rw [pk_us, if_pos ⟨by omega, by omega⟩, show 400 * d9 + i - 400 * d9 = i by omega]
                    show _ = if w9 = 3 then byt (cr (I, f, g) p i) else nI (ps (mq i (cr (I, f, g) p)) 400)
                    first
                    | (rw [if_neg (by omega), show ps (mq i (f1 12)) (399 + 1) - ps (mq i (f1 12)) 0 = ps (mq i (cr (I, f, g) p)) 400 from mqc hc1])
                    | (rw [if_pos (by omega)]; unfold byt; rw [← ecr (by omega), if_pos (by omega)]; rfl)
                    | (rw [if_pos (by omega)]; unfold byt; rw [← ecr (by omega), if_neg (by omega)])
                  · rw [pk_un e, h27 q]
                    by_cases z : 400 * d9 ≤ q ∧ q < 400 * d9 + i
                    · rw [if_pos z, if_pos ⟨z.1, by omega⟩]
                    · rw [if_neg z, if_neg (fun y => z ⟨y.1, by omega⟩)]
          refine r_iload_n (pq := 1) C dX12_keep_0 rfl rfl ?_
          refine r_callS (pq := 4) C (mc_X12_isShelf) gX12_keep_X12_isShelf rfl (na := 1) (by decide +kernel) rfl (by decide) (by decide) (Nat.le_of_ble_eq_true rfl) ⟨Nat.zero_le _, Nat.zero_le _⟩ dX12_keep_1 rfl rfl (fun r9 w9 hq => ?_)
          obtain ⟨rfl, rfl⟩ := hq
          dsimp only [Option.toList, List.cons_append, List.nil_append]
          have l1 := b2_lt (rg (nI d9) 8)
          refine rN_if_eq (tg := 25) (pq := 7) C dX12_keep_4 (by decide) rfl (by omega) (fun c4 => absurd c4 (b2_1.mpr hd8)) (fun c4 => ?_)
          refine r_iload_n (pq := 8) C dX12_keep_7 rfl rfl ?_
          refine r_iconst (v := nI 0) (pq := 9) C dX12_keep_8 (by decide) rfl ?_
          refine r_iconst (v := nI 4) (pq := 10) C dX12_keep_9 (by decide) rfl ?_
          refine r_callS (pq := 13) C (mc_X12_in) gX12_keep_X12_in rfl (na := 3) (by decide +kernel) rfl (by decide) (by decide) (Nat.le_of_ble_eq_true rfl) ⟨Nat.zero_le _, Nat.zero_le _⟩ dX12_keep_10 rfl rfl (fun r9 w9 hq => ?_)
          obtain ⟨rfl, rfl⟩ := hq
          dsimp only [Option.toList, List.cons_append, List.nil_append]
          have l10 := b2_lt ((nI 0).toInt ≤ (nI w9).toInt ∧ (nI w9).toInt ≤ (nI 4).toInt)
          refine rN_if_eq (tg := 25) (pq := 16) C dX12_keep_13 (by decide) rfl (by omega) (fun c13 => absurd c13 (b2_1.mpr ((in_b (by omega) (by omega)).mpr (by rw [nI_toInt (by omega)]; omega)))) (fun c13 => ?_)
          refine r_aload_n (pq := 17) C dX12_keep_16 rfl rfl ?_
          refine r_iload_n (pq := 18) C dX12_keep_17 rfl rfl ?_
          refine r_iload_n (pq := 19) C dX12_keep_18 rfl rfl ?_
          refine r_callV (pq := 22) C (mc_X12_isThing hB hw9) (WM_obj _ _ _ _ _ _) rfl gX12_keep_X12_isThing rfl (na := 2) (by decide +kernel) rfl (by decide) (by decide) (Nat.le_of_ble_eq_true rfl) ⟨Nat.zero_le _, Nat.zero_le _⟩ dX12_keep_19 rfl rfl (fun r9 w9 hq => ?_)
          obtain ⟨rfl, rfl⟩ := hq
          dsimp only [Option.toList, List.cons_append, List.nil_append]
          have l19 := b2_lt (w9 = 0 ∨ (w9 = 1 ∧ rg (nI p) (I 16)) ∨ (w9 = 2 ∧ rg (nI p) (I 5)) ∨ (3 ≤ w9 ∧ rg (nI p) (I 1)))
          refine rN_if_ne (tg := 27) (pq := 25) C dX12_keep_22 (by decide) rfl (by omega) (fun c22 => ?_) (fun c22 => absurd c22 (b2_1.mpr hth))
          refine r_aload_n (pq := 28) C dX12_keep_27 rfl rfl ?_
          refine m_geta (pq := 31) C 24 (by decide) rfl rfl (by decide +kernel) dX12_keep_28 rfl ?_
          refine r_iload_n (pq := 32) C dX12_keep_31 rfl rfl ?_
          refine r_iload_n (pq := 33) C dX12_keep_32 rfl rfl ?_
          refine m_iast (pq := 34) C hB 24 8 rfl rfl (by decide) rfl (by decide) (by omega) dX12_keep_33 rfl (by omega) (fun hB => ?_)
          refine r_aload_n (pq := 35) C dX12_keep_34 rfl rfl ?_
          refine m_geta (pq := 38) C 25 (by decide) rfl rfl (by decide +kernel) dX12_keep_35 rfl ?_
          refine r_iload_n (pq := 39) C dX12_keep_38 rfl rfl ?_
          refine r_iload_n (pq := 40) C dX12_keep_39 rfl rfl ?_
          refine m_iastZ (pq := 41) C 25 8 rfl rfl (by decide) rfl (by decide) (by omega) dX12_keep_40 rfl ?_
          refine r_iload_n (pq := 42) C dX12_keep_41 rfl rfl ?_
          refine r_iconst (v := nI 3) (pq := 43) C dX12_keep_42 (by decide) rfl ?_
          refine rN_icmp_ge (tg := 48) (pq := 46) C dX12_keep_43 (by decide) rfl (by omega) (by omega) (fun c43 => ?_) (fun c43 => absurd c43 (by omega))
          refine r_aload_n (pq := 49) C dX12_keep_48 rfl rfl ?_
          refine r_iload_n (pq := 50) C dX12_keep_49 rfl rfl ?_
          refine r_callV (pq := 53) C (mc_X12_lay hB hM (by omega)) (WM_obj _ _ _ _ _ _) rfl gX12_keep_X12_lay rfl (na := 1) (by decide +kernel) rfl (by decide) (by decide) (Nat.le_of_ble_eq_true rfl) ⟨Nat.zero_le _, Nat.zero_le _⟩ dX12_keep_50 rfl rfl (fun r9 w9 hq => ?_)
          obtain ⟨rfl, f1, rfl, hB1, hk1, hc1, hl1⟩ := hq
          dsimp only [Option.toList, List.cons_append, List.nil_append]
          refine r_aload_n (pq := 54) C dX12_keep_53 rfl rfl ?_
          refine m_geta (pq := 57) C 26 (by decide) rfl rfl (by decide +kernel) dX12_keep_54 rfl ?_
          refine r_iload_n (pq := 58) C dX12_keep_57 rfl rfl ?_
          refine r_iload_n (pq := 59) C dX12_keep_58 rfl rfl ?_
          refine r_iconst (v := nI 3) (pq := 60) C dX12_keep_59 (by decide) rfl ?_
          refine rN_icmp_ne (tg := 69) (pq := 63) C dX12_keep_60 (by decide) rfl (by omega) (by omega) (fun c60 => ?_) (fun c60 => ?_)
          · refine r_bipush (v := nI 8) (pq := 71) C dX12_keep_69 (by decide) rfl ?_
            refine m_iast (pq := 72) C hB1 26 8 rfl rfl (by decide) rfl (by decide) (by omega) dX12_keep_71 rfl (by omega) (fun hB => ?_)
            refine r_iconst (v := nI 0) (pq := 73) C dX12_keep_72 (by decide) rfl ?_
            refine r_istore (j := 4) (pq := 75) C dX12_keep_73 rfl (by decide) rfl rfl ?_
            dsimp only [List.set]
            have hk9 : ∀ k, k ≠ 12 → k ≠ 13 → k ≠ 14 → va_up f1 26 (va_up (f1 26) d9 8) k = upf (upf f 24 d9 w9) 26 d9 (if w9 = 3 then 400 else 8) k := by
              intro k q1 q2 q3
              unfold upf
              by_cases e : k = 26
              · subst e
                rw [va_s, va_s, va_n _ _ (by decide), hk1 26 (by decide) (by decide) (by decide), va_n _ _ (by decide)]
                first | rw [if_pos c60] | rw [if_neg c60]
              · rw [va_n _ _ e, va_n _ _ e]
                exact hk1 k q1 q2 q3
            refine loop _ hB hk9 (fun i hi => by rw [va_n _ _ (by decide), hc1 i hi]; exact cn_congr (fun k _ _ => by rw [va_n _ _ (by omega)]) _ _ _) (fun l hl d hd => by rw [va_n _ _ (by decide), va_n _ _ (by decide), va_n _ _ (by decide)]; exact hl1 l hl d hd) ((if w9 = 3 then 400 else 8) + 1) 0 _ (by omega) (by omega) ⟨fun k hk => rfl, fun q => by rw [if_neg (fun z => by omega), va_n _ _ (by decide)]⟩
          · refine r_sipush (v := nI 400) (pq := 66) C dX12_keep_63 (by decide) rfl ?_
            refine r_goto (tg := 71) C dX12_keep_66 (by decide) ?_
            refine m_iast (pq := 72) C hB1 26 8 rfl rfl (by decide) rfl (by decide) (by omega) dX12_keep_71 rfl (by omega) (fun hB => ?_)
            refine r_iconst (v := nI 0) (pq := 73) C dX12_keep_72 (by decide) rfl ?_
            refine r_istore (j := 4) (pq := 75) C dX12_keep_73 rfl (by decide) rfl rfl ?_
            dsimp only [List.set]
            have hk9 : ∀ k, k ≠ 12 → k ≠ 13 → k ≠ 14 → va_up f1 26 (va_up (f1 26) d9 400) k = upf (upf f 24 d9 w9) 26 d9 (if w9 = 3 then 400 else 8) k := by
              intro k q1 q2 q3
              unfold upf
              by_cases e : k = 26
              · subst e
                rw [va_s, va_s, va_n _ _ (by decide), hk1 26 (by decide) (by decide) (by decide), va_n _ _ (by decide)]
                first | rw [if_pos c60] | rw [if_neg c60]
              · rw [va_n _ _ e, va_n _ _ e]
                exact hk1 k q1 q2 q3
            refine loop _ hB hk9 (fun i hi => by rw [va_n _ _ (by decide), hc1 i hi]; exact cn_congr (fun k _ _ => by rw [va_n _ _ (by omega)]) _ _ _) (fun l hl d hd => by rw [va_n _ _ (by decide), va_n _ _ (by decide), va_n _ _ (by decide)]; exact hl1 l hl d hd) ((if w9 = 3 then 400 else 8) + 1) 0 _ (by omega) (by omega) ⟨fun k hk => rfl, fun q => by rw [if_neg (fun z => by omega), va_n _ _ (by decide)]⟩
      · have hbad : ¬ okKeep (I, f, g) (nI d9) (nI w9) z := fun h => hth ((okKeep_iff hw9).mp h).2
        refine r_iload_n (pq := 1) C dX12_keep_0 rfl rfl ?_
        refine r_callS (pq := 4) C (mc_X12_isShelf) gX12_keep_X12_isShelf rfl (na := 1) (by decide +kernel) rfl (by decide) (by decide) (Nat.le_of_ble_eq_true rfl) ⟨Nat.zero_le _, Nat.zero_le _⟩ dX12_keep_1 rfl rfl (fun r9 w9 hq => ?_)
        obtain ⟨rfl, rfl⟩ := hq
        dsimp only [Option.toList, List.cons_append, List.nil_append]
        have l1 := b2_lt (rg (nI d9) 8)
        refine rN_if_eq (tg := 25) (pq := 7) C dX12_keep_4 (by decide) rfl (by omega) (fun c4 => absurd c4 (b2_1.mpr hd8)) (fun c4 => ?_)
        refine r_iload_n (pq := 8) C dX12_keep_7 rfl rfl ?_
        refine r_iconst (v := nI 0) (pq := 9) C dX12_keep_8 (by decide) rfl ?_
        refine r_iconst (v := nI 4) (pq := 10) C dX12_keep_9 (by decide) rfl ?_
        refine r_callS (pq := 13) C (mc_X12_in) gX12_keep_X12_in rfl (na := 3) (by decide +kernel) rfl (by decide) (by decide) (Nat.le_of_ble_eq_true rfl) ⟨Nat.zero_le _, Nat.zero_le _⟩ dX12_keep_10 rfl rfl (fun r9 w9 hq => ?_)
        obtain ⟨rfl, rfl⟩ := hq
        dsimp only [Option.toList, List.cons_append, List.nil_append]
        have l10 := b2_lt ((nI 0).toInt ≤ (nI w9).toInt ∧ (nI w9).toInt ≤ (nI 4).toInt)
        refine rN_if_eq (tg := 25) (pq := 16) C dX12_keep_13 (by decide) rfl (by omega) (fun c13 => absurd c13 (b2_1.mpr ((in_b (by omega) (by omega)).mpr (by rw [nI_toInt (by omega)]; omega)))) (fun c13 => ?_)
        refine r_aload_n (pq := 17) C dX12_keep_16 rfl rfl ?_
        refine r_iload_n (pq := 18) C dX12_keep_17 rfl rfl ?_
        refine r_iload_n (pq := 19) C dX12_keep_18 rfl rfl ?_
        refine r_callV (pq := 22) C (mc_X12_isThing hB hw9) (WM_obj _ _ _ _ _ _) rfl gX12_keep_X12_isThing rfl (na := 2) (by decide +kernel) rfl (by decide) (by decide) (Nat.le_of_ble_eq_true rfl) ⟨Nat.zero_le _, Nat.zero_le _⟩ dX12_keep_19 rfl rfl (fun r9 w9 hq => ?_)
        obtain ⟨rfl, rfl⟩ := hq
        dsimp only [Option.toList, List.cons_append, List.nil_append]
        have l19 := b2_lt (w9 = 0 ∨ (w9 = 1 ∧ rg z (I 16)) ∨ (w9 = 2 ∧ rg z (I 5)) ∨ (3 ≤ w9 ∧ rg z (I 1)))
        refine rN_if_ne (tg := 27) (pq := 25) C dX12_keep_22 (by decide) rfl (by omega) (fun c22 => absurd (b2_1.mp c22) hth) (fun c22 => ?_)
        refine r_iconst (v := (-1)) (pq := 26) C dX12_keep_25 (by decide) rfl ?_
        refine r_iret C D rfl ⟨Nat.le_refl _, Nat.le_refl _⟩ dX12_keep_26 ?_
        refine ⟨?_, (I, f, g), rfl, hB, ?_⟩
        · unfold rs_keep
          rw [if_neg hbad]
        · unfold nx_keep
          rw [if_neg hbad]
          exact EQ_rfl _
    · have hbad : ¬ okKeep (I, f, g) (nI d9) y z := fun h => hw5 h.2.1
      refine r_iload_n (pq := 1) C dX12_keep_0 rfl rfl ?_
      refine r_callS (pq := 4) C (mc_X12_isShelf) gX12_keep_X12_isShelf rfl (na := 1) (by decide +kernel) rfl (by decide) (by decide) (Nat.le_of_ble_eq_true rfl) ⟨Nat.zero_le _, Nat.zero_le _⟩ dX12_keep_1 rfl rfl (fun r9 w9 hq => ?_)
      obtain ⟨rfl, rfl⟩ := hq
      dsimp only [Option.toList, List.cons_append, List.nil_append]
      have l1 := b2_lt (rg (nI d9) 8)
      refine rN_if_eq (tg := 25) (pq := 7) C dX12_keep_4 (by decide) rfl (by omega) (fun c4 => absurd c4 (b2_1.mpr hd8)) (fun c4 => ?_)
      refine r_iload_n (pq := 8) C dX12_keep_7 rfl rfl ?_
      refine r_iconst (v := nI 0) (pq := 9) C dX12_keep_8 (by decide) rfl ?_
      refine r_iconst (v := nI 4) (pq := 10) C dX12_keep_9 (by decide) rfl ?_
      refine r_callS (pq := 13) C (mc_X12_in) gX12_keep_X12_in rfl (na := 3) (by decide +kernel) rfl (by decide) (by decide) (Nat.le_of_ble_eq_true rfl) ⟨Nat.zero_le _, Nat.zero_le _⟩ dX12_keep_10 rfl rfl (fun r9 w9 hq => ?_)
      obtain ⟨rfl, rfl⟩ := hq
      dsimp only [Option.toList, List.cons_append, List.nil_append]
      have l10 := b2_lt ((nI 0).toInt ≤ y.toInt ∧ y.toInt ≤ (nI 4).toInt)
      refine rN_if_eq (tg := 25) (pq := 16) C dX12_keep_13 (by decide) rfl (by omega) (fun c13 => ?_) (fun c13 => absurd (show rg y 5 by have h9 := (in_b (a := 0) (b := 4) (by omega) (by omega)).mp (b2_1.mp c13); exact ⟨by omega, by omega⟩) hw5)
      refine r_iconst (v := (-1)) (pq := 26) C dX12_keep_25 (by decide) rfl ?_
      refine r_iret C D rfl ⟨Nat.le_refl _, Nat.le_refl _⟩ dX12_keep_26 ?_
      refine ⟨?_, (I, f, g), rfl, hB, ?_⟩
      · unfold rs_keep
        rw [if_neg hbad]
      · unfold nx_keep
        rw [if_neg hbad]
        exact EQ_rfl _
  · have hbad : ¬ okKeep (I, f, g) x y z := fun h => hd8 h.1
    refine r_iload_n (pq := 1) C dX12_keep_0 rfl rfl ?_
    refine r_callS (pq := 4) C (mc_X12_isShelf) gX12_keep_X12_isShelf rfl (na := 1) (by decide +kernel) rfl (by decide) (by decide) (Nat.le_of_ble_eq_true rfl) ⟨Nat.zero_le _, Nat.zero_le _⟩ dX12_keep_1 rfl rfl (fun r9 w9 hq => ?_)
    obtain ⟨rfl, rfl⟩ := hq
    dsimp only [Option.toList, List.cons_append, List.nil_append]
    have l1 := b2_lt (rg x 8)
    refine rN_if_eq (tg := 25) (pq := 7) C dX12_keep_4 (by decide) rfl (by omega) (fun c4 => ?_) (fun c4 => absurd (b2_1.mp c4) hd8)
    refine r_iconst (v := (-1)) (pq := 26) C dX12_keep_25 (by decide) rfl ?_
    refine r_iret C D rfl ⟨Nat.le_refl _, Nat.le_refl _⟩ dX12_keep_26 ?_
    refine ⟨?_, (I, f, g), rfl, hB, ?_⟩
    · unfold rs_keep
      rw [if_neg hbad]
    · unfold nx_keep
      rw [if_neg hbad]
      exact EQ_rfl _

theorem fb_subI {x y : Int32} (h1 : -2147483648 ≤ x.toInt - y.toInt) (h2 : x.toInt - y.toInt < 2147483648) : (x - y).toInt = x.toInt - y.toInt := by
  rw [Int32.toInt_sub]
  exact fb_bmod h1 h2
set_option maxHeartbeats 4000000 in
set_option maxRecDepth 100000 in
/-- copy -/
theorem mc_X12_copy {l : Launch} {E : EV} {A : Nat → Nat} {w0 : RW} {I : Nat → Nat} {f : Nat → Nat → Nat} {g : Nat → Nat → Int32} (hS : SI (I, f, g)) {x y z u v : Int32} : MC l E yX12_copy wsX12_copy 2 0 0 [.ref (A 0), .int x, .int y, .int z, .int u, .int v] (WM E A w0 I f g) (mP E A w0 (rs_copy (I, f, g) x y z u v) (nx_copy (I, f, g) x y z u v)) := by
  refine MC.enter (cc := cX12_copy) (maxL := 7) (ret := (some .int)) (lv0 := [some (.ref (A 0)), some (.int x), some (.int y), some (.int z), some (.int u), some (.int v), none]) (by decide) rfl (by simp [Value.category]) (Nat.le_of_ble_eq_true rfl) rfl ?_
  intro X hl hE C D
  subst hl
  subst hE
  have hB : mOK I f := hS.1
  have hP6 : I 1 ≤ 6 := hS.2.1
  have hM : I 5 ≤ 80 := hS.2.2.1
  have hL12 : I 16 ≤ 12 := hS.2.2.2.1
  by_cases hsh : rg x 8 ∧ rg z 8
  · obtain ⟨ha8, hb8⟩ := hsh
    obtain ⟨a, ha, rfl⟩ := rg_of ha8 (by omega)
    obtain ⟨b, hb, rfl⟩ := rg_of hb8 (by omega)
    have ta : tn (nI a) = a := tn_nI (by omega)
    have tb : tn (nI b) = b := tn_nI (by omega)
    have h26a : f 26 a ≤ 400 := (hS.2.2.2.2.2.2.2.2.2.1 a ha).2.2.2
    have h26b : f 26 b ≤ 400 := (hS.2.2.2.2.2.2.2.2.2.1 b hb).2.2.2
    by_cases hno : f 24 a = 0 ∨ f 24 b = 0
    · refine r_iload_n (pq := 1) C dX12_copy_0 rfl rfl ?_
      refine r_callS (pq := 4) C (mc_X12_isShelf) gX12_copy_X12_isShelf rfl (na := 1) (by decide +kernel) rfl (by decide) (by decide) (Nat.le_of_ble_eq_true rfl) ⟨Nat.zero_le _, Nat.zero_le _⟩ dX12_copy_1 rfl rfl (fun r9 w9 hq => ?_)
      obtain ⟨rfl, rfl⟩ := hq
      dsimp only [Option.toList, List.cons_append, List.nil_append]
      have l1 := b2_lt (rg (nI a) 8)
      refine rN_if_eq (tg := 14) (pq := 7) C dX12_copy_4 (by decide) rfl (by omega) (fun c4 => absurd c4 (b2_1.mpr ha8)) (fun c4 => ?_)
      refine r_iload_n (pq := 8) C dX12_copy_7 rfl rfl ?_
      refine r_callS (pq := 11) C (mc_X12_isShelf) gX12_copy_X12_isShelf rfl (na := 1) (by decide +kernel) rfl (by decide) (by decide) (Nat.le_of_ble_eq_true rfl) ⟨Nat.zero_le _, Nat.zero_le _⟩ dX12_copy_8 rfl rfl (fun r9 w9 hq => ?_)
      obtain ⟨rfl, rfl⟩ := hq
      dsimp only [Option.toList, List.cons_append, List.nil_append]
      have l8 := b2_lt (rg (nI b) 8)
      refine rN_if_ne (tg := 16) (pq := 14) C dX12_copy_11 (by decide) rfl (by omega) (fun c11 => ?_) (fun c11 => absurd c11 (b2_1.mpr hb8))
      refine r_aload_n (pq := 17) C dX12_copy_16 rfl rfl ?_
      refine m_geta (pq := 20) C 24 (by decide) rfl rfl (by decide +kernel) dX12_copy_17 rfl ?_
      refine r_iload_n (pq := 21) C dX12_copy_20 rfl rfl ?_
      refine m_iald (pq := 22) C hB 24 8 rfl rfl (by decide) rfl (by decide) (by omega) dX12_copy_21 rfl (fun b21 => ?_)
      refine rN_if_eq (tg := 34) (pq := 25) C dX12_copy_22 (by decide) rfl (by omega) (fun c22 => ?_) (fun c22 => ?_)
      · refine r_bipush (v := (-11)) (pq := 36) C dX12_copy_34 (by decide) rfl ?_
        refine r_iret C D rfl ⟨Nat.le_refl _, Nat.le_refl _⟩ dX12_copy_36 ?_
        refine ⟨?_, (I, f, g), rfl, hB, ?_⟩
        · unfold rs_copy
          rw [if_neg (fun z => z ⟨ha8, hb8⟩), if_pos (by rw [ta, tb]; exact hno)]
        · unfold nx_copy
          rw [if_neg (fun h => by have h1 := h.2.1; have h2 := h.2.2.1; rw [ta] at h1 h2; rw [tb] at h2; change 3 ≤ f 24 a at h1; change f 24 a = f 24 b at h2; omega)]
          exact EQ_rfl _
      · refine r_aload_n (pq := 26) C dX12_copy_25 rfl rfl ?_
        refine m_geta (pq := 29) C 24 (by decide) rfl rfl (by decide +kernel) dX12_copy_26 rfl ?_
        refine r_iload_n (pq := 30) C dX12_copy_29 rfl rfl ?_
        refine m_iald (pq := 31) C hB 24 8 rfl rfl (by decide) rfl (by decide) (by omega) dX12_copy_30 rfl (fun b30 => ?_)
        refine rN_if_ne (tg := 37) (pq := 34) C dX12_copy_31 (by decide) rfl (by omega) (fun c31 => ?_) (fun c31 => ?_)
        · exact absurd hno (by omega)
        · refine r_bipush (v := (-11)) (pq := 36) C dX12_copy_34 (by decide) rfl ?_
          refine r_iret C D rfl ⟨Nat.le_refl _, Nat.le_refl _⟩ dX12_copy_36 ?_
          refine ⟨?_, (I, f, g), rfl, hB, ?_⟩
          · unfold rs_copy
            rw [if_neg (fun z => z ⟨ha8, hb8⟩), if_pos (by rw [ta, tb]; exact hno)]
          · unfold nx_copy
            rw [if_neg (fun h => by have h1 := h.2.1; have h2 := h.2.2.1; rw [ta] at h1 h2; rw [tb] at h2; change 3 ≤ f 24 a at h1; change f 24 a = f 24 b at h2; omega)]
            exact EQ_rfl _
    · by_cases hkd : f 24 a < 3 ∨ f 24 a ≠ f 24 b
      · refine r_iload_n (pq := 1) C dX12_copy_0 rfl rfl ?_
        refine r_callS (pq := 4) C (mc_X12_isShelf) gX12_copy_X12_isShelf rfl (na := 1) (by decide +kernel) rfl (by decide) (by decide) (Nat.le_of_ble_eq_true rfl) ⟨Nat.zero_le _, Nat.zero_le _⟩ dX12_copy_1 rfl rfl (fun r9 w9 hq => ?_)
        obtain ⟨rfl, rfl⟩ := hq
        dsimp only [Option.toList, List.cons_append, List.nil_append]
        have l1 := b2_lt (rg (nI a) 8)
        refine rN_if_eq (tg := 14) (pq := 7) C dX12_copy_4 (by decide) rfl (by omega) (fun c4 => absurd c4 (b2_1.mpr ha8)) (fun c4 => ?_)
        refine r_iload_n (pq := 8) C dX12_copy_7 rfl rfl ?_
        refine r_callS (pq := 11) C (mc_X12_isShelf) gX12_copy_X12_isShelf rfl (na := 1) (by decide +kernel) rfl (by decide) (by decide) (Nat.le_of_ble_eq_true rfl) ⟨Nat.zero_le _, Nat.zero_le _⟩ dX12_copy_8 rfl rfl (fun r9 w9 hq => ?_)
        obtain ⟨rfl, rfl⟩ := hq
        dsimp only [Option.toList, List.cons_append, List.nil_append]
        have l8 := b2_lt (rg (nI b) 8)
        refine rN_if_ne (tg := 16) (pq := 14) C dX12_copy_11 (by decide) rfl (by omega) (fun c11 => ?_) (fun c11 => absurd c11 (b2_1.mpr hb8))
        refine r_aload_n (pq := 17) C dX12_copy_16 rfl rfl ?_
        refine m_geta (pq := 20) C 24 (by decide) rfl rfl (by decide +kernel) dX12_copy_17 rfl ?_
        refine r_iload_n (pq := 21) C dX12_copy_20 rfl rfl ?_
        refine m_iald (pq := 22) C hB 24 8 rfl rfl (by decide) rfl (by decide) (by omega) dX12_copy_21 rfl (fun b21 => ?_)
        refine rN_if_eq (tg := 34) (pq := 25) C dX12_copy_22 (by decide) rfl (by omega) (fun c22 => absurd c22 (by omega)) (fun c22 => ?_)
        refine r_aload_n (pq := 26) C dX12_copy_25 rfl rfl ?_
        refine m_geta (pq := 29) C 24 (by decide) rfl rfl (by decide +kernel) dX12_copy_26 rfl ?_
        refine r_iload_n (pq := 30) C dX12_copy_29 rfl rfl ?_
        refine m_iald (pq := 31) C hB 24 8 rfl rfl (by decide) rfl (by decide) (by omega) dX12_copy_30 rfl (fun b30 => ?_)
        refine rN_if_ne (tg := 37) (pq := 34) C dX12_copy_31 (by decide) rfl (by omega) (fun c31 => ?_) (fun c31 => absurd c31 (by omega))
        refine r_aload_n (pq := 38) C dX12_copy_37 rfl rfl ?_
        refine m_geta (pq := 41) C 24 (by decide) rfl rfl (by decide +kernel) dX12_copy_38 rfl ?_
        refine r_iload_n (pq := 42) C dX12_copy_41 rfl rfl ?_
        refine m_iald (pq := 43) C hB 24 8 rfl rfl (by decide) rfl (by decide) (by omega) dX12_copy_42 rfl (fun b42 => ?_)
        refine r_iconst (v := nI 3) (pq := 44) C dX12_copy_43 (by decide) rfl ?_
        refine rN_icmp_lt (tg := 62) (pq := 47) C dX12_copy_44 (by decide) rfl (by omega) (by omega) (fun c44 => ?_) (fun c44 => ?_)
        · refine r_bipush (v := (-12)) (pq := 64) C dX12_copy_62 (by decide) rfl ?_
          refine r_iret C D rfl ⟨Nat.le_refl _, Nat.le_refl _⟩ dX12_copy_64 ?_
          refine ⟨?_, (I, f, g), rfl, hB, ?_⟩
          · unfold rs_copy
            rw [if_neg (fun z => z ⟨ha8, hb8⟩), if_neg (by rw [ta, tb]; exact hno), if_pos (by rw [ta, tb]; exact hkd)]
          · unfold nx_copy
            rw [if_neg (fun h => by have h1 := h.2.1; have h2 := h.2.2.1; rw [ta] at h1 h2; rw [tb] at h2; change 3 ≤ f 24 a at h1; change f 24 a = f 24 b at h2; omega)]
            exact EQ_rfl _
        · refine r_aload_n (pq := 48) C dX12_copy_47 rfl rfl ?_
          refine m_geta (pq := 51) C 24 (by decide) rfl rfl (by decide +kernel) dX12_copy_48 rfl ?_
          refine r_iload_n (pq := 52) C dX12_copy_51 rfl rfl ?_
          refine m_iald (pq := 53) C hB 24 8 rfl rfl (by decide) rfl (by decide) (by omega) dX12_copy_52 rfl (fun b52 => ?_)
          refine r_aload_n (pq := 54) C dX12_copy_53 rfl rfl ?_
          refine m_geta (pq := 57) C 24 (by decide) rfl rfl (by decide +kernel) dX12_copy_54 rfl ?_
          refine r_iload_n (pq := 58) C dX12_copy_57 rfl rfl ?_
          refine m_iald (pq := 59) C hB 24 8 rfl rfl (by decide) rfl (by decide) (by omega) dX12_copy_58 rfl (fun b58 => ?_)
          refine rN_icmp_eq (tg := 65) (pq := 62) C dX12_copy_59 (by decide) rfl (by omega) (by omega) (fun c59 => ?_) (fun c59 => ?_)
          · exact absurd hkd (by omega)
          · refine r_bipush (v := (-12)) (pq := 64) C dX12_copy_62 (by decide) rfl ?_
            refine r_iret C D rfl ⟨Nat.le_refl _, Nat.le_refl _⟩ dX12_copy_64 ?_
            refine ⟨?_, (I, f, g), rfl, hB, ?_⟩
            · unfold rs_copy
              rw [if_neg (fun z => z ⟨ha8, hb8⟩), if_neg (by rw [ta, tb]; exact hno), if_pos (by rw [ta, tb]; exact hkd)]
            · unfold nx_copy
              rw [if_neg (fun h => by have h1 := h.2.1; have h2 := h.2.2.1; rw [ta] at h1 h2; rw [tb] at h2; change 3 ≤ f 24 a at h1; change f 24 a = f 24 b at h2; omega)]
              exact EQ_rfl _
      · have h3 : 3 ≤ f 24 a := by omega
        have hab : f 24 a = f 24 b := by omega
        by_cases hokc : okCopy (I, f, g) (nI a) y (nI b) u v
        · obtain ⟨q1, q2, q3, q4, q5⟩ := id hokc
          rw [tn_nI (by omega)] at q4 q5
          change _ ≤ (f 26 a : Int) at q4
          change _ ≤ (f 26 b : Int) at q5
          obtain ⟨i, hi31, rfl⟩ : ∃ t : Nat, t < 2147483648 ∧ y = nI t := nI_of (fun h => by rw [lt_i] at h; have e0 : (0 : Int32).toInt = 0 := rfl; omega)
          obtain ⟨j, hj31, rfl⟩ : ∃ t : Nat, t < 2147483648 ∧ u = nI t := nI_of (fun h => by rw [lt_i] at h; have e0 : (0 : Int32).toInt = 0 := rfl; omega)
          obtain ⟨m, hm31, rfl⟩ : ∃ t : Nat, t < 2147483648 ∧ v = nI t := nI_of (fun h => by rw [lt_i] at h; have e0 : (0 : Int32).toInt = 0 := rfl; omega)
          rw [nI_toInt (by omega), nI_toInt (by omega)] at q4 q5
          have hend : ∀ (g1 : Nat → Nat → Int32) (v6 : Option Value), (∀ k, k ≠ 27 → g1 k = g k) → (∀ q, g1 27 q = if (400 * b + j) ≤ q ∧ q < (400 * b + j) + m then g 27 ((400 * a + i) + (q - (400 * b + j))) else g 27 q) → GG X (WM (xE X) A w0 I f g1) 0 0 226 [some (.ref (A 0)), some (.int (nI a)), some (.int (nI i)), some (.int (nI b)), some (.int (nI j)), some (.int (nI m)), v6] [] := by
            intro g1 v6 hg h27
            refine r_iload (pq := 228) C dX12_copy_226 rfl rfl ?_
            refine r_iret C D rfl ⟨Nat.le_refl _, Nat.le_refl _⟩ dX12_copy_228 ?_
            refine ⟨?_, (_, _, _), rfl, hB, ?_⟩
            · unfold rs_copy
              rw [if_neg (fun z => z ⟨ha8, hb8⟩), if_neg (by rw [ta, tb]; exact hno), if_neg (by rw [ta, tb]; exact hkd), if_pos hokc]
            · unfold nx_copy
              rw [if_pos ⟨⟨ha8, hb8⟩, by rw [ta]; exact h3, by rw [ta, tb]; exact hab, hokc⟩, ta, tb, tn_nI hi31, tn_nI hj31, tn_nI hm31]
              refine EQ_of3 (fun _ _ _ _ _ _ => rfl) ?_ ?_ (fun d _ _ => ?_) (fun d _ _ e _ => ?_)
              · rw [hg 20 (by decide), va_n _ _ (by decide)]
              · rw [hg 23 (by decide), va_n _ _ (by decide)]
              · rw [hg 25 (by decide), va_n _ _ (by decide)]
              · rw [va_s]
                exact h27 _
          have hback : a = b ∧ i < j → ∀ (k9 : Nat) (g1 : Nat → Nat → Int32), k9 ≤ m → (∀ k, k ≠ 27 → g1 k = g k) → (∀ q, g1 27 q = if (400 * b + j) + k9 ≤ q ∧ q < (400 * b + j) + m then g 27 ((400 * a + i) + (q - (400 * b + j))) else g 27 q) → GG X (WM (xE X) A w0 I f g1) 0 0 173 [some (.ref (A 0)), some (.int (nI a)), some (.int (nI i)), some (.int (nI b)), some (.int (nI j)), some (.int (nI m)), some (.int (nI k9 - 1))] [] := by
            intro hlt k9
            induction k9 with
            | zero =>
              intro g1 hk hg h27
              refine r_iload (pq := 175) C dX12_copy_173 rfl rfl ?_
              refine r_if_lt (tg := 226) (pq := 178) C dX12_copy_175 (by decide) rfl (fun c175 => ?_) (fun c175 => absurd (by decide) c175)
              refine hend g1 _ hg (fun q => ?_)
              rw [h27 q, Nat.add_zero]
            | succ k9 ih =>
              intro g1 hk hg h27
              rw [show nI (k9 + 1) - 1 = nI k9 from nI_pred k9]
              refine r_iload (pq := 175) C dX12_copy_173 rfl rfl ?_
              refine rN_if_lt (tg := 226) (pq := 178) C dX12_copy_175 (by decide) rfl (by omega) ?_
              refine r_iload_n (pq := 179) C dX12_copy_178 rfl rfl ?_
              refine r_iload_n (pq := 180) C dX12_copy_179 rfl rfl ?_
              refine rN_icmp_ne (tg := 226) (pq := 183) C dX12_copy_180 (by decide) rfl (by omega) (by omega) (fun c180 => absurd hlt.1 c180) (fun c180 => ?_)
              refine r_iload_n (pq := 184) C dX12_copy_183 rfl rfl ?_
              refine r_iload (pq := 186) C dX12_copy_184 rfl rfl ?_
              refine rN_icmp_ge (tg := 226) (pq := 189) C dX12_copy_186 (by decide) rfl (by omega) (by omega) (fun c186 => absurd hlt.2 (by omega)) (fun c186 => ?_)
              refine r_aload_n (pq := 190) C dX12_copy_189 rfl rfl ?_
              refine m_geta (pq := 193) C 27 (by decide) rfl rfl (by decide +kernel) dX12_copy_190 rfl ?_
              refine r_sipush (v := nI 400) (pq := 196) C dX12_copy_193 (by decide) rfl ?_
              refine r_iload_n (pq := 197) C dX12_copy_196 rfl rfl ?_
              refine rN_imul (pq := 198) C dX12_copy_197 rfl ?_
              refine r_iload (pq := 200) C dX12_copy_198 rfl rfl ?_
              refine rN_iadd (pq := 201) C dX12_copy_200 rfl ?_
              refine r_iload (pq := 203) C dX12_copy_201 rfl rfl ?_
              refine rN_iadd (pq := 204) C dX12_copy_203 rfl ?_
              refine r_aload_n (pq := 205) C dX12_copy_204 rfl rfl ?_
              refine m_geta (pq := 208) C 27 (by decide) rfl rfl (by decide +kernel) dX12_copy_205 rfl ?_
              refine r_sipush (v := nI 400) (pq := 211) C dX12_copy_208 (by decide) rfl ?_
              refine r_iload_n (pq := 212) C dX12_copy_211 rfl rfl ?_
              refine rN_imul (pq := 213) C dX12_copy_212 rfl ?_
              refine r_iload_n (pq := 214) C dX12_copy_213 rfl rfl ?_
              refine rN_iadd (pq := 215) C dX12_copy_214 rfl ?_
              refine r_iload (pq := 217) C dX12_copy_215 rfl rfl ?_
              refine rN_iadd (pq := 218) C dX12_copy_217 rfl ?_
              refine m_ialdZ (pq := 219) C 27 3200 rfl rfl (by decide) rfl (by decide) (by omega) dX12_copy_218 rfl ?_
              refine m_iastZ (pq := 220) C 27 3200 rfl rfl (by decide) rfl (by decide) (by omega) dX12_copy_219 rfl ?_
              refine r_iinc (pq := 223) C dX12_copy_220 rfl rfl (by decide) rfl rfl ?_
              dsimp only [List.set]
              refine r_goto (tg := 173) C dX12_copy_223 (by decide) ?_
              rw [show Int32.ofInt (-1) = -1 by decide, ← Int32.sub_eq_add_neg]
              refine ih _ (by omega) (fun k hk2 => by rw [va_n _ _ hk2]; exact hg k hk2) (fun q => ?_)
              rw [va_s]
              by_cases e : q = (400 * b + j) + k9
              · subst e
                rw [pk_us, if_pos ⟨by omega, by omega⟩, h27, if_neg (by omega), show 400 * b + j + k9 - (400 * b + j) = k9 by omega]
              · rw [pk_un e, h27 q]
                by_cases z : (400 * b + j) + (k9 + 1) ≤ q ∧ q < (400 * b + j) + m
                · rw [if_pos z, if_pos ⟨by omega, z.2⟩]
                · rw [if_neg z, if_neg (fun y => z ⟨by omega, y.2⟩)]
          have hfor : ¬ (a = b ∧ i < j) → ∀ (t k9 : Nat) (g1 : Nat → Nat → Int32), k9 ≤ m → m - k9 < t → (∀ k, k ≠ 27 → g1 k = g k) → (∀ q, g1 27 q = if (400 * b + j) ≤ q ∧ q < (400 * b + j) + k9 then g 27 ((400 * a + i) + (q - (400 * b + j))) else g 27 q) → GG X (WM (xE X) A w0 I f g1) 0 0 112 [some (.ref (A 0)), some (.int (nI a)), some (.int (nI i)), some (.int (nI b)), some (.int (nI j)), some (.int (nI m)), some (.int (nI k9))] [] := by
            intro hlt t
            induction t with
            | zero => intro k9 g1 h1 h2; omega
            | succ t ih =>
              intro k9 g1 hk ht hg h27
              refine r_iload (pq := 114) C dX12_copy_112 rfl rfl ?_
              refine r_iload (pq := 116) C dX12_copy_114 rfl rfl ?_
              refine rN_icmp_ge (tg := 167) (pq := 119) C dX12_copy_116 (by decide) rfl (by omega) (by omega) (fun c116 => ?_) (fun c116 => ?_)
              · refine r_iload (pq := 169) C dX12_copy_167 rfl rfl ?_
                refine r_iconst (v := nI 1) (pq := 170) C dX12_copy_169 (by decide) rfl ?_
                refine r_isub (pq := 171) C dX12_copy_170 rfl ?_
                refine r_istore (j := 6) (pq := 173) C dX12_copy_171 rfl (by decide) rfl rfl ?_
                dsimp only [List.set]
                refine r_iload (pq := 175) C dX12_copy_173 rfl rfl ?_
                refine r_if_lt (tg := 226) (pq := 178) C dX12_copy_175 (by decide) rfl (fun c175 => ?_) (fun c175 => ?_)
                · exact hend g1 _ hg (fun q => by rw [h27 q, show k9 = m by omega])
                · refine r_iload_n (pq := 179) C dX12_copy_178 rfl rfl ?_
                  refine r_iload_n (pq := 180) C dX12_copy_179 rfl rfl ?_
                  refine rN_icmp_ne (tg := 226) (pq := 183) C dX12_copy_180 (by decide) rfl (by omega) (by omega) (fun c180 => ?_) (fun c180 => ?_)
                  · exact hend g1 _ hg (fun q => by rw [h27 q, show k9 = m by omega])
                  · refine r_iload_n (pq := 184) C dX12_copy_183 rfl rfl ?_
                    refine r_iload (pq := 186) C dX12_copy_184 rfl rfl ?_
                    refine rN_icmp_ge (tg := 226) (pq := 189) C dX12_copy_186 (by decide) rfl (by omega) (by omega) (fun c186 => ?_) (fun c186 => ?_)
                    · exact hend g1 _ hg (fun q => by rw [h27 q, show k9 = m by omega])
                    · exact absurd ⟨c180, by omega⟩ hlt
              · refine r_iload_n (pq := 120) C dX12_copy_119 rfl rfl ?_
                refine r_iload_n (pq := 121) C dX12_copy_120 rfl rfl ?_
                refine rN_icmp_ne (tg := 130) (pq := 124) C dX12_copy_121 (by decide) rfl (by omega) (by omega) (fun c121 => ?_) (fun c121 => ?_)
                · refine r_aload_n (pq := 131) C dX12_copy_130 rfl rfl ?_
                  refine m_geta (pq := 134) C 27 (by decide) rfl rfl (by decide +kernel) dX12_copy_131 rfl ?_
                  refine r_sipush (v := nI 400) (pq := 137) C dX12_copy_134 (by decide) rfl ?_
                  refine r_iload_n (pq := 138) C dX12_copy_137 rfl rfl ?_
                  refine rN_imul (pq := 139) C dX12_copy_138 rfl ?_
                  refine r_iload (pq := 141) C dX12_copy_139 rfl rfl ?_
                  refine rN_iadd (pq := 142) C dX12_copy_141 rfl ?_
                  refine r_iload (pq := 144) C dX12_copy_142 rfl rfl ?_
                  refine rN_iadd (pq := 145) C dX12_copy_144 rfl ?_
                  refine r_aload_n (pq := 146) C dX12_copy_145 rfl rfl ?_
                  refine m_geta (pq := 149) C 27 (by decide) rfl rfl (by decide +kernel) dX12_copy_146 rfl ?_
                  refine r_sipush (v := nI 400) (pq := 152) C dX12_copy_149 (by decide) rfl ?_
                  refine r_iload_n (pq := 153) C dX12_copy_152 rfl rfl ?_
                  refine rN_imul (pq := 154) C dX12_copy_153 rfl ?_
                  refine r_iload_n (pq := 155) C dX12_copy_154 rfl rfl ?_
                  refine rN_iadd (pq := 156) C dX12_copy_155 rfl ?_
                  refine r_iload (pq := 158) C dX12_copy_156 rfl rfl ?_
                  refine rN_iadd (pq := 159) C dX12_copy_158 rfl ?_
                  refine m_ialdZ (pq := 160) C 27 3200 rfl rfl (by decide) rfl (by decide) (by omega) dX12_copy_159 rfl ?_
                  refine m_iastZ (pq := 161) C 27 3200 rfl rfl (by decide) rfl (by decide) (by omega) dX12_copy_160 rfl ?_
                  refine rN_iinc (c := 1) (pq := 164) C dX12_copy_161 rfl (by decide) (by decide) rfl rfl ?_
                  dsimp only [List.set]
                  refine r_goto (tg := 112) C dX12_copy_164 (by decide) ?_
                  refine ih (k9 + 1) _ (by omega) (by omega) (fun k hk2 => by rw [va_n _ _ hk2]; exact hg k hk2) (fun q => ?_)
                  rw [va_s]
                  by_cases e : q = (400 * b + j) + k9
                  · subst e
                    rw [pk_us, if_pos ⟨by omega, by omega⟩, h27, if_neg (by omega), show 400 * b + j + k9 - (400 * b + j) = k9 by omega]
                  · rw [pk_un e, h27 q]
                    by_cases z : (400 * b + j) ≤ q ∧ q < (400 * b + j) + k9
                    · rw [if_pos z, if_pos ⟨z.1, by omega⟩]
                    · rw [if_neg z, if_neg (fun y => z ⟨y.1, by omega⟩)]
                · refine r_iload_n (pq := 125) C dX12_copy_124 rfl rfl ?_
                  refine r_iload (pq := 127) C dX12_copy_125 rfl rfl ?_
                  refine rN_icmp_lt (tg := 167) (pq := 130) C dX12_copy_127 (by decide) rfl (by omega) (by omega) (fun c127 => ?_) (fun c127 => ?_)
                  · exact absurd ⟨c121, c127⟩ hlt
                  · refine r_aload_n (pq := 131) C dX12_copy_130 rfl rfl ?_
                    refine m_geta (pq := 134) C 27 (by decide) rfl rfl (by decide +kernel) dX12_copy_131 rfl ?_
                    refine r_sipush (v := nI 400) (pq := 137) C dX12_copy_134 (by decide) rfl ?_
                    refine r_iload_n (pq := 138) C dX12_copy_137 rfl rfl ?_
                    refine rN_imul (pq := 139) C dX12_copy_138 rfl ?_
                    refine r_iload (pq := 141) C dX12_copy_139 rfl rfl ?_
                    refine rN_iadd (pq := 142) C dX12_copy_141 rfl ?_
                    refine r_iload (pq := 144) C dX12_copy_142 rfl rfl ?_
                    refine rN_iadd (pq := 145) C dX12_copy_144 rfl ?_
                    refine r_aload_n (pq := 146) C dX12_copy_145 rfl rfl ?_
                    refine m_geta (pq := 149) C 27 (by decide) rfl rfl (by decide +kernel) dX12_copy_146 rfl ?_
                    refine r_sipush (v := nI 400) (pq := 152) C dX12_copy_149 (by decide) rfl ?_
                    refine r_iload_n (pq := 153) C dX12_copy_152 rfl rfl ?_
                    refine rN_imul (pq := 154) C dX12_copy_153 rfl ?_
                    refine r_iload_n (pq := 155) C dX12_copy_154 rfl rfl ?_
                    refine rN_iadd (pq := 156) C dX12_copy_155 rfl ?_
                    refine r_iload (pq := 158) C dX12_copy_156 rfl rfl ?_
                    refine rN_iadd (pq := 159) C dX12_copy_158 rfl ?_
                    refine m_ialdZ (pq := 160) C 27 3200 rfl rfl (by decide) rfl (by decide) (by omega) dX12_copy_159 rfl ?_
                    refine m_iastZ (pq := 161) C 27 3200 rfl rfl (by decide) rfl (by decide) (by omega) dX12_copy_160 rfl ?_
                    refine rN_iinc (c := 1) (pq := 164) C dX12_copy_161 rfl (by decide) (by decide) rfl rfl ?_
                    dsimp only [List.set]
                    refine r_goto (tg := 112) C dX12_copy_164 (by decide) ?_
                    refine ih (k9 + 1) _ (by omega) (by omega) (fun k hk2 => by rw [va_n _ _ hk2]; exact hg k hk2) (fun q => ?_)
                    rw [va_s]
                    by_cases e : q = (400 * b + j) + k9
                    · subst e
                      rw [pk_us, if_pos ⟨by omega, by omega⟩, h27, if_neg (by omega), show 400 * b + j + k9 - (400 * b + j) = k9 by omega]
                    · rw [pk_un e, h27 q]
                      by_cases z : (400 * b + j) ≤ q ∧ q < (400 * b + j) + k9
                      · rw [if_pos z, if_pos ⟨z.1, by omega⟩]
                      · rw [if_neg z, if_neg (fun y => z ⟨y.1, by omega⟩)]
          refine r_iload_n (pq := 1) C dX12_copy_0 rfl rfl ?_
          refine r_callS (pq := 4) C (mc_X12_isShelf) gX12_copy_X12_isShelf rfl (na := 1) (by decide +kernel) rfl (by decide) (by decide) (Nat.le_of_ble_eq_true rfl) ⟨Nat.zero_le _, Nat.zero_le _⟩ dX12_copy_1 rfl rfl (fun r9 w9 hq => ?_)
          obtain ⟨rfl, rfl⟩ := hq
          dsimp only [Option.toList, List.cons_append, List.nil_append]
          have l1 := b2_lt (rg (nI a) 8)
          refine rN_if_eq (tg := 14) (pq := 7) C dX12_copy_4 (by decide) rfl (by omega) (fun c4 => absurd c4 (b2_1.mpr ha8)) (fun c4 => ?_)
          refine r_iload_n (pq := 8) C dX12_copy_7 rfl rfl ?_
          refine r_callS (pq := 11) C (mc_X12_isShelf) gX12_copy_X12_isShelf rfl (na := 1) (by decide +kernel) rfl (by decide) (by decide) (Nat.le_of_ble_eq_true rfl) ⟨Nat.zero_le _, Nat.zero_le _⟩ dX12_copy_8 rfl rfl (fun r9 w9 hq => ?_)
          obtain ⟨rfl, rfl⟩ := hq
          dsimp only [Option.toList, List.cons_append, List.nil_append]
          have l8 := b2_lt (rg (nI b) 8)
          refine rN_if_ne (tg := 16) (pq := 14) C dX12_copy_11 (by decide) rfl (by omega) (fun c11 => ?_) (fun c11 => absurd c11 (b2_1.mpr hb8))
          refine r_aload_n (pq := 17) C dX12_copy_16 rfl rfl ?_
          refine m_geta (pq := 20) C 24 (by decide) rfl rfl (by decide +kernel) dX12_copy_17 rfl ?_
          refine r_iload_n (pq := 21) C dX12_copy_20 rfl rfl ?_
          refine m_iald (pq := 22) C hB 24 8 rfl rfl (by decide) rfl (by decide) (by omega) dX12_copy_21 rfl (fun b21 => ?_)
          refine rN_if_eq (tg := 34) (pq := 25) C dX12_copy_22 (by decide) rfl (by omega) (fun c22 => absurd c22 (by omega)) (fun c22 => ?_)
          refine r_aload_n (pq := 26) C dX12_copy_25 rfl rfl ?_
          refine m_geta (pq := 29) C 24 (by decide) rfl rfl (by decide +kernel) dX12_copy_26 rfl ?_
          refine r_iload_n (pq := 30) C dX12_copy_29 rfl rfl ?_
          refine m_iald (pq := 31) C hB 24 8 rfl rfl (by decide) rfl (by decide) (by omega) dX12_copy_30 rfl (fun b30 => ?_)
          refine rN_if_ne (tg := 37) (pq := 34) C dX12_copy_31 (by decide) rfl (by omega) (fun c31 => ?_) (fun c31 => absurd c31 (by omega))
          refine r_aload_n (pq := 38) C dX12_copy_37 rfl rfl ?_
          refine m_geta (pq := 41) C 24 (by decide) rfl rfl (by decide +kernel) dX12_copy_38 rfl ?_
          refine r_iload_n (pq := 42) C dX12_copy_41 rfl rfl ?_
          refine m_iald (pq := 43) C hB 24 8 rfl rfl (by decide) rfl (by decide) (by omega) dX12_copy_42 rfl (fun b42 => ?_)
          refine r_iconst (v := nI 3) (pq := 44) C dX12_copy_43 (by decide) rfl ?_
          refine rN_icmp_lt (tg := 62) (pq := 47) C dX12_copy_44 (by decide) rfl (by omega) (by omega) (fun c44 => absurd c44 (by omega)) (fun c44 => ?_)
          refine r_aload_n (pq := 48) C dX12_copy_47 rfl rfl ?_
          refine m_geta (pq := 51) C 24 (by decide) rfl rfl (by decide +kernel) dX12_copy_48 rfl ?_
          refine r_iload_n (pq := 52) C dX12_copy_51 rfl rfl ?_
          refine m_iald (pq := 53) C hB 24 8 rfl rfl (by decide) rfl (by decide) (by omega) dX12_copy_52 rfl (fun b52 => ?_)
          refine r_aload_n (pq := 54) C dX12_copy_53 rfl rfl ?_
          refine m_geta (pq := 57) C 24 (by decide) rfl rfl (by decide +kernel) dX12_copy_54 rfl ?_
          refine r_iload_n (pq := 58) C dX12_copy_57 rfl rfl ?_
          refine m_iald (pq := 59) C hB 24 8 rfl rfl (by decide) rfl (by decide) (by omega) dX12_copy_58 rfl (fun b58 => ?_)
          refine rN_icmp_eq (tg := 65) (pq := 62) C dX12_copy_59 (by decide) rfl (by omega) (by omega) (fun c59 => ?_) (fun c59 => absurd hab c59)
          refine r_iload (pq := 67) C dX12_copy_65 rfl rfl ?_
          refine rN_if_lt (tg := 106) (pq := 70) C dX12_copy_67 (by decide) rfl (by omega) ?_
          refine r_iload_n (pq := 71) C dX12_copy_70 rfl rfl ?_
          refine rN_if_lt (tg := 106) (pq := 74) C dX12_copy_71 (by decide) rfl (by omega) ?_
          refine r_iload (pq := 76) C dX12_copy_74 rfl rfl ?_
          refine rN_if_lt (tg := 106) (pq := 79) C dX12_copy_76 (by decide) rfl (by omega) ?_
          refine r_iload_n (pq := 80) C dX12_copy_79 rfl rfl ?_
          refine r_aload_n (pq := 81) C dX12_copy_80 rfl rfl ?_
          refine m_geta (pq := 84) C 26 (by decide) rfl rfl (by decide +kernel) dX12_copy_81 rfl ?_
          refine r_iload_n (pq := 85) C dX12_copy_84 rfl rfl ?_
          refine m_iald (pq := 86) C hB 26 8 rfl rfl (by decide) rfl (by decide) (by omega) dX12_copy_85 rfl (fun b85 => ?_)
          refine r_iload (pq := 88) C dX12_copy_86 rfl rfl ?_
          refine rN_isub (pq := 89) C dX12_copy_88 (by omega) rfl ?_
          refine rN_icmp_gt (tg := 106) (pq := 92) C dX12_copy_89 (by decide) rfl (by omega) (by omega) (fun c89 => absurd q4 (by omega)) (fun c89 => ?_)
          refine r_iload (pq := 94) C dX12_copy_92 rfl rfl ?_
          refine r_aload_n (pq := 95) C dX12_copy_94 rfl rfl ?_
          refine m_geta (pq := 98) C 26 (by decide) rfl rfl (by decide +kernel) dX12_copy_95 rfl ?_
          refine r_iload_n (pq := 99) C dX12_copy_98 rfl rfl ?_
          refine m_iald (pq := 100) C hB 26 8 rfl rfl (by decide) rfl (by decide) (by omega) dX12_copy_99 rfl (fun b99 => ?_)
          refine r_iload (pq := 102) C dX12_copy_100 rfl rfl ?_
          refine rN_isub (pq := 103) C dX12_copy_102 (by omega) rfl ?_
          refine rN_icmp_le (tg := 109) (pq := 106) C dX12_copy_103 (by decide) rfl (by omega) (by omega) (fun c103 => ?_) (fun c103 => absurd q5 (by omega))
          refine r_iconst (v := nI 0) (pq := 110) C dX12_copy_109 (by decide) rfl ?_
          refine r_istore (j := 6) (pq := 112) C dX12_copy_110 rfl (by decide) rfl rfl ?_
          dsimp only [List.set]
          by_cases hlt : a = b ∧ i < j
          · have hg : ∀ k, k ≠ 27 → g k = g k := fun _ _ => rfl
            refine r_iload (pq := 114) C dX12_copy_112 rfl rfl ?_
            refine r_iload (pq := 116) C dX12_copy_114 rfl rfl ?_
            refine rN_icmp_ge (tg := 167) (pq := 119) C dX12_copy_116 (by decide) rfl (by omega) (by omega) (fun c116 => ?_) (fun c116 => ?_)
            · refine r_iload (pq := 169) C dX12_copy_167 rfl rfl ?_
              refine r_iconst (v := nI 1) (pq := 170) C dX12_copy_169 (by decide) rfl ?_
              refine r_isub (pq := 171) C dX12_copy_170 rfl ?_
              refine r_istore (j := 6) (pq := 173) C dX12_copy_171 rfl (by decide) rfl rfl ?_
              dsimp only [List.set]
              exact hback hlt m g (Nat.le_refl m) (fun _ _ => rfl) (fun q => by rw [if_neg (by omega)])
            · refine r_iload_n (pq := 120) C dX12_copy_119 rfl rfl ?_
              refine r_iload_n (pq := 121) C dX12_copy_120 rfl rfl ?_
              refine rN_icmp_ne (tg := 130) (pq := 124) C dX12_copy_121 (by decide) rfl (by omega) (by omega) (fun c121 => absurd hlt.1 c121) (fun c121 => ?_)
              refine r_iload_n (pq := 125) C dX12_copy_124 rfl rfl ?_
              refine r_iload (pq := 127) C dX12_copy_125 rfl rfl ?_
              refine rN_icmp_lt (tg := 167) (pq := 130) C dX12_copy_127 (by decide) rfl (by omega) (by omega) (fun c127 => ?_) (fun c127 => absurd hlt.2 (by omega))
              refine r_iload (pq := 169) C dX12_copy_167 rfl rfl ?_
              refine r_iconst (v := nI 1) (pq := 170) C dX12_copy_169 (by decide) rfl ?_
              refine r_isub (pq := 171) C dX12_copy_170 rfl ?_
              refine r_istore (j := 6) (pq := 173) C dX12_copy_171 rfl (by decide) rfl rfl ?_
              dsimp only [List.set]
              exact hback hlt m g (Nat.le_refl m) (fun _ _ => rfl) (fun q => by rw [if_neg (by omega)])
          · exact hfor hlt (m + 1) 0 g (by omega) (by omega) (fun _ _ => rfl) (fun q => by rw [if_neg (by omega)])
        · have rv := fb_rng v
          have ry := fb_rng y
          have ru := fb_rng u
          have e0 : (0 : Int32).toInt = 0 := rfl
          refine r_iload_n (pq := 1) C dX12_copy_0 rfl rfl ?_
          refine r_callS (pq := 4) C (mc_X12_isShelf) gX12_copy_X12_isShelf rfl (na := 1) (by decide +kernel) rfl (by decide) (by decide) (Nat.le_of_ble_eq_true rfl) ⟨Nat.zero_le _, Nat.zero_le _⟩ dX12_copy_1 rfl rfl (fun r9 w9 hq => ?_)
          obtain ⟨rfl, rfl⟩ := hq
          dsimp only [Option.toList, List.cons_append, List.nil_append]
          have l1 := b2_lt (rg (nI a) 8)
          refine rN_if_eq (tg := 14) (pq := 7) C dX12_copy_4 (by decide) rfl (by omega) (fun c4 => absurd c4 (b2_1.mpr ha8)) (fun c4 => ?_)
          refine r_iload_n (pq := 8) C dX12_copy_7 rfl rfl ?_
          refine r_callS (pq := 11) C (mc_X12_isShelf) gX12_copy_X12_isShelf rfl (na := 1) (by decide +kernel) rfl (by decide) (by decide) (Nat.le_of_ble_eq_true rfl) ⟨Nat.zero_le _, Nat.zero_le _⟩ dX12_copy_8 rfl rfl (fun r9 w9 hq => ?_)
          obtain ⟨rfl, rfl⟩ := hq
          dsimp only [Option.toList, List.cons_append, List.nil_append]
          have l8 := b2_lt (rg (nI b) 8)
          refine rN_if_ne (tg := 16) (pq := 14) C dX12_copy_11 (by decide) rfl (by omega) (fun c11 => ?_) (fun c11 => absurd c11 (b2_1.mpr hb8))
          refine r_aload_n (pq := 17) C dX12_copy_16 rfl rfl ?_
          refine m_geta (pq := 20) C 24 (by decide) rfl rfl (by decide +kernel) dX12_copy_17 rfl ?_
          refine r_iload_n (pq := 21) C dX12_copy_20 rfl rfl ?_
          refine m_iald (pq := 22) C hB 24 8 rfl rfl (by decide) rfl (by decide) (by omega) dX12_copy_21 rfl (fun b21 => ?_)
          refine rN_if_eq (tg := 34) (pq := 25) C dX12_copy_22 (by decide) rfl (by omega) (fun c22 => absurd c22 (by omega)) (fun c22 => ?_)
          refine r_aload_n (pq := 26) C dX12_copy_25 rfl rfl ?_
          refine m_geta (pq := 29) C 24 (by decide) rfl rfl (by decide +kernel) dX12_copy_26 rfl ?_
          refine r_iload_n (pq := 30) C dX12_copy_29 rfl rfl ?_
          refine m_iald (pq := 31) C hB 24 8 rfl rfl (by decide) rfl (by decide) (by omega) dX12_copy_30 rfl (fun b30 => ?_)
          refine rN_if_ne (tg := 37) (pq := 34) C dX12_copy_31 (by decide) rfl (by omega) (fun c31 => ?_) (fun c31 => absurd c31 (by omega))
          refine r_aload_n (pq := 38) C dX12_copy_37 rfl rfl ?_
          refine m_geta (pq := 41) C 24 (by decide) rfl rfl (by decide +kernel) dX12_copy_38 rfl ?_
          refine r_iload_n (pq := 42) C dX12_copy_41 rfl rfl ?_
          refine m_iald (pq := 43) C hB 24 8 rfl rfl (by decide) rfl (by decide) (by omega) dX12_copy_42 rfl (fun b42 => ?_)
          refine r_iconst (v := nI 3) (pq := 44) C dX12_copy_43 (by decide) rfl ?_
          refine rN_icmp_lt (tg := 62) (pq := 47) C dX12_copy_44 (by decide) rfl (by omega) (by omega) (fun c44 => absurd c44 (by omega)) (fun c44 => ?_)
          refine r_aload_n (pq := 48) C dX12_copy_47 rfl rfl ?_
          refine m_geta (pq := 51) C 24 (by decide) rfl rfl (by decide +kernel) dX12_copy_48 rfl ?_
          refine r_iload_n (pq := 52) C dX12_copy_51 rfl rfl ?_
          refine m_iald (pq := 53) C hB 24 8 rfl rfl (by decide) rfl (by decide) (by omega) dX12_copy_52 rfl (fun b52 => ?_)
          refine r_aload_n (pq := 54) C dX12_copy_53 rfl rfl ?_
          refine m_geta (pq := 57) C 24 (by decide) rfl rfl (by decide +kernel) dX12_copy_54 rfl ?_
          refine r_iload_n (pq := 58) C dX12_copy_57 rfl rfl ?_
          refine m_iald (pq := 59) C hB 24 8 rfl rfl (by decide) rfl (by decide) (by omega) dX12_copy_58 rfl (fun b58 => ?_)
          refine rN_icmp_eq (tg := 65) (pq := 62) C dX12_copy_59 (by decide) rfl (by omega) (by omega) (fun c59 => ?_) (fun c59 => absurd hab c59)
          refine r_iload (pq := 67) C dX12_copy_65 rfl rfl ?_
          refine r_if_lt (tg := 106) (pq := 70) C dX12_copy_67 (by decide) rfl (fun c67 => ?_) (fun c67 => ?_)
          · refine r_bipush (v := (-13)) (pq := 108) C dX12_copy_106 (by decide) rfl ?_
            refine r_iret C D rfl ⟨Nat.le_refl _, Nat.le_refl _⟩ dX12_copy_108 ?_
            refine ⟨?_, (I, f, g), rfl, hB, ?_⟩
            · unfold rs_copy
              rw [if_neg (fun z => z ⟨ha8, hb8⟩), if_neg (by rw [ta, tb]; exact hno), if_neg (by rw [ta, tb]; exact hkd), if_neg hokc]
            · unfold nx_copy
              rw [if_neg (fun h => hokc h.2.2.2)]
              exact EQ_rfl _
          · refine r_iload_n (pq := 71) C dX12_copy_70 rfl rfl ?_
            refine r_if_lt (tg := 106) (pq := 74) C dX12_copy_71 (by decide) rfl (fun c71 => ?_) (fun c71 => ?_)
            · refine r_bipush (v := (-13)) (pq := 108) C dX12_copy_106 (by decide) rfl ?_
              refine r_iret C D rfl ⟨Nat.le_refl _, Nat.le_refl _⟩ dX12_copy_108 ?_
              refine ⟨?_, (I, f, g), rfl, hB, ?_⟩
              · unfold rs_copy
                rw [if_neg (fun z => z ⟨ha8, hb8⟩), if_neg (by rw [ta, tb]; exact hno), if_neg (by rw [ta, tb]; exact hkd), if_neg hokc]
              · unfold nx_copy
                rw [if_neg (fun h => hokc h.2.2.2)]
                exact EQ_rfl _
            · refine r_iload (pq := 76) C dX12_copy_74 rfl rfl ?_
              refine r_if_lt (tg := 106) (pq := 79) C dX12_copy_76 (by decide) rfl (fun c76 => ?_) (fun c76 => ?_)
              · refine r_bipush (v := (-13)) (pq := 108) C dX12_copy_106 (by decide) rfl ?_
                refine r_iret C D rfl ⟨Nat.le_refl _, Nat.le_refl _⟩ dX12_copy_108 ?_
                refine ⟨?_, (I, f, g), rfl, hB, ?_⟩
                · unfold rs_copy
                  rw [if_neg (fun z => z ⟨ha8, hb8⟩), if_neg (by rw [ta, tb]; exact hno), if_neg (by rw [ta, tb]; exact hkd), if_neg hokc]
                · unfold nx_copy
                  rw [if_neg (fun h => hokc h.2.2.2)]
                  exact EQ_rfl _
              · refine r_iload_n (pq := 80) C dX12_copy_79 rfl rfl ?_
                refine r_aload_n (pq := 81) C dX12_copy_80 rfl rfl ?_
                refine m_geta (pq := 84) C 26 (by decide) rfl rfl (by decide +kernel) dX12_copy_81 rfl ?_
                refine r_iload_n (pq := 85) C dX12_copy_84 rfl rfl ?_
                refine m_iald (pq := 86) C hB 26 8 rfl rfl (by decide) rfl (by decide) (by omega) dX12_copy_85 rfl (fun b85 => ?_)
                refine r_iload (pq := 88) C dX12_copy_86 rfl rfl ?_
                refine r_isub (pq := 89) C dX12_copy_88 rfl ?_
                have s88 : (nI (f 26 a) - v).toInt = (f 26 a : Int) - v.toInt := by
                  rw [fb_subI, nI_toInt (by omega)] <;> rw [nI_toInt (by omega)] <;> (rw [lt_i] at c67; omega)
                refine r_icmp_gt (tg := 106) (pq := 92) C dX12_copy_89 (by decide) rfl (fun c89 => ?_) (fun c89 => ?_)
                · refine r_bipush (v := (-13)) (pq := 108) C dX12_copy_106 (by decide) rfl ?_
                  refine r_iret C D rfl ⟨Nat.le_refl _, Nat.le_refl _⟩ dX12_copy_108 ?_
                  refine ⟨?_, (I, f, g), rfl, hB, ?_⟩
                  · unfold rs_copy
                    rw [if_neg (fun z => z ⟨ha8, hb8⟩), if_neg (by rw [ta, tb]; exact hno), if_neg (by rw [ta, tb]; exact hkd), if_neg hokc]
                  · unfold nx_copy
                    rw [if_neg (fun h => hokc h.2.2.2)]
                    exact EQ_rfl _
                · refine r_iload (pq := 94) C dX12_copy_92 rfl rfl ?_
                  refine r_aload_n (pq := 95) C dX12_copy_94 rfl rfl ?_
                  refine m_geta (pq := 98) C 26 (by decide) rfl rfl (by decide +kernel) dX12_copy_95 rfl ?_
                  refine r_iload_n (pq := 99) C dX12_copy_98 rfl rfl ?_
                  refine m_iald (pq := 100) C hB 26 8 rfl rfl (by decide) rfl (by decide) (by omega) dX12_copy_99 rfl (fun b99 => ?_)
                  refine r_iload (pq := 102) C dX12_copy_100 rfl rfl ?_
                  refine r_isub (pq := 103) C dX12_copy_102 rfl ?_
                  have s102 : (nI (f 26 b) - v).toInt = (f 26 b : Int) - v.toInt := by
                    rw [fb_subI, nI_toInt (by omega)] <;> rw [nI_toInt (by omega)] <;> (rw [lt_i] at c67; omega)
                  refine r_icmp_le (tg := 109) (pq := 106) C dX12_copy_103 (by decide) rfl (fun c103 => ?_) (fun c103 => ?_)
                  · refine absurd (show okCopy (I, f, g) (nI a) y (nI b) u v from ⟨by rw [lt_i] at c67; omega, by rw [lt_i] at c71; omega, by rw [lt_i] at c76; omega, ?_, ?_⟩) hokc
                    · rw [tn_nI (by omega)]; rw [lt_i] at c89; show _ ≤ (f 26 a : Int); omega
                    · rw [tn_nI (by omega)]; rw [le_i] at c103; show _ ≤ (f 26 b : Int); omega
                  · refine r_bipush (v := (-13)) (pq := 108) C dX12_copy_106 (by decide) rfl ?_
                    refine r_iret C D rfl ⟨Nat.le_refl _, Nat.le_refl _⟩ dX12_copy_108 ?_
                    refine ⟨?_, (I, f, g), rfl, hB, ?_⟩
                    · unfold rs_copy
                      rw [if_neg (fun z => z ⟨ha8, hb8⟩), if_neg (by rw [ta, tb]; exact hno), if_neg (by rw [ta, tb]; exact hkd), if_neg hokc]
                    · unfold nx_copy
                      rw [if_neg (fun h => hokc h.2.2.2)]
                      exact EQ_rfl _
  · refine r_iload_n (pq := 1) C dX12_copy_0 rfl rfl ?_
    refine r_callS (pq := 4) C (mc_X12_isShelf) gX12_copy_X12_isShelf rfl (na := 1) (by decide +kernel) rfl (by decide) (by decide) (Nat.le_of_ble_eq_true rfl) ⟨Nat.zero_le _, Nat.zero_le _⟩ dX12_copy_1 rfl rfl (fun r9 w9 hq => ?_)
    obtain ⟨rfl, rfl⟩ := hq
    dsimp only [Option.toList, List.cons_append, List.nil_append]
    have l1 := b2_lt (rg x 8)
    refine rN_if_eq (tg := 14) (pq := 7) C dX12_copy_4 (by decide) rfl (by omega) (fun c4 => ?_) (fun c4 => ?_)
    · refine r_iconst (v := (-1)) (pq := 15) C dX12_copy_14 (by decide) rfl ?_
      refine r_iret C D rfl ⟨Nat.le_refl _, Nat.le_refl _⟩ dX12_copy_15 ?_
      refine ⟨?_, (I, f, g), rfl, hB, ?_⟩
      · unfold rs_copy
        rw [if_pos hsh]
      · unfold nx_copy
        rw [if_neg (fun h => hsh h.1)]
        exact EQ_rfl _
    · refine r_iload_n (pq := 8) C dX12_copy_7 rfl rfl ?_
      refine r_callS (pq := 11) C (mc_X12_isShelf) gX12_copy_X12_isShelf rfl (na := 1) (by decide +kernel) rfl (by decide) (by decide) (Nat.le_of_ble_eq_true rfl) ⟨Nat.zero_le _, Nat.zero_le _⟩ dX12_copy_8 rfl rfl (fun r9 w9 hq => ?_)
      obtain ⟨rfl, rfl⟩ := hq
      dsimp only [Option.toList, List.cons_append, List.nil_append]
      have l8 := b2_lt (rg z 8)
      refine rN_if_ne (tg := 16) (pq := 14) C dX12_copy_11 (by decide) rfl (by omega) (fun c11 => ?_) (fun c11 => ?_)
      · exact absurd ⟨b2_1.mp c4, b2_1.mp c11⟩ hsh
      · refine r_iconst (v := (-1)) (pq := 15) C dX12_copy_14 (by decide) rfl ?_
        refine r_iret C D rfl ⟨Nat.le_refl _, Nat.le_refl _⟩ dX12_copy_15 ?_
        refine ⟨?_, (I, f, g), rfl, hB, ?_⟩
        · unfold rs_copy
          rw [if_pos hsh]
        · unfold nx_copy
          rw [if_neg (fun h => hsh h.1)]
          exact EQ_rfl _


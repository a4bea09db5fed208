/-! ===== the reference: join, law, kept, first, broken ===== -/
theorem ps_le1 {h : Nat → Nat} {n : Nat} (hh : ∀ i, i < n → h i ≤ 1) : ps h n ≤ n := by
  have e : ps h n = ps (fun i => if i < n then h i else 0) n := ps_congr (fun i hi => by simp [hi])
  rw [e]
  exact ps_le (fun i => by split; exact hh i (by assumption); omega) n
set_option maxHeartbeats 4000000 in
set_option maxRecDepth 100000 in
/-- join -/
theorem mc_X12_join {l : Launch} {E : EV} {A : Nat → Nat} {w0 : RW} {I : Nat → Nat} {f : Nat → Nat → Nat} {g : Nat → Nat → Int32} (hS : SI (I, f, g)) {x y : Int32} : MC l E yX12_join wsX12_join 3 0 0 [.ref (A 0), .int x, .int y] (WM E A w0 I f g) (mP E A w0 (rs_join (I, f, g) x y) (nx_join (I, f, g) x y)) := by
  refine MC.enter (cc := cX12_join) (maxL := 5) (ret := (some .int)) (lv0 := [some (.ref (A 0)), some (.int x), some (.int y), none, none]) (by decide) rfl (by simp [Value.category]) (Nat.le_of_ble_eq_true rfl) rfl ?_
  intro X hl hE C D
  subst hl
  subst hE
  have hB : mOK I f := hS.1
  by_cases hok : okJoin (I, f, g) x y
  · have hP6 : I 1 ≤ 6 := hS.2.1
    have hM : I 5 ≤ 80 := hS.2.2.1
    obtain ⟨p, hp, rfl⟩ := rg_of hok.1 (by show I 1 < _; omega)
    obtain ⟨q, hq9, rfl⟩ := rg_of hok.2.1 (by show I 1 < _; omega)
    change p < I 1 at hp
    change q < I 1 at hq9
    have hpq : p ≠ q := fun h => hok.2.2 (by rw [h])
    by_cases hj : f 4 p = 0 ∧ f 4 q = 0
    · obtain ⟨hj1, hj2⟩ := hj
      have loop3 : ∀ (f1 : Nat → Nat → Nat), (∀ i, i < I 5 → f1 15 i = if f 7 i = q then 1 else 0) → ¬ whl (jnf f (I 5) p q) (I 5) p → ∀ (t m : Nat) (f3 : Nat → Nat → Nat), m ≤ I 5 → I 5 - m < t → (mOK I f3 ∧ (∀ k, k ≠ 15 → k ≠ 7 → f3 k = f k) ∧ f3 15 = f1 15 ∧ (∀ i, f3 7 i = if m ≤ i ∧ i < I 5 ∧ f 7 i = q then p else f 7 i)) → GG X (WM (xE X) A w0 I f3 g) 0 0 162 [some (.ref (A 0)), some (.int (nI p)), some (.int (nI q)), some (.int (nI (ps (fun m => if f 7 m = q then 1 else 0) (I 5)))), some (.int (nI m))] [] := by
        intro f1 hs hno t
        induction t with
        | zero => intro m f3 h1 h2; omega
        | succ t ih =>
          intro m f3 hm ht hI
          obtain ⟨hB, hk, h15, h7⟩ := hI
          have z7 := h7 m
          refine r_iload (pq := 164) C dX12_join_162 rfl rfl ?_
          refine r_aload_n (pq := 165) C dX12_join_164 rfl rfl ?_
          refine m_geti (pq := 168) C hB 5 (by decide) rfl rfl (by decide +kernel) dX12_join_165 rfl (fun b165 => ?_)
          refine rN_icmp_ge (tg := 205) (pq := 171) C dX12_join_168 (by decide) rfl (by omega) (by omega) (fun c168 => ?_) (fun c168 => ?_)
          · refine r_bipush (v := (-4)) (pq := 207) C dX12_join_205 (by decide) rfl ?_
            refine r_iret C D rfl ⟨Nat.le_refl _, Nat.le_refl _⟩ dX12_join_207 ?_
            refine ⟨?_, (_, _, _), rfl, hB, ?_⟩
            · unfold rs_join
              rw [if_pos hok, tn_nI (by omega), tn_nI (by omega), if_neg (fun h => h.elim (fun h => h hj1) (fun h => h hj2)), if_neg hno]
            · unfold nx_join
              rw [if_neg (fun h => hno (by have h9 := h.2.2; rw [tn_nI (by omega), tn_nI (by omega)] at h9; exact h9))]
              refine EQ_of rfl rfl rfl (fun k q1 q2 q3 q4 q5 => ?_) rfl
              by_cases e : k = 7
              · subst e
                funext i
                rw [h7 i, if_neg (fun q9 => by omega)]
              · exact hk k q4 e
          · refine r_aload_n (pq := 172) C dX12_join_171 rfl rfl ?_
            refine m_geta (pq := 175) C 7 (by decide) rfl rfl (by decide +kernel) dX12_join_172 rfl ?_
            refine r_iload (pq := 177) C dX12_join_175 rfl rfl ?_
            refine r_aload_n (pq := 178) C dX12_join_177 rfl rfl ?_
            refine m_geta (pq := 181) C 15 (by decide) rfl rfl (by decide +kernel) dX12_join_178 rfl ?_
            refine r_iload (pq := 183) C dX12_join_181 rfl rfl ?_
            refine m_zald (pq := 184) C hB 15 80 rfl rfl (by decide) rfl (by decide) (by omega) dX12_join_183 rfl (fun b183 => ?_)
            refine rN_if_eq (tg := 191) (pq := 187) C dX12_join_184 (by decide) rfl (by omega) (fun c184 => ?_) (fun c184 => ?_)
            · refine r_aload_n (pq := 192) C dX12_join_191 rfl rfl ?_
              refine m_geta (pq := 195) C 7 (by decide) rfl rfl (by decide +kernel) dX12_join_192 rfl ?_
              refine r_iload (pq := 197) C dX12_join_195 rfl rfl ?_
              refine m_iald (pq := 198) C hB 7 80 rfl rfl (by decide) rfl (by decide) (by omega) dX12_join_197 rfl (fun b197 => ?_)
              refine m_iast (pq := 199) C hB 7 80 rfl rfl (by decide) rfl (by decide) (by omega) dX12_join_198 rfl (by omega) (fun hB => ?_)
              refine rN_iinc (c := 1) (pq := 202) C dX12_join_199 rfl (by decide) (by decide) rfl rfl ?_
              dsimp only [List.set]
              refine r_goto (tg := 162) C dX12_join_202 (by decide) ?_
              refine ih (m + 1) _ (by omega) (by omega) ⟨hB, fun k h1 h2 => by rw [va_n _ _ h2]; exact hk k h1 h2, by rw [va_n _ _ (by decide)]; exact h15, fun i => ?_⟩
              rw [va_s]
              by_cases e : i = m
              · subst e
                rw [va_s, if_neg (fun q9 => by omega)]
                have z8 := hs i (by omega)
                rw [← h15] at z8
                by_cases q9 : f 7 i = q
                · rw [if_pos q9] at z8
                  first | exact q9.symm | exact absurd c184 (by omega)
                · rw [if_neg q9] at z8
                  first | exact absurd c184 (by omega) | rw [z7, if_neg (fun q8 => q9 q8.2.2)]
              · rw [va_n _ _ e, h7 i]
                by_cases q9 : m ≤ i ∧ i < I 5 ∧ f 7 i = q
                · rw [if_pos q9, if_pos ⟨by omega, q9.2⟩]
                · rw [if_neg q9, if_neg (fun q8 => q9 ⟨by omega, q8.2⟩)]
            · refine r_iload_n (pq := 188) C dX12_join_187 rfl rfl ?_
              refine r_goto (tg := 198) C dX12_join_188 (by decide) ?_
              refine m_iast (pq := 199) C hB 7 80 rfl rfl (by decide) rfl (by decide) (by omega) dX12_join_198 rfl (by omega) (fun hB => ?_)
              refine rN_iinc (c := 1) (pq := 202) C dX12_join_199 rfl (by decide) (by decide) rfl rfl ?_
              dsimp only [List.set]
              refine r_goto (tg := 162) C dX12_join_202 (by decide) ?_
              refine ih (m + 1) _ (by omega) (by omega) ⟨hB, fun k h1 h2 => by rw [va_n _ _ h2]; exact hk k h1 h2, by rw [va_n _ _ (by decide)]; exact h15, fun i => ?_⟩
              rw [va_s]
              by_cases e : i = m
              · subst e
                rw [va_s, if_neg (fun q9 => by omega)]
                have z8 := hs i (by omega)
                rw [← h15] at z8
                by_cases q9 : f 7 i = q
                · rw [if_pos q9] at z8
                  first | exact q9.symm | exact absurd c184 (by omega)
                · rw [if_neg q9] at z8
                  first | exact absurd c184 (by omega) | rw [z7, if_neg (fun q8 => q9 q8.2.2)]
              · rw [va_n _ _ e, h7 i]
                by_cases q9 : m ≤ i ∧ i < I 5 ∧ f 7 i = q
                · rw [if_pos q9, if_pos ⟨by omega, q9.2⟩]
                · rw [if_neg q9, if_neg (fun q8 => q9 ⟨by omega, q8.2⟩)]
      have loop2 : ∀ (f1 : Nat → Nat → Nat), (∀ i, i < I 5 → f1 15 i = if f 7 i = q then 1 else 0) → ∀ (t m : Nat) (f2 : Nat → Nat → Nat), m ≤ I 5 → I 5 - m < t → (mOK I f2 ∧ (∀ k, k ≠ 15 → k ≠ 7 → f2 k = f k) ∧ f2 15 = f1 15 ∧ (∀ i, f2 7 i = if i < m ∧ f 7 i = q then p else f 7 i)) → GG X (WM (xE X) A w0 I f2 g) 0 0 108 [some (.ref (A 0)), some (.int (nI p)), some (.int (nI q)), some (.int (nI (ps (fun m => if f 7 m = q then 1 else 0) (I 5)))), some (.int (nI m))] [] := by
        intro f1 hs t
        induction t with
        | zero => intro m f2 h1 h2; omega
        | succ t ih =>
          intro m f2 hm ht hI
          obtain ⟨hB, hk, h15, h7⟩ := hI
          have z1 : (ps (fun m => if f 7 m = q then 1 else 0) (I 5)) ≤ I 5 := ps_le1 (fun i _ => by split <;> omega)
          have z7 : f2 7 m = f 7 m := by rw [h7 m, if_neg (by omega)]
          refine r_iload (pq := 110) C dX12_join_108 rfl rfl ?_
          refine r_aload_n (pq := 111) C dX12_join_110 rfl rfl ?_
          refine m_geti (pq := 114) C hB 5 (by decide) rfl rfl (by decide +kernel) dX12_join_111 rfl (fun b111 => ?_)
          refine rN_icmp_ge (tg := 151) (pq := 117) C dX12_join_114 (by decide) rfl (by omega) (by omega) (fun c114 => ?_) (fun c114 => ?_)
          · refine r_aload_n (pq := 152) C dX12_join_151 rfl rfl ?_
            refine r_iload_n (pq := 153) C dX12_join_152 rfl rfl ?_
            refine r_callV (pq := 156) C (mc_X12_isWhole hB hM (by omega)) (WM_obj _ _ _ _ _ _) rfl gX12_join_X12_isWhole rfl (na := 1) (by decide +kernel) rfl (by decide) (by decide) (Nat.le_of_ble_eq_true rfl) ⟨Nat.zero_le _, Nat.zero_le _⟩ dX12_join_153 rfl rfl (fun r9 w9 hq => ?_)
            obtain ⟨rfl, rfl⟩ := hq
            dsimp only [Option.toList, List.cons_append, List.nil_append]
            have e9 : ∀ d, cn f2 (I 5) p d = cn (jnf f (I 5) p q) (I 5) p d := fun d => cn_congr (fun k q1 q2 => by
                by_cases e : k = 7
                · subst e
                  funext i
                  rw [h7 i, show m = I 5 by omega]
                  unfold jnf
                  rw [va_s]
                · unfold jnf
                  rw [va_n _ _ e]
                  exact hk k (by omega) e) _ _ _
            have e99 : whl f2 (I 5) p = whl (jnf f (I 5) p q) (I 5) p := by unfold whl; simp only [e9]
            have l153 := b2_lt (whl f2 (I 5) p)
            refine rN_if_ne (tg := 208) (pq := 159) C dX12_join_156 (by decide) rfl (by omega) (fun c156 => ?_) (fun c156 => ?_)
            · refine r_aload_n (pq := 209) C dX12_join_208 rfl rfl ?_
              refine m_geta (pq := 212) C 4 (by decide) rfl rfl (by decide +kernel) dX12_join_209 rfl ?_
              refine r_iload_n (pq := 213) C dX12_join_212 rfl rfl ?_
              refine r_iconst (v := nI 1) (pq := 214) C dX12_join_213 (by decide) rfl ?_
              refine m_zast (pq := 215) C hB 4 6 (by omega) rfl rfl (by decide) rfl (by decide) (by omega) dX12_join_214 rfl (by omega) (fun hB => ?_)
              refine r_iload_n (pq := 216) C dX12_join_215 rfl rfl ?_
              refine r_iret C D rfl ⟨Nat.le_refl _, Nat.le_refl _⟩ dX12_join_216 ?_
              have hyes : whl (jnf f (I 5) p q) (I 5) p := by rw [← e99]; exact b2_1.mp c156
              refine ⟨?_, (_, _, _), rfl, hB, ?_⟩
              · unfold rs_join
                rw [if_pos hok, tn_nI (by omega), tn_nI (by omega), if_neg (fun h => h.elim (fun h => h hj1) (fun h => h hj2)), if_pos hyes]
              · unfold nx_join
                rw [if_pos (by rw [tn_nI (by omega), tn_nI (by omega)]; exact ⟨hok, ⟨hj1, hj2⟩, hyes⟩), tn_nI (by omega), tn_nI (by omega)]
                refine EQ_of rfl rfl rfl (fun k q1 q2 q3 q4 q5 => ?_) rfl
                show va_up f2 4 (va_up (f2 4) q 1) k = upf (jnf f (I 5) p q) 4 q 1 k
                unfold upf jnf
                by_cases e4 : k = 4
                · subst e4
                  rw [va_s, va_s, va_n _ _ (by decide), hk 4 (by decide) (by decide)]
                · rw [va_n _ _ e4, va_n _ _ e4]
                  by_cases e : k = 7
                  · subst e
                    rw [va_s]
                    funext i
                    rw [h7 i, show m = I 5 by omega]
                  · rw [va_n _ _ e]
                    exact hk k q4 e
            · refine r_iconst (v := nI 0) (pq := 160) C dX12_join_159 (by decide) rfl ?_
              refine r_istore (j := 4) (pq := 162) C dX12_join_160 rfl (by decide) rfl rfl ?_
              dsimp only [List.set]
              have hno : ¬ whl (jnf f (I 5) p q) (I 5) p := by rw [← e99]; exact b2_0.mp c156
              exact loop3 f1 hs hno (I 5 + 1) 0 f2 (by omega) (by omega) ⟨hB, hk, h15, fun i => by rw [h7 i, show m = I 5 by omega]; by_cases q9 : i < I 5 ∧ f 7 i = q; rw [if_pos q9, if_pos ⟨by omega, q9.1, q9.2⟩]; rw [if_neg q9, if_neg (fun q8 => q9 ⟨q8.2.1, q8.2.2⟩)]⟩
          · refine r_aload_n (pq := 118) C dX12_join_117 rfl rfl ?_
            refine m_geta (pq := 121) C 7 (by decide) rfl rfl (by decide +kernel) dX12_join_118 rfl ?_
            refine r_iload (pq := 123) C dX12_join_121 rfl rfl ?_
            refine r_aload_n (pq := 124) C dX12_join_123 rfl rfl ?_
            refine m_geta (pq := 127) C 15 (by decide) rfl rfl (by decide +kernel) dX12_join_124 rfl ?_
            refine r_iload (pq := 129) C dX12_join_127 rfl rfl ?_
            refine m_zald (pq := 130) C hB 15 80 rfl rfl (by decide) rfl (by decide) (by omega) dX12_join_129 rfl (fun b129 => ?_)
            refine rN_if_eq (tg := 137) (pq := 133) C dX12_join_130 (by decide) rfl (by omega) (fun c130 => ?_) (fun c130 => ?_)
            · refine r_aload_n (pq := 138) C dX12_join_137 rfl rfl ?_
              refine m_geta (pq := 141) C 7 (by decide) rfl rfl (by decide +kernel) dX12_join_138 rfl ?_
              refine r_iload (pq := 143) C dX12_join_141 rfl rfl ?_
              refine m_iald (pq := 144) C hB 7 80 rfl rfl (by decide) rfl (by decide) (by omega) dX12_join_143 rfl (fun b143 => ?_)
              refine m_iast (pq := 145) C hB 7 80 rfl rfl (by decide) rfl (by decide) (by omega) dX12_join_144 rfl (by omega) (fun hB => ?_)
              refine rN_iinc (c := 1) (pq := 148) C dX12_join_145 rfl (by decide) (by decide) rfl rfl ?_
              dsimp only [List.set]
              refine r_goto (tg := 108) C dX12_join_148 (by decide) ?_
              refine ih (m + 1) _ (by omega) (by omega) ⟨hB, fun k h1 h2 => by rw [va_n _ _ h2]; exact hk k h1 h2, by rw [va_n _ _ (by decide)]; exact h15, fun i => ?_⟩
              rw [va_s]
              by_cases e : i = m
              · subst e
                rw [va_s]
                have z8 := hs i (by omega)
                rw [← h15] at z8
                first | rw [if_pos ⟨by omega, by rw [z8] at c130; by_cases q9 : f 7 i = q; exact q9; rw [if_neg q9] at c130; omega⟩] | rw [if_neg (fun q9 => by rw [z8, if_pos q9.2] at c130; omega), z7]
              · rw [va_n _ _ e, h7 i]
                by_cases q9 : i < m ∧ f 7 i = q
                · rw [if_pos q9, if_pos ⟨by omega, q9.2⟩]
                · rw [if_neg q9, if_neg (fun q8 => q9 ⟨by omega, q8.2⟩)]
            · refine r_iload_n (pq := 134) C dX12_join_133 rfl rfl ?_
              refine r_goto (tg := 144) C dX12_join_134 (by decide) ?_
              refine m_iast (pq := 145) C hB 7 80 rfl rfl (by decide) rfl (by decide) (by omega) dX12_join_144 rfl (by omega) (fun hB => ?_)
              refine rN_iinc (c := 1) (pq := 148) C dX12_join_145 rfl (by decide) (by decide) rfl rfl ?_
              dsimp only [List.set]
              refine r_goto (tg := 108) C dX12_join_148 (by decide) ?_
              refine ih (m + 1) _ (by omega) (by omega) ⟨hB, fun k h1 h2 => by rw [va_n _ _ h2]; exact hk k h1 h2, by rw [va_n _ _ (by decide)]; exact h15, fun i => ?_⟩
              rw [va_s]
              by_cases e : i = m
              · subst e
                rw [va_s]
                have z8 := hs i (by omega)
                rw [← h15] at z8
                first | rw [if_pos ⟨by omega, by rw [z8] at c130; by_cases q9 : f 7 i = q; exact q9; rw [if_neg q9] at c130; omega⟩] | rw [if_neg (fun q9 => by rw [z8, if_pos q9.2] at c130; omega), z7]
              · rw [va_n _ _ e, h7 i]
                by_cases q9 : i < m ∧ f 7 i = q
                · rw [if_pos q9, if_pos ⟨by omega, q9.2⟩]
                · rw [if_neg q9, if_neg (fun q8 => q9 ⟨by omega, q8.2⟩)]
      have loop2a : ∀ (f1 : Nat → Nat → Nat), mOK I f1 → (∀ k, k ≠ 15 → f1 k = f k) → (∀ i, i < I 5 → f1 15 i = if f 7 i = q then 1 else 0) → GG X (WM (xE X) A w0 I f1 g) 0 0 105 [some (.ref (A 0)), some (.int (nI p)), some (.int (nI q)), some (.int (nI (ps (fun m => if f 7 m = q then 1 else 0) (I 5)))), some (.int (nI (I 5)))] [] := by
        intro f1 hB hk hs
        refine r_iconst (v := nI 0) (pq := 106) C dX12_join_105 (by decide) rfl ?_
        refine r_istore (j := 4) (pq := 108) C dX12_join_106 rfl (by decide) rfl rfl ?_
        dsimp only [List.set]
        exact loop2 f1 hs (I 5 + 1) 0 f1 (by omega) (by omega) ⟨hB, fun k h1 _ => hk k h1, rfl, fun i => by rw [hk 7 (by decide), if_neg (fun q9 => by omega)]⟩
      have loop1 : ∀ (t m : Nat) (f1 : Nat → Nat → Nat), m ≤ I 5 → I 5 - m < t → (mOK I f1 ∧ (∀ k, k ≠ 15 → f1 k = f k) ∧ ∀ i, i < m → f1 15 i = if f 7 i = q then 1 else 0) → GG X (WM (xE X) A w0 I f1 g) 0 0 49 [some (.ref (A 0)), some (.int (nI p)), some (.int (nI q)), some (.int (nI (ps (fun m => if f 7 m = q then 1 else 0) m))), some (.int (nI m))] [] := by
        intro t
        induction t with
        | zero => intro m f1 h1 h2; omega
        | succ t ih =>
          intro m f1 hm ht hI
          obtain ⟨hB, hk, hs⟩ := hI
          have z1 : (ps (fun m => if f 7 m = q then 1 else 0) m) ≤ m := ps_le1 (fun i _ => by split <;> omega)
          have z2 : f1 7 m = f 7 m := by rw [hk 7 (by decide)]
          have e8 : (ps (fun m => if f 7 m = q then 1 else 0) (m + 1)) = (ps (fun m => if f 7 m = q then 1 else 0) m) + (if f 7 m = q then 1 else 0) := rfl
          refine r_iload (pq := 51) C dX12_join_49 rfl rfl ?_
          refine r_aload_n (pq := 52) C dX12_join_51 rfl rfl ?_
          refine m_geti (pq := 55) C hB 5 (by decide) rfl rfl (by decide +kernel) dX12_join_52 rfl (fun b52 => ?_)
          refine rN_icmp_ge (tg := 105) (pq := 58) C dX12_join_55 (by decide) rfl (by omega) (by omega) (fun c55 => ?_) (fun c55 => ?_)
          · have e7 : m = I 5 := by omega
            subst e7
            exact loop2a f1 hB hk hs
          · refine r_aload_n (pq := 59) C dX12_join_58 rfl rfl ?_
            refine m_geta (pq := 62) C 15 (by decide) rfl rfl (by decide +kernel) dX12_join_59 rfl ?_
            refine r_iload (pq := 64) C dX12_join_62 rfl rfl ?_
            refine r_aload_n (pq := 65) C dX12_join_64 rfl rfl ?_
            refine m_geta (pq := 68) C 7 (by decide) rfl rfl (by decide +kernel) dX12_join_65 rfl ?_
            refine r_iload (pq := 70) C dX12_join_68 rfl rfl ?_
            refine m_iald (pq := 71) C hB 7 80 rfl rfl (by decide) rfl (by decide) (by omega) dX12_join_70 rfl (fun b70 => ?_)
            refine r_iload_n (pq := 72) C dX12_join_71 rfl rfl ?_
            refine rN_icmp_ne (tg := 79) (pq := 75) C dX12_join_72 (by decide) rfl (by omega) (by omega) (fun c72 => ?_) (fun c72 => ?_)
            · refine r_iconst (v := nI 0) (pq := 80) C dX12_join_79 (by decide) rfl ?_
              refine m_zast (pq := 81) C hB 15 80 (by omega) rfl rfl (by decide) rfl (by decide) (by omega) dX12_join_80 rfl (by omega) (fun hB => ?_)
              refine r_iload_n (pq := 82) C dX12_join_81 rfl rfl ?_
              refine r_aload_n (pq := 83) C dX12_join_82 rfl rfl ?_
              refine m_geta (pq := 86) C 15 (by decide) rfl rfl (by decide +kernel) dX12_join_83 rfl ?_
              refine r_iload (pq := 88) C dX12_join_86 rfl rfl ?_
              refine m_zald (pq := 89) C hB 15 80 rfl rfl (by decide) rfl (by decide) (by omega) dX12_join_88 rfl (fun b88 => ?_)
              refine rN_if_eq (tg := 96) (pq := 92) C dX12_join_89 (by decide) rfl (by omega) (fun c89 => ?_) (fun c89 => absurd (show va_up f1 15 (va_up (f1 15) m 0) 15 m = 0 by rw [va_s, va_s]) c89)
              refine r_iconst (v := nI 0) (pq := 97) C dX12_join_96 (by decide) rfl ?_
              refine rN_iadd (pq := 98) C dX12_join_97 rfl ?_
              refine r_istore_n (j := 3) (pq := 99) C dX12_join_98 rfl (by decide) rfl rfl ?_
              dsimp only [List.set]
              refine rN_iinc (c := 1) (pq := 102) C dX12_join_99 rfl (by decide) (by decide) rfl rfl ?_
              dsimp only [List.set]
              refine r_goto (tg := 49) C dX12_join_102 (by decide) ?_
              have k9 := ih (m + 1) _ (by omega) (by omega) ⟨hB, fun k h1 => by rw [va_n _ _ h1]; exact hk k h1, fun i hi => ?_⟩
              · rw [e8, if_neg (by rw [← z2]; exact c72)] at k9
                exact k9
              · rw [va_s]
                by_cases e : i = m
                · subst e
                  rw [va_s]
                  rw [if_neg (by rw [← z2]; exact c72)]
                · rw [va_n _ _ e]
                  exact hs i (by omega)
            · refine r_iconst (v := nI 1) (pq := 76) C dX12_join_75 (by decide) rfl ?_
              refine r_goto (tg := 80) C dX12_join_76 (by decide) ?_
              refine m_zast (pq := 81) C hB 15 80 (by omega) rfl rfl (by decide) rfl (by decide) (by omega) dX12_join_80 rfl (by omega) (fun hB => ?_)
              refine r_iload_n (pq := 82) C dX12_join_81 rfl rfl ?_
              refine r_aload_n (pq := 83) C dX12_join_82 rfl rfl ?_
              refine m_geta (pq := 86) C 15 (by decide) rfl rfl (by decide +kernel) dX12_join_83 rfl ?_
              refine r_iload (pq := 88) C dX12_join_86 rfl rfl ?_
              refine m_zald (pq := 89) C hB 15 80 rfl rfl (by decide) rfl (by decide) (by omega) dX12_join_88 rfl (fun b88 => ?_)
              refine rN_if_eq (tg := 96) (pq := 92) C dX12_join_89 (by decide) rfl (by omega) (fun c89 => absurd c89 (by rw [va_s, va_s]; decide)) (fun c89 => ?_)
              refine r_iconst (v := nI 1) (pq := 93) C dX12_join_92 (by decide) rfl ?_
              refine r_goto (tg := 97) C dX12_join_93 (by decide) ?_
              refine rN_iadd (pq := 98) C dX12_join_97 rfl ?_
              refine r_istore_n (j := 3) (pq := 99) C dX12_join_98 rfl (by decide) rfl rfl ?_
              dsimp only [List.set]
              refine rN_iinc (c := 1) (pq := 102) C dX12_join_99 rfl (by decide) (by decide) rfl rfl ?_
              dsimp only [List.set]
              refine r_goto (tg := 49) C dX12_join_102 (by decide) ?_
              have k9 := ih (m + 1) _ (by omega) (by omega) ⟨hB, fun k h1 => by rw [va_n _ _ h1]; exact hk k h1, fun i hi => ?_⟩
              · rw [e8, if_pos (by rw [← z2]; exact c72)] at k9
                exact k9
              · rw [va_s]
                by_cases e : i = m
                · subst e
                  rw [va_s]
                  rw [if_pos (by rw [← z2]; exact c72)]
                · rw [va_n _ _ e]
                  exact hs i (by omega)
      refine r_aload_n (pq := 1) C dX12_join_0 rfl rfl ?_
      refine r_iload_n (pq := 2) C dX12_join_1 rfl rfl ?_
      refine r_callV (pq := 5) C (mc_X12_isPerson hB) (WM_obj _ _ _ _ _ _) rfl gX12_join_X12_isPerson rfl (na := 1) (by decide +kernel) rfl (by decide) (by decide) (Nat.le_of_ble_eq_true rfl) ⟨Nat.zero_le _, Nat.zero_le _⟩ dX12_join_2 rfl rfl (fun r9 w9 hq => ?_)
      obtain ⟨rfl, rfl⟩ := hq
      dsimp only [Option.toList, List.cons_append, List.nil_append]
      have l2 := b2_lt (rg (nI p) (I 1))
      refine rN_if_eq (tg := 21) (pq := 8) C dX12_join_5 (by decide) rfl (by omega) (fun c5 => absurd c5 (b2_1.mpr hok.1)) (fun c5 => ?_)
      refine r_aload_n (pq := 9) C dX12_join_8 rfl rfl ?_
      refine r_iload_n (pq := 10) C dX12_join_9 rfl rfl ?_
      refine r_callV (pq := 13) C (mc_X12_isPerson hB) (WM_obj _ _ _ _ _ _) rfl gX12_join_X12_isPerson rfl (na := 1) (by decide +kernel) rfl (by decide) (by decide) (Nat.le_of_ble_eq_true rfl) ⟨Nat.zero_le _, Nat.zero_le _⟩ dX12_join_10 rfl rfl (fun r9 w9 hq => ?_)
      obtain ⟨rfl, rfl⟩ := hq
      dsimp only [Option.toList, List.cons_append, List.nil_append]
      have l10 := b2_lt (rg (nI q) (I 1))
      refine rN_if_eq (tg := 21) (pq := 16) C dX12_join_13 (by decide) rfl (by omega) (fun c13 => absurd c13 (b2_1.mpr hok.2.1)) (fun c13 => ?_)
      refine r_iload_n (pq := 17) C dX12_join_16 rfl rfl ?_
      refine r_iload_n (pq := 18) C dX12_join_17 rfl rfl ?_
      refine rN_icmp_ne (tg := 23) (pq := 21) C dX12_join_18 (by decide) rfl (by omega) (by omega) (fun c18 => ?_) (fun c18 => absurd c18 hpq)
      refine r_aload_n (pq := 24) C dX12_join_23 rfl rfl ?_
      refine m_geta (pq := 27) C 4 (by decide) rfl rfl (by decide +kernel) dX12_join_24 rfl ?_
      refine r_iload_n (pq := 28) C dX12_join_27 rfl rfl ?_
      refine m_zald (pq := 29) C hB 4 6 rfl rfl (by decide) rfl (by decide) (by omega) dX12_join_28 rfl (fun b28 => ?_)
      refine rN_if_ne (tg := 41) (pq := 32) C dX12_join_29 (by decide) rfl (by omega) (fun c29 => absurd hj1 c29) (fun c29 => ?_)
      refine r_aload_n (pq := 33) C dX12_join_32 rfl rfl ?_
      refine m_geta (pq := 36) C 4 (by decide) rfl rfl (by decide +kernel) dX12_join_33 rfl ?_
      refine r_iload_n (pq := 37) C dX12_join_36 rfl rfl ?_
      refine m_zald (pq := 38) C hB 4 6 rfl rfl (by decide) rfl (by decide) (by omega) dX12_join_37 rfl (fun b37 => ?_)
      refine rN_if_eq (tg := 44) (pq := 41) C dX12_join_38 (by decide) rfl (by omega) (fun c38 => ?_) (fun c38 => absurd hj2 c38)
      refine r_iconst (v := nI 0) (pq := 45) C dX12_join_44 (by decide) rfl ?_
      refine r_istore_n (j := 3) (pq := 46) C dX12_join_45 rfl (by decide) rfl rfl ?_
      dsimp only [List.set]
      refine r_iconst (v := nI 0) (pq := 47) C dX12_join_46 (by decide) rfl ?_
      refine r_istore (j := 4) (pq := 49) C dX12_join_47 rfl (by decide) rfl rfl ?_
      dsimp only [List.set]
      exact loop1 (I 5 + 1) 0 f (by omega) (by omega) ⟨hB, fun _ _ => rfl, fun i hi => absurd hi (Nat.not_lt_zero i)⟩
    · refine r_aload_n (pq := 1) C dX12_join_0 rfl rfl ?_
      refine r_iload_n (pq := 2) C dX12_join_1 rfl rfl ?_
      refine r_callV (pq := 5) C (mc_X12_isPerson hB) (WM_obj _ _ _ _ _ _) rfl gX12_join_X12_isPerson rfl (na := 1) (by decide +kernel) rfl (by decide) (by decide) (Nat.le_of_ble_eq_true rfl) ⟨Nat.zero_le _, Nat.zero_le _⟩ dX12_join_2 rfl rfl (fun r9 w9 hq => ?_)
      obtain ⟨rfl, rfl⟩ := hq
      dsimp only [Option.toList, List.cons_append, List.nil_append]
      have l2 := b2_lt (rg (nI p) (I 1))
      refine rN_if_eq (tg := 21) (pq := 8) C dX12_join_5 (by decide) rfl (by omega) (fun c5 => absurd c5 (b2_1.mpr hok.1)) (fun c5 => ?_)
      refine r_aload_n (pq := 9) C dX12_join_8 rfl rfl ?_
      refine r_iload_n (pq := 10) C dX12_join_9 rfl rfl ?_
      refine r_callV (pq := 13) C (mc_X12_isPerson hB) (WM_obj _ _ _ _ _ _) rfl gX12_join_X12_isPerson rfl (na := 1) (by decide +kernel) rfl (by decide) (by decide) (Nat.le_of_ble_eq_true rfl) ⟨Nat.zero_le _, Nat.zero_le _⟩ dX12_join_10 rfl rfl (fun r9 w9 hq => ?_)
      obtain ⟨rfl, rfl⟩ := hq
      dsimp only [Option.toList, List.cons_append, List.nil_append]
      have l10 := b2_lt (rg (nI q) (I 1))
      refine rN_if_eq (tg := 21) (pq := 16) C dX12_join_13 (by decide) rfl (by omega) (fun c13 => absurd c13 (b2_1.mpr hok.2.1)) (fun c13 => ?_)
      refine r_iload_n (pq := 17) C dX12_join_16 rfl rfl ?_
      refine r_iload_n (pq := 18) C dX12_join_17 rfl rfl ?_
      refine rN_icmp_ne (tg := 23) (pq := 21) C dX12_join_18 (by decide) rfl (by omega) (by omega) (fun c18 => ?_) (fun c18 => absurd c18 hpq)
      refine r_aload_n (pq := 24) C dX12_join_23 rfl rfl ?_
      refine m_geta (pq := 27) C 4 (by decide) rfl rfl (by decide +kernel) dX12_join_24 rfl ?_
      refine r_iload_n (pq := 28) C dX12_join_27 rfl rfl ?_
      refine m_zald (pq := 29) C hB 4 6 rfl rfl (by decide) rfl (by decide) (by omega) dX12_join_28 rfl (fun b28 => ?_)
      refine rN_if_ne (tg := 41) (pq := 32) C dX12_join_29 (by decide) rfl (by omega) (fun c29 => ?_) (fun c29 => ?_)
      · refine r_bipush (v := (-3)) (pq := 43) C dX12_join_41 (by decide) rfl ?_
        refine r_iret C D rfl ⟨Nat.le_refl _, Nat.le_refl _⟩ dX12_join_43 ?_
        refine ⟨?_, (I, f, g), rfl, hB, ?_⟩
        · unfold rs_join
          rw [if_pos hok, tn_nI (by omega), tn_nI (by omega), if_pos (by by_cases h9 : f 4 p = 0; exact Or.inr (fun h8 => hj ⟨h9, h8⟩); exact Or.inl h9)]
        · unfold nx_join
          rw [if_neg (fun h => hj (by have h9 := h.2.1; rw [tn_nI (by omega), tn_nI (by omega)] at h9; exact h9))]
          exact EQ_rfl _
      · refine r_aload_n (pq := 33) C dX12_join_32 rfl rfl ?_
        refine m_geta (pq := 36) C 4 (by decide) rfl rfl (by decide +kernel) dX12_join_33 rfl ?_
        refine r_iload_n (pq := 37) C dX12_join_36 rfl rfl ?_
        refine m_zald (pq := 38) C hB 4 6 rfl rfl (by decide) rfl (by decide) (by omega) dX12_join_37 rfl (fun b37 => ?_)
        refine rN_if_eq (tg := 44) (pq := 41) C dX12_join_38 (by decide) rfl (by omega) (fun c38 => ?_) (fun c38 => ?_)
        · exact absurd ⟨c29, c38⟩ hj
        · refine r_bipush (v := (-3)) (pq := 43) C dX12_join_41 (by decide) rfl ?_
          refine r_iret C D rfl ⟨Nat.le_refl _, Nat.le_refl _⟩ dX12_join_43 ?_
          refine ⟨?_, (I, f, g), rfl, hB, ?_⟩
          · unfold rs_join
            rw [if_pos hok, tn_nI (by omega), tn_nI (by omega), if_pos (by by_cases h9 : f 4 p = 0; exact Or.inr (fun h8 => hj ⟨h9, h8⟩); exact Or.inl h9)]
          · unfold nx_join
            rw [if_neg (fun h => hj (by have h9 := h.2.1; rw [tn_nI (by omega), tn_nI (by omega)] at h9; exact h9))]
            exact EQ_rfl _
  · refine r_aload_n (pq := 1) C dX12_join_0 rfl rfl ?_
    refine r_iload_n (pq := 2) C dX12_join_1 rfl rfl ?_
    refine r_callV (pq := 5) C (mc_X12_isPerson hB) (WM_obj _ _ _ _ _ _) rfl gX12_join_X12_isPerson rfl (na := 1) (by decide +kernel) rfl (by decide) (by decide) (Nat.le_of_ble_eq_true rfl) ⟨Nat.zero_le _, Nat.zero_le _⟩ dX12_join_2 rfl rfl (fun r9 w9 hq => ?_)
    obtain ⟨rfl, rfl⟩ := hq
    dsimp only [Option.toList, List.cons_append, List.nil_append]
    have l2 := b2_lt (rg x (I 1))
    refine rN_if_eq (tg := 21) (pq := 8) C dX12_join_5 (by decide) rfl (by omega) (fun c5 => ?_) (fun c5 => ?_)
    · refine r_iconst (v := (-1)) (pq := 22) C dX12_join_21 (by decide) rfl ?_
      refine r_iret C D rfl ⟨Nat.le_refl _, Nat.le_refl _⟩ dX12_join_22 ?_
      refine ⟨?_, (I, f, g), rfl, hB, ?_⟩
      · unfold rs_join
        rw [if_neg hok]
      · unfold nx_join
        rw [if_neg (fun h => hok h.1)]
        exact EQ_rfl _
    · refine r_aload_n (pq := 9) C dX12_join_8 rfl rfl ?_
      refine r_iload_n (pq := 10) C dX12_join_9 rfl rfl ?_
      refine r_callV (pq := 13) C (mc_X12_isPerson hB) (WM_obj _ _ _ _ _ _) rfl gX12_join_X12_isPerson rfl (na := 1) (by decide +kernel) rfl (by decide) (by decide) (Nat.le_of_ble_eq_true rfl) ⟨Nat.zero_le _, Nat.zero_le _⟩ dX12_join_10 rfl rfl (fun r9 w9 hq => ?_)
      obtain ⟨rfl, rfl⟩ := hq
      dsimp only [Option.toList, List.cons_append, List.nil_append]
      have l10 := b2_lt (rg y (I 1))
      refine rN_if_eq (tg := 21) (pq := 16) C dX12_join_13 (by decide) rfl (by omega) (fun c13 => ?_) (fun c13 => ?_)
      · refine r_iconst (v := (-1)) (pq := 22) C dX12_join_21 (by decide) rfl ?_
        refine r_iret C D rfl ⟨Nat.le_refl _, Nat.le_refl _⟩ dX12_join_22 ?_
        refine ⟨?_, (I, f, g), rfl, hB, ?_⟩
        · unfold rs_join
          rw [if_neg hok]
        · unfold nx_join
          rw [if_neg (fun h => hok h.1)]
          exact EQ_rfl _
      · refine r_iload_n (pq := 17) C dX12_join_16 rfl rfl ?_
        refine r_iload_n (pq := 18) C dX12_join_17 rfl rfl ?_
        refine r_icmp_ne (tg := 23) (pq := 21) C dX12_join_18 (by decide) rfl (fun c18 => ?_) (fun c18 => ?_)
        · exact absurd ⟨b2_1.mp c5, b2_1.mp c13, c18⟩ hok
        · refine r_iconst (v := (-1)) (pq := 22) C dX12_join_21 (by decide) rfl ?_
          refine r_iret C D rfl ⟨Nat.le_refl _, Nat.le_refl _⟩ dX12_join_22 ?_
          refine ⟨?_, (I, f, g), rfl, hB, ?_⟩
          · unfold rs_join
            rw [if_neg hok]
          · unfold nx_join
            rw [if_neg (fun h => hok h.1)]
            exact EQ_rfl _


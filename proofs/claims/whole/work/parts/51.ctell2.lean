/-! ===== the class: tellAnew ===== -/
def mi (F : Nat → Nat → Nat) (p d i : Nat) : Nat := if (cnF F p d i).2.2 = 0 then 511 else (cnF F p d i).1
theorem a255 : ∀ x, x < 256 → 511 &&& x = 255 &&& x := by decide +kernel
theorem a256 : ∀ x, x < 256 → x &&& 256 = 0 := by decide +kernel
theorem mi_le (F : Nat → Nat → Nat) (p d i : Nat) : mi F p d i ≤ 511 := by
  have := (cnF_le F p d i).1
  unfold mi
  split <;> omega
theorem cnF_any (F : Nat → Nat → Nat) (p d : Nat) : ∀ i, (cnF F p d i).2.2 = 0 → (cnF F p d i).1 = 255
  | 0, _ => rfl
  | i + 1, h => by
    have ih := cnF_any F p d i
    simp only [cnF, cnS] at h ⊢
    split at h
    · rename_i q
      rw [if_pos q]
      split at h
      · rename_i q2
        rw [if_pos q2]
        exact ih h
      · cases h
    · rename_i q
      rw [if_neg q]
      exact ih h
theorem cnF_no {F : Nat → Nat → Nat} {p d i : Nat} (h : ¬ (F 7 i = p ∧ F 11 i = 0)) : cnF F p d (i + 1) = cnF F p d i := by
  simp only [cnF, cnS]
  rw [if_neg (fun q => h ⟨q.1, q.2.1⟩)]
theorem mi_no {F : Nat → Nat → Nat} {p d i : Nat} (h : ¬ (F 7 i = p ∧ F 11 i = 0)) : mi F p d (i + 1) = mi F p d i := by
  unfold mi
  rw [cnF_no h]
theorem tell_m {F : Nat → Nat → Nat} {p d i : Nat} (hF : F 7 i = p ∧ F 11 i = 0) (h6 : F 6 i ≠ 3) (h10 : F 10 i ≤ 255) {c : Int32} (hc : c = nI (mi F p d i)) : (if F 8 i ≤ d ∧ d ≤ F 9 i then c &&& nI (F 10 i) else c) = nI (mi F p d (i + 1)) ∧ (cnF F p d (i + 1)).2.1 = (cnF F p d i).2.1 := by
  subst hc
  by_cases q : F 8 i ≤ d ∧ d ≤ F 9 i
  · rw [if_pos q, na_and]
    have e : cnF F p d (i + 1) = ((cnF F p d i).1 &&& F 10 i, (cnF F p d i).2.1, 1) := by
      simp only [cnF, cnS]
      rw [if_pos ⟨hF.1, hF.2, q.1, q.2⟩, if_neg h6]
    have r1 : mi F p d (i + 1) = (cnF F p d i).1 &&& F 10 i := by
      unfold mi
      rw [e]
      rfl
    refine ⟨?_, by rw [e]⟩
    rw [r1]
    congr 1
    unfold mi
    by_cases q3 : (cnF F p d i).2.2 = 0
    · rw [if_pos q3, cnF_any F p d i q3]
      exact a255 _ (by omega)
    · rw [if_neg q3]
  · have e : cnF F p d (i + 1) = cnF F p d i := by
      simp only [cnF, cnS]
      rw [if_neg (fun h => q h.2.2)]
    rw [if_neg q]
    unfold mi
    rw [e]
    exact ⟨rfl, rfl⟩
theorem tell_w {F : Nat → Nat → Nat} {p d i : Nat} (hF : F 7 i = p ∧ F 11 i = 0) (h6 : F 6 i = 3) {c : Int32} (hc : c = nI (cnF F p d i).2.1) : (if F 8 i ≤ d ∧ d ≤ F 9 i then c &&& nI (F 10 i) else c) = nI (cnF F p d (i + 1)).2.1 ∧ mi F p d (i + 1) = mi F p d i := by
  subst hc
  by_cases q : F 8 i ≤ d ∧ d ≤ F 9 i
  · rw [if_pos q, na_and]
    have e : cnF F p d (i + 1) = ((cnF F p d i).1, (cnF F p d i).2.1 &&& F 10 i, (cnF F p d i).2.2) := by
      simp only [cnF, cnS]
      rw [if_pos ⟨hF.1, hF.2, q.1, q.2⟩, if_pos h6]
    unfold mi
    rw [e]
    exact ⟨rfl, rfl⟩
  · have e : cnF F p d (i + 1) = cnF F p d i := by
      simp only [cnF, cnS]
      rw [if_neg (fun h => q h.2.2)]
    rw [if_neg q]
    unfold mi
    rw [e]
    exact ⟨rfl, rfl⟩
theorem nar_at {h : Nat → Int32} {a b fa fb d : Nat} {x : Int32} (h1 : a ≤ d) (h2 : d ≤ b) : nar h (max a fa) (max (max a fa) (min b fb + 1)) x d = if fa ≤ d ∧ d ≤ fb then h d &&& x else h d := by
  unfold nar
  by_cases q : fa ≤ d ∧ d ≤ fb
  · rw [if_pos q, if_pos (by omega)]
  · rw [if_neg q, if_neg (by omega)]
theorem mi_0 {F : Nat → Nat → Nat} {M p d : Nat} (h : mi F p d M &&& 256 = 0) : mi F p d M = cn F M p d := by
  unfold mi at *
  unfold cn
  by_cases q : (cnF F p d M).2.2 = 0
  · rw [if_pos q] at h
    exact absurd h (by decide)
  · rw [if_neg q, if_neg q]
theorem mi_1 {F : Nat → Nat → Nat} {M p d : Nat} (h : mi F p d M &&& 256 ≠ 0) : (cnF F p d M).2.1 = cn F M p d := by
  unfold mi at h
  unfold cn
  by_cases q : (cnF F p d M).2.2 = 0
  · rw [if_pos q]
  · rw [if_neg q] at h
    have := (cnF_le F p d M).1
    exact absurd (a256 _ (by omega)) h

set_option maxHeartbeats 4000000 in
set_option maxRecDepth 100000 in
/-- tellAnew -/
theorem mc_X11_tellAnew {l : Launch} {E : EV} {w : RW} {B : Nat → Nat} {s : ST} {F : Nat → Nat → Nat} {p9 q9 a9 b9 : Nat} {c5 : Nat → Option Nat} {c6 : Nat → Option Nat} {c15 c16 h9 : Nat → Int32} (hM : s.1 5 ≤ 80) (hp : p9 < 6) (hq9 : q9 < 6) (hab : a9 ≤ b9) (hb9 : b9 < 400) (hF : ∀ k, k ≠ 7 → F k = s.2.1 k) (hF7 : ∀ m, m < s.1 5 → (F 7 m = p9 ↔ s.2.1 7 m = p9 ∨ s.2.1 7 m = q9)) (hbd : ∀ m, m < s.1 5 → s.2.1 6 m < 4 ∧ s.2.1 7 m < 6 ∧ s.2.1 8 m ≤ s.2.1 9 m ∧ s.2.1 9 m < 400 ∧ s.2.1 10 m ≤ 255 ∧ s.2.1 11 m < 2) (o0 : w 0 = some (B 0, .inr (12, nFs B s))) (e5 : w 5 = qA E 8 (B 5) 6 c5) (f5 : ∀ p, p < 6 → c5 p = some (B (20 + p))) (e6 : w 6 = qA E 4 (B 6) 80 c6) (f6 : ∀ m, m < s.1 5 → c6 m = some (B (100 + m))) (e15 : w 15 = iA E (B 15) 400 c15) (e16 : w 16 = iA E (B 16) 400 c16) (a1 : w (20 + p9) = iA E (B (20 + p9)) 400 h9) (h100 : ∀ m, m < s.1 5 → w (100 + m) = some (B (100 + m), .inr (mkC (s.2.1 6 m), mFl s m))) : MC l E yX11_tellAnew wsX11_tellAnew 2 0 0 [.ref (B 0), .int (nI p9), .int (nI q9), .int (nI a9), .int (nI b9)] (w) (fun v w' => v = some (.int (nI (b2 (∀ e, a9 ≤ e → e ≤ b9 → cn F (s.1 5) p9 e ≠ 0)))) ∧ (∃ c, w' 15 = iA E (B 15) 400 c) ∧ (∃ c, w' 16 = iA E (B 16) 400 c) ∧ (∃ h, w' (20 + p9) = iA E (B (20 + p9)) 400 h ∧ ((∀ e, a9 ≤ e → e ≤ b9 → cn F (s.1 5) p9 e ≠ 0) → ∀ e, a9 ≤ e → e ≤ b9 → h e = nI (cn F (s.1 5) p9 e)) ∧ ∀ e, e < 400 → (e < a9 ∨ b9 < e ∨ ¬ (∀ e, a9 ≤ e → e ≤ b9 → cn F (s.1 5) p9 e ≠ 0)) → h e = h9 e) ∧ ∀ r, r ≠ 15 → r ≠ 16 → r ≠ 20 + p9 → w' r = w r) := by
  refine MC.enter (cc := cX11_tellAnew) (maxL := 7) (ret := (some .boolean)) (lv0 := [some (.ref (B 0)), some (.int (nI p9)), some (.int (nI q9)), some (.int (nI a9)), some (.int (nI b9)), none, none]) (by decide) rfl (by simp [Value.category]) (Nat.le_of_ble_eq_true rfl) rfl ?_
  intro X hl hE C D
  subst hl
  subst hE
  have fin : ∀ (w1 : RW) (c15 c16 : Nat → Int32), w1 15 = iA (xE X) (B 15) 400 c15 → w1 16 = iA (xE X) (B 16) 400 c16 → (∀ r, r ≠ 15 → r ≠ 16 → w1 r = w r) → (∀ e, a9 ≤ e → e ≤ b9 → c15 e = nI (cn F (s.1 5) p9 e) ∧ cn F (s.1 5) p9 e ≠ 0) → ∀ x5, GG X w1 0 0 171 [some (.ref (B 0)), some (.int (nI p9)), some (.int (nI q9)), some (.int (nI a9)), some (.int (nI b9)), x5, none] [] := by
    intro w1 c15 c16 g15 g16 hw ha2 x5
    have o1 := (hw 0 (by decide) (by decide)).trans o0
    refine r_aload_n (pq := 172) C dX11_tellAnew_171 rfl rfl ?_
    refine r_getf (pq := 175) C 14 o1 rfl (by decide) (by decide +kernel) (Or.inl rfl) rfl dX11_tellAnew_172 rfl ?_
    refine r_iload_n (pq := 176) C dX11_tellAnew_175 rfl rfl ?_
    refine r_aload_n (pq := 177) C dX11_tellAnew_176 rfl rfl ?_
    refine r_getf (pq := 180) C 4 o1 rfl (by decide) (by decide +kernel) (Or.inl rfl) rfl dX11_tellAnew_177 rfl ?_
    refine r_iload_n (pq := 181) C dX11_tellAnew_180 rfl rfl ?_
    refine rN_aaldS (pq := 182) C 8 rfl rfl ((hw 5 (by decide) (by decide)).trans e5) (by omega) (by decide) (f5 p9 (by omega)) dX11_tellAnew_181 rfl ?_
    refine r_iload_n (pq := 183) C dX11_tellAnew_182 rfl rfl ?_
    refine r_iload (pq := 185) C dX11_tellAnew_183 rfl rfl ?_
    refine r_iload_n (pq := 186) C dX11_tellAnew_185 rfl rfl ?_
    refine rN_isub (pq := 187) C dX11_tellAnew_186 (by omega) rfl ?_
    refine r_iconst (v := nI 1) (pq := 188) C dX11_tellAnew_187 (by decide) rfl ?_
    refine rN_iadd (pq := 189) C dX11_tellAnew_188 rfl ?_
    refine r_copy (pq := 192) C (by decide +kernel) (by decide +kernel) (by decide +kernel) (by decide +kernel) 15 (20 + p9) 0 g15 ((hw _ (by omega) (by omega)).trans a1) rfl rfl ⟨by decide, by decide⟩ (by omega) (by omega) (fun i _ => rfl) (by decide) (Nat.le_of_ble_eq_true rfl) dX11_tellAnew_189 rfl ?_
    refine r_iconst (v := nI 1) (pq := 193) C dX11_tellAnew_192 (by decide) rfl ?_
    refine r_zret C D rfl (by decide) ⟨Nat.le_refl _, Nat.le_refl _⟩ dX11_tellAnew_193 ?_
    refine ⟨?_, ⟨_, (va_n _ _ (by omega)).trans g15⟩, ⟨_, (va_n _ _ (by omega)).trans g16⟩, ⟨_, va_s _ _ _, fun _ e q1 q2 => ?_, fun e q1 q2 => ?_⟩, fun r q1 q2 q3 => (va_n _ _ q3).trans (hw r q1 q2)⟩
    · have ok : (∀ e, a9 ≤ e → e ≤ b9 → cn F (s.1 5) p9 e ≠ 0) := fun e q1 q2 => (ha2 e q1 q2).2
      rw [b2_t ok]
    · unfold va_cpy
      rw [if_pos (by omega), show a9 + (e - a9) = e by omega]
      exact (ha2 e q1 q2).1
    · rcases q2 with q2 | q2 | q2
      · unfold va_cpy
        rw [if_neg (by omega)]
      · unfold va_cpy
        rw [if_neg (by omega)]
      · exact absurd (fun e q1 q2 => (ha2 e q1 q2).2) q2
  have loop2 : ∀ (t d9 : Nat) (w1 : RW) (c15 c16 : Nat → Int32), a9 ≤ d9 → d9 ≤ b9 + 1 → b9 + 1 - d9 < t → w1 15 = iA (xE X) (B 15) 400 c15 → w1 16 = iA (xE X) (B 16) 400 c16 → (∀ r, r ≠ 15 → r ≠ 16 → w1 r = w r) → (∀ e, a9 ≤ e → e < d9 → c15 e = nI (cn F (s.1 5) p9 e) ∧ cn F (s.1 5) p9 e ≠ 0) → (∀ e, d9 ≤ e → e ≤ b9 → c15 e = nI (mi F p9 e (s.1 5)) ∧ c16 e = nI (cnF F p9 e (s.1 5)).2.1) → GG X w1 0 0 118 [some (.ref (B 0)), some (.int (nI p9)), some (.int (nI q9)), some (.int (nI a9)), some (.int (nI b9)), some (.int (nI d9)), none] [] := by
    intro t
    induction t with
    | zero => intro d9 w1 c15 c16 h1 h2 h3; omega
    | succ t ih =>
      intro d9 w1 c15 c16 ha hd ht g15 g16 hw ha2 hb
      have o1 := (hw 0 (by decide) (by decide)).trans o0
      have hcn := cn_le F (s.1 5) p9 d9
      refine r_iload (pq := 120) C dX11_tellAnew_118 rfl rfl ?_
      refine r_iload (pq := 122) C dX11_tellAnew_120 rfl rfl ?_
      refine rN_icmp_gt (tg := 171) (pq := 125) C dX11_tellAnew_122 (by decide) rfl (by omega) (by omega) (fun c122 => ?_) (fun c122 => ?_)
      · exact fin w1 c15 c16 g15 g16 hw (fun e q1 q2 => ha2 e q1 (by omega)) _
      · refine r_aload_n (pq := 126) C dX11_tellAnew_125 rfl rfl ?_
        refine r_getf (pq := 129) C 14 o1 rfl (by decide) (by decide +kernel) (Or.inl rfl) rfl dX11_tellAnew_126 rfl ?_
        refine r_iload (pq := 131) C dX11_tellAnew_129 rfl rfl ?_
        refine rN_iald (pq := 132) C g15 (by omega) (by decide) dX11_tellAnew_131 rfl ?_
        refine r_at (hb d9 (Nat.le_refl _) (by omega)).1 ?_
        refine r_sipush (v := nI 256) (pq := 135) C dX11_tellAnew_132 (by decide) rfl ?_
        refine rN_iand (pq := 136) C dX11_tellAnew_135 rfl ?_
        refine rN_if_eq (tg := 153) (pq := 139) C dX11_tellAnew_136 (by decide) rfl (by have := mi_le F p9 d9 (s.1 5); have := Nat.and_le_left (n := mi F p9 d9 (s.1 5)) (m := 256); omega) (fun c136 => ?_) (fun c136 => ?_)
        refine r_aload_n (pq := 154) C dX11_tellAnew_153 rfl rfl ?_
        refine r_getf (pq := 157) C 14 o1 rfl (by decide) (by decide +kernel) (Or.inl rfl) rfl dX11_tellAnew_154 rfl ?_
        refine r_iload (pq := 159) C dX11_tellAnew_157 rfl rfl ?_
        refine rN_iald (pq := 160) C g15 (by omega) (by decide) dX11_tellAnew_159 rfl ?_
        refine r_at (hb d9 (Nat.le_refl _) (by omega)).1 ?_
        rw [mi_0 c136]
        refine rN_if_ne (tg := 165) (pq := 163) C dX11_tellAnew_160 (by decide) rfl (by omega) (fun c160 => ?_) (fun c160 => ?_)
        · refine rN_iinc (c := 1) (pq := 168) C dX11_tellAnew_165 rfl (by decide) (by decide) rfl rfl ?_
          dsimp only [List.set]
          refine r_goto (tg := 118) C dX11_tellAnew_168 (by decide) ?_
          exact ih (d9 + 1) w1 c15 c16 (by omega) (by omega) (by omega) g15 g16 hw (fun e q1 q2 => by
            by_cases q : e = d9
            · subst q
              exact ⟨(hb e (Nat.le_refl _) (by omega)).1.trans (by rw [mi_0 c136]), c160⟩
            · exact ha2 e q1 (by omega)) (fun e q1 q2 => hb e (by omega) q2)
        · refine r_iconst (v := nI 0) (pq := 164) C dX11_tellAnew_163 (by decide) rfl ?_
          refine r_zret C D rfl (by decide) ⟨Nat.le_refl _, Nat.le_refl _⟩ dX11_tellAnew_164 ?_
          refine ⟨?_, ⟨_, g15⟩, ⟨_, g16⟩, ⟨h9, (hw _ (by omega) (by omega)).trans a1, fun h => ?_, fun _ _ _ => rfl⟩, fun r q1 q2 _ => hw r q1 q2⟩
          · rw [b2_f (fun h => h d9 ha (by omega) c160)]
          · exact absurd c160 (h d9 ha (by omega))
        · refine r_aload_n (pq := 140) C dX11_tellAnew_139 rfl rfl ?_
          refine r_getf (pq := 143) C 14 o1 rfl (by decide) (by decide +kernel) (Or.inl rfl) rfl dX11_tellAnew_140 rfl ?_
          refine r_iload (pq := 145) C dX11_tellAnew_143 rfl rfl ?_
          refine r_aload_n (pq := 146) C dX11_tellAnew_145 rfl rfl ?_
          refine r_getf (pq := 149) C 15 o1 rfl (by decide) (by decide +kernel) (Or.inl rfl) rfl dX11_tellAnew_146 rfl ?_
          refine r_iload (pq := 151) C dX11_tellAnew_149 rfl rfl ?_
          refine rN_iald (pq := 152) C g16 (by omega) (by decide) dX11_tellAnew_151 rfl ?_
          refine r_at (hb d9 (Nat.le_refl _) (by omega)).2 ?_
          rw [mi_1 c136]
          refine rN_iast (pq := 153) C g15 (by omega) (by decide) dX11_tellAnew_152 rfl ?_
          refine r_aload_n (pq := 154) C dX11_tellAnew_153 rfl rfl ?_
          refine r_getf (pq := 157) C 14 ((va_n _ _ (by decide)).trans o1) rfl (by decide) (by decide +kernel) (Or.inl rfl) rfl dX11_tellAnew_154 rfl ?_
          refine r_iload (pq := 159) C dX11_tellAnew_157 rfl rfl ?_
          refine rN_iald (pq := 160) C (va_s _ _ _) (by omega) (by decide) dX11_tellAnew_159 rfl ?_
          refine r_at (show _ = nI (cn F (s.1 5) p9 d9) by unfold upd; rw [if_pos rfl]) ?_
          refine rN_if_ne (tg := 165) (pq := 163) C dX11_tellAnew_160 (by decide) rfl (by omega) (fun c160 => ?_) (fun c160 => ?_)
          · refine rN_iinc (c := 1) (pq := 168) C dX11_tellAnew_165 rfl (by decide) (by decide) rfl rfl ?_
            dsimp only [List.set]
            refine r_goto (tg := 118) C dX11_tellAnew_168 (by decide) ?_
            exact ih (d9 + 1) _ _ c16 (by omega) (by omega) (by omega) (va_s _ _ _) ((va_n _ _ (by decide)).trans g16) (fun r q1 q2 => (va_n _ _ q1).trans (hw r q1 q2)) (fun e q1 q2 => by
              unfold upd
              by_cases q : e = d9
              · subst q
                rw [if_pos rfl]
                exact ⟨rfl, c160⟩
              · rw [if_neg q]
                exact ha2 e q1 (by omega)) (fun e q1 q2 => by
              unfold upd
              rw [if_neg (by omega)]
              exact hb e (by omega) q2)
          · refine r_iconst (v := nI 0) (pq := 164) C dX11_tellAnew_163 (by decide) rfl ?_
            refine r_zret C D rfl (by decide) ⟨Nat.le_refl _, Nat.le_refl _⟩ dX11_tellAnew_164 ?_
            refine ⟨?_, ⟨_, va_s _ _ _⟩, ⟨_, (va_n _ _ (by decide)).trans g16⟩, ⟨h9, (va_n _ _ (by omega)).trans ((hw _ (by omega) (by omega)).trans a1), fun h => ?_, fun _ _ _ => rfl⟩, fun r q1 q2 _ => (va_n _ _ q1).trans (hw r q1 q2)⟩
            · rw [b2_f (fun h => h d9 ha (by omega) c160)]
            · exact absurd c160 (h d9 ha (by omega))
  have loop1 : ∀ (t i : Nat) (w1 : RW) (c15 c16 : Nat → Int32), i ≤ s.1 5 → s.1 5 - i < t → w1 15 = iA (xE X) (B 15) 400 c15 → w1 16 = iA (xE X) (B 16) 400 c16 → (∀ r, r ≠ 15 → r ≠ 16 → w1 r = w r) → (∀ e, a9 ≤ e → e ≤ b9 → c15 e = nI (mi F p9 e i) ∧ c16 e = nI (cnF F p9 e i).2.1) → GG X w1 0 0 33 [some (.ref (B 0)), some (.int (nI p9)), some (.int (nI q9)), some (.int (nI a9)), some (.int (nI b9)), some (.int (nI i)), none] [] := by
    intro t
    induction t with
    | zero => intro i w1 c15 c16 h1 h2; omega
    | succ t ih =>
      intro i w1 c15 c16 hi ht g15 g16 hw hc
      have o1 := (hw 0 (by decide) (by decide)).trans o0
      refine r_iload (pq := 35) C dX11_tellAnew_33 rfl rfl ?_
      refine r_aload_n (pq := 36) C dX11_tellAnew_35 rfl rfl ?_
      refine r_getf (pq := 39) C 6 o1 rfl (by decide) (by decide +kernel) (Or.inl rfl) rfl dX11_tellAnew_36 rfl ?_
      refine rN_icmp_ge (tg := 115) (pq := 42) C dX11_tellAnew_39 (by decide) rfl (by omega) (by omega) (fun c39 => ?_) (fun c39 => ?_)
      · have e9 : i = s.1 5 := by omega
        subst e9
        refine r_iload_n (pq := 116) C dX11_tellAnew_115 rfl rfl ?_
        refine r_istore (j := 5) (pq := 118) C dX11_tellAnew_116 rfl (by decide) rfl rfl ?_
        dsimp only [List.set]
        exact loop2 (b9 + 2) a9 w1 c15 c16 (Nat.le_refl _) (by omega) (by omega) g15 g16 hw (fun e q1 q2 => absurd q1 (by omega)) (fun e q1 q2 => hc e q1 q2)
      · refine r_aload_n (pq := 43) C dX11_tellAnew_42 rfl rfl ?_
        refine r_getf (pq := 46) C 5 o1 rfl (by decide) (by decide +kernel) (Or.inl rfl) rfl dX11_tellAnew_43 rfl ?_
        refine r_iload (pq := 48) C dX11_tellAnew_46 rfl rfl ?_
        refine rN_aaldS (pq := 49) C 4 rfl rfl ((hw 6 (by decide) (by decide)).trans e6) (by omega) (by decide) (f6 i c39) dX11_tellAnew_48 rfl ?_
        have hm := (hw (100 + i) (by omega) (by omega)).trans (h100 i c39)
        have hm9 := hbd i c39
        refine r_astore (j := 6) (pq := 51) C dX11_tellAnew_49 rfl (by decide) rfl rfl ?_
        dsimp only [List.set]
        refine r_aload (pq := 53) C dX11_tellAnew_51 rfl rfl ?_
        refine r_ifnull (pq := 56) C dX11_tellAnew_53 rfl ?_
        refine r_aload (pq := 58) C dX11_tellAnew_56 rfl rfl ?_
        refine r_getM (pq := 61) C (mkC_M _) 5 hm (by decide) (by decide +kernel) rfl rfl dX11_tellAnew_58 rfl ?_
        refine rN_if_ne (tg := 109) (pq := 64) C dX11_tellAnew_61 (by decide) rfl (by omega) (fun c61 => ?_) (fun c61 => ?_)
        · refine rN_iinc (c := 1) (pq := 112) C dX11_tellAnew_109 rfl (by decide) (by decide) rfl rfl ?_
          dsimp only [List.set]
          refine r_goto (tg := 33) C dX11_tellAnew_112 (by decide) ?_
          have hF9 : ¬ (F 7 i = p9 ∧ F 11 i = 0) := fun h => c61 (by rw [hF 11 (by decide)] at h; exact h.2)
          refine GG.fgt 6 ?_
          dsimp only [List.set]
          exact ih (i + 1) w1 c15 c16 (by omega) (by omega) g15 g16 hw (fun e q1 q2 => by rw [mi_no hF9, cnF_no hF9]; exact hc e q1 q2)
        · refine r_aload (pq := 66) C dX11_tellAnew_64 rfl rfl ?_
          refine r_getM (pq := 69) C (mkC_M _) 4 hm (by decide) (by decide +kernel) rfl rfl dX11_tellAnew_66 rfl ?_
          refine r_iload_n (pq := 70) C dX11_tellAnew_69 rfl rfl ?_
          refine rN_icmp_eq (tg := 82) (pq := 73) C dX11_tellAnew_70 (by decide) rfl (by omega) (by omega) (fun c70 => ?_) (fun c70 => ?_)
          · refine r_aload (pq := 84) C dX11_tellAnew_82 rfl rfl ?_
            refine r_gives (pq := 87) C (by omega) hm gX11_tellAnew_X5_givesWay gX11_tellAnew_X5_givesWay_u163X1 gX11_tellAnew_X5_givesWay_u163X6 gX11_tellAnew_X10_givesWay_u163X10 (by decide +kernel) (by decide) (Nat.le_of_ble_eq_true rfl) ⟨Nat.zero_le _, Nat.zero_le _⟩ dX11_tellAnew_84 rfl ?_
            refine rN_if_eq (tg := 97) (pq := 90) C dX11_tellAnew_87 (by decide) rfl (by split <;> omega) (fun c87 => ?_) (fun c87 => ?_)
            · refine r_aload_n (pq := 98) C dX11_tellAnew_97 rfl rfl ?_
              refine r_getf (pq := 101) C 14 o1 rfl (by decide) (by decide +kernel) (Or.inl rfl) rfl dX11_tellAnew_98 rfl ?_
              refine r_aload (pq := 103) C dX11_tellAnew_101 rfl rfl ?_
              refine r_iload_n (pq := 104) C dX11_tellAnew_103 rfl rfl ?_
              refine r_iload (pq := 106) C dX11_tellAnew_104 rfl rfl ?_
              refine r_callS (pq := 109) C (mc_X11_narrow (rr := 15) (mkC_M _) (by omega) (by omega) (by omega) (by omega) (by omega) hm g15) gX11_tellAnew_X11_narrow rfl (na := 4) (by decide +kernel) rfl (by decide) (by decide) (Nat.le_of_ble_eq_true rfl) ⟨Nat.zero_le _, Nat.zero_le _⟩ dX11_tellAnew_106 rfl rfl (fun r9 w9 hq => ?_)
              obtain ⟨rfl, rfl⟩ := hq
              dsimp only [Option.toList, List.nil_append]
              refine rN_iinc (c := 1) (pq := 112) C dX11_tellAnew_109 rfl (by decide) (by decide) rfl rfl ?_
              dsimp only [List.set]
              refine r_goto (tg := 33) C dX11_tellAnew_112 (by decide) ?_
              have hF9 : F 7 i = p9 ∧ F 11 i = 0 := ⟨(hF7 i c39).mpr (Or.inl c70), by rw [hF 11 (by decide)]; omega⟩
              have hk9 : F 6 i ≠ 3 := by rw [hF 6 (by decide)]; intro q; rw [if_pos q] at c87; omega
              refine GG.fgt 6 ?_
              dsimp only [List.set]
              exact ih (i + 1) _ _ c16 (by omega) (by omega) (va_s _ _ _) ((va_n _ _ (by decide)).trans g16) (fun r q1 q2 => (va_n _ _ q1).trans (hw r q1 q2)) (fun e q1 q2 => by
                rw [nar_at q1 q2]
                have z := tell_m (d := e) hF9 hk9 (by rw [hF 10 (by decide)]; have := hm9; omega) (hc e q1 q2).1
                rw [hF 8 (by decide), hF 9 (by decide), hF 10 (by decide)] at z
                exact ⟨z.1, by rw [z.2]; exact (hc e q1 q2).2⟩)
            · refine r_aload_n (pq := 91) C dX11_tellAnew_90 rfl rfl ?_
              refine r_getf (pq := 94) C 15 o1 rfl (by decide) (by decide +kernel) (Or.inl rfl) rfl dX11_tellAnew_91 rfl ?_
              refine r_goto (tg := 101) C dX11_tellAnew_94 (by decide) ?_
              refine r_aload (pq := 103) C dX11_tellAnew_101 rfl rfl ?_
              refine r_iload_n (pq := 104) C dX11_tellAnew_103 rfl rfl ?_
              refine r_iload (pq := 106) C dX11_tellAnew_104 rfl rfl ?_
              refine r_callS (pq := 109) C (mc_X11_narrow (rr := 16) (mkC_M _) (by omega) (by omega) (by omega) (by omega) (by omega) hm g16) gX11_tellAnew_X11_narrow rfl (na := 4) (by decide +kernel) rfl (by decide) (by decide) (Nat.le_of_ble_eq_true rfl) ⟨Nat.zero_le _, Nat.zero_le _⟩ dX11_tellAnew_106 rfl rfl (fun r9 w9 hq => ?_)
              obtain ⟨rfl, rfl⟩ := hq
              dsimp only [Option.toList, List.nil_append]
              refine rN_iinc (c := 1) (pq := 112) C dX11_tellAnew_109 rfl (by decide) (by decide) rfl rfl ?_
              dsimp only [List.set]
              refine r_goto (tg := 33) C dX11_tellAnew_112 (by decide) ?_
              have hF9 : F 7 i = p9 ∧ F 11 i = 0 := ⟨(hF7 i c39).mpr (Or.inl c70), by rw [hF 11 (by decide)]; omega⟩
              have hk9 : F 6 i = 3 := by rw [hF 6 (by decide)]; exact Decidable.byContradiction fun q => by rw [if_neg q] at c87; omega
              refine GG.fgt 6 ?_
              dsimp only [List.set]
              exact ih (i + 1) _ c15 _ (by omega) (by omega) ((va_n _ _ (by decide)).trans g15) (va_s _ _ _) (fun r q1 q2 => (va_n _ _ q2).trans (hw r q1 q2)) (fun e q1 q2 => by
                rw [nar_at q1 q2]
                have z := tell_w (d := e) hF9 hk9 (hc e q1 q2).2
                rw [hF 8 (by decide), hF 9 (by decide), hF 10 (by decide)] at z
                exact ⟨by rw [z.2]; exact (hc e q1 q2).1, z.1⟩)
          · refine r_aload (pq := 75) C dX11_tellAnew_73 rfl rfl ?_
            refine r_getM (pq := 78) C (mkC_M _) 4 hm (by decide) (by decide +kernel) rfl rfl dX11_tellAnew_75 rfl ?_
            refine r_iload_n (pq := 79) C dX11_tellAnew_78 rfl rfl ?_
            refine rN_icmp_ne (tg := 109) (pq := 82) C dX11_tellAnew_79 (by decide) rfl (by omega) (by omega) (fun c79 => ?_) (fun c79 => ?_)
            · refine rN_iinc (c := 1) (pq := 112) C dX11_tellAnew_109 rfl (by decide) (by decide) rfl rfl ?_
              dsimp only [List.set]
              refine r_goto (tg := 33) C dX11_tellAnew_112 (by decide) ?_
              have hF9 : ¬ (F 7 i = p9 ∧ F 11 i = 0) := fun h => ((hF7 i c39).mp h.1).elim c70 c79
              refine GG.fgt 6 ?_
              dsimp only [List.set]
              exact ih (i + 1) w1 c15 c16 (by omega) (by omega) g15 g16 hw (fun e q1 q2 => by rw [mi_no hF9, cnF_no hF9]; exact hc e q1 q2)
            · refine r_aload (pq := 84) C dX11_tellAnew_82 rfl rfl ?_
              refine r_gives (pq := 87) C (by omega) hm gX11_tellAnew_X5_givesWay gX11_tellAnew_X5_givesWay_u163X1 gX11_tellAnew_X5_givesWay_u163X6 gX11_tellAnew_X10_givesWay_u163X10 (by decide +kernel) (by decide) (Nat.le_of_ble_eq_true rfl) ⟨Nat.zero_le _, Nat.zero_le _⟩ dX11_tellAnew_84 rfl ?_
              refine rN_if_eq (tg := 97) (pq := 90) C dX11_tellAnew_87 (by decide) rfl (by split <;> omega) (fun c87 => ?_) (fun c87 => ?_)
              · refine r_aload_n (pq := 98) C dX11_tellAnew_97 rfl rfl ?_
                refine r_getf (pq := 101) C 14 o1 rfl (by decide) (by decide +kernel) (Or.inl rfl) rfl dX11_tellAnew_98 rfl ?_
                refine r_aload (pq := 103) C dX11_tellAnew_101 rfl rfl ?_
                refine r_iload_n (pq := 104) C dX11_tellAnew_103 rfl rfl ?_
                refine r_iload (pq := 106) C dX11_tellAnew_104 rfl rfl ?_
                refine r_callS (pq := 109) C (mc_X11_narrow (rr := 15) (mkC_M _) (by omega) (by omega) (by omega) (by omega) (by omega) hm g15) gX11_tellAnew_X11_narrow rfl (na := 4) (by decide +kernel) rfl (by decide) (by decide) (Nat.le_of_ble_eq_true rfl) ⟨Nat.zero_le _, Nat.zero_le _⟩ dX11_tellAnew_106 rfl rfl (fun r9 w9 hq => ?_)
                obtain ⟨rfl, rfl⟩ := hq
                dsimp only [Option.toList, List.nil_append]
                refine rN_iinc (c := 1) (pq := 112) C dX11_tellAnew_109 rfl (by decide) (by decide) rfl rfl ?_
                dsimp only [List.set]
                refine r_goto (tg := 33) C dX11_tellAnew_112 (by decide) ?_
                have hF9 : F 7 i = p9 ∧ F 11 i = 0 := ⟨(hF7 i c39).mpr (Or.inr c79), by rw [hF 11 (by decide)]; omega⟩
                have hk9 : F 6 i ≠ 3 := by rw [hF 6 (by decide)]; intro q; rw [if_pos q] at c87; omega
                refine GG.fgt 6 ?_
                dsimp only [List.set]
                exact ih (i + 1) _ _ c16 (by omega) (by omega) (va_s _ _ _) ((va_n _ _ (by decide)).trans g16) (fun r q1 q2 => (va_n _ _ q1).trans (hw r q1 q2)) (fun e q1 q2 => by
                  rw [nar_at q1 q2]
                  have z := tell_m (d := e) hF9 hk9 (by rw [hF 10 (by decide)]; have := hm9; omega) (hc e q1 q2).1
                  rw [hF 8 (by decide), hF 9 (by decide), hF 10 (by decide)] at z
                  exact ⟨z.1, by rw [z.2]; exact (hc e q1 q2).2⟩)
              · refine r_aload_n (pq := 91) C dX11_tellAnew_90 rfl rfl ?_
                refine r_getf (pq := 94) C 15 o1 rfl (by decide) (by decide +kernel) (Or.inl rfl) rfl dX11_tellAnew_91 rfl ?_
                refine r_goto (tg := 101) C dX11_tellAnew_94 (by decide) ?_
                refine r_aload (pq := 103) C dX11_tellAnew_101 rfl rfl ?_
                refine r_iload_n (pq := 104) C dX11_tellAnew_103 rfl rfl ?_
                refine r_iload (pq := 106) C dX11_tellAnew_104 rfl rfl ?_
                refine r_callS (pq := 109) C (mc_X11_narrow (rr := 16) (mkC_M _) (by omega) (by omega) (by omega) (by omega) (by omega) hm g16) gX11_tellAnew_X11_narrow rfl (na := 4) (by decide +kernel) rfl (by decide) (by decide) (Nat.le_of_ble_eq_true rfl) ⟨Nat.zero_le _, Nat.zero_le _⟩ dX11_tellAnew_106 rfl rfl (fun r9 w9 hq => ?_)
                obtain ⟨rfl, rfl⟩ := hq
                dsimp only [Option.toList, List.nil_append]
                refine rN_iinc (c := 1) (pq := 112) C dX11_tellAnew_109 rfl (by decide) (by decide) rfl rfl ?_
                dsimp only [List.set]
                refine r_goto (tg := 33) C dX11_tellAnew_112 (by decide) ?_
                have hF9 : F 7 i = p9 ∧ F 11 i = 0 := ⟨(hF7 i c39).mpr (Or.inr c79), by rw [hF 11 (by decide)]; omega⟩
                have hk9 : F 6 i = 3 := by rw [hF 6 (by decide)]; exact Decidable.byContradiction fun q => by rw [if_neg q] at c87; omega
                refine GG.fgt 6 ?_
                dsimp only [List.set]
                exact ih (i + 1) _ c15 _ (by omega) (by omega) ((va_n _ _ (by decide)).trans g15) (va_s _ _ _) (fun r q1 q2 => (va_n _ _ q2).trans (hw r q1 q2)) (fun e q1 q2 => by
                  rw [nar_at q1 q2]
                  have z := tell_w (d := e) hF9 hk9 (hc e q1 q2).2
                  rw [hF 8 (by decide), hF 9 (by decide), hF 10 (by decide)] at z
                  exact ⟨by rw [z.2]; exact (hc e q1 q2).1, z.1⟩)
  refine r_aload_n (pq := 1) C dX11_tellAnew_0 rfl rfl ?_
  refine r_getf (pq := 4) C 14 o0 rfl (by decide) (by decide +kernel) (Or.inl rfl) rfl dX11_tellAnew_1 rfl ?_
  refine r_iload_n (pq := 5) C dX11_tellAnew_4 rfl rfl ?_
  refine r_iload (pq := 7) C dX11_tellAnew_5 rfl rfl ?_
  refine r_iconst (v := nI 1) (pq := 8) C dX11_tellAnew_7 (by decide) rfl ?_
  refine rN_iadd (pq := 9) C dX11_tellAnew_8 rfl ?_
  refine r_sipush (v := nI 511) (pq := 12) C dX11_tellAnew_9 (by decide) rfl ?_
  refine r_callS (pq := 15) C (mc_J7_fill_fda19 (by decide) (by omega) (by omega) e15) gX11_tellAnew_J7_fill_fda19 rfl (na := 4) (by decide +kernel) rfl (by decide) (by decide) (Nat.le_of_ble_eq_true rfl) ⟨Nat.zero_le _, Nat.zero_le _⟩ dX11_tellAnew_12 rfl rfl (fun r9 w9 hq => ?_)
  obtain ⟨rfl, rfl⟩ := hq
  dsimp only [Option.toList, List.nil_append]
  refine r_aload_n (pq := 16) C dX11_tellAnew_15 rfl rfl ?_
  refine r_getf (pq := 19) C 15 ((va_n _ _ (by decide)).trans o0) rfl (by decide) (by decide +kernel) (Or.inl rfl) rfl dX11_tellAnew_16 rfl ?_
  refine r_iload_n (pq := 20) C dX11_tellAnew_19 rfl rfl ?_
  refine r_iload (pq := 22) C dX11_tellAnew_20 rfl rfl ?_
  refine r_iconst (v := nI 1) (pq := 23) C dX11_tellAnew_22 (by decide) rfl ?_
  refine rN_iadd (pq := 24) C dX11_tellAnew_23 rfl ?_
  refine r_sipush (v := nI 255) (pq := 27) C dX11_tellAnew_24 (by decide) rfl ?_
  refine r_callS (pq := 30) C (mc_J7_fill_fda19 (by decide) (by omega) (by omega) ((va_n _ _ (by decide)).trans e16)) gX11_tellAnew_J7_fill_fda19 rfl (na := 4) (by decide +kernel) rfl (by decide) (by decide) (Nat.le_of_ble_eq_true rfl) ⟨Nat.zero_le _, Nat.zero_le _⟩ dX11_tellAnew_27 rfl rfl (fun r9 w9 hq => ?_)
  obtain ⟨rfl, rfl⟩ := hq
  dsimp only [Option.toList, List.nil_append]
  refine r_iconst (v := nI 0) (pq := 31) C dX11_tellAnew_30 (by decide) rfl ?_
  refine r_istore (j := 5) (pq := 33) C dX11_tellAnew_31 rfl (by decide) rfl rfl ?_
  dsimp only [List.set]
  exact loop1 (s.1 5 + 1) 0 _ _ _ (Nat.zero_le _) (by omega) ((va_n _ _ (by decide)).trans (va_s _ _ _)) (va_s _ _ _) (fun r q1 q2 => (va_n _ _ q2).trans (va_n _ _ q1)) (fun e q1 q2 => by
    unfold fil
    rw [if_pos (by omega), if_pos (by omega)]
    exact ⟨rfl, rfl⟩)


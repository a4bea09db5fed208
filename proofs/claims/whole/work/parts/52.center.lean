/-! ===== the class: marks that come ===== -/
/-- a call of the class answers v, touches no role from 1000 on, and leaves a state that is s -/
def nP (E : EV) (B : Nat → Nat) (w : RW) (v : Int32) (s : ST) : Option Value → RW → Prop := fun r w' => r = some (.int v) ∧ (∀ q, 1000 ≤ q → w' q = w q) ∧ ∃ B', B' 0 = B 0 ∧ NS E B' s w'
theorem cnF_ext {f f' : Nat → Nat → Nat} {p d : Nat} : ∀ {n : Nat}, (∀ m, m < n → ∀ k, 6 ≤ k → k ≤ 11 → f' k m = f k m) → cnF f' p d n = cnF f p d n
  | 0, _ => rfl
  | n + 1, h => by
    have ih := cnF_ext (p := p) (d := d) (n := n) (fun m hm => h m (by omega))
    have q := h n (by omega)
    simp only [cnF, cnS]
    rw [ih, q 7 (by decide) (by decide), q 11 (by decide) (by decide), q 8 (by decide) (by decide), q 9 (by decide) (by decide), q 6 (by decide) (by decide), q 10 (by decide) (by decide)]
theorem cn_ext {f f' : Nat → Nat → Nat} {p d n : Nat} (h : ∀ m, m < n → ∀ k, 6 ≤ k → k ≤ 11 → f' k m = f k m) : cn f' n p d = cn f n p d := by
  unfold cn
  rw [cnF_ext h]
theorem addm_at (f : Nat → Nat → Nat) (M k p a b l : Nat) : addm f M k p a b l 6 M = k ∧ addm f M k p a b l 7 M = p ∧ addm f M k p a b l 8 M = a ∧ addm f M k p a b l 9 M = b ∧ addm f M k p a b l 10 M = l ∧ addm f M k p a b l 11 M = 0 := by
  unfold addm upf
  simp [va_up]
theorem cn_last {f : Nat → Nat → Nat} {M p d : Nat} (h : ¬ (f 7 M = p ∧ f 11 M = 0 ∧ f 8 M ≤ d ∧ d ≤ f 9 M)) : cn f (M + 1) p d = cn f M p d := by
  have e : cnF f p d (M + 1) = cnF f p d M := by
    simp only [cnF, cnS]
    rw [if_neg h]
  unfold cn
  rw [e]
theorem cn_add {f : Nat → Nat → Nat} {M k p a b l p' d : Nat} (h : p' ≠ p ∨ d < a ∨ b < d) : cn (addm f M k p a b l) (M + 1) p' d = cn f M p' d := by
  obtain ⟨-, q7, q8, q9, -, -⟩ := addm_at f M k p a b l
  rw [cn_last (by rw [q7, q8, q9]; omega)]
  exact cn_ext (fun m hm k _ _ => addm_n f (Nat.ne_of_lt hm))
theorem whl_add {f : Nat → Nat → Nat} {M k p a b l : Nat} (hw : whl f M p) (hb : b < 400) : whl (addm f M k p a b l) (M + 1) p ↔ ∀ e, a ≤ e → e ≤ b → cn (addm f M k p a b l) (M + 1) p e ≠ 0 := by
  refine ⟨fun h e _ _ => h e (by omega), fun h d hd => ?_⟩
  by_cases q : a ≤ d ∧ d ≤ b
  · exact h d q.1 q.2
  · rw [cn_add (by omega)]
    exact hw d hd
theorem shl_to {B B' : Nat → Nat} {s s' : ST} {d : Nat} (h24 : s'.2.1 24 d = s.2.1 24 d) (h25 : s'.2.2 25 d = s.2.2 25 d) (h1 : s.2.1 24 d = 1 → B' (200 + tn (s.2.2 25 d)) = B (200 + tn (s.2.2 25 d))) (h2 : s.2.1 24 d = 2 → B' (100 + tn (s.2.2 25 d)) = B (100 + tn (s.2.2 25 d))) (h3 : B' (300 + d) = B (300 + d)) : shl B' s' d = shl B s d := by
  unfold shl
  rw [h24, h25, h3]
  by_cases q0 : s.2.1 24 d = 0
  · rw [if_pos q0, if_pos q0]
  · rw [if_neg q0, if_neg q0]
    by_cases q1 : s.2.1 24 d = 1
    · rw [if_pos q1, if_pos q1, h1 q1]
    · rw [if_neg q1, if_neg q1]
      by_cases q2 : s.2.1 24 d = 2
      · rw [if_pos q2, if_pos q2, h2 q2]
      · rw [if_neg q2, if_neg q2]
/-- where what a shelf holds is in range -/
theorem SI.sh {s : ST} (h : SI s) {d : Nat} (hd : d < 8) : s.2.1 24 d ≤ 4 ∧ (s.2.1 24 d = 1 → tn (s.2.2 25 d) < s.1 16) ∧ (s.2.1 24 d = 2 → tn (s.2.2 25 d) < s.1 5) ∧ s.2.1 26 d ≤ 400 := by
  obtain ⟨-, -, h5, h16, -, -, -, -, -, hh, -⟩ := h
  obtain ⟨q1, q2, q3, q4⟩ := hh d hd
  refine ⟨q1, fun e => ?_, fun e => ?_, q4⟩
  · obtain ⟨j, hj, e2⟩ := q2 e
    rw [e2, tn_nI (by omega)]
    exact hj
  · obtain ⟨j, hj, e2⟩ := q3 e
    rw [e2, tn_nI (by omega)]
    exact hj

set_option maxHeartbeats 4000000 in
set_option maxRecDepth 100000 in
/-- enter -/
theorem mc_X11_enter {l : Launch} {E : EV} {w : RW} {B : Nat → Nat} {s : ST} {k9 p9 a9 b9 l9 q : Nat} (hS : SI s) (hN : NS E B s w) (hk : k9 < 4) (hp : p9 < s.1 1) (hab : a9 ≤ b9) (hb : b9 < 400) (hl : l9 ≤ 255) (hT : w (100 + s.1 5) = some (q, .inr (mkC k9, [.int (nI (s.1 5)), .int (nI a9), .int (nI b9), .int (nI l9), .int (nI p9), .int (nI 0)]))) : MC l E yX11_enter wsX11_enter 3 0 0 [.ref (B 0), .ref q] (w) (nP E B w (rs_comes s k9 p9 a9 b9 l9) (nx_comes s k9 p9 a9 b9 l9)) := by
  refine MC.enter (cc := cX11_enter) (maxL := 3) (ret := (some .int)) (lv0 := [some (.ref (B 0)), some (.ref q), none]) (by decide) rfl (by simp [Value.category]) (Nat.le_of_ble_eq_true rfl) rfl ?_
  intro X hl hE C D
  subst hl
  subst hE
  have hI1 : s.1 1 ≤ 6 := hS.2.1
  have hI5 : s.1 5 ≤ 80 := hS.2.2.1
  have hI16 : s.1 16 ≤ 12 := hS.2.2.2.1
  have hf4 : s.2.1 4 p9 < 2 := (hS.2.2.2.2.1 p9 hp).2.2
  have hNN := hN
  obtain ⟨o0, ⟨u1, e1, f1⟩, ⟨u2, e2, f2⟩, ⟨u3, e3, f3⟩, ⟨u5, e5, f5⟩, ⟨u6, e6, f6⟩, ⟨u8, e8, f8⟩, ⟨u10, e10, f10⟩, ⟨u11, e11, f11⟩, ⟨u13, e13, f13⟩, ⟨u14, e14, f14⟩, ⟨u15, e15⟩, ⟨u16, e16⟩, h20, h30, h100, h200, h220, h240, h300, h310⟩ := hNN
  refine r_aload_n (pq := 1) C dX11_enter_0 rfl rfl ?_
  refine r_getf (pq := 4) C 6 o0 rfl (by decide) (by decide +kernel) (Or.inl rfl) rfl dX11_enter_1 rfl ?_
  refine r_istore_n (j := 2) (pq := 5) C dX11_enter_4 rfl (by decide) rfl rfl ?_
  dsimp only [List.set]
  refine r_iload_n (pq := 6) C dX11_enter_5 rfl rfl ?_
  refine r_bipush (v := nI 80) (pq := 8) C dX11_enter_6 (by decide) rfl ?_
  refine rN_icmp_lt (tg := 14) (pq := 11) C dX11_enter_8 (by decide) rfl (by omega) (by omega) (fun c8 => ?_) (fun c8 => ?_)
  · refine r_aload_n (pq := 15) C dX11_enter_14 rfl rfl ?_
    refine r_getf (pq := 18) C 2 o0 rfl (by decide) (by decide +kernel) (Or.inl rfl) rfl dX11_enter_15 rfl ?_
    refine r_aload_n (pq := 19) C dX11_enter_18 rfl rfl ?_
    refine r_getM (pq := 22) C (mkC_M k9) 4 hT (by decide) (by decide +kernel) rfl rfl dX11_enter_19 rfl ?_
    refine rN_zald (pq := 23) C e3 (by omega) (by decide) dX11_enter_22 rfl ?_
    refine r_at (f3 p9 (by omega)) ?_
    rw [if_pos hp]
    refine rN_if_eq (tg := 29) (pq := 26) C dX11_enter_23 (by decide) rfl (by omega) (fun c23 => ?_) (fun c23 => ?_)
    · refine r_aload_n (pq := 30) C dX11_enter_29 rfl rfl ?_
      refine r_getf (pq := 33) C 5 o0 rfl (by decide) (by decide +kernel) (Or.inl rfl) rfl dX11_enter_30 rfl ?_
      refine r_iload_n (pq := 34) C dX11_enter_33 rfl rfl ?_
      refine r_aload_n (pq := 35) C dX11_enter_34 rfl rfl ?_
      refine rN_aast (pq := 36) C 4 rfl e6 (any_M C (mkC_M k9) (Or.inl rfl) hT) (by omega) (by decide) dX11_enter_35 rfl ?_
      refine r_aload_n (pq := 37) C dX11_enter_36 rfl rfl ?_
      refine r_dup (pq := 38) C dX11_enter_37 rfl rfl ?_
      refine r_getf (pq := 41) C 6 ((va_n _ _ (by decide)).trans o0) rfl (by decide) (by decide +kernel) (Or.inl rfl) rfl dX11_enter_38 rfl ?_
      refine r_iconst (v := nI 1) (pq := 42) C dX11_enter_41 (by decide) rfl ?_
      refine rN_iadd (pq := 43) C dX11_enter_42 rfl ?_
      refine r_putf (pq := 46) C 6 ((va_n _ _ (by decide)).trans o0) rfl tyX11 tyX11_ok nmX11 (by decide) (by decide +kernel) (Or.inl rfl) rfl rfl rfl rfl (Nat.le_of_ble_eq_true rfl) dX11_enter_43 rfl ?_
      refine r_aload_n (pq := 47) C dX11_enter_46 rfl rfl ?_
      refine r_aload_n (pq := 48) C dX11_enter_47 rfl rfl ?_
      refine r_getM (pq := 51) C (mkC_M k9) 4 ((va_n _ _ (by omega)).trans ((va_n _ _ (by omega)).trans hT)) (by decide) (by decide +kernel) rfl rfl dX11_enter_48 rfl ?_
      refine r_aload_n (pq := 52) C dX11_enter_51 rfl rfl ?_
      refine r_getM (pq := 55) C (mkC_M k9) 4 ((va_n _ _ (by omega)).trans ((va_n _ _ (by omega)).trans hT)) (by decide) (by decide +kernel) rfl rfl dX11_enter_52 rfl ?_
      refine r_aload_n (pq := 56) C dX11_enter_55 rfl rfl ?_
      refine r_getM (pq := 59) C (mkC_M k9) 1 ((va_n _ _ (by omega)).trans ((va_n _ _ (by omega)).trans hT)) (by decide) (by decide +kernel) rfl rfl dX11_enter_56 rfl ?_
      refine r_aload_n (pq := 60) C dX11_enter_59 rfl rfl ?_
      refine r_getM (pq := 63) C (mkC_M k9) 2 ((va_n _ _ (by omega)).trans ((va_n _ _ (by omega)).trans hT)) (by decide) (by decide +kernel) rfl rfl dX11_enter_60 rfl ?_
      have hBj : ∀ r, r ≠ 100 + s.1 5 → (va_up B (100 + s.1 5) q) r = B r := fun r hr => va_n _ _ hr
      have hMlt : s.1 5 < 80 := by omega
      have hM1 : s.1 5 + 1 ≤ 80 := by omega
      have hbd1 : ∀ m, m < s.1 5 + 1 → addm s.2.1 (s.1 5) k9 p9 a9 b9 l9 6 m < 4 ∧ addm s.2.1 (s.1 5) k9 p9 a9 b9 l9 7 m < 6 ∧ addm s.2.1 (s.1 5) k9 p9 a9 b9 l9 8 m ≤ addm s.2.1 (s.1 5) k9 p9 a9 b9 l9 9 m ∧ addm s.2.1 (s.1 5) k9 p9 a9 b9 l9 9 m < 400 ∧ addm s.2.1 (s.1 5) k9 p9 a9 b9 l9 10 m ≤ 255 ∧ addm s.2.1 (s.1 5) k9 p9 a9 b9 l9 11 m < 2 := by
        intro m hm
        by_cases e : m = s.1 5
        · subst e
          obtain ⟨z6, z7, z8, z9, z10, z11⟩ := addm_at s.2.1 (s.1 5) k9 p9 a9 b9 l9
          rw [z6, z7, z8, z9, z10, z11]
          omega
        · rw [addm_n _ e, addm_n _ e, addm_n _ e, addm_n _ e, addm_n _ e, addm_n _ e]
          have := hS.2.2.2.2.2.1 m (by omega)
          omega
      have hO1 : (va_up (va_up w 6 (qA (xE X) 4 (B 6) 80 (va_up u6 (s.1 5) (some q)))) 0 (some (B 0, .inr (12, (nFs B s).set 6 (.int (nI (s.1 5 + 1))))))) 0 = some ((va_up B (100 + s.1 5) q) 0, .inr (12, nFs (va_up B (100 + s.1 5) q) (va_up s.1 5 (s.1 5 + 1), addm s.2.1 (s.1 5) k9 p9 a9 b9 l9, s.2.2))) := by
        rw [va_s, hBj 0 (by omega)]
        unfold nFs
        rw [hBj 1 (by omega), hBj 2 (by omega), hBj 3 (by omega), hBj 5 (by omega), hBj 6 (by omega), hBj 8 (by omega), hBj 10 (by omega), hBj 11 (by omega), hBj 13 (by omega), hBj 14 (by omega), hBj 15 (by omega), hBj 16 (by omega)]
        rfl
      have hE5 : (va_up (va_up w 6 (qA (xE X) 4 (B 6) 80 (va_up u6 (s.1 5) (some q)))) 0 (some (B 0, .inr (12, (nFs B s).set 6 (.int (nI (s.1 5 + 1))))))) 5 = qA (xE X) 8 ((va_up B (100 + s.1 5) q) 5) 6 u5 := by rw [hBj 5 (by omega), va_n _ _ (by decide), va_n _ _ (by decide)]; exact e5
      have hF5 : ∀ p, p < 6 → u5 p = some ((va_up B (100 + s.1 5) q) (20 + p)) := fun p hp => by rw [hBj _ (by omega)]; exact f5 p hp
      have hE6 : (va_up (va_up w 6 (qA (xE X) 4 (B 6) 80 (va_up u6 (s.1 5) (some q)))) 0 (some (B 0, .inr (12, (nFs B s).set 6 (.int (nI (s.1 5 + 1))))))) 6 = qA (xE X) 4 ((va_up B (100 + s.1 5) q) 6) 80 (va_up u6 (s.1 5) (some q)) := by rw [hBj 6 (by omega), va_n _ _ (by decide), va_s]
      have hF6 : ∀ m, m < s.1 5 + 1 → va_up u6 (s.1 5) (some q) m = some ((va_up B (100 + s.1 5) q) (100 + m)) := by
        intro m hm
        by_cases e : m = s.1 5
        · subst e; rw [va_s, va_s]
        · rw [va_n _ _ e, hBj _ (by omega)]; exact f6 m (by omega)
      have hE15 : (va_up (va_up w 6 (qA (xE X) 4 (B 6) 80 (va_up u6 (s.1 5) (some q)))) 0 (some (B 0, .inr (12, (nFs B s).set 6 (.int (nI (s.1 5 + 1))))))) 15 = iA (xE X) ((va_up B (100 + s.1 5) q) 15) 400 u15 := by rw [hBj 15 (by omega), va_n _ _ (by decide), va_n _ _ (by decide)]; exact e15
      have hE16 : (va_up (va_up w 6 (qA (xE X) 4 (B 6) 80 (va_up u6 (s.1 5) (some q)))) 0 (some (B 0, .inr (12, (nFs B s).set 6 (.int (nI (s.1 5 + 1))))))) 16 = iA (xE X) ((va_up B (100 + s.1 5) q) 16) 400 u16 := by rw [hBj 16 (by omega), va_n _ _ (by decide), va_n _ _ (by decide)]; exact e16
      obtain ⟨h9, a1, a2⟩ := h20 p9 (by omega)
      have hA1 : (va_up (va_up w 6 (qA (xE X) 4 (B 6) 80 (va_up u6 (s.1 5) (some q)))) 0 (some (B 0, .inr (12, (nFs B s).set 6 (.int (nI (s.1 5 + 1))))))) (20 + p9) = iA (xE X) ((va_up B (100 + s.1 5) q) (20 + p9)) 400 h9 := by rw [hBj _ (by omega), va_n _ _ (by omega), va_n _ _ (by omega)]; exact a1
      have h100' : ∀ m, m < s.1 5 + 1 → (va_up (va_up w 6 (qA (xE X) 4 (B 6) 80 (va_up u6 (s.1 5) (some q)))) 0 (some (B 0, .inr (12, (nFs B s).set 6 (.int (nI (s.1 5 + 1))))))) (100 + m) = some ((va_up B (100 + s.1 5) q) (100 + m), .inr (mkC (addm s.2.1 (s.1 5) k9 p9 a9 b9 l9 6 m), mFl (va_up s.1 5 (s.1 5 + 1), addm s.2.1 (s.1 5) k9 p9 a9 b9 l9, s.2.2) m)) := by
        intro m hm
        rw [va_n _ _ (by omega), va_n _ _ (by omega)]
        by_cases e : m = s.1 5
        · subst e
          obtain ⟨z6, z7, z8, z9, z10, z11⟩ := addm_at s.2.1 (s.1 5) k9 p9 a9 b9 l9
          dsimp only [mFl]
          rw [z6, z7, z8, z9, z10, z11, va_s]
          exact hT
        · dsimp only [mFl]
          rw [addm_n _ e, addm_n _ e, addm_n _ e, addm_n _ e, addm_n _ e, addm_n _ e, hBj _ (by omega)]
          exact h100 m (by omega)
      have hwh := whl_add (k := k9) (l := l9) (a := a9) (hS.2.2.2.2.2.2.2.2.2.2 p9 hp) hb
      refine GG.cast (show _ = va_up (va_up w 6 (qA (xE X) 4 (B 6) 80 (va_up u6 (s.1 5) (some q)))) 0 (some (B 0, .inr (12, (nFs B s).set 6 (.int (nI (s.1 5 + 1)))))) from rfl) ?_
      refine r_callV (pq := 66) C (mc_X11_tellAnew (B := (va_up B (100 + s.1 5) q)) (s := (va_up s.1 5 (s.1 5 + 1), addm s.2.1 (s.1 5) k9 p9 a9 b9 l9, s.2.2)) (F := addm s.2.1 (s.1 5) k9 p9 a9 b9 l9) (w := va_up (va_up w 6 (qA (xE X) 4 (B 6) 80 (va_up u6 (s.1 5) (some q)))) 0 (some (B 0, .inr (12, (nFs B s).set 6 (.int (nI (s.1 5 + 1))))))) hM1 (by omega) (by omega) hab hb (fun _ _ => rfl) (fun m _ => ⟨Or.inl, fun h => h.elim id id⟩) hbd1 hO1 hE5 hF5 hE6 hF6 hE15 hE16 hA1 h100') hO1 rfl gX11_enter_X11_tellAnew rfl (na := 4) (by decide +kernel) rfl (by decide) (by decide) (Nat.le_of_ble_eq_true rfl) ⟨Nat.zero_le _, Nat.zero_le _⟩ dX11_enter_63 (by rw [hBj 0 (by omega)]; rfl) rfl (fun r9 w9 hq => ?_)
      obtain ⟨rfl, ⟨d15, g15⟩, ⟨d16, g16⟩, ⟨d20, g20, k1, k2⟩, hw9⟩ := hq
      dsimp only [Option.toList, List.cons_append, List.nil_append]
      simp only [va_s] at k1 k2 ⊢
      have hO2 : w9 0 = some (B 0, .inr (12, nFs (va_up B (100 + s.1 5) q) (va_up s.1 5 (s.1 5 + 1), addm s.2.1 (s.1 5) k9 p9 a9 b9 l9, s.2.2))) := ((hw9 0 (by omega) (by omega) (by omega)).trans hO1).trans (by rw [hBj 0 (by omega)])
      have l63 := b2_lt (∀ e, a9 ≤ e → e ≤ b9 → cn (addm s.2.1 (s.1 5) k9 p9 a9 b9 l9) (s.1 5 + 1) p9 e ≠ 0)
      refine rN_if_eq (tg := 71) (pq := 69) C dX11_enter_66 (by decide) rfl (by omega) (fun c66 => ?_) (fun c66 => ?_)
      · refine r_aload_n (pq := 72) C dX11_enter_71 rfl rfl ?_
        refine r_dup (pq := 73) C dX11_enter_72 rfl rfl ?_
        refine r_getf (pq := 76) C 6 hO2 rfl (by decide) (by decide +kernel) (Or.inl rfl) (v := .int (nI (s.1 5 + 1))) rfl dX11_enter_73 rfl ?_
        refine r_iconst (v := nI 1) (pq := 77) C dX11_enter_76 (by decide) rfl ?_
        refine rN_isub (pq := 78) C dX11_enter_77 (by omega) rfl ?_
        refine r_putf (pq := 81) C 6 hO2 rfl tyX11 tyX11_ok nmX11 (by decide) (by decide +kernel) (Or.inl rfl) rfl rfl rfl rfl (Nat.le_of_ble_eq_true rfl) dX11_enter_78 rfl ?_
        refine r_aload_n (pq := 82) C dX11_enter_81 rfl rfl ?_
        refine r_getf (pq := 85) C 5 (va_s _ _ _) rfl (by decide) (by decide +kernel) (Or.inl rfl) rfl dX11_enter_82 rfl ?_
        refine r_iload_n (pq := 86) C dX11_enter_85 rfl rfl ?_
        refine r_aconst_null (pq := 87) C dX11_enter_86 rfl ?_
        refine rN_aastN (pq := 88) C 4 rfl ((va_n _ _ (by decide)).trans ((hw9 6 (by omega) (by omega) (by omega)).trans hE6)) (by omega) (by decide) dX11_enter_87 rfl ?_
        refine r_bipush (v := (-4)) (pq := 90) C dX11_enter_88 (by decide) rfl ?_
        refine r_iret C D rfl ⟨Nat.le_refl _, Nat.le_refl _⟩ dX11_enter_90 ?_
        refine ⟨?_, fun z hz => (va_n _ _ (by omega)).trans ((va_n _ _ (by omega)).trans ((hw9 z (by omega) (by omega) (by omega)).trans ((va_n _ _ (by omega)).trans (va_n _ _ (by omega))))), B, rfl, ?_⟩
        · unfold rs_comes
          rw [if_neg (by omega), if_neg (fun h => h c23), if_neg (fun h => b2_0.mp c66 (hwh.mp h))]
        · unfold nx_comes
          rw [if_neg (fun h => b2_0.mp c66 (hwh.mp h.2.2))]
          refine ⟨?_, ?_, ?_, ?_, ?_, ?_, ?_, ?_, ?_, ?_, ?_, ?_, ?_, ?_, ?_, ?_, ?_, ?_, ?_, ?_, ?_⟩
          · rw [va_n _ _ (by decide), va_s]
            unfold nFs
            rw [hBj 1 (by omega), hBj 2 (by omega), hBj 3 (by omega), hBj 5 (by omega), hBj 6 (by omega), hBj 8 (by omega), hBj 10 (by omega), hBj 11 (by omega), hBj 13 (by omega), hBj 14 (by omega), hBj 15 (by omega), hBj 16 (by omega)]
            rfl
          · exact ⟨u1, ((va_n _ _ (by omega)).trans ((va_n _ _ (by omega)).trans ((hw9 1 (by omega) (by omega) (by omega)).trans ((va_n _ _ (by omega)).trans (va_n _ _ (by omega)))))).trans e1, f1⟩
          · exact ⟨u2, ((va_n _ _ (by omega)).trans ((va_n _ _ (by omega)).trans ((hw9 2 (by omega) (by omega) (by omega)).trans ((va_n _ _ (by omega)).trans (va_n _ _ (by omega)))))).trans e2, f2⟩
          · exact ⟨u3, ((va_n _ _ (by omega)).trans ((va_n _ _ (by omega)).trans ((hw9 3 (by omega) (by omega) (by omega)).trans ((va_n _ _ (by omega)).trans (va_n _ _ (by omega)))))).trans e3, f3⟩
          · exact ⟨u5, ((va_n _ _ (by omega)).trans ((va_n _ _ (by omega)).trans ((hw9 5 (by omega) (by omega) (by omega)).trans ((va_n _ _ (by omega)).trans (va_n _ _ (by omega)))))).trans e5, f5⟩
          · refine ⟨_, (va_s _ _ _).trans (by rw [hBj 6 (by omega)]), fun m hm => ?_⟩
            rw [va_n _ _ (by omega), va_n _ _ (by omega)]
            exact f6 m hm
          · exact ⟨u8, ((va_n _ _ (by omega)).trans ((va_n _ _ (by omega)).trans ((hw9 8 (by omega) (by omega) (by omega)).trans ((va_n _ _ (by omega)).trans (va_n _ _ (by omega)))))).trans e8, f8⟩
          · exact ⟨u10, ((va_n _ _ (by omega)).trans ((va_n _ _ (by omega)).trans ((hw9 10 (by omega) (by omega) (by omega)).trans ((va_n _ _ (by omega)).trans (va_n _ _ (by omega)))))).trans e10, f10⟩
          · exact ⟨u11, ((va_n _ _ (by omega)).trans ((va_n _ _ (by omega)).trans ((hw9 11 (by omega) (by omega) (by omega)).trans ((va_n _ _ (by omega)).trans (va_n _ _ (by omega)))))).trans e11, f11⟩
          · exact ⟨u13, ((va_n _ _ (by omega)).trans ((va_n _ _ (by omega)).trans ((hw9 13 (by omega) (by omega) (by omega)).trans ((va_n _ _ (by omega)).trans (va_n _ _ (by omega)))))).trans e13, f13⟩
          · exact ⟨u14, ((va_n _ _ (by omega)).trans ((va_n _ _ (by omega)).trans ((hw9 14 (by omega) (by omega) (by omega)).trans ((va_n _ _ (by omega)).trans (va_n _ _ (by omega)))))).trans e14, f14⟩
          · exact ⟨_, (va_n _ _ (by omega)).trans ((va_n _ _ (by omega)).trans (g15.trans (by rw [hBj 15 (by omega)])))⟩
          · exact ⟨_, (va_n _ _ (by omega)).trans ((va_n _ _ (by omega)).trans (g16.trans (by rw [hBj 16 (by omega)])))⟩
          · intro p hp6
            by_cases e : p = p9
            · subst e
              refine ⟨d20, (va_n _ _ (by omega)).trans ((va_n _ _ (by omega)).trans (g20.trans (by rw [hBj _ (by omega)]))), fun _ d hd => ?_⟩
              rw [k2 d hd (Or.inr (Or.inr (b2_0.mp c66))), a2 hp d hd]
            · obtain ⟨h8, b1, b2⟩ := h20 p hp6
              exact ⟨h8, ((va_n _ _ (by omega)).trans ((va_n _ _ (by omega)).trans ((hw9 _ (by omega) (by omega) (by omega)).trans ((va_n _ _ (by omega)).trans (va_n _ _ (by omega)))))).trans b1, b2⟩
          · intro l hl
            obtain ⟨x, y, a1⟩ := h30 l hl
            exact ⟨x, y, ((va_n _ _ (by omega)).trans ((va_n _ _ (by omega)).trans ((hw9 (30 + l) (by omega) (by omega) (by omega)).trans ((va_n _ _ (by omega)).trans (va_n _ _ (by omega)))))).trans a1⟩
          · intro m hm
            exact ((va_n _ _ (by omega)).trans ((va_n _ _ (by omega)).trans ((hw9 (100 + m) (by omega) (by omega) (by omega)).trans ((va_n _ _ (by omega)).trans (va_n _ _ (by omega)))))).trans (h100 m hm)
          · intro j hj
            obtain ⟨z, a1⟩ := h200 j hj
            exact ⟨z, ((va_n _ _ (by omega)).trans ((va_n _ _ (by omega)).trans ((hw9 (200 + j) (by omega) (by omega) (by omega)).trans ((va_n _ _ (by omega)).trans (va_n _ _ (by omega)))))).trans a1⟩
          · intro j hj
            obtain ⟨x, y, a1⟩ := h220 j hj
            exact ⟨x, y, ((va_n _ _ (by omega)).trans ((va_n _ _ (by omega)).trans ((hw9 (220 + j) (by omega) (by omega) (by omega)).trans ((va_n _ _ (by omega)).trans (va_n _ _ (by omega)))))).trans a1⟩
          · intro j hj
            obtain ⟨x, y, a1⟩ := h240 j hj
            exact ⟨x, y, ((va_n _ _ (by omega)).trans ((va_n _ _ (by omega)).trans ((hw9 (240 + j) (by omega) (by omega) (by omega)).trans ((va_n _ _ (by omega)).trans (va_n _ _ (by omega)))))).trans a1⟩
          · intro d hd h3
            exact ((va_n _ _ (by omega)).trans ((va_n _ _ (by omega)).trans ((hw9 (300 + d) (by omega) (by omega) (by omega)).trans ((va_n _ _ (by omega)).trans (va_n _ _ (by omega)))))).trans (h300 d hd h3)
          · intro d hd h3
            obtain ⟨h9, a1, a2⟩ := h310 d hd h3
            exact ⟨h9, ((va_n _ _ (by omega)).trans ((va_n _ _ (by omega)).trans ((hw9 (310 + d) (by omega) (by omega) (by omega)).trans ((va_n _ _ (by omega)).trans (va_n _ _ (by omega)))))).trans a1, a2⟩
      · refine r_iload_n (pq := 70) C dX11_enter_69 rfl rfl ?_
        refine r_iret C D rfl ⟨Nat.le_refl _, Nat.le_refl _⟩ dX11_enter_70 ?_
        refine ⟨?_, fun z hz => (hw9 z (by omega) (by omega) (by omega)).trans ((va_n _ _ (by omega)).trans (va_n _ _ (by omega))), (va_up B (100 + s.1 5) q), hBj 0 (by omega), ?_⟩
        · unfold rs_comes
          rw [if_neg (by omega), if_neg (fun h => h c23), if_pos (hwh.mpr (b2_1.mp c66))]
        · unfold nx_comes
          rw [if_pos ⟨by omega, c23, hwh.mpr (b2_1.mp c66)⟩]
          refine ⟨?_, ?_, ?_, ?_, ?_, ?_, ?_, ?_, ?_, ?_, ?_, ?_, ?_, ?_, ?_, ?_, ?_, ?_, ?_, ?_, ?_⟩
          · exact (hw9 0 (by omega) (by omega) (by omega)).trans hO1
          · rw [hBj 1 (by omega)]
            exact ⟨u1, ((hw9 1 (by omega) (by omega) (by omega)).trans ((va_n _ _ (by omega)).trans (va_n _ _ (by omega)))).trans e1, f1⟩
          · rw [hBj 2 (by omega)]
            exact ⟨u2, ((hw9 2 (by omega) (by omega) (by omega)).trans ((va_n _ _ (by omega)).trans (va_n _ _ (by omega)))).trans e2, f2⟩
          · rw [hBj 3 (by omega)]
            exact ⟨u3, ((hw9 3 (by omega) (by omega) (by omega)).trans ((va_n _ _ (by omega)).trans (va_n _ _ (by omega)))).trans e3, f3⟩
          · rw [hBj 5 (by omega)]
            refine ⟨u5, ((hw9 5 (by omega) (by omega) (by omega)).trans ((va_n _ _ (by omega)).trans (va_n _ _ (by omega)))).trans e5, fun x hx => ?_⟩
            rw [hBj (20 + x) (by omega)]
            exact f5 x hx
          · exact ⟨_, (hw9 6 (by omega) (by omega) (by omega)).trans hE6, hF6⟩
          · rw [hBj 8 (by omega)]
            refine ⟨u8, ((hw9 8 (by omega) (by omega) (by omega)).trans ((va_n _ _ (by omega)).trans (va_n _ _ (by omega)))).trans e8, fun x hx => ?_⟩
            rw [hBj (200 + x) (by omega)]
            exact f8 x hx
          · rw [hBj 10 (by omega)]
            exact ⟨u10, ((hw9 10 (by omega) (by omega) (by omega)).trans ((va_n _ _ (by omega)).trans (va_n _ _ (by omega)))).trans e10, f10⟩
          · rw [hBj 11 (by omega)]
            exact ⟨u11, ((hw9 11 (by omega) (by omega) (by omega)).trans ((va_n _ _ (by omega)).trans (va_n _ _ (by omega)))).trans e11, f11⟩
          · rw [hBj 13 (by omega)]
            refine ⟨u13, ((hw9 13 (by omega) (by omega) (by omega)).trans ((va_n _ _ (by omega)).trans (va_n _ _ (by omega)))).trans e13, fun d hd => ?_⟩
            have z := hS.sh hd
            rw [f13 d hd]
            exact (shl_to rfl rfl (fun e => hBj _ (by have := z.2.1 e; omega)) (fun e => hBj _ (by have := z.2.2.1 e; omega)) (hBj _ (by omega))).symm
          · rw [hBj 14 (by omega)]
            refine ⟨u14, ((hw9 14 (by omega) (by omega) (by omega)).trans ((va_n _ _ (by omega)).trans (va_n _ _ (by omega)))).trans e14, fun x hx => ?_⟩
            rw [hBj (30 + x) (by omega)]
            exact f14 x hx
          · exact ⟨_, g15⟩
          · exact ⟨_, g16⟩
          · intro p hp6
            by_cases e : p = p9
            · subst e
              refine ⟨d20, g20, fun _ d hd => ?_⟩
              by_cases z : a9 ≤ d ∧ d ≤ b9
              · exact k1 (b2_1.mp c66) d z.1 z.2
              · rw [k2 d hd (by omega), a2 hp d hd]
                exact congrArg nI (cn_add (f := s.2.1) (M := s.1 5) (k := k9) (p := p) (a := a9) (b := b9) (l := l9) (p' := p) (d := d) (by omega)).symm
            · obtain ⟨h8, b1, b2⟩ := h20 p hp6
              rw [hBj _ (by omega)]
              refine ⟨h8, ((hw9 _ (by omega) (by omega) (by omega)).trans ((va_n _ _ (by omega)).trans (va_n _ _ (by omega)))).trans b1, fun z d hd => ?_⟩
              rw [b2 z d hd]
              exact congrArg nI (cn_add (f := s.2.1) (M := s.1 5) (k := k9) (p := p9) (a := a9) (b := b9) (l := l9) (p' := p) (d := d) (Or.inl e)).symm
          · intro l hl
            obtain ⟨x, y, a1⟩ := h30 l hl
            rw [hBj (30 + l) (by omega)]
            exact ⟨x, y, ((hw9 (30 + l) (by omega) (by omega) (by omega)).trans ((va_n _ _ (by omega)).trans (va_n _ _ (by omega)))).trans a1⟩
          · intro m hm
            exact (hw9 _ (by omega) (by omega) (by omega)).trans (h100' m hm)
          · intro j hj
            obtain ⟨z, a1⟩ := h200 j hj
            rw [hBj (200 + j) (by omega), hBj (220 + j) (by omega), hBj (240 + j) (by omega)]
            exact ⟨z, ((hw9 (200 + j) (by omega) (by omega) (by omega)).trans ((va_n _ _ (by omega)).trans (va_n _ _ (by omega)))).trans a1⟩
          · intro j hj
            obtain ⟨x, y, a1⟩ := h220 j hj
            rw [hBj (220 + j) (by omega)]
            exact ⟨x, y, ((hw9 (220 + j) (by omega) (by omega) (by omega)).trans ((va_n _ _ (by omega)).trans (va_n _ _ (by omega)))).trans a1⟩
          · intro j hj
            obtain ⟨x, y, a1⟩ := h240 j hj
            rw [hBj (240 + j) (by omega)]
            exact ⟨x, y, ((hw9 (240 + j) (by omega) (by omega) (by omega)).trans ((va_n _ _ (by omega)).trans (va_n _ _ (by omega)))).trans a1⟩
          · intro d hd h3
            show _ = some (_, _)
            rw [hBj (300 + d) (by omega), hBj (310 + d) (by omega)]
            exact ((hw9 (300 + d) (by omega) (by omega) (by omega)).trans ((va_n _ _ (by omega)).trans (va_n _ _ (by omega)))).trans (h300 d hd h3)
          · intro d hd h3
            obtain ⟨h9, a1, a2⟩ := h310 d hd h3
            rw [hBj (310 + d) (by omega)]
            exact ⟨h9, ((hw9 (310 + d) (by omega) (by omega) (by omega)).trans ((va_n _ _ (by omega)).trans (va_n _ _ (by omega)))).trans a1, a2⟩
    · refine r_bipush (v := (-3)) (pq := 28) C dX11_enter_26 (by decide) rfl ?_
      refine r_iret C D rfl ⟨Nat.le_refl _, Nat.le_refl _⟩ dX11_enter_28 ?_
      refine ⟨?_, fun _ _ => rfl, B, rfl, ?_⟩
      · unfold rs_comes
        rw [if_neg (by omega), if_pos c23]
      · unfold nx_comes
        rw [if_neg (fun h => c23 h.2.1)]
        exact hN
  · refine r_bipush (v := (-2)) (pq := 13) C dX11_enter_11 (by decide) rfl ?_
    refine r_iret C D rfl ⟨Nat.le_refl _, Nat.le_refl _⟩ dX11_enter_13 ?_
    refine ⟨?_, fun _ _ => rfl, B, rfl, ?_⟩
    · unfold rs_comes
      rw [if_pos (by omega)]
    · unfold nx_comes
      rw [if_neg (fun h => h.1 (by omega))]
      exact hN


/-! ===== what every state holds is kept; what no call shows doesn't matter ===== -/
def SR (s : ST) : Prop :=
  s.1 1 ≤ 6 ∧ s.1 5 ≤ 80 ∧ s.1 16 ≤ 12 ∧
  (∀ p, p < s.1 1 → s.2.1 2 p < 8 ∧ s.2.1 3 p < 8 ∧ s.2.1 4 p < 2) ∧
  (∀ m, m < s.1 5 → s.2.1 6 m < 4 ∧ s.2.1 7 m < s.1 1 ∧ s.2.1 8 m ≤ s.2.1 9 m ∧ s.2.1 9 m < 400 ∧ s.2.1 10 m ≤ 255 ∧ s.2.1 11 m < 2) ∧
  (∀ j, j < s.1 16 → lwOK s.2.1 s.2.2 j) ∧
  (∀ l, l < 8 → 1 ≤ s.2.1 22 l ∧ s.2.1 22 l ≤ 100) ∧
  (∀ k, k < 64 → s.2.2 23 k = -1 ∨ ∃ t, tsOK t ∧ s.2.2 23 k = nI t) ∧
  (∀ d, d < 8 → s.2.1 24 d ≤ 4 ∧ (s.2.1 24 d = 1 → ∃ j, j < s.1 16 ∧ s.2.2 25 d = nI j) ∧ (s.2.1 24 d = 2 → ∃ m, m < s.1 5 ∧ s.2.2 25 d = nI m) ∧ s.2.1 26 d ≤ 400) ∧
  (∀ p, p < s.1 1 → whl s.2.1 (s.1 5) p)
theorem SI.sr {s : ST} (h : SI s) : SR s := h.2
theorem EQ.sr {s t : ST} (h : EQ s t) (hs : SR s) : SR t := by
  obtain ⟨e1, e5, e16, ep, em, ej, el, ek, ed⟩ := h
  obtain ⟨a1, a2, a3, a4, a5, a6, a7, a8, a9, a10⟩ := hs
  refine ⟨by omega, by omega, by omega, fun p hp => ?_, fun m hm => ?_, fun j hj => ?_, fun l hl => ?_, fun k hk => ?_, fun d hd => ?_, fun p hp d hd => ?_⟩
  · rw [e1] at hp
    obtain ⟨q1, q2, q3⟩ := ep p hp
    rw [q1, q2, q3]
    exact a4 p hp
  · rw [e5] at hm
    have q := em m hm
    rw [q 6 (by omega) (by omega), q 7 (by omega) (by omega), q 8 (by omega) (by omega), q 9 (by omega) (by omega), q 10 (by omega) (by omega), q 11 (by omega) (by omega), e1]
    exact a5 m hm
  · rw [e16] at hj
    obtain ⟨q1, q2, q3, q4⟩ := ej j hj
    unfold lwOK
    rw [q1, q2, q3, q4]
    exact a6 j hj
  · rw [el l hl]
    exact a7 l hl
  · rw [ek k hk]
    exact a8 k hk
  · obtain ⟨q1, q2, q3, q4⟩ := ed d hd
    obtain ⟨b1, b2, b3, b4⟩ := a9 d hd
    rw [q1, q3, e16, e5]
    refine ⟨b1, fun z => ?_, fun z => ?_, b4⟩
    · rw [q2 (Or.inl z)]
      exact b2 z
    · rw [q2 (Or.inr z)]
      exact b3 z
  · rw [e1] at hp
    rw [e5, cn_ext (fun m hm k k1 k2 => em m hm k k1 k2)]
    exact a10 p hp d hd
theorem EQ.si {s t : ST} (h : EQ s t) (hs : SR s) (ht : mOK t.1 t.2.1) : SI t := ⟨ht, h.sr hs⟩
theorem EQ.ns {E : EV} {B : Nat → Nat} {w : RW} {s t : ST} (h : EQ s t) (hN : NS E B s w) : NS E B t w := by
  obtain ⟨e1, e5, e16, ep, em, ej, el, ek, ed⟩ := h
  obtain ⟨o0, ⟨u1, g1, f1⟩, ⟨u2, g2, f2⟩, ⟨u3, g3, f3⟩, ⟨u5, g5, f5⟩, ⟨u6, g6, f6⟩, ⟨u8, g8, f8⟩, ⟨u10, g10, f10⟩, ⟨u11, g11, f11⟩, ⟨u13, g13, f13⟩, ⟨u14, g14, f14⟩, ⟨u15, g15⟩, ⟨u16, g16⟩, h20, h30, h100, h200, h220, h240, h300, h310⟩ := hN
  have et : tcn t = tcn s := by
    unfold tcn
    exact ps_congr (fun k hk => by rw [ek k hk])
  refine ⟨?_, ⟨u1, g1, fun p hp => ?_⟩, ⟨u2, g2, fun p hp => ?_⟩, ⟨u3, g3, fun p hp => ?_⟩, ⟨u5, g5, f5⟩, ⟨u6, g6, by rw [e5]; exact f6⟩, ⟨u8, g8, by rw [e16]; exact f8⟩, ⟨u10, g10, fun l hl => ?_⟩, ⟨u11, g11, fun k hk => ?_⟩, ⟨u13, g13, fun d hd => ?_⟩, ⟨u14, g14, f14⟩, ⟨u15, g15⟩, ⟨u16, g16⟩, fun p hp => ?_, h30, fun m hm => ?_, fun j hj => ?_, fun j hj => ?_, fun j hj => ?_, fun d hd h3 => ?_, fun d hd h3 => ?_⟩
  · rw [o0]
    unfold nFs
    rw [e1, e5, e16, et]
  · rw [e1] at hp
    rw [(ep p hp).1]
    exact f1 p hp
  · rw [e1] at hp
    rw [(ep p hp).2.1]
    exact f2 p hp
  · rw [f3 p hp, e1]
    by_cases z : p < s.1 1
    · rw [if_pos z, if_pos z, (ep p z).2.2]
    · rw [if_neg z, if_neg z]
  · rw [f10 l hl, el l hl]
  · rw [f11 k hk, ek k hk]
  · obtain ⟨q1, q2, q3, q4⟩ := ed d hd
    rw [f13 d hd]
    unfold shl
    rw [q1]
    by_cases z1 : s.2.1 24 d = 1
    · rw [q2 (Or.inl z1)]
    · by_cases z2 : s.2.1 24 d = 2
      · rw [q2 (Or.inr z2)]
      · rw [if_neg z1, if_neg z1, if_neg z2, if_neg z2]
  · obtain ⟨h, c1, c2⟩ := h20 p hp
    refine ⟨h, c1, fun hp9 d hd => ?_⟩
    rw [e1] at hp9
    rw [c2 hp9 d hd]
    unfold cr
    rw [e5, cn_ext (fun m hm k k1 k2 => em m hm k k1 k2)]
  · rw [e5] at hm
    have q := em m hm
    rw [h100 m hm]
    unfold mFl
    rw [q 6 (by omega) (by omega), q 7 (by omega) (by omega), q 8 (by omega) (by omega), q 9 (by omega) (by omega), q 10 (by omega) (by omega), q 11 (by omega) (by omega)]
  · rw [e16] at hj
    obtain ⟨q1, q2, q3, q4⟩ := ej j hj
    obtain ⟨z, hz⟩ := h200 j hj
    refine ⟨z, ?_⟩
    unfold rch at hz ⊢
    rw [q1, q2, q3, q4]
    exact hz
  · rw [e16] at hj
    rw [(ej j hj).2.1]
    exact h220 j hj
  · rw [e16] at hj
    rw [(ej j hj).2.1]
    exact h240 j hj
  · obtain ⟨q1, q2, q3, q4⟩ := ed d hd
    rw [q1] at h3
    rw [h300 d hd h3]
    unfold rwC
    rw [q1]
  · obtain ⟨q1, q2, q3, q4⟩ := ed d hd
    rw [q1] at h3
    obtain ⟨h, c1, c2⟩ := h310 d hd h3
    refine ⟨h, by rw [q3]; exact c1, fun i hi => ?_⟩
    rw [q3] at hi
    rw [q4 h3 i hi]
    exact c2 i hi
theorem upf_e (f : Nat → Nat → Nat) (k i x k' i' : Nat) : upf f k i x k' i' = if k' = k ∧ i' = i then x else f k' i' := by
  unfold upf va_up
  by_cases h : k' = k
  · subst h
    by_cases h2 : i' = i <;> simp [h2]
  · simp [h]
theorem upg_e (g : Nat → Nat → Int32) (k i : Nat) (x : Int32) (k' i' : Nat) : upg g k i x k' i' = if k' = k ∧ i' = i then x else g k' i' := by
  unfold upg va_up upd
  by_cases h : k' = k
  · subst h
    by_cases h2 : i' = i <;> simp [h2]
  · simp [h]
theorem tn_rg {x : Int32} {n : Nat} (h : rg x n) (hn : n < 2147483648) : tn x < n := by
  obtain ⟨j, hj, rfl⟩ := rg_of h hn
  rw [tn_nI (by omega)]
  exact hj
theorem nI_tn {x : Int32} {n : Nat} (h : rg x n) (hn : n < 2147483648) : nI (tn x) = x := by
  obtain ⟨j, hj, rfl⟩ := rg_of h hn
  rw [tn_nI (by omega)]
theorem tn_le {x : Int32} {a b : Nat} (h1 : (a : Int) ≤ x.toInt) (h2 : x.toInt ≤ (b : Int)) (hb : b < 2147483647) : a ≤ tn x ∧ tn x ≤ b ∧ nI (tn x) = x := by
  obtain ⟨j, hj, rfl⟩ := rg_of (x := x) (n := b + 1) ⟨by omega, by omega⟩ (by omega)
  rw [tn_nI (by omega)]
  rw [nI_toInt (by omega)] at h1
  exact ⟨by omega, by omega, rfl⟩
theorem SR.of {s t : ST} (h : SR s) (e1 : t.1 1 = s.1 1) (e5 : t.1 5 = s.1 5) (e16 : t.1 16 = s.1 16) (hf : ∀ k, k < 20 → t.2.1 k = s.2.1 k) (h20 : t.2.2 20 = s.2.2 20)
    (hc : ∀ l, l < 8 → 1 ≤ t.2.1 22 l ∧ t.2.1 22 l ≤ 100) (ht : ∀ k, k < 64 → t.2.2 23 k = -1 ∨ ∃ x, tsOK x ∧ t.2.2 23 k = nI x)
    (hd : ∀ d, d < 8 → t.2.1 24 d ≤ 4 ∧ (t.2.1 24 d = 1 → ∃ j, j < s.1 16 ∧ t.2.2 25 d = nI j) ∧ (t.2.1 24 d = 2 → ∃ m, m < s.1 5 ∧ t.2.2 25 d = nI m) ∧ t.2.1 26 d ≤ 400) : SR t := by
  obtain ⟨a1, a2, a3, a4, a5, a6, a7, a8, a9, a10⟩ := h
  unfold SR
  rw [e1, e5, e16]
  refine ⟨a1, a2, a3, fun p hp => ?_, fun m hm => ?_, fun j hj => ?_, hc, ht, hd, fun p hp d h9 => ?_⟩
  · rw [hf 2 (by omega), hf 3 (by omega), hf 4 (by omega)]
    exact a4 p hp
  · rw [hf 6 (by omega), hf 7 (by omega), hf 8 (by omega), hf 9 (by omega), hf 10 (by omega), hf 11 (by omega)]
    exact a5 m hm
  · unfold lwOK
    rw [hf 17 (by omega), hf 18 (by omega), hf 19 (by omega), h20]
    exact a6 j hj
  · rw [cn_congr (fun k k1 k2 => hf k (by omega))]
    exact a10 p hp d h9
theorem SR.person {s : ST} (h : SR s) (x y : Int32) : SR (nx_person s x y) := by
  unfold nx_person
  by_cases hc : (rg x 8 ∧ rg y 8) ∧ s.1 1 ≠ 6
  · rw [if_pos hc]
    obtain ⟨⟨hx, hy⟩, h6⟩ := hc
    have tx := tn_rg hx (by omega)
    have ty := tn_rg hy (by omega)
    obtain ⟨a1, a2, a3, a4, a5, a6, a7, a8, a9, a10⟩ := h
    have keep : ∀ k, k ≠ 2 → k ≠ 3 → k ≠ 4 → upf (upf (upf s.2.1 2 (s.1 1) (tn x)) 3 (s.1 1) (tn y)) 4 (s.1 1) 0 k = s.2.1 k := fun k q1 q2 q3 => by
      funext i
      rw [upf_e, if_neg (fun z => q3 z.1), upf_e, if_neg (fun z => q2 z.1), upf_e, if_neg (fun z => q1 z.1)]
    have i1 : va_up s.1 1 (s.1 1 + 1) 1 = s.1 1 + 1 := va_s _ _ _
    have i5 : va_up s.1 1 (s.1 1 + 1) 5 = s.1 5 := va_n _ _ (by decide)
    have i16 : va_up s.1 1 (s.1 1 + 1) 16 = s.1 16 := va_n _ _ (by decide)
    unfold SR
    dsimp only
    rw [i1, i5, i16]
    refine ⟨by omega, a2, a3, fun p hp => ?_, fun m hm => ?_, fun j hj => ?_, ?_, a8, ?_, fun p hp d hd => ?_⟩
    · simp only [upf_e]
      by_cases z : p = s.1 1
      · simp [z]
        omega
      · simp [z]
        have := a4 p (by omega)
        omega
    · rw [keep 6 (by decide) (by decide) (by decide), keep 7 (by decide) (by decide) (by decide), keep 8 (by decide) (by decide) (by decide), keep 9 (by decide) (by decide) (by decide), keep 10 (by decide) (by decide) (by decide), keep 11 (by decide) (by decide) (by decide)]
      have := a5 m hm
      omega
    · unfold lwOK
      rw [keep 17 (by decide) (by decide) (by decide), keep 18 (by decide) (by decide) (by decide), keep 19 (by decide) (by decide) (by decide)]
      exact a6 j hj
    · rw [keep 22 (by decide) (by decide) (by decide)]
      exact a7
    · rw [keep 24 (by decide) (by decide) (by decide), keep 26 (by decide) (by decide) (by decide)]
      exact a9
    · rw [cn_congr (fun k k1 k2 => keep k (by omega) (by omega) (by omega))]
      by_cases z : p = s.1 1
      · rw [cn_255 (fun m hm => by have := (a5 m hm).2.1; omega)]
        decide
      · exact a10 p (by omega) d hd
  · rw [if_neg hc]
    exact h
theorem addm_e (f : Nat → Nat → Nat) (M k p a b l k' m : Nat) : addm f M k p a b l k' m = if m = M then (if k' = 6 then k else if k' = 7 then p else if k' = 8 then a else if k' = 9 then b else if k' = 10 then l else if k' = 11 then 0 else f k' m) else f k' m := by
  unfold addm
  simp only [upf_e]
  by_cases z : m = M
  · simp only [z, and_true, if_true]
    by_cases h6 : k' = 6
    · simp [h6]
    · by_cases h7 : k' = 7
      · simp [h7]
      · by_cases h8 : k' = 8
        · simp [h8]
        · by_cases h9 : k' = 9
          · simp [h9]
          · by_cases h10 : k' = 10
            · simp [h10]
            · by_cases h11 : k' = 11
              · simp [h11]
              · simp [h6, h7, h8, h9, h10, h11]
  · simp [z]
theorem SR.comes {s : ST} (h : SR s) {k p a b l : Nat} (hk : k < 4) (hp : p < s.1 1) (hab : a ≤ b) (hb : b < 400) (hl : l ≤ 255) : SR (nx_comes s k p a b l) := by
  unfold nx_comes
  by_cases hc : s.1 5 ≠ 80 ∧ s.2.1 4 p = 0 ∧ whl (addm s.2.1 (s.1 5) k p a b l) (s.1 5 + 1) p
  · rw [if_pos hc]
    obtain ⟨h80, -, hw⟩ := hc
    obtain ⟨a1, a2, a3, a4, a5, a6, a7, a8, a9, a10⟩ := h
    have keep : ∀ k', k' < 6 ∨ 11 < k' → addm s.2.1 (s.1 5) k p a b l k' = s.2.1 k' := fun k' q1 => by
      funext i
      rw [addm_e]
      by_cases z : i = s.1 5
      · rw [if_pos z, if_neg (by omega), if_neg (by omega), if_neg (by omega), if_neg (by omega), if_neg (by omega), if_neg (by omega)]
      · rw [if_neg z]
    have i1 : va_up s.1 5 (s.1 5 + 1) 1 = s.1 1 := va_n _ _ (by decide)
    have i5 : va_up s.1 5 (s.1 5 + 1) 5 = s.1 5 + 1 := va_s _ _ _
    have i16 : va_up s.1 5 (s.1 5 + 1) 16 = s.1 16 := va_n _ _ (by decide)
    unfold SR
    dsimp only
    rw [i1, i5, i16]
    refine ⟨a1, by omega, a3, fun q hq => ?_, fun m hm => ?_, fun j hj => ?_, ?_, a8, fun d hd => ?_, fun q hq d hd => ?_⟩
    · rw [keep 2 (by omega), keep 3 (by omega), keep 4 (by omega)]
      exact a4 q hq
    · simp only [addm_e]
      by_cases z : m = s.1 5
      · simp [z]
        omega
      · simp [z]
        have := a5 m (by omega)
        omega
    · unfold lwOK
      rw [keep 17 (by omega), keep 18 (by omega), keep 19 (by omega)]
      exact a6 j hj
    · rw [keep 22 (by omega)]
      exact a7
    · rw [keep 24 (by omega), keep 26 (by omega)]
      obtain ⟨b1, b2, b3, b4⟩ := a9 d hd
      exact ⟨b1, b2, fun z => (b3 z).elim fun m h9 => ⟨m, by omega, h9.2⟩, b4⟩
    · by_cases z : q = p
      · rw [z]
        exact hw d hd
      · rw [cn_add (Or.inl z)]
        exact a10 q hq d hd
  · rw [if_neg hc]
    exact h
theorem SR.span {s : ST} (h : SR s) (x a b l : Int32) : SR (nx_span s x a b l) := by
  unfold nx_span
  by_cases hc : okSpan s x a b l
  · rw [if_pos hc]
    obtain ⟨hx, ⟨ha, hb, hab⟩, h1, h2⟩ := hc
    have := h.1
    obtain ⟨a9, ha9, rfl⟩ := rg_of ha (by omega)
    obtain ⟨b9, hb9, rfl⟩ := rg_of hb (by omega)
    rw [nI_toInt (by omega), nI_toInt (by omega)] at hab
    have hl := tn_le (a := 1) (b := 255) h1 h2 (by omega)
    rw [tn_nI (by omega), tn_nI (by omega)]
    exact h.comes (by omega) (tn_rg hx (by omega)) (by omega) (by omega) hl.2.1
  · rw [if_neg hc]
    exact h
theorem p2_255 {l : Nat} (h : l < 8) : 2 ^ l ≤ 255 := by
  rcases (by omega : l = 0 ∨ l = 1 ∨ l = 2 ∨ l = 3 ∨ l = 4 ∨ l = 5 ∨ l = 6 ∨ l = 7) with e | e | e | e | e | e | e | e <;> subst e <;> decide
theorem SR.slept {s : ST} (h : SR s) (x d l : Int32) (z : Nat) : SR (nx_slept s x d l z) := by
  unfold nx_slept
  by_cases hc : okSlept s x d l
  · rw [if_pos hc]
    obtain ⟨hx, hd, hl⟩ := hc
    have := h.1
    exact h.comes (by split <;> omega) (tn_rg hx (by omega)) (Nat.le_refl _) (tn_rg hd (by omega)) (p2_255 (tn_rg hl (by omega)))
  · rw [if_neg hc]
    exact h
theorem SR.stamp {s : ST} (h : SR s) (x a b l : Int32) : SR (nx_stamp s x a b l) := by
  unfold nx_stamp
  by_cases hc : okStamp s x a b l
  · rw [if_pos hc]
    obtain ⟨hx, ⟨ha, hb, hab⟩, hl⟩ := hc
    have := h.1
    obtain ⟨a9, ha9, rfl⟩ := rg_of ha (by omega)
    obtain ⟨b9, hb9, rfl⟩ := rg_of hb (by omega)
    rw [nI_toInt (by omega), nI_toInt (by omega)] at hab
    rw [tn_nI (by omega), tn_nI (by omega)]
    exact h.comes (by omega) (tn_rg hx (by omega)) (by omega) (by omega) (Nat.sub_le _ _)
  · rw [if_neg hc]
    exact h
theorem SR.drop {s : ST} (h : SR s) (x : Int32) {z : Nat} (hz : z < 2) : SR (nx_drop s x z) := by
  unfold nx_drop
  by_cases hc : rg x (s.1 5) ∧ s.2.1 11 (tn x) ≠ z ∧ whl (upf s.2.1 11 (tn x) z) (s.1 5) (s.2.1 7 (tn x))
  · rw [if_pos hc]
    obtain ⟨hx, -, hw⟩ := hc
    obtain ⟨a1, a2, a3, a4, a5, a6, a7, a8, a9, a10⟩ := h
    have keep : ∀ k', k' ≠ 11 → upf s.2.1 11 (tn x) z k' = s.2.1 k' := fun k' q1 => by
      funext i
      rw [upf_e, if_neg (fun q => q1 q.1)]
    refine ⟨a1, a2, a3, fun q hq => ?_, fun m hm => ?_, fun j hj => ?_, ?_, a8, ?_, fun q hq d hd => ?_⟩
    · dsimp only
      rw [keep 2 (by decide), keep 3 (by decide), keep 4 (by decide)]
      exact a4 q hq
    · dsimp only
      have := a5 m hm
      rw [keep 6 (by decide), keep 7 (by decide), keep 8 (by decide), keep 9 (by decide), keep 10 (by decide), upf_e]
      refine ⟨this.1, this.2.1, this.2.2.1, this.2.2.2.1, this.2.2.2.2.1, ?_⟩
      split <;> omega
    · unfold lwOK
      dsimp only
      rw [keep 17 (by decide), keep 18 (by decide), keep 19 (by decide)]
      exact a6 j hj
    · dsimp only
      rw [keep 22 (by decide)]
      exact a7
    · dsimp only
      rw [keep 24 (by decide), keep 26 (by decide)]
      exact a9
    · dsimp only
      by_cases e : q = s.2.1 7 (tn x)
      · rw [e]
        exact hw d hd
      · rw [cn_drop (Or.inl e)]
        exact a10 q hq d hd
  · rw [if_neg hc]
    exact h
theorem SR.join {s : ST} (h : SR s) (x y : Int32) : SR (nx_join s x y) := by
  unfold nx_join
  by_cases hc : okJoin s x y ∧ (s.2.1 4 (tn x) = 0 ∧ s.2.1 4 (tn y) = 0) ∧ whl (jnf s.2.1 (s.1 5) (tn x) (tn y)) (s.1 5) (tn x)
  · rw [if_pos hc]
    obtain ⟨⟨hx, hy, -⟩, -, hw⟩ := hc
    obtain ⟨a1, a2, a3, a4, a5, a6, a7, a8, a9, a10⟩ := h
    have tx := tn_rg hx (by omega)
    have ty := tn_rg hy (by omega)
    have keep : ∀ k', k' ≠ 4 → k' ≠ 7 → upf (jnf s.2.1 (s.1 5) (tn x) (tn y)) 4 (tn y) 1 k' = s.2.1 k' := fun k' q1 q2 => by
      funext i
      rw [upf_e, if_neg (fun q => q1 q.1)]
      unfold jnf
      rw [va_n _ _ q2]
    have k7 : ∀ m, upf (jnf s.2.1 (s.1 5) (tn x) (tn y)) 4 (tn y) 1 7 m = if m < s.1 5 ∧ s.2.1 7 m = tn y then tn x else s.2.1 7 m := fun m => by
      rw [upf_e, if_neg (fun q => absurd q.1 (by decide))]
      unfold jnf
      rw [va_s]
    have k4 : ∀ p, upf (jnf s.2.1 (s.1 5) (tn x) (tn y)) 4 (tn y) 1 4 p = if p = tn y then 1 else s.2.1 4 p := fun p => by
      rw [upf_e]
      unfold jnf
      rw [va_n _ _ (by decide)]
      simp
    refine ⟨a1, a2, a3, fun q hq => ?_, fun m hm => ?_, fun j hj => ?_, ?_, a8, ?_, fun q hq d hd => ?_⟩
    · dsimp only
      have := a4 q hq
      rw [keep 2 (by decide) (by decide), keep 3 (by decide) (by decide), k4]
      refine ⟨this.1, this.2.1, ?_⟩
      split <;> omega
    · dsimp only
      have := a5 m hm
      rw [keep 6 (by decide) (by decide), k7, keep 8 (by decide) (by decide), keep 9 (by decide) (by decide), keep 10 (by decide) (by decide), keep 11 (by decide) (by decide)]
      refine ⟨this.1, ?_, this.2.2.1, this.2.2.2.1, this.2.2.2.2.1, this.2.2.2.2.2⟩
      split <;> omega
    · unfold lwOK
      dsimp only
      rw [keep 17 (by decide) (by decide), keep 18 (by decide) (by decide), keep 19 (by decide) (by decide)]
      exact a6 j hj
    · dsimp only
      rw [keep 22 (by decide) (by decide)]
      exact a7
    · dsimp only
      rw [keep 24 (by decide) (by decide), keep 26 (by decide) (by decide)]
      exact a9
    · dsimp only
      by_cases e : q = tn x
      · rw [e, cn_congr (f := jnf s.2.1 (s.1 5) (tn x) (tn y)) (fun k k1 k2 => by funext i; rw [upf_e, if_neg (fun q => by omega)])]
        exact hw d hd
      · by_cases e2 : q = tn y
        · rw [cn_255 (fun m hm => by
            rw [k7]
            by_cases z : s.2.1 7 m = tn y
            · rw [if_pos ⟨hm, z⟩]
              omega
            · rw [if_neg (fun q => z q.2)]
              omega)]
          decide
        · rw [cn_at (f := s.2.1) (fun m hm => ⟨fun k k1 k2 k3 => by rw [keep k (by omega) k3], by
            rw [k7]
            by_cases z : s.2.1 7 m = tn y
            · rw [if_pos ⟨hm, z⟩]
              omega
            · rw [if_neg (fun q => z q.2)]⟩)]
          exact a10 q hq d hd
  · rw [if_neg hc]
    exact h
theorem SR.law {s : ST} (h : SR s) (t n w : Int32) : SR (nx_law s t n w) := by
  unfold nx_law
  by_cases hc : okLaw t n w ∧ s.1 16 ≠ 12
  · rw [if_pos hc]
    obtain ⟨⟨h0, h1, h2, ⟨h3, h4⟩, h5⟩, h12⟩ := hc
    obtain ⟨a1, a2, a3, a4, a5, a6, a7, a8, a9, a10⟩ := h
    have tnn := tn_le (a := 0) (b := 200) h3 h4 (by omega)
    have keep : ∀ k', k' ≠ 17 → k' ≠ 18 → k' ≠ 19 → upf (upf (upf s.2.1 17 (s.1 16) (tn t / 10)) 18 (s.1 16) (tn t % 10)) 19 (s.1 16) (tn n) k' = s.2.1 k' := fun k' q1 q2 q3 => by
      funext i
      rw [upf_e, if_neg (fun z => q3 z.1), upf_e, if_neg (fun z => q2 z.1), upf_e, if_neg (fun z => q1 z.1)]
    have i1 : va_up s.1 16 (s.1 16 + 1) 1 = s.1 1 := va_n _ _ (by decide)
    have i5 : va_up s.1 16 (s.1 16 + 1) 5 = s.1 5 := va_n _ _ (by decide)
    have i16 : va_up s.1 16 (s.1 16 + 1) 16 = s.1 16 + 1 := va_s _ _ _
    unfold SR
    dsimp only
    rw [i1, i5, i16]
    refine ⟨a1, a2, by omega, fun q hq => ?_, fun m hm => ?_, fun j hj => ?_, ?_, fun k hk => ?_, fun d hd => ?_, fun q hq d hd => ?_⟩
    · rw [keep 2 (by decide) (by decide) (by decide), keep 3 (by decide) (by decide) (by decide), keep 4 (by decide) (by decide) (by decide)]
      exact a4 q hq
    · rw [keep 6 (by decide) (by decide) (by decide), keep 7 (by decide) (by decide) (by decide), keep 8 (by decide) (by decide) (by decide), keep 9 (by decide) (by decide) (by decide), keep 10 (by decide) (by decide) (by decide), keep 11 (by decide) (by decide) (by decide)]
      exact a5 m hm
    · unfold lwOK
      simp only [upf_e, upg_e]
      by_cases z : j = s.1 16
      · simp [z]
        refine ⟨by omega, h2, tnn.2.1, fun q => ?_⟩
        have hw := h5 (by omega)
        have tw := tn_le (a := 1) (b := 200) hw.1 hw.2 (by omega)
        exact ⟨tn w, tw.1, tw.2.1, tw.2.2.symm⟩
      · simp [z]
        have q := a6 j (by omega)
        unfold lwOK at q
        exact q
    · rw [keep 22 (by decide) (by decide) (by decide)]
      exact a7
    · rw [upg_e, if_neg (fun z => absurd z.1 (by decide))]
      exact a8 k hk
    · rw [keep 24 (by decide) (by decide) (by decide), keep 26 (by decide) (by decide) (by decide), upg_e, if_neg (fun z => absurd z.1 (by decide))]
      obtain ⟨b1, b2, b3, b4⟩ := a9 d hd
      exact ⟨b1, fun z => (b2 z).elim fun m h9 => ⟨m, by omega, h9.2⟩, b3, b4⟩
    · rw [cn_congr (fun k k1 k2 => keep k (by omega) (by omega) (by omega))]
      exact a10 q hq d hd
  · rw [if_neg hc]
    exact h
theorem SR.claim {s : ST} (h : SR s) (l n : Int32) : SR (nx_claim s l n) := by
  unfold nx_claim
  by_cases hc : rg l 8 ∧ (1 ≤ n.toInt ∧ n.toInt ≤ 100)
  · rw [if_pos hc]
    obtain ⟨hl, h1, h2⟩ := hc
    have tw := tn_le (a := 1) (b := 100) h1 h2 (by omega)
    have keep : ∀ k', k' ≠ 22 → upf s.2.1 22 (tn l) (tn n) k' = s.2.1 k' := fun k' q1 => by
      funext i
      rw [upf_e, if_neg (fun z => q1 z.1)]
    refine h.of rfl rfl rfl (fun k hk => keep k (by omega)) rfl (fun l9 hl9 => ?_) h.2.2.2.2.2.2.2.1 (fun d hd => ?_)
    · dsimp only
      rw [upf_e]
      have := h.2.2.2.2.2.2.1 l9 hl9
      split <;> omega
    · dsimp only
      rw [keep 24 (by decide), keep 26 (by decide)]
      exact h.2.2.2.2.2.2.2.2.1 d hd
  · rw [if_neg hc]
    exact h
theorem SR.treaty {s : ST} (h : SR s) (a b t : Int32) : SR (nx_treaty s a b t) := by
  unfold nx_treaty
  by_cases hc : okTreaty a b t
  · rw [if_pos hc]
    obtain ⟨-, -, -, ht, h1⟩ := hc
    refine h.of rfl rfl rfl (fun k hk => rfl) (by funext i; dsimp only; rw [upg_e, if_neg (fun z => absurd z.1 (by decide))]) h.2.2.2.2.2.2.1 (fun k hk => ?_) (fun d hd => ?_)
    · dsimp only
      rw [upg_e]
      by_cases z : k = pr (tn a) (tn b)
      · rw [if_pos ⟨rfl, z⟩]
        exact Or.inr ⟨tn t, ⟨tn_rg ht (by omega), h1⟩, (nI_tn ht (by omega)).symm⟩
      · rw [if_neg (fun q => z q.2)]
        exact h.2.2.2.2.2.2.2.1 k hk
    · dsimp only
      rw [upg_e, if_neg (fun z => absurd z.1 (by decide))]
      exact h.2.2.2.2.2.2.2.2.1 d hd
  · rw [if_neg hc]
    exact h
theorem SR.row {s : ST} (h : SR s) {d w n : Nat} {hh : Nat → Int32} (hw : 3 ≤ w) (hw4 : w ≤ 4) (hn : n ≤ 400) : SR (s.1, upf (upf s.2.1 24 d w) 26 d n, rowg s.2.2 d n hh) := by
  have keep : ∀ k', k' ≠ 24 → k' ≠ 26 → upf (upf s.2.1 24 d w) 26 d n k' = s.2.1 k' := fun k' q1 q2 => by
    funext i
    rw [upf_e, if_neg (fun z => q2 z.1), upf_e, if_neg (fun z => q1 z.1)]
  have kg : ∀ k', k' ≠ 27 → rowg s.2.2 d n hh k' = s.2.2 k' := fun k' q => by unfold rowg; rw [va_n _ _ q]
  refine h.of rfl rfl rfl (fun k hk => keep k (by omega) (by omega)) (kg 20 (by decide)) ?_ ?_ (fun d9 hd => ?_)
  · dsimp only
    rw [keep 22 (by decide) (by decide)]
    exact h.2.2.2.2.2.2.1
  · dsimp only
    rw [kg 23 (by decide)]
    exact h.2.2.2.2.2.2.2.1
  · dsimp only
    rw [kg 25 (by decide)]
    have := h.2.2.2.2.2.2.2.2.1 d9 hd
    simp only [upf_e]
    by_cases z : d9 = d
    · simp [z]
      omega
    · simp [z]
      exact this
theorem SR.keep {s : ST} (h : SR s) (d w k : Int32) : SR (nx_keep s d w k) := by
  unfold nx_keep
  by_cases hc : okKeep s d w k
  · rw [if_pos hc]
    obtain ⟨hd, hw, k1, k2, k3⟩ := hc
    obtain ⟨w9, hw9, rfl⟩ := rg_of hw (by omega)
    rw [tn_nI (by omega)]
    by_cases h3 : w9 < 3
    · rw [if_pos h3]
      have keep : ∀ k', k' ≠ 24 → upf s.2.1 24 (tn d) w9 k' = s.2.1 k' := fun k' q1 => by
        funext i
        rw [upf_e, if_neg (fun z => q1 z.1)]
      have kg : ∀ k', k' ≠ 25 → upg s.2.2 25 (tn d) k k' = s.2.2 k' := fun k' q => by
        funext i
        rw [upg_e, if_neg (fun z => q z.1)]
      have q16 := h.2.2.1
      have q5 := h.2.1
      refine h.of rfl rfl rfl (fun k hk => keep k (by omega)) (kg 20 (by decide)) ?_ ?_ (fun d9 hd => ?_)
      · dsimp only
        rw [keep 22 (by decide)]
        exact h.2.2.2.2.2.2.1
      · dsimp only
        rw [kg 23 (by decide)]
        exact h.2.2.2.2.2.2.2.1
      · dsimp only
        rw [keep 26 (by decide)]
        have := h.2.2.2.2.2.2.2.2.1 d9 hd
        simp only [upf_e, upg_e]
        by_cases z : d9 = tn d
        · simp only [z, and_self, if_true]
          refine ⟨by omega, fun q => ?_, fun q => ?_, by rw [← z]; exact this.2.2.2⟩
          · subst q
            exact ⟨tn k, tn_rg (k1 rfl) (by omega), (nI_tn (k1 rfl) (by omega)).symm⟩
          · subst q
            exact ⟨tn k, tn_rg (k2 rfl) (by omega), (nI_tn (k2 rfl) (by omega)).symm⟩
        · simp [z]
          exact this
    · rw [if_neg h3]
      split
      · exact h.row (by decide) (by decide) (by decide)
      · exact h.row (by decide) (by decide) (by decide)
  · rw [if_neg hc]
    exact h
theorem SR.make {s : ST} (h : SR s) (d w n : Int32) : SR (nx_make s d w n) := by
  unfold nx_make
  by_cases hc : okMake d w n ∧ 0 ≤ n.toInt
  · rw [if_pos hc]
    obtain ⟨⟨hd, hw, h60⟩, h0⟩ := hc
    have tw := tn_le (a := 0) (b := 60) h0 h60 (by omega)
    rcases hw with rfl | rfl
    · exact h.row (by decide) (by decide) (by omega)
    · exact h.row (by decide) (by decide) (by omega)
  · rw [if_neg hc]
    exact h
theorem SR.copy {s : ST} (h : SR s) (d i e j n : Int32) : SR (nx_copy s d i e j n) := by
  unfold nx_copy
  split
  · refine h.of rfl rfl rfl (fun _ _ => rfl) (by dsimp only; rw [va_n _ _ (by decide)]) h.2.2.2.2.2.2.1 ?_ ?_
    · dsimp only
      rw [va_n _ _ (by decide)]
      exact h.2.2.2.2.2.2.2.1
    · dsimp only
      rw [va_n _ _ (by decide)]
      exact h.2.2.2.2.2.2.2.2.1
  · exact h
/-- of the world only the roles below 1000 matter -/
theorem NS.w {E : EV} {B : Nat → Nat} {s : ST} {w w' : RW} (h : NS E B s w) (hS : SR s) (hw : ∀ q, q < 1000 → w' q = w q) : NS E B s w' := by
  obtain ⟨a1, a2, a3, -⟩ := hS
  obtain ⟨o0, ⟨u1, g1, f1⟩, ⟨u2, g2, f2⟩, ⟨u3, g3, f3⟩, ⟨u5, g5, f5⟩, ⟨u6, g6, f6⟩, ⟨u8, g8, f8⟩, ⟨u10, g10, f10⟩, ⟨u11, g11, f11⟩, ⟨u13, g13, f13⟩, ⟨u14, g14, f14⟩, ⟨u15, g15⟩, ⟨u16, g16⟩, h20, h30, h100, h200, h220, h240, h300, h310⟩ := h
  refine ⟨(hw _ (by omega)).trans o0, ⟨u1, (hw _ (by omega)).trans g1, f1⟩, ⟨u2, (hw _ (by omega)).trans g2, f2⟩, ⟨u3, (hw _ (by omega)).trans g3, f3⟩, ⟨u5, (hw _ (by omega)).trans g5, f5⟩, ⟨u6, (hw _ (by omega)).trans g6, f6⟩, ⟨u8, (hw _ (by omega)).trans g8, f8⟩, ⟨u10, (hw _ (by omega)).trans g10, f10⟩, ⟨u11, (hw _ (by omega)).trans g11, f11⟩, ⟨u13, (hw _ (by omega)).trans g13, f13⟩, ⟨u14, (hw _ (by omega)).trans g14, f14⟩, ⟨u15, (hw _ (by omega)).trans g15⟩, ⟨u16, (hw _ (by omega)).trans g16⟩,
    fun p hp => ?_, fun l hl => ?_, fun m hm => (hw _ (by omega)).trans (h100 m hm), fun j hj => ?_, fun j hj => ?_, fun j hj => ?_, fun d hd h3 => (hw _ (by omega)).trans (h300 d hd h3), fun d hd h3 => ?_⟩
  · obtain ⟨h, c1, c2⟩ := h20 p hp
    exact ⟨h, (hw _ (by omega)).trans c1, c2⟩
  · obtain ⟨x, y, c1⟩ := h30 l hl
    exact ⟨x, y, (hw _ (by omega)).trans c1⟩
  · obtain ⟨z, c1⟩ := h200 j hj
    exact ⟨z, (hw _ (by omega)).trans c1⟩
  · obtain ⟨x, y, c1⟩ := h220 j hj
    exact ⟨x, y, (hw _ (by omega)).trans c1⟩
  · obtain ⟨x, y, c1⟩ := h240 j hj
    exact ⟨x, y, (hw _ (by omega)).trans c1⟩
  · obtain ⟨h, c1, c2⟩ := h310 d hd h3
    exact ⟨h, (hw _ (by omega)).trans c1, c2⟩

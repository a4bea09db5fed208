/-! ===== the class's state, in the roles below 1000, by the reference's numbers ===== -/
abbrev iA (E : EV) (a n : Nat) (h : Nat → Int32) : Option (Nat × va_E) := some (a, .inl (E.2.1 0, n, .inl h))
abbrev zA (E : EV) (a n : Nat) (h : Nat → Int32) : Option (Nat × va_E) := some (a, .inl (E.2.1 1, n, .inl h))
abbrev sA (E : EV) (a n : Nat) (h : Nat → Int32) : Option (Nat × va_E) := some (a, .inl (E.2.1 2, n, .inl h))
abbrev qA (E : EV) (t a n : Nat) (h : Nat → Option Nat) : Option (Nat × va_E) := some (a, .inl (E.2.1 t, n, .inr (.inr (.inr (.inr h)))))
def tcn (s : ST) : Nat := ps (fun k => if s.2.2 23 k = -1 then 0 else 1) 64
def nFs (B : Nat → Nat) (s : ST) : List Value := [.ref (B 1), .ref (B 2), .ref (B 3), .int (nI (s.1 1)), .ref (B 5), .ref (B 6), .int (nI (s.1 5)), .ref (B 8), .int (nI (s.1 16)), .ref (B 10), .ref (B 11), .int (nI (tcn s)), .ref (B 13), .ref (B 14), .ref (B 15), .ref (B 16)]
abbrev mFl (s : ST) (m : Nat) : List Value := [.int (nI m), .int (nI (s.2.1 8 m)), .int (nI (s.2.1 9 m)), .int (nI (s.2.1 10 m)), .int (nI (s.2.1 7 m)), .int (nI (s.2.1 11 m))]
def rch (s : ST) (j : Nat) : Nat := if s.2.1 17 j = 0 ∨ s.2.1 17 j = 2 then tn (s.2.2 20 j) else s.2.1 19 j + 1
def shl (B : Nat → Nat) (s : ST) (d : Nat) : Option Nat := if s.2.1 24 d = 0 then none else if s.2.1 24 d = 1 then some (B (200 + tn (s.2.2 25 d))) else if s.2.1 24 d = 2 then some (B (100 + tn (s.2.2 25 d))) else some (B (300 + d))
abbrev rwC (B : Nat → Nat) (s : ST) (d : Nat) : Option (Nat × va_E) := some (B (300 + d), .inr (5, [.int (nI (s.2.1 24 d - 3)), .ref (B (310 + d))]))
def NS (E : EV) (B : Nat → Nat) (s : ST) (w : RW) : Prop :=
  w 0 = some (B 0, .inr (12, nFs B s)) ∧
  (∃ h, w 1 = iA E (B 1) 6 h ∧ ∀ p, p < s.1 1 → h p = nI (s.2.1 2 p)) ∧
  (∃ h, w 2 = iA E (B 2) 6 h ∧ ∀ p, p < s.1 1 → h p = nI (s.2.1 3 p)) ∧
  (∃ h, w 3 = zA E (B 3) 6 h ∧ ∀ p, p < 6 → h p = nI (if p < s.1 1 then s.2.1 4 p else 0)) ∧
  (∃ h, w 5 = qA E 8 (B 5) 6 h ∧ ∀ p, p < 6 → h p = some (B (20 + p))) ∧
  (∃ h, w 6 = qA E 4 (B 6) 80 h ∧ ∀ m, m < s.1 5 → h m = some (B (100 + m))) ∧
  (∃ h, w 8 = qA E 5 (B 8) 12 h ∧ ∀ j, j < s.1 16 → h j = some (B (200 + j))) ∧
  (∃ h, w 10 = iA E (B 10) 8 h ∧ ∀ l, l < 8 → h l = nI (s.2.1 22 l)) ∧
  (∃ h, w 11 = iA E (B 11) 64 h ∧ ∀ k, k < 64 → h k = s.2.2 23 k) ∧
  (∃ h, w 13 = qA E 6 (B 13) 8 h ∧ ∀ d, d < 8 → h d = shl B s d) ∧
  (∃ h, w 14 = qA E 7 (B 14) 8 h ∧ ∀ l, l < 8 → h l = some (B (30 + l))) ∧
  (∃ h, w 15 = iA E (B 15) 400 h) ∧
  (∃ h, w 16 = iA E (B 16) 400 h) ∧
  (∀ p, p < 6 → ∃ h, w (20 + p) = iA E (B (20 + p)) 400 h ∧ (p < s.1 1 → ∀ d, d < 400 → h d = nI (cr s p d))) ∧
  (∀ l, l < 8 → ∃ x y, w (30 + l) = tCz (B (30 + l)) l x y) ∧
  (∀ m, m < s.1 5 → w (100 + m) = some (B (100 + m), .inr (mkC (s.2.1 6 m), mFl s m))) ∧
  (∀ j, j < s.1 16 → ∃ z, w (200 + j) = lC (lwC (s.2.1 17 j)) (B (200 + j)) (s.2.1 18 j) (s.2.1 19 j) (rch s j) (B (220 + j)) (B (240 + j)) z) ∧
  (∀ j, j < s.1 16 → ∃ x y, w (220 + j) = tCz (B (220 + j)) (s.2.1 18 j) x y) ∧
  (∀ j, j < s.1 16 → ∃ x y, w (240 + j) = tCz (B (240 + j)) (s.2.1 18 j) x y) ∧
  (∀ d, d < 8 → 3 ≤ s.2.1 24 d → w (300 + d) = rwC B s d) ∧
  (∀ d, d < 8 → 3 ≤ s.2.1 24 d → ∃ h, w (310 + d) = sA E (B (310 + d)) (s.2.1 26 d) h ∧ ∀ i, i < s.2.1 26 d → h i = s.2.2 27 (400 * d + i) ∧ fits .short (.int (h i)) = true)

theorem NS.s15 {E : EV} {B : Nat → Nat} {s : ST} {w : RW} (hN : NS E B s w) (h : Nat → Int32) : NS E B s (va_up w 15 (iA E (B 15) 400 h)) := by
  obtain ⟨o0, ⟨u1, e1, f1⟩, ⟨u2, e2, f2⟩, ⟨u3, e3, f3⟩, ⟨u5, e5, f5⟩, ⟨u6, e6, f6⟩, ⟨u8, e8, f8⟩, ⟨u10, e10, f10⟩, ⟨u11, e11, f11⟩, ⟨u13, e13, f13⟩, ⟨u14, e14, f14⟩, ⟨u15, e15⟩, ⟨u16, e16⟩, h20, h30, h100, h200, h220, h240, h300, h310⟩ := hN
  refine ⟨?_, ?_, ?_, ?_, ?_, ?_, ?_, ?_, ?_, ?_, ?_, ?_, ?_, ?_, ?_, ?_, ?_, ?_, ?_, ?_, ?_⟩
  · exact (va_n _ _ (by omega)).trans o0
  · exact ⟨u1, (va_n _ _ (by omega)).trans e1, f1⟩
  · exact ⟨u2, (va_n _ _ (by omega)).trans e2, f2⟩
  · exact ⟨u3, (va_n _ _ (by omega)).trans e3, f3⟩
  · exact ⟨u5, (va_n _ _ (by omega)).trans e5, f5⟩
  · exact ⟨u6, (va_n _ _ (by omega)).trans e6, f6⟩
  · exact ⟨u8, (va_n _ _ (by omega)).trans e8, f8⟩
  · exact ⟨u10, (va_n _ _ (by omega)).trans e10, f10⟩
  · exact ⟨u11, (va_n _ _ (by omega)).trans e11, f11⟩
  · exact ⟨u13, (va_n _ _ (by omega)).trans e13, f13⟩
  · exact ⟨u14, (va_n _ _ (by omega)).trans e14, f14⟩
  · exact ⟨h, va_s _ _ _⟩
  · exact ⟨u16, (va_n _ _ (by omega)).trans e16⟩
  · intro p hp
    obtain ⟨h9, a1, a2⟩ := h20 p hp
    exact ⟨h9, (va_n _ _ (by omega)).trans a1, a2⟩
  · intro l hl
    obtain ⟨x, y, a1⟩ := h30 l hl
    exact ⟨x, y, (va_n _ _ (by omega)).trans a1⟩
  · intro m hm
    exact (va_n _ _ (by omega)).trans (h100 m hm)
  · intro j hj
    obtain ⟨z, a1⟩ := h200 j hj
    exact ⟨z, (va_n _ _ (by omega)).trans a1⟩
  · intro j hj
    obtain ⟨x, y, a1⟩ := h220 j hj
    exact ⟨x, y, (va_n _ _ (by omega)).trans a1⟩
  · intro j hj
    obtain ⟨x, y, a1⟩ := h240 j hj
    exact ⟨x, y, (va_n _ _ (by omega)).trans a1⟩
  · intro d hd h3
    exact (va_n _ _ (by omega)).trans (h300 d hd h3)
  · intro d hd h3
    obtain ⟨h9, a1, a2⟩ := h310 d hd h3
    exact ⟨h9, (va_n _ _ (by omega)).trans a1, a2⟩
theorem NS.s16 {E : EV} {B : Nat → Nat} {s : ST} {w : RW} (hN : NS E B s w) (h : Nat → Int32) : NS E B s (va_up w 16 (iA E (B 16) 400 h)) := by
  obtain ⟨o0, ⟨u1, e1, f1⟩, ⟨u2, e2, f2⟩, ⟨u3, e3, f3⟩, ⟨u5, e5, f5⟩, ⟨u6, e6, f6⟩, ⟨u8, e8, f8⟩, ⟨u10, e10, f10⟩, ⟨u11, e11, f11⟩, ⟨u13, e13, f13⟩, ⟨u14, e14, f14⟩, ⟨u15, e15⟩, ⟨u16, e16⟩, h20, h30, h100, h200, h220, h240, h300, h310⟩ := hN
  refine ⟨?_, ?_, ?_, ?_, ?_, ?_, ?_, ?_, ?_, ?_, ?_, ?_, ?_, ?_, ?_, ?_, ?_, ?_, ?_, ?_, ?_⟩
  · exact (va_n _ _ (by omega)).trans o0
  · exact ⟨u1, (va_n _ _ (by omega)).trans e1, f1⟩
  · exact ⟨u2, (va_n _ _ (by omega)).trans e2, f2⟩
  · exact ⟨u3, (va_n _ _ (by omega)).trans e3, f3⟩
  · exact ⟨u5, (va_n _ _ (by omega)).trans e5, f5⟩
  · exact ⟨u6, (va_n _ _ (by omega)).trans e6, f6⟩
  · exact ⟨u8, (va_n _ _ (by omega)).trans e8, f8⟩
  · exact ⟨u10, (va_n _ _ (by omega)).trans e10, f10⟩
  · exact ⟨u11, (va_n _ _ (by omega)).trans e11, f11⟩
  · exact ⟨u13, (va_n _ _ (by omega)).trans e13, f13⟩
  · exact ⟨u14, (va_n _ _ (by omega)).trans e14, f14⟩
  · exact ⟨u15, (va_n _ _ (by omega)).trans e15⟩
  · exact ⟨h, va_s _ _ _⟩
  · intro p hp
    obtain ⟨h9, a1, a2⟩ := h20 p hp
    exact ⟨h9, (va_n _ _ (by omega)).trans a1, a2⟩
  · intro l hl
    obtain ⟨x, y, a1⟩ := h30 l hl
    exact ⟨x, y, (va_n _ _ (by omega)).trans a1⟩
  · intro m hm
    exact (va_n _ _ (by omega)).trans (h100 m hm)
  · intro j hj
    obtain ⟨z, a1⟩ := h200 j hj
    exact ⟨z, (va_n _ _ (by omega)).trans a1⟩
  · intro j hj
    obtain ⟨x, y, a1⟩ := h220 j hj
    exact ⟨x, y, (va_n _ _ (by omega)).trans a1⟩
  · intro j hj
    obtain ⟨x, y, a1⟩ := h240 j hj
    exact ⟨x, y, (va_n _ _ (by omega)).trans a1⟩
  · intro d hd h3
    exact (va_n _ _ (by omega)).trans (h300 d hd h3)
  · intro d hd h3
    obtain ⟨h9, a1, a2⟩ := h310 d hd h3
    exact ⟨h9, (va_n _ _ (by omega)).trans a1, a2⟩
theorem NS.s30 {E : EV} {B : Nat → Nat} {s : ST} {w : RW} (hN : NS E B s w) {l9 : Nat} (hl9 : l9 < 8) (x y : Int32) : NS E B s (va_up w (30 + l9) (tCz (B (30 + l9)) l9 x y)) := by
  obtain ⟨o0, ⟨u1, e1, f1⟩, ⟨u2, e2, f2⟩, ⟨u3, e3, f3⟩, ⟨u5, e5, f5⟩, ⟨u6, e6, f6⟩, ⟨u8, e8, f8⟩, ⟨u10, e10, f10⟩, ⟨u11, e11, f11⟩, ⟨u13, e13, f13⟩, ⟨u14, e14, f14⟩, ⟨u15, e15⟩, ⟨u16, e16⟩, h20, h30, h100, h200, h220, h240, h300, h310⟩ := hN
  refine ⟨?_, ?_, ?_, ?_, ?_, ?_, ?_, ?_, ?_, ?_, ?_, ?_, ?_, ?_, ?_, ?_, ?_, ?_, ?_, ?_, ?_⟩
  · exact (va_n _ _ (by omega)).trans o0
  · exact ⟨u1, (va_n _ _ (by omega)).trans e1, f1⟩
  · exact ⟨u2, (va_n _ _ (by omega)).trans e2, f2⟩
  · exact ⟨u3, (va_n _ _ (by omega)).trans e3, f3⟩
  · exact ⟨u5, (va_n _ _ (by omega)).trans e5, f5⟩
  · exact ⟨u6, (va_n _ _ (by omega)).trans e6, f6⟩
  · exact ⟨u8, (va_n _ _ (by omega)).trans e8, f8⟩
  · exact ⟨u10, (va_n _ _ (by omega)).trans e10, f10⟩
  · exact ⟨u11, (va_n _ _ (by omega)).trans e11, f11⟩
  · exact ⟨u13, (va_n _ _ (by omega)).trans e13, f13⟩
  · exact ⟨u14, (va_n _ _ (by omega)).trans e14, f14⟩
  · exact ⟨u15, (va_n _ _ (by omega)).trans e15⟩
  · exact ⟨u16, (va_n _ _ (by omega)).trans e16⟩
  · intro p hp
    obtain ⟨h9, a1, a2⟩ := h20 p hp
    exact ⟨h9, (va_n _ _ (by omega)).trans a1, a2⟩
  · intro l hl
    by_cases e : l = l9
    · subst e; exact ⟨x, y, va_s _ _ _⟩
    · obtain ⟨x1, y1, a1⟩ := h30 l hl
      exact ⟨x1, y1, (va_n _ _ (by omega)).trans a1⟩
  · intro m hm
    exact (va_n _ _ (by omega)).trans (h100 m hm)
  · intro j hj
    obtain ⟨z, a1⟩ := h200 j hj
    exact ⟨z, (va_n _ _ (by omega)).trans a1⟩
  · intro j hj
    obtain ⟨x, y, a1⟩ := h220 j hj
    exact ⟨x, y, (va_n _ _ (by omega)).trans a1⟩
  · intro j hj
    obtain ⟨x, y, a1⟩ := h240 j hj
    exact ⟨x, y, (va_n _ _ (by omega)).trans a1⟩
  · intro d hd h3
    exact (va_n _ _ (by omega)).trans (h300 d hd h3)
  · intro d hd h3
    obtain ⟨h9, a1, a2⟩ := h310 d hd h3
    exact ⟨h9, (va_n _ _ (by omega)).trans a1, a2⟩
theorem NS.s220 {E : EV} {B : Nat → Nat} {s : ST} {w : RW} (hN : NS E B s w) (h16 : s.1 16 ≤ 12) (h5 : s.1 5 ≤ 80) {j9 : Nat} (hj9 : j9 < s.1 16) (x y : Int32) : NS E B s (va_up w (220 + j9) (tCz (B (220 + j9)) (s.2.1 18 j9) x y)) := by
  obtain ⟨o0, ⟨u1, e1, f1⟩, ⟨u2, e2, f2⟩, ⟨u3, e3, f3⟩, ⟨u5, e5, f5⟩, ⟨u6, e6, f6⟩, ⟨u8, e8, f8⟩, ⟨u10, e10, f10⟩, ⟨u11, e11, f11⟩, ⟨u13, e13, f13⟩, ⟨u14, e14, f14⟩, ⟨u15, e15⟩, ⟨u16, e16⟩, h20, h30, h100, h200, h220, h240, h300, h310⟩ := hN
  refine ⟨?_, ?_, ?_, ?_, ?_, ?_, ?_, ?_, ?_, ?_, ?_, ?_, ?_, ?_, ?_, ?_, ?_, ?_, ?_, ?_, ?_⟩
  · exact (va_n _ _ (by omega)).trans o0
  · exact ⟨u1, (va_n _ _ (by omega)).trans e1, f1⟩
  · exact ⟨u2, (va_n _ _ (by omega)).trans e2, f2⟩
  · exact ⟨u3, (va_n _ _ (by omega)).trans e3, f3⟩
  · exact ⟨u5, (va_n _ _ (by omega)).trans e5, f5⟩
  · exact ⟨u6, (va_n _ _ (by omega)).trans e6, f6⟩
  · exact ⟨u8, (va_n _ _ (by omega)).trans e8, f8⟩
  · exact ⟨u10, (va_n _ _ (by omega)).trans e10, f10⟩
  · exact ⟨u11, (va_n _ _ (by omega)).trans e11, f11⟩
  · exact ⟨u13, (va_n _ _ (by omega)).trans e13, f13⟩
  · exact ⟨u14, (va_n _ _ (by omega)).trans e14, f14⟩
  · exact ⟨u15, (va_n _ _ (by omega)).trans e15⟩
  · exact ⟨u16, (va_n _ _ (by omega)).trans e16⟩
  · intro p hp
    obtain ⟨h9, a1, a2⟩ := h20 p hp
    exact ⟨h9, (va_n _ _ (by omega)).trans a1, a2⟩
  · intro l hl
    obtain ⟨x, y, a1⟩ := h30 l hl
    exact ⟨x, y, (va_n _ _ (by omega)).trans a1⟩
  · intro m hm
    exact (va_n _ _ (by omega)).trans (h100 m hm)
  · intro j hj
    obtain ⟨z, a1⟩ := h200 j hj
    exact ⟨z, (va_n _ _ (by omega)).trans a1⟩
  · intro j hj
    by_cases e : j = j9
    · subst e; exact ⟨x, y, va_s _ _ _⟩
    · obtain ⟨x1, y1, a1⟩ := h220 j hj
      exact ⟨x1, y1, (va_n _ _ (by omega)).trans a1⟩
  · intro j hj
    obtain ⟨x, y, a1⟩ := h240 j hj
    exact ⟨x, y, (va_n _ _ (by omega)).trans a1⟩
  · intro d hd h3
    exact (va_n _ _ (by omega)).trans (h300 d hd h3)
  · intro d hd h3
    obtain ⟨h9, a1, a2⟩ := h310 d hd h3
    exact ⟨h9, (va_n _ _ (by omega)).trans a1, a2⟩
theorem NS.s240 {E : EV} {B : Nat → Nat} {s : ST} {w : RW} (hN : NS E B s w) (h16 : s.1 16 ≤ 12) (h5 : s.1 5 ≤ 80) {j9 : Nat} (hj9 : j9 < s.1 16) (x y : Int32) : NS E B s (va_up w (240 + j9) (tCz (B (240 + j9)) (s.2.1 18 j9) x y)) := by
  obtain ⟨o0, ⟨u1, e1, f1⟩, ⟨u2, e2, f2⟩, ⟨u3, e3, f3⟩, ⟨u5, e5, f5⟩, ⟨u6, e6, f6⟩, ⟨u8, e8, f8⟩, ⟨u10, e10, f10⟩, ⟨u11, e11, f11⟩, ⟨u13, e13, f13⟩, ⟨u14, e14, f14⟩, ⟨u15, e15⟩, ⟨u16, e16⟩, h20, h30, h100, h200, h220, h240, h300, h310⟩ := hN
  refine ⟨?_, ?_, ?_, ?_, ?_, ?_, ?_, ?_, ?_, ?_, ?_, ?_, ?_, ?_, ?_, ?_, ?_, ?_, ?_, ?_, ?_⟩
  · exact (va_n _ _ (by omega)).trans o0
  · exact ⟨u1, (va_n _ _ (by omega)).trans e1, f1⟩
  · exact ⟨u2, (va_n _ _ (by omega)).trans e2, f2⟩
  · exact ⟨u3, (va_n _ _ (by omega)).trans e3, f3⟩
  · exact ⟨u5, (va_n _ _ (by omega)).trans e5, f5⟩
  · exact ⟨u6, (va_n _ _ (by omega)).trans e6, f6⟩
  · exact ⟨u8, (va_n _ _ (by omega)).trans e8, f8⟩
  · exact ⟨u10, (va_n _ _ (by omega)).trans e10, f10⟩
  · exact ⟨u11, (va_n _ _ (by omega)).trans e11, f11⟩
  · exact ⟨u13, (va_n _ _ (by omega)).trans e13, f13⟩
  · exact ⟨u14, (va_n _ _ (by omega)).trans e14, f14⟩
  · exact ⟨u15, (va_n _ _ (by omega)).trans e15⟩
  · exact ⟨u16, (va_n _ _ (by omega)).trans e16⟩
  · intro p hp
    obtain ⟨h9, a1, a2⟩ := h20 p hp
    exact ⟨h9, (va_n _ _ (by omega)).trans a1, a2⟩
  · intro l hl
    obtain ⟨x, y, a1⟩ := h30 l hl
    exact ⟨x, y, (va_n _ _ (by omega)).trans a1⟩
  · intro m hm
    exact (va_n _ _ (by omega)).trans (h100 m hm)
  · intro j hj
    obtain ⟨z, a1⟩ := h200 j hj
    exact ⟨z, (va_n _ _ (by omega)).trans a1⟩
  · intro j hj
    obtain ⟨x, y, a1⟩ := h220 j hj
    exact ⟨x, y, (va_n _ _ (by omega)).trans a1⟩
  · intro j hj
    by_cases e : j = j9
    · subst e; exact ⟨x, y, va_s _ _ _⟩
    · obtain ⟨x1, y1, a1⟩ := h240 j hj
      exact ⟨x1, y1, (va_n _ _ (by omega)).trans a1⟩
  · intro d hd h3
    exact (va_n _ _ (by omega)).trans (h300 d hd h3)
  · intro d hd h3
    obtain ⟨h9, a1, a2⟩ := h310 d hd h3
    exact ⟨h9, (va_n _ _ (by omega)).trans a1, a2⟩
theorem NS.s200 {E : EV} {B : Nat → Nat} {s : ST} {w : RW} (hN : NS E B s w) (h16 : s.1 16 ≤ 12) (h5 : s.1 5 ≤ 80) {j9 : Nat} (hj9 : j9 < s.1 16) (z : Int32) : NS E B s (va_up w (200 + j9) (lC (lwC (s.2.1 17 j9)) (B (200 + j9)) (s.2.1 18 j9) (s.2.1 19 j9) (rch s j9) (B (220 + j9)) (B (240 + j9)) z)) := by
  obtain ⟨o0, ⟨u1, e1, f1⟩, ⟨u2, e2, f2⟩, ⟨u3, e3, f3⟩, ⟨u5, e5, f5⟩, ⟨u6, e6, f6⟩, ⟨u8, e8, f8⟩, ⟨u10, e10, f10⟩, ⟨u11, e11, f11⟩, ⟨u13, e13, f13⟩, ⟨u14, e14, f14⟩, ⟨u15, e15⟩, ⟨u16, e16⟩, h20, h30, h100, h200, h220, h240, h300, h310⟩ := hN
  refine ⟨?_, ?_, ?_, ?_, ?_, ?_, ?_, ?_, ?_, ?_, ?_, ?_, ?_, ?_, ?_, ?_, ?_, ?_, ?_, ?_, ?_⟩
  · exact (va_n _ _ (by omega)).trans o0
  · exact ⟨u1, (va_n _ _ (by omega)).trans e1, f1⟩
  · exact ⟨u2, (va_n _ _ (by omega)).trans e2, f2⟩
  · exact ⟨u3, (va_n _ _ (by omega)).trans e3, f3⟩
  · exact ⟨u5, (va_n _ _ (by omega)).trans e5, f5⟩
  · exact ⟨u6, (va_n _ _ (by omega)).trans e6, f6⟩
  · exact ⟨u8, (va_n _ _ (by omega)).trans e8, f8⟩
  · exact ⟨u10, (va_n _ _ (by omega)).trans e10, f10⟩
  · exact ⟨u11, (va_n _ _ (by omega)).trans e11, f11⟩
  · exact ⟨u13, (va_n _ _ (by omega)).trans e13, f13⟩
  · exact ⟨u14, (va_n _ _ (by omega)).trans e14, f14⟩
  · exact ⟨u15, (va_n _ _ (by omega)).trans e15⟩
  · exact ⟨u16, (va_n _ _ (by omega)).trans e16⟩
  · intro p hp
    obtain ⟨h9, a1, a2⟩ := h20 p hp
    exact ⟨h9, (va_n _ _ (by omega)).trans a1, a2⟩
  · intro l hl
    obtain ⟨x, y, a1⟩ := h30 l hl
    exact ⟨x, y, (va_n _ _ (by omega)).trans a1⟩
  · intro m hm
    exact (va_n _ _ (by omega)).trans (h100 m hm)
  · intro j hj
    by_cases e : j = j9
    · subst e; exact ⟨z, va_s _ _ _⟩
    · obtain ⟨z1, a1⟩ := h200 j hj
      exact ⟨z1, (va_n _ _ (by omega)).trans a1⟩
  · intro j hj
    obtain ⟨x, y, a1⟩ := h220 j hj
    exact ⟨x, y, (va_n _ _ (by omega)).trans a1⟩
  · intro j hj
    obtain ⟨x, y, a1⟩ := h240 j hj
    exact ⟨x, y, (va_n _ _ (by omega)).trans a1⟩
  · intro d hd h3
    exact (va_n _ _ (by omega)).trans (h300 d hd h3)
  · intro d hd h3
    obtain ⟨h9, a1, a2⟩ := h310 d hd h3
    exact ⟨h9, (va_n _ _ (by omega)).trans a1, a2⟩

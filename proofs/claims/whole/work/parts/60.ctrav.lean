/-! ===== the class: trips ===== -/
theorem wsm_up {h : Nat → Nat} {R d b : Nat} (hR : 1 ≤ R) (h1 : ∀ i, h i ≤ 1) (hc : ∀ i, d < i → i ≤ b → h i = 1) {e : Nat} (he : d ≤ e) : ∀ k, e + k ≤ b → wsm h R (e + 1) ≤ wsm h R (e + k + 1)
  | 0, _ => Nat.le_refl _
  | k + 1, hk => by
    have ih := wsm_up hR h1 hc he k (by omega)
    have q := hc (e + k + 1) (by omega) (by omega)
    rcases Nat.lt_or_ge (e + k + 1) R with z | z
    · have := wsm_s1 h z
      rw [show e + (k + 1) + 1 = e + k + 1 + 1 by omega]
      omega
    · have := wsm_s2 h hR z
      have := h1 (e + k + 1 - R)
      rw [show e + (k + 1) + 1 = e + k + 1 + 1 by omega]
      omega
theorem wsm_dn {h : Nat → Nat} {R d b : Nat} (hR : 1 ≤ R) (hc : ∀ i, d < i → i ≤ b → h i = 0) {e : Nat} (he : d ≤ e) : ∀ k, e + k ≤ b → wsm h R (e + k + 1) ≤ wsm h R (e + 1)
  | 0, _ => Nat.le_refl _
  | k + 1, hk => by
    have ih := wsm_dn hR hc he k (by omega)
    have q := hc (e + k + 1) (by omega) (by omega)
    rcases Nat.lt_or_ge (e + k + 1) R with z | z
    · have := wsm_s1 h z
      rw [show e + (k + 1) + 1 = e + k + 1 + 1 by omega]
      omega
    · have := wsm_s2 h hR z
      rw [show e + (k + 1) + 1 = e + k + 1 + 1 by omega]
      omega
theorem vd_2 {k n x y d : Nat} (hk : k < 4) (h2 : k ≠ 2) : vd k n x y d = 2 ↔ ((k ≠ 3 ∧ y ≤ n) ∨ (k = 3 ∧ (d < n ∨ 0 < x))) := by
  unfold vd
  rw [if_neg h2]
  by_cases h3 : k = 3
  · rw [if_pos h3]
    by_cases z : d < n ∨ 0 < x
    · rw [if_pos z]; simp [h3, z]
    · rw [if_neg z]
      constructor
      · intro q
        split at q <;> omega
      · intro q
        omega
  · rw [if_neg h3]
    by_cases z : y ≤ n
    · rw [if_pos z]; simp [h3, z]
    · rw [if_neg z]
      constructor
      · intro q
        split at q <;> omega
      · intro q
        omega
theorem kj_mid {s : ST} {j aw d b e : Nat} {c : Nat → Nat} (hS : lwOK s.2.1 s.2.2 j) (h2 : s.2.1 17 j ≠ 2) (haw : aw < 8) (hc : ∀ i, d < i → i ≤ b → c i = 2 ^ aw) (h0 : kj s j c d = 2) (hb : kj s j c b = 2) (hde : d ≤ e) (heb : e ≤ b) : kj s j c e = 2 := by
  have hR := rch_rng hS
  rw [← vd_kj hS.1, vd_2 hS.1 h2] at *
  have hk : b = e + (b - e) := by omega
  have hk2 : e = d + (e - d) := by omega
  by_cases hl : s.2.1 18 j = aw
  · have m1 : ∀ i, d < i → i ≤ b → mq (s.2.1 18 j) c i = 1 := fun i q1 q2 => by
      unfold mq
      rw [hc i q1 q2, hl, Nat.div_self (Nat.two_pow_pos aw)]
    have l1 : ∀ i, d < i → i ≤ b → lq (s.2.1 18 j) c i = 1 := fun i q1 q2 => by
      unfold lq
      rw [hc i q1 q2, hl, if_pos rfl]
    have u1 := wsm_up hR.1 (mq_le _ c) m1 hde (b - e) (by omega)
    rw [← hk] at u1
    rcases hb with ⟨q1, q2⟩ | ⟨q1, q2⟩
    · exact Or.inl ⟨q1, by omega⟩
    · refine Or.inr ⟨q1, ?_⟩
      by_cases z : e = d
      · subst z
        rcases h0 with ⟨z1, z2⟩ | ⟨z1, z2⟩
        · exact absurd q1 z1
        · exact z2
      · have g := wsm_ge (h := lq (s.2.1 18 j) c) (R := rch s j) (e := e + 1) (k := e) (by omega) (by omega)
        have := l1 e (by omega) heb
        omega
  · have m0 : ∀ i, d < i → i ≤ b → mq (s.2.1 18 j) c i = 0 := fun i q1 q2 => by
      unfold mq
      rw [hc i q1 q2]
      exact pwn2 aw haw _ hS.2.1 (fun z => hl z.symm)
    have l0 : ∀ i, d < i → i ≤ b → lq (s.2.1 18 j) c i = 0 := fun i q1 q2 => by
      have := lq_mq (s.2.1 18 j) c i
      have := m0 i q1 q2
      omega
    have u1 := wsm_dn (h := mq (s.2.1 18 j) c) hR.1 m0 (Nat.le_refl d) (e - d) (by omega)
    have u2 := wsm_dn (h := lq (s.2.1 18 j) c) hR.1 l0 hde (b - e) (by omega)
    rw [← hk2] at u1
    rw [← hk] at u2
    rcases h0 with ⟨q1, q2⟩ | ⟨q1, q2⟩
    · exact Or.inl ⟨q1, by omega⟩
    · rcases hb with ⟨z1, z2⟩ | ⟨z1, z2⟩
      · exact absurd q1 z1
      · exact Or.inr ⟨q1, by omega⟩
abbrev ends (s : ST) (c : Nat → Nat) (d b : Nat) : Prop := ∀ j, j < s.1 16 → s.2.1 17 j ≠ 2 → kj s j c d = 2 ∧ kj s j c b = 2
theorem akp_ends {s : ST} {aw d b : Nat} {c : Nat → Nat} (hS : SI s) (haw : aw < 8) (hdb : d ≤ b) (hc : ∀ i, d < i → i ≤ b → c i = 2 ^ aw) : akp s c d b ↔ ends s c d b :=
  ⟨fun h j hj h2 => ⟨h j hj h2 d (by omega) (Nat.le_refl _), h j hj h2 b (by omega) hdb⟩, fun h j hj h2 e h3 h4 => kj_mid (hS.2.2.2.2.2.2.1 j hj) h2 haw hc (h j hj h2).1 (h j hj h2).2 h4 (by omega)⟩
/-- the laws' tallies: law j's hold cc j, here over ee j nights, at the end over b + 1 -/
def TRJ (B : Nat → Nat) (s : ST) (w : RW) (c : Nat → Nat) (e b j : Nat) : Prop :=
  (∃ z : Int32, w (200 + j) = lC (lwC (s.2.1 17 j)) (B (200 + j)) (s.2.1 18 j) (s.2.1 19 j) (rch s j) (B (220 + j)) (B (240 + j)) z ∧ z.toInt = (b : Int) + 1 - rch s j) ∧
  w (220 + j) = tC (B (220 + j)) (s.2.1 18 j) (wsm (lq (s.2.1 18 j) c) (rch s j) e) (wsm (mq (s.2.1 18 j) c) (rch s j) e) ∧
  w (240 + j) = tC (B (240 + j)) (s.2.1 18 j) (wsm (lq (s.2.1 18 j) c) (rch s j) (b + 1)) (wsm (mq (s.2.1 18 j) c) (rch s j) (b + 1))
def MD (E : EV) (B : Nat → Nat) (w : RW) (c : Nat → Nat) : Prop := ∃ h, w 15 = iA E (B 15) 400 h ∧ ∀ i, i < 400 → h i = nI (c i) ∧ c i < 1000000
theorem TRJ.keep {B : Nat → Nat} {s : ST} {w w' : RW} {c : Nat → Nat} {e b j : Nat} (h : TRJ B s w c e b j) (h1 : w' (200 + j) = w (200 + j)) (h2 : w' (220 + j) = w (220 + j)) (h3 : w' (240 + j) = w (240 + j)) : TRJ B s w' c e b j := by
  unfold TRJ
  rw [h1, h2, h3]
  exact h
abbrev FR (w w' : RW) : Prop := ∀ q, 1000 ≤ q → w' q = w q

set_option maxHeartbeats 4000000 in
set_option maxRecDepth 100000 in
/-- change -/
theorem mc_X11_change {l : Launch} {E : EV} {w : RW} {B : Nat → Nat} {s : ST} {c : Nat → Nat} {d9 b9 cb9 cn9 : Nat} (hS : SI s) (hN : NS E B s w) (hM : MD E B w c) (hT : ∀ j, j < s.1 16 → TRJ B s w c (d9 + 1) b9 j) (hdb : d9 ≤ b9) (hb9 : b9 < 400) (hcb : c d9 = cb9) (hcb9 : cb9 < 1000000) (hcn9 : cn9 < 1000000) : MC l E yX11_change wsX11_change 2 0 0 [.ref (B 0), .int (nI d9), .int (nI cb9), .int (nI cn9)] (w) (fun v w' => v = none ∧ NS E B s w' ∧ MD E B w' (va_up c d9 cn9) ∧ (∀ j, j < s.1 16 → TRJ B s w' (va_up c d9 cn9) (d9 + 1) b9 j) ∧ FR w w') := by
  refine MC.enter (cc := cX11_change) (maxL := 6) (ret := none) (lv0 := [some (.ref (B 0)), some (.int (nI d9)), some (.int (nI cb9)), some (.int (nI cn9)), none, none]) (by decide) rfl (by simp [Value.category]) (Nat.le_of_ble_eq_true rfl) rfl ?_
  intro X hl hE C D
  subst hl
  subst hE
  have hI1 : s.1 1 ≤ 6 := hS.2.1
  have hI5 : s.1 5 ≤ 80 := hS.2.2.1
  have hI16 : s.1 16 ≤ 12 := hS.2.2.2.1
  have loop : ∀ (t i : Nat) (w1 : RW), i ≤ s.1 16 → s.1 16 - i < t → NS (xE X) B s w1 → MD (xE X) B w1 (va_up c d9 cn9) → FR w w1 → (∀ j, j < i → TRJ B s w1 (va_up c d9 cn9) (d9 + 1) b9 j) → (∀ j, i ≤ j → j < s.1 16 → TRJ B s w1 c (d9 + 1) b9 j) → GG X w1 0 0 10 [some (.ref (B 0)), some (.int (nI d9)), some (.int (nI cb9)), some (.int (nI cn9)), some (.int (nI i)), none] [] := by
    intro t
    induction t with
    | zero => intro i w1 h1 h2; omega
    | succ t ih =>
      intro i w1 hi ht hN1 hmd hw1 ha hb
      have hNN := hN1
      obtain ⟨o0, ⟨u1, e1, f1⟩, ⟨u2, e2, f2⟩, ⟨u3, e3, f3⟩, ⟨u5, e5, f5⟩, ⟨u6, e6, f6⟩, ⟨u8, e8, f8⟩, ⟨u10, e10, f10⟩, ⟨u11, e11, f11⟩, ⟨u13, e13, f13⟩, ⟨u14, e14, f14⟩, ⟨u15, e15⟩, ⟨u16, e16⟩, h20, h30, h100, h200, h220, h240, h300, h310⟩ := hNN
      refine r_iload (pq := 12) C dX11_change_10 rfl rfl ?_
      refine r_aload_n (pq := 13) C dX11_change_12 rfl rfl ?_
      refine r_getf (pq := 16) C 8 o0 rfl (by decide) (by decide +kernel) (Or.inl rfl) rfl dX11_change_13 rfl ?_
      refine rN_icmp_ge (tg := 47) (pq := 19) C dX11_change_16 (by decide) rfl (by omega) (by omega) (fun c16 => ?_) (fun c16 => ?_)
      · refine r_vret C D rfl ⟨Nat.le_refl _, Nat.le_refl _⟩ dX11_change_47 ?_
        have e9 : i = s.1 16 := by omega
        subst e9
        exact ⟨rfl, hN1, hmd, ha, hw1⟩
      · refine r_aload_n (pq := 20) C dX11_change_19 rfl rfl ?_
        refine r_getf (pq := 23) C 7 o0 rfl (by decide) (by decide +kernel) (Or.inl rfl) rfl dX11_change_20 rfl ?_
        refine r_iload (pq := 25) C dX11_change_23 rfl rfl ?_
        refine rN_aaldS (pq := 26) C 5 rfl rfl e8 (by omega) (by decide) (f8 i c16) dX11_change_25 rfl ?_
        have hlw := hS.2.2.2.2.2.2.1 i c16
        have hrc := rch_rng hlw
        obtain ⟨⟨zz, hr, hzz⟩, hh, he⟩ := hb i (Nat.le_refl _) c16
        refine r_astore (j := 5) (pq := 28) C dX11_change_26 rfl (by decide) rfl rfl ?_
        dsimp only [List.set]
        refine r_aload (pq := 30) C dX11_change_28 rfl rfl ?_
        refine r_ifnull (pq := 33) C dX11_change_30 rfl ?_
        refine r_aload (pq := 35) C dX11_change_33 rfl rfl ?_
        refine r_iload_n (pq := 36) C dX11_change_35 rfl rfl ?_
        refine r_iload_n (pq := 37) C dX11_change_36 rfl rfl ?_
        refine r_iload_n (pq := 38) C dX11_change_37 rfl rfl ?_
        refine r_callW (pq := 41) C (mc_X9_change (c := c) (lwC_W _) hlw.2.1 hrc.1 hrc.2 (by omega) (by omega) (by omega) hr hzz hh he hdb (by omega) hcb hcb9 hcn9) (lwC_W _) hr gX11_change_X9_change gX11_change_X9_change_u244X7 gX11_change_X9_change_u244X3 gX11_change_X9_change_u244X0 rfl rfl (na := 3) (by decide +kernel) (by decide +kernel) rfl (by decide) (by decide) (Nat.le_of_ble_eq_true rfl) ⟨Nat.zero_le _, Nat.zero_le _⟩ dX11_change_38 rfl rfl (fun r9 w9 hq => ?_)
        obtain ⟨rfl, rfl⟩ := hq
        dsimp only [Option.toList, List.nil_append]
        refine rN_iinc (c := 1) (pq := 44) C dX11_change_41 rfl (by decide) (by decide) rfl rfl ?_
        dsimp only [List.set]
        refine r_goto (tg := 10) C dX11_change_44 (by decide) ?_
        refine GG.fgt 5 ?_
        dsimp only [List.set]
        refine ih (i + 1) _ (by omega) (by omega) (NS.s240 (NS.s220 hN1 hI16 hI5 c16 _ _) hI16 hI5 c16 _ _) ?_ (fun q hq => (va_n _ _ (by omega)).trans ((va_n _ _ (by omega)).trans (hw1 q hq))) (fun j hj => ?_) (fun j h1 h2 => ?_)
        · obtain ⟨h8, m1, m2⟩ := hmd
          exact ⟨h8, (va_n _ _ (by omega)).trans ((va_n _ _ (by omega)).trans m1), m2⟩
        · by_cases e : j = i
          · subst e
            exact ⟨⟨zz, (va_n _ _ (by omega)).trans ((va_n _ _ (by omega)).trans hr), hzz⟩, (va_n _ _ (by omega)).trans (va_s _ _ _), va_s _ _ _⟩
          · exact (ha j (by omega)).keep ((va_n _ _ (by omega)).trans (va_n _ _ (by omega))) ((va_n _ _ (by omega)).trans (va_n _ _ (by omega))) ((va_n _ _ (by omega)).trans (va_n _ _ (by omega)))
        · exact (hb j (by omega) h2).keep ((va_n _ _ (by omega)).trans (va_n _ _ (by omega))) ((va_n _ _ (by omega)).trans (va_n _ _ (by omega))) ((va_n _ _ (by omega)).trans (va_n _ _ (by omega)))
  have hNN := hN
  obtain ⟨o0, ⟨u1, e1, f1⟩, ⟨u2, e2, f2⟩, ⟨u3, e3, f3⟩, ⟨u5, e5, f5⟩, ⟨u6, e6, f6⟩, ⟨u8, e8, f8⟩, ⟨u10, e10, f10⟩, ⟨u11, e11, f11⟩, ⟨u13, e13, f13⟩, ⟨u14, e14, f14⟩, ⟨u15, e15⟩, ⟨u16, e16⟩, h20, h30, h100, h200, h220, h240, h300, h310⟩ := hNN
  obtain ⟨h8, m1, m2⟩ := hM
  refine r_aload_n (pq := 1) C dX11_change_0 rfl rfl ?_
  refine r_getf (pq := 4) C 14 o0 rfl (by decide) (by decide +kernel) (Or.inl rfl) rfl dX11_change_1 rfl ?_
  refine r_iload_n (pq := 5) C dX11_change_4 rfl rfl ?_
  refine r_iload_n (pq := 6) C dX11_change_5 rfl rfl ?_
  refine rN_iast (pq := 7) C m1 (by omega) (by decide) dX11_change_6 rfl ?_
  refine r_iconst (v := nI 0) (pq := 8) C dX11_change_7 (by decide) rfl ?_
  refine r_istore (j := 4) (pq := 10) C dX11_change_8 rfl (by decide) rfl rfl ?_
  dsimp only [List.set]
  refine loop (s.1 16 + 1) 0 _ (Nat.zero_le _) (by omega) (NS.s15 hN _) ⟨_, va_s _ _ _, fun i hi => ?_⟩ (fun q hq => va_n _ _ (by omega)) (fun j h => absurd h (by omega)) (fun j _ h => (hT j h).keep (va_n _ _ (by omega)) (va_n _ _ (by omega)) (va_n _ _ (by omega)))
  unfold upd va_up
  by_cases e : i = d9
  · rw [if_pos e, if_pos e]; exact ⟨rfl, hcn9⟩
  · rw [if_neg e, if_neg e]; exact m2 i hi

set_option maxHeartbeats 4000000 in
set_option maxRecDepth 100000 in
/-- areSurelyKept -/
theorem mc_X11_areSurelyKept {l : Launch} {E : EV} {w : RW} {B : Nat → Nat} {s : ST} {c : Nat → Nat} {d9 b9 : Nat} (hS : SI s) (hN : NS E B s w) (hT : ∀ j, j < s.1 16 → TRJ B s w c (d9 + 1) b9 j) (hd9 : d9 < 400) (hb9 : b9 < 400) : MC l E yX11_areSurelyKept wsX11_areSurelyKept 1 0 0 [.ref (B 0), .int (nI d9), .int (nI b9)] (w) (fun v w' => w' = w ∧ v = some (.int (nI (b2 (ends s c d9 b9))))) := by
  refine MC.enter (cc := cX11_areSurelyKept) (maxL := 5) (ret := (some .boolean)) (lv0 := [some (.ref (B 0)), some (.int (nI d9)), some (.int (nI b9)), none, none]) (by decide) rfl (by simp [Value.category]) (Nat.le_of_ble_eq_true rfl) rfl ?_
  intro X hl hE C D
  subst hl
  subst hE
  have hI1 : s.1 1 ≤ 6 := hS.2.1
  have hI5 : s.1 5 ≤ 80 := hS.2.2.1
  have hI16 : s.1 16 ≤ 12 := hS.2.2.2.1
  have hNN := hN
  obtain ⟨o0, ⟨u1, e1, f1⟩, ⟨u2, e2, f2⟩, ⟨u3, e3, f3⟩, ⟨u5, e5, f5⟩, ⟨u6, e6, f6⟩, ⟨u8, e8, f8⟩, ⟨u10, e10, f10⟩, ⟨u11, e11, f11⟩, ⟨u13, e13, f13⟩, ⟨u14, e14, f14⟩, ⟨u15, e15⟩, ⟨u16, e16⟩, h20, h30, h100, h200, h220, h240, h300, h310⟩ := hNN
  have loop : ∀ (t i : Nat), i ≤ s.1 16 → s.1 16 - i < t → (∀ j, j < i → s.2.1 17 j ≠ 2 → kj s j c d9 = 2 ∧ kj s j c b9 = 2) → GG X w 0 0 2 [some (.ref (B 0)), some (.int (nI d9)), some (.int (nI b9)), some (.int (nI i)), none] [] := by
    intro t
    induction t with
    | zero => intro i h1 h2; omega
    | succ t ih =>
      intro i hi ht ha
      refine r_iload_n (pq := 3) C dX11_areSurelyKept_2 rfl rfl ?_
      refine r_aload_n (pq := 4) C dX11_areSurelyKept_3 rfl rfl ?_
      refine r_getf (pq := 7) C 8 o0 rfl (by decide) (by decide +kernel) (Or.inl rfl) rfl dX11_areSurelyKept_4 rfl ?_
      refine rN_icmp_ge (tg := 69) (pq := 10) C dX11_areSurelyKept_7 (by decide) rfl (by omega) (by omega) (fun c7 => ?_) (fun c7 => ?_)
      · refine r_iconst (v := nI 1) (pq := 70) C dX11_areSurelyKept_69 (by decide) rfl ?_
        refine r_zret C D rfl (by decide) ⟨Nat.le_refl _, Nat.le_refl _⟩ dX11_areSurelyKept_70 ?_
        have e9 : i = s.1 16 := by omega
        subst e9
        exact ⟨rfl, by rw [b2_t ha]⟩
      · refine r_aload_n (pq := 11) C dX11_areSurelyKept_10 rfl rfl ?_
        refine r_getf (pq := 14) C 7 o0 rfl (by decide) (by decide +kernel) (Or.inl rfl) rfl dX11_areSurelyKept_11 rfl ?_
        refine r_iload_n (pq := 15) C dX11_areSurelyKept_14 rfl rfl ?_
        refine rN_aaldS (pq := 16) C 5 rfl rfl e8 (by omega) (by decide) (f8 i c7) dX11_areSurelyKept_15 rfl ?_
        have hlw := hS.2.2.2.2.2.2.1 i c7
        obtain ⟨⟨zz, hr, hzz⟩, hh, he⟩ := hT i c7
        have hkl := kp_le (s.2.1 17 i) (s.2.1 19 i) (s.2.1 18 i) (tn (s.2.2 20 i)) c d9
        have hkl2 := kp_le (s.2.1 17 i) (s.2.1 19 i) (s.2.1 18 i) (tn (s.2.2 20 i)) c b9
        refine r_astore (j := 4) (pq := 18) C dX11_areSurelyKept_16 rfl (by decide) rfl rfl ?_
        dsimp only [List.set]
        refine r_aload (pq := 20) C dX11_areSurelyKept_18 rfl rfl ?_
        refine r_ifnull (pq := 23) C dX11_areSurelyKept_20 rfl ?_
        refine r_aload (pq := 25) C dX11_areSurelyKept_23 rfl rfl ?_
        refine r_binds (pq := 28) C hlw.1 hr gX11_areSurelyKept_X9_bindsTrips gX11_areSurelyKept_X9_bindsTrips_u245X7 gX11_areSurelyKept_X3_bindsTrips_u245X3 gX11_areSurelyKept_X9_bindsTrips_u245X0 (by decide +kernel) (by decide) (Nat.le_of_ble_eq_true rfl) ⟨Nat.zero_le _, Nat.zero_le _⟩ dX11_areSurelyKept_25 rfl ?_
        refine rN_if_eq (tg := 63) (pq := 31) C dX11_areSurelyKept_28 (by decide) rfl (by split <;> omega) (fun c28 => ?_) (fun c28 => ?_)
        · refine rN_iinc (c := 1) (pq := 66) C dX11_areSurelyKept_63 rfl (by decide) (by decide) rfl rfl ?_
          dsimp only [List.set]
          refine r_goto (tg := 2) C dX11_areSurelyKept_66 (by decide) ?_
          refine GG.fgt 4 ?_
          dsimp only [List.set]
          exact ih (i + 1) (by omega) (by omega) (fun j hj h2 => by
            by_cases e : j = i
            · subst e; exact absurd (Decidable.byContradiction fun q => by rw [if_neg q] at c28; omega) h2
            · exact ha j (by omega) h2)
        · have h2 : s.2.1 17 i ≠ 2 := fun q => by rw [if_pos q] at c28; omega
          refine r_aload (pq := 33) C dX11_areSurelyKept_31 rfl rfl ?_
          refine r_aload (pq := 35) C dX11_areSurelyKept_33 rfl rfl ?_
          refine r_getW (pq := 38) C (lwC_W _) 3 hr (by decide) (by decide +kernel) rfl rfl dX11_areSurelyKept_35 rfl ?_
          refine r_iload_n (pq := 39) C dX11_areSurelyKept_38 rfl rfl ?_
          refine r_verdict (pq := 42) C hlw.1 hlw.2.2.1 (wsm_lt (lq_le _ _) (by omega)) (wsm_lt (mq_le _ _) (by omega)) (by omega) hr hh gX11_areSurelyKept_X9_verdict gX11_areSurelyKept_X9_verdict_u200X7 gX11_areSurelyKept_X3_verdict_u200X3 gX11_areSurelyKept_X0_verdict_u200X0 (by decide +kernel) (by decide) (Nat.le_of_ble_eq_true rfl) ⟨Nat.zero_le _, Nat.zero_le _⟩ dX11_areSurelyKept_39 rfl ?_
          rw [vd_kj hlw.1]
          refine r_iconst (v := nI 2) (pq := 43) C dX11_areSurelyKept_42 (by decide) rfl ?_
          refine rN_icmp_ne (tg := 61) (pq := 46) C dX11_areSurelyKept_43 (by decide) rfl (by unfold kj at *; omega) (by unfold kj at *; omega) (fun c43 => ?_) (fun c43 => ?_)
          · refine r_iconst (v := nI 0) (pq := 62) C dX11_areSurelyKept_61 (by decide) rfl ?_
            refine r_zret C D rfl (by decide) ⟨Nat.le_refl _, Nat.le_refl _⟩ dX11_areSurelyKept_62 ?_
            exact ⟨rfl, by rw [b2_f (fun h => c43 (h i c7 h2).1)]⟩
          · refine r_aload (pq := 48) C dX11_areSurelyKept_46 rfl rfl ?_
            refine r_aload (pq := 50) C dX11_areSurelyKept_48 rfl rfl ?_
            refine r_getW (pq := 53) C (lwC_W _) 4 hr (by decide) (by decide +kernel) rfl rfl dX11_areSurelyKept_50 rfl ?_
            refine r_iload_n (pq := 54) C dX11_areSurelyKept_53 rfl rfl ?_
            refine r_verdict (pq := 57) C hlw.1 hlw.2.2.1 (wsm_lt (lq_le _ _) (by omega)) (wsm_lt (mq_le _ _) (by omega)) (by omega) hr he gX11_areSurelyKept_X9_verdict gX11_areSurelyKept_X9_verdict_u200X7 gX11_areSurelyKept_X3_verdict_u200X3 gX11_areSurelyKept_X0_verdict_u200X0 (by decide +kernel) (by decide) (Nat.le_of_ble_eq_true rfl) ⟨Nat.zero_le _, Nat.zero_le _⟩ dX11_areSurelyKept_54 rfl ?_
            rw [vd_kj hlw.1]
            refine r_iconst (v := nI 2) (pq := 58) C dX11_areSurelyKept_57 (by decide) rfl ?_
            refine rN_icmp_eq (tg := 63) (pq := 61) C dX11_areSurelyKept_58 (by decide) rfl (by unfold kj at *; omega) (by unfold kj at *; omega) (fun c58 => ?_) (fun c58 => ?_)
            · refine rN_iinc (c := 1) (pq := 66) C dX11_areSurelyKept_63 rfl (by decide) (by decide) rfl rfl ?_
              dsimp only [List.set]
              refine r_goto (tg := 2) C dX11_areSurelyKept_66 (by decide) ?_
              refine GG.fgt 4 ?_
              dsimp only [List.set]
              exact ih (i + 1) (by omega) (by omega) (fun j hj h3 => by
                by_cases e : j = i
                · subst e; exact ⟨c43, c58⟩
                · exact ha j (by omega) h3)
            · refine r_iconst (v := nI 0) (pq := 62) C dX11_areSurelyKept_61 (by decide) rfl ?_
              refine r_zret C D rfl (by decide) ⟨Nat.le_refl _, Nat.le_refl _⟩ dX11_areSurelyKept_62 ?_
              exact ⟨rfl, by rw [b2_f (fun h => c58 (h i c7 h2).2)]⟩
  refine r_iconst (v := nI 0) (pq := 1) C dX11_areSurelyKept_0 (by decide) rfl ?_
  refine r_istore_n (j := 3) (pq := 2) C dX11_areSurelyKept_1 rfl (by decide) rfl rfl ?_
  dsimp only [List.set]
  exact loop (s.1 16 + 1) 0 (Nat.zero_le _) (by omega) (fun j h => absurd h (by omega))


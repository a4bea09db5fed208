/-! ===== the class's calls: free, trip ===== -/
theorem va_back (c : Nat → Nat) (d x : Nat) : va_up (va_up c d x) d (c d) = c := by
  funext i
  by_cases e : i = d
  · subst e; rw [va_s]
  · rw [va_n _ _ e, va_n _ _ e]

set_option maxHeartbeats 4000000 in
set_option maxRecDepth 100000 in
/-- takes -/
theorem mc_X11_takes {l : Launch} {E : EV} {w : RW} {B : Nat → Nat} {s : ST} {c : Nat → Nat} {d9 b9 cb9 cn9 aw : Nat} (hS : SI s) (hN : NS E B s w) (hM : MD E B w c) (hT : ∀ j, j < s.1 16 → TRJ B s w c d9 b9 j) (hdb : d9 ≤ b9) (hb9 : b9 < 400) (haw : aw < 8) (hcb : c d9 = cb9) (hc : ∀ i, d9 < i → i ≤ b9 → c i = 2 ^ aw) (hcb9 : cb9 < 1000000) (hcn9 : cn9 < 1000000) : MC l E yX11_takes wsX11_takes 3 0 0 [.ref (B 0), .int (nI d9), .int (nI b9), .int (nI cb9), .int (nI cn9)] (w) (fun v w' => v = some (.int (nI (b2 (akp s (va_up c d9 cn9) d9 b9)))) ∧ NS E B s w' ∧ (akp s (va_up c d9 cn9) d9 b9 → MD E B w' (va_up c d9 cn9) ∧ ∀ j, j < s.1 16 → TRJ B s w' (va_up c d9 cn9) (d9 + 1) b9 j) ∧ (¬ akp s (va_up c d9 cn9) d9 b9 → MD E B w' c ∧ ∀ j, j < s.1 16 → TRJ B s w' c (d9 + 1) b9 j) ∧ FR w w') := by
  refine MC.enter (cc := cX11_takes) (maxL := 7) (ret := (some .boolean)) (lv0 := [some (.ref (B 0)), some (.int (nI d9)), some (.int (nI b9)), some (.int (nI cb9)), some (.int (nI cn9)), none, none]) (by decide) rfl (by simp [Value.category]) (Nat.le_of_ble_eq_true rfl) rfl ?_
  intro X hl hE C D
  subst hl
  subst hE
  have hI1 : s.1 1 ≤ 6 := hS.2.1
  have hI5 : s.1 5 ≤ 80 := hS.2.2.1
  have hI16 : s.1 16 ≤ 12 := hS.2.2.2.1
  have hc1 : ∀ i, d9 < i → i ≤ b9 → (va_up c d9 cn9) i = 2 ^ aw := fun i q1 q2 => by rw [va_n _ _ (by omega)]; exact hc i q1 q2
  have fin : ∀ (w1 : RW), NS (xE X) B s w1 → MD (xE X) B w1 c → FR w w1 → (∀ j, j < s.1 16 → TRJ B s w1 c (d9 + 1) b9 j) → GG X w1 0 0 42 [some (.ref (B 0)), some (.int (nI d9)), some (.int (nI b9)), some (.int (nI cb9)), some (.int (nI cn9)), none, none] [] := by
    intro w1 hN1 hmd hw1 ha
    have hO1 := hN1.1
    refine r_aload_n (pq := 43) C dX11_takes_42 rfl rfl ?_
    refine r_iload_n (pq := 44) C dX11_takes_43 rfl rfl ?_
    refine r_iload_n (pq := 45) C dX11_takes_44 rfl rfl ?_
    refine r_iload (pq := 47) C dX11_takes_45 rfl rfl ?_
    refine r_callV (pq := 50) C (mc_X11_change (c := c) hS hN1 hmd ha hdb hb9 hcb hcb9 hcn9) hO1 rfl gX11_takes_X11_change rfl (na := 3) (by decide +kernel) rfl (by decide) (by decide) (Nat.le_of_ble_eq_true rfl) ⟨Nat.zero_le _, Nat.zero_le _⟩ dX11_takes_47 rfl rfl (fun r9 w2 hq => ?_)
    obtain ⟨rfl, hN2, hM2, hT2, hw2⟩ := hq
    dsimp only [Option.toList, List.cons_append, List.nil_append]
    have hO2 := hN2.1
    refine r_aload_n (pq := 51) C dX11_takes_50 rfl rfl ?_
    refine r_iload_n (pq := 52) C dX11_takes_51 rfl rfl ?_
    refine r_iload_n (pq := 53) C dX11_takes_52 rfl rfl ?_
    refine r_callV (pq := 56) C (mc_X11_areSurelyKept (c := (va_up c d9 cn9)) hS hN2 hT2 (by omega) hb9) hO2 rfl gX11_takes_X11_areSurelyKept rfl (na := 2) (by decide +kernel) rfl (by decide) (by decide) (Nat.le_of_ble_eq_true rfl) ⟨Nat.zero_le _, Nat.zero_le _⟩ dX11_takes_53 rfl rfl (fun r9 w2 hq => ?_)
    obtain ⟨rfl, rfl⟩ := hq
    dsimp only [Option.toList, List.cons_append, List.nil_append]
    have l53 := b2_lt (ends s (va_up c d9 cn9) d9 b9)
    have hak := akp_ends (c := (va_up c d9 cn9)) hS haw hdb hc1
    refine rN_if_eq (tg := 61) (pq := 59) C dX11_takes_56 (by decide) rfl (by omega) (fun c56 => ?_) (fun c56 => ?_)
    · refine r_aload_n (pq := 62) C dX11_takes_61 rfl rfl ?_
      refine r_iload_n (pq := 63) C dX11_takes_62 rfl rfl ?_
      refine r_iload (pq := 65) C dX11_takes_63 rfl rfl ?_
      refine r_iload_n (pq := 66) C dX11_takes_65 rfl rfl ?_
      refine r_callV (pq := 69) C (mc_X11_change (c := (va_up c d9 cn9)) hS hN2 hM2 hT2 hdb hb9 (va_s _ _ _) hcn9 hcb9) hO2 rfl gX11_takes_X11_change rfl (na := 3) (by decide +kernel) rfl (by decide) (by decide) (Nat.le_of_ble_eq_true rfl) ⟨Nat.zero_le _, Nat.zero_le _⟩ dX11_takes_66 rfl rfl (fun r9 w3 hq => ?_)
      obtain ⟨rfl, hN3, hM3, hT3, hw3⟩ := hq
      rw [show va_up (va_up c d9 cn9) d9 cb9 = c by rw [← hcb]; exact va_back c d9 cn9] at hM3 hT3
      dsimp only [Option.toList, List.cons_append, List.nil_append]
      refine r_iconst (v := nI 0) (pq := 70) C dX11_takes_69 (by decide) rfl ?_
      refine r_zret C D rfl (by decide) ⟨Nat.le_refl _, Nat.le_refl _⟩ dX11_takes_70 ?_
      have hna : ¬ akp s (va_up c d9 cn9) d9 b9 := fun h => b2_0.mp c56 (hak.mp h)
      refine ⟨by rw [b2_f hna], hN3, fun h => absurd h hna, fun _ => ⟨hM3, hT3⟩, fun q hq => (hw3 q hq).trans ((hw2 q hq).trans (hw1 q hq))⟩
    · refine r_iconst (v := nI 1) (pq := 60) C dX11_takes_59 (by decide) rfl ?_
      refine r_zret C D rfl (by decide) ⟨Nat.le_refl _, Nat.le_refl _⟩ dX11_takes_60 ?_
      refine ⟨by rw [b2_t (hak.mpr (b2_1.mp c56))], hN2, fun _ => ⟨hM2, hT2⟩, fun h => absurd (hak.mpr (b2_1.mp c56)) h, fun q hq => (hw2 q hq).trans (hw1 q hq)⟩
  have loop : ∀ (t i : Nat) (w1 : RW), i ≤ s.1 16 → s.1 16 - i < t → NS (xE X) B s w1 → MD (xE X) B w1 c → FR w w1 → (∀ j, j < i → TRJ B s w1 c (d9 + 1) b9 j) → (∀ j, i ≤ j → j < s.1 16 → TRJ B s w1 c d9 b9 j) → GG X w1 0 0 3 [some (.ref (B 0)), some (.int (nI d9)), some (.int (nI b9)), some (.int (nI cb9)), some (.int (nI cn9)), some (.int (nI i)), none] [] := by
    intro t
    induction t with
    | zero => intro i w1 h1 h2; omega
    | succ t ih =>
      intro i w1 hi ht hN1 hmd hw1 ha hb
      have hNN := hN1
      obtain ⟨o0, ⟨u1, e1, f1⟩, ⟨u2, e2, f2⟩, ⟨u3, e3, f3⟩, ⟨u5, e5, f5⟩, ⟨u6, e6, f6⟩, ⟨u8, e8, f8⟩, ⟨u10, e10, f10⟩, ⟨u11, e11, f11⟩, ⟨u13, e13, f13⟩, ⟨u14, e14, f14⟩, ⟨u15, e15⟩, ⟨u16, e16⟩, h20, h30, h100, h200, h220, h240, h300, h310⟩ := hNN
      refine r_iload (pq := 5) C dX11_takes_3 rfl rfl ?_
      refine r_aload_n (pq := 6) C dX11_takes_5 rfl rfl ?_
      refine r_getf (pq := 9) C 8 o0 rfl (by decide) (by decide +kernel) (Or.inl rfl) rfl dX11_takes_6 rfl ?_
      refine rN_icmp_ge (tg := 42) (pq := 12) C dX11_takes_9 (by decide) rfl (by omega) (by omega) (fun c9 => ?_) (fun c9 => ?_)
      · have e9 : i = s.1 16 := by omega
        subst e9
        refine GG.fgt 5 ?_
        dsimp only [List.set]
        exact fin w1 hN1 hmd hw1 ha
      · refine r_aload_n (pq := 13) C dX11_takes_12 rfl rfl ?_
        refine r_getf (pq := 16) C 7 o0 rfl (by decide) (by decide +kernel) (Or.inl rfl) rfl dX11_takes_13 rfl ?_
        refine r_iload (pq := 18) C dX11_takes_16 rfl rfl ?_
        refine rN_aaldS (pq := 19) C 5 rfl rfl e8 (by omega) (by decide) (f8 i c9) dX11_takes_18 rfl ?_
        have hlw := hS.2.2.2.2.2.2.1 i c9
        have hrc := rch_rng hlw
        obtain ⟨⟨zz, hr, hzz⟩, hh, he⟩ := hb i (Nat.le_refl _) c9
        obtain ⟨h8, m1, m2⟩ := hmd
        refine r_astore (j := 6) (pq := 21) C dX11_takes_19 rfl (by decide) rfl rfl ?_
        dsimp only [List.set]
        refine r_aload (pq := 23) C dX11_takes_21 rfl rfl ?_
        refine r_ifnull (pq := 26) C dX11_takes_23 rfl ?_
        refine r_aload (pq := 28) C dX11_takes_26 rfl rfl ?_
        refine r_aload_n (pq := 29) C dX11_takes_28 rfl rfl ?_
        refine r_getf (pq := 32) C 14 o0 rfl (by decide) (by decide +kernel) (Or.inl rfl) rfl dX11_takes_29 rfl ?_
        refine r_iload_n (pq := 33) C dX11_takes_32 rfl rfl ?_
        refine r_callW (pq := 36) C (mc_X9_moveTo (rr := 15) (c := c) (lwC_W _) hlw.2.1 hrc.1 hrc.2 (by omega) m2 m1 (by omega) hr hh (by omega)) (lwC_W _) hr gX11_takes_X9_moveTo gX11_takes_X9_moveTo_u226X7 gX11_takes_X9_moveTo_u226X3 gX11_takes_X9_moveTo_u226X0 rfl rfl (na := 2) (by decide +kernel) (by decide +kernel) rfl (by decide) (by decide) (Nat.le_of_ble_eq_true rfl) ⟨Nat.zero_le _, Nat.zero_le _⟩ dX11_takes_33 rfl rfl (fun r9 w9 hq => ?_)
        obtain ⟨rfl, rfl⟩ := hq
        dsimp only [Option.toList, List.nil_append]
        refine rN_iinc (c := 1) (pq := 39) C dX11_takes_36 rfl (by decide) (by decide) rfl rfl ?_
        dsimp only [List.set]
        refine r_goto (tg := 3) C dX11_takes_39 (by decide) ?_
        refine GG.fgt 6 ?_
        dsimp only [List.set]
        refine ih (i + 1) _ (by omega) (by omega) (NS.s220 hN1 hI16 hI5 c9 _ _) ⟨h8, (va_n _ _ (by omega)).trans m1, m2⟩ (fun q hq => (va_n _ _ (by omega)).trans (hw1 q hq)) (fun j hj => ?_) (fun j h1 h2 => ?_)
        · by_cases e : j = i
          · subst e
            exact ⟨⟨zz, (va_n _ _ (by omega)).trans hr, hzz⟩, va_s _ _ _, (va_n _ _ (by omega)).trans he⟩
          · exact (ha j (by omega)).keep (va_n _ _ (by omega)) (va_n _ _ (by omega)) (va_n _ _ (by omega))
        · exact (hb j (by omega) h2).keep (va_n _ _ (by omega)) (va_n _ _ (by omega)) (va_n _ _ (by omega))
  refine r_iconst (v := nI 0) (pq := 1) C dX11_takes_0 (by decide) rfl ?_
  refine r_istore (j := 5) (pq := 3) C dX11_takes_1 rfl (by decide) rfl rfl ?_
  dsimp only [List.set]
  exact loop (s.1 16 + 1) 0 w (Nat.zero_le _) (by omega) hN hM (fun _ _ => rfl) (fun j h => absurd h (by omega)) (fun j _ h => hT j h)

set_option maxHeartbeats 4000000 in
set_option maxRecDepth 100000 in
/-- landOfRest -/
theorem mc_X11_landOfRest {l : Launch} {E : EV} {w : RW} {B : Nat → Nat} {s : ST} {p9 l9 : Nat} (hS : SI s) (hN : NS E B s w) (hp : p9 < s.1 1) (hl : l9 < 8) : MC l E yX11_landOfRest wsX11_landOfRest 0 0 0 [.ref (B 0), .int (nI p9), .int (nI l9)] (w) (fun v w' => w' = w ∧ v = some (.int (nI (awy s p9 l9)))) := by
  refine MC.enter (cc := cX11_landOfRest) (maxL := 3) (ret := (some .int)) (lv0 := [some (.ref (B 0)), some (.int (nI p9)), some (.int (nI l9))]) (by decide) rfl (by simp [Value.category]) (Nat.le_of_ble_eq_true rfl) rfl ?_
  intro X hl hE C D
  subst hl
  subst hE
  have hI1 : s.1 1 ≤ 6 := hS.2.1
  have hI5 : s.1 5 ≤ 80 := hS.2.2.1
  have hI16 : s.1 16 ≤ 12 := hS.2.2.2.1
  have hNN := hN
  obtain ⟨o0, ⟨u1, e1, f1⟩, ⟨u2, e2, f2⟩, ⟨u3, e3, f3⟩, ⟨u5, e5, f5⟩, ⟨u6, e6, f6⟩, ⟨u8, e8, f8⟩, ⟨u10, e10, f10⟩, ⟨u11, e11, f11⟩, ⟨u13, e13, f13⟩, ⟨u14, e14, f14⟩, ⟨u15, e15⟩, ⟨u16, e16⟩, h20, h30, h100, h200, h220, h240, h300, h310⟩ := hNN
  have hh := hS.2.2.2.2.1 p9 hp
  refine r_aload_n (pq := 1) C dX11_landOfRest_0 rfl rfl ?_
  refine r_getf (pq := 4) C 0 o0 rfl (by decide) (by decide +kernel) (Or.inl rfl) rfl dX11_landOfRest_1 rfl ?_
  refine r_iload_n (pq := 5) C dX11_landOfRest_4 rfl rfl ?_
  refine rN_iald (pq := 6) C e1 (by omega) (by decide) dX11_landOfRest_5 rfl ?_
  refine r_at (f1 p9 hp) ?_
  refine r_iload_n (pq := 7) C dX11_landOfRest_6 rfl rfl ?_
  refine rN_icmp_eq (tg := 17) (pq := 10) C dX11_landOfRest_7 (by decide) rfl (by omega) (by omega) (fun c7 => ?_) (fun c7 => ?_)
  · refine r_aload_n (pq := 18) C dX11_landOfRest_17 rfl rfl ?_
    refine r_getf (pq := 21) C 1 o0 rfl (by decide) (by decide +kernel) (Or.inl rfl) rfl dX11_landOfRest_18 rfl ?_
    refine r_iload_n (pq := 22) C dX11_landOfRest_21 rfl rfl ?_
    refine rN_iald (pq := 23) C e2 (by omega) (by decide) dX11_landOfRest_22 rfl ?_
    refine r_at (f2 p9 hp) ?_
    refine r_iload_n (pq := 24) C dX11_landOfRest_23 rfl rfl ?_
    refine rN_icmp_eq (tg := 34) (pq := 27) C dX11_landOfRest_24 (by decide) rfl (by omega) (by omega) (fun c24 => ?_) (fun c24 => ?_)
    · refine r_iload_n (pq := 35) C dX11_landOfRest_34 rfl rfl ?_
      refine rN_if_ne (tg := 42) (pq := 38) C dX11_landOfRest_35 (by decide) rfl (by omega) (fun c35 => ?_) (fun c35 => ?_)
      · refine r_iconst (v := nI 0) (pq := 43) C dX11_landOfRest_42 (by decide) rfl ?_
        refine r_iret C D rfl ⟨Nat.le_refl _, Nat.le_refl _⟩ dX11_landOfRest_43 ?_
        refine ⟨rfl, ?_⟩
        unfold awy
        rw [if_neg (fun h => h c7), if_neg (fun h => h c24), if_neg c35]
      · refine r_iconst (v := nI 1) (pq := 39) C dX11_landOfRest_38 (by decide) rfl ?_
        refine r_goto (tg := 43) C dX11_landOfRest_39 (by decide) ?_
        refine r_iret C D rfl ⟨Nat.le_refl _, Nat.le_refl _⟩ dX11_landOfRest_43 ?_
        refine ⟨rfl, ?_⟩
        unfold awy
        rw [if_neg (fun h => h c7), if_neg (fun h => h c24), if_pos c35]
    · refine r_aload_n (pq := 28) C dX11_landOfRest_27 rfl rfl ?_
      refine r_getf (pq := 31) C 1 o0 rfl (by decide) (by decide +kernel) (Or.inl rfl) rfl dX11_landOfRest_28 rfl ?_
      refine r_iload_n (pq := 32) C dX11_landOfRest_31 rfl rfl ?_
      refine rN_iald (pq := 33) C e2 (by omega) (by decide) dX11_landOfRest_32 rfl ?_
      refine r_at (f2 p9 hp) ?_
      refine r_iret C D rfl ⟨Nat.le_refl _, Nat.le_refl _⟩ dX11_landOfRest_33 ?_
      refine ⟨rfl, ?_⟩
      unfold awy
      rw [if_neg (fun h => h c7), if_pos c24]
  · refine r_aload_n (pq := 11) C dX11_landOfRest_10 rfl rfl ?_
    refine r_getf (pq := 14) C 0 o0 rfl (by decide) (by decide +kernel) (Or.inl rfl) rfl dX11_landOfRest_11 rfl ?_
    refine r_iload_n (pq := 15) C dX11_landOfRest_14 rfl rfl ?_
    refine rN_iald (pq := 16) C e1 (by omega) (by decide) dX11_landOfRest_15 rfl ?_
    refine r_at (f1 p9 hp) ?_
    refine r_iret C D rfl ⟨Nat.le_refl _, Nat.le_refl _⟩ dX11_landOfRest_16 ?_
    refine ⟨rfl, ?_⟩
    unfold awy
    rw [if_pos c7]

theorem awy_lt {s : ST} {p l : Nat} (hS : SI s) (hp : p < s.1 1) : awy s p l < 8 := by
  have hh := hS.2.2.2.2.1 p hp
  unfold awy
  repeat' split
  all_goals omega
theorem trR_ok {s : ST} {p l a b n : Nat} (hS : SI s) (hp : p < s.1 1) (hl : l < 8) (i : Nat) : trR s p l a b n i < 1000000 := by
  induction n with
  | zero =>
    unfold trR
    have := pw8 (awy_lt (l := l) hS hp)
    have := cn_le s.2.1 (s.1 5) p i
    by_cases q : a ≤ i ∧ i ≤ b
    · rw [if_pos q]; omega
    · rw [if_neg q]; unfold cr; omega
  | succ n ih =>
    have := pw8 hl
    unfold trR
    split
    · by_cases q : i = a + n
      · rw [q, va_s]; omega
      · rw [va_n _ _ q]; exact ih
    · exact ih

set_option maxHeartbeats 4000000 in
set_option maxRecDepth 100000 in
/-- travel -/
theorem mc_X11_travel {l : Launch} {E : EV} {w : RW} {B : Nat → Nat} {s : ST} {p9 l9 a9 b9 : Nat} (hS : SI s) (hN : NS E B s w) (hp : p9 < s.1 1) (hl : l9 < 8) (hab : a9 ≤ b9) (hb9 : b9 < 400) : MC l E yX11_travel wsX11_travel 4 0 0 [.ref (B 0), .int (nI p9), .int (nI l9), .int (nI a9), .int (nI b9)] (w) (fun v w' => v = some (.int (nI (ps (tk s p9 l9 a9 b9) 400))) ∧ NS E B s w' ∧ MD E B w' (trR s p9 l9 a9 b9 (b9 + 1 - a9)) ∧ FR w w') := by
  refine MC.enter (cc := cX11_travel) (maxL := 9) (ret := (some .int)) (lv0 := [some (.ref (B 0)), some (.int (nI p9)), some (.int (nI l9)), some (.int (nI a9)), some (.int (nI b9)), none, none, none, none]) (by decide) rfl (by simp [Value.category]) (Nat.le_of_ble_eq_true rfl) rfl ?_
  intro X hl hE C D
  subst hl
  subst hE
  have hI1 : s.1 1 ≤ 6 := hS.2.1
  have hI5 : s.1 5 ≤ 80 := hS.2.2.1
  have hI16 : s.1 16 ≤ 12 := hS.2.2.2.1
  have haw := awy_lt (l := l9) hS hp
  have hpa := pw8 haw
  have hpl := pw8 hl
  have ha1 : (nI a9 - nI 1).toInt = (a9 : Int) - 1 := by
    have i0 : (nI a9).toInt = a9 := nI_toInt (by omega)
    have i2 : (nI 1).toInt = 1 := nI_toInt (by omega)
    rw [fb_subI (by omega) (by omega), i0, i2]
  have loop2 : ∀ (t n : Nat) (w1 : RW), n ≤ b9 + 1 - a9 → b9 + 1 - a9 - n < t → NS (xE X) B s w1 → MD (xE X) B w1 (trR s p9 l9 a9 b9 (n)) → FR w w1 → (∀ j, j < s.1 16 → TRJ B s w1 (trR s p9 l9 a9 b9 (n)) (a9 + n) b9 j) → GG X w1 0 0 108 [some (.ref (B 0)), some (.int (nI p9)), some (.int (nI l9)), some (.int (nI a9)), some (.int (nI b9)), some (.int (nI (2 ^ l9))), some (.int (nI (2 ^ (awy s p9 l9)))), some (.int (nI (ps (tq s p9 l9 a9 b9 (n)) 400))), some (.int (nI (a9 + n)))] [] := by
    intro t
    induction t with
    | zero => intro n w1 h1 h2; omega
    | succ t ih =>
      intro n w1 hn ht hN1 hmd hw1 hT
      have hcd : a9 + n ≤ b9 → trR s p9 l9 a9 b9 n (a9 + n) = 2 ^ (awy s p9 l9) := fun h => by rw [trR_out s p9 l9 a9 b9 n (a9 + n) (Or.inr (Nat.le_refl _)), if_pos (by omega)]
      have hcr : ∀ i, a9 + n < i → i ≤ b9 → trR s p9 l9 a9 b9 n i = 2 ^ (awy s p9 l9) := fun i q1 q2 => by rw [trR_out s p9 l9 a9 b9 n i (Or.inr (by omega)), if_pos (by omega)]
      refine r_iload (pq := 110) C dX11_travel_108 rfl rfl ?_
      refine r_iload (pq := 112) C dX11_travel_110 rfl rfl ?_
      refine rN_icmp_gt (tg := 139) (pq := 115) C dX11_travel_112 (by decide) rfl (by omega) (by omega) (fun c112 => ?_) (fun c112 => ?_)
      · refine r_iload (pq := 141) C dX11_travel_139 rfl rfl ?_
        refine r_iret C D rfl ⟨Nat.le_refl _, Nat.le_refl _⟩ dX11_travel_141 ?_
        have e9 : n = b9 + 1 - a9 := by omega
        subst e9
        refine ⟨?_, hN1, hmd, hw1⟩
        rw [ps_congr (fun i _ => tq_tk s p9 l9 a9 b9 i hab)]
      · refine r_aload_n (pq := 116) C dX11_travel_115 rfl rfl ?_
        refine r_iload (pq := 118) C dX11_travel_116 rfl rfl ?_
        refine r_iload (pq := 120) C dX11_travel_118 rfl rfl ?_
        refine r_iload (pq := 122) C dX11_travel_120 rfl rfl ?_
        refine r_iload (pq := 124) C dX11_travel_122 rfl rfl ?_
        refine r_callV (pq := 127) C (mc_X11_takes (c := (trR s p9 l9 a9 b9 (n))) (aw := (awy s p9 l9)) hS hN1 hmd hT (by omega) hb9 haw (hcd (by omega)) hcr (by omega) (by omega)) hN1.1 rfl gX11_travel_X11_takes rfl (na := 4) (by decide +kernel) rfl (by decide) (by decide) (Nat.le_of_ble_eq_true rfl) ⟨Nat.zero_le _, Nat.zero_le _⟩ dX11_travel_124 rfl rfl (fun r9 w2 hq => ?_)
        obtain ⟨rfl, hN2, hy, hn9, hw2⟩ := hq
        dsimp only [Option.toList, List.cons_append, List.nil_append]
        have l124 := b2_lt (akp s (va_up (trR s p9 l9 a9 b9 (n)) (a9 + n) (2 ^ l9)) (a9 + n) b9)
        refine rN_if_eq (tg := 133) (pq := 130) C dX11_travel_127 (by decide) rfl (by omega) (fun c127 => ?_) (fun c127 => ?_)
        · refine rN_iinc (c := 1) (pq := 136) C dX11_travel_133 rfl (by decide) (by decide) rfl rfl ?_
          dsimp only [List.set]
          refine r_goto (tg := 108) C dX11_travel_136 (by decide) ?_
          have hak9 : ¬ akp s (va_up (trR s p9 l9 a9 b9 (n)) (a9 + n) (2 ^ l9)) (a9 + n) b9 := b2_0.mp c127
          have e1 : trR s p9 l9 a9 b9 (n + 1) = (trR s p9 l9 a9 b9 (n)) := if_neg hak9
          have q0 : tq s p9 l9 a9 b9 n (a9 + n) = 0 := by unfold tq; rw [if_neg (by omega)]
          have q1 : tq s p9 l9 a9 b9 (n + 1) (a9 + n) = 0 := by
            unfold tq
            rw [e1]
            rw [if_neg (fun h => by have := h.2.2; rw [hcd (by omega)] at this; exact pwn1 _ haw _ hl (awy_ne hl) this)]
          have q2 := ps_upd (tq s p9 l9 a9 b9 n) (tq s p9 l9 a9 b9 (n + 1)) (a9 + n) (fun i hi => tq_st s p9 l9 a9 b9 n i hi) 400 (by omega)
          have q3 : (ps (tq s p9 l9 a9 b9 (n + 1)) 400) = (ps (tq s p9 l9 a9 b9 (n)) 400) + 0 := by omega
          have key := ih (n + 1) _ (by omega) (by omega) hN2 (by rw [e1]; exact (hn9 hak9).1) (fun q hq => (hw2 q hq).trans (hw1 q hq)) (fun j hj => by rw [e1, show a9 + (n + 1) = a9 + n + 1 by omega]; exact (hn9 hak9).2 j hj)
          rw [q3] at key
          exact key
        · refine rN_iinc (c := 1) (pq := 133) C dX11_travel_130 rfl (by decide) (by decide) rfl rfl ?_
          dsimp only [List.set]
          refine rN_iinc (c := 1) (pq := 136) C dX11_travel_133 rfl (by decide) (by decide) rfl rfl ?_
          dsimp only [List.set]
          refine r_goto (tg := 108) C dX11_travel_136 (by decide) ?_
          have hak9 : akp s (va_up (trR s p9 l9 a9 b9 (n)) (a9 + n) (2 ^ l9)) (a9 + n) b9 := b2_1.mp c127
          have e1 : trR s p9 l9 a9 b9 (n + 1) = va_up (trR s p9 l9 a9 b9 (n)) (a9 + n) (2 ^ l9) := if_pos hak9
          have q0 : tq s p9 l9 a9 b9 n (a9 + n) = 0 := by unfold tq; rw [if_neg (by omega)]
          have q1 : tq s p9 l9 a9 b9 (n + 1) (a9 + n) = 1 := by
            unfold tq
            rw [e1]
            rw [if_pos ⟨by omega, by omega, va_s _ _ _⟩]
          have q2 := ps_upd (tq s p9 l9 a9 b9 n) (tq s p9 l9 a9 b9 (n + 1)) (a9 + n) (fun i hi => tq_st s p9 l9 a9 b9 n i hi) 400 (by omega)
          have q3 : (ps (tq s p9 l9 a9 b9 (n + 1)) 400) = (ps (tq s p9 l9 a9 b9 (n)) 400) + 1 := by omega
          have key := ih (n + 1) _ (by omega) (by omega) hN2 (by rw [e1]; exact (hy hak9).1) (fun q hq => (hw2 q hq).trans (hw1 q hq)) (fun j hj => by rw [e1, show a9 + (n + 1) = a9 + n + 1 by omega]; exact (hy hak9).2 j hj)
          rw [q3] at key
          exact key
  have fin : ∀ (w1 : RW), NS (xE X) B s w1 → MD (xE X) B w1 (trR s p9 l9 a9 b9 0) → FR w w1 → (∀ j, j < s.1 16 → TRJ B s w1 (trR s p9 l9 a9 b9 0) a9 b9 j) → ∀ x7, GG X w1 0 0 102 [some (.ref (B 0)), some (.int (nI p9)), some (.int (nI l9)), some (.int (nI a9)), some (.int (nI b9)), some (.int (nI (2 ^ l9))), some (.int (nI (2 ^ (awy s p9 l9)))), x7, none] [] := by
    intro w1 hN1 hmd hw1 ha x7
    refine r_iconst (v := nI 0) (pq := 103) C dX11_travel_102 (by decide) rfl ?_
    refine r_istore (j := 7) (pq := 105) C dX11_travel_103 rfl (by decide) rfl rfl ?_
    dsimp only [List.set]
    refine r_iload_n (pq := 106) C dX11_travel_105 rfl rfl ?_
    refine r_istore (j := 8) (pq := 108) C dX11_travel_106 rfl (by decide) rfl rfl ?_
    dsimp only [List.set]
    have key := loop2 (b9 + 2 - a9) 0 w1 (by omega) (by omega) hN1 hmd hw1 ha
    rw [show (ps (tq s p9 l9 a9 b9 (0)) 400) = 0 from ps_zero (fun i _ => by unfold tq; rw [if_neg (by omega)])] at key
    exact key
  have loop1 : ∀ (t i : Nat) (w1 : RW), i ≤ s.1 16 → s.1 16 - i < t → NS (xE X) B s w1 → MD (xE X) B w1 (trR s p9 l9 a9 b9 0) → FR w w1 → (∀ j, j < i → TRJ B s w1 (trR s p9 l9 a9 b9 0) a9 b9 j) → GG X w1 0 0 50 [some (.ref (B 0)), some (.int (nI p9)), some (.int (nI l9)), some (.int (nI a9)), some (.int (nI b9)), some (.int (nI (2 ^ l9))), some (.int (nI (2 ^ (awy s p9 l9)))), some (.int (nI i)), none] [] := by
    intro t
    induction t with
    | zero => intro i w1 h1 h2; omega
    | succ t ih =>
      intro i w1 hi ht hN1 hmd hw1 ha
      have hNN := hN1
      obtain ⟨o0, ⟨u1, e1, f1⟩, ⟨u2, e2, f2⟩, ⟨u3, e3, f3⟩, ⟨u5, e5, f5⟩, ⟨u6, e6, f6⟩, ⟨u8, e8, f8⟩, ⟨u10, e10, f10⟩, ⟨u11, e11, f11⟩, ⟨u13, e13, f13⟩, ⟨u14, e14, f14⟩, ⟨u15, e15⟩, ⟨u16, e16⟩, h20, h30, h100, h200, h220, h240, h300, h310⟩ := hNN
      refine r_iload (pq := 52) C dX11_travel_50 rfl rfl ?_
      refine r_aload_n (pq := 53) C dX11_travel_52 rfl rfl ?_
      refine r_getf (pq := 56) C 8 o0 rfl (by decide) (by decide +kernel) (Or.inl rfl) rfl dX11_travel_53 rfl ?_
      refine rN_icmp_ge (tg := 102) (pq := 59) C dX11_travel_56 (by decide) rfl (by omega) (by omega) (fun c56 => ?_) (fun c56 => ?_)
      · have e9 : i = s.1 16 := by omega
        subst e9
        exact fin w1 hN1 hmd hw1 ha _
      · refine r_aload_n (pq := 60) C dX11_travel_59 rfl rfl ?_
        refine r_getf (pq := 63) C 7 o0 rfl (by decide) (by decide +kernel) (Or.inl rfl) rfl dX11_travel_60 rfl ?_
        refine r_iload (pq := 65) C dX11_travel_63 rfl rfl ?_
        refine rN_aaldS (pq := 66) C 5 rfl rfl e8 (by omega) (by decide) (f8 i c56) dX11_travel_65 rfl ?_
        have hlw := hS.2.2.2.2.2.2.1 i c56
        have hrc := rch_rng hlw
        obtain ⟨z9, hr⟩ := h200 i c56
        obtain ⟨x1, y1, hh⟩ := h220 i c56
        obtain ⟨x2, y2, he⟩ := h240 i c56
        obtain ⟨h8, m1, m2⟩ := hmd
        refine r_astore (j := 8) (pq := 68) C dX11_travel_66 rfl (by decide) rfl rfl ?_
        dsimp only [List.set]
        refine r_aload (pq := 70) C dX11_travel_68 rfl rfl ?_
        refine r_ifnull (pq := 73) C dX11_travel_70 rfl ?_
        refine r_aload (pq := 75) C dX11_travel_73 rfl rfl ?_
        refine r_aload_n (pq := 76) C dX11_travel_75 rfl rfl ?_
        refine r_getf (pq := 79) C 14 o0 rfl (by decide) (by decide +kernel) (Or.inl rfl) rfl dX11_travel_76 rfl ?_
        refine r_iload_n (pq := 80) C dX11_travel_79 rfl rfl ?_
        refine r_iconst (v := nI 1) (pq := 81) C dX11_travel_80 (by decide) rfl ?_
        refine r_isub (pq := 82) C dX11_travel_81 rfl ?_
        refine r_callW (pq := 85) C (mc_X9_lookAt (rr := 15) (rh := 220 + i) (c := (trR s p9 l9 a9 b9 0)) (e9 := a9) (lwC_W _) hlw.2.1 hrc.1 hrc.2 (by omega) m2 m1 hr hh (by omega) ha1) (lwC_W _) hr gX11_travel_X9_lookAt gX11_travel_X9_lookAt_u193X7 gX11_travel_X9_lookAt_u193X3 gX11_travel_X9_lookAt_u193X0 rfl rfl (na := 2) (by decide +kernel) (by decide +kernel) rfl (by decide) (by decide) (Nat.le_of_ble_eq_true rfl) ⟨Nat.zero_le _, Nat.zero_le _⟩ dX11_travel_82 rfl rfl (fun r9 w9 hq => ?_)
        obtain ⟨rfl, rfl⟩ := hq
        dsimp only [Option.toList, List.nil_append]
        refine r_aload (pq := 87) C dX11_travel_85 rfl rfl ?_
        refine r_aload_n (pq := 88) C dX11_travel_87 rfl rfl ?_
        refine r_getf (pq := 91) C 14 ((va_n _ _ (by omega)).trans o0) rfl (by decide) (by decide +kernel) (Or.inl rfl) rfl dX11_travel_88 rfl ?_
        refine r_iload (pq := 93) C dX11_travel_91 rfl rfl ?_
        refine r_callW (pq := 96) C (mc_X9_lookAtEnd (rr := 15) (re := 240 + i) (c := (trR s p9 l9 a9 b9 0)) (e9 := b9 + 1) (lwC_W _) hlw.2.1 hrc.1 hrc.2 (by omega) m2 ((va_n _ _ (by omega)).trans m1) ((va_n _ _ (by omega)).trans hr) (by omega) (by omega) ((va_n _ _ (by omega)).trans he) (by omega) (by rw [nI_toInt (by omega)]; omega)) (lwC_W _) ((va_n _ _ (by omega)).trans hr) gX11_travel_X9_lookAtEnd gX11_travel_X9_lookAtEnd_u232X7 gX11_travel_X9_lookAtEnd_u232X3 gX11_travel_X9_lookAtEnd_u232X0 rfl rfl (na := 2) (by decide +kernel) (by decide +kernel) rfl (by decide) (by decide) (Nat.le_of_ble_eq_true rfl) ⟨Nat.zero_le _, Nat.zero_le _⟩ dX11_travel_93 rfl rfl (fun r9 w9 hq => ?_)
        obtain ⟨rfl, rfl⟩ := hq
        dsimp only [Option.toList, List.nil_append]
        refine rN_iinc (c := 1) (pq := 99) C dX11_travel_96 rfl (by decide) (by decide) rfl rfl ?_
        dsimp only [List.set]
        refine r_goto (tg := 50) C dX11_travel_99 (by decide) ?_
        refine GG.fgt 8 ?_
        dsimp only [List.set]
        have i1 : (nI (rch s i)).toInt = rch s i := nI_toInt (by omega)
        have i2 : (nI 1).toInt = 1 := nI_toInt (by omega)
        have i0 : (nI b9).toInt = b9 := nI_toInt (by omega)
        have i3 : (nI b9 - nI (rch s i)).toInt = b9 - rch s i := by rw [fb_subI (by omega) (by omega), i0, i1]
        have i4 : (nI b9 - nI (rch s i) + nI 1).toInt = (b9 : Int) + 1 - rch s i := by rw [fb_addI (by omega) (by omega), i3, i2]; omega
        refine ih (i + 1) _ (by omega) (by omega) (NS.s240 (NS.s200 (NS.s220 hN1 hI16 hI5 c56 _ _) hI16 hI5 c56 _) hI16 hI5 c56 _ _) ⟨h8, ((va_n _ _ (by omega)).trans ((va_n _ _ (by omega)).trans (va_n _ _ (by omega)))).trans m1, m2⟩ (fun q hq => ((va_n _ _ (by omega)).trans ((va_n _ _ (by omega)).trans (va_n _ _ (by omega)))).trans (hw1 q hq)) (fun j hj => ?_)
        by_cases e : j = i
        · subst e
          exact ⟨⟨_, (va_n _ _ (by omega)).trans (va_s _ _ _), i4⟩, (va_n _ _ (by omega)).trans ((va_n _ _ (by omega)).trans (va_s _ _ _)), va_s _ _ _⟩
        · exact (ha j (by omega)).keep ((va_n _ _ (by omega)).trans ((va_n _ _ (by omega)).trans (va_n _ _ (by omega)))) ((va_n _ _ (by omega)).trans ((va_n _ _ (by omega)).trans (va_n _ _ (by omega)))) ((va_n _ _ (by omega)).trans ((va_n _ _ (by omega)).trans (va_n _ _ (by omega))))
  have hNN := hN
  obtain ⟨o0, ⟨u1, e1, f1⟩, ⟨u2, e2, f2⟩, ⟨u3, e3, f3⟩, ⟨u5, e5, f5⟩, ⟨u6, e6, f6⟩, ⟨u8, e8, f8⟩, ⟨u10, e10, f10⟩, ⟨u11, e11, f11⟩, ⟨u13, e13, f13⟩, ⟨u14, e14, f14⟩, ⟨u15, e15⟩, ⟨u16, e16⟩, h20, h30, h100, h200, h220, h240, h300, h310⟩ := hNN
  obtain ⟨h9, a1, a2⟩ := h20 p9 (by omega)
  refine r_iconst (v := nI 1) (pq := 1) C dX11_travel_0 (by decide) rfl ?_
  refine r_iload_n (pq := 2) C dX11_travel_1 rfl rfl ?_
  refine rN_ishl (pq := 3) C dX11_travel_2 (by omega) (by omega) rfl ?_
  rw [Nat.one_mul]
  refine r_istore (j := 5) (pq := 5) C dX11_travel_3 rfl (by decide) rfl rfl ?_
  dsimp only [List.set]
  refine r_iconst (v := nI 1) (pq := 6) C dX11_travel_5 (by decide) rfl ?_
  refine r_aload_n (pq := 7) C dX11_travel_6 rfl rfl ?_
  refine r_iload_n (pq := 8) C dX11_travel_7 rfl rfl ?_
  refine r_iload_n (pq := 9) C dX11_travel_8 rfl rfl ?_
  refine r_callV (pq := 12) C (mc_X11_landOfRest hS hN hp hl) o0 rfl gX11_travel_X11_landOfRest rfl (na := 2) (by decide +kernel) rfl (by decide) (by decide) (Nat.le_of_ble_eq_true rfl) ⟨Nat.zero_le _, Nat.zero_le _⟩ dX11_travel_9 rfl rfl (fun r9 w hq => ?_)
  obtain ⟨rfl, rfl⟩ := hq
  dsimp only [Option.toList, List.cons_append, List.nil_append]
  refine rN_ishl (pq := 13) C dX11_travel_12 (by omega) (by omega) rfl ?_
  rw [Nat.one_mul]
  refine r_istore (j := 6) (pq := 15) C dX11_travel_13 rfl (by decide) rfl rfl ?_
  dsimp only [List.set]
  refine r_aload_n (pq := 16) C dX11_travel_15 rfl rfl ?_
  refine r_getf (pq := 19) C 4 o0 rfl (by decide) (by decide +kernel) (Or.inl rfl) rfl dX11_travel_16 rfl ?_
  refine r_iload_n (pq := 20) C dX11_travel_19 rfl rfl ?_
  refine rN_aaldS (pq := 21) C 8 rfl rfl e5 (by omega) (by decide) (f5 p9 (by omega)) dX11_travel_20 rfl ?_
  refine r_iconst (v := nI 0) (pq := 22) C dX11_travel_21 (by decide) rfl ?_
  refine r_aload_n (pq := 23) C dX11_travel_22 rfl rfl ?_
  refine r_getf (pq := 26) C 14 o0 rfl (by decide) (by decide +kernel) (Or.inl rfl) rfl dX11_travel_23 rfl ?_
  refine r_iconst (v := nI 0) (pq := 27) C dX11_travel_26 (by decide) rfl ?_
  refine r_sipush (v := nI 400) (pq := 30) C dX11_travel_27 (by decide) rfl ?_
  refine r_copy (pq := 33) C (by decide +kernel) (by decide +kernel) (by decide +kernel) (by decide +kernel) (20 + p9) 15 0 a1 e15 rfl rfl ⟨by decide, by decide⟩ (by decide) (by decide) (fun i _ => rfl) (by decide) (Nat.le_of_ble_eq_true rfl) dX11_travel_30 rfl ?_
  refine r_aload_n (pq := 34) C dX11_travel_33 rfl rfl ?_
  refine r_getf (pq := 37) C 14 ((va_n _ _ (by decide)).trans o0) rfl (by decide) (by decide +kernel) (Or.inl rfl) rfl dX11_travel_34 rfl ?_
  refine r_iload_n (pq := 38) C dX11_travel_37 rfl rfl ?_
  refine r_iload (pq := 40) C dX11_travel_38 rfl rfl ?_
  refine r_iconst (v := nI 1) (pq := 41) C dX11_travel_40 (by decide) rfl ?_
  refine rN_iadd (pq := 42) C dX11_travel_41 rfl ?_
  refine r_iload (pq := 44) C dX11_travel_42 rfl rfl ?_
  refine r_callS (pq := 47) C (mc_J7_fill_fda19 (by decide) (by omega) (by omega) (va_s _ _ _)) gX11_travel_J7_fill_fda19 rfl (na := 4) (by decide +kernel) rfl (by decide) (by decide) (Nat.le_of_ble_eq_true rfl) ⟨Nat.zero_le _, Nat.zero_le _⟩ dX11_travel_44 rfl rfl (fun r9 w9 hq => ?_)
  obtain ⟨rfl, rfl⟩ := hq
  dsimp only [Option.toList, List.nil_append]
  refine GG.cast (bx_uu _ _ _ _) ?_
  refine r_iconst (v := nI 0) (pq := 48) C dX11_travel_47 (by decide) rfl ?_
  refine r_istore (j := 7) (pq := 50) C dX11_travel_48 rfl (by decide) rfl rfl ?_
  dsimp only [List.set]
  refine loop1 (s.1 16 + 1) 0 _ (Nat.zero_le _) (by omega) (NS.s15 hN _) ⟨_, va_s _ _ _, fun i hi => ⟨?_, trR_ok hS hp hl i⟩⟩ (fun q hq => va_n _ _ (by omega)) (fun j h => absurd h (by omega))
  unfold fil va_cpy trR
  by_cases q : a9 ≤ i ∧ i ≤ b9
  · rw [if_pos (by omega), if_pos q]
  · rw [if_neg (by omega), if_neg q, if_pos (by omega), show 0 + (i - 0) = i by omega]
    exact a2 hp i hi

set_option maxHeartbeats 4000000 in
set_option maxRecDepth 100000 in
/-- free -/
theorem mc_X11_free {l : Launch} {E : EV} {w : RW} {B : Nat → Nat} {s : ST} (hS : SI s) (hN : NS E B s w) {x y v u : Int32} : MC l E yX11_free wsX11_free 5 0 0 [.ref (B 0), .int x, .int y, .int v, .int u] (w) (nP E B w (rs_free s x y v u) (s)) := by
  refine MC.enter (cc := cX11_free) (maxL := 5) (ret := (some .int)) (lv0 := [some (.ref (B 0)), some (.int x), some (.int y), some (.int v), some (.int u)]) (by decide) rfl (by simp [Value.category]) (Nat.le_of_ble_eq_true rfl) rfl ?_
  intro X hl hE C D
  subst hl
  subst hE
  have hI1 : s.1 1 ≤ 6 := hS.2.1
  have hI5 : s.1 5 ≤ 80 := hS.2.2.1
  have hI16 : s.1 16 ≤ 12 := hS.2.2.2.1
  have hNN := hN
  obtain ⟨o0, ⟨u1, e1, f1⟩, ⟨u2, e2, f2⟩, ⟨u3, e3, f3⟩, ⟨u5, e5, f5⟩, ⟨u6, e6, f6⟩, ⟨u8, e8, f8⟩, ⟨u10, e10, f10⟩, ⟨u11, e11, f11⟩, ⟨u13, e13, f13⟩, ⟨u14, e14, f14⟩, ⟨u15, e15⟩, ⟨u16, e16⟩, h20, h30, h100, h200, h220, h240, h300, h310⟩ := hNN
  by_cases hok : okNights s x y v u
  · obtain ⟨p, hp, rfl⟩ := rg_of hok.1 (by omega)
    obtain ⟨l9, hl9, rfl⟩ := rg_of hok.2.1 (by omega)
    obtain ⟨a, ha, rfl⟩ := rg_of hok.2.2.1 (by omega)
    obtain ⟨b, hb, rfl⟩ := rg_of hok.2.2.2.1 (by omega)
    have hab := hok.2.2.2.2
    rw [nI_toInt (by omega), nI_toInt (by omega)] at hab
    refine r_aload_n (pq := 1) C dX11_free_0 rfl rfl ?_
    refine r_iload_n (pq := 2) C dX11_free_1 rfl rfl ?_
    refine r_callV (pq := 5) C (mc_X11_isPerson hI1 o0) o0 rfl gX11_free_X11_isPerson rfl (na := 1) (by decide +kernel) rfl (by decide) (by decide) (Nat.le_of_ble_eq_true rfl) ⟨Nat.zero_le _, Nat.zero_le _⟩ dX11_free_2 rfl rfl (fun r9 w hq => ?_)
    obtain ⟨rfl, rfl⟩ := hq
    dsimp only [Option.toList, List.cons_append, List.nil_append]
    have l2 := b2_lt (rg (nI p) (s.1 1))
    refine rN_if_eq (tg := 24) (pq := 8) C dX11_free_5 (by decide) rfl (by omega) (fun c5 => absurd c5 (b2_1.mpr (hok.1))) (fun c5 => ?_)
    refine r_iload_n (pq := 9) C dX11_free_8 rfl rfl ?_
    refine r_callS (pq := 12) C (mc_X11_isLand) gX11_free_X11_isLand rfl (na := 1) (by decide +kernel) rfl (by decide) (by decide) (Nat.le_of_ble_eq_true rfl) ⟨Nat.zero_le _, Nat.zero_le _⟩ dX11_free_9 rfl rfl (fun r9 w hq => ?_)
    obtain ⟨rfl, rfl⟩ := hq
    dsimp only [Option.toList, List.cons_append, List.nil_append]
    have l9x := b2_lt (rg (nI l9) 8)
    refine rN_if_eq (tg := 24) (pq := 15) C dX11_free_12 (by decide) rfl (by omega) (fun c12 => absurd c12 (b2_1.mpr (hok.2.1))) (fun c12 => ?_)
    refine r_iload_n (pq := 16) C dX11_free_15 rfl rfl ?_
    refine r_iload (pq := 18) C dX11_free_16 rfl rfl ?_
    refine r_callS (pq := 21) C (mc_X11_areDays) gX11_free_X11_areDays rfl (na := 2) (by decide +kernel) rfl (by decide) (by decide) (Nat.le_of_ble_eq_true rfl) ⟨Nat.zero_le _, Nat.zero_le _⟩ dX11_free_18 rfl rfl (fun r9 w hq => ?_)
    obtain ⟨rfl, rfl⟩ := hq
    dsimp only [Option.toList, List.cons_append, List.nil_append]
    have l18 := b2_lt (okDays (nI a) (nI b))
    refine rN_if_ne (tg := 26) (pq := 24) C dX11_free_21 (by decide) rfl (by omega) (fun c21 => ?_) (fun c21 => absurd c21 (b2_1.mpr (hok.2.2)))
    refine r_aload_n (pq := 27) C dX11_free_26 rfl rfl ?_
    refine r_iload_n (pq := 28) C dX11_free_27 rfl rfl ?_
    refine r_iload_n (pq := 29) C dX11_free_28 rfl rfl ?_
    refine r_iload_n (pq := 30) C dX11_free_29 rfl rfl ?_
    refine r_iload (pq := 32) C dX11_free_30 rfl rfl ?_
    refine r_callV (pq := 35) C (mc_X11_travel hS hN hp hl9 (by omega) hb) o0 rfl gX11_free_X11_travel rfl (na := 4) (by decide +kernel) rfl (by decide) (by decide) (Nat.le_of_ble_eq_true rfl) ⟨Nat.zero_le _, Nat.zero_le _⟩ dX11_free_32 rfl rfl (fun r9 w2 hq => ?_)
    obtain ⟨rfl, hN2, hM2, hw2⟩ := hq
    dsimp only [Option.toList, List.cons_append, List.nil_append]
    refine r_iret C D rfl ⟨Nat.le_refl _, Nat.le_refl _⟩ dX11_free_35 ?_
    refine ⟨?_, hw2, B, rfl, hN2⟩
    unfold rs_free
    rw [if_pos hok, tn_nI (by omega), tn_nI (by omega), tn_nI (by omega), tn_nI (by omega)]
  · have hbad := hok
    refine r_aload_n (pq := 1) C dX11_free_0 rfl rfl ?_
    refine r_iload_n (pq := 2) C dX11_free_1 rfl rfl ?_
    refine r_callV (pq := 5) C (mc_X11_isPerson hI1 o0) o0 rfl gX11_free_X11_isPerson rfl (na := 1) (by decide +kernel) rfl (by decide) (by decide) (Nat.le_of_ble_eq_true rfl) ⟨Nat.zero_le _, Nat.zero_le _⟩ dX11_free_2 rfl rfl (fun r9 w hq => ?_)
    obtain ⟨rfl, rfl⟩ := hq
    dsimp only [Option.toList, List.cons_append, List.nil_append]
    have l2 := b2_lt (rg x (s.1 1))
    refine rN_if_eq (tg := 24) (pq := 8) C dX11_free_5 (by decide) rfl (by omega) (fun c5 => ?_) (fun c5 => ?_)
    · refine r_iconst (v := (-1)) (pq := 25) C dX11_free_24 (by decide) rfl ?_
      refine r_iret C D rfl ⟨Nat.le_refl _, Nat.le_refl _⟩ dX11_free_25 ?_
      refine ⟨?_, fun _ _ => rfl, B, rfl, ?_⟩
      · unfold rs_free
        rw [if_neg hbad]
      · exact hN
    · refine r_iload_n (pq := 9) C dX11_free_8 rfl rfl ?_
      refine r_callS (pq := 12) C (mc_X11_isLand) gX11_free_X11_isLand rfl (na := 1) (by decide +kernel) rfl (by decide) (by decide) (Nat.le_of_ble_eq_true rfl) ⟨Nat.zero_le _, Nat.zero_le _⟩ dX11_free_9 rfl rfl (fun r9 w hq => ?_)
      obtain ⟨rfl, rfl⟩ := hq
      dsimp only [Option.toList, List.cons_append, List.nil_append]
      have l9 := b2_lt (rg y 8)
      refine rN_if_eq (tg := 24) (pq := 15) C dX11_free_12 (by decide) rfl (by omega) (fun c12 => ?_) (fun c12 => ?_)
      · refine r_iconst (v := (-1)) (pq := 25) C dX11_free_24 (by decide) rfl ?_
        refine r_iret C D rfl ⟨Nat.le_refl _, Nat.le_refl _⟩ dX11_free_25 ?_
        refine ⟨?_, fun _ _ => rfl, B, rfl, ?_⟩
        · unfold rs_free
          rw [if_neg hbad]
        · exact hN
      · refine r_iload_n (pq := 16) C dX11_free_15 rfl rfl ?_
        refine r_iload (pq := 18) C dX11_free_16 rfl rfl ?_
        refine r_callS (pq := 21) C (mc_X11_areDays) gX11_free_X11_areDays rfl (na := 2) (by decide +kernel) rfl (by decide) (by decide) (Nat.le_of_ble_eq_true rfl) ⟨Nat.zero_le _, Nat.zero_le _⟩ dX11_free_18 rfl rfl (fun r9 w hq => ?_)
        obtain ⟨rfl, rfl⟩ := hq
        dsimp only [Option.toList, List.cons_append, List.nil_append]
        have l18 := b2_lt (okDays v u)
        refine rN_if_ne (tg := 26) (pq := 24) C dX11_free_21 (by decide) rfl (by omega) (fun c21 => ?_) (fun c21 => ?_)
        · exact absurd ⟨b2_1.mp c5, b2_1.mp c12, b2_1.mp c21⟩ hbad
        · refine r_iconst (v := (-1)) (pq := 25) C dX11_free_24 (by decide) rfl ?_
          refine r_iret C D rfl ⟨Nat.le_refl _, Nat.le_refl _⟩ dX11_free_25 ?_
          refine ⟨?_, fun _ _ => rfl, B, rfl, ?_⟩
          · unfold rs_free
            rw [if_neg hbad]
          · exact hN

theorem tk_out {s : ST} {p l a b i : Nat} (h : i < a ∨ b < i) : tk s p l a b i = 0 := by unfold tk; rw [if_neg (by omega)]
theorem tk_le (s : ST) (p l a b i : Nat) : tk s p l a b i ≤ 1 := by unfold tk; split <;> omega
theorem ps_tail {h : Nat → Nat} {b : Nat} (hb : ∀ i, b < i → h i = 0) : ∀ k, ps h (b + 1 + k) = ps h (b + 1)
  | 0 => rfl
  | k + 1 => by
    rw [show b + 1 + (k + 1) = (b + 1 + k) + 1 by omega]
    show ps h (b + 1 + k) + h (b + 1 + k) = _
    rw [ps_tail hb k, hb _ (by omega), Nat.add_zero]

set_option maxHeartbeats 4000000 in
set_option maxRecDepth 100000 in
/-- trip -/
theorem mc_X11_trip {l : Launch} {E : EV} {w : RW} {B : Nat → Nat} {s : ST} (hS : SI s) (hN : NS E B s w) {x y v u z : Int32} : MC l E yX11_trip wsX11_trip 5 0 0 [.ref (B 0), .int x, .int y, .int v, .int u, .int z] (w) (nP E B w (rs_trip s x y v u z) (s)) := by
  refine MC.enter (cc := cX11_trip) (maxL := 8) (ret := (some .int)) (lv0 := [some (.ref (B 0)), some (.int x), some (.int y), some (.int v), some (.int u), some (.int z), none, none]) (by decide) rfl (by simp [Value.category]) (Nat.le_of_ble_eq_true rfl) rfl ?_
  intro X hl hE C D
  subst hl
  subst hE
  have hI1 : s.1 1 ≤ 6 := hS.2.1
  have hI5 : s.1 5 ≤ 80 := hS.2.2.1
  have hI16 : s.1 16 ≤ 12 := hS.2.2.2.1
  have hNN := hN
  obtain ⟨o0, ⟨u1, e1, f1⟩, ⟨u2, e2, f2⟩, ⟨u3, e3, f3⟩, ⟨u5, e5, f5⟩, ⟨u6, e6, f6⟩, ⟨u8, e8, f8⟩, ⟨u10, e10, f10⟩, ⟨u11, e11, f11⟩, ⟨u13, e13, f13⟩, ⟨u14, e14, f14⟩, ⟨u15, e15⟩, ⟨u16, e16⟩, h20, h30, h100, h200, h220, h240, h300, h310⟩ := hNN
  by_cases hok : okNights s x y v u ∧ 0 ≤ z.toInt
  · obtain ⟨p, hp, rfl⟩ := rg_of hok.1.1 (by omega)
    obtain ⟨l9, hl9, rfl⟩ := rg_of hok.1.2.1 (by omega)
    obtain ⟨a, ha, rfl⟩ := rg_of hok.1.2.2.1 (by omega)
    obtain ⟨b, hb, rfl⟩ := rg_of hok.1.2.2.2.1 (by omega)
    have hab := hok.1.2.2.2.2
    rw [nI_toInt (by omega), nI_toInt (by omega)] at hab
    obtain ⟨i9, hi2, rfl⟩ : ∃ t : Nat, t < 2147483648 ∧ z = nI t := nI_of (fun h => by rw [lt_i] at h; have e0 : (0 : Int32).toInt = 0 := rfl; have := hok.2; omega)
    refine r_aload_n (pq := 1) C dX11_trip_0 rfl rfl ?_
    refine r_iload_n (pq := 2) C dX11_trip_1 rfl rfl ?_
    refine r_callV (pq := 5) C (mc_X11_isPerson hI1 o0) o0 rfl gX11_trip_X11_isPerson rfl (na := 1) (by decide +kernel) rfl (by decide) (by decide) (Nat.le_of_ble_eq_true rfl) ⟨Nat.zero_le _, Nat.zero_le _⟩ dX11_trip_2 rfl rfl (fun r9 w hq => ?_)
    obtain ⟨rfl, rfl⟩ := hq
    dsimp only [Option.toList, List.cons_append, List.nil_append]
    have l2 := b2_lt (rg (nI p) (s.1 1))
    refine rN_if_eq (tg := 29) (pq := 8) C dX11_trip_5 (by decide) rfl (by omega) (fun c5 => absurd c5 (b2_1.mpr hok.1.1)) (fun c5 => ?_)
    refine r_iload_n (pq := 9) C dX11_trip_8 rfl rfl ?_
    refine r_callS (pq := 12) C (mc_X11_isLand) gX11_trip_X11_isLand rfl (na := 1) (by decide +kernel) rfl (by decide) (by decide) (Nat.le_of_ble_eq_true rfl) ⟨Nat.zero_le _, Nat.zero_le _⟩ dX11_trip_9 rfl rfl (fun r9 w hq => ?_)
    obtain ⟨rfl, rfl⟩ := hq
    dsimp only [Option.toList, List.cons_append, List.nil_append]
    have l9x := b2_lt (rg (nI l9) 8)
    refine rN_if_eq (tg := 29) (pq := 15) C dX11_trip_12 (by decide) rfl (by omega) (fun c12 => absurd c12 (b2_1.mpr hok.1.2.1)) (fun c12 => ?_)
    refine r_iload_n (pq := 16) C dX11_trip_15 rfl rfl ?_
    refine r_iload (pq := 18) C dX11_trip_16 rfl rfl ?_
    refine r_callS (pq := 21) C (mc_X11_areDays) gX11_trip_X11_areDays rfl (na := 2) (by decide +kernel) rfl (by decide) (by decide) (Nat.le_of_ble_eq_true rfl) ⟨Nat.zero_le _, Nat.zero_le _⟩ dX11_trip_18 rfl rfl (fun r9 w hq => ?_)
    obtain ⟨rfl, rfl⟩ := hq
    dsimp only [Option.toList, List.cons_append, List.nil_append]
    have l18 := b2_lt (okDays (nI a) (nI b))
    refine rN_if_eq (tg := 29) (pq := 24) C dX11_trip_21 (by decide) rfl (by omega) (fun c21 => absurd c21 (b2_1.mpr hok.1.2.2)) (fun c21 => ?_)
    refine r_iload (pq := 26) C dX11_trip_24 rfl rfl ?_
    refine rN_if_ge (tg := 31) (pq := 29) C dX11_trip_26 (by decide) rfl (by omega) ?_
    refine r_aload_n (pq := 32) C dX11_trip_31 rfl rfl ?_
    refine r_iload_n (pq := 33) C dX11_trip_32 rfl rfl ?_
    refine r_iload_n (pq := 34) C dX11_trip_33 rfl rfl ?_
    refine r_iload_n (pq := 35) C dX11_trip_34 rfl rfl ?_
    refine r_iload (pq := 37) C dX11_trip_35 rfl rfl ?_
    refine r_callV (pq := 40) C (mc_X11_travel hS hN hp hl9 (by omega) hb) o0 rfl gX11_trip_X11_travel rfl (na := 4) (by decide +kernel) rfl (by decide) (by decide) (Nat.le_of_ble_eq_true rfl) ⟨Nat.zero_le _, Nat.zero_le _⟩ dX11_trip_37 rfl rfl (fun r9 w2 hq => ?_)
    obtain ⟨rfl, hN2, ⟨h8, m1, m2⟩, hw2⟩ := hq
    dsimp only [Option.toList, List.cons_append, List.nil_append]
    refine r_pop (pq := 41) C dX11_trip_40 rfl rfl ?_
    refine r_iconst (v := nI 0) (pq := 42) C dX11_trip_41 (by decide) rfl ?_
    refine r_istore (j := 6) (pq := 44) C dX11_trip_42 rfl (by decide) rfl rfl ?_
    dsimp only [List.set]
    have loop : ∀ (t e : Nat), a ≤ e → e ≤ b + 1 → b + 1 - e < t → sl (tk s p l9 a b) a e ≤ i9 → ith (tk s p l9 a b) 400 i9 a = ith (tk s p l9 a b) (400 - (e - a)) (i9 - sl (tk s p l9 a b) a e) e → GG X w2 0 0 47 [some (.ref (B 0)), some (.int (nI p)), some (.int (nI l9)), some (.int (nI a)), some (.int (nI b)), some (.int (nI i9)), some (.int (nI (sl (tk s p l9 a b) a e))), some (.int (nI e))] [] := by
      intro t
      induction t with
      | zero => intro e h1 h2 h3; omega
      | succ t ih =>
        intro e hae he ht hle hith
        have hpl := pw8 hl9
        have hsl := sl_le (tk_le s p l9 a b) a e
        refine r_iload (pq := 49) C dX11_trip_47 rfl rfl ?_
        refine r_iload (pq := 51) C dX11_trip_49 rfl rfl ?_
        refine rN_icmp_gt (tg := 86) (pq := 54) C dX11_trip_51 (by decide) rfl (by omega) (by omega) (fun c51 => ?_) (fun c51 => ?_)
        · refine r_bipush (v := (-2)) (pq := 88) C dX11_trip_86 (by decide) rfl ?_
          refine r_iret C D rfl ⟨Nat.le_refl _, Nat.le_refl _⟩ dX11_trip_88 ?_
          refine ⟨?_, hw2, B, rfl, hN2⟩
          unfold rs_trip
          rw [if_pos hok, tn_nI (by omega), tn_nI (by omega), tn_nI (by omega), tn_nI (by omega), tn_nI hi2]
          have e9 : e = b + 1 := by omega
          subst e9
          have t1 := ps_tail (h := (tk s p l9 a b)) (b := b) (fun i hi => tk_out (Or.inr hi)) (400 - (b + 1))
          rw [show b + 1 + (400 - (b + 1)) = 400 by omega] at t1
          have t2 : ps (tk s p l9 a b) a = 0 := ps_zero (fun i hi => tk_out (Or.inl hi))
          unfold sl at *
          rw [if_pos (by omega)]
        · refine r_aload_n (pq := 55) C dX11_trip_54 rfl rfl ?_
          refine r_getf (pq := 58) C 14 hN2.1 rfl (by decide) (by decide +kernel) (Or.inl rfl) rfl dX11_trip_55 rfl ?_
          refine r_iload (pq := 60) C dX11_trip_58 rfl rfl ?_
          refine rN_iald (pq := 61) C m1 (by omega) (by decide) dX11_trip_60 rfl ?_
          refine r_at (m2 e (by omega)).1 ?_
          have m3 := (m2 e (by omega)).2
          refine r_iconst (v := nI 1) (pq := 62) C dX11_trip_61 (by decide) rfl ?_
          refine r_iload_n (pq := 63) C dX11_trip_62 rfl rfl ?_
          refine rN_ishl (pq := 64) C dX11_trip_63 (by omega) (by omega) rfl ?_
          rw [Nat.one_mul]
          refine rN_icmp_ne (tg := 80) (pq := 67) C dX11_trip_64 (by decide) rfl (by omega) (by omega) (fun c64 => ?_) (fun c64 => ?_)
          · refine rN_iinc (c := 1) (pq := 83) C dX11_trip_80 rfl (by decide) (by decide) rfl rfl ?_
            dsimp only [List.set]
            refine r_goto (tg := 47) C dX11_trip_83 (by decide) ?_
            have t1 : (tk s p l9 a b) e = 0 := by unfold tk; rw [if_neg (fun h => c64 h.2.2)]
            have t3 := sl_s (tk s p l9 a b) hae
            have key := ih (e + 1) (by omega) (by omega) (by omega) (by omega) (by
              rw [hith, show 400 - (e - a) = (400 - (e + 1 - a)) + 1 by omega]
              show (if (tk s p l9 a b) e = 0 then _ else _) = _
              rw [if_pos t1, t3, t1]
              rfl)
            rw [t3, t1, Nat.add_zero] at key
            exact key
          · refine r_iload (pq := 69) C dX11_trip_67 rfl rfl ?_
            refine r_iload (pq := 71) C dX11_trip_69 rfl rfl ?_
            refine rN_icmp_ne (tg := 77) (pq := 74) C dX11_trip_71 (by decide) rfl (by omega) (by omega) (fun c71 => ?_) (fun c71 => ?_)
            · refine rN_iinc (c := 1) (pq := 80) C dX11_trip_77 rfl (by decide) (by decide) rfl rfl ?_
              dsimp only [List.set]
              refine rN_iinc (c := 1) (pq := 83) C dX11_trip_80 rfl (by decide) (by decide) rfl rfl ?_
              dsimp only [List.set]
              refine r_goto (tg := 47) C dX11_trip_83 (by decide) ?_
              have t1 : (tk s p l9 a b) e = 1 := by unfold tk; rw [if_pos ⟨hae, by omega, c64⟩]
              have t3 := sl_s (tk s p l9 a b) hae
              have key := ih (e + 1) (by omega) (by omega) (by omega) (by omega) (by
                rw [hith, show 400 - (e - a) = (400 - (e + 1 - a)) + 1 by omega]
                show (if (tk s p l9 a b) e = 0 then _ else if i9 - sl (tk s p l9 a b) a e = 0 then _ else _) = _
                rw [if_neg (by omega), if_neg (by omega), t3, t1]
                rfl)
              rw [t3, t1] at key
              exact key
            · refine r_iload (pq := 76) C dX11_trip_74 rfl rfl ?_
              refine r_iret C D rfl ⟨Nat.le_refl _, Nat.le_refl _⟩ dX11_trip_76 ?_
              refine ⟨?_, hw2, B, rfl, hN2⟩
              unfold rs_trip
              rw [if_pos hok, tn_nI (by omega), tn_nI (by omega), tn_nI (by omega), tn_nI (by omega), tn_nI hi2]
              have t1 : (tk s p l9 a b) e = 1 := by unfold tk; rw [if_pos ⟨hae, by omega, c64⟩]
              have t2 := ps_mono (tk s p l9 a b) (show e + 1 ≤ 400 by omega)
              have t3 := sl_s (tk s p l9 a b) hae
              unfold sl at *
              rw [if_neg (by omega), hith, show 400 - (e - a) = (399 - (e - a)) + 1 by omega, show i9 - (ps (tk s p l9 a b) e - ps (tk s p l9 a b) a) = 0 by omega]
              unfold ith
              rw [if_neg (by omega), if_pos rfl]
    refine r_iload_n (pq := 45) C dX11_trip_44 rfl rfl ?_
    refine r_istore (j := 7) (pq := 47) C dX11_trip_45 rfl (by decide) rfl rfl ?_
    dsimp only [List.set]
    have key := loop (402 - a) a (Nat.le_refl _) (by omega) (by omega) (by rw [sl_0]; omega) (by rw [sl_0, Nat.sub_zero, Nat.sub_self])
    rw [sl_0] at key
    exact key
  · have hbad := hok
    refine r_aload_n (pq := 1) C dX11_trip_0 rfl rfl ?_
    refine r_iload_n (pq := 2) C dX11_trip_1 rfl rfl ?_
    refine r_callV (pq := 5) C (mc_X11_isPerson hI1 o0) o0 rfl gX11_trip_X11_isPerson rfl (na := 1) (by decide +kernel) rfl (by decide) (by decide) (Nat.le_of_ble_eq_true rfl) ⟨Nat.zero_le _, Nat.zero_le _⟩ dX11_trip_2 rfl rfl (fun r9 w hq => ?_)
    obtain ⟨rfl, rfl⟩ := hq
    dsimp only [Option.toList, List.cons_append, List.nil_append]
    have l2 := b2_lt (rg x (s.1 1))
    refine rN_if_eq (tg := 29) (pq := 8) C dX11_trip_5 (by decide) rfl (by omega) (fun c5 => ?_) (fun c5 => ?_)
    · refine r_iconst (v := (-1)) (pq := 30) C dX11_trip_29 (by decide) rfl ?_
      refine r_iret C D rfl ⟨Nat.le_refl _, Nat.le_refl _⟩ dX11_trip_30 ?_
      refine ⟨?_, fun _ _ => rfl, B, rfl, ?_⟩
      · unfold rs_trip
        rw [if_neg hbad]
      · exact hN
    · refine r_iload_n (pq := 9) C dX11_trip_8 rfl rfl ?_
      refine r_callS (pq := 12) C (mc_X11_isLand) gX11_trip_X11_isLand rfl (na := 1) (by decide +kernel) rfl (by decide) (by decide) (Nat.le_of_ble_eq_true rfl) ⟨Nat.zero_le _, Nat.zero_le _⟩ dX11_trip_9 rfl rfl (fun r9 w hq => ?_)
      obtain ⟨rfl, rfl⟩ := hq
      dsimp only [Option.toList, List.cons_append, List.nil_append]
      have l9 := b2_lt (rg y 8)
      refine rN_if_eq (tg := 29) (pq := 15) C dX11_trip_12 (by decide) rfl (by omega) (fun c12 => ?_) (fun c12 => ?_)
      · refine r_iconst (v := (-1)) (pq := 30) C dX11_trip_29 (by decide) rfl ?_
        refine r_iret C D rfl ⟨Nat.le_refl _, Nat.le_refl _⟩ dX11_trip_30 ?_
        refine ⟨?_, fun _ _ => rfl, B, rfl, ?_⟩
        · unfold rs_trip
          rw [if_neg hbad]
        · exact hN
      · refine r_iload_n (pq := 16) C dX11_trip_15 rfl rfl ?_
        refine r_iload (pq := 18) C dX11_trip_16 rfl rfl ?_
        refine r_callS (pq := 21) C (mc_X11_areDays) gX11_trip_X11_areDays rfl (na := 2) (by decide +kernel) rfl (by decide) (by decide) (Nat.le_of_ble_eq_true rfl) ⟨Nat.zero_le _, Nat.zero_le _⟩ dX11_trip_18 rfl rfl (fun r9 w hq => ?_)
        obtain ⟨rfl, rfl⟩ := hq
        dsimp only [Option.toList, List.cons_append, List.nil_append]
        have l18 := b2_lt (okDays v u)
        refine rN_if_eq (tg := 29) (pq := 24) C dX11_trip_21 (by decide) rfl (by omega) (fun c21 => ?_) (fun c21 => ?_)
        · refine r_iconst (v := (-1)) (pq := 30) C dX11_trip_29 (by decide) rfl ?_
          refine r_iret C D rfl ⟨Nat.le_refl _, Nat.le_refl _⟩ dX11_trip_30 ?_
          refine ⟨?_, fun _ _ => rfl, B, rfl, ?_⟩
          · unfold rs_trip
            rw [if_neg hbad]
          · exact hN
        · refine r_iload (pq := 26) C dX11_trip_24 rfl rfl ?_
          refine r_if_ge (tg := 31) (pq := 29) C dX11_trip_26 (by decide) rfl (fun c26 => ?_) (fun c26 => ?_)
          · rw [le_i] at c26
            have e0 : (0 : Int32).toInt = 0 := rfl
            exact absurd ⟨⟨b2_1.mp c5, b2_1.mp c12, b2_1.mp c21⟩, by omega⟩ hbad
          · refine r_iconst (v := (-1)) (pq := 30) C dX11_trip_29 (by decide) rfl ?_
            refine r_iret C D rfl ⟨Nat.le_refl _, Nat.le_refl _⟩ dX11_trip_30 ?_
            refine ⟨?_, fun _ _ => rfl, B, rfl, ?_⟩
            · unfold rs_trip
              rw [if_neg hbad]
            · exact hN


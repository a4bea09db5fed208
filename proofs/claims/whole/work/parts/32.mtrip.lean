/-! ===== the reference: trips ===== -/
abbrev AK (f : Nat → Nat → Nat) (g : Nat → Nat → Int32) (n : Nat) (c : Nat → Nat) (d b : Nat) : Prop := ∀ j, j < n → f 17 j ≠ 2 → ∀ e, e < b + 1 → d ≤ e → kp (f 17 j) (f 19 j) (f 18 j) (tn (g 20 j)) c e = 2
set_option maxHeartbeats 4000000 in
set_option maxRecDepth 100000 in
/-- allKept -/
theorem mc_X12_allKept {l : Launch} {E : EV} {A : Nat → Nat} {w0 : RW} {I : Nat → Nat} {f : Nat → Nat → Nat} {g : Nat → Nat → Int32} (hB : mOK I f) {d0 b : Nat} (hn : I 16 ≤ 12) (hK : ∀ j, j < I 16 → lwOK f g j) (hL : LY f) (hd : d0 ≤ b) (hb : b < 400) : MC l E yX12_allKept wsX12_allKept 2 0 0 [.ref (A 0), .int (nI d0), .int (nI b)] (WM E A w0 I f g) (fun r w' => w' = WM E A w0 I f g ∧ r = some (.int (nI (b2 (AK f g (I 16) (f 12) d0 b))))) := by
  refine MC.enter (cc := cX12_allKept) (maxL := 5) (ret := (some .boolean)) (lv0 := [some (.ref (A 0)), some (.int (nI d0)), some (.int (nI b)), none, none]) (by decide) rfl (by simp [Value.category]) (Nat.le_of_ble_eq_true rfl) rfl ?_
  intro X hl hE C D
  subst hl
  subst hE
  have hin : ∀ (j : Nat), j < I 16 → f 17 j ≠ 2 → (GG X (WM (xE X) A w0 I f g) 0 0 51 [some (.ref (A 0)), some (.int (nI d0)), some (.int (nI b)), some (.int (nI j)), some (.int (nI (b + 1)))] [] ∨ ¬ (∀ e, e < b + 1 → d0 ≤ e → kp (f 17 j) (f 19 j) (f 18 j) (tn (g 20 j)) (f 12) e = 2)) → ∀ (t e9 : Nat), d0 ≤ e9 → e9 ≤ b + 1 → b + 1 - e9 < t → (∀ e, e < e9 → d0 ≤ e → kp (f 17 j) (f 19 j) (f 18 j) (tn (g 20 j)) (f 12) e = 2) → GG X (WM (xE X) A w0 I f g) 0 0 26 [some (.ref (A 0)), some (.int (nI d0)), some (.int (nI b)), some (.int (nI j)), some (.int (nI e9))] [] := by
    intro j hj hk2 hend t
    induction t with
    | zero => intro e9 h1 h2 h3; omega
    | succ t ih =>
      intro e9 he1 he2 ht hall
      have z1 := kp_le (f 17 j) (f 19 j) (f 18 j) (tn (g 20 j)) (f 12) e9
      refine r_iload (pq := 28) C dX12_allKept_26 rfl rfl ?_
      refine r_iload_n (pq := 29) C dX12_allKept_28 rfl rfl ?_
      refine rN_icmp_gt (tg := 51) (pq := 32) C dX12_allKept_29 (by decide) rfl (by omega) (by omega) (fun c29 => ?_) (fun c29 => ?_)
      · have e4 : e9 = b + 1 := by omega
        subst e4
        exact hend.elim (fun h => h) (fun h => absurd hall h)
      · refine r_aload_n (pq := 33) C dX12_allKept_32 rfl rfl ?_
        refine r_iload_n (pq := 34) C dX12_allKept_33 rfl rfl ?_
        refine r_iload (pq := 36) C dX12_allKept_34 rfl rfl ?_
        refine r_callV (pq := 39) C (mc_X12_keptOn hB (by omega) (hK j hj) hL (by omega)) (WM_obj _ _ _ _ _ _) rfl gX12_allKept_X12_keptOn rfl (na := 2) (by decide +kernel) rfl (by decide) (by decide) (Nat.le_of_ble_eq_true rfl) ⟨Nat.zero_le _, Nat.zero_le _⟩ dX12_allKept_36 rfl rfl (fun r9 w9 hq => ?_)
        obtain ⟨rfl, rfl⟩ := hq
        dsimp only [Option.toList, List.cons_append, List.nil_append]
        refine r_iconst (v := nI 2) (pq := 40) C dX12_allKept_39 (by decide) rfl ?_
        refine rN_icmp_ge (tg := 45) (pq := 43) C dX12_allKept_40 (by decide) rfl (by omega) (by omega) (fun c40 => ?_) (fun c40 => ?_)
        · refine rN_iinc (c := 1) (pq := 48) C dX12_allKept_45 rfl (by decide) (by decide) rfl rfl ?_
          dsimp only [List.set]
          refine r_goto (tg := 26) C dX12_allKept_48 (by decide) ?_
          refine ih (e9 + 1) (by omega) (by omega) (by omega) (fun e h1 h2 => ?_)
          rcases Nat.lt_or_ge e e9 with q | q
          · exact hall e q h2
          · rw [show e = e9 by omega]; omega
        · refine r_iconst (v := nI 0) (pq := 44) C dX12_allKept_43 (by decide) rfl ?_
          refine r_zret C D rfl (by decide) ⟨Nat.le_refl _, Nat.le_refl _⟩ dX12_allKept_44 ?_
          exact ⟨rfl, by rw [b2_f (fun h => by have h9 := h j hj hk2 e9 (by omega) (by omega); omega)]⟩
  have hout : ∀ (t j : Nat) (v9 : Option Value), j ≤ I 16 → I 16 - j < t → (∀ i, i < j → f 17 i ≠ 2 → ∀ e, e < b + 1 → d0 ≤ e → kp (f 17 i) (f 19 i) (f 18 i) (tn (g 20 i)) (f 12) e = 2) → GG X (WM (xE X) A w0 I f g) 0 0 2 [some (.ref (A 0)), some (.int (nI d0)), some (.int (nI b)), some (.int (nI j)), v9] [] := by
    intro t
    induction t with
    | zero => intro j v9 h1 h2; omega
    | succ t ih =>
      intro j v9 hj ht hall
      refine r_iload_n (pq := 3) C dX12_allKept_2 rfl rfl ?_
      refine r_aload_n (pq := 4) C dX12_allKept_3 rfl rfl ?_
      refine m_geti (pq := 7) C hB 16 (by decide) rfl rfl (by decide +kernel) dX12_allKept_4 rfl (fun b4 => ?_)
      refine rN_icmp_ge (tg := 57) (pq := 10) C dX12_allKept_7 (by decide) rfl (by omega) (by omega) (fun c7 => ?_) (fun c7 => ?_)
      · refine r_iconst (v := nI 1) (pq := 58) C dX12_allKept_57 (by decide) rfl ?_
        refine r_zret C D rfl (by decide) ⟨Nat.le_refl _, Nat.le_refl _⟩ dX12_allKept_58 ?_
        exact ⟨rfl, by rw [b2_t (c := AK f g (I 16) (f 12) d0 b) (fun i h1 => hall i (by omega))]⟩
      · refine r_aload_n (pq := 11) C dX12_allKept_10 rfl rfl ?_
        refine m_geta (pq := 14) C 17 (by decide) rfl rfl (by decide +kernel) dX12_allKept_11 rfl ?_
        refine r_iload_n (pq := 15) C dX12_allKept_14 rfl rfl ?_
        refine m_iald (pq := 16) C hB 17 12 rfl rfl (by decide) rfl (by decide) (by omega) dX12_allKept_15 rfl (fun b15 => ?_)
        refine r_iconst (v := nI 2) (pq := 17) C dX12_allKept_16 (by decide) rfl ?_
        refine rN_icmp_ne (tg := 23) (pq := 20) C dX12_allKept_17 (by decide) rfl (by omega) (by omega) (fun c17 => ?_) (fun c17 => ?_)
        · refine r_iload_n (pq := 24) C dX12_allKept_23 rfl rfl ?_
          refine r_istore (j := 4) (pq := 26) C dX12_allKept_24 rfl (by decide) rfl rfl ?_
          dsimp only [List.set]
          refine hin j (by omega) c17 ?_ (b + 2 - d0) d0 (Nat.le_refl d0) (by omega) (by omega) (fun e h1 h2 => by omega)
          by_cases q : ∀ e, e < b + 1 → d0 ≤ e → kp (f 17 j) (f 19 j) (f 18 j) (tn (g 20 j)) (f 12) e = 2
          · refine Or.inl ?_
            refine rN_iinc (c := 1) (pq := 54) C dX12_allKept_51 rfl (by decide) (by decide) rfl rfl ?_
            dsimp only [List.set]
            refine r_goto (tg := 2) C dX12_allKept_54 (by decide) ?_
            refine ih (j + 1) _ (by omega) (by omega) (fun i h1 h2 => ?_)
            rcases Nat.lt_or_ge i j with z | z
            · exact hall i z h2
            · rw [show i = j by omega]; exact q
          · exact Or.inr q
        · refine r_goto (tg := 51) C dX12_allKept_20 (by decide) ?_
          refine rN_iinc (c := 1) (pq := 54) C dX12_allKept_51 rfl (by decide) (by decide) rfl rfl ?_
          dsimp only [List.set]
          refine r_goto (tg := 2) C dX12_allKept_54 (by decide) ?_
          refine ih (j + 1) _ (by omega) (by omega) (fun i h1 h2 => ?_)
          rcases Nat.lt_or_ge i j with z | z
          · exact hall i z h2
          · rw [show i = j by omega] at h2; exact absurd c17 h2
  refine r_iconst (v := nI 0) (pq := 1) C dX12_allKept_0 (by decide) rfl ?_
  refine r_istore_n (j := 3) (pq := 2) C dX12_allKept_1 rfl (by decide) rfl rfl ?_
  dsimp only [List.set]
  exact hout (I 16 + 1) 0 none (by omega) (by omega) (fun i h => absurd h (Nat.not_lt_zero i))

theorem pwn1 : ∀ l, l < 8 → ∀ j, j < 8 → l ≠ j → 2 ^ l ≠ 2 ^ j := by decide
theorem pwn2 : ∀ l, l < 8 → ∀ j, j < 8 → l ≠ j → 2 ^ l / 2 ^ j % 2 = 0 := by decide
/-- rows that differ only in nights that are in one of two lands: the same of each other land -/
theorem lq_two {l aw j : Nat} (hl : l < 8) (ha : aw < 8) (hj : j < 8) (h1 : j ≠ l) (h2 : j ≠ aw) {c c' : Nat → Nat} (h : ∀ i, c i = c' i ∨ ((c i = 2 ^ l ∨ c i = 2 ^ aw) ∧ (c' i = 2 ^ l ∨ c' i = 2 ^ aw))) (n : Nat) : ps (lq j c) n = ps (lq j c') n ∧ ps (mq j c) n = ps (mq j c') n := by
  have p1 := pwn1 l hl j hj (fun e => h1 e.symm)
  have p2 := pwn1 aw ha j hj (fun e => h2 e.symm)
  have p3 := pwn2 l hl j hj (fun e => h1 e.symm)
  have p4 := pwn2 aw ha j hj (fun e => h2 e.symm)
  constructor
  · refine ps_congr (fun i _ => ?_)
    unfold lq
    rcases h i with e | ⟨e1, e2⟩
    · rw [e]
    · rw [if_neg (by rcases e1 with e | e <;> rw [e] <;> assumption), if_neg (by rcases e2 with e | e <;> rw [e] <;> assumption)]
  · refine ps_congr (fun i _ => ?_)
    unfold mq
    rcases h i with e | ⟨e1, e2⟩
    · rw [e]
    · rcases e1 with e1 | e1 <;> rcases e2 with e2 | e2 <;> rw [e1, e2] <;> simp only [p3, p4]
theorem ps_upd (h h' : Nat → Nat) (k : Nat) (hh : ∀ i, i ≠ k → h' i = h i) : ∀ n, k < n → ps h' n + h k = ps h n + h' k
  | 0, hk => absurd hk (Nat.not_lt_zero k)
  | n + 1, hk => by
    simp only [ps]
    by_cases e : k = n
    · subst e
      rw [ps_congr (fun i hi => hh i (by omega))]
      omega
    · have := ps_upd h h' k hh n (by omega)
      have := hh n (fun q => e q.symm)
      omega
/-- the row of a trip in the making: days outside, days not yet tried, days tried -/
theorem trR_out (s : ST) (p l a b : Nat) : ∀ n i, (i < a ∨ a + n ≤ i) → trR s p l a b n i = if a ≤ i ∧ i ≤ b then 2 ^ awy s p l else cr s p i
  | 0, i, _ => rfl
  | n + 1, i, h => by
    have ih := trR_out s p l a b n i (by omega)
    unfold trR
    split
    · rw [va_n _ _ (by omega)]; exact ih
    · exact ih
theorem trR_in (s : ST) (p l a b : Nat) (hb : ∀ n, a + n ≤ b + 1 → True) : ∀ n i, a ≤ i → i < a + n → a + n ≤ b + 1 → (trR s p l a b n i = 2 ^ l ∨ trR s p l a b n i = 2 ^ awy s p l)
  | 0, i, h1, h2, _ => by omega
  | n + 1, i, h1, h2, h3 => by
    by_cases e : i = a + n
    · subst e
      unfold trR
      split
      · rw [va_s]; exact Or.inl rfl
      · rw [trR_out s p l a b n (a + n) (Or.inr (Nat.le_refl _)), if_pos ⟨by omega, by omega⟩]; exact Or.inr rfl
    · have ih := trR_in s p l a b hb n i h1 (by omega) (by omega)
      unfold trR
      split
      · rw [va_n _ _ e]; exact ih
      · exact ih
theorem trR_st (s : ST) (p l a b : Nat) (n i : Nat) (h : i ≠ a + n) : trR s p l a b (n + 1) i = trR s p l a b n i := by
  simp only [trR]
  split
  · rw [va_n _ _ h]
  · rfl
theorem ps_zero {h : Nat → Nat} : ∀ {n : Nat}, (∀ i, i < n → h i = 0) → ps h n = 0
  | 0, _ => rfl
  | n + 1, hh => by
    simp only [ps]
    rw [ps_zero (fun i hi => hh i (by omega)), hh n (by omega)]
def tq (s : ST) (p l a b n i : Nat) : Nat := if a ≤ i ∧ i < a + n ∧ trR s p l a b n i = 2 ^ l then 1 else 0
theorem tq_le (s : ST) (p l a b n i : Nat) : tq s p l a b n i ≤ 1 := by unfold tq; split <;> omega
theorem tq_st (s : ST) (p l a b n i : Nat) (h : i ≠ a + n) : tq s p l a b (n + 1) i = tq s p l a b n i := by
  unfold tq
  rw [trR_st s p l a b n i h]
  by_cases q : a ≤ i ∧ i < a + n ∧ trR s p l a b n i = 2 ^ l
  · rw [if_pos q, if_pos ⟨q.1, by omega, q.2.2⟩]
  · rw [if_neg q, if_neg (fun z => q ⟨z.1, by omega, z.2.2⟩)]
theorem tq_tk (s : ST) (p l a b i : Nat) (h : a ≤ b) : tq s p l a b (b + 1 - a) i = tk s p l a b i := by
  unfold tq tk
  by_cases q : a ≤ i ∧ i ≤ b ∧ trR s p l a b (b + 1 - a) i = 2 ^ l
  · rw [if_pos q, if_pos ⟨q.1, by omega, q.2.2⟩]
  · rw [if_neg q, if_neg (fun z => q ⟨z.1, by omega, z.2.2⟩)]
theorem awy_ne {s : ST} {p l : Nat} (h : l < 8) : awy s p l ≠ l := by
  unfold awy
  split
  · assumption
  · split
    · assumption
    · split <;> omega
theorem kp_ext {k n l wd d : Nat} {c c' : Nat → Nat} (h : ∀ i, i < 400 → c i = c' i) (hd : d < 400) : kp k n l wd c d = kp k n l wd c' d := kp_congr (fun i hi => h i (by omega))
theorem AK_ext {f f' : Nat → Nat → Nat} {g : Nat → Nat → Int32} {n d b : Nat} {c c' : Nat → Nat} (h : ∀ i, i < 400 → c i = c' i) (hf : ∀ k, k = 17 ∨ k = 18 ∨ k = 19 → f' k = f k) (hb : b < 400) : AK f' g n c d b ↔ AK f g n c' d b := by
  unfold AK
  rw [hf 17 (by omega), hf 18 (by omega), hf 19 (by omega)]
  constructor
  · intro q j h1 h2 e h3 h4
    rw [← q j h1 h2 e h3 h4]
    exact (kp_ext h (by omega)).symm
  · intro q j h1 h2 e h3 h4
    rw [← q j h1 h2 e h3 h4]
    exact kp_ext h (by omega)

theorem lwOK_lay2 {f f1 : Nat → Nat → Nat} {g : Nat → Nat → Int32} {j : Nat} (h : ∀ k, k = 17 ∨ k = 18 ∨ k = 19 → f1 k = f k) (hK : lwOK f g j) : lwOK f1 g j := by
  unfold lwOK
  rw [h 17 (by omega), h 18 (by omega), h 19 (by omega)]
  exact hK
set_option maxHeartbeats 4000000 in
set_option maxRecDepth 100000 in
/-- travel -/
theorem mc_X12_travel {l : Launch} {E : EV} {A : Nat → Nat} {w0 : RW} {I : Nat → Nat} {f : Nat → Nat → Nat} {g : Nat → Nat → Int32} (hS : SI (I, f, g)) {p l9 a b : Nat} (hp : p < I 1) (hl8 : l9 < 8) (hab : a ≤ b) (hb : b < 400) : MC l E yX12_travel wsX12_travel 3 0 0 [.ref (A 0), .int (nI p), .int (nI l9), .int (nI a), .int (nI b)] (WM E A w0 I f g) (fun r w' => r = some (.int (nI (ps (tk (I, f, g) p l9 a b) 400))) ∧ ∃ f2, w' = WM E A w0 I f2 g ∧ mOK I f2 ∧ (∀ k, k ≠ 12 → k ≠ 13 → k ≠ 14 → k ≠ 21 → f2 k = f k) ∧ ∀ i, a ≤ i → i < b + 1 → f2 21 i = tk (I, f, g) p l9 a b i) := by
  refine MC.enter (cc := cX12_travel) (maxL := 8) (ret := (some .int)) (lv0 := [some (.ref (A 0)), some (.int (nI p)), some (.int (nI l9)), some (.int (nI a)), some (.int (nI b)), none, none, none]) (by decide) rfl (by simp [Value.category]) (Nat.le_of_ble_eq_true rfl) rfl ?_
  intro X hl hE C D
  subst hl
  subst hE
  have hB : mOK I f := hS.1
  have hP6 : I 1 ≤ 6 := hS.2.1
  have hM : I 5 ≤ 80 := hS.2.2.1
  have hn12 : I 16 ≤ 12 := hS.2.2.2.1
  have hpp : f 2 p < 8 ∧ f 3 p < 8 ∧ f 4 p < 2 := hS.2.2.2.2.1 p hp
  have hKs : ∀ j, j < I 16 → lwOK f g j := hS.2.2.2.2.2.2.1
  have hpl := pw8 hl8
  have haw : awy (I, f, g) p l9 < 8 := by
    unfold awy
    split
    · exact hpp.1
    · split
      · exact hpp.2.1
      · split <;> omega
  have hpa := pw8 haw
  have hmain : ∀ (t n : Nat) (f2 : Nat → Nat → Nat) (v9 : Option Value), a + n ≤ b + 1 → b + 1 - (a + n) < t → (mOK I f2 ∧ (∀ k, k ≠ 12 → k ≠ 13 → k ≠ 14 → k ≠ 21 → f2 k = f k) ∧ (∀ i, i < 400 → f2 12 i = (trR (I, f, g) p l9 a b n) i) ∧ (∀ j, j < 8 → j ≠ l9 → j ≠ (awy (I, f, g) p l9) → LD f2 (f2 12) j) ∧ (∀ i, a ≤ i → i < a + n → f2 21 i = tq (I, f, g) p l9 a b n i)) → GG X (WM (xE X) A w0 I f2 g) 0 0 81 [some (.ref (A 0)), some (.int (nI p)), some (.int (nI l9)), some (.int (nI a)), some (.int (nI b)), some (.int (nI (awy (I, f, g) p l9))), some (.int (nI (ps (tq (I, f, g) p l9 a b n) 400))), some (.int (nI (a + n)))] [] := by
    intro t
    induction t with
    | zero => intro n f2 v9 h1 h2; omega
    | succ t ih =>
      intro n f2 v9 hn ht hI
      obtain ⟨hB, hk, hr, hld, h21⟩ := hI
      have z0 := ps_le (tq_le (I, f, g) p l9 a b n) 400
      refine r_iload (pq := 83) C dX12_travel_81 rfl rfl ?_
      refine r_iload (pq := 85) C dX12_travel_83 rfl rfl ?_
      refine rN_icmp_gt (tg := 157) (pq := 88) C dX12_travel_85 (by decide) rfl (by omega) (by omega) (fun c85 => ?_) (fun c85 => ?_)
      · refine r_iload (pq := 159) C dX12_travel_157 rfl rfl ?_
        refine r_iret C D rfl ⟨Nat.le_refl _, Nat.le_refl _⟩ dX12_travel_159 ?_
        have e9 : n = b + 1 - a := by omega
        subst e9
        refine ⟨?_, f2, rfl, hB, hk, fun i h1 h2 => ?_⟩
        · rw [show ps (tq (I, f, g) p l9 a b (b + 1 - a)) 400 = ps (tk (I, f, g) p l9 a b) 400 from ps_congr (fun i _ => tq_tk _ _ _ _ _ _ (by omega))]
        · rw [h21 i h1 (by omega), tq_tk _ _ _ _ _ _ (by omega)]
      · refine r_aload_n (pq := 89) C dX12_travel_88 rfl rfl ?_
        refine m_geta (pq := 92) C 12 (by decide) rfl rfl (by decide +kernel) dX12_travel_89 rfl ?_
        refine r_iload (pq := 94) C dX12_travel_92 rfl rfl ?_
        refine r_iconst (v := nI 1) (pq := 95) C dX12_travel_94 (by decide) rfl ?_
        refine r_iload_n (pq := 96) C dX12_travel_95 rfl rfl ?_
        refine rN_ishl (pq := 97) C dX12_travel_96 (by omega) (by omega) rfl ?_
        refine m_iast (pq := 98) C hB 12 400 rfl rfl (by decide) rfl (by decide) (by omega) dX12_travel_97 rfl (by omega) (fun hB => ?_)
        refine r_aload_n (pq := 99) C dX12_travel_98 rfl rfl ?_
        refine r_iload_n (pq := 100) C dX12_travel_99 rfl rfl ?_
        refine r_callV (pq := 103) C (mc_X12_addLand hB hl8) (WM_obj _ _ _ _ _ _) rfl gX12_travel_X12_addLand rfl (na := 1) (by decide +kernel) rfl (by decide) (by decide) (Nat.le_of_ble_eq_true rfl) ⟨Nat.zero_le _, Nat.zero_le _⟩ dX12_travel_100 rfl rfl (fun r9 w9 hq => ?_)
        obtain ⟨rfl, f3, rfl, hB3, hk3, hl3, ho3⟩ := hq
        dsimp only [Option.toList, List.cons_append, List.nil_append]
        refine r_aload_n (pq := 104) C dX12_travel_103 rfl rfl ?_
        refine r_iload (pq := 106) C dX12_travel_104 rfl rfl ?_
        refine r_callV (pq := 109) C (mc_X12_addLand hB3 haw) (WM_obj _ _ _ _ _ _) rfl gX12_travel_X12_addLand rfl (na := 1) (by decide +kernel) rfl (by decide) (by decide) (Nat.le_of_ble_eq_true rfl) ⟨Nat.zero_le _, Nat.zero_le _⟩ dX12_travel_106 rfl rfl (fun r9 w9 hq => ?_)
        obtain ⟨rfl, f4, rfl, hB4, hk4, hl4, ho4⟩ := hq
        dsimp only [Option.toList, List.cons_append, List.nil_append]
        have u12 : ∀ i, i < 400 → f4 12 i = va_up (trR (I, f, g) p l9 a b n) (a + n) (2 ^ l9) i := fun i hi => by
          rw [hk4 12 (by decide) (by decide), hk3 12 (by decide) (by decide), va_s]
          by_cases e : i = a + n
          · subst e; rw [va_s, va_s, Nat.one_mul]
          · rw [va_n _ _ e, va_n _ _ e]; exact hr i hi
        have uk : ∀ k, k ≠ 12 → k ≠ 13 → k ≠ 14 → k ≠ 21 → f4 k = f k := fun k h1 h2 h3 h4 => by rw [hk4 k h2 h3, hk3 k h2 h3, va_n _ _ h1]; exact hk k h1 h2 h3 h4
        have hLY : LY f4 := by
          intro j hj
          have q12 : f4 12 = f3 12 := hk4 12 (by decide) (by decide)
          have q12b : f3 12 = va_up f2 12 (va_up (f2 12) (a + n) (1 * 2 ^ l9)) 12 := hk3 12 (by decide) (by decide)
          by_cases e1 : j = (awy (I, f, g) p l9)
          · subst e1
            rw [q12]
            exact hl4
          · by_cases e2 : j = l9
            · subst e2
              intro d hd
              have q1 := ho4 (401 * j + d) (by omega)
              rw [q1.1, q1.2, q12, q12b]
              exact hl3 d hd
            · intro d hd
              have q1 := ho4 (401 * j + d) (by omega)
              have q2 := ho3 (401 * j + d) (by omega)
              have q3 := hld j hj e2 e1 d hd
              rw [q1.1, q1.2, q2.1, q2.2]
              rw [va_n _ _ (by decide), va_n _ _ (by decide), q3.1, q3.2, q12, q12b, va_s]
              refine lq_two hl8 haw hj e2 e1 (fun i => ?_) d
              by_cases e : i = a + n
              · subst e
                rw [va_s, Nat.one_mul]
                refine Or.inr ⟨Or.inr ?_, Or.inl rfl⟩
                rw [hr (a + n) (by omega), trR_out _ _ _ _ _ _ _ (Or.inr (Nat.le_refl _)), if_pos ⟨by omega, by omega⟩]
              · rw [va_n _ _ e]; exact Or.inl rfl
        refine r_aload_n (pq := 110) C dX12_travel_109 rfl rfl ?_
        refine m_geta (pq := 113) C 21 (by decide) rfl rfl (by decide +kernel) dX12_travel_110 rfl ?_
        refine r_iload (pq := 115) C dX12_travel_113 rfl rfl ?_
        refine r_aload_n (pq := 116) C dX12_travel_115 rfl rfl ?_
        refine r_iload (pq := 118) C dX12_travel_116 rfl rfl ?_
        refine r_iload (pq := 120) C dX12_travel_118 rfl rfl ?_
        refine r_callV (pq := 123) C (mc_X12_allKept hB4 hn12 (fun j hj => lwOK_lay2 (fun k h => uk k (by omega) (by omega) (by omega) (by omega)) (hKs j hj)) hLY (by omega) (by omega)) (WM_obj _ _ _ _ _ _) rfl gX12_travel_X12_allKept rfl (na := 2) (by decide +kernel) rfl (by decide) (by decide) (Nat.le_of_ble_eq_true rfl) ⟨Nat.zero_le _, Nat.zero_le _⟩ dX12_travel_120 rfl rfl (fun r9 w9 hq => ?_)
        obtain ⟨rfl, rfl⟩ := hq
        dsimp only [Option.toList, List.cons_append, List.nil_append]
        have l120 := b2_lt (AK f4 g (I 16) (f4 12) (a + n) b)
        have eAK : b2 (AK f4 g (I 16) (f4 12) (a + n) b) = b2 (akp (I, f, g) (va_up (trR (I, f, g) p l9 a b n) (a + n) (2 ^ l9)) (a + n) b) := b2_iff (AK_ext u12 (fun k h => uk k (by omega) (by omega) (by omega) (by omega)) (by omega))
        simp only [eAK]
        rw [eAK] at l120
        refine m_zast (pq := 124) C hB4 21 400 (by omega) rfl rfl (by decide) rfl (by decide) (by omega) dX12_travel_123 rfl (by omega) (fun hB => ?_)
        refine r_aload_n (pq := 125) C dX12_travel_124 rfl rfl ?_
        refine m_geta (pq := 128) C 21 (by decide) rfl rfl (by decide +kernel) dX12_travel_125 rfl ?_
        refine r_iload (pq := 130) C dX12_travel_128 rfl rfl ?_
        refine m_zald (pq := 131) C hB 21 400 rfl rfl (by decide) rfl (by decide) (by omega) dX12_travel_130 rfl (fun b130 => ?_)
        simp only [va_s] at b130 ⊢
        refine rN_if_eq (tg := 140) (pq := 134) C dX12_travel_131 (by decide) rfl (by omega) (fun c131 => ?_) (fun c131 => ?_)
        · refine r_aload_n (pq := 141) C dX12_travel_140 rfl rfl ?_
          refine m_geta (pq := 144) C 12 (by decide) rfl rfl (by decide +kernel) dX12_travel_141 rfl ?_
          refine r_iload (pq := 146) C dX12_travel_144 rfl rfl ?_
          refine r_iconst (v := nI 1) (pq := 147) C dX12_travel_146 (by decide) rfl ?_
          refine r_iload (pq := 149) C dX12_travel_147 rfl rfl ?_
          refine rN_ishl (pq := 150) C dX12_travel_149 (by omega) (by omega) rfl ?_
          refine m_iast (pq := 151) C hB 12 400 rfl rfl (by decide) rfl (by decide) (by omega) dX12_travel_150 rfl (by omega) (fun hB => ?_)
          refine rN_iinc (c := 1) (pq := 154) C dX12_travel_151 rfl (by decide) (by decide) rfl rfl ?_
          dsimp only [List.set]
          refine r_goto (tg := 81) C dX12_travel_154 (by decide) ?_
          have uk21 : f4 21 = f2 21 := by rw [hk4 21 (by decide) (by decide), hk3 21 (by decide) (by decide), va_n _ _ (by decide)]
          have hy := b2_0.mp c131
          have eR : (trR (I, f, g) p l9 a b (n + 1)) = (trR (I, f, g) p l9 a b n) := by simp only [trR]; rw [if_neg hy]
          have eo : (trR (I, f, g) p l9 a b n) (a + n) = 2 ^ (awy (I, f, g) p l9) := by rw [trR_out _ _ _ _ _ _ _ (Or.inr (Nat.le_refl _)), if_pos ⟨by omega, by omega⟩]
          have eq1 : tq (I, f, g) p l9 a b (n + 1) (a + n) = 0 := by unfold tq; rw [eR, eo, if_neg (fun z => pwn1 _ haw _ hl8 (awy_ne hl8) z.2.2)]
          have eq0 : tq (I, f, g) p l9 a b n (a + n) = 0 := by unfold tq; rw [if_neg (fun z => by omega)]
          have e5 := ps_upd (tq (I, f, g) p l9 a b n) (tq (I, f, g) p l9 a b (n + 1)) (a + n) (fun i hi => tq_st _ _ _ _ _ _ _ hi) 400 (by omega)
          rw [eq1, eq0] at e5
          have k9 := ih (n + 1) _ none (by omega) (by omega) ⟨hB, fun k h1 h2 h3 h4 => by rw [va_n _ _ h1, va_n _ _ h4]; exact uk k h1 h2 h3 h4, fun i hi => ?_, fun j hj h1 h2 => ?_, fun i h1 h2 => ?_⟩
          · rw [show ps (tq (I, f, g) p l9 a b (n + 1)) 400 = ps (tq (I, f, g) p l9 a b n) 400 by omega] at k9
            exact k9
          · rw [va_s, va_n _ _ (show (12 : Nat) ≠ 21 by decide), eR]
            by_cases e : i = a + n
            · subst e
              rw [va_s, Nat.one_mul]
              exact eo.symm
            · rw [va_n _ _ e, u12 i hi, va_n _ _ e]
          · intro d hd
            rw [va_n _ _ (show (13 : Nat) ≠ 12 by decide), va_n _ _ (show (14 : Nat) ≠ 12 by decide), va_n _ _ (show (13 : Nat) ≠ 21 by decide), va_n _ _ (show (14 : Nat) ≠ 21 by decide), va_s, va_n _ _ (show (12 : Nat) ≠ 21 by decide)]
            have q3 := hLY j hj d hd
            rw [q3.1, q3.2]
            refine lq_two hl8 haw hj h1 h2 (fun i => ?_) d
            by_cases e : i = a + n
            · subst e
              rw [va_s, Nat.one_mul]
              refine Or.inr ⟨Or.inl ?_, Or.inr rfl⟩
              rw [u12 (a + n) (by omega), va_s]
            · rw [va_n _ _ e]; exact Or.inl rfl
          · rw [va_n _ _ (show (21 : Nat) ≠ 12 by decide), va_s]
            by_cases e : i = a + n
            · subst e
              rw [va_s, b2_f hy]
              exact eq1.symm
            · rw [va_n _ _ e, tq_st _ _ _ _ _ _ _ e, uk21]
              exact h21 i h1 (by omega)
        · refine rN_iinc (c := 1) (pq := 137) C dX12_travel_134 rfl (by decide) (by decide) rfl rfl ?_
          dsimp only [List.set]
          refine r_goto (tg := 151) C dX12_travel_137 (by decide) ?_
          refine rN_iinc (c := 1) (pq := 154) C dX12_travel_151 rfl (by decide) (by decide) rfl rfl ?_
          dsimp only [List.set]
          refine r_goto (tg := 81) C dX12_travel_154 (by decide) ?_
          have uk21 : f4 21 = f2 21 := by rw [hk4 21 (by decide) (by decide), hk3 21 (by decide) (by decide), va_n _ _ (by decide)]
          have hy := b2_1.mp c131
          have eR : (trR (I, f, g) p l9 a b (n + 1)) = va_up (trR (I, f, g) p l9 a b n) (a + n) (2 ^ l9) := by simp only [trR]; rw [if_pos hy]
          have eq1 : tq (I, f, g) p l9 a b (n + 1) (a + n) = 1 := by unfold tq; rw [eR, va_s, if_pos ⟨by omega, by omega, rfl⟩]
          have eq0 : tq (I, f, g) p l9 a b n (a + n) = 0 := by unfold tq; rw [if_neg (fun z => by omega)]
          have e5 := ps_upd (tq (I, f, g) p l9 a b n) (tq (I, f, g) p l9 a b (n + 1)) (a + n) (fun i hi => tq_st _ _ _ _ _ _ _ hi) 400 (by omega)
          rw [eq1, eq0] at e5
          have k9 := ih (n + 1) _ none (by omega) (by omega) ⟨hB, fun k h1 h2 h3 h4 => by rw [va_n _ _ h4]; exact uk k h1 h2 h3 h4, fun i hi => by rw [va_n _ _ (by decide), eR]; exact u12 i hi, fun j hj h1 h2 => by
              intro d hd
              rw [va_n _ _ (by decide), va_n _ _ (by decide), va_n _ _ (by decide)]
              exact hLY j hj d hd, fun i h1 h2 => ?_⟩
          · rw [show ps (tq (I, f, g) p l9 a b (n + 1)) 400 = ps (tq (I, f, g) p l9 a b n) 400 + 1 by omega] at k9
            exact k9
          · rw [va_s]
            by_cases e : i = a + n
            · subst e
              rw [va_s, b2_t hy]
              exact eq1.symm
            · rw [va_n _ _ e, tq_st _ _ _ _ _ _ _ e, uk21]
              exact h21 i h1 (by omega)
  have hfill : ∀ (f1 : Nat → Nat → Nat) (t d : Nat) (f2 : Nat → Nat → Nat), (∀ j, j < 400 → f1 12 j = cn f (I 5) p j) → (∀ k, k ≠ 12 → k ≠ 13 → k ≠ 14 → f1 k = f k) → a ≤ d → d ≤ b + 1 → b + 1 - d < t → (mOK I f2 ∧ (∀ k, k ≠ 12 → k ≠ 13 → k ≠ 14 → f2 k = f k) ∧ (∀ i, i < 400 → f2 12 i = if a ≤ i ∧ i < d then 2 ^ (awy (I, f, g) p l9) else cn f (I 5) p i)) → GG X (WM (xE X) A w0 I f2 g) 0 0 47 [some (.ref (A 0)), some (.int (nI p)), some (.int (nI l9)), some (.int (nI a)), some (.int (nI b)), some (.int (nI (awy (I, f, g) p l9))), some (.int (nI d)), none] [] := by
    intro f1 t
    induction t with
    | zero => intro d f2 _ _ h1 h2 h3; omega
    | succ t ih =>
      intro d f2 hc1 hk1 hd1 hd2 ht hI
      obtain ⟨hB, hk, hr⟩ := hI
      refine r_iload (pq := 49) C dX12_travel_47 rfl rfl ?_
      refine r_iload (pq := 51) C dX12_travel_49 rfl rfl ?_
      refine rN_icmp_gt (tg := 71) (pq := 54) C dX12_travel_51 (by decide) rfl (by omega) (by omega) (fun c51 => ?_) (fun c51 => ?_)
      · refine r_aload_n (pq := 72) C dX12_travel_71 rfl rfl ?_
        refine r_callV (pq := 75) C (mc_X12_add hB) (WM_obj _ _ _ _ _ _) rfl gX12_travel_X12_add rfl (na := 0) (by decide +kernel) rfl (by decide) (by decide) (Nat.le_of_ble_eq_true rfl) ⟨Nat.zero_le _, Nat.zero_le _⟩ dX12_travel_72 rfl rfl (fun r9 w9 hq => ?_)
        obtain ⟨rfl, f3, rfl, hB3, hk3, hl3⟩ := hq
        dsimp only [Option.toList, List.cons_append, List.nil_append]
        refine r_iconst (v := nI 0) (pq := 76) C dX12_travel_75 (by decide) rfl ?_
        refine r_istore (j := 6) (pq := 78) C dX12_travel_76 rfl (by decide) rfl rfl ?_
        dsimp only [List.set]
        refine r_iload_n (pq := 79) C dX12_travel_78 rfl rfl ?_
        refine r_istore (j := 7) (pq := 81) C dX12_travel_79 rfl (by decide) rfl rfl ?_
        dsimp only [List.set]
        have k0 : ps (tq (I, f, g) p l9 a b 0) 400 = 0 := ps_zero (fun i _ => by unfold tq; rw [if_neg (fun z => by omega)])
        have k9 := hmain (b + 2 - a) 0 f3 none (by omega) (by omega) ⟨hB3, fun k h1 h2 h3 _ => (hk3 k h2 h3).trans (hk k h1 h2 h3), fun i hi => ?_, fun j hj _ _ => ?_, fun i h1 h2 => by omega⟩
        · rw [k0] at k9
          exact k9
        · rw [hk3 12 (by decide) (by decide), hr i hi]
          unfold trR
          by_cases q : a ≤ i ∧ i < d
          · rw [if_pos q, if_pos ⟨q.1, by omega⟩]
          · rw [if_neg q, if_neg (fun z => q ⟨z.1, by omega⟩)]; rfl
        · rw [hk3 12 (by decide) (by decide)]
          exact hl3 j hj
      · refine r_aload_n (pq := 55) C dX12_travel_54 rfl rfl ?_
        refine m_geta (pq := 58) C 12 (by decide) rfl rfl (by decide +kernel) dX12_travel_55 rfl ?_
        refine r_iload (pq := 60) C dX12_travel_58 rfl rfl ?_
        refine r_iconst (v := nI 1) (pq := 61) C dX12_travel_60 (by decide) rfl ?_
        refine r_iload (pq := 63) C dX12_travel_61 rfl rfl ?_
        refine rN_ishl (pq := 64) C dX12_travel_63 (by omega) (by omega) rfl ?_
        refine m_iast (pq := 65) C hB 12 400 rfl rfl (by decide) rfl (by decide) (by omega) dX12_travel_64 rfl (by omega) (fun hB => ?_)
        refine rN_iinc (c := 1) (pq := 68) C dX12_travel_65 rfl (by decide) (by decide) rfl rfl ?_
        dsimp only [List.set]
        refine r_goto (tg := 47) C dX12_travel_68 (by decide) ?_
        refine ih (d + 1) _ hc1 hk1 (by omega) (by omega) (by omega) ⟨hB, fun k h1 h2 h3 => by rw [va_n _ _ h1]; exact hk k h1 h2 h3, fun i hi => ?_⟩
        rw [va_s]
        by_cases e : i = d
        · subst e
          rw [va_s, if_pos ⟨by omega, by omega⟩, Nat.one_mul]
        · rw [va_n _ _ e, hr i hi]
          by_cases q : a ≤ i ∧ i < d
          · rw [if_pos q, if_pos ⟨q.1, by omega⟩]
          · rw [if_neg q, if_neg (fun z => q ⟨z.1, by omega⟩)]
  refine r_aload_n (pq := 1) C dX12_travel_0 rfl rfl ?_
  refine r_iload_n (pq := 2) C dX12_travel_1 rfl rfl ?_
  refine r_callV (pq := 5) C (mc_X12_lay hB hM (by omega)) (WM_obj _ _ _ _ _ _) rfl gX12_travel_X12_lay rfl (na := 1) (by decide +kernel) rfl (by decide) (by decide) (Nat.le_of_ble_eq_true rfl) ⟨Nat.zero_le _, Nat.zero_le _⟩ dX12_travel_2 rfl rfl (fun r9 w9 hq => ?_)
  obtain ⟨rfl, f1, rfl, hB1, hk1, hc1, hl1⟩ := hq
  dsimp only [Option.toList, List.cons_append, List.nil_append]
  have e2 : f1 2 p = f 2 p := by rw [hk1 2 (by decide) (by decide) (by decide)]
  have e3 : f1 3 p = f 3 p := by rw [hk1 3 (by decide) (by decide) (by decide)]
  refine r_aload_n (pq := 6) C dX12_travel_5 rfl rfl ?_
  refine m_geta (pq := 9) C 2 (by decide) rfl rfl (by decide +kernel) dX12_travel_6 rfl ?_
  refine r_iload_n (pq := 10) C dX12_travel_9 rfl rfl ?_
  refine m_iald (pq := 11) C hB1 2 6 rfl rfl (by decide) rfl (by decide) (by omega) dX12_travel_10 rfl (fun b10 => ?_)
  refine r_istore (j := 5) (pq := 13) C dX12_travel_11 rfl (by decide) rfl rfl ?_
  dsimp only [List.set]
  refine r_iload (pq := 15) C dX12_travel_13 rfl rfl ?_
  refine r_iload_n (pq := 16) C dX12_travel_15 rfl rfl ?_
  refine rN_icmp_ne (tg := 27) (pq := 19) C dX12_travel_16 (by decide) rfl (by omega) (by omega) (fun c16 => ?_) (fun c16 => ?_)
  · refine r_iload (pq := 29) C dX12_travel_27 rfl rfl ?_
    refine r_iload_n (pq := 30) C dX12_travel_29 rfl rfl ?_
    refine rN_icmp_ne (tg := 44) (pq := 33) C dX12_travel_30 (by decide) rfl (by omega) (by omega) (fun c30 => ?_) (fun c30 => ?_)
    · refine r_iload_n (pq := 45) C dX12_travel_44 rfl rfl ?_
      refine r_istore (j := 6) (pq := 47) C dX12_travel_45 rfl (by decide) rfl rfl ?_
      dsimp only [List.set]
      have k9 := hfill f1 (b + 2 - a) a f1 hc1 hk1 (Nat.le_refl a) (by omega) (by omega) ⟨hB1, hk1, fun i hi => by rw [if_neg (fun z => by omega)]; exact hc1 i hi⟩
      have q2 : (I, f, g).2.1 2 p = f 2 p := rfl
      have q3 : (I, f, g).2.1 3 p = f 3 p := rfl
      first
      | (rw [show awy (I, f, g) p l9 = f1 2 p by unfold awy; rw [if_pos (by omega)]; omega] at k9; exact k9)
      | (rw [show awy (I, f, g) p l9 = f1 3 p by unfold awy; rw [if_neg (by omega), if_pos (by omega)]; omega] at k9; exact k9)
      | (rw [show awy (I, f, g) p l9 = 1 by unfold awy; rw [if_neg (by omega), if_neg (by omega), if_pos (by omega)]] at k9; exact k9)
      | (rw [show awy (I, f, g) p l9 = 0 by unfold awy; rw [if_neg (by omega), if_neg (by omega), if_neg (by omega)]] at k9; exact k9)
      | exact absurd c30 (by omega)
    · refine r_iload_n (pq := 34) C dX12_travel_33 rfl rfl ?_
      refine rN_if_ne (tg := 41) (pq := 37) C dX12_travel_34 (by decide) rfl (by omega) (fun c34 => ?_) (fun c34 => ?_)
      · refine r_iconst (v := nI 0) (pq := 42) C dX12_travel_41 (by decide) rfl ?_
        refine r_istore (j := 5) (pq := 44) C dX12_travel_42 rfl (by decide) rfl rfl ?_
        dsimp only [List.set]
        refine r_iload_n (pq := 45) C dX12_travel_44 rfl rfl ?_
        refine r_istore (j := 6) (pq := 47) C dX12_travel_45 rfl (by decide) rfl rfl ?_
        dsimp only [List.set]
        have k9 := hfill f1 (b + 2 - a) a f1 hc1 hk1 (Nat.le_refl a) (by omega) (by omega) ⟨hB1, hk1, fun i hi => by rw [if_neg (fun z => by omega)]; exact hc1 i hi⟩
        have q2 : (I, f, g).2.1 2 p = f 2 p := rfl
        have q3 : (I, f, g).2.1 3 p = f 3 p := rfl
        first
        | (rw [show awy (I, f, g) p l9 = f1 2 p by unfold awy; rw [if_pos (by omega)]; omega] at k9; exact k9)
        | (rw [show awy (I, f, g) p l9 = f1 3 p by unfold awy; rw [if_neg (by omega), if_pos (by omega)]; omega] at k9; exact k9)
        | (rw [show awy (I, f, g) p l9 = 1 by unfold awy; rw [if_neg (by omega), if_neg (by omega), if_pos (by omega)]] at k9; exact k9)
        | (rw [show awy (I, f, g) p l9 = 0 by unfold awy; rw [if_neg (by omega), if_neg (by omega), if_neg (by omega)]] at k9; exact k9)
        | exact absurd c30 (by omega)
      · refine r_iconst (v := nI 1) (pq := 38) C dX12_travel_37 (by decide) rfl ?_
        refine r_goto (tg := 42) C dX12_travel_38 (by decide) ?_
        refine r_istore (j := 5) (pq := 44) C dX12_travel_42 rfl (by decide) rfl rfl ?_
        dsimp only [List.set]
        refine r_iload_n (pq := 45) C dX12_travel_44 rfl rfl ?_
        refine r_istore (j := 6) (pq := 47) C dX12_travel_45 rfl (by decide) rfl rfl ?_
        dsimp only [List.set]
        have k9 := hfill f1 (b + 2 - a) a f1 hc1 hk1 (Nat.le_refl a) (by omega) (by omega) ⟨hB1, hk1, fun i hi => by rw [if_neg (fun z => by omega)]; exact hc1 i hi⟩
        have q2 : (I, f, g).2.1 2 p = f 2 p := rfl
        have q3 : (I, f, g).2.1 3 p = f 3 p := rfl
        first
        | (rw [show awy (I, f, g) p l9 = f1 2 p by unfold awy; rw [if_pos (by omega)]; omega] at k9; exact k9)
        | (rw [show awy (I, f, g) p l9 = f1 3 p by unfold awy; rw [if_neg (by omega), if_pos (by omega)]; omega] at k9; exact k9)
        | (rw [show awy (I, f, g) p l9 = 1 by unfold awy; rw [if_neg (by omega), if_neg (by omega), if_pos (by omega)]] at k9; exact k9)
        | (rw [show awy (I, f, g) p l9 = 0 by unfold awy; rw [if_neg (by omega), if_neg (by omega), if_neg (by omega)]] at k9; exact k9)
        | exact absurd c30 (by omega)
  · refine r_aload_n (pq := 20) C dX12_travel_19 rfl rfl ?_
    refine m_geta (pq := 23) C 3 (by decide) rfl rfl (by decide +kernel) dX12_travel_20 rfl ?_
    refine r_iload_n (pq := 24) C dX12_travel_23 rfl rfl ?_
    refine m_iald (pq := 25) C hB1 3 6 rfl rfl (by decide) rfl (by decide) (by omega) dX12_travel_24 rfl (fun b24 => ?_)
    refine r_istore (j := 5) (pq := 27) C dX12_travel_25 rfl (by decide) rfl rfl ?_
    dsimp only [List.set]
    refine r_iload (pq := 29) C dX12_travel_27 rfl rfl ?_
    refine r_iload_n (pq := 30) C dX12_travel_29 rfl rfl ?_
    refine rN_icmp_ne (tg := 44) (pq := 33) C dX12_travel_30 (by decide) rfl (by omega) (by omega) (fun c30 => ?_) (fun c30 => ?_)
    · refine r_iload_n (pq := 45) C dX12_travel_44 rfl rfl ?_
      refine r_istore (j := 6) (pq := 47) C dX12_travel_45 rfl (by decide) rfl rfl ?_
      dsimp only [List.set]
      have k9 := hfill f1 (b + 2 - a) a f1 hc1 hk1 (Nat.le_refl a) (by omega) (by omega) ⟨hB1, hk1, fun i hi => by rw [if_neg (fun z => by omega)]; exact hc1 i hi⟩
      have q2 : (I, f, g).2.1 2 p = f 2 p := rfl
      have q3 : (I, f, g).2.1 3 p = f 3 p := rfl
      first
      | (rw [show awy (I, f, g) p l9 = f1 2 p by unfold awy; rw [if_pos (by omega)]; omega] at k9; exact k9)
      | (rw [show awy (I, f, g) p l9 = f1 3 p by unfold awy; rw [if_neg (by omega), if_pos (by omega)]; omega] at k9; exact k9)
      | (rw [show awy (I, f, g) p l9 = 1 by unfold awy; rw [if_neg (by omega), if_neg (by omega), if_pos (by omega)]] at k9; exact k9)
      | (rw [show awy (I, f, g) p l9 = 0 by unfold awy; rw [if_neg (by omega), if_neg (by omega), if_neg (by omega)]] at k9; exact k9)
      | exact absurd c30 (by omega)
    · refine r_iload_n (pq := 34) C dX12_travel_33 rfl rfl ?_
      refine rN_if_ne (tg := 41) (pq := 37) C dX12_travel_34 (by decide) rfl (by omega) (fun c34 => ?_) (fun c34 => ?_)
      · refine r_iconst (v := nI 0) (pq := 42) C dX12_travel_41 (by decide) rfl ?_
        refine r_istore (j := 5) (pq := 44) C dX12_travel_42 rfl (by decide) rfl rfl ?_
        dsimp only [List.set]
        refine r_iload_n (pq := 45) C dX12_travel_44 rfl rfl ?_
        refine r_istore (j := 6) (pq := 47) C dX12_travel_45 rfl (by decide) rfl rfl ?_
        dsimp only [List.set]
        have k9 := hfill f1 (b + 2 - a) a f1 hc1 hk1 (Nat.le_refl a) (by omega) (by omega) ⟨hB1, hk1, fun i hi => by rw [if_neg (fun z => by omega)]; exact hc1 i hi⟩
        have q2 : (I, f, g).2.1 2 p = f 2 p := rfl
        have q3 : (I, f, g).2.1 3 p = f 3 p := rfl
        first
        | (rw [show awy (I, f, g) p l9 = f1 2 p by unfold awy; rw [if_pos (by omega)]; omega] at k9; exact k9)
        | (rw [show awy (I, f, g) p l9 = f1 3 p by unfold awy; rw [if_neg (by omega), if_pos (by omega)]; omega] at k9; exact k9)
        | (rw [show awy (I, f, g) p l9 = 1 by unfold awy; rw [if_neg (by omega), if_neg (by omega), if_pos (by omega)]] at k9; exact k9)
        | (rw [show awy (I, f, g) p l9 = 0 by unfold awy; rw [if_neg (by omega), if_neg (by omega), if_neg (by omega)]] at k9; exact k9)
        | exact absurd c30 (by omega)
      · refine r_iconst (v := nI 1) (pq := 38) C dX12_travel_37 (by decide) rfl ?_
        refine r_goto (tg := 42) C dX12_travel_38 (by decide) ?_
        refine r_istore (j := 5) (pq := 44) C dX12_travel_42 rfl (by decide) rfl rfl ?_
        dsimp only [List.set]
        refine r_iload_n (pq := 45) C dX12_travel_44 rfl rfl ?_
        refine r_istore (j := 6) (pq := 47) C dX12_travel_45 rfl (by decide) rfl rfl ?_
        dsimp only [List.set]
        have k9 := hfill f1 (b + 2 - a) a f1 hc1 hk1 (Nat.le_refl a) (by omega) (by omega) ⟨hB1, hk1, fun i hi => by rw [if_neg (fun z => by omega)]; exact hc1 i hi⟩
        have q2 : (I, f, g).2.1 2 p = f 2 p := rfl
        have q3 : (I, f, g).2.1 3 p = f 3 p := rfl
        first
        | (rw [show awy (I, f, g) p l9 = f1 2 p by unfold awy; rw [if_pos (by omega)]; omega] at k9; exact k9)
        | (rw [show awy (I, f, g) p l9 = f1 3 p by unfold awy; rw [if_neg (by omega), if_pos (by omega)]; omega] at k9; exact k9)
        | (rw [show awy (I, f, g) p l9 = 1 by unfold awy; rw [if_neg (by omega), if_neg (by omega), if_pos (by omega)]] at k9; exact k9)
        | (rw [show awy (I, f, g) p l9 = 0 by unfold awy; rw [if_neg (by omega), if_neg (by omega), if_neg (by omega)]] at k9; exact k9)
        | exact absurd c30 (by omega)

theorem EQ_trip {I : Nat → Nat} {f f1 : Nat → Nat → Nat} {g : Nat → Nat → Int32} (h : ∀ k, k ≠ 12 → k ≠ 13 → k ≠ 14 → k ≠ 21 → f1 k = f k) : EQ (I, f, g) (I, f1, g) := EQ_of rfl rfl rfl (fun k q1 q2 q3 _ q5 => h k q1 q2 q3 q5) rfl
set_option maxHeartbeats 4000000 in
set_option maxRecDepth 100000 in
/-- free -/
theorem mc_X12_free {l : Launch} {E : EV} {A : Nat → Nat} {w0 : RW} {I : Nat → Nat} {f : Nat → Nat → Nat} {g : Nat → Nat → Int32} (hS : SI (I, f, g)) {x y z u : Int32} : MC l E yX12_free wsX12_free 4 0 0 [.ref (A 0), .int x, .int y, .int z, .int u] (WM E A w0 I f g) (mP E A w0 (rs_free (I, f, g) x y z u) ((I, f, g))) := by
  refine MC.enter (cc := cX12_free) (maxL := 5) (ret := (some .int)) (lv0 := [some (.ref (A 0)), some (.int x), some (.int y), some (.int z), some (.int u)]) (by decide) rfl (by simp [Value.category]) (Nat.le_of_ble_eq_true rfl) rfl ?_
  intro X hl hE C D
  subst hl
  subst hE
  have hB : mOK I f := hS.1
  by_cases hok : okNights (I, f, g) x y z u
  · have hP6 : I 1 ≤ 6 := hS.2.1
    obtain ⟨p, hp, rfl⟩ := rg_of hok.1 (by show I 1 < _; omega)
    obtain ⟨l9, hl9, rfl⟩ := rg_of hok.2.1 (by omega)
    obtain ⟨a, ha, rfl⟩ := rg_of hok.2.2.1 (by omega)
    obtain ⟨b, hb, rfl⟩ := rg_of hok.2.2.2.1 (by omega)
    have hab := hok.2.2.2.2
    rw [nI_toInt (by omega), nI_toInt (by omega)] at hab
    change p < I 1 at hp
    refine r_aload_n (pq := 1) C dX12_free_0 rfl rfl ?_
    refine r_iload_n (pq := 2) C dX12_free_1 rfl rfl ?_
    refine r_callV (pq := 5) C (mc_X12_isPerson hB) (WM_obj _ _ _ _ _ _) rfl gX12_free_X12_isPerson rfl (na := 1) (by decide +kernel) rfl (by decide) (by decide) (Nat.le_of_ble_eq_true rfl) ⟨Nat.zero_le _, Nat.zero_le _⟩ dX12_free_2 rfl rfl (fun r9 w9 hq => ?_)
    obtain ⟨rfl, rfl⟩ := hq
    dsimp only [Option.toList, List.cons_append, List.nil_append]
    have l2 := b2_lt (rg (nI p) (I 1))
    refine rN_if_eq (tg := 36) (pq := 8) C dX12_free_5 (by decide) rfl (by omega) (fun c5 => absurd c5 (b2_1.mpr (hok.1))) (fun c5 => ?_)
    refine r_iload_n (pq := 9) C dX12_free_8 rfl rfl ?_
    refine r_callS (pq := 12) C (mc_X12_isLand) gX12_free_X12_isLand rfl (na := 1) (by decide +kernel) rfl (by decide) (by decide) (Nat.le_of_ble_eq_true rfl) ⟨Nat.zero_le _, Nat.zero_le _⟩ dX12_free_9 rfl rfl (fun r9 w9 hq => ?_)
    obtain ⟨rfl, rfl⟩ := hq
    dsimp only [Option.toList, List.cons_append, List.nil_append]
    have l9x := b2_lt (rg (nI l9) 8)
    refine rN_if_eq (tg := 36) (pq := 15) C dX12_free_12 (by decide) rfl (by omega) (fun c12 => absurd c12 (b2_1.mpr (hok.2.1))) (fun c12 => ?_)
    refine r_iload_n (pq := 16) C dX12_free_15 rfl rfl ?_
    refine r_iload (pq := 18) C dX12_free_16 rfl rfl ?_
    refine r_callS (pq := 21) C (mc_X12_isSpan) gX12_free_X12_isSpan rfl (na := 2) (by decide +kernel) rfl (by decide) (by decide) (Nat.le_of_ble_eq_true rfl) ⟨Nat.zero_le _, Nat.zero_le _⟩ dX12_free_18 rfl rfl (fun r9 w9 hq => ?_)
    obtain ⟨rfl, rfl⟩ := hq
    dsimp only [Option.toList, List.cons_append, List.nil_append]
    have l18 := b2_lt (rg (nI a) 400 ∧ rg (nI b) 400 ∧ (nI a).toInt ≤ (nI b).toInt)
    refine rN_if_eq (tg := 36) (pq := 24) C dX12_free_21 (by decide) rfl (by omega) (fun c21 => absurd c21 (b2_1.mpr (hok.2.2))) (fun c21 => ?_)
    refine r_aload_n (pq := 25) C dX12_free_24 rfl rfl ?_
    refine r_iload_n (pq := 26) C dX12_free_25 rfl rfl ?_
    refine r_iload_n (pq := 27) C dX12_free_26 rfl rfl ?_
    refine r_iload_n (pq := 28) C dX12_free_27 rfl rfl ?_
    refine r_iload (pq := 30) C dX12_free_28 rfl rfl ?_
    refine r_callV (pq := 33) C (mc_X12_travel hS hp hl9 (by omega) hb) (WM_obj _ _ _ _ _ _) rfl gX12_free_X12_travel rfl (na := 4) (by decide +kernel) rfl (by decide) (by decide) (Nat.le_of_ble_eq_true rfl) ⟨Nat.zero_le _, Nat.zero_le _⟩ dX12_free_30 rfl rfl (fun r9 w9 hq => ?_)
    obtain ⟨rfl, f2, rfl, hB2, hk2, ht2⟩ := hq
    dsimp only [Option.toList, List.cons_append, List.nil_append]
    have zt := ps_le (h := tk (I, f, g) p l9 a b) (fun i => by unfold tk; split <;> omega) 400
    refine r_goto (tg := 37) C dX12_free_33 (by decide) ?_
    refine r_iret C D rfl ⟨Nat.le_refl _, Nat.le_refl _⟩ dX12_free_37 ?_
    refine ⟨?_, (_, _, _), rfl, hB2, EQ_trip hk2⟩
    unfold rs_free
    rw [if_pos hok, tn_nI (by omega), tn_nI (by omega), tn_nI (by omega), tn_nI (by omega)]
  · have hbad := hok
    refine r_aload_n (pq := 1) C dX12_free_0 rfl rfl ?_
    refine r_iload_n (pq := 2) C dX12_free_1 rfl rfl ?_
    refine r_callV (pq := 5) C (mc_X12_isPerson hB) (WM_obj _ _ _ _ _ _) rfl gX12_free_X12_isPerson rfl (na := 1) (by decide +kernel) rfl (by decide) (by decide) (Nat.le_of_ble_eq_true rfl) ⟨Nat.zero_le _, Nat.zero_le _⟩ dX12_free_2 rfl rfl (fun r9 w9 hq => ?_)
    obtain ⟨rfl, rfl⟩ := hq
    dsimp only [Option.toList, List.cons_append, List.nil_append]
    have l2 := b2_lt (rg x (I 1))
    refine rN_if_eq (tg := 36) (pq := 8) C dX12_free_5 (by decide) rfl (by omega) (fun c5 => ?_) (fun c5 => ?_)
    · refine r_iconst (v := (-1)) (pq := 37) C dX12_free_36 (by decide) rfl ?_
      refine r_iret C D rfl ⟨Nat.le_refl _, Nat.le_refl _⟩ dX12_free_37 ?_
      refine ⟨?_, (I, f, g), rfl, hB, ?_⟩
      · unfold rs_free
        rw [if_neg hbad]
      · exact EQ_rfl _
    · refine r_iload_n (pq := 9) C dX12_free_8 rfl rfl ?_
      refine r_callS (pq := 12) C (mc_X12_isLand) gX12_free_X12_isLand rfl (na := 1) (by decide +kernel) rfl (by decide) (by decide) (Nat.le_of_ble_eq_true rfl) ⟨Nat.zero_le _, Nat.zero_le _⟩ dX12_free_9 rfl rfl (fun r9 w9 hq => ?_)
      obtain ⟨rfl, rfl⟩ := hq
      dsimp only [Option.toList, List.cons_append, List.nil_append]
      have l9 := b2_lt (rg y 8)
      refine rN_if_eq (tg := 36) (pq := 15) C dX12_free_12 (by decide) rfl (by omega) (fun c12 => ?_) (fun c12 => ?_)
      · refine r_iconst (v := (-1)) (pq := 37) C dX12_free_36 (by decide) rfl ?_
        refine r_iret C D rfl ⟨Nat.le_refl _, Nat.le_refl _⟩ dX12_free_37 ?_
        refine ⟨?_, (I, f, g), rfl, hB, ?_⟩
        · unfold rs_free
          rw [if_neg hbad]
        · exact EQ_rfl _
      · refine r_iload_n (pq := 16) C dX12_free_15 rfl rfl ?_
        refine r_iload (pq := 18) C dX12_free_16 rfl rfl ?_
        refine r_callS (pq := 21) C (mc_X12_isSpan) gX12_free_X12_isSpan rfl (na := 2) (by decide +kernel) rfl (by decide) (by decide) (Nat.le_of_ble_eq_true rfl) ⟨Nat.zero_le _, Nat.zero_le _⟩ dX12_free_18 rfl rfl (fun r9 w9 hq => ?_)
        obtain ⟨rfl, rfl⟩ := hq
        dsimp only [Option.toList, List.cons_append, List.nil_append]
        have l18 := b2_lt (rg z 400 ∧ rg u 400 ∧ z.toInt ≤ u.toInt)
        refine rN_if_eq (tg := 36) (pq := 24) C dX12_free_21 (by decide) rfl (by omega) (fun c21 => ?_) (fun c21 => ?_)
        · refine r_iconst (v := (-1)) (pq := 37) C dX12_free_36 (by decide) rfl ?_
          refine r_iret C D rfl ⟨Nat.le_refl _, Nat.le_refl _⟩ dX12_free_37 ?_
          refine ⟨?_, (I, f, g), rfl, hB, ?_⟩
          · unfold rs_free
            rw [if_neg hbad]
          · exact EQ_rfl _
        · exact absurd ⟨b2_1.mp c5, b2_1.mp c12, b2_1.mp c21⟩ hbad

set_option maxHeartbeats 4000000 in
set_option maxRecDepth 100000 in
/-- trip -/
theorem mc_X12_trip {l : Launch} {E : EV} {A : Nat → Nat} {w0 : RW} {I : Nat → Nat} {f : Nat → Nat → Nat} {g : Nat → Nat → Int32} (hS : SI (I, f, g)) {x y z u v : Int32} : MC l E yX12_trip wsX12_trip 4 0 0 [.ref (A 0), .int x, .int y, .int z, .int u, .int v] (WM E A w0 I f g) (mP E A w0 (rs_trip (I, f, g) x y z u v) (I, f, g)) := by
  refine MC.enter (cc := cX12_trip) (maxL := 8) (ret := (some .int)) (lv0 := [some (.ref (A 0)), some (.int x), some (.int y), some (.int z), some (.int u), some (.int v), none, none]) (by decide) rfl (by simp [Value.category]) (Nat.le_of_ble_eq_true rfl) rfl ?_
  intro X hl hE C D
  subst hl
  subst hE
  have hB : mOK I f := hS.1
  by_cases hok : okNights (I, f, g) x y z u
  · have hP6 : I 1 ≤ 6 := hS.2.1
    obtain ⟨p, hp, rfl⟩ := rg_of hok.1 (by show I 1 < _; omega)
    obtain ⟨l9, hl9, rfl⟩ := rg_of hok.2.1 (by omega)
    obtain ⟨a, ha, rfl⟩ := rg_of hok.2.2.1 (by omega)
    obtain ⟨b, hb, rfl⟩ := rg_of hok.2.2.2.1 (by omega)
    have hab := hok.2.2.2.2
    rw [nI_toInt (by omega), nI_toInt (by omega)] at hab
    change p < I 1 at hp
    by_cases hv : 0 ≤ v.toInt
    · obtain ⟨i9, hi31, rfl⟩ : ∃ t : Nat, t < 2147483648 ∧ v = nI t := nI_of (fun h => by rw [lt_i] at h; have e0 : (0 : Int32).toInt = 0 := rfl; omega)
      have hok9 : okNights (I, f, g) (nI p) (nI l9) (nI a) (nI b) ∧ 0 ≤ (nI i9).toInt := ⟨hok, hv⟩
      have hlp : ∀ (f2 : Nat → Nat → Nat), mOK I f2 → (∀ k, k ≠ 12 → k ≠ 13 → k ≠ 14 → k ≠ 21 → f2 k = f k) → (∀ i, a ≤ i → i < b + 1 → f2 21 i = tk (I, f, g) p l9 a b i) → i9 < ps (tk (I, f, g) p l9 a b) 400 → ∀ (t d r : Nat), a ≤ d → d ≤ 400 → 400 - d < t → r < ps (tk (I, f, g) p l9 a b) 400 - ps (tk (I, f, g) p l9 a b) d → ith (tk (I, f, g) p l9 a b) 400 i9 a = ith (tk (I, f, g) p l9 a b) (400 - (d - a)) r d → GG X (WM (xE X) A w0 I f2 g) 0 0 55 [some (.ref (A 0)), some (.int (nI p)), some (.int (nI l9)), some (.int (nI a)), some (.int (nI b)), some (.int (nI i9)), some (.int (nI d)), some (.int (nI r))] [] := by
        intro f2 hB2 hk2 ht2 hi9 t
        induction t with
        | zero => intro d r h1 h2 h3; omega
        | succ t ih =>
          intro d r hd1 hd2 ht hr hit
          have zt := ps_le (h := tk (I, f, g) p l9 a b) (fun i => by unfold tk; split <;> omega) 400
          have hdb : d < b + 1 := by
            rcases Nat.lt_or_ge d (b + 1) with q | q
            · exact q
            · have e1 : ps (tk (I, f, g) p l9 a b) 400 = ps (tk (I, f, g) p l9 a b) d := by
                have e2 : ∀ m, ps (tk (I, f, g) p l9 a b) (d + m) = ps (tk (I, f, g) p l9 a b) d := fun m => by
                  induction m with
                  | zero => rfl
                  | succ m ihm =>
                    rw [show d + (m + 1) = (d + m) + 1 by omega]
                    simp only [ps]
                    rw [ihm, show tk (I, f, g) p l9 a b (d + m) = 0 by unfold tk; rw [if_neg (fun z => by omega)]]
                    rfl
                have := e2 (400 - d)
                rw [show d + (400 - d) = 400 by omega] at this
                exact this
              omega
          have e21 := ht2 d hd1 hdb
          have etk : tk (I, f, g) p l9 a b d ≤ 1 := by unfold tk; split <;> omega
          have eps : ps (tk (I, f, g) p l9 a b) (d + 1) = ps (tk (I, f, g) p l9 a b) d + tk (I, f, g) p l9 a b d := rfl
          have eit : ith (tk (I, f, g) p l9 a b) (400 - (d - a)) r d = if tk (I, f, g) p l9 a b d = 0 then ith (tk (I, f, g) p l9 a b) (400 - (d + 1 - a)) r (d + 1) else if r = 0 then d else ith (tk (I, f, g) p l9 a b) (400 - (d + 1 - a)) (r - 1) (d + 1) := by
            rw [show 400 - (d - a) = (400 - (d + 1 - a)) + 1 by omega]
            rfl
          refine r_aload_n (pq := 56) C dX12_trip_55 rfl rfl ?_
          refine m_geta (pq := 59) C 21 (by decide) rfl rfl (by decide +kernel) dX12_trip_56 rfl ?_
          refine r_iload (pq := 61) C dX12_trip_59 rfl rfl ?_
          refine m_zald (pq := 62) C hB2 21 400 rfl rfl (by decide) rfl (by decide) (by omega) dX12_trip_61 rfl (fun b61 => ?_)
          refine rN_if_eq (tg := 70) (pq := 65) C dX12_trip_62 (by decide) rfl (by omega) (fun c62 => ?_) (fun c62 => ?_)
          · refine r_iload (pq := 72) C dX12_trip_70 rfl rfl ?_
            refine r_aload_n (pq := 73) C dX12_trip_72 rfl rfl ?_
            refine m_geta (pq := 76) C 21 (by decide) rfl rfl (by decide +kernel) dX12_trip_73 rfl ?_
            refine r_iload (pq := 78) C dX12_trip_76 rfl rfl ?_
            refine m_zald (pq := 79) C hB2 21 400 rfl rfl (by decide) rfl (by decide) (by omega) dX12_trip_78 rfl (fun b78 => ?_)
            refine rN_if_eq (tg := 86) (pq := 82) C dX12_trip_79 (by decide) rfl (by omega) (fun c79 => ?_) (fun c79 => ?_)
            · refine r_iconst (v := nI 0) (pq := 87) C dX12_trip_86 (by decide) rfl ?_
              refine rN_isub (pq := 88) C dX12_trip_87 (by omega) rfl ?_
              refine r_istore (j := 7) (pq := 90) C dX12_trip_88 rfl (by decide) rfl rfl ?_
              dsimp only [List.set]
              refine rN_iinc (c := 1) (pq := 93) C dX12_trip_90 rfl (by decide) (by decide) rfl rfl ?_
              dsimp only [List.set]
              refine r_goto (tg := 55) C dX12_trip_93 (by decide) ?_
              refine ih (d + 1) _ (by omega) (by omega) (by omega) (by omega) ?_
              rw [hit, eit]
              first
              | (rw [if_pos (by omega)]; rfl)
              | (rw [if_neg (by omega), if_neg (by omega)])
            · refine r_iconst (v := nI 1) (pq := 83) C dX12_trip_82 (by decide) rfl ?_
              refine r_goto (tg := 87) C dX12_trip_83 (by decide) ?_
              refine rN_isub (pq := 88) C dX12_trip_87 (by omega) rfl ?_
              refine r_istore (j := 7) (pq := 90) C dX12_trip_88 rfl (by decide) rfl rfl ?_
              dsimp only [List.set]
              refine rN_iinc (c := 1) (pq := 93) C dX12_trip_90 rfl (by decide) (by decide) rfl rfl ?_
              dsimp only [List.set]
              refine r_goto (tg := 55) C dX12_trip_93 (by decide) ?_
              refine ih (d + 1) _ (by omega) (by omega) (by omega) (by omega) ?_
              rw [hit, eit]
              first
              | (rw [if_pos (by omega)]; rfl)
              | (rw [if_neg (by omega), if_neg (by omega)])
          · refine r_iload (pq := 67) C dX12_trip_65 rfl rfl ?_
            refine rN_if_le (tg := 96) (pq := 70) C dX12_trip_67 (by decide) rfl (by omega) (fun c67 => ?_) (fun c67 => ?_)
            · have hdone : ith (tk (I, f, g) p l9 a b) 400 i9 a = d := by rw [hit, eit, if_neg (by omega), if_pos (by omega)]
              refine r_iload (pq := 98) C dX12_trip_96 rfl rfl ?_
              refine r_iret C D rfl ⟨Nat.le_refl _, Nat.le_refl _⟩ dX12_trip_98 ?_
              refine ⟨?_, (_, _, _), rfl, hB2, EQ_trip hk2⟩
              unfold rs_trip
              rw [if_pos hok9, tn_nI (by omega), tn_nI (by omega), tn_nI (by omega), tn_nI (by omega), tn_nI hi31, if_neg (by omega), hdone]
            · refine r_iload (pq := 72) C dX12_trip_70 rfl rfl ?_
              refine r_aload_n (pq := 73) C dX12_trip_72 rfl rfl ?_
              refine m_geta (pq := 76) C 21 (by decide) rfl rfl (by decide +kernel) dX12_trip_73 rfl ?_
              refine r_iload (pq := 78) C dX12_trip_76 rfl rfl ?_
              refine m_zald (pq := 79) C hB2 21 400 rfl rfl (by decide) rfl (by decide) (by omega) dX12_trip_78 rfl (fun b78 => ?_)
              refine rN_if_eq (tg := 86) (pq := 82) C dX12_trip_79 (by decide) rfl (by omega) (fun c79 => ?_) (fun c79 => ?_)
              · refine r_iconst (v := nI 0) (pq := 87) C dX12_trip_86 (by decide) rfl ?_
                refine rN_isub (pq := 88) C dX12_trip_87 (by omega) rfl ?_
                refine r_istore (j := 7) (pq := 90) C dX12_trip_88 rfl (by decide) rfl rfl ?_
                dsimp only [List.set]
                refine rN_iinc (c := 1) (pq := 93) C dX12_trip_90 rfl (by decide) (by decide) rfl rfl ?_
                dsimp only [List.set]
                refine r_goto (tg := 55) C dX12_trip_93 (by decide) ?_
                refine ih (d + 1) _ (by omega) (by omega) (by omega) (by omega) ?_
                rw [hit, eit]
                first
                | (rw [if_pos (by omega)]; rfl)
                | (rw [if_neg (by omega), if_neg (by omega)])
              · refine r_iconst (v := nI 1) (pq := 83) C dX12_trip_82 (by decide) rfl ?_
                refine r_goto (tg := 87) C dX12_trip_83 (by decide) ?_
                refine rN_isub (pq := 88) C dX12_trip_87 (by omega) rfl ?_
                refine r_istore (j := 7) (pq := 90) C dX12_trip_88 rfl (by decide) rfl rfl ?_
                dsimp only [List.set]
                refine rN_iinc (c := 1) (pq := 93) C dX12_trip_90 rfl (by decide) (by decide) rfl rfl ?_
                dsimp only [List.set]
                refine r_goto (tg := 55) C dX12_trip_93 (by decide) ?_
                refine ih (d + 1) _ (by omega) (by omega) (by omega) (by omega) ?_
                rw [hit, eit]
                first
                | (rw [if_pos (by omega)]; rfl)
                | (rw [if_neg (by omega), if_neg (by omega)])
      refine r_aload_n (pq := 1) C dX12_trip_0 rfl rfl ?_
      refine r_iload_n (pq := 2) C dX12_trip_1 rfl rfl ?_
      refine r_callV (pq := 5) C (mc_X12_isPerson hB) (WM_obj _ _ _ _ _ _) rfl gX12_trip_X12_isPerson rfl (na := 1) (by decide +kernel) rfl (by decide) (by decide) (Nat.le_of_ble_eq_true rfl) ⟨Nat.zero_le _, Nat.zero_le _⟩ dX12_trip_2 rfl rfl (fun r9 w9 hq => ?_)
      obtain ⟨rfl, rfl⟩ := hq
      dsimp only [Option.toList, List.cons_append, List.nil_append]
      have l2 := b2_lt (rg (nI p) (I 1))
      refine rN_if_eq (tg := 29) (pq := 8) C dX12_trip_5 (by decide) rfl (by omega) (fun c5 => absurd c5 (b2_1.mpr hok.1)) (fun c5 => ?_)
      refine r_iload_n (pq := 9) C dX12_trip_8 rfl rfl ?_
      refine r_callS (pq := 12) C (mc_X12_isLand) gX12_trip_X12_isLand rfl (na := 1) (by decide +kernel) rfl (by decide) (by decide) (Nat.le_of_ble_eq_true rfl) ⟨Nat.zero_le _, Nat.zero_le _⟩ dX12_trip_9 rfl rfl (fun r9 w9 hq => ?_)
      obtain ⟨rfl, rfl⟩ := hq
      dsimp only [Option.toList, List.cons_append, List.nil_append]
      have l9x := b2_lt (rg (nI l9) 8)
      refine rN_if_eq (tg := 29) (pq := 15) C dX12_trip_12 (by decide) rfl (by omega) (fun c12 => absurd c12 (b2_1.mpr hok.2.1)) (fun c12 => ?_)
      refine r_iload_n (pq := 16) C dX12_trip_15 rfl rfl ?_
      refine r_iload (pq := 18) C dX12_trip_16 rfl rfl ?_
      refine r_callS (pq := 21) C (mc_X12_isSpan) gX12_trip_X12_isSpan rfl (na := 2) (by decide +kernel) rfl (by decide) (by decide) (Nat.le_of_ble_eq_true rfl) ⟨Nat.zero_le _, Nat.zero_le _⟩ dX12_trip_18 rfl rfl (fun r9 w9 hq => ?_)
      obtain ⟨rfl, rfl⟩ := hq
      dsimp only [Option.toList, List.cons_append, List.nil_append]
      have l18 := b2_lt (rg (nI a) 400 ∧ rg (nI b) 400 ∧ (nI a).toInt ≤ (nI b).toInt)
      refine rN_if_eq (tg := 29) (pq := 24) C dX12_trip_21 (by decide) rfl (by omega) (fun c21 => absurd c21 (b2_1.mpr hok.2.2)) (fun c21 => ?_)
      refine r_iload (pq := 26) C dX12_trip_24 rfl rfl ?_
      refine rN_if_ge (tg := 31) (pq := 29) C dX12_trip_26 (by decide) rfl (by omega) ?_
      refine r_iload (pq := 33) C dX12_trip_31 rfl rfl ?_
      refine r_aload_n (pq := 34) C dX12_trip_33 rfl rfl ?_
      refine r_iload_n (pq := 35) C dX12_trip_34 rfl rfl ?_
      refine r_iload_n (pq := 36) C dX12_trip_35 rfl rfl ?_
      refine r_iload_n (pq := 37) C dX12_trip_36 rfl rfl ?_
      refine r_iload (pq := 39) C dX12_trip_37 rfl rfl ?_
      refine r_callV (pq := 42) C (mc_X12_travel hS hp hl9 (by omega) hb) (WM_obj _ _ _ _ _ _) rfl gX12_trip_X12_travel rfl (na := 4) (by decide +kernel) rfl (by decide) (by decide) (Nat.le_of_ble_eq_true rfl) ⟨Nat.zero_le _, Nat.zero_le _⟩ dX12_trip_39 rfl rfl (fun r9 w9 hq => ?_)
      obtain ⟨rfl, f2, rfl, hB2, hk2, ht2⟩ := hq
      dsimp only [Option.toList, List.cons_append, List.nil_append]
      have zt := ps_le (h := tk (I, f, g) p l9 a b) (fun i => by unfold tk; split <;> omega) 400
      refine rN_icmp_lt (tg := 48) (pq := 45) C dX12_trip_42 (by decide) rfl (by omega) (by omega) (fun c42 => ?_) (fun c42 => ?_)
      · refine r_iload_n (pq := 49) C dX12_trip_48 rfl rfl ?_
        refine r_istore (j := 6) (pq := 51) C dX12_trip_49 rfl (by decide) rfl rfl ?_
        dsimp only [List.set]
        refine r_iload (pq := 53) C dX12_trip_51 rfl rfl ?_
        refine r_istore (j := 7) (pq := 55) C dX12_trip_53 rfl (by decide) rfl rfl ?_
        dsimp only [List.set]
        exact hlp f2 hB2 hk2 ht2 (by omega) (401 - a) a i9 (Nat.le_refl a) (by omega) (by omega) (by rw [show ps (tk (I, f, g) p l9 a b) a = 0 from ps_zero (fun i hi => by unfold tk; rw [if_neg (fun z => by omega)])]; omega) (by rw [Nat.sub_self])
      · refine r_bipush (v := (-2)) (pq := 47) C dX12_trip_45 (by decide) rfl ?_
        refine r_iret C D rfl ⟨Nat.le_refl _, Nat.le_refl _⟩ dX12_trip_47 ?_
        refine ⟨?_, (_, _, _), rfl, hB2, EQ_trip hk2⟩
        unfold rs_trip
        rw [if_pos hok9, tn_nI (by omega), tn_nI (by omega), tn_nI (by omega), tn_nI (by omega), tn_nI hi31, if_pos (by omega)]
    · refine r_aload_n (pq := 1) C dX12_trip_0 rfl rfl ?_
      refine r_iload_n (pq := 2) C dX12_trip_1 rfl rfl ?_
      refine r_callV (pq := 5) C (mc_X12_isPerson hB) (WM_obj _ _ _ _ _ _) rfl gX12_trip_X12_isPerson rfl (na := 1) (by decide +kernel) rfl (by decide) (by decide) (Nat.le_of_ble_eq_true rfl) ⟨Nat.zero_le _, Nat.zero_le _⟩ dX12_trip_2 rfl rfl (fun r9 w9 hq => ?_)
      obtain ⟨rfl, rfl⟩ := hq
      dsimp only [Option.toList, List.cons_append, List.nil_append]
      have l2 := b2_lt (rg (nI p) (I 1))
      refine rN_if_eq (tg := 29) (pq := 8) C dX12_trip_5 (by decide) rfl (by omega) (fun c5 => absurd c5 (b2_1.mpr hok.1)) (fun c5 => ?_)
      refine r_iload_n (pq := 9) C dX12_trip_8 rfl rfl ?_
      refine r_callS (pq := 12) C (mc_X12_isLand) gX12_trip_X12_isLand rfl (na := 1) (by decide +kernel) rfl (by decide) (by decide) (Nat.le_of_ble_eq_true rfl) ⟨Nat.zero_le _, Nat.zero_le _⟩ dX12_trip_9 rfl rfl (fun r9 w9 hq => ?_)
      obtain ⟨rfl, rfl⟩ := hq
      dsimp only [Option.toList, List.cons_append, List.nil_append]
      have l9x := b2_lt (rg (nI l9) 8)
      refine rN_if_eq (tg := 29) (pq := 15) C dX12_trip_12 (by decide) rfl (by omega) (fun c12 => absurd c12 (b2_1.mpr hok.2.1)) (fun c12 => ?_)
      refine r_iload_n (pq := 16) C dX12_trip_15 rfl rfl ?_
      refine r_iload (pq := 18) C dX12_trip_16 rfl rfl ?_
      refine r_callS (pq := 21) C (mc_X12_isSpan) gX12_trip_X12_isSpan rfl (na := 2) (by decide +kernel) rfl (by decide) (by decide) (Nat.le_of_ble_eq_true rfl) ⟨Nat.zero_le _, Nat.zero_le _⟩ dX12_trip_18 rfl rfl (fun r9 w9 hq => ?_)
      obtain ⟨rfl, rfl⟩ := hq
      dsimp only [Option.toList, List.cons_append, List.nil_append]
      have l18 := b2_lt (rg (nI a) 400 ∧ rg (nI b) 400 ∧ (nI a).toInt ≤ (nI b).toInt)
      refine rN_if_eq (tg := 29) (pq := 24) C dX12_trip_21 (by decide) rfl (by omega) (fun c21 => absurd c21 (b2_1.mpr hok.2.2)) (fun c21 => ?_)
      refine r_iload (pq := 26) C dX12_trip_24 rfl rfl ?_
      refine r_if_ge (tg := 31) (pq := 29) C dX12_trip_26 (by decide) rfl (fun c26 => absurd (le_i.mp c26) hv) (fun c26 => ?_)
      refine r_iconst (v := (-1)) (pq := 30) C dX12_trip_29 (by decide) rfl ?_
      refine r_iret C D rfl ⟨Nat.le_refl _, Nat.le_refl _⟩ dX12_trip_30 ?_
      refine ⟨?_, (I, f, g), rfl, hB, EQ_rfl _⟩
      unfold rs_trip
      rw [if_neg (fun h => hv h.2)]
  · refine r_aload_n (pq := 1) C dX12_trip_0 rfl rfl ?_
    refine r_iload_n (pq := 2) C dX12_trip_1 rfl rfl ?_
    refine r_callV (pq := 5) C (mc_X12_isPerson hB) (WM_obj _ _ _ _ _ _) rfl gX12_trip_X12_isPerson rfl (na := 1) (by decide +kernel) rfl (by decide) (by decide) (Nat.le_of_ble_eq_true rfl) ⟨Nat.zero_le _, Nat.zero_le _⟩ dX12_trip_2 rfl rfl (fun r9 w9 hq => ?_)
    obtain ⟨rfl, rfl⟩ := hq
    dsimp only [Option.toList, List.cons_append, List.nil_append]
    have l2 := b2_lt (rg x (I 1))
    refine rN_if_eq (tg := 29) (pq := 8) C dX12_trip_5 (by decide) rfl (by omega) (fun c5 => ?_) (fun c5 => ?_)
    · refine r_iconst (v := (-1)) (pq := 30) C dX12_trip_29 (by decide) rfl ?_
      refine r_iret C D rfl ⟨Nat.le_refl _, Nat.le_refl _⟩ dX12_trip_30 ?_
      refine ⟨?_, (I, f, g), rfl, hB, EQ_rfl _⟩
      unfold rs_trip
      rw [if_neg (fun h => hok h.1)]
    · refine r_iload_n (pq := 9) C dX12_trip_8 rfl rfl ?_
      refine r_callS (pq := 12) C (mc_X12_isLand) gX12_trip_X12_isLand rfl (na := 1) (by decide +kernel) rfl (by decide) (by decide) (Nat.le_of_ble_eq_true rfl) ⟨Nat.zero_le _, Nat.zero_le _⟩ dX12_trip_9 rfl rfl (fun r9 w9 hq => ?_)
      obtain ⟨rfl, rfl⟩ := hq
      dsimp only [Option.toList, List.cons_append, List.nil_append]
      have l9x := b2_lt (rg y 8)
      refine rN_if_eq (tg := 29) (pq := 15) C dX12_trip_12 (by decide) rfl (by omega) (fun c12 => ?_) (fun c12 => ?_)
      · refine r_iconst (v := (-1)) (pq := 30) C dX12_trip_29 (by decide) rfl ?_
        refine r_iret C D rfl ⟨Nat.le_refl _, Nat.le_refl _⟩ dX12_trip_30 ?_
        refine ⟨?_, (I, f, g), rfl, hB, EQ_rfl _⟩
        unfold rs_trip
        rw [if_neg (fun h => hok h.1)]
      · refine r_iload_n (pq := 16) C dX12_trip_15 rfl rfl ?_
        refine r_iload (pq := 18) C dX12_trip_16 rfl rfl ?_
        refine r_callS (pq := 21) C (mc_X12_isSpan) gX12_trip_X12_isSpan rfl (na := 2) (by decide +kernel) rfl (by decide) (by decide) (Nat.le_of_ble_eq_true rfl) ⟨Nat.zero_le _, Nat.zero_le _⟩ dX12_trip_18 rfl rfl (fun r9 w9 hq => ?_)
        obtain ⟨rfl, rfl⟩ := hq
        dsimp only [Option.toList, List.cons_append, List.nil_append]
        have l18 := b2_lt (rg z 400 ∧ rg u 400 ∧ z.toInt ≤ u.toInt)
        refine rN_if_eq (tg := 29) (pq := 24) C dX12_trip_21 (by decide) rfl (by omega) (fun c21 => ?_) (fun c21 => ?_)
        · refine r_iconst (v := (-1)) (pq := 30) C dX12_trip_29 (by decide) rfl ?_
          refine r_iret C D rfl ⟨Nat.le_refl _, Nat.le_refl _⟩ dX12_trip_30 ?_
          refine ⟨?_, (I, f, g), rfl, hB, EQ_rfl _⟩
          unfold rs_trip
          rw [if_neg (fun h => hok h.1)]
        · exact absurd ⟨b2_1.mp c5, b2_1.mp c12, b2_1.mp c21⟩ hok


/-! ===== the reference: rows on shelves ===== -/
theorem EQ_of3 {I : Nat → Nat} {f f' : Nat → Nat → Nat} {g g' : Nat → Nat → Int32} (hf : ∀ k, k ≠ 12 → k ≠ 13 → k ≠ 14 → k ≠ 15 → k ≠ 21 → f' k = f k) (h20 : g' 20 = g 20) (h23 : g' 23 = g 23) (h25 : ∀ d, d < 8 → f 24 d = 1 ∨ f 24 d = 2 → g' 25 d = g 25 d) (h27 : ∀ d, d < 8 → 3 ≤ f 24 d → ∀ i, i < f 26 d → g' 27 (400 * d + i) = g 27 (400 * d + i)) : EQ (I, f, g) (I, f', g') := by
  have e := EQ_of (I := I) (I' := I) (f := f) (f' := f') (g := g) (g' := g) rfl rfl rfl hf rfl
  obtain ⟨e1, e2, e3, e4, e5, e6, e7, e8, e9⟩ := e
  refine ⟨e1, e2, e3, e4, e5, fun j hj => ⟨(e6 j hj).1, (e6 j hj).2.1, (e6 j hj).2.2.1, ?_⟩, e7, fun k hk => ?_, fun d hd => ⟨(e9 d hd).1, h25 d hd, (e9 d hd).2.2.1, h27 d hd⟩⟩
  · show g' 20 j = g 20 j
    rw [h20]
  · show g' 23 k = g 23 k
    rw [h23]

set_option maxHeartbeats 4000000 in
set_option maxRecDepth 100000 in
/-- isThing -/
theorem mc_X12_isThing {l : Launch} {E : EV} {A : Nat → Nat} {w0 : RW} {I : Nat → Nat} {f : Nat → Nat → Nat} {g : Nat → Nat → Int32} (hB : mOK I f) {w9 : Nat} {k : Int32} (hw : w9 < 5) : MC l E yX12_isThing wsX12_isThing 2 0 0 [.ref (A 0), .int (nI w9), .int k] (WM E A w0 I f g) (fun r w' => w' = WM E A w0 I f g ∧ r = some (.int (nI (b2 (w9 = 0 ∨ (w9 = 1 ∧ rg k (I 16)) ∨ (w9 = 2 ∧ rg k (I 5)) ∨ (3 ≤ w9 ∧ rg k (I 1))))))) := by
  refine MC.enter (cc := cX12_isThing) (maxL := 3) (ret := (some .boolean)) (lv0 := [some (.ref (A 0)), some (.int (nI w9)), some (.int k)]) (by decide) rfl (by simp [Value.category]) (Nat.le_of_ble_eq_true rfl) rfl ?_
  intro X hl hE C D
  subst hl
  subst hE
  refine r_iload_n (pq := 1) C dX12_isThing_0 rfl rfl ?_
  refine rN_if_eq (tg := 44) (pq := 4) C dX12_isThing_1 (by decide) rfl (by omega) (fun c1 => ?_) (fun c1 => ?_)
  · refine r_iconst (v := nI 1) (pq := 45) C dX12_isThing_44 (by decide) rfl ?_
    refine r_goto (tg := 49) C dX12_isThing_45 (by decide) ?_
    refine r_zret C D rfl (by decide) ⟨Nat.le_refl _, Nat.le_refl _⟩ dX12_isThing_49 ?_
    refine ⟨rfl, ?_⟩
    first
    | rw [b2_t (c := (w9 = 0 ∨ (w9 = 1 ∧ rg k (I 16)) ∨ (w9 = 2 ∧ rg k (I 5)) ∨ (3 ≤ w9 ∧ rg k (I 1)))) (Or.inl (by omega))]
    | rw [b2_t (c := (w9 = 0 ∨ (w9 = 1 ∧ rg k (I 16)) ∨ (w9 = 2 ∧ rg k (I 5)) ∨ (3 ≤ w9 ∧ rg k (I 1)))) (Or.inr (Or.inl ⟨by omega, b2_1.mp c14⟩))]
    | rw [b2_t (c := (w9 = 0 ∨ (w9 = 1 ∧ rg k (I 16)) ∨ (w9 = 2 ∧ rg k (I 5)) ∨ (3 ≤ w9 ∧ rg k (I 1)))) (Or.inr (Or.inr (Or.inl ⟨by omega, b2_1.mp c30⟩)))]
    | rw [b2_t (c := (w9 = 0 ∨ (w9 = 1 ∧ rg k (I 16)) ∨ (w9 = 2 ∧ rg k (I 5)) ∨ (3 ≤ w9 ∧ rg k (I 1)))) (Or.inr (Or.inr (Or.inr ⟨by omega, b2_1.mp c41⟩)))]
    | rw [b2_f (c := (w9 = 0 ∨ (w9 = 1 ∧ rg k (I 16)) ∨ (w9 = 2 ∧ rg k (I 5)) ∨ (3 ≤ w9 ∧ rg k (I 1)))) (fun z => by rcases z with z | ⟨z1, z2⟩ | ⟨z1, z2⟩ | ⟨z1, z2⟩; omega; exact b2_0.mp c14 z2; omega; omega)]
    | rw [b2_f (c := (w9 = 0 ∨ (w9 = 1 ∧ rg k (I 16)) ∨ (w9 = 2 ∧ rg k (I 5)) ∨ (3 ≤ w9 ∧ rg k (I 1)))) (fun z => by rcases z with z | ⟨z1, z2⟩ | ⟨z1, z2⟩ | ⟨z1, z2⟩; omega; omega; exact b2_0.mp c30 z2; omega)]
    | rw [b2_f (c := (w9 = 0 ∨ (w9 = 1 ∧ rg k (I 16)) ∨ (w9 = 2 ∧ rg k (I 5)) ∨ (3 ≤ w9 ∧ rg k (I 1)))) (fun z => by rcases z with z | ⟨z1, z2⟩ | ⟨z1, z2⟩ | ⟨z1, z2⟩; omega; omega; omega; exact b2_0.mp c41 z2)]
  · refine r_iload_n (pq := 5) C dX12_isThing_4 rfl rfl ?_
    refine r_iconst (v := nI 1) (pq := 6) C dX12_isThing_5 (by decide) rfl ?_
    refine rN_icmp_ne (tg := 20) (pq := 9) C dX12_isThing_6 (by decide) rfl (by omega) (by omega) (fun c6 => ?_) (fun c6 => ?_)
    · refine r_iload_n (pq := 21) C dX12_isThing_20 rfl rfl ?_
      refine r_iconst (v := nI 2) (pq := 22) C dX12_isThing_21 (by decide) rfl ?_
      refine rN_icmp_ne (tg := 36) (pq := 25) C dX12_isThing_22 (by decide) rfl (by omega) (by omega) (fun c22 => ?_) (fun c22 => ?_)
      · refine r_aload_n (pq := 37) C dX12_isThing_36 rfl rfl ?_
        refine r_iload_n (pq := 38) C dX12_isThing_37 rfl rfl ?_
        refine r_callV (pq := 41) C (mc_X12_isPerson hB) (WM_obj _ _ _ _ _ _) rfl gX12_isThing_X12_isPerson rfl (na := 1) (by decide +kernel) rfl (by decide) (by decide) (Nat.le_of_ble_eq_true rfl) ⟨Nat.zero_le _, Nat.zero_le _⟩ dX12_isThing_38 rfl rfl (fun r9 w9 hq => ?_)
        obtain ⟨rfl, rfl⟩ := hq
        dsimp only [Option.toList, List.cons_append, List.nil_append]
        have l38 := b2_lt (rg k (I 1))
        refine rN_if_eq (tg := 48) (pq := 44) C dX12_isThing_41 (by decide) rfl (by omega) (fun c41 => ?_) (fun c41 => ?_)
        · refine r_iconst (v := nI 0) (pq := 49) C dX12_isThing_48 (by decide) rfl ?_
          refine r_zret C D rfl (by decide) ⟨Nat.le_refl _, Nat.le_refl _⟩ dX12_isThing_49 ?_
          refine ⟨rfl, ?_⟩
          first
          | rw [b2_t (c := (w9 = 0 ∨ (w9 = 1 ∧ rg k (I 16)) ∨ (w9 = 2 ∧ rg k (I 5)) ∨ (3 ≤ w9 ∧ rg k (I 1)))) (Or.inl (by omega))]
          | rw [b2_t (c := (w9 = 0 ∨ (w9 = 1 ∧ rg k (I 16)) ∨ (w9 = 2 ∧ rg k (I 5)) ∨ (3 ≤ w9 ∧ rg k (I 1)))) (Or.inr (Or.inl ⟨by omega, b2_1.mp c14⟩))]
          | rw [b2_t (c := (w9 = 0 ∨ (w9 = 1 ∧ rg k (I 16)) ∨ (w9 = 2 ∧ rg k (I 5)) ∨ (3 ≤ w9 ∧ rg k (I 1)))) (Or.inr (Or.inr (Or.inl ⟨by omega, b2_1.mp c30⟩)))]
          | rw [b2_t (c := (w9 = 0 ∨ (w9 = 1 ∧ rg k (I 16)) ∨ (w9 = 2 ∧ rg k (I 5)) ∨ (3 ≤ w9 ∧ rg k (I 1)))) (Or.inr (Or.inr (Or.inr ⟨by omega, b2_1.mp c41⟩)))]
          | rw [b2_f (c := (w9 = 0 ∨ (w9 = 1 ∧ rg k (I 16)) ∨ (w9 = 2 ∧ rg k (I 5)) ∨ (3 ≤ w9 ∧ rg k (I 1)))) (fun z => by rcases z with z | ⟨z1, z2⟩ | ⟨z1, z2⟩ | ⟨z1, z2⟩; omega; exact b2_0.mp c14 z2; omega; omega)]
          | rw [b2_f (c := (w9 = 0 ∨ (w9 = 1 ∧ rg k (I 16)) ∨ (w9 = 2 ∧ rg k (I 5)) ∨ (3 ≤ w9 ∧ rg k (I 1)))) (fun z => by rcases z with z | ⟨z1, z2⟩ | ⟨z1, z2⟩ | ⟨z1, z2⟩; omega; omega; exact b2_0.mp c30 z2; omega)]
          | rw [b2_f (c := (w9 = 0 ∨ (w9 = 1 ∧ rg k (I 16)) ∨ (w9 = 2 ∧ rg k (I 5)) ∨ (3 ≤ w9 ∧ rg k (I 1)))) (fun z => by rcases z with z | ⟨z1, z2⟩ | ⟨z1, z2⟩ | ⟨z1, z2⟩; omega; omega; omega; exact b2_0.mp c41 z2)]
        · refine r_iconst (v := nI 1) (pq := 45) C dX12_isThing_44 (by decide) rfl ?_
          refine r_goto (tg := 49) C dX12_isThing_45 (by decide) ?_
          refine r_zret C D rfl (by decide) ⟨Nat.le_refl _, Nat.le_refl _⟩ dX12_isThing_49 ?_
          refine ⟨rfl, ?_⟩
          first
          | rw [b2_t (c := (w9 = 0 ∨ (w9 = 1 ∧ rg k (I 16)) ∨ (w9 = 2 ∧ rg k (I 5)) ∨ (3 ≤ w9 ∧ rg k (I 1)))) (Or.inl (by omega))]
          | rw [b2_t (c := (w9 = 0 ∨ (w9 = 1 ∧ rg k (I 16)) ∨ (w9 = 2 ∧ rg k (I 5)) ∨ (3 ≤ w9 ∧ rg k (I 1)))) (Or.inr (Or.inl ⟨by omega, b2_1.mp c14⟩))]
          | rw [b2_t (c := (w9 = 0 ∨ (w9 = 1 ∧ rg k (I 16)) ∨ (w9 = 2 ∧ rg k (I 5)) ∨ (3 ≤ w9 ∧ rg k (I 1)))) (Or.inr (Or.inr (Or.inl ⟨by omega, b2_1.mp c30⟩)))]
          | rw [b2_t (c := (w9 = 0 ∨ (w9 = 1 ∧ rg k (I 16)) ∨ (w9 = 2 ∧ rg k (I 5)) ∨ (3 ≤ w9 ∧ rg k (I 1)))) (Or.inr (Or.inr (Or.inr ⟨by omega, b2_1.mp c41⟩)))]
          | rw [b2_f (c := (w9 = 0 ∨ (w9 = 1 ∧ rg k (I 16)) ∨ (w9 = 2 ∧ rg k (I 5)) ∨ (3 ≤ w9 ∧ rg k (I 1)))) (fun z => by rcases z with z | ⟨z1, z2⟩ | ⟨z1, z2⟩ | ⟨z1, z2⟩; omega; exact b2_0.mp c14 z2; omega; omega)]
          | rw [b2_f (c := (w9 = 0 ∨ (w9 = 1 ∧ rg k (I 16)) ∨ (w9 = 2 ∧ rg k (I 5)) ∨ (3 ≤ w9 ∧ rg k (I 1)))) (fun z => by rcases z with z | ⟨z1, z2⟩ | ⟨z1, z2⟩ | ⟨z1, z2⟩; omega; omega; exact b2_0.mp c30 z2; omega)]
          | rw [b2_f (c := (w9 = 0 ∨ (w9 = 1 ∧ rg k (I 16)) ∨ (w9 = 2 ∧ rg k (I 5)) ∨ (3 ≤ w9 ∧ rg k (I 1)))) (fun z => by rcases z with z | ⟨z1, z2⟩ | ⟨z1, z2⟩ | ⟨z1, z2⟩; omega; omega; omega; exact b2_0.mp c41 z2)]
      · refine r_aload_n (pq := 26) C dX12_isThing_25 rfl rfl ?_
        refine r_iload_n (pq := 27) C dX12_isThing_26 rfl rfl ?_
        refine r_callV (pq := 30) C (mc_X12_isMark hB) (WM_obj _ _ _ _ _ _) rfl gX12_isThing_X12_isMark rfl (na := 1) (by decide +kernel) rfl (by decide) (by decide) (Nat.le_of_ble_eq_true rfl) ⟨Nat.zero_le _, Nat.zero_le _⟩ dX12_isThing_27 rfl rfl (fun r9 w9 hq => ?_)
        obtain ⟨rfl, rfl⟩ := hq
        dsimp only [Option.toList, List.cons_append, List.nil_append]
        have l27 := b2_lt (rg k (I 5))
        refine rN_if_eq (tg := 48) (pq := 33) C dX12_isThing_30 (by decide) rfl (by omega) (fun c30 => ?_) (fun c30 => ?_)
        · refine r_iconst (v := nI 0) (pq := 49) C dX12_isThing_48 (by decide) rfl ?_
          refine r_zret C D rfl (by decide) ⟨Nat.le_refl _, Nat.le_refl _⟩ dX12_isThing_49 ?_
          refine ⟨rfl, ?_⟩
          first
          | rw [b2_t (c := (w9 = 0 ∨ (w9 = 1 ∧ rg k (I 16)) ∨ (w9 = 2 ∧ rg k (I 5)) ∨ (3 ≤ w9 ∧ rg k (I 1)))) (Or.inl (by omega))]
          | rw [b2_t (c := (w9 = 0 ∨ (w9 = 1 ∧ rg k (I 16)) ∨ (w9 = 2 ∧ rg k (I 5)) ∨ (3 ≤ w9 ∧ rg k (I 1)))) (Or.inr (Or.inl ⟨by omega, b2_1.mp c14⟩))]
          | rw [b2_t (c := (w9 = 0 ∨ (w9 = 1 ∧ rg k (I 16)) ∨ (w9 = 2 ∧ rg k (I 5)) ∨ (3 ≤ w9 ∧ rg k (I 1)))) (Or.inr (Or.inr (Or.inl ⟨by omega, b2_1.mp c30⟩)))]
          | rw [b2_t (c := (w9 = 0 ∨ (w9 = 1 ∧ rg k (I 16)) ∨ (w9 = 2 ∧ rg k (I 5)) ∨ (3 ≤ w9 ∧ rg k (I 1)))) (Or.inr (Or.inr (Or.inr ⟨by omega, b2_1.mp c41⟩)))]
          | rw [b2_f (c := (w9 = 0 ∨ (w9 = 1 ∧ rg k (I 16)) ∨ (w9 = 2 ∧ rg k (I 5)) ∨ (3 ≤ w9 ∧ rg k (I 1)))) (fun z => by rcases z with z | ⟨z1, z2⟩ | ⟨z1, z2⟩ | ⟨z1, z2⟩; omega; exact b2_0.mp c14 z2; omega; omega)]
          | rw [b2_f (c := (w9 = 0 ∨ (w9 = 1 ∧ rg k (I 16)) ∨ (w9 = 2 ∧ rg k (I 5)) ∨ (3 ≤ w9 ∧ rg k (I 1)))) (fun z => by rcases z with z | ⟨z1, z2⟩ | ⟨z1, z2⟩ | ⟨z1, z2⟩; omega; omega; exact b2_0.mp c30 z2; omega)]
          | rw [b2_f (c := (w9 = 0 ∨ (w9 = 1 ∧ rg k (I 16)) ∨ (w9 = 2 ∧ rg k (I 5)) ∨ (3 ≤ w9 ∧ rg k (I 1)))) (fun z => by rcases z with z | ⟨z1, z2⟩ | ⟨z1, z2⟩ | ⟨z1, z2⟩; omega; omega; omega; exact b2_0.mp c41 z2)]
        · refine r_goto (tg := 44) C dX12_isThing_33 (by decide) ?_
          refine r_iconst (v := nI 1) (pq := 45) C dX12_isThing_44 (by decide) rfl ?_
          refine r_goto (tg := 49) C dX12_isThing_45 (by decide) ?_
          refine r_zret C D rfl (by decide) ⟨Nat.le_refl _, Nat.le_refl _⟩ dX12_isThing_49 ?_
          refine ⟨rfl, ?_⟩
          first
          | rw [b2_t (c := (w9 = 0 ∨ (w9 = 1 ∧ rg k (I 16)) ∨ (w9 = 2 ∧ rg k (I 5)) ∨ (3 ≤ w9 ∧ rg k (I 1)))) (Or.inl (by omega))]
          | rw [b2_t (c := (w9 = 0 ∨ (w9 = 1 ∧ rg k (I 16)) ∨ (w9 = 2 ∧ rg k (I 5)) ∨ (3 ≤ w9 ∧ rg k (I 1)))) (Or.inr (Or.inl ⟨by omega, b2_1.mp c14⟩))]
          | rw [b2_t (c := (w9 = 0 ∨ (w9 = 1 ∧ rg k (I 16)) ∨ (w9 = 2 ∧ rg k (I 5)) ∨ (3 ≤ w9 ∧ rg k (I 1)))) (Or.inr (Or.inr (Or.inl ⟨by omega, b2_1.mp c30⟩)))]
          | rw [b2_t (c := (w9 = 0 ∨ (w9 = 1 ∧ rg k (I 16)) ∨ (w9 = 2 ∧ rg k (I 5)) ∨ (3 ≤ w9 ∧ rg k (I 1)))) (Or.inr (Or.inr (Or.inr ⟨by omega, b2_1.mp c41⟩)))]
          | rw [b2_f (c := (w9 = 0 ∨ (w9 = 1 ∧ rg k (I 16)) ∨ (w9 = 2 ∧ rg k (I 5)) ∨ (3 ≤ w9 ∧ rg k (I 1)))) (fun z => by rcases z with z | ⟨z1, z2⟩ | ⟨z1, z2⟩ | ⟨z1, z2⟩; omega; exact b2_0.mp c14 z2; omega; omega)]
          | rw [b2_f (c := (w9 = 0 ∨ (w9 = 1 ∧ rg k (I 16)) ∨ (w9 = 2 ∧ rg k (I 5)) ∨ (3 ≤ w9 ∧ rg k (I 1)))) (fun z => by rcases z with z | ⟨z1, z2⟩ | ⟨z1, z2⟩ | ⟨z1, z2⟩; omega; omega; exact b2_0.mp c30 z2; omega)]
          | rw [b2_f (c := (w9 = 0 ∨ (w9 = 1 ∧ rg k (I 16)) ∨ (w9 = 2 ∧ rg k (I 5)) ∨ (3 ≤ w9 ∧ rg k (I 1)))) (fun z => by rcases z with z | ⟨z1, z2⟩ | ⟨z1, z2⟩ | ⟨z1, z2⟩; omega; omega; omega; exact b2_0.mp c41 z2)]
    · refine r_aload_n (pq := 10) C dX12_isThing_9 rfl rfl ?_
      refine r_iload_n (pq := 11) C dX12_isThing_10 rfl rfl ?_
      refine r_callV (pq := 14) C (mc_X12_isLaw hB) (WM_obj _ _ _ _ _ _) rfl gX12_isThing_X12_isLaw rfl (na := 1) (by decide +kernel) rfl (by decide) (by decide) (Nat.le_of_ble_eq_true rfl) ⟨Nat.zero_le _, Nat.zero_le _⟩ dX12_isThing_11 rfl rfl (fun r9 w9 hq => ?_)
      obtain ⟨rfl, rfl⟩ := hq
      dsimp only [Option.toList, List.cons_append, List.nil_append]
      have l11 := b2_lt (rg k (I 16))
      refine rN_if_eq (tg := 48) (pq := 17) C dX12_isThing_14 (by decide) rfl (by omega) (fun c14 => ?_) (fun c14 => ?_)
      · refine r_iconst (v := nI 0) (pq := 49) C dX12_isThing_48 (by decide) rfl ?_
        refine r_zret C D rfl (by decide) ⟨Nat.le_refl _, Nat.le_refl _⟩ dX12_isThing_49 ?_
        refine ⟨rfl, ?_⟩
        first
        | rw [b2_t (c := (w9 = 0 ∨ (w9 = 1 ∧ rg k (I 16)) ∨ (w9 = 2 ∧ rg k (I 5)) ∨ (3 ≤ w9 ∧ rg k (I 1)))) (Or.inl (by omega))]
        | rw [b2_t (c := (w9 = 0 ∨ (w9 = 1 ∧ rg k (I 16)) ∨ (w9 = 2 ∧ rg k (I 5)) ∨ (3 ≤ w9 ∧ rg k (I 1)))) (Or.inr (Or.inl ⟨by omega, b2_1.mp c14⟩))]
        | rw [b2_t (c := (w9 = 0 ∨ (w9 = 1 ∧ rg k (I 16)) ∨ (w9 = 2 ∧ rg k (I 5)) ∨ (3 ≤ w9 ∧ rg k (I 1)))) (Or.inr (Or.inr (Or.inl ⟨by omega, b2_1.mp c30⟩)))]
        | rw [b2_t (c := (w9 = 0 ∨ (w9 = 1 ∧ rg k (I 16)) ∨ (w9 = 2 ∧ rg k (I 5)) ∨ (3 ≤ w9 ∧ rg k (I 1)))) (Or.inr (Or.inr (Or.inr ⟨by omega, b2_1.mp c41⟩)))]
        | rw [b2_f (c := (w9 = 0 ∨ (w9 = 1 ∧ rg k (I 16)) ∨ (w9 = 2 ∧ rg k (I 5)) ∨ (3 ≤ w9 ∧ rg k (I 1)))) (fun z => by rcases z with z | ⟨z1, z2⟩ | ⟨z1, z2⟩ | ⟨z1, z2⟩; omega; exact b2_0.mp c14 z2; omega; omega)]
        | rw [b2_f (c := (w9 = 0 ∨ (w9 = 1 ∧ rg k (I 16)) ∨ (w9 = 2 ∧ rg k (I 5)) ∨ (3 ≤ w9 ∧ rg k (I 1)))) (fun z => by rcases z with z | ⟨z1, z2⟩ | ⟨z1, z2⟩ | ⟨z1, z2⟩; omega; omega; exact b2_0.mp c30 z2; omega)]
        | rw [b2_f (c := (w9 = 0 ∨ (w9 = 1 ∧ rg k (I 16)) ∨ (w9 = 2 ∧ rg k (I 5)) ∨ (3 ≤ w9 ∧ rg k (I 1)))) (fun z => by rcases z with z | ⟨z1, z2⟩ | ⟨z1, z2⟩ | ⟨z1, z2⟩; omega; omega; omega; exact b2_0.mp c41 z2)]
      · refine r_goto (tg := 44) C dX12_isThing_17 (by decide) ?_
        refine r_iconst (v := nI 1) (pq := 45) C dX12_isThing_44 (by decide) rfl ?_
        refine r_goto (tg := 49) C dX12_isThing_45 (by decide) ?_
        refine r_zret C D rfl (by decide) ⟨Nat.le_refl _, Nat.le_refl _⟩ dX12_isThing_49 ?_
        refine ⟨rfl, ?_⟩
        first
        | rw [b2_t (c := (w9 = 0 ∨ (w9 = 1 ∧ rg k (I 16)) ∨ (w9 = 2 ∧ rg k (I 5)) ∨ (3 ≤ w9 ∧ rg k (I 1)))) (Or.inl (by omega))]
        | rw [b2_t (c := (w9 = 0 ∨ (w9 = 1 ∧ rg k (I 16)) ∨ (w9 = 2 ∧ rg k (I 5)) ∨ (3 ≤ w9 ∧ rg k (I 1)))) (Or.inr (Or.inl ⟨by omega, b2_1.mp c14⟩))]
        | rw [b2_t (c := (w9 = 0 ∨ (w9 = 1 ∧ rg k (I 16)) ∨ (w9 = 2 ∧ rg k (I 5)) ∨ (3 ≤ w9 ∧ rg k (I 1)))) (Or.inr (Or.inr (Or.inl ⟨by omega, b2_1.mp c30⟩)))]
        | rw [b2_t (c := (w9 = 0 ∨ (w9 = 1 ∧ rg k (I 16)) ∨ (w9 = 2 ∧ rg k (I 5)) ∨ (3 ≤ w9 ∧ rg k (I 1)))) (Or.inr (Or.inr (Or.inr ⟨by omega, b2_1.mp c41⟩)))]
        | rw [b2_f (c := (w9 = 0 ∨ (w9 = 1 ∧ rg k (I 16)) ∨ (w9 = 2 ∧ rg k (I 5)) ∨ (3 ≤ w9 ∧ rg k (I 1)))) (fun z => by rcases z with z | ⟨z1, z2⟩ | ⟨z1, z2⟩ | ⟨z1, z2⟩; omega; exact b2_0.mp c14 z2; omega; omega)]
        | rw [b2_f (c := (w9 = 0 ∨ (w9 = 1 ∧ rg k (I 16)) ∨ (w9 = 2 ∧ rg k (I 5)) ∨ (3 ≤ w9 ∧ rg k (I 1)))) (fun z => by rcases z with z | ⟨z1, z2⟩ | ⟨z1, z2⟩ | ⟨z1, z2⟩; omega; omega; exact b2_0.mp c30 z2; omega)]
        | rw [b2_f (c := (w9 = 0 ∨ (w9 = 1 ∧ rg k (I 16)) ∨ (w9 = 2 ∧ rg k (I 5)) ∨ (3 ≤ w9 ∧ rg k (I 1)))) (fun z => by rcases z with z | ⟨z1, z2⟩ | ⟨z1, z2⟩ | ⟨z1, z2⟩; omega; omega; omega; exact b2_0.mp c41 z2)]

set_option maxHeartbeats 4000000 in
set_option maxRecDepth 100000 in
/-- make -/
theorem mc_X12_make {l : Launch} {E : EV} {A : Nat → Nat} {w0 : RW} {I : Nat → Nat} {f : Nat → Nat → Nat} {g : Nat → Nat → Int32} (hS : SI (I, f, g)) {x y z : Int32} : MC l E yX12_make wsX12_make 2 0 0 [.ref (A 0), .int x, .int y, .int z] (WM E A w0 I f g) (mP E A w0 (rs_make x y z) (nx_make (I, f, g) x y z)) := by
  refine MC.enter (cc := cX12_make) (maxL := 5) (ret := (some .int)) (lv0 := [some (.ref (A 0)), some (.int x), some (.int y), some (.int z), none]) (by decide) rfl (by simp [Value.category]) (Nat.le_of_ble_eq_true rfl) rfl ?_
  intro X hl hE C D
  subst hl
  subst hE
  have hB : mOK I f := hS.1
  have hP6 : I 1 ≤ 6 := hS.2.1
  have hM : I 5 ≤ 80 := hS.2.2.1
  have hL12 : I 16 ≤ 12 := hS.2.2.2.1
  by_cases hok : okMake x y z
  · obtain ⟨d9, hd9, rfl⟩ := rg_of hok.1 (by omega)
    have hz60 := hok.2.2
    obtain ⟨w9, hw3, hw4, rfl⟩ : ∃ w9 : Nat, 3 ≤ w9 ∧ w9 ≤ 4 ∧ y = nI w9 := by
      rcases hok.2.1 with e | e
      · exact ⟨3, by omega, by omega, e⟩
      · exact ⟨4, by omega, by omega, e⟩
    by_cases hn0 : 0 ≤ z.toInt
    · obtain ⟨n9, -, hn60, rfl⟩ := in_of (x := z) (a := 0) (b := 60) ⟨by omega, by omega⟩ (by omega)
      have loop : ∀ (f1 : Nat → Nat → Nat), mOK I f1 → f1 = upf (upf f 24 d9 w9) 26 d9 n9 → ∀ (t i : Nat) (g1 : Nat → Nat → Int32), i ≤ n9 → n9 - i < t → ((∀ k, k ≠ 27 → g1 k = g k) ∧ ∀ q, g1 27 q = if 400 * d9 ≤ q ∧ q < 400 * d9 + i then 0 else g 27 q) → GG X (WM (xE X) A w0 I f1 g1) 0 0 48 [some (.ref (A 0)), some (.int (nI d9)), some (.int (nI w9)), some (.int (nI n9)), some (.int (nI i))] [] := by
        intro f1 hB ef t
        induction t with
        | zero => intro i g1 h1 h2; omega
        | succ t ih =>
          intro i g1 hi ht hI
          obtain ⟨hg, h27⟩ := hI
          refine r_iload (pq := 50) C dX12_make_48 rfl rfl ?_
          refine r_iload_n (pq := 51) C dX12_make_50 rfl rfl ?_
          refine rN_icmp_ge (tg := 74) (pq := 54) C dX12_make_51 (by decide) rfl (by omega) (by omega) (fun c51 => ?_) (fun c51 => ?_)
          · refine r_iconst (v := nI 0) (pq := 75) C dX12_make_74 (by decide) rfl ?_
            refine r_iret C D rfl ⟨Nat.le_refl _, Nat.le_refl _⟩ dX12_make_75 ?_
            refine ⟨?_, (_, _, _), rfl, hB, ?_⟩
            · unfold rs_make
              rw [if_pos hok, if_neg (by omega)]
              rfl
            · unfold nx_make
              rw [if_pos ⟨hok, hn0⟩, tn_nI (by omega), tn_nI (by omega), tn_nI (by omega)]
              subst ef
              refine EQ_of3 (fun _ _ _ _ _ _ => rfl) ?_ ?_ (fun d _ _ => ?_) (fun d _ _ j _ => ?_)
              · rw [hg 20 (by decide)]; unfold rowg; rw [va_n _ _ (by decide)]
              · rw [hg 23 (by decide)]; unfold rowg; rw [va_n _ _ (by decide)]
              · rw [hg 25 (by decide)]; unfold rowg; rw [va_n _ _ (by decide)]
              · rw [h27]; unfold rowg; rw [va_s, show i = n9 by omega]
          · refine r_aload_n (pq := 55) C dX12_make_54 rfl rfl ?_
            refine m_geta (pq := 58) C 27 (by decide) rfl rfl (by decide +kernel) dX12_make_55 rfl ?_
            refine r_sipush (v := nI 400) (pq := 61) C dX12_make_58 (by decide) rfl ?_
            refine r_iload_n (pq := 62) C dX12_make_61 rfl rfl ?_
            refine rN_imul (pq := 63) C dX12_make_62 rfl ?_
            refine r_iload (pq := 65) C dX12_make_63 rfl rfl ?_
            refine rN_iadd (pq := 66) C dX12_make_65 rfl ?_
            refine r_iconst (v := nI 0) (pq := 67) C dX12_make_66 (by decide) rfl ?_
            refine m_iastZ (pq := 68) C 27 3200 rfl rfl (by decide) rfl (by decide) (by omega) dX12_make_67 rfl ?_
            refine rN_iinc (c := 1) (pq := 71) C dX12_make_68 rfl (by decide) (by decide) rfl rfl ?_
            dsimp only [List.set]
            refine r_goto (tg := 48) C dX12_make_71 (by decide) ?_
            refine ih (i + 1) _ (by omega) (by omega) ⟨fun k hk => by rw [va_n _ _ hk]; exact hg k hk, fun q => ?_⟩
            rw [va_s]
            by_cases e : q = 400 * d9 + i
            · subst e
              rw [pk_us, if_pos ⟨by omega, by omega⟩]
              rfl
            · rw [pk_un e, h27 q]
              by_cases z : 400 * d9 ≤ q ∧ q < 400 * d9 + i
              · rw [if_pos z, if_pos ⟨z.1, by omega⟩]
              · rw [if_neg z, if_neg (fun y => z ⟨y.1, by omega⟩)]
      refine r_iload_n (pq := 1) C dX12_make_0 rfl rfl ?_
      refine r_callS (pq := 4) C (mc_X12_isShelf) gX12_make_X12_isShelf rfl (na := 1) (by decide +kernel) rfl (by decide) (by decide) (Nat.le_of_ble_eq_true rfl) ⟨Nat.zero_le _, Nat.zero_le _⟩ dX12_make_1 rfl rfl (fun r9 w9 hq => ?_)
      obtain ⟨rfl, rfl⟩ := hq
      dsimp only [Option.toList, List.cons_append, List.nil_append]
      have l1 := b2_lt (rg (nI d9) 8)
      refine rN_if_eq (tg := 22) (pq := 7) C dX12_make_4 (by decide) rfl (by omega) (fun c4 => absurd c4 (b2_1.mpr hok.1)) (fun c4 => ?_)
      refine r_iload_n (pq := 8) C dX12_make_7 rfl rfl ?_
      refine r_iconst (v := nI 3) (pq := 9) C dX12_make_8 (by decide) rfl ?_
      refine r_iconst (v := nI 4) (pq := 10) C dX12_make_9 (by decide) rfl ?_
      refine r_callS (pq := 13) C (mc_X12_in) gX12_make_X12_in rfl (na := 3) (by decide +kernel) rfl (by decide) (by decide) (Nat.le_of_ble_eq_true rfl) ⟨Nat.zero_le _, Nat.zero_le _⟩ dX12_make_10 rfl rfl (fun r9 w9 hq => ?_)
      obtain ⟨rfl, rfl⟩ := hq
      dsimp only [Option.toList, List.cons_append, List.nil_append]
      have l10 := b2_lt ((nI 3).toInt ≤ (nI w9).toInt ∧ (nI w9).toInt ≤ (nI 4).toInt)
      refine rN_if_eq (tg := 22) (pq := 16) C dX12_make_13 (by decide) rfl (by omega) (fun c13 => absurd c13 (b2_1.mpr ((in_b (by omega) (by omega)).mpr (by rw [nI_toInt (by omega)]; omega)))) (fun c13 => ?_)
      refine r_iload_n (pq := 17) C dX12_make_16 rfl rfl ?_
      refine r_bipush (v := nI 60) (pq := 19) C dX12_make_17 (by decide) rfl ?_
      refine rN_icmp_le (tg := 24) (pq := 22) C dX12_make_19 (by decide) rfl (by omega) (by omega) (fun c19 => ?_) (fun c19 => absurd hn60 (by omega))
      refine r_iload_n (pq := 25) C dX12_make_24 rfl rfl ?_
      refine rN_if_ge (tg := 31) (pq := 28) C dX12_make_25 (by decide) rfl (by omega) ?_
      refine r_aload_n (pq := 32) C dX12_make_31 rfl rfl ?_
      refine m_geta (pq := 35) C 24 (by decide) rfl rfl (by decide +kernel) dX12_make_32 rfl ?_
      refine r_iload_n (pq := 36) C dX12_make_35 rfl rfl ?_
      refine r_iload_n (pq := 37) C dX12_make_36 rfl rfl ?_
      refine m_iast (pq := 38) C hB 24 8 rfl rfl (by decide) rfl (by decide) (by omega) dX12_make_37 rfl (by omega) (fun hB => ?_)
      refine r_aload_n (pq := 39) C dX12_make_38 rfl rfl ?_
      refine m_geta (pq := 42) C 26 (by decide) rfl rfl (by decide +kernel) dX12_make_39 rfl ?_
      refine r_iload_n (pq := 43) C dX12_make_42 rfl rfl ?_
      refine r_iload_n (pq := 44) C dX12_make_43 rfl rfl ?_
      refine m_iast (pq := 45) C hB 26 8 rfl rfl (by decide) rfl (by decide) (by omega) dX12_make_44 rfl (by omega) (fun hB => ?_)
      refine r_iconst (v := nI 0) (pq := 46) C dX12_make_45 (by decide) rfl ?_
      refine r_istore (j := 4) (pq := 48) C dX12_make_46 rfl (by decide) rfl rfl ?_
      dsimp only [List.set]
      exact loop _ hB rfl (n9 + 1) 0 g (by omega) (by omega) ⟨fun _ _ => rfl, fun q => by rw [if_neg (fun z => by omega)]⟩
    · refine r_iload_n (pq := 1) C dX12_make_0 rfl rfl ?_
      refine r_callS (pq := 4) C (mc_X12_isShelf) gX12_make_X12_isShelf rfl (na := 1) (by decide +kernel) rfl (by decide) (by decide) (Nat.le_of_ble_eq_true rfl) ⟨Nat.zero_le _, Nat.zero_le _⟩ dX12_make_1 rfl rfl (fun r9 w9 hq => ?_)
      obtain ⟨rfl, rfl⟩ := hq
      dsimp only [Option.toList, List.cons_append, List.nil_append]
      have l1 := b2_lt (rg (nI d9) 8)
      refine rN_if_eq (tg := 22) (pq := 7) C dX12_make_4 (by decide) rfl (by omega) (fun c4 => absurd c4 (b2_1.mpr hok.1)) (fun c4 => ?_)
      refine r_iload_n (pq := 8) C dX12_make_7 rfl rfl ?_
      refine r_iconst (v := nI 3) (pq := 9) C dX12_make_8 (by decide) rfl ?_
      refine r_iconst (v := nI 4) (pq := 10) C dX12_make_9 (by decide) rfl ?_
      refine r_callS (pq := 13) C (mc_X12_in) gX12_make_X12_in rfl (na := 3) (by decide +kernel) rfl (by decide) (by decide) (Nat.le_of_ble_eq_true rfl) ⟨Nat.zero_le _, Nat.zero_le _⟩ dX12_make_10 rfl rfl (fun r9 w9 hq => ?_)
      obtain ⟨rfl, rfl⟩ := hq
      dsimp only [Option.toList, List.cons_append, List.nil_append]
      have l10 := b2_lt ((nI 3).toInt ≤ (nI w9).toInt ∧ (nI w9).toInt ≤ (nI 4).toInt)
      refine rN_if_eq (tg := 22) (pq := 16) C dX12_make_13 (by decide) rfl (by omega) (fun c13 => absurd c13 (b2_1.mpr ((in_b (by omega) (by omega)).mpr (by rw [nI_toInt (by omega)]; omega)))) (fun c13 => ?_)
      refine r_iload_n (pq := 17) C dX12_make_16 rfl rfl ?_
      refine r_bipush (v := nI 60) (pq := 19) C dX12_make_17 (by decide) rfl ?_
      refine r_icmp_le (tg := 24) (pq := 22) C dX12_make_19 (by decide) rfl (fun c19 => ?_) (fun c19 => absurd (show z ≤ nI 60 by rw [le_i, nI_toInt (by omega)]; omega) c19)
      refine r_iload_n (pq := 25) C dX12_make_24 rfl rfl ?_
      refine r_if_ge (tg := 31) (pq := 28) C dX12_make_25 (by decide) rfl (fun c25 => absurd (le_i.mp c25) hn0) (fun c25 => ?_)
      refine r_bipush (v := (-14)) (pq := 30) C dX12_make_28 (by decide) rfl ?_
      refine r_iret C D rfl ⟨Nat.le_refl _, Nat.le_refl _⟩ dX12_make_30 ?_
      refine ⟨?_, (I, f, g), rfl, hB, ?_⟩
      · unfold rs_make
        rw [if_pos hok, if_pos (by omega)]
      · unfold nx_make
        rw [if_neg (fun h => hn0 h.2)]
        exact EQ_rfl _
  · refine r_iload_n (pq := 1) C dX12_make_0 rfl rfl ?_
    refine r_callS (pq := 4) C (mc_X12_isShelf) gX12_make_X12_isShelf rfl (na := 1) (by decide +kernel) rfl (by decide) (by decide) (Nat.le_of_ble_eq_true rfl) ⟨Nat.zero_le _, Nat.zero_le _⟩ dX12_make_1 rfl rfl (fun r9 w9 hq => ?_)
    obtain ⟨rfl, rfl⟩ := hq
    dsimp only [Option.toList, List.cons_append, List.nil_append]
    have l1 := b2_lt (rg x 8)
    refine rN_if_eq (tg := 22) (pq := 7) C dX12_make_4 (by decide) rfl (by omega) (fun c4 => ?_) (fun c4 => ?_)
    · refine r_iconst (v := (-1)) (pq := 23) C dX12_make_22 (by decide) rfl ?_
      refine r_iret C D rfl ⟨Nat.le_refl _, Nat.le_refl _⟩ dX12_make_23 ?_
      refine ⟨?_, (I, f, g), rfl, hB, ?_⟩
      · unfold rs_make
        rw [if_neg hok]
      · unfold nx_make
        rw [if_neg (fun h => hok h.1)]
        exact EQ_rfl _
    · refine r_iload_n (pq := 8) C dX12_make_7 rfl rfl ?_
      refine r_iconst (v := nI 3) (pq := 9) C dX12_make_8 (by decide) rfl ?_
      refine r_iconst (v := nI 4) (pq := 10) C dX12_make_9 (by decide) rfl ?_
      refine r_callS (pq := 13) C (mc_X12_in) gX12_make_X12_in rfl (na := 3) (by decide +kernel) rfl (by decide) (by decide) (Nat.le_of_ble_eq_true rfl) ⟨Nat.zero_le _, Nat.zero_le _⟩ dX12_make_10 rfl rfl (fun r9 w9 hq => ?_)
      obtain ⟨rfl, rfl⟩ := hq
      dsimp only [Option.toList, List.cons_append, List.nil_append]
      have l10 := b2_lt ((nI 3).toInt ≤ y.toInt ∧ y.toInt ≤ (nI 4).toInt)
      refine rN_if_eq (tg := 22) (pq := 16) C dX12_make_13 (by decide) rfl (by omega) (fun c13 => ?_) (fun c13 => ?_)
      · refine r_iconst (v := (-1)) (pq := 23) C dX12_make_22 (by decide) rfl ?_
        refine r_iret C D rfl ⟨Nat.le_refl _, Nat.le_refl _⟩ dX12_make_23 ?_
        refine ⟨?_, (I, f, g), rfl, hB, ?_⟩
        · unfold rs_make
          rw [if_neg hok]
        · unfold nx_make
          rw [if_neg (fun h => hok h.1)]
          exact EQ_rfl _
      · refine r_iload_n (pq := 17) C dX12_make_16 rfl rfl ?_
        refine r_bipush (v := nI 60) (pq := 19) C dX12_make_17 (by decide) rfl ?_
        refine r_icmp_le (tg := 24) (pq := 22) C dX12_make_19 (by decide) rfl (fun c19 => ?_) (fun c19 => ?_)
        · refine absurd ⟨b2_1.mp c4, ?_, ?_⟩ hok
          · obtain ⟨w9, hw3, hw4, e⟩ := in_of ((in_b (a := 3) (b := 4) (by omega) (by omega)).mp (b2_1.mp c13)) (by omega)
            rcases (show w9 = 3 ∨ w9 = 4 by omega) with q | q
            · exact Or.inl (by rw [e, q]; rfl)
            · exact Or.inr (by rw [e, q]; rfl)
          · rw [le_i, nI_toInt (by omega)] at c19; exact c19
        · refine r_iconst (v := (-1)) (pq := 23) C dX12_make_22 (by decide) rfl ?_
          refine r_iret C D rfl ⟨Nat.le_refl _, Nat.le_refl _⟩ dX12_make_23 ?_
          refine ⟨?_, (I, f, g), rfl, hB, ?_⟩
          · unfold rs_make
            rw [if_neg hok]
          · unfold nx_make
            rw [if_neg (fun h => hok h.1)]
            exact EQ_rfl _

set_option maxHeartbeats 4000000 in
set_option maxRecDepth 100000 in
/-- thrown -/
theorem mc_X12_thrown {l : Launch} {E : EV} {A : Nat → Nat} {w0 : RW} {I : Nat → Nat} {f : Nat → Nat → Nat} {g : Nat → Nat → Int32} (hB : mOK I f) : MC l E yX12_thrown wsX12_thrown 0 0 0 [.ref (A 0)] (WM E A w0 I f g) (fun r w' => w' = WM E A w0 I f g ∧ r = some (.int (nI (I 0)))) := by
  refine MC.enter (cc := cX12_thrown) (maxL := 1) (ret := (some .int)) (lv0 := [some (.ref (A 0))]) (by decide) rfl (by simp [Value.category]) (Nat.le_of_ble_eq_true rfl) rfl ?_
  intro X hl hE C D
  subst hl
  subst hE
  refine r_aload_n (pq := 1) C dX12_thrown_0 rfl rfl ?_
  refine m_geti (pq := 4) C hB 0 (by decide) rfl rfl (by decide +kernel) dX12_thrown_1 rfl (fun b1 => ?_)
  refine r_iret C D rfl ⟨Nat.le_refl _, Nat.le_refl _⟩ dX12_thrown_4 ?_
  exact ⟨rfl, rfl⟩

set_option maxHeartbeats 4000000 in
set_option maxRecDepth 100000 in
/-- element -/
theorem mc_X12_element {l : Launch} {E : EV} {A : Nat → Nat} {w0 : RW} {I : Nat → Nat} {f : Nat → Nat → Nat} {g : Nat → Nat → Int32} (hS : SI (I, f, g)) {x y : Int32} : MC l E yX12_element wsX12_element 2 0 0 [.ref (A 0), .int x, .int y] (WM E A w0 I f g) (fun r w' => ∃ t : ST, w' = WM E A w0 t.1 t.2.1 t.2.2 ∧ mOK t.1 t.2.1 ∧ EQ (I, f, g) t ∧ t.1 0 = th_element (I, f, g) x y ∧ r = some (.long (if th_element (I, f, g) x y = 0 then (rs_element (I, f, g) x y).toInt64 else 0))) := by
  refine MC.enter (cc := cX12_element) (maxL := 3) (ret := (some .long)) (lv0 := [some (.ref (A 0)), some (.int x), some (.int y)]) (by decide) rfl (by simp [Value.category]) (Nat.le_of_ble_eq_true rfl) rfl ?_
  intro X hl hE C D
  subst hl
  subst hE
  have hB : mOK I f := hS.1
  have hP6 : I 1 ≤ 6 := hS.2.1
  have hM : I 5 ≤ 80 := hS.2.2.1
  have hL12 : I 16 ≤ 12 := hS.2.2.2.1
  by_cases hok : rg x 8
  · obtain ⟨d9, hd9, rfl⟩ := rg_of hok (by omega)
    have h24 := hS.2.2.2.2.2.2.2.2.2.1 d9 hd9
    have h26 : f 26 d9 ≤ 400 := h24.2.2.2
    by_cases h3 : f 24 d9 < 3
    · refine r_aload_n (pq := 1) C dX12_element_0 rfl rfl ?_
      refine r_iload_n (pq := 2) C dX12_element_1 rfl rfl ?_
      refine r_callS (pq := 5) C (mc_X12_isShelf) gX12_element_X12_isShelf rfl (na := 1) (by decide +kernel) rfl (by decide) (by decide) (Nat.le_of_ble_eq_true rfl) ⟨Nat.zero_le _, Nat.zero_le _⟩ dX12_element_2 rfl rfl (fun r9 w9 hq => ?_)
      obtain ⟨rfl, rfl⟩ := hq
      dsimp only [Option.toList, List.cons_append, List.nil_append]
      have l2 := b2_lt (rg (nI d9) 8)
      refine rN_if_ne (tg := 12) (pq := 8) C dX12_element_5 (by decide) rfl (by omega) (fun c5 => ?_) (fun c5 => absurd c5 (b2_1.mpr hok))
      refine r_aload_n (pq := 13) C dX12_element_12 rfl rfl ?_
      refine m_geta (pq := 16) C 24 (by decide) rfl rfl (by decide +kernel) dX12_element_13 rfl ?_
      refine r_iload_n (pq := 17) C dX12_element_16 rfl rfl ?_
      refine m_iald (pq := 18) C hB 24 8 rfl rfl (by decide) rfl (by decide) (by omega) dX12_element_17 rfl (fun b17 => ?_)
      refine r_iconst (v := nI 3) (pq := 19) C dX12_element_18 (by decide) rfl ?_
      refine rN_icmp_lt (tg := 38) (pq := 22) C dX12_element_19 (by decide) rfl (by omega) (by omega) (fun c19 => ?_) (fun c19 => absurd h3 (by omega))
      refine r_iconst (v := nI 2) (pq := 39) C dX12_element_38 (by decide) rfl ?_
      refine r_goto (tg := 43) C dX12_element_39 (by decide) ?_
      refine m_puti (pq := 46) C hB 0 (by decide) rfl rfl rfl (by decide +kernel) dX12_element_43 rfl (by omega) (fun hB => ?_)
      refine r_aload_n (pq := 47) C dX12_element_46 rfl rfl ?_
      refine m_geti (pq := 50) C hB 0 (by decide) rfl rfl (by decide +kernel) dX12_element_47 rfl (fun b47 => ?_)
      refine rN_if_le (tg := 57) (pq := 53) C dX12_element_50 (by decide) rfl (by omega) (fun c50 => absurd (show va_up I 0 2 0 = 0 from c50) (by rw [va_s]; decide)) (fun c50 => ?_)
      refine r_lconst (v := 0) (pq := 54) C dX12_element_53 (by decide) rfl ?_
      refine r_goto (tg := 70) C dX12_element_54 (by decide) ?_
      refine r_lret C D rfl ⟨Nat.le_refl _, Nat.le_refl _⟩ dX12_element_70 ?_
      have eth : th_element (I, f, g) (nI d9) y = 2 := by
        unfold th_element
        rw [if_neg (fun z => z hok), tn_nI (by omega), if_pos (Or.inl h3)]
      refine ⟨(va_up I 0 2, f, g), rfl, hB, EQ_of (va_n _ _ (by decide)) (va_n _ _ (by decide)) (va_n _ _ (by decide)) (fun _ _ _ _ _ _ => rfl) rfl, ?_, ?_⟩
      · rw [eth]
        show va_up I 0 2 0 = 2
        exact va_s _ _ _
      · rw [eth, if_neg (by decide)]
    · by_cases hy : rg y (f 26 d9)
      · obtain ⟨i9, hi9, rfl⟩ := rg_of hy (by omega)
        refine r_aload_n (pq := 1) C dX12_element_0 rfl rfl ?_
        refine r_iload_n (pq := 2) C dX12_element_1 rfl rfl ?_
        refine r_callS (pq := 5) C (mc_X12_isShelf) gX12_element_X12_isShelf rfl (na := 1) (by decide +kernel) rfl (by decide) (by decide) (Nat.le_of_ble_eq_true rfl) ⟨Nat.zero_le _, Nat.zero_le _⟩ dX12_element_2 rfl rfl (fun r9 w9 hq => ?_)
        obtain ⟨rfl, rfl⟩ := hq
        dsimp only [Option.toList, List.cons_append, List.nil_append]
        have l2 := b2_lt (rg (nI d9) 8)
        refine rN_if_ne (tg := 12) (pq := 8) C dX12_element_5 (by decide) rfl (by omega) (fun c5 => ?_) (fun c5 => absurd c5 (b2_1.mpr hok))
        refine r_aload_n (pq := 13) C dX12_element_12 rfl rfl ?_
        refine m_geta (pq := 16) C 24 (by decide) rfl rfl (by decide +kernel) dX12_element_13 rfl ?_
        refine r_iload_n (pq := 17) C dX12_element_16 rfl rfl ?_
        refine m_iald (pq := 18) C hB 24 8 rfl rfl (by decide) rfl (by decide) (by omega) dX12_element_17 rfl (fun b17 => ?_)
        refine r_iconst (v := nI 3) (pq := 19) C dX12_element_18 (by decide) rfl ?_
        refine rN_icmp_lt (tg := 38) (pq := 22) C dX12_element_19 (by decide) rfl (by omega) (by omega) (fun c19 => absurd c19 h3) (fun c19 => ?_)
        refine r_iload_n (pq := 23) C dX12_element_22 rfl rfl ?_
        refine r_iconst (v := nI 0) (pq := 24) C dX12_element_23 (by decide) rfl ?_
        refine r_aload_n (pq := 25) C dX12_element_24 rfl rfl ?_
        refine m_geta (pq := 28) C 26 (by decide) rfl rfl (by decide +kernel) dX12_element_25 rfl ?_
        refine r_iload_n (pq := 29) C dX12_element_28 rfl rfl ?_
        refine m_iald (pq := 30) C hB 26 8 rfl rfl (by decide) rfl (by decide) (by omega) dX12_element_29 rfl (fun b29 => ?_)
        refine r_iconst (v := nI 1) (pq := 31) C dX12_element_30 (by decide) rfl ?_
        refine r_isub (pq := 32) C dX12_element_31 rfl ?_
        refine r_callS (pq := 35) C (mc_X12_in) gX12_element_X12_in rfl (na := 3) (by decide +kernel) rfl (by decide) (by decide) (Nat.le_of_ble_eq_true rfl) ⟨Nat.zero_le _, Nat.zero_le _⟩ dX12_element_32 rfl rfl (fun r9 w9 hq => ?_)
        obtain ⟨rfl, rfl⟩ := hq
        dsimp only [Option.toList, List.cons_append, List.nil_append]
        have l32 := b2_lt ((nI 0).toInt ≤ (nI i9).toInt ∧ (nI i9).toInt ≤ (nI (f 26 d9) - nI 1).toInt)
        have e1 : (nI (f 26 d9) - nI 1).toInt = (f 26 d9 : Int) - 1 := pk_sub_toInt (by omega) (by omega)
        refine rN_if_ne (tg := 42) (pq := 38) C dX12_element_35 (by decide) rfl (by omega) (fun c35 => ?_) (fun c35 => absurd c35 (b2_1.mpr (by rw [e1, nI_toInt (by omega), nI_toInt (by omega)]; omega)))
        refine r_iconst (v := nI 0) (pq := 43) C dX12_element_42 (by decide) rfl ?_
        refine m_puti (pq := 46) C hB 0 (by decide) rfl rfl rfl (by decide +kernel) dX12_element_43 rfl (by omega) (fun hB => ?_)
        refine r_aload_n (pq := 47) C dX12_element_46 rfl rfl ?_
        refine m_geti (pq := 50) C hB 0 (by decide) rfl rfl (by decide +kernel) dX12_element_47 rfl (fun b47 => ?_)
        refine rN_if_le (tg := 57) (pq := 53) C dX12_element_50 (by decide) rfl (by omega) (fun c50 => ?_) (fun c50 => absurd (show 0 < va_up I 0 0 0 from c50) (by rw [va_s]; decide))
        refine r_aload_n (pq := 58) C dX12_element_57 rfl rfl ?_
        refine m_geta (pq := 61) C 27 (by decide) rfl rfl (by decide +kernel) dX12_element_58 rfl ?_
        refine r_sipush (v := nI 400) (pq := 64) C dX12_element_61 (by decide) rfl ?_
        refine r_iload_n (pq := 65) C dX12_element_64 rfl rfl ?_
        refine rN_imul (pq := 66) C dX12_element_65 rfl ?_
        refine r_iload_n (pq := 67) C dX12_element_66 rfl rfl ?_
        refine rN_iadd (pq := 68) C dX12_element_67 rfl ?_
        refine m_ialdZ (pq := 69) C 27 3200 rfl rfl (by decide) rfl (by decide) (by omega) dX12_element_68 rfl ?_
        refine r_i2l (pq := 70) C dX12_element_69 rfl ?_
        refine r_lret C D rfl ⟨Nat.le_refl _, Nat.le_refl _⟩ dX12_element_70 ?_
        have eth : th_element (I, f, g) (nI d9) (nI i9) = 0 := by
          unfold th_element
          rw [if_neg (fun z => z hok), tn_nI (by omega), if_neg (fun z => z.elim h3 (fun q => q hy))]
        refine ⟨(va_up I 0 0, f, g), rfl, hB, EQ_of (va_n _ _ (by decide)) (va_n _ _ (by decide)) (va_n _ _ (by decide)) (fun _ _ _ _ _ _ => rfl) rfl, ?_, ?_⟩
        · rw [eth]
          show va_up I 0 0 0 = 0
          exact va_s _ _ _
        · rw [eth, if_pos rfl]
          unfold rs_element
          rw [tn_nI (by omega), tn_nI (by omega)]
      · refine r_aload_n (pq := 1) C dX12_element_0 rfl rfl ?_
        refine r_iload_n (pq := 2) C dX12_element_1 rfl rfl ?_
        refine r_callS (pq := 5) C (mc_X12_isShelf) gX12_element_X12_isShelf rfl (na := 1) (by decide +kernel) rfl (by decide) (by decide) (Nat.le_of_ble_eq_true rfl) ⟨Nat.zero_le _, Nat.zero_le _⟩ dX12_element_2 rfl rfl (fun r9 w9 hq => ?_)
        obtain ⟨rfl, rfl⟩ := hq
        dsimp only [Option.toList, List.cons_append, List.nil_append]
        have l2 := b2_lt (rg (nI d9) 8)
        refine rN_if_ne (tg := 12) (pq := 8) C dX12_element_5 (by decide) rfl (by omega) (fun c5 => ?_) (fun c5 => absurd c5 (b2_1.mpr hok))
        refine r_aload_n (pq := 13) C dX12_element_12 rfl rfl ?_
        refine m_geta (pq := 16) C 24 (by decide) rfl rfl (by decide +kernel) dX12_element_13 rfl ?_
        refine r_iload_n (pq := 17) C dX12_element_16 rfl rfl ?_
        refine m_iald (pq := 18) C hB 24 8 rfl rfl (by decide) rfl (by decide) (by omega) dX12_element_17 rfl (fun b17 => ?_)
        refine r_iconst (v := nI 3) (pq := 19) C dX12_element_18 (by decide) rfl ?_
        refine rN_icmp_lt (tg := 38) (pq := 22) C dX12_element_19 (by decide) rfl (by omega) (by omega) (fun c19 => absurd c19 h3) (fun c19 => ?_)
        refine r_iload_n (pq := 23) C dX12_element_22 rfl rfl ?_
        refine r_iconst (v := nI 0) (pq := 24) C dX12_element_23 (by decide) rfl ?_
        refine r_aload_n (pq := 25) C dX12_element_24 rfl rfl ?_
        refine m_geta (pq := 28) C 26 (by decide) rfl rfl (by decide +kernel) dX12_element_25 rfl ?_
        refine r_iload_n (pq := 29) C dX12_element_28 rfl rfl ?_
        refine m_iald (pq := 30) C hB 26 8 rfl rfl (by decide) rfl (by decide) (by omega) dX12_element_29 rfl (fun b29 => ?_)
        refine r_iconst (v := nI 1) (pq := 31) C dX12_element_30 (by decide) rfl ?_
        refine r_isub (pq := 32) C dX12_element_31 rfl ?_
        refine r_callS (pq := 35) C (mc_X12_in) gX12_element_X12_in rfl (na := 3) (by decide +kernel) rfl (by decide) (by decide) (Nat.le_of_ble_eq_true rfl) ⟨Nat.zero_le _, Nat.zero_le _⟩ dX12_element_32 rfl rfl (fun r9 w9 hq => ?_)
        obtain ⟨rfl, rfl⟩ := hq
        dsimp only [Option.toList, List.cons_append, List.nil_append]
        have l32 := b2_lt ((nI 0).toInt ≤ y.toInt ∧ y.toInt ≤ (nI (f 26 d9) - nI 1).toInt)
        have e1 : (nI (f 26 d9) - nI 1).toInt = (f 26 d9 : Int) - 1 := pk_sub_toInt (by omega) (by omega)
        refine rN_if_ne (tg := 42) (pq := 38) C dX12_element_35 (by decide) rfl (by omega) (fun c35 => absurd (b2_1.mp c35) (fun z => hy (by rw [e1, nI_toInt (by omega)] at z; exact ⟨by omega, by omega⟩))) (fun c35 => ?_)
        refine r_iconst (v := nI 2) (pq := 39) C dX12_element_38 (by decide) rfl ?_
        refine r_goto (tg := 43) C dX12_element_39 (by decide) ?_
        refine m_puti (pq := 46) C hB 0 (by decide) rfl rfl rfl (by decide +kernel) dX12_element_43 rfl (by omega) (fun hB => ?_)
        refine r_aload_n (pq := 47) C dX12_element_46 rfl rfl ?_
        refine m_geti (pq := 50) C hB 0 (by decide) rfl rfl (by decide +kernel) dX12_element_47 rfl (fun b47 => ?_)
        refine rN_if_le (tg := 57) (pq := 53) C dX12_element_50 (by decide) rfl (by omega) (fun c50 => absurd (show va_up I 0 2 0 = 0 from c50) (by rw [va_s]; decide)) (fun c50 => ?_)
        refine r_lconst (v := 0) (pq := 54) C dX12_element_53 (by decide) rfl ?_
        refine r_goto (tg := 70) C dX12_element_54 (by decide) ?_
        refine r_lret C D rfl ⟨Nat.le_refl _, Nat.le_refl _⟩ dX12_element_70 ?_
        have eth : th_element (I, f, g) (nI d9) y = 2 := by
          unfold th_element
          rw [if_neg (fun z => z hok), tn_nI (by omega), if_pos (Or.inr hy)]
        refine ⟨(va_up I 0 2, f, g), rfl, hB, EQ_of (va_n _ _ (by decide)) (va_n _ _ (by decide)) (va_n _ _ (by decide)) (fun _ _ _ _ _ _ => rfl) rfl, ?_, ?_⟩
        · rw [eth]
          show va_up I 0 2 0 = 2
          exact va_s _ _ _
        · rw [eth, if_neg (by decide)]
  · refine r_aload_n (pq := 1) C dX12_element_0 rfl rfl ?_
    refine r_iload_n (pq := 2) C dX12_element_1 rfl rfl ?_
    refine r_callS (pq := 5) C (mc_X12_isShelf) gX12_element_X12_isShelf rfl (na := 1) (by decide +kernel) rfl (by decide) (by decide) (Nat.le_of_ble_eq_true rfl) ⟨Nat.zero_le _, Nat.zero_le _⟩ dX12_element_2 rfl rfl (fun r9 w9 hq => ?_)
    obtain ⟨rfl, rfl⟩ := hq
    dsimp only [Option.toList, List.cons_append, List.nil_append]
    have l2 := b2_lt (rg x 8)
    refine rN_if_ne (tg := 12) (pq := 8) C dX12_element_5 (by decide) rfl (by omega) (fun c5 => absurd (b2_1.mp c5) hok) (fun c5 => ?_)
    refine r_iconst (v := nI 1) (pq := 9) C dX12_element_8 (by decide) rfl ?_
    refine r_goto (tg := 43) C dX12_element_9 (by decide) ?_
    refine m_puti (pq := 46) C hB 0 (by decide) rfl rfl rfl (by decide +kernel) dX12_element_43 rfl (by omega) (fun hB => ?_)
    refine r_aload_n (pq := 47) C dX12_element_46 rfl rfl ?_
    refine m_geti (pq := 50) C hB 0 (by decide) rfl rfl (by decide +kernel) dX12_element_47 rfl (fun b47 => ?_)
    refine rN_if_le (tg := 57) (pq := 53) C dX12_element_50 (by decide) rfl (by omega) (fun c50 => absurd (show va_up I 0 1 0 = 0 from c50) (by rw [va_s]; decide)) (fun c50 => ?_)
    refine r_lconst (v := 0) (pq := 54) C dX12_element_53 (by decide) rfl ?_
    refine r_goto (tg := 70) C dX12_element_54 (by decide) ?_
    refine r_lret C D rfl ⟨Nat.le_refl _, Nat.le_refl _⟩ dX12_element_70 ?_
    have eth : th_element (I, f, g) x y = 1 := by
      unfold th_element
      rw [if_pos hok]
    refine ⟨(va_up I 0 1, f, g), rfl, hB, EQ_of (va_n _ _ (by decide)) (va_n _ _ (by decide)) (va_n _ _ (by decide)) (fun _ _ _ _ _ _ => rfl) rfl, ?_, ?_⟩
    · rw [eth]
      show va_up I 0 1 0 = 1
      exact va_s _ _ _
    · rw [eth, if_neg (by decide)]


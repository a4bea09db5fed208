/-! ===== the reference: quarrels, count, shelves ===== -/
theorem txi3 {t : Nat} (h : ¬ t = 9) (ht : t ≤ 9 := by omega) : ¬ txi t = -3 := by
  unfold txi
  by_cases q : t = 8
  · rw [if_pos q]; decide
  · rw [if_neg q, if_neg h]
    exact nI_ne_neg (by omega) (by decide)
theorem ps_le4 {h : Nat → Nat} {c : Nat} (hh : ∀ i, h i ≤ c) : ∀ n, ps h n ≤ n * c
  | 0 => by simp [ps]
  | n + 1 => by
    have a := ps_le4 hh n
    have b := hh n
    simp only [ps]
    rw [Nat.succ_mul]
    omega
theorem qrs_le (s : ST) (p : Nat) : qrs s p ≤ 4 := ps_le (fun i => by split <;> omega) 4
set_option maxHeartbeats 4000000 in
set_option maxRecDepth 100000 in
/-- quarrels -/
theorem mc_X12_quarrels {l : Launch} {E : EV} {A : Nat → Nat} {w0 : RW} {I : Nat → Nat} {f : Nat → Nat → Nat} {g : Nat → Nat → Int32} (hS : SI (I, f, g)) : MC l E yX12_quarrels wsX12_quarrels 3 0 0 [.ref (A 0)] (WM E A w0 I f g) (mP E A w0 (rs_quarrels (I, f, g)) (I, f, g)) := by
  refine MC.enter (cc := cX12_quarrels) (maxL := 4) (ret := (some .int)) (lv0 := [some (.ref (A 0)), none, none, none]) (by decide) rfl (by simp [Value.category]) (Nat.le_of_ble_eq_true rfl) rfl ?_
  intro X hl hE C D
  subst hl
  subst hE
  have hB : mOK I f := hS.1
  have hP6 : I 1 ≤ 6 := hS.2.1
  have hM : I 5 ≤ 80 := hS.2.2.1
  have hL12 : I 16 ≤ 12 := hS.2.2.2.1
  have h23 : ∀ k, k < 64 → (g 23 k = -1 ∨ ∃ t, tsOK t ∧ g 23 k = nI t) := hS.2.2.2.2.2.2.2.2.1
  have hin : ∀ (f1 : Nat → Nat → Nat) (hB1 : mOK I f1) (hk1 : ∀ k, k ≠ 12 → k ≠ 13 → k ≠ 14 → f1 k = f k) (p : Nat) (hp : p < I 1) (hc1 : ∀ i, i < 400 → f1 12 i = cn f (I 5) p i) (hl1 : LY f1), GG X (WM (xE X) A w0 I f1 g) 0 0 49 [some (.ref (A 0)), some (.int (nI (ps (qrs (I, f, g)) (p + 1)))), some (.int (nI p)), some (.int (nI 4))] [] → ∀ (t y : Nat), y ≤ 4 → 4 - y < t → GG X (WM (xE X) A w0 I f1 g) 0 0 19 [some (.ref (A 0)), some (.int (nI (ps (qrs (I, f, g)) p + (ps (fun y => if txd (I, f, g) p y (cr (I, f, g) p) = 9 then 1 else 0) y)))), some (.int (nI p)), some (.int (nI y))] [] := by
    intro f1 hB1 hk1 p hp hc1 hl1 hend t
    induction t with
    | zero => intro y h1 h2; omega
    | succ t ih =>
      intro y hy ht
      have hpp : f 2 p < 8 ∧ f 3 p < 8 ∧ f 4 p < 2 := hS.2.2.2.2.1 p hp
      have k2 : f1 2 = f 2 := hk1 2 (by decide) (by decide) (by decide)
      have k3 : f1 3 = f 3 := hk1 3 (by decide) (by decide) (by decide)
      have k22 : f1 22 = f 22 := hk1 22 (by decide) (by decide) (by decide)
      have eY : (ps (fun y => if txd (I, f, g) p y (cr (I, f, g) p) = 9 then 1 else 0) (y + 1)) = (ps (fun y => if txd (I, f, g) p y (cr (I, f, g) p) = 9 then 1 else 0) y) + (if txd (I, f, g) p y (cr (I, f, g) p) = 9 then 1 else 0) := rfl
      refine r_iload_n (pq := 20) C dX12_quarrels_19 rfl rfl ?_
      refine r_iconst (v := nI 4) (pq := 21) C dX12_quarrels_20 (by decide) rfl ?_
      refine rN_icmp_ge (tg := 49) (pq := 24) C dX12_quarrels_21 (by decide) rfl (by omega) (by omega) (fun c21 => ?_) (fun c21 => ?_)
      · have e4 : y = 4 := by omega
        subst e4
        exact hend
      · refine r_iload_n (pq := 25) C dX12_quarrels_24 rfl rfl ?_
        refine r_aload_n (pq := 26) C dX12_quarrels_25 rfl rfl ?_
        refine r_iload_n (pq := 27) C dX12_quarrels_26 rfl rfl ?_
        refine r_iload_n (pq := 28) C dX12_quarrels_27 rfl rfl ?_
        refine r_callV (pq := 31) C (mc_X12_taxedOf hB1 (by omega) (by omega) hl1 (by rw [k2, k3]; exact ⟨hpp.1, hpp.2.1⟩) h23) (WM_obj _ _ _ _ _ _) rfl gX12_quarrels_X12_taxedOf rfl (na := 2) (by decide +kernel) rfl (by decide) (by decide) (Nat.le_of_ble_eq_true rfl) ⟨Nat.zero_le _, Nat.zero_le _⟩ dX12_quarrels_28 rfl rfl (fun r9 w9 hq => ?_)
        obtain ⟨rfl, rfl⟩ := hq
        dsimp only [Option.toList, List.cons_append, List.nil_append]
        simp only [txd_ext (I := I) (g := g) (f := f) (c' := cr (I, f, g) p) hc1 k2 k3 k22 (show y < 4 by omega)]
        have zt := txd_le (I, f, g) p y (cr (I, f, g) p)
        refine r_bipush (v := (-3)) (pq := 33) C dX12_quarrels_31 (by decide) rfl ?_
        refine r_icmp_ne (tg := 40) (pq := 36) C dX12_quarrels_33 (by decide) rfl (fun c33 => ?_) (fun c33 => ?_)
        · refine r_iconst (v := nI 0) (pq := 41) C dX12_quarrels_40 (by decide) rfl ?_
          refine rN_iadd (pq := 42) C dX12_quarrels_41 rfl ?_
          refine r_istore_n (j := 1) (pq := 43) C dX12_quarrels_42 rfl (by decide) rfl rfl ?_
          dsimp only [List.set]
          refine rN_iinc (c := 1) (pq := 46) C dX12_quarrels_43 rfl (by decide) (by decide) rfl rfl ?_
          dsimp only [List.set]
          refine r_goto (tg := 19) C dX12_quarrels_46 (by decide) ?_
          have k9 := ih (y + 1) (by omega) (by omega)
          rw [eY, ← Nat.add_assoc] at k9
          first
          | (rw [if_pos (by by_cases q : txd (I, f, g) p y (cr (I, f, g) p) = 9; exact q; exact absurd c33 (txi3 q))] at k9; exact k9)
          | (rw [if_neg (fun q => c33 (by rw [q]; rfl))] at k9; exact k9)
        · refine r_iconst (v := nI 1) (pq := 37) C dX12_quarrels_36 (by decide) rfl ?_
          refine r_goto (tg := 41) C dX12_quarrels_37 (by decide) ?_
          refine rN_iadd (pq := 42) C dX12_quarrels_41 rfl ?_
          refine r_istore_n (j := 1) (pq := 43) C dX12_quarrels_42 rfl (by decide) rfl rfl ?_
          dsimp only [List.set]
          refine rN_iinc (c := 1) (pq := 46) C dX12_quarrels_43 rfl (by decide) (by decide) rfl rfl ?_
          dsimp only [List.set]
          refine r_goto (tg := 19) C dX12_quarrels_46 (by decide) ?_
          have k9 := ih (y + 1) (by omega) (by omega)
          rw [eY, ← Nat.add_assoc] at k9
          first
          | (rw [if_pos (by by_cases q : txd (I, f, g) p y (cr (I, f, g) p) = 9; exact q; exact absurd c33 (txi3 q))] at k9; exact k9)
          | (rw [if_neg (fun q => c33 (by rw [q]; rfl))] at k9; exact k9)
  have hout : ∀ (t p : Nat) (f1 : Nat → Nat → Nat) (v3 : Option Value), p ≤ I 1 → I 1 - p < t → mOK I f1 → (∀ k, k ≠ 12 → k ≠ 13 → k ≠ 14 → f1 k = f k) → GG X (WM (xE X) A w0 I f1 g) 0 0 4 [some (.ref (A 0)), some (.int (nI (ps (qrs (I, f, g)) p))), some (.int (nI p)), v3] [] := by
    intro t
    induction t with
    | zero => intro p f1 v3 h1 h2; omega
    | succ t ih =>
      intro p f1 v3 hp ht hB1 hk1
      refine r_iload_n (pq := 5) C dX12_quarrels_4 rfl rfl ?_
      refine r_aload_n (pq := 6) C dX12_quarrels_5 rfl rfl ?_
      refine m_geti (pq := 9) C hB1 1 (by decide) rfl rfl (by decide +kernel) dX12_quarrels_6 rfl (fun b6 => ?_)
      refine rN_icmp_ge (tg := 55) (pq := 12) C dX12_quarrels_9 (by decide) rfl (by omega) (by omega) (fun c9 => ?_) (fun c9 => ?_)
      · refine r_iload_n (pq := 56) C dX12_quarrels_55 rfl rfl ?_
        refine r_iret C D rfl ⟨Nat.le_refl _, Nat.le_refl _⟩ dX12_quarrels_56 ?_
        refine ⟨?_, (_, _, _), rfl, hB1, EQ_lay hk1⟩
        unfold rs_quarrels
        rw [show p = I 1 by omega]
      · refine r_aload_n (pq := 13) C dX12_quarrels_12 rfl rfl ?_
        refine r_iload_n (pq := 14) C dX12_quarrels_13 rfl rfl ?_
        refine r_callV (pq := 17) C (mc_X12_lay hB1 hM (by omega)) (WM_obj _ _ _ _ _ _) rfl gX12_quarrels_X12_lay rfl (na := 1) (by decide +kernel) rfl (by decide) (by decide) (Nat.le_of_ble_eq_true rfl) ⟨Nat.zero_le _, Nat.zero_le _⟩ dX12_quarrels_14 rfl rfl (fun r9 w9 hq => ?_)
        obtain ⟨rfl, f2, rfl, hB2, hk2a, hc2, hl2⟩ := hq
        dsimp only [Option.toList, List.cons_append, List.nil_append]
        refine r_iconst (v := nI 0) (pq := 18) C dX12_quarrels_17 (by decide) rfl ?_
        refine r_istore_n (j := 3) (pq := 19) C dX12_quarrels_18 rfl (by decide) rfl rfl ?_
        dsimp only [List.set]
        have ec : ∀ d, cn f1 (I 5) p d = cn f (I 5) p d := fun d => cn_congr (fun k _ _ => hk1 k (by omega) (by omega) (by omega)) _ _ _
        have hk2 : ∀ k, k ≠ 12 → k ≠ 13 → k ≠ 14 → f2 k = f k := fun k h1 h2 h3 => (hk2a k h1 h2 h3).trans (hk1 k h1 h2 h3)
        refine hin f2 hB2 hk2 p (by omega) (fun i hi => by rw [hc2 i hi, ec]) hl2 ?_ 5 0 (by omega) (by omega)
        refine rN_iinc (c := 1) (pq := 52) C dX12_quarrels_49 rfl (by decide) (by decide) rfl rfl ?_
        dsimp only [List.set]
        refine r_goto (tg := 4) C dX12_quarrels_52 (by decide) ?_
        exact ih (p + 1) f2 _ (by omega) (by omega) hB2 hk2
  refine r_iconst (v := nI 0) (pq := 1) C dX12_quarrels_0 (by decide) rfl ?_
  refine r_istore_n (j := 1) (pq := 2) C dX12_quarrels_1 rfl (by decide) rfl rfl ?_
  dsimp only [List.set]
  refine r_iconst (v := nI 0) (pq := 3) C dX12_quarrels_2 (by decide) rfl ?_
  refine r_istore_n (j := 2) (pq := 4) C dX12_quarrels_3 rfl (by decide) rfl rfl ?_
  dsimp only [List.set]
  exact hout (I 1 + 1) 0 f none (by omega) (by omega) hB (fun _ _ _ _ => rfl)

set_option maxHeartbeats 4000000 in
set_option maxRecDepth 100000 in
/-- count -/
theorem mc_X12_count {l : Launch} {E : EV} {A : Nat → Nat} {w0 : RW} {I : Nat → Nat} {f : Nat → Nat → Nat} {g : Nat → Nat → Int32} (hS : SI (I, f, g)) {x : Int32} : MC l E yX12_count wsX12_count 2 0 0 [.ref (A 0), .int x] (WM E A w0 I f g) (mP E A w0 (rs_count (I, f, g) x) (I, f, g)) := by
  refine MC.enter (cc := cX12_count) (maxL := 4) (ret := (some .int)) (lv0 := [some (.ref (A 0)), some (.int x), none, none]) (by decide) rfl (by simp [Value.category]) (Nat.le_of_ble_eq_true rfl) rfl ?_
  intro X hl hE C D
  subst hl
  subst hE
  have hB : mOK I f := hS.1
  have hP6 : I 1 ≤ 6 := hS.2.1
  have hM : I 5 ≤ 80 := hS.2.2.1
  have hL12 : I 16 ≤ 12 := hS.2.2.2.1
  have h23 : ∀ k, k < 64 → (g 23 k = -1 ∨ ∃ t, tsOK t ∧ g 23 k = nI t) := hS.2.2.2.2.2.2.2.2.1
  have lp3 : ∀ (t m : Nat), m ≤ 64 → 64 - m < t → x = 3 → GG X (WM (xE X) A w0 I f g) 0 0 57 [some (.ref (A 0)), some (.int x), some (.int (nI (ps (fun k => if g 23 k = -1 then 0 else 1) m))), some (.int (nI m))] [] := by
    intro t
    induction t with
    | zero => intro m h1 h2; omega
    | succ t ih =>
      intro m hm ht hx
      have z1 := ps_le (h := (fun k => if g 23 k = -1 then 0 else 1)) (fun i => by split <;> omega) m
      have e8 : ps (fun k => if g 23 k = -1 then 0 else 1) (m + 1) = ps (fun k => if g 23 k = -1 then 0 else 1) m + (if g 23 m = -1 then 0 else 1) := rfl
      refine r_iload_n (pq := 58) C dX12_count_57 rfl rfl ?_
      refine r_bipush (v := nI 64) (pq := 60) C dX12_count_58 (by decide) rfl ?_
      refine rN_icmp_ge (tg := 86) (pq := 63) C dX12_count_60 (by decide) rfl (by omega) (by omega) (fun c60 => ?_) (fun c60 => ?_)
      · refine r_iload_n (pq := 87) C dX12_count_86 rfl rfl ?_
        refine r_iret C D rfl ⟨Nat.le_refl _, Nat.le_refl _⟩ dX12_count_87 ?_
        refine ⟨?_, (I, f, g), rfl, hB, EQ_rfl _⟩
        unfold rs_count
        rw [if_neg (by rw [hx]; decide)]
        rw [if_neg (by rw [hx]; decide)]
        rw [if_neg (by rw [hx]; decide)]
        rw [if_pos hx]
        rw [show m = 64 by omega]
      · refine r_iload_n (pq := 64) C dX12_count_63 rfl rfl ?_
        refine r_aload_n (pq := 65) C dX12_count_64 rfl rfl ?_
        refine m_geta (pq := 68) C 23 (by decide) rfl rfl (by decide +kernel) dX12_count_65 rfl ?_
        refine r_iload_n (pq := 69) C dX12_count_68 rfl rfl ?_
        refine m_ialdZ (pq := 70) C 23 64 rfl rfl (by decide) rfl (by decide) (by omega) dX12_count_69 rfl ?_
        refine r_if_lt (tg := 77) (pq := 73) C dX12_count_70 (by decide) rfl (fun c70 => ?_) (fun c70 => ?_)
        · refine r_iconst (v := nI 0) (pq := 78) C dX12_count_77 (by decide) rfl ?_
          refine rN_iadd (pq := 79) C dX12_count_78 rfl ?_
          refine r_istore_n (j := 2) (pq := 80) C dX12_count_79 rfl (by decide) rfl rfl ?_
          dsimp only [List.set]
          refine rN_iinc (c := 1) (pq := 83) C dX12_count_80 rfl (by decide) (by decide) rfl rfl ?_
          dsimp only [List.set]
          refine r_goto (tg := 57) C dX12_count_83 (by decide) ?_
          have k9 := ih (m + 1) (by omega) (by omega) hx
          rw [e8] at k9
          rcases h23 m (by omega) with e | ⟨t9, ht9, e⟩
          · rw [if_pos e] at k9
            first | exact k9 | (rw [e] at c70; exact absurd (by decide) c70)
          · have h64 := ht9.1
            rw [if_neg (by rw [e]; exact nI_ne_neg (by omega) (by decide))] at k9
            first | exact k9 | (rw [e] at c70; exact absurd c70 (nI_pos (by omega)))
        · refine r_iconst (v := nI 1) (pq := 74) C dX12_count_73 (by decide) rfl ?_
          refine r_goto (tg := 78) C dX12_count_74 (by decide) ?_
          refine rN_iadd (pq := 79) C dX12_count_78 rfl ?_
          refine r_istore_n (j := 2) (pq := 80) C dX12_count_79 rfl (by decide) rfl rfl ?_
          dsimp only [List.set]
          refine rN_iinc (c := 1) (pq := 83) C dX12_count_80 rfl (by decide) (by decide) rfl rfl ?_
          dsimp only [List.set]
          refine r_goto (tg := 57) C dX12_count_83 (by decide) ?_
          have k9 := ih (m + 1) (by omega) (by omega) hx
          rw [e8] at k9
          rcases h23 m (by omega) with e | ⟨t9, ht9, e⟩
          · rw [if_pos e] at k9
            first | exact k9 | (rw [e] at c70; exact absurd (by decide) c70)
          · have h64 := ht9.1
            rw [if_neg (by rw [e]; exact nI_ne_neg (by omega) (by decide))] at k9
            first | exact k9 | (rw [e] at c70; exact absurd c70 (nI_pos (by omega)))
  have lp4 : ∀ (t m : Nat), m ≤ I 5 → I 5 - m < t → x = 4 → GG X (WM (xE X) A w0 I f g) 0 0 90 [some (.ref (A 0)), some (.int x), some (.int (nI (ps (fun m => if f 11 m = 0 then 0 else 1) m))), some (.int (nI m))] [] := by
    intro t
    induction t with
    | zero => intro m h1 h2; omega
    | succ t ih =>
      intro m hm ht hx
      have z1 := ps_le (h := (fun m => if f 11 m = 0 then 0 else 1)) (fun i => by split <;> omega) m
      have e8 : ps (fun m => if f 11 m = 0 then 0 else 1) (m + 1) = ps (fun m => if f 11 m = 0 then 0 else 1) m + (if f 11 m = 0 then 0 else 1) := rfl
      refine r_iload_n (pq := 91) C dX12_count_90 rfl rfl ?_
      refine r_aload_n (pq := 92) C dX12_count_91 rfl rfl ?_
      refine m_geti (pq := 95) C hB 5 (by decide) rfl rfl (by decide +kernel) dX12_count_92 rfl (fun b92 => ?_)
      refine rN_icmp_ge (tg := 121) (pq := 98) C dX12_count_95 (by decide) rfl (by omega) (by omega) (fun c95 => ?_) (fun c95 => ?_)
      · refine r_iload_n (pq := 122) C dX12_count_121 rfl rfl ?_
        refine r_iret C D rfl ⟨Nat.le_refl _, Nat.le_refl _⟩ dX12_count_122 ?_
        refine ⟨?_, (I, f, g), rfl, hB, EQ_rfl _⟩
        unfold rs_count
        rw [if_neg (by rw [hx]; decide)]
        rw [if_neg (by rw [hx]; decide)]
        rw [if_neg (by rw [hx]; decide)]
        rw [if_neg (by rw [hx]; decide)]
        rw [if_pos hx]
        rw [show m = I 5 by omega]
      · refine r_iload_n (pq := 99) C dX12_count_98 rfl rfl ?_
        refine r_aload_n (pq := 100) C dX12_count_99 rfl rfl ?_
        refine m_geta (pq := 103) C 11 (by decide) rfl rfl (by decide +kernel) dX12_count_100 rfl ?_
        refine r_iload_n (pq := 104) C dX12_count_103 rfl rfl ?_
        refine m_zald (pq := 105) C hB 11 80 rfl rfl (by decide) rfl (by decide) (by omega) dX12_count_104 rfl (fun b104 => ?_)
        refine rN_if_eq (tg := 112) (pq := 108) C dX12_count_105 (by decide) rfl (by omega) (fun c105 => ?_) (fun c105 => ?_)
        · refine r_iconst (v := nI 0) (pq := 113) C dX12_count_112 (by decide) rfl ?_
          refine rN_iadd (pq := 114) C dX12_count_113 rfl ?_
          refine r_istore_n (j := 2) (pq := 115) C dX12_count_114 rfl (by decide) rfl rfl ?_
          dsimp only [List.set]
          refine rN_iinc (c := 1) (pq := 118) C dX12_count_115 rfl (by decide) (by decide) rfl rfl ?_
          dsimp only [List.set]
          refine r_goto (tg := 90) C dX12_count_118 (by decide) ?_
          have k9 := ih (m + 1) (by omega) (by omega) hx
          rw [e8] at k9
          first | (rw [if_pos c105] at k9; exact k9) | (rw [if_neg c105] at k9; exact k9)
        · refine r_iconst (v := nI 1) (pq := 109) C dX12_count_108 (by decide) rfl ?_
          refine r_goto (tg := 113) C dX12_count_109 (by decide) ?_
          refine rN_iadd (pq := 114) C dX12_count_113 rfl ?_
          refine r_istore_n (j := 2) (pq := 115) C dX12_count_114 rfl (by decide) rfl rfl ?_
          dsimp only [List.set]
          refine rN_iinc (c := 1) (pq := 118) C dX12_count_115 rfl (by decide) (by decide) rfl rfl ?_
          dsimp only [List.set]
          refine r_goto (tg := 90) C dX12_count_118 (by decide) ?_
          have k9 := ih (m + 1) (by omega) (by omega) hx
          rw [e8] at k9
          first | (rw [if_pos c105] at k9; exact k9) | (rw [if_neg c105] at k9; exact k9)
  have lp5 : ∀ (t m : Nat), m ≤ I 1 → I 1 - m < t → x = 5 → GG X (WM (xE X) A w0 I f g) 0 0 125 [some (.ref (A 0)), some (.int x), some (.int (nI (ps (fun p => if f 4 p = 0 then 0 else 1) m))), some (.int (nI m))] [] := by
    intro t
    induction t with
    | zero => intro m h1 h2; omega
    | succ t ih =>
      intro m hm ht hx
      have z1 := ps_le (h := (fun p => if f 4 p = 0 then 0 else 1)) (fun i => by split <;> omega) m
      have e8 : ps (fun p => if f 4 p = 0 then 0 else 1) (m + 1) = ps (fun p => if f 4 p = 0 then 0 else 1) m + (if f 4 m = 0 then 0 else 1) := rfl
      refine r_iload_n (pq := 126) C dX12_count_125 rfl rfl ?_
      refine r_aload_n (pq := 127) C dX12_count_126 rfl rfl ?_
      refine m_geti (pq := 130) C hB 1 (by decide) rfl rfl (by decide +kernel) dX12_count_127 rfl (fun b127 => ?_)
      refine rN_icmp_ge (tg := 156) (pq := 133) C dX12_count_130 (by decide) rfl (by omega) (by omega) (fun c130 => ?_) (fun c130 => ?_)
      · refine r_iload_n (pq := 157) C dX12_count_156 rfl rfl ?_
        refine r_iret C D rfl ⟨Nat.le_refl _, Nat.le_refl _⟩ dX12_count_157 ?_
        refine ⟨?_, (I, f, g), rfl, hB, EQ_rfl _⟩
        unfold rs_count
        rw [if_neg (by rw [hx]; decide)]
        rw [if_neg (by rw [hx]; decide)]
        rw [if_neg (by rw [hx]; decide)]
        rw [if_neg (by rw [hx]; decide)]
        rw [if_neg (by rw [hx]; decide)]
        rw [if_pos hx]
        rw [show m = I 1 by omega]
      · refine r_iload_n (pq := 134) C dX12_count_133 rfl rfl ?_
        refine r_aload_n (pq := 135) C dX12_count_134 rfl rfl ?_
        refine m_geta (pq := 138) C 4 (by decide) rfl rfl (by decide +kernel) dX12_count_135 rfl ?_
        refine r_iload_n (pq := 139) C dX12_count_138 rfl rfl ?_
        refine m_zald (pq := 140) C hB 4 6 rfl rfl (by decide) rfl (by decide) (by omega) dX12_count_139 rfl (fun b139 => ?_)
        refine rN_if_eq (tg := 147) (pq := 143) C dX12_count_140 (by decide) rfl (by omega) (fun c140 => ?_) (fun c140 => ?_)
        · refine r_iconst (v := nI 0) (pq := 148) C dX12_count_147 (by decide) rfl ?_
          refine rN_iadd (pq := 149) C dX12_count_148 rfl ?_
          refine r_istore_n (j := 2) (pq := 150) C dX12_count_149 rfl (by decide) rfl rfl ?_
          dsimp only [List.set]
          refine rN_iinc (c := 1) (pq := 153) C dX12_count_150 rfl (by decide) (by decide) rfl rfl ?_
          dsimp only [List.set]
          refine r_goto (tg := 125) C dX12_count_153 (by decide) ?_
          have k9 := ih (m + 1) (by omega) (by omega) hx
          rw [e8] at k9
          first | (rw [if_pos c140] at k9; exact k9) | (rw [if_neg c140] at k9; exact k9)
        · refine r_iconst (v := nI 1) (pq := 144) C dX12_count_143 (by decide) rfl ?_
          refine r_goto (tg := 148) C dX12_count_144 (by decide) ?_
          refine rN_iadd (pq := 149) C dX12_count_148 rfl ?_
          refine r_istore_n (j := 2) (pq := 150) C dX12_count_149 rfl (by decide) rfl rfl ?_
          dsimp only [List.set]
          refine rN_iinc (c := 1) (pq := 153) C dX12_count_150 rfl (by decide) (by decide) rfl rfl ?_
          dsimp only [List.set]
          refine r_goto (tg := 125) C dX12_count_153 (by decide) ?_
          have k9 := ih (m + 1) (by omega) (by omega) hx
          rw [e8] at k9
          first | (rw [if_pos c140] at k9; exact k9) | (rw [if_neg c140] at k9; exact k9)
  by_cases hx : rg x 6
  · obtain ⟨j, hj, e⟩ := rg_of hx (by omega)
    rcases (show j = 0 ∨ j = 1 ∨ j = 2 ∨ j = 3 ∨ j = 4 ∨ j = 5 by omega) with e1 | e1 | e1 | e1 | e1 | e1 <;> subst e1
    · refine r_iconst (v := nI 0) (pq := 1) C dX12_count_0 (by decide) rfl ?_
      refine r_istore_n (j := 2) (pq := 2) C dX12_count_1 rfl (by decide) rfl rfl ?_
      dsimp only [List.set]
      refine r_iload_n (pq := 3) C dX12_count_2 rfl rfl ?_
      refine r_tableIn (tg := 40) C dX12_count_3 (by rw [e]; decide) (by rw [e]; decide) (by rw [e]; rfl) (by decide) ?_
      refine r_aload_n (pq := 41) C dX12_count_40 rfl rfl ?_
      refine m_geti (pq := 44) C hB 1 (by decide) rfl rfl (by decide +kernel) dX12_count_41 rfl (fun b41 => ?_)
      refine r_iret C D rfl ⟨Nat.le_refl _, Nat.le_refl _⟩ dX12_count_44 ?_
      refine ⟨?_, (I, f, g), rfl, hB, EQ_rfl _⟩
      unfold rs_count
      rw [if_pos (show x = 0 from e)]
    · refine r_iconst (v := nI 0) (pq := 1) C dX12_count_0 (by decide) rfl ?_
      refine r_istore_n (j := 2) (pq := 2) C dX12_count_1 rfl (by decide) rfl rfl ?_
      dsimp only [List.set]
      refine r_iload_n (pq := 3) C dX12_count_2 rfl rfl ?_
      refine r_tableIn (tg := 45) C dX12_count_3 (by rw [e]; decide) (by rw [e]; decide) (by rw [e]; rfl) (by decide) ?_
      refine r_aload_n (pq := 46) C dX12_count_45 rfl rfl ?_
      refine m_geti (pq := 49) C hB 5 (by decide) rfl rfl (by decide +kernel) dX12_count_46 rfl (fun b46 => ?_)
      refine r_iret C D rfl ⟨Nat.le_refl _, Nat.le_refl _⟩ dX12_count_49 ?_
      refine ⟨?_, (I, f, g), rfl, hB, EQ_rfl _⟩
      unfold rs_count
      rw [if_neg (by rw [e]; decide)]
      rw [if_pos (show x = 1 from e)]
    · refine r_iconst (v := nI 0) (pq := 1) C dX12_count_0 (by decide) rfl ?_
      refine r_istore_n (j := 2) (pq := 2) C dX12_count_1 rfl (by decide) rfl rfl ?_
      dsimp only [List.set]
      refine r_iload_n (pq := 3) C dX12_count_2 rfl rfl ?_
      refine r_tableIn (tg := 50) C dX12_count_3 (by rw [e]; decide) (by rw [e]; decide) (by rw [e]; rfl) (by decide) ?_
      refine r_aload_n (pq := 51) C dX12_count_50 rfl rfl ?_
      refine m_geti (pq := 54) C hB 16 (by decide) rfl rfl (by decide +kernel) dX12_count_51 rfl (fun b51 => ?_)
      refine r_iret C D rfl ⟨Nat.le_refl _, Nat.le_refl _⟩ dX12_count_54 ?_
      refine ⟨?_, (I, f, g), rfl, hB, EQ_rfl _⟩
      unfold rs_count
      rw [if_neg (by rw [e]; decide)]
      rw [if_neg (by rw [e]; decide)]
      rw [if_pos (show x = 2 from e)]
    · refine r_iconst (v := nI 0) (pq := 1) C dX12_count_0 (by decide) rfl ?_
      refine r_istore_n (j := 2) (pq := 2) C dX12_count_1 rfl (by decide) rfl rfl ?_
      dsimp only [List.set]
      refine r_iload_n (pq := 3) C dX12_count_2 rfl rfl ?_
      refine r_tableIn (tg := 55) C dX12_count_3 (by rw [e]; decide) (by rw [e]; decide) (by rw [e]; rfl) (by decide) ?_
      refine r_iconst (v := nI 0) (pq := 56) C dX12_count_55 (by decide) rfl ?_
      refine r_istore_n (j := 3) (pq := 57) C dX12_count_56 rfl (by decide) rfl rfl ?_
      dsimp only [List.set]
      exact lp3 65 0 (by omega) (by omega) e
    · refine r_iconst (v := nI 0) (pq := 1) C dX12_count_0 (by decide) rfl ?_
      refine r_istore_n (j := 2) (pq := 2) C dX12_count_1 rfl (by decide) rfl rfl ?_
      dsimp only [List.set]
      refine r_iload_n (pq := 3) C dX12_count_2 rfl rfl ?_
      refine r_tableIn (tg := 88) C dX12_count_3 (by rw [e]; decide) (by rw [e]; decide) (by rw [e]; rfl) (by decide) ?_
      refine r_iconst (v := nI 0) (pq := 89) C dX12_count_88 (by decide) rfl ?_
      refine r_istore_n (j := 3) (pq := 90) C dX12_count_89 rfl (by decide) rfl rfl ?_
      dsimp only [List.set]
      exact lp4 (I 5 + 1) 0 (by omega) (by omega) e
    · refine r_iconst (v := nI 0) (pq := 1) C dX12_count_0 (by decide) rfl ?_
      refine r_istore_n (j := 2) (pq := 2) C dX12_count_1 rfl (by decide) rfl rfl ?_
      dsimp only [List.set]
      refine r_iload_n (pq := 3) C dX12_count_2 rfl rfl ?_
      refine r_tableIn (tg := 123) C dX12_count_3 (by rw [e]; decide) (by rw [e]; decide) (by rw [e]; rfl) (by decide) ?_
      refine r_iconst (v := nI 0) (pq := 124) C dX12_count_123 (by decide) rfl ?_
      refine r_istore_n (j := 3) (pq := 125) C dX12_count_124 rfl (by decide) rfl rfl ?_
      dsimp only [List.set]
      exact lp5 (I 1 + 1) 0 (by omega) (by omega) e
  · refine r_iconst (v := nI 0) (pq := 1) C dX12_count_0 (by decide) rfl ?_
    refine r_istore_n (j := 2) (pq := 2) C dX12_count_1 rfl (by decide) rfl rfl ?_
    dsimp only [List.set]
    refine r_iload_n (pq := 3) C dX12_count_2 rfl rfl ?_
    refine r_tableOut (tg := 158) C dX12_count_3 (show x.toInt < 0 ∨ 5 < x.toInt by have h9 : ¬ (0 ≤ x.toInt ∧ x.toInt < 6) := hx; omega) (by decide) ?_
    refine r_iconst (v := (-1)) (pq := 159) C dX12_count_158 (by decide) rfl ?_
    refine r_iret C D rfl ⟨Nat.le_refl _, Nat.le_refl _⟩ dX12_count_159 ?_
    refine ⟨?_, (I, f, g), rfl, hB, EQ_rfl _⟩
    unfold rs_count
    rw [if_neg (fun h => hx (by rw [h]; decide)), if_neg (fun h => hx (by rw [h]; decide)), if_neg (fun h => hx (by rw [h]; decide)), if_neg (fun h => hx (by rw [h]; decide)), if_neg (fun h => hx (by rw [h]; decide)), if_neg (fun h => hx (by rw [h]; decide))]

set_option maxHeartbeats 4000000 in
set_option maxRecDepth 100000 in
/-- lawWeight -/
theorem mc_X12_lawWeight {l : Launch} {E : EV} {A : Nat → Nat} {w0 : RW} {I : Nat → Nat} {f : Nat → Nat → Nat} {g : Nat → Nat → Int32} (hB : mOK I f) {j : Nat} (hj : j < 12) (hK : lwOK f g j) : MC l E yX12_lawWeight wsX12_lawWeight 0 0 0 [.ref (A 0), .int (nI j)] (WM E A w0 I f g) (fun r w' => w' = WM E A w0 I f g ∧ r = some (.int (nI (lwt (I, f, g) j)))) := by
  refine MC.enter (cc := cX12_lawWeight) (maxL := 3) (ret := (some .int)) (lv0 := [some (.ref (A 0)), some (.int (nI j)), none]) (by decide) rfl (by simp [Value.category]) (Nat.le_of_ble_eq_true rfl) rfl ?_
  intro X hl hE C D
  subst hl
  subst hE
  have hk4 := hK.1
  rcases (show f 17 j = 0 ∨ f 17 j = 1 ∨ f 17 j = 2 ∨ f 17 j = 3 by omega) with e | e | e | e
  · refine r_bipush (v := nI 10) (pq := 2) C dX12_lawWeight_0 (by decide) rfl ?_
    refine r_aload_n (pq := 3) C dX12_lawWeight_2 rfl rfl ?_
    refine m_geta (pq := 6) C 17 (by decide) rfl rfl (by decide +kernel) dX12_lawWeight_3 rfl ?_
    refine r_iload_n (pq := 7) C dX12_lawWeight_6 rfl rfl ?_
    refine m_iald (pq := 8) C hB 17 12 rfl rfl (by decide) rfl (by decide) (by omega) dX12_lawWeight_7 rfl (fun b7 => ?_)
    refine rN_iadd (pq := 9) C dX12_lawWeight_8 rfl ?_
    refine r_aload_n (pq := 10) C dX12_lawWeight_9 rfl rfl ?_
    refine m_geta (pq := 13) C 19 (by decide) rfl rfl (by decide +kernel) dX12_lawWeight_10 rfl ?_
    refine r_iload_n (pq := 14) C dX12_lawWeight_13 rfl rfl ?_
    refine m_iald (pq := 15) C hB 19 12 rfl rfl (by decide) rfl (by decide) (by omega) dX12_lawWeight_14 rfl (fun b14 => ?_)
    refine rN_iadd (pq := 16) C dX12_lawWeight_15 rfl ?_
    refine r_istore_n (j := 2) (pq := 17) C dX12_lawWeight_16 rfl (by decide) rfl rfl ?_
    dsimp only [List.set]
    refine r_aload_n (pq := 18) C dX12_lawWeight_17 rfl rfl ?_
    refine m_geta (pq := 21) C 17 (by decide) rfl rfl (by decide +kernel) dX12_lawWeight_18 rfl ?_
    refine r_iload_n (pq := 22) C dX12_lawWeight_21 rfl rfl ?_
    refine m_iald (pq := 23) C hB 17 12 rfl rfl (by decide) rfl (by decide) (by omega) dX12_lawWeight_22 rfl (fun b22 => ?_)
    refine r_tableOut (tg := 69) C dX12_lawWeight_23 (Or.inl (by rw [e]; decide)) (by decide) ?_
    refine r_iload_n (pq := 70) C dX12_lawWeight_69 rfl rfl ?_
    refine r_iret C D rfl ⟨Nat.le_refl _, Nat.le_refl _⟩ dX12_lawWeight_70 ?_
    refine ⟨rfl, ?_⟩
    show some (Value.int (nI _)) = some (Value.int (nI (if f 17 j = 0 then 10 + f 19 j else if f 17 j = 1 then 111 + f 19 j else if f 17 j = 2 then 12 + f 19 j + tn (g 20 j) else 2 * (113 + f 19 j))))
    rw [if_pos e]
    all_goals congr 3
    all_goals omega
  · refine r_bipush (v := nI 10) (pq := 2) C dX12_lawWeight_0 (by decide) rfl ?_
    refine r_aload_n (pq := 3) C dX12_lawWeight_2 rfl rfl ?_
    refine m_geta (pq := 6) C 17 (by decide) rfl rfl (by decide +kernel) dX12_lawWeight_3 rfl ?_
    refine r_iload_n (pq := 7) C dX12_lawWeight_6 rfl rfl ?_
    refine m_iald (pq := 8) C hB 17 12 rfl rfl (by decide) rfl (by decide) (by omega) dX12_lawWeight_7 rfl (fun b7 => ?_)
    refine rN_iadd (pq := 9) C dX12_lawWeight_8 rfl ?_
    refine r_aload_n (pq := 10) C dX12_lawWeight_9 rfl rfl ?_
    refine m_geta (pq := 13) C 19 (by decide) rfl rfl (by decide +kernel) dX12_lawWeight_10 rfl ?_
    refine r_iload_n (pq := 14) C dX12_lawWeight_13 rfl rfl ?_
    refine m_iald (pq := 15) C hB 19 12 rfl rfl (by decide) rfl (by decide) (by omega) dX12_lawWeight_14 rfl (fun b14 => ?_)
    refine rN_iadd (pq := 16) C dX12_lawWeight_15 rfl ?_
    refine r_istore_n (j := 2) (pq := 17) C dX12_lawWeight_16 rfl (by decide) rfl rfl ?_
    dsimp only [List.set]
    refine r_aload_n (pq := 18) C dX12_lawWeight_17 rfl rfl ?_
    refine m_geta (pq := 21) C 17 (by decide) rfl rfl (by decide +kernel) dX12_lawWeight_18 rfl ?_
    refine r_iload_n (pq := 22) C dX12_lawWeight_21 rfl rfl ?_
    refine m_iald (pq := 23) C hB 17 12 rfl rfl (by decide) rfl (by decide) (by omega) dX12_lawWeight_22 rfl (fun b22 => ?_)
    refine r_tableIn (tg := 48) C dX12_lawWeight_23 (by rw [e]; decide) (by rw [e]; decide) (by rw [e]; rfl) (by decide) ?_
    refine r_iload_n (pq := 49) C dX12_lawWeight_48 rfl rfl ?_
    refine r_bipush (v := nI 100) (pq := 51) C dX12_lawWeight_49 (by decide) rfl ?_
    refine rN_iadd (pq := 52) C dX12_lawWeight_51 rfl ?_
    refine r_iret C D rfl ⟨Nat.le_refl _, Nat.le_refl _⟩ dX12_lawWeight_52 ?_
    refine ⟨rfl, ?_⟩
    show some (Value.int (nI _)) = some (Value.int (nI (if f 17 j = 0 then 10 + f 19 j else if f 17 j = 1 then 111 + f 19 j else if f 17 j = 2 then 12 + f 19 j + tn (g 20 j) else 2 * (113 + f 19 j))))
    rw [if_neg (by omega)]
    rw [if_pos e]
    all_goals congr 3
    all_goals omega
  · refine r_bipush (v := nI 10) (pq := 2) C dX12_lawWeight_0 (by decide) rfl ?_
    refine r_aload_n (pq := 3) C dX12_lawWeight_2 rfl rfl ?_
    refine m_geta (pq := 6) C 17 (by decide) rfl rfl (by decide +kernel) dX12_lawWeight_3 rfl ?_
    refine r_iload_n (pq := 7) C dX12_lawWeight_6 rfl rfl ?_
    refine m_iald (pq := 8) C hB 17 12 rfl rfl (by decide) rfl (by decide) (by omega) dX12_lawWeight_7 rfl (fun b7 => ?_)
    refine rN_iadd (pq := 9) C dX12_lawWeight_8 rfl ?_
    refine r_aload_n (pq := 10) C dX12_lawWeight_9 rfl rfl ?_
    refine m_geta (pq := 13) C 19 (by decide) rfl rfl (by decide +kernel) dX12_lawWeight_10 rfl ?_
    refine r_iload_n (pq := 14) C dX12_lawWeight_13 rfl rfl ?_
    refine m_iald (pq := 15) C hB 19 12 rfl rfl (by decide) rfl (by decide) (by omega) dX12_lawWeight_14 rfl (fun b14 => ?_)
    refine rN_iadd (pq := 16) C dX12_lawWeight_15 rfl ?_
    refine r_istore_n (j := 2) (pq := 17) C dX12_lawWeight_16 rfl (by decide) rfl rfl ?_
    dsimp only [List.set]
    refine r_aload_n (pq := 18) C dX12_lawWeight_17 rfl rfl ?_
    refine m_geta (pq := 21) C 17 (by decide) rfl rfl (by decide +kernel) dX12_lawWeight_18 rfl ?_
    refine r_iload_n (pq := 22) C dX12_lawWeight_21 rfl rfl ?_
    refine m_iald (pq := 23) C hB 17 12 rfl rfl (by decide) rfl (by decide) (by omega) dX12_lawWeight_22 rfl (fun b22 => ?_)
    refine r_tableIn (tg := 53) C dX12_lawWeight_23 (by rw [e]; decide) (by rw [e]; decide) (by rw [e]; rfl) (by decide) ?_
    refine r_iload_n (pq := 54) C dX12_lawWeight_53 rfl rfl ?_
    refine r_aload_n (pq := 55) C dX12_lawWeight_54 rfl rfl ?_
    refine m_geta (pq := 58) C 20 (by decide) rfl rfl (by decide +kernel) dX12_lawWeight_55 rfl ?_
    refine r_iload_n (pq := 59) C dX12_lawWeight_58 rfl rfl ?_
    refine m_ialdZ (pq := 60) C 20 12 rfl rfl (by decide) rfl (by decide) (by omega) dX12_lawWeight_59 rfl ?_
    obtain ⟨wd, hw1, hw2, hwd⟩ := hK.2.2.2 (by omega)
    rw [hwd]
    refine rN_iadd (pq := 61) C dX12_lawWeight_60 rfl ?_
    refine r_iret C D rfl ⟨Nat.le_refl _, Nat.le_refl _⟩ dX12_lawWeight_61 ?_
    refine ⟨rfl, ?_⟩
    show some (Value.int (nI _)) = some (Value.int (nI (if f 17 j = 0 then 10 + f 19 j else if f 17 j = 1 then 111 + f 19 j else if f 17 j = 2 then 12 + f 19 j + tn (g 20 j) else 2 * (113 + f 19 j))))
    rw [if_neg (by omega)]
    rw [if_neg (by omega)]
    rw [if_pos e]
    rw [hwd, tn_nI (by omega)]
    all_goals congr 3
    all_goals omega
  · refine r_bipush (v := nI 10) (pq := 2) C dX12_lawWeight_0 (by decide) rfl ?_
    refine r_aload_n (pq := 3) C dX12_lawWeight_2 rfl rfl ?_
    refine m_geta (pq := 6) C 17 (by decide) rfl rfl (by decide +kernel) dX12_lawWeight_3 rfl ?_
    refine r_iload_n (pq := 7) C dX12_lawWeight_6 rfl rfl ?_
    refine m_iald (pq := 8) C hB 17 12 rfl rfl (by decide) rfl (by decide) (by omega) dX12_lawWeight_7 rfl (fun b7 => ?_)
    refine rN_iadd (pq := 9) C dX12_lawWeight_8 rfl ?_
    refine r_aload_n (pq := 10) C dX12_lawWeight_9 rfl rfl ?_
    refine m_geta (pq := 13) C 19 (by decide) rfl rfl (by decide +kernel) dX12_lawWeight_10 rfl ?_
    refine r_iload_n (pq := 14) C dX12_lawWeight_13 rfl rfl ?_
    refine m_iald (pq := 15) C hB 19 12 rfl rfl (by decide) rfl (by decide) (by omega) dX12_lawWeight_14 rfl (fun b14 => ?_)
    refine rN_iadd (pq := 16) C dX12_lawWeight_15 rfl ?_
    refine r_istore_n (j := 2) (pq := 17) C dX12_lawWeight_16 rfl (by decide) rfl rfl ?_
    dsimp only [List.set]
    refine r_aload_n (pq := 18) C dX12_lawWeight_17 rfl rfl ?_
    refine m_geta (pq := 21) C 17 (by decide) rfl rfl (by decide +kernel) dX12_lawWeight_18 rfl ?_
    refine r_iload_n (pq := 22) C dX12_lawWeight_21 rfl rfl ?_
    refine m_iald (pq := 23) C hB 17 12 rfl rfl (by decide) rfl (by decide) (by omega) dX12_lawWeight_22 rfl (fun b22 => ?_)
    refine r_tableIn (tg := 62) C dX12_lawWeight_23 (by rw [e]; decide) (by rw [e]; decide) (by rw [e]; rfl) (by decide) ?_
    refine r_iconst (v := nI 2) (pq := 63) C dX12_lawWeight_62 (by decide) rfl ?_
    refine r_iload_n (pq := 64) C dX12_lawWeight_63 rfl rfl ?_
    refine r_bipush (v := nI 100) (pq := 66) C dX12_lawWeight_64 (by decide) rfl ?_
    refine rN_iadd (pq := 67) C dX12_lawWeight_66 rfl ?_
    refine rN_imul (pq := 68) C dX12_lawWeight_67 rfl ?_
    refine r_iret C D rfl ⟨Nat.le_refl _, Nat.le_refl _⟩ dX12_lawWeight_68 ?_
    refine ⟨rfl, ?_⟩
    show some (Value.int (nI _)) = some (Value.int (nI (if f 17 j = 0 then 10 + f 19 j else if f 17 j = 1 then 111 + f 19 j else if f 17 j = 2 then 12 + f 19 j + tn (g 20 j) else 2 * (113 + f 19 j))))
    rw [if_neg (by omega)]
    rw [if_neg (by omega)]
    rw [if_neg (by omega)]
    all_goals congr 3
    all_goals omega

set_option maxHeartbeats 4000000 in
set_option maxRecDepth 100000 in
/-- markWeight -/
theorem mc_X12_markWeight {l : Launch} {E : EV} {A : Nat → Nat} {w0 : RW} {I : Nat → Nat} {f : Nat → Nat → Nat} {g : Nat → Nat → Int32} (hB : mOK I f) {j : Nat} (hj : j < 80) (hk4 : f 6 j < 4) (h89 : f 8 j ≤ f 9 j) : MC l E yX12_markWeight wsX12_markWeight 0 0 0 [.ref (A 0), .int (nI j)] (WM E A w0 I f g) (fun r w' => w' = WM E A w0 I f g ∧ r = some (.int (nI (mwt (I, f, g) j)))) := by
  refine MC.enter (cc := cX12_markWeight) (maxL := 3) (ret := (some .int)) (lv0 := [some (.ref (A 0)), some (.int (nI j)), none]) (by decide) rfl (by simp [Value.category]) (Nat.le_of_ble_eq_true rfl) rfl ?_
  intro X hl hE C D
  subst hl
  subst hE
  rcases (show f 6 j = 0 ∨ f 6 j = 1 ∨ f 6 j = 2 ∨ f 6 j = 3 by omega) with e | e | e | e
  · refine r_iconst (v := nI 2) (pq := 1) C dX12_markWeight_0 (by decide) rfl ?_
    refine r_aload_n (pq := 2) C dX12_markWeight_1 rfl rfl ?_
    refine m_geta (pq := 5) C 9 (by decide) rfl rfl (by decide +kernel) dX12_markWeight_2 rfl ?_
    refine r_iload_n (pq := 6) C dX12_markWeight_5 rfl rfl ?_
    refine m_iald (pq := 7) C hB 9 80 rfl rfl (by decide) rfl (by decide) (by omega) dX12_markWeight_6 rfl (fun b6 => ?_)
    refine rN_iadd (pq := 8) C dX12_markWeight_7 rfl ?_
    refine r_aload_n (pq := 9) C dX12_markWeight_8 rfl rfl ?_
    refine m_geta (pq := 12) C 8 (by decide) rfl rfl (by decide +kernel) dX12_markWeight_9 rfl ?_
    refine r_iload_n (pq := 13) C dX12_markWeight_12 rfl rfl ?_
    refine m_iald (pq := 14) C hB 8 80 rfl rfl (by decide) rfl (by decide) (by omega) dX12_markWeight_13 rfl (fun b13 => ?_)
    refine rN_isub (pq := 15) C dX12_markWeight_14 (by omega) rfl ?_
    refine r_istore_n (j := 2) (pq := 16) C dX12_markWeight_15 rfl (by decide) rfl rfl ?_
    dsimp only [List.set]
    refine r_aload_n (pq := 17) C dX12_markWeight_16 rfl rfl ?_
    refine m_geta (pq := 20) C 6 (by decide) rfl rfl (by decide +kernel) dX12_markWeight_17 rfl ?_
    refine r_iload_n (pq := 21) C dX12_markWeight_20 rfl rfl ?_
    refine m_iald (pq := 22) C hB 6 80 rfl rfl (by decide) rfl (by decide) (by omega) dX12_markWeight_21 rfl (fun b21 => ?_)
    refine r_tableOut (tg := 65) C dX12_markWeight_22 (Or.inl (by rw [e]; decide)) (by decide) ?_
    refine r_iload_n (pq := 66) C dX12_markWeight_65 rfl rfl ?_
    refine r_iret C D rfl ⟨Nat.le_refl _, Nat.le_refl _⟩ dX12_markWeight_66 ?_
    refine ⟨rfl, ?_⟩
    show some (Value.int (nI _)) = some (Value.int (nI (if f 6 j = 0 then 2 + f 9 j - f 8 j else if f 6 j = 1 then 52 + f 9 j - f 8 j else if f 6 j = 2 then 72 + f 9 j - f 8 j else 2 * (52 + f 9 j - f 8 j))))
    rw [if_pos e]
    all_goals congr 3
    all_goals omega
  · refine r_iconst (v := nI 2) (pq := 1) C dX12_markWeight_0 (by decide) rfl ?_
    refine r_aload_n (pq := 2) C dX12_markWeight_1 rfl rfl ?_
    refine m_geta (pq := 5) C 9 (by decide) rfl rfl (by decide +kernel) dX12_markWeight_2 rfl ?_
    refine r_iload_n (pq := 6) C dX12_markWeight_5 rfl rfl ?_
    refine m_iald (pq := 7) C hB 9 80 rfl rfl (by decide) rfl (by decide) (by omega) dX12_markWeight_6 rfl (fun b6 => ?_)
    refine rN_iadd (pq := 8) C dX12_markWeight_7 rfl ?_
    refine r_aload_n (pq := 9) C dX12_markWeight_8 rfl rfl ?_
    refine m_geta (pq := 12) C 8 (by decide) rfl rfl (by decide +kernel) dX12_markWeight_9 rfl ?_
    refine r_iload_n (pq := 13) C dX12_markWeight_12 rfl rfl ?_
    refine m_iald (pq := 14) C hB 8 80 rfl rfl (by decide) rfl (by decide) (by omega) dX12_markWeight_13 rfl (fun b13 => ?_)
    refine rN_isub (pq := 15) C dX12_markWeight_14 (by omega) rfl ?_
    refine r_istore_n (j := 2) (pq := 16) C dX12_markWeight_15 rfl (by decide) rfl rfl ?_
    dsimp only [List.set]
    refine r_aload_n (pq := 17) C dX12_markWeight_16 rfl rfl ?_
    refine m_geta (pq := 20) C 6 (by decide) rfl rfl (by decide +kernel) dX12_markWeight_17 rfl ?_
    refine r_iload_n (pq := 21) C dX12_markWeight_20 rfl rfl ?_
    refine m_iald (pq := 22) C hB 6 80 rfl rfl (by decide) rfl (by decide) (by omega) dX12_markWeight_21 rfl (fun b21 => ?_)
    refine r_tableIn (tg := 48) C dX12_markWeight_22 (by rw [e]; decide) (by rw [e]; decide) (by rw [e]; rfl) (by decide) ?_
    refine r_iload_n (pq := 49) C dX12_markWeight_48 rfl rfl ?_
    refine r_bipush (v := nI 50) (pq := 51) C dX12_markWeight_49 (by decide) rfl ?_
    refine rN_iadd (pq := 52) C dX12_markWeight_51 rfl ?_
    refine r_iret C D rfl ⟨Nat.le_refl _, Nat.le_refl _⟩ dX12_markWeight_52 ?_
    refine ⟨rfl, ?_⟩
    show some (Value.int (nI _)) = some (Value.int (nI (if f 6 j = 0 then 2 + f 9 j - f 8 j else if f 6 j = 1 then 52 + f 9 j - f 8 j else if f 6 j = 2 then 72 + f 9 j - f 8 j else 2 * (52 + f 9 j - f 8 j))))
    rw [if_neg (by omega)]
    rw [if_pos e]
    all_goals congr 3
    all_goals omega
  · refine r_iconst (v := nI 2) (pq := 1) C dX12_markWeight_0 (by decide) rfl ?_
    refine r_aload_n (pq := 2) C dX12_markWeight_1 rfl rfl ?_
    refine m_geta (pq := 5) C 9 (by decide) rfl rfl (by decide +kernel) dX12_markWeight_2 rfl ?_
    refine r_iload_n (pq := 6) C dX12_markWeight_5 rfl rfl ?_
    refine m_iald (pq := 7) C hB 9 80 rfl rfl (by decide) rfl (by decide) (by omega) dX12_markWeight_6 rfl (fun b6 => ?_)
    refine rN_iadd (pq := 8) C dX12_markWeight_7 rfl ?_
    refine r_aload_n (pq := 9) C dX12_markWeight_8 rfl rfl ?_
    refine m_geta (pq := 12) C 8 (by decide) rfl rfl (by decide +kernel) dX12_markWeight_9 rfl ?_
    refine r_iload_n (pq := 13) C dX12_markWeight_12 rfl rfl ?_
    refine m_iald (pq := 14) C hB 8 80 rfl rfl (by decide) rfl (by decide) (by omega) dX12_markWeight_13 rfl (fun b13 => ?_)
    refine rN_isub (pq := 15) C dX12_markWeight_14 (by omega) rfl ?_
    refine r_istore_n (j := 2) (pq := 16) C dX12_markWeight_15 rfl (by decide) rfl rfl ?_
    dsimp only [List.set]
    refine r_aload_n (pq := 17) C dX12_markWeight_16 rfl rfl ?_
    refine m_geta (pq := 20) C 6 (by decide) rfl rfl (by decide +kernel) dX12_markWeight_17 rfl ?_
    refine r_iload_n (pq := 21) C dX12_markWeight_20 rfl rfl ?_
    refine m_iald (pq := 22) C hB 6 80 rfl rfl (by decide) rfl (by decide) (by omega) dX12_markWeight_21 rfl (fun b21 => ?_)
    refine r_tableIn (tg := 53) C dX12_markWeight_22 (by rw [e]; decide) (by rw [e]; decide) (by rw [e]; rfl) (by decide) ?_
    refine r_iload_n (pq := 54) C dX12_markWeight_53 rfl rfl ?_
    refine r_bipush (v := nI 70) (pq := 56) C dX12_markWeight_54 (by decide) rfl ?_
    refine rN_iadd (pq := 57) C dX12_markWeight_56 rfl ?_
    refine r_iret C D rfl ⟨Nat.le_refl _, Nat.le_refl _⟩ dX12_markWeight_57 ?_
    refine ⟨rfl, ?_⟩
    show some (Value.int (nI _)) = some (Value.int (nI (if f 6 j = 0 then 2 + f 9 j - f 8 j else if f 6 j = 1 then 52 + f 9 j - f 8 j else if f 6 j = 2 then 72 + f 9 j - f 8 j else 2 * (52 + f 9 j - f 8 j))))
    rw [if_neg (by omega)]
    rw [if_neg (by omega)]
    rw [if_pos e]
    all_goals congr 3
    all_goals omega
  · refine r_iconst (v := nI 2) (pq := 1) C dX12_markWeight_0 (by decide) rfl ?_
    refine r_aload_n (pq := 2) C dX12_markWeight_1 rfl rfl ?_
    refine m_geta (pq := 5) C 9 (by decide) rfl rfl (by decide +kernel) dX12_markWeight_2 rfl ?_
    refine r_iload_n (pq := 6) C dX12_markWeight_5 rfl rfl ?_
    refine m_iald (pq := 7) C hB 9 80 rfl rfl (by decide) rfl (by decide) (by omega) dX12_markWeight_6 rfl (fun b6 => ?_)
    refine rN_iadd (pq := 8) C dX12_markWeight_7 rfl ?_
    refine r_aload_n (pq := 9) C dX12_markWeight_8 rfl rfl ?_
    refine m_geta (pq := 12) C 8 (by decide) rfl rfl (by decide +kernel) dX12_markWeight_9 rfl ?_
    refine r_iload_n (pq := 13) C dX12_markWeight_12 rfl rfl ?_
    refine m_iald (pq := 14) C hB 8 80 rfl rfl (by decide) rfl (by decide) (by omega) dX12_markWeight_13 rfl (fun b13 => ?_)
    refine rN_isub (pq := 15) C dX12_markWeight_14 (by omega) rfl ?_
    refine r_istore_n (j := 2) (pq := 16) C dX12_markWeight_15 rfl (by decide) rfl rfl ?_
    dsimp only [List.set]
    refine r_aload_n (pq := 17) C dX12_markWeight_16 rfl rfl ?_
    refine m_geta (pq := 20) C 6 (by decide) rfl rfl (by decide +kernel) dX12_markWeight_17 rfl ?_
    refine r_iload_n (pq := 21) C dX12_markWeight_20 rfl rfl ?_
    refine m_iald (pq := 22) C hB 6 80 rfl rfl (by decide) rfl (by decide) (by omega) dX12_markWeight_21 rfl (fun b21 => ?_)
    refine r_tableIn (tg := 58) C dX12_markWeight_22 (by rw [e]; decide) (by rw [e]; decide) (by rw [e]; rfl) (by decide) ?_
    refine r_iconst (v := nI 2) (pq := 59) C dX12_markWeight_58 (by decide) rfl ?_
    refine r_iload_n (pq := 60) C dX12_markWeight_59 rfl rfl ?_
    refine r_bipush (v := nI 50) (pq := 62) C dX12_markWeight_60 (by decide) rfl ?_
    refine rN_iadd (pq := 63) C dX12_markWeight_62 rfl ?_
    refine rN_imul (pq := 64) C dX12_markWeight_63 rfl ?_
    refine r_iret C D rfl ⟨Nat.le_refl _, Nat.le_refl _⟩ dX12_markWeight_64 ?_
    refine ⟨rfl, ?_⟩
    show some (Value.int (nI _)) = some (Value.int (nI (if f 6 j = 0 then 2 + f 9 j - f 8 j else if f 6 j = 1 then 52 + f 9 j - f 8 j else if f 6 j = 2 then 72 + f 9 j - f 8 j else 2 * (52 + f 9 j - f 8 j))))
    rw [if_neg (by omega)]
    rw [if_neg (by omega)]
    rw [if_neg (by omega)]
    all_goals congr 3
    all_goals omega

set_option maxHeartbeats 4000000 in
set_option maxRecDepth 100000 in
/-- noThing -/
theorem mc_X12_noThing {l : Launch} {E : EV} {A : Nat → Nat} {w0 : RW} {I : Nat → Nat} {f : Nat → Nat → Nat} {g : Nat → Nat → Int32} (hS : SI (I, f, g)) {x : Int32} : MC l E yX12_noThing wsX12_noThing 2 0 0 [.ref (A 0), .int x] (WM E A w0 I f g) (fun r w' => w' = WM E A w0 I f g ∧ r = some (.int (nth (I, f, g) x))) := by
  refine MC.enter (cc := cX12_noThing) (maxL := 2) (ret := (some .int)) (lv0 := [some (.ref (A 0)), some (.int x)]) (by decide) rfl (by simp [Value.category]) (Nat.le_of_ble_eq_true rfl) rfl ?_
  intro X hl hE C D
  subst hl
  subst hE
  have hB : mOK I f := hS.1
  have hP6 : I 1 ≤ 6 := hS.2.1
  have hM : I 5 ≤ 80 := hS.2.2.1
  have hL12 : I 16 ≤ 12 := hS.2.2.2.1
  by_cases hok : rg x 8
  · obtain ⟨d9, hd9, rfl⟩ := rg_of hok (by omega)
    refine r_iload_n (pq := 1) C dX12_noThing_0 rfl rfl ?_
    refine r_callS (pq := 4) C (mc_X12_isShelf) gX12_noThing_X12_isShelf rfl (na := 1) (by decide +kernel) rfl (by decide) (by decide) (Nat.le_of_ble_eq_true rfl) ⟨Nat.zero_le _, Nat.zero_le _⟩ dX12_noThing_1 rfl rfl (fun r9 w9 hq => ?_)
    obtain ⟨rfl, rfl⟩ := hq
    dsimp only [Option.toList, List.cons_append, List.nil_append]
    have l1 := b2_lt (rg (nI d9) 8)
    refine rN_if_ne (tg := 11) (pq := 7) C dX12_noThing_4 (by decide) rfl (by omega) (fun c4 => ?_) (fun c4 => absurd c4 (b2_1.mpr hok))
    refine r_aload_n (pq := 12) C dX12_noThing_11 rfl rfl ?_
    refine m_geta (pq := 15) C 24 (by decide) rfl rfl (by decide +kernel) dX12_noThing_12 rfl ?_
    refine r_iload_n (pq := 16) C dX12_noThing_15 rfl rfl ?_
    refine m_iald (pq := 17) C hB 24 8 rfl rfl (by decide) rfl (by decide) (by omega) dX12_noThing_16 rfl (fun b16 => ?_)
    refine rN_if_ne (tg := 25) (pq := 20) C dX12_noThing_17 (by decide) rfl (by omega) (fun c17 => ?_) (fun c17 => ?_)
    · refine r_aload_n (pq := 26) C dX12_noThing_25 rfl rfl ?_
      refine m_geta (pq := 29) C 24 (by decide) rfl rfl (by decide +kernel) dX12_noThing_26 rfl ?_
      refine r_iload_n (pq := 30) C dX12_noThing_29 rfl rfl ?_
      refine m_iald (pq := 31) C hB 24 8 rfl rfl (by decide) rfl (by decide) (by omega) dX12_noThing_30 rfl (fun b30 => ?_)
      refine r_iconst (v := nI 2) (pq := 32) C dX12_noThing_31 (by decide) rfl ?_
      refine rN_icmp_le (tg := 40) (pq := 35) C dX12_noThing_32 (by decide) rfl (by omega) (by omega) (fun c32 => ?_) (fun c32 => ?_)
      · refine r_iconst (v := nI 0) (pq := 41) C dX12_noThing_40 (by decide) rfl ?_
        refine r_iret C D rfl ⟨Nat.le_refl _, Nat.le_refl _⟩ dX12_noThing_41 ?_
        refine ⟨rfl, ?_⟩
        unfold nth
        rw [if_neg (fun z => z hok), tn_nI (by omega)]
        show _ = some (Value.int (if f 24 d9 = 0 then -11 else if 2 < f 24 d9 then -12 else 0))
        first
        | rw [if_pos (by omega)]
        | rw [if_neg (by omega), if_pos (by omega)]
        | (rw [if_neg (by omega), if_neg (by omega)]; rfl)
      · refine r_bipush (v := (-12)) (pq := 37) C dX12_noThing_35 (by decide) rfl ?_
        refine r_goto (tg := 41) C dX12_noThing_37 (by decide) ?_
        refine r_iret C D rfl ⟨Nat.le_refl _, Nat.le_refl _⟩ dX12_noThing_41 ?_
        refine ⟨rfl, ?_⟩
        unfold nth
        rw [if_neg (fun z => z hok), tn_nI (by omega)]
        show _ = some (Value.int (if f 24 d9 = 0 then -11 else if 2 < f 24 d9 then -12 else 0))
        first
        | rw [if_pos (by omega)]
        | rw [if_neg (by omega), if_pos (by omega)]
        | (rw [if_neg (by omega), if_neg (by omega)]; rfl)
    · refine r_bipush (v := (-11)) (pq := 22) C dX12_noThing_20 (by decide) rfl ?_
      refine r_goto (tg := 41) C dX12_noThing_22 (by decide) ?_
      refine r_iret C D rfl ⟨Nat.le_refl _, Nat.le_refl _⟩ dX12_noThing_41 ?_
      refine ⟨rfl, ?_⟩
      unfold nth
      rw [if_neg (fun z => z hok), tn_nI (by omega)]
      show _ = some (Value.int (if f 24 d9 = 0 then -11 else if 2 < f 24 d9 then -12 else 0))
      first
      | rw [if_pos (by omega)]
      | rw [if_neg (by omega), if_pos (by omega)]
      | (rw [if_neg (by omega), if_neg (by omega)]; rfl)
  · refine r_iload_n (pq := 1) C dX12_noThing_0 rfl rfl ?_
    refine r_callS (pq := 4) C (mc_X12_isShelf) gX12_noThing_X12_isShelf rfl (na := 1) (by decide +kernel) rfl (by decide) (by decide) (Nat.le_of_ble_eq_true rfl) ⟨Nat.zero_le _, Nat.zero_le _⟩ dX12_noThing_1 rfl rfl (fun r9 w9 hq => ?_)
    obtain ⟨rfl, rfl⟩ := hq
    dsimp only [Option.toList, List.cons_append, List.nil_append]
    have l1 := b2_lt (rg x 8)
    refine rN_if_ne (tg := 11) (pq := 7) C dX12_noThing_4 (by decide) rfl (by omega) (fun c4 => ?_) (fun c4 => ?_)
    · exact absurd (b2_1.mp c4) hok
    · refine r_iconst (v := (-1)) (pq := 8) C dX12_noThing_7 (by decide) rfl ?_
      refine r_goto (tg := 41) C dX12_noThing_8 (by decide) ?_
      refine r_iret C D rfl ⟨Nat.le_refl _, Nat.le_refl _⟩ dX12_noThing_41 ?_
      refine ⟨rfl, ?_⟩
      unfold nth
      rw [if_pos hok]

theorem nth_0 {s : ST} {x : Int32} (h : nth s x = 0) : rg x 8 ∧ (s.2.1 24 (tn x) = 1 ∨ s.2.1 24 (tn x) = 2) := by
  unfold nth at h
  by_cases q : rg x 8
  · rw [if_neg (fun z => z q)] at h
    by_cases q1 : s.2.1 24 (tn x) = 0
    · rw [if_pos q1] at h; exact absurd h (by decide)
    · rw [if_neg q1] at h
      by_cases q2 : 2 < s.2.1 24 (tn x)
      · rw [if_pos q2] at h; exact absurd h (by decide)
      · exact ⟨q, by omega⟩
  · rw [if_pos q] at h; exact absurd h (by decide)
theorem nth_n {s : ST} {x : Int32} (h : nth s x ≠ 0) : nth s x < 0 := by
  unfold nth at h ⊢
  split
  · decide
  · split
    · decide
    · split
      · decide
      · rename_i h1 h2 h3
        rw [if_neg h1, if_neg h2, if_neg h3] at h
        exact absurd rfl h
set_option maxHeartbeats 4000000 in
set_option maxRecDepth 100000 in
/-- weight -/
theorem mc_X12_weight {l : Launch} {E : EV} {A : Nat → Nat} {w0 : RW} {I : Nat → Nat} {f : Nat → Nat → Nat} {g : Nat → Nat → Int32} (hS : SI (I, f, g)) {x : Int32} : MC l E yX12_weight wsX12_weight 3 0 0 [.ref (A 0), .int x] (WM E A w0 I f g) (mP E A w0 (rs_weight (I, f, g) x) (I, f, g)) := by
  refine MC.enter (cc := cX12_weight) (maxL := 3) (ret := (some .int)) (lv0 := [some (.ref (A 0)), some (.int x), none]) (by decide) rfl (by simp [Value.category]) (Nat.le_of_ble_eq_true rfl) rfl ?_
  intro X hl hE C D
  subst hl
  subst hE
  have hB : mOK I f := hS.1
  have hP6 : I 1 ≤ 6 := hS.2.1
  have hM : I 5 ≤ 80 := hS.2.2.1
  have hL12 : I 16 ≤ 12 := hS.2.2.2.1
  by_cases h0 : nth (I, f, g) x = 0
  · obtain ⟨hrg, hkd⟩ := nth_0 h0
    obtain ⟨d9, hd9, rfl⟩ := rg_of hrg (by omega)
    rw [tn_nI (by omega)] at hkd
    change f 24 d9 = 1 ∨ f 24 d9 = 2 at hkd
    have h24 := hS.2.2.2.2.2.2.2.2.2.1 d9 hd9
    rcases hkd with hk | hk
    · obtain ⟨j, hj, e25⟩ := h24.2.1 hk
      change j < I 16 at hj
      change g 25 d9 = nI j at e25
      have hK : lwOK f g j := hS.2.2.2.2.2.2.1 j hj
      refine r_aload_n (pq := 1) C dX12_weight_0 rfl rfl ?_
      refine r_iload_n (pq := 2) C dX12_weight_1 rfl rfl ?_
      refine r_callV (pq := 5) C (mc_X12_noThing hS) (WM_obj _ _ _ _ _ _) rfl gX12_weight_X12_noThing rfl (na := 1) (by decide +kernel) rfl (by decide) (by decide) (Nat.le_of_ble_eq_true rfl) ⟨Nat.zero_le _, Nat.zero_le _⟩ dX12_weight_2 rfl rfl (fun r9 w9 hq => ?_)
      obtain ⟨rfl, rfl⟩ := hq
      dsimp only [Option.toList, List.cons_append, List.nil_append]
      rw [h0]
      refine r_istore_n (j := 2) (pq := 6) C dX12_weight_5 rfl (by decide) rfl rfl ?_
      dsimp only [List.set]
      refine r_iload_n (pq := 7) C dX12_weight_6 rfl rfl ?_
      refine r_if_ge (tg := 14) (pq := 10) C dX12_weight_7 (by decide) rfl (fun c7 => ?_) (fun c7 => absurd (by decide) c7)
      refine r_aload_n (pq := 15) C dX12_weight_14 rfl rfl ?_
      refine m_geta (pq := 18) C 24 (by decide) rfl rfl (by decide +kernel) dX12_weight_15 rfl ?_
      refine r_iload_n (pq := 19) C dX12_weight_18 rfl rfl ?_
      refine m_iald (pq := 20) C hB 24 8 rfl rfl (by decide) rfl (by decide) (by omega) dX12_weight_19 rfl (fun b19 => ?_)
      refine r_iconst (v := nI 1) (pq := 21) C dX12_weight_20 (by decide) rfl ?_
      refine rN_icmp_ne (tg := 37) (pq := 24) C dX12_weight_21 (by decide) rfl (by omega) (by omega) (fun c21 => absurd hk c21) (fun c21 => ?_)
      refine r_aload_n (pq := 25) C dX12_weight_24 rfl rfl ?_
      refine r_aload_n (pq := 26) C dX12_weight_25 rfl rfl ?_
      refine m_geta (pq := 29) C 25 (by decide) rfl rfl (by decide +kernel) dX12_weight_26 rfl ?_
      refine r_iload_n (pq := 30) C dX12_weight_29 rfl rfl ?_
      refine m_ialdZ (pq := 31) C 25 8 rfl rfl (by decide) rfl (by decide) (by omega) dX12_weight_30 rfl ?_
      rw [e25]
      refine r_callV (pq := 34) C (mc_X12_lawWeight hB (by omega) hK) (WM_obj _ _ _ _ _ _) rfl gX12_weight_X12_lawWeight rfl (na := 1) (by decide +kernel) rfl (by decide) (by decide) (Nat.le_of_ble_eq_true rfl) ⟨Nat.zero_le _, Nat.zero_le _⟩ dX12_weight_31 rfl rfl (fun r9 w9 hq => ?_)
      obtain ⟨rfl, rfl⟩ := hq
      dsimp only [Option.toList, List.cons_append, List.nil_append]
      refine r_goto (tg := 47) C dX12_weight_34 (by decide) ?_
      refine r_iret C D rfl ⟨Nat.le_refl _, Nat.le_refl _⟩ dX12_weight_47 ?_
      refine ⟨?_, (I, f, g), rfl, hB, EQ_rfl _⟩
      unfold rs_weight
      rw [if_neg (fun z => z h0), tn_nI (by omega)]
      rw [if_pos (show (I, f, g).2.1 24 d9 = 1 from hk)]
      rw [show (I, f, g).2.2 25 d9 = nI j from e25, tn_nI (by omega)]
    · obtain ⟨j, hj, e25⟩ := h24.2.2.1 hk
      change j < I 5 at hj
      change g 25 d9 = nI j at e25
      have h6 : f 6 j < 4 ∧ f 7 j < I 1 ∧ f 8 j ≤ f 9 j ∧ f 9 j < 400 ∧ f 10 j ≤ 255 ∧ f 11 j < 2 := hS.2.2.2.2.2.1 j hj
      refine r_aload_n (pq := 1) C dX12_weight_0 rfl rfl ?_
      refine r_iload_n (pq := 2) C dX12_weight_1 rfl rfl ?_
      refine r_callV (pq := 5) C (mc_X12_noThing hS) (WM_obj _ _ _ _ _ _) rfl gX12_weight_X12_noThing rfl (na := 1) (by decide +kernel) rfl (by decide) (by decide) (Nat.le_of_ble_eq_true rfl) ⟨Nat.zero_le _, Nat.zero_le _⟩ dX12_weight_2 rfl rfl (fun r9 w9 hq => ?_)
      obtain ⟨rfl, rfl⟩ := hq
      dsimp only [Option.toList, List.cons_append, List.nil_append]
      rw [h0]
      refine r_istore_n (j := 2) (pq := 6) C dX12_weight_5 rfl (by decide) rfl rfl ?_
      dsimp only [List.set]
      refine r_iload_n (pq := 7) C dX12_weight_6 rfl rfl ?_
      refine r_if_ge (tg := 14) (pq := 10) C dX12_weight_7 (by decide) rfl (fun c7 => ?_) (fun c7 => absurd (by decide) c7)
      refine r_aload_n (pq := 15) C dX12_weight_14 rfl rfl ?_
      refine m_geta (pq := 18) C 24 (by decide) rfl rfl (by decide +kernel) dX12_weight_15 rfl ?_
      refine r_iload_n (pq := 19) C dX12_weight_18 rfl rfl ?_
      refine m_iald (pq := 20) C hB 24 8 rfl rfl (by decide) rfl (by decide) (by omega) dX12_weight_19 rfl (fun b19 => ?_)
      refine r_iconst (v := nI 1) (pq := 21) C dX12_weight_20 (by decide) rfl ?_
      refine rN_icmp_ne (tg := 37) (pq := 24) C dX12_weight_21 (by decide) rfl (by omega) (by omega) (fun c21 => ?_) (fun c21 => absurd c21 (by omega))
      refine r_aload_n (pq := 38) C dX12_weight_37 rfl rfl ?_
      refine r_aload_n (pq := 39) C dX12_weight_38 rfl rfl ?_
      refine m_geta (pq := 42) C 25 (by decide) rfl rfl (by decide +kernel) dX12_weight_39 rfl ?_
      refine r_iload_n (pq := 43) C dX12_weight_42 rfl rfl ?_
      refine m_ialdZ (pq := 44) C 25 8 rfl rfl (by decide) rfl (by decide) (by omega) dX12_weight_43 rfl ?_
      rw [e25]
      refine r_callV (pq := 47) C (mc_X12_markWeight hB (by omega) h6.1 h6.2.2.1) (WM_obj _ _ _ _ _ _) rfl gX12_weight_X12_markWeight rfl (na := 1) (by decide +kernel) rfl (by decide) (by decide) (Nat.le_of_ble_eq_true rfl) ⟨Nat.zero_le _, Nat.zero_le _⟩ dX12_weight_44 rfl rfl (fun r9 w9 hq => ?_)
      obtain ⟨rfl, rfl⟩ := hq
      dsimp only [Option.toList, List.cons_append, List.nil_append]
      refine r_iret C D rfl ⟨Nat.le_refl _, Nat.le_refl _⟩ dX12_weight_47 ?_
      refine ⟨?_, (I, f, g), rfl, hB, EQ_rfl _⟩
      unfold rs_weight
      rw [if_neg (fun z => z h0), tn_nI (by omega)]
      rw [if_neg (show ¬ (I, f, g).2.1 24 d9 = 1 from (by show ¬ f 24 d9 = 1; omega))]
      rw [show (I, f, g).2.2 25 d9 = nI j from e25, tn_nI (by omega)]
  · refine r_aload_n (pq := 1) C dX12_weight_0 rfl rfl ?_
    refine r_iload_n (pq := 2) C dX12_weight_1 rfl rfl ?_
    refine r_callV (pq := 5) C (mc_X12_noThing hS) (WM_obj _ _ _ _ _ _) rfl gX12_weight_X12_noThing rfl (na := 1) (by decide +kernel) rfl (by decide) (by decide) (Nat.le_of_ble_eq_true rfl) ⟨Nat.zero_le _, Nat.zero_le _⟩ dX12_weight_2 rfl rfl (fun r9 w9 hq => ?_)
    obtain ⟨rfl, rfl⟩ := hq
    dsimp only [Option.toList, List.cons_append, List.nil_append]
    refine r_istore_n (j := 2) (pq := 6) C dX12_weight_5 rfl (by decide) rfl rfl ?_
    dsimp only [List.set]
    refine r_iload_n (pq := 7) C dX12_weight_6 rfl rfl ?_
    refine r_if_ge (tg := 14) (pq := 10) C dX12_weight_7 (by decide) rfl (fun c7 => absurd c7 (by have h9 := nth_n h0; rw [lt_i] at h9; rw [le_i]; omega)) (fun c7 => ?_)
    refine r_iload_n (pq := 11) C dX12_weight_10 rfl rfl ?_
    refine r_goto (tg := 47) C dX12_weight_11 (by decide) ?_
    refine r_iret C D rfl ⟨Nat.le_refl _, Nat.le_refl _⟩ dX12_weight_47 ?_
    refine ⟨?_, (I, f, g), rfl, hB, EQ_rfl _⟩
    unfold rs_weight
    rw [if_pos h0]

set_option maxHeartbeats 4000000 in
set_option maxRecDepth 100000 in
/-- toss -/
theorem mc_X12_toss {l : Launch} {E : EV} {A : Nat → Nat} {w0 : RW} {I : Nat → Nat} {f : Nat → Nat → Nat} {g : Nat → Nat → Int32} (hS : SI (I, f, g)) {x : Int32} : MC l E yX12_toss wsX12_toss 3 0 0 [.ref (A 0), .int x] (WM E A w0 I f g) (mP E A w0 (rs_toss (I, f, g) x) (I, f, g)) := by
  refine MC.enter (cc := cX12_toss) (maxL := 4) (ret := (some .int)) (lv0 := [some (.ref (A 0)), some (.int x), none, none]) (by decide) rfl (by simp [Value.category]) (Nat.le_of_ble_eq_true rfl) rfl ?_
  intro X hl hE C D
  subst hl
  subst hE
  have hB : mOK I f := hS.1
  have hP6 : I 1 ≤ 6 := hS.2.1
  have hM : I 5 ≤ 80 := hS.2.2.1
  have hL12 : I 16 ≤ 12 := hS.2.2.2.1
  by_cases h0 : nth (I, f, g) x = 0
  · obtain ⟨hrg, hkd⟩ := nth_0 h0
    obtain ⟨d9, hd9, rfl⟩ := rg_of hrg (by omega)
    rw [tn_nI (by omega)] at hkd
    change f 24 d9 = 1 ∨ f 24 d9 = 2 at hkd
    have h24 := hS.2.2.2.2.2.2.2.2.2.1 d9 hd9
    rcases hkd with hk | hk
    · obtain ⟨j, hj, e25⟩ := h24.2.1 hk
      change j < I 16 at hj
      change g 25 d9 = nI j at e25
      have hK : lwOK f g j := hS.2.2.2.2.2.2.1 j hj
      refine r_aload_n (pq := 1) C dX12_toss_0 rfl rfl ?_
      refine r_iload_n (pq := 2) C dX12_toss_1 rfl rfl ?_
      refine r_callV (pq := 5) C (mc_X12_noThing hS) (WM_obj _ _ _ _ _ _) rfl gX12_toss_X12_noThing rfl (na := 1) (by decide +kernel) rfl (by decide) (by decide) (Nat.le_of_ble_eq_true rfl) ⟨Nat.zero_le _, Nat.zero_le _⟩ dX12_toss_2 rfl rfl (fun r9 w9 hq => ?_)
      obtain ⟨rfl, rfl⟩ := hq
      dsimp only [Option.toList, List.cons_append, List.nil_append]
      rw [h0]
      refine r_istore_n (j := 2) (pq := 6) C dX12_toss_5 rfl (by decide) rfl rfl ?_
      dsimp only [List.set]
      refine r_iload_n (pq := 7) C dX12_toss_6 rfl rfl ?_
      refine r_if_ge (tg := 12) (pq := 10) C dX12_toss_7 (by decide) rfl (fun c7 => ?_) (fun c7 => absurd (by decide) c7)
      refine r_aload_n (pq := 13) C dX12_toss_12 rfl rfl ?_
      refine m_geta (pq := 16) C 25 (by decide) rfl rfl (by decide +kernel) dX12_toss_13 rfl ?_
      refine r_iload_n (pq := 17) C dX12_toss_16 rfl rfl ?_
      refine m_ialdZ (pq := 18) C 25 8 rfl rfl (by decide) rfl (by decide) (by omega) dX12_toss_17 rfl ?_
      rw [e25]
      refine r_istore_n (j := 3) (pq := 19) C dX12_toss_18 rfl (by decide) rfl rfl ?_
      dsimp only [List.set]
      refine r_aload_n (pq := 20) C dX12_toss_19 rfl rfl ?_
      refine m_geta (pq := 23) C 24 (by decide) rfl rfl (by decide +kernel) dX12_toss_20 rfl ?_
      refine r_iload_n (pq := 24) C dX12_toss_23 rfl rfl ?_
      refine m_iald (pq := 25) C hB 24 8 rfl rfl (by decide) rfl (by decide) (by omega) dX12_toss_24 rfl (fun b24 => ?_)
      refine r_iconst (v := nI 1) (pq := 26) C dX12_toss_25 (by decide) rfl ?_
      refine rN_icmp_ne (tg := 51) (pq := 29) C dX12_toss_26 (by decide) rfl (by omega) (by omega) (fun c26 => absurd hk c26) (fun c26 => ?_)
      refine r_aload_n (pq := 30) C dX12_toss_29 rfl rfl ?_
      refine m_geta (pq := 33) C 17 (by decide) rfl rfl (by decide +kernel) dX12_toss_30 rfl ?_
      refine r_iload_n (pq := 34) C dX12_toss_33 rfl rfl ?_
      refine m_iald (pq := 35) C hB 17 12 rfl rfl (by decide) rfl (by decide) (by omega) dX12_toss_34 rfl (fun b34 => ?_)
      refine r_iconst (v := nI 2) (pq := 36) C dX12_toss_35 (by decide) rfl ?_
      refine rN_icmp_ne (tg := 44) (pq := 39) C dX12_toss_36 (by decide) rfl (by omega) (by omega) (fun c36 => ?_) (fun c36 => ?_)
      · refine r_aload_n (pq := 45) C dX12_toss_44 rfl rfl ?_
        refine m_geta (pq := 48) C 18 (by decide) rfl rfl (by decide +kernel) dX12_toss_45 rfl ?_
        refine r_iload_n (pq := 49) C dX12_toss_48 rfl rfl ?_
        refine m_iald (pq := 50) C hB 18 12 rfl rfl (by decide) rfl (by decide) (by omega) dX12_toss_49 rfl (fun b49 => ?_)
        refine r_iret C D rfl ⟨Nat.le_refl _, Nat.le_refl _⟩ dX12_toss_50 ?_
        refine ⟨?_, (I, f, g), rfl, hB, EQ_rfl _⟩
        unfold rs_toss
        rw [if_neg (fun z => z h0), tn_nI (by omega)]
        rw [if_pos (show (I, f, g).2.1 24 d9 = 1 from hk)]
        rw [show (I, f, g).2.2 25 d9 = nI j from e25, tn_nI (by omega)]
        first | rw [if_pos (show (I, f, g).2.1 17 j = 2 from c36)] | (rw [if_neg (show ¬ (I, f, g).2.1 17 j = 2 from c36)])
      · refine r_bipush (v := (-15)) (pq := 41) C dX12_toss_39 (by decide) rfl ?_
        refine r_goto (tg := 50) C dX12_toss_41 (by decide) ?_
        refine r_iret C D rfl ⟨Nat.le_refl _, Nat.le_refl _⟩ dX12_toss_50 ?_
        refine ⟨?_, (I, f, g), rfl, hB, EQ_rfl _⟩
        unfold rs_toss
        rw [if_neg (fun z => z h0), tn_nI (by omega)]
        rw [if_pos (show (I, f, g).2.1 24 d9 = 1 from hk)]
        rw [show (I, f, g).2.2 25 d9 = nI j from e25, tn_nI (by omega)]
        first | rw [if_pos (show (I, f, g).2.1 17 j = 2 from c36)] | (rw [if_neg (show ¬ (I, f, g).2.1 17 j = 2 from c36)])
    · obtain ⟨j, hj, e25⟩ := h24.2.2.1 hk
      change j < I 5 at hj
      change g 25 d9 = nI j at e25
      have h6 : f 6 j < 4 ∧ f 7 j < I 1 ∧ f 8 j ≤ f 9 j ∧ f 9 j < 400 ∧ f 10 j ≤ 255 ∧ f 11 j < 2 := hS.2.2.2.2.2.1 j hj
      refine r_aload_n (pq := 1) C dX12_toss_0 rfl rfl ?_
      refine r_iload_n (pq := 2) C dX12_toss_1 rfl rfl ?_
      refine r_callV (pq := 5) C (mc_X12_noThing hS) (WM_obj _ _ _ _ _ _) rfl gX12_toss_X12_noThing rfl (na := 1) (by decide +kernel) rfl (by decide) (by decide) (Nat.le_of_ble_eq_true rfl) ⟨Nat.zero_le _, Nat.zero_le _⟩ dX12_toss_2 rfl rfl (fun r9 w9 hq => ?_)
      obtain ⟨rfl, rfl⟩ := hq
      dsimp only [Option.toList, List.cons_append, List.nil_append]
      rw [h0]
      refine r_istore_n (j := 2) (pq := 6) C dX12_toss_5 rfl (by decide) rfl rfl ?_
      dsimp only [List.set]
      refine r_iload_n (pq := 7) C dX12_toss_6 rfl rfl ?_
      refine r_if_ge (tg := 12) (pq := 10) C dX12_toss_7 (by decide) rfl (fun c7 => ?_) (fun c7 => absurd (by decide) c7)
      refine r_aload_n (pq := 13) C dX12_toss_12 rfl rfl ?_
      refine m_geta (pq := 16) C 25 (by decide) rfl rfl (by decide +kernel) dX12_toss_13 rfl ?_
      refine r_iload_n (pq := 17) C dX12_toss_16 rfl rfl ?_
      refine m_ialdZ (pq := 18) C 25 8 rfl rfl (by decide) rfl (by decide) (by omega) dX12_toss_17 rfl ?_
      rw [e25]
      refine r_istore_n (j := 3) (pq := 19) C dX12_toss_18 rfl (by decide) rfl rfl ?_
      dsimp only [List.set]
      refine r_aload_n (pq := 20) C dX12_toss_19 rfl rfl ?_
      refine m_geta (pq := 23) C 24 (by decide) rfl rfl (by decide +kernel) dX12_toss_20 rfl ?_
      refine r_iload_n (pq := 24) C dX12_toss_23 rfl rfl ?_
      refine m_iald (pq := 25) C hB 24 8 rfl rfl (by decide) rfl (by decide) (by omega) dX12_toss_24 rfl (fun b24 => ?_)
      refine r_iconst (v := nI 1) (pq := 26) C dX12_toss_25 (by decide) rfl ?_
      refine rN_icmp_ne (tg := 51) (pq := 29) C dX12_toss_26 (by decide) rfl (by omega) (by omega) (fun c26 => ?_) (fun c26 => absurd c26 (by omega))
      refine r_aload_n (pq := 52) C dX12_toss_51 rfl rfl ?_
      refine m_geta (pq := 55) C 6 (by decide) rfl rfl (by decide +kernel) dX12_toss_52 rfl ?_
      refine r_iload_n (pq := 56) C dX12_toss_55 rfl rfl ?_
      refine m_iald (pq := 57) C hB 6 80 rfl rfl (by decide) rfl (by decide) (by omega) dX12_toss_56 rfl (fun b56 => ?_)
      refine r_iconst (v := nI 3) (pq := 58) C dX12_toss_57 (by decide) rfl ?_
      refine rN_icmp_ne (tg := 66) (pq := 61) C dX12_toss_58 (by decide) rfl (by omega) (by omega) (fun c58 => ?_) (fun c58 => ?_)
      · refine r_bipush (v := nI 100) (pq := 68) C dX12_toss_66 (by decide) rfl ?_
        refine r_iload_n (pq := 69) C dX12_toss_68 rfl rfl ?_
        refine rN_iadd (pq := 70) C dX12_toss_69 rfl ?_
        refine r_iret C D rfl ⟨Nat.le_refl _, Nat.le_refl _⟩ dX12_toss_70 ?_
        refine ⟨?_, (I, f, g), rfl, hB, EQ_rfl _⟩
        unfold rs_toss
        rw [if_neg (fun z => z h0), tn_nI (by omega)]
        rw [if_neg (show ¬ (I, f, g).2.1 24 d9 = 1 from (by show ¬ f 24 d9 = 1; omega))]
        rw [show (I, f, g).2.2 25 d9 = nI j from e25, tn_nI (by omega)]
        first | rw [if_pos (show (I, f, g).2.1 6 j = 3 from c58)] | (rw [if_neg (show ¬ (I, f, g).2.1 6 j = 3 from c58)])
      · refine r_bipush (v := (-15)) (pq := 63) C dX12_toss_61 (by decide) rfl ?_
        refine r_goto (tg := 70) C dX12_toss_63 (by decide) ?_
        refine r_iret C D rfl ⟨Nat.le_refl _, Nat.le_refl _⟩ dX12_toss_70 ?_
        refine ⟨?_, (I, f, g), rfl, hB, EQ_rfl _⟩
        unfold rs_toss
        rw [if_neg (fun z => z h0), tn_nI (by omega)]
        rw [if_neg (show ¬ (I, f, g).2.1 24 d9 = 1 from (by show ¬ f 24 d9 = 1; omega))]
        rw [show (I, f, g).2.2 25 d9 = nI j from e25, tn_nI (by omega)]
        first | rw [if_pos (show (I, f, g).2.1 6 j = 3 from c58)] | (rw [if_neg (show ¬ (I, f, g).2.1 6 j = 3 from c58)])
  · refine r_aload_n (pq := 1) C dX12_toss_0 rfl rfl ?_
    refine r_iload_n (pq := 2) C dX12_toss_1 rfl rfl ?_
    refine r_callV (pq := 5) C (mc_X12_noThing hS) (WM_obj _ _ _ _ _ _) rfl gX12_toss_X12_noThing rfl (na := 1) (by decide +kernel) rfl (by decide) (by decide) (Nat.le_of_ble_eq_true rfl) ⟨Nat.zero_le _, Nat.zero_le _⟩ dX12_toss_2 rfl rfl (fun r9 w9 hq => ?_)
    obtain ⟨rfl, rfl⟩ := hq
    dsimp only [Option.toList, List.cons_append, List.nil_append]
    refine r_istore_n (j := 2) (pq := 6) C dX12_toss_5 rfl (by decide) rfl rfl ?_
    dsimp only [List.set]
    refine r_iload_n (pq := 7) C dX12_toss_6 rfl rfl ?_
    refine r_if_ge (tg := 12) (pq := 10) C dX12_toss_7 (by decide) rfl (fun c7 => absurd c7 (by have h9 := nth_n h0; rw [lt_i] at h9; rw [le_i]; omega)) (fun c7 => ?_)
    refine r_iload_n (pq := 11) C dX12_toss_10 rfl rfl ?_
    refine r_iret C D rfl ⟨Nat.le_refl _, Nat.le_refl _⟩ dX12_toss_11 ?_
    refine ⟨?_, (I, f, g), rfl, hB, EQ_rfl _⟩
    unfold rs_toss
    rw [if_pos h0]


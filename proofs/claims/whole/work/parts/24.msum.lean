/-! ===== sums of nights, by the reference ===== -/
def ps (h : Nat → Nat) : Nat → Nat
  | 0 => 0
  | n + 1 => ps h n + h n
theorem ps_le {h : Nat → Nat} (hh : ∀ i, h i ≤ 1) : ∀ n, ps h n ≤ n
  | 0 => Nat.le_refl 0
  | n + 1 => by
    have a := ps_le hh n
    have b := hh n
    simp only [ps]
    omega
theorem ps_mono (h : Nat → Nat) {a b : Nat} (hab : a ≤ b) : ps h a ≤ ps h b := by
  induction b with
  | zero => rw [show a = 0 by omega]; exact Nat.le_refl _
  | succ b ih =>
    rcases Nat.lt_or_ge a (b + 1) with q | q
    · have := ih (by omega)
      simp only [ps]
      omega
    · rw [show a = b + 1 by omega]; exact Nat.le_refl _
theorem ps_congr {h h' : Nat → Nat} : ∀ {n : Nat}, (∀ i, i < n → h i = h' i) → ps h n = ps h' n
  | 0, _ => rfl
  | n + 1, hh => by
    simp only [ps]
    rw [ps_congr (fun i hi => hh i (by omega)), hh n (by omega)]
/-- a night that is surely in the land, one that can be there: by what it can have been -/
def lq (l : Nat) (c : Nat → Nat) (i : Nat) : Nat := if c i = 2 ^ l then 1 else 0
def mq (l : Nat) (c : Nat → Nat) (i : Nat) : Nat := c i / 2 ^ l % 2
theorem lq_le (l : Nat) (c : Nat → Nat) (i : Nat) : lq l c i ≤ 1 := by unfold lq; split <;> omega
theorem mq_le (l : Nat) (c : Nat → Nat) (i : Nat) : mq l c i ≤ 1 := by unfold mq; omega
theorem pw8 {l : Nat} (h : l < 8) : 2 ^ l ≤ 128 := by
  rcases (show l = 0 ∨ l = 1 ∨ l = 2 ∨ l = 3 ∨ l = 4 ∨ l = 5 ∨ l = 6 ∨ l = 7 by omega) with e | e | e | e | e | e | e | e <;> subst e <;> decide
/-- the sums of a land stand for the row c -/
def LD (f : Nat → Nat → Nat) (c : Nat → Nat) (l : Nat) : Prop := ∀ d, d ≤ 400 → f 13 (401 * l + d) = ps (lq l c) d ∧ f 14 (401 * l + d) = ps (mq l c) d

set_option maxHeartbeats 4000000 in
set_option maxRecDepth 100000 in
/-- addLand -/
theorem mc_X12_addLand {l : Launch} {E : EV} {A : Nat → Nat} {w0 : RW} {I : Nat → Nat} {f : Nat → Nat → Nat} {g : Nat → Nat → Int32} (hB : mOK I f) {l8 : Nat} (hl8 : l8 < 8) : MC l E yX12_addLand wsX12_addLand 0 0 0 [.ref (A 0), .int (nI l8)] (WM E A w0 I f g) (fun r w' => r = none ∧ ∃ f1, w' = WM E A w0 I f1 g ∧ mOK I f1 ∧ (∀ k, k ≠ 13 → k ≠ 14 → f1 k = f k) ∧ LD f1 (f 12) l8 ∧ (∀ i, (i < 401 * l8 ∨ 401 * l8 + 400 < i) → f1 13 i = f 13 i ∧ f1 14 i = f 14 i)) := by
  refine MC.enter (cc := cX12_addLand) (maxL := 3) (ret := none) (lv0 := [some (.ref (A 0)), some (.int (nI l8)), none]) (by decide) rfl (by simp [Value.category]) (Nat.le_of_ble_eq_true rfl) rfl ?_
  intro X hl hE C D
  subst hl
  subst hE
  have hpw := pw8 hl8
  have loop : ∀ (t d : Nat) (f1 : Nat → Nat → Nat), d ≤ 400 → 400 - d < t → (mOK I f1 ∧ (∀ k, k ≠ 13 → k ≠ 14 → f1 k = f k) ∧ (∀ j, j ≤ d → f1 13 (401 * l8 + j) = ps (lq l8 (f 12)) j ∧ f1 14 (401 * l8 + j) = ps (mq l8 (f 12)) j) ∧ (∀ i, (i < 401 * l8 ∨ 401 * l8 + 400 < i) → f1 13 i = f 13 i ∧ f1 14 i = f 14 i)) → GG X (WM (xE X) A w0 I f1 g) 0 0 24 [some (.ref (A 0)), some (.int (nI l8)), some (.int (nI d))] [] := by
    intro t
    induction t with
    | zero => intro d f1 h1 h2; omega
    | succ t ih =>
      intro d f1 hd ht hI
      obtain ⟨hB, hk, hs, ho⟩ := hI
      have q1 := (hs d (Nat.le_refl d)).1
      have q2 := (hs d (Nat.le_refl d)).2
      have q3 := ps_le (lq_le l8 (f 12)) d
      have q4 := ps_le (mq_le l8 (f 12)) d
      have q5 : f1 12 = f 12 := hk 12 (by omega) (by omega)
      refine r_iload_n (pq := 25) C dX12_addLand_24 rfl rfl ?_
      refine r_sipush (v := nI 400) (pq := 28) C dX12_addLand_25 (by decide) rfl ?_
      refine rN_icmp_ge (tg := 118) (pq := 31) C dX12_addLand_28 (by decide) rfl (by omega) (by omega) (fun c28 => ?_) (fun c28 => ?_)
      · refine r_vret C D rfl ⟨Nat.le_refl _, Nat.le_refl _⟩ dX12_addLand_118 ?_
        refine ⟨rfl, f1, rfl, hB, hk, fun j hj => hs j (by omega), ho⟩
      · refine r_aload_n (pq := 32) C dX12_addLand_31 rfl rfl ?_
        refine m_geta (pq := 35) C 13 (by decide) rfl rfl (by decide +kernel) dX12_addLand_32 rfl ?_
        refine r_sipush (v := nI 401) (pq := 38) C dX12_addLand_35 (by decide) rfl ?_
        refine r_iload_n (pq := 39) C dX12_addLand_38 rfl rfl ?_
        refine rN_imul (pq := 40) C dX12_addLand_39 rfl ?_
        refine r_iload_n (pq := 41) C dX12_addLand_40 rfl rfl ?_
        refine rN_iadd (pq := 42) C dX12_addLand_41 rfl ?_
        refine r_iconst (v := nI 1) (pq := 43) C dX12_addLand_42 (by decide) rfl ?_
        refine rN_iadd (pq := 44) C dX12_addLand_43 rfl ?_
        refine r_aload_n (pq := 45) C dX12_addLand_44 rfl rfl ?_
        refine m_geta (pq := 48) C 13 (by decide) rfl rfl (by decide +kernel) dX12_addLand_45 rfl ?_
        refine r_sipush (v := nI 401) (pq := 51) C dX12_addLand_48 (by decide) rfl ?_
        refine r_iload_n (pq := 52) C dX12_addLand_51 rfl rfl ?_
        refine rN_imul (pq := 53) C dX12_addLand_52 rfl ?_
        refine r_iload_n (pq := 54) C dX12_addLand_53 rfl rfl ?_
        refine rN_iadd (pq := 55) C dX12_addLand_54 rfl ?_
        refine m_iald (pq := 56) C hB 13 3208 rfl rfl (by decide) rfl (by decide) (by omega) dX12_addLand_55 rfl (fun b55 => ?_)
        refine r_aload_n (pq := 57) C dX12_addLand_56 rfl rfl ?_
        refine m_geta (pq := 60) C 12 (by decide) rfl rfl (by decide +kernel) dX12_addLand_57 rfl ?_
        refine r_iload_n (pq := 61) C dX12_addLand_60 rfl rfl ?_
        refine m_iald (pq := 62) C hB 12 400 rfl rfl (by decide) rfl (by decide) (by omega) dX12_addLand_61 rfl (fun b61 => ?_)
        refine r_iconst (v := nI 1) (pq := 63) C dX12_addLand_62 (by decide) rfl ?_
        refine r_iload_n (pq := 64) C dX12_addLand_63 rfl rfl ?_
        refine rN_ishl (pq := 65) C dX12_addLand_64 (by omega) (by omega) rfl ?_
        refine rN_icmp_ne (tg := 72) (pq := 68) C dX12_addLand_65 (by decide) rfl (by omega) (by omega) (fun c65 => ?_) (fun c65 => ?_)
        · refine r_iconst (v := nI 0) (pq := 73) C dX12_addLand_72 (by decide) rfl ?_
          refine rN_iadd (pq := 74) C dX12_addLand_73 rfl ?_
          refine m_iast (pq := 75) C hB 13 3208 rfl rfl (by decide) rfl (by decide) (by omega) dX12_addLand_74 rfl (by omega) (fun hB => ?_)
          refine r_aload_n (pq := 76) C dX12_addLand_75 rfl rfl ?_
          refine m_geta (pq := 79) C 14 (by decide) rfl rfl (by decide +kernel) dX12_addLand_76 rfl ?_
          refine r_sipush (v := nI 401) (pq := 82) C dX12_addLand_79 (by decide) rfl ?_
          refine r_iload_n (pq := 83) C dX12_addLand_82 rfl rfl ?_
          refine rN_imul (pq := 84) C dX12_addLand_83 rfl ?_
          refine r_iload_n (pq := 85) C dX12_addLand_84 rfl rfl ?_
          refine rN_iadd (pq := 86) C dX12_addLand_85 rfl ?_
          refine r_iconst (v := nI 1) (pq := 87) C dX12_addLand_86 (by decide) rfl ?_
          refine rN_iadd (pq := 88) C dX12_addLand_87 rfl ?_
          refine r_aload_n (pq := 89) C dX12_addLand_88 rfl rfl ?_
          refine m_geta (pq := 92) C 14 (by decide) rfl rfl (by decide +kernel) dX12_addLand_89 rfl ?_
          refine r_sipush (v := nI 401) (pq := 95) C dX12_addLand_92 (by decide) rfl ?_
          refine r_iload_n (pq := 96) C dX12_addLand_95 rfl rfl ?_
          refine rN_imul (pq := 97) C dX12_addLand_96 rfl ?_
          refine r_iload_n (pq := 98) C dX12_addLand_97 rfl rfl ?_
          refine rN_iadd (pq := 99) C dX12_addLand_98 rfl ?_
          refine m_iald (pq := 100) C hB 14 3208 rfl rfl (by decide) rfl (by decide) (by omega) dX12_addLand_99 rfl (fun b99 => ?_)
          refine r_aload_n (pq := 101) C dX12_addLand_100 rfl rfl ?_
          refine m_geta (pq := 104) C 12 (by decide) rfl rfl (by decide +kernel) dX12_addLand_101 rfl ?_
          refine r_iload_n (pq := 105) C dX12_addLand_104 rfl rfl ?_
          refine m_iald (pq := 106) C hB 12 400 rfl rfl (by decide) rfl (by decide) (by omega) dX12_addLand_105 rfl (fun b105 => ?_)
          refine r_iload_n (pq := 107) C dX12_addLand_106 rfl rfl ?_
          refine rN_ishr (pq := 108) C dX12_addLand_107 (by omega) (by omega) rfl ?_
          refine r_iconst (v := nI 1) (pq := 109) C dX12_addLand_108 (by decide) rfl ?_
          refine rN_iand (pq := 110) C dX12_addLand_109 rfl ?_
          refine rN_iadd (pq := 111) C dX12_addLand_110 rfl ?_
          refine m_iast (pq := 112) C hB 14 3208 rfl rfl (by decide) rfl (by decide) (by omega) dX12_addLand_111 rfl (by have q8 : f1 12 d / 2 ^ l8 &&& 1 ≤ 1 := Nat.and_le_right; simp only [va_up, Nat.reduceEqDiff, if_false]; omega) (fun hB => ?_)
          refine rN_iinc (c := 1) (pq := 115) C dX12_addLand_112 rfl (by decide) (by decide) rfl rfl ?_
          dsimp only [List.set]
          refine r_goto (tg := 24) C dX12_addLand_115 (by decide) ?_
          refine ih (d + 1) _ (by omega) (by omega) ⟨hB, ?_, ?_, ?_⟩
          · intro k h1 h2
            simp only [va_up, if_neg h1, if_neg h2]
            exact hk k h1 h2
          · intro j hj
            by_cases e : j = d + 1
            · subst e
              have e1 : 401 * l8 + (d + 1) = 401 * l8 + d + 1 := by omega
              rw [e1]
              simp only [ps]
              rw [← q1, ← q2, ← q5]
              simp [va_up, Nat.and_one_is_mod, mq, lq]
              omega
            · have e1 : 401 * l8 + j ≠ 401 * l8 + d + 1 := by omega
              have e2 := hs j (by omega)
              simp [va_up, e1, e2.1, e2.2, e]
          · intro i hi
            have e1 : i ≠ 401 * l8 + d + 1 := by omega
            have e2 := ho i hi
            simp [va_up, e1, e2.1, e2.2]
        · refine r_iconst (v := nI 1) (pq := 69) C dX12_addLand_68 (by decide) rfl ?_
          refine r_goto (tg := 73) C dX12_addLand_69 (by decide) ?_
          refine rN_iadd (pq := 74) C dX12_addLand_73 rfl ?_
          refine m_iast (pq := 75) C hB 13 3208 rfl rfl (by decide) rfl (by decide) (by omega) dX12_addLand_74 rfl (by omega) (fun hB => ?_)
          refine r_aload_n (pq := 76) C dX12_addLand_75 rfl rfl ?_
          refine m_geta (pq := 79) C 14 (by decide) rfl rfl (by decide +kernel) dX12_addLand_76 rfl ?_
          refine r_sipush (v := nI 401) (pq := 82) C dX12_addLand_79 (by decide) rfl ?_
          refine r_iload_n (pq := 83) C dX12_addLand_82 rfl rfl ?_
          refine rN_imul (pq := 84) C dX12_addLand_83 rfl ?_
          refine r_iload_n (pq := 85) C dX12_addLand_84 rfl rfl ?_
          refine rN_iadd (pq := 86) C dX12_addLand_85 rfl ?_
          refine r_iconst (v := nI 1) (pq := 87) C dX12_addLand_86 (by decide) rfl ?_
          refine rN_iadd (pq := 88) C dX12_addLand_87 rfl ?_
          refine r_aload_n (pq := 89) C dX12_addLand_88 rfl rfl ?_
          refine m_geta (pq := 92) C 14 (by decide) rfl rfl (by decide +kernel) dX12_addLand_89 rfl ?_
          refine r_sipush (v := nI 401) (pq := 95) C dX12_addLand_92 (by decide) rfl ?_
          refine r_iload_n (pq := 96) C dX12_addLand_95 rfl rfl ?_
          refine rN_imul (pq := 97) C dX12_addLand_96 rfl ?_
          refine r_iload_n (pq := 98) C dX12_addLand_97 rfl rfl ?_
          refine rN_iadd (pq := 99) C dX12_addLand_98 rfl ?_
          refine m_iald (pq := 100) C hB 14 3208 rfl rfl (by decide) rfl (by decide) (by omega) dX12_addLand_99 rfl (fun b99 => ?_)
          refine r_aload_n (pq := 101) C dX12_addLand_100 rfl rfl ?_
          refine m_geta (pq := 104) C 12 (by decide) rfl rfl (by decide +kernel) dX12_addLand_101 rfl ?_
          refine r_iload_n (pq := 105) C dX12_addLand_104 rfl rfl ?_
          refine m_iald (pq := 106) C hB 12 400 rfl rfl (by decide) rfl (by decide) (by omega) dX12_addLand_105 rfl (fun b105 => ?_)
          refine r_iload_n (pq := 107) C dX12_addLand_106 rfl rfl ?_
          refine rN_ishr (pq := 108) C dX12_addLand_107 (by omega) (by omega) rfl ?_
          refine r_iconst (v := nI 1) (pq := 109) C dX12_addLand_108 (by decide) rfl ?_
          refine rN_iand (pq := 110) C dX12_addLand_109 rfl ?_
          refine rN_iadd (pq := 111) C dX12_addLand_110 rfl ?_
          refine m_iast (pq := 112) C hB 14 3208 rfl rfl (by decide) rfl (by decide) (by omega) dX12_addLand_111 rfl (by have q8 : f1 12 d / 2 ^ l8 &&& 1 ≤ 1 := Nat.and_le_right; simp only [va_up, Nat.reduceEqDiff, if_false]; omega) (fun hB => ?_)
          refine rN_iinc (c := 1) (pq := 115) C dX12_addLand_112 rfl (by decide) (by decide) rfl rfl ?_
          dsimp only [List.set]
          refine r_goto (tg := 24) C dX12_addLand_115 (by decide) ?_
          refine ih (d + 1) _ (by omega) (by omega) ⟨hB, ?_, ?_, ?_⟩
          · intro k h1 h2
            simp only [va_up, if_neg h1, if_neg h2]
            exact hk k h1 h2
          · intro j hj
            by_cases e : j = d + 1
            · subst e
              have e1 : 401 * l8 + (d + 1) = 401 * l8 + d + 1 := by omega
              rw [e1]
              simp only [ps]
              rw [← q1, ← q2, ← q5]
              simp [va_up, Nat.and_one_is_mod, mq, lq]
              omega
            · have e1 : 401 * l8 + j ≠ 401 * l8 + d + 1 := by omega
              have e2 := hs j (by omega)
              simp [va_up, e1, e2.1, e2.2, e]
          · intro i hi
            have e1 : i ≠ 401 * l8 + d + 1 := by omega
            have e2 := ho i hi
            simp [va_up, e1, e2.1, e2.2]
  refine r_aload_n (pq := 1) C dX12_addLand_0 rfl rfl ?_
  refine m_geta (pq := 4) C 13 (by decide) rfl rfl (by decide +kernel) dX12_addLand_1 rfl ?_
  refine r_sipush (v := nI 401) (pq := 7) C dX12_addLand_4 (by decide) rfl ?_
  refine r_iload_n (pq := 8) C dX12_addLand_7 rfl rfl ?_
  refine rN_imul (pq := 9) C dX12_addLand_8 rfl ?_
  refine r_iconst (v := nI 0) (pq := 10) C dX12_addLand_9 (by decide) rfl ?_
  refine m_iast (pq := 11) C hB 13 3208 rfl rfl (by decide) rfl (by decide) (by omega) dX12_addLand_10 rfl (by omega) (fun hB => ?_)
  refine r_aload_n (pq := 12) C dX12_addLand_11 rfl rfl ?_
  refine m_geta (pq := 15) C 14 (by decide) rfl rfl (by decide +kernel) dX12_addLand_12 rfl ?_
  refine r_sipush (v := nI 401) (pq := 18) C dX12_addLand_15 (by decide) rfl ?_
  refine r_iload_n (pq := 19) C dX12_addLand_18 rfl rfl ?_
  refine rN_imul (pq := 20) C dX12_addLand_19 rfl ?_
  refine r_iconst (v := nI 0) (pq := 21) C dX12_addLand_20 (by decide) rfl ?_
  refine m_iast (pq := 22) C hB 14 3208 rfl rfl (by decide) rfl (by decide) (by omega) dX12_addLand_21 rfl (by omega) (fun hB => ?_)
  refine r_iconst (v := nI 0) (pq := 23) C dX12_addLand_22 (by decide) rfl ?_
  refine r_istore_n (j := 2) (pq := 24) C dX12_addLand_23 rfl (by decide) rfl rfl ?_
  dsimp only [List.set]
  refine loop 401 0 _ (by omega) (by omega) ⟨hB, ?_, ?_, ?_⟩
  · intro k h1 h2
    simp only [va_up, if_neg h1, if_neg h2]
  · intro j hj
    have e : j = 0 := by omega
    subst e
    simp [va_up, ps]
  · intro i hi
    have e1 : i ≠ 401 * l8 := by omega
    simp [va_up, e1]

set_option maxHeartbeats 4000000 in
set_option maxRecDepth 100000 in
/-- add -/
theorem mc_X12_add {l : Launch} {E : EV} {A : Nat → Nat} {w0 : RW} {I : Nat → Nat} {f : Nat → Nat → Nat} {g : Nat → Nat → Int32} (hB : mOK I f) : MC l E yX12_add wsX12_add 1 0 0 [.ref (A 0)] (WM E A w0 I f g) (fun r w' => r = none ∧ ∃ f1, w' = WM E A w0 I f1 g ∧ mOK I f1 ∧ (∀ k, k ≠ 13 → k ≠ 14 → f1 k = f k) ∧ (∀ j, j < 8 → LD f1 (f 12) j)) := by
  refine MC.enter (cc := cX12_add) (maxL := 2) (ret := none) (lv0 := [some (.ref (A 0)), none]) (by decide) rfl (by simp [Value.category]) (Nat.le_of_ble_eq_true rfl) rfl ?_
  intro X hl hE C D
  subst hl
  subst hE
  have loop : ∀ (t l8 : Nat) (f1 : Nat → Nat → Nat), l8 ≤ 8 → 8 - l8 < t → (mOK I f1 ∧ (∀ k, k ≠ 13 → k ≠ 14 → f1 k = f k) ∧ (∀ j, j < l8 → LD f1 (f 12) j)) → GG X (WM (xE X) A w0 I f1 g) 0 0 2 [some (.ref (A 0)), some (.int (nI l8))] [] := by
    intro t
    induction t with
    | zero => intro l8 f1 h1 h2; omega
    | succ t ih =>
      intro l8 f1 hd ht hI
      obtain ⟨hB, hk, hs⟩ := hI
      refine r_iload_n (pq := 3) C dX12_add_2 rfl rfl ?_
      refine r_bipush (v := nI 8) (pq := 5) C dX12_add_3 (by decide) rfl ?_
      refine rN_icmp_ge (tg := 19) (pq := 8) C dX12_add_5 (by decide) rfl (by omega) (by omega) (fun c5 => ?_) (fun c5 => ?_)
      · refine r_vret C D rfl ⟨Nat.le_refl _, Nat.le_refl _⟩ dX12_add_19 ?_
        exact ⟨rfl, f1, rfl, hB, hk, fun j hj => hs j (by omega)⟩
      · refine r_aload_n (pq := 9) C dX12_add_8 rfl rfl ?_
        refine r_iload_n (pq := 10) C dX12_add_9 rfl rfl ?_
        refine r_callV (pq := 13) C (mc_X12_addLand hB (by omega)) (WM_obj _ _ _ _ _ _) rfl gX12_add_X12_addLand rfl (na := 1) (by decide +kernel) rfl (by decide) (by decide) (Nat.le_of_ble_eq_true rfl) ⟨Nat.zero_le _, Nat.zero_le _⟩ dX12_add_10 rfl rfl (fun r9 w9 hq => ?_)
        obtain ⟨rfl, f2, rfl, hB2, hk2, hl2, ho2⟩ := hq
        dsimp only [Option.toList, List.cons_append, List.nil_append]
        refine rN_iinc (c := 1) (pq := 16) C dX12_add_13 rfl (by decide) (by decide) rfl rfl ?_
        dsimp only [List.set]
        refine r_goto (tg := 2) C dX12_add_16 (by decide) ?_
        refine ih (l8 + 1) f2 (by omega) (by omega) ⟨hB2, fun k h1 h2 => (hk2 k h1 h2).trans (hk k h1 h2), fun j hj => ?_⟩
        rcases Nat.lt_or_ge j l8 with q | q
        · intro d hd
          have q1 := ho2 (401 * j + d) (Or.inl (by omega))
          rw [q1.1, q1.2]
          exact hs j q d hd
        · rw [show j = l8 by omega, ← hk 12 (by omega) (by omega)]
          exact hl2
  refine r_iconst (v := nI 0) (pq := 1) C dX12_add_0 (by decide) rfl ?_
  refine r_istore_n (j := 1) (pq := 2) C dX12_add_1 rfl (by decide) rfl rfl ?_
  dsimp only [List.set]
  exact loop 9 0 f (by omega) (by omega) ⟨hB, fun _ _ _ => rfl, fun j hj => absurd hj (Nat.not_lt_zero j)⟩

theorem cnF_congr {f f' : Nat → Nat → Nat} (h : ∀ k, 6 ≤ k → k ≤ 11 → f' k = f k) (p d : Nat) : ∀ m, cnF f' p d m = cnF f p d m
  | 0 => rfl
  | m + 1 => by
    simp only [cnF, cnS, cnF_congr h p d m, h 6 (by omega) (by omega), h 7 (by omega) (by omega), h 8 (by omega) (by omega), h 9 (by omega) (by omega), h 10 (by omega) (by omega), h 11 (by omega) (by omega)]
theorem cn_congr {f f' : Nat → Nat → Nat} (h : ∀ k, 6 ≤ k → k ≤ 11 → f' k = f k) (M p d : Nat) : cn f' M p d = cn f M p d := by
  unfold cn
  rw [cnF_congr h]
/-- the row c is laid out, and all sums of it -/
def LY (f : Nat → Nat → Nat) : Prop := ∀ l, l < 8 → LD f (f 12) l
set_option maxHeartbeats 4000000 in
set_option maxRecDepth 100000 in
/-- lay -/
theorem mc_X12_lay {l : Launch} {E : EV} {A : Nat → Nat} {w0 : RW} {I : Nat → Nat} {f : Nat → Nat → Nat} {g : Nat → Nat → Int32} (hB : mOK I f) {p : Nat} (hM : I 5 ≤ 80) (hp : p < 1000000) : MC l E yX12_lay wsX12_lay 2 0 0 [.ref (A 0), .int (nI p)] (WM E A w0 I f g) (fun r w' => r = none ∧ ∃ f1, w' = WM E A w0 I f1 g ∧ mOK I f1 ∧ (∀ k, k ≠ 12 → k ≠ 13 → k ≠ 14 → f1 k = f k) ∧ (∀ j, j < 400 → f1 12 j = cn f (I 5) p j) ∧ LY f1) := by
  refine MC.enter (cc := cX12_lay) (maxL := 3) (ret := none) (lv0 := [some (.ref (A 0)), some (.int (nI p)), none]) (by decide) rfl (by simp [Value.category]) (Nat.le_of_ble_eq_true rfl) rfl ?_
  intro X hl hE C D
  subst hl
  subst hE
  have loop : ∀ (t d : Nat) (f1 : Nat → Nat → Nat), d ≤ 400 → 400 - d < t → (mOK I f1 ∧ (∀ k, k ≠ 12 → f1 k = f k) ∧ (∀ j, j < d → f1 12 j = cn f (I 5) p j)) → GG X (WM (xE X) A w0 I f1 g) 0 0 2 [some (.ref (A 0)), some (.int (nI p)), some (.int (nI d))] [] := by
    intro t
    induction t with
    | zero => intro d f1 h1 h2; omega
    | succ t ih =>
      intro d f1 hd ht hI
      obtain ⟨hB, hk, hs⟩ := hI
      have ec : cn f1 (I 5) p d = cn f (I 5) p d := cn_congr (fun k _ _ => hk k (by omega)) _ _ _
      have el := cn_le f1 (I 5) p d
      refine r_iload_n (pq := 3) C dX12_lay_2 rfl rfl ?_
      refine r_sipush (v := nI 400) (pq := 6) C dX12_lay_3 (by decide) rfl ?_
      refine rN_icmp_ge (tg := 27) (pq := 9) C dX12_lay_6 (by decide) rfl (by omega) (by omega) (fun c6 => ?_) (fun c6 => ?_)
      · refine r_aload_n (pq := 28) C dX12_lay_27 rfl rfl ?_
        refine r_callV (pq := 31) C (mc_X12_add hB) (WM_obj _ _ _ _ _ _) rfl gX12_lay_X12_add rfl (na := 0) (by decide +kernel) rfl (by decide) (by decide) (Nat.le_of_ble_eq_true rfl) ⟨Nat.zero_le _, Nat.zero_le _⟩ dX12_lay_28 rfl rfl (fun r9 w9 hq => ?_)
        obtain ⟨rfl, f2, rfl, hB2, hk2, hl2⟩ := hq
        dsimp only [Option.toList, List.cons_append, List.nil_append]
        refine r_vret C D rfl ⟨Nat.le_refl _, Nat.le_refl _⟩ dX12_lay_31 ?_
        refine ⟨rfl, f2, rfl, hB2, fun k h1 h2 h3 => (hk2 k h2 h3).trans (hk k h1), fun j hj => ?_, fun l hl => ?_⟩
        · rw [hk2 12 (by omega) (by omega)]; exact hs j (by omega)
        · rw [hk2 12 (by omega) (by omega)]; exact hl2 l hl
      · refine r_aload_n (pq := 10) C dX12_lay_9 rfl rfl ?_
        refine m_geta (pq := 13) C 12 (by decide) rfl rfl (by decide +kernel) dX12_lay_10 rfl ?_
        refine r_iload_n (pq := 14) C dX12_lay_13 rfl rfl ?_
        refine r_aload_n (pq := 15) C dX12_lay_14 rfl rfl ?_
        refine r_iload_n (pq := 16) C dX12_lay_15 rfl rfl ?_
        refine r_iload_n (pq := 17) C dX12_lay_16 rfl rfl ?_
        refine r_callV (pq := 20) C (mc_X12_canOf hB hM (by omega) (by omega)) (WM_obj _ _ _ _ _ _) rfl gX12_lay_X12_canOf rfl (na := 2) (by decide +kernel) rfl (by decide) (by decide) (Nat.le_of_ble_eq_true rfl) ⟨Nat.zero_le _, Nat.zero_le _⟩ dX12_lay_17 rfl rfl (fun r9 w9 hq => ?_)
        obtain ⟨rfl, rfl⟩ := hq
        dsimp only [Option.toList, List.cons_append, List.nil_append]
        refine m_iast (pq := 21) C hB 12 400 rfl rfl (by decide) rfl (by decide) (by omega) dX12_lay_20 rfl (by omega) (fun hB => ?_)
        refine rN_iinc (c := 1) (pq := 24) C dX12_lay_21 rfl (by decide) (by decide) rfl rfl ?_
        dsimp only [List.set]
        refine r_goto (tg := 2) C dX12_lay_24 (by decide) ?_
        refine ih (d + 1) _ (by omega) (by omega) ⟨hB, ?_, ?_⟩
        · intro k h1
          simp only [va_up, if_neg h1]
          exact hk k h1
        · intro j hj
          by_cases e : j = d
          · subst e; simp only [va_up, if_true]; exact ec
          · simp only [va_up, if_neg e, if_true]; exact hs j (by omega)
  refine r_iconst (v := nI 0) (pq := 1) C dX12_lay_0 (by decide) rfl ?_
  refine r_istore_n (j := 2) (pq := 2) C dX12_lay_1 rfl (by decide) rfl rfl ?_
  dsimp only [List.set]
  exact loop 401 0 f (by omega) (by omega) ⟨hB, fun _ _ => rfl, fun j hj => absurd hj (Nat.not_lt_zero j)⟩

set_option maxHeartbeats 4000000 in
set_option maxRecDepth 100000 in
/-- leastOf -/
theorem mc_X12_leastOf {l : Launch} {E : EV} {A : Nat → Nat} {w0 : RW} {I : Nat → Nat} {f : Nat → Nat → Nat} {g : Nat → Nat → Int32} (hB : mOK I f) {l8 a b : Nat} (hl8 : l8 < 8) (hL : LD f (f 12) l8) (hab : a ≤ b + 1) (hb : b < 400) : MC l E yX12_leastOf wsX12_leastOf 0 0 0 [.ref (A 0), .int (nI l8), .int (nI a), .int (nI b)] (WM E A w0 I f g) (fun r w' => w' = WM E A w0 I f g ∧ r = some (.int (nI (ps (lq l8 (f 12)) (b + 1) - ps (lq l8 (f 12)) a)))) := by
  refine MC.enter (cc := cX12_leastOf) (maxL := 4) (ret := (some .int)) (lv0 := [some (.ref (A 0)), some (.int (nI l8)), some (.int (nI a)), some (.int (nI b))]) (by decide) rfl (by simp [Value.category]) (Nat.le_of_ble_eq_true rfl) rfl ?_
  intro X hl hE C D
  subst hl
  subst hE
  have q1 := (hL (b + 1) (by omega)).1
  have q2 := (hL a (by omega)).1
  have q3 := ps_mono (lq l8 (f 12)) (show a ≤ b + 1 by omega)
  rw [show 401 * l8 + (b + 1) = 401 * l8 + b + 1 by omega] at q1
  refine r_aload_n (pq := 1) C dX12_leastOf_0 rfl rfl ?_
  refine m_geta (pq := 4) C 13 (by decide) rfl rfl (by decide +kernel) dX12_leastOf_1 rfl ?_
  refine r_sipush (v := nI 401) (pq := 7) C dX12_leastOf_4 (by decide) rfl ?_
  refine r_iload_n (pq := 8) C dX12_leastOf_7 rfl rfl ?_
  refine rN_imul (pq := 9) C dX12_leastOf_8 rfl ?_
  refine r_iload_n (pq := 10) C dX12_leastOf_9 rfl rfl ?_
  refine rN_iadd (pq := 11) C dX12_leastOf_10 rfl ?_
  refine r_iconst (v := nI 1) (pq := 12) C dX12_leastOf_11 (by decide) rfl ?_
  refine rN_iadd (pq := 13) C dX12_leastOf_12 rfl ?_
  refine m_iald (pq := 14) C hB 13 3208 rfl rfl (by decide) rfl (by decide) (by omega) dX12_leastOf_13 rfl (fun b13 => ?_)
  refine r_aload_n (pq := 15) C dX12_leastOf_14 rfl rfl ?_
  refine m_geta (pq := 18) C 13 (by decide) rfl rfl (by decide +kernel) dX12_leastOf_15 rfl ?_
  refine r_sipush (v := nI 401) (pq := 21) C dX12_leastOf_18 (by decide) rfl ?_
  refine r_iload_n (pq := 22) C dX12_leastOf_21 rfl rfl ?_
  refine rN_imul (pq := 23) C dX12_leastOf_22 rfl ?_
  refine r_iload_n (pq := 24) C dX12_leastOf_23 rfl rfl ?_
  refine rN_iadd (pq := 25) C dX12_leastOf_24 rfl ?_
  refine m_iald (pq := 26) C hB 13 3208 rfl rfl (by decide) rfl (by decide) (by omega) dX12_leastOf_25 rfl (fun b25 => ?_)
  refine rN_isub (pq := 27) C dX12_leastOf_26 (by omega) rfl ?_
  refine r_iret C D rfl ⟨Nat.le_refl _, Nat.le_refl _⟩ dX12_leastOf_27 ?_
  exact ⟨rfl, by rw [q1, q2]⟩

set_option maxHeartbeats 4000000 in
set_option maxRecDepth 100000 in
/-- mostOf -/
theorem mc_X12_mostOf {l : Launch} {E : EV} {A : Nat → Nat} {w0 : RW} {I : Nat → Nat} {f : Nat → Nat → Nat} {g : Nat → Nat → Int32} (hB : mOK I f) {l8 a b : Nat} (hl8 : l8 < 8) (hL : LD f (f 12) l8) (hab : a ≤ b + 1) (hb : b < 400) : MC l E yX12_mostOf wsX12_mostOf 0 0 0 [.ref (A 0), .int (nI l8), .int (nI a), .int (nI b)] (WM E A w0 I f g) (fun r w' => w' = WM E A w0 I f g ∧ r = some (.int (nI (ps (mq l8 (f 12)) (b + 1) - ps (mq l8 (f 12)) a)))) := by
  refine MC.enter (cc := cX12_mostOf) (maxL := 4) (ret := (some .int)) (lv0 := [some (.ref (A 0)), some (.int (nI l8)), some (.int (nI a)), some (.int (nI b))]) (by decide) rfl (by simp [Value.category]) (Nat.le_of_ble_eq_true rfl) rfl ?_
  intro X hl hE C D
  subst hl
  subst hE
  have q1 := (hL (b + 1) (by omega)).2
  have q2 := (hL a (by omega)).2
  have q3 := ps_mono (mq l8 (f 12)) (show a ≤ b + 1 by omega)
  rw [show 401 * l8 + (b + 1) = 401 * l8 + b + 1 by omega] at q1
  refine r_aload_n (pq := 1) C dX12_mostOf_0 rfl rfl ?_
  refine m_geta (pq := 4) C 14 (by decide) rfl rfl (by decide +kernel) dX12_mostOf_1 rfl ?_
  refine r_sipush (v := nI 401) (pq := 7) C dX12_mostOf_4 (by decide) rfl ?_
  refine r_iload_n (pq := 8) C dX12_mostOf_7 rfl rfl ?_
  refine rN_imul (pq := 9) C dX12_mostOf_8 rfl ?_
  refine r_iload_n (pq := 10) C dX12_mostOf_9 rfl rfl ?_
  refine rN_iadd (pq := 11) C dX12_mostOf_10 rfl ?_
  refine r_iconst (v := nI 1) (pq := 12) C dX12_mostOf_11 (by decide) rfl ?_
  refine rN_iadd (pq := 13) C dX12_mostOf_12 rfl ?_
  refine m_iald (pq := 14) C hB 14 3208 rfl rfl (by decide) rfl (by decide) (by omega) dX12_mostOf_13 rfl (fun b13 => ?_)
  refine r_aload_n (pq := 15) C dX12_mostOf_14 rfl rfl ?_
  refine m_geta (pq := 18) C 14 (by decide) rfl rfl (by decide +kernel) dX12_mostOf_15 rfl ?_
  refine r_sipush (v := nI 401) (pq := 21) C dX12_mostOf_18 (by decide) rfl ?_
  refine r_iload_n (pq := 22) C dX12_mostOf_21 rfl rfl ?_
  refine rN_imul (pq := 23) C dX12_mostOf_22 rfl ?_
  refine r_iload_n (pq := 24) C dX12_mostOf_23 rfl rfl ?_
  refine rN_iadd (pq := 25) C dX12_mostOf_24 rfl ?_
  refine m_iald (pq := 26) C hB 14 3208 rfl rfl (by decide) rfl (by decide) (by omega) dX12_mostOf_25 rfl (fun b25 => ?_)
  refine rN_isub (pq := 27) C dX12_mostOf_26 (by omega) rfl ?_
  refine r_iret C D rfl ⟨Nat.le_refl _, Nat.le_refl _⟩ dX12_mostOf_27 ?_
  exact ⟨rfl, by rw [q1, q2]⟩


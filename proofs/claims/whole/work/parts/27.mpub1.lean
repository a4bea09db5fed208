/-! ===== the reference's calls: people and marks ===== -/
/-- a call of the reference answers v and leaves a state that shows as s -/
def mP (E : EV) (A : Nat → Nat) (w0 : RW) (v : Int32) (s : ST) : Option Value → RW → Prop := fun r w' => r = some (.int v) ∧ ∃ t : ST, w' = WM E A w0 t.1 t.2.1 t.2.2 ∧ mOK t.1 t.2.1 ∧ EQ s t
theorem in_b {x : Int32} {a b : Nat} (ha : a < 2147483648) (hb : b < 2147483648) : ((nI a).toInt ≤ x.toInt ∧ x.toInt ≤ (nI b).toInt) ↔ ((a : Int) ≤ x.toInt ∧ x.toInt ≤ (b : Int)) := by rw [nI_toInt (by omega), nI_toInt (by omega)]
theorem in_of {x : Int32} {a b : Nat} (h : (a : Int) ≤ x.toInt ∧ x.toInt ≤ (b : Int)) (hb : b < 2147483647) : ∃ j : Nat, a ≤ j ∧ j ≤ b ∧ x = nI j := by
  obtain ⟨j, h1, h2⟩ := rg_of (x := x) (n := b + 1) ⟨by omega, by omega⟩ (by omega)
  subst h2
  rw [nI_toInt (by omega)] at h
  exact ⟨j, by omega, by omega, rfl⟩

theorem va_s {α : Type} (f : Nat → α) (k : Nat) (v : α) : va_up f k v k = v := by simp [va_up]
theorem va_n {α : Type} (f : Nat → α) {k j : Nat} (v : α) (h : j ≠ k) : va_up f k v j = f j := by simp [va_up, h]
theorem upf_s (f : Nat → Nat → Nat) (k i x : Nat) : upf f k i x k i = x := by unfold upf; rw [va_s, va_s]
theorem upf_n (f : Nat → Nat → Nat) {k i j : Nat} (x : Nat) (h : j ≠ i) : upf f k i x k j = f k j := by unfold upf; rw [va_s, va_n _ _ h]
theorem upf_o (f : Nat → Nat → Nat) {k i j : Nat} (x : Nat) (h : j ≠ k) : upf f k i x j = f j := by unfold upf; rw [va_n _ _ h]
theorem upf_m (f : Nat → Nat → Nat) {k i j m : Nat} (x : Nat) (h : m ≠ i) : upf f k i x j m = f j m := by
  by_cases e : j = k
  · subst e; exact upf_n f x h
  · rw [upf_o f x e]
theorem addm_o (f : Nat → Nat → Nat) {M k p a b l j : Nat} (h : j < 6 ∨ 11 < j) : addm f M k p a b l j = f j := by
  unfold addm
  rw [upf_o _ _ (by omega), upf_o _ _ (by omega), upf_o _ _ (by omega), upf_o _ _ (by omega), upf_o _ _ (by omega), upf_o _ _ (by omega)]
theorem addm_n (f : Nat → Nat → Nat) {M k p a b l j m : Nat} (h : m ≠ M) : addm f M k p a b l j m = f j m := by
  unfold addm
  rw [upf_m _ _ h, upf_m _ _ h, upf_m _ _ h, upf_m _ _ h, upf_m _ _ h, upf_m _ _ h]
theorem EQ_of2 {I I' : Nat → Nat} {f f' : Nat → Nat → Nat} {g g' : Nat → Nat → Int32} (h1 : I' 1 = I 1) (h5 : I' 5 = I 5) (h16 : I' 16 = I 16) (hf : ∀ k, (k < 6 ∨ 11 < k) → k ≠ 12 → k ≠ 13 → k ≠ 14 → k ≠ 15 → k ≠ 21 → f' k = f k) (hm : ∀ m, m < I 5 → ∀ k, 6 ≤ k → k ≤ 11 → f' k m = f k m) (hg : g' = g) : EQ (I, f, g) (I', f', g') := by
  have e := EQ_of (I := I) (I' := I') (f := f) (f' := fun k => if k < 6 ∨ 11 < k then f' k else f k) (g := g) (g' := g') h1 h5 h16 (fun k q1 q2 q3 q4 q5 => by
    by_cases q : k < 6 ∨ 11 < k
    · simp [q, hf k q q1 q2 q3 q4 q5]
    · simp [q]) hg
  obtain ⟨e1, e2, e3, e4, e5, e6, e7, e8, e9⟩ := e
  exact ⟨e1, e2, e3, e4, fun m q k q1 q2 => hm m q k q1 q2, e6, e7, e8, e9⟩

set_option maxHeartbeats 4000000 in
set_option maxRecDepth 100000 in
/-- person -/
theorem mc_X12_person {l : Launch} {E : EV} {A : Nat → Nat} {w0 : RW} {I : Nat → Nat} {f : Nat → Nat → Nat} {g : Nat → Nat → Int32} (hS : SI (I, f, g)) {x y : Int32} : MC l E yX12_person wsX12_person 3 0 0 [.ref (A 0), .int x, .int y] (WM E A w0 I f g) (mP E A w0 (rs_person (I, f, g) x y) (nx_person (I, f, g) x y)) := by
  refine MC.enter (cc := cX12_person) (maxL := 3) (ret := (some .int)) (lv0 := [some (.ref (A 0)), some (.int x), some (.int y)]) (by decide) rfl (by simp [Value.category]) (Nat.le_of_ble_eq_true rfl) rfl ?_
  intro X hl hE C D
  subst hl
  subst hE
  have hB : mOK I f := hS.1
  by_cases hok : rg x 8 ∧ rg y 8
  · obtain ⟨a, ha, rfl⟩ := rg_of hok.1 (by omega)
    obtain ⟨b, hb, rfl⟩ := rg_of hok.2 (by omega)
    have hP : I 1 ≤ 6 := hS.2.1
    refine r_iload_n (pq := 1) C dX12_person_0 rfl rfl ?_
    refine r_callS (pq := 4) C (mc_X12_isLand) gX12_person_X12_isLand rfl (na := 1) (by decide +kernel) rfl (by decide) (by decide) (Nat.le_of_ble_eq_true rfl) ⟨Nat.zero_le _, Nat.zero_le _⟩ dX12_person_1 rfl rfl (fun r9 w9 hq => ?_)
    obtain ⟨rfl, rfl⟩ := hq
    dsimp only [Option.toList, List.cons_append, List.nil_append]
    have l1 := b2_lt (rg (nI a) 8)
    refine rN_if_eq (tg := 14) (pq := 7) C dX12_person_4 (by decide) rfl (by omega) (fun c4 => absurd c4 (b2_1.mpr (hok.1))) (fun c4 => ?_)
    refine r_iload_n (pq := 8) C dX12_person_7 rfl rfl ?_
    refine r_callS (pq := 11) C (mc_X12_isLand) gX12_person_X12_isLand rfl (na := 1) (by decide +kernel) rfl (by decide) (by decide) (Nat.le_of_ble_eq_true rfl) ⟨Nat.zero_le _, Nat.zero_le _⟩ dX12_person_8 rfl rfl (fun r9 w9 hq => ?_)
    obtain ⟨rfl, rfl⟩ := hq
    dsimp only [Option.toList, List.cons_append, List.nil_append]
    have l8 := b2_lt (rg (nI b) 8)
    refine rN_if_ne (tg := 16) (pq := 14) C dX12_person_11 (by decide) rfl (by omega) (fun c11 => ?_) (fun c11 => absurd c11 (b2_1.mpr (hok.2)))
    refine r_aload_n (pq := 17) C dX12_person_16 rfl rfl ?_
    refine m_geti (pq := 20) C hB 1 (by decide) rfl rfl (by decide +kernel) dX12_person_17 rfl (fun b17 => ?_)
    refine r_bipush (v := nI 6) (pq := 22) C dX12_person_20 (by decide) rfl ?_
    refine rN_icmp_ne (tg := 28) (pq := 25) C dX12_person_22 (by decide) rfl (by omega) (by omega) (fun c22 => ?_) (fun c22 => ?_)
    · refine r_aload_n (pq := 29) C dX12_person_28 rfl rfl ?_
      refine m_geta (pq := 32) C 2 (by decide) rfl rfl (by decide +kernel) dX12_person_29 rfl ?_
      refine r_aload_n (pq := 33) C dX12_person_32 rfl rfl ?_
      refine m_geti (pq := 36) C hB 1 (by decide) rfl rfl (by decide +kernel) dX12_person_33 rfl (fun b33 => ?_)
      refine r_iload_n (pq := 37) C dX12_person_36 rfl rfl ?_
      refine m_iast (pq := 38) C hB 2 6 rfl rfl (by decide) rfl (by decide) (by omega) dX12_person_37 rfl (by omega) (fun hB => ?_)
      refine r_aload_n (pq := 39) C dX12_person_38 rfl rfl ?_
      refine m_geta (pq := 42) C 3 (by decide) rfl rfl (by decide +kernel) dX12_person_39 rfl ?_
      refine r_aload_n (pq := 43) C dX12_person_42 rfl rfl ?_
      refine m_geti (pq := 46) C hB 1 (by decide) rfl rfl (by decide +kernel) dX12_person_43 rfl (fun b43 => ?_)
      refine r_iload_n (pq := 47) C dX12_person_46 rfl rfl ?_
      refine m_iast (pq := 48) C hB 3 6 rfl rfl (by decide) rfl (by decide) (by omega) dX12_person_47 rfl (by omega) (fun hB => ?_)
      refine r_aload_n (pq := 49) C dX12_person_48 rfl rfl ?_
      refine m_geta (pq := 52) C 4 (by decide) rfl rfl (by decide +kernel) dX12_person_49 rfl ?_
      refine r_aload_n (pq := 53) C dX12_person_52 rfl rfl ?_
      refine m_geti (pq := 56) C hB 1 (by decide) rfl rfl (by decide +kernel) dX12_person_53 rfl (fun b53 => ?_)
      refine r_iconst (v := nI 0) (pq := 57) C dX12_person_56 (by decide) rfl ?_
      refine m_zast (pq := 58) C hB 4 6 (by omega) rfl rfl (by decide) rfl (by decide) (by omega) dX12_person_57 rfl (by omega) (fun hB => ?_)
      refine r_aload_n (pq := 59) C dX12_person_58 rfl rfl ?_
      refine r_dup (pq := 60) C dX12_person_59 rfl rfl ?_
      refine m_geti (pq := 63) C hB 1 (by decide) rfl rfl (by decide +kernel) dX12_person_60 rfl (fun b60 => ?_)
      refine r_iconst (v := nI 1) (pq := 64) C dX12_person_63 (by decide) rfl ?_
      refine rN_iadd (pq := 65) C dX12_person_64 rfl ?_
      refine m_puti (pq := 68) C hB 1 (by decide) rfl rfl rfl (by decide +kernel) dX12_person_65 rfl (by omega) (fun hB => ?_)
      refine r_aload_n (pq := 69) C dX12_person_68 rfl rfl ?_
      refine m_geti (pq := 72) C hB 1 (by decide) rfl rfl (by decide +kernel) dX12_person_69 rfl (fun b69 => ?_)
      refine r_iconst (v := nI 1) (pq := 73) C dX12_person_72 (by decide) rfl ?_
      refine rN_isub (pq := 74) C dX12_person_73 (by simp [va_up]) rfl ?_
      refine r_iret C D rfl ⟨Nat.le_refl _, Nat.le_refl _⟩ dX12_person_74 ?_
      refine ⟨?_, (_, _, _), rfl, hB, ?_⟩
      · unfold rs_person
        rw [if_pos hok, if_neg c22]
        simp [va_up]
      · unfold nx_person
        rw [if_pos ⟨hok, c22⟩, tn_nI (by omega), tn_nI (by omega)]
        exact EQ_rfl _
    · refine r_bipush (v := (-2)) (pq := 27) C dX12_person_25 (by decide) rfl ?_
      refine r_iret C D rfl ⟨Nat.le_refl _, Nat.le_refl _⟩ dX12_person_27 ?_
      refine ⟨?_, (I, f, g), rfl, hB, ?_⟩
      · unfold rs_person
        rw [if_pos hok, if_pos c22]
      · unfold nx_person
        rw [if_neg (fun h => h.2 c22)]
        exact EQ_rfl _
  · have hbad := hok
    refine r_iload_n (pq := 1) C dX12_person_0 rfl rfl ?_
    refine r_callS (pq := 4) C (mc_X12_isLand) gX12_person_X12_isLand rfl (na := 1) (by decide +kernel) rfl (by decide) (by decide) (Nat.le_of_ble_eq_true rfl) ⟨Nat.zero_le _, Nat.zero_le _⟩ dX12_person_1 rfl rfl (fun r9 w9 hq => ?_)
    obtain ⟨rfl, rfl⟩ := hq
    dsimp only [Option.toList, List.cons_append, List.nil_append]
    have l1 := b2_lt (rg x 8)
    refine rN_if_eq (tg := 14) (pq := 7) C dX12_person_4 (by decide) rfl (by omega) (fun c4 => ?_) (fun c4 => ?_)
    · refine r_iconst (v := (-1)) (pq := 15) C dX12_person_14 (by decide) rfl ?_
      refine r_iret C D rfl ⟨Nat.le_refl _, Nat.le_refl _⟩ dX12_person_15 ?_
      refine ⟨?_, (I, f, g), rfl, hB, ?_⟩
      · unfold rs_person
        rw [if_neg hbad]
      · unfold nx_person
        rw [if_neg (fun h => hbad h.1)]
        exact EQ_rfl _
    · refine r_iload_n (pq := 8) C dX12_person_7 rfl rfl ?_
      refine r_callS (pq := 11) C (mc_X12_isLand) gX12_person_X12_isLand rfl (na := 1) (by decide +kernel) rfl (by decide) (by decide) (Nat.le_of_ble_eq_true rfl) ⟨Nat.zero_le _, Nat.zero_le _⟩ dX12_person_8 rfl rfl (fun r9 w9 hq => ?_)
      obtain ⟨rfl, rfl⟩ := hq
      dsimp only [Option.toList, List.cons_append, List.nil_append]
      have l8 := b2_lt (rg y 8)
      refine rN_if_ne (tg := 16) (pq := 14) C dX12_person_11 (by decide) rfl (by omega) (fun c11 => ?_) (fun c11 => ?_)
      · exact absurd ⟨b2_1.mp c4, b2_1.mp c11⟩ hbad
      · refine r_iconst (v := (-1)) (pq := 15) C dX12_person_14 (by decide) rfl ?_
        refine r_iret C D rfl ⟨Nat.le_refl _, Nat.le_refl _⟩ dX12_person_15 ?_
        refine ⟨?_, (I, f, g), rfl, hB, ?_⟩
        · unfold rs_person
          rw [if_neg hbad]
        · unfold nx_person
          rw [if_neg (fun h => hbad h.1)]
          exact EQ_rfl _

set_option maxHeartbeats 4000000 in
set_option maxRecDepth 100000 in
/-- comes -/
theorem mc_X12_comes {l : Launch} {E : EV} {A : Nat → Nat} {w0 : RW} {I : Nat → Nat} {f : Nat → Nat → Nat} {g : Nat → Nat → Int32} (hS : SI (I, f, g)) {k p a b l9 : Nat} (hk : k < 4) (hp : p < I 1) (ha : a < 400) (hb : b < 400) (hl : l9 ≤ 255) : MC l E yX12_comes wsX12_comes 3 0 0 [.ref (A 0), .int (nI k), .int (nI p), .int (nI a), .int (nI b), .int (nI l9)] (WM E A w0 I f g) (mP E A w0 (rs_comes (I, f, g) k p a b l9) (nx_comes (I, f, g) k p a b l9)) := by
  refine MC.enter (cc := cX12_comes) (maxL := 6) (ret := (some .int)) (lv0 := [some (.ref (A 0)), some (.int (nI k)), some (.int (nI p)), some (.int (nI a)), some (.int (nI b)), some (.int (nI l9))]) (by decide) rfl (by simp [Value.category]) (Nat.le_of_ble_eq_true rfl) rfl ?_
  intro X hl hE C D
  subst hl
  subst hE
  have hB : mOK I f := hS.1
  have hM : I 5 ≤ 80 := hS.2.2.1
  have hP6 : I 1 ≤ 6 := hS.2.1
  refine r_aload_n (pq := 1) C dX12_comes_0 rfl rfl ?_
  refine m_geti (pq := 4) C hB 5 (by decide) rfl rfl (by decide +kernel) dX12_comes_1 rfl (fun b1 => ?_)
  refine r_bipush (v := nI 80) (pq := 6) C dX12_comes_4 (by decide) rfl ?_
  refine rN_icmp_ne (tg := 12) (pq := 9) C dX12_comes_6 (by decide) rfl (by omega) (by omega) (fun c6 => ?_) (fun c6 => ?_)
  · refine r_aload_n (pq := 13) C dX12_comes_12 rfl rfl ?_
    refine m_geta (pq := 16) C 4 (by decide) rfl rfl (by decide +kernel) dX12_comes_13 rfl ?_
    refine r_iload_n (pq := 17) C dX12_comes_16 rfl rfl ?_
    refine m_zald (pq := 18) C hB 4 6 rfl rfl (by decide) rfl (by decide) (by have h9 : I 1 ≤ 6 := hS.2.1; omega) dX12_comes_17 rfl (fun b17 => ?_)
    refine rN_if_eq (tg := 24) (pq := 21) C dX12_comes_18 (by decide) rfl (by omega) (fun c18 => ?_) (fun c18 => ?_)
    · refine r_aload_n (pq := 25) C dX12_comes_24 rfl rfl ?_
      refine m_geta (pq := 28) C 6 (by decide) rfl rfl (by decide +kernel) dX12_comes_25 rfl ?_
      refine r_aload_n (pq := 29) C dX12_comes_28 rfl rfl ?_
      refine m_geti (pq := 32) C hB 5 (by decide) rfl rfl (by decide +kernel) dX12_comes_29 rfl (fun b29 => ?_)
      refine r_iload_n (pq := 33) C dX12_comes_32 rfl rfl ?_
      refine m_iast (pq := 34) C hB 6 80 rfl rfl (by decide) rfl (by decide) (by omega) dX12_comes_33 rfl (by omega) (fun hB => ?_)
      refine r_aload_n (pq := 35) C dX12_comes_34 rfl rfl ?_
      refine m_geta (pq := 38) C 7 (by decide) rfl rfl (by decide +kernel) dX12_comes_35 rfl ?_
      refine r_aload_n (pq := 39) C dX12_comes_38 rfl rfl ?_
      refine m_geti (pq := 42) C hB 5 (by decide) rfl rfl (by decide +kernel) dX12_comes_39 rfl (fun b39 => ?_)
      refine r_iload_n (pq := 43) C dX12_comes_42 rfl rfl ?_
      refine m_iast (pq := 44) C hB 7 80 rfl rfl (by decide) rfl (by decide) (by omega) dX12_comes_43 rfl (by omega) (fun hB => ?_)
      refine r_aload_n (pq := 45) C dX12_comes_44 rfl rfl ?_
      refine m_geta (pq := 48) C 8 (by decide) rfl rfl (by decide +kernel) dX12_comes_45 rfl ?_
      refine r_aload_n (pq := 49) C dX12_comes_48 rfl rfl ?_
      refine m_geti (pq := 52) C hB 5 (by decide) rfl rfl (by decide +kernel) dX12_comes_49 rfl (fun b49 => ?_)
      refine r_iload_n (pq := 53) C dX12_comes_52 rfl rfl ?_
      refine m_iast (pq := 54) C hB 8 80 rfl rfl (by decide) rfl (by decide) (by omega) dX12_comes_53 rfl (by omega) (fun hB => ?_)
      refine r_aload_n (pq := 55) C dX12_comes_54 rfl rfl ?_
      refine m_geta (pq := 58) C 9 (by decide) rfl rfl (by decide +kernel) dX12_comes_55 rfl ?_
      refine r_aload_n (pq := 59) C dX12_comes_58 rfl rfl ?_
      refine m_geti (pq := 62) C hB 5 (by decide) rfl rfl (by decide +kernel) dX12_comes_59 rfl (fun b59 => ?_)
      refine r_iload (pq := 64) C dX12_comes_62 rfl rfl ?_
      refine m_iast (pq := 65) C hB 9 80 rfl rfl (by decide) rfl (by decide) (by omega) dX12_comes_64 rfl (by omega) (fun hB => ?_)
      refine r_aload_n (pq := 66) C dX12_comes_65 rfl rfl ?_
      refine m_geta (pq := 69) C 10 (by decide) rfl rfl (by decide +kernel) dX12_comes_66 rfl ?_
      refine r_aload_n (pq := 70) C dX12_comes_69 rfl rfl ?_
      refine m_geti (pq := 73) C hB 5 (by decide) rfl rfl (by decide +kernel) dX12_comes_70 rfl (fun b70 => ?_)
      refine r_iload (pq := 75) C dX12_comes_73 rfl rfl ?_
      refine m_iast (pq := 76) C hB 10 80 rfl rfl (by decide) rfl (by decide) (by omega) dX12_comes_75 rfl (by omega) (fun hB => ?_)
      refine r_aload_n (pq := 77) C dX12_comes_76 rfl rfl ?_
      refine m_geta (pq := 80) C 11 (by decide) rfl rfl (by decide +kernel) dX12_comes_77 rfl ?_
      refine r_aload_n (pq := 81) C dX12_comes_80 rfl rfl ?_
      refine m_geti (pq := 84) C hB 5 (by decide) rfl rfl (by decide +kernel) dX12_comes_81 rfl (fun b81 => ?_)
      refine r_iconst (v := nI 0) (pq := 85) C dX12_comes_84 (by decide) rfl ?_
      refine m_zast (pq := 86) C hB 11 80 (by omega) rfl rfl (by decide) rfl (by decide) (by omega) dX12_comes_85 rfl (by omega) (fun hB => ?_)
      refine r_aload_n (pq := 87) C dX12_comes_86 rfl rfl ?_
      refine r_dup (pq := 88) C dX12_comes_87 rfl rfl ?_
      refine m_geti (pq := 91) C hB 5 (by decide) rfl rfl (by decide +kernel) dX12_comes_88 rfl (fun b88 => ?_)
      refine r_iconst (v := nI 1) (pq := 92) C dX12_comes_91 (by decide) rfl ?_
      refine rN_iadd (pq := 93) C dX12_comes_92 rfl ?_
      refine m_puti (pq := 96) C hB 5 (by decide) rfl rfl rfl (by decide +kernel) dX12_comes_93 rfl (by omega) (fun hB => ?_)
      refine r_aload_n (pq := 97) C dX12_comes_96 rfl rfl ?_
      refine r_iload_n (pq := 98) C dX12_comes_97 rfl rfl ?_
      refine r_callV (pq := 101) C (mc_X12_isWhole hB (by show va_up I 5 (I 5 + 1) 5 ≤ 80; simp [va_up]; omega) (by omega)) (WM_obj _ _ _ _ _ _) rfl gX12_comes_X12_isWhole rfl (na := 1) (by decide +kernel) rfl (by decide) (by decide) (Nat.le_of_ble_eq_true rfl) ⟨Nat.zero_le _, Nat.zero_le _⟩ dX12_comes_98 rfl rfl (fun r9 w9 hq => ?_)
      obtain ⟨rfl, rfl⟩ := hq
      dsimp only [Option.toList, List.cons_append, List.nil_append]
      have e5 : va_up I 5 (I 5 + 1) 5 = I 5 + 1 := by simp [va_up]
      simp only [e5]
      change GG X (WM (xE X) A w0 (va_up I 5 (I 5 + 1)) (addm f (I 5) k p a b l9) g) _ _ _ _ (.int (nI (b2 (whl (addm f (I 5) k p a b l9) (I 5 + 1) p))) :: _)
      have l98 := b2_lt (whl (addm f (I 5) k p a b l9) (I 5 + 1) p)
      change mOK (va_up I 5 (I 5 + 1)) (addm f (I 5) k p a b l9) at hB
      refine rN_if_ne (tg := 117) (pq := 104) C dX12_comes_101 (by decide) rfl (by omega) (fun c101 => ?_) (fun c101 => ?_)
      · refine r_aload_n (pq := 118) C dX12_comes_117 rfl rfl ?_
        refine m_geti (pq := 121) C hB 5 (by decide) rfl rfl (by decide +kernel) dX12_comes_118 rfl (fun b118 => ?_)
        refine r_iconst (v := nI 1) (pq := 122) C dX12_comes_121 (by decide) rfl ?_
        refine rN_isub (pq := 123) C dX12_comes_122 (by simp [va_up]) rfl ?_
        refine r_iret C D rfl ⟨Nat.le_refl _, Nat.le_refl _⟩ dX12_comes_123 ?_
        refine ⟨?_, (_, _, _), rfl, hB, ?_⟩
        · unfold rs_comes
          rw [if_neg c6, if_neg (fun h => h c18), if_pos (b2_1.mp c101)]
          simp [va_up]
        · unfold nx_comes
          rw [if_pos ⟨c6, by omega, b2_1.mp c101⟩]
          exact EQ_rfl _
      · refine r_aload_n (pq := 105) C dX12_comes_104 rfl rfl ?_
        refine r_dup (pq := 106) C dX12_comes_105 rfl rfl ?_
        refine m_geti (pq := 109) C hB 5 (by decide) rfl rfl (by decide +kernel) dX12_comes_106 rfl (fun b106 => ?_)
        refine r_iconst (v := nI 1) (pq := 110) C dX12_comes_109 (by decide) rfl ?_
        refine rN_isub (pq := 111) C dX12_comes_110 (by simp [va_up]) rfl ?_
        refine m_puti (pq := 114) C hB 5 (by decide) rfl rfl rfl (by decide +kernel) dX12_comes_111 rfl (by simp [va_up]; omega) (fun hB => ?_)
        have i1 : va_up (va_up I 5 (I 5 + 1)) 5 (va_up I 5 (I 5 + 1) 5 - 1) 1 = I 1 := by rw [va_n _ _ (by decide), va_n _ _ (by decide)]
        have i16 : va_up (va_up I 5 (I 5 + 1)) 5 (va_up I 5 (I 5 + 1) 5 - 1) 16 = I 16 := by rw [va_n _ _ (by decide), va_n _ _ (by decide)]
        have i5 : va_up (va_up I 5 (I 5 + 1)) 5 (va_up I 5 (I 5 + 1) 5 - 1) 5 = I 5 := by rw [va_s, va_s]; omega
        generalize va_up (va_up I 5 (I 5 + 1)) 5 (va_up I 5 (I 5 + 1) 5 - 1) = I9 at hB i1 i5 i16 ⊢
        refine r_bipush (v := (-4)) (pq := 116) C dX12_comes_114 (by decide) rfl ?_
        refine r_iret C D rfl ⟨Nat.le_refl _, Nat.le_refl _⟩ dX12_comes_116 ?_
        refine ⟨?_, (_, _, _), rfl, hB, ?_⟩
        · unfold rs_comes
          rw [if_neg c6, if_neg (fun h => h c18), if_neg (b2_0.mp c101)]
        · unfold nx_comes
          rw [if_neg (fun h => b2_0.mp c101 h.2.2)]
          exact EQ_of2 i1 i5 i16 (fun k q1 _ _ _ _ _ => addm_o f q1) (fun m hm k _ _ => addm_n f (Nat.ne_of_lt hm)) rfl
    · refine r_bipush (v := (-3)) (pq := 23) C dX12_comes_21 (by decide) rfl ?_
      refine r_iret C D rfl ⟨Nat.le_refl _, Nat.le_refl _⟩ dX12_comes_23 ?_
      refine ⟨?_, (I, f, g), rfl, hB, ?_⟩
      · unfold rs_comes
        rw [if_neg c6, if_pos c18]
      · unfold nx_comes
        rw [if_neg (fun h => c18 h.2.1)]
        exact EQ_rfl _
  · refine r_bipush (v := (-2)) (pq := 11) C dX12_comes_9 (by decide) rfl ?_
    refine r_iret C D rfl ⟨Nat.le_refl _, Nat.le_refl _⟩ dX12_comes_11 ?_
    refine ⟨?_, (I, f, g), rfl, hB, ?_⟩
    · unfold rs_comes
      rw [if_pos c6]
    · unfold nx_comes
      rw [if_neg (fun h => h.1 c6)]
      exact EQ_rfl _


/-! ===== what a night can have been, by the reference ===== -/
def cnS (f : Nat → Nat → Nat) (p d m : Nat) (s : Nat × Nat × Nat) : Nat × Nat × Nat := if f 7 m = p ∧ f 11 m = 0 ∧ f 8 m ≤ d ∧ d ≤ f 9 m then (if f 6 m = 3 then (s.1, s.2.1 &&& f 10 m, s.2.2) else (s.1 &&& f 10 m, s.2.1, 1)) else s
def cnF (f : Nat → Nat → Nat) (p d : Nat) : Nat → Nat × Nat × Nat
  | 0 => (255, 255, 0)
  | m + 1 => cnS f p d m (cnF f p d m)
def cn (f : Nat → Nat → Nat) (M p d : Nat) : Nat := if (cnF f p d M).2.2 = 0 then (cnF f p d M).2.1 else (cnF f p d M).1
theorem cnF_le (f : Nat → Nat → Nat) (p d : Nat) : ∀ m, (cnF f p d m).1 ≤ 255 ∧ (cnF f p d m).2.1 ≤ 255 ∧ (cnF f p d m).2.2 ≤ 1
  | 0 => by simp [cnF]
  | m + 1 => by
    have ih := cnF_le f p d m
    have h1 : (cnF f p d m).1 &&& f 10 m ≤ (cnF f p d m).1 := Nat.and_le_left
    have h2 : (cnF f p d m).2.1 &&& f 10 m ≤ (cnF f p d m).2.1 := Nat.and_le_left
    simp only [cnF, cnS]
    split
    · split
      · exact ⟨ih.1, by show (cnF f p d m).2.1 &&& f 10 m ≤ 255; omega, ih.2.2⟩
      · exact ⟨by show (cnF f p d m).1 &&& f 10 m ≤ 255; omega, ih.2.1, Nat.le_refl _⟩
    · exact ih
theorem cn_le (f : Nat → Nat → Nat) (M p d : Nat) : cn f M p d ≤ 255 := by
  have h := cnF_le f p d M
  unfold cn
  split
  · exact h.2.1
  · exact h.1

set_option maxHeartbeats 4000000 in
set_option maxRecDepth 100000 in
/-- canOf -/
theorem mc_X12_canOf {l : Launch} {E : EV} {A : Nat → Nat} {w0 : RW} {I : Nat → Nat} {f : Nat → Nat → Nat} {g : Nat → Nat → Int32} (hB : mOK I f) {p d : Nat} (hM : I 5 ≤ 80) (hp : p < 1000000) (hd : d < 1000000) : MC l E yX12_canOf wsX12_canOf 1 0 0 [.ref (A 0), .int (nI p), .int (nI d)] (WM E A w0 I f g) (fun r w' => w' = WM E A w0 I f g ∧ r = some (.int (nI (cn f (I 5) p d)))) := by
  refine MC.enter (cc := cX12_canOf) (maxL := 7) (ret := (some .int)) (lv0 := [some (.ref (A 0)), some (.int (nI p)), some (.int (nI d)), none, none, none, none]) (by decide) rfl (by simp [Value.category]) (Nat.le_of_ble_eq_true rfl) rfl ?_
  intro X hl hE C D
  subst hl
  subst hE
  have loop : ∀ (t m : Nat), m ≤ I 5 → I 5 - m < t → GG X (WM (xE X) A w0 I f g) 0 0 15 [some (.ref (A 0)), some (.int (nI p)), some (.int (nI d)), some (.int (nI (cnF f p d m).1)), some (.int (nI (cnF f p d m).2.1)), some (.int (nI (cnF f p d m).2.2)), some (.int (nI m))] [] := by
    intro t
    induction t with
    | zero => intro m h1 h2; omega
    | succ t ih =>
      intro m hm ht
      have hle := cnF_le f p d m
      refine r_iload (pq := 17) C dX12_canOf_15 rfl rfl ?_
      refine r_aload_n (pq := 18) C dX12_canOf_17 rfl rfl ?_
      refine m_geti (pq := 21) C hB 5 (by decide) rfl rfl (by decide +kernel) dX12_canOf_18 rfl (fun b18 => ?_)
      refine rN_icmp_ge (tg := 83) (pq := 24) C dX12_canOf_21 (by decide) rfl (by omega) (by omega) (fun c21 => ?_) (fun c21 => ?_)
      · refine r_iload (pq := 85) C dX12_canOf_83 rfl rfl ?_
        refine rN_if_eq (tg := 92) (pq := 88) C dX12_canOf_85 (by decide) rfl (by omega) (fun c85 => ?_) (fun c85 => ?_)
        · refine r_iload (pq := 94) C dX12_canOf_92 rfl rfl ?_
          refine r_iret C D rfl ⟨Nat.le_refl _, Nat.le_refl _⟩ dX12_canOf_94 ?_
          refine ⟨rfl, ?_⟩
          have e5 : m = I 5 := by omega
          subst e5
          unfold cn
          first | rw [if_pos (by omega)] | rw [if_neg (by omega)]
        · refine r_iload_n (pq := 89) C dX12_canOf_88 rfl rfl ?_
          refine r_goto (tg := 94) C dX12_canOf_89 (by decide) ?_
          refine r_iret C D rfl ⟨Nat.le_refl _, Nat.le_refl _⟩ dX12_canOf_94 ?_
          refine ⟨rfl, ?_⟩
          have e5 : m = I 5 := by omega
          subst e5
          unfold cn
          first | rw [if_pos (by omega)] | rw [if_neg (by omega)]
      · refine r_aload_n (pq := 25) C dX12_canOf_24 rfl rfl ?_
        refine r_iload (pq := 27) C dX12_canOf_25 rfl rfl ?_
        refine r_iload_n (pq := 28) C dX12_canOf_27 rfl rfl ?_
        refine r_iload_n (pq := 29) C dX12_canOf_28 rfl rfl ?_
        refine r_callV (pq := 32) C (mc_X12_tells hB (by omega) (by omega) (by omega)) (WM_obj _ _ _ _ _ _) rfl gX12_canOf_X12_tells rfl (na := 3) (by decide +kernel) rfl (by decide) (by decide) (Nat.le_of_ble_eq_true rfl) ⟨Nat.zero_le _, Nat.zero_le _⟩ dX12_canOf_29 rfl rfl (fun r9 w9 hq => ?_)
        obtain ⟨rfl, rfl⟩ := hq
        dsimp only [Option.toList, List.cons_append, List.nil_append]
        have b29 := b2_lt (tlP f m p d)
        refine rN_if_ne (tg := 38) (pq := 35) C dX12_canOf_32 (by decide) rfl (by omega) (fun c32 => ?_) (fun c32 => ?_)
        · have h9 := b2_1.mp c32
          refine r_aload_n (pq := 39) C dX12_canOf_38 rfl rfl ?_
          refine m_geta (pq := 42) C 6 (by decide) rfl rfl (by decide +kernel) dX12_canOf_39 rfl ?_
          refine r_iload (pq := 44) C dX12_canOf_42 rfl rfl ?_
          refine m_iald (pq := 45) C hB 6 80 rfl rfl (by decide) rfl (by decide) (by omega) dX12_canOf_44 rfl (fun b44 => ?_)
          refine r_iconst (v := nI 3) (pq := 46) C dX12_canOf_45 (by decide) rfl ?_
          refine rN_icmp_ne (tg := 64) (pq := 49) C dX12_canOf_46 (by decide) rfl (by omega) (by omega) (fun c46 => ?_) (fun c46 => ?_)
          · refine r_iload_n (pq := 65) C dX12_canOf_64 rfl rfl ?_
            refine r_aload_n (pq := 66) C dX12_canOf_65 rfl rfl ?_
            refine m_geta (pq := 69) C 10 (by decide) rfl rfl (by decide +kernel) dX12_canOf_66 rfl ?_
            refine r_iload (pq := 71) C dX12_canOf_69 rfl rfl ?_
            refine m_iald (pq := 72) C hB 10 80 rfl rfl (by decide) rfl (by decide) (by omega) dX12_canOf_71 rfl (fun b71 => ?_)
            refine rN_iand (pq := 73) C dX12_canOf_72 rfl ?_
            refine r_istore_n (j := 3) (pq := 74) C dX12_canOf_73 rfl (by decide) rfl rfl ?_
            dsimp only [List.set]
            refine r_iconst (v := nI 1) (pq := 75) C dX12_canOf_74 (by decide) rfl ?_
            refine r_istore (j := 5) (pq := 77) C dX12_canOf_75 rfl (by decide) rfl rfl ?_
            dsimp only [List.set]
            refine rN_iinc (c := 1) (pq := 80) C dX12_canOf_77 rfl (by decide) (by decide) rfl rfl ?_
            dsimp only [List.set]
            refine r_goto (tg := 15) C dX12_canOf_80 (by decide) ?_
            have k9 := ih (m + 1) (by omega) (by omega)
            simp only [cnF, cnS] at k9
            first
            | (rw [if_pos (by unfold tlP at h9; omega), if_pos (by omega)] at k9; exact k9)
            | (rw [if_pos (by unfold tlP at h9; omega), if_neg (by omega)] at k9; exact k9)
            | (rw [if_neg (by unfold tlP at h9; omega)] at k9; exact k9)
          · refine r_iload (pq := 51) C dX12_canOf_49 rfl rfl ?_
            refine r_aload_n (pq := 52) C dX12_canOf_51 rfl rfl ?_
            refine m_geta (pq := 55) C 10 (by decide) rfl rfl (by decide +kernel) dX12_canOf_52 rfl ?_
            refine r_iload (pq := 57) C dX12_canOf_55 rfl rfl ?_
            refine m_iald (pq := 58) C hB 10 80 rfl rfl (by decide) rfl (by decide) (by omega) dX12_canOf_57 rfl (fun b57 => ?_)
            refine rN_iand (pq := 59) C dX12_canOf_58 rfl ?_
            refine r_istore (j := 4) (pq := 61) C dX12_canOf_59 rfl (by decide) rfl rfl ?_
            dsimp only [List.set]
            refine r_goto (tg := 77) C dX12_canOf_61 (by decide) ?_
            refine rN_iinc (c := 1) (pq := 80) C dX12_canOf_77 rfl (by decide) (by decide) rfl rfl ?_
            dsimp only [List.set]
            refine r_goto (tg := 15) C dX12_canOf_80 (by decide) ?_
            have k9 := ih (m + 1) (by omega) (by omega)
            simp only [cnF, cnS] at k9
            first
            | (rw [if_pos (by unfold tlP at h9; omega), if_pos (by omega)] at k9; exact k9)
            | (rw [if_pos (by unfold tlP at h9; omega), if_neg (by omega)] at k9; exact k9)
            | (rw [if_neg (by unfold tlP at h9; omega)] at k9; exact k9)
        · have h9 := b2_0.mp c32
          refine r_goto (tg := 77) C dX12_canOf_35 (by decide) ?_
          refine rN_iinc (c := 1) (pq := 80) C dX12_canOf_77 rfl (by decide) (by decide) rfl rfl ?_
          dsimp only [List.set]
          refine r_goto (tg := 15) C dX12_canOf_80 (by decide) ?_
          have k9 := ih (m + 1) (by omega) (by omega)
          simp only [cnF, cnS] at k9
          first
          | (rw [if_pos (by unfold tlP at h9; omega), if_pos (by omega)] at k9; exact k9)
          | (rw [if_pos (by unfold tlP at h9; omega), if_neg (by omega)] at k9; exact k9)
          | (rw [if_neg (by unfold tlP at h9; omega)] at k9; exact k9)
  refine r_sipush (v := nI 255) (pq := 3) C dX12_canOf_0 (by decide) rfl ?_
  refine r_istore_n (j := 3) (pq := 4) C dX12_canOf_3 rfl (by decide) rfl rfl ?_
  dsimp only [List.set]
  refine r_sipush (v := nI 255) (pq := 7) C dX12_canOf_4 (by decide) rfl ?_
  refine r_istore (j := 4) (pq := 9) C dX12_canOf_7 rfl (by decide) rfl rfl ?_
  dsimp only [List.set]
  refine r_iconst (v := nI 0) (pq := 10) C dX12_canOf_9 (by decide) rfl ?_
  refine r_istore (j := 5) (pq := 12) C dX12_canOf_10 rfl (by decide) rfl rfl ?_
  dsimp only [List.set]
  refine r_iconst (v := nI 0) (pq := 13) C dX12_canOf_12 (by decide) rfl ?_
  refine r_istore (j := 6) (pq := 15) C dX12_canOf_13 rfl (by decide) rfl rfl ?_
  dsimp only [List.set]
  exact loop (I 5 + 1) 0 (by omega) (by omega)

/-- no night is without lands -/
abbrev whl (f : Nat → Nat → Nat) (M p : Nat) : Prop := ∀ d, d < 400 → cn f M p d ≠ 0
set_option maxHeartbeats 4000000 in
set_option maxRecDepth 100000 in
/-- isWhole -/
theorem mc_X12_isWhole {l : Launch} {E : EV} {A : Nat → Nat} {w0 : RW} {I : Nat → Nat} {f : Nat → Nat → Nat} {g : Nat → Nat → Int32} (hB : mOK I f) {p : Nat} (hM : I 5 ≤ 80) (hp : p < 1000000) : MC l E yX12_isWhole wsX12_isWhole 2 0 0 [.ref (A 0), .int (nI p)] (WM E A w0 I f g) (fun r w' => w' = WM E A w0 I f g ∧ r = some (.int (nI (b2 (whl f (I 5) p))))) := by
  refine MC.enter (cc := cX12_isWhole) (maxL := 3) (ret := (some .boolean)) (lv0 := [some (.ref (A 0)), some (.int (nI p)), none]) (by decide) rfl (by simp [Value.category]) (Nat.le_of_ble_eq_true rfl) rfl ?_
  intro X hl hE C D
  subst hl
  subst hE
  have loop : ∀ (t d : Nat), d ≤ 400 → 400 - d < t → (∀ j, j < d → cn f (I 5) p j ≠ 0) → GG X (WM (xE X) A w0 I f g) 0 0 2 [some (.ref (A 0)), some (.int (nI p)), some (.int (nI d))] [] := by
    intro t
    induction t with
    | zero => intro d h1 h2; omega
    | succ t ih =>
      intro d hd ht hall
      refine r_iload_n (pq := 3) C dX12_isWhole_2 rfl rfl ?_
      refine r_sipush (v := nI 400) (pq := 6) C dX12_isWhole_3 (by decide) rfl ?_
      refine rN_icmp_ge (tg := 26) (pq := 9) C dX12_isWhole_6 (by decide) rfl (by omega) (by omega) (fun c6 => ?_) (fun c6 => ?_)
      · refine r_iconst (v := nI 1) (pq := 27) C dX12_isWhole_26 (by decide) rfl ?_
        refine r_zret C D rfl (by decide) ⟨Nat.le_refl _, Nat.le_refl _⟩ dX12_isWhole_27 ?_
        exact ⟨rfl, by rw [b2_t (c := whl f (I 5) p) (fun j hj => hall j (by omega))]⟩
      · refine r_aload_n (pq := 10) C dX12_isWhole_9 rfl rfl ?_
        refine r_iload_n (pq := 11) C dX12_isWhole_10 rfl rfl ?_
        refine r_iload_n (pq := 12) C dX12_isWhole_11 rfl rfl ?_
        refine r_callV (pq := 15) C (mc_X12_canOf hB hM (by omega) (by omega)) (WM_obj _ _ _ _ _ _) rfl gX12_isWhole_X12_canOf rfl (na := 2) (by decide +kernel) rfl (by decide) (by decide) (Nat.le_of_ble_eq_true rfl) ⟨Nat.zero_le _, Nat.zero_le _⟩ dX12_isWhole_12 rfl rfl (fun r9 w9 hq => ?_)
        obtain ⟨rfl, rfl⟩ := hq
        dsimp only [Option.toList, List.cons_append, List.nil_append]
        have b12 := cn_le f (I 5) p d
        refine rN_if_ne (tg := 20) (pq := 18) C dX12_isWhole_15 (by decide) rfl (by omega) (fun c15 => ?_) (fun c15 => ?_)
        · refine rN_iinc (c := 1) (pq := 23) C dX12_isWhole_20 rfl (by decide) (by decide) rfl rfl ?_
          dsimp only [List.set]
          refine r_goto (tg := 2) C dX12_isWhole_23 (by decide) ?_
          exact ih (d + 1) (by omega) (by omega) (fun j hj => by rcases Nat.lt_or_ge j d with q | q; exact hall j q; rw [show j = d by omega]; exact c15)
        · refine r_iconst (v := nI 0) (pq := 19) C dX12_isWhole_18 (by decide) rfl ?_
          refine r_zret C D rfl (by decide) ⟨Nat.le_refl _, Nat.le_refl _⟩ dX12_isWhole_19 ?_
          exact ⟨rfl, by rw [b2_f (fun h => h d (by omega) c15)]⟩
  refine r_iconst (v := nI 0) (pq := 1) C dX12_isWhole_0 (by decide) rfl ?_
  refine r_istore_n (j := 2) (pq := 2) C dX12_isWhole_1 rfl (by decide) rfl rfl ?_
  dsimp only [List.set]
  exact loop 401 0 (by omega) (by omega) (fun j hj => absurd hj (Nat.not_lt_zero j))


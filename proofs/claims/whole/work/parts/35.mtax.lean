theorem pr_comm (a b : Nat) : pr a b = pr b a := by
  unfold pr
  rcases Nat.lt_or_ge a b with q | q
  · rw [if_pos q, if_neg (by omega)]
  · rcases Nat.lt_or_ge b a with z | z
    · rw [if_neg (by omega), if_pos z]
    · rw [show a = b by omega]
theorem y_le (l : Nat) (c : Nat → Nat) (y : Nat) : yl l c y ≤ ym l c y := by
  have key : ∀ m n, ps (lq l c) (m + n) - ps (lq l c) m ≤ ps (mq l c) (m + n) - ps (mq l c) m := by
    intro m n
    induction n with
    | zero => simp
    | succ n ih =>
      have h1 := ps_mono (lq l c) (show m ≤ m + n by omega)
      have h2 := ps_mono (mq l c) (show m ≤ m + n by omega)
      have h3 : lq l c (m + n) ≤ mq l c (m + n) := by
        unfold lq mq
        split
        · rename_i h
          rw [h, Nat.div_self (Nat.two_pow_pos l)]
          omega
        · omega
      rw [show m + (n + 1) = (m + n) + 1 by omega]
      simp only [ps]
      omega
  unfold yl ym
  exact key (100 * y) 100
theorem dct_comm {s : ST} {t a b p y : Nat} {c : Nat → Nat} : dct s t a b p y c = dct s t b a p y c := by
  have h1 := y_le a c y
  have h2 := y_le b c y
  unfold dct
  by_cases e1 : t = 1
  · rw [if_pos e1, if_pos e1]
    by_cases q : s.2.1 2 p = a ∨ s.2.1 2 p = b
    · rw [if_pos q, if_pos (Or.comm.mp q)]
    · rw [if_neg q, if_neg (fun z => q (Or.comm.mp z))]
  · rw [if_neg e1, if_neg e1]
    by_cases e2 : t = 2
    · rw [if_pos e2, if_pos e2]
      by_cases q1 : ym b c y < yl a c y
      · rw [if_pos q1, if_neg (by omega), if_pos q1]
      · rw [if_neg q1]
        by_cases q2 : ym a c y < yl b c y
        · rw [if_pos q2, if_pos q2]
        · rw [if_neg q2, if_neg q2, if_neg q1]
    · rw [if_neg e2, if_neg e2]
      by_cases e3 : t = 3
      · rw [if_pos e3, if_pos e3]
        by_cases q : s.2.1 3 p = a ∨ s.2.1 3 p = b
        · rw [if_pos q, if_pos (Or.comm.mp q)]
        · rw [if_neg q, if_neg (fun z => q (Or.comm.mp z))]
      · rw [if_neg e3, if_neg e3]
theorem dcd_comm {s : ST} {a b p y : Nat} {c : Nat → Nat} : dcd s a b p y c = dcd s b a p y c := by
  unfold dcd
  rw [pr_comm b a]
  simp only [dct_comm (s := s) (a := b) (b := a)]
theorem wins_one {s : ST} {a b p y : Nat} {c : Nat → Nat} (ha : a < 8) (hb : b < 8) (h1 : wins s a p y c) (h2 : wins s b p y c) : a = b := by
  rcases Nat.decEq a b with q | q
  · have e1 := h1.2 b hb (fun z => q z.symm) h2.1
    have e2 := h2.2 a ha q h1.1
    rw [dcd_comm] at e2
    exact absurd (e1.symm.trans e2) q
  · exact q
theorem txd_win {s : ST} {a p y : Nat} {c : Nat → Nat} (ha : a < 8) (h : wins s a p y c) : txd s p y c = a := by
  unfold txd
  rw [if_neg (fun z => z a ha h.1)]
  have key : ∀ b, b < 8 → b ≠ a → ¬ wins s b p y c := fun b hb hne hw => hne (wins_one hb ha hw h)
  rcases (show a = 0 ∨ a = 1 ∨ a = 2 ∨ a = 3 ∨ a = 4 ∨ a = 5 ∨ a = 6 ∨ a = 7 by omega) with e | e | e | e | e | e | e | e <;> subst e
  · rw [if_pos h]
  · rw [if_neg (key 0 (by omega) (by omega)), if_pos h]
  · rw [if_neg (key 0 (by omega) (by omega)), if_neg (key 1 (by omega) (by omega)), if_pos h]
  · rw [if_neg (key 0 (by omega) (by omega)), if_neg (key 1 (by omega) (by omega)), if_neg (key 2 (by omega) (by omega)), if_pos h]
  · rw [if_neg (key 0 (by omega) (by omega)), if_neg (key 1 (by omega) (by omega)), if_neg (key 2 (by omega) (by omega)), if_neg (key 3 (by omega) (by omega)), if_pos h]
  · rw [if_neg (key 0 (by omega) (by omega)), if_neg (key 1 (by omega) (by omega)), if_neg (key 2 (by omega) (by omega)), if_neg (key 3 (by omega) (by omega)), if_neg (key 4 (by omega) (by omega)), if_pos h]
  · rw [if_neg (key 0 (by omega) (by omega)), if_neg (key 1 (by omega) (by omega)), if_neg (key 2 (by omega) (by omega)), if_neg (key 3 (by omega) (by omega)), if_neg (key 4 (by omega) (by omega)), if_neg (key 5 (by omega) (by omega)), if_pos h]
  · rw [if_neg (key 0 (by omega) (by omega)), if_neg (key 1 (by omega) (by omega)), if_neg (key 2 (by omega) (by omega)), if_neg (key 3 (by omega) (by omega)), if_neg (key 4 (by omega) (by omega)), if_neg (key 5 (by omega) (by omega)), if_neg (key 6 (by omega) (by omega)), if_pos h]
theorem txd_none {s : ST} {p y : Nat} {c : Nat → Nat} (h0 : ¬ nocl s y c) (h : ∀ a, a < 8 → ¬ wins s a p y c) : txd s p y c = 9 := by
  unfold txd
  rw [if_neg h0, if_neg (h 0 (by omega)), if_neg (h 1 (by omega)), if_neg (h 2 (by omega)), if_neg (h 3 (by omega)), if_neg (h 4 (by omega)), if_neg (h 5 (by omega)), if_neg (h 6 (by omega)), if_neg (h 7 (by omega))]
theorem txd_le (s : ST) (p y : Nat) (c : Nat → Nat) : txd s p y c ≤ 9 := by
  unfold txd
  repeat' split
  all_goals omega
theorem dci_eq {v a : Nat} (ha : a < 8) (hv : v ≤ 8) : dci v = nI a ↔ v = a := by
  unfold dci
  split
  · rename_i h
    exact ⟨fun e => absurd e.symm (nI_ne_neg (by omega) (by decide)), fun e => by omega⟩
  · exact nI_eq (by omega) (by omega)

set_option maxHeartbeats 4000000 in
set_option maxRecDepth 100000 in
/-- taxedOf -/
theorem mc_X12_taxedOf {l : Launch} {E : EV} {A : Nat → Nat} {w0 : RW} {I : Nat → Nat} {f : Nat → Nat → Nat} {g : Nat → Nat → Int32} (hB : mOK I f) {p y : Nat} (hp : p < 6) (hy : y < 4) (hL : LY f) (hh : f 2 p < 8 ∧ f 3 p < 8) (h23 : ∀ k, k < 64 → (g 23 k = -1 ∨ ∃ t, tsOK t ∧ g 23 k = nI t)) : MC l E yX12_taxedOf wsX12_taxedOf 2 0 0 [.ref (A 0), .int (nI p), .int (nI y)] (WM E A w0 I f g) (fun r w' => w' = WM E A w0 I f g ∧ r = some (.int (txi (txd (I, f, g) p y (f 12))))) := by
  refine MC.enter (cc := cX12_taxedOf) (maxL := 8) (ret := (some .int)) (lv0 := [some (.ref (A 0)), some (.int (nI p)), some (.int (nI y)), none, none, none, none, none]) (by decide) rfl (by simp [Value.category]) (Nat.le_of_ble_eq_true rfl) rfl ?_
  intro X hl hE C D
  subst hl
  subst hE
  have hin : ∀ (a m : Nat) (by9 : Int32), a < 8 → m ≤ 8 → clm (I, f, g) a (f 12) y = 2 → (∀ (v7 : Option Value), GG X (WM (xE X) A w0 I f g) 0 0 97 [some (.ref (A 0)), some (.int (nI p)), some (.int (nI y)), some (.int (nI m)), some (.int by9), some (.int (nI a)), some (.int (nI (b2 (∀ b, b < 8 → b ≠ a → clm (I, f, g) b (f 12) y = 2 → dcd (I, f, g) a b p y (f 12) = a)))), v7] []) → ∀ (t b : Nat), b ≤ 8 → 8 - b < t → GG X (WM (xE X) A w0 I f g) 0 0 39 [some (.ref (A 0)), some (.int (nI p)), some (.int (nI y)), some (.int (nI m)), some (.int by9), some (.int (nI a)), some (.int (nI (b2 (∀ b1, b1 < b → b1 ≠ a → clm (I, f, g) b1 (f 12) y = 2 → dcd (I, f, g) a b1 p y (f 12) = a)))), some (.int (nI b))] [] := by
    intro a m by9 ha hm hca hend t
    induction t with
    | zero => intro b h1 h2; omega
    | succ t ih =>
      intro b hb ht
      have zc := clm_le (I, f, g) b (f 12) y
      have zb := b2_lt (∀ b1, b1 < b → b1 ≠ a → clm (I, f, g) b1 (f 12) y = 2 → dcd (I, f, g) a b1 p y (f 12) = a)
      refine r_iload (pq := 41) C dX12_taxedOf_39 rfl rfl ?_
      refine r_bipush (v := nI 8) (pq := 43) C dX12_taxedOf_41 (by decide) rfl ?_
      refine rN_icmp_ge (tg := 97) (pq := 46) C dX12_taxedOf_43 (by decide) rfl (by omega) (by omega) (fun c43 => ?_) (fun c43 => ?_)
      · have e8 : b = 8 := by omega
        subst e8
        exact hend _
      · refine r_iload (pq := 48) C dX12_taxedOf_46 rfl rfl ?_
        refine rN_if_eq (tg := 88) (pq := 51) C dX12_taxedOf_48 (by decide) rfl (by omega) (fun c48 => ?_) (fun c48 => ?_)
        · refine r_iconst (v := nI 0) (pq := 89) C dX12_taxedOf_88 (by decide) rfl ?_
          refine r_istore (j := 6) (pq := 91) C dX12_taxedOf_89 rfl (by decide) rfl rfl ?_
          dsimp only [List.set]
          refine rN_iinc (c := 1) (pq := 94) C dX12_taxedOf_91 rfl (by decide) (by decide) rfl rfl ?_
          dsimp only [List.set]
          refine r_goto (tg := 39) C dX12_taxedOf_94 (by decide) ?_
          have k9 := ih (b + 1) (by omega) (by omega)
          first
          | (rw [b2_t (c := (∀ b1, b1 < b + 1 → b1 ≠ a → clm (I, f, g) b1 (f 12) y = 2 → dcd (I, f, g) a b1 p y (f 12) = a)) (fun b1 h1 h2 h3 => by rcases Nat.lt_or_ge b1 b with q | q; exact (b2_1.mp c48) b1 q h2 h3; rw [show b1 = b by omega] at h2 h3 ⊢; exact absurd c55 h2)] at k9; exact k9)
          | (rw [b2_t (c := (∀ b1, b1 < b + 1 → b1 ≠ a → clm (I, f, g) b1 (f 12) y = 2 → dcd (I, f, g) a b1 p y (f 12) = a)) (fun b1 h1 h2 h3 => by rcases Nat.lt_or_ge b1 b with q | q; exact (b2_1.mp c48) b1 q h2 h3; rw [show b1 = b by omega] at h2 h3 ⊢; exact absurd h3 (by omega))] at k9; exact k9)
          | (rw [b2_t (c := (∀ b1, b1 < b + 1 → b1 ≠ a → clm (I, f, g) b1 (f 12) y = 2 → dcd (I, f, g) a b1 p y (f 12) = a)) (fun b1 h1 h2 h3 => by rcases Nat.lt_or_ge b1 b with q | q; exact (b2_1.mp c48) b1 q h2 h3; rw [show b1 = b by omega] at h2 h3 ⊢; exact (dci_eq ha (dcd_le ha (by omega))).mp c81)] at k9; exact k9)
          | (rw [b2_f (c := (∀ b1, b1 < b + 1 → b1 ≠ a → clm (I, f, g) b1 (f 12) y = 2 → dcd (I, f, g) a b1 p y (f 12) = a)) (fun z => b2_0.mp c48 (fun b1 h1 h2 h3 => z b1 (by omega) h2 h3))] at k9; exact k9)
          | (rw [b2_f (c := (∀ b1, b1 < b + 1 → b1 ≠ a → clm (I, f, g) b1 (f 12) y = 2 → dcd (I, f, g) a b1 p y (f 12) = a)) (fun z => c81 ((dci_eq ha (dcd_le ha (by omega))).mpr (z b (by omega) c55 (by omega))))] at k9; exact k9)
        · refine r_iload (pq := 53) C dX12_taxedOf_51 rfl rfl ?_
          refine r_iload (pq := 55) C dX12_taxedOf_53 rfl rfl ?_
          refine rN_icmp_eq (tg := 84) (pq := 58) C dX12_taxedOf_55 (by decide) rfl (by omega) (by omega) (fun c55 => ?_) (fun c55 => ?_)
          · refine r_iconst (v := nI 1) (pq := 85) C dX12_taxedOf_84 (by decide) rfl ?_
            refine r_goto (tg := 89) C dX12_taxedOf_85 (by decide) ?_
            refine r_istore (j := 6) (pq := 91) C dX12_taxedOf_89 rfl (by decide) rfl rfl ?_
            dsimp only [List.set]
            refine rN_iinc (c := 1) (pq := 94) C dX12_taxedOf_91 rfl (by decide) (by decide) rfl rfl ?_
            dsimp only [List.set]
            refine r_goto (tg := 39) C dX12_taxedOf_94 (by decide) ?_
            have k9 := ih (b + 1) (by omega) (by omega)
            first
            | (rw [b2_t (c := (∀ b1, b1 < b + 1 → b1 ≠ a → clm (I, f, g) b1 (f 12) y = 2 → dcd (I, f, g) a b1 p y (f 12) = a)) (fun b1 h1 h2 h3 => by rcases Nat.lt_or_ge b1 b with q | q; exact (b2_1.mp c48) b1 q h2 h3; rw [show b1 = b by omega] at h2 h3 ⊢; exact absurd c55 h2)] at k9; exact k9)
            | (rw [b2_t (c := (∀ b1, b1 < b + 1 → b1 ≠ a → clm (I, f, g) b1 (f 12) y = 2 → dcd (I, f, g) a b1 p y (f 12) = a)) (fun b1 h1 h2 h3 => by rcases Nat.lt_or_ge b1 b with q | q; exact (b2_1.mp c48) b1 q h2 h3; rw [show b1 = b by omega] at h2 h3 ⊢; exact absurd h3 (by omega))] at k9; exact k9)
            | (rw [b2_t (c := (∀ b1, b1 < b + 1 → b1 ≠ a → clm (I, f, g) b1 (f 12) y = 2 → dcd (I, f, g) a b1 p y (f 12) = a)) (fun b1 h1 h2 h3 => by rcases Nat.lt_or_ge b1 b with q | q; exact (b2_1.mp c48) b1 q h2 h3; rw [show b1 = b by omega] at h2 h3 ⊢; exact (dci_eq ha (dcd_le ha (by omega))).mp c81)] at k9; exact k9)
            | (rw [b2_f (c := (∀ b1, b1 < b + 1 → b1 ≠ a → clm (I, f, g) b1 (f 12) y = 2 → dcd (I, f, g) a b1 p y (f 12) = a)) (fun z => b2_0.mp c48 (fun b1 h1 h2 h3 => z b1 (by omega) h2 h3))] at k9; exact k9)
            | (rw [b2_f (c := (∀ b1, b1 < b + 1 → b1 ≠ a → clm (I, f, g) b1 (f 12) y = 2 → dcd (I, f, g) a b1 p y (f 12) = a)) (fun z => c81 ((dci_eq ha (dcd_le ha (by omega))).mpr (z b (by omega) c55 (by omega))))] at k9; exact k9)
          · refine r_aload_n (pq := 59) C dX12_taxedOf_58 rfl rfl ?_
            refine r_iload (pq := 61) C dX12_taxedOf_59 rfl rfl ?_
            refine r_iload_n (pq := 62) C dX12_taxedOf_61 rfl rfl ?_
            refine r_callV (pq := 65) C (mc_X12_claimsOf hB (by omega) hL hy) (WM_obj _ _ _ _ _ _) rfl gX12_taxedOf_X12_claimsOf rfl (na := 2) (by decide +kernel) rfl (by decide) (by decide) (Nat.le_of_ble_eq_true rfl) ⟨Nat.zero_le _, Nat.zero_le _⟩ dX12_taxedOf_62 rfl rfl (fun r9 w9 hq => ?_)
            obtain ⟨rfl, rfl⟩ := hq
            dsimp only [Option.toList, List.cons_append, List.nil_append]
            refine r_iconst (v := nI 2) (pq := 66) C dX12_taxedOf_65 (by decide) rfl ?_
            refine rN_icmp_lt (tg := 84) (pq := 69) C dX12_taxedOf_66 (by decide) rfl (by omega) (by omega) (fun c66 => ?_) (fun c66 => ?_)
            · refine r_iconst (v := nI 1) (pq := 85) C dX12_taxedOf_84 (by decide) rfl ?_
              refine r_goto (tg := 89) C dX12_taxedOf_85 (by decide) ?_
              refine r_istore (j := 6) (pq := 91) C dX12_taxedOf_89 rfl (by decide) rfl rfl ?_
              dsimp only [List.set]
              refine rN_iinc (c := 1) (pq := 94) C dX12_taxedOf_91 rfl (by decide) (by decide) rfl rfl ?_
              dsimp only [List.set]
              refine r_goto (tg := 39) C dX12_taxedOf_94 (by decide) ?_
              have k9 := ih (b + 1) (by omega) (by omega)
              first
              | (rw [b2_t (c := (∀ b1, b1 < b + 1 → b1 ≠ a → clm (I, f, g) b1 (f 12) y = 2 → dcd (I, f, g) a b1 p y (f 12) = a)) (fun b1 h1 h2 h3 => by rcases Nat.lt_or_ge b1 b with q | q; exact (b2_1.mp c48) b1 q h2 h3; rw [show b1 = b by omega] at h2 h3 ⊢; exact absurd c55 h2)] at k9; exact k9)
              | (rw [b2_t (c := (∀ b1, b1 < b + 1 → b1 ≠ a → clm (I, f, g) b1 (f 12) y = 2 → dcd (I, f, g) a b1 p y (f 12) = a)) (fun b1 h1 h2 h3 => by rcases Nat.lt_or_ge b1 b with q | q; exact (b2_1.mp c48) b1 q h2 h3; rw [show b1 = b by omega] at h2 h3 ⊢; exact absurd h3 (by omega))] at k9; exact k9)
              | (rw [b2_t (c := (∀ b1, b1 < b + 1 → b1 ≠ a → clm (I, f, g) b1 (f 12) y = 2 → dcd (I, f, g) a b1 p y (f 12) = a)) (fun b1 h1 h2 h3 => by rcases Nat.lt_or_ge b1 b with q | q; exact (b2_1.mp c48) b1 q h2 h3; rw [show b1 = b by omega] at h2 h3 ⊢; exact (dci_eq ha (dcd_le ha (by omega))).mp c81)] at k9; exact k9)
              | (rw [b2_f (c := (∀ b1, b1 < b + 1 → b1 ≠ a → clm (I, f, g) b1 (f 12) y = 2 → dcd (I, f, g) a b1 p y (f 12) = a)) (fun z => b2_0.mp c48 (fun b1 h1 h2 h3 => z b1 (by omega) h2 h3))] at k9; exact k9)
              | (rw [b2_f (c := (∀ b1, b1 < b + 1 → b1 ≠ a → clm (I, f, g) b1 (f 12) y = 2 → dcd (I, f, g) a b1 p y (f 12) = a)) (fun z => c81 ((dci_eq ha (dcd_le ha (by omega))).mpr (z b (by omega) c55 (by omega))))] at k9; exact k9)
            · refine r_aload_n (pq := 70) C dX12_taxedOf_69 rfl rfl ?_
              refine r_iload (pq := 72) C dX12_taxedOf_70 rfl rfl ?_
              refine r_iload (pq := 74) C dX12_taxedOf_72 rfl rfl ?_
              refine r_iload_n (pq := 75) C dX12_taxedOf_74 rfl rfl ?_
              refine r_iload_n (pq := 76) C dX12_taxedOf_75 rfl rfl ?_
              refine r_callV (pq := 79) C (mc_X12_decided hB ha (by omega) hp hy hL hh (h23 _ (pr_lt ha (by omega)))) (WM_obj _ _ _ _ _ _) rfl gX12_taxedOf_X12_decided rfl (na := 4) (by decide +kernel) rfl (by decide) (by decide) (Nat.le_of_ble_eq_true rfl) ⟨Nat.zero_le _, Nat.zero_le _⟩ dX12_taxedOf_76 rfl rfl (fun r9 w9 hq => ?_)
              obtain ⟨rfl, rfl⟩ := hq
              dsimp only [Option.toList, List.cons_append, List.nil_append]
              refine r_iload (pq := 81) C dX12_taxedOf_79 rfl rfl ?_
              refine r_icmp_ne (tg := 88) (pq := 84) C dX12_taxedOf_81 (by decide) rfl (fun c81 => ?_) (fun c81 => ?_)
              · refine r_iconst (v := nI 0) (pq := 89) C dX12_taxedOf_88 (by decide) rfl ?_
                refine r_istore (j := 6) (pq := 91) C dX12_taxedOf_89 rfl (by decide) rfl rfl ?_
                dsimp only [List.set]
                refine rN_iinc (c := 1) (pq := 94) C dX12_taxedOf_91 rfl (by decide) (by decide) rfl rfl ?_
                dsimp only [List.set]
                refine r_goto (tg := 39) C dX12_taxedOf_94 (by decide) ?_
                have k9 := ih (b + 1) (by omega) (by omega)
                first
                | (rw [b2_t (c := (∀ b1, b1 < b + 1 → b1 ≠ a → clm (I, f, g) b1 (f 12) y = 2 → dcd (I, f, g) a b1 p y (f 12) = a)) (fun b1 h1 h2 h3 => by rcases Nat.lt_or_ge b1 b with q | q; exact (b2_1.mp c48) b1 q h2 h3; rw [show b1 = b by omega] at h2 h3 ⊢; exact absurd c55 h2)] at k9; exact k9)
                | (rw [b2_t (c := (∀ b1, b1 < b + 1 → b1 ≠ a → clm (I, f, g) b1 (f 12) y = 2 → dcd (I, f, g) a b1 p y (f 12) = a)) (fun b1 h1 h2 h3 => by rcases Nat.lt_or_ge b1 b with q | q; exact (b2_1.mp c48) b1 q h2 h3; rw [show b1 = b by omega] at h2 h3 ⊢; exact absurd h3 (by omega))] at k9; exact k9)
                | (rw [b2_t (c := (∀ b1, b1 < b + 1 → b1 ≠ a → clm (I, f, g) b1 (f 12) y = 2 → dcd (I, f, g) a b1 p y (f 12) = a)) (fun b1 h1 h2 h3 => by rcases Nat.lt_or_ge b1 b with q | q; exact (b2_1.mp c48) b1 q h2 h3; rw [show b1 = b by omega] at h2 h3 ⊢; exact (dci_eq ha (dcd_le ha (by omega))).mp c81)] at k9; exact k9)
                | (rw [b2_f (c := (∀ b1, b1 < b + 1 → b1 ≠ a → clm (I, f, g) b1 (f 12) y = 2 → dcd (I, f, g) a b1 p y (f 12) = a)) (fun z => b2_0.mp c48 (fun b1 h1 h2 h3 => z b1 (by omega) h2 h3))] at k9; exact k9)
                | (rw [b2_f (c := (∀ b1, b1 < b + 1 → b1 ≠ a → clm (I, f, g) b1 (f 12) y = 2 → dcd (I, f, g) a b1 p y (f 12) = a)) (fun z => c81 ((dci_eq ha (dcd_le ha (by omega))).mpr (z b (by omega) c55 (by omega))))] at k9; exact k9)
              · refine r_iconst (v := nI 1) (pq := 85) C dX12_taxedOf_84 (by decide) rfl ?_
                refine r_goto (tg := 89) C dX12_taxedOf_85 (by decide) ?_
                refine r_istore (j := 6) (pq := 91) C dX12_taxedOf_89 rfl (by decide) rfl rfl ?_
                dsimp only [List.set]
                refine rN_iinc (c := 1) (pq := 94) C dX12_taxedOf_91 rfl (by decide) (by decide) rfl rfl ?_
                dsimp only [List.set]
                refine r_goto (tg := 39) C dX12_taxedOf_94 (by decide) ?_
                have k9 := ih (b + 1) (by omega) (by omega)
                first
                | (rw [b2_t (c := (∀ b1, b1 < b + 1 → b1 ≠ a → clm (I, f, g) b1 (f 12) y = 2 → dcd (I, f, g) a b1 p y (f 12) = a)) (fun b1 h1 h2 h3 => by rcases Nat.lt_or_ge b1 b with q | q; exact (b2_1.mp c48) b1 q h2 h3; rw [show b1 = b by omega] at h2 h3 ⊢; exact absurd c55 h2)] at k9; exact k9)
                | (rw [b2_t (c := (∀ b1, b1 < b + 1 → b1 ≠ a → clm (I, f, g) b1 (f 12) y = 2 → dcd (I, f, g) a b1 p y (f 12) = a)) (fun b1 h1 h2 h3 => by rcases Nat.lt_or_ge b1 b with q | q; exact (b2_1.mp c48) b1 q h2 h3; rw [show b1 = b by omega] at h2 h3 ⊢; exact absurd h3 (by omega))] at k9; exact k9)
                | (rw [b2_t (c := (∀ b1, b1 < b + 1 → b1 ≠ a → clm (I, f, g) b1 (f 12) y = 2 → dcd (I, f, g) a b1 p y (f 12) = a)) (fun b1 h1 h2 h3 => by rcases Nat.lt_or_ge b1 b with q | q; exact (b2_1.mp c48) b1 q h2 h3; rw [show b1 = b by omega] at h2 h3 ⊢; exact (dci_eq ha (dcd_le ha (by omega))).mp c81)] at k9; exact k9)
                | (rw [b2_f (c := (∀ b1, b1 < b + 1 → b1 ≠ a → clm (I, f, g) b1 (f 12) y = 2 → dcd (I, f, g) a b1 p y (f 12) = a)) (fun z => b2_0.mp c48 (fun b1 h1 h2 h3 => z b1 (by omega) h2 h3))] at k9; exact k9)
                | (rw [b2_f (c := (∀ b1, b1 < b + 1 → b1 ≠ a → clm (I, f, g) b1 (f 12) y = 2 → dcd (I, f, g) a b1 p y (f 12) = a)) (fun z => c81 ((dci_eq ha (dcd_le ha (by omega))).mpr (z b (by omega) c55 (by omega))))] at k9; exact k9)
  have h140a : ∀ m : Nat, m = 0 → (m = 0 ↔ ∀ b, b < 8 → ¬ clm (I, f, g) b (f 12) y = 2) → some (Value.int (-2)) = some (Value.int (if txd (I, f, g) p y (f 12) = 8 then -2 else if txd (I, f, g) p y (f 12) = 9 then -3 else nI (txd (I, f, g) p y (f 12)))) := by
    intro m h0 h1
    have e9 : txd (I, f, g) p y (f 12) = 8 := by unfold txd; rw [if_pos (h1.mp h0)]
    rw [e9, if_pos rfl]
  have h140b : ∀ (m : Nat) (by9 : Int32), m ≠ 0 → by9 = -2 → (m = 0 ↔ ∀ b, b < 8 → ¬ clm (I, f, g) b (f 12) y = 2) → ((by9 = -2 ∧ ∀ b, b < 8 → ¬ wins (I, f, g) b p y (f 12)) ∨ ∃ b, b < 8 ∧ wins (I, f, g) b p y (f 12) ∧ by9 = nI b) → some (Value.int (-3)) = some (Value.int (if txd (I, f, g) p y (f 12) = 8 then -2 else if txd (I, f, g) p y (f 12) = 9 then -3 else nI (txd (I, f, g) p y (f 12)))) := by
    intro m by9 h0 hb9 h1 h2
    rcases h2 with ⟨q1, q2⟩ | ⟨b, q1, q2, q3⟩
    · have e9 : txd (I, f, g) p y (f 12) = 9 := txd_none (fun z => h0 (h1.mpr z)) q2
      rw [e9, if_neg (by decide), if_pos rfl]
    · exact absurd (q3.symm.trans hb9) (nI_ne_neg (by omega) (by decide))
  have h140c : ∀ (m : Nat) (by9 : Int32), m ≠ 0 → ¬ by9 = -2 → (m = 0 ↔ ∀ b, b < 8 → ¬ clm (I, f, g) b (f 12) y = 2) → ((by9 = -2 ∧ ∀ b, b < 8 → ¬ wins (I, f, g) b p y (f 12)) ∨ ∃ b, b < 8 ∧ wins (I, f, g) b p y (f 12) ∧ by9 = nI b) → some (Value.int by9) = some (Value.int (if txd (I, f, g) p y (f 12) = 8 then -2 else if txd (I, f, g) p y (f 12) = 9 then -3 else nI (txd (I, f, g) p y (f 12)))) := by
    intro m by9 h0 hb9 h1 h2
    rcases h2 with ⟨q1, q2⟩ | ⟨b, q1, q2, q3⟩
    · exact absurd q1 hb9
    · have e9 := txd_win q1 q2
      rw [e9, if_neg (by omega), if_neg (by omega), q3]
  have hout : ∀ (t a m : Nat) (by9 : Int32) (v6 v7 : Option Value), a ≤ 8 → 8 - a < t → m ≤ a → ((m = 0 ↔ ∀ b, b < a → ¬ clm (I, f, g) b (f 12) y = 2) ∧ ((by9 = -2 ∧ ∀ b, b < a → ¬ wins (I, f, g) b p y (f 12)) ∨ ∃ b, b < a ∧ wins (I, f, g) b p y (f 12) ∧ by9 = nI b)) → GG X (WM (xE X) A w0 I f g) 0 0 9 [some (.ref (A 0)), some (.int (nI p)), some (.int (nI y)), some (.int (nI m)), some (.int by9), some (.int (nI a)), v6, v7] [] := by
    intro t
    induction t with
    | zero => intro a m by9 v6 v7 h1 h2; omega
    | succ t ih =>
      intro a m by9 v6 v7 ha ht hm hI
      obtain ⟨hI1, hI2⟩ := hI
      have zc := clm_le (I, f, g) a (f 12) y
      refine r_iload (pq := 11) C dX12_taxedOf_9 rfl rfl ?_
      refine r_bipush (v := nI 8) (pq := 13) C dX12_taxedOf_11 (by decide) rfl ?_
      refine rN_icmp_ge (tg := 117) (pq := 16) C dX12_taxedOf_13 (by decide) rfl (by omega) (by omega) (fun c13 => ?_) (fun c13 => ?_)
      · refine r_iload_n (pq := 118) C dX12_taxedOf_117 rfl rfl ?_
        refine rN_if_ne (tg := 126) (pq := 121) C dX12_taxedOf_118 (by decide) rfl (by omega) (fun c118 => ?_) (fun c118 => ?_)
        · refine r_iload (pq := 128) C dX12_taxedOf_126 rfl rfl ?_
          refine r_bipush (v := (-2)) (pq := 130) C dX12_taxedOf_128 (by decide) rfl ?_
          refine r_icmp_ne (tg := 138) (pq := 133) C dX12_taxedOf_130 (by decide) rfl (fun c130 => ?_) (fun c130 => ?_)
          · refine r_iload (pq := 140) C dX12_taxedOf_138 rfl rfl ?_
            refine r_iret C D rfl ⟨Nat.le_refl _, Nat.le_refl _⟩ dX12_taxedOf_140 ?_
            have e8 : a = 8 := by omega
            subst e8
            refine ⟨rfl, ?_⟩
            unfold txi
            first
            | exact h140a m (by omega) hI1
            | exact h140b m by9 c118 c130 hI1 hI2
            | exact h140c m by9 c118 c130 hI1 hI2
          · refine r_bipush (v := (-3)) (pq := 135) C dX12_taxedOf_133 (by decide) rfl ?_
            refine r_goto (tg := 140) C dX12_taxedOf_135 (by decide) ?_
            refine r_iret C D rfl ⟨Nat.le_refl _, Nat.le_refl _⟩ dX12_taxedOf_140 ?_
            have e8 : a = 8 := by omega
            subst e8
            refine ⟨rfl, ?_⟩
            unfold txi
            first
            | exact h140a m (by omega) hI1
            | exact h140b m by9 c118 c130 hI1 hI2
            | exact h140c m by9 c118 c130 hI1 hI2
        · refine r_bipush (v := (-2)) (pq := 123) C dX12_taxedOf_121 (by decide) rfl ?_
          refine r_goto (tg := 140) C dX12_taxedOf_123 (by decide) ?_
          refine r_iret C D rfl ⟨Nat.le_refl _, Nat.le_refl _⟩ dX12_taxedOf_140 ?_
          have e8 : a = 8 := by omega
          subst e8
          refine ⟨rfl, ?_⟩
          unfold txi
          first
          | exact h140a m (by omega) hI1
          | exact h140b m by9 c118 c130 hI1 hI2
          | exact h140c m by9 c118 c130 hI1 hI2
      · refine r_aload_n (pq := 17) C dX12_taxedOf_16 rfl rfl ?_
        refine r_iload (pq := 19) C dX12_taxedOf_17 rfl rfl ?_
        refine r_iload_n (pq := 20) C dX12_taxedOf_19 rfl rfl ?_
        refine r_callV (pq := 23) C (mc_X12_claimsOf hB (by omega) hL hy) (WM_obj _ _ _ _ _ _) rfl gX12_taxedOf_X12_claimsOf rfl (na := 2) (by decide +kernel) rfl (by decide) (by decide) (Nat.le_of_ble_eq_true rfl) ⟨Nat.zero_le _, Nat.zero_le _⟩ dX12_taxedOf_20 rfl rfl (fun r9 w9 hq => ?_)
        obtain ⟨rfl, rfl⟩ := hq
        dsimp only [Option.toList, List.cons_append, List.nil_append]
        refine r_iconst (v := nI 2) (pq := 24) C dX12_taxedOf_23 (by decide) rfl ?_
        refine rN_icmp_ge (tg := 30) (pq := 27) C dX12_taxedOf_24 (by decide) rfl (by omega) (by omega) (fun c24 => ?_) (fun c24 => ?_)
        · refine rN_iinc (c := 1) (pq := 33) C dX12_taxedOf_30 rfl (by decide) (by decide) rfl rfl ?_
          dsimp only [List.set]
          refine r_iconst (v := nI 1) (pq := 34) C dX12_taxedOf_33 (by decide) rfl ?_
          refine r_istore (j := 6) (pq := 36) C dX12_taxedOf_34 rfl (by decide) rfl rfl ?_
          dsimp only [List.set]
          refine r_iconst (v := nI 0) (pq := 37) C dX12_taxedOf_36 (by decide) rfl ?_
          refine r_istore (j := 7) (pq := 39) C dX12_taxedOf_37 rfl (by decide) rfl rfl ?_
          dsimp only [List.set]
          have hc2 : clm (I, f, g) a (f 12) y = 2 := by omega
          have k9 : GG X (WM (xE X) A w0 I f g) 0 0 39 [some (.ref (A 0)), some (.int (nI p)), some (.int (nI y)), some (.int (nI (m + 1))), some (.int by9), some (.int (nI a)), some (.int (nI (b2 (∀ b, b < 0 → b ≠ a → clm (I, f, g) b (f 12) y = 2 → dcd (I, f, g) a b p y (f 12) = a)))), some (.int (nI 0))] [] := by
            refine hin a (m + 1) by9 (by omega) (by omega) hc2 (fun v7 => ?_) 9 0 (by omega) (by omega)
            refine r_iload (pq := 99) C dX12_taxedOf_97 rfl rfl ?_
            refine rN_if_eq (tg := 107) (pq := 102) C dX12_taxedOf_99 (by decide) rfl (by have := b2_lt (∀ b, b < 8 → b ≠ a → clm (I, f, g) b (f 12) y = 2 → dcd (I, f, g) a b p y (f 12) = a); omega) (fun c99 => ?_) (fun c99 => ?_)
            · refine r_iload (pq := 109) C dX12_taxedOf_107 rfl rfl ?_
              refine r_istore (j := 4) (pq := 111) C dX12_taxedOf_109 rfl (by decide) rfl rfl ?_
              dsimp only [List.set]
              refine rN_iinc (c := 1) (pq := 114) C dX12_taxedOf_111 rfl (by decide) (by decide) rfl rfl ?_
              dsimp only [List.set]
              refine r_goto (tg := 9) C dX12_taxedOf_114 (by decide) ?_
              first
              | refine ih (a + 1) (m + 1) _ _ _ (by omega) (by omega) (by omega) ⟨⟨fun z => by omega, fun z => absurd hc2 (z a (by omega))⟩, Or.inr ⟨a, by omega, ⟨hc2, b2_1.mp c99⟩, rfl⟩⟩
              | refine ih (a + 1) (m + 1) _ _ _ (by omega) (by omega) (by omega) ⟨⟨fun z => by omega, fun z => absurd hc2 (z a (by omega))⟩, ?_⟩
              all_goals
                rcases hI2 with ⟨q1, q2⟩ | ⟨b, q1, q2, q3⟩
                · exact Or.inl ⟨q1, fun b hb hw => by rcases Nat.lt_or_ge b a with z | z; exact q2 b z hw; rw [show b = a by omega] at hw; exact b2_0.mp c99 hw.2⟩
                · exact Or.inr ⟨b, by omega, q2, q3⟩
            · refine r_iload (pq := 104) C dX12_taxedOf_102 rfl rfl ?_
              refine r_goto (tg := 109) C dX12_taxedOf_104 (by decide) ?_
              refine r_istore (j := 4) (pq := 111) C dX12_taxedOf_109 rfl (by decide) rfl rfl ?_
              dsimp only [List.set]
              refine rN_iinc (c := 1) (pq := 114) C dX12_taxedOf_111 rfl (by decide) (by decide) rfl rfl ?_
              dsimp only [List.set]
              refine r_goto (tg := 9) C dX12_taxedOf_114 (by decide) ?_
              first
              | refine ih (a + 1) (m + 1) _ _ _ (by omega) (by omega) (by omega) ⟨⟨fun z => by omega, fun z => absurd hc2 (z a (by omega))⟩, Or.inr ⟨a, by omega, ⟨hc2, b2_1.mp c99⟩, rfl⟩⟩
              | refine ih (a + 1) (m + 1) _ _ _ (by omega) (by omega) (by omega) ⟨⟨fun z => by omega, fun z => absurd hc2 (z a (by omega))⟩, ?_⟩
              all_goals
                rcases hI2 with ⟨q1, q2⟩ | ⟨b, q1, q2, q3⟩
                · exact Or.inl ⟨q1, fun b hb hw => by rcases Nat.lt_or_ge b a with z | z; exact q2 b z hw; rw [show b = a by omega] at hw; exact b2_0.mp c99 hw.2⟩
                · exact Or.inr ⟨b, by omega, q2, q3⟩
          rw [b2_t (c := (∀ b, b < 0 → b ≠ a → clm (I, f, g) b (f 12) y = 2 → dcd (I, f, g) a b p y (f 12) = a)) (fun b h => absurd h (Nat.not_lt_zero b))] at k9
          exact k9
        · refine r_goto (tg := 111) C dX12_taxedOf_27 (by decide) ?_
          refine rN_iinc (c := 1) (pq := 114) C dX12_taxedOf_111 rfl (by decide) (by decide) rfl rfl ?_
          dsimp only [List.set]
          refine r_goto (tg := 9) C dX12_taxedOf_114 (by decide) ?_
          refine ih (a + 1) m by9 _ _ (by omega) (by omega) (by omega) ⟨⟨fun z b hb => ?_, fun z => hI1.mpr (fun b hb => z b (by omega))⟩, ?_⟩
          · rcases Nat.lt_or_ge b a with q | q
            · exact hI1.mp z b q
            · rw [show b = a by omega]; omega
          · rcases hI2 with ⟨q1, q2⟩ | ⟨b, q1, q2, q3⟩
            · exact Or.inl ⟨q1, fun b hb hw => by rcases Nat.lt_or_ge b a with z | z; exact q2 b z hw; rw [show b = a by omega] at hw; have := hw.1; omega⟩
            · exact Or.inr ⟨b, by omega, q2, q3⟩
  refine r_iconst (v := nI 0) (pq := 1) C dX12_taxedOf_0 (by decide) rfl ?_
  refine r_istore_n (j := 3) (pq := 2) C dX12_taxedOf_1 rfl (by decide) rfl rfl ?_
  dsimp only [List.set]
  refine r_bipush (v := (-2)) (pq := 4) C dX12_taxedOf_2 (by decide) rfl ?_
  refine r_istore (j := 4) (pq := 6) C dX12_taxedOf_4 rfl (by decide) rfl rfl ?_
  dsimp only [List.set]
  refine r_iconst (v := nI 0) (pq := 7) C dX12_taxedOf_6 (by decide) rfl ?_
  refine r_istore (j := 5) (pq := 9) C dX12_taxedOf_7 rfl (by decide) rfl rfl ?_
  dsimp only [List.set]
  exact hout 9 0 0 (-2) none none (by omega) (by omega) (by omega) ⟨⟨fun _ b h => absurd h (Nat.not_lt_zero b), fun _ => rfl⟩, Or.inl ⟨rfl, fun b h => absurd h (Nat.not_lt_zero b)⟩⟩

set_option maxHeartbeats 4000000 in
set_option maxRecDepth 100000 in
/-- taxed -/
theorem mc_X12_taxed {l : Launch} {E : EV} {A : Nat → Nat} {w0 : RW} {I : Nat → Nat} {f : Nat → Nat → Nat} {g : Nat → Nat → Int32} (hS : SI (I, f, g)) {x y : Int32} : MC l E yX12_taxed wsX12_taxed 3 0 0 [.ref (A 0), .int x, .int y] (WM E A w0 I f g) (mP E A w0 (rs_taxed (I, f, g) x y) ((I, f, g))) := by
  refine MC.enter (cc := cX12_taxed) (maxL := 3) (ret := (some .int)) (lv0 := [some (.ref (A 0)), some (.int x), some (.int y)]) (by decide) rfl (by simp [Value.category]) (Nat.le_of_ble_eq_true rfl) rfl ?_
  intro X hl hE C D
  subst hl
  subst hE
  have hB : mOK I f := hS.1
  by_cases hok : rg x (I 1) ∧ rg y 4
  · have hP6 : I 1 ≤ 6 := hS.2.1
    have hM : I 5 ≤ 80 := hS.2.2.1
    obtain ⟨p, hp, rfl⟩ := rg_of hok.1 (by omega)
    obtain ⟨y9, hy9, rfl⟩ := rg_of hok.2 (by omega)
    have hpp : f 2 p < 8 ∧ f 3 p < 8 ∧ f 4 p < 2 := hS.2.2.2.2.1 p hp
    have h23 : ∀ k, k < 64 → (g 23 k = -1 ∨ ∃ t, tsOK t ∧ g 23 k = nI t) := hS.2.2.2.2.2.2.2.2.1
    refine r_aload_n (pq := 1) C dX12_taxed_0 rfl rfl ?_
    refine r_iload_n (pq := 2) C dX12_taxed_1 rfl rfl ?_
    refine r_callV (pq := 5) C (mc_X12_isPerson hB) (WM_obj _ _ _ _ _ _) rfl gX12_taxed_X12_isPerson rfl (na := 1) (by decide +kernel) rfl (by decide) (by decide) (Nat.le_of_ble_eq_true rfl) ⟨Nat.zero_le _, Nat.zero_le _⟩ dX12_taxed_2 rfl rfl (fun r9 w9 hq => ?_)
    obtain ⟨rfl, rfl⟩ := hq
    dsimp only [Option.toList, List.cons_append, List.nil_append]
    have l2 := b2_lt (rg (nI p) (I 1))
    refine rN_if_eq (tg := 15) (pq := 8) C dX12_taxed_5 (by decide) rfl (by omega) (fun c5 => absurd c5 (b2_1.mpr (hok.1))) (fun c5 => ?_)
    refine r_iload_n (pq := 9) C dX12_taxed_8 rfl rfl ?_
    refine r_callS (pq := 12) C (mc_X12_isYear) gX12_taxed_X12_isYear rfl (na := 1) (by decide +kernel) rfl (by decide) (by decide) (Nat.le_of_ble_eq_true rfl) ⟨Nat.zero_le _, Nat.zero_le _⟩ dX12_taxed_9 rfl rfl (fun r9 w9 hq => ?_)
    obtain ⟨rfl, rfl⟩ := hq
    dsimp only [Option.toList, List.cons_append, List.nil_append]
    have l9 := b2_lt (rg (nI y9) 4)
    refine rN_if_ne (tg := 17) (pq := 15) C dX12_taxed_12 (by decide) rfl (by omega) (fun c12 => ?_) (fun c12 => absurd c12 (b2_1.mpr (hok.2)))
    refine r_aload_n (pq := 18) C dX12_taxed_17 rfl rfl ?_
    refine r_iload_n (pq := 19) C dX12_taxed_18 rfl rfl ?_
    refine r_callV (pq := 22) C (mc_X12_lay hB hM (by omega)) (WM_obj _ _ _ _ _ _) rfl gX12_taxed_X12_lay rfl (na := 1) (by decide +kernel) rfl (by decide) (by decide) (Nat.le_of_ble_eq_true rfl) ⟨Nat.zero_le _, Nat.zero_le _⟩ dX12_taxed_19 rfl rfl (fun r9 w9 hq => ?_)
    obtain ⟨rfl, f1, rfl, hB1, hk1, hc1, hl1⟩ := hq
    dsimp only [Option.toList, List.cons_append, List.nil_append]
    have k2 : f1 2 = f 2 := hk1 2 (by decide) (by decide) (by decide)
    have k3 : f1 3 = f 3 := hk1 3 (by decide) (by decide) (by decide)
    have k22 : f1 22 = f 22 := hk1 22 (by decide) (by decide) (by decide)
    refine r_aload_n (pq := 23) C dX12_taxed_22 rfl rfl ?_
    refine r_iload_n (pq := 24) C dX12_taxed_23 rfl rfl ?_
    refine r_iload_n (pq := 25) C dX12_taxed_24 rfl rfl ?_
    refine r_callV (pq := 28) C (mc_X12_taxedOf hB1 (by omega) hy9 hl1 (by rw [k2, k3]; exact ⟨hpp.1, hpp.2.1⟩) h23) (WM_obj _ _ _ _ _ _) rfl gX12_taxed_X12_taxedOf rfl (na := 2) (by decide +kernel) rfl (by decide) (by decide) (Nat.le_of_ble_eq_true rfl) ⟨Nat.zero_le _, Nat.zero_le _⟩ dX12_taxed_25 rfl rfl (fun r9 w9 hq => ?_)
    obtain ⟨rfl, rfl⟩ := hq
    dsimp only [Option.toList, List.cons_append, List.nil_append]
    refine r_iret C D rfl ⟨Nat.le_refl _, Nat.le_refl _⟩ dX12_taxed_28 ?_
    refine ⟨?_, (_, _, _), rfl, hB1, EQ_lay hk1⟩
    unfold rs_taxed
    rw [if_pos hok, tn_nI (by omega), tn_nI (by omega), txd_ext (I := I) (g := g) (f := f) (c' := cr (I, f, g) p) hc1 k2 k3 k22 hy9]
  · have hbad := hok
    refine r_aload_n (pq := 1) C dX12_taxed_0 rfl rfl ?_
    refine r_iload_n (pq := 2) C dX12_taxed_1 rfl rfl ?_
    refine r_callV (pq := 5) C (mc_X12_isPerson hB) (WM_obj _ _ _ _ _ _) rfl gX12_taxed_X12_isPerson rfl (na := 1) (by decide +kernel) rfl (by decide) (by decide) (Nat.le_of_ble_eq_true rfl) ⟨Nat.zero_le _, Nat.zero_le _⟩ dX12_taxed_2 rfl rfl (fun r9 w9 hq => ?_)
    obtain ⟨rfl, rfl⟩ := hq
    dsimp only [Option.toList, List.cons_append, List.nil_append]
    have l2 := b2_lt (rg x (I 1))
    refine rN_if_eq (tg := 15) (pq := 8) C dX12_taxed_5 (by decide) rfl (by omega) (fun c5 => ?_) (fun c5 => ?_)
    · refine r_iconst (v := (-1)) (pq := 16) C dX12_taxed_15 (by decide) rfl ?_
      refine r_iret C D rfl ⟨Nat.le_refl _, Nat.le_refl _⟩ dX12_taxed_16 ?_
      refine ⟨?_, (I, f, g), rfl, hB, ?_⟩
      · unfold rs_taxed
        rw [if_neg hbad]
      · exact EQ_rfl _
    · refine r_iload_n (pq := 9) C dX12_taxed_8 rfl rfl ?_
      refine r_callS (pq := 12) C (mc_X12_isYear) gX12_taxed_X12_isYear rfl (na := 1) (by decide +kernel) rfl (by decide) (by decide) (Nat.le_of_ble_eq_true rfl) ⟨Nat.zero_le _, Nat.zero_le _⟩ dX12_taxed_9 rfl rfl (fun r9 w9 hq => ?_)
      obtain ⟨rfl, rfl⟩ := hq
      dsimp only [Option.toList, List.cons_append, List.nil_append]
      have l9 := b2_lt (rg y 4)
      refine rN_if_ne (tg := 17) (pq := 15) C dX12_taxed_12 (by decide) rfl (by omega) (fun c12 => ?_) (fun c12 => ?_)
      · exact absurd ⟨b2_1.mp c5, b2_1.mp c12⟩ hbad
      · refine r_iconst (v := (-1)) (pq := 16) C dX12_taxed_15 (by decide) rfl ?_
        refine r_iret C D rfl ⟨Nat.le_refl _, Nat.le_refl _⟩ dX12_taxed_16 ?_
        refine ⟨?_, (I, f, g), rfl, hB, ?_⟩
        · unfold rs_taxed
          rw [if_neg hbad]
        · exact EQ_rfl _


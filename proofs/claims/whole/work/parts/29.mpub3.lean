/-! ===== the reference: mark, sure, join, law, kept, first, broken ===== -/
set_option maxHeartbeats 4000000 in
set_option maxRecDepth 100000 in
/-- mark -/
theorem mc_X12_mark {l : Launch} {E : EV} {A : Nat → Nat} {w0 : RW} {I : Nat → Nat} {f : Nat → Nat → Nat} {g : Nat → Nat → Int32} (hS : SI (I, f, g)) {x y : Int32} : MC l E yX12_mark wsX12_mark 2 0 0 [.ref (A 0), .int x, .int y] (WM E A w0 I f g) (mP E A w0 (rs_mark (I, f, g) x y) (I, f, g)) := by
  refine MC.enter (cc := cX12_mark) (maxL := 3) (ret := (some .int)) (lv0 := [some (.ref (A 0)), some (.int x), some (.int y)]) (by decide) rfl (by simp [Value.category]) (Nat.le_of_ble_eq_true rfl) rfl ?_
  intro X hl hE C D
  subst hl
  subst hE
  have hB : mOK I f := hS.1
  have hM : I 5 ≤ 80 := hS.2.2.1
  by_cases hok : rg x (I 5)
  · obtain ⟨m, hm, rfl⟩ := rg_of hok (by omega)
    have h6 := hS.2.2.2.2.2.1 m hm
    change f 6 m < 4 ∧ f 7 m < I 1 ∧ f 8 m ≤ f 9 m ∧ f 9 m < 400 ∧ f 10 m ≤ 255 ∧ f 11 m < 2 at h6
    by_cases hy : rg y 6
    · obtain ⟨j, hj, rfl⟩ := rg_of hy (by omega)
      rcases (show j = 0 ∨ j = 1 ∨ j = 2 ∨ j = 3 ∨ j = 4 ∨ j = 5 by omega) with e | e | e | e | e | e <;> subst e
      · refine r_aload_n (pq := 1) C dX12_mark_0 rfl rfl ?_
        refine r_iload_n (pq := 2) C dX12_mark_1 rfl rfl ?_
        refine r_callV (pq := 5) C (mc_X12_isMark hB) (WM_obj _ _ _ _ _ _) rfl gX12_mark_X12_isMark rfl (na := 1) (by decide +kernel) rfl (by decide) (by decide) (Nat.le_of_ble_eq_true rfl) ⟨Nat.zero_le _, Nat.zero_le _⟩ dX12_mark_2 rfl rfl (fun r9 w9 hq => ?_)
        obtain ⟨rfl, rfl⟩ := hq
        dsimp only [Option.toList, List.cons_append, List.nil_append]
        have l2 := b2_lt (rg (nI m) (I 5))
        refine rN_if_ne (tg := 10) (pq := 8) C dX12_mark_5 (by decide) rfl (by omega) (fun c5 => ?_) (fun c5 => absurd c5 (b2_1.mpr hok))
        refine r_iload_n (pq := 11) C dX12_mark_10 rfl rfl ?_
        refine r_tableIn (tg := 48) C dX12_mark_11 (by decide) (by decide) rfl (by decide) ?_
        refine r_aload_n (pq := 49) C dX12_mark_48 rfl rfl ?_
        refine m_geta (pq := 52) C 6 (by decide) rfl rfl (by decide +kernel) dX12_mark_49 rfl ?_
        refine r_iload_n (pq := 53) C dX12_mark_52 rfl rfl ?_
        refine m_iald (pq := 54) C hB 6 80 rfl rfl (by decide) rfl (by decide) (by omega) dX12_mark_53 rfl (fun b53 => ?_)
        refine r_iret C D rfl ⟨Nat.le_refl _, Nat.le_refl _⟩ dX12_mark_54 ?_
        refine ⟨?_, (I, f, g), rfl, hB, EQ_rfl _⟩
        unfold rs_mark
        rw [if_pos ⟨hok, hy⟩, tn_nI (by omega), tn_nI (by omega)]
      · refine r_aload_n (pq := 1) C dX12_mark_0 rfl rfl ?_
        refine r_iload_n (pq := 2) C dX12_mark_1 rfl rfl ?_
        refine r_callV (pq := 5) C (mc_X12_isMark hB) (WM_obj _ _ _ _ _ _) rfl gX12_mark_X12_isMark rfl (na := 1) (by decide +kernel) rfl (by decide) (by decide) (Nat.le_of_ble_eq_true rfl) ⟨Nat.zero_le _, Nat.zero_le _⟩ dX12_mark_2 rfl rfl (fun r9 w9 hq => ?_)
        obtain ⟨rfl, rfl⟩ := hq
        dsimp only [Option.toList, List.cons_append, List.nil_append]
        have l2 := b2_lt (rg (nI m) (I 5))
        refine rN_if_ne (tg := 10) (pq := 8) C dX12_mark_5 (by decide) rfl (by omega) (fun c5 => ?_) (fun c5 => absurd c5 (b2_1.mpr hok))
        refine r_iload_n (pq := 11) C dX12_mark_10 rfl rfl ?_
        refine r_tableIn (tg := 55) C dX12_mark_11 (by decide) (by decide) rfl (by decide) ?_
        refine r_aload_n (pq := 56) C dX12_mark_55 rfl rfl ?_
        refine m_geta (pq := 59) C 7 (by decide) rfl rfl (by decide +kernel) dX12_mark_56 rfl ?_
        refine r_iload_n (pq := 60) C dX12_mark_59 rfl rfl ?_
        refine m_iald (pq := 61) C hB 7 80 rfl rfl (by decide) rfl (by decide) (by omega) dX12_mark_60 rfl (fun b60 => ?_)
        refine r_iret C D rfl ⟨Nat.le_refl _, Nat.le_refl _⟩ dX12_mark_61 ?_
        refine ⟨?_, (I, f, g), rfl, hB, EQ_rfl _⟩
        unfold rs_mark
        rw [if_pos ⟨hok, hy⟩, tn_nI (by omega), tn_nI (by omega)]
      · refine r_aload_n (pq := 1) C dX12_mark_0 rfl rfl ?_
        refine r_iload_n (pq := 2) C dX12_mark_1 rfl rfl ?_
        refine r_callV (pq := 5) C (mc_X12_isMark hB) (WM_obj _ _ _ _ _ _) rfl gX12_mark_X12_isMark rfl (na := 1) (by decide +kernel) rfl (by decide) (by decide) (Nat.le_of_ble_eq_true rfl) ⟨Nat.zero_le _, Nat.zero_le _⟩ dX12_mark_2 rfl rfl (fun r9 w9 hq => ?_)
        obtain ⟨rfl, rfl⟩ := hq
        dsimp only [Option.toList, List.cons_append, List.nil_append]
        have l2 := b2_lt (rg (nI m) (I 5))
        refine rN_if_ne (tg := 10) (pq := 8) C dX12_mark_5 (by decide) rfl (by omega) (fun c5 => ?_) (fun c5 => absurd c5 (b2_1.mpr hok))
        refine r_iload_n (pq := 11) C dX12_mark_10 rfl rfl ?_
        refine r_tableIn (tg := 62) C dX12_mark_11 (by decide) (by decide) rfl (by decide) ?_
        refine r_aload_n (pq := 63) C dX12_mark_62 rfl rfl ?_
        refine m_geta (pq := 66) C 8 (by decide) rfl rfl (by decide +kernel) dX12_mark_63 rfl ?_
        refine r_iload_n (pq := 67) C dX12_mark_66 rfl rfl ?_
        refine m_iald (pq := 68) C hB 8 80 rfl rfl (by decide) rfl (by decide) (by omega) dX12_mark_67 rfl (fun b67 => ?_)
        refine r_iret C D rfl ⟨Nat.le_refl _, Nat.le_refl _⟩ dX12_mark_68 ?_
        refine ⟨?_, (I, f, g), rfl, hB, EQ_rfl _⟩
        unfold rs_mark
        rw [if_pos ⟨hok, hy⟩, tn_nI (by omega), tn_nI (by omega)]
      · refine r_aload_n (pq := 1) C dX12_mark_0 rfl rfl ?_
        refine r_iload_n (pq := 2) C dX12_mark_1 rfl rfl ?_
        refine r_callV (pq := 5) C (mc_X12_isMark hB) (WM_obj _ _ _ _ _ _) rfl gX12_mark_X12_isMark rfl (na := 1) (by decide +kernel) rfl (by decide) (by decide) (Nat.le_of_ble_eq_true rfl) ⟨Nat.zero_le _, Nat.zero_le _⟩ dX12_mark_2 rfl rfl (fun r9 w9 hq => ?_)
        obtain ⟨rfl, rfl⟩ := hq
        dsimp only [Option.toList, List.cons_append, List.nil_append]
        have l2 := b2_lt (rg (nI m) (I 5))
        refine rN_if_ne (tg := 10) (pq := 8) C dX12_mark_5 (by decide) rfl (by omega) (fun c5 => ?_) (fun c5 => absurd c5 (b2_1.mpr hok))
        refine r_iload_n (pq := 11) C dX12_mark_10 rfl rfl ?_
        refine r_tableIn (tg := 69) C dX12_mark_11 (by decide) (by decide) rfl (by decide) ?_
        refine r_aload_n (pq := 70) C dX12_mark_69 rfl rfl ?_
        refine m_geta (pq := 73) C 9 (by decide) rfl rfl (by decide +kernel) dX12_mark_70 rfl ?_
        refine r_iload_n (pq := 74) C dX12_mark_73 rfl rfl ?_
        refine m_iald (pq := 75) C hB 9 80 rfl rfl (by decide) rfl (by decide) (by omega) dX12_mark_74 rfl (fun b74 => ?_)
        refine r_iret C D rfl ⟨Nat.le_refl _, Nat.le_refl _⟩ dX12_mark_75 ?_
        refine ⟨?_, (I, f, g), rfl, hB, EQ_rfl _⟩
        unfold rs_mark
        rw [if_pos ⟨hok, hy⟩, tn_nI (by omega), tn_nI (by omega)]
      · refine r_aload_n (pq := 1) C dX12_mark_0 rfl rfl ?_
        refine r_iload_n (pq := 2) C dX12_mark_1 rfl rfl ?_
        refine r_callV (pq := 5) C (mc_X12_isMark hB) (WM_obj _ _ _ _ _ _) rfl gX12_mark_X12_isMark rfl (na := 1) (by decide +kernel) rfl (by decide) (by decide) (Nat.le_of_ble_eq_true rfl) ⟨Nat.zero_le _, Nat.zero_le _⟩ dX12_mark_2 rfl rfl (fun r9 w9 hq => ?_)
        obtain ⟨rfl, rfl⟩ := hq
        dsimp only [Option.toList, List.cons_append, List.nil_append]
        have l2 := b2_lt (rg (nI m) (I 5))
        refine rN_if_ne (tg := 10) (pq := 8) C dX12_mark_5 (by decide) rfl (by omega) (fun c5 => ?_) (fun c5 => absurd c5 (b2_1.mpr hok))
        refine r_iload_n (pq := 11) C dX12_mark_10 rfl rfl ?_
        refine r_tableIn (tg := 76) C dX12_mark_11 (by decide) (by decide) rfl (by decide) ?_
        refine r_aload_n (pq := 77) C dX12_mark_76 rfl rfl ?_
        refine m_geta (pq := 80) C 10 (by decide) rfl rfl (by decide +kernel) dX12_mark_77 rfl ?_
        refine r_iload_n (pq := 81) C dX12_mark_80 rfl rfl ?_
        refine m_iald (pq := 82) C hB 10 80 rfl rfl (by decide) rfl (by decide) (by omega) dX12_mark_81 rfl (fun b81 => ?_)
        refine r_iret C D rfl ⟨Nat.le_refl _, Nat.le_refl _⟩ dX12_mark_82 ?_
        refine ⟨?_, (I, f, g), rfl, hB, EQ_rfl _⟩
        unfold rs_mark
        rw [if_pos ⟨hok, hy⟩, tn_nI (by omega), tn_nI (by omega)]
      · refine r_aload_n (pq := 1) C dX12_mark_0 rfl rfl ?_
        refine r_iload_n (pq := 2) C dX12_mark_1 rfl rfl ?_
        refine r_callV (pq := 5) C (mc_X12_isMark hB) (WM_obj _ _ _ _ _ _) rfl gX12_mark_X12_isMark rfl (na := 1) (by decide +kernel) rfl (by decide) (by decide) (Nat.le_of_ble_eq_true rfl) ⟨Nat.zero_le _, Nat.zero_le _⟩ dX12_mark_2 rfl rfl (fun r9 w9 hq => ?_)
        obtain ⟨rfl, rfl⟩ := hq
        dsimp only [Option.toList, List.cons_append, List.nil_append]
        have l2 := b2_lt (rg (nI m) (I 5))
        refine rN_if_ne (tg := 10) (pq := 8) C dX12_mark_5 (by decide) rfl (by omega) (fun c5 => ?_) (fun c5 => absurd c5 (b2_1.mpr hok))
        refine r_iload_n (pq := 11) C dX12_mark_10 rfl rfl ?_
        refine r_tableIn (tg := 83) C dX12_mark_11 (by decide) (by decide) rfl (by decide) ?_
        refine r_aload_n (pq := 84) C dX12_mark_83 rfl rfl ?_
        refine m_geta (pq := 87) C 11 (by decide) rfl rfl (by decide +kernel) dX12_mark_84 rfl ?_
        refine r_iload_n (pq := 88) C dX12_mark_87 rfl rfl ?_
        refine m_zald (pq := 89) C hB 11 80 rfl rfl (by decide) rfl (by decide) (by omega) dX12_mark_88 rfl (fun b88 => ?_)
        refine rN_if_eq (tg := 96) (pq := 92) C dX12_mark_89 (by decide) rfl (by omega) (fun c89 => ?_) (fun c89 => ?_)
        · refine r_iconst (v := nI 0) (pq := 97) C dX12_mark_96 (by decide) rfl ?_
          refine r_iret C D rfl ⟨Nat.le_refl _, Nat.le_refl _⟩ dX12_mark_97 ?_
          refine ⟨?_, (I, f, g), rfl, hB, EQ_rfl _⟩
          unfold rs_mark
          rw [if_pos ⟨hok, hy⟩, tn_nI (by omega), tn_nI (by omega)]
          first | rw [show (I, f, g).2.1 (6 + 5) m = 1 from (by show f 11 m = 1; omega)] | rw [show (I, f, g).2.1 (6 + 5) m = 0 from (by show f 11 m = 0; omega)]
        · refine r_iconst (v := nI 1) (pq := 93) C dX12_mark_92 (by decide) rfl ?_
          refine r_goto (tg := 97) C dX12_mark_93 (by decide) ?_
          refine r_iret C D rfl ⟨Nat.le_refl _, Nat.le_refl _⟩ dX12_mark_97 ?_
          refine ⟨?_, (I, f, g), rfl, hB, EQ_rfl _⟩
          unfold rs_mark
          rw [if_pos ⟨hok, hy⟩, tn_nI (by omega), tn_nI (by omega)]
          first | rw [show (I, f, g).2.1 (6 + 5) m = 1 from (by show f 11 m = 1; omega)] | rw [show (I, f, g).2.1 (6 + 5) m = 0 from (by show f 11 m = 0; omega)]
    · refine r_aload_n (pq := 1) C dX12_mark_0 rfl rfl ?_
      refine r_iload_n (pq := 2) C dX12_mark_1 rfl rfl ?_
      refine r_callV (pq := 5) C (mc_X12_isMark hB) (WM_obj _ _ _ _ _ _) rfl gX12_mark_X12_isMark rfl (na := 1) (by decide +kernel) rfl (by decide) (by decide) (Nat.le_of_ble_eq_true rfl) ⟨Nat.zero_le _, Nat.zero_le _⟩ dX12_mark_2 rfl rfl (fun r9 w9 hq => ?_)
      obtain ⟨rfl, rfl⟩ := hq
      dsimp only [Option.toList, List.cons_append, List.nil_append]
      have l2 := b2_lt (rg (nI m) (I 5))
      refine rN_if_ne (tg := 10) (pq := 8) C dX12_mark_5 (by decide) rfl (by omega) (fun c5 => ?_) (fun c5 => absurd c5 (b2_1.mpr hok))
      refine r_iload_n (pq := 11) C dX12_mark_10 rfl rfl ?_
      refine r_tableOut (tg := 98) C dX12_mark_11 (show y.toInt < 0 ∨ 5 < y.toInt by have h9 : ¬ (0 ≤ y.toInt ∧ y.toInt < 6) := hy; omega) (by decide) ?_
      refine r_iconst (v := (-1)) (pq := 99) C dX12_mark_98 (by decide) rfl ?_
      refine r_iret C D rfl ⟨Nat.le_refl _, Nat.le_refl _⟩ dX12_mark_99 ?_
      refine ⟨?_, (I, f, g), rfl, hB, EQ_rfl _⟩
      unfold rs_mark
      rw [if_neg (fun h => hy h.2)]
  · refine r_aload_n (pq := 1) C dX12_mark_0 rfl rfl ?_
    refine r_iload_n (pq := 2) C dX12_mark_1 rfl rfl ?_
    refine r_callV (pq := 5) C (mc_X12_isMark hB) (WM_obj _ _ _ _ _ _) rfl gX12_mark_X12_isMark rfl (na := 1) (by decide +kernel) rfl (by decide) (by decide) (Nat.le_of_ble_eq_true rfl) ⟨Nat.zero_le _, Nat.zero_le _⟩ dX12_mark_2 rfl rfl (fun r9 w9 hq => ?_)
    obtain ⟨rfl, rfl⟩ := hq
    dsimp only [Option.toList, List.cons_append, List.nil_append]
    have l2 := b2_lt (rg x (I 5))
    refine rN_if_ne (tg := 10) (pq := 8) C dX12_mark_5 (by decide) rfl (by omega) (fun c5 => ?_) (fun c5 => ?_)
    · exact absurd (b2_1.mp c5) hok
    · refine r_iconst (v := (-1)) (pq := 9) C dX12_mark_8 (by decide) rfl ?_
      refine r_iret C D rfl ⟨Nat.le_refl _, Nat.le_refl _⟩ dX12_mark_9 ?_
      refine ⟨?_, (I, f, g), rfl, hB, EQ_rfl _⟩
      unfold rs_mark
      rw [if_neg (fun h => hok h.1)]

set_option maxHeartbeats 4000000 in
set_option maxRecDepth 100000 in
/-- sure -/
theorem mc_X12_sure {l : Launch} {E : EV} {A : Nat → Nat} {w0 : RW} {I : Nat → Nat} {f : Nat → Nat → Nat} {g : Nat → Nat → Int32} (hS : SI (I, f, g)) {x y z : Int32} : MC l E yX12_sure wsX12_sure 3 0 0 [.ref (A 0), .int x, .int y, .int z] (WM E A w0 I f g) (mP E A w0 (rs_sure (I, f, g) x y z) ((I, f, g))) := by
  refine MC.enter (cc := cX12_sure) (maxL := 7) (ret := (some .int)) (lv0 := [some (.ref (A 0)), some (.int x), some (.int y), some (.int z), none, none, none]) (by decide) rfl (by simp [Value.category]) (Nat.le_of_ble_eq_true rfl) rfl ?_
  intro X hl hE C D
  subst hl
  subst hE
  have hB : mOK I f := hS.1
  by_cases hok : rg x (I 1) ∧ okDays y z
  · have hP6 : I 1 ≤ 6 := hS.2.1
    obtain ⟨p, hp, rfl⟩ := rg_of hok.1 (by show I 1 < _; omega)
    obtain ⟨a, ha, rfl⟩ := rg_of hok.2.1 (by omega)
    obtain ⟨b, hb, rfl⟩ := rg_of hok.2.2.1 (by omega)
    have hab := hok.2.2.2
    rw [nI_toInt (by omega), nI_toInt (by omega)] at hab
    change p < I 1 at hp
    have hwh : whl f (I 5) p := hS.2.2.2.2.2.2.2.2.2.2 p hp
    have loop : ∀ (t d : Nat) (V9 : Option Value), a ≤ d → d ≤ b + 1 → b + 1 - d < t → GG X (WM (xE X) A w0 I f g) 0 0 24 [some (.ref (A 0)), some (.int (nI p)), some (.int (nI a)), some (.int (nI b)), some (.int (nI (ps (sq (cr (I, f, g) p)) d - ps (sq (cr (I, f, g) p)) a))), some (.int (nI d)), V9] [] := by
      intro t
      induction t with
      | zero => intro d V9 h1 h2 h3; omega
      | succ t ih =>
        intro d V9 hd1 hd2 ht
        have z1 := ps_mono (sq (cr (I, f, g) p)) hd1
        have z2 := cn_le f (I 5) p d
        have z3 := ps_le (h := sq (cr (I, f, g) p)) (fun i => by unfold sq; split <;> omega) d
        refine r_iload (pq := 26) C dX12_sure_24 rfl rfl ?_
        refine r_iload_n (pq := 27) C dX12_sure_26 rfl rfl ?_
        refine rN_icmp_gt (tg := 65) (pq := 30) C dX12_sure_27 (by decide) rfl (by omega) (by omega) (fun c27 => ?_) (fun c27 => ?_)
        · refine r_iload (pq := 67) C dX12_sure_65 rfl rfl ?_
          refine r_iret C D rfl ⟨Nat.le_refl _, Nat.le_refl _⟩ dX12_sure_67 ?_
          refine ⟨?_, (I, f, g), rfl, hB, EQ_rfl _⟩
          unfold rs_sure
          rw [if_pos hok, tn_nI (by omega), tn_nI (by omega), tn_nI (by omega), show d = b + 1 by omega]
        · refine r_aload_n (pq := 31) C dX12_sure_30 rfl rfl ?_
          refine r_iload_n (pq := 32) C dX12_sure_31 rfl rfl ?_
          refine r_iload (pq := 34) C dX12_sure_32 rfl rfl ?_
          refine r_callV (pq := 37) C (mc_X12_canOf hB hS.2.2.1 (by omega) (by omega)) (WM_obj _ _ _ _ _ _) rfl gX12_sure_X12_canOf rfl (na := 2) (by decide +kernel) rfl (by decide) (by decide) (Nat.le_of_ble_eq_true rfl) ⟨Nat.zero_le _, Nat.zero_le _⟩ dX12_sure_34 rfl rfl (fun r9 w9 hq => ?_)
          obtain ⟨rfl, rfl⟩ := hq
          dsimp only [Option.toList, List.cons_append, List.nil_append]
          refine r_istore (j := 6) (pq := 39) C dX12_sure_37 rfl (by decide) rfl rfl ?_
          dsimp only [List.set]
          refine r_iload (pq := 41) C dX12_sure_39 rfl rfl ?_
          refine r_iload (pq := 43) C dX12_sure_41 rfl rfl ?_
          refine r_iload (pq := 45) C dX12_sure_43 rfl rfl ?_
          refine r_iconst (v := nI 1) (pq := 46) C dX12_sure_45 (by decide) rfl ?_
          refine rN_isub (pq := 47) C dX12_sure_46 (by have := hwh d (by omega); omega) rfl ?_
          refine rN_iand (pq := 48) C dX12_sure_47 rfl ?_
          refine rN_if_ne (tg := 55) (pq := 51) C dX12_sure_48 (by decide) rfl (by have q9 : cn f (I 5) p d &&& (cn f (I 5) p d - 1) ≤ cn f (I 5) p d := Nat.and_le_left; omega) (fun c48 => ?_) (fun c48 => ?_)
          · refine r_iconst (v := nI 0) (pq := 56) C dX12_sure_55 (by decide) rfl ?_
            refine rN_iadd (pq := 57) C dX12_sure_56 rfl ?_
            refine r_istore (j := 4) (pq := 59) C dX12_sure_57 rfl (by decide) rfl rfl ?_
            dsimp only [List.set]
            refine rN_iinc (c := 1) (pq := 62) C dX12_sure_59 rfl (by decide) (by decide) rfl rfl ?_
            dsimp only [List.set]
            refine r_goto (tg := 24) C dX12_sure_62 (by decide) ?_
            have k9 := ih (d + 1) (some (.int (nI (cn f (I 5) p d)))) (by omega) (by omega) (by omega)
            have e9 : sq (cr (I, f, g) p) d = if cn f (I 5) p d &&& (cn f (I 5) p d - 1) = 0 then 1 else 0 := rfl
            have e8 : ps (sq (cr (I, f, g) p)) (d + 1) = ps (sq (cr (I, f, g) p)) d + sq (cr (I, f, g) p) d := rfl
            first
            | (rw [if_pos c48] at e9; rw [e8, e9, Nat.sub_add_comm z1] at k9; exact k9)
            | (rw [if_neg c48] at e9; rw [e8, e9] at k9; exact k9)
          · refine r_iconst (v := nI 1) (pq := 52) C dX12_sure_51 (by decide) rfl ?_
            refine r_goto (tg := 56) C dX12_sure_52 (by decide) ?_
            refine rN_iadd (pq := 57) C dX12_sure_56 rfl ?_
            refine r_istore (j := 4) (pq := 59) C dX12_sure_57 rfl (by decide) rfl rfl ?_
            dsimp only [List.set]
            refine rN_iinc (c := 1) (pq := 62) C dX12_sure_59 rfl (by decide) (by decide) rfl rfl ?_
            dsimp only [List.set]
            refine r_goto (tg := 24) C dX12_sure_62 (by decide) ?_
            have k9 := ih (d + 1) (some (.int (nI (cn f (I 5) p d)))) (by omega) (by omega) (by omega)
            have e9 : sq (cr (I, f, g) p) d = if cn f (I 5) p d &&& (cn f (I 5) p d - 1) = 0 then 1 else 0 := rfl
            have e8 : ps (sq (cr (I, f, g) p)) (d + 1) = ps (sq (cr (I, f, g) p)) d + sq (cr (I, f, g) p) d := rfl
            first
            | (rw [if_pos c48] at e9; rw [e8, e9, Nat.sub_add_comm z1] at k9; exact k9)
            | (rw [if_neg c48] at e9; rw [e8, e9] at k9; exact k9)
    refine r_aload_n (pq := 1) C dX12_sure_0 rfl rfl ?_
    refine r_iload_n (pq := 2) C dX12_sure_1 rfl rfl ?_
    refine r_callV (pq := 5) C (mc_X12_isPerson hB) (WM_obj _ _ _ _ _ _) rfl gX12_sure_X12_isPerson rfl (na := 1) (by decide +kernel) rfl (by decide) (by decide) (Nat.le_of_ble_eq_true rfl) ⟨Nat.zero_le _, Nat.zero_le _⟩ dX12_sure_2 rfl rfl (fun r9 w9 hq => ?_)
    obtain ⟨rfl, rfl⟩ := hq
    dsimp only [Option.toList, List.cons_append, List.nil_append]
    have l2 := b2_lt (rg (nI p) (I 1))
    refine rN_if_eq (tg := 16) (pq := 8) C dX12_sure_5 (by decide) rfl (by omega) (fun c5 => absurd c5 (b2_1.mpr (hok.1))) (fun c5 => ?_)
    refine r_iload_n (pq := 9) C dX12_sure_8 rfl rfl ?_
    refine r_iload_n (pq := 10) C dX12_sure_9 rfl rfl ?_
    refine r_callS (pq := 13) C (mc_X12_isSpan) gX12_sure_X12_isSpan rfl (na := 2) (by decide +kernel) rfl (by decide) (by decide) (Nat.le_of_ble_eq_true rfl) ⟨Nat.zero_le _, Nat.zero_le _⟩ dX12_sure_10 rfl rfl (fun r9 w9 hq => ?_)
    obtain ⟨rfl, rfl⟩ := hq
    dsimp only [Option.toList, List.cons_append, List.nil_append]
    have l10 := b2_lt (rg (nI a) 400 ∧ rg (nI b) 400 ∧ (nI a).toInt ≤ (nI b).toInt)
    refine rN_if_ne (tg := 18) (pq := 16) C dX12_sure_13 (by decide) rfl (by omega) (fun c13 => ?_) (fun c13 => absurd c13 (b2_1.mpr (hok.2)))
    refine r_iconst (v := nI 0) (pq := 19) C dX12_sure_18 (by decide) rfl ?_
    refine r_istore (j := 4) (pq := 21) C dX12_sure_19 rfl (by decide) rfl rfl ?_
    dsimp only [List.set]
    refine r_iload_n (pq := 22) C dX12_sure_21 rfl rfl ?_
    refine r_istore (j := 5) (pq := 24) C dX12_sure_22 rfl (by decide) rfl rfl ?_
    dsimp only [List.set]
    have k0 := loop (b + 2 - a) a none (Nat.le_refl a) (by omega) (by omega)
    rw [Nat.sub_self] at k0
    exact k0
  · have hbad := hok
    refine r_aload_n (pq := 1) C dX12_sure_0 rfl rfl ?_
    refine r_iload_n (pq := 2) C dX12_sure_1 rfl rfl ?_
    refine r_callV (pq := 5) C (mc_X12_isPerson hB) (WM_obj _ _ _ _ _ _) rfl gX12_sure_X12_isPerson rfl (na := 1) (by decide +kernel) rfl (by decide) (by decide) (Nat.le_of_ble_eq_true rfl) ⟨Nat.zero_le _, Nat.zero_le _⟩ dX12_sure_2 rfl rfl (fun r9 w9 hq => ?_)
    obtain ⟨rfl, rfl⟩ := hq
    dsimp only [Option.toList, List.cons_append, List.nil_append]
    have l2 := b2_lt (rg x (I 1))
    refine rN_if_eq (tg := 16) (pq := 8) C dX12_sure_5 (by decide) rfl (by omega) (fun c5 => ?_) (fun c5 => ?_)
    · refine r_iconst (v := (-1)) (pq := 17) C dX12_sure_16 (by decide) rfl ?_
      refine r_iret C D rfl ⟨Nat.le_refl _, Nat.le_refl _⟩ dX12_sure_17 ?_
      refine ⟨?_, (I, f, g), rfl, hB, ?_⟩
      · unfold rs_sure
        rw [if_neg hbad]
      · exact EQ_rfl _
    · refine r_iload_n (pq := 9) C dX12_sure_8 rfl rfl ?_
      refine r_iload_n (pq := 10) C dX12_sure_9 rfl rfl ?_
      refine r_callS (pq := 13) C (mc_X12_isSpan) gX12_sure_X12_isSpan rfl (na := 2) (by decide +kernel) rfl (by decide) (by decide) (Nat.le_of_ble_eq_true rfl) ⟨Nat.zero_le _, Nat.zero_le _⟩ dX12_sure_10 rfl rfl (fun r9 w9 hq => ?_)
      obtain ⟨rfl, rfl⟩ := hq
      dsimp only [Option.toList, List.cons_append, List.nil_append]
      have l10 := b2_lt (rg y 400 ∧ rg z 400 ∧ y.toInt ≤ z.toInt)
      refine rN_if_ne (tg := 18) (pq := 16) C dX12_sure_13 (by decide) rfl (by omega) (fun c13 => ?_) (fun c13 => ?_)
      · exact absurd ⟨b2_1.mp c5, b2_1.mp c13⟩ hbad
      · refine r_iconst (v := (-1)) (pq := 17) C dX12_sure_16 (by decide) rfl ?_
        refine r_iret C D rfl ⟨Nat.le_refl _, Nat.le_refl _⟩ dX12_sure_17 ?_
        refine ⟨?_, (I, f, g), rfl, hB, ?_⟩
        · unfold rs_sure
          rw [if_neg hbad]
        · exact EQ_rfl _


/-! ===== the class's calls: count ===== -/
set_option maxHeartbeats 4000000 in
set_option maxRecDepth 100000 in
/-- droppedMarks -/
theorem mc_X11_droppedMarks {l : Launch} {E : EV} {w : RW} {B : Nat → Nat} {s : ST} (hS : SI s) (hN : NS E B s w)  : MC l E yX11_droppedMarks wsX11_droppedMarks 0 0 0 [.ref (B 0)] (w) (fun v w' => w' = w ∧ v = some (.int (nI (ps (fun m => if s.2.1 11 m = 0 then 0 else 1) (s.1 5))))) := by
  refine MC.enter (cc := cX11_droppedMarks) (maxL := 4) (ret := (some .int)) (lv0 := [some (.ref (B 0)), none, none, none]) (by decide) rfl (by simp [Value.category]) (Nat.le_of_ble_eq_true rfl) rfl ?_
  intro X hl hE C D
  subst hl
  subst hE
  have hI1 : s.1 1 ≤ 6 := hS.2.1
  have hI5 : s.1 5 ≤ 80 := hS.2.2.1
  have hI16 : s.1 16 ≤ 12 := hS.2.2.2.1
  have hNN := hN
  obtain ⟨o0, ⟨u1, e1, f1⟩, ⟨u2, e2, f2⟩, ⟨u3, e3, f3⟩, ⟨u5, e5, f5⟩, ⟨u6, e6, f6⟩, ⟨u8, e8, f8⟩, ⟨u10, e10, f10⟩, ⟨u11, e11, f11⟩, ⟨u13, e13, f13⟩, ⟨u14, e14, f14⟩, ⟨u15, e15⟩, ⟨u16, e16⟩, h20, h30, h100, h200, h220, h240, h300, h310⟩ := hNN
  have loop : ∀ (t i : Nat), i ≤ s.1 5 → s.1 5 - i < t → GG X w 0 0 4 [some (.ref (B 0)), some (.int (nI (ps (fun m => if s.2.1 11 m = 0 then 0 else 1) i))), some (.int (nI i)), none] [] := by
    intro t
    induction t with
    | zero => intro i h1 h2; omega
    | succ t ih =>
      intro i hi ht
      refine r_iload_n (pq := 5) C dX11_droppedMarks_4 rfl rfl ?_
      refine r_aload_n (pq := 6) C dX11_droppedMarks_5 rfl rfl ?_
      refine r_getf (pq := 9) C 6 o0 rfl (by decide) (by decide +kernel) (Or.inl rfl) rfl dX11_droppedMarks_6 rfl ?_
      refine rN_icmp_ge (tg := 39) (pq := 12) C dX11_droppedMarks_9 (by decide) rfl (by omega) (by omega) (fun c9 => ?_) (fun c9 => ?_)
      · refine r_iload_n (pq := 40) C dX11_droppedMarks_39 rfl rfl ?_
        refine r_iret C D rfl ⟨Nat.le_refl _, Nat.le_refl _⟩ dX11_droppedMarks_40 ?_
        have e9 : i = s.1 5 := by omega
        subst e9
        exact ⟨rfl, rfl⟩
      · refine r_aload_n (pq := 13) C dX11_droppedMarks_12 rfl rfl ?_
        refine r_getf (pq := 16) C 5 o0 rfl (by decide) (by decide +kernel) (Or.inl rfl) rfl dX11_droppedMarks_13 rfl ?_
        refine r_iload_n (pq := 17) C dX11_droppedMarks_16 rfl rfl ?_
        refine rN_aaldS (pq := 18) C 4 rfl rfl e6 (by omega) (by decide) (f6 i c9) dX11_droppedMarks_17 rfl ?_
        have hm := h100 i c9
        have hb9 := hS.2.2.2.2.2.1 i c9
        refine r_astore_n (j := 3) (pq := 19) C dX11_droppedMarks_18 rfl (by decide) rfl rfl ?_
        dsimp only [List.set]
        refine r_aload_n (pq := 20) C dX11_droppedMarks_19 rfl rfl ?_
        refine r_ifnull (pq := 23) C dX11_droppedMarks_20 rfl ?_
        refine r_aload_n (pq := 24) C dX11_droppedMarks_23 rfl rfl ?_
        refine r_getM (pq := 27) C (mkC_M _) 5 hm (by decide) (by decide +kernel) rfl rfl dX11_droppedMarks_24 rfl ?_
        refine rN_if_eq (tg := 33) (pq := 30) C dX11_droppedMarks_27 (by decide) rfl (by omega) (fun c27 => ?_) (fun c27 => ?_)
        · refine rN_iinc (c := 1) (pq := 36) C dX11_droppedMarks_33 rfl (by decide) (by decide) rfl rfl ?_
          dsimp only [List.set]
          refine r_goto (tg := 4) C dX11_droppedMarks_36 (by decide) ?_
          refine GG.fgt 3 ?_
          dsimp only [List.set]
          have key := ih (i + 1) (by omega) (by omega)
          rw [show ps (fun m => if s.2.1 11 m = 0 then 0 else 1) (i + 1) = ps (fun m => if s.2.1 11 m = 0 then 0 else 1) i + (if s.2.1 11 i = 0 then 0 else 1) from rfl, if_pos c27, Nat.add_zero] at key
          exact key
        · refine rN_iinc (c := 1) (pq := 33) C dX11_droppedMarks_30 rfl (by decide) (by decide) rfl rfl ?_
          dsimp only [List.set]
          refine rN_iinc (c := 1) (pq := 36) C dX11_droppedMarks_33 rfl (by decide) (by decide) rfl rfl ?_
          dsimp only [List.set]
          refine r_goto (tg := 4) C dX11_droppedMarks_36 (by decide) ?_
          refine GG.fgt 3 ?_
          dsimp only [List.set]
          have key := ih (i + 1) (by omega) (by omega)
          rw [show ps (fun m => if s.2.1 11 m = 0 then 0 else 1) (i + 1) = ps (fun m => if s.2.1 11 m = 0 then 0 else 1) i + (if s.2.1 11 i = 0 then 0 else 1) from rfl, if_neg c27] at key
          exact key
  refine r_iconst (v := nI 0) (pq := 1) C dX11_droppedMarks_0 (by decide) rfl ?_
  refine r_istore_n (j := 1) (pq := 2) C dX11_droppedMarks_1 rfl (by decide) rfl rfl ?_
  dsimp only [List.set]
  refine r_iconst (v := nI 0) (pq := 3) C dX11_droppedMarks_2 (by decide) rfl ?_
  refine r_istore_n (j := 2) (pq := 4) C dX11_droppedMarks_3 rfl (by decide) rfl rfl ?_
  dsimp only [List.set]
  exact loop (s.1 5 + 1) 0 (Nat.zero_le _) (by omega)

set_option maxHeartbeats 4000000 in
set_option maxRecDepth 100000 in
/-- joinedPeople -/
theorem mc_X11_joinedPeople {l : Launch} {E : EV} {w : RW} {B : Nat → Nat} {s : ST} (hS : SI s) (hN : NS E B s w)  : MC l E yX11_joinedPeople wsX11_joinedPeople 0 0 0 [.ref (B 0)] (w) (fun v w' => w' = w ∧ v = some (.int (nI (ps (fun p => if s.2.1 4 p = 0 then 0 else 1) (s.1 1))))) := by
  refine MC.enter (cc := cX11_joinedPeople) (maxL := 3) (ret := (some .int)) (lv0 := [some (.ref (B 0)), none, none]) (by decide) rfl (by simp [Value.category]) (Nat.le_of_ble_eq_true rfl) rfl ?_
  intro X hl hE C D
  subst hl
  subst hE
  have hI1 : s.1 1 ≤ 6 := hS.2.1
  have hI5 : s.1 5 ≤ 80 := hS.2.2.1
  have hI16 : s.1 16 ≤ 12 := hS.2.2.2.1
  have hNN := hN
  obtain ⟨o0, ⟨u1, e1, f1⟩, ⟨u2, e2, f2⟩, ⟨u3, e3, f3⟩, ⟨u5, e5, f5⟩, ⟨u6, e6, f6⟩, ⟨u8, e8, f8⟩, ⟨u10, e10, f10⟩, ⟨u11, e11, f11⟩, ⟨u13, e13, f13⟩, ⟨u14, e14, f14⟩, ⟨u15, e15⟩, ⟨u16, e16⟩, h20, h30, h100, h200, h220, h240, h300, h310⟩ := hNN
  have loop : ∀ (t i : Nat), i ≤ s.1 1 → s.1 1 - i < t → GG X w 0 0 4 [some (.ref (B 0)), some (.int (nI (ps (fun p => if s.2.1 4 p = 0 then 0 else 1) i))), some (.int (nI i))] [] := by
    intro t
    induction t with
    | zero => intro i h1 h2; omega
    | succ t ih =>
      intro i hi ht
      refine r_iload_n (pq := 5) C dX11_joinedPeople_4 rfl rfl ?_
      refine r_aload_n (pq := 6) C dX11_joinedPeople_5 rfl rfl ?_
      refine r_getf (pq := 9) C 3 o0 rfl (by decide) (by decide +kernel) (Or.inl rfl) rfl dX11_joinedPeople_6 rfl ?_
      refine rN_icmp_ge (tg := 30) (pq := 12) C dX11_joinedPeople_9 (by decide) rfl (by omega) (by omega) (fun c9 => ?_) (fun c9 => ?_)
      · refine r_iload_n (pq := 31) C dX11_joinedPeople_30 rfl rfl ?_
        refine r_iret C D rfl ⟨Nat.le_refl _, Nat.le_refl _⟩ dX11_joinedPeople_31 ?_
        have e9 : i = s.1 1 := by omega
        subst e9
        exact ⟨rfl, rfl⟩
      · refine r_aload_n (pq := 13) C dX11_joinedPeople_12 rfl rfl ?_
        refine r_getf (pq := 16) C 2 o0 rfl (by decide) (by decide +kernel) (Or.inl rfl) rfl dX11_joinedPeople_13 rfl ?_
        refine r_iload_n (pq := 17) C dX11_joinedPeople_16 rfl rfl ?_
        refine rN_zald (pq := 18) C e3 (by omega) (by decide) dX11_joinedPeople_17 rfl ?_
        refine r_at (f3 i (by omega)) ?_
        rw [if_pos c9]
        have hb9 := hS.2.2.2.2.1 i c9
        refine rN_if_eq (tg := 24) (pq := 21) C dX11_joinedPeople_18 (by decide) rfl (by omega) (fun c18 => ?_) (fun c18 => ?_)
        · refine rN_iinc (c := 1) (pq := 27) C dX11_joinedPeople_24 rfl (by decide) (by decide) rfl rfl ?_
          dsimp only [List.set]
          refine r_goto (tg := 4) C dX11_joinedPeople_27 (by decide) ?_
          have key := ih (i + 1) (by omega) (by omega)
          rw [show ps (fun p => if s.2.1 4 p = 0 then 0 else 1) (i + 1) = ps (fun p => if s.2.1 4 p = 0 then 0 else 1) i + (if s.2.1 4 i = 0 then 0 else 1) from rfl, if_pos c18, Nat.add_zero] at key
          exact key
        · refine rN_iinc (c := 1) (pq := 24) C dX11_joinedPeople_21 rfl (by decide) (by decide) rfl rfl ?_
          dsimp only [List.set]
          refine rN_iinc (c := 1) (pq := 27) C dX11_joinedPeople_24 rfl (by decide) (by decide) rfl rfl ?_
          dsimp only [List.set]
          refine r_goto (tg := 4) C dX11_joinedPeople_27 (by decide) ?_
          have key := ih (i + 1) (by omega) (by omega)
          rw [show ps (fun p => if s.2.1 4 p = 0 then 0 else 1) (i + 1) = ps (fun p => if s.2.1 4 p = 0 then 0 else 1) i + (if s.2.1 4 i = 0 then 0 else 1) from rfl, if_neg c18] at key
          exact key
  refine r_iconst (v := nI 0) (pq := 1) C dX11_joinedPeople_0 (by decide) rfl ?_
  refine r_istore_n (j := 1) (pq := 2) C dX11_joinedPeople_1 rfl (by decide) rfl rfl ?_
  dsimp only [List.set]
  refine r_iconst (v := nI 0) (pq := 3) C dX11_joinedPeople_2 (by decide) rfl ?_
  refine r_istore_n (j := 2) (pq := 4) C dX11_joinedPeople_3 rfl (by decide) rfl rfl ?_
  dsimp only [List.set]
  exact loop (s.1 1 + 1) 0 (Nat.zero_le _) (by omega)

set_option maxHeartbeats 4000000 in
set_option maxRecDepth 100000 in
/-- count -/
theorem mc_X11_count {l : Launch} {E : EV} {w : RW} {B : Nat → Nat} {s : ST} (hS : SI s) (hN : NS E B s w) {x : Int32} : MC l E yX11_count wsX11_count 1 0 0 [.ref (B 0), .int x] (w) (nP E B w (rs_count s x) s) := by
  refine MC.enter (cc := cX11_count) (maxL := 2) (ret := (some .int)) (lv0 := [some (.ref (B 0)), some (.int x)]) (by decide) rfl (by simp [Value.category]) (Nat.le_of_ble_eq_true rfl) rfl ?_
  intro X hl hE C D
  subst hl
  subst hE
  have hI1 : s.1 1 ≤ 6 := hS.2.1
  have hI5 : s.1 5 ≤ 80 := hS.2.2.1
  have hI16 : s.1 16 ≤ 12 := hS.2.2.2.1
  have hNN := hN
  obtain ⟨o0, ⟨u1, e1, f1⟩, ⟨u2, e2, f2⟩, ⟨u3, e3, f3⟩, ⟨u5, e5, f5⟩, ⟨u6, e6, f6⟩, ⟨u8, e8, f8⟩, ⟨u10, e10, f10⟩, ⟨u11, e11, f11⟩, ⟨u13, e13, f13⟩, ⟨u14, e14, f14⟩, ⟨u15, e15⟩, ⟨u16, e16⟩, h20, h30, h100, h200, h220, h240, h300, h310⟩ := hNN
  by_cases hok : rg x 6
  · obtain ⟨k9, hk9, rfl⟩ := rg_of hok (by omega)
    rcases (by omega : k9 = 0 ∨ k9 = 1 ∨ k9 = 2 ∨ k9 = 3 ∨ k9 = 4 ∨ k9 = 5) with e | e | e | e | e | e <;> subst e
    · refine r_iload_n (pq := 1) C dX11_count_0 rfl rfl ?_
      refine r_tableIn (tg := 40) C dX11_count_1 (by decide) (by decide) rfl (by decide) ?_
      refine r_aload_n (pq := 41) C dX11_count_40 rfl rfl ?_
      refine r_getf (pq := 44) C 3 o0 rfl (by decide) (by decide +kernel) (Or.inl rfl) rfl dX11_count_41 rfl ?_
      refine r_iret C D rfl ⟨Nat.le_refl _, Nat.le_refl _⟩ dX11_count_44 ?_
      refine ⟨?_, fun _ _ => rfl, B, rfl, hN⟩
      unfold rs_count
      rw [if_pos (show nI 0 = 0 from rfl)]
    · refine r_iload_n (pq := 1) C dX11_count_0 rfl rfl ?_
      refine r_tableIn (tg := 45) C dX11_count_1 (by decide) (by decide) rfl (by decide) ?_
      refine r_aload_n (pq := 46) C dX11_count_45 rfl rfl ?_
      refine r_getf (pq := 49) C 6 o0 rfl (by decide) (by decide +kernel) (Or.inl rfl) rfl dX11_count_46 rfl ?_
      refine r_iret C D rfl ⟨Nat.le_refl _, Nat.le_refl _⟩ dX11_count_49 ?_
      refine ⟨?_, fun _ _ => rfl, B, rfl, hN⟩
      unfold rs_count
      rw [if_neg (show ¬ nI 1 = 0 by decide), if_pos (show nI 1 = 1 from rfl)]
    · refine r_iload_n (pq := 1) C dX11_count_0 rfl rfl ?_
      refine r_tableIn (tg := 50) C dX11_count_1 (by decide) (by decide) rfl (by decide) ?_
      refine r_aload_n (pq := 51) C dX11_count_50 rfl rfl ?_
      refine r_getf (pq := 54) C 8 o0 rfl (by decide) (by decide +kernel) (Or.inl rfl) rfl dX11_count_51 rfl ?_
      refine r_iret C D rfl ⟨Nat.le_refl _, Nat.le_refl _⟩ dX11_count_54 ?_
      refine ⟨?_, fun _ _ => rfl, B, rfl, hN⟩
      unfold rs_count
      rw [if_neg (show ¬ nI 2 = 0 by decide), if_neg (show ¬ nI 2 = 1 by decide), if_pos (show nI 2 = 2 from rfl)]
    · refine r_iload_n (pq := 1) C dX11_count_0 rfl rfl ?_
      refine r_tableIn (tg := 55) C dX11_count_1 (by decide) (by decide) rfl (by decide) ?_
      refine r_aload_n (pq := 56) C dX11_count_55 rfl rfl ?_
      refine r_getf (pq := 59) C 11 o0 rfl (by decide) (by decide +kernel) (Or.inl rfl) rfl dX11_count_56 rfl ?_
      refine r_iret C D rfl ⟨Nat.le_refl _, Nat.le_refl _⟩ dX11_count_59 ?_
      refine ⟨?_, fun _ _ => rfl, B, rfl, hN⟩
      unfold rs_count
      rw [if_neg (show ¬ nI 3 = 0 by decide), if_neg (show ¬ nI 3 = 1 by decide), if_neg (show ¬ nI 3 = 2 by decide), if_pos (show nI 3 = 3 from rfl)]
      rfl
    · refine r_iload_n (pq := 1) C dX11_count_0 rfl rfl ?_
      refine r_tableIn (tg := 60) C dX11_count_1 (by decide) (by decide) rfl (by decide) ?_
      refine r_aload_n (pq := 61) C dX11_count_60 rfl rfl ?_
      refine r_callV (pq := 64) C (mc_X11_droppedMarks hS hN) o0 rfl gX11_count_X11_droppedMarks rfl (na := 0) (by decide +kernel) rfl (by decide) (by decide) (Nat.le_of_ble_eq_true rfl) ⟨Nat.zero_le _, Nat.zero_le _⟩ dX11_count_61 rfl rfl (fun r9 w hq => ?_)
      obtain ⟨rfl, rfl⟩ := hq
      dsimp only [Option.toList, List.cons_append, List.nil_append]
      refine r_iret C D rfl ⟨Nat.le_refl _, Nat.le_refl _⟩ dX11_count_64 ?_
      refine ⟨?_, fun _ _ => rfl, B, rfl, hN⟩
      unfold rs_count
      rw [if_neg (show ¬ nI 4 = 0 by decide), if_neg (show ¬ nI 4 = 1 by decide), if_neg (show ¬ nI 4 = 2 by decide), if_neg (show ¬ nI 4 = 3 by decide), if_pos (show nI 4 = 4 from rfl)]
    · refine r_iload_n (pq := 1) C dX11_count_0 rfl rfl ?_
      refine r_tableIn (tg := 65) C dX11_count_1 (by decide) (by decide) rfl (by decide) ?_
      refine r_aload_n (pq := 66) C dX11_count_65 rfl rfl ?_
      refine r_callV (pq := 69) C (mc_X11_joinedPeople hS hN) o0 rfl gX11_count_X11_joinedPeople rfl (na := 0) (by decide +kernel) rfl (by decide) (by decide) (Nat.le_of_ble_eq_true rfl) ⟨Nat.zero_le _, Nat.zero_le _⟩ dX11_count_66 rfl rfl (fun r9 w hq => ?_)
      obtain ⟨rfl, rfl⟩ := hq
      dsimp only [Option.toList, List.cons_append, List.nil_append]
      refine r_iret C D rfl ⟨Nat.le_refl _, Nat.le_refl _⟩ dX11_count_69 ?_
      refine ⟨?_, fun _ _ => rfl, B, rfl, hN⟩
      unfold rs_count
      rw [if_neg (show ¬ nI 5 = 0 by decide), if_neg (show ¬ nI 5 = 1 by decide), if_neg (show ¬ nI 5 = 2 by decide), if_neg (show ¬ nI 5 = 3 by decide), if_neg (show ¬ nI 5 = 4 by decide), if_pos (show nI 5 = 5 from rfl)]
  · skip
    refine r_iload_n (pq := 1) C dX11_count_0 rfl rfl ?_
    refine r_tableOut (tg := 70) C dX11_count_1 (by unfold rg at hok; omega) (by decide) ?_
    refine r_iconst (v := (-1)) (pq := 71) C dX11_count_70 (by decide) rfl ?_
    refine r_iret C D rfl ⟨Nat.le_refl _, Nat.le_refl _⟩ dX11_count_71 ?_
    refine ⟨?_, fun _ _ => rfl, B, rfl, hN⟩
    unfold rs_count
    rw [if_neg (fun e => hok (by rw [e]; decide)), if_neg (fun e => hok (by rw [e]; decide)), if_neg (fun e => hok (by rw [e]; decide)), if_neg (fun e => hok (by rw [e]; decide)), if_neg (fun e => hok (by rw [e]; decide)), if_neg (fun e => hok (by rw [e]; decide))]


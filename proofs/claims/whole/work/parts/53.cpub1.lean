/-! ===== the class's calls: people and marks ===== -/
theorem cn_none {f : Nat → Nat → Nat} {p d : Nat} : ∀ {M : Nat}, (∀ m, m < M → f 7 m ≠ p) → cnF f p d M = (255, 255, 0)
  | 0, _ => rfl
  | M + 1, h => by
    rw [cnF_no (fun q => h M (by omega) q.1)]
    exact cn_none (fun m hm => h m (by omega))
theorem cn_255 {f : Nat → Nat → Nat} {M p d : Nat} (h : ∀ m, m < M → f 7 m ≠ p) : cn f M p d = 255 := by
  unfold cn
  rw [cn_none h]
  rfl

set_option maxHeartbeats 4000000 in
set_option maxRecDepth 100000 in
/-- person -/
theorem mc_X11_person {l : Launch} {E : EV} {w : RW} {B : Nat → Nat} {s : ST} (hS : SI s) (hN : NS E B s w) {x y : Int32} : MC l E yX11_person wsX11_person 2 0 0 [.ref (B 0), .int x, .int y] (w) (nP E B w (rs_person s x y) (nx_person s x y)) := by
  refine MC.enter (cc := cX11_person) (maxL := 4) (ret := (some .int)) (lv0 := [some (.ref (B 0)), some (.int x), some (.int y), none]) (by decide) rfl (by simp [Value.category]) (Nat.le_of_ble_eq_true rfl) rfl ?_
  intro X hl hE C D
  subst hl
  subst hE
  have hI1 : s.1 1 ≤ 6 := hS.2.1
  have hI5 : s.1 5 ≤ 80 := hS.2.2.1
  have hI16 : s.1 16 ≤ 12 := hS.2.2.2.1
  have hNN := hN
  obtain ⟨o0, ⟨u1, e1, f1⟩, ⟨u2, e2, f2⟩, ⟨u3, e3, f3⟩, ⟨u5, e5, f5⟩, ⟨u6, e6, f6⟩, ⟨u8, e8, f8⟩, ⟨u10, e10, f10⟩, ⟨u11, e11, f11⟩, ⟨u13, e13, f13⟩, ⟨u14, e14, f14⟩, ⟨u15, e15⟩, ⟨u16, e16⟩, h20, h30, h100, h200, h220, h240, h300, h310⟩ := hNN
  by_cases hok : rg x 8 ∧ rg y 8
  · obtain ⟨a, ha, rfl⟩ := rg_of hok.1 (by omega)
    obtain ⟨b, hb, rfl⟩ := rg_of hok.2 (by omega)
    refine r_iload_n (pq := 1) C dX11_person_0 rfl rfl ?_
    refine r_callS (pq := 4) C (mc_X11_isLand) gX11_person_X11_isLand rfl (na := 1) (by decide +kernel) rfl (by decide) (by decide) (Nat.le_of_ble_eq_true rfl) ⟨Nat.zero_le _, Nat.zero_le _⟩ dX11_person_1 rfl rfl (fun r9 w9 hq => ?_)
    obtain ⟨rfl, rfl⟩ := hq
    dsimp only [Option.toList, List.cons_append, List.nil_append]
    have l1 := b2_lt (rg (nI a) 8)
    refine rN_if_eq (tg := 14) (pq := 7) C dX11_person_4 (by decide) rfl (by omega) (fun c4 => absurd c4 (b2_1.mpr (hok.1))) (fun c4 => ?_)
    refine r_iload_n (pq := 8) C dX11_person_7 rfl rfl ?_
    refine r_callS (pq := 11) C (mc_X11_isLand) gX11_person_X11_isLand rfl (na := 1) (by decide +kernel) rfl (by decide) (by decide) (Nat.le_of_ble_eq_true rfl) ⟨Nat.zero_le _, Nat.zero_le _⟩ dX11_person_8 rfl rfl (fun r9 w9 hq => ?_)
    obtain ⟨rfl, rfl⟩ := hq
    dsimp only [Option.toList, List.cons_append, List.nil_append]
    have l8 := b2_lt (rg (nI b) 8)
    refine rN_if_ne (tg := 16) (pq := 14) C dX11_person_11 (by decide) rfl (by omega) (fun c11 => ?_) (fun c11 => absurd c11 (b2_1.mpr (hok.2)))
    refine r_aload_n (pq := 17) C dX11_person_16 rfl rfl ?_
    refine r_getf (pq := 20) C 3 o0 rfl (by decide) (by decide +kernel) (Or.inl rfl) rfl dX11_person_17 rfl ?_
    refine r_bipush (v := nI 6) (pq := 22) C dX11_person_20 (by decide) rfl ?_
    refine rN_icmp_lt (tg := 28) (pq := 25) C dX11_person_22 (by decide) rfl (by omega) (by omega) (fun c22 => ?_) (fun c22 => ?_)
    · refine r_aload_n (pq := 29) C dX11_person_28 rfl rfl ?_
      refine r_getf (pq := 32) C 3 o0 rfl (by decide) (by decide +kernel) (Or.inl rfl) rfl dX11_person_29 rfl ?_
      refine r_istore_n (j := 3) (pq := 33) C dX11_person_32 rfl (by decide) rfl rfl ?_
      dsimp only [List.set]
      refine r_aload_n (pq := 34) C dX11_person_33 rfl rfl ?_
      refine r_dup (pq := 35) C dX11_person_34 rfl rfl ?_
      refine r_getf (pq := 38) C 3 o0 rfl (by decide) (by decide +kernel) (Or.inl rfl) rfl dX11_person_35 rfl ?_
      refine r_iconst (v := nI 1) (pq := 39) C dX11_person_38 (by decide) rfl ?_
      refine rN_iadd (pq := 40) C dX11_person_39 rfl ?_
      refine r_putf (pq := 43) C 3 o0 rfl tyX11 tyX11_ok nmX11 (by decide) (by decide +kernel) (Or.inl rfl) rfl rfl rfl rfl (Nat.le_of_ble_eq_true rfl) dX11_person_40 rfl ?_
      refine r_aload_n (pq := 44) C dX11_person_43 rfl rfl ?_
      refine r_getf (pq := 47) C 0 (va_s _ _ _) rfl (by decide) (by decide +kernel) (Or.inl rfl) rfl dX11_person_44 rfl ?_
      refine r_iload_n (pq := 48) C dX11_person_47 rfl rfl ?_
      refine r_iload_n (pq := 49) C dX11_person_48 rfl rfl ?_
      refine rN_iast (pq := 50) C ((va_n _ _ (by decide)).trans e1) (by omega) (by decide) dX11_person_49 rfl ?_
      refine r_aload_n (pq := 51) C dX11_person_50 rfl rfl ?_
      refine r_getf (pq := 54) C 1 ((va_n _ _ (by decide)).trans (va_s _ _ _)) rfl (by decide) (by decide +kernel) (Or.inl rfl) rfl dX11_person_51 rfl ?_
      refine r_iload_n (pq := 55) C dX11_person_54 rfl rfl ?_
      refine r_iload_n (pq := 56) C dX11_person_55 rfl rfl ?_
      refine rN_iast (pq := 57) C ((va_n _ _ (by decide)).trans ((va_n _ _ (by decide)).trans e2)) (by omega) (by decide) dX11_person_56 rfl ?_
      obtain ⟨h9, a1, a2⟩ := h20 (s.1 1) (by omega)
      refine r_aload_n (pq := 58) C dX11_person_57 rfl rfl ?_
      refine r_getf (pq := 61) C 4 ((va_n _ _ (by decide)).trans ((va_n _ _ (by decide)).trans (va_s _ _ _))) rfl (by decide) (by decide +kernel) (Or.inl rfl) rfl dX11_person_58 rfl ?_
      refine r_iload_n (pq := 62) C dX11_person_61 rfl rfl ?_
      refine rN_aaldS (pq := 63) C 8 rfl rfl ((va_n _ _ (by decide)).trans ((va_n _ _ (by decide)).trans ((va_n _ _ (by decide)).trans e5))) (by omega) (by decide) (f5 (s.1 1) (by omega)) dX11_person_62 rfl ?_
      refine r_sipush (v := nI 255) (pq := 66) C dX11_person_63 (by decide) rfl ?_
      refine r_callS (pq := 69) C (mc_J7_fill_53178 (by decide) ((va_n _ _ (by omega)).trans ((va_n _ _ (by omega)).trans ((va_n _ _ (by omega)).trans a1)))) gX11_person_J7_fill_53178 rfl (na := 2) (by decide +kernel) rfl (by decide) (by decide) (Nat.le_of_ble_eq_true rfl) ⟨Nat.zero_le _, Nat.zero_le _⟩ dX11_person_66 rfl rfl (fun r9 w9 hq => ?_)
      obtain ⟨rfl, rfl⟩ := hq
      dsimp only [Option.toList, List.nil_append]
      refine r_iload_n (pq := 70) C dX11_person_69 rfl rfl ?_
      refine r_iret C D rfl ⟨Nat.le_refl _, Nat.le_refl _⟩ dX11_person_70 ?_
      refine ⟨?_, fun z hz => (va_n _ _ (by omega)).trans ((va_n _ _ (by omega)).trans ((va_n _ _ (by omega)).trans (va_n _ _ (by omega)))), B, rfl, ?_⟩
      · unfold rs_person
        rw [if_pos hok, if_neg (by omega)]
      · unfold nx_person
        rw [if_pos ⟨hok, by omega⟩, tn_nI (by omega), tn_nI (by omega)]
        refine ⟨?_, ?_, ?_, ?_, ?_, ?_, ?_, ?_, ?_, ?_, ?_, ?_, ?_, ?_, ?_, ?_, ?_, ?_, ?_, ?_, ?_⟩
        · rw [va_n _ _ (by omega), va_n _ _ (by omega), va_n _ _ (by omega), va_s]
          rfl
        · refine ⟨_, (va_n _ _ (by omega)).trans ((va_n _ _ (by omega)).trans (va_s _ _ _)), fun p hp => ?_⟩
          by_cases e : p = s.1 1
          · subst e
            unfold upd
            rw [if_pos rfl]
            exact congrArg nI (show a = upf s.2.1 2 (s.1 1) a 2 (s.1 1) by rw [upf_s])
          · unfold upd
            rw [if_neg e, f1 p (by have : p < s.1 1 + 1 := hp; omega)]
            exact congrArg nI (show s.2.1 2 p = upf s.2.1 2 (s.1 1) a 2 p by rw [upf_n _ _ e])
        · refine ⟨_, (va_n _ _ (by omega)).trans (va_s _ _ _), fun p hp => ?_⟩
          by_cases e : p = s.1 1
          · subst e
            unfold upd
            rw [if_pos rfl]
            exact congrArg nI (show b = upf s.2.1 3 (s.1 1) b 3 (s.1 1) by rw [upf_s])
          · unfold upd
            rw [if_neg e, f2 p (by have : p < s.1 1 + 1 := hp; omega)]
            exact congrArg nI (show s.2.1 3 p = upf s.2.1 3 (s.1 1) b 3 p by rw [upf_n _ _ e])
        · refine ⟨u3, ((va_n _ _ (by omega)).trans ((va_n _ _ (by omega)).trans ((va_n _ _ (by omega)).trans (va_n _ _ (by omega))))).trans e3, fun p hp => ?_⟩
          rw [f3 p hp]
          show nI (if p < s.1 1 then s.2.1 4 p else 0) = nI (if p < s.1 1 + 1 then upf s.2.1 4 (s.1 1) 0 4 p else 0)
          by_cases e : p = s.1 1
          · subst e
            rw [if_neg (by omega), if_pos (by omega), upf_s]
          · rw [upf_n _ _ e]
            by_cases e2 : p < s.1 1
            · rw [if_pos e2, if_pos (by omega)]
            · rw [if_neg e2, if_neg (by omega)]
        · exact ⟨u5, ((va_n _ _ (by omega)).trans ((va_n _ _ (by omega)).trans ((va_n _ _ (by omega)).trans (va_n _ _ (by omega))))).trans e5, f5⟩
        · exact ⟨u6, ((va_n _ _ (by omega)).trans ((va_n _ _ (by omega)).trans ((va_n _ _ (by omega)).trans (va_n _ _ (by omega))))).trans e6, f6⟩
        · exact ⟨u8, ((va_n _ _ (by omega)).trans ((va_n _ _ (by omega)).trans ((va_n _ _ (by omega)).trans (va_n _ _ (by omega))))).trans e8, f8⟩
        · exact ⟨u10, ((va_n _ _ (by omega)).trans ((va_n _ _ (by omega)).trans ((va_n _ _ (by omega)).trans (va_n _ _ (by omega))))).trans e10, f10⟩
        · exact ⟨u11, ((va_n _ _ (by omega)).trans ((va_n _ _ (by omega)).trans ((va_n _ _ (by omega)).trans (va_n _ _ (by omega))))).trans e11, f11⟩
        · exact ⟨u13, ((va_n _ _ (by omega)).trans ((va_n _ _ (by omega)).trans ((va_n _ _ (by omega)).trans (va_n _ _ (by omega))))).trans e13, f13⟩
        · exact ⟨u14, ((va_n _ _ (by omega)).trans ((va_n _ _ (by omega)).trans ((va_n _ _ (by omega)).trans (va_n _ _ (by omega))))).trans e14, f14⟩
        · exact ⟨u15, ((va_n _ _ (by omega)).trans ((va_n _ _ (by omega)).trans ((va_n _ _ (by omega)).trans (va_n _ _ (by omega))))).trans e15⟩
        · exact ⟨u16, ((va_n _ _ (by omega)).trans ((va_n _ _ (by omega)).trans ((va_n _ _ (by omega)).trans (va_n _ _ (by omega))))).trans e16⟩
        · intro p hp
          by_cases e : p = s.1 1
          · subst e
            refine ⟨_, va_s _ _ _, fun _ d hd => ?_⟩
            unfold fil
            rw [if_pos (by omega)]
            refine congrArg nI (Eq.symm (cn_255 (fun m hm => ?_)))
            exact Nat.ne_of_lt (hS.2.2.2.2.2.1 m hm).2.1
          · obtain ⟨h8, b1, b2⟩ := h20 p hp
            exact ⟨h8, ((va_n _ _ (by omega)).trans ((va_n _ _ (by omega)).trans ((va_n _ _ (by omega)).trans (va_n _ _ (by omega))))).trans b1, fun z d hd => (b2 (by have : p < s.1 1 + 1 := z; omega) d hd).trans (congrArg nI (cn_congr (f := s.2.1) (f' := upf (upf (upf s.2.1 2 (s.1 1) a) 3 (s.1 1) b) 4 (s.1 1) 0) (fun k q1 q2 => by rw [upf_o _ _ (by omega), upf_o _ _ (by omega), upf_o _ _ (by omega)]) (s.1 5) p d).symm)⟩
        · intro l hl
          obtain ⟨x, y, a1⟩ := h30 l hl
          exact ⟨x, y, ((va_n _ _ (by omega)).trans ((va_n _ _ (by omega)).trans ((va_n _ _ (by omega)).trans (va_n _ _ (by omega))))).trans a1⟩
        · intro m hm
          exact ((va_n _ _ (by omega)).trans ((va_n _ _ (by omega)).trans ((va_n _ _ (by omega)).trans (va_n _ _ (by omega))))).trans (h100 m hm)
        · intro j hj
          obtain ⟨z, a1⟩ := h200 j hj
          exact ⟨z, ((va_n _ _ (by omega)).trans ((va_n _ _ (by omega)).trans ((va_n _ _ (by omega)).trans (va_n _ _ (by omega))))).trans a1⟩
        · intro j hj
          obtain ⟨x, y, a1⟩ := h220 j hj
          exact ⟨x, y, ((va_n _ _ (by omega)).trans ((va_n _ _ (by omega)).trans ((va_n _ _ (by omega)).trans (va_n _ _ (by omega))))).trans a1⟩
        · intro j hj
          obtain ⟨x, y, a1⟩ := h240 j hj
          exact ⟨x, y, ((va_n _ _ (by omega)).trans ((va_n _ _ (by omega)).trans ((va_n _ _ (by omega)).trans (va_n _ _ (by omega))))).trans a1⟩
        · intro d hd h3
          exact ((va_n _ _ (by omega)).trans ((va_n _ _ (by omega)).trans ((va_n _ _ (by omega)).trans (va_n _ _ (by omega))))).trans (h300 d hd h3)
        · intro d hd h3
          obtain ⟨h9, a1, a2⟩ := h310 d hd h3
          exact ⟨h9, ((va_n _ _ (by omega)).trans ((va_n _ _ (by omega)).trans ((va_n _ _ (by omega)).trans (va_n _ _ (by omega))))).trans a1, a2⟩
    · refine r_bipush (v := (-2)) (pq := 27) C dX11_person_25 (by decide) rfl ?_
      refine r_iret C D rfl ⟨Nat.le_refl _, Nat.le_refl _⟩ dX11_person_27 ?_
      refine ⟨?_, fun _ _ => rfl, B, rfl, ?_⟩
      · unfold rs_person
        rw [if_pos hok, if_pos (by omega)]
      · unfold nx_person
        rw [if_neg (fun h => h.2 (by omega))]
        exact hN
  · have hbad := hok
    refine r_iload_n (pq := 1) C dX11_person_0 rfl rfl ?_
    refine r_callS (pq := 4) C (mc_X11_isLand) gX11_person_X11_isLand rfl (na := 1) (by decide +kernel) rfl (by decide) (by decide) (Nat.le_of_ble_eq_true rfl) ⟨Nat.zero_le _, Nat.zero_le _⟩ dX11_person_1 rfl rfl (fun r9 w9 hq => ?_)
    obtain ⟨rfl, rfl⟩ := hq
    dsimp only [Option.toList, List.cons_append, List.nil_append]
    have l1 := b2_lt (rg x 8)
    refine rN_if_eq (tg := 14) (pq := 7) C dX11_person_4 (by decide) rfl (by omega) (fun c4 => ?_) (fun c4 => ?_)
    · refine r_iconst (v := (-1)) (pq := 15) C dX11_person_14 (by decide) rfl ?_
      refine r_iret C D rfl ⟨Nat.le_refl _, Nat.le_refl _⟩ dX11_person_15 ?_
      refine ⟨?_, fun _ _ => rfl, B, rfl, ?_⟩
      · unfold rs_person
        rw [if_neg hbad]
      · unfold nx_person
        rw [if_neg (fun h => hbad h.1)]
        exact hN
    · refine r_iload_n (pq := 8) C dX11_person_7 rfl rfl ?_
      refine r_callS (pq := 11) C (mc_X11_isLand) gX11_person_X11_isLand rfl (na := 1) (by decide +kernel) rfl (by decide) (by decide) (Nat.le_of_ble_eq_true rfl) ⟨Nat.zero_le _, Nat.zero_le _⟩ dX11_person_8 rfl rfl (fun r9 w9 hq => ?_)
      obtain ⟨rfl, rfl⟩ := hq
      dsimp only [Option.toList, List.cons_append, List.nil_append]
      have l8 := b2_lt (rg y 8)
      refine rN_if_ne (tg := 16) (pq := 14) C dX11_person_11 (by decide) rfl (by omega) (fun c11 => ?_) (fun c11 => ?_)
      · exact absurd ⟨b2_1.mp c4, b2_1.mp c11⟩ hbad
      · refine r_iconst (v := (-1)) (pq := 15) C dX11_person_14 (by decide) rfl ?_
        refine r_iret C D rfl ⟨Nat.le_refl _, Nat.le_refl _⟩ dX11_person_15 ?_
        refine ⟨?_, fun _ _ => rfl, B, rfl, ?_⟩
        · unfold rs_person
          rw [if_neg hbad]
        · unfold nx_person
          rw [if_neg (fun h => hbad h.1)]
          exact hN

set_option maxHeartbeats 4000000 in
set_option maxRecDepth 100000 in
/-- can -/
theorem mc_X11_can {l : Launch} {E : EV} {w : RW} {B : Nat → Nat} {s : ST} (hS : SI s) (hN : NS E B s w) {x y : Int32} : MC l E yX11_can wsX11_can 1 0 0 [.ref (B 0), .int x, .int y] (w) (nP E B w (rs_can s x y) (s)) := by
  refine MC.enter (cc := cX11_can) (maxL := 3) (ret := (some .int)) (lv0 := [some (.ref (B 0)), some (.int x), some (.int y)]) (by decide) rfl (by simp [Value.category]) (Nat.le_of_ble_eq_true rfl) rfl ?_
  intro X hl hE C D
  subst hl
  subst hE
  have hI1 : s.1 1 ≤ 6 := hS.2.1
  have hI5 : s.1 5 ≤ 80 := hS.2.2.1
  have hI16 : s.1 16 ≤ 12 := hS.2.2.2.1
  have hNN := hN
  obtain ⟨o0, ⟨u1, e1, f1⟩, ⟨u2, e2, f2⟩, ⟨u3, e3, f3⟩, ⟨u5, e5, f5⟩, ⟨u6, e6, f6⟩, ⟨u8, e8, f8⟩, ⟨u10, e10, f10⟩, ⟨u11, e11, f11⟩, ⟨u13, e13, f13⟩, ⟨u14, e14, f14⟩, ⟨u15, e15⟩, ⟨u16, e16⟩, h20, h30, h100, h200, h220, h240, h300, h310⟩ := hNN
  by_cases hok : rg x (s.1 1) ∧ rg y 400
  · obtain ⟨p, hp, rfl⟩ := rg_of hok.1 (by omega)
    obtain ⟨e, he, rfl⟩ := rg_of hok.2 (by omega)
    obtain ⟨h9, a1, a2⟩ := h20 p (by omega)
    refine r_aload_n (pq := 1) C dX11_can_0 rfl rfl ?_
    refine r_iload_n (pq := 2) C dX11_can_1 rfl rfl ?_
    refine r_callV (pq := 5) C (mc_X11_isPerson hI1 o0) o0 rfl gX11_can_X11_isPerson rfl (na := 1) (by decide +kernel) rfl (by decide) (by decide) (Nat.le_of_ble_eq_true rfl) ⟨Nat.zero_le _, Nat.zero_le _⟩ dX11_can_2 rfl rfl (fun r9 w9 hq => ?_)
    obtain ⟨rfl, rfl⟩ := hq
    dsimp only [Option.toList, List.cons_append, List.nil_append]
    have l2 := b2_lt (rg (nI p) (s.1 1))
    refine rN_if_eq (tg := 26) (pq := 8) C dX11_can_5 (by decide) rfl (by omega) (fun c5 => absurd c5 (b2_1.mpr (hok.1))) (fun c5 => ?_)
    refine r_iload_n (pq := 9) C dX11_can_8 rfl rfl ?_
    refine r_callS (pq := 12) C (mc_X11_isDay) gX11_can_X11_isDay rfl (na := 1) (by decide +kernel) rfl (by decide) (by decide) (Nat.le_of_ble_eq_true rfl) ⟨Nat.zero_le _, Nat.zero_le _⟩ dX11_can_9 rfl rfl (fun r9 w9 hq => ?_)
    obtain ⟨rfl, rfl⟩ := hq
    dsimp only [Option.toList, List.cons_append, List.nil_append]
    have l9 := b2_lt (rg (nI e) 400)
    refine rN_if_eq (tg := 26) (pq := 15) C dX11_can_12 (by decide) rfl (by omega) (fun c12 => absurd c12 (b2_1.mpr (hok.2))) (fun c12 => ?_)
    refine r_aload_n (pq := 16) C dX11_can_15 rfl rfl ?_
    refine r_getf (pq := 19) C 4 o0 rfl (by decide) (by decide +kernel) (Or.inl rfl) rfl dX11_can_16 rfl ?_
    refine r_iload_n (pq := 20) C dX11_can_19 rfl rfl ?_
    refine rN_aaldS (pq := 21) C 8 rfl rfl e5 (by omega) (by decide) (f5 p (by omega)) dX11_can_20 rfl ?_
    refine r_iload_n (pq := 22) C dX11_can_21 rfl rfl ?_
    refine rN_iald (pq := 23) C a1 (by omega) (by decide) dX11_can_22 rfl ?_
    refine r_at (a2 hp e he) ?_
    refine r_goto (tg := 27) C dX11_can_23 (by decide) ?_
    refine r_iret C D rfl ⟨Nat.le_refl _, Nat.le_refl _⟩ dX11_can_27 ?_
    refine ⟨?_, fun _ _ => rfl, B, rfl, hN⟩
    unfold rs_can
    rw [if_pos hok, tn_nI (by omega), tn_nI (by omega)]
  · have hbad := hok
    refine r_aload_n (pq := 1) C dX11_can_0 rfl rfl ?_
    refine r_iload_n (pq := 2) C dX11_can_1 rfl rfl ?_
    refine r_callV (pq := 5) C (mc_X11_isPerson hI1 o0) o0 rfl gX11_can_X11_isPerson rfl (na := 1) (by decide +kernel) rfl (by decide) (by decide) (Nat.le_of_ble_eq_true rfl) ⟨Nat.zero_le _, Nat.zero_le _⟩ dX11_can_2 rfl rfl (fun r9 w9 hq => ?_)
    obtain ⟨rfl, rfl⟩ := hq
    dsimp only [Option.toList, List.cons_append, List.nil_append]
    have l2 := b2_lt (rg x (s.1 1))
    refine rN_if_eq (tg := 26) (pq := 8) C dX11_can_5 (by decide) rfl (by omega) (fun c5 => ?_) (fun c5 => ?_)
    · refine r_iconst (v := (-1)) (pq := 27) C dX11_can_26 (by decide) rfl ?_
      refine r_iret C D rfl ⟨Nat.le_refl _, Nat.le_refl _⟩ dX11_can_27 ?_
      refine ⟨?_, fun _ _ => rfl, B, rfl, ?_⟩
      · unfold rs_can
        rw [if_neg hbad]
      · exact hN
    · refine r_iload_n (pq := 9) C dX11_can_8 rfl rfl ?_
      refine r_callS (pq := 12) C (mc_X11_isDay) gX11_can_X11_isDay rfl (na := 1) (by decide +kernel) rfl (by decide) (by decide) (Nat.le_of_ble_eq_true rfl) ⟨Nat.zero_le _, Nat.zero_le _⟩ dX11_can_9 rfl rfl (fun r9 w9 hq => ?_)
      obtain ⟨rfl, rfl⟩ := hq
      dsimp only [Option.toList, List.cons_append, List.nil_append]
      have l9 := b2_lt (rg y 400)
      refine rN_if_eq (tg := 26) (pq := 15) C dX11_can_12 (by decide) rfl (by omega) (fun c12 => ?_) (fun c12 => ?_)
      · refine r_iconst (v := (-1)) (pq := 27) C dX11_can_26 (by decide) rfl ?_
        refine r_iret C D rfl ⟨Nat.le_refl _, Nat.le_refl _⟩ dX11_can_27 ?_
        refine ⟨?_, fun _ _ => rfl, B, rfl, ?_⟩
        · unfold rs_can
          rw [if_neg hbad]
        · exact hN
      · exact absurd ⟨b2_1.mp c5, b2_1.mp c12⟩ hbad


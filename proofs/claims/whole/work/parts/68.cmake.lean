/-! ===== the class's calls: make, copy, weight ===== -/
set_option maxHeartbeats 4000000 in
set_option maxRecDepth 100000 in
/-- make -/
theorem mc_X11_make {l : Launch} {E : EV} {w : RW} {B : Nat → Nat} {s : ST} (hS : SI s) (hN : NS E B s w) {x y z : Int32} : MC l E yX11_make wsX11_make 3 2 62 [.ref (B 0), .int x, .int y, .int z] (w) (nP E B w (rs_make x y z) (nx_make s x y z)) := by
  refine MC.enter (cc := cX11_make) (maxL := 4) (ret := (some .int)) (lv0 := [some (.ref (B 0)), some (.int x), some (.int y), some (.int z)]) (by decide) rfl (by simp [Value.category]) (Nat.le_of_ble_eq_true rfl) rfl ?_
  intro X hl hE C D
  subst hl
  subst hE
  have hI1 : s.1 1 ≤ 6 := hS.2.1
  have hI5 : s.1 5 ≤ 80 := hS.2.2.1
  have hI16 : s.1 16 ≤ 12 := hS.2.2.2.1
  have hNN := hN
  obtain ⟨o0, ⟨u1, e1, f1⟩, ⟨u2, e2, f2⟩, ⟨u3, e3, f3⟩, ⟨u5, e5, f5⟩, ⟨u6, e6, f6⟩, ⟨u8, e8, f8⟩, ⟨u10, e10, f10⟩, ⟨u11, e11, f11⟩, ⟨u13, e13, f13⟩, ⟨u14, e14, f14⟩, ⟨u15, e15⟩, ⟨u16, e16⟩, h20, h30, h100, h200, h220, h240, h300, h310⟩ := hNN
  by_cases hok : okMake x y z
  · by_cases hz : z.toInt < 0
    · skip
      refine r_iload_n (pq := 1) C dX11_make_0 rfl rfl ?_
      refine r_callS (pq := 4) C (mc_X11_isShelf) gX11_make_X11_isShelf rfl (na := 1) (by decide +kernel) rfl (by decide) (by decide) (Nat.le_of_ble_eq_true rfl) ⟨by rw [D.2.2.2.1]; decide, by rw [D.2.2.2.2.1]; omega⟩ dX11_make_1 rfl rfl (fun r9 w hq => ?_)
      obtain ⟨rfl, rfl⟩ := hq
      dsimp only [Option.toList, List.cons_append, List.nil_append]
      have l1 := b2_lt (rg x 8)
      refine rN_if_eq (tg := 23) (pq := 7) C dX11_make_4 (by decide) rfl (by omega) (fun c4 => absurd c4 (b2_1.mpr hok.1)) (fun c4 => ?_)
      refine r_iload_n (pq := 8) C dX11_make_7 rfl rfl ?_
      refine r_iconst (v := nI 3) (pq := 9) C dX11_make_8 (by decide) rfl ?_
      refine r_icmp_eq (tg := 17) (pq := 12) C dX11_make_9 (by decide) rfl (fun c9 => ?_) (fun c9 => ?_)
      · refine r_iload_n (pq := 18) C dX11_make_17 rfl rfl ?_
        refine r_bipush (v := nI 60) (pq := 20) C dX11_make_18 (by decide) rfl ?_
        refine r_icmp_le (tg := 25) (pq := 23) C dX11_make_20 (by decide) rfl (fun c20 => ?_) (fun c20 => absurd (show z ≤ nI 60 by rw [le_i, nI_toInt (by omega)]; exact hok.2.2) c20)
        refine r_iload_n (pq := 26) C dX11_make_25 rfl rfl ?_
        refine r_if_ge (tg := 32) (pq := 29) C dX11_make_26 (by decide) rfl (fun c26 => absurd c26 (by rw [le_i]; have e0 : (0 : Int32).toInt = 0 := rfl; omega)) (fun c26 => ?_)
        refine r_bipush (v := (-14)) (pq := 31) C dX11_make_29 (by decide) rfl ?_
        refine r_iret C D rfl ⟨Nat.zero_le _, Nat.zero_le _⟩ dX11_make_31 ?_
        refine ⟨?_, fun _ _ => rfl, B, rfl, ?_⟩
        · unfold rs_make
          rw [if_pos hok, if_pos hz]
        · unfold nx_make
          rw [if_neg (fun h => by have := h.2; omega)]
          exact hN
      · refine r_iload_n (pq := 13) C dX11_make_12 rfl rfl ?_
        refine r_iconst (v := nI 4) (pq := 14) C dX11_make_13 (by decide) rfl ?_
        refine r_icmp_ne (tg := 23) (pq := 17) C dX11_make_14 (by decide) rfl (fun c14 => absurd (hok.2.1.resolve_left c9) c14) (fun c14 => ?_)
        refine r_iload_n (pq := 18) C dX11_make_17 rfl rfl ?_
        refine r_bipush (v := nI 60) (pq := 20) C dX11_make_18 (by decide) rfl ?_
        refine r_icmp_le (tg := 25) (pq := 23) C dX11_make_20 (by decide) rfl (fun c20 => ?_) (fun c20 => absurd (show z ≤ nI 60 by rw [le_i, nI_toInt (by omega)]; exact hok.2.2) c20)
        refine r_iload_n (pq := 26) C dX11_make_25 rfl rfl ?_
        refine r_if_ge (tg := 32) (pq := 29) C dX11_make_26 (by decide) rfl (fun c26 => absurd c26 (by rw [le_i]; have e0 : (0 : Int32).toInt = 0 := rfl; omega)) (fun c26 => ?_)
        refine r_bipush (v := (-14)) (pq := 31) C dX11_make_29 (by decide) rfl ?_
        refine r_iret C D rfl ⟨Nat.zero_le _, Nat.zero_le _⟩ dX11_make_31 ?_
        refine ⟨?_, fun _ _ => rfl, B, rfl, ?_⟩
        · unfold rs_make
          rw [if_pos hok, if_pos hz]
        · unfold nx_make
          rw [if_neg (fun h => by have := h.2; omega)]
          exact hN
    · obtain ⟨d9, hd9, rfl⟩ := rg_of hok.1 (by omega)
      obtain ⟨n9, hn1, hn2, rfl⟩ := in_of (a := 0) (b := 60) (x := z) ⟨by omega, hok.2.2⟩ (by omega)
      rcases (show y = nI 3 ∨ y = nI 4 from hok.2.1) with rfl | rfl
      · have hok : okMake (nI d9) (nI 3) (nI n9) := hok
        refine r_iload_n (pq := 1) C dX11_make_0 rfl rfl ?_
        refine r_callS (pq := 4) C (mc_X11_isShelf) gX11_make_X11_isShelf rfl (na := 1) (by decide +kernel) rfl (by decide) (by decide) (Nat.le_of_ble_eq_true rfl) ⟨by rw [D.2.2.2.1]; decide, by rw [D.2.2.2.2.1]; omega⟩ dX11_make_1 rfl rfl (fun r9 w hq => ?_)
        obtain ⟨rfl, rfl⟩ := hq
        dsimp only [Option.toList, List.cons_append, List.nil_append]
        have l1 := b2_lt (rg (nI d9) 8)
        refine rN_if_eq (tg := 23) (pq := 7) C dX11_make_4 (by decide) rfl (by omega) (fun c4 => absurd c4 (b2_1.mpr hok.1)) (fun c4 => ?_)
        refine r_iload_n (pq := 8) C dX11_make_7 rfl rfl ?_
        refine r_iconst (v := nI 3) (pq := 9) C dX11_make_8 (by decide) rfl ?_
        refine rN_icmp_eq (tg := 17) (pq := 12) C dX11_make_9 (by decide) rfl (by omega) (by omega) (fun c9 => ?_) (fun c9 => absurd rfl c9)
        refine r_iload_n (pq := 18) C dX11_make_17 rfl rfl ?_
        refine r_bipush (v := nI 60) (pq := 20) C dX11_make_18 (by decide) rfl ?_
        refine rN_icmp_le (tg := 25) (pq := 23) C dX11_make_20 (by decide) rfl (by omega) (by omega) (fun c20 => ?_) (fun c20 => absurd c20 (by omega))
        refine r_iload_n (pq := 26) C dX11_make_25 rfl rfl ?_
        refine rN_if_ge (tg := 32) (pq := 29) C dX11_make_26 (by decide) rfl (by omega) ?_
        refine r_aload_n (pq := 33) C dX11_make_32 rfl rfl ?_
        refine r_getf (pq := 36) C 12 o0 rfl (by decide) (by decide +kernel) (Or.inl rfl) rfl dX11_make_33 rfl ?_
        refine r_iload_n (pq := 37) C dX11_make_36 rfl rfl ?_
        refine r_new (pq := 40) C (N := 2) (ci := 5) (300 + d9) rfl tyX4 tyX4_ok (by decide +kernel) (by decide +kernel) (by decide +kernel) (fs := [.int 0, .null]) (by intro j hj; rcases (by omega : j = 0 ∨ j = 1) with e | e <;> subst e <;> rfl) (by rw [D.2.2.2.1]; decide) (by rw [D.2.2.2.2.1]; decide) dX11_make_37 rfl (fun a => ?_)
        refine r_dup (pq := 41) C dX11_make_40 rfl rfl ?_
        refine r_iload_n (pq := 42) C dX11_make_41 rfl rfl ?_
        refine r_iconst (v := nI 4) (pq := 43) C dX11_make_42 (by decide) rfl ?_
        refine rN_icmp_ne (tg := 50) (pq := 46) C dX11_make_43 (by decide) rfl (by omega) (by omega) (fun c43 => ?_) (fun c43 => absurd c43 (by decide))
        refine r_iconst (v := nI 0) (pq := 51) C dX11_make_50 (by decide) rfl ?_
        refine r_iload_n (pq := 52) C dX11_make_51 rfl rfl ?_
        refine r_callI (pq := 55) C (mc_X4_init (r := 300 + d9) (rc := 310 + d9) (by decide) (by omega) (by omega) (va_s _ _ _)) gX11_make_X4_init rfl (by decide +kernel) (by decide +kernel) (by decide +kernel) (na := 2) (by decide +kernel) rfl (by decide) (by decide) (Nat.le_of_ble_eq_true rfl) ⟨by rw [D.2.2.2.1]; decide, by rw [D.2.2.2.2.1]; omega⟩ dX11_make_52 rfl rfl (fun r9 w9 hq => ?_)
        obtain ⟨rfl, q, k1, k2, k3⟩ := hq
        dsimp only [Option.toList, List.cons_append, List.nil_append]
        refine rN_aast (pq := 56) C 6 rfl ((k3 13 (by omega) (by omega)).trans ((va_n _ _ (by omega)).trans e13)) (any_of C k1 rfl (Or.inr (by decide +kernel))) (by omega) (by decide) dX11_make_55 rfl ?_
        refine r_iconst (v := nI 0) (pq := 57) C dX11_make_56 (by decide) rfl ?_
        refine r_iret C D rfl ⟨Nat.le_of_ble_eq_true rfl, by omega⟩ dX11_make_57 ?_
        have hBj : ∀ r, r ≠ 300 + d9 → r ≠ 310 + d9 → (va_up (va_up B (300 + d9) a) (310 + d9) q) r = B r := fun r z1 z2 => by rw [va_n _ _ z2, va_n _ _ z1]
        have bR : (va_up (va_up B (300 + d9) a) (310 + d9) q) (300 + d9) = a := by rw [va_n _ _ (by omega), va_s]
        have bC : (va_up (va_up B (300 + d9) a) (310 + d9) q) (310 + d9) = q := va_s _ _ _
        refine ⟨?_, fun z1 hz1 => (va_n _ _ (by omega)).trans ((k3 z1 (by omega) (by omega)).trans (va_n _ _ (by omega))), (va_up (va_up B (300 + d9) a) (310 + d9) q), hBj 0 (by omega) (by omega), ?_⟩
        · unfold rs_make
          rw [if_pos hok, if_neg (by omega)]
          rfl
        · unfold nx_make
          rw [if_pos ⟨hok, by omega⟩, tn_nI (show d9 < 2147483648 by omega), tn_nI (show 3 < 2147483648 by decide), tn_nI (show n9 < 2147483648 by omega)]
          refine ⟨?_, ?_, ?_, ?_, ?_, ?_, ?_, ?_, ?_, ?_, ?_, ?_, ?_, ?_, ?_, ?_, ?_, ?_, ?_, ?_, ?_⟩
          · rw [hBj 0 (by omega) (by omega)]
            refine (((va_n _ _ (by omega)).trans ((k3 0 (by omega) (by omega)).trans (va_n _ _ (by omega)))).trans o0).trans ?_
            unfold nFs
            rw [hBj 1 (by omega) (by omega), hBj 2 (by omega) (by omega), hBj 3 (by omega) (by omega), hBj 5 (by omega) (by omega), hBj 6 (by omega) (by omega), hBj 8 (by omega) (by omega), hBj 10 (by omega) (by omega), hBj 11 (by omega) (by omega), hBj 13 (by omega) (by omega), hBj 14 (by omega) (by omega), hBj 15 (by omega) (by omega), hBj 16 (by omega) (by omega)]
            rfl
          · rw [hBj 1 (by omega) (by omega)]
            exact ⟨u1, ((va_n _ _ (by omega)).trans ((k3 1 (by omega) (by omega)).trans (va_n _ _ (by omega)))).trans e1, f1⟩
          · rw [hBj 2 (by omega) (by omega)]
            exact ⟨u2, ((va_n _ _ (by omega)).trans ((k3 2 (by omega) (by omega)).trans (va_n _ _ (by omega)))).trans e2, f2⟩
          · rw [hBj 3 (by omega) (by omega)]
            exact ⟨u3, ((va_n _ _ (by omega)).trans ((k3 3 (by omega) (by omega)).trans (va_n _ _ (by omega)))).trans e3, f3⟩
          · rw [hBj 5 (by omega) (by omega)]
            refine ⟨u5, ((va_n _ _ (by omega)).trans ((k3 5 (by omega) (by omega)).trans (va_n _ _ (by omega)))).trans e5, fun x hx => ?_⟩
            rw [hBj (20 + x) (by omega) (by omega)]
            exact f5 x hx
          · rw [hBj 6 (by omega) (by omega)]
            refine ⟨u6, ((va_n _ _ (by omega)).trans ((k3 6 (by omega) (by omega)).trans (va_n _ _ (by omega)))).trans e6, fun x hx => ?_⟩
            have hx9 : x < s.1 5 := hx
            rw [hBj (100 + x) (by omega) (by omega)]
            exact f6 x hx
          · rw [hBj 8 (by omega) (by omega)]
            refine ⟨u8, ((va_n _ _ (by omega)).trans ((k3 8 (by omega) (by omega)).trans (va_n _ _ (by omega)))).trans e8, fun x hx => ?_⟩
            have hx9 : x < s.1 16 := hx
            rw [hBj (200 + x) (by omega) (by omega)]
            exact f8 x hx
          · rw [hBj 10 (by omega) (by omega)]
            exact ⟨u10, ((va_n _ _ (by omega)).trans ((k3 10 (by omega) (by omega)).trans (va_n _ _ (by omega)))).trans e10, f10⟩
          · rw [hBj 11 (by omega) (by omega)]
            exact ⟨u11, ((va_n _ _ (by omega)).trans ((k3 11 (by omega) (by omega)).trans (va_n _ _ (by omega)))).trans e11, f11⟩
          · rw [hBj 13 (by omega) (by omega)]
            refine ⟨_, (va_s _ _ _), fun d hd => ?_⟩
            by_cases e : d = d9
            · subst e
              rw [va_s]
              unfold shl
              have q1 : (upf (upf s.2.1 24 d 3) 26 d n9) 24 d = 3 := by rw [upf_o _ _ (by decide), upf_s]
              show some a = if (upf (upf s.2.1 24 d 3) 26 d n9) 24 d = 0 then none else if (upf (upf s.2.1 24 d 3) 26 d n9) 24 d = 1 then _ else if (upf (upf s.2.1 24 d 3) 26 d n9) 24 d = 2 then _ else some ((va_up (va_up B (300 + d) a) (310 + d) q) (300 + d))
              rw [q1, if_neg (by decide), if_neg (by decide), if_neg (by decide), va_n _ _ (by omega), va_s]
            · rw [va_n _ _ e, f13 d hd]
              have z9 := hS.sh hd
              exact (shl_to (by show (upf (upf s.2.1 24 d9 3) 26 d9 n9) 24 d = _; rw [upf_o _ _ (by decide), upf_n _ _ e]) (by show (rowg s.2.2 d9 n9 (fun _ => 0)) 25 d = _; unfold rowg; rw [va_n _ _ (by decide)]) (fun h => hBj _ (by have := z9.2.1 h; omega) (by have := z9.2.1 h; omega)) (fun h => hBj _ (by have := z9.2.2.1 h; omega) (by have := z9.2.2.1 h; omega)) (hBj _ (by omega) (by omega))).symm
          · rw [hBj 14 (by omega) (by omega)]
            refine ⟨u14, ((va_n _ _ (by omega)).trans ((k3 14 (by omega) (by omega)).trans (va_n _ _ (by omega)))).trans e14, fun x hx => ?_⟩
            rw [hBj (30 + x) (by omega) (by omega)]
            exact f14 x hx
          · rw [hBj 15 (by omega) (by omega)]
            exact ⟨u15, ((va_n _ _ (by omega)).trans ((k3 15 (by omega) (by omega)).trans (va_n _ _ (by omega)))).trans e15⟩
          · rw [hBj 16 (by omega) (by omega)]
            exact ⟨u16, ((va_n _ _ (by omega)).trans ((k3 16 (by omega) (by omega)).trans (va_n _ _ (by omega)))).trans e16⟩
          · intro p hp
            obtain ⟨h9, a1, a2⟩ := h20 p hp
            rw [hBj _ (by omega) (by omega)]
            refine ⟨h9, ((va_n _ _ (by omega)).trans ((k3 _ (by omega) (by omega)).trans (va_n _ _ (by omega)))).trans a1, fun z d hd => ?_⟩
            rw [a2 z d hd]
            exact congrArg nI (cn_congr (f := s.2.1) (f' := (upf (upf s.2.1 24 d9 3) 26 d9 n9)) (fun k z1 z2 => by rw [upf_o _ _ (by omega), upf_o _ _ (by omega)]) (s.1 5) p d).symm
          · intro l hl
            obtain ⟨x, y, a1⟩ := h30 l hl
            rw [hBj (30 + l) (by omega) (by omega)]
            exact ⟨x, y, ((va_n _ _ (by omega)).trans ((k3 (30 + l) (by omega) (by omega)).trans (va_n _ _ (by omega)))).trans a1⟩
          · intro m hm
            have hm9 : m < s.1 5 := hm
            rw [hBj (100 + m) (by omega) (by omega)]
            exact ((va_n _ _ (by omega)).trans ((k3 (100 + m) (by omega) (by omega)).trans (va_n _ _ (by omega)))).trans (h100 m hm)
          · intro j hj
            have hj9 : j < s.1 16 := hj
            obtain ⟨z, a1⟩ := h200 j hj
            rw [hBj (200 + j) (by omega) (by omega), hBj (220 + j) (by omega) (by omega), hBj (240 + j) (by omega) (by omega)]
            exact ⟨z, ((va_n _ _ (by omega)).trans ((k3 (200 + j) (by omega) (by omega)).trans (va_n _ _ (by omega)))).trans a1⟩
          · intro j hj
            have hj9 : j < s.1 16 := hj
            obtain ⟨x, y, a1⟩ := h220 j hj
            rw [hBj (220 + j) (by omega) (by omega)]
            exact ⟨x, y, ((va_n _ _ (by omega)).trans ((k3 (220 + j) (by omega) (by omega)).trans (va_n _ _ (by omega)))).trans a1⟩
          · intro j hj
            have hj9 : j < s.1 16 := hj
            obtain ⟨x, y, a1⟩ := h240 j hj
            rw [hBj (240 + j) (by omega) (by omega)]
            exact ⟨x, y, ((va_n _ _ (by omega)).trans ((k3 (240 + j) (by omega) (by omega)).trans (va_n _ _ (by omega)))).trans a1⟩
          · intro d hd h3
            by_cases e : d = d9
            · subst e
              have q1 : (upf (upf s.2.1 24 d 3) 26 d n9) 24 d = 3 := by rw [upf_o _ _ (by decide), upf_s]
              show _ = some (_, Sum.inr (5, [Value.int (nI ((upf (upf s.2.1 24 d 3) 26 d n9) 24 d - 3)), _]))
              rw [q1, bR, bC]
              exact (va_n _ _ (by omega)).trans k1
            · have h4 : (upf (upf s.2.1 24 d9 3) 26 d9 n9) 24 d = s.2.1 24 d := by rw [upf_o _ _ (by decide), upf_n _ _ e]
              have h5 : 3 ≤ s.2.1 24 d := by rw [← h4]; exact h3
              show _ = some (_, Sum.inr (5, [Value.int (nI ((upf (upf s.2.1 24 d9 3) 26 d9 n9) 24 d - 3)), _]))
              rw [h4, hBj _ (by omega) (by omega), hBj _ (by omega) (by omega)]
              exact ((va_n _ _ (by omega)).trans ((k3 _ (by omega) (by omega)).trans (va_n _ _ (by omega)))).trans (h300 d hd h5)
          · intro d hd h3
            by_cases e : d = d9
            · subst e
              have q1 : (upf (upf s.2.1 24 d 3) 26 d n9) 26 d = n9 := upf_s _ _ _ _
              rw [bC]
              show ∃ h : Nat → Int32, _ = sA (xE X) _ ((upf (upf s.2.1 24 d 3) 26 d n9) 26 d) h ∧ ∀ i, i < (upf (upf s.2.1 24 d 3) 26 d n9) 26 d → h i = (rowg s.2.2 d n9 (fun _ => 0)) 27 (400 * d + i) ∧ fits .short (.int (h i)) = true
              rw [q1]
              refine ⟨_, (va_n _ _ (by omega)).trans k2, fun i hi => ⟨?_, rfl⟩⟩
              unfold rowg
              rw [va_s, if_pos (by omega)]
            · have h4 : (upf (upf s.2.1 24 d9 3) 26 d9 n9) 24 d = s.2.1 24 d := by rw [upf_o _ _ (by decide), upf_n _ _ e]
              have h6 : (upf (upf s.2.1 24 d9 3) 26 d9 n9) 26 d = s.2.1 26 d := by rw [upf_n _ _ e, upf_o _ _ (by decide)]
              obtain ⟨h8, a1, a2⟩ := h310 d hd (by rw [← h4]; exact h3)
              have z9 := hS.sh hd
              rw [hBj _ (by omega) (by omega)]
              show ∃ h : Nat → Int32, _ = sA (xE X) _ ((upf (upf s.2.1 24 d9 3) 26 d9 n9) 26 d) h ∧ ∀ i, i < (upf (upf s.2.1 24 d9 3) 26 d9 n9) 26 d → h i = (rowg s.2.2 d9 n9 (fun _ => 0)) 27 (400 * d + i) ∧ fits .short (.int (h i)) = true
              rw [h6]
              refine ⟨h8, ((va_n _ _ (by omega)).trans ((k3 _ (by omega) (by omega)).trans (va_n _ _ (by omega)))).trans a1, fun i hi => ?_⟩
              unfold rowg
              rw [va_s, if_neg (by omega)]
              exact a2 i hi
      · have hok : okMake (nI d9) (nI 4) (nI n9) := hok
        refine r_iload_n (pq := 1) C dX11_make_0 rfl rfl ?_
        refine r_callS (pq := 4) C (mc_X11_isShelf) gX11_make_X11_isShelf rfl (na := 1) (by decide +kernel) rfl (by decide) (by decide) (Nat.le_of_ble_eq_true rfl) ⟨by rw [D.2.2.2.1]; decide, by rw [D.2.2.2.2.1]; omega⟩ dX11_make_1 rfl rfl (fun r9 w hq => ?_)
        obtain ⟨rfl, rfl⟩ := hq
        dsimp only [Option.toList, List.cons_append, List.nil_append]
        have l1 := b2_lt (rg (nI d9) 8)
        refine rN_if_eq (tg := 23) (pq := 7) C dX11_make_4 (by decide) rfl (by omega) (fun c4 => absurd c4 (b2_1.mpr hok.1)) (fun c4 => ?_)
        refine r_iload_n (pq := 8) C dX11_make_7 rfl rfl ?_
        refine r_iconst (v := nI 3) (pq := 9) C dX11_make_8 (by decide) rfl ?_
        refine rN_icmp_eq (tg := 17) (pq := 12) C dX11_make_9 (by decide) rfl (by omega) (by omega) (fun c9 => absurd c9 (by decide)) (fun c9 => ?_)
        refine r_iload_n (pq := 13) C dX11_make_12 rfl rfl ?_
        refine r_iconst (v := nI 4) (pq := 14) C dX11_make_13 (by decide) rfl ?_
        refine rN_icmp_ne (tg := 23) (pq := 17) C dX11_make_14 (by decide) rfl (by omega) (by omega) (fun c14 => absurd rfl c14) (fun c14 => ?_)
        refine r_iload_n (pq := 18) C dX11_make_17 rfl rfl ?_
        refine r_bipush (v := nI 60) (pq := 20) C dX11_make_18 (by decide) rfl ?_
        refine rN_icmp_le (tg := 25) (pq := 23) C dX11_make_20 (by decide) rfl (by omega) (by omega) (fun c20 => ?_) (fun c20 => absurd c20 (by omega))
        refine r_iload_n (pq := 26) C dX11_make_25 rfl rfl ?_
        refine rN_if_ge (tg := 32) (pq := 29) C dX11_make_26 (by decide) rfl (by omega) ?_
        refine r_aload_n (pq := 33) C dX11_make_32 rfl rfl ?_
        refine r_getf (pq := 36) C 12 o0 rfl (by decide) (by decide +kernel) (Or.inl rfl) rfl dX11_make_33 rfl ?_
        refine r_iload_n (pq := 37) C dX11_make_36 rfl rfl ?_
        refine r_new (pq := 40) C (N := 2) (ci := 5) (300 + d9) rfl tyX4 tyX4_ok (by decide +kernel) (by decide +kernel) (by decide +kernel) (fs := [.int 0, .null]) (by intro j hj; rcases (by omega : j = 0 ∨ j = 1) with e | e <;> subst e <;> rfl) (by rw [D.2.2.2.1]; decide) (by rw [D.2.2.2.2.1]; decide) dX11_make_37 rfl (fun a => ?_)
        refine r_dup (pq := 41) C dX11_make_40 rfl rfl ?_
        refine r_iload_n (pq := 42) C dX11_make_41 rfl rfl ?_
        refine r_iconst (v := nI 4) (pq := 43) C dX11_make_42 (by decide) rfl ?_
        refine rN_icmp_ne (tg := 50) (pq := 46) C dX11_make_43 (by decide) rfl (by omega) (by omega) (fun c43 => absurd rfl c43) (fun c43 => ?_)
        refine r_iconst (v := nI 1) (pq := 47) C dX11_make_46 (by decide) rfl ?_
        refine r_goto (tg := 51) C dX11_make_47 (by decide) ?_
        refine r_iload_n (pq := 52) C dX11_make_51 rfl rfl ?_
        refine r_callI (pq := 55) C (mc_X4_init (r := 300 + d9) (rc := 310 + d9) (by decide) (by omega) (by omega) (va_s _ _ _)) gX11_make_X4_init rfl (by decide +kernel) (by decide +kernel) (by decide +kernel) (na := 2) (by decide +kernel) rfl (by decide) (by decide) (Nat.le_of_ble_eq_true rfl) ⟨by rw [D.2.2.2.1]; decide, by rw [D.2.2.2.2.1]; omega⟩ dX11_make_52 rfl rfl (fun r9 w9 hq => ?_)
        obtain ⟨rfl, q, k1, k2, k3⟩ := hq
        dsimp only [Option.toList, List.cons_append, List.nil_append]
        refine rN_aast (pq := 56) C 6 rfl ((k3 13 (by omega) (by omega)).trans ((va_n _ _ (by omega)).trans e13)) (any_of C k1 rfl (Or.inr (by decide +kernel))) (by omega) (by decide) dX11_make_55 rfl ?_
        refine r_iconst (v := nI 0) (pq := 57) C dX11_make_56 (by decide) rfl ?_
        refine r_iret C D rfl ⟨Nat.le_of_ble_eq_true rfl, by omega⟩ dX11_make_57 ?_
        have hBj : ∀ r, r ≠ 300 + d9 → r ≠ 310 + d9 → (va_up (va_up B (300 + d9) a) (310 + d9) q) r = B r := fun r z1 z2 => by rw [va_n _ _ z2, va_n _ _ z1]
        have bR : (va_up (va_up B (300 + d9) a) (310 + d9) q) (300 + d9) = a := by rw [va_n _ _ (by omega), va_s]
        have bC : (va_up (va_up B (300 + d9) a) (310 + d9) q) (310 + d9) = q := va_s _ _ _
        refine ⟨?_, fun z1 hz1 => (va_n _ _ (by omega)).trans ((k3 z1 (by omega) (by omega)).trans (va_n _ _ (by omega))), (va_up (va_up B (300 + d9) a) (310 + d9) q), hBj 0 (by omega) (by omega), ?_⟩
        · unfold rs_make
          rw [if_pos hok, if_neg (by omega)]
          rfl
        · unfold nx_make
          rw [if_pos ⟨hok, by omega⟩, tn_nI (show d9 < 2147483648 by omega), tn_nI (show 4 < 2147483648 by decide), tn_nI (show n9 < 2147483648 by omega)]
          refine ⟨?_, ?_, ?_, ?_, ?_, ?_, ?_, ?_, ?_, ?_, ?_, ?_, ?_, ?_, ?_, ?_, ?_, ?_, ?_, ?_, ?_⟩
          · rw [hBj 0 (by omega) (by omega)]
            refine (((va_n _ _ (by omega)).trans ((k3 0 (by omega) (by omega)).trans (va_n _ _ (by omega)))).trans o0).trans ?_
            unfold nFs
            rw [hBj 1 (by omega) (by omega), hBj 2 (by omega) (by omega), hBj 3 (by omega) (by omega), hBj 5 (by omega) (by omega), hBj 6 (by omega) (by omega), hBj 8 (by omega) (by omega), hBj 10 (by omega) (by omega), hBj 11 (by omega) (by omega), hBj 13 (by omega) (by omega), hBj 14 (by omega) (by omega), hBj 15 (by omega) (by omega), hBj 16 (by omega) (by omega)]
            rfl
          · rw [hBj 1 (by omega) (by omega)]
            exact ⟨u1, ((va_n _ _ (by omega)).trans ((k3 1 (by omega) (by omega)).trans (va_n _ _ (by omega)))).trans e1, f1⟩
          · rw [hBj 2 (by omega) (by omega)]
            exact ⟨u2, ((va_n _ _ (by omega)).trans ((k3 2 (by omega) (by omega)).trans (va_n _ _ (by omega)))).trans e2, f2⟩
          · rw [hBj 3 (by omega) (by omega)]
            exact ⟨u3, ((va_n _ _ (by omega)).trans ((k3 3 (by omega) (by omega)).trans (va_n _ _ (by omega)))).trans e3, f3⟩
          · rw [hBj 5 (by omega) (by omega)]
            refine ⟨u5, ((va_n _ _ (by omega)).trans ((k3 5 (by omega) (by omega)).trans (va_n _ _ (by omega)))).trans e5, fun x hx => ?_⟩
            rw [hBj (20 + x) (by omega) (by omega)]
            exact f5 x hx
          · rw [hBj 6 (by omega) (by omega)]
            refine ⟨u6, ((va_n _ _ (by omega)).trans ((k3 6 (by omega) (by omega)).trans (va_n _ _ (by omega)))).trans e6, fun x hx => ?_⟩
            have hx9 : x < s.1 5 := hx
            rw [hBj (100 + x) (by omega) (by omega)]
            exact f6 x hx
          · rw [hBj 8 (by omega) (by omega)]
            refine ⟨u8, ((va_n _ _ (by omega)).trans ((k3 8 (by omega) (by omega)).trans (va_n _ _ (by omega)))).trans e8, fun x hx => ?_⟩
            have hx9 : x < s.1 16 := hx
            rw [hBj (200 + x) (by omega) (by omega)]
            exact f8 x hx
          · rw [hBj 10 (by omega) (by omega)]
            exact ⟨u10, ((va_n _ _ (by omega)).trans ((k3 10 (by omega) (by omega)).trans (va_n _ _ (by omega)))).trans e10, f10⟩
          · rw [hBj 11 (by omega) (by omega)]
            exact ⟨u11, ((va_n _ _ (by omega)).trans ((k3 11 (by omega) (by omega)).trans (va_n _ _ (by omega)))).trans e11, f11⟩
          · rw [hBj 13 (by omega) (by omega)]
            refine ⟨_, (va_s _ _ _), fun d hd => ?_⟩
            by_cases e : d = d9
            · subst e
              rw [va_s]
              unfold shl
              have q1 : (upf (upf s.2.1 24 d 4) 26 d n9) 24 d = 4 := by rw [upf_o _ _ (by decide), upf_s]
              show some a = if (upf (upf s.2.1 24 d 4) 26 d n9) 24 d = 0 then none else if (upf (upf s.2.1 24 d 4) 26 d n9) 24 d = 1 then _ else if (upf (upf s.2.1 24 d 4) 26 d n9) 24 d = 2 then _ else some ((va_up (va_up B (300 + d) a) (310 + d) q) (300 + d))
              rw [q1, if_neg (by decide), if_neg (by decide), if_neg (by decide), va_n _ _ (by omega), va_s]
            · rw [va_n _ _ e, f13 d hd]
              have z9 := hS.sh hd
              exact (shl_to (by show (upf (upf s.2.1 24 d9 4) 26 d9 n9) 24 d = _; rw [upf_o _ _ (by decide), upf_n _ _ e]) (by show (rowg s.2.2 d9 n9 (fun _ => 0)) 25 d = _; unfold rowg; rw [va_n _ _ (by decide)]) (fun h => hBj _ (by have := z9.2.1 h; omega) (by have := z9.2.1 h; omega)) (fun h => hBj _ (by have := z9.2.2.1 h; omega) (by have := z9.2.2.1 h; omega)) (hBj _ (by omega) (by omega))).symm
          · rw [hBj 14 (by omega) (by omega)]
            refine ⟨u14, ((va_n _ _ (by omega)).trans ((k3 14 (by omega) (by omega)).trans (va_n _ _ (by omega)))).trans e14, fun x hx => ?_⟩
            rw [hBj (30 + x) (by omega) (by omega)]
            exact f14 x hx
          · rw [hBj 15 (by omega) (by omega)]
            exact ⟨u15, ((va_n _ _ (by omega)).trans ((k3 15 (by omega) (by omega)).trans (va_n _ _ (by omega)))).trans e15⟩
          · rw [hBj 16 (by omega) (by omega)]
            exact ⟨u16, ((va_n _ _ (by omega)).trans ((k3 16 (by omega) (by omega)).trans (va_n _ _ (by omega)))).trans e16⟩
          · intro p hp
            obtain ⟨h9, a1, a2⟩ := h20 p hp
            rw [hBj _ (by omega) (by omega)]
            refine ⟨h9, ((va_n _ _ (by omega)).trans ((k3 _ (by omega) (by omega)).trans (va_n _ _ (by omega)))).trans a1, fun z d hd => ?_⟩
            rw [a2 z d hd]
            exact congrArg nI (cn_congr (f := s.2.1) (f' := (upf (upf s.2.1 24 d9 4) 26 d9 n9)) (fun k z1 z2 => by rw [upf_o _ _ (by omega), upf_o _ _ (by omega)]) (s.1 5) p d).symm
          · intro l hl
            obtain ⟨x, y, a1⟩ := h30 l hl
            rw [hBj (30 + l) (by omega) (by omega)]
            exact ⟨x, y, ((va_n _ _ (by omega)).trans ((k3 (30 + l) (by omega) (by omega)).trans (va_n _ _ (by omega)))).trans a1⟩
          · intro m hm
            have hm9 : m < s.1 5 := hm
            rw [hBj (100 + m) (by omega) (by omega)]
            exact ((va_n _ _ (by omega)).trans ((k3 (100 + m) (by omega) (by omega)).trans (va_n _ _ (by omega)))).trans (h100 m hm)
          · intro j hj
            have hj9 : j < s.1 16 := hj
            obtain ⟨z, a1⟩ := h200 j hj
            rw [hBj (200 + j) (by omega) (by omega), hBj (220 + j) (by omega) (by omega), hBj (240 + j) (by omega) (by omega)]
            exact ⟨z, ((va_n _ _ (by omega)).trans ((k3 (200 + j) (by omega) (by omega)).trans (va_n _ _ (by omega)))).trans a1⟩
          · intro j hj
            have hj9 : j < s.1 16 := hj
            obtain ⟨x, y, a1⟩ := h220 j hj
            rw [hBj (220 + j) (by omega) (by omega)]
            exact ⟨x, y, ((va_n _ _ (by omega)).trans ((k3 (220 + j) (by omega) (by omega)).trans (va_n _ _ (by omega)))).trans a1⟩
          · intro j hj
            have hj9 : j < s.1 16 := hj
            obtain ⟨x, y, a1⟩ := h240 j hj
            rw [hBj (240 + j) (by omega) (by omega)]
            exact ⟨x, y, ((va_n _ _ (by omega)).trans ((k3 (240 + j) (by omega) (by omega)).trans (va_n _ _ (by omega)))).trans a1⟩
          · intro d hd h3
            by_cases e : d = d9
            · subst e
              have q1 : (upf (upf s.2.1 24 d 4) 26 d n9) 24 d = 4 := by rw [upf_o _ _ (by decide), upf_s]
              show _ = some (_, Sum.inr (5, [Value.int (nI ((upf (upf s.2.1 24 d 4) 26 d n9) 24 d - 3)), _]))
              rw [q1, bR, bC]
              exact (va_n _ _ (by omega)).trans k1
            · have h4 : (upf (upf s.2.1 24 d9 4) 26 d9 n9) 24 d = s.2.1 24 d := by rw [upf_o _ _ (by decide), upf_n _ _ e]
              have h5 : 3 ≤ s.2.1 24 d := by rw [← h4]; exact h3
              show _ = some (_, Sum.inr (5, [Value.int (nI ((upf (upf s.2.1 24 d9 4) 26 d9 n9) 24 d - 3)), _]))
              rw [h4, hBj _ (by omega) (by omega), hBj _ (by omega) (by omega)]
              exact ((va_n _ _ (by omega)).trans ((k3 _ (by omega) (by omega)).trans (va_n _ _ (by omega)))).trans (h300 d hd h5)
          · intro d hd h3
            by_cases e : d = d9
            · subst e
              have q1 : (upf (upf s.2.1 24 d 4) 26 d n9) 26 d = n9 := upf_s _ _ _ _
              rw [bC]
              show ∃ h : Nat → Int32, _ = sA (xE X) _ ((upf (upf s.2.1 24 d 4) 26 d n9) 26 d) h ∧ ∀ i, i < (upf (upf s.2.1 24 d 4) 26 d n9) 26 d → h i = (rowg s.2.2 d n9 (fun _ => 0)) 27 (400 * d + i) ∧ fits .short (.int (h i)) = true
              rw [q1]
              refine ⟨_, (va_n _ _ (by omega)).trans k2, fun i hi => ⟨?_, rfl⟩⟩
              unfold rowg
              rw [va_s, if_pos (by omega)]
            · have h4 : (upf (upf s.2.1 24 d9 4) 26 d9 n9) 24 d = s.2.1 24 d := by rw [upf_o _ _ (by decide), upf_n _ _ e]
              have h6 : (upf (upf s.2.1 24 d9 4) 26 d9 n9) 26 d = s.2.1 26 d := by rw [upf_n _ _ e, upf_o _ _ (by decide)]
              obtain ⟨h8, a1, a2⟩ := h310 d hd (by rw [← h4]; exact h3)
              have z9 := hS.sh hd
              rw [hBj _ (by omega) (by omega)]
              show ∃ h : Nat → Int32, _ = sA (xE X) _ ((upf (upf s.2.1 24 d9 4) 26 d9 n9) 26 d) h ∧ ∀ i, i < (upf (upf s.2.1 24 d9 4) 26 d9 n9) 26 d → h i = (rowg s.2.2 d9 n9 (fun _ => 0)) 27 (400 * d + i) ∧ fits .short (.int (h i)) = true
              rw [h6]
              refine ⟨h8, ((va_n _ _ (by omega)).trans ((k3 _ (by omega) (by omega)).trans (va_n _ _ (by omega)))).trans a1, fun i hi => ?_⟩
              unfold rowg
              rw [va_s, if_neg (by omega)]
              exact a2 i hi
  · skip
    refine r_iload_n (pq := 1) C dX11_make_0 rfl rfl ?_
    refine r_callS (pq := 4) C (mc_X11_isShelf) gX11_make_X11_isShelf rfl (na := 1) (by decide +kernel) rfl (by decide) (by decide) (Nat.le_of_ble_eq_true rfl) ⟨by rw [D.2.2.2.1]; decide, by rw [D.2.2.2.2.1]; omega⟩ dX11_make_1 rfl rfl (fun r9 w hq => ?_)
    obtain ⟨rfl, rfl⟩ := hq
    dsimp only [Option.toList, List.cons_append, List.nil_append]
    have l1 := b2_lt (rg x 8)
    refine rN_if_eq (tg := 23) (pq := 7) C dX11_make_4 (by decide) rfl (by omega) (fun c4 => ?_) (fun c4 => ?_)
    · refine r_iconst (v := (-1)) (pq := 24) C dX11_make_23 (by decide) rfl ?_
      refine r_iret C D rfl ⟨Nat.zero_le _, Nat.zero_le _⟩ dX11_make_24 ?_
      refine ⟨?_, fun _ _ => rfl, B, rfl, ?_⟩
      · unfold rs_make
        rw [if_neg hok]
      · unfold nx_make
        rw [if_neg (fun h => hok h.1)]
        exact hN
    · refine r_iload_n (pq := 8) C dX11_make_7 rfl rfl ?_
      refine r_iconst (v := nI 3) (pq := 9) C dX11_make_8 (by decide) rfl ?_
      refine r_icmp_eq (tg := 17) (pq := 12) C dX11_make_9 (by decide) rfl (fun c9 => ?_) (fun c9 => ?_)
      · refine r_iload_n (pq := 18) C dX11_make_17 rfl rfl ?_
        refine r_bipush (v := nI 60) (pq := 20) C dX11_make_18 (by decide) rfl ?_
        refine r_icmp_le (tg := 25) (pq := 23) C dX11_make_20 (by decide) rfl (fun c20 => ?_) (fun c20 => ?_)
        · rw [le_i, nI_toInt (by omega)] at c20
          exact absurd ⟨b2_1.mp c4, Or.inl c9, c20⟩ hok
        · refine r_iconst (v := (-1)) (pq := 24) C dX11_make_23 (by decide) rfl ?_
          refine r_iret C D rfl ⟨Nat.zero_le _, Nat.zero_le _⟩ dX11_make_24 ?_
          refine ⟨?_, fun _ _ => rfl, B, rfl, ?_⟩
          · unfold rs_make
            rw [if_neg hok]
          · unfold nx_make
            rw [if_neg (fun h => hok h.1)]
            exact hN
      · refine r_iload_n (pq := 13) C dX11_make_12 rfl rfl ?_
        refine r_iconst (v := nI 4) (pq := 14) C dX11_make_13 (by decide) rfl ?_
        refine r_icmp_ne (tg := 23) (pq := 17) C dX11_make_14 (by decide) rfl (fun c14 => ?_) (fun c14 => ?_)
        · refine r_iconst (v := (-1)) (pq := 24) C dX11_make_23 (by decide) rfl ?_
          refine r_iret C D rfl ⟨Nat.zero_le _, Nat.zero_le _⟩ dX11_make_24 ?_
          refine ⟨?_, fun _ _ => rfl, B, rfl, ?_⟩
          · unfold rs_make
            rw [if_neg hok]
          · unfold nx_make
            rw [if_neg (fun h => hok h.1)]
            exact hN
        · refine r_iload_n (pq := 18) C dX11_make_17 rfl rfl ?_
          refine r_bipush (v := nI 60) (pq := 20) C dX11_make_18 (by decide) rfl ?_
          refine r_icmp_le (tg := 25) (pq := 23) C dX11_make_20 (by decide) rfl (fun c20 => ?_) (fun c20 => ?_)
          · rw [le_i, nI_toInt (by omega)] at c20
            exact absurd ⟨b2_1.mp c4, Or.inr c14, c20⟩ hok
          · refine r_iconst (v := (-1)) (pq := 24) C dX11_make_23 (by decide) rfl ?_
            refine r_iret C D rfl ⟨Nat.zero_le _, Nat.zero_le _⟩ dX11_make_24 ?_
            refine ⟨?_, fun _ _ => rfl, B, rfl, ?_⟩
            · unfold rs_make
              rw [if_neg hok]
            · unfold nx_make
              rw [if_neg (fun h => hok h.1)]
              exact hN

theorem shl_0 {B : Nat → Nat} {s : ST} {d : Nat} (h : s.2.1 24 d = 0) : shl B s d = none := by unfold shl; rw [if_pos h]
theorem shl_n {B : Nat → Nat} {s : ST} {d : Nat} (h : s.2.1 24 d ≠ 0) : ∃ a, shl B s d = some a := by
  unfold shl
  rw [if_neg h]
  repeat' split
  all_goals exact ⟨_, rfl⟩

set_option maxHeartbeats 4000000 in
set_option maxRecDepth 100000 in
/-- copy -/
theorem mc_X11_copy {l : Launch} {E : EV} {w : RW} {B : Nat → Nat} {s : ST} (hS : SI s) (hN : NS E B s w) {x i y j m : Int32} : MC l E yX11_copy wsX11_copy 2 0 0 [.ref (B 0), .int x, .int i, .int y, .int j, .int m] (w) (nP E B w (rs_copy s x i y j m) (nx_copy s x i y j m)) := by
  refine MC.enter (cc := cX11_copy) (maxL := 8) (ret := (some .int)) (lv0 := [some (.ref (B 0)), some (.int x), some (.int i), some (.int y), some (.int j), some (.int m), none, none]) (by decide) rfl (by simp [Value.category]) (Nat.le_of_ble_eq_true rfl) rfl ?_
  intro X hl hE C D
  subst hl
  subst hE
  have hI1 : s.1 1 ≤ 6 := hS.2.1
  have hI5 : s.1 5 ≤ 80 := hS.2.2.1
  have hI16 : s.1 16 ≤ 12 := hS.2.2.2.1
  have hNN := hN
  obtain ⟨o0, ⟨u1, e1, f1⟩, ⟨u2, e2, f2⟩, ⟨u3, e3, f3⟩, ⟨u5, e5, f5⟩, ⟨u6, e6, f6⟩, ⟨u8, e8, f8⟩, ⟨u10, e10, f10⟩, ⟨u11, e11, f11⟩, ⟨u13, e13, f13⟩, ⟨u14, e14, f14⟩, ⟨u15, e15⟩, ⟨u16, e16⟩, h20, h30, h100, h200, h220, h240, h300, h310⟩ := hNN
  by_cases hok : rg x 8 ∧ rg y 8
  · obtain ⟨d, hd, rfl⟩ := rg_of hok.1 (by omega)
    obtain ⟨e, he, rfl⟩ := rg_of hok.2 (by omega)
    have hzd := hS.sh hd
    have td : tn (nI d) = d := tn_nI (by omega)
    have te : tn (nI e) = e := tn_nI (by omega)
    have hze := hS.sh he
    by_cases d0 : s.2.1 24 d = 0
    · have hsd : u13 d = none := (f13 d hd).trans (shl_0 d0)
      refine r_iload_n (pq := 1) C dX11_copy_0 rfl rfl ?_
      refine r_callS (pq := 4) C (mc_X11_isShelf) gX11_copy_X11_isShelf rfl (na := 1) (by decide +kernel) rfl (by decide) (by decide) (Nat.le_of_ble_eq_true rfl) ⟨Nat.zero_le _, Nat.zero_le _⟩ dX11_copy_1 rfl rfl (fun r9 w hq => ?_)
      obtain ⟨rfl, rfl⟩ := hq
      dsimp only [Option.toList, List.cons_append, List.nil_append]
      have l1 := b2_lt (rg (nI d) 8)
      refine rN_if_eq (tg := 14) (pq := 7) C dX11_copy_4 (by decide) rfl (by omega) (fun c4 => absurd c4 (b2_1.mpr hok.1)) (fun c4 => ?_)
      refine r_iload_n (pq := 8) C dX11_copy_7 rfl rfl ?_
      refine r_callS (pq := 11) C (mc_X11_isShelf) gX11_copy_X11_isShelf rfl (na := 1) (by decide +kernel) rfl (by decide) (by decide) (Nat.le_of_ble_eq_true rfl) ⟨Nat.zero_le _, Nat.zero_le _⟩ dX11_copy_8 rfl rfl (fun r9 w hq => ?_)
      obtain ⟨rfl, rfl⟩ := hq
      dsimp only [Option.toList, List.cons_append, List.nil_append]
      have l8 := b2_lt (rg (nI e) 8)
      refine rN_if_ne (tg := 16) (pq := 14) C dX11_copy_11 (by decide) rfl (by omega) (fun c11 => ?_) (fun c11 => absurd c11 (b2_1.mpr hok.2))
      refine r_aload_n (pq := 17) C dX11_copy_16 rfl rfl ?_
      refine r_getf (pq := 20) C 12 o0 rfl (by decide) (by decide +kernel) (Or.inl rfl) rfl dX11_copy_17 rfl ?_
      refine r_iload_n (pq := 21) C dX11_copy_20 rfl rfl ?_
      refine rN_aaldN (pq := 22) C 6 rfl rfl e13 (by omega) (by decide) hsd dX11_copy_21 rfl ?_
      refine r_ifnullN (tg := 34) C dX11_copy_22 (by decide) ?_
      refine r_bipush (v := (-11)) (pq := 36) C dX11_copy_34 (by decide) rfl ?_
      refine r_iret C D rfl ⟨Nat.le_refl _, Nat.le_refl _⟩ dX11_copy_36 ?_
      refine ⟨?_, fun _ _ => rfl, B, rfl, ?_⟩
      · unfold rs_copy
        rw [if_neg (fun h => h hok), if_pos (by rw [td, te]; omega)]
      · unfold nx_copy
        rw [if_neg (fun h => by have h2 := h.2; rw [td, te] at h2; omega)]
        exact hN
    · have hsd : ∃ a, u13 d = some a := by rw [f13 d hd]; exact shl_n d0
      by_cases e0 : s.2.1 24 e = 0
      · have hse : u13 e = none := (f13 e he).trans (shl_0 e0)
        refine r_iload_n (pq := 1) C dX11_copy_0 rfl rfl ?_
        refine r_callS (pq := 4) C (mc_X11_isShelf) gX11_copy_X11_isShelf rfl (na := 1) (by decide +kernel) rfl (by decide) (by decide) (Nat.le_of_ble_eq_true rfl) ⟨Nat.zero_le _, Nat.zero_le _⟩ dX11_copy_1 rfl rfl (fun r9 w hq => ?_)
        obtain ⟨rfl, rfl⟩ := hq
        dsimp only [Option.toList, List.cons_append, List.nil_append]
        have l1 := b2_lt (rg (nI d) 8)
        refine rN_if_eq (tg := 14) (pq := 7) C dX11_copy_4 (by decide) rfl (by omega) (fun c4 => absurd c4 (b2_1.mpr hok.1)) (fun c4 => ?_)
        refine r_iload_n (pq := 8) C dX11_copy_7 rfl rfl ?_
        refine r_callS (pq := 11) C (mc_X11_isShelf) gX11_copy_X11_isShelf rfl (na := 1) (by decide +kernel) rfl (by decide) (by decide) (Nat.le_of_ble_eq_true rfl) ⟨Nat.zero_le _, Nat.zero_le _⟩ dX11_copy_8 rfl rfl (fun r9 w hq => ?_)
        obtain ⟨rfl, rfl⟩ := hq
        dsimp only [Option.toList, List.cons_append, List.nil_append]
        have l8 := b2_lt (rg (nI e) 8)
        refine rN_if_ne (tg := 16) (pq := 14) C dX11_copy_11 (by decide) rfl (by omega) (fun c11 => ?_) (fun c11 => absurd c11 (b2_1.mpr hok.2))
        refine r_aload_n (pq := 17) C dX11_copy_16 rfl rfl ?_
        refine r_getf (pq := 20) C 12 o0 rfl (by decide) (by decide +kernel) (Or.inl rfl) rfl dX11_copy_17 rfl ?_
        refine r_iload_n (pq := 21) C dX11_copy_20 rfl rfl ?_
        refine rN_aaldS (pq := 22) C 6 rfl rfl e13 (by omega) (by decide) hsd.choose_spec dX11_copy_21 rfl ?_
        refine r_ifnull (pq := 25) C dX11_copy_22 rfl ?_
        refine r_aload_n (pq := 26) C dX11_copy_25 rfl rfl ?_
        refine r_getf (pq := 29) C 12 o0 rfl (by decide) (by decide +kernel) (Or.inl rfl) rfl dX11_copy_26 rfl ?_
        refine r_iload_n (pq := 30) C dX11_copy_29 rfl rfl ?_
        refine rN_aaldN (pq := 31) C 6 rfl rfl e13 (by omega) (by decide) hse dX11_copy_30 rfl ?_
        refine r_ifnonnullN (pq := 34) C dX11_copy_31 rfl ?_
        refine r_bipush (v := (-11)) (pq := 36) C dX11_copy_34 (by decide) rfl ?_
        refine r_iret C D rfl ⟨Nat.le_refl _, Nat.le_refl _⟩ dX11_copy_36 ?_
        refine ⟨?_, fun _ _ => rfl, B, rfl, ?_⟩
        · unfold rs_copy
          rw [if_neg (fun h => h hok), if_pos (by rw [td, te]; omega)]
        · unfold nx_copy
          rw [if_neg (fun h => by have h2 := h.2; rw [td, te] at h2; omega)]
          exact hN
      · have hse : ∃ a, u13 e = some a := by rw [f13 e he]; exact shl_n e0
        by_cases rd : 3 ≤ s.2.1 24 d
        · have kd := h300 d hd rd
          obtain ⟨gh, gd, gdv⟩ := h310 d hd rd
          by_cases re : 3 ≤ s.2.1 24 e
          · have ke := h300 e he re
            obtain ⟨gk, ge, gev⟩ := h310 e he re
            by_cases hw9 : s.2.1 24 d = s.2.1 24 e
            · by_cases hc : okCopy s (nI d) i (nI e) j m
              · obtain ⟨m9, hm9, rfl⟩ : ∃ t : Nat, t < 2147483648 ∧ m = nI t := nI_of (fun h => by rw [lt_i] at h; have e0 : (0 : Int32).toInt = 0 := rfl; have := hc.1; omega)
                obtain ⟨i9, hi9, rfl⟩ : ∃ t : Nat, t < 2147483648 ∧ i = nI t := nI_of (fun h => by rw [lt_i] at h; have e0 : (0 : Int32).toInt = 0 := rfl; have := hc.2.1; omega)
                obtain ⟨j9, hj9, rfl⟩ : ∃ t : Nat, t < 2147483648 ∧ j = nI t := nI_of (fun h => by rw [lt_i] at h; have e0 : (0 : Int32).toInt = 0 := rfl; have := hc.2.2.1; omega)
                have hcd : 0 ≤ (nI i9).toInt ∧ 0 ≤ (nI m9).toInt ∧ (nI i9).toInt + (nI m9).toInt ≤ (s.2.1 26 d : Int) := ⟨hc.2.1, hc.1, by have := hc.2.2.2.1; rw [tn_nI (by omega)] at this; exact this⟩
                have hce : 0 ≤ (nI j9).toInt ∧ 0 ≤ (nI m9).toInt ∧ (nI j9).toInt + (nI m9).toInt ≤ (s.2.1 26 e : Int) := ⟨hc.2.2.1, hc.1, by have := hc.2.2.2.2; rw [tn_nI (by omega)] at this; exact this⟩
                have q1 := hcd.2.2
                have q2 := hce.2.2
                rw [nI_toInt (by omega), nI_toInt (by omega)] at q1 q2
                refine r_iload_n (pq := 1) C dX11_copy_0 rfl rfl ?_
                refine r_callS (pq := 4) C (mc_X11_isShelf) gX11_copy_X11_isShelf rfl (na := 1) (by decide +kernel) rfl (by decide) (by decide) (Nat.le_of_ble_eq_true rfl) ⟨Nat.zero_le _, Nat.zero_le _⟩ dX11_copy_1 rfl rfl (fun r9 w hq => ?_)
                obtain ⟨rfl, rfl⟩ := hq
                dsimp only [Option.toList, List.cons_append, List.nil_append]
                have l1 := b2_lt (rg (nI d) 8)
                refine rN_if_eq (tg := 14) (pq := 7) C dX11_copy_4 (by decide) rfl (by omega) (fun c4 => absurd c4 (b2_1.mpr hok.1)) (fun c4 => ?_)
                refine r_iload_n (pq := 8) C dX11_copy_7 rfl rfl ?_
                refine r_callS (pq := 11) C (mc_X11_isShelf) gX11_copy_X11_isShelf rfl (na := 1) (by decide +kernel) rfl (by decide) (by decide) (Nat.le_of_ble_eq_true rfl) ⟨Nat.zero_le _, Nat.zero_le _⟩ dX11_copy_8 rfl rfl (fun r9 w hq => ?_)
                obtain ⟨rfl, rfl⟩ := hq
                dsimp only [Option.toList, List.cons_append, List.nil_append]
                have l8 := b2_lt (rg (nI e) 8)
                refine rN_if_ne (tg := 16) (pq := 14) C dX11_copy_11 (by decide) rfl (by omega) (fun c11 => ?_) (fun c11 => absurd c11 (b2_1.mpr hok.2))
                refine r_aload_n (pq := 17) C dX11_copy_16 rfl rfl ?_
                refine r_getf (pq := 20) C 12 o0 rfl (by decide) (by decide +kernel) (Or.inl rfl) rfl dX11_copy_17 rfl ?_
                refine r_iload_n (pq := 21) C dX11_copy_20 rfl rfl ?_
                refine rN_aaldS (pq := 22) C 6 rfl rfl e13 (by omega) (by decide) hsd.choose_spec dX11_copy_21 rfl ?_
                refine r_ifnull (pq := 25) C dX11_copy_22 rfl ?_
                refine r_aload_n (pq := 26) C dX11_copy_25 rfl rfl ?_
                refine r_getf (pq := 29) C 12 o0 rfl (by decide) (by decide +kernel) (Or.inl rfl) rfl dX11_copy_26 rfl ?_
                refine r_iload_n (pq := 30) C dX11_copy_29 rfl rfl ?_
                refine rN_aaldS (pq := 31) C 6 rfl rfl e13 (by omega) (by decide) hse.choose_spec dX11_copy_30 rfl ?_
                refine r_ifnonnull (tg := 37) C dX11_copy_31 (by decide) ?_
                refine r_aload_n (pq := 38) C dX11_copy_37 rfl rfl ?_
                refine r_iload_n (pq := 39) C dX11_copy_38 rfl rfl ?_
                refine r_callV (pq := 42) C (mc_X11_rowOn hS hN hd) o0 rfl gX11_copy_X11_rowOn rfl (na := 1) (by decide +kernel) rfl (by decide) (by decide) (Nat.le_of_ble_eq_true rfl) ⟨Nat.zero_le _, Nat.zero_le _⟩ dX11_copy_39 rfl rfl (fun r9 w hq => ?_)
                obtain ⟨rfl, rfl⟩ := hq
                dsimp only [Option.toList, List.cons_append, List.nil_append]
                rw [if_pos rd]
                refine r_astore (j := 6) (pq := 44) C dX11_copy_42 rfl (by decide) rfl rfl ?_
                dsimp only [List.set]
                refine r_aload_n (pq := 45) C dX11_copy_44 rfl rfl ?_
                refine r_iload_n (pq := 46) C dX11_copy_45 rfl rfl ?_
                refine r_callV (pq := 49) C (mc_X11_rowOn hS hN he) o0 rfl gX11_copy_X11_rowOn rfl (na := 1) (by decide +kernel) rfl (by decide) (by decide) (Nat.le_of_ble_eq_true rfl) ⟨Nat.zero_le _, Nat.zero_le _⟩ dX11_copy_46 rfl rfl (fun r9 w hq => ?_)
                obtain ⟨rfl, rfl⟩ := hq
                dsimp only [Option.toList, List.cons_append, List.nil_append]
                rw [if_pos re]
                refine r_astore (j := 7) (pq := 51) C dX11_copy_49 rfl (by decide) rfl rfl ?_
                dsimp only [List.set]
                refine r_aload (pq := 53) C dX11_copy_51 rfl rfl ?_
                refine r_ifnull (pq := 56) C dX11_copy_53 rfl ?_
                refine r_aload (pq := 58) C dX11_copy_56 rfl rfl ?_
                refine r_ifnull (pq := 61) C dX11_copy_58 rfl ?_
                refine r_aload (pq := 63) C dX11_copy_61 rfl rfl ?_
                refine r_getf (pq := 66) C 0 kd rfl (by decide) (by decide +kernel) (Or.inl rfl) rfl dX11_copy_63 rfl ?_
                refine r_aload (pq := 68) C dX11_copy_66 rfl rfl ?_
                refine r_getf (pq := 71) C 0 ke rfl (by decide) (by decide +kernel) (Or.inl rfl) rfl dX11_copy_68 rfl ?_
                refine rN_icmp_eq (tg := 77) (pq := 74) C dX11_copy_71 (by decide) rfl (by omega) (by omega) (fun c71 => ?_) (fun c71 => absurd (by omega) c71)
                refine r_aload (pq := 79) C dX11_copy_77 rfl rfl ?_
                refine r_iload_n (pq := 80) C dX11_copy_79 rfl rfl ?_
                refine r_iload (pq := 82) C dX11_copy_80 rfl rfl ?_
                refine r_callV (pq := 85) C (mc_X4_hasPlaces (r := 300 + d) (rc := 310 + d) hzd.2.2.2 kd gd) kd rfl gX11_copy_X4_hasPlaces rfl (na := 2) (by decide +kernel) rfl (by decide) (by decide) (Nat.le_of_ble_eq_true rfl) ⟨Nat.zero_le _, Nat.zero_le _⟩ dX11_copy_82 rfl rfl (fun r9 w hq => ?_)
                obtain ⟨rfl, rfl⟩ := hq
                dsimp only [Option.toList, List.cons_append, List.nil_append]
                refine rN_if_eq (tg := 100) (pq := 88) C dX11_copy_85 (by decide) rfl (by have := b2_lt (0 ≤ (nI i9).toInt ∧ 0 ≤ (nI m9).toInt ∧ (nI i9).toInt + (nI m9).toInt ≤ (s.2.1 26 d : Int)); omega) (fun c85 => absurd c85 (b2_1.mpr hcd)) (fun c85 => ?_)
                refine r_aload (pq := 90) C dX11_copy_88 rfl rfl ?_
                refine r_iload (pq := 92) C dX11_copy_90 rfl rfl ?_
                refine r_iload (pq := 94) C dX11_copy_92 rfl rfl ?_
                refine r_callV (pq := 97) C (mc_X4_hasPlaces (r := 300 + e) (rc := 310 + e) hze.2.2.2 ke ge) ke rfl gX11_copy_X4_hasPlaces rfl (na := 2) (by decide +kernel) rfl (by decide) (by decide) (Nat.le_of_ble_eq_true rfl) ⟨Nat.zero_le _, Nat.zero_le _⟩ dX11_copy_94 rfl rfl (fun r9 w hq => ?_)
                obtain ⟨rfl, rfl⟩ := hq
                dsimp only [Option.toList, List.cons_append, List.nil_append]
                refine rN_if_ne (tg := 103) (pq := 100) C dX11_copy_97 (by decide) rfl (by have := b2_lt (0 ≤ (nI j9).toInt ∧ 0 ≤ (nI m9).toInt ∧ (nI j9).toInt + (nI m9).toInt ≤ (s.2.1 26 e : Int)); omega) (fun c97 => ?_) (fun c97 => absurd c97 (b2_1.mpr hce))
                refine r_aload (pq := 105) C dX11_copy_103 rfl rfl ?_
                refine r_getf (pq := 108) C 1 kd rfl (by decide) (by decide +kernel) (Or.inl rfl) rfl dX11_copy_105 rfl ?_
                refine r_iload_n (pq := 109) C dX11_copy_108 rfl rfl ?_
                refine r_aload (pq := 111) C dX11_copy_109 rfl rfl ?_
                refine r_getf (pq := 114) C 1 ke rfl (by decide) (by decide +kernel) (Or.inl rfl) rfl dX11_copy_111 rfl ?_
                refine r_iload (pq := 116) C dX11_copy_114 rfl rfl ?_
                refine r_iload (pq := 118) C dX11_copy_116 rfl rfl ?_
                refine r_copy (pq := 121) C (by decide +kernel) (by decide +kernel) (by decide +kernel) (by decide +kernel) (310 + d) (310 + e) 2 gd ge rfl rfl ⟨by omega, by omega⟩ (by omega) (by omega) (fun i hi => (gdv (i9 + i) (by omega)).2) (by decide) (Nat.le_of_ble_eq_true rfl) dX11_copy_118 rfl ?_
                refine r_iload (pq := 123) C dX11_copy_121 rfl rfl ?_
                refine r_iret C D rfl ⟨Nat.le_refl _, Nat.le_refl _⟩ dX11_copy_123 ?_
                refine ⟨?_, fun q hq => va_n _ _ (by omega), B, rfl, ?_⟩
                · unfold rs_copy
                  rw [if_neg (fun h => h hok), if_neg (by rw [td, te]; omega), if_neg (by rw [td, te]; omega), if_pos hc]
                · unfold nx_copy
                  rw [if_pos ⟨hok, by rw [tn_nI (show d < 2147483648 by omega)]; omega, by rw [tn_nI (show d < 2147483648 by omega), tn_nI (show e < 2147483648 by omega)]; omega, hc⟩, tn_nI (show d < 2147483648 by omega), tn_nI (show e < 2147483648 by omega), tn_nI (show i9 < 2147483648 by omega), tn_nI (show j9 < 2147483648 by omega), tn_nI (show m9 < 2147483648 by omega)]
                  refine ⟨?_, ?_, ?_, ?_, ?_, ?_, ?_, ?_, ?_, ?_, ?_, ?_, ?_, ?_, ?_, ?_, ?_, ?_, ?_, ?_, ?_⟩
                  · exact ((va_n _ _ (by omega))).trans o0
                  · exact ⟨u1, ((va_n _ _ (by omega))).trans e1, f1⟩
                  · exact ⟨u2, ((va_n _ _ (by omega))).trans e2, f2⟩
                  · exact ⟨u3, ((va_n _ _ (by omega))).trans e3, f3⟩
                  · exact ⟨u5, ((va_n _ _ (by omega))).trans e5, f5⟩
                  · exact ⟨u6, ((va_n _ _ (by omega))).trans e6, f6⟩
                  · exact ⟨u8, ((va_n _ _ (by omega))).trans e8, f8⟩
                  · exact ⟨u10, ((va_n _ _ (by omega))).trans e10, f10⟩
                  · exact ⟨u11, ((va_n _ _ (by omega))).trans e11, f11⟩
                  · exact ⟨u13, ((va_n _ _ (by omega))).trans e13, f13⟩
                  · exact ⟨u14, ((va_n _ _ (by omega))).trans e14, f14⟩
                  · exact ⟨u15, ((va_n _ _ (by omega))).trans e15⟩
                  · exact ⟨u16, ((va_n _ _ (by omega))).trans e16⟩
                  · intro p hp
                    obtain ⟨h9, a1, a2⟩ := h20 p hp
                    exact ⟨h9, ((va_n _ _ (by omega))).trans a1, a2⟩
                  · intro l hl
                    obtain ⟨x, y, a1⟩ := h30 l hl
                    exact ⟨x, y, ((va_n _ _ (by omega))).trans a1⟩
                  · intro m hm
                    have hm9 : m < s.1 5 := hm
                    exact ((va_n _ _ (by omega))).trans (h100 m hm)
                  · intro j hj
                    have hj9 : j < s.1 16 := hj
                    obtain ⟨z, a1⟩ := h200 j hj
                    exact ⟨z, ((va_n _ _ (by omega))).trans a1⟩
                  · intro j hj
                    have hj9 : j < s.1 16 := hj
                    obtain ⟨x, y, a1⟩ := h220 j hj
                    exact ⟨x, y, ((va_n _ _ (by omega))).trans a1⟩
                  · intro j hj
                    have hj9 : j < s.1 16 := hj
                    obtain ⟨x, y, a1⟩ := h240 j hj
                    exact ⟨x, y, ((va_n _ _ (by omega))).trans a1⟩
                  · intro d hd h3
                    exact ((va_n _ _ (by omega))).trans (h300 d hd h3)
                  · intro x hx h3
                    by_cases q : x = e
                    · subst q
                      refine ⟨_, va_s _ _ _, fun i hi => ?_⟩
                      show _ = (va_up s.2.2 27 (fun q => if 400 * x + j9 ≤ q ∧ q < 400 * x + j9 + m9 then s.2.2 27 (400 * d + i9 + (q - (400 * x + j9))) else s.2.2 27 q)) 27 (400 * x + i) ∧ _
                      rw [va_s]
                      unfold va_cpy
                      have hi9 : i < s.2.1 26 x := hi
                      by_cases z : j9 ≤ i ∧ i < j9 + m9
                      · rw [if_pos z, if_pos (by omega)]
                        have z2 := gdv (i9 + (i - j9)) (by omega)
                        refine ⟨z2.1.trans ?_, z2.2⟩
                        rw [show 400 * d + (i9 + (i - j9)) = 400 * d + i9 + (400 * x + i - (400 * x + j9)) by omega]
                      · rw [if_neg z, if_neg (by omega)]
                        exact gev i hi9
                    · obtain ⟨h9, a1, a2⟩ := h310 x hx h3
                      have z9 := hS.sh hx
                      refine ⟨h9, (va_n _ _ (by omega)).trans a1, fun i hi => ?_⟩
                      have hi9 : i < s.2.1 26 x := hi
                      show _ = (va_up s.2.2 27 (fun q => if 400 * e + j9 ≤ q ∧ q < 400 * e + j9 + m9 then s.2.2 27 (400 * d + i9 + (q - (400 * e + j9))) else s.2.2 27 q)) 27 (400 * x + i) ∧ _
                      rw [va_s, if_neg (by omega)]
                      exact a2 i hi9
              · skip
                refine r_iload_n (pq := 1) C dX11_copy_0 rfl rfl ?_
                refine r_callS (pq := 4) C (mc_X11_isShelf) gX11_copy_X11_isShelf rfl (na := 1) (by decide +kernel) rfl (by decide) (by decide) (Nat.le_of_ble_eq_true rfl) ⟨Nat.zero_le _, Nat.zero_le _⟩ dX11_copy_1 rfl rfl (fun r9 w hq => ?_)
                obtain ⟨rfl, rfl⟩ := hq
                dsimp only [Option.toList, List.cons_append, List.nil_append]
                have l1 := b2_lt (rg (nI d) 8)
                refine rN_if_eq (tg := 14) (pq := 7) C dX11_copy_4 (by decide) rfl (by omega) (fun c4 => absurd c4 (b2_1.mpr hok.1)) (fun c4 => ?_)
                refine r_iload_n (pq := 8) C dX11_copy_7 rfl rfl ?_
                refine r_callS (pq := 11) C (mc_X11_isShelf) gX11_copy_X11_isShelf rfl (na := 1) (by decide +kernel) rfl (by decide) (by decide) (Nat.le_of_ble_eq_true rfl) ⟨Nat.zero_le _, Nat.zero_le _⟩ dX11_copy_8 rfl rfl (fun r9 w hq => ?_)
                obtain ⟨rfl, rfl⟩ := hq
                dsimp only [Option.toList, List.cons_append, List.nil_append]
                have l8 := b2_lt (rg (nI e) 8)
                refine rN_if_ne (tg := 16) (pq := 14) C dX11_copy_11 (by decide) rfl (by omega) (fun c11 => ?_) (fun c11 => absurd c11 (b2_1.mpr hok.2))
                refine r_aload_n (pq := 17) C dX11_copy_16 rfl rfl ?_
                refine r_getf (pq := 20) C 12 o0 rfl (by decide) (by decide +kernel) (Or.inl rfl) rfl dX11_copy_17 rfl ?_
                refine r_iload_n (pq := 21) C dX11_copy_20 rfl rfl ?_
                refine rN_aaldS (pq := 22) C 6 rfl rfl e13 (by omega) (by decide) hsd.choose_spec dX11_copy_21 rfl ?_
                refine r_ifnull (pq := 25) C dX11_copy_22 rfl ?_
                refine r_aload_n (pq := 26) C dX11_copy_25 rfl rfl ?_
                refine r_getf (pq := 29) C 12 o0 rfl (by decide) (by decide +kernel) (Or.inl rfl) rfl dX11_copy_26 rfl ?_
                refine r_iload_n (pq := 30) C dX11_copy_29 rfl rfl ?_
                refine rN_aaldS (pq := 31) C 6 rfl rfl e13 (by omega) (by decide) hse.choose_spec dX11_copy_30 rfl ?_
                refine r_ifnonnull (tg := 37) C dX11_copy_31 (by decide) ?_
                refine r_aload_n (pq := 38) C dX11_copy_37 rfl rfl ?_
                refine r_iload_n (pq := 39) C dX11_copy_38 rfl rfl ?_
                refine r_callV (pq := 42) C (mc_X11_rowOn hS hN hd) o0 rfl gX11_copy_X11_rowOn rfl (na := 1) (by decide +kernel) rfl (by decide) (by decide) (Nat.le_of_ble_eq_true rfl) ⟨Nat.zero_le _, Nat.zero_le _⟩ dX11_copy_39 rfl rfl (fun r9 w hq => ?_)
                obtain ⟨rfl, rfl⟩ := hq
                dsimp only [Option.toList, List.cons_append, List.nil_append]
                rw [if_pos rd]
                refine r_astore (j := 6) (pq := 44) C dX11_copy_42 rfl (by decide) rfl rfl ?_
                dsimp only [List.set]
                refine r_aload_n (pq := 45) C dX11_copy_44 rfl rfl ?_
                refine r_iload_n (pq := 46) C dX11_copy_45 rfl rfl ?_
                refine r_callV (pq := 49) C (mc_X11_rowOn hS hN he) o0 rfl gX11_copy_X11_rowOn rfl (na := 1) (by decide +kernel) rfl (by decide) (by decide) (Nat.le_of_ble_eq_true rfl) ⟨Nat.zero_le _, Nat.zero_le _⟩ dX11_copy_46 rfl rfl (fun r9 w hq => ?_)
                obtain ⟨rfl, rfl⟩ := hq
                dsimp only [Option.toList, List.cons_append, List.nil_append]
                rw [if_pos re]
                refine r_astore (j := 7) (pq := 51) C dX11_copy_49 rfl (by decide) rfl rfl ?_
                dsimp only [List.set]
                refine r_aload (pq := 53) C dX11_copy_51 rfl rfl ?_
                refine r_ifnull (pq := 56) C dX11_copy_53 rfl ?_
                refine r_aload (pq := 58) C dX11_copy_56 rfl rfl ?_
                refine r_ifnull (pq := 61) C dX11_copy_58 rfl ?_
                refine r_aload (pq := 63) C dX11_copy_61 rfl rfl ?_
                refine r_getf (pq := 66) C 0 kd rfl (by decide) (by decide +kernel) (Or.inl rfl) rfl dX11_copy_63 rfl ?_
                refine r_aload (pq := 68) C dX11_copy_66 rfl rfl ?_
                refine r_getf (pq := 71) C 0 ke rfl (by decide) (by decide +kernel) (Or.inl rfl) rfl dX11_copy_68 rfl ?_
                refine rN_icmp_eq (tg := 77) (pq := 74) C dX11_copy_71 (by decide) rfl (by omega) (by omega) (fun c71 => ?_) (fun c71 => absurd (by omega) c71)
                refine r_aload (pq := 79) C dX11_copy_77 rfl rfl ?_
                refine r_iload_n (pq := 80) C dX11_copy_79 rfl rfl ?_
                refine r_iload (pq := 82) C dX11_copy_80 rfl rfl ?_
                refine r_callV (pq := 85) C (mc_X4_hasPlaces (r := 300 + d) (rc := 310 + d) hzd.2.2.2 kd gd) kd rfl gX11_copy_X4_hasPlaces rfl (na := 2) (by decide +kernel) rfl (by decide) (by decide) (Nat.le_of_ble_eq_true rfl) ⟨Nat.zero_le _, Nat.zero_le _⟩ dX11_copy_82 rfl rfl (fun r9 w hq => ?_)
                obtain ⟨rfl, rfl⟩ := hq
                dsimp only [Option.toList, List.cons_append, List.nil_append]
                have l82 := b2_lt (0 ≤ i.toInt ∧ 0 ≤ m.toInt ∧ i.toInt + m.toInt ≤ (s.2.1 26 d : Int))
                refine rN_if_eq (tg := 100) (pq := 88) C dX11_copy_85 (by decide) rfl (by omega) (fun c85 => ?_) (fun c85 => ?_)
                · refine r_bipush (v := (-13)) (pq := 102) C dX11_copy_100 (by decide) rfl ?_
                  refine r_iret C D rfl ⟨Nat.le_refl _, Nat.le_refl _⟩ dX11_copy_102 ?_
                  refine ⟨?_, fun _ _ => rfl, B, rfl, ?_⟩
                  · unfold rs_copy
                    rw [if_neg (fun h => h hok), if_neg (by rw [td, te]; omega), if_neg (by rw [td, te]; omega), if_neg hc]
                  · unfold nx_copy
                    rw [if_neg (fun h => hc h.2.2.2)]
                    exact hN
                · refine r_aload (pq := 90) C dX11_copy_88 rfl rfl ?_
                  refine r_iload (pq := 92) C dX11_copy_90 rfl rfl ?_
                  refine r_iload (pq := 94) C dX11_copy_92 rfl rfl ?_
                  refine r_callV (pq := 97) C (mc_X4_hasPlaces (r := 300 + e) (rc := 310 + e) hze.2.2.2 ke ge) ke rfl gX11_copy_X4_hasPlaces rfl (na := 2) (by decide +kernel) rfl (by decide) (by decide) (Nat.le_of_ble_eq_true rfl) ⟨Nat.zero_le _, Nat.zero_le _⟩ dX11_copy_94 rfl rfl (fun r9 w hq => ?_)
                  obtain ⟨rfl, rfl⟩ := hq
                  dsimp only [Option.toList, List.cons_append, List.nil_append]
                  have l94 := b2_lt (0 ≤ j.toInt ∧ 0 ≤ m.toInt ∧ j.toInt + m.toInt ≤ (s.2.1 26 e : Int))
                  refine rN_if_ne (tg := 103) (pq := 100) C dX11_copy_97 (by decide) rfl (by omega) (fun c97 => ?_) (fun c97 => ?_)
                  · exact absurd (show okCopy s (nI d) i (nI e) j m from ⟨(b2_1.mp c85).2.1, (b2_1.mp c85).1, (b2_1.mp c97).1, by rw [tn_nI (show d < 2147483648 by omega)]; exact (b2_1.mp c85).2.2, by rw [tn_nI (show e < 2147483648 by omega)]; exact (b2_1.mp c97).2.2⟩) hc
                  · refine r_bipush (v := (-13)) (pq := 102) C dX11_copy_100 (by decide) rfl ?_
                    refine r_iret C D rfl ⟨Nat.le_refl _, Nat.le_refl _⟩ dX11_copy_102 ?_
                    refine ⟨?_, fun _ _ => rfl, B, rfl, ?_⟩
                    · unfold rs_copy
                      rw [if_neg (fun h => h hok), if_neg (by rw [td, te]; omega), if_neg (by rw [td, te]; omega), if_neg hc]
                    · unfold nx_copy
                      rw [if_neg (fun h => hc h.2.2.2)]
                      exact hN
            · skip
              refine r_iload_n (pq := 1) C dX11_copy_0 rfl rfl ?_
              refine r_callS (pq := 4) C (mc_X11_isShelf) gX11_copy_X11_isShelf rfl (na := 1) (by decide +kernel) rfl (by decide) (by decide) (Nat.le_of_ble_eq_true rfl) ⟨Nat.zero_le _, Nat.zero_le _⟩ dX11_copy_1 rfl rfl (fun r9 w hq => ?_)
              obtain ⟨rfl, rfl⟩ := hq
              dsimp only [Option.toList, List.cons_append, List.nil_append]
              have l1 := b2_lt (rg (nI d) 8)
              refine rN_if_eq (tg := 14) (pq := 7) C dX11_copy_4 (by decide) rfl (by omega) (fun c4 => absurd c4 (b2_1.mpr hok.1)) (fun c4 => ?_)
              refine r_iload_n (pq := 8) C dX11_copy_7 rfl rfl ?_
              refine r_callS (pq := 11) C (mc_X11_isShelf) gX11_copy_X11_isShelf rfl (na := 1) (by decide +kernel) rfl (by decide) (by decide) (Nat.le_of_ble_eq_true rfl) ⟨Nat.zero_le _, Nat.zero_le _⟩ dX11_copy_8 rfl rfl (fun r9 w hq => ?_)
              obtain ⟨rfl, rfl⟩ := hq
              dsimp only [Option.toList, List.cons_append, List.nil_append]
              have l8 := b2_lt (rg (nI e) 8)
              refine rN_if_ne (tg := 16) (pq := 14) C dX11_copy_11 (by decide) rfl (by omega) (fun c11 => ?_) (fun c11 => absurd c11 (b2_1.mpr hok.2))
              refine r_aload_n (pq := 17) C dX11_copy_16 rfl rfl ?_
              refine r_getf (pq := 20) C 12 o0 rfl (by decide) (by decide +kernel) (Or.inl rfl) rfl dX11_copy_17 rfl ?_
              refine r_iload_n (pq := 21) C dX11_copy_20 rfl rfl ?_
              refine rN_aaldS (pq := 22) C 6 rfl rfl e13 (by omega) (by decide) hsd.choose_spec dX11_copy_21 rfl ?_
              refine r_ifnull (pq := 25) C dX11_copy_22 rfl ?_
              refine r_aload_n (pq := 26) C dX11_copy_25 rfl rfl ?_
              refine r_getf (pq := 29) C 12 o0 rfl (by decide) (by decide +kernel) (Or.inl rfl) rfl dX11_copy_26 rfl ?_
              refine r_iload_n (pq := 30) C dX11_copy_29 rfl rfl ?_
              refine rN_aaldS (pq := 31) C 6 rfl rfl e13 (by omega) (by decide) hse.choose_spec dX11_copy_30 rfl ?_
              refine r_ifnonnull (tg := 37) C dX11_copy_31 (by decide) ?_
              refine r_aload_n (pq := 38) C dX11_copy_37 rfl rfl ?_
              refine r_iload_n (pq := 39) C dX11_copy_38 rfl rfl ?_
              refine r_callV (pq := 42) C (mc_X11_rowOn hS hN hd) o0 rfl gX11_copy_X11_rowOn rfl (na := 1) (by decide +kernel) rfl (by decide) (by decide) (Nat.le_of_ble_eq_true rfl) ⟨Nat.zero_le _, Nat.zero_le _⟩ dX11_copy_39 rfl rfl (fun r9 w hq => ?_)
              obtain ⟨rfl, rfl⟩ := hq
              dsimp only [Option.toList, List.cons_append, List.nil_append]
              rw [if_pos rd]
              refine r_astore (j := 6) (pq := 44) C dX11_copy_42 rfl (by decide) rfl rfl ?_
              dsimp only [List.set]
              refine r_aload_n (pq := 45) C dX11_copy_44 rfl rfl ?_
              refine r_iload_n (pq := 46) C dX11_copy_45 rfl rfl ?_
              refine r_callV (pq := 49) C (mc_X11_rowOn hS hN he) o0 rfl gX11_copy_X11_rowOn rfl (na := 1) (by decide +kernel) rfl (by decide) (by decide) (Nat.le_of_ble_eq_true rfl) ⟨Nat.zero_le _, Nat.zero_le _⟩ dX11_copy_46 rfl rfl (fun r9 w hq => ?_)
              obtain ⟨rfl, rfl⟩ := hq
              dsimp only [Option.toList, List.cons_append, List.nil_append]
              rw [if_pos re]
              refine r_astore (j := 7) (pq := 51) C dX11_copy_49 rfl (by decide) rfl rfl ?_
              dsimp only [List.set]
              refine r_aload (pq := 53) C dX11_copy_51 rfl rfl ?_
              refine r_ifnull (pq := 56) C dX11_copy_53 rfl ?_
              refine r_aload (pq := 58) C dX11_copy_56 rfl rfl ?_
              refine r_ifnull (pq := 61) C dX11_copy_58 rfl ?_
              refine r_aload (pq := 63) C dX11_copy_61 rfl rfl ?_
              refine r_getf (pq := 66) C 0 kd rfl (by decide) (by decide +kernel) (Or.inl rfl) rfl dX11_copy_63 rfl ?_
              refine r_aload (pq := 68) C dX11_copy_66 rfl rfl ?_
              refine r_getf (pq := 71) C 0 ke rfl (by decide) (by decide +kernel) (Or.inl rfl) rfl dX11_copy_68 rfl ?_
              refine rN_icmp_eq (tg := 77) (pq := 74) C dX11_copy_71 (by decide) rfl (by omega) (by omega) (fun c71 => absurd c71 (by omega)) (fun c71 => ?_)
              refine r_bipush (v := (-12)) (pq := 76) C dX11_copy_74 (by decide) rfl ?_
              refine r_iret C D rfl ⟨Nat.le_refl _, Nat.le_refl _⟩ dX11_copy_76 ?_
              refine ⟨?_, fun _ _ => rfl, B, rfl, ?_⟩
              · unfold rs_copy
                rw [if_neg (fun h => h hok), if_neg (by rw [td, te]; omega), if_pos (by rw [td, te]; omega)]
              · unfold nx_copy
                rw [if_neg (fun h => by have h2 := h.2; rw [td, te] at h2; omega)]
                exact hN
          · skip
            refine r_iload_n (pq := 1) C dX11_copy_0 rfl rfl ?_
            refine r_callS (pq := 4) C (mc_X11_isShelf) gX11_copy_X11_isShelf rfl (na := 1) (by decide +kernel) rfl (by decide) (by decide) (Nat.le_of_ble_eq_true rfl) ⟨Nat.zero_le _, Nat.zero_le _⟩ dX11_copy_1 rfl rfl (fun r9 w hq => ?_)
            obtain ⟨rfl, rfl⟩ := hq
            dsimp only [Option.toList, List.cons_append, List.nil_append]
            have l1 := b2_lt (rg (nI d) 8)
            refine rN_if_eq (tg := 14) (pq := 7) C dX11_copy_4 (by decide) rfl (by omega) (fun c4 => absurd c4 (b2_1.mpr hok.1)) (fun c4 => ?_)
            refine r_iload_n (pq := 8) C dX11_copy_7 rfl rfl ?_
            refine r_callS (pq := 11) C (mc_X11_isShelf) gX11_copy_X11_isShelf rfl (na := 1) (by decide +kernel) rfl (by decide) (by decide) (Nat.le_of_ble_eq_true rfl) ⟨Nat.zero_le _, Nat.zero_le _⟩ dX11_copy_8 rfl rfl (fun r9 w hq => ?_)
            obtain ⟨rfl, rfl⟩ := hq
            dsimp only [Option.toList, List.cons_append, List.nil_append]
            have l8 := b2_lt (rg (nI e) 8)
            refine rN_if_ne (tg := 16) (pq := 14) C dX11_copy_11 (by decide) rfl (by omega) (fun c11 => ?_) (fun c11 => absurd c11 (b2_1.mpr hok.2))
            refine r_aload_n (pq := 17) C dX11_copy_16 rfl rfl ?_
            refine r_getf (pq := 20) C 12 o0 rfl (by decide) (by decide +kernel) (Or.inl rfl) rfl dX11_copy_17 rfl ?_
            refine r_iload_n (pq := 21) C dX11_copy_20 rfl rfl ?_
            refine rN_aaldS (pq := 22) C 6 rfl rfl e13 (by omega) (by decide) hsd.choose_spec dX11_copy_21 rfl ?_
            refine r_ifnull (pq := 25) C dX11_copy_22 rfl ?_
            refine r_aload_n (pq := 26) C dX11_copy_25 rfl rfl ?_
            refine r_getf (pq := 29) C 12 o0 rfl (by decide) (by decide +kernel) (Or.inl rfl) rfl dX11_copy_26 rfl ?_
            refine r_iload_n (pq := 30) C dX11_copy_29 rfl rfl ?_
            refine rN_aaldS (pq := 31) C 6 rfl rfl e13 (by omega) (by decide) hse.choose_spec dX11_copy_30 rfl ?_
            refine r_ifnonnull (tg := 37) C dX11_copy_31 (by decide) ?_
            refine r_aload_n (pq := 38) C dX11_copy_37 rfl rfl ?_
            refine r_iload_n (pq := 39) C dX11_copy_38 rfl rfl ?_
            refine r_callV (pq := 42) C (mc_X11_rowOn hS hN hd) o0 rfl gX11_copy_X11_rowOn rfl (na := 1) (by decide +kernel) rfl (by decide) (by decide) (Nat.le_of_ble_eq_true rfl) ⟨Nat.zero_le _, Nat.zero_le _⟩ dX11_copy_39 rfl rfl (fun r9 w hq => ?_)
            obtain ⟨rfl, rfl⟩ := hq
            dsimp only [Option.toList, List.cons_append, List.nil_append]
            rw [if_pos rd]
            refine r_astore (j := 6) (pq := 44) C dX11_copy_42 rfl (by decide) rfl rfl ?_
            dsimp only [List.set]
            refine r_aload_n (pq := 45) C dX11_copy_44 rfl rfl ?_
            refine r_iload_n (pq := 46) C dX11_copy_45 rfl rfl ?_
            refine r_callV (pq := 49) C (mc_X11_rowOn hS hN he) o0 rfl gX11_copy_X11_rowOn rfl (na := 1) (by decide +kernel) rfl (by decide) (by decide) (Nat.le_of_ble_eq_true rfl) ⟨Nat.zero_le _, Nat.zero_le _⟩ dX11_copy_46 rfl rfl (fun r9 w hq => ?_)
            obtain ⟨rfl, rfl⟩ := hq
            dsimp only [Option.toList, List.cons_append, List.nil_append]
            rw [if_neg (by omega)]
            refine r_astoreN (j := 7) (pq := 51) C dX11_copy_49 rfl (by decide) rfl rfl ?_
            dsimp only [List.set]
            refine r_aload (pq := 53) C dX11_copy_51 rfl rfl ?_
            refine r_ifnull (pq := 56) C dX11_copy_53 rfl ?_
            refine r_aloadN (pq := 58) C dX11_copy_56 rfl rfl ?_
            refine r_ifnullN (tg := 74) C dX11_copy_58 (by decide) ?_
            refine r_bipush (v := (-12)) (pq := 76) C dX11_copy_74 (by decide) rfl ?_
            refine r_iret C D rfl ⟨Nat.le_refl _, Nat.le_refl _⟩ dX11_copy_76 ?_
            refine ⟨?_, fun _ _ => rfl, B, rfl, ?_⟩
            · unfold rs_copy
              rw [if_neg (fun h => h hok), if_neg (by rw [td, te]; omega), if_pos (by rw [td, te]; omega)]
            · unfold nx_copy
              rw [if_neg (fun h => by have h2 := h.2; rw [td, te] at h2; omega)]
              exact hN
        · by_cases re : 3 ≤ s.2.1 24 e
          · skip
            refine r_iload_n (pq := 1) C dX11_copy_0 rfl rfl ?_
            refine r_callS (pq := 4) C (mc_X11_isShelf) gX11_copy_X11_isShelf rfl (na := 1) (by decide +kernel) rfl (by decide) (by decide) (Nat.le_of_ble_eq_true rfl) ⟨Nat.zero_le _, Nat.zero_le _⟩ dX11_copy_1 rfl rfl (fun r9 w hq => ?_)
            obtain ⟨rfl, rfl⟩ := hq
            dsimp only [Option.toList, List.cons_append, List.nil_append]
            have l1 := b2_lt (rg (nI d) 8)
            refine rN_if_eq (tg := 14) (pq := 7) C dX11_copy_4 (by decide) rfl (by omega) (fun c4 => absurd c4 (b2_1.mpr hok.1)) (fun c4 => ?_)
            refine r_iload_n (pq := 8) C dX11_copy_7 rfl rfl ?_
            refine r_callS (pq := 11) C (mc_X11_isShelf) gX11_copy_X11_isShelf rfl (na := 1) (by decide +kernel) rfl (by decide) (by decide) (Nat.le_of_ble_eq_true rfl) ⟨Nat.zero_le _, Nat.zero_le _⟩ dX11_copy_8 rfl rfl (fun r9 w hq => ?_)
            obtain ⟨rfl, rfl⟩ := hq
            dsimp only [Option.toList, List.cons_append, List.nil_append]
            have l8 := b2_lt (rg (nI e) 8)
            refine rN_if_ne (tg := 16) (pq := 14) C dX11_copy_11 (by decide) rfl (by omega) (fun c11 => ?_) (fun c11 => absurd c11 (b2_1.mpr hok.2))
            refine r_aload_n (pq := 17) C dX11_copy_16 rfl rfl ?_
            refine r_getf (pq := 20) C 12 o0 rfl (by decide) (by decide +kernel) (Or.inl rfl) rfl dX11_copy_17 rfl ?_
            refine r_iload_n (pq := 21) C dX11_copy_20 rfl rfl ?_
            refine rN_aaldS (pq := 22) C 6 rfl rfl e13 (by omega) (by decide) hsd.choose_spec dX11_copy_21 rfl ?_
            refine r_ifnull (pq := 25) C dX11_copy_22 rfl ?_
            refine r_aload_n (pq := 26) C dX11_copy_25 rfl rfl ?_
            refine r_getf (pq := 29) C 12 o0 rfl (by decide) (by decide +kernel) (Or.inl rfl) rfl dX11_copy_26 rfl ?_
            refine r_iload_n (pq := 30) C dX11_copy_29 rfl rfl ?_
            refine rN_aaldS (pq := 31) C 6 rfl rfl e13 (by omega) (by decide) hse.choose_spec dX11_copy_30 rfl ?_
            refine r_ifnonnull (tg := 37) C dX11_copy_31 (by decide) ?_
            refine r_aload_n (pq := 38) C dX11_copy_37 rfl rfl ?_
            refine r_iload_n (pq := 39) C dX11_copy_38 rfl rfl ?_
            refine r_callV (pq := 42) C (mc_X11_rowOn hS hN hd) o0 rfl gX11_copy_X11_rowOn rfl (na := 1) (by decide +kernel) rfl (by decide) (by decide) (Nat.le_of_ble_eq_true rfl) ⟨Nat.zero_le _, Nat.zero_le _⟩ dX11_copy_39 rfl rfl (fun r9 w hq => ?_)
            obtain ⟨rfl, rfl⟩ := hq
            dsimp only [Option.toList, List.cons_append, List.nil_append]
            rw [if_neg (by omega)]
            refine r_astoreN (j := 6) (pq := 44) C dX11_copy_42 rfl (by decide) rfl rfl ?_
            dsimp only [List.set]
            refine r_aload_n (pq := 45) C dX11_copy_44 rfl rfl ?_
            refine r_iload_n (pq := 46) C dX11_copy_45 rfl rfl ?_
            refine r_callV (pq := 49) C (mc_X11_rowOn hS hN he) o0 rfl gX11_copy_X11_rowOn rfl (na := 1) (by decide +kernel) rfl (by decide) (by decide) (Nat.le_of_ble_eq_true rfl) ⟨Nat.zero_le _, Nat.zero_le _⟩ dX11_copy_46 rfl rfl (fun r9 w hq => ?_)
            obtain ⟨rfl, rfl⟩ := hq
            dsimp only [Option.toList, List.cons_append, List.nil_append]
            rw [if_pos re]
            refine r_astore (j := 7) (pq := 51) C dX11_copy_49 rfl (by decide) rfl rfl ?_
            dsimp only [List.set]
            refine r_aloadN (pq := 53) C dX11_copy_51 rfl rfl ?_
            refine r_ifnullN (tg := 74) C dX11_copy_53 (by decide) ?_
            refine r_bipush (v := (-12)) (pq := 76) C dX11_copy_74 (by decide) rfl ?_
            refine r_iret C D rfl ⟨Nat.le_refl _, Nat.le_refl _⟩ dX11_copy_76 ?_
            refine ⟨?_, fun _ _ => rfl, B, rfl, ?_⟩
            · unfold rs_copy
              rw [if_neg (fun h => h hok), if_neg (by rw [td, te]; omega), if_pos (by rw [td, te]; omega)]
            · unfold nx_copy
              rw [if_neg (fun h => by have h2 := h.2; rw [td, te] at h2; omega)]
              exact hN
          · skip
            refine r_iload_n (pq := 1) C dX11_copy_0 rfl rfl ?_
            refine r_callS (pq := 4) C (mc_X11_isShelf) gX11_copy_X11_isShelf rfl (na := 1) (by decide +kernel) rfl (by decide) (by decide) (Nat.le_of_ble_eq_true rfl) ⟨Nat.zero_le _, Nat.zero_le _⟩ dX11_copy_1 rfl rfl (fun r9 w hq => ?_)
            obtain ⟨rfl, rfl⟩ := hq
            dsimp only [Option.toList, List.cons_append, List.nil_append]
            have l1 := b2_lt (rg (nI d) 8)
            refine rN_if_eq (tg := 14) (pq := 7) C dX11_copy_4 (by decide) rfl (by omega) (fun c4 => absurd c4 (b2_1.mpr hok.1)) (fun c4 => ?_)
            refine r_iload_n (pq := 8) C dX11_copy_7 rfl rfl ?_
            refine r_callS (pq := 11) C (mc_X11_isShelf) gX11_copy_X11_isShelf rfl (na := 1) (by decide +kernel) rfl (by decide) (by decide) (Nat.le_of_ble_eq_true rfl) ⟨Nat.zero_le _, Nat.zero_le _⟩ dX11_copy_8 rfl rfl (fun r9 w hq => ?_)
            obtain ⟨rfl, rfl⟩ := hq
            dsimp only [Option.toList, List.cons_append, List.nil_append]
            have l8 := b2_lt (rg (nI e) 8)
            refine rN_if_ne (tg := 16) (pq := 14) C dX11_copy_11 (by decide) rfl (by omega) (fun c11 => ?_) (fun c11 => absurd c11 (b2_1.mpr hok.2))
            refine r_aload_n (pq := 17) C dX11_copy_16 rfl rfl ?_
            refine r_getf (pq := 20) C 12 o0 rfl (by decide) (by decide +kernel) (Or.inl rfl) rfl dX11_copy_17 rfl ?_
            refine r_iload_n (pq := 21) C dX11_copy_20 rfl rfl ?_
            refine rN_aaldS (pq := 22) C 6 rfl rfl e13 (by omega) (by decide) hsd.choose_spec dX11_copy_21 rfl ?_
            refine r_ifnull (pq := 25) C dX11_copy_22 rfl ?_
            refine r_aload_n (pq := 26) C dX11_copy_25 rfl rfl ?_
            refine r_getf (pq := 29) C 12 o0 rfl (by decide) (by decide +kernel) (Or.inl rfl) rfl dX11_copy_26 rfl ?_
            refine r_iload_n (pq := 30) C dX11_copy_29 rfl rfl ?_
            refine rN_aaldS (pq := 31) C 6 rfl rfl e13 (by omega) (by decide) hse.choose_spec dX11_copy_30 rfl ?_
            refine r_ifnonnull (tg := 37) C dX11_copy_31 (by decide) ?_
            refine r_aload_n (pq := 38) C dX11_copy_37 rfl rfl ?_
            refine r_iload_n (pq := 39) C dX11_copy_38 rfl rfl ?_
            refine r_callV (pq := 42) C (mc_X11_rowOn hS hN hd) o0 rfl gX11_copy_X11_rowOn rfl (na := 1) (by decide +kernel) rfl (by decide) (by decide) (Nat.le_of_ble_eq_true rfl) ⟨Nat.zero_le _, Nat.zero_le _⟩ dX11_copy_39 rfl rfl (fun r9 w hq => ?_)
            obtain ⟨rfl, rfl⟩ := hq
            dsimp only [Option.toList, List.cons_append, List.nil_append]
            rw [if_neg (by omega)]
            refine r_astoreN (j := 6) (pq := 44) C dX11_copy_42 rfl (by decide) rfl rfl ?_
            dsimp only [List.set]
            refine r_aload_n (pq := 45) C dX11_copy_44 rfl rfl ?_
            refine r_iload_n (pq := 46) C dX11_copy_45 rfl rfl ?_
            refine r_callV (pq := 49) C (mc_X11_rowOn hS hN he) o0 rfl gX11_copy_X11_rowOn rfl (na := 1) (by decide +kernel) rfl (by decide) (by decide) (Nat.le_of_ble_eq_true rfl) ⟨Nat.zero_le _, Nat.zero_le _⟩ dX11_copy_46 rfl rfl (fun r9 w hq => ?_)
            obtain ⟨rfl, rfl⟩ := hq
            dsimp only [Option.toList, List.cons_append, List.nil_append]
            rw [if_neg (by omega)]
            refine r_astoreN (j := 7) (pq := 51) C dX11_copy_49 rfl (by decide) rfl rfl ?_
            dsimp only [List.set]
            refine r_aloadN (pq := 53) C dX11_copy_51 rfl rfl ?_
            refine r_ifnullN (tg := 74) C dX11_copy_53 (by decide) ?_
            refine r_bipush (v := (-12)) (pq := 76) C dX11_copy_74 (by decide) rfl ?_
            refine r_iret C D rfl ⟨Nat.le_refl _, Nat.le_refl _⟩ dX11_copy_76 ?_
            refine ⟨?_, fun _ _ => rfl, B, rfl, ?_⟩
            · unfold rs_copy
              rw [if_neg (fun h => h hok), if_neg (by rw [td, te]; omega), if_pos (by rw [td, te]; omega)]
            · unfold nx_copy
              rw [if_neg (fun h => by have h2 := h.2; rw [td, te] at h2; omega)]
              exact hN
  · skip
    refine r_iload_n (pq := 1) C dX11_copy_0 rfl rfl ?_
    refine r_callS (pq := 4) C (mc_X11_isShelf) gX11_copy_X11_isShelf rfl (na := 1) (by decide +kernel) rfl (by decide) (by decide) (Nat.le_of_ble_eq_true rfl) ⟨Nat.zero_le _, Nat.zero_le _⟩ dX11_copy_1 rfl rfl (fun r9 w hq => ?_)
    obtain ⟨rfl, rfl⟩ := hq
    dsimp only [Option.toList, List.cons_append, List.nil_append]
    have l1 := b2_lt (rg x 8)
    refine rN_if_eq (tg := 14) (pq := 7) C dX11_copy_4 (by decide) rfl (by omega) (fun c4 => ?_) (fun c4 => ?_)
    · refine r_iconst (v := (-1)) (pq := 15) C dX11_copy_14 (by decide) rfl ?_
      refine r_iret C D rfl ⟨Nat.le_refl _, Nat.le_refl _⟩ dX11_copy_15 ?_
      refine ⟨?_, fun _ _ => rfl, B, rfl, ?_⟩
      · unfold rs_copy
        rw [if_pos hok]
      · unfold nx_copy
        rw [if_neg (fun h => hok h.1)]
        exact hN
    · refine r_iload_n (pq := 8) C dX11_copy_7 rfl rfl ?_
      refine r_callS (pq := 11) C (mc_X11_isShelf) gX11_copy_X11_isShelf rfl (na := 1) (by decide +kernel) rfl (by decide) (by decide) (Nat.le_of_ble_eq_true rfl) ⟨Nat.zero_le _, Nat.zero_le _⟩ dX11_copy_8 rfl rfl (fun r9 w hq => ?_)
      obtain ⟨rfl, rfl⟩ := hq
      dsimp only [Option.toList, List.cons_append, List.nil_append]
      have l8 := b2_lt (rg y 8)
      refine rN_if_ne (tg := 16) (pq := 14) C dX11_copy_11 (by decide) rfl (by omega) (fun c11 => ?_) (fun c11 => ?_)
      · exact absurd ⟨b2_1.mp c4, b2_1.mp c11⟩ hok
      · refine r_iconst (v := (-1)) (pq := 15) C dX11_copy_14 (by decide) rfl ?_
        refine r_iret C D rfl ⟨Nat.le_refl _, Nat.le_refl _⟩ dX11_copy_15 ?_
        refine ⟨?_, fun _ _ => rfl, B, rfl, ?_⟩
        · unfold rs_copy
          rw [if_pos hok]
        · unfold nx_copy
          rw [if_neg (fun h => hok h.1)]
          exact hN


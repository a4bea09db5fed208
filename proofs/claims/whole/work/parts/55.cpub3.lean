/-! ===== the class's calls: drop, mark, nights, sure ===== -/
theorem cnF_drop {f : Nat → Nat → Nat} {m z p d : Nat} (h : p ≠ f 7 m ∨ d < f 8 m ∨ f 9 m < d) : ∀ n, cnF (upf f 11 m z) p d n = cnF f p d n
  | 0 => rfl
  | n + 1 => by
    have ih := cnF_drop (z := z) h n
    have q : ∀ k, k ≠ 11 → upf f 11 m z k n = f k n := fun k hk => by rw [upf_o _ _ hk]
    simp only [cnF, cnS]
    rw [ih, q 7 (by decide), q 8 (by decide), q 9 (by decide), q 6 (by decide), q 10 (by decide)]
    by_cases e : n = m
    · subst e
      rw [if_neg (by omega), if_neg (by omega)]
    · rw [upf_n _ _ e]
theorem cn_drop {f : Nat → Nat → Nat} {m z p d M : Nat} (h : p ≠ f 7 m ∨ d < f 8 m ∨ f 9 m < d) : cn (upf f 11 m z) M p d = cn f M p d := by
  unfold cn
  rw [cnF_drop h]
theorem whl_drop {f : Nat → Nat → Nat} {m z M : Nat} (hw : whl f M (f 7 m)) (hb : f 9 m < 400) : whl (upf f 11 m z) M (f 7 m) ↔ ∀ e, f 8 m ≤ e → e ≤ f 9 m → cn (upf f 11 m z) M (f 7 m) e ≠ 0 := by
  refine ⟨fun h e _ _ => h e (by omega), fun h d hd => ?_⟩
  by_cases q : f 8 m ≤ d ∧ d ≤ f 9 m
  · exact h d q.1 q.2
  · rw [cn_drop (by omega)]
    exact hw d hd
theorem fl_drop (s : ST) (m z : Nat) : mFl (s.1, upf s.2.1 11 m z, s.2.2) m = [.int (nI m), .int (nI (s.2.1 8 m)), .int (nI (s.2.1 9 m)), .int (nI (s.2.1 10 m)), .int (nI (s.2.1 7 m)), .int (nI z)] := by
  dsimp only [mFl]
  rw [upf_s, upf_o _ _ (by decide), upf_o _ _ (by decide), upf_o _ _ (by decide), upf_o _ _ (by decide)]
theorem fl_drop2 (s : ST) {m m' : Nat} (z : Nat) (h : m' ≠ m) : mFl (s.1, upf s.2.1 11 m z, s.2.2) m' = mFl s m' := by
  dsimp only [mFl]
  rw [upf_n _ _ h, upf_o _ _ (by decide), upf_o _ _ (by decide), upf_o _ _ (by decide), upf_o _ _ (by decide)]
theorem z_nar {z : Nat} (h : z < 2) : narrow .boolean (.int (nI z)) = .int (nI z) ∧ fits .boolean (.int (nI z)) = true := by
  rcases na_01 h with e | e <;> rw [e] <;> exact ⟨rfl, rfl⟩

set_option maxHeartbeats 4000000 in
set_option maxRecDepth 100000 in
/-- drop -/
theorem mc_X11_drop {l : Launch} {E : EV} {w : RW} {B : Nat → Nat} {s : ST} (hS : SI s) (hN : NS E B s w) {x : Int32} {z9 : Nat} (hz9 : z9 < 2) : MC l E yX11_drop wsX11_drop 3 0 0 [.ref (B 0), .int x, .int (nI z9)] (w) (nP E B w (rs_drop s x z9) (nx_drop s x z9)) := by
  refine MC.enter (cc := cX11_drop) (maxL := 4) (ret := (some .int)) (lv0 := [some (.ref (B 0)), some (.int x), some (.int (nI z9)), none]) (by decide) rfl (by simp [Value.category]) (Nat.le_of_ble_eq_true rfl) rfl ?_
  intro X hl hE C D
  subst hl
  subst hE
  have hI1 : s.1 1 ≤ 6 := hS.2.1
  have hI5 : s.1 5 ≤ 80 := hS.2.2.1
  have hI16 : s.1 16 ≤ 12 := hS.2.2.2.1
  have hNN := hN
  obtain ⟨o0, ⟨u1, e1, f1⟩, ⟨u2, e2, f2⟩, ⟨u3, e3, f3⟩, ⟨u5, e5, f5⟩, ⟨u6, e6, f6⟩, ⟨u8, e8, f8⟩, ⟨u10, e10, f10⟩, ⟨u11, e11, f11⟩, ⟨u13, e13, f13⟩, ⟨u14, e14, f14⟩, ⟨u15, e15⟩, ⟨u16, e16⟩, h20, h30, h100, h200, h220, h240, h300, h310⟩ := hNN
  by_cases hok : rg x (s.1 5)
  · obtain ⟨m, hm9, rfl⟩ := rg_of hok (by omega)
    refine r_aload_n (pq := 1) C dX11_drop_0 rfl rfl ?_
    refine r_iload_n (pq := 2) C dX11_drop_1 rfl rfl ?_
    refine r_callV (pq := 5) C (mc_X11_markAt hI5 o0 e6 f6) o0 rfl gX11_drop_X11_markAt rfl (na := 1) (by decide +kernel) rfl (by decide) (by decide) (Nat.le_of_ble_eq_true rfl) ⟨Nat.zero_le _, Nat.zero_le _⟩ dX11_drop_2 rfl rfl (fun r9 w hq => ?_)
    obtain ⟨rfl, rfl⟩ := hq
    dsimp only [Option.toList, List.cons_append, List.nil_append]
    rw [if_pos hok, tn_nI (by omega)]
    have hm := h100 m hm9
    have hb9 := hS.2.2.2.2.2.1 m hm9
    have hw9p := hS.2.2.2.2.2.2.2.2.2.2 _ hb9.2.1
    refine r_astore_n (j := 3) (pq := 6) C dX11_drop_5 rfl (by decide) rfl rfl ?_
    dsimp only [List.set]
    refine r_aload_n (pq := 7) C dX11_drop_6 rfl rfl ?_
    refine r_ifnonnull (tg := 12) C dX11_drop_7 (by decide) ?_
    refine r_aload_n (pq := 13) C dX11_drop_12 rfl rfl ?_
    refine r_getM (pq := 16) C (mkC_M _) 5 hm (by decide) (by decide +kernel) rfl rfl dX11_drop_13 rfl ?_
    refine r_iload_n (pq := 17) C dX11_drop_16 rfl rfl ?_
    refine rN_icmp_ne (tg := 22) (pq := 20) C dX11_drop_17 (by decide) rfl (by omega) (by omega) (fun c17 => ?_) (fun c17 => ?_)
    · refine r_aload_n (pq := 23) C dX11_drop_22 rfl rfl ?_
      refine r_iload_n (pq := 24) C dX11_drop_23 rfl rfl ?_
      refine r_putM (pq := 27) C (mkC_M _) 5 hm (by decide) (by decide +kernel) rfl rfl rfl (z_nar hz9).1 (z_nar hz9).2 (Nat.le_of_ble_eq_true rfl) dX11_drop_24 rfl ?_
      refine r_aload_n (pq := 28) C dX11_drop_27 rfl rfl ?_
      refine r_aload_n (pq := 29) C dX11_drop_28 rfl rfl ?_
      refine r_getM (pq := 32) C (mkC_M _) 4 (va_s _ _ _) (by decide) (by decide +kernel) rfl rfl dX11_drop_29 rfl ?_
      refine r_aload_n (pq := 33) C dX11_drop_32 rfl rfl ?_
      refine r_getM (pq := 36) C (mkC_M _) 4 (va_s _ _ _) (by decide) (by decide +kernel) rfl rfl dX11_drop_33 rfl ?_
      refine r_aload_n (pq := 37) C dX11_drop_36 rfl rfl ?_
      refine r_getM (pq := 40) C (mkC_M _) 1 (va_s _ _ _) (by decide) (by decide +kernel) rfl rfl dX11_drop_37 rfl ?_
      refine r_aload_n (pq := 41) C dX11_drop_40 rfl rfl ?_
      refine r_getM (pq := 44) C (mkC_M _) 2 (va_s _ _ _) (by decide) (by decide +kernel) rfl rfl dX11_drop_41 rfl ?_
      have hB1 : ∀ k, k < s.1 5 → upf s.2.1 11 m z9 6 k < 4 ∧ upf s.2.1 11 m z9 7 k < 6 ∧ upf s.2.1 11 m z9 8 k ≤ upf s.2.1 11 m z9 9 k ∧ upf s.2.1 11 m z9 9 k < 400 ∧ upf s.2.1 11 m z9 10 k ≤ 255 ∧ upf s.2.1 11 m z9 11 k < 2 := by
        intro k hk
        have z := hS.2.2.2.2.2.1 k hk
        rw [upf_o _ _ (by decide), upf_o _ _ (by decide), upf_o _ _ (by decide), upf_o _ _ (by decide), upf_o _ _ (by decide)]
        by_cases e : k = m
        · subst e; rw [upf_s]; omega
        · rw [upf_n _ _ e]; omega
      have hM1 : ∀ k, k < s.1 5 → (va_up w (100 + m) (some (B (100 + m), .inr (mkC (s.2.1 6 m), [.int (nI m), .int (nI (s.2.1 8 m)), .int (nI (s.2.1 9 m)), .int (nI (s.2.1 10 m)), .int (nI (s.2.1 7 m)), .int (nI z9)])))) (100 + k) = some (B (100 + k), .inr (mkC (upf s.2.1 11 m z9 6 k), mFl (s.1, upf s.2.1 11 m z9, s.2.2) k)) := by
        intro k hk
        rw [upf_o _ _ (by decide)]
        by_cases e : k = m
        · subst e
          rw [va_s, fl_drop]
        · rw [va_n _ _ (by omega), fl_drop2 s z9 e]
          exact h100 k hk
      have e7 : upf s.2.1 11 m z9 7 m = s.2.1 7 m := by rw [upf_o _ _ (by decide)]
      obtain ⟨h9, a1, a2⟩ := h20 (s.2.1 7 m) (by omega)
      have hwh := whl_drop (m := m) (z := z9) hw9p hb9.2.2.2.1
      refine GG.cast (show _ = va_up w (100 + m) (some (B (100 + m), .inr (mkC (s.2.1 6 m), [.int (nI m), .int (nI (s.2.1 8 m)), .int (nI (s.2.1 9 m)), .int (nI (s.2.1 10 m)), .int (nI (s.2.1 7 m)), .int (nI z9)]))) from rfl) ?_
      refine r_callV (pq := 47) C (mc_X11_tellAnew (B := B) (s := (s.1, upf s.2.1 11 m z9, s.2.2)) (F := upf s.2.1 11 m z9) (w := va_up w (100 + m) (some (B (100 + m), .inr (mkC (s.2.1 6 m), [.int (nI m), .int (nI (s.2.1 8 m)), .int (nI (s.2.1 9 m)), .int (nI (s.2.1 10 m)), .int (nI (s.2.1 7 m)), .int (nI z9)])))) hI5 (by omega) (by omega) hb9.2.2.1 (by omega) (fun _ _ => rfl) (fun k _ => ⟨Or.inl, fun h => h.elim id id⟩) hB1 ((va_n _ _ (by omega)).trans o0) ((va_n _ _ (by omega)).trans e5) f5 ((va_n _ _ (by omega)).trans e6) f6 ((va_n _ _ (by omega)).trans e15) ((va_n _ _ (by omega)).trans e16) ((va_n _ _ (by omega)).trans a1) hM1) ((va_n _ _ (by omega)).trans o0) rfl gX11_drop_X11_tellAnew rfl (na := 4) (by decide +kernel) rfl (by decide) (by decide) (Nat.le_of_ble_eq_true rfl) ⟨Nat.zero_le _, Nat.zero_le _⟩ dX11_drop_44 rfl rfl (fun r9 w9 hq => ?_)
      obtain ⟨rfl, ⟨d15, g15⟩, ⟨d16, g16⟩, ⟨d20, g20, k1, k2⟩, hw9⟩ := hq
      dsimp only [Option.toList, List.cons_append, List.nil_append]
      have l44 := b2_lt (∀ e, s.2.1 8 m ≤ e → e ≤ s.2.1 9 m → cn (upf s.2.1 11 m z9) (s.1 5) (s.2.1 7 m) e ≠ 0)
      refine rN_if_eq (tg := 52) (pq := 50) C dX11_drop_47 (by decide) rfl (by omega) (fun c47 => ?_) (fun c47 => ?_)
      · refine r_aload_n (pq := 53) C dX11_drop_52 rfl rfl ?_
        refine r_iload_n (pq := 54) C dX11_drop_53 rfl rfl ?_
        refine rN_if_ne (tg := 61) (pq := 57) C dX11_drop_54 (by decide) rfl (by omega) (fun c54 => ?_) (fun c54 => ?_)
        · refine r_iconst (v := nI 0) (pq := 62) C dX11_drop_61 (by decide) rfl ?_
          refine r_putM (pq := 65) C (mkC_M _) 5 ((hw9 _ (by omega) (by omega) (by omega)).trans (hM1 m hm9)) (by decide) (by decide +kernel) rfl rfl rfl (z_nar (by decide)).1 (z_nar (by decide)).2 (Nat.le_of_ble_eq_true rfl) dX11_drop_62 rfl ?_
          refine r_bipush (v := (-4)) (pq := 67) C dX11_drop_65 (by decide) rfl ?_
          refine r_iret C D rfl ⟨Nat.le_refl _, Nat.le_refl _⟩ dX11_drop_67 ?_
          refine ⟨?_, fun z hz => (va_n _ _ (by omega)).trans ((hw9 z (by omega) (by omega) (by omega)).trans (va_n _ _ (by omega))), B, rfl, ?_⟩
          · unfold rs_drop
            rw [if_pos hok, tn_nI (by omega), if_neg c17, if_neg (fun h => b2_0.mp c47 (hwh.mp h))]
          · unfold nx_drop
            rw [tn_nI (by omega), if_neg (fun h => b2_0.mp c47 (hwh.mp h.2.2))]
            refine ⟨?_, ?_, ?_, ?_, ?_, ?_, ?_, ?_, ?_, ?_, ?_, ?_, ?_, ?_, ?_, ?_, ?_, ?_, ?_, ?_, ?_⟩
            · exact ((va_n _ _ (by omega)).trans ((hw9 0 (by omega) (by omega) (by omega)).trans (va_n _ _ (by omega)))).trans o0
            · exact ⟨u1, ((va_n _ _ (by omega)).trans ((hw9 1 (by omega) (by omega) (by omega)).trans (va_n _ _ (by omega)))).trans e1, f1⟩
            · exact ⟨u2, ((va_n _ _ (by omega)).trans ((hw9 2 (by omega) (by omega) (by omega)).trans (va_n _ _ (by omega)))).trans e2, f2⟩
            · exact ⟨u3, ((va_n _ _ (by omega)).trans ((hw9 3 (by omega) (by omega) (by omega)).trans (va_n _ _ (by omega)))).trans e3, f3⟩
            · exact ⟨u5, ((va_n _ _ (by omega)).trans ((hw9 5 (by omega) (by omega) (by omega)).trans (va_n _ _ (by omega)))).trans e5, f5⟩
            · exact ⟨u6, ((va_n _ _ (by omega)).trans ((hw9 6 (by omega) (by omega) (by omega)).trans (va_n _ _ (by omega)))).trans e6, f6⟩
            · exact ⟨u8, ((va_n _ _ (by omega)).trans ((hw9 8 (by omega) (by omega) (by omega)).trans (va_n _ _ (by omega)))).trans e8, f8⟩
            · exact ⟨u10, ((va_n _ _ (by omega)).trans ((hw9 10 (by omega) (by omega) (by omega)).trans (va_n _ _ (by omega)))).trans e10, f10⟩
            · exact ⟨u11, ((va_n _ _ (by omega)).trans ((hw9 11 (by omega) (by omega) (by omega)).trans (va_n _ _ (by omega)))).trans e11, f11⟩
            · exact ⟨u13, ((va_n _ _ (by omega)).trans ((hw9 13 (by omega) (by omega) (by omega)).trans (va_n _ _ (by omega)))).trans e13, f13⟩
            · exact ⟨u14, ((va_n _ _ (by omega)).trans ((hw9 14 (by omega) (by omega) (by omega)).trans (va_n _ _ (by omega)))).trans e14, f14⟩
            · exact ⟨_, (va_n _ _ (by omega)).trans g15⟩
            · exact ⟨_, (va_n _ _ (by omega)).trans g16⟩
            · intro p hp6
              by_cases e : p = s.2.1 7 m
              · subst e
                refine ⟨d20, (va_n _ _ (by omega)).trans g20, fun _ d hd => ?_⟩
                rw [k2 d hd (Or.inr (Or.inr (b2_0.mp c47))), a2 hb9.2.1 d hd]
              · obtain ⟨h8, b1, b2⟩ := h20 p hp6
                exact ⟨h8, ((va_n _ _ (by omega)).trans ((hw9 _ (by omega) (by omega) (by omega)).trans (va_n _ _ (by omega)))).trans b1, b2⟩
            · intro l hl
              obtain ⟨x, y, a1⟩ := h30 l hl
              exact ⟨x, y, ((va_n _ _ (by omega)).trans ((hw9 (30 + l) (by omega) (by omega) (by omega)).trans (va_n _ _ (by omega)))).trans a1⟩
            · intro k hk
              by_cases e : k = m
              · subst e
                rw [va_s]
                dsimp only [mFl]
                rw [show s.2.1 11 k = 0 by omega]
                rfl
              · exact ((va_n _ _ (by omega)).trans ((hw9 _ (by omega) (by omega) (by omega)).trans (va_n _ _ (by omega)))).trans (h100 k hk)
            · intro j hj
              obtain ⟨z, a1⟩ := h200 j hj
              exact ⟨z, ((va_n _ _ (by omega)).trans ((hw9 (200 + j) (by omega) (by omega) (by omega)).trans (va_n _ _ (by omega)))).trans a1⟩
            · intro j hj
              obtain ⟨x, y, a1⟩ := h220 j hj
              exact ⟨x, y, ((va_n _ _ (by omega)).trans ((hw9 (220 + j) (by omega) (by omega) (by omega)).trans (va_n _ _ (by omega)))).trans a1⟩
            · intro j hj
              obtain ⟨x, y, a1⟩ := h240 j hj
              exact ⟨x, y, ((va_n _ _ (by omega)).trans ((hw9 (240 + j) (by omega) (by omega) (by omega)).trans (va_n _ _ (by omega)))).trans a1⟩
            · intro d hd h3
              exact ((va_n _ _ (by omega)).trans ((hw9 (300 + d) (by omega) (by omega) (by omega)).trans (va_n _ _ (by omega)))).trans (h300 d hd h3)
            · intro d hd h3
              obtain ⟨h9, a1, a2⟩ := h310 d hd h3
              exact ⟨h9, ((va_n _ _ (by omega)).trans ((hw9 (310 + d) (by omega) (by omega) (by omega)).trans (va_n _ _ (by omega)))).trans a1, a2⟩
        · refine r_iconst (v := nI 1) (pq := 58) C dX11_drop_57 (by decide) rfl ?_
          refine r_goto (tg := 62) C dX11_drop_58 (by decide) ?_
          refine r_putM (pq := 65) C (mkC_M _) 5 ((hw9 _ (by omega) (by omega) (by omega)).trans (hM1 m hm9)) (by decide) (by decide +kernel) rfl rfl rfl (z_nar (by decide)).1 (z_nar (by decide)).2 (Nat.le_of_ble_eq_true rfl) dX11_drop_62 rfl ?_
          refine r_bipush (v := (-4)) (pq := 67) C dX11_drop_65 (by decide) rfl ?_
          refine r_iret C D rfl ⟨Nat.le_refl _, Nat.le_refl _⟩ dX11_drop_67 ?_
          refine ⟨?_, fun z hz => (va_n _ _ (by omega)).trans ((hw9 z (by omega) (by omega) (by omega)).trans (va_n _ _ (by omega))), B, rfl, ?_⟩
          · unfold rs_drop
            rw [if_pos hok, tn_nI (by omega), if_neg c17, if_neg (fun h => b2_0.mp c47 (hwh.mp h))]
          · unfold nx_drop
            rw [tn_nI (by omega), if_neg (fun h => b2_0.mp c47 (hwh.mp h.2.2))]
            refine ⟨?_, ?_, ?_, ?_, ?_, ?_, ?_, ?_, ?_, ?_, ?_, ?_, ?_, ?_, ?_, ?_, ?_, ?_, ?_, ?_, ?_⟩
            · exact ((va_n _ _ (by omega)).trans ((hw9 0 (by omega) (by omega) (by omega)).trans (va_n _ _ (by omega)))).trans o0
            · exact ⟨u1, ((va_n _ _ (by omega)).trans ((hw9 1 (by omega) (by omega) (by omega)).trans (va_n _ _ (by omega)))).trans e1, f1⟩
            · exact ⟨u2, ((va_n _ _ (by omega)).trans ((hw9 2 (by omega) (by omega) (by omega)).trans (va_n _ _ (by omega)))).trans e2, f2⟩
            · exact ⟨u3, ((va_n _ _ (by omega)).trans ((hw9 3 (by omega) (by omega) (by omega)).trans (va_n _ _ (by omega)))).trans e3, f3⟩
            · exact ⟨u5, ((va_n _ _ (by omega)).trans ((hw9 5 (by omega) (by omega) (by omega)).trans (va_n _ _ (by omega)))).trans e5, f5⟩
            · exact ⟨u6, ((va_n _ _ (by omega)).trans ((hw9 6 (by omega) (by omega) (by omega)).trans (va_n _ _ (by omega)))).trans e6, f6⟩
            · exact ⟨u8, ((va_n _ _ (by omega)).trans ((hw9 8 (by omega) (by omega) (by omega)).trans (va_n _ _ (by omega)))).trans e8, f8⟩
            · exact ⟨u10, ((va_n _ _ (by omega)).trans ((hw9 10 (by omega) (by omega) (by omega)).trans (va_n _ _ (by omega)))).trans e10, f10⟩
            · exact ⟨u11, ((va_n _ _ (by omega)).trans ((hw9 11 (by omega) (by omega) (by omega)).trans (va_n _ _ (by omega)))).trans e11, f11⟩
            · exact ⟨u13, ((va_n _ _ (by omega)).trans ((hw9 13 (by omega) (by omega) (by omega)).trans (va_n _ _ (by omega)))).trans e13, f13⟩
            · exact ⟨u14, ((va_n _ _ (by omega)).trans ((hw9 14 (by omega) (by omega) (by omega)).trans (va_n _ _ (by omega)))).trans e14, f14⟩
            · exact ⟨_, (va_n _ _ (by omega)).trans g15⟩
            · exact ⟨_, (va_n _ _ (by omega)).trans g16⟩
            · intro p hp6
              by_cases e : p = s.2.1 7 m
              · subst e
                refine ⟨d20, (va_n _ _ (by omega)).trans g20, fun _ d hd => ?_⟩
                rw [k2 d hd (Or.inr (Or.inr (b2_0.mp c47))), a2 hb9.2.1 d hd]
              · obtain ⟨h8, b1, b2⟩ := h20 p hp6
                exact ⟨h8, ((va_n _ _ (by omega)).trans ((hw9 _ (by omega) (by omega) (by omega)).trans (va_n _ _ (by omega)))).trans b1, b2⟩
            · intro l hl
              obtain ⟨x, y, a1⟩ := h30 l hl
              exact ⟨x, y, ((va_n _ _ (by omega)).trans ((hw9 (30 + l) (by omega) (by omega) (by omega)).trans (va_n _ _ (by omega)))).trans a1⟩
            · intro k hk
              by_cases e : k = m
              · subst e
                rw [va_s]
                dsimp only [mFl]
                rw [show s.2.1 11 k = 1 by omega]
                rfl
              · exact ((va_n _ _ (by omega)).trans ((hw9 _ (by omega) (by omega) (by omega)).trans (va_n _ _ (by omega)))).trans (h100 k hk)
            · intro j hj
              obtain ⟨z, a1⟩ := h200 j hj
              exact ⟨z, ((va_n _ _ (by omega)).trans ((hw9 (200 + j) (by omega) (by omega) (by omega)).trans (va_n _ _ (by omega)))).trans a1⟩
            · intro j hj
              obtain ⟨x, y, a1⟩ := h220 j hj
              exact ⟨x, y, ((va_n _ _ (by omega)).trans ((hw9 (220 + j) (by omega) (by omega) (by omega)).trans (va_n _ _ (by omega)))).trans a1⟩
            · intro j hj
              obtain ⟨x, y, a1⟩ := h240 j hj
              exact ⟨x, y, ((va_n _ _ (by omega)).trans ((hw9 (240 + j) (by omega) (by omega) (by omega)).trans (va_n _ _ (by omega)))).trans a1⟩
            · intro d hd h3
              exact ((va_n _ _ (by omega)).trans ((hw9 (300 + d) (by omega) (by omega) (by omega)).trans (va_n _ _ (by omega)))).trans (h300 d hd h3)
            · intro d hd h3
              obtain ⟨h9, a1, a2⟩ := h310 d hd h3
              exact ⟨h9, ((va_n _ _ (by omega)).trans ((hw9 (310 + d) (by omega) (by omega) (by omega)).trans (va_n _ _ (by omega)))).trans a1, a2⟩
      · refine r_iconst (v := nI 1) (pq := 51) C dX11_drop_50 (by decide) rfl ?_
        refine r_iret C D rfl ⟨Nat.le_refl _, Nat.le_refl _⟩ dX11_drop_51 ?_
        refine ⟨?_, fun z hz => (hw9 z (by omega) (by omega) (by omega)).trans (va_n _ _ (by omega)), B, rfl, ?_⟩
        · unfold rs_drop
          rw [if_pos hok, tn_nI (by omega), if_neg c17, if_pos (hwh.mpr (b2_1.mp c47))]
          rfl
        · unfold nx_drop
          rw [tn_nI (by omega), if_pos ⟨hok, c17, hwh.mpr (b2_1.mp c47)⟩]
          refine ⟨?_, ?_, ?_, ?_, ?_, ?_, ?_, ?_, ?_, ?_, ?_, ?_, ?_, ?_, ?_, ?_, ?_, ?_, ?_, ?_, ?_⟩
          · exact ((hw9 0 (by omega) (by omega) (by omega)).trans (va_n _ _ (by omega))).trans o0
          · exact ⟨u1, ((hw9 1 (by omega) (by omega) (by omega)).trans (va_n _ _ (by omega))).trans e1, f1⟩
          · exact ⟨u2, ((hw9 2 (by omega) (by omega) (by omega)).trans (va_n _ _ (by omega))).trans e2, f2⟩
          · exact ⟨u3, ((hw9 3 (by omega) (by omega) (by omega)).trans (va_n _ _ (by omega))).trans e3, f3⟩
          · exact ⟨u5, ((hw9 5 (by omega) (by omega) (by omega)).trans (va_n _ _ (by omega))).trans e5, f5⟩
          · exact ⟨u6, ((hw9 6 (by omega) (by omega) (by omega)).trans (va_n _ _ (by omega))).trans e6, f6⟩
          · exact ⟨u8, ((hw9 8 (by omega) (by omega) (by omega)).trans (va_n _ _ (by omega))).trans e8, f8⟩
          · exact ⟨u10, ((hw9 10 (by omega) (by omega) (by omega)).trans (va_n _ _ (by omega))).trans e10, f10⟩
          · exact ⟨u11, ((hw9 11 (by omega) (by omega) (by omega)).trans (va_n _ _ (by omega))).trans e11, f11⟩
          · exact ⟨u13, ((hw9 13 (by omega) (by omega) (by omega)).trans (va_n _ _ (by omega))).trans e13, f13⟩
          · exact ⟨u14, ((hw9 14 (by omega) (by omega) (by omega)).trans (va_n _ _ (by omega))).trans e14, f14⟩
          · exact ⟨_, g15⟩
          · exact ⟨_, g16⟩
          · intro p hp6
            by_cases e : p = s.2.1 7 m
            · subst e
              refine ⟨d20, g20, fun _ d hd => ?_⟩
              by_cases z : s.2.1 8 m ≤ d ∧ d ≤ s.2.1 9 m
              · exact k1 (b2_1.mp c47) d z.1 z.2
              · rw [k2 d hd (by omega), a2 hb9.2.1 d hd]
                exact congrArg nI (cn_drop (f := s.2.1) (m := m) (z := z9) (p := s.2.1 7 m) (d := d) (M := s.1 5) (by omega)).symm
            · obtain ⟨h8, b1, b2⟩ := h20 p hp6
              refine ⟨h8, ((hw9 _ (by omega) (by omega) (by omega)).trans (va_n _ _ (by omega))).trans b1, fun z d hd => ?_⟩
              rw [b2 z d hd]
              exact congrArg nI (cn_drop (f := s.2.1) (m := m) (z := z9) (p := p) (d := d) (M := s.1 5) (Or.inl e)).symm
          · intro l hl
            obtain ⟨x, y, a1⟩ := h30 l hl
            exact ⟨x, y, ((hw9 (30 + l) (by omega) (by omega) (by omega)).trans (va_n _ _ (by omega))).trans a1⟩
          · intro k hk
            exact (hw9 _ (by omega) (by omega) (by omega)).trans (hM1 k hk)
          · intro j hj
            obtain ⟨z, a1⟩ := h200 j hj
            exact ⟨z, ((hw9 (200 + j) (by omega) (by omega) (by omega)).trans (va_n _ _ (by omega))).trans a1⟩
          · intro j hj
            obtain ⟨x, y, a1⟩ := h220 j hj
            exact ⟨x, y, ((hw9 (220 + j) (by omega) (by omega) (by omega)).trans (va_n _ _ (by omega))).trans a1⟩
          · intro j hj
            obtain ⟨x, y, a1⟩ := h240 j hj
            exact ⟨x, y, ((hw9 (240 + j) (by omega) (by omega) (by omega)).trans (va_n _ _ (by omega))).trans a1⟩
          · intro d hd h3
            exact ((hw9 (300 + d) (by omega) (by omega) (by omega)).trans (va_n _ _ (by omega))).trans (h300 d hd h3)
          · intro d hd h3
            obtain ⟨h9, a1, a2⟩ := h310 d hd h3
            exact ⟨h9, ((hw9 (310 + d) (by omega) (by omega) (by omega)).trans (va_n _ _ (by omega))).trans a1, a2⟩
    · refine r_iconst (v := nI 0) (pq := 21) C dX11_drop_20 (by decide) rfl ?_
      refine r_iret C D rfl ⟨Nat.le_refl _, Nat.le_refl _⟩ dX11_drop_21 ?_
      refine ⟨?_, fun _ _ => rfl, B, rfl, ?_⟩
      · unfold rs_drop
        rw [if_pos hok, tn_nI (by omega), if_pos c17]
        rfl
      · unfold nx_drop
        rw [tn_nI (by omega), if_neg (fun h => h.2.1 c17)]
        exact hN
  · have hbad := hok
    refine r_aload_n (pq := 1) C dX11_drop_0 rfl rfl ?_
    refine r_iload_n (pq := 2) C dX11_drop_1 rfl rfl ?_
    refine r_callV (pq := 5) C (mc_X11_markAt hI5 o0 e6 f6) o0 rfl gX11_drop_X11_markAt rfl (na := 1) (by decide +kernel) rfl (by decide) (by decide) (Nat.le_of_ble_eq_true rfl) ⟨Nat.zero_le _, Nat.zero_le _⟩ dX11_drop_2 rfl rfl (fun r9 w hq => ?_)
    obtain ⟨rfl, rfl⟩ := hq
    dsimp only [Option.toList, List.cons_append, List.nil_append]
    rw [if_neg hok]
    refine r_astore_nN (j := 3) (pq := 6) C dX11_drop_5 rfl (by decide) rfl rfl ?_
    dsimp only [List.set]
    refine r_aload_nN (pq := 7) C dX11_drop_6 rfl rfl ?_
    refine r_ifnonnullN (pq := 10) C dX11_drop_7 rfl ?_
    refine r_iconst (v := (-1)) (pq := 11) C dX11_drop_10 (by decide) rfl ?_
    refine r_iret C D rfl ⟨Nat.le_refl _, Nat.le_refl _⟩ dX11_drop_11 ?_
    refine ⟨?_, fun _ _ => rfl, B, rfl, ?_⟩
    · unfold rs_drop
      rw [if_neg hbad]
    · unfold nx_drop
      rw [if_neg (fun h => hbad h.1)]
      exact hN

set_option maxHeartbeats 4000000 in
set_option maxRecDepth 100000 in
/-- mark -/
theorem mc_X11_mark {l : Launch} {E : EV} {w : RW} {B : Nat → Nat} {s : ST} (hS : SI s) (hN : NS E B s w) {x y : Int32} : MC l E yX11_mark wsX11_mark 1 0 0 [.ref (B 0), .int x, .int y] (w) (nP E B w (rs_mark s x y) (s)) := by
  refine MC.enter (cc := cX11_mark) (maxL := 4) (ret := (some .int)) (lv0 := [some (.ref (B 0)), some (.int x), some (.int y), none]) (by decide) rfl (by simp [Value.category]) (Nat.le_of_ble_eq_true rfl) rfl ?_
  intro X hl hE C D
  subst hl
  subst hE
  have hI1 : s.1 1 ≤ 6 := hS.2.1
  have hI5 : s.1 5 ≤ 80 := hS.2.2.1
  have hI16 : s.1 16 ≤ 12 := hS.2.2.2.1
  have hNN := hN
  obtain ⟨o0, ⟨u1, e1, f1⟩, ⟨u2, e2, f2⟩, ⟨u3, e3, f3⟩, ⟨u5, e5, f5⟩, ⟨u6, e6, f6⟩, ⟨u8, e8, f8⟩, ⟨u10, e10, f10⟩, ⟨u11, e11, f11⟩, ⟨u13, e13, f13⟩, ⟨u14, e14, f14⟩, ⟨u15, e15⟩, ⟨u16, e16⟩, h20, h30, h100, h200, h220, h240, h300, h310⟩ := hNN
  by_cases hok : rg x (s.1 5)
  · obtain ⟨m, hm9, rfl⟩ := rg_of hok (by omega)
    by_cases hy : rg y 6
    · obtain ⟨y9, hy9, rfl⟩ := rg_of hy (by omega)
      rcases (by omega : y9 = 0 ∨ y9 = 1 ∨ y9 = 2 ∨ y9 = 3 ∨ y9 = 4 ∨ y9 = 5) with e | e | e | e | e | e <;> subst e
      · refine r_aload_n (pq := 1) C dX11_mark_0 rfl rfl ?_
        refine r_iload_n (pq := 2) C dX11_mark_1 rfl rfl ?_
        refine r_callV (pq := 5) C (mc_X11_markAt hI5 o0 e6 f6) o0 rfl gX11_mark_X11_markAt rfl (na := 1) (by decide +kernel) rfl (by decide) (by decide) (Nat.le_of_ble_eq_true rfl) ⟨Nat.zero_le _, Nat.zero_le _⟩ dX11_mark_2 rfl rfl (fun r9 w hq => ?_)
        obtain ⟨rfl, rfl⟩ := hq
        dsimp only [Option.toList, List.cons_append, List.nil_append]
        rw [if_pos hok, tn_nI (by omega)]
        have hm := h100 m hm9
        have hb9 := hS.2.2.2.2.2.1 m hm9
        have hw9p := hS.2.2.2.2.2.2.2.2.2.2 _ hb9.2.1
        refine r_astore_n (j := 3) (pq := 6) C dX11_mark_5 rfl (by decide) rfl rfl ?_
        dsimp only [List.set]
        refine r_aload_n (pq := 7) C dX11_mark_6 rfl rfl ?_
        refine r_ifnonnull (tg := 12) C dX11_mark_7 (by decide) ?_
        refine r_iload_n (pq := 13) C dX11_mark_12 rfl rfl ?_
        refine r_tableIn (tg := 52) C dX11_mark_13 (by decide) (by decide) rfl (by decide) ?_
        refine r_aload_n (pq := 53) C dX11_mark_52 rfl rfl ?_
        refine r_kindM (pq := 56) C hb9.1 hm gX11_mark_X5_kind gX11_mark_X1_kind_u130X1 gX11_mark_X6_kind_u130X6 gX11_mark_X10_kind_u130X10 (by decide +kernel) (by decide) (Nat.le_of_ble_eq_true rfl) ⟨Nat.zero_le _, Nat.zero_le _⟩ dX11_mark_53 rfl ?_
        refine r_iret C D rfl ⟨Nat.le_refl _, Nat.le_refl _⟩ dX11_mark_56 ?_
        refine ⟨?_, fun _ _ => rfl, B, rfl, hN⟩
        unfold rs_mark
        rw [if_pos ⟨hok, hy⟩, tn_nI (by omega), tn_nI (by omega)]
      · refine r_aload_n (pq := 1) C dX11_mark_0 rfl rfl ?_
        refine r_iload_n (pq := 2) C dX11_mark_1 rfl rfl ?_
        refine r_callV (pq := 5) C (mc_X11_markAt hI5 o0 e6 f6) o0 rfl gX11_mark_X11_markAt rfl (na := 1) (by decide +kernel) rfl (by decide) (by decide) (Nat.le_of_ble_eq_true rfl) ⟨Nat.zero_le _, Nat.zero_le _⟩ dX11_mark_2 rfl rfl (fun r9 w hq => ?_)
        obtain ⟨rfl, rfl⟩ := hq
        dsimp only [Option.toList, List.cons_append, List.nil_append]
        rw [if_pos hok, tn_nI (by omega)]
        have hm := h100 m hm9
        have hb9 := hS.2.2.2.2.2.1 m hm9
        have hw9p := hS.2.2.2.2.2.2.2.2.2.2 _ hb9.2.1
        refine r_astore_n (j := 3) (pq := 6) C dX11_mark_5 rfl (by decide) rfl rfl ?_
        dsimp only [List.set]
        refine r_aload_n (pq := 7) C dX11_mark_6 rfl rfl ?_
        refine r_ifnonnull (tg := 12) C dX11_mark_7 (by decide) ?_
        refine r_iload_n (pq := 13) C dX11_mark_12 rfl rfl ?_
        refine r_tableIn (tg := 57) C dX11_mark_13 (by decide) (by decide) rfl (by decide) ?_
        refine r_aload_n (pq := 58) C dX11_mark_57 rfl rfl ?_
        refine r_getM (pq := 61) C (mkC_M _) 4 hm (by decide) (by decide +kernel) rfl rfl dX11_mark_58 rfl ?_
        refine r_iret C D rfl ⟨Nat.le_refl _, Nat.le_refl _⟩ dX11_mark_61 ?_
        refine ⟨?_, fun _ _ => rfl, B, rfl, hN⟩
        unfold rs_mark
        rw [if_pos ⟨hok, hy⟩, tn_nI (by omega), tn_nI (by omega)]
      · refine r_aload_n (pq := 1) C dX11_mark_0 rfl rfl ?_
        refine r_iload_n (pq := 2) C dX11_mark_1 rfl rfl ?_
        refine r_callV (pq := 5) C (mc_X11_markAt hI5 o0 e6 f6) o0 rfl gX11_mark_X11_markAt rfl (na := 1) (by decide +kernel) rfl (by decide) (by decide) (Nat.le_of_ble_eq_true rfl) ⟨Nat.zero_le _, Nat.zero_le _⟩ dX11_mark_2 rfl rfl (fun r9 w hq => ?_)
        obtain ⟨rfl, rfl⟩ := hq
        dsimp only [Option.toList, List.cons_append, List.nil_append]
        rw [if_pos hok, tn_nI (by omega)]
        have hm := h100 m hm9
        have hb9 := hS.2.2.2.2.2.1 m hm9
        have hw9p := hS.2.2.2.2.2.2.2.2.2.2 _ hb9.2.1
        refine r_astore_n (j := 3) (pq := 6) C dX11_mark_5 rfl (by decide) rfl rfl ?_
        dsimp only [List.set]
        refine r_aload_n (pq := 7) C dX11_mark_6 rfl rfl ?_
        refine r_ifnonnull (tg := 12) C dX11_mark_7 (by decide) ?_
        refine r_iload_n (pq := 13) C dX11_mark_12 rfl rfl ?_
        refine r_tableIn (tg := 62) C dX11_mark_13 (by decide) (by decide) rfl (by decide) ?_
        refine r_aload_n (pq := 63) C dX11_mark_62 rfl rfl ?_
        refine r_getM (pq := 66) C (mkC_M _) 1 hm (by decide) (by decide +kernel) rfl rfl dX11_mark_63 rfl ?_
        refine r_iret C D rfl ⟨Nat.le_refl _, Nat.le_refl _⟩ dX11_mark_66 ?_
        refine ⟨?_, fun _ _ => rfl, B, rfl, hN⟩
        unfold rs_mark
        rw [if_pos ⟨hok, hy⟩, tn_nI (by omega), tn_nI (by omega)]
      · refine r_aload_n (pq := 1) C dX11_mark_0 rfl rfl ?_
        refine r_iload_n (pq := 2) C dX11_mark_1 rfl rfl ?_
        refine r_callV (pq := 5) C (mc_X11_markAt hI5 o0 e6 f6) o0 rfl gX11_mark_X11_markAt rfl (na := 1) (by decide +kernel) rfl (by decide) (by decide) (Nat.le_of_ble_eq_true rfl) ⟨Nat.zero_le _, Nat.zero_le _⟩ dX11_mark_2 rfl rfl (fun r9 w hq => ?_)
        obtain ⟨rfl, rfl⟩ := hq
        dsimp only [Option.toList, List.cons_append, List.nil_append]
        rw [if_pos hok, tn_nI (by omega)]
        have hm := h100 m hm9
        have hb9 := hS.2.2.2.2.2.1 m hm9
        have hw9p := hS.2.2.2.2.2.2.2.2.2.2 _ hb9.2.1
        refine r_astore_n (j := 3) (pq := 6) C dX11_mark_5 rfl (by decide) rfl rfl ?_
        dsimp only [List.set]
        refine r_aload_n (pq := 7) C dX11_mark_6 rfl rfl ?_
        refine r_ifnonnull (tg := 12) C dX11_mark_7 (by decide) ?_
        refine r_iload_n (pq := 13) C dX11_mark_12 rfl rfl ?_
        refine r_tableIn (tg := 67) C dX11_mark_13 (by decide) (by decide) rfl (by decide) ?_
        refine r_aload_n (pq := 68) C dX11_mark_67 rfl rfl ?_
        refine r_getM (pq := 71) C (mkC_M _) 2 hm (by decide) (by decide +kernel) rfl rfl dX11_mark_68 rfl ?_
        refine r_iret C D rfl ⟨Nat.le_refl _, Nat.le_refl _⟩ dX11_mark_71 ?_
        refine ⟨?_, fun _ _ => rfl, B, rfl, hN⟩
        unfold rs_mark
        rw [if_pos ⟨hok, hy⟩, tn_nI (by omega), tn_nI (by omega)]
      · refine r_aload_n (pq := 1) C dX11_mark_0 rfl rfl ?_
        refine r_iload_n (pq := 2) C dX11_mark_1 rfl rfl ?_
        refine r_callV (pq := 5) C (mc_X11_markAt hI5 o0 e6 f6) o0 rfl gX11_mark_X11_markAt rfl (na := 1) (by decide +kernel) rfl (by decide) (by decide) (Nat.le_of_ble_eq_true rfl) ⟨Nat.zero_le _, Nat.zero_le _⟩ dX11_mark_2 rfl rfl (fun r9 w hq => ?_)
        obtain ⟨rfl, rfl⟩ := hq
        dsimp only [Option.toList, List.cons_append, List.nil_append]
        rw [if_pos hok, tn_nI (by omega)]
        have hm := h100 m hm9
        have hb9 := hS.2.2.2.2.2.1 m hm9
        have hw9p := hS.2.2.2.2.2.2.2.2.2.2 _ hb9.2.1
        refine r_astore_n (j := 3) (pq := 6) C dX11_mark_5 rfl (by decide) rfl rfl ?_
        dsimp only [List.set]
        refine r_aload_n (pq := 7) C dX11_mark_6 rfl rfl ?_
        refine r_ifnonnull (tg := 12) C dX11_mark_7 (by decide) ?_
        refine r_iload_n (pq := 13) C dX11_mark_12 rfl rfl ?_
        refine r_tableIn (tg := 72) C dX11_mark_13 (by decide) (by decide) rfl (by decide) ?_
        refine r_aload_n (pq := 73) C dX11_mark_72 rfl rfl ?_
        refine r_getM (pq := 76) C (mkC_M _) 3 hm (by decide) (by decide +kernel) rfl rfl dX11_mark_73 rfl ?_
        refine r_iret C D rfl ⟨Nat.le_refl _, Nat.le_refl _⟩ dX11_mark_76 ?_
        refine ⟨?_, fun _ _ => rfl, B, rfl, hN⟩
        unfold rs_mark
        rw [if_pos ⟨hok, hy⟩, tn_nI (by omega), tn_nI (by omega)]
      · refine r_aload_n (pq := 1) C dX11_mark_0 rfl rfl ?_
        refine r_iload_n (pq := 2) C dX11_mark_1 rfl rfl ?_
        refine r_callV (pq := 5) C (mc_X11_markAt hI5 o0 e6 f6) o0 rfl gX11_mark_X11_markAt rfl (na := 1) (by decide +kernel) rfl (by decide) (by decide) (Nat.le_of_ble_eq_true rfl) ⟨Nat.zero_le _, Nat.zero_le _⟩ dX11_mark_2 rfl rfl (fun r9 w hq => ?_)
        obtain ⟨rfl, rfl⟩ := hq
        dsimp only [Option.toList, List.cons_append, List.nil_append]
        rw [if_pos hok, tn_nI (by omega)]
        have hm := h100 m hm9
        have hb9 := hS.2.2.2.2.2.1 m hm9
        have hw9p := hS.2.2.2.2.2.2.2.2.2.2 _ hb9.2.1
        refine r_astore_n (j := 3) (pq := 6) C dX11_mark_5 rfl (by decide) rfl rfl ?_
        dsimp only [List.set]
        refine r_aload_n (pq := 7) C dX11_mark_6 rfl rfl ?_
        refine r_ifnonnull (tg := 12) C dX11_mark_7 (by decide) ?_
        refine r_iload_n (pq := 13) C dX11_mark_12 rfl rfl ?_
        refine r_tableIn (tg := 77) C dX11_mark_13 (by decide) (by decide) rfl (by decide) ?_
        refine r_aload_n (pq := 78) C dX11_mark_77 rfl rfl ?_
        refine r_getM (pq := 81) C (mkC_M _) 5 hm (by decide) (by decide +kernel) rfl rfl dX11_mark_78 rfl ?_
        refine rN_if_eq (tg := 88) (pq := 84) C dX11_mark_81 (by decide) rfl (by omega) (fun c81 => ?_) (fun c81 => ?_)
        · refine r_iconst (v := nI 0) (pq := 89) C dX11_mark_88 (by decide) rfl ?_
          refine r_iret C D rfl ⟨Nat.le_refl _, Nat.le_refl _⟩ dX11_mark_89 ?_
          refine ⟨?_, fun _ _ => rfl, B, rfl, hN⟩
          unfold rs_mark
          rw [if_pos ⟨hok, hy⟩, tn_nI (by omega), tn_nI (by omega)]
          rw [show s.2.1 (6 + 5) m = 0 from c81]
        · refine r_iconst (v := nI 1) (pq := 85) C dX11_mark_84 (by decide) rfl ?_
          refine r_goto (tg := 89) C dX11_mark_85 (by decide) ?_
          refine r_iret C D rfl ⟨Nat.le_refl _, Nat.le_refl _⟩ dX11_mark_89 ?_
          refine ⟨?_, fun _ _ => rfl, B, rfl, hN⟩
          unfold rs_mark
          rw [if_pos ⟨hok, hy⟩, tn_nI (by omega), tn_nI (by omega)]
          rw [show s.2.1 (6 + 5) m = 1 from (by show s.2.1 11 m = 1; omega)]
    · refine r_aload_n (pq := 1) C dX11_mark_0 rfl rfl ?_
      refine r_iload_n (pq := 2) C dX11_mark_1 rfl rfl ?_
      refine r_callV (pq := 5) C (mc_X11_markAt hI5 o0 e6 f6) o0 rfl gX11_mark_X11_markAt rfl (na := 1) (by decide +kernel) rfl (by decide) (by decide) (Nat.le_of_ble_eq_true rfl) ⟨Nat.zero_le _, Nat.zero_le _⟩ dX11_mark_2 rfl rfl (fun r9 w hq => ?_)
      obtain ⟨rfl, rfl⟩ := hq
      dsimp only [Option.toList, List.cons_append, List.nil_append]
      rw [if_pos hok, tn_nI (by omega)]
      have hm := h100 m hm9
      have hb9 := hS.2.2.2.2.2.1 m hm9
      have hw9p := hS.2.2.2.2.2.2.2.2.2.2 _ hb9.2.1
      refine r_astore_n (j := 3) (pq := 6) C dX11_mark_5 rfl (by decide) rfl rfl ?_
      dsimp only [List.set]
      refine r_aload_n (pq := 7) C dX11_mark_6 rfl rfl ?_
      refine r_ifnonnull (tg := 12) C dX11_mark_7 (by decide) ?_
      refine r_iload_n (pq := 13) C dX11_mark_12 rfl rfl ?_
      refine r_tableOut (tg := 90) C dX11_mark_13 (by unfold rg at hy; omega) (by decide) ?_
      refine r_iconst (v := (-1)) (pq := 91) C dX11_mark_90 (by decide) rfl ?_
      refine r_iret C D rfl ⟨Nat.le_refl _, Nat.le_refl _⟩ dX11_mark_91 ?_
      refine ⟨?_, fun _ _ => rfl, B, rfl, hN⟩
      unfold rs_mark
      rw [if_neg (fun h => hy h.2)]
  · have hbad := hok
    refine r_aload_n (pq := 1) C dX11_mark_0 rfl rfl ?_
    refine r_iload_n (pq := 2) C dX11_mark_1 rfl rfl ?_
    refine r_callV (pq := 5) C (mc_X11_markAt hI5 o0 e6 f6) o0 rfl gX11_mark_X11_markAt rfl (na := 1) (by decide +kernel) rfl (by decide) (by decide) (Nat.le_of_ble_eq_true rfl) ⟨Nat.zero_le _, Nat.zero_le _⟩ dX11_mark_2 rfl rfl (fun r9 w hq => ?_)
    obtain ⟨rfl, rfl⟩ := hq
    dsimp only [Option.toList, List.cons_append, List.nil_append]
    rw [if_neg hok]
    refine r_astore_nN (j := 3) (pq := 6) C dX11_mark_5 rfl (by decide) rfl rfl ?_
    dsimp only [List.set]
    refine r_aload_nN (pq := 7) C dX11_mark_6 rfl rfl ?_
    refine r_ifnonnullN (pq := 10) C dX11_mark_7 rfl ?_
    refine r_iconst (v := (-1)) (pq := 11) C dX11_mark_10 (by decide) rfl ?_
    refine r_iret C D rfl ⟨Nat.le_refl _, Nat.le_refl _⟩ dX11_mark_11 ?_
    refine ⟨?_, fun _ _ => rfl, B, rfl, ?_⟩
    · unfold rs_mark
      rw [if_neg (fun h => hbad h.1)]
    · exact hN


/-! ===== the class: join ===== -/
theorem jnf_o (f : Nat → Nat → Nat) (M p q : Nat) {k : Nat} (h : k ≠ 7) : jnf f M p q k = f k := by unfold jnf; rw [va_n _ _ h]
theorem jnf_7 (f : Nat → Nat → Nat) {M p q m : Nat} (hm : m < M) : jnf f M p q 7 m = if f 7 m = q then p else f 7 m := by
  unfold jnf
  rw [va_s]
  by_cases h : f 7 m = q
  · rw [if_pos h, if_pos ⟨hm, h⟩]
  · rw [if_neg h, if_neg (fun z => h z.2)]
theorem cnF_at {f f' : Nat → Nat → Nat} {p d : Nat} : ∀ {n : Nat}, (∀ m, m < n → (∀ k, 6 ≤ k → k ≤ 11 → k ≠ 7 → f' k m = f k m) ∧ (f' 7 m = p ↔ f 7 m = p)) → cnF f' p d n = cnF f p d n
  | 0, _ => rfl
  | n + 1, h => by
    have ih := cnF_at (p := p) (d := d) (n := n) (fun m hm => h m (by omega))
    obtain ⟨q, q7⟩ := h n (by omega)
    simp only [cnF, cnS]
    rw [ih, q 11 (by decide) (by decide) (by decide), q 8 (by decide) (by decide) (by decide), q 9 (by decide) (by decide) (by decide), q 6 (by decide) (by decide) (by decide), q 10 (by decide) (by decide) (by decide)]
    by_cases e : f 7 n = p
    · have e2 := q7.mpr e
      rw [e, e2]
    · have e2 : ¬ f' 7 n = p := fun z => e (q7.mp z)
      rw [if_neg (fun z => e2 z.1), if_neg (fun z => e z.1)]
theorem cn_at {f f' : Nat → Nat → Nat} {p d n : Nat} (h : ∀ m, m < n → (∀ k, 6 ≤ k → k ≤ 11 → k ≠ 7 → f' k m = f k m) ∧ (f' 7 m = p ↔ f 7 m = p)) : cn f' n p d = cn f n p d := by
  unfold cn
  rw [cnF_at h]

set_option maxHeartbeats 4000000 in
set_option maxRecDepth 100000 in
/-- handOverMarks -/
theorem mc_X11_handOverMarks {l : Launch} {E : EV} {w : RW} {B : Nat → Nat} {s : ST} {p9 q9 : Nat} {u6 : Nat → Option Nat} (hM : s.1 5 ≤ 80) (hp : p9 < 6) (hq9 : q9 < 6) (hbd : ∀ m, m < s.1 5 → s.2.1 7 m < 6) (o0 : w 0 = some (B 0, .inr (12, nFs B s))) (e6 : w 6 = qA E 4 (B 6) 80 u6) (f6 : ∀ m, m < s.1 5 → u6 m = some (B (100 + m))) (h100 : ∀ m, m < s.1 5 → w (100 + m) = some (B (100 + m), .inr (mkC (s.2.1 6 m), mFl s m))) : MC l E yX11_handOverMarks wsX11_handOverMarks 0 0 0 [.ref (B 0), .int (nI p9), .int (nI q9)] (w) (fun v w' => v = some (.int (nI (ps (fun m => if s.2.1 7 m = q9 then 1 else 0) (s.1 5)))) ∧ (∀ m, m < s.1 5 → w' (100 + m) = some (B (100 + m), .inr (mkC (s.2.1 6 m), mFl (s.1, jnf s.2.1 (s.1 5) p9 q9, s.2.2) m))) ∧ ∀ r, (r < 100 ∨ 100 + s.1 5 ≤ r) → w' r = w r) := by
  refine MC.enter (cc := cX11_handOverMarks) (maxL := 6) (ret := (some .int)) (lv0 := [some (.ref (B 0)), some (.int (nI p9)), some (.int (nI q9)), none, none, none]) (by decide) rfl (by simp [Value.category]) (Nat.le_of_ble_eq_true rfl) rfl ?_
  intro X hl hE C D
  subst hl
  subst hE
  have loop : ∀ (t i : Nat) (w1 : RW), i ≤ s.1 5 → s.1 5 - i < t → (∀ m, m < i → w1 (100 + m) = some (B (100 + m), .inr (mkC (s.2.1 6 m), mFl (s.1, jnf s.2.1 (s.1 5) p9 q9, s.2.2) m))) → (∀ m, i ≤ m → m < s.1 5 → w1 (100 + m) = some (B (100 + m), .inr (mkC (s.2.1 6 m), mFl s m))) → (∀ r, (r < 100 ∨ 100 + s.1 5 ≤ r) → w1 r = w r) → GG X w1 0 0 5 [some (.ref (B 0)), some (.int (nI p9)), some (.int (nI q9)), some (.int (nI (ps (fun m => if s.2.1 7 m = q9 then 1 else 0) i))), some (.int (nI i)), none] [] := by
    intro t
    induction t with
    | zero => intro i w1 h1 h2; omega
    | succ t ih =>
      intro i w1 hi ht hn ho hw
      have o1 := (hw 0 (by omega)).trans o0
      refine r_iload (pq := 7) C dX11_handOverMarks_5 rfl rfl ?_
      refine r_aload_n (pq := 8) C dX11_handOverMarks_7 rfl rfl ?_
      refine r_getf (pq := 11) C 6 o1 rfl (by decide) (by decide +kernel) (Or.inl rfl) rfl dX11_handOverMarks_8 rfl ?_
      refine rN_icmp_ge (tg := 52) (pq := 14) C dX11_handOverMarks_11 (by decide) rfl (by omega) (by omega) (fun c11 => ?_) (fun c11 => ?_)
      · refine r_iload_n (pq := 53) C dX11_handOverMarks_52 rfl rfl ?_
        refine r_iret C D rfl ⟨Nat.le_refl _, Nat.le_refl _⟩ dX11_handOverMarks_53 ?_
        have e9 : i = s.1 5 := by omega
        subst e9
        exact ⟨rfl, hn, hw⟩
      · refine r_aload_n (pq := 15) C dX11_handOverMarks_14 rfl rfl ?_
        refine r_getf (pq := 18) C 5 o1 rfl (by decide) (by decide +kernel) (Or.inl rfl) rfl dX11_handOverMarks_15 rfl ?_
        refine r_iload (pq := 20) C dX11_handOverMarks_18 rfl rfl ?_
        refine rN_aaldS (pq := 21) C 4 rfl rfl ((hw 6 (by omega)).trans e6) (by omega) (by decide) (f6 i c11) dX11_handOverMarks_20 rfl ?_
        have hm := ho i (Nat.le_refl _) c11
        have hb9 := hbd i c11
        refine r_astore (j := 5) (pq := 23) C dX11_handOverMarks_21 rfl (by decide) rfl rfl ?_
        dsimp only [List.set]
        refine r_aload (pq := 25) C dX11_handOverMarks_23 rfl rfl ?_
        refine r_ifnull (pq := 28) C dX11_handOverMarks_25 rfl ?_
        refine r_aload (pq := 30) C dX11_handOverMarks_28 rfl rfl ?_
        refine r_getM (pq := 33) C (mkC_M _) 4 hm (by decide) (by decide +kernel) rfl rfl dX11_handOverMarks_30 rfl ?_
        refine r_iload_n (pq := 34) C dX11_handOverMarks_33 rfl rfl ?_
        refine rN_icmp_ne (tg := 46) (pq := 37) C dX11_handOverMarks_34 (by decide) rfl (by omega) (by omega) (fun c34 => ?_) (fun c34 => ?_)
        · refine rN_iinc (c := 1) (pq := 49) C dX11_handOverMarks_46 rfl (by decide) (by decide) rfl rfl ?_
          dsimp only [List.set]
          refine r_goto (tg := 5) C dX11_handOverMarks_49 (by decide) ?_
          refine GG.fgt 5 ?_
          dsimp only [List.set]
          have key := ih (i + 1) w1 (by omega) (by omega) (fun m hm9 => by
            by_cases e : m = i
            · subst e
              rw [hm]
              have z : mFl s m = mFl (s.1, jnf s.2.1 (s.1 5) p9 q9, s.2.2) m := by dsimp only [mFl]; rw [jnf_o _ _ _ _ (show 8 ≠ 7 by decide), jnf_o _ _ _ _ (show 9 ≠ 7 by decide), jnf_o _ _ _ _ (show 10 ≠ 7 by decide), jnf_o _ _ _ _ (show 11 ≠ 7 by decide), jnf_7 _ c11, if_neg c34]
              rw [z]
            · exact hn m (by omega)) (fun m h1 h2 => ho m (by omega) h2) hw
          rw [show ps (fun m => if s.2.1 7 m = q9 then 1 else 0) (i + 1) = ps (fun m => if s.2.1 7 m = q9 then 1 else 0) i + (if s.2.1 7 i = q9 then 1 else 0) from rfl, if_neg c34, Nat.add_zero] at key
          exact key
        · refine r_aload (pq := 39) C dX11_handOverMarks_37 rfl rfl ?_
          refine r_iload_n (pq := 40) C dX11_handOverMarks_39 rfl rfl ?_
          refine r_putM (pq := 43) C (mkC_M _) 4 hm (by decide) (by decide +kernel) rfl rfl rfl rfl rfl (Nat.le_of_ble_eq_true rfl) dX11_handOverMarks_40 rfl ?_
          refine rN_iinc (c := 1) (pq := 46) C dX11_handOverMarks_43 rfl (by decide) (by decide) rfl rfl ?_
          dsimp only [List.set]
          refine rN_iinc (c := 1) (pq := 49) C dX11_handOverMarks_46 rfl (by decide) (by decide) rfl rfl ?_
          dsimp only [List.set]
          refine r_goto (tg := 5) C dX11_handOverMarks_49 (by decide) ?_
          refine GG.fgt 5 ?_
          dsimp only [List.set]
          have key := ih (i + 1) (va_up w1 (100 + i) (some (B (100 + i), .inr (mkC (s.2.1 6 i), (mFl s i).set 4 (.int (nI p9)))))) (by omega) (by omega) (fun m hm9 => by
            by_cases e : m = i
            · subst e
              rw [va_s]
              have z : (mFl s m).set 4 (.int (nI p9)) = mFl (s.1, jnf s.2.1 (s.1 5) p9 q9, s.2.2) m := by dsimp only [mFl]; rw [jnf_o _ _ _ _ (show 8 ≠ 7 by decide), jnf_o _ _ _ _ (show 9 ≠ 7 by decide), jnf_o _ _ _ _ (show 10 ≠ 7 by decide), jnf_o _ _ _ _ (show 11 ≠ 7 by decide), jnf_7 _ c11, if_pos c34]; rfl
              rw [z]
            · rw [va_n _ _ (by omega)]; exact hn m (by omega)) (fun m h1 h2 => (va_n _ _ (by omega)).trans (ho m (by omega) h2)) (fun r hr => (va_n _ _ (by omega)).trans (hw r hr))
          rw [show ps (fun m => if s.2.1 7 m = q9 then 1 else 0) (i + 1) = ps (fun m => if s.2.1 7 m = q9 then 1 else 0) i + (if s.2.1 7 i = q9 then 1 else 0) from rfl, if_pos c34] at key
          exact key
  refine r_iconst (v := nI 0) (pq := 1) C dX11_handOverMarks_0 (by decide) rfl ?_
  refine r_istore_n (j := 3) (pq := 2) C dX11_handOverMarks_1 rfl (by decide) rfl rfl ?_
  dsimp only [List.set]
  refine r_iconst (v := nI 0) (pq := 3) C dX11_handOverMarks_2 (by decide) rfl ?_
  refine r_istore (j := 4) (pq := 5) C dX11_handOverMarks_3 rfl (by decide) rfl rfl ?_
  dsimp only [List.set]
  exact loop (s.1 5 + 1) 0 w (Nat.zero_le _) (by omega) (fun m h => absurd h (by omega)) (fun m _ h => h100 m h) (fun _ _ => rfl)

set_option maxHeartbeats 4000000 in
set_option maxRecDepth 100000 in
/-- join -/
theorem mc_X11_join {l : Launch} {E : EV} {w : RW} {B : Nat → Nat} {s : ST} (hS : SI s) (hN : NS E B s w) {x y : Int32} : MC l E yX11_join wsX11_join 3 0 0 [.ref (B 0), .int x, .int y] (w) (nP E B w (rs_join s x y) (nx_join s x y)) := by
  refine MC.enter (cc := cX11_join) (maxL := 3) (ret := (some .int)) (lv0 := [some (.ref (B 0)), some (.int x), some (.int y)]) (by decide) rfl (by simp [Value.category]) (Nat.le_of_ble_eq_true rfl) rfl ?_
  intro X hl hE C D
  subst hl
  subst hE
  have hI1 : s.1 1 ≤ 6 := hS.2.1
  have hI5 : s.1 5 ≤ 80 := hS.2.2.1
  have hI16 : s.1 16 ≤ 12 := hS.2.2.2.1
  have hNN := hN
  obtain ⟨o0, ⟨u1, e1, f1⟩, ⟨u2, e2, f2⟩, ⟨u3, e3, f3⟩, ⟨u5, e5, f5⟩, ⟨u6, e6, f6⟩, ⟨u8, e8, f8⟩, ⟨u10, e10, f10⟩, ⟨u11, e11, f11⟩, ⟨u13, e13, f13⟩, ⟨u14, e14, f14⟩, ⟨u15, e15⟩, ⟨u16, e16⟩, h20, h30, h100, h200, h220, h240, h300, h310⟩ := hNN
  by_cases hok : okJoin s x y
  · obtain ⟨p, hp, rfl⟩ := rg_of hok.1 (by omega)
    obtain ⟨q, hq, rfl⟩ := rg_of hok.2.1 (by omega)
    have hpq : p ≠ q := fun e => hok.2.2 (by rw [e])
    have hf4p := hS.2.2.2.2.1 p hp
    have hf4q := hS.2.2.2.2.1 q hq
    refine r_aload_n (pq := 1) C dX11_join_0 rfl rfl ?_
    refine r_iload_n (pq := 2) C dX11_join_1 rfl rfl ?_
    refine r_callV (pq := 5) C (mc_X11_isPerson hI1 o0) o0 rfl gX11_join_X11_isPerson rfl (na := 1) (by decide +kernel) rfl (by decide) (by decide) (Nat.le_of_ble_eq_true rfl) ⟨Nat.zero_le _, Nat.zero_le _⟩ dX11_join_2 rfl rfl (fun r9 w hq => ?_)
    obtain ⟨rfl, rfl⟩ := hq
    dsimp only [Option.toList, List.cons_append, List.nil_append]
    have l2 := b2_lt (rg (nI p) (s.1 1))
    refine rN_if_eq (tg := 21) (pq := 8) C dX11_join_5 (by decide) rfl (by omega) (fun c5 => absurd c5 (b2_1.mpr hok.1)) (fun c5 => ?_)
    refine r_aload_n (pq := 9) C dX11_join_8 rfl rfl ?_
    refine r_iload_n (pq := 10) C dX11_join_9 rfl rfl ?_
    refine r_callV (pq := 13) C (mc_X11_isPerson hI1 o0) o0 rfl gX11_join_X11_isPerson rfl (na := 1) (by decide +kernel) rfl (by decide) (by decide) (Nat.le_of_ble_eq_true rfl) ⟨Nat.zero_le _, Nat.zero_le _⟩ dX11_join_10 rfl rfl (fun r9 w hq => ?_)
    obtain ⟨rfl, rfl⟩ := hq
    dsimp only [Option.toList, List.cons_append, List.nil_append]
    have l10 := b2_lt (rg (nI q) (s.1 1))
    refine rN_if_eq (tg := 21) (pq := 16) C dX11_join_13 (by decide) rfl (by omega) (fun c13 => absurd c13 (b2_1.mpr hok.2.1)) (fun c13 => ?_)
    refine r_iload_n (pq := 17) C dX11_join_16 rfl rfl ?_
    refine r_iload_n (pq := 18) C dX11_join_17 rfl rfl ?_
    refine rN_icmp_ne (tg := 23) (pq := 21) C dX11_join_18 (by decide) rfl (by omega) (by omega) (fun c18 => ?_) (fun c18 => absurd c18 hpq)
    refine r_aload_n (pq := 24) C dX11_join_23 rfl rfl ?_
    refine r_getf (pq := 27) C 2 o0 rfl (by decide) (by decide +kernel) (Or.inl rfl) rfl dX11_join_24 rfl ?_
    refine r_iload_n (pq := 28) C dX11_join_27 rfl rfl ?_
    refine rN_zald (pq := 29) C e3 (by omega) (by decide) dX11_join_28 rfl ?_
    refine r_at (f3 p (by omega)) ?_
    rw [if_pos hp]
    refine rN_if_ne (tg := 41) (pq := 32) C dX11_join_29 (by decide) rfl (by omega) (fun c29 => ?_) (fun c29 => ?_)
    · refine r_bipush (v := (-3)) (pq := 43) C dX11_join_41 (by decide) rfl ?_
      refine r_iret C D rfl ⟨Nat.le_refl _, Nat.le_refl _⟩ dX11_join_43 ?_
      refine ⟨?_, fun _ _ => rfl, B, rfl, ?_⟩
      · unfold rs_join
        rw [if_pos hok, tn_nI (by omega), tn_nI (by omega), if_pos (by omega)]
      · unfold nx_join
        rw [tn_nI (by omega), tn_nI (by omega), if_neg (by omega)]
        exact hN
    · refine r_aload_n (pq := 33) C dX11_join_32 rfl rfl ?_
      refine r_getf (pq := 36) C 2 o0 rfl (by decide) (by decide +kernel) (Or.inl rfl) rfl dX11_join_33 rfl ?_
      refine r_iload_n (pq := 37) C dX11_join_36 rfl rfl ?_
      refine rN_zald (pq := 38) C e3 (by omega) (by decide) dX11_join_37 rfl ?_
      refine r_at (f3 q (by omega)) ?_
      rw [if_pos hq]
      refine rN_if_eq (tg := 44) (pq := 41) C dX11_join_38 (by decide) rfl (by omega) (fun c38 => ?_) (fun c38 => ?_)
      · refine r_aload_n (pq := 45) C dX11_join_44 rfl rfl ?_
        refine r_iload_n (pq := 46) C dX11_join_45 rfl rfl ?_
        refine r_iload_n (pq := 47) C dX11_join_46 rfl rfl ?_
        refine r_iconst (v := nI 0) (pq := 48) C dX11_join_47 (by decide) rfl ?_
        refine r_sipush (v := nI 399) (pq := 51) C dX11_join_48 (by decide) rfl ?_
        have hbd := hS.2.2.2.2.2.1
        obtain ⟨h9, a1, a2⟩ := h20 p (by omega)
        obtain ⟨h8, b1, b2⟩ := h20 q (by omega)
        have hwh : whl (jnf s.2.1 (s.1 5) p q) (s.1 5) p ↔ (∀ e, 0 ≤ e → e ≤ 399 → cn (jnf s.2.1 (s.1 5) p q) (s.1 5) p e ≠ 0) := ⟨fun h e _ h2 => h e (by omega), fun h d hd => h d (Nat.zero_le _) (by omega)⟩
        have hF7 : ∀ m, m < s.1 5 → ((jnf s.2.1 (s.1 5) p q) 7 m = p ↔ s.2.1 7 m = p ∨ s.2.1 7 m = q) := by
          intro m hm
          rw [jnf_7 _ hm]
          by_cases e : s.2.1 7 m = q
          · rw [if_pos e]; exact ⟨fun _ => Or.inr e, fun _ => rfl⟩
          · rw [if_neg e]; exact ⟨Or.inl, fun h => h.elim id (fun z => absurd z e)⟩
        refine r_callV (pq := 54) C (mc_X11_tellAnew (B := B) (s := s) (F := (jnf s.2.1 (s.1 5) p q)) (a9 := 0) (b9 := 399) hI5 (by omega) (by omega) (by omega) (by omega) (fun k hk => jnf_o _ _ _ _ hk) hF7 (fun m hm => by have := hbd m hm; omega) o0 e5 f5 e6 f6 e15 e16 a1 h100) o0 rfl gX11_join_X11_tellAnew rfl (na := 4) (by decide +kernel) rfl (by decide) (by decide) (Nat.le_of_ble_eq_true rfl) ⟨Nat.zero_le _, Nat.zero_le _⟩ dX11_join_51 rfl rfl (fun r9 w9 hq => ?_)
        obtain ⟨rfl, ⟨d15, g15⟩, ⟨d16, g16⟩, ⟨d20, g20, k1, k2⟩, hw9⟩ := hq
        dsimp only [Option.toList, List.cons_append, List.nil_append]
        have l51 := b2_lt (∀ e, 0 ≤ e → e ≤ 399 → cn (jnf s.2.1 (s.1 5) p q) (s.1 5) p e ≠ 0)
        have O9 := (hw9 0 (by omega) (by omega) (by omega)).trans o0
        refine rN_if_ne (tg := 60) (pq := 57) C dX11_join_54 (by decide) rfl (by omega) (fun c54 => ?_) (fun c54 => ?_)
        · refine r_aload_n (pq := 61) C dX11_join_60 rfl rfl ?_
          refine r_getf (pq := 64) C 2 O9 rfl (by decide) (by decide +kernel) (Or.inl rfl) rfl dX11_join_61 rfl ?_
          refine r_iload_n (pq := 65) C dX11_join_64 rfl rfl ?_
          refine r_iconst (v := nI 1) (pq := 66) C dX11_join_65 (by decide) rfl ?_
          refine rN_zast (pq := 67) C ((hw9 3 (by omega) (by omega) (by omega)).trans e3) (by omega) (by decide) (Or.inr rfl) dX11_join_66 rfl ?_
          refine r_aload_n (pq := 68) C dX11_join_67 rfl rfl ?_
          refine r_getf (pq := 71) C 4 ((va_n _ _ (by omega)).trans O9) rfl (by decide) (by decide +kernel) (Or.inl rfl) rfl dX11_join_68 rfl ?_
          refine r_iload_n (pq := 72) C dX11_join_71 rfl rfl ?_
          refine rN_aaldS (pq := 73) C 8 rfl rfl ((va_n _ _ (by omega)).trans ((hw9 5 (by omega) (by omega) (by omega)).trans e5)) (by omega) (by decide) (f5 q (by omega)) dX11_join_72 rfl ?_
          refine r_sipush (v := nI 255) (pq := 76) C dX11_join_73 (by decide) rfl ?_
          refine r_callS (pq := 79) C (mc_J7_fill_53178 (by decide) ((va_n _ _ (by omega)).trans ((hw9 _ (by omega) (by omega) (by omega)).trans b1))) gX11_join_J7_fill_53178 rfl (na := 2) (by decide +kernel) rfl (by decide) (by decide) (Nat.le_of_ble_eq_true rfl) ⟨Nat.zero_le _, Nat.zero_le _⟩ dX11_join_76 rfl rfl (fun r9 w8 hq => ?_)
          obtain ⟨rfl, rfl⟩ := hq
          dsimp only [Option.toList, List.nil_append]
          refine r_aload_n (pq := 80) C dX11_join_79 rfl rfl ?_
          refine r_iload_n (pq := 81) C dX11_join_80 rfl rfl ?_
          refine r_iload_n (pq := 82) C dX11_join_81 rfl rfl ?_
          skip
          refine r_callV (pq := 85) C (mc_X11_handOverMarks (B := B) (s := s) (p9 := p) (q9 := q) hI5 (by omega) (by omega) (fun m hm => by have := hbd m hm; omega) ((va_n _ _ (by omega)).trans ((va_n _ _ (by omega)).trans O9)) ((va_n _ _ (by omega)).trans ((va_n _ _ (by omega)).trans (hw9 6 (by omega) (by omega) (by omega)))|>.trans e6) f6 (fun m hm => ((va_n _ _ (by omega)).trans ((va_n _ _ (by omega)).trans (hw9 _ (by omega) (by omega) (by omega)))).trans (h100 m hm))) ((va_n _ _ (by omega)).trans ((va_n _ _ (by omega)).trans O9)) rfl gX11_join_X11_handOverMarks rfl (na := 2) (by decide +kernel) rfl (by decide) (by decide) (Nat.le_of_ble_eq_true rfl) ⟨Nat.zero_le _, Nat.zero_le _⟩ dX11_join_82 rfl rfl (fun r9 w7 hq => ?_)
          obtain ⟨rfl, kn, kw⟩ := hq
          dsimp only [Option.toList, List.cons_append, List.nil_append]
          refine r_iret C D rfl ⟨Nat.le_refl _, Nat.le_refl _⟩ dX11_join_85 ?_
          refine ⟨?_, fun z hz => (kw z (by omega)).trans ((va_n _ _ (by omega)).trans ((va_n _ _ (by omega)).trans (hw9 z (by omega) (by omega) (by omega)))), B, rfl, ?_⟩
          · unfold rs_join
            rw [if_pos hok, tn_nI (by omega), tn_nI (by omega), if_neg (by omega), if_pos (hwh.mpr (b2_1.mp c54))]
          · unfold nx_join
            rw [tn_nI (by omega), tn_nI (by omega), if_pos ⟨hok, ⟨by omega, by omega⟩, hwh.mpr (b2_1.mp c54)⟩]
            refine ⟨?_, ?_, ?_, ?_, ?_, ?_, ?_, ?_, ?_, ?_, ?_, ?_, ?_, ?_, ?_, ?_, ?_, ?_, ?_, ?_, ?_⟩
            · exact ((kw 0 (by omega)).trans ((va_n _ _ (by omega)).trans ((va_n _ _ (by omega)).trans (hw9 0 (by omega) (by omega) (by omega))))).trans o0
            · exact ⟨u1, ((kw 1 (by omega)).trans ((va_n _ _ (by omega)).trans ((va_n _ _ (by omega)).trans (hw9 1 (by omega) (by omega) (by omega))))).trans e1, f1⟩
            · exact ⟨u2, ((kw 2 (by omega)).trans ((va_n _ _ (by omega)).trans ((va_n _ _ (by omega)).trans (hw9 2 (by omega) (by omega) (by omega))))).trans e2, f2⟩
            · refine ⟨_, (kw 3 (by omega)).trans ((va_n _ _ (by omega)).trans (va_s _ _ _)), fun p1 hp1 => ?_⟩
              unfold upd
              show _ = nI (if p1 < s.1 1 then upf (jnf s.2.1 (s.1 5) p q) 4 q 1 4 p1 else 0)
              by_cases e : p1 = q
              · subst e
                rw [if_pos rfl, if_pos hq, upf_s]
              · rw [if_neg e, f3 p1 hp1, upf_n _ _ e, jnf_o _ _ _ _ (by decide)]
            · exact ⟨u5, ((kw 5 (by omega)).trans ((va_n _ _ (by omega)).trans ((va_n _ _ (by omega)).trans (hw9 5 (by omega) (by omega) (by omega))))).trans e5, f5⟩
            · exact ⟨u6, ((kw 6 (by omega)).trans ((va_n _ _ (by omega)).trans ((va_n _ _ (by omega)).trans (hw9 6 (by omega) (by omega) (by omega))))).trans e6, f6⟩
            · exact ⟨u8, ((kw 8 (by omega)).trans ((va_n _ _ (by omega)).trans ((va_n _ _ (by omega)).trans (hw9 8 (by omega) (by omega) (by omega))))).trans e8, f8⟩
            · exact ⟨u10, ((kw 10 (by omega)).trans ((va_n _ _ (by omega)).trans ((va_n _ _ (by omega)).trans (hw9 10 (by omega) (by omega) (by omega))))).trans e10, f10⟩
            · exact ⟨u11, ((kw 11 (by omega)).trans ((va_n _ _ (by omega)).trans ((va_n _ _ (by omega)).trans (hw9 11 (by omega) (by omega) (by omega))))).trans e11, f11⟩
            · exact ⟨u13, ((kw 13 (by omega)).trans ((va_n _ _ (by omega)).trans ((va_n _ _ (by omega)).trans (hw9 13 (by omega) (by omega) (by omega))))).trans e13, f13⟩
            · exact ⟨u14, ((kw 14 (by omega)).trans ((va_n _ _ (by omega)).trans ((va_n _ _ (by omega)).trans (hw9 14 (by omega) (by omega) (by omega))))).trans e14, f14⟩
            · exact ⟨_, (kw 15 (by omega)).trans ((va_n _ _ (by omega)).trans ((va_n _ _ (by omega)).trans g15))⟩
            · exact ⟨_, (kw 16 (by omega)).trans ((va_n _ _ (by omega)).trans ((va_n _ _ (by omega)).trans g16))⟩
            · intro p1 hp6
              by_cases e : p1 = p
              · subst e
                refine ⟨d20, (kw _ (by omega)).trans ((va_n _ _ (by omega)).trans ((va_n _ _ (by omega)).trans g20)), fun _ d hd => ?_⟩
                rw [k1 (b2_1.mp c54) d (Nat.zero_le _) (by omega)]
                exact congrArg nI (cn_congr (f := jnf s.2.1 (s.1 5) p1 q) (f' := upf (jnf s.2.1 (s.1 5) p1 q) 4 q 1) (fun k q1 q2 => by rw [upf_o _ _ (by omega)]) (s.1 5) p1 d).symm
              · by_cases e2 : p1 = q
                · subst e2
                  refine ⟨_, (kw _ (by omega)).trans (va_s _ _ _), fun _ d hd => ?_⟩
                  unfold fil
                  rw [if_pos (by omega)]
                  refine congrArg nI (Eq.symm (cn_255 (fun m hm => ?_)))
                  show upf (jnf s.2.1 (s.1 5) p p1) 4 p1 1 7 m ≠ p1
                  rw [upf_o _ _ (by decide), jnf_7 _ hm]
                  by_cases e3 : s.2.1 7 m = p1
                  · rw [if_pos e3]; omega
                  · rw [if_neg e3]; exact e3
                · obtain ⟨h7, z1, z2⟩ := h20 p1 hp6
                  refine ⟨h7, ((kw _ (by omega)).trans ((va_n _ _ (by omega)).trans ((va_n _ _ (by omega)).trans (hw9 _ (by omega) (by omega) (by omega))))).trans z1, fun z d hd => ?_⟩
                  rw [z2 z d hd]
                  refine congrArg nI (cn_at (f := s.2.1) (f' := upf (jnf s.2.1 (s.1 5) p q) 4 q 1) (fun m hm => ⟨fun k q1 q2 q3 => by rw [upf_o _ _ (by omega), jnf_o _ _ _ _ q3], ?_⟩)).symm
                  rw [upf_o _ _ (by decide), jnf_7 _ hm]
                  by_cases e3 : s.2.1 7 m = q
                  · rw [if_pos e3]; omega
                  · rw [if_neg e3]
            · intro l hl
              obtain ⟨x, y, a1⟩ := h30 l hl
              exact ⟨x, y, ((kw (30 + l) (by omega)).trans ((va_n _ _ (by omega)).trans ((va_n _ _ (by omega)).trans (hw9 (30 + l) (by omega) (by omega) (by omega))))).trans a1⟩
            · intro m hm
              refine (kn m hm).trans ?_
              dsimp only [mFl]
              rw [upf_o _ _ (by decide), upf_o _ _ (by decide), upf_o _ _ (by decide), upf_o _ _ (by decide), upf_o _ _ (by decide), upf_o _ _ (by decide), jnf_o _ _ _ _ (show 6 ≠ 7 by decide)]
            · intro j hj
              obtain ⟨z, a1⟩ := h200 j hj
              exact ⟨z, ((kw (200 + j) (by omega)).trans ((va_n _ _ (by omega)).trans ((va_n _ _ (by omega)).trans (hw9 (200 + j) (by omega) (by omega) (by omega))))).trans a1⟩
            · intro j hj
              obtain ⟨x, y, a1⟩ := h220 j hj
              exact ⟨x, y, ((kw (220 + j) (by omega)).trans ((va_n _ _ (by omega)).trans ((va_n _ _ (by omega)).trans (hw9 (220 + j) (by omega) (by omega) (by omega))))).trans a1⟩
            · intro j hj
              obtain ⟨x, y, a1⟩ := h240 j hj
              exact ⟨x, y, ((kw (240 + j) (by omega)).trans ((va_n _ _ (by omega)).trans ((va_n _ _ (by omega)).trans (hw9 (240 + j) (by omega) (by omega) (by omega))))).trans a1⟩
            · intro d hd h3
              exact ((kw (300 + d) (by omega)).trans ((va_n _ _ (by omega)).trans ((va_n _ _ (by omega)).trans (hw9 (300 + d) (by omega) (by omega) (by omega))))).trans (h300 d hd h3)
            · intro d hd h3
              obtain ⟨h9, a1, a2⟩ := h310 d hd h3
              exact ⟨h9, ((kw (310 + d) (by omega)).trans ((va_n _ _ (by omega)).trans ((va_n _ _ (by omega)).trans (hw9 (310 + d) (by omega) (by omega) (by omega))))).trans a1, a2⟩
        · refine r_bipush (v := (-4)) (pq := 59) C dX11_join_57 (by decide) rfl ?_
          refine r_iret C D rfl ⟨Nat.le_refl _, Nat.le_refl _⟩ dX11_join_59 ?_
          refine ⟨?_, fun z hz => (hw9 z (by omega) (by omega) (by omega)), B, rfl, ?_⟩
          · unfold rs_join
            rw [if_pos hok, tn_nI (by omega), tn_nI (by omega), if_neg (by omega), if_neg (fun h => b2_0.mp c54 (hwh.mp h))]
          · unfold nx_join
            rw [tn_nI (by omega), tn_nI (by omega), if_neg (fun h => b2_0.mp c54 (hwh.mp h.2.2))]
            refine ⟨?_, ?_, ?_, ?_, ?_, ?_, ?_, ?_, ?_, ?_, ?_, ?_, ?_, ?_, ?_, ?_, ?_, ?_, ?_, ?_, ?_⟩
            · exact ((hw9 0 (by omega) (by omega) (by omega))).trans o0
            · exact ⟨u1, ((hw9 1 (by omega) (by omega) (by omega))).trans e1, f1⟩
            · exact ⟨u2, ((hw9 2 (by omega) (by omega) (by omega))).trans e2, f2⟩
            · exact ⟨u3, ((hw9 3 (by omega) (by omega) (by omega))).trans e3, f3⟩
            · exact ⟨u5, ((hw9 5 (by omega) (by omega) (by omega))).trans e5, f5⟩
            · exact ⟨u6, ((hw9 6 (by omega) (by omega) (by omega))).trans e6, f6⟩
            · exact ⟨u8, ((hw9 8 (by omega) (by omega) (by omega))).trans e8, f8⟩
            · exact ⟨u10, ((hw9 10 (by omega) (by omega) (by omega))).trans e10, f10⟩
            · exact ⟨u11, ((hw9 11 (by omega) (by omega) (by omega))).trans e11, f11⟩
            · exact ⟨u13, ((hw9 13 (by omega) (by omega) (by omega))).trans e13, f13⟩
            · exact ⟨u14, ((hw9 14 (by omega) (by omega) (by omega))).trans e14, f14⟩
            · exact ⟨_, g15⟩
            · exact ⟨_, g16⟩
            · intro p1 hp6
              by_cases e : p1 = p
              · subst e
                refine ⟨d20, g20, fun _ d hd => ?_⟩
                rw [k2 d hd (Or.inr (Or.inr (b2_0.mp c54))), a2 hp d hd]
              · obtain ⟨h7, z1, z2⟩ := h20 p1 hp6
                exact ⟨h7, ((hw9 _ (by omega) (by omega) (by omega))).trans z1, z2⟩
            · intro l hl
              obtain ⟨x, y, a1⟩ := h30 l hl
              exact ⟨x, y, ((hw9 (30 + l) (by omega) (by omega) (by omega))).trans a1⟩
            · intro m hm
              exact ((hw9 (100 + m) (by omega) (by omega) (by omega))).trans (h100 m hm)
            · intro j hj
              obtain ⟨z, a1⟩ := h200 j hj
              exact ⟨z, ((hw9 (200 + j) (by omega) (by omega) (by omega))).trans a1⟩
            · intro j hj
              obtain ⟨x, y, a1⟩ := h220 j hj
              exact ⟨x, y, ((hw9 (220 + j) (by omega) (by omega) (by omega))).trans a1⟩
            · intro j hj
              obtain ⟨x, y, a1⟩ := h240 j hj
              exact ⟨x, y, ((hw9 (240 + j) (by omega) (by omega) (by omega))).trans a1⟩
            · intro d hd h3
              exact ((hw9 (300 + d) (by omega) (by omega) (by omega))).trans (h300 d hd h3)
            · intro d hd h3
              obtain ⟨h9, a1, a2⟩ := h310 d hd h3
              exact ⟨h9, ((hw9 (310 + d) (by omega) (by omega) (by omega))).trans a1, a2⟩
      · refine r_bipush (v := (-3)) (pq := 43) C dX11_join_41 (by decide) rfl ?_
        refine r_iret C D rfl ⟨Nat.le_refl _, Nat.le_refl _⟩ dX11_join_43 ?_
        refine ⟨?_, fun _ _ => rfl, B, rfl, ?_⟩
        · unfold rs_join
          rw [if_pos hok, tn_nI (by omega), tn_nI (by omega), if_pos (by omega)]
        · unfold nx_join
          rw [tn_nI (by omega), tn_nI (by omega), if_neg (by omega)]
          exact hN
  · have hbad := hok
    refine r_aload_n (pq := 1) C dX11_join_0 rfl rfl ?_
    refine r_iload_n (pq := 2) C dX11_join_1 rfl rfl ?_
    refine r_callV (pq := 5) C (mc_X11_isPerson hI1 o0) o0 rfl gX11_join_X11_isPerson rfl (na := 1) (by decide +kernel) rfl (by decide) (by decide) (Nat.le_of_ble_eq_true rfl) ⟨Nat.zero_le _, Nat.zero_le _⟩ dX11_join_2 rfl rfl (fun r9 w hq => ?_)
    obtain ⟨rfl, rfl⟩ := hq
    dsimp only [Option.toList, List.cons_append, List.nil_append]
    have l2 := b2_lt (rg x (s.1 1))
    refine rN_if_eq (tg := 21) (pq := 8) C dX11_join_5 (by decide) rfl (by omega) (fun c5 => ?_) (fun c5 => ?_)
    · refine r_iconst (v := (-1)) (pq := 22) C dX11_join_21 (by decide) rfl ?_
      refine r_iret C D rfl ⟨Nat.le_refl _, Nat.le_refl _⟩ dX11_join_22 ?_
      refine ⟨?_, fun _ _ => rfl, B, rfl, ?_⟩
      · unfold rs_join
        rw [if_neg hbad]
      · unfold nx_join
        rw [if_neg (fun h => hbad h.1)]
        exact hN
    · refine r_aload_n (pq := 9) C dX11_join_8 rfl rfl ?_
      refine r_iload_n (pq := 10) C dX11_join_9 rfl rfl ?_
      refine r_callV (pq := 13) C (mc_X11_isPerson hI1 o0) o0 rfl gX11_join_X11_isPerson rfl (na := 1) (by decide +kernel) rfl (by decide) (by decide) (Nat.le_of_ble_eq_true rfl) ⟨Nat.zero_le _, Nat.zero_le _⟩ dX11_join_10 rfl rfl (fun r9 w hq => ?_)
      obtain ⟨rfl, rfl⟩ := hq
      dsimp only [Option.toList, List.cons_append, List.nil_append]
      have l10 := b2_lt (rg y (s.1 1))
      refine rN_if_eq (tg := 21) (pq := 16) C dX11_join_13 (by decide) rfl (by omega) (fun c13 => ?_) (fun c13 => ?_)
      · refine r_iconst (v := (-1)) (pq := 22) C dX11_join_21 (by decide) rfl ?_
        refine r_iret C D rfl ⟨Nat.le_refl _, Nat.le_refl _⟩ dX11_join_22 ?_
        refine ⟨?_, fun _ _ => rfl, B, rfl, ?_⟩
        · unfold rs_join
          rw [if_neg hbad]
        · unfold nx_join
          rw [if_neg (fun h => hbad h.1)]
          exact hN
      · refine r_iload_n (pq := 17) C dX11_join_16 rfl rfl ?_
        refine r_iload_n (pq := 18) C dX11_join_17 rfl rfl ?_
        refine r_icmp_ne (tg := 23) (pq := 21) C dX11_join_18 (by decide) rfl (fun c18 => ?_) (fun c18 => ?_)
        · exact absurd ⟨b2_1.mp c5, b2_1.mp c13, c18⟩ hbad
        · refine r_iconst (v := (-1)) (pq := 22) C dX11_join_21 (by decide) rfl ?_
          refine r_iret C D rfl ⟨Nat.le_refl _, Nat.le_refl _⟩ dX11_join_22 ?_
          refine ⟨?_, fun _ _ => rfl, B, rfl, ?_⟩
          · unfold rs_join
            rw [if_neg hbad]
          · unfold nx_join
            rw [if_neg (fun h => hbad h.1)]
            exact hN


/-! ===== the class's calls: shelves ===== -/
theorem byt_ok : ∀ c, c < 256 → vp_nar .short ((nI c).toInt8.toInt32.toInt16.toInt32) = byt c := by decide +kernel
theorem srt_ok : ∀ c, c < 401 → vp_nar .short ((nI c).toInt16.toInt32) = nI c := by decide +kernel

theorem fit_byt : ∀ c, c < 256 → fits .short (.int (byt c)) = true := by decide +kernel
theorem fit_srt : ∀ c, c < 401 → fits .short (.int (nI c)) = true := by decide +kernel

set_option maxHeartbeats 4000000 in
set_option maxRecDepth 100000 in
/-- rowOn -/
theorem mc_X11_rowOn {l : Launch} {E : EV} {w : RW} {B : Nat → Nat} {s : ST} {d9 : Nat} (hS : SI s) (hN : NS E B s w) (hd : d9 < 8) : MC l E yX11_rowOn wsX11_rowOn 0 0 0 [.ref (B 0), .int (nI d9)] (w) (fun v w' => w' = w ∧ v = some (if 3 ≤ s.2.1 24 d9 then .ref (B (300 + d9)) else .null)) := by
  refine MC.enter (cc := cX11_rowOn) (maxL := 4) (ret := (some (.object "NightBook$Row"))) (lv0 := [some (.ref (B 0)), some (.int (nI d9)), none, none]) (by decide) rfl (by simp [Value.category]) (Nat.le_of_ble_eq_true rfl) rfl ?_
  intro X hl hE C D
  subst hl
  subst hE
  have hI1 : s.1 1 ≤ 6 := hS.2.1
  have hI5 : s.1 5 ≤ 80 := hS.2.2.1
  have hI16 : s.1 16 ≤ 12 := hS.2.2.2.1
  have hNN := hN
  obtain ⟨o0, ⟨u1, e1, f1⟩, ⟨u2, e2, f2⟩, ⟨u3, e3, f3⟩, ⟨u5, e5, f5⟩, ⟨u6, e6, f6⟩, ⟨u8, e8, f8⟩, ⟨u10, e10, f10⟩, ⟨u11, e11, f11⟩, ⟨u13, e13, f13⟩, ⟨u14, e14, f14⟩, ⟨u15, e15⟩, ⟨u16, e16⟩, h20, h30, h100, h200, h220, h240, h300, h310⟩ := hNN
  have hsh0 := f13 d9 hd
  have hs := hS.sh hd
  rcases (by omega : s.2.1 24 d9 = 0 ∨ s.2.1 24 d9 = 1 ∨ s.2.1 24 d9 = 2 ∨ 3 ≤ s.2.1 24 d9) with e | e | e | e
  · have hsh : u13 d9 = none := by rw [hsh0]; unfold shl; rw [if_pos e]
    refine r_aload_n (pq := 1) C dX11_rowOn_0 rfl rfl ?_
    refine r_getf (pq := 4) C 12 o0 rfl (by decide) (by decide +kernel) (Or.inl rfl) rfl dX11_rowOn_1 rfl ?_
    refine r_iload_n (pq := 5) C dX11_rowOn_4 rfl rfl ?_
    refine rN_aaldN (pq := 6) C 6 rfl rfl e13 (by omega) (by decide) hsh dX11_rowOn_5 rfl ?_
    refine r_astore_nN (j := 3) (pq := 7) C dX11_rowOn_6 rfl (by decide) rfl rfl ?_
    dsimp only [List.set]
    refine r_aload_nN (pq := 8) C dX11_rowOn_7 rfl rfl ?_
    refine r_instN (pq := 11) C dX11_rowOn_8 rfl ?_
    refine rN_if_eq (tg := 23) (pq := 14) C dX11_rowOn_11 (by decide) rfl (by omega) (fun c11 => ?_) (fun c11 => absurd rfl c11)
    refine r_aconst_null (pq := 24) C dX11_rowOn_23 rfl ?_
    refine r_aret C D rfl (Or.inl rfl) ⟨Nat.le_refl _, Nat.le_refl _⟩ dX11_rowOn_24 ?_
    exact ⟨rfl, by rw [if_neg (by omega)]⟩
  · have hsh : u13 d9 = some (B (200 + tn (s.2.2 25 d9))) := by rw [hsh0]; unfold shl; rw [if_neg (by omega), if_pos e]
    obtain ⟨z9, hr⟩ := h200 _ (hs.2.1 e)
    refine r_aload_n (pq := 1) C dX11_rowOn_0 rfl rfl ?_
    refine r_getf (pq := 4) C 12 o0 rfl (by decide) (by decide +kernel) (Or.inl rfl) rfl dX11_rowOn_1 rfl ?_
    refine r_iload_n (pq := 5) C dX11_rowOn_4 rfl rfl ?_
    refine rN_aaldS (pq := 6) C 6 rfl rfl e13 (by omega) (by decide) hsh dX11_rowOn_5 rfl ?_
    refine r_astore_n (j := 3) (pq := 7) C dX11_rowOn_6 rfl (by decide) rfl rfl ?_
    dsimp only [List.set]
    refine r_aload_n (pq := 8) C dX11_rowOn_7 rfl rfl ?_
    refine r_instNo (pq := 11) C (Or.inr (lwC_W _)) (by decide +kernel) hr dX11_rowOn_8 rfl ?_
    refine rN_if_eq (tg := 23) (pq := 14) C dX11_rowOn_11 (by decide) rfl (by omega) (fun c11 => ?_) (fun c11 => absurd rfl c11)
    refine r_aconst_null (pq := 24) C dX11_rowOn_23 rfl ?_
    refine r_aret C D rfl (Or.inl rfl) ⟨Nat.le_refl _, Nat.le_refl _⟩ dX11_rowOn_24 ?_
    exact ⟨rfl, by rw [if_neg (by omega)]⟩
  · have hsh : u13 d9 = some (B (100 + tn (s.2.2 25 d9))) := by rw [hsh0]; unfold shl; rw [if_neg (by omega), if_neg (by omega), if_pos e]
    have hr := h100 _ (hs.2.2.1 e)
    refine r_aload_n (pq := 1) C dX11_rowOn_0 rfl rfl ?_
    refine r_getf (pq := 4) C 12 o0 rfl (by decide) (by decide +kernel) (Or.inl rfl) rfl dX11_rowOn_1 rfl ?_
    refine r_iload_n (pq := 5) C dX11_rowOn_4 rfl rfl ?_
    refine rN_aaldS (pq := 6) C 6 rfl rfl e13 (by omega) (by decide) hsh dX11_rowOn_5 rfl ?_
    refine r_astore_n (j := 3) (pq := 7) C dX11_rowOn_6 rfl (by decide) rfl rfl ?_
    dsimp only [List.set]
    refine r_aload_n (pq := 8) C dX11_rowOn_7 rfl rfl ?_
    refine r_instNo (pq := 11) C (Or.inl (mkC_M _)) (by decide +kernel) hr dX11_rowOn_8 rfl ?_
    refine rN_if_eq (tg := 23) (pq := 14) C dX11_rowOn_11 (by decide) rfl (by omega) (fun c11 => ?_) (fun c11 => absurd rfl c11)
    refine r_aconst_null (pq := 24) C dX11_rowOn_23 rfl ?_
    refine r_aret C D rfl (Or.inl rfl) ⟨Nat.le_refl _, Nat.le_refl _⟩ dX11_rowOn_24 ?_
    exact ⟨rfl, by rw [if_neg (by omega)]⟩
  · have hsh : u13 d9 = some (B (300 + d9)) := by rw [hsh0]; unfold shl; rw [if_neg (by omega), if_neg (by omega), if_neg (by omega)]
    have hr := h300 d9 hd e
    refine r_aload_n (pq := 1) C dX11_rowOn_0 rfl rfl ?_
    refine r_getf (pq := 4) C 12 o0 rfl (by decide) (by decide +kernel) (Or.inl rfl) rfl dX11_rowOn_1 rfl ?_
    refine r_iload_n (pq := 5) C dX11_rowOn_4 rfl rfl ?_
    refine rN_aaldS (pq := 6) C 6 rfl rfl e13 (by omega) (by decide) hsh dX11_rowOn_5 rfl ?_
    refine r_astore_n (j := 3) (pq := 7) C dX11_rowOn_6 rfl (by decide) rfl rfl ?_
    dsimp only [List.set]
    refine r_aload_n (pq := 8) C dX11_rowOn_7 rfl rfl ?_
    refine r_instS (pq := 11) C (by decide +kernel) hr dX11_rowOn_8 rfl ?_
    refine rN_if_eq (tg := 23) (pq := 14) C dX11_rowOn_11 (by decide) rfl (by omega) (fun c11 => absurd c11 (by decide)) (fun c11 => ?_)
    refine r_aload_n (pq := 15) C dX11_rowOn_14 rfl rfl ?_
    refine r_castS (pq := 18) C (by decide +kernel) hr dX11_rowOn_15 rfl ?_
    refine r_astore_n (j := 2) (pq := 19) C dX11_rowOn_18 rfl (by decide) rfl rfl ?_
    dsimp only [List.set]
    refine r_aload_n (pq := 20) C dX11_rowOn_19 rfl rfl ?_
    refine r_goto (tg := 24) C dX11_rowOn_20 (by decide) ?_
    refine r_aret C D rfl (Or.inr ⟨_, rfl⟩) ⟨Nat.le_refl _, Nat.le_refl _⟩ dX11_rowOn_24 ?_
    exact ⟨rfl, by rw [if_pos (by omega)]⟩

set_option maxHeartbeats 4000000 in
set_option maxRecDepth 100000 in
/-- rowOfCans -/
theorem mc_X11_rowOfCans {l : Launch} {E : EV} {w : RW} {B : Nat → Nat} {s : ST} {r rc p9 : Nat} (hS : SI s) (hN : NS E B s w) (hp : p9 < s.1 1) (n1 : r ≠ rc) (n2 : 300 ≤ r) (n3 : 300 ≤ rc) : MC l E yX11_rowOfCans wsX11_rowOfCans 3 2 402 [.ref (B 0), .int (nI p9)] (w) (fun v w' => ∃ a q h, v = some (.ref a) ∧ w' r = some (a, .inr (5, [.int (nI 0), .ref q])) ∧ w' rc = sA E q 400 h ∧ (∀ j, j < 400 → h j = byt (cr s p9 j)) ∧ ∀ j, j ≠ r → j ≠ rc → w' j = w j) := by
  refine MC.enter (cc := cX11_rowOfCans) (maxL := 4) (ret := (some (.object "NightBook$Row"))) (lv0 := [some (.ref (B 0)), some (.int (nI p9)), none, none]) (by decide) rfl (by simp [Value.category]) (Nat.le_of_ble_eq_true rfl) rfl ?_
  intro X hl hE C D
  subst hl
  subst hE
  have hI1 : s.1 1 ≤ 6 := hS.2.1
  have hI5 : s.1 5 ≤ 80 := hS.2.2.1
  have hI16 : s.1 16 ≤ 12 := hS.2.2.2.1
  have hNN := hN
  obtain ⟨o0, ⟨u1, e1, f1⟩, ⟨u2, e2, f2⟩, ⟨u3, e3, f3⟩, ⟨u5, e5, f5⟩, ⟨u6, e6, f6⟩, ⟨u8, e8, f8⟩, ⟨u10, e10, f10⟩, ⟨u11, e11, f11⟩, ⟨u13, e13, f13⟩, ⟨u14, e14, f14⟩, ⟨u15, e15⟩, ⟨u16, e16⟩, h20, h30, h100, h200, h220, h240, h300, h310⟩ := hNN
  obtain ⟨h9, a1, a2⟩ := h20 p9 (by omega)
  have loop : ∀ (a q t i : Nat) (w1 : RW) (h : Nat → Int32), i ≤ 400 → 400 - i < t → w1 r = some (a, .inr (5, [.int (nI 0), .ref q])) → w1 rc = sA (xE X) q 400 h → (∀ j, j ≠ r → j ≠ rc → w1 j = w j) → (∀ j, j < i → h j = byt (cr s p9 j)) → GG X w1 2 402 14 [some (.ref (B 0)), some (.int (nI p9)), some (.ref a), some (.int (nI i))] [] := by
    intro a q t
    induction t with
    | zero => intro i w1 h h1 h2; omega
    | succ t ih =>
      intro i w1 h hi ht k1 k2 k3 kh
      have o1 := (k3 0 (by omega) (by omega)).trans o0
      refine r_iload_n (pq := 15) C dX11_rowOfCans_14 rfl rfl ?_
      refine r_sipush (v := nI 400) (pq := 18) C dX11_rowOfCans_15 (by decide) rfl ?_
      refine rN_icmp_ge (tg := 43) (pq := 21) C dX11_rowOfCans_18 (by decide) rfl (by omega) (by omega) (fun c18 => ?_) (fun c18 => ?_)
      · refine r_aload_n (pq := 44) C dX11_rowOfCans_43 rfl rfl ?_
        refine r_aret C D rfl (Or.inr ⟨_, rfl⟩) ⟨Nat.le_of_ble_eq_true rfl, Nat.le_of_ble_eq_true rfl⟩ dX11_rowOfCans_44 ?_
        exact ⟨a, q, h, rfl, k1, k2, fun j hj => kh j (by omega), k3⟩
      · refine r_aload_n (pq := 22) C dX11_rowOfCans_21 rfl rfl ?_
        refine r_getf (pq := 25) C 1 k1 rfl (by decide) (by decide +kernel) (Or.inl rfl) rfl dX11_rowOfCans_22 rfl ?_
        refine r_iload_n (pq := 26) C dX11_rowOfCans_25 rfl rfl ?_
        refine r_aload_n (pq := 27) C dX11_rowOfCans_26 rfl rfl ?_
        refine r_getf (pq := 30) C 4 o1 rfl (by decide) (by decide +kernel) (Or.inl rfl) rfl dX11_rowOfCans_27 rfl ?_
        refine r_iload_n (pq := 31) C dX11_rowOfCans_30 rfl rfl ?_
        refine rN_aaldS (pq := 32) C 8 rfl rfl ((k3 5 (by omega) (by omega)).trans e5) (by omega) (by decide) (f5 p9 (by omega)) dX11_rowOfCans_31 rfl ?_
        refine r_iload_n (pq := 33) C dX11_rowOfCans_32 rfl rfl ?_
        refine rN_iald (pq := 34) C ((k3 _ (by omega) (by omega)).trans a1) (by omega) (by decide) dX11_rowOfCans_33 rfl ?_
        refine r_at (a2 hp i c18) ?_
        refine r_i2b (pq := 35) C dX11_rowOfCans_34 rfl ?_
        refine r_i2s (pq := 36) C dX11_rowOfCans_35 rfl ?_
        refine r_sast (pq := 37) C k2 (vp_in_nI (by omega) (by decide)) dX11_rowOfCans_36 rfl ?_
        rw [nI_clamp (by omega), byt_ok _ (show cr s p9 i < 256 by have := cn_le s.2.1 (s.1 5) p9 i; unfold cr; omega)]
        refine rN_iinc (c := 1) (pq := 40) C dX11_rowOfCans_37 rfl (by decide) (by decide) rfl rfl ?_
        dsimp only [List.set]
        refine r_goto (tg := 14) C dX11_rowOfCans_40 (by decide) ?_
        refine ih (i + 1) _ (upd h i (byt (cr s p9 i))) (by omega) (by omega) ((va_n _ _ n1).trans k1) (va_s _ _ _) (fun j q1 q2 => (va_n _ _ q2).trans (k3 j q1 q2)) (fun j hj => ?_)
        unfold upd
        by_cases e : j = i
        · rw [if_pos e, e]
        · rw [if_neg e]; exact kh j (by omega)
  refine r_new (pq := 3) C (N := 2) (ci := 5) r rfl tyX4 tyX4_ok (by decide +kernel) (by decide +kernel) (by decide +kernel) (fs := [.int 0, .null]) (by intro j hj; rcases (by omega : j = 0 ∨ j = 1) with e | e <;> subst e <;> rfl) (by rw [D.2.2.2.1]; decide) (by rw [D.2.2.2.2.1]; decide) dX11_rowOfCans_0 rfl (fun a => ?_)
  refine r_dup (pq := 4) C dX11_rowOfCans_3 rfl rfl ?_
  refine r_iconst (v := nI 0) (pq := 5) C dX11_rowOfCans_4 (by decide) rfl ?_
  refine r_sipush (v := nI 400) (pq := 8) C dX11_rowOfCans_5 (by decide) rfl ?_
  refine r_callI (pq := 11) C (mc_X4_init (r := r) (rc := rc) (by decide) (by decide) n1 (va_s _ _ _)) gX11_rowOfCans_X4_init rfl (by decide +kernel) (by decide +kernel) (by decide +kernel) (na := 2) (by decide +kernel) rfl (by decide) (by decide) (Nat.le_of_ble_eq_true rfl) ⟨by rw [D.2.2.2.1]; decide, by rw [D.2.2.2.2.1]; decide⟩ dX11_rowOfCans_8 rfl rfl (fun r9 w9 hq => ?_)
  obtain ⟨rfl, q, k1, k2, k3⟩ := hq
  dsimp only [Option.toList, List.cons_append, List.nil_append]
  refine r_astore_n (j := 2) (pq := 12) C dX11_rowOfCans_11 rfl (by decide) rfl rfl ?_
  dsimp only [List.set]
  refine r_iconst (v := nI 0) (pq := 13) C dX11_rowOfCans_12 (by decide) rfl ?_
  refine r_istore_n (j := 3) (pq := 14) C dX11_rowOfCans_13 rfl (by decide) rfl rfl ?_
  dsimp only [List.set]
  exact loop a q 401 0 w9 (fun _ => 0) (by omega) (by omega) k1 k2 (fun j q1 q2 => (k3 j q1 q2).trans (va_n _ _ q1)) (fun j hj => absurd hj (by omega))

set_option maxHeartbeats 4000000 in
set_option maxRecDepth 100000 in
/-- rowOfMost -/
theorem mc_X11_rowOfMost {l : Launch} {E : EV} {w : RW} {B : Nat → Nat} {s : ST} {r rc p9 : Nat} (hS : SI s) (hN : NS E B s w) (hp : p9 < s.1 1) (n1 : r ≠ rc) (n2 : 300 ≤ r) (n3 : 300 ≤ rc) : MC l E yX11_rowOfMost wsX11_rowOfMost 3 2 10 [.ref (B 0), .int (nI p9)] (w) (fun v w' => ∃ a q h, v = some (.ref a) ∧ w' r = some (a, .inr (5, [.int (nI 1), .ref q])) ∧ w' rc = sA E q 8 h ∧ (∀ j, j < 8 → h j = nI (ps (mq j (cr s p9)) 400)) ∧ (∀ j, j ≠ r → j ≠ rc → (j < 30 ∨ 38 ≤ j) → w' j = w j) ∧ ∀ l, l < 8 → ∃ x y, w' (30 + l) = tCz (B (30 + l)) l x y) := by
  refine MC.enter (cc := cX11_rowOfMost) (maxL := 4) (ret := (some (.object "NightBook$Row"))) (lv0 := [some (.ref (B 0)), some (.int (nI p9)), none, none]) (by decide) rfl (by simp [Value.category]) (Nat.le_of_ble_eq_true rfl) rfl ?_
  intro X hl hE C D
  subst hl
  subst hE
  have hI1 : s.1 1 ≤ 6 := hS.2.1
  have hI5 : s.1 5 ≤ 80 := hS.2.2.1
  have hI16 : s.1 16 ≤ 12 := hS.2.2.2.1
  have hNN := hN
  obtain ⟨o0, ⟨u1, e1, f1⟩, ⟨u2, e2, f2⟩, ⟨u3, e3, f3⟩, ⟨u5, e5, f5⟩, ⟨u6, e6, f6⟩, ⟨u8, e8, f8⟩, ⟨u10, e10, f10⟩, ⟨u11, e11, f11⟩, ⟨u13, e13, f13⟩, ⟨u14, e14, f14⟩, ⟨u15, e15⟩, ⟨u16, e16⟩, h20, h30, h100, h200, h220, h240, h300, h310⟩ := hNN
  obtain ⟨h9, a1, a2⟩ := h20 p9 (by omega)
  have loop : ∀ (a q t i : Nat) (w1 : RW) (h : Nat → Int32), i ≤ 8 → 8 - i < t → w1 r = some (a, .inr (5, [.int (nI 1), .ref q])) → w1 rc = sA (xE X) q 8 h → (∀ j, j ≠ r → j ≠ rc → (j < 30 ∨ 38 ≤ j) → w1 j = w j) → (∀ l, l < 8 → ∃ x y, w1 (30 + l) = tCz (B (30 + l)) l x y) → (∀ j, j < i → h j = nI (ps (mq j (cr s p9)) 400)) → GG X w1 2 10 13 [some (.ref (B 0)), some (.int (nI p9)), some (.ref a), some (.int (nI i))] [] := by
    intro a q t
    induction t with
    | zero => intro i w1 h h1 h2; omega
    | succ t ih =>
      intro i w1 h hi ht k1 k2 k3 k4 kh
      have o1 := (k3 0 (by omega) (by omega) (by omega)).trans o0
      refine r_iload_n (pq := 14) C dX11_rowOfMost_13 rfl rfl ?_
      refine r_bipush (v := nI 8) (pq := 16) C dX11_rowOfMost_14 (by decide) rfl ?_
      refine rN_icmp_ge (tg := 60) (pq := 19) C dX11_rowOfMost_16 (by decide) rfl (by omega) (by omega) (fun c16 => ?_) (fun c16 => ?_)
      · refine r_aload_n (pq := 61) C dX11_rowOfMost_60 rfl rfl ?_
        refine r_aret C D rfl (Or.inr ⟨_, rfl⟩) ⟨Nat.le_of_ble_eq_true rfl, Nat.le_of_ble_eq_true rfl⟩ dX11_rowOfMost_61 ?_
        exact ⟨a, q, h, rfl, k1, k2, fun j hj => kh j (by omega), k3, k4⟩
      · refine r_aload_n (pq := 20) C dX11_rowOfMost_19 rfl rfl ?_
        refine r_getf (pq := 23) C 13 o1 rfl (by decide) (by decide +kernel) (Or.inl rfl) rfl dX11_rowOfMost_20 rfl ?_
        refine r_iload_n (pq := 24) C dX11_rowOfMost_23 rfl rfl ?_
        refine rN_aaldS (pq := 25) C 7 rfl rfl ((k3 14 (by omega) (by omega) (by omega)).trans e14) (by omega) (by decide) (f14 i c16) dX11_rowOfMost_24 rfl ?_
        obtain ⟨x1, y1, t1⟩ := k4 i c16
        refine r_aload_n (pq := 26) C dX11_rowOfMost_25 rfl rfl ?_
        refine r_getf (pq := 29) C 4 o1 rfl (by decide) (by decide +kernel) (Or.inl rfl) rfl dX11_rowOfMost_26 rfl ?_
        refine r_iload_n (pq := 30) C dX11_rowOfMost_29 rfl rfl ?_
        refine rN_aaldS (pq := 31) C 8 rfl rfl ((k3 5 (by omega) (by omega) (by omega)).trans e5) (by omega) (by decide) (f5 p9 (by omega)) dX11_rowOfMost_30 rfl ?_
        refine r_iconst (v := nI 0) (pq := 32) C dX11_rowOfMost_31 (by decide) rfl ?_
        refine r_sipush (v := nI 399) (pq := 35) C dX11_rowOfMost_32 (by decide) rfl ?_
        refine r_callV (pq := 38) C (mc_X8_sum (r := 30 + i) (rr := 20 + p9) (a9 := 0) (b9 := 400) (c := cr s p9) c16 (by omega) (by decide) (by decide) (by decide) (by decide) (row_ok (a2 hp)) t1 ((k3 _ (by omega) (by omega) (by omega)).trans a1)) t1 rfl gX11_rowOfMost_X8_sum rfl (na := 3) (by decide +kernel) rfl (by decide) (by decide) (Nat.le_of_ble_eq_true rfl) ⟨by rw [D.2.2.2.1]; decide, by rw [D.2.2.2.2.1]; decide⟩ dX11_rowOfMost_35 rfl rfl (fun r9 w hq => ?_)
        obtain ⟨rfl, rfl⟩ := hq
        dsimp only [Option.toList, List.cons_append, List.nil_append]
        refine r_aload_n (pq := 39) C dX11_rowOfMost_38 rfl rfl ?_
        refine r_getf (pq := 42) C 1 ((va_n _ _ (by omega)).trans k1) rfl (by decide) (by decide +kernel) (Or.inl rfl) rfl dX11_rowOfMost_39 rfl ?_
        refine r_iload_n (pq := 43) C dX11_rowOfMost_42 rfl rfl ?_
        refine r_aload_n (pq := 44) C dX11_rowOfMost_43 rfl rfl ?_
        refine r_getf (pq := 47) C 13 ((va_n _ _ (by omega)).trans o1) rfl (by decide) (by decide +kernel) (Or.inl rfl) rfl dX11_rowOfMost_44 rfl ?_
        refine r_iload_n (pq := 48) C dX11_rowOfMost_47 rfl rfl ?_
        refine rN_aaldS (pq := 49) C 7 rfl rfl ((va_n _ _ (by omega)).trans ((k3 14 (by omega) (by omega) (by omega)).trans e14)) (by omega) (by decide) (f14 i c16) dX11_rowOfMost_48 rfl ?_
        refine r_getf (pq := 52) C 2 (va_s _ _ _) rfl (by decide) (by decide +kernel) (Or.inl rfl) rfl dX11_rowOfMost_49 rfl ?_
        refine r_i2s (pq := 53) C dX11_rowOfMost_52 rfl ?_
        refine r_sast (pq := 54) C ((va_n _ _ (by omega)).trans k2) (vp_in_nI (by omega) (by decide)) dX11_rowOfMost_53 rfl ?_
        have hps := ps_le (mq_le i (cr s p9)) 400
        rw [nI_clamp (by omega), srt_ok _ (show sl (mq i (cr s p9)) 0 400 < 401 by unfold sl; omega)]
        refine rN_iinc (c := 1) (pq := 57) C dX11_rowOfMost_54 rfl (by decide) (by decide) rfl rfl ?_
        dsimp only [List.set]
        refine r_goto (tg := 13) C dX11_rowOfMost_57 (by decide) ?_
        refine ih (i + 1) _ (upd h i (nI (ps (mq i (cr s p9)) 400))) (by omega) (by omega) ((va_n _ _ n1).trans ((va_n _ _ (by omega)).trans k1)) (va_s _ _ _) (fun j q1 q2 q3 => (va_n _ _ q2).trans ((va_n _ _ (by omega)).trans (k3 j q1 q2 q3))) (fun l hl => ?_) (fun j hj => ?_)
        · by_cases e : l = i
          · subst e; exact ⟨_, _, (va_n _ _ (by omega)).trans (va_s _ _ _)⟩
          · obtain ⟨x2, y2, t2⟩ := k4 l hl
            exact ⟨x2, y2, (va_n _ _ (by omega)).trans ((va_n _ _ (by omega)).trans t2)⟩
        · unfold upd
          by_cases e : j = i
          · rw [if_pos e, e]
          · rw [if_neg e]; exact kh j (by omega)
  refine r_new (pq := 3) C (N := 2) (ci := 5) r rfl tyX4 tyX4_ok (by decide +kernel) (by decide +kernel) (by decide +kernel) (fs := [.int 0, .null]) (by intro j hj; rcases (by omega : j = 0 ∨ j = 1) with e | e <;> subst e <;> rfl) (by rw [D.2.2.2.1]; decide) (by rw [D.2.2.2.2.1]; decide) dX11_rowOfMost_0 rfl (fun a => ?_)
  refine r_dup (pq := 4) C dX11_rowOfMost_3 rfl rfl ?_
  refine r_iconst (v := nI 1) (pq := 5) C dX11_rowOfMost_4 (by decide) rfl ?_
  refine r_bipush (v := nI 8) (pq := 7) C dX11_rowOfMost_5 (by decide) rfl ?_
  refine r_callI (pq := 10) C (mc_X4_init (r := r) (rc := rc) (by decide) (by decide) n1 (va_s _ _ _)) gX11_rowOfMost_X4_init rfl (by decide +kernel) (by decide +kernel) (by decide +kernel) (na := 2) (by decide +kernel) rfl (by decide) (by decide) (Nat.le_of_ble_eq_true rfl) ⟨by rw [D.2.2.2.1]; decide, by rw [D.2.2.2.2.1]; decide⟩ dX11_rowOfMost_7 rfl rfl (fun r9 w9 hq => ?_)
  obtain ⟨rfl, q, k1, k2, k3⟩ := hq
  dsimp only [Option.toList, List.cons_append, List.nil_append]
  refine r_astore_n (j := 2) (pq := 11) C dX11_rowOfMost_10 rfl (by decide) rfl rfl ?_
  dsimp only [List.set]
  refine r_iconst (v := nI 0) (pq := 12) C dX11_rowOfMost_11 (by decide) rfl ?_
  refine r_istore_n (j := 3) (pq := 13) C dX11_rowOfMost_12 rfl (by decide) rfl rfl ?_
  dsimp only [List.set]
  exact loop a q 9 0 w9 (fun _ => 0) (by omega) (by omega) k1 k2 (fun j q1 q2 _ => (k3 j q1 q2).trans (va_n _ _ q1)) (fun l hl => by
    obtain ⟨x1, y1, t1⟩ := h30 l hl
    exact ⟨x1, y1, (k3 _ (by omega) (by omega)).trans ((va_n _ _ (by omega)).trans t1)⟩) (fun j hj => absurd hj (by omega))


/-! ===== the class: nights told anew ===== -/
theorem mn_n {a b : Nat} (ha : a < 1000000) (hb : b < 1000000) : (if nI b < nI a then nI b else nI a) = nI (min a b) := by
  by_cases h : b < a
  · rw [if_pos ((nI_ltI (by omega) (by omega)).mpr h), Nat.min_eq_right (by omega)]
  · rw [if_neg (fun q => h ((nI_ltI (by omega) (by omega)).mp q)), Nat.min_eq_left (by omega)]
theorem mx_n {a b : Nat} (ha : a < 1000000) (hb : b < 1000000) : (if nI a < nI b then nI b else nI a) = nI (max a b) := by
  by_cases h : a < b
  · rw [if_pos ((nI_ltI (by omega) (by omega)).mpr h), Nat.max_eq_right (by omega)]
  · rw [if_neg (fun q => h ((nI_ltI (by omega) (by omega)).mp q)), Nat.max_eq_left (by omega)]
/-- a row narrowed from a to below b -/
def nar (h : Nat → Int32) (a b : Nat) (x : Int32) : Nat → Int32 := fun i => if a ≤ i ∧ i < b then h i &&& x else h i
theorem nar_0 (h : Nat → Int32) (a : Nat) (x : Int32) : nar h a a x = h := by
  funext i
  unfold nar
  rw [if_neg (by omega)]
theorem nar_s (h : Nat → Int32) {a b : Nat} (hab : a ≤ b) (x : Int32) : upd (nar h a b x) b (nar h a b x b &&& x) = nar h a (b + 1) x := by
  funext i
  unfold upd nar
  by_cases e : i = b
  · subst e; rw [if_pos rfl, if_neg (by omega), if_pos (by omega)]
  · rw [if_neg e]
    by_cases e2 : a ≤ i ∧ i < b
    · rw [if_pos e2, if_pos (by omega)]
    · rw [if_neg e2, if_neg (by omega)]

set_option maxHeartbeats 4000000 in
set_option maxRecDepth 100000 in
/-- narrow -/
theorem mc_X11_narrow {l : Launch} {E : EV} {w : RW} {r rr ar at9 ci m9 fa fb fl p9 z9 a9 b9 : Nat} {h9 : Nat → Int32} (hci : isM ci) (hne : r ≠ rr) (h1 : fb < 400) (h2 : fa < 400) (h3 : a9 < 400) (h4 : b9 < 400) (hr : w r = some (at9, .inr (ci, [.int (nI m9), .int (nI fa), .int (nI fb), .int (nI fl), .int (nI p9), .int (nI z9)]))) (hrw : w rr = rowC E ar h9) : MC l E yX11_narrow wsX11_narrow 1 0 0 [.ref ar, .ref at9, .int (nI a9), .int (nI b9)] (w) (fun v w' => v = none ∧ w' = va_up w rr (rowC E ar (nar h9 (max a9 fa) (max (max a9 fa) (min b9 fb + 1)) (nI fl)))) := by
  refine MC.enter (cc := cX11_narrow) (maxL := 6) (ret := none) (lv0 := [some (.ref ar), some (.ref at9), some (.int (nI a9)), some (.int (nI b9)), none, none]) (by decide) rfl (by simp [Value.category]) (Nat.le_of_ble_eq_true rfl) rfl ?_
  intro X hl hE C D
  subst hl
  subst hE
  have loop : ∀ (t d9 : Nat), max a9 fa ≤ d9 → d9 ≤ max (max a9 fa) (min b9 fb + 1) → max (max a9 fa) (min b9 fb + 1) - d9 < t → GG X (va_up w rr (some (ar, .inl ((xE X).2.1 0, 400, .inl (nar h9 (max a9 fa) d9 (nI fl)))))) 0 0 20 [some (.ref ar), some (.ref at9), some (.int (nI a9)), some (.int (nI b9)), some (.int (nI (min b9 fb))), some (.int (nI d9))] [] := by
    intro t
    induction t with
    | zero => intro d9 ha h1 h2; omega
    | succ t ih =>
      intro d9 ha hd ht
      refine r_iload (pq := 22) C dX11_narrow_20 rfl rfl ?_
      refine r_iload (pq := 24) C dX11_narrow_22 rfl rfl ?_
      refine rN_icmp_gt (tg := 44) (pq := 27) C dX11_narrow_24 (by decide) rfl (by omega) (by omega) (fun c24 => ?_) (fun c24 => ?_)
      · refine r_vret C D rfl ⟨Nat.le_refl _, Nat.le_refl _⟩ dX11_narrow_44 ?_
        refine ⟨rfl, ?_⟩
        have e9 : d9 = max (max a9 fa) (min b9 fb + 1) := by omega
        rw [e9]
      · refine r_aload_n (pq := 28) C dX11_narrow_27 rfl rfl ?_
        refine r_iload (pq := 30) C dX11_narrow_28 rfl rfl ?_
        refine r_dup2 (pq := 31) C dX11_narrow_30 rfl rfl rfl ?_
        refine rN_iald (pq := 32) C (va_s _ _ _) (by omega) (by decide) dX11_narrow_31 rfl ?_
        refine r_aload_n (pq := 33) C dX11_narrow_32 rfl rfl ?_
        refine r_getM (pq := 36) C hci 3 ((va_n _ _ hne).trans hr) (by decide) (by decide +kernel) rfl rfl dX11_narrow_33 rfl ?_
        refine r_iand (pq := 37) C dX11_narrow_36 rfl ?_
        refine rN_iast (pq := 38) C (va_s _ _ _) (by omega) (by decide) dX11_narrow_37 rfl ?_
        refine GG.cast (bx_uu _ _ _ _) ?_
        rw [nar_s h9 ha]
        refine rN_iinc (c := 1) (pq := 41) C dX11_narrow_38 rfl (by decide) (by decide) rfl rfl ?_
        dsimp only [List.set]
        refine r_goto (tg := 20) C dX11_narrow_41 (by decide) ?_
        exact ih (d9 + 1) (by omega) (by omega) (by omega)
  refine r_iload_n (pq := 1) C dX11_narrow_0 rfl rfl ?_
  refine r_aload_n (pq := 2) C dX11_narrow_1 rfl rfl ?_
  refine r_getM (pq := 5) C hci 2 hr (by decide) (by decide +kernel) rfl rfl dX11_narrow_2 rfl ?_
  refine r_min (pq := 8) C (by decide +kernel) (by decide +kernel) (by decide +kernel) (by decide +kernel) (by decide) (Nat.le_of_ble_eq_true rfl) ⟨Nat.zero_le _, Nat.zero_le _⟩ dX11_narrow_5 rfl ?_
  refine r_at (mn_n (by omega) (by omega)) ?_
  refine r_istore (j := 4) (pq := 10) C dX11_narrow_8 rfl (by decide) rfl rfl ?_
  dsimp only [List.set]
  refine r_iload_n (pq := 11) C dX11_narrow_10 rfl rfl ?_
  refine r_aload_n (pq := 12) C dX11_narrow_11 rfl rfl ?_
  refine r_getM (pq := 15) C hci 1 hr (by decide) (by decide +kernel) rfl rfl dX11_narrow_12 rfl ?_
  refine r_max (pq := 18) C (by decide +kernel) (by decide +kernel) (by decide +kernel) (by decide +kernel) (by decide) (Nat.le_of_ble_eq_true rfl) ⟨Nat.zero_le _, Nat.zero_le _⟩ dX11_narrow_15 rfl ?_
  refine r_at (mx_n (by omega) (by omega)) ?_
  refine r_istore (j := 5) (pq := 20) C dX11_narrow_18 rfl (by decide) rfl rfl ?_
  dsimp only [List.set]
  refine GG.cast (ve_self hrw).symm ?_
  rw [← nar_0 h9 (max a9 fa) (nI fl)]
  exact loop (max (max a9 fa) (min b9 fb + 1) + 1) (max a9 fa) (Nat.le_refl _) (by omega) (by omega)


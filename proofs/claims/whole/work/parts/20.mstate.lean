/-! ===== the reference's state ===== -/
def mFs (A : Nat → Nat) (I : Nat → Nat) : List Value := [.int (nI (I 0)), .int (nI (I 1)), .ref (A 3), .ref (A 4), .ref (A 5), .int (nI (I 5)), .ref (A 7), .ref (A 8), .ref (A 9), .ref (A 10), .ref (A 11), .ref (A 12), .ref (A 13), .ref (A 14), .ref (A 15), .ref (A 16), .int (nI (I 16)), .ref (A 18), .ref (A 19), .ref (A 20), .ref (A 21), .ref (A 22), .ref (A 23), .ref (A 24), .ref (A 25), .ref (A 26), .ref (A 27), .ref (A 28)]
def mLen (k : Nat) : Nat := if k = 2 then 6 else if k = 3 then 6 else if k = 4 then 6 else if k = 6 then 80 else if k = 7 then 80 else if k = 8 then 80 else if k = 9 then 80 else if k = 10 then 80 else if k = 11 then 80 else if k = 12 then 400 else if k = 13 then 3208 else if k = 14 then 3208 else if k = 15 then 80 else if k = 17 then 12 else if k = 18 then 12 else if k = 19 then 12 else if k = 20 then 12 else if k = 21 then 400 else if k = 22 then 8 else if k = 23 then 64 else if k = 24 then 8 else if k = 25 then 8 else if k = 26 then 8 else if k = 27 then 3200 else 0
def mTy (k : Nat) : Nat := if k = 4 ∨ k = 11 ∨ k = 15 ∨ k = 21 then 1 else 0
def mArr (k : Nat) : Bool := decide (k < 28) && !(k == 0 || k == 1 || k == 5 || k == 16)
def mCon (f : Nat → Nat → Nat) (g : Nat → Nat → Int32) (k : Nat) : Nat → Int32 := if k = 20 ∨ k = 23 ∨ k = 25 ∨ k = 27 then g k else fun i => nI (f k i)
def mCell (E : EV) (A : Nat → Nat) (I : Nat → Nat) (f : Nat → Nat → Nat) (g : Nat → Nat → Int32) (j : Nat) : Option (Nat × va_E) := match j with
  | 0 => some (A 0, .inr (13, mFs A I))
  | k + 1 => if mArr k = true then some (A (k + 1), .inl (E.2.1 (mTy k), mLen k, .inl (mCon f g k))) else none
/-- the world w0, and in the roles 1000 .. 1028 the reference -/
def WM (E : EV) (A : Nat → Nat) (w0 : RW) (I : Nat → Nat) (f : Nat → Nat → Nat) (g : Nat → Nat → Int32) : RW := fun r => if 1000 ≤ r ∧ r < 1029 then mCell E A I f g (r - 1000) else w0 r
theorem WM_obj (E : EV) (A : Nat → Nat) (w0 : RW) (I : Nat → Nat) (f : Nat → Nat → Nat) (g : Nat → Nat → Int32) : WM E A w0 I f g 1000 = some (A 0, .inr (13, mFs A I)) := by simp [WM, mCell]
theorem WM_arr (E : EV) (A : Nat → Nat) (w0 : RW) (I : Nat → Nat) (f : Nat → Nat → Nat) (g : Nat → Nat → Int32) (k : Nat) (hk : mArr k = true) : WM E A w0 I f g (1001 + k) = some (A (k + 1), .inl (E.2.1 (mTy k), mLen k, .inl (mCon f g k))) := by
  have h : k < 28 := by simp [mArr] at hk; exact hk.1
  have e : 1001 + k - 1000 = k + 1 := by omega
  simp only [WM]
  rw [if_pos ⟨by omega, by omega⟩, e]
  simp [mCell, hk]
theorem WM_else (E : EV) (A : Nat → Nat) (w0 : RW) (I : Nat → Nat) (f : Nat → Nat → Nat) (g : Nat → Nat → Int32) {r : Nat} (h : r < 1000 ∨ 1029 ≤ r) : WM E A w0 I f g r = w0 r := by
  simp only [WM]
  rw [if_neg (by omega)]
theorem WM_put (E : EV) (A : Nat → Nat) (w0 : RW) (I : Nat → Nat) (f f' : Nat → Nat → Nat) (g g' : Nat → Nat → Int32) (k : Nat) (hk : mArr k = true) (c : Nat → Int32) (hc : c = mCon f' g' k) (hf : ∀ j, j ≠ k → f' j = f j) (hg : ∀ j, j ≠ k → g' j = g j) : va_up (WM E A w0 I f g) (1001 + k) (some (A (k + 1), .inl (E.2.1 (mTy k), mLen k, .inl c))) = WM E A w0 I f' g' := by
  funext r
  by_cases hr : r = 1001 + k
  · subst hr
    rw [WM_arr E A w0 I f' g' k hk, hc]
    simp [va_up]
  · simp only [va_up, if_neg hr, WM]
    by_cases h9 : 1000 ≤ r ∧ r < 1029
    · rw [if_pos h9, if_pos h9]
      obtain ⟨j, hj⟩ : ∃ j, r - 1000 = j := ⟨_, rfl⟩
      rw [hj]
      cases j with
      | zero => rfl
      | succ j =>
        have hjk : j ≠ k := by omega
        simp only [mCell, mCon, hf j hjk, hg j hjk]
    · rw [if_neg h9, if_neg h9]
theorem WM_putN (E : EV) (A : Nat → Nat) (w0 : RW) (I : Nat → Nat) (f : Nat → Nat → Nat) (g : Nat → Nat → Int32) (k i x : Nat) (hk : mArr k = true) (hz : ¬ (k = 20 ∨ k = 23 ∨ k = 25 ∨ k = 27)) : va_up (WM E A w0 I f g) (1001 + k) (some (A (k + 1), .inl (E.2.1 (mTy k), mLen k, .inl (upd (mCon f g k) i (nI x))))) = WM E A w0 I (va_up f k (va_up (f k) i x)) g := by
  refine WM_put E A w0 I f _ g g k hk _ ?_ (fun j hj => by simp [va_up, hj]) (fun _ _ => rfl)
  funext q
  simp only [mCon, if_neg hz, upd, va_up]
  by_cases hq : q = i
  · simp [hq, va_up]
  · simp [hq, va_up]
theorem WM_putZ (E : EV) (A : Nat → Nat) (w0 : RW) (I : Nat → Nat) (f : Nat → Nat → Nat) (g : Nat → Nat → Int32) (k i : Nat) (x : Int32) (hk : mArr k = true) (hz : k = 20 ∨ k = 23 ∨ k = 25 ∨ k = 27) : va_up (WM E A w0 I f g) (1001 + k) (some (A (k + 1), .inl (E.2.1 (mTy k), mLen k, .inl (upd (mCon f g k) i x)))) = WM E A w0 I f (va_up g k (upd (g k) i x)) := by
  refine WM_put E A w0 I f f g _ k hk _ ?_ (fun _ _ => rfl) (fun j hj => by simp [va_up, hj])
  simp [mCon, if_pos hz, va_up]
theorem WM_putI (E : EV) (A : Nat → Nat) (w0 : RW) (I : Nat → Nat) (f : Nat → Nat → Nat) (g : Nat → Nat → Int32) (j x : Nat) (hj : j = 0 ∨ j = 1 ∨ j = 5 ∨ j = 16) : va_up (WM E A w0 I f g) 1000 (some (A 0, .inr (13, (mFs A I).set j (.int (nI x))))) = WM E A w0 (va_up I j x) f g := by
  funext r
  by_cases hr : r = 1000
  · subst hr
    rw [WM_obj]
    rcases hj with e | e | e | e <;> subst e <;> simp [va_up, mFs]
  · simp only [va_up, if_neg hr, WM]
    by_cases h9 : 1000 ≤ r ∧ r < 1029
    · rw [if_pos h9, if_pos h9]
      obtain ⟨j, hj⟩ : ∃ j, r - 1000 = j := ⟨_, rfl⟩
      rw [hj]
      cases j with
      | zero => omega
      | succ j => rfl
    · rw [if_neg h9, if_neg h9]
/-- all numbers are small -/
def mOK (I : Nat → Nat) (f : Nat → Nat → Nat) : Prop := (∀ j, I j < 1000000) ∧ ∀ k i, f k i < 1000000
theorem mOK.put {I : Nat → Nat} {f : Nat → Nat → Nat} (h : mOK I f) {k i x : Nat} (hx : x < 1000000) : mOK I (va_up f k (va_up (f k) i x)) := by
  refine ⟨h.1, fun k' i' => ?_⟩
  by_cases e1 : k' = k
  · by_cases e2 : i' = i
    · simp [va_up, e1, e2, hx]
    · simp [va_up, e1, e2, h.2 k i']
  · simp [va_up, e1, h.2 k' i']
theorem mOK.putI {I : Nat → Nat} {f : Nat → Nat → Nat} (h : mOK I f) {j x : Nat} (hx : x < 1000000) : mOK (va_up I j x) f := by
  refine ⟨fun j' => ?_, h.2⟩
  unfold va_up
  split
  · exact hx
  · exact h.1 j'
theorem na_01 {x : Nat} (h : x < 2) : nI x = 0 ∨ nI x = 1 := by
  rcases (show x = 0 ∨ x = 1 by omega) with e | e <;> subst e
  · exact Or.inl rfl
  · exact Or.inr rfl
section MROWS
variable {X : XX} {cc : ByteArray} {Ts : List Cond} {d nL : Nat} {k n pc pq idx : Nat} {lv : List (Option Value)} {st : List Value} {A : Nat → Nat} {w0 : RW} {I : Nat → Nat} {f : Nat → Nat → Nat} {g : Nat → Nat → Int32}
/-- an array of the reference's, by its slot -/
theorem m_geta (C : C0 X RX12 cc Ts d nL) (j : Nat) (hj : j < 28) (hn : (TX12 j).1 = "NightBookModel") (hv : (mFs A I)[j]? = some (.ref (A (j + 1)))) (hlink : Cond.fieldLink RX12 idx "NightBookModel" (TX12 j).2.1 (TX12 j).2.2.1 ∈ Ts) (hdg : decode cc pc = .ok (.getfield idx, 3)) (hp : pc + 3 = pq) (kk : GG X (WM (xE X) A w0 I f g) k n pq lv (.ref (A (j + 1)) :: st)) : GG X (WM (xE X) A w0 I f g) k n pc lv (.ref (A 0) :: st) :=
  r_getf C (Cn := RX12) (T := TX12) (N := 28) (ci := 13) j (WM_obj (xE X) A w0 I f g) rfl hj hlink (Or.inl hn.symm) hv hdg hp kk
/-- an int field of the reference's -/
theorem m_geti (C : C0 X RX12 cc Ts d nL) (hB : mOK I f) (j : Nat) (hj : j < 28) (hn : (TX12 j).1 = "NightBookModel") (hv : (mFs A I)[j]? = some (.int (nI (I j)))) (hlink : Cond.fieldLink RX12 idx "NightBookModel" (TX12 j).2.1 (TX12 j).2.2.1 ∈ Ts) (hdg : decode cc pc = .ok (.getfield idx, 3)) (hp : pc + 3 = pq) (kk : I j < 1000000 → GG X (WM (xE X) A w0 I f g) k n pq lv (.int (nI (I j)) :: st)) : GG X (WM (xE X) A w0 I f g) k n pc lv (.ref (A 0) :: st) :=
  r_getf C (Cn := RX12) (T := TX12) (N := 28) (ci := 13) j (WM_obj (xE X) A w0 I f g) rfl hj hlink (Or.inl hn.symm) hv hdg hp (kk (hB.1 j))
theorem m_puti (C : C0 X RX12 cc Ts d nL) (hB : mOK I f) (j : Nat) {x : Nat} (hj : j = 0 ∨ j = 1 ∨ j = 5 ∨ j = 16) (hn : (TX12 j).1 = "NightBookModel") (hfin : (TX12 j).2.2.2 = false) (hd : parseFieldDescriptor (TX12 j).2.2.1 = some .int) (hlink : Cond.fieldLink RX12 idx "NightBookModel" (TX12 j).2.1 (TX12 j).2.2.1 ∈ Ts) (hdg : decode cc pc = .ok (.putfield idx, 3)) (hp : pc + 3 = pq) (hx9 : x < 1000000) (kk : mOK (va_up I j x) f → GG X (WM (xE X) A w0 (va_up I j x) f g) k n pq lv st) : GG X (WM (xE X) A w0 I f g) k n pc lv (.int (nI x) :: .ref (A 0) :: st) :=
  r_putf C (Cn := RX12) (T := TX12) (N := 28) (ci := 13) j (WM_obj (xE X) A w0 I f g) rfl tyX12 tyX12_ok nmX12 (by omega) hlink (Or.inl hn.symm) hfin hd rfl rfl (by show j < 28; omega) hdg hp (GG.cast (WM_putI (xE X) A w0 I f g j x hj) (kk (hB.putI hx9)))
theorem m_iald (C : C0 X RX12 cc Ts d nL) (hB : mOK I f) (j L : Nat) {i : Nat} (hj : mArr j = true) (ht : mTy j = 0) (hz : ¬ (j = 20 ∨ j = 23 ∨ j = 25 ∨ j = 27)) (hL : mLen j = L) (hl : L < 2147483648) (hi : i < L) (hdg : decode cc pc = .ok (.iaload, 1)) (hp : pc + 1 = pq) (kk : f j i < 1000000 → GG X (WM (xE X) A w0 I f g) k n pq lv (.int (nI (f j i)) :: st)) : GG X (WM (xE X) A w0 I f g) k n pc lv (.int (nI i) :: .ref (A (j + 1)) :: st) := by
  have hr := WM_arr (xE X) A w0 I f g j hj
  rw [ht, hL] at hr
  refine rN_iald C hr hi hl hdg hp ?_
  simp only [mCon, if_neg hz]
  exact kk (hB.2 j i)
theorem m_ialdZ (C : C0 X RX12 cc Ts d nL) (j L : Nat) {i : Nat} (hj : mArr j = true) (ht : mTy j = 0) (hz : j = 20 ∨ j = 23 ∨ j = 25 ∨ j = 27) (hL : mLen j = L) (hl : L < 2147483648) (hi : i < L) (hdg : decode cc pc = .ok (.iaload, 1)) (hp : pc + 1 = pq) (kk : GG X (WM (xE X) A w0 I f g) k n pq lv (.int (g j i) :: st)) : GG X (WM (xE X) A w0 I f g) k n pc lv (.int (nI i) :: .ref (A (j + 1)) :: st) := by
  have hr := WM_arr (xE X) A w0 I f g j hj
  rw [ht, hL] at hr
  refine rN_iald C hr hi hl hdg hp ?_
  simp only [mCon, if_pos hz]
  exact kk
theorem m_zald (C : C0 X RX12 cc Ts d nL) (hB : mOK I f) (j L : Nat) {i : Nat} (hj : mArr j = true) (ht : mTy j = 1) (hz : ¬ (j = 20 ∨ j = 23 ∨ j = 25 ∨ j = 27)) (hL : mLen j = L) (hl : L < 2147483648) (hi : i < L) (hdg : decode cc pc = .ok (.baload, 1)) (hp : pc + 1 = pq) (kk : f j i < 1000000 → GG X (WM (xE X) A w0 I f g) k n pq lv (.int (nI (f j i)) :: st)) : GG X (WM (xE X) A w0 I f g) k n pc lv (.int (nI i) :: .ref (A (j + 1)) :: st) := by
  have hr := WM_arr (xE X) A w0 I f g j hj
  rw [ht, hL] at hr
  refine rN_zald C hr hi hl hdg hp ?_
  simp only [mCon, if_neg hz]
  exact kk (hB.2 j i)
theorem m_iast (C : C0 X RX12 cc Ts d nL) (hB : mOK I f) (j L : Nat) {i x : Nat} (hj : mArr j = true) (ht : mTy j = 0) (hz : ¬ (j = 20 ∨ j = 23 ∨ j = 25 ∨ j = 27)) (hL : mLen j = L) (hl : L < 2147483648) (hi : i < L) (hdg : decode cc pc = .ok (.iastore, 1)) (hp : pc + 1 = pq) (hx9 : x < 1000000) (kk : mOK I (va_up f j (va_up (f j) i x)) → GG X (WM (xE X) A w0 I (va_up f j (va_up (f j) i x)) g) k n pq lv st) : GG X (WM (xE X) A w0 I f g) k n pc lv (.int (nI x) :: .int (nI i) :: .ref (A (j + 1)) :: st) := by
  have hr := WM_arr (xE X) A w0 I f g j hj
  have hq := WM_putN (xE X) A w0 I f g j i x hj hz
  rw [ht, hL] at hr hq
  exact rN_iast C hr hi hl hdg hp (GG.cast hq (kk (hB.put hx9)))
theorem m_iastZ (C : C0 X RX12 cc Ts d nL) (j L : Nat) {i : Nat} {x : Int32} (hj : mArr j = true) (ht : mTy j = 0) (hz : j = 20 ∨ j = 23 ∨ j = 25 ∨ j = 27) (hL : mLen j = L) (hl : L < 2147483648) (hi : i < L) (hdg : decode cc pc = .ok (.iastore, 1)) (hp : pc + 1 = pq) (kk : GG X (WM (xE X) A w0 I f (va_up g j (upd (g j) i x))) k n pq lv st) : GG X (WM (xE X) A w0 I f g) k n pc lv (.int x :: .int (nI i) :: .ref (A (j + 1)) :: st) := by
  have hr := WM_arr (xE X) A w0 I f g j hj
  have hq := WM_putZ (xE X) A w0 I f g j i x hj hz
  rw [ht, hL] at hr hq
  exact rN_iast C hr hi hl hdg hp (GG.cast hq kk)
theorem m_zast (C : C0 X RX12 cc Ts d nL) (hB : mOK I f) (j L : Nat) {i x : Nat} (hx : x < 2) (hj : mArr j = true) (ht : mTy j = 1) (hz : ¬ (j = 20 ∨ j = 23 ∨ j = 25 ∨ j = 27)) (hL : mLen j = L) (hl : L < 2147483648) (hi : i < L) (hdg : decode cc pc = .ok (.bastore, 1)) (hp : pc + 1 = pq) (hx9 : x < 1000000) (kk : mOK I (va_up f j (va_up (f j) i x)) → GG X (WM (xE X) A w0 I (va_up f j (va_up (f j) i x)) g) k n pq lv st) : GG X (WM (xE X) A w0 I f g) k n pc lv (.int (nI x) :: .int (nI i) :: .ref (A (j + 1)) :: st) := by
  have hr := WM_arr (xE X) A w0 I f g j hj
  have hq := WM_putN (xE X) A w0 I f g j i x hj hz
  rw [ht, hL] at hr hq
  exact rN_zast C hr hi hl (na_01 hx) hdg hp (GG.cast hq (kk (hB.put hx9)))
end MROWS

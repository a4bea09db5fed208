/-! ===== more rows: Math.max, Math.min, System.arraycopy, instanceof, checkcast, fields of marks and laws of any kind, calls on laws of any kind ===== -/
section CROWS
variable {X : XX} {own : String} {cc : ByteArray} {Ts : List Cond} {d nL : Nat} {w : RW} {k n pc pq tg : Nat} {lv : List (Option Value)} {st : List Value}
theorem r_max (C : C0 X own cc Ts d nL) {idx : Nat} {x y : Int32} (hlink : Cond.methodLink own idx Lib.Math.max.name ∈ Ts) (hstat : Cond.static Lib.Math.max.name ∈ Ts) (hini : Cond.initialized "java/lang/Math" ∈ Ts) (hcode : Cond.code Lib.Math.max.name Lib.Math.max.code 2 (some .int) ∈ Ts) (hd : 1 ≤ d) (hcat : (st.map fun v => v.category).sum ≤ 8) (hroom : k ≤ (xR X).cells ∧ n ≤ (xR X).slots) (hdg : decode cc pc = .ok (.invokestatic idx, 3)) (hp : pc + 3 = pq) (kk : GG X w k n pq lv (.int (if x < y then y else x) :: st)) : GG X w k n pc lv (.int y :: .int x :: st) := by
  subst hp
  intro H locs ls h1 h2 h3
  have g1 := C.frm
  have g2 := C.loc
  exact va_mmax C.exec C.code h3.1.symm C.cls (C.wds _ hlink) (C.wds _ hstat) (C.wds _ hini) (C.wds _ hcode) (by omega) (by omega) hroom.1 hroom.2 hdg (kk H locs ls h1 h2 h3)
theorem r_min (C : C0 X own cc Ts d nL) {idx : Nat} {x y : Int32} (hlink : Cond.methodLink own idx Lib.Math.min.name ∈ Ts) (hstat : Cond.static Lib.Math.min.name ∈ Ts) (hini : Cond.initialized "java/lang/Math" ∈ Ts) (hcode : Cond.code Lib.Math.min.name Lib.Math.min.code 2 (some .int) ∈ Ts) (hd : 1 ≤ d) (hcat : (st.map fun v => v.category).sum ≤ 8) (hroom : k ≤ (xR X).cells ∧ n ≤ (xR X).slots) (hdg : decode cc pc = .ok (.invokestatic idx, 3)) (hp : pc + 3 = pq) (kk : GG X w k n pq lv (.int (if y < x then y else x) :: st)) : GG X w k n pc lv (.int y :: .int x :: st) := by
  subst hp
  intro H locs ls h1 h2 h3
  have g1 := C.frm
  have g2 := C.loc
  exact va_mmin C.exec C.code h3.1.symm C.cls (C.wds _ hlink) (C.wds _ hstat) (C.wds _ hini) (C.wds _ hcode) (by omega) (by omega) hroom.1 hroom.2 hdg (kk H locs ls h1 h2 h3)
theorem r_copy (C : C0 X own cc Ts d nL) {idx : Nat} (hlink : Cond.methodLink own idx arraycopyName ∈ Ts) (hnat : Cond.native arraycopyName ∈ Ts) (hstat : Cond.static arraycopyName ∈ Ts) (hini : Cond.initialized "java/lang/System" ∈ Ts) (r0 r1 t : Nat) {a0 a : Nat} {cA : ClassId} {n0 n1 : Nat} {f g : Nat → Int32} {ty : FieldType} (hr0 : w r0 = some (a0, .inl (cA, n0, .inl f))) (hr1 : w r1 = some (a, .inl (cA, n1, .inl g))) (ht : (eT (xE X))[t]? = some (cA, ty)) (hprim : refKind ty = false) {sp dp m : Nat} (hb : n0 < 1000000 ∧ n1 < 1000000) (h4 : sp + m ≤ n0) (h5 : dp + m ≤ n1) (hfit : ∀ i, i < m → fits ty (.int (f (sp + i))) = true) (hd : 1 ≤ d) (hcat : (st.map fun v => v.category).sum ≤ 8) (hdg : decode cc pc = .ok (.invokestatic idx, 3)) (hp : pc + 3 = pq) (kk : GG X (va_up w r1 (some (a, .inl (cA, n1, .inl (va_cpy f g sp dp m))))) k n pq lv st) : GG X w k n pc lv (.int (nI m) :: .int (nI dp) :: .ref a :: .int (nI sp) :: .ref a0 :: st) := by
  subst hp
  intro H locs ls h1 h2 h3
  have g1 := C.frm
  have g2 := C.loc
  have q1 : (nI sp).toNatClampNeg = sp := nI_clamp (by omega)
  have q2 : (nI dp).toNatClampNeg = dp := nI_clamp (by omega)
  have q3 : (nI m).toNatClampNeg = m := nI_clamp (by omega)
  have nw : nativeFrameWords "java/lang/System" "arraycopy" 5 + 11 ≤ 52 := by decide +kernel
  have nn : ∀ z : Int32, ¬ z < 0 → z.toInt = (z.toNatClampNeg : Int) := by
    intro z hz
    have hz0 : (0 : Int) ≤ z.toInt := by
      have := Int32.not_lt.mp hz
      simpa using Int32.le_iff_toInt_le.mp this
    show z.toInt = ((z.toInt.toNat : Nat) : Int)
    omega
  have p1 : ¬ nI sp < 0 := nI_pos (by omega)
  have p2 : ¬ nI dp < 0 := nI_pos (by omega)
  have p3 : ¬ nI m < 0 := nI_pos (by omega)
  intro T hT X9
  have hc0 : H[a0]? = some (vp_cell cA (n0, .inl f)) := (h1.1 r0 _ _ hr0).1
  have hc1 : H[a]? = some (vp_cell cA (n1, .inl g)) := (h1.1 r1 _ _ hr1).1
  obtain ⟨-, k0, hk0, cm0, hkk0⟩ := (C.env.1.2 t _ ht).1 n0 (fun j => .int (f j))
  obtain ⟨-, k1, hk1, cm1, hkk1⟩ := (C.env.1.2 t _ ht).1 n1 (fun j => .int (g j))
  obtain ⟨vm', X', step⟩ := X9.arraycopy C.exec C.cls (C.wds _ hlink) (C.wds _ hnat) (C.wds _ hstat) (C.wds _ hini) (src := a0) (dst := a) (cs := vp_cell cA (n0, .inl f)) (cd := vp_cell cA (n1, .inl g)) (srcPos := nI sp) (destPos := nI dp) (n := nI m) (by rw [hT]; exact hc0) (by rw [hT]; exact hc1)
    (fun _ h => by cases h) (fun _ h => by cases h) (fun h => by cases h) (fun h => by cases h) hk0 hk1 hkk0 hkk1 (by simp [hprim]) p1 p2 p3
    (by rw [nn _ p1, nn _ p3, q1, q3]; show ¬ _ > ((arrV cA n0 (fun j => .int (f j))).slots.size : Int); rw [arrV_size]; omega)
    (by rw [nn _ p2, nn _ p3, q2, q3]; show ¬ _ > ((arrV cA n1 (fun j => .int (g j))).slots.size : Int); rw [arrV_size]; omega)
    (fun vm₁ _ i hi => by
      rw [q3] at hi
      rw [q1]
      have e : (vp_cell cA (n0, .inl f)).slots.getD (sp + i) .null = .int (f (sp + i)) := by
        show (arrV cA n0 (fun j => .int (f j))).slots.getD _ _ = _
        rw [Array.getD_eq_getD_getElem?, arrV_read _ _ (by omega)]
        rfl
      refine ⟨?_, ?_⟩
      · rw [e]
        exact hfit i hi
      · rw [e]
        exact trivial)
    (g := F0 (xm X) pc ls (.int (nI m) :: .int (nI dp) :: .ref a :: .int (nI sp) :: .ref a0 :: st)) rfl (by rw [h3.1]) (rest := st) rfl (by rw [C.code]; exact hdg) (by omega) (by show 2 * 0 + _ + _ ≤ _; omega)
  have e1 : copied (vp_cell cA (n0, .inl f)) (vp_cell cA (n1, .inl g)) (nI sp) (nI dp) (nI m) = vp_cell cA (n1, .inl (va_cpy f g sp dp m)) := by
    have h9 : copied (vp_cell cA (n0, .inl f)) (vp_cell cA (n1, .inl g)) (nI sp) (nI dp) (nI m) = vp_cell cA (n1, .inl (va_cpy f g (nI sp).toNatClampNeg (nI dp).toNatClampNeg (nI m).toNatClampNeg)) := va_copied (fun z : Int32 => (.int z : Value)) cA cA f g (by rw [q1, q3]; exact h4)
    rw [h9, q1, q2, q3]
  rw [e1] at X' step
  have hl : a < H.size := (Array.getElem?_eq_some_iff.mp hc1).1
  have hheap : ((T.setVm vm').setCell a (vp_cell cA (n1, .inl (va_cpy f g sp dp m)))).heap = H.setIfInBounds a (vp_cell cA (n1, .inl (va_cpy f g sp dp m))) := by rw [← hT]; rfl
  have oq : ∀ q : Nat, q ≠ a → (H.setIfInBounds a (vp_cell cA (n1, .inl (va_cpy f g sp dp m))))[q]? = H[q]? := fun q hq => by simp [Array.getElem?_setIfInBounds, Ne.symm hq]
  obtain ⟨t9, a1, b1⟩ := kk _ _ ls (h1.set hr1 (show (H.setIfInBounds a _)[a]? = some _ by simp [Array.getElem?_setIfInBounds, hl]) oq) ⟨by simp; exact h2.1, fun q g1 g2 => by
      rw [oq q (fun e => g2 (by rw [e]; exact h1.le hr1))]
      exact h2.2.1 q g1 g2, fun q hq => by
      rcases List.mem_append.mp hq with h | h
      · exact h2.2.2 q h
      · obtain ⟨z, -, hz⟩ := List.mem_map.mp h
        rw [← hz]
        exact h1.le hr1⟩ h3 _ hheap X'
  exact ⟨t9, step t9 a1, b1⟩
theorem r_instN (C : C0 X own cc Ts d nL) {idx : Nat} (hdg : decode cc pc = .ok (.instanceof idx, 3)) (hp : pc + 3 = pq) (kk : GG X w k n pq lv (.int (nI 0) :: st)) : GG X w k n pc lv (.null :: st) := by
  subst hp
  exact fun H locs ls h1 h2 h3 => lv_instN C.exec C.code hdg (kk H locs ls h1 h2 h3)
end CROWS

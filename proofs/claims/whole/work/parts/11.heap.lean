section HEAPROWS
variable {X : XX} {own : String} {cc : ByteArray} {Ts : List Cond} {d nL : Nat} {w : RW} {k n pc pq tg : Nat} {lv : List (Option Value)} {st : List Value}
theorem C0.exec (C : C0 X own cc Ts d nL) : (xp X).tables.exec = Jvm.exec := C.1
theorem C0.code (C : C0 X own cc Ts d nL) : (xc X).code = cc := C.2.1
theorem C0.cls (C : C0 X own cc Ts d nL) : (xs X).vm.findClass own = some (xm X).cls := C.2.2.1
theorem C0.wds (C : C0 X own cc Ts d nL) : ∀ w ∈ Ts, w.before (xa X) (xs X) = true := C.2.2.2.1
theorem C0.env (C : C0 X own cc Ts d nL) : eK (xE X) (xs X) := C.2.2.2.2.1
theorem C0.bas (C : C0 X own cc Ts d nL) : (xE X).2.2 ≤ (xs X).heap.size := C.2.2.2.2.2.1
theorem C0.frm (C : C0 X own cc Ts d nL) : d ≤ (xR X).frames := C.2.2.2.2.2.2.1
theorem C0.loc (C : C0 X own cc Ts d nL) : 60 * d ≤ (xR X).locals := C.2.2.2.2.2.2.2.1
theorem C0.mxl (C : C0 X own cc Ts d nL) : (xc X).maxLocals = nL := C.2.2.2.2.2.2.2.2
/-- a field read -/
theorem r_getf (C : C0 X own cc Ts d nL) {ref Cn : String} {T : u_T} {N ci idx r a : Nat} {fs : List Value} {v : Value} (j : Nat) (hr : w r = some (a, .inr (ci, fs))) (hc : vwCl[ci]? = some (Cn, T, N)) (hj : j < N) (hlink : Cond.fieldLink own idx ref (T j).2.1 (T j).2.2.1 ∈ Ts) (hsame : ref = (T j).1 ∨ (Cond.sameField ref (T j).1 (T j).2.1 (T j).2.2.1) ∈ Ts) (hv : fs[j]? = some v) (hdg : decode cc pc = .ok (.getfield idx, 3)) (hp : pc + 3 = pq) (kk : GG X w k n pq lv (v :: st)) : GG X w k n pc lv (.ref a :: st) := by
  subst hp
  intro H locs ls h1 h2 h3
  refine va_get (D := (xE X).1) (cl := vwCl) (tys := eT (xE X)) (ci := ci) (v := v) (C := Cn) (T := T) (N := N) C.exec C.code (C.env.lays hc) (fun _ h => h) C.cls C.env.1 (h1.one hr) 0 rfl hc j hj (C.wds _ hlink) (fun x hx => ?_) hv hdg (kk H locs ls h1 h2 h3)
  rcases hsame with e | h
  · rw [e]; exact hx
  · exact u_same (C.wds _ h) x hx
theorem va_D1 {A : Nat → Prop} {a : Nat} {e : va_E} (h : A a) : va_D A [(a, e)] := by
  have key : ∀ (i : Nat) (p : Nat × va_E), [(a, e)][i]? = some p → i = 0 ∧ p = (a, e) := by
    intro i p hi
    have hz : i < 1 := (List.getElem?_eq_some_iff.mp hi).1
    have h0 : i = 0 := by omega
    subst h0
    cases hi
    exact ⟨rfl, rfl⟩
  refine ⟨fun i j p q hi hj _ => ?_, fun i p hi => ?_⟩
  · rw [(key i p hi).1, (key j q hj).1]
  · rw [(key i p hi).2]; exact h
/-- what a row of one cell gives back: the heap with that cell anew -/
theorem hR.put {E : EV} {w : RW} {H H1 : Heap} {locs1 : List Loc} {r a : Nat} {e0 e : va_E} (h : hR E w H) (hr : w r = some (a, e0)) (hP : va_P E.1 vwCl [(a, e)] H1) (hS : va_S (fun q => q = a) H H1 locs1) (hz : H1.size = H.size) : hR E (va_up w r (some (a, e))) H1 := by
  refine h.set hr (hP 0 _ rfl) (fun q hq => ?_)
  by_cases hl : q < H.size
  · exact hS.2.1 q hl hq
  · rw [Array.getElem?_eq_none (by omega), Array.getElem?_eq_none (by omega)]
theorem k2_class {ci : Nat} {fs : List Value} {a : Nat} {q : vw_C} {E : EV} {H : Heap} (hc : vwCl[ci]? = some q) (h : va_at E.1 vwCl (a, .inr (ci, fs)) H) : t_OB a (E.1.1 ci) q.2.2 (E.1.2 ci) H (vp_V fs) := by
  obtain ⟨r, h1, h2⟩ := h
  have e : r = q := Option.some.inj (h1.symm.trans hc)
  subst e
  exact h2
/-- a field written (no final one) -/
theorem r_putf (C : C0 X own cc Ts d nL) {ref Cn : String} {T : u_T} {N ci idx r a : Nat} {fs : List Value} {v : Value} {ty : FieldType} (j : Nat) (hr : w r = some (a, .inr (ci, fs))) (hc : vwCl[ci]? = some (Cn, T, N)) (ty0 : Nat → FieldType) (hty : ∀ k, k < N → parseFieldDescriptor (T k).2.2.1 = some (ty0 k)) (hnm : ∀ a, a < N → ∀ b, b < N → a ≠ b → (T a).2.1 ≠ (T b).2.1) (hj : j < N) (hlink : Cond.fieldLink own idx ref (T j).2.1 (T j).2.2.1 ∈ Ts) (hsame : ref = (T j).1 ∨ (Cond.sameField ref (T j).1 (T j).2.1 (T j).2.2.1) ∈ Ts) (hfin : (T j).2.2.2 = false) (hd : parseFieldDescriptor (T j).2.2.1 = some ty) (hn : narrow ty v = v) (hfit : fits ty v = true) (hl : j < fs.length) (hdg : decode cc pc = .ok (.putfield idx, 3)) (hp : pc + 3 = pq) (kk : GG X (va_up w r (some (a, .inr (ci, fs.set j v)))) k n pq lv st) : GG X w k n pc lv (v :: .ref a :: st) := by
  subst hp
  intro H locs ls h1 h2 h3
  have hsm : ∀ x, (xs X).fieldFound? (T j).1 (T j).2.1 (T j).2.2.1 = some x → (xs X).fieldFound? ref (T j).2.1 (T j).2.2.1 = some x := fun x hx => by
    rcases hsame with e | h
    · rw [e]; exact hx
    · exact u_same (C.wds _ h) x hx
  have hts := C.env.lays (args := xa X) hc
  have hin : ∀ w ∈ u_ws Cn T N, w ∈ u_ws Cn T N := fun _ h => h
  have hap := va_apart (D := (xE X).1) (cl := vwCl) (tys := eT (xE X)) (own := own) hts hin ty0 hty hnm C.env.1 hc
  have hat := (h1.1 r a _ hr).1
  obtain ⟨cell, q1, q2, q3, q4⟩ := k2_class hc hat
  obtain ⟨hS, hfc, kC, hkC, hkind⟩ := C.env.1.1 ci _ hc
  obtain ⟨cf, kf, fi, f, hi, hsl⟩ := hS j hj
  have hlay := hts _ (hin _ (u_in_lay hj))
  unfold u_lay at hlay
  rw [if_neg (by rw [hfin]; decide)] at hlay
  have hst := (u_facts hfc hkC (u_lays hts hin hj) hi).1
  have h6 := u_store hfc hkC hkind hlay hi hd hn hfit
  refine W.putK C.exec C.code (f := f) ⟨C.cls, C.wds _ hlink, ⟨_, _, _, hsm _ hi⟩, hst⟩ (by rw [q2]; exact h6) q1 q3 (by rw [hsl]; exact k2_hasslot (q4 j hj)) rfl rfl hdg fun H' e1 e2 e3 => ?_
  rw [hsl] at e1 ⊢
  exact kk H' _ ls (h1.set hr ⟨_, hc, t_OB.to (V := updV (vp_V fs) j v) ⟨_, e1, q2, q3, t_set q4 hap hj v⟩ (fun i _ => vp_updV_set hl v i)⟩ e3) (h2.put e2 e3 (h1.le hr)) h3
/-- a final field written, in a constructor -/
theorem r_putfF (C : C0 X own cc Ts d nL) (hnmI : (xt X).name = "<init>") {ref Cn : String} {T : u_T} {N ci idx r a : Nat} {fs : List Value} {v : Value} {ty : FieldType} (j : Nat) (hr : w r = some (a, .inr (ci, fs))) (hc : vwCl[ci]? = some (Cn, T, N)) (ty0 : Nat → FieldType) (hty : ∀ k, k < N → parseFieldDescriptor (T k).2.2.1 = some (ty0 k)) (hnm : ∀ a, a < N → ∀ b, b < N → a ≠ b → (T a).2.1 ≠ (T b).2.1) (hj : j < N) (hlink : Cond.fieldLink own idx ref (T j).2.1 (T j).2.2.1 ∈ Ts) (hsame : ref = (T j).1) (hfin : (T j).2.2.2 = true) (hdecl : (T j).1 = own) (hd : parseFieldDescriptor (T j).2.2.1 = some ty) (hn : narrow ty v = v) (hfit : fits ty v = true) (hl : j < fs.length) (hdg : decode cc pc = .ok (.putfield idx, 3)) (hp : pc + 3 = pq) (kk : GG X (va_up w r (some (a, .inr (ci, fs.set j v)))) k n pq lv st) : GG X w k n pc lv (v :: .ref a :: st) := by
  subst hp
  intro H locs ls h1 h2 h3
  subst hsame
  have hts := C.env.lays (args := xa X) hc
  have hin : ∀ w ∈ u_ws Cn T N, w ∈ u_ws Cn T N := fun _ h => h
  have hap := va_apart (D := (xE X).1) (cl := vwCl) (tys := eT (xE X)) (own := own) hts hin ty0 hty hnm C.env.1 hc
  have hat := (h1.1 r a _ hr).1
  obtain ⟨cell, q1, q2, q3, q4⟩ := k2_class hc hat
  obtain ⟨hS, hfc, kC, hkC, hkind⟩ := C.env.1.1 ci _ hc
  obtain ⟨cf, kf, fi, f, hi, hsl⟩ := hS j hj
  have hlay := hts _ (hin _ (u_in_lay hj))
  unfold u_lay at hlay
  rw [if_pos hfin] at hlay
  have hst := (u_facts hfc hkC (u_lays hts hin hj) hi).1
  have hcf : (xm X).cls = cf := by
    obtain ⟨_, _, c', _, _, _, -, -, hf', -, -, -, hown2, -⟩ := Cond.laysFinal_spec hlay
    have e1 : c' = cf := by have := hi.symm.trans hf'; simp at this; exact this.1.symm
    rw [hdecl] at hown2
    rw [← e1]; exact Option.some.inj (C.cls.symm.trans hown2)
  have h6 := u_fits hfc hkC hkind (Or.inr hlay) hi hd hn hfit
  refine W.putFinK C.exec C.code C.cls (C.wds _ hlink) hi hst hcf hnmI (by rw [q2]; exact h6) q1 q3 (by rw [hsl]; exact k2_hasslot (q4 j hj)) rfl rfl hdg fun H' e1 e2 e3 => ?_
  rw [hsl] at e1 ⊢
  exact kk H' _ ls (h1.set hr ⟨_, hc, t_OB.to (V := updV (vp_V fs) j v) ⟨_, e1, q2, q3, t_set q4 hap hj v⟩ (fun i _ => vp_updV_set hl v i)⟩ e3) (h2.put e2 e3 (h1.le hr)) h3

theorem r_iald (C : C0 X own cc Ts d nL) {r a len : Nat} {f : Nat → Int32} {i : Int32} (hr : w r = some (a, .inl ((xE X).2.1 0, len, .inl f))) (hin : vp_in i len) (hdg : decode cc pc = .ok (.iaload, 1)) (hp : pc + 1 = pq) (kk : GG X w k n pq lv (.int (f i.toNatClampNeg) :: st)) : GG X w k n pc lv (.int i :: .ref a :: st) := by
  subst hp
  exact fun H locs ls h1 h2 h3 => va_iald (D := (xE X).1) (cl := vwCl) (tys := eT (xE X)) C.exec C.code C.env.1 (h1.one hr) 0 0 rfl rfl hin hdg (kk H locs ls h1 h2 h3)
theorem r_zald (C : C0 X own cc Ts d nL) {r a len : Nat} {f : Nat → Int32} {i : Int32} (hr : w r = some (a, .inl ((xE X).2.1 1, len, .inl f))) (hin : vp_in i len) (hdg : decode cc pc = .ok (.baload, 1)) (hp : pc + 1 = pq) (kk : GG X w k n pq lv (.int (f i.toNatClampNeg) :: st)) : GG X w k n pc lv (.int i :: .ref a :: st) := by
  subst hp
  exact fun H locs ls h1 h2 h3 => va_zald (D := (xE X).1) (cl := vwCl) (tys := eT (xE X)) C.exec C.code C.env.1 (h1.one hr) 0 1 rfl rfl hin hdg (kk H locs ls h1 h2 h3)
theorem r_sald (C : C0 X own cc Ts d nL) {r a len : Nat} {f : Nat → Int32} {i : Int32} (hr : w r = some (a, .inl ((xE X).2.1 2, len, .inl f))) (hin : vp_in i len) (hdg : decode cc pc = .ok (.saload, 1)) (hp : pc + 1 = pq) (kk : GG X w k n pq lv (.int (f i.toNatClampNeg) :: st)) : GG X w k n pc lv (.int i :: .ref a :: st) := by
  subst hp
  exact fun H locs ls h1 h2 h3 => va_sald (D := (xE X).1) (cl := vwCl) (tys := eT (xE X)) C.exec C.code C.env.1 (h1.one hr) 0 2 rfl rfl hin hdg (kk H locs ls h1 h2 h3)
theorem r_lald (C : C0 X own cc Ts d nL) {r a len : Nat} {f : Nat → Int64} {i : Int32} (hr : w r = some (a, .inl ((xE X).2.1 3, len, .inr (.inl f)))) (hin : vp_in i len) (hdg : decode cc pc = .ok (.laload, 1)) (hp : pc + 1 = pq) (kk : GG X w k n pq lv (.long (f i.toNatClampNeg) :: st)) : GG X w k n pc lv (.int i :: .ref a :: st) := by
  subst hp
  exact fun H locs ls h1 h2 h3 => va_lald (D := (xE X).1) (cl := vwCl) (tys := eT (xE X)) C.exec C.code C.env.1 (h1.one hr) 0 3 rfl rfl hin hdg (kk H locs ls h1 h2 h3)
/-- a reference out of an array -/
theorem r_aald (C : C0 X own cc Ts d nL) {r a len : Nat} {f : Nat → Option Nat} {i : Int32} {cA : ClassId} {ty : FieldType} (t : Nat) (ht : (eT (xE X))[t]? = some (cA, ty)) (hty : ty.isReference = true) (hr : w r = some (a, .inl (cA, len, .inr (.inr (.inr (.inr f)))))) (hin : vp_in i len) (hdg : decode cc pc = .ok (.aaload, 1)) (hp : pc + 1 = pq) (kk : GG X w k n pq lv (va_rf (f i.toNatClampNeg) :: st)) : GG X w k n pc lv (.int i :: .ref a :: st) := by
  subst hp
  intro H locs ls h1 h2 h3
  have hlt : i.toNatClampNeg < len := Nat.not_le.mp fun q => hin (Or.inr q)
  exact W.aald (v := va_rf (f i.toNatClampNeg)) (ty := ty) C.exec C.code ((h1.one hr) 0 _ rfl) ((C.env.1.2 t _ ht).1 len (fun j => va_rf (f j))) hty (fun q => by cases q) (by show ¬ (i < 0 ∨ (arrV _ _ _).slots.size ≤ _); rw [arrV_size]; exact hin) (by show (arrV _ _ _).slots[_]? = _; rw [arrV_read _ _ hlt]) rfl rfl hdg (kk H locs ls h1 h2 h3)
theorem r_alen (C : C0 X own cc Ts d nL) {r a : Nat} {x : vp_A} {cA : ClassId} {ty : FieldType} {v : Int32} (t : Nat) (ht : (eT (xE X))[t]? = some (cA, ty)) (hr : w r = some (a, .inl (cA, x))) (hv : Int32.ofNat x.1 = v) (hdg : decode cc pc = .ok (.arraylength, 1)) (hp : pc + 1 = pq) (kk : GG X w k n pq lv (.int v :: st)) : GG X w k n pc lv (.ref a :: st) := by
  subst hp
  exact fun H locs ls h1 h2 h3 => va_alen (D := (xE X).1) (cl := vwCl) (tys := eT (xE X)) C.exec C.code C.env.1 (h1.one hr) 0 t rfl ht hv hdg (kk H locs ls h1 h2 h3)
theorem r_iast (C : C0 X own cc Ts d nL) {r a len : Nat} {f : Nat → Int32} {i x : Int32} (hr : w r = some (a, .inl ((xE X).2.1 0, len, .inl f))) (hin : vp_in i len) (hdg : decode cc pc = .ok (.iastore, 1)) (hp : pc + 1 = pq) (kk : GG X (va_up w r (some (a, .inl ((xE X).2.1 0, len, .inl (upd f i.toNatClampNeg x))))) k n pq lv st) : GG X w k n pc lv (.int x :: .int i :: .ref a :: st) := by
  subst hp
  intro H locs ls h1 h2 h3
  refine W.iast C.exec C.code ((h1.one hr) 0 _ rfl) ((C.env.1.2 0 _ rfl).1 len (fun j => .int (f j))) (fun q => by cases q) (by show ¬ (i < 0 ∨ (arrV _ _ _).slots.size ≤ _); rw [arrV_size]; exact hin) rfl rfl hdg fun H1 e z oq => ?_
  refine kk H1 _ ls (h1.set hr ?_ oq) (h2.put z oq (h1.le hr)) h3
  show H1[a]? = some (vp_cell _ _)
  rw [e]
  rw [vp_cell_i, vp_cell_i, arrV_store]
  congr 2
  funext q
  by_cases hq : q = i.toNatClampNeg
  · subst hq
    simp [updV, upd]
  · simp [updV, upd, hq]
theorem r_zast (C : C0 X own cc Ts d nL) {r a len : Nat} {f : Nat → Int32} {i x : Int32} (hr : w r = some (a, .inl ((xE X).2.1 1, len, .inl f))) (hin : vp_in i len) (hdg : decode cc pc = .ok (.bastore, 1)) (hp : pc + 1 = pq) (kk : GG X (va_up w r (some (a, .inl ((xE X).2.1 1, len, .inl (upd f i.toNatClampNeg (vp_nar .boolean x)))))) k n pq lv st) : GG X w k n pc lv (.int x :: .int i :: .ref a :: st) := by
  subst hp
  intro H locs ls h1 h2 h3
  refine W.zast C.exec C.code ((h1.one hr) 0 _ rfl) ((C.env.1.2 1 _ rfl).1 len (fun j => .int (f j))) (fun q => by cases q) (by show ¬ (i < 0 ∨ (arrV _ _ _).slots.size ≤ _); rw [arrV_size]; exact hin) rfl rfl hdg fun H1 e z oq => ?_
  refine kk H1 _ ls (h1.set hr ?_ oq) (h2.put z oq (h1.le hr)) h3
  show H1[a]? = some (vp_cell _ _)
  rw [e]
  rw [vp_cell_i, vp_cell_i, arrV_store]
  congr 2
  funext q
  by_cases hq : q = i.toNatClampNeg
  · subst hq
    simp [updV, upd, vp_nar]
    try rfl
  · simp [updV, upd, hq]
theorem r_sast (C : C0 X own cc Ts d nL) {r a len : Nat} {f : Nat → Int32} {i x : Int32} (hr : w r = some (a, .inl ((xE X).2.1 2, len, .inl f))) (hin : vp_in i len) (hdg : decode cc pc = .ok (.sastore, 1)) (hp : pc + 1 = pq) (kk : GG X (va_up w r (some (a, .inl ((xE X).2.1 2, len, .inl (upd f i.toNatClampNeg (vp_nar .short x)))))) k n pq lv st) : GG X w k n pc lv (.int x :: .int i :: .ref a :: st) := by
  subst hp
  intro H locs ls h1 h2 h3
  refine W.sast C.exec C.code ((h1.one hr) 0 _ rfl) ((C.env.1.2 2 _ rfl).1 len (fun j => .int (f j))) (fun q => by cases q) (by show ¬ (i < 0 ∨ (arrV _ _ _).slots.size ≤ _); rw [arrV_size]; exact hin) rfl rfl hdg fun H1 e z oq => ?_
  refine kk H1 _ ls (h1.set hr ?_ oq) (h2.put z oq (h1.le hr)) h3
  show H1[a]? = some (vp_cell _ _)
  rw [e]
  rw [vp_cell_i, vp_cell_i, arrV_store]
  congr 2
  funext q
  by_cases hq : q = i.toNatClampNeg
  · subst hq
    simp [updV, upd, vp_nar]
    try rfl
  · simp [updV, upd, hq]
theorem r_last (C : C0 X own cc Ts d nL) {r a len : Nat} {f : Nat → Int64} {i : Int32} {x : Int64} (hr : w r = some (a, .inl ((xE X).2.1 3, len, .inr (.inl f)))) (hin : vp_in i len) (hdg : decode cc pc = .ok (.lastore, 1)) (hp : pc + 1 = pq) (kk : GG X (va_up w r (some (a, .inl ((xE X).2.1 3, len, .inr (.inl (vp_updL f i.toNatClampNeg x)))))) k n pq lv st) : GG X w k n pc lv (.long x :: .int i :: .ref a :: st) := by
  subst hp
  intro H locs ls h1 h2 h3
  refine W.last C.exec C.code ((h1.one hr) 0 _ rfl) ((C.env.1.2 3 _ rfl).1 len (fun j => .long (f j))) (fun q => by cases q) (by show ¬ (i < 0 ∨ (arrV _ _ _).slots.size ≤ _); rw [arrV_size]; exact hin) rfl rfl hdg fun H1 e z oq => ?_
  refine kk H1 _ ls (h1.set hr ?_ oq) (h2.put z oq (h1.le hr)) h3
  show H1[a]? = some (vp_cell _ _)
  rw [e]
  rw [vp_cell_l, vp_cell_l, arrV_store]
  congr 2
  funext q
  by_cases hq : q = i.toNatClampNeg
  · subst hq
    simp [updV, vp_updL]
  · simp [updV, vp_updL, hq]
/-- a reference into an array of objects -/
theorem r_aast (C : C0 X own cc Ts d nL) {r a len v : Nat} {f : Nat → Option Nat} {i : Int32} {cA : ClassId} {En : String} (t : Nat) (ht : (eT (xE X))[t]? = some (cA, .object En)) (hr : w r = some (a, .inl (cA, len, .inr (.inr (.inr (.inr f)))))) (hv : ∀ H : Heap, hR (xE X) w H → va_Any En (xs X) H v) (hin : vp_in i len) (hdg : decode cc pc = .ok (.aastore, 1)) (hp : pc + 1 = pq) (kk : GG X (va_up w r (some (a, .inl (cA, len, .inr (.inr (.inr (.inr (va_up f i.toNatClampNeg (some v))))))))) k n pq lv st) : GG X w k n pc lv (.ref v :: .int i :: .ref a :: st) := by
  subst hp
  intro H locs ls h1 h2 h3
  have hlt : i.toNatClampNeg < len := Nat.not_le.mp fun q => hin (Or.inr q)
  have h0 : ¬ i < 0 := fun q => hin (Or.inl q)
  obtain ⟨cellV, g1, g3, ⟨kC, hkC⟩, hasg⟩ := hv H h1
  obtain ⟨kA, comp, k1, k2, k3, -⟩ := (C.env.1.2 t _ ht).2
  obtain ⟨kE, hkE, -⟩ := Vm.findClass_spec k3
  refine W.aast C.exec C.code ((h1.one hr) 0 _ rfl) (fun q h => by cases h) (fun h => by cases h) k1 k2 rfl hkE ⟨h0, by show _ < (arrV _ _ _).slots.size; rw [arrV_size]; exact hlt⟩ g1 (fun q h => by rw [h] at g3; cases g3) hkC (hasg _ k3) rfl rfl hdg fun H1 e z oq => ?_
  refine kk H1 _ ls (h1.set hr ?_ oq) (h2.put z oq (h1.le hr)) h3
  show H1[a]? = some (vp_cell _ _)
  rw [e]
  rw [vp_cell_q, vp_cell_q, arrV_store]
  congr 2
  funext q
  by_cases hq : q = i.toNatClampNeg
  · subst hq
    simp [updV, va_up, va_rf]
  · simp [updV, va_up, hq]
theorem r_aastN (C : C0 X own cc Ts d nL) {r a len : Nat} {f : Nat → Option Nat} {i : Int32} {cA : ClassId} {En : String} (t : Nat) (ht : (eT (xE X))[t]? = some (cA, .object En)) (hr : w r = some (a, .inl (cA, len, .inr (.inr (.inr (.inr f)))))) (hin : vp_in i len) (hdg : decode cc pc = .ok (.aastore, 1)) (hp : pc + 1 = pq) (kk : GG X (va_up w r (some (a, .inl (cA, len, .inr (.inr (.inr (.inr (va_up f i.toNatClampNeg none)))))))) k n pq lv st) : GG X w k n pc lv (.null :: .int i :: .ref a :: st) := by
  subst hp
  intro H locs ls h1 h2 h3
  refine va_WaastN (C := En) C.exec C.code ((h1.one hr) 0 _ rfl) ((C.env.1.2 t _ ht).1 len (fun j => va_rf (f j))) (fun h => by cases h) (by show ¬ (i < 0 ∨ (arrV _ _ _).slots.size ≤ _); rw [arrV_size]; exact hin) rfl rfl hdg fun H1 e z oq => ?_
  refine kk H1 _ ls (h1.set hr ?_ oq) (h2.put z oq (h1.le hr)) h3
  show H1[a]? = some (vp_cell _ _)
  rw [e]
  rw [vp_cell_q, vp_cell_q, arrV_store]
  congr 2
  funext q
  by_cases hq : q = i.toNatClampNeg
  · subst hq
    simp [updV, va_up, va_rf]
  · simp [updV, va_up, hq]
/-- a new object, in role r -/
theorem r_new (C : C0 X own cc Ts d nL) {Cn : String} {T : u_T} {N ci idx : Nat} (r : Nat) (hc : vwCl[ci]? = some (Cn, T, N)) (ty : Nat → FieldType) (hty : ∀ k, k < N → parseFieldDescriptor (T k).2.2.1 = some (ty k)) (hcl : Cond.classLink own idx Cn ∈ Ts) (hinst : Cond.instantiable Cn N ∈ Ts) (hini : Cond.initialized Cn ∈ Ts) {fs : List Value} (hfs : ∀ j, j < N → defaultValue (ty j) = vp_V fs j) (hk : k + 1 ≤ (xR X).cells) (hn : n + N ≤ (xR X).slots) (hdg : decode cc pc = .ok (.new idx, 3)) (hp : pc + 3 = pq) (kk : ∀ q : Nat, GG X (va_up w r (some (q, .inr (ci, fs)))) (k + 1) (n + N) pq lv (.ref q :: st)) : GG X w k n pc lv st := by
  subst hp
  intro H locs ls h1 h2 h3
  have hKn := C.env.1.1 ci _ hc
  have hts := C.env.lays (args := xa X) hc
  refine W.newcK C.exec C.code C.cls (C.wds _ hcl) (C.wds _ hinst) (C.wds _ hini) rfl hdg hk hn hKn.2.1 rfl fun H1 kC hkC e1 z1 o1 => ?_
  exact kk H.size H1 locs ls (h1.new (Nat.le_refl _) (Nat.le_trans C.bas h2.1) ⟨_, hc, (u_born ty hts (fun _ h => h) hKn hkC e1 hty).to hfs⟩ o1) ⟨Nat.le_trans h2.1 (by omega), fun x g1 g2 => (o1 x (Nat.lt_of_lt_of_le g1 h2.1)).trans (h2.2.1 x g1 g2), h2.2.2⟩ h3
/-- a new array of numbers, in role r -/
theorem r_newa (C : C0 X own cc Ts d nL) {atype : ArrayType} {ty : FieldType} {N : Nat} {x : Int32} {a0 : vp_A} (r t : Nat) (cA : ClassId) (ht : (eT (xE X))[t]? = some (cA, ty)) (hna : ∀ s c1 c2, va_RA s c1 ty → s.vm.findClass ("[" ++ ty.toString) = some c2 → c1 = c2) (harr : Cond.arrayClass ty ∈ Ts) (hty : newarray.typeOf atype = ty) (ha : ∀ c : ClassId, vp_cell c a0 = arrV c N (fun _ => defaultValue ty)) (hx : ¬ x < 0) (hN : x.toNatClampNeg = N) (hb : N * componentBytes ty ≤ 536870912) (hk : k + 1 ≤ (xR X).cells) (hn : n + N ≤ (xR X).slots) (hdg : decode cc pc = .ok (.newarray atype, 2)) (hp : pc + 2 = pq) (kk : ∀ q : Nat, GG X (va_up w r (some (q, .inl (cA, a0)))) (k + 1) (n + N) pq lv (.ref q :: st)) : GG X w k n pc lv (.int x :: st) := by
  subst hp
  subst hty
  intro H locs ls h1 h2 h3
  refine va_newaK C.exec C.code (C.wds _ harr) rfl hdg rfl hx hN hb hk hn rfl fun H1 c1 e1 z1 o1 hAr hNm => ?_
  have ec : cA = c1 := hna (xs X) cA c1 (C.env.1.2 t _ ht).2 hNm
  subst ec
  exact kk H.size H1 locs ls (h1.new (Nat.le_refl _) (Nat.le_trans C.bas h2.1) (by show H1[H.size]? = some (vp_cell _ _); rw [ha]; exact e1) o1) ⟨Nat.le_trans h2.1 (by omega), fun x g1 g2 => (o1 x (Nat.lt_of_lt_of_le g1 h2.1)).trans (h2.2.1 x g1 g2), h2.2.2⟩ h3
/-- a new array of objects, in role r -/
theorem r_newq (C : C0 X own cc Ts d nL) {Cn : String} {N idx : Nat} {x : Int32} (r t : Nat) (cA : ClassId) (ht : (eT (xE X))[t]? = some (cA, .object Cn)) (hcl : Cond.classLink own idx Cn ∈ Ts) (hover : Cond.arrayOver (.object Cn) ∈ Ts) (hx : ¬ x < 0) (hN : x.toNatClampNeg = N) (hb : N * 4 ≤ 536870912) (hk : k + 1 ≤ (xR X).cells) (hn : n + N ≤ (xR X).slots) (hdg : decode cc pc = .ok (.anewarray idx, 3)) (hp : pc + 3 = pq) (kk : ∀ q : Nat, GG X (va_up w r (some (q, .inl (cA, N, .inr (.inr (.inr (.inr (fun _ => none)))))))) (k + 1) (n + N) pq lv (.ref q :: st)) : GG X w k n pc lv (.int x :: st) := by
  subst hp
  subst hN
  intro H locs ls h1 h2 h3
  refine W.anew C.exec C.code C.cls (C.wds _ hcl) (C.wds _ hover) rfl hdg rfl hx hb hk hn fun c1 kA comp f1 f2 f3 f4 => ?_
  have ec : cA = c1 := by
    obtain ⟨_, _, _, _, _, g4⟩ := (C.env.1.2 t _ ht).2
    exact Option.some.inj (g4.symm.trans f1)
  subst ec
  generalize hH1 : H.push ({ cls := cA, slots := Array.replicate x.toNatClampNeg .null, vm := .none } : Cell) = H1
  have z1 : H1.size = H.size + 1 := by rw [← hH1, Array.size_push]
  have e1 : H1[H.size]? = some (arrV cA x.toNatClampNeg (fun _ => .null)) := by rw [← hH1, Array.getElem?_push_size, ← arrV_new]
  have o1 : ∀ q : Nat, q < H.size → H1[q]? = H[q]? := fun q hq => by rw [← hH1, Array.getElem?_push, if_neg (Nat.ne_of_lt hq)]
  exact kk H.size H1 locs ls (h1.new (Nat.le_refl _) (Nat.le_trans C.bas h2.1) (by show H1[H.size]? = some (vp_cell _ _); rw [e1]; rfl) o1) ⟨Nat.le_trans h2.1 (by omega), fun x g1 g2 => (o1 x (Nat.lt_of_lt_of_le g1 h2.1)).trans (h2.2.1 x g1 g2), h2.2.2⟩ h3
/-- Object's constructor -/
theorem r_objInit (C : C0 X own cc Ts d nL) {idx a : Nat} (hlink : Cond.methodLink own idx objectInit ∈ Ts) (hinst : Cond.instanceMethod objectInit ∈ Ts) (hcode : Cond.code objectInit ⟨#[0xb1]⟩ 1 none ∈ Ts) (hd : 1 ≤ d) (hcat : (st.map fun v => v.category).sum ≤ 8) (hdg : decode cc pc = .ok (.invokespecial idx, 3)) (hp : pc + 3 = pq) (kk : GG X w k n pq lv st) : GG X w k n pc lv (.ref a :: st) := by
  subst hp
  intro H locs ls h1 h2 h3
  have g1 := C.frm
  have g2 := C.loc
  have g3 := lv_room (m := xm X) (pc := pc) (ls := ls) (rest := .ref a :: st) hcat
  refine W.objInit C.exec C.code C.cls (C.wds _ hlink) (C.wds _ hinst) (C.wds _ hcode) rfl h3.1 rfl hdg (by omega) (by omega) ?_
  exact kk H locs ls h1 h2 h3
/-- behind a call -/
theorem r_after (C : C0 X own cc Ts d nL) {mc ms : Nat} {post : Option Value → RW → Prop} {a : Array Value} {rest st0 : List Value} {H : Heap} {locs : List Loc} {ls : Array Slot} (hr : va_Run (xp X) (xl X) (xe X) (xR X) (xs X) (xm X) (xa X) (xb X) (xt X) (xc X) H locs k n mc ms (F0 (xm X) pc ls st0) rest (hQc (xE X) post a) (fun q => (xE X).2.2 ≤ q)) (h2 : va_S (fun q => (xE X).2.2 ≤ q) (xs X).heap H locs) (h3 : lh ls (xc X).maxLocals lv)
    (kk : ∀ (r : Option Value) (w' : RW), post r w' → GG X w' (k + mc) (n + ms) (pc + 3) lv (r.toList ++ rest)) : W (xp X) (xl X) (xe X) (xR X) (xs X) (xm X) (xa X) (xb X) (xt X) (xc X) H locs k n (xQ X) (F0 (xm X) pc ls st0) := by
  intro T hT X9
  obtain ⟨v, st₀, t, T', L, h0, X', hL, e1, e2, ⟨⟨r, w', hv, hp, hb⟩, hz, hk⟩, go⟩ := hr T hT X9
  cases hv
  rw [h0] at hz hk
  obtain ⟨t2, a1, b1⟩ := kk v w' hp T'.heap (locs ++ L) ls (by rw [e1]; exact hb)
    ⟨Nat.le_trans h2.1 (by rw [e1]; exact hz), fun q g1 g2 => by rw [e1, hk q (Nat.lt_of_lt_of_le g1 h2.1) g2]; exact h2.2.1 q g1 g2, fun q hq => by
      rcases List.mem_append.mp hq with h | h
      · exact h2.2.2 q h
      · exact hL q h⟩ h3 T' rfl X'
  exact ⟨t2, go t2 a1, b1⟩
theorem hPc_blind (E : EV) (As : List Value) (w : RW) : FrameBlind (hPc E As w) := fun a U g mk q => ⟨q.1, q.2.1, q.2.2.1.warm (U := U.calling g mk a) (State.WarmedH.refl U) (fun _ _ _ => rfl), q.2.2.2⟩
theorem hPc_pre (C : C0 X own cc Ts d nL) {As : List Value} {H : Heap} {locs : List Loc} (h1 : hR (xE X) w H) (h2 : va_S (fun q => (xE X).2.2 ≤ q) (xs X).heap H locs) : ∀ U : State, U.heap = H → (xs X).WarmedH U.vm → hPc (xE X) As w As.toArray U := fun U hU hW => ⟨rfl, by rw [hU]; exact h1, C.env.warm hW (fun a9 q1 q2 => by rw [hU]; exact h2.2.1 a9 q1 q2), by rw [hU]; exact Nat.le_trans C.bas h2.1⟩
theorem rm_ok (C : C0 X own cc Ts d nL) {d' mc ms maxL : Nat} (hd : d' + 1 ≤ d) (hm : maxL ≤ 41) : (rmD d' mc ms).frames + 1 ≤ (xR X).frames ∧ 8 + (maxL + 11) + (rmD d' mc ms).locals ≤ (xR X).locals := by
  have g1 := C.frm
  have g2 := C.loc
  show d' + 1 ≤ _ ∧ 8 + (maxL + 11) + 60 * d' ≤ _
  omega
/-- a static call -/
theorem r_callS (C : C0 X own cc Ts d nL) {y : MethodName} {ws ws' : List Cond} {d' mc ms idx maxL na : Nat} {As rest : List Value} {bytes : ByteArray} {ret : Option FieldType} {post : Option Value → RW → Prop} (hM : MC (xl X) (xE X) y ws d' mc ms As w post) (hg : GoodIn Ts (va_wsS own idx y ws)) (hw : ws = Cond.code y bytes maxL ret :: ws') (hn0 : y.cls ≠ "java/lang/invoke/MethodHandle" ∧ y.cls ≠ "java/lang/invoke/VarHandle" ∧ (parseMethodDescriptor y.desc).map (fun d => d.parameters.length) = some na) (hna : As.length = na) (hd : d' + 1 ≤ d) (hm : maxL ≤ 41) (hcat : (rest.map fun v => v.category).sum ≤ 8) (hroom : k + mc ≤ (xR X).cells ∧ n + ms ≤ (xR X).slots) (hdg : decode cc pc = .ok (.invokestatic idx, 3)) (hst : st = As.reverse ++ rest) (hp : pc + 3 = pq)
    (kk : ∀ (r : Option Value) (w' : RW), post r w' → GG X w' (k + mc) (n + ms) pq lv (r.toList ++ rest)) : GG X w k n pc lv st := by
  subst hp
  subst hst
  subst hna
  intro H locs ls h1 h2 h3
  exact r_after C (va_runS (As := As) (rest := rest) ⟨C.exec, C.code, rfl, C.cls, C.wds⟩ hM (va_cwS As.length C.wds hg hw rfl rfl hn0 (rm_ok C hd hm)) ⟨hPc_blind _ _ _, hPc_pre C h1 h2⟩ rfl rfl h3.1 rfl (lv_room hcat) hdg hroom) h2 h3 kk
theorem hR.recv (C : C0 X own cc Ts d nL) {H : Heap} {r a ci : Nat} {fs : List Value} {q : vw_C} (h1 : hR (xE X) w H) (hr : w r = some (a, .inr (ci, fs))) (hc : vwCl[ci]? = some q) : ∃ cell : Cell, H[a]? = some cell ∧ cell.vm.isStatics = false ∧ (xs X).vm.findClass q.1 = some cell.cls := va_recv (ws := [(a, .inr (ci, fs))]) C.env.1 (h1.one hr) hc (q0 := 0) rfl
/-- a call of an instance method, of the very class of the receiver -/
theorem r_callV (C : C0 X own cc Ts d nL) {y : MethodName} {ws ws' : List Cond} {d' mc ms idx maxL r a ci na : Nat} {q : vw_C} {fs As rest : List Value} {bytes : ByteArray} {ret : Option FieldType} {post : Option Value → RW → Prop} (hM : MC (xl X) (xE X) y ws d' mc ms (.ref a :: As) w post) (hr : w r = some (a, .inr (ci, fs))) (hc : vwCl[ci]? = some q) (hg : GoodIn Ts (wsV own idx q.1 y ws)) (hw : ws = Cond.code y bytes maxL ret :: ws') (hn0 : y.cls = q.1 ∧ y.cls ≠ "java/lang/invoke/MethodHandle" ∧ y.cls ≠ "java/lang/invoke/VarHandle" ∧ (parseMethodDescriptor y.desc).map (fun d => d.parameters.length) = some na) (hna : As.length = na) (hd : d' + 1 ≤ d) (hm : maxL ≤ 41) (hcat : (rest.map fun v => v.category).sum ≤ 8) (hroom : k + mc ≤ (xR X).cells ∧ n + ms ≤ (xR X).slots) (hdg : decode cc pc = .ok (.invokevirtual idx, 3)) (hst : st = As.reverse ++ .ref a :: rest) (hp : pc + 3 = pq)
    (kk : ∀ (r : Option Value) (w' : RW), post r w' → GG X w' (k + mc) (n + ms) pq lv (r.toList ++ rest)) : GG X w k n pc lv st := by
  subst hp
  subst hst
  subst hna
  intro H locs ls h1 h2 h3
  exact r_after C (va_runV (As := As) (rest := rest) ⟨C.exec, C.code, rfl, C.cls, C.wds⟩ hM (cwV As.length C.wds hg hw rfl rfl hn0 (rm_ok C hd hm)) ⟨hPc_blind _ _ _, hR.recv C h1 hr hc, hPc_pre C h1 h2⟩ rfl rfl h3.1 rfl (lv_room hcat) hdg hroom) h2 h3 kk
/-- a call of an instance method that the receiver's class inherits (y is the method that the reference x names, in 'owner') -/
theorem r_callU (C : C0 X own cc Ts d nL) {x y : MethodName} {owner : String} {ws ws' : List Cond} {d' mc ms idx maxL r a ci na : Nat} {q : vw_C} {fs As rest : List Value} {bytes : ByteArray} {ret : Option FieldType} {post : Option Value → RW → Prop} (hM : MC (xl X) (xE X) y ws d' mc ms (.ref a :: As) w post) (hr : w r = some (a, .inr (ci, fs))) (hc : vwCl[ci]? = some q) (hg : GoodIn Ts (va_wsU own idx q.1 owner x y ws)) (hw : ws = Cond.code y bytes maxL ret :: ws') (hyx : y = ⟨owner, x.name, x.desc⟩) (hn0 : owner ≠ "java/lang/invoke/MethodHandle" ∧ owner ≠ "java/lang/invoke/VarHandle" ∧ (parseMethodDescriptor x.desc).map (fun d => d.parameters.length) = some na) (hna : As.length = na) (hd : d' + 1 ≤ d) (hm : maxL ≤ 41) (hcat : (rest.map fun v => v.category).sum ≤ 8) (hroom : k + mc ≤ (xR X).cells ∧ n + ms ≤ (xR X).slots) (hdg : decode cc pc = .ok (.invokevirtual idx, 3)) (hst : st = As.reverse ++ .ref a :: rest) (hp : pc + 3 = pq)
    (kk : ∀ (r : Option Value) (w' : RW), post r w' → GG X w' (k + mc) (n + ms) pq lv (r.toList ++ rest)) : GG X w k n pc lv st := by
  subst hp
  subst hst
  subst hna
  intro H locs ls h1 h2 h3
  exact r_after C (va_runU (As := As) (rest := rest) ⟨C.exec, C.code, rfl, C.cls, C.wds⟩ hM (va_cwU As.length C.wds hg hw rfl rfl hyx hn0 (rm_ok C hd hm)) ⟨hPc_blind _ _ _, hR.recv C h1 hr hc, hPc_pre C h1 h2⟩ rfl rfl h3.1 rfl (lv_room hcat) hdg hroom) h2 h3 kk
/-- a call of an overriding method -/
theorem r_callO (C : C0 X own cc Ts d nL) {x y : MethodName} {owner : String} {ws ws' : List Cond} {d' mc ms idx maxL r a ci m0 na : Nat} {q : vw_C} {fs As rest : List Value} {bytes b0 : ByteArray} {ret r0 : Option FieldType} {post : Option Value → RW → Prop} (hM : MC (xl X) (xE X) y ws d' mc ms (.ref a :: As) w post) (hr : w r = some (a, .inr (ci, fs))) (hc : vwCl[ci]? = some q) (hg : GoodIn Ts (va_wsO own idx q.1 owner x y ws)) (hw : ws = Cond.code y bytes maxL ret :: ws') (h0 : Cond.code ⟨owner, x.name, x.desc⟩ b0 m0 r0 ∈ Ts) (hn0 : owner ≠ "java/lang/invoke/MethodHandle" ∧ owner ≠ "java/lang/invoke/VarHandle" ∧ (parseMethodDescriptor x.desc).map (fun d => d.parameters.length) = some na) (hna : As.length = na) (hd : d' + 1 ≤ d) (hm : maxL ≤ 41) (hcat : (rest.map fun v => v.category).sum ≤ 8) (hroom : k + mc ≤ (xR X).cells ∧ n + ms ≤ (xR X).slots) (hdg : decode cc pc = .ok (.invokevirtual idx, 3)) (hst : st = As.reverse ++ .ref a :: rest) (hp : pc + 3 = pq)
    (kk : ∀ (r : Option Value) (w' : RW), post r w' → GG X w' (k + mc) (n + ms) pq lv (r.toList ++ rest)) : GG X w k n pc lv st := by
  subst hp
  subst hst
  subst hna
  intro H locs ls h1 h2 h3
  exact r_after C (va_runU (As := As) (rest := rest) ⟨C.exec, C.code, rfl, C.cls, C.wds⟩ hM (va_cwO As.length C.wds hg hw rfl rfl h0 hn0 (rm_ok C hd hm)) ⟨hPc_blind _ _ _, hR.recv C h1 hr hc, hPc_pre C h1 h2⟩ rfl rfl h3.1 rfl (lv_room hcat) hdg hroom) h2 h3 kk
/-- a constructor's call -/
theorem r_callI (C : C0 X own cc Ts d nL) {y : MethodName} {ws ws' : List Cond} {d' mc ms idx maxL a na : Nat} {As rest : List Value} {bytes : ByteArray} {post : Option Value → RW → Prop} (hM : MC (xl X) (xE X) y ws d' mc ms (.ref a :: As) w post) (hg : GoodIn Ts ws) (hw : ws = Cond.code y bytes maxL none :: ws') (hini : Cond.initialized y.cls ∈ Ts) (hl : Cond.methodLink own idx y ∈ Ts) (hin : Cond.instanceMethod y ∈ Ts) (hn0 : y.name = "<init>" ∧ y.cls ≠ "java/lang/invoke/MethodHandle" ∧ y.cls ≠ "java/lang/invoke/VarHandle" ∧ (parseMethodDescriptor y.desc).map (fun d => d.parameters.length) = some na) (hna : As.length = na) (hd : d' + 1 ≤ d) (hm : maxL ≤ 41) (hcat : (rest.map fun v => v.category).sum ≤ 8) (hroom : k + mc ≤ (xR X).cells ∧ n + ms ≤ (xR X).slots) (hdg : decode cc pc = .ok (.invokespecial idx, 3)) (hst : st = As.reverse ++ .ref a :: rest) (hp : pc + 3 = pq)
    (kk : ∀ (r : Option Value) (w' : RW), post r w' → GG X w' (k + mc) (n + ms) pq lv (r.toList ++ rest)) : GG X w k n pc lv st := by
  subst hp
  subst hst
  subst hna
  intro H locs ls h1 h2 h3
  exact r_after C (va_runI (As := As) (rest := rest) ⟨C.exec, C.code, rfl, C.cls, C.wds⟩ hM (cwI As.length C.wds hg hw rfl rfl (C.wds _ hini) (C.wds _ hl) (C.wds _ hin) hn0.1 hn0.2 (rm_ok C hd hm)) ⟨hPc_blind _ _ _, hPc_pre C h1 h2⟩ rfl rfl h3.1 rfl (lv_room hcat) hdg hroom) h2 h3 kk
/-- super.m() -/
theorem r_callSU (C : C0 X own cc Ts d nL) {y : MethodName} {ws ws' : List Cond} {d' mc ms idx maxL r a ci na : Nat} {q : vw_C} {fs As rest : List Value} {bytes : ByteArray} {ret : Option FieldType} {post : Option Value → RW → Prop} (hM : MC (xl X) (xE X) y ws d' mc ms (.ref a :: As) w post) (hr : w r = some (a, .inr (ci, fs))) (hc : vwCl[ci]? = some q) (hg : GoodIn Ts (va_wsSU own idx y ws)) (hw : ws = Cond.code y bytes maxL ret :: ws') (hn0 : y.name ≠ "<init>" ∧ (parseMethodDescriptor y.desc).map (fun d => d.parameters.length) = some na) (hna : As.length = na) (hd : d' + 1 ≤ d) (hm : maxL ≤ 41) (hcat : (rest.map fun v => v.category).sum ≤ 8) (hroom : k + mc ≤ (xR X).cells ∧ n + ms ≤ (xR X).slots) (hdg : decode cc pc = .ok (.invokespecial idx, 3)) (hst : st = As.reverse ++ .ref a :: rest) (hp : pc + 3 = pq)
    (kk : ∀ (r : Option Value) (w' : RW), post r w' → GG X w' (k + mc) (n + ms) pq lv (r.toList ++ rest)) : GG X w k n pc lv st := by
  subst hp
  subst hst
  subst hna
  intro H locs ls h1 h2 h3
  exact r_after C (va_runSU (As := As) (rest := rest) (C.env.1.1 ci _ hc).2 ⟨C.exec, C.code, rfl, C.cls, C.wds⟩ hM (va_cwSU As.length C.wds hg hw rfl rfl hn0 (rm_ok C hd hm)) ⟨hPc_blind _ _ _, hR.recv C h1 hr hc, hPc_pre C h1 h2⟩ rfl rfl h3.1 rfl (lv_room hcat) hdg hroom) h2 h3 kk
section RET
variable {ret : Option FieldType} {nm : String} {mc ms : Nat} {post : Option Value → RW → Prop}
theorem C1.end (D : C1 X ret nm mc ms post) {H : Heap} {locs : List Loc} {v : Option Value} (h1 : hR (xE X) w H) (h2 : va_S (fun q => (xE X).2.2 ≤ q) (xs X).heap H locs) (hp : post v w) : ∀ t : State, t.heap = H → (xs X).WarmedH t.vm → hQc (xE X) post (xa X) (xs X) (.returned v) t := fun t ht _ => ⟨⟨v, w, rfl, hp, by rw [ht]; exact h1⟩, h2.F ht⟩
theorem r_iret (C : C0 X own cc Ts d nL) (D : C1 X ret nm mc ms post) (hr : ret = some .int) {v : Int32} (hk : k ≤ mc ∧ n ≤ ms) (hdg : decode cc pc = .ok (.ireturn, 1)) (hp : post (some (.int v)) w) : GG X w k n pc lv [.int v] := by
  intro H locs ls h1 h2 h3
  refine W.widen hk.1 hk.2 ?_
  rw [D.2.2.2.2.2]
  exact W.iret C.exec C.code (D.1.trans hr) (C1.end D h1 h2 hp) h2.2.2 hdg D.2.1
theorem r_zret (C : C0 X own cc Ts d nL) (D : C1 X ret nm mc ms post) (hr : ret = some .boolean) {v : Int32} (hv : v = 0 ∨ v = 1) (hk : k ≤ mc ∧ n ≤ ms) (hdg : decode cc pc = .ok (.ireturn, 1)) (hp : post (some (.int v)) w) : GG X w k n pc lv [.int v] := by
  intro H locs ls h1 h2 h3
  refine W.widen hk.1 hk.2 ?_
  rw [D.2.2.2.2.2]
  exact W.zret C.exec C.code (D.1.trans hr) (by rcases hv with e | e <;> subst e <;> rfl) (C1.end D h1 h2 hp) h2.2.2 hdg D.2.1
theorem r_lret (C : C0 X own cc Ts d nL) (D : C1 X ret nm mc ms post) (hr : ret = some .long) {v : Int64} (hk : k ≤ mc ∧ n ≤ ms) (hdg : decode cc pc = .ok (.lreturn, 1)) (hp : post (some (.long v)) w) : GG X w k n pc lv [.long v] := by
  intro H locs ls h1 h2 h3
  refine W.widen hk.1 hk.2 ?_
  rw [D.2.2.2.2.2]
  exact W.lret C.exec C.code (D.1.trans hr) (C1.end D h1 h2 hp) h2.2.2 hdg D.2.1
theorem r_vret (C : C0 X own cc Ts d nL) (D : C1 X ret nm mc ms post) (hr : ret = none) (hk : k ≤ mc ∧ n ≤ ms) (hdg : decode cc pc = .ok (.return_, 1)) (hp : post none w) : GG X w k n pc lv [] := by
  intro H locs ls h1 h2 h3
  refine W.widen hk.1 hk.2 ?_
  rw [D.2.2.2.2.2]
  exact W.vret C.exec C.code (D.1.trans hr) (C1.end D h1 h2 hp) h2.2.2 hdg D.2.1
theorem r_aret (C : C0 X own cc Ts d nL) (D : C1 X ret nm mc ms post) {Cn : String} (hr : ret = some (.object Cn)) {v : Value} (hv : v = .null ∨ ∃ a, v = .ref a) (hk : k ≤ mc ∧ n ≤ ms) (hdg : decode cc pc = .ok (.areturn, 1)) (hp : post (some v) w) : GG X w k n pc lv [v] := by
  intro H locs ls h1 h2 h3
  refine W.widen hk.1 hk.2 ?_
  rw [D.2.2.2.2.2]
  exact W.aret C.exec C.code (D.1.trans hr) (Or.inl ⟨Cn, rfl⟩) hv (C1.end D h1 h2 hp) h2.2.2 hdg D.2.1
end RET
end HEAPROWS
theorem lv_args_in : ∀ (As : List Value) (i j : Nat) (v : Value), (∀ u ∈ As, u.category = 1) → As[j]? = some v → (i + j, v) ∈ lv_args i As
  | [], i, j, v, _, h => by simp at h
  | a :: As, i, 0, v, _, h => by
    simp at h
    subst h
    simp [lv_args]
  | a :: As, i, j + 1, v, hc, h => by
    have h1 := lv_args_in As (i + 1) j v (fun u hu => hc u (List.mem_cons_of_mem _ hu)) (by simpa using h)
    have h2 : ¬ a.category = 2 := by rw [hc a List.mem_cons_self]; omega
    rw [lv_args, if_neg h2]
    refine List.mem_cons_of_mem _ ?_
    rw [show i + (j + 1) = i + 1 + j by omega]
    exact h1
theorem lg_sl_len : ∀ (As : List Value), (∀ u ∈ As, u.category = 1) → (lg_sl As).length = As.length
  | [], _ => rfl
  | a :: As, hc => by
    have h1 := lg_sl_len As (fun u hu => hc u (List.mem_cons_of_mem _ hu))
    have h2 : ¬ a.category = 2 := by rw [hc a List.mem_cons_self]; omega
    unfold lg_sl at h1 ⊢
    simp [List.flatMap_cons, h2, h1]
/-- a contract out of the walk of the method's body from its entry -/
theorem MC.enter {l : Launch} {E : EV} {y : MethodName} {ws ws' : List Cond} {d mc ms maxL : Nat} {As : List Value} {w : RW} {post : Option Value → RW → Prop} {cc : ByteArray} {ret : Option FieldType} {lv0 : List (Option Value)} (hy : plainName y.cls = true) (hw : ws = Cond.code y cc maxL ret :: ws') (hcat : ∀ u ∈ As, u.category = 1) (hlen : As.length ≤ maxL) (hlv : As.map some ++ List.replicate (maxL - As.length) none = lv0)
    (body : ∀ X : XX, xl X = l → xE X = E → C0 X y.cls cc ws d maxL → C1 X ret y.name mc ms post → GG X w 0 0 0 lv0 []) : MC l E y ws d mc ms As w post := by
  refine Met.ofW (cc := cc) (maxL := maxL) (ret := ret) hy hw ?_
  intro p e s m args below meth c s₁ B hml hv
  obtain ⟨rfl, h1, h2, h3⟩ := hv
  have hts := atoms_spec (ws := ws) B.pre
  have hown : s.vm.findClass y.cls = some m.cls := findClass_of_methodNamed B.named
  have hin : meth.name = y.name := (name_of_methodNamed B.named B.method).1
  have key := body (p, l, e, (headSpec ws (rmD d mc ms)).room, s, m, As.toArray, below, meth, c, E, MQ below (hQc E post) As.toArray s mc ms (fun q => E.2.2 ≤ q)) rfl rfl ⟨B.exec, B.bytes, hown, hts, h2, h3, Nat.le_refl _, Nat.le_refl _, hml⟩ ⟨B.returns, B.notSynchronized, hin, rfl, rfl, rfl⟩
  have hl := lv_entry As (n := maxL) (by rw [lg_sl_len As hcat]; exact hlen)
  rw [lg_entry_eq]
  refine key s.heap [] _ h1 va_S.rf ⟨hl.1.trans hml.symm, hl.2.1, fun i v hi => ?_⟩
  subst hlv
  refine hl.2.2 (i, v) ?_
  by_cases hz : i < As.length
  · rw [List.getElem?_append_left (by simpa using hz), List.getElem?_map] at hi
    have h9 : As[i]? = some v := by
      cases hq : As[i]? with
      | none => rw [hq] at hi; cases hi
      | some u => rw [hq] at hi; cases hi; rfl
    have := lv_args_in As 0 i v hcat h9
    rwa [Nat.zero_add] at this
  · rw [List.getElem?_append_right (by simpa using Nat.le_of_not_lt hz), List.getElem?_replicate] at hi
    split at hi <;> cases hi
theorem MC.wider {l : Launch} {E : EV} {y : MethodName} {ws : List Cond} {d mc ms : Nat} {As : List Value} {w : RW} {post post' : Option Value → RW → Prop} (h : MC l E y ws d mc ms As w post) (hp : ∀ r w', post r w' → post' r w') : MC l E y ws d mc ms As w post' := by
  intro p e a b c s m args below hf happ hP hK
  obtain ⟨k, o, h1, h2, h3, ⟨⟨⟨r, w', g1, g2, g3⟩, g4⟩, h5⟩⟩ := h p e a b c s m args below hf happ hP hK
  exact ⟨k, o, h1, h2, h3, ⟨⟨⟨r, w', g1, hp r w' g2, g3⟩, g4⟩, h5⟩⟩

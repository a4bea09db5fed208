/-! ===== the layer: a world by roles (a role: its address and cell), one judgement GG, one row an instruction, contracts MC ===== -/
abbrev RW : Type := Nat → Option (Nat × va_E)
/-- the run's own: class numbers and slots, array classes by number, the address from which on cells are the run's -/
abbrev EV : Type := va_G × (Nat → ClassId) × Nat
def eT (E : EV) : List (ClassId × FieldType) := [(E.2.1 0, .int), (E.2.1 1, .boolean), (E.2.1 2, .short), (E.2.1 3, .long), (E.2.1 4, .object "NightBook$Span"), (E.2.1 5, .object "NightBook$Window"), (E.2.1 6, .object "NightBook$Held"), (E.2.1 7, .object "NightBook$Tally"), (E.2.1 8, .array .int)]
def hR (E : EV) (w : RW) (H : Heap) : Prop := (∀ (r a : Nat) (e : va_E), w r = some (a, e) → va_at E.1 vwCl (a, e) H ∧ E.2.2 ≤ a) ∧ ∀ (r r' a : Nat) (e e' : va_E), w r = some (a, e) → w r' = some (a, e') → r = r'
def eL (U : State) : Prop := ∀ (c : Nat) (q : vw_C), vwCl[c]? = some q → ∀ k, k < q.2.2 → (u_lay q.1 q.2.1 k).before #[] U = true
def eN (U : State) : Prop := ∀ C ∈ [RX0, RX1, RX3, RX5, RX6, RX7, RX9, RX10], va_Nc C RX4 U
def eCs : List (String × String) := [(RX1, RX5), (RX6, RX5), (RX10, RX5), (RX7, RX9), (RX3, RX9), (RX0, RX9), (RX5, RX2), (RX1, RX2), (RX6, RX2), (RX10, RX2), (RX9, RX2), (RX7, RX2), (RX3, RX2), (RX0, RX2), (RX4, RX2), ("java/lang/IllegalStateException", "java/lang/IllegalStateException"), ("java/lang/IllegalArgumentException", "java/lang/IllegalArgumentException")]
def eSt : List (String × Nat × String) := [(RX11, 293, "no such shelf"), (RX11, 304, "no row is held"), (RX11, 311, "no such place"), (RX5, 29, "a mark fails"), (RX9, 56, "a law fails")]
def eDl : List String := ["java/lang/RuntimeException", "java/lang/Exception", "java/lang/Throwable"]
/-- links into the nest, the one method without code, who is whose kind, the strings -/
def eX (U : State) : Prop := (∀ c ∈ [RX5, RX9, RX4], va_Nw (.methodLinkNest c 3 yX2_init "NightBook") U) ∧ va_Nw (.declares ⟨"NightBook$Held", "heft", "()I"⟩) U ∧ (∀ q ∈ eCs, va_Nw (.castable q.1 q.2) U) ∧ (∀ q ∈ eSt, ∃ sa, vk_R q.1 q.2.1 q.2.2 sa U) ∧ (∀ c ∈ eDl, va_Nw (.declares (Bundle.initS c)) U) ∧ va_Nc "java/lang/IllegalStateException" "java/lang/IllegalArgumentException" U
/-- the statics of Throwable, below what the run makes -/
def eS (E : EV) (U : State) : Prop := vx_Zq Bundle.tN "UNASSIGNED_STACK" Bundle.steD (fun q => E.2.2 ≤ q) U U.heap ∧ vx_Zq Bundle.tN "SUPPRESSED_SENTINEL" Bundle.listD (fun q => E.2.2 ≤ q) U U.heap
def eK (E : EV) (U : State) : Prop := va_K E.1 vwCl (eT E) U ∧ eL U ∧ eN U ∧ eX U ∧ eS E U
theorem u_lay_good (C : String) (T : u_T) (k : Nat) : ((u_lay C T k).onTables && (u_lay C T k).keeps) = true := by
  unfold u_lay
  split <;> rfl
theorem eX.warm {s U : State} (hW : s.WarmedH U.vm) (h : eX s) : eX U :=
  ⟨fun c hc => va_Nw.warmM hW (h.1 c hc), va_Nw.warmD hW h.2.1, fun q hq => va_Nw.warmC hW (h.2.2.1 q hq), fun q hq => (h.2.2.2.1 q hq).elim fun sa h9 => ⟨sa, vk_R.warm hW h9⟩, fun c hc => va_Nw.warmD hW (h.2.2.2.2.1 c hc), h.2.2.2.2.2.moved hW.alike⟩
theorem eK.warm {E : EV} {s U : State} (hW : s.WarmedH U.vm) (hH : ∀ a : Nat, a < s.heap.size → ¬ E.2.2 ≤ a → U.heap[a]? = s.heap[a]?) (h : eK E s) : eK E U :=
  ⟨va_K.moved hW.alike h.1, fun c q hq k hk => word_at hW (Or.inl (u_lay_good _ _ _)) (h.2.1 c q hq k hk), fun C hC => (h.2.2.1 C hC).moved hW.alike, h.2.2.2.1.warm hW, vx_Zq.moved hW.alike (h.2.2.2.2.1.kept hH), vx_Zq.moved hW.alike (h.2.2.2.2.2.kept hH)⟩
theorem eK.lays {E : EV} {s : State} (h : eK E s) {args : Array Value} {c : Nat} {q : vw_C} (hq : vwCl[c]? = some q) : ∀ w ∈ u_ws q.1 q.2.1 q.2.2, w.before args s = true := by
  intro w hw
  obtain ⟨k, hk, rfl⟩ := List.mem_map.mp hw
  exact word_at (State.WarmedH.refl s) (Or.inl (u_lay_good _ _ _)) (h.2.1 c q hq k (List.mem_range.mp hk))
/-- the cell of one role alone -/
theorem hR.one {E : EV} {w : RW} {H : Heap} (h : hR E w H) {r a : Nat} {e : va_E} (hr : w r = some (a, e)) : va_P E.1 vwCl [(a, e)] H := by
  intro k q hk
  have hz : k < 1 := (List.getElem?_eq_some_iff.mp hk).1
  rw [show k = 0 by omega] at hk
  cases hk
  exact (h.1 r a e hr).1
theorem hR.le {E : EV} {w : RW} {H : Heap} (h : hR E w H) {r a : Nat} {e : va_E} (hr : w r = some (a, e)) : E.2.2 ≤ a := (h.1 r a e hr).2
theorem hR.set {E : EV} {w : RW} {H H1 : Heap} (h : hR E w H) {r a : Nat} {e0 e : va_E} (hr : w r = some (a, e0)) (he : va_at E.1 vwCl (a, e) H1) (oq : ∀ q : Nat, q ≠ a → H1[q]? = H[q]?) : hR E (va_up w r (some (a, e))) H1 := by
  have key : ∀ (r' a' : Nat) (e' : va_E), va_up w r (some (a, e)) r' = some (a', e') → (r' = r ∧ a' = a ∧ e' = e) ∨ (r' ≠ r ∧ w r' = some (a', e')) := by
    intro r' a' e' h'
    unfold va_up at h'
    by_cases hx : r' = r
    · rw [if_pos hx] at h'
      cases h'
      exact Or.inl ⟨hx, rfl, rfl⟩
    · rw [if_neg hx] at h'
      exact Or.inr ⟨hx, h'⟩
  refine ⟨fun r' a' e' h' => ?_, fun r1 r2 a' e1 e2 h1 h2 => ?_⟩
  · rcases key r' a' e' h' with ⟨-, rfl, rfl⟩ | ⟨hn, hw⟩
    · exact ⟨he, h.le hr⟩
    · refine ⟨((h.1 r' a' e' hw).1).kept (oq a' (fun q => ?_)), h.le hw⟩
      subst q
      exact hn (h.2 r' r a' e' e0 hw hr)
  · rcases key r1 a' e1 h1 with ⟨q1, q2, -⟩ | ⟨q1, q2⟩ <;> rcases key r2 a' e2 h2 with ⟨q3, q4, -⟩ | ⟨q3, q4⟩
    · rw [q1, q3]
    · subst q2
      exact absurd (h.2 r2 r a' e2 e0 q4 hr) q3
    · subst q4
      exact absurd (h.2 r1 r a' e1 e0 q2 hr) q1
    · exact h.2 r1 r2 a' e1 e2 q2 q4
theorem hR.new {E : EV} {w : RW} {H H1 : Heap} (h : hR E w H) {r a : Nat} {e : va_E} (ha : H.size ≤ a) (hb : E.2.2 ≤ a) (he : va_at E.1 vwCl (a, e) H1) (oq : ∀ q : Nat, q < H.size → H1[q]? = H[q]?) : hR E (va_up w r (some (a, e))) H1 := by
  have key : ∀ (r' a' : Nat) (e' : va_E), va_up w r (some (a, e)) r' = some (a', e') → (r' = r ∧ a' = a ∧ e' = e) ∨ (r' ≠ r ∧ w r' = some (a', e') ∧ a' < H.size) := by
    intro r' a' e' h'
    unfold va_up at h'
    by_cases hx : r' = r
    · rw [if_pos hx] at h'
      cases h'
      exact Or.inl ⟨hx, rfl, rfl⟩
    · rw [if_neg hx] at h'
      exact Or.inr ⟨hx, h', ((h.1 r' a' e' h').1).lt⟩
  refine ⟨fun r' a' e' h' => ?_, fun r1 r2 a' e1 e2 h1 h2 => ?_⟩
  · rcases key r' a' e' h' with ⟨-, rfl, rfl⟩ | ⟨hn, hw, hl⟩
    · exact ⟨he, hb⟩
    · exact ⟨((h.1 r' a' e' hw).1).kept (oq a' hl), h.le hw⟩
  · rcases key r1 a' e1 h1 with ⟨q1, q2, -⟩ | ⟨q1, q2, q5⟩ <;> rcases key r2 a' e2 h2 with ⟨q3, q4, -⟩ | ⟨q3, q4, q6⟩
    · rw [q1, q3]
    · omega
    · omega
    · exact h.2 r1 r2 a' e1 e2 q2 q4
/-- fewer roles, or other roles for the same cells -/
theorem hR.ren {E : EV} {w w' : RW} {H : Heap} (h : hR E w H) (f : Nat → Nat) (hf : ∀ r x, w' r = some x → w (f r) = some x) (hi : ∀ r r' x y, w' r = some x → w' r' = some y → f r = f r' → r = r') : hR E w' H :=
  ⟨fun r a e hr => h.1 (f r) a e (hf r _ hr), fun r r' a e e' h1 h2 => hi r r' _ _ h1 h2 (h.2 _ _ a e e' (hf r _ h1) (hf r' _ h2))⟩
def hPc (E : EV) (As : List Value) (w : RW) : Array Value → State → Prop := fun v U => v = As.toArray ∧ hR E w U.heap ∧ eK E U ∧ E.2.2 ≤ U.heap.size
def hQc (E : EV) (post : Option Value → RW → Prop) : Array Value → State → Outcome → State → Prop := fun _ st oc t => (∃ (r : Option Value) (w' : RW), oc = .returned r ∧ post r w' ∧ hR E w' t.heap) ∧ va_F (fun q => E.2.2 ≤ q) st t
def rmD (d mc ms : Nat) : Room := { frames := d, cells := mc, slots := ms, locals := 60 * d }
/-- a method's contract: from the world w with the arguments As it returns, the answer and the world behind it as post says -/
def MC (l : Launch) (E : EV) (y : MethodName) (ws : List Cond) (d mc ms : Nat) (As : List Value) (w : RW) (post : Option Value → RW → Prop) : Prop :=
  Met l y ws (rmD d mc ms) (hPc E As w) (hQc E post) mc ms (fun q => E.2.2 ≤ q)
/-- where a walk is: program, launch, env, room, start state, method, arguments, frames below, method's own, its code, the run's own, the end that is owed -/
abbrev XX : Type := Program × Launch × Env × Room × State × MethodId × Array Value × List Frame × Method × Code × EV × (State → Prop)
abbrev xp (X : XX) : Program := X.1
abbrev xl (X : XX) : Launch := X.2.1
abbrev xe (X : XX) : Env := X.2.2.1
abbrev xR (X : XX) : Room := X.2.2.2.1
abbrev xs (X : XX) : State := X.2.2.2.2.1
abbrev xm (X : XX) : MethodId := X.2.2.2.2.2.1
abbrev xa (X : XX) : Array Value := X.2.2.2.2.2.2.1
abbrev xb (X : XX) : List Frame := X.2.2.2.2.2.2.2.1
abbrev xt (X : XX) : Method := X.2.2.2.2.2.2.2.2.1
abbrev xc (X : XX) : Code := X.2.2.2.2.2.2.2.2.2.1
abbrev xE (X : XX) : EV := X.2.2.2.2.2.2.2.2.2.2.1
abbrev xQ (X : XX) : State → Prop := X.2.2.2.2.2.2.2.2.2.2.2
def lh (ls : Array Slot) (nL : Nat) (lv : List (Option Value)) : Prop := ls.size = nL ∧ lv_wf ls ∧ ∀ (i : Nat) (v : Value), lv[i]? = some (some v) → ls[i]? = some (.val v)
def GG (X : XX) (w : RW) (k n pc : Nat) (lv : List (Option Value)) (st : List Value) : Prop :=
  ∀ (H : Heap) (locs : List Loc) (ls : Array Slot), hR (xE X) w H → va_S (fun q => (xE X).2.2 ≤ q) (xs X).heap H locs → lh ls (xc X).maxLocals lv → W (xp X) (xl X) (xe X) (xR X) (xs X) (xm X) (xa X) (xb X) (xt X) (xc X) H locs k n (xQ X) (F0 (xm X) pc ls st)
def C0 (X : XX) (own : String) (cc : ByteArray) (Ts : List Cond) (d nL : Nat) : Prop :=
  (xp X).tables.exec = Jvm.exec ∧ (xc X).code = cc ∧ (xs X).vm.findClass own = some (xm X).cls ∧ (∀ w ∈ Ts, w.before (xa X) (xs X) = true) ∧ eK (xE X) (xs X) ∧ (xE X).2.2 ≤ (xs X).heap.size ∧ d ≤ (xR X).frames ∧ 60 * d ≤ (xR X).locals ∧ (xc X).maxLocals = nL
def C1 (X : XX) (ret : Option FieldType) (nm : String) (mc ms : Nat) (post : Option Value → RW → Prop) : Prop :=
  (xt X).sig.returnType = ret ∧ (xt X).locks = false ∧ (xt X).name = nm ∧ (xR X).cells = mc ∧ (xR X).slots = ms ∧ xQ X = MQ (xb X) (hQc (xE X) post) (xa X) (xs X) mc ms (fun q => (xE X).2.2 ≤ q)
def okst (lv : List (Option Value)) (i : Nat) : Bool := match i with
  | 0 => true
  | j + 1 => match lv[j]? with
    | some (some v) => v.category == 1
    | _ => true
theorem lh.store {ls : Array Slot} {nL : Nat} {lv : List (Option Value)} {i : Nat} {v : Value} (h : lh ls nL lv) (hi : i < nL) (hc : v.category = 1) (ho : okst lv i = true) : ∃ ls', storeLocals ls i v = some ls' ∧ lh ls' nL (lv.set i (some v)) := by
  obtain ⟨h1, h2, h3⟩ := h
  obtain ⟨ls', e', g⟩ := lv_store1 (l := []) (v := v) ⟨h1, h2, fun q hq => by cases hq⟩ hi hc
  refine ⟨ls', e', g.1, g.2.1, fun j u hj => ?_⟩
  by_cases hji : j = i
  · subst hji
    have hu : u = v := by
      by_cases hl : j < lv.length
      · rw [List.getElem?_set_self hl] at hj
        cases hj
        rfl
      · rw [List.getElem?_eq_none (by simp; omega)] at hj
        cases hj
    subst hu
    exact g.2.2 (j, u) List.mem_cons_self
  · rw [List.getElem?_set_ne (Ne.symm hji)] at hj
    obtain ⟨ls2, e2, g2⟩ := lv_store1 (l := [(j, u)]) (v := v) ⟨h1, h2, fun q hq => by
      rw [List.mem_singleton] at hq
      subst hq
      exact h3 j u hj⟩ hi hc
    have e3 : ls2 = ls' := Option.some.inj (e2.symm.trans e')
    subst e3
    refine g2.2.2 (j, u) (List.mem_cons_of_mem _ (List.mem_filter.mpr ⟨List.mem_singleton.mpr rfl, ?_⟩))
    have hx : ¬ (j + 1 = i ∧ u.category = 2) := fun ⟨q1, q2⟩ => by
      subst q1
      simp [okst, hj, q2] at ho
    simp [hji]
    by_cases q1 : j + 1 = i
    · exact Or.inr (fun q2 => hx ⟨q1, q2⟩)
    · exact Or.inl q1
section ROWS
variable {X : XX} {own : String} {cc : ByteArray} {Ts : List Cond} {d nL : Nat} {w : RW} {k n pc pq tg : Nat} {lv : List (Option Value)} {st : List Value}
theorem GG.cast {w' : RW} (h : w = w') (kk : GG X w' k n pc lv st) : GG X w k n pc lv st := h ▸ kk
theorem r_top {x : Int32} (kk : ∀ y : Int32, y = x → GG X w k n pc lv (.int y :: st)) : GG X w k n pc lv (.int x :: st) := kk x rfl
theorem r_at {x y : Int32} (h : x = y) (kk : GG X w k n pc lv (.int y :: st)) : GG X w k n pc lv (.int x :: st) := by rw [h]; exact kk

theorem r_iconst (C : C0 X own cc Ts d nL) {i : Int} {v : Int32} (hdg : decode cc pc = .ok (.iconst i, 1)) (hv : Int32.ofInt i = v) (hp : pc + 1 = pq) (kk : GG X w k n pq lv (.int v :: st)) : GG X w k n pc lv (st) := by
  subst hp
  exact fun H locs ls a b c => lv_iconst C.1 C.2.1 hdg hv (kk H locs ls a b c)
theorem r_bipush (C : C0 X own cc Ts d nL) {i : Int} {v : Int32} (hdg : decode cc pc = .ok (.bipush i, 2)) (hv : (Int8.ofInt i).toInt32 = v) (hp : pc + 2 = pq) (kk : GG X w k n pq lv (.int v :: st)) : GG X w k n pc lv (st) := by
  subst hp
  exact fun H locs ls a b c => lv_bipush C.1 C.2.1 hdg hv (kk H locs ls a b c)
theorem r_sipush (C : C0 X own cc Ts d nL) {i : Int} {v : Int32} (hdg : decode cc pc = .ok (.sipush i, 3)) (hv : (Int16.ofInt i).toInt32 = v) (hp : pc + 3 = pq) (kk : GG X w k n pq lv (.int v :: st)) : GG X w k n pc lv (st) := by
  subst hp
  exact fun H locs ls a b c => lv_sipush C.1 C.2.1 hdg hv (kk H locs ls a b c)
theorem r_aconst_null (C : C0 X own cc Ts d nL)  (hdg : decode cc pc = .ok (.aconst_null, 1))  (hp : pc + 1 = pq) (kk : GG X w k n pq lv (.null :: st)) : GG X w k n pc lv (st) := by
  subst hp
  exact fun H locs ls a b c => lv_null C.1 C.2.1 hdg (kk H locs ls a b c)
theorem r_lconst (C : C0 X own cc Ts d nL) {i : Fin 2} {v : Int64} (hdg : decode cc pc = .ok (.lconst i, 1)) (hv : Int64.ofNat (i : Nat) = v) (hp : pc + 1 = pq) (kk : GG X w k n pq lv (.long v :: st)) : GG X w k n pc lv (st) := by
  subst hp
  exact fun H locs ls a b c => lv_lconst C.1 C.2.1 hdg hv (kk H locs ls a b c)
theorem r_iload_n (C : C0 X own cc Ts d nL) {i : Fin 4} {x : Int32} (hdg : decode cc pc = .ok (.iload_n i, 1)) (hl : lv[(i : Nat)]? = some (some (.int x))) (hp : pc + 1 = pq) (kk : GG X w k n pq lv (.int x :: st)) : GG X w k n pc lv (st) := by
  subst hp
  exact fun H locs ls a b c => lv_iload_n C.1 C.2.1 hdg rfl (c.2.2 _ _ hl) (kk H locs ls a b c)
theorem r_aload_n (C : C0 X own cc Ts d nL) {i : Fin 4} {x : Nat} (hdg : decode cc pc = .ok (.aload_n i, 1)) (hl : lv[(i : Nat)]? = some (some (.ref x))) (hp : pc + 1 = pq) (kk : GG X w k n pq lv (.ref x :: st)) : GG X w k n pc lv (st) := by
  subst hp
  exact fun H locs ls a b c => lv_aload_n C.1 C.2.1 hdg rfl (c.2.2 _ _ hl) (kk H locs ls a b c)
theorem r_aload_nN (C : C0 X own cc Ts d nL) {i : Fin 4} (hdg : decode cc pc = .ok (.aload_n i, 1)) (hl : lv[(i : Nat)]? = some (some .null)) (hp : pc + 1 = pq) (kk : GG X w k n pq lv (.null :: st)) : GG X w k n pc lv (st) := by
  subst hp
  exact fun H locs ls a b c => lv_aload_nN C.1 C.2.1 hdg rfl (c.2.2 _ _ hl) (kk H locs ls a b c)
theorem r_lload_n (C : C0 X own cc Ts d nL) {i : Fin 4} {x : Int64} (hdg : decode cc pc = .ok (.lload_n i, 1)) (hl : lv[(i : Nat)]? = some (some (.long x))) (hp : pc + 1 = pq) (kk : GG X w k n pq lv (.long x :: st)) : GG X w k n pc lv (st) := by
  subst hp
  exact fun H locs ls a b c => lv_lload_n C.1 C.2.1 hdg rfl (c.2.2 _ _ hl) (kk H locs ls a b c)
theorem r_iload (C : C0 X own cc Ts d nL) {i : Nat} {x : Int32} (hdg : decode cc pc = .ok (.iload i, 2)) (hl : lv[i]? = some (some (.int x))) (hp : pc + 2 = pq) (kk : GG X w k n pq lv (.int x :: st)) : GG X w k n pc lv (st) := by
  subst hp
  exact fun H locs ls a b c => lv_iload C.1 C.2.1 hdg (c.2.2 _ _ hl) (kk H locs ls a b c)
theorem r_aload (C : C0 X own cc Ts d nL) {i : Nat} {x : Nat} (hdg : decode cc pc = .ok (.aload i, 2)) (hl : lv[i]? = some (some (.ref x))) (hp : pc + 2 = pq) (kk : GG X w k n pq lv (.ref x :: st)) : GG X w k n pc lv (st) := by
  subst hp
  exact fun H locs ls a b c => lv_aload C.1 C.2.1 hdg (c.2.2 _ _ hl) (kk H locs ls a b c)
theorem r_aloadN (C : C0 X own cc Ts d nL) {i : Nat} (hdg : decode cc pc = .ok (.aload i, 2)) (hl : lv[i]? = some (some .null)) (hp : pc + 2 = pq) (kk : GG X w k n pq lv (.null :: st)) : GG X w k n pc lv (st) := by
  subst hp
  exact fun H locs ls a b c => lv_aloadN C.1 C.2.1 hdg (c.2.2 _ _ hl) (kk H locs ls a b c)
theorem r_lload (C : C0 X own cc Ts d nL) {i : Nat} {x : Int64} (hdg : decode cc pc = .ok (.lload i, 2)) (hl : lv[i]? = some (some (.long x))) (hp : pc + 2 = pq) (kk : GG X w k n pq lv (.long x :: st)) : GG X w k n pc lv (st) := by
  subst hp
  exact fun H locs ls a b c => lv_lload C.1 C.2.1 hdg (c.2.2 _ _ hl) (kk H locs ls a b c)
theorem r_iadd (C : C0 X own cc Ts d nL) {x y : Int32} (hdg : decode cc pc = .ok (.iadd, 1))  (hp : pc + 1 = pq) (kk : GG X w k n pq lv (.int (x + y) :: st)) : GG X w k n pc lv (.int y :: .int x :: st) := by
  subst hp
  exact fun H locs ls a b c => lv_iadd C.1 C.2.1 hdg (kk H locs ls a b c)
theorem r_isub (C : C0 X own cc Ts d nL) {x y : Int32} (hdg : decode cc pc = .ok (.isub, 1))  (hp : pc + 1 = pq) (kk : GG X w k n pq lv (.int (x - y) :: st)) : GG X w k n pc lv (.int y :: .int x :: st) := by
  subst hp
  exact fun H locs ls a b c => lv_isub C.1 C.2.1 hdg (kk H locs ls a b c)
theorem r_imul (C : C0 X own cc Ts d nL) {x y : Int32} (hdg : decode cc pc = .ok (.imul, 1))  (hp : pc + 1 = pq) (kk : GG X w k n pq lv (.int (x * y) :: st)) : GG X w k n pc lv (.int y :: .int x :: st) := by
  subst hp
  exact fun H locs ls a b c => lv_imul C.1 C.2.1 hdg (kk H locs ls a b c)
theorem r_iand (C : C0 X own cc Ts d nL) {x y : Int32} (hdg : decode cc pc = .ok (.iand, 1))  (hp : pc + 1 = pq) (kk : GG X w k n pq lv (.int (x &&& y) :: st)) : GG X w k n pc lv (.int y :: .int x :: st) := by
  subst hp
  exact fun H locs ls a b c => lv_iand C.1 C.2.1 hdg (kk H locs ls a b c)
theorem r_ior (C : C0 X own cc Ts d nL) {x y : Int32} (hdg : decode cc pc = .ok (.ior, 1))  (hp : pc + 1 = pq) (kk : GG X w k n pq lv (.int (x ||| y) :: st)) : GG X w k n pc lv (.int y :: .int x :: st) := by
  subst hp
  exact fun H locs ls a b c => lv_ior C.1 C.2.1 hdg (kk H locs ls a b c)
theorem r_ixor (C : C0 X own cc Ts d nL) {x y : Int32} (hdg : decode cc pc = .ok (.ixor, 1))  (hp : pc + 1 = pq) (kk : GG X w k n pq lv (.int (x ^^^ y) :: st)) : GG X w k n pc lv (.int y :: .int x :: st) := by
  subst hp
  exact fun H locs ls a b c => lv_ixor C.1 C.2.1 hdg (kk H locs ls a b c)
theorem r_ishl (C : C0 X own cc Ts d nL) {x y : Int32} (hdg : decode cc pc = .ok (.ishl, 1))  (hp : pc + 1 = pq) (kk : GG X w k n pq lv (.int (x <<< (y &&& 31)) :: st)) : GG X w k n pc lv (.int y :: .int x :: st) := by
  subst hp
  exact fun H locs ls a b c => lv_ishl C.1 C.2.1 hdg (kk H locs ls a b c)
theorem r_ishr (C : C0 X own cc Ts d nL) {x y : Int32} (hdg : decode cc pc = .ok (.ishr, 1))  (hp : pc + 1 = pq) (kk : GG X w k n pq lv (.int (x >>> (y &&& 31)) :: st)) : GG X w k n pc lv (.int y :: .int x :: st) := by
  subst hp
  exact fun H locs ls a b c => lv_ishr C.1 C.2.1 hdg (kk H locs ls a b c)
theorem r_idiv (C : C0 X own cc Ts d nL) {x y : Int32} (hdg : decode cc pc = .ok (.idiv, 1)) (hne : ¬ y = 0) (hp : pc + 1 = pq) (kk : GG X w k n pq lv (.int (x / y) :: st)) : GG X w k n pc lv (.int y :: .int x :: st) := by
  subst hp
  exact fun H locs ls a b c => lv_idiv C.1 C.2.1 hdg hne (kk H locs ls a b c)
theorem r_irem (C : C0 X own cc Ts d nL) {x y : Int32} (hdg : decode cc pc = .ok (.irem, 1)) (hne : ¬ y = 0) (hp : pc + 1 = pq) (kk : GG X w k n pq lv (.int (x - x / y * y) :: st)) : GG X w k n pc lv (.int y :: .int x :: st) := by
  subst hp
  exact fun H locs ls a b c => lv_irem C.1 C.2.1 hdg hne (kk H locs ls a b c)
theorem r_i2l (C : C0 X own cc Ts d nL) {x : Int32} (hdg : decode cc pc = .ok (.i2l, 1))  (hp : pc + 1 = pq) (kk : GG X w k n pq lv (.long x.toInt64 :: st)) : GG X w k n pc lv (.int x :: st) := by
  subst hp
  exact fun H locs ls a b c => lv_i2l C.1 C.2.1 hdg rfl (kk H locs ls a b c)
theorem r_i2b (C : C0 X own cc Ts d nL) {x : Int32} (hdg : decode cc pc = .ok (.i2b, 1))  (hp : pc + 1 = pq) (kk : GG X w k n pq lv (.int x.toInt8.toInt32 :: st)) : GG X w k n pc lv (.int x :: st) := by
  subst hp
  exact fun H locs ls a b c => lv_i2b C.1 C.2.1 hdg rfl (kk H locs ls a b c)
theorem r_i2s (C : C0 X own cc Ts d nL) {x : Int32} (hdg : decode cc pc = .ok (.i2s, 1))  (hp : pc + 1 = pq) (kk : GG X w k n pq lv (.int x.toInt16.toInt32 :: st)) : GG X w k n pc lv (.int x :: st) := by
  subst hp
  exact fun H locs ls a b c => lv_i2s C.1 C.2.1 hdg rfl (kk H locs ls a b c)
theorem r_iushr (C : C0 X own cc Ts d nL) {x y : Int32} (hdg : decode cc pc = .ok (.iushr, 1))  (hp : pc + 1 = pq) (kk : GG X w k n pq lv (.int ((x.toUInt32 >>> (y.toUInt32 &&& Int32.toUInt32 31)).toInt32) :: st)) : GG X w k n pc lv (.int y :: .int x :: st) := by
  subst hp
  exact fun H locs ls a b c => lv_iushr C.1 C.2.1 hdg rfl (kk H locs ls a b c)
theorem r_dup (C : C0 X own cc Ts d nL) {va : Value} (hdg : decode cc pc = .ok (.dup, 1)) (hva : va.category = 1) (hp : pc + 1 = pq) (kk : GG X w k n pq lv (va :: va :: st)) : GG X w k n pc lv (va :: st) := by
  subst hp
  exact fun H locs ls a b c => lv_dup C.1 C.2.1 hdg hva (kk H locs ls a b c)
theorem r_pop (C : C0 X own cc Ts d nL) {va : Value} (hdg : decode cc pc = .ok (.pop, 1)) (hva : va.category = 1) (hp : pc + 1 = pq) (kk : GG X w k n pq lv (st)) : GG X w k n pc lv (va :: st) := by
  subst hp
  exact fun H locs ls a b c => lv_pop C.1 C.2.1 hdg hva (kk H locs ls a b c)
theorem r_dup2 (C : C0 X own cc Ts d nL) {va vb : Value} (hdg : decode cc pc = .ok (.dup2, 1)) (hva : va.category = 1) (hvb : vb.category = 1) (hp : pc + 1 = pq) (kk : GG X w k n pq lv (va :: vb :: va :: vb :: st)) : GG X w k n pc lv (va :: vb :: st) := by
  subst hp
  exact fun H locs ls a b c => lv_dup2_11 C.1 C.2.1 hdg hva hvb (kk H locs ls a b c)
theorem r_istore_n (C : C0 X own cc Ts d nL) {i : Fin 4} {j : Nat} {x : Int32} (hdg : decode cc pc = .ok (.istore_n i, 1)) (hj : (i : Nat) = j) (hi : j < nL) (ho : okst lv j = true) (hp : pc + 1 = pq) (kk : GG X w k n pq (lv.set j (some (.int x))) st) : GG X w k n pc lv (.int x :: st) := by
  subst hp
  subst hj
  intro H locs ls a b c
  obtain ⟨ls', e', h'⟩ := lh.store (v := .int x) c (by rw [C.2.2.2.2.2.2.2.2]; exact hi) rfl ho
  have kw := kk H locs ls' a b h'
  intro T hT X9
  obtain ⟨t, a1, b1⟩ := kw T hT X9
  refine ⟨t, ?_, b1⟩
  have hexec := C.1
  have hb := C.2.1
  jvm_step X9.here [X9.here.top, ↓top_set X9.here.top, hexec, hb, hdg, e']
  exact a1
theorem r_istore (C : C0 X own cc Ts d nL) {i : Nat} {j : Nat} {x : Int32} (hdg : decode cc pc = .ok (.istore i, 2)) (hj : i = j) (hi : j < nL) (ho : okst lv j = true) (hp : pc + 2 = pq) (kk : GG X w k n pq (lv.set j (some (.int x))) st) : GG X w k n pc lv (.int x :: st) := by
  subst hp
  subst hj
  intro H locs ls a b c
  obtain ⟨ls', e', h'⟩ := lh.store (v := .int x) c (by rw [C.2.2.2.2.2.2.2.2]; exact hi) rfl ho
  have kw := kk H locs ls' a b h'
  intro T hT X9
  obtain ⟨t, a1, b1⟩ := kw T hT X9
  refine ⟨t, ?_, b1⟩
  have hexec := C.1
  have hb := C.2.1
  jvm_step X9.here [X9.here.top, ↓top_set X9.here.top, hexec, hb, hdg, e']
  exact a1
theorem r_astore_n (C : C0 X own cc Ts d nL) {i : Fin 4} {j : Nat} {x : Nat} (hdg : decode cc pc = .ok (.astore_n i, 1)) (hj : (i : Nat) = j) (hi : j < nL) (ho : okst lv j = true) (hp : pc + 1 = pq) (kk : GG X w k n pq (lv.set j (some (.ref x))) st) : GG X w k n pc lv (.ref x :: st) := by
  subst hp
  subst hj
  intro H locs ls a b c
  obtain ⟨ls', e', h'⟩ := lh.store (v := .ref x) c (by rw [C.2.2.2.2.2.2.2.2]; exact hi) rfl ho
  have kw := kk H locs ls' a b h'
  intro T hT X9
  obtain ⟨t, a1, b1⟩ := kw T hT X9
  refine ⟨t, ?_, b1⟩
  have hexec := C.1
  have hb := C.2.1
  jvm_step X9.here [X9.here.top, ↓top_set X9.here.top, hexec, hb, hdg, e']
  exact ⟨rfl, a1⟩
theorem r_astore (C : C0 X own cc Ts d nL) {i : Nat} {j : Nat} {x : Nat} (hdg : decode cc pc = .ok (.astore i, 2)) (hj : i = j) (hi : j < nL) (ho : okst lv j = true) (hp : pc + 2 = pq) (kk : GG X w k n pq (lv.set j (some (.ref x))) st) : GG X w k n pc lv (.ref x :: st) := by
  subst hp
  subst hj
  intro H locs ls a b c
  obtain ⟨ls', e', h'⟩ := lh.store (v := .ref x) c (by rw [C.2.2.2.2.2.2.2.2]; exact hi) rfl ho
  have kw := kk H locs ls' a b h'
  intro T hT X9
  obtain ⟨t, a1, b1⟩ := kw T hT X9
  refine ⟨t, ?_, b1⟩
  have hexec := C.1
  have hb := C.2.1
  jvm_step X9.here [X9.here.top, ↓top_set X9.here.top, hexec, hb, hdg, e']
  exact ⟨rfl, a1⟩
theorem r_astore_nN (C : C0 X own cc Ts d nL) {i : Fin 4} {j : Nat} (hdg : decode cc pc = .ok (.astore_n i, 1)) (hj : (i : Nat) = j) (hi : j < nL) (ho : okst lv j = true) (hp : pc + 1 = pq) (kk : GG X w k n pq (lv.set j (some .null)) st) : GG X w k n pc lv (.null :: st) := by
  subst hp
  subst hj
  intro H locs ls a b c
  obtain ⟨ls', e', h'⟩ := lh.store (v := .null) c (by rw [C.2.2.2.2.2.2.2.2]; exact hi) rfl ho
  have kw := kk H locs ls' a b h'
  intro T hT X9
  obtain ⟨t, a1, b1⟩ := kw T hT X9
  refine ⟨t, ?_, b1⟩
  have hexec := C.1
  have hb := C.2.1
  jvm_step X9.here [X9.here.top, ↓top_set X9.here.top, hexec, hb, hdg, e']
  exact ⟨rfl, a1⟩
theorem r_astoreN (C : C0 X own cc Ts d nL) {i : Nat} {j : Nat} (hdg : decode cc pc = .ok (.astore i, 2)) (hj : i = j) (hi : j < nL) (ho : okst lv j = true) (hp : pc + 2 = pq) (kk : GG X w k n pq (lv.set j (some .null)) st) : GG X w k n pc lv (.null :: st) := by
  subst hp
  subst hj
  intro H locs ls a b c
  obtain ⟨ls', e', h'⟩ := lh.store (v := .null) c (by rw [C.2.2.2.2.2.2.2.2]; exact hi) rfl ho
  have kw := kk H locs ls' a b h'
  intro T hT X9
  obtain ⟨t, a1, b1⟩ := kw T hT X9
  refine ⟨t, ?_, b1⟩
  have hexec := C.1
  have hb := C.2.1
  jvm_step X9.here [X9.here.top, ↓top_set X9.here.top, hexec, hb, hdg, e']
  exact ⟨rfl, a1⟩
theorem r_iinc (C : C0 X own cc Ts d nL) {i : Nat} {j : Int} {x v : Int32} (hdg : decode cc pc = .ok (.iinc i j, 3)) (hl : lv[i]? = some (some (.int x))) (hv : x + Int32.ofInt j = v) (hi : i < nL) (ho : okst lv i = true) (hp : pc + 3 = pq) (kk : GG X w k n pq (lv.set i (some (.int v))) st) : GG X w k n pc lv st := by
  subst hp
  subst hv
  intro H locs ls a b c
  have hg := c.2.2 i _ hl
  obtain ⟨ls', e', h'⟩ := lh.store (v := .int (x + Int32.ofInt j)) c (by rw [C.2.2.2.2.2.2.2.2]; exact hi) rfl ho
  have kw := kk H locs ls' a b h'
  intro T hT X9
  obtain ⟨t, a1, b1⟩ := kw T hT X9
  refine ⟨t, ?_, b1⟩
  have hexec := C.1
  have hb := C.2.1
  jvm_step X9.here [X9.here.top, ↓top_set X9.here.top, hexec, hb, hdg, hg, e']
  exact a1
theorem r_if_eq (C : C0 X own cc Ts d nL) {x : Int32} {off : Int} (hdg : decode cc pc = .ok (.ifCond .eq off, 3)) (ht : (pc : Int) + off = (tg : Int)) (hp : pc + 3 = pq) (kt : x = 0 → GG X w k n tg lv st) (kf : ¬ (x = 0) → GG X w k n pq lv st) : GG X w k n pc lv (.int x :: st) := by
  subst hp
  exact fun H locs ls a b c => lv_if_eq C.1 C.2.1 hdg ht (fun q => kt q H locs ls a b c) (fun q => kf q H locs ls a b c)
theorem r_icmp_eq (C : C0 X own cc Ts d nL) {x y : Int32} {off : Int} (hdg : decode cc pc = .ok (.if_icmp .eq off, 3)) (ht : (pc : Int) + off = (tg : Int)) (hp : pc + 3 = pq) (kt : x = y → GG X w k n tg lv st) (kf : ¬ (x = y) → GG X w k n pq lv st) : GG X w k n pc lv (.int y :: .int x :: st) := by
  subst hp
  exact fun H locs ls a b c => lv_icmp_eq C.1 C.2.1 hdg ht (fun q => kt q H locs ls a b c) (fun q => kf q H locs ls a b c)
theorem r_if_ne (C : C0 X own cc Ts d nL) {x : Int32} {off : Int} (hdg : decode cc pc = .ok (.ifCond .ne off, 3)) (ht : (pc : Int) + off = (tg : Int)) (hp : pc + 3 = pq) (kt : ¬ x = 0 → GG X w k n tg lv st) (kf : x = 0 → GG X w k n pq lv st) : GG X w k n pc lv (.int x :: st) := by
  subst hp
  exact fun H locs ls a b c => lv_if_ne C.1 C.2.1 hdg ht (fun q => kt q H locs ls a b c) (fun q => kf q H locs ls a b c)
theorem r_icmp_ne (C : C0 X own cc Ts d nL) {x y : Int32} {off : Int} (hdg : decode cc pc = .ok (.if_icmp .ne off, 3)) (ht : (pc : Int) + off = (tg : Int)) (hp : pc + 3 = pq) (kt : ¬ x = y → GG X w k n tg lv st) (kf : x = y → GG X w k n pq lv st) : GG X w k n pc lv (.int y :: .int x :: st) := by
  subst hp
  exact fun H locs ls a b c => lv_icmp_ne C.1 C.2.1 hdg ht (fun q => kt q H locs ls a b c) (fun q => kf q H locs ls a b c)
theorem r_if_lt (C : C0 X own cc Ts d nL) {x : Int32} {off : Int} (hdg : decode cc pc = .ok (.ifCond .lt off, 3)) (ht : (pc : Int) + off = (tg : Int)) (hp : pc + 3 = pq) (kt : x < 0 → GG X w k n tg lv st) (kf : ¬ (x < 0) → GG X w k n pq lv st) : GG X w k n pc lv (.int x :: st) := by
  subst hp
  exact fun H locs ls a b c => lv_if_lt C.1 C.2.1 hdg ht (fun q => kt q H locs ls a b c) (fun q => kf q H locs ls a b c)
theorem r_icmp_lt (C : C0 X own cc Ts d nL) {x y : Int32} {off : Int} (hdg : decode cc pc = .ok (.if_icmp .lt off, 3)) (ht : (pc : Int) + off = (tg : Int)) (hp : pc + 3 = pq) (kt : x < y → GG X w k n tg lv st) (kf : ¬ (x < y) → GG X w k n pq lv st) : GG X w k n pc lv (.int y :: .int x :: st) := by
  subst hp
  exact fun H locs ls a b c => lv_icmp_lt C.1 C.2.1 hdg ht (fun q => kt q H locs ls a b c) (fun q => kf q H locs ls a b c)
theorem r_if_ge (C : C0 X own cc Ts d nL) {x : Int32} {off : Int} (hdg : decode cc pc = .ok (.ifCond .ge off, 3)) (ht : (pc : Int) + off = (tg : Int)) (hp : pc + 3 = pq) (kt : 0 ≤ x → GG X w k n tg lv st) (kf : ¬ (0 ≤ x) → GG X w k n pq lv st) : GG X w k n pc lv (.int x :: st) := by
  subst hp
  exact fun H locs ls a b c => lv_if_ge C.1 C.2.1 hdg ht (fun q => kt q H locs ls a b c) (fun q => kf q H locs ls a b c)
theorem r_icmp_ge (C : C0 X own cc Ts d nL) {x y : Int32} {off : Int} (hdg : decode cc pc = .ok (.if_icmp .ge off, 3)) (ht : (pc : Int) + off = (tg : Int)) (hp : pc + 3 = pq) (kt : y ≤ x → GG X w k n tg lv st) (kf : ¬ (y ≤ x) → GG X w k n pq lv st) : GG X w k n pc lv (.int y :: .int x :: st) := by
  subst hp
  exact fun H locs ls a b c => lv_icmp_ge C.1 C.2.1 hdg ht (fun q => kt q H locs ls a b c) (fun q => kf q H locs ls a b c)
theorem r_if_gt (C : C0 X own cc Ts d nL) {x : Int32} {off : Int} (hdg : decode cc pc = .ok (.ifCond .gt off, 3)) (ht : (pc : Int) + off = (tg : Int)) (hp : pc + 3 = pq) (kt : 0 < x → GG X w k n tg lv st) (kf : ¬ (0 < x) → GG X w k n pq lv st) : GG X w k n pc lv (.int x :: st) := by
  subst hp
  exact fun H locs ls a b c => lv_if_gt C.1 C.2.1 hdg ht (fun q => kt q H locs ls a b c) (fun q => kf q H locs ls a b c)
theorem r_icmp_gt (C : C0 X own cc Ts d nL) {x y : Int32} {off : Int} (hdg : decode cc pc = .ok (.if_icmp .gt off, 3)) (ht : (pc : Int) + off = (tg : Int)) (hp : pc + 3 = pq) (kt : y < x → GG X w k n tg lv st) (kf : ¬ (y < x) → GG X w k n pq lv st) : GG X w k n pc lv (.int y :: .int x :: st) := by
  subst hp
  exact fun H locs ls a b c => lv_icmp_gt C.1 C.2.1 hdg ht (fun q => kt q H locs ls a b c) (fun q => kf q H locs ls a b c)
theorem r_if_le (C : C0 X own cc Ts d nL) {x : Int32} {off : Int} (hdg : decode cc pc = .ok (.ifCond .le off, 3)) (ht : (pc : Int) + off = (tg : Int)) (hp : pc + 3 = pq) (kt : x ≤ 0 → GG X w k n tg lv st) (kf : ¬ (x ≤ 0) → GG X w k n pq lv st) : GG X w k n pc lv (.int x :: st) := by
  subst hp
  exact fun H locs ls a b c => lv_if_le C.1 C.2.1 hdg ht (fun q => kt q H locs ls a b c) (fun q => kf q H locs ls a b c)
theorem r_icmp_le (C : C0 X own cc Ts d nL) {x y : Int32} {off : Int} (hdg : decode cc pc = .ok (.if_icmp .le off, 3)) (ht : (pc : Int) + off = (tg : Int)) (hp : pc + 3 = pq) (kt : x ≤ y → GG X w k n tg lv st) (kf : ¬ (x ≤ y) → GG X w k n pq lv st) : GG X w k n pc lv (.int y :: .int x :: st) := by
  subst hp
  exact fun H locs ls a b c => lv_icmp_le C.1 C.2.1 hdg ht (fun q => kt q H locs ls a b c) (fun q => kf q H locs ls a b c)
theorem r_goto (C : C0 X own cc Ts d nL) {off : Int} (hdg : decode cc pc = .ok (.goto off, 3)) (ht : (pc : Int) + off = (tg : Int)) (kk : GG X w k n tg lv st) : GG X w k n pc lv st :=
  fun H locs ls a b c => lv_goto C.1 C.2.1 hdg ht (kk H locs ls a b c)
theorem r_ifnull (C : C0 X own cc Ts d nL) {x : Nat} {off : Int} (hdg : decode cc pc = .ok (.ifnull off, 3)) (hp : pc + 3 = pq) (kk : GG X w k n pq lv st) : GG X w k n pc lv (.ref x :: st) := by
  subst hp
  exact fun H locs ls a b c => lv_ifnull C.1 C.2.1 hdg (kk H locs ls a b c)
theorem r_ifnullN (C : C0 X own cc Ts d nL) {off : Int} (hdg : decode cc pc = .ok (.ifnull off, 3)) (ht : (pc : Int) + off = (tg : Int)) (kk : GG X w k n tg lv st) : GG X w k n pc lv (.null :: st) :=
  fun H locs ls a b c => lv_ifnullN C.1 C.2.1 hdg ht (kk H locs ls a b c)
theorem r_ifnonnull (C : C0 X own cc Ts d nL) {x : Nat} {off : Int} (hdg : decode cc pc = .ok (.ifnonnull off, 3)) (ht : (pc : Int) + off = (tg : Int)) (kk : GG X w k n tg lv st) : GG X w k n pc lv (.ref x :: st) :=
  fun H locs ls a b c => lv_ifnonnull C.1 C.2.1 hdg ht (kk H locs ls a b c)
theorem r_ifnonnullN (C : C0 X own cc Ts d nL) {off : Int} (hdg : decode cc pc = .ok (.ifnonnull off, 3)) (hp : pc + 3 = pq) (kk : GG X w k n pq lv st) : GG X w k n pc lv (.null :: st) := by
  subst hp
  exact fun H locs ls a b c => lv_ifnonnullN C.1 C.2.1 hdg (kk H locs ls a b c)
theorem r_tableOut (C : C0 X own cc Ts d nL) {dflt lo hi : Int} {offs : Array Int} {len : Nat} {x : Int32} (hdg : decode cc pc = .ok (.tableswitch dflt lo hi offs, len)) (h : x.toInt < lo ∨ hi < x.toInt) (ht : (pc : Int) + dflt = (tg : Int)) (kk : GG X w k n tg lv st) : GG X w k n pc lv (.int x :: st) :=
  fun H locs ls a b c => lv_tableOut C.1 C.2.1 hdg h ht (kk H locs ls a b c)
theorem r_tableIn (C : C0 X own cc Ts d nL) {dflt lo hi : Int} {offs : Array Int} {len : Nat} {x : Int32} {off : Int} (hdg : decode cc pc = .ok (.tableswitch dflt lo hi offs, len)) (h1 : ¬ x.toInt < lo) (h2 : ¬ hi < x.toInt) (ho : offs[(x.toInt - lo).toNat]? = some off) (ht : (pc : Int) + off = (tg : Int)) (kk : GG X w k n tg lv st) : GG X w k n pc lv (.int x :: st) :=
  fun H locs ls a b c => lv_tableIn C.1 C.2.1 hdg h1 h2 ho ht (kk H locs ls a b c)
end ROWS

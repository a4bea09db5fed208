/-! ===== what is thrown: contracts MX, the world as it was, one cell more ===== -/
theorem hR.ext {E : EV} {w : RW} {H H1 : Heap} (h : hR E w H) (oq : ∀ q : Nat, q < H.size → H1[q]? = H[q]?) : hR E w H1 :=
  ⟨fun r a e hr => ⟨((h.1 r a e hr).1).kept (oq a ((h.1 r a e hr).1).lt), (h.1 r a e hr).2⟩, h.2⟩
def XCw (E : EV) (w : RW) (xq : String → Prop) : String → State → State → Prop := fun cls st t => xq cls ∧ hR E w t.heap ∧ va_F (fun q => E.2.2 ≤ q) st t
def MX (l : Launch) (E : EV) (y : MethodName) (ws : List Cond) (d mc ms : Nat) (As : List Value) (w : RW) (post : Option Value → RW → Prop) (xq : String → Prop) : Prop :=
  vx_Met l y ws (rmD d mc ms) (hPc E As w) (hQc E post) (XCw E w xq) mc ms (fun q => E.2.2 ≤ q)
def C1X (X : XX) (ret : Option FieldType) (nm : String) (mc ms : Nat) (post : Option Value → RW → Prop) (w0 : RW) (xq : String → Prop) : Prop :=
  (xt X).sig.returnType = ret ∧ (xt X).locks = false ∧ (xt X).name = nm ∧ (xR X).cells = mc ∧ (xR X).slots = ms ∧ xQ X = vx_MQ (xb X) (hQc (xE X) post) (XCw (xE X) w0 xq) (xa X) (xs X) mc ms (fun q => (xE X).2.2 ≤ q) ∧ ∀ x ∈ (xc X).exceptionTable.toList, False
theorem lh_entry {As : List Value} {maxL : Nat} {lv0 : List (Option Value)} {c : Code} (hcat : ∀ u ∈ As, u.category = 1) (hlen : As.length ≤ maxL) (hlv : As.map some ++ List.replicate (maxL - As.length) none = lv0) (hml : c.maxLocals = maxL) {ls : Array Slot} (hl : lv_has ls maxL (lv_args 0 As)) : lh ls c.maxLocals lv0 := by
  refine ⟨hl.1.trans hml.symm, hl.2.1, fun i v hi => ?_⟩
  subst hlv
  refine hl.2.2 (i, v) ?_
  by_cases hz : i < As.length
  · rw [List.getElem?_append_left (by simpa using hz), List.getElem?_map] at hi
    have h9 : As[i]? = some v := by
      cases hq : As[i]? with
      | none => rw [hq] at hi; cases hi
      | some u => rw [hq] at hi; cases hi; rfl
    have := lv_args_in As 0 i v hcat h9
    rwa [Nat.zero_add] at this
  · rw [List.getElem?_append_right (by simpa using Nat.le_of_not_lt hz), List.getElem?_replicate] at hi
    split at hi <;> cases hi
theorem MX.enter {l : Launch} {E : EV} {y : MethodName} {ws ws' : List Cond} {d mc ms maxL : Nat} {As : List Value} {w : RW} {post : Option Value → RW → Prop} {xq : String → Prop} {cc : ByteArray} {ret : Option FieldType} {lv0 : List (Option Value)} (hy : plainName y.cls = true) (hw : ws = Cond.code y cc maxL ret :: ws') (hcat : ∀ u ∈ As, u.category = 1) (hlen : As.length ≤ maxL) (hlv : As.map some ++ List.replicate (maxL - As.length) none = lv0)
    (body : ∀ X : XX, xl X = l → xE X = E → C0 X y.cls cc ws d maxL → C1X X ret y.name mc ms post w xq → GG X w 0 0 0 lv0 []) : MX l E y ws d mc ms As w post xq := by
  refine vx_ofW (cc := cc) (maxL := maxL) (ret := ret) hy hw ?_
  intro p e s m args below meth c s₁ B hml htb hv
  obtain ⟨rfl, h1, h2, h3⟩ := hv
  have hts := atoms_spec (ws := ws) B.pre
  have hown : s.vm.findClass y.cls = some m.cls := findClass_of_methodNamed B.named
  have hin : meth.name = y.name := (name_of_methodNamed B.named B.method).1
  have key := body (p, l, e, (headSpec ws (rmD d mc ms)).room, s, m, As.toArray, below, meth, c, E, vx_MQ below (hQc E post) (XCw E w xq) As.toArray s mc ms (fun q => E.2.2 ≤ q)) rfl rfl ⟨B.exec, B.bytes, hown, hts, h2, h3, Nat.le_refl _, Nat.le_refl _, hml⟩ ⟨B.returns, B.notSynchronized, hin, rfl, rfl, rfl, htb⟩
  have hl := lv_entry As (n := maxL) (by rw [lg_sl_len As hcat]; exact hlen)
  rw [lg_entry_eq]
  exact key s.heap [] _ h1 va_S.rf (lh_entry hcat hlen hlv hml hl)
/-- a body with a table of its own that throws nothing out -/
theorem MC.enterW {l : Launch} {E : EV} {y : MethodName} {ws ws' : List Cond} {d mc ms maxL : Nat} {As : List Value} {w : RW} {post : Option Value → RW → Prop} {cc : ByteArray} {ret : Option FieldType} {hh : List (Nat × Nat × Nat × Nat)} {lv0 : List (Option Value)} (hy : plainName y.cls = true) (hw : ws = Cond.codeWith y cc maxL ret hh :: ws') (hcat : ∀ u ∈ As, u.category = 1) (hlen : As.length ≤ maxL) (hlv : As.map some ++ List.replicate (maxL - As.length) none = lv0)
    (body : ∀ X : XX, xl X = l → xE X = E → C0 X y.cls cc ws d maxL → C1 X ret y.name mc ms post → (xc X).exceptionTable.toList = tableOf hh → GG X w 0 0 0 lv0 []) : MC l E y ws d mc ms As w post := by
  refine va_MetW (cc := cc) (maxL := maxL) (ret := ret) hy hw ?_
  intro p e s m args below meth c s₁ B hml hv
  obtain ⟨rfl, h1, h2, h3⟩ := hv
  have hts := atoms_spec (ws := ws) B.pre
  have hown : s.vm.findClass y.cls = some m.cls := findClass_of_methodNamed B.named
  have hin : meth.name = y.name := (name_of_methodNamed B.named B.method).1
  have key := body (p, l, e, (headSpec ws (rmD d mc ms)).room, s, m, As.toArray, below, meth, c, E, MQ below (hQc E post) As.toArray s mc ms (fun q => E.2.2 ≤ q)) rfl rfl ⟨B.exec, B.bytes, hown, hts, h2, h3, Nat.le_refl _, Nat.le_refl _, hml⟩ ⟨B.returns, B.notSynchronized, hin, rfl, rfl, rfl⟩
    (vx_table (x := y) B (hts _ (by rw [hw]; exact List.mem_cons_self)))
  have hl := lv_entry As (n := maxL) (by rw [lg_sl_len As hcat]; exact hlen)
  rw [lg_entry_eq]
  exact key s.heap [] _ h1 va_S.rf (lh_entry hcat hlen hlv hml hl)
def exN : List String := ["java/lang/RuntimeException", "java/lang/Exception"]
def exB (cls : String) : List Cond := [.declares (Bundle.initS "java/lang/RuntimeException"), .declares (Bundle.initS "java/lang/Exception"), .declares (Bundle.initS "java/lang/Throwable"), .castable cls cls]
section THROWS
variable {X : XX} {own : String} {cc : ByteArray} {Ts : List Cond} {d nL : Nat} {w : RW} {k n pc pq : Nat} {lv : List (Option Value)} {st : List Value}
theorem exB_ok (C : C0 X own cc Ts d nL) {cls : String} (hcs : (cls, cls) ∈ eCs) : ∀ w ∈ exB cls, w.before (xa X) (xs X) = true := by
  have h5 := C.env.2.2.2.1.2.2.2.2.1
  exact vx_c (va_Nw.use rfl (h5 "java/lang/RuntimeException" (by decide))) (vx_c (va_Nw.use rfl (h5 "java/lang/Exception" (by decide))) (vx_c (va_Nw.use rfl (h5 "java/lang/Throwable" (by decide))) (vx_c (va_Nw.use rfl (C.env.2.2.2.1.2.2.1 (cls, cls) hcs)) vx_n)))
theorem C1X.ok {ret : Option FieldType} {nm : String} {mc ms : Nat} {post : Option Value → RW → Prop} {xq : String → Prop} {cls : String} {H : Heap} {locs : List Loc} (D : C1X X ret nm mc ms post w xq) (hxq : xq cls) (a : hR (xE X) w H) (b : va_S (fun q => (xE X).2.2 ≤ q) (xs X).heap H locs) : ∀ t : State, (xs X).vm.Alike t.vm → H.size ≤ t.heap.size → (∀ q : Nat, q < H.size → t.heap[q]? = H[q]?) → XCw (xE X) w xq cls (xs X) t :=
  fun t _ h2 h3 => ⟨hxq, a.ext h3, Nat.le_trans b.1 h2, fun q g1 g2 => by rw [h3 q (Nat.lt_of_lt_of_le g1 b.1)]; exact b.2.1 q g1 g2⟩
theorem r_throwS (C : C0 X own cc Ts d nL) {ret : Option FieldType} {nm : String} {mc ms : Nat} {post : Option Value → RW → Prop} {xq : String → Prop} (D : C1X X ret nm mc ms post w xq) (hl : (xl X).stackTraces = false) {cls text : String} {ik is ic : Nat} (hxq : xq cls) (hk : Cond.classLink own ik cls ∈ Ts) (hini : Cond.initialized cls ∈ Ts) (hs : (own, is, text) ∈ eSt) (hcs : (cls, cls) ∈ eCs) (hfit : Bundle.fit cls = true)
    (h1 : ∀ w ∈ (vx_atS own ic cls exN).filter goodWord, w ∈ Ts) (h2 : ∀ w ∈ (vx_atS own ic cls exN).filter (fun w => !goodWord w), w ∈ exB cls) (hgood : ∀ w ∈ Cond.classLink own ik cls :: Cond.initialized cls :: vx_atS own ic cls exN, vx_ot w = true)
    (d0 : decode cc pc = .ok (.new ik, 3)) (d3 : decode cc (pc + 3) = .ok (.dup, 1)) (d4 : decode cc (pc + 4) = .ok (.ldc is, 2)) (d6 : decode cc (pc + 6) = .ok (.invokespecial ic, 3)) (d9 : decode cc (pc + 9) = .ok (.athrow, 1)) (hd : 6 ≤ d) (hr : k + 1 ≤ mc ∧ n + 6 ≤ ms) : GG X w k n pc lv [] := by
  intro H locs ls a b c
  obtain ⟨sa, hstr⟩ := C.env.2.2.2.1.2.2.2.1 _ hs
  have g1 := C.frm
  have g2 := C.loc
  rw [D.2.2.2.2.2.1]
  exact vx_throwS (names := exN) C.exec C.code hl C.cls hfit (by decide +kernel) (C.wds _ hk) (C.wds _ hini) hstr (vx_hat (fun w hw => C.wds _ (h1 w hw)) h2 (exB_ok C hcs)) hgood C.env.2.2.2.2.1 C.env.2.2.2.2.2 b c.1 d0 d3 d4 d6 d9
    (fun x hx => (D.2.2.2.2.2.2 x hx).elim) (by show 2 + 3 < _; omega) (by show 0 + (13 * (2 + 1) + 43) ≤ _; omega) (by rw [D.2.2.2.1]; exact hr.1) (by rw [D.2.2.2.2.1]; exact hr.2) D.2.1 (D.ok hxq a b) b.2.2 hr.1 hr.2
theorem r_throwW (C : C0 X own cc Ts d nL) {ret : Option FieldType} {nm : String} {mc ms : Nat} {post : Option Value → RW → Prop} {xq : String → Prop} (D : C1X X ret nm mc ms post w xq) (hl : (xl X).stackTraces = false) {cls text : String} {ik is ic : Nat} (hxq : xq cls) (hk : Cond.classLink own ik cls ∈ Ts) (hini : Cond.initialized cls ∈ Ts) (hs : (own, is, text) ∈ eSt) (hcs : (cls, cls) ∈ eCs) (hfit : Bundle.fit cls = true)
    (h1 : ∀ w ∈ (vx_atS own ic cls exN).filter goodWord, w ∈ Ts) (h2 : ∀ w ∈ (vx_atS own ic cls exN).filter (fun w => !goodWord w), w ∈ exB cls) (hgood : ∀ w ∈ Cond.classLink own ik cls :: Cond.initialized cls :: vx_atS own ic cls exN, vx_ot w = true)
    (d0 : decode cc pc = .ok (.new ik, 3)) (d3 : decode cc (pc + 3) = .ok (.dup, 1)) (d4 : decode cc (pc + 4) = .ok (.ldc_w is, 3)) (d7 : decode cc (pc + 7) = .ok (.invokespecial ic, 3)) (d10 : decode cc (pc + 10) = .ok (.athrow, 1)) (hd : 6 ≤ d) (hr : k + 1 ≤ mc ∧ n + 6 ≤ ms) : GG X w k n pc lv [] := by
  intro H locs ls a b c
  obtain ⟨sa, hstr⟩ := C.env.2.2.2.1.2.2.2.1 _ hs
  have g1 := C.frm
  have g2 := C.loc
  rw [D.2.2.2.2.2.1]
  exact vx_throwSW (names := exN) C.exec C.code hl C.cls hfit (by decide +kernel) (C.wds _ hk) (C.wds _ hini) hstr (vx_hat (fun w hw => C.wds _ (h1 w hw)) h2 (exB_ok C hcs)) hgood C.env.2.2.2.2.1 C.env.2.2.2.2.2 b c.1 d0 d3 d4 d7 d10
    (fun x hx => (D.2.2.2.2.2.2 x hx).elim) (by show 2 + 3 < _; omega) (by show 0 + (13 * (2 + 1) + 43) ≤ _; omega) (by rw [D.2.2.2.1]; exact hr.1) (by rw [D.2.2.2.2.1]; exact hr.2) D.2.1 (D.ok hxq a b) b.2.2 hr.1 hr.2
theorem r_lretX (C : C0 X own cc Ts d nL) {ret : Option FieldType} {nm : String} {mc ms : Nat} {post : Option Value → RW → Prop} {xq : String → Prop} {w0 : RW} (D : C1X X ret nm mc ms post w0 xq) (hr : ret = some .long) {v : Int64} (hk : k ≤ mc ∧ n ≤ ms) (hdg : decode cc pc = .ok (.lreturn, 1)) (hp : post (some (.long v)) w) : GG X w k n pc lv [.long v] := by
  intro H locs ls h1 h2 h3
  refine W.widen hk.1 hk.2 ?_
  rw [D.2.2.2.2.2.1]
  exact vx_ret (W.lret C.exec C.code (D.1.trans hr) (fun t ht _ => ⟨⟨some (.long v), w, rfl, hp, by rw [ht]; exact h1⟩, h2.F ht⟩) h2.2.2 hdg D.2.1)
/-- thrown over this frame -/
def VX (X : XX) (w : RW) (xq : String → Prop) (k n pc : Nat) (lv : List (Option Value)) (st : List Value) : Prop :=
  ∀ (E9 : String) (ce : Cell) (q9 : Addr) (H : Heap) (locs : List Loc) (ls : Array Slot), xq E9 → hR (xE X) w H → va_S (fun q => (xE X).2.2 ≤ q) (xs X).heap H locs → lh ls (xc X).maxLocals lv → H[q9]? = some ce → ce.vm = .none → (xs X).vm.findClass E9 = some ce.cls → vx_W (xp X) (xl X) (xe X) (xR X) (xs X) (xm X) (xa X) (xb X) (xt X) (xc X) H locs k n (xQ X) (F0 (xm X) pc ls st) q9
theorem VX.none {xq : String → Prop} (h : ∀ c, ¬ xq c) : VX X w xq k n pc lv st := fun E9 _ _ _ _ _ hx => (h E9 hx).elim
theorem r_afterX (C : C0 X own cc Ts d nL) {mc ms : Nat} {post : Option Value → RW → Prop} {xq : String → Prop} {a : Array Value} {rest st0 : List Value} {H : Heap} {locs : List Loc} {ls : Array Slot} (hr : vx_Run (xp X) (xl X) (xe X) (xR X) (xs X) (xm X) (xa X) (xb X) (xt X) (xc X) H locs k n mc ms (F0 (xm X) pc ls st0) rest (hQc (xE X) post a) (XCw (xE X) w xq) (fun q => (xE X).2.2 ≤ q)) (h2 : va_S (fun q => (xE X).2.2 ≤ q) (xs X).heap H locs) (h3 : lh ls (xc X).maxLocals lv)
    (kk : ∀ (r : Option Value) (w' : RW), post r w' → GG X w' (k + mc) (n + ms) (pc + 3) lv (r.toList ++ rest)) (kx : VX X w xq (k + mc) (n + ms) pc lv rest) : W (xp X) (xl X) (xe X) (xR X) (xs X) (xm X) (xa X) (xb X) (xt X) (xc X) H locs k n (xQ X) (F0 (xm X) pc ls st0) := by
  intro T hT X9
  have key : ∀ (st₀ t T' : State) (L : List Loc), st₀.heap = H → T'.heap = t.heap → (∀ z ∈ L, (xE X).2.2 ≤ z.base) → va_F (fun q => (xE X).2.2 ≤ q) st₀ t → va_S (fun q => (xE X).2.2 ≤ q) (xs X).heap T'.heap (locs ++ L) := by
    intro st₀ t T' L h0 e1 hL hF
    obtain ⟨hz, hk⟩ := hF
    rw [h0] at hz hk
    exact ⟨Nat.le_trans h2.1 (by rw [e1]; exact hz), fun q g1 g2 => by rw [e1, hk q (Nat.lt_of_lt_of_le g1 h2.1) g2]; exact h2.2.1 q g1 g2, fun q hq => by
      rcases List.mem_append.mp hq with h | h
      · exact h2.2.2 q h
      · exact hL q h⟩
  rcases hr T hT X9 with ⟨v, st₀, t, T', L, h0, X', hL, e1, e2, ⟨⟨r, w', hv, hp, hb⟩, hF⟩, go⟩ | ⟨q, st₀, t, T', L, E9, ce, h0, X', hL, e1, e2, ⟨hx, hb, hF⟩, hce, hcv, hcl, go⟩
  · cases hv
    obtain ⟨t2, a1, b1⟩ := kk v w' hp T'.heap (locs ++ L) ls (by rw [e1]; exact hb) (key st₀ t T' L h0 e1 hL hF) h3 T' rfl X'
    exact ⟨t2, go t2 a1, b1⟩
  · obtain ⟨t2, a1, b1⟩ := kx E9 ce q T'.heap (locs ++ L) ls hx (by rw [e1]; exact hb) (key st₀ t T' L h0 e1 hL hF) h3 (by rw [e1]; exact hce) hcv hcl T' rfl X'
    exact ⟨t2, go.trans a1, b1⟩
/-- caught here -/
theorem r_catch (C : C0 X own cc Ts d nL) {xq : String → Prop} {hh : List (Nat × Nat × Nat × Nat)} (htab : (xc X).exceptionTable.toList = tableOf hh) {name E9 : String} (hE : ∀ c, xq c → c = E9) (pre : List ExceptionTableEntry) (x : ExceptionTableEntry) (suf : List ExceptionTableEntry) (hsplit : tableOf hh = pre ++ x :: suf)
    (hpass : ∀ z ∈ pre, covers z pc = false ∨ (z.catchType ≠ 0 ∧ ∃ nm : String, (Cond.classLink own z.catchType nm).before (xa X) (xs X) = true ∧ va_Nc E9 nm (xs X))) (hx : covers x pc = true) (h0 : x.catchType ≠ 0) (hlink : Cond.classLink own x.catchType name ∈ Ts) (hcs : (E9, name) ∈ eCs)
    (kk : ∀ q9 : Nat, GG X w k n x.handlerPc lv [.ref q9]) : VX X w xq k n pc lv st := by
  intro E8 ce q9 H locs ls h1 h2 h3 h4 h5 h6 h7
  cases hE _ h1
  exact vx_catch C.cls pre x suf (htab.trans hsplit) hpass hx h0 (C.wds _ hlink) (va_Nw.use rfl (C.env.2.2.2.1.2.2.1 (E9, name) hcs)) h5 h6 h7 (kk q9 H locs ls h2 h3 h4)
end THROWS
section CALLVX
variable {p : Program} {l : Launch} {e : Env} {R : Room} {s : State} {m : MethodId} {args : Array Value} {below : List Frame} {meth : Method} {c : Code} {H : Heap} {locs : List Loc} {cells slots : Nat}
theorem vu_callVU {T : State} (X : Stand p l e R s m args below meth c T locs cells slots) (hexec : p.tables.exec = Jvm.exec) {own C owner : String} {index : Nat} {x y : MethodName}
    (hown : s.vm.findClass own = some m.cls) (hlink : (Cond.methodLink own index x).before args s = true) (hsame : (Cond.sameMethod x.cls owner x.name x.desc).before args s = true)
    (hd0 : va_Decl s ⟨owner, x.name, x.desc⟩) (howner : owner ≠ "java/lang/invoke/MethodHandle" ∧ owner ≠ "java/lang/invoke/VarHandle")
    (hsel : (Cond.selects C x y).before args s = true) (hinst : (Cond.instanceMethod y).before args s = true)
    {W9 : Nat} {Pre : Pt → Array Value → Prop} {Post : Pt → Array Value → Option Value → Pt → Prop} {PostX : Pt → Array Value → Addr → Pt → Prop} (hK : vx_Back l R p e below s args y 3 W9 Pre Post PostX)
    {b : Addr} {cellB : Cell} (hcell : T.heap[b]? = some cellB) (hobj : cellB.vm.isStatics = false) (hcls : s.vm.findClass C = some cellB.cls)
    {g : JFrame} (hg : g.method = m) (hsize : g.locals.size = c.maxLocals) {argsL rest : List Value} (hlen : ∀ sig, parseMethodDescriptor x.desc = some sig → argsL.length = sig.parameters.length)
    (hstack : g.stack = argsL.reverse ++ .ref b :: rest) (hW : 2 * g.monitorRoom + (rest.map fun v => v.category).sum ≤ W9) (hdg : decode c.code g.pc = .ok (.invokevirtual index, 3))
    (hpre : ∀ vm₁, s.WarmedH vm₁ → Pre ⟨T.setVm vm₁, locs, cells, slots⟩ (Value.ref b :: argsL).toArray) :
    (∃ (v : Option Value) (vm₁ : Vm) (B : Pt), s.WarmedH vm₁ ∧ Stand p l e R s m args below meth c B.U B.locs B.cells B.slots ∧ Post ⟨T.setVm vm₁, locs, cells, slots⟩ (Value.ref b :: argsL).toArray v B ∧
      ∀ target, Steps p.tables e below (B.U.setTop { g with pc := g.pc + 3, stack := v.toList ++ rest }) target → Steps p.tables e below (T.setTop g) target) ∨
    (∃ (q : Addr) (vm₁ : Vm) (B : Pt), s.WarmedH vm₁ ∧ Stand p l e R s m args below meth c B.U B.locs B.cells B.slots ∧ PostX ⟨T.setVm vm₁, locs, cells, slots⟩ (Value.ref b :: argsL).toArray q B ∧
      Steps p.tables e below (T.setTop g) ((B.U.setTop { g with stack := rest }).pushFrame (.throwing q))) := by
  obtain ⟨r0, r, hn, hrm, hstR, hsigR⟩ := hd0
  obtain ⟨cn, ck, r1, hcn, hck, hni, hf, hn1⟩ := Cond.sameMethod_found hsame
  cases hn.symm.trans hn1
  obtain ⟨mk, methM, hnamed, hmethM, -, habM⟩ := Cond.instanceMethod_spec hinst
  obtain ⟨c2, r2, m2, q1, q2, q3, q4, kP, hkP, hkPi⟩ := Cond.selects_spec hsel
  cases hcls.symm.trans q1
  cases hf.symm.trans q2
  cases hnamed.symm.trans q3
  have hselP : selectMethod e.platform s.vm cellB.cls r0 = .method mk := by rw [Launch.admits_selectMethod X.admits]; exact q4
  obtain ⟨vm₁, X₁, hstep₁⟩ := X.invokevirtualUp hexec hown hlink hsame howner hn hrm hstR (a := b) (cell := cellB) hcell
    (fun z h => by rw [h] at hobj; cases hobj) hselP hmethM habM hkP hkPi (g := g) hg (argsL := argsL) (rest := rest) (hlen _ hsigR) hstack hdg
  rcases hK m meth c ⟨T.setVm vm₁, locs, cells, slots⟩ { g with stack := rest } (.invokevirtual index) mk (Value.ref b :: argsL).toArray X₁ hg hsize hdg hW (X₁.named hnamed) (hpre vm₁ X₁.warmed) with ⟨v, B, X', hpost, hsteps⟩ | ⟨q, B, X', hpost, hsteps⟩
  · exact Or.inl ⟨v, vm₁, B, X₁.warmed, X', hpost, fun target h => hstep₁ _ fun acts => by rw [doInvoke_state]; exact hsteps.trans h⟩
  · exact Or.inr ⟨q, vm₁, B, X₁.warmed, X', hpost, hstep₁ _ fun acts => by rw [doInvoke_state]; exact hsteps⟩
theorem vu_runU {x y : MethodName} {bytes cc : ByteArray} {maxL nL mc ms n index : Nat} {ret : Option FieldType} {ws : List Cond} {rm : Room} {Pc : Array Value → State → Prop} {Qc : Array Value → State → Outcome → State → Prop} {XC : String → State → State → Prop} {free : Addr → Prop} {Ts : List Cond} {own C owner : String} {b : Addr} {As rest : List Value} {g : JFrame}
    (S : CallFix p m c cc nL s args Ts own) (hM : vx_Met l y ws rm Pc Qc XC mc ms free) (cw : va_CU R s args own C owner index x y bytes maxL ret ws rm mc ms n) (hp : PreV s H C b Pc As)
    (hg : g.method = m) (hn : As.length = n) (hsize : g.locals.size = nL) (hstack : g.stack = As.reverse ++ .ref b :: rest) (hW : 2 * g.monitorRoom + (rest.map fun v => v.category).sum ≤ 8) (hdg : decode cc g.pc = .ok (.invokevirtual index, 3)) (hf : cells + mc ≤ R.cells ∧ slots + ms ≤ R.slots) :
    vx_Run p l e R s m args below meth c H locs cells slots mc ms g rest (Qc (Value.ref b :: As).toArray) XC free := by
  obtain ⟨hrc, hrs, hfr, hlo, hws, hcw⟩ := cw.back
  have hini := cw.init
  have hK : vx_Back l R p e below s args y 3 8 (PreOf R mc ms Pc) (PostOf Qc mc ms free) (vx_Post XC mc ms free) := vx_back (bytes := bytes) (maxL := maxL) (ret := ret) hM hp.1 hrc hrs hfr hlo hws hcw (fun a' U hW => word_at hW (Or.inl (by first | rfl | simp [Cond.onTables, Cond.keeps, Cond.steady])) hini)
  obtain ⟨hx, hb, hml, ho, -⟩ := S
  obtain ⟨-, ⟨cellB, hcB, hoB, hclB⟩, hPc⟩ := hp
  intro T hT X
  rcases vu_callVU X hx (C := C) (owner := owner) ho cw.link cw.same cw.decl cw.notMH cw.sel cw.inst hK (by rw [hT]; exact hcB) hoB hclB hg (hsize.trans hml.symm) (argsL := As) (rest := rest) (fun sig h => hn.trans (cw.len sig h)) hstack hW (by rw [hb]; exact hdg)
    (fun vm₁ hW₁ => ⟨hf.1, hf.2, hPc (T.setVm vm₁) hT hW₁⟩) with ⟨v, vm₁, ⟨U', l2, c2, s2⟩, hW₁, X', ⟨g', mk, t, L, e1, e2, hq, h1, hL, h2, h3⟩, st⟩ | ⟨q, vm₁, ⟨U', l2, c2, s2⟩, hW₁, X', ⟨g', mk, t, L, E, ce, e1, e2, hq, hce, hcv, hcl, h1, hL, h2, h3⟩, st⟩
  · dsimp only [Pt.U, Pt.locs, Pt.cells, Pt.slots] at X' e1 e2 h1 h2 h3 st
    subst h1; subst h2; subst h3
    exact Or.inl ⟨v, (T.setVm vm₁).calling g' mk (Value.ref b :: As).toArray, t, U', L, hT, X', hL, e1, e2, hq, st⟩
  · dsimp only [Pt.U, Pt.locs, Pt.cells, Pt.slots] at X' e1 e2 h1 h2 h3 st hcl
    subst h1; subst h2; subst h3
    exact Or.inr ⟨q, (T.setVm vm₁).calling g' mk (Value.ref b :: As).toArray, t, U', L, E, ce, hT, X', hL, e1, e2, hq, hce, hcv, vx_cls hW₁ hcl, st⟩
end CALLVX
section CALLROWSX
variable {X : XX} {own : String} {cc : ByteArray} {Ts : List Cond} {d nL : Nat} {w : RW} {k n pc pq : Nat} {lv : List (Option Value)} {st : List Value}
/-- an overriding method that may throw -/
theorem r_callOX (C : C0 X own cc Ts d nL) {x y : MethodName} {owner : String} {ws ws' : List Cond} {d' mc ms idx maxL r a ci m0 na : Nat} {q : vw_C} {fs As rest : List Value} {bytes b0 : ByteArray} {ret r0 : Option FieldType} {post : Option Value → RW → Prop} {xq : String → Prop} (hM : MX (xl X) (xE X) y ws d' mc ms (.ref a :: As) w post xq) (hr : w r = some (a, .inr (ci, fs))) (hc : vwCl[ci]? = some q) (hg : GoodIn Ts (va_wsO own idx q.1 owner x y ws)) (hw : ws = Cond.code y bytes maxL ret :: ws') (h0 : Cond.code ⟨owner, x.name, x.desc⟩ b0 m0 r0 ∈ Ts) (hn0 : owner ≠ "java/lang/invoke/MethodHandle" ∧ owner ≠ "java/lang/invoke/VarHandle" ∧ (parseMethodDescriptor x.desc).map (fun d => d.parameters.length) = some na) (hna : As.length = na) (hd : d' + 1 ≤ d) (hm : maxL ≤ 41) (hcat : (rest.map fun v => v.category).sum ≤ 8) (hroom : k + mc ≤ (xR X).cells ∧ n + ms ≤ (xR X).slots) (hdg : decode cc pc = .ok (.invokevirtual idx, 3)) (hst : st = As.reverse ++ .ref a :: rest) (hp : pc + 3 = pq)
    (kk : ∀ (r : Option Value) (w' : RW), post r w' → GG X w' (k + mc) (n + ms) pq lv (r.toList ++ rest)) (kx : VX X w xq (k + mc) (n + ms) pc lv rest) : GG X w k n pc lv st := by
  subst hp
  subst hst
  subst hna
  intro H locs ls h1 h2 h3
  exact r_afterX C (vu_runU (As := As) (rest := rest) ⟨C.exec, C.code, rfl, C.cls, C.wds⟩ hM (va_cwO As.length C.wds hg hw rfl rfl h0 hn0 (rm_ok C hd hm)) ⟨hPc_blind _ _ _, hR.recv C h1 hr hc, hPc_pre C h1 h2⟩ rfl rfl h3.1 rfl (lv_room hcat) hdg hroom) h2 h3 kk kx
/-- a method of the receiver's class that may throw -/
theorem r_callVX (C : C0 X own cc Ts d nL) {y : MethodName} {ws ws' : List Cond} {d' mc ms idx maxL r a ci na : Nat} {q : vw_C} {fs As rest : List Value} {bytes : ByteArray} {ret : Option FieldType} {post : Option Value → RW → Prop} {xq : String → Prop} (hM : MX (xl X) (xE X) y ws d' mc ms (.ref a :: As) w post xq) (hr : w r = some (a, .inr (ci, fs))) (hc : vwCl[ci]? = some q) (hg : GoodIn Ts (wsV own idx q.1 y ws)) (hw : ws = Cond.code y bytes maxL ret :: ws') (hn0 : y.cls = q.1 ∧ y.cls ≠ "java/lang/invoke/MethodHandle" ∧ y.cls ≠ "java/lang/invoke/VarHandle" ∧ (parseMethodDescriptor y.desc).map (fun d => d.parameters.length) = some na) (hna : As.length = na) (hd : d' + 1 ≤ d) (hm : maxL ≤ 41) (hcat : (rest.map fun v => v.category).sum ≤ 8) (hroom : k + mc ≤ (xR X).cells ∧ n + ms ≤ (xR X).slots) (hdg : decode cc pc = .ok (.invokevirtual idx, 3)) (hst : st = As.reverse ++ .ref a :: rest) (hp : pc + 3 = pq)
    (kk : ∀ (r : Option Value) (w' : RW), post r w' → GG X w' (k + mc) (n + ms) pq lv (r.toList ++ rest)) (kx : VX X w xq (k + mc) (n + ms) pc lv rest) : GG X w k n pc lv st := by
  subst hp
  subst hst
  subst hna
  intro H locs ls h1 h2 h3
  exact r_afterX C (vx_runV (As := As) (rest := rest) ⟨C.exec, C.code, rfl, C.cls, C.wds⟩ hM (cwV As.length C.wds hg hw rfl rfl hn0 (rm_ok C hd hm)) ⟨hPc_blind _ _ _, hR.recv C h1 hr hc, hPc_pre C h1 h2⟩ rfl rfl h3.1 rfl (lv_room hcat) hdg hroom) h2 h3 kk kx
/-- a method of the receiver's class with a table of its own -/
theorem r_callVW (C : C0 X own cc Ts d nL) {y : MethodName} {ws ws' : List Cond} {d' mc ms idx maxL r a ci na : Nat} {q : vw_C} {fs As rest : List Value} {bytes : ByteArray} {ret : Option FieldType} {hh : List (Nat × Nat × Nat × Nat)} {post : Option Value → RW → Prop} (hM : MC (xl X) (xE X) y ws d' mc ms (.ref a :: As) w post) (hr : w r = some (a, .inr (ci, fs))) (hc : vwCl[ci]? = some q) (hg : GoodIn Ts (wsV own idx q.1 y ws)) (hw : ws = Cond.codeWith y bytes maxL ret hh :: ws') (hn0 : y.cls = q.1 ∧ y.cls ≠ "java/lang/invoke/MethodHandle" ∧ y.cls ≠ "java/lang/invoke/VarHandle" ∧ (parseMethodDescriptor y.desc).map (fun d => d.parameters.length) = some na) (hna : As.length = na) (hd : d' + 1 ≤ d) (hm : maxL ≤ 41) (hcat : (rest.map fun v => v.category).sum ≤ 8) (hroom : k + mc ≤ (xR X).cells ∧ n + ms ≤ (xR X).slots) (hdg : decode cc pc = .ok (.invokevirtual idx, 3)) (hst : st = As.reverse ++ .ref a :: rest) (hp : pc + 3 = pq)
    (kk : ∀ (r : Option Value) (w' : RW), post r w' → GG X w' (k + mc) (n + ms) pq lv (r.toList ++ rest)) : GG X w k n pc lv st := by
  subst hp
  subst hst
  subst hna
  intro H locs ls h1 h2 h3
  exact r_after C (vx_runVW (As := As) (rest := rest) ⟨C.exec, C.code, rfl, C.cls, C.wds⟩ hM (vx_cwVW As.length C.wds hg hw rfl rfl hn0 (rm_ok C hd hm)) ⟨hPc_blind _ _ _, hR.recv C h1 hr hc, hPc_pre C h1 h2⟩ rfl rfl h3.1 rfl (lv_room hcat) hdg hroom) h2 h3 kk
/-- a static method with a table of its own -/
theorem r_callSW (C : C0 X own cc Ts d nL) {y : MethodName} {ws ws' : List Cond} {d' mc ms idx maxL na : Nat} {As rest : List Value} {bytes : ByteArray} {ret : Option FieldType} {hh : List (Nat × Nat × Nat × Nat)} {post : Option Value → RW → Prop} (hM : MC (xl X) (xE X) y ws d' mc ms As w post) (hg : GoodIn Ts (va_wsS own idx y ws)) (hw : ws = Cond.codeWith y bytes maxL ret hh :: ws') (hn0 : y.cls ≠ "java/lang/invoke/MethodHandle" ∧ y.cls ≠ "java/lang/invoke/VarHandle" ∧ (parseMethodDescriptor y.desc).map (fun d => d.parameters.length) = some na) (hna : As.length = na) (hd : d' + 1 ≤ d) (hm : maxL ≤ 41) (hcat : (rest.map fun v => v.category).sum ≤ 8) (hroom : k + mc ≤ (xR X).cells ∧ n + ms ≤ (xR X).slots) (hdg : decode cc pc = .ok (.invokestatic idx, 3)) (hst : st = As.reverse ++ rest) (hp : pc + 3 = pq)
    (kk : ∀ (r : Option Value) (w' : RW), post r w' → GG X w' (k + mc) (n + ms) pq lv (r.toList ++ rest)) : GG X w k n pc lv st := by
  subst hp
  subst hst
  subst hna
  intro H locs ls h1 h2 h3
  exact r_after C (vx_runSW (As := As) (rest := rest) ⟨C.exec, C.code, rfl, C.cls, C.wds⟩ hM (vx_cwSW As.length C.wds hg hw rfl rfl hn0 (rm_ok C hd hm)) ⟨hPc_blind _ _ _, hPc_pre C h1 h2⟩ rfl rfl h3.1 rfl (lv_room hcat) hdg hroom) h2 h3 kk
end CALLROWSX

/-! ===== marks and laws of any kind ===== -/
abbrev isM (c : Nat) : Prop := c = 6 ∨ c = 3 ∨ c = 7 ∨ c = 11
abbrev isW (c : Nat) : Prop := c = 10 ∨ c = 8 ∨ c = 4 ∨ c = 2
def mkC (k : Nat) : Nat := if k = 0 then 6 else if k = 1 then 3 else if k = 2 then 7 else 11
def lwC (k : Nat) : Nat := if k = 0 then 10 else if k = 1 then 8 else if k = 2 then 4 else 2
theorem mkC_M (k : Nat) : isM (mkC k) := by unfold mkC isM; by_cases h0 : k = 0 <;> by_cases h1 : k = 1 <;> by_cases h2 : k = 2 <;> simp [h0, h1, h2]
theorem lwC_W (k : Nat) : isW (lwC k) := by unfold lwC isW; by_cases h0 : k = 0 <;> by_cases h1 : k = 1 <;> by_cases h2 : k = 2 <;> simp [h0, h1, h2]
theorem tM1 : ∀ j, j < 6 → TX1 j = TX5 j := by decide +kernel
theorem tM6 : ∀ j, j < 6 → TX6 j = TX5 j := by decide +kernel
theorem tM10 : ∀ j, j < 6 → TX10 j = TX5 j := by decide +kernel
theorem tW0 : ∀ j, j < 6 → TX0 j = TX9 j := by decide +kernel
theorem tW3 : ∀ j, j < 6 → TX3 j = TX9 j := by decide +kernel
theorem tW7 : ∀ j, j < 6 → TX7 j = TX9 j := by decide +kernel
section CROWS2
variable {X : XX} {own : String} {cc : ByteArray} {Ts : List Cond} {d nL : Nat} {w : RW} {k n pc pq tg : Nat} {lv : List (Option Value)} {st : List Value}
theorem r_getM (C : C0 X own cc Ts d nL) {idx r a ci : Nat} {fs : List Value} {v : Value} (hci : isM ci) (j : Nat) (hr : w r = some (a, .inr (ci, fs))) (hj : j < 6) (hlink : Cond.fieldLink own idx "NightBook$Span" (TX5 j).2.1 (TX5 j).2.2.1 ∈ Ts) (hn : (TX5 j).1 = "NightBook$Span") (hv : fs[j]? = some v) (hdg : decode cc pc = .ok (.getfield idx, 3)) (hp : pc + 3 = pq) (kk : GG X w k n pq lv (v :: st)) : GG X w k n pc lv (.ref a :: st) := by
  rcases hci with e | e | e | e <;> subst e
  · exact r_getf C (ref := "NightBook$Span") j hr rfl hj hlink (Or.inl hn.symm) hv hdg hp kk
  · exact r_getf C (ref := "NightBook$Span") (T := TX1) j hr rfl hj (by rw [tM1 j hj]; exact hlink) (Or.inl (by rw [tM1 j hj]; exact hn.symm)) hv hdg hp kk
  · exact r_getf C (ref := "NightBook$Span") (T := TX6) j hr rfl hj (by rw [tM6 j hj]; exact hlink) (Or.inl (by rw [tM6 j hj]; exact hn.symm)) hv hdg hp kk
  · exact r_getf C (ref := "NightBook$Span") (T := TX10) j hr rfl hj (by rw [tM10 j hj]; exact hlink) (Or.inl (by rw [tM10 j hj]; exact hn.symm)) hv hdg hp kk
theorem r_getW (C : C0 X own cc Ts d nL) {idx r a ci : Nat} {fs : List Value} {v : Value} (hci : isW ci) (j : Nat) (hr : w r = some (a, .inr (ci, fs))) (hj : j < 6) (hlink : Cond.fieldLink own idx "NightBook$Window" (TX9 j).2.1 (TX9 j).2.2.1 ∈ Ts) (hn : (TX9 j).1 = "NightBook$Window") (hv : fs[j]? = some v) (hdg : decode cc pc = .ok (.getfield idx, 3)) (hp : pc + 3 = pq) (kk : GG X w k n pq lv (v :: st)) : GG X w k n pc lv (.ref a :: st) := by
  rcases hci with e | e | e | e <;> subst e
  · exact r_getf C (ref := "NightBook$Window") j hr rfl hj hlink (Or.inl hn.symm) hv hdg hp kk
  · exact r_getf C (ref := "NightBook$Window") (T := TX7) j hr rfl hj (by rw [tW7 j hj]; exact hlink) (Or.inl (by rw [tW7 j hj]; exact hn.symm)) hv hdg hp kk
  · exact r_getf C (ref := "NightBook$Window") (T := TX3) j hr rfl hj (by rw [tW3 j hj]; exact hlink) (Or.inl (by rw [tW3 j hj]; exact hn.symm)) hv hdg hp kk
  · exact r_getf C (ref := "NightBook$Window") (T := TX0) j hr rfl hj (by rw [tW0 j hj]; exact hlink) (Or.inl (by rw [tW0 j hj]; exact hn.symm)) hv hdg hp kk
theorem r_putM (C : C0 X own cc Ts d nL) {idx r a ci : Nat} {fs : List Value} {v : Value} {ty : FieldType} (hci : isM ci) (j : Nat) (hr : w r = some (a, .inr (ci, fs))) (hj : j < 6) (hlink : Cond.fieldLink own idx "NightBook$Span" (TX5 j).2.1 (TX5 j).2.2.1 ∈ Ts) (hn : (TX5 j).1 = "NightBook$Span") (hfin : (TX5 j).2.2.2 = false) (hd : parseFieldDescriptor (TX5 j).2.2.1 = some ty) (hna : narrow ty v = v) (hfit : fits ty v = true) (hl : j < fs.length) (hdg : decode cc pc = .ok (.putfield idx, 3)) (hp : pc + 3 = pq) (kk : GG X (va_up w r (some (a, .inr (ci, fs.set j v)))) k n pq lv st) : GG X w k n pc lv (v :: .ref a :: st) := by
  rcases hci with e | e | e | e <;> subst e
  · exact r_putf C (ref := "NightBook$Span") (T := TX5) j hr rfl tyX5 tyX5_ok nmX5 hj hlink (Or.inl hn.symm) hfin hd hna hfit hl hdg hp kk
  · exact r_putf C (ref := "NightBook$Span") (T := TX1) j hr rfl tyX1 tyX1_ok nmX1 hj (by rw [tM1 j hj]; exact hlink) (Or.inl (by rw [tM1 j hj]; exact hn.symm)) (by rw [tM1 j hj]; exact hfin) (by rw [tM1 j hj]; exact hd) hna hfit hl hdg hp kk
  · exact r_putf C (ref := "NightBook$Span") (T := TX6) j hr rfl tyX6 tyX6_ok nmX6 hj (by rw [tM6 j hj]; exact hlink) (Or.inl (by rw [tM6 j hj]; exact hn.symm)) (by rw [tM6 j hj]; exact hfin) (by rw [tM6 j hj]; exact hd) hna hfit hl hdg hp kk
  · exact r_putf C (ref := "NightBook$Span") (T := TX10) j hr rfl tyX10 tyX10_ok nmX10 hj (by rw [tM10 j hj]; exact hlink) (Or.inl (by rw [tM10 j hj]; exact hn.symm)) (by rw [tM10 j hj]; exact hfin) (by rw [tM10 j hj]; exact hd) hna hfit hl hdg hp kk
theorem r_putW (C : C0 X own cc Ts d nL) {idx r a ci : Nat} {fs : List Value} {v : Value} {ty : FieldType} (hci : isW ci) (j : Nat) (hr : w r = some (a, .inr (ci, fs))) (hj : j < 6) (hlink : Cond.fieldLink own idx "NightBook$Window" (TX9 j).2.1 (TX9 j).2.2.1 ∈ Ts) (hn : (TX9 j).1 = "NightBook$Window") (hfin : (TX9 j).2.2.2 = false) (hd : parseFieldDescriptor (TX9 j).2.2.1 = some ty) (hna : narrow ty v = v) (hfit : fits ty v = true) (hl : j < fs.length) (hdg : decode cc pc = .ok (.putfield idx, 3)) (hp : pc + 3 = pq) (kk : GG X (va_up w r (some (a, .inr (ci, fs.set j v)))) k n pq lv st) : GG X w k n pc lv (v :: .ref a :: st) := by
  rcases hci with e | e | e | e <;> subst e
  · exact r_putf C (ref := "NightBook$Window") (T := TX9) j hr rfl tyX9 tyX9_ok nmX9 hj hlink (Or.inl hn.symm) hfin hd hna hfit hl hdg hp kk
  · exact r_putf C (ref := "NightBook$Window") (T := TX7) j hr rfl tyX7 tyX7_ok nmX7 hj (by rw [tW7 j hj]; exact hlink) (Or.inl (by rw [tW7 j hj]; exact hn.symm)) (by rw [tW7 j hj]; exact hfin) (by rw [tW7 j hj]; exact hd) hna hfit hl hdg hp kk
  · exact r_putf C (ref := "NightBook$Window") (T := TX3) j hr rfl tyX3 tyX3_ok nmX3 hj (by rw [tW3 j hj]; exact hlink) (Or.inl (by rw [tW3 j hj]; exact hn.symm)) (by rw [tW3 j hj]; exact hfin) (by rw [tW3 j hj]; exact hd) hna hfit hl hdg hp kk
  · exact r_putf C (ref := "NightBook$Window") (T := TX0) j hr rfl tyX0 tyX0_ok nmX0 hj (by rw [tW0 j hj]; exact hlink) (Or.inl (by rw [tW0 j hj]; exact hn.symm)) (by rw [tW0 j hj]; exact hfin) (by rw [tW0 j hj]; exact hd) hna hfit hl hdg hp kk
theorem r_putWF (C : C0 X own cc Ts d nL) (hnmI : (xt X).name = "<init>") (hown : own = "NightBook$Window") {idx r a ci : Nat} {fs : List Value} {v : Value} {ty : FieldType} (hci : isW ci) (j : Nat) (hr : w r = some (a, .inr (ci, fs))) (hj : j < 6) (hlink : Cond.fieldLink own idx "NightBook$Window" (TX9 j).2.1 (TX9 j).2.2.1 ∈ Ts) (hn : (TX9 j).1 = "NightBook$Window") (hfin : (TX9 j).2.2.2 = true) (hd : parseFieldDescriptor (TX9 j).2.2.1 = some ty) (hna : narrow ty v = v) (hfit : fits ty v = true) (hl : j < fs.length) (hdg : decode cc pc = .ok (.putfield idx, 3)) (hp : pc + 3 = pq) (kk : GG X (va_up w r (some (a, .inr (ci, fs.set j v)))) k n pq lv st) : GG X w k n pc lv (v :: .ref a :: st) := by
  rcases hci with e | e | e | e <;> subst e
  · exact r_putfF C hnmI (ref := "NightBook$Window") (T := TX9) j hr rfl tyX9 tyX9_ok nmX9 hj hlink hn.symm hfin (hn.trans hown.symm) hd hna hfit hl hdg hp kk
  · exact r_putfF C hnmI (ref := "NightBook$Window") (T := TX7) j hr rfl tyX7 tyX7_ok nmX7 hj (by rw [tW7 j hj]; exact hlink) (by rw [tW7 j hj]; exact hn.symm) (by rw [tW7 j hj]; exact hfin) (by rw [tW7 j hj]; exact hn.trans hown.symm) (by rw [tW7 j hj]; exact hd) hna hfit hl hdg hp kk
  · exact r_putfF C hnmI (ref := "NightBook$Window") (T := TX3) j hr rfl tyX3 tyX3_ok nmX3 hj (by rw [tW3 j hj]; exact hlink) (by rw [tW3 j hj]; exact hn.symm) (by rw [tW3 j hj]; exact hfin) (by rw [tW3 j hj]; exact hn.trans hown.symm) (by rw [tW3 j hj]; exact hd) hna hfit hl hdg hp kk
  · exact r_putfF C hnmI (ref := "NightBook$Window") (T := TX0) j hr rfl tyX0 tyX0_ok nmX0 hj (by rw [tW0 j hj]; exact hlink) (by rw [tW0 j hj]; exact hn.symm) (by rw [tW0 j hj]; exact hfin) (by rw [tW0 j hj]; exact hn.trans hown.symm) (by rw [tW0 j hj]; exact hd) hna hfit hl hdg hp kk
theorem r_putMF (C : C0 X own cc Ts d nL) (hnmI : (xt X).name = "<init>") (hown : own = "NightBook$Span") {idx r a ci : Nat} {fs : List Value} {v : Value} {ty : FieldType} (hci : isM ci) (j : Nat) (hr : w r = some (a, .inr (ci, fs))) (hj : j < 6) (hlink : Cond.fieldLink own idx "NightBook$Span" (TX5 j).2.1 (TX5 j).2.2.1 ∈ Ts) (hn : (TX5 j).1 = "NightBook$Span") (hfin : (TX5 j).2.2.2 = true) (hd : parseFieldDescriptor (TX5 j).2.2.1 = some ty) (hna : narrow ty v = v) (hfit : fits ty v = true) (hl : j < fs.length) (hdg : decode cc pc = .ok (.putfield idx, 3)) (hp : pc + 3 = pq) (kk : GG X (va_up w r (some (a, .inr (ci, fs.set j v)))) k n pq lv st) : GG X w k n pc lv (v :: .ref a :: st) := by
  rcases hci with e | e | e | e <;> subst e
  · exact r_putfF C hnmI (ref := "NightBook$Span") (T := TX5) j hr rfl tyX5 tyX5_ok nmX5 hj hlink hn.symm hfin (hn.trans hown.symm) hd hna hfit hl hdg hp kk
  · exact r_putfF C hnmI (ref := "NightBook$Span") (T := TX1) j hr rfl tyX1 tyX1_ok nmX1 hj (by rw [tM1 j hj]; exact hlink) (by rw [tM1 j hj]; exact hn.symm) (by rw [tM1 j hj]; exact hfin) (by rw [tM1 j hj]; exact hn.trans hown.symm) (by rw [tM1 j hj]; exact hd) hna hfit hl hdg hp kk
  · exact r_putfF C hnmI (ref := "NightBook$Span") (T := TX6) j hr rfl tyX6 tyX6_ok nmX6 hj (by rw [tM6 j hj]; exact hlink) (by rw [tM6 j hj]; exact hn.symm) (by rw [tM6 j hj]; exact hfin) (by rw [tM6 j hj]; exact hn.trans hown.symm) (by rw [tM6 j hj]; exact hd) hna hfit hl hdg hp kk
  · exact r_putfF C hnmI (ref := "NightBook$Span") (T := TX10) j hr rfl tyX10 tyX10_ok nmX10 hj (by rw [tM10 j hj]; exact hlink) (by rw [tM10 j hj]; exact hn.symm) (by rw [tM10 j hj]; exact hfin) (by rw [tM10 j hj]; exact hn.trans hown.symm) (by rw [tM10 j hj]; exact hd) hna hfit hl hdg hp kk
/-- a call that Window answers for laws of every kind -/
theorem r_callW (C : C0 X own cc Ts d nL) {x y : MethodName} {ws ws' : List Cond} {d' mc ms idx maxL r a ci na : Nat} {fs As rest : List Value} {bytes : ByteArray} {ret : Option FieldType} {post : Option Value → RW → Prop} (hM : MC (xl X) (xE X) y ws d' mc ms (.ref a :: As) w post) (hci : isW ci) (hr : w r = some (a, .inr (ci, fs))) (g9 : GoodIn Ts (wsV own idx RX9 y ws)) (g7 : GoodIn Ts (va_wsU own idx RX7 "NightBook$Window" x y ws)) (g3 : GoodIn Ts (va_wsU own idx RX3 "NightBook$Window" x y ws)) (g0 : GoodIn Ts (va_wsU own idx RX0 "NightBook$Window" x y ws)) (hw : ws = Cond.code y bytes maxL ret :: ws') (hyx : y = ⟨"NightBook$Window", x.name, x.desc⟩) (hn9 : y.cls = RX9 ∧ y.cls ≠ "java/lang/invoke/MethodHandle" ∧ y.cls ≠ "java/lang/invoke/VarHandle" ∧ (parseMethodDescriptor y.desc).map (fun d => d.parameters.length) = some na) (hn0 : "NightBook$Window" ≠ "java/lang/invoke/MethodHandle" ∧ "NightBook$Window" ≠ "java/lang/invoke/VarHandle" ∧ (parseMethodDescriptor x.desc).map (fun d => d.parameters.length) = some na) (hna : As.length = na) (hd : d' + 1 ≤ d) (hm : maxL ≤ 41) (hcat : (rest.map fun v => v.category).sum ≤ 8) (hroom : k + mc ≤ (xR X).cells ∧ n + ms ≤ (xR X).slots) (hdg : decode cc pc = .ok (.invokevirtual idx, 3)) (hst : st = As.reverse ++ .ref a :: rest) (hp : pc + 3 = pq)
    (kk : ∀ (r : Option Value) (w' : RW), post r w' → GG X w' (k + mc) (n + ms) pq lv (r.toList ++ rest)) : GG X w k n pc lv st := by
  rcases hci with e | e | e | e <;> subst e
  · exact r_callV C hM hr rfl g9 hw hn9 hna hd hm hcat hroom hdg hst hp kk
  · exact r_callU C hM hr rfl g7 hw hyx hn0 hna hd hm hcat hroom hdg hst hp kk
  · exact r_callU C hM hr rfl g3 hw hyx hn0 hna hd hm hcat hroom hdg hst hp kk
  · exact r_callU C hM hr rfl g0 hw hyx hn0 hna hd hm hcat hroom hdg hst hp kk
end CROWS2

section CROWS3
variable {X : XX} {own : String} {cc : ByteArray} {Ts : List Cond} {d nL : Nat} {w : RW} {k n pc pq tg : Nat} {lv : List (Option Value)} {st : List Value}
/-- a constructor's call into the nest -/
theorem r_callIN (C : C0 X own cc Ts d nL) {ws' : List Cond} {d' mc ms maxL a na : Nat} {As rest : List Value} {bytes : ByteArray} {post : Option Value → RW → Prop} (hM : MC (xl X) (xE X) yX2_init wsX2_init d' mc ms (.ref a :: As) w post) (hc : own ∈ [RX5, RX9, RX4]) (hg : GoodIn Ts wsX2_init) (hw : wsX2_init = Cond.code yX2_init bytes maxL none :: ws') (hini : Cond.initialized yX2_init.cls ∈ Ts) (hin : Cond.instanceMethod yX2_init ∈ Ts) (hn0 : yX2_init.name = "<init>" ∧ yX2_init.cls ≠ "java/lang/invoke/MethodHandle" ∧ yX2_init.cls ≠ "java/lang/invoke/VarHandle" ∧ (parseMethodDescriptor yX2_init.desc).map (fun d => d.parameters.length) = some na) (hna : As.length = na) (hd : d' + 1 ≤ d) (hm : maxL ≤ 41) (hcat : (rest.map fun v => v.category).sum ≤ 8) (hroom : k + mc ≤ (xR X).cells ∧ n + ms ≤ (xR X).slots) (hdg : decode cc pc = .ok (.invokespecial 3, 3)) (hst : st = As.reverse ++ .ref a :: rest) (hp : pc + 3 = pq)
    (kk : ∀ (r : Option Value) (w' : RW), post r w' → GG X w' (k + mc) (n + ms) pq lv (r.toList ++ rest)) : GG X w k n pc lv st := by
  subst hp
  subst hst
  subst hna
  intro H locs ls h1 h2 h3
  exact r_after C (va_runIN (As := As) (rest := rest) (host := "NightBook") ⟨C.exec, C.code, rfl, C.cls, C.wds⟩ hM ⟨va_cnB As.length C.wds hg hw rfl rfl (C.env.2.2.2.1.1 own hc) (C.wds _ hini) hn0.2 (rm_ok C hd hm), hn0.1, C.wds _ hin⟩ ⟨hPc_blind _ _ _, hPc_pre C h1 h2⟩ rfl rfl h3.1 rfl (lv_room hcat) hdg hroom) h2 h3 kk
/-- a call of the method that Held has no code of -/
theorem r_callA (C : C0 X own cc Ts d nL) {x y : MethodName} {ws ws' : List Cond} {d' mc ms idx maxL r a ci na : Nat} {q : vw_C} {fs As rest : List Value} {bytes : ByteArray} {ret : Option FieldType} {post : Option Value → RW → Prop} (hM : MC (xl X) (xE X) y ws d' mc ms (.ref a :: As) w post) (hr : w r = some (a, .inr (ci, fs))) (hc : vwCl[ci]? = some q) (hg : GoodIn Ts (va_wsU own idx q.1 "NightBook$Held" x y ws)) (hw : ws = Cond.code y bytes maxL ret :: ws') (hx : x.name = "heft" ∧ x.desc = "()I") (hn0 : "NightBook$Held" ≠ "java/lang/invoke/MethodHandle" ∧ "NightBook$Held" ≠ "java/lang/invoke/VarHandle" ∧ (parseMethodDescriptor x.desc).map (fun d => d.parameters.length) = some na) (hna : As.length = na) (hd : d' + 1 ≤ d) (hm : maxL ≤ 41) (hcat : (rest.map fun v => v.category).sum ≤ 8) (hroom : k + mc ≤ (xR X).cells ∧ n + ms ≤ (xR X).slots) (hdg : decode cc pc = .ok (.invokevirtual idx, 3)) (hst : st = As.reverse ++ .ref a :: rest) (hp : pc + 3 = pq)
    (kk : ∀ (r : Option Value) (w' : RW), post r w' → GG X w' (k + mc) (n + ms) pq lv (r.toList ++ rest)) : GG X w k n pc lv st := by
  subst hp
  subst hst
  subst hna
  intro H locs ls h1 h2 h3
  exact r_after C (va_runU (As := As) (rest := rest) ⟨C.exec, C.code, rfl, C.cls, C.wds⟩ hM (va_cwA As.length C.wds hg hw rfl rfl (by rw [hx.1, hx.2]; exact C.env.2.2.2.1.2.1) hn0 (rm_ok C hd hm)) ⟨hPc_blind _ _ _, hR.recv C h1 hr hc, hPc_pre C h1 h2⟩ rfl rfl h3.1 rfl (lv_room hcat) hdg hroom) h2 h3 kk
/-- an object of a class fits where its class, or one that it is a kind of, is wanted -/
theorem any_of (C : C0 X own cc Ts d nL) {r a ci : Nat} {fs : List Value} {q : vw_C} {En : String} (hr : w r = some (a, .inr (ci, fs))) (hc : vwCl[ci]? = some q) (hE : q.1 = En ∨ (q.1, En) ∈ eCs) : ∀ H : Heap, hR (xE X) w H → va_Any En (xs X) H a := by
  intro H h1
  refine va_rAny (ws := [(a, .inr (ci, fs))]) (q0 := 0) C.env.1 (h1.one hr) rfl hc (fun comp c0 g1 g2 => ?_)
  rcases hE with e | h
  · subst e
    cases g1.symm.trans g2
    obtain ⟨-, hfc, kC, hkC, hkind⟩ := C.env.1.1 ci _ hc
    cases hfc.symm.trans g1
    exact va_assign (C := q.1) ⟨hfc, kC, hkC, hkind⟩
  · obtain ⟨c1, t1, f1, f2, f3⟩ := Cond.castable_spec (C.env.2.2.2.1.2.2.1 _ h)
    cases f1.symm.trans g2
    cases f2.symm.trans g1
    exact f3
theorem r_instS (C : C0 X own cc Ts d nL) {idx r a : Nat} {fs : List Value} (hlink : Cond.classLink own idx "NightBook$Row" ∈ Ts) (hr : w r = some (a, .inr (5, fs))) (hdg : decode cc pc = .ok (.instanceof idx, 3)) (hp : pc + 3 = pq) (kk : GG X w k n pq lv (.int (nI 1) :: st)) : GG X w k n pc lv (.ref a :: st) := by
  subst hp
  intro H locs ls h1 h2 h3
  obtain ⟨-, hfc, kC, hkC, hkind⟩ := C.env.1.1 5 _ (rfl : vwCl[5]? = some (RX4, TX4, 2))
  exact va_instS C.exec C.code C.cls (C.wds _ hlink) (cC := (xE X).1.1 5) ⟨hfc, kC, hkC, hkind⟩ (hR.recv C h1 hr rfl) hdg (kk H locs ls h1 h2 h3)
theorem r_castS (C : C0 X own cc Ts d nL) {idx r a : Nat} {fs : List Value} (hlink : Cond.classLink own idx "NightBook$Row" ∈ Ts) (hr : w r = some (a, .inr (5, fs))) (hdg : decode cc pc = .ok (.checkcast idx, 3)) (hp : pc + 3 = pq) (kk : GG X w k n pq lv (.ref a :: st)) : GG X w k n pc lv (.ref a :: st) := by
  subst hp
  intro H locs ls h1 h2 h3
  obtain ⟨-, hfc, kC, hkC, hkind⟩ := C.env.1.1 5 _ (rfl : vwCl[5]? = some (RX4, TX4, 2))
  exact va_castS C.exec C.code C.cls (C.wds _ hlink) (cC := (xE X).1.1 5) ⟨hfc, kC, hkC, hkind⟩ (hR.recv C h1 hr rfl) hdg (kk H locs ls h1 h2 h3)
theorem r_instNo (C : C0 X own cc Ts d nL) {idx r a ci : Nat} {fs : List Value} (hci : isM ci ∨ isW ci) (hlink : Cond.classLink own idx "NightBook$Row" ∈ Ts) (hr : w r = some (a, .inr (ci, fs))) (hdg : decode cc pc = .ok (.instanceof idx, 3)) (hp : pc + 3 = pq) (kk : GG X w k n pq lv (.int (nI 0) :: st)) : GG X w k n pc lv (.ref a :: st) := by
  subst hp
  intro H locs ls h1 h2 h3
  have key : ∃ q, vwCl[ci]? = some q ∧ va_Nc q.1 "NightBook$Row" (xs X) := by
    rcases hci with (e | e | e | e) | (e | e | e | e) <;> subst e
    · exact ⟨_, rfl, C.env.2.2.1 RX5 (by decide +kernel)⟩
    · exact ⟨_, rfl, C.env.2.2.1 RX1 (by decide +kernel)⟩
    · exact ⟨_, rfl, C.env.2.2.1 RX6 (by decide +kernel)⟩
    · exact ⟨_, rfl, C.env.2.2.1 RX10 (by decide +kernel)⟩
    · exact ⟨_, rfl, C.env.2.2.1 RX9 (by decide +kernel)⟩
    · exact ⟨_, rfl, C.env.2.2.1 RX7 (by decide +kernel)⟩
    · exact ⟨_, rfl, C.env.2.2.1 RX3 (by decide +kernel)⟩
    · exact ⟨_, rfl, C.env.2.2.1 RX0 (by decide +kernel)⟩
  obtain ⟨q, hq, hn⟩ := key
  exact va_instNo C.exec C.code C.cls (C.wds _ hlink) hn (hR.recv C h1 hr hq) hdg (kk H locs ls h1 h2 h3)
theorem any_M (C : C0 X own cc Ts d nL) {r a ci : Nat} {fs : List Value} {En : String} (hci : isM ci) (hE : En = "NightBook$Span" ∨ En = "NightBook$Held") (hr : w r = some (a, .inr (ci, fs))) : ∀ H : Heap, hR (xE X) w H → va_Any En (xs X) H a := by
  rcases hci with e | e | e | e <;> subst e <;> rcases hE with e | e <;> subst e
  · exact any_of C hr rfl (Or.inl rfl)
  · exact any_of C hr rfl (Or.inr (by decide +kernel))
  · exact any_of C hr rfl (Or.inr (by decide +kernel))
  · exact any_of C hr rfl (Or.inr (by decide +kernel))
  · exact any_of C hr rfl (Or.inr (by decide +kernel))
  · exact any_of C hr rfl (Or.inr (by decide +kernel))
  · exact any_of C hr rfl (Or.inr (by decide +kernel))
  · exact any_of C hr rfl (Or.inr (by decide +kernel))
theorem any_W (C : C0 X own cc Ts d nL) {r a ci : Nat} {fs : List Value} {En : String} (hci : isW ci) (hE : En = "NightBook$Window" ∨ En = "NightBook$Held") (hr : w r = some (a, .inr (ci, fs))) : ∀ H : Heap, hR (xE X) w H → va_Any En (xs X) H a := by
  rcases hci with e | e | e | e <;> subst e <;> rcases hE with e | e <;> subst e
  · exact any_of C hr rfl (Or.inl rfl)
  · exact any_of C hr rfl (Or.inr (by decide +kernel))
  · exact any_of C hr rfl (Or.inr (by decide +kernel))
  · exact any_of C hr rfl (Or.inr (by decide +kernel))
  · exact any_of C hr rfl (Or.inr (by decide +kernel))
  · exact any_of C hr rfl (Or.inr (by decide +kernel))
  · exact any_of C hr rfl (Or.inr (by decide +kernel))
  · exact any_of C hr rfl (Or.inr (by decide +kernel))
end CROWS3

/-! ===== the class's constructor ===== -/
def aoL : List FieldType := [.array .int, .object "NightBook$Span", .object "NightBook$Window", .object "NightBook$Held", .object "NightBook$Tally"]
/-- arrays of these have been made before -/
def AO (U : State) : Prop := ∀ ty ∈ aoL, va_Nw (.arrayOver ty) U
theorem AO.warm {s U : State} (hW : s.WarmedH U.vm) (h : AO s) : AO U := fun ty ht => by
  have h1 : (Cond.arrayOver ty).before #[] (s.setVm U.vm) = true := (Cond.arrayOver_setVmC hW.alike ty).trans (h ty ht)
  exact h1
theorem AO.use {s : State} {A : Array Value} (h : AO s) {ty : FieldType} (ht : ty ∈ aoL) : (Cond.arrayOver ty).before A s = true := h ty ht
def MCI (l : Launch) (E : EV) (y : MethodName) (ws : List Cond) (d mc ms : Nat) (As : List Value) (w : RW) (post : Option Value → RW → Prop) : Prop :=
  Met l y ws (rmD d mc ms) (fun v U => hPc E As w v U ∧ AO U) (hQc E post) mc ms (fun q => E.2.2 ≤ q)
theorem MCI.enter {l : Launch} {E : EV} {y : MethodName} {ws ws' : List Cond} {d mc ms maxL : Nat} {As : List Value} {w : RW} {post : Option Value → RW → Prop} {cc : ByteArray} {ret : Option FieldType} {lv0 : List (Option Value)} (hy : plainName y.cls = true) (hw : ws = Cond.code y cc maxL ret :: ws') (hcat : ∀ u ∈ As, u.category = 1) (hlen : As.length ≤ maxL) (hlv : As.map some ++ List.replicate (maxL - As.length) none = lv0)
    (body : ∀ X : XX, xl X = l → xE X = E → C0 X y.cls cc ws d maxL → C1 X ret y.name mc ms post → AO (xs X) → GG X w 0 0 0 lv0 []) : MCI l E y ws d mc ms As w post := by
  refine Met.ofW (cc := cc) (maxL := maxL) (ret := ret) hy hw ?_
  intro p e s m args below meth c s₁ B hml hv
  obtain ⟨⟨rfl, h1, h2, h3⟩, hao⟩ := hv
  have hts := atoms_spec (ws := ws) B.pre
  have hown : s.vm.findClass y.cls = some m.cls := findClass_of_methodNamed B.named
  have hin : meth.name = y.name := (name_of_methodNamed B.named B.method).1
  have key := body (p, l, e, (headSpec ws (rmD d mc ms)).room, s, m, As.toArray, below, meth, c, E, MQ below (hQc E post) As.toArray s mc ms (fun q => E.2.2 ≤ q)) rfl rfl ⟨B.exec, B.bytes, hown, hts, h2, h3, Nat.le_refl _, Nat.le_refl _, hml⟩ ⟨B.returns, B.notSynchronized, hin, rfl, rfl, rfl⟩ hao
  have hl := lv_entry As (n := maxL) (by rw [lg_sl_len As hcat]; exact hlen)
  rw [lg_entry_eq]
  exact key s.heap [] _ h1 va_S.rf (lh_entry hcat hlen hlv hml hl)
section NINIT
variable {X : XX} {own : String} {cc : ByteArray} {Ts : List Cond} {d nL : Nat} {w : RW} {k n pc pq : Nat} {lv : List (Option Value)} {st : List Value}
theorem r_callIA (C : C0 X own cc Ts d nL) (hao : AO (xs X)) {y : MethodName} {ws ws' : List Cond} {d' mc ms idx maxL a na : Nat} {As rest : List Value} {bytes : ByteArray} {post : Option Value → RW → Prop} (hM : MCI (xl X) (xE X) y ws d' mc ms (.ref a :: As) w post) (hg : GoodIn Ts ws) (hw : ws = Cond.code y bytes maxL none :: ws') (hini : Cond.initialized y.cls ∈ Ts) (hl : Cond.methodLink own idx y ∈ Ts) (hin : Cond.instanceMethod y ∈ Ts) (hn0 : y.name = "<init>" ∧ y.cls ≠ "java/lang/invoke/MethodHandle" ∧ y.cls ≠ "java/lang/invoke/VarHandle" ∧ (parseMethodDescriptor y.desc).map (fun d => d.parameters.length) = some na) (hna : As.length = na) (hd : d' + 1 ≤ d) (hm : maxL ≤ 41) (hcat : (rest.map fun v => v.category).sum ≤ 8) (hroom : k + mc ≤ (xR X).cells ∧ n + ms ≤ (xR X).slots) (hdg : decode cc pc = .ok (.invokespecial idx, 3)) (hst : st = As.reverse ++ .ref a :: rest) (hp : pc + 3 = pq)
    (kk : ∀ (r : Option Value) (w' : RW), post r w' → GG X w' (k + mc) (n + ms) pq lv (r.toList ++ rest)) : GG X w k n pc lv st := by
  subst hp
  subst hst
  subst hna
  intro H locs ls h1 h2 h3
  exact r_after C (va_runI (As := As) (rest := rest) ⟨C.exec, C.code, rfl, C.cls, C.wds⟩ hM (cwI As.length C.wds hg hw rfl rfl (C.wds _ hini) (C.wds _ hl) (C.wds _ hin) hn0.1 hn0.2 (rm_ok C hd hm)) ⟨fun a U g mk q => ⟨hPc_blind _ _ _ a U g mk q.1, q.2.warm (U := U.calling g mk a) (State.WarmedH.refl U)⟩, fun U hU hW => ⟨hPc_pre C h1 h2 U hU hW, hao.warm hW⟩⟩ rfl rfl h3.1 rfl (lv_room hcat) hdg hroom) h2 h3 kk
theorem r_newqA (C : C0 X own cc Ts d nL) (hao : AO (xs X)) {Cn : String} {N idx : Nat} {x : Int32} (r t : Nat) (cA : ClassId) (ht : (eT (xE X))[t]? = some (cA, .object Cn)) (hcl : Cond.classLink own idx Cn ∈ Ts) (hover : FieldType.object Cn ∈ aoL) (hx : ¬ x < 0) (hN : x.toNatClampNeg = N) (hb : N * 4 ≤ 536870912) (hk : k + 1 ≤ (xR X).cells) (hn : n + N ≤ (xR X).slots) (hdg : decode cc pc = .ok (.anewarray idx, 3)) (hp : pc + 3 = pq) (kk : ∀ q : Nat, GG X (va_up w r (some (q, .inl (cA, N, .inr (.inr (.inr (.inr (fun _ => none)))))))) (k + 1) (n + N) pq lv (.ref q :: st)) : GG X w k n pc lv (.int x :: st) := by
  subst hp
  subst hN
  intro H locs ls h1 h2 h3
  refine W.anew C.exec C.code C.cls (C.wds _ hcl) (hao.use hover) rfl hdg rfl hx hb hk hn fun c1 kA comp f1 f2 f3 f4 => ?_
  have ec : cA = c1 := by
    obtain ⟨_, _, _, _, _, g4⟩ := (C.env.1.2 t _ ht).2
    exact Option.some.inj (g4.symm.trans f1)
  subst ec
  generalize hH1 : H.push ({ cls := cA, slots := Array.replicate x.toNatClampNeg .null, vm := .none } : Cell) = H1
  have z1 : H1.size = H.size + 1 := by rw [← hH1, Array.size_push]
  have e1 : H1[H.size]? = some (arrV cA x.toNatClampNeg (fun _ => .null)) := by rw [← hH1, Array.getElem?_push_size, ← arrV_new]
  have o1 : ∀ q : Nat, q < H.size → H1[q]? = H[q]? := fun q hq => by rw [← hH1, Array.getElem?_push, if_neg (Nat.ne_of_lt hq)]
  exact kk H.size H1 locs ls (h1.new (Nat.le_refl _) (Nat.le_trans C.bas h2.1) (by show H1[H.size]? = some (vp_cell _ _); rw [e1]; rfl) o1) ⟨Nat.le_trans h2.1 (by omega), fun x g1 g2 => (o1 x (Nat.lt_of_lt_of_le g1 h2.1)).trans (h2.2.1 x g1 g2), h2.2.2⟩ h3
def mnaW (E : EV) (w : RW) (r rr N K q : Nat) : RW := fun x => if x = r then some (q, .inl (E.2.1 8, N, .inr (.inr (.inr (.inr (fun i => if i < N then some (q + 1 + i) else none)))))) else if rr ≤ x ∧ x < rr + N then some (q + 1 + (x - rr), .inl (E.2.1 0, K, .inl (fun _ => 0))) else w x
theorem r_mna (C : C0 X own cc Ts d nL) (hao : AO (xs X)) {idx N K : Nat} (r rr : Nat) (hclink : Cond.classLink own idx "[[I" ∈ Ts) (harr : Cond.arrayClass .int ∈ Ts) (hN : N < 100000) (hK : K < 100000) (hk : k + (1 + N) ≤ (xR X).cells) (hn : n + (N + N * K) ≤ (xR X).slots) (hdg : decode cc pc = .ok (.multianewarray idx 2, 4)) (hp : pc + 4 = pq)
    (kk : ∀ q : Nat, GG X (mnaW (xE X) w r rr N K q) (k + 1 + N) (n + N + N * K) pq lv (.ref q :: st)) : GG X w k n pc lv (.int (nI K) :: .int (nI N) :: st) := by
  subst hp
  intro H locs ls h1 h2 h3 T hT Xs
  have cN : (nI N).toNatClampNeg = N := nI_clamp (by omega)
  have cK : (nI K).toNatClampNeg = K := nI_clamp (by omega)
  obtain ⟨vm₁, cA, comp, -, fA, fC, hO, -, X', step⟩ := Xs.multianewarray2F (ty := .int) C.exec C.cls (C.wds _ hclink) (hao.use (ty := .array .int) (by decide)) (C.wds _ harr) (g := F0 (xm X) pc ls (.int (nI K) :: .int (nI N) :: st)) rfl (by rw [C.code]; exact hdg) rfl (nI_pos (by omega)) (nI_pos (by omega)) (by rw [cN]; omega) (by rw [cK]; show K * 4 ≤ _; omega) (by rw [cK]; omega) rfl rfl (by rw [cN]; exact hk) (by rw [cN, cK]; exact hn)
  rw [cN, cK] at X' step
  have e8 : (xE X).2.1 8 = cA := Option.some.inj ((C.env.1.2 8 _ rfl).2.symm.trans fA)
  have e0 : (xE X).2.1 0 = comp := Option.some.inj ((C.env.1.2 0 _ rfl).2.symm.trans fC)
  subst e8
  subst e0
  generalize hF : Jvm.Free.Multi.fill (T.setVm vm₁) ((xE X).2.1 8) ((xE X).2.1 0) N K (defaultValue .int) N = F at X' step
  have hTh : (T.setVm vm₁).heap = H := hT
  obtain ⟨f1, f2, -, -⟩ := Jvm.Free.Multi.fill_facts (T.setVm vm₁) ((xE X).2.1 8) ((xE X).2.1 0) N K (defaultValue .int) N
  rw [hF, hTh] at f1 f2
  have hold : ∀ x : Nat, x < H.size → F.heap[x]? = H[x]? := fun x hx => by
    have := Jvm.Free.Multi.fill_old (T.setVm vm₁) ((xE X).2.1 8) ((xE X).2.1 0) N K (defaultValue .int) (a := x) (by rw [hTh]; exact hx) N
    rw [hF, hTh] at this
    exact this
  have hrow : ∀ j : Nat, j < N → F.heap[H.size + 1 + j]? = some (vp_cell ((xE X).2.1 0) (K, .inl (fun _ => 0))) := fun j hj => by
    have := Jvm.Free.Multi.fill_inner (T.setVm vm₁) ((xE X).2.1 8) ((xE X).2.1 0) N K (defaultValue .int) N j hj
    rw [hF, hTh] at this
    rw [this]
    show some ({ cls := (xE X).2.1 0, slots := Array.replicate K (.int 0), vm := .none } : Cell) = some _
    rw [arrV_new]
    rfl
  have hout : Jvm.Free.Multi.outerC ((xE X).2.1 8) N H.size N = vp_cell ((xE X).2.1 8) (N, .inr (.inr (.inr (.inr (fun i => if i < N then some (H.size + 1 + i) else none))))) := by
    rw [vp_cell_q]
    exact vr_outer ((xE X).2.1 8) N H.size N
  rw [hout] at f2
  have hb := Nat.le_trans C.bas h2.1
  have key : ∀ (x a : Nat) (e : va_E), mnaW (xE X) w r rr N K H.size x = some (a, e) → (x = r ∧ a = H.size ∧ va_at (xE X).1 vwCl (a, e) F.heap) ∨ (x ≠ r ∧ (rr ≤ x ∧ x < rr + N) ∧ a = H.size + 1 + (x - rr) ∧ va_at (xE X).1 vwCl (a, e) F.heap) ∨ (x ≠ r ∧ ¬ (rr ≤ x ∧ x < rr + N) ∧ a < H.size ∧ w x = some (a, e)) := by
    intro x a e hx
    unfold mnaW at hx
    by_cases g1 : x = r
    · rw [if_pos g1] at hx
      cases hx
      exact Or.inl ⟨g1, rfl, f2⟩
    · rw [if_neg g1] at hx
      by_cases g2 : rr ≤ x ∧ x < rr + N
      · rw [if_pos g2] at hx
        cases hx
        exact Or.inr (Or.inl ⟨g1, g2, rfl, hrow _ (by omega)⟩)
      · rw [if_neg g2] at hx
        exact Or.inr (Or.inr ⟨g1, g2, ((h1.1 x a e hx).1).lt, hx⟩)
  have hR1 : hR (xE X) (mnaW (xE X) w r rr N K H.size) F.heap := by
    refine ⟨fun x a e hx => ?_, fun x y a e e' hx hy => ?_⟩
    · rcases key x a e hx with ⟨-, q2, q3⟩ | ⟨-, -, q2, q3⟩ | ⟨-, -, q2, q3⟩
      · exact ⟨q3, by omega⟩
      · exact ⟨q3, by omega⟩
      · exact ⟨((h1.1 x a e q3).1).kept (hold a q2), (h1.1 x a e q3).2⟩
    · rcases key x a e hx with ⟨p1, p2, -⟩ | ⟨p1, p0, p2, -⟩ | ⟨p1, p0, p2, p3⟩ <;> rcases key y a e' hy with ⟨q1, q2, -⟩ | ⟨q1, q0, q2, -⟩ | ⟨q1, q0, q2, q3⟩
      · omega
      · omega
      · omega
      · omega
      · omega
      · omega
      · omega
      · omega
      · exact h1.2 x y a e e' p3 q3
  have hsz : H.size ≤ F.heap.size := by
    have := f1
    omega
  obtain ⟨t, a1, b1⟩ := kk H.size F.heap locs ls hR1 ⟨Nat.le_trans h2.1 hsz, fun x g1 g2 => (hold x (Nat.lt_of_lt_of_le g1 h2.1)).trans (h2.2.1 x g1 g2), h2.2.2⟩ h3 F rfl X'
  rw [hT] at step
  exact ⟨t, step t a1, b1⟩
end NINIT

theorem tcn_z : tcn z0 = 0 := by decide +kernel
theorem z24 (d : Nat) : z0.2.1 24 d = 0 := by
  show zf 24 d = 0
  unfold zf
  rw [if_neg (fun h => absurd h.1 (by decide))]

set_option maxHeartbeats 4000000 in
set_option maxRecDepth 100000 in
/-- the class, new -/
theorem mc_X11_init {l : Launch} {E : EV} {w : RW} {a : Nat} (hr : w 0 = some (a, .inr (12, [.null, .null, .null, .int 0, .null, .null, .int 0, .null, .int 0, .null, .null, .int 0, .null, .null, .null, .null]))) : MCI l E yX11_init wsX11_init 2 26 3428 [.ref a] w (fun v w' => v = none ∧ (∀ q, 1000 ≤ q → w' q = w q) ∧ ∃ B : Nat → Nat, B 0 = a ∧ NS E B z0 w') := by
  refine MCI.enter (cc := cX11_init) (maxL := 2) (ret := none) (lv0 := [some (.ref a), none]) (by decide) rfl (by simp [Value.category]) (Nat.le_of_ble_eq_true rfl) rfl ?_
  intro X hl hE C D hao
  subst hl
  subst hE
  have loop : ∀ (b1 b2 b3 b5 b6 b8 b10 b11 b13 b14 : Nat) (w1 : RW), (∀ q, 1000 ≤ q → w1 q = w q) → w1 1 = iA (xE X) b1 6 (fun _ => 0) → w1 2 = iA (xE X) b2 6 (fun _ => 0) → w1 3 = zA (xE X) b3 6 (fun _ => 0) → w1 5 = qA (xE X) 8 b5 6 (fun i => if i < 6 then some (b5 + 1 + i) else none) → w1 6 = qA (xE X) 4 b6 80 (fun _ => none) → w1 8 = qA (xE X) 5 b8 12 (fun _ => none) → w1 10 = iA (xE X) b10 8 (fil (fun _ => 0) 0 8 (nI 51)) → w1 11 = iA (xE X) b11 64 (fil (fun _ => 0) 0 64 (-1)) → w1 13 = qA (xE X) 6 b13 8 (fun _ => none) → (∀ p, p < 6 → w1 (20 + p) = iA (xE X) (b5 + 1 + p) 400 (fun _ => 0)) →
      ∀ (t i : Nat) (w2 : RW) (T : Nat → Nat) (h : Nat → Option Nat), i ≤ 8 → 8 - i < t → w2 0 = some (a, .inr (12, [.ref b1, .ref b2, .ref b3, .int 0, .ref b5, .ref b6, .int 0, .ref b8, .int 0, .ref b10, .ref b11, .int 0, .ref b13, .ref b14, .null, .null])) → w2 14 = qA (xE X) 7 b14 8 h → (∀ l, l < i → h l = some (T l)) → (∀ l, l < i → ∃ x y, w2 (30 + l) = tCz (T l) l x y) → (∀ q, q ≠ 14 → ¬ (30 ≤ q ∧ q < 38) → w2 q = w1 q) → GG X w2 (16 + i) (2604 + 3 * i) 112 [some (.ref a), some (.int (nI i))] [] := by
    intro b1 b2 b3 b5 b6 b8 b10 b11 b13 b14 w1 g0 e1 e2 e3 e5 e6 e8 e10 e11 e13 e20 t
    induction t with
    | zero => intro i w2 T h h1 h2; omega
    | succ t ih =>
      intro i w2 T h h1 h2 o0 e14 f14 h30 hk
      refine r_iload_n (pq := 113) C dX11_init_112 rfl rfl ?_
      refine r_bipush (v := nI 8) (pq := 115) C dX11_init_113 (by decide) rfl ?_
      refine rN_icmp_ge (tg := 138) (pq := 118) C dX11_init_115 (by decide) rfl (by omega) (by omega) (fun c115 => ?_) (fun c115 => ?_)
      · have ei : i = 8 := by omega
        subst ei
        refine r_aload_n (pq := 139) C dX11_init_138 rfl rfl ?_
        refine r_sipush (v := nI 400) (pq := 142) C dX11_init_139 (by decide) rfl ?_
        refine r_newa (pq := 144) C (N := 400) (a0 := (400, .inl (fun _ => 0))) 15 0 _ rfl (fun s c1 c2 h g => Option.some.inj (h.symm.trans g)) (by decide +kernel) rfl (fun c => rfl) (nI_pos (by omega)) (nI_clamp (by omega)) (by decide) (by rw [D.2.2.2.1]; omega) (by rw [D.2.2.2.2.1]; omega) dX11_init_142 rfl (fun b15 => ?_)
        refine r_putfF (r := 0) (pq := 147) C D.2.2.1 14 ((va_n _ _ (by decide)).trans o0) rfl tyX11 tyX11_ok nmX11 (by decide) (by decide +kernel) rfl rfl rfl rfl rfl rfl (Nat.le_of_ble_eq_true rfl) dX11_init_144 rfl ?_
        dsimp only [List.set]
        refine r_aload_n (pq := 148) C dX11_init_147 rfl rfl ?_
        refine r_sipush (v := nI 400) (pq := 151) C dX11_init_148 (by decide) rfl ?_
        refine r_newa (pq := 153) C (N := 400) (a0 := (400, .inl (fun _ => 0))) 16 0 _ rfl (fun s c1 c2 h g => Option.some.inj (h.symm.trans g)) (by decide +kernel) rfl (fun c => rfl) (nI_pos (by omega)) (nI_clamp (by omega)) (by decide) (by rw [D.2.2.2.1]; omega) (by rw [D.2.2.2.2.1]; omega) dX11_init_151 rfl (fun b16 => ?_)
        refine r_putfF (r := 0) (pq := 156) C D.2.2.1 15 ((va_n _ _ (by decide)).trans (va_s _ _ _)) rfl tyX11 tyX11_ok nmX11 (by decide) (by decide +kernel) rfl rfl rfl rfl rfl rfl (Nat.le_of_ble_eq_true rfl) dX11_init_153 rfl ?_
        dsimp only [List.set]
        refine r_vret C D rfl ⟨Nat.le_of_ble_eq_true rfl, Nat.le_of_ble_eq_true rfl⟩ dX11_init_156 ?_
        refine ⟨rfl, fun q hq => (va_n _ _ (by omega)).trans ((va_n _ _ (by omega)).trans ((va_n _ _ (by omega)).trans ((va_n _ _ (by omega)).trans ((hk q (by omega) (by omega)).trans (g0 q hq))))), (va_up (va_up (va_up (va_up (va_up (va_up (va_up (va_up (va_up (va_up (va_up (va_up (fun k => if 20 ≤ k ∧ k < 26 then b5 + 1 + (k - 20) else if 30 ≤ k ∧ k < 38 then T (k - 30) else a) 1 b1) 2 b2) 3 b3) 5 b5) 6 b6) 8 b8) 10 b10) 11 b11) 13 b13) 14 b14) 15 b15) 16 b16), rfl, ?_⟩
        have kk : ∀ q, q ≠ 0 → q ≠ 14 → q ≠ 15 → q ≠ 16 → ¬ (30 ≤ q ∧ q < 38) → va_up (va_up (va_up (va_up w2 15 (iA (xE X) b15 400 (fun _ => 0))) 0 (some (a, .inr (12, [.ref b1, .ref b2, .ref b3, .int 0, .ref b5, .ref b6, .int 0, .ref b8, .int 0, .ref b10, .ref b11, .int 0, .ref b13, .ref b14, .ref b15, .null])))) 16 (iA (xE X) b16 400 (fun _ => 0))) 0 (some (a, .inr (12, [.ref b1, .ref b2, .ref b3, .int 0, .ref b5, .ref b6, .int 0, .ref b8, .int 0, .ref b10, .ref b11, .int 0, .ref b13, .ref b14, .ref b15, .ref b16]))) q = w1 q := fun q q0 q1 q2 q3 q4 => (va_n _ _ q0).trans ((va_n _ _ q3).trans ((va_n _ _ q0).trans ((va_n _ _ q2).trans (hk q q1 q4))))
        refine ⟨?_, ⟨_, (kk 1 (by decide) (by decide) (by decide) (by decide) (by decide)).trans e1, fun p hp => absurd hp (Nat.not_lt_zero _)⟩, ⟨_, (kk 2 (by decide) (by decide) (by decide) (by decide) (by decide)).trans e2, fun p hp => absurd hp (Nat.not_lt_zero _)⟩, ⟨_, (kk 3 (by decide) (by decide) (by decide) (by decide) (by decide)).trans e3, fun p hp => ?_⟩, ⟨_, (kk 5 (by decide) (by decide) (by decide) (by decide) (by decide)).trans e5, fun p hp => ?_⟩, ⟨_, (kk 6 (by decide) (by decide) (by decide) (by decide) (by decide)).trans e6, fun p hp => absurd hp (Nat.not_lt_zero _)⟩, ⟨_, (kk 8 (by decide) (by decide) (by decide) (by decide) (by decide)).trans e8, fun p hp => absurd hp (Nat.not_lt_zero _)⟩, ⟨_, (kk 10 (by decide) (by decide) (by decide) (by decide) (by decide)).trans e10, fun l hl => ?_⟩, ⟨_, (kk 11 (by decide) (by decide) (by decide) (by decide) (by decide)).trans e11, fun k hk9 => ?_⟩, ⟨_, (kk 13 (by decide) (by decide) (by decide) (by decide) (by decide)).trans e13, fun d hd => ?_⟩, ⟨_, (va_n _ _ (by decide)).trans ((va_n _ _ (by decide)).trans ((va_n _ _ (by decide)).trans ((va_n _ _ (by decide)).trans e14))), fun l hl => ?_⟩, ⟨_, (va_n _ _ (by decide)).trans ((va_n _ _ (by decide)).trans ((va_n _ _ (by decide)).trans (va_s _ _ _)))⟩, ⟨_, (va_n _ _ (by decide)).trans (va_s _ _ _)⟩, fun p hp => ?_, fun l hl => ?_, fun p hp => absurd hp (Nat.not_lt_zero _), fun p hp => absurd hp (Nat.not_lt_zero _), fun p hp => absurd hp (Nat.not_lt_zero _), fun p hp => absurd hp (Nat.not_lt_zero _), fun d hd h3 => absurd h3 (by rw [z24]; decide), fun d hd h3 => absurd h3 (by rw [z24]; decide)⟩
        · rw [va_s]
          unfold nFs
          rw [tcn_z]
          rfl
        · rw [if_neg (show ¬ p < z0.1 1 from Nat.not_lt_zero _)]
          rfl
        · show (if p < 6 then some (b5 + 1 + p) else none) = _
          rw [if_pos hp]
          rw [va_n _ _ (by omega), va_n _ _ (by omega), va_n _ _ (by omega), va_n _ _ (by omega), va_n _ _ (by omega), va_n _ _ (by omega), va_n _ _ (by omega), va_n _ _ (by omega), va_n _ _ (by omega), va_n _ _ (by omega), va_n _ _ (by omega), va_n _ _ (by omega)]
          rw [if_pos ⟨by omega, by omega⟩, show 20 + p - 20 = p by omega]
        · unfold fil
          rw [if_pos ⟨by omega, hl⟩]
          show _ = nI (zf 22 l)
          unfold zf
          rw [if_pos ⟨rfl, hl⟩]
        · unfold fil
          rw [if_pos ⟨by omega, hk9⟩]
          show _ = zg 23 k
          unfold zg
          rw [if_pos ⟨rfl, hk9⟩]
        · unfold shl
          rw [z24, if_pos rfl]
        · rw [f14 l (by omega)]
          rw [va_n _ _ (by omega), va_n _ _ (by omega), va_n _ _ (by omega), va_n _ _ (by omega), va_n _ _ (by omega), va_n _ _ (by omega), va_n _ _ (by omega), va_n _ _ (by omega), va_n _ _ (by omega), va_n _ _ (by omega), va_n _ _ (by omega), va_n _ _ (by omega)]
          rw [if_neg (by omega), if_pos ⟨by omega, by omega⟩, show 30 + l - 30 = l by omega]
        · refine ⟨fun _ => 0, (kk (20 + p) (by omega) (by omega) (by omega) (by omega) (by omega)).trans ((e20 p hp).trans ?_), fun hp => absurd hp (Nat.not_lt_zero _)⟩
          rw [va_n _ _ (by omega), va_n _ _ (by omega), va_n _ _ (by omega), va_n _ _ (by omega), va_n _ _ (by omega), va_n _ _ (by omega), va_n _ _ (by omega), va_n _ _ (by omega), va_n _ _ (by omega), va_n _ _ (by omega), va_n _ _ (by omega), va_n _ _ (by omega)]
          rw [if_pos ⟨by omega, by omega⟩, show 20 + p - 20 = p by omega]
        · obtain ⟨x, y, q⟩ := h30 l (by omega)
          refine ⟨x, y, (va_n _ _ (by omega)).trans ((va_n _ _ (by omega)).trans ((va_n _ _ (by omega)).trans ((va_n _ _ (by omega)).trans (q.trans ?_))))⟩
          rw [va_n _ _ (by omega), va_n _ _ (by omega), va_n _ _ (by omega), va_n _ _ (by omega), va_n _ _ (by omega), va_n _ _ (by omega), va_n _ _ (by omega), va_n _ _ (by omega), va_n _ _ (by omega), va_n _ _ (by omega), va_n _ _ (by omega), va_n _ _ (by omega)]
          rw [if_neg (by omega), if_pos ⟨by omega, by omega⟩, show 30 + l - 30 = l by omega]
      · skip
        refine r_aload_n (pq := 119) C dX11_init_118 rfl rfl ?_
        refine r_getf (pq := 122) C 13 o0 rfl (by decide) (by decide +kernel) (Or.inl rfl) rfl dX11_init_119 rfl ?_
        refine r_iload_n (pq := 123) C dX11_init_122 rfl rfl ?_
        refine r_new (pq := 126) C (30 + i) (ci := 9) rfl tyX8 tyX8_ok (by decide +kernel) (by decide +kernel) (by decide +kernel) (fs := [.int 0, .int 0, .int 0]) (fun j hj => by rcases (by omega : j = 0 ∨ j = 1 ∨ j = 2) with e | e | e <;> subst e <;> rfl) (by rw [D.2.2.2.1]; omega) (by rw [D.2.2.2.2.1]; omega) dX11_init_123 rfl (fun b9 => ?_)
        refine r_dup (pq := 127) C dX11_init_126 rfl rfl ?_
        refine r_iload_n (pq := 128) C dX11_init_127 rfl rfl ?_
        refine r_callI (pq := 131) C (As := [.int (nI i)]) (mc_X8_init (r := 30 + i) (va_s _ _ _)) gX11_init_X8_init rfl (by decide +kernel) (by decide +kernel) (by decide +kernel) (na := 1) (by decide +kernel) rfl (by decide) (by decide) (Nat.le_of_ble_eq_true rfl) ⟨by rw [D.2.2.2.1]; omega, by rw [D.2.2.2.2.1]; omega⟩ dX11_init_128 rfl rfl (fun r9 w9 hq => ?_)
        obtain ⟨rfl, rfl⟩ := hq
        dsimp only [Option.toList, List.cons_append, List.nil_append]
        rw [up_up]
        refine rN_aast (pq := 132) C 7 rfl ((va_n _ _ (by omega)).trans e14) (any_of C (va_s _ _ _) rfl (Or.inl rfl)) (by omega) (by decide) dX11_init_131 rfl ?_
        refine r_iinc (pq := 135) C dX11_init_132 rfl (nI_succ i).symm (by decide) rfl rfl ?_
        dsimp only [List.set]
        refine r_goto (tg := 112) C dX11_init_135 (by decide) ?_
        rw [show 16 + i + 1 + 0 = 16 + (i + 1) by omega, show 2604 + 3 * i + 3 + 0 = 2604 + 3 * (i + 1) by omega]
        refine ih (i + 1) _ (va_up T i b9) _ (by omega) (by omega) ((va_n _ _ (by decide)).trans ((va_n _ _ (by omega)).trans o0)) (va_s _ _ _) (fun l hl => ?_) (fun l hl => ?_) (fun q h1 h2 => (va_n _ _ h1).trans ((va_n _ _ (by omega)).trans (hk q h1 h2)))
        · by_cases z : l = i
          · rw [z, va_s, va_s]
          · rw [va_n _ _ z, va_n _ _ z]
            exact f14 l (by omega)
        · by_cases z : l = i
          · rw [z, va_s]
            exact ⟨0, 0, (va_n _ _ (by omega)).trans (va_s _ _ _)⟩
          · rw [va_n _ _ z]
            obtain ⟨x, y, q⟩ := h30 l (by omega)
            exact ⟨x, y, (va_n _ _ (by omega)).trans ((va_n _ _ (by omega)).trans q)⟩
  refine r_aload_n (pq := 1) C dX11_init_0 rfl rfl ?_
  refine r_objInit (pq := 4) C (by decide +kernel) (by decide +kernel) (List.mem_cons_of_mem _ (List.mem_append_left _ (List.mem_append_left _ (List.mem_append_left _ (List.mem_of_getElem? (i := 2) rfl))))) (by decide) (Nat.le_of_ble_eq_true rfl) dX11_init_1 rfl ?_
  refine r_aload_n (pq := 5) C dX11_init_4 rfl rfl ?_
  refine r_bipush (v := nI 6) (pq := 7) C dX11_init_5 (by decide) rfl ?_
  refine r_newa (pq := 9) C (N := 6) (a0 := (6, .inl (fun _ => 0))) 1 0 _ rfl (fun s c1 c2 h g => Option.some.inj (h.symm.trans g)) (by decide +kernel) rfl (fun c => rfl) (nI_pos (by omega)) (nI_clamp (by omega)) (by decide) (by rw [D.2.2.2.1]; omega) (by rw [D.2.2.2.2.1]; omega) dX11_init_7 rfl (fun b1 => ?_)
  refine r_putfF (r := 0) (pq := 12) C D.2.2.1 0 ((va_n _ _ (by decide)).trans hr) rfl tyX11 tyX11_ok nmX11 (by decide) (by decide +kernel) rfl rfl rfl rfl rfl rfl (Nat.le_of_ble_eq_true rfl) dX11_init_9 rfl ?_
  dsimp only [List.set]
  refine r_aload_n (pq := 13) C dX11_init_12 rfl rfl ?_
  refine r_bipush (v := nI 6) (pq := 15) C dX11_init_13 (by decide) rfl ?_
  refine r_newa (pq := 17) C (N := 6) (a0 := (6, .inl (fun _ => 0))) 2 0 _ rfl (fun s c1 c2 h g => Option.some.inj (h.symm.trans g)) (by decide +kernel) rfl (fun c => rfl) (nI_pos (by omega)) (nI_clamp (by omega)) (by decide) (by rw [D.2.2.2.1]; omega) (by rw [D.2.2.2.2.1]; omega) dX11_init_15 rfl (fun b2 => ?_)
  refine r_putfF (r := 0) (pq := 20) C D.2.2.1 1 rfl rfl tyX11 tyX11_ok nmX11 (by decide) (by decide +kernel) rfl rfl rfl rfl rfl rfl (Nat.le_of_ble_eq_true rfl) dX11_init_17 rfl ?_
  dsimp only [List.set]
  refine r_aload_n (pq := 21) C dX11_init_20 rfl rfl ?_
  refine r_bipush (v := nI 6) (pq := 23) C dX11_init_21 (by decide) rfl ?_
  refine r_newa (pq := 25) C (N := 6) (a0 := (6, .inl (fun _ => 0))) 3 1 _ rfl (fun s c1 c2 h g => Option.some.inj (h.symm.trans g)) (by decide +kernel) rfl (fun c => rfl) (nI_pos (by omega)) (nI_clamp (by omega)) (by decide) (by rw [D.2.2.2.1]; omega) (by rw [D.2.2.2.2.1]; omega) dX11_init_23 rfl (fun b3 => ?_)
  refine r_putfF (r := 0) (pq := 28) C D.2.2.1 2 rfl rfl tyX11 tyX11_ok nmX11 (by decide) (by decide +kernel) rfl rfl rfl rfl rfl rfl (Nat.le_of_ble_eq_true rfl) dX11_init_25 rfl ?_
  dsimp only [List.set]
  refine r_aload_n (pq := 29) C dX11_init_28 rfl rfl ?_
  refine r_bipush (v := nI 6) (pq := 31) C dX11_init_29 (by decide) rfl ?_
  refine r_sipush (v := nI 400) (pq := 34) C dX11_init_31 (by decide) rfl ?_
  refine r_mna (pq := 38) C hao 5 20 (by decide +kernel) (by decide +kernel) (by decide) (by decide) (by rw [D.2.2.2.1]; omega) (by rw [D.2.2.2.2.1]; omega) dX11_init_34 rfl (fun b5 => ?_)
  refine r_putfF (r := 0) (pq := 41) C D.2.2.1 4 rfl rfl tyX11 tyX11_ok nmX11 (by decide) (by decide +kernel) rfl rfl rfl rfl rfl rfl (Nat.le_of_ble_eq_true rfl) dX11_init_38 rfl ?_
  dsimp only [List.set]
  refine r_aload_n (pq := 42) C dX11_init_41 rfl rfl ?_
  refine r_bipush (v := nI 80) (pq := 44) C dX11_init_42 (by decide) rfl ?_
  refine r_newqA (pq := 47) C hao (N := 80) 6 4 _ rfl (by decide +kernel) (by decide) (nI_pos (by omega)) (nI_clamp (by omega)) (by decide) (by rw [D.2.2.2.1]; omega) (by rw [D.2.2.2.2.1]; omega) dX11_init_44 rfl (fun b6 => ?_)
  refine r_putfF (r := 0) (pq := 50) C D.2.2.1 5 rfl rfl tyX11 tyX11_ok nmX11 (by decide) (by decide +kernel) rfl rfl rfl rfl rfl rfl (Nat.le_of_ble_eq_true rfl) dX11_init_47 rfl ?_
  dsimp only [List.set]
  refine r_aload_n (pq := 51) C dX11_init_50 rfl rfl ?_
  refine r_bipush (v := nI 12) (pq := 53) C dX11_init_51 (by decide) rfl ?_
  refine r_newqA (pq := 56) C hao (N := 12) 8 5 _ rfl (by decide +kernel) (by decide) (nI_pos (by omega)) (nI_clamp (by omega)) (by decide) (by rw [D.2.2.2.1]; omega) (by rw [D.2.2.2.2.1]; omega) dX11_init_53 rfl (fun b8 => ?_)
  refine r_putfF (r := 0) (pq := 59) C D.2.2.1 7 rfl rfl tyX11 tyX11_ok nmX11 (by decide) (by decide +kernel) rfl rfl rfl rfl rfl rfl (Nat.le_of_ble_eq_true rfl) dX11_init_56 rfl ?_
  dsimp only [List.set]
  refine r_aload_n (pq := 60) C dX11_init_59 rfl rfl ?_
  refine r_bipush (v := nI 8) (pq := 62) C dX11_init_60 (by decide) rfl ?_
  refine r_newa (pq := 64) C (N := 8) (a0 := (8, .inl (fun _ => 0))) 10 0 _ rfl (fun s c1 c2 h g => Option.some.inj (h.symm.trans g)) (by decide +kernel) rfl (fun c => rfl) (nI_pos (by omega)) (nI_clamp (by omega)) (by decide) (by rw [D.2.2.2.1]; omega) (by rw [D.2.2.2.2.1]; omega) dX11_init_62 rfl (fun b10 => ?_)
  refine r_putfF (r := 0) (pq := 67) C D.2.2.1 9 rfl rfl tyX11 tyX11_ok nmX11 (by decide) (by decide +kernel) rfl rfl rfl rfl rfl rfl (Nat.le_of_ble_eq_true rfl) dX11_init_64 rfl ?_
  dsimp only [List.set]
  refine r_aload_n (pq := 68) C dX11_init_67 rfl rfl ?_
  refine r_getf (r := 0) (pq := 71) C 9 rfl rfl (by decide) (by decide +kernel) (Or.inl rfl) rfl dX11_init_68 rfl ?_
  refine r_bipush (v := nI 51) (pq := 73) C dX11_init_71 (by decide) rfl ?_
  refine r_callS (pq := 76) C (mc_J7_fill_53178 (r := 10) (by decide) rfl) gX11_init_J7_fill_53178 rfl (na := 2) (by decide +kernel) rfl (by decide) (by decide) (Nat.le_of_ble_eq_true rfl) ⟨by rw [D.2.2.2.1]; omega, by rw [D.2.2.2.2.1]; omega⟩ dX11_init_73 rfl rfl (fun r9 w9 hq => ?_)
  obtain ⟨rfl, rfl⟩ := hq
  dsimp only [Option.toList, List.cons_append, List.nil_append]
  refine r_aload_n (pq := 77) C dX11_init_76 rfl rfl ?_
  refine r_bipush (v := nI 64) (pq := 79) C dX11_init_77 (by decide) rfl ?_
  refine r_newa (pq := 81) C (N := 64) (a0 := (64, .inl (fun _ => 0))) 11 0 _ rfl (fun s c1 c2 h g => Option.some.inj (h.symm.trans g)) (by decide +kernel) rfl (fun c => rfl) (nI_pos (by omega)) (nI_clamp (by omega)) (by decide) (by rw [D.2.2.2.1]; omega) (by rw [D.2.2.2.2.1]; omega) dX11_init_79 rfl (fun b11 => ?_)
  refine r_putfF (r := 0) (pq := 84) C D.2.2.1 10 rfl rfl tyX11 tyX11_ok nmX11 (by decide) (by decide +kernel) rfl rfl rfl rfl rfl rfl (Nat.le_of_ble_eq_true rfl) dX11_init_81 rfl ?_
  dsimp only [List.set]
  refine r_aload_n (pq := 85) C dX11_init_84 rfl rfl ?_
  refine r_getf (r := 0) (pq := 88) C 10 rfl rfl (by decide) (by decide +kernel) (Or.inl rfl) rfl dX11_init_85 rfl ?_
  refine r_iconst (v := -1) (pq := 89) C dX11_init_88 (by decide) rfl ?_
  refine r_callS (pq := 92) C (mc_J7_fill_53178 (r := 11) (by decide) rfl) gX11_init_J7_fill_53178 rfl (na := 2) (by decide +kernel) rfl (by decide) (by decide) (Nat.le_of_ble_eq_true rfl) ⟨by rw [D.2.2.2.1]; omega, by rw [D.2.2.2.2.1]; omega⟩ dX11_init_89 rfl rfl (fun r9 w9 hq => ?_)
  obtain ⟨rfl, rfl⟩ := hq
  dsimp only [Option.toList, List.cons_append, List.nil_append]
  refine r_aload_n (pq := 93) C dX11_init_92 rfl rfl ?_
  refine r_bipush (v := nI 8) (pq := 95) C dX11_init_93 (by decide) rfl ?_
  refine r_newqA (pq := 98) C hao (N := 8) 13 6 _ rfl (by decide +kernel) (by decide) (nI_pos (by omega)) (nI_clamp (by omega)) (by decide) (by rw [D.2.2.2.1]; omega) (by rw [D.2.2.2.2.1]; omega) dX11_init_95 rfl (fun b13 => ?_)
  refine r_putfF (r := 0) (pq := 101) C D.2.2.1 12 rfl rfl tyX11 tyX11_ok nmX11 (by decide) (by decide +kernel) rfl rfl rfl rfl rfl rfl (Nat.le_of_ble_eq_true rfl) dX11_init_98 rfl ?_
  dsimp only [List.set]
  refine r_aload_n (pq := 102) C dX11_init_101 rfl rfl ?_
  refine r_bipush (v := nI 8) (pq := 104) C dX11_init_102 (by decide) rfl ?_
  refine r_newqA (pq := 107) C hao (N := 8) 14 7 _ rfl (by decide +kernel) (by decide) (nI_pos (by omega)) (nI_clamp (by omega)) (by decide) (by rw [D.2.2.2.1]; omega) (by rw [D.2.2.2.2.1]; omega) dX11_init_104 rfl (fun b14 => ?_)
  refine r_putfF (r := 0) (pq := 110) C D.2.2.1 13 rfl rfl tyX11 tyX11_ok nmX11 (by decide) (by decide +kernel) rfl rfl rfl rfl rfl rfl (Nat.le_of_ble_eq_true rfl) dX11_init_107 rfl ?_
  dsimp only [List.set]
  refine r_iconst (v := nI 0) (pq := 111) C dX11_init_110 (by decide) rfl ?_
  refine r_istore_n (j := 1) (pq := 112) C dX11_init_111 rfl (by decide) rfl rfl ?_
  dsimp only [List.set]
  refine loop b1 b2 b3 b5 b6 b8 b10 b11 b13 b14 _ (fun q hq => ?_) rfl rfl rfl rfl rfl rfl rfl rfl rfl (fun p hp => ?_) 9 0 _ (fun _ => 0) (fun _ => none) (by omega) (by omega) rfl rfl (fun l hl => absurd hl (Nat.not_lt_zero _)) (fun l hl => absurd hl (Nat.not_lt_zero _)) (fun q _ _ => rfl)
  · simp only [va_up, mnaW]
    repeat (first | rw [if_neg (show ¬ q = _ by omega)] | rw [if_neg (show ¬ (20 ≤ q ∧ q < 20 + 6) by omega)])
  · rcases (by omega : p = 0 ∨ p = 1 ∨ p = 2 ∨ p = 3 ∨ p = 4 ∨ p = 5) with e | e | e | e | e | e <;> subst e <;> rfl


/-! ===== the law's start ===== -/
theorem arr_prim {args : Array Value} {s : State} {ty : FieldType} (h : (Cond.arrayClass ty).before args s = true) : ∃ c : ClassId, ArrOfT s c ty ∧ s.vm.findClass ("[" ++ ty.toString) = some c := by
  obtain ⟨c, k, comp, h1, h2, h3⟩ := Cond.arrayClass_spec h
  exact ⟨c, fun N z => ⟨(fun k h => by cases h), k, h2, comp, h3⟩, h1⟩
theorem arr_obj {args : Array Value} {s : State} {C : String} (h : (Cond.arrayOver (.object C)).before args s = true) : ∃ c : ClassId, ArrOfT s c (.object C) ∧ va_RA s c (.object C) := by
  obtain ⟨comp, c, k, h1, h2, h3, h4, h5⟩ := Cond.arrayOver_spec h
  exact ⟨c, fun N z => ⟨(fun k h => by cases h), k, h3, comp, h4⟩, k, comp, h3, h4, h1, h5⟩
theorem arr_arr {args : Array Value} {s : State} {t : FieldType} (h : (Cond.arrayOver (.array t)).before args s = true) : ∃ c : ClassId, ArrOfT s c (.array t) ∧ va_RA s c (.array t) := by
  obtain ⟨comp, c, k, h1, h2, h3, h4⟩ := Cond.arrayOver_specA h
  exact ⟨c, fun N z => ⟨(fun k h => by cases h), k, h2, comp, h3⟩, h4⟩
theorem str_start {args : Array Value} {s : State} {own tx : String} {k : Nat} {cur : ClassId} (hc : s.vm.findClass own = some cur) (h : (Cond.stringRef own k tx).before args s = true) : ∃ sa, vk_R own k tx sa s := by
  obtain ⟨_, _, _, a, _, _, _, _, _, h6⟩ := Cond.stringRef_spec hc h
  exact ⟨a, vk_R.of h h6⟩
theorem nw_start {args : Array Value} {s : State} {w : Cond} (ho : w.onTables = true) (h : w.before args s = true) : va_Nw w s := va_tabs ho rfl h
set_option maxRecDepth 20000 in
theorem lwi_wsJ00 : ∀ w ∈ wsJ00, w ∈ lw_tbl := fun w h => (goodIn_r (big := lw_tbl) wsJ00 [534, 536, 538, 540] rfl (by decide +kernel) w h).1

theorem lays_all : ∀ (c : Nat) (q : vw_C), vwCl[c]? = some q → ∀ w ∈ u_ws q.1 q.2.1 q.2.2, w ∈ lw_tbl := by
  intro c q hq
  match c, hq with
  | 0, hq => cases hq; exact lwi_wsJ00
  | 1, hq => cases hq; exact lwi_wsJ40
  | 2, hq => cases hq; exact lwi_wsX00
  | 3, hq => cases hq; exact lwi_wsX10
  | 4, hq => cases hq; exact lwi_wsX30
  | 5, hq => cases hq; exact lwi_wsX40
  | 6, hq => cases hq; exact lwi_wsX50
  | 7, hq => cases hq; exact lwi_wsX60
  | 8, hq => cases hq; exact lwi_wsX70
  | 9, hq => cases hq; exact lwi_wsX80
  | 10, hq => cases hq; exact lwi_wsX90
  | 11, hq => cases hq; exact lwi_wsX100
  | 12, hq => cases hq; exact lwi_wsX110
  | 13, hq => cases hq; exact lwi_wsX120
  | c + 14, hq => simp at hq

set_option maxHeartbeats 4000000 in
set_option maxRecDepth 100000 in
theorem env_start {s : State} {b : Nat} (hts : ∀ w ∈ lw_tbl, w.before #[Value.ref b] s = true) (hgv : (Jvm.Cond.and given_1 narrow_1).before #[Value.ref b] s = true) : ∃ E : EV, E.2.2 = s.heap.size ∧ eK E s ∧ AO s := by
  have hf := flat_of_before _ hgv
  obtain ⟨c0, i0, hK0⟩ := u_known (C := RJ0) (T := TJ0) (N := 4) (n := 4) hts lwi_wsJ00 (hts (.instantiable RJ0 4) (List.mem_of_getElem? (i := 462) rfl))
  obtain ⟨c1, i1, hK1⟩ := u_known (C := RJ4) (T := TJ4) (N := 4) (n := 4) hts lwi_wsJ40 (hts (.instantiable RJ4 4) (List.mem_of_getElem? (i := 278) rfl))
  obtain ⟨c2, i2, hK2⟩ := u_known (C := RX0) (T := TX0) (N := 6) (n := 6) hts lwi_wsX00 (hts (.instantiable RX0 6) (List.mem_of_getElem? (i := 726) rfl))
  obtain ⟨c3, i3, hK3⟩ := u_known (C := RX1) (T := TX1) (N := 6) (n := 6) hts lwi_wsX10 (hts (.instantiable RX1 6) (List.mem_of_getElem? (i := 580) rfl))
  obtain ⟨c4, i4, hK4⟩ := u_known (C := RX3) (T := TX3) (N := 6) (n := 6) hts lwi_wsX30 (hts (.instantiable RX3 6) (List.mem_of_getElem? (i := 713) rfl))
  obtain ⟨c5, i5, hK5⟩ := u_known (C := RX4) (T := TX4) (N := 2) (n := 2) hts lwi_wsX40 (hts (.instantiable RX4 2) (List.mem_of_getElem? (i := 941) rfl))
  obtain ⟨c6, i6, hK6⟩ := u_known (C := RX5) (T := TX5) (N := 6) (n := 6) hts lwi_wsX50 (hts (.instantiable RX5 6) (List.mem_of_getElem? (i := 192) rfl))
  obtain ⟨c7, i7, hK7⟩ := u_known (C := RX6) (T := TX6) (N := 6) (n := 6) hts lwi_wsX60 (hts (.instantiable RX6 6) (List.mem_of_getElem? (i := 594) rfl))
  obtain ⟨c8, i8, hK8⟩ := u_known (C := RX7) (T := TX7) (N := 6) (n := 6) hts lwi_wsX70 (hts (.instantiable RX7 6) (List.mem_of_getElem? (i := 675) rfl))
  obtain ⟨c9, i9, hK9⟩ := u_known (C := RX8) (T := TX8) (N := 3) (n := 3) hts lwi_wsX80 (hts (.instantiable RX8 3) (List.mem_of_getElem? (i := 97) rfl))
  obtain ⟨c10, i10, hK10⟩ := u_known (C := RX9) (T := TX9) (N := 6) (n := 6) hts lwi_wsX90 (hts (.instantiable RX9 6) (List.mem_of_getElem? (i := 738) rfl))
  obtain ⟨c11, i11, hK11⟩ := u_known (C := RX10) (T := TX10) (N := 6) (n := 6) hts lwi_wsX100 (hts (.instantiable RX10 6) (List.mem_of_getElem? (i := 564) rfl))
  obtain ⟨c12, i12, hK12⟩ := u_known (C := RX11) (T := TX11) (N := 16) (n := 16) hts lwi_wsX110 (hts (.instantiable RX11 16) (List.mem_of_getElem? (i := 77) rfl))
  obtain ⟨c13, i13, hK13⟩ := u_known (C := RX12) (T := TX12) (N := 28) (n := 28) hts lwi_wsX120 (hts (.instantiable RX12 28) (List.mem_of_getElem? (i := 1109) rfl))
  obtain ⟨a0, hA0, hB0⟩ := arr_prim (hts (.arrayClass .int) (List.mem_of_getElem? (i := 120) rfl))
  obtain ⟨a1, hA1, hB1⟩ := arr_prim (hts (.arrayClass .boolean) (List.mem_of_getElem? (i := 121) rfl))
  obtain ⟨a2, hA2, hB2⟩ := arr_prim (hts (.arrayClass .short) (List.mem_of_getElem? (i := 956) rfl))
  obtain ⟨a3, hA3, hB3⟩ := arr_prim (hts (.arrayClass .long) (List.mem_of_getElem? (i := 1431) rfl))
  obtain ⟨a4, hA4, hB4⟩ := arr_obj (hts (.arrayOver (.object "NightBook$Span")) (List.mem_of_getElem? (i := 87) rfl))
  obtain ⟨a5, hA5, hB5⟩ := arr_obj (hts (.arrayOver (.object "NightBook$Window")) (List.mem_of_getElem? (i := 89) rfl))
  obtain ⟨a6, hA6, hB6⟩ := arr_obj (hts (.arrayOver (.object "NightBook$Held")) (List.mem_of_getElem? (i := 94) rfl))
  obtain ⟨a7, hA7, hB7⟩ := arr_obj (hts (.arrayOver (.object "NightBook$Tally")) (List.mem_of_getElem? (i := 96) rfl))
  obtain ⟨a8, hA8, hB8⟩ := arr_arr (hts (.arrayOver (.array .int)) (List.mem_of_getElem? (i := 85) rfl))
  have hao : AO s := by
    intro ty ht
    simp only [aoL, List.mem_cons, List.not_mem_nil, or_false] at ht
    rcases ht with rfl | rfl | rfl | rfl | rfl
    · exact hts (.arrayOver (.array .int)) (List.mem_of_getElem? (i := 85) rfl)
    · exact hts (.arrayOver (.object "NightBook$Span")) (List.mem_of_getElem? (i := 87) rfl)
    · exact hts (.arrayOver (.object "NightBook$Window")) (List.mem_of_getElem? (i := 89) rfl)
    · exact hts (.arrayOver (.object "NightBook$Held")) (List.mem_of_getElem? (i := 94) rfl)
    · exact hts (.arrayOver (.object "NightBook$Tally")) (List.mem_of_getElem? (i := 96) rfl)
  refine ⟨((fun k => ([c0, c1, c2, c3, c4, c5, c6, c7, c8, c9, c10, c11, c12, c13]).getD k c0, fun k => ([i0, i1, i2, i3, i4, i5, i6, i7, i8, i9, i10, i11, i12, i13]).getD k i0), fun k => ([a0, a1, a2, a3, a4, a5, a6, a7, a8]).getD k a0, s.heap.size), rfl, ⟨⟨?_, ?_⟩, ?_, ?_, ?_, ?_⟩, hao⟩
  · intro c q hq
    match c, hq with
    | 0, hq => cases hq; exact hK0
    | 1, hq => cases hq; exact hK1
    | 2, hq => cases hq; exact hK2
    | 3, hq => cases hq; exact hK3
    | 4, hq => cases hq; exact hK4
    | 5, hq => cases hq; exact hK5
    | 6, hq => cases hq; exact hK6
    | 7, hq => cases hq; exact hK7
    | 8, hq => cases hq; exact hK8
    | 9, hq => cases hq; exact hK9
    | 10, hq => cases hq; exact hK10
    | 11, hq => cases hq; exact hK11
    | 12, hq => cases hq; exact hK12
    | 13, hq => cases hq; exact hK13
    | c + 14, hq => simp at hq
  · intro k q hq
    match k, hq with
    | 0, hq => cases hq; exact ⟨hA0, hB0⟩
    | 1, hq => cases hq; exact ⟨hA1, hB1⟩
    | 2, hq => cases hq; exact ⟨hA2, hB2⟩
    | 3, hq => cases hq; exact ⟨hA3, hB3⟩
    | 4, hq => cases hq; exact ⟨hA4, hB4⟩
    | 5, hq => cases hq; exact ⟨hA5, hB5⟩
    | 6, hq => cases hq; exact ⟨hA6, hB6⟩
    | 7, hq => cases hq; exact ⟨hA7, hB7⟩
    | 8, hq => cases hq; exact ⟨hA8, hB8⟩
    | k + 9, hq => simp [eT] at hq
  · intro c q hq k hk
    exact word_at (State.WarmedH.refl s) (Or.inl (u_lay_good _ _ _)) (hts _ (lays_all c q hq _ (List.mem_map.mpr ⟨k, List.mem_range.mpr hk, rfl⟩)))
  · intro C hC
    simp only [List.mem_cons, List.not_mem_nil, or_false] at hC
    rcases hC with rfl | rfl | rfl | rfl | rfl | rfl | rfl | rfl
    · exact va_Nc.of (hf (.not (.castable RX0 RX4)) (by decide +kernel))
    · exact va_Nc.of (hf (.not (.castable RX1 RX4)) (by decide +kernel))
    · exact va_Nc.of (hf (.not (.castable RX3 RX4)) (by decide +kernel))
    · exact va_Nc.of (hf (.not (.castable RX5 RX4)) (by decide +kernel))
    · exact va_Nc.of (hf (.not (.castable RX6 RX4)) (by decide +kernel))
    · exact va_Nc.of (hf (.not (.castable RX7 RX4)) (by decide +kernel))
    · exact va_Nc.of (hf (.not (.castable RX9 RX4)) (by decide +kernel))
    · exact va_Nc.of (hf (.not (.castable RX10 RX4)) (by decide +kernel))
  · refine ⟨?_, nw_start rfl (hts (.declares ⟨"NightBook$Held", "heft", "()I"⟩) (List.mem_of_getElem? (i := 982) rfl)), ?_, ?_, ?_, va_Nc.of (hf (.not (.castable "java/lang/IllegalStateException" "java/lang/IllegalArgumentException")) (by decide +kernel))⟩
    · intro c hc
      simp only [List.mem_cons, List.not_mem_nil, or_false] at hc
      rcases hc with rfl | rfl | rfl
      · exact nw_start rfl (hts (.methodLinkNest RX5 3 yX2_init "NightBook") (List.mem_of_getElem? (i := 196) rfl))
      · exact nw_start rfl (hts (.methodLinkNest RX9 3 yX2_init "NightBook") (List.mem_of_getElem? (i := 682) rfl))
      · exact nw_start rfl (hts (.methodLinkNest RX4 3 yX2_init "NightBook") (List.mem_of_getElem? (i := 945) rfl))
    · intro q hq
      simp only [eCs, List.mem_cons, List.not_mem_nil, or_false] at hq
      rcases hq with rfl | rfl | rfl | rfl | rfl | rfl | rfl | rfl | rfl | rfl | rfl | rfl | rfl | rfl | rfl | rfl | rfl
      · exact nw_start rfl (hts _ (List.mem_of_getElem? (i := 1446) rfl))
      · exact nw_start rfl (hts _ (List.mem_of_getElem? (i := 1447) rfl))
      · exact nw_start rfl (hts _ (List.mem_of_getElem? (i := 1445) rfl))
      · exact nw_start rfl (hts _ (List.mem_of_getElem? (i := 1448) rfl))
      · exact nw_start rfl (hts _ (List.mem_of_getElem? (i := 1449) rfl))
      · exact nw_start rfl (hts _ (List.mem_of_getElem? (i := 1450) rfl))
      · exact nw_start rfl (hts _ (List.mem_of_getElem? (i := 1451) rfl))
      · exact nw_start rfl (hts _ (List.mem_of_getElem? (i := 1453) rfl))
      · exact nw_start rfl (hts _ (List.mem_of_getElem? (i := 1454) rfl))
      · exact nw_start rfl (hts _ (List.mem_of_getElem? (i := 1452) rfl))
      · exact nw_start rfl (hts _ (List.mem_of_getElem? (i := 1458) rfl))
      · exact nw_start rfl (hts _ (List.mem_of_getElem? (i := 1455) rfl))
      · exact nw_start rfl (hts _ (List.mem_of_getElem? (i := 1456) rfl))
      · exact nw_start rfl (hts _ (List.mem_of_getElem? (i := 1457) rfl))
      · exact nw_start rfl (hts _ (List.mem_of_getElem? (i := 1459) rfl))
      · exact nw_start rfl (hts _ (List.mem_of_getElem? (i := 1044) rfl))
      · exact nw_start rfl (hts _ (List.mem_of_getElem? (i := 239) rfl))
    · intro q hq
      simp only [eSt, List.mem_cons, List.not_mem_nil, or_false] at hq
      rcases hq with rfl | rfl | rfl | rfl | rfl
      · exact str_start hK12.2.1 (hts (.stringRef RX11 293 "no such shelf") (List.mem_of_getElem? (i := 1103) rfl))
      · exact str_start hK12.2.1 (hts (.stringRef RX11 304 "no row is held") (List.mem_of_getElem? (i := 1105) rfl))
      · exact str_start hK12.2.1 (hts (.stringRef RX11 311 "no such place") (List.mem_of_getElem? (i := 1107) rfl))
      · exact str_start hK6.2.1 (hts (.stringRef RX5 29 "a mark fails") (List.mem_of_getElem? (i := 1062) rfl))
      · exact str_start hK10.2.1 (hts (.stringRef RX9 56 "a law fails") (List.mem_of_getElem? (i := 1051) rfl))
    · intro c hc
      simp only [eDl, List.mem_cons, List.not_mem_nil, or_false] at hc
      rcases hc with rfl | rfl | rfl
      · exact nw_start rfl (hts _ (List.mem_of_getElem? (i := 241) rfl))
      · exact nw_start rfl (hts _ (List.mem_of_getElem? (i := 243) rfl))
      · exact nw_start rfl (hts _ (List.mem_of_getElem? (i := 245) rfl))
  · refine ⟨vx_Zqof (hts (.laysStatic Bundle.tN "UNASSIGNED_STACK" Bundle.steD) (List.mem_of_getElem? (i := 264) rfl)) (hts (.initialized Bundle.tN) (List.mem_of_getElem? (i := 53) rfl)) (hf (.isRef (.static Bundle.tN "UNASSIGNED_STACK" Bundle.steD)) (by decide +kernel)) (fun a ha => by show ¬ s.heap.size ≤ a; omega), vx_Zqof (hts (.laysStatic Bundle.tN "SUPPRESSED_SENTINEL" Bundle.listD) (List.mem_of_getElem? (i := 266) rfl)) (hts (.initialized Bundle.tN) (List.mem_of_getElem? (i := 53) rfl)) (hf (.isRef (.static Bundle.tN "SUPPRESSED_SENTINEL" Bundle.listD)) (by decide +kernel)) (fun a ha => by show ¬ s.heap.size ≤ a; omega)⟩
theorem SI_z : SI z0 := by
  have hz : ∀ k i, zf k i = 0 ∨ zf k i = 51 := fun k i => by
    unfold zf
    split
    · exact Or.inr rfl
    · exact Or.inl rfl
  refine ⟨⟨fun j => by show 0 < 1000000; decide, fun k i => by have := hz k i; show zf k i < 1000000; omega⟩, by show 0 ≤ 6; decide, by show 0 ≤ 80; decide, by show 0 ≤ 12; decide, fun p hp => absurd hp (Nat.not_lt_zero _), fun p hp => absurd hp (Nat.not_lt_zero _), fun p hp => absurd hp (Nat.not_lt_zero _), fun l hl => ?_, fun k hk => Or.inl ?_, fun d hd => ?_, fun p hp => absurd hp (Nat.not_lt_zero _)⟩
  · show 1 ≤ zf 22 l ∧ zf 22 l ≤ 100
    unfold zf
    rw [if_pos ⟨rfl, hl⟩]
    decide
  · show zg 23 k = -1
    unfold zg
    rw [if_pos ⟨rfl, hk⟩]
  · have h24 := z24 d
    have h26 : z0.2.1 26 d = 0 := by
      show zf 26 d = 0
      unfold zf
      rw [if_neg (fun h => absurd h.1 (by decide))]
    rw [h24, h26]
    exact ⟨by decide, fun h => absurd h (by decide), fun h => absurd h (by decide), by decide⟩
theorem W.fresh {p : Program} {l : Launch} {e : Env} {R : Room} {s : State} {m : MethodId} {args : Array Value} {below : List Frame} {meth : Method} {c : Code} {H : Heap} {locs : List Loc} {k n : Nat} {Q : State → Prop} {g : JFrame} (hz : ∀ z ∈ locs, s.heap.size ≤ z.base) (kk : W p l e R s m args below meth c H [] k n Q g) : W p l e R s m args below meth c H locs k n Q g :=
  fun T hT X => kk T hT (Stand.dropFresh (locs := []) (J := locs) X hz)

/-! THE CLAIM OUT OF ONE WALK OF THE LAW'S BODY. Your part is whole_start (and what it stands on); all else here is the same for every law, but numbers. -/
def R_law : String := "NightBookLaw"
def lw_P (b : Addr) (xs : List Int32) (args : Array Value) (s : State) : Prop := args = #[.ref b] ∧ s.IntsAt b xs ∧ xs.length ≤ 3072 ∧ (Jvm.Cond.and given_1 narrow_1).before args s = true
def lw_Q (_ : Array Value) (s : State) (o : Outcome) (t : State) : Prop := o = .returned (some (.int 1)) ∧ Framed s o t [] 601024 7293034
def lw_Z (below : List Frame) (a : Array Value) (s : State) : State → Prop := fun t => ∃ o, t.status = .running ∧ Ended t below o ∧ lw_Q a s o t
/-- the law's own end, with 1 on the stack, nothing written that was there before, its room as the claim has it -/
theorem lw_ret {p : Program} {l : Launch} {e : Env} {s : State} {m : MethodId} {below : List Frame} {meth : Method} {c : Code} {b : Nat} (hx : p.tables.exec = Jvm.exec) (hb : c.code = code) (hr : meth.sig.returnType = ret) (hlocks : meth.locks = false) {pc : Nat} {H : Heap} {ls : Array Slot} (hdg : decode code pc = .ok (.ireturn, 1)) : W p l e room_1 s m #[Value.ref b] below meth c H [] 601024 7293034 (lw_Z below #[Value.ref b] s) (F0 m pc ls [.int 1]) := by
  intro T hT X
  obtain ⟨fs, hret, hrun, hended, hW, hframe⟩ := X.leave (v := some (.int 1)) (hlocks := hlocks) (fun h => by rw [hr] at h; cases h)
  have hmeth' : T.vm.method? m = some meth := X.method'
  refine ⟨T.setFrames fs, ?_, .returned (some (.int 1)), hrun, hended, rfl, ⟨_, rfl⟩, hW, hframe⟩
  jvm_step X.here [X.here.top, hx, hb, hdg, hmeth', hr, ret, narrow_b1]
  (try refine ⟨rfl, ?_⟩); (try refine ⟨rfl, ?_⟩)
  first | (intro acts; rw [hret _ acts rfl rfl rfl]) | rw [hret _ _ rfl rfl rfl]
  exact Steps.refl _
/-- what holds at the law's entry: the machine, the code, the tables' words (any of lw_tbl by 'hts w (by decide +kernel)'), the script of L ints xs at the cell b, what the Statement gives of the start (any of its parts by flat_of_before) -/
def lw_At (p : Program) (s : State) (m : MethodId) (meth : Method) (c : Code) (b L : Nat) (xs : Nat → Int32) : Prop :=
  p.tables.exec = Jvm.exec ∧ c.code = code ∧ meth.sig.returnType = ret ∧ c.maxLocals = 8 ∧ s.vm.findClass R_law = some m.cls ∧ (∀ w ∈ lw_tbl, w.before #[Value.ref b] s = true) ∧ va_X b L xs s s.heap ∧ b < s.heap.size ∧ meth.locks = false ∧ (Jvm.Cond.and given_1 narrow_1).before #[Value.ref b] s = true
set_option maxHeartbeats 4000000 in
set_option maxRecDepth 100000 in
theorem law_start {X : XX} {b L : Nat} {xv : Nat → Int32} (C : C0 X RL cL_law wsL_law 9 8) (S : LW X b L xv) (hao : AO (xs X)) (K9 : ∀ (w : RW) (k n : Nat) (lv : List (Option Value)), k ≤ 601024 → n ≤ 7293034 → GG X w k n 1609 lv []) : GG X (fun _ => none) 0 0 0 [some (.ref b), none, none, none, none, none, none, none] [] := by
  have mR1 : ∀ c ∈ wsL_law0_r1, c ∈ wsL_law := fun c h => List.mem_append_left _ (List.mem_append_left _ (List.mem_append_left _ (List.mem_append_left _ (by
    unfold wsL_law0
    iterate 14 (refine List.mem_append_left _ ?_)
    exact List.mem_append_left _ h))))
  have mR2 : ∀ c ∈ wsL_law0_r2, c ∈ wsL_law := fun c h => List.mem_append_left _ (List.mem_append_left _ (List.mem_append_left _ (List.mem_append_left _ (by
    unfold wsL_law0
    iterate 14 (refine List.mem_append_left _ ?_)
    refine List.mem_append_right _ ?_
    exact List.mem_append_left _ h))))
  refine r_new (pq := 3) C 0 (ci := 12) rfl tyX11 tyX11_ok (mR1 _ (by decide +kernel)) (mR1 _ (by decide +kernel)) (mR1 _ (by decide +kernel)) (fs := [.null, .null, .null, .int 0, .null, .null, .int 0, .null, .int 0, .null, .null, .int 0, .null, .null, .null, .null]) (fun j hj => by rcases (by omega : j = 0 ∨ j = 1 ∨ j = 2 ∨ j = 3 ∨ j = 4 ∨ j = 5 ∨ j = 6 ∨ j = 7 ∨ j = 8 ∨ j = 9 ∨ j = 10 ∨ j = 11 ∨ j = 12 ∨ j = 13 ∨ j = 14 ∨ j = 15) with e | e | e | e | e | e | e | e | e | e | e | e | e | e | e | e <;> subst e <;> rfl) (by rw [S.2.2.2.2.2.1]; omega) (by rw [S.2.2.2.2.2.2]; omega) dL_law_0 rfl (fun bx => ?_)
  refine r_dup (pq := 4) C dL_law_3 rfl rfl ?_
  refine r_callIA (pq := 7) C hao (As := []) (mc_X11_init (va_s _ _ _)) gL_law_X11_init rfl (mR1 _ (by decide +kernel)) (mR1 _ (by decide +kernel)) (mR1 _ (by decide +kernel)) (na := 0) (by decide +kernel) rfl (by decide) (by decide) (Nat.le_of_ble_eq_true rfl) ⟨by rw [S.2.2.2.2.2.1]; omega, by rw [S.2.2.2.2.2.2]; omega⟩ dL_law_4 rfl rfl (fun r9 w1 hq => ?_)
  obtain ⟨rfl, g1, B, hB, hN⟩ := hq
  have gn : ∀ q, 1000 ≤ q → w1 q = none := fun q hq => (g1 q hq).trans (va_n _ _ (by omega))
  clear g1
  dsimp only [Option.toList, List.cons_append, List.nil_append]
  refine r_astore_n (j := 1) (pq := 8) C dL_law_7 rfl (by decide) rfl rfl ?_
  dsimp only [List.set]
  refine r_new (pq := 11) C 1000 (ci := 13) rfl tyX12 tyX12_ok (mR1 _ (by decide +kernel)) (mR1 _ (by decide +kernel)) (mR1 _ (by decide +kernel)) (fs := [.int 0, .int 0, .null, .null, .null, .int 0, .null, .null, .null, .null, .null, .null, .null, .null, .null, .null, .int 0, .null, .null, .null, .null, .null, .null, .null, .null, .null, .null, .null]) (fun j hj => by rcases (by omega : j = 0 ∨ j = 1 ∨ j = 2 ∨ j = 3 ∨ j = 4 ∨ j = 5 ∨ j = 6 ∨ j = 7 ∨ j = 8 ∨ j = 9 ∨ j = 10 ∨ j = 11 ∨ j = 12 ∨ j = 13 ∨ j = 14 ∨ j = 15 ∨ j = 16 ∨ j = 17 ∨ j = 18 ∨ j = 19 ∨ j = 20 ∨ j = 21 ∨ j = 22 ∨ j = 23 ∨ j = 24 ∨ j = 25 ∨ j = 26 ∨ j = 27) with e | e | e | e | e | e | e | e | e | e | e | e | e | e | e | e | e | e | e | e | e | e | e | e | e | e | e | e <;> subst e <;> rfl) (by rw [S.2.2.2.2.2.1]; omega) (by rw [S.2.2.2.2.2.2]; omega) dL_law_8 rfl (fun am => ?_)
  refine r_dup (pq := 12) C dL_law_11 rfl rfl ?_
  refine r_callI (pq := 15) C (As := []) (mc_X12_init (va_s _ _ _) (fun r h1 h2 => (va_n _ _ (by omega)).trans (gn r (by omega)))) gL_law_X12_init rfl (mR1 _ (by decide +kernel)) (mR2 _ (by decide +kernel)) (mR2 _ (by decide +kernel)) (na := 0) (by decide +kernel) rfl (by decide) (by decide) (Nat.le_of_ble_eq_true rfl) ⟨by rw [S.2.2.2.2.2.1]; omega, by rw [S.2.2.2.2.2.2]; omega⟩ dL_law_12 rfl rfl (fun r9 w2 hq => ?_)
  obtain ⟨rfl, A, hA, rfl⟩ := hq
  dsimp only [Option.toList, List.cons_append, List.nil_append]
  refine r_astore_n (j := 2) (pq := 16) C dL_law_15 rfl (by decide) rfl rfl ?_
  dsimp only [List.set]
  refine r_iconst (v := nI 1) (pq := 17) C dL_law_16 (by decide) rfl ?_
  refine r_newa (pq := 19) C (N := 1) (a0 := (1, .inr (.inl (fun _ => 0)))) 2000 3 _ rfl (fun s c1 c2 h g => Option.some.inj (h.symm.trans g)) (mR1 _ (by decide +kernel)) rfl (fun c => rfl) (nI_pos (by omega)) (nI_clamp (by omega)) (by decide) (by rw [S.2.2.2.2.2.1]; omega) (by rw [S.2.2.2.2.2.2]; omega) dL_law_17 rfl (fun qo => ?_)
  refine r_astore_n (j := 3) (pq := 20) C dL_law_19 rfl (by decide) rfl rfl ?_
  dsimp only [List.set]
  refine r_iconst (v := nI 0) (pq := 21) C dL_law_20 (by decide) rfl ?_
  refine r_istore (j := 4) (pq := 23) C dL_law_21 rfl (by decide) rfl rfl ?_
  dsimp only [List.set]
  refine law_loop (bx := bx) (am := am) (qo := qo) (A := A) C S K9 (L + 1) 0 _ B z0 _ _ (by omega) (by omega) ⟨SI_z, hN.w SI_z.sr (fun q hq => ?_), ?_, hB, hA, _, va_s _ _ _⟩ (by omega) (by omega)
  · rw [va_n _ _ (by omega), WM_else _ _ _ _ _ _ (Or.inl hq), va_n _ _ (by omega)]
  · funext r
    by_cases hr : 1000 ≤ r ∧ r < 1029
    · rw [va_n _ _ (by omega)]
      unfold WM
      rw [if_pos hr, if_pos hr]
    · exact (WM_else _ _ _ _ _ _ (by omega)).symm
set_option maxHeartbeats 4000000 in
set_option maxRecDepth 100000 in
/-- from the entry, for every script of at most 3072 ints, the law comes to its end with true -/
theorem whole_start {p : Program} {e : Env} {s : State} {m : MethodId} {below : List Frame} {meth : Method} {c : Code} (l : Launch) (hst : l.stackTraces = false) {b L : Nat} {xs : Nat → Int32} (hL : L ≤ 3072) (C0 : lw_At p s m meth c b L xs) : W p l e room_1 s m #[Value.ref b] below meth c s.heap [] 0 0 (lw_Z below #[Value.ref b] s) (entryFrame m ([Value.ref b] : List Value).toArray 8) := by
  obtain ⟨hx, hb, hr, hml, hown, hts, hX, hbl, hlocks, hgv⟩ := C0
  obtain ⟨E, hE, hK, hao⟩ := env_start hts hgv
  have hl := lv_entry [Value.ref b] (n := 8) (Nat.le_of_ble_eq_true rfl)
  rw [lg_entry_eq]
  refine law_start (X := (p, l, e, room_1, s, m, #[Value.ref b], below, meth, c, E, lw_Z below #[Value.ref b] s)) (b := b) (L := L) (xv := xs) ⟨hx, hb, hown, fun w hw => hts w (wsL_law_in w hw), hK, Nat.le_of_eq hE, by show 9 ≤ 2048; decide, by show 60 * 9 ≤ 84000; decide, hml⟩ ⟨hX, hbl, fun q => by have q2 : E.2.2 ≤ b := q; omega, hL, hst, rfl, rfl⟩ hao (fun w k n lv hk hn => ?_) s.heap [] _ ⟨(fun r a e hr => by cases hr), (fun r r' a e e' hr => by cases hr)⟩ va_S.rf (lh_entry (As := [Value.ref b]) (by simp [Value.category]) (Nat.le_of_ble_eq_true rfl) rfl hml hl)
  intro H locs ls h1 h2 h3
  refine lv_iconst (v := 1) hx hb dL_law_1609 (by decide) ?_
  refine W.widen hk hn (W.fresh (fun z hz => ?_) (lw_ret hx hb hr hlocks dL_law_1610))
  have := h2.2.2 z hz
  exact hE ▸ this

set_option maxHeartbeats 4000000 in
theorem lw_walk (l : Launch) (hst : l.stackTraces = false) (b : Addr) (xs : List Int32) : MetFree l x (headSpec (Jvm.Cond.code x code maxLocals ret :: tables_1) room_1) (lw_P b xs) (fun _ _ _ _ _ => True) lw_Q := by
  refine MetFree.of_bodyS (code := code) (maxLocals := maxLocals) (ret := ret) (by decide) ?_ ?_
  · intro args s m h hn
    obtain ⟨meth, c, h1, h2, h3, h4, h5, h6, -, -⟩ := Cond.code_spec hn (atoms_spec (ws := Jvm.Cond.code x code maxLocals ret :: tables_1) h _ List.mem_cons_self)
    exact ⟨meth, c, h1, h2, h3, h4, h5, h6⟩
  · intro p e s m args below meth c s₁ B hml0 hP _
    obtain ⟨rfl, hx, hbd, hgv⟩ := hP
    obtain ⟨scr, harrAt, hlist, hof, hsmall⟩ := hx
    obtain ⟨hcb, hkn, -, -⟩ := State.arrayAt?_spec harrAt
    have hown : s.vm.findClass R_law = some m.cls := findClass_of_methodNamed B.named
    have hts0 : ∀ c ∈ (Jvm.Cond.code x code maxLocals ret :: tables_1), c.before #[Value.ref b] s = true := atoms_spec (ws := Jvm.Cond.code x code maxLocals ret :: tables_1) B.pre
    have hts : ∀ w ∈ lw_tbl, w.before #[Value.ref b] s = true := k2_hts_sels lw_privs (fun w hw => hts0 w (List.mem_cons_of_mem _ hw)) lw_privs_ok
    have hml : c.maxLocals = 8 := B.maxLocals_eq (hts0 _ List.mem_cons_self)
    have X₀ : Stand p l e room_1 s m #[Value.ref b] below meth c s₁ [] 0 0 := Stand.of_body B
    have hh0 : s₁.heap = s.heap := by rw [B.state]; rfl
    have hsz : scr.slots.size = xs.length := by rw [← Array.length_toList, hlist, List.length_map]
    have hval : ∀ j : Nat, j < xs.length → scr.slots[j]? = some (.int (xs.getD j 0)) := fun j hj => by
      rw [← Array.getElem?_toList, hlist]
      simp [hj]
    have hbl : b < s.heap.size := (Array.getElem?_eq_some_iff.mp hcb).1
    have hX : va_X b xs.length (fun j => xs.getD j 0) s s.heap := ⟨scr, hcb, hof, hkn, hsz, hval⟩
    have K : W p l e room_1 s m #[Value.ref b] below meth c s₁.heap [] 0 0 (lw_Z below #[Value.ref b] s) (entryFrame m ([Value.ref b] : List Value).toArray 8) := by
      rw [hh0]
      exact whole_start l hst hbd ⟨B.exec, B.bytes, B.returns, hml, hown, hts, hX, hbl, B.notSynchronized, hgv⟩
    obtain ⟨t, a1, o, b1, b2, b3⟩ := K s₁ rfl X₀
    exact ⟨t, o, a1, b1, b2, b3⟩
theorem lw_pre_spec {args : Array Value} {s : State} (h : (Jvm.Cond.and given_1 narrow_1).before args s = true) (hr : rest_1_c.before args s = true) : ∃ (b : Addr) (xs : List Int32), lw_P b xs args s := by
  have hs := flat_of_before _ h
  have hq := flat_of_before _ hr
  have hc : (Cond.count 1).before args s = true := hs _ (by decide +kernel)
  have harr : (Cond.arrayOf (.arg 0) .int).before args s = true := hs _ (by decide +kernel)
  have hle : (Cond.le (.length (.arg 0)) (.int 3072)).before args s = true := hs _ (by decide +kernel)
  have hlen : (Cond.isInt (.length (.arg 0))).before args s = true := hq _ (by decide +kernel)
  have hall : (Cond.all (.arg 0) (.isInt (.elem (.arg 0) (.index 0)))).before args s = true := hq _ (by decide +kernel)
  obtain ⟨b, xs, hb, hx⟩ := State.ints_of_pre rfl harr hlen hall
  have hsm : xs.length < 2 ^ 31 := hx.choose_spec.2.2.2
  have hev : (Term.length (.arg 0)).eval args s none [] s = some (.int xs.length.toInt32) := hx.length_eval hb
  have hv := Cond.le_ints hev (show (Term.int 3072).eval args s none [] s = some (.int 3072) from rfl)
  have hd : xs.length.toInt32 ≤ 3072 := by
    simpa [Cond.before, Cond.holds, hv] using hle
  have hN : xs.length ≤ 3072 := (Int32.ofNat_le_ofNat hsm (by decide)).mp (show Int32.ofNat xs.length ≤ Int32.ofNat 3072 from hd)
  exact ⟨b, xs, Cond.one_arg hc (show args[0]? = some (.ref b) from hb), hx, hN, h⟩
theorem lw_comes (l : Launch) (hst : l.stackTraces = false) : Comes l x (Jvm.Cond.code x code maxLocals ret :: tables_1) room_1 (fun tb e args s => Calls_1 tb e args s ∧ rest_1 tb e args s ∧ Pre_1 tb e args s)
    (fun _ _ args s o t => lw_Q args s o t) := by
  intro p e ha hc hk s m args below hf hfit hheap happ hpre
  obtain ⟨b, xs, hP⟩ := lw_pre_spec hpre.2.2 hpre.2.1
  obtain ⟨k, o, h1, h2, h3, hQ⟩ := lw_walk l hst b xs p e ha hc hk s m args below hf ((Spec.applies_iff_loose hf).mp happ).1 hP trivial
  exact ⟨k, o, h1, h2, h3, hQ⟩
theorem lw_frame {s t : State} {o : Outcome} {args : Array Value} (h : Framed s o t [] 601024 7293034) :
    Framed s o t (fieldLocs frame_1_writes args s ++ arrayLocs frame_1_arrays args s ++ staticLocs frame_1_statics s) 601024 7293034 := h
theorem lw_limb (L : Cond) (hL : ∀ (args : Array Value) (s t : State), L.after args s (.returned (some (.int 1))) t = true) :
    ArmFor flags0 classFile x code maxLocals ret World_1 tables_1 room_1 Calls_1 rest_1 Pre_1
      (fun tb e a s o t => postC L tb e a s o t ∧ Framed s o t (fieldLocs frame_1_writes a s ++ arrayLocs frame_1_arrays a s ++ staticLocs frame_1_statics s) 601024 7293034) := by
  intro l hfl _ _ p e ha hc hk s m args below hf hfit hheap happ hpre
  obtain ⟨k, o, h1, h2, h3, rfl, hF⟩ := lw_comes l (by unfold Launch.stackTraces; rw [hfl]; decide +kernel) p e ha hc hk s m args below hf hfit hheap happ hpre
  exact ⟨k, _, h1, h2, h3, hL args s _, lw_frame hF⟩
theorem i_vc : Claimed_1_1 ∧ Claimed_1_2 := ⟨lw_limb limb_1_1 (fun args s t => by simp [limb_1_1, Cond.after, Cond.holds, Cond.value]), lw_limb limb_1_2 (fun args s t => Cond.after_iff.mpr (by
  first | (rw [show limb_1_2 = Cond.eq .result (.int 1) from rfl, Cond.eq_ints (x := 1) (y := 1) rfl rfl]; simp; done) | (simp [limb_1_2, Cond.value, Term.eval]; done)))⟩

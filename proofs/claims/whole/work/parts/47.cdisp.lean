/-! ===== calls by kind ===== -/
theorem r_verdict {X : XX} {own : String} {cc : ByteArray} {Ts : List Cond} {d nL : Nat} {w : RW} {k n pc pq : Nat} {lv : List (Option Value)} (C : C0 X own cc Ts d nL) {idx k9 r rt a at9 l9 n9 r9 ah ae lt x9 y9 d9 : Nat} {z9 : Int32} {rest : List Value} (hk : k9 < 4) (hn : n9 ≤ 200) (hx : x9 < 1000000) (hy : y9 < 1000000) (hd9 : d9 < 400) (hr : w r = lC (lwC k9) a l9 n9 r9 ah ae z9) (ht : w rt = tC at9 lt x9 y9) (g9 : GoodIn Ts (wsV own idx RX9 yX9_verdict wsX9_verdict)) (g7 : GoodIn Ts (va_wsU own idx RX7 "NightBook$Window" yX9_verdict yX9_verdict wsX9_verdict)) (g3 : GoodIn Ts (va_wsO own idx RX3 "NightBook$Window" yX9_verdict yX3_verdict wsX3_verdict)) (g0 : GoodIn Ts (va_wsO own idx RX0 "NightBook$Window" yX9_verdict yX0_verdict wsX0_verdict)) (h0 : Cond.code yX9_verdict cX9_verdict 3 (some .int) ∈ Ts) (hd : 0 + 1 ≤ d) (hcat : (rest.map fun v => v.category).sum ≤ 8) (hroom : k ≤ (xR X).cells ∧ n ≤ (xR X).slots) (hdg : decode cc pc = .ok (.invokevirtual idx, 3)) (hp : pc + 3 = pq) (kk : GG X w k n pq lv (.int (nI (vd k9 n9 x9 y9 d9)) :: rest)) : GG X w k n pc lv (.int (nI d9) :: .ref at9 :: .ref a :: rest) := by
  rcases (by omega : k9 = 0 ∨ k9 = 1 ∨ k9 = 2 ∨ k9 = 3) with e | e | e | e <;> subst e
  · exact r_callV C (As := [.ref at9, .int (nI d9)]) (mc_X9_verdict (ci := 10) (Or.inl rfl) hn hx hy hd9 hr ht) hr rfl g9 rfl (na := 2) (by decide +kernel) rfl hd (by decide) hcat hroom hdg rfl hp (fun r9 w9 hq => by obtain ⟨rfl, rfl⟩ := hq; exact kk)
  · exact r_callU C (As := [.ref at9, .int (nI d9)]) (mc_X9_verdict (ci := 8) (Or.inr (Or.inl rfl)) hn hx hy hd9 hr ht) hr rfl g7 rfl rfl (na := 2) (by decide +kernel) rfl hd (by decide) hcat hroom hdg rfl hp (fun r9 w9 hq => by obtain ⟨rfl, rfl⟩ := hq; exact kk)
  · exact r_callO C (As := [.ref at9, .int (nI d9)]) (mc_X3_verdict hn hx hy hd9 hr ht) hr rfl g3 rfl h0 (na := 2) (by decide +kernel) rfl hd (by decide) hcat hroom hdg rfl hp (fun r9 w9 hq => by obtain ⟨rfl, rfl⟩ := hq; exact kk)
  · exact r_callO C (As := [.ref at9, .int (nI d9)]) (mc_X0_verdict hn hx hy hd9 hr ht) hr rfl g0 rfl h0 (na := 2) (by decide +kernel) rfl hd (by decide) hcat hroom hdg rfl hp (fun r9 w9 hq => by obtain ⟨rfl, rfl⟩ := hq; exact kk)
theorem r_binds {X : XX} {own : String} {cc : ByteArray} {Ts : List Cond} {d nL : Nat} {w : RW} {k n pc pq : Nat} {lv : List (Option Value)} (C : C0 X own cc Ts d nL) {idx k9 r a l9 n9 r9 ah ae : Nat} {z9 : Int32} {rest : List Value} (hk : k9 < 4) (hr : w r = lC (lwC k9) a l9 n9 r9 ah ae z9) (g9 : GoodIn Ts (wsV own idx RX9 yX9_bindsTrips wsX9_bindsTrips)) (g7 : GoodIn Ts (va_wsU own idx RX7 "NightBook$Window" yX9_bindsTrips yX9_bindsTrips wsX9_bindsTrips)) (g3 : GoodIn Ts (va_wsO own idx RX3 "NightBook$Window" yX9_bindsTrips yX3_bindsTrips wsX3_bindsTrips)) (g0 : GoodIn Ts (va_wsU own idx RX0 "NightBook$Window" yX9_bindsTrips yX9_bindsTrips wsX9_bindsTrips)) (h0 : Cond.code yX9_bindsTrips cX9_bindsTrips 1 (some .boolean) ∈ Ts) (hd : 0 + 1 ≤ d) (hcat : (rest.map fun v => v.category).sum ≤ 8) (hroom : k ≤ (xR X).cells ∧ n ≤ (xR X).slots) (hdg : decode cc pc = .ok (.invokevirtual idx, 3)) (hp : pc + 3 = pq) (kk : GG X w k n pq lv (.int (nI (if k9 = 2 then 0 else 1)) :: rest)) : GG X w k n pc lv (.ref a :: rest) := by
  rcases (by omega : k9 = 0 ∨ k9 = 1 ∨ k9 = 2 ∨ k9 = 3) with e | e | e | e <;> subst e
  · exact r_callV C (As := []) (mc_X9_bindsTrips) hr rfl g9 rfl (na := 0) (by decide +kernel) rfl hd (by decide) hcat hroom hdg rfl hp (fun r9 w9 hq => by obtain ⟨rfl, rfl⟩ := hq; exact kk)
  · exact r_callU C (As := []) (mc_X9_bindsTrips) hr rfl g7 rfl rfl (na := 0) (by decide +kernel) rfl hd (by decide) hcat hroom hdg rfl hp (fun r9 w9 hq => by obtain ⟨rfl, rfl⟩ := hq; exact kk)
  · exact r_callO C (As := []) (mc_X3_bindsTrips) hr rfl g3 rfl h0 (na := 0) (by decide +kernel) rfl hd (by decide) hcat hroom hdg rfl hp (fun r9 w9 hq => by obtain ⟨rfl, rfl⟩ := hq; exact kk)
  · exact r_callU C (As := []) (mc_X9_bindsTrips) hr rfl g0 rfl rfl (na := 0) (by decide +kernel) rfl hd (by decide) hcat hroom hdg rfl hp (fun r9 w9 hq => by obtain ⟨rfl, rfl⟩ := hq; exact kk)
theorem r_kindW {X : XX} {own : String} {cc : ByteArray} {Ts : List Cond} {d nL : Nat} {w : RW} {k n pc pq : Nat} {lv : List (Option Value)} (C : C0 X own cc Ts d nL) {idx k9 r a l9 n9 r9 ah ae : Nat} {z9 : Int32} {rest : List Value} (hk : k9 < 4) (hr : w r = lC (lwC k9) a l9 n9 r9 ah ae z9) (g9 : GoodIn Ts (wsV own idx RX9 yX9_kind wsX9_kind)) (g7 : GoodIn Ts (va_wsO own idx RX7 "NightBook$Window" yX9_kind yX7_kind wsX7_kind)) (g3 : GoodIn Ts (va_wsO own idx RX3 "NightBook$Window" yX9_kind yX3_kind wsX3_kind)) (g0 : GoodIn Ts (va_wsO own idx RX0 "NightBook$Window" yX9_kind yX0_kind wsX0_kind)) (h0 : Cond.code yX9_kind cX9_kind 1 (some .int) ∈ Ts) (hd : 0 + 1 ≤ d) (hcat : (rest.map fun v => v.category).sum ≤ 8) (hroom : k ≤ (xR X).cells ∧ n ≤ (xR X).slots) (hdg : decode cc pc = .ok (.invokevirtual idx, 3)) (hp : pc + 3 = pq) (kk : GG X w k n pq lv (.int (nI k9) :: rest)) : GG X w k n pc lv (.ref a :: rest) := by
  rcases (by omega : k9 = 0 ∨ k9 = 1 ∨ k9 = 2 ∨ k9 = 3) with e | e | e | e <;> subst e
  · exact r_callV C (As := []) (mc_X9_kind) hr rfl g9 rfl (na := 0) (by decide +kernel) rfl hd (by decide) hcat hroom hdg rfl hp (fun r9 w9 hq => by obtain ⟨rfl, rfl⟩ := hq; exact kk)
  · exact r_callO C (As := []) (mc_X7_kind) hr rfl g7 rfl h0 (na := 0) (by decide +kernel) rfl hd (by decide) hcat hroom hdg rfl hp (fun r9 w9 hq => by obtain ⟨rfl, rfl⟩ := hq; exact kk)
  · exact r_callO C (As := []) (mc_X3_kind) hr rfl g3 rfl h0 (na := 0) (by decide +kernel) rfl hd (by decide) hcat hroom hdg rfl hp (fun r9 w9 hq => by obtain ⟨rfl, rfl⟩ := hq; exact kk)
  · exact r_callO C (As := []) (mc_X0_kind) hr rfl g0 rfl h0 (na := 0) (by decide +kernel) rfl hd (by decide) hcat hroom hdg rfl hp (fun r9 w9 hq => by obtain ⟨rfl, rfl⟩ := hq; exact kk)
theorem r_kindM {X : XX} {own : String} {cc : ByteArray} {Ts : List Cond} {d nL : Nat} {w : RW} {k n pc pq : Nat} {lv : List (Option Value)} (C : C0 X own cc Ts d nL) {idx k9 r a : Nat} {fs rest : List Value} (hk : k9 < 4) (hr : w r = some (a, .inr (mkC k9, fs))) (g5 : GoodIn Ts (wsV own idx RX5 yX5_kind wsX5_kind)) (g1 : GoodIn Ts (va_wsO own idx RX1 "NightBook$Span" yX5_kind yX1_kind wsX1_kind)) (g6 : GoodIn Ts (va_wsO own idx RX6 "NightBook$Span" yX5_kind yX6_kind wsX6_kind)) (g10 : GoodIn Ts (va_wsO own idx RX10 "NightBook$Span" yX5_kind yX10_kind wsX10_kind)) (h0 : Cond.code yX5_kind cX5_kind 1 (some .int) ∈ Ts) (hd : 0 + 1 ≤ d) (hcat : (rest.map fun v => v.category).sum ≤ 8) (hroom : k ≤ (xR X).cells ∧ n ≤ (xR X).slots) (hdg : decode cc pc = .ok (.invokevirtual idx, 3)) (hp : pc + 3 = pq) (kk : GG X w k n pq lv (.int (nI k9) :: rest)) : GG X w k n pc lv (.ref a :: rest) := by
  rcases (by omega : k9 = 0 ∨ k9 = 1 ∨ k9 = 2 ∨ k9 = 3) with e | e | e | e <;> subst e
  · exact r_callV C (As := []) (mc_X5_kind) hr rfl g5 rfl (na := 0) (by decide +kernel) rfl hd (by decide) hcat hroom hdg rfl hp (fun r9 w9 hq => by obtain ⟨rfl, rfl⟩ := hq; exact kk)
  · exact r_callO C (As := []) (mc_X1_kind) hr rfl g1 rfl h0 (na := 0) (by decide +kernel) rfl hd (by decide) hcat hroom hdg rfl hp (fun r9 w9 hq => by obtain ⟨rfl, rfl⟩ := hq; exact kk)
  · exact r_callO C (As := []) (mc_X6_kind) hr rfl g6 rfl h0 (na := 0) (by decide +kernel) rfl hd (by decide) hcat hroom hdg rfl hp (fun r9 w9 hq => by obtain ⟨rfl, rfl⟩ := hq; exact kk)
  · exact r_callO C (As := []) (mc_X10_kind) hr rfl g10 rfl h0 (na := 0) (by decide +kernel) rfl hd (by decide) hcat hroom hdg rfl hp (fun r9 w9 hq => by obtain ⟨rfl, rfl⟩ := hq; exact kk)
theorem r_gives {X : XX} {own : String} {cc : ByteArray} {Ts : List Cond} {d nL : Nat} {w : RW} {k n pc pq : Nat} {lv : List (Option Value)} (C : C0 X own cc Ts d nL) {idx k9 r a : Nat} {fs rest : List Value} (hk : k9 < 4) (hr : w r = some (a, .inr (mkC k9, fs))) (g5 : GoodIn Ts (wsV own idx RX5 yX5_givesWay wsX5_givesWay)) (g1 : GoodIn Ts (va_wsU own idx RX1 "NightBook$Span" yX5_givesWay yX5_givesWay wsX5_givesWay)) (g6 : GoodIn Ts (va_wsU own idx RX6 "NightBook$Span" yX5_givesWay yX5_givesWay wsX5_givesWay)) (g10 : GoodIn Ts (va_wsO own idx RX10 "NightBook$Span" yX5_givesWay yX10_givesWay wsX10_givesWay)) (h0 : Cond.code yX5_givesWay cX5_givesWay 1 (some .boolean) ∈ Ts) (hd : 0 + 1 ≤ d) (hcat : (rest.map fun v => v.category).sum ≤ 8) (hroom : k ≤ (xR X).cells ∧ n ≤ (xR X).slots) (hdg : decode cc pc = .ok (.invokevirtual idx, 3)) (hp : pc + 3 = pq) (kk : GG X w k n pq lv (.int (nI (if k9 = 3 then 1 else 0)) :: rest)) : GG X w k n pc lv (.ref a :: rest) := by
  rcases (by omega : k9 = 0 ∨ k9 = 1 ∨ k9 = 2 ∨ k9 = 3) with e | e | e | e <;> subst e
  · exact r_callV C (As := []) (mc_X5_givesWay) hr rfl g5 rfl (na := 0) (by decide +kernel) rfl hd (by decide) hcat hroom hdg rfl hp (fun r9 w9 hq => by obtain ⟨rfl, rfl⟩ := hq; exact kk)
  · exact r_callU C (As := []) (mc_X5_givesWay) hr rfl g1 rfl rfl (na := 0) (by decide +kernel) rfl hd (by decide) hcat hroom hdg rfl hp (fun r9 w9 hq => by obtain ⟨rfl, rfl⟩ := hq; exact kk)
  · exact r_callU C (As := []) (mc_X5_givesWay) hr rfl g6 rfl rfl (na := 0) (by decide +kernel) rfl hd (by decide) hcat hroom hdg rfl hp (fun r9 w9 hq => by obtain ⟨rfl, rfl⟩ := hq; exact kk)
  · exact r_callO C (As := []) (mc_X10_givesWay) hr rfl g10 rfl h0 (na := 0) (by decide +kernel) rfl hd (by decide) hcat hroom hdg rfl hp (fun r9 w9 hq => by obtain ⟨rfl, rfl⟩ := hq; exact kk)
set_option maxHeartbeats 4000000 in
set_option maxRecDepth 100000 in
/-- heft -/
theorem mc_X9_heft {l : Launch} {E : EV} {w : RW} {r a k9 l9 n9 r9 ah ae : Nat} {z9 : Int32} (hk : k9 < 4) (hr : w r = lC (lwC k9) a l9 n9 r9 ah ae z9) : MC l E yX9_heft wsX9_heft 1 0 0 [.ref a] (w) (fun v w' => w' = w ∧ v = some (.int (nI (10 + k9 + n9)))) := by
  refine MC.enter (cc := cX9_heft) (maxL := 1) (ret := (some .int)) (lv0 := [some (.ref a)]) (by decide) rfl (by simp [Value.category]) (Nat.le_of_ble_eq_true rfl) rfl ?_
  intro X hl hE C D
  subst hl
  subst hE
  refine r_bipush (v := nI 10) (pq := 2) C dX9_heft_0 (by decide) rfl ?_
  refine r_aload_n (pq := 3) C dX9_heft_2 rfl rfl ?_
  refine r_kindW (pq := 6) C hk hr gX9_heft_X9_kind gX9_heft_X7_kind_u50X7 gX9_heft_X3_kind_u50X3 gX9_heft_X0_kind_u50X0 (List.mem_append_left _ (List.mem_cons_of_mem _ (by decide +kernel))) (by decide) (Nat.le_of_ble_eq_true rfl) ⟨Nat.zero_le _, Nat.zero_le _⟩ dX9_heft_3 rfl ?_
  refine rN_iadd (pq := 7) C dX9_heft_6 rfl ?_
  refine r_aload_n (pq := 8) C dX9_heft_7 rfl rfl ?_
  refine r_getW (pq := 11) C (lwC_W k9) 1 hr (by decide) (by decide +kernel) rfl rfl dX9_heft_8 rfl ?_
  refine rN_iadd (pq := 12) C dX9_heft_11 rfl ?_
  refine r_iret C D rfl ⟨Nat.le_refl _, Nat.le_refl _⟩ dX9_heft_12 ?_
  exact ⟨rfl, rfl⟩

set_option maxHeartbeats 4000000 in
set_option maxRecDepth 100000 in
/-- heft -/
theorem mc_X7_heft {l : Launch} {E : EV} {w : RW} {r a k9 l9 n9 r9 ah ae : Nat} {z9 : Int32} (hk : k9 < 4) (hr : w r = lC (lwC k9) a l9 n9 r9 ah ae z9) : MC l E yX7_heft wsX7_heft 2 0 0 [.ref a] (w) (fun v w' => w' = w ∧ v = some (.int (nI (10 + k9 + n9 + 100)))) := by
  refine MC.enter (cc := cX7_heft) (maxL := 1) (ret := (some .int)) (lv0 := [some (.ref a)]) (by decide) rfl (by simp [Value.category]) (Nat.le_of_ble_eq_true rfl) rfl ?_
  intro X hl hE C D
  subst hl
  subst hE
  refine r_aload_n (pq := 1) C dX7_heft_0 rfl rfl ?_
  refine r_callSU (pq := 4) C (mc_X9_heft hk hr) hr (cl_some (by have := lwC_W k9; unfold isW at this; omega)) gX7_heft_X9_heft_s9 rfl (na := 0) (by decide +kernel) rfl (by decide) (by decide) (Nat.le_of_ble_eq_true rfl) ⟨Nat.zero_le _, Nat.zero_le _⟩ dX7_heft_1 rfl rfl (fun r9 w9 hq => ?_)
  obtain ⟨rfl, rfl⟩ := hq
  dsimp only [Option.toList, List.cons_append, List.nil_append]
  refine r_bipush (v := nI 100) (pq := 6) C dX7_heft_4 (by decide) rfl ?_
  refine rN_iadd (pq := 7) C dX7_heft_6 rfl ?_
  refine r_iret C D rfl ⟨Nat.le_refl _, Nat.le_refl _⟩ dX7_heft_7 ?_
  exact ⟨rfl, rfl⟩

set_option maxHeartbeats 4000000 in
set_option maxRecDepth 100000 in
/-- heft -/
theorem mc_X3_heft {l : Launch} {E : EV} {w : RW} {r a l9 n9 r9 ah ae : Nat} {z9 : Int32} (hr : w r = lC (4) a l9 n9 r9 ah ae z9) : MC l E yX3_heft wsX3_heft 2 0 0 [.ref a] (w) (fun v w' => w' = w ∧ v = some (.int (nI (12 + n9 + r9)))) := by
  refine MC.enter (cc := cX3_heft) (maxL := 1) (ret := (some .int)) (lv0 := [some (.ref a)]) (by decide) rfl (by simp [Value.category]) (Nat.le_of_ble_eq_true rfl) rfl ?_
  intro X hl hE C D
  subst hl
  subst hE
  refine r_aload_n (pq := 1) C dX3_heft_0 rfl rfl ?_
  refine r_callSU (pq := 4) C (mc_X9_heft (k9 := 2) (by decide) hr) hr rfl gX3_heft_X9_heft_s23 rfl (na := 0) (by decide +kernel) rfl (by decide) (by decide) (Nat.le_of_ble_eq_true rfl) ⟨Nat.zero_le _, Nat.zero_le _⟩ dX3_heft_1 rfl rfl (fun r9 w9 hq => ?_)
  obtain ⟨rfl, rfl⟩ := hq
  dsimp only [Option.toList, List.cons_append, List.nil_append]
  refine r_aload_n (pq := 5) C dX3_heft_4 rfl rfl ?_
  refine r_getf (pq := 8) C (ref := "NightBook$Needs") 2 hr rfl (by decide) (by decide +kernel) (Or.inr (by decide +kernel)) rfl dX3_heft_5 rfl ?_
  refine rN_iadd (pq := 9) C dX3_heft_8 rfl ?_
  refine r_iret C D rfl ⟨Nat.le_refl _, Nat.le_refl _⟩ dX3_heft_9 ?_
  exact ⟨rfl, rfl⟩

set_option maxHeartbeats 4000000 in
set_option maxRecDepth 100000 in
/-- heft -/
theorem mc_X0_heft {l : Launch} {E : EV} {w : RW} {r a k9 l9 n9 r9 ah ae : Nat} {z9 : Int32} (hk : k9 < 4) (hr : w r = lC (lwC k9) a l9 n9 r9 ah ae z9) : MC l E yX0_heft wsX0_heft 3 0 0 [.ref a] (w) (fun v w' => w' = w ∧ v = some (.int (nI (2 * (10 + k9 + n9 + 100))))) := by
  refine MC.enter (cc := cX0_heft) (maxL := 1) (ret := (some .int)) (lv0 := [some (.ref a)]) (by decide) rfl (by simp [Value.category]) (Nat.le_of_ble_eq_true rfl) rfl ?_
  intro X hl hE C D
  subst hl
  subst hE
  refine r_iconst (v := nI 2) (pq := 1) C dX0_heft_0 (by decide) rfl ?_
  refine r_aload_n (pq := 2) C dX0_heft_1 rfl rfl ?_
  refine r_callSU (pq := 5) C (mc_X7_heft hk hr) hr (cl_some (by have := lwC_W k9; unfold isW at this; omega)) gX0_heft_X7_heft_s23 rfl (na := 0) (by decide +kernel) rfl (by decide) (by decide) (Nat.le_of_ble_eq_true rfl) ⟨Nat.zero_le _, Nat.zero_le _⟩ dX0_heft_2 rfl rfl (fun r9 w9 hq => ?_)
  obtain ⟨rfl, rfl⟩ := hq
  dsimp only [Option.toList, List.cons_append, List.nil_append]
  refine rN_imul (pq := 6) C dX0_heft_5 rfl ?_
  refine r_iret C D rfl ⟨Nat.le_refl _, Nat.le_refl _⟩ dX0_heft_6 ?_
  exact ⟨rfl, rfl⟩


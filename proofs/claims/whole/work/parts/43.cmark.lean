/-! ===== the class: marks, rows ===== -/
set_option maxHeartbeats 4000000 in
set_option maxRecDepth 100000 in
/-- init -/
theorem mc_X5_init {l : Launch} {E : EV} {w : RW} {r a ci : Nat} (hci : isM ci) {x1 x2 x3 x4 x5 : Int32} (hr : w r = some (a, .inr (ci, [.int 0, .int 0, .int 0, .int 0, .int 0, .int 0]))) : MC l E yX5_init wsX5_init 2 0 0 [.ref a, .int x1, .int x2, .int x3, .int x4, .int x5] (w) (fun v w' => v = none ∧ w' = va_up w r (some (a, .inr (ci, [.int x1, .int x3, .int x4, .int x5, .int x2, .int 0])))) := by
  refine MC.enter (cc := cX5_init) (maxL := 6) (ret := none) (lv0 := [some (.ref a), some (.int x1), some (.int x2), some (.int x3), some (.int x4), some (.int x5)]) (by decide) rfl (by simp [Value.category]) (Nat.le_of_ble_eq_true rfl) rfl ?_
  intro X hl hE C D
  subst hl
  subst hE
  refine r_aload_n (pq := 1) C dX5_init_0 rfl rfl ?_
  refine r_callIN (pq := 4) C (mc_X2_init ) (by decide +kernel) gX5_init_X2_init_n3 rfl (by decide +kernel) (by decide +kernel) (na := 0) (by decide +kernel) rfl (by decide) (by decide) (Nat.le_of_ble_eq_true rfl) ⟨Nat.zero_le _, Nat.zero_le _⟩ dX5_init_1 rfl rfl (fun r9 w9 hq => ?_)
  obtain ⟨rfl, rfl⟩ := hq
  dsimp only [Option.toList, List.cons_append, List.nil_append]
  refine r_aload_n (pq := 5) C dX5_init_4 rfl rfl ?_
  refine r_iload_n (pq := 6) C dX5_init_5 rfl rfl ?_
  refine r_putMF (pq := 9) C D.2.2.1 rfl hci 0 hr (by decide) (by decide +kernel) rfl rfl rfl rfl rfl (Nat.le_of_ble_eq_true rfl) dX5_init_6 rfl ?_
  refine r_aload_n (pq := 10) C dX5_init_9 rfl rfl ?_
  refine r_iload_n (pq := 11) C dX5_init_10 rfl rfl ?_
  refine r_putM (pq := 14) C hci 4 (va_s _ _ _) (by decide) (by decide +kernel) rfl rfl rfl rfl rfl (Nat.le_of_ble_eq_true rfl) dX5_init_11 rfl ?_
  refine GG.cast (bx_uu _ _ _ _) ?_
  refine r_aload_n (pq := 15) C dX5_init_14 rfl rfl ?_
  refine r_iload_n (pq := 16) C dX5_init_15 rfl rfl ?_
  refine r_putMF (pq := 19) C D.2.2.1 rfl hci 1 (va_s _ _ _) (by decide) (by decide +kernel) rfl rfl rfl rfl rfl (Nat.le_of_ble_eq_true rfl) dX5_init_16 rfl ?_
  refine GG.cast (bx_uu _ _ _ _) ?_
  refine r_aload_n (pq := 20) C dX5_init_19 rfl rfl ?_
  refine r_iload (pq := 22) C dX5_init_20 rfl rfl ?_
  refine r_putMF (pq := 25) C D.2.2.1 rfl hci 2 (va_s _ _ _) (by decide) (by decide +kernel) rfl rfl rfl rfl rfl (Nat.le_of_ble_eq_true rfl) dX5_init_22 rfl ?_
  refine GG.cast (bx_uu _ _ _ _) ?_
  refine r_aload_n (pq := 26) C dX5_init_25 rfl rfl ?_
  refine r_iload (pq := 28) C dX5_init_26 rfl rfl ?_
  refine r_putMF (pq := 31) C D.2.2.1 rfl hci 3 (va_s _ _ _) (by decide) (by decide +kernel) rfl rfl rfl rfl rfl (Nat.le_of_ble_eq_true rfl) dX5_init_28 rfl ?_
  refine GG.cast (bx_uu _ _ _ _) ?_
  refine r_vret C D rfl ⟨Nat.le_refl _, Nat.le_refl _⟩ dX5_init_31 ?_
  exact ⟨rfl, rfl⟩

set_option maxHeartbeats 4000000 in
set_option maxRecDepth 100000 in
/-- init -/
theorem mc_X1_init {l : Launch} {E : EV} {w : RW} {r a ci l9 : Nat} (hci : isM ci) (hl : l9 < 8) {x1 x2 x3 : Int32} (hr : w r = some (a, .inr (ci, [.int 0, .int 0, .int 0, .int 0, .int 0, .int 0]))) : MC l E yX1_init wsX1_init 3 0 0 [.ref a, .int x1, .int x2, .int x3, .int (nI l9)] (w) (fun v w' => v = none ∧ w' = va_up w r (some (a, .inr (ci, [.int x1, .int x3, .int x3, .int (nI (2 ^ l9)), .int x2, .int 0])))) := by
  refine MC.enter (cc := cX1_init) (maxL := 5) (ret := none) (lv0 := [some (.ref a), some (.int x1), some (.int x2), some (.int x3), some (.int (nI l9))]) (by decide) rfl (by simp [Value.category]) (Nat.le_of_ble_eq_true rfl) rfl ?_
  intro X hl hE C D
  subst hl
  subst hE
  have hpw := pw8 hl
  refine r_aload_n (pq := 1) C dX1_init_0 rfl rfl ?_
  refine r_iload_n (pq := 2) C dX1_init_1 rfl rfl ?_
  refine r_iload_n (pq := 3) C dX1_init_2 rfl rfl ?_
  refine r_iload_n (pq := 4) C dX1_init_3 rfl rfl ?_
  refine r_iload_n (pq := 5) C dX1_init_4 rfl rfl ?_
  refine r_iconst (v := nI 1) (pq := 6) C dX1_init_5 (by decide) rfl ?_
  refine r_iload (pq := 8) C dX1_init_6 rfl rfl ?_
  refine rN_ishl (pq := 9) C dX1_init_8 (by omega) (by omega) rfl ?_
  rw [Nat.one_mul]
  refine r_callI (pq := 12) C (mc_X5_init hci hr) gX1_init_X5_init rfl (by decide +kernel) (by decide +kernel) (by decide +kernel) (na := 5) (by decide +kernel) rfl (by decide) (by decide) (Nat.le_of_ble_eq_true rfl) ⟨Nat.zero_le _, Nat.zero_le _⟩ dX1_init_9 rfl rfl (fun r9 w9 hq => ?_)
  obtain ⟨rfl, rfl⟩ := hq
  dsimp only [Option.toList, List.cons_append, List.nil_append]
  refine r_vret C D rfl ⟨Nat.le_refl _, Nat.le_refl _⟩ dX1_init_12 ?_
  exact ⟨rfl, rfl⟩

set_option maxHeartbeats 4000000 in
set_option maxRecDepth 100000 in
/-- init -/
theorem mc_X10_init {l : Launch} {E : EV} {w : RW} {r a ci l9 : Nat} (hci : isM ci) (hl : l9 < 8) {x1 x2 x3 : Int32} (hr : w r = some (a, .inr (ci, [.int 0, .int 0, .int 0, .int 0, .int 0, .int 0]))) : MC l E yX10_init wsX10_init 4 0 0 [.ref a, .int x1, .int x2, .int x3, .int (nI l9)] (w) (fun v w' => v = none ∧ w' = va_up w r (some (a, .inr (ci, [.int x1, .int x3, .int x3, .int (nI (2 ^ l9)), .int x2, .int 0])))) := by
  refine MC.enter (cc := cX10_init) (maxL := 5) (ret := none) (lv0 := [some (.ref a), some (.int x1), some (.int x2), some (.int x3), some (.int (nI l9))]) (by decide) rfl (by simp [Value.category]) (Nat.le_of_ble_eq_true rfl) rfl ?_
  intro X hl hE C D
  subst hl
  subst hE
  refine r_aload_n (pq := 1) C dX10_init_0 rfl rfl ?_
  refine r_iload_n (pq := 2) C dX10_init_1 rfl rfl ?_
  refine r_iload_n (pq := 3) C dX10_init_2 rfl rfl ?_
  refine r_iload_n (pq := 4) C dX10_init_3 rfl rfl ?_
  refine r_iload (pq := 6) C dX10_init_4 rfl rfl ?_
  refine r_callI (pq := 9) C (mc_X1_init hci hl hr) gX10_init_X1_init rfl (by decide +kernel) (by decide +kernel) (by decide +kernel) (na := 4) (by decide +kernel) rfl (by decide) (by decide) (Nat.le_of_ble_eq_true rfl) ⟨Nat.zero_le _, Nat.zero_le _⟩ dX10_init_6 rfl rfl (fun r9 w9 hq => ?_)
  obtain ⟨rfl, rfl⟩ := hq
  dsimp only [Option.toList, List.cons_append, List.nil_append]
  refine r_vret C D rfl ⟨Nat.le_refl _, Nat.le_refl _⟩ dX10_init_9 ?_
  exact ⟨rfl, rfl⟩

set_option maxHeartbeats 4000000 in
set_option maxRecDepth 100000 in
/-- init -/
theorem mc_X6_init {l : Launch} {E : EV} {w : RW} {r a ci l9 : Nat} (hci : isM ci) (hl : l9 < 8) {x1 x2 x3 x4 : Int32} (hr : w r = some (a, .inr (ci, [.int 0, .int 0, .int 0, .int 0, .int 0, .int 0]))) : MC l E yX6_init wsX6_init 3 0 0 [.ref a, .int x1, .int x2, .int x3, .int x4, .int (nI l9)] (w) (fun v w' => v = none ∧ w' = va_up w r (some (a, .inr (ci, [.int x1, .int x3, .int x4, .int (nI (255 - 2 ^ l9)), .int x2, .int 0])))) := by
  refine MC.enter (cc := cX6_init) (maxL := 6) (ret := none) (lv0 := [some (.ref a), some (.int x1), some (.int x2), some (.int x3), some (.int x4), some (.int (nI l9))]) (by decide) rfl (by simp [Value.category]) (Nat.le_of_ble_eq_true rfl) rfl ?_
  intro X hl hE C D
  subst hl
  subst hE
  have hpw := pw8 hl
  refine r_aload_n (pq := 1) C dX6_init_0 rfl rfl ?_
  refine r_iload_n (pq := 2) C dX6_init_1 rfl rfl ?_
  refine r_iload_n (pq := 3) C dX6_init_2 rfl rfl ?_
  refine r_iload_n (pq := 4) C dX6_init_3 rfl rfl ?_
  refine r_iload (pq := 6) C dX6_init_4 rfl rfl ?_
  refine r_sipush (v := nI 255) (pq := 9) C dX6_init_6 (by decide) rfl ?_
  refine r_iconst (v := nI 1) (pq := 10) C dX6_init_9 (by decide) rfl ?_
  refine r_iload (pq := 12) C dX6_init_10 rfl rfl ?_
  refine rN_ishl (pq := 13) C dX6_init_12 (by omega) (by omega) rfl ?_
  refine r_iconst (v := (-1)) (pq := 14) C dX6_init_13 (by decide) rfl ?_
  refine r_ixor (pq := 15) C dX6_init_14 rfl ?_
  refine r_iand (pq := 16) C dX6_init_15 rfl ?_
  refine r_at (st_c l9 hl) ?_
  refine r_callI (pq := 19) C (mc_X5_init hci hr) gX6_init_X5_init rfl (by decide +kernel) (by decide +kernel) (by decide +kernel) (na := 5) (by decide +kernel) rfl (by decide) (by decide) (Nat.le_of_ble_eq_true rfl) ⟨Nat.zero_le _, Nat.zero_le _⟩ dX6_init_16 rfl rfl (fun r9 w9 hq => ?_)
  obtain ⟨rfl, rfl⟩ := hq
  dsimp only [Option.toList, List.cons_append, List.nil_append]
  refine r_vret C D rfl ⟨Nat.le_refl _, Nat.le_refl _⟩ dX6_init_19 ?_
  exact ⟨rfl, rfl⟩

set_option maxHeartbeats 4000000 in
set_option maxRecDepth 100000 in
/-- kind -/
theorem mc_X5_kind {l : Launch} {E : EV} {w : RW} {a : Nat} : MC l E yX5_kind wsX5_kind 0 0 0 [.ref a] (w) (fun v w' => w' = w ∧ v = some (.int (nI 0))) := by
  refine MC.enter (cc := cX5_kind) (maxL := 1) (ret := (some .int)) (lv0 := [some (.ref a)]) (by decide) rfl (by simp [Value.category]) (Nat.le_of_ble_eq_true rfl) rfl ?_
  intro X hl hE C D
  subst hl
  subst hE
  refine r_iconst (v := nI 0) (pq := 1) C dX5_kind_0 (by decide) rfl ?_
  refine r_iret C D rfl ⟨Nat.le_refl _, Nat.le_refl _⟩ dX5_kind_1 ?_
  exact ⟨rfl, rfl⟩

set_option maxHeartbeats 4000000 in
set_option maxRecDepth 100000 in
/-- kind -/
theorem mc_X1_kind {l : Launch} {E : EV} {w : RW} {a : Nat} : MC l E yX1_kind wsX1_kind 0 0 0 [.ref a] (w) (fun v w' => w' = w ∧ v = some (.int (nI 1))) := by
  refine MC.enter (cc := cX1_kind) (maxL := 1) (ret := (some .int)) (lv0 := [some (.ref a)]) (by decide) rfl (by simp [Value.category]) (Nat.le_of_ble_eq_true rfl) rfl ?_
  intro X hl hE C D
  subst hl
  subst hE
  refine r_iconst (v := nI 1) (pq := 1) C dX1_kind_0 (by decide) rfl ?_
  refine r_iret C D rfl ⟨Nat.le_refl _, Nat.le_refl _⟩ dX1_kind_1 ?_
  exact ⟨rfl, rfl⟩

set_option maxHeartbeats 4000000 in
set_option maxRecDepth 100000 in
/-- kind -/
theorem mc_X6_kind {l : Launch} {E : EV} {w : RW} {a : Nat} : MC l E yX6_kind wsX6_kind 0 0 0 [.ref a] (w) (fun v w' => w' = w ∧ v = some (.int (nI 2))) := by
  refine MC.enter (cc := cX6_kind) (maxL := 1) (ret := (some .int)) (lv0 := [some (.ref a)]) (by decide) rfl (by simp [Value.category]) (Nat.le_of_ble_eq_true rfl) rfl ?_
  intro X hl hE C D
  subst hl
  subst hE
  refine r_iconst (v := nI 2) (pq := 1) C dX6_kind_0 (by decide) rfl ?_
  refine r_iret C D rfl ⟨Nat.le_refl _, Nat.le_refl _⟩ dX6_kind_1 ?_
  exact ⟨rfl, rfl⟩

set_option maxHeartbeats 4000000 in
set_option maxRecDepth 100000 in
/-- kind -/
theorem mc_X10_kind {l : Launch} {E : EV} {w : RW} {a : Nat} : MC l E yX10_kind wsX10_kind 0 0 0 [.ref a] (w) (fun v w' => w' = w ∧ v = some (.int (nI 3))) := by
  refine MC.enter (cc := cX10_kind) (maxL := 1) (ret := (some .int)) (lv0 := [some (.ref a)]) (by decide) rfl (by simp [Value.category]) (Nat.le_of_ble_eq_true rfl) rfl ?_
  intro X hl hE C D
  subst hl
  subst hE
  refine r_iconst (v := nI 3) (pq := 1) C dX10_kind_0 (by decide) rfl ?_
  refine r_iret C D rfl ⟨Nat.le_refl _, Nat.le_refl _⟩ dX10_kind_1 ?_
  exact ⟨rfl, rfl⟩

set_option maxHeartbeats 4000000 in
set_option maxRecDepth 100000 in
/-- kind -/
theorem mc_X9_kind {l : Launch} {E : EV} {w : RW} {a : Nat} : MC l E yX9_kind wsX9_kind 0 0 0 [.ref a] (w) (fun v w' => w' = w ∧ v = some (.int (nI 0))) := by
  refine MC.enter (cc := cX9_kind) (maxL := 1) (ret := (some .int)) (lv0 := [some (.ref a)]) (by decide) rfl (by simp [Value.category]) (Nat.le_of_ble_eq_true rfl) rfl ?_
  intro X hl hE C D
  subst hl
  subst hE
  refine r_iconst (v := nI 0) (pq := 1) C dX9_kind_0 (by decide) rfl ?_
  refine r_iret C D rfl ⟨Nat.le_refl _, Nat.le_refl _⟩ dX9_kind_1 ?_
  exact ⟨rfl, rfl⟩

set_option maxHeartbeats 4000000 in
set_option maxRecDepth 100000 in
/-- kind -/
theorem mc_X7_kind {l : Launch} {E : EV} {w : RW} {a : Nat} : MC l E yX7_kind wsX7_kind 0 0 0 [.ref a] (w) (fun v w' => w' = w ∧ v = some (.int (nI 1))) := by
  refine MC.enter (cc := cX7_kind) (maxL := 1) (ret := (some .int)) (lv0 := [some (.ref a)]) (by decide) rfl (by simp [Value.category]) (Nat.le_of_ble_eq_true rfl) rfl ?_
  intro X hl hE C D
  subst hl
  subst hE
  refine r_iconst (v := nI 1) (pq := 1) C dX7_kind_0 (by decide) rfl ?_
  refine r_iret C D rfl ⟨Nat.le_refl _, Nat.le_refl _⟩ dX7_kind_1 ?_
  exact ⟨rfl, rfl⟩

set_option maxHeartbeats 4000000 in
set_option maxRecDepth 100000 in
/-- kind -/
theorem mc_X3_kind {l : Launch} {E : EV} {w : RW} {a : Nat} : MC l E yX3_kind wsX3_kind 0 0 0 [.ref a] (w) (fun v w' => w' = w ∧ v = some (.int (nI 2))) := by
  refine MC.enter (cc := cX3_kind) (maxL := 1) (ret := (some .int)) (lv0 := [some (.ref a)]) (by decide) rfl (by simp [Value.category]) (Nat.le_of_ble_eq_true rfl) rfl ?_
  intro X hl hE C D
  subst hl
  subst hE
  refine r_iconst (v := nI 2) (pq := 1) C dX3_kind_0 (by decide) rfl ?_
  refine r_iret C D rfl ⟨Nat.le_refl _, Nat.le_refl _⟩ dX3_kind_1 ?_
  exact ⟨rfl, rfl⟩

set_option maxHeartbeats 4000000 in
set_option maxRecDepth 100000 in
/-- kind -/
theorem mc_X0_kind {l : Launch} {E : EV} {w : RW} {a : Nat} : MC l E yX0_kind wsX0_kind 0 0 0 [.ref a] (w) (fun v w' => w' = w ∧ v = some (.int (nI 3))) := by
  refine MC.enter (cc := cX0_kind) (maxL := 1) (ret := (some .int)) (lv0 := [some (.ref a)]) (by decide) rfl (by simp [Value.category]) (Nat.le_of_ble_eq_true rfl) rfl ?_
  intro X hl hE C D
  subst hl
  subst hE
  refine r_iconst (v := nI 3) (pq := 1) C dX0_kind_0 (by decide) rfl ?_
  refine r_iret C D rfl ⟨Nat.le_refl _, Nat.le_refl _⟩ dX0_kind_1 ?_
  exact ⟨rfl, rfl⟩

set_option maxHeartbeats 4000000 in
set_option maxRecDepth 100000 in
/-- givesWay -/
theorem mc_X5_givesWay {l : Launch} {E : EV} {w : RW} {a : Nat} : MC l E yX5_givesWay wsX5_givesWay 0 0 0 [.ref a] (w) (fun v w' => w' = w ∧ v = some (.int (nI 0))) := by
  refine MC.enter (cc := cX5_givesWay) (maxL := 1) (ret := (some .boolean)) (lv0 := [some (.ref a)]) (by decide) rfl (by simp [Value.category]) (Nat.le_of_ble_eq_true rfl) rfl ?_
  intro X hl hE C D
  subst hl
  subst hE
  refine r_iconst (v := nI 0) (pq := 1) C dX5_givesWay_0 (by decide) rfl ?_
  refine r_zret C D rfl (by decide) ⟨Nat.le_refl _, Nat.le_refl _⟩ dX5_givesWay_1 ?_
  exact ⟨rfl, rfl⟩

set_option maxHeartbeats 4000000 in
set_option maxRecDepth 100000 in
/-- givesWay -/
theorem mc_X10_givesWay {l : Launch} {E : EV} {w : RW} {a : Nat} : MC l E yX10_givesWay wsX10_givesWay 0 0 0 [.ref a] (w) (fun v w' => w' = w ∧ v = some (.int (nI 1))) := by
  refine MC.enter (cc := cX10_givesWay) (maxL := 1) (ret := (some .boolean)) (lv0 := [some (.ref a)]) (by decide) rfl (by simp [Value.category]) (Nat.le_of_ble_eq_true rfl) rfl ?_
  intro X hl hE C D
  subst hl
  subst hE
  refine r_iconst (v := nI 1) (pq := 1) C dX10_givesWay_0 (by decide) rfl ?_
  refine r_zret C D rfl (by decide) ⟨Nat.le_refl _, Nat.le_refl _⟩ dX10_givesWay_1 ?_
  exact ⟨rfl, rfl⟩

set_option maxHeartbeats 4000000 in
set_option maxRecDepth 100000 in
/-- bindsTrips -/
theorem mc_X9_bindsTrips {l : Launch} {E : EV} {w : RW} {a : Nat} : MC l E yX9_bindsTrips wsX9_bindsTrips 0 0 0 [.ref a] (w) (fun v w' => w' = w ∧ v = some (.int (nI 1))) := by
  refine MC.enter (cc := cX9_bindsTrips) (maxL := 1) (ret := (some .boolean)) (lv0 := [some (.ref a)]) (by decide) rfl (by simp [Value.category]) (Nat.le_of_ble_eq_true rfl) rfl ?_
  intro X hl hE C D
  subst hl
  subst hE
  refine r_iconst (v := nI 1) (pq := 1) C dX9_bindsTrips_0 (by decide) rfl ?_
  refine r_zret C D rfl (by decide) ⟨Nat.le_refl _, Nat.le_refl _⟩ dX9_bindsTrips_1 ?_
  exact ⟨rfl, rfl⟩

set_option maxHeartbeats 4000000 in
set_option maxRecDepth 100000 in
/-- bindsTrips -/
theorem mc_X3_bindsTrips {l : Launch} {E : EV} {w : RW} {a : Nat} : MC l E yX3_bindsTrips wsX3_bindsTrips 0 0 0 [.ref a] (w) (fun v w' => w' = w ∧ v = some (.int (nI 0))) := by
  refine MC.enter (cc := cX3_bindsTrips) (maxL := 1) (ret := (some .boolean)) (lv0 := [some (.ref a)]) (by decide) rfl (by simp [Value.category]) (Nat.le_of_ble_eq_true rfl) rfl ?_
  intro X hl hE C D
  subst hl
  subst hE
  refine r_iconst (v := nI 0) (pq := 1) C dX3_bindsTrips_0 (by decide) rfl ?_
  refine r_zret C D rfl (by decide) ⟨Nat.le_refl _, Nat.le_refl _⟩ dX3_bindsTrips_1 ?_
  exact ⟨rfl, rfl⟩

set_option maxHeartbeats 4000000 in
set_option maxRecDepth 100000 in
/-- fail -/
theorem mc_X10_fail {l : Launch} {E : EV} {w : RW} {a : Nat} : MC l E yX10_fail wsX10_fail 0 0 0 [.ref a] (w) (fun r w' => r = none ∧ w' = w) := by
  refine MC.enter (cc := cX10_fail) (maxL := 1) (ret := none) (lv0 := [some (.ref a)]) (by decide) rfl (by simp [Value.category]) (Nat.le_of_ble_eq_true rfl) rfl ?_
  intro X hl hE C D
  subst hl
  subst hE
  refine r_vret C D rfl ⟨Nat.le_refl _, Nat.le_refl _⟩ dX10_fail_0 ?_
  exact ⟨rfl, rfl⟩

set_option maxHeartbeats 4000000 in
set_option maxRecDepth 100000 in
/-- fail -/
theorem mc_X3_fail {l : Launch} {E : EV} {w : RW} {a : Nat} : MC l E yX3_fail wsX3_fail 0 0 0 [.ref a] (w) (fun r w' => r = none ∧ w' = w) := by
  refine MC.enter (cc := cX3_fail) (maxL := 1) (ret := none) (lv0 := [some (.ref a)]) (by decide) rfl (by simp [Value.category]) (Nat.le_of_ble_eq_true rfl) rfl ?_
  intro X hl hE C D
  subst hl
  subst hE
  refine r_vret C D rfl ⟨Nat.le_refl _, Nat.le_refl _⟩ dX3_fail_0 ?_
  exact ⟨rfl, rfl⟩

theorem cl_some {ci : Nat} (h : ci < 14) : vwCl[ci]? = some (vwCl[ci]'h) := List.getElem?_eq_getElem h
set_option maxHeartbeats 4000000 in
set_option maxRecDepth 100000 in
/-- heft -/
theorem mc_X5_heft {l : Launch} {E : EV} {w : RW} {r a ci m9 a9 b9 l9 p9 z9 : Nat} (hci : isM ci) (hab : a9 ≤ b9) (hb9 : b9 < 400) (hr : w r = some (a, .inr (ci, [.int (nI m9), .int (nI a9), .int (nI b9), .int (nI l9), .int (nI p9), .int (nI z9)]))) : MC l E yX5_heft wsX5_heft 0 0 0 [.ref a] (w) (fun v w' => w' = w ∧ v = some (.int (nI (2 + b9 - a9)))) := by
  refine MC.enter (cc := cX5_heft) (maxL := 1) (ret := (some .int)) (lv0 := [some (.ref a)]) (by decide) rfl (by simp [Value.category]) (Nat.le_of_ble_eq_true rfl) rfl ?_
  intro X hl hE C D
  subst hl
  subst hE
  refine r_iconst (v := nI 1) (pq := 1) C dX5_heft_0 (by decide) rfl ?_
  refine r_aload_n (pq := 2) C dX5_heft_1 rfl rfl ?_
  refine r_getM (pq := 5) C hci 2 hr (by decide) (by decide +kernel) rfl rfl dX5_heft_2 rfl ?_
  refine r_aload_n (pq := 6) C dX5_heft_5 rfl rfl ?_
  refine r_getM (pq := 9) C hci 1 hr (by decide) (by decide +kernel) rfl rfl dX5_heft_6 rfl ?_
  refine rN_isub (pq := 10) C dX5_heft_9 (by omega) rfl ?_
  refine r_iconst (v := nI 1) (pq := 11) C dX5_heft_10 (by decide) rfl ?_
  refine rN_iadd (pq := 12) C dX5_heft_11 rfl ?_
  refine rN_iadd (pq := 13) C dX5_heft_12 rfl ?_
  refine r_iret C D rfl ⟨Nat.le_refl _, Nat.le_refl _⟩ dX5_heft_13 ?_
  refine ⟨rfl, ?_⟩
  congr 3
  omega

set_option maxHeartbeats 4000000 in
set_option maxRecDepth 100000 in
/-- heft -/
theorem mc_X1_heft {l : Launch} {E : EV} {w : RW} {r a ci m9 a9 b9 l9 p9 z9 : Nat} (hci : isM ci) (hab : a9 ≤ b9) (hb9 : b9 < 400) (hr : w r = some (a, .inr (ci, [.int (nI m9), .int (nI a9), .int (nI b9), .int (nI l9), .int (nI p9), .int (nI z9)]))) : MC l E yX1_heft wsX1_heft 1 0 0 [.ref a] (w) (fun v w' => w' = w ∧ v = some (.int (nI (52 + b9 - a9)))) := by
  refine MC.enter (cc := cX1_heft) (maxL := 1) (ret := (some .int)) (lv0 := [some (.ref a)]) (by decide) rfl (by simp [Value.category]) (Nat.le_of_ble_eq_true rfl) rfl ?_
  intro X hl hE C D
  subst hl
  subst hE
  refine r_aload_n (pq := 1) C dX1_heft_0 rfl rfl ?_
  refine r_callSU (pq := 4) C (mc_X5_heft hci hab hb9 hr) hr (cl_some (by unfold isM at hci; omega)) gX1_heft_X5_heft_s9 rfl (na := 0) (by decide +kernel) rfl (by decide) (by decide) (Nat.le_of_ble_eq_true rfl) ⟨Nat.zero_le _, Nat.zero_le _⟩ dX1_heft_1 rfl rfl (fun r9 w9 hq => ?_)
  obtain ⟨rfl, rfl⟩ := hq
  dsimp only [Option.toList, List.cons_append, List.nil_append]
  refine r_bipush (v := nI 50) (pq := 6) C dX1_heft_4 (by decide) rfl ?_
  refine rN_iadd (pq := 7) C dX1_heft_6 rfl ?_
  refine r_iret C D rfl ⟨Nat.le_refl _, Nat.le_refl _⟩ dX1_heft_7 ?_
  refine ⟨rfl, ?_⟩
  congr 3
  omega

set_option maxHeartbeats 4000000 in
set_option maxRecDepth 100000 in
/-- heft -/
theorem mc_X6_heft {l : Launch} {E : EV} {w : RW} {r a ci m9 a9 b9 l9 p9 z9 : Nat} (hci : isM ci) (hab : a9 ≤ b9) (hb9 : b9 < 400) (hr : w r = some (a, .inr (ci, [.int (nI m9), .int (nI a9), .int (nI b9), .int (nI l9), .int (nI p9), .int (nI z9)]))) : MC l E yX6_heft wsX6_heft 1 0 0 [.ref a] (w) (fun v w' => w' = w ∧ v = some (.int (nI (72 + b9 - a9)))) := by
  refine MC.enter (cc := cX6_heft) (maxL := 1) (ret := (some .int)) (lv0 := [some (.ref a)]) (by decide) rfl (by simp [Value.category]) (Nat.le_of_ble_eq_true rfl) rfl ?_
  intro X hl hE C D
  subst hl
  subst hE
  refine r_aload_n (pq := 1) C dX6_heft_0 rfl rfl ?_
  refine r_callSU (pq := 4) C (mc_X5_heft hci hab hb9 hr) hr (cl_some (by unfold isM at hci; omega)) gX6_heft_X5_heft_s9 rfl (na := 0) (by decide +kernel) rfl (by decide) (by decide) (Nat.le_of_ble_eq_true rfl) ⟨Nat.zero_le _, Nat.zero_le _⟩ dX6_heft_1 rfl rfl (fun r9 w9 hq => ?_)
  obtain ⟨rfl, rfl⟩ := hq
  dsimp only [Option.toList, List.cons_append, List.nil_append]
  refine r_bipush (v := nI 70) (pq := 6) C dX6_heft_4 (by decide) rfl ?_
  refine rN_iadd (pq := 7) C dX6_heft_6 rfl ?_
  refine r_iret C D rfl ⟨Nat.le_refl _, Nat.le_refl _⟩ dX6_heft_7 ?_
  refine ⟨rfl, ?_⟩
  congr 3
  omega

set_option maxHeartbeats 4000000 in
set_option maxRecDepth 100000 in
/-- heft -/
theorem mc_X10_heft {l : Launch} {E : EV} {w : RW} {r a ci m9 a9 b9 l9 p9 z9 : Nat} (hci : isM ci) (hab : a9 ≤ b9) (hb9 : b9 < 400) (hr : w r = some (a, .inr (ci, [.int (nI m9), .int (nI a9), .int (nI b9), .int (nI l9), .int (nI p9), .int (nI z9)]))) : MC l E yX10_heft wsX10_heft 2 0 0 [.ref a] (w) (fun v w' => w' = w ∧ v = some (.int (nI (2 * (52 + b9 - a9))))) := by
  refine MC.enter (cc := cX10_heft) (maxL := 1) (ret := (some .int)) (lv0 := [some (.ref a)]) (by decide) rfl (by simp [Value.category]) (Nat.le_of_ble_eq_true rfl) rfl ?_
  intro X hl hE C D
  subst hl
  subst hE
  refine r_iconst (v := nI 2) (pq := 1) C dX10_heft_0 (by decide) rfl ?_
  refine r_aload_n (pq := 2) C dX10_heft_1 rfl rfl ?_
  refine r_callSU (pq := 5) C (mc_X1_heft hci hab hb9 hr) hr (cl_some (by unfold isM at hci; omega)) gX10_heft_X1_heft_s9 rfl (na := 0) (by decide +kernel) rfl (by decide) (by decide) (Nat.le_of_ble_eq_true rfl) ⟨Nat.zero_le _, Nat.zero_le _⟩ dX10_heft_2 rfl rfl (fun r9 w9 hq => ?_)
  obtain ⟨rfl, rfl⟩ := hq
  dsimp only [Option.toList, List.cons_append, List.nil_append]
  refine rN_imul (pq := 6) C dX10_heft_5 rfl ?_
  refine r_iret C D rfl ⟨Nat.le_refl _, Nat.le_refl _⟩ dX10_heft_6 ?_
  exact ⟨rfl, rfl⟩

set_option maxHeartbeats 4000000 in
set_option maxRecDepth 100000 in
/-- failureNumber -/
theorem mc_X5_failureNumber {l : Launch} {E : EV} {w : RW} {r a ci m9 a9 b9 l9 p9 z9 : Nat} (hci : isM ci) (hab : a9 ≤ b9) (hb9 : b9 < 400) (hr : w r = some (a, .inr (ci, [.int (nI m9), .int (nI a9), .int (nI b9), .int (nI l9), .int (nI p9), .int (nI z9)]))) : MC l E yX5_failureNumber wsX5_failureNumber 0 0 0 [.ref a] (w) (fun v w' => w' = w ∧ v = some (.int (nI (100 + m9)))) := by
  refine MC.enter (cc := cX5_failureNumber) (maxL := 1) (ret := (some .int)) (lv0 := [some (.ref a)]) (by decide) rfl (by simp [Value.category]) (Nat.le_of_ble_eq_true rfl) rfl ?_
  intro X hl hE C D
  subst hl
  subst hE
  refine r_bipush (v := nI 100) (pq := 2) C dX5_failureNumber_0 (by decide) rfl ?_
  refine r_aload_n (pq := 3) C dX5_failureNumber_2 rfl rfl ?_
  refine r_getM (pq := 6) C hci 0 hr (by decide) (by decide +kernel) rfl rfl dX5_failureNumber_3 rfl ?_
  refine rN_iadd (pq := 7) C dX5_failureNumber_6 rfl ?_
  refine r_iret C D rfl ⟨Nat.le_refl _, Nat.le_refl _⟩ dX5_failureNumber_7 ?_
  exact ⟨rfl, rfl⟩

theorem mx_0 {n : Nat} (h : n < 2147483648) : (if nI n < nI 0 then nI 0 else nI n) = nI n := by
  rw [if_neg]
  rw [nI_0]
  exact nI_pos h
set_option maxHeartbeats 4000000 in
set_option maxRecDepth 100000 in
/-- init -/
theorem mc_X4_init {l : Launch} {E : EV} {w : RW} {r rc a z9 n9 : Nat} (hz : z9 < 2) (hn : n9 ≤ 400) (hne : r ≠ rc) {x : Int32} {y : Value} (hr : w r = some (a, .inr (5, [.int x, y]))) : MC l E yX4_init wsX4_init 2 1 n9 [.ref a, .int (nI z9), .int (nI n9)] (w) (fun v w' => v = none ∧ ∃ q, w' r = some (a, .inr (5, [.int (nI z9), .ref q])) ∧ w' rc = some (q, .inl (E.2.1 2, n9, .inl (fun _ => 0))) ∧ ∀ j, j ≠ r → j ≠ rc → w' j = w j) := by
  refine MC.enter (cc := cX4_init) (maxL := 3) (ret := none) (lv0 := [some (.ref a), some (.int (nI z9)), some (.int (nI n9))]) (by decide) rfl (by simp [Value.category]) (Nat.le_of_ble_eq_true rfl) rfl ?_
  intro X hl hE C D
  subst hl
  subst hE
  refine r_aload_n (pq := 1) C dX4_init_0 rfl rfl ?_
  refine r_callIN (pq := 4) C (mc_X2_init ) (by decide +kernel) gX4_init_X2_init_n3 rfl (by decide +kernel) (by decide +kernel) (na := 0) (by decide +kernel) rfl (by decide) (by decide) (Nat.le_of_ble_eq_true rfl) ⟨by rw [D.2.2.2.1]; decide, by rw [D.2.2.2.2.1]; omega⟩ dX4_init_1 rfl rfl (fun r9 w9 hq => ?_)
  obtain ⟨rfl, rfl⟩ := hq
  dsimp only [Option.toList, List.cons_append, List.nil_append]
  refine r_aload_n (pq := 5) C dX4_init_4 rfl rfl ?_
  refine r_iload_n (pq := 6) C dX4_init_5 rfl rfl ?_
  refine r_putfF (pq := 9) C D.2.2.1 0 hr rfl tyX4 tyX4_ok nmX4 (by decide) (by decide +kernel) rfl rfl rfl rfl (by rcases na_01 hz with e | e <;> rw [e] <;> rfl) (by rcases na_01 hz with e | e <;> rw [e] <;> rfl) (Nat.le_of_ble_eq_true rfl) dX4_init_6 rfl ?_
  refine r_aload_n (pq := 10) C dX4_init_9 rfl rfl ?_
  refine r_iload_n (pq := 11) C dX4_init_10 rfl rfl ?_
  refine r_iconst (v := nI 0) (pq := 12) C dX4_init_11 (by decide) rfl ?_
  refine r_max (pq := 15) C (by decide +kernel) (by decide +kernel) (by decide +kernel) (by decide +kernel) (by decide) (Nat.le_of_ble_eq_true rfl) ⟨by rw [D.2.2.2.1]; decide, by rw [D.2.2.2.2.1]; omega⟩ dX4_init_12 rfl ?_
  refine r_at (mx_0 (by omega)) ?_
  refine r_newa (pq := 17) C (N := n9) (a0 := (n9, .inl (fun _ => 0))) rc 2 _ rfl (fun s c1 c2 h g => Option.some.inj (h.symm.trans g)) (by decide +kernel) rfl (fun c => rfl) (nI_pos (by omega)) (nI_clamp (by omega)) (by show n9 * 2 ≤ _; omega) (by rw [D.2.2.2.1]; exact Nat.le_refl _) (by rw [D.2.2.2.2.1]; omega) dX4_init_15 rfl (fun q => ?_)
  refine r_putfF (pq := 20) C D.2.2.1 1 ((va_n _ _ hne).trans (va_s _ _ _)) rfl tyX4 tyX4_ok nmX4 (by decide) (by decide +kernel) rfl rfl rfl rfl rfl rfl (Nat.le_of_ble_eq_true rfl) dX4_init_17 rfl ?_
  refine r_vret C D rfl ⟨Nat.le_refl _, by omega⟩ dX4_init_20 ?_
  refine ⟨rfl, q, ?_, ?_, ?_⟩
  · exact va_s _ _ _
  · rw [va_n _ _ (Ne.symm hne), va_s]
  · intro j h1 h2
    rw [va_n _ _ h1, va_n _ _ h2, va_n _ _ h1]

set_option maxHeartbeats 4000000 in
set_option maxRecDepth 100000 in
/-- heft -/
theorem mc_X4_heft {l : Launch} {E : EV} {w : RW} {a : Nat} : MC l E yX4_heft wsX4_heft 0 0 0 [.ref a] (w) (fun v w' => w' = w ∧ v = some (.int (-12))) := by
  refine MC.enter (cc := cX4_heft) (maxL := 1) (ret := (some .int)) (lv0 := [some (.ref a)]) (by decide) rfl (by simp [Value.category]) (Nat.le_of_ble_eq_true rfl) rfl ?_
  intro X hl hE C D
  subst hl
  subst hE
  refine r_bipush (v := (-12)) (pq := 2) C dX4_heft_0 (by decide) rfl ?_
  refine r_iret C D rfl ⟨Nat.le_refl _, Nat.le_refl _⟩ dX4_heft_2 ?_
  exact ⟨rfl, rfl⟩

set_option maxHeartbeats 4000000 in
set_option maxRecDepth 100000 in
/-- hasPlaces -/
theorem mc_X4_hasPlaces {l : Launch} {E : EV} {w : RW} {r rc a q z9 n9 : Nat} (hn : n9 ≤ 400) {h9 : Nat → Int32} (hr : w r = some (a, .inr (5, [.int (nI z9), .ref q]))) (hc : w rc = some (q, .inl (E.2.1 2, n9, .inl h9))) {x y : Int32} : MC l E yX4_hasPlaces wsX4_hasPlaces 0 0 0 [.ref a, .int x, .int y] (w) (fun v w' => w' = w ∧ v = some (.int (nI (b2 (0 ≤ x.toInt ∧ 0 ≤ y.toInt ∧ x.toInt + y.toInt ≤ (n9 : Int)))))) := by
  refine MC.enter (cc := cX4_hasPlaces) (maxL := 3) (ret := (some .boolean)) (lv0 := [some (.ref a), some (.int x), some (.int y)]) (by decide) rfl (by simp [Value.category]) (Nat.le_of_ble_eq_true rfl) rfl ?_
  intro X hl hE C D
  subst hl
  subst hE
  refine r_iload_n (pq := 1) C dX4_hasPlaces_0 rfl rfl ?_
  refine r_if_lt (tg := 23) (pq := 4) C dX4_hasPlaces_1 (by decide) rfl (fun c1 => ?_) (fun c1 => ?_)
  · refine r_iconst (v := nI 0) (pq := 24) C dX4_hasPlaces_23 (by decide) rfl ?_
    refine r_zret C D rfl (by decide) ⟨Nat.le_refl _, Nat.le_refl _⟩ dX4_hasPlaces_24 ?_
    refine ⟨rfl, ?_⟩
    simp only [le_i, lt_i] at *
    have r1 := fb_rng x
    have r2 := fb_rng y
    have t0 : (0 : Int32).toInt = 0 := rfl
    have t1 : (nI n9).toInt = n9 := nI_toInt (by omega)
    first | rw [b2_f (by omega)] | (have t2 : (nI n9 - y).toInt = (nI n9).toInt - y.toInt := fb_subI (by omega) (by omega); first | rw [b2_f (by omega)] | rw [b2_t (by omega)])
  · refine r_iload_n (pq := 5) C dX4_hasPlaces_4 rfl rfl ?_
    refine r_if_lt (tg := 23) (pq := 8) C dX4_hasPlaces_5 (by decide) rfl (fun c5 => ?_) (fun c5 => ?_)
    · refine r_iconst (v := nI 0) (pq := 24) C dX4_hasPlaces_23 (by decide) rfl ?_
      refine r_zret C D rfl (by decide) ⟨Nat.le_refl _, Nat.le_refl _⟩ dX4_hasPlaces_24 ?_
      refine ⟨rfl, ?_⟩
      simp only [le_i, lt_i] at *
      have r1 := fb_rng x
      have r2 := fb_rng y
      have t0 : (0 : Int32).toInt = 0 := rfl
      have t1 : (nI n9).toInt = n9 := nI_toInt (by omega)
      first | rw [b2_f (by omega)] | (have t2 : (nI n9 - y).toInt = (nI n9).toInt - y.toInt := fb_subI (by omega) (by omega); first | rw [b2_f (by omega)] | rw [b2_t (by omega)])
    · refine r_iload_n (pq := 9) C dX4_hasPlaces_8 rfl rfl ?_
      refine r_aload_n (pq := 10) C dX4_hasPlaces_9 rfl rfl ?_
      refine r_getf (pq := 13) C 1 hr rfl (by decide) (by decide +kernel) (Or.inl rfl) rfl dX4_hasPlaces_10 rfl ?_
      refine r_alen (pq := 14) C (v := nI n9) 2 rfl hc rfl dX4_hasPlaces_13 rfl ?_
      refine r_iload_n (pq := 15) C dX4_hasPlaces_14 rfl rfl ?_
      refine r_isub (pq := 16) C dX4_hasPlaces_15 rfl ?_
      refine r_icmp_gt (tg := 23) (pq := 19) C dX4_hasPlaces_16 (by decide) rfl (fun c16 => ?_) (fun c16 => ?_)
      · refine r_iconst (v := nI 0) (pq := 24) C dX4_hasPlaces_23 (by decide) rfl ?_
        refine r_zret C D rfl (by decide) ⟨Nat.le_refl _, Nat.le_refl _⟩ dX4_hasPlaces_24 ?_
        refine ⟨rfl, ?_⟩
        simp only [le_i, lt_i] at *
        have r1 := fb_rng x
        have r2 := fb_rng y
        have t0 : (0 : Int32).toInt = 0 := rfl
        have t1 : (nI n9).toInt = n9 := nI_toInt (by omega)
        first | rw [b2_f (by omega)] | (have t2 : (nI n9 - y).toInt = (nI n9).toInt - y.toInt := fb_subI (by omega) (by omega); first | rw [b2_f (by omega)] | rw [b2_t (by omega)])
      · refine r_iconst (v := nI 1) (pq := 20) C dX4_hasPlaces_19 (by decide) rfl ?_
        refine r_goto (tg := 24) C dX4_hasPlaces_20 (by decide) ?_
        refine r_zret C D rfl (by decide) ⟨Nat.le_refl _, Nat.le_refl _⟩ dX4_hasPlaces_24 ?_
        refine ⟨rfl, ?_⟩
        simp only [le_i, lt_i] at *
        have r1 := fb_rng x
        have r2 := fb_rng y
        have t0 : (0 : Int32).toInt = 0 := rfl
        have t1 : (nI n9).toInt = n9 := nI_toInt (by omega)
        first | rw [b2_f (by omega)] | (have t2 : (nI n9 - y).toInt = (nI n9).toInt - y.toInt := fb_subI (by omega) (by omega); first | rw [b2_f (by omega)] | rw [b2_t (by omega)])


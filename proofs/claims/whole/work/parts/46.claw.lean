/-! ===== the class: laws ===== -/
theorem wsm_s1 (h : Nat → Nat) {R d : Nat} (hd : d < R) : wsm h R (d + 1) = wsm h R d + h d := by
  unfold wsm
  rw [show d + 1 - R = 0 by omega, show d - R = 0 by omega]
  exact sl_s h (Nat.zero_le _)
theorem wsm_s2 (h : Nat → Nat) {R d : Nat} (hR : 1 ≤ R) (hd : R ≤ d) : wsm h R (d + 1) + h (d - R) = wsm h R d + h d := by
  unfold wsm sl
  have e : d + 1 - R = d - R + 1 := by omega
  have m1 := ps_mono h (show d - R + 1 ≤ d by omega)
  rw [e]
  simp only [ps] at *
  omega
theorem wsm_in {h h' : Nat → Nat} {R e k : Nat} (hh : ∀ i, i ≠ k → h' i = h i) (h1 : e - R ≤ k) (h2 : k < e) : wsm h' R e + h k = wsm h R e + h' k := by
  have q1 := ps_upd h h' k hh e h2
  have q2 : ps h' (e - R) = ps h (e - R) := ps_congr (fun i hi => hh i (by omega))
  have m1 := ps_mono h (show e - R ≤ e by omega)
  have m2 := ps_mono h' (show e - R ≤ e by omega)
  unfold wsm sl
  omega
theorem wsm_out {h h' : Nat → Nat} {R e k : Nat} (hh : ∀ i, i ≠ k → h' i = h i) (h1 : k < e - R) : wsm h' R e = wsm h R e := by
  have q1 := ps_upd h h' k hh e (by omega)
  have q2 := ps_upd h h' k hh (e - R) h1
  unfold wsm sl
  omega
theorem wsm_ge {h : Nat → Nat} {R e k : Nat} (h1 : e - R ≤ k) (h2 : k < e) : h k ≤ wsm h R e := by
  have m1 := ps_mono h h1
  have m2 := ps_mono h (show k + 1 ≤ e by omega)
  simp only [ps] at m2
  unfold wsm sl
  omega
theorem lq_one {l i : Nat} {c : Nat → Nat} (h : c i = 2 ^ l) : lq l c i = 1 := by unfold lq; rw [if_pos h]
theorem lq_k {l k v : Nat} {c : Nat → Nat} : ∀ i, i ≠ k → lq l (va_up c k v) i = lq l c i := fun i hi => by unfold lq; rw [va_n _ _ hi]
theorem mq_k {l k v : Nat} {c : Nat → Nat} : ∀ i, i ≠ k → mq l (va_up c k v) i = mq l c i := fun i hi => by unfold mq; rw [va_n _ _ hi]
theorem ch_l {l R e k cb cn : Nat} {c : Nat → Nat} (hcb : c k = cb) (h1 : e - R ≤ k) (h2 : k < e) : tL l cn (nI 1) (tL l cb (-1) (nI (wsm (lq l c) R e))) = nI (wsm (lq l (va_up c k cn)) R e) := by
  subst hcb
  have g := wsm_ge (h := lq l c) h1 h2
  have q := wsm_in (h := lq l c) (h' := lq l (va_up c k cn)) lq_k h1 h2
  rw [tL_m (fun e => by rw [lq_one e] at g; exact g), tL_1]
  have e1 : lq l c k = if c k = 2 ^ l then 1 else 0 := rfl
  have e2 : lq l (va_up c k cn) k = if cn = 2 ^ l then 1 else 0 := by unfold lq; rw [va_s]
  rw [← e1, ← e2]
  congr 1
  omega
theorem ch_m {l R e k cb cn : Nat} {c : Nat → Nat} (hcb : c k = cb) (h1 : e - R ≤ k) (h2 : k < e) : tM l cn (nI 1) (tM l cb (-1) (nI (wsm (mq l c) R e))) = nI (wsm (mq l (va_up c k cn)) R e) := by
  subst hcb
  have g := wsm_ge (h := mq l c) h1 h2
  have q := wsm_in (h := mq l c) (h' := mq l (va_up c k cn)) mq_k h1 h2
  have e1 : mq l c k = c k / 2 ^ l % 2 := rfl
  have e2 : mq l (va_up c k cn) k = cn / 2 ^ l % 2 := by unfold mq; rw [va_s]
  rw [tM_m (fun e => by rw [e1, e] at g; exact g), tM_1]
  rw [← e1, ← e2]
  congr 1
  omega
theorem mv_l {l R d : Nat} {c : Nat → Nat} (hR : 1 ≤ R) (hd : R ≤ d) : tL l (c (d - R)) (-1) (tL l (c d) (nI 1) (nI (wsm (lq l c) R d))) = nI (wsm (lq l c) R (d + 1)) := by
  have q := wsm_s2 (lq l c) hR hd
  have g := wsm_ge (h := lq l c) (R := R) (e := d) (k := d - R) (Nat.le_refl _) (by omega)
  rw [tL_1q, tL_m (fun e => by rw [lq_one e] at g; omega)]
  have e1 : lq l c (d - R) = if c (d - R) = 2 ^ l then 1 else 0 := rfl
  rw [← e1]
  congr 1
  omega
theorem mv_m {l R d : Nat} {c : Nat → Nat} (hR : 1 ≤ R) (hd : R ≤ d) : tM l (c (d - R)) (-1) (tM l (c d) (nI 1) (nI (wsm (mq l c) R d))) = nI (wsm (mq l c) R (d + 1)) := by
  have q := wsm_s2 (mq l c) hR hd
  have g := wsm_ge (h := mq l c) (R := R) (e := d) (k := d - R) (Nat.le_refl _) (by omega)
  have e1 : mq l c (d - R) = c (d - R) / 2 ^ l % 2 := rfl
  rw [tM_1q, tM_m (fun e => by rw [e1, e] at g; omega)]
  rw [← e1]
  congr 1
  omega
/-- a law's cell -/
abbrev lC (ci a l n R ah ae : Nat) (z : Int32) : Option (Nat × va_E) := some (a, .inr (ci, [.int (nI l), .int (nI n), .int (nI R), .ref ah, .ref ae, .int z]))

set_option maxHeartbeats 4000000 in
set_option maxRecDepth 100000 in
/-- init -/
theorem mc_X9_init {l : Launch} {E : EV} {w : RW} {r rh re a ci l9 n9 r9 : Nat} (hci : isW ci) (n1 : r ≠ rh) (n2 : r ≠ re) (n3 : rh ≠ re) (hr : w r = some (a, .inr (ci, [.int 0, .int 0, .int 0, .null, .null, .int 0]))) : MC l E yX9_init wsX9_init 2 2 6 [.ref a, .int (nI l9), .int (nI n9), .int (nI r9)] (w) (fun v w' => v = none ∧ ∃ ah ae, w' r = lC ci a l9 n9 r9 ah ae 0 ∧ w' rh = tC ah l9 0 0 ∧ w' re = tC ae l9 0 0 ∧ ∀ q, q ≠ r → q ≠ rh → q ≠ re → w' q = w q) := by
  refine MC.enter (cc := cX9_init) (maxL := 4) (ret := none) (lv0 := [some (.ref a), some (.int (nI l9)), some (.int (nI n9)), some (.int (nI r9))]) (by decide) rfl (by simp [Value.category]) (Nat.le_of_ble_eq_true rfl) rfl ?_
  intro X hl hE C D
  subst hl
  subst hE
  refine r_aload_n (pq := 1) C dX9_init_0 rfl rfl ?_
  refine r_callIN (pq := 4) C (mc_X2_init ) (by decide +kernel) gX9_init_X2_init_n3 rfl (by decide +kernel) (by decide +kernel) (na := 0) (by decide +kernel) rfl (by decide) (by decide) (Nat.le_of_ble_eq_true rfl) ⟨by rw [D.2.2.2.1]; decide, by rw [D.2.2.2.2.1]; decide⟩ dX9_init_1 rfl rfl (fun r9 w9 hq => ?_)
  obtain ⟨rfl, rfl⟩ := hq
  dsimp only [Option.toList, List.cons_append, List.nil_append]
  refine r_aload_n (pq := 5) C dX9_init_4 rfl rfl ?_
  refine r_iload_n (pq := 6) C dX9_init_5 rfl rfl ?_
  refine r_putWF (pq := 9) C D.2.2.1 rfl hci 0 hr (by decide) (by decide +kernel) rfl rfl rfl rfl rfl (Nat.le_of_ble_eq_true rfl) dX9_init_6 rfl ?_
  refine r_aload_n (pq := 10) C dX9_init_9 rfl rfl ?_
  refine r_iload_n (pq := 11) C dX9_init_10 rfl rfl ?_
  refine r_putWF (pq := 14) C D.2.2.1 rfl hci 1 (va_s _ _ _) (by decide) (by decide +kernel) rfl rfl rfl rfl rfl (Nat.le_of_ble_eq_true rfl) dX9_init_11 rfl ?_
  refine GG.cast (bx_uu _ _ _ _) ?_
  refine r_aload_n (pq := 15) C dX9_init_14 rfl rfl ?_
  refine r_iload_n (pq := 16) C dX9_init_15 rfl rfl ?_
  refine r_putWF (pq := 19) C D.2.2.1 rfl hci 2 (va_s _ _ _) (by decide) (by decide +kernel) rfl rfl rfl rfl rfl (Nat.le_of_ble_eq_true rfl) dX9_init_16 rfl ?_
  refine GG.cast (bx_uu _ _ _ _) ?_
  refine r_aload_n (pq := 20) C dX9_init_19 rfl rfl ?_
  refine r_new (pq := 23) C (N := 3) (ci := 9) rh rfl tyX8 tyX8_ok (by decide +kernel) (by decide +kernel) (by decide +kernel) (fs := [.int 0, .int 0, .int 0]) (by intro j hj; rcases (by omega : j = 0 ∨ j = 1 ∨ j = 2) with e | e | e <;> subst e <;> rfl) (by rw [D.2.2.2.1]; decide) (by rw [D.2.2.2.2.1]; decide) dX9_init_20 rfl (fun ah => ?_)
  refine r_dup (pq := 24) C dX9_init_23 rfl rfl ?_
  refine r_iload_n (pq := 25) C dX9_init_24 rfl rfl ?_
  refine r_callI (pq := 28) C (mc_X8_init (va_s _ _ _)) gX9_init_X8_init rfl (by decide +kernel) (by decide +kernel) (by decide +kernel) (na := 1) (by decide +kernel) rfl (by decide) (by decide) (Nat.le_of_ble_eq_true rfl) ⟨by rw [D.2.2.2.1]; decide, by rw [D.2.2.2.2.1]; decide⟩ dX9_init_25 rfl rfl (fun r9 w9 hq => ?_)
  obtain ⟨rfl, rfl⟩ := hq
  dsimp only [Option.toList, List.cons_append, List.nil_append]
  refine GG.cast (bx_uu _ _ _ _) ?_
  refine r_putWF (pq := 31) C D.2.2.1 rfl hci 3 ((va_n _ _ n1).trans (va_s _ _ _)) (by decide) (by decide +kernel) rfl rfl rfl rfl rfl (Nat.le_of_ble_eq_true rfl) dX9_init_28 rfl ?_
  refine r_aload_n (pq := 32) C dX9_init_31 rfl rfl ?_
  refine r_new (pq := 35) C (N := 3) (ci := 9) re rfl tyX8 tyX8_ok (by decide +kernel) (by decide +kernel) (by decide +kernel) (fs := [.int 0, .int 0, .int 0]) (by intro j hj; rcases (by omega : j = 0 ∨ j = 1 ∨ j = 2) with e | e | e <;> subst e <;> rfl) (by rw [D.2.2.2.1]; decide) (by rw [D.2.2.2.2.1]; decide) dX9_init_32 rfl (fun ae => ?_)
  refine r_dup (pq := 36) C dX9_init_35 rfl rfl ?_
  refine r_iload_n (pq := 37) C dX9_init_36 rfl rfl ?_
  refine r_callI (pq := 40) C (mc_X8_init (va_s _ _ _)) gX9_init_X8_init rfl (by decide +kernel) (by decide +kernel) (by decide +kernel) (na := 1) (by decide +kernel) rfl (by decide) (by decide) (Nat.le_of_ble_eq_true rfl) ⟨by rw [D.2.2.2.1]; decide, by rw [D.2.2.2.2.1]; decide⟩ dX9_init_37 rfl rfl (fun r9 w9 hq => ?_)
  obtain ⟨rfl, rfl⟩ := hq
  dsimp only [Option.toList, List.cons_append, List.nil_append]
  refine GG.cast (bx_uu _ _ _ _) ?_
  refine r_putWF (pq := 43) C D.2.2.1 rfl hci 4 ((va_n _ _ n2).trans (va_s _ _ _)) (by decide) (by decide +kernel) rfl rfl rfl rfl rfl (Nat.le_of_ble_eq_true rfl) dX9_init_40 rfl ?_
  refine r_vret C D rfl ⟨Nat.le_of_ble_eq_true rfl, Nat.le_of_ble_eq_true rfl⟩ dX9_init_43 ?_
  refine ⟨rfl, ah, ae, va_s _ _ _, ?_, ?_, ?_⟩
  · rw [va_n _ _ (Ne.symm n1), va_n _ _ n3, va_n _ _ (Ne.symm n1), va_s]; rfl
  · rw [va_n _ _ (Ne.symm n2), va_s]; rfl
  · intro q q1 q2 q3
    rw [va_n _ _ q1, va_n _ _ q3, va_n _ _ q1, va_n _ _ q2, va_n _ _ q1]

set_option maxHeartbeats 4000000 in
set_option maxRecDepth 100000 in
/-- init -/
theorem mc_X7_init {l : Launch} {E : EV} {w : RW} {r rh re a ci l9 n9 : Nat} (hci : isW ci) (n1 : r ≠ rh) (n2 : r ≠ re) (n3 : rh ≠ re) (hr : w r = some (a, .inr (ci, [.int 0, .int 0, .int 0, .null, .null, .int 0]))) : MC l E yX7_init wsX7_init 3 2 6 [.ref a, .int (nI l9), .int (nI n9)] (w) (fun v w' => v = none ∧ ∃ ah ae, w' r = lC ci a l9 n9 (n9 + 1) ah ae 0 ∧ w' rh = tC ah l9 0 0 ∧ w' re = tC ae l9 0 0 ∧ ∀ q, q ≠ r → q ≠ rh → q ≠ re → w' q = w q) := by
  refine MC.enter (cc := cX7_init) (maxL := 3) (ret := none) (lv0 := [some (.ref a), some (.int (nI l9)), some (.int (nI n9))]) (by decide) rfl (by simp [Value.category]) (Nat.le_of_ble_eq_true rfl) rfl ?_
  intro X hl hE C D
  subst hl
  subst hE
  refine r_aload_n (pq := 1) C dX7_init_0 rfl rfl ?_
  refine r_iload_n (pq := 2) C dX7_init_1 rfl rfl ?_
  refine r_iload_n (pq := 3) C dX7_init_2 rfl rfl ?_
  refine r_iload_n (pq := 4) C dX7_init_3 rfl rfl ?_
  refine r_iconst (v := nI 1) (pq := 5) C dX7_init_4 (by decide) rfl ?_
  refine rN_iadd (pq := 6) C dX7_init_5 rfl ?_
  refine r_callI (pq := 9) C (mc_X9_init hci n1 n2 n3 hr) gX7_init_X9_init rfl (by decide +kernel) (by decide +kernel) (by decide +kernel) (na := 3) (by decide +kernel) rfl (by decide) (by decide) (Nat.le_of_ble_eq_true rfl) ⟨by rw [D.2.2.2.1]; decide, by rw [D.2.2.2.2.1]; decide⟩ dX7_init_6 rfl rfl (fun r9 w9 hq => ?_)
  obtain ⟨rfl, ah, ae, q1, q2, q3, q4⟩ := hq
  dsimp only [Option.toList, List.cons_append, List.nil_append]
  refine r_vret C D rfl ⟨Nat.le_of_ble_eq_true rfl, Nat.le_of_ble_eq_true rfl⟩ dX7_init_9 ?_
  exact ⟨rfl, ah, ae, q1, q2, q3, q4⟩

set_option maxHeartbeats 4000000 in
set_option maxRecDepth 100000 in
/-- init -/
theorem mc_X3_init {l : Launch} {E : EV} {w : RW} {r rh re a ci l9 n9 r9 : Nat} (hci : isW ci) (n1 : r ≠ rh) (n2 : r ≠ re) (n3 : rh ≠ re) (hr : w r = some (a, .inr (ci, [.int 0, .int 0, .int 0, .null, .null, .int 0]))) : MC l E yX3_init wsX3_init 3 2 6 [.ref a, .int (nI l9), .int (nI n9), .int (nI r9)] (w) (fun v w' => v = none ∧ ∃ ah ae, w' r = lC ci a l9 n9 r9 ah ae 0 ∧ w' rh = tC ah l9 0 0 ∧ w' re = tC ae l9 0 0 ∧ ∀ q, q ≠ r → q ≠ rh → q ≠ re → w' q = w q) := by
  refine MC.enter (cc := cX3_init) (maxL := 4) (ret := none) (lv0 := [some (.ref a), some (.int (nI l9)), some (.int (nI n9)), some (.int (nI r9))]) (by decide) rfl (by simp [Value.category]) (Nat.le_of_ble_eq_true rfl) rfl ?_
  intro X hl hE C D
  subst hl
  subst hE
  refine r_aload_n (pq := 1) C dX3_init_0 rfl rfl ?_
  refine r_iload_n (pq := 2) C dX3_init_1 rfl rfl ?_
  refine r_iload_n (pq := 3) C dX3_init_2 rfl rfl ?_
  refine r_iload_n (pq := 4) C dX3_init_3 rfl rfl ?_
  refine r_callI (pq := 7) C (mc_X9_init hci n1 n2 n3 hr) gX3_init_X9_init rfl (by decide +kernel) (by decide +kernel) (by decide +kernel) (na := 3) (by decide +kernel) rfl (by decide) (by decide) (Nat.le_of_ble_eq_true rfl) ⟨by rw [D.2.2.2.1]; decide, by rw [D.2.2.2.2.1]; decide⟩ dX3_init_4 rfl rfl (fun r9 w9 hq => ?_)
  obtain ⟨rfl, ah, ae, q1, q2, q3, q4⟩ := hq
  dsimp only [Option.toList, List.cons_append, List.nil_append]
  refine r_vret C D rfl ⟨Nat.le_of_ble_eq_true rfl, Nat.le_of_ble_eq_true rfl⟩ dX3_init_7 ?_
  exact ⟨rfl, ah, ae, q1, q2, q3, q4⟩

set_option maxHeartbeats 4000000 in
set_option maxRecDepth 100000 in
/-- init -/
theorem mc_X0_init {l : Launch} {E : EV} {w : RW} {r rh re a ci l9 n9 : Nat} (hci : isW ci) (n1 : r ≠ rh) (n2 : r ≠ re) (n3 : rh ≠ re) (hr : w r = some (a, .inr (ci, [.int 0, .int 0, .int 0, .null, .null, .int 0]))) : MC l E yX0_init wsX0_init 4 2 6 [.ref a, .int (nI l9), .int (nI n9)] (w) (fun v w' => v = none ∧ ∃ ah ae, w' r = lC ci a l9 n9 (n9 + 1) ah ae 0 ∧ w' rh = tC ah l9 0 0 ∧ w' re = tC ae l9 0 0 ∧ ∀ q, q ≠ r → q ≠ rh → q ≠ re → w' q = w q) := by
  refine MC.enter (cc := cX0_init) (maxL := 3) (ret := none) (lv0 := [some (.ref a), some (.int (nI l9)), some (.int (nI n9))]) (by decide) rfl (by simp [Value.category]) (Nat.le_of_ble_eq_true rfl) rfl ?_
  intro X hl hE C D
  subst hl
  subst hE
  refine r_aload_n (pq := 1) C dX0_init_0 rfl rfl ?_
  refine r_iload_n (pq := 2) C dX0_init_1 rfl rfl ?_
  refine r_iload_n (pq := 3) C dX0_init_2 rfl rfl ?_
  refine r_callI (pq := 6) C (mc_X7_init hci n1 n2 n3 hr) gX0_init_X7_init rfl (by decide +kernel) (by decide +kernel) (by decide +kernel) (na := 2) (by decide +kernel) rfl (by decide) (by decide) (Nat.le_of_ble_eq_true rfl) ⟨by rw [D.2.2.2.1]; decide, by rw [D.2.2.2.2.1]; decide⟩ dX0_init_3 rfl rfl (fun r9 w9 hq => ?_)
  obtain ⟨rfl, ah, ae, q1, q2, q3, q4⟩ := hq
  dsimp only [Option.toList, List.cons_append, List.nil_append]
  refine r_vret C D rfl ⟨Nat.le_of_ble_eq_true rfl, Nat.le_of_ble_eq_true rfl⟩ dX0_init_6 ?_
  exact ⟨rfl, ah, ae, q1, q2, q3, q4⟩

/-- the verdict of a law over the least and the most of its nights -/
def vd (k n x y d : Nat) : Nat := if k = 2 then (if n ≤ x then 2 else if y < n then 0 else 1) else if k = 3 then (if d < n ∨ 0 < x then 2 else if y = 0 then 0 else 1) else (if y ≤ n then 2 else if n < x then 0 else 1)

set_option maxHeartbeats 4000000 in
set_option maxRecDepth 100000 in
/-- verdict -/
theorem mc_X9_verdict {l : Launch} {E : EV} {ci : Nat} (hci : isW ci) {w : RW} {r rt a at9 l9 n9 r9 ah ae lt x9 y9 d9 : Nat} {z9 : Int32} (hn : n9 ≤ 200) (hx : x9 < 1000000) (hy : y9 < 1000000) (hd : d9 < 400) (hr : w r = lC ci a l9 n9 r9 ah ae z9) (ht : w rt = tC at9 lt x9 y9) : MC l E yX9_verdict wsX9_verdict 0 0 0 [.ref a, .ref at9, .int (nI d9)] (w) (fun v w' => w' = w ∧ v = some (.int (nI (vd 0 n9 x9 y9 d9)))) := by
  refine MC.enter (cc := cX9_verdict) (maxL := 3) (ret := (some .int)) (lv0 := [some (.ref a), some (.ref at9), some (.int (nI d9))]) (by decide) rfl (by simp [Value.category]) (Nat.le_of_ble_eq_true rfl) rfl ?_
  intro X hl hE C D
  subst hl
  subst hE
  refine r_aload_n (pq := 1) C dX9_verdict_0 rfl rfl ?_
  refine r_getf (pq := 4) C 2 ht rfl (by decide) (by decide +kernel) (Or.inl rfl) rfl dX9_verdict_1 rfl ?_
  refine r_aload_n (pq := 5) C dX9_verdict_4 rfl rfl ?_
  refine r_getW (pq := 8) C hci 1 hr (by decide) (by decide +kernel) rfl rfl dX9_verdict_5 rfl ?_
  refine rN_icmp_gt (tg := 13) (pq := 11) C dX9_verdict_8 (by decide) rfl (by omega) (by omega) (fun c8 => ?_) (fun c8 => ?_)
  · refine r_aload_n (pq := 14) C dX9_verdict_13 rfl rfl ?_
    refine r_getf (pq := 17) C 1 ht rfl (by decide) (by decide +kernel) (Or.inl rfl) rfl dX9_verdict_14 rfl ?_
    refine r_aload_n (pq := 18) C dX9_verdict_17 rfl rfl ?_
    refine r_getW (pq := 21) C hci 1 hr (by decide) (by decide +kernel) rfl rfl dX9_verdict_18 rfl ?_
    refine rN_icmp_le (tg := 28) (pq := 24) C dX9_verdict_21 (by decide) rfl (by omega) (by omega) (fun c21 => ?_) (fun c21 => ?_)
    · refine r_iconst (v := nI 1) (pq := 29) C dX9_verdict_28 (by decide) rfl ?_
      refine r_iret C D rfl ⟨Nat.le_refl _, Nat.le_refl _⟩ dX9_verdict_29 ?_
      refine ⟨rfl, ?_⟩
      congr 3
      unfold vd
      simp only [show ¬ (0 : Nat) = 2 by omega, show ¬ (0 : Nat) = 3 by omega, show ¬ (3 : Nat) = 2 by omega, if_false, if_true]
      first | (rw [if_pos (by omega)]; done) | (rw [if_neg (by omega)]; first | (rw [if_pos (by omega)]; done) | (rw [if_neg (by omega)]; done))
    · refine r_iconst (v := nI 0) (pq := 25) C dX9_verdict_24 (by decide) rfl ?_
      refine r_goto (tg := 29) C dX9_verdict_25 (by decide) ?_
      refine r_iret C D rfl ⟨Nat.le_refl _, Nat.le_refl _⟩ dX9_verdict_29 ?_
      refine ⟨rfl, ?_⟩
      congr 3
      unfold vd
      simp only [show ¬ (0 : Nat) = 2 by omega, show ¬ (0 : Nat) = 3 by omega, show ¬ (3 : Nat) = 2 by omega, if_false, if_true]
      first | (rw [if_pos (by omega)]; done) | (rw [if_neg (by omega)]; first | (rw [if_pos (by omega)]; done) | (rw [if_neg (by omega)]; done))
  · refine r_iconst (v := nI 2) (pq := 12) C dX9_verdict_11 (by decide) rfl ?_
    refine r_iret C D rfl ⟨Nat.le_refl _, Nat.le_refl _⟩ dX9_verdict_12 ?_
    refine ⟨rfl, ?_⟩
    congr 3
    unfold vd
    simp only [show ¬ (0 : Nat) = 2 by omega, show ¬ (0 : Nat) = 3 by omega, show ¬ (3 : Nat) = 2 by omega, if_false, if_true]
    first | (rw [if_pos (by omega)]; done) | (rw [if_neg (by omega)]; first | (rw [if_pos (by omega)]; done) | (rw [if_neg (by omega)]; done))

set_option maxHeartbeats 4000000 in
set_option maxRecDepth 100000 in
/-- verdict -/
theorem mc_X3_verdict {l : Launch} {E : EV} {w : RW} {r rt a at9 l9 n9 r9 ah ae lt x9 y9 d9 : Nat} {z9 : Int32} (hn : n9 ≤ 200) (hx : x9 < 1000000) (hy : y9 < 1000000) (hd : d9 < 400) (hr : w r = lC 4 a l9 n9 r9 ah ae z9) (ht : w rt = tC at9 lt x9 y9) : MC l E yX3_verdict wsX3_verdict 0 0 0 [.ref a, .ref at9, .int (nI d9)] (w) (fun v w' => w' = w ∧ v = some (.int (nI (vd 2 n9 x9 y9 d9)))) := by
  refine MC.enter (cc := cX3_verdict) (maxL := 3) (ret := (some .int)) (lv0 := [some (.ref a), some (.ref at9), some (.int (nI d9))]) (by decide) rfl (by simp [Value.category]) (Nat.le_of_ble_eq_true rfl) rfl ?_
  intro X hl hE C D
  subst hl
  subst hE
  refine r_aload_n (pq := 1) C dX3_verdict_0 rfl rfl ?_
  refine r_getf (pq := 4) C 1 ht rfl (by decide) (by decide +kernel) (Or.inl rfl) rfl dX3_verdict_1 rfl ?_
  refine r_aload_n (pq := 5) C dX3_verdict_4 rfl rfl ?_
  refine r_getf (pq := 8) C (ref := "NightBook$Needs") 1 hr rfl (by decide) (by decide +kernel) (Or.inr (by decide +kernel)) rfl dX3_verdict_5 rfl ?_
  refine rN_icmp_lt (tg := 13) (pq := 11) C dX3_verdict_8 (by decide) rfl (by omega) (by omega) (fun c8 => ?_) (fun c8 => ?_)
  · refine r_aload_n (pq := 14) C dX3_verdict_13 rfl rfl ?_
    refine r_getf (pq := 17) C 2 ht rfl (by decide) (by decide +kernel) (Or.inl rfl) rfl dX3_verdict_14 rfl ?_
    refine r_aload_n (pq := 18) C dX3_verdict_17 rfl rfl ?_
    refine r_getf (pq := 21) C (ref := "NightBook$Needs") 1 hr rfl (by decide) (by decide +kernel) (Or.inr (by decide +kernel)) rfl dX3_verdict_18 rfl ?_
    refine rN_icmp_ge (tg := 28) (pq := 24) C dX3_verdict_21 (by decide) rfl (by omega) (by omega) (fun c21 => ?_) (fun c21 => ?_)
    · refine r_iconst (v := nI 1) (pq := 29) C dX3_verdict_28 (by decide) rfl ?_
      refine r_iret C D rfl ⟨Nat.le_refl _, Nat.le_refl _⟩ dX3_verdict_29 ?_
      refine ⟨rfl, ?_⟩
      congr 3
      unfold vd
      simp only [show ¬ (0 : Nat) = 2 by omega, show ¬ (0 : Nat) = 3 by omega, show ¬ (3 : Nat) = 2 by omega, if_false, if_true]
      first | (rw [if_pos (by omega)]; done) | (rw [if_neg (by omega)]; first | (rw [if_pos (by omega)]; done) | (rw [if_neg (by omega)]; done))
    · refine r_iconst (v := nI 0) (pq := 25) C dX3_verdict_24 (by decide) rfl ?_
      refine r_goto (tg := 29) C dX3_verdict_25 (by decide) ?_
      refine r_iret C D rfl ⟨Nat.le_refl _, Nat.le_refl _⟩ dX3_verdict_29 ?_
      refine ⟨rfl, ?_⟩
      congr 3
      unfold vd
      simp only [show ¬ (0 : Nat) = 2 by omega, show ¬ (0 : Nat) = 3 by omega, show ¬ (3 : Nat) = 2 by omega, if_false, if_true]
      first | (rw [if_pos (by omega)]; done) | (rw [if_neg (by omega)]; first | (rw [if_pos (by omega)]; done) | (rw [if_neg (by omega)]; done))
  · refine r_iconst (v := nI 2) (pq := 12) C dX3_verdict_11 (by decide) rfl ?_
    refine r_iret C D rfl ⟨Nat.le_refl _, Nat.le_refl _⟩ dX3_verdict_12 ?_
    refine ⟨rfl, ?_⟩
    congr 3
    unfold vd
    simp only [show ¬ (0 : Nat) = 2 by omega, show ¬ (0 : Nat) = 3 by omega, show ¬ (3 : Nat) = 2 by omega, if_false, if_true]
    first | (rw [if_pos (by omega)]; done) | (rw [if_neg (by omega)]; first | (rw [if_pos (by omega)]; done) | (rw [if_neg (by omega)]; done))

set_option maxHeartbeats 4000000 in
set_option maxRecDepth 100000 in
/-- verdict -/
theorem mc_X0_verdict {l : Launch} {E : EV} {w : RW} {r rt a at9 l9 n9 r9 ah ae lt x9 y9 d9 : Nat} {z9 : Int32} (hn : n9 ≤ 200) (hx : x9 < 1000000) (hy : y9 < 1000000) (hd : d9 < 400) (hr : w r = lC 2 a l9 n9 r9 ah ae z9) (ht : w rt = tC at9 lt x9 y9) : MC l E yX0_verdict wsX0_verdict 0 0 0 [.ref a, .ref at9, .int (nI d9)] (w) (fun v w' => w' = w ∧ v = some (.int (nI (vd 3 n9 x9 y9 d9)))) := by
  refine MC.enter (cc := cX0_verdict) (maxL := 3) (ret := (some .int)) (lv0 := [some (.ref a), some (.ref at9), some (.int (nI d9))]) (by decide) rfl (by simp [Value.category]) (Nat.le_of_ble_eq_true rfl) rfl ?_
  intro X hl hE C D
  subst hl
  subst hE
  refine r_iload_n (pq := 1) C dX0_verdict_0 rfl rfl ?_
  refine r_aload_n (pq := 2) C dX0_verdict_1 rfl rfl ?_
  refine r_getf (pq := 5) C (ref := "NightBook$Absent") 1 hr rfl (by decide) (by decide +kernel) (Or.inr (by decide +kernel)) rfl dX0_verdict_2 rfl ?_
  refine rN_icmp_lt (tg := 15) (pq := 8) C dX0_verdict_5 (by decide) rfl (by omega) (by omega) (fun c5 => ?_) (fun c5 => ?_)
  · refine r_iconst (v := nI 2) (pq := 16) C dX0_verdict_15 (by decide) rfl ?_
    refine r_iret C D rfl ⟨Nat.le_refl _, Nat.le_refl _⟩ dX0_verdict_16 ?_
    refine ⟨rfl, ?_⟩
    congr 3
    unfold vd
    simp only [show ¬ (0 : Nat) = 2 by omega, show ¬ (0 : Nat) = 3 by omega, show ¬ (3 : Nat) = 2 by omega, if_false, if_true]
    first | (rw [if_pos (by omega)]; done) | (rw [if_neg (by omega)]; first | (rw [if_pos (by omega)]; done) | (rw [if_neg (by omega)]; done))
  · refine r_aload_n (pq := 9) C dX0_verdict_8 rfl rfl ?_
    refine r_getf (pq := 12) C 1 ht rfl (by decide) (by decide +kernel) (Or.inl rfl) rfl dX0_verdict_9 rfl ?_
    refine rN_if_le (tg := 17) (pq := 15) C dX0_verdict_12 (by decide) rfl (by omega) (fun c12 => ?_) (fun c12 => ?_)
    · refine r_aload_n (pq := 18) C dX0_verdict_17 rfl rfl ?_
      refine r_getf (pq := 21) C 2 ht rfl (by decide) (by decide +kernel) (Or.inl rfl) rfl dX0_verdict_18 rfl ?_
      refine rN_if_ne (tg := 28) (pq := 24) C dX0_verdict_21 (by decide) rfl (by omega) (fun c21 => ?_) (fun c21 => ?_)
      · refine r_iconst (v := nI 1) (pq := 29) C dX0_verdict_28 (by decide) rfl ?_
        refine r_iret C D rfl ⟨Nat.le_refl _, Nat.le_refl _⟩ dX0_verdict_29 ?_
        refine ⟨rfl, ?_⟩
        congr 3
        unfold vd
        simp only [show ¬ (0 : Nat) = 2 by omega, show ¬ (0 : Nat) = 3 by omega, show ¬ (3 : Nat) = 2 by omega, if_false, if_true]
        first | (rw [if_pos (by omega)]; done) | (rw [if_neg (by omega)]; first | (rw [if_pos (by omega)]; done) | (rw [if_neg (by omega)]; done))
      · refine r_iconst (v := nI 0) (pq := 25) C dX0_verdict_24 (by decide) rfl ?_
        refine r_goto (tg := 29) C dX0_verdict_25 (by decide) ?_
        refine r_iret C D rfl ⟨Nat.le_refl _, Nat.le_refl _⟩ dX0_verdict_29 ?_
        refine ⟨rfl, ?_⟩
        congr 3
        unfold vd
        simp only [show ¬ (0 : Nat) = 2 by omega, show ¬ (0 : Nat) = 3 by omega, show ¬ (3 : Nat) = 2 by omega, if_false, if_true]
        first | (rw [if_pos (by omega)]; done) | (rw [if_neg (by omega)]; first | (rw [if_pos (by omega)]; done) | (rw [if_neg (by omega)]; done))
    · refine r_iconst (v := nI 2) (pq := 16) C dX0_verdict_15 (by decide) rfl ?_
      refine r_iret C D rfl ⟨Nat.le_refl _, Nat.le_refl _⟩ dX0_verdict_16 ?_
      refine ⟨rfl, ?_⟩
      congr 3
      unfold vd
      simp only [show ¬ (0 : Nat) = 2 by omega, show ¬ (0 : Nat) = 3 by omega, show ¬ (3 : Nat) = 2 by omega, if_false, if_true]
      first | (rw [if_pos (by omega)]; done) | (rw [if_neg (by omega)]; first | (rw [if_pos (by omega)]; done) | (rw [if_neg (by omega)]; done))

set_option maxHeartbeats 4000000 in
set_option maxRecDepth 100000 in
/-- failureNumber -/
theorem mc_X9_failureNumber {l : Launch} {E : EV} {w : RW} {r a ci l9 n9 r9 ah ae : Nat} {z9 : Int32} (hci : isW ci) (hr : w r = lC ci a l9 n9 r9 ah ae z9) : MC l E yX9_failureNumber wsX9_failureNumber 0 0 0 [.ref a] (w) (fun v w' => w' = w ∧ v = some (.int (nI l9))) := by
  refine MC.enter (cc := cX9_failureNumber) (maxL := 1) (ret := (some .int)) (lv0 := [some (.ref a)]) (by decide) rfl (by simp [Value.category]) (Nat.le_of_ble_eq_true rfl) rfl ?_
  intro X hl hE C D
  subst hl
  subst hE
  refine r_aload_n (pq := 1) C dX9_failureNumber_0 rfl rfl ?_
  refine r_getW (pq := 4) C hci 0 hr (by decide) (by decide +kernel) rfl rfl dX9_failureNumber_1 rfl ?_
  refine r_iret C D rfl ⟨Nat.le_refl _, Nat.le_refl _⟩ dX9_failureNumber_4 ?_
  exact ⟨rfl, rfl⟩

set_option maxHeartbeats 4000000 in
set_option maxRecDepth 100000 in
/-- lookAt -/
theorem mc_X9_lookAt {l : Launch} {E : EV} {w : RW} {r rh rr a ar ci l9 n9 r9 ah ae e9 : Nat} {z9 dy x y : Int32} {h9 : Nat → Int32} {c : Nat → Nat} (hci : isW ci) (hl : l9 < 8) (h1 : 1 ≤ r9) (h2 : r9 ≤ 201) (hrr : rr ≠ rh) (hc : ∀ i, i < 400 → h9 i = nI (c i) ∧ c i < 1000000) (hrw : w rr = rowC E ar h9) (hr : w r = lC ci a l9 n9 r9 ah ae z9) (hh : w rh = tCz ah l9 x y) (he : e9 ≤ 400) (hdy : dy.toInt = (e9 : Int) - 1)  : MC l E yX9_lookAt wsX9_lookAt 2 0 0 [.ref a, .ref ar, .int dy] (w) (fun v w' => v = none ∧ w' = va_up w rh (tC ah l9 (wsm (lq l9 c) r9 e9) (wsm (mq l9 c) r9 e9))) := by
  refine MC.enter (cc := cX9_lookAt) (maxL := 3) (ret := none) (lv0 := [some (.ref a), some (.ref ar), some (.int dy)]) (by decide) rfl (by simp [Value.category]) (Nat.le_of_ble_eq_true rfl) rfl ?_
  intro X hl hE C D
  subst hl
  subst hE
  have i1 : (nI r9).toInt = r9 := nI_toInt (by omega)
  have i2 : (nI 1).toInt = 1 := nI_toInt (by omega)
  have i3 : (dy - nI r9).toInt = dy.toInt - r9 := by rw [fb_subI (by omega) (by omega), i1]
  have i4 : (dy - nI r9 + nI 1).toInt = (e9 : Int) - r9 := by rw [fb_addI (by omega) (by omega), i3, i2]; omega
  refine r_aload_n (pq := 1) C dX9_lookAt_0 rfl rfl ?_
  refine r_getW (pq := 4) C hci 3 hr (by decide) (by decide +kernel) rfl rfl dX9_lookAt_1 rfl ?_
  refine r_aload_n (pq := 5) C dX9_lookAt_4 rfl rfl ?_
  refine r_iload_n (pq := 6) C dX9_lookAt_5 rfl rfl ?_
  refine r_aload_n (pq := 7) C dX9_lookAt_6 rfl rfl ?_
  refine r_getW (pq := 10) C hci 2 hr (by decide) (by decide +kernel) rfl rfl dX9_lookAt_7 rfl ?_
  refine r_isub (pq := 11) C dX9_lookAt_10 rfl ?_
  refine r_iconst (v := nI 1) (pq := 12) C dX9_lookAt_11 (by decide) rfl ?_
  refine r_iadd (pq := 13) C dX9_lookAt_12 rfl ?_
  refine r_iload_n (pq := 14) C dX9_lookAt_13 rfl rfl ?_
  refine r_callV (pq := 17) C (mc_X8_sum (a9 := e9 - r9) (b9 := e9) (c := c) hl hrr (by omega) (by omega) (by omega) (by omega) hc hh hrw) hh rfl gX9_lookAt_X8_sum rfl (na := 3) (by decide +kernel) rfl (by decide) (by decide) (Nat.le_of_ble_eq_true rfl) ⟨Nat.zero_le _, Nat.zero_le _⟩ dX9_lookAt_14 rfl rfl (fun r9 w9 hq => ?_)
  obtain ⟨rfl, rfl⟩ := hq
  dsimp only [Option.toList, List.cons_append, List.nil_append]
  refine r_vret C D rfl ⟨Nat.le_refl _, Nat.le_refl _⟩ dX9_lookAt_17 ?_
  exact ⟨rfl, rfl⟩

set_option maxHeartbeats 4000000 in
set_option maxRecDepth 100000 in
/-- lookAtEnd -/
theorem mc_X9_lookAtEnd {l : Launch} {E : EV} {w : RW} {r re rr a ar ci l9 n9 r9 ah ae e9 : Nat} {z9 dy x y : Int32} {h9 : Nat → Int32} {c : Nat → Nat} (hci : isW ci) (hl : l9 < 8) (h1 : 1 ≤ r9) (h2 : r9 ≤ 201) (hrr : rr ≠ re) (hc : ∀ i, i < 400 → h9 i = nI (c i) ∧ c i < 1000000) (hrw : w rr = rowC E ar h9) (hr : w r = lC ci a l9 n9 r9 ah ae z9) (hne : r ≠ re) (hr9 : r ≠ rr) (hh : w re = tCz ae l9 x y) (he : e9 ≤ 400) (hdy : dy.toInt = (e9 : Int) - 1)  : MC l E yX9_lookAtEnd wsX9_lookAtEnd 2 0 0 [.ref a, .ref ar, .int dy] (w) (fun v w' => v = none ∧ w' = va_up (va_up w r (lC ci a l9 n9 r9 ah ae (dy - nI r9 + nI 1))) re (tC ae l9 (wsm (lq l9 c) r9 e9) (wsm (mq l9 c) r9 e9))) := by
  refine MC.enter (cc := cX9_lookAtEnd) (maxL := 3) (ret := none) (lv0 := [some (.ref a), some (.ref ar), some (.int dy)]) (by decide) rfl (by simp [Value.category]) (Nat.le_of_ble_eq_true rfl) rfl ?_
  intro X hl hE C D
  subst hl
  subst hE
  have i1 : (nI r9).toInt = r9 := nI_toInt (by omega)
  have i2 : (nI 1).toInt = 1 := nI_toInt (by omega)
  have i3 : (dy - nI r9).toInt = dy.toInt - r9 := by rw [fb_subI (by omega) (by omega), i1]
  have i4 : (dy - nI r9 + nI 1).toInt = (e9 : Int) - r9 := by rw [fb_addI (by omega) (by omega), i3, i2]; omega
  refine r_aload_n (pq := 1) C dX9_lookAtEnd_0 rfl rfl ?_
  refine r_iload_n (pq := 2) C dX9_lookAtEnd_1 rfl rfl ?_
  refine r_aload_n (pq := 3) C dX9_lookAtEnd_2 rfl rfl ?_
  refine r_getW (pq := 6) C hci 2 hr (by decide) (by decide +kernel) rfl rfl dX9_lookAtEnd_3 rfl ?_
  refine r_isub (pq := 7) C dX9_lookAtEnd_6 rfl ?_
  refine r_iconst (v := nI 1) (pq := 8) C dX9_lookAtEnd_7 (by decide) rfl ?_
  refine r_iadd (pq := 9) C dX9_lookAtEnd_8 rfl ?_
  refine r_putW (pq := 12) C hci 5 hr (by decide) (by decide +kernel) rfl rfl rfl rfl rfl (Nat.le_of_ble_eq_true rfl) dX9_lookAtEnd_9 rfl ?_
  refine GG.cast rfl ?_
  refine r_aload_n (pq := 13) C dX9_lookAtEnd_12 rfl rfl ?_
  refine r_getW (pq := 16) C hci 4 (va_s _ _ _) (by decide) (by decide +kernel) rfl rfl dX9_lookAtEnd_13 rfl ?_
  refine r_aload_n (pq := 17) C dX9_lookAtEnd_16 rfl rfl ?_
  refine r_aload_n (pq := 18) C dX9_lookAtEnd_17 rfl rfl ?_
  refine r_getW (pq := 21) C hci 5 (va_s _ _ _) (by decide) (by decide +kernel) rfl rfl dX9_lookAtEnd_18 rfl ?_
  refine r_iload_n (pq := 22) C dX9_lookAtEnd_21 rfl rfl ?_
  refine r_callV (pq := 25) C (mc_X8_sum (a9 := e9 - r9) (b9 := e9) (c := c) hl hrr (by omega) (by omega) (by omega) (by omega) hc ((va_n _ _ (Ne.symm hne)).trans hh) ((va_n _ _ (Ne.symm hr9)).trans hrw)) ((va_n _ _ (Ne.symm hne)).trans hh) rfl gX9_lookAtEnd_X8_sum rfl (na := 3) (by decide +kernel) rfl (by decide) (by decide) (Nat.le_of_ble_eq_true rfl) ⟨Nat.zero_le _, Nat.zero_le _⟩ dX9_lookAtEnd_22 rfl rfl (fun r9 w9 hq => ?_)
  obtain ⟨rfl, rfl⟩ := hq
  dsimp only [Option.toList, List.cons_append, List.nil_append]
  refine r_vret C D rfl ⟨Nat.le_refl _, Nat.le_refl _⟩ dX9_lookAtEnd_25 ?_
  exact ⟨rfl, rfl⟩

set_option maxHeartbeats 4000000 in
set_option maxRecDepth 100000 in
/-- moveTo -/
theorem mc_X9_moveTo {l : Launch} {E : EV} {w : RW} {r rh rr a ar ci l9 n9 r9 ah ae d9 : Nat} {z9 : Int32} {h9 : Nat → Int32} {c : Nat → Nat} (hci : isW ci) (hl : l9 < 8) (h1 : 1 ≤ r9) (h2 : r9 ≤ 201) (hrr : rr ≠ rh) (hc : ∀ i, i < 400 → h9 i = nI (c i) ∧ c i < 1000000) (hrw : w rr = rowC E ar h9) (hrh : r ≠ rh) (hr : w r = lC ci a l9 n9 r9 ah ae z9) (hh : w rh = tC ah l9 (wsm (lq l9 c) r9 d9) (wsm (mq l9 c) r9 d9)) (hd : d9 < 400)  : MC l E yX9_moveTo wsX9_moveTo 1 0 0 [.ref a, .ref ar, .int (nI d9)] (w) (fun v w' => v = none ∧ w' = va_up w rh (tC ah l9 (wsm (lq l9 c) r9 (d9 + 1)) (wsm (mq l9 c) r9 (d9 + 1)))) := by
  refine MC.enter (cc := cX9_moveTo) (maxL := 3) (ret := none) (lv0 := [some (.ref a), some (.ref ar), some (.int (nI d9))]) (by decide) rfl (by simp [Value.category]) (Nat.le_of_ble_eq_true rfl) rfl ?_
  intro X hl hE C D
  subst hl
  subst hE
  refine r_iload_n (pq := 1) C dX9_moveTo_0 rfl rfl ?_
  refine rN_if_lt (tg := 10) (pq := 4) C dX9_moveTo_1 (by decide) rfl (by omega) ?_
  refine r_iload_n (pq := 5) C dX9_moveTo_4 rfl rfl ?_
  refine r_aload_n (pq := 6) C dX9_moveTo_5 rfl rfl ?_
  refine r_alen (pq := 7) C (v := nI 400) 0 rfl hrw rfl dX9_moveTo_6 rfl ?_
  refine rN_icmp_lt (tg := 11) (pq := 10) C dX9_moveTo_7 (by decide) rfl (by omega) (by omega) (fun c7 => ?_) (fun c7 => absurd c7 (by omega))
  refine r_aload_n (pq := 12) C dX9_moveTo_11 rfl rfl ?_
  refine r_getW (pq := 15) C hci 3 hr (by decide) (by decide +kernel) rfl rfl dX9_moveTo_12 rfl ?_
  refine r_aload_n (pq := 16) C dX9_moveTo_15 rfl rfl ?_
  refine r_iload_n (pq := 17) C dX9_moveTo_16 rfl rfl ?_
  refine rN_iald (pq := 18) C hrw (by omega) (by decide) dX9_moveTo_17 rfl ?_
  refine r_at (hc d9 hd).1 ?_
  refine r_iconst (v := nI 1) (pq := 19) C dX9_moveTo_18 (by decide) rfl ?_
  refine r_callV (pq := 22) C (mc_X8_add hl (hc d9 hd).2 hh) hh rfl gX9_moveTo_X8_add rfl (na := 2) (by decide +kernel) rfl (by decide) (by decide) (Nat.le_of_ble_eq_true rfl) ⟨Nat.zero_le _, Nat.zero_le _⟩ dX9_moveTo_19 rfl rfl (fun r9 w9 hq => ?_)
  obtain ⟨rfl, rfl⟩ := hq
  dsimp only [Option.toList, List.cons_append, List.nil_append]
  refine r_iload_n (pq := 23) C dX9_moveTo_22 rfl rfl ?_
  refine r_aload_n (pq := 24) C dX9_moveTo_23 rfl rfl ?_
  refine r_getW (pq := 27) C hci 2 ((va_n _ _ hrh).trans hr) (by decide) (by decide +kernel) rfl rfl dX9_moveTo_24 rfl ?_
  refine rN_icmp_lt (tg := 46) (pq := 30) C dX9_moveTo_27 (by decide) rfl (by omega) (by omega) (fun c27 => ?_) (fun c27 => ?_)
  · refine r_vret C D rfl ⟨Nat.le_refl _, Nat.le_refl _⟩ dX9_moveTo_46 ?_
    first | exact ⟨rfl, rfl⟩ | (refine ⟨rfl, ?_⟩; rw [tL_1q, tM_1q, ← wsm_s1 _ c27, ← wsm_s1 _ c27])
  · refine r_aload_n (pq := 31) C dX9_moveTo_30 rfl rfl ?_
    refine r_getW (pq := 34) C hci 3 ((va_n _ _ hrh).trans hr) (by decide) (by decide +kernel) rfl rfl dX9_moveTo_31 rfl ?_
    refine r_aload_n (pq := 35) C dX9_moveTo_34 rfl rfl ?_
    refine r_iload_n (pq := 36) C dX9_moveTo_35 rfl rfl ?_
    refine r_aload_n (pq := 37) C dX9_moveTo_36 rfl rfl ?_
    refine r_getW (pq := 40) C hci 2 ((va_n _ _ hrh).trans hr) (by decide) (by decide +kernel) rfl rfl dX9_moveTo_37 rfl ?_
    refine rN_isub (pq := 41) C dX9_moveTo_40 (by omega) rfl ?_
    refine rN_iald (pq := 42) C ((va_n _ _ hrr).trans hrw) (by omega) (by decide) dX9_moveTo_41 rfl ?_
    refine r_at (hc (d9 - r9) (by omega)).1 ?_
    refine r_iconst (v := (-1)) (pq := 43) C dX9_moveTo_42 (by decide) rfl ?_
    refine r_callV (pq := 46) C (mc_X8_add hl (hc (d9 - r9) (by omega)).2 (va_s _ _ _)) (va_s _ _ _) rfl gX9_moveTo_X8_add rfl (na := 2) (by decide +kernel) rfl (by decide) (by decide) (Nat.le_of_ble_eq_true rfl) ⟨Nat.zero_le _, Nat.zero_le _⟩ dX9_moveTo_43 rfl rfl (fun r9 w9 hq => ?_)
    obtain ⟨rfl, rfl⟩ := hq
    dsimp only [Option.toList, List.cons_append, List.nil_append]
    refine GG.cast (bx_uu _ _ _ _) ?_
    rw [mv_l h1 c27, mv_m h1 c27]
    refine r_vret C D rfl ⟨Nat.le_refl _, Nat.le_refl _⟩ dX9_moveTo_46 ?_
    first | exact ⟨rfl, rfl⟩ | (refine ⟨rfl, ?_⟩; rw [tL_1q, tM_1q, ← wsm_s1 _ c27, ← wsm_s1 _ c27])

set_option maxHeartbeats 4000000 in
set_option maxRecDepth 100000 in
/-- change -/
theorem mc_X9_change {l : Launch} {E : EV} {w : RW} {r rh re a ci l9 n9 r9 ah ae d9 b9 cb cn : Nat} {z9 : Int32} {c : Nat → Nat} (hci : isW ci) (hl : l9 < 8) (h1 : 1 ≤ r9) (h2 : r9 ≤ 201) (n1 : r ≠ rh) (n2 : r ≠ re) (n3 : rh ≠ re) (hr : w r = lC ci a l9 n9 r9 ah ae z9) (hz : z9.toInt = (b9 : Int) + 1 - r9) (hh : w rh = tC ah l9 (wsm (lq l9 c) r9 (d9 + 1)) (wsm (mq l9 c) r9 (d9 + 1))) (he : w re = tC ae l9 (wsm (lq l9 c) r9 (b9 + 1)) (wsm (mq l9 c) r9 (b9 + 1))) (hd : d9 ≤ b9) (hb : b9 < 400) (hcb : c d9 = cb) (q1 : cb < 1000000) (q2 : cn < 1000000)  : MC l E yX9_change wsX9_change 1 0 0 [.ref a, .int (nI d9), .int (nI cb), .int (nI cn)] (w) (fun v w' => v = none ∧ w' = va_up (va_up w rh (tC ah l9 (wsm (lq l9 (va_up c d9 cn)) r9 (d9 + 1)) (wsm (mq l9 (va_up c d9 cn)) r9 (d9 + 1)))) re (tC ae l9 (wsm (lq l9 (va_up c d9 cn)) r9 (b9 + 1)) (wsm (mq l9 (va_up c d9 cn)) r9 (b9 + 1)))) := by
  refine MC.enter (cc := cX9_change) (maxL := 4) (ret := none) (lv0 := [some (.ref a), some (.int (nI d9)), some (.int (nI cb)), some (.int (nI cn))]) (by decide) rfl (by simp [Value.category]) (Nat.le_of_ble_eq_true rfl) rfl ?_
  intro X hl hE C D
  subst hl
  subst hE
  refine r_aload_n (pq := 1) C dX9_change_0 rfl rfl ?_
  refine r_getW (pq := 4) C hci 3 hr (by decide) (by decide +kernel) rfl rfl dX9_change_1 rfl ?_
  refine r_iload_n (pq := 5) C dX9_change_4 rfl rfl ?_
  refine r_iconst (v := (-1)) (pq := 6) C dX9_change_5 (by decide) rfl ?_
  refine r_callV (pq := 9) C (mc_X8_add hl q1 hh) hh rfl gX9_change_X8_add rfl (na := 2) (by decide +kernel) rfl (by decide) (by decide) (Nat.le_of_ble_eq_true rfl) ⟨Nat.zero_le _, Nat.zero_le _⟩ dX9_change_6 rfl rfl (fun r9 w9 hq => ?_)
  obtain ⟨rfl, rfl⟩ := hq
  dsimp only [Option.toList, List.cons_append, List.nil_append]
  refine r_aload_n (pq := 10) C dX9_change_9 rfl rfl ?_
  refine r_getW (pq := 13) C hci 3 ((va_n _ _ n1).trans hr) (by decide) (by decide +kernel) rfl rfl dX9_change_10 rfl ?_
  refine r_iload_n (pq := 14) C dX9_change_13 rfl rfl ?_
  refine r_iconst (v := nI 1) (pq := 15) C dX9_change_14 (by decide) rfl ?_
  refine r_callV (pq := 18) C (mc_X8_add hl q2 (va_s _ _ _)) (va_s _ _ _) rfl gX9_change_X8_add rfl (na := 2) (by decide +kernel) rfl (by decide) (by decide) (Nat.le_of_ble_eq_true rfl) ⟨Nat.zero_le _, Nat.zero_le _⟩ dX9_change_15 rfl rfl (fun r9 w9 hq => ?_)
  obtain ⟨rfl, rfl⟩ := hq
  dsimp only [Option.toList, List.cons_append, List.nil_append]
  refine GG.cast (bx_uu _ _ _ _) ?_
  rw [ch_l hcb (by omega) (by omega), ch_m hcb (by omega) (by omega)]
  refine r_iload_n (pq := 19) C dX9_change_18 rfl rfl ?_
  refine r_aload_n (pq := 20) C dX9_change_19 rfl rfl ?_
  refine r_getW (pq := 23) C hci 5 ((va_n _ _ n1).trans hr) (by decide) (by decide +kernel) rfl rfl dX9_change_20 rfl ?_
  refine r_icmp_lt (tg := 44) (pq := 26) C dX9_change_23 (by decide) rfl (fun c23 => ?_) (fun c23 => ?_)
  · refine r_vret C D rfl ⟨Nat.le_refl _, Nat.le_refl _⟩ dX9_change_44 ?_
    first | exact ⟨rfl, rfl⟩ | (refine ⟨rfl, ?_⟩; rw [lt_i, nI_toInt (by omega)] at c23; rw [wsm_out (h := lq l9 c) (h' := lq l9 (va_up c d9 cn)) (R := r9) (e := b9 + 1) lq_k (by omega), wsm_out (h := mq l9 c) (h' := mq l9 (va_up c d9 cn)) (R := r9) (e := b9 + 1) mq_k (by omega)]; exact (ve_self ((va_n _ _ (Ne.symm n3)).trans he)).symm)
  · refine r_aload_n (pq := 27) C dX9_change_26 rfl rfl ?_
    refine r_getW (pq := 30) C hci 4 ((va_n _ _ n1).trans hr) (by decide) (by decide +kernel) rfl rfl dX9_change_27 rfl ?_
    refine r_iload_n (pq := 31) C dX9_change_30 rfl rfl ?_
    refine r_iconst (v := (-1)) (pq := 32) C dX9_change_31 (by decide) rfl ?_
    refine r_callV (pq := 35) C (mc_X8_add hl q1 ((va_n _ _ (Ne.symm n3)).trans he)) ((va_n _ _ (Ne.symm n3)).trans he) rfl gX9_change_X8_add rfl (na := 2) (by decide +kernel) rfl (by decide) (by decide) (Nat.le_of_ble_eq_true rfl) ⟨Nat.zero_le _, Nat.zero_le _⟩ dX9_change_32 rfl rfl (fun r9 w9 hq => ?_)
    obtain ⟨rfl, rfl⟩ := hq
    dsimp only [Option.toList, List.cons_append, List.nil_append]
    refine r_aload_n (pq := 36) C dX9_change_35 rfl rfl ?_
    refine r_getW (pq := 39) C hci 4 ((va_n _ _ n2).trans ((va_n _ _ n1).trans hr)) (by decide) (by decide +kernel) rfl rfl dX9_change_36 rfl ?_
    refine r_iload_n (pq := 40) C dX9_change_39 rfl rfl ?_
    refine r_iconst (v := nI 1) (pq := 41) C dX9_change_40 (by decide) rfl ?_
    refine r_callV (pq := 44) C (mc_X8_add hl q2 (va_s _ _ _)) (va_s _ _ _) rfl gX9_change_X8_add rfl (na := 2) (by decide +kernel) rfl (by decide) (by decide) (Nat.le_of_ble_eq_true rfl) ⟨Nat.zero_le _, Nat.zero_le _⟩ dX9_change_41 rfl rfl (fun r9 w9 hq => ?_)
    obtain ⟨rfl, rfl⟩ := hq
    dsimp only [Option.toList, List.cons_append, List.nil_append]
    refine GG.cast (bx_uu _ _ _ _) ?_
    rw [lt_i, nI_toInt (by omega)] at c23
    rw [ch_l hcb (by omega) (by omega), ch_m hcb (by omega) (by omega)]
    refine r_vret C D rfl ⟨Nat.le_refl _, Nat.le_refl _⟩ dX9_change_44 ?_
    first | exact ⟨rfl, rfl⟩ | (refine ⟨rfl, ?_⟩; rw [lt_i, nI_toInt (by omega)] at c23; rw [wsm_out (h := lq l9 c) (h' := lq l9 (va_up c d9 cn)) (R := r9) (e := b9 + 1) lq_k (by omega), wsm_out (h := mq l9 c) (h' := mq l9 (va_up c d9 cn)) (R := r9) (e := b9 + 1) mq_k (by omega)]; exact (ve_self ((va_n _ _ (Ne.symm n3)).trans he)).symm)


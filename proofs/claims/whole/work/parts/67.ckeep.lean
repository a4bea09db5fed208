/-! ===== the class's calls: keep, make, copy, weight ===== -/
set_option maxHeartbeats 4000000 in
set_option maxRecDepth 100000 in
/-- wanted -/
theorem mc_X11_wanted_law {l : Launch} {E : EV} {w : RW} {B : Nat → Nat} {s : ST} (hS : SI s) (hN : NS E B s w) {x : Int32} : MC l E yX11_wanted wsX11_wanted 4 2 402 [.ref (B 0), .int (nI 1), .int x] (w) (fun v w' => w' = w ∧ v = some (if rg x (s.1 16) then .ref (B (200 + tn x)) else .null)) := by
  refine MC.enter (cc := cX11_wanted) (maxL := 3) (ret := (some (.object "NightBook$Held"))) (lv0 := [some (.ref (B 0)), some (.int (nI 1)), some (.int x)]) (by decide) rfl (by simp [Value.category]) (Nat.le_of_ble_eq_true rfl) rfl ?_
  intro X hl hE C D
  subst hl
  subst hE
  have hI1 : s.1 1 ≤ 6 := hS.2.1
  have hI5 : s.1 5 ≤ 80 := hS.2.2.1
  have hI16 : s.1 16 ≤ 12 := hS.2.2.2.1
  have hNN := hN
  obtain ⟨o0, ⟨u1, e1, f1⟩, ⟨u2, e2, f2⟩, ⟨u3, e3, f3⟩, ⟨u5, e5, f5⟩, ⟨u6, e6, f6⟩, ⟨u8, e8, f8⟩, ⟨u10, e10, f10⟩, ⟨u11, e11, f11⟩, ⟨u13, e13, f13⟩, ⟨u14, e14, f14⟩, ⟨u15, e15⟩, ⟨u16, e16⟩, h20, h30, h100, h200, h220, h240, h300, h310⟩ := hNN
  by_cases hok : rg x (s.1 16)
  · skip
    refine r_iload_n (pq := 1) C dX11_wanted_0 rfl rfl ?_
    refine r_tableIn (tg := 32) C dX11_wanted_1 (by decide) (by decide) rfl (by decide) ?_
    refine r_aload_n (pq := 33) C dX11_wanted_32 rfl rfl ?_
    refine r_iload_n (pq := 34) C dX11_wanted_33 rfl rfl ?_
    refine r_callV (pq := 37) C (mc_X11_lawAt hI16 o0 e8 f8) o0 rfl gX11_wanted_X11_lawAt rfl (na := 1) (by decide +kernel) rfl (by decide) (by decide) (Nat.le_of_ble_eq_true rfl) ⟨by rw [D.2.2.2.1]; decide, by rw [D.2.2.2.2.1]; decide⟩ dX11_wanted_34 rfl rfl (fun r9 w hq => ?_)
    obtain ⟨rfl, rfl⟩ := hq
    dsimp only [Option.toList, List.cons_append, List.nil_append]
    rw [if_pos hok]
    refine r_aret C D rfl (Or.inr ⟨_, rfl⟩) ⟨Nat.le_of_ble_eq_true rfl, Nat.le_of_ble_eq_true rfl⟩ dX11_wanted_37 ?_
    exact ⟨rfl, by rw [if_pos hok]⟩
  · skip
    refine r_iload_n (pq := 1) C dX11_wanted_0 rfl rfl ?_
    refine r_tableIn (tg := 32) C dX11_wanted_1 (by decide) (by decide) rfl (by decide) ?_
    refine r_aload_n (pq := 33) C dX11_wanted_32 rfl rfl ?_
    refine r_iload_n (pq := 34) C dX11_wanted_33 rfl rfl ?_
    refine r_callV (pq := 37) C (mc_X11_lawAt hI16 o0 e8 f8) o0 rfl gX11_wanted_X11_lawAt rfl (na := 1) (by decide +kernel) rfl (by decide) (by decide) (Nat.le_of_ble_eq_true rfl) ⟨by rw [D.2.2.2.1]; decide, by rw [D.2.2.2.2.1]; decide⟩ dX11_wanted_34 rfl rfl (fun r9 w hq => ?_)
    obtain ⟨rfl, rfl⟩ := hq
    dsimp only [Option.toList, List.cons_append, List.nil_append]
    rw [if_neg hok]
    refine r_aret C D rfl (Or.inl rfl) ⟨Nat.le_of_ble_eq_true rfl, Nat.le_of_ble_eq_true rfl⟩ dX11_wanted_37 ?_
    exact ⟨rfl, by rw [if_neg hok]⟩

set_option maxHeartbeats 4000000 in
set_option maxRecDepth 100000 in
/-- wanted -/
theorem mc_X11_wanted_mark {l : Launch} {E : EV} {w : RW} {B : Nat → Nat} {s : ST} (hS : SI s) (hN : NS E B s w) {x : Int32} : MC l E yX11_wanted wsX11_wanted 4 2 402 [.ref (B 0), .int (nI 2), .int x] (w) (fun v w' => w' = w ∧ v = some (if rg x (s.1 5) then .ref (B (100 + tn x)) else .null)) := by
  refine MC.enter (cc := cX11_wanted) (maxL := 3) (ret := (some (.object "NightBook$Held"))) (lv0 := [some (.ref (B 0)), some (.int (nI 2)), some (.int x)]) (by decide) rfl (by simp [Value.category]) (Nat.le_of_ble_eq_true rfl) rfl ?_
  intro X hl hE C D
  subst hl
  subst hE
  have hI1 : s.1 1 ≤ 6 := hS.2.1
  have hI5 : s.1 5 ≤ 80 := hS.2.2.1
  have hI16 : s.1 16 ≤ 12 := hS.2.2.2.1
  have hNN := hN
  obtain ⟨o0, ⟨u1, e1, f1⟩, ⟨u2, e2, f2⟩, ⟨u3, e3, f3⟩, ⟨u5, e5, f5⟩, ⟨u6, e6, f6⟩, ⟨u8, e8, f8⟩, ⟨u10, e10, f10⟩, ⟨u11, e11, f11⟩, ⟨u13, e13, f13⟩, ⟨u14, e14, f14⟩, ⟨u15, e15⟩, ⟨u16, e16⟩, h20, h30, h100, h200, h220, h240, h300, h310⟩ := hNN
  by_cases hok : rg x (s.1 5)
  · skip
    refine r_iload_n (pq := 1) C dX11_wanted_0 rfl rfl ?_
    refine r_tableIn (tg := 38) C dX11_wanted_1 (by decide) (by decide) rfl (by decide) ?_
    refine r_aload_n (pq := 39) C dX11_wanted_38 rfl rfl ?_
    refine r_iload_n (pq := 40) C dX11_wanted_39 rfl rfl ?_
    refine r_callV (pq := 43) C (mc_X11_markAt hI5 o0 e6 f6) o0 rfl gX11_wanted_X11_markAt rfl (na := 1) (by decide +kernel) rfl (by decide) (by decide) (Nat.le_of_ble_eq_true rfl) ⟨by rw [D.2.2.2.1]; decide, by rw [D.2.2.2.2.1]; decide⟩ dX11_wanted_40 rfl rfl (fun r9 w hq => ?_)
    obtain ⟨rfl, rfl⟩ := hq
    dsimp only [Option.toList, List.cons_append, List.nil_append]
    rw [if_pos hok]
    refine r_aret C D rfl (Or.inr ⟨_, rfl⟩) ⟨Nat.le_of_ble_eq_true rfl, Nat.le_of_ble_eq_true rfl⟩ dX11_wanted_43 ?_
    exact ⟨rfl, by rw [if_pos hok]⟩
  · skip
    refine r_iload_n (pq := 1) C dX11_wanted_0 rfl rfl ?_
    refine r_tableIn (tg := 38) C dX11_wanted_1 (by decide) (by decide) rfl (by decide) ?_
    refine r_aload_n (pq := 39) C dX11_wanted_38 rfl rfl ?_
    refine r_iload_n (pq := 40) C dX11_wanted_39 rfl rfl ?_
    refine r_callV (pq := 43) C (mc_X11_markAt hI5 o0 e6 f6) o0 rfl gX11_wanted_X11_markAt rfl (na := 1) (by decide +kernel) rfl (by decide) (by decide) (Nat.le_of_ble_eq_true rfl) ⟨by rw [D.2.2.2.1]; decide, by rw [D.2.2.2.2.1]; decide⟩ dX11_wanted_40 rfl rfl (fun r9 w hq => ?_)
    obtain ⟨rfl, rfl⟩ := hq
    dsimp only [Option.toList, List.cons_append, List.nil_append]
    rw [if_neg hok]
    refine r_aret C D rfl (Or.inl rfl) ⟨Nat.le_of_ble_eq_true rfl, Nat.le_of_ble_eq_true rfl⟩ dX11_wanted_43 ?_
    exact ⟨rfl, by rw [if_neg hok]⟩

set_option maxHeartbeats 4000000 in
set_option maxRecDepth 100000 in
/-- wanted -/
theorem mc_X11_wanted_cans {l : Launch} {E : EV} {w : RW} {B : Nat → Nat} {s : ST} (hS : SI s) (hN : NS E B s w) {r rc p9 : Nat} (hp : p9 < s.1 1) (n1 : r ≠ rc) (n2 : 300 ≤ r) (n3 : 300 ≤ rc) : MC l E yX11_wanted wsX11_wanted 4 2 402 [.ref (B 0), .int (nI 3), .int (nI p9)] (w) (fun v w' => ∃ a q h, v = some (.ref a) ∧ w' r = some (a, .inr (5, [.int (nI 0), .ref q])) ∧ w' rc = sA E q 400 h ∧ (∀ j, j < 400 → h j = byt (cr s p9 j)) ∧ ∀ j, j ≠ r → j ≠ rc → w' j = w j) := by
  refine MC.enter (cc := cX11_wanted) (maxL := 3) (ret := (some (.object "NightBook$Held"))) (lv0 := [some (.ref (B 0)), some (.int (nI 3)), some (.int (nI p9))]) (by decide) rfl (by simp [Value.category]) (Nat.le_of_ble_eq_true rfl) rfl ?_
  intro X hl hE C D
  subst hl
  subst hE
  have hI1 : s.1 1 ≤ 6 := hS.2.1
  have hI5 : s.1 5 ≤ 80 := hS.2.2.1
  have hI16 : s.1 16 ≤ 12 := hS.2.2.2.1
  have hNN := hN
  obtain ⟨o0, ⟨u1, e1, f1⟩, ⟨u2, e2, f2⟩, ⟨u3, e3, f3⟩, ⟨u5, e5, f5⟩, ⟨u6, e6, f6⟩, ⟨u8, e8, f8⟩, ⟨u10, e10, f10⟩, ⟨u11, e11, f11⟩, ⟨u13, e13, f13⟩, ⟨u14, e14, f14⟩, ⟨u15, e15⟩, ⟨u16, e16⟩, h20, h30, h100, h200, h220, h240, h300, h310⟩ := hNN
  refine r_iload_n (pq := 1) C dX11_wanted_0 rfl rfl ?_
  refine r_tableIn (tg := 44) C dX11_wanted_1 (by decide) (by decide) rfl (by decide) ?_
  refine r_aload_n (pq := 45) C dX11_wanted_44 rfl rfl ?_
  refine r_iload_n (pq := 46) C dX11_wanted_45 rfl rfl ?_
  refine r_callV (pq := 49) C (mc_X11_isPerson hI1 o0) o0 rfl gX11_wanted_X11_isPerson rfl (na := 1) (by decide +kernel) rfl (by decide) (by decide) (Nat.le_of_ble_eq_true rfl) ⟨by rw [D.2.2.2.1]; decide, by rw [D.2.2.2.2.1]; decide⟩ dX11_wanted_46 rfl rfl (fun r9 w hq => ?_)
  obtain ⟨rfl, rfl⟩ := hq
  dsimp only [Option.toList, List.cons_append, List.nil_append]
  have lx := b2_lt (rg (nI p9) (s.1 1))
  refine rN_if_eq (tg := 60) (pq := 52) C dX11_wanted_49 (by decide) rfl (by omega) (fun c49 => absurd c49 (b2_1.mpr ((rg_nI (by omega)).mpr hp))) (fun c49 => ?_)
  refine r_aload_n (pq := 53) C dX11_wanted_52 rfl rfl ?_
  refine r_iload_n (pq := 54) C dX11_wanted_53 rfl rfl ?_
  refine r_callV (pq := 57) C (mc_X11_rowOfCans (r := r) (rc := rc) hS hN hp n1 n2 n3) o0 rfl gX11_wanted_X11_rowOfCans rfl (na := 1) (by decide +kernel) rfl (by decide) (by decide) (Nat.le_of_ble_eq_true rfl) ⟨by rw [D.2.2.2.1]; decide, by rw [D.2.2.2.2.1]; decide⟩ dX11_wanted_54 rfl rfl (fun r9 w9 hq => ?_)
  obtain ⟨a, q, h, rfl, k1⟩ := hq
  dsimp only [Option.toList, List.cons_append, List.nil_append]
  refine r_goto (tg := 61) C dX11_wanted_57 (by decide) ?_
  refine r_aret C D rfl (Or.inr ⟨_, rfl⟩) ⟨Nat.le_of_ble_eq_true rfl, Nat.le_of_ble_eq_true rfl⟩ dX11_wanted_61 ?_
  exact ⟨a, q, h, rfl, k1⟩

set_option maxHeartbeats 4000000 in
set_option maxRecDepth 100000 in
/-- wanted -/
theorem mc_X11_wanted_most {l : Launch} {E : EV} {w : RW} {B : Nat → Nat} {s : ST} (hS : SI s) (hN : NS E B s w) {r rc p9 : Nat} (hp : p9 < s.1 1) (n1 : r ≠ rc) (n2 : 300 ≤ r) (n3 : 300 ≤ rc) : MC l E yX11_wanted wsX11_wanted 4 2 402 [.ref (B 0), .int (nI 4), .int (nI p9)] (w) (fun v w' => ∃ a q h, v = some (.ref a) ∧ w' r = some (a, .inr (5, [.int (nI 1), .ref q])) ∧ w' rc = sA E q 8 h ∧ (∀ j, j < 8 → h j = nI (ps (mq j (cr s p9)) 400)) ∧ (∀ j, j ≠ r → j ≠ rc → (j < 30 ∨ 38 ≤ j) → w' j = w j) ∧ ∀ l, l < 8 → ∃ x y, w' (30 + l) = tCz (B (30 + l)) l x y) := by
  refine MC.enter (cc := cX11_wanted) (maxL := 3) (ret := (some (.object "NightBook$Held"))) (lv0 := [some (.ref (B 0)), some (.int (nI 4)), some (.int (nI p9))]) (by decide) rfl (by simp [Value.category]) (Nat.le_of_ble_eq_true rfl) rfl ?_
  intro X hl hE C D
  subst hl
  subst hE
  have hI1 : s.1 1 ≤ 6 := hS.2.1
  have hI5 : s.1 5 ≤ 80 := hS.2.2.1
  have hI16 : s.1 16 ≤ 12 := hS.2.2.2.1
  have hNN := hN
  obtain ⟨o0, ⟨u1, e1, f1⟩, ⟨u2, e2, f2⟩, ⟨u3, e3, f3⟩, ⟨u5, e5, f5⟩, ⟨u6, e6, f6⟩, ⟨u8, e8, f8⟩, ⟨u10, e10, f10⟩, ⟨u11, e11, f11⟩, ⟨u13, e13, f13⟩, ⟨u14, e14, f14⟩, ⟨u15, e15⟩, ⟨u16, e16⟩, h20, h30, h100, h200, h220, h240, h300, h310⟩ := hNN
  refine r_iload_n (pq := 1) C dX11_wanted_0 rfl rfl ?_
  refine r_tableIn (tg := 62) C dX11_wanted_1 (by decide) (by decide) rfl (by decide) ?_
  refine r_aload_n (pq := 63) C dX11_wanted_62 rfl rfl ?_
  refine r_iload_n (pq := 64) C dX11_wanted_63 rfl rfl ?_
  refine r_callV (pq := 67) C (mc_X11_isPerson hI1 o0) o0 rfl gX11_wanted_X11_isPerson rfl (na := 1) (by decide +kernel) rfl (by decide) (by decide) (Nat.le_of_ble_eq_true rfl) ⟨by rw [D.2.2.2.1]; decide, by rw [D.2.2.2.2.1]; decide⟩ dX11_wanted_64 rfl rfl (fun r9 w hq => ?_)
  obtain ⟨rfl, rfl⟩ := hq
  dsimp only [Option.toList, List.cons_append, List.nil_append]
  have lx := b2_lt (rg (nI p9) (s.1 1))
  refine rN_if_eq (tg := 78) (pq := 70) C dX11_wanted_67 (by decide) rfl (by omega) (fun c67 => absurd c67 (b2_1.mpr ((rg_nI (by omega)).mpr hp))) (fun c67 => ?_)
  refine r_aload_n (pq := 71) C dX11_wanted_70 rfl rfl ?_
  refine r_iload_n (pq := 72) C dX11_wanted_71 rfl rfl ?_
  refine r_callV (pq := 75) C (mc_X11_rowOfMost (r := r) (rc := rc) hS hN hp n1 n2 n3) o0 rfl gX11_wanted_X11_rowOfMost rfl (na := 1) (by decide +kernel) rfl (by decide) (by decide) (Nat.le_of_ble_eq_true rfl) ⟨by rw [D.2.2.2.1]; decide, by rw [D.2.2.2.2.1]; decide⟩ dX11_wanted_72 rfl rfl (fun r9 w9 hq => ?_)
  obtain ⟨a, q, h, rfl, k1⟩ := hq
  dsimp only [Option.toList, List.cons_append, List.nil_append]
  refine r_goto (tg := 79) C dX11_wanted_75 (by decide) ?_
  refine r_aret C D rfl (Or.inr ⟨_, rfl⟩) ⟨Nat.le_of_ble_eq_true rfl, Nat.le_of_ble_eq_true rfl⟩ dX11_wanted_79 ?_
  exact ⟨a, q, h, rfl, k1⟩

set_option maxHeartbeats 4000000 in
set_option maxRecDepth 100000 in
/-- wanted -/
theorem mc_X11_wanted_no3 {l : Launch} {E : EV} {w : RW} {B : Nat → Nat} {s : ST} (hS : SI s) (hN : NS E B s w) {x : Int32} (hx : ¬ rg x (s.1 1)) : MC l E yX11_wanted wsX11_wanted 4 2 402 [.ref (B 0), .int (nI 3), .int x] (w) (fun v w' => w' = w ∧ v = some .null) := by
  refine MC.enter (cc := cX11_wanted) (maxL := 3) (ret := (some (.object "NightBook$Held"))) (lv0 := [some (.ref (B 0)), some (.int (nI 3)), some (.int x)]) (by decide) rfl (by simp [Value.category]) (Nat.le_of_ble_eq_true rfl) rfl ?_
  intro X hl hE C D
  subst hl
  subst hE
  have hI1 : s.1 1 ≤ 6 := hS.2.1
  have hI5 : s.1 5 ≤ 80 := hS.2.2.1
  have hI16 : s.1 16 ≤ 12 := hS.2.2.2.1
  have hNN := hN
  obtain ⟨o0, ⟨u1, e1, f1⟩, ⟨u2, e2, f2⟩, ⟨u3, e3, f3⟩, ⟨u5, e5, f5⟩, ⟨u6, e6, f6⟩, ⟨u8, e8, f8⟩, ⟨u10, e10, f10⟩, ⟨u11, e11, f11⟩, ⟨u13, e13, f13⟩, ⟨u14, e14, f14⟩, ⟨u15, e15⟩, ⟨u16, e16⟩, h20, h30, h100, h200, h220, h240, h300, h310⟩ := hNN
  refine r_iload_n (pq := 1) C dX11_wanted_0 rfl rfl ?_
  refine r_tableIn (tg := 44) C dX11_wanted_1 (by decide) (by decide) rfl (by decide) ?_
  refine r_aload_n (pq := 45) C dX11_wanted_44 rfl rfl ?_
  refine r_iload_n (pq := 46) C dX11_wanted_45 rfl rfl ?_
  refine r_callV (pq := 49) C (mc_X11_isPerson hI1 o0) o0 rfl gX11_wanted_X11_isPerson rfl (na := 1) (by decide +kernel) rfl (by decide) (by decide) (Nat.le_of_ble_eq_true rfl) ⟨by rw [D.2.2.2.1]; decide, by rw [D.2.2.2.2.1]; decide⟩ dX11_wanted_46 rfl rfl (fun r9 w hq => ?_)
  obtain ⟨rfl, rfl⟩ := hq
  dsimp only [Option.toList, List.cons_append, List.nil_append]
  have lx := b2_lt (rg x (s.1 1))
  refine rN_if_eq (tg := 60) (pq := 52) C dX11_wanted_49 (by decide) rfl (by omega) (fun c49 => ?_) (fun c49 => absurd (b2_1.mp c49) hx)
  refine r_aconst_null (pq := 61) C dX11_wanted_60 rfl ?_
  refine r_aret C D rfl (Or.inl rfl) ⟨Nat.le_of_ble_eq_true rfl, Nat.le_of_ble_eq_true rfl⟩ dX11_wanted_61 ?_
  exact ⟨rfl, rfl⟩

set_option maxHeartbeats 4000000 in
set_option maxRecDepth 100000 in
/-- wanted -/
theorem mc_X11_wanted_no4 {l : Launch} {E : EV} {w : RW} {B : Nat → Nat} {s : ST} (hS : SI s) (hN : NS E B s w) {x : Int32} (hx : ¬ rg x (s.1 1)) : MC l E yX11_wanted wsX11_wanted 4 2 402 [.ref (B 0), .int (nI 4), .int x] (w) (fun v w' => w' = w ∧ v = some .null) := by
  refine MC.enter (cc := cX11_wanted) (maxL := 3) (ret := (some (.object "NightBook$Held"))) (lv0 := [some (.ref (B 0)), some (.int (nI 4)), some (.int x)]) (by decide) rfl (by simp [Value.category]) (Nat.le_of_ble_eq_true rfl) rfl ?_
  intro X hl hE C D
  subst hl
  subst hE
  have hI1 : s.1 1 ≤ 6 := hS.2.1
  have hI5 : s.1 5 ≤ 80 := hS.2.2.1
  have hI16 : s.1 16 ≤ 12 := hS.2.2.2.1
  have hNN := hN
  obtain ⟨o0, ⟨u1, e1, f1⟩, ⟨u2, e2, f2⟩, ⟨u3, e3, f3⟩, ⟨u5, e5, f5⟩, ⟨u6, e6, f6⟩, ⟨u8, e8, f8⟩, ⟨u10, e10, f10⟩, ⟨u11, e11, f11⟩, ⟨u13, e13, f13⟩, ⟨u14, e14, f14⟩, ⟨u15, e15⟩, ⟨u16, e16⟩, h20, h30, h100, h200, h220, h240, h300, h310⟩ := hNN
  refine r_iload_n (pq := 1) C dX11_wanted_0 rfl rfl ?_
  refine r_tableIn (tg := 62) C dX11_wanted_1 (by decide) (by decide) rfl (by decide) ?_
  refine r_aload_n (pq := 63) C dX11_wanted_62 rfl rfl ?_
  refine r_iload_n (pq := 64) C dX11_wanted_63 rfl rfl ?_
  refine r_callV (pq := 67) C (mc_X11_isPerson hI1 o0) o0 rfl gX11_wanted_X11_isPerson rfl (na := 1) (by decide +kernel) rfl (by decide) (by decide) (Nat.le_of_ble_eq_true rfl) ⟨by rw [D.2.2.2.1]; decide, by rw [D.2.2.2.2.1]; decide⟩ dX11_wanted_64 rfl rfl (fun r9 w hq => ?_)
  obtain ⟨rfl, rfl⟩ := hq
  dsimp only [Option.toList, List.cons_append, List.nil_append]
  have lx := b2_lt (rg x (s.1 1))
  refine rN_if_eq (tg := 78) (pq := 70) C dX11_wanted_67 (by decide) rfl (by omega) (fun c67 => ?_) (fun c67 => absurd (b2_1.mp c67) hx)
  refine r_aconst_null (pq := 79) C dX11_wanted_78 rfl ?_
  refine r_aret C D rfl (Or.inl rfl) ⟨Nat.le_of_ble_eq_true rfl, Nat.le_of_ble_eq_true rfl⟩ dX11_wanted_79 ?_
  exact ⟨rfl, rfl⟩

set_option maxHeartbeats 4000000 in
set_option maxRecDepth 100000 in
/-- wanted -/
theorem mc_X11_wanted_none {l : Launch} {E : EV} {w : RW} {B : Nat → Nat} {s : ST} (hS : SI s) (hN : NS E B s w) {x y : Int32} (hy : y.toInt < 1 ∨ 4 < y.toInt) : MC l E yX11_wanted wsX11_wanted 4 2 402 [.ref (B 0), .int y, .int x] (w) (fun v w' => w' = w ∧ v = some .null) := by
  refine MC.enter (cc := cX11_wanted) (maxL := 3) (ret := (some (.object "NightBook$Held"))) (lv0 := [some (.ref (B 0)), some (.int y), some (.int x)]) (by decide) rfl (by simp [Value.category]) (Nat.le_of_ble_eq_true rfl) rfl ?_
  intro X hl hE C D
  subst hl
  subst hE
  have hI1 : s.1 1 ≤ 6 := hS.2.1
  have hI5 : s.1 5 ≤ 80 := hS.2.2.1
  have hI16 : s.1 16 ≤ 12 := hS.2.2.2.1
  have hNN := hN
  obtain ⟨o0, ⟨u1, e1, f1⟩, ⟨u2, e2, f2⟩, ⟨u3, e3, f3⟩, ⟨u5, e5, f5⟩, ⟨u6, e6, f6⟩, ⟨u8, e8, f8⟩, ⟨u10, e10, f10⟩, ⟨u11, e11, f11⟩, ⟨u13, e13, f13⟩, ⟨u14, e14, f14⟩, ⟨u15, e15⟩, ⟨u16, e16⟩, h20, h30, h100, h200, h220, h240, h300, h310⟩ := hNN
  refine r_iload_n (pq := 1) C dX11_wanted_0 rfl rfl ?_
  refine r_tableOut (tg := 80) C dX11_wanted_1 hy (by decide) ?_
  refine r_aconst_null (pq := 81) C dX11_wanted_80 rfl ?_
  refine r_aret C D rfl (Or.inl rfl) ⟨Nat.le_of_ble_eq_true rfl, Nat.le_of_ble_eq_true rfl⟩ dX11_wanted_81 ?_
  exact ⟨rfl, rfl⟩

set_option maxHeartbeats 4000000 in
set_option maxRecDepth 100000 in
/-- keep -/
theorem mc_X11_keep {l : Launch} {E : EV} {w : RW} {B : Nat → Nat} {s : ST} (hS : SI s) (hN : NS E B s w) {x y z : Int32} : MC l E yX11_keep wsX11_keep 5 2 402 [.ref (B 0), .int x, .int y, .int z] (w) (nP E B w (rs_keep s x y z) (nx_keep s x y z)) := by
  refine MC.enter (cc := cX11_keep) (maxL := 5) (ret := (some .int)) (lv0 := [some (.ref (B 0)), some (.int x), some (.int y), some (.int z), none]) (by decide) rfl (by simp [Value.category]) (Nat.le_of_ble_eq_true rfl) rfl ?_
  intro X hl hE C D
  subst hl
  subst hE
  have hI1 : s.1 1 ≤ 6 := hS.2.1
  have hI5 : s.1 5 ≤ 80 := hS.2.2.1
  have hI16 : s.1 16 ≤ 12 := hS.2.2.2.1
  have hNN := hN
  obtain ⟨o0, ⟨u1, e1, f1⟩, ⟨u2, e2, f2⟩, ⟨u3, e3, f3⟩, ⟨u5, e5, f5⟩, ⟨u6, e6, f6⟩, ⟨u8, e8, f8⟩, ⟨u10, e10, f10⟩, ⟨u11, e11, f11⟩, ⟨u13, e13, f13⟩, ⟨u14, e14, f14⟩, ⟨u15, e15⟩, ⟨u16, e16⟩, h20, h30, h100, h200, h220, h240, h300, h310⟩ := hNN
  by_cases hd : rg x 8
  · obtain ⟨d9, hd9, rfl⟩ := rg_of hd (by omega)
    by_cases hy : rg y 5
    · obtain ⟨k9, hk9, rfl⟩ := rg_of hy (by omega)
      rcases (by omega : k9 = 0 ∨ k9 = 1 ∨ k9 = 2 ∨ k9 = 3 ∨ k9 = 4) with e | e | e | e | e <;> subst e
      · have hok : okKeep s (nI d9) (nI 0) z := ⟨hd, hy, fun h => absurd h (by decide), fun h => absurd h (by decide), fun h => absurd h (by decide)⟩
        refine r_iload_n (pq := 1) C dX11_keep_0 rfl rfl ?_
        refine r_callS (pq := 4) C (mc_X11_isShelf) gX11_keep_X11_isShelf rfl (na := 1) (by decide +kernel) rfl (by decide) (by decide) (Nat.le_of_ble_eq_true rfl) ⟨by rw [D.2.2.2.1]; decide, by rw [D.2.2.2.2.1]; decide⟩ dX11_keep_1 rfl rfl (fun r9 w hq => ?_)
        obtain ⟨rfl, rfl⟩ := hq
        dsimp only [Option.toList, List.cons_append, List.nil_append]
        have l1 := b2_lt (rg (nI d9) 8)
        refine rN_if_ne (tg := 9) (pq := 7) C dX11_keep_4 (by decide) rfl (by omega) (fun c4 => ?_) (fun c4 => absurd c4 (b2_1.mpr ((rg_nI (by omega)).mpr hd9)))
        refine r_iload_n (pq := 10) C dX11_keep_9 rfl rfl ?_
        refine rN_if_ne (tg := 17) (pq := 13) C dX11_keep_10 (by decide) rfl (by omega) (fun c10 => absurd rfl c10) (fun c10 => ?_)
        refine r_aconst_null (pq := 14) C dX11_keep_13 rfl ?_
        refine r_goto (tg := 23) C dX11_keep_14 (by decide) ?_
        refine r_astoreN (j := 4) (pq := 25) C dX11_keep_23 rfl (by decide) rfl rfl ?_
        dsimp only [List.set]
        refine r_aloadN (pq := 27) C dX11_keep_25 rfl rfl ?_
        refine r_ifnonnullN (pq := 30) C dX11_keep_27 rfl ?_
        refine r_iload_n (pq := 31) C dX11_keep_30 rfl rfl ?_
        refine rN_if_eq (tg := 36) (pq := 34) C dX11_keep_31 (by decide) rfl (by omega) (fun c31 => ?_) (fun c31 => absurd rfl c31)
        refine r_aload_n (pq := 37) C dX11_keep_36 rfl rfl ?_
        refine r_getf (pq := 40) C 12 o0 rfl (by decide) (by decide +kernel) (Or.inl rfl) rfl dX11_keep_37 rfl ?_
        refine r_iload_n (pq := 41) C dX11_keep_40 rfl rfl ?_
        refine r_aloadN (pq := 43) C dX11_keep_41 rfl rfl ?_
        refine rN_aastN (pq := 44) C 6 rfl e13 (by omega) (by decide) dX11_keep_43 rfl ?_
        refine r_iconst (v := nI 0) (pq := 45) C dX11_keep_44 (by decide) rfl ?_
        refine r_iret C D rfl ⟨Nat.zero_le _, Nat.zero_le _⟩ dX11_keep_45 ?_
        refine ⟨?_, fun q hq => va_n _ _ (by omega), B, rfl, ?_⟩
        · unfold rs_keep
          rw [if_pos hok]
          rfl
        · unfold nx_keep
          rw [if_pos hok, tn_nI (show d9 < 2147483648 by omega), tn_nI (show 0 < 2147483648 by decide), if_pos (by decide)]
          refine ⟨?_, ?_, ?_, ?_, ?_, ?_, ?_, ?_, ?_, ?_, ?_, ?_, ?_, ?_, ?_, ?_, ?_, ?_, ?_, ?_, ?_⟩
          · exact ((va_n _ _ (by omega))).trans o0
          · exact ⟨u1, ((va_n _ _ (by omega))).trans e1, f1⟩
          · exact ⟨u2, ((va_n _ _ (by omega))).trans e2, f2⟩
          · exact ⟨u3, ((va_n _ _ (by omega))).trans e3, f3⟩
          · exact ⟨u5, ((va_n _ _ (by omega))).trans e5, f5⟩
          · exact ⟨u6, ((va_n _ _ (by omega))).trans e6, f6⟩
          · exact ⟨u8, ((va_n _ _ (by omega))).trans e8, f8⟩
          · exact ⟨u10, ((va_n _ _ (by omega))).trans e10, f10⟩
          · exact ⟨u11, ((va_n _ _ (by omega))).trans e11, f11⟩
          · skip
            refine ⟨_, va_s _ _ _, fun d hd => ?_⟩
            by_cases e : d = d9
            · subst e
              rw [va_s]
              unfold shl
              have q1 : upf s.2.1 24 d 0 24 d = 0 := upf_s _ _ _ _
              show none = if upf s.2.1 24 d 0 24 d = 0 then none else _
              rw [q1, if_pos rfl]
            · rw [va_n _ _ e, f13 d hd]
              have z9 := hS.sh hd
              exact (shl_to (by show (upf s.2.1 24 d9 0) 24 d = _; rw [upf_n _ _ e]) (by show (upg s.2.2 25 d9 z) 25 d = _; rw [upg_n _ _ e]) (fun _ => rfl) (fun _ => rfl) rfl).symm
          · exact ⟨u14, ((va_n _ _ (by omega))).trans e14, f14⟩
          · exact ⟨u15, ((va_n _ _ (by omega))).trans e15⟩
          · exact ⟨u16, ((va_n _ _ (by omega))).trans e16⟩
          · intro p hp
            obtain ⟨h9, a1, a2⟩ := h20 p hp
            refine ⟨h9, ((va_n _ _ (by omega))).trans a1, fun z d hd => ?_⟩
            rw [a2 z d hd]
            exact congrArg nI (cn_congr (f := s.2.1) (f' := (upf s.2.1 24 d9 0)) (fun k z1 z2 => by rw [upf_o _ _ (by omega)]) (s.1 5) p d).symm
          · intro l hl
            obtain ⟨x, y, a1⟩ := h30 l hl
            exact ⟨x, y, ((va_n _ _ (by omega))).trans a1⟩
          · intro m hm
            have hm9 : m < s.1 5 := hm
            exact ((va_n _ _ (by omega))).trans (h100 m hm)
          · intro j hj
            have hj9 : j < s.1 16 := hj
            obtain ⟨z, a1⟩ := h200 j hj
            exact ⟨z, ((va_n _ _ (by omega))).trans a1⟩
          · intro j hj
            have hj9 : j < s.1 16 := hj
            obtain ⟨x, y, a1⟩ := h220 j hj
            exact ⟨x, y, ((va_n _ _ (by omega))).trans a1⟩
          · intro j hj
            have hj9 : j < s.1 16 := hj
            obtain ⟨x, y, a1⟩ := h240 j hj
            exact ⟨x, y, ((va_n _ _ (by omega))).trans a1⟩
          · intro d hd h3
            have e : d ≠ d9 := fun q => by have h4 : 3 ≤ (upf s.2.1 24 d9 0) 24 d := h3; rw [q, upf_s] at h4; omega
            have h4 : (upf s.2.1 24 d9 0) 24 d = s.2.1 24 d := upf_n _ _ e
            have h5 : 3 ≤ s.2.1 24 d := by rw [← h4]; exact h3
            refine ((va_n _ _ (by omega))).trans ((h300 d hd h5).trans ?_)
            show _ = some (_, Sum.inr (5, [Value.int (nI ((upf s.2.1 24 d9 0) 24 d - 3)), _]))
            rw [h4]
          · intro d hd h3
            have e : d ≠ d9 := fun q => by have h4 : 3 ≤ (upf s.2.1 24 d9 0) 24 d := h3; rw [q, upf_s] at h4; omega
            have h4 : (upf s.2.1 24 d9 0) 24 d = s.2.1 24 d := upf_n _ _ e
            obtain ⟨h9, a1, a2⟩ := h310 d hd (by rw [← h4]; exact h3)
            exact ⟨h9, ((va_n _ _ (by omega))).trans a1, a2⟩
      · by_cases hj9 : rg z (s.1 16)
        · have hok : okKeep s (nI d9) (nI 1) z := ⟨hd, hy, fun h => hj9, fun h => absurd h (by decide), fun h => absurd h (by decide)⟩
          obtain ⟨j, hj, rfl⟩ := rg_of hj9 (by omega)
          obtain ⟨z9, hr⟩ := h200 j hj
          refine r_iload_n (pq := 1) C dX11_keep_0 rfl rfl ?_
          refine r_callS (pq := 4) C (mc_X11_isShelf) gX11_keep_X11_isShelf rfl (na := 1) (by decide +kernel) rfl (by decide) (by decide) (Nat.le_of_ble_eq_true rfl) ⟨by rw [D.2.2.2.1]; decide, by rw [D.2.2.2.2.1]; decide⟩ dX11_keep_1 rfl rfl (fun r9 w hq => ?_)
          obtain ⟨rfl, rfl⟩ := hq
          dsimp only [Option.toList, List.cons_append, List.nil_append]
          have l1 := b2_lt (rg (nI d9) 8)
          refine rN_if_ne (tg := 9) (pq := 7) C dX11_keep_4 (by decide) rfl (by omega) (fun c4 => ?_) (fun c4 => absurd c4 (b2_1.mpr ((rg_nI (by omega)).mpr hd9)))
          refine r_iload_n (pq := 10) C dX11_keep_9 rfl rfl ?_
          refine rN_if_ne (tg := 17) (pq := 13) C dX11_keep_10 (by decide) rfl (by omega) (fun c10 => ?_) (fun c10 => absurd c10 (by decide))
          refine r_aload_n (pq := 18) C dX11_keep_17 rfl rfl ?_
          refine r_iload_n (pq := 19) C dX11_keep_18 rfl rfl ?_
          refine r_iload_n (pq := 20) C dX11_keep_19 rfl rfl ?_
          refine r_callV (pq := 23) C (mc_X11_wanted_law hS hN) o0 rfl gX11_keep_X11_wanted rfl (na := 2) (by decide +kernel) rfl (by decide) (by decide) (Nat.le_of_ble_eq_true rfl) ⟨by rw [D.2.2.2.1]; decide, by rw [D.2.2.2.2.1]; decide⟩ dX11_keep_20 rfl rfl (fun r9 w hq => ?_)
          obtain ⟨rfl, rfl⟩ := hq
          dsimp only [Option.toList, List.cons_append, List.nil_append]
          rw [if_pos hj9, tn_nI (by omega)]
          refine r_astore (j := 4) (pq := 25) C dX11_keep_23 rfl (by decide) rfl rfl ?_
          dsimp only [List.set]
          refine r_aload (pq := 27) C dX11_keep_25 rfl rfl ?_
          refine r_ifnonnull (tg := 36) C dX11_keep_27 (by decide) ?_
          refine r_aload_n (pq := 37) C dX11_keep_36 rfl rfl ?_
          refine r_getf (pq := 40) C 12 o0 rfl (by decide) (by decide +kernel) (Or.inl rfl) rfl dX11_keep_37 rfl ?_
          refine r_iload_n (pq := 41) C dX11_keep_40 rfl rfl ?_
          refine r_aload (pq := 43) C dX11_keep_41 rfl rfl ?_
          refine rN_aast (pq := 44) C 6 rfl e13 (any_W C (lwC_W _) (Or.inr rfl) hr) (by omega) (by decide) dX11_keep_43 rfl ?_
          refine r_iconst (v := nI 0) (pq := 45) C dX11_keep_44 (by decide) rfl ?_
          refine r_iret C D rfl ⟨Nat.le_of_ble_eq_true rfl, Nat.le_of_ble_eq_true rfl⟩ dX11_keep_45 ?_
          refine ⟨?_, fun q hq => va_n _ _ (by omega), B, rfl, ?_⟩
          · unfold rs_keep
            rw [if_pos hok]
            rfl
          · unfold nx_keep
            rw [if_pos hok, tn_nI (show d9 < 2147483648 by omega), tn_nI (show 1 < 2147483648 by decide), if_pos (by decide)]
            refine ⟨?_, ?_, ?_, ?_, ?_, ?_, ?_, ?_, ?_, ?_, ?_, ?_, ?_, ?_, ?_, ?_, ?_, ?_, ?_, ?_, ?_⟩
            · exact ((va_n _ _ (by omega))).trans o0
            · exact ⟨u1, ((va_n _ _ (by omega))).trans e1, f1⟩
            · exact ⟨u2, ((va_n _ _ (by omega))).trans e2, f2⟩
            · exact ⟨u3, ((va_n _ _ (by omega))).trans e3, f3⟩
            · exact ⟨u5, ((va_n _ _ (by omega))).trans e5, f5⟩
            · exact ⟨u6, ((va_n _ _ (by omega))).trans e6, f6⟩
            · exact ⟨u8, ((va_n _ _ (by omega))).trans e8, f8⟩
            · exact ⟨u10, ((va_n _ _ (by omega))).trans e10, f10⟩
            · exact ⟨u11, ((va_n _ _ (by omega))).trans e11, f11⟩
            · skip
              refine ⟨_, va_s _ _ _, fun d hd => ?_⟩
              by_cases e : d = d9
              · subst e
                rw [va_s]
                unfold shl
                have q1 : upf s.2.1 24 d 1 24 d = 1 := upf_s _ _ _ _
                have q2 : upg s.2.2 25 d (nI j) 25 d = nI j := upg_s _ _ _ _
                show _ = if upf s.2.1 24 d 1 24 d = 0 then none else if upf s.2.1 24 d 1 24 d = 1 then some (B (200 + tn (upg s.2.2 25 d (nI j) 25 d))) else _
                rw [q1, q2, if_neg (by decide), if_pos rfl, tn_nI (by omega)]
              · rw [va_n _ _ e, f13 d hd]
                have z9 := hS.sh hd
                exact (shl_to (by show (upf s.2.1 24 d9 1) 24 d = _; rw [upf_n _ _ e]) (by show (upg s.2.2 25 d9 (nI j)) 25 d = _; rw [upg_n _ _ e]) (fun _ => rfl) (fun _ => rfl) rfl).symm
            · exact ⟨u14, ((va_n _ _ (by omega))).trans e14, f14⟩
            · exact ⟨u15, ((va_n _ _ (by omega))).trans e15⟩
            · exact ⟨u16, ((va_n _ _ (by omega))).trans e16⟩
            · intro p hp
              obtain ⟨h9, a1, a2⟩ := h20 p hp
              refine ⟨h9, ((va_n _ _ (by omega))).trans a1, fun z d hd => ?_⟩
              rw [a2 z d hd]
              exact congrArg nI (cn_congr (f := s.2.1) (f' := (upf s.2.1 24 d9 1)) (fun k z1 z2 => by rw [upf_o _ _ (by omega)]) (s.1 5) p d).symm
            · intro l hl
              obtain ⟨x, y, a1⟩ := h30 l hl
              exact ⟨x, y, ((va_n _ _ (by omega))).trans a1⟩
            · intro m hm
              have hm9 : m < s.1 5 := hm
              exact ((va_n _ _ (by omega))).trans (h100 m hm)
            · intro j hj
              have hj9 : j < s.1 16 := hj
              obtain ⟨z, a1⟩ := h200 j hj
              exact ⟨z, ((va_n _ _ (by omega))).trans a1⟩
            · intro j hj
              have hj9 : j < s.1 16 := hj
              obtain ⟨x, y, a1⟩ := h220 j hj
              exact ⟨x, y, ((va_n _ _ (by omega))).trans a1⟩
            · intro j hj
              have hj9 : j < s.1 16 := hj
              obtain ⟨x, y, a1⟩ := h240 j hj
              exact ⟨x, y, ((va_n _ _ (by omega))).trans a1⟩
            · intro d hd h3
              have e : d ≠ d9 := fun q => by have h4 : 3 ≤ (upf s.2.1 24 d9 1) 24 d := h3; rw [q, upf_s] at h4; omega
              have h4 : (upf s.2.1 24 d9 1) 24 d = s.2.1 24 d := upf_n _ _ e
              have h5 : 3 ≤ s.2.1 24 d := by rw [← h4]; exact h3
              refine ((va_n _ _ (by omega))).trans ((h300 d hd h5).trans ?_)
              show _ = some (_, Sum.inr (5, [Value.int (nI ((upf s.2.1 24 d9 1) 24 d - 3)), _]))
              rw [h4]
            · intro d hd h3
              have e : d ≠ d9 := fun q => by have h4 : 3 ≤ (upf s.2.1 24 d9 1) 24 d := h3; rw [q, upf_s] at h4; omega
              have h4 : (upf s.2.1 24 d9 1) 24 d = s.2.1 24 d := upf_n _ _ e
              obtain ⟨h9, a1, a2⟩ := h310 d hd (by rw [← h4]; exact h3)
              exact ⟨h9, ((va_n _ _ (by omega))).trans a1, a2⟩
        · have hok : ¬ okKeep s (nI d9) (nI 1) z := fun h => hj9 (h.2.2.1 rfl)
          refine r_iload_n (pq := 1) C dX11_keep_0 rfl rfl ?_
          refine r_callS (pq := 4) C (mc_X11_isShelf) gX11_keep_X11_isShelf rfl (na := 1) (by decide +kernel) rfl (by decide) (by decide) (Nat.le_of_ble_eq_true rfl) ⟨by rw [D.2.2.2.1]; decide, by rw [D.2.2.2.2.1]; decide⟩ dX11_keep_1 rfl rfl (fun r9 w hq => ?_)
          obtain ⟨rfl, rfl⟩ := hq
          dsimp only [Option.toList, List.cons_append, List.nil_append]
          have l1 := b2_lt (rg (nI d9) 8)
          refine rN_if_ne (tg := 9) (pq := 7) C dX11_keep_4 (by decide) rfl (by omega) (fun c4 => ?_) (fun c4 => absurd c4 (b2_1.mpr ((rg_nI (by omega)).mpr hd9)))
          refine r_iload_n (pq := 10) C dX11_keep_9 rfl rfl ?_
          refine rN_if_ne (tg := 17) (pq := 13) C dX11_keep_10 (by decide) rfl (by omega) (fun c10 => ?_) (fun c10 => absurd c10 (by decide))
          refine r_aload_n (pq := 18) C dX11_keep_17 rfl rfl ?_
          refine r_iload_n (pq := 19) C dX11_keep_18 rfl rfl ?_
          refine r_iload_n (pq := 20) C dX11_keep_19 rfl rfl ?_
          refine r_callV (pq := 23) C (mc_X11_wanted_law hS hN) o0 rfl gX11_keep_X11_wanted rfl (na := 2) (by decide +kernel) rfl (by decide) (by decide) (Nat.le_of_ble_eq_true rfl) ⟨by rw [D.2.2.2.1]; decide, by rw [D.2.2.2.2.1]; decide⟩ dX11_keep_20 rfl rfl (fun r9 w hq => ?_)
          obtain ⟨rfl, rfl⟩ := hq
          dsimp only [Option.toList, List.cons_append, List.nil_append]
          try rw [if_neg hj9]
          refine r_astoreN (j := 4) (pq := 25) C dX11_keep_23 rfl (by decide) rfl rfl ?_
          dsimp only [List.set]
          refine r_aloadN (pq := 27) C dX11_keep_25 rfl rfl ?_
          refine r_ifnonnullN (pq := 30) C dX11_keep_27 rfl ?_
          refine r_iload_n (pq := 31) C dX11_keep_30 rfl rfl ?_
          refine rN_if_eq (tg := 36) (pq := 34) C dX11_keep_31 (by decide) rfl (by omega) (fun c31 => absurd c31 (by decide)) (fun c31 => ?_)
          refine r_iconst (v := (-1)) (pq := 35) C dX11_keep_34 (by decide) rfl ?_
          refine r_iret C D rfl ⟨Nat.le_of_ble_eq_true rfl, Nat.le_of_ble_eq_true rfl⟩ dX11_keep_35 ?_
          refine ⟨?_, fun _ _ => rfl, B, rfl, ?_⟩
          · unfold rs_keep
            rw [if_neg hok]
          · unfold nx_keep
            rw [if_neg hok]
            exact hN
      · by_cases hj9 : rg z (s.1 5)
        · have hok : okKeep s (nI d9) (nI 2) z := ⟨hd, hy, fun h => absurd h (by decide), fun h => hj9, fun h => absurd h (by decide)⟩
          obtain ⟨j, hj, rfl⟩ := rg_of hj9 (by omega)
          have hr := h100 j hj
          refine r_iload_n (pq := 1) C dX11_keep_0 rfl rfl ?_
          refine r_callS (pq := 4) C (mc_X11_isShelf) gX11_keep_X11_isShelf rfl (na := 1) (by decide +kernel) rfl (by decide) (by decide) (Nat.le_of_ble_eq_true rfl) ⟨by rw [D.2.2.2.1]; decide, by rw [D.2.2.2.2.1]; decide⟩ dX11_keep_1 rfl rfl (fun r9 w hq => ?_)
          obtain ⟨rfl, rfl⟩ := hq
          dsimp only [Option.toList, List.cons_append, List.nil_append]
          have l1 := b2_lt (rg (nI d9) 8)
          refine rN_if_ne (tg := 9) (pq := 7) C dX11_keep_4 (by decide) rfl (by omega) (fun c4 => ?_) (fun c4 => absurd c4 (b2_1.mpr ((rg_nI (by omega)).mpr hd9)))
          refine r_iload_n (pq := 10) C dX11_keep_9 rfl rfl ?_
          refine rN_if_ne (tg := 17) (pq := 13) C dX11_keep_10 (by decide) rfl (by omega) (fun c10 => ?_) (fun c10 => absurd c10 (by decide))
          refine r_aload_n (pq := 18) C dX11_keep_17 rfl rfl ?_
          refine r_iload_n (pq := 19) C dX11_keep_18 rfl rfl ?_
          refine r_iload_n (pq := 20) C dX11_keep_19 rfl rfl ?_
          refine r_callV (pq := 23) C (mc_X11_wanted_mark hS hN) o0 rfl gX11_keep_X11_wanted rfl (na := 2) (by decide +kernel) rfl (by decide) (by decide) (Nat.le_of_ble_eq_true rfl) ⟨by rw [D.2.2.2.1]; decide, by rw [D.2.2.2.2.1]; decide⟩ dX11_keep_20 rfl rfl (fun r9 w hq => ?_)
          obtain ⟨rfl, rfl⟩ := hq
          dsimp only [Option.toList, List.cons_append, List.nil_append]
          rw [if_pos hj9, tn_nI (by omega)]
          refine r_astore (j := 4) (pq := 25) C dX11_keep_23 rfl (by decide) rfl rfl ?_
          dsimp only [List.set]
          refine r_aload (pq := 27) C dX11_keep_25 rfl rfl ?_
          refine r_ifnonnull (tg := 36) C dX11_keep_27 (by decide) ?_
          refine r_aload_n (pq := 37) C dX11_keep_36 rfl rfl ?_
          refine r_getf (pq := 40) C 12 o0 rfl (by decide) (by decide +kernel) (Or.inl rfl) rfl dX11_keep_37 rfl ?_
          refine r_iload_n (pq := 41) C dX11_keep_40 rfl rfl ?_
          refine r_aload (pq := 43) C dX11_keep_41 rfl rfl ?_
          refine rN_aast (pq := 44) C 6 rfl e13 (any_M C (mkC_M _) (Or.inr rfl) hr) (by omega) (by decide) dX11_keep_43 rfl ?_
          refine r_iconst (v := nI 0) (pq := 45) C dX11_keep_44 (by decide) rfl ?_
          refine r_iret C D rfl ⟨Nat.le_of_ble_eq_true rfl, Nat.le_of_ble_eq_true rfl⟩ dX11_keep_45 ?_
          refine ⟨?_, fun q hq => va_n _ _ (by omega), B, rfl, ?_⟩
          · unfold rs_keep
            rw [if_pos hok]
            rfl
          · unfold nx_keep
            rw [if_pos hok, tn_nI (show d9 < 2147483648 by omega), tn_nI (show 2 < 2147483648 by decide), if_pos (by decide)]
            refine ⟨?_, ?_, ?_, ?_, ?_, ?_, ?_, ?_, ?_, ?_, ?_, ?_, ?_, ?_, ?_, ?_, ?_, ?_, ?_, ?_, ?_⟩
            · exact ((va_n _ _ (by omega))).trans o0
            · exact ⟨u1, ((va_n _ _ (by omega))).trans e1, f1⟩
            · exact ⟨u2, ((va_n _ _ (by omega))).trans e2, f2⟩
            · exact ⟨u3, ((va_n _ _ (by omega))).trans e3, f3⟩
            · exact ⟨u5, ((va_n _ _ (by omega))).trans e5, f5⟩
            · exact ⟨u6, ((va_n _ _ (by omega))).trans e6, f6⟩
            · exact ⟨u8, ((va_n _ _ (by omega))).trans e8, f8⟩
            · exact ⟨u10, ((va_n _ _ (by omega))).trans e10, f10⟩
            · exact ⟨u11, ((va_n _ _ (by omega))).trans e11, f11⟩
            · skip
              refine ⟨_, va_s _ _ _, fun d hd => ?_⟩
              by_cases e : d = d9
              · subst e
                rw [va_s]
                unfold shl
                have q1 : upf s.2.1 24 d 2 24 d = 2 := upf_s _ _ _ _
                have q2 : upg s.2.2 25 d (nI j) 25 d = nI j := upg_s _ _ _ _
                show _ = if upf s.2.1 24 d 2 24 d = 0 then none else if upf s.2.1 24 d 2 24 d = 1 then some (B (200 + tn (upg s.2.2 25 d (nI j) 25 d))) else if upf s.2.1 24 d 2 24 d = 2 then some (B (100 + tn (upg s.2.2 25 d (nI j) 25 d))) else _
                rw [q1, q2, if_neg (by decide), if_neg (by decide), if_pos rfl, tn_nI (by omega)]
              · rw [va_n _ _ e, f13 d hd]
                have z9 := hS.sh hd
                exact (shl_to (by show (upf s.2.1 24 d9 2) 24 d = _; rw [upf_n _ _ e]) (by show (upg s.2.2 25 d9 (nI j)) 25 d = _; rw [upg_n _ _ e]) (fun _ => rfl) (fun _ => rfl) rfl).symm
            · exact ⟨u14, ((va_n _ _ (by omega))).trans e14, f14⟩
            · exact ⟨u15, ((va_n _ _ (by omega))).trans e15⟩
            · exact ⟨u16, ((va_n _ _ (by omega))).trans e16⟩
            · intro p hp
              obtain ⟨h9, a1, a2⟩ := h20 p hp
              refine ⟨h9, ((va_n _ _ (by omega))).trans a1, fun z d hd => ?_⟩
              rw [a2 z d hd]
              exact congrArg nI (cn_congr (f := s.2.1) (f' := (upf s.2.1 24 d9 2)) (fun k z1 z2 => by rw [upf_o _ _ (by omega)]) (s.1 5) p d).symm
            · intro l hl
              obtain ⟨x, y, a1⟩ := h30 l hl
              exact ⟨x, y, ((va_n _ _ (by omega))).trans a1⟩
            · intro m hm
              have hm9 : m < s.1 5 := hm
              exact ((va_n _ _ (by omega))).trans (h100 m hm)
            · intro j hj
              have hj9 : j < s.1 16 := hj
              obtain ⟨z, a1⟩ := h200 j hj
              exact ⟨z, ((va_n _ _ (by omega))).trans a1⟩
            · intro j hj
              have hj9 : j < s.1 16 := hj
              obtain ⟨x, y, a1⟩ := h220 j hj
              exact ⟨x, y, ((va_n _ _ (by omega))).trans a1⟩
            · intro j hj
              have hj9 : j < s.1 16 := hj
              obtain ⟨x, y, a1⟩ := h240 j hj
              exact ⟨x, y, ((va_n _ _ (by omega))).trans a1⟩
            · intro d hd h3
              have e : d ≠ d9 := fun q => by have h4 : 3 ≤ (upf s.2.1 24 d9 2) 24 d := h3; rw [q, upf_s] at h4; omega
              have h4 : (upf s.2.1 24 d9 2) 24 d = s.2.1 24 d := upf_n _ _ e
              have h5 : 3 ≤ s.2.1 24 d := by rw [← h4]; exact h3
              refine ((va_n _ _ (by omega))).trans ((h300 d hd h5).trans ?_)
              show _ = some (_, Sum.inr (5, [Value.int (nI ((upf s.2.1 24 d9 2) 24 d - 3)), _]))
              rw [h4]
            · intro d hd h3
              have e : d ≠ d9 := fun q => by have h4 : 3 ≤ (upf s.2.1 24 d9 2) 24 d := h3; rw [q, upf_s] at h4; omega
              have h4 : (upf s.2.1 24 d9 2) 24 d = s.2.1 24 d := upf_n _ _ e
              obtain ⟨h9, a1, a2⟩ := h310 d hd (by rw [← h4]; exact h3)
              exact ⟨h9, ((va_n _ _ (by omega))).trans a1, a2⟩
        · have hok : ¬ okKeep s (nI d9) (nI 2) z := fun h => hj9 (h.2.2.2.1 rfl)
          refine r_iload_n (pq := 1) C dX11_keep_0 rfl rfl ?_
          refine r_callS (pq := 4) C (mc_X11_isShelf) gX11_keep_X11_isShelf rfl (na := 1) (by decide +kernel) rfl (by decide) (by decide) (Nat.le_of_ble_eq_true rfl) ⟨by rw [D.2.2.2.1]; decide, by rw [D.2.2.2.2.1]; decide⟩ dX11_keep_1 rfl rfl (fun r9 w hq => ?_)
          obtain ⟨rfl, rfl⟩ := hq
          dsimp only [Option.toList, List.cons_append, List.nil_append]
          have l1 := b2_lt (rg (nI d9) 8)
          refine rN_if_ne (tg := 9) (pq := 7) C dX11_keep_4 (by decide) rfl (by omega) (fun c4 => ?_) (fun c4 => absurd c4 (b2_1.mpr ((rg_nI (by omega)).mpr hd9)))
          refine r_iload_n (pq := 10) C dX11_keep_9 rfl rfl ?_
          refine rN_if_ne (tg := 17) (pq := 13) C dX11_keep_10 (by decide) rfl (by omega) (fun c10 => ?_) (fun c10 => absurd c10 (by decide))
          refine r_aload_n (pq := 18) C dX11_keep_17 rfl rfl ?_
          refine r_iload_n (pq := 19) C dX11_keep_18 rfl rfl ?_
          refine r_iload_n (pq := 20) C dX11_keep_19 rfl rfl ?_
          refine r_callV (pq := 23) C (mc_X11_wanted_mark hS hN) o0 rfl gX11_keep_X11_wanted rfl (na := 2) (by decide +kernel) rfl (by decide) (by decide) (Nat.le_of_ble_eq_true rfl) ⟨by rw [D.2.2.2.1]; decide, by rw [D.2.2.2.2.1]; decide⟩ dX11_keep_20 rfl rfl (fun r9 w hq => ?_)
          obtain ⟨rfl, rfl⟩ := hq
          dsimp only [Option.toList, List.cons_append, List.nil_append]
          try rw [if_neg hj9]
          refine r_astoreN (j := 4) (pq := 25) C dX11_keep_23 rfl (by decide) rfl rfl ?_
          dsimp only [List.set]
          refine r_aloadN (pq := 27) C dX11_keep_25 rfl rfl ?_
          refine r_ifnonnullN (pq := 30) C dX11_keep_27 rfl ?_
          refine r_iload_n (pq := 31) C dX11_keep_30 rfl rfl ?_
          refine rN_if_eq (tg := 36) (pq := 34) C dX11_keep_31 (by decide) rfl (by omega) (fun c31 => absurd c31 (by decide)) (fun c31 => ?_)
          refine r_iconst (v := (-1)) (pq := 35) C dX11_keep_34 (by decide) rfl ?_
          refine r_iret C D rfl ⟨Nat.le_of_ble_eq_true rfl, Nat.le_of_ble_eq_true rfl⟩ dX11_keep_35 ?_
          refine ⟨?_, fun _ _ => rfl, B, rfl, ?_⟩
          · unfold rs_keep
            rw [if_neg hok]
          · unfold nx_keep
            rw [if_neg hok]
            exact hN
      · by_cases hj9 : rg z (s.1 1)
        · have hok : okKeep s (nI d9) (nI 3) z := ⟨hd, hy, fun h => absurd h (by decide), fun h => absurd h (by decide), fun _ => hj9⟩
          obtain ⟨j, hj, rfl⟩ := rg_of hj9 (by omega)
          refine r_iload_n (pq := 1) C dX11_keep_0 rfl rfl ?_
          refine r_callS (pq := 4) C (mc_X11_isShelf) gX11_keep_X11_isShelf rfl (na := 1) (by decide +kernel) rfl (by decide) (by decide) (Nat.le_of_ble_eq_true rfl) ⟨by rw [D.2.2.2.1]; decide, by rw [D.2.2.2.2.1]; decide⟩ dX11_keep_1 rfl rfl (fun r9 w hq => ?_)
          obtain ⟨rfl, rfl⟩ := hq
          dsimp only [Option.toList, List.cons_append, List.nil_append]
          have l1 := b2_lt (rg (nI d9) 8)
          refine rN_if_ne (tg := 9) (pq := 7) C dX11_keep_4 (by decide) rfl (by omega) (fun c4 => ?_) (fun c4 => absurd c4 (b2_1.mpr ((rg_nI (by omega)).mpr hd9)))
          refine r_iload_n (pq := 10) C dX11_keep_9 rfl rfl ?_
          refine rN_if_ne (tg := 17) (pq := 13) C dX11_keep_10 (by decide) rfl (by omega) (fun c10 => ?_) (fun c10 => absurd c10 (by decide))
          refine r_aload_n (pq := 18) C dX11_keep_17 rfl rfl ?_
          refine r_iload_n (pq := 19) C dX11_keep_18 rfl rfl ?_
          refine r_iload_n (pq := 20) C dX11_keep_19 rfl rfl ?_
          refine r_callV (pq := 23) C (mc_X11_wanted_cans (r := 300 + d9) (rc := 310 + d9) hS hN hj (by omega) (by omega) (by omega)) o0 rfl gX11_keep_X11_wanted rfl (na := 2) (by decide +kernel) rfl (by decide) (by decide) (Nat.le_of_ble_eq_true rfl) ⟨by rw [D.2.2.2.1]; decide, by rw [D.2.2.2.2.1]; decide⟩ dX11_keep_20 rfl rfl (fun r9 w9 hq => ?_)
          obtain ⟨a, q, h, rfl, k1, k2, kh, k3⟩ := hq
          dsimp only [Option.toList, List.cons_append, List.nil_append]
          refine r_astore (j := 4) (pq := 25) C dX11_keep_23 rfl (by decide) rfl rfl ?_
          dsimp only [List.set]
          refine r_aload (pq := 27) C dX11_keep_25 rfl rfl ?_
          refine r_ifnonnull (tg := 36) C dX11_keep_27 (by decide) ?_
          refine r_aload_n (pq := 37) C dX11_keep_36 rfl rfl ?_
          refine r_getf (pq := 40) C 12 ((k3 0 (by omega) (by omega)).trans o0) rfl (by decide) (by decide +kernel) (Or.inl rfl) rfl dX11_keep_37 rfl ?_
          refine r_iload_n (pq := 41) C dX11_keep_40 rfl rfl ?_
          refine r_aload (pq := 43) C dX11_keep_41 rfl rfl ?_
          refine rN_aast (pq := 44) C 6 rfl ((k3 13 (by omega) (by omega)).trans e13) (any_of C k1 rfl (Or.inr (by decide +kernel))) (by omega) (by decide) dX11_keep_43 rfl ?_
          refine r_iconst (v := nI 0) (pq := 45) C dX11_keep_44 (by decide) rfl ?_
          refine r_iret C D rfl ⟨Nat.le_of_ble_eq_true rfl, Nat.le_of_ble_eq_true rfl⟩ dX11_keep_45 ?_
          have hBj : ∀ r, r ≠ 300 + d9 → r ≠ 310 + d9 → (va_up (va_up B (300 + d9) a) (310 + d9) q) r = B r := fun r z1 z2 => by rw [va_n _ _ z2, va_n _ _ z1]
          have bR : (va_up (va_up B (300 + d9) a) (310 + d9) q) (300 + d9) = a := by rw [va_n _ _ (by omega), va_s]
          have bC : (va_up (va_up B (300 + d9) a) (310 + d9) q) (310 + d9) = q := va_s _ _ _
          refine ⟨?_, fun z1 hz1 => (va_n _ _ (by omega)).trans (k3 z1 (by omega) (by omega)), (va_up (va_up B (300 + d9) a) (310 + d9) q), hBj 0 (by omega) (by omega), ?_⟩
          · unfold rs_keep
            rw [if_pos hok]
            rfl
          · unfold nx_keep
            rw [if_pos hok, tn_nI (show d9 < 2147483648 by omega), tn_nI (show 3 < 2147483648 by decide), tn_nI (show j < 2147483648 by omega), if_neg (by decide), if_pos rfl]
            refine ⟨?_, ?_, ?_, ?_, ?_, ?_, ?_, ?_, ?_, ?_, ?_, ?_, ?_, ?_, ?_, ?_, ?_, ?_, ?_, ?_, ?_⟩
            · rw [hBj 0 (by omega) (by omega)]
              refine (((va_n _ _ (by omega)).trans (k3 0 (by omega) (by omega))).trans o0).trans ?_
              unfold nFs
              rw [hBj 1 (by omega) (by omega), hBj 2 (by omega) (by omega), hBj 3 (by omega) (by omega), hBj 5 (by omega) (by omega), hBj 6 (by omega) (by omega), hBj 8 (by omega) (by omega), hBj 10 (by omega) (by omega), hBj 11 (by omega) (by omega), hBj 13 (by omega) (by omega), hBj 14 (by omega) (by omega), hBj 15 (by omega) (by omega), hBj 16 (by omega) (by omega)]
              rfl
            · rw [hBj 1 (by omega) (by omega)]
              exact ⟨u1, ((va_n _ _ (by omega)).trans (k3 1 (by omega) (by omega))).trans e1, f1⟩
            · rw [hBj 2 (by omega) (by omega)]
              exact ⟨u2, ((va_n _ _ (by omega)).trans (k3 2 (by omega) (by omega))).trans e2, f2⟩
            · rw [hBj 3 (by omega) (by omega)]
              exact ⟨u3, ((va_n _ _ (by omega)).trans (k3 3 (by omega) (by omega))).trans e3, f3⟩
            · rw [hBj 5 (by omega) (by omega)]
              refine ⟨u5, ((va_n _ _ (by omega)).trans (k3 5 (by omega) (by omega))).trans e5, fun x hx => ?_⟩
              rw [hBj (20 + x) (by omega) (by omega)]
              exact f5 x hx
            · rw [hBj 6 (by omega) (by omega)]
              refine ⟨u6, ((va_n _ _ (by omega)).trans (k3 6 (by omega) (by omega))).trans e6, fun x hx => ?_⟩
              have hx9 : x < s.1 5 := hx
              rw [hBj (100 + x) (by omega) (by omega)]
              exact f6 x hx
            · rw [hBj 8 (by omega) (by omega)]
              refine ⟨u8, ((va_n _ _ (by omega)).trans (k3 8 (by omega) (by omega))).trans e8, fun x hx => ?_⟩
              have hx9 : x < s.1 16 := hx
              rw [hBj (200 + x) (by omega) (by omega)]
              exact f8 x hx
            · rw [hBj 10 (by omega) (by omega)]
              exact ⟨u10, ((va_n _ _ (by omega)).trans (k3 10 (by omega) (by omega))).trans e10, f10⟩
            · rw [hBj 11 (by omega) (by omega)]
              exact ⟨u11, ((va_n _ _ (by omega)).trans (k3 11 (by omega) (by omega))).trans e11, f11⟩
            · rw [hBj 13 (by omega) (by omega)]
              refine ⟨_, (va_s _ _ _), fun d hd => ?_⟩
              by_cases e : d = d9
              · subst e
                rw [va_s]
                unfold shl
                have q1 : (upf (upf s.2.1 24 d 3) 26 d 400) 24 d = 3 := by rw [upf_o _ _ (by decide), upf_s]
                show some a = if (upf (upf s.2.1 24 d 3) 26 d 400) 24 d = 0 then none else if (upf (upf s.2.1 24 d 3) 26 d 400) 24 d = 1 then _ else if (upf (upf s.2.1 24 d 3) 26 d 400) 24 d = 2 then _ else some ((va_up (va_up B (300 + d) a) (310 + d) q) (300 + d))
                rw [q1, if_neg (by decide), if_neg (by decide), if_neg (by decide), va_n _ _ (by omega), va_s]
              · rw [va_n _ _ e, f13 d hd]
                have z9 := hS.sh hd
                exact (shl_to (by show (upf (upf s.2.1 24 d9 3) 26 d9 400) 24 d = _; rw [upf_o _ _ (by decide), upf_n _ _ e]) (by show (rowg s.2.2 d9 400 (fun i => byt (cr s j i))) 25 d = _; unfold rowg; rw [va_n _ _ (by decide)]) (fun h => hBj _ (by have := z9.2.1 h; omega) (by have := z9.2.1 h; omega)) (fun h => hBj _ (by have := z9.2.2.1 h; omega) (by have := z9.2.2.1 h; omega)) (hBj _ (by omega) (by omega))).symm
            · rw [hBj 14 (by omega) (by omega)]
              refine ⟨u14, ((va_n _ _ (by omega)).trans (k3 14 (by omega) (by omega))).trans e14, fun x hx => ?_⟩
              rw [hBj (30 + x) (by omega) (by omega)]
              exact f14 x hx
            · rw [hBj 15 (by omega) (by omega)]
              exact ⟨u15, ((va_n _ _ (by omega)).trans (k3 15 (by omega) (by omega))).trans e15⟩
            · rw [hBj 16 (by omega) (by omega)]
              exact ⟨u16, ((va_n _ _ (by omega)).trans (k3 16 (by omega) (by omega))).trans e16⟩
            · intro p hp
              obtain ⟨h9, a1, a2⟩ := h20 p hp
              rw [hBj _ (by omega) (by omega)]
              refine ⟨h9, ((va_n _ _ (by omega)).trans (k3 _ (by omega) (by omega))).trans a1, fun z d hd => ?_⟩
              rw [a2 z d hd]
              exact congrArg nI (cn_congr (f := s.2.1) (f' := (upf (upf s.2.1 24 d9 3) 26 d9 400)) (fun k z1 z2 => by rw [upf_o _ _ (by omega), upf_o _ _ (by omega)]) (s.1 5) p d).symm
            · intro l hl
              obtain ⟨x, y, a1⟩ := h30 l hl
              rw [hBj (30 + l) (by omega) (by omega)]
              exact ⟨x, y, ((va_n _ _ (by omega)).trans (k3 (30 + l) (by omega) (by omega))).trans a1⟩
            · intro m hm
              have hm9 : m < s.1 5 := hm
              rw [hBj (100 + m) (by omega) (by omega)]
              exact ((va_n _ _ (by omega)).trans (k3 (100 + m) (by omega) (by omega))).trans (h100 m hm)
            · intro j hj
              have hj9 : j < s.1 16 := hj
              obtain ⟨z, a1⟩ := h200 j hj
              rw [hBj (200 + j) (by omega) (by omega), hBj (220 + j) (by omega) (by omega), hBj (240 + j) (by omega) (by omega)]
              exact ⟨z, ((va_n _ _ (by omega)).trans (k3 (200 + j) (by omega) (by omega))).trans a1⟩
            · intro j hj
              have hj9 : j < s.1 16 := hj
              obtain ⟨x, y, a1⟩ := h220 j hj
              rw [hBj (220 + j) (by omega) (by omega)]
              exact ⟨x, y, ((va_n _ _ (by omega)).trans (k3 (220 + j) (by omega) (by omega))).trans a1⟩
            · intro j hj
              have hj9 : j < s.1 16 := hj
              obtain ⟨x, y, a1⟩ := h240 j hj
              rw [hBj (240 + j) (by omega) (by omega)]
              exact ⟨x, y, ((va_n _ _ (by omega)).trans (k3 (240 + j) (by omega) (by omega))).trans a1⟩
            · intro d hd h3
              by_cases e : d = d9
              · subst e
                have q1 : (upf (upf s.2.1 24 d 3) 26 d 400) 24 d = 3 := by rw [upf_o _ _ (by decide), upf_s]
                show _ = some (_, Sum.inr (5, [Value.int (nI ((upf (upf s.2.1 24 d 3) 26 d 400) 24 d - 3)), _]))
                rw [q1, bR, bC]
                exact (va_n _ _ (by omega)).trans k1
              · have h4 : (upf (upf s.2.1 24 d9 3) 26 d9 400) 24 d = s.2.1 24 d := by rw [upf_o _ _ (by decide), upf_n _ _ e]
                have h5 : 3 ≤ s.2.1 24 d := by rw [← h4]; exact h3
                show _ = some (_, Sum.inr (5, [Value.int (nI ((upf (upf s.2.1 24 d9 3) 26 d9 400) 24 d - 3)), _]))
                rw [h4, hBj _ (by omega) (by omega), hBj _ (by omega) (by omega)]
                exact ((va_n _ _ (by omega)).trans (k3 _ (by omega) (by omega))).trans (h300 d hd h5)
            · intro d hd h3
              by_cases e : d = d9
              · subst e
                have q1 : (upf (upf s.2.1 24 d 3) 26 d 400) 26 d = 400 := upf_s _ _ _ _
                rw [bC]
                show ∃ h : Nat → Int32, _ = sA (xE X) _ ((upf (upf s.2.1 24 d 3) 26 d 400) 26 d) h ∧ ∀ i, i < (upf (upf s.2.1 24 d 3) 26 d 400) 26 d → h i = (rowg s.2.2 d 400 (fun i => byt (cr s j i))) 27 (400 * d + i) ∧ fits .short (.int (h i)) = true
                rw [q1]
                refine ⟨h, (va_n _ _ (by omega)).trans k2, fun i hi => ?_⟩
                unfold rowg
                rw [va_s, if_pos (by omega), show 400 * d + i - 400 * d = i by omega]
                exact ⟨kh i hi, by rw [kh i hi]; exact fit_byt _ (by have := cn_le s.2.1 (s.1 5) j i; unfold cr; omega)⟩
              · have h4 : (upf (upf s.2.1 24 d9 3) 26 d9 400) 24 d = s.2.1 24 d := by rw [upf_o _ _ (by decide), upf_n _ _ e]
                have h6 : (upf (upf s.2.1 24 d9 3) 26 d9 400) 26 d = s.2.1 26 d := by rw [upf_n _ _ e, upf_o _ _ (by decide)]
                obtain ⟨h8, a1, a2⟩ := h310 d hd (by rw [← h4]; exact h3)
                have z9 := hS.sh hd
                rw [hBj _ (by omega) (by omega)]
                show ∃ h : Nat → Int32, _ = sA (xE X) _ ((upf (upf s.2.1 24 d9 3) 26 d9 400) 26 d) h ∧ ∀ i, i < (upf (upf s.2.1 24 d9 3) 26 d9 400) 26 d → h i = (rowg s.2.2 d9 400 (fun i => byt (cr s j i))) 27 (400 * d + i) ∧ fits .short (.int (h i)) = true
                rw [h6]
                refine ⟨h8, ((va_n _ _ (by omega)).trans (k3 _ (by omega) (by omega))).trans a1, fun i hi => ?_⟩
                unfold rowg
                rw [va_s, if_neg (by omega)]
                exact a2 i hi
        · have hok : ¬ okKeep s (nI d9) (nI 3) z := fun h => hj9 (h.2.2.2.2 (Or.inl rfl))
          refine r_iload_n (pq := 1) C dX11_keep_0 rfl rfl ?_
          refine r_callS (pq := 4) C (mc_X11_isShelf) gX11_keep_X11_isShelf rfl (na := 1) (by decide +kernel) rfl (by decide) (by decide) (Nat.le_of_ble_eq_true rfl) ⟨by rw [D.2.2.2.1]; decide, by rw [D.2.2.2.2.1]; decide⟩ dX11_keep_1 rfl rfl (fun r9 w hq => ?_)
          obtain ⟨rfl, rfl⟩ := hq
          dsimp only [Option.toList, List.cons_append, List.nil_append]
          have l1 := b2_lt (rg (nI d9) 8)
          refine rN_if_ne (tg := 9) (pq := 7) C dX11_keep_4 (by decide) rfl (by omega) (fun c4 => ?_) (fun c4 => absurd c4 (b2_1.mpr ((rg_nI (by omega)).mpr hd9)))
          refine r_iload_n (pq := 10) C dX11_keep_9 rfl rfl ?_
          refine rN_if_ne (tg := 17) (pq := 13) C dX11_keep_10 (by decide) rfl (by omega) (fun c10 => ?_) (fun c10 => absurd c10 (by decide))
          refine r_aload_n (pq := 18) C dX11_keep_17 rfl rfl ?_
          refine r_iload_n (pq := 19) C dX11_keep_18 rfl rfl ?_
          refine r_iload_n (pq := 20) C dX11_keep_19 rfl rfl ?_
          refine r_callV (pq := 23) C (mc_X11_wanted_no3 hS hN hj9) o0 rfl gX11_keep_X11_wanted rfl (na := 2) (by decide +kernel) rfl (by decide) (by decide) (Nat.le_of_ble_eq_true rfl) ⟨by rw [D.2.2.2.1]; decide, by rw [D.2.2.2.2.1]; decide⟩ dX11_keep_20 rfl rfl (fun r9 w hq => ?_)
          obtain ⟨rfl, rfl⟩ := hq
          dsimp only [Option.toList, List.cons_append, List.nil_append]
          try rw [if_neg hj9]
          refine r_astoreN (j := 4) (pq := 25) C dX11_keep_23 rfl (by decide) rfl rfl ?_
          dsimp only [List.set]
          refine r_aloadN (pq := 27) C dX11_keep_25 rfl rfl ?_
          refine r_ifnonnullN (pq := 30) C dX11_keep_27 rfl ?_
          refine r_iload_n (pq := 31) C dX11_keep_30 rfl rfl ?_
          refine rN_if_eq (tg := 36) (pq := 34) C dX11_keep_31 (by decide) rfl (by omega) (fun c31 => absurd c31 (by decide)) (fun c31 => ?_)
          refine r_iconst (v := (-1)) (pq := 35) C dX11_keep_34 (by decide) rfl ?_
          refine r_iret C D rfl ⟨Nat.le_of_ble_eq_true rfl, Nat.le_of_ble_eq_true rfl⟩ dX11_keep_35 ?_
          refine ⟨?_, fun _ _ => rfl, B, rfl, ?_⟩
          · unfold rs_keep
            rw [if_neg hok]
          · unfold nx_keep
            rw [if_neg hok]
            exact hN
      · by_cases hj9 : rg z (s.1 1)
        · have hok : okKeep s (nI d9) (nI 4) z := ⟨hd, hy, fun h => absurd h (by decide), fun h => absurd h (by decide), fun _ => hj9⟩
          obtain ⟨j, hj, rfl⟩ := rg_of hj9 (by omega)
          refine r_iload_n (pq := 1) C dX11_keep_0 rfl rfl ?_
          refine r_callS (pq := 4) C (mc_X11_isShelf) gX11_keep_X11_isShelf rfl (na := 1) (by decide +kernel) rfl (by decide) (by decide) (Nat.le_of_ble_eq_true rfl) ⟨by rw [D.2.2.2.1]; decide, by rw [D.2.2.2.2.1]; decide⟩ dX11_keep_1 rfl rfl (fun r9 w hq => ?_)
          obtain ⟨rfl, rfl⟩ := hq
          dsimp only [Option.toList, List.cons_append, List.nil_append]
          have l1 := b2_lt (rg (nI d9) 8)
          refine rN_if_ne (tg := 9) (pq := 7) C dX11_keep_4 (by decide) rfl (by omega) (fun c4 => ?_) (fun c4 => absurd c4 (b2_1.mpr ((rg_nI (by omega)).mpr hd9)))
          refine r_iload_n (pq := 10) C dX11_keep_9 rfl rfl ?_
          refine rN_if_ne (tg := 17) (pq := 13) C dX11_keep_10 (by decide) rfl (by omega) (fun c10 => ?_) (fun c10 => absurd c10 (by decide))
          refine r_aload_n (pq := 18) C dX11_keep_17 rfl rfl ?_
          refine r_iload_n (pq := 19) C dX11_keep_18 rfl rfl ?_
          refine r_iload_n (pq := 20) C dX11_keep_19 rfl rfl ?_
          refine r_callV (pq := 23) C (mc_X11_wanted_most (r := 300 + d9) (rc := 310 + d9) hS hN hj (by omega) (by omega) (by omega)) o0 rfl gX11_keep_X11_wanted rfl (na := 2) (by decide +kernel) rfl (by decide) (by decide) (Nat.le_of_ble_eq_true rfl) ⟨by rw [D.2.2.2.1]; decide, by rw [D.2.2.2.2.1]; decide⟩ dX11_keep_20 rfl rfl (fun r9 w9 hq => ?_)
          obtain ⟨a, q, h, rfl, k1, k2, kh, k3, k4⟩ := hq
          dsimp only [Option.toList, List.cons_append, List.nil_append]
          refine r_astore (j := 4) (pq := 25) C dX11_keep_23 rfl (by decide) rfl rfl ?_
          dsimp only [List.set]
          refine r_aload (pq := 27) C dX11_keep_25 rfl rfl ?_
          refine r_ifnonnull (tg := 36) C dX11_keep_27 (by decide) ?_
          refine r_aload_n (pq := 37) C dX11_keep_36 rfl rfl ?_
          refine r_getf (pq := 40) C 12 ((k3 0 (by omega) (by omega) (by omega)).trans o0) rfl (by decide) (by decide +kernel) (Or.inl rfl) rfl dX11_keep_37 rfl ?_
          refine r_iload_n (pq := 41) C dX11_keep_40 rfl rfl ?_
          refine r_aload (pq := 43) C dX11_keep_41 rfl rfl ?_
          refine rN_aast (pq := 44) C 6 rfl ((k3 13 (by omega) (by omega) (by omega)).trans e13) (any_of C k1 rfl (Or.inr (by decide +kernel))) (by omega) (by decide) dX11_keep_43 rfl ?_
          refine r_iconst (v := nI 0) (pq := 45) C dX11_keep_44 (by decide) rfl ?_
          refine r_iret C D rfl ⟨Nat.le_of_ble_eq_true rfl, Nat.le_of_ble_eq_true rfl⟩ dX11_keep_45 ?_
          have hBj : ∀ r, r ≠ 300 + d9 → r ≠ 310 + d9 → (va_up (va_up B (300 + d9) a) (310 + d9) q) r = B r := fun r z1 z2 => by rw [va_n _ _ z2, va_n _ _ z1]
          have bR : (va_up (va_up B (300 + d9) a) (310 + d9) q) (300 + d9) = a := by rw [va_n _ _ (by omega), va_s]
          have bC : (va_up (va_up B (300 + d9) a) (310 + d9) q) (310 + d9) = q := va_s _ _ _
          refine ⟨?_, fun z1 hz1 => (va_n _ _ (by omega)).trans (k3 z1 (by omega) (by omega) (by omega)), (va_up (va_up B (300 + d9) a) (310 + d9) q), hBj 0 (by omega) (by omega), ?_⟩
          · unfold rs_keep
            rw [if_pos hok]
            rfl
          · unfold nx_keep
            rw [if_pos hok, tn_nI (show d9 < 2147483648 by omega), tn_nI (show 4 < 2147483648 by decide), tn_nI (show j < 2147483648 by omega), if_neg (by decide), if_neg (by decide)]
            refine ⟨?_, ?_, ?_, ?_, ?_, ?_, ?_, ?_, ?_, ?_, ?_, ?_, ?_, ?_, ?_, ?_, ?_, ?_, ?_, ?_, ?_⟩
            · rw [hBj 0 (by omega) (by omega)]
              refine (((va_n _ _ (by omega)).trans (k3 0 (by omega) (by omega) (by omega))).trans o0).trans ?_
              unfold nFs
              rw [hBj 1 (by omega) (by omega), hBj 2 (by omega) (by omega), hBj 3 (by omega) (by omega), hBj 5 (by omega) (by omega), hBj 6 (by omega) (by omega), hBj 8 (by omega) (by omega), hBj 10 (by omega) (by omega), hBj 11 (by omega) (by omega), hBj 13 (by omega) (by omega), hBj 14 (by omega) (by omega), hBj 15 (by omega) (by omega), hBj 16 (by omega) (by omega)]
              rfl
            · rw [hBj 1 (by omega) (by omega)]
              exact ⟨u1, ((va_n _ _ (by omega)).trans (k3 1 (by omega) (by omega) (by omega))).trans e1, f1⟩
            · rw [hBj 2 (by omega) (by omega)]
              exact ⟨u2, ((va_n _ _ (by omega)).trans (k3 2 (by omega) (by omega) (by omega))).trans e2, f2⟩
            · rw [hBj 3 (by omega) (by omega)]
              exact ⟨u3, ((va_n _ _ (by omega)).trans (k3 3 (by omega) (by omega) (by omega))).trans e3, f3⟩
            · rw [hBj 5 (by omega) (by omega)]
              refine ⟨u5, ((va_n _ _ (by omega)).trans (k3 5 (by omega) (by omega) (by omega))).trans e5, fun x hx => ?_⟩
              rw [hBj (20 + x) (by omega) (by omega)]
              exact f5 x hx
            · rw [hBj 6 (by omega) (by omega)]
              refine ⟨u6, ((va_n _ _ (by omega)).trans (k3 6 (by omega) (by omega) (by omega))).trans e6, fun x hx => ?_⟩
              have hx9 : x < s.1 5 := hx
              rw [hBj (100 + x) (by omega) (by omega)]
              exact f6 x hx
            · rw [hBj 8 (by omega) (by omega)]
              refine ⟨u8, ((va_n _ _ (by omega)).trans (k3 8 (by omega) (by omega) (by omega))).trans e8, fun x hx => ?_⟩
              have hx9 : x < s.1 16 := hx
              rw [hBj (200 + x) (by omega) (by omega)]
              exact f8 x hx
            · rw [hBj 10 (by omega) (by omega)]
              exact ⟨u10, ((va_n _ _ (by omega)).trans (k3 10 (by omega) (by omega) (by omega))).trans e10, f10⟩
            · rw [hBj 11 (by omega) (by omega)]
              exact ⟨u11, ((va_n _ _ (by omega)).trans (k3 11 (by omega) (by omega) (by omega))).trans e11, f11⟩
            · rw [hBj 13 (by omega) (by omega)]
              refine ⟨_, (va_s _ _ _), fun d hd => ?_⟩
              by_cases e : d = d9
              · subst e
                rw [va_s]
                unfold shl
                have q1 : (upf (upf s.2.1 24 d 4) 26 d 8) 24 d = 4 := by rw [upf_o _ _ (by decide), upf_s]
                show some a = if (upf (upf s.2.1 24 d 4) 26 d 8) 24 d = 0 then none else if (upf (upf s.2.1 24 d 4) 26 d 8) 24 d = 1 then _ else if (upf (upf s.2.1 24 d 4) 26 d 8) 24 d = 2 then _ else some ((va_up (va_up B (300 + d) a) (310 + d) q) (300 + d))
                rw [q1, if_neg (by decide), if_neg (by decide), if_neg (by decide), va_n _ _ (by omega), va_s]
              · rw [va_n _ _ e, f13 d hd]
                have z9 := hS.sh hd
                exact (shl_to (by show (upf (upf s.2.1 24 d9 4) 26 d9 8) 24 d = _; rw [upf_o _ _ (by decide), upf_n _ _ e]) (by show (rowg s.2.2 d9 8 (fun i => nI (ps (mq i (cr s j)) 400))) 25 d = _; unfold rowg; rw [va_n _ _ (by decide)]) (fun h => hBj _ (by have := z9.2.1 h; omega) (by have := z9.2.1 h; omega)) (fun h => hBj _ (by have := z9.2.2.1 h; omega) (by have := z9.2.2.1 h; omega)) (hBj _ (by omega) (by omega))).symm
            · rw [hBj 14 (by omega) (by omega)]
              refine ⟨u14, ((va_n _ _ (by omega)).trans (k3 14 (by omega) (by omega) (by omega))).trans e14, fun x hx => ?_⟩
              rw [hBj (30 + x) (by omega) (by omega)]
              exact f14 x hx
            · rw [hBj 15 (by omega) (by omega)]
              exact ⟨u15, ((va_n _ _ (by omega)).trans (k3 15 (by omega) (by omega) (by omega))).trans e15⟩
            · rw [hBj 16 (by omega) (by omega)]
              exact ⟨u16, ((va_n _ _ (by omega)).trans (k3 16 (by omega) (by omega) (by omega))).trans e16⟩
            · intro p hp
              obtain ⟨h9, a1, a2⟩ := h20 p hp
              rw [hBj _ (by omega) (by omega)]
              refine ⟨h9, ((va_n _ _ (by omega)).trans (k3 _ (by omega) (by omega) (by omega))).trans a1, fun z d hd => ?_⟩
              rw [a2 z d hd]
              exact congrArg nI (cn_congr (f := s.2.1) (f' := (upf (upf s.2.1 24 d9 4) 26 d9 8)) (fun k z1 z2 => by rw [upf_o _ _ (by omega), upf_o _ _ (by omega)]) (s.1 5) p d).symm
            · intro l hl
              obtain ⟨x, y, a1⟩ := k4 l hl
              rw [hBj _ (by omega) (by omega)]
              exact ⟨x, y, (va_n _ _ (by omega)).trans a1⟩
            · intro m hm
              have hm9 : m < s.1 5 := hm
              rw [hBj (100 + m) (by omega) (by omega)]
              exact ((va_n _ _ (by omega)).trans (k3 (100 + m) (by omega) (by omega) (by omega))).trans (h100 m hm)
            · intro j hj
              have hj9 : j < s.1 16 := hj
              obtain ⟨z, a1⟩ := h200 j hj
              rw [hBj (200 + j) (by omega) (by omega), hBj (220 + j) (by omega) (by omega), hBj (240 + j) (by omega) (by omega)]
              exact ⟨z, ((va_n _ _ (by omega)).trans (k3 (200 + j) (by omega) (by omega) (by omega))).trans a1⟩
            · intro j hj
              have hj9 : j < s.1 16 := hj
              obtain ⟨x, y, a1⟩ := h220 j hj
              rw [hBj (220 + j) (by omega) (by omega)]
              exact ⟨x, y, ((va_n _ _ (by omega)).trans (k3 (220 + j) (by omega) (by omega) (by omega))).trans a1⟩
            · intro j hj
              have hj9 : j < s.1 16 := hj
              obtain ⟨x, y, a1⟩ := h240 j hj
              rw [hBj (240 + j) (by omega) (by omega)]
              exact ⟨x, y, ((va_n _ _ (by omega)).trans (k3 (240 + j) (by omega) (by omega) (by omega))).trans a1⟩
            · intro d hd h3
              by_cases e : d = d9
              · subst e
                have q1 : (upf (upf s.2.1 24 d 4) 26 d 8) 24 d = 4 := by rw [upf_o _ _ (by decide), upf_s]
                show _ = some (_, Sum.inr (5, [Value.int (nI ((upf (upf s.2.1 24 d 4) 26 d 8) 24 d - 3)), _]))
                rw [q1, bR, bC]
                exact (va_n _ _ (by omega)).trans k1
              · have h4 : (upf (upf s.2.1 24 d9 4) 26 d9 8) 24 d = s.2.1 24 d := by rw [upf_o _ _ (by decide), upf_n _ _ e]
                have h5 : 3 ≤ s.2.1 24 d := by rw [← h4]; exact h3
                show _ = some (_, Sum.inr (5, [Value.int (nI ((upf (upf s.2.1 24 d9 4) 26 d9 8) 24 d - 3)), _]))
                rw [h4, hBj _ (by omega) (by omega), hBj _ (by omega) (by omega)]
                exact ((va_n _ _ (by omega)).trans (k3 _ (by omega) (by omega) (by omega))).trans (h300 d hd h5)
            · intro d hd h3
              by_cases e : d = d9
              · subst e
                have q1 : (upf (upf s.2.1 24 d 4) 26 d 8) 26 d = 8 := upf_s _ _ _ _
                rw [bC]
                show ∃ h : Nat → Int32, _ = sA (xE X) _ ((upf (upf s.2.1 24 d 4) 26 d 8) 26 d) h ∧ ∀ i, i < (upf (upf s.2.1 24 d 4) 26 d 8) 26 d → h i = (rowg s.2.2 d 8 (fun i => nI (ps (mq i (cr s j)) 400))) 27 (400 * d + i) ∧ fits .short (.int (h i)) = true
                rw [q1]
                refine ⟨h, (va_n _ _ (by omega)).trans k2, fun i hi => ?_⟩
                unfold rowg
                rw [va_s, if_pos (by omega), show 400 * d + i - 400 * d = i by omega]
                exact ⟨kh i hi, by rw [kh i hi]; exact fit_srt _ (by have := ps_le (mq_le i (cr s j)) 400; omega)⟩
              · have h4 : (upf (upf s.2.1 24 d9 4) 26 d9 8) 24 d = s.2.1 24 d := by rw [upf_o _ _ (by decide), upf_n _ _ e]
                have h6 : (upf (upf s.2.1 24 d9 4) 26 d9 8) 26 d = s.2.1 26 d := by rw [upf_n _ _ e, upf_o _ _ (by decide)]
                obtain ⟨h8, a1, a2⟩ := h310 d hd (by rw [← h4]; exact h3)
                have z9 := hS.sh hd
                rw [hBj _ (by omega) (by omega)]
                show ∃ h : Nat → Int32, _ = sA (xE X) _ ((upf (upf s.2.1 24 d9 4) 26 d9 8) 26 d) h ∧ ∀ i, i < (upf (upf s.2.1 24 d9 4) 26 d9 8) 26 d → h i = (rowg s.2.2 d9 8 (fun i => nI (ps (mq i (cr s j)) 400))) 27 (400 * d + i) ∧ fits .short (.int (h i)) = true
                rw [h6]
                refine ⟨h8, ((va_n _ _ (by omega)).trans (k3 _ (by omega) (by omega) (by omega))).trans a1, fun i hi => ?_⟩
                unfold rowg
                rw [va_s, if_neg (by omega)]
                exact a2 i hi
        · have hok : ¬ okKeep s (nI d9) (nI 4) z := fun h => hj9 (h.2.2.2.2 (Or.inr rfl))
          refine r_iload_n (pq := 1) C dX11_keep_0 rfl rfl ?_
          refine r_callS (pq := 4) C (mc_X11_isShelf) gX11_keep_X11_isShelf rfl (na := 1) (by decide +kernel) rfl (by decide) (by decide) (Nat.le_of_ble_eq_true rfl) ⟨by rw [D.2.2.2.1]; decide, by rw [D.2.2.2.2.1]; decide⟩ dX11_keep_1 rfl rfl (fun r9 w hq => ?_)
          obtain ⟨rfl, rfl⟩ := hq
          dsimp only [Option.toList, List.cons_append, List.nil_append]
          have l1 := b2_lt (rg (nI d9) 8)
          refine rN_if_ne (tg := 9) (pq := 7) C dX11_keep_4 (by decide) rfl (by omega) (fun c4 => ?_) (fun c4 => absurd c4 (b2_1.mpr ((rg_nI (by omega)).mpr hd9)))
          refine r_iload_n (pq := 10) C dX11_keep_9 rfl rfl ?_
          refine rN_if_ne (tg := 17) (pq := 13) C dX11_keep_10 (by decide) rfl (by omega) (fun c10 => ?_) (fun c10 => absurd c10 (by decide))
          refine r_aload_n (pq := 18) C dX11_keep_17 rfl rfl ?_
          refine r_iload_n (pq := 19) C dX11_keep_18 rfl rfl ?_
          refine r_iload_n (pq := 20) C dX11_keep_19 rfl rfl ?_
          refine r_callV (pq := 23) C (mc_X11_wanted_no4 hS hN hj9) o0 rfl gX11_keep_X11_wanted rfl (na := 2) (by decide +kernel) rfl (by decide) (by decide) (Nat.le_of_ble_eq_true rfl) ⟨by rw [D.2.2.2.1]; decide, by rw [D.2.2.2.2.1]; decide⟩ dX11_keep_20 rfl rfl (fun r9 w hq => ?_)
          obtain ⟨rfl, rfl⟩ := hq
          dsimp only [Option.toList, List.cons_append, List.nil_append]
          try rw [if_neg hj9]
          refine r_astoreN (j := 4) (pq := 25) C dX11_keep_23 rfl (by decide) rfl rfl ?_
          dsimp only [List.set]
          refine r_aloadN (pq := 27) C dX11_keep_25 rfl rfl ?_
          refine r_ifnonnullN (pq := 30) C dX11_keep_27 rfl ?_
          refine r_iload_n (pq := 31) C dX11_keep_30 rfl rfl ?_
          refine rN_if_eq (tg := 36) (pq := 34) C dX11_keep_31 (by decide) rfl (by omega) (fun c31 => absurd c31 (by decide)) (fun c31 => ?_)
          refine r_iconst (v := (-1)) (pq := 35) C dX11_keep_34 (by decide) rfl ?_
          refine r_iret C D rfl ⟨Nat.le_of_ble_eq_true rfl, Nat.le_of_ble_eq_true rfl⟩ dX11_keep_35 ?_
          refine ⟨?_, fun _ _ => rfl, B, rfl, ?_⟩
          · unfold rs_keep
            rw [if_neg hok]
          · unfold nx_keep
            rw [if_neg hok]
            exact hN
    · have hok : ¬ okKeep s (nI d9) y z := fun h => hy h.2.1
      have hy0 : ¬ y = 0 := fun e => hy (by rw [e]; decide)
      have hy1 : y.toInt < 1 ∨ 4 < y.toInt := by
        unfold rg at hy
        have : y.toInt ≠ 0 := fun q => hy0 (Int32.toInt_inj.mp (q.trans rfl))
        omega
      refine r_iload_n (pq := 1) C dX11_keep_0 rfl rfl ?_
      refine r_callS (pq := 4) C (mc_X11_isShelf) gX11_keep_X11_isShelf rfl (na := 1) (by decide +kernel) rfl (by decide) (by decide) (Nat.le_of_ble_eq_true rfl) ⟨by rw [D.2.2.2.1]; decide, by rw [D.2.2.2.2.1]; decide⟩ dX11_keep_1 rfl rfl (fun r9 w hq => ?_)
      obtain ⟨rfl, rfl⟩ := hq
      dsimp only [Option.toList, List.cons_append, List.nil_append]
      have l1 := b2_lt (rg (nI d9) 8)
      refine rN_if_ne (tg := 9) (pq := 7) C dX11_keep_4 (by decide) rfl (by omega) (fun c4 => ?_) (fun c4 => absurd c4 (b2_1.mpr ((rg_nI (by omega)).mpr hd9)))
      refine r_iload_n (pq := 10) C dX11_keep_9 rfl rfl ?_
      refine r_if_ne (tg := 17) (pq := 13) C dX11_keep_10 (by decide) rfl (fun c10 => ?_) (fun c10 => absurd c10 hy0)
      refine r_aload_n (pq := 18) C dX11_keep_17 rfl rfl ?_
      refine r_iload_n (pq := 19) C dX11_keep_18 rfl rfl ?_
      refine r_iload_n (pq := 20) C dX11_keep_19 rfl rfl ?_
      refine r_callV (pq := 23) C (mc_X11_wanted_none hS hN hy1) o0 rfl gX11_keep_X11_wanted rfl (na := 2) (by decide +kernel) rfl (by decide) (by decide) (Nat.le_of_ble_eq_true rfl) ⟨by rw [D.2.2.2.1]; decide, by rw [D.2.2.2.2.1]; decide⟩ dX11_keep_20 rfl rfl (fun r9 w hq => ?_)
      obtain ⟨rfl, rfl⟩ := hq
      dsimp only [Option.toList, List.cons_append, List.nil_append]
      try rw [if_neg hj9]
      refine r_astoreN (j := 4) (pq := 25) C dX11_keep_23 rfl (by decide) rfl rfl ?_
      dsimp only [List.set]
      refine r_aloadN (pq := 27) C dX11_keep_25 rfl rfl ?_
      refine r_ifnonnullN (pq := 30) C dX11_keep_27 rfl ?_
      refine r_iload_n (pq := 31) C dX11_keep_30 rfl rfl ?_
      refine r_if_eq (tg := 36) (pq := 34) C dX11_keep_31 (by decide) rfl (fun c31 => absurd c31 hy0) (fun c31 => ?_)
      refine r_iconst (v := (-1)) (pq := 35) C dX11_keep_34 (by decide) rfl ?_
      refine r_iret C D rfl ⟨Nat.le_of_ble_eq_true rfl, Nat.le_of_ble_eq_true rfl⟩ dX11_keep_35 ?_
      refine ⟨?_, fun _ _ => rfl, B, rfl, ?_⟩
      · unfold rs_keep
        rw [if_neg hok]
      · unfold nx_keep
        rw [if_neg hok]
        exact hN
  · skip
    refine r_iload_n (pq := 1) C dX11_keep_0 rfl rfl ?_
    refine r_callS (pq := 4) C (mc_X11_isShelf) gX11_keep_X11_isShelf rfl (na := 1) (by decide +kernel) rfl (by decide) (by decide) (Nat.le_of_ble_eq_true rfl) ⟨by rw [D.2.2.2.1]; decide, by rw [D.2.2.2.2.1]; decide⟩ dX11_keep_1 rfl rfl (fun r9 w hq => ?_)
    obtain ⟨rfl, rfl⟩ := hq
    dsimp only [Option.toList, List.cons_append, List.nil_append]
    have l1 := b2_lt (rg x 8)
    refine rN_if_ne (tg := 9) (pq := 7) C dX11_keep_4 (by decide) rfl (by omega) (fun c4 => ?_) (fun c4 => ?_)
    · exact absurd (b2_1.mp c4) hd
    · refine r_iconst (v := (-1)) (pq := 8) C dX11_keep_7 (by decide) rfl ?_
      refine r_iret C D rfl ⟨Nat.le_of_ble_eq_true rfl, Nat.le_of_ble_eq_true rfl⟩ dX11_keep_8 ?_
      refine ⟨?_, fun _ _ => rfl, B, rfl, ?_⟩
      · unfold rs_keep
        rw [if_neg (fun h => hd h.1)]
      · unfold nx_keep
        rw [if_neg (fun h => hd h.1)]
        exact hN


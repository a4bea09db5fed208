/-! ===== the class's calls: decides, taxed, quarrels, count ===== -/
theorem dci_8 {v : Nat} (hv : v ≤ 8) : dci v = -2 ↔ v = 8 := by
  unfold dci
  by_cases e : v = 8
  · rw [if_pos e]; exact ⟨fun _ => e, fun _ => rfl⟩
  · rw [if_neg e]
    exact ⟨fun h => absurd h (nI_ne_neg (by omega) (by decide)), fun h => absurd h e⟩
/-- the tallies of the lands in L hold the nights of the year y -/
def TY (B : Nat → Nat) (s : ST) (w : RW) (p y l : Nat) : Prop := w (30 + l) = tC (B (30 + l)) l (yl l (cr s p) y) (ym l (cr s p) y)

set_option maxHeartbeats 4000000 in
set_option maxRecDepth 100000 in
/-- oneOfTwo -/
theorem mc_X11_oneOfTwo {l : Launch} {E : EV} {w : RW} {v9 a9 b9 : Nat} (hv : v9 < 8) (ha : a9 < 8) (hb : b9 < 8) : MC l E yX11_oneOfTwo wsX11_oneOfTwo 0 0 0 [.int (nI v9), .int (nI a9), .int (nI b9)] (w) (fun v w' => w' = w ∧ v = some (.int (dci (if v9 = a9 ∨ v9 = b9 then v9 else 8)))) := by
  refine MC.enter (cc := cX11_oneOfTwo) (maxL := 3) (ret := (some .int)) (lv0 := [some (.int (nI v9)), some (.int (nI a9)), some (.int (nI b9))]) (by decide) rfl (by simp [Value.category]) (Nat.le_of_ble_eq_true rfl) rfl ?_
  intro X hl hE C D
  subst hl
  subst hE
  refine r_iload_n (pq := 1) C dX11_oneOfTwo_0 rfl rfl ?_
  refine r_iload_n (pq := 2) C dX11_oneOfTwo_1 rfl rfl ?_
  refine rN_icmp_eq (tg := 10) (pq := 5) C dX11_oneOfTwo_2 (by decide) rfl (by omega) (by omega) (fun c2 => ?_) (fun c2 => ?_)
  · refine r_iload_n (pq := 11) C dX11_oneOfTwo_10 rfl rfl ?_
    refine r_goto (tg := 16) C dX11_oneOfTwo_11 (by decide) ?_
    refine r_iret C D rfl ⟨Nat.le_refl _, Nat.le_refl _⟩ dX11_oneOfTwo_16 ?_
    refine ⟨rfl, ?_⟩
    rw [if_pos (Or.inl c2)]
    unfold dci
    rw [if_neg (by omega)]
  · refine r_iload_n (pq := 6) C dX11_oneOfTwo_5 rfl rfl ?_
    refine r_iload_n (pq := 7) C dX11_oneOfTwo_6 rfl rfl ?_
    refine rN_icmp_ne (tg := 14) (pq := 10) C dX11_oneOfTwo_7 (by decide) rfl (by omega) (by omega) (fun c7 => ?_) (fun c7 => ?_)
    · refine r_bipush (v := (-2)) (pq := 16) C dX11_oneOfTwo_14 (by decide) rfl ?_
      refine r_iret C D rfl ⟨Nat.le_refl _, Nat.le_refl _⟩ dX11_oneOfTwo_16 ?_
      refine ⟨rfl, ?_⟩
      rw [if_neg (fun h => h.elim c2 c7)]
      rfl
    · refine r_iload_n (pq := 11) C dX11_oneOfTwo_10 rfl rfl ?_
      refine r_goto (tg := 16) C dX11_oneOfTwo_11 (by decide) ?_
      refine r_iret C D rfl ⟨Nat.le_refl _, Nat.le_refl _⟩ dX11_oneOfTwo_16 ?_
      refine ⟨rfl, ?_⟩
      rw [if_pos (Or.inr c7)]
      unfold dci
      rw [if_neg (by omega)]

set_option maxHeartbeats 4000000 in
set_option maxRecDepth 100000 in
/-- winnerByNights -/
theorem mc_X11_winnerByNights {l : Launch} {E : EV} {w : RW} {B : Nat → Nat} {s : ST} {a9 b9 p9 y9 : Nat} (hS : SI s) (hN : NS E B s w) (ha : a9 < 8) (hb : b9 < 8) (hy : y9 < 4) (ta : TY B s w p9 y9 a9) (tb : TY B s w p9 y9 b9) : MC l E yX11_winnerByNights wsX11_winnerByNights 0 0 0 [.ref (B 0), .int (nI a9), .int (nI b9)] (w) (fun v w' => w' = w ∧ v = some (.int (dci (dct s 2 a9 b9 p9 y9 (cr s p9))))) := by
  refine MC.enter (cc := cX11_winnerByNights) (maxL := 3) (ret := (some .int)) (lv0 := [some (.ref (B 0)), some (.int (nI a9)), some (.int (nI b9))]) (by decide) rfl (by simp [Value.category]) (Nat.le_of_ble_eq_true rfl) rfl ?_
  intro X hl hE C D
  subst hl
  subst hE
  have hI1 : s.1 1 ≤ 6 := hS.2.1
  have hI5 : s.1 5 ≤ 80 := hS.2.2.1
  have hI16 : s.1 16 ≤ 12 := hS.2.2.2.1
  have hNN := hN
  obtain ⟨o0, ⟨u1, e1, f1⟩, ⟨u2, e2, f2⟩, ⟨u3, e3, f3⟩, ⟨u5, e5, f5⟩, ⟨u6, e6, f6⟩, ⟨u8, e8, f8⟩, ⟨u10, e10, f10⟩, ⟨u11, e11, f11⟩, ⟨u13, e13, f13⟩, ⟨u14, e14, f14⟩, ⟨u15, e15⟩, ⟨u16, e16⟩, h20, h30, h100, h200, h220, h240, h300, h310⟩ := hNN
  have q1 := yl_lt a9 (cr s p9) hy
  have q2 := ym_lt a9 (cr s p9) hy
  have q3 := yl_lt b9 (cr s p9) hy
  have q4 := ym_lt b9 (cr s p9) hy
  refine r_aload_n (pq := 1) C dX11_winnerByNights_0 rfl rfl ?_
  refine r_getf (pq := 4) C 13 o0 rfl (by decide) (by decide +kernel) (Or.inl rfl) rfl dX11_winnerByNights_1 rfl ?_
  refine r_iload_n (pq := 5) C dX11_winnerByNights_4 rfl rfl ?_
  refine rN_aaldS (pq := 6) C 7 rfl rfl e14 (by omega) (by decide) (f14 a9 ha) dX11_winnerByNights_5 rfl ?_
  refine r_getf (pq := 9) C 1 ta rfl (by decide) (by decide +kernel) (Or.inl rfl) rfl dX11_winnerByNights_6 rfl ?_
  refine r_aload_n (pq := 10) C dX11_winnerByNights_9 rfl rfl ?_
  refine r_getf (pq := 13) C 13 o0 rfl (by decide) (by decide +kernel) (Or.inl rfl) rfl dX11_winnerByNights_10 rfl ?_
  refine r_iload_n (pq := 14) C dX11_winnerByNights_13 rfl rfl ?_
  refine rN_aaldS (pq := 15) C 7 rfl rfl e14 (by omega) (by decide) (f14 b9 hb) dX11_winnerByNights_14 rfl ?_
  refine r_getf (pq := 18) C 2 tb rfl (by decide) (by decide +kernel) (Or.inl rfl) rfl dX11_winnerByNights_15 rfl ?_
  refine rN_icmp_le (tg := 23) (pq := 21) C dX11_winnerByNights_18 (by decide) rfl (by omega) (by omega) (fun c18 => ?_) (fun c18 => ?_)
  · refine r_aload_n (pq := 24) C dX11_winnerByNights_23 rfl rfl ?_
    refine r_getf (pq := 27) C 13 o0 rfl (by decide) (by decide +kernel) (Or.inl rfl) rfl dX11_winnerByNights_24 rfl ?_
    refine r_iload_n (pq := 28) C dX11_winnerByNights_27 rfl rfl ?_
    refine rN_aaldS (pq := 29) C 7 rfl rfl e14 (by omega) (by decide) (f14 b9 hb) dX11_winnerByNights_28 rfl ?_
    refine r_getf (pq := 32) C 1 tb rfl (by decide) (by decide +kernel) (Or.inl rfl) rfl dX11_winnerByNights_29 rfl ?_
    refine r_aload_n (pq := 33) C dX11_winnerByNights_32 rfl rfl ?_
    refine r_getf (pq := 36) C 13 o0 rfl (by decide) (by decide +kernel) (Or.inl rfl) rfl dX11_winnerByNights_33 rfl ?_
    refine r_iload_n (pq := 37) C dX11_winnerByNights_36 rfl rfl ?_
    refine rN_aaldS (pq := 38) C 7 rfl rfl e14 (by omega) (by decide) (f14 a9 ha) dX11_winnerByNights_37 rfl ?_
    refine r_getf (pq := 41) C 2 ta rfl (by decide) (by decide +kernel) (Or.inl rfl) rfl dX11_winnerByNights_38 rfl ?_
    refine rN_icmp_le (tg := 48) (pq := 44) C dX11_winnerByNights_41 (by decide) rfl (by omega) (by omega) (fun c41 => ?_) (fun c41 => ?_)
    · refine r_bipush (v := (-2)) (pq := 50) C dX11_winnerByNights_48 (by decide) rfl ?_
      refine r_iret C D rfl ⟨Nat.le_refl _, Nat.le_refl _⟩ dX11_winnerByNights_50 ?_
      refine ⟨rfl, ?_⟩
      unfold dct
      rw [if_neg (by decide), if_pos rfl, if_neg (by omega), if_neg (by omega)]
      rfl
    · refine r_iload_n (pq := 45) C dX11_winnerByNights_44 rfl rfl ?_
      refine r_goto (tg := 50) C dX11_winnerByNights_45 (by decide) ?_
      refine r_iret C D rfl ⟨Nat.le_refl _, Nat.le_refl _⟩ dX11_winnerByNights_50 ?_
      refine ⟨rfl, ?_⟩
      unfold dct
      rw [if_neg (by decide), if_pos rfl, if_neg (by omega), if_pos (by omega)]
      unfold dci
      rw [if_neg (by omega)]
  · refine r_iload_n (pq := 22) C dX11_winnerByNights_21 rfl rfl ?_
    refine r_iret C D rfl ⟨Nat.le_refl _, Nat.le_refl _⟩ dX11_winnerByNights_22 ?_
    refine ⟨rfl, ?_⟩
    unfold dct
    rw [if_neg (by decide), if_pos rfl, if_pos (by omega)]
    unfold dci
    rw [if_neg (by omega)]

set_option maxHeartbeats 4000000 in
set_option maxRecDepth 100000 in
/-- winnerBy -/
theorem mc_X11_winnerBy {l : Launch} {E : EV} {w : RW} {B : Nat → Nat} {s : ST} {t9 a9 b9 p9 y9 : Nat} (hS : SI s) (hN : NS E B s w) (ht : t9 < 4) (ha : a9 < 8) (hb : b9 < 8) (hp : p9 < s.1 1) (hy : y9 < 4) (ta : TY B s w p9 y9 a9) (tb : TY B s w p9 y9 b9) : MC l E yX11_winnerBy wsX11_winnerBy 1 0 0 [.ref (B 0), .int (nI t9), .int (nI a9), .int (nI b9), .int (nI p9)] (w) (fun v w' => w' = w ∧ v = some (.int (dci (dct s t9 a9 b9 p9 y9 (cr s p9))))) := by
  refine MC.enter (cc := cX11_winnerBy) (maxL := 5) (ret := (some .int)) (lv0 := [some (.ref (B 0)), some (.int (nI t9)), some (.int (nI a9)), some (.int (nI b9)), some (.int (nI p9))]) (by decide) rfl (by simp [Value.category]) (Nat.le_of_ble_eq_true rfl) rfl ?_
  intro X hl hE C D
  subst hl
  subst hE
  have hI1 : s.1 1 ≤ 6 := hS.2.1
  have hI5 : s.1 5 ≤ 80 := hS.2.2.1
  have hI16 : s.1 16 ≤ 12 := hS.2.2.2.1
  have hNN := hN
  obtain ⟨o0, ⟨u1, e1, f1⟩, ⟨u2, e2, f2⟩, ⟨u3, e3, f3⟩, ⟨u5, e5, f5⟩, ⟨u6, e6, f6⟩, ⟨u8, e8, f8⟩, ⟨u10, e10, f10⟩, ⟨u11, e11, f11⟩, ⟨u13, e13, f13⟩, ⟨u14, e14, f14⟩, ⟨u15, e15⟩, ⟨u16, e16⟩, h20, h30, h100, h200, h220, h240, h300, h310⟩ := hNN
  have hh := hS.2.2.2.2.1 p9 hp
  rcases (by omega : t9 = 0 ∨ t9 = 1 ∨ t9 = 2 ∨ t9 = 3) with e | e | e | e <;> subst e
  · refine r_iload_n (pq := 1) C dX11_winnerBy_0 rfl rfl ?_
    refine r_tableOut (tg := 61) C dX11_winnerBy_1 (by decide) (by decide) ?_
    refine r_bipush (v := (-2)) (pq := 63) C dX11_winnerBy_61 (by decide) rfl ?_
    refine r_iret C D rfl ⟨Nat.le_refl _, Nat.le_refl _⟩ dX11_winnerBy_63 ?_
    exact ⟨rfl, rfl⟩
  · refine r_iload_n (pq := 1) C dX11_winnerBy_0 rfl rfl ?_
    refine r_tableIn (tg := 28) C dX11_winnerBy_1 (by decide) (by decide) rfl (by decide) ?_
    refine r_aload_n (pq := 29) C dX11_winnerBy_28 rfl rfl ?_
    refine r_getf (pq := 32) C 0 o0 rfl (by decide) (by decide +kernel) (Or.inl rfl) rfl dX11_winnerBy_29 rfl ?_
    refine r_iload (pq := 34) C dX11_winnerBy_32 rfl rfl ?_
    refine rN_iald (pq := 35) C e1 (by omega) (by decide) dX11_winnerBy_34 rfl ?_
    refine r_at (f1 p9 hp) ?_
    refine r_iload_n (pq := 36) C dX11_winnerBy_35 rfl rfl ?_
    refine r_iload_n (pq := 37) C dX11_winnerBy_36 rfl rfl ?_
    refine r_callS (pq := 40) C (mc_X11_oneOfTwo hh.1 ha hb) gX11_winnerBy_X11_oneOfTwo rfl (na := 3) (by decide +kernel) rfl (by decide) (by decide) (Nat.le_of_ble_eq_true rfl) ⟨Nat.zero_le _, Nat.zero_le _⟩ dX11_winnerBy_37 rfl rfl (fun r9 w hq => ?_)
    obtain ⟨rfl, rfl⟩ := hq
    dsimp only [Option.toList, List.cons_append, List.nil_append]
    refine r_iret C D rfl ⟨Nat.le_refl _, Nat.le_refl _⟩ dX11_winnerBy_40 ?_
    exact ⟨rfl, rfl⟩
  · refine r_iload_n (pq := 1) C dX11_winnerBy_0 rfl rfl ?_
    refine r_tableIn (tg := 41) C dX11_winnerBy_1 (by decide) (by decide) rfl (by decide) ?_
    refine r_aload_n (pq := 42) C dX11_winnerBy_41 rfl rfl ?_
    refine r_iload_n (pq := 43) C dX11_winnerBy_42 rfl rfl ?_
    refine r_iload_n (pq := 44) C dX11_winnerBy_43 rfl rfl ?_
    refine r_callV (pq := 47) C (mc_X11_winnerByNights hS hN ha hb hy ta tb) o0 rfl gX11_winnerBy_X11_winnerByNights rfl (na := 2) (by decide +kernel) rfl (by decide) (by decide) (Nat.le_of_ble_eq_true rfl) ⟨Nat.zero_le _, Nat.zero_le _⟩ dX11_winnerBy_44 rfl rfl (fun r9 w hq => ?_)
    obtain ⟨rfl, rfl⟩ := hq
    dsimp only [Option.toList, List.cons_append, List.nil_append]
    refine r_iret C D rfl ⟨Nat.le_refl _, Nat.le_refl _⟩ dX11_winnerBy_47 ?_
    exact ⟨rfl, rfl⟩
  · refine r_iload_n (pq := 1) C dX11_winnerBy_0 rfl rfl ?_
    refine r_tableIn (tg := 48) C dX11_winnerBy_1 (by decide) (by decide) rfl (by decide) ?_
    refine r_aload_n (pq := 49) C dX11_winnerBy_48 rfl rfl ?_
    refine r_getf (pq := 52) C 1 o0 rfl (by decide) (by decide +kernel) (Or.inl rfl) rfl dX11_winnerBy_49 rfl ?_
    refine r_iload (pq := 54) C dX11_winnerBy_52 rfl rfl ?_
    refine rN_iald (pq := 55) C e2 (by omega) (by decide) dX11_winnerBy_54 rfl ?_
    refine r_at (f2 p9 hp) ?_
    refine r_iload_n (pq := 56) C dX11_winnerBy_55 rfl rfl ?_
    refine r_iload_n (pq := 57) C dX11_winnerBy_56 rfl rfl ?_
    refine r_callS (pq := 60) C (mc_X11_oneOfTwo hh.2.1 ha hb) gX11_winnerBy_X11_oneOfTwo rfl (na := 3) (by decide +kernel) rfl (by decide) (by decide) (Nat.le_of_ble_eq_true rfl) ⟨Nat.zero_le _, Nat.zero_le _⟩ dX11_winnerBy_57 rfl rfl (fun r9 w hq => ?_)
    obtain ⟨rfl, rfl⟩ := hq
    dsimp only [Option.toList, List.cons_append, List.nil_append]
    refine r_iret C D rfl ⟨Nat.le_refl _, Nat.le_refl _⟩ dX11_winnerBy_60 ?_
    exact ⟨rfl, rfl⟩

theorem tst_0 (t : Nat) : tst t 0 = t % 4 := by unfold tst; rw [show 2 ^ (2 * 0) = 1 from rfl, Nat.div_one]
theorem tst_1 (t : Nat) : tst t 1 = t / 4 % 4 := rfl
theorem tst_2 {t : Nat} (h : t < 64) : tst t 2 = t / 16 := by
  show t / 16 % 4 = t / 16
  omega

set_option maxHeartbeats 4000000 in
set_option maxRecDepth 100000 in
/-- decidedFor -/
theorem mc_X11_decidedFor {l : Launch} {E : EV} {w : RW} {B : Nat → Nat} {s : ST} {a9 b9 p9 y9 : Nat} (hS : SI s) (hN : NS E B s w) (ha : a9 < 8) (hb : b9 < 8) (hp : p9 < s.1 1) (hy : y9 < 4) (ta : TY B s w p9 y9 a9) (tb : TY B s w p9 y9 b9) : MC l E yX11_decidedFor wsX11_decidedFor 2 0 0 [.ref (B 0), .int (nI a9), .int (nI b9), .int (nI p9)] (w) (fun v w' => w' = w ∧ v = some (.int (dci (dcd s a9 b9 p9 y9 (cr s p9))))) := by
  refine MC.enter (cc := cX11_decidedFor) (maxL := 7) (ret := (some .int)) (lv0 := [some (.ref (B 0)), some (.int (nI a9)), some (.int (nI b9)), some (.int (nI p9)), none, none, none]) (by decide) rfl (by simp [Value.category]) (Nat.le_of_ble_eq_true rfl) rfl ?_
  intro X hl hE C D
  subst hl
  subst hE
  have hI1 : s.1 1 ≤ 6 := hS.2.1
  have hI5 : s.1 5 ≤ 80 := hS.2.2.1
  have hI16 : s.1 16 ≤ 12 := hS.2.2.2.1
  have hNN := hN
  obtain ⟨o0, ⟨u1, e1, f1⟩, ⟨u2, e2, f2⟩, ⟨u3, e3, f3⟩, ⟨u5, e5, f5⟩, ⟨u6, e6, f6⟩, ⟨u8, e8, f8⟩, ⟨u10, e10, f10⟩, ⟨u11, e11, f11⟩, ⟨u13, e13, f13⟩, ⟨u14, e14, f14⟩, ⟨u15, e15⟩, ⟨u16, e16⟩, h20, h30, h100, h200, h220, h240, h300, h310⟩ := hNN
  have hpr := pr_lt ha hb
  refine r_aload_n (pq := 1) C dX11_decidedFor_0 rfl rfl ?_
  refine r_getf (pq := 4) C 10 o0 rfl (by decide) (by decide +kernel) (Or.inl rfl) rfl dX11_decidedFor_1 rfl ?_
  refine r_iload_n (pq := 5) C dX11_decidedFor_4 rfl rfl ?_
  refine r_iload_n (pq := 6) C dX11_decidedFor_5 rfl rfl ?_
  refine r_callS (pq := 9) C (mc_X11_pairOf ha hb) gX11_decidedFor_X11_pairOf rfl (na := 2) (by decide +kernel) rfl (by decide) (by decide) (Nat.le_of_ble_eq_true rfl) ⟨Nat.zero_le _, Nat.zero_le _⟩ dX11_decidedFor_6 rfl rfl (fun r9 w hq => ?_)
  obtain ⟨rfl, rfl⟩ := hq
  dsimp only [Option.toList, List.cons_append, List.nil_append]
  refine rN_iald (pq := 10) C e11 (by omega) (by decide) dX11_decidedFor_9 rfl ?_
  refine r_at (f11 _ hpr) ?_
  refine r_istore (j := 4) (pq := 12) C dX11_decidedFor_10 rfl (by decide) rfl rfl ?_
  dsimp only [List.set]
  refine r_iload (pq := 14) C dX11_decidedFor_12 rfl rfl ?_
  refine r_iconst (v := (-1)) (pq := 15) C dX11_decidedFor_14 (by decide) rfl ?_
  refine r_icmp_ne (tg := 21) (pq := 18) C dX11_decidedFor_15 (by decide) rfl (fun c15 => ?_) (fun c15 => ?_)
  obtain ⟨t9, hts, f11e⟩ : ∃ t, tsOK t ∧ s.2.2 23 (pr a9 b9) = nI t := (hS.2.2.2.2.2.2.2.2.1 _ hpr).resolve_left c15
  have ht : t9 < 64 := hts.1
  rw [f11e]
  refine r_iconst (v := nI 0) (pq := 22) C dX11_decidedFor_21 (by decide) rfl ?_
  refine r_istore (j := 5) (pq := 24) C dX11_decidedFor_22 rfl (by decide) rfl rfl ?_
  dsimp only [List.set]
  refine r_iload (pq := 26) C dX11_decidedFor_24 rfl rfl ?_
  refine r_iconst (v := nI 3) (pq := 27) C dX11_decidedFor_26 (by decide) rfl ?_
  refine rN_icmp_ge (tg := 62) (pq := 30) C dX11_decidedFor_27 (by decide) rfl (by omega) (by omega) (fun c27 => absurd c27 (by decide)) (fun c27 => ?_)
  refine r_aload_n (pq := 31) C dX11_decidedFor_30 rfl rfl ?_
  refine r_iload (pq := 33) C dX11_decidedFor_31 rfl rfl ?_
  refine r_iload (pq := 35) C dX11_decidedFor_33 rfl rfl ?_
  refine r_callS (pq := 38) C (mc_X11_testAt (t9 := t9) (k9 := 0) ht (by decide)) gX11_decidedFor_X11_testAt rfl (na := 2) (by decide +kernel) rfl (by decide) (by decide) (Nat.le_of_ble_eq_true rfl) ⟨Nat.zero_le _, Nat.zero_le _⟩ dX11_decidedFor_35 rfl rfl (fun r9 w hq => ?_)
  obtain ⟨rfl, rfl⟩ := hq
  dsimp only [Option.toList, List.cons_append, List.nil_append]
  rw [tst_0]
  refine r_iload_n (pq := 39) C dX11_decidedFor_38 rfl rfl ?_
  refine r_iload_n (pq := 40) C dX11_decidedFor_39 rfl rfl ?_
  refine r_iload_n (pq := 41) C dX11_decidedFor_40 rfl rfl ?_
  refine r_callV (pq := 44) C (mc_X11_winnerBy (t9 := t9 % 4) hS hN (by omega) ha hb hp hy ta tb) o0 rfl gX11_decidedFor_X11_winnerBy rfl (na := 4) (by decide +kernel) rfl (by decide) (by decide) (Nat.le_of_ble_eq_true rfl) ⟨Nat.zero_le _, Nat.zero_le _⟩ dX11_decidedFor_41 rfl rfl (fun r9 w hq => ?_)
  obtain ⟨rfl, rfl⟩ := hq
  dsimp only [Option.toList, List.cons_append, List.nil_append]
  have v0 := dct_le (s := s) (t := t9 % 4) (p := p9) (y := y9) (c := cr s p9) ha hb
  refine r_istore (j := 6) (pq := 46) C dX11_decidedFor_44 rfl (by decide) rfl rfl ?_
  dsimp only [List.set]
  refine r_iload (pq := 48) C dX11_decidedFor_46 rfl rfl ?_
  refine r_bipush (v := (-2)) (pq := 50) C dX11_decidedFor_48 (by decide) rfl ?_
  refine r_icmp_eq (tg := 56) (pq := 53) C dX11_decidedFor_50 (by decide) rfl (fun e0x => ?_) (fun e0x => ?_)
  · refine rN_iinc (c := 1) (pq := 59) C dX11_decidedFor_56 rfl (by decide) (by decide) rfl rfl ?_
    dsimp only [List.set]
    refine r_goto (tg := 24) C dX11_decidedFor_59 (by decide) ?_
    have d0 : (dct s (t9 % 4) a9 b9 p9 y9 (cr s p9)) = 8 := (dci_8 v0).mp e0x
    refine GG.fgt 6 ?_
    dsimp only [List.set]
    refine r_iload (pq := 26) C dX11_decidedFor_24 rfl rfl ?_
    refine r_iconst (v := nI 3) (pq := 27) C dX11_decidedFor_26 (by decide) rfl ?_
    refine rN_icmp_ge (tg := 62) (pq := 30) C dX11_decidedFor_27 (by decide) rfl (by omega) (by omega) (fun c27 => absurd c27 (by decide)) (fun c27 => ?_)
    refine r_aload_n (pq := 31) C dX11_decidedFor_30 rfl rfl ?_
    refine r_iload (pq := 33) C dX11_decidedFor_31 rfl rfl ?_
    refine r_iload (pq := 35) C dX11_decidedFor_33 rfl rfl ?_
    refine r_callS (pq := 38) C (mc_X11_testAt (t9 := t9) (k9 := 1) ht (by decide)) gX11_decidedFor_X11_testAt rfl (na := 2) (by decide +kernel) rfl (by decide) (by decide) (Nat.le_of_ble_eq_true rfl) ⟨Nat.zero_le _, Nat.zero_le _⟩ dX11_decidedFor_35 rfl rfl (fun r9 w hq => ?_)
    obtain ⟨rfl, rfl⟩ := hq
    dsimp only [Option.toList, List.cons_append, List.nil_append]
    rw [tst_1]
    refine r_iload_n (pq := 39) C dX11_decidedFor_38 rfl rfl ?_
    refine r_iload_n (pq := 40) C dX11_decidedFor_39 rfl rfl ?_
    refine r_iload_n (pq := 41) C dX11_decidedFor_40 rfl rfl ?_
    refine r_callV (pq := 44) C (mc_X11_winnerBy (t9 := t9 / 4 % 4) hS hN (by omega) ha hb hp hy ta tb) o0 rfl gX11_decidedFor_X11_winnerBy rfl (na := 4) (by decide +kernel) rfl (by decide) (by decide) (Nat.le_of_ble_eq_true rfl) ⟨Nat.zero_le _, Nat.zero_le _⟩ dX11_decidedFor_41 rfl rfl (fun r9 w hq => ?_)
    obtain ⟨rfl, rfl⟩ := hq
    dsimp only [Option.toList, List.cons_append, List.nil_append]
    have v1 := dct_le (s := s) (t := t9 / 4 % 4) (p := p9) (y := y9) (c := cr s p9) ha hb
    refine r_istore (j := 6) (pq := 46) C dX11_decidedFor_44 rfl (by decide) rfl rfl ?_
    dsimp only [List.set]
    refine r_iload (pq := 48) C dX11_decidedFor_46 rfl rfl ?_
    refine r_bipush (v := (-2)) (pq := 50) C dX11_decidedFor_48 (by decide) rfl ?_
    refine r_icmp_eq (tg := 56) (pq := 53) C dX11_decidedFor_50 (by decide) rfl (fun e1x => ?_) (fun e1x => ?_)
    · refine rN_iinc (c := 1) (pq := 59) C dX11_decidedFor_56 rfl (by decide) (by decide) rfl rfl ?_
      dsimp only [List.set]
      refine r_goto (tg := 24) C dX11_decidedFor_59 (by decide) ?_
      have d1 : (dct s (t9 / 4 % 4) a9 b9 p9 y9 (cr s p9)) = 8 := (dci_8 v1).mp e1x
      refine GG.fgt 6 ?_
      dsimp only [List.set]
      refine r_iload (pq := 26) C dX11_decidedFor_24 rfl rfl ?_
      refine r_iconst (v := nI 3) (pq := 27) C dX11_decidedFor_26 (by decide) rfl ?_
      refine rN_icmp_ge (tg := 62) (pq := 30) C dX11_decidedFor_27 (by decide) rfl (by omega) (by omega) (fun c27 => absurd c27 (by decide)) (fun c27 => ?_)
      refine r_aload_n (pq := 31) C dX11_decidedFor_30 rfl rfl ?_
      refine r_iload (pq := 33) C dX11_decidedFor_31 rfl rfl ?_
      refine r_iload (pq := 35) C dX11_decidedFor_33 rfl rfl ?_
      refine r_callS (pq := 38) C (mc_X11_testAt (t9 := t9) (k9 := 2) ht (by decide)) gX11_decidedFor_X11_testAt rfl (na := 2) (by decide +kernel) rfl (by decide) (by decide) (Nat.le_of_ble_eq_true rfl) ⟨Nat.zero_le _, Nat.zero_le _⟩ dX11_decidedFor_35 rfl rfl (fun r9 w hq => ?_)
      obtain ⟨rfl, rfl⟩ := hq
      dsimp only [Option.toList, List.cons_append, List.nil_append]
      rw [tst_2 ht]
      refine r_iload_n (pq := 39) C dX11_decidedFor_38 rfl rfl ?_
      refine r_iload_n (pq := 40) C dX11_decidedFor_39 rfl rfl ?_
      refine r_iload_n (pq := 41) C dX11_decidedFor_40 rfl rfl ?_
      refine r_callV (pq := 44) C (mc_X11_winnerBy (t9 := t9 / 16) hS hN (by omega) ha hb hp hy ta tb) o0 rfl gX11_decidedFor_X11_winnerBy rfl (na := 4) (by decide +kernel) rfl (by decide) (by decide) (Nat.le_of_ble_eq_true rfl) ⟨Nat.zero_le _, Nat.zero_le _⟩ dX11_decidedFor_41 rfl rfl (fun r9 w hq => ?_)
      obtain ⟨rfl, rfl⟩ := hq
      dsimp only [Option.toList, List.cons_append, List.nil_append]
      have v2 := dct_le (s := s) (t := t9 / 16) (p := p9) (y := y9) (c := cr s p9) ha hb
      refine r_istore (j := 6) (pq := 46) C dX11_decidedFor_44 rfl (by decide) rfl rfl ?_
      dsimp only [List.set]
      refine r_iload (pq := 48) C dX11_decidedFor_46 rfl rfl ?_
      refine r_bipush (v := (-2)) (pq := 50) C dX11_decidedFor_48 (by decide) rfl ?_
      refine r_icmp_eq (tg := 56) (pq := 53) C dX11_decidedFor_50 (by decide) rfl (fun e2x => ?_) (fun e2x => ?_)
      · refine rN_iinc (c := 1) (pq := 59) C dX11_decidedFor_56 rfl (by decide) (by decide) rfl rfl ?_
        dsimp only [List.set]
        refine r_goto (tg := 24) C dX11_decidedFor_59 (by decide) ?_
        have d2 : (dct s (t9 / 16) a9 b9 p9 y9 (cr s p9)) = 8 := (dci_8 v2).mp e2x
        refine GG.fgt 6 ?_
        dsimp only [List.set]
        refine r_iload (pq := 26) C dX11_decidedFor_24 rfl rfl ?_
        refine r_iconst (v := nI 3) (pq := 27) C dX11_decidedFor_26 (by decide) rfl ?_
        refine rN_icmp_ge (tg := 62) (pq := 30) C dX11_decidedFor_27 (by decide) rfl (by omega) (by omega) (fun c27 => ?_) (fun c27 => absurd c27 (by decide))
        refine r_bipush (v := (-2)) (pq := 64) C dX11_decidedFor_62 (by decide) rfl ?_
        refine r_iret C D rfl ⟨Nat.le_refl _, Nat.le_refl _⟩ dX11_decidedFor_64 ?_
        refine ⟨rfl, ?_⟩
        unfold dcd
        rw [if_neg c15, f11e, tn_nI (by omega), if_neg (fun h => h d0), if_neg (fun h => h d1), d2]
        rfl
      · refine r_iload (pq := 55) C dX11_decidedFor_53 rfl rfl ?_
        refine r_iret C D rfl ⟨Nat.le_refl _, Nat.le_refl _⟩ dX11_decidedFor_55 ?_
        refine ⟨rfl, ?_⟩
        have d2 : (dct s (t9 / 16) a9 b9 p9 y9 (cr s p9)) ≠ 8 := fun h => e2x ((dci_8 v2).mpr h)
        unfold dcd
        rw [if_neg c15, f11e, tn_nI (by omega), if_neg (fun h => h d0), if_neg (fun h => h d1)]
    · refine r_iload (pq := 55) C dX11_decidedFor_53 rfl rfl ?_
      refine r_iret C D rfl ⟨Nat.le_refl _, Nat.le_refl _⟩ dX11_decidedFor_55 ?_
      refine ⟨rfl, ?_⟩
      have d1 : (dct s (t9 / 4 % 4) a9 b9 p9 y9 (cr s p9)) ≠ 8 := fun h => e1x ((dci_8 v1).mpr h)
      unfold dcd
      rw [if_neg c15, f11e, tn_nI (by omega), if_neg (fun h => h d0), if_pos d1]
  · refine r_iload (pq := 55) C dX11_decidedFor_53 rfl rfl ?_
    refine r_iret C D rfl ⟨Nat.le_refl _, Nat.le_refl _⟩ dX11_decidedFor_55 ?_
    refine ⟨rfl, ?_⟩
    have d0 : (dct s (t9 % 4) a9 b9 p9 y9 (cr s p9)) ≠ 8 := fun h => e0x ((dci_8 v0).mpr h)
    unfold dcd
    rw [if_neg c15, f11e, tn_nI (by omega), if_pos d0]
  · refine r_bipush (v := (-2)) (pq := 20) C dX11_decidedFor_18 (by decide) rfl ?_
    refine r_iret C D rfl ⟨Nat.le_refl _, Nat.le_refl _⟩ dX11_decidedFor_20 ?_
    refine ⟨rfl, ?_⟩
    unfold dcd
    rw [if_pos c15]
    rfl


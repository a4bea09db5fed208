/-! ===== the class: small methods ===== -/
section CSM
variable {X : XX} {own : String} {cc : ByteArray} {Ts : List Cond} {d nL : Nat} {w : RW} {k n pc pq : Nat} {lv : List (Option Value)} {st : List Value}
/-- a local forgotten -/
theorem GG.fgt (i : Nat) (kk : GG X w k n pc (lv.set i none) st) : GG X w k n pc lv st := fun H locs ls h1 h2 h3 => kk H locs ls h1 h2 ⟨h3.1, h3.2.1, fun j v hj => h3.2.2 j v (by
  by_cases e : i = j
  · subst e
    by_cases hl : i < lv.length
    · rw [List.getElem?_set_self hl] at hj
      cases hj
    · rw [List.getElem?_eq_none (by simp; omega)] at hj
      cases hj
  · rwa [List.getElem?_set_ne e] at hj)⟩
theorem rN_aaldS (C : C0 X own cc Ts d nL) {r ad len i b : Nat} {f : Nat → Option Nat} {cA : ClassId} {ty : FieldType} (t : Nat) (ht : (eT (xE X))[t]? = some (cA, ty)) (hty : ty.isReference = true) (hr : w r = some (ad, .inl (cA, len, .inr (.inr (.inr (.inr f)))))) (hi : i < len) (hl : len < 2147483648) (hb : f i = some b) (hdg : decode cc pc = .ok (.aaload, 1)) (hp : pc + 1 = pq) (kk : GG X w k n pq lv (.ref b :: st)) : GG X w k n pc lv (.int (nI i) :: .ref ad :: st) := rN_aald C t ht hty hr hi hl hdg hp (by rw [hb]; exact kk)
theorem rN_aaldN (C : C0 X own cc Ts d nL) {r ad len i : Nat} {f : Nat → Option Nat} {cA : ClassId} {ty : FieldType} (t : Nat) (ht : (eT (xE X))[t]? = some (cA, ty)) (hty : ty.isReference = true) (hr : w r = some (ad, .inl (cA, len, .inr (.inr (.inr (.inr f)))))) (hi : i < len) (hl : len < 2147483648) (hb : f i = none) (hdg : decode cc pc = .ok (.aaload, 1)) (hp : pc + 1 = pq) (kk : GG X w k n pq lv (.null :: st)) : GG X w k n pc lv (.int (nI i) :: .ref ad :: st) := rN_aald C t ht hty hr hi hl hdg hp (by rw [hb]; exact kk)
theorem rN_aast (C : C0 X own cc Ts d nL) {r a len v i : Nat} {f : Nat → Option Nat} {cA : ClassId} {En : String} (t : Nat) (ht : (eT (xE X))[t]? = some (cA, .object En)) (hr : w r = some (a, .inl (cA, len, .inr (.inr (.inr (.inr f)))))) (hv : ∀ H : Heap, hR (xE X) w H → va_Any En (xs X) H v) (hi : i < len) (hl : len < 2147483648) (hdg : decode cc pc = .ok (.aastore, 1)) (hp : pc + 1 = pq) (kk : GG X (va_up w r (some (a, .inl (cA, len, .inr (.inr (.inr (.inr (va_up f i (some v))))))))) k n pq lv st) : GG X w k n pc lv (.ref v :: .int (nI i) :: .ref a :: st) := r_aast C t ht hr hv (vp_in_nI hi hl) hdg hp (by rw [nI_clamp (by omega)]; exact kk)
theorem rN_aastN (C : C0 X own cc Ts d nL) {r a len i : Nat} {f : Nat → Option Nat} {cA : ClassId} {En : String} (t : Nat) (ht : (eT (xE X))[t]? = some (cA, .object En)) (hr : w r = some (a, .inl (cA, len, .inr (.inr (.inr (.inr f)))))) (hi : i < len) (hl : len < 2147483648) (hdg : decode cc pc = .ok (.aastore, 1)) (hp : pc + 1 = pq) (kk : GG X (va_up w r (some (a, .inl (cA, len, .inr (.inr (.inr (.inr (va_up f i none)))))))) k n pq lv st) : GG X w k n pc lv (.null :: .int (nI i) :: .ref a :: st) := r_aastN C t ht hr (vp_in_nI hi hl) hdg hp (by rw [nI_clamp (by omega)]; exact kk)
end CSM

set_option maxHeartbeats 4000000 in
set_option maxRecDepth 100000 in
/-- isLand -/
theorem mc_X11_isLand {l : Launch} {E : EV} {x : Int32} {w : RW} : MC l E yX11_isLand wsX11_isLand 0 0 0 [.int x] (w) (fun v w' => w' = w ∧ v = some (.int (nI (b2 (rg x 8))))) := by
  refine MC.enter (cc := cX11_isLand) (maxL := 1) (ret := (some .boolean)) (lv0 := [some (.int x)]) (by decide) rfl (by simp [Value.category]) (Nat.le_of_ble_eq_true rfl) rfl ?_
  intro X hl hE C D
  subst hl
  subst hE
  refine r_iload_n (pq := 1) C dX11_isLand_0 rfl rfl ?_
  refine r_if_lt (tg := 14) (pq := 4) C dX11_isLand_1 (by decide) rfl (fun c1 => ?_) (fun c1 => ?_)
  · refine r_iconst (v := nI 0) (pq := 15) C dX11_isLand_14 (by decide) rfl ?_
    refine r_zret C D rfl (by decide) ⟨Nat.le_refl _, Nat.le_refl _⟩ dX11_isLand_15 ?_
    refine ⟨rfl, ?_⟩
    simp only [le_i, lt_i] at *
    have t0 : (0 : Int32).toInt = 0 := rfl
    have t8 : (nI 8).toInt = 8 := nI_toInt (by omega)
    first | rw [b2_t (by unfold rg; omega)] | rw [b2_f (by unfold rg; omega)]
  · refine r_iload_n (pq := 5) C dX11_isLand_4 rfl rfl ?_
    refine r_bipush (v := nI 8) (pq := 7) C dX11_isLand_5 (by decide) rfl ?_
    refine r_icmp_ge (tg := 14) (pq := 10) C dX11_isLand_7 (by decide) rfl (fun c7 => ?_) (fun c7 => ?_)
    · refine r_iconst (v := nI 0) (pq := 15) C dX11_isLand_14 (by decide) rfl ?_
      refine r_zret C D rfl (by decide) ⟨Nat.le_refl _, Nat.le_refl _⟩ dX11_isLand_15 ?_
      refine ⟨rfl, ?_⟩
      simp only [le_i, lt_i] at *
      have t0 : (0 : Int32).toInt = 0 := rfl
      have t8 : (nI 8).toInt = 8 := nI_toInt (by omega)
      first | rw [b2_t (by unfold rg; omega)] | rw [b2_f (by unfold rg; omega)]
    · refine r_iconst (v := nI 1) (pq := 11) C dX11_isLand_10 (by decide) rfl ?_
      refine r_goto (tg := 15) C dX11_isLand_11 (by decide) ?_
      refine r_zret C D rfl (by decide) ⟨Nat.le_refl _, Nat.le_refl _⟩ dX11_isLand_15 ?_
      refine ⟨rfl, ?_⟩
      simp only [le_i, lt_i] at *
      have t0 : (0 : Int32).toInt = 0 := rfl
      have t8 : (nI 8).toInt = 8 := nI_toInt (by omega)
      first | rw [b2_t (by unfold rg; omega)] | rw [b2_f (by unfold rg; omega)]

set_option maxHeartbeats 4000000 in
set_option maxRecDepth 100000 in
/-- isDay -/
theorem mc_X11_isDay {l : Launch} {E : EV} {x : Int32} {w : RW} : MC l E yX11_isDay wsX11_isDay 0 0 0 [.int x] (w) (fun v w' => w' = w ∧ v = some (.int (nI (b2 (rg x 400))))) := by
  refine MC.enter (cc := cX11_isDay) (maxL := 1) (ret := (some .boolean)) (lv0 := [some (.int x)]) (by decide) rfl (by simp [Value.category]) (Nat.le_of_ble_eq_true rfl) rfl ?_
  intro X hl hE C D
  subst hl
  subst hE
  refine r_iload_n (pq := 1) C dX11_isDay_0 rfl rfl ?_
  refine r_if_lt (tg := 15) (pq := 4) C dX11_isDay_1 (by decide) rfl (fun c1 => ?_) (fun c1 => ?_)
  · refine r_iconst (v := nI 0) (pq := 16) C dX11_isDay_15 (by decide) rfl ?_
    refine r_zret C D rfl (by decide) ⟨Nat.le_refl _, Nat.le_refl _⟩ dX11_isDay_16 ?_
    refine ⟨rfl, ?_⟩
    simp only [le_i, lt_i] at *
    have t0 : (0 : Int32).toInt = 0 := rfl
    have t8 : (nI 400).toInt = 400 := nI_toInt (by omega)
    first | rw [b2_t (by unfold rg; omega)] | rw [b2_f (by unfold rg; omega)]
  · refine r_iload_n (pq := 5) C dX11_isDay_4 rfl rfl ?_
    refine r_sipush (v := nI 400) (pq := 8) C dX11_isDay_5 (by decide) rfl ?_
    refine r_icmp_ge (tg := 15) (pq := 11) C dX11_isDay_8 (by decide) rfl (fun c8 => ?_) (fun c8 => ?_)
    · refine r_iconst (v := nI 0) (pq := 16) C dX11_isDay_15 (by decide) rfl ?_
      refine r_zret C D rfl (by decide) ⟨Nat.le_refl _, Nat.le_refl _⟩ dX11_isDay_16 ?_
      refine ⟨rfl, ?_⟩
      simp only [le_i, lt_i] at *
      have t0 : (0 : Int32).toInt = 0 := rfl
      have t8 : (nI 400).toInt = 400 := nI_toInt (by omega)
      first | rw [b2_t (by unfold rg; omega)] | rw [b2_f (by unfold rg; omega)]
    · refine r_iconst (v := nI 1) (pq := 12) C dX11_isDay_11 (by decide) rfl ?_
      refine r_goto (tg := 16) C dX11_isDay_12 (by decide) ?_
      refine r_zret C D rfl (by decide) ⟨Nat.le_refl _, Nat.le_refl _⟩ dX11_isDay_16 ?_
      refine ⟨rfl, ?_⟩
      simp only [le_i, lt_i] at *
      have t0 : (0 : Int32).toInt = 0 := rfl
      have t8 : (nI 400).toInt = 400 := nI_toInt (by omega)
      first | rw [b2_t (by unfold rg; omega)] | rw [b2_f (by unfold rg; omega)]

set_option maxHeartbeats 4000000 in
set_option maxRecDepth 100000 in
/-- isYear -/
theorem mc_X11_isYear {l : Launch} {E : EV} {x : Int32} {w : RW} : MC l E yX11_isYear wsX11_isYear 0 0 0 [.int x] (w) (fun v w' => w' = w ∧ v = some (.int (nI (b2 (rg x 4))))) := by
  refine MC.enter (cc := cX11_isYear) (maxL := 1) (ret := (some .boolean)) (lv0 := [some (.int x)]) (by decide) rfl (by simp [Value.category]) (Nat.le_of_ble_eq_true rfl) rfl ?_
  intro X hl hE C D
  subst hl
  subst hE
  refine r_iload_n (pq := 1) C dX11_isYear_0 rfl rfl ?_
  refine r_if_lt (tg := 13) (pq := 4) C dX11_isYear_1 (by decide) rfl (fun c1 => ?_) (fun c1 => ?_)
  · refine r_iconst (v := nI 0) (pq := 14) C dX11_isYear_13 (by decide) rfl ?_
    refine r_zret C D rfl (by decide) ⟨Nat.le_refl _, Nat.le_refl _⟩ dX11_isYear_14 ?_
    refine ⟨rfl, ?_⟩
    simp only [le_i, lt_i] at *
    have t0 : (0 : Int32).toInt = 0 := rfl
    have t8 : (nI 4).toInt = 4 := nI_toInt (by omega)
    first | rw [b2_t (by unfold rg; omega)] | rw [b2_f (by unfold rg; omega)]
  · refine r_iload_n (pq := 5) C dX11_isYear_4 rfl rfl ?_
    refine r_iconst (v := nI 4) (pq := 6) C dX11_isYear_5 (by decide) rfl ?_
    refine r_icmp_ge (tg := 13) (pq := 9) C dX11_isYear_6 (by decide) rfl (fun c6 => ?_) (fun c6 => ?_)
    · refine r_iconst (v := nI 0) (pq := 14) C dX11_isYear_13 (by decide) rfl ?_
      refine r_zret C D rfl (by decide) ⟨Nat.le_refl _, Nat.le_refl _⟩ dX11_isYear_14 ?_
      refine ⟨rfl, ?_⟩
      simp only [le_i, lt_i] at *
      have t0 : (0 : Int32).toInt = 0 := rfl
      have t8 : (nI 4).toInt = 4 := nI_toInt (by omega)
      first | rw [b2_t (by unfold rg; omega)] | rw [b2_f (by unfold rg; omega)]
    · refine r_iconst (v := nI 1) (pq := 10) C dX11_isYear_9 (by decide) rfl ?_
      refine r_goto (tg := 14) C dX11_isYear_10 (by decide) ?_
      refine r_zret C D rfl (by decide) ⟨Nat.le_refl _, Nat.le_refl _⟩ dX11_isYear_14 ?_
      refine ⟨rfl, ?_⟩
      simp only [le_i, lt_i] at *
      have t0 : (0 : Int32).toInt = 0 := rfl
      have t8 : (nI 4).toInt = 4 := nI_toInt (by omega)
      first | rw [b2_t (by unfold rg; omega)] | rw [b2_f (by unfold rg; omega)]

set_option maxHeartbeats 4000000 in
set_option maxRecDepth 100000 in
/-- isShelf -/
theorem mc_X11_isShelf {l : Launch} {E : EV} {x : Int32} {w : RW} : MC l E yX11_isShelf wsX11_isShelf 0 0 0 [.int x] (w) (fun v w' => w' = w ∧ v = some (.int (nI (b2 (rg x 8))))) := by
  refine MC.enter (cc := cX11_isShelf) (maxL := 1) (ret := (some .boolean)) (lv0 := [some (.int x)]) (by decide) rfl (by simp [Value.category]) (Nat.le_of_ble_eq_true rfl) rfl ?_
  intro X hl hE C D
  subst hl
  subst hE
  refine r_iload_n (pq := 1) C dX11_isShelf_0 rfl rfl ?_
  refine r_if_lt (tg := 14) (pq := 4) C dX11_isShelf_1 (by decide) rfl (fun c1 => ?_) (fun c1 => ?_)
  · refine r_iconst (v := nI 0) (pq := 15) C dX11_isShelf_14 (by decide) rfl ?_
    refine r_zret C D rfl (by decide) ⟨Nat.le_refl _, Nat.le_refl _⟩ dX11_isShelf_15 ?_
    refine ⟨rfl, ?_⟩
    simp only [le_i, lt_i] at *
    have t0 : (0 : Int32).toInt = 0 := rfl
    have t8 : (nI 8).toInt = 8 := nI_toInt (by omega)
    first | rw [b2_t (by unfold rg; omega)] | rw [b2_f (by unfold rg; omega)]
  · refine r_iload_n (pq := 5) C dX11_isShelf_4 rfl rfl ?_
    refine r_bipush (v := nI 8) (pq := 7) C dX11_isShelf_5 (by decide) rfl ?_
    refine r_icmp_ge (tg := 14) (pq := 10) C dX11_isShelf_7 (by decide) rfl (fun c7 => ?_) (fun c7 => ?_)
    · refine r_iconst (v := nI 0) (pq := 15) C dX11_isShelf_14 (by decide) rfl ?_
      refine r_zret C D rfl (by decide) ⟨Nat.le_refl _, Nat.le_refl _⟩ dX11_isShelf_15 ?_
      refine ⟨rfl, ?_⟩
      simp only [le_i, lt_i] at *
      have t0 : (0 : Int32).toInt = 0 := rfl
      have t8 : (nI 8).toInt = 8 := nI_toInt (by omega)
      first | rw [b2_t (by unfold rg; omega)] | rw [b2_f (by unfold rg; omega)]
    · refine r_iconst (v := nI 1) (pq := 11) C dX11_isShelf_10 (by decide) rfl ?_
      refine r_goto (tg := 15) C dX11_isShelf_11 (by decide) ?_
      refine r_zret C D rfl (by decide) ⟨Nat.le_refl _, Nat.le_refl _⟩ dX11_isShelf_15 ?_
      refine ⟨rfl, ?_⟩
      simp only [le_i, lt_i] at *
      have t0 : (0 : Int32).toInt = 0 := rfl
      have t8 : (nI 8).toInt = 8 := nI_toInt (by omega)
      first | rw [b2_t (by unfold rg; omega)] | rw [b2_f (by unfold rg; omega)]

set_option maxHeartbeats 4000000 in
set_option maxRecDepth 100000 in
/-- areDays -/
theorem mc_X11_areDays {l : Launch} {E : EV} {x y : Int32} {w : RW} : MC l E yX11_areDays wsX11_areDays 1 0 0 [.int x, .int y] (w) (fun v w' => w' = w ∧ v = some (.int (nI (b2 (okDays x y))))) := by
  refine MC.enter (cc := cX11_areDays) (maxL := 2) (ret := (some .boolean)) (lv0 := [some (.int x), some (.int y)]) (by decide) rfl (by simp [Value.category]) (Nat.le_of_ble_eq_true rfl) rfl ?_
  intro X hl hE C D
  subst hl
  subst hE
  refine r_iload_n (pq := 1) C dX11_areDays_0 rfl rfl ?_
  refine r_callS (pq := 4) C (mc_X11_isDay) gX11_areDays_X11_isDay rfl (na := 1) (by decide +kernel) rfl (by decide) (by decide) (Nat.le_of_ble_eq_true rfl) ⟨Nat.zero_le _, Nat.zero_le _⟩ dX11_areDays_1 rfl rfl (fun r9 w9 hq => ?_)
  obtain ⟨rfl, rfl⟩ := hq
  dsimp only [Option.toList, List.cons_append, List.nil_append]
  have l1 := b2_lt (rg x 400)
  refine rN_if_eq (tg := 23) (pq := 7) C dX11_areDays_4 (by decide) rfl (by omega) (fun c4 => ?_) (fun c4 => ?_)
  · refine r_iconst (v := nI 0) (pq := 24) C dX11_areDays_23 (by decide) rfl ?_
    refine r_zret C D rfl (by decide) ⟨Nat.le_refl _, Nat.le_refl _⟩ dX11_areDays_24 ?_
    refine ⟨rfl, ?_⟩
    rw [b2_f (fun h => b2_0.mp c4 h.1)]
  · refine r_iload_n (pq := 8) C dX11_areDays_7 rfl rfl ?_
    refine r_callS (pq := 11) C (mc_X11_isDay) gX11_areDays_X11_isDay rfl (na := 1) (by decide +kernel) rfl (by decide) (by decide) (Nat.le_of_ble_eq_true rfl) ⟨Nat.zero_le _, Nat.zero_le _⟩ dX11_areDays_8 rfl rfl (fun r9 w9 hq => ?_)
    obtain ⟨rfl, rfl⟩ := hq
    dsimp only [Option.toList, List.cons_append, List.nil_append]
    have l8 := b2_lt (rg y 400)
    refine rN_if_eq (tg := 23) (pq := 14) C dX11_areDays_11 (by decide) rfl (by omega) (fun c11 => ?_) (fun c11 => ?_)
    · refine r_iconst (v := nI 0) (pq := 24) C dX11_areDays_23 (by decide) rfl ?_
      refine r_zret C D rfl (by decide) ⟨Nat.le_refl _, Nat.le_refl _⟩ dX11_areDays_24 ?_
      refine ⟨rfl, ?_⟩
      rw [b2_f (fun h => b2_0.mp c11 h.2.1)]
    · refine r_iload_n (pq := 15) C dX11_areDays_14 rfl rfl ?_
      refine r_iload_n (pq := 16) C dX11_areDays_15 rfl rfl ?_
      refine r_icmp_gt (tg := 23) (pq := 19) C dX11_areDays_16 (by decide) rfl (fun c16 => ?_) (fun c16 => ?_)
      · refine r_iconst (v := nI 0) (pq := 24) C dX11_areDays_23 (by decide) rfl ?_
        refine r_zret C D rfl (by decide) ⟨Nat.le_refl _, Nat.le_refl _⟩ dX11_areDays_24 ?_
        refine ⟨rfl, ?_⟩
        rw [lt_i] at c16
        rw [b2_f (fun h => by have := h.2.2; omega)]
      · refine r_iconst (v := nI 1) (pq := 20) C dX11_areDays_19 (by decide) rfl ?_
        refine r_goto (tg := 24) C dX11_areDays_20 (by decide) ?_
        refine r_zret C D rfl (by decide) ⟨Nat.le_refl _, Nat.le_refl _⟩ dX11_areDays_24 ?_
        refine ⟨rfl, ?_⟩
        rw [lt_i] at c16
        have h9 : okDays x y := ⟨b2_1.mp c4, b2_1.mp c11, by omega⟩
        rw [b2_t h9]

set_option maxHeartbeats 4000000 in
set_option maxRecDepth 100000 in
/-- isPerson -/
theorem mc_X11_isPerson {l : Launch} {E : EV} {x : Int32} {w : RW} {B : Nat → Nat} {s : ST} (hP : s.1 1 ≤ 6) (o0 : w 0 = some (B 0, .inr (12, nFs B s))) : MC l E yX11_isPerson wsX11_isPerson 0 0 0 [.ref (B 0), .int x] (w) (fun v w' => w' = w ∧ v = some (.int (nI (b2 (rg x (s.1 1)))))) := by
  refine MC.enter (cc := cX11_isPerson) (maxL := 2) (ret := (some .boolean)) (lv0 := [some (.ref (B 0)), some (.int x)]) (by decide) rfl (by simp [Value.category]) (Nat.le_of_ble_eq_true rfl) rfl ?_
  intro X hl hE C D
  subst hl
  subst hE
  refine r_iload_n (pq := 1) C dX11_isPerson_0 rfl rfl ?_
  refine r_if_lt (tg := 16) (pq := 4) C dX11_isPerson_1 (by decide) rfl (fun c1 => ?_) (fun c1 => ?_)
  · refine r_iconst (v := nI 0) (pq := 17) C dX11_isPerson_16 (by decide) rfl ?_
    refine r_zret C D rfl (by decide) ⟨Nat.le_refl _, Nat.le_refl _⟩ dX11_isPerson_17 ?_
    refine ⟨rfl, ?_⟩
    simp only [le_i, lt_i] at *
    have t0 : (0 : Int32).toInt = 0 := rfl
    have t8 : (nI (s.1 1)).toInt = (s.1 1) := nI_toInt (by omega)
    first | rw [b2_t (by unfold rg; omega)] | rw [b2_f (by unfold rg; omega)]
  · refine r_iload_n (pq := 5) C dX11_isPerson_4 rfl rfl ?_
    refine r_aload_n (pq := 6) C dX11_isPerson_5 rfl rfl ?_
    refine r_getf (pq := 9) C 3 o0 rfl (by decide) (by decide +kernel) (Or.inl rfl) rfl dX11_isPerson_6 rfl ?_
    refine r_icmp_ge (tg := 16) (pq := 12) C dX11_isPerson_9 (by decide) rfl (fun c9 => ?_) (fun c9 => ?_)
    · refine r_iconst (v := nI 0) (pq := 17) C dX11_isPerson_16 (by decide) rfl ?_
      refine r_zret C D rfl (by decide) ⟨Nat.le_refl _, Nat.le_refl _⟩ dX11_isPerson_17 ?_
      refine ⟨rfl, ?_⟩
      simp only [le_i, lt_i] at *
      have t0 : (0 : Int32).toInt = 0 := rfl
      have t8 : (nI (s.1 1)).toInt = (s.1 1) := nI_toInt (by omega)
      first | rw [b2_t (by unfold rg; omega)] | rw [b2_f (by unfold rg; omega)]
    · refine r_iconst (v := nI 1) (pq := 13) C dX11_isPerson_12 (by decide) rfl ?_
      refine r_goto (tg := 17) C dX11_isPerson_13 (by decide) ?_
      refine r_zret C D rfl (by decide) ⟨Nat.le_refl _, Nat.le_refl _⟩ dX11_isPerson_17 ?_
      refine ⟨rfl, ?_⟩
      simp only [le_i, lt_i] at *
      have t0 : (0 : Int32).toInt = 0 := rfl
      have t8 : (nI (s.1 1)).toInt = (s.1 1) := nI_toInt (by omega)
      first | rw [b2_t (by unfold rg; omega)] | rw [b2_f (by unfold rg; omega)]

set_option maxHeartbeats 4000000 in
set_option maxRecDepth 100000 in
/-- markAt -/
theorem mc_X11_markAt {l : Launch} {E : EV} {x : Int32} {w : RW} {B : Nat → Nat} {s : ST} (hP : s.1 5 ≤ 80) (o0 : w 0 = some (B 0, .inr (12, nFs B s))) {c6 : Nat → Option Nat} (e6 : w 6 = qA E 4 (B 6) 80 c6) (f6 : ∀ m, m < s.1 5 → c6 m = some (B (100 + m))) : MC l E yX11_markAt wsX11_markAt 0 0 0 [.ref (B 0), .int x] (w) (fun v w' => w' = w ∧ v = some (if rg x (s.1 5) then .ref (B (100 + tn x)) else .null)) := by
  refine MC.enter (cc := cX11_markAt) (maxL := 2) (ret := (some (.object "NightBook$Span"))) (lv0 := [some (.ref (B 0)), some (.int x)]) (by decide) rfl (by simp [Value.category]) (Nat.le_of_ble_eq_true rfl) rfl ?_
  intro X hl hE C D
  subst hl
  subst hE
  by_cases hok : rg x (s.1 5)
  · obtain ⟨m, hm, rfl⟩ := rg_of hok (by omega)
    refine r_iload_n (pq := 1) C dX11_markAt_0 rfl rfl ?_
    refine rN_if_lt (tg := 21) (pq := 4) C dX11_markAt_1 (by decide) rfl (by omega) ?_
    refine r_iload_n (pq := 5) C dX11_markAt_4 rfl rfl ?_
    refine r_aload_n (pq := 6) C dX11_markAt_5 rfl rfl ?_
    refine r_getf (pq := 9) C 6 o0 rfl (by decide) (by decide +kernel) (Or.inl rfl) rfl dX11_markAt_6 rfl ?_
    refine rN_icmp_ge (tg := 21) (pq := 12) C dX11_markAt_9 (by decide) rfl (by omega) (by omega) (fun c9 => absurd c9 (by omega)) (fun c9 => ?_)
    refine r_aload_n (pq := 13) C dX11_markAt_12 rfl rfl ?_
    refine r_getf (pq := 16) C 5 o0 rfl (by decide) (by decide +kernel) (Or.inl rfl) rfl dX11_markAt_13 rfl ?_
    refine r_iload_n (pq := 17) C dX11_markAt_16 rfl rfl ?_
    refine rN_aaldS (pq := 18) C 4 rfl rfl e6 (by omega) (by decide) (f6 m (by omega)) dX11_markAt_17 rfl ?_
    refine r_goto (tg := 22) C dX11_markAt_18 (by decide) ?_
    refine r_aret C D rfl (Or.inr ⟨_, rfl⟩) ⟨Nat.le_refl _, Nat.le_refl _⟩ dX11_markAt_22 ?_
    exact ⟨rfl, by rw [if_pos hok, tn_nI (by omega)]⟩
  · skip
    refine r_iload_n (pq := 1) C dX11_markAt_0 rfl rfl ?_
    refine r_if_lt (tg := 21) (pq := 4) C dX11_markAt_1 (by decide) rfl (fun c1 => ?_) (fun c1 => ?_)
    · refine r_aconst_null (pq := 22) C dX11_markAt_21 rfl ?_
      refine r_aret C D rfl (Or.inl rfl) ⟨Nat.le_refl _, Nat.le_refl _⟩ dX11_markAt_22 ?_
      exact ⟨rfl, by rw [if_neg hok]⟩
    · refine r_iload_n (pq := 5) C dX11_markAt_4 rfl rfl ?_
      refine r_aload_n (pq := 6) C dX11_markAt_5 rfl rfl ?_
      refine r_getf (pq := 9) C 6 o0 rfl (by decide) (by decide +kernel) (Or.inl rfl) rfl dX11_markAt_6 rfl ?_
      refine r_icmp_ge (tg := 21) (pq := 12) C dX11_markAt_9 (by decide) rfl (fun c9 => ?_) (fun c9 => ?_)
      · refine r_aconst_null (pq := 22) C dX11_markAt_21 rfl ?_
        refine r_aret C D rfl (Or.inl rfl) ⟨Nat.le_refl _, Nat.le_refl _⟩ dX11_markAt_22 ?_
        exact ⟨rfl, by rw [if_neg hok]⟩
      · exfalso
        simp only [le_i, lt_i] at *
        have t0 : (0 : Int32).toInt = 0 := rfl
        have t8 : (nI (s.1 5)).toInt = s.1 5 := nI_toInt (by omega)
        exact hok ⟨by omega, by omega⟩

set_option maxHeartbeats 4000000 in
set_option maxRecDepth 100000 in
/-- lawAt -/
theorem mc_X11_lawAt {l : Launch} {E : EV} {x : Int32} {w : RW} {B : Nat → Nat} {s : ST} (hP : s.1 16 ≤ 12) (o0 : w 0 = some (B 0, .inr (12, nFs B s))) {c8 : Nat → Option Nat} (e8 : w 8 = qA E 5 (B 8) 12 c8) (f8 : ∀ m, m < s.1 16 → c8 m = some (B (200 + m))) : MC l E yX11_lawAt wsX11_lawAt 0 0 0 [.ref (B 0), .int x] (w) (fun v w' => w' = w ∧ v = some (if rg x (s.1 16) then .ref (B (200 + tn x)) else .null)) := by
  refine MC.enter (cc := cX11_lawAt) (maxL := 2) (ret := (some (.object "NightBook$Window"))) (lv0 := [some (.ref (B 0)), some (.int x)]) (by decide) rfl (by simp [Value.category]) (Nat.le_of_ble_eq_true rfl) rfl ?_
  intro X hl hE C D
  subst hl
  subst hE
  by_cases hok : rg x (s.1 16)
  · obtain ⟨m, hm, rfl⟩ := rg_of hok (by omega)
    refine r_iload_n (pq := 1) C dX11_lawAt_0 rfl rfl ?_
    refine rN_if_lt (tg := 21) (pq := 4) C dX11_lawAt_1 (by decide) rfl (by omega) ?_
    refine r_iload_n (pq := 5) C dX11_lawAt_4 rfl rfl ?_
    refine r_aload_n (pq := 6) C dX11_lawAt_5 rfl rfl ?_
    refine r_getf (pq := 9) C 8 o0 rfl (by decide) (by decide +kernel) (Or.inl rfl) rfl dX11_lawAt_6 rfl ?_
    refine rN_icmp_ge (tg := 21) (pq := 12) C dX11_lawAt_9 (by decide) rfl (by omega) (by omega) (fun c9 => absurd c9 (by omega)) (fun c9 => ?_)
    refine r_aload_n (pq := 13) C dX11_lawAt_12 rfl rfl ?_
    refine r_getf (pq := 16) C 7 o0 rfl (by decide) (by decide +kernel) (Or.inl rfl) rfl dX11_lawAt_13 rfl ?_
    refine r_iload_n (pq := 17) C dX11_lawAt_16 rfl rfl ?_
    refine rN_aaldS (pq := 18) C 5 rfl rfl e8 (by omega) (by decide) (f8 m (by omega)) dX11_lawAt_17 rfl ?_
    refine r_goto (tg := 22) C dX11_lawAt_18 (by decide) ?_
    refine r_aret C D rfl (Or.inr ⟨_, rfl⟩) ⟨Nat.le_refl _, Nat.le_refl _⟩ dX11_lawAt_22 ?_
    exact ⟨rfl, by rw [if_pos hok, tn_nI (by omega)]⟩
  · skip
    refine r_iload_n (pq := 1) C dX11_lawAt_0 rfl rfl ?_
    refine r_if_lt (tg := 21) (pq := 4) C dX11_lawAt_1 (by decide) rfl (fun c1 => ?_) (fun c1 => ?_)
    · refine r_aconst_null (pq := 22) C dX11_lawAt_21 rfl ?_
      refine r_aret C D rfl (Or.inl rfl) ⟨Nat.le_refl _, Nat.le_refl _⟩ dX11_lawAt_22 ?_
      exact ⟨rfl, by rw [if_neg hok]⟩
    · refine r_iload_n (pq := 5) C dX11_lawAt_4 rfl rfl ?_
      refine r_aload_n (pq := 6) C dX11_lawAt_5 rfl rfl ?_
      refine r_getf (pq := 9) C 8 o0 rfl (by decide) (by decide +kernel) (Or.inl rfl) rfl dX11_lawAt_6 rfl ?_
      refine r_icmp_ge (tg := 21) (pq := 12) C dX11_lawAt_9 (by decide) rfl (fun c9 => ?_) (fun c9 => ?_)
      · refine r_aconst_null (pq := 22) C dX11_lawAt_21 rfl ?_
        refine r_aret C D rfl (Or.inl rfl) ⟨Nat.le_refl _, Nat.le_refl _⟩ dX11_lawAt_22 ?_
        exact ⟨rfl, by rw [if_neg hok]⟩
      · exfalso
        simp only [le_i, lt_i] at *
        have t0 : (0 : Int32).toInt = 0 := rfl
        have t8 : (nI (s.1 16)).toInt = s.1 16 := nI_toInt (by omega)
        exact hok ⟨by omega, by omega⟩


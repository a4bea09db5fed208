/-! ===== the class's calls: decides, taxed, quarrels, count ===== -/
set_option maxHeartbeats 4000000 in
set_option maxRecDepth 100000 in
/-- decides -/
theorem mc_X11_decides {l : Launch} {E : EV} {w : RW} {B : Nat → Nat} {s : ST} (hS : SI s) (hN : NS E B s w) {x y z v : Int32} : MC l E yX11_decides wsX11_decides 3 0 0 [.ref (B 0), .int x, .int y, .int z, .int v] (w) (nP E B w (rs_decides s x y z v) (s)) := by
  refine MC.enter (cc := cX11_decides) (maxL := 5) (ret := (some .int)) (lv0 := [some (.ref (B 0)), some (.int x), some (.int y), some (.int z), some (.int v)]) (by decide) rfl (by simp [Value.category]) (Nat.le_of_ble_eq_true rfl) rfl ?_
  intro X hl hE C D
  subst hl
  subst hE
  have hI1 : s.1 1 ≤ 6 := hS.2.1
  have hI5 : s.1 5 ≤ 80 := hS.2.2.1
  have hI16 : s.1 16 ≤ 12 := hS.2.2.2.1
  have hNN := hN
  obtain ⟨o0, ⟨u1, e1, f1⟩, ⟨u2, e2, f2⟩, ⟨u3, e3, f3⟩, ⟨u5, e5, f5⟩, ⟨u6, e6, f6⟩, ⟨u8, e8, f8⟩, ⟨u10, e10, f10⟩, ⟨u11, e11, f11⟩, ⟨u13, e13, f13⟩, ⟨u14, e14, f14⟩, ⟨u15, e15⟩, ⟨u16, e16⟩, h20, h30, h100, h200, h220, h240, h300, h310⟩ := hNN
  by_cases hok : okDecides s x y z v
  · obtain ⟨a, ha, rfl⟩ := rg_of hok.1 (by omega)
    obtain ⟨b, hb, rfl⟩ := rg_of hok.2.1 (by omega)
    obtain ⟨p, hp, rfl⟩ := rg_of hok.2.2.2.1 (by omega)
    obtain ⟨y9, hy9, rfl⟩ := rg_of hok.2.2.2.2 (by omega)
    have hab : a ≠ b := fun e => hok.2.2.1 (by rw [e])
    have hdl := dcd_le (s := s) (p := p) (y := y9) (c := cr s p) ha hb
    refine r_iload_n (pq := 1) C dX11_decides_0 rfl rfl ?_
    refine r_callS (pq := 4) C (mc_X11_isLand) gX11_decides_X11_isLand rfl (na := 1) (by decide +kernel) rfl (by decide) (by decide) (Nat.le_of_ble_eq_true rfl) ⟨Nat.zero_le _, Nat.zero_le _⟩ dX11_decides_1 rfl rfl (fun r9 w hq => ?_)
    obtain ⟨rfl, rfl⟩ := hq
    dsimp only [Option.toList, List.cons_append, List.nil_append]
    have l1 := b2_lt (rg (nI a) 8)
    refine rN_if_eq (tg := 35) (pq := 7) C dX11_decides_4 (by decide) rfl (by omega) (fun c4 => absurd c4 (b2_1.mpr (hok.1))) (fun c4 => ?_)
    refine r_iload_n (pq := 8) C dX11_decides_7 rfl rfl ?_
    refine r_callS (pq := 11) C (mc_X11_isLand) gX11_decides_X11_isLand rfl (na := 1) (by decide +kernel) rfl (by decide) (by decide) (Nat.le_of_ble_eq_true rfl) ⟨Nat.zero_le _, Nat.zero_le _⟩ dX11_decides_8 rfl rfl (fun r9 w hq => ?_)
    obtain ⟨rfl, rfl⟩ := hq
    dsimp only [Option.toList, List.cons_append, List.nil_append]
    have l8 := b2_lt (rg (nI b) 8)
    refine rN_if_eq (tg := 35) (pq := 14) C dX11_decides_11 (by decide) rfl (by omega) (fun c11 => absurd c11 (b2_1.mpr (hok.2.1))) (fun c11 => ?_)
    refine r_iload_n (pq := 15) C dX11_decides_14 rfl rfl ?_
    refine r_iload_n (pq := 16) C dX11_decides_15 rfl rfl ?_
    refine rN_icmp_eq (tg := 35) (pq := 19) C dX11_decides_16 (by decide) rfl (by omega) (by omega) (fun c16 => absurd c16 hab) (fun c16 => ?_)
    refine r_aload_n (pq := 20) C dX11_decides_19 rfl rfl ?_
    refine r_iload_n (pq := 21) C dX11_decides_20 rfl rfl ?_
    refine r_callV (pq := 24) C (mc_X11_isPerson hI1 o0) o0 rfl gX11_decides_X11_isPerson rfl (na := 1) (by decide +kernel) rfl (by decide) (by decide) (Nat.le_of_ble_eq_true rfl) ⟨Nat.zero_le _, Nat.zero_le _⟩ dX11_decides_21 rfl rfl (fun r9 w hq => ?_)
    obtain ⟨rfl, rfl⟩ := hq
    dsimp only [Option.toList, List.cons_append, List.nil_append]
    have l21 := b2_lt (rg (nI p) (s.1 1))
    refine rN_if_eq (tg := 35) (pq := 27) C dX11_decides_24 (by decide) rfl (by omega) (fun c24 => absurd c24 (b2_1.mpr (hok.2.2.2.1))) (fun c24 => ?_)
    refine r_iload (pq := 29) C dX11_decides_27 rfl rfl ?_
    refine r_callS (pq := 32) C (mc_X11_isYear) gX11_decides_X11_isYear rfl (na := 1) (by decide +kernel) rfl (by decide) (by decide) (Nat.le_of_ble_eq_true rfl) ⟨Nat.zero_le _, Nat.zero_le _⟩ dX11_decides_29 rfl rfl (fun r9 w hq => ?_)
    obtain ⟨rfl, rfl⟩ := hq
    dsimp only [Option.toList, List.cons_append, List.nil_append]
    have l29 := b2_lt (rg (nI y9) 4)
    refine rN_if_ne (tg := 37) (pq := 35) C dX11_decides_32 (by decide) rfl (by omega) (fun c32 => ?_) (fun c32 => absurd c32 (b2_1.mpr (hok.2.2.2.2)))
    refine r_aload_n (pq := 38) C dX11_decides_37 rfl rfl ?_
    refine r_iload_n (pq := 39) C dX11_decides_38 rfl rfl ?_
    refine r_iload_n (pq := 40) C dX11_decides_39 rfl rfl ?_
    refine r_iload (pq := 42) C dX11_decides_40 rfl rfl ?_
    refine r_callV (pq := 45) C (mc_X11_sumYear hS hN ha hp hy9) o0 rfl gX11_decides_X11_sumYear rfl (na := 3) (by decide +kernel) rfl (by decide) (by decide) (Nat.le_of_ble_eq_true rfl) ⟨Nat.zero_le _, Nat.zero_le _⟩ dX11_decides_42 rfl rfl (fun r9 w hq => ?_)
    obtain ⟨rfl, rfl⟩ := hq
    dsimp only [Option.toList, List.cons_append, List.nil_append]
    have hN1 := NS.s30 hN ha (nI (yl a (cr s p) y9)) (nI (ym a (cr s p) y9))
    refine r_aload_n (pq := 46) C dX11_decides_45 rfl rfl ?_
    refine r_iload_n (pq := 47) C dX11_decides_46 rfl rfl ?_
    refine r_iload_n (pq := 48) C dX11_decides_47 rfl rfl ?_
    refine r_iload (pq := 50) C dX11_decides_48 rfl rfl ?_
    refine r_callV (pq := 53) C (mc_X11_sumYear hS hN1 hb hp hy9) hN1.1 rfl gX11_decides_X11_sumYear rfl (na := 3) (by decide +kernel) rfl (by decide) (by decide) (Nat.le_of_ble_eq_true rfl) ⟨Nat.zero_le _, Nat.zero_le _⟩ dX11_decides_50 rfl rfl (fun r9 w hq => ?_)
    obtain ⟨rfl, rfl⟩ := hq
    dsimp only [Option.toList, List.cons_append, List.nil_append]
    have hN2 := NS.s30 hN1 hb (nI (yl b (cr s p) y9)) (nI (ym b (cr s p) y9))
    refine r_aload_n (pq := 54) C dX11_decides_53 rfl rfl ?_
    refine r_iload_n (pq := 55) C dX11_decides_54 rfl rfl ?_
    refine r_iload_n (pq := 56) C dX11_decides_55 rfl rfl ?_
    refine r_iload_n (pq := 57) C dX11_decides_56 rfl rfl ?_
    refine r_callV (pq := 60) C (mc_X11_decidedFor (y9 := y9) hS hN2 ha hb hp hy9 ((va_n _ _ (by omega)).trans (va_s _ _ _)) (va_s _ _ _)) hN2.1 rfl gX11_decides_X11_decidedFor rfl (na := 3) (by decide +kernel) rfl (by decide) (by decide) (Nat.le_of_ble_eq_true rfl) ⟨Nat.zero_le _, Nat.zero_le _⟩ dX11_decides_57 rfl rfl (fun r9 w9 hq => ?_)
    obtain ⟨rfl, rfl⟩ := hq
    dsimp only [Option.toList, List.cons_append, List.nil_append]
    refine r_iret C D rfl ⟨Nat.le_refl _, Nat.le_refl _⟩ dX11_decides_60 ?_
    refine ⟨?_, fun q hq => (va_n _ _ (by omega)).trans (va_n _ _ (by omega)), B, rfl, hN2⟩
    unfold rs_decides
    rw [if_pos hok, tn_nI (by omega), tn_nI (by omega), tn_nI (by omega), tn_nI (by omega)]
    rfl
  · have hbad := hok
    refine r_iload_n (pq := 1) C dX11_decides_0 rfl rfl ?_
    refine r_callS (pq := 4) C (mc_X11_isLand) gX11_decides_X11_isLand rfl (na := 1) (by decide +kernel) rfl (by decide) (by decide) (Nat.le_of_ble_eq_true rfl) ⟨Nat.zero_le _, Nat.zero_le _⟩ dX11_decides_1 rfl rfl (fun r9 w hq => ?_)
    obtain ⟨rfl, rfl⟩ := hq
    dsimp only [Option.toList, List.cons_append, List.nil_append]
    have l1 := b2_lt (rg x 8)
    refine rN_if_eq (tg := 35) (pq := 7) C dX11_decides_4 (by decide) rfl (by omega) (fun c4 => ?_) (fun c4 => ?_)
    · refine r_iconst (v := (-1)) (pq := 36) C dX11_decides_35 (by decide) rfl ?_
      refine r_iret C D rfl ⟨Nat.le_refl _, Nat.le_refl _⟩ dX11_decides_36 ?_
      refine ⟨?_, fun _ _ => rfl, B, rfl, ?_⟩
      · unfold rs_decides
        rw [if_neg hbad]
      · exact hN
    · refine r_iload_n (pq := 8) C dX11_decides_7 rfl rfl ?_
      refine r_callS (pq := 11) C (mc_X11_isLand) gX11_decides_X11_isLand rfl (na := 1) (by decide +kernel) rfl (by decide) (by decide) (Nat.le_of_ble_eq_true rfl) ⟨Nat.zero_le _, Nat.zero_le _⟩ dX11_decides_8 rfl rfl (fun r9 w hq => ?_)
      obtain ⟨rfl, rfl⟩ := hq
      dsimp only [Option.toList, List.cons_append, List.nil_append]
      have l8 := b2_lt (rg y 8)
      refine rN_if_eq (tg := 35) (pq := 14) C dX11_decides_11 (by decide) rfl (by omega) (fun c11 => ?_) (fun c11 => ?_)
      · refine r_iconst (v := (-1)) (pq := 36) C dX11_decides_35 (by decide) rfl ?_
        refine r_iret C D rfl ⟨Nat.le_refl _, Nat.le_refl _⟩ dX11_decides_36 ?_
        refine ⟨?_, fun _ _ => rfl, B, rfl, ?_⟩
        · unfold rs_decides
          rw [if_neg hbad]
        · exact hN
      · refine r_iload_n (pq := 15) C dX11_decides_14 rfl rfl ?_
        refine r_iload_n (pq := 16) C dX11_decides_15 rfl rfl ?_
        refine r_icmp_eq (tg := 35) (pq := 19) C dX11_decides_16 (by decide) rfl (fun c16 => ?_) (fun c16 => ?_)
        · refine r_iconst (v := (-1)) (pq := 36) C dX11_decides_35 (by decide) rfl ?_
          refine r_iret C D rfl ⟨Nat.le_refl _, Nat.le_refl _⟩ dX11_decides_36 ?_
          refine ⟨?_, fun _ _ => rfl, B, rfl, ?_⟩
          · unfold rs_decides
            rw [if_neg hbad]
          · exact hN
        · refine r_aload_n (pq := 20) C dX11_decides_19 rfl rfl ?_
          refine r_iload_n (pq := 21) C dX11_decides_20 rfl rfl ?_
          refine r_callV (pq := 24) C (mc_X11_isPerson hI1 o0) o0 rfl gX11_decides_X11_isPerson rfl (na := 1) (by decide +kernel) rfl (by decide) (by decide) (Nat.le_of_ble_eq_true rfl) ⟨Nat.zero_le _, Nat.zero_le _⟩ dX11_decides_21 rfl rfl (fun r9 w hq => ?_)
          obtain ⟨rfl, rfl⟩ := hq
          dsimp only [Option.toList, List.cons_append, List.nil_append]
          have l21 := b2_lt (rg z (s.1 1))
          refine rN_if_eq (tg := 35) (pq := 27) C dX11_decides_24 (by decide) rfl (by omega) (fun c24 => ?_) (fun c24 => ?_)
          · refine r_iconst (v := (-1)) (pq := 36) C dX11_decides_35 (by decide) rfl ?_
            refine r_iret C D rfl ⟨Nat.le_refl _, Nat.le_refl _⟩ dX11_decides_36 ?_
            refine ⟨?_, fun _ _ => rfl, B, rfl, ?_⟩
            · unfold rs_decides
              rw [if_neg hbad]
            · exact hN
          · refine r_iload (pq := 29) C dX11_decides_27 rfl rfl ?_
            refine r_callS (pq := 32) C (mc_X11_isYear) gX11_decides_X11_isYear rfl (na := 1) (by decide +kernel) rfl (by decide) (by decide) (Nat.le_of_ble_eq_true rfl) ⟨Nat.zero_le _, Nat.zero_le _⟩ dX11_decides_29 rfl rfl (fun r9 w hq => ?_)
            obtain ⟨rfl, rfl⟩ := hq
            dsimp only [Option.toList, List.cons_append, List.nil_append]
            have l29 := b2_lt (rg v 4)
            refine rN_if_ne (tg := 37) (pq := 35) C dX11_decides_32 (by decide) rfl (by omega) (fun c32 => ?_) (fun c32 => ?_)
            · exact absurd ⟨b2_1.mp c4, b2_1.mp c11, c16, b2_1.mp c24, b2_1.mp c32⟩ hbad
            · refine r_iconst (v := (-1)) (pq := 36) C dX11_decides_35 (by decide) rfl ?_
              refine r_iret C D rfl ⟨Nat.le_refl _, Nat.le_refl _⟩ dX11_decides_36 ?_
              refine ⟨?_, fun _ _ => rfl, B, rfl, ?_⟩
              · unfold rs_decides
                rw [if_neg hbad]
              · exact hN

/-- the lands that surely claim, as bits -/
def cmk (s : ST) (c : Nat → Nat) (y : Nat) : Nat → Nat
  | 0 => 0
  | n + 1 => cmk s c y n ||| (if s.2.1 22 n ≤ yl n c y then 2 ^ n else 0)
theorem cmk_bit (s : ST) (c : Nat → Nat) (y j : Nat) : ∀ n, cmk s c y n / 2 ^ j % 2 = if j < n ∧ s.2.1 22 j ≤ yl j c y then 1 else 0
  | 0 => by
    show 0 / 2 ^ j % 2 = _
    rw [Nat.zero_div, if_neg (by omega)]
  | n + 1 => by
    have ih := cmk_bit s c y j n
    rw [← Nat.toNat_testBit] at ih ⊢
    show ((cmk s c y n ||| (if s.2.1 22 n ≤ yl n c y then 2 ^ n else 0)).testBit j).toNat = _
    rw [Nat.testBit_or]
    by_cases h : s.2.1 22 n ≤ yl n c y
    · rw [if_pos h, Nat.testBit_two_pow]
      by_cases e : n = j
      · subst e
        rw [if_pos ⟨by omega, h⟩]
        simp
      · have : decide (n = j) = false := by simp [e]
        rw [this, Bool.or_false, ih]
        by_cases q : j < n ∧ s.2.1 22 j ≤ yl j c y
        · rw [if_pos q, if_pos ⟨by omega, q.2⟩]
        · rw [if_neg q, if_neg (fun z => q ⟨by omega, z.2⟩)]
    · rw [if_neg h, Nat.zero_testBit, Bool.or_false, ih]
      by_cases q : j < n ∧ s.2.1 22 j ≤ yl j c y
      · rw [if_pos q, if_pos ⟨by omega, q.2⟩]
      · rw [if_neg q, if_neg (fun z => q ⟨by
          rcases Nat.lt_or_ge j n with z1 | z1
          · exact z1
          · exact absurd (by rw [show n = j by omega]; exact z.2) h, z.2⟩)]
theorem cmk_lt (s : ST) (c : Nat → Nat) (y : Nat) : ∀ n, cmk s c y n < 2 ^ n
  | 0 => by show 0 < 1; decide
  | n + 1 => by
    have ih := cmk_lt s c y n
    show cmk s c y n ||| (if s.2.1 22 n ≤ yl n c y then 2 ^ n else 0) < 2 ^ (n + 1)
    refine Nat.or_lt_two_pow (Nat.lt_trans ih (Nat.pow_lt_pow_right (by decide) (by omega))) ?_
    split
    · exact Nat.pow_lt_pow_right (by decide) (by omega)
    · exact Nat.two_pow_pos _
theorem cmk_0 {s : ST} {c : Nat → Nat} {y : Nat} : ∀ n, (∀ j, j < n → ¬ s.2.1 22 j ≤ yl j c y) → cmk s c y n = 0
  | 0, _ => rfl
  | n + 1, h => by
    show cmk s c y n ||| (if s.2.1 22 n ≤ yl n c y then 2 ^ n else 0) = 0
    rw [if_neg (h n (by omega)), cmk_0 n (fun j hj => h j (by omega))]
    rfl
theorem clm_2 {s : ST} {l y : Nat} {c : Nat → Nat} : clm s l c y = 2 ↔ s.2.1 22 l ≤ yl l c y := by
  unfold clm
  by_cases h : s.2.1 22 l ≤ yl l c y
  · rw [if_pos h]; exact ⟨fun _ => h, fun _ => rfl⟩
  · rw [if_neg h]
    refine ⟨fun q => ?_, fun q => absurd q h⟩
    split at q <;> omega
theorem cmk_b2 {s : ST} {c : Nat → Nat} {y j : Nat} (hj : j < 8) : cmk s c y 8 / 2 ^ j % 2 ≠ 0 ↔ clm s j c y = 2 := by
  rw [cmk_bit, clm_2]
  by_cases h : s.2.1 22 j ≤ yl j c y
  · rw [if_pos ⟨hj, h⟩]; simp [h]
  · rw [if_neg (fun z => h z.2)]; simp [h]

set_option maxHeartbeats 4000000 in
set_option maxRecDepth 100000 in
/-- prevails -/
theorem mc_X11_prevails {l : Launch} {E : EV} {w : RW} {B : Nat → Nat} {s : ST} {a9 p9 y9 : Nat} (hS : SI s) (hN : NS E B s w) (ha : a9 < 8) (hp : p9 < s.1 1) (hy : y9 < 4) (hT : ∀ l, l < 8 → TY B s w p9 y9 l) : MC l E yX11_prevails wsX11_prevails 3 0 0 [.ref (B 0), .int (nI a9), .int (nI (cmk s (cr s p9) y9 8)), .int (nI p9)] (w) (fun v w' => w' = w ∧ v = some (.int (nI (b2 (∀ b, b < 8 → b ≠ a9 → clm s b (cr s p9) y9 = 2 → dcd s a9 b p9 y9 (cr s p9) = a9))))) := by
  refine MC.enter (cc := cX11_prevails) (maxL := 5) (ret := (some .boolean)) (lv0 := [some (.ref (B 0)), some (.int (nI a9)), some (.int (nI (cmk s (cr s p9) y9 8))), some (.int (nI p9)), none]) (by decide) rfl (by simp [Value.category]) (Nat.le_of_ble_eq_true rfl) rfl ?_
  intro X hl hE C D
  subst hl
  subst hE
  have hI1 : s.1 1 ≤ 6 := hS.2.1
  have hI5 : s.1 5 ≤ 80 := hS.2.2.1
  have hI16 : s.1 16 ≤ 12 := hS.2.2.2.1
  have hNN := hN
  obtain ⟨o0, ⟨u1, e1, f1⟩, ⟨u2, e2, f2⟩, ⟨u3, e3, f3⟩, ⟨u5, e5, f5⟩, ⟨u6, e6, f6⟩, ⟨u8, e8, f8⟩, ⟨u10, e10, f10⟩, ⟨u11, e11, f11⟩, ⟨u13, e13, f13⟩, ⟨u14, e14, f14⟩, ⟨u15, e15⟩, ⟨u16, e16⟩, h20, h30, h100, h200, h220, h240, h300, h310⟩ := hNN
  have hcm := cmk_lt s (cr s p9) y9 8
  have loop : ∀ (t i : Nat), i ≤ 8 → 8 - i < t → (∀ b, b < i → b ≠ a9 → clm s b (cr s p9) y9 = 2 → dcd s a9 b p9 y9 (cr s p9) = a9) → GG X w 0 0 3 [some (.ref (B 0)), some (.int (nI a9)), some (.int (nI (cmk s (cr s p9) y9 8))), some (.int (nI p9)), some (.int (nI i))] [] := by
    intro t
    induction t with
    | zero => intro i h1 h2; omega
    | succ t ih =>
      intro i hi ht hg
      refine r_iload (pq := 5) C dX11_prevails_3 rfl rfl ?_
      refine r_bipush (v := nI 8) (pq := 7) C dX11_prevails_5 (by decide) rfl ?_
      refine rN_icmp_ge (tg := 45) (pq := 10) C dX11_prevails_7 (by decide) rfl (by omega) (by omega) (fun c7 => ?_) (fun c7 => ?_)
      · refine r_iconst (v := nI 1) (pq := 46) C dX11_prevails_45 (by decide) rfl ?_
        refine r_zret C D rfl (by decide) ⟨Nat.le_refl _, Nat.le_refl _⟩ dX11_prevails_46 ?_
        have e9 : i = 8 := by omega
        subst e9
        exact ⟨rfl, by rw [b2_t hg]⟩
      · refine r_iload (pq := 12) C dX11_prevails_10 rfl rfl ?_
        refine r_iload_n (pq := 13) C dX11_prevails_12 rfl rfl ?_
        refine rN_icmp_eq (tg := 39) (pq := 16) C dX11_prevails_13 (by decide) rfl (by omega) (by omega) (fun c13 => ?_) (fun c13 => ?_)
        · refine rN_iinc (c := 1) (pq := 42) C dX11_prevails_39 rfl (by decide) (by decide) rfl rfl ?_
          dsimp only [List.set]
          refine r_goto (tg := 3) C dX11_prevails_42 (by decide) ?_
          exact ih (i + 1) (by omega) (by omega) (fun b hb h1 h2 => by
            by_cases e : b = i
            · subst e
              exact absurd c13 h1
            · exact hg b (by omega) h1 h2)
        · refine r_iload_n (pq := 17) C dX11_prevails_16 rfl rfl ?_
          refine r_iload (pq := 19) C dX11_prevails_17 rfl rfl ?_
          refine rN_ishr (pq := 20) C dX11_prevails_19 (by omega) (by omega) rfl ?_
          refine r_iconst (v := nI 1) (pq := 21) C dX11_prevails_20 (by decide) rfl ?_
          refine rN_iand (pq := 22) C dX11_prevails_21 rfl ?_
          rw [Nat.and_one_is_mod]
          have hbt : (cmk s (cr s p9) y9 8) / 2 ^ i % 2 < 2 := Nat.mod_lt _ (by decide)
          refine rN_if_eq (tg := 39) (pq := 25) C dX11_prevails_22 (by decide) rfl (by omega) (fun c22 => ?_) (fun c22 => ?_)
          · refine rN_iinc (c := 1) (pq := 42) C dX11_prevails_39 rfl (by decide) (by decide) rfl rfl ?_
            dsimp only [List.set]
            refine r_goto (tg := 3) C dX11_prevails_42 (by decide) ?_
            exact ih (i + 1) (by omega) (by omega) (fun b hb h1 h2 => by
              by_cases e : b = i
              · subst e
                exact absurd ((cmk_b2 c7).mpr h2) (fun z => z c22)
              · exact hg b (by omega) h1 h2)
          · refine r_aload_n (pq := 26) C dX11_prevails_25 rfl rfl ?_
            refine r_iload_n (pq := 27) C dX11_prevails_26 rfl rfl ?_
            refine r_iload (pq := 29) C dX11_prevails_27 rfl rfl ?_
            refine r_iload_n (pq := 30) C dX11_prevails_29 rfl rfl ?_
            refine r_callV (pq := 33) C (mc_X11_decidedFor (y9 := y9) hS hN ha c7 hp hy (hT a9 ha) (hT i c7)) o0 rfl gX11_prevails_X11_decidedFor rfl (na := 3) (by decide +kernel) rfl (by decide) (by decide) (Nat.le_of_ble_eq_true rfl) ⟨Nat.zero_le _, Nat.zero_le _⟩ dX11_prevails_30 rfl rfl (fun r9 w hq => ?_)
            obtain ⟨rfl, rfl⟩ := hq
            dsimp only [Option.toList, List.cons_append, List.nil_append]
            have hdl := dcd_le (s := s) (p := p9) (y := y9) (c := cr s p9) ha c7
            refine r_iload_n (pq := 34) C dX11_prevails_33 rfl rfl ?_
            refine r_icmp_eq (tg := 39) (pq := 37) C dX11_prevails_34 (by decide) rfl (fun c34 => ?_) (fun c34 => ?_)
            · refine rN_iinc (c := 1) (pq := 42) C dX11_prevails_39 rfl (by decide) (by decide) rfl rfl ?_
              dsimp only [List.set]
              refine r_goto (tg := 3) C dX11_prevails_42 (by decide) ?_
              exact ih (i + 1) (by omega) (by omega) (fun b hb h1 h2 => by
                by_cases e : b = i
                · subst e
                  exact (dci_eq ha hdl).mp c34
                · exact hg b (by omega) h1 h2)
            · refine r_iconst (v := nI 0) (pq := 38) C dX11_prevails_37 (by decide) rfl ?_
              refine r_zret C D rfl (by decide) ⟨Nat.le_refl _, Nat.le_refl _⟩ dX11_prevails_38 ?_
              exact ⟨rfl, by rw [b2_f (fun h => c34 ((dci_eq ha hdl).mpr (h i c7 c13 ((cmk_b2 c7).mp c22))))]⟩
  refine r_iconst (v := nI 0) (pq := 1) C dX11_prevails_0 (by decide) rfl ?_
  refine r_istore (j := 4) (pq := 3) C dX11_prevails_1 rfl (by decide) rfl rfl ?_
  dsimp only [List.set]
  exact loop 9 0 (by omega) (by omega) (fun b hb => absurd hb (by omega))

set_option maxHeartbeats 4000000 in
set_option maxRecDepth 100000 in
/-- taxingLand -/
theorem mc_X11_taxingLand {l : Launch} {E : EV} {w : RW} {B : Nat → Nat} {s : ST} {p9 y9 : Nat} (hS : SI s) (hN : NS E B s w) (hp : p9 < s.1 1) (hy : y9 < 4) : MC l E yX11_taxingLand wsX11_taxingLand 4 0 0 [.ref (B 0), .int (nI p9), .int (nI y9)] (w) (fun v w' => v = some (.int (txi (txd s p9 y9 (cr s p9)))) ∧ NS E B s w' ∧ FR w w') := by
  refine MC.enter (cc := cX11_taxingLand) (maxL := 5) (ret := (some .int)) (lv0 := [some (.ref (B 0)), some (.int (nI p9)), some (.int (nI y9)), none, none]) (by decide) rfl (by simp [Value.category]) (Nat.le_of_ble_eq_true rfl) rfl ?_
  intro X hl hE C D
  subst hl
  subst hE
  have hI1 : s.1 1 ≤ 6 := hS.2.1
  have hI5 : s.1 5 ≤ 80 := hS.2.2.1
  have hI16 : s.1 16 ≤ 12 := hS.2.2.2.1
  have hcm := cmk_lt s (cr s p9) y9 8
  have loop2 : ∀ (w1 : RW), NS (xE X) B s w1 → FR w w1 → (∀ l, l < 8 → TY B s w1 p9 y9 l) → ¬ nocl s y9 (cr s p9) → ∀ (t i : Nat), i ≤ 8 → 8 - i < t → (∀ a, a < i → ¬ wins s a p9 y9 (cr s p9)) → GG X w1 0 0 63 [some (.ref (B 0)), some (.int (nI p9)), some (.int (nI y9)), some (.int (nI (cmk s (cr s p9) y9 8))), some (.int (nI i))] [] := by
    intro w1 hN1 hw1 hT hnc t
    induction t with
    | zero => intro i h1 h2; omega
    | succ t ih =>
      intro i hi ht hg
      refine r_iload (pq := 65) C dX11_taxingLand_63 rfl rfl ?_
      refine r_bipush (v := nI 8) (pq := 67) C dX11_taxingLand_65 (by decide) rfl ?_
      refine rN_icmp_ge (tg := 99) (pq := 70) C dX11_taxingLand_67 (by decide) rfl (by omega) (by omega) (fun c67 => ?_) (fun c67 => ?_)
      · refine r_bipush (v := (-3)) (pq := 101) C dX11_taxingLand_99 (by decide) rfl ?_
        refine r_iret C D rfl ⟨Nat.le_refl _, Nat.le_refl _⟩ dX11_taxingLand_101 ?_
        refine ⟨?_, hN1, hw1⟩
        rw [txd_none hnc (fun a ha => hg a (by omega))]
        rfl
      · refine r_iload_n (pq := 71) C dX11_taxingLand_70 rfl rfl ?_
        refine r_iload (pq := 73) C dX11_taxingLand_71 rfl rfl ?_
        refine rN_ishr (pq := 74) C dX11_taxingLand_73 (by omega) (by omega) rfl ?_
        refine r_iconst (v := nI 1) (pq := 75) C dX11_taxingLand_74 (by decide) rfl ?_
        refine rN_iand (pq := 76) C dX11_taxingLand_75 rfl ?_
        rw [Nat.and_one_is_mod]
        have hbt : (cmk s (cr s p9) y9 8) / 2 ^ i % 2 < 2 := Nat.mod_lt _ (by decide)
        refine rN_if_eq (tg := 93) (pq := 79) C dX11_taxingLand_76 (by decide) rfl (by omega) (fun c76 => ?_) (fun c76 => ?_)
        · refine rN_iinc (c := 1) (pq := 96) C dX11_taxingLand_93 rfl (by decide) (by decide) rfl rfl ?_
          dsimp only [List.set]
          refine r_goto (tg := 63) C dX11_taxingLand_96 (by decide) ?_
          exact ih (i + 1) (by omega) (by omega) (fun a h9 hw9 => by
            by_cases e : a = i
            · subst e; exact (cmk_b2 c67).mpr hw9.1 c76
            · exact hg a (by omega) hw9)
        · refine r_aload_n (pq := 80) C dX11_taxingLand_79 rfl rfl ?_
          refine r_iload (pq := 82) C dX11_taxingLand_80 rfl rfl ?_
          refine r_iload_n (pq := 83) C dX11_taxingLand_82 rfl rfl ?_
          refine r_iload_n (pq := 84) C dX11_taxingLand_83 rfl rfl ?_
          refine r_callV (pq := 87) C (mc_X11_prevails (y9 := y9) hS hN1 c67 hp hy hT) hN1.1 rfl gX11_taxingLand_X11_prevails rfl (na := 3) (by decide +kernel) rfl (by decide) (by decide) (Nat.le_of_ble_eq_true rfl) ⟨Nat.zero_le _, Nat.zero_le _⟩ dX11_taxingLand_84 rfl rfl (fun r9 w1 hq => ?_)
          obtain ⟨rfl, rfl⟩ := hq
          dsimp only [Option.toList, List.cons_append, List.nil_append]
          have l84 := b2_lt (∀ b, b < 8 → b ≠ i → clm s b (cr s p9) y9 = 2 → dcd s i b p9 y9 (cr s p9) = i)
          refine rN_if_eq (tg := 93) (pq := 90) C dX11_taxingLand_87 (by decide) rfl (by omega) (fun c87 => ?_) (fun c87 => ?_)
          · refine rN_iinc (c := 1) (pq := 96) C dX11_taxingLand_93 rfl (by decide) (by decide) rfl rfl ?_
            dsimp only [List.set]
            refine r_goto (tg := 63) C dX11_taxingLand_96 (by decide) ?_
            exact ih (i + 1) (by omega) (by omega) (fun a h9 hw9 => by
              by_cases e : a = i
              · subst e; exact b2_0.mp c87 hw9.2
              · exact hg a (by omega) hw9)
          · refine r_iload (pq := 92) C dX11_taxingLand_90 rfl rfl ?_
            refine r_iret C D rfl ⟨Nat.le_refl _, Nat.le_refl _⟩ dX11_taxingLand_92 ?_
            refine ⟨?_, hN1, hw1⟩
            rw [txd_win c67 ⟨(cmk_b2 c67).mp c76, b2_1.mp c87⟩]
            unfold txi
            rw [if_neg (by omega), if_neg (by omega)]
  have fin : ∀ (w1 : RW), NS (xE X) B s w1 → FR w w1 → (∀ l, l < 8 → TY B s w1 p9 y9 l) → GG X w1 0 0 53 [some (.ref (B 0)), some (.int (nI p9)), some (.int (nI y9)), some (.int (nI (cmk s (cr s p9) y9 8))), none] [] := by
    intro w1 hN1 hw1 hT
    refine r_iload_n (pq := 54) C dX11_taxingLand_53 rfl rfl ?_
    refine rN_if_ne (tg := 60) (pq := 57) C dX11_taxingLand_54 (by decide) rfl (by omega) (fun c54 => ?_) (fun c54 => ?_)
    · refine r_iconst (v := nI 0) (pq := 61) C dX11_taxingLand_60 (by decide) rfl ?_
      refine r_istore (j := 4) (pq := 63) C dX11_taxingLand_61 rfl (by decide) rfl rfl ?_
      dsimp only [List.set]
      have hnc : ¬ nocl s y9 (cr s p9) := fun h => c54 (cmk_0 8 (fun j hj q => h j hj (clm_2.mpr q)))
      exact loop2 w1 hN1 hw1 hT hnc 9 0 (by omega) (by omega) (fun a ha => absurd ha (by omega))
    · refine r_bipush (v := (-2)) (pq := 59) C dX11_taxingLand_57 (by decide) rfl ?_
      refine r_iret C D rfl ⟨Nat.le_refl _, Nat.le_refl _⟩ dX11_taxingLand_59 ?_
      refine ⟨?_, hN1, hw1⟩
      have hnc : nocl s y9 (cr s p9) := fun b hb h => (cmk_b2 hb).mpr h (by rw [c54, Nat.zero_div])
      unfold txd
      rw [if_pos hnc]
      rfl
  have loop1 : ∀ (t i : Nat) (w1 : RW), i ≤ 8 → 8 - i < t → NS (xE X) B s w1 → FR w w1 → (∀ l, l < i → TY B s w1 p9 y9 l) → GG X w1 0 0 5 [some (.ref (B 0)), some (.int (nI p9)), some (.int (nI y9)), some (.int (nI (cmk s (cr s p9) y9 i))), some (.int (nI i))] [] := by
    intro t
    induction t with
    | zero => intro i w1 h1 h2; omega
    | succ t ih =>
      intro i w1 hi ht hN1 hw1 hT
      have hNN := hN1
      obtain ⟨o0, ⟨u1, e1, f1⟩, ⟨u2, e2, f2⟩, ⟨u3, e3, f3⟩, ⟨u5, e5, f5⟩, ⟨u6, e6, f6⟩, ⟨u8, e8, f8⟩, ⟨u10, e10, f10⟩, ⟨u11, e11, f11⟩, ⟨u13, e13, f13⟩, ⟨u14, e14, f14⟩, ⟨u15, e15⟩, ⟨u16, e16⟩, h20, h30, h100, h200, h220, h240, h300, h310⟩ := hNN
      have hcmi := cmk_lt s (cr s p9) y9 i
      refine r_iload (pq := 7) C dX11_taxingLand_5 rfl rfl ?_
      refine r_bipush (v := nI 8) (pq := 9) C dX11_taxingLand_7 (by decide) rfl ?_
      refine rN_icmp_ge (tg := 53) (pq := 12) C dX11_taxingLand_9 (by decide) rfl (by omega) (by omega) (fun c9 => ?_) (fun c9 => ?_)
      · have e9 : i = 8 := by omega
        subst e9
        refine GG.fgt 4 ?_
        dsimp only [List.set]
        exact fin w1 hN1 hw1 hT
      · refine r_aload_n (pq := 13) C dX11_taxingLand_12 rfl rfl ?_
        refine r_iload (pq := 15) C dX11_taxingLand_13 rfl rfl ?_
        refine r_iload_n (pq := 16) C dX11_taxingLand_15 rfl rfl ?_
        refine r_iload_n (pq := 17) C dX11_taxingLand_16 rfl rfl ?_
        refine r_callV (pq := 20) C (mc_X11_sumYear hS hN1 c9 hp hy) o0 rfl gX11_taxingLand_X11_sumYear rfl (na := 3) (by decide +kernel) rfl (by decide) (by decide) (Nat.le_of_ble_eq_true rfl) ⟨Nat.zero_le _, Nat.zero_le _⟩ dX11_taxingLand_17 rfl rfl (fun r9 w hq => ?_)
        obtain ⟨rfl, rfl⟩ := hq
        dsimp only [Option.toList, List.cons_append, List.nil_append]
        have hpi := pw8 c9
        have q1 := yl_lt i (cr s p9) hy
        have q5 := hS.2.2.2.2.2.2.2.1 i c9
        refine r_aload_n (pq := 21) C dX11_taxingLand_20 rfl rfl ?_
        refine r_getf (pq := 24) C 13 ((va_n _ _ (by omega)).trans o0) rfl (by decide) (by decide +kernel) (Or.inl rfl) rfl dX11_taxingLand_21 rfl ?_
        refine r_iload (pq := 26) C dX11_taxingLand_24 rfl rfl ?_
        refine rN_aaldS (pq := 27) C 7 rfl rfl ((va_n _ _ (by omega)).trans e14) (by omega) (by decide) (f14 i c9) dX11_taxingLand_26 rfl ?_
        refine r_getf (pq := 30) C 1 (va_s _ _ _) rfl (by decide) (by decide +kernel) (Or.inl rfl) rfl dX11_taxingLand_27 rfl ?_
        refine r_aload_n (pq := 31) C dX11_taxingLand_30 rfl rfl ?_
        refine r_getf (pq := 34) C 9 ((va_n _ _ (by omega)).trans o0) rfl (by decide) (by decide +kernel) (Or.inl rfl) rfl dX11_taxingLand_31 rfl ?_
        refine r_iload (pq := 36) C dX11_taxingLand_34 rfl rfl ?_
        refine rN_iald (pq := 37) C ((va_n _ _ (by omega)).trans e10) (by omega) (by decide) dX11_taxingLand_36 rfl ?_
        refine r_at (f10 i c9) ?_
        refine rN_icmp_lt (tg := 47) (pq := 40) C dX11_taxingLand_37 (by decide) rfl (by omega) (by omega) (fun c37 => ?_) (fun c37 => ?_)
        · refine rN_iinc (c := 1) (pq := 50) C dX11_taxingLand_47 rfl (by decide) (by decide) rfl rfl ?_
          dsimp only [List.set]
          refine r_goto (tg := 5) C dX11_taxingLand_50 (by decide) ?_
          have key := ih (i + 1) _ (by omega) (by omega) (NS.s30 hN1 c9 _ _) (fun q hq => (va_n _ _ (by omega)).trans (hw1 q hq)) (fun l hl => by
            by_cases e : l = i
            · subst e; exact va_s _ _ _
            · exact (va_n _ _ (by omega)).trans (hT l (by omega)))
          rw [show (cmk s (cr s p9) y9 (i + 1)) = (cmk s (cr s p9) y9 i) ||| (if s.2.1 22 i ≤ yl i (cr s p9) y9 then 2 ^ i else 0) from rfl, if_neg (by omega), Nat.or_zero] at key
          exact key
        · refine r_iload_n (pq := 41) C dX11_taxingLand_40 rfl rfl ?_
          refine r_iconst (v := nI 1) (pq := 42) C dX11_taxingLand_41 (by decide) rfl ?_
          refine r_iload (pq := 44) C dX11_taxingLand_42 rfl rfl ?_
          refine rN_ishl (pq := 45) C dX11_taxingLand_44 (by omega) (by omega) rfl ?_
          refine rN_ior (pq := 46) C dX11_taxingLand_45 rfl ?_
          refine r_istore_n (j := 3) (pq := 47) C dX11_taxingLand_46 rfl (by decide) rfl rfl ?_
          dsimp only [List.set]
          refine rN_iinc (c := 1) (pq := 50) C dX11_taxingLand_47 rfl (by decide) (by decide) rfl rfl ?_
          dsimp only [List.set]
          refine r_goto (tg := 5) C dX11_taxingLand_50 (by decide) ?_
          rw [Nat.one_mul]
          have key := ih (i + 1) _ (by omega) (by omega) (NS.s30 hN1 c9 _ _) (fun q hq => (va_n _ _ (by omega)).trans (hw1 q hq)) (fun l hl => by
            by_cases e : l = i
            · subst e; exact va_s _ _ _
            · exact (va_n _ _ (by omega)).trans (hT l (by omega)))
          rw [show (cmk s (cr s p9) y9 (i + 1)) = (cmk s (cr s p9) y9 i) ||| (if s.2.1 22 i ≤ yl i (cr s p9) y9 then 2 ^ i else 0) from rfl, if_pos (by omega)] at key
          exact key
  refine r_iconst (v := nI 0) (pq := 1) C dX11_taxingLand_0 (by decide) rfl ?_
  refine r_istore_n (j := 3) (pq := 2) C dX11_taxingLand_1 rfl (by decide) rfl rfl ?_
  dsimp only [List.set]
  refine r_iconst (v := nI 0) (pq := 3) C dX11_taxingLand_2 (by decide) rfl ?_
  refine r_istore (j := 4) (pq := 5) C dX11_taxingLand_3 rfl (by decide) rfl rfl ?_
  dsimp only [List.set]
  exact loop1 9 0 w (by omega) (by omega) hN (fun _ _ => rfl) (fun l hl => absurd hl (by omega))

set_option maxHeartbeats 4000000 in
set_option maxRecDepth 100000 in
/-- taxed -/
theorem mc_X11_taxed {l : Launch} {E : EV} {w : RW} {B : Nat → Nat} {s : ST} (hS : SI s) (hN : NS E B s w) {x y : Int32} : MC l E yX11_taxed wsX11_taxed 5 0 0 [.ref (B 0), .int x, .int y] (w) (nP E B w (rs_taxed s x y) (s)) := by
  refine MC.enter (cc := cX11_taxed) (maxL := 3) (ret := (some .int)) (lv0 := [some (.ref (B 0)), some (.int x), some (.int y)]) (by decide) rfl (by simp [Value.category]) (Nat.le_of_ble_eq_true rfl) rfl ?_
  intro X hl hE C D
  subst hl
  subst hE
  have hI1 : s.1 1 ≤ 6 := hS.2.1
  have hI5 : s.1 5 ≤ 80 := hS.2.2.1
  have hI16 : s.1 16 ≤ 12 := hS.2.2.2.1
  have hNN := hN
  obtain ⟨o0, ⟨u1, e1, f1⟩, ⟨u2, e2, f2⟩, ⟨u3, e3, f3⟩, ⟨u5, e5, f5⟩, ⟨u6, e6, f6⟩, ⟨u8, e8, f8⟩, ⟨u10, e10, f10⟩, ⟨u11, e11, f11⟩, ⟨u13, e13, f13⟩, ⟨u14, e14, f14⟩, ⟨u15, e15⟩, ⟨u16, e16⟩, h20, h30, h100, h200, h220, h240, h300, h310⟩ := hNN
  by_cases hok : rg x (s.1 1) ∧ rg y 4
  · obtain ⟨p, hp, rfl⟩ := rg_of hok.1 (by omega)
    obtain ⟨y9, hy9, rfl⟩ := rg_of hok.2 (by omega)
    refine r_aload_n (pq := 1) C dX11_taxed_0 rfl rfl ?_
    refine r_iload_n (pq := 2) C dX11_taxed_1 rfl rfl ?_
    refine r_callV (pq := 5) C (mc_X11_isPerson hI1 o0) o0 rfl gX11_taxed_X11_isPerson rfl (na := 1) (by decide +kernel) rfl (by decide) (by decide) (Nat.le_of_ble_eq_true rfl) ⟨Nat.zero_le _, Nat.zero_le _⟩ dX11_taxed_2 rfl rfl (fun r9 w hq => ?_)
    obtain ⟨rfl, rfl⟩ := hq
    dsimp only [Option.toList, List.cons_append, List.nil_append]
    have l2 := b2_lt (rg (nI p) (s.1 1))
    refine rN_if_eq (tg := 24) (pq := 8) C dX11_taxed_5 (by decide) rfl (by omega) (fun c5 => absurd c5 (b2_1.mpr (hok.1))) (fun c5 => ?_)
    refine r_iload_n (pq := 9) C dX11_taxed_8 rfl rfl ?_
    refine r_callS (pq := 12) C (mc_X11_isYear) gX11_taxed_X11_isYear rfl (na := 1) (by decide +kernel) rfl (by decide) (by decide) (Nat.le_of_ble_eq_true rfl) ⟨Nat.zero_le _, Nat.zero_le _⟩ dX11_taxed_9 rfl rfl (fun r9 w hq => ?_)
    obtain ⟨rfl, rfl⟩ := hq
    dsimp only [Option.toList, List.cons_append, List.nil_append]
    have l9 := b2_lt (rg (nI y9) 4)
    refine rN_if_eq (tg := 24) (pq := 15) C dX11_taxed_12 (by decide) rfl (by omega) (fun c12 => absurd c12 (b2_1.mpr (hok.2))) (fun c12 => ?_)
    refine r_aload_n (pq := 16) C dX11_taxed_15 rfl rfl ?_
    refine r_iload_n (pq := 17) C dX11_taxed_16 rfl rfl ?_
    refine r_iload_n (pq := 18) C dX11_taxed_17 rfl rfl ?_
    refine r_callV (pq := 21) C (mc_X11_taxingLand hS hN hp hy9) o0 rfl gX11_taxed_X11_taxingLand rfl (na := 2) (by decide +kernel) rfl (by decide) (by decide) (Nat.le_of_ble_eq_true rfl) ⟨Nat.zero_le _, Nat.zero_le _⟩ dX11_taxed_18 rfl rfl (fun r9 w2 hq => ?_)
    obtain ⟨rfl, hN2, hw2⟩ := hq
    dsimp only [Option.toList, List.cons_append, List.nil_append]
    refine r_goto (tg := 25) C dX11_taxed_21 (by decide) ?_
    refine r_iret C D rfl ⟨Nat.le_refl _, Nat.le_refl _⟩ dX11_taxed_25 ?_
    refine ⟨?_, hw2, B, rfl, hN2⟩
    unfold rs_taxed
    rw [if_pos hok, tn_nI (by omega), tn_nI (by omega)]
  · have hbad := hok
    refine r_aload_n (pq := 1) C dX11_taxed_0 rfl rfl ?_
    refine r_iload_n (pq := 2) C dX11_taxed_1 rfl rfl ?_
    refine r_callV (pq := 5) C (mc_X11_isPerson hI1 o0) o0 rfl gX11_taxed_X11_isPerson rfl (na := 1) (by decide +kernel) rfl (by decide) (by decide) (Nat.le_of_ble_eq_true rfl) ⟨Nat.zero_le _, Nat.zero_le _⟩ dX11_taxed_2 rfl rfl (fun r9 w hq => ?_)
    obtain ⟨rfl, rfl⟩ := hq
    dsimp only [Option.toList, List.cons_append, List.nil_append]
    have l2 := b2_lt (rg x (s.1 1))
    refine rN_if_eq (tg := 24) (pq := 8) C dX11_taxed_5 (by decide) rfl (by omega) (fun c5 => ?_) (fun c5 => ?_)
    · refine r_iconst (v := (-1)) (pq := 25) C dX11_taxed_24 (by decide) rfl ?_
      refine r_iret C D rfl ⟨Nat.le_refl _, Nat.le_refl _⟩ dX11_taxed_25 ?_
      refine ⟨?_, fun _ _ => rfl, B, rfl, ?_⟩
      · unfold rs_taxed
        rw [if_neg hbad]
      · exact hN
    · refine r_iload_n (pq := 9) C dX11_taxed_8 rfl rfl ?_
      refine r_callS (pq := 12) C (mc_X11_isYear) gX11_taxed_X11_isYear rfl (na := 1) (by decide +kernel) rfl (by decide) (by decide) (Nat.le_of_ble_eq_true rfl) ⟨Nat.zero_le _, Nat.zero_le _⟩ dX11_taxed_9 rfl rfl (fun r9 w hq => ?_)
      obtain ⟨rfl, rfl⟩ := hq
      dsimp only [Option.toList, List.cons_append, List.nil_append]
      have l9 := b2_lt (rg y 4)
      refine rN_if_eq (tg := 24) (pq := 15) C dX11_taxed_12 (by decide) rfl (by omega) (fun c12 => ?_) (fun c12 => ?_)
      · refine r_iconst (v := (-1)) (pq := 25) C dX11_taxed_24 (by decide) rfl ?_
        refine r_iret C D rfl ⟨Nat.le_refl _, Nat.le_refl _⟩ dX11_taxed_25 ?_
        refine ⟨?_, fun _ _ => rfl, B, rfl, ?_⟩
        · unfold rs_taxed
          rw [if_neg hbad]
        · exact hN
      · exact absurd ⟨b2_1.mp c5, b2_1.mp c12⟩ hbad

set_option maxHeartbeats 4000000 in
set_option maxRecDepth 100000 in
/-- quarrels -/
theorem mc_X11_quarrels {l : Launch} {E : EV} {w : RW} {B : Nat → Nat} {s : ST} (hS : SI s) (hN : NS E B s w)  : MC l E yX11_quarrels wsX11_quarrels 5 0 0 [.ref (B 0)] (w) (nP E B w (rs_quarrels s) s) := by
  refine MC.enter (cc := cX11_quarrels) (maxL := 4) (ret := (some .int)) (lv0 := [some (.ref (B 0)), none, none, none]) (by decide) rfl (by simp [Value.category]) (Nat.le_of_ble_eq_true rfl) rfl ?_
  intro X hl hE C D
  subst hl
  subst hE
  have hI1 : s.1 1 ≤ 6 := hS.2.1
  have hI5 : s.1 5 ≤ 80 := hS.2.2.1
  have hI16 : s.1 16 ≤ 12 := hS.2.2.2.1
  have loop : ∀ (t i : Nat) (w1 : RW), i ≤ s.1 1 → s.1 1 - i < t → NS (xE X) B s w1 → FR w w1 → GG X w1 0 0 4 [some (.ref (B 0)), some (.int (nI (ps (qrs s) i))), some (.int (nI i)), none] [] := by
    intro t
    induction t with
    | zero => intro i w1 h1 h2; omega
    | succ t ih =>
      intro i w1 hi ht hN1 hw1
      have hql := ps_le4 (h := qrs s) (c := 4) (qrs_le s) i
      refine r_iload_n (pq := 5) C dX11_quarrels_4 rfl rfl ?_
      refine r_aload_n (pq := 6) C dX11_quarrels_5 rfl rfl ?_
      refine r_getf (pq := 9) C 3 hN1.1 rfl (by decide) (by decide +kernel) (Or.inl rfl) rfl dX11_quarrels_6 rfl ?_
      refine rN_icmp_ge (tg := 45) (pq := 12) C dX11_quarrels_9 (by decide) rfl (by omega) (by omega) (fun c9 => ?_) (fun c9 => ?_)
      · refine r_iload_n (pq := 46) C dX11_quarrels_45 rfl rfl ?_
        refine r_iret C D rfl ⟨Nat.le_refl _, Nat.le_refl _⟩ dX11_quarrels_46 ?_
        refine ⟨?_, hw1, B, rfl, hN1⟩
        unfold rs_quarrels
        have e9 : i = s.1 1 := by omega
        rw [e9]
      · refine r_iconst (v := nI 0) (pq := 13) C dX11_quarrels_12 (by decide) rfl ?_
        refine r_istore_n (j := 3) (pq := 14) C dX11_quarrels_13 rfl (by decide) rfl rfl ?_
        dsimp only [List.set]
        have inner : ∀ (t2 y : Nat) (w2 : RW), y ≤ 4 → 4 - y < t2 → NS (xE X) B s w2 → FR w w2 → GG X w2 0 0 14 [some (.ref (B 0)), some (.int (nI (ps (qrs s) i + ps (fun y => if txd s i y (cr s i) = 9 then 1 else 0) y))), some (.int (nI i)), some (.int (nI y))] [] := by
          intro t2
          induction t2 with
          | zero => intro y w2 h1 h2; omega
          | succ t2 ih2 =>
            intro y w2 hy ht2 hN2 hw2
            have hpl := ps_le (h := (fun y => if txd s i y (cr s i) = 9 then 1 else 0)) (fun i => by split <;> omega) y
            refine r_iload_n (pq := 15) C dX11_quarrels_14 rfl rfl ?_
            refine r_iconst (v := nI 4) (pq := 16) C dX11_quarrels_15 (by decide) rfl ?_
            refine rN_icmp_ge (tg := 39) (pq := 19) C dX11_quarrels_16 (by decide) rfl (by omega) (by omega) (fun c16 => ?_) (fun c16 => ?_)
            refine GG.fgt 3 ?_
            dsimp only [List.set]
            refine rN_iinc (c := 1) (pq := 42) C dX11_quarrels_39 rfl (by decide) (by decide) rfl rfl ?_
            dsimp only [List.set]
            refine r_goto (tg := 4) C dX11_quarrels_42 (by decide) ?_
            have e9 : y = 4 := by omega
            subst e9
            have key := ih (i + 1) w2 (by omega) (by omega) hN2 hw2
            exact key
            · refine r_aload_n (pq := 20) C dX11_quarrels_19 rfl rfl ?_
              refine r_iload_n (pq := 21) C dX11_quarrels_20 rfl rfl ?_
              refine r_iload_n (pq := 22) C dX11_quarrels_21 rfl rfl ?_
              refine r_callV (pq := 25) C (mc_X11_taxingLand hS hN2 c9 c16) hN2.1 rfl gX11_quarrels_X11_taxingLand rfl (na := 2) (by decide +kernel) rfl (by decide) (by decide) (Nat.le_of_ble_eq_true rfl) ⟨Nat.zero_le _, Nat.zero_le _⟩ dX11_quarrels_22 rfl rfl (fun r9 w3 hq => ?_)
              obtain ⟨rfl, hN3, hw3⟩ := hq
              dsimp only [Option.toList, List.cons_append, List.nil_append]
              refine r_bipush (v := (-3)) (pq := 27) C dX11_quarrels_25 (by decide) rfl ?_
              refine r_icmp_ne (tg := 33) (pq := 30) C dX11_quarrels_27 (by decide) rfl (fun c27 => ?_) (fun c27 => ?_)
              · refine rN_iinc (c := 1) (pq := 36) C dX11_quarrels_33 rfl (by decide) (by decide) rfl rfl ?_
                dsimp only [List.set]
                refine r_goto (tg := 14) C dX11_quarrels_36 (by decide) ?_
                have key := ih2 (y + 1) w3 (by omega) (by omega) hN3 (fun q hq => (hw3 q hq).trans (hw2 q hq))
                have z1 : ps (fun y => if txd s i y (cr s i) = 9 then 1 else 0) (y + 1) = ps (fun y => if txd s i y (cr s i) = 9 then 1 else 0) y := by
                  show ps _ y + (if txd s i y (cr s i) = 9 then 1 else 0) = _
                  rw [if_neg (fun z => c27 (by rw [z]; rfl)), Nat.add_zero]
                rw [z1] at key
                exact key
              · refine rN_iinc (c := 1) (pq := 33) C dX11_quarrels_30 rfl (by decide) (by decide) rfl rfl ?_
                dsimp only [List.set]
                refine rN_iinc (c := 1) (pq := 36) C dX11_quarrels_33 rfl (by decide) (by decide) rfl rfl ?_
                dsimp only [List.set]
                refine r_goto (tg := 14) C dX11_quarrels_36 (by decide) ?_
                have key := ih2 (y + 1) w3 (by omega) (by omega) hN3 (fun q hq => (hw3 q hq).trans (hw2 q hq))
                have z1 : ps (fun y => if txd s i y (cr s i) = 9 then 1 else 0) (y + 1) = ps (fun y => if txd s i y (cr s i) = 9 then 1 else 0) y + 1 := by
                  show ps _ y + (if txd s i y (cr s i) = 9 then 1 else 0) = _
                  rw [if_pos (Decidable.byContradiction fun z => txi3 z (txd_le s i y (cr s i)) c27)]
                rw [z1, ← Nat.add_assoc] at key
                exact key
        exact inner 5 0 w1 (by omega) (by omega) hN1 hw1
  refine r_iconst (v := nI 0) (pq := 1) C dX11_quarrels_0 (by decide) rfl ?_
  refine r_istore_n (j := 1) (pq := 2) C dX11_quarrels_1 rfl (by decide) rfl rfl ?_
  dsimp only [List.set]
  refine r_iconst (v := nI 0) (pq := 3) C dX11_quarrels_2 (by decide) rfl ?_
  refine r_istore_n (j := 2) (pq := 4) C dX11_quarrels_3 rfl (by decide) rfl rfl ?_
  dsimp only [List.set]
  exact loop (s.1 1 + 1) 0 w (Nat.zero_le _) (by omega) hN (fun _ _ => rfl)


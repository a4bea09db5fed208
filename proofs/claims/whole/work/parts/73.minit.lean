/-! ===== the reference's constructor ===== -/
def zI : Nat → Nat := fun _ => 0
def zf : Nat → Nat → Nat := fun k i => if k = 22 ∧ i < 8 then 51 else 0
def zg : Nat → Nat → Int32 := fun k i => if k = 23 ∧ i < 64 then -1 else 0
abbrev z0 : ST := (zI, zf, zg)
def hst (m : Nat) (x : Int32) : Nat → Int32 := fun i => if i < m then x else 0
theorem hst_s (m : Nat) (x : Int32) : upd (hst m x) m x = hst (m + 1) x := by
  funext i
  unfold upd hst
  by_cases e : i = m
  · rw [if_pos e, if_pos (by omega)]
  · rw [if_neg e]
    by_cases h : i < m
    · rw [if_pos h, if_pos (by omega)]
    · rw [if_neg h, if_neg (by omega)]
theorem up_up {α : Type} (f : Nat → α) (k : Nat) (a b : α) : va_up (va_up f k a) k b = va_up f k b := by
  funext i
  unfold va_up
  by_cases h : i = k
  · rw [if_pos h, if_pos h]
  · rw [if_neg h, if_neg h, if_neg h]
theorem mCon_z {j : Nat} (h2 : j ≠ 22) (h3 : j ≠ 23) : (fun _ => 0 : Nat → Int32) = mCon zf zg j := by
  unfold mCon
  split
  · funext i
    unfold zg
    rw [if_neg (fun h => h3 h.1)]
  · funext i
    unfold zf
    rw [if_neg (fun h => h2 h.1)]
    rfl
theorem mCon_22 : hst 8 51 = mCon zf zg 22 := by
  unfold mCon
  rw [if_neg (by decide)]
  funext i
  unfold zf hst
  by_cases h : i < 8
  · rw [if_pos h, if_pos ⟨rfl, h⟩]; rfl
  · rw [if_neg h, if_neg (fun q => h q.2)]; rfl
theorem mCon_23 : hst 64 (-1) = mCon zf zg 23 := by
  unfold mCon
  rw [if_pos (by decide)]
  funext i
  unfold zg hst
  by_cases h : i < 64
  · rw [if_pos h, if_pos ⟨rfl, h⟩]
  · rw [if_neg h, if_neg (fun q => h q.2)]
/-- the reference half made: the fields below k -/
def PW (E : EV) (a : Nat) (A : Nat → Nat) (k : Nat) (fs : List Value) (w0 : RW) : RW := fun r => if r = 1000 then some (a, .inr (13, fs)) else if 1000 < r ∧ r ≤ 1000 + k then mCell E A zI zf zg (r - 1000) else w0 r
theorem PW_obj (E : EV) (a : Nat) (A : Nat → Nat) (k : Nat) (fs : List Value) (w0 : RW) : PW E a A k fs w0 1000 = some (a, .inr (13, fs)) := by unfold PW; rw [if_pos rfl]
theorem PW_step {E : EV} {a : Nat} {A : Nat → Nat} {k : Nat} {fs fs' : List Value} {w0 : RW} (hn : ∀ r, 1000 < r → r < 1029 → w0 r = none) (j : Nat) {t N q : Nat} {h : Nat → Int32} (ha : mArr j = true) (hkj : k ≤ j) (hg : ∀ i, i < j → k ≤ i → mArr i = false) (ht : mTy j = t) (hN : mLen j = N) (hh : h = mCon zf zg j) :
    va_up (va_up (PW E a A k fs w0) (1001 + j) (some (q, .inl (E.2.1 t, N, .inl h)))) 1000 (some (a, .inr (13, fs'))) = PW E a (va_up A (j + 1) q) (j + 1) fs' w0 := by
  have hj : j < 28 := by simp [mArr] at ha; exact ha.1
  subst ht
  subst hN
  subst hh
  funext r
  by_cases h0 : r = 1000
  · subst h0
    rw [va_s, PW_obj]
  · rw [va_n _ _ h0]
    by_cases h1 : r = 1001 + j
    · subst h1
      rw [va_s]
      unfold PW
      rw [if_neg h0, if_pos ⟨by omega, by omega⟩, show 1001 + j - 1000 = j + 1 by omega]
      simp only [mCell, ha, if_true, va_s]
    · rw [va_n _ _ h1]
      unfold PW
      rw [if_neg h0, if_neg h0]
      by_cases h2 : 1000 < r ∧ r ≤ 1000 + k
      · rw [if_pos h2, if_pos ⟨by omega, by omega⟩]
        obtain ⟨i, hi⟩ : ∃ i, r - 1000 = i + 1 := ⟨r - 1001, by omega⟩
        rw [hi]
        simp only [mCell]
        rw [va_n _ _ (by omega)]
      · rw [if_neg h2]
        by_cases h3 : 1000 < r ∧ r ≤ 1000 + (j + 1)
        · rw [if_pos h3]
          obtain ⟨i, hi⟩ : ∃ i, r - 1000 = i + 1 := ⟨r - 1001, by omega⟩
          rw [hi, hn r (by omega) (by omega)]
          simp only [mCell]
          rw [hg i (by omega) (by omega)]
          rfl
        · rw [if_neg h3]
theorem PW_WM {E : EV} {a : Nat} {A : Nat → Nat} {fs : List Value} {w0 : RW} (ha : A 0 = a) (hf : fs = mFs A zI) : PW E a A 28 fs w0 = WM E A w0 zI zf zg := by
  funext r
  unfold PW WM
  by_cases h0 : r = 1000
  · rw [if_pos h0, if_pos (by omega), h0, hf]
    simp only [Nat.sub_self, mCell]
    rw [ha]
  · rw [if_neg h0]
    by_cases h2 : 1000 < r ∧ r ≤ 1000 + 28
    · rw [if_pos h2, if_pos (by omega)]
    · rw [if_neg h2, if_neg (by omega)]
theorem PW_0 {E : EV} {a : Nat} {A : Nat → Nat} {fs : List Value} {w0 : RW} (h : w0 1000 = some (a, .inr (13, fs))) : w0 = PW E a A 0 fs w0 := by
  funext r
  unfold PW
  by_cases h0 : r = 1000
  · rw [if_pos h0, h0, h]
  · rw [if_neg h0, if_neg (by omega)]
theorem r_ini {X : XX} {own : String} {cc : ByteArray} {Ts : List Cond} {d nL : Nat} {W0 : RW} {k n pc pq : Nat} {lv : List (Option Value)} {st : List Value} (C : C0 X own cc Ts d nL) {r q N m : Nat} {x : Int32} {h : Nat → Int32} (hh : h = hst m x) (hm : m < N) (hN : N < 2147483648) (hdg : decode cc pc = .ok (.iastore, 1)) (hp : pc + 1 = pq) (kk : GG X (va_up W0 r (some (q, .inl ((xE X).2.1 0, N, .inl (hst (m + 1) x))))) k n pq lv st) : GG X (va_up W0 r (some (q, .inl ((xE X).2.1 0, N, .inl h)))) k n pc lv (.int x :: .int (nI m) :: .ref q :: st) := by
  subst hh
  refine rN_iast C (va_s _ _ _) hm hN hdg hp ?_
  rw [up_up, hst_s]
  exact kk

set_option maxHeartbeats 4000000 in
set_option maxRecDepth 100000 in
/-- the reference, new -/
theorem mc_X12_init {l : Launch} {E : EV} {w : RW} {a : Nat} (hr : w 1000 = some (a, .inr (13, [.int 0, .int 0, .null, .null, .null, .int 0, .null, .null, .null, .null, .null, .null, .null, .null, .null, .null, .int 0, .null, .null, .null, .null, .null, .null, .null, .null, .null, .null, .null]))) (hn : ∀ r, 1000 < r → r < 1029 → w r = none) : MC l E yX12_init wsX12_init 1 24 11138 [.ref a] w (fun v w' => v = none ∧ ∃ A : Nat → Nat, A 0 = a ∧ w' = WM E A w zI zf zg) := by
  refine MC.enter (cc := cX12_init) (maxL := 1) (ret := none) (lv0 := [some (.ref a)]) (by decide) rfl (by simp [Value.category]) (Nat.le_of_ble_eq_true rfl) rfl ?_
  intro X hl hE C D
  subst hl
  subst hE
  refine r_aload_n (pq := 1) C dX12_init_0 rfl rfl ?_
  refine r_objInit (pq := 4) C (by decide +kernel) (by decide +kernel) (List.mem_cons_of_mem _ (List.mem_append_left _ (List.mem_append_left _ (List.mem_of_getElem? (i := 2) rfl)))) (by decide) (Nat.le_of_ble_eq_true rfl) dX12_init_1 rfl ?_
  refine GG.cast (PW_0 (E := xE X) (A := fun _ => a) hr) ?_
  refine r_aload_n (pq := 5) C dX12_init_4 rfl rfl ?_
  refine r_bipush (v := nI 6) (pq := 7) C dX12_init_5 (by decide) rfl ?_
  refine r_newa (pq := 9) C (N := 6) (a0 := (6, .inl (fun _ => 0))) (1001 + 2) 0 _ rfl (fun s c1 c2 h g => Option.some.inj (h.symm.trans g)) (by decide +kernel) rfl (fun c => rfl) (nI_pos (by omega)) (nI_clamp (by omega)) (by decide) (by rw [D.2.2.2.1]; decide) (by rw [D.2.2.2.2.1]; decide) dX12_init_7 rfl (fun q2 => ?_)
  refine r_putfF (pq := 12) C D.2.2.1 2 ((va_n _ _ (by decide)).trans (PW_obj _ _ _ _ _ _)) rfl tyX12 tyX12_ok nmX12 (by decide) (by decide +kernel) rfl rfl rfl rfl rfl rfl (Nat.le_of_ble_eq_true rfl) dX12_init_9 rfl ?_
  refine GG.cast (PW_step hn 2 (by decide) (by decide) (by decide) (by decide) (by decide) (mCon_z (by decide) (by decide))) ?_
  dsimp only [List.set]
  refine r_aload_n (pq := 13) C dX12_init_12 rfl rfl ?_
  refine r_bipush (v := nI 6) (pq := 15) C dX12_init_13 (by decide) rfl ?_
  refine r_newa (pq := 17) C (N := 6) (a0 := (6, .inl (fun _ => 0))) (1001 + 3) 0 _ rfl (fun s c1 c2 h g => Option.some.inj (h.symm.trans g)) (by decide +kernel) rfl (fun c => rfl) (nI_pos (by omega)) (nI_clamp (by omega)) (by decide) (by rw [D.2.2.2.1]; decide) (by rw [D.2.2.2.2.1]; decide) dX12_init_15 rfl (fun q3 => ?_)
  refine r_putfF (pq := 20) C D.2.2.1 3 ((va_n _ _ (by decide)).trans (PW_obj _ _ _ _ _ _)) rfl tyX12 tyX12_ok nmX12 (by decide) (by decide +kernel) rfl rfl rfl rfl rfl rfl (Nat.le_of_ble_eq_true rfl) dX12_init_17 rfl ?_
  refine GG.cast (PW_step hn 3 (by decide) (by decide) (by decide) (by decide) (by decide) (mCon_z (by decide) (by decide))) ?_
  dsimp only [List.set]
  refine r_aload_n (pq := 21) C dX12_init_20 rfl rfl ?_
  refine r_bipush (v := nI 6) (pq := 23) C dX12_init_21 (by decide) rfl ?_
  refine r_newa (pq := 25) C (N := 6) (a0 := (6, .inl (fun _ => 0))) (1001 + 4) 1 _ rfl (fun s c1 c2 h g => Option.some.inj (h.symm.trans g)) (by decide +kernel) rfl (fun c => rfl) (nI_pos (by omega)) (nI_clamp (by omega)) (by decide) (by rw [D.2.2.2.1]; decide) (by rw [D.2.2.2.2.1]; decide) dX12_init_23 rfl (fun q4 => ?_)
  refine r_putfF (pq := 28) C D.2.2.1 4 ((va_n _ _ (by decide)).trans (PW_obj _ _ _ _ _ _)) rfl tyX12 tyX12_ok nmX12 (by decide) (by decide +kernel) rfl rfl rfl rfl rfl rfl (Nat.le_of_ble_eq_true rfl) dX12_init_25 rfl ?_
  refine GG.cast (PW_step hn 4 (by decide) (by decide) (by decide) (by decide) (by decide) (mCon_z (by decide) (by decide))) ?_
  dsimp only [List.set]
  refine r_aload_n (pq := 29) C dX12_init_28 rfl rfl ?_
  refine r_bipush (v := nI 80) (pq := 31) C dX12_init_29 (by decide) rfl ?_
  refine r_newa (pq := 33) C (N := 80) (a0 := (80, .inl (fun _ => 0))) (1001 + 6) 0 _ rfl (fun s c1 c2 h g => Option.some.inj (h.symm.trans g)) (by decide +kernel) rfl (fun c => rfl) (nI_pos (by omega)) (nI_clamp (by omega)) (by decide) (by rw [D.2.2.2.1]; decide) (by rw [D.2.2.2.2.1]; decide) dX12_init_31 rfl (fun q6 => ?_)
  refine r_putfF (pq := 36) C D.2.2.1 6 ((va_n _ _ (by decide)).trans (PW_obj _ _ _ _ _ _)) rfl tyX12 tyX12_ok nmX12 (by decide) (by decide +kernel) rfl rfl rfl rfl rfl rfl (Nat.le_of_ble_eq_true rfl) dX12_init_33 rfl ?_
  refine GG.cast (PW_step hn 6 (by decide) (by decide) (by decide) (by decide) (by decide) (mCon_z (by decide) (by decide))) ?_
  dsimp only [List.set]
  refine r_aload_n (pq := 37) C dX12_init_36 rfl rfl ?_
  refine r_bipush (v := nI 80) (pq := 39) C dX12_init_37 (by decide) rfl ?_
  refine r_newa (pq := 41) C (N := 80) (a0 := (80, .inl (fun _ => 0))) (1001 + 7) 0 _ rfl (fun s c1 c2 h g => Option.some.inj (h.symm.trans g)) (by decide +kernel) rfl (fun c => rfl) (nI_pos (by omega)) (nI_clamp (by omega)) (by decide) (by rw [D.2.2.2.1]; decide) (by rw [D.2.2.2.2.1]; decide) dX12_init_39 rfl (fun q7 => ?_)
  refine r_putfF (pq := 44) C D.2.2.1 7 ((va_n _ _ (by decide)).trans (PW_obj _ _ _ _ _ _)) rfl tyX12 tyX12_ok nmX12 (by decide) (by decide +kernel) rfl rfl rfl rfl rfl rfl (Nat.le_of_ble_eq_true rfl) dX12_init_41 rfl ?_
  refine GG.cast (PW_step hn 7 (by decide) (by decide) (by decide) (by decide) (by decide) (mCon_z (by decide) (by decide))) ?_
  dsimp only [List.set]
  refine r_aload_n (pq := 45) C dX12_init_44 rfl rfl ?_
  refine r_bipush (v := nI 80) (pq := 47) C dX12_init_45 (by decide) rfl ?_
  refine r_newa (pq := 49) C (N := 80) (a0 := (80, .inl (fun _ => 0))) (1001 + 8) 0 _ rfl (fun s c1 c2 h g => Option.some.inj (h.symm.trans g)) (by decide +kernel) rfl (fun c => rfl) (nI_pos (by omega)) (nI_clamp (by omega)) (by decide) (by rw [D.2.2.2.1]; decide) (by rw [D.2.2.2.2.1]; decide) dX12_init_47 rfl (fun q8 => ?_)
  refine r_putfF (pq := 52) C D.2.2.1 8 ((va_n _ _ (by decide)).trans (PW_obj _ _ _ _ _ _)) rfl tyX12 tyX12_ok nmX12 (by decide) (by decide +kernel) rfl rfl rfl rfl rfl rfl (Nat.le_of_ble_eq_true rfl) dX12_init_49 rfl ?_
  refine GG.cast (PW_step hn 8 (by decide) (by decide) (by decide) (by decide) (by decide) (mCon_z (by decide) (by decide))) ?_
  dsimp only [List.set]
  refine r_aload_n (pq := 53) C dX12_init_52 rfl rfl ?_
  refine r_bipush (v := nI 80) (pq := 55) C dX12_init_53 (by decide) rfl ?_
  refine r_newa (pq := 57) C (N := 80) (a0 := (80, .inl (fun _ => 0))) (1001 + 9) 0 _ rfl (fun s c1 c2 h g => Option.some.inj (h.symm.trans g)) (by decide +kernel) rfl (fun c => rfl) (nI_pos (by omega)) (nI_clamp (by omega)) (by decide) (by rw [D.2.2.2.1]; decide) (by rw [D.2.2.2.2.1]; decide) dX12_init_55 rfl (fun q9 => ?_)
  refine r_putfF (pq := 60) C D.2.2.1 9 ((va_n _ _ (by decide)).trans (PW_obj _ _ _ _ _ _)) rfl tyX12 tyX12_ok nmX12 (by decide) (by decide +kernel) rfl rfl rfl rfl rfl rfl (Nat.le_of_ble_eq_true rfl) dX12_init_57 rfl ?_
  refine GG.cast (PW_step hn 9 (by decide) (by decide) (by decide) (by decide) (by decide) (mCon_z (by decide) (by decide))) ?_
  dsimp only [List.set]
  refine r_aload_n (pq := 61) C dX12_init_60 rfl rfl ?_
  refine r_bipush (v := nI 80) (pq := 63) C dX12_init_61 (by decide) rfl ?_
  refine r_newa (pq := 65) C (N := 80) (a0 := (80, .inl (fun _ => 0))) (1001 + 10) 0 _ rfl (fun s c1 c2 h g => Option.some.inj (h.symm.trans g)) (by decide +kernel) rfl (fun c => rfl) (nI_pos (by omega)) (nI_clamp (by omega)) (by decide) (by rw [D.2.2.2.1]; decide) (by rw [D.2.2.2.2.1]; decide) dX12_init_63 rfl (fun q10 => ?_)
  refine r_putfF (pq := 68) C D.2.2.1 10 ((va_n _ _ (by decide)).trans (PW_obj _ _ _ _ _ _)) rfl tyX12 tyX12_ok nmX12 (by decide) (by decide +kernel) rfl rfl rfl rfl rfl rfl (Nat.le_of_ble_eq_true rfl) dX12_init_65 rfl ?_
  refine GG.cast (PW_step hn 10 (by decide) (by decide) (by decide) (by decide) (by decide) (mCon_z (by decide) (by decide))) ?_
  dsimp only [List.set]
  refine r_aload_n (pq := 69) C dX12_init_68 rfl rfl ?_
  refine r_bipush (v := nI 80) (pq := 71) C dX12_init_69 (by decide) rfl ?_
  refine r_newa (pq := 73) C (N := 80) (a0 := (80, .inl (fun _ => 0))) (1001 + 11) 1 _ rfl (fun s c1 c2 h g => Option.some.inj (h.symm.trans g)) (by decide +kernel) rfl (fun c => rfl) (nI_pos (by omega)) (nI_clamp (by omega)) (by decide) (by rw [D.2.2.2.1]; decide) (by rw [D.2.2.2.2.1]; decide) dX12_init_71 rfl (fun q11 => ?_)
  refine r_putfF (pq := 76) C D.2.2.1 11 ((va_n _ _ (by decide)).trans (PW_obj _ _ _ _ _ _)) rfl tyX12 tyX12_ok nmX12 (by decide) (by decide +kernel) rfl rfl rfl rfl rfl rfl (Nat.le_of_ble_eq_true rfl) dX12_init_73 rfl ?_
  refine GG.cast (PW_step hn 11 (by decide) (by decide) (by decide) (by decide) (by decide) (mCon_z (by decide) (by decide))) ?_
  dsimp only [List.set]
  refine r_aload_n (pq := 77) C dX12_init_76 rfl rfl ?_
  refine r_sipush (v := nI 400) (pq := 80) C dX12_init_77 (by decide) rfl ?_
  refine r_newa (pq := 82) C (N := 400) (a0 := (400, .inl (fun _ => 0))) (1001 + 12) 0 _ rfl (fun s c1 c2 h g => Option.some.inj (h.symm.trans g)) (by decide +kernel) rfl (fun c => rfl) (nI_pos (by omega)) (nI_clamp (by omega)) (by decide) (by rw [D.2.2.2.1]; decide) (by rw [D.2.2.2.2.1]; decide) dX12_init_80 rfl (fun q12 => ?_)
  refine r_putfF (pq := 85) C D.2.2.1 12 ((va_n _ _ (by decide)).trans (PW_obj _ _ _ _ _ _)) rfl tyX12 tyX12_ok nmX12 (by decide) (by decide +kernel) rfl rfl rfl rfl rfl rfl (Nat.le_of_ble_eq_true rfl) dX12_init_82 rfl ?_
  refine GG.cast (PW_step hn 12 (by decide) (by decide) (by decide) (by decide) (by decide) (mCon_z (by decide) (by decide))) ?_
  dsimp only [List.set]
  refine r_aload_n (pq := 86) C dX12_init_85 rfl rfl ?_
  refine r_sipush (v := nI 3208) (pq := 89) C dX12_init_86 (by decide) rfl ?_
  refine r_newa (pq := 91) C (N := 3208) (a0 := (3208, .inl (fun _ => 0))) (1001 + 13) 0 _ rfl (fun s c1 c2 h g => Option.some.inj (h.symm.trans g)) (by decide +kernel) rfl (fun c => rfl) (nI_pos (by omega)) (nI_clamp (by omega)) (by decide) (by rw [D.2.2.2.1]; decide) (by rw [D.2.2.2.2.1]; decide) dX12_init_89 rfl (fun q13 => ?_)
  refine r_putfF (pq := 94) C D.2.2.1 13 ((va_n _ _ (by decide)).trans (PW_obj _ _ _ _ _ _)) rfl tyX12 tyX12_ok nmX12 (by decide) (by decide +kernel) rfl rfl rfl rfl rfl rfl (Nat.le_of_ble_eq_true rfl) dX12_init_91 rfl ?_
  refine GG.cast (PW_step hn 13 (by decide) (by decide) (by decide) (by decide) (by decide) (mCon_z (by decide) (by decide))) ?_
  dsimp only [List.set]
  refine r_aload_n (pq := 95) C dX12_init_94 rfl rfl ?_
  refine r_sipush (v := nI 3208) (pq := 98) C dX12_init_95 (by decide) rfl ?_
  refine r_newa (pq := 100) C (N := 3208) (a0 := (3208, .inl (fun _ => 0))) (1001 + 14) 0 _ rfl (fun s c1 c2 h g => Option.some.inj (h.symm.trans g)) (by decide +kernel) rfl (fun c => rfl) (nI_pos (by omega)) (nI_clamp (by omega)) (by decide) (by rw [D.2.2.2.1]; decide) (by rw [D.2.2.2.2.1]; decide) dX12_init_98 rfl (fun q14 => ?_)
  refine r_putfF (pq := 103) C D.2.2.1 14 ((va_n _ _ (by decide)).trans (PW_obj _ _ _ _ _ _)) rfl tyX12 tyX12_ok nmX12 (by decide) (by decide +kernel) rfl rfl rfl rfl rfl rfl (Nat.le_of_ble_eq_true rfl) dX12_init_100 rfl ?_
  refine GG.cast (PW_step hn 14 (by decide) (by decide) (by decide) (by decide) (by decide) (mCon_z (by decide) (by decide))) ?_
  dsimp only [List.set]
  refine r_aload_n (pq := 104) C dX12_init_103 rfl rfl ?_
  refine r_bipush (v := nI 80) (pq := 106) C dX12_init_104 (by decide) rfl ?_
  refine r_newa (pq := 108) C (N := 80) (a0 := (80, .inl (fun _ => 0))) (1001 + 15) 1 _ rfl (fun s c1 c2 h g => Option.some.inj (h.symm.trans g)) (by decide +kernel) rfl (fun c => rfl) (nI_pos (by omega)) (nI_clamp (by omega)) (by decide) (by rw [D.2.2.2.1]; decide) (by rw [D.2.2.2.2.1]; decide) dX12_init_106 rfl (fun q15 => ?_)
  refine r_putfF (pq := 111) C D.2.2.1 15 ((va_n _ _ (by decide)).trans (PW_obj _ _ _ _ _ _)) rfl tyX12 tyX12_ok nmX12 (by decide) (by decide +kernel) rfl rfl rfl rfl rfl rfl (Nat.le_of_ble_eq_true rfl) dX12_init_108 rfl ?_
  refine GG.cast (PW_step hn 15 (by decide) (by decide) (by decide) (by decide) (by decide) (mCon_z (by decide) (by decide))) ?_
  dsimp only [List.set]
  refine r_aload_n (pq := 112) C dX12_init_111 rfl rfl ?_
  refine r_bipush (v := nI 12) (pq := 114) C dX12_init_112 (by decide) rfl ?_
  refine r_newa (pq := 116) C (N := 12) (a0 := (12, .inl (fun _ => 0))) (1001 + 17) 0 _ rfl (fun s c1 c2 h g => Option.some.inj (h.symm.trans g)) (by decide +kernel) rfl (fun c => rfl) (nI_pos (by omega)) (nI_clamp (by omega)) (by decide) (by rw [D.2.2.2.1]; decide) (by rw [D.2.2.2.2.1]; decide) dX12_init_114 rfl (fun q17 => ?_)
  refine r_putfF (pq := 119) C D.2.2.1 17 ((va_n _ _ (by decide)).trans (PW_obj _ _ _ _ _ _)) rfl tyX12 tyX12_ok nmX12 (by decide) (by decide +kernel) rfl rfl rfl rfl rfl rfl (Nat.le_of_ble_eq_true rfl) dX12_init_116 rfl ?_
  refine GG.cast (PW_step hn 17 (by decide) (by decide) (by decide) (by decide) (by decide) (mCon_z (by decide) (by decide))) ?_
  dsimp only [List.set]
  refine r_aload_n (pq := 120) C dX12_init_119 rfl rfl ?_
  refine r_bipush (v := nI 12) (pq := 122) C dX12_init_120 (by decide) rfl ?_
  refine r_newa (pq := 124) C (N := 12) (a0 := (12, .inl (fun _ => 0))) (1001 + 18) 0 _ rfl (fun s c1 c2 h g => Option.some.inj (h.symm.trans g)) (by decide +kernel) rfl (fun c => rfl) (nI_pos (by omega)) (nI_clamp (by omega)) (by decide) (by rw [D.2.2.2.1]; decide) (by rw [D.2.2.2.2.1]; decide) dX12_init_122 rfl (fun q18 => ?_)
  refine r_putfF (pq := 127) C D.2.2.1 18 ((va_n _ _ (by decide)).trans (PW_obj _ _ _ _ _ _)) rfl tyX12 tyX12_ok nmX12 (by decide) (by decide +kernel) rfl rfl rfl rfl rfl rfl (Nat.le_of_ble_eq_true rfl) dX12_init_124 rfl ?_
  refine GG.cast (PW_step hn 18 (by decide) (by decide) (by decide) (by decide) (by decide) (mCon_z (by decide) (by decide))) ?_
  dsimp only [List.set]
  refine r_aload_n (pq := 128) C dX12_init_127 rfl rfl ?_
  refine r_bipush (v := nI 12) (pq := 130) C dX12_init_128 (by decide) rfl ?_
  refine r_newa (pq := 132) C (N := 12) (a0 := (12, .inl (fun _ => 0))) (1001 + 19) 0 _ rfl (fun s c1 c2 h g => Option.some.inj (h.symm.trans g)) (by decide +kernel) rfl (fun c => rfl) (nI_pos (by omega)) (nI_clamp (by omega)) (by decide) (by rw [D.2.2.2.1]; decide) (by rw [D.2.2.2.2.1]; decide) dX12_init_130 rfl (fun q19 => ?_)
  refine r_putfF (pq := 135) C D.2.2.1 19 ((va_n _ _ (by decide)).trans (PW_obj _ _ _ _ _ _)) rfl tyX12 tyX12_ok nmX12 (by decide) (by decide +kernel) rfl rfl rfl rfl rfl rfl (Nat.le_of_ble_eq_true rfl) dX12_init_132 rfl ?_
  refine GG.cast (PW_step hn 19 (by decide) (by decide) (by decide) (by decide) (by decide) (mCon_z (by decide) (by decide))) ?_
  dsimp only [List.set]
  refine r_aload_n (pq := 136) C dX12_init_135 rfl rfl ?_
  refine r_bipush (v := nI 12) (pq := 138) C dX12_init_136 (by decide) rfl ?_
  refine r_newa (pq := 140) C (N := 12) (a0 := (12, .inl (fun _ => 0))) (1001 + 20) 0 _ rfl (fun s c1 c2 h g => Option.some.inj (h.symm.trans g)) (by decide +kernel) rfl (fun c => rfl) (nI_pos (by omega)) (nI_clamp (by omega)) (by decide) (by rw [D.2.2.2.1]; decide) (by rw [D.2.2.2.2.1]; decide) dX12_init_138 rfl (fun q20 => ?_)
  refine r_putfF (pq := 143) C D.2.2.1 20 ((va_n _ _ (by decide)).trans (PW_obj _ _ _ _ _ _)) rfl tyX12 tyX12_ok nmX12 (by decide) (by decide +kernel) rfl rfl rfl rfl rfl rfl (Nat.le_of_ble_eq_true rfl) dX12_init_140 rfl ?_
  refine GG.cast (PW_step hn 20 (by decide) (by decide) (by decide) (by decide) (by decide) (mCon_z (by decide) (by decide))) ?_
  dsimp only [List.set]
  refine r_aload_n (pq := 144) C dX12_init_143 rfl rfl ?_
  refine r_sipush (v := nI 400) (pq := 147) C dX12_init_144 (by decide) rfl ?_
  refine r_newa (pq := 149) C (N := 400) (a0 := (400, .inl (fun _ => 0))) (1001 + 21) 1 _ rfl (fun s c1 c2 h g => Option.some.inj (h.symm.trans g)) (by decide +kernel) rfl (fun c => rfl) (nI_pos (by omega)) (nI_clamp (by omega)) (by decide) (by rw [D.2.2.2.1]; decide) (by rw [D.2.2.2.2.1]; decide) dX12_init_147 rfl (fun q21 => ?_)
  refine r_putfF (pq := 152) C D.2.2.1 21 ((va_n _ _ (by decide)).trans (PW_obj _ _ _ _ _ _)) rfl tyX12 tyX12_ok nmX12 (by decide) (by decide +kernel) rfl rfl rfl rfl rfl rfl (Nat.le_of_ble_eq_true rfl) dX12_init_149 rfl ?_
  refine GG.cast (PW_step hn 21 (by decide) (by decide) (by decide) (by decide) (by decide) (mCon_z (by decide) (by decide))) ?_
  dsimp only [List.set]
  refine r_aload_n (pq := 153) C dX12_init_152 rfl rfl ?_
  refine r_bipush (v := nI 8) (pq := 155) C dX12_init_153 (by decide) rfl ?_
  refine r_newa (pq := 157) C (N := 8) (a0 := (8, .inl (fun _ => 0))) (1001 + 22) 0 _ rfl (fun s c1 c2 h g => Option.some.inj (h.symm.trans g)) (by decide +kernel) rfl (fun c => rfl) (nI_pos (by omega)) (nI_clamp (by omega)) (by decide) (by rw [D.2.2.2.1]; decide) (by rw [D.2.2.2.2.1]; decide) dX12_init_155 rfl (fun q22 => ?_)
  refine r_dup (pq := 158) C dX12_init_157 rfl rfl ?_
  refine r_iconst (v := nI 0) (pq := 159) C dX12_init_158 (by decide) rfl ?_
  refine r_bipush (v := nI 51) (pq := 161) C dX12_init_159 (by decide) rfl ?_
  refine r_ini (m := 0) (pq := 162) C (by funext i; rfl) (by decide) (by decide) dX12_init_161 rfl ?_
  refine r_dup (pq := 163) C dX12_init_162 rfl rfl ?_
  refine r_iconst (v := nI 1) (pq := 164) C dX12_init_163 (by decide) rfl ?_
  refine r_bipush (v := nI 51) (pq := 166) C dX12_init_164 (by decide) rfl ?_
  refine r_ini (m := 1) (pq := 167) C rfl (by decide) (by decide) dX12_init_166 rfl ?_
  refine r_dup (pq := 168) C dX12_init_167 rfl rfl ?_
  refine r_iconst (v := nI 2) (pq := 169) C dX12_init_168 (by decide) rfl ?_
  refine r_bipush (v := nI 51) (pq := 171) C dX12_init_169 (by decide) rfl ?_
  refine r_ini (m := 2) (pq := 172) C rfl (by decide) (by decide) dX12_init_171 rfl ?_
  refine r_dup (pq := 173) C dX12_init_172 rfl rfl ?_
  refine r_iconst (v := nI 3) (pq := 174) C dX12_init_173 (by decide) rfl ?_
  refine r_bipush (v := nI 51) (pq := 176) C dX12_init_174 (by decide) rfl ?_
  refine r_ini (m := 3) (pq := 177) C rfl (by decide) (by decide) dX12_init_176 rfl ?_
  refine r_dup (pq := 178) C dX12_init_177 rfl rfl ?_
  refine r_iconst (v := nI 4) (pq := 179) C dX12_init_178 (by decide) rfl ?_
  refine r_bipush (v := nI 51) (pq := 181) C dX12_init_179 (by decide) rfl ?_
  refine r_ini (m := 4) (pq := 182) C rfl (by decide) (by decide) dX12_init_181 rfl ?_
  refine r_dup (pq := 183) C dX12_init_182 rfl rfl ?_
  refine r_iconst (v := nI 5) (pq := 184) C dX12_init_183 (by decide) rfl ?_
  refine r_bipush (v := nI 51) (pq := 186) C dX12_init_184 (by decide) rfl ?_
  refine r_ini (m := 5) (pq := 187) C rfl (by decide) (by decide) dX12_init_186 rfl ?_
  refine r_dup (pq := 188) C dX12_init_187 rfl rfl ?_
  refine r_bipush (v := nI 6) (pq := 190) C dX12_init_188 (by decide) rfl ?_
  refine r_bipush (v := nI 51) (pq := 192) C dX12_init_190 (by decide) rfl ?_
  refine r_ini (m := 6) (pq := 193) C rfl (by decide) (by decide) dX12_init_192 rfl ?_
  refine r_dup (pq := 194) C dX12_init_193 rfl rfl ?_
  refine r_bipush (v := nI 7) (pq := 196) C dX12_init_194 (by decide) rfl ?_
  refine r_bipush (v := nI 51) (pq := 198) C dX12_init_196 (by decide) rfl ?_
  refine r_ini (m := 7) (pq := 199) C rfl (by decide) (by decide) dX12_init_198 rfl ?_
  refine r_putfF (pq := 202) C D.2.2.1 22 ((va_n _ _ (by decide)).trans (PW_obj _ _ _ _ _ _)) rfl tyX12 tyX12_ok nmX12 (by decide) (by decide +kernel) rfl rfl rfl rfl rfl rfl (Nat.le_of_ble_eq_true rfl) dX12_init_199 rfl ?_
  refine GG.cast (PW_step hn 22 (by decide) (by decide) (by decide) (by decide) (by decide) mCon_22) ?_
  dsimp only [List.set]
  refine r_aload_n (pq := 203) C dX12_init_202 rfl rfl ?_
  refine r_bipush (v := nI 64) (pq := 205) C dX12_init_203 (by decide) rfl ?_
  refine r_newa (pq := 207) C (N := 64) (a0 := (64, .inl (fun _ => 0))) (1001 + 23) 0 _ rfl (fun s c1 c2 h g => Option.some.inj (h.symm.trans g)) (by decide +kernel) rfl (fun c => rfl) (nI_pos (by omega)) (nI_clamp (by omega)) (by decide) (by rw [D.2.2.2.1]; decide) (by rw [D.2.2.2.2.1]; decide) dX12_init_205 rfl (fun q23 => ?_)
  refine r_dup (pq := 208) C dX12_init_207 rfl rfl ?_
  refine r_iconst (v := nI 0) (pq := 209) C dX12_init_208 (by decide) rfl ?_
  refine r_iconst (v := -1) (pq := 210) C dX12_init_209 (by decide) rfl ?_
  refine r_ini (m := 0) (pq := 211) C (by funext i; rfl) (by decide) (by decide) dX12_init_210 rfl ?_
  refine r_dup (pq := 212) C dX12_init_211 rfl rfl ?_
  refine r_iconst (v := nI 1) (pq := 213) C dX12_init_212 (by decide) rfl ?_
  refine r_iconst (v := -1) (pq := 214) C dX12_init_213 (by decide) rfl ?_
  refine r_ini (m := 1) (pq := 215) C rfl (by decide) (by decide) dX12_init_214 rfl ?_
  refine r_dup (pq := 216) C dX12_init_215 rfl rfl ?_
  refine r_iconst (v := nI 2) (pq := 217) C dX12_init_216 (by decide) rfl ?_
  refine r_iconst (v := -1) (pq := 218) C dX12_init_217 (by decide) rfl ?_
  refine r_ini (m := 2) (pq := 219) C rfl (by decide) (by decide) dX12_init_218 rfl ?_
  refine r_dup (pq := 220) C dX12_init_219 rfl rfl ?_
  refine r_iconst (v := nI 3) (pq := 221) C dX12_init_220 (by decide) rfl ?_
  refine r_iconst (v := -1) (pq := 222) C dX12_init_221 (by decide) rfl ?_
  refine r_ini (m := 3) (pq := 223) C rfl (by decide) (by decide) dX12_init_222 rfl ?_
  refine r_dup (pq := 224) C dX12_init_223 rfl rfl ?_
  refine r_iconst (v := nI 4) (pq := 225) C dX12_init_224 (by decide) rfl ?_
  refine r_iconst (v := -1) (pq := 226) C dX12_init_225 (by decide) rfl ?_
  refine r_ini (m := 4) (pq := 227) C rfl (by decide) (by decide) dX12_init_226 rfl ?_
  refine r_dup (pq := 228) C dX12_init_227 rfl rfl ?_
  refine r_iconst (v := nI 5) (pq := 229) C dX12_init_228 (by decide) rfl ?_
  refine r_iconst (v := -1) (pq := 230) C dX12_init_229 (by decide) rfl ?_
  refine r_ini (m := 5) (pq := 231) C rfl (by decide) (by decide) dX12_init_230 rfl ?_
  refine r_dup (pq := 232) C dX12_init_231 rfl rfl ?_
  refine r_bipush (v := nI 6) (pq := 234) C dX12_init_232 (by decide) rfl ?_
  refine r_iconst (v := -1) (pq := 235) C dX12_init_234 (by decide) rfl ?_
  refine r_ini (m := 6) (pq := 236) C rfl (by decide) (by decide) dX12_init_235 rfl ?_
  refine r_dup (pq := 237) C dX12_init_236 rfl rfl ?_
  refine r_bipush (v := nI 7) (pq := 239) C dX12_init_237 (by decide) rfl ?_
  refine r_iconst (v := -1) (pq := 240) C dX12_init_239 (by decide) rfl ?_
  refine r_ini (m := 7) (pq := 241) C rfl (by decide) (by decide) dX12_init_240 rfl ?_
  refine r_dup (pq := 242) C dX12_init_241 rfl rfl ?_
  refine r_bipush (v := nI 8) (pq := 244) C dX12_init_242 (by decide) rfl ?_
  refine r_iconst (v := -1) (pq := 245) C dX12_init_244 (by decide) rfl ?_
  refine r_ini (m := 8) (pq := 246) C rfl (by decide) (by decide) dX12_init_245 rfl ?_
  refine r_dup (pq := 247) C dX12_init_246 rfl rfl ?_
  refine r_bipush (v := nI 9) (pq := 249) C dX12_init_247 (by decide) rfl ?_
  refine r_iconst (v := -1) (pq := 250) C dX12_init_249 (by decide) rfl ?_
  refine r_ini (m := 9) (pq := 251) C rfl (by decide) (by decide) dX12_init_250 rfl ?_
  refine r_dup (pq := 252) C dX12_init_251 rfl rfl ?_
  refine r_bipush (v := nI 10) (pq := 254) C dX12_init_252 (by decide) rfl ?_
  refine r_iconst (v := -1) (pq := 255) C dX12_init_254 (by decide) rfl ?_
  refine r_ini (m := 10) (pq := 256) C rfl (by decide) (by decide) dX12_init_255 rfl ?_
  refine r_dup (pq := 257) C dX12_init_256 rfl rfl ?_
  refine r_bipush (v := nI 11) (pq := 259) C dX12_init_257 (by decide) rfl ?_
  refine r_iconst (v := -1) (pq := 260) C dX12_init_259 (by decide) rfl ?_
  refine r_ini (m := 11) (pq := 261) C rfl (by decide) (by decide) dX12_init_260 rfl ?_
  refine r_dup (pq := 262) C dX12_init_261 rfl rfl ?_
  refine r_bipush (v := nI 12) (pq := 264) C dX12_init_262 (by decide) rfl ?_
  refine r_iconst (v := -1) (pq := 265) C dX12_init_264 (by decide) rfl ?_
  refine r_ini (m := 12) (pq := 266) C rfl (by decide) (by decide) dX12_init_265 rfl ?_
  refine r_dup (pq := 267) C dX12_init_266 rfl rfl ?_
  refine r_bipush (v := nI 13) (pq := 269) C dX12_init_267 (by decide) rfl ?_
  refine r_iconst (v := -1) (pq := 270) C dX12_init_269 (by decide) rfl ?_
  refine r_ini (m := 13) (pq := 271) C rfl (by decide) (by decide) dX12_init_270 rfl ?_
  refine r_dup (pq := 272) C dX12_init_271 rfl rfl ?_
  refine r_bipush (v := nI 14) (pq := 274) C dX12_init_272 (by decide) rfl ?_
  refine r_iconst (v := -1) (pq := 275) C dX12_init_274 (by decide) rfl ?_
  refine r_ini (m := 14) (pq := 276) C rfl (by decide) (by decide) dX12_init_275 rfl ?_
  refine r_dup (pq := 277) C dX12_init_276 rfl rfl ?_
  refine r_bipush (v := nI 15) (pq := 279) C dX12_init_277 (by decide) rfl ?_
  refine r_iconst (v := -1) (pq := 280) C dX12_init_279 (by decide) rfl ?_
  refine r_ini (m := 15) (pq := 281) C rfl (by decide) (by decide) dX12_init_280 rfl ?_
  refine r_dup (pq := 282) C dX12_init_281 rfl rfl ?_
  refine r_bipush (v := nI 16) (pq := 284) C dX12_init_282 (by decide) rfl ?_
  refine r_iconst (v := -1) (pq := 285) C dX12_init_284 (by decide) rfl ?_
  refine r_ini (m := 16) (pq := 286) C rfl (by decide) (by decide) dX12_init_285 rfl ?_
  refine r_dup (pq := 287) C dX12_init_286 rfl rfl ?_
  refine r_bipush (v := nI 17) (pq := 289) C dX12_init_287 (by decide) rfl ?_
  refine r_iconst (v := -1) (pq := 290) C dX12_init_289 (by decide) rfl ?_
  refine r_ini (m := 17) (pq := 291) C rfl (by decide) (by decide) dX12_init_290 rfl ?_
  refine r_dup (pq := 292) C dX12_init_291 rfl rfl ?_
  refine r_bipush (v := nI 18) (pq := 294) C dX12_init_292 (by decide) rfl ?_
  refine r_iconst (v := -1) (pq := 295) C dX12_init_294 (by decide) rfl ?_
  refine r_ini (m := 18) (pq := 296) C rfl (by decide) (by decide) dX12_init_295 rfl ?_
  refine r_dup (pq := 297) C dX12_init_296 rfl rfl ?_
  refine r_bipush (v := nI 19) (pq := 299) C dX12_init_297 (by decide) rfl ?_
  refine r_iconst (v := -1) (pq := 300) C dX12_init_299 (by decide) rfl ?_
  refine r_ini (m := 19) (pq := 301) C rfl (by decide) (by decide) dX12_init_300 rfl ?_
  refine r_dup (pq := 302) C dX12_init_301 rfl rfl ?_
  refine r_bipush (v := nI 20) (pq := 304) C dX12_init_302 (by decide) rfl ?_
  refine r_iconst (v := -1) (pq := 305) C dX12_init_304 (by decide) rfl ?_
  refine r_ini (m := 20) (pq := 306) C rfl (by decide) (by decide) dX12_init_305 rfl ?_
  refine r_dup (pq := 307) C dX12_init_306 rfl rfl ?_
  refine r_bipush (v := nI 21) (pq := 309) C dX12_init_307 (by decide) rfl ?_
  refine r_iconst (v := -1) (pq := 310) C dX12_init_309 (by decide) rfl ?_
  refine r_ini (m := 21) (pq := 311) C rfl (by decide) (by decide) dX12_init_310 rfl ?_
  refine r_dup (pq := 312) C dX12_init_311 rfl rfl ?_
  refine r_bipush (v := nI 22) (pq := 314) C dX12_init_312 (by decide) rfl ?_
  refine r_iconst (v := -1) (pq := 315) C dX12_init_314 (by decide) rfl ?_
  refine r_ini (m := 22) (pq := 316) C rfl (by decide) (by decide) dX12_init_315 rfl ?_
  refine r_dup (pq := 317) C dX12_init_316 rfl rfl ?_
  refine r_bipush (v := nI 23) (pq := 319) C dX12_init_317 (by decide) rfl ?_
  refine r_iconst (v := -1) (pq := 320) C dX12_init_319 (by decide) rfl ?_
  refine r_ini (m := 23) (pq := 321) C rfl (by decide) (by decide) dX12_init_320 rfl ?_
  refine r_dup (pq := 322) C dX12_init_321 rfl rfl ?_
  refine r_bipush (v := nI 24) (pq := 324) C dX12_init_322 (by decide) rfl ?_
  refine r_iconst (v := -1) (pq := 325) C dX12_init_324 (by decide) rfl ?_
  refine r_ini (m := 24) (pq := 326) C rfl (by decide) (by decide) dX12_init_325 rfl ?_
  refine r_dup (pq := 327) C dX12_init_326 rfl rfl ?_
  refine r_bipush (v := nI 25) (pq := 329) C dX12_init_327 (by decide) rfl ?_
  refine r_iconst (v := -1) (pq := 330) C dX12_init_329 (by decide) rfl ?_
  refine r_ini (m := 25) (pq := 331) C rfl (by decide) (by decide) dX12_init_330 rfl ?_
  refine r_dup (pq := 332) C dX12_init_331 rfl rfl ?_
  refine r_bipush (v := nI 26) (pq := 334) C dX12_init_332 (by decide) rfl ?_
  refine r_iconst (v := -1) (pq := 335) C dX12_init_334 (by decide) rfl ?_
  refine r_ini (m := 26) (pq := 336) C rfl (by decide) (by decide) dX12_init_335 rfl ?_
  refine r_dup (pq := 337) C dX12_init_336 rfl rfl ?_
  refine r_bipush (v := nI 27) (pq := 339) C dX12_init_337 (by decide) rfl ?_
  refine r_iconst (v := -1) (pq := 340) C dX12_init_339 (by decide) rfl ?_
  refine r_ini (m := 27) (pq := 341) C rfl (by decide) (by decide) dX12_init_340 rfl ?_
  refine r_dup (pq := 342) C dX12_init_341 rfl rfl ?_
  refine r_bipush (v := nI 28) (pq := 344) C dX12_init_342 (by decide) rfl ?_
  refine r_iconst (v := -1) (pq := 345) C dX12_init_344 (by decide) rfl ?_
  refine r_ini (m := 28) (pq := 346) C rfl (by decide) (by decide) dX12_init_345 rfl ?_
  refine r_dup (pq := 347) C dX12_init_346 rfl rfl ?_
  refine r_bipush (v := nI 29) (pq := 349) C dX12_init_347 (by decide) rfl ?_
  refine r_iconst (v := -1) (pq := 350) C dX12_init_349 (by decide) rfl ?_
  refine r_ini (m := 29) (pq := 351) C rfl (by decide) (by decide) dX12_init_350 rfl ?_
  refine r_dup (pq := 352) C dX12_init_351 rfl rfl ?_
  refine r_bipush (v := nI 30) (pq := 354) C dX12_init_352 (by decide) rfl ?_
  refine r_iconst (v := -1) (pq := 355) C dX12_init_354 (by decide) rfl ?_
  refine r_ini (m := 30) (pq := 356) C rfl (by decide) (by decide) dX12_init_355 rfl ?_
  refine r_dup (pq := 357) C dX12_init_356 rfl rfl ?_
  refine r_bipush (v := nI 31) (pq := 359) C dX12_init_357 (by decide) rfl ?_
  refine r_iconst (v := -1) (pq := 360) C dX12_init_359 (by decide) rfl ?_
  refine r_ini (m := 31) (pq := 361) C rfl (by decide) (by decide) dX12_init_360 rfl ?_
  refine r_dup (pq := 362) C dX12_init_361 rfl rfl ?_
  refine r_bipush (v := nI 32) (pq := 364) C dX12_init_362 (by decide) rfl ?_
  refine r_iconst (v := -1) (pq := 365) C dX12_init_364 (by decide) rfl ?_
  refine r_ini (m := 32) (pq := 366) C rfl (by decide) (by decide) dX12_init_365 rfl ?_
  refine r_dup (pq := 367) C dX12_init_366 rfl rfl ?_
  refine r_bipush (v := nI 33) (pq := 369) C dX12_init_367 (by decide) rfl ?_
  refine r_iconst (v := -1) (pq := 370) C dX12_init_369 (by decide) rfl ?_
  refine r_ini (m := 33) (pq := 371) C rfl (by decide) (by decide) dX12_init_370 rfl ?_
  refine r_dup (pq := 372) C dX12_init_371 rfl rfl ?_
  refine r_bipush (v := nI 34) (pq := 374) C dX12_init_372 (by decide) rfl ?_
  refine r_iconst (v := -1) (pq := 375) C dX12_init_374 (by decide) rfl ?_
  refine r_ini (m := 34) (pq := 376) C rfl (by decide) (by decide) dX12_init_375 rfl ?_
  refine r_dup (pq := 377) C dX12_init_376 rfl rfl ?_
  refine r_bipush (v := nI 35) (pq := 379) C dX12_init_377 (by decide) rfl ?_
  refine r_iconst (v := -1) (pq := 380) C dX12_init_379 (by decide) rfl ?_
  refine r_ini (m := 35) (pq := 381) C rfl (by decide) (by decide) dX12_init_380 rfl ?_
  refine r_dup (pq := 382) C dX12_init_381 rfl rfl ?_
  refine r_bipush (v := nI 36) (pq := 384) C dX12_init_382 (by decide) rfl ?_
  refine r_iconst (v := -1) (pq := 385) C dX12_init_384 (by decide) rfl ?_
  refine r_ini (m := 36) (pq := 386) C rfl (by decide) (by decide) dX12_init_385 rfl ?_
  refine r_dup (pq := 387) C dX12_init_386 rfl rfl ?_
  refine r_bipush (v := nI 37) (pq := 389) C dX12_init_387 (by decide) rfl ?_
  refine r_iconst (v := -1) (pq := 390) C dX12_init_389 (by decide) rfl ?_
  refine r_ini (m := 37) (pq := 391) C rfl (by decide) (by decide) dX12_init_390 rfl ?_
  refine r_dup (pq := 392) C dX12_init_391 rfl rfl ?_
  refine r_bipush (v := nI 38) (pq := 394) C dX12_init_392 (by decide) rfl ?_
  refine r_iconst (v := -1) (pq := 395) C dX12_init_394 (by decide) rfl ?_
  refine r_ini (m := 38) (pq := 396) C rfl (by decide) (by decide) dX12_init_395 rfl ?_
  refine r_dup (pq := 397) C dX12_init_396 rfl rfl ?_
  refine r_bipush (v := nI 39) (pq := 399) C dX12_init_397 (by decide) rfl ?_
  refine r_iconst (v := -1) (pq := 400) C dX12_init_399 (by decide) rfl ?_
  refine r_ini (m := 39) (pq := 401) C rfl (by decide) (by decide) dX12_init_400 rfl ?_
  refine r_dup (pq := 402) C dX12_init_401 rfl rfl ?_
  refine r_bipush (v := nI 40) (pq := 404) C dX12_init_402 (by decide) rfl ?_
  refine r_iconst (v := -1) (pq := 405) C dX12_init_404 (by decide) rfl ?_
  refine r_ini (m := 40) (pq := 406) C rfl (by decide) (by decide) dX12_init_405 rfl ?_
  refine r_dup (pq := 407) C dX12_init_406 rfl rfl ?_
  refine r_bipush (v := nI 41) (pq := 409) C dX12_init_407 (by decide) rfl ?_
  refine r_iconst (v := -1) (pq := 410) C dX12_init_409 (by decide) rfl ?_
  refine r_ini (m := 41) (pq := 411) C rfl (by decide) (by decide) dX12_init_410 rfl ?_
  refine r_dup (pq := 412) C dX12_init_411 rfl rfl ?_
  refine r_bipush (v := nI 42) (pq := 414) C dX12_init_412 (by decide) rfl ?_
  refine r_iconst (v := -1) (pq := 415) C dX12_init_414 (by decide) rfl ?_
  refine r_ini (m := 42) (pq := 416) C rfl (by decide) (by decide) dX12_init_415 rfl ?_
  refine r_dup (pq := 417) C dX12_init_416 rfl rfl ?_
  refine r_bipush (v := nI 43) (pq := 419) C dX12_init_417 (by decide) rfl ?_
  refine r_iconst (v := -1) (pq := 420) C dX12_init_419 (by decide) rfl ?_
  refine r_ini (m := 43) (pq := 421) C rfl (by decide) (by decide) dX12_init_420 rfl ?_
  refine r_dup (pq := 422) C dX12_init_421 rfl rfl ?_
  refine r_bipush (v := nI 44) (pq := 424) C dX12_init_422 (by decide) rfl ?_
  refine r_iconst (v := -1) (pq := 425) C dX12_init_424 (by decide) rfl ?_
  refine r_ini (m := 44) (pq := 426) C rfl (by decide) (by decide) dX12_init_425 rfl ?_
  refine r_dup (pq := 427) C dX12_init_426 rfl rfl ?_
  refine r_bipush (v := nI 45) (pq := 429) C dX12_init_427 (by decide) rfl ?_
  refine r_iconst (v := -1) (pq := 430) C dX12_init_429 (by decide) rfl ?_
  refine r_ini (m := 45) (pq := 431) C rfl (by decide) (by decide) dX12_init_430 rfl ?_
  refine r_dup (pq := 432) C dX12_init_431 rfl rfl ?_
  refine r_bipush (v := nI 46) (pq := 434) C dX12_init_432 (by decide) rfl ?_
  refine r_iconst (v := -1) (pq := 435) C dX12_init_434 (by decide) rfl ?_
  refine r_ini (m := 46) (pq := 436) C rfl (by decide) (by decide) dX12_init_435 rfl ?_
  refine r_dup (pq := 437) C dX12_init_436 rfl rfl ?_
  refine r_bipush (v := nI 47) (pq := 439) C dX12_init_437 (by decide) rfl ?_
  refine r_iconst (v := -1) (pq := 440) C dX12_init_439 (by decide) rfl ?_
  refine r_ini (m := 47) (pq := 441) C rfl (by decide) (by decide) dX12_init_440 rfl ?_
  refine r_dup (pq := 442) C dX12_init_441 rfl rfl ?_
  refine r_bipush (v := nI 48) (pq := 444) C dX12_init_442 (by decide) rfl ?_
  refine r_iconst (v := -1) (pq := 445) C dX12_init_444 (by decide) rfl ?_
  refine r_ini (m := 48) (pq := 446) C rfl (by decide) (by decide) dX12_init_445 rfl ?_
  refine r_dup (pq := 447) C dX12_init_446 rfl rfl ?_
  refine r_bipush (v := nI 49) (pq := 449) C dX12_init_447 (by decide) rfl ?_
  refine r_iconst (v := -1) (pq := 450) C dX12_init_449 (by decide) rfl ?_
  refine r_ini (m := 49) (pq := 451) C rfl (by decide) (by decide) dX12_init_450 rfl ?_
  refine r_dup (pq := 452) C dX12_init_451 rfl rfl ?_
  refine r_bipush (v := nI 50) (pq := 454) C dX12_init_452 (by decide) rfl ?_
  refine r_iconst (v := -1) (pq := 455) C dX12_init_454 (by decide) rfl ?_
  refine r_ini (m := 50) (pq := 456) C rfl (by decide) (by decide) dX12_init_455 rfl ?_
  refine r_dup (pq := 457) C dX12_init_456 rfl rfl ?_
  refine r_bipush (v := nI 51) (pq := 459) C dX12_init_457 (by decide) rfl ?_
  refine r_iconst (v := -1) (pq := 460) C dX12_init_459 (by decide) rfl ?_
  refine r_ini (m := 51) (pq := 461) C rfl (by decide) (by decide) dX12_init_460 rfl ?_
  refine r_dup (pq := 462) C dX12_init_461 rfl rfl ?_
  refine r_bipush (v := nI 52) (pq := 464) C dX12_init_462 (by decide) rfl ?_
  refine r_iconst (v := -1) (pq := 465) C dX12_init_464 (by decide) rfl ?_
  refine r_ini (m := 52) (pq := 466) C rfl (by decide) (by decide) dX12_init_465 rfl ?_
  refine r_dup (pq := 467) C dX12_init_466 rfl rfl ?_
  refine r_bipush (v := nI 53) (pq := 469) C dX12_init_467 (by decide) rfl ?_
  refine r_iconst (v := -1) (pq := 470) C dX12_init_469 (by decide) rfl ?_
  refine r_ini (m := 53) (pq := 471) C rfl (by decide) (by decide) dX12_init_470 rfl ?_
  refine r_dup (pq := 472) C dX12_init_471 rfl rfl ?_
  refine r_bipush (v := nI 54) (pq := 474) C dX12_init_472 (by decide) rfl ?_
  refine r_iconst (v := -1) (pq := 475) C dX12_init_474 (by decide) rfl ?_
  refine r_ini (m := 54) (pq := 476) C rfl (by decide) (by decide) dX12_init_475 rfl ?_
  refine r_dup (pq := 477) C dX12_init_476 rfl rfl ?_
  refine r_bipush (v := nI 55) (pq := 479) C dX12_init_477 (by decide) rfl ?_
  refine r_iconst (v := -1) (pq := 480) C dX12_init_479 (by decide) rfl ?_
  refine r_ini (m := 55) (pq := 481) C rfl (by decide) (by decide) dX12_init_480 rfl ?_
  refine r_dup (pq := 482) C dX12_init_481 rfl rfl ?_
  refine r_bipush (v := nI 56) (pq := 484) C dX12_init_482 (by decide) rfl ?_
  refine r_iconst (v := -1) (pq := 485) C dX12_init_484 (by decide) rfl ?_
  refine r_ini (m := 56) (pq := 486) C rfl (by decide) (by decide) dX12_init_485 rfl ?_
  refine r_dup (pq := 487) C dX12_init_486 rfl rfl ?_
  refine r_bipush (v := nI 57) (pq := 489) C dX12_init_487 (by decide) rfl ?_
  refine r_iconst (v := -1) (pq := 490) C dX12_init_489 (by decide) rfl ?_
  refine r_ini (m := 57) (pq := 491) C rfl (by decide) (by decide) dX12_init_490 rfl ?_
  refine r_dup (pq := 492) C dX12_init_491 rfl rfl ?_
  refine r_bipush (v := nI 58) (pq := 494) C dX12_init_492 (by decide) rfl ?_
  refine r_iconst (v := -1) (pq := 495) C dX12_init_494 (by decide) rfl ?_
  refine r_ini (m := 58) (pq := 496) C rfl (by decide) (by decide) dX12_init_495 rfl ?_
  refine r_dup (pq := 497) C dX12_init_496 rfl rfl ?_
  refine r_bipush (v := nI 59) (pq := 499) C dX12_init_497 (by decide) rfl ?_
  refine r_iconst (v := -1) (pq := 500) C dX12_init_499 (by decide) rfl ?_
  refine r_ini (m := 59) (pq := 501) C rfl (by decide) (by decide) dX12_init_500 rfl ?_
  refine r_dup (pq := 502) C dX12_init_501 rfl rfl ?_
  refine r_bipush (v := nI 60) (pq := 504) C dX12_init_502 (by decide) rfl ?_
  refine r_iconst (v := -1) (pq := 505) C dX12_init_504 (by decide) rfl ?_
  refine r_ini (m := 60) (pq := 506) C rfl (by decide) (by decide) dX12_init_505 rfl ?_
  refine r_dup (pq := 507) C dX12_init_506 rfl rfl ?_
  refine r_bipush (v := nI 61) (pq := 509) C dX12_init_507 (by decide) rfl ?_
  refine r_iconst (v := -1) (pq := 510) C dX12_init_509 (by decide) rfl ?_
  refine r_ini (m := 61) (pq := 511) C rfl (by decide) (by decide) dX12_init_510 rfl ?_
  refine r_dup (pq := 512) C dX12_init_511 rfl rfl ?_
  refine r_bipush (v := nI 62) (pq := 514) C dX12_init_512 (by decide) rfl ?_
  refine r_iconst (v := -1) (pq := 515) C dX12_init_514 (by decide) rfl ?_
  refine r_ini (m := 62) (pq := 516) C rfl (by decide) (by decide) dX12_init_515 rfl ?_
  refine r_dup (pq := 517) C dX12_init_516 rfl rfl ?_
  refine r_bipush (v := nI 63) (pq := 519) C dX12_init_517 (by decide) rfl ?_
  refine r_iconst (v := -1) (pq := 520) C dX12_init_519 (by decide) rfl ?_
  refine r_ini (m := 63) (pq := 521) C rfl (by decide) (by decide) dX12_init_520 rfl ?_
  refine r_putfF (pq := 524) C D.2.2.1 23 ((va_n _ _ (by decide)).trans (PW_obj _ _ _ _ _ _)) rfl tyX12 tyX12_ok nmX12 (by decide) (by decide +kernel) rfl rfl rfl rfl rfl rfl (Nat.le_of_ble_eq_true rfl) dX12_init_521 rfl ?_
  refine GG.cast (PW_step hn 23 (by decide) (by decide) (by decide) (by decide) (by decide) mCon_23) ?_
  dsimp only [List.set]
  refine r_aload_n (pq := 525) C dX12_init_524 rfl rfl ?_
  refine r_bipush (v := nI 8) (pq := 527) C dX12_init_525 (by decide) rfl ?_
  refine r_newa (pq := 529) C (N := 8) (a0 := (8, .inl (fun _ => 0))) (1001 + 24) 0 _ rfl (fun s c1 c2 h g => Option.some.inj (h.symm.trans g)) (by decide +kernel) rfl (fun c => rfl) (nI_pos (by omega)) (nI_clamp (by omega)) (by decide) (by rw [D.2.2.2.1]; decide) (by rw [D.2.2.2.2.1]; decide) dX12_init_527 rfl (fun q24 => ?_)
  refine r_putfF (pq := 532) C D.2.2.1 24 ((va_n _ _ (by decide)).trans (PW_obj _ _ _ _ _ _)) rfl tyX12 tyX12_ok nmX12 (by decide) (by decide +kernel) rfl rfl rfl rfl rfl rfl (Nat.le_of_ble_eq_true rfl) dX12_init_529 rfl ?_
  refine GG.cast (PW_step hn 24 (by decide) (by decide) (by decide) (by decide) (by decide) (mCon_z (by decide) (by decide))) ?_
  dsimp only [List.set]
  refine r_aload_n (pq := 533) C dX12_init_532 rfl rfl ?_
  refine r_bipush (v := nI 8) (pq := 535) C dX12_init_533 (by decide) rfl ?_
  refine r_newa (pq := 537) C (N := 8) (a0 := (8, .inl (fun _ => 0))) (1001 + 25) 0 _ rfl (fun s c1 c2 h g => Option.some.inj (h.symm.trans g)) (by decide +kernel) rfl (fun c => rfl) (nI_pos (by omega)) (nI_clamp (by omega)) (by decide) (by rw [D.2.2.2.1]; decide) (by rw [D.2.2.2.2.1]; decide) dX12_init_535 rfl (fun q25 => ?_)
  refine r_putfF (pq := 540) C D.2.2.1 25 ((va_n _ _ (by decide)).trans (PW_obj _ _ _ _ _ _)) rfl tyX12 tyX12_ok nmX12 (by decide) (by decide +kernel) rfl rfl rfl rfl rfl rfl (Nat.le_of_ble_eq_true rfl) dX12_init_537 rfl ?_
  refine GG.cast (PW_step hn 25 (by decide) (by decide) (by decide) (by decide) (by decide) (mCon_z (by decide) (by decide))) ?_
  dsimp only [List.set]
  refine r_aload_n (pq := 541) C dX12_init_540 rfl rfl ?_
  refine r_bipush (v := nI 8) (pq := 543) C dX12_init_541 (by decide) rfl ?_
  refine r_newa (pq := 545) C (N := 8) (a0 := (8, .inl (fun _ => 0))) (1001 + 26) 0 _ rfl (fun s c1 c2 h g => Option.some.inj (h.symm.trans g)) (by decide +kernel) rfl (fun c => rfl) (nI_pos (by omega)) (nI_clamp (by omega)) (by decide) (by rw [D.2.2.2.1]; decide) (by rw [D.2.2.2.2.1]; decide) dX12_init_543 rfl (fun q26 => ?_)
  refine r_putfF (pq := 548) C D.2.2.1 26 ((va_n _ _ (by decide)).trans (PW_obj _ _ _ _ _ _)) rfl tyX12 tyX12_ok nmX12 (by decide) (by decide +kernel) rfl rfl rfl rfl rfl rfl (Nat.le_of_ble_eq_true rfl) dX12_init_545 rfl ?_
  refine GG.cast (PW_step hn 26 (by decide) (by decide) (by decide) (by decide) (by decide) (mCon_z (by decide) (by decide))) ?_
  dsimp only [List.set]
  refine r_aload_n (pq := 549) C dX12_init_548 rfl rfl ?_
  refine r_sipush (v := nI 3200) (pq := 552) C dX12_init_549 (by decide) rfl ?_
  refine r_newa (pq := 554) C (N := 3200) (a0 := (3200, .inl (fun _ => 0))) (1001 + 27) 0 _ rfl (fun s c1 c2 h g => Option.some.inj (h.symm.trans g)) (by decide +kernel) rfl (fun c => rfl) (nI_pos (by omega)) (nI_clamp (by omega)) (by decide) (by rw [D.2.2.2.1]; decide) (by rw [D.2.2.2.2.1]; decide) dX12_init_552 rfl (fun q27 => ?_)
  refine r_putfF (pq := 557) C D.2.2.1 27 ((va_n _ _ (by decide)).trans (PW_obj _ _ _ _ _ _)) rfl tyX12 tyX12_ok nmX12 (by decide) (by decide +kernel) rfl rfl rfl rfl rfl rfl (Nat.le_of_ble_eq_true rfl) dX12_init_554 rfl ?_
  refine GG.cast (PW_step hn 27 (by decide) (by decide) (by decide) (by decide) (by decide) (mCon_z (by decide) (by decide))) ?_
  dsimp only [List.set]
  refine r_vret C D rfl ⟨Nat.le_of_ble_eq_true rfl, Nat.le_of_ble_eq_true rfl⟩ dX12_init_557 ?_
  exact ⟨rfl, _, rfl, PW_WM rfl rfl⟩


/-! ===== the law's body ===== -/
abbrev lvL (b bx am qo i : Nat) : List (Option Value) := [some (.ref b), some (.ref bx), some (.ref am), some (.ref qo), some (.int (nI i)), none, none, none]
def LW (X : XX) (b L : Nat) (xv : Nat → Int32) : Prop := va_X b L xv (xs X) (xs X).heap ∧ b < (xs X).heap.size ∧ (¬ (xE X).2.2 ≤ b) ∧ L ≤ 3072 ∧ (xl X).stackTraces = false ∧ (xR X).cells = 601024 ∧ (xR X).slots = 7293034
theorem lh.store2 {ls : Array Slot} {nL : Nat} {lv : List (Option Value)} {i : Nat} {v : Value} (h : lh ls nL lv) (hi : i + 1 < nL) (hc : v.category = 2) (ho : okst lv i = true) : ∃ ls', storeLocals ls i v = some ls' ∧ lh ls' nL ((lv.set i (some v)).set (i + 1) none) := by
  obtain ⟨h1, h2, h3⟩ := h
  obtain ⟨ls', e', g⟩ := lv_store2 (l := []) (v := v) ⟨h1, h2, fun q hq => by cases hq⟩ hi hc
  refine ⟨ls', e', g.1, g.2.1, fun j u hj => ?_⟩
  have hj1 : j ≠ i + 1 := fun q => by
    subst q
    by_cases hl : i + 1 < (lv.set i (some v)).length
    · rw [List.getElem?_set_self hl] at hj
      cases hj
    · rw [List.getElem?_eq_none (by simp at hl ⊢; omega)] at hj
      cases hj
  rw [List.getElem?_set_ne (Ne.symm hj1)] at hj
  by_cases hji : j = i
  · subst hji
    have hu : u = v := by
      by_cases hl : j < lv.length
      · rw [List.getElem?_set_self hl] at hj
        cases hj
        rfl
      · rw [List.getElem?_eq_none (by simp; omega)] at hj
        cases hj
    subst hu
    exact g.2.2 (j, u) List.mem_cons_self
  · rw [List.getElem?_set_ne (Ne.symm hji)] at hj
    obtain ⟨ls2, e2, g2⟩ := lv_store2 (l := [(j, u)]) (v := v) ⟨h1, h2, fun q hq => by
      rw [List.mem_singleton] at hq
      subst hq
      exact h3 j u hj⟩ hi hc
    have e3 : ls2 = ls' := Option.some.inj (e2.symm.trans e')
    subst e3
    refine g2.2.2 (j, u) (List.mem_cons_of_mem _ (List.mem_filter.mpr ⟨List.mem_singleton.mpr rfl, ?_⟩))
    have hx : ¬ (j + 1 = i ∧ u.category = 2) := fun ⟨q1, q2⟩ => by
      subst q1
      simp [okst, hj, q2] at ho
    simp [hji, hj1]
    by_cases q1 : j + 1 = i
    · exact Or.inr (fun q2 => hx ⟨q1, q2⟩)
    · exact Or.inl q1
section LAWROWS
variable {X : XX} {own : String} {cc : ByteArray} {Ts : List Cond} {d nL : Nat} {w : RW} {k n pc pq tg : Nat} {lv : List (Option Value)} {st : List Value}
theorem r_lstore (C : C0 X own cc Ts d nL) {i : Nat} {x : Int64} (hdg : decode cc pc = .ok (.lstore i, 2)) (hi : i + 1 < nL) (ho : okst lv i = true) (hp : pc + 2 = pq) (kk : GG X w k n pq ((lv.set i (some (.long x))).set (i + 1) none) st) : GG X w k n pc lv (.long x :: st) := by
  subst hp
  intro H locs ls a b c
  obtain ⟨ls', e', h'⟩ := lh.store2 (v := .long x) c (by rw [C.2.2.2.2.2.2.2.2]; exact hi) rfl ho
  have kw := kk H locs ls' a b h'
  intro T hT X9
  obtain ⟨t, a1, b1⟩ := kw T hT X9
  refine ⟨t, ?_, b1⟩
  have hexec := C.1
  have hb := C.2.1
  jvm_step X9.here [X9.here.top, ↓top_set X9.here.top, hexec, hb, hdg, e']
  exact a1
theorem r_lcmp0 (C : C0 X own cc Ts d nL) {x : Int64} (hdg : decode cc pc = .ok (.lcmp, 1)) (hp : pc + 1 = pq) (kk : GG X w k n pq lv (.int 0 :: st)) : GG X w k n pc lv (.long x :: .long x :: st) := by
  subst hp
  intro H locs ls a b c
  have kw := kk H locs ls a b c
  intro T hT X9
  obtain ⟨t, a1, b1⟩ := kw T hT X9
  refine ⟨t, ?_, b1⟩
  have hexec := C.1
  have hb := C.2.1
  jvm_step X9.here [X9.here.top, hexec, hb, hdg]
  simpa using a1
theorem r_sld (C : C0 X own cc Ts d nL) {b L : Nat} {xv : Nat → Int32} (S : LW X b L xv) {i : Nat} (hi : i < L) (hdg : decode cc pc = .ok (.iaload, 1)) (hp : pc + 1 = pq) (kk : GG X w k n pq lv (.int (xv i) :: st)) : GG X w k n pc lv (.int (nI i) :: .ref b :: st) := by
  subst hp
  intro H locs ls h1 h2 h3
  have hL := S.2.2.2.1
  refine va_sld C.exec C.code S.1 S.2.1 S.2.2.1 h2 (vp_in_nI hi (by omega)) hdg ?_
  rw [nI_clamp (by omega)]
  exact kk H locs ls h1 h2 h3
theorem r_slen (C : C0 X own cc Ts d nL) {b L : Nat} {xv : Nat → Int32} (S : LW X b L xv) (hdg : decode cc pc = .ok (.arraylength, 1)) (hp : pc + 1 = pq) (kk : GG X w k n pq lv (.int (nI L) :: st)) : GG X w k n pc lv (.ref b :: st) := by
  subst hp
  exact fun H locs ls h1 h2 h3 => va_slen C.exec C.code S.1 S.2.1 S.2.2.1 h2 hdg (kk H locs ls h1 h2 h3)
/-- script[i + c] -/
theorem r_scr (C : C0 X own cc Ts d nL) {b L : Nat} {xv : Nat → Int32} (S : LW X b L xv) {i c : Nat} {ci : Int} (hc : Int32.ofInt ci = nI c) (hi : i + c < L) (hl0 : lv[0]? = some (some (.ref b))) (hl4 : lv[4]? = some (some (.int (nI i)))) (d0 : decode cc pc = .ok (.aload_n 0, 1)) (d1 : decode cc (pc + 1) = .ok (.iload 4, 2)) (d3 : decode cc (pc + 3) = .ok (.iconst ci, 1)) (d4 : decode cc (pc + 4) = .ok (.iadd, 1)) (d5 : decode cc (pc + 5) = .ok (.iaload, 1)) (hp : pc + 6 = pq) (kk : GG X w k n pq lv (.int (xv (i + c)) :: st)) : GG X w k n pc lv st := by
  refine r_aload_n (pq := pc + 1) C d0 hl0 rfl ?_
  refine r_iload (pq := pc + 3) C d1 hl4 rfl ?_
  refine r_iconst (pq := pc + 4) C d3 hc rfl ?_
  refine rN_iadd (pq := pc + 5) C d4 rfl ?_
  exact r_sld (pq := pq) C S hi d5 hp kk
end LAWROWS
/-- where the law stands between two calls: the class and the reference by one state -/
def LI (X : XX) (bx am qo : Nat) (B A : Nat → Nat) (s : ST) (w : RW) : Prop := SI s ∧ NS (xE X) B s w ∧ w = WM (xE X) A w s.1 s.2.1 s.2.2 ∧ B 0 = bx ∧ A 0 = am ∧ ∃ fo, w 2000 = some (qo, .inl ((xE X).2.1 3, 1, .inr (.inl fo)))
theorem LI.mid {X : XX} {bx am qo : Nat} {B A : Nat → Nat} {s : ST} {w w1 : RW} (h : LI X bx am qo B A s w) (hw : ∀ q, 1000 ≤ q → q < 1029 → w1 q = w q) : w1 = WM (xE X) A w1 s.1 s.2.1 s.2.2 := by
  funext r
  by_cases hr : 1000 ≤ r ∧ r < 1029
  · have e : w r = WM (xE X) A w s.1 s.2.1 s.2.2 r := congrFun h.2.2.1 r
    refine (hw r hr.1 hr.2).trans (e.trans ?_)
    unfold WM
    rw [if_pos hr, if_pos hr]
  · unfold WM
    rw [if_neg hr]
theorem WM_WM (E : EV) (A : Nat → Nat) (w : RW) (t : ST) : WM E A w t.1 t.2.1 t.2.2 = WM E A (WM E A w t.1 t.2.1 t.2.2) t.1 t.2.1 t.2.2 := by
  funext r
  by_cases hr : 1000 ≤ r ∧ r < 1029
  · unfold WM
    rw [if_pos hr, if_pos hr]
  · exact (WM_else _ _ _ _ _ _ (by omega)).symm
theorem LI.next {X : XX} {bx am qo : Nat} {B B' A : Nat → Nat} {s s' t : ST} {w w1 : RW} (h : LI X bx am qo B A s w) (hs : SR s') (q1 : ∀ q, 1000 ≤ q → w1 q = w q) (hB' : B' 0 = B 0) (hN' : NS (xE X) B' s' w1) (hm : mOK t.1 t.2.1) (he : EQ s' t) : LI X bx am qo B' A t (WM (xE X) A w1 t.1 t.2.1 t.2.2) := by
  obtain ⟨hS, hN, hW, hB, hA, fo, ho⟩ := h
  refine ⟨he.si hs hm, he.ns (hN'.w hs (fun q hq => WM_else _ _ _ _ _ _ (Or.inl hq))), WM_WM _ _ _ _, hB'.trans hB, hA, fo, ?_⟩
  rw [WM_else _ _ _ _ _ _ (Or.inr (by decide)), q1 2000 (by decide)]
  exact ho
theorem nI_bits (x : Int32) : ∃ m : Nat, x = nI m := ⟨x.toBitVec.toNat, by
  apply Int32.toBitVec_inj.mp
  show x.toBitVec = BitVec.ofNat 32 x.toBitVec.toNat
  rw [BitVec.ofNat_toNat, BitVec.setWidth_eq]⟩
theorem and31 (x : Int32) : ∃ c : Nat, c < 32 ∧ x &&& nI 31 = nI c := by
  obtain ⟨m, rfl⟩ := nI_bits x
  exact ⟨m &&& 31, by have := Nat.and_le_right (n := m) (m := 31); omega, by rw [na_and]⟩

set_option maxHeartbeats 4000000 in
set_option maxRecDepth 100000 in
theorem lc_0 {X : XX} {b L : Nat} {xv : Nat → Int32} (C : C0 X RL cL_law wsL_law 9 8) (S : LW X b L xv) {bx am qo i k n : Nat} {B A : Nat → Nat} {s : ST} {w : RW} (h : LI X bx am qo B A s w) (hi : i + 6 ≤ L) (hk : k + 3 ≤ 601024) (hn : n + 402 ≤ 7293034) (K : ∀ (w' : RW) (B' : Nat → Nat) (t : ST) (k' n' : Nat), k' ≤ k + 3 → n' ≤ n + 402 → LI X bx am qo B' A t w' → GG X w' k' n' 1603 (lvL b bx am qo i) []) : GG X w k n 172 (lvL b bx am qo i) [] := by
  have h9 := h
  obtain ⟨hS, hN, hW, rfl, rfl, fo, ho⟩ := h9
  refine r_aload_n (pq := 173) C dL_law_172 rfl rfl ?_
  refine r_scr (c := 1) (pq := 179) C S (by decide) (by omega) rfl rfl dL_law_173 dL_law_174 dL_law_176 dL_law_177 dL_law_178 rfl ?_
  refine r_scr (c := 2) (pq := 185) C S (by decide) (by omega) rfl rfl dL_law_179 dL_law_180 dL_law_182 dL_law_183 dL_law_184 rfl ?_
  refine r_callV (pq := 188) C (As := [.int (xv (i + 1)), .int (xv (i + 2))]) (mc_X11_person hS hN) hN.1 rfl gL_law_X11_person rfl (na := 2) (by decide +kernel) rfl (by decide) (by decide) (Nat.le_of_ble_eq_true rfl) ⟨by rw [S.2.2.2.2.2.1]; omega, by rw [S.2.2.2.2.2.2]; omega⟩ dL_law_185 rfl rfl (fun r9 w9 hq => ?_)
  obtain ⟨rfl, q1, B9, hB9, hN9⟩ := hq
  dsimp only [Option.toList, List.cons_append, List.nil_append]
  refine GG.cast (h.mid (fun q z1 _ => q1 q z1)) ?_
  refine r_aload_n (pq := 189) C dL_law_188 rfl rfl ?_
  refine r_scr (c := 1) (pq := 195) C S (by decide) (by omega) rfl rfl dL_law_189 dL_law_190 dL_law_192 dL_law_193 dL_law_194 rfl ?_
  refine r_scr (c := 2) (pq := 201) C S (by decide) (by omega) rfl rfl dL_law_195 dL_law_196 dL_law_198 dL_law_199 dL_law_200 rfl ?_
  refine r_callV (pq := 204) C (As := [.int (xv (i + 1)), .int (xv (i + 2))]) (mc_X12_person (w0 := w9) hS) (WM_obj _ _ _ _ _ _) rfl gL_law_X12_person rfl (na := 2) (by decide +kernel) rfl (by decide) (by decide) (Nat.le_of_ble_eq_true rfl) ⟨by rw [S.2.2.2.2.2.1]; omega, by rw [S.2.2.2.2.2.2]; omega⟩ dL_law_201 rfl rfl (fun r8 w8 hq => ?_)
  obtain ⟨rfl, t, rfl, hm, he⟩ := hq
  dsimp only [Option.toList, List.cons_append, List.nil_append]
  refine r_icmp_eq (tg := 1603) (pq := 207) C dL_law_204 (by decide) rfl (fun _ => ?_) (fun c => absurd rfl c)
  exact K _ B9 t _ _ (by omega) (by omega) (h.next (hS.sr.person _ _) q1 hB9 hN9 hm he)

set_option maxHeartbeats 4000000 in
set_option maxRecDepth 100000 in
theorem lc_1 {X : XX} {b L : Nat} {xv : Nat → Int32} (C : C0 X RL cL_law wsL_law 9 8) (S : LW X b L xv) {bx am qo i k n : Nat} {B A : Nat → Nat} {s : ST} {w : RW} (h : LI X bx am qo B A s w) (hi : i + 6 ≤ L) (hk : k + 3 ≤ 601024) (hn : n + 402 ≤ 7293034) (K : ∀ (w' : RW) (B' : Nat → Nat) (t : ST) (k' n' : Nat), k' ≤ k + 3 → n' ≤ n + 402 → LI X bx am qo B' A t w' → GG X w' k' n' 1603 (lvL b bx am qo i) []) : GG X w k n 209 (lvL b bx am qo i) [] := by
  have h9 := h
  obtain ⟨hS, hN, hW, rfl, rfl, fo, ho⟩ := h9
  refine r_aload_n (pq := 210) C dL_law_209 rfl rfl ?_
  refine r_scr (c := 1) (pq := 216) C S (by decide) (by omega) rfl rfl dL_law_210 dL_law_211 dL_law_213 dL_law_214 dL_law_215 rfl ?_
  refine r_scr (c := 2) (pq := 222) C S (by decide) (by omega) rfl rfl dL_law_216 dL_law_217 dL_law_219 dL_law_220 dL_law_221 rfl ?_
  refine r_scr (c := 3) (pq := 228) C S (by decide) (by omega) rfl rfl dL_law_222 dL_law_223 dL_law_225 dL_law_226 dL_law_227 rfl ?_
  refine r_scr (c := 4) (pq := 234) C S (by decide) (by omega) rfl rfl dL_law_228 dL_law_229 dL_law_231 dL_law_232 dL_law_233 rfl ?_
  refine r_callV (pq := 237) C (As := [.int (xv (i + 1)), .int (xv (i + 2)), .int (xv (i + 3)), .int (xv (i + 4))]) (mc_X11_span hS hN) hN.1 rfl gL_law_X11_span rfl (na := 4) (by decide +kernel) rfl (by decide) (by decide) (Nat.le_of_ble_eq_true rfl) ⟨by rw [S.2.2.2.2.2.1]; omega, by rw [S.2.2.2.2.2.2]; omega⟩ dL_law_234 rfl rfl (fun r9 w9 hq => ?_)
  obtain ⟨rfl, q1, B9, hB9, hN9⟩ := hq
  dsimp only [Option.toList, List.cons_append, List.nil_append]
  refine GG.cast (h.mid (fun q z1 _ => q1 q z1)) ?_
  refine r_aload_n (pq := 238) C dL_law_237 rfl rfl ?_
  refine r_scr (c := 1) (pq := 244) C S (by decide) (by omega) rfl rfl dL_law_238 dL_law_239 dL_law_241 dL_law_242 dL_law_243 rfl ?_
  refine r_scr (c := 2) (pq := 250) C S (by decide) (by omega) rfl rfl dL_law_244 dL_law_245 dL_law_247 dL_law_248 dL_law_249 rfl ?_
  refine r_scr (c := 3) (pq := 256) C S (by decide) (by omega) rfl rfl dL_law_250 dL_law_251 dL_law_253 dL_law_254 dL_law_255 rfl ?_
  refine r_scr (c := 4) (pq := 262) C S (by decide) (by omega) rfl rfl dL_law_256 dL_law_257 dL_law_259 dL_law_260 dL_law_261 rfl ?_
  refine r_callV (pq := 265) C (As := [.int (xv (i + 1)), .int (xv (i + 2)), .int (xv (i + 3)), .int (xv (i + 4))]) (mc_X12_span (w0 := w9) hS) (WM_obj _ _ _ _ _ _) rfl gL_law_X12_span rfl (na := 4) (by decide +kernel) rfl (by decide) (by decide) (Nat.le_of_ble_eq_true rfl) ⟨by rw [S.2.2.2.2.2.1]; omega, by rw [S.2.2.2.2.2.2]; omega⟩ dL_law_262 rfl rfl (fun r8 w8 hq => ?_)
  obtain ⟨rfl, t, rfl, hm, he⟩ := hq
  dsimp only [Option.toList, List.cons_append, List.nil_append]
  refine r_icmp_eq (tg := 1603) (pq := 268) C dL_law_265 (by decide) rfl (fun _ => ?_) (fun c => absurd rfl c)
  exact K _ B9 t _ _ (by omega) (by omega) (h.next (hS.sr.span _ _ _ _) q1 hB9 hN9 hm he)

set_option maxHeartbeats 4000000 in
set_option maxRecDepth 100000 in
theorem lc_2 {X : XX} {b L : Nat} {xv : Nat → Int32} (C : C0 X RL cL_law wsL_law 9 8) (S : LW X b L xv) {bx am qo i k n : Nat} {B A : Nat → Nat} {s : ST} {w : RW} (h : LI X bx am qo B A s w) (hi : i + 6 ≤ L) (hk : k + 3 ≤ 601024) (hn : n + 402 ≤ 7293034) (K : ∀ (w' : RW) (B' : Nat → Nat) (t : ST) (k' n' : Nat), k' ≤ k + 3 → n' ≤ n + 402 → LI X bx am qo B' A t w' → GG X w' k' n' 1603 (lvL b bx am qo i) []) : GG X w k n 270 (lvL b bx am qo i) [] := by
  have h9 := h
  obtain ⟨hS, hN, hW, rfl, rfl, fo, ho⟩ := h9
  by_cases hz : xv (i + 4) = 0
  · skip
    refine r_aload_n (pq := 271) C dL_law_270 rfl rfl ?_
    refine r_scr (c := 1) (pq := 277) C S (by decide) (by omega) rfl rfl dL_law_271 dL_law_272 dL_law_274 dL_law_275 dL_law_276 rfl ?_
    refine r_scr (c := 2) (pq := 283) C S (by decide) (by omega) rfl rfl dL_law_277 dL_law_278 dL_law_280 dL_law_281 dL_law_282 rfl ?_
    refine r_scr (c := 3) (pq := 289) C S (by decide) (by omega) rfl rfl dL_law_283 dL_law_284 dL_law_286 dL_law_287 dL_law_288 rfl ?_
    refine r_scr (c := 4) (pq := 295) C S (by decide) (by omega) rfl rfl dL_law_289 dL_law_290 dL_law_292 dL_law_293 dL_law_294 rfl ?_
    refine r_if_eq (tg := 302) (pq := 298) C dL_law_295 (by decide) rfl (fun _ => ?_) (fun c => absurd hz c)
    refine r_iconst (v := nI 0) (pq := 303) C dL_law_302 (by decide) rfl ?_
    refine r_callV (pq := 306) C (As := [.int (xv (i + 1)), .int (xv (i + 2)), .int (xv (i + 3)), .int (nI 0)]) (mc_X11_slept hS hN (by decide)) hN.1 rfl gL_law_X11_slept rfl (na := 4) (by decide +kernel) rfl (by decide) (by decide) (Nat.le_of_ble_eq_true rfl) ⟨by rw [S.2.2.2.2.2.1]; omega, by rw [S.2.2.2.2.2.2]; omega⟩ dL_law_303 rfl rfl (fun r9 w9 hq => ?_)
    obtain ⟨rfl, q1, B9, hB9, hN9⟩ := hq
    dsimp only [Option.toList, List.cons_append, List.nil_append]
    refine GG.cast (h.mid (fun q z1 _ => q1 q z1)) ?_
    refine r_aload_n (pq := 307) C dL_law_306 rfl rfl ?_
    refine r_scr (c := 1) (pq := 313) C S (by decide) (by omega) rfl rfl dL_law_307 dL_law_308 dL_law_310 dL_law_311 dL_law_312 rfl ?_
    refine r_scr (c := 2) (pq := 319) C S (by decide) (by omega) rfl rfl dL_law_313 dL_law_314 dL_law_316 dL_law_317 dL_law_318 rfl ?_
    refine r_scr (c := 3) (pq := 325) C S (by decide) (by omega) rfl rfl dL_law_319 dL_law_320 dL_law_322 dL_law_323 dL_law_324 rfl ?_
    refine r_scr (c := 4) (pq := 331) C S (by decide) (by omega) rfl rfl dL_law_325 dL_law_326 dL_law_328 dL_law_329 dL_law_330 rfl ?_
    refine r_if_eq (tg := 338) (pq := 334) C dL_law_331 (by decide) rfl (fun _ => ?_) (fun c => absurd hz c)
    refine r_iconst (v := nI 0) (pq := 339) C dL_law_338 (by decide) rfl ?_
    refine r_callV (pq := 342) C (As := [.int (xv (i + 1)), .int (xv (i + 2)), .int (xv (i + 3)), .int (nI 0)]) (mc_X12_slept (w0 := w9) hS (by decide)) (WM_obj _ _ _ _ _ _) rfl gL_law_X12_slept rfl (na := 4) (by decide +kernel) rfl (by decide) (by decide) (Nat.le_of_ble_eq_true rfl) ⟨by rw [S.2.2.2.2.2.1]; omega, by rw [S.2.2.2.2.2.2]; omega⟩ dL_law_339 rfl rfl (fun r8 w8 hq => ?_)
    obtain ⟨rfl, t, rfl, hm, he⟩ := hq
    dsimp only [Option.toList, List.cons_append, List.nil_append]
    refine r_icmp_eq (tg := 1603) (pq := 345) C dL_law_342 (by decide) rfl (fun _ => ?_) (fun c => absurd rfl c)
    exact K _ B9 t _ _ (by omega) (by omega) (h.next (hS.sr.slept _ _ _ _) q1 hB9 hN9 hm he)
  · skip
    refine r_aload_n (pq := 271) C dL_law_270 rfl rfl ?_
    refine r_scr (c := 1) (pq := 277) C S (by decide) (by omega) rfl rfl dL_law_271 dL_law_272 dL_law_274 dL_law_275 dL_law_276 rfl ?_
    refine r_scr (c := 2) (pq := 283) C S (by decide) (by omega) rfl rfl dL_law_277 dL_law_278 dL_law_280 dL_law_281 dL_law_282 rfl ?_
    refine r_scr (c := 3) (pq := 289) C S (by decide) (by omega) rfl rfl dL_law_283 dL_law_284 dL_law_286 dL_law_287 dL_law_288 rfl ?_
    refine r_scr (c := 4) (pq := 295) C S (by decide) (by omega) rfl rfl dL_law_289 dL_law_290 dL_law_292 dL_law_293 dL_law_294 rfl ?_
    refine r_if_eq (tg := 302) (pq := 298) C dL_law_295 (by decide) rfl (fun c => absurd c hz) (fun _ => ?_)
    refine r_iconst (v := nI 1) (pq := 299) C dL_law_298 (by decide) rfl ?_
    refine r_goto (tg := 303) C dL_law_299 (by decide) ?_
    refine r_callV (pq := 306) C (As := [.int (xv (i + 1)), .int (xv (i + 2)), .int (xv (i + 3)), .int (nI 1)]) (mc_X11_slept hS hN (by decide)) hN.1 rfl gL_law_X11_slept rfl (na := 4) (by decide +kernel) rfl (by decide) (by decide) (Nat.le_of_ble_eq_true rfl) ⟨by rw [S.2.2.2.2.2.1]; omega, by rw [S.2.2.2.2.2.2]; omega⟩ dL_law_303 rfl rfl (fun r9 w9 hq => ?_)
    obtain ⟨rfl, q1, B9, hB9, hN9⟩ := hq
    dsimp only [Option.toList, List.cons_append, List.nil_append]
    refine GG.cast (h.mid (fun q z1 _ => q1 q z1)) ?_
    refine r_aload_n (pq := 307) C dL_law_306 rfl rfl ?_
    refine r_scr (c := 1) (pq := 313) C S (by decide) (by omega) rfl rfl dL_law_307 dL_law_308 dL_law_310 dL_law_311 dL_law_312 rfl ?_
    refine r_scr (c := 2) (pq := 319) C S (by decide) (by omega) rfl rfl dL_law_313 dL_law_314 dL_law_316 dL_law_317 dL_law_318 rfl ?_
    refine r_scr (c := 3) (pq := 325) C S (by decide) (by omega) rfl rfl dL_law_319 dL_law_320 dL_law_322 dL_law_323 dL_law_324 rfl ?_
    refine r_scr (c := 4) (pq := 331) C S (by decide) (by omega) rfl rfl dL_law_325 dL_law_326 dL_law_328 dL_law_329 dL_law_330 rfl ?_
    refine r_if_eq (tg := 338) (pq := 334) C dL_law_331 (by decide) rfl (fun c => absurd c hz) (fun _ => ?_)
    refine r_iconst (v := nI 1) (pq := 335) C dL_law_334 (by decide) rfl ?_
    refine r_goto (tg := 339) C dL_law_335 (by decide) ?_
    refine r_callV (pq := 342) C (As := [.int (xv (i + 1)), .int (xv (i + 2)), .int (xv (i + 3)), .int (nI 1)]) (mc_X12_slept (w0 := w9) hS (by decide)) (WM_obj _ _ _ _ _ _) rfl gL_law_X12_slept rfl (na := 4) (by decide +kernel) rfl (by decide) (by decide) (Nat.le_of_ble_eq_true rfl) ⟨by rw [S.2.2.2.2.2.1]; omega, by rw [S.2.2.2.2.2.2]; omega⟩ dL_law_339 rfl rfl (fun r8 w8 hq => ?_)
    obtain ⟨rfl, t, rfl, hm, he⟩ := hq
    dsimp only [Option.toList, List.cons_append, List.nil_append]
    refine r_icmp_eq (tg := 1603) (pq := 345) C dL_law_342 (by decide) rfl (fun _ => ?_) (fun c => absurd rfl c)
    exact K _ B9 t _ _ (by omega) (by omega) (h.next (hS.sr.slept _ _ _ _) q1 hB9 hN9 hm he)

set_option maxHeartbeats 4000000 in
set_option maxRecDepth 100000 in
theorem lc_3 {X : XX} {b L : Nat} {xv : Nat → Int32} (C : C0 X RL cL_law wsL_law 9 8) (S : LW X b L xv) {bx am qo i k n : Nat} {B A : Nat → Nat} {s : ST} {w : RW} (h : LI X bx am qo B A s w) (hi : i + 6 ≤ L) (hk : k + 3 ≤ 601024) (hn : n + 402 ≤ 7293034) (K : ∀ (w' : RW) (B' : Nat → Nat) (t : ST) (k' n' : Nat), k' ≤ k + 3 → n' ≤ n + 402 → LI X bx am qo B' A t w' → GG X w' k' n' 1603 (lvL b bx am qo i) []) : GG X w k n 347 (lvL b bx am qo i) [] := by
  have h9 := h
  obtain ⟨hS, hN, hW, rfl, rfl, fo, ho⟩ := h9
  refine r_aload_n (pq := 348) C dL_law_347 rfl rfl ?_
  refine r_scr (c := 1) (pq := 354) C S (by decide) (by omega) rfl rfl dL_law_348 dL_law_349 dL_law_351 dL_law_352 dL_law_353 rfl ?_
  refine r_scr (c := 2) (pq := 360) C S (by decide) (by omega) rfl rfl dL_law_354 dL_law_355 dL_law_357 dL_law_358 dL_law_359 rfl ?_
  refine r_scr (c := 3) (pq := 366) C S (by decide) (by omega) rfl rfl dL_law_360 dL_law_361 dL_law_363 dL_law_364 dL_law_365 rfl ?_
  refine r_scr (c := 4) (pq := 372) C S (by decide) (by omega) rfl rfl dL_law_366 dL_law_367 dL_law_369 dL_law_370 dL_law_371 rfl ?_
  refine r_callV (pq := 375) C (As := [.int (xv (i + 1)), .int (xv (i + 2)), .int (xv (i + 3)), .int (xv (i + 4))]) (mc_X11_stamp hS hN) hN.1 rfl gL_law_X11_stamp rfl (na := 4) (by decide +kernel) rfl (by decide) (by decide) (Nat.le_of_ble_eq_true rfl) ⟨by rw [S.2.2.2.2.2.1]; omega, by rw [S.2.2.2.2.2.2]; omega⟩ dL_law_372 rfl rfl (fun r9 w9 hq => ?_)
  obtain ⟨rfl, q1, B9, hB9, hN9⟩ := hq
  dsimp only [Option.toList, List.cons_append, List.nil_append]
  refine GG.cast (h.mid (fun q z1 _ => q1 q z1)) ?_
  refine r_aload_n (pq := 376) C dL_law_375 rfl rfl ?_
  refine r_scr (c := 1) (pq := 382) C S (by decide) (by omega) rfl rfl dL_law_376 dL_law_377 dL_law_379 dL_law_380 dL_law_381 rfl ?_
  refine r_scr (c := 2) (pq := 388) C S (by decide) (by omega) rfl rfl dL_law_382 dL_law_383 dL_law_385 dL_law_386 dL_law_387 rfl ?_
  refine r_scr (c := 3) (pq := 394) C S (by decide) (by omega) rfl rfl dL_law_388 dL_law_389 dL_law_391 dL_law_392 dL_law_393 rfl ?_
  refine r_scr (c := 4) (pq := 400) C S (by decide) (by omega) rfl rfl dL_law_394 dL_law_395 dL_law_397 dL_law_398 dL_law_399 rfl ?_
  refine r_callV (pq := 403) C (As := [.int (xv (i + 1)), .int (xv (i + 2)), .int (xv (i + 3)), .int (xv (i + 4))]) (mc_X12_stamp (w0 := w9) hS) (WM_obj _ _ _ _ _ _) rfl gL_law_X12_stamp rfl (na := 4) (by decide +kernel) rfl (by decide) (by decide) (Nat.le_of_ble_eq_true rfl) ⟨by rw [S.2.2.2.2.2.1]; omega, by rw [S.2.2.2.2.2.2]; omega⟩ dL_law_400 rfl rfl (fun r8 w8 hq => ?_)
  obtain ⟨rfl, t, rfl, hm, he⟩ := hq
  dsimp only [Option.toList, List.cons_append, List.nil_append]
  refine r_icmp_eq (tg := 1603) (pq := 406) C dL_law_403 (by decide) rfl (fun _ => ?_) (fun c => absurd rfl c)
  exact K _ B9 t _ _ (by omega) (by omega) (h.next (hS.sr.stamp _ _ _ _) q1 hB9 hN9 hm he)

set_option maxHeartbeats 4000000 in
set_option maxRecDepth 100000 in
theorem lc_4 {X : XX} {b L : Nat} {xv : Nat → Int32} (C : C0 X RL cL_law wsL_law 9 8) (S : LW X b L xv) {bx am qo i k n : Nat} {B A : Nat → Nat} {s : ST} {w : RW} (h : LI X bx am qo B A s w) (hi : i + 6 ≤ L) (hk : k + 3 ≤ 601024) (hn : n + 402 ≤ 7293034) (K : ∀ (w' : RW) (B' : Nat → Nat) (t : ST) (k' n' : Nat), k' ≤ k + 3 → n' ≤ n + 402 → LI X bx am qo B' A t w' → GG X w' k' n' 1603 (lvL b bx am qo i) []) : GG X w k n 408 (lvL b bx am qo i) [] := by
  have h9 := h
  obtain ⟨hS, hN, hW, rfl, rfl, fo, ho⟩ := h9
  by_cases hz : xv (i + 2) = 0
  · skip
    refine r_aload_n (pq := 409) C dL_law_408 rfl rfl ?_
    refine r_scr (c := 1) (pq := 415) C S (by decide) (by omega) rfl rfl dL_law_409 dL_law_410 dL_law_412 dL_law_413 dL_law_414 rfl ?_
    refine r_scr (c := 2) (pq := 421) C S (by decide) (by omega) rfl rfl dL_law_415 dL_law_416 dL_law_418 dL_law_419 dL_law_420 rfl ?_
    refine r_if_eq (tg := 428) (pq := 424) C dL_law_421 (by decide) rfl (fun _ => ?_) (fun c => absurd hz c)
    refine r_iconst (v := nI 0) (pq := 429) C dL_law_428 (by decide) rfl ?_
    refine r_callV (pq := 432) C (As := [.int (xv (i + 1)), .int (nI 0)]) (mc_X11_drop hS hN (by decide)) hN.1 rfl gL_law_X11_drop rfl (na := 2) (by decide +kernel) rfl (by decide) (by decide) (Nat.le_of_ble_eq_true rfl) ⟨by rw [S.2.2.2.2.2.1]; omega, by rw [S.2.2.2.2.2.2]; omega⟩ dL_law_429 rfl rfl (fun r9 w9 hq => ?_)
    obtain ⟨rfl, q1, B9, hB9, hN9⟩ := hq
    dsimp only [Option.toList, List.cons_append, List.nil_append]
    refine GG.cast (h.mid (fun q z1 _ => q1 q z1)) ?_
    refine r_aload_n (pq := 433) C dL_law_432 rfl rfl ?_
    refine r_scr (c := 1) (pq := 439) C S (by decide) (by omega) rfl rfl dL_law_433 dL_law_434 dL_law_436 dL_law_437 dL_law_438 rfl ?_
    refine r_scr (c := 2) (pq := 445) C S (by decide) (by omega) rfl rfl dL_law_439 dL_law_440 dL_law_442 dL_law_443 dL_law_444 rfl ?_
    refine r_if_eq (tg := 452) (pq := 448) C dL_law_445 (by decide) rfl (fun _ => ?_) (fun c => absurd hz c)
    refine r_iconst (v := nI 0) (pq := 453) C dL_law_452 (by decide) rfl ?_
    refine r_callV (pq := 456) C (As := [.int (xv (i + 1)), .int (nI 0)]) (mc_X12_drop (w0 := w9) hS (by decide)) (WM_obj _ _ _ _ _ _) rfl gL_law_X12_drop rfl (na := 2) (by decide +kernel) rfl (by decide) (by decide) (Nat.le_of_ble_eq_true rfl) ⟨by rw [S.2.2.2.2.2.1]; omega, by rw [S.2.2.2.2.2.2]; omega⟩ dL_law_453 rfl rfl (fun r8 w8 hq => ?_)
    obtain ⟨rfl, t, rfl, hm, he⟩ := hq
    dsimp only [Option.toList, List.cons_append, List.nil_append]
    refine r_icmp_eq (tg := 1603) (pq := 459) C dL_law_456 (by decide) rfl (fun _ => ?_) (fun c => absurd rfl c)
    exact K _ B9 t _ _ (by omega) (by omega) (h.next (hS.sr.drop _ (by decide)) q1 hB9 hN9 hm he)
  · skip
    refine r_aload_n (pq := 409) C dL_law_408 rfl rfl ?_
    refine r_scr (c := 1) (pq := 415) C S (by decide) (by omega) rfl rfl dL_law_409 dL_law_410 dL_law_412 dL_law_413 dL_law_414 rfl ?_
    refine r_scr (c := 2) (pq := 421) C S (by decide) (by omega) rfl rfl dL_law_415 dL_law_416 dL_law_418 dL_law_419 dL_law_420 rfl ?_
    refine r_if_eq (tg := 428) (pq := 424) C dL_law_421 (by decide) rfl (fun c => absurd c hz) (fun _ => ?_)
    refine r_iconst (v := nI 1) (pq := 425) C dL_law_424 (by decide) rfl ?_
    refine r_goto (tg := 429) C dL_law_425 (by decide) ?_
    refine r_callV (pq := 432) C (As := [.int (xv (i + 1)), .int (nI 1)]) (mc_X11_drop hS hN (by decide)) hN.1 rfl gL_law_X11_drop rfl (na := 2) (by decide +kernel) rfl (by decide) (by decide) (Nat.le_of_ble_eq_true rfl) ⟨by rw [S.2.2.2.2.2.1]; omega, by rw [S.2.2.2.2.2.2]; omega⟩ dL_law_429 rfl rfl (fun r9 w9 hq => ?_)
    obtain ⟨rfl, q1, B9, hB9, hN9⟩ := hq
    dsimp only [Option.toList, List.cons_append, List.nil_append]
    refine GG.cast (h.mid (fun q z1 _ => q1 q z1)) ?_
    refine r_aload_n (pq := 433) C dL_law_432 rfl rfl ?_
    refine r_scr (c := 1) (pq := 439) C S (by decide) (by omega) rfl rfl dL_law_433 dL_law_434 dL_law_436 dL_law_437 dL_law_438 rfl ?_
    refine r_scr (c := 2) (pq := 445) C S (by decide) (by omega) rfl rfl dL_law_439 dL_law_440 dL_law_442 dL_law_443 dL_law_444 rfl ?_
    refine r_if_eq (tg := 452) (pq := 448) C dL_law_445 (by decide) rfl (fun c => absurd c hz) (fun _ => ?_)
    refine r_iconst (v := nI 1) (pq := 449) C dL_law_448 (by decide) rfl ?_
    refine r_goto (tg := 453) C dL_law_449 (by decide) ?_
    refine r_callV (pq := 456) C (As := [.int (xv (i + 1)), .int (nI 1)]) (mc_X12_drop (w0 := w9) hS (by decide)) (WM_obj _ _ _ _ _ _) rfl gL_law_X12_drop rfl (na := 2) (by decide +kernel) rfl (by decide) (by decide) (Nat.le_of_ble_eq_true rfl) ⟨by rw [S.2.2.2.2.2.1]; omega, by rw [S.2.2.2.2.2.2]; omega⟩ dL_law_453 rfl rfl (fun r8 w8 hq => ?_)
    obtain ⟨rfl, t, rfl, hm, he⟩ := hq
    dsimp only [Option.toList, List.cons_append, List.nil_append]
    refine r_icmp_eq (tg := 1603) (pq := 459) C dL_law_456 (by decide) rfl (fun _ => ?_) (fun c => absurd rfl c)
    exact K _ B9 t _ _ (by omega) (by omega) (h.next (hS.sr.drop _ (by decide)) q1 hB9 hN9 hm he)

set_option maxHeartbeats 4000000 in
set_option maxRecDepth 100000 in
theorem lc_5 {X : XX} {b L : Nat} {xv : Nat → Int32} (C : C0 X RL cL_law wsL_law 9 8) (S : LW X b L xv) {bx am qo i k n : Nat} {B A : Nat → Nat} {s : ST} {w : RW} (h : LI X bx am qo B A s w) (hi : i + 6 ≤ L) (hk : k + 3 ≤ 601024) (hn : n + 402 ≤ 7293034) (K : ∀ (w' : RW) (B' : Nat → Nat) (t : ST) (k' n' : Nat), k' ≤ k + 3 → n' ≤ n + 402 → LI X bx am qo B' A t w' → GG X w' k' n' 1603 (lvL b bx am qo i) []) : GG X w k n 461 (lvL b bx am qo i) [] := by
  have h9 := h
  obtain ⟨hS, hN, hW, rfl, rfl, fo, ho⟩ := h9
  refine r_aload_n (pq := 462) C dL_law_461 rfl rfl ?_
  refine r_scr (c := 1) (pq := 468) C S (by decide) (by omega) rfl rfl dL_law_462 dL_law_463 dL_law_465 dL_law_466 dL_law_467 rfl ?_
  refine r_scr (c := 2) (pq := 474) C S (by decide) (by omega) rfl rfl dL_law_468 dL_law_469 dL_law_471 dL_law_472 dL_law_473 rfl ?_
  refine r_callV (pq := 477) C (As := [.int (xv (i + 1)), .int (xv (i + 2))]) (mc_X11_mark hS hN) hN.1 rfl gL_law_X11_mark rfl (na := 2) (by decide +kernel) rfl (by decide) (by decide) (Nat.le_of_ble_eq_true rfl) ⟨by rw [S.2.2.2.2.2.1]; omega, by rw [S.2.2.2.2.2.2]; omega⟩ dL_law_474 rfl rfl (fun r9 w9 hq => ?_)
  obtain ⟨rfl, q1, B9, hB9, hN9⟩ := hq
  dsimp only [Option.toList, List.cons_append, List.nil_append]
  refine GG.cast (h.mid (fun q z1 _ => q1 q z1)) ?_
  refine r_aload_n (pq := 478) C dL_law_477 rfl rfl ?_
  refine r_scr (c := 1) (pq := 484) C S (by decide) (by omega) rfl rfl dL_law_478 dL_law_479 dL_law_481 dL_law_482 dL_law_483 rfl ?_
  refine r_scr (c := 2) (pq := 490) C S (by decide) (by omega) rfl rfl dL_law_484 dL_law_485 dL_law_487 dL_law_488 dL_law_489 rfl ?_
  refine r_callV (pq := 493) C (As := [.int (xv (i + 1)), .int (xv (i + 2))]) (mc_X12_mark (w0 := w9) hS) (WM_obj _ _ _ _ _ _) rfl gL_law_X12_mark rfl (na := 2) (by decide +kernel) rfl (by decide) (by decide) (Nat.le_of_ble_eq_true rfl) ⟨by rw [S.2.2.2.2.2.1]; omega, by rw [S.2.2.2.2.2.2]; omega⟩ dL_law_490 rfl rfl (fun r8 w8 hq => ?_)
  obtain ⟨rfl, t, rfl, hm, he⟩ := hq
  dsimp only [Option.toList, List.cons_append, List.nil_append]
  refine r_icmp_eq (tg := 1603) (pq := 496) C dL_law_493 (by decide) rfl (fun _ => ?_) (fun c => absurd rfl c)
  exact K _ B9 t _ _ (by omega) (by omega) (h.next hS.sr q1 hB9 hN9 hm he)

set_option maxHeartbeats 4000000 in
set_option maxRecDepth 100000 in
theorem lc_6 {X : XX} {b L : Nat} {xv : Nat → Int32} (C : C0 X RL cL_law wsL_law 9 8) (S : LW X b L xv) {bx am qo i k n : Nat} {B A : Nat → Nat} {s : ST} {w : RW} (h : LI X bx am qo B A s w) (hi : i + 6 ≤ L) (hk : k + 3 ≤ 601024) (hn : n + 402 ≤ 7293034) (K : ∀ (w' : RW) (B' : Nat → Nat) (t : ST) (k' n' : Nat), k' ≤ k + 3 → n' ≤ n + 402 → LI X bx am qo B' A t w' → GG X w' k' n' 1603 (lvL b bx am qo i) []) : GG X w k n 498 (lvL b bx am qo i) [] := by
  have h9 := h
  obtain ⟨hS, hN, hW, rfl, rfl, fo, ho⟩ := h9
  refine r_aload_n (pq := 499) C dL_law_498 rfl rfl ?_
  refine r_scr (c := 1) (pq := 505) C S (by decide) (by omega) rfl rfl dL_law_499 dL_law_500 dL_law_502 dL_law_503 dL_law_504 rfl ?_
  refine r_scr (c := 2) (pq := 511) C S (by decide) (by omega) rfl rfl dL_law_505 dL_law_506 dL_law_508 dL_law_509 dL_law_510 rfl ?_
  refine r_callV (pq := 514) C (As := [.int (xv (i + 1)), .int (xv (i + 2))]) (mc_X11_can hS hN) hN.1 rfl gL_law_X11_can rfl (na := 2) (by decide +kernel) rfl (by decide) (by decide) (Nat.le_of_ble_eq_true rfl) ⟨by rw [S.2.2.2.2.2.1]; omega, by rw [S.2.2.2.2.2.2]; omega⟩ dL_law_511 rfl rfl (fun r9 w9 hq => ?_)
  obtain ⟨rfl, q1, B9, hB9, hN9⟩ := hq
  dsimp only [Option.toList, List.cons_append, List.nil_append]
  refine GG.cast (h.mid (fun q z1 _ => q1 q z1)) ?_
  refine r_aload_n (pq := 515) C dL_law_514 rfl rfl ?_
  refine r_scr (c := 1) (pq := 521) C S (by decide) (by omega) rfl rfl dL_law_515 dL_law_516 dL_law_518 dL_law_519 dL_law_520 rfl ?_
  refine r_scr (c := 2) (pq := 527) C S (by decide) (by omega) rfl rfl dL_law_521 dL_law_522 dL_law_524 dL_law_525 dL_law_526 rfl ?_
  refine r_callV (pq := 530) C (As := [.int (xv (i + 1)), .int (xv (i + 2))]) (mc_X12_can (w0 := w9) hS) (WM_obj _ _ _ _ _ _) rfl gL_law_X12_can rfl (na := 2) (by decide +kernel) rfl (by decide) (by decide) (Nat.le_of_ble_eq_true rfl) ⟨by rw [S.2.2.2.2.2.1]; omega, by rw [S.2.2.2.2.2.2]; omega⟩ dL_law_527 rfl rfl (fun r8 w8 hq => ?_)
  obtain ⟨rfl, t, rfl, hm, he⟩ := hq
  dsimp only [Option.toList, List.cons_append, List.nil_append]
  refine r_icmp_eq (tg := 1603) (pq := 533) C dL_law_530 (by decide) rfl (fun _ => ?_) (fun c => absurd rfl c)
  exact K _ B9 t _ _ (by omega) (by omega) (h.next hS.sr q1 hB9 hN9 hm he)

set_option maxHeartbeats 4000000 in
set_option maxRecDepth 100000 in
theorem lc_7 {X : XX} {b L : Nat} {xv : Nat → Int32} (C : C0 X RL cL_law wsL_law 9 8) (S : LW X b L xv) {bx am qo i k n : Nat} {B A : Nat → Nat} {s : ST} {w : RW} (h : LI X bx am qo B A s w) (hi : i + 6 ≤ L) (hk : k + 3 ≤ 601024) (hn : n + 402 ≤ 7293034) (K : ∀ (w' : RW) (B' : Nat → Nat) (t : ST) (k' n' : Nat), k' ≤ k + 3 → n' ≤ n + 402 → LI X bx am qo B' A t w' → GG X w' k' n' 1603 (lvL b bx am qo i) []) : GG X w k n 535 (lvL b bx am qo i) [] := by
  have h9 := h
  obtain ⟨hS, hN, hW, rfl, rfl, fo, ho⟩ := h9
  by_cases hz : xv (i + 5) = 0
  · skip
    refine r_aload_n (pq := 536) C dL_law_535 rfl rfl ?_
    refine r_scr (c := 1) (pq := 542) C S (by decide) (by omega) rfl rfl dL_law_536 dL_law_537 dL_law_539 dL_law_540 dL_law_541 rfl ?_
    refine r_scr (c := 2) (pq := 548) C S (by decide) (by omega) rfl rfl dL_law_542 dL_law_543 dL_law_545 dL_law_546 dL_law_547 rfl ?_
    refine r_scr (c := 3) (pq := 554) C S (by decide) (by omega) rfl rfl dL_law_548 dL_law_549 dL_law_551 dL_law_552 dL_law_553 rfl ?_
    refine r_scr (c := 4) (pq := 560) C S (by decide) (by omega) rfl rfl dL_law_554 dL_law_555 dL_law_557 dL_law_558 dL_law_559 rfl ?_
    refine r_scr (c := 5) (pq := 566) C S (by decide) (by omega) rfl rfl dL_law_560 dL_law_561 dL_law_563 dL_law_564 dL_law_565 rfl ?_
    refine r_if_eq (tg := 573) (pq := 569) C dL_law_566 (by decide) rfl (fun _ => ?_) (fun c => absurd hz c)
    refine r_iconst (v := nI 0) (pq := 574) C dL_law_573 (by decide) rfl ?_
    refine r_callV (pq := 577) C (As := [.int (xv (i + 1)), .int (xv (i + 2)), .int (xv (i + 3)), .int (xv (i + 4)), .int (nI 0)]) (mc_X11_nights hS hN (by decide)) hN.1 rfl gL_law_X11_nights rfl (na := 5) (by decide +kernel) rfl (by decide) (by decide) (Nat.le_of_ble_eq_true rfl) ⟨by rw [S.2.2.2.2.2.1]; omega, by rw [S.2.2.2.2.2.2]; omega⟩ dL_law_574 rfl rfl (fun r9 w9 hq => ?_)
    obtain ⟨rfl, q1, B9, hB9, hN9⟩ := hq
    dsimp only [Option.toList, List.cons_append, List.nil_append]
    refine GG.cast (h.mid (fun q z1 _ => q1 q z1)) ?_
    refine r_aload_n (pq := 578) C dL_law_577 rfl rfl ?_
    refine r_scr (c := 1) (pq := 584) C S (by decide) (by omega) rfl rfl dL_law_578 dL_law_579 dL_law_581 dL_law_582 dL_law_583 rfl ?_
    refine r_scr (c := 2) (pq := 590) C S (by decide) (by omega) rfl rfl dL_law_584 dL_law_585 dL_law_587 dL_law_588 dL_law_589 rfl ?_
    refine r_scr (c := 3) (pq := 596) C S (by decide) (by omega) rfl rfl dL_law_590 dL_law_591 dL_law_593 dL_law_594 dL_law_595 rfl ?_
    refine r_scr (c := 4) (pq := 602) C S (by decide) (by omega) rfl rfl dL_law_596 dL_law_597 dL_law_599 dL_law_600 dL_law_601 rfl ?_
    refine r_scr (c := 5) (pq := 608) C S (by decide) (by omega) rfl rfl dL_law_602 dL_law_603 dL_law_605 dL_law_606 dL_law_607 rfl ?_
    refine r_if_eq (tg := 615) (pq := 611) C dL_law_608 (by decide) rfl (fun _ => ?_) (fun c => absurd hz c)
    refine r_iconst (v := nI 0) (pq := 616) C dL_law_615 (by decide) rfl ?_
    refine r_callV (pq := 619) C (As := [.int (xv (i + 1)), .int (xv (i + 2)), .int (xv (i + 3)), .int (xv (i + 4)), .int (nI 0)]) (mc_X12_nights (w0 := w9) hS (by decide)) (WM_obj _ _ _ _ _ _) rfl gL_law_X12_nights rfl (na := 5) (by decide +kernel) rfl (by decide) (by decide) (Nat.le_of_ble_eq_true rfl) ⟨by rw [S.2.2.2.2.2.1]; omega, by rw [S.2.2.2.2.2.2]; omega⟩ dL_law_616 rfl rfl (fun r8 w8 hq => ?_)
    obtain ⟨rfl, t, rfl, hm, he⟩ := hq
    dsimp only [Option.toList, List.cons_append, List.nil_append]
    refine r_icmp_eq (tg := 1603) (pq := 622) C dL_law_619 (by decide) rfl (fun _ => ?_) (fun c => absurd rfl c)
    exact K _ B9 t _ _ (by omega) (by omega) (h.next hS.sr q1 hB9 hN9 hm he)
  · skip
    refine r_aload_n (pq := 536) C dL_law_535 rfl rfl ?_
    refine r_scr (c := 1) (pq := 542) C S (by decide) (by omega) rfl rfl dL_law_536 dL_law_537 dL_law_539 dL_law_540 dL_law_541 rfl ?_
    refine r_scr (c := 2) (pq := 548) C S (by decide) (by omega) rfl rfl dL_law_542 dL_law_543 dL_law_545 dL_law_546 dL_law_547 rfl ?_
    refine r_scr (c := 3) (pq := 554) C S (by decide) (by omega) rfl rfl dL_law_548 dL_law_549 dL_law_551 dL_law_552 dL_law_553 rfl ?_
    refine r_scr (c := 4) (pq := 560) C S (by decide) (by omega) rfl rfl dL_law_554 dL_law_555 dL_law_557 dL_law_558 dL_law_559 rfl ?_
    refine r_scr (c := 5) (pq := 566) C S (by decide) (by omega) rfl rfl dL_law_560 dL_law_561 dL_law_563 dL_law_564 dL_law_565 rfl ?_
    refine r_if_eq (tg := 573) (pq := 569) C dL_law_566 (by decide) rfl (fun c => absurd c hz) (fun _ => ?_)
    refine r_iconst (v := nI 1) (pq := 570) C dL_law_569 (by decide) rfl ?_
    refine r_goto (tg := 574) C dL_law_570 (by decide) ?_
    refine r_callV (pq := 577) C (As := [.int (xv (i + 1)), .int (xv (i + 2)), .int (xv (i + 3)), .int (xv (i + 4)), .int (nI 1)]) (mc_X11_nights hS hN (by decide)) hN.1 rfl gL_law_X11_nights rfl (na := 5) (by decide +kernel) rfl (by decide) (by decide) (Nat.le_of_ble_eq_true rfl) ⟨by rw [S.2.2.2.2.2.1]; omega, by rw [S.2.2.2.2.2.2]; omega⟩ dL_law_574 rfl rfl (fun r9 w9 hq => ?_)
    obtain ⟨rfl, q1, B9, hB9, hN9⟩ := hq
    dsimp only [Option.toList, List.cons_append, List.nil_append]
    refine GG.cast (h.mid (fun q z1 _ => q1 q z1)) ?_
    refine r_aload_n (pq := 578) C dL_law_577 rfl rfl ?_
    refine r_scr (c := 1) (pq := 584) C S (by decide) (by omega) rfl rfl dL_law_578 dL_law_579 dL_law_581 dL_law_582 dL_law_583 rfl ?_
    refine r_scr (c := 2) (pq := 590) C S (by decide) (by omega) rfl rfl dL_law_584 dL_law_585 dL_law_587 dL_law_588 dL_law_589 rfl ?_
    refine r_scr (c := 3) (pq := 596) C S (by decide) (by omega) rfl rfl dL_law_590 dL_law_591 dL_law_593 dL_law_594 dL_law_595 rfl ?_
    refine r_scr (c := 4) (pq := 602) C S (by decide) (by omega) rfl rfl dL_law_596 dL_law_597 dL_law_599 dL_law_600 dL_law_601 rfl ?_
    refine r_scr (c := 5) (pq := 608) C S (by decide) (by omega) rfl rfl dL_law_602 dL_law_603 dL_law_605 dL_law_606 dL_law_607 rfl ?_
    refine r_if_eq (tg := 615) (pq := 611) C dL_law_608 (by decide) rfl (fun c => absurd c hz) (fun _ => ?_)
    refine r_iconst (v := nI 1) (pq := 612) C dL_law_611 (by decide) rfl ?_
    refine r_goto (tg := 616) C dL_law_612 (by decide) ?_
    refine r_callV (pq := 619) C (As := [.int (xv (i + 1)), .int (xv (i + 2)), .int (xv (i + 3)), .int (xv (i + 4)), .int (nI 1)]) (mc_X12_nights (w0 := w9) hS (by decide)) (WM_obj _ _ _ _ _ _) rfl gL_law_X12_nights rfl (na := 5) (by decide +kernel) rfl (by decide) (by decide) (Nat.le_of_ble_eq_true rfl) ⟨by rw [S.2.2.2.2.2.1]; omega, by rw [S.2.2.2.2.2.2]; omega⟩ dL_law_616 rfl rfl (fun r8 w8 hq => ?_)
    obtain ⟨rfl, t, rfl, hm, he⟩ := hq
    dsimp only [Option.toList, List.cons_append, List.nil_append]
    refine r_icmp_eq (tg := 1603) (pq := 622) C dL_law_619 (by decide) rfl (fun _ => ?_) (fun c => absurd rfl c)
    exact K _ B9 t _ _ (by omega) (by omega) (h.next hS.sr q1 hB9 hN9 hm he)

set_option maxHeartbeats 4000000 in
set_option maxRecDepth 100000 in
theorem lc_8 {X : XX} {b L : Nat} {xv : Nat → Int32} (C : C0 X RL cL_law wsL_law 9 8) (S : LW X b L xv) {bx am qo i k n : Nat} {B A : Nat → Nat} {s : ST} {w : RW} (h : LI X bx am qo B A s w) (hi : i + 6 ≤ L) (hk : k + 3 ≤ 601024) (hn : n + 402 ≤ 7293034) (K : ∀ (w' : RW) (B' : Nat → Nat) (t : ST) (k' n' : Nat), k' ≤ k + 3 → n' ≤ n + 402 → LI X bx am qo B' A t w' → GG X w' k' n' 1603 (lvL b bx am qo i) []) : GG X w k n 624 (lvL b bx am qo i) [] := by
  have h9 := h
  obtain ⟨hS, hN, hW, rfl, rfl, fo, ho⟩ := h9
  refine r_aload_n (pq := 625) C dL_law_624 rfl rfl ?_
  refine r_scr (c := 1) (pq := 631) C S (by decide) (by omega) rfl rfl dL_law_625 dL_law_626 dL_law_628 dL_law_629 dL_law_630 rfl ?_
  refine r_scr (c := 2) (pq := 637) C S (by decide) (by omega) rfl rfl dL_law_631 dL_law_632 dL_law_634 dL_law_635 dL_law_636 rfl ?_
  refine r_scr (c := 3) (pq := 643) C S (by decide) (by omega) rfl rfl dL_law_637 dL_law_638 dL_law_640 dL_law_641 dL_law_642 rfl ?_
  refine r_callV (pq := 646) C (As := [.int (xv (i + 1)), .int (xv (i + 2)), .int (xv (i + 3))]) (mc_X11_sure hS hN) hN.1 rfl gL_law_X11_sure rfl (na := 3) (by decide +kernel) rfl (by decide) (by decide) (Nat.le_of_ble_eq_true rfl) ⟨by rw [S.2.2.2.2.2.1]; omega, by rw [S.2.2.2.2.2.2]; omega⟩ dL_law_643 rfl rfl (fun r9 w9 hq => ?_)
  obtain ⟨rfl, q1, B9, hB9, hN9⟩ := hq
  dsimp only [Option.toList, List.cons_append, List.nil_append]
  refine GG.cast (h.mid (fun q z1 _ => q1 q z1)) ?_
  refine r_aload_n (pq := 647) C dL_law_646 rfl rfl ?_
  refine r_scr (c := 1) (pq := 653) C S (by decide) (by omega) rfl rfl dL_law_647 dL_law_648 dL_law_650 dL_law_651 dL_law_652 rfl ?_
  refine r_scr (c := 2) (pq := 659) C S (by decide) (by omega) rfl rfl dL_law_653 dL_law_654 dL_law_656 dL_law_657 dL_law_658 rfl ?_
  refine r_scr (c := 3) (pq := 665) C S (by decide) (by omega) rfl rfl dL_law_659 dL_law_660 dL_law_662 dL_law_663 dL_law_664 rfl ?_
  refine r_callV (pq := 668) C (As := [.int (xv (i + 1)), .int (xv (i + 2)), .int (xv (i + 3))]) (mc_X12_sure (w0 := w9) hS) (WM_obj _ _ _ _ _ _) rfl gL_law_X12_sure rfl (na := 3) (by decide +kernel) rfl (by decide) (by decide) (Nat.le_of_ble_eq_true rfl) ⟨by rw [S.2.2.2.2.2.1]; omega, by rw [S.2.2.2.2.2.2]; omega⟩ dL_law_665 rfl rfl (fun r8 w8 hq => ?_)
  obtain ⟨rfl, t, rfl, hm, he⟩ := hq
  dsimp only [Option.toList, List.cons_append, List.nil_append]
  refine r_icmp_eq (tg := 1603) (pq := 671) C dL_law_668 (by decide) rfl (fun _ => ?_) (fun c => absurd rfl c)
  exact K _ B9 t _ _ (by omega) (by omega) (h.next hS.sr q1 hB9 hN9 hm he)

set_option maxHeartbeats 4000000 in
set_option maxRecDepth 100000 in
theorem lc_9 {X : XX} {b L : Nat} {xv : Nat → Int32} (C : C0 X RL cL_law wsL_law 9 8) (S : LW X b L xv) {bx am qo i k n : Nat} {B A : Nat → Nat} {s : ST} {w : RW} (h : LI X bx am qo B A s w) (hi : i + 6 ≤ L) (hk : k + 3 ≤ 601024) (hn : n + 402 ≤ 7293034) (K : ∀ (w' : RW) (B' : Nat → Nat) (t : ST) (k' n' : Nat), k' ≤ k + 3 → n' ≤ n + 402 → LI X bx am qo B' A t w' → GG X w' k' n' 1603 (lvL b bx am qo i) []) : GG X w k n 673 (lvL b bx am qo i) [] := by
  have h9 := h
  obtain ⟨hS, hN, hW, rfl, rfl, fo, ho⟩ := h9
  refine r_aload_n (pq := 674) C dL_law_673 rfl rfl ?_
  refine r_scr (c := 1) (pq := 680) C S (by decide) (by omega) rfl rfl dL_law_674 dL_law_675 dL_law_677 dL_law_678 dL_law_679 rfl ?_
  refine r_scr (c := 2) (pq := 686) C S (by decide) (by omega) rfl rfl dL_law_680 dL_law_681 dL_law_683 dL_law_684 dL_law_685 rfl ?_
  refine r_callV (pq := 689) C (As := [.int (xv (i + 1)), .int (xv (i + 2))]) (mc_X11_join hS hN) hN.1 rfl gL_law_X11_join rfl (na := 2) (by decide +kernel) rfl (by decide) (by decide) (Nat.le_of_ble_eq_true rfl) ⟨by rw [S.2.2.2.2.2.1]; omega, by rw [S.2.2.2.2.2.2]; omega⟩ dL_law_686 rfl rfl (fun r9 w9 hq => ?_)
  obtain ⟨rfl, q1, B9, hB9, hN9⟩ := hq
  dsimp only [Option.toList, List.cons_append, List.nil_append]
  refine GG.cast (h.mid (fun q z1 _ => q1 q z1)) ?_
  refine r_aload_n (pq := 690) C dL_law_689 rfl rfl ?_
  refine r_scr (c := 1) (pq := 696) C S (by decide) (by omega) rfl rfl dL_law_690 dL_law_691 dL_law_693 dL_law_694 dL_law_695 rfl ?_
  refine r_scr (c := 2) (pq := 702) C S (by decide) (by omega) rfl rfl dL_law_696 dL_law_697 dL_law_699 dL_law_700 dL_law_701 rfl ?_
  refine r_callV (pq := 705) C (As := [.int (xv (i + 1)), .int (xv (i + 2))]) (mc_X12_join (w0 := w9) hS) (WM_obj _ _ _ _ _ _) rfl gL_law_X12_join rfl (na := 2) (by decide +kernel) rfl (by decide) (by decide) (Nat.le_of_ble_eq_true rfl) ⟨by rw [S.2.2.2.2.2.1]; omega, by rw [S.2.2.2.2.2.2]; omega⟩ dL_law_702 rfl rfl (fun r8 w8 hq => ?_)
  obtain ⟨rfl, t, rfl, hm, he⟩ := hq
  dsimp only [Option.toList, List.cons_append, List.nil_append]
  refine r_icmp_eq (tg := 1603) (pq := 708) C dL_law_705 (by decide) rfl (fun _ => ?_) (fun c => absurd rfl c)
  exact K _ B9 t _ _ (by omega) (by omega) (h.next (hS.sr.join _ _) q1 hB9 hN9 hm he)

set_option maxHeartbeats 4000000 in
set_option maxRecDepth 100000 in
theorem lc_10 {X : XX} {b L : Nat} {xv : Nat → Int32} (C : C0 X RL cL_law wsL_law 9 8) (S : LW X b L xv) {bx am qo i k n : Nat} {B A : Nat → Nat} {s : ST} {w : RW} (h : LI X bx am qo B A s w) (hi : i + 6 ≤ L) (hk : k + 3 ≤ 601024) (hn : n + 402 ≤ 7293034) (K : ∀ (w' : RW) (B' : Nat → Nat) (t : ST) (k' n' : Nat), k' ≤ k + 3 → n' ≤ n + 402 → LI X bx am qo B' A t w' → GG X w' k' n' 1603 (lvL b bx am qo i) []) : GG X w k n 710 (lvL b bx am qo i) [] := by
  have h9 := h
  obtain ⟨hS, hN, hW, rfl, rfl, fo, ho⟩ := h9
  refine r_aload_n (pq := 711) C dL_law_710 rfl rfl ?_
  refine r_scr (c := 1) (pq := 717) C S (by decide) (by omega) rfl rfl dL_law_711 dL_law_712 dL_law_714 dL_law_715 dL_law_716 rfl ?_
  refine r_scr (c := 2) (pq := 723) C S (by decide) (by omega) rfl rfl dL_law_717 dL_law_718 dL_law_720 dL_law_721 dL_law_722 rfl ?_
  refine r_scr (c := 3) (pq := 729) C S (by decide) (by omega) rfl rfl dL_law_723 dL_law_724 dL_law_726 dL_law_727 dL_law_728 rfl ?_
  refine r_callV (pq := 732) C (As := [.int (xv (i + 1)), .int (xv (i + 2)), .int (xv (i + 3))]) (mc_X11_law hS hN) hN.1 rfl gL_law_X11_law rfl (na := 3) (by decide +kernel) rfl (by decide) (by decide) (Nat.le_of_ble_eq_true rfl) ⟨by rw [S.2.2.2.2.2.1]; omega, by rw [S.2.2.2.2.2.2]; omega⟩ dL_law_729 rfl rfl (fun r9 w9 hq => ?_)
  obtain ⟨rfl, q1, B9, hB9, hN9⟩ := hq
  dsimp only [Option.toList, List.cons_append, List.nil_append]
  refine GG.cast (h.mid (fun q z1 _ => q1 q z1)) ?_
  refine r_aload_n (pq := 733) C dL_law_732 rfl rfl ?_
  refine r_scr (c := 1) (pq := 739) C S (by decide) (by omega) rfl rfl dL_law_733 dL_law_734 dL_law_736 dL_law_737 dL_law_738 rfl ?_
  refine r_scr (c := 2) (pq := 745) C S (by decide) (by omega) rfl rfl dL_law_739 dL_law_740 dL_law_742 dL_law_743 dL_law_744 rfl ?_
  refine r_scr (c := 3) (pq := 751) C S (by decide) (by omega) rfl rfl dL_law_745 dL_law_746 dL_law_748 dL_law_749 dL_law_750 rfl ?_
  refine r_callV (pq := 754) C (As := [.int (xv (i + 1)), .int (xv (i + 2)), .int (xv (i + 3))]) (mc_X12_law (w0 := w9) hS) (WM_obj _ _ _ _ _ _) rfl gL_law_X12_law rfl (na := 3) (by decide +kernel) rfl (by decide) (by decide) (Nat.le_of_ble_eq_true rfl) ⟨by rw [S.2.2.2.2.2.1]; omega, by rw [S.2.2.2.2.2.2]; omega⟩ dL_law_751 rfl rfl (fun r8 w8 hq => ?_)
  obtain ⟨rfl, t, rfl, hm, he⟩ := hq
  dsimp only [Option.toList, List.cons_append, List.nil_append]
  refine r_icmp_eq (tg := 1603) (pq := 757) C dL_law_754 (by decide) rfl (fun _ => ?_) (fun c => absurd rfl c)
  exact K _ B9 t _ _ (by omega) (by omega) (h.next (hS.sr.law _ _ _) q1 hB9 hN9 hm he)

set_option maxHeartbeats 4000000 in
set_option maxRecDepth 100000 in
theorem lc_11 {X : XX} {b L : Nat} {xv : Nat → Int32} (C : C0 X RL cL_law wsL_law 9 8) (S : LW X b L xv) {bx am qo i k n : Nat} {B A : Nat → Nat} {s : ST} {w : RW} (h : LI X bx am qo B A s w) (hi : i + 6 ≤ L) (hk : k + 3 ≤ 601024) (hn : n + 402 ≤ 7293034) (K : ∀ (w' : RW) (B' : Nat → Nat) (t : ST) (k' n' : Nat), k' ≤ k + 3 → n' ≤ n + 402 → LI X bx am qo B' A t w' → GG X w' k' n' 1603 (lvL b bx am qo i) []) : GG X w k n 759 (lvL b bx am qo i) [] := by
  have h9 := h
  obtain ⟨hS, hN, hW, rfl, rfl, fo, ho⟩ := h9
  refine r_aload_n (pq := 760) C dL_law_759 rfl rfl ?_
  refine r_scr (c := 1) (pq := 766) C S (by decide) (by omega) rfl rfl dL_law_760 dL_law_761 dL_law_763 dL_law_764 dL_law_765 rfl ?_
  refine r_scr (c := 2) (pq := 772) C S (by decide) (by omega) rfl rfl dL_law_766 dL_law_767 dL_law_769 dL_law_770 dL_law_771 rfl ?_
  refine r_scr (c := 3) (pq := 778) C S (by decide) (by omega) rfl rfl dL_law_772 dL_law_773 dL_law_775 dL_law_776 dL_law_777 rfl ?_
  refine r_callV (pq := 781) C (As := [.int (xv (i + 1)), .int (xv (i + 2)), .int (xv (i + 3))]) (mc_X11_kept hS hN) hN.1 rfl gL_law_X11_kept rfl (na := 3) (by decide +kernel) rfl (by decide) (by decide) (Nat.le_of_ble_eq_true rfl) ⟨by rw [S.2.2.2.2.2.1]; omega, by rw [S.2.2.2.2.2.2]; omega⟩ dL_law_778 rfl rfl (fun r9 w9 hq => ?_)
  obtain ⟨rfl, q1, B9, hB9, hN9⟩ := hq
  dsimp only [Option.toList, List.cons_append, List.nil_append]
  refine GG.cast (h.mid (fun q z1 _ => q1 q z1)) ?_
  refine r_aload_n (pq := 782) C dL_law_781 rfl rfl ?_
  refine r_scr (c := 1) (pq := 788) C S (by decide) (by omega) rfl rfl dL_law_782 dL_law_783 dL_law_785 dL_law_786 dL_law_787 rfl ?_
  refine r_scr (c := 2) (pq := 794) C S (by decide) (by omega) rfl rfl dL_law_788 dL_law_789 dL_law_791 dL_law_792 dL_law_793 rfl ?_
  refine r_scr (c := 3) (pq := 800) C S (by decide) (by omega) rfl rfl dL_law_794 dL_law_795 dL_law_797 dL_law_798 dL_law_799 rfl ?_
  refine r_callV (pq := 803) C (As := [.int (xv (i + 1)), .int (xv (i + 2)), .int (xv (i + 3))]) (mc_X12_kept (w0 := w9) hS) (WM_obj _ _ _ _ _ _) rfl gL_law_X12_kept rfl (na := 3) (by decide +kernel) rfl (by decide) (by decide) (Nat.le_of_ble_eq_true rfl) ⟨by rw [S.2.2.2.2.2.1]; omega, by rw [S.2.2.2.2.2.2]; omega⟩ dL_law_800 rfl rfl (fun r8 w8 hq => ?_)
  obtain ⟨rfl, t, rfl, hm, he⟩ := hq
  dsimp only [Option.toList, List.cons_append, List.nil_append]
  refine r_icmp_eq (tg := 1603) (pq := 806) C dL_law_803 (by decide) rfl (fun _ => ?_) (fun c => absurd rfl c)
  exact K _ B9 t _ _ (by omega) (by omega) (h.next hS.sr q1 hB9 hN9 hm he)

set_option maxHeartbeats 4000000 in
set_option maxRecDepth 100000 in
theorem lc_12 {X : XX} {b L : Nat} {xv : Nat → Int32} (C : C0 X RL cL_law wsL_law 9 8) (S : LW X b L xv) {bx am qo i k n : Nat} {B A : Nat → Nat} {s : ST} {w : RW} (h : LI X bx am qo B A s w) (hi : i + 6 ≤ L) (hk : k + 3 ≤ 601024) (hn : n + 402 ≤ 7293034) (K : ∀ (w' : RW) (B' : Nat → Nat) (t : ST) (k' n' : Nat), k' ≤ k + 3 → n' ≤ n + 402 → LI X bx am qo B' A t w' → GG X w' k' n' 1603 (lvL b bx am qo i) []) : GG X w k n 808 (lvL b bx am qo i) [] := by
  have h9 := h
  obtain ⟨hS, hN, hW, rfl, rfl, fo, ho⟩ := h9
  by_cases hz : xv (i + 4) = 0
  · skip
    refine r_aload_n (pq := 809) C dL_law_808 rfl rfl ?_
    refine r_scr (c := 1) (pq := 815) C S (by decide) (by omega) rfl rfl dL_law_809 dL_law_810 dL_law_812 dL_law_813 dL_law_814 rfl ?_
    refine r_scr (c := 2) (pq := 821) C S (by decide) (by omega) rfl rfl dL_law_815 dL_law_816 dL_law_818 dL_law_819 dL_law_820 rfl ?_
    refine r_scr (c := 3) (pq := 827) C S (by decide) (by omega) rfl rfl dL_law_821 dL_law_822 dL_law_824 dL_law_825 dL_law_826 rfl ?_
    refine r_scr (c := 4) (pq := 833) C S (by decide) (by omega) rfl rfl dL_law_827 dL_law_828 dL_law_830 dL_law_831 dL_law_832 rfl ?_
    refine r_if_eq (tg := 840) (pq := 836) C dL_law_833 (by decide) rfl (fun _ => ?_) (fun c => absurd hz c)
    refine r_iconst (v := nI 0) (pq := 841) C dL_law_840 (by decide) rfl ?_
    refine r_callV (pq := 844) C (As := [.int (xv (i + 1)), .int (xv (i + 2)), .int (xv (i + 3)), .int (nI 0)]) (mc_X11_first hS hN (by decide)) hN.1 rfl gL_law_X11_first rfl (na := 4) (by decide +kernel) rfl (by decide) (by decide) (Nat.le_of_ble_eq_true rfl) ⟨by rw [S.2.2.2.2.2.1]; omega, by rw [S.2.2.2.2.2.2]; omega⟩ dL_law_841 rfl rfl (fun r9 w9 hq => ?_)
    obtain ⟨rfl, q1, B9, hB9, hN9⟩ := hq
    dsimp only [Option.toList, List.cons_append, List.nil_append]
    refine GG.cast (h.mid (fun q z1 _ => q1 q z1)) ?_
    refine r_aload_n (pq := 845) C dL_law_844 rfl rfl ?_
    refine r_scr (c := 1) (pq := 851) C S (by decide) (by omega) rfl rfl dL_law_845 dL_law_846 dL_law_848 dL_law_849 dL_law_850 rfl ?_
    refine r_scr (c := 2) (pq := 857) C S (by decide) (by omega) rfl rfl dL_law_851 dL_law_852 dL_law_854 dL_law_855 dL_law_856 rfl ?_
    refine r_scr (c := 3) (pq := 863) C S (by decide) (by omega) rfl rfl dL_law_857 dL_law_858 dL_law_860 dL_law_861 dL_law_862 rfl ?_
    refine r_scr (c := 4) (pq := 869) C S (by decide) (by omega) rfl rfl dL_law_863 dL_law_864 dL_law_866 dL_law_867 dL_law_868 rfl ?_
    refine r_if_eq (tg := 876) (pq := 872) C dL_law_869 (by decide) rfl (fun _ => ?_) (fun c => absurd hz c)
    refine r_iconst (v := nI 0) (pq := 877) C dL_law_876 (by decide) rfl ?_
    refine r_callV (pq := 880) C (As := [.int (xv (i + 1)), .int (xv (i + 2)), .int (xv (i + 3)), .int (nI 0)]) (mc_X12_first (w0 := w9) hS (by decide)) (WM_obj _ _ _ _ _ _) rfl gL_law_X12_first rfl (na := 4) (by decide +kernel) rfl (by decide) (by decide) (Nat.le_of_ble_eq_true rfl) ⟨by rw [S.2.2.2.2.2.1]; omega, by rw [S.2.2.2.2.2.2]; omega⟩ dL_law_877 rfl rfl (fun r8 w8 hq => ?_)
    obtain ⟨rfl, t, rfl, hm, he⟩ := hq
    dsimp only [Option.toList, List.cons_append, List.nil_append]
    refine r_icmp_eq (tg := 1603) (pq := 883) C dL_law_880 (by decide) rfl (fun _ => ?_) (fun c => absurd rfl c)
    exact K _ B9 t _ _ (by omega) (by omega) (h.next hS.sr q1 hB9 hN9 hm he)
  · skip
    refine r_aload_n (pq := 809) C dL_law_808 rfl rfl ?_
    refine r_scr (c := 1) (pq := 815) C S (by decide) (by omega) rfl rfl dL_law_809 dL_law_810 dL_law_812 dL_law_813 dL_law_814 rfl ?_
    refine r_scr (c := 2) (pq := 821) C S (by decide) (by omega) rfl rfl dL_law_815 dL_law_816 dL_law_818 dL_law_819 dL_law_820 rfl ?_
    refine r_scr (c := 3) (pq := 827) C S (by decide) (by omega) rfl rfl dL_law_821 dL_law_822 dL_law_824 dL_law_825 dL_law_826 rfl ?_
    refine r_scr (c := 4) (pq := 833) C S (by decide) (by omega) rfl rfl dL_law_827 dL_law_828 dL_law_830 dL_law_831 dL_law_832 rfl ?_
    refine r_if_eq (tg := 840) (pq := 836) C dL_law_833 (by decide) rfl (fun c => absurd c hz) (fun _ => ?_)
    refine r_iconst (v := nI 1) (pq := 837) C dL_law_836 (by decide) rfl ?_
    refine r_goto (tg := 841) C dL_law_837 (by decide) ?_
    refine r_callV (pq := 844) C (As := [.int (xv (i + 1)), .int (xv (i + 2)), .int (xv (i + 3)), .int (nI 1)]) (mc_X11_first hS hN (by decide)) hN.1 rfl gL_law_X11_first rfl (na := 4) (by decide +kernel) rfl (by decide) (by decide) (Nat.le_of_ble_eq_true rfl) ⟨by rw [S.2.2.2.2.2.1]; omega, by rw [S.2.2.2.2.2.2]; omega⟩ dL_law_841 rfl rfl (fun r9 w9 hq => ?_)
    obtain ⟨rfl, q1, B9, hB9, hN9⟩ := hq
    dsimp only [Option.toList, List.cons_append, List.nil_append]
    refine GG.cast (h.mid (fun q z1 _ => q1 q z1)) ?_
    refine r_aload_n (pq := 845) C dL_law_844 rfl rfl ?_
    refine r_scr (c := 1) (pq := 851) C S (by decide) (by omega) rfl rfl dL_law_845 dL_law_846 dL_law_848 dL_law_849 dL_law_850 rfl ?_
    refine r_scr (c := 2) (pq := 857) C S (by decide) (by omega) rfl rfl dL_law_851 dL_law_852 dL_law_854 dL_law_855 dL_law_856 rfl ?_
    refine r_scr (c := 3) (pq := 863) C S (by decide) (by omega) rfl rfl dL_law_857 dL_law_858 dL_law_860 dL_law_861 dL_law_862 rfl ?_
    refine r_scr (c := 4) (pq := 869) C S (by decide) (by omega) rfl rfl dL_law_863 dL_law_864 dL_law_866 dL_law_867 dL_law_868 rfl ?_
    refine r_if_eq (tg := 876) (pq := 872) C dL_law_869 (by decide) rfl (fun c => absurd c hz) (fun _ => ?_)
    refine r_iconst (v := nI 1) (pq := 873) C dL_law_872 (by decide) rfl ?_
    refine r_goto (tg := 877) C dL_law_873 (by decide) ?_
    refine r_callV (pq := 880) C (As := [.int (xv (i + 1)), .int (xv (i + 2)), .int (xv (i + 3)), .int (nI 1)]) (mc_X12_first (w0 := w9) hS (by decide)) (WM_obj _ _ _ _ _ _) rfl gL_law_X12_first rfl (na := 4) (by decide +kernel) rfl (by decide) (by decide) (Nat.le_of_ble_eq_true rfl) ⟨by rw [S.2.2.2.2.2.1]; omega, by rw [S.2.2.2.2.2.2]; omega⟩ dL_law_877 rfl rfl (fun r8 w8 hq => ?_)
    obtain ⟨rfl, t, rfl, hm, he⟩ := hq
    dsimp only [Option.toList, List.cons_append, List.nil_append]
    refine r_icmp_eq (tg := 1603) (pq := 883) C dL_law_880 (by decide) rfl (fun _ => ?_) (fun c => absurd rfl c)
    exact K _ B9 t _ _ (by omega) (by omega) (h.next hS.sr q1 hB9 hN9 hm he)

set_option maxHeartbeats 4000000 in
set_option maxRecDepth 100000 in
theorem lc_13 {X : XX} {b L : Nat} {xv : Nat → Int32} (C : C0 X RL cL_law wsL_law 9 8) (S : LW X b L xv) {bx am qo i k n : Nat} {B A : Nat → Nat} {s : ST} {w : RW} (h : LI X bx am qo B A s w) (hi : i + 6 ≤ L) (hk : k + 3 ≤ 601024) (hn : n + 402 ≤ 7293034) (K : ∀ (w' : RW) (B' : Nat → Nat) (t : ST) (k' n' : Nat), k' ≤ k + 3 → n' ≤ n + 402 → LI X bx am qo B' A t w' → GG X w' k' n' 1603 (lvL b bx am qo i) []) : GG X w k n 885 (lvL b bx am qo i) [] := by
  have h9 := h
  obtain ⟨hS, hN, hW, rfl, rfl, fo, ho⟩ := h9
  refine r_aload_n (pq := 886) C dL_law_885 rfl rfl ?_
  refine r_scr (c := 1) (pq := 892) C S (by decide) (by omega) rfl rfl dL_law_886 dL_law_887 dL_law_889 dL_law_890 dL_law_891 rfl ?_
  refine r_callV (pq := 895) C (As := [.int (xv (i + 1))]) (mc_X11_broken hS hN) hN.1 rfl gL_law_X11_broken rfl (na := 1) (by decide +kernel) rfl (by decide) (by decide) (Nat.le_of_ble_eq_true rfl) ⟨by rw [S.2.2.2.2.2.1]; omega, by rw [S.2.2.2.2.2.2]; omega⟩ dL_law_892 rfl rfl (fun r9 w9 hq => ?_)
  obtain ⟨rfl, q1, B9, hB9, hN9⟩ := hq
  dsimp only [Option.toList, List.cons_append, List.nil_append]
  refine GG.cast (h.mid (fun q z1 _ => q1 q z1)) ?_
  refine r_aload_n (pq := 896) C dL_law_895 rfl rfl ?_
  refine r_scr (c := 1) (pq := 902) C S (by decide) (by omega) rfl rfl dL_law_896 dL_law_897 dL_law_899 dL_law_900 dL_law_901 rfl ?_
  refine r_callV (pq := 905) C (As := [.int (xv (i + 1))]) (mc_X12_broken (w0 := w9) hS) (WM_obj _ _ _ _ _ _) rfl gL_law_X12_broken rfl (na := 1) (by decide +kernel) rfl (by decide) (by decide) (Nat.le_of_ble_eq_true rfl) ⟨by rw [S.2.2.2.2.2.1]; omega, by rw [S.2.2.2.2.2.2]; omega⟩ dL_law_902 rfl rfl (fun r8 w8 hq => ?_)
  obtain ⟨rfl, t, rfl, hm, he⟩ := hq
  dsimp only [Option.toList, List.cons_append, List.nil_append]
  refine r_icmp_eq (tg := 1603) (pq := 908) C dL_law_905 (by decide) rfl (fun _ => ?_) (fun c => absurd rfl c)
  exact K _ B9 t _ _ (by omega) (by omega) (h.next hS.sr q1 hB9 hN9 hm he)

set_option maxHeartbeats 4000000 in
set_option maxRecDepth 100000 in
theorem lc_14 {X : XX} {b L : Nat} {xv : Nat → Int32} (C : C0 X RL cL_law wsL_law 9 8) (S : LW X b L xv) {bx am qo i k n : Nat} {B A : Nat → Nat} {s : ST} {w : RW} (h : LI X bx am qo B A s w) (hi : i + 6 ≤ L) (hk : k + 3 ≤ 601024) (hn : n + 402 ≤ 7293034) (K : ∀ (w' : RW) (B' : Nat → Nat) (t : ST) (k' n' : Nat), k' ≤ k + 3 → n' ≤ n + 402 → LI X bx am qo B' A t w' → GG X w' k' n' 1603 (lvL b bx am qo i) []) : GG X w k n 910 (lvL b bx am qo i) [] := by
  have h9 := h
  obtain ⟨hS, hN, hW, rfl, rfl, fo, ho⟩ := h9
  refine r_aload_n (pq := 911) C dL_law_910 rfl rfl ?_
  refine r_scr (c := 1) (pq := 917) C S (by decide) (by omega) rfl rfl dL_law_911 dL_law_912 dL_law_914 dL_law_915 dL_law_916 rfl ?_
  refine r_scr (c := 2) (pq := 923) C S (by decide) (by omega) rfl rfl dL_law_917 dL_law_918 dL_law_920 dL_law_921 dL_law_922 rfl ?_
  refine r_scr (c := 3) (pq := 929) C S (by decide) (by omega) rfl rfl dL_law_923 dL_law_924 dL_law_926 dL_law_927 dL_law_928 rfl ?_
  refine r_scr (c := 4) (pq := 935) C S (by decide) (by omega) rfl rfl dL_law_929 dL_law_930 dL_law_932 dL_law_933 dL_law_934 rfl ?_
  refine r_callV (pq := 938) C (As := [.int (xv (i + 1)), .int (xv (i + 2)), .int (xv (i + 3)), .int (xv (i + 4))]) (mc_X11_free hS hN) hN.1 rfl gL_law_X11_free rfl (na := 4) (by decide +kernel) rfl (by decide) (by decide) (Nat.le_of_ble_eq_true rfl) ⟨by rw [S.2.2.2.2.2.1]; omega, by rw [S.2.2.2.2.2.2]; omega⟩ dL_law_935 rfl rfl (fun r9 w9 hq => ?_)
  obtain ⟨rfl, q1, B9, hB9, hN9⟩ := hq
  dsimp only [Option.toList, List.cons_append, List.nil_append]
  refine GG.cast (h.mid (fun q z1 _ => q1 q z1)) ?_
  refine r_aload_n (pq := 939) C dL_law_938 rfl rfl ?_
  refine r_scr (c := 1) (pq := 945) C S (by decide) (by omega) rfl rfl dL_law_939 dL_law_940 dL_law_942 dL_law_943 dL_law_944 rfl ?_
  refine r_scr (c := 2) (pq := 951) C S (by decide) (by omega) rfl rfl dL_law_945 dL_law_946 dL_law_948 dL_law_949 dL_law_950 rfl ?_
  refine r_scr (c := 3) (pq := 957) C S (by decide) (by omega) rfl rfl dL_law_951 dL_law_952 dL_law_954 dL_law_955 dL_law_956 rfl ?_
  refine r_scr (c := 4) (pq := 963) C S (by decide) (by omega) rfl rfl dL_law_957 dL_law_958 dL_law_960 dL_law_961 dL_law_962 rfl ?_
  refine r_callV (pq := 966) C (As := [.int (xv (i + 1)), .int (xv (i + 2)), .int (xv (i + 3)), .int (xv (i + 4))]) (mc_X12_free (w0 := w9) hS) (WM_obj _ _ _ _ _ _) rfl gL_law_X12_free rfl (na := 4) (by decide +kernel) rfl (by decide) (by decide) (Nat.le_of_ble_eq_true rfl) ⟨by rw [S.2.2.2.2.2.1]; omega, by rw [S.2.2.2.2.2.2]; omega⟩ dL_law_963 rfl rfl (fun r8 w8 hq => ?_)
  obtain ⟨rfl, t, rfl, hm, he⟩ := hq
  dsimp only [Option.toList, List.cons_append, List.nil_append]
  refine r_icmp_eq (tg := 1603) (pq := 969) C dL_law_966 (by decide) rfl (fun _ => ?_) (fun c => absurd rfl c)
  exact K _ B9 t _ _ (by omega) (by omega) (h.next hS.sr q1 hB9 hN9 hm he)

set_option maxHeartbeats 4000000 in
set_option maxRecDepth 100000 in
theorem lc_15 {X : XX} {b L : Nat} {xv : Nat → Int32} (C : C0 X RL cL_law wsL_law 9 8) (S : LW X b L xv) {bx am qo i k n : Nat} {B A : Nat → Nat} {s : ST} {w : RW} (h : LI X bx am qo B A s w) (hi : i + 6 ≤ L) (hk : k + 3 ≤ 601024) (hn : n + 402 ≤ 7293034) (K : ∀ (w' : RW) (B' : Nat → Nat) (t : ST) (k' n' : Nat), k' ≤ k + 3 → n' ≤ n + 402 → LI X bx am qo B' A t w' → GG X w' k' n' 1603 (lvL b bx am qo i) []) : GG X w k n 971 (lvL b bx am qo i) [] := by
  have h9 := h
  obtain ⟨hS, hN, hW, rfl, rfl, fo, ho⟩ := h9
  refine r_aload_n (pq := 972) C dL_law_971 rfl rfl ?_
  refine r_scr (c := 1) (pq := 978) C S (by decide) (by omega) rfl rfl dL_law_972 dL_law_973 dL_law_975 dL_law_976 dL_law_977 rfl ?_
  refine r_scr (c := 2) (pq := 984) C S (by decide) (by omega) rfl rfl dL_law_978 dL_law_979 dL_law_981 dL_law_982 dL_law_983 rfl ?_
  refine r_scr (c := 3) (pq := 990) C S (by decide) (by omega) rfl rfl dL_law_984 dL_law_985 dL_law_987 dL_law_988 dL_law_989 rfl ?_
  refine r_scr (c := 4) (pq := 996) C S (by decide) (by omega) rfl rfl dL_law_990 dL_law_991 dL_law_993 dL_law_994 dL_law_995 rfl ?_
  refine r_scr (c := 5) (pq := 1002) C S (by decide) (by omega) rfl rfl dL_law_996 dL_law_997 dL_law_999 dL_law_1000 dL_law_1001 rfl ?_
  refine r_callV (pq := 1005) C (As := [.int (xv (i + 1)), .int (xv (i + 2)), .int (xv (i + 3)), .int (xv (i + 4)), .int (xv (i + 5))]) (mc_X11_trip hS hN) hN.1 rfl gL_law_X11_trip rfl (na := 5) (by decide +kernel) rfl (by decide) (by decide) (Nat.le_of_ble_eq_true rfl) ⟨by rw [S.2.2.2.2.2.1]; omega, by rw [S.2.2.2.2.2.2]; omega⟩ dL_law_1002 rfl rfl (fun r9 w9 hq => ?_)
  obtain ⟨rfl, q1, B9, hB9, hN9⟩ := hq
  dsimp only [Option.toList, List.cons_append, List.nil_append]
  refine GG.cast (h.mid (fun q z1 _ => q1 q z1)) ?_
  refine r_aload_n (pq := 1006) C dL_law_1005 rfl rfl ?_
  refine r_scr (c := 1) (pq := 1012) C S (by decide) (by omega) rfl rfl dL_law_1006 dL_law_1007 dL_law_1009 dL_law_1010 dL_law_1011 rfl ?_
  refine r_scr (c := 2) (pq := 1018) C S (by decide) (by omega) rfl rfl dL_law_1012 dL_law_1013 dL_law_1015 dL_law_1016 dL_law_1017 rfl ?_
  refine r_scr (c := 3) (pq := 1024) C S (by decide) (by omega) rfl rfl dL_law_1018 dL_law_1019 dL_law_1021 dL_law_1022 dL_law_1023 rfl ?_
  refine r_scr (c := 4) (pq := 1030) C S (by decide) (by omega) rfl rfl dL_law_1024 dL_law_1025 dL_law_1027 dL_law_1028 dL_law_1029 rfl ?_
  refine r_scr (c := 5) (pq := 1036) C S (by decide) (by omega) rfl rfl dL_law_1030 dL_law_1031 dL_law_1033 dL_law_1034 dL_law_1035 rfl ?_
  refine r_callV (pq := 1039) C (As := [.int (xv (i + 1)), .int (xv (i + 2)), .int (xv (i + 3)), .int (xv (i + 4)), .int (xv (i + 5))]) (mc_X12_trip (w0 := w9) hS) (WM_obj _ _ _ _ _ _) rfl gL_law_X12_trip rfl (na := 5) (by decide +kernel) rfl (by decide) (by decide) (Nat.le_of_ble_eq_true rfl) ⟨by rw [S.2.2.2.2.2.1]; omega, by rw [S.2.2.2.2.2.2]; omega⟩ dL_law_1036 rfl rfl (fun r8 w8 hq => ?_)
  obtain ⟨rfl, t, rfl, hm, he⟩ := hq
  dsimp only [Option.toList, List.cons_append, List.nil_append]
  refine r_icmp_eq (tg := 1603) (pq := 1042) C dL_law_1039 (by decide) rfl (fun _ => ?_) (fun c => absurd rfl c)
  exact K _ B9 t _ _ (by omega) (by omega) (h.next hS.sr q1 hB9 hN9 hm he)

set_option maxHeartbeats 4000000 in
set_option maxRecDepth 100000 in
theorem lc_16 {X : XX} {b L : Nat} {xv : Nat → Int32} (C : C0 X RL cL_law wsL_law 9 8) (S : LW X b L xv) {bx am qo i k n : Nat} {B A : Nat → Nat} {s : ST} {w : RW} (h : LI X bx am qo B A s w) (hi : i + 6 ≤ L) (hk : k + 3 ≤ 601024) (hn : n + 402 ≤ 7293034) (K : ∀ (w' : RW) (B' : Nat → Nat) (t : ST) (k' n' : Nat), k' ≤ k + 3 → n' ≤ n + 402 → LI X bx am qo B' A t w' → GG X w' k' n' 1603 (lvL b bx am qo i) []) : GG X w k n 1044 (lvL b bx am qo i) [] := by
  have h9 := h
  obtain ⟨hS, hN, hW, rfl, rfl, fo, ho⟩ := h9
  refine r_aload_n (pq := 1045) C dL_law_1044 rfl rfl ?_
  refine r_scr (c := 1) (pq := 1051) C S (by decide) (by omega) rfl rfl dL_law_1045 dL_law_1046 dL_law_1048 dL_law_1049 dL_law_1050 rfl ?_
  refine r_scr (c := 2) (pq := 1057) C S (by decide) (by omega) rfl rfl dL_law_1051 dL_law_1052 dL_law_1054 dL_law_1055 dL_law_1056 rfl ?_
  refine r_callV (pq := 1060) C (As := [.int (xv (i + 1)), .int (xv (i + 2))]) (mc_X11_claim hS hN) hN.1 rfl gL_law_X11_claim rfl (na := 2) (by decide +kernel) rfl (by decide) (by decide) (Nat.le_of_ble_eq_true rfl) ⟨by rw [S.2.2.2.2.2.1]; omega, by rw [S.2.2.2.2.2.2]; omega⟩ dL_law_1057 rfl rfl (fun r9 w9 hq => ?_)
  obtain ⟨rfl, q1, B9, hB9, hN9⟩ := hq
  dsimp only [Option.toList, List.cons_append, List.nil_append]
  refine GG.cast (h.mid (fun q z1 _ => q1 q z1)) ?_
  refine r_aload_n (pq := 1061) C dL_law_1060 rfl rfl ?_
  refine r_scr (c := 1) (pq := 1067) C S (by decide) (by omega) rfl rfl dL_law_1061 dL_law_1062 dL_law_1064 dL_law_1065 dL_law_1066 rfl ?_
  refine r_scr (c := 2) (pq := 1073) C S (by decide) (by omega) rfl rfl dL_law_1067 dL_law_1068 dL_law_1070 dL_law_1071 dL_law_1072 rfl ?_
  refine r_callV (pq := 1076) C (As := [.int (xv (i + 1)), .int (xv (i + 2))]) (mc_X12_claim (w0 := w9) hS) (WM_obj _ _ _ _ _ _) rfl gL_law_X12_claim rfl (na := 2) (by decide +kernel) rfl (by decide) (by decide) (Nat.le_of_ble_eq_true rfl) ⟨by rw [S.2.2.2.2.2.1]; omega, by rw [S.2.2.2.2.2.2]; omega⟩ dL_law_1073 rfl rfl (fun r8 w8 hq => ?_)
  obtain ⟨rfl, t, rfl, hm, he⟩ := hq
  dsimp only [Option.toList, List.cons_append, List.nil_append]
  refine r_icmp_eq (tg := 1603) (pq := 1079) C dL_law_1076 (by decide) rfl (fun _ => ?_) (fun c => absurd rfl c)
  exact K _ B9 t _ _ (by omega) (by omega) (h.next (hS.sr.claim _ _) q1 hB9 hN9 hm he)

set_option maxHeartbeats 4000000 in
set_option maxRecDepth 100000 in
theorem lc_17 {X : XX} {b L : Nat} {xv : Nat → Int32} (C : C0 X RL cL_law wsL_law 9 8) (S : LW X b L xv) {bx am qo i k n : Nat} {B A : Nat → Nat} {s : ST} {w : RW} (h : LI X bx am qo B A s w) (hi : i + 6 ≤ L) (hk : k + 3 ≤ 601024) (hn : n + 402 ≤ 7293034) (K : ∀ (w' : RW) (B' : Nat → Nat) (t : ST) (k' n' : Nat), k' ≤ k + 3 → n' ≤ n + 402 → LI X bx am qo B' A t w' → GG X w' k' n' 1603 (lvL b bx am qo i) []) : GG X w k n 1081 (lvL b bx am qo i) [] := by
  have h9 := h
  obtain ⟨hS, hN, hW, rfl, rfl, fo, ho⟩ := h9
  refine r_aload_n (pq := 1082) C dL_law_1081 rfl rfl ?_
  refine r_scr (c := 1) (pq := 1088) C S (by decide) (by omega) rfl rfl dL_law_1082 dL_law_1083 dL_law_1085 dL_law_1086 dL_law_1087 rfl ?_
  refine r_scr (c := 2) (pq := 1094) C S (by decide) (by omega) rfl rfl dL_law_1088 dL_law_1089 dL_law_1091 dL_law_1092 dL_law_1093 rfl ?_
  refine r_scr (c := 3) (pq := 1100) C S (by decide) (by omega) rfl rfl dL_law_1094 dL_law_1095 dL_law_1097 dL_law_1098 dL_law_1099 rfl ?_
  refine r_callV (pq := 1103) C (As := [.int (xv (i + 1)), .int (xv (i + 2)), .int (xv (i + 3))]) (mc_X11_claims hS hN) hN.1 rfl gL_law_X11_claims rfl (na := 3) (by decide +kernel) rfl (by decide) (by decide) (Nat.le_of_ble_eq_true rfl) ⟨by rw [S.2.2.2.2.2.1]; omega, by rw [S.2.2.2.2.2.2]; omega⟩ dL_law_1100 rfl rfl (fun r9 w9 hq => ?_)
  obtain ⟨rfl, q1, B9, hB9, hN9⟩ := hq
  dsimp only [Option.toList, List.cons_append, List.nil_append]
  refine GG.cast (h.mid (fun q z1 _ => q1 q z1)) ?_
  refine r_aload_n (pq := 1104) C dL_law_1103 rfl rfl ?_
  refine r_scr (c := 1) (pq := 1110) C S (by decide) (by omega) rfl rfl dL_law_1104 dL_law_1105 dL_law_1107 dL_law_1108 dL_law_1109 rfl ?_
  refine r_scr (c := 2) (pq := 1116) C S (by decide) (by omega) rfl rfl dL_law_1110 dL_law_1111 dL_law_1113 dL_law_1114 dL_law_1115 rfl ?_
  refine r_scr (c := 3) (pq := 1122) C S (by decide) (by omega) rfl rfl dL_law_1116 dL_law_1117 dL_law_1119 dL_law_1120 dL_law_1121 rfl ?_
  refine r_callV (pq := 1125) C (As := [.int (xv (i + 1)), .int (xv (i + 2)), .int (xv (i + 3))]) (mc_X12_claims (w0 := w9) hS) (WM_obj _ _ _ _ _ _) rfl gL_law_X12_claims rfl (na := 3) (by decide +kernel) rfl (by decide) (by decide) (Nat.le_of_ble_eq_true rfl) ⟨by rw [S.2.2.2.2.2.1]; omega, by rw [S.2.2.2.2.2.2]; omega⟩ dL_law_1122 rfl rfl (fun r8 w8 hq => ?_)
  obtain ⟨rfl, t, rfl, hm, he⟩ := hq
  dsimp only [Option.toList, List.cons_append, List.nil_append]
  refine r_icmp_eq (tg := 1603) (pq := 1128) C dL_law_1125 (by decide) rfl (fun _ => ?_) (fun c => absurd rfl c)
  exact K _ B9 t _ _ (by omega) (by omega) (h.next hS.sr q1 hB9 hN9 hm he)

set_option maxHeartbeats 4000000 in
set_option maxRecDepth 100000 in
theorem lc_18 {X : XX} {b L : Nat} {xv : Nat → Int32} (C : C0 X RL cL_law wsL_law 9 8) (S : LW X b L xv) {bx am qo i k n : Nat} {B A : Nat → Nat} {s : ST} {w : RW} (h : LI X bx am qo B A s w) (hi : i + 6 ≤ L) (hk : k + 3 ≤ 601024) (hn : n + 402 ≤ 7293034) (K : ∀ (w' : RW) (B' : Nat → Nat) (t : ST) (k' n' : Nat), k' ≤ k + 3 → n' ≤ n + 402 → LI X bx am qo B' A t w' → GG X w' k' n' 1603 (lvL b bx am qo i) []) : GG X w k n 1130 (lvL b bx am qo i) [] := by
  have h9 := h
  obtain ⟨hS, hN, hW, rfl, rfl, fo, ho⟩ := h9
  refine r_aload_n (pq := 1131) C dL_law_1130 rfl rfl ?_
  refine r_scr (c := 1) (pq := 1137) C S (by decide) (by omega) rfl rfl dL_law_1131 dL_law_1132 dL_law_1134 dL_law_1135 dL_law_1136 rfl ?_
  refine r_scr (c := 2) (pq := 1143) C S (by decide) (by omega) rfl rfl dL_law_1137 dL_law_1138 dL_law_1140 dL_law_1141 dL_law_1142 rfl ?_
  refine r_scr (c := 3) (pq := 1149) C S (by decide) (by omega) rfl rfl dL_law_1143 dL_law_1144 dL_law_1146 dL_law_1147 dL_law_1148 rfl ?_
  refine r_callV (pq := 1152) C (As := [.int (xv (i + 1)), .int (xv (i + 2)), .int (xv (i + 3))]) (mc_X11_treaty hS hN) hN.1 rfl gL_law_X11_treaty rfl (na := 3) (by decide +kernel) rfl (by decide) (by decide) (Nat.le_of_ble_eq_true rfl) ⟨by rw [S.2.2.2.2.2.1]; omega, by rw [S.2.2.2.2.2.2]; omega⟩ dL_law_1149 rfl rfl (fun r9 w9 hq => ?_)
  obtain ⟨rfl, q1, B9, hB9, hN9⟩ := hq
  dsimp only [Option.toList, List.cons_append, List.nil_append]
  refine GG.cast (h.mid (fun q z1 _ => q1 q z1)) ?_
  refine r_aload_n (pq := 1153) C dL_law_1152 rfl rfl ?_
  refine r_scr (c := 1) (pq := 1159) C S (by decide) (by omega) rfl rfl dL_law_1153 dL_law_1154 dL_law_1156 dL_law_1157 dL_law_1158 rfl ?_
  refine r_scr (c := 2) (pq := 1165) C S (by decide) (by omega) rfl rfl dL_law_1159 dL_law_1160 dL_law_1162 dL_law_1163 dL_law_1164 rfl ?_
  refine r_scr (c := 3) (pq := 1171) C S (by decide) (by omega) rfl rfl dL_law_1165 dL_law_1166 dL_law_1168 dL_law_1169 dL_law_1170 rfl ?_
  refine r_callV (pq := 1174) C (As := [.int (xv (i + 1)), .int (xv (i + 2)), .int (xv (i + 3))]) (mc_X12_treaty (w0 := w9) hS) (WM_obj _ _ _ _ _ _) rfl gL_law_X12_treaty rfl (na := 3) (by decide +kernel) rfl (by decide) (by decide) (Nat.le_of_ble_eq_true rfl) ⟨by rw [S.2.2.2.2.2.1]; omega, by rw [S.2.2.2.2.2.2]; omega⟩ dL_law_1171 rfl rfl (fun r8 w8 hq => ?_)
  obtain ⟨rfl, t, rfl, hm, he⟩ := hq
  dsimp only [Option.toList, List.cons_append, List.nil_append]
  refine r_icmp_eq (tg := 1603) (pq := 1177) C dL_law_1174 (by decide) rfl (fun _ => ?_) (fun c => absurd rfl c)
  exact K _ B9 t _ _ (by omega) (by omega) (h.next (hS.sr.treaty _ _ _) q1 hB9 hN9 hm he)

set_option maxHeartbeats 4000000 in
set_option maxRecDepth 100000 in
theorem lc_19 {X : XX} {b L : Nat} {xv : Nat → Int32} (C : C0 X RL cL_law wsL_law 9 8) (S : LW X b L xv) {bx am qo i k n : Nat} {B A : Nat → Nat} {s : ST} {w : RW} (h : LI X bx am qo B A s w) (hi : i + 6 ≤ L) (hk : k + 3 ≤ 601024) (hn : n + 402 ≤ 7293034) (K : ∀ (w' : RW) (B' : Nat → Nat) (t : ST) (k' n' : Nat), k' ≤ k + 3 → n' ≤ n + 402 → LI X bx am qo B' A t w' → GG X w' k' n' 1603 (lvL b bx am qo i) []) : GG X w k n 1179 (lvL b bx am qo i) [] := by
  have h9 := h
  obtain ⟨hS, hN, hW, rfl, rfl, fo, ho⟩ := h9
  refine r_aload_n (pq := 1180) C dL_law_1179 rfl rfl ?_
  refine r_scr (c := 1) (pq := 1186) C S (by decide) (by omega) rfl rfl dL_law_1180 dL_law_1181 dL_law_1183 dL_law_1184 dL_law_1185 rfl ?_
  refine r_scr (c := 2) (pq := 1192) C S (by decide) (by omega) rfl rfl dL_law_1186 dL_law_1187 dL_law_1189 dL_law_1190 dL_law_1191 rfl ?_
  refine r_scr (c := 3) (pq := 1198) C S (by decide) (by omega) rfl rfl dL_law_1192 dL_law_1193 dL_law_1195 dL_law_1196 dL_law_1197 rfl ?_
  refine r_scr (c := 4) (pq := 1204) C S (by decide) (by omega) rfl rfl dL_law_1198 dL_law_1199 dL_law_1201 dL_law_1202 dL_law_1203 rfl ?_
  refine r_callV (pq := 1207) C (As := [.int (xv (i + 1)), .int (xv (i + 2)), .int (xv (i + 3)), .int (xv (i + 4))]) (mc_X11_decides hS hN) hN.1 rfl gL_law_X11_decides rfl (na := 4) (by decide +kernel) rfl (by decide) (by decide) (Nat.le_of_ble_eq_true rfl) ⟨by rw [S.2.2.2.2.2.1]; omega, by rw [S.2.2.2.2.2.2]; omega⟩ dL_law_1204 rfl rfl (fun r9 w9 hq => ?_)
  obtain ⟨rfl, q1, B9, hB9, hN9⟩ := hq
  dsimp only [Option.toList, List.cons_append, List.nil_append]
  refine GG.cast (h.mid (fun q z1 _ => q1 q z1)) ?_
  refine r_aload_n (pq := 1208) C dL_law_1207 rfl rfl ?_
  refine r_scr (c := 1) (pq := 1214) C S (by decide) (by omega) rfl rfl dL_law_1208 dL_law_1209 dL_law_1211 dL_law_1212 dL_law_1213 rfl ?_
  refine r_scr (c := 2) (pq := 1220) C S (by decide) (by omega) rfl rfl dL_law_1214 dL_law_1215 dL_law_1217 dL_law_1218 dL_law_1219 rfl ?_
  refine r_scr (c := 3) (pq := 1226) C S (by decide) (by omega) rfl rfl dL_law_1220 dL_law_1221 dL_law_1223 dL_law_1224 dL_law_1225 rfl ?_
  refine r_scr (c := 4) (pq := 1232) C S (by decide) (by omega) rfl rfl dL_law_1226 dL_law_1227 dL_law_1229 dL_law_1230 dL_law_1231 rfl ?_
  refine r_callV (pq := 1235) C (As := [.int (xv (i + 1)), .int (xv (i + 2)), .int (xv (i + 3)), .int (xv (i + 4))]) (mc_X12_decides (w0 := w9) hS) (WM_obj _ _ _ _ _ _) rfl gL_law_X12_decides rfl (na := 4) (by decide +kernel) rfl (by decide) (by decide) (Nat.le_of_ble_eq_true rfl) ⟨by rw [S.2.2.2.2.2.1]; omega, by rw [S.2.2.2.2.2.2]; omega⟩ dL_law_1232 rfl rfl (fun r8 w8 hq => ?_)
  obtain ⟨rfl, t, rfl, hm, he⟩ := hq
  dsimp only [Option.toList, List.cons_append, List.nil_append]
  refine r_icmp_eq (tg := 1603) (pq := 1238) C dL_law_1235 (by decide) rfl (fun _ => ?_) (fun c => absurd rfl c)
  exact K _ B9 t _ _ (by omega) (by omega) (h.next hS.sr q1 hB9 hN9 hm he)

set_option maxHeartbeats 4000000 in
set_option maxRecDepth 100000 in
theorem lc_20 {X : XX} {b L : Nat} {xv : Nat → Int32} (C : C0 X RL cL_law wsL_law 9 8) (S : LW X b L xv) {bx am qo i k n : Nat} {B A : Nat → Nat} {s : ST} {w : RW} (h : LI X bx am qo B A s w) (hi : i + 6 ≤ L) (hk : k + 3 ≤ 601024) (hn : n + 402 ≤ 7293034) (K : ∀ (w' : RW) (B' : Nat → Nat) (t : ST) (k' n' : Nat), k' ≤ k + 3 → n' ≤ n + 402 → LI X bx am qo B' A t w' → GG X w' k' n' 1603 (lvL b bx am qo i) []) : GG X w k n 1240 (lvL b bx am qo i) [] := by
  have h9 := h
  obtain ⟨hS, hN, hW, rfl, rfl, fo, ho⟩ := h9
  refine r_aload_n (pq := 1241) C dL_law_1240 rfl rfl ?_
  refine r_scr (c := 1) (pq := 1247) C S (by decide) (by omega) rfl rfl dL_law_1241 dL_law_1242 dL_law_1244 dL_law_1245 dL_law_1246 rfl ?_
  refine r_scr (c := 2) (pq := 1253) C S (by decide) (by omega) rfl rfl dL_law_1247 dL_law_1248 dL_law_1250 dL_law_1251 dL_law_1252 rfl ?_
  refine r_callV (pq := 1256) C (As := [.int (xv (i + 1)), .int (xv (i + 2))]) (mc_X11_taxed hS hN) hN.1 rfl gL_law_X11_taxed rfl (na := 2) (by decide +kernel) rfl (by decide) (by decide) (Nat.le_of_ble_eq_true rfl) ⟨by rw [S.2.2.2.2.2.1]; omega, by rw [S.2.2.2.2.2.2]; omega⟩ dL_law_1253 rfl rfl (fun r9 w9 hq => ?_)
  obtain ⟨rfl, q1, B9, hB9, hN9⟩ := hq
  dsimp only [Option.toList, List.cons_append, List.nil_append]
  refine GG.cast (h.mid (fun q z1 _ => q1 q z1)) ?_
  refine r_aload_n (pq := 1257) C dL_law_1256 rfl rfl ?_
  refine r_scr (c := 1) (pq := 1263) C S (by decide) (by omega) rfl rfl dL_law_1257 dL_law_1258 dL_law_1260 dL_law_1261 dL_law_1262 rfl ?_
  refine r_scr (c := 2) (pq := 1269) C S (by decide) (by omega) rfl rfl dL_law_1263 dL_law_1264 dL_law_1266 dL_law_1267 dL_law_1268 rfl ?_
  refine r_callV (pq := 1272) C (As := [.int (xv (i + 1)), .int (xv (i + 2))]) (mc_X12_taxed (w0 := w9) hS) (WM_obj _ _ _ _ _ _) rfl gL_law_X12_taxed rfl (na := 2) (by decide +kernel) rfl (by decide) (by decide) (Nat.le_of_ble_eq_true rfl) ⟨by rw [S.2.2.2.2.2.1]; omega, by rw [S.2.2.2.2.2.2]; omega⟩ dL_law_1269 rfl rfl (fun r8 w8 hq => ?_)
  obtain ⟨rfl, t, rfl, hm, he⟩ := hq
  dsimp only [Option.toList, List.cons_append, List.nil_append]
  refine r_icmp_eq (tg := 1603) (pq := 1275) C dL_law_1272 (by decide) rfl (fun _ => ?_) (fun c => absurd rfl c)
  exact K _ B9 t _ _ (by omega) (by omega) (h.next hS.sr q1 hB9 hN9 hm he)

set_option maxHeartbeats 4000000 in
set_option maxRecDepth 100000 in
theorem lc_21 {X : XX} {b L : Nat} {xv : Nat → Int32} (C : C0 X RL cL_law wsL_law 9 8) (S : LW X b L xv) {bx am qo i k n : Nat} {B A : Nat → Nat} {s : ST} {w : RW} (h : LI X bx am qo B A s w) (hi : i + 6 ≤ L) (hk : k + 3 ≤ 601024) (hn : n + 402 ≤ 7293034) (K : ∀ (w' : RW) (B' : Nat → Nat) (t : ST) (k' n' : Nat), k' ≤ k + 3 → n' ≤ n + 402 → LI X bx am qo B' A t w' → GG X w' k' n' 1603 (lvL b bx am qo i) []) : GG X w k n 1277 (lvL b bx am qo i) [] := by
  have h9 := h
  obtain ⟨hS, hN, hW, rfl, rfl, fo, ho⟩ := h9
  refine r_aload_n (pq := 1278) C dL_law_1277 rfl rfl ?_
  refine r_callV (pq := 1281) C (As := []) (mc_X11_quarrels hS hN) hN.1 rfl gL_law_X11_quarrels rfl (na := 0) (by decide +kernel) rfl (by decide) (by decide) (Nat.le_of_ble_eq_true rfl) ⟨by rw [S.2.2.2.2.2.1]; omega, by rw [S.2.2.2.2.2.2]; omega⟩ dL_law_1278 rfl rfl (fun r9 w9 hq => ?_)
  obtain ⟨rfl, q1, B9, hB9, hN9⟩ := hq
  dsimp only [Option.toList, List.cons_append, List.nil_append]
  refine GG.cast (h.mid (fun q z1 _ => q1 q z1)) ?_
  refine r_aload_n (pq := 1282) C dL_law_1281 rfl rfl ?_
  refine r_callV (pq := 1285) C (As := []) (mc_X12_quarrels (w0 := w9) hS) (WM_obj _ _ _ _ _ _) rfl gL_law_X12_quarrels rfl (na := 0) (by decide +kernel) rfl (by decide) (by decide) (Nat.le_of_ble_eq_true rfl) ⟨by rw [S.2.2.2.2.2.1]; omega, by rw [S.2.2.2.2.2.2]; omega⟩ dL_law_1282 rfl rfl (fun r8 w8 hq => ?_)
  obtain ⟨rfl, t, rfl, hm, he⟩ := hq
  dsimp only [Option.toList, List.cons_append, List.nil_append]
  refine r_icmp_eq (tg := 1603) (pq := 1288) C dL_law_1285 (by decide) rfl (fun _ => ?_) (fun c => absurd rfl c)
  exact K _ B9 t _ _ (by omega) (by omega) (h.next hS.sr q1 hB9 hN9 hm he)

set_option maxHeartbeats 4000000 in
set_option maxRecDepth 100000 in
theorem lc_22 {X : XX} {b L : Nat} {xv : Nat → Int32} (C : C0 X RL cL_law wsL_law 9 8) (S : LW X b L xv) {bx am qo i k n : Nat} {B A : Nat → Nat} {s : ST} {w : RW} (h : LI X bx am qo B A s w) (hi : i + 6 ≤ L) (hk : k + 3 ≤ 601024) (hn : n + 402 ≤ 7293034) (K : ∀ (w' : RW) (B' : Nat → Nat) (t : ST) (k' n' : Nat), k' ≤ k + 3 → n' ≤ n + 402 → LI X bx am qo B' A t w' → GG X w' k' n' 1603 (lvL b bx am qo i) []) : GG X w k n 1290 (lvL b bx am qo i) [] := by
  have h9 := h
  obtain ⟨hS, hN, hW, rfl, rfl, fo, ho⟩ := h9
  refine r_aload_n (pq := 1291) C dL_law_1290 rfl rfl ?_
  refine r_scr (c := 1) (pq := 1297) C S (by decide) (by omega) rfl rfl dL_law_1291 dL_law_1292 dL_law_1294 dL_law_1295 dL_law_1296 rfl ?_
  refine r_callV (pq := 1300) C (As := [.int (xv (i + 1))]) (mc_X11_count hS hN) hN.1 rfl gL_law_X11_count rfl (na := 1) (by decide +kernel) rfl (by decide) (by decide) (Nat.le_of_ble_eq_true rfl) ⟨by rw [S.2.2.2.2.2.1]; omega, by rw [S.2.2.2.2.2.2]; omega⟩ dL_law_1297 rfl rfl (fun r9 w9 hq => ?_)
  obtain ⟨rfl, q1, B9, hB9, hN9⟩ := hq
  dsimp only [Option.toList, List.cons_append, List.nil_append]
  refine GG.cast (h.mid (fun q z1 _ => q1 q z1)) ?_
  refine r_aload_n (pq := 1301) C dL_law_1300 rfl rfl ?_
  refine r_scr (c := 1) (pq := 1307) C S (by decide) (by omega) rfl rfl dL_law_1301 dL_law_1302 dL_law_1304 dL_law_1305 dL_law_1306 rfl ?_
  refine r_callV (pq := 1310) C (As := [.int (xv (i + 1))]) (mc_X12_count (w0 := w9) hS) (WM_obj _ _ _ _ _ _) rfl gL_law_X12_count rfl (na := 1) (by decide +kernel) rfl (by decide) (by decide) (Nat.le_of_ble_eq_true rfl) ⟨by rw [S.2.2.2.2.2.1]; omega, by rw [S.2.2.2.2.2.2]; omega⟩ dL_law_1307 rfl rfl (fun r8 w8 hq => ?_)
  obtain ⟨rfl, t, rfl, hm, he⟩ := hq
  dsimp only [Option.toList, List.cons_append, List.nil_append]
  refine r_icmp_eq (tg := 1603) (pq := 1313) C dL_law_1310 (by decide) rfl (fun _ => ?_) (fun c => absurd rfl c)
  exact K _ B9 t _ _ (by omega) (by omega) (h.next hS.sr q1 hB9 hN9 hm he)

set_option maxHeartbeats 4000000 in
set_option maxRecDepth 100000 in
theorem lc_23 {X : XX} {b L : Nat} {xv : Nat → Int32} (C : C0 X RL cL_law wsL_law 9 8) (S : LW X b L xv) {bx am qo i k n : Nat} {B A : Nat → Nat} {s : ST} {w : RW} (h : LI X bx am qo B A s w) (hi : i + 6 ≤ L) (hk : k + 3 ≤ 601024) (hn : n + 402 ≤ 7293034) (K : ∀ (w' : RW) (B' : Nat → Nat) (t : ST) (k' n' : Nat), k' ≤ k + 3 → n' ≤ n + 402 → LI X bx am qo B' A t w' → GG X w' k' n' 1603 (lvL b bx am qo i) []) : GG X w k n 1315 (lvL b bx am qo i) [] := by
  have h9 := h
  obtain ⟨hS, hN, hW, rfl, rfl, fo, ho⟩ := h9
  refine r_aload_n (pq := 1316) C dL_law_1315 rfl rfl ?_
  refine r_scr (c := 1) (pq := 1322) C S (by decide) (by omega) rfl rfl dL_law_1316 dL_law_1317 dL_law_1319 dL_law_1320 dL_law_1321 rfl ?_
  refine r_scr (c := 2) (pq := 1328) C S (by decide) (by omega) rfl rfl dL_law_1322 dL_law_1323 dL_law_1325 dL_law_1326 dL_law_1327 rfl ?_
  refine r_scr (c := 3) (pq := 1334) C S (by decide) (by omega) rfl rfl dL_law_1328 dL_law_1329 dL_law_1331 dL_law_1332 dL_law_1333 rfl ?_
  refine r_callV (pq := 1337) C (As := [.int (xv (i + 1)), .int (xv (i + 2)), .int (xv (i + 3))]) (mc_X11_keep hS hN) hN.1 rfl gL_law_X11_keep rfl (na := 3) (by decide +kernel) rfl (by decide) (by decide) (Nat.le_of_ble_eq_true rfl) ⟨by rw [S.2.2.2.2.2.1]; omega, by rw [S.2.2.2.2.2.2]; omega⟩ dL_law_1334 rfl rfl (fun r9 w9 hq => ?_)
  obtain ⟨rfl, q1, B9, hB9, hN9⟩ := hq
  dsimp only [Option.toList, List.cons_append, List.nil_append]
  refine GG.cast (h.mid (fun q z1 _ => q1 q z1)) ?_
  refine r_aload_n (pq := 1338) C dL_law_1337 rfl rfl ?_
  refine r_scr (c := 1) (pq := 1344) C S (by decide) (by omega) rfl rfl dL_law_1338 dL_law_1339 dL_law_1341 dL_law_1342 dL_law_1343 rfl ?_
  refine r_scr (c := 2) (pq := 1350) C S (by decide) (by omega) rfl rfl dL_law_1344 dL_law_1345 dL_law_1347 dL_law_1348 dL_law_1349 rfl ?_
  refine r_scr (c := 3) (pq := 1356) C S (by decide) (by omega) rfl rfl dL_law_1350 dL_law_1351 dL_law_1353 dL_law_1354 dL_law_1355 rfl ?_
  refine r_callV (pq := 1359) C (As := [.int (xv (i + 1)), .int (xv (i + 2)), .int (xv (i + 3))]) (mc_X12_keep (w0 := w9) hS) (WM_obj _ _ _ _ _ _) rfl gL_law_X12_keep rfl (na := 3) (by decide +kernel) rfl (by decide) (by decide) (Nat.le_of_ble_eq_true rfl) ⟨by rw [S.2.2.2.2.2.1]; omega, by rw [S.2.2.2.2.2.2]; omega⟩ dL_law_1356 rfl rfl (fun r8 w8 hq => ?_)
  obtain ⟨rfl, t, rfl, hm, he⟩ := hq
  dsimp only [Option.toList, List.cons_append, List.nil_append]
  refine r_icmp_eq (tg := 1603) (pq := 1362) C dL_law_1359 (by decide) rfl (fun _ => ?_) (fun c => absurd rfl c)
  exact K _ B9 t _ _ (by omega) (by omega) (h.next (hS.sr.keep _ _ _) q1 hB9 hN9 hm he)

set_option maxHeartbeats 4000000 in
set_option maxRecDepth 100000 in
theorem lc_24 {X : XX} {b L : Nat} {xv : Nat → Int32} (C : C0 X RL cL_law wsL_law 9 8) (S : LW X b L xv) {bx am qo i k n : Nat} {B A : Nat → Nat} {s : ST} {w : RW} (h : LI X bx am qo B A s w) (hi : i + 6 ≤ L) (hk : k + 3 ≤ 601024) (hn : n + 402 ≤ 7293034) (K : ∀ (w' : RW) (B' : Nat → Nat) (t : ST) (k' n' : Nat), k' ≤ k + 3 → n' ≤ n + 402 → LI X bx am qo B' A t w' → GG X w' k' n' 1603 (lvL b bx am qo i) []) : GG X w k n 1364 (lvL b bx am qo i) [] := by
  have h9 := h
  obtain ⟨hS, hN, hW, rfl, rfl, fo, ho⟩ := h9
  refine r_aload_n (pq := 1365) C dL_law_1364 rfl rfl ?_
  refine r_scr (c := 1) (pq := 1371) C S (by decide) (by omega) rfl rfl dL_law_1365 dL_law_1366 dL_law_1368 dL_law_1369 dL_law_1370 rfl ?_
  refine r_scr (c := 2) (pq := 1377) C S (by decide) (by omega) rfl rfl dL_law_1371 dL_law_1372 dL_law_1374 dL_law_1375 dL_law_1376 rfl ?_
  refine r_scr (c := 3) (pq := 1383) C S (by decide) (by omega) rfl rfl dL_law_1377 dL_law_1378 dL_law_1380 dL_law_1381 dL_law_1382 rfl ?_
  refine r_callV (pq := 1386) C (As := [.int (xv (i + 1)), .int (xv (i + 2)), .int (xv (i + 3))]) (mc_X11_make hS hN) hN.1 rfl gL_law_X11_make rfl (na := 3) (by decide +kernel) rfl (by decide) (by decide) (Nat.le_of_ble_eq_true rfl) ⟨by rw [S.2.2.2.2.2.1]; omega, by rw [S.2.2.2.2.2.2]; omega⟩ dL_law_1383 rfl rfl (fun r9 w9 hq => ?_)
  obtain ⟨rfl, q1, B9, hB9, hN9⟩ := hq
  dsimp only [Option.toList, List.cons_append, List.nil_append]
  refine GG.cast (h.mid (fun q z1 _ => q1 q z1)) ?_
  refine r_aload_n (pq := 1387) C dL_law_1386 rfl rfl ?_
  refine r_scr (c := 1) (pq := 1393) C S (by decide) (by omega) rfl rfl dL_law_1387 dL_law_1388 dL_law_1390 dL_law_1391 dL_law_1392 rfl ?_
  refine r_scr (c := 2) (pq := 1399) C S (by decide) (by omega) rfl rfl dL_law_1393 dL_law_1394 dL_law_1396 dL_law_1397 dL_law_1398 rfl ?_
  refine r_scr (c := 3) (pq := 1405) C S (by decide) (by omega) rfl rfl dL_law_1399 dL_law_1400 dL_law_1402 dL_law_1403 dL_law_1404 rfl ?_
  refine r_callV (pq := 1408) C (As := [.int (xv (i + 1)), .int (xv (i + 2)), .int (xv (i + 3))]) (mc_X12_make (w0 := w9) hS) (WM_obj _ _ _ _ _ _) rfl gL_law_X12_make rfl (na := 3) (by decide +kernel) rfl (by decide) (by decide) (Nat.le_of_ble_eq_true rfl) ⟨by rw [S.2.2.2.2.2.1]; omega, by rw [S.2.2.2.2.2.2]; omega⟩ dL_law_1405 rfl rfl (fun r8 w8 hq => ?_)
  obtain ⟨rfl, t, rfl, hm, he⟩ := hq
  dsimp only [Option.toList, List.cons_append, List.nil_append]
  refine r_icmp_eq (tg := 1603) (pq := 1411) C dL_law_1408 (by decide) rfl (fun _ => ?_) (fun c => absurd rfl c)
  exact K _ B9 t _ _ (by omega) (by omega) (h.next (hS.sr.make _ _ _) q1 hB9 hN9 hm he)

set_option maxHeartbeats 4000000 in
set_option maxRecDepth 100000 in
theorem lc_26 {X : XX} {b L : Nat} {xv : Nat → Int32} (C : C0 X RL cL_law wsL_law 9 8) (S : LW X b L xv) {bx am qo i k n : Nat} {B A : Nat → Nat} {s : ST} {w : RW} (h : LI X bx am qo B A s w) (hi : i + 6 ≤ L) (hk : k + 3 ≤ 601024) (hn : n + 402 ≤ 7293034) (K : ∀ (w' : RW) (B' : Nat → Nat) (t : ST) (k' n' : Nat), k' ≤ k + 3 → n' ≤ n + 402 → LI X bx am qo B' A t w' → GG X w' k' n' 1603 (lvL b bx am qo i) []) : GG X w k n 1480 (lvL b bx am qo i) [] := by
  have h9 := h
  obtain ⟨hS, hN, hW, rfl, rfl, fo, ho⟩ := h9
  refine r_aload_n (pq := 1481) C dL_law_1480 rfl rfl ?_
  refine r_scr (c := 1) (pq := 1487) C S (by decide) (by omega) rfl rfl dL_law_1481 dL_law_1482 dL_law_1484 dL_law_1485 dL_law_1486 rfl ?_
  refine r_scr (c := 2) (pq := 1493) C S (by decide) (by omega) rfl rfl dL_law_1487 dL_law_1488 dL_law_1490 dL_law_1491 dL_law_1492 rfl ?_
  refine r_scr (c := 3) (pq := 1499) C S (by decide) (by omega) rfl rfl dL_law_1493 dL_law_1494 dL_law_1496 dL_law_1497 dL_law_1498 rfl ?_
  refine r_scr (c := 4) (pq := 1505) C S (by decide) (by omega) rfl rfl dL_law_1499 dL_law_1500 dL_law_1502 dL_law_1503 dL_law_1504 rfl ?_
  refine r_scr (c := 5) (pq := 1511) C S (by decide) (by omega) rfl rfl dL_law_1505 dL_law_1506 dL_law_1508 dL_law_1509 dL_law_1510 rfl ?_
  refine r_callV (pq := 1514) C (As := [.int (xv (i + 1)), .int (xv (i + 2)), .int (xv (i + 3)), .int (xv (i + 4)), .int (xv (i + 5))]) (mc_X11_copy hS hN) hN.1 rfl gL_law_X11_copy rfl (na := 5) (by decide +kernel) rfl (by decide) (by decide) (Nat.le_of_ble_eq_true rfl) ⟨by rw [S.2.2.2.2.2.1]; omega, by rw [S.2.2.2.2.2.2]; omega⟩ dL_law_1511 rfl rfl (fun r9 w9 hq => ?_)
  obtain ⟨rfl, q1, B9, hB9, hN9⟩ := hq
  dsimp only [Option.toList, List.cons_append, List.nil_append]
  refine GG.cast (h.mid (fun q z1 _ => q1 q z1)) ?_
  refine r_aload_n (pq := 1515) C dL_law_1514 rfl rfl ?_
  refine r_scr (c := 1) (pq := 1521) C S (by decide) (by omega) rfl rfl dL_law_1515 dL_law_1516 dL_law_1518 dL_law_1519 dL_law_1520 rfl ?_
  refine r_scr (c := 2) (pq := 1527) C S (by decide) (by omega) rfl rfl dL_law_1521 dL_law_1522 dL_law_1524 dL_law_1525 dL_law_1526 rfl ?_
  refine r_scr (c := 3) (pq := 1533) C S (by decide) (by omega) rfl rfl dL_law_1527 dL_law_1528 dL_law_1530 dL_law_1531 dL_law_1532 rfl ?_
  refine r_scr (c := 4) (pq := 1539) C S (by decide) (by omega) rfl rfl dL_law_1533 dL_law_1534 dL_law_1536 dL_law_1537 dL_law_1538 rfl ?_
  refine r_scr (c := 5) (pq := 1545) C S (by decide) (by omega) rfl rfl dL_law_1539 dL_law_1540 dL_law_1542 dL_law_1543 dL_law_1544 rfl ?_
  refine r_callV (pq := 1548) C (As := [.int (xv (i + 1)), .int (xv (i + 2)), .int (xv (i + 3)), .int (xv (i + 4)), .int (xv (i + 5))]) (mc_X12_copy (w0 := w9) hS) (WM_obj _ _ _ _ _ _) rfl gL_law_X12_copy rfl (na := 5) (by decide +kernel) rfl (by decide) (by decide) (Nat.le_of_ble_eq_true rfl) ⟨by rw [S.2.2.2.2.2.1]; omega, by rw [S.2.2.2.2.2.2]; omega⟩ dL_law_1545 rfl rfl (fun r8 w8 hq => ?_)
  obtain ⟨rfl, t, rfl, hm, he⟩ := hq
  dsimp only [Option.toList, List.cons_append, List.nil_append]
  refine r_icmp_eq (tg := 1603) (pq := 1551) C dL_law_1548 (by decide) rfl (fun _ => ?_) (fun c => absurd rfl c)
  exact K _ B9 t _ _ (by omega) (by omega) (h.next (hS.sr.copy _ _ _ _ _) q1 hB9 hN9 hm he)

set_option maxHeartbeats 4000000 in
set_option maxRecDepth 100000 in
theorem lc_27 {X : XX} {b L : Nat} {xv : Nat → Int32} (C : C0 X RL cL_law wsL_law 9 8) (S : LW X b L xv) {bx am qo i k n : Nat} {B A : Nat → Nat} {s : ST} {w : RW} (h : LI X bx am qo B A s w) (hi : i + 6 ≤ L) (hk : k + 3 ≤ 601024) (hn : n + 402 ≤ 7293034) (K : ∀ (w' : RW) (B' : Nat → Nat) (t : ST) (k' n' : Nat), k' ≤ k + 3 → n' ≤ n + 402 → LI X bx am qo B' A t w' → GG X w' k' n' 1603 (lvL b bx am qo i) []) : GG X w k n 1553 (lvL b bx am qo i) [] := by
  have h9 := h
  obtain ⟨hS, hN, hW, rfl, rfl, fo, ho⟩ := h9
  refine r_aload_n (pq := 1554) C dL_law_1553 rfl rfl ?_
  refine r_scr (c := 1) (pq := 1560) C S (by decide) (by omega) rfl rfl dL_law_1554 dL_law_1555 dL_law_1557 dL_law_1558 dL_law_1559 rfl ?_
  refine r_callV (pq := 1563) C (As := [.int (xv (i + 1))]) (mc_X11_weight hS hN) hN.1 rfl gL_law_X11_weight rfl (na := 1) (by decide +kernel) rfl (by decide) (by decide) (Nat.le_of_ble_eq_true rfl) ⟨by rw [S.2.2.2.2.2.1]; omega, by rw [S.2.2.2.2.2.2]; omega⟩ dL_law_1560 rfl rfl (fun r9 w9 hq => ?_)
  obtain ⟨rfl, q1, B9, hB9, hN9⟩ := hq
  dsimp only [Option.toList, List.cons_append, List.nil_append]
  refine GG.cast (h.mid (fun q z1 _ => q1 q z1)) ?_
  refine r_aload_n (pq := 1564) C dL_law_1563 rfl rfl ?_
  refine r_scr (c := 1) (pq := 1570) C S (by decide) (by omega) rfl rfl dL_law_1564 dL_law_1565 dL_law_1567 dL_law_1568 dL_law_1569 rfl ?_
  refine r_callV (pq := 1573) C (As := [.int (xv (i + 1))]) (mc_X12_weight (w0 := w9) hS) (WM_obj _ _ _ _ _ _) rfl gL_law_X12_weight rfl (na := 1) (by decide +kernel) rfl (by decide) (by decide) (Nat.le_of_ble_eq_true rfl) ⟨by rw [S.2.2.2.2.2.1]; omega, by rw [S.2.2.2.2.2.2]; omega⟩ dL_law_1570 rfl rfl (fun r8 w8 hq => ?_)
  obtain ⟨rfl, t, rfl, hm, he⟩ := hq
  dsimp only [Option.toList, List.cons_append, List.nil_append]
  refine r_icmp_eq (tg := 1603) (pq := 1576) C dL_law_1573 (by decide) rfl (fun _ => ?_) (fun c => absurd rfl c)
  exact K _ B9 t _ _ (by omega) (by omega) (h.next hS.sr q1 hB9 hN9 hm he)

set_option maxHeartbeats 4000000 in
set_option maxRecDepth 100000 in
theorem lc_28 {X : XX} {b L : Nat} {xv : Nat → Int32} (C : C0 X RL cL_law wsL_law 9 8) (S : LW X b L xv) {bx am qo i k n : Nat} {B A : Nat → Nat} {s : ST} {w : RW} (h : LI X bx am qo B A s w) (hi : i + 6 ≤ L) (hk : k + 3 ≤ 601024) (hn : n + 402 ≤ 7293034) (K : ∀ (w' : RW) (B' : Nat → Nat) (t : ST) (k' n' : Nat), k' ≤ k + 3 → n' ≤ n + 402 → LI X bx am qo B' A t w' → GG X w' k' n' 1603 (lvL b bx am qo i) []) : GG X w k n 1578 (lvL b bx am qo i) [] := by
  have h9 := h
  obtain ⟨hS, hN, hW, rfl, rfl, fo, ho⟩ := h9
  refine r_aload_n (pq := 1579) C dL_law_1578 rfl rfl ?_
  refine r_scr (c := 1) (pq := 1585) C S (by decide) (by omega) rfl rfl dL_law_1579 dL_law_1580 dL_law_1582 dL_law_1583 dL_law_1584 rfl ?_
  refine r_callVW (pq := 1588) C (As := [.int (xv (i + 1))]) (mc_X11_toss hS hN S.2.2.2.2.1) hN.1 rfl gL_law_X11_toss rfl (na := 1) (by decide +kernel) rfl (by decide) (by decide) (Nat.le_of_ble_eq_true rfl) ⟨by rw [S.2.2.2.2.2.1]; omega, by rw [S.2.2.2.2.2.2]; omega⟩ dL_law_1585 rfl rfl (fun r9 w9 hq => ?_)
  obtain ⟨rfl, q1, B9, hB9, hN9⟩ := hq
  dsimp only [Option.toList, List.cons_append, List.nil_append]
  refine GG.cast (h.mid (fun q z1 _ => q1 q z1)) ?_
  refine r_aload_n (pq := 1589) C dL_law_1588 rfl rfl ?_
  refine r_scr (c := 1) (pq := 1595) C S (by decide) (by omega) rfl rfl dL_law_1589 dL_law_1590 dL_law_1592 dL_law_1593 dL_law_1594 rfl ?_
  refine r_callV (pq := 1598) C (As := [.int (xv (i + 1))]) (mc_X12_toss (w0 := w9) hS) (WM_obj _ _ _ _ _ _) rfl gL_law_X12_toss rfl (na := 1) (by decide +kernel) rfl (by decide) (by decide) (Nat.le_of_ble_eq_true rfl) ⟨by rw [S.2.2.2.2.2.1]; omega, by rw [S.2.2.2.2.2.2]; omega⟩ dL_law_1595 rfl rfl (fun r8 w8 hq => ?_)
  obtain ⟨rfl, t, rfl, hm, he⟩ := hq
  dsimp only [Option.toList, List.cons_append, List.nil_append]
  refine r_icmp_eq (tg := 1603) (pq := 1601) C dL_law_1598 (by decide) rfl (fun _ => ?_) (fun c => absurd rfl c)
  exact K _ B9 t _ _ (by omega) (by omega) (h.next hS.sr q1 hB9 hN9 hm he)

set_option maxHeartbeats 4000000 in
set_option maxRecDepth 100000 in
theorem lc_25 {X : XX} {b L : Nat} {xv : Nat → Int32} (C : C0 X RL cL_law wsL_law 9 8) (S : LW X b L xv) {bx am qo i k n : Nat} {B A : Nat → Nat} {s : ST} {w : RW} (h : LI X bx am qo B A s w) (hi : i + 6 ≤ L) (hk : k + 3 ≤ 601024) (hn : n + 402 ≤ 7293034) (K : ∀ (w' : RW) (B' : Nat → Nat) (t : ST) (k' n' : Nat), k' ≤ k + 3 → n' ≤ n + 402 → LI X bx am qo B' A t w' → GG X w' k' n' 1603 (lvL b bx am qo i) []) : GG X w k n 1413 (lvL b bx am qo i) [] := by
  have h9 := h
  obtain ⟨hS, hN, hW, rfl, rfl, fo, ho⟩ := h9
  refine r_aload_n (pq := 1414) C dL_law_1413 rfl rfl ?_
  refine r_scr (c := 1) (pq := 1420) C S (by decide) (by omega) rfl rfl dL_law_1414 dL_law_1415 dL_law_1417 dL_law_1418 dL_law_1419 rfl ?_
  refine r_scr (c := 2) (pq := 1426) C S (by decide) (by omega) rfl rfl dL_law_1420 dL_law_1421 dL_law_1423 dL_law_1424 dL_law_1425 rfl ?_
  refine r_aload_n (pq := 1427) C dL_law_1426 rfl rfl ?_
  refine r_callSW (pq := 1430) C (As := [.ref (B 0), .int (xv (i + 1)), .int (xv (i + 2)), .ref qo]) (mc_L_element hS hN ho S.2.2.2.2.1) gL_law_L_element rfl (na := 4) (by decide +kernel) rfl (by decide) (by decide) (Nat.le_of_ble_eq_true rfl) ⟨by rw [S.2.2.2.2.2.1]; omega, by rw [S.2.2.2.2.2.2]; omega⟩ dL_law_1427 rfl rfl (fun r9 w9 hq => ?_)
  obtain ⟨rfl, q1, f9, ho9, hf9⟩ := hq
  dsimp only [Option.toList, List.cons_append, List.nil_append]
  refine r_istore (j := 5) (pq := 1432) C dL_law_1430 rfl (by decide) rfl rfl ?_
  dsimp only [List.set]
  refine GG.cast (h.mid (fun q z1 z2 => q1 q (by omega))) ?_
  refine r_aload_n (pq := 1433) C dL_law_1432 rfl rfl ?_
  refine r_scr (c := 1) (pq := 1439) C S (by decide) (by omega) rfl rfl dL_law_1433 dL_law_1434 dL_law_1436 dL_law_1437 dL_law_1438 rfl ?_
  refine r_scr (c := 2) (pq := 1445) C S (by decide) (by omega) rfl rfl dL_law_1439 dL_law_1440 dL_law_1442 dL_law_1443 dL_law_1444 rfl ?_
  refine r_callV (pq := 1448) C (As := [.int (xv (i + 1)), .int (xv (i + 2))]) (mc_X12_element (w0 := w9) hS) (WM_obj _ _ _ _ _ _) rfl gL_law_X12_element rfl (na := 2) (by decide +kernel) rfl (by decide) (by decide) (Nat.le_of_ble_eq_true rfl) ⟨by rw [S.2.2.2.2.2.1]; omega, by rw [S.2.2.2.2.2.2]; omega⟩ dL_law_1445 rfl rfl (fun r8 w8 hq => ?_)
  obtain ⟨t, rfl, hm, he, hth, rfl⟩ := hq
  dsimp only [Option.toList, List.cons_append, List.nil_append]
  refine r_lstore (pq := 1450) C dL_law_1448 (by decide) rfl rfl ?_
  dsimp only [List.set]
  refine r_aload_n (pq := 1451) C dL_law_1450 rfl rfl ?_
  refine r_callV (pq := 1454) C (As := []) (mc_X12_thrown (w0 := w9) hm) (WM_obj _ _ _ _ _ _) rfl gL_law_X12_thrown rfl (na := 0) (by decide +kernel) rfl (by decide) (by decide) (Nat.le_of_ble_eq_true rfl) ⟨by rw [S.2.2.2.2.2.1]; omega, by rw [S.2.2.2.2.2.2]; omega⟩ dL_law_1451 rfl rfl (fun r8 w8 hq => ?_)
  obtain ⟨rfl, rfl⟩ := hq
  dsimp only [Option.toList, List.cons_append, List.nil_append]
  rw [hth]
  have hN9 : NS (xE X) B s w9 := hN.w hS.sr (fun q hq => q1 q (by omega))
  have hL9 : LI X (B 0) (A 0) qo B A t (WM (xE X) A w9 t.1 t.2.1 t.2.2) := ⟨he.si hS.sr hm, he.ns (hN9.w hS.sr (fun q hq => WM_else _ _ _ _ _ _ (Or.inl hq))), WM_WM _ _ _ _, rfl, rfl, f9, (WM_else _ _ _ _ _ _ (Or.inr (by decide))).trans ho9⟩
  have fin : ∀ (v5 v6 : Option Value), GG X (WM (xE X) A w9 t.1 t.2.1 t.2.2) (k + 1 + 0 + 0) (n + 6 + 0 + 0) 1477 [some (.ref b), some (.ref (B 0)), some (.ref (A 0)), some (.ref qo), some (.int (nI i)), v5, v6, none] [] := fun v5 v6 => by
    refine r_goto (tg := 1603) C dL_law_1477 (by decide) ?_
    refine GG.fgt 5 (GG.fgt 6 ?_)
    dsimp only [List.set]
    exact K _ B t _ _ (by omega) (by omega) hL9
  refine r_iload (pq := 1456) C dL_law_1454 rfl rfl ?_
  refine r_icmp_eq (tg := 1461) (pq := 1459) C dL_law_1456 (by decide) rfl (fun _ => ?_) (fun c => absurd rfl c)
  refine r_iload (pq := 1463) C dL_law_1461 rfl rfl ?_
  have h3 : th_element s (xv (i + 1)) (xv (i + 2)) = 0 ∨ th_element s (xv (i + 1)) (xv (i + 2)) = 1 ∨ th_element s (xv (i + 1)) (xv (i + 2)) = 2 := by
    unfold th_element
    repeat' split
    all_goals simp
  rcases h3 with e0 | e0
  · have ef := hf9 e0
    simp only [e0]
    refine r_if_ne (tg := 1477) (pq := 1466) C dL_law_1463 (by decide) rfl (fun c => absurd rfl c) (fun _ => ?_)
    refine r_aload_n (pq := 1467) C dL_law_1466 rfl rfl ?_
    refine r_iconst (v := nI 0) (pq := 1468) C dL_law_1467 (by decide) rfl ?_
    refine r_lald (pq := 1469) C ((WM_else _ _ _ _ _ _ (Or.inr (by decide))).trans ho9) (by unfold vp_in; decide) dL_law_1468 rfl ?_
    refine r_lload (pq := 1471) C dL_law_1469 rfl rfl ?_
    rw [show f9 (nI 0).toNatClampNeg = f9 0 from rfl, ef, if_pos trivial]
    refine r_lcmp0 (pq := 1472) C dL_law_1471 rfl ?_
    refine r_if_eq (tg := 1477) (pq := 1475) C dL_law_1472 (by decide) rfl (fun _ => ?_) (fun c => absurd rfl c)
    exact fin _ _
  · refine r_if_ne (tg := 1477) (pq := 1466) C dL_law_1463 (by decide) rfl (fun _ => fin _ _) (fun c => ?_)
    rcases e0 with e0 | e0 <;> rw [e0] at c <;> exact absurd c (by decide)

set_option maxHeartbeats 4000000 in
set_option maxRecDepth 100000 in
theorem law_loop {X : XX} {b L : Nat} {xv : Nat → Int32} (C : C0 X RL cL_law wsL_law 9 8) (S : LW X b L xv) {bx am qo : Nat} {A : Nat → Nat} (K9 : ∀ (w : RW) (k n : Nat) (lv : List (Option Value)), k ≤ 601024 → n ≤ 7293034 → GG X w k n 1609 lv []) : ∀ (t j : Nat) (w : RW) (B : Nat → Nat) (s : ST) (k n : Nat), 6 * j ≤ L → L - 6 * j < t → LI X bx am qo B A s w → k ≤ 60 + 3 * j → n ≤ 20000 + 402 * j → GG X w k n 23 (lvL b bx am qo (6 * j)) [] := by
  intro t
  have hL := S.2.2.2.1
  induction t with
  | zero => intro j w B s k n h1 h2; omega
  | succ t ih =>
    intro j w B s k n h1 h2 h hk hn
    have nxt : 6 * j + 6 ≤ L → ∀ (w' : RW) (B' : Nat → Nat) (t' : ST) (k' n' : Nat), k' ≤ k + 3 → n' ≤ n + 402 → LI X bx am qo B' A t' w' → GG X w' k' n' 1603 (lvL b bx am qo (6 * j)) [] := by
      intro h6 w' B' t' k' n' q1 q2 q3
      refine r_iinc (v := nI (6 * (j + 1))) (pq := 1606) C dL_law_1603 rfl ((nI_add (6 * j) 6).trans (by rw [Nat.mul_succ])) (by decide) rfl rfl ?_
      dsimp only [List.set]
      refine r_goto (tg := 23) C dL_law_1606 (by decide) ?_
      exact ih (j + 1) w' B' t' k' n' (by omega) (by omega) q3 (by omega) (by omega)
    refine r_iload (pq := 25) C dL_law_23 rfl rfl ?_
    refine r_aload_n (pq := 26) C dL_law_25 rfl rfl ?_
    refine r_slen (pq := 27) C S dL_law_26 rfl ?_
    refine r_bipush (v := nI 6) (pq := 29) C dL_law_27 (by decide) rfl ?_
    by_cases h6 : 6 * j + 6 ≤ L
    · have nxt := nxt h6
      refine rN_isub (pq := 30) C dL_law_29 (by omega) rfl ?_
      refine rN_icmp_gt (tg := 1609) (pq := 33) C dL_law_30 (by decide) rfl (by omega) (by omega) (fun c => absurd c (by omega)) (fun _ => ?_)
      refine r_aload_n (pq := 34) C dL_law_33 rfl rfl ?_
      refine r_iload (pq := 36) C dL_law_34 rfl rfl ?_
      refine r_sld (pq := 37) C S (by omega) dL_law_36 rfl ?_
      refine r_bipush (v := nI 31) (pq := 39) C dL_law_37 (by decide) rfl ?_
      refine r_iand (pq := 40) C dL_law_39 rfl ?_
      obtain ⟨c, hc, ec⟩ := and31 (xv (6 * j))
      rw [ec]
      clear ec
      rcases (by omega : c = 0 ∨ c = 1 ∨ c = 2 ∨ c = 3 ∨ c = 4 ∨ c = 5 ∨ c = 6 ∨ c = 7 ∨ c = 8 ∨ c = 9 ∨ c = 10 ∨ c = 11 ∨ c = 12 ∨ c = 13 ∨ c = 14 ∨ c = 15 ∨ c = 16 ∨ c = 17 ∨ c = 18 ∨ c = 19 ∨ c = 20 ∨ c = 21 ∨ c = 22 ∨ c = 23 ∨ c = 24 ∨ c = 25 ∨ c = 26 ∨ c = 27 ∨ c = 28 ∨ c = 29 ∨ c = 30 ∨ c = 31) with e | e | e | e | e | e | e | e | e | e | e | e | e | e | e | e | e | e | e | e | e | e | e | e | e | e | e | e | e | e | e | e
      · subst e
        refine r_tableIn (tg := 172) C dL_law_40 (by decide) (by decide) (off := 132) (by decide) (by decide) ?_
        exact lc_0 C S h h6 (by omega) (by omega) nxt
      · subst e
        refine r_tableIn (tg := 209) C dL_law_40 (by decide) (by decide) (off := 169) (by decide) (by decide) ?_
        exact lc_1 C S h h6 (by omega) (by omega) nxt
      · subst e
        refine r_tableIn (tg := 270) C dL_law_40 (by decide) (by decide) (off := 230) (by decide) (by decide) ?_
        exact lc_2 C S h h6 (by omega) (by omega) nxt
      · subst e
        refine r_tableIn (tg := 347) C dL_law_40 (by decide) (by decide) (off := 307) (by decide) (by decide) ?_
        exact lc_3 C S h h6 (by omega) (by omega) nxt
      · subst e
        refine r_tableIn (tg := 408) C dL_law_40 (by decide) (by decide) (off := 368) (by decide) (by decide) ?_
        exact lc_4 C S h h6 (by omega) (by omega) nxt
      · subst e
        refine r_tableIn (tg := 461) C dL_law_40 (by decide) (by decide) (off := 421) (by decide) (by decide) ?_
        exact lc_5 C S h h6 (by omega) (by omega) nxt
      · subst e
        refine r_tableIn (tg := 498) C dL_law_40 (by decide) (by decide) (off := 458) (by decide) (by decide) ?_
        exact lc_6 C S h h6 (by omega) (by omega) nxt
      · subst e
        refine r_tableIn (tg := 535) C dL_law_40 (by decide) (by decide) (off := 495) (by decide) (by decide) ?_
        exact lc_7 C S h h6 (by omega) (by omega) nxt
      · subst e
        refine r_tableIn (tg := 624) C dL_law_40 (by decide) (by decide) (off := 584) (by decide) (by decide) ?_
        exact lc_8 C S h h6 (by omega) (by omega) nxt
      · subst e
        refine r_tableIn (tg := 673) C dL_law_40 (by decide) (by decide) (off := 633) (by decide) (by decide) ?_
        exact lc_9 C S h h6 (by omega) (by omega) nxt
      · subst e
        refine r_tableIn (tg := 710) C dL_law_40 (by decide) (by decide) (off := 670) (by decide) (by decide) ?_
        exact lc_10 C S h h6 (by omega) (by omega) nxt
      · subst e
        refine r_tableIn (tg := 759) C dL_law_40 (by decide) (by decide) (off := 719) (by decide) (by decide) ?_
        exact lc_11 C S h h6 (by omega) (by omega) nxt
      · subst e
        refine r_tableIn (tg := 808) C dL_law_40 (by decide) (by decide) (off := 768) (by decide) (by decide) ?_
        exact lc_12 C S h h6 (by omega) (by omega) nxt
      · subst e
        refine r_tableIn (tg := 885) C dL_law_40 (by decide) (by decide) (off := 845) (by decide) (by decide) ?_
        exact lc_13 C S h h6 (by omega) (by omega) nxt
      · subst e
        refine r_tableIn (tg := 910) C dL_law_40 (by decide) (by decide) (off := 870) (by decide) (by decide) ?_
        exact lc_14 C S h h6 (by omega) (by omega) nxt
      · subst e
        refine r_tableIn (tg := 971) C dL_law_40 (by decide) (by decide) (off := 931) (by decide) (by decide) ?_
        exact lc_15 C S h h6 (by omega) (by omega) nxt
      · subst e
        refine r_tableIn (tg := 1044) C dL_law_40 (by decide) (by decide) (off := 1004) (by decide) (by decide) ?_
        exact lc_16 C S h h6 (by omega) (by omega) nxt
      · subst e
        refine r_tableIn (tg := 1081) C dL_law_40 (by decide) (by decide) (off := 1041) (by decide) (by decide) ?_
        exact lc_17 C S h h6 (by omega) (by omega) nxt
      · subst e
        refine r_tableIn (tg := 1130) C dL_law_40 (by decide) (by decide) (off := 1090) (by decide) (by decide) ?_
        exact lc_18 C S h h6 (by omega) (by omega) nxt
      · subst e
        refine r_tableIn (tg := 1179) C dL_law_40 (by decide) (by decide) (off := 1139) (by decide) (by decide) ?_
        exact lc_19 C S h h6 (by omega) (by omega) nxt
      · subst e
        refine r_tableIn (tg := 1240) C dL_law_40 (by decide) (by decide) (off := 1200) (by decide) (by decide) ?_
        exact lc_20 C S h h6 (by omega) (by omega) nxt
      · subst e
        refine r_tableIn (tg := 1277) C dL_law_40 (by decide) (by decide) (off := 1237) (by decide) (by decide) ?_
        exact lc_21 C S h h6 (by omega) (by omega) nxt
      · subst e
        refine r_tableIn (tg := 1290) C dL_law_40 (by decide) (by decide) (off := 1250) (by decide) (by decide) ?_
        exact lc_22 C S h h6 (by omega) (by omega) nxt
      · subst e
        refine r_tableIn (tg := 1315) C dL_law_40 (by decide) (by decide) (off := 1275) (by decide) (by decide) ?_
        exact lc_23 C S h h6 (by omega) (by omega) nxt
      · subst e
        refine r_tableIn (tg := 1364) C dL_law_40 (by decide) (by decide) (off := 1324) (by decide) (by decide) ?_
        exact lc_24 C S h h6 (by omega) (by omega) nxt
      · subst e
        refine r_tableIn (tg := 1413) C dL_law_40 (by decide) (by decide) (off := 1373) (by decide) (by decide) ?_
        exact lc_25 C S h h6 (by omega) (by omega) nxt
      · subst e
        refine r_tableIn (tg := 1480) C dL_law_40 (by decide) (by decide) (off := 1440) (by decide) (by decide) ?_
        exact lc_26 C S h h6 (by omega) (by omega) nxt
      · subst e
        refine r_tableIn (tg := 1553) C dL_law_40 (by decide) (by decide) (off := 1513) (by decide) (by decide) ?_
        exact lc_27 C S h h6 (by omega) (by omega) nxt
      · subst e
        refine r_tableIn (tg := 1578) C dL_law_40 (by decide) (by decide) (off := 1538) (by decide) (by decide) ?_
        exact lc_28 C S h h6 (by omega) (by omega) nxt
      · subst e
        refine r_tableOut (tg := 1603) C dL_law_40 (by decide) (by decide) ?_
        exact nxt w B s k n (by omega) (by omega) h
      · subst e
        refine r_tableOut (tg := 1603) C dL_law_40 (by decide) (by decide) ?_
        exact nxt w B s k n (by omega) (by omega) h
      · subst e
        refine r_tableOut (tg := 1603) C dL_law_40 (by decide) (by decide) ?_
        exact nxt w B s k n (by omega) (by omega) h
    · by_cases h7 : 6 ≤ L
      · refine rN_isub (pq := 30) C dL_law_29 h7 rfl ?_
        refine rN_icmp_gt (tg := 1609) (pq := 33) C dL_law_30 (by decide) rfl (by omega) (by omega) (fun _ => K9 _ _ _ _ (by omega) (by omega)) (fun c => absurd c (by omega))
      · have ej : j = 0 := by omega
        subst ej
        refine r_isub (pq := 30) C dL_law_29 rfl ?_
        refine r_icmp_gt (tg := 1609) (pq := 33) C dL_law_30 (by decide) rfl (fun _ => K9 _ _ _ _ (by omega) (by omega)) (fun c => absurd ?_ c)
        rcases (by omega : L = 0 ∨ L = 1 ∨ L = 2 ∨ L = 3 ∨ L = 4 ∨ L = 5) with e | e | e | e | e | e <;> subst e <;> decide


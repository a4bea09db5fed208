/-! ===== what each call answers and does, over the reference's numbers ===== -/
abbrev ST : Type := (Nat → Nat) × (Nat → Nat → Nat) × (Nat → Nat → Int32)
def upf (f : Nat → Nat → Nat) (k i x : Nat) : Nat → Nat → Nat := va_up f k (va_up (f k) i x)
def upg (g : Nat → Nat → Int32) (k i : Nat) (x : Int32) : Nat → Nat → Int32 := va_up g k (upd (g k) i x)
/-- the same but for what no call shows -/
def EQ (s t : ST) : Prop :=
  t.1 1 = s.1 1 ∧ t.1 5 = s.1 5 ∧ t.1 16 = s.1 16 ∧
  (∀ p, p < s.1 1 → t.2.1 2 p = s.2.1 2 p ∧ t.2.1 3 p = s.2.1 3 p ∧ t.2.1 4 p = s.2.1 4 p) ∧
  (∀ m, m < s.1 5 → ∀ k, 6 ≤ k → k ≤ 11 → t.2.1 k m = s.2.1 k m) ∧
  (∀ j, j < s.1 16 → t.2.1 17 j = s.2.1 17 j ∧ t.2.1 18 j = s.2.1 18 j ∧ t.2.1 19 j = s.2.1 19 j ∧ t.2.2 20 j = s.2.2 20 j) ∧
  (∀ l, l < 8 → t.2.1 22 l = s.2.1 22 l) ∧ (∀ k, k < 64 → t.2.2 23 k = s.2.2 23 k) ∧
  (∀ d, d < 8 → t.2.1 24 d = s.2.1 24 d ∧ (s.2.1 24 d = 1 ∨ s.2.1 24 d = 2 → t.2.2 25 d = s.2.2 25 d) ∧ t.2.1 26 d = s.2.1 26 d ∧ (3 ≤ s.2.1 24 d → ∀ i, i < s.2.1 26 d → t.2.2 27 (400 * d + i) = s.2.2 27 (400 * d + i)))
theorem EQ_of {I I' : Nat → Nat} {f f' : Nat → Nat → Nat} {g g' : Nat → Nat → Int32} (h1 : I' 1 = I 1) (h5 : I' 5 = I 5) (h16 : I' 16 = I 16) (hf : ∀ k, k ≠ 12 → k ≠ 13 → k ≠ 14 → k ≠ 15 → k ≠ 21 → f' k = f k) (hg : g' = g) : EQ (I, f, g) (I', f', g') := by
  subst hg
  refine ⟨h1, h5, h16, fun p _ => ?_, fun m _ k q1 q2 => ?_, fun j _ => ?_, fun l _ => ?_, fun _ _ => rfl, fun d _ => ?_⟩
  · show f' 2 p = f 2 p ∧ f' 3 p = f 3 p ∧ f' 4 p = f 4 p
    rw [hf 2 (by decide) (by decide) (by decide) (by decide) (by decide), hf 3 (by decide) (by decide) (by decide) (by decide) (by decide), hf 4 (by decide) (by decide) (by decide) (by decide) (by decide)]
    exact ⟨rfl, rfl, rfl⟩
  · show f' k m = f k m
    rw [hf k (by omega) (by omega) (by omega) (by omega) (by omega)]
  · show f' 17 j = f 17 j ∧ f' 18 j = f 18 j ∧ f' 19 j = f 19 j ∧ _
    rw [hf 17 (by decide) (by decide) (by decide) (by decide) (by decide), hf 18 (by decide) (by decide) (by decide) (by decide) (by decide), hf 19 (by decide) (by decide) (by decide) (by decide) (by decide)]
    exact ⟨rfl, rfl, rfl, rfl⟩
  · show f' 22 l = f 22 l
    rw [hf 22 (by decide) (by decide) (by decide) (by decide) (by decide)]
  · show f' 24 d = f 24 d ∧ _ ∧ f' 26 d = f 26 d ∧ _
    rw [hf 24 (by decide) (by decide) (by decide) (by decide) (by decide), hf 26 (by decide) (by decide) (by decide) (by decide) (by decide)]
    exact ⟨rfl, fun _ => rfl, rfl, fun _ _ _ => rfl⟩
theorem EQ_rfl (s : ST) : EQ s s := EQ_of rfl rfl rfl (fun _ _ _ _ _ _ => rfl) rfl
/-- a row of tests as a treaty has it -/
def tsOK (t : Nat) : Prop := t < 64 ∧ (t / 4 ≠ 0 → t % 4 ≠ 0) ∧ (t / 16 ≠ 0 → t / 4 % 4 ≠ 0) ∧ (t / 4 % 4 ≠ 0 → t / 4 % 4 ≠ t % 4) ∧ (t / 16 ≠ 0 → t / 16 ≠ t % 4 ∧ t / 16 ≠ t / 4 % 4)
/-- what every state that a run can come to holds -/
def SI (s : ST) : Prop :=
  mOK s.1 s.2.1 ∧ s.1 1 ≤ 6 ∧ s.1 5 ≤ 80 ∧ s.1 16 ≤ 12 ∧
  (∀ p, p < s.1 1 → s.2.1 2 p < 8 ∧ s.2.1 3 p < 8 ∧ s.2.1 4 p < 2) ∧
  (∀ m, m < s.1 5 → s.2.1 6 m < 4 ∧ s.2.1 7 m < s.1 1 ∧ s.2.1 8 m ≤ s.2.1 9 m ∧ s.2.1 9 m < 400 ∧ s.2.1 10 m ≤ 255 ∧ s.2.1 11 m < 2) ∧
  (∀ j, j < s.1 16 → lwOK s.2.1 s.2.2 j) ∧
  (∀ l, l < 8 → 1 ≤ s.2.1 22 l ∧ s.2.1 22 l ≤ 100) ∧
  (∀ k, k < 64 → s.2.2 23 k = -1 ∨ ∃ t, tsOK t ∧ s.2.2 23 k = nI t) ∧
  (∀ d, d < 8 → s.2.1 24 d ≤ 4 ∧ (s.2.1 24 d = 1 → ∃ j, j < s.1 16 ∧ s.2.2 25 d = nI j) ∧ (s.2.1 24 d = 2 → ∃ m, m < s.1 5 ∧ s.2.2 25 d = nI m) ∧ s.2.1 26 d ≤ 400) ∧
  (∀ p, p < s.1 1 → whl s.2.1 (s.1 5) p)
-- people and marks
def rs_person (s : ST) (x y : Int32) : Int32 := if rg x 8 ∧ rg y 8 then (if s.1 1 = 6 then -2 else nI (s.1 1)) else -1
def nx_person (s : ST) (x y : Int32) : ST := if (rg x 8 ∧ rg y 8) ∧ s.1 1 ≠ 6 then (va_up s.1 1 (s.1 1 + 1), upf (upf (upf s.2.1 2 (s.1 1) (tn x)) 3 (s.1 1) (tn y)) 4 (s.1 1) 0, s.2.2) else s
def addm (f : Nat → Nat → Nat) (M k p a b l : Nat) : Nat → Nat → Nat := upf (upf (upf (upf (upf (upf f 6 M k) 7 M p) 8 M a) 9 M b) 10 M l) 11 M 0
def rs_comes (s : ST) (k p a b l : Nat) : Int32 := if s.1 5 = 80 then -2 else if s.2.1 4 p ≠ 0 then -3 else if whl (addm s.2.1 (s.1 5) k p a b l) (s.1 5 + 1) p then nI (s.1 5) else -4
def nx_comes (s : ST) (k p a b l : Nat) : ST := if s.1 5 ≠ 80 ∧ s.2.1 4 p = 0 ∧ whl (addm s.2.1 (s.1 5) k p a b l) (s.1 5 + 1) p then (va_up s.1 5 (s.1 5 + 1), addm s.2.1 (s.1 5) k p a b l, s.2.2) else s
abbrev okDays (a b : Int32) : Prop := rg a 400 ∧ rg b 400 ∧ a.toInt ≤ b.toInt
abbrev okSpan (s : ST) (x a b l : Int32) : Prop := rg x (s.1 1) ∧ okDays a b ∧ (1 ≤ l.toInt ∧ l.toInt ≤ 255)
def rs_span (s : ST) (x a b l : Int32) : Int32 := if okSpan s x a b l then rs_comes s 0 (tn x) (tn a) (tn b) (tn l) else -1
def nx_span (s : ST) (x a b l : Int32) : ST := if okSpan s x a b l then nx_comes s 0 (tn x) (tn a) (tn b) (tn l) else s
abbrev okSlept (s : ST) (x d l : Int32) : Prop := rg x (s.1 1) ∧ rg d 400 ∧ rg l 8
def rs_slept (s : ST) (x d l : Int32) (z : Nat) : Int32 := if okSlept s x d l then rs_comes s (if z = 0 then 1 else 3) (tn x) (tn d) (tn d) (2 ^ tn l) else -1
def nx_slept (s : ST) (x d l : Int32) (z : Nat) : ST := if okSlept s x d l then nx_comes s (if z = 0 then 1 else 3) (tn x) (tn d) (tn d) (2 ^ tn l) else s
abbrev okStamp (s : ST) (x a b l : Int32) : Prop := rg x (s.1 1) ∧ okDays a b ∧ rg l 8
def rs_stamp (s : ST) (x a b l : Int32) : Int32 := if okStamp s x a b l then rs_comes s 2 (tn x) (tn a) (tn b) (255 - 2 ^ tn l) else -1
def nx_stamp (s : ST) (x a b l : Int32) : ST := if okStamp s x a b l then nx_comes s 2 (tn x) (tn a) (tn b) (255 - 2 ^ tn l) else s
def rs_drop (s : ST) (x : Int32) (z : Nat) : Int32 := if rg x (s.1 5) then (if s.2.1 11 (tn x) = z then 0 else if whl (upf s.2.1 11 (tn x) z) (s.1 5) (s.2.1 7 (tn x)) then 1 else -4) else -1
def nx_drop (s : ST) (x : Int32) (z : Nat) : ST := if rg x (s.1 5) ∧ s.2.1 11 (tn x) ≠ z ∧ whl (upf s.2.1 11 (tn x) z) (s.1 5) (s.2.1 7 (tn x)) then (s.1, upf s.2.1 11 (tn x) z, s.2.2) else s
def rs_mark (s : ST) (x y : Int32) : Int32 := if rg x (s.1 5) ∧ rg y 6 then nI (s.2.1 (6 + tn y) (tn x)) else -1
/-- what the nights of a person can have been -/
def cr (s : ST) (p : Nat) : Nat → Nat := fun d => cn s.2.1 (s.1 5) p d
def rs_can (s : ST) (x y : Int32) : Int32 := if rg x (s.1 1) ∧ rg y 400 then nI (cr s (tn x) (tn y)) else -1
abbrev okNights (s : ST) (x l a b : Int32) : Prop := rg x (s.1 1) ∧ rg l 8 ∧ okDays a b
def rs_nights (s : ST) (x l a b : Int32) (z : Nat) : Int32 := if okNights s x l a b then (if z = 0 then nI (ps (lq (tn l) (cr s (tn x))) (tn b + 1) - ps (lq (tn l) (cr s (tn x))) (tn a)) else nI (ps (mq (tn l) (cr s (tn x))) (tn b + 1) - ps (mq (tn l) (cr s (tn x))) (tn a))) else -1
def sq (c : Nat → Nat) (d : Nat) : Nat := if c d &&& (c d - 1) = 0 then 1 else 0
def rs_sure (s : ST) (x a b : Int32) : Int32 := if rg x (s.1 1) ∧ okDays a b then nI (ps (sq (cr s (tn x))) (tn b + 1) - ps (sq (cr s (tn x))) (tn a)) else -1
def jnf (f : Nat → Nat → Nat) (M p q : Nat) : Nat → Nat → Nat := va_up f 7 (fun m => if m < M ∧ f 7 m = q then p else f 7 m)
abbrev okJoin (s : ST) (x y : Int32) : Prop := rg x (s.1 1) ∧ rg y (s.1 1) ∧ x ≠ y
def rs_join (s : ST) (x y : Int32) : Int32 := if okJoin s x y then (if s.2.1 4 (tn x) ≠ 0 ∨ s.2.1 4 (tn y) ≠ 0 then -3 else if whl (jnf s.2.1 (s.1 5) (tn x) (tn y)) (s.1 5) (tn x) then nI (ps (fun m => if s.2.1 7 m = tn y then 1 else 0) (s.1 5)) else -4) else -1
def nx_join (s : ST) (x y : Int32) : ST := if okJoin s x y ∧ (s.2.1 4 (tn x) = 0 ∧ s.2.1 4 (tn y) = 0) ∧ whl (jnf s.2.1 (s.1 5) (tn x) (tn y)) (s.1 5) (tn x) then (s.1, upf (jnf s.2.1 (s.1 5) (tn x) (tn y)) 4 (tn y) 1, s.2.2) else s
-- laws
abbrev okLaw (t n w : Int32) : Prop := 0 ≤ t.toInt ∧ tn t / 10 ≤ 3 ∧ tn t % 10 < 8 ∧ (0 ≤ n.toInt ∧ n.toInt ≤ 200) ∧ (tn t / 10 = 0 ∨ tn t / 10 = 2 → 1 ≤ w.toInt ∧ w.toInt ≤ 200)
def rs_law (s : ST) (t n w : Int32) : Int32 := if okLaw t n w then (if s.1 16 = 12 then -2 else nI (s.1 16)) else -1
def nx_law (s : ST) (t n w : Int32) : ST := if okLaw t n w ∧ s.1 16 ≠ 12 then (va_up s.1 16 (s.1 16 + 1), upf (upf (upf s.2.1 17 (s.1 16) (tn t / 10)) 18 (s.1 16) (tn t % 10)) 19 (s.1 16) (tn n), upg s.2.2 20 (s.1 16) w) else s
/-- KEPT of law j over the row c on a day -/
def kj (s : ST) (j : Nat) (c : Nat → Nat) (d : Nat) : Nat := kp (s.2.1 17 j) (s.2.1 19 j) (s.2.1 18 j) (tn (s.2.2 20 j)) c d
abbrev okKept (s : ST) (j x d : Int32) : Prop := rg j (s.1 16) ∧ rg x (s.1 1) ∧ rg d 400
def rs_kept (s : ST) (j x d : Int32) : Int32 := if okKept s j x d then nI (kj s (tn j) (cr s (tn x)) (tn d)) else -1
/-- the first day from one on (below 400) on which h is below v; 400 if there is none -/
def fst (h : Nat → Nat) (v : Nat) : Nat → Nat → Nat
  | 0, d => d
  | t + 1, d => if h d < v then d else fst h v t (d + 1)
def rs_first (s : ST) (j x d : Int32) (z : Nat) : Int32 := if okKept s j x d then (if fst (kj s (tn j) (cr s (tn x))) (if z = 0 then 2 else 1) (400 - tn d) (tn d) = 400 then -2 else nI (fst (kj s (tn j) (cr s (tn x))) (if z = 0 then 2 else 1) (400 - tn d) (tn d))) else -1
/-- laws, as bits, that are broken on some day -/
def brk (s : ST) (c : Nat → Nat) : Nat → Nat
  | 0 => 0
  | j + 1 => brk s c j ||| (if fst (kj s j c) 1 400 0 = 400 then 0 else 2 ^ j)
def rs_broken (s : ST) (x : Int32) : Int32 := if rg x (s.1 1) then nI (brk s (cr s (tn x)) (s.1 16)) else -1
/-- where the nights of a trip's days are that aren't taken -/
def awy (s : ST) (p l : Nat) : Nat := if s.2.1 2 p ≠ l then s.2.1 2 p else if s.2.1 3 p ≠ l then s.2.1 3 p else if l = 0 then 1 else 0
abbrev akp (s : ST) (c : Nat → Nat) (d b : Nat) : Prop := ∀ j, j < s.1 16 → s.2.1 17 j ≠ 2 → ∀ e, e < b + 1 → d ≤ e → kj s j c e = 2
/-- the row of nights once the days a .. a + n - 1 have been tried -/
def trR (s : ST) (p l a b : Nat) : Nat → Nat → Nat
  | 0 => fun d => if a ≤ d ∧ d ≤ b then 2 ^ awy s p l else cr s p d
  | n + 1 => if akp s (va_up (trR s p l a b n) (a + n) (2 ^ l)) (a + n) b then va_up (trR s p l a b n) (a + n) (2 ^ l) else trR s p l a b n
/-- a day is taken -/
def tk (s : ST) (p l a b d : Nat) : Nat := if a ≤ d ∧ d ≤ b ∧ trR s p l a b (b + 1 - a) d = 2 ^ l then 1 else 0
def rs_free (s : ST) (x l a b : Int32) : Int32 := if okNights s x l a b then nI (ps (tk s (tn x) (tn l) (tn a) (tn b)) 400) else -1
/-- the day at which h has been 1 for the i-th time (from 0), searched from d on -/
def ith (h : Nat → Nat) : Nat → Nat → Nat → Nat
  | 0, _, d => d
  | t + 1, i, d => if h d = 0 then ith h t i (d + 1) else if i = 0 then d else ith h t (i - 1) (d + 1)
def rs_trip (s : ST) (x l a b i : Int32) : Int32 := if okNights s x l a b ∧ 0 ≤ i.toInt then (if ps (tk s (tn x) (tn l) (tn a) (tn b)) 400 ≤ tn i then -2 else nI (ith (tk s (tn x) (tn l) (tn a) (tn b)) 400 (tn i) (tn a))) else -1
-- claims and treaties
def rs_claim (s : ST) (l n : Int32) : Int32 := if rg l 8 ∧ (1 ≤ n.toInt ∧ n.toInt ≤ 100) then nI (s.2.1 22 (tn l)) else -1
def nx_claim (s : ST) (l n : Int32) : ST := if rg l 8 ∧ (1 ≤ n.toInt ∧ n.toInt ≤ 100) then (s.1, upf s.2.1 22 (tn l) (tn n), s.2.2) else s
def yl (l : Nat) (c : Nat → Nat) (y : Nat) : Nat := ps (lq l c) (100 * y + 100) - ps (lq l c) (100 * y)
def ym (l : Nat) (c : Nat → Nat) (y : Nat) : Nat := ps (mq l c) (100 * y + 100) - ps (mq l c) (100 * y)
def clm (s : ST) (l : Nat) (c : Nat → Nat) (y : Nat) : Nat := if s.2.1 22 l ≤ yl l c y then 2 else if s.2.1 22 l ≤ ym l c y then 1 else 0
def rs_claims (s : ST) (l x y : Int32) : Int32 := if rg l 8 ∧ rg x (s.1 1) ∧ rg y 4 then nI (clm s (tn l) (cr s (tn x)) (tn y)) else -1
def pr (a b : Nat) : Nat := if a < b then 8 * a + b else 8 * b + a
abbrev okTreaty (a b t : Int32) : Prop := rg a 8 ∧ rg b 8 ∧ a ≠ b ∧ rg t 64 ∧ ((tn t / 4 ≠ 0 → tn t % 4 ≠ 0) ∧ (tn t / 16 ≠ 0 → tn t / 4 % 4 ≠ 0) ∧ (tn t / 4 % 4 ≠ 0 → tn t / 4 % 4 ≠ tn t % 4) ∧ (tn t / 16 ≠ 0 → tn t / 16 ≠ tn t % 4 ∧ tn t / 16 ≠ tn t / 4 % 4))
def rs_treaty (s : ST) (a b t : Int32) : Int32 := if okTreaty a b t then (if s.2.2 23 (pr (tn a) (tn b)) = -1 then 0 else 1) else -1
def nx_treaty (s : ST) (a b t : Int32) : ST := if okTreaty a b t then (s.1, s.2.1, upg s.2.2 23 (pr (tn a) (tn b)) t) else s
/-- for which of two lands one test decides: 8 for none -/
def dct (s : ST) (t a b p y : Nat) (c : Nat → Nat) : Nat :=
  if t = 1 then (if s.2.1 2 p = a ∨ s.2.1 2 p = b then s.2.1 2 p else 8)
  else if t = 2 then (if ym b c y < yl a c y then a else if ym a c y < yl b c y then b else 8)
  else if t = 3 then (if s.2.1 3 p = a ∨ s.2.1 3 p = b then s.2.1 3 p else 8) else 8
def dcd (s : ST) (a b p y : Nat) (c : Nat → Nat) : Nat :=
  if s.2.2 23 (pr a b) = -1 then 8 else
  if dct s (tn (s.2.2 23 (pr a b)) % 4) a b p y c ≠ 8 then dct s (tn (s.2.2 23 (pr a b)) % 4) a b p y c
  else if dct s (tn (s.2.2 23 (pr a b)) / 4 % 4) a b p y c ≠ 8 then dct s (tn (s.2.2 23 (pr a b)) / 4 % 4) a b p y c
  else dct s (tn (s.2.2 23 (pr a b)) / 16) a b p y c
abbrev okDecides (s : ST) (a b x y : Int32) : Prop := rg a 8 ∧ rg b 8 ∧ a ≠ b ∧ rg x (s.1 1) ∧ rg y 4
def rs_decides (s : ST) (a b x y : Int32) : Int32 := if okDecides s a b x y then (if dcd s (tn a) (tn b) (tn x) (tn y) (cr s (tn x)) = 8 then -2 else nI (dcd s (tn a) (tn b) (tn x) (tn y) (cr s (tn x)))) else -1
/-- land a claims surely, and is decided for against each other one that does -/
abbrev wins (s : ST) (a p y : Nat) (c : Nat → Nat) : Prop := clm s a c y = 2 ∧ ∀ b, b < 8 → b ≠ a → clm s b c y = 2 → dcd s a b p y c = a
abbrev nocl (s : ST) (y : Nat) (c : Nat → Nat) : Prop := ∀ b, b < 8 → ¬ clm s b c y = 2
/-- the land that taxes: 8 if none claims, 9 a quarrel -/
def txd (s : ST) (p y : Nat) (c : Nat → Nat) : Nat :=
  if nocl s y c then 8 else
  if wins s 0 p y c then 0 else if wins s 1 p y c then 1 else if wins s 2 p y c then 2 else if wins s 3 p y c then 3 else
  if wins s 4 p y c then 4 else if wins s 5 p y c then 5 else if wins s 6 p y c then 6 else if wins s 7 p y c then 7 else 9
def txi (t : Nat) : Int32 := if t = 8 then -2 else if t = 9 then -3 else nI t
def rs_taxed (s : ST) (x y : Int32) : Int32 := if rg x (s.1 1) ∧ rg y 4 then txi (txd s (tn x) (tn y) (cr s (tn x))) else -1
def qrs (s : ST) (p : Nat) : Nat := ps (fun y => if txd s p y (cr s p) = 9 then 1 else 0) 4
def rs_quarrels (s : ST) : Int32 := nI (ps (qrs s) (s.1 1))
def rs_count (s : ST) (x : Int32) : Int32 :=
  if x = 0 then nI (s.1 1) else if x = 1 then nI (s.1 5) else if x = 2 then nI (s.1 16)
  else if x = 3 then nI (ps (fun k => if s.2.2 23 k = -1 then 0 else 1) 64)
  else if x = 4 then nI (ps (fun m => if s.2.1 11 m = 0 then 0 else 1) (s.1 5))
  else if x = 5 then nI (ps (fun p => if s.2.1 4 p = 0 then 0 else 1) (s.1 1)) else -1
-- shelves
abbrev okKeep (s : ST) (d w k : Int32) : Prop := rg d 8 ∧ rg w 5 ∧ (w = 1 → rg k (s.1 16)) ∧ (w = 2 → rg k (s.1 5)) ∧ (w = 3 ∨ w = 4 → rg k (s.1 1))
def rs_keep (s : ST) (d w k : Int32) : Int32 := if okKeep s d w k then 0 else -1
/-- a row of g 27 anew: n places of shelf d -/
def rowg (g : Nat → Nat → Int32) (d n : Nat) (h : Nat → Int32) : Nat → Nat → Int32 := va_up g 27 (fun i => if 400 * d ≤ i ∧ i < 400 * d + n then h (i - 400 * d) else g 27 i)
def byt (c : Nat) : Int32 := if 127 < c then nI c - 256 else nI c
def nx_keep (s : ST) (d w k : Int32) : ST := if okKeep s d w k then
    (if tn w < 3 then (s.1, upf s.2.1 24 (tn d) (tn w), upg s.2.2 25 (tn d) k)
     else if tn w = 3 then (s.1, upf (upf s.2.1 24 (tn d) 3) 26 (tn d) 400, rowg s.2.2 (tn d) 400 (fun i => byt (cr s (tn k) i)))
     else (s.1, upf (upf s.2.1 24 (tn d) 4) 26 (tn d) 8, rowg s.2.2 (tn d) 8 (fun i => nI (ps (mq i (cr s (tn k))) 400)))) else s
abbrev okMake (d w n : Int32) : Prop := rg d 8 ∧ (w = 3 ∨ w = 4) ∧ n.toInt ≤ 60
def rs_make (d w n : Int32) : Int32 := if okMake d w n then (if n.toInt < 0 then -14 else 0) else -1
def nx_make (s : ST) (d w n : Int32) : ST := if okMake d w n ∧ 0 ≤ n.toInt then (s.1, upf (upf s.2.1 24 (tn d) (tn w)) 26 (tn d) (tn n), rowg s.2.2 (tn d) (tn n) (fun _ => 0)) else s
/-- element: 1, 2 which exception, 0 none -/
def th_element (s : ST) (d i : Int32) : Nat := if ¬ rg d 8 then 1 else if s.2.1 24 (tn d) < 3 ∨ ¬ rg i (s.2.1 26 (tn d)) then 2 else 0
def rs_element (s : ST) (d i : Int32) : Int32 := s.2.2 27 (400 * tn d + tn i)
abbrev okCopy (s : ST) (d i e j n : Int32) : Prop := 0 ≤ n.toInt ∧ 0 ≤ i.toInt ∧ 0 ≤ j.toInt ∧ i.toInt + n.toInt ≤ s.2.1 26 (tn d) ∧ j.toInt + n.toInt ≤ s.2.1 26 (tn e)
def rs_copy (s : ST) (d i e j n : Int32) : Int32 := if ¬ (rg d 8 ∧ rg e 8) then -1 else if s.2.1 24 (tn d) = 0 ∨ s.2.1 24 (tn e) = 0 then -11 else if s.2.1 24 (tn d) < 3 ∨ s.2.1 24 (tn d) ≠ s.2.1 24 (tn e) then -12 else if okCopy s d i e j n then n else -13
def nx_copy (s : ST) (d i e j n : Int32) : ST := if (rg d 8 ∧ rg e 8) ∧ 3 ≤ s.2.1 24 (tn d) ∧ s.2.1 24 (tn d) = s.2.1 24 (tn e) ∧ okCopy s d i e j n then
  (s.1, s.2.1, va_up s.2.2 27 (fun q => if 400 * tn e + tn j ≤ q ∧ q < 400 * tn e + tn j + tn n then s.2.2 27 (400 * tn d + tn i + (q - (400 * tn e + tn j))) else s.2.2 27 q)) else s
def lwt (s : ST) (j : Nat) : Nat := if s.2.1 17 j = 0 then 10 + s.2.1 19 j else if s.2.1 17 j = 1 then 111 + s.2.1 19 j else if s.2.1 17 j = 2 then 12 + s.2.1 19 j + tn (s.2.2 20 j) else 2 * (113 + s.2.1 19 j)
def mwt (s : ST) (m : Nat) : Nat := if s.2.1 6 m = 0 then 2 + s.2.1 9 m - s.2.1 8 m else if s.2.1 6 m = 1 then 52 + s.2.1 9 m - s.2.1 8 m else if s.2.1 6 m = 2 then 72 + s.2.1 9 m - s.2.1 8 m else 2 * (52 + s.2.1 9 m - s.2.1 8 m)
def nth (s : ST) (d : Int32) : Int32 := if ¬ rg d 8 then -1 else if s.2.1 24 (tn d) = 0 then -11 else if 2 < s.2.1 24 (tn d) then -12 else 0
def rs_weight (s : ST) (d : Int32) : Int32 := if nth s d ≠ 0 then nth s d else if s.2.1 24 (tn d) = 1 then nI (lwt s (tn (s.2.2 25 (tn d)))) else nI (mwt s (tn (s.2.2 25 (tn d))))
def rs_toss (s : ST) (d : Int32) : Int32 := if nth s d ≠ 0 then nth s d else if s.2.1 24 (tn d) = 1 then (if s.2.1 17 (tn (s.2.2 25 (tn d))) = 2 then -15 else nI (s.2.1 18 (tn (s.2.2 25 (tn d))))) else (if s.2.1 6 (tn (s.2.2 25 (tn d))) = 3 then -15 else nI (100 + tn (s.2.2 25 (tn d))))

/-! next, questions: contracts -/
def btF (askd : Int32) (g : Nat → Int32) (s0 : Int32) : Nat → Int32 × Int32
  | 0 => (-9, s0)
  | t + 1 => if slvI askd (nI t) = 0 ∧ g t < (btF askd g s0 t).2 then (nI t, g t) else btF askd g s0 t
def grC (μ : Mem) (w : Nat) (left : Int32) (t : Nat) : Int32 := if bitsF (left &&& withC μ w (nI t)) < bitsF left - bitsF (left &&& withC μ w (nI t)) then bitsF left - bitsF (left &&& withC μ w (nI t)) else bitsF (left &&& withC μ w (nI t))
def grM (μ : Mem) (left : Int32) (t : Nat) : Int32 := if onesI left - onesI (left &&& havF μ (nI t)) < onesI (left &&& havF μ (nI t)) then onesI (left &&& havF μ (nI t)) else onesI left - onesI (left &&& havF μ (nI t))
def bestC (μ : Mem) (w : Nat) (p1 : Int32) : Int32 := if bitsF (leftC μ w p1) ≤ 1 then -9 else (btF p1 (grC μ w (leftC μ w p1)) (bitsF (leftC μ w p1) + 1) 5).1
def pre_X3_bestTrait (w : Nat) (p1 : Int32) (μ : Mem) : Prop := isN μ w 7 6 ∧ isN μ w 9 5
def post_X3_bestTrait (w : Nat) (p1 : Int32) (μ : Mem) (x : Int32) (m : Mem) : Prop := x = bestC μ w p1 ∧ m = μ
def inv_X3_bestTrait_31 (w : Nat) (p1 : Int32) (μ : Mem) (n : Nat) (l2 l3 l4 l5 l6 : Int32) (m : Mem) : Prop := ∃ i, i ≤ 5 ∧ n = 5 - i ∧ ¬ bitsF (leftC μ w p1) ≤ 1 ∧ l2 = leftC μ w p1 ∧ l3 = bitsF (leftC μ w p1) ∧ l6 = nI i ∧ l4 = (btF p1 (grC μ w (leftC μ w p1)) (bitsF (leftC μ w p1) + 1) i).1 ∧ l5 = (btF p1 (grC μ w (leftC μ w p1)) (bitsF (leftC μ w p1) + 1) i).2 ∧ m = μ
def pre_X8_next (μ : Mem) : Prop := hsOK μ ∧ isN μ (gp μ 1) 7 6 ∧ isN μ (gp μ 1) 9 5
def post_X8_next (μ : Mem) (x : Int32) (m : Mem) : Prop := x = bestC μ (gp μ 1) (gi μ 17 4) ∧ m = μ
def bestM (μ : Mem) : Int32 := if onesI (leftM μ) ≤ 1 then -9 else (btF (gi μ 84 4) (grM μ (leftM μ)) 100000000 5).1
def pre_X9_next (μ : Mem) : Prop := isN μ 77 2 6 ∧ isN μ 77 3 5
def post_X9_next (μ : Mem) (x : Int32) (m : Mem) : Prop := x = bestM μ ∧ m = ui μ 75 0 0
def inv_X9_next_19 (μ : Mem) (n : Nat) (l1 l2 l3 l4 : Int32) (m : Mem) : Prop := ∃ i, i ≤ 5 ∧ n = 5 - i ∧ l1 = leftM μ ∧ l4 = nI i ∧ m = ui μ 75 0 0 ∧ ((onesI (leftM μ) ≤ 1 ∧ i = 0 ∧ l2 = -9) ∨ (¬ onesI (leftM μ) ≤ 1 ∧ l2 = (btF (gi μ 84 4) (grM μ (leftM μ)) 100000000 i).1 ∧ l3 = (btF (gi μ 84 4) (grM μ (leftM μ)) 100000000 i).2)) ∧ (i = 0 → l2 = -9 ∧ l3 = 100000000)
/-- the least, over the traits that part the set s, of one question more than the worse part -/
def stp (T hv : Nat → Nat) (z s : Nat) : Nat → Nat
  | 0 => z
  | t + 1 => if s &&& hv t = 0 ∨ s &&& (63 ^^^ hv t) = 0 then stp T hv z s t else min (stp T hv z s t) (1 + max (T (s &&& hv t)) (T (s &&& (63 ^^^ hv t))))
def pre_X3_neededOf (p1 : Int32) (μ : Mem) : Prop := p1 = nI p1.toNatClampNeg ∧ p1.toNatClampNeg < 64 ∧ (∀ t, t < 5 → isN μ 70 t 63) ∧ ∀ s, s < p1.toNatClampNeg → isN μ 69 s 5
def post_X3_neededOf (p1 : Int32) (μ : Mem) (x : Int32) (m : Mem) : Prop := x = nI (if 5 < stp (gn μ 69) (gn μ 70) 6 p1.toNatClampNeg 5 then 0 else stp (gn μ 69) (gn μ 70) 6 p1.toNatClampNeg 5) ∧ m = μ
def inv_X3_neededOf_5 (p1 : Int32) (μ : Mem) (n : Nat) (l2 l3 : Int32) (m : Mem) : Prop := ∃ i, i ≤ 5 ∧ n = 5 - i ∧ l3 = nI i ∧ l2 = nI (stp (gn μ 69) (gn μ 70) 6 p1.toNatClampNeg i) ∧ stp (gn μ 69) (gn μ 70) 6 p1.toNatClampNeg i ≤ 6 ∧ m = μ
def hvC (μ : Mem) (w t : Nat) : Nat := (withC μ w (nI t)).toNatClampNeg
def hvM (μ : Mem) (t : Nat) : Nat := (havF μ (nI t)).toNatClampNeg
def pre_X3_mostNeeded (w : Nat) (p1 : Int32) (μ : Mem) : Prop := isN μ w 7 6 ∧ p1 = nI p1.toNatClampNeg ∧ p1.toNatClampNeg < 64
def post_X3_mostNeeded (w : Nat) (p1 : Int32) (μ : Mem) (x : Int32) (m : Mem) : Prop := fr [69, 70] μ m ∧ ∃ T : Nat → Nat, x = nI (T p1.toNatClampNeg) ∧ ∀ s, s ≤ p1.toNatClampNeg → T s = if 5 < stp T (hvC μ w) 6 s 5 then 0 else stp T (hvC μ w) 6 s 5
def inv_X3_mostNeeded_2 (w : Nat) (p1 : Int32) (μ : Mem) (n : Nat) (l3 : Int32) (m : Mem) : Prop := ∃ i, i ≤ 5 ∧ n = 1000 - i ∧ l3 = nI i ∧ fr [70] μ m ∧ ∀ t, t < i → gi m 70 t = nI (hvC μ w t) ∧ hvC μ w t < 64
def inv_X3_mostNeeded_26 (w : Nat) (p1 : Int32) (μ : Mem) (n : Nat) (l3 : Int32) (m : Mem) : Prop := ∃ i, i ≤ p1.toNatClampNeg + 1 ∧ n = p1.toNatClampNeg + 1 - i ∧ l3 = nI i ∧ fr [69, 70] μ m ∧ (∀ t, t < 5 → gi m 70 t = nI (hvC μ w t) ∧ hvC μ w t < 64) ∧ ∀ s, s < i → isN m 69 s 5 ∧ gn m 69 s = if 5 < stp (gn m 69) (hvC μ w) 6 s 5 then 0 else stp (gn m 69) (hvC μ w) 6 s 5
def pre_X8_questions (μ : Mem) : Prop := hsOK μ ∧ isN μ (gp μ 1) 7 6 ∧ isN μ (gp μ 1) 9 5
def post_X8_questions (μ : Mem) (x : Int32) (m : Mem) : Prop := fr [69, 70] μ m ∧ ∃ (T : Nat → Nat) (s : Nat), leftC μ (gp μ 1) (gi μ 17 4) = nI s ∧ s < 64 ∧ x = nI (T s) ∧ ∀ q, q ≤ s → T q = if 5 < stp T (hvC μ (gp μ 1)) 6 q 5 then 0 else stp T (hvC μ (gp μ 1)) 6 q 5
def pre_X9_questions (μ : Mem) : Prop := isN μ 77 2 6 ∧ isN μ 77 3 5
def post_X9_questions (μ : Mem) (x : Int32) (m : Mem) : Prop := fr [75, 94] μ m ∧ (∀ k, k ≠ 0 → gi m 75 k = gi μ 75 k) ∧ ∃ (T : Nat → Nat) (s : Nat), leftM μ = nI s ∧ s < 64 ∧ x = nI (T s) ∧ ∀ q, q < 64 → T q = if stp T (hvM μ) 100000000 q 5 = 100000000 then 0 else stp T (hvM μ) 100000000 q 5
def inv_X9_questions_7 (μ : Mem) (n : Nat) (l1 : Int32) (m : Mem) : Prop := ∃ i, i ≤ 64 ∧ n = (64 - i) * 100 ∧ l1 = nI i ∧ fr [75, 94] μ m ∧ (∀ k, k ≠ 0 → gi m 75 k = gi μ 75 k) ∧ ∀ s, s < i → isN m 94 s s ∧ gn m 94 s = if stp (gn m 94) (hvM μ) 100000000 s 5 = 100000000 then 0 else stp (gn m 94) (hvM μ) 100000000 s 5
def inv_X9_questions_18 (μ : Mem) (n : Nat) (l1 l2 l3 : Int32) (m : Mem) : Prop := ∃ i t, i < 64 ∧ t ≤ 5 ∧ n = (63 - i) * 100 + 10 + (5 - t) ∧ l1 = nI i ∧ l3 = nI t ∧ l2 = nI (stp (gn m 94) (hvM μ) 100000000 i t) ∧ fr [75, 94] μ m ∧ (∀ k, k ≠ 0 → gi m 75 k = gi μ 75 k) ∧ ∀ s, s < i → isN m 94 s s ∧ gn m 94 s = if stp (gn m 94) (hvM μ) 100000000 s 5 = 100000000 then 0 else stp (gn m 94) (hvM μ) 100000000 s 5

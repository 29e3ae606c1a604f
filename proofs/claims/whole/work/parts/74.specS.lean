/-! the reference's rounds: contracts -/
def moG (μ : Mem) : Nat → Nat := moV 100000000 (gi μ 91)
def pre_X9_rowOf (p1 : Int32) (μ : Mem) : Prop := p1 = nI p1.toNatClampNeg ∧ p1.toNatClampNeg < 7776 ∧ isN μ 77 0 5
def rowP (m : Mem) (c k : Nat) : Prop := ∀ j, j < k → gi m 92 j = nI (dg c j - 1)
def post_X9_rowOf (p1 : Int32) (μ : Mem) (x : Int32) (m : Mem) : Prop := fr [92] μ m ∧ ((okC (gn μ 77 0) (moG μ) p1.toNatClampNeg 5 ∧ x = nI (cntN p1.toNatClampNeg 5) ∧ rowP m p1.toNatClampNeg (cntN p1.toNatClampNeg 5)) ∨ (¬ okC (gn μ 77 0) (moG μ) p1.toNatClampNeg 5 ∧ x = -9))
def pw6 (i : Nat) : Nat := if i < 5 then 6 ^ (4 - i) else 0
def inv_X9_rowOf_12 (p1 : Int32) (μ : Mem) (n : Nat) (l2 l3 l4 l5 : Int32) (m : Mem) : Prop := ∃ i, i ≤ 5 ∧ n = 5 - i ∧ l5 = nI i ∧ l2 = nI (pw6 i) ∧ l3 = nI (cntN p1.toNatClampNeg i) ∧ okC (gn μ 77 0) (moG μ) p1.toNatClampNeg i ∧ (∃ U, U < 64 ∧ l4 = nI U ∧ ∀ d, d < 6 → 0 < d → (slvI (nI U) (nI d) = 1 ↔ ∃ j, j < i ∧ dg p1.toNatClampNeg j = d)) ∧ fr [92] μ m ∧ rowP m p1.toNatClampNeg (cntN p1.toNatClampNeg i)
def P0M (μ : Mem) : Nat := gn μ 84 1 - 1
def RVm (μ : Mem) : Prop := SVm μ ∧ isN μ 77 4 9 ∧ isN μ 77 5 500 ∧ isN μ 84 2 9999 ∧ isN μ 84 1 5
def pre_X9_round (p1 : Int32) (μ : Mem) : Prop := RVm μ
def bstM (μ : Mem) (v : Nat → Int32) (n b : Nat) : Prop := BestN (gn μ 77 0) (moV 100000000 v) (gn μ 77 4) (P0M μ) (gn μ 84 2) (gn μ 77 5) (gi μ 80) n b
def tmM (μ : Mem) (v : Nat → Int32) (c k : Nat) : Nat := tmN (gn μ 77 4) (P0M μ) (moV 100000000 v) c k
def post_X9_round (p1 : Int32) (μ : Mem) (x : Int32) (m : Mem) : Prop := fr [75, 90, 91, 92, 93] μ m ∧ f75 μ m ∧ (¬ -2 ≤ p1 → x = -1) ∧ (-2 ≤ p1 → ∃ v : Nat → Int32, (∀ r, r < gn μ 77 0 → moM μ r (v r)) ∧ ∃ b, bstM μ v 7775 b ∧ x = rndA (gn μ 77 4) (P0M μ) (moV 100000000 v) (gi μ 80) b p1)
/-- what stands throughout -/
def RN (p1 : Int32) (μ m : Mem) : Prop := -2 ≤ p1 ∧ fr [75, 90, 91, 92, 93] μ m ∧ f75 μ m ∧ ∀ r, r < gn μ 77 0 → moM μ r (gi m 91 r)
def stM (μ m : Mem) (c : Nat) (l2 l3 l4 : Int32) : Prop := (c = 0 ∧ l2 = -1) ∨ (0 < c ∧ ∃ b, bstM μ (gi m 91) (c - 1) b ∧ l2 = woN (gi μ 80) b (cntN b 5) ∧ l3 = nI (tmM μ (gi m 91) b (cntN b 5)) ∧ l4 = nI (cntN b 5) ∧ ∀ j, j < cntN b 5 → gi m 93 j = nI (dg b j - 1))
def okM2 (μ m : Mem) (c : Nat) : Prop := okC (gn μ 77 0) (moV 100000000 (gi m 91)) c 5
def inv_X9_round_27 (p1 : Int32) (μ : Mem) (n : Nat) (l2 l3 l4 l5 : Int32) (m : Mem) : Prop := RN p1 μ m ∧ ∃ c, c ≤ 7776 ∧ n = (7776 - c) * 100 ∧ l5 = nI c ∧ stM μ m c l2 l3 l4
def inv_X9_round_60 (p1 : Int32) (μ : Mem) (n : Nat) (l2 l3 l4 l5 l6 l7 l8 l9 l10 : Int32) (m : Mem) : Prop := RN p1 μ m ∧ ∃ c i, c < 7776 ∧ i ≤ 5 ∧ n = (7775 - c) * 100 + 90 - i ∧ l5 = nI c ∧ l10 = nI i ∧ stM μ m c l2 l3 l4 ∧ ((¬ okM2 μ m c ∧ l6 = -9 ∧ i = 0) ∨ (okM2 μ m c ∧ l6 = nI (cntN c 5) ∧ i ≤ cntN c 5 ∧ rowP m c (cntN c 5) ∧ l7 = nI (if i = 0 then gn μ 84 1 else dg c (i - 1)) ∧ l8 = nI (tmM μ (gi m 91) c i) ∧ tmM μ (gi m 91) c i ≤ i * 3100 ∧ l9 = woN (gi μ 80) c i))
def inv_X9_round_203 (p1 : Int32) (μ : Mem) (n : Nat) (l2 l3 l4 l5 l6 l11 : Int32) (m : Mem) : Prop := RN p1 μ m ∧ ∃ c i, c < 7776 ∧ i ≤ cntN c 5 ∧ n = (7775 - c) * 100 + 50 - i ∧ l5 = nI c ∧ l11 = nI i ∧ l6 = nI (cntN c 5) ∧ rowP m c (cntN c 5) ∧ bstM μ (gi m 91) c c ∧ l2 = woN (gi μ 80) c (cntN c 5) ∧ l3 = nI (tmM μ (gi m 91) c (cntN c 5)) ∧ l4 = nI (cntN c 5) ∧ ∀ j, j < i → gi m 93 j = nI (dg c j - 1)

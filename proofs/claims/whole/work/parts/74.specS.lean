/-! the reference's rounds: contracts -/
def moG (μ : Mem) : Nat → Nat := moV 100000000 (gi μ 91)
def pre_X9_rowOf (p1 : Int32) (μ : Mem) : Prop := p1 = nI p1.toNatClampNeg ∧ p1.toNatClampNeg < 7776 ∧ isN μ 77 0 5
def rowP (m : Mem) (c k : Nat) : Prop := ∀ j, j < k → gi m 92 j = nI (dg c j - 1)
def post_X9_rowOf (p1 : Int32) (μ : Mem) (x : Int32) (m : Mem) : Prop := fr [92] μ m ∧ ((okC (gn μ 77 0) (moG μ) p1.toNatClampNeg 5 ∧ x = nI (cntN p1.toNatClampNeg 5) ∧ rowP m p1.toNatClampNeg (cntN p1.toNatClampNeg 5)) ∨ (¬ okC (gn μ 77 0) (moG μ) p1.toNatClampNeg 5 ∧ x = -9))
def pw6 (i : Nat) : Nat := if i < 5 then 6 ^ (4 - i) else 0
def inv_X9_rowOf_12 (p1 : Int32) (μ : Mem) (n : Nat) (l2 l3 l4 l5 : Int32) (m : Mem) : Prop := ∃ i, i ≤ 5 ∧ n = 5 - i ∧ l5 = nI i ∧ l2 = nI (pw6 i) ∧ l3 = nI (cntN p1.toNatClampNeg i) ∧ okC (gn μ 77 0) (moG μ) p1.toNatClampNeg i ∧ (∃ U, U < 64 ∧ l4 = nI U ∧ ∀ d, d < 6 → 0 < d → (slvI (nI U) (nI d) = 1 ↔ ∃ j, j < i ∧ dg p1.toNatClampNeg j = d)) ∧ fr [92] μ m ∧ rowP m p1.toNatClampNeg (cntN p1.toNatClampNeg i)

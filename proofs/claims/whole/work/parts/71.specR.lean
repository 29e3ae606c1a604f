/-! the class's Evening: contracts -/
def moX (μ : Mem) (r : Nat) : Nat := if gi μ 67 r = -9 then 100000000 else gn μ 67 r
def P0C (μ : Mem) : Nat := if gi μ 17 1 = -9 then 0 else gn μ 17 1
def EV (μ : Mem) (w : Nat) : Prop := (w = 3 ∨ w = 10) ∧ isN μ w 0 5 ∧ isN μ w 10 9 ∧ isN μ w 11 500 ∧ isN μ 17 2 9999 ∧ (gi μ 17 1 = -9 ∨ isN μ 17 1 4)
def EV6 (μ : Mem) (w : Nat) : Prop := gi μ 64 6 = nI (gn μ w 11) - nI (gn μ 17 2) ∧ ∀ r, r < gn μ w 0 → gi μ 67 r = -9 ∨ isN μ 67 r 3000
def bstC (μ : Mem) (w n b : Nat) : Prop := BestN (gn μ w 0) (moX μ) (gn μ w 10) (P0C μ) (gn μ 17 2) (gn μ w 11) (gi μ (w + 3)) n b
def accC (μ : Mem) (w c : Nat) : Prop := accN (gn μ w 0) (moX μ) (gn μ w 10) (P0C μ) (gn μ 17 2) (gn μ w 11) c
def tmC (μ : Mem) (w c k : Nat) : Nat := tmN (gn μ w 10) (P0C μ) (moX μ) c k
def bcC (μ : Mem) (w : Nat) (m : Mem) (b : Nat) : Prop := gi m 64 1 = nI (cntN b 5) ∧ gi m 64 2 = woN (gi μ (w + 3)) b (cntN b 5) ∧ gi m 64 3 = nI (tmC μ w b (cntN b 5)) ∧ ∀ j, j < cntN b 5 → gi m 65 j = nI (dg b j - 1)
def ExP (μ : Mem) (w k B : Nat) (p1 p2 p3 p4 p5 : Int32) : Prop := p1 = nI k ∧ k ≤ 5 ∧ B < 7776 ∧ B % 6 ^ (5 - k) = 0 ∧ (∀ j, j < k → dg B j ≠ 0) ∧ accC μ w B ∧ p2 = (if k = 0 then gi μ 17 1 else nI (dg B (k - 1) - 1)) ∧ p3 = nI (tmC μ w B k) ∧ p4 = woN (gi μ (w + 3)) B k ∧ (∃ U, U < 32 ∧ p5 = nI U ∧ ∀ r, r < 5 → (slvI (nI U) (nI r) = 0 ↔ ∀ j, j < k → dg B j ≠ r + 1)) ∧ (∃ b, bstC μ w B b ∧ bcC μ w μ b) ∧ ∀ j, j < k → gi μ 66 j = nI (dg B j - 1)
def betI (μ : Mem) (p2 p3 : Int32) : Prop := gi μ 64 2 < p2 ∨ (p2 = gi μ 64 2 ∧ p3 < gi μ 64 3)
def pre_X0_weigh (p1 p2 p3 : Int32) (μ : Mem) : Prop := p1 = nI p1.toNatClampNeg ∧ p1.toNatClampNeg ≤ 5
def post_X0_weigh (p1 p2 p3 : Int32) (μ m : Mem) : Prop := fr [64, 65] μ m ∧ gi m 64 6 = gi μ 64 6 ∧ (betI μ p2 p3 → gi m 64 1 = p1 ∧ gi m 64 2 = p2 ∧ gi m 64 3 = p3 ∧ ∀ j, j < p1.toNatClampNeg → gi m 65 j = gi μ 66 j) ∧ (¬ betI μ p2 p3 → m = μ)
def pre_X0_extend (lv w : Nat) (p1 p2 p3 p4 p5 : Int32) (μ : Mem) : Prop := EV μ w ∧ EV6 μ w ∧ ∃ k B, 5 - k ≤ lv ∧ ExP μ w k B p1 p2 p3 p4 p5
def post_X0_extend (lv w : Nat) (p1 p2 p3 p4 p5 : Int32) (μ m : Mem) : Prop := fr [64, 65, 66] μ m ∧ gi m 64 6 = gi μ 64 6 ∧ ∀ k B, ExP μ w k B p1 p2 p3 p4 p5 → (∃ b, bstC μ w (B + 6 ^ (5 - k) - 1) b ∧ bcC μ w m b) ∧ ∀ j, j < k → gi m 66 j = gi μ 66 j
def inv_X0_extend_9 (lv w : Nat) (p1 p2 p3 p4 p5 : Int32) (μ : Mem) (n : Nat) (l7 : Int32) (m : Mem) : Prop := ∃ i, i ≤ gn μ w 0 ∧ n = gn μ w 0 - i ∧ l7 = nI i ∧ fr [64, 65, 66] μ m ∧ gi m 64 6 = gi μ 64 6 ∧ ∀ k B, ExP μ w k B p1 p2 p3 p4 p5 → k < 5 ∧ (∃ b, bstC μ w (B + (i + 1) * 6 ^ (4 - k) - 1) b ∧ bcC μ w m b) ∧ ∀ j, j < k → gi m 66 j = gi μ 66 j
def pre_X0_plan (w : Nat) (μ : Mem) : Prop := EV μ w ∧ ∀ r, r < gn μ w 0 → gi μ 61 r = -9 ∨ isN μ 61 r 3000
def moY (μ : Mem) (r : Nat) : Nat := if gi μ 61 r = -9 then 100000000 else gn μ 61 r
def bestY (μ : Mem) (w n b : Nat) : Prop := BestN (gn μ w 0) (moY μ) (gn μ w 10) (P0C μ) (gn μ 17 2) (gn μ w 11) (gi μ (w + 3)) n b
def bcY (μ : Mem) (w : Nat) (m : Mem) (b : Nat) : Prop := gi m 64 1 = nI (cntN b 5) ∧ gi m 64 2 = woN (gi μ (w + 3)) b (cntN b 5) ∧ gi m 64 3 = nI (tmN (gn μ w 10) (P0C μ) (moY μ) b (cntN b 5)) ∧ ∀ j, j < cntN b 5 → gi m 65 j = nI (dg b j - 1)
def post_X0_plan (w : Nat) (μ m : Mem) : Prop := fr [64, 65, 66, 67] μ m ∧ ∃ b, bestY μ w 7775 b ∧ bcY μ w m b
def rndA (W P0 : Nat) (mo : Nat → Nat) (wt : Nat → Int32) (b : Nat) (k : Int32) : Int32 := if k = -2 then nI (tmN W P0 mo b (cntN b 5)) else if k = -1 then woN wt b (cntN b 5) else if nI (cntN b 5) ≤ k then -5 else nI (dg b k.toNatClampNeg - 1)
def moV (nv : Int32) (v : Nat → Int32) (r : Nat) : Nat := if v r = nv then 100000000 else (v r).toNatClampNeg
def pre_X8_round (p1 : Int32) (μ : Mem) : Prop := hsOK μ ∧ SVp μ (gp μ 1) ∧ EV μ (gp μ 1)
def post_X8_round (p1 : Int32) (μ : Mem) (x : Int32) (m : Mem) : Prop := fr [59, 60, 61, 62, 63, 64, 65, 66, 67] μ m ∧ (¬ -2 ≤ p1 → x = -1) ∧ (-2 ≤ p1 → ∃ v : Nat → Int32, (∀ r, r < gn μ (gp μ 1) 0 → moC μ (gp μ 1) r (v r)) ∧ ∃ b, BestN (gn μ (gp μ 1) 0) (moV (-9) v) (gn μ (gp μ 1) 10) (P0C μ) (gn μ 17 2) (gn μ (gp μ 1) 11) (gi μ (gp μ 1 + 3)) 7775 b ∧ x = rndA (gn μ (gp μ 1) 10) (P0C μ) (moV (-9) v) (gi μ (gp μ 1 + 3)) b p1)

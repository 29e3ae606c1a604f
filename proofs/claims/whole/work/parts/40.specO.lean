/-! odds, rate: contracts -/
def sumN (f : Nat → Nat) : Nat → Nat
  | 0 => 0
  | n + 1 => sumN f n + f n
/-- of n doings, each noticed by 10 - x of 10: the ways in which i are -/
def chN (x : Nat) : Nat → Nat → Nat
  | 0, i => if i = 0 then 1 else 0
  | n + 1, 0 => chN x n 0 * x
  | n + 1, i + 1 => chN x n (i + 1) * x + chN x n i * (10 - x)
def pcN (s : Nat) : Nat := sumN (fun k => s / 2 ^ k % 2) 6
def oddU (x n : Nat) (q : Nat → Bool) : Nat := sumN (fun i => if q i = true then chN x n i else 0) (n + 1)
def oddM (x n : Nat) (q : Nat → Bool) (s : Nat) : Nat := sumN (fun s => if q (pcN s) = true then (10 - x) ^ pcN s * x ^ (n - pcN s) else 0) s
def pre_X8_countChances (p1 p2 : Int32) (μ : Mem) : Prop := p1 = nI p1.toNatClampNeg ∧ p1.toNatClampNeg ≤ 10 ∧ p2 = nI p2.toNatClampNeg ∧ p2.toNatClampNeg ≤ 6
def post_X8_countChances (p1 p2 : Int32) (μ : Mem) (x : Int32) (m : Mem) : Prop := x = nI (10 ^ p2.toNatClampNeg) ∧ fr [74] μ m ∧ ∀ i, i < 7 → gi m 74 i = nI (chN p1.toNatClampNeg p2.toNatClampNeg i)
def inv_X8_countChances_20 (p1 p2 : Int32) (μ : Mem) (n : Nat) (l3 l4 : Int32) (m : Mem) : Prop := ∃ k, k ≤ p2.toNatClampNeg ∧ n = (p2.toNatClampNeg - k) * 100 ∧ l4 = nI (k + 1) ∧ l3 = nI (10 ^ k) ∧ fr [74] μ m ∧ ∀ i, i < 7 → gi m 74 i = nI (chN p1.toNatClampNeg k i)
def inv_X8_countChances_30 (p1 p2 : Int32) (μ : Mem) (n : Nat) (l3 l4 l5 : Int32) (m : Mem) : Prop := ∃ k i, k < p2.toNatClampNeg ∧ i ≤ k + 1 ∧ n = (p2.toNatClampNeg - k - 1) * 100 + 10 + i ∧ l4 = nI (k + 1) ∧ l3 = nI (10 ^ k) ∧ l5 = nI i ∧ fr [74] μ m ∧ (∀ j, j ≤ i → gi m 74 j = nI (chN p1.toNatClampNeg k j)) ∧ ∀ j, i < j → j < 7 → gi m 74 j = nI (chN p1.toNatClampNeg (k + 1) j)
def pre_X8_commonDivisor (p1 p2 : Int32) (μ : Mem) : Prop := p1 = nI p1.toNatClampNeg ∧ p2 = nI p2.toNatClampNeg ∧ 0 < p1.toNatClampNeg ∧ p1.toNatClampNeg ≤ 1000000 ∧ p2.toNatClampNeg ≤ p1.toNatClampNeg
def post_X8_commonDivisor (p1 p2 : Int32) (μ : Mem) (x : Int32) (m : Mem) : Prop := x = nI (Nat.gcd p1.toNatClampNeg p2.toNatClampNeg) ∧ m = μ
def inv_X8_commonDivisor_7 (p1 p2 : Int32) (μ : Mem) (n : Nat) (l2 l3 l4 : Int32) (m : Mem) : Prop := ∃ i a b, i ≤ 40 ∧ n = 40 - i ∧ l4 = nI i ∧ l2 = nI a ∧ l3 = nI b ∧ 0 < a ∧ a ≤ 1000000 ∧ b ≤ a ∧ a * b < 2 ^ (40 - i) ∧ Nat.gcd a b = Nat.gcd p1.toNatClampNeg p2.toNatClampNeg ∧ m = μ
def oddsA (x n : Nat) (q : Nat → Bool) (what : Int32) : Int32 := if what = 0 then nI (oddU x n q / Nat.gcd (10 ^ n) (oddU x n q)) else nI (10 ^ n / Nat.gcd (10 ^ n) (oddU x n q))
def oddBad (R D p1 p2 p3 p4 p5 : Int32) : Prop := p1 < 0 ∨ R ≤ p1 ∨ p2 < 0 ∨ D ≤ p2 ∨ p5 < 0 ∨ 1 < p5 ∨ p3 < 0 ∨ 10 < p3 ∨ p4 < 0 ∨ 6 < p4
def oddQC (μ : Mem) (p1 p2 : Int32) (i : Nat) : Bool := decide (gi μ 18 p1.toNatClampNeg < nI i * (gi μ (gp μ 1 + 4) p2.toNatClampNeg * gi μ (gp μ 1 + 2) p1.toNatClampNeg))
def oddQM (μ : Mem) (p1 p2 : Int32) (i : Nat) : Bool := decide (gi μ 84 (5 + p1.toNatClampNeg) - nI i * gi μ 81 p2.toNatClampNeg * gi μ 79 p1.toNatClampNeg < 0)
def pre_X8_odds (p1 p2 p3 p4 p5 : Int32) (μ : Mem) : Prop := hsOK μ ∧ isN μ (gp μ 1) 0 5 ∧ isN μ (gp μ 1) 4 5
def post_X8_odds (p1 p2 p3 p4 p5 : Int32) (μ : Mem) (x : Int32) (m : Mem) : Prop := fr [74] μ m ∧ (oddBad (gi μ (gp μ 1) 0) (gi μ (gp μ 1) 4) p1 p2 p3 p4 p5 → x = -1) ∧ (¬ oddBad (gi μ (gp μ 1) 0) (gi μ (gp μ 1) 4) p1 p2 p3 p4 p5 → x = if slvI (gi μ 17 3) p1 = 1 then -2 else oddsA p3.toNatClampNeg p4.toNatClampNeg (oddQC μ p1 p2) p5)
def inv_X8_odds_88 (p1 p2 p3 p4 p5 : Int32) (μ : Mem) (n : Nat) (l6 l7 l8 : Int32) (m : Mem) : Prop := ∃ i, i ≤ p4.toNatClampNeg + 1 ∧ n = p4.toNatClampNeg + 1 - i ∧ ¬ oddBad (gi μ (gp μ 1) 0) (gi μ (gp μ 1) 4) p1 p2 p3 p4 p5 ∧ ¬ slvI (gi μ 17 3) p1 = 1 ∧ fr [74] μ m ∧ (∀ j, j < 7 → gi m 74 j = nI (chN p3.toNatClampNeg p4.toNatClampNeg j)) ∧ l6 = nI (10 ^ p4.toNatClampNeg) ∧ l8 = nI i ∧ l7 = nI (sumN (fun j => if oddQC μ p1 p2 j = true then chN p3.toNatClampNeg p4.toNatClampNeg j else 0) i)
def pre_X9_odds (p1 p2 p3 p4 p5 : Int32) (μ : Mem) : Prop := isN μ 77 0 5 ∧ isN μ 77 1 5
def post_X9_odds (p1 p2 p3 p4 p5 : Int32) (μ : Mem) (x : Int32) (m : Mem) : Prop := m = ui μ 75 0 0 ∧ (oddBad (gi μ 77 0) (gi μ 77 1) p1 p2 p3 p4 p5 → x = -1) ∧ (¬ oddBad (gi μ 77 0) (gi μ 77 1) p1 p2 p3 p4 p5 → x = if slvI (gi μ 84 3) p1 = 1 then -2 else oddsA p3.toNatClampNeg p4.toNatClampNeg (oddQM μ p1 p2) p5)
def inv_X9_odds_71 (p1 p2 p3 p4 p5 : Int32) (μ : Mem) (n : Nat) (l6 l7 : Int32) (m : Mem) : Prop := ∃ s, s ≤ 2 ^ p4.toNatClampNeg ∧ n = 2 ^ p4.toNatClampNeg - s ∧ ¬ oddBad (gi μ 77 0) (gi μ 77 1) p1 p2 p3 p4 p5 ∧ ¬ slvI (gi μ 84 3) p1 = 1 ∧ m = ui μ 75 0 0 ∧ l7 = nI s ∧ l6 = nI (oddM p3.toNatClampNeg p4.toNatClampNeg (oddQM μ p1 p2) s)
def rateA (k f w t r e : Int32) : Int32 := if k = 0 then f else if k = 1 then f + w else if k = 2 then f - t else if k = 3 then 2 * (f + w) else if k = 4 then f - t + r else f + e
def markS (k : Int32) : Int64 := if k = 0 then 1 else if k = 1 then 11 else if k = 2 then 101 else if k = 3 then 1011 else if k = 4 then 10101 else 100001
def lvlF (k : Int32) : Nat := if k = 0 then 0 else if k = 3 ∨ k = 4 then 2 else 1
def pre_X8_rateAs (lv : Nat) (p1 p2 : Int32) (μ : Mem) : Prop := hsOK μ ∧ isN μ (gp μ 1) 0 5 ∧ vp_in p2 5 ∧ vp_in p1 6 ∧ lvlF p1 ≤ lv
def post_X8_rateAs (lv : Nat) (p1 p2 : Int32) (μ : Mem) (x : Int32) (m : Mem) : Prop := x = rateA p1 (gi μ 18 p2.toNatClampNeg) (gi μ (gp μ 1 + 3) p2.toNatClampNeg) (gi μ (gp μ 1 + 2) p2.toNatClampNeg) p2 (earnC μ (gp μ 1)) ∧ m = ul μ 0 12 (gl μ 0 12 + markS p1)
def pre_X8_rate (p1 p2 : Int32) (μ : Mem) : Prop := hsOK μ ∧ isN μ (gp μ 1) 0 5
def post_X8_rate (p1 p2 : Int32) (μ : Mem) (x : Int32) (m : Mem) : Prop := if p1 < 0 ∨ 5 < p1 ∨ p2 < 0 ∨ gi μ (gp μ 1) 0 ≤ p2 then x = -1000000 ∧ m = μ else x = rateA p1 (gi μ 18 p2.toNatClampNeg) (gi μ (gp μ 1 + 3) p2.toNatClampNeg) (gi μ (gp μ 1 + 2) p2.toNatClampNeg) p2 (earnC μ (gp μ 1)) ∧ m = ul μ 0 12 (gl μ 0 12 + markS p1)
def pre_X9_rate (p1 p2 : Int32) (μ : Mem) : Prop := isN μ 77 0 5
def post_X9_rate (p1 p2 : Int32) (μ : Mem) (x : Int32) (m : Mem) : Prop := if p1 < 0 ∨ 5 < p1 ∨ p2 < 0 ∨ gi μ 77 0 ≤ p2 then x = -1000000 ∧ m = ui μ 75 0 0 else x = rateA p1 (gi μ 84 (5 + p2.toNatClampNeg)) (gi μ 80 p2.toNatClampNeg) (gi μ 79 p2.toNatClampNeg) p2 (earnM μ) ∧ m = ul (ui μ 75 0 0) 75 1 (gl μ 75 1 + markS p1)

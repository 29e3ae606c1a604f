/-! the reference's soonest, loved, gathers, country: contracts -/
def SVm (μ : Mem) : Prop := isN μ 77 0 5 ∧ isN μ 77 1 5 ∧ (∀ d, d < gn μ 77 1 → isN μ 81 d 9 ∧ isN μ 82 d 30) ∧ (∀ r, r < gn μ 77 0 → isN μ 79 r 3) ∧ (∀ r, r < gn μ 77 0 → ¬ slvI (gi μ 84 3) (nI r) = 1 → isN μ 84 (5 + r) 30) ∧ ∀ r, r < gn μ 77 0 → isN μ 84 (10 + r) 5
def f75 (μ m : Mem) : Prop := ∀ k, k ≠ 0 → gi m 75 k = gi μ 75 k
def pre_X9_soonest (p1 p2 : Int32) (μ : Mem) : Prop := SVm μ
def post_X9_soonest (p1 p2 : Int32) (μ : Mem) (x : Int32) (m : Mem) : Prop := fr [75, 90] μ m ∧ f75 μ m ∧ ((p1 < 0 ∨ gi μ 77 0 ≤ p1 ∨ p2 < -2) → x = -1) ∧ (¬ (p1 < 0 ∨ gi μ 77 0 ≤ p1 ∨ p2 < -2) → (slvI (gi μ 84 3) p1 = 1 → x = -2) ∧ (¬ slvI (gi μ 84 3) p1 = 1 → ∃ c, tabM μ p1.toNatClampNeg c ∧ x = soonA 100000000 (fullM μ p1.toNatClampNeg) (gn μ 82) c (gn μ 77 1) (gn μ 84 (5 + p1.toNatClampNeg)) (decN (gn μ 84 (10 + p1.toNatClampNeg))) p2))
/-- what stands while the row is followed -/
def FOL (p1 p2 : Int32) (μ m : Mem) : Prop := fr [75, 90] μ m ∧ f75 μ m ∧ ¬ (p1 < 0 ∨ gi μ 77 0 ≤ p1 ∨ p2 < -2) ∧ ¬ slvI (gi μ 84 3) p1 = 1 ∧ 0 ≤ p2 ∧ (∀ k, k < 186 → isN m 90 k 100000000) ∧ tabM μ p1.toNatClampNeg (cM m) ∧ cM m (gn μ 84 (5 + p1.toNatClampNeg)) (decN (gn μ 84 (10 + p1.toNatClampNeg))) < 100000000
def sFM (p1 : Int32) (μ m : Mem) (k f l : Nat) : Nat := sAt 100000000 (fullM μ p1.toNatClampNeg) (gn μ 82) (cM m) (gn μ 77 1) k f l
def cntM (p1 : Int32) (μ m : Mem) : Nat := cM m (gn μ 84 (5 + p1.toNatClampNeg)) (decN (gn μ 84 (10 + p1.toNatClampNeg))) % 1000
def atM (p1 p2 : Int32) (μ m : Mem) (n f l : Nat) : Prop := f ≤ 30 ∧ l < 6 ∧ cM m f l < 100000000 ∧ cM m f l % 1000 + n = cntM p1 μ m ∧ n ≤ p2.toNatClampNeg ∧ sFM p1 μ m (p2.toNatClampNeg - n) f l = sFM p1 μ m p2.toNatClampNeg (gn μ 84 (5 + p1.toNatClampNeg)) (decN (gn μ 84 (10 + p1.toNatClampNeg)))
def inv_X9_soonest_102 (p1 p2 : Int32) (μ : Mem) (z : Nat) (l4 l5 l6 : Int32) (m : Mem) : Prop := FOL p1 p2 μ m ∧ ∃ n, n ≤ 62 ∧ z = (1000 - n) * 10 + 9 ∧ l6 = nI n ∧ ((l4 < 0 ∧ n = cntM p1 μ m ∧ n ≤ p2.toNatClampNeg) ∨ ∃ f l, l4 = nI f ∧ l5 = nI (incN l) ∧ atM p1 p2 μ m n f l)
def inv_X9_soonest_121 (p1 p2 : Int32) (μ : Mem) (z : Nat) (l4 l5 l6 l7 l8 : Int32) (m : Mem) : Prop := FOL p1 p2 μ m ∧ ∃ n f l s, n ≤ 62 ∧ s ≤ gn μ 77 1 ∧ z = (1000 - n) * 10 + (gn μ 77 1 - s) ∧ l6 = nI n ∧ l4 = nI f ∧ l5 = nI (incN l) ∧ atM p1 p2 μ m n f l ∧ l8 = nI (gn μ 77 1 - s) - 1 ∧
  (l7 = nI (fbN (tXf 100000000 (fullM μ p1.toNatClampNeg) (gn μ 82) (cM m) f l) (cM m f l) (gn μ 77 1) s) ∨ ∀ d, gn μ 77 1 - s ≤ d → d < gn μ 77 1 → ¬ tXf 100000000 (fullM μ p1.toNatClampNeg) (gn μ 82) (cM m) f l d = cM m f l)
def pre_X9_loved (μ : Mem) : Prop := SVm μ
def soR (μ : Mem) (r : Nat) (v : Nat) : Prop := slvI (gi μ 84 3) (nI r) = 1 ∨ ∃ c, tabM μ r c ∧ v = c (gn μ 84 (5 + r)) (decN (gn μ 84 (10 + r))) ∧ v ≤ 100000000
def lovM (S : Int32) (v : Nat → Nat) (r : Nat) : Int32 := if ¬ slvI S (nI r) = 1 ∧ v r = 100000000 then 1 <<< (nI r &&& 31) else 0
def post_X9_loved (μ : Mem) (x : Int32) (m : Mem) : Prop := fr [75, 90] μ m ∧ f75 μ m ∧ ∃ v : Nat → Nat, (∀ r, r < gn μ 77 0 → soR μ r (v r)) ∧ x = orI (lovM (gi μ 84 3) v) (gn μ 77 0)
def inv_X9_loved_9 (μ : Mem) (n : Nat) (l1 l2 : Int32) (m : Mem) : Prop := ∃ i, i ≤ gn μ 77 0 ∧ n = gn μ 77 0 - i ∧ l2 = nI i ∧ fr [75, 90] μ m ∧ f75 μ m ∧ ∃ v : Nat → Nat, (∀ r, r < i → soR μ r (v r)) ∧ l1 = orI (lovM (gi μ 84 3) v) i
def moM (μ : Mem) (r : Nat) (v : Int32) : Prop := (slvI (gi μ 84 3) (nI r) = 1 → v = 100000000) ∧ (¬ slvI (gi μ 84 3) (nI r) = 1 → ∃ c, tabM μ r c ∧ v = if c (gn μ 84 (5 + r)) (decN (gn μ 84 (10 + r))) < 100000000 then nI (c (gn μ 84 (5 + r)) (decN (gn μ 84 (10 + r))) / 1000) else 100000000)
def pre_X9_gathers (μ : Mem) : Prop := SVm μ
def post_X9_gathers (μ m : Mem) : Prop := fr [90, 91] μ m ∧ ∀ r, r < gn μ 77 0 → moM μ r (gi m 91 r)
def inv_X9_gathers_2 (μ : Mem) (n : Nat) (l1 : Int32) (m : Mem) : Prop := ∃ i, i ≤ gn μ 77 0 ∧ n = gn μ 77 0 - i ∧ l1 = nI i ∧ fr [90, 91] μ m ∧ ∀ r, r < i → moM μ r (gi m 91 r)
def wantM (R S : Int32) : Int32 := R / 2 + 1 - onesI S
def setS (v : Nat → Int32) (s : Nat) (i : Nat) : Int32 := sumI (fun r => if slvI (nI s) (nI r) = 1 then v r else 0) i
def cmF (v : Nat → Int32) (W : Int32) (R : Nat) : Nat → Int32
  | 0 => 100000000
  | s + 1 => if onesI (nI s) < W ∨ cmF v W R s ≤ setS v s R then cmF v W R s else setS v s R
def pre_X9_country (μ : Mem) : Prop := SVm μ
def post_X9_country (μ : Mem) (x : Int32) (m : Mem) : Prop := fr [75, 90, 91] μ m ∧ f75 μ m ∧ ∃ v : Nat → Int32, (∀ r, r < gn μ 77 0 → moM μ r (v r)) ∧ x = if cmF v (wantM (gi μ 77 0) (gi μ 84 3)) (gn μ 77 0) (2 ^ gn μ 77 0) = 100000000 then -9 else cmF v (wantM (gi μ 77 0) (gi μ 84 3)) (gn μ 77 0) (2 ^ gn μ 77 0)
def inv_X9_country_35 (μ : Mem) (n : Nat) (l1 l2 l3 : Int32) (m : Mem) : Prop := ∃ s, s ≤ 2 ^ gn μ 77 0 ∧ n = (2 ^ gn μ 77 0 - s) * 100 ∧ l3 = nI s ∧ l1 = wantM (gi μ 77 0) (gi μ 84 3) ∧ fr [75, 90, 91] μ m ∧ f75 μ m ∧ (∀ r, r < gn μ 77 0 → moM μ r (gi m 91 r)) ∧ l2 = cmF (gi m 91) (wantM (gi μ 77 0) (gi μ 84 3)) (gn μ 77 0) s
def inv_X9_country_53 (μ : Mem) (n : Nat) (l1 l2 l3 l4 l5 : Int32) (m : Mem) : Prop := ∃ s i, s < 2 ^ gn μ 77 0 ∧ i ≤ gn μ 77 0 ∧ n = (2 ^ gn μ 77 0 - s - 1) * 100 + 10 + (gn μ 77 0 - i) ∧ l3 = nI s ∧ l5 = nI i ∧ l1 = wantM (gi μ 77 0) (gi μ 84 3) ∧ l4 = setS (gi m 91) s i ∧ fr [75, 90, 91] μ m ∧ f75 μ m ∧ (∀ r, r < gn μ 77 0 → moM μ r (gi m 91 r)) ∧ l2 = cmF (gi m 91) (wantM (gi μ 77 0) (gi μ 84 3)) (gn μ 77 0) s

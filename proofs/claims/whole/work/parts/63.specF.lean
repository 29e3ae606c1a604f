/-! soonest, loved, country: contracts, class and reference -/
def SVp (μ : Mem) (w : Nat) : Prop := isN μ w 0 5 ∧ isN μ w 4 5 ∧ (∀ d, d < gn μ w 4 → isN μ (w + 4) d 9 ∧ isN μ (w + 5) d 30) ∧ (∀ r, r < gn μ w 0 → isN μ (w + 2) r 3) ∧ (∀ r, r < gn μ w 0 → ¬ slvI (gi μ 17 3) (nI r) = 1 → isN μ 18 r 30) ∧ ∀ r, r < gn μ w 0 → gi μ 19 r = -9 ∨ isN μ 19 r 4
/-- a table of the room r, by the class's cells -/
def tabC (μ : Mem) (w r : Nat) (full tk : Nat → Nat) (c : Nat → Nat → Nat) : Prop := (∀ d, d < gn μ w 4 → full d = fullC μ w r d ∧ tk d = gn μ (w + 5) d) ∧ Bell 1000000000 (gn μ w 4) full tk (gn μ 18 r) c
def moC (μ : Mem) (w r : Nat) (v : Int32) : Prop := (slvI (gi μ 17 3) (nI r) = 1 → v = -9) ∧ (¬ slvI (gi μ 17 3) (nI r) = 1 → ∃ full tk c, tabC μ w r full tk c ∧ v = if c (gn μ 18 r) (lastC (gi μ 19 r)) < 1000000000 then nI (c (gn μ 18 r) (lastC (gi μ 19 r)) / 1000) else -9)
def pre_X1_solveAll (w : Nat) (μ : Mem) : Prop := SVp μ w
def post_X1_solveAll (w : Nat) (μ m : Mem) : Prop := fr [59, 60, 61, 62, 63] μ m ∧ (∀ r, r < gn μ w 0 → moC μ w r (gi m 61 r)) ∧ ∀ r, gn μ w 0 ≤ r → r < 5 → gi m 61 r = -9
def inv_X1_solveAll_11 (w : Nat) (μ : Mem) (n : Nat) (l3 : Int32) (m : Mem) : Prop := ∃ i, i ≤ gn μ w 0 ∧ n = gn μ w 0 - i ∧ l3 = nI i ∧ fr [59, 60, 61, 62, 63] μ m ∧ (∀ r, r < i → moC μ w r (gi m 61 r)) ∧ ∀ r, i ≤ r → r < 5 → gi m 61 r = -9
def chF (v : Nat → Int32) (taken : Int32) : Nat → Int32 × Int32
  | 0 => (-9, 1000000000)
  | r + 1 => if ¬ v r = -9 ∧ slvI taken (nI r) = 0 ∧ v r < (chF v taken r).2 then (nI r, v r) else chF v taken r
def pre_X1_cheapestBut (p1 : Int32) (μ : Mem) : Prop := True
def post_X1_cheapestBut (p1 : Int32) (μ : Mem) (x : Int32) (m : Mem) : Prop := x = (chF (gi μ 61) p1 5).1 ∧ m = μ
def inv_X1_cheapestBut_9 (p1 : Int32) (μ : Mem) (n : Nat) (l2 l3 l4 : Int32) (m : Mem) : Prop := ∃ i, i ≤ 5 ∧ n = 5 - i ∧ l4 = nI i ∧ l2 = (chF (gi μ 61) p1 i).1 ∧ l3 = (chF (gi μ 61) p1 i).2 ∧ m = μ
def soonA (NV : Nat) (full tk : Nat → Nat) (c : Nat → Nat → Nat) (D F l : Nat) (k : Int32) : Int32 := if NV ≤ c F l then -9 else if k = -1 then nI (c F l / 1000) else if k = -2 then nI (c F l % 1000) else if nI (c F l % 1000) ≤ k then -5 else nI (sAt NV full tk c D k.toNatClampNeg F l)
def pre_X8_soonest (p1 p2 : Int32) (μ : Mem) : Prop := hsOK μ ∧ SVp μ (gp μ 1)
def post_X8_soonest (p1 p2 : Int32) (μ : Mem) (x : Int32) (m : Mem) : Prop := fr [59, 60, 62, 63] μ m ∧ ((p1 < 0 ∨ gi μ (gp μ 1) 0 ≤ p1 ∨ p2 < -2) → x = -1) ∧ (¬ (p1 < 0 ∨ gi μ (gp μ 1) 0 ≤ p1 ∨ p2 < -2) → (slvI (gi μ 17 3) p1 = 1 → x = -2) ∧ (¬ slvI (gi μ 17 3) p1 = 1 → ∃ full tk c, tabC μ (gp μ 1) p1.toNatClampNeg full tk c ∧ x = soonA 1000000000 full tk c (gn μ (gp μ 1) 4) (gn μ 18 p1.toNatClampNeg) (lastC (gi μ 19 p1.toNatClampNeg)) p2))
def pre_X8_loved (μ : Mem) : Prop := hsOK μ ∧ SVp μ (gp μ 1)
def lovF (S : Int32) (v : Nat → Int32) (r : Nat) : Int32 := if ¬ slvI S (nI r) = 1 ∧ v r = -9 then 1 <<< (nI r &&& 31) else 0
def post_X8_loved (μ : Mem) (x : Int32) (m : Mem) : Prop := fr [59, 60, 61, 62, 63] μ m ∧ ∃ v : Nat → Int32, (∀ r, r < gn μ (gp μ 1) 0 → moC μ (gp μ 1) r (v r)) ∧ x = orI (lovF (gi μ 17 3) v) (gn μ (gp μ 1) 0)
def inv_X8_loved_19 (μ : Mem) (n : Nat) (l1 l2 : Int32) (m : Mem) : Prop := ∃ i, i ≤ gn μ (gp μ 1) 0 ∧ n = gn μ (gp μ 1) 0 - i ∧ l2 = nI i ∧ fr [59, 60, 61, 62, 63] μ m ∧ (∀ r, r < gn μ (gp μ 1) 0 → moC μ (gp μ 1) r (gi m 61 r)) ∧ l1 = orI (lovF (gi μ 17 3) (gi m 61)) i
def ctyF (v : Nat → Int32) : Nat → Int32 → Int32 → Int32
  | 0, _, sum => sum
  | k + 1, taken, sum => if (chF v taken 5).1 = -9 then -9 else ctyF v k (taken ||| (1 <<< ((chF v taken 5).1 &&& 31))) (sum + v (chF v taken 5).1.toNatClampNeg)
def pre_X8_country (μ : Mem) : Prop := hsOK μ ∧ SVp μ (gp μ 1)
def wantC (R S : Int32) : Int32 := R / 2 + 1 - bitsF S
def post_X8_country (μ : Mem) (x : Int32) (m : Mem) : Prop := fr [59, 60, 61, 62, 63] μ m ∧ ∃ v : Nat → Int32, (∀ r, r < gn μ (gp μ 1) 0 → moC μ (gp μ 1) r (v r)) ∧ (∀ r, gn μ (gp μ 1) 0 ≤ r → r < 5 → v r = -9) ∧ x = ctyF v (wantC (gi μ (gp μ 1) 0) (gi μ 17 3)).toNatClampNeg 0 0
def inv_X8_country_45 (μ : Mem) (n : Nat) (l1 l2 l3 l4 : Int32) (m : Mem) : Prop := ∃ i, i ≤ (wantC (gi μ (gp μ 1) 0) (gi μ 17 3)).toNatClampNeg ∧ n = (wantC (gi μ (gp μ 1) 0) (gi μ 17 3)).toNatClampNeg - i ∧ l1 = wantC (gi μ (gp μ 1) 0) (gi μ 17 3) ∧ l4 = nI i ∧ fr [59, 60, 61, 62, 63] μ m ∧ (∀ r, r < gn μ (gp μ 1) 0 → moC μ (gp μ 1) r (gi m 61 r)) ∧ (∀ r, gn μ (gp μ 1) 0 ≤ r → r < 5 → gi m 61 r = -9) ∧ ctyF (gi m 61) (wantC (gi μ (gp μ 1) 0) (gi μ 17 3)).toNatClampNeg 0 0 = ctyF (gi m 61) ((wantC (gi μ (gp μ 1) 0) (gi μ 17 3)).toNatClampNeg - i) l2 l3
/-! the reference's -/
def incN (l : Nat) : Nat := if l = 5 then 0 else l + 1
def decN (k : Nat) : Nat := if k = 0 then 5 else k - 1
def cM (μ : Mem) (f l : Nat) : Nat := gn μ 90 (6 * f + incN l)
def fullM (μ : Mem) (r d : Nat) : Nat := gn μ 81 d * gn μ 79 r
def TM (μ : Mem) (r : Nat) : Prop := r < 5 ∧ isN μ 77 1 5 ∧ (∀ d, d < gn μ 77 1 → isN μ 81 d 9 ∧ isN μ 82 d 30) ∧ isN μ 79 r 3
def pre_X9_soonBy (p1 p2 p3 p4 : Int32) (μ : Mem) : Prop := p1 = nI p1.toNatClampNeg ∧ TM μ p1.toNatClampNeg ∧ p2 = nI p2.toNatClampNeg ∧ p2.toNatClampNeg ≤ 30 ∧ p3 = nI p3.toNatClampNeg ∧ p3.toNatClampNeg ≤ 5 ∧ p4 = nI p4.toNatClampNeg ∧ p4.toNatClampNeg < gn μ 77 1 ∧ ∀ k, k < 186 → isN μ 90 k 100000000
def post_X9_soonBy (p1 p2 p3 p4 : Int32) (μ : Mem) (x : Int32) (m : Mem) : Prop := x = nI (thr 100000000 (fullM μ p1.toNatClampNeg) (gn μ 82) (cM μ) (cM μ p2.toNatClampNeg) p2.toNatClampNeg (decN p3.toNatClampNeg) p4.toNatClampNeg) ∧ m = μ
def thrK (μ : Mem) (r : Nat) (m : Mem) (k d : Nat) : Nat := thr 100000000 (fullM μ r) (gn μ 82) (cM m) (cM m (k / 6)) (k / 6) (decN (k % 6)) d
def pre_X9_measures (p1 : Int32) (μ : Mem) : Prop := p1 = nI p1.toNatClampNeg ∧ TM μ p1.toNatClampNeg
def post_X9_measures (p1 : Int32) (μ m : Mem) : Prop := fr [90] μ m ∧ (∀ k, k < 186 → isN m 90 k 100000000) ∧ Bell 100000000 (gn μ 77 1) (fullM μ p1.toNatClampNeg) (gn μ 82) 30 (cM m)
def MM (μ : Mem) (r : Nat) (m : Mem) : Prop := fr [90] μ m ∧ (∀ k, k < 186 → isN m 90 k 100000000) ∧ ∀ k, k < 186 → gn m 90 k = 100000000 ∨ ∃ d, d < gn μ 77 1 ∧ thrK μ r m k d ≤ gn m 90 k
def sumT (m : Mem) : Nat := sumN (gn m 90) 186
def inv_X9_measures_2 (p1 : Int32) (μ : Mem) (n : Nat) (l2 : Int32) (m : Mem) : Prop := ∃ i, i ≤ 186 ∧ n = 186 * 100000000 * 10000 + 10000 - i ∧ l2 = nI i ∧ fr [90] μ m ∧ ∀ k, k < i → gi m 90 k = 100000000
def inv_X9_measures_38 (p1 : Int32) (μ : Mem) (n : Nat) (l2 : Int32) (m : Mem) : Prop := (l2 = 0 ∨ l2 = 1) ∧ n = sumT m * 10000 + (if l2 = 0 then 0 else 3000) ∧ MM μ p1.toNatClampNeg m ∧ (l2 = 0 → ∀ k, k < 186 → ∀ d, d < gn μ 77 1 → gn m 90 k ≤ thrK μ p1.toNatClampNeg m k d)
def inv_X9_measures_46 (p1 : Int32) (μ : Mem) (n : Nat) (l2 l3 : Int32) (m : Mem) : Prop := ∃ k, k ≤ 186 ∧ (l2 = 0 ∨ l2 = 1) ∧ l3 = nI k ∧ n = sumT m * 10000 + (if l2 = 0 then 0 else 3000) + 1 + (186 - k) * 7 ∧ MM μ p1.toNatClampNeg m ∧ (l2 = 0 → ∀ j, j < k → ∀ d, d < gn μ 77 1 → gn m 90 j ≤ thrK μ p1.toNatClampNeg m j d)
def inv_X9_measures_56 (p1 : Int32) (μ : Mem) (n : Nat) (l2 l3 l4 : Int32) (m : Mem) : Prop := ∃ k d, k < 186 ∧ d ≤ gn μ 77 1 ∧ (l2 = 0 ∨ l2 = 1) ∧ l3 = nI k ∧ l4 = nI d ∧ n = sumT m * 10000 + (if l2 = 0 then 0 else 3000) + 1 + (185 - k) * 7 + 1 + (5 - d) ∧ MM μ p1.toNatClampNeg m ∧ (l2 = 0 → ∀ j e, j < 186 → e < gn μ 77 1 → (j < k ∨ (j = k ∧ e < d)) → gn m 90 j ≤ thrK μ p1.toNatClampNeg m j e)
/-- a table of the room r, by the reference's cells -/
def tabM (μ : Mem) (r : Nat) (c : Nat → Nat → Nat) : Prop := Bell 100000000 (gn μ 77 1) (fullM μ r) (gn μ 82) 30 c
def soM (μ : Mem) (r : Nat) (v : Int32) : Prop := ∃ c, tabM μ r c ∧ c (gn μ 84 (5 + r)) (decN (gn μ 84 (10 + r))) ≤ 100000000 ∧ v = nI (c (gn μ 84 (5 + r)) (decN (gn μ 84 (10 + r))))
def pre_X9_soonAt (p1 : Int32) (μ : Mem) : Prop := p1 = nI p1.toNatClampNeg ∧ TM μ p1.toNatClampNeg ∧ isN μ 84 (5 + p1.toNatClampNeg) 30 ∧ isN μ 84 (10 + p1.toNatClampNeg) 5
def post_X9_soonAt (p1 : Int32) (μ : Mem) (x : Int32) (m : Mem) : Prop := post_X9_measures p1 μ m ∧ x = nI (cM m (gn μ 84 (5 + p1.toNatClampNeg)) (decN (gn μ 84 (10 + p1.toNatClampNeg)))) ∧ cM m (gn μ 84 (5 + p1.toNatClampNeg)) (decN (gn μ 84 (10 + p1.toNatClampNeg))) ≤ 100000000

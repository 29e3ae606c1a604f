/-! the reference's plain methods: contracts -/
def pre_X9_in (p1 p2 p3 : Int32) (μ : Mem) : Prop := True
def post_X9_in (p1 p2 p3 : Int32) (μ : Mem) (x : Int32) (m : Mem) : Prop := x = (if p1 < p2 ∨ p3 < p1 then 0 else 1) ∧ m = μ
def onesI (s : Int32) : Int32 := sumI (fun k => (s >>> (nI k &&& 31)) &&& 1) 6
def pre_X9_ones (p1 : Int32) (μ : Mem) : Prop := True
def post_X9_ones (p1 : Int32) (μ : Mem) (x : Int32) (m : Mem) : Prop := x = onesI p1 ∧ m = μ
def inv_X9_ones_4 (p1 : Int32) (μ : Mem) (n : Nat) (l1 l2 : Int32) (m : Mem) : Prop := ∃ i, i ≤ 6 ∧ n = 6 - i ∧ l2 = nI i ∧ l1 = sumI (fun k => (p1 >>> (nI k &&& 31)) &&& 1) i ∧ m = μ
def pre_X9_letterAt (p1 : Int32) (μ : Mem) : Prop := isN μ 75 3 200 ∧ 0 ≤ p1
def post_X9_letterAt (p1 : Int32) (μ : Mem) (x : Int32) (m : Mem) : Prop := x = (if p1 < gi μ 75 3 then gi μ 76 p1.toNatClampNeg else -1) ∧ m = μ
def isLetF (c : Int32) : Prop := c = 114 ∨ c = 100 ∨ c = 115 ∨ c = 99 ∨ c = 119 ∨ c = 110
def pre_X9_isLetter (p1 : Int32) (μ : Mem) : Prop := True
def post_X9_isLetter (p1 : Int32) (μ : Mem) (x : Int32) (m : Mem) : Prop := ((isLetF p1 → x = 1) ∧ (¬ isLetF p1 → x = 0)) ∧ m = μ
def pre_X9_isWell (μ : Mem) : Prop := True
def post_X9_isWell (μ : Mem) (x : Int32) (m : Mem) : Prop := x = (if gi μ 75 8 < 0 then 1 else 0) ∧ m = μ
def pre_X9_bitOf (p1 : Int32) (μ : Mem) : Prop := True
def bitF (c : Int32) : Int32 := if c = 99 then 1 else if c = 119 then 2 else 4
def post_X9_bitOf (p1 : Int32) (μ : Mem) (x : Int32) (m : Mem) : Prop := x = bitF p1 ∧ m = μ
def pre_X9_isRoom (p1 : Int32) (μ : Mem) : Prop := isN μ 77 0 5
def post_X9_isRoom (p1 : Int32) (μ : Mem) (x : Int32) (m : Mem) : Prop := x = (if p1 < 0 ∨ gi μ 77 0 ≤ p1 then 0 else 1) ∧ m = μ
def pre_X9_isDoing (p1 : Int32) (μ : Mem) : Prop := isN μ 77 1 5
def post_X9_isDoing (p1 : Int32) (μ : Mem) (x : Int32) (m : Mem) : Prop := x = (if p1 < 0 ∨ gi μ 77 1 ≤ p1 then 0 else 1) ∧ m = μ
def pre_X9_isSolved (p1 : Int32) (μ : Mem) : Prop := True
def post_X9_isSolved (p1 : Int32) (μ : Mem) (x : Int32) (m : Mem) : Prop := x = (if slvI (gi μ 84 3) p1 = 1 then 1 else 0) ∧ m = μ
def earnM (μ : Mem) : Int32 := sumI (fun r => if slvI (gi μ 84 3) (nI r) = 1 then gi μ 80 r else 0) (gn μ 77 0)
def pre_X9_earned (μ : Mem) : Prop := isN μ 77 0 5
def post_X9_earned (μ : Mem) (x : Int32) (m : Mem) : Prop := x = earnM μ ∧ m = μ
def inv_X9_earned_4 (μ : Mem) (n : Nat) (l1 l2 : Int32) (m : Mem) : Prop := ∃ i, i ≤ gn μ 77 0 ∧ n = gn μ 77 0 - i ∧ l2 = nI i ∧ l1 = sumI (fun r => if slvI (gi μ 84 3) (nI r) = 1 then gi μ 80 r else 0) i ∧ m = μ
def leftM (μ : Mem) : Int32 := orI (fun s => if (gi μ 83 s ^^^ gi μ 83 (gn μ 77 3)) &&& gi μ 84 4 = 0 then 1 <<< (nI s &&& 31) else 0) (gn μ 77 2)
def pre_X9_left (μ : Mem) : Prop := isN μ 77 2 6 ∧ isN μ 77 3 5
def post_X9_left (μ : Mem) (x : Int32) (m : Mem) : Prop := x = leftM μ ∧ m = μ
def inv_X9_left_4 (μ : Mem) (n : Nat) (l1 l2 : Int32) (m : Mem) : Prop := ∃ i, i ≤ gn μ 77 2 ∧ n = gn μ 77 2 - i ∧ l2 = nI i ∧ l1 = orI (fun s => if (gi μ 83 s ^^^ gi μ 83 (gn μ 77 3)) &&& gi μ 84 4 = 0 then 1 <<< (nI s &&& 31) else 0) i ∧ m = μ
def pre_X9_mayLast (p1 : Int32) (μ : Mem) : Prop := True
def post_X9_mayLast (p1 : Int32) (μ : Mem) (x : Int32) (m : Mem) : Prop := x = (if 9999 < gi μ 84 2 + p1 then 0 else 1) ∧ m = μ
def walkF (wk was r : Int32) : Int32 := wk * (if (if was = 0 then 0 else was - 1) < r then r - (if was = 0 then 0 else was - 1) else (if was = 0 then 0 else was - 1) - r)
def pre_X9_walk (p1 p2 : Int32) (μ : Mem) : Prop := True
def post_X9_walk (p1 p2 : Int32) (μ : Mem) (x : Int32) (m : Mem) : Prop := x = walkF (gi μ 77 4) p1 p2 ∧ m = μ
def hurtF (μ : Mem) (r d last : Int32) : Int32 := if last = d + 1 then (gi μ 81 d.toNatClampNeg * gi μ 79 r.toNatClampNeg) / 2 else gi μ 81 d.toNatClampNeg * gi μ 79 r.toNatClampNeg
def pre_X9_hurt (p1 p2 p3 : Int32) (μ : Mem) : Prop := vp_in p1 10 ∧ vp_in p2 10
def post_X9_hurt (p1 p2 p3 : Int32) (μ : Mem) (x : Int32) (m : Mem) : Prop := x = hurtF μ p1 p2 p3 ∧ m = μ
def havF (μ : Mem) (t : Int32) : Int32 := orI (fun s => if gi μ 83 s >>> (t &&& 31) &&& 1 = 1 then 1 <<< (nI s &&& 31) else 0) (gn μ 77 2)
def pre_X9_having (p1 p2 : Int32) (μ : Mem) : Prop := isN μ 77 2 6
def post_X9_having (p1 p2 : Int32) (μ : Mem) (x : Int32) (m : Mem) : Prop := x = p1 &&& havF μ p2 ∧ m = μ
def inv_X9_having_5 (p1 p2 : Int32) (μ : Mem) (n : Nat) (l3 l4 : Int32) (m : Mem) : Prop := ∃ i, i ≤ gn μ 77 2 ∧ n = gn μ 77 2 - i ∧ l4 = nI i ∧ l3 = orI (fun s => if gi μ 83 s >>> (p2 &&& 31) &&& 1 = 1 then 1 <<< (nI s &&& 31) else 0) i ∧ m = μ
def powI (b : Int32) : Nat → Int32
  | 0 => 1
  | n + 1 => powI b n * b
def pre_X9_power (p1 p2 : Int32) (μ : Mem) : Prop := 0 ≤ p2
def post_X9_power (p1 p2 : Int32) (μ : Mem) (x : Int32) (m : Mem) : Prop := x = powI p1 p2.toNatClampNeg ∧ m = μ
def inv_X9_power_4 (p1 p2 : Int32) (μ : Mem) (n : Nat) (l2 l3 : Int32) (m : Mem) : Prop := ∃ i, i ≤ p2.toNatClampNeg ∧ n = p2.toNatClampNeg - i ∧ l3 = nI i ∧ l2 = powI p1 i ∧ m = μ
def pre_X9_gcd (p1 p2 : Int32) (μ : Mem) : Prop := 0 ≤ p1 ∧ 0 ≤ p2
def post_X9_gcd (p1 p2 : Int32) (μ : Mem) (x : Int32) (m : Mem) : Prop := x = nI (Nat.gcd p1.toNatClampNeg p2.toNatClampNeg) ∧ m = μ
def inv_X9_gcd_4 (p1 p2 : Int32) (μ : Mem) (n : Nat) (l2 l3 : Int32) (m : Mem) : Prop := ∃ a, a < 2 ^ 31 ∧ n < 2 ^ 31 ∧ l2 = nI a ∧ l3 = nI n ∧ Nat.gcd a n = Nat.gcd p1.toNatClampNeg p2.toNatClampNeg ∧ m = μ
def pre_X9_notes (μ : Mem) : Prop := isN μ 75 21 10
def post_X9_notes (μ m : Mem) : Prop := fr [75, 87] μ m ∧ (∀ k, k ≠ 21 → gi m 75 k = gi μ 75 k) ∧ gi m 75 21 = nI (min (gn μ 75 21 + 1) 10) ∧
  (∀ k, k < 15 → gi m 87 (15 * (min (gn μ 75 21 + 1) 10 - 1) + k) = gi μ 84 k) ∧ (∀ k, k < 15 * (min (gn μ 75 21 + 1) 10 - 1) → gi m 87 k = gi μ 87 (if gn μ 75 21 = 10 then k + 15 else k))
def inv_X9_notes_11 (μ : Mem) (n : Nat) (l1 : Int32) (m : Mem) : Prop := ∃ i, i ≤ 135 ∧ n = 1000 + 135 - i ∧ l1 = nI i ∧ gn μ 75 21 = 10 ∧ fr [87] μ m ∧ (∀ k, k < i → gi m 87 k = gi μ 87 (k + 15)) ∧ ∀ k, i ≤ k → gi m 87 k = gi μ 87 k
def inv_X9_notes_47 (μ : Mem) (n : Nat) (l1 : Int32) (m : Mem) : Prop := ∃ i, i ≤ 15 ∧ n = 15 - i ∧ l1 = nI i ∧ fr [75, 87] μ m ∧ (∀ k, k ≠ 21 → gi m 75 k = gi μ 75 k) ∧ gi m 75 21 = nI (min (gn μ 75 21 + 1) 10 - 1) ∧
  (∀ k, k < i → gi m 87 (15 * (min (gn μ 75 21 + 1) 10 - 1) + k) = gi μ 84 k) ∧ (∀ k, k < 15 * (min (gn μ 75 21 + 1) 10 - 1) → gi m 87 k = gi μ 87 (if gn μ 75 21 = 10 then k + 15 else k))

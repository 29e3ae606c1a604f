/-! the class's scene, past, memory, inquiry: contracts -/
def gn (μ : Mem) (c k : Nat) : Nat := (gi μ c k).toNatClampNeg
def isN (μ : Mem) (c k b : Nat) : Prop := gi μ c k = nI (gn μ c k) ∧ gn μ c k ≤ b
def slvI (S r : Int32) : Int32 := (S >>> (r &&& 31)) &&& 1
def sumI (f : Nat → Int32) : Nat → Int32
  | 0 => 0
  | n + 1 => sumI f n + f n
def orI (f : Nat → Int32) : Nat → Int32
  | 0 => 0
  | n + 1 => orI f n ||| f n
def earnC (μ : Mem) (w : Nat) : Int32 := sumI (fun r => if slvI (gi μ 17 3) (nI r) = 1 then gi μ (w + 3) r else 0) (gn μ w 0)
def pre_X7_earnedIn (w : Nat) (μ : Mem) : Prop := isN μ w 0 5
def post_X7_earnedIn (w : Nat) (μ : Mem) (x : Int32) (m : Mem) : Prop := x = earnC μ w ∧ m = μ
def inv_X7_earnedIn_4 (w : Nat) (μ : Mem) (n : Nat) (l2 l3 : Int32) (m : Mem) : Prop := ∃ i, i ≤ gn μ w 0 ∧ n = gn μ w 0 - i ∧ l3 = nI i ∧ l2 = sumI (fun r => if slvI (gi μ 17 3) (nI r) = 1 then gi μ (w + 3) r else 0) i ∧ m = μ
def pre_X7_beginIn (w : Nat) (μ : Mem) : Prop := True
def post_X7_beginIn (w : Nat) (μ m : Mem) : Prop := fr [17, 18, 19] μ m ∧ gi m 17 0 = -9 ∧ gi m 17 1 = -9 ∧ gi m 17 2 = 0 ∧ gi m 17 3 = 0 ∧ gi m 17 4 = 0 ∧ (∀ j, j < 5 → gi m 18 j = gi μ (w + 1) j) ∧ ∀ j, j < 5 → gi m 19 j = -9
/-- the scene a of m is the scene b of μ -/
def cpS (a b : Nat) (μ m : Mem) : Prop := (∀ k, k < 5 → gi m a k = gi μ b k) ∧ (∀ j, j < 5 → gi m (a + 1) j = gi μ (b + 1) j) ∧ ∀ j, j < 5 → gi m (a + 2) j = gi μ (b + 2) j
def pre_X7_copyOf (a b : Nat) (μ : Mem) : Prop := a + 2 < b ∨ b + 2 < a
def post_X7_copyOf (a b : Nat) (μ m : Mem) : Prop := fr [a, a + 1, a + 2] μ m ∧ cpS a b μ m
def lossC (μ : Mem) (w : Nat) (r d : Int32) : Int32 := if gi μ 19 r.toNatClampNeg = d then (gi μ (w + 4) d.toNatClampNeg * gi μ (w + 2) r.toNatClampNeg) / 2 else gi μ (w + 4) d.toNatClampNeg * gi μ (w + 2) r.toNatClampNeg
def pre_X7_takeDoing (w : Nat) (p1 p2 : Int32) (μ : Mem) : Prop := vp_in p1 5 ∧ vp_in p2 5
def post_X7_takeDoing (w : Nat) (p1 p2 : Int32) (μ m : Mem) : Prop := fr [17, 18, 19] μ m ∧ gi m 17 1 = gi μ 17 1 ∧ gi m 17 2 = gi μ 17 2 + gi μ (w + 5) p2.toNatClampNeg ∧ gi m 17 4 = gi μ 17 4 ∧
  (∀ j, gi m 18 j = if j = p1.toNatClampNeg then gi μ 18 j - lossC μ w p1 p2 else gi μ 18 j) ∧ (∀ j, gi m 19 j = if j = p1.toNatClampNeg then p2 else gi μ 19 j) ∧
  (if gi μ 18 p1.toNatClampNeg - lossC μ w p1 p2 < 0 then gi m 17 3 = gi μ 17 3 ||| (1 <<< (p1 &&& 31)) ∧ gi m 17 0 = -9 else gi m 17 3 = gi μ 17 3 ∧ gi m 17 0 = gi μ 17 0)
def pre_X5_remember (μ : Mem) : Prop := isN μ 20 1 9 ∧ isN μ 20 2 10
def post_X5_remember (μ m : Mem) : Prop := fr [20, 22 + 3 * gn μ 20 1, 22 + 3 * gn μ 20 1 + 1, 22 + 3 * gn μ 20 1 + 2] μ m ∧ cpS (22 + 3 * gn μ 20 1) 17 μ m ∧ gi m 20 1 = nI ((gn μ 20 1 + 1) % 10) ∧ gi m 20 2 = nI (min (gn μ 20 2 + 1) 10)
def pre_X5_restore (μ : Mem) : Prop := isN μ 20 1 9 ∧ isN μ 20 2 10 ∧ 1 ≤ gn μ 20 2
def post_X5_restore (μ m : Mem) : Prop := fr [17, 18, 19, 20] μ m ∧ cpS 17 (22 + 3 * ((gn μ 20 1 + 9) % 10)) μ m ∧ gi m 20 1 = nI ((gn μ 20 1 + 9) % 10) ∧ gi m 20 2 = nI (gn μ 20 2 - 1)
def pre_X4_add (p1 p2 : Int32) (μ : Mem) : Prop := isN μ 71 2 4
def post_X4_add (p1 p2 : Int32) (μ m : Mem) : Prop := m = ui (ui (ui μ 72 (gn μ 71 2) p1) 73 (gn μ 71 2) p2) 71 2 (gi μ 71 2 + 1)
def pre_X4_agreesWith (w : Nat) (p1 : Int32) (μ : Mem) : Prop := isN μ 71 2 5 ∧ ∀ i, i < gn μ 71 2 → vp_in (gi μ 72 i) 5
def post_X4_agreesWith (w : Nat) (p1 : Int32) (μ : Mem) (x : Int32) (m : Mem) : Prop := x = (if ∀ i, i < gn μ 71 2 → gi μ (w + 4) (gn μ 72 i) * p1 = gi μ 73 i then 1 else 0) ∧ m = μ
def inv_X4_agreesWith_2 (w : Nat) (p1 : Int32) (μ : Mem) (n : Nat) (l3 : Int32) (m : Mem) : Prop := ∃ i, i ≤ gn μ 71 2 ∧ n = gn μ 71 2 - i ∧ l3 = nI i ∧ m = μ ∧ ∀ j, j < i → gi μ (w + 4) (gn μ 72 j) * p1 = gi μ 73 j
def leftC (μ : Mem) (w : Nat) (asked : Int32) : Int32 := orI (fun s => if (gi μ (w + 6) s ^^^ gi μ (w + 6) (gn μ w 9)) &&& asked = 0 then 1 <<< (nI s &&& 31) else 0) (gn μ w 7)
def pre_X3_leftOf (w : Nat) (p1 : Int32) (μ : Mem) : Prop := isN μ w 7 6 ∧ isN μ w 9 5
def post_X3_leftOf (w : Nat) (p1 : Int32) (μ : Mem) (x : Int32) (m : Mem) : Prop := x = leftC μ w p1 ∧ m = μ
def inv_X3_leftOf_4 (w : Nat) (p1 : Int32) (μ : Mem) (n : Nat) (l2 l3 : Int32) (m : Mem) : Prop := ∃ i, i ≤ gn μ w 7 ∧ n = gn μ w 7 - i ∧ l3 = nI i ∧ l2 = orI (fun s => if (gi μ (w + 6) s ^^^ gi μ (w + 6) (gn μ w 9)) &&& p1 = 0 then 1 <<< (nI s &&& 31) else 0) i ∧ m = μ
def withC (μ : Mem) (w : Nat) (t : Int32) : Int32 := orI (fun s => (gi μ (w + 6) s >>> (t &&& 31) &&& 1) <<< (nI s &&& 31)) (gn μ w 7)
def pre_X3_withTrait (w : Nat) (p1 : Int32) (μ : Mem) : Prop := isN μ w 7 6
def post_X3_withTrait (w : Nat) (p1 : Int32) (μ : Mem) (x : Int32) (m : Mem) : Prop := x = withC μ w p1 ∧ m = μ
def inv_X3_withTrait_4 (w : Nat) (p1 : Int32) (μ : Mem) (n : Nat) (l2 l3 : Int32) (m : Mem) : Prop := ∃ i, i ≤ gn μ w 7 ∧ n = gn μ w 7 - i ∧ l3 = nI i ∧ l2 = orI (fun s => (gi μ (w + 6) s >>> (p1 &&& 31) &&& 1) <<< (nI s &&& 31)) i ∧ m = μ

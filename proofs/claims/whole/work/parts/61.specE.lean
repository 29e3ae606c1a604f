/-! the class's Exits: contracts -/
def cC (μ : Mem) (f l : Nat) : Nat := gn μ 60 (f * 6 + l)
def TV (μ : Mem) : Prop := isN μ 59 2 5 ∧ (∀ d, d < gn μ 59 2 → isN μ 62 d 27 ∧ isN μ 63 d 30) ∧ ∀ k, k < 186 → isN μ 60 k 1000000000
def tXf (NV : Nat) (full tk : Nat → Nat) (c : Nat → Nat → Nat) (f l d : Nat) : Nat := if f < lsN full l d then tk d * 1000 + 1 else if NV ≤ c (f - lsN full l d) d then NV else tk d * 1000 + 1 + c (f - lsN full l d) d
def pre_X1_costThrough (p1 p2 p3 : Int32) (μ : Mem) : Prop := p1 = nI p1.toNatClampNeg ∧ p1.toNatClampNeg ≤ 30 ∧ p2 = nI p2.toNatClampNeg ∧ p2.toNatClampNeg ≤ 5 ∧ p3 = nI p3.toNatClampNeg ∧ p3.toNatClampNeg < gn μ 59 2 ∧ TV μ
def post_X1_costThrough (p1 p2 p3 : Int32) (μ : Mem) (x : Int32) (m : Mem) : Prop := x = nI (tXf 1000000000 (gn μ 62) (gn μ 63) (cC μ) p1.toNatClampNeg p2.toNatClampNeg p3.toNatClampNeg) ∧ m = μ
def EX (μ : Mem) : Prop := TV μ ∧ isN μ 59 5 30 ∧ isN μ 59 6 5
def nowC (μ : Mem) : Nat := cC μ (gn μ 59 5) (gn μ 59 6)
def pre_X1_costNow (μ : Mem) : Prop := EX μ
def post_X1_costNow (μ : Mem) (x : Int32) (m : Mem) : Prop := x = nI (nowC μ) ∧ m = μ
def pre_X1_isNever (μ : Mem) : Prop := EX μ
def post_X1_isNever (μ : Mem) (x : Int32) (m : Mem) : Prop := x = (if nowC μ < 1000000000 then 0 else 1) ∧ m = μ
def pre_X1_minutesNeeded (μ : Mem) : Prop := EX μ
def post_X1_minutesNeeded (μ : Mem) (x : Int32) (m : Mem) : Prop := x = nI (nowC μ / 1000) ∧ m = μ
def pre_X1_doingsNeeded (μ : Mem) : Prop := EX μ
def post_X1_doingsNeeded (μ : Mem) (x : Int32) (m : Mem) : Prop := x = nI (nowC μ % 1000) ∧ m = μ
/-- a level as far as l, d -/
def LV (μ : Mem) (f l d : Nat) (m : Mem) : Prop := fr [60] μ m ∧ (∀ k, k < 186 → isN m 60 k 1000000000) ∧ (∀ k, (k < f * 6 ∨ f * 6 + 6 ≤ k) → gi m 60 k = gi μ 60 k) ∧
  (∀ j, j < 6 → cC m f j ≤ cC μ f j) ∧ (∀ j e, j < 6 → e < gn μ 59 2 → (j < l ∨ (j = l ∧ e < d)) → cC m f j ≤ thr 1000000000 (gn μ 62) (gn μ 63) (cC μ) (cC μ f) f j e) ∧
  (∀ j, j < 6 → cC m f j = cC μ f j ∨ ∃ e, e < gn μ 59 2 ∧ thr 1000000000 (gn μ 62) (gn μ 63) (cC μ) (cC m f) f j e ≤ cC m f j) ∧
  ∀ S : Nat → Nat, (∀ j, j < 6 → S j ≤ cC μ f j) → (∀ j, j < 6 → ∀ e, e < gn μ 59 2 → S j ≤ thr 1000000000 (gn μ 62) (gn μ 63) (cC μ) S f j e) → ∀ j, j < 6 → S j ≤ cC m f j
def pre_X1_solveLevel (p1 : Int32) (μ : Mem) : Prop := p1 = nI p1.toNatClampNeg ∧ p1.toNatClampNeg ≤ 30 ∧ TV μ
def post_X1_solveLevel (p1 : Int32) (μ m : Mem) : Prop := LV μ p1.toNatClampNeg 6 0 m
def inv_X1_solveLevel_2 (p1 : Int32) (μ : Mem) (n : Nat) (l2 : Int32) (m : Mem) : Prop := ∃ l, l ≤ 6 ∧ n = (6 - l) * 100 ∧ l2 = nI l ∧ LV μ p1.toNatClampNeg l 0 m
def inv_X1_solveLevel_10 (p1 : Int32) (μ : Mem) (n : Nat) (l2 l3 : Int32) (m : Mem) : Prop := ∃ l d, l < 6 ∧ d ≤ gn μ 59 2 ∧ n = (5 - l) * 100 + 10 + (gn μ 59 2 - d) ∧ l2 = nI l ∧ l3 = nI d ∧ LV μ p1.toNatClampNeg l d m
/-- the first doing by which it costs no more (0, if there is none) -/
def fbN (t : Nat → Nat) (v : Nat) (D : Nat) : Nat → Nat
  | 0 => 0
  | n + 1 => if t (D - (n + 1)) = v then D - (n + 1) else fbN t v D n
def fbC (NV : Nat) (full tk : Nat → Nat) (c : Nat → Nat → Nat) (D f l : Nat) : Nat := fbN (tXf NV full tk c f l) (c f l) D D
def pre_X1_firstOfBest (p1 p2 : Int32) (μ : Mem) : Prop := p1 = nI p1.toNatClampNeg ∧ p1.toNatClampNeg ≤ 30 ∧ p2 = nI p2.toNatClampNeg ∧ p2.toNatClampNeg ≤ 5 ∧ TV μ
def post_X1_firstOfBest (p1 p2 : Int32) (μ : Mem) (x : Int32) (m : Mem) : Prop := x = nI (fbC 1000000000 (gn μ 62) (gn μ 63) (cC μ) (gn μ 59 2) p1.toNatClampNeg p2.toNatClampNeg) ∧ m = μ
def inv_X1_firstOfBest_2 (p1 p2 : Int32) (μ : Mem) (n : Nat) (l3 : Int32) (m : Mem) : Prop := ∃ i, i ≤ gn μ 59 2 ∧ n = gn μ 59 2 - i ∧ l3 = nI i ∧ m = μ ∧ fbC 1000000000 (gn μ 62) (gn μ 63) (cC μ) (gn μ 59 2) p1.toNatClampNeg p2.toNatClampNeg = fbN (tXf 1000000000 (gn μ 62) (gn μ 63) (cC μ) p1.toNatClampNeg p2.toNatClampNeg) (cC μ p1.toNatClampNeg p2.toNatClampNeg) (gn μ 59 2) (gn μ 59 2 - i)
/-- the k-th doing of the best row -/
def sAt (NV : Nat) (full tk : Nat → Nat) (c : Nat → Nat → Nat) (D : Nat) : Nat → Nat → Nat → Nat
  | 0, f, l => fbC NV full tk c D f l
  | k + 1, f, l => sAt NV full tk c D k (f - lsN full l (fbC NV full tk c D f l)) (fbC NV full tk c D f l)
def pre_X1_doingAt (p1 : Int32) (μ : Mem) : Prop := EX μ ∧ nowC μ < 1000000000 ∧ Bell 1000000000 (gn μ 59 2) (gn μ 62) (gn μ 63) (gn μ 59 5) (cC μ)
def post_X1_doingAt (p1 : Int32) (μ : Mem) (x : Int32) (m : Mem) : Prop := x = (if p1 < 0 ∨ nI (nowC μ % 1000) ≤ p1 then -5 else nI (sAt 1000000000 (gn μ 62) (gn μ 63) (cC μ) (gn μ 59 2) p1.toNatClampNeg (gn μ 59 5) (gn μ 59 6))) ∧ m = μ
def inv_X1_doingAt_28 (p1 : Int32) (μ : Mem) (n : Nat) (l2 l3 l4 : Int32) (m : Mem) : Prop := ∃ i f l, i ≤ p1.toNatClampNeg ∧ n = p1.toNatClampNeg - i ∧ l4 = nI i ∧ l2 = nI f ∧ l3 = nI l ∧ f ≤ gn μ 59 5 ∧ l ≤ 5 ∧ m = μ ∧ ¬ (p1 < 0 ∨ nI (nowC μ % 1000) ≤ p1) ∧ cC μ f l < 1000000000 ∧ cC μ f l % 1000 = nowC μ % 1000 - i ∧
  sAt 1000000000 (gn μ 62) (gn μ 63) (cC μ) (gn μ 59 2) (p1.toNatClampNeg - i) f l = sAt 1000000000 (gn μ 62) (gn μ 63) (cC μ) (gn μ 59 2) p1.toNatClampNeg (gn μ 59 5) (gn μ 59 6)
def lastC (x : Int32) : Nat := if x = -9 then 5 else x.toNatClampNeg
def fullC (μ : Mem) (w r d : Nat) : Nat := gn μ (w + 4) d * gn μ (w + 2) r
def pre_X1_solve (w : Nat) (p1 : Int32) (μ : Mem) : Prop := p1 = nI p1.toNatClampNeg ∧ p1.toNatClampNeg < 5 ∧ isN μ w 4 5 ∧ (∀ d, d < gn μ w 4 → isN μ (w + 4) d 9 ∧ isN μ (w + 5) d 30) ∧ isN μ (w + 2) p1.toNatClampNeg 3 ∧ isN μ 18 p1.toNatClampNeg 30 ∧ (gi μ 19 p1.toNatClampNeg = -9 ∨ isN μ 19 p1.toNatClampNeg 4)
def post_X1_solve (w : Nat) (p1 : Int32) (μ m : Mem) : Prop := fr [59, 60, 62, 63] μ m ∧ EX m ∧ gn m 59 2 = gn μ w 4 ∧ (∀ d, d < gn μ w 4 → gn m 62 d = fullC μ w p1.toNatClampNeg d ∧ gn m 63 d = gn μ (w + 5) d) ∧ gn m 59 5 = gn μ 18 p1.toNatClampNeg ∧ gn m 59 6 = lastC (gi μ 19 p1.toNatClampNeg) ∧ Bell 1000000000 (gn m 59 2) (gn m 62) (gn m 63) (gn m 59 5) (cC m)
def inv_X1_solve_11 (w : Nat) (p1 : Int32) (μ : Mem) (n : Nat) (l4 : Int32) (m : Mem) : Prop := ∃ i, i ≤ gn μ w 4 ∧ n = 1000 - i ∧ l4 = nI i ∧ fr [59, 62, 63] μ m ∧ gi m 59 2 = gi μ w 4 ∧ ∀ d, d < i → gi m 62 d = nI (fullC μ w p1.toNatClampNeg d) ∧ gi m 63 d = gi μ (w + 5) d
def inv_X1_solve_110 (w : Nat) (p1 : Int32) (μ : Mem) (n : Nat) (l4 : Int32) (m : Mem) : Prop := ∃ i, i ≤ gn μ 18 p1.toNatClampNeg + 1 ∧ n = gn μ 18 p1.toNatClampNeg + 1 - i ∧ l4 = nI i ∧ fr [59, 60, 62, 63] μ m ∧ EX m ∧ gn m 59 2 = gn μ w 4 ∧ (∀ d, d < gn μ w 4 → gn m 62 d = fullC μ w p1.toNatClampNeg d ∧ gn m 63 d = gn μ (w + 5) d) ∧ gn m 59 5 = gn μ 18 p1.toNatClampNeg ∧ gn m 59 6 = lastC (gi μ 19 p1.toNatClampNeg) ∧ (∀ f, f < i → BellR 1000000000 (gn m 59 2) (gn m 62) (gn m 63) (cC m) f (cC m f)) ∧ ∀ k, i * 6 ≤ k → k < 186 → gi m 60 k = 1000000000

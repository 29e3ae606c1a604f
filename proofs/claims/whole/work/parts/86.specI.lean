/-! items: what both sides share, and the class's readers of them -/
def NumR (T : Nat → Int32) (n a : Nat) (p1 p2 v : Int32) (b : Nat) : Prop := ∃ s, SkB T n a s ∧ DgB T n s b ∧ ¬ badN T s b p1 p2 ∧ v = nI (nvN T s (b - s))
def NumF (T : Nat → Int32) (n a : Nat) (p1 p2 : Int32) (s : Nat) : Prop := ∃ b, SkB T n a s ∧ DgB T n s b ∧ badN T s b p1 p2
def numP (p1 p2 : Int32) (T : Nat → Int32) (n a : Nat) (x : Int32) (m : Mem) : Prop := (∃ s, NumF T n a p1 p2 s ∧ x = -1 ∧ gi m 1 2 = nI s) ∨ (∃ b, NumR T n a p1 p2 x b ∧ 0 ≤ x ∧ gi m 1 3 = nI b ∧ b ≤ n)
def frI (w : Nat) (μ m : Mem) : Prop := fr [1, w, w + 1, w + 2, w + 3, w + 4, w + 5, w + 6] μ m ∧ f1x [2, 3, 4, 5, 6] μ m
def RI (w : Nat) (μ : Mem) : Prop := (w = 3 ∨ w = 10) ∧ RD μ ∧ gn μ 1 3 < gn μ 1 1
/-- an item of one number that is told once: its mark is cell f of the Reader, its place cell g of the house -/
def oneP (w f g : Nat) (p1 p2 : Int32) (μ : Mem) (x : Int32) (m : Mem) : Prop := frI w μ m ∧ ((x = 0 ∧ ((¬ gi μ 1 f = 0 ∧ gi m 1 2 = gi μ 1 3) ∨ (gi μ 1 f = 0 ∧ ∃ s, NumF (gi μ 2) (gn μ 1 1) (gn μ 1 3 + 1) p1 p2 s ∧ gi m 1 2 = nI s))) ∨
  (x = 1 ∧ gi μ 1 f = 0 ∧ ∃ b, NumR (gi μ 2) (gn μ 1 1) (gn μ 1 3 + 1) p1 p2 (gi m w g) b ∧ b ≤ gn μ 1 1 ∧ gi m 1 3 = nI b ∧ fr [1, w] μ m ∧ gi m 1 f = 1 ∧ f1x [2, 3, f] μ m ∧ ∀ k, k ≠ g → gi m w k = gi μ w k))
def pre_X6_readWalk (w : Nat) (μ : Mem) : Prop := RI w μ
def post_X6_readWalk (w : Nat) (μ : Mem) (x : Int32) (m : Mem) : Prop := oneP w 5 10 0 9 μ x m
def pre_X6_readNight (w : Nat) (μ : Mem) : Prop := RI w μ
def post_X6_readNight (w : Nat) (μ : Mem) (x : Int32) (m : Mem) : Prop := oneP w 6 11 1 500 μ x m
def pre_X6_readCulprit (w : Nat) (μ : Mem) : Prop := RI w μ ∧ isN μ w 7 6
def post_X6_readCulprit (w : Nat) (μ : Mem) (x : Int32) (m : Mem) : Prop := oneP w 4 9 0 (gi μ w 7 - 1) μ x m
/-- the cells of a house's rows that an item of many writes -/
def putC (c j : Nat) (v : Int32) (μ m : Mem) : Prop := ∀ k, gi m c k = if k = j then v else gi μ c k
def manP (w g : Nat) (μ m : Mem) (b : Nat) : Prop := b ≤ gn μ 1 1 ∧ gi m 1 3 = nI b ∧ f1x [2, 3] μ m ∧ gi m w g = gi μ w g + 1 ∧ ∀ k, k ≠ g → gi m w k = gi μ w k
def pre_X6_readSuspect (w : Nat) (μ : Mem) : Prop := RI w μ ∧ isN μ w 7 6
def post_X6_readSuspect (w : Nat) (μ : Mem) (x : Int32) (m : Mem) : Prop := frI w μ m ∧ ((x = 0 ∧ ((¬ gi μ w 7 < 6 ∧ gi m 1 2 = gi μ 1 3) ∨ (gi μ w 7 < 6 ∧ ∃ s, NumF (gi μ 2) (gn μ 1 1) (gn μ 1 3 + 1) 0 31 s ∧ gi m 1 2 = nI s))) ∨
  (x = 1 ∧ gi μ w 7 < 6 ∧ ∃ v b, NumR (gi μ 2) (gn μ 1 1) (gn μ 1 3 + 1) 0 31 v b ∧ manP w 7 μ m b ∧ fr [1, w, w + 6] μ m ∧ putC (w + 6) (gn μ w 7) v μ m))
def Nu2F (T : Nat → Int32) (n a : Nat) (p1 p2 q1 q2 : Int32) (s : Nat) : Prop := NumF T n a p1 p2 s ∨ ∃ v b, NumR T n a p1 p2 v b ∧ NumF T n b q1 q2 s
def pre_X6_readDoing (w : Nat) (μ : Mem) : Prop := RI w μ ∧ isN μ w 4 5
def post_X6_readDoing (w : Nat) (μ : Mem) (x : Int32) (m : Mem) : Prop := frI w μ m ∧ ((x = 0 ∧ ((¬ gi μ w 4 < 5 ∧ gi m 1 2 = gi μ 1 3) ∨ (gi μ w 4 < 5 ∧ ∃ s, Nu2F (gi μ 2) (gn μ 1 1) (gn μ 1 3 + 1) 0 9 1 30 s ∧ gi m 1 2 = nI s))) ∨
  (x = 1 ∧ gi μ w 4 < 5 ∧ ∃ v b v' b', NumR (gi μ 2) (gn μ 1 1) (gn μ 1 3 + 1) 0 9 v b ∧ NumR (gi μ 2) (gn μ 1 1) b 1 30 v' b' ∧ manP w 4 μ m b' ∧ fr [1, w, w + 4, w + 5] μ m ∧ putC (w + 4) (gn μ w 4) v μ m ∧ putC (w + 5) (gn μ w 4) v' μ m))
def Nu3F (T : Nat → Int32) (n a : Nat) (p1 p2 q1 q2 r1 r2 : Int32) (s : Nat) : Prop := NumF T n a p1 p2 s ∨ ∃ v b, NumR T n a p1 p2 v b ∧ Nu2F T n b q1 q2 r1 r2 s
def pre_X6_readRoom (w : Nat) (μ : Mem) : Prop := RI w μ ∧ isN μ w 0 5
def post_X6_readRoom (w : Nat) (μ : Mem) (x : Int32) (m : Mem) : Prop := frI w μ m ∧ ((x = 0 ∧ ((¬ gi μ w 0 < 5 ∧ gi m 1 2 = gi μ 1 3) ∨ (gi μ w 0 < 5 ∧ ∃ s, Nu3F (gi μ 2) (gn μ 1 1) (gn μ 1 3 + 1) 0 30 0 3 0 99 s ∧ gi m 1 2 = nI s))) ∨
  (x = 1 ∧ gi μ w 0 < 5 ∧ ∃ v b v' b' v2 b2, NumR (gi μ 2) (gn μ 1 1) (gn μ 1 3 + 1) 0 30 v b ∧ NumR (gi μ 2) (gn μ 1 1) b 0 3 v' b' ∧ NumR (gi μ 2) (gn μ 1 1) b' 0 99 v2 b2 ∧ manP w 0 μ m b2 ∧ fr [1, w, w + 1, w + 2, w + 3] μ m ∧ putC (w + 1) (gn μ w 0) v μ m ∧ putC (w + 2) (gn μ w 0) v' μ m ∧ putC (w + 3) (gn μ w 0) v2 μ m))

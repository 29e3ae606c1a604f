/-! items and houses: contracts -/
def agC (w : Nat) (m : Mem) (D : Dr) : Prop := gi m w 0 = D 0 0 ∧ gi m w 4 = D 0 1 ∧ gi m w 7 = D 0 2 ∧ gi m w 9 = D 0 3 ∧ gi m w 10 = D 0 4 ∧ gi m w 11 = D 0 5 ∧
  (∀ i, i < dn D 0 → gi m (w + 1) i = D 1 i ∧ gi m (w + 2) i = D 2 i ∧ gi m (w + 3) i = D 3 i) ∧ (∀ i, i < dn D 1 → gi m (w + 4) i = D 4 i ∧ gi m (w + 5) i = D 5 i) ∧ ∀ i, i < dn D 2 → gi m (w + 6) i = D 6 i
def mkC (m : Mem) (D : Dr) : Prop := gi m 1 4 = D 0 6 ∧ gi m 1 5 = D 0 7 ∧ gi m 1 6 = D 0 8
def bdC (w : Nat) (μ : Mem) (x : Int32) (m : Mem) : Prop := frI w μ m ∧ (x = 0 ∨ (x = 1 ∧ RD m)) ∧ ∀ D, okD D → agC w μ D → mkC μ D → (x = 0 ∧ ∃ f, BdF (gi μ 2) (gn μ 1 1) (gn μ 1 3) D f ∧ gi m 1 2 = nI f) ∨ (x = 1 ∧ ∃ b D', BdR (gi μ 2) (gn μ 1 1) (gn μ 1 3) D b D' ∧ gi m 1 3 = nI b ∧ agC w m D' ∧ mkC m D')
def itC (w : Nat) (μ : Mem) (x : Int32) (m : Mem) : Prop := frI w μ m ∧ (x = 0 ∨ (x = 1 ∧ RD m)) ∧ ∀ D, okD D → agC w μ D → mkC μ D → (x = 0 ∧ ∃ f, ItF (gi μ 2) (gn μ 1 1) (gn μ 1 3) D f ∧ gi m 1 2 = nI f) ∨ (x = 1 ∧ ∃ b D', ItR (gi μ 2) (gn μ 1 1) (gn μ 1 3) D b D' ∧ gi m 1 3 = nI b ∧ agC w m D' ∧ mkC m D')
def pre_X6_readItem (w : Nat) (μ : Mem) : Prop := RI w μ ∧ isN μ w 0 5 ∧ isN μ w 4 5 ∧ isN μ w 7 6
def post_X6_readItem (w : Nat) (μ : Mem) (x : Int32) (m : Mem) : Prop := itC w μ x m
def pre_X6_readInto (w : Nat) (μ : Mem) : Prop := isN μ 1 1 200
def post_X6_readInto (w : Nat) (μ : Mem) (x : Int32) (m : Mem) : Prop := frI w μ m ∧ ((x = -1 ∧ ∃ f, RdF (gi μ 2) (gn μ 1 1) f ∧ gi m 1 2 = nI f) ∨ (∃ k D, k ≤ 200 ∧ x = nI k ∧ RdR (gi μ 2) (gn μ 1 1) k D ∧ okD D ∧ agC w m D))
def inv_X6_readInto_32 (w : Nat) (μ : Mem) (n : Nat) (l2 l3 : Int32) (m : Mem) : Prop := frI w μ m ∧ ∃ k a s D, k ≤ 200 ∧ n = 200 - k ∧ l2 = nI k ∧ l3 = nI k ∧ Pf (gi μ 2) (gn μ 1 1) k a D ∧ SkB (gi μ 2) (gn μ 1 1) a s ∧ gi m 1 3 = nI s ∧ okD D ∧ agC w m D ∧ mkC m D
def pre_X8_house (μ : Mem) : Prop := isN μ 1 1 200 ∧ ((gp μ 1 = 3 ∧ gp μ 2 = 10) ∨ (gp μ 1 = 10 ∧ gp μ 2 = 3))
def begC (m : Mem) (h : Nat) : Prop := gi m 17 0 = -9 ∧ gi m 17 1 = -9 ∧ gi m 17 2 = 0 ∧ gi m 17 3 = 0 ∧ gi m 17 4 = 0 ∧ (∀ j, j < 5 → gi m 18 j = gi m (h + 1) j) ∧ ∀ j, j < 5 → gi m 19 j = -9
def post_X8_house (μ : Mem) (x : Int32) (m : Mem) : Prop := (∃ f, RdF (gi μ 2) (gn μ 1 1) f ∧ x = -10 - nI f ∧ frI (gp μ 2) μ m) ∨
  (∃ k D, RdR (gi μ 2) (gn μ 1 1) k D ∧ okD D ∧ x = nI k ∧ gp m 1 = gp μ 2 ∧ gp m 2 = gp μ 1 ∧ m.2.1 = μ.2.1 ∧ agC (gp μ 2) m D ∧ gi m 1 1 = 0 ∧ begC m (gp μ 2) ∧ gi m 20 1 = gi μ 20 1 ∧ gi m 20 2 = 0 ∧ gi m 0 6 = 0 ∧ gi m 71 2 = 0 ∧
    (∀ k, gi m 2 k = gi μ 2 k) ∧ ∀ c, 75 ≤ c → ∀ k, gi m c k = gi μ c k)

/-! the reference's items and house: contracts -/
def agM (m : Mem) (D : Dr) : Prop := (∀ k, k < 6 → gi m 77 (6 + k) = D 0 k) ∧ (∀ i, i < dn D 0 → gi m 78 i = D 1 i ∧ gi m 79 (5 + i) = D 2 i ∧ gi m 80 (5 + i) = D 3 i) ∧ (∀ i, i < dn D 1 → gi m 81 (5 + i) = D 4 i ∧ gi m 82 (5 + i) = D 5 i) ∧ (∀ i, i < dn D 2 → gi m 83 (6 + i) = D 6 i) ∧
  ∃ t, t < 8 ∧ gi m 75 10 = nI t ∧ (nI t &&& 1 = 0 ↔ D 0 6 = 0) ∧ (nI t &&& 2 = 0 ↔ D 0 7 = 0) ∧ (nI t &&& 4 = 0 ↔ D 0 8 = 0)
def frM (μ m : Mem) : Prop := fr [75, 77, 78, 79, 80, 81, 82, 83] μ m ∧ f75x [0, 4, 5, 6, 7, 8, 10] μ m ∧ (∀ k, k < 6 → gi m 77 k = gi μ 77 k ∧ gi m 83 k = gi μ 83 k) ∧ ∀ k, k < 5 → gi m 79 k = gi μ 79 k ∧ gi m 80 k = gi μ 80 k ∧ gi m 81 k = gi μ 81 k ∧ gi m 82 k = gi μ 82 k
def pre_X9_readsItem (p1 : Int32) (μ : Mem) : Prop := RM μ ∧ gi μ 75 8 < 0 ∧ isN μ 77 6 5 ∧ isN μ 77 7 5 ∧ isN μ 77 8 6 ∧ mayF μ p1 ∧ isLetF p1
def post_X9_readsItem (p1 : Int32) (μ m : Mem) : Prop := RM m ∧ frM μ m ∧ ∀ (s : Nat) (D : Dr), okD D → agM μ D → TokAt (gi μ 76) (gn μ 75 3) (s + 1) μ → gi μ 76 s = p1 → (∃ f, BdF (gi μ 76) (gn μ 75 3) s D f ∧ gi m 75 8 = nI f) ∨ (∃ b D', BdR (gi μ 76) (gn μ 75 3) s D b D' ∧ gi m 75 8 = gi μ 75 8 ∧ agM m D' ∧ TokAt (gi μ 76) (gn μ 75 3) b m)
def pre_X9_house (μ : Mem) : Prop := isN μ 75 3 200 ∧ ∀ j, j < gn μ 75 3 → 0 ≤ gi μ 76 j
def agS (m : Mem) (D : Dr) : Prop := (∀ k, k < 6 → gi m 77 k = D 0 k) ∧ (∀ i, i < dn D 0 → gi m 79 i = D 2 i ∧ gi m 80 i = D 3 i) ∧ (∀ i, i < dn D 1 → gi m 81 i = D 4 i ∧ gi m 82 i = D 5 i) ∧ ∀ i, i < dn D 2 → gi m 83 i = D 6 i
def begM (m : Mem) (D : Dr) : Prop := (∀ k, k < 5 → gi m 84 k = 0) ∧ (∀ i, i < dn D 0 → gi m 84 (5 + i) = D 1 i) ∧ ∀ k, k < 5 → gi m 84 (10 + k) = 0
def post_X9_house (μ : Mem) (x : Int32) (m : Mem) : Prop := (∃ f, RdF (gi μ 76) (gn μ 75 3) f ∧ x = -10 - nI f ∧ frM μ m) ∨
  (∃ k D, RdR (gi μ 76) (gn μ 75 3) k D ∧ okD D ∧ x = nI k ∧ agS m D ∧ begM m D ∧ gi m 75 3 = 0 ∧ gi m 75 24 = 0 ∧ gi m 75 21 = 0 ∧ gi m 86 0 = 0 ∧ gi m 86 1 = 0 ∧ fr [75, 77, 78, 79, 80, 81, 82, 83, 84, 86] μ m)
def inv_X9_house_25 (μ : Mem) (n : Nat) (l1 : Int32) (m : Mem) : Prop := RM m ∧ frM μ m ∧ ((∃ f, RdF (gi μ 76) (gn μ 75 3) f ∧ f ≤ 200 ∧ gi m 75 8 = nI f ∧ n = 0) ∨ (gi m 75 8 < 0 ∧ ∃ k a D, k ≤ 200 ∧ n = 1000 - k ∧ l1 = nI k ∧ Pf (gi μ 76) (gn μ 75 3) k a D ∧ okD D ∧ agM m D ∧ TokAt (gi μ 76) (gn μ 75 3) a m))

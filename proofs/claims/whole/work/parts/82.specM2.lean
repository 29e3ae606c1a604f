/-! the reference's reading: contracts -/
def f75x (ks : List Nat) (μ m : Mem) : Prop := ∀ k, k ∉ ks → gi m 75 k = gi μ 75 k
def RM (μ : Mem) : Prop := isN μ 75 3 200 ∧ isN μ 75 4 200 ∧ gn μ 75 4 ≤ gn μ 75 3 ∧ ∀ j, j < gn μ 75 3 → 0 ≤ gi μ 76 j
def okQ (T : Nat → Int32) (a b : Nat) : Prop := nvN T a (b - a) ≤ 500 ∧ ¬ (1 < b - a ∧ T a = 48)
/-- the token at a, and where it ends -/
def tokM (T : Nat → Int32) (n a : Nat) (m : Mem) : Prop := (a = n ∧ gi m 75 5 = 0 ∧ gi m 75 4 = nI a) ∨ (a < n ∧ ¬ isD (T a) ∧ gi m 75 4 = nI (a + 1) ∧ gi m 75 7 = T a ∧ ((T a = 59 ∧ gi m 75 5 = 3) ∨ (¬ T a = 59 ∧ isLetF (T a) ∧ gi m 75 5 = 1) ∨ (¬ T a = 59 ∧ ¬ isLetF (T a) ∧ gi m 75 5 = 4))) ∨ (a < n ∧ isD (T a) ∧ ∃ b, DgB T n a b ∧ gi m 75 4 = nI b ∧ ((okQ T a b ∧ gi m 75 5 = 2 ∧ gi m 75 7 = nI (nvN T a (b - a))) ∨ (¬ okQ T a b ∧ gi m 75 5 = 4)))
def pre_X9_advances (μ : Mem) : Prop := RM μ
def post_X9_advances (μ m : Mem) : Prop := fr [75] μ m ∧ f75x [4, 5, 6, 7] μ m ∧ ∃ a, SkB (gi μ 76) (gn μ 75 3) (gn μ 75 4) a ∧ gi m 75 6 = nI a ∧ tokM (gi μ 76) (gn μ 75 3) a m
def inv_X9_advances_0 (μ : Mem) (n : Nat) (m : Mem) : Prop := ∃ a, n = 1000 + (gn μ 75 3 - a) ∧ gi m 75 4 = nI a ∧ gn μ 75 4 ≤ a ∧ a ≤ gn μ 75 3 ∧ (∀ j, gn μ 75 4 ≤ j → j < a → gi μ 76 j = 32) ∧ fr [75] μ m ∧ f75x [4, 5, 6, 7] μ m
def inv_X9_advances_71 (μ : Mem) (n : Nat) (l1 : Int32) (m : Mem) : Prop := ∃ a b v, n = gn μ 75 3 - b ∧ SkB (gi μ 76) (gn μ 75 3) (gn μ 75 4) a ∧ a < gn μ 75 3 ∧ isD (gi μ 76 a) ∧ l1 = gi μ 76 a ∧ a ≤ b ∧ b ≤ gn μ 75 3 ∧ (∀ j, a ≤ j → j < b → isD (gi μ 76 j)) ∧ gi m 75 4 = nI b ∧ gi m 75 6 = nI a ∧ gi m 75 7 = nI v ∧ v ≤ 5009 ∧ (nvN (gi μ 76) a (b - a) ≤ 500 → v = nvN (gi μ 76) a (b - a)) ∧ (500 < nvN (gi μ 76) a (b - a) → 500 < v) ∧ fr [75] μ m ∧ f75x [4, 5, 6, 7] μ m

/-! reading letters: what both sides share, and the class's Reader -/
def SkB (T : Nat → Int32) (n a b : Nat) : Prop := a ≤ b ∧ b ≤ n ∧ (∀ j, a ≤ j → j < b → T j = 32) ∧ (b = n ∨ T b ≠ 32)
def isD (x : Int32) : Prop := 48 ≤ x ∧ x ≤ 57
def DgB (T : Nat → Int32) (n a b : Nat) : Prop := a ≤ b ∧ b ≤ n ∧ (∀ j, a ≤ j → j < b → isD (T j)) ∧ (b = n ∨ ¬ isD (T b))
/-- the number that k letters from a on tell -/
def nvN (T : Nat → Int32) (a : Nat) : Nat → Nat
  | 0 => 0
  | k + 1 => 10 * nvN T a k + ((T (a + k)).toNatClampNeg - 48)
def RD (μ : Mem) : Prop := isN μ 1 1 200 ∧ isN μ 1 3 200 ∧ gn μ 1 3 ≤ gn μ 1 1
def f1x (ks : List Nat) (μ m : Mem) : Prop := ∀ k, k ∉ ks → gi m 1 k = gi μ 1 k
def pre_X6_skipBlanks (μ : Mem) : Prop := RD μ
def post_X6_skipBlanks (μ m : Mem) : Prop := fr [1] μ m ∧ f1x [3] μ m ∧ ∃ b, gi m 1 3 = nI b ∧ SkB (gi μ 2) (gn μ 1 1) (gn μ 1 3) b
def inv_X6_skipBlanks_5 (μ : Mem) (n : Nat) (l1 : Int32) (m : Mem) : Prop := ∃ b, n = gn μ 1 1 - b ∧ l1 = nI b ∧ gi m 1 3 = nI b ∧ fr [1] μ m ∧ f1x [3] μ m ∧ gn μ 1 3 ≤ b ∧ b ≤ gn μ 1 1 ∧ ∀ j, gn μ 1 3 ≤ j → j < b → gi μ 2 j = 32
def badN (T : Nat → Int32) (a b : Nat) (p1 p2 : Int32) : Prop := b = a ∨ (1 < b - a ∧ T a = 48) ∨ 1000 ≤ nvN T a (b - a) ∨ nI (nvN T a (b - a)) < p1 ∨ ¬ nI (nvN T a (b - a)) ≤ p2
def pre_X6_readNumber (p1 p2 : Int32) (μ : Mem) : Prop := RD μ ∧ p2 < 1000
def post_X6_readNumber (p1 p2 : Int32) (μ : Mem) (x : Int32) (m : Mem) : Prop := fr [1] μ m ∧ f1x [2, 3] μ m ∧ ∃ a b, SkB (gi μ 2) (gn μ 1 1) (gn μ 1 3) a ∧ DgB (gi μ 2) (gn μ 1 1) a b ∧ gi m 1 3 = nI b ∧ ((badN (gi μ 2) a b p1 p2 ∧ x = -1 ∧ gi m 1 2 = nI a) ∨ (¬ badN (gi μ 2) a b p1 p2 ∧ x = nI (nvN (gi μ 2) a (b - a)) ∧ gi m 1 2 = gi μ 1 2))
def inv_X6_readNumber_15 (p1 p2 : Int32) (μ : Mem) (n : Nat) (l3 l4 l5 : Int32) (m : Mem) : Prop := ∃ a b, n = gn μ 1 1 - b ∧ SkB (gi μ 2) (gn μ 1 1) (gn μ 1 3) a ∧ a ≤ b ∧ b ≤ gn μ 1 1 ∧ (∀ j, a ≤ j → j < b → isD (gi μ 2 j)) ∧ l3 = nI a ∧ l5 = nI b ∧ gi m 1 3 = nI b ∧ l4 = nI (min (nvN (gi μ 2) a (b - a)) 1000) ∧ fr [1] μ m ∧ f1x [3] μ m
def pre_X6_readEnd (μ : Mem) : Prop := RD μ
def post_X6_readEnd (μ : Mem) (x : Int32) (m : Mem) : Prop := fr [1] μ m ∧ f1x [2, 3] μ m ∧ ∃ a, SkB (gi μ 2) (gn μ 1 1) (gn μ 1 3) a ∧ ((a < gn μ 1 1 ∧ gi μ 2 a = 59 ∧ x = 1 ∧ gi m 1 3 = nI (a + 1) ∧ gi m 1 2 = gi μ 1 2) ∨ (¬ (a < gn μ 1 1 ∧ gi μ 2 a = 59) ∧ x = 0 ∧ gi m 1 3 = nI a ∧ gi m 1 2 = nI a))

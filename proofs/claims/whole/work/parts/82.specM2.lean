/-! the reference's reading: contracts -/
def f75x (ks : List Nat) (μ m : Mem) : Prop := ∀ k, k ∉ ks → gi m 75 k = gi μ 75 k
def RM (μ : Mem) : Prop := isN μ 75 3 200 ∧ isN μ 75 4 200 ∧ gn μ 75 4 ≤ gn μ 75 3 ∧ ∀ j, j < gn μ 75 3 → 0 ≤ gi μ 76 j
def okQ (T : Nat → Int32) (a b : Nat) : Prop := nvN T a (b - a) ≤ 500 ∧ ¬ (1 < b - a ∧ T a = 48)
/-- the token at a, and where it ends -/
def tokM (T : Nat → Int32) (n a : Nat) (m : Mem) : Prop := (a = n ∧ gi m 75 5 = 0 ∧ gi m 75 4 = nI a) ∨ (a < n ∧ ¬ isD (T a) ∧ gi m 75 4 = nI (a + 1) ∧ gi m 75 7 = T a ∧ ((T a = 59 ∧ gi m 75 5 = 3) ∨ (¬ T a = 59 ∧ isLetF (T a) ∧ gi m 75 5 = 1) ∨ (¬ T a = 59 ∧ ¬ isLetF (T a) ∧ gi m 75 5 = 4))) ∨ (a < n ∧ isD (T a) ∧ ∃ b, DgB T n a b ∧ gi m 75 4 = nI b ∧ ((okQ T a b ∧ gi m 75 5 = 2 ∧ gi m 75 7 = nI (nvN T a (b - a))) ∨ (¬ okQ T a b ∧ gi m 75 5 = 4)))
def pre_X9_advances (μ : Mem) : Prop := RM μ
def post_X9_advances (μ m : Mem) : Prop := fr [75] μ m ∧ f75x [4, 5, 6, 7] μ m ∧ ∃ a, SkB (gi μ 76) (gn μ 75 3) (gn μ 75 4) a ∧ gi m 75 6 = nI a ∧ tokM (gi μ 76) (gn μ 75 3) a m
def inv_X9_advances_0 (μ : Mem) (n : Nat) (m : Mem) : Prop := ∃ a, n = 1000 + (gn μ 75 3 - a) ∧ gi m 75 4 = nI a ∧ gn μ 75 4 ≤ a ∧ a ≤ gn μ 75 3 ∧ (∀ j, gn μ 75 4 ≤ j → j < a → gi μ 76 j = 32) ∧ fr [75] μ m ∧ f75x [4, 5, 6, 7] μ m
def inv_X9_advances_71 (μ : Mem) (n : Nat) (l1 : Int32) (m : Mem) : Prop := ∃ a b v, n = gn μ 75 3 - b ∧ SkB (gi μ 76) (gn μ 75 3) (gn μ 75 4) a ∧ a < gn μ 75 3 ∧ isD (gi μ 76 a) ∧ l1 = gi μ 76 a ∧ a ≤ b ∧ b ≤ gn μ 75 3 ∧ (∀ j, a ≤ j → j < b → isD (gi μ 76 j)) ∧ gi m 75 4 = nI b ∧ gi m 75 6 = nI a ∧ gi m 75 7 = nI v ∧ v ≤ 5009 ∧ (nvN (gi μ 76) a (b - a) ≤ 500 → v = nvN (gi μ 76) a (b - a)) ∧ (500 < nvN (gi μ 76) a (b - a) → 500 < v) ∧ fr [75] μ m ∧ f75x [4, 5, 6, 7] μ m
def pre_X9_takes (p1 : Int32) (μ : Mem) : Prop := RM μ
def post_X9_takes (p1 : Int32) (μ : Mem) (x : Int32) (m : Mem) : Prop := (¬ gi μ 75 8 < 0 → x = 0 ∧ m = μ) ∧ (gi μ 75 8 < 0 → (p1 = 0 → x = 0 ∧ m = ui μ 75 8 (gi μ 75 6)) ∧ (¬ p1 = 0 → x = gi μ 75 7 ∧ post_X9_advances μ m))
def okV (μ : Mem) (p1 p2 : Int32) : Prop := gi μ 75 5 = 2 ∧ ¬ (gi μ 75 7 < p1 ∨ p2 < gi μ 75 7)
def pre_X9_number (p1 p2 : Int32) (μ : Mem) : Prop := RM μ
def post_X9_number (p1 p2 : Int32) (μ : Mem) (x : Int32) (m : Mem) : Prop := (okV μ p1 p2 → post_X9_takes 1 μ x m) ∧ (¬ okV μ p1 p2 → post_X9_takes 0 μ x m)
def pre_X9_mayBegin (μ : Mem) : Prop := True
def mayF (μ : Mem) (c : Int32) : Prop := if c = 114 then ¬ 5 ≤ gi μ 77 6 else if c = 100 then ¬ 5 ≤ gi μ 77 7 else if c = 115 then ¬ 6 ≤ gi μ 77 8 else (gi μ 75 10) &&& bitF c = 0
def post_X9_mayBegin (μ : Mem) (x : Int32) (m : Mem) : Prop := ((mayF μ (gi μ 75 7) → x = 1) ∧ (¬ mayF μ (gi μ 75 7) → x = 0)) ∧ m = μ
def pre_X9_begins (μ : Mem) : Prop := True
def post_X9_begins (μ m : Mem) : Prop := fr [75, 77] μ m ∧ (∀ k, k ≠ 10 → gi m 75 k = gi μ 75 k) ∧ gi m 75 10 = 0 ∧ (∀ k, k < 6 → gi m 77 k = gi μ 77 k) ∧ gi m 77 6 = 0 ∧ gi m 77 7 = 0 ∧ gi m 77 8 = 0 ∧ gi m 77 9 = 0 ∧ gi m 77 10 = 1 ∧ gi m 77 11 = 120
/-- the first i cells of c are those that stood d behind -/
def shF (c d i : Nat) (μ m : Mem) : Prop := ∀ k, gi m c k = if k < i then gi μ c (d + k) else gi μ c k
def pre_X9_settles (μ : Mem) : Prop := True
def s84 (i : Nat) (μ m : Mem) : Prop := ∀ k, k < 15 → gi m 84 k = if 5 ≤ k ∧ k < 5 + i ∧ nI (k - 5) < gi μ 77 6 then gi μ 78 (k - 5) else 0
def post_X9_settles (μ m : Mem) : Prop := fr [75, 77, 79, 80, 81, 82, 83, 84, 86] μ m ∧ shF 77 6 6 μ m ∧ shF 83 6 6 μ m ∧ shF 79 5 5 μ m ∧ shF 80 5 5 μ m ∧ shF 81 5 5 μ m ∧ shF 82 5 5 μ m ∧ s84 5 μ m ∧ gi m 75 3 = 0 ∧ gi m 75 24 = 0 ∧ gi m 75 21 = 0 ∧ (∀ k, k ≠ 3 → k ≠ 24 → k ≠ 21 → gi m 75 k = gi μ 75 k) ∧ gi m 86 0 = 0 ∧ gi m 86 1 = 0
def inv_X9_settles_2 (μ : Mem) (n : Nat) (l1 : Int32) (m : Mem) : Prop := ∃ i, i ≤ 6 ∧ n = 200 - i ∧ l1 = nI i ∧ fr [77, 83] μ m ∧ shF 77 6 i μ m ∧ shF 83 6 i μ m
def inv_X9_settles_46 (μ : Mem) (n : Nat) (l1 : Int32) (m : Mem) : Prop := ∃ i, i ≤ 15 ∧ n = 100 - i ∧ l1 = nI i ∧ fr [77, 83, 84] μ m ∧ shF 77 6 6 μ m ∧ shF 83 6 6 μ m ∧ ∀ k, k < i → gi m 84 k = 0
def inv_X9_settles_67 (μ : Mem) (n : Nat) (l1 : Int32) (m : Mem) : Prop := ∃ i, i ≤ 5 ∧ n = 10 - i ∧ l1 = nI i ∧ fr [77, 79, 80, 81, 82, 83, 84] μ m ∧ shF 77 6 6 μ m ∧ shF 83 6 6 μ m ∧ shF 79 5 i μ m ∧ shF 80 5 i μ m ∧ shF 81 5 i μ m ∧ shF 82 5 i μ m ∧ s84 i μ m

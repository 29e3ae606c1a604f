/-! the leaves' contracts: what must hold before, what holds behind -/
def fr (cs : List Nat) (μ m : Mem) : Prop := (∀ c, c ∉ cs → ∀ k, gi m c k = gi μ c k) ∧ m.2 = μ.2
def pre_X2_hasRoom (w : Nat) (p1 : Int32) (μ : Mem) : Prop := True
def post_X2_hasRoom (w : Nat) (p1 : Int32) (μ : Mem) (x : Int32) (m : Mem) : Prop := x = (if p1 < 0 ∨ gi μ w 0 ≤ p1 then 0 else 1) ∧ m = μ
def pre_X2_hasDoing (w : Nat) (p1 : Int32) (μ : Mem) : Prop := True
def post_X2_hasDoing (w : Nat) (p1 : Int32) (μ : Mem) (x : Int32) (m : Mem) : Prop := x = (if p1 < 0 ∨ gi μ w 4 ≤ p1 then 0 else 1) ∧ m = μ
def pre_X2_fullLoss (w : Nat) (p1 p2 : Int32) (μ : Mem) : Prop := vp_in p1 5 ∧ vp_in p2 5
def post_X2_fullLoss (w : Nat) (p1 p2 : Int32) (μ : Mem) (x : Int32) (m : Mem) : Prop := x = gi μ (w + 4) p2.toNatClampNeg * gi μ (w + 2) p1.toNatClampNeg ∧ m = μ
def absI (x : Int32) : Int32 := if 0 ≤ x then x else 0 - x
def pre_X2_walkBetween (w : Nat) (p1 p2 : Int32) (μ : Mem) : Prop := True
def post_X2_walkBetween (w : Nat) (p1 p2 : Int32) (μ : Mem) (x : Int32) (m : Mem) : Prop := x = gi μ w 10 * absI (p2 - (if p1 = -9 then 0 else p1)) ∧ m = μ
def pre_X2_tellNothing (w : Nat) (μ : Mem) : Prop := True
def post_X2_tellNothing (w : Nat) (μ : Mem) (m : Mem) : Prop := m = ui (ui (ui (ui (ui (ui μ w 0 0) w 4 0) w 7 0) w 9 0) w 10 1) w 11 120
def pre_X8_lossOf (p1 p2 : Int32) (μ : Mem) : Prop := True
def post_X8_lossOf (p1 p2 : Int32) (μ : Mem) (x : Int32) (m : Mem) : Prop := x = (if p2 = 0 then p1 else p1 / 2) ∧ m = μ
def pre_X7_isSolved (p1 : Int32) (μ : Mem) : Prop := True
def post_X7_isSolved (p1 : Int32) (μ : Mem) (x : Int32) (m : Mem) : Prop := x = (if (gi μ 17 3 >>> (p1 &&& 31)) &&& 1 = 1 then 1 else 0) ∧ m = μ
def pre_X5_lose (μ : Mem) : Prop := True
def post_X5_lose (μ m : Mem) : Prop := m = ui μ 20 2 0
def pre_X6_isDigit (p1 : Int32) (μ : Mem) : Prop := True
def post_X6_isDigit (p1 : Int32) (μ : Mem) (x : Int32) (m : Mem) : Prop := x = (if p1 < 48 ∨ 57 < p1 then 0 else 1) ∧ m = μ
def pre_X6_failsAt (p1 : Int32) (μ : Mem) : Prop := True
def post_X6_failsAt (p1 : Int32) (μ : Mem) (x : Int32) (m : Mem) : Prop := x = 0 ∧ m = ui μ 1 2 p1
def pre_X1_indexOf (p1 p2 : Int32) (μ : Mem) : Prop := True
def post_X1_indexOf (p1 p2 : Int32) (μ : Mem) (x : Int32) (m : Mem) : Prop := x = p1 * 6 + p2 ∧ m = μ
def bitsF (x : Int32) : Int32 :=
  let a := x - ((x.toUInt32 >>> (Int32.toUInt32 1 &&& Int32.toUInt32 31)).toInt32 &&& 1431655765)
  let b := (a &&& 858993459) + ((a.toUInt32 >>> (Int32.toUInt32 2 &&& Int32.toUInt32 31)).toInt32 &&& 858993459)
  let c := (b + (b.toUInt32 >>> (Int32.toUInt32 4 &&& Int32.toUInt32 31)).toInt32) &&& 252645135
  let d := c + (c.toUInt32 >>> (Int32.toUInt32 8 &&& Int32.toUInt32 31)).toInt32
  let e := d + (d.toUInt32 >>> (Int32.toUInt32 16 &&& Int32.toUInt32 31)).toInt32
  e &&& 63
def pre_J6_bitCount_0f7a4 (p1 : Int32) (μ : Mem) : Prop := True
def post_J6_bitCount_0f7a4 (p1 : Int32) (μ : Mem) (x : Int32) (m : Mem) : Prop := x = bitsF p1 ∧ m = μ
def pre_J7_fill_53178 (a na : Nat) (p1 : Int32) (μ : Mem) : Prop := na < 1000
def post_J7_fill_53178 (a na : Nat) (p1 : Int32) (μ : Mem) (m : Mem) : Prop := fr [a] μ m ∧ ∀ j, j < na → gi m a j = p1
def inv_J7_fill_53178_5 (a na : Nat) (p1 : Int32) (μ : Mem) (n : Nat) (l2 l3 : Int32) (m : Mem) : Prop := ∃ i, i ≤ na ∧ n = na - i ∧ l2 = nI i ∧ l3 = nI na ∧ fr [a] μ m ∧ ∀ j, j < i → gi m a j = p1

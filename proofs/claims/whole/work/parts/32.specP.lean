/-! the plain public methods of both: contracts, in mirrored words -/
def hsOK (μ : Mem) : Prop := gp μ 1 = 3 ∨ gp μ 1 = 10
def decI (k : Int32) : Int32 := if k = 0 then -9 else k - 1
def pre_X6_add (p1 : Int32) (μ : Mem) : Prop := isN μ 1 1 199
def post_X6_add (p1 : Int32) (μ m : Mem) : Prop := m = ui (ui μ 2 (gn μ 1 1) p1) 1 1 (gi μ 1 1 + 1)
def pre_X8_type (p1 : Int32) (μ : Mem) : Prop := isN μ 1 1 200
def post_X8_type (p1 : Int32) (μ : Mem) (x : Int32) (m : Mem) : Prop := if p1 < 0 ∨ 255 < p1 then x = -1 ∧ m = μ else if gn μ 1 1 = 200 then x = -3 ∧ m = μ else x = gi μ 1 1 + 1 ∧ m = ui (ui μ 2 (gn μ 1 1) p1) 1 1 (gi μ 1 1 + 1)
def pre_X9_type (p1 : Int32) (μ : Mem) : Prop := isN μ 75 3 200
def post_X9_type (p1 : Int32) (μ : Mem) (x : Int32) (m : Mem) : Prop := if p1 < 0 ∨ 255 < p1 then x = -1 ∧ m = ui μ 75 0 0 else if gn μ 75 3 = 200 then x = -3 ∧ m = ui μ 75 0 0 else x = gi μ 75 3 + 1 ∧ m = ui (ui (ui μ 75 0 0) 76 (gn μ 75 3) p1) 75 3 (gi μ 75 3 + 1)
def pre_X8_clear (μ : Mem) : Prop := True
def post_X8_clear (μ : Mem) (x : Int32) (m : Mem) : Prop := x = gi μ 1 1 ∧ m = ui μ 1 1 0
def pre_X9_clear (μ : Mem) : Prop := True
def post_X9_clear (μ : Mem) (x : Int32) (m : Mem) : Prop := x = gi μ 75 3 ∧ m = ui (ui μ 75 0 0) 75 3 0
def roomA (f t w s l what : Int32) : Int32 := if what = 0 then f else if what = 1 then t else if what = 2 then w else if what = 3 then s else if what = 4 then l else -1000000
def pre_X8_room (p1 p2 : Int32) (μ : Mem) : Prop := hsOK μ ∧ isN μ (gp μ 1) 0 5
def post_X8_room (p1 p2 : Int32) (μ : Mem) (x : Int32) (m : Mem) : Prop := x = (if p1 < 0 ∨ gi μ (gp μ 1) 0 ≤ p1 then -1000000 else roomA (gi μ 18 p1.toNatClampNeg) (gi μ (gp μ 1 + 2) p1.toNatClampNeg) (gi μ (gp μ 1 + 3) p1.toNatClampNeg) (if slvI (gi μ 17 3) p1 = 1 then 1 else 0) (gi μ 19 p1.toNatClampNeg) p2) ∧ m = μ
def pre_X9_room (p1 p2 : Int32) (μ : Mem) : Prop := isN μ 77 0 5
def post_X9_room (p1 p2 : Int32) (μ : Mem) (x : Int32) (m : Mem) : Prop := x = (if p1 < 0 ∨ gi μ 77 0 ≤ p1 then -1000000 else roomA (gi μ 84 (5 + p1.toNatClampNeg)) (gi μ 79 p1.toNatClampNeg) (gi μ 80 p1.toNatClampNeg) (if slvI (gi μ 84 3) p1 = 1 then 1 else 0) (decI (gi μ 84 (10 + p1.toNatClampNeg))) p2) ∧ m = ui μ 75 0 0
def doingA (a b what : Int32) : Int32 := if what = 0 then a else if what = 1 then b else -1
def pre_X8_doing (p1 p2 : Int32) (μ : Mem) : Prop := hsOK μ ∧ isN μ (gp μ 1) 4 5
def post_X8_doing (p1 p2 : Int32) (μ : Mem) (x : Int32) (m : Mem) : Prop := x = (if p1 < 0 ∨ gi μ (gp μ 1) 4 ≤ p1 then -1 else doingA (gi μ (gp μ 1 + 4) p1.toNatClampNeg) (gi μ (gp μ 1 + 5) p1.toNatClampNeg) p2) ∧ m = μ
def pre_X9_doing (p1 p2 : Int32) (μ : Mem) : Prop := isN μ 77 1 5
def post_X9_doing (p1 p2 : Int32) (μ : Mem) (x : Int32) (m : Mem) : Prop := x = (if p1 < 0 ∨ gi μ 77 1 ≤ p1 then -1 else doingA (gi μ 81 p1.toNatClampNeg) (gi μ 82 p1.toNatClampNeg) p2) ∧ m = ui μ 75 0 0
def pre_X8_suspect (p1 : Int32) (μ : Mem) : Prop := hsOK μ ∧ isN μ (gp μ 1) 7 6
def post_X8_suspect (p1 : Int32) (μ : Mem) (x : Int32) (m : Mem) : Prop := x = (if p1 < 0 ∨ gi μ (gp μ 1) 7 ≤ p1 then -1 else gi μ (gp μ 1 + 6) p1.toNatClampNeg) ∧ m = μ
def pre_X9_suspect (p1 : Int32) (μ : Mem) : Prop := isN μ 77 2 6
def post_X9_suspect (p1 : Int32) (μ : Mem) (x : Int32) (m : Mem) : Prop := x = (if p1 < 0 ∨ gi μ 77 2 ≤ p1 then -1 else gi μ 83 p1.toNatClampNeg) ∧ m = ui μ 75 0 0
def nowA (a b c d e f g h what : Int32) : Int32 := if what = 0 then a else if what = 1 then b else if what = 2 then c else if what = 3 then d else if what = 4 then e else if what = 5 then f else if what = 6 then g else if what = 7 then h else -1
def pre_X8_now (p1 : Int32) (μ : Mem) : Prop := hsOK μ ∧ isN μ (gp μ 1) 0 5 ∧ isN μ (gp μ 1) 7 6 ∧ isN μ (gp μ 1) 9 5
def post_X8_now (p1 : Int32) (μ : Mem) (x : Int32) (m : Mem) : Prop := x = nowA (gi μ 17 0) (gi μ 17 1) (gi μ 17 2) (gi μ 17 3) (earnC μ (gp μ 1)) (gi μ 17 4) (leftC μ (gp μ 1) (gi μ 17 4)) (gi μ 20 2) p1 ∧ m = μ
def pre_X9_now (p1 : Int32) (μ : Mem) : Prop := isN μ 77 0 5 ∧ isN μ 77 2 6 ∧ isN μ 77 3 5
def post_X9_now (p1 : Int32) (μ : Mem) (x : Int32) (m : Mem) : Prop := x = nowA (decI (gi μ 84 0)) (decI (gi μ 84 1)) (gi μ 84 2) (gi μ 84 3) (earnM μ) (gi μ 84 4) (leftM μ) (gi μ 75 21) p1 ∧ m = ui μ 75 0 0
/-- the past of m has the scene of μ on top -/
def remP (μ m : Mem) : Prop := cpS (22 + 3 * gn μ 20 1) 17 μ m ∧ gi m 20 1 = nI ((gn μ 20 1 + 1) % 10) ∧ gi m 20 2 = nI (min (gn μ 20 2 + 1) 10)
def remF (μ : Mem) : List Nat := [20, 22 + 3 * gn μ 20 1, 22 + 3 * gn μ 20 1 + 1, 22 + 3 * gn μ 20 1 + 2]
def walkC (μ : Mem) (r : Int32) : Int32 := gi μ (gp μ 1) 10 * absI (r - (if gi μ 17 1 = -9 then 0 else gi μ 17 1))
def pre_X8_goes (p1 : Int32) (μ : Mem) : Prop := hsOK μ ∧ isN μ 20 1 9 ∧ isN μ 20 2 10
def post_X8_goes (p1 : Int32) (μ : Mem) (x : Int32) (m : Mem) : Prop := if p1 < 0 ∨ gi μ (gp μ 1) 0 ≤ p1 then x = -1 ∧ m = μ else if slvI (gi μ 17 3) p1 = 1 ∨ gi μ 17 0 = p1 ∨ 9999 < gi μ 17 2 + walkC μ p1 then x = -2 ∧ m = μ else
  x = walkC μ p1 ∧ fr (17 :: remF μ) μ m ∧ remP μ m ∧ gi m 17 0 = p1 ∧ gi m 17 1 = p1 ∧ gi m 17 2 = gi μ 17 2 + walkC μ p1 ∧ gi m 17 3 = gi μ 17 3 ∧ gi m 17 4 = gi μ 17 4
def pre_X8_does (p1 : Int32) (μ : Mem) : Prop := hsOK μ ∧ isN μ 20 1 9 ∧ isN μ 20 2 10 ∧ isN μ (gp μ 1) 0 5 ∧ isN μ (gp μ 1) 4 5
def post_X8_does (p1 : Int32) (μ : Mem) (x : Int32) (m : Mem) : Prop := if p1 < 0 ∨ gi μ (gp μ 1) 4 ≤ p1 then x = -1 ∧ m = μ else if gi μ 17 0 < 0 ∨ gi μ (gp μ 1) 0 ≤ gi μ 17 0 ∨ 9999 < gi μ 17 2 + gi μ (gp μ 1 + 5) p1.toNatClampNeg then x = -2 ∧ m = μ else
  x = (if slvI (gi m 17 3) (gi μ 17 0) = 1 then 1 else 0) ∧ fr (17 :: 18 :: 19 :: remF μ) μ m ∧ remP μ m ∧ gi m 17 1 = gi μ 17 1 ∧ gi m 17 2 = gi μ 17 2 + gi μ (gp μ 1 + 5) p1.toNatClampNeg ∧ gi m 17 4 = gi μ 17 4 ∧
  (∀ j, gi m 18 j = if j = gn μ 17 0 then gi μ 18 j - lossC μ (gp μ 1) (gi μ 17 0) p1 else gi μ 18 j) ∧ (∀ j, gi m 19 j = if j = gn μ 17 0 then p1 else gi μ 19 j) ∧
  (if gi μ 18 (gn μ 17 0) - lossC μ (gp μ 1) (gi μ 17 0) p1 < 0 then gi m 17 3 = gi μ 17 3 ||| (1 <<< (gi μ 17 0 &&& 31)) ∧ gi m 17 0 = -9 else gi m 17 3 = gi μ 17 3 ∧ gi m 17 0 = gi μ 17 0)
def pre_X8_asks (p1 : Int32) (μ : Mem) : Prop := hsOK μ ∧ isN μ 20 1 9 ∧ isN μ 20 2 10 ∧ isN μ (gp μ 1) 9 5
def post_X8_asks (p1 : Int32) (μ : Mem) (x : Int32) (m : Mem) : Prop := if p1 < 0 ∨ 5 ≤ p1 then x = -1 ∧ m = μ else if gi μ 17 0 = -9 ∨ slvI (gi μ 17 4) p1 = 1 ∨ gi μ (gp μ 1) 7 = 0 ∨ 9999 < gi μ 17 2 + 2 then x = -2 ∧ m = μ else
  x = slvI (gi μ (gp μ 1 + 6) (gn μ (gp μ 1) 9)) p1 ∧ fr (17 :: remF μ) μ m ∧ remP μ m ∧ gi m 17 0 = gi μ 17 0 ∧ gi m 17 1 = gi μ 17 1 ∧ gi m 17 2 = gi μ 17 2 + 2 ∧ gi m 17 3 = gi μ 17 3 ∧ gi m 17 4 = gi μ 17 4 ||| (1 <<< (p1 &&& 31))
def pre_X8_undo (μ : Mem) : Prop := isN μ 20 1 9 ∧ isN μ 20 2 10
def post_X8_undo (μ : Mem) (x : Int32) (m : Mem) : Prop := if gn μ 20 2 = 0 then x = -2 ∧ m = μ else x = nI (gn μ 20 2 - 1) ∧ post_X5_restore μ m
def pre_X8_keep (p1 : Int32) (μ : Mem) : Prop := True
def post_X8_keep (p1 : Int32) (μ : Mem) (x : Int32) (m : Mem) : Prop := if p1 < 0 ∨ 2 ≤ p1 then x = -1 ∧ m = μ else x = gi μ 17 2 ∧ fr [0, 53 + 3 * p1.toNatClampNeg, 53 + 3 * p1.toNatClampNeg + 1, 53 + 3 * p1.toNatClampNeg + 2] μ m ∧ cpS (53 + 3 * p1.toNatClampNeg) 17 μ m ∧ gi m 0 6 = gi μ 0 6 ||| (1 <<< (p1 &&& 31))
def pre_X8_back (p1 : Int32) (μ : Mem) : Prop := True
def post_X8_back (p1 : Int32) (μ : Mem) (x : Int32) (m : Mem) : Prop := if p1 < 0 ∨ 2 ≤ p1 then x = -1 ∧ m = μ else if slvI (gi μ 0 6) p1 = 0 then x = -2 ∧ m = μ else x = gi m 17 2 ∧ fr [17, 18, 19, 20] μ m ∧ cpS 17 (53 + 3 * p1.toNatClampNeg) μ m ∧ gi m 20 1 = gi μ 20 1 ∧ gi m 20 2 = 0
def countA (a b c d e f g h what : Int32) : Int32 := if what = 0 then a else if what = 1 then b else if what = 2 then c else if what = 3 then d else if what = 4 then e else if what = 5 then f else if what = 6 then g else if what = 7 then h else -1
def pre_X8_count (p1 : Int32) (μ : Mem) : Prop := hsOK μ
def post_X8_count (p1 : Int32) (μ : Mem) (x : Int32) (m : Mem) : Prop := x = countA (gi μ (gp μ 1) 0) (gi μ (gp μ 1) 4) (gi μ (gp μ 1) 7) (gi μ (gp μ 1) 9) (gi μ (gp μ 1) 10) (gi μ (gp μ 1) 11) (gi μ 71 2) (gi μ 1 1) p1 ∧ m = μ
def pre_X9_count (p1 : Int32) (μ : Mem) : Prop := True
def post_X9_count (p1 : Int32) (μ : Mem) (x : Int32) (m : Mem) : Prop := x = countA (gi μ 77 0) (gi μ 77 1) (gi μ 77 2) (gi μ 77 3) (gi μ 77 4) (gi μ 77 5) (gi μ 75 24) (gi μ 75 3) p1 ∧ m = ui μ 75 0 0
def pre_X8_trace (μ : Mem) : Prop := True
def post_X8_trace (μ : Mem) (x : Int64) (m : Mem) : Prop := x = gl μ 0 12 ∧ m = μ
def pre_X9_trace (μ : Mem) : Prop := True
def post_X9_trace (μ : Mem) (x : Int64) (m : Mem) : Prop := x = gl μ 75 1 ∧ m = ui μ 75 0 0
def pre_X8_felt (p1 p2 : Int32) (μ : Mem) : Prop := hsOK μ ∧ isN μ 71 2 5
def post_X8_felt (p1 p2 : Int32) (μ : Mem) (x : Int32) (m : Mem) : Prop := if p1 < 0 ∨ gi μ (gp μ 1) 4 ≤ p1 ∨ p2 < 0 ∨ 30 < p2 then x = -1 ∧ m = μ else if gn μ 71 2 = 5 then x = -3 ∧ m = μ else x = gi μ 71 2 + 1 ∧ m = ui (ui (ui μ 72 (gn μ 71 2) p1) 73 (gn μ 71 2) p2) 71 2 (gi μ 71 2 + 1)
def pre_X9_felt (p1 p2 : Int32) (μ : Mem) : Prop := isN μ 77 1 5 ∧ isN μ 75 24 5
def post_X9_felt (p1 p2 : Int32) (μ : Mem) (x : Int32) (m : Mem) : Prop := if p1 < 0 ∨ gi μ 77 1 ≤ p1 ∨ p2 < 0 ∨ 30 < p2 then x = -1 ∧ m = ui μ 75 0 0 else if gn μ 75 24 = 5 then x = -3 ∧ m = ui μ 75 0 0 else x = gi μ 75 24 + 1 ∧ m = ui (ui (ui (ui μ 75 0 0) 88 (gn μ 75 24) p1) 89 (gn μ 75 24) p2) 75 24 (gi μ 75 24 + 1)
def pre_X8_forget (μ : Mem) : Prop := True
def post_X8_forget (μ : Mem) (x : Int32) (m : Mem) : Prop := x = gi μ 71 2 ∧ m = ui μ 71 2 0
def pre_X9_forget (μ : Mem) : Prop := True
def post_X9_forget (μ : Mem) (x : Int32) (m : Mem) : Prop := x = gi μ 75 24 ∧ m = ui (ui μ 75 0 0) 75 24 0
def pre_X8_tempers (μ : Mem) : Prop := hsOK μ ∧ isN μ 71 2 5 ∧ ∀ i, i < gn μ 71 2 → vp_in (gi μ 72 i) 5
def tempF (ru fd fl : Nat → Int32) (k : Nat) (t : Nat) : Int32 := if ∀ i, i < k → ru (fd i).toNatClampNeg * nI t = fl i then 1 <<< (nI t &&& 31) else 0
def post_X8_tempers (μ : Mem) (x : Int32) (m : Mem) : Prop := x = orI (tempF (gi μ (gp μ 1 + 4)) (gi μ 72) (gi μ 73) (gn μ 71 2)) 4 ∧ m = μ
def inv_X8_tempers_4 (μ : Mem) (n : Nat) (l1 l2 : Int32) (m : Mem) : Prop := ∃ i, i ≤ 4 ∧ n = 4 - i ∧ l2 = nI i ∧ l1 = orI (tempF (gi μ (gp μ 1 + 4)) (gi μ 72) (gi μ 73) (gn μ 71 2)) i ∧ m = μ
def pre_X9_tempers (μ : Mem) : Prop := isN μ 75 24 5 ∧ ∀ i, i < gn μ 75 24 → vp_in (gi μ 88 i) 5
def post_X9_tempers (μ : Mem) (x : Int32) (m : Mem) : Prop := x = orI (tempF (gi μ 81) (gi μ 88) (gi μ 89) (gn μ 75 24)) 4 ∧ m = ui μ 75 0 0
def inv_X9_tempers_9 (μ : Mem) (n : Nat) (l1 l2 : Int32) (m : Mem) : Prop := ∃ i, i ≤ 4 ∧ n = (4 - i) * 100 ∧ l2 = nI i ∧ l1 = orI (tempF (gi μ 81) (gi μ 88) (gi μ 89) (gn μ 75 24)) i ∧ m = ui μ 75 0 0
def inv_X9_tempers_19 (μ : Mem) (n : Nat) (l1 l2 l3 l4 : Int32) (m : Mem) : Prop := ∃ i j, i < 4 ∧ j ≤ gn μ 75 24 ∧ n = (3 - i) * 100 + 1 + (gn μ 75 24 - j) ∧ l2 = nI i ∧ l4 = nI j ∧ l1 = orI (tempF (gi μ 81) (gi μ 88) (gi μ 89) (gn μ 75 24)) i ∧ l3 = (if ∀ k, k < j → gi μ 81 (gi μ 88 k).toNatClampNeg * nI i = gi μ 89 k then 1 else 0) ∧ m = ui μ 75 0 0
def whichF (ru te : Nat → Int32) (d : Nat) (v : Int32) (r : Nat) : Int32 := if ru d * te r = v then 1 <<< (nI r &&& 31) else 0
def pre_X8_which (p1 p2 : Int32) (μ : Mem) : Prop := hsOK μ ∧ isN μ (gp μ 1) 4 5 ∧ isN μ (gp μ 1) 0 5
def post_X8_which (p1 p2 : Int32) (μ : Mem) (x : Int32) (m : Mem) : Prop := x = (if p1 < 0 ∨ gi μ (gp μ 1) 4 ≤ p1 ∨ p2 < 0 ∨ 30 < p2 then -1 else orI (whichF (gi μ (gp μ 1 + 4)) (gi μ (gp μ 1 + 2)) p1.toNatClampNeg p2) (gn μ (gp μ 1) 0)) ∧ m = μ
def inv_X8_which_28 (p1 p2 : Int32) (μ : Mem) (n : Nat) (l3 l4 : Int32) (m : Mem) : Prop := ∃ i, i ≤ gn μ (gp μ 1) 0 ∧ n = gn μ (gp μ 1) 0 - i ∧ l4 = nI i ∧ l3 = orI (whichF (gi μ (gp μ 1 + 4)) (gi μ (gp μ 1 + 2)) p1.toNatClampNeg p2) i ∧ m = μ ∧ ¬ (p1 < 0 ∨ gi μ (gp μ 1) 4 ≤ p1 ∨ p2 < 0 ∨ 30 < p2)
def pre_X9_which (p1 p2 : Int32) (μ : Mem) : Prop := isN μ 77 1 5 ∧ isN μ 77 0 5
def post_X9_which (p1 p2 : Int32) (μ : Mem) (x : Int32) (m : Mem) : Prop := x = (if p1 < 0 ∨ gi μ 77 1 ≤ p1 ∨ p2 < 0 ∨ 30 < p2 then -1 else orI (whichF (gi μ 81) (gi μ 79) p1.toNatClampNeg p2) (gn μ 77 0)) ∧ m = ui μ 75 0 0
def inv_X9_which_30 (p1 p2 : Int32) (μ : Mem) (n : Nat) (l3 l4 : Int32) (m : Mem) : Prop := ∃ i, i ≤ gn μ 77 0 ∧ n = gn μ 77 0 - i ∧ l4 = nI i ∧ l3 = orI (whichF (gi μ 81) (gi μ 79) p1.toNatClampNeg p2) i ∧ m = ui μ 75 0 0 ∧ ¬ (p1 < 0 ∨ gi μ 77 1 ≤ p1 ∨ p2 < 0 ∨ 30 < p2)
/-- the reference's past: m has μ's scene on top -/
def noteP (μ m : Mem) : Prop := (∀ k, k ≠ 0 → k ≠ 21 → gi m 75 k = gi μ 75 k) ∧ gi m 75 21 = nI (min (gn μ 75 21 + 1) 10) ∧
  (∀ k, k < 15 → gi m 87 (15 * (min (gn μ 75 21 + 1) 10 - 1) + k) = gi μ 84 k) ∧ (∀ k, k < 15 * (min (gn μ 75 21 + 1) 10 - 1) → gi m 87 k = gi μ 87 (if gn μ 75 21 = 10 then k + 15 else k))
def pre_X9_goes (p1 : Int32) (μ : Mem) : Prop := isN μ 77 0 5 ∧ isN μ 75 21 10
def post_X9_goes (p1 : Int32) (μ : Mem) (x : Int32) (m : Mem) : Prop := if p1 < 0 ∨ gi μ 77 0 ≤ p1 then x = -1 ∧ m = ui μ 75 0 0 else if slvI (gi μ 84 3) p1 = 1 ∨ gi μ 84 0 = p1 + 1 ∨ 9999 < gi μ 84 2 + walkF (gi μ 77 4) (gi μ 84 1) p1 then x = -2 ∧ m = ui μ 75 0 0 else
  x = walkF (gi μ 77 4) (gi μ 84 1) p1 ∧ fr [75, 84, 87] μ m ∧ noteP μ m ∧ gi m 84 0 = p1 + 1 ∧ gi m 84 1 = p1 + 1 ∧ gi m 84 2 = gi μ 84 2 + walkF (gi μ 77 4) (gi μ 84 1) p1 ∧ ∀ k, 3 ≤ k → gi m 84 k = gi μ 84 k
def pre_X9_does (p1 : Int32) (μ : Mem) : Prop := isN μ 77 1 5 ∧ isN μ 75 21 10 ∧ isN μ 84 0 5
def post_X9_does (p1 : Int32) (μ : Mem) (x : Int32) (m : Mem) : Prop := if p1 < 0 ∨ gi μ 77 1 ≤ p1 then x = -1 ∧ m = ui μ 75 0 0 else if gi μ 84 0 = 0 ∨ 9999 < gi μ 84 2 + gi μ 82 p1.toNatClampNeg then x = -2 ∧ m = ui μ 75 0 0 else
  x = (if gi μ 84 (5 + (gn μ 84 0 - 1)) - hurtF μ (gi μ 84 0 - 1) p1 (gi μ 84 (10 + (gn μ 84 0 - 1))) < 0 then 1 else 0) ∧ fr [75, 84, 87] μ m ∧ noteP μ m ∧ gi m 84 1 = gi μ 84 1 ∧ gi m 84 2 = gi μ 84 2 + gi μ 82 p1.toNatClampNeg ∧ gi m 84 4 = gi μ 84 4 ∧
  (∀ j, j < 5 → gi m 84 (5 + j) = if j = gn μ 84 0 - 1 then gi μ 84 (5 + j) - hurtF μ (gi μ 84 0 - 1) p1 (gi μ 84 (10 + (gn μ 84 0 - 1))) else gi μ 84 (5 + j)) ∧ (∀ j, j < 5 → gi m 84 (10 + j) = if j = gn μ 84 0 - 1 then p1 + 1 else gi μ 84 (10 + j)) ∧
  (if gi μ 84 (5 + (gn μ 84 0 - 1)) - hurtF μ (gi μ 84 0 - 1) p1 (gi μ 84 (10 + (gn μ 84 0 - 1))) < 0 then gi m 84 3 = gi μ 84 3 ||| (1 <<< ((gi μ 84 0 - 1) &&& 31)) ∧ gi m 84 0 = 0 else gi m 84 3 = gi μ 84 3 ∧ gi m 84 0 = gi μ 84 0)
def pre_X9_asks (p1 : Int32) (μ : Mem) : Prop := isN μ 77 2 6 ∧ isN μ 77 3 5 ∧ isN μ 75 21 10
def post_X9_asks (p1 : Int32) (μ : Mem) (x : Int32) (m : Mem) : Prop := if p1 < 0 ∨ 5 ≤ p1 then x = -1 ∧ m = ui μ 75 0 0 else if gi μ 84 0 = 0 ∨ slvI (gi μ 84 4) p1 = 1 ∨ gi μ 77 2 = 0 ∨ 9999 < gi μ 84 2 + 2 then x = -2 ∧ m = ui μ 75 0 0 else
  x = slvI (gi μ 83 (gn μ 77 3)) p1 ∧ fr [75, 84, 87] μ m ∧ noteP μ m ∧ gi m 84 2 = gi μ 84 2 + 2 ∧ gi m 84 4 = gi μ 84 4 ||| (1 <<< (p1 &&& 31)) ∧ ∀ k, k ≠ 2 → k ≠ 4 → gi m 84 k = gi μ 84 k
def pre_X9_undo (μ : Mem) : Prop := isN μ 75 21 10
def post_X9_undo (μ : Mem) (x : Int32) (m : Mem) : Prop := if gn μ 75 21 = 0 then x = -2 ∧ m = ui μ 75 0 0 else x = nI (gn μ 75 21 - 1) ∧ fr [75, 84] μ m ∧ (∀ k, k ≠ 0 → k ≠ 21 → gi m 75 k = gi μ 75 k) ∧ gi m 75 21 = nI (gn μ 75 21 - 1) ∧ ∀ k, k < 15 → gi m 84 k = gi μ 87 (15 * (gn μ 75 21 - 1) + k)
def inv_X9_undo_27 (μ : Mem) (n : Nat) (l1 : Int32) (m : Mem) : Prop := ∃ i, i ≤ 15 ∧ n = 15 - i ∧ l1 = nI i ∧ gn μ 75 21 ≠ 0 ∧ fr [75, 84] μ m ∧ (∀ k, k ≠ 0 → k ≠ 21 → gi m 75 k = gi μ 75 k) ∧ gi m 75 21 = nI (gn μ 75 21 - 1) ∧ ∀ k, k < i → gi m 84 k = gi μ 87 (15 * (gn μ 75 21 - 1) + k)
def pre_X9_keep (p1 : Int32) (μ : Mem) : Prop := True
def post_X9_keep (p1 : Int32) (μ : Mem) (x : Int32) (m : Mem) : Prop := if p1 < 0 ∨ 2 ≤ p1 then x = -1 ∧ m = ui μ 75 0 0 else x = gi μ 84 2 ∧ fr [75, 85, 86] μ m ∧ (∀ k, k ≠ 0 → gi m 75 k = gi μ 75 k) ∧ (∀ k, k < 15 → gi m 85 (15 * p1.toNatClampNeg + k) = gi μ 84 k) ∧ (∀ k, (k < 15 * p1.toNatClampNeg ∨ 15 * p1.toNatClampNeg + 15 ≤ k) → gi m 85 k = gi μ 85 k) ∧ ∀ j, gi m 86 j = if j = p1.toNatClampNeg then 1 else gi μ 86 j
def inv_X9_keep_18 (p1 : Int32) (μ : Mem) (n : Nat) (l2 : Int32) (m : Mem) : Prop := ∃ i, i ≤ 15 ∧ n = 15 - i ∧ l2 = nI i ∧ ¬ (p1 < 0 ∨ 2 ≤ p1) ∧ fr [75, 85] μ m ∧ (∀ k, k ≠ 0 → gi m 75 k = gi μ 75 k) ∧ (∀ k, k < i → gi m 85 (15 * p1.toNatClampNeg + k) = gi μ 84 k) ∧ (∀ k, (k < 15 * p1.toNatClampNeg ∨ 15 * p1.toNatClampNeg + 15 ≤ k) → gi m 85 k = gi μ 85 k)
def pre_X9_back (p1 : Int32) (μ : Mem) : Prop := True
def post_X9_back (p1 : Int32) (μ : Mem) (x : Int32) (m : Mem) : Prop := if p1 < 0 ∨ 2 ≤ p1 then x = -1 ∧ m = ui μ 75 0 0 else if gi μ 86 p1.toNatClampNeg = 0 then x = -2 ∧ m = ui μ 75 0 0 else x = gi m 84 2 ∧ fr [75, 84] μ m ∧ (∀ k, k ≠ 0 → k ≠ 21 → gi m 75 k = gi μ 75 k) ∧ gi m 75 21 = 0 ∧ ∀ k, k < 15 → gi m 84 k = gi μ 85 (15 * p1.toNatClampNeg + k)
def inv_X9_back_30 (p1 : Int32) (μ : Mem) (n : Nat) (l2 : Int32) (m : Mem) : Prop := ∃ i, i ≤ 15 ∧ n = 15 - i ∧ l2 = nI i ∧ ¬ (p1 < 0 ∨ 2 ≤ p1) ∧ ¬ gi μ 86 p1.toNatClampNeg = 0 ∧ fr [75, 84] μ m ∧ (∀ k, k ≠ 0 → gi m 75 k = gi μ 75 k) ∧ ∀ k, k < i → gi m 84 k = gi μ 85 (15 * p1.toNatClampNeg + k)

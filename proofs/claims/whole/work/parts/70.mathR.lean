/-! the rounds of a night, numbered in base six: a digit r + 1 is room r, 0 is none -/
def dg (c i : Nat) : Nat := c / 6 ^ (4 - i) % 6
def cntN (c : Nat) : Nat → Nat
  | 0 => 0
  | k + 1 => cntN c k + (if dg c k = 0 then 0 else 1)
def dW (W p r : Nat) : Nat := W * (if p < r then r - p else p - r)
def plN (P0 c : Nat) : Nat → Nat
  | 0 => P0
  | k + 1 => dg c k - 1
def tmN (W P0 : Nat) (mo : Nat → Nat) (c : Nat) : Nat → Nat
  | 0 => 0
  | k + 1 => tmN W P0 mo c k + dW W (plN P0 c k) (dg c k - 1) + mo (dg c k - 1)
def woN (wt : Nat → Int32) (c : Nat) : Nat → Int32
  | 0 => 0
  | k + 1 => woN wt c k + wt (dg c k - 1)
def okC (R : Nat) (mo : Nat → Nat) (c k : Nat) : Prop := ∀ j, j < k → dg c j ≠ 0 → cntN c j = j ∧ dg c j ≤ R ∧ (∀ i, i < j → dg c i ≠ dg c j) ∧ mo (dg c j - 1) ≠ 100000000
def accN (R : Nat) (mo : Nat → Nat) (W P0 t0 N : Nat) (c : Nat) : Prop := okC R mo c 5 ∧ (cntN c 5 = 0 ∨ t0 + tmN W P0 mo c (cntN c 5) ≤ N)
def betV (w : Int32) (t : Nat) (w' : Int32) (t' : Nat) : Prop := w' < w ∨ (w = w' ∧ t < t')
def betN (mo : Nat → Nat) (W P0 : Nat) (wt : Nat → Int32) (c b : Nat) : Prop := betV (woN wt c (cntN c 5)) (tmN W P0 mo c (cntN c 5)) (woN wt b (cntN b 5)) (tmN W P0 mo b (cntN b 5))
/-- b is the first of the best of the numbers up to n -/
def BestN (R : Nat) (mo : Nat → Nat) (W P0 t0 N : Nat) (wt : Nat → Int32) (n b : Nat) : Prop := b ≤ n ∧ accN R mo W P0 t0 N b ∧ (∀ c, c ≤ n → accN R mo W P0 t0 N c → ¬ betN mo W P0 wt c b) ∧ ∀ c, c < b → accN R mo W P0 t0 N c → betN mo W P0 wt b c
theorem betV_lt {w w' : Int32} {t t' : Nat} : betV w t w' t' ↔ w'.toInt < w.toInt ∨ (w.toInt = w'.toInt ∧ t < t') := by
  unfold betV; rw [i_lt, Int32.toInt_inj]
theorem best_no {R : Nat} {mo : Nat → Nat} {W P0 t0 N : Nat} {wt : Nat → Int32} {n b : Nat} (h : BestN R mo W P0 t0 N wt n b) (hn : accN R mo W P0 t0 N (n + 1) → ¬ betN mo W P0 wt (n + 1) b) : BestN R mo W P0 t0 N wt (n + 1) b := by
  obtain ⟨h1, h2, h3, h4⟩ := h
  refine ⟨by omega, h2, fun c hc ha => ?_, h4⟩
  rcases Nat.lt_or_ge n c with z | z
  · have : c = n + 1 := by omega
    subst this; exact hn ha
  · exact h3 c z ha
theorem best_yes {R : Nat} {mo : Nat → Nat} {W P0 t0 N : Nat} {wt : Nat → Int32} {n b : Nat} (h : BestN R mo W P0 t0 N wt n b) (ha : accN R mo W P0 t0 N (n + 1)) (hb : betN mo W P0 wt (n + 1) b) : BestN R mo W P0 t0 N wt (n + 1) (n + 1) := by
  obtain ⟨h1, h2, h3, h4⟩ := h
  have key : ∀ c, c ≤ n → accN R mo W P0 t0 N c → betN mo W P0 wt (n + 1) c := by
    intro c hc hca
    have := h3 c hc hca
    unfold betN at this hb ⊢
    rw [betV_lt] at this hb ⊢
    omega
  refine ⟨Nat.le_refl _, ha, fun c hc hca => ?_, fun c hc hca => key c (by omega) hca⟩
  rcases Nat.lt_or_ge n c with z | z
  · have : c = n + 1 := by omega
    subst this; unfold betN; rw [betV_lt]; omega
  · have := key c z hca
    unfold betN at this ⊢
    rw [betV_lt] at this ⊢
    omega
theorem best_skip {R : Nat} {mo : Nat → Nat} {W P0 t0 N : Nat} {wt : Nat → Int32} {n b : Nat} : ∀ k, BestN R mo W P0 t0 N wt n b → (∀ c, n < c → c ≤ n + k → ¬ accN R mo W P0 t0 N c) → BestN R mo W P0 t0 N wt (n + k) b := by
  intro k
  induction k with
  | zero => intro h _; exact h
  | succ k ih =>
    intro h hn
    exact best_no (ih h (fun c h1 h2 => hn c h1 (by omega))) (fun ha => absurd ha (hn (n + k + 1) (by omega) (by omega)))
theorem best_uniq {R : Nat} {mo : Nat → Nat} {W P0 t0 N : Nat} {wt : Nat → Int32} {n b b' : Nat} (h : BestN R mo W P0 t0 N wt n b) (h' : BestN R mo W P0 t0 N wt n b') : b = b' := by
  rcases Nat.lt_trichotomy b b' with z | z | z
  · exact absurd (h'.2.2.2 b z h.2.1) (h.2.2.1 b' h'.1 h'.2.1)
  · exact z
  · exact absurd (h.2.2.2 b' z h'.2.1) (h'.2.2.1 b h.1 h.2.1)
theorem cnt_le (c : Nat) : ∀ k, cntN c k ≤ k := by
  intro k
  induction k with
  | zero => exact Nat.le_refl _
  | succ k ih => rw [cntN]; split <;> omega
theorem cnt_full {c : Nat} : ∀ {k}, cntN c k = k → ∀ j, j < k → dg c j ≠ 0 := by
  intro k
  induction k with
  | zero => intro _ j hj; omega
  | succ k ih =>
    intro h j hj
    have := cnt_le c k
    rw [cntN] at h
    split at h
    · omega
    · rcases Nat.lt_or_ge j k with z | z
      · exact ih (by omega) j z
      · have : j = k := by omega
        subst this; assumption
theorem cnt_of {c : Nat} : ∀ {k}, (∀ j, j < k → dg c j ≠ 0) → cntN c k = k := by
  intro k
  induction k with
  | zero => intro _; rfl
  | succ k ih =>
    intro h
    rw [cntN, ih (fun j hj => h j (by omega)), if_neg (h k (by omega))]
theorem cnt_same {c b : Nat} : ∀ {k}, (∀ j, j < k → dg c j = dg b j) → cntN c k = cntN b k := by
  intro k
  induction k with
  | zero => intro _; rfl
  | succ k ih => intro h; rw [cntN, cntN, ih (fun j hj => h j (by omega)), h k (by omega)]
theorem cnt_tail {c k : Nat} (h : ∀ j, k ≤ j → j < 5 → dg c j = 0) : ∀ n, k + n ≤ 5 → cntN c (k + n) = cntN c k := by
  intro n
  induction n with
  | zero => intro _; rfl
  | succ n ih => intro hn; rw [← Nat.add_assoc, cntN, ih (by omega), if_pos (h _ (by omega) (by omega)), Nat.add_zero]
theorem tm_same {W P0 : Nat} {mo : Nat → Nat} {c b : Nat} : ∀ {k}, (∀ j, j < k → dg c j = dg b j) → tmN W P0 mo c k = tmN W P0 mo b k ∧ plN P0 c k = plN P0 b k := by
  intro k
  induction k with
  | zero => intro _; exact ⟨rfl, rfl⟩
  | succ k ih =>
    intro h
    obtain ⟨i1, i2⟩ := ih (fun j hj => h j (by omega))
    rw [tmN, tmN, plN, plN, i1, i2, h k (by omega)]
    exact ⟨rfl, rfl⟩
theorem wo_same {wt : Nat → Int32} {c b : Nat} : ∀ {k}, (∀ j, j < k → dg c j = dg b j) → woN wt c k = woN wt b k := by
  intro k
  induction k with
  | zero => intro _; rfl
  | succ k ih => intro h; rw [woN, woN, ih (fun j hj => h j (by omega)), h k (by omega)]
theorem tm_mono {W P0 : Nat} {mo : Nat → Nat} {c : Nat} : ∀ n k, tmN W P0 mo c k ≤ tmN W P0 mo c (k + n) := by
  intro n
  induction n with
  | zero => intro k; exact Nat.le_refl _
  | succ n ih => intro k; have := ih k; rw [← Nat.add_assoc, tmN]; omega
theorem dg_lt (c i : Nat) : dg c i < 6 := Nat.mod_lt _ (by omega)
/-- a child of the number B at place k, and what lies below it -/
theorem dg_child {B k r c : Nat} (hk : k < 5) (hB : B < 7776) (hm : B % 6 ^ (5 - k) = 0) (hr : r < 6) (h1 : B + r * 6 ^ (4 - k) ≤ c) (h2 : c < B + (r + 1) * 6 ^ (4 - k)) : c < 7776 ∧ dg c k = r ∧ ∀ j, j < k → dg c j = dg B j := by
  have hk5 : k = 0 ∨ k = 1 ∨ k = 2 ∨ k = 3 ∨ k = 4 := by omega
  unfold dg
  rcases hk5 with rfl | rfl | rfl | rfl | rfl
  · simp only [Nat.reduceSub, Nat.reducePow] at *
    refine ⟨by omega, by omega, fun j hj => absurd hj (Nat.not_lt_zero j)⟩
  · simp only [Nat.reduceSub, Nat.reducePow] at *
    refine ⟨by omega, by omega, fun j hj => ?_⟩
    have : j = 0 := by omega
    subst this; simp only [Nat.reduceSub, Nat.reducePow]; omega
  · simp only [Nat.reduceSub, Nat.reducePow] at *
    refine ⟨by omega, by omega, fun j hj => ?_⟩
    have : j = 0 ∨ j = 1 := by omega
    rcases this with rfl | rfl <;> simp only [Nat.reduceSub, Nat.reducePow] <;> omega
  · simp only [Nat.reduceSub, Nat.reducePow] at *
    refine ⟨by omega, by omega, fun j hj => ?_⟩
    have : j = 0 ∨ j = 1 ∨ j = 2 := by omega
    rcases this with rfl | rfl | rfl <;> simp only [Nat.reduceSub, Nat.reducePow] <;> omega
  · simp only [Nat.reduceSub, Nat.reducePow] at *
    refine ⟨by omega, by omega, fun j hj => ?_⟩
    have : j = 0 ∨ j = 1 ∨ j = 2 ∨ j = 3 := by omega
    rcases this with rfl | rfl | rfl | rfl <;> simp only [Nat.reduceSub, Nat.reducePow] <;> omega
/-- behind the place k a number that 6 ^ (5 - k) divides has no digit -/
theorem dg_zero {B k : Nat} (hk : k ≤ 5) (hm : B % 6 ^ (5 - k) = 0) : ∀ j, k ≤ j → j < 5 → dg B j = 0 := by
  intro j h1 h2
  have hj5 : j = 0 ∨ j = 1 ∨ j = 2 ∨ j = 3 ∨ j = 4 := by omega
  have hk5 : k = 0 ∨ k = 1 ∨ k = 2 ∨ k = 3 ∨ k = 4 ∨ k = 5 := by omega
  unfold dg
  rcases hk5 with rfl | rfl | rfl | rfl | rfl | rfl <;> rcases hj5 with rfl | rfl | rfl | rfl | rfl <;> simp only [Nat.reduceSub, Nat.reducePow] at * <;> omega
/-- and one that it does not divide has one there -/
theorem dg_some {c k : Nat} (hk : k ≤ 5) (hm : c % 6 ^ (5 - k) ≠ 0) : ∃ j, k ≤ j ∧ j < 5 ∧ dg c j ≠ 0 := by
  have hk5 : k = 0 ∨ k = 1 ∨ k = 2 ∨ k = 3 ∨ k = 4 ∨ k = 5 := by omega
  rcases Classical.em (∃ j, k ≤ j ∧ j < 5 ∧ dg c j ≠ 0) with h | h
  · exact h
  · exfalso
    have a : ∀ j, k ≤ j → j < 5 → dg c j = 0 := fun j h1 h2 => Classical.byContradiction fun q => h ⟨j, h1, h2, q⟩
    have a0 := a 0
    have a1 := a 1
    have a2 := a 2
    have a3 := a 3
    have a4 := a 4
    unfold dg at a0 a1 a2 a3 a4
    rcases hk5 with rfl | rfl | rfl | rfl | rfl | rfl <;> simp only [Nat.reduceSub, Nat.reducePow] at * <;> omega
theorem cnt_mono (c : Nat) : ∀ n k, cntN c k ≤ cntN c (k + n) := by
  intro n
  induction n with
  | zero => intro k; exact Nat.le_refl _
  | succ n ih => intro k; have := ih k; rw [← Nat.add_assoc, cntN]; omega
theorem noacc_gap {R : Nat} {mo : Nat → Nat} {W P0 t0 N B k c : Nat} (hk : k < 5) (hB : B < 7776) (hm : B % 6 ^ (5 - k) = 0) (h1 : B < c) (h2 : c < B + 6 ^ (4 - k)) : ¬ accN R mo W P0 t0 N c := by
  intro ⟨ho, _⟩
  obtain ⟨q1, q2, q3⟩ := dg_child (r := 0) (c := c) hk hB hm (by omega) (by omega) (by omega)
  have hne : c % 6 ^ (5 - k) ≠ 0 := by
    have hk5 : k = 0 ∨ k = 1 ∨ k = 2 ∨ k = 3 ∨ k = 4 := by omega
    rcases hk5 with rfl | rfl | rfl | rfl | rfl <;> simp only [Nat.reduceSub, Nat.reducePow] at * <;> omega
  obtain ⟨j, j1, j2, j3⟩ := dg_some (by omega) hne
  have hjk : j ≠ k := fun e => j3 (by rw [e]; exact q2)
  exact cnt_full (ho j j2 j3).1 k (by omega) q2
theorem noacc_bad {R : Nat} {mo : Nat → Nat} {W P0 t0 N B k r c : Nat} (hk : k < 5) (hB : B < 7776) (hm : B % 6 ^ (5 - k) = 0) (hr : r < 5) (h1 : B + (r + 1) * 6 ^ (4 - k) ≤ c) (h2 : c < B + (r + 1 + 1) * 6 ^ (4 - k)) (hb : R ≤ r ∨ (∃ j, j < k ∧ dg B j = r + 1) ∨ mo r = 100000000) : ¬ accN R mo W P0 t0 N c := by
  intro ⟨ho, _⟩
  obtain ⟨q1, q2, q3⟩ := dg_child (r := r + 1) (c := c) hk hB hm (by omega) h1 h2
  obtain ⟨o1, o2, o3, o4⟩ := ho k hk (by omega)
  rcases hb with z | ⟨j, hj, z⟩ | z
  · omega
  · exact o3 j hj (by rw [q3 j hj, q2]; exact z)
  · rw [q2] at o4; exact o4 z
theorem noacc_long {R : Nat} {mo : Nat → Nat} {W P0 t0 N B k r c : Nat} (hk : k < 5) (hB : B < 7776) (hm : B % 6 ^ (5 - k) = 0) (hr : r < 5) (h1 : B + (r + 1) * 6 ^ (4 - k) ≤ c) (h2 : c < B + (r + 1 + 1) * 6 ^ (4 - k)) (hb : N < t0 + (tmN W P0 mo B k + dW W (plN P0 B k) r + mo r)) : ¬ accN R mo W P0 t0 N c := by
  intro ⟨ho, ha⟩
  obtain ⟨q1, q2, q3⟩ := dg_child (r := r + 1) (c := c) hk hB hm (by omega) h1 h2
  obtain ⟨o1, o2, o3, o4⟩ := ho k hk (by omega)
  obtain ⟨s1, s2⟩ := tm_same (W := W) (P0 := P0) (mo := mo) q3
  have ht : tmN W P0 mo c (k + 1) = tmN W P0 mo B k + dW W (plN P0 B k) r + mo r := by
    rw [tmN, q2, s1, s2]; rfl
  have hc : cntN c (k + 1) = k + 1 := by rw [cntN, o1, if_neg (by omega)]
  have hc5 := cnt_mono c (4 - k) (k + 1)
  rw [show k + 1 + (4 - k) = 5 from by omega, hc] at hc5
  have hm := tm_mono (W := W) (P0 := P0) (mo := mo) (c := c) (cntN c 5 - (k + 1)) (k + 1)
  rw [show k + 1 + (cntN c 5 - (k + 1)) = cntN c 5 from by omega] at hm
  omega
/-- the child itself -/
theorem child_facts {R : Nat} {mo : Nat → Nat} {W P0 : Nat} {wt : Nat → Int32} {B k r : Nat} (hk : k < 5) (hB : B < 7776) (hm : B % 6 ^ (5 - k) = 0) (hr : r < 5) (hf : ∀ j, j < k → dg B j ≠ 0) (ho : okC R mo B 5) (hR : r < R) (hu : ∀ j, j < k → dg B j ≠ r + 1) (hn : mo r ≠ 100000000) :
    B + (r + 1) * 6 ^ (4 - k) < 7776 ∧ (B + (r + 1) * 6 ^ (4 - k)) % 6 ^ (5 - (k + 1)) = 0 ∧ (∀ j, j < k + 1 → dg (B + (r + 1) * 6 ^ (4 - k)) j ≠ 0) ∧ okC R mo (B + (r + 1) * 6 ^ (4 - k)) 5 ∧ cntN (B + (r + 1) * 6 ^ (4 - k)) 5 = k + 1 ∧ dg (B + (r + 1) * 6 ^ (4 - k)) k = r + 1 ∧ (∀ j, j < k → dg (B + (r + 1) * 6 ^ (4 - k)) j = dg B j) ∧
    tmN W P0 mo (B + (r + 1) * 6 ^ (4 - k)) (k + 1) = tmN W P0 mo B k + dW W (plN P0 B k) r + mo r ∧ woN wt (B + (r + 1) * 6 ^ (4 - k)) (k + 1) = woN wt B k + wt r := by
  have hpos : 0 < 6 ^ (4 - k) := Nat.pow_pos (by omega)
  obtain ⟨q1, q2, q3⟩ := dg_child (r := r + 1) (c := B + (r + 1) * 6 ^ (4 - k)) hk hB hm (by omega) (Nat.le_refl _) (by rw [Nat.add_mul (r + 1)]; omega)
  have hm' : (B + (r + 1) * 6 ^ (4 - k)) % 6 ^ (5 - (k + 1)) = 0 := by
    have hk5 : k = 0 ∨ k = 1 ∨ k = 2 ∨ k = 3 ∨ k = 4 := by omega
    rcases hk5 with rfl | rfl | rfl | rfl | rfl <;> simp only [Nat.reduceSub, Nat.reducePow, Nat.reduceAdd] at * <;> omega
  generalize B + (r + 1) * 6 ^ (4 - k) = C at *
  have hf' : ∀ j, j < k + 1 → dg C j ≠ 0 := by
    intro j hj
    rcases Nat.lt_or_ge j k with z | z
    · rw [q3 j z]; exact hf j z
    · have : j = k := by omega
      subst this; omega
  have hz := dg_zero (by omega) hm'
  have hc : cntN C 5 = k + 1 := by
    have := cnt_tail hz (4 - k) (by omega)
    rw [show k + 1 + (4 - k) = 5 from by omega] at this
    rw [this]; exact cnt_of hf'
  obtain ⟨s1, s2⟩ := tm_same (W := W) (P0 := P0) (mo := mo) q3
  refine ⟨q1, hm', hf', fun j hj hd => ?_, hc, q2, q3, by rw [tmN, q2, s1, s2]; rfl, by rw [woN, q2, wo_same q3]; rfl⟩
  have hjk : j < k + 1 := Nat.lt_of_not_le fun z => hd (hz j z hj)
  rcases Nat.lt_or_ge j k with z | z
  · obtain ⟨o1, o2, o3, o4⟩ := ho j hj (by rw [← q3 j z]; exact hd)
    rw [q3 j z]
    exact ⟨cnt_of fun i hi => hf' i (by omega), o2, fun i hi => by rw [q3 i (by omega)]; exact o3 i hi, o4⟩
  · have : j = k := by omega
    subst this
    rw [q2]
    exact ⟨cnt_of fun i hi => hf' i (by omega), by omega, fun i hi => by rw [q3 i hi]; exact hu i hi, hn⟩
theorem ok_nz {R : Nat} {mo : Nat → Nat} {c : Nat} : ∀ k, okC R mo c k → ∀ j, j < cntN c k → dg c j ≠ 0 := by
  intro k
  induction k with
  | zero => intro _ j hj; exact absurd hj (Nat.not_lt_zero j)
  | succ k ih =>
    intro h j hj
    have h' : okC R mo c k := fun i hi => h i (by omega)
    rw [cntN] at hj
    split at hj
    · exact ih h' j hj
    · rename_i z
      have := (h k (by omega) z).1
      rcases Nat.lt_or_ge j k with y | y
      · exact ih h' j (by omega)
      · have : j = k := by omega
        subst this; exact z
theorem ok_congr {R : Nat} {mo mo' : Nat → Nat} {c k : Nat} (hm : ∀ r, r < R → mo r = mo' r) (h : okC R mo c k) : okC R mo' c k := by
  intro j hj hd
  obtain ⟨a, b, c, d⟩ := h j hj hd
  exact ⟨a, b, c, by rw [← hm _ (by omega)]; exact d⟩
theorem tm_congr {R : Nat} {mo mo' : Nat → Nat} {W P0 c : Nat} (hm : ∀ r, r < R → mo r = mo' r) (h : okC R mo c 5) : ∀ k, k ≤ cntN c 5 → tmN W P0 mo c k = tmN W P0 mo' c k := by
  intro k
  induction k with
  | zero => intro _; rfl
  | succ k ih =>
    intro hk
    have hz := ok_nz 5 h k (by omega)
    have h5 := cnt_le c 5
    have := (h k (by omega) hz).2.1
    rw [tmN, tmN, ih (by omega), hm _ (by omega)]
theorem wo_congr {R : Nat} {mo : Nat → Nat} {wt wt' : Nat → Int32} {c : Nat} (hm : ∀ r, r < R → wt r = wt' r) (h : okC R mo c 5) : ∀ k, k ≤ cntN c 5 → woN wt c k = woN wt' c k := by
  intro k
  induction k with
  | zero => intro _; rfl
  | succ k ih =>
    intro hk
    have hz := ok_nz 5 h k (by omega)
    have h5 := cnt_le c 5
    have := (h k (by omega) hz).2.1
    rw [woN, woN, ih (by omega), hm _ (by omega)]
theorem acc_congr {R : Nat} {mo mo' : Nat → Nat} {W P0 t0 N c : Nat} (hm : ∀ r, r < R → mo r = mo' r) (h : accN R mo W P0 t0 N c) : accN R mo' W P0 t0 N c :=
  ⟨ok_congr hm h.1, by rw [← tm_congr hm h.1 _ (Nat.le_refl _)]; exact h.2⟩
theorem best_congr {R : Nat} {mo mo' : Nat → Nat} {W P0 t0 N : Nat} {wt wt' : Nat → Int32} {n b : Nat} (hm : ∀ r, r < R → mo r = mo' r) (hw : ∀ r, r < R → wt r = wt' r) (h : BestN R mo W P0 t0 N wt n b) : BestN R mo' W P0 t0 N wt' n b := by
  obtain ⟨h1, h2, h3, h4⟩ := h
  have bk : ∀ c, accN R mo' W P0 t0 N c → accN R mo W P0 t0 N c := fun c hc => acc_congr (fun r hr => (hm r hr).symm) hc
  have be : ∀ c d, accN R mo W P0 t0 N c → accN R mo W P0 t0 N d → (betN mo W P0 wt c d ↔ betN mo' W P0 wt' c d) := by
    intro c d hc hd
    unfold betN
    rw [tm_congr hm hc.1 _ (Nat.le_refl _), tm_congr hm hd.1 _ (Nat.le_refl _), wo_congr hw hc.1 _ (Nat.le_refl _), wo_congr hw hd.1 _ (Nat.le_refl _)]
  exact ⟨h1, acc_congr hm h2, fun c hc ha z => h3 c hc (bk c ha) ((be c b (bk c ha) h2).mpr z), fun c hc ha => (be b c h2 (bk c ha)).mp (h4 c hc (bk c ha))⟩
theorem best_zero {R : Nat} {mo : Nat → Nat} {W P0 t0 N : Nat} {wt : Nat → Int32} : accN R mo W P0 t0 N 0 ∧ cntN 0 5 = 0 ∧ BestN R mo W P0 t0 N wt 0 0 := by
  have hz : ∀ j, j < 5 → dg 0 j = 0 := fun j _ => by unfold dg; rw [Nat.zero_div]
  have hc : cntN 0 5 = 0 := by have := cnt_tail (c := 0) (k := 0) (fun j _ hj => hz j hj) 5 (by omega); exact this
  have ha : accN R mo W P0 t0 N 0 := ⟨fun j hj hd => absurd (hz j hj) hd, Or.inl hc⟩
  refine ⟨ha, hc, Nat.le_refl _, ha, fun c h1 h2 => ?_, fun c h1 => absurd h1 (Nat.not_lt_zero c)⟩
  have : c = 0 := by omega
  subst this
  unfold betN; rw [betV_lt]; omega

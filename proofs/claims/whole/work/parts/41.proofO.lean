theorem chN_zero (x : Nat) : ∀ n i, n < i → chN x n i = 0 := by
  intro n
  induction n with
  | zero => intro i hi; simp [chN]; omega
  | succ n ih =>
    intro i hi
    obtain ⟨j, rfl⟩ : ∃ j, i = j + 1 := ⟨i - 1, by omega⟩
    simp [chN, ih (j + 1) (by omega), ih j (by omega)]
theorem powI_nI (b : Nat) : ∀ n, powI (nI b) n = nI (b ^ n) := by
  intro n
  induction n with
  | zero => rfl
  | succ n ih => rw [powI, ih, pk_mul, Nat.pow_succ]
theorem sumN_congr {f g : Nat → Nat} : ∀ n, (∀ i, i < n → f i = g i) → sumN f n = sumN g n := by
  intro n
  induction n with
  | zero => intro _; rfl
  | succ n ih => intro h; rw [sumN, sumN, ih (fun i hi => h i (by omega)), h n (by omega)]
theorem sumN_add (f : Nat → Nat) (a : Nat) : ∀ b, sumN f (a + b) = sumN f a + sumN (fun i => f (a + i)) b := by
  intro b
  induction b with
  | zero => simp [sumN]
  | succ b ih => rw [← Nat.add_assoc, sumN, ih, sumN, Nat.add_assoc]
theorem sumN_lin (f g : Nat → Nat) (a b : Nat) : ∀ n, sumN (fun i => f i * a + g i * b) n = sumN f n * a + sumN g n * b := by
  intro n
  induction n with
  | zero => simp [sumN]
  | succ n ih => simp only [sumN, ih, Nat.add_mul]; omega
/-- one doing more: the first is overlooked, or noticed -/
def tN (x : Nat) : Nat → (Nat → Bool) → Nat
  | 0, q => if q 0 = true then 1 else 0
  | n + 1, q => tN x n q * x + tN x n (fun i => q (i + 1)) * (10 - x)
theorem oddU_tN (x : Nat) : ∀ n q, oddU x n q = tN x n q := by
  intro n
  induction n with
  | zero => intro q; simp [oddU, tN, sumN, chN]
  | succ n ih =>
    intro q
    rw [tN, ← ih, ← ih]
    unfold oddU
    have e1 : sumN (fun i => if q i = true then chN x (n + 1) i else 0) (1 + (n + 1)) = sumN (fun i => if q i = true then chN x (n + 1) i else 0) 1 + sumN (fun i => if q (1 + i) = true then chN x (n + 1) (1 + i) else 0) (n + 1) := sumN_add _ 1 (n + 1)
    rw [show n + 1 + 1 = 1 + (n + 1) from by omega, e1]
    have e2 : sumN (fun i => if q (1 + i) = true then chN x (n + 1) (1 + i) else 0) (n + 1) = sumN (fun i => (if q (1 + i) = true then chN x n (1 + i) else 0) * x + (if q (i + 1) = true then chN x n i else 0) * (10 - x)) (n + 1) := by
      apply sumN_congr
      intro i _
      rw [Nat.add_comm 1 i]
      by_cases h : q (i + 1) = true <;> simp [h, chN]
    rw [e2, sumN_lin]
    have e3 : sumN (fun i => if q i = true then chN x n i else 0) (1 + (n + 1)) = sumN (fun i => if q i = true then chN x n i else 0) 1 + sumN (fun i => if q (1 + i) = true then chN x n (1 + i) else 0) (n + 1) := sumN_add _ 1 (n + 1)
    have e4 : sumN (fun i => if q i = true then chN x n i else 0) (1 + (n + 1)) = sumN (fun i => if q i = true then chN x n i else 0) (n + 1) := by
      rw [Nat.add_comm 1 (n + 1), sumN, chN_zero x n (n + 1) (by omega)]; simp
    rw [← e4, e3, Nat.add_mul]
    have e5 : sumN (fun i => if q i = true then chN x (n + 1) i else 0) 1 = sumN (fun i => if q i = true then chN x n i else 0) 1 * x := by
      simp only [sumN, chN]; by_cases h : q 0 = true <;> simp [h]
    rw [e5, Nat.add_assoc]
theorem pc_hi : ∀ n, n < 6 → ∀ s, s < 64 → s < 2 ^ n → pcN (2 ^ n + s) = pcN s + 1 ∧ pcN s ≤ n := by decide +kernel
theorem pc_le : ∀ n, n < 7 → ∀ s, s < 64 → s < 2 ^ n → pcN s ≤ n := by decide +kernel
theorem oddM_tN (x : Nat) : ∀ n, n ≤ 6 → ∀ q, oddM x n q (2 ^ n) = tN x n q := by
  intro n
  induction n with
  | zero => intro _ q; simp [oddM, tN, sumN, pcN]
  | succ n ih =>
    intro hn q
    rw [tN, ← ih (by omega), ← ih (by omega)]
    have hp : 2 ^ n ≤ 2 ^ 5 := Nat.pow_le_pow_right (by omega) (by omega)
    unfold oddM
    rw [show 2 ^ (n + 1) = 2 ^ n + 2 ^ n from by rw [Nat.pow_succ]; omega, sumN_add, ← Nat.mul_one (sumN _ (2 ^ n) * x), ← Nat.mul_one (sumN _ (2 ^ n) * (10 - x))]
    have f1 : ∀ (f : Nat → Nat) (c k : Nat), sumN f k * c = sumN (fun i => f i * c) k := by
      intro f c k
      induction k with
      | zero => simp [sumN]
      | succ k ihk => simp only [sumN, Nat.add_mul, ihk]
    rw [Nat.mul_one, Nat.mul_one, f1, f1]
    congr 1
    · apply sumN_congr
      intro s hs
      have h2 := (pc_hi n (by omega) s (by omega) hs).2
      rw [show n + 1 - pcN s = (n - pcN s) + 1 from by omega, Nat.pow_succ]
      by_cases h : q (pcN s) = true <;> simp [h]
      rw [Nat.mul_assoc]
    · apply sumN_congr
      intro s hs
      obtain ⟨h1, h2⟩ := pc_hi n (by omega) s (by omega) hs
      rw [h1, show n + 1 - (pcN s + 1) = n - pcN s from by omega, Nat.pow_succ]
      by_cases h : q (pcN s + 1) = true <;> simp [h]
      rw [Nat.mul_assoc, Nat.mul_assoc, Nat.mul_comm (10 - x)]
theorem tN_le (x : Nat) (hx : x ≤ 10) : ∀ n q, tN x n q ≤ 10 ^ n := by
  intro n
  induction n with
  | zero => intro q; simp only [tN]; split <;> simp
  | succ n ih =>
    intro q
    rw [tN, Nat.pow_succ]
    have h1 := Nat.mul_le_mul_right x (ih q)
    have h2 := Nat.mul_le_mul_right (10 - x) (ih (fun i => q (i + 1)))
    have h3 : 10 ^ n * x + 10 ^ n * (10 - x) = 10 ^ n * 10 := by rw [← Nat.mul_add]; congr 1; omega
    omega
theorem ones_pc : ∀ s, s < 64 → onesI (nI s) = nI (pcN s) := by decide +kernel
theorem shl_pow : ∀ n, n < 7 → (1 : Int32) <<< (nI n &&& 31) = nI (2 ^ n) := by decide +kernel
theorem pow10_le : ∀ n, n ≤ 6 → 10 ^ n ≤ 1000000 := by decide +kernel
def S_X8_countChances : Tr := fun av μ P => ∃ (p1 : Int32) (p2 : Int32), av = [.ref 0, .int p1, .int p2] ∧ pre_X8_countChances p1 p2 μ ∧ ∀ (x : Int32) (m : Mem), post_X8_countChances p1 p2 μ x m → P (some (.int x)) m
def vc_X8_countChances_0 (p1 : Int32) (p2 : Int32)  (μ : Mem) (R : Int32 → Mem → Prop) (J20 : Int32 → Int32 → Mem → Prop) (J30 : Int32 → Int32 → Int32 → Mem → Prop) : Prop :=
  (pre_J7_fill_53178 74 7 0 μ ∧ ∀ (μ2 : Mem), post_J7_fill_53178 74 7 0 μ μ2 → (∀ μ4, μ4 = ui μ2 74 0 1 → J20 1 1 μ4))
set_option maxRecDepth 20000 in
set_option maxHeartbeats 4000000 in
theorem wk_X8_countChances_0 {X : XT} {P : Post} (hO : OkM X cX8_countChances RX8 1 (some .int) P) (hn : xn X = 6) (p1 : Int32) (p2 : Int32)   (μ : Mem) {R : Int32 → Mem → Prop} (hR : ∀ x m, R x m → P (some (.int x)) m) {J20 : Int32 → Int32 → Mem → Prop} {J30 : Int32 → Int32 → Int32 → Mem → Prop} (hJ20 : ∀ (l3 : Int32) (l4 : Int32) (m : Mem), J20 l3 l4 m → V X 20 [some (.ref 0), some (.int p1), some (.int p2), some (.int l3), some (.int l4), none] [] m) (hJ30 : ∀ (l3 : Int32) (l4 : Int32) (l5 : Int32) (m : Mem), J30 l3 l4 l5 m → V X 30 [some (.ref 0), some (.int p1), some (.int p2), some (.int l3), some (.int l4), some (.int l5)] [] m)  (h : vc_X8_countChances_0 p1 p2  μ R J20 J30) : V X 0 [some (.ref 0), some (.int p1), some (.int p2), none, none, none] [] μ := by
  have hX := hO.1
  unfold vc_X8_countChances_0 at h
  refine v_aload_n hX dX8_countChances_0 rfl (?_ : V X 1 [some (.ref 0), some (.int p1), some (.int p2), none, none, none] [.ref 0] μ)
  refine v_getr hX (74) fk_X8_76 sh_0 rfl rfl dX8_countChances_1 (?_ : V X 4 [some (.ref 0), some (.int p1), some (.int p2), none, none, none] [.ref 74] μ)
  refine v_iconst hX 0 dX8_countChances_4 rfl (?_ : V X 5 [some (.ref 0), some (.int p1), some (.int p2), none, none, none] [.int 0, .ref 74] μ)
  refine v_callS hX sp_J7_fill_53178 ck_J7_fill_53178 mk_X8_280 sk_J7_fill_53178 (by decide) [.ref 74, .int 0] [] rfl rfl (Nat.le_of_ble_eq_true rfl) dX8_countChances_5 ⟨74, 7, 0, rfl, ⟨sh_74, by decide⟩, h.1, fun μ2 hp3 => (?_ : V X 8 [some (.ref 0), some (.int p1), some (.int p2), none, none, none] [] μ2)⟩
  replace h := h.2 μ2 hp3
  refine v_aload_n hX dX8_countChances_8 rfl (?_ : V X 9 [some (.ref 0), some (.int p1), some (.int p2), none, none, none] [.ref 0] μ2)
  refine v_getr hX (74) fk_X8_76 sh_0 rfl rfl dX8_countChances_9 (?_ : V X 12 [some (.ref 0), some (.int p1), some (.int p2), none, none, none] [.ref 74] μ2)
  refine v_iconst hX 0 dX8_countChances_12 rfl (?_ : V X 13 [some (.ref 0), some (.int p1), some (.int p2), none, none, none] [.int 0, .ref 74] μ2)
  refine v_iconst hX 1 dX8_countChances_13 rfl (?_ : V X 14 [some (.ref 0), some (.int p1), some (.int p2), none, none, none] [.int 1, .int 0, .ref 74] μ2)
  refine w_iast hX 0 sh_74 (vp_lit (by decide)) (by decide) dX8_countChances_14 (fun μ4 e5 => (?_ : V X 15 [some (.ref 0), some (.int p1), some (.int p2), none, none, none] [] μ4))
  replace h := h μ4 e5
  refine v_iconst hX 1 dX8_countChances_15 rfl (?_ : V X 16 [some (.ref 0), some (.int p1), some (.int p2), none, none, none] [.int 1] μ4)
  refine v_istore_n hX dX8_countChances_16 (by rw [hn]; decide) (?_ : V X 17 [some (.ref 0), some (.int p1), some (.int p2), some (.int 1), none, none] [] μ4)
  refine v_iconst hX 1 dX8_countChances_17 rfl (?_ : V X 18 [some (.ref 0), some (.int p1), some (.int p2), some (.int 1), none, none] [.int 1] μ4)
  refine v_istore hX dX8_countChances_18 (by rw [hn]; decide) (?_ : V X 20 [some (.ref 0), some (.int p1), some (.int p2), some (.int 1), some (.int 1), none] [] μ4)
  exact v_mask [true, true, true, true, true, false] (hJ20 _ _ _ h)
def vc_X8_countChances_20 (p1 : Int32) (p2 : Int32) (l3 : Int32) (l4 : Int32) (μ : Mem) (R : Int32 → Mem → Prop) (J20 : Int32 → Int32 → Mem → Prop) (J30 : Int32 → Int32 → Int32 → Mem → Prop) : Prop :=
  ((p2 < l4 → R l3 μ) ∧ (¬ p2 < l4 → J30 l3 l4 l4 μ))
set_option maxRecDepth 20000 in
set_option maxHeartbeats 4000000 in
theorem wk_X8_countChances_20 {X : XT} {P : Post} (hO : OkM X cX8_countChances RX8 1 (some .int) P) (hn : xn X = 6) (p1 : Int32) (p2 : Int32)  (l3 : Int32) (l4 : Int32) (μ : Mem) {R : Int32 → Mem → Prop} (hR : ∀ x m, R x m → P (some (.int x)) m) {J20 : Int32 → Int32 → Mem → Prop} {J30 : Int32 → Int32 → Int32 → Mem → Prop} (hJ20 : ∀ (l3 : Int32) (l4 : Int32) (m : Mem), J20 l3 l4 m → V X 20 [some (.ref 0), some (.int p1), some (.int p2), some (.int l3), some (.int l4), none] [] m) (hJ30 : ∀ (l3 : Int32) (l4 : Int32) (l5 : Int32) (m : Mem), J30 l3 l4 l5 m → V X 30 [some (.ref 0), some (.int p1), some (.int p2), some (.int l3), some (.int l4), some (.int l5)] [] m)  (h : vc_X8_countChances_20 p1 p2 l3 l4 μ R J20 J30) : V X 20 [some (.ref 0), some (.int p1), some (.int p2), some (.int l3), some (.int l4), none] [] μ := by
  have hX := hO.1
  unfold vc_X8_countChances_20 at h
  refine v_iload hX dX8_countChances_20 rfl (?_ : V X 22 [some (.ref 0), some (.int p1), some (.int p2), some (.int l3), some (.int l4), none] [.int l4] μ)
  refine v_iload_n hX dX8_countChances_22 rfl (?_ : V X 23 [some (.ref 0), some (.int p1), some (.int p2), some (.int l3), some (.int l4), none] [.int p2, .int l4] μ)
  refine v_icmp_gt hX 93 dX8_countChances_23 rfl (fun c1 => ?_) (fun c1 => ?_)
  · replace h := h.1 c1
    refine v_iload_n hX dX8_countChances_93 rfl (?_ : V X 94 [some (.ref 0), some (.int p1), some (.int p2), some (.int l3), some (.int l4), none] [.int l3] μ)
    exact v_iret hO dX8_countChances_94 (hR _ _ h)
  · replace h := h.2 c1
    refine v_iload hX dX8_countChances_26 rfl (?_ : V X 28 [some (.ref 0), some (.int p1), some (.int p2), some (.int l3), some (.int l4), none] [.int l4] μ)
    refine v_istore hX dX8_countChances_28 (by rw [hn]; decide) (?_ : V X 30 [some (.ref 0), some (.int p1), some (.int p2), some (.int l3), some (.int l4), some (.int l4)] [] μ)
    exact v_mask [true, true, true, true, true, true] (hJ30 _ _ _ _ h)
def vc_X8_countChances_30 (p1 : Int32) (p2 : Int32) (l3 : Int32) (l4 : Int32) (l5 : Int32) (μ : Mem) (R : Int32 → Mem → Prop) (J20 : Int32 → Int32 → Mem → Prop) (J30 : Int32 → Int32 → Int32 → Mem → Prop) : Prop :=
  ((l5 ≤ 0 → (∀ μ2, μ2 = ui μ 74 0 ((gi μ 74 0) * p1) → J20 (l3 * 10) (l4 + 1) μ2)) ∧ (¬ l5 ≤ 0 → vp_in l5 7 ∧ vp_in (l5 - 1) 7 ∧ vp_in l5 7 ∧ (∀ μ7, μ7 = ui μ 74 (Int32.toNatClampNeg l5) (((gi μ 74 (Int32.toNatClampNeg l5)) * p1) + ((gi μ 74 (Int32.toNatClampNeg (l5 - 1))) * (10 - p1))) → J30 l3 l4 (l5 + (-1)) μ7)))
set_option maxRecDepth 20000 in
set_option maxHeartbeats 4000000 in
theorem wk_X8_countChances_30 {X : XT} {P : Post} (hO : OkM X cX8_countChances RX8 1 (some .int) P) (hn : xn X = 6) (p1 : Int32) (p2 : Int32)  (l3 : Int32) (l4 : Int32) (l5 : Int32) (μ : Mem) {R : Int32 → Mem → Prop} (hR : ∀ x m, R x m → P (some (.int x)) m) {J20 : Int32 → Int32 → Mem → Prop} {J30 : Int32 → Int32 → Int32 → Mem → Prop} (hJ20 : ∀ (l3 : Int32) (l4 : Int32) (m : Mem), J20 l3 l4 m → V X 20 [some (.ref 0), some (.int p1), some (.int p2), some (.int l3), some (.int l4), none] [] m) (hJ30 : ∀ (l3 : Int32) (l4 : Int32) (l5 : Int32) (m : Mem), J30 l3 l4 l5 m → V X 30 [some (.ref 0), some (.int p1), some (.int p2), some (.int l3), some (.int l4), some (.int l5)] [] m)  (h : vc_X8_countChances_30 p1 p2 l3 l4 l5 μ R J20 J30) : V X 30 [some (.ref 0), some (.int p1), some (.int p2), some (.int l3), some (.int l4), some (.int l5)] [] μ := by
  have hX := hO.1
  unfold vc_X8_countChances_30 at h
  refine v_iload hX dX8_countChances_30 rfl (?_ : V X 32 [some (.ref 0), some (.int p1), some (.int p2), some (.int l3), some (.int l4), some (.int l5)] [.int l5] μ)
  refine v_if_le hX 72 dX8_countChances_32 rfl (fun c1 => ?_) (fun c1 => ?_)
  · replace h := h.1 c1
    refine v_aload_n hX dX8_countChances_72 rfl (?_ : V X 73 [some (.ref 0), some (.int p1), some (.int p2), some (.int l3), some (.int l4), some (.int l5)] [.ref 0] μ)
    refine v_getr hX (74) fk_X8_76 sh_0 rfl rfl dX8_countChances_73 (?_ : V X 76 [some (.ref 0), some (.int p1), some (.int p2), some (.int l3), some (.int l4), some (.int l5)] [.ref 74] μ)
    refine v_iconst hX 0 dX8_countChances_76 rfl (?_ : V X 77 [some (.ref 0), some (.int p1), some (.int p2), some (.int l3), some (.int l4), some (.int l5)] [.int 0, .ref 74] μ)
    refine v_dup2 hX dX8_countChances_77 rfl rfl (?_ : V X 78 [some (.ref 0), some (.int p1), some (.int p2), some (.int l3), some (.int l4), some (.int l5)] [.int 0, .ref 74, .int 0, .ref 74] μ)
    refine w_iald hX 0 sh_74 (vp_lit (by decide)) (by decide) dX8_countChances_78 (?_ : V X 79 [some (.ref 0), some (.int p1), some (.int p2), some (.int l3), some (.int l4), some (.int l5)] [.int (gi μ 74 0), .int 0, .ref 74] μ)
    refine v_iload_n hX dX8_countChances_79 rfl (?_ : V X 80 [some (.ref 0), some (.int p1), some (.int p2), some (.int l3), some (.int l4), some (.int l5)] [.int p1, .int (gi μ 74 0), .int 0, .ref 74] μ)
    refine v_imul hX dX8_countChances_80 (?_ : V X 81 [some (.ref 0), some (.int p1), some (.int p2), some (.int l3), some (.int l4), some (.int l5)] [.int ((gi μ 74 0) * p1), .int 0, .ref 74] μ)
    refine w_iast hX 0 sh_74 (vp_lit (by decide)) (by decide) dX8_countChances_81 (fun μ2 e3 => (?_ : V X 82 [some (.ref 0), some (.int p1), some (.int p2), some (.int l3), some (.int l4), some (.int l5)] [] μ2))
    replace h := h μ2 e3
    refine v_iload_n hX dX8_countChances_82 rfl (?_ : V X 83 [some (.ref 0), some (.int p1), some (.int p2), some (.int l3), some (.int l4), some (.int l5)] [.int l3] μ2)
    refine v_bipush hX 10 dX8_countChances_83 rfl (?_ : V X 85 [some (.ref 0), some (.int p1), some (.int p2), some (.int l3), some (.int l4), some (.int l5)] [.int 10, .int l3] μ2)
    refine v_imul hX dX8_countChances_85 (?_ : V X 86 [some (.ref 0), some (.int p1), some (.int p2), some (.int l3), some (.int l4), some (.int l5)] [.int (l3 * 10)] μ2)
    refine v_istore_n hX dX8_countChances_86 (by rw [hn]; decide) (?_ : V X 87 [some (.ref 0), some (.int p1), some (.int p2), some (.int (l3 * 10)), some (.int l4), some (.int l5)] [] μ2)
    refine v_iinc hX 1 dX8_countChances_87 (by rw [hn]; decide) rfl rfl (?_ : V X 90 [some (.ref 0), some (.int p1), some (.int p2), some (.int (l3 * 10)), some (.int (l4 + 1)), some (.int l5)] [] μ2)
    refine v_goto hX 20 dX8_countChances_90 rfl (?_ : V X 20 [some (.ref 0), some (.int p1), some (.int p2), some (.int (l3 * 10)), some (.int (l4 + 1)), some (.int l5)] [] μ2)
    exact v_mask [true, true, true, true, true, false] (hJ20 _ _ _ h)
  · replace h := h.2 c1
    refine v_aload_n hX dX8_countChances_35 rfl (?_ : V X 36 [some (.ref 0), some (.int p1), some (.int p2), some (.int l3), some (.int l4), some (.int l5)] [.ref 0] μ)
    refine v_getr hX (74) fk_X8_76 sh_0 rfl rfl dX8_countChances_36 (?_ : V X 39 [some (.ref 0), some (.int p1), some (.int p2), some (.int l3), some (.int l4), some (.int l5)] [.ref 74] μ)
    refine v_iload hX dX8_countChances_39 rfl (?_ : V X 41 [some (.ref 0), some (.int p1), some (.int p2), some (.int l3), some (.int l4), some (.int l5)] [.int l5, .ref 74] μ)
    refine v_aload_n hX dX8_countChances_41 rfl (?_ : V X 42 [some (.ref 0), some (.int p1), some (.int p2), some (.int l3), some (.int l4), some (.int l5)] [.ref 0, .int l5, .ref 74] μ)
    refine v_getr hX (74) fk_X8_76 sh_0 rfl rfl dX8_countChances_42 (?_ : V X 45 [some (.ref 0), some (.int p1), some (.int p2), some (.int l3), some (.int l4), some (.int l5)] [.ref 74, .int l5, .ref 74] μ)
    refine v_iload hX dX8_countChances_45 rfl (?_ : V X 47 [some (.ref 0), some (.int p1), some (.int p2), some (.int l3), some (.int l4), some (.int l5)] [.int l5, .ref 74, .int l5, .ref 74] μ)
    have hb4 := h.1
    replace h := h.2
    refine w_iald hX (Int32.toNatClampNeg l5) sh_74 hb4 rfl dX8_countChances_47 (?_ : V X 48 [some (.ref 0), some (.int p1), some (.int p2), some (.int l3), some (.int l4), some (.int l5)] [.int (gi μ 74 (Int32.toNatClampNeg l5)), .int l5, .ref 74] μ)
    refine v_iload_n hX dX8_countChances_48 rfl (?_ : V X 49 [some (.ref 0), some (.int p1), some (.int p2), some (.int l3), some (.int l4), some (.int l5)] [.int p1, .int (gi μ 74 (Int32.toNatClampNeg l5)), .int l5, .ref 74] μ)
    refine v_imul hX dX8_countChances_49 (?_ : V X 50 [some (.ref 0), some (.int p1), some (.int p2), some (.int l3), some (.int l4), some (.int l5)] [.int ((gi μ 74 (Int32.toNatClampNeg l5)) * p1), .int l5, .ref 74] μ)
    refine v_aload_n hX dX8_countChances_50 rfl (?_ : V X 51 [some (.ref 0), some (.int p1), some (.int p2), some (.int l3), some (.int l4), some (.int l5)] [.ref 0, .int ((gi μ 74 (Int32.toNatClampNeg l5)) * p1), .int l5, .ref 74] μ)
    refine v_getr hX (74) fk_X8_76 sh_0 rfl rfl dX8_countChances_51 (?_ : V X 54 [some (.ref 0), some (.int p1), some (.int p2), some (.int l3), some (.int l4), some (.int l5)] [.ref 74, .int ((gi μ 74 (Int32.toNatClampNeg l5)) * p1), .int l5, .ref 74] μ)
    refine v_iload hX dX8_countChances_54 rfl (?_ : V X 56 [some (.ref 0), some (.int p1), some (.int p2), some (.int l3), some (.int l4), some (.int l5)] [.int l5, .ref 74, .int ((gi μ 74 (Int32.toNatClampNeg l5)) * p1), .int l5, .ref 74] μ)
    refine v_iconst hX 1 dX8_countChances_56 rfl (?_ : V X 57 [some (.ref 0), some (.int p1), some (.int p2), some (.int l3), some (.int l4), some (.int l5)] [.int 1, .int l5, .ref 74, .int ((gi μ 74 (Int32.toNatClampNeg l5)) * p1), .int l5, .ref 74] μ)
    refine v_isub hX dX8_countChances_57 (?_ : V X 58 [some (.ref 0), some (.int p1), some (.int p2), some (.int l3), some (.int l4), some (.int l5)] [.int (l5 - 1), .ref 74, .int ((gi μ 74 (Int32.toNatClampNeg l5)) * p1), .int l5, .ref 74] μ)
    have hb5 := h.1
    replace h := h.2
    refine w_iald hX (Int32.toNatClampNeg (l5 - 1)) sh_74 hb5 rfl dX8_countChances_58 (?_ : V X 59 [some (.ref 0), some (.int p1), some (.int p2), some (.int l3), some (.int l4), some (.int l5)] [.int (gi μ 74 (Int32.toNatClampNeg (l5 - 1))), .int ((gi μ 74 (Int32.toNatClampNeg l5)) * p1), .int l5, .ref 74] μ)
    refine v_bipush hX 10 dX8_countChances_59 rfl (?_ : V X 61 [some (.ref 0), some (.int p1), some (.int p2), some (.int l3), some (.int l4), some (.int l5)] [.int 10, .int (gi μ 74 (Int32.toNatClampNeg (l5 - 1))), .int ((gi μ 74 (Int32.toNatClampNeg l5)) * p1), .int l5, .ref 74] μ)
    refine v_iload_n hX dX8_countChances_61 rfl (?_ : V X 62 [some (.ref 0), some (.int p1), some (.int p2), some (.int l3), some (.int l4), some (.int l5)] [.int p1, .int 10, .int (gi μ 74 (Int32.toNatClampNeg (l5 - 1))), .int ((gi μ 74 (Int32.toNatClampNeg l5)) * p1), .int l5, .ref 74] μ)
    refine v_isub hX dX8_countChances_62 (?_ : V X 63 [some (.ref 0), some (.int p1), some (.int p2), some (.int l3), some (.int l4), some (.int l5)] [.int (10 - p1), .int (gi μ 74 (Int32.toNatClampNeg (l5 - 1))), .int ((gi μ 74 (Int32.toNatClampNeg l5)) * p1), .int l5, .ref 74] μ)
    refine v_imul hX dX8_countChances_63 (?_ : V X 64 [some (.ref 0), some (.int p1), some (.int p2), some (.int l3), some (.int l4), some (.int l5)] [.int ((gi μ 74 (Int32.toNatClampNeg (l5 - 1))) * (10 - p1)), .int ((gi μ 74 (Int32.toNatClampNeg l5)) * p1), .int l5, .ref 74] μ)
    refine v_iadd hX dX8_countChances_64 (?_ : V X 65 [some (.ref 0), some (.int p1), some (.int p2), some (.int l3), some (.int l4), some (.int l5)] [.int (((gi μ 74 (Int32.toNatClampNeg l5)) * p1) + ((gi μ 74 (Int32.toNatClampNeg (l5 - 1))) * (10 - p1))), .int l5, .ref 74] μ)
    have hb6 := h.1
    replace h := h.2
    refine w_iast hX (Int32.toNatClampNeg l5) sh_74 hb6 rfl dX8_countChances_65 (fun μ7 e8 => (?_ : V X 66 [some (.ref 0), some (.int p1), some (.int p2), some (.int l3), some (.int l4), some (.int l5)] [] μ7))
    replace h := h μ7 e8
    refine v_iinc hX (-1) dX8_countChances_66 (by rw [hn]; decide) rfl rfl (?_ : V X 69 [some (.ref 0), some (.int p1), some (.int p2), some (.int l3), some (.int l4), some (.int (l5 + (-1)))] [] μ7)
    refine v_goto hX 30 dX8_countChances_69 rfl (?_ : V X 30 [some (.ref 0), some (.int p1), some (.int p2), some (.int l3), some (.int l4), some (.int (l5 + (-1)))] [] μ7)
    exact v_mask [true, true, true, true, true, true] (hJ30 _ _ _ _ h)
set_option maxRecDepth 20000 in
set_option maxHeartbeats 4000000 in
theorem vp_X8_countChances_0 (p1 : Int32) (p2 : Int32)  (μ : Mem) (hpre : pre_X8_countChances p1 p2 μ) : vc_X8_countChances_0 p1 p2 μ (post_X8_countChances p1 p2 μ) (fun l3 l4 m => ∃ k : Nat, inv_X8_countChances_20 p1 p2 μ k l3 l4 m) (fun l3 l4 l5 m => ∃ k : Nat, inv_X8_countChances_30 p1 p2 μ k l3 l4 l5 m) := by
  unfold vc_X8_countChances_0
  obtain ⟨e1, b1, e2, b2⟩ := hpre
  refine ⟨by unfold pre_J7_fill_53178; omega, ?_⟩
  rintro m ⟨hf, hv⟩ _ rfl
  refine ⟨p2.toNatClampNeg * 100, 0, by omega, rfl, rfl, rfl, fr_trans hf (fr_ui (by simp)), fun i hi => ?_⟩
  rw [gi_ui, hv i hi]
  by_cases h : i = 0 <;> simp [h, chN] <;> rfl
set_option maxRecDepth 20000 in
set_option maxHeartbeats 4000000 in
theorem vp_X8_countChances_20 (p1 : Int32) (p2 : Int32)  (μ : Mem) (hpre : pre_X8_countChances p1 p2 μ) (n : Nat) (l3 : Int32) (l4 : Int32) (μ0 : Mem) (hi : inv_X8_countChances_20 p1 p2 μ n l3 l4 μ0) : vc_X8_countChances_20 p1 p2 l3 l4 μ0 (post_X8_countChances p1 p2 μ) (fun l3 l4 m => ∃ k : Nat, k < n ∧ inv_X8_countChances_20 p1 p2 μ k l3 l4 m) (fun l3 l4 l5 m => ∃ k : Nat, k < n ∧ inv_X8_countChances_30 p1 p2 μ k l3 l4 l5 m) := by
  simp only [vc_X8_countChances_20, pre_J7_fill_53178, post_J7_fill_53178, and_imp, call_eq, forall_eq, forall_const, true_and, and_true]
  obtain ⟨e1, b1, e2, b2⟩ := hpre
  obtain ⟨k, hk, rfl, rfl, rfl, hf, hv⟩ := hi
  have hc : p2 < nI (k + 1) ↔ p2.toNatClampNeg < k + 1 := by
    rw [← nI_ltI (a := p2.toNatClampNeg) (b := k + 1) (by omega) (by omega), ← e2]
  rw [hc]
  refine ⟨fun c => ?_, fun c => ⟨(p2.toNatClampNeg - k - 1) * 100 + 10 + (k + 1), by omega, k, k + 1, by omega, by omega, rfl, rfl, rfl, rfl, hf, fun j hj => hv j (by omega), fun j h1 h2 => ?_⟩⟩
  · have : k = p2.toNatClampNeg := by omega
    subst this
    exact ⟨rfl, hf, hv⟩
  · rw [hv j h2, chN_zero _ k j (by omega), chN_zero _ (k + 1) j (by omega)]
set_option maxRecDepth 20000 in
set_option maxHeartbeats 4000000 in
theorem vp_X8_countChances_30 (p1 : Int32) (p2 : Int32)  (μ : Mem) (hpre : pre_X8_countChances p1 p2 μ) (n : Nat) (l3 : Int32) (l4 : Int32) (l5 : Int32) (μ0 : Mem) (hi : inv_X8_countChances_30 p1 p2 μ n l3 l4 l5 μ0) : vc_X8_countChances_30 p1 p2 l3 l4 l5 μ0 (post_X8_countChances p1 p2 μ) (fun l3 l4 m => ∃ k : Nat, k < n ∧ inv_X8_countChances_20 p1 p2 μ k l3 l4 m) (fun l3 l4 l5 m => ∃ k : Nat, k < n ∧ inv_X8_countChances_30 p1 p2 μ k l3 l4 l5 m) := by
  simp only [vc_X8_countChances_30, pre_J7_fill_53178, post_J7_fill_53178, and_imp, call_eq, forall_eq, forall_const, true_and, and_true]
  obtain ⟨e1, b1, e2, b2⟩ := hpre
  obtain ⟨k, i, hk, hik, rfl, rfl, rfl, rfl, hf, h1, h2⟩ := hi
  have e10 : (10 : Int32) - p1 = nI (10 - p1.toNatClampNeg) := by
    have h := pk_sub (a := 10) (b := p1.toNatClampNeg) b1
    rw [← e1] at h; exact h
  rw [show (0 : Int32) = nI 0 from rfl, nI_leI (by omega) (by omega)]
  refine ⟨fun c => ?_, fun c => ?_⟩
  · have : i = 0 := by omega
    subst this
    refine ⟨(p2.toNatClampNeg - (k + 1)) * 100, by omega, k + 1, by omega, rfl, nI_1 (k + 1), ?_, fr_trans hf (fr_ui (by simp)), fun j hj => ?_⟩
    · rw [show (10 : Int32) = nI 10 from rfl, pk_mul, Nat.pow_succ]
    · rw [gi_ui]
      by_cases z : j = 0
      · subst z
        rw [if_pos ⟨rfl, rfl⟩, h1 0 (by omega)]
        rw [e1, nI_clamp (by omega), pk_mul]; rfl
      · rw [if_neg (by simp [z]), h2 j (by omega) hj]
  · obtain ⟨t, rfl⟩ : ∃ t, i = t + 1 := ⟨i - 1, by omega⟩
    rw [nI_pred, nI_clamp (by omega), nI_clamp (by omega)]
    refine ⟨vp_in_nI (by omega) (by omega), vp_in_nI (by omega) (by omega), vp_in_nI (by omega) (by omega), (p2.toNatClampNeg - k - 1) * 100 + 10 + t, by omega, k, t, hk, by omega, rfl, rfl, rfl, ?_, fr_trans hf (fr_ui (by simp)), fun j hj => ?_, fun j hj1 hj2 => ?_⟩
    · rw [pk_m1]
    · rw [gi_ui, if_neg (by omega), h1 j (by omega)]
    · rw [gi_ui]
      by_cases z : j = t + 1
      · subst z
        rw [if_pos ⟨rfl, rfl⟩, h1 (t + 1) (by omega), h1 t (by omega), e10]
        conv => lhs; rw [e1]
        rw [nI_clamp (by omega), pk_mul, pk_mul, nI_add]; rfl
      · rw [if_neg (by omega), h2 j (by omega) hj2]
theorem sp_X8_countChances : Sp yX8_countChances cX8_countChances 6 (some .int) 1 S_X8_countChances := by
  refine sp_of (by decide) (fun av μ P h => ?_) ?_
  · obtain ⟨p1, p2, rfl, -⟩ := h
    refine ⟨Nat.le_of_ble_eq_true rfl, fun v hv => ?_⟩
    simp only [List.mem_cons, List.not_mem_nil, or_false] at hv
    rcases hv with rfl | rfl | rfl <;> rfl
  · rintro X P hO _ μ ⟨p1, p2, rfl, hpre, hpost⟩ hn
    have hJ : ∀ n : Nat, (∀ (l3 : Int32) (l4 : Int32) (m : Mem), inv_X8_countChances_20 p1 p2 μ n l3 l4 m → V X 20 [some (.ref 0), some (.int p1), some (.int p2), some (.int l3), some (.int l4), none] [] m) ∧ (∀ (l3 : Int32) (l4 : Int32) (l5 : Int32) (m : Mem), inv_X8_countChances_30 p1 p2 μ n l3 l4 l5 m → V X 30 [some (.ref 0), some (.int p1), some (.int p2), some (.int l3), some (.int l4), some (.int l5)] [] m) := by
      intro n
      induction n using Nat.strongRecOn with
      | _ n ih =>
        exact ⟨fun l3 l4 m hi => wk_X8_countChances_20 (J20 := (fun l3 l4 m => ∃ k : Nat, k < n ∧ inv_X8_countChances_20 p1 p2 μ k l3 l4 m)) (J30 := (fun l3 l4 l5 m => ∃ k : Nat, k < n ∧ inv_X8_countChances_30 p1 p2 μ k l3 l4 l5 m)) hO hn p1 p2  l3 l4 m hpost (fun l3 l4 m hk => by obtain ⟨k, hk, hi⟩ := hk; exact (ih k hk).1 l3 l4 m hi) (fun l3 l4 l5 m hk => by obtain ⟨k, hk, hi⟩ := hk; exact (ih k hk).2 l3 l4 l5 m hi) (vp_X8_countChances_20 p1 p2  μ hpre n l3 l4 m hi), fun l3 l4 l5 m hi => wk_X8_countChances_30 (J20 := (fun l3 l4 m => ∃ k : Nat, k < n ∧ inv_X8_countChances_20 p1 p2 μ k l3 l4 m)) (J30 := (fun l3 l4 l5 m => ∃ k : Nat, k < n ∧ inv_X8_countChances_30 p1 p2 μ k l3 l4 l5 m)) hO hn p1 p2  l3 l4 l5 m hpost (fun l3 l4 m hk => by obtain ⟨k, hk, hi⟩ := hk; exact (ih k hk).1 l3 l4 m hi) (fun l3 l4 l5 m hk => by obtain ⟨k, hk, hi⟩ := hk; exact (ih k hk).2 l3 l4 l5 m hi) (vp_X8_countChances_30 p1 p2  μ hpre n l3 l4 l5 m hi)⟩
    exact wk_X8_countChances_0 (J20 := (fun l3 l4 m => ∃ k : Nat, inv_X8_countChances_20 p1 p2 μ k l3 l4 m)) (J30 := (fun l3 l4 l5 m => ∃ k : Nat, inv_X8_countChances_30 p1 p2 μ k l3 l4 l5 m)) hO hn p1 p2  μ hpost (fun l3 l4 m hk => by obtain ⟨k, hi⟩ := hk; exact (hJ k).1 l3 l4 m hi) (fun l3 l4 l5 m hk => by obtain ⟨k, hi⟩ := hk; exact (hJ k).2 l3 l4 l5 m hi) (vp_X8_countChances_0 p1 p2  μ hpre)
def S_X8_commonDivisor : Tr := fun av μ P => ∃ (p1 : Int32) (p2 : Int32), av = [.int p1, .int p2] ∧ pre_X8_commonDivisor p1 p2 μ ∧ ∀ (x : Int32) (m : Mem), post_X8_commonDivisor p1 p2 μ x m → P (some (.int x)) m
def vc_X8_commonDivisor_0 (p1 : Int32) (p2 : Int32)  (μ : Mem) (R : Int32 → Mem → Prop) (J7 : Int32 → Int32 → Int32 → Mem → Prop) : Prop :=
  J7 p1 p2 0 μ
set_option maxRecDepth 20000 in
set_option maxHeartbeats 4000000 in
theorem wk_X8_commonDivisor_0 {X : XT} {P : Post} (hO : OkM X cX8_commonDivisor RX8 0 (some .int) P) (hn : xn X = 6) (p1 : Int32) (p2 : Int32)   (μ : Mem) {R : Int32 → Mem → Prop} (hR : ∀ x m, R x m → P (some (.int x)) m) {J7 : Int32 → Int32 → Int32 → Mem → Prop} (hJ7 : ∀ (l2 : Int32) (l3 : Int32) (l4 : Int32) (m : Mem), J7 l2 l3 l4 m → V X 7 [some (.int p1), some (.int p2), some (.int l2), some (.int l3), some (.int l4), none] [] m)  (h : vc_X8_commonDivisor_0 p1 p2  μ R J7) : V X 0 [some (.int p1), some (.int p2), none, none, none, none] [] μ := by
  have hX := hO.1
  unfold vc_X8_commonDivisor_0 at h
  refine v_iload_n hX dX8_commonDivisor_0 rfl (?_ : V X 1 [some (.int p1), some (.int p2), none, none, none, none] [.int p1] μ)
  refine v_istore_n hX dX8_commonDivisor_1 (by rw [hn]; decide) (?_ : V X 2 [some (.int p1), some (.int p2), some (.int p1), none, none, none] [] μ)
  refine v_iload_n hX dX8_commonDivisor_2 rfl (?_ : V X 3 [some (.int p1), some (.int p2), some (.int p1), none, none, none] [.int p2] μ)
  refine v_istore_n hX dX8_commonDivisor_3 (by rw [hn]; decide) (?_ : V X 4 [some (.int p1), some (.int p2), some (.int p1), some (.int p2), none, none] [] μ)
  refine v_iconst hX 0 dX8_commonDivisor_4 rfl (?_ : V X 5 [some (.int p1), some (.int p2), some (.int p1), some (.int p2), none, none] [.int 0] μ)
  refine v_istore hX dX8_commonDivisor_5 (by rw [hn]; decide) (?_ : V X 7 [some (.int p1), some (.int p2), some (.int p1), some (.int p2), some (.int 0), none] [] μ)
  exact v_mask [true, true, true, true, true, false] (hJ7 _ _ _ _ h)
def vc_X8_commonDivisor_7 (p1 : Int32) (p2 : Int32) (l2 : Int32) (l3 : Int32) (l4 : Int32) (μ : Mem) (R : Int32 → Mem → Prop) (J7 : Int32 → Int32 → Int32 → Mem → Prop) : Prop :=
  ((64 ≤ l4 → ((¬ l2 = 0 → R l2 μ) ∧ (l2 = 0 → R 1 μ))) ∧ (¬ 64 ≤ l4 → ((l3 = 0 → ((¬ l2 = 0 → R l2 μ) ∧ (l2 = 0 → R 1 μ))) ∧ (¬ l3 = 0 → (¬ l3 = 0) ∧ J7 l3 (l2 - l2 / l3 * l3) (l4 + 1) μ))))
set_option maxRecDepth 20000 in
set_option maxHeartbeats 4000000 in
theorem wk_X8_commonDivisor_7 {X : XT} {P : Post} (hO : OkM X cX8_commonDivisor RX8 0 (some .int) P) (hn : xn X = 6) (p1 : Int32) (p2 : Int32)  (l2 : Int32) (l3 : Int32) (l4 : Int32) (μ : Mem) {R : Int32 → Mem → Prop} (hR : ∀ x m, R x m → P (some (.int x)) m) {J7 : Int32 → Int32 → Int32 → Mem → Prop} (hJ7 : ∀ (l2 : Int32) (l3 : Int32) (l4 : Int32) (m : Mem), J7 l2 l3 l4 m → V X 7 [some (.int p1), some (.int p2), some (.int l2), some (.int l3), some (.int l4), none] [] m)  (h : vc_X8_commonDivisor_7 p1 p2 l2 l3 l4 μ R J7) : V X 7 [some (.int p1), some (.int p2), some (.int l2), some (.int l3), some (.int l4), none] [] μ := by
  have hX := hO.1
  unfold vc_X8_commonDivisor_7 at h
  refine v_iload hX dX8_commonDivisor_7 rfl (?_ : V X 9 [some (.int p1), some (.int p2), some (.int l2), some (.int l3), some (.int l4), none] [.int l4] μ)
  refine v_bipush hX 64 dX8_commonDivisor_9 rfl (?_ : V X 11 [some (.int p1), some (.int p2), some (.int l2), some (.int l3), some (.int l4), none] [.int 64, .int l4] μ)
  refine v_icmp_ge hX 34 dX8_commonDivisor_11 rfl (fun c1 => ?_) (fun c1 => ?_)
  · replace h := h.1 c1
    refine v_iload_n hX dX8_commonDivisor_34 rfl (?_ : V X 35 [some (.int p1), some (.int p2), some (.int l2), some (.int l3), some (.int l4), none] [.int l2] μ)
    refine v_if_ne hX 42 dX8_commonDivisor_35 rfl (fun c2 => ?_) (fun c2 => ?_)
    · replace h := h.1 c2
      refine v_iload_n hX dX8_commonDivisor_42 rfl (?_ : V X 43 [some (.int p1), some (.int p2), some (.int l2), some (.int l3), some (.int l4), none] [.int l2] μ)
      exact v_iret hO dX8_commonDivisor_43 (hR _ _ h)
    · replace h := h.2 c2
      refine v_iconst hX 1 dX8_commonDivisor_38 rfl (?_ : V X 39 [some (.int p1), some (.int p2), some (.int l2), some (.int l3), some (.int l4), none] [.int 1] μ)
      refine v_goto hX 43 dX8_commonDivisor_39 rfl (?_ : V X 43 [some (.int p1), some (.int p2), some (.int l2), some (.int l3), some (.int l4), none] [.int 1] μ)
      exact v_iret hO dX8_commonDivisor_43 (hR _ _ h)
  · replace h := h.2 c1
    refine v_iload_n hX dX8_commonDivisor_14 rfl (?_ : V X 15 [some (.int p1), some (.int p2), some (.int l2), some (.int l3), some (.int l4), none] [.int l3] μ)
    refine v_if_eq hX 34 dX8_commonDivisor_15 rfl (fun c3 => ?_) (fun c3 => ?_)
    · replace h := h.1 c3
      refine v_iload_n hX dX8_commonDivisor_34 rfl (?_ : V X 35 [some (.int p1), some (.int p2), some (.int l2), some (.int l3), some (.int l4), none] [.int l2] μ)
      refine v_if_ne hX 42 dX8_commonDivisor_35 rfl (fun c4 => ?_) (fun c4 => ?_)
      · replace h := h.1 c4
        refine v_iload_n hX dX8_commonDivisor_42 rfl (?_ : V X 43 [some (.int p1), some (.int p2), some (.int l2), some (.int l3), some (.int l4), none] [.int l2] μ)
        exact v_iret hO dX8_commonDivisor_43 (hR _ _ h)
      · replace h := h.2 c4
        refine v_iconst hX 1 dX8_commonDivisor_38 rfl (?_ : V X 39 [some (.int p1), some (.int p2), some (.int l2), some (.int l3), some (.int l4), none] [.int 1] μ)
        refine v_goto hX 43 dX8_commonDivisor_39 rfl (?_ : V X 43 [some (.int p1), some (.int p2), some (.int l2), some (.int l3), some (.int l4), none] [.int 1] μ)
        exact v_iret hO dX8_commonDivisor_43 (hR _ _ h)
    · replace h := h.2 c3
      refine v_iload_n hX dX8_commonDivisor_18 rfl (?_ : V X 19 [some (.int p1), some (.int p2), some (.int l2), some (.int l3), some (.int l4), none] [.int l2] μ)
      refine v_iload_n hX dX8_commonDivisor_19 rfl (?_ : V X 20 [some (.int p1), some (.int p2), some (.int l2), some (.int l3), some (.int l4), none] [.int l3, .int l2] μ)
      refine v_irem hX dX8_commonDivisor_20 h.1 (?_ : V X 21 [some (.int p1), some (.int p2), some (.int l2), some (.int l3), some (.int l4), none] [.int (l2 - l2 / l3 * l3)] μ)
      replace h := h.2
      refine v_istore hX dX8_commonDivisor_21 (by rw [hn]; decide) (?_ : V X 23 [some (.int p1), some (.int p2), some (.int l2), some (.int l3), some (.int l4), some (.int (l2 - l2 / l3 * l3))] [] μ)
      refine v_iload_n hX dX8_commonDivisor_23 rfl (?_ : V X 24 [some (.int p1), some (.int p2), some (.int l2), some (.int l3), some (.int l4), some (.int (l2 - l2 / l3 * l3))] [.int l3] μ)
      refine v_istore_n hX dX8_commonDivisor_24 (by rw [hn]; decide) (?_ : V X 25 [some (.int p1), some (.int p2), some (.int l3), some (.int l3), some (.int l4), some (.int (l2 - l2 / l3 * l3))] [] μ)
      refine v_iload hX dX8_commonDivisor_25 rfl (?_ : V X 27 [some (.int p1), some (.int p2), some (.int l3), some (.int l3), some (.int l4), some (.int (l2 - l2 / l3 * l3))] [.int (l2 - l2 / l3 * l3)] μ)
      refine v_istore_n hX dX8_commonDivisor_27 (by rw [hn]; decide) (?_ : V X 28 [some (.int p1), some (.int p2), some (.int l3), some (.int (l2 - l2 / l3 * l3)), some (.int l4), some (.int (l2 - l2 / l3 * l3))] [] μ)
      refine v_iinc hX 1 dX8_commonDivisor_28 (by rw [hn]; decide) rfl rfl (?_ : V X 31 [some (.int p1), some (.int p2), some (.int l3), some (.int (l2 - l2 / l3 * l3)), some (.int (l4 + 1)), some (.int (l2 - l2 / l3 * l3))] [] μ)
      refine v_goto hX 7 dX8_commonDivisor_31 rfl (?_ : V X 7 [some (.int p1), some (.int p2), some (.int l3), some (.int (l2 - l2 / l3 * l3)), some (.int (l4 + 1)), some (.int (l2 - l2 / l3 * l3))] [] μ)
      exact v_mask [true, true, true, true, true, false] (hJ7 _ _ _ _ h)
set_option maxRecDepth 20000 in
set_option maxHeartbeats 4000000 in
theorem vp_X8_commonDivisor_0 (p1 : Int32) (p2 : Int32)  (μ : Mem) (hpre : pre_X8_commonDivisor p1 p2 μ) : vc_X8_commonDivisor_0 p1 p2 μ (post_X8_commonDivisor p1 p2 μ) (fun l2 l3 l4 m => ∃ k : Nat, inv_X8_commonDivisor_7 p1 p2 μ k l2 l3 l4 m) := by
  simp only [vc_X8_commonDivisor_0, and_imp, call_eq, forall_eq, forall_const, true_and, and_true]
  obtain ⟨e1, e2, h1, h2, h3⟩ := hpre
  refine ⟨40, 0, p1.toNatClampNeg, p2.toNatClampNeg, by omega, rfl, rfl, e1, e2, h1, h2, h3, ?_, rfl, rfl⟩
  have : p1.toNatClampNeg * p2.toNatClampNeg ≤ 1000000 * 1000000 := Nat.mul_le_mul h2 (by omega)
  exact Nat.lt_of_le_of_lt this (by decide)
set_option maxRecDepth 20000 in
set_option maxHeartbeats 4000000 in
theorem vp_X8_commonDivisor_7 (p1 : Int32) (p2 : Int32)  (μ : Mem) (hpre : pre_X8_commonDivisor p1 p2 μ) (n : Nat) (l2 : Int32) (l3 : Int32) (l4 : Int32) (μ0 : Mem) (hi : inv_X8_commonDivisor_7 p1 p2 μ n l2 l3 l4 μ0) : vc_X8_commonDivisor_7 p1 p2 l2 l3 l4 μ0 (post_X8_commonDivisor p1 p2 μ) (fun l2 l3 l4 m => ∃ k : Nat, k < n ∧ inv_X8_commonDivisor_7 p1 p2 μ k l2 l3 l4 m) := by
  simp only [vc_X8_commonDivisor_7, and_imp, call_eq, forall_eq, forall_const, true_and, and_true]
  obtain ⟨e1, e2, h1, h2, h3⟩ := hpre
  obtain ⟨i, a, b, hi1, rfl, rfl, rfl, rfl, ha, ha2, hba, hab, hg, rfl⟩ := hi
  rw [show (64 : Int32) = nI 64 from rfl, show (0 : Int32) = nI 0 from rfl, nI_leI (by omega) (by omega), nI_eq (by omega) (by omega), nI_eq (by omega) (by omega)]
  refine ⟨fun c => absurd c (by omega), fun c => ⟨fun c2 => ⟨fun _ => ?_, fun z => absurd z (by omega)⟩, fun c2 => ⟨c2, ?_⟩⟩⟩
  · subst c2
    rw [Nat.gcd_zero_right] at hg
    exact ⟨by rw [hg], rfl⟩
  · have hi2 : i < 40 := by
      rcases Nat.lt_or_ge i 40 with z | z
      · exact z
      · exfalso
        have : i = 40 := by omega
        subst this
        have h0 : 0 < a * b := Nat.mul_pos ha (by omega)
        simp at hab; omega
    have hr : a % b * 2 ≤ a := by
      have h4 := Nat.mod_lt a (show 0 < b by omega)
      have h5 := Nat.div_add_mod a b
      have h6 : 1 ≤ a / b := Nat.div_pos hba (by omega)
      have h7 : b * 1 ≤ b * (a / b) := Nat.mul_le_mul_left b h6
      omega
    refine ⟨40 - (i + 1), by omega, i + 1, b, a % b, by omega, rfl, nI_1 i, rfl, pk_rem (by omega) (by omega) (by omega), by omega, by omega, Nat.le_of_lt (Nat.mod_lt _ (by omega)), ?_, ?_, rfl⟩
    · have h8 : b * (a % b) * 2 ≤ a * b := by
        rw [Nat.mul_assoc, Nat.mul_comm a b]; exact Nat.mul_le_mul_left b hr
      have h9 : 2 ^ (40 - i) = 2 ^ (40 - (i + 1)) * 2 := by rw [← Nat.pow_succ]; congr 1; omega
      omega
    · rw [← hg, Nat.gcd_comm a b, Nat.gcd_rec b a, Nat.gcd_comm]
theorem sp_X8_commonDivisor : Sp yX8_commonDivisor cX8_commonDivisor 6 (some .int) 0 S_X8_commonDivisor := by
  refine sp_of (by decide) (fun av μ P h => ?_) ?_
  · obtain ⟨p1, p2, rfl, -⟩ := h
    refine ⟨Nat.le_of_ble_eq_true rfl, fun v hv => ?_⟩
    simp only [List.mem_cons, List.not_mem_nil, or_false] at hv
    rcases hv with rfl | rfl <;> rfl
  · rintro X P hO _ μ ⟨p1, p2, rfl, hpre, hpost⟩ hn
    have hJ : ∀ n : Nat, (∀ (l2 : Int32) (l3 : Int32) (l4 : Int32) (m : Mem), inv_X8_commonDivisor_7 p1 p2 μ n l2 l3 l4 m → V X 7 [some (.int p1), some (.int p2), some (.int l2), some (.int l3), some (.int l4), none] [] m) := by
      intro n
      induction n using Nat.strongRecOn with
      | _ n ih =>
        exact fun l2 l3 l4 m hi => wk_X8_commonDivisor_7 (J7 := (fun l2 l3 l4 m => ∃ k : Nat, k < n ∧ inv_X8_commonDivisor_7 p1 p2 μ k l2 l3 l4 m)) hO hn p1 p2  l2 l3 l4 m hpost (fun l2 l3 l4 m hk => by obtain ⟨k, hk, hi⟩ := hk; exact (ih k hk) l2 l3 l4 m hi) (vp_X8_commonDivisor_7 p1 p2  μ hpre n l2 l3 l4 m hi)
    exact wk_X8_commonDivisor_0 (J7 := (fun l2 l3 l4 m => ∃ k : Nat, inv_X8_commonDivisor_7 p1 p2 μ k l2 l3 l4 m)) hO hn p1 p2  μ hpost (fun l2 l3 l4 m hk => by obtain ⟨k, hi⟩ := hk; exact (hJ k) l2 l3 l4 m hi) (vp_X8_commonDivisor_0 p1 p2  μ hpre)
def S_X8_odds : Tr := fun av μ P => ∃ (p1 : Int32) (p2 : Int32) (p3 : Int32) (p4 : Int32) (p5 : Int32), av = [.ref 0, .int p1, .int p2, .int p3, .int p4, .int p5] ∧ pre_X8_odds p1 p2 p3 p4 p5 μ ∧ ∀ (x : Int32) (m : Mem), post_X8_odds p1 p2 p3 p4 p5 μ x m → P (some (.int x)) m
def vc_X8_odds_0 (p1 : Int32) (p2 : Int32) (p3 : Int32) (p4 : Int32) (p5 : Int32)  (μ : Mem) (R : Int32 → Mem → Prop) (J88 : Int32 → Int32 → Int32 → Mem → Prop) : Prop :=
  ((gp μ 1) = 3 ∨ (gp μ 1) = 10) ∧ (pre_X2_hasRoom ((gp μ 1)) p1 μ ∧ ∀ (x2 : Int32) (μ3 : Mem), post_X2_hasRoom ((gp μ 1)) p1 μ x2 μ3 → ((x2 = 0 → R ((-1)) μ3) ∧ (¬ x2 = 0 → ((gp μ3 1) = 3 ∨ (gp μ3 1) = 10) ∧ (pre_X2_hasDoing ((gp μ3 1)) p2 μ3 ∧ ∀ (x7 : Int32) (μ8 : Mem), post_X2_hasDoing ((gp μ3 1)) p2 μ3 x7 μ8 → ((x7 = 0 → R ((-1)) μ8) ∧ (¬ x7 = 0 → ((p5 < 0 → R ((-1)) μ8) ∧ (¬ p5 < 0 → ((p5 ≤ 1 → ((p3 < 0 → R ((-1)) μ8) ∧ (¬ p3 < 0 → ((10 < p3 → R ((-1)) μ8) ∧ (¬ 10 < p3 → ((p4 < 0 → R ((-1)) μ8) ∧ (¬ p4 < 0 → ((p4 ≤ 6 → (pre_X7_isSolved p1 μ8 ∧ ∀ (x17 : Int32) (μ18 : Mem), post_X7_isSolved p1 μ8 x17 μ18 → ((x17 = 0 → (pre_X8_countChances p3 p4 μ18 ∧ ∀ (x21 : Int32) (μ22 : Mem), post_X8_countChances p3 p4 μ18 x21 μ22 → J88 x21 0 0 μ22)) ∧ (¬ x17 = 0 → R ((-2)) μ18)))) ∧ (¬ p4 ≤ 6 → R ((-1)) μ8))))))))) ∧ (¬ p5 ≤ 1 → R ((-1)) μ8))))))))))
set_option maxRecDepth 20000 in
set_option maxHeartbeats 4000000 in
theorem wk_X8_odds_0 {X : XT} {P : Post} (hO : OkM X cX8_odds RX8 2 (some .int) P) (hn : xn X = 9) (p1 : Int32) (p2 : Int32) (p3 : Int32) (p4 : Int32) (p5 : Int32)   (μ : Mem) {R : Int32 → Mem → Prop} (hR : ∀ x m, R x m → P (some (.int x)) m) {J88 : Int32 → Int32 → Int32 → Mem → Prop} (hJ88 : ∀ (l6 : Int32) (l7 : Int32) (l8 : Int32) (m : Mem), J88 l6 l7 l8 m → V X 88 [some (.ref 0), some (.int p1), some (.int p2), some (.int p3), some (.int p4), some (.int p5), some (.int l6), some (.int l7), some (.int l8)] [] m)  (h : vc_X8_odds_0 p1 p2 p3 p4 p5  μ R J88) : V X 0 [some (.ref 0), some (.int p1), some (.int p2), some (.int p3), some (.int p4), some (.int p5), none, none, none] [] μ := by
  have hX := hO.1
  unfold vc_X8_odds_0 at h
  refine v_aload_n hX dX8_odds_0 rfl (?_ : V X 1 [some (.ref 0), some (.int p1), some (.int p2), some (.int p3), some (.int p4), some (.int p5), none, none, none] [.ref 0] μ)
  have hh1 := h.1
  replace h := h.2
  refine v_getp hX (gp μ 1) fk_X8_19 sh_0 rfl rfl dX8_odds_1 (?_ : V X 4 [some (.ref 0), some (.int p1), some (.int p2), some (.int p3), some (.int p4), some (.int p5), none, none, none] [.ref ((gp μ 1))] μ)
  refine v_iload_n hX dX8_odds_4 rfl (?_ : V X 5 [some (.ref 0), some (.int p1), some (.int p2), some (.int p3), some (.int p4), some (.int p5), none, none, none] [.int p1, .ref ((gp μ 1))] μ)
  refine v_callV hX sp_X2_hasRoom ck_X2_hasRoom mk_X8_108 mv_X2_hasRoom (sHo hh1) (by decide) (by decide) [.int p1] [] rfl rfl (Nat.le_of_ble_eq_true rfl) dX8_odds_5 ⟨((gp μ 1)), p1, rfl, hh1, h.1, fun x2 μ3 hp4 => (?_ : V X 8 [some (.ref 0), some (.int p1), some (.int p2), some (.int p3), some (.int p4), some (.int p5), none, none, none] [.int x2] μ3)⟩
  replace h := h.2 x2 μ3 hp4
  refine v_if_eq hX 33 dX8_odds_8 rfl (fun c5 => ?_) (fun c5 => ?_)
  · replace h := h.1 c5
    refine v_iconst hX (-1) dX8_odds_33 rfl (?_ : V X 34 [some (.ref 0), some (.int p1), some (.int p2), some (.int p3), some (.int p4), some (.int p5), none, none, none] [.int ((-1))] μ3)
    exact v_iret hO dX8_odds_34 (hR _ _ h)
  · replace h := h.2 c5
    refine v_aload_n hX dX8_odds_11 rfl (?_ : V X 12 [some (.ref 0), some (.int p1), some (.int p2), some (.int p3), some (.int p4), some (.int p5), none, none, none] [.ref 0] μ3)
    have hh6 := h.1
    replace h := h.2
    refine v_getp hX (gp μ3 1) fk_X8_19 sh_0 rfl rfl dX8_odds_12 (?_ : V X 15 [some (.ref 0), some (.int p1), some (.int p2), some (.int p3), some (.int p4), some (.int p5), none, none, none] [.ref ((gp μ3 1))] μ3)
    refine v_iload_n hX dX8_odds_15 rfl (?_ : V X 16 [some (.ref 0), some (.int p1), some (.int p2), some (.int p3), some (.int p4), some (.int p5), none, none, none] [.int p2, .ref ((gp μ3 1))] μ3)
    refine v_callV hX sp_X2_hasDoing ck_X2_hasDoing mk_X8_128 mv_X2_hasDoing (sHo hh6) (by decide) (by decide) [.int p2] [] rfl rfl (Nat.le_of_ble_eq_true rfl) dX8_odds_16 ⟨((gp μ3 1)), p2, rfl, hh6, h.1, fun x7 μ8 hp9 => (?_ : V X 19 [some (.ref 0), some (.int p1), some (.int p2), some (.int p3), some (.int p4), some (.int p5), none, none, none] [.int x7] μ8)⟩
    replace h := h.2 x7 μ8 hp9
    refine v_if_eq hX 33 dX8_odds_19 rfl (fun c10 => ?_) (fun c10 => ?_)
    · replace h := h.1 c10
      refine v_iconst hX (-1) dX8_odds_33 rfl (?_ : V X 34 [some (.ref 0), some (.int p1), some (.int p2), some (.int p3), some (.int p4), some (.int p5), none, none, none] [.int ((-1))] μ8)
      exact v_iret hO dX8_odds_34 (hR _ _ h)
    · replace h := h.2 c10
      refine v_iload hX dX8_odds_22 rfl (?_ : V X 24 [some (.ref 0), some (.int p1), some (.int p2), some (.int p3), some (.int p4), some (.int p5), none, none, none] [.int p5] μ8)
      refine v_if_lt hX 33 dX8_odds_24 rfl (fun c11 => ?_) (fun c11 => ?_)
      · replace h := h.1 c11
        refine v_iconst hX (-1) dX8_odds_33 rfl (?_ : V X 34 [some (.ref 0), some (.int p1), some (.int p2), some (.int p3), some (.int p4), some (.int p5), none, none, none] [.int ((-1))] μ8)
        exact v_iret hO dX8_odds_34 (hR _ _ h)
      · replace h := h.2 c11
        refine v_iload hX dX8_odds_27 rfl (?_ : V X 29 [some (.ref 0), some (.int p1), some (.int p2), some (.int p3), some (.int p4), some (.int p5), none, none, none] [.int p5] μ8)
        refine v_iconst hX 1 dX8_odds_29 rfl (?_ : V X 30 [some (.ref 0), some (.int p1), some (.int p2), some (.int p3), some (.int p4), some (.int p5), none, none, none] [.int 1, .int p5] μ8)
        refine v_icmp_le hX 35 dX8_odds_30 rfl (fun c12 => ?_) (fun c12 => ?_)
        · replace h := h.1 c12
          refine v_iload_n hX dX8_odds_35 rfl (?_ : V X 36 [some (.ref 0), some (.int p1), some (.int p2), some (.int p3), some (.int p4), some (.int p5), none, none, none] [.int p3] μ8)
          refine v_if_lt hX 57 dX8_odds_36 rfl (fun c13 => ?_) (fun c13 => ?_)
          · replace h := h.1 c13
            refine v_iconst hX (-1) dX8_odds_57 rfl (?_ : V X 58 [some (.ref 0), some (.int p1), some (.int p2), some (.int p3), some (.int p4), some (.int p5), none, none, none] [.int ((-1))] μ8)
            exact v_iret hO dX8_odds_58 (hR _ _ h)
          · replace h := h.2 c13
            refine v_iload_n hX dX8_odds_39 rfl (?_ : V X 40 [some (.ref 0), some (.int p1), some (.int p2), some (.int p3), some (.int p4), some (.int p5), none, none, none] [.int p3] μ8)
            refine v_bipush hX 10 dX8_odds_40 rfl (?_ : V X 42 [some (.ref 0), some (.int p1), some (.int p2), some (.int p3), some (.int p4), some (.int p5), none, none, none] [.int 10, .int p3] μ8)
            refine v_icmp_gt hX 57 dX8_odds_42 rfl (fun c14 => ?_) (fun c14 => ?_)
            · replace h := h.1 c14
              refine v_iconst hX (-1) dX8_odds_57 rfl (?_ : V X 58 [some (.ref 0), some (.int p1), some (.int p2), some (.int p3), some (.int p4), some (.int p5), none, none, none] [.int ((-1))] μ8)
              exact v_iret hO dX8_odds_58 (hR _ _ h)
            · replace h := h.2 c14
              refine v_iload hX dX8_odds_45 rfl (?_ : V X 47 [some (.ref 0), some (.int p1), some (.int p2), some (.int p3), some (.int p4), some (.int p5), none, none, none] [.int p4] μ8)
              refine v_if_lt hX 57 dX8_odds_47 rfl (fun c15 => ?_) (fun c15 => ?_)
              · replace h := h.1 c15
                refine v_iconst hX (-1) dX8_odds_57 rfl (?_ : V X 58 [some (.ref 0), some (.int p1), some (.int p2), some (.int p3), some (.int p4), some (.int p5), none, none, none] [.int ((-1))] μ8)
                exact v_iret hO dX8_odds_58 (hR _ _ h)
              · replace h := h.2 c15
                refine v_iload hX dX8_odds_50 rfl (?_ : V X 52 [some (.ref 0), some (.int p1), some (.int p2), some (.int p3), some (.int p4), some (.int p5), none, none, none] [.int p4] μ8)
                refine v_bipush hX 6 dX8_odds_52 rfl (?_ : V X 54 [some (.ref 0), some (.int p1), some (.int p2), some (.int p3), some (.int p4), some (.int p5), none, none, none] [.int 6, .int p4] μ8)
                refine v_icmp_le hX 59 dX8_odds_54 rfl (fun c16 => ?_) (fun c16 => ?_)
                · replace h := h.1 c16
                  refine v_aload_n hX dX8_odds_59 rfl (?_ : V X 60 [some (.ref 0), some (.int p1), some (.int p2), some (.int p3), some (.int p4), some (.int p5), none, none, none] [.ref 0] μ8)
                  refine v_getr hX (17) fk_X8_29 sh_0 rfl rfl dX8_odds_60 (?_ : V X 63 [some (.ref 0), some (.int p1), some (.int p2), some (.int p3), some (.int p4), some (.int p5), none, none, none] [.ref 17] μ8)
                  refine v_iload_n hX dX8_odds_63 rfl (?_ : V X 64 [some (.ref 0), some (.int p1), some (.int p2), some (.int p3), some (.int p4), some (.int p5), none, none, none] [.int p1, .ref 17] μ8)
                  refine v_callV hX sp_X7_isSolved ck_X7_isSolved mk_X8_122 mv_X7_isSolved sh_17 (by decide) (by decide) [.int p1] [] rfl rfl (Nat.le_of_ble_eq_true rfl) dX8_odds_64 ⟨p1, rfl, h.1, fun x17 μ18 hp19 => (?_ : V X 67 [some (.ref 0), some (.int p1), some (.int p2), some (.int p3), some (.int p4), some (.int p5), none, none, none] [.int x17] μ18)⟩
                  replace h := h.2 x17 μ18 hp19
                  refine v_if_eq hX 73 dX8_odds_67 rfl (fun c20 => ?_) (fun c20 => ?_)
                  · replace h := h.1 c20
                    refine v_aload_n hX dX8_odds_73 rfl (?_ : V X 74 [some (.ref 0), some (.int p1), some (.int p2), some (.int p3), some (.int p4), some (.int p5), none, none, none] [.ref 0] μ18)
                    refine v_iload_n hX dX8_odds_74 rfl (?_ : V X 75 [some (.ref 0), some (.int p1), some (.int p2), some (.int p3), some (.int p4), some (.int p5), none, none, none] [.int p3, .ref 0] μ18)
                    refine v_iload hX dX8_odds_75 rfl (?_ : V X 77 [some (.ref 0), some (.int p1), some (.int p2), some (.int p3), some (.int p4), some (.int p5), none, none, none] [.int p4, .int p3, .ref 0] μ18)
                    refine v_callV hX sp_X8_countChances ck_X8_countChances mk_X8_253 mv_X8_countChances sh_0 (by decide) (by decide) [.int p3, .int p4] [] rfl rfl (Nat.le_of_ble_eq_true rfl) dX8_odds_77 ⟨p3, p4, rfl, h.1, fun x21 μ22 hp23 => (?_ : V X 80 [some (.ref 0), some (.int p1), some (.int p2), some (.int p3), some (.int p4), some (.int p5), none, none, none] [.int x21] μ22)⟩
                    replace h := h.2 x21 μ22 hp23
                    refine v_istore hX dX8_odds_80 (by rw [hn]; decide) (?_ : V X 82 [some (.ref 0), some (.int p1), some (.int p2), some (.int p3), some (.int p4), some (.int p5), some (.int x21), none, none] [] μ22)
                    refine v_iconst hX 0 dX8_odds_82 rfl (?_ : V X 83 [some (.ref 0), some (.int p1), some (.int p2), some (.int p3), some (.int p4), some (.int p5), some (.int x21), none, none] [.int 0] μ22)
                    refine v_istore hX dX8_odds_83 (by rw [hn]; decide) (?_ : V X 85 [some (.ref 0), some (.int p1), some (.int p2), some (.int p3), some (.int p4), some (.int p5), some (.int x21), some (.int 0), none] [] μ22)
                    refine v_iconst hX 0 dX8_odds_85 rfl (?_ : V X 86 [some (.ref 0), some (.int p1), some (.int p2), some (.int p3), some (.int p4), some (.int p5), some (.int x21), some (.int 0), none] [.int 0] μ22)
                    refine v_istore hX dX8_odds_86 (by rw [hn]; decide) (?_ : V X 88 [some (.ref 0), some (.int p1), some (.int p2), some (.int p3), some (.int p4), some (.int p5), some (.int x21), some (.int 0), some (.int 0)] [] μ22)
                    exact v_mask [true, true, true, true, true, true, true, true, true] (hJ88 _ _ _ _ h)
                  · replace h := h.2 c20
                    refine v_bipush hX (-2) dX8_odds_70 rfl (?_ : V X 72 [some (.ref 0), some (.int p1), some (.int p2), some (.int p3), some (.int p4), some (.int p5), none, none, none] [.int ((-2))] μ18)
                    exact v_iret hO dX8_odds_72 (hR _ _ h)
                · replace h := h.2 c16
                  refine v_iconst hX (-1) dX8_odds_57 rfl (?_ : V X 58 [some (.ref 0), some (.int p1), some (.int p2), some (.int p3), some (.int p4), some (.int p5), none, none, none] [.int ((-1))] μ8)
                  exact v_iret hO dX8_odds_58 (hR _ _ h)
        · replace h := h.2 c12
          refine v_iconst hX (-1) dX8_odds_33 rfl (?_ : V X 34 [some (.ref 0), some (.int p1), some (.int p2), some (.int p3), some (.int p4), some (.int p5), none, none, none] [.int ((-1))] μ8)
          exact v_iret hO dX8_odds_34 (hR _ _ h)
def vc_X8_odds_88 (p1 : Int32) (p2 : Int32) (p3 : Int32) (p4 : Int32) (p5 : Int32) (l6 : Int32) (l7 : Int32) (l8 : Int32) (μ : Mem) (R : Int32 → Mem → Prop) (J88 : Int32 → Int32 → Int32 → Mem → Prop) : Prop :=
  ((p4 < l8 → (pre_X8_commonDivisor l6 l7 μ ∧ ∀ (x2 : Int32) (μ3 : Mem), post_X8_commonDivisor l6 l7 μ x2 μ3 → ((¬ p5 = 0 → (¬ x2 = 0) ∧ R (l6 / x2) μ3) ∧ (p5 = 0 → (¬ x2 = 0) ∧ R (l7 / x2) μ3)))) ∧ (¬ p4 < l8 → ((gp μ 1) = 3 ∨ (gp μ 1) = 10) ∧ (pre_X2_fullLoss ((gp μ 1)) p1 p2 μ ∧ ∀ (x7 : Int32) (μ8 : Mem), post_X2_fullLoss ((gp μ 1)) p1 p2 μ x7 μ8 → vp_in p1 5 ∧ (((l8 * x7) ≤ (gi μ8 18 (Int32.toNatClampNeg p1)) → J88 l6 l7 (l8 + 1) μ8) ∧ (¬ (l8 * x7) ≤ (gi μ8 18 (Int32.toNatClampNeg p1)) → vp_in l8 7 ∧ J88 l6 (l7 + (gi μ8 74 (Int32.toNatClampNeg l8))) (l8 + 1) μ8)))))
set_option maxRecDepth 20000 in
set_option maxHeartbeats 4000000 in
theorem wk_X8_odds_88 {X : XT} {P : Post} (hO : OkM X cX8_odds RX8 2 (some .int) P) (hn : xn X = 9) (p1 : Int32) (p2 : Int32) (p3 : Int32) (p4 : Int32) (p5 : Int32)  (l6 : Int32) (l7 : Int32) (l8 : Int32) (μ : Mem) {R : Int32 → Mem → Prop} (hR : ∀ x m, R x m → P (some (.int x)) m) {J88 : Int32 → Int32 → Int32 → Mem → Prop} (hJ88 : ∀ (l6 : Int32) (l7 : Int32) (l8 : Int32) (m : Mem), J88 l6 l7 l8 m → V X 88 [some (.ref 0), some (.int p1), some (.int p2), some (.int p3), some (.int p4), some (.int p5), some (.int l6), some (.int l7), some (.int l8)] [] m)  (h : vc_X8_odds_88 p1 p2 p3 p4 p5 l6 l7 l8 μ R J88) : V X 88 [some (.ref 0), some (.int p1), some (.int p2), some (.int p3), some (.int p4), some (.int p5), some (.int l6), some (.int l7), some (.int l8)] [] μ := by
  have hX := hO.1
  unfold vc_X8_odds_88 at h
  refine v_iload hX dX8_odds_88 rfl (?_ : V X 90 [some (.ref 0), some (.int p1), some (.int p2), some (.int p3), some (.int p4), some (.int p5), some (.int l6), some (.int l7), some (.int l8)] [.int l8] μ)
  refine v_iload hX dX8_odds_90 rfl (?_ : V X 92 [some (.ref 0), some (.int p1), some (.int p2), some (.int p3), some (.int p4), some (.int p5), some (.int l6), some (.int l7), some (.int l8)] [.int p4, .int l8] μ)
  refine v_icmp_gt hX 137 dX8_odds_92 rfl (fun c1 => ?_) (fun c1 => ?_)
  · replace h := h.1 c1
    refine v_iload hX dX8_odds_137 rfl (?_ : V X 139 [some (.ref 0), some (.int p1), some (.int p2), some (.int p3), some (.int p4), some (.int p5), some (.int l6), some (.int l7), some (.int l8)] [.int l6] μ)
    refine v_iload hX dX8_odds_139 rfl (?_ : V X 141 [some (.ref 0), some (.int p1), some (.int p2), some (.int p3), some (.int p4), some (.int p5), some (.int l6), some (.int l7), some (.int l8)] [.int l7, .int l6] μ)
    refine v_callS hX sp_X8_commonDivisor ck_X8_commonDivisor mk_X8_256 sk_X8_commonDivisor (by decide) [.int l6, .int l7] [] rfl rfl (Nat.le_of_ble_eq_true rfl) dX8_odds_141 ⟨l6, l7, rfl, h.1, fun x2 μ3 hp4 => (?_ : V X 144 [some (.ref 0), some (.int p1), some (.int p2), some (.int p3), some (.int p4), some (.int p5), some (.int l6), some (.int l7), some (.int l8)] [.int x2] μ3)⟩
    replace h := h.2 x2 μ3 hp4
    refine v_istore hX dX8_odds_144 (by rw [hn]; decide) (?_ : V X 146 [some (.ref 0), some (.int p1), some (.int p2), some (.int p3), some (.int p4), some (.int p5), some (.int l6), some (.int l7), some (.int x2)] [] μ3)
    refine v_iload hX dX8_odds_146 rfl (?_ : V X 148 [some (.ref 0), some (.int p1), some (.int p2), some (.int p3), some (.int p4), some (.int p5), some (.int l6), some (.int l7), some (.int x2)] [.int p5] μ3)
    refine v_if_ne hX 156 dX8_odds_148 rfl (fun c5 => ?_) (fun c5 => ?_)
    · replace h := h.1 c5
      refine v_iload hX dX8_odds_156 rfl (?_ : V X 158 [some (.ref 0), some (.int p1), some (.int p2), some (.int p3), some (.int p4), some (.int p5), some (.int l6), some (.int l7), some (.int x2)] [.int l6] μ3)
      refine v_iload hX dX8_odds_158 rfl (?_ : V X 160 [some (.ref 0), some (.int p1), some (.int p2), some (.int p3), some (.int p4), some (.int p5), some (.int l6), some (.int l7), some (.int x2)] [.int x2, .int l6] μ3)
      refine v_idiv hX dX8_odds_160 h.1 (?_ : V X 161 [some (.ref 0), some (.int p1), some (.int p2), some (.int p3), some (.int p4), some (.int p5), some (.int l6), some (.int l7), some (.int x2)] [.int (l6 / x2)] μ3)
      replace h := h.2
      exact v_iret hO dX8_odds_161 (hR _ _ h)
    · replace h := h.2 c5
      refine v_iload hX dX8_odds_151 rfl (?_ : V X 153 [some (.ref 0), some (.int p1), some (.int p2), some (.int p3), some (.int p4), some (.int p5), some (.int l6), some (.int l7), some (.int x2)] [.int l7] μ3)
      refine v_goto hX 158 dX8_odds_153 rfl (?_ : V X 158 [some (.ref 0), some (.int p1), some (.int p2), some (.int p3), some (.int p4), some (.int p5), some (.int l6), some (.int l7), some (.int x2)] [.int l7] μ3)
      refine v_iload hX dX8_odds_158 rfl (?_ : V X 160 [some (.ref 0), some (.int p1), some (.int p2), some (.int p3), some (.int p4), some (.int p5), some (.int l6), some (.int l7), some (.int x2)] [.int x2, .int l7] μ3)
      refine v_idiv hX dX8_odds_160 h.1 (?_ : V X 161 [some (.ref 0), some (.int p1), some (.int p2), some (.int p3), some (.int p4), some (.int p5), some (.int l6), some (.int l7), some (.int x2)] [.int (l7 / x2)] μ3)
      replace h := h.2
      exact v_iret hO dX8_odds_161 (hR _ _ h)
  · replace h := h.2 c1
    refine v_iload hX dX8_odds_95 rfl (?_ : V X 97 [some (.ref 0), some (.int p1), some (.int p2), some (.int p3), some (.int p4), some (.int p5), some (.int l6), some (.int l7), some (.int l8)] [.int l8] μ)
    refine v_aload_n hX dX8_odds_97 rfl (?_ : V X 98 [some (.ref 0), some (.int p1), some (.int p2), some (.int p3), some (.int p4), some (.int p5), some (.int l6), some (.int l7), some (.int l8)] [.ref 0, .int l8] μ)
    have hh6 := h.1
    replace h := h.2
    refine v_getp hX (gp μ 1) fk_X8_19 sh_0 rfl rfl dX8_odds_98 (?_ : V X 101 [some (.ref 0), some (.int p1), some (.int p2), some (.int p3), some (.int p4), some (.int p5), some (.int l6), some (.int l7), some (.int l8)] [.ref ((gp μ 1)), .int l8] μ)
    refine v_iload_n hX dX8_odds_101 rfl (?_ : V X 102 [some (.ref 0), some (.int p1), some (.int p2), some (.int p3), some (.int p4), some (.int p5), some (.int l6), some (.int l7), some (.int l8)] [.int p1, .ref ((gp μ 1)), .int l8] μ)
    refine v_iload_n hX dX8_odds_102 rfl (?_ : V X 103 [some (.ref 0), some (.int p1), some (.int p2), some (.int p3), some (.int p4), some (.int p5), some (.int l6), some (.int l7), some (.int l8)] [.int p2, .int p1, .ref ((gp μ 1)), .int l8] μ)
    refine v_callV hX sp_X2_fullLoss ck_X2_fullLoss mk_X8_250 mv_X2_fullLoss (sHo hh6) (by decide) (by decide) [.int p1, .int p2] [.int l8] rfl rfl (Nat.le_of_ble_eq_true rfl) dX8_odds_103 ⟨((gp μ 1)), p1, p2, rfl, hh6, h.1, fun x7 μ8 hp9 => (?_ : V X 106 [some (.ref 0), some (.int p1), some (.int p2), some (.int p3), some (.int p4), some (.int p5), some (.int l6), some (.int l7), some (.int l8)] [.int x7, .int l8] μ8)⟩
    replace h := h.2 x7 μ8 hp9
    refine v_imul hX dX8_odds_106 (?_ : V X 107 [some (.ref 0), some (.int p1), some (.int p2), some (.int p3), some (.int p4), some (.int p5), some (.int l6), some (.int l7), some (.int l8)] [.int (l8 * x7)] μ8)
    refine v_aload_n hX dX8_odds_107 rfl (?_ : V X 108 [some (.ref 0), some (.int p1), some (.int p2), some (.int p3), some (.int p4), some (.int p5), some (.int l6), some (.int l7), some (.int l8)] [.ref 0, .int (l8 * x7)] μ8)
    refine v_getr hX (17) fk_X8_29 sh_0 rfl rfl dX8_odds_108 (?_ : V X 111 [some (.ref 0), some (.int p1), some (.int p2), some (.int p3), some (.int p4), some (.int p5), some (.int l6), some (.int l7), some (.int l8)] [.ref 17, .int (l8 * x7)] μ8)
    refine v_getr hX (18) fk_X8_113 sh_17 rfl rfl dX8_odds_111 (?_ : V X 114 [some (.ref 0), some (.int p1), some (.int p2), some (.int p3), some (.int p4), some (.int p5), some (.int l6), some (.int l7), some (.int l8)] [.ref 18, .int (l8 * x7)] μ8)
    refine v_iload_n hX dX8_odds_114 rfl (?_ : V X 115 [some (.ref 0), some (.int p1), some (.int p2), some (.int p3), some (.int p4), some (.int p5), some (.int l6), some (.int l7), some (.int l8)] [.int p1, .ref 18, .int (l8 * x7)] μ8)
    have hb10 := h.1
    replace h := h.2
    refine w_iald hX (Int32.toNatClampNeg p1) sh_18 hb10 rfl dX8_odds_115 (?_ : V X 116 [some (.ref 0), some (.int p1), some (.int p2), some (.int p3), some (.int p4), some (.int p5), some (.int l6), some (.int l7), some (.int l8)] [.int (gi μ8 18 (Int32.toNatClampNeg p1)), .int (l8 * x7)] μ8)
    refine v_icmp_le hX 131 dX8_odds_116 rfl (fun c11 => ?_) (fun c11 => ?_)
    · replace h := h.1 c11
      refine v_iinc hX 1 dX8_odds_131 (by rw [hn]; decide) rfl rfl (?_ : V X 134 [some (.ref 0), some (.int p1), some (.int p2), some (.int p3), some (.int p4), some (.int p5), some (.int l6), some (.int l7), some (.int (l8 + 1))] [] μ8)
      refine v_goto hX 88 dX8_odds_134 rfl (?_ : V X 88 [some (.ref 0), some (.int p1), some (.int p2), some (.int p3), some (.int p4), some (.int p5), some (.int l6), some (.int l7), some (.int (l8 + 1))] [] μ8)
      exact v_mask [true, true, true, true, true, true, true, true, true] (hJ88 _ _ _ _ h)
    · replace h := h.2 c11
      refine v_iload hX dX8_odds_119 rfl (?_ : V X 121 [some (.ref 0), some (.int p1), some (.int p2), some (.int p3), some (.int p4), some (.int p5), some (.int l6), some (.int l7), some (.int l8)] [.int l7] μ8)
      refine v_aload_n hX dX8_odds_121 rfl (?_ : V X 122 [some (.ref 0), some (.int p1), some (.int p2), some (.int p3), some (.int p4), some (.int p5), some (.int l6), some (.int l7), some (.int l8)] [.ref 0, .int l7] μ8)
      refine v_getr hX (74) fk_X8_76 sh_0 rfl rfl dX8_odds_122 (?_ : V X 125 [some (.ref 0), some (.int p1), some (.int p2), some (.int p3), some (.int p4), some (.int p5), some (.int l6), some (.int l7), some (.int l8)] [.ref 74, .int l7] μ8)
      refine v_iload hX dX8_odds_125 rfl (?_ : V X 127 [some (.ref 0), some (.int p1), some (.int p2), some (.int p3), some (.int p4), some (.int p5), some (.int l6), some (.int l7), some (.int l8)] [.int l8, .ref 74, .int l7] μ8)
      have hb12 := h.1
      replace h := h.2
      refine w_iald hX (Int32.toNatClampNeg l8) sh_74 hb12 rfl dX8_odds_127 (?_ : V X 128 [some (.ref 0), some (.int p1), some (.int p2), some (.int p3), some (.int p4), some (.int p5), some (.int l6), some (.int l7), some (.int l8)] [.int (gi μ8 74 (Int32.toNatClampNeg l8)), .int l7] μ8)
      refine v_iadd hX dX8_odds_128 (?_ : V X 129 [some (.ref 0), some (.int p1), some (.int p2), some (.int p3), some (.int p4), some (.int p5), some (.int l6), some (.int l7), some (.int l8)] [.int (l7 + (gi μ8 74 (Int32.toNatClampNeg l8)))] μ8)
      refine v_istore hX dX8_odds_129 (by rw [hn]; decide) (?_ : V X 131 [some (.ref 0), some (.int p1), some (.int p2), some (.int p3), some (.int p4), some (.int p5), some (.int l6), some (.int (l7 + (gi μ8 74 (Int32.toNatClampNeg l8)))), some (.int l8)] [] μ8)
      refine v_iinc hX 1 dX8_odds_131 (by rw [hn]; decide) rfl rfl (?_ : V X 134 [some (.ref 0), some (.int p1), some (.int p2), some (.int p3), some (.int p4), some (.int p5), some (.int l6), some (.int (l7 + (gi μ8 74 (Int32.toNatClampNeg l8)))), some (.int (l8 + 1))] [] μ8)
      refine v_goto hX 88 dX8_odds_134 rfl (?_ : V X 88 [some (.ref 0), some (.int p1), some (.int p2), some (.int p3), some (.int p4), some (.int p5), some (.int l6), some (.int (l7 + (gi μ8 74 (Int32.toNatClampNeg l8)))), some (.int (l8 + 1))] [] μ8)
      exact v_mask [true, true, true, true, true, true, true, true, true] (hJ88 _ _ _ _ h)
set_option maxRecDepth 20000 in
set_option maxHeartbeats 4000000 in
theorem vp_X8_odds_0 (p1 : Int32) (p2 : Int32) (p3 : Int32) (p4 : Int32) (p5 : Int32)  (μ : Mem) (hpre : pre_X8_odds p1 p2 p3 p4 p5 μ) : vc_X8_odds_0 p1 p2 p3 p4 p5 μ (post_X8_odds p1 p2 p3 p4 p5 μ) (fun l6 l7 l8 m => ∃ k : Nat, inv_X8_odds_88 p1 p2 p3 p4 p5 μ k l6 l7 l8 m) := by
  simp only [vc_X8_odds_0, pre_X2_fullLoss, pre_X2_hasDoing, pre_X2_hasRoom, pre_X7_isSolved, pre_X8_commonDivisor, pre_X8_countChances, post_X2_fullLoss, post_X2_hasDoing, post_X2_hasRoom, post_X7_isSolved, post_X8_commonDivisor, post_X8_countChances, and_imp, call_eq, forall_eq, forall_const, true_and, and_true]
  obtain ⟨hw, h0, h4⟩ := hpre
  have hw' : gp μ 1 = 3 ∨ gp μ 1 = 10 := hw
  have bd : oddBad (gi μ (gp μ 1) 0) (gi μ (gp μ 1) 4) p1 p2 p3 p4 p5 → post_X8_odds p1 p2 p3 p4 p5 μ (-1) μ := fun q => ⟨fr_refl _ _, fun _ => rfl, fun z => absurd q z⟩
  refine ⟨hw', ?_⟩
  unfold oddBad at bd
  by_cases c : p1 < 0 ∨ gi μ (gp μ 1) 0 ≤ p1
  · simp only [if_pos c]
    exact ⟨fun _ => bd (by grind), fun z => absurd trivial z⟩
  · simp only [if_neg c]
    refine ⟨fun z => absurd z (by decide), fun _ => ⟨hw', ?_⟩⟩
    by_cases c2 : p2 < 0 ∨ gi μ (gp μ 1) 4 ≤ p2
    · simp only [if_pos c2]
      exact ⟨fun _ => bd (by grind), fun z => absurd trivial z⟩
    · simp only [if_neg c2]
      refine ⟨fun z => absurd z (by decide), fun _ => ⟨fun q => bd (by grind), fun q1 => ⟨fun q2 => ⟨fun q => bd (by grind), fun q3 => ⟨fun q => bd (by grind), fun q4 => ⟨fun q => bd (by grind), fun q5 => ⟨fun q6 => ⟨fun q7 => ⟨?_, ?_⟩, fun q7 => ?_⟩, fun q => bd (by grind)⟩⟩⟩⟩, fun q => bd (by grind)⟩⟩⟩
      · obtain ⟨z1, z2⟩ := nn_of (nlt_le q3)
        obtain ⟨z3, z4⟩ := nn_of (nlt_le q5)
        refine ⟨z1, ?_, z3, ?_⟩
        · rw [z1, show (10 : Int32) = nI 10 from rfl, nI_ltI (by omega) z2] at q4; omega
        · rw [z3, show (6 : Int32) = nI 6 from rfl, nI_leI z4 (by omega)] at q6; omega
      · intro x m hx hf hv
        refine ⟨p4.toNatClampNeg + 1, 0, by omega, rfl, by unfold oddBad; grind, ?_, hf, hv, hx, rfl, rfl⟩
        intro z
        have z' : gi μ 17 3 >>> (p1 &&& 31) &&& 1 = 1 := z
        rw [if_pos z'] at q7; exact absurd q7 (by decide)
      · refine ⟨fr_refl _ _, fun z => absurd z (by unfold oddBad; grind), fun _ => ?_⟩
        have z : slvI (gi μ 17 3) p1 = 1 := by
          split at q7
          · rename_i z; exact z
          · exact absurd rfl q7
        rw [if_pos z]
set_option maxRecDepth 20000 in
set_option maxHeartbeats 4000000 in
theorem vp_X8_odds_88 (p1 : Int32) (p2 : Int32) (p3 : Int32) (p4 : Int32) (p5 : Int32)  (μ : Mem) (hpre : pre_X8_odds p1 p2 p3 p4 p5 μ) (n : Nat) (l6 : Int32) (l7 : Int32) (l8 : Int32) (μ0 : Mem) (hi : inv_X8_odds_88 p1 p2 p3 p4 p5 μ n l6 l7 l8 μ0) : vc_X8_odds_88 p1 p2 p3 p4 p5 l6 l7 l8 μ0 (post_X8_odds p1 p2 p3 p4 p5 μ) (fun l6 l7 l8 m => ∃ k : Nat, k < n ∧ inv_X8_odds_88 p1 p2 p3 p4 p5 μ k l6 l7 l8 m) := by
  simp only [vc_X8_odds_88, pre_X2_fullLoss, pre_X2_hasDoing, pre_X2_hasRoom, pre_X7_isSolved, pre_X8_commonDivisor, pre_X8_countChances, post_X2_fullLoss, post_X2_hasDoing, post_X2_hasRoom, post_X7_isSolved, post_X8_commonDivisor, post_X8_countChances, and_imp, call_eq, forall_eq, forall_const, true_and, and_true]
  obtain ⟨hw, h0, h4⟩ := hpre
  obtain ⟨i, hi1, rfl, hb, hs, hf, hv, rfl, rfl, rfl⟩ := hi
  have hb' := hb
  unfold oddBad at hb'
  have c1 : ¬ (p1 < 0 ∨ gi μ (gp μ 1) 0 ≤ p1) := by grind
  have c2 : ¬ (p2 < 0 ∨ gi μ (gp μ 1) 4 ≤ p2) := by grind
  have in1 := ix_in (N := 5) h0 (by omega) (by omega) (by omega) c1
  have in2 := ix_in (N := 5) h4 (by omega) (by omega) (by omega) c2
  have q3 : ¬ p3 < 0 := by grind
  have q5 : ¬ p4 < 0 := by grind
  have q4 : ¬ 10 < p3 := by grind
  have q6 : ¬ 6 < p4 := by grind
  obtain ⟨z1, z2⟩ := nn_of (nlt_le q3)
  obtain ⟨z3, z4⟩ := nn_of (nlt_le q5)
  have hx10 : p3.toNatClampNeg ≤ 10 := by rw [z1, show (10 : Int32) = nI 10 from rfl, nI_ltI (by omega) z2] at q4; omega
  have hn6 : p4.toNatClampNeg ≤ 6 := by rw [z3, show (6 : Int32) = nI 6 from rfl, nI_ltI (by omega) z4] at q6; omega
  have hc : p4 < nI i ↔ p4.toNatClampNeg < i := by
    rw [← nI_ltI (a := p4.toNatClampNeg) (b := i) (by omega) (by omega), ← z3]
  rw [hc]
  have hgp : gp μ0 1 = gp μ 1 := rem_gp hf 1
  rw [hgp]
  refine ⟨fun c => ?_, fun c => ⟨hw, ⟨in1, in2⟩, in1, ?_⟩⟩
  · have hi2 : i = p4.toNatClampNeg + 1 := by omega
    subst hi2
    have hU : sumN (fun j => if oddQC μ p1 p2 j = true then chN p3.toNatClampNeg p4.toNatClampNeg j else 0) (p4.toNatClampNeg + 1) = oddU p3.toNatClampNeg p4.toNatClampNeg (oddQC μ p1 p2) := rfl
    rw [hU]
    have hle : oddU p3.toNatClampNeg p4.toNatClampNeg (oddQC μ p1 p2) ≤ 10 ^ p4.toNatClampNeg := by rw [oddU_tN]; exact tN_le _ hx10 _ _
    have hp := pow10_le _ hn6
    have hpos : 0 < 10 ^ p4.toNatClampNeg := Nat.pow_pos (by omega)
    generalize hu : oddU p3.toNatClampNeg p4.toNatClampNeg (oddQC μ p1 p2) = u at *
    generalize hten : 10 ^ p4.toNatClampNeg = ten at *
    rw [nI_clamp (by omega), nI_clamp (by omega)]
    have hg0 : 0 < Nat.gcd ten u := Nat.gcd_pos_of_pos_left _ hpos
    have hg1 : Nat.gcd ten u ≤ ten := Nat.gcd_le_left _ hpos
    have hne : ¬ nI (Nat.gcd ten u) = 0 := nI_ne0 hg0 (by omega)
    refine ⟨?_, fun q => ⟨hne, ?_⟩, fun q => ⟨hne, ?_⟩⟩
    · exact ⟨rfl, rfl, hpos, hp, hle⟩
    · refine ⟨hf, fun z => absurd z hb, fun _ => ?_⟩
      rw [if_neg hs, oddsA, if_neg q, hu, hten, pk_div (by omega) hg0 (by omega)]
    · refine ⟨hf, fun z => absurd z hb, fun _ => ?_⟩
      rw [if_neg hs, oddsA, if_pos q, hu, hten, pk_div (by omega) hg0 (by omega)]
  · have hwlo : gp μ 1 + 6 < 74 := by unfold hsOK at hw; omega
    rw [hf.1 _ (by simp; omega), hf.1 _ (by simp; omega), hf.1 18 (by simp), nI_clamp (by omega), hv i (by omega)]
    refine ⟨fun c3 => ⟨p4.toNatClampNeg + 1 - (i + 1), by omega, i + 1, by omega, rfl, hb, hs, hf, hv, rfl, nI_1 i, ?_⟩, fun c3 => ⟨vp_in_nI (by omega) (by omega), p4.toNatClampNeg + 1 - (i + 1), by omega, i + 1, by omega, rfl, hb, hs, hf, hv, rfl, nI_1 i, ?_⟩⟩
    · have hq : oddQC μ p1 p2 i = false := by unfold oddQC; exact decide_eq_false (by simpa using c3)
      simp only [sumN, hq]; simp
    · have hq : oddQC μ p1 p2 i = true := by unfold oddQC; exact decide_eq_true (by simpa using c3)
      simp only [sumN, hq]; simp [nI_add]
theorem sp_X8_odds : Sp yX8_odds cX8_odds 9 (some .int) 2 S_X8_odds := by
  refine sp_of (by decide) (fun av μ P h => ?_) ?_
  · obtain ⟨p1, p2, p3, p4, p5, rfl, -⟩ := h
    refine ⟨Nat.le_of_ble_eq_true rfl, fun v hv => ?_⟩
    simp only [List.mem_cons, List.not_mem_nil, or_false] at hv
    rcases hv with rfl | rfl | rfl | rfl | rfl | rfl <;> rfl
  · rintro X P hO _ μ ⟨p1, p2, p3, p4, p5, rfl, hpre, hpost⟩ hn
    have hJ : ∀ n : Nat, (∀ (l6 : Int32) (l7 : Int32) (l8 : Int32) (m : Mem), inv_X8_odds_88 p1 p2 p3 p4 p5 μ n l6 l7 l8 m → V X 88 [some (.ref 0), some (.int p1), some (.int p2), some (.int p3), some (.int p4), some (.int p5), some (.int l6), some (.int l7), some (.int l8)] [] m) := by
      intro n
      induction n using Nat.strongRecOn with
      | _ n ih =>
        exact fun l6 l7 l8 m hi => wk_X8_odds_88 (J88 := (fun l6 l7 l8 m => ∃ k : Nat, k < n ∧ inv_X8_odds_88 p1 p2 p3 p4 p5 μ k l6 l7 l8 m)) hO hn p1 p2 p3 p4 p5  l6 l7 l8 m hpost (fun l6 l7 l8 m hk => by obtain ⟨k, hk, hi⟩ := hk; exact (ih k hk) l6 l7 l8 m hi) (vp_X8_odds_88 p1 p2 p3 p4 p5  μ hpre n l6 l7 l8 m hi)
    exact wk_X8_odds_0 (J88 := (fun l6 l7 l8 m => ∃ k : Nat, inv_X8_odds_88 p1 p2 p3 p4 p5 μ k l6 l7 l8 m)) hO hn p1 p2 p3 p4 p5  μ hpost (fun l6 l7 l8 m hk => by obtain ⟨k, hi⟩ := hk; exact (hJ k) l6 l7 l8 m hi) (vp_X8_odds_0 p1 p2 p3 p4 p5  μ hpre)
def S_X9_odds : Tr := fun av μ P => ∃ (p1 : Int32) (p2 : Int32) (p3 : Int32) (p4 : Int32) (p5 : Int32), av = [.ref 75, .int p1, .int p2, .int p3, .int p4, .int p5] ∧ pre_X9_odds p1 p2 p3 p4 p5 μ ∧ ∀ (x : Int32) (m : Mem), post_X9_odds p1 p2 p3 p4 p5 μ x m → P (some (.int x)) m
def vc_X9_odds_0 (p1 : Int32) (p2 : Int32) (p3 : Int32) (p4 : Int32) (p5 : Int32)  (μ : Mem) (R : Int32 → Mem → Prop) (J71 : Int32 → Int32 → Mem → Prop) : Prop :=
  (∀ μ1, μ1 = ui μ 75 0 0 → (pre_X9_isRoom p1 μ1 ∧ ∀ (x3 : Int32) (μ4 : Mem), post_X9_isRoom p1 μ1 x3 μ4 → ((x3 = 0 → R ((-1)) μ4) ∧ (¬ x3 = 0 → (pre_X9_isDoing p2 μ4 ∧ ∀ (x7 : Int32) (μ8 : Mem), post_X9_isDoing p2 μ4 x7 μ8 → ((x7 = 0 → R ((-1)) μ8) ∧ (¬ x7 = 0 → (pre_X9_in p3 0 10 μ8 ∧ ∀ (x11 : Int32) (μ12 : Mem), post_X9_in p3 0 10 μ8 x11 μ12 → ((x11 = 0 → R ((-1)) μ12) ∧ (¬ x11 = 0 → (pre_X9_in p4 0 6 μ12 ∧ ∀ (x15 : Int32) (μ16 : Mem), post_X9_in p4 0 6 μ12 x15 μ16 → ((x15 = 0 → R ((-1)) μ16) ∧ (¬ x15 = 0 → (pre_X9_in p5 0 1 μ16 ∧ ∀ (x19 : Int32) (μ20 : Mem), post_X9_in p5 0 1 μ16 x19 μ20 → ((¬ x19 = 0 → (pre_X9_isSolved p1 μ20 ∧ ∀ (x23 : Int32) (μ24 : Mem), post_X9_isSolved p1 μ20 x23 μ24 → ((x23 = 0 → J71 0 0 μ24) ∧ (¬ x23 = 0 → R ((-2)) μ24)))) ∧ (x19 = 0 → R ((-1)) μ20))))))))))))))))
set_option maxRecDepth 20000 in
set_option maxHeartbeats 4000000 in
theorem wk_X9_odds_0 {X : XT} {P : Post} (hO : OkM X cX9_odds RX9 2 (some .int) P) (hn : xn X = 9) (p1 : Int32) (p2 : Int32) (p3 : Int32) (p4 : Int32) (p5 : Int32)   (μ : Mem) {R : Int32 → Mem → Prop} (hR : ∀ x m, R x m → P (some (.int x)) m) {J71 : Int32 → Int32 → Mem → Prop} (hJ71 : ∀ (l6 : Int32) (l7 : Int32) (m : Mem), J71 l6 l7 m → V X 71 [some (.ref 75), some (.int p1), some (.int p2), some (.int p3), some (.int p4), some (.int p5), some (.int l6), some (.int l7), none] [] m)  (h : vc_X9_odds_0 p1 p2 p3 p4 p5  μ R J71) : V X 0 [some (.ref 75), some (.int p1), some (.int p2), some (.int p3), some (.int p4), some (.int p5), none, none, none] [] μ := by
  have hX := hO.1
  unfold vc_X9_odds_0 at h
  refine v_aload_n hX dX9_odds_0 rfl (?_ : V X 1 [some (.ref 75), some (.int p1), some (.int p2), some (.int p3), some (.int p4), some (.int p5), none, none, none] [.ref 75] μ)
  refine v_iconst hX 0 dX9_odds_1 rfl (?_ : V X 2 [some (.ref 75), some (.int p1), some (.int p2), some (.int p3), some (.int p4), some (.int p5), none, none, none] [.int 0, .ref 75] μ)
  refine w_puti hX fk_X9_74 fw_9_0 sh_75 rfl dX9_odds_2 (fun μ1 e2 => (?_ : V X 5 [some (.ref 75), some (.int p1), some (.int p2), some (.int p3), some (.int p4), some (.int p5), none, none, none] [] μ1))
  replace h := h μ1 e2
  refine v_aload_n hX dX9_odds_5 rfl (?_ : V X 6 [some (.ref 75), some (.int p1), some (.int p2), some (.int p3), some (.int p4), some (.int p5), none, none, none] [.ref 75] μ1)
  refine v_iload_n hX dX9_odds_6 rfl (?_ : V X 7 [some (.ref 75), some (.int p1), some (.int p2), some (.int p3), some (.int p4), some (.int p5), none, none, none] [.int p1, .ref 75] μ1)
  refine v_callV hX sp_X9_isRoom ck_X9_isRoom mk_X9_142 mv_X9_isRoom sh_75 (by decide) (by decide) [.int p1] [] rfl rfl (Nat.le_of_ble_eq_true rfl) dX9_odds_7 ⟨p1, rfl, h.1, fun x3 μ4 hp5 => (?_ : V X 10 [some (.ref 75), some (.int p1), some (.int p2), some (.int p3), some (.int p4), some (.int p5), none, none, none] [.int x3] μ4)⟩
  replace h := h.2 x3 μ4 hp5
  refine v_if_eq hX 52 dX9_odds_10 rfl (fun c6 => ?_) (fun c6 => ?_)
  · replace h := h.1 c6
    refine v_iconst hX (-1) dX9_odds_52 rfl (?_ : V X 53 [some (.ref 75), some (.int p1), some (.int p2), some (.int p3), some (.int p4), some (.int p5), none, none, none] [.int ((-1))] μ4)
    exact v_iret hO dX9_odds_53 (hR _ _ h)
  · replace h := h.2 c6
    refine v_aload_n hX dX9_odds_13 rfl (?_ : V X 14 [some (.ref 75), some (.int p1), some (.int p2), some (.int p3), some (.int p4), some (.int p5), none, none, none] [.ref 75] μ4)
    refine v_iload_n hX dX9_odds_14 rfl (?_ : V X 15 [some (.ref 75), some (.int p1), some (.int p2), some (.int p3), some (.int p4), some (.int p5), none, none, none] [.int p2, .ref 75] μ4)
    refine v_callV hX sp_X9_isDoing ck_X9_isDoing mk_X9_149 mv_X9_isDoing sh_75 (by decide) (by decide) [.int p2] [] rfl rfl (Nat.le_of_ble_eq_true rfl) dX9_odds_15 ⟨p2, rfl, h.1, fun x7 μ8 hp9 => (?_ : V X 18 [some (.ref 75), some (.int p1), some (.int p2), some (.int p3), some (.int p4), some (.int p5), none, none, none] [.int x7] μ8)⟩
    replace h := h.2 x7 μ8 hp9
    refine v_if_eq hX 52 dX9_odds_18 rfl (fun c10 => ?_) (fun c10 => ?_)
    · replace h := h.1 c10
      refine v_iconst hX (-1) dX9_odds_52 rfl (?_ : V X 53 [some (.ref 75), some (.int p1), some (.int p2), some (.int p3), some (.int p4), some (.int p5), none, none, none] [.int ((-1))] μ8)
      exact v_iret hO dX9_odds_53 (hR _ _ h)
    · replace h := h.2 c10
      refine v_iload_n hX dX9_odds_21 rfl (?_ : V X 22 [some (.ref 75), some (.int p1), some (.int p2), some (.int p3), some (.int p4), some (.int p5), none, none, none] [.int p3] μ8)
      refine v_iconst hX 0 dX9_odds_22 rfl (?_ : V X 23 [some (.ref 75), some (.int p1), some (.int p2), some (.int p3), some (.int p4), some (.int p5), none, none, none] [.int 0, .int p3] μ8)
      refine v_bipush hX 10 dX9_odds_23 rfl (?_ : V X 25 [some (.ref 75), some (.int p1), some (.int p2), some (.int p3), some (.int p4), some (.int p5), none, none, none] [.int 10, .int 0, .int p3] μ8)
      refine v_callS hX sp_X9_in ck_X9_in mk_X9_78 sk_X9_in (by decide) [.int p3, .int 0, .int 10] [] rfl rfl (Nat.le_of_ble_eq_true rfl) dX9_odds_25 ⟨p3, 0, 10, rfl, h.1, fun x11 μ12 hp13 => (?_ : V X 28 [some (.ref 75), some (.int p1), some (.int p2), some (.int p3), some (.int p4), some (.int p5), none, none, none] [.int x11] μ12)⟩
      replace h := h.2 x11 μ12 hp13
      refine v_if_eq hX 52 dX9_odds_28 rfl (fun c14 => ?_) (fun c14 => ?_)
      · replace h := h.1 c14
        refine v_iconst hX (-1) dX9_odds_52 rfl (?_ : V X 53 [some (.ref 75), some (.int p1), some (.int p2), some (.int p3), some (.int p4), some (.int p5), none, none, none] [.int ((-1))] μ12)
        exact v_iret hO dX9_odds_53 (hR _ _ h)
      · replace h := h.2 c14
        refine v_iload hX dX9_odds_31 rfl (?_ : V X 33 [some (.ref 75), some (.int p1), some (.int p2), some (.int p3), some (.int p4), some (.int p5), none, none, none] [.int p4] μ12)
        refine v_iconst hX 0 dX9_odds_33 rfl (?_ : V X 34 [some (.ref 75), some (.int p1), some (.int p2), some (.int p3), some (.int p4), some (.int p5), none, none, none] [.int 0, .int p4] μ12)
        refine v_bipush hX 6 dX9_odds_34 rfl (?_ : V X 36 [some (.ref 75), some (.int p1), some (.int p2), some (.int p3), some (.int p4), some (.int p5), none, none, none] [.int 6, .int 0, .int p4] μ12)
        refine v_callS hX sp_X9_in ck_X9_in mk_X9_78 sk_X9_in (by decide) [.int p4, .int 0, .int 6] [] rfl rfl (Nat.le_of_ble_eq_true rfl) dX9_odds_36 ⟨p4, 0, 6, rfl, h.1, fun x15 μ16 hp17 => (?_ : V X 39 [some (.ref 75), some (.int p1), some (.int p2), some (.int p3), some (.int p4), some (.int p5), none, none, none] [.int x15] μ16)⟩
        replace h := h.2 x15 μ16 hp17
        refine v_if_eq hX 52 dX9_odds_39 rfl (fun c18 => ?_) (fun c18 => ?_)
        · replace h := h.1 c18
          refine v_iconst hX (-1) dX9_odds_52 rfl (?_ : V X 53 [some (.ref 75), some (.int p1), some (.int p2), some (.int p3), some (.int p4), some (.int p5), none, none, none] [.int ((-1))] μ16)
          exact v_iret hO dX9_odds_53 (hR _ _ h)
        · replace h := h.2 c18
          refine v_iload hX dX9_odds_42 rfl (?_ : V X 44 [some (.ref 75), some (.int p1), some (.int p2), some (.int p3), some (.int p4), some (.int p5), none, none, none] [.int p5] μ16)
          refine v_iconst hX 0 dX9_odds_44 rfl (?_ : V X 45 [some (.ref 75), some (.int p1), some (.int p2), some (.int p3), some (.int p4), some (.int p5), none, none, none] [.int 0, .int p5] μ16)
          refine v_iconst hX 1 dX9_odds_45 rfl (?_ : V X 46 [some (.ref 75), some (.int p1), some (.int p2), some (.int p3), some (.int p4), some (.int p5), none, none, none] [.int 1, .int 0, .int p5] μ16)
          refine v_callS hX sp_X9_in ck_X9_in mk_X9_78 sk_X9_in (by decide) [.int p5, .int 0, .int 1] [] rfl rfl (Nat.le_of_ble_eq_true rfl) dX9_odds_46 ⟨p5, 0, 1, rfl, h.1, fun x19 μ20 hp21 => (?_ : V X 49 [some (.ref 75), some (.int p1), some (.int p2), some (.int p3), some (.int p4), some (.int p5), none, none, none] [.int x19] μ20)⟩
          replace h := h.2 x19 μ20 hp21
          refine v_if_ne hX 54 dX9_odds_49 rfl (fun c22 => ?_) (fun c22 => ?_)
          · replace h := h.1 c22
            refine v_aload_n hX dX9_odds_54 rfl (?_ : V X 55 [some (.ref 75), some (.int p1), some (.int p2), some (.int p3), some (.int p4), some (.int p5), none, none, none] [.ref 75] μ20)
            refine v_iload_n hX dX9_odds_55 rfl (?_ : V X 56 [some (.ref 75), some (.int p1), some (.int p2), some (.int p3), some (.int p4), some (.int p5), none, none, none] [.int p1, .ref 75] μ20)
            refine v_callV hX sp_X9_isSolved ck_X9_isSolved mk_X9_146 mv_X9_isSolved sh_75 (by decide) (by decide) [.int p1] [] rfl rfl (Nat.le_of_ble_eq_true rfl) dX9_odds_56 ⟨p1, rfl, h.1, fun x23 μ24 hp25 => (?_ : V X 59 [some (.ref 75), some (.int p1), some (.int p2), some (.int p3), some (.int p4), some (.int p5), none, none, none] [.int x23] μ24)⟩
            replace h := h.2 x23 μ24 hp25
            refine v_if_eq hX 65 dX9_odds_59 rfl (fun c26 => ?_) (fun c26 => ?_)
            · replace h := h.1 c26
              refine v_iconst hX 0 dX9_odds_65 rfl (?_ : V X 66 [some (.ref 75), some (.int p1), some (.int p2), some (.int p3), some (.int p4), some (.int p5), none, none, none] [.int 0] μ24)
              refine v_istore hX dX9_odds_66 (by rw [hn]; decide) (?_ : V X 68 [some (.ref 75), some (.int p1), some (.int p2), some (.int p3), some (.int p4), some (.int p5), some (.int 0), none, none] [] μ24)
              refine v_iconst hX 0 dX9_odds_68 rfl (?_ : V X 69 [some (.ref 75), some (.int p1), some (.int p2), some (.int p3), some (.int p4), some (.int p5), some (.int 0), none, none] [.int 0] μ24)
              refine v_istore hX dX9_odds_69 (by rw [hn]; decide) (?_ : V X 71 [some (.ref 75), some (.int p1), some (.int p2), some (.int p3), some (.int p4), some (.int p5), some (.int 0), some (.int 0), none] [] μ24)
              exact v_mask [true, true, true, true, true, true, true, true, false] (hJ71 _ _ _ h)
            · replace h := h.2 c26
              refine v_bipush hX (-2) dX9_odds_62 rfl (?_ : V X 64 [some (.ref 75), some (.int p1), some (.int p2), some (.int p3), some (.int p4), some (.int p5), none, none, none] [.int ((-2))] μ24)
              exact v_iret hO dX9_odds_64 (hR _ _ h)
          · replace h := h.2 c22
            refine v_iconst hX (-1) dX9_odds_52 rfl (?_ : V X 53 [some (.ref 75), some (.int p1), some (.int p2), some (.int p3), some (.int p4), some (.int p5), none, none, none] [.int ((-1))] μ20)
            exact v_iret hO dX9_odds_53 (hR _ _ h)
def vc_X9_odds_71 (p1 : Int32) (p2 : Int32) (p3 : Int32) (p4 : Int32) (p5 : Int32) (l6 : Int32) (l7 : Int32) (μ : Mem) (R : Int32 → Mem → Prop) (J71 : Int32 → Int32 → Mem → Prop) : Prop :=
  (((1 <<< (p4 &&& 31)) ≤ l7 → (pre_X9_power 10 p4 μ ∧ ∀ (x2 : Int32) (μ3 : Mem), post_X9_power 10 p4 μ x2 μ3 → (pre_X9_gcd l6 x2 μ3 ∧ ∀ (x5 : Int32) (μ6 : Mem), post_X9_gcd l6 x2 μ3 x5 μ6 → ((¬ p5 = 0 → (¬ x5 = 0) ∧ R (x2 / x5) μ6) ∧ (p5 = 0 → (¬ x5 = 0) ∧ R (l6 / x5) μ6))))) ∧ (¬ (1 <<< (p4 &&& 31)) ≤ l7 → (pre_X9_ones l7 μ ∧ ∀ (x9 : Int32) (μ10 : Mem), post_X9_ones l7 μ x9 μ10 → vp_in (5 + p1) 15 ∧ vp_in p2 10 ∧ vp_in p1 10 ∧ ((0 ≤ ((gi μ10 84 (Int32.toNatClampNeg (5 + p1))) - ((x9 * (gi μ10 81 (Int32.toNatClampNeg p2))) * (gi μ10 79 (Int32.toNatClampNeg p1)))) → J71 (l6 + 0) (l7 + 1) μ10) ∧ (¬ 0 ≤ ((gi μ10 84 (Int32.toNatClampNeg (5 + p1))) - ((x9 * (gi μ10 81 (Int32.toNatClampNeg p2))) * (gi μ10 79 (Int32.toNatClampNeg p1)))) → (pre_X9_power (10 - p3) x9 μ10 ∧ ∀ (x16 : Int32) (μ17 : Mem), post_X9_power (10 - p3) x9 μ10 x16 μ17 → (pre_X9_power p3 (p4 - x9) μ17 ∧ ∀ (x19 : Int32) (μ20 : Mem), post_X9_power p3 (p4 - x9) μ17 x19 μ20 → J71 (l6 + (x16 * x19)) (l7 + 1) μ20)))))))
set_option maxRecDepth 20000 in
set_option maxHeartbeats 4000000 in
theorem wk_X9_odds_71 {X : XT} {P : Post} (hO : OkM X cX9_odds RX9 2 (some .int) P) (hn : xn X = 9) (p1 : Int32) (p2 : Int32) (p3 : Int32) (p4 : Int32) (p5 : Int32)  (l6 : Int32) (l7 : Int32) (μ : Mem) {R : Int32 → Mem → Prop} (hR : ∀ x m, R x m → P (some (.int x)) m) {J71 : Int32 → Int32 → Mem → Prop} (hJ71 : ∀ (l6 : Int32) (l7 : Int32) (m : Mem), J71 l6 l7 m → V X 71 [some (.ref 75), some (.int p1), some (.int p2), some (.int p3), some (.int p4), some (.int p5), some (.int l6), some (.int l7), none] [] m)  (h : vc_X9_odds_71 p1 p2 p3 p4 p5 l6 l7 μ R J71) : V X 71 [some (.ref 75), some (.int p1), some (.int p2), some (.int p3), some (.int p4), some (.int p5), some (.int l6), some (.int l7), none] [] μ := by
  have hX := hO.1
  unfold vc_X9_odds_71 at h
  refine v_iload hX dX9_odds_71 rfl (?_ : V X 73 [some (.ref 75), some (.int p1), some (.int p2), some (.int p3), some (.int p4), some (.int p5), some (.int l6), some (.int l7), none] [.int l7] μ)
  refine v_iconst hX 1 dX9_odds_73 rfl (?_ : V X 74 [some (.ref 75), some (.int p1), some (.int p2), some (.int p3), some (.int p4), some (.int p5), some (.int l6), some (.int l7), none] [.int 1, .int l7] μ)
  refine v_iload hX dX9_odds_74 rfl (?_ : V X 76 [some (.ref 75), some (.int p1), some (.int p2), some (.int p3), some (.int p4), some (.int p5), some (.int l6), some (.int l7), none] [.int p4, .int 1, .int l7] μ)
  refine v_ishl hX dX9_odds_76 (?_ : V X 77 [some (.ref 75), some (.int p1), some (.int p2), some (.int p3), some (.int p4), some (.int p5), some (.int l6), some (.int l7), none] [.int (1 <<< (p4 &&& 31)), .int l7] μ)
  refine v_icmp_ge hX 149 dX9_odds_77 rfl (fun c1 => ?_) (fun c1 => ?_)
  · replace h := h.1 c1
    refine v_bipush hX 10 dX9_odds_149 rfl (?_ : V X 151 [some (.ref 75), some (.int p1), some (.int p2), some (.int p3), some (.int p4), some (.int p5), some (.int l6), some (.int l7), none] [.int 10] μ)
    refine v_iload hX dX9_odds_151 rfl (?_ : V X 153 [some (.ref 75), some (.int p1), some (.int p2), some (.int p3), some (.int p4), some (.int p5), some (.int l6), some (.int l7), none] [.int p4, .int 10] μ)
    refine v_callS hX sp_X9_power ck_X9_power mk_X9_195 sk_X9_power (by decide) [.int 10, .int p4] [] rfl rfl (Nat.le_of_ble_eq_true rfl) dX9_odds_153 ⟨10, p4, rfl, h.1, fun x2 μ3 hp4 => (?_ : V X 156 [some (.ref 75), some (.int p1), some (.int p2), some (.int p3), some (.int p4), some (.int p5), some (.int l6), some (.int l7), none] [.int x2] μ3)⟩
    replace h := h.2 x2 μ3 hp4
    refine v_istore hX dX9_odds_156 (by rw [hn]; decide) (?_ : V X 158 [some (.ref 75), some (.int p1), some (.int p2), some (.int p3), some (.int p4), some (.int p5), some (.int l6), some (.int x2), none] [] μ3)
    refine v_iload hX dX9_odds_158 rfl (?_ : V X 160 [some (.ref 75), some (.int p1), some (.int p2), some (.int p3), some (.int p4), some (.int p5), some (.int l6), some (.int x2), none] [.int l6] μ3)
    refine v_iload hX dX9_odds_160 rfl (?_ : V X 162 [some (.ref 75), some (.int p1), some (.int p2), some (.int p3), some (.int p4), some (.int p5), some (.int l6), some (.int x2), none] [.int x2, .int l6] μ3)
    refine v_callS hX sp_X9_gcd ck_X9_gcd mk_X9_198 sk_X9_gcd (by decide) [.int l6, .int x2] [] rfl rfl (Nat.le_of_ble_eq_true rfl) dX9_odds_162 ⟨l6, x2, rfl, h.1, fun x5 μ6 hp7 => (?_ : V X 165 [some (.ref 75), some (.int p1), some (.int p2), some (.int p3), some (.int p4), some (.int p5), some (.int l6), some (.int x2), none] [.int x5] μ6)⟩
    replace h := h.2 x5 μ6 hp7
    refine v_istore hX dX9_odds_165 (by rw [hn]; decide) (?_ : V X 167 [some (.ref 75), some (.int p1), some (.int p2), some (.int p3), some (.int p4), some (.int p5), some (.int l6), some (.int x2), some (.int x5)] [] μ6)
    refine v_iload hX dX9_odds_167 rfl (?_ : V X 169 [some (.ref 75), some (.int p1), some (.int p2), some (.int p3), some (.int p4), some (.int p5), some (.int l6), some (.int x2), some (.int x5)] [.int p5] μ6)
    refine v_if_ne hX 180 dX9_odds_169 rfl (fun c8 => ?_) (fun c8 => ?_)
    · replace h := h.1 c8
      refine v_iload hX dX9_odds_180 rfl (?_ : V X 182 [some (.ref 75), some (.int p1), some (.int p2), some (.int p3), some (.int p4), some (.int p5), some (.int l6), some (.int x2), some (.int x5)] [.int x2] μ6)
      refine v_iload hX dX9_odds_182 rfl (?_ : V X 184 [some (.ref 75), some (.int p1), some (.int p2), some (.int p3), some (.int p4), some (.int p5), some (.int l6), some (.int x2), some (.int x5)] [.int x5, .int x2] μ6)
      refine v_idiv hX dX9_odds_184 h.1 (?_ : V X 185 [some (.ref 75), some (.int p1), some (.int p2), some (.int p3), some (.int p4), some (.int p5), some (.int l6), some (.int x2), some (.int x5)] [.int (x2 / x5)] μ6)
      replace h := h.2
      exact v_iret hO dX9_odds_185 (hR _ _ h)
    · replace h := h.2 c8
      refine v_iload hX dX9_odds_172 rfl (?_ : V X 174 [some (.ref 75), some (.int p1), some (.int p2), some (.int p3), some (.int p4), some (.int p5), some (.int l6), some (.int x2), some (.int x5)] [.int l6] μ6)
      refine v_iload hX dX9_odds_174 rfl (?_ : V X 176 [some (.ref 75), some (.int p1), some (.int p2), some (.int p3), some (.int p4), some (.int p5), some (.int l6), some (.int x2), some (.int x5)] [.int x5, .int l6] μ6)
      refine v_idiv hX dX9_odds_176 h.1 (?_ : V X 177 [some (.ref 75), some (.int p1), some (.int p2), some (.int p3), some (.int p4), some (.int p5), some (.int l6), some (.int x2), some (.int x5)] [.int (l6 / x5)] μ6)
      replace h := h.2
      refine v_goto hX 185 dX9_odds_177 rfl (?_ : V X 185 [some (.ref 75), some (.int p1), some (.int p2), some (.int p3), some (.int p4), some (.int p5), some (.int l6), some (.int x2), some (.int x5)] [.int (l6 / x5)] μ6)
      exact v_iret hO dX9_odds_185 (hR _ _ h)
  · replace h := h.2 c1
    refine v_iload hX dX9_odds_80 rfl (?_ : V X 82 [some (.ref 75), some (.int p1), some (.int p2), some (.int p3), some (.int p4), some (.int p5), some (.int l6), some (.int l7), none] [.int l7] μ)
    refine v_callS hX sp_X9_ones ck_X9_ones mk_X9_189 sk_X9_ones (by decide) [.int l7] [] rfl rfl (Nat.le_of_ble_eq_true rfl) dX9_odds_82 ⟨l7, rfl, h.1, fun x9 μ10 hp11 => (?_ : V X 85 [some (.ref 75), some (.int p1), some (.int p2), some (.int p3), some (.int p4), some (.int p5), some (.int l6), some (.int l7), none] [.int x9] μ10)⟩
    replace h := h.2 x9 μ10 hp11
    refine v_istore hX dX9_odds_85 (by rw [hn]; decide) (?_ : V X 87 [some (.ref 75), some (.int p1), some (.int p2), some (.int p3), some (.int p4), some (.int p5), some (.int l6), some (.int l7), some (.int x9)] [] μ10)
    refine v_iload hX dX9_odds_87 rfl (?_ : V X 89 [some (.ref 75), some (.int p1), some (.int p2), some (.int p3), some (.int p4), some (.int p5), some (.int l6), some (.int l7), some (.int x9)] [.int l6] μ10)
    refine v_aload_n hX dX9_odds_89 rfl (?_ : V X 90 [some (.ref 75), some (.int p1), some (.int p2), some (.int p3), some (.int p4), some (.int p5), some (.int l6), some (.int l7), some (.int x9)] [.ref 75, .int l6] μ10)
    refine v_getr hX (84) fk_X9_34 sh_75 rfl rfl dX9_odds_90 (?_ : V X 93 [some (.ref 75), some (.int p1), some (.int p2), some (.int p3), some (.int p4), some (.int p5), some (.int l6), some (.int l7), some (.int x9)] [.ref 84, .int l6] μ10)
    refine v_iconst hX 5 dX9_odds_93 rfl (?_ : V X 94 [some (.ref 75), some (.int p1), some (.int p2), some (.int p3), some (.int p4), some (.int p5), some (.int l6), some (.int l7), some (.int x9)] [.int 5, .ref 84, .int l6] μ10)
    refine v_iload_n hX dX9_odds_94 rfl (?_ : V X 95 [some (.ref 75), some (.int p1), some (.int p2), some (.int p3), some (.int p4), some (.int p5), some (.int l6), some (.int l7), some (.int x9)] [.int p1, .int 5, .ref 84, .int l6] μ10)
    refine v_iadd hX dX9_odds_95 (?_ : V X 96 [some (.ref 75), some (.int p1), some (.int p2), some (.int p3), some (.int p4), some (.int p5), some (.int l6), some (.int l7), some (.int x9)] [.int (5 + p1), .ref 84, .int l6] μ10)
    have hb12 := h.1
    replace h := h.2
    refine w_iald hX (Int32.toNatClampNeg (5 + p1)) sh_84 hb12 rfl dX9_odds_96 (?_ : V X 97 [some (.ref 75), some (.int p1), some (.int p2), some (.int p3), some (.int p4), some (.int p5), some (.int l6), some (.int l7), some (.int x9)] [.int (gi μ10 84 (Int32.toNatClampNeg (5 + p1))), .int l6] μ10)
    refine v_iload hX dX9_odds_97 rfl (?_ : V X 99 [some (.ref 75), some (.int p1), some (.int p2), some (.int p3), some (.int p4), some (.int p5), some (.int l6), some (.int l7), some (.int x9)] [.int x9, .int (gi μ10 84 (Int32.toNatClampNeg (5 + p1))), .int l6] μ10)
    refine v_aload_n hX dX9_odds_99 rfl (?_ : V X 100 [some (.ref 75), some (.int p1), some (.int p2), some (.int p3), some (.int p4), some (.int p5), some (.int l6), some (.int l7), some (.int x9)] [.ref 75, .int x9, .int (gi μ10 84 (Int32.toNatClampNeg (5 + p1))), .int l6] μ10)
    refine v_getr hX (81) fk_X9_25 sh_75 rfl rfl dX9_odds_100 (?_ : V X 103 [some (.ref 75), some (.int p1), some (.int p2), some (.int p3), some (.int p4), some (.int p5), some (.int l6), some (.int l7), some (.int x9)] [.ref 81, .int x9, .int (gi μ10 84 (Int32.toNatClampNeg (5 + p1))), .int l6] μ10)
    refine v_iload_n hX dX9_odds_103 rfl (?_ : V X 104 [some (.ref 75), some (.int p1), some (.int p2), some (.int p3), some (.int p4), some (.int p5), some (.int l6), some (.int l7), some (.int x9)] [.int p2, .ref 81, .int x9, .int (gi μ10 84 (Int32.toNatClampNeg (5 + p1))), .int l6] μ10)
    have hb13 := h.1
    replace h := h.2
    refine w_iald hX (Int32.toNatClampNeg p2) sh_81 hb13 rfl dX9_odds_104 (?_ : V X 105 [some (.ref 75), some (.int p1), some (.int p2), some (.int p3), some (.int p4), some (.int p5), some (.int l6), some (.int l7), some (.int x9)] [.int (gi μ10 81 (Int32.toNatClampNeg p2)), .int x9, .int (gi μ10 84 (Int32.toNatClampNeg (5 + p1))), .int l6] μ10)
    refine v_imul hX dX9_odds_105 (?_ : V X 106 [some (.ref 75), some (.int p1), some (.int p2), some (.int p3), some (.int p4), some (.int p5), some (.int l6), some (.int l7), some (.int x9)] [.int (x9 * (gi μ10 81 (Int32.toNatClampNeg p2))), .int (gi μ10 84 (Int32.toNatClampNeg (5 + p1))), .int l6] μ10)
    refine v_aload_n hX dX9_odds_106 rfl (?_ : V X 107 [some (.ref 75), some (.int p1), some (.int p2), some (.int p3), some (.int p4), some (.int p5), some (.int l6), some (.int l7), some (.int x9)] [.ref 75, .int (x9 * (gi μ10 81 (Int32.toNatClampNeg p2))), .int (gi μ10 84 (Int32.toNatClampNeg (5 + p1))), .int l6] μ10)
    refine v_getr hX (79) fk_X9_19 sh_75 rfl rfl dX9_odds_107 (?_ : V X 110 [some (.ref 75), some (.int p1), some (.int p2), some (.int p3), some (.int p4), some (.int p5), some (.int l6), some (.int l7), some (.int x9)] [.ref 79, .int (x9 * (gi μ10 81 (Int32.toNatClampNeg p2))), .int (gi μ10 84 (Int32.toNatClampNeg (5 + p1))), .int l6] μ10)
    refine v_iload_n hX dX9_odds_110 rfl (?_ : V X 111 [some (.ref 75), some (.int p1), some (.int p2), some (.int p3), some (.int p4), some (.int p5), some (.int l6), some (.int l7), some (.int x9)] [.int p1, .ref 79, .int (x9 * (gi μ10 81 (Int32.toNatClampNeg p2))), .int (gi μ10 84 (Int32.toNatClampNeg (5 + p1))), .int l6] μ10)
    have hb14 := h.1
    replace h := h.2
    refine w_iald hX (Int32.toNatClampNeg p1) sh_79 hb14 rfl dX9_odds_111 (?_ : V X 112 [some (.ref 75), some (.int p1), some (.int p2), some (.int p3), some (.int p4), some (.int p5), some (.int l6), some (.int l7), some (.int x9)] [.int (gi μ10 79 (Int32.toNatClampNeg p1)), .int (x9 * (gi μ10 81 (Int32.toNatClampNeg p2))), .int (gi μ10 84 (Int32.toNatClampNeg (5 + p1))), .int l6] μ10)
    refine v_imul hX dX9_odds_112 (?_ : V X 113 [some (.ref 75), some (.int p1), some (.int p2), some (.int p3), some (.int p4), some (.int p5), some (.int l6), some (.int l7), some (.int x9)] [.int ((x9 * (gi μ10 81 (Int32.toNatClampNeg p2))) * (gi μ10 79 (Int32.toNatClampNeg p1))), .int (gi μ10 84 (Int32.toNatClampNeg (5 + p1))), .int l6] μ10)
    refine v_isub hX dX9_odds_113 (?_ : V X 114 [some (.ref 75), some (.int p1), some (.int p2), some (.int p3), some (.int p4), some (.int p5), some (.int l6), some (.int l7), some (.int x9)] [.int ((gi μ10 84 (Int32.toNatClampNeg (5 + p1))) - ((x9 * (gi μ10 81 (Int32.toNatClampNeg p2))) * (gi μ10 79 (Int32.toNatClampNeg p1)))), .int l6] μ10)
    refine v_if_ge hX 139 dX9_odds_114 rfl (fun c15 => ?_) (fun c15 => ?_)
    · replace h := h.1 c15
      refine v_iconst hX 0 dX9_odds_139 rfl (?_ : V X 140 [some (.ref 75), some (.int p1), some (.int p2), some (.int p3), some (.int p4), some (.int p5), some (.int l6), some (.int l7), some (.int x9)] [.int 0, .int l6] μ10)
      refine v_iadd hX dX9_odds_140 (?_ : V X 141 [some (.ref 75), some (.int p1), some (.int p2), some (.int p3), some (.int p4), some (.int p5), some (.int l6), some (.int l7), some (.int x9)] [.int (l6 + 0)] μ10)
      refine v_istore hX dX9_odds_141 (by rw [hn]; decide) (?_ : V X 143 [some (.ref 75), some (.int p1), some (.int p2), some (.int p3), some (.int p4), some (.int p5), some (.int (l6 + 0)), some (.int l7), some (.int x9)] [] μ10)
      refine v_iinc hX 1 dX9_odds_143 (by rw [hn]; decide) rfl rfl (?_ : V X 146 [some (.ref 75), some (.int p1), some (.int p2), some (.int p3), some (.int p4), some (.int p5), some (.int (l6 + 0)), some (.int (l7 + 1)), some (.int x9)] [] μ10)
      refine v_goto hX 71 dX9_odds_146 rfl (?_ : V X 71 [some (.ref 75), some (.int p1), some (.int p2), some (.int p3), some (.int p4), some (.int p5), some (.int (l6 + 0)), some (.int (l7 + 1)), some (.int x9)] [] μ10)
      exact v_mask [true, true, true, true, true, true, true, true, false] (hJ71 _ _ _ h)
    · replace h := h.2 c15
      refine v_bipush hX 10 dX9_odds_117 rfl (?_ : V X 119 [some (.ref 75), some (.int p1), some (.int p2), some (.int p3), some (.int p4), some (.int p5), some (.int l6), some (.int l7), some (.int x9)] [.int 10, .int l6] μ10)
      refine v_iload_n hX dX9_odds_119 rfl (?_ : V X 120 [some (.ref 75), some (.int p1), some (.int p2), some (.int p3), some (.int p4), some (.int p5), some (.int l6), some (.int l7), some (.int x9)] [.int p3, .int 10, .int l6] μ10)
      refine v_isub hX dX9_odds_120 (?_ : V X 121 [some (.ref 75), some (.int p1), some (.int p2), some (.int p3), some (.int p4), some (.int p5), some (.int l6), some (.int l7), some (.int x9)] [.int (10 - p3), .int l6] μ10)
      refine v_iload hX dX9_odds_121 rfl (?_ : V X 123 [some (.ref 75), some (.int p1), some (.int p2), some (.int p3), some (.int p4), some (.int p5), some (.int l6), some (.int l7), some (.int x9)] [.int x9, .int (10 - p3), .int l6] μ10)
      refine v_callS hX sp_X9_power ck_X9_power mk_X9_195 sk_X9_power (by decide) [.int (10 - p3), .int x9] [.int l6] rfl rfl (Nat.le_of_ble_eq_true rfl) dX9_odds_123 ⟨(10 - p3), x9, rfl, h.1, fun x16 μ17 hp18 => (?_ : V X 126 [some (.ref 75), some (.int p1), some (.int p2), some (.int p3), some (.int p4), some (.int p5), some (.int l6), some (.int l7), some (.int x9)] [.int x16, .int l6] μ17)⟩
      replace h := h.2 x16 μ17 hp18
      refine v_iload_n hX dX9_odds_126 rfl (?_ : V X 127 [some (.ref 75), some (.int p1), some (.int p2), some (.int p3), some (.int p4), some (.int p5), some (.int l6), some (.int l7), some (.int x9)] [.int p3, .int x16, .int l6] μ17)
      refine v_iload hX dX9_odds_127 rfl (?_ : V X 129 [some (.ref 75), some (.int p1), some (.int p2), some (.int p3), some (.int p4), some (.int p5), some (.int l6), some (.int l7), some (.int x9)] [.int p4, .int p3, .int x16, .int l6] μ17)
      refine v_iload hX dX9_odds_129 rfl (?_ : V X 131 [some (.ref 75), some (.int p1), some (.int p2), some (.int p3), some (.int p4), some (.int p5), some (.int l6), some (.int l7), some (.int x9)] [.int x9, .int p4, .int p3, .int x16, .int l6] μ17)
      refine v_isub hX dX9_odds_131 (?_ : V X 132 [some (.ref 75), some (.int p1), some (.int p2), some (.int p3), some (.int p4), some (.int p5), some (.int l6), some (.int l7), some (.int x9)] [.int (p4 - x9), .int p3, .int x16, .int l6] μ17)
      refine v_callS hX sp_X9_power ck_X9_power mk_X9_195 sk_X9_power (by decide) [.int p3, .int (p4 - x9)] [.int x16, .int l6] rfl rfl (Nat.le_of_ble_eq_true rfl) dX9_odds_132 ⟨p3, (p4 - x9), rfl, h.1, fun x19 μ20 hp21 => (?_ : V X 135 [some (.ref 75), some (.int p1), some (.int p2), some (.int p3), some (.int p4), some (.int p5), some (.int l6), some (.int l7), some (.int x9)] [.int x19, .int x16, .int l6] μ20)⟩
      replace h := h.2 x19 μ20 hp21
      refine v_imul hX dX9_odds_135 (?_ : V X 136 [some (.ref 75), some (.int p1), some (.int p2), some (.int p3), some (.int p4), some (.int p5), some (.int l6), some (.int l7), some (.int x9)] [.int (x16 * x19), .int l6] μ20)
      refine v_goto hX 140 dX9_odds_136 rfl (?_ : V X 140 [some (.ref 75), some (.int p1), some (.int p2), some (.int p3), some (.int p4), some (.int p5), some (.int l6), some (.int l7), some (.int x9)] [.int (x16 * x19), .int l6] μ20)
      refine v_iadd hX dX9_odds_140 (?_ : V X 141 [some (.ref 75), some (.int p1), some (.int p2), some (.int p3), some (.int p4), some (.int p5), some (.int l6), some (.int l7), some (.int x9)] [.int (l6 + (x16 * x19))] μ20)
      refine v_istore hX dX9_odds_141 (by rw [hn]; decide) (?_ : V X 143 [some (.ref 75), some (.int p1), some (.int p2), some (.int p3), some (.int p4), some (.int p5), some (.int (l6 + (x16 * x19))), some (.int l7), some (.int x9)] [] μ20)
      refine v_iinc hX 1 dX9_odds_143 (by rw [hn]; decide) rfl rfl (?_ : V X 146 [some (.ref 75), some (.int p1), some (.int p2), some (.int p3), some (.int p4), some (.int p5), some (.int (l6 + (x16 * x19))), some (.int (l7 + 1)), some (.int x9)] [] μ20)
      refine v_goto hX 71 dX9_odds_146 rfl (?_ : V X 71 [some (.ref 75), some (.int p1), some (.int p2), some (.int p3), some (.int p4), some (.int p5), some (.int (l6 + (x16 * x19))), some (.int (l7 + 1)), some (.int x9)] [] μ20)
      exact v_mask [true, true, true, true, true, true, true, true, false] (hJ71 _ _ _ h)
set_option maxRecDepth 20000 in
set_option maxHeartbeats 4000000 in
theorem vp_X9_odds_0 (p1 : Int32) (p2 : Int32) (p3 : Int32) (p4 : Int32) (p5 : Int32)  (μ : Mem) (hpre : pre_X9_odds p1 p2 p3 p4 p5 μ) : vc_X9_odds_0 p1 p2 p3 p4 p5 μ (post_X9_odds p1 p2 p3 p4 p5 μ) (fun l6 l7 m => ∃ k : Nat, inv_X9_odds_71 p1 p2 p3 p4 p5 μ k l6 l7 m) := by
  simp only [vc_X9_odds_0, pre_X9_gcd, pre_X9_in, pre_X9_isDoing, pre_X9_isRoom, pre_X9_isSolved, pre_X9_ones, pre_X9_power, post_X9_gcd, post_X9_in, post_X9_isDoing, post_X9_isRoom, post_X9_isSolved, post_X9_ones, post_X9_power, and_imp, call_eq, forall_eq, forall_const, true_and, and_true]
  obtain ⟨h0, h4⟩ := hpre
  have bd : oddBad (gi μ 77 0) (gi μ 77 1) p1 p2 p3 p4 p5 → post_X9_odds p1 p2 p3 p4 p5 μ (-1) (ui μ 75 0 0) := fun q => ⟨rfl, fun _ => rfl, fun z => absurd q z⟩
  rw [show gi (ui μ 75 0 0) 77 0 = gi μ 77 0 from rfl, show gi (ui μ 75 0 0) 77 1 = gi μ 77 1 from rfl, show gi (ui μ 75 0 0) 84 3 = gi μ 84 3 from rfl]
  unfold oddBad at bd
  refine ⟨h0, ?_⟩
  by_cases c : p1 < 0 ∨ gi μ 77 0 ≤ p1
  · simp only [if_pos c]
    exact ⟨fun _ => bd (by grind), fun z => absurd trivial z⟩
  · simp only [if_neg c]
    refine ⟨fun z => absurd z (by decide), fun _ => ⟨h4, ?_⟩⟩
    by_cases c2 : p2 < 0 ∨ gi μ 77 1 ≤ p2
    · simp only [if_pos c2]
      exact ⟨fun _ => bd (by grind), fun z => absurd trivial z⟩
    · simp only [if_neg c2]
      refine ⟨fun z => absurd z (by decide), fun _ => ?_⟩
      by_cases c3 : p3 < 0 ∨ 10 < p3
      · simp only [if_pos c3]
        exact ⟨fun _ => bd (by grind), fun z => absurd trivial z⟩
      · simp only [if_neg c3]
        refine ⟨fun z => absurd z (by decide), fun _ => ?_⟩
        by_cases c4 : p4 < 0 ∨ 6 < p4
        · simp only [if_pos c4]
          exact ⟨fun _ => bd (by grind), fun z => absurd trivial z⟩
        · simp only [if_neg c4]
          refine ⟨fun z => absurd z (by decide), fun _ => ?_⟩
          by_cases c5 : p5 < 0 ∨ 1 < p5
          · simp only [if_pos c5]
            exact ⟨fun z => absurd trivial z, fun _ => bd (by grind)⟩
          · simp only [if_neg c5]
            have nb : ¬ oddBad (gi μ 77 0) (gi μ 77 1) p1 p2 p3 p4 p5 := by unfold oddBad; grind
            refine ⟨fun _ => ⟨fun q => ?_, fun q => ?_⟩, fun z => absurd z (by decide)⟩
            · refine ⟨2 ^ p4.toNatClampNeg, 0, Nat.zero_le _, rfl, nb, ?_, rfl, rfl, rfl⟩
              intro z; rw [if_pos z] at q; exact absurd q (by decide)
            · refine ⟨rfl, fun z => absurd z nb, fun _ => ?_⟩
              split at q
              · rename_i z; rw [if_pos z]
              · exact absurd rfl q
set_option maxRecDepth 20000 in
set_option maxHeartbeats 4000000 in
theorem vp_X9_odds_71 (p1 : Int32) (p2 : Int32) (p3 : Int32) (p4 : Int32) (p5 : Int32)  (μ : Mem) (hpre : pre_X9_odds p1 p2 p3 p4 p5 μ) (n : Nat) (l6 : Int32) (l7 : Int32) (μ0 : Mem) (hi : inv_X9_odds_71 p1 p2 p3 p4 p5 μ n l6 l7 μ0) : vc_X9_odds_71 p1 p2 p3 p4 p5 l6 l7 μ0 (post_X9_odds p1 p2 p3 p4 p5 μ) (fun l6 l7 m => ∃ k : Nat, k < n ∧ inv_X9_odds_71 p1 p2 p3 p4 p5 μ k l6 l7 m) := by
  simp only [vc_X9_odds_71, pre_X9_gcd, pre_X9_in, pre_X9_isDoing, pre_X9_isRoom, pre_X9_isSolved, pre_X9_ones, pre_X9_power, post_X9_gcd, post_X9_in, post_X9_isDoing, post_X9_isRoom, post_X9_isSolved, post_X9_ones, post_X9_power, and_imp, call_eq, forall_eq, forall_const, true_and, and_true]
  obtain ⟨h0, h4⟩ := hpre
  obtain ⟨s, hs1, rfl, hb, hs, rfl, rfl, rfl⟩ := hi
  have hb' := hb
  unfold oddBad at hb'
  have c1 : ¬ (p1 < 0 ∨ gi μ 77 0 ≤ p1) := by grind
  have c2 : ¬ (p2 < 0 ∨ gi μ 77 1 ≤ p2) := by grind
  have in1 := ix_in (N := 10) h0 (by omega) (by omega) (by omega) c1
  have in2 := ix_in (N := 10) h4 (by omega) (by omega) (by omega) c2
  obtain ⟨ep1, lp1⟩ := ix_of h0 (by omega) c1
  have hR5 := h0.2
  have q3 : ¬ p3 < 0 := by grind
  have q5 : ¬ p4 < 0 := by grind
  have q4 : ¬ 10 < p3 := by grind
  have q6 : ¬ 6 < p4 := by grind
  obtain ⟨z1, z2⟩ := nn_of (nlt_le q3)
  obtain ⟨z3, z4⟩ := nn_of (nlt_le q5)
  have hx10 : p3.toNatClampNeg ≤ 10 := by rw [z1, show (10 : Int32) = nI 10 from rfl, nI_ltI (by omega) z2] at q4; omega
  have hn6 : p4.toNatClampNeg ≤ 6 := by rw [z3, show (6 : Int32) = nI 6 from rfl, nI_ltI (by omega) z4] at q6; omega
  have h64 : 2 ^ p4.toNatClampNeg ≤ 2 ^ 6 := Nat.pow_le_pow_right (by omega) hn6
  have e1 : (1 : Int32) <<< (p4 &&& 31) = nI (2 ^ p4.toNatClampNeg) := by
    have := shl_pow p4.toNatClampNeg (by omega)
    rw [← z3] at this; exact this
  rw [e1, nI_leI (by omega) (by omega)]
  have e10 : (10 : Int32) - p3 = nI (10 - p3.toNatClampNeg) := by
    have h := pk_sub (a := 10) (b := p3.toNatClampNeg) hx10
    rw [← z1] at h; exact h
  have e5 : (5 : Int32) + p1 = nI (5 + p1.toNatClampNeg) := (add_tn (a := 5) ep1 (by omega)).1
  refine ⟨fun c => ⟨nlt_le q5, ?_⟩, fun c => ?_⟩
  · have : s = 2 ^ p4.toNatClampNeg := by omega
    subst this
    rw [show (10 : Int32) = nI 10 from rfl, powI_nI, oddM_tN _ _ hn6, ← oddU_tN]
    have hle : oddU p3.toNatClampNeg p4.toNatClampNeg (oddQM μ p1 p2) ≤ 10 ^ p4.toNatClampNeg := by rw [oddU_tN]; exact tN_le _ hx10 _ _
    have hp := pow10_le _ hn6
    have hpos : 0 < 10 ^ p4.toNatClampNeg := Nat.pow_pos (by omega)
    generalize hu : oddU p3.toNatClampNeg p4.toNatClampNeg (oddQM μ p1 p2) = u at *
    generalize hten : 10 ^ p4.toNatClampNeg = ten at *
    rw [nI_clamp (by omega), nI_clamp (by omega), Nat.gcd_comm]
    have hg0 : 0 < Nat.gcd ten u := Nat.gcd_pos_of_pos_left _ hpos
    have hg1 : Nat.gcd ten u ≤ ten := Nat.gcd_le_left _ hpos
    have hne : ¬ nI (Nat.gcd ten u) = 0 := nI_ne0 hg0 (by omega)
    refine ⟨⟨nI_pos' (by omega), nI_pos' (by omega)⟩, fun q => ⟨hne, rfl, fun z => absurd z hb, fun _ => ?_⟩, fun q => ⟨hne, rfl, fun z => absurd z hb, fun _ => ?_⟩⟩
    · rw [if_neg hs, oddsA, if_neg q, hu, hten, pk_div (by omega) hg0 (by omega)]
    · rw [if_neg hs, oddsA, if_pos q, hu, hten, pk_div (by omega) hg0 (by omega)]
  · have hs64 : s < 64 := by omega
    have hpc := pc_le p4.toNatClampNeg (by omega) s hs64 (by omega)
    rw [ones_pc s hs64, e5, nI_clamp (by omega)]
    rw [show gi (ui μ 75 0 0) 84 (5 + p1.toNatClampNeg) = gi μ 84 (5 + p1.toNatClampNeg) from rfl, show gi (ui μ 75 0 0) 81 p2.toNatClampNeg = gi μ 81 p2.toNatClampNeg from rfl, show gi (ui μ 75 0 0) 79 p1.toNatClampNeg = gi μ 79 p1.toNatClampNeg from rfl]
    refine ⟨vp_in_nI (by omega) (by omega), in2, in1, fun c3 => ⟨2 ^ p4.toNatClampNeg - (s + 1), by omega, s + 1, by omega, rfl, hb, hs, rfl, nI_1 s, ?_⟩, fun c3 => ⟨nI_pos' (by omega), ?_⟩⟩
    · have hq : oddQM μ p1 p2 (pcN s) = false := by unfold oddQM; exact decide_eq_false (by simpa using c3)
      simp only [oddM, sumN, hq]; simp
    · have e2 : p4 - nI (pcN s) = nI (p4.toNatClampNeg - pcN s) := by
        have h := pk_sub (a := p4.toNatClampNeg) (b := pcN s) hpc
        rw [← z3] at h; exact h
      rw [e2, e10, powI_nI, nI_clamp (by omega), nI_clamp (by omega)]
      have e3 : powI p3 (p4.toNatClampNeg - pcN s) = nI (p3.toNatClampNeg ^ (p4.toNatClampNeg - pcN s)) := by
        have h := powI_nI p3.toNatClampNeg (p4.toNatClampNeg - pcN s)
        rw [← z1] at h; exact h
      rw [e3, pk_mul]
      refine ⟨nI_pos' (by omega), 2 ^ p4.toNatClampNeg - (s + 1), by omega, s + 1, by omega, rfl, hb, hs, rfl, nI_1 s, ?_⟩
      have hq : oddQM μ p1 p2 (pcN s) = true := by unfold oddQM; exact decide_eq_true (by simpa using c3)
      simp only [oddM, sumN, hq]; simp [nI_add]
theorem sp_X9_odds : Sp yX9_odds cX9_odds 9 (some .int) 2 S_X9_odds := by
  refine sp_of (by decide) (fun av μ P h => ?_) ?_
  · obtain ⟨p1, p2, p3, p4, p5, rfl, -⟩ := h
    refine ⟨Nat.le_of_ble_eq_true rfl, fun v hv => ?_⟩
    simp only [List.mem_cons, List.not_mem_nil, or_false] at hv
    rcases hv with rfl | rfl | rfl | rfl | rfl | rfl <;> rfl
  · rintro X P hO _ μ ⟨p1, p2, p3, p4, p5, rfl, hpre, hpost⟩ hn
    have hJ : ∀ n : Nat, (∀ (l6 : Int32) (l7 : Int32) (m : Mem), inv_X9_odds_71 p1 p2 p3 p4 p5 μ n l6 l7 m → V X 71 [some (.ref 75), some (.int p1), some (.int p2), some (.int p3), some (.int p4), some (.int p5), some (.int l6), some (.int l7), none] [] m) := by
      intro n
      induction n using Nat.strongRecOn with
      | _ n ih =>
        exact fun l6 l7 m hi => wk_X9_odds_71 (J71 := (fun l6 l7 m => ∃ k : Nat, k < n ∧ inv_X9_odds_71 p1 p2 p3 p4 p5 μ k l6 l7 m)) hO hn p1 p2 p3 p4 p5  l6 l7 m hpost (fun l6 l7 m hk => by obtain ⟨k, hk, hi⟩ := hk; exact (ih k hk) l6 l7 m hi) (vp_X9_odds_71 p1 p2 p3 p4 p5  μ hpre n l6 l7 m hi)
    exact wk_X9_odds_0 (J71 := (fun l6 l7 m => ∃ k : Nat, inv_X9_odds_71 p1 p2 p3 p4 p5 μ k l6 l7 m)) hO hn p1 p2 p3 p4 p5  μ hpost (fun l6 l7 m hk => by obtain ⟨k, hi⟩ := hk; exact (hJ k) l6 l7 m hi) (vp_X9_odds_0 p1 p2 p3 p4 p5  μ hpre)
theorem mark_mem (μ : Mem) (a b c : Int64) (h : a + b = c) : ul (ul μ 0 12 (gl μ 0 12 + a)) 0 12 (gl (ul μ 0 12 (gl μ 0 12 + a)) 0 12 + b) = ul μ 0 12 (gl μ 0 12 + c) := by
  have e1 : gl (ul μ 0 12 (gl μ 0 12 + a)) 0 12 = gl μ 0 12 + a := by simp [gl, ul]
  rw [e1, Int64.add_assoc, h]
  unfold ul
  simp only
  congr 2
  funext x y
  by_cases z : x = 0 ∧ y = 12
  · rw [if_pos z, if_pos z]
  · rw [if_neg z, if_neg z, if_neg z]
def S_X8_rateAs (lv : Nat) : Tr := fun av μ P => ∃ (p1 : Int32) (p2 : Int32), av = [.ref 0, .int p1, .int p2] ∧ pre_X8_rateAs lv p1 p2 μ ∧ ∀ (x : Int32) (m : Mem), post_X8_rateAs lv p1 p2 μ x m → P (some (.int x)) m
def vc_X8_rateAs_0 (lv : Nat) (p1 : Int32) (p2 : Int32)  (μ : Mem) (R : Int32 → Mem → Prop)  : Prop :=
  ((p1 < 0 → R 0 μ) ∧ (¬ p1 < 0 → ((p1 ≤ 5 → vp_in p1 6 ∧ (∀ μ4, μ4 = ul μ 0 12 ((gl μ 0 12) + (Int32.toInt64 (markF (Int32.toNatClampNeg p1)))) → ((¬ p1 = 0 → vp_in p1 6 ∧ (0 < lv ∧ pre_X8_rateAs (lv - 1) (aboveF (Int32.toNatClampNeg p1)) p2 μ4 ∧ ∀ (x8 : Int32) (μ9 : Mem), post_X8_rateAs (lv - 1) (aboveF (Int32.toNatClampNeg p1)) p2 μ4 x8 μ9 → ((p1 = 1 → ((gp μ9 1) = 3 ∨ (gp μ9 1) = 10) ∧ vp_in p2 5 ∧ R (x8 + (gi μ9 (((gp μ9 1)) + 3) (Int32.toNatClampNeg p2))) μ9) ∧ (¬ p1 = 1 → ((p1 = 2 → ((gp μ9 1) = 3 ∨ (gp μ9 1) = 10) ∧ vp_in p2 5 ∧ R (x8 - (gi μ9 (((gp μ9 1)) + 2) (Int32.toNatClampNeg p2))) μ9) ∧ (¬ p1 = 2 → ((p1 = 3 → R (2 * x8) μ9) ∧ (¬ p1 = 3 → ((p1 = 4 → R (x8 + p2) μ9) ∧ (¬ p1 = 4 → ((p1 = 5 → ((gp μ9 1) = 3 ∨ (gp μ9 1) = 10) ∧ (pre_X7_earnedIn ((gp μ9 1)) μ9 ∧ ∀ (x21 : Int32) (μ22 : Mem), post_X7_earnedIn ((gp μ9 1)) μ9 x21 μ22 → R (x8 + x21) μ22)) ∧ (¬ p1 = 5 → vp_in p2 5 ∧ R (gi μ9 18 (Int32.toNatClampNeg p2)) μ9)))))))))))) ∧ (p1 = 0 → ((p1 = 1 → ((gp μ4 1) = 3 ∨ (gp μ4 1) = 10) ∧ vp_in p2 5 ∧ R (0 + (gi μ4 (((gp μ4 1)) + 3) (Int32.toNatClampNeg p2))) μ4) ∧ (¬ p1 = 1 → ((p1 = 2 → ((gp μ4 1) = 3 ∨ (gp μ4 1) = 10) ∧ vp_in p2 5 ∧ R (0 - (gi μ4 (((gp μ4 1)) + 2) (Int32.toNatClampNeg p2))) μ4) ∧ (¬ p1 = 2 → ((p1 = 3 → R 0 μ4) ∧ (¬ p1 = 3 → ((p1 = 4 → R (0 + p2) μ4) ∧ (¬ p1 = 4 → ((p1 = 5 → ((gp μ4 1) = 3 ∨ (gp μ4 1) = 10) ∧ (pre_X7_earnedIn ((gp μ4 1)) μ4 ∧ ∀ (x35 : Int32) (μ36 : Mem), post_X7_earnedIn ((gp μ4 1)) μ4 x35 μ36 → R (0 + x35) μ36)) ∧ (¬ p1 = 5 → vp_in p2 5 ∧ R (gi μ4 18 (Int32.toNatClampNeg p2)) μ4)))))))))))))) ∧ (¬ p1 ≤ 5 → R 0 μ))))
set_option maxRecDepth 20000 in
set_option maxHeartbeats 4000000 in
theorem wk_X8_rateAs_0 {X : XT} {P : Post} {lv : Nat} (hO : OkM X cX8_rateAs RX8 (2 + lv) (some .int) P) (hn : xn X = 4) (p1 : Int32) (p2 : Int32)   (μ : Mem) {R : Int32 → Mem → Prop} (hR : ∀ x m, R x m → P (some (.int x)) m)   (hrec : ∀ k : Nat, k < lv → Sp yX8_rateAs cX8_rateAs 4 (some .int) (2 + k) (S_X8_rateAs k)) (h : vc_X8_rateAs_0 lv p1 p2  μ R ) : V X 0 [some (.ref 0), some (.int p1), some (.int p2), none] [] μ := by
  have hX := hO.1
  unfold vc_X8_rateAs_0 at h
  refine v_iload_n hX dX8_rateAs_0 rfl (?_ : V X 1 [some (.ref 0), some (.int p1), some (.int p2), none] [.int p1] μ)
  refine v_if_lt hX 9 dX8_rateAs_1 rfl (fun c1 => ?_) (fun c1 => ?_)
  · replace h := h.1 c1
    refine v_iconst hX 0 dX8_rateAs_9 rfl (?_ : V X 10 [some (.ref 0), some (.int p1), some (.int p2), none] [.int 0] μ)
    exact v_iret hO dX8_rateAs_10 (hR _ _ h)
  · replace h := h.2 c1
    refine v_iload_n hX dX8_rateAs_4 rfl (?_ : V X 5 [some (.ref 0), some (.int p1), some (.int p2), none] [.int p1] μ)
    refine v_iconst hX 5 dX8_rateAs_5 rfl (?_ : V X 6 [some (.ref 0), some (.int p1), some (.int p2), none] [.int 5, .int p1] μ)
    refine v_icmp_le hX 11 dX8_rateAs_6 rfl (fun c2 => ?_) (fun c2 => ?_)
    · replace h := h.1 c2
      refine v_aload_n hX dX8_rateAs_11 rfl (?_ : V X 12 [some (.ref 0), some (.int p1), some (.int p2), none] [.ref 0] μ)
      refine v_dup hX dX8_rateAs_12 rfl (?_ : V X 13 [some (.ref 0), some (.int p1), some (.int p2), none] [.ref 0, .ref 0] μ)
      refine v_getl hX fk_X8_80 sh_0 rfl dX8_rateAs_13 (?_ : V X 16 [some (.ref 0), some (.int p1), some (.int p2), none] [.long (gl μ 0 12), .ref 0] μ)
      have hb3 := h.1
      replace h := h.2
      refine v_kinds hX fs_KIND_MARK dX8_rateAs_16 dX8_rateAs_19 rfl hb3 dX8_rateAs_20 (?_ : V X 21 [some (.ref 0), some (.int p1), some (.int p2), none] [.int (markF (Int32.toNatClampNeg p1)), .long (gl μ 0 12), .ref 0] μ)
      refine v_i2l hX dX8_rateAs_21 (?_ : V X 22 [some (.ref 0), some (.int p1), some (.int p2), none] [.long (Int32.toInt64 (markF (Int32.toNatClampNeg p1))), .long (gl μ 0 12), .ref 0] μ)
      refine v_ladd hX dX8_rateAs_22 (?_ : V X 23 [some (.ref 0), some (.int p1), some (.int p2), none] [.long ((gl μ 0 12) + (Int32.toInt64 (markF (Int32.toNatClampNeg p1)))), .ref 0] μ)
      refine w_putl hX fk_X8_80 fw_8_12 sh_0 rfl dX8_rateAs_23 (fun μ4 e5 => (?_ : V X 26 [some (.ref 0), some (.int p1), some (.int p2), none] [] μ4))
      replace h := h μ4 e5
      refine v_iload_n hX dX8_rateAs_26 rfl (?_ : V X 27 [some (.ref 0), some (.int p1), some (.int p2), none] [.int p1] μ4)
      refine v_if_ne hX 34 dX8_rateAs_27 rfl (fun c6 => ?_) (fun c6 => ?_)
      · replace h := h.1 c6
        refine v_aload_n hX dX8_rateAs_34 rfl (?_ : V X 35 [some (.ref 0), some (.int p1), some (.int p2), none] [.ref 0] μ4)
        have hb7 := h.1
        replace h := h.2
        refine v_above hX fs_KIND_ABOVE dX8_rateAs_35 dX8_rateAs_38 rfl hb7 dX8_rateAs_39 (?_ : V X 40 [some (.ref 0), some (.int p1), some (.int p2), none] [.int (aboveF (Int32.toNatClampNeg p1)), .ref 0] μ4)
        refine v_iload_n hX dX8_rateAs_40 rfl (?_ : V X 41 [some (.ref 0), some (.int p1), some (.int p2), none] [.int p2, .int (aboveF (Int32.toNatClampNeg p1)), .ref 0] μ4)
        have h0lv := h.1
        replace h := h.2
        refine v_callV hX (hrec (lv - 1) (by omega)) ck_X8_rateAs mk_X8_259 mv_X8_rateAs sh_0 (by decide) (by omega) [.int (aboveF (Int32.toNatClampNeg p1)), .int p2] [] rfl rfl (Nat.le_of_ble_eq_true rfl) dX8_rateAs_41 ⟨(aboveF (Int32.toNatClampNeg p1)), p2, rfl, h.1, fun x8 μ9 hp10 => (?_ : V X 44 [some (.ref 0), some (.int p1), some (.int p2), none] [.int x8] μ9)⟩
        replace h := h.2 x8 μ9 hp10
        refine v_istore_n hX dX8_rateAs_44 (by rw [hn]; decide) (?_ : V X 45 [some (.ref 0), some (.int p1), some (.int p2), some (.int x8)] [] μ9)
        refine v_iload_n hX dX8_rateAs_45 rfl (?_ : V X 46 [some (.ref 0), some (.int p1), some (.int p2), some (.int x8)] [.int p1] μ9)
        by_cases c11 : p1 = 1
        · replace h := h.1 c11
          refine v_tableIn hX 80 dX8_rateAs_46 (by rw [c11]; decide) (by rw [c11]; decide) (o := 34) (by rw [c11]; decide) rfl (?_ : V X 80 [some (.ref 0), some (.int p1), some (.int p2), some (.int x8)] [] μ9)
          refine v_iload_n hX dX8_rateAs_80 rfl (?_ : V X 81 [some (.ref 0), some (.int p1), some (.int p2), some (.int x8)] [.int x8] μ9)
          refine v_aload_n hX dX8_rateAs_81 rfl (?_ : V X 82 [some (.ref 0), some (.int p1), some (.int p2), some (.int x8)] [.ref 0, .int x8] μ9)
          have hh12 := h.1
          replace h := h.2
          refine v_getp hX (gp μ9 1) fk_X8_19 sh_0 rfl rfl dX8_rateAs_82 (?_ : V X 85 [some (.ref 0), some (.int p1), some (.int p2), some (.int x8)] [.ref ((gp μ9 1)), .int x8] μ9)
          refine v_getr hX (((gp μ9 1)) + 3) fk_X8_119 (sHo hh12) rfl rfl dX8_rateAs_85 (?_ : V X 88 [some (.ref 0), some (.int p1), some (.int p2), some (.int x8)] [.ref (((gp μ9 1)) + 3), .int x8] μ9)
          refine v_iload_n hX dX8_rateAs_88 rfl (?_ : V X 89 [some (.ref 0), some (.int p1), some (.int p2), some (.int x8)] [.int p2, .ref (((gp μ9 1)) + 3), .int x8] μ9)
          have hb13 := h.1
          replace h := h.2
          refine w_iald hX (Int32.toNatClampNeg p2) (sH3 hh12) hb13 rfl dX8_rateAs_89 (?_ : V X 90 [some (.ref 0), some (.int p1), some (.int p2), some (.int x8)] [.int (gi μ9 (((gp μ9 1)) + 3) (Int32.toNatClampNeg p2)), .int x8] μ9)
          refine v_iadd hX dX8_rateAs_90 (?_ : V X 91 [some (.ref 0), some (.int p1), some (.int p2), some (.int x8)] [.int (x8 + (gi μ9 (((gp μ9 1)) + 3) (Int32.toNatClampNeg p2)))] μ9)
          exact v_iret hO dX8_rateAs_91 (hR _ _ h)
        · replace h := h.2 c11
          by_cases c14 : p1 = 2
          · replace h := h.1 c14
            refine v_tableIn hX 92 dX8_rateAs_46 (by rw [c14]; decide) (by rw [c14]; decide) (o := 46) (by rw [c14]; decide) rfl (?_ : V X 92 [some (.ref 0), some (.int p1), some (.int p2), some (.int x8)] [] μ9)
            refine v_iload_n hX dX8_rateAs_92 rfl (?_ : V X 93 [some (.ref 0), some (.int p1), some (.int p2), some (.int x8)] [.int x8] μ9)
            refine v_aload_n hX dX8_rateAs_93 rfl (?_ : V X 94 [some (.ref 0), some (.int p1), some (.int p2), some (.int x8)] [.ref 0, .int x8] μ9)
            have hh15 := h.1
            replace h := h.2
            refine v_getp hX (gp μ9 1) fk_X8_19 sh_0 rfl rfl dX8_rateAs_94 (?_ : V X 97 [some (.ref 0), some (.int p1), some (.int p2), some (.int x8)] [.ref ((gp μ9 1)), .int x8] μ9)
            refine v_getr hX (((gp μ9 1)) + 2) fk_X8_116 (sHo hh15) rfl rfl dX8_rateAs_97 (?_ : V X 100 [some (.ref 0), some (.int p1), some (.int p2), some (.int x8)] [.ref (((gp μ9 1)) + 2), .int x8] μ9)
            refine v_iload_n hX dX8_rateAs_100 rfl (?_ : V X 101 [some (.ref 0), some (.int p1), some (.int p2), some (.int x8)] [.int p2, .ref (((gp μ9 1)) + 2), .int x8] μ9)
            have hb16 := h.1
            replace h := h.2
            refine w_iald hX (Int32.toNatClampNeg p2) (sH2 hh15) hb16 rfl dX8_rateAs_101 (?_ : V X 102 [some (.ref 0), some (.int p1), some (.int p2), some (.int x8)] [.int (gi μ9 (((gp μ9 1)) + 2) (Int32.toNatClampNeg p2)), .int x8] μ9)
            refine v_isub hX dX8_rateAs_102 (?_ : V X 103 [some (.ref 0), some (.int p1), some (.int p2), some (.int x8)] [.int (x8 - (gi μ9 (((gp μ9 1)) + 2) (Int32.toNatClampNeg p2)))] μ9)
            exact v_iret hO dX8_rateAs_103 (hR _ _ h)
          · replace h := h.2 c14
            by_cases c17 : p1 = 3
            · replace h := h.1 c17
              refine v_tableIn hX 104 dX8_rateAs_46 (by rw [c17]; decide) (by rw [c17]; decide) (o := 58) (by rw [c17]; decide) rfl (?_ : V X 104 [some (.ref 0), some (.int p1), some (.int p2), some (.int x8)] [] μ9)
              refine v_iconst hX 2 dX8_rateAs_104 rfl (?_ : V X 105 [some (.ref 0), some (.int p1), some (.int p2), some (.int x8)] [.int 2] μ9)
              refine v_iload_n hX dX8_rateAs_105 rfl (?_ : V X 106 [some (.ref 0), some (.int p1), some (.int p2), some (.int x8)] [.int x8, .int 2] μ9)
              refine v_imul hX dX8_rateAs_106 (?_ : V X 107 [some (.ref 0), some (.int p1), some (.int p2), some (.int x8)] [.int (2 * x8)] μ9)
              exact v_iret hO dX8_rateAs_107 (hR _ _ h)
            · replace h := h.2 c17
              by_cases c18 : p1 = 4
              · replace h := h.1 c18
                refine v_tableIn hX 108 dX8_rateAs_46 (by rw [c18]; decide) (by rw [c18]; decide) (o := 62) (by rw [c18]; decide) rfl (?_ : V X 108 [some (.ref 0), some (.int p1), some (.int p2), some (.int x8)] [] μ9)
                refine v_iload_n hX dX8_rateAs_108 rfl (?_ : V X 109 [some (.ref 0), some (.int p1), some (.int p2), some (.int x8)] [.int x8] μ9)
                refine v_iload_n hX dX8_rateAs_109 rfl (?_ : V X 110 [some (.ref 0), some (.int p1), some (.int p2), some (.int x8)] [.int p2, .int x8] μ9)
                refine v_iadd hX dX8_rateAs_110 (?_ : V X 111 [some (.ref 0), some (.int p1), some (.int p2), some (.int x8)] [.int (x8 + p2)] μ9)
                exact v_iret hO dX8_rateAs_111 (hR _ _ h)
              · replace h := h.2 c18
                by_cases c19 : p1 = 5
                · replace h := h.1 c19
                  refine v_tableIn hX 112 dX8_rateAs_46 (by rw [c19]; decide) (by rw [c19]; decide) (o := 66) (by rw [c19]; decide) rfl (?_ : V X 112 [some (.ref 0), some (.int p1), some (.int p2), some (.int x8)] [] μ9)
                  refine v_iload_n hX dX8_rateAs_112 rfl (?_ : V X 113 [some (.ref 0), some (.int p1), some (.int p2), some (.int x8)] [.int x8] μ9)
                  refine v_aload_n hX dX8_rateAs_113 rfl (?_ : V X 114 [some (.ref 0), some (.int p1), some (.int p2), some (.int x8)] [.ref 0, .int x8] μ9)
                  refine v_getr hX (17) fk_X8_29 sh_0 rfl rfl dX8_rateAs_114 (?_ : V X 117 [some (.ref 0), some (.int p1), some (.int p2), some (.int x8)] [.ref 17, .int x8] μ9)
                  refine v_aload_n hX dX8_rateAs_117 rfl (?_ : V X 118 [some (.ref 0), some (.int p1), some (.int p2), some (.int x8)] [.ref 0, .ref 17, .int x8] μ9)
                  have hh20 := h.1
                  replace h := h.2
                  refine v_getp hX (gp μ9 1) fk_X8_19 sh_0 rfl rfl dX8_rateAs_118 (?_ : V X 121 [some (.ref 0), some (.int p1), some (.int p2), some (.int x8)] [.ref ((gp μ9 1)), .ref 17, .int x8] μ9)
                  refine v_callV hX sp_X7_earnedIn ck_X7_earnedIn mk_X8_155 mv_X7_earnedIn sh_17 (by decide) (by omega) [.ref ((gp μ9 1))] [.int x8] rfl rfl (Nat.le_of_ble_eq_true rfl) dX8_rateAs_121 ⟨((gp μ9 1)), rfl, hh20, h.1, fun x21 μ22 hp23 => (?_ : V X 124 [some (.ref 0), some (.int p1), some (.int p2), some (.int x8)] [.int x21, .int x8] μ22)⟩
                  replace h := h.2 x21 μ22 hp23
                  refine v_iadd hX dX8_rateAs_124 (?_ : V X 125 [some (.ref 0), some (.int p1), some (.int p2), some (.int x8)] [.int (x8 + x21)] μ22)
                  exact v_iret hO dX8_rateAs_125 (hR _ _ h)
                · replace h := h.2 c19
                  refine v_tableOut hX 126 dX8_rateAs_46 (by have t0 := lv_neT (a := 1) c11 rfl; have t1 := lv_neT (a := 2) c14 rfl; have t2 := lv_neT (a := 3) c17 rfl; have t3 := lv_neT (a := 4) c18 rfl; have t4 := lv_neT (a := 5) c19 rfl; omega) rfl (?_ : V X 126 [some (.ref 0), some (.int p1), some (.int p2), some (.int x8)] [] μ9)
                  refine v_aload_n hX dX8_rateAs_126 rfl (?_ : V X 127 [some (.ref 0), some (.int p1), some (.int p2), some (.int x8)] [.ref 0] μ9)
                  refine v_getr hX (17) fk_X8_29 sh_0 rfl rfl dX8_rateAs_127 (?_ : V X 130 [some (.ref 0), some (.int p1), some (.int p2), some (.int x8)] [.ref 17] μ9)
                  refine v_getr hX (18) fk_X8_113 sh_17 rfl rfl dX8_rateAs_130 (?_ : V X 133 [some (.ref 0), some (.int p1), some (.int p2), some (.int x8)] [.ref 18] μ9)
                  refine v_iload_n hX dX8_rateAs_133 rfl (?_ : V X 134 [some (.ref 0), some (.int p1), some (.int p2), some (.int x8)] [.int p2, .ref 18] μ9)
                  have hb24 := h.1
                  replace h := h.2
                  refine w_iald hX (Int32.toNatClampNeg p2) sh_18 hb24 rfl dX8_rateAs_134 (?_ : V X 135 [some (.ref 0), some (.int p1), some (.int p2), some (.int x8)] [.int (gi μ9 18 (Int32.toNatClampNeg p2))] μ9)
                  exact v_iret hO dX8_rateAs_135 (hR _ _ h)
      · replace h := h.2 c6
        refine v_iconst hX 0 dX8_rateAs_30 rfl (?_ : V X 31 [some (.ref 0), some (.int p1), some (.int p2), none] [.int 0] μ4)
        refine v_goto hX 44 dX8_rateAs_31 rfl (?_ : V X 44 [some (.ref 0), some (.int p1), some (.int p2), none] [.int 0] μ4)
        refine v_istore_n hX dX8_rateAs_44 (by rw [hn]; decide) (?_ : V X 45 [some (.ref 0), some (.int p1), some (.int p2), some (.int 0)] [] μ4)
        refine v_iload_n hX dX8_rateAs_45 rfl (?_ : V X 46 [some (.ref 0), some (.int p1), some (.int p2), some (.int 0)] [.int p1] μ4)
        by_cases c25 : p1 = 1
        · replace h := h.1 c25
          refine v_tableIn hX 80 dX8_rateAs_46 (by rw [c25]; decide) (by rw [c25]; decide) (o := 34) (by rw [c25]; decide) rfl (?_ : V X 80 [some (.ref 0), some (.int p1), some (.int p2), some (.int 0)] [] μ4)
          refine v_iload_n hX dX8_rateAs_80 rfl (?_ : V X 81 [some (.ref 0), some (.int p1), some (.int p2), some (.int 0)] [.int 0] μ4)
          refine v_aload_n hX dX8_rateAs_81 rfl (?_ : V X 82 [some (.ref 0), some (.int p1), some (.int p2), some (.int 0)] [.ref 0, .int 0] μ4)
          have hh26 := h.1
          replace h := h.2
          refine v_getp hX (gp μ4 1) fk_X8_19 sh_0 rfl rfl dX8_rateAs_82 (?_ : V X 85 [some (.ref 0), some (.int p1), some (.int p2), some (.int 0)] [.ref ((gp μ4 1)), .int 0] μ4)
          refine v_getr hX (((gp μ4 1)) + 3) fk_X8_119 (sHo hh26) rfl rfl dX8_rateAs_85 (?_ : V X 88 [some (.ref 0), some (.int p1), some (.int p2), some (.int 0)] [.ref (((gp μ4 1)) + 3), .int 0] μ4)
          refine v_iload_n hX dX8_rateAs_88 rfl (?_ : V X 89 [some (.ref 0), some (.int p1), some (.int p2), some (.int 0)] [.int p2, .ref (((gp μ4 1)) + 3), .int 0] μ4)
          have hb27 := h.1
          replace h := h.2
          refine w_iald hX (Int32.toNatClampNeg p2) (sH3 hh26) hb27 rfl dX8_rateAs_89 (?_ : V X 90 [some (.ref 0), some (.int p1), some (.int p2), some (.int 0)] [.int (gi μ4 (((gp μ4 1)) + 3) (Int32.toNatClampNeg p2)), .int 0] μ4)
          refine v_iadd hX dX8_rateAs_90 (?_ : V X 91 [some (.ref 0), some (.int p1), some (.int p2), some (.int 0)] [.int (0 + (gi μ4 (((gp μ4 1)) + 3) (Int32.toNatClampNeg p2)))] μ4)
          exact v_iret hO dX8_rateAs_91 (hR _ _ h)
        · replace h := h.2 c25
          by_cases c28 : p1 = 2
          · replace h := h.1 c28
            refine v_tableIn hX 92 dX8_rateAs_46 (by rw [c28]; decide) (by rw [c28]; decide) (o := 46) (by rw [c28]; decide) rfl (?_ : V X 92 [some (.ref 0), some (.int p1), some (.int p2), some (.int 0)] [] μ4)
            refine v_iload_n hX dX8_rateAs_92 rfl (?_ : V X 93 [some (.ref 0), some (.int p1), some (.int p2), some (.int 0)] [.int 0] μ4)
            refine v_aload_n hX dX8_rateAs_93 rfl (?_ : V X 94 [some (.ref 0), some (.int p1), some (.int p2), some (.int 0)] [.ref 0, .int 0] μ4)
            have hh29 := h.1
            replace h := h.2
            refine v_getp hX (gp μ4 1) fk_X8_19 sh_0 rfl rfl dX8_rateAs_94 (?_ : V X 97 [some (.ref 0), some (.int p1), some (.int p2), some (.int 0)] [.ref ((gp μ4 1)), .int 0] μ4)
            refine v_getr hX (((gp μ4 1)) + 2) fk_X8_116 (sHo hh29) rfl rfl dX8_rateAs_97 (?_ : V X 100 [some (.ref 0), some (.int p1), some (.int p2), some (.int 0)] [.ref (((gp μ4 1)) + 2), .int 0] μ4)
            refine v_iload_n hX dX8_rateAs_100 rfl (?_ : V X 101 [some (.ref 0), some (.int p1), some (.int p2), some (.int 0)] [.int p2, .ref (((gp μ4 1)) + 2), .int 0] μ4)
            have hb30 := h.1
            replace h := h.2
            refine w_iald hX (Int32.toNatClampNeg p2) (sH2 hh29) hb30 rfl dX8_rateAs_101 (?_ : V X 102 [some (.ref 0), some (.int p1), some (.int p2), some (.int 0)] [.int (gi μ4 (((gp μ4 1)) + 2) (Int32.toNatClampNeg p2)), .int 0] μ4)
            refine v_isub hX dX8_rateAs_102 (?_ : V X 103 [some (.ref 0), some (.int p1), some (.int p2), some (.int 0)] [.int (0 - (gi μ4 (((gp μ4 1)) + 2) (Int32.toNatClampNeg p2)))] μ4)
            exact v_iret hO dX8_rateAs_103 (hR _ _ h)
          · replace h := h.2 c28
            by_cases c31 : p1 = 3
            · replace h := h.1 c31
              refine v_tableIn hX 104 dX8_rateAs_46 (by rw [c31]; decide) (by rw [c31]; decide) (o := 58) (by rw [c31]; decide) rfl (?_ : V X 104 [some (.ref 0), some (.int p1), some (.int p2), some (.int 0)] [] μ4)
              refine v_iconst hX 2 dX8_rateAs_104 rfl (?_ : V X 105 [some (.ref 0), some (.int p1), some (.int p2), some (.int 0)] [.int 2] μ4)
              refine v_iload_n hX dX8_rateAs_105 rfl (?_ : V X 106 [some (.ref 0), some (.int p1), some (.int p2), some (.int 0)] [.int 0, .int 2] μ4)
              refine v_imul hX dX8_rateAs_106 (?_ : V X 107 [some (.ref 0), some (.int p1), some (.int p2), some (.int 0)] [.int 0] μ4)
              exact v_iret hO dX8_rateAs_107 (hR _ _ h)
            · replace h := h.2 c31
              by_cases c32 : p1 = 4
              · replace h := h.1 c32
                refine v_tableIn hX 108 dX8_rateAs_46 (by rw [c32]; decide) (by rw [c32]; decide) (o := 62) (by rw [c32]; decide) rfl (?_ : V X 108 [some (.ref 0), some (.int p1), some (.int p2), some (.int 0)] [] μ4)
                refine v_iload_n hX dX8_rateAs_108 rfl (?_ : V X 109 [some (.ref 0), some (.int p1), some (.int p2), some (.int 0)] [.int 0] μ4)
                refine v_iload_n hX dX8_rateAs_109 rfl (?_ : V X 110 [some (.ref 0), some (.int p1), some (.int p2), some (.int 0)] [.int p2, .int 0] μ4)
                refine v_iadd hX dX8_rateAs_110 (?_ : V X 111 [some (.ref 0), some (.int p1), some (.int p2), some (.int 0)] [.int (0 + p2)] μ4)
                exact v_iret hO dX8_rateAs_111 (hR _ _ h)
              · replace h := h.2 c32
                by_cases c33 : p1 = 5
                · replace h := h.1 c33
                  refine v_tableIn hX 112 dX8_rateAs_46 (by rw [c33]; decide) (by rw [c33]; decide) (o := 66) (by rw [c33]; decide) rfl (?_ : V X 112 [some (.ref 0), some (.int p1), some (.int p2), some (.int 0)] [] μ4)
                  refine v_iload_n hX dX8_rateAs_112 rfl (?_ : V X 113 [some (.ref 0), some (.int p1), some (.int p2), some (.int 0)] [.int 0] μ4)
                  refine v_aload_n hX dX8_rateAs_113 rfl (?_ : V X 114 [some (.ref 0), some (.int p1), some (.int p2), some (.int 0)] [.ref 0, .int 0] μ4)
                  refine v_getr hX (17) fk_X8_29 sh_0 rfl rfl dX8_rateAs_114 (?_ : V X 117 [some (.ref 0), some (.int p1), some (.int p2), some (.int 0)] [.ref 17, .int 0] μ4)
                  refine v_aload_n hX dX8_rateAs_117 rfl (?_ : V X 118 [some (.ref 0), some (.int p1), some (.int p2), some (.int 0)] [.ref 0, .ref 17, .int 0] μ4)
                  have hh34 := h.1
                  replace h := h.2
                  refine v_getp hX (gp μ4 1) fk_X8_19 sh_0 rfl rfl dX8_rateAs_118 (?_ : V X 121 [some (.ref 0), some (.int p1), some (.int p2), some (.int 0)] [.ref ((gp μ4 1)), .ref 17, .int 0] μ4)
                  refine v_callV hX sp_X7_earnedIn ck_X7_earnedIn mk_X8_155 mv_X7_earnedIn sh_17 (by decide) (by omega) [.ref ((gp μ4 1))] [.int 0] rfl rfl (Nat.le_of_ble_eq_true rfl) dX8_rateAs_121 ⟨((gp μ4 1)), rfl, hh34, h.1, fun x35 μ36 hp37 => (?_ : V X 124 [some (.ref 0), some (.int p1), some (.int p2), some (.int 0)] [.int x35, .int 0] μ36)⟩
                  replace h := h.2 x35 μ36 hp37
                  refine v_iadd hX dX8_rateAs_124 (?_ : V X 125 [some (.ref 0), some (.int p1), some (.int p2), some (.int 0)] [.int (0 + x35)] μ36)
                  exact v_iret hO dX8_rateAs_125 (hR _ _ h)
                · replace h := h.2 c33
                  refine v_tableOut hX 126 dX8_rateAs_46 (by have t0 := lv_neT (a := 1) c25 rfl; have t1 := lv_neT (a := 2) c28 rfl; have t2 := lv_neT (a := 3) c31 rfl; have t3 := lv_neT (a := 4) c32 rfl; have t4 := lv_neT (a := 5) c33 rfl; omega) rfl (?_ : V X 126 [some (.ref 0), some (.int p1), some (.int p2), some (.int 0)] [] μ4)
                  refine v_aload_n hX dX8_rateAs_126 rfl (?_ : V X 127 [some (.ref 0), some (.int p1), some (.int p2), some (.int 0)] [.ref 0] μ4)
                  refine v_getr hX (17) fk_X8_29 sh_0 rfl rfl dX8_rateAs_127 (?_ : V X 130 [some (.ref 0), some (.int p1), some (.int p2), some (.int 0)] [.ref 17] μ4)
                  refine v_getr hX (18) fk_X8_113 sh_17 rfl rfl dX8_rateAs_130 (?_ : V X 133 [some (.ref 0), some (.int p1), some (.int p2), some (.int 0)] [.ref 18] μ4)
                  refine v_iload_n hX dX8_rateAs_133 rfl (?_ : V X 134 [some (.ref 0), some (.int p1), some (.int p2), some (.int 0)] [.int p2, .ref 18] μ4)
                  have hb38 := h.1
                  replace h := h.2
                  refine w_iald hX (Int32.toNatClampNeg p2) sh_18 hb38 rfl dX8_rateAs_134 (?_ : V X 135 [some (.ref 0), some (.int p1), some (.int p2), some (.int 0)] [.int (gi μ4 18 (Int32.toNatClampNeg p2))] μ4)
                  exact v_iret hO dX8_rateAs_135 (hR _ _ h)
    · replace h := h.2 c2
      refine v_iconst hX 0 dX8_rateAs_9 rfl (?_ : V X 10 [some (.ref 0), some (.int p1), some (.int p2), none] [.int 0] μ)
      exact v_iret hO dX8_rateAs_10 (hR _ _ h)
set_option maxRecDepth 20000 in
set_option maxHeartbeats 4000000 in
theorem vp_X8_rateAs_0 (lv : Nat) (p1 : Int32) (p2 : Int32)  (μ : Mem) (hpre : pre_X8_rateAs lv p1 p2 μ) : vc_X8_rateAs_0 lv p1 p2 μ (post_X8_rateAs lv p1 p2 μ)  := by
  unfold vc_X8_rateAs_0
  obtain ⟨hw, h0, h2, h1, hl⟩ := hpre
  have hw' : gp μ 1 = 3 ∨ gp μ 1 = 10 := hw
  have n1 : ¬ p1 < 0 := fun q => h1 (Or.inl q)
  obtain ⟨e, he⟩ := vp_in_of' h1 (by omega)
  have n2 : p1 ≤ 5 := by rw [e, show (5 : Int32) = nI 5 from rfl, nI_leI (by omega) (by omega)]; omega
  refine ⟨fun q => absurd q n1, fun _ => ⟨fun _ => ⟨h1, ?_⟩, fun q => absurd n2 q⟩⟩
  intro m4 e4
  have k6 : p1 = 0 ∨ p1 = 1 ∨ p1 = 2 ∨ p1 = 3 ∨ p1 = 4 ∨ p1 = 5 := by
    generalize p1.toNatClampNeg = j at *
    have : j = 0 ∨ j = 1 ∨ j = 2 ∨ j = 3 ∨ j = 4 ∨ j = 5 := by omega
    rcases this with rfl | rfl | rfl | rfl | rfl | rfl <;> simp [e] <;> decide
  have a : ∀ c k, gi m4 c k = gi μ c k := fun c k => by rw [e4]; rfl
  have ag : ∀ k, gp m4 k = gp μ k := fun k => by rw [e4]; rfl
  have ae : earnC m4 (gp μ 1) = earnC μ (gp μ 1) := by rw [e4]; rfl
  have aw : hsOK m4 := by rw [e4]; exact hw
  have a0 : isN m4 (gp μ 1) 0 5 := by rw [e4]; exact h0
  have go : ∀ (ab : Int32) (a2 b2 c2 : Int64), a2 + b2 = c2 → m4 = ul μ 0 12 (gl μ 0 12 + a2) → markS ab = b2 → c2 = markS p1 → vp_in ab 6 → lvlF ab + 1 ≤ lv → (0 < lv ∧ pre_X8_rateAs (lv - 1) ab p2 m4 ∧ ∀ (x : Int32) (m : Mem), post_X8_rateAs (lv - 1) ab p2 m4 x m → x = rateA ab (gi μ 18 p2.toNatClampNeg) (gi μ (gp μ 1 + 3) p2.toNatClampNeg) (gi μ (gp μ 1 + 2) p2.toNatClampNeg) p2 (earnC μ (gp μ 1)) ∧ (∀ c k, gi m c k = gi μ c k) ∧ gp m 1 = gp μ 1 ∧ earnC m (gp μ 1) = earnC μ (gp μ 1) ∧ isN m (gp μ 1) 0 5 ∧ m = ul μ 0 12 (gl μ 0 12 + markS p1)) := by
    intro ab a2 b2 c2 hs hm hb hc hin hlv
    refine ⟨by omega, ⟨aw, by rw [ag]; exact a0, h2, hin, by omega⟩, ?_⟩
    rintro x m ⟨hx, hm2⟩
    rw [ag, a, a, a, ae] at hx
    have hm3 : m = ul μ 0 12 (gl μ 0 12 + markS p1) := by
      rw [hm2, hm, hb, mark_mem μ a2 b2 c2 hs, hc]
    exact ⟨hx, fun c k => by rw [hm3]; rfl, by rw [hm3]; rfl, by rw [hm3]; rfl, by rw [hm3]; exact h0, hm3⟩
  rcases k6 with rfl | rfl | rfl | rfl | rfl | rfl
  · refine ⟨fun q => absurd rfl q, fun _ => ⟨fun q => absurd q (by decide), fun _ => ⟨fun q => absurd q (by decide), fun _ => ⟨fun q => absurd q (by decide), fun _ => ⟨fun q => absurd q (by decide), fun _ => ⟨fun q => absurd q (by decide), fun _ => ⟨h2, ?_⟩⟩⟩⟩⟩⟩⟩
    exact ⟨by rw [a]; rfl, e4⟩
  · obtain ⟨g1, g2, g3⟩ := go 0 10 1 11 rfl e4 rfl rfl (vp_lit (by decide)) hl
    refine ⟨fun _ => ⟨h1, g1, g2, fun x m hp => ?_⟩, fun q => absurd q (by decide)⟩
    obtain ⟨hx, ma, mg, me, mi, mm⟩ := g3 x m hp
    rw [mg, ma]
    exact ⟨fun _ => ⟨hw', h2, by rw [hx]; rfl, mm⟩, fun q => absurd rfl q⟩
  · obtain ⟨g1, g2, g3⟩ := go 0 100 1 101 rfl e4 rfl rfl (vp_lit (by decide)) hl
    refine ⟨fun _ => ⟨h1, g1, g2, fun x m hp => ?_⟩, fun q => absurd q (by decide)⟩
    obtain ⟨hx, ma, mg, me, mi, mm⟩ := g3 x m hp
    rw [mg, ma (gp μ 1 + 2)]
    exact ⟨fun q => absurd q (by decide), fun _ => ⟨fun _ => ⟨hw', h2, by rw [hx]; rfl, mm⟩, fun q => absurd rfl q⟩⟩
  · obtain ⟨g1, g2, g3⟩ := go 1 1000 11 1011 rfl e4 rfl rfl (vp_lit (by decide)) hl
    refine ⟨fun _ => ⟨h1, g1, g2, fun x m hp => ?_⟩, fun q => absurd q (by decide)⟩
    obtain ⟨hx, ma, mg, me, mi, mm⟩ := g3 x m hp
    exact ⟨fun q => absurd q (by decide), fun _ => ⟨fun q => absurd q (by decide), fun _ => ⟨fun _ => ⟨by rw [hx]; rfl, mm⟩, fun q => absurd rfl q⟩⟩⟩
  · obtain ⟨g1, g2, g3⟩ := go 2 10000 101 10101 rfl e4 rfl rfl (vp_lit (by decide)) hl
    refine ⟨fun _ => ⟨h1, g1, g2, fun x m hp => ?_⟩, fun q => absurd q (by decide)⟩
    obtain ⟨hx, ma, mg, me, mi, mm⟩ := g3 x m hp
    exact ⟨fun q => absurd q (by decide), fun _ => ⟨fun q => absurd q (by decide), fun _ => ⟨fun q => absurd q (by decide), fun _ => ⟨fun _ => ⟨by rw [hx]; rfl, mm⟩, fun q => absurd rfl q⟩⟩⟩⟩
  · obtain ⟨g1, g2, g3⟩ := go 0 100000 1 100001 rfl e4 rfl rfl (vp_lit (by decide)) hl
    refine ⟨fun _ => ⟨h1, g1, g2, fun x m hp => ?_⟩, fun q => absurd q (by decide)⟩
    obtain ⟨hx, ma, mg, me, mi, mm⟩ := g3 x m hp
    rw [mg]
    refine ⟨fun q => absurd q (by decide), fun _ => ⟨fun q => absurd q (by decide), fun _ => ⟨fun q => absurd q (by decide), fun _ => ⟨fun q => absurd q (by decide), fun _ => ⟨fun _ => ⟨hw', mi, ?_⟩, fun q => absurd rfl q⟩⟩⟩⟩⟩
    rintro x21 m21 ⟨hx21, rfl⟩
    exact ⟨by rw [hx, hx21, me]; rfl, mm⟩
theorem sp_X8_rateAs (lv : Nat) : Sp yX8_rateAs cX8_rateAs 4 (some .int) (2 + lv) (S_X8_rateAs lv) := by
  induction lv using Nat.strongRecOn with
  | _ lv hrec =>
  refine sp_of (by decide) (fun av μ P h => ?_) ?_
  · obtain ⟨p1, p2, rfl, -⟩ := h
    refine ⟨Nat.le_of_ble_eq_true rfl, fun v hv => ?_⟩
    simp only [List.mem_cons, List.not_mem_nil, or_false] at hv
    rcases hv with rfl | rfl | rfl <;> rfl
  · rintro X P hO _ μ ⟨p1, p2, rfl, hpre, hpost⟩ hn
    exact wk_X8_rateAs_0 hO hn p1 p2  μ hpost hrec (vp_X8_rateAs_0 lv p1 p2  μ hpre)
def S_X8_rate : Tr := fun av μ P => ∃ (p1 : Int32) (p2 : Int32), av = [.ref 0, .int p1, .int p2] ∧ pre_X8_rate p1 p2 μ ∧ ∀ (x : Int32) (m : Mem), post_X8_rate p1 p2 μ x m → P (some (.int x)) m
def vc_X8_rate_0 (p1 : Int32) (p2 : Int32)  (μ : Mem) (R : Int32 → Mem → Prop)  : Prop :=
  ((p1 < 0 → R ((-1000000)) μ) ∧ (¬ p1 < 0 → ((5 < p1 → R ((-1000000)) μ) ∧ (¬ 5 < p1 → ((gp μ 1) = 3 ∨ (gp μ 1) = 10) ∧ (pre_X2_hasRoom ((gp μ 1)) p2 μ ∧ ∀ (x4 : Int32) (μ5 : Mem), post_X2_hasRoom ((gp μ 1)) p2 μ x4 μ5 → ((¬ x4 = 0 → (pre_X8_rateAs 2 p1 p2 μ5 ∧ ∀ (x8 : Int32) (μ9 : Mem), post_X8_rateAs 2 p1 p2 μ5 x8 μ9 → R x8 μ9)) ∧ (x4 = 0 → R ((-1000000)) μ5)))))))
set_option maxRecDepth 20000 in
set_option maxHeartbeats 4000000 in
theorem wk_X8_rate_0 {X : XT} {P : Post} (hO : OkM X cX8_rate RX8 5 (some .int) P) (hn : xn X = 3) (p1 : Int32) (p2 : Int32)   (μ : Mem) {R : Int32 → Mem → Prop} (hR : ∀ x m, R x m → P (some (.int x)) m)    (h : vc_X8_rate_0 p1 p2  μ R ) : V X 0 [some (.ref 0), some (.int p1), some (.int p2)] [] μ := by
  have hX := hO.1
  unfold vc_X8_rate_0 at h
  refine v_iload_n hX dX8_rate_0 rfl (?_ : V X 1 [some (.ref 0), some (.int p1), some (.int p2)] [.int p1] μ)
  refine v_if_lt hX 20 dX8_rate_1 rfl (fun c1 => ?_) (fun c1 => ?_)
  · replace h := h.1 c1
    refine v_ldc hX (-1000000) dX8_rate_20 kk_X8_112 (?_ : V X 22 [some (.ref 0), some (.int p1), some (.int p2)] [.int ((-1000000))] μ)
    exact v_iret hO dX8_rate_22 (hR _ _ h)
  · replace h := h.2 c1
    refine v_iload_n hX dX8_rate_4 rfl (?_ : V X 5 [some (.ref 0), some (.int p1), some (.int p2)] [.int p1] μ)
    refine v_iconst hX 5 dX8_rate_5 rfl (?_ : V X 6 [some (.ref 0), some (.int p1), some (.int p2)] [.int 5, .int p1] μ)
    refine v_icmp_gt hX 20 dX8_rate_6 rfl (fun c2 => ?_) (fun c2 => ?_)
    · replace h := h.1 c2
      refine v_ldc hX (-1000000) dX8_rate_20 kk_X8_112 (?_ : V X 22 [some (.ref 0), some (.int p1), some (.int p2)] [.int ((-1000000))] μ)
      exact v_iret hO dX8_rate_22 (hR _ _ h)
    · replace h := h.2 c2
      refine v_aload_n hX dX8_rate_9 rfl (?_ : V X 10 [some (.ref 0), some (.int p1), some (.int p2)] [.ref 0] μ)
      have hh3 := h.1
      replace h := h.2
      refine v_getp hX (gp μ 1) fk_X8_19 sh_0 rfl rfl dX8_rate_10 (?_ : V X 13 [some (.ref 0), some (.int p1), some (.int p2)] [.ref ((gp μ 1))] μ)
      refine v_iload_n hX dX8_rate_13 rfl (?_ : V X 14 [some (.ref 0), some (.int p1), some (.int p2)] [.int p2, .ref ((gp μ 1))] μ)
      refine v_callV hX sp_X2_hasRoom ck_X2_hasRoom mk_X8_108 mv_X2_hasRoom (sHo hh3) (by decide) (by decide) [.int p2] [] rfl rfl (Nat.le_of_ble_eq_true rfl) dX8_rate_14 ⟨((gp μ 1)), p2, rfl, hh3, h.1, fun x4 μ5 hp6 => (?_ : V X 17 [some (.ref 0), some (.int p1), some (.int p2)] [.int x4] μ5)⟩
      replace h := h.2 x4 μ5 hp6
      refine v_if_ne hX 23 dX8_rate_17 rfl (fun c7 => ?_) (fun c7 => ?_)
      · replace h := h.1 c7
        refine v_aload_n hX dX8_rate_23 rfl (?_ : V X 24 [some (.ref 0), some (.int p1), some (.int p2)] [.ref 0] μ5)
        refine v_iload_n hX dX8_rate_24 rfl (?_ : V X 25 [some (.ref 0), some (.int p1), some (.int p2)] [.int p1, .ref 0] μ5)
        refine v_iload_n hX dX8_rate_25 rfl (?_ : V X 26 [some (.ref 0), some (.int p1), some (.int p2)] [.int p2, .int p1, .ref 0] μ5)
        refine v_callV hX (sp_X8_rateAs 2) ck_X8_rateAs mk_X8_259 mv_X8_rateAs sh_0 (by decide) (by decide) [.int p1, .int p2] [] rfl rfl (Nat.le_of_ble_eq_true rfl) dX8_rate_26 ⟨p1, p2, rfl, h.1, fun x8 μ9 hp10 => (?_ : V X 29 [some (.ref 0), some (.int p1), some (.int p2)] [.int x8] μ9)⟩
        replace h := h.2 x8 μ9 hp10
        exact v_iret hO dX8_rate_29 (hR _ _ h)
      · replace h := h.2 c7
        refine v_ldc hX (-1000000) dX8_rate_20 kk_X8_112 (?_ : V X 22 [some (.ref 0), some (.int p1), some (.int p2)] [.int ((-1000000))] μ5)
        exact v_iret hO dX8_rate_22 (hR _ _ h)
set_option maxRecDepth 20000 in
set_option maxHeartbeats 4000000 in
theorem vp_X8_rate_0 (p1 : Int32) (p2 : Int32)  (μ : Mem) (hpre : pre_X8_rate p1 p2 μ) : vc_X8_rate_0 p1 p2 μ (post_X8_rate p1 p2 μ)  := by
  unfold vc_X8_rate_0
  obtain ⟨hw, h0⟩ := hpre
  have hw' : gp μ 1 = 3 ∨ gp μ 1 = 10 := hw
  have bad : (p1 < 0 ∨ 5 < p1 ∨ p2 < 0 ∨ gi μ (gp μ 1) 0 ≤ p2) → post_X8_rate p1 p2 μ (-1000000) μ := by
    intro q; unfold post_X8_rate; rw [if_pos q]; exact ⟨rfl, rfl⟩
  refine ⟨fun q => bad (Or.inl q), fun q1 => ⟨fun q => bad (Or.inr (Or.inl q)), fun q2 => ⟨hw', trivial, ?_⟩⟩⟩
  rintro x4 m5 ⟨hx4, rfl⟩
  by_cases c : p2 < 0 ∨ gi m5 (gp m5 1) 0 ≤ p2
  · rw [if_pos c] at hx4
    exact ⟨fun q => absurd hx4 q, fun _ => bad (Or.inr (Or.inr c))⟩
  · rw [if_neg c] at hx4
    refine ⟨fun q => ⟨⟨hw, h0, ix_in (N := 5) h0 (by omega) (by omega) (by omega) c, ?_, ?_⟩, fun x m hp => ?_⟩, fun q => ?_⟩
    · obtain ⟨e, he⟩ := nn_of (nlt_le q1)
      rw [e]
      rw [e, show (5 : Int32) = nI 5 from rfl, nI_ltI (by omega) he] at q2
      exact vp_in_nI (by omega) (by omega)
    · unfold lvlF; split
      · omega
      · split <;> omega
    · unfold post_X8_rate
      rw [if_neg (by grind)]
      exact hp
    · rw [hx4] at q; exact absurd q (by decide)
theorem sp_X8_rate : Sp yX8_rate cX8_rate 3 (some .int) 5 S_X8_rate := by
  refine sp_of (by decide) (fun av μ P h => ?_) ?_
  · obtain ⟨p1, p2, rfl, -⟩ := h
    refine ⟨Nat.le_of_ble_eq_true rfl, fun v hv => ?_⟩
    simp only [List.mem_cons, List.not_mem_nil, or_false] at hv
    rcases hv with rfl | rfl | rfl <;> rfl
  · rintro X P hO _ μ ⟨p1, p2, rfl, hpre, hpost⟩ hn
    exact wk_X8_rate_0 hO hn p1 p2  μ hpost (vp_X8_rate_0 p1 p2  μ hpre)
def S_X9_rate : Tr := fun av μ P => ∃ (p1 : Int32) (p2 : Int32), av = [.ref 75, .int p1, .int p2] ∧ pre_X9_rate p1 p2 μ ∧ ∀ (x : Int32) (m : Mem), post_X9_rate p1 p2 μ x m → P (some (.int x)) m
def vc_X9_rate_0 (p1 : Int32) (p2 : Int32)  (μ : Mem) (R : Int32 → Mem → Prop)  : Prop :=
  (∀ μ1, μ1 = ui μ 75 0 0 → (pre_X9_in p1 0 5 μ1 ∧ ∀ (x3 : Int32) (μ4 : Mem), post_X9_in p1 0 5 μ1 x3 μ4 → ((x3 = 0 → R ((-1000000)) μ4) ∧ (¬ x3 = 0 → (pre_X9_isRoom p2 μ4 ∧ ∀ (x7 : Int32) (μ8 : Mem), post_X9_isRoom p2 μ4 x7 μ8 → ((¬ x7 = 0 → vp_in (5 + p2) 15 ∧ vp_in p2 10 ∧ (∀ y13 : Int32, y13 = (gi μ8 84 (Int32.toNatClampNeg (5 + p2))) + (gi μ8 80 (Int32.toNatClampNeg p2)) → vp_in p2 10 ∧ (∀ y16 : Int32, y16 = (gi μ8 84 (Int32.toNatClampNeg (5 + p2))) - (gi μ8 79 (Int32.toNatClampNeg p2)) → ((¬ p1 = 0 → ((¬ p1 = 1 → ((¬ p1 = 2 → ((¬ p1 = 3 → ((¬ p1 = 4 → (∀ μ23, μ23 = ul μ8 75 1 ((gl μ8 75 1) + 100001) → ((¬ p1 = 0 → ((¬ p1 = 1 → ((¬ p1 = 2 → ((¬ p1 = 3 → ((¬ p1 = 4 → (pre_X9_earned  μ23 ∧ ∀ (x30 : Int32) (μ31 : Mem), post_X9_earned  μ23 x30 μ31 → R ((gi μ8 84 (Int32.toNatClampNeg (5 + p2))) + x30) μ31)) ∧ (p1 = 4 → R (y16 + p2) μ23))) ∧ (p1 = 3 → R (2 * y13) μ23))) ∧ (p1 = 2 → R y16 μ23))) ∧ (p1 = 1 → R y13 μ23))) ∧ (p1 = 0 → R (gi μ8 84 (Int32.toNatClampNeg (5 + p2))) μ23)))) ∧ (p1 = 4 → (∀ μ33, μ33 = ul μ8 75 1 ((gl μ8 75 1) + 10101) → ((¬ p1 = 0 → ((¬ p1 = 1 → ((¬ p1 = 2 → ((¬ p1 = 3 → ((¬ p1 = 4 → (pre_X9_earned  μ33 ∧ ∀ (x40 : Int32) (μ41 : Mem), post_X9_earned  μ33 x40 μ41 → R ((gi μ8 84 (Int32.toNatClampNeg (5 + p2))) + x40) μ41)) ∧ (p1 = 4 → R (y16 + p2) μ33))) ∧ (p1 = 3 → R (2 * y13) μ33))) ∧ (p1 = 2 → R y16 μ33))) ∧ (p1 = 1 → R y13 μ33))) ∧ (p1 = 0 → R (gi μ8 84 (Int32.toNatClampNeg (5 + p2))) μ33)))))) ∧ (p1 = 3 → (∀ μ43, μ43 = ul μ8 75 1 ((gl μ8 75 1) + 1011) → ((¬ p1 = 0 → ((¬ p1 = 1 → ((¬ p1 = 2 → ((¬ p1 = 3 → ((¬ p1 = 4 → (pre_X9_earned  μ43 ∧ ∀ (x50 : Int32) (μ51 : Mem), post_X9_earned  μ43 x50 μ51 → R ((gi μ8 84 (Int32.toNatClampNeg (5 + p2))) + x50) μ51)) ∧ (p1 = 4 → R (y16 + p2) μ43))) ∧ (p1 = 3 → R (2 * y13) μ43))) ∧ (p1 = 2 → R y16 μ43))) ∧ (p1 = 1 → R y13 μ43))) ∧ (p1 = 0 → R (gi μ8 84 (Int32.toNatClampNeg (5 + p2))) μ43)))))) ∧ (p1 = 2 → (∀ μ53, μ53 = ul μ8 75 1 ((gl μ8 75 1) + 101) → ((¬ p1 = 0 → ((¬ p1 = 1 → ((¬ p1 = 2 → ((¬ p1 = 3 → ((¬ p1 = 4 → (pre_X9_earned  μ53 ∧ ∀ (x60 : Int32) (μ61 : Mem), post_X9_earned  μ53 x60 μ61 → R ((gi μ8 84 (Int32.toNatClampNeg (5 + p2))) + x60) μ61)) ∧ (p1 = 4 → R (y16 + p2) μ53))) ∧ (p1 = 3 → R (2 * y13) μ53))) ∧ (p1 = 2 → R y16 μ53))) ∧ (p1 = 1 → R y13 μ53))) ∧ (p1 = 0 → R (gi μ8 84 (Int32.toNatClampNeg (5 + p2))) μ53)))))) ∧ (p1 = 1 → (∀ μ63, μ63 = ul μ8 75 1 ((gl μ8 75 1) + 11) → ((¬ p1 = 0 → ((¬ p1 = 1 → ((¬ p1 = 2 → ((¬ p1 = 3 → ((¬ p1 = 4 → (pre_X9_earned  μ63 ∧ ∀ (x70 : Int32) (μ71 : Mem), post_X9_earned  μ63 x70 μ71 → R ((gi μ8 84 (Int32.toNatClampNeg (5 + p2))) + x70) μ71)) ∧ (p1 = 4 → R (y16 + p2) μ63))) ∧ (p1 = 3 → R (2 * y13) μ63))) ∧ (p1 = 2 → R y16 μ63))) ∧ (p1 = 1 → R y13 μ63))) ∧ (p1 = 0 → R (gi μ8 84 (Int32.toNatClampNeg (5 + p2))) μ63)))))) ∧ (p1 = 0 → (∀ μ73, μ73 = ul μ8 75 1 ((gl μ8 75 1) + 1) → ((¬ p1 = 0 → ((¬ p1 = 1 → ((¬ p1 = 2 → ((¬ p1 = 3 → ((¬ p1 = 4 → (pre_X9_earned  μ73 ∧ ∀ (x80 : Int32) (μ81 : Mem), post_X9_earned  μ73 x80 μ81 → R ((gi μ8 84 (Int32.toNatClampNeg (5 + p2))) + x80) μ81)) ∧ (p1 = 4 → R (y16 + p2) μ73))) ∧ (p1 = 3 → R (2 * y13) μ73))) ∧ (p1 = 2 → R y16 μ73))) ∧ (p1 = 1 → R y13 μ73))) ∧ (p1 = 0 → R (gi μ8 84 (Int32.toNatClampNeg (5 + p2))) μ73)))))))) ∧ (x7 = 0 → R ((-1000000)) μ8)))))))
set_option maxRecDepth 20000 in
set_option maxHeartbeats 4000000 in
theorem wk_X9_rate_0 {X : XT} {P : Post} (hO : OkM X cX9_rate RX9 2 (some .int) P) (hn : xn X = 6) (p1 : Int32) (p2 : Int32)   (μ : Mem) {R : Int32 → Mem → Prop} (hR : ∀ x m, R x m → P (some (.int x)) m)    (h : vc_X9_rate_0 p1 p2  μ R ) : V X 0 [some (.ref 75), some (.int p1), some (.int p2), none, none, none] [] μ := by
  have hX := hO.1
  unfold vc_X9_rate_0 at h
  refine v_aload_n hX dX9_rate_0 rfl (?_ : V X 1 [some (.ref 75), some (.int p1), some (.int p2), none, none, none] [.ref 75] μ)
  refine v_iconst hX 0 dX9_rate_1 rfl (?_ : V X 2 [some (.ref 75), some (.int p1), some (.int p2), none, none, none] [.int 0, .ref 75] μ)
  refine w_puti hX fk_X9_74 fw_9_0 sh_75 rfl dX9_rate_2 (fun μ1 e2 => (?_ : V X 5 [some (.ref 75), some (.int p1), some (.int p2), none, none, none] [] μ1))
  replace h := h μ1 e2
  refine v_iload_n hX dX9_rate_5 rfl (?_ : V X 6 [some (.ref 75), some (.int p1), some (.int p2), none, none, none] [.int p1] μ1)
  refine v_iconst hX 0 dX9_rate_6 rfl (?_ : V X 7 [some (.ref 75), some (.int p1), some (.int p2), none, none, none] [.int 0, .int p1] μ1)
  refine v_iconst hX 5 dX9_rate_7 rfl (?_ : V X 8 [some (.ref 75), some (.int p1), some (.int p2), none, none, none] [.int 5, .int 0, .int p1] μ1)
  refine v_callS hX sp_X9_in ck_X9_in mk_X9_78 sk_X9_in (by decide) [.int p1, .int 0, .int 5] [] rfl rfl (Nat.le_of_ble_eq_true rfl) dX9_rate_8 ⟨p1, 0, 5, rfl, h.1, fun x3 μ4 hp5 => (?_ : V X 11 [some (.ref 75), some (.int p1), some (.int p2), none, none, none] [.int x3] μ4)⟩
  replace h := h.2 x3 μ4 hp5
  refine v_if_eq hX 22 dX9_rate_11 rfl (fun c6 => ?_) (fun c6 => ?_)
  · replace h := h.1 c6
    refine v_ldc hX (-1000000) dX9_rate_22 kk_X9_145 (?_ : V X 24 [some (.ref 75), some (.int p1), some (.int p2), none, none, none] [.int ((-1000000))] μ4)
    exact v_iret hO dX9_rate_24 (hR _ _ h)
  · replace h := h.2 c6
    refine v_aload_n hX dX9_rate_14 rfl (?_ : V X 15 [some (.ref 75), some (.int p1), some (.int p2), none, none, none] [.ref 75] μ4)
    refine v_iload_n hX dX9_rate_15 rfl (?_ : V X 16 [some (.ref 75), some (.int p1), some (.int p2), none, none, none] [.int p2, .ref 75] μ4)
    refine v_callV hX sp_X9_isRoom ck_X9_isRoom mk_X9_142 mv_X9_isRoom sh_75 (by decide) (by decide) [.int p2] [] rfl rfl (Nat.le_of_ble_eq_true rfl) dX9_rate_16 ⟨p2, rfl, h.1, fun x7 μ8 hp9 => (?_ : V X 19 [some (.ref 75), some (.int p1), some (.int p2), none, none, none] [.int x7] μ8)⟩
    replace h := h.2 x7 μ8 hp9
    refine v_if_ne hX 25 dX9_rate_19 rfl (fun c10 => ?_) (fun c10 => ?_)
    · replace h := h.1 c10
      refine v_aload_n hX dX9_rate_25 rfl (?_ : V X 26 [some (.ref 75), some (.int p1), some (.int p2), none, none, none] [.ref 75] μ8)
      refine v_getr hX (84) fk_X9_34 sh_75 rfl rfl dX9_rate_26 (?_ : V X 29 [some (.ref 75), some (.int p1), some (.int p2), none, none, none] [.ref 84] μ8)
      refine v_iconst hX 5 dX9_rate_29 rfl (?_ : V X 30 [some (.ref 75), some (.int p1), some (.int p2), none, none, none] [.int 5, .ref 84] μ8)
      refine v_iload_n hX dX9_rate_30 rfl (?_ : V X 31 [some (.ref 75), some (.int p1), some (.int p2), none, none, none] [.int p2, .int 5, .ref 84] μ8)
      refine v_iadd hX dX9_rate_31 (?_ : V X 32 [some (.ref 75), some (.int p1), some (.int p2), none, none, none] [.int (5 + p2), .ref 84] μ8)
      have hb11 := h.1
      replace h := h.2
      refine w_iald hX (Int32.toNatClampNeg (5 + p2)) sh_84 hb11 rfl dX9_rate_32 (?_ : V X 33 [some (.ref 75), some (.int p1), some (.int p2), none, none, none] [.int (gi μ8 84 (Int32.toNatClampNeg (5 + p2)))] μ8)
      refine v_istore_n hX dX9_rate_33 (by rw [hn]; decide) (?_ : V X 34 [some (.ref 75), some (.int p1), some (.int p2), some (.int (gi μ8 84 (Int32.toNatClampNeg (5 + p2)))), none, none] [] μ8)
      refine v_iload_n hX dX9_rate_34 rfl (?_ : V X 35 [some (.ref 75), some (.int p1), some (.int p2), some (.int (gi μ8 84 (Int32.toNatClampNeg (5 + p2)))), none, none] [.int (gi μ8 84 (Int32.toNatClampNeg (5 + p2)))] μ8)
      refine v_aload_n hX dX9_rate_35 rfl (?_ : V X 36 [some (.ref 75), some (.int p1), some (.int p2), some (.int (gi μ8 84 (Int32.toNatClampNeg (5 + p2)))), none, none] [.ref 75, .int (gi μ8 84 (Int32.toNatClampNeg (5 + p2)))] μ8)
      refine v_getr hX (80) fk_X9_22 sh_75 rfl rfl dX9_rate_36 (?_ : V X 39 [some (.ref 75), some (.int p1), some (.int p2), some (.int (gi μ8 84 (Int32.toNatClampNeg (5 + p2)))), none, none] [.ref 80, .int (gi μ8 84 (Int32.toNatClampNeg (5 + p2)))] μ8)
      refine v_iload_n hX dX9_rate_39 rfl (?_ : V X 40 [some (.ref 75), some (.int p1), some (.int p2), some (.int (gi μ8 84 (Int32.toNatClampNeg (5 + p2)))), none, none] [.int p2, .ref 80, .int (gi μ8 84 (Int32.toNatClampNeg (5 + p2)))] μ8)
      have hb12 := h.1
      replace h := h.2
      refine w_iald hX (Int32.toNatClampNeg p2) sh_80 hb12 rfl dX9_rate_40 (?_ : V X 41 [some (.ref 75), some (.int p1), some (.int p2), some (.int (gi μ8 84 (Int32.toNatClampNeg (5 + p2)))), none, none] [.int (gi μ8 80 (Int32.toNatClampNeg p2)), .int (gi μ8 84 (Int32.toNatClampNeg (5 + p2)))] μ8)
      refine v_iadd hX dX9_rate_41 (?_ : V X 42 [some (.ref 75), some (.int p1), some (.int p2), some (.int (gi μ8 84 (Int32.toNatClampNeg (5 + p2)))), none, none] [.int ((gi μ8 84 (Int32.toNatClampNeg (5 + p2))) + (gi μ8 80 (Int32.toNatClampNeg p2)))] μ8)
      refine w_istore hX dX9_rate_42 (by rw [hn]; decide) (fun y13 e14 => (?_ : V X 44 [some (.ref 75), some (.int p1), some (.int p2), some (.int (gi μ8 84 (Int32.toNatClampNeg (5 + p2)))), some (.int y13), none] [] μ8))
      replace h := h y13 e14
      refine v_iload_n hX dX9_rate_44 rfl (?_ : V X 45 [some (.ref 75), some (.int p1), some (.int p2), some (.int (gi μ8 84 (Int32.toNatClampNeg (5 + p2)))), some (.int y13), none] [.int (gi μ8 84 (Int32.toNatClampNeg (5 + p2)))] μ8)
      refine v_aload_n hX dX9_rate_45 rfl (?_ : V X 46 [some (.ref 75), some (.int p1), some (.int p2), some (.int (gi μ8 84 (Int32.toNatClampNeg (5 + p2)))), some (.int y13), none] [.ref 75, .int (gi μ8 84 (Int32.toNatClampNeg (5 + p2)))] μ8)
      refine v_getr hX (79) fk_X9_19 sh_75 rfl rfl dX9_rate_46 (?_ : V X 49 [some (.ref 75), some (.int p1), some (.int p2), some (.int (gi μ8 84 (Int32.toNatClampNeg (5 + p2)))), some (.int y13), none] [.ref 79, .int (gi μ8 84 (Int32.toNatClampNeg (5 + p2)))] μ8)
      refine v_iload_n hX dX9_rate_49 rfl (?_ : V X 50 [some (.ref 75), some (.int p1), some (.int p2), some (.int (gi μ8 84 (Int32.toNatClampNeg (5 + p2)))), some (.int y13), none] [.int p2, .ref 79, .int (gi μ8 84 (Int32.toNatClampNeg (5 + p2)))] μ8)
      have hb15 := h.1
      replace h := h.2
      refine w_iald hX (Int32.toNatClampNeg p2) sh_79 hb15 rfl dX9_rate_50 (?_ : V X 51 [some (.ref 75), some (.int p1), some (.int p2), some (.int (gi μ8 84 (Int32.toNatClampNeg (5 + p2)))), some (.int y13), none] [.int (gi μ8 79 (Int32.toNatClampNeg p2)), .int (gi μ8 84 (Int32.toNatClampNeg (5 + p2)))] μ8)
      refine v_isub hX dX9_rate_51 (?_ : V X 52 [some (.ref 75), some (.int p1), some (.int p2), some (.int (gi μ8 84 (Int32.toNatClampNeg (5 + p2)))), some (.int y13), none] [.int ((gi μ8 84 (Int32.toNatClampNeg (5 + p2))) - (gi μ8 79 (Int32.toNatClampNeg p2)))] μ8)
      refine w_istore hX dX9_rate_52 (by rw [hn]; decide) (fun y16 e17 => (?_ : V X 54 [some (.ref 75), some (.int p1), some (.int p2), some (.int (gi μ8 84 (Int32.toNatClampNeg (5 + p2)))), some (.int y13), some (.int y16)] [] μ8))
      replace h := h y16 e17
      refine v_aload_n hX dX9_rate_54 rfl (?_ : V X 55 [some (.ref 75), some (.int p1), some (.int p2), some (.int (gi μ8 84 (Int32.toNatClampNeg (5 + p2)))), some (.int y13), some (.int y16)] [.ref 75] μ8)
      refine v_dup hX dX9_rate_55 rfl (?_ : V X 56 [some (.ref 75), some (.int p1), some (.int p2), some (.int (gi μ8 84 (Int32.toNatClampNeg (5 + p2)))), some (.int y13), some (.int y16)] [.ref 75, .ref 75] μ8)
      refine v_getl hX fk_X9_201 sh_75 rfl dX9_rate_56 (?_ : V X 59 [some (.ref 75), some (.int p1), some (.int p2), some (.int (gi μ8 84 (Int32.toNatClampNeg (5 + p2)))), some (.int y13), some (.int y16)] [.long (gl μ8 75 1), .ref 75] μ8)
      refine v_iload_n hX dX9_rate_59 rfl (?_ : V X 60 [some (.ref 75), some (.int p1), some (.int p2), some (.int (gi μ8 84 (Int32.toNatClampNeg (5 + p2)))), some (.int y13), some (.int y16)] [.int p1, .long (gl μ8 75 1), .ref 75] μ8)
      refine v_if_ne hX 67 dX9_rate_60 rfl (fun c18 => ?_) (fun c18 => ?_)
      · replace h := h.1 c18
        refine v_iload_n hX dX9_rate_67 rfl (?_ : V X 68 [some (.ref 75), some (.int p1), some (.int p2), some (.int (gi μ8 84 (Int32.toNatClampNeg (5 + p2)))), some (.int y13), some (.int y16)] [.int p1, .long (gl μ8 75 1), .ref 75] μ8)
        refine v_iconst hX 1 dX9_rate_68 rfl (?_ : V X 69 [some (.ref 75), some (.int p1), some (.int p2), some (.int (gi μ8 84 (Int32.toNatClampNeg (5 + p2)))), some (.int y13), some (.int y16)] [.int 1, .int p1, .long (gl μ8 75 1), .ref 75] μ8)
        refine v_icmp_ne hX 78 dX9_rate_69 rfl (fun c19 => ?_) (fun c19 => ?_)
        · replace h := h.1 c19
          refine v_iload_n hX dX9_rate_78 rfl (?_ : V X 79 [some (.ref 75), some (.int p1), some (.int p2), some (.int (gi μ8 84 (Int32.toNatClampNeg (5 + p2)))), some (.int y13), some (.int y16)] [.int p1, .long (gl μ8 75 1), .ref 75] μ8)
          refine v_iconst hX 2 dX9_rate_79 rfl (?_ : V X 80 [some (.ref 75), some (.int p1), some (.int p2), some (.int (gi μ8 84 (Int32.toNatClampNeg (5 + p2)))), some (.int y13), some (.int y16)] [.int 2, .int p1, .long (gl μ8 75 1), .ref 75] μ8)
          refine v_icmp_ne hX 89 dX9_rate_80 rfl (fun c20 => ?_) (fun c20 => ?_)
          · replace h := h.1 c20
            refine v_iload_n hX dX9_rate_89 rfl (?_ : V X 90 [some (.ref 75), some (.int p1), some (.int p2), some (.int (gi μ8 84 (Int32.toNatClampNeg (5 + p2)))), some (.int y13), some (.int y16)] [.int p1, .long (gl μ8 75 1), .ref 75] μ8)
            refine v_iconst hX 3 dX9_rate_90 rfl (?_ : V X 91 [some (.ref 75), some (.int p1), some (.int p2), some (.int (gi μ8 84 (Int32.toNatClampNeg (5 + p2)))), some (.int y13), some (.int y16)] [.int 3, .int p1, .long (gl μ8 75 1), .ref 75] μ8)
            refine v_icmp_ne hX 100 dX9_rate_91 rfl (fun c21 => ?_) (fun c21 => ?_)
            · replace h := h.1 c21
              refine v_iload_n hX dX9_rate_100 rfl (?_ : V X 101 [some (.ref 75), some (.int p1), some (.int p2), some (.int (gi μ8 84 (Int32.toNatClampNeg (5 + p2)))), some (.int y13), some (.int y16)] [.int p1, .long (gl μ8 75 1), .ref 75] μ8)
              refine v_iconst hX 4 dX9_rate_101 rfl (?_ : V X 102 [some (.ref 75), some (.int p1), some (.int p2), some (.int (gi μ8 84 (Int32.toNatClampNeg (5 + p2)))), some (.int y13), some (.int y16)] [.int 4, .int p1, .long (gl μ8 75 1), .ref 75] μ8)
              refine v_icmp_ne hX 111 dX9_rate_102 rfl (fun c22 => ?_) (fun c22 => ?_)
              · replace h := h.1 c22
                refine v_ldc2 hX 100001 dX9_rate_111 kk_X9_213 (?_ : V X 114 [some (.ref 75), some (.int p1), some (.int p2), some (.int (gi μ8 84 (Int32.toNatClampNeg (5 + p2)))), some (.int y13), some (.int y16)] [.long 100001, .long (gl μ8 75 1), .ref 75] μ8)
                refine v_ladd hX dX9_rate_114 (?_ : V X 115 [some (.ref 75), some (.int p1), some (.int p2), some (.int (gi μ8 84 (Int32.toNatClampNeg (5 + p2)))), some (.int y13), some (.int y16)] [.long ((gl μ8 75 1) + 100001), .ref 75] μ8)
                refine w_putl hX fk_X9_201 fw_9_1 sh_75 rfl dX9_rate_115 (fun μ23 e24 => (?_ : V X 118 [some (.ref 75), some (.int p1), some (.int p2), some (.int (gi μ8 84 (Int32.toNatClampNeg (5 + p2)))), some (.int y13), some (.int y16)] [] μ23))
                replace h := h μ23 e24
                refine v_iload_n hX dX9_rate_118 rfl (?_ : V X 119 [some (.ref 75), some (.int p1), some (.int p2), some (.int (gi μ8 84 (Int32.toNatClampNeg (5 + p2)))), some (.int y13), some (.int y16)] [.int p1] μ23)
                refine v_if_ne hX 126 dX9_rate_119 rfl (fun c25 => ?_) (fun c25 => ?_)
                · replace h := h.1 c25
                  refine v_iload_n hX dX9_rate_126 rfl (?_ : V X 127 [some (.ref 75), some (.int p1), some (.int p2), some (.int (gi μ8 84 (Int32.toNatClampNeg (5 + p2)))), some (.int y13), some (.int y16)] [.int p1] μ23)
                  refine v_iconst hX 1 dX9_rate_127 rfl (?_ : V X 128 [some (.ref 75), some (.int p1), some (.int p2), some (.int (gi μ8 84 (Int32.toNatClampNeg (5 + p2)))), some (.int y13), some (.int y16)] [.int 1, .int p1] μ23)
                  refine v_icmp_ne hX 136 dX9_rate_128 rfl (fun c26 => ?_) (fun c26 => ?_)
                  · replace h := h.1 c26
                    refine v_iload_n hX dX9_rate_136 rfl (?_ : V X 137 [some (.ref 75), some (.int p1), some (.int p2), some (.int (gi μ8 84 (Int32.toNatClampNeg (5 + p2)))), some (.int y13), some (.int y16)] [.int p1] μ23)
                    refine v_iconst hX 2 dX9_rate_137 rfl (?_ : V X 138 [some (.ref 75), some (.int p1), some (.int p2), some (.int (gi μ8 84 (Int32.toNatClampNeg (5 + p2)))), some (.int y13), some (.int y16)] [.int 2, .int p1] μ23)
                    refine v_icmp_ne hX 146 dX9_rate_138 rfl (fun c27 => ?_) (fun c27 => ?_)
                    · replace h := h.1 c27
                      refine v_iload_n hX dX9_rate_146 rfl (?_ : V X 147 [some (.ref 75), some (.int p1), some (.int p2), some (.int (gi μ8 84 (Int32.toNatClampNeg (5 + p2)))), some (.int y13), some (.int y16)] [.int p1] μ23)
                      refine v_iconst hX 3 dX9_rate_147 rfl (?_ : V X 148 [some (.ref 75), some (.int p1), some (.int p2), some (.int (gi μ8 84 (Int32.toNatClampNeg (5 + p2)))), some (.int y13), some (.int y16)] [.int 3, .int p1] μ23)
                      refine v_icmp_ne hX 158 dX9_rate_148 rfl (fun c28 => ?_) (fun c28 => ?_)
                      · replace h := h.1 c28
                        refine v_iload_n hX dX9_rate_158 rfl (?_ : V X 159 [some (.ref 75), some (.int p1), some (.int p2), some (.int (gi μ8 84 (Int32.toNatClampNeg (5 + p2)))), some (.int y13), some (.int y16)] [.int p1] μ23)
                        refine v_iconst hX 4 dX9_rate_159 rfl (?_ : V X 160 [some (.ref 75), some (.int p1), some (.int p2), some (.int (gi μ8 84 (Int32.toNatClampNeg (5 + p2)))), some (.int y13), some (.int y16)] [.int 4, .int p1] μ23)
                        refine v_icmp_ne hX 170 dX9_rate_160 rfl (fun c29 => ?_) (fun c29 => ?_)
                        · replace h := h.1 c29
                          refine v_iload_n hX dX9_rate_170 rfl (?_ : V X 171 [some (.ref 75), some (.int p1), some (.int p2), some (.int (gi μ8 84 (Int32.toNatClampNeg (5 + p2)))), some (.int y13), some (.int y16)] [.int (gi μ8 84 (Int32.toNatClampNeg (5 + p2)))] μ23)
                          refine v_aload_n hX dX9_rate_171 rfl (?_ : V X 172 [some (.ref 75), some (.int p1), some (.int p2), some (.int (gi μ8 84 (Int32.toNatClampNeg (5 + p2)))), some (.int y13), some (.int y16)] [.ref 75, .int (gi μ8 84 (Int32.toNatClampNeg (5 + p2)))] μ23)
                          refine v_callV hX sp_X9_earned ck_X9_earned mk_X9_152 mv_X9_earned sh_75 (by decide) (by decide) [] [.int (gi μ8 84 (Int32.toNatClampNeg (5 + p2)))] rfl rfl (Nat.le_of_ble_eq_true rfl) dX9_rate_172 ⟨rfl, h.1, fun x30 μ31 hp32 => (?_ : V X 175 [some (.ref 75), some (.int p1), some (.int p2), some (.int (gi μ8 84 (Int32.toNatClampNeg (5 + p2)))), some (.int y13), some (.int y16)] [.int x30, .int (gi μ8 84 (Int32.toNatClampNeg (5 + p2)))] μ31)⟩
                          replace h := h.2 x30 μ31 hp32
                          refine v_iadd hX dX9_rate_175 (?_ : V X 176 [some (.ref 75), some (.int p1), some (.int p2), some (.int (gi μ8 84 (Int32.toNatClampNeg (5 + p2)))), some (.int y13), some (.int y16)] [.int ((gi μ8 84 (Int32.toNatClampNeg (5 + p2))) + x30)] μ31)
                          exact v_iret hO dX9_rate_176 (hR _ _ h)
                        · replace h := h.2 c29
                          refine v_iload hX dX9_rate_163 rfl (?_ : V X 165 [some (.ref 75), some (.int p1), some (.int p2), some (.int (gi μ8 84 (Int32.toNatClampNeg (5 + p2)))), some (.int y13), some (.int y16)] [.int y16] μ23)
                          refine v_iload_n hX dX9_rate_165 rfl (?_ : V X 166 [some (.ref 75), some (.int p1), some (.int p2), some (.int (gi μ8 84 (Int32.toNatClampNeg (5 + p2)))), some (.int y13), some (.int y16)] [.int p2, .int y16] μ23)
                          refine v_iadd hX dX9_rate_166 (?_ : V X 167 [some (.ref 75), some (.int p1), some (.int p2), some (.int (gi μ8 84 (Int32.toNatClampNeg (5 + p2)))), some (.int y13), some (.int y16)] [.int (y16 + p2)] μ23)
                          refine v_goto hX 176 dX9_rate_167 rfl (?_ : V X 176 [some (.ref 75), some (.int p1), some (.int p2), some (.int (gi μ8 84 (Int32.toNatClampNeg (5 + p2)))), some (.int y13), some (.int y16)] [.int (y16 + p2)] μ23)
                          exact v_iret hO dX9_rate_176 (hR _ _ h)
                      · replace h := h.2 c28
                        refine v_iconst hX 2 dX9_rate_151 rfl (?_ : V X 152 [some (.ref 75), some (.int p1), some (.int p2), some (.int (gi μ8 84 (Int32.toNatClampNeg (5 + p2)))), some (.int y13), some (.int y16)] [.int 2] μ23)
                        refine v_iload hX dX9_rate_152 rfl (?_ : V X 154 [some (.ref 75), some (.int p1), some (.int p2), some (.int (gi μ8 84 (Int32.toNatClampNeg (5 + p2)))), some (.int y13), some (.int y16)] [.int y13, .int 2] μ23)
                        refine v_imul hX dX9_rate_154 (?_ : V X 155 [some (.ref 75), some (.int p1), some (.int p2), some (.int (gi μ8 84 (Int32.toNatClampNeg (5 + p2)))), some (.int y13), some (.int y16)] [.int (2 * y13)] μ23)
                        refine v_goto hX 176 dX9_rate_155 rfl (?_ : V X 176 [some (.ref 75), some (.int p1), some (.int p2), some (.int (gi μ8 84 (Int32.toNatClampNeg (5 + p2)))), some (.int y13), some (.int y16)] [.int (2 * y13)] μ23)
                        exact v_iret hO dX9_rate_176 (hR _ _ h)
                    · replace h := h.2 c27
                      refine v_iload hX dX9_rate_141 rfl (?_ : V X 143 [some (.ref 75), some (.int p1), some (.int p2), some (.int (gi μ8 84 (Int32.toNatClampNeg (5 + p2)))), some (.int y13), some (.int y16)] [.int y16] μ23)
                      refine v_goto hX 176 dX9_rate_143 rfl (?_ : V X 176 [some (.ref 75), some (.int p1), some (.int p2), some (.int (gi μ8 84 (Int32.toNatClampNeg (5 + p2)))), some (.int y13), some (.int y16)] [.int y16] μ23)
                      exact v_iret hO dX9_rate_176 (hR _ _ h)
                  · replace h := h.2 c26
                    refine v_iload hX dX9_rate_131 rfl (?_ : V X 133 [some (.ref 75), some (.int p1), some (.int p2), some (.int (gi μ8 84 (Int32.toNatClampNeg (5 + p2)))), some (.int y13), some (.int y16)] [.int y13] μ23)
                    refine v_goto hX 176 dX9_rate_133 rfl (?_ : V X 176 [some (.ref 75), some (.int p1), some (.int p2), some (.int (gi μ8 84 (Int32.toNatClampNeg (5 + p2)))), some (.int y13), some (.int y16)] [.int y13] μ23)
                    exact v_iret hO dX9_rate_176 (hR _ _ h)
                · replace h := h.2 c25
                  refine v_iload_n hX dX9_rate_122 rfl (?_ : V X 123 [some (.ref 75), some (.int p1), some (.int p2), some (.int (gi μ8 84 (Int32.toNatClampNeg (5 + p2)))), some (.int y13), some (.int y16)] [.int (gi μ8 84 (Int32.toNatClampNeg (5 + p2)))] μ23)
                  refine v_goto hX 176 dX9_rate_123 rfl (?_ : V X 176 [some (.ref 75), some (.int p1), some (.int p2), some (.int (gi μ8 84 (Int32.toNatClampNeg (5 + p2)))), some (.int y13), some (.int y16)] [.int (gi μ8 84 (Int32.toNatClampNeg (5 + p2)))] μ23)
                  exact v_iret hO dX9_rate_176 (hR _ _ h)
              · replace h := h.2 c22
                refine v_ldc2 hX 10101 dX9_rate_105 kk_X9_211 (?_ : V X 108 [some (.ref 75), some (.int p1), some (.int p2), some (.int (gi μ8 84 (Int32.toNatClampNeg (5 + p2)))), some (.int y13), some (.int y16)] [.long 10101, .long (gl μ8 75 1), .ref 75] μ8)
                refine v_goto hX 114 dX9_rate_108 rfl (?_ : V X 114 [some (.ref 75), some (.int p1), some (.int p2), some (.int (gi μ8 84 (Int32.toNatClampNeg (5 + p2)))), some (.int y13), some (.int y16)] [.long 10101, .long (gl μ8 75 1), .ref 75] μ8)
                refine v_ladd hX dX9_rate_114 (?_ : V X 115 [some (.ref 75), some (.int p1), some (.int p2), some (.int (gi μ8 84 (Int32.toNatClampNeg (5 + p2)))), some (.int y13), some (.int y16)] [.long ((gl μ8 75 1) + 10101), .ref 75] μ8)
                refine w_putl hX fk_X9_201 fw_9_1 sh_75 rfl dX9_rate_115 (fun μ33 e34 => (?_ : V X 118 [some (.ref 75), some (.int p1), some (.int p2), some (.int (gi μ8 84 (Int32.toNatClampNeg (5 + p2)))), some (.int y13), some (.int y16)] [] μ33))
                replace h := h μ33 e34
                refine v_iload_n hX dX9_rate_118 rfl (?_ : V X 119 [some (.ref 75), some (.int p1), some (.int p2), some (.int (gi μ8 84 (Int32.toNatClampNeg (5 + p2)))), some (.int y13), some (.int y16)] [.int p1] μ33)
                refine v_if_ne hX 126 dX9_rate_119 rfl (fun c35 => ?_) (fun c35 => ?_)
                · replace h := h.1 c35
                  refine v_iload_n hX dX9_rate_126 rfl (?_ : V X 127 [some (.ref 75), some (.int p1), some (.int p2), some (.int (gi μ8 84 (Int32.toNatClampNeg (5 + p2)))), some (.int y13), some (.int y16)] [.int p1] μ33)
                  refine v_iconst hX 1 dX9_rate_127 rfl (?_ : V X 128 [some (.ref 75), some (.int p1), some (.int p2), some (.int (gi μ8 84 (Int32.toNatClampNeg (5 + p2)))), some (.int y13), some (.int y16)] [.int 1, .int p1] μ33)
                  refine v_icmp_ne hX 136 dX9_rate_128 rfl (fun c36 => ?_) (fun c36 => ?_)
                  · replace h := h.1 c36
                    refine v_iload_n hX dX9_rate_136 rfl (?_ : V X 137 [some (.ref 75), some (.int p1), some (.int p2), some (.int (gi μ8 84 (Int32.toNatClampNeg (5 + p2)))), some (.int y13), some (.int y16)] [.int p1] μ33)
                    refine v_iconst hX 2 dX9_rate_137 rfl (?_ : V X 138 [some (.ref 75), some (.int p1), some (.int p2), some (.int (gi μ8 84 (Int32.toNatClampNeg (5 + p2)))), some (.int y13), some (.int y16)] [.int 2, .int p1] μ33)
                    refine v_icmp_ne hX 146 dX9_rate_138 rfl (fun c37 => ?_) (fun c37 => ?_)
                    · replace h := h.1 c37
                      refine v_iload_n hX dX9_rate_146 rfl (?_ : V X 147 [some (.ref 75), some (.int p1), some (.int p2), some (.int (gi μ8 84 (Int32.toNatClampNeg (5 + p2)))), some (.int y13), some (.int y16)] [.int p1] μ33)
                      refine v_iconst hX 3 dX9_rate_147 rfl (?_ : V X 148 [some (.ref 75), some (.int p1), some (.int p2), some (.int (gi μ8 84 (Int32.toNatClampNeg (5 + p2)))), some (.int y13), some (.int y16)] [.int 3, .int p1] μ33)
                      refine v_icmp_ne hX 158 dX9_rate_148 rfl (fun c38 => ?_) (fun c38 => ?_)
                      · replace h := h.1 c38
                        refine v_iload_n hX dX9_rate_158 rfl (?_ : V X 159 [some (.ref 75), some (.int p1), some (.int p2), some (.int (gi μ8 84 (Int32.toNatClampNeg (5 + p2)))), some (.int y13), some (.int y16)] [.int p1] μ33)
                        refine v_iconst hX 4 dX9_rate_159 rfl (?_ : V X 160 [some (.ref 75), some (.int p1), some (.int p2), some (.int (gi μ8 84 (Int32.toNatClampNeg (5 + p2)))), some (.int y13), some (.int y16)] [.int 4, .int p1] μ33)
                        refine v_icmp_ne hX 170 dX9_rate_160 rfl (fun c39 => ?_) (fun c39 => ?_)
                        · replace h := h.1 c39
                          refine v_iload_n hX dX9_rate_170 rfl (?_ : V X 171 [some (.ref 75), some (.int p1), some (.int p2), some (.int (gi μ8 84 (Int32.toNatClampNeg (5 + p2)))), some (.int y13), some (.int y16)] [.int (gi μ8 84 (Int32.toNatClampNeg (5 + p2)))] μ33)
                          refine v_aload_n hX dX9_rate_171 rfl (?_ : V X 172 [some (.ref 75), some (.int p1), some (.int p2), some (.int (gi μ8 84 (Int32.toNatClampNeg (5 + p2)))), some (.int y13), some (.int y16)] [.ref 75, .int (gi μ8 84 (Int32.toNatClampNeg (5 + p2)))] μ33)
                          refine v_callV hX sp_X9_earned ck_X9_earned mk_X9_152 mv_X9_earned sh_75 (by decide) (by decide) [] [.int (gi μ8 84 (Int32.toNatClampNeg (5 + p2)))] rfl rfl (Nat.le_of_ble_eq_true rfl) dX9_rate_172 ⟨rfl, h.1, fun x40 μ41 hp42 => (?_ : V X 175 [some (.ref 75), some (.int p1), some (.int p2), some (.int (gi μ8 84 (Int32.toNatClampNeg (5 + p2)))), some (.int y13), some (.int y16)] [.int x40, .int (gi μ8 84 (Int32.toNatClampNeg (5 + p2)))] μ41)⟩
                          replace h := h.2 x40 μ41 hp42
                          refine v_iadd hX dX9_rate_175 (?_ : V X 176 [some (.ref 75), some (.int p1), some (.int p2), some (.int (gi μ8 84 (Int32.toNatClampNeg (5 + p2)))), some (.int y13), some (.int y16)] [.int ((gi μ8 84 (Int32.toNatClampNeg (5 + p2))) + x40)] μ41)
                          exact v_iret hO dX9_rate_176 (hR _ _ h)
                        · replace h := h.2 c39
                          refine v_iload hX dX9_rate_163 rfl (?_ : V X 165 [some (.ref 75), some (.int p1), some (.int p2), some (.int (gi μ8 84 (Int32.toNatClampNeg (5 + p2)))), some (.int y13), some (.int y16)] [.int y16] μ33)
                          refine v_iload_n hX dX9_rate_165 rfl (?_ : V X 166 [some (.ref 75), some (.int p1), some (.int p2), some (.int (gi μ8 84 (Int32.toNatClampNeg (5 + p2)))), some (.int y13), some (.int y16)] [.int p2, .int y16] μ33)
                          refine v_iadd hX dX9_rate_166 (?_ : V X 167 [some (.ref 75), some (.int p1), some (.int p2), some (.int (gi μ8 84 (Int32.toNatClampNeg (5 + p2)))), some (.int y13), some (.int y16)] [.int (y16 + p2)] μ33)
                          refine v_goto hX 176 dX9_rate_167 rfl (?_ : V X 176 [some (.ref 75), some (.int p1), some (.int p2), some (.int (gi μ8 84 (Int32.toNatClampNeg (5 + p2)))), some (.int y13), some (.int y16)] [.int (y16 + p2)] μ33)
                          exact v_iret hO dX9_rate_176 (hR _ _ h)
                      · replace h := h.2 c38
                        refine v_iconst hX 2 dX9_rate_151 rfl (?_ : V X 152 [some (.ref 75), some (.int p1), some (.int p2), some (.int (gi μ8 84 (Int32.toNatClampNeg (5 + p2)))), some (.int y13), some (.int y16)] [.int 2] μ33)
                        refine v_iload hX dX9_rate_152 rfl (?_ : V X 154 [some (.ref 75), some (.int p1), some (.int p2), some (.int (gi μ8 84 (Int32.toNatClampNeg (5 + p2)))), some (.int y13), some (.int y16)] [.int y13, .int 2] μ33)
                        refine v_imul hX dX9_rate_154 (?_ : V X 155 [some (.ref 75), some (.int p1), some (.int p2), some (.int (gi μ8 84 (Int32.toNatClampNeg (5 + p2)))), some (.int y13), some (.int y16)] [.int (2 * y13)] μ33)
                        refine v_goto hX 176 dX9_rate_155 rfl (?_ : V X 176 [some (.ref 75), some (.int p1), some (.int p2), some (.int (gi μ8 84 (Int32.toNatClampNeg (5 + p2)))), some (.int y13), some (.int y16)] [.int (2 * y13)] μ33)
                        exact v_iret hO dX9_rate_176 (hR _ _ h)
                    · replace h := h.2 c37
                      refine v_iload hX dX9_rate_141 rfl (?_ : V X 143 [some (.ref 75), some (.int p1), some (.int p2), some (.int (gi μ8 84 (Int32.toNatClampNeg (5 + p2)))), some (.int y13), some (.int y16)] [.int y16] μ33)
                      refine v_goto hX 176 dX9_rate_143 rfl (?_ : V X 176 [some (.ref 75), some (.int p1), some (.int p2), some (.int (gi μ8 84 (Int32.toNatClampNeg (5 + p2)))), some (.int y13), some (.int y16)] [.int y16] μ33)
                      exact v_iret hO dX9_rate_176 (hR _ _ h)
                  · replace h := h.2 c36
                    refine v_iload hX dX9_rate_131 rfl (?_ : V X 133 [some (.ref 75), some (.int p1), some (.int p2), some (.int (gi μ8 84 (Int32.toNatClampNeg (5 + p2)))), some (.int y13), some (.int y16)] [.int y13] μ33)
                    refine v_goto hX 176 dX9_rate_133 rfl (?_ : V X 176 [some (.ref 75), some (.int p1), some (.int p2), some (.int (gi μ8 84 (Int32.toNatClampNeg (5 + p2)))), some (.int y13), some (.int y16)] [.int y13] μ33)
                    exact v_iret hO dX9_rate_176 (hR _ _ h)
                · replace h := h.2 c35
                  refine v_iload_n hX dX9_rate_122 rfl (?_ : V X 123 [some (.ref 75), some (.int p1), some (.int p2), some (.int (gi μ8 84 (Int32.toNatClampNeg (5 + p2)))), some (.int y13), some (.int y16)] [.int (gi μ8 84 (Int32.toNatClampNeg (5 + p2)))] μ33)
                  refine v_goto hX 176 dX9_rate_123 rfl (?_ : V X 176 [some (.ref 75), some (.int p1), some (.int p2), some (.int (gi μ8 84 (Int32.toNatClampNeg (5 + p2)))), some (.int y13), some (.int y16)] [.int (gi μ8 84 (Int32.toNatClampNeg (5 + p2)))] μ33)
                  exact v_iret hO dX9_rate_176 (hR _ _ h)
            · replace h := h.2 c21
              refine v_ldc2 hX 1011 dX9_rate_94 kk_X9_209 (?_ : V X 97 [some (.ref 75), some (.int p1), some (.int p2), some (.int (gi μ8 84 (Int32.toNatClampNeg (5 + p2)))), some (.int y13), some (.int y16)] [.long 1011, .long (gl μ8 75 1), .ref 75] μ8)
              refine v_goto hX 114 dX9_rate_97 rfl (?_ : V X 114 [some (.ref 75), some (.int p1), some (.int p2), some (.int (gi μ8 84 (Int32.toNatClampNeg (5 + p2)))), some (.int y13), some (.int y16)] [.long 1011, .long (gl μ8 75 1), .ref 75] μ8)
              refine v_ladd hX dX9_rate_114 (?_ : V X 115 [some (.ref 75), some (.int p1), some (.int p2), some (.int (gi μ8 84 (Int32.toNatClampNeg (5 + p2)))), some (.int y13), some (.int y16)] [.long ((gl μ8 75 1) + 1011), .ref 75] μ8)
              refine w_putl hX fk_X9_201 fw_9_1 sh_75 rfl dX9_rate_115 (fun μ43 e44 => (?_ : V X 118 [some (.ref 75), some (.int p1), some (.int p2), some (.int (gi μ8 84 (Int32.toNatClampNeg (5 + p2)))), some (.int y13), some (.int y16)] [] μ43))
              replace h := h μ43 e44
              refine v_iload_n hX dX9_rate_118 rfl (?_ : V X 119 [some (.ref 75), some (.int p1), some (.int p2), some (.int (gi μ8 84 (Int32.toNatClampNeg (5 + p2)))), some (.int y13), some (.int y16)] [.int p1] μ43)
              refine v_if_ne hX 126 dX9_rate_119 rfl (fun c45 => ?_) (fun c45 => ?_)
              · replace h := h.1 c45
                refine v_iload_n hX dX9_rate_126 rfl (?_ : V X 127 [some (.ref 75), some (.int p1), some (.int p2), some (.int (gi μ8 84 (Int32.toNatClampNeg (5 + p2)))), some (.int y13), some (.int y16)] [.int p1] μ43)
                refine v_iconst hX 1 dX9_rate_127 rfl (?_ : V X 128 [some (.ref 75), some (.int p1), some (.int p2), some (.int (gi μ8 84 (Int32.toNatClampNeg (5 + p2)))), some (.int y13), some (.int y16)] [.int 1, .int p1] μ43)
                refine v_icmp_ne hX 136 dX9_rate_128 rfl (fun c46 => ?_) (fun c46 => ?_)
                · replace h := h.1 c46
                  refine v_iload_n hX dX9_rate_136 rfl (?_ : V X 137 [some (.ref 75), some (.int p1), some (.int p2), some (.int (gi μ8 84 (Int32.toNatClampNeg (5 + p2)))), some (.int y13), some (.int y16)] [.int p1] μ43)
                  refine v_iconst hX 2 dX9_rate_137 rfl (?_ : V X 138 [some (.ref 75), some (.int p1), some (.int p2), some (.int (gi μ8 84 (Int32.toNatClampNeg (5 + p2)))), some (.int y13), some (.int y16)] [.int 2, .int p1] μ43)
                  refine v_icmp_ne hX 146 dX9_rate_138 rfl (fun c47 => ?_) (fun c47 => ?_)
                  · replace h := h.1 c47
                    refine v_iload_n hX dX9_rate_146 rfl (?_ : V X 147 [some (.ref 75), some (.int p1), some (.int p2), some (.int (gi μ8 84 (Int32.toNatClampNeg (5 + p2)))), some (.int y13), some (.int y16)] [.int p1] μ43)
                    refine v_iconst hX 3 dX9_rate_147 rfl (?_ : V X 148 [some (.ref 75), some (.int p1), some (.int p2), some (.int (gi μ8 84 (Int32.toNatClampNeg (5 + p2)))), some (.int y13), some (.int y16)] [.int 3, .int p1] μ43)
                    refine v_icmp_ne hX 158 dX9_rate_148 rfl (fun c48 => ?_) (fun c48 => ?_)
                    · replace h := h.1 c48
                      refine v_iload_n hX dX9_rate_158 rfl (?_ : V X 159 [some (.ref 75), some (.int p1), some (.int p2), some (.int (gi μ8 84 (Int32.toNatClampNeg (5 + p2)))), some (.int y13), some (.int y16)] [.int p1] μ43)
                      refine v_iconst hX 4 dX9_rate_159 rfl (?_ : V X 160 [some (.ref 75), some (.int p1), some (.int p2), some (.int (gi μ8 84 (Int32.toNatClampNeg (5 + p2)))), some (.int y13), some (.int y16)] [.int 4, .int p1] μ43)
                      refine v_icmp_ne hX 170 dX9_rate_160 rfl (fun c49 => ?_) (fun c49 => ?_)
                      · replace h := h.1 c49
                        refine v_iload_n hX dX9_rate_170 rfl (?_ : V X 171 [some (.ref 75), some (.int p1), some (.int p2), some (.int (gi μ8 84 (Int32.toNatClampNeg (5 + p2)))), some (.int y13), some (.int y16)] [.int (gi μ8 84 (Int32.toNatClampNeg (5 + p2)))] μ43)
                        refine v_aload_n hX dX9_rate_171 rfl (?_ : V X 172 [some (.ref 75), some (.int p1), some (.int p2), some (.int (gi μ8 84 (Int32.toNatClampNeg (5 + p2)))), some (.int y13), some (.int y16)] [.ref 75, .int (gi μ8 84 (Int32.toNatClampNeg (5 + p2)))] μ43)
                        refine v_callV hX sp_X9_earned ck_X9_earned mk_X9_152 mv_X9_earned sh_75 (by decide) (by decide) [] [.int (gi μ8 84 (Int32.toNatClampNeg (5 + p2)))] rfl rfl (Nat.le_of_ble_eq_true rfl) dX9_rate_172 ⟨rfl, h.1, fun x50 μ51 hp52 => (?_ : V X 175 [some (.ref 75), some (.int p1), some (.int p2), some (.int (gi μ8 84 (Int32.toNatClampNeg (5 + p2)))), some (.int y13), some (.int y16)] [.int x50, .int (gi μ8 84 (Int32.toNatClampNeg (5 + p2)))] μ51)⟩
                        replace h := h.2 x50 μ51 hp52
                        refine v_iadd hX dX9_rate_175 (?_ : V X 176 [some (.ref 75), some (.int p1), some (.int p2), some (.int (gi μ8 84 (Int32.toNatClampNeg (5 + p2)))), some (.int y13), some (.int y16)] [.int ((gi μ8 84 (Int32.toNatClampNeg (5 + p2))) + x50)] μ51)
                        exact v_iret hO dX9_rate_176 (hR _ _ h)
                      · replace h := h.2 c49
                        refine v_iload hX dX9_rate_163 rfl (?_ : V X 165 [some (.ref 75), some (.int p1), some (.int p2), some (.int (gi μ8 84 (Int32.toNatClampNeg (5 + p2)))), some (.int y13), some (.int y16)] [.int y16] μ43)
                        refine v_iload_n hX dX9_rate_165 rfl (?_ : V X 166 [some (.ref 75), some (.int p1), some (.int p2), some (.int (gi μ8 84 (Int32.toNatClampNeg (5 + p2)))), some (.int y13), some (.int y16)] [.int p2, .int y16] μ43)
                        refine v_iadd hX dX9_rate_166 (?_ : V X 167 [some (.ref 75), some (.int p1), some (.int p2), some (.int (gi μ8 84 (Int32.toNatClampNeg (5 + p2)))), some (.int y13), some (.int y16)] [.int (y16 + p2)] μ43)
                        refine v_goto hX 176 dX9_rate_167 rfl (?_ : V X 176 [some (.ref 75), some (.int p1), some (.int p2), some (.int (gi μ8 84 (Int32.toNatClampNeg (5 + p2)))), some (.int y13), some (.int y16)] [.int (y16 + p2)] μ43)
                        exact v_iret hO dX9_rate_176 (hR _ _ h)
                    · replace h := h.2 c48
                      refine v_iconst hX 2 dX9_rate_151 rfl (?_ : V X 152 [some (.ref 75), some (.int p1), some (.int p2), some (.int (gi μ8 84 (Int32.toNatClampNeg (5 + p2)))), some (.int y13), some (.int y16)] [.int 2] μ43)
                      refine v_iload hX dX9_rate_152 rfl (?_ : V X 154 [some (.ref 75), some (.int p1), some (.int p2), some (.int (gi μ8 84 (Int32.toNatClampNeg (5 + p2)))), some (.int y13), some (.int y16)] [.int y13, .int 2] μ43)
                      refine v_imul hX dX9_rate_154 (?_ : V X 155 [some (.ref 75), some (.int p1), some (.int p2), some (.int (gi μ8 84 (Int32.toNatClampNeg (5 + p2)))), some (.int y13), some (.int y16)] [.int (2 * y13)] μ43)
                      refine v_goto hX 176 dX9_rate_155 rfl (?_ : V X 176 [some (.ref 75), some (.int p1), some (.int p2), some (.int (gi μ8 84 (Int32.toNatClampNeg (5 + p2)))), some (.int y13), some (.int y16)] [.int (2 * y13)] μ43)
                      exact v_iret hO dX9_rate_176 (hR _ _ h)
                  · replace h := h.2 c47
                    refine v_iload hX dX9_rate_141 rfl (?_ : V X 143 [some (.ref 75), some (.int p1), some (.int p2), some (.int (gi μ8 84 (Int32.toNatClampNeg (5 + p2)))), some (.int y13), some (.int y16)] [.int y16] μ43)
                    refine v_goto hX 176 dX9_rate_143 rfl (?_ : V X 176 [some (.ref 75), some (.int p1), some (.int p2), some (.int (gi μ8 84 (Int32.toNatClampNeg (5 + p2)))), some (.int y13), some (.int y16)] [.int y16] μ43)
                    exact v_iret hO dX9_rate_176 (hR _ _ h)
                · replace h := h.2 c46
                  refine v_iload hX dX9_rate_131 rfl (?_ : V X 133 [some (.ref 75), some (.int p1), some (.int p2), some (.int (gi μ8 84 (Int32.toNatClampNeg (5 + p2)))), some (.int y13), some (.int y16)] [.int y13] μ43)
                  refine v_goto hX 176 dX9_rate_133 rfl (?_ : V X 176 [some (.ref 75), some (.int p1), some (.int p2), some (.int (gi μ8 84 (Int32.toNatClampNeg (5 + p2)))), some (.int y13), some (.int y16)] [.int y13] μ43)
                  exact v_iret hO dX9_rate_176 (hR _ _ h)
              · replace h := h.2 c45
                refine v_iload_n hX dX9_rate_122 rfl (?_ : V X 123 [some (.ref 75), some (.int p1), some (.int p2), some (.int (gi μ8 84 (Int32.toNatClampNeg (5 + p2)))), some (.int y13), some (.int y16)] [.int (gi μ8 84 (Int32.toNatClampNeg (5 + p2)))] μ43)
                refine v_goto hX 176 dX9_rate_123 rfl (?_ : V X 176 [some (.ref 75), some (.int p1), some (.int p2), some (.int (gi μ8 84 (Int32.toNatClampNeg (5 + p2)))), some (.int y13), some (.int y16)] [.int (gi μ8 84 (Int32.toNatClampNeg (5 + p2)))] μ43)
                exact v_iret hO dX9_rate_176 (hR _ _ h)
          · replace h := h.2 c20
            refine v_ldc2 hX 101 dX9_rate_83 kk_X9_207 (?_ : V X 86 [some (.ref 75), some (.int p1), some (.int p2), some (.int (gi μ8 84 (Int32.toNatClampNeg (5 + p2)))), some (.int y13), some (.int y16)] [.long 101, .long (gl μ8 75 1), .ref 75] μ8)
            refine v_goto hX 114 dX9_rate_86 rfl (?_ : V X 114 [some (.ref 75), some (.int p1), some (.int p2), some (.int (gi μ8 84 (Int32.toNatClampNeg (5 + p2)))), some (.int y13), some (.int y16)] [.long 101, .long (gl μ8 75 1), .ref 75] μ8)
            refine v_ladd hX dX9_rate_114 (?_ : V X 115 [some (.ref 75), some (.int p1), some (.int p2), some (.int (gi μ8 84 (Int32.toNatClampNeg (5 + p2)))), some (.int y13), some (.int y16)] [.long ((gl μ8 75 1) + 101), .ref 75] μ8)
            refine w_putl hX fk_X9_201 fw_9_1 sh_75 rfl dX9_rate_115 (fun μ53 e54 => (?_ : V X 118 [some (.ref 75), some (.int p1), some (.int p2), some (.int (gi μ8 84 (Int32.toNatClampNeg (5 + p2)))), some (.int y13), some (.int y16)] [] μ53))
            replace h := h μ53 e54
            refine v_iload_n hX dX9_rate_118 rfl (?_ : V X 119 [some (.ref 75), some (.int p1), some (.int p2), some (.int (gi μ8 84 (Int32.toNatClampNeg (5 + p2)))), some (.int y13), some (.int y16)] [.int p1] μ53)
            refine v_if_ne hX 126 dX9_rate_119 rfl (fun c55 => ?_) (fun c55 => ?_)
            · replace h := h.1 c55
              refine v_iload_n hX dX9_rate_126 rfl (?_ : V X 127 [some (.ref 75), some (.int p1), some (.int p2), some (.int (gi μ8 84 (Int32.toNatClampNeg (5 + p2)))), some (.int y13), some (.int y16)] [.int p1] μ53)
              refine v_iconst hX 1 dX9_rate_127 rfl (?_ : V X 128 [some (.ref 75), some (.int p1), some (.int p2), some (.int (gi μ8 84 (Int32.toNatClampNeg (5 + p2)))), some (.int y13), some (.int y16)] [.int 1, .int p1] μ53)
              refine v_icmp_ne hX 136 dX9_rate_128 rfl (fun c56 => ?_) (fun c56 => ?_)
              · replace h := h.1 c56
                refine v_iload_n hX dX9_rate_136 rfl (?_ : V X 137 [some (.ref 75), some (.int p1), some (.int p2), some (.int (gi μ8 84 (Int32.toNatClampNeg (5 + p2)))), some (.int y13), some (.int y16)] [.int p1] μ53)
                refine v_iconst hX 2 dX9_rate_137 rfl (?_ : V X 138 [some (.ref 75), some (.int p1), some (.int p2), some (.int (gi μ8 84 (Int32.toNatClampNeg (5 + p2)))), some (.int y13), some (.int y16)] [.int 2, .int p1] μ53)
                refine v_icmp_ne hX 146 dX9_rate_138 rfl (fun c57 => ?_) (fun c57 => ?_)
                · replace h := h.1 c57
                  refine v_iload_n hX dX9_rate_146 rfl (?_ : V X 147 [some (.ref 75), some (.int p1), some (.int p2), some (.int (gi μ8 84 (Int32.toNatClampNeg (5 + p2)))), some (.int y13), some (.int y16)] [.int p1] μ53)
                  refine v_iconst hX 3 dX9_rate_147 rfl (?_ : V X 148 [some (.ref 75), some (.int p1), some (.int p2), some (.int (gi μ8 84 (Int32.toNatClampNeg (5 + p2)))), some (.int y13), some (.int y16)] [.int 3, .int p1] μ53)
                  refine v_icmp_ne hX 158 dX9_rate_148 rfl (fun c58 => ?_) (fun c58 => ?_)
                  · replace h := h.1 c58
                    refine v_iload_n hX dX9_rate_158 rfl (?_ : V X 159 [some (.ref 75), some (.int p1), some (.int p2), some (.int (gi μ8 84 (Int32.toNatClampNeg (5 + p2)))), some (.int y13), some (.int y16)] [.int p1] μ53)
                    refine v_iconst hX 4 dX9_rate_159 rfl (?_ : V X 160 [some (.ref 75), some (.int p1), some (.int p2), some (.int (gi μ8 84 (Int32.toNatClampNeg (5 + p2)))), some (.int y13), some (.int y16)] [.int 4, .int p1] μ53)
                    refine v_icmp_ne hX 170 dX9_rate_160 rfl (fun c59 => ?_) (fun c59 => ?_)
                    · replace h := h.1 c59
                      refine v_iload_n hX dX9_rate_170 rfl (?_ : V X 171 [some (.ref 75), some (.int p1), some (.int p2), some (.int (gi μ8 84 (Int32.toNatClampNeg (5 + p2)))), some (.int y13), some (.int y16)] [.int (gi μ8 84 (Int32.toNatClampNeg (5 + p2)))] μ53)
                      refine v_aload_n hX dX9_rate_171 rfl (?_ : V X 172 [some (.ref 75), some (.int p1), some (.int p2), some (.int (gi μ8 84 (Int32.toNatClampNeg (5 + p2)))), some (.int y13), some (.int y16)] [.ref 75, .int (gi μ8 84 (Int32.toNatClampNeg (5 + p2)))] μ53)
                      refine v_callV hX sp_X9_earned ck_X9_earned mk_X9_152 mv_X9_earned sh_75 (by decide) (by decide) [] [.int (gi μ8 84 (Int32.toNatClampNeg (5 + p2)))] rfl rfl (Nat.le_of_ble_eq_true rfl) dX9_rate_172 ⟨rfl, h.1, fun x60 μ61 hp62 => (?_ : V X 175 [some (.ref 75), some (.int p1), some (.int p2), some (.int (gi μ8 84 (Int32.toNatClampNeg (5 + p2)))), some (.int y13), some (.int y16)] [.int x60, .int (gi μ8 84 (Int32.toNatClampNeg (5 + p2)))] μ61)⟩
                      replace h := h.2 x60 μ61 hp62
                      refine v_iadd hX dX9_rate_175 (?_ : V X 176 [some (.ref 75), some (.int p1), some (.int p2), some (.int (gi μ8 84 (Int32.toNatClampNeg (5 + p2)))), some (.int y13), some (.int y16)] [.int ((gi μ8 84 (Int32.toNatClampNeg (5 + p2))) + x60)] μ61)
                      exact v_iret hO dX9_rate_176 (hR _ _ h)
                    · replace h := h.2 c59
                      refine v_iload hX dX9_rate_163 rfl (?_ : V X 165 [some (.ref 75), some (.int p1), some (.int p2), some (.int (gi μ8 84 (Int32.toNatClampNeg (5 + p2)))), some (.int y13), some (.int y16)] [.int y16] μ53)
                      refine v_iload_n hX dX9_rate_165 rfl (?_ : V X 166 [some (.ref 75), some (.int p1), some (.int p2), some (.int (gi μ8 84 (Int32.toNatClampNeg (5 + p2)))), some (.int y13), some (.int y16)] [.int p2, .int y16] μ53)
                      refine v_iadd hX dX9_rate_166 (?_ : V X 167 [some (.ref 75), some (.int p1), some (.int p2), some (.int (gi μ8 84 (Int32.toNatClampNeg (5 + p2)))), some (.int y13), some (.int y16)] [.int (y16 + p2)] μ53)
                      refine v_goto hX 176 dX9_rate_167 rfl (?_ : V X 176 [some (.ref 75), some (.int p1), some (.int p2), some (.int (gi μ8 84 (Int32.toNatClampNeg (5 + p2)))), some (.int y13), some (.int y16)] [.int (y16 + p2)] μ53)
                      exact v_iret hO dX9_rate_176 (hR _ _ h)
                  · replace h := h.2 c58
                    refine v_iconst hX 2 dX9_rate_151 rfl (?_ : V X 152 [some (.ref 75), some (.int p1), some (.int p2), some (.int (gi μ8 84 (Int32.toNatClampNeg (5 + p2)))), some (.int y13), some (.int y16)] [.int 2] μ53)
                    refine v_iload hX dX9_rate_152 rfl (?_ : V X 154 [some (.ref 75), some (.int p1), some (.int p2), some (.int (gi μ8 84 (Int32.toNatClampNeg (5 + p2)))), some (.int y13), some (.int y16)] [.int y13, .int 2] μ53)
                    refine v_imul hX dX9_rate_154 (?_ : V X 155 [some (.ref 75), some (.int p1), some (.int p2), some (.int (gi μ8 84 (Int32.toNatClampNeg (5 + p2)))), some (.int y13), some (.int y16)] [.int (2 * y13)] μ53)
                    refine v_goto hX 176 dX9_rate_155 rfl (?_ : V X 176 [some (.ref 75), some (.int p1), some (.int p2), some (.int (gi μ8 84 (Int32.toNatClampNeg (5 + p2)))), some (.int y13), some (.int y16)] [.int (2 * y13)] μ53)
                    exact v_iret hO dX9_rate_176 (hR _ _ h)
                · replace h := h.2 c57
                  refine v_iload hX dX9_rate_141 rfl (?_ : V X 143 [some (.ref 75), some (.int p1), some (.int p2), some (.int (gi μ8 84 (Int32.toNatClampNeg (5 + p2)))), some (.int y13), some (.int y16)] [.int y16] μ53)
                  refine v_goto hX 176 dX9_rate_143 rfl (?_ : V X 176 [some (.ref 75), some (.int p1), some (.int p2), some (.int (gi μ8 84 (Int32.toNatClampNeg (5 + p2)))), some (.int y13), some (.int y16)] [.int y16] μ53)
                  exact v_iret hO dX9_rate_176 (hR _ _ h)
              · replace h := h.2 c56
                refine v_iload hX dX9_rate_131 rfl (?_ : V X 133 [some (.ref 75), some (.int p1), some (.int p2), some (.int (gi μ8 84 (Int32.toNatClampNeg (5 + p2)))), some (.int y13), some (.int y16)] [.int y13] μ53)
                refine v_goto hX 176 dX9_rate_133 rfl (?_ : V X 176 [some (.ref 75), some (.int p1), some (.int p2), some (.int (gi μ8 84 (Int32.toNatClampNeg (5 + p2)))), some (.int y13), some (.int y16)] [.int y13] μ53)
                exact v_iret hO dX9_rate_176 (hR _ _ h)
            · replace h := h.2 c55
              refine v_iload_n hX dX9_rate_122 rfl (?_ : V X 123 [some (.ref 75), some (.int p1), some (.int p2), some (.int (gi μ8 84 (Int32.toNatClampNeg (5 + p2)))), some (.int y13), some (.int y16)] [.int (gi μ8 84 (Int32.toNatClampNeg (5 + p2)))] μ53)
              refine v_goto hX 176 dX9_rate_123 rfl (?_ : V X 176 [some (.ref 75), some (.int p1), some (.int p2), some (.int (gi μ8 84 (Int32.toNatClampNeg (5 + p2)))), some (.int y13), some (.int y16)] [.int (gi μ8 84 (Int32.toNatClampNeg (5 + p2)))] μ53)
              exact v_iret hO dX9_rate_176 (hR _ _ h)
        · replace h := h.2 c19
          refine v_ldc2 hX 11 dX9_rate_72 kk_X9_205 (?_ : V X 75 [some (.ref 75), some (.int p1), some (.int p2), some (.int (gi μ8 84 (Int32.toNatClampNeg (5 + p2)))), some (.int y13), some (.int y16)] [.long 11, .long (gl μ8 75 1), .ref 75] μ8)
          refine v_goto hX 114 dX9_rate_75 rfl (?_ : V X 114 [some (.ref 75), some (.int p1), some (.int p2), some (.int (gi μ8 84 (Int32.toNatClampNeg (5 + p2)))), some (.int y13), some (.int y16)] [.long 11, .long (gl μ8 75 1), .ref 75] μ8)
          refine v_ladd hX dX9_rate_114 (?_ : V X 115 [some (.ref 75), some (.int p1), some (.int p2), some (.int (gi μ8 84 (Int32.toNatClampNeg (5 + p2)))), some (.int y13), some (.int y16)] [.long ((gl μ8 75 1) + 11), .ref 75] μ8)
          refine w_putl hX fk_X9_201 fw_9_1 sh_75 rfl dX9_rate_115 (fun μ63 e64 => (?_ : V X 118 [some (.ref 75), some (.int p1), some (.int p2), some (.int (gi μ8 84 (Int32.toNatClampNeg (5 + p2)))), some (.int y13), some (.int y16)] [] μ63))
          replace h := h μ63 e64
          refine v_iload_n hX dX9_rate_118 rfl (?_ : V X 119 [some (.ref 75), some (.int p1), some (.int p2), some (.int (gi μ8 84 (Int32.toNatClampNeg (5 + p2)))), some (.int y13), some (.int y16)] [.int p1] μ63)
          refine v_if_ne hX 126 dX9_rate_119 rfl (fun c65 => ?_) (fun c65 => ?_)
          · replace h := h.1 c65
            refine v_iload_n hX dX9_rate_126 rfl (?_ : V X 127 [some (.ref 75), some (.int p1), some (.int p2), some (.int (gi μ8 84 (Int32.toNatClampNeg (5 + p2)))), some (.int y13), some (.int y16)] [.int p1] μ63)
            refine v_iconst hX 1 dX9_rate_127 rfl (?_ : V X 128 [some (.ref 75), some (.int p1), some (.int p2), some (.int (gi μ8 84 (Int32.toNatClampNeg (5 + p2)))), some (.int y13), some (.int y16)] [.int 1, .int p1] μ63)
            refine v_icmp_ne hX 136 dX9_rate_128 rfl (fun c66 => ?_) (fun c66 => ?_)
            · replace h := h.1 c66
              refine v_iload_n hX dX9_rate_136 rfl (?_ : V X 137 [some (.ref 75), some (.int p1), some (.int p2), some (.int (gi μ8 84 (Int32.toNatClampNeg (5 + p2)))), some (.int y13), some (.int y16)] [.int p1] μ63)
              refine v_iconst hX 2 dX9_rate_137 rfl (?_ : V X 138 [some (.ref 75), some (.int p1), some (.int p2), some (.int (gi μ8 84 (Int32.toNatClampNeg (5 + p2)))), some (.int y13), some (.int y16)] [.int 2, .int p1] μ63)
              refine v_icmp_ne hX 146 dX9_rate_138 rfl (fun c67 => ?_) (fun c67 => ?_)
              · replace h := h.1 c67
                refine v_iload_n hX dX9_rate_146 rfl (?_ : V X 147 [some (.ref 75), some (.int p1), some (.int p2), some (.int (gi μ8 84 (Int32.toNatClampNeg (5 + p2)))), some (.int y13), some (.int y16)] [.int p1] μ63)
                refine v_iconst hX 3 dX9_rate_147 rfl (?_ : V X 148 [some (.ref 75), some (.int p1), some (.int p2), some (.int (gi μ8 84 (Int32.toNatClampNeg (5 + p2)))), some (.int y13), some (.int y16)] [.int 3, .int p1] μ63)
                refine v_icmp_ne hX 158 dX9_rate_148 rfl (fun c68 => ?_) (fun c68 => ?_)
                · replace h := h.1 c68
                  refine v_iload_n hX dX9_rate_158 rfl (?_ : V X 159 [some (.ref 75), some (.int p1), some (.int p2), some (.int (gi μ8 84 (Int32.toNatClampNeg (5 + p2)))), some (.int y13), some (.int y16)] [.int p1] μ63)
                  refine v_iconst hX 4 dX9_rate_159 rfl (?_ : V X 160 [some (.ref 75), some (.int p1), some (.int p2), some (.int (gi μ8 84 (Int32.toNatClampNeg (5 + p2)))), some (.int y13), some (.int y16)] [.int 4, .int p1] μ63)
                  refine v_icmp_ne hX 170 dX9_rate_160 rfl (fun c69 => ?_) (fun c69 => ?_)
                  · replace h := h.1 c69
                    refine v_iload_n hX dX9_rate_170 rfl (?_ : V X 171 [some (.ref 75), some (.int p1), some (.int p2), some (.int (gi μ8 84 (Int32.toNatClampNeg (5 + p2)))), some (.int y13), some (.int y16)] [.int (gi μ8 84 (Int32.toNatClampNeg (5 + p2)))] μ63)
                    refine v_aload_n hX dX9_rate_171 rfl (?_ : V X 172 [some (.ref 75), some (.int p1), some (.int p2), some (.int (gi μ8 84 (Int32.toNatClampNeg (5 + p2)))), some (.int y13), some (.int y16)] [.ref 75, .int (gi μ8 84 (Int32.toNatClampNeg (5 + p2)))] μ63)
                    refine v_callV hX sp_X9_earned ck_X9_earned mk_X9_152 mv_X9_earned sh_75 (by decide) (by decide) [] [.int (gi μ8 84 (Int32.toNatClampNeg (5 + p2)))] rfl rfl (Nat.le_of_ble_eq_true rfl) dX9_rate_172 ⟨rfl, h.1, fun x70 μ71 hp72 => (?_ : V X 175 [some (.ref 75), some (.int p1), some (.int p2), some (.int (gi μ8 84 (Int32.toNatClampNeg (5 + p2)))), some (.int y13), some (.int y16)] [.int x70, .int (gi μ8 84 (Int32.toNatClampNeg (5 + p2)))] μ71)⟩
                    replace h := h.2 x70 μ71 hp72
                    refine v_iadd hX dX9_rate_175 (?_ : V X 176 [some (.ref 75), some (.int p1), some (.int p2), some (.int (gi μ8 84 (Int32.toNatClampNeg (5 + p2)))), some (.int y13), some (.int y16)] [.int ((gi μ8 84 (Int32.toNatClampNeg (5 + p2))) + x70)] μ71)
                    exact v_iret hO dX9_rate_176 (hR _ _ h)
                  · replace h := h.2 c69
                    refine v_iload hX dX9_rate_163 rfl (?_ : V X 165 [some (.ref 75), some (.int p1), some (.int p2), some (.int (gi μ8 84 (Int32.toNatClampNeg (5 + p2)))), some (.int y13), some (.int y16)] [.int y16] μ63)
                    refine v_iload_n hX dX9_rate_165 rfl (?_ : V X 166 [some (.ref 75), some (.int p1), some (.int p2), some (.int (gi μ8 84 (Int32.toNatClampNeg (5 + p2)))), some (.int y13), some (.int y16)] [.int p2, .int y16] μ63)
                    refine v_iadd hX dX9_rate_166 (?_ : V X 167 [some (.ref 75), some (.int p1), some (.int p2), some (.int (gi μ8 84 (Int32.toNatClampNeg (5 + p2)))), some (.int y13), some (.int y16)] [.int (y16 + p2)] μ63)
                    refine v_goto hX 176 dX9_rate_167 rfl (?_ : V X 176 [some (.ref 75), some (.int p1), some (.int p2), some (.int (gi μ8 84 (Int32.toNatClampNeg (5 + p2)))), some (.int y13), some (.int y16)] [.int (y16 + p2)] μ63)
                    exact v_iret hO dX9_rate_176 (hR _ _ h)
                · replace h := h.2 c68
                  refine v_iconst hX 2 dX9_rate_151 rfl (?_ : V X 152 [some (.ref 75), some (.int p1), some (.int p2), some (.int (gi μ8 84 (Int32.toNatClampNeg (5 + p2)))), some (.int y13), some (.int y16)] [.int 2] μ63)
                  refine v_iload hX dX9_rate_152 rfl (?_ : V X 154 [some (.ref 75), some (.int p1), some (.int p2), some (.int (gi μ8 84 (Int32.toNatClampNeg (5 + p2)))), some (.int y13), some (.int y16)] [.int y13, .int 2] μ63)
                  refine v_imul hX dX9_rate_154 (?_ : V X 155 [some (.ref 75), some (.int p1), some (.int p2), some (.int (gi μ8 84 (Int32.toNatClampNeg (5 + p2)))), some (.int y13), some (.int y16)] [.int (2 * y13)] μ63)
                  refine v_goto hX 176 dX9_rate_155 rfl (?_ : V X 176 [some (.ref 75), some (.int p1), some (.int p2), some (.int (gi μ8 84 (Int32.toNatClampNeg (5 + p2)))), some (.int y13), some (.int y16)] [.int (2 * y13)] μ63)
                  exact v_iret hO dX9_rate_176 (hR _ _ h)
              · replace h := h.2 c67
                refine v_iload hX dX9_rate_141 rfl (?_ : V X 143 [some (.ref 75), some (.int p1), some (.int p2), some (.int (gi μ8 84 (Int32.toNatClampNeg (5 + p2)))), some (.int y13), some (.int y16)] [.int y16] μ63)
                refine v_goto hX 176 dX9_rate_143 rfl (?_ : V X 176 [some (.ref 75), some (.int p1), some (.int p2), some (.int (gi μ8 84 (Int32.toNatClampNeg (5 + p2)))), some (.int y13), some (.int y16)] [.int y16] μ63)
                exact v_iret hO dX9_rate_176 (hR _ _ h)
            · replace h := h.2 c66
              refine v_iload hX dX9_rate_131 rfl (?_ : V X 133 [some (.ref 75), some (.int p1), some (.int p2), some (.int (gi μ8 84 (Int32.toNatClampNeg (5 + p2)))), some (.int y13), some (.int y16)] [.int y13] μ63)
              refine v_goto hX 176 dX9_rate_133 rfl (?_ : V X 176 [some (.ref 75), some (.int p1), some (.int p2), some (.int (gi μ8 84 (Int32.toNatClampNeg (5 + p2)))), some (.int y13), some (.int y16)] [.int y13] μ63)
              exact v_iret hO dX9_rate_176 (hR _ _ h)
          · replace h := h.2 c65
            refine v_iload_n hX dX9_rate_122 rfl (?_ : V X 123 [some (.ref 75), some (.int p1), some (.int p2), some (.int (gi μ8 84 (Int32.toNatClampNeg (5 + p2)))), some (.int y13), some (.int y16)] [.int (gi μ8 84 (Int32.toNatClampNeg (5 + p2)))] μ63)
            refine v_goto hX 176 dX9_rate_123 rfl (?_ : V X 176 [some (.ref 75), some (.int p1), some (.int p2), some (.int (gi μ8 84 (Int32.toNatClampNeg (5 + p2)))), some (.int y13), some (.int y16)] [.int (gi μ8 84 (Int32.toNatClampNeg (5 + p2)))] μ63)
            exact v_iret hO dX9_rate_176 (hR _ _ h)
      · replace h := h.2 c18
        refine v_lconst hX 1 dX9_rate_63 rfl (?_ : V X 64 [some (.ref 75), some (.int p1), some (.int p2), some (.int (gi μ8 84 (Int32.toNatClampNeg (5 + p2)))), some (.int y13), some (.int y16)] [.long 1, .long (gl μ8 75 1), .ref 75] μ8)
        refine v_goto hX 114 dX9_rate_64 rfl (?_ : V X 114 [some (.ref 75), some (.int p1), some (.int p2), some (.int (gi μ8 84 (Int32.toNatClampNeg (5 + p2)))), some (.int y13), some (.int y16)] [.long 1, .long (gl μ8 75 1), .ref 75] μ8)
        refine v_ladd hX dX9_rate_114 (?_ : V X 115 [some (.ref 75), some (.int p1), some (.int p2), some (.int (gi μ8 84 (Int32.toNatClampNeg (5 + p2)))), some (.int y13), some (.int y16)] [.long ((gl μ8 75 1) + 1), .ref 75] μ8)
        refine w_putl hX fk_X9_201 fw_9_1 sh_75 rfl dX9_rate_115 (fun μ73 e74 => (?_ : V X 118 [some (.ref 75), some (.int p1), some (.int p2), some (.int (gi μ8 84 (Int32.toNatClampNeg (5 + p2)))), some (.int y13), some (.int y16)] [] μ73))
        replace h := h μ73 e74
        refine v_iload_n hX dX9_rate_118 rfl (?_ : V X 119 [some (.ref 75), some (.int p1), some (.int p2), some (.int (gi μ8 84 (Int32.toNatClampNeg (5 + p2)))), some (.int y13), some (.int y16)] [.int p1] μ73)
        refine v_if_ne hX 126 dX9_rate_119 rfl (fun c75 => ?_) (fun c75 => ?_)
        · replace h := h.1 c75
          refine v_iload_n hX dX9_rate_126 rfl (?_ : V X 127 [some (.ref 75), some (.int p1), some (.int p2), some (.int (gi μ8 84 (Int32.toNatClampNeg (5 + p2)))), some (.int y13), some (.int y16)] [.int p1] μ73)
          refine v_iconst hX 1 dX9_rate_127 rfl (?_ : V X 128 [some (.ref 75), some (.int p1), some (.int p2), some (.int (gi μ8 84 (Int32.toNatClampNeg (5 + p2)))), some (.int y13), some (.int y16)] [.int 1, .int p1] μ73)
          refine v_icmp_ne hX 136 dX9_rate_128 rfl (fun c76 => ?_) (fun c76 => ?_)
          · replace h := h.1 c76
            refine v_iload_n hX dX9_rate_136 rfl (?_ : V X 137 [some (.ref 75), some (.int p1), some (.int p2), some (.int (gi μ8 84 (Int32.toNatClampNeg (5 + p2)))), some (.int y13), some (.int y16)] [.int p1] μ73)
            refine v_iconst hX 2 dX9_rate_137 rfl (?_ : V X 138 [some (.ref 75), some (.int p1), some (.int p2), some (.int (gi μ8 84 (Int32.toNatClampNeg (5 + p2)))), some (.int y13), some (.int y16)] [.int 2, .int p1] μ73)
            refine v_icmp_ne hX 146 dX9_rate_138 rfl (fun c77 => ?_) (fun c77 => ?_)
            · replace h := h.1 c77
              refine v_iload_n hX dX9_rate_146 rfl (?_ : V X 147 [some (.ref 75), some (.int p1), some (.int p2), some (.int (gi μ8 84 (Int32.toNatClampNeg (5 + p2)))), some (.int y13), some (.int y16)] [.int p1] μ73)
              refine v_iconst hX 3 dX9_rate_147 rfl (?_ : V X 148 [some (.ref 75), some (.int p1), some (.int p2), some (.int (gi μ8 84 (Int32.toNatClampNeg (5 + p2)))), some (.int y13), some (.int y16)] [.int 3, .int p1] μ73)
              refine v_icmp_ne hX 158 dX9_rate_148 rfl (fun c78 => ?_) (fun c78 => ?_)
              · replace h := h.1 c78
                refine v_iload_n hX dX9_rate_158 rfl (?_ : V X 159 [some (.ref 75), some (.int p1), some (.int p2), some (.int (gi μ8 84 (Int32.toNatClampNeg (5 + p2)))), some (.int y13), some (.int y16)] [.int p1] μ73)
                refine v_iconst hX 4 dX9_rate_159 rfl (?_ : V X 160 [some (.ref 75), some (.int p1), some (.int p2), some (.int (gi μ8 84 (Int32.toNatClampNeg (5 + p2)))), some (.int y13), some (.int y16)] [.int 4, .int p1] μ73)
                refine v_icmp_ne hX 170 dX9_rate_160 rfl (fun c79 => ?_) (fun c79 => ?_)
                · replace h := h.1 c79
                  refine v_iload_n hX dX9_rate_170 rfl (?_ : V X 171 [some (.ref 75), some (.int p1), some (.int p2), some (.int (gi μ8 84 (Int32.toNatClampNeg (5 + p2)))), some (.int y13), some (.int y16)] [.int (gi μ8 84 (Int32.toNatClampNeg (5 + p2)))] μ73)
                  refine v_aload_n hX dX9_rate_171 rfl (?_ : V X 172 [some (.ref 75), some (.int p1), some (.int p2), some (.int (gi μ8 84 (Int32.toNatClampNeg (5 + p2)))), some (.int y13), some (.int y16)] [.ref 75, .int (gi μ8 84 (Int32.toNatClampNeg (5 + p2)))] μ73)
                  refine v_callV hX sp_X9_earned ck_X9_earned mk_X9_152 mv_X9_earned sh_75 (by decide) (by decide) [] [.int (gi μ8 84 (Int32.toNatClampNeg (5 + p2)))] rfl rfl (Nat.le_of_ble_eq_true rfl) dX9_rate_172 ⟨rfl, h.1, fun x80 μ81 hp82 => (?_ : V X 175 [some (.ref 75), some (.int p1), some (.int p2), some (.int (gi μ8 84 (Int32.toNatClampNeg (5 + p2)))), some (.int y13), some (.int y16)] [.int x80, .int (gi μ8 84 (Int32.toNatClampNeg (5 + p2)))] μ81)⟩
                  replace h := h.2 x80 μ81 hp82
                  refine v_iadd hX dX9_rate_175 (?_ : V X 176 [some (.ref 75), some (.int p1), some (.int p2), some (.int (gi μ8 84 (Int32.toNatClampNeg (5 + p2)))), some (.int y13), some (.int y16)] [.int ((gi μ8 84 (Int32.toNatClampNeg (5 + p2))) + x80)] μ81)
                  exact v_iret hO dX9_rate_176 (hR _ _ h)
                · replace h := h.2 c79
                  refine v_iload hX dX9_rate_163 rfl (?_ : V X 165 [some (.ref 75), some (.int p1), some (.int p2), some (.int (gi μ8 84 (Int32.toNatClampNeg (5 + p2)))), some (.int y13), some (.int y16)] [.int y16] μ73)
                  refine v_iload_n hX dX9_rate_165 rfl (?_ : V X 166 [some (.ref 75), some (.int p1), some (.int p2), some (.int (gi μ8 84 (Int32.toNatClampNeg (5 + p2)))), some (.int y13), some (.int y16)] [.int p2, .int y16] μ73)
                  refine v_iadd hX dX9_rate_166 (?_ : V X 167 [some (.ref 75), some (.int p1), some (.int p2), some (.int (gi μ8 84 (Int32.toNatClampNeg (5 + p2)))), some (.int y13), some (.int y16)] [.int (y16 + p2)] μ73)
                  refine v_goto hX 176 dX9_rate_167 rfl (?_ : V X 176 [some (.ref 75), some (.int p1), some (.int p2), some (.int (gi μ8 84 (Int32.toNatClampNeg (5 + p2)))), some (.int y13), some (.int y16)] [.int (y16 + p2)] μ73)
                  exact v_iret hO dX9_rate_176 (hR _ _ h)
              · replace h := h.2 c78
                refine v_iconst hX 2 dX9_rate_151 rfl (?_ : V X 152 [some (.ref 75), some (.int p1), some (.int p2), some (.int (gi μ8 84 (Int32.toNatClampNeg (5 + p2)))), some (.int y13), some (.int y16)] [.int 2] μ73)
                refine v_iload hX dX9_rate_152 rfl (?_ : V X 154 [some (.ref 75), some (.int p1), some (.int p2), some (.int (gi μ8 84 (Int32.toNatClampNeg (5 + p2)))), some (.int y13), some (.int y16)] [.int y13, .int 2] μ73)
                refine v_imul hX dX9_rate_154 (?_ : V X 155 [some (.ref 75), some (.int p1), some (.int p2), some (.int (gi μ8 84 (Int32.toNatClampNeg (5 + p2)))), some (.int y13), some (.int y16)] [.int (2 * y13)] μ73)
                refine v_goto hX 176 dX9_rate_155 rfl (?_ : V X 176 [some (.ref 75), some (.int p1), some (.int p2), some (.int (gi μ8 84 (Int32.toNatClampNeg (5 + p2)))), some (.int y13), some (.int y16)] [.int (2 * y13)] μ73)
                exact v_iret hO dX9_rate_176 (hR _ _ h)
            · replace h := h.2 c77
              refine v_iload hX dX9_rate_141 rfl (?_ : V X 143 [some (.ref 75), some (.int p1), some (.int p2), some (.int (gi μ8 84 (Int32.toNatClampNeg (5 + p2)))), some (.int y13), some (.int y16)] [.int y16] μ73)
              refine v_goto hX 176 dX9_rate_143 rfl (?_ : V X 176 [some (.ref 75), some (.int p1), some (.int p2), some (.int (gi μ8 84 (Int32.toNatClampNeg (5 + p2)))), some (.int y13), some (.int y16)] [.int y16] μ73)
              exact v_iret hO dX9_rate_176 (hR _ _ h)
          · replace h := h.2 c76
            refine v_iload hX dX9_rate_131 rfl (?_ : V X 133 [some (.ref 75), some (.int p1), some (.int p2), some (.int (gi μ8 84 (Int32.toNatClampNeg (5 + p2)))), some (.int y13), some (.int y16)] [.int y13] μ73)
            refine v_goto hX 176 dX9_rate_133 rfl (?_ : V X 176 [some (.ref 75), some (.int p1), some (.int p2), some (.int (gi μ8 84 (Int32.toNatClampNeg (5 + p2)))), some (.int y13), some (.int y16)] [.int y13] μ73)
            exact v_iret hO dX9_rate_176 (hR _ _ h)
        · replace h := h.2 c75
          refine v_iload_n hX dX9_rate_122 rfl (?_ : V X 123 [some (.ref 75), some (.int p1), some (.int p2), some (.int (gi μ8 84 (Int32.toNatClampNeg (5 + p2)))), some (.int y13), some (.int y16)] [.int (gi μ8 84 (Int32.toNatClampNeg (5 + p2)))] μ73)
          refine v_goto hX 176 dX9_rate_123 rfl (?_ : V X 176 [some (.ref 75), some (.int p1), some (.int p2), some (.int (gi μ8 84 (Int32.toNatClampNeg (5 + p2)))), some (.int y13), some (.int y16)] [.int (gi μ8 84 (Int32.toNatClampNeg (5 + p2)))] μ73)
          exact v_iret hO dX9_rate_176 (hR _ _ h)
    · replace h := h.2 c10
      refine v_ldc hX (-1000000) dX9_rate_22 kk_X9_145 (?_ : V X 24 [some (.ref 75), some (.int p1), some (.int p2), none, none, none] [.int ((-1000000))] μ8)
      exact v_iret hO dX9_rate_24 (hR _ _ h)
set_option maxRecDepth 20000 in
set_option maxHeartbeats 4000000 in
theorem vp_X9_rate_0 (p1 : Int32) (p2 : Int32)  (μ : Mem) (hpre : pre_X9_rate p1 p2 μ) : vc_X9_rate_0 p1 p2 μ (post_X9_rate p1 p2 μ)  := by
  unfold vc_X9_rate_0
  unfold pre_X9_rate at hpre
  rintro _ rfl
  refine ⟨trivial, ?_⟩
  rintro x3 m3 ⟨hx3, rfl⟩
  have bad : (p1 < 0 ∨ 5 < p1 ∨ p2 < 0 ∨ gi μ 77 0 ≤ p2) → post_X9_rate p1 p2 μ (-1000000) (ui μ 75 0 0) := by
    intro q; unfold post_X9_rate; rw [if_pos q]; exact ⟨rfl, rfl⟩
  by_cases c : p1 < 0 ∨ 5 < p1
  · rw [if_pos c] at hx3; subst hx3
    exact ⟨fun _ => bad (by grind), fun q => absurd rfl q⟩
  · rw [if_neg c] at hx3; subst hx3
    refine ⟨fun q => absurd q (by decide), fun _ => ⟨hpre, ?_⟩⟩
    rintro x7 m7 ⟨hx7, rfl⟩
    rw [show gi (ui μ 75 0 0) 77 0 = gi μ 77 0 from rfl] at hx7
    by_cases c2 : p2 < 0 ∨ gi μ 77 0 ≤ p2
    · rw [if_pos c2] at hx7; subst hx7
      exact ⟨fun q => absurd rfl q, fun _ => bad (by grind)⟩
    · rw [if_neg c2] at hx7; subst hx7
      obtain ⟨e, he⟩ := ix_of hpre (by omega) c2
      have hb := hpre.2
      have in10 := ix_in (N := 10) hpre (by omega) (by omega) (by omega) c2
      have e5 : (5 : Int32) + p2 = nI (5 + p2.toNatClampNeg) := (add_tn (a := 5) e (by omega)).1
      have e5b : (nI (5 + p2.toNatClampNeg)).toNatClampNeg = 5 + p2.toNatClampNeg := nI_clamp (by omega)
      have in15 : vp_in (nI (5 + p2.toNatClampNeg)) 15 := vp_in_nI (by omega) (by omega)
      have fin : ∀ (x : Int32) (m : Mem), x = rateA p1 (gi μ 84 (5 + p2.toNatClampNeg)) (gi μ 80 p2.toNatClampNeg) (gi μ 79 p2.toNatClampNeg) p2 (earnM μ) → m = ul (ui μ 75 0 0) 75 1 (gl μ 75 1 + markS p1) → post_X9_rate p1 p2 μ x m := by
        intro x m hx hm; unfold post_X9_rate; rw [if_neg (by grind)]; exact ⟨hx, hm⟩
      have k6 : p1 = 0 ∨ p1 = 1 ∨ p1 = 2 ∨ p1 = 3 ∨ p1 = 4 ∨ p1 = 5 := by grind
      rw [e5, e5b]
      refine ⟨fun _ => ⟨in15, in10, ?_⟩, fun q => absurd q (by decide)⟩
      intro y13 e13
      refine ⟨in10, ?_⟩
      intro y16 e16
      rcases k6 with rfl | rfl | rfl | rfl | rfl | rfl
      all_goals simp (config := { decide := true }) only [forall_eq, not_true_eq_false, not_false_eq_true, false_implies, forall_const, true_and, and_true, true_implies]
      · exact fin _ _ rfl rfl
      · exact fin _ _ (by rw [e13]; rfl) rfl
      · exact fin _ _ (by rw [e16]; rfl) rfl
      · exact fin _ _ (by rw [e13]; rfl) rfl
      · exact fin _ _ (by rw [e16]; rfl) rfl
      · refine ⟨hpre, ?_⟩
        rintro x m ⟨hx, rfl⟩
        exact fin _ _ (by rw [hx]; rfl) rfl
theorem sp_X9_rate : Sp yX9_rate cX9_rate 6 (some .int) 2 S_X9_rate := by
  refine sp_of (by decide) (fun av μ P h => ?_) ?_
  · obtain ⟨p1, p2, rfl, -⟩ := h
    refine ⟨Nat.le_of_ble_eq_true rfl, fun v hv => ?_⟩
    simp only [List.mem_cons, List.not_mem_nil, or_false] at hv
    rcases hv with rfl | rfl | rfl <;> rfl
  · rintro X P hO _ μ ⟨p1, p2, rfl, hpre, hpost⟩ hn
    exact wk_X9_rate_0 hO hn p1 p2  μ hpost (vp_X9_rate_0 p1 p2  μ hpre)

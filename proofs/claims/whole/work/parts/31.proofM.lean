theorem nI_nle' {a b : Nat} (ha : a < 2 ^ 31) (hb : b < 2 ^ 31) : (¬ nI a ≤ nI b) ↔ b < a := by
  rw [nI_leI ha hb]; omega
theorem rem_self (y : Int32) : y - y / 1 * 1 = 0 := by simp
theorem vp_in_of' {x : Int32} {n : Nat} (h : vp_in x n) (hn : n < 2 ^ 31) : x = nI x.toNatClampNeg ∧ x.toNatClampNeg < n := by
  obtain ⟨j, hj, rfl⟩ := vp_in_of h hn
  rw [nI_clamp (by omega)]
  exact ⟨rfl, hj⟩
theorem nn_of {x : Int32} (h : 0 ≤ x) : x = nI x.toNatClampNeg ∧ x.toNatClampNeg < 2 ^ 31 := by
  obtain ⟨j, hj, rfl⟩ := nI_of (x := x) (by simpa using h)
  rw [nI_clamp hj]
  exact ⟨rfl, hj⟩
theorem i_lt {x y : Int32} : x < y ↔ x.toInt < y.toInt := Int32.lt_iff_toInt_lt
theorem i_le {x y : Int32} : x ≤ y ↔ x.toInt ≤ y.toInt := Int32.le_iff_toInt_le
theorem in_pred {R : Nat} (hR : R < 2 ^ 30) (p1 : Int32) : (p1 < 0 ∨ nI R - 1 < p1) ↔ (p1 < 0 ∨ nI R ≤ p1) := by
  rcases Nat.eq_zero_or_pos R with rfl | h
  · rw [show nI 0 - 1 = -1 from rfl, show nI 0 = 0 from rfl]
    simp only [i_lt, i_le]
    rw [show (-1 : Int32).toInt = -1 from rfl, show (0 : Int32).toInt = 0 from rfl]
    omega
  · obtain ⟨q, rfl⟩ : ∃ q, R = q + 1 := ⟨R - 1, by omega⟩
    rw [nI_pred]
    simp only [i_lt, i_le]
    rw [nI_toInt (by omega), nI_toInt (by omega), show (0 : Int32).toInt = 0 from rfl]
    omega
def S_X9_in : Tr := fun av μ P => ∃ (p1 : Int32) (p2 : Int32) (p3 : Int32), av = [.int p1, .int p2, .int p3] ∧ pre_X9_in p1 p2 p3 μ ∧ ∀ (x : Int32) (m : Mem), post_X9_in p1 p2 p3 μ x m → P (some (.int x)) m
def vc_X9_in_0 (p1 : Int32) (p2 : Int32) (p3 : Int32)  (μ : Mem) (R : Int32 → Mem → Prop)  : Prop :=
  ((p1 < p2 → R 0 μ) ∧ (¬ p1 < p2 → ((p3 < p1 → R 0 μ) ∧ (¬ p3 < p1 → R 1 μ))))
set_option maxRecDepth 20000 in
set_option maxHeartbeats 4000000 in
theorem wk_X9_in_0 {X : XT} {P : Post} (hO : OkM X cX9_in RX9 0 (some .boolean) P) (hn : xn X = 3) (p1 : Int32) (p2 : Int32) (p3 : Int32)   (μ : Mem) {R : Int32 → Mem → Prop} (hR : ∀ x m, R x m → P (some (.int x)) m)    (h : vc_X9_in_0 p1 p2 p3  μ R ) : V X 0 [some (.int p1), some (.int p2), some (.int p3)] [] μ := by
  have hX := hO.1
  unfold vc_X9_in_0 at h
  refine v_iload_n hX dX9_in_0 rfl (?_ : V X 1 [some (.int p1), some (.int p2), some (.int p3)] [.int p1] μ)
  refine v_iload_n hX dX9_in_1 rfl (?_ : V X 2 [some (.int p1), some (.int p2), some (.int p3)] [.int p2, .int p1] μ)
  refine v_icmp_lt hX 14 dX9_in_2 rfl (fun c1 => ?_) (fun c1 => ?_)
  · replace h := h.1 c1
    refine v_iconst hX 0 dX9_in_14 rfl (?_ : V X 15 [some (.int p1), some (.int p2), some (.int p3)] [.int 0] μ)
    exact v_zret hO dX9_in_15 (by decide) (hR _ _ h)
  · replace h := h.2 c1
    refine v_iload_n hX dX9_in_5 rfl (?_ : V X 6 [some (.int p1), some (.int p2), some (.int p3)] [.int p1] μ)
    refine v_iload_n hX dX9_in_6 rfl (?_ : V X 7 [some (.int p1), some (.int p2), some (.int p3)] [.int p3, .int p1] μ)
    refine v_icmp_gt hX 14 dX9_in_7 rfl (fun c2 => ?_) (fun c2 => ?_)
    · replace h := h.1 c2
      refine v_iconst hX 0 dX9_in_14 rfl (?_ : V X 15 [some (.int p1), some (.int p2), some (.int p3)] [.int 0] μ)
      exact v_zret hO dX9_in_15 (by decide) (hR _ _ h)
    · replace h := h.2 c2
      refine v_iconst hX 1 dX9_in_10 rfl (?_ : V X 11 [some (.int p1), some (.int p2), some (.int p3)] [.int 1] μ)
      refine v_goto hX 15 dX9_in_11 rfl (?_ : V X 15 [some (.int p1), some (.int p2), some (.int p3)] [.int 1] μ)
      exact v_zret hO dX9_in_15 (by decide) (hR _ _ h)
set_option maxRecDepth 20000 in
set_option maxHeartbeats 4000000 in
theorem vp_X9_in_0 (p1 : Int32) (p2 : Int32) (p3 : Int32)  (μ : Mem) (hpre : pre_X9_in p1 p2 p3 μ) : vc_X9_in_0 p1 p2 p3 μ (post_X9_in p1 p2 p3 μ)  := by
  simp only [vc_X9_in_0, and_imp, call_eq, forall_eq, forall_const, true_and, and_true]
  unfold post_X9_in; grind
theorem sp_X9_in : Sp yX9_in cX9_in 3 (some .boolean) 0 S_X9_in := by
  refine sp_of (by decide) (fun av μ P h => ?_) ?_
  · obtain ⟨p1, p2, p3, rfl, -⟩ := h
    refine ⟨Nat.le_of_ble_eq_true rfl, fun v hv => ?_⟩
    simp only [List.mem_cons, List.not_mem_nil, or_false] at hv
    rcases hv with rfl | rfl | rfl <;> rfl
  · rintro X P hO _ μ ⟨p1, p2, p3, rfl, hpre, hpost⟩ hn
    exact wk_X9_in_0 hO hn p1 p2 p3  μ hpost (vp_X9_in_0 p1 p2 p3  μ hpre)
def S_X9_ones : Tr := fun av μ P => ∃ (p1 : Int32), av = [.int p1] ∧ pre_X9_ones p1 μ ∧ ∀ (x : Int32) (m : Mem), post_X9_ones p1 μ x m → P (some (.int x)) m
def vc_X9_ones_0 (p1 : Int32)  (μ : Mem) (R : Int32 → Mem → Prop) (J4 : Int32 → Int32 → Mem → Prop) : Prop :=
  J4 0 0 μ
set_option maxRecDepth 20000 in
set_option maxHeartbeats 4000000 in
theorem wk_X9_ones_0 {X : XT} {P : Post} (hO : OkM X cX9_ones RX9 0 (some .int) P) (hn : xn X = 3) (p1 : Int32)   (μ : Mem) {R : Int32 → Mem → Prop} (hR : ∀ x m, R x m → P (some (.int x)) m) {J4 : Int32 → Int32 → Mem → Prop} (hJ4 : ∀ (l1 : Int32) (l2 : Int32) (m : Mem), J4 l1 l2 m → V X 4 [some (.int p1), some (.int l1), some (.int l2)] [] m)  (h : vc_X9_ones_0 p1  μ R J4) : V X 0 [some (.int p1), none, none] [] μ := by
  have hX := hO.1
  unfold vc_X9_ones_0 at h
  refine v_iconst hX 0 dX9_ones_0 rfl (?_ : V X 1 [some (.int p1), none, none] [.int 0] μ)
  refine v_istore_n hX dX9_ones_1 (by rw [hn]; decide) (?_ : V X 2 [some (.int p1), some (.int 0), none] [] μ)
  refine v_iconst hX 0 dX9_ones_2 rfl (?_ : V X 3 [some (.int p1), some (.int 0), none] [.int 0] μ)
  refine v_istore_n hX dX9_ones_3 (by rw [hn]; decide) (?_ : V X 4 [some (.int p1), some (.int 0), some (.int 0)] [] μ)
  exact v_mask [true, true, true] (hJ4 _ _ _ h)
def vc_X9_ones_4 (p1 : Int32) (l1 : Int32) (l2 : Int32) (μ : Mem) (R : Int32 → Mem → Prop) (J4 : Int32 → Int32 → Mem → Prop) : Prop :=
  ((6 ≤ l2 → R l1 μ) ∧ (¬ 6 ≤ l2 → J4 (l1 + ((p1 >>> (l2 &&& 31)) &&& 1)) (l2 + 1) μ))
set_option maxRecDepth 20000 in
set_option maxHeartbeats 4000000 in
theorem wk_X9_ones_4 {X : XT} {P : Post} (hO : OkM X cX9_ones RX9 0 (some .int) P) (hn : xn X = 3) (p1 : Int32)  (l1 : Int32) (l2 : Int32) (μ : Mem) {R : Int32 → Mem → Prop} (hR : ∀ x m, R x m → P (some (.int x)) m) {J4 : Int32 → Int32 → Mem → Prop} (hJ4 : ∀ (l1 : Int32) (l2 : Int32) (m : Mem), J4 l1 l2 m → V X 4 [some (.int p1), some (.int l1), some (.int l2)] [] m)  (h : vc_X9_ones_4 p1 l1 l2 μ R J4) : V X 4 [some (.int p1), some (.int l1), some (.int l2)] [] μ := by
  have hX := hO.1
  unfold vc_X9_ones_4 at h
  refine v_iload_n hX dX9_ones_4 rfl (?_ : V X 5 [some (.int p1), some (.int l1), some (.int l2)] [.int l2] μ)
  refine v_bipush hX 6 dX9_ones_5 rfl (?_ : V X 7 [some (.int p1), some (.int l1), some (.int l2)] [.int 6, .int l2] μ)
  refine v_icmp_ge hX 24 dX9_ones_7 rfl (fun c1 => ?_) (fun c1 => ?_)
  · replace h := h.1 c1
    refine v_iload_n hX dX9_ones_24 rfl (?_ : V X 25 [some (.int p1), some (.int l1), some (.int l2)] [.int l1] μ)
    exact v_iret hO dX9_ones_25 (hR _ _ h)
  · replace h := h.2 c1
    refine v_iload_n hX dX9_ones_10 rfl (?_ : V X 11 [some (.int p1), some (.int l1), some (.int l2)] [.int l1] μ)
    refine v_iload_n hX dX9_ones_11 rfl (?_ : V X 12 [some (.int p1), some (.int l1), some (.int l2)] [.int p1, .int l1] μ)
    refine v_iload_n hX dX9_ones_12 rfl (?_ : V X 13 [some (.int p1), some (.int l1), some (.int l2)] [.int l2, .int p1, .int l1] μ)
    refine v_ishr hX dX9_ones_13 (?_ : V X 14 [some (.int p1), some (.int l1), some (.int l2)] [.int (p1 >>> (l2 &&& 31)), .int l1] μ)
    refine v_iconst hX 1 dX9_ones_14 rfl (?_ : V X 15 [some (.int p1), some (.int l1), some (.int l2)] [.int 1, .int (p1 >>> (l2 &&& 31)), .int l1] μ)
    refine v_iand hX dX9_ones_15 (?_ : V X 16 [some (.int p1), some (.int l1), some (.int l2)] [.int ((p1 >>> (l2 &&& 31)) &&& 1), .int l1] μ)
    refine v_iadd hX dX9_ones_16 (?_ : V X 17 [some (.int p1), some (.int l1), some (.int l2)] [.int (l1 + ((p1 >>> (l2 &&& 31)) &&& 1))] μ)
    refine v_istore_n hX dX9_ones_17 (by rw [hn]; decide) (?_ : V X 18 [some (.int p1), some (.int (l1 + ((p1 >>> (l2 &&& 31)) &&& 1))), some (.int l2)] [] μ)
    refine v_iinc hX 1 dX9_ones_18 (by rw [hn]; decide) rfl rfl (?_ : V X 21 [some (.int p1), some (.int (l1 + ((p1 >>> (l2 &&& 31)) &&& 1))), some (.int (l2 + 1))] [] μ)
    refine v_goto hX 4 dX9_ones_21 rfl (?_ : V X 4 [some (.int p1), some (.int (l1 + ((p1 >>> (l2 &&& 31)) &&& 1))), some (.int (l2 + 1))] [] μ)
    exact v_mask [true, true, true] (hJ4 _ _ _ h)
set_option maxRecDepth 20000 in
set_option maxHeartbeats 4000000 in
theorem vp_X9_ones_0 (p1 : Int32)  (μ : Mem) (hpre : pre_X9_ones p1 μ) : vc_X9_ones_0 p1 μ (post_X9_ones p1 μ) (fun l1 l2 m => ∃ k : Nat, inv_X9_ones_4 p1 μ k l1 l2 m) := by
  simp only [vc_X9_ones_0, and_imp, call_eq, forall_eq, forall_const, true_and, and_true]
  exact ⟨6, 0, by omega, rfl, rfl, rfl, rfl⟩
set_option maxRecDepth 20000 in
set_option maxHeartbeats 4000000 in
theorem vp_X9_ones_4 (p1 : Int32)  (μ : Mem) (hpre : pre_X9_ones p1 μ) (n : Nat) (l1 : Int32) (l2 : Int32) (μ0 : Mem) (hi : inv_X9_ones_4 p1 μ n l1 l2 μ0) : vc_X9_ones_4 p1 l1 l2 μ0 (post_X9_ones p1 μ) (fun l1 l2 m => ∃ k : Nat, k < n ∧ inv_X9_ones_4 p1 μ k l1 l2 m) := by
  simp only [vc_X9_ones_4, and_imp, call_eq, forall_eq, forall_const, true_and, and_true]
  obtain ⟨i, hi1, rfl, rfl, rfl, rfl⟩ := hi
  rw [show (6 : Int32) = nI 6 from rfl, nI_leI (by omega) (by omega)]
  refine ⟨fun c => ?_, fun c => ⟨6 - (i + 1), by omega, i + 1, by omega, rfl, nI_1 i, rfl, rfl⟩⟩
  have : i = 6 := by omega
  subst this
  exact ⟨rfl, rfl⟩
theorem sp_X9_ones : Sp yX9_ones cX9_ones 3 (some .int) 0 S_X9_ones := by
  refine sp_of (by decide) (fun av μ P h => ?_) ?_
  · obtain ⟨p1, rfl, -⟩ := h
    refine ⟨Nat.le_of_ble_eq_true rfl, fun v hv => ?_⟩
    simp only [List.mem_cons, List.not_mem_nil, or_false] at hv
    subst hv; rfl
  · rintro X P hO _ μ ⟨p1, rfl, hpre, hpost⟩ hn
    have hJ : ∀ n : Nat, (∀ (l1 : Int32) (l2 : Int32) (m : Mem), inv_X9_ones_4 p1 μ n l1 l2 m → V X 4 [some (.int p1), some (.int l1), some (.int l2)] [] m) := by
      intro n
      induction n using Nat.strongRecOn with
      | _ n ih =>
        exact fun l1 l2 m hi => wk_X9_ones_4 (J4 := (fun l1 l2 m => ∃ k : Nat, k < n ∧ inv_X9_ones_4 p1 μ k l1 l2 m)) hO hn p1  l1 l2 m hpost (fun l1 l2 m hk => by obtain ⟨k, hk, hi⟩ := hk; exact (ih k hk) l1 l2 m hi) (vp_X9_ones_4 p1  μ hpre n l1 l2 m hi)
    exact wk_X9_ones_0 (J4 := (fun l1 l2 m => ∃ k : Nat, inv_X9_ones_4 p1 μ k l1 l2 m)) hO hn p1  μ hpost (fun l1 l2 m hk => by obtain ⟨k, hi⟩ := hk; exact (hJ k) l1 l2 m hi) (vp_X9_ones_0 p1  μ hpre)
def S_X9_letterAt : Tr := fun av μ P => ∃ (p1 : Int32), av = [.ref 75, .int p1] ∧ pre_X9_letterAt p1 μ ∧ ∀ (x : Int32) (m : Mem), post_X9_letterAt p1 μ x m → P (some (.int x)) m
def vc_X9_letterAt_0 (p1 : Int32)  (μ : Mem) (R : Int32 → Mem → Prop)  : Prop :=
  (((gi μ 75 3) ≤ p1 → R ((-1)) μ) ∧ (¬ (gi μ 75 3) ≤ p1 → vp_in p1 200 ∧ R (gi μ 76 (Int32.toNatClampNeg p1)) μ))
set_option maxRecDepth 20000 in
set_option maxHeartbeats 4000000 in
theorem wk_X9_letterAt_0 {X : XT} {P : Post} (hO : OkM X cX9_letterAt RX9 0 (some .int) P) (hn : xn X = 2) (p1 : Int32)   (μ : Mem) {R : Int32 → Mem → Prop} (hR : ∀ x m, R x m → P (some (.int x)) m)    (h : vc_X9_letterAt_0 p1  μ R ) : V X 0 [some (.ref 75), some (.int p1)] [] μ := by
  have hX := hO.1
  unfold vc_X9_letterAt_0 at h
  refine v_iload_n hX dX9_letterAt_0 rfl (?_ : V X 1 [some (.ref 75), some (.int p1)] [.int p1] μ)
  refine v_aload_n hX dX9_letterAt_1 rfl (?_ : V X 2 [some (.ref 75), some (.int p1)] [.ref 75, .int p1] μ)
  refine v_geti hX fk_X9_82 sh_75 rfl dX9_letterAt_2 (?_ : V X 5 [some (.ref 75), some (.int p1)] [.int (gi μ 75 3), .int p1] μ)
  refine v_icmp_ge hX 17 dX9_letterAt_5 rfl (fun c1 => ?_) (fun c1 => ?_)
  · replace h := h.1 c1
    refine v_iconst hX (-1) dX9_letterAt_17 rfl (?_ : V X 18 [some (.ref 75), some (.int p1)] [.int ((-1))] μ)
    exact v_iret hO dX9_letterAt_18 (hR _ _ h)
  · replace h := h.2 c1
    refine v_aload_n hX dX9_letterAt_8 rfl (?_ : V X 9 [some (.ref 75), some (.int p1)] [.ref 75] μ)
    refine v_getr hX (76) fk_X9_7 sh_75 rfl rfl dX9_letterAt_9 (?_ : V X 12 [some (.ref 75), some (.int p1)] [.ref 76] μ)
    refine v_iload_n hX dX9_letterAt_12 rfl (?_ : V X 13 [some (.ref 75), some (.int p1)] [.int p1, .ref 76] μ)
    have hb2 := h.1
    replace h := h.2
    refine w_iald hX (Int32.toNatClampNeg p1) sh_76 hb2 rfl dX9_letterAt_13 (?_ : V X 14 [some (.ref 75), some (.int p1)] [.int (gi μ 76 (Int32.toNatClampNeg p1))] μ)
    refine v_goto hX 18 dX9_letterAt_14 rfl (?_ : V X 18 [some (.ref 75), some (.int p1)] [.int (gi μ 76 (Int32.toNatClampNeg p1))] μ)
    exact v_iret hO dX9_letterAt_18 (hR _ _ h)
set_option maxRecDepth 20000 in
set_option maxHeartbeats 4000000 in
theorem vp_X9_letterAt_0 (p1 : Int32)  (μ : Mem) (hpre : pre_X9_letterAt p1 μ) : vc_X9_letterAt_0 p1 μ (post_X9_letterAt p1 μ)  := by
  simp only [vc_X9_letterAt_0, and_imp, call_eq, forall_eq, forall_const, true_and, and_true]
  obtain ⟨h1, h2⟩ := hpre
  obtain ⟨e, he⟩ := nn_of h2
  unfold post_X9_letterAt
  refine ⟨fun c => ?_, fun c => ?_⟩
  · rw [if_neg (by simpa using c)]; exact ⟨rfl, rfl⟩
  · have c2 : p1 < gi μ 75 3 := by simpa using c
    rw [if_pos c2]
    refine ⟨?_, rfl, rfl⟩
    have hb := h1.2
    rw [e, h1.1, nI_ltI he (by omega)] at c2
    rw [e]; exact vp_in_nI (by omega) (by omega)
theorem sp_X9_letterAt : Sp yX9_letterAt cX9_letterAt 2 (some .int) 0 S_X9_letterAt := by
  refine sp_of (by decide) (fun av μ P h => ?_) ?_
  · obtain ⟨p1, rfl, -⟩ := h
    refine ⟨Nat.le_of_ble_eq_true rfl, fun v hv => ?_⟩
    simp only [List.mem_cons, List.not_mem_nil, or_false] at hv
    rcases hv with rfl | rfl <;> rfl
  · rintro X P hO _ μ ⟨p1, rfl, hpre, hpost⟩ hn
    exact wk_X9_letterAt_0 hO hn p1  μ hpost (vp_X9_letterAt_0 p1  μ hpre)
def S_X9_isLetter : Tr := fun av μ P => ∃ (p1 : Int32), av = [.int p1] ∧ pre_X9_isLetter p1 μ ∧ ∀ (x : Int32) (m : Mem), post_X9_isLetter p1 μ x m → P (some (.int x)) m
def vc_X9_isLetter_0 (p1 : Int32)  (μ : Mem) (R : Int32 → Mem → Prop)  : Prop :=
  ((p1 = 114 → R 1 μ) ∧ (¬ p1 = 114 → ((p1 = 100 → R 1 μ) ∧ (¬ p1 = 100 → ((p1 = 115 → R 1 μ) ∧ (¬ p1 = 115 → ((p1 = 99 → R 1 μ) ∧ (¬ p1 = 99 → ((p1 = 119 → R 1 μ) ∧ (¬ p1 = 119 → ((¬ p1 = 110 → R 0 μ) ∧ (p1 = 110 → R 1 μ))))))))))))
set_option maxRecDepth 20000 in
set_option maxHeartbeats 4000000 in
theorem wk_X9_isLetter_0 {X : XT} {P : Post} (hO : OkM X cX9_isLetter RX9 0 (some .boolean) P) (hn : xn X = 1) (p1 : Int32)   (μ : Mem) {R : Int32 → Mem → Prop} (hR : ∀ x m, R x m → P (some (.int x)) m)    (h : vc_X9_isLetter_0 p1  μ R ) : V X 0 [some (.int p1)] [] μ := by
  have hX := hO.1
  unfold vc_X9_isLetter_0 at h
  refine v_iload_n hX dX9_isLetter_0 rfl (?_ : V X 1 [some (.int p1)] [.int p1] μ)
  refine v_bipush hX 114 dX9_isLetter_1 rfl (?_ : V X 3 [some (.int p1)] [.int 114, .int p1] μ)
  refine v_icmp_eq hX 36 dX9_isLetter_3 rfl (fun c1 => ?_) (fun c1 => ?_)
  · replace h := h.1 c1
    refine v_iconst hX 1 dX9_isLetter_36 rfl (?_ : V X 37 [some (.int p1)] [.int 1] μ)
    refine v_goto hX 41 dX9_isLetter_37 rfl (?_ : V X 41 [some (.int p1)] [.int 1] μ)
    exact v_zret hO dX9_isLetter_41 (by decide) (hR _ _ h)
  · replace h := h.2 c1
    refine v_iload_n hX dX9_isLetter_6 rfl (?_ : V X 7 [some (.int p1)] [.int p1] μ)
    refine v_bipush hX 100 dX9_isLetter_7 rfl (?_ : V X 9 [some (.int p1)] [.int 100, .int p1] μ)
    refine v_icmp_eq hX 36 dX9_isLetter_9 rfl (fun c2 => ?_) (fun c2 => ?_)
    · replace h := h.1 c2
      refine v_iconst hX 1 dX9_isLetter_36 rfl (?_ : V X 37 [some (.int p1)] [.int 1] μ)
      refine v_goto hX 41 dX9_isLetter_37 rfl (?_ : V X 41 [some (.int p1)] [.int 1] μ)
      exact v_zret hO dX9_isLetter_41 (by decide) (hR _ _ h)
    · replace h := h.2 c2
      refine v_iload_n hX dX9_isLetter_12 rfl (?_ : V X 13 [some (.int p1)] [.int p1] μ)
      refine v_bipush hX 115 dX9_isLetter_13 rfl (?_ : V X 15 [some (.int p1)] [.int 115, .int p1] μ)
      refine v_icmp_eq hX 36 dX9_isLetter_15 rfl (fun c3 => ?_) (fun c3 => ?_)
      · replace h := h.1 c3
        refine v_iconst hX 1 dX9_isLetter_36 rfl (?_ : V X 37 [some (.int p1)] [.int 1] μ)
        refine v_goto hX 41 dX9_isLetter_37 rfl (?_ : V X 41 [some (.int p1)] [.int 1] μ)
        exact v_zret hO dX9_isLetter_41 (by decide) (hR _ _ h)
      · replace h := h.2 c3
        refine v_iload_n hX dX9_isLetter_18 rfl (?_ : V X 19 [some (.int p1)] [.int p1] μ)
        refine v_bipush hX 99 dX9_isLetter_19 rfl (?_ : V X 21 [some (.int p1)] [.int 99, .int p1] μ)
        refine v_icmp_eq hX 36 dX9_isLetter_21 rfl (fun c4 => ?_) (fun c4 => ?_)
        · replace h := h.1 c4
          refine v_iconst hX 1 dX9_isLetter_36 rfl (?_ : V X 37 [some (.int p1)] [.int 1] μ)
          refine v_goto hX 41 dX9_isLetter_37 rfl (?_ : V X 41 [some (.int p1)] [.int 1] μ)
          exact v_zret hO dX9_isLetter_41 (by decide) (hR _ _ h)
        · replace h := h.2 c4
          refine v_iload_n hX dX9_isLetter_24 rfl (?_ : V X 25 [some (.int p1)] [.int p1] μ)
          refine v_bipush hX 119 dX9_isLetter_25 rfl (?_ : V X 27 [some (.int p1)] [.int 119, .int p1] μ)
          refine v_icmp_eq hX 36 dX9_isLetter_27 rfl (fun c5 => ?_) (fun c5 => ?_)
          · replace h := h.1 c5
            refine v_iconst hX 1 dX9_isLetter_36 rfl (?_ : V X 37 [some (.int p1)] [.int 1] μ)
            refine v_goto hX 41 dX9_isLetter_37 rfl (?_ : V X 41 [some (.int p1)] [.int 1] μ)
            exact v_zret hO dX9_isLetter_41 (by decide) (hR _ _ h)
          · replace h := h.2 c5
            refine v_iload_n hX dX9_isLetter_30 rfl (?_ : V X 31 [some (.int p1)] [.int p1] μ)
            refine v_bipush hX 110 dX9_isLetter_31 rfl (?_ : V X 33 [some (.int p1)] [.int 110, .int p1] μ)
            refine v_icmp_ne hX 40 dX9_isLetter_33 rfl (fun c6 => ?_) (fun c6 => ?_)
            · replace h := h.1 c6
              refine v_iconst hX 0 dX9_isLetter_40 rfl (?_ : V X 41 [some (.int p1)] [.int 0] μ)
              exact v_zret hO dX9_isLetter_41 (by decide) (hR _ _ h)
            · replace h := h.2 c6
              refine v_iconst hX 1 dX9_isLetter_36 rfl (?_ : V X 37 [some (.int p1)] [.int 1] μ)
              refine v_goto hX 41 dX9_isLetter_37 rfl (?_ : V X 41 [some (.int p1)] [.int 1] μ)
              exact v_zret hO dX9_isLetter_41 (by decide) (hR _ _ h)
set_option maxRecDepth 20000 in
set_option maxHeartbeats 4000000 in
theorem vp_X9_isLetter_0 (p1 : Int32)  (μ : Mem) (hpre : pre_X9_isLetter p1 μ) : vc_X9_isLetter_0 p1 μ (post_X9_isLetter p1 μ)  := by
  simp only [vc_X9_isLetter_0, and_imp, call_eq, forall_eq, forall_const, true_and, and_true]
  unfold post_X9_isLetter isLetF; grind (splits := 30)
theorem sp_X9_isLetter : Sp yX9_isLetter cX9_isLetter 1 (some .boolean) 0 S_X9_isLetter := by
  refine sp_of (by decide) (fun av μ P h => ?_) ?_
  · obtain ⟨p1, rfl, -⟩ := h
    refine ⟨Nat.le_of_ble_eq_true rfl, fun v hv => ?_⟩
    simp only [List.mem_cons, List.not_mem_nil, or_false] at hv
    subst hv; rfl
  · rintro X P hO _ μ ⟨p1, rfl, hpre, hpost⟩ hn
    exact wk_X9_isLetter_0 hO hn p1  μ hpost (vp_X9_isLetter_0 p1  μ hpre)
def S_X9_isWell : Tr := fun av μ P => av = [.ref 75] ∧ pre_X9_isWell  μ ∧ ∀ (x : Int32) (m : Mem), post_X9_isWell  μ x m → P (some (.int x)) m
def vc_X9_isWell_0   (μ : Mem) (R : Int32 → Mem → Prop)  : Prop :=
  ((0 ≤ (gi μ 75 8) → R 0 μ) ∧ (¬ 0 ≤ (gi μ 75 8) → R 1 μ))
set_option maxRecDepth 20000 in
set_option maxHeartbeats 4000000 in
theorem wk_X9_isWell_0 {X : XT} {P : Post} (hO : OkM X cX9_isWell RX9 0 (some .boolean) P) (hn : xn X = 1)    (μ : Mem) {R : Int32 → Mem → Prop} (hR : ∀ x m, R x m → P (some (.int x)) m)    (h : vc_X9_isWell_0   μ R ) : V X 0 [some (.ref 75)] [] μ := by
  have hX := hO.1
  unfold vc_X9_isWell_0 at h
  refine v_aload_n hX dX9_isWell_0 rfl (?_ : V X 1 [some (.ref 75)] [.ref 75] μ)
  refine v_geti hX fk_X9_105 sh_75 rfl dX9_isWell_1 (?_ : V X 4 [some (.ref 75)] [.int (gi μ 75 8)] μ)
  refine v_if_ge hX 11 dX9_isWell_4 rfl (fun c1 => ?_) (fun c1 => ?_)
  · replace h := h.1 c1
    refine v_iconst hX 0 dX9_isWell_11 rfl (?_ : V X 12 [some (.ref 75)] [.int 0] μ)
    exact v_zret hO dX9_isWell_12 (by decide) (hR _ _ h)
  · replace h := h.2 c1
    refine v_iconst hX 1 dX9_isWell_7 rfl (?_ : V X 8 [some (.ref 75)] [.int 1] μ)
    refine v_goto hX 12 dX9_isWell_8 rfl (?_ : V X 12 [some (.ref 75)] [.int 1] μ)
    exact v_zret hO dX9_isWell_12 (by decide) (hR _ _ h)
set_option maxRecDepth 20000 in
set_option maxHeartbeats 4000000 in
theorem vp_X9_isWell_0   (μ : Mem) (hpre : pre_X9_isWell  μ) : vc_X9_isWell_0  μ (post_X9_isWell  μ)  := by
  simp only [vc_X9_isWell_0, and_imp, call_eq, forall_eq, forall_const, true_and, and_true]
  unfold post_X9_isWell; grind
theorem sp_X9_isWell : Sp yX9_isWell cX9_isWell 1 (some .boolean) 0 S_X9_isWell := by
  refine sp_of (by decide) (fun av μ P h => ?_) ?_
  · obtain ⟨rfl, -⟩ := h
    refine ⟨Nat.le_of_ble_eq_true rfl, fun v hv => ?_⟩
    simp only [List.mem_cons, List.not_mem_nil, or_false] at hv
    subst hv; rfl
  · rintro X P hO _ μ ⟨rfl, hpre, hpost⟩ hn
    exact wk_X9_isWell_0 hO hn   μ hpost (vp_X9_isWell_0   μ hpre)
def S_X9_bitOf : Tr := fun av μ P => ∃ (p1 : Int32), av = [.int p1] ∧ pre_X9_bitOf p1 μ ∧ ∀ (x : Int32) (m : Mem), post_X9_bitOf p1 μ x m → P (some (.int x)) m
def vc_X9_bitOf_0 (p1 : Int32)  (μ : Mem) (R : Int32 → Mem → Prop)  : Prop :=
  ((¬ p1 = 99 → ((¬ p1 = 119 → R 4 μ) ∧ (p1 = 119 → R 2 μ))) ∧ (p1 = 99 → R 1 μ))
set_option maxRecDepth 20000 in
set_option maxHeartbeats 4000000 in
theorem wk_X9_bitOf_0 {X : XT} {P : Post} (hO : OkM X cX9_bitOf RX9 0 (some .int) P) (hn : xn X = 1) (p1 : Int32)   (μ : Mem) {R : Int32 → Mem → Prop} (hR : ∀ x m, R x m → P (some (.int x)) m)    (h : vc_X9_bitOf_0 p1  μ R ) : V X 0 [some (.int p1)] [] μ := by
  have hX := hO.1
  unfold vc_X9_bitOf_0 at h
  refine v_iload_n hX dX9_bitOf_0 rfl (?_ : V X 1 [some (.int p1)] [.int p1] μ)
  refine v_bipush hX 99 dX9_bitOf_1 rfl (?_ : V X 3 [some (.int p1)] [.int 99, .int p1] μ)
  refine v_icmp_ne hX 10 dX9_bitOf_3 rfl (fun c1 => ?_) (fun c1 => ?_)
  · replace h := h.1 c1
    refine v_iload_n hX dX9_bitOf_10 rfl (?_ : V X 11 [some (.int p1)] [.int p1] μ)
    refine v_bipush hX 119 dX9_bitOf_11 rfl (?_ : V X 13 [some (.int p1)] [.int 119, .int p1] μ)
    refine v_icmp_ne hX 20 dX9_bitOf_13 rfl (fun c2 => ?_) (fun c2 => ?_)
    · replace h := h.1 c2
      refine v_iconst hX 4 dX9_bitOf_20 rfl (?_ : V X 21 [some (.int p1)] [.int 4] μ)
      exact v_iret hO dX9_bitOf_21 (hR _ _ h)
    · replace h := h.2 c2
      refine v_iconst hX 2 dX9_bitOf_16 rfl (?_ : V X 17 [some (.int p1)] [.int 2] μ)
      refine v_goto hX 21 dX9_bitOf_17 rfl (?_ : V X 21 [some (.int p1)] [.int 2] μ)
      exact v_iret hO dX9_bitOf_21 (hR _ _ h)
  · replace h := h.2 c1
    refine v_iconst hX 1 dX9_bitOf_6 rfl (?_ : V X 7 [some (.int p1)] [.int 1] μ)
    refine v_goto hX 21 dX9_bitOf_7 rfl (?_ : V X 21 [some (.int p1)] [.int 1] μ)
    exact v_iret hO dX9_bitOf_21 (hR _ _ h)
set_option maxRecDepth 20000 in
set_option maxHeartbeats 4000000 in
theorem vp_X9_bitOf_0 (p1 : Int32)  (μ : Mem) (hpre : pre_X9_bitOf p1 μ) : vc_X9_bitOf_0 p1 μ (post_X9_bitOf p1 μ)  := by
  simp only [vc_X9_bitOf_0, and_imp, call_eq, forall_eq, forall_const, true_and, and_true]
  unfold post_X9_bitOf bitF; grind
theorem sp_X9_bitOf : Sp yX9_bitOf cX9_bitOf 1 (some .int) 0 S_X9_bitOf := by
  refine sp_of (by decide) (fun av μ P h => ?_) ?_
  · obtain ⟨p1, rfl, -⟩ := h
    refine ⟨Nat.le_of_ble_eq_true rfl, fun v hv => ?_⟩
    simp only [List.mem_cons, List.not_mem_nil, or_false] at hv
    subst hv; rfl
  · rintro X P hO _ μ ⟨p1, rfl, hpre, hpost⟩ hn
    exact wk_X9_bitOf_0 hO hn p1  μ hpost (vp_X9_bitOf_0 p1  μ hpre)
def S_X9_isRoom : Tr := fun av μ P => ∃ (p1 : Int32), av = [.ref 75, .int p1] ∧ pre_X9_isRoom p1 μ ∧ ∀ (x : Int32) (m : Mem), post_X9_isRoom p1 μ x m → P (some (.int x)) m
def vc_X9_isRoom_0 (p1 : Int32)  (μ : Mem) (R : Int32 → Mem → Prop)  : Prop :=
  (pre_X9_in p1 0 ((gi μ 77 0) - 1) μ ∧ ∀ (x1 : Int32) (μ2 : Mem), post_X9_in p1 0 ((gi μ 77 0) - 1) μ x1 μ2 → (x1 = 0 ∨ x1 = 1) ∧ R x1 μ2)
set_option maxRecDepth 20000 in
set_option maxHeartbeats 4000000 in
theorem wk_X9_isRoom_0 {X : XT} {P : Post} (hO : OkM X cX9_isRoom RX9 1 (some .boolean) P) (hn : xn X = 2) (p1 : Int32)   (μ : Mem) {R : Int32 → Mem → Prop} (hR : ∀ x m, R x m → P (some (.int x)) m)    (h : vc_X9_isRoom_0 p1  μ R ) : V X 0 [some (.ref 75), some (.int p1)] [] μ := by
  have hX := hO.1
  unfold vc_X9_isRoom_0 at h
  refine v_iload_n hX dX9_isRoom_0 rfl (?_ : V X 1 [some (.ref 75), some (.int p1)] [.int p1] μ)
  refine v_iconst hX 0 dX9_isRoom_1 rfl (?_ : V X 2 [some (.ref 75), some (.int p1)] [.int 0, .int p1] μ)
  refine v_aload_n hX dX9_isRoom_2 rfl (?_ : V X 3 [some (.ref 75), some (.int p1)] [.ref 75, .int 0, .int p1] μ)
  refine v_getr hX (77) fk_X9_13 sh_75 rfl rfl dX9_isRoom_3 (?_ : V X 6 [some (.ref 75), some (.int p1)] [.ref 77, .int 0, .int p1] μ)
  refine v_iconst hX 0 dX9_isRoom_6 rfl (?_ : V X 7 [some (.ref 75), some (.int p1)] [.int 0, .ref 77, .int 0, .int p1] μ)
  refine w_iald hX 0 sh_77 (vp_lit (by decide)) (by decide) dX9_isRoom_7 (?_ : V X 8 [some (.ref 75), some (.int p1)] [.int (gi μ 77 0), .int 0, .int p1] μ)
  refine v_iconst hX 1 dX9_isRoom_8 rfl (?_ : V X 9 [some (.ref 75), some (.int p1)] [.int 1, .int (gi μ 77 0), .int 0, .int p1] μ)
  refine v_isub hX dX9_isRoom_9 (?_ : V X 10 [some (.ref 75), some (.int p1)] [.int ((gi μ 77 0) - 1), .int 0, .int p1] μ)
  refine v_callS hX sp_X9_in ck_X9_in mk_X9_78 sk_X9_in (by decide) [.int p1, .int 0, .int ((gi μ 77 0) - 1)] [] rfl rfl (Nat.le_of_ble_eq_true rfl) dX9_isRoom_10 ⟨p1, 0, ((gi μ 77 0) - 1), rfl, h.1, fun x1 μ2 hp3 => (?_ : V X 13 [some (.ref 75), some (.int p1)] [.int x1] μ2)⟩
  replace h := h.2 x1 μ2 hp3
  exact v_zret hO dX9_isRoom_13 h.1 (hR _ _ h.2)
set_option maxRecDepth 20000 in
set_option maxHeartbeats 4000000 in
theorem vp_X9_isRoom_0 (p1 : Int32)  (μ : Mem) (hpre : pre_X9_isRoom p1 μ) : vc_X9_isRoom_0 p1 μ (post_X9_isRoom p1 μ)  := by
  simp only [vc_X9_isRoom_0, pre_X9_in, post_X9_in, and_imp, call_eq, forall_eq, forall_const, true_and, and_true]
  have hb := hpre.2
  unfold post_X9_isRoom
  have e : (p1 < 0 ∨ gi μ 77 0 - 1 < p1) ↔ (p1 < 0 ∨ gi μ 77 0 ≤ p1) := by
    rw [hpre.1]; exact in_pred (by omega) p1
  rcases Classical.em (p1 < 0 ∨ gi μ 77 0 ≤ p1) with c | c
  · rw [if_pos c, if_pos (e.mpr c)]; simp
  · rw [if_neg c, if_neg (fun q => c (e.mp q))]; simp
theorem sp_X9_isRoom : Sp yX9_isRoom cX9_isRoom 2 (some .boolean) 1 S_X9_isRoom := by
  refine sp_of (by decide) (fun av μ P h => ?_) ?_
  · obtain ⟨p1, rfl, -⟩ := h
    refine ⟨Nat.le_of_ble_eq_true rfl, fun v hv => ?_⟩
    simp only [List.mem_cons, List.not_mem_nil, or_false] at hv
    rcases hv with rfl | rfl <;> rfl
  · rintro X P hO _ μ ⟨p1, rfl, hpre, hpost⟩ hn
    exact wk_X9_isRoom_0 hO hn p1  μ hpost (vp_X9_isRoom_0 p1  μ hpre)
def S_X9_isDoing : Tr := fun av μ P => ∃ (p1 : Int32), av = [.ref 75, .int p1] ∧ pre_X9_isDoing p1 μ ∧ ∀ (x : Int32) (m : Mem), post_X9_isDoing p1 μ x m → P (some (.int x)) m
def vc_X9_isDoing_0 (p1 : Int32)  (μ : Mem) (R : Int32 → Mem → Prop)  : Prop :=
  (pre_X9_in p1 0 ((gi μ 77 1) - 1) μ ∧ ∀ (x1 : Int32) (μ2 : Mem), post_X9_in p1 0 ((gi μ 77 1) - 1) μ x1 μ2 → (x1 = 0 ∨ x1 = 1) ∧ R x1 μ2)
set_option maxRecDepth 20000 in
set_option maxHeartbeats 4000000 in
theorem wk_X9_isDoing_0 {X : XT} {P : Post} (hO : OkM X cX9_isDoing RX9 1 (some .boolean) P) (hn : xn X = 2) (p1 : Int32)   (μ : Mem) {R : Int32 → Mem → Prop} (hR : ∀ x m, R x m → P (some (.int x)) m)    (h : vc_X9_isDoing_0 p1  μ R ) : V X 0 [some (.ref 75), some (.int p1)] [] μ := by
  have hX := hO.1
  unfold vc_X9_isDoing_0 at h
  refine v_iload_n hX dX9_isDoing_0 rfl (?_ : V X 1 [some (.ref 75), some (.int p1)] [.int p1] μ)
  refine v_iconst hX 0 dX9_isDoing_1 rfl (?_ : V X 2 [some (.ref 75), some (.int p1)] [.int 0, .int p1] μ)
  refine v_aload_n hX dX9_isDoing_2 rfl (?_ : V X 3 [some (.ref 75), some (.int p1)] [.ref 75, .int 0, .int p1] μ)
  refine v_getr hX (77) fk_X9_13 sh_75 rfl rfl dX9_isDoing_3 (?_ : V X 6 [some (.ref 75), some (.int p1)] [.ref 77, .int 0, .int p1] μ)
  refine v_iconst hX 1 dX9_isDoing_6 rfl (?_ : V X 7 [some (.ref 75), some (.int p1)] [.int 1, .ref 77, .int 0, .int p1] μ)
  refine w_iald hX 1 sh_77 (vp_lit (by decide)) (by decide) dX9_isDoing_7 (?_ : V X 8 [some (.ref 75), some (.int p1)] [.int (gi μ 77 1), .int 0, .int p1] μ)
  refine v_iconst hX 1 dX9_isDoing_8 rfl (?_ : V X 9 [some (.ref 75), some (.int p1)] [.int 1, .int (gi μ 77 1), .int 0, .int p1] μ)
  refine v_isub hX dX9_isDoing_9 (?_ : V X 10 [some (.ref 75), some (.int p1)] [.int ((gi μ 77 1) - 1), .int 0, .int p1] μ)
  refine v_callS hX sp_X9_in ck_X9_in mk_X9_78 sk_X9_in (by decide) [.int p1, .int 0, .int ((gi μ 77 1) - 1)] [] rfl rfl (Nat.le_of_ble_eq_true rfl) dX9_isDoing_10 ⟨p1, 0, ((gi μ 77 1) - 1), rfl, h.1, fun x1 μ2 hp3 => (?_ : V X 13 [some (.ref 75), some (.int p1)] [.int x1] μ2)⟩
  replace h := h.2 x1 μ2 hp3
  exact v_zret hO dX9_isDoing_13 h.1 (hR _ _ h.2)
set_option maxRecDepth 20000 in
set_option maxHeartbeats 4000000 in
theorem vp_X9_isDoing_0 (p1 : Int32)  (μ : Mem) (hpre : pre_X9_isDoing p1 μ) : vc_X9_isDoing_0 p1 μ (post_X9_isDoing p1 μ)  := by
  simp only [vc_X9_isDoing_0, pre_X9_in, post_X9_in, and_imp, call_eq, forall_eq, forall_const, true_and, and_true]
  have hb := hpre.2
  unfold post_X9_isDoing
  have e : (p1 < 0 ∨ gi μ 77 1 - 1 < p1) ↔ (p1 < 0 ∨ gi μ 77 1 ≤ p1) := by
    rw [hpre.1]; exact in_pred (by omega) p1
  rcases Classical.em (p1 < 0 ∨ gi μ 77 1 ≤ p1) with c | c
  · rw [if_pos c, if_pos (e.mpr c)]; simp
  · rw [if_neg c, if_neg (fun q => c (e.mp q))]; simp
theorem sp_X9_isDoing : Sp yX9_isDoing cX9_isDoing 2 (some .boolean) 1 S_X9_isDoing := by
  refine sp_of (by decide) (fun av μ P h => ?_) ?_
  · obtain ⟨p1, rfl, -⟩ := h
    refine ⟨Nat.le_of_ble_eq_true rfl, fun v hv => ?_⟩
    simp only [List.mem_cons, List.not_mem_nil, or_false] at hv
    rcases hv with rfl | rfl <;> rfl
  · rintro X P hO _ μ ⟨p1, rfl, hpre, hpost⟩ hn
    exact wk_X9_isDoing_0 hO hn p1  μ hpost (vp_X9_isDoing_0 p1  μ hpre)
def S_X9_isSolved : Tr := fun av μ P => ∃ (p1 : Int32), av = [.ref 75, .int p1] ∧ pre_X9_isSolved p1 μ ∧ ∀ (x : Int32) (m : Mem), post_X9_isSolved p1 μ x m → P (some (.int x)) m
def vc_X9_isSolved_0 (p1 : Int32)  (μ : Mem) (R : Int32 → Mem → Prop)  : Prop :=
  ((¬ (((gi μ 84 3) >>> (p1 &&& 31)) &&& 1) = 1 → R 0 μ) ∧ ((((gi μ 84 3) >>> (p1 &&& 31)) &&& 1) = 1 → R 1 μ))
set_option maxRecDepth 20000 in
set_option maxHeartbeats 4000000 in
theorem wk_X9_isSolved_0 {X : XT} {P : Post} (hO : OkM X cX9_isSolved RX9 0 (some .boolean) P) (hn : xn X = 2) (p1 : Int32)   (μ : Mem) {R : Int32 → Mem → Prop} (hR : ∀ x m, R x m → P (some (.int x)) m)    (h : vc_X9_isSolved_0 p1  μ R ) : V X 0 [some (.ref 75), some (.int p1)] [] μ := by
  have hX := hO.1
  unfold vc_X9_isSolved_0 at h
  refine v_aload_n hX dX9_isSolved_0 rfl (?_ : V X 1 [some (.ref 75), some (.int p1)] [.ref 75] μ)
  refine v_getr hX (84) fk_X9_34 sh_75 rfl rfl dX9_isSolved_1 (?_ : V X 4 [some (.ref 75), some (.int p1)] [.ref 84] μ)
  refine v_iconst hX 3 dX9_isSolved_4 rfl (?_ : V X 5 [some (.ref 75), some (.int p1)] [.int 3, .ref 84] μ)
  refine w_iald hX 3 sh_84 (vp_lit (by decide)) (by decide) dX9_isSolved_5 (?_ : V X 6 [some (.ref 75), some (.int p1)] [.int (gi μ 84 3)] μ)
  refine v_iload_n hX dX9_isSolved_6 rfl (?_ : V X 7 [some (.ref 75), some (.int p1)] [.int p1, .int (gi μ 84 3)] μ)
  refine v_ishr hX dX9_isSolved_7 (?_ : V X 8 [some (.ref 75), some (.int p1)] [.int ((gi μ 84 3) >>> (p1 &&& 31))] μ)
  refine v_iconst hX 1 dX9_isSolved_8 rfl (?_ : V X 9 [some (.ref 75), some (.int p1)] [.int 1, .int ((gi μ 84 3) >>> (p1 &&& 31))] μ)
  refine v_iand hX dX9_isSolved_9 (?_ : V X 10 [some (.ref 75), some (.int p1)] [.int (((gi μ 84 3) >>> (p1 &&& 31)) &&& 1)] μ)
  refine v_iconst hX 1 dX9_isSolved_10 rfl (?_ : V X 11 [some (.ref 75), some (.int p1)] [.int 1, .int (((gi μ 84 3) >>> (p1 &&& 31)) &&& 1)] μ)
  refine v_icmp_ne hX 18 dX9_isSolved_11 rfl (fun c1 => ?_) (fun c1 => ?_)
  · replace h := h.1 c1
    refine v_iconst hX 0 dX9_isSolved_18 rfl (?_ : V X 19 [some (.ref 75), some (.int p1)] [.int 0] μ)
    exact v_zret hO dX9_isSolved_19 (by decide) (hR _ _ h)
  · replace h := h.2 c1
    refine v_iconst hX 1 dX9_isSolved_14 rfl (?_ : V X 15 [some (.ref 75), some (.int p1)] [.int 1] μ)
    refine v_goto hX 19 dX9_isSolved_15 rfl (?_ : V X 19 [some (.ref 75), some (.int p1)] [.int 1] μ)
    exact v_zret hO dX9_isSolved_19 (by decide) (hR _ _ h)
set_option maxRecDepth 20000 in
set_option maxHeartbeats 4000000 in
theorem vp_X9_isSolved_0 (p1 : Int32)  (μ : Mem) (hpre : pre_X9_isSolved p1 μ) : vc_X9_isSolved_0 p1 μ (post_X9_isSolved p1 μ)  := by
  simp only [vc_X9_isSolved_0, and_imp, call_eq, forall_eq, forall_const, true_and, and_true]
  unfold post_X9_isSolved slvI; grind
theorem sp_X9_isSolved : Sp yX9_isSolved cX9_isSolved 2 (some .boolean) 0 S_X9_isSolved := by
  refine sp_of (by decide) (fun av μ P h => ?_) ?_
  · obtain ⟨p1, rfl, -⟩ := h
    refine ⟨Nat.le_of_ble_eq_true rfl, fun v hv => ?_⟩
    simp only [List.mem_cons, List.not_mem_nil, or_false] at hv
    rcases hv with rfl | rfl <;> rfl
  · rintro X P hO _ μ ⟨p1, rfl, hpre, hpost⟩ hn
    exact wk_X9_isSolved_0 hO hn p1  μ hpost (vp_X9_isSolved_0 p1  μ hpre)
def S_X9_earned : Tr := fun av μ P => av = [.ref 75] ∧ pre_X9_earned  μ ∧ ∀ (x : Int32) (m : Mem), post_X9_earned  μ x m → P (some (.int x)) m
def vc_X9_earned_0   (μ : Mem) (R : Int32 → Mem → Prop) (J4 : Int32 → Int32 → Mem → Prop) : Prop :=
  J4 0 0 μ
set_option maxRecDepth 20000 in
set_option maxHeartbeats 4000000 in
theorem wk_X9_earned_0 {X : XT} {P : Post} (hO : OkM X cX9_earned RX9 1 (some .int) P) (hn : xn X = 3)    (μ : Mem) {R : Int32 → Mem → Prop} (hR : ∀ x m, R x m → P (some (.int x)) m) {J4 : Int32 → Int32 → Mem → Prop} (hJ4 : ∀ (l1 : Int32) (l2 : Int32) (m : Mem), J4 l1 l2 m → V X 4 [some (.ref 75), some (.int l1), some (.int l2)] [] m)  (h : vc_X9_earned_0   μ R J4) : V X 0 [some (.ref 75), none, none] [] μ := by
  have hX := hO.1
  unfold vc_X9_earned_0 at h
  refine v_iconst hX 0 dX9_earned_0 rfl (?_ : V X 1 [some (.ref 75), none, none] [.int 0] μ)
  refine v_istore_n hX dX9_earned_1 (by rw [hn]; decide) (?_ : V X 2 [some (.ref 75), some (.int 0), none] [] μ)
  refine v_iconst hX 0 dX9_earned_2 rfl (?_ : V X 3 [some (.ref 75), some (.int 0), none] [.int 0] μ)
  refine v_istore_n hX dX9_earned_3 (by rw [hn]; decide) (?_ : V X 4 [some (.ref 75), some (.int 0), some (.int 0)] [] μ)
  exact v_mask [true, true, true] (hJ4 _ _ _ h)
def vc_X9_earned_4  (l1 : Int32) (l2 : Int32) (μ : Mem) (R : Int32 → Mem → Prop) (J4 : Int32 → Int32 → Mem → Prop) : Prop :=
  (((gi μ 77 0) ≤ l2 → R l1 μ) ∧ (¬ (gi μ 77 0) ≤ l2 → (pre_X9_isSolved l2 μ ∧ ∀ (x2 : Int32) (μ3 : Mem), post_X9_isSolved l2 μ x2 μ3 → ((x2 = 0 → J4 (l1 + 0) (l2 + 1) μ3) ∧ (¬ x2 = 0 → vp_in l2 10 ∧ J4 (l1 + (gi μ3 80 (Int32.toNatClampNeg l2))) (l2 + 1) μ3)))))
set_option maxRecDepth 20000 in
set_option maxHeartbeats 4000000 in
theorem wk_X9_earned_4 {X : XT} {P : Post} (hO : OkM X cX9_earned RX9 1 (some .int) P) (hn : xn X = 3)   (l1 : Int32) (l2 : Int32) (μ : Mem) {R : Int32 → Mem → Prop} (hR : ∀ x m, R x m → P (some (.int x)) m) {J4 : Int32 → Int32 → Mem → Prop} (hJ4 : ∀ (l1 : Int32) (l2 : Int32) (m : Mem), J4 l1 l2 m → V X 4 [some (.ref 75), some (.int l1), some (.int l2)] [] m)  (h : vc_X9_earned_4  l1 l2 μ R J4) : V X 4 [some (.ref 75), some (.int l1), some (.int l2)] [] μ := by
  have hX := hO.1
  unfold vc_X9_earned_4 at h
  refine v_iload_n hX dX9_earned_4 rfl (?_ : V X 5 [some (.ref 75), some (.int l1), some (.int l2)] [.int l2] μ)
  refine v_aload_n hX dX9_earned_5 rfl (?_ : V X 6 [some (.ref 75), some (.int l1), some (.int l2)] [.ref 75, .int l2] μ)
  refine v_getr hX (77) fk_X9_13 sh_75 rfl rfl dX9_earned_6 (?_ : V X 9 [some (.ref 75), some (.int l1), some (.int l2)] [.ref 77, .int l2] μ)
  refine v_iconst hX 0 dX9_earned_9 rfl (?_ : V X 10 [some (.ref 75), some (.int l1), some (.int l2)] [.int 0, .ref 77, .int l2] μ)
  refine w_iald hX 0 sh_77 (vp_lit (by decide)) (by decide) dX9_earned_10 (?_ : V X 11 [some (.ref 75), some (.int l1), some (.int l2)] [.int (gi μ 77 0), .int l2] μ)
  refine v_icmp_ge hX 41 dX9_earned_11 rfl (fun c1 => ?_) (fun c1 => ?_)
  · replace h := h.1 c1
    refine v_iload_n hX dX9_earned_41 rfl (?_ : V X 42 [some (.ref 75), some (.int l1), some (.int l2)] [.int l1] μ)
    exact v_iret hO dX9_earned_42 (hR _ _ h)
  · replace h := h.2 c1
    refine v_iload_n hX dX9_earned_14 rfl (?_ : V X 15 [some (.ref 75), some (.int l1), some (.int l2)] [.int l1] μ)
    refine v_aload_n hX dX9_earned_15 rfl (?_ : V X 16 [some (.ref 75), some (.int l1), some (.int l2)] [.ref 75, .int l1] μ)
    refine v_iload_n hX dX9_earned_16 rfl (?_ : V X 17 [some (.ref 75), some (.int l1), some (.int l2)] [.int l2, .ref 75, .int l1] μ)
    refine v_callV hX sp_X9_isSolved ck_X9_isSolved mk_X9_146 mv_X9_isSolved sh_75 (by decide) (by decide) [.int l2] [.int l1] rfl rfl (Nat.le_of_ble_eq_true rfl) dX9_earned_17 ⟨l2, rfl, h.1, fun x2 μ3 hp4 => (?_ : V X 20 [some (.ref 75), some (.int l1), some (.int l2)] [.int x2, .int l1] μ3)⟩
    replace h := h.2 x2 μ3 hp4
    refine v_if_eq hX 32 dX9_earned_20 rfl (fun c5 => ?_) (fun c5 => ?_)
    · replace h := h.1 c5
      refine v_iconst hX 0 dX9_earned_32 rfl (?_ : V X 33 [some (.ref 75), some (.int l1), some (.int l2)] [.int 0, .int l1] μ3)
      refine v_iadd hX dX9_earned_33 (?_ : V X 34 [some (.ref 75), some (.int l1), some (.int l2)] [.int (l1 + 0)] μ3)
      refine v_istore_n hX dX9_earned_34 (by rw [hn]; decide) (?_ : V X 35 [some (.ref 75), some (.int (l1 + 0)), some (.int l2)] [] μ3)
      refine v_iinc hX 1 dX9_earned_35 (by rw [hn]; decide) rfl rfl (?_ : V X 38 [some (.ref 75), some (.int (l1 + 0)), some (.int (l2 + 1))] [] μ3)
      refine v_goto hX 4 dX9_earned_38 rfl (?_ : V X 4 [some (.ref 75), some (.int (l1 + 0)), some (.int (l2 + 1))] [] μ3)
      exact v_mask [true, true, true] (hJ4 _ _ _ h)
    · replace h := h.2 c5
      refine v_aload_n hX dX9_earned_23 rfl (?_ : V X 24 [some (.ref 75), some (.int l1), some (.int l2)] [.ref 75, .int l1] μ3)
      refine v_getr hX (80) fk_X9_22 sh_75 rfl rfl dX9_earned_24 (?_ : V X 27 [some (.ref 75), some (.int l1), some (.int l2)] [.ref 80, .int l1] μ3)
      refine v_iload_n hX dX9_earned_27 rfl (?_ : V X 28 [some (.ref 75), some (.int l1), some (.int l2)] [.int l2, .ref 80, .int l1] μ3)
      have hb6 := h.1
      replace h := h.2
      refine w_iald hX (Int32.toNatClampNeg l2) sh_80 hb6 rfl dX9_earned_28 (?_ : V X 29 [some (.ref 75), some (.int l1), some (.int l2)] [.int (gi μ3 80 (Int32.toNatClampNeg l2)), .int l1] μ3)
      refine v_goto hX 33 dX9_earned_29 rfl (?_ : V X 33 [some (.ref 75), some (.int l1), some (.int l2)] [.int (gi μ3 80 (Int32.toNatClampNeg l2)), .int l1] μ3)
      refine v_iadd hX dX9_earned_33 (?_ : V X 34 [some (.ref 75), some (.int l1), some (.int l2)] [.int (l1 + (gi μ3 80 (Int32.toNatClampNeg l2)))] μ3)
      refine v_istore_n hX dX9_earned_34 (by rw [hn]; decide) (?_ : V X 35 [some (.ref 75), some (.int (l1 + (gi μ3 80 (Int32.toNatClampNeg l2)))), some (.int l2)] [] μ3)
      refine v_iinc hX 1 dX9_earned_35 (by rw [hn]; decide) rfl rfl (?_ : V X 38 [some (.ref 75), some (.int (l1 + (gi μ3 80 (Int32.toNatClampNeg l2)))), some (.int (l2 + 1))] [] μ3)
      refine v_goto hX 4 dX9_earned_38 rfl (?_ : V X 4 [some (.ref 75), some (.int (l1 + (gi μ3 80 (Int32.toNatClampNeg l2)))), some (.int (l2 + 1))] [] μ3)
      exact v_mask [true, true, true] (hJ4 _ _ _ h)
set_option maxRecDepth 20000 in
set_option maxHeartbeats 4000000 in
theorem vp_X9_earned_0   (μ : Mem) (hpre : pre_X9_earned  μ) : vc_X9_earned_0  μ (post_X9_earned  μ) (fun l1 l2 m => ∃ k : Nat, inv_X9_earned_4  μ k l1 l2 m) := by
  simp only [vc_X9_earned_0, pre_X9_isSolved, post_X9_isSolved, and_imp, call_eq, forall_eq, forall_const, true_and, and_true]
  exact ⟨gn μ 77 0, 0, Nat.zero_le _, rfl, rfl, rfl, rfl⟩
set_option maxRecDepth 20000 in
set_option maxHeartbeats 4000000 in
theorem vp_X9_earned_4   (μ : Mem) (hpre : pre_X9_earned  μ) (n : Nat) (l1 : Int32) (l2 : Int32) (μ0 : Mem) (hi : inv_X9_earned_4  μ n l1 l2 μ0) : vc_X9_earned_4  l1 l2 μ0 (post_X9_earned  μ) (fun l1 l2 m => ∃ k : Nat, k < n ∧ inv_X9_earned_4  μ k l1 l2 m) := by
  simp only [vc_X9_earned_4, pre_X9_isSolved, post_X9_isSolved, and_imp, call_eq, forall_eq, forall_const, true_and, and_true]
  unfold post_X9_earned
  unfold pre_X9_earned at hpre
  obtain ⟨i, hi1, rfl, rfl, rfl, rfl⟩ := hi
  have hb := hpre.2
  rw [isN_le hpre (by omega) (by omega), nI_clamp (by omega)]
  refine ⟨fun c => ?_, fun c => ?_⟩
  · have : i = gn μ0 77 0 := by omega
    subst this
    exact ⟨rfl, rfl⟩
  · refine ⟨fun c2 => ⟨gn μ0 77 0 - (i + 1), by omega, i + 1, by omega, rfl, nI_1 i, ?_, rfl⟩, fun c2 => ⟨vp_in_nI (by omega) (by omega), gn μ0 77 0 - (i + 1), by omega, i + 1, by omega, rfl, nI_1 i, ?_, rfl⟩⟩
    · simp only [sumI]; split at c2 <;> simp_all
    · simp only [sumI]; split at c2 <;> simp_all
theorem sp_X9_earned : Sp yX9_earned cX9_earned 3 (some .int) 1 S_X9_earned := by
  refine sp_of (by decide) (fun av μ P h => ?_) ?_
  · obtain ⟨rfl, -⟩ := h
    refine ⟨Nat.le_of_ble_eq_true rfl, fun v hv => ?_⟩
    simp only [List.mem_cons, List.not_mem_nil, or_false] at hv
    subst hv; rfl
  · rintro X P hO _ μ ⟨rfl, hpre, hpost⟩ hn
    have hJ : ∀ n : Nat, (∀ (l1 : Int32) (l2 : Int32) (m : Mem), inv_X9_earned_4  μ n l1 l2 m → V X 4 [some (.ref 75), some (.int l1), some (.int l2)] [] m) := by
      intro n
      induction n using Nat.strongRecOn with
      | _ n ih =>
        exact fun l1 l2 m hi => wk_X9_earned_4 (J4 := (fun l1 l2 m => ∃ k : Nat, k < n ∧ inv_X9_earned_4  μ k l1 l2 m)) hO hn   l1 l2 m hpost (fun l1 l2 m hk => by obtain ⟨k, hk, hi⟩ := hk; exact (ih k hk) l1 l2 m hi) (vp_X9_earned_4   μ hpre n l1 l2 m hi)
    exact wk_X9_earned_0 (J4 := (fun l1 l2 m => ∃ k : Nat, inv_X9_earned_4  μ k l1 l2 m)) hO hn   μ hpost (fun l1 l2 m hk => by obtain ⟨k, hi⟩ := hk; exact (hJ k) l1 l2 m hi) (vp_X9_earned_0   μ hpre)
def S_X9_left : Tr := fun av μ P => av = [.ref 75] ∧ pre_X9_left  μ ∧ ∀ (x : Int32) (m : Mem), post_X9_left  μ x m → P (some (.int x)) m
def vc_X9_left_0   (μ : Mem) (R : Int32 → Mem → Prop) (J4 : Int32 → Int32 → Mem → Prop) : Prop :=
  J4 0 0 μ
set_option maxRecDepth 20000 in
set_option maxHeartbeats 4000000 in
theorem wk_X9_left_0 {X : XT} {P : Post} (hO : OkM X cX9_left RX9 0 (some .int) P) (hn : xn X = 3)    (μ : Mem) {R : Int32 → Mem → Prop} (hR : ∀ x m, R x m → P (some (.int x)) m) {J4 : Int32 → Int32 → Mem → Prop} (hJ4 : ∀ (l1 : Int32) (l2 : Int32) (m : Mem), J4 l1 l2 m → V X 4 [some (.ref 75), some (.int l1), some (.int l2)] [] m)  (h : vc_X9_left_0   μ R J4) : V X 0 [some (.ref 75), none, none] [] μ := by
  have hX := hO.1
  unfold vc_X9_left_0 at h
  refine v_iconst hX 0 dX9_left_0 rfl (?_ : V X 1 [some (.ref 75), none, none] [.int 0] μ)
  refine v_istore_n hX dX9_left_1 (by rw [hn]; decide) (?_ : V X 2 [some (.ref 75), some (.int 0), none] [] μ)
  refine v_iconst hX 0 dX9_left_2 rfl (?_ : V X 3 [some (.ref 75), some (.int 0), none] [.int 0] μ)
  refine v_istore_n hX dX9_left_3 (by rw [hn]; decide) (?_ : V X 4 [some (.ref 75), some (.int 0), some (.int 0)] [] μ)
  exact v_mask [true, true, true] (hJ4 _ _ _ h)
def vc_X9_left_4  (l1 : Int32) (l2 : Int32) (μ : Mem) (R : Int32 → Mem → Prop) (J4 : Int32 → Int32 → Mem → Prop) : Prop :=
  (((gi μ 77 2) ≤ l2 → R l1 μ) ∧ (¬ (gi μ 77 2) ≤ l2 → vp_in l2 12 ∧ vp_in (gi μ 77 3) 12 ∧ ((¬ (((gi μ 83 (Int32.toNatClampNeg l2)) ^^^ (gi μ 83 (Int32.toNatClampNeg (gi μ 77 3)))) &&& (gi μ 84 4)) = 0 → J4 (l1 ||| 0) (l2 + 1) μ) ∧ ((((gi μ 83 (Int32.toNatClampNeg l2)) ^^^ (gi μ 83 (Int32.toNatClampNeg (gi μ 77 3)))) &&& (gi μ 84 4)) = 0 → J4 (l1 ||| (1 <<< (l2 &&& 31))) (l2 + 1) μ))))
set_option maxRecDepth 20000 in
set_option maxHeartbeats 4000000 in
theorem wk_X9_left_4 {X : XT} {P : Post} (hO : OkM X cX9_left RX9 0 (some .int) P) (hn : xn X = 3)   (l1 : Int32) (l2 : Int32) (μ : Mem) {R : Int32 → Mem → Prop} (hR : ∀ x m, R x m → P (some (.int x)) m) {J4 : Int32 → Int32 → Mem → Prop} (hJ4 : ∀ (l1 : Int32) (l2 : Int32) (m : Mem), J4 l1 l2 m → V X 4 [some (.ref 75), some (.int l1), some (.int l2)] [] m)  (h : vc_X9_left_4  l1 l2 μ R J4) : V X 4 [some (.ref 75), some (.int l1), some (.int l2)] [] μ := by
  have hX := hO.1
  unfold vc_X9_left_4 at h
  refine v_iload_n hX dX9_left_4 rfl (?_ : V X 5 [some (.ref 75), some (.int l1), some (.int l2)] [.int l2] μ)
  refine v_aload_n hX dX9_left_5 rfl (?_ : V X 6 [some (.ref 75), some (.int l1), some (.int l2)] [.ref 75, .int l2] μ)
  refine v_getr hX (77) fk_X9_13 sh_75 rfl rfl dX9_left_6 (?_ : V X 9 [some (.ref 75), some (.int l1), some (.int l2)] [.ref 77, .int l2] μ)
  refine v_iconst hX 2 dX9_left_9 rfl (?_ : V X 10 [some (.ref 75), some (.int l1), some (.int l2)] [.int 2, .ref 77, .int l2] μ)
  refine w_iald hX 2 sh_77 (vp_lit (by decide)) (by decide) dX9_left_10 (?_ : V X 11 [some (.ref 75), some (.int l1), some (.int l2)] [.int (gi μ 77 2), .int l2] μ)
  refine v_icmp_ge hX 58 dX9_left_11 rfl (fun c1 => ?_) (fun c1 => ?_)
  · replace h := h.1 c1
    refine v_iload_n hX dX9_left_58 rfl (?_ : V X 59 [some (.ref 75), some (.int l1), some (.int l2)] [.int l1] μ)
    exact v_iret hO dX9_left_59 (hR _ _ h)
  · replace h := h.2 c1
    refine v_iload_n hX dX9_left_14 rfl (?_ : V X 15 [some (.ref 75), some (.int l1), some (.int l2)] [.int l1] μ)
    refine v_aload_n hX dX9_left_15 rfl (?_ : V X 16 [some (.ref 75), some (.int l1), some (.int l2)] [.ref 75, .int l1] μ)
    refine v_getr hX (83) fk_X9_31 sh_75 rfl rfl dX9_left_16 (?_ : V X 19 [some (.ref 75), some (.int l1), some (.int l2)] [.ref 83, .int l1] μ)
    refine v_iload_n hX dX9_left_19 rfl (?_ : V X 20 [some (.ref 75), some (.int l1), some (.int l2)] [.int l2, .ref 83, .int l1] μ)
    have hb2 := h.1
    replace h := h.2
    refine w_iald hX (Int32.toNatClampNeg l2) sh_83 hb2 rfl dX9_left_20 (?_ : V X 21 [some (.ref 75), some (.int l1), some (.int l2)] [.int (gi μ 83 (Int32.toNatClampNeg l2)), .int l1] μ)
    refine v_aload_n hX dX9_left_21 rfl (?_ : V X 22 [some (.ref 75), some (.int l1), some (.int l2)] [.ref 75, .int (gi μ 83 (Int32.toNatClampNeg l2)), .int l1] μ)
    refine v_getr hX (83) fk_X9_31 sh_75 rfl rfl dX9_left_22 (?_ : V X 25 [some (.ref 75), some (.int l1), some (.int l2)] [.ref 83, .int (gi μ 83 (Int32.toNatClampNeg l2)), .int l1] μ)
    refine v_aload_n hX dX9_left_25 rfl (?_ : V X 26 [some (.ref 75), some (.int l1), some (.int l2)] [.ref 75, .ref 83, .int (gi μ 83 (Int32.toNatClampNeg l2)), .int l1] μ)
    refine v_getr hX (77) fk_X9_13 sh_75 rfl rfl dX9_left_26 (?_ : V X 29 [some (.ref 75), some (.int l1), some (.int l2)] [.ref 77, .ref 83, .int (gi μ 83 (Int32.toNatClampNeg l2)), .int l1] μ)
    refine v_iconst hX 3 dX9_left_29 rfl (?_ : V X 30 [some (.ref 75), some (.int l1), some (.int l2)] [.int 3, .ref 77, .ref 83, .int (gi μ 83 (Int32.toNatClampNeg l2)), .int l1] μ)
    refine w_iald hX 3 sh_77 (vp_lit (by decide)) (by decide) dX9_left_30 (?_ : V X 31 [some (.ref 75), some (.int l1), some (.int l2)] [.int (gi μ 77 3), .ref 83, .int (gi μ 83 (Int32.toNatClampNeg l2)), .int l1] μ)
    have hb3 := h.1
    replace h := h.2
    refine w_iald hX (Int32.toNatClampNeg (gi μ 77 3)) sh_83 hb3 rfl dX9_left_31 (?_ : V X 32 [some (.ref 75), some (.int l1), some (.int l2)] [.int (gi μ 83 (Int32.toNatClampNeg (gi μ 77 3))), .int (gi μ 83 (Int32.toNatClampNeg l2)), .int l1] μ)
    refine v_ixor hX dX9_left_32 (?_ : V X 33 [some (.ref 75), some (.int l1), some (.int l2)] [.int ((gi μ 83 (Int32.toNatClampNeg l2)) ^^^ (gi μ 83 (Int32.toNatClampNeg (gi μ 77 3)))), .int l1] μ)
    refine v_aload_n hX dX9_left_33 rfl (?_ : V X 34 [some (.ref 75), some (.int l1), some (.int l2)] [.ref 75, .int ((gi μ 83 (Int32.toNatClampNeg l2)) ^^^ (gi μ 83 (Int32.toNatClampNeg (gi μ 77 3)))), .int l1] μ)
    refine v_getr hX (84) fk_X9_34 sh_75 rfl rfl dX9_left_34 (?_ : V X 37 [some (.ref 75), some (.int l1), some (.int l2)] [.ref 84, .int ((gi μ 83 (Int32.toNatClampNeg l2)) ^^^ (gi μ 83 (Int32.toNatClampNeg (gi μ 77 3)))), .int l1] μ)
    refine v_iconst hX 4 dX9_left_37 rfl (?_ : V X 38 [some (.ref 75), some (.int l1), some (.int l2)] [.int 4, .ref 84, .int ((gi μ 83 (Int32.toNatClampNeg l2)) ^^^ (gi μ 83 (Int32.toNatClampNeg (gi μ 77 3)))), .int l1] μ)
    refine w_iald hX 4 sh_84 (vp_lit (by decide)) (by decide) dX9_left_38 (?_ : V X 39 [some (.ref 75), some (.int l1), some (.int l2)] [.int (gi μ 84 4), .int ((gi μ 83 (Int32.toNatClampNeg l2)) ^^^ (gi μ 83 (Int32.toNatClampNeg (gi μ 77 3)))), .int l1] μ)
    refine v_iand hX dX9_left_39 (?_ : V X 40 [some (.ref 75), some (.int l1), some (.int l2)] [.int (((gi μ 83 (Int32.toNatClampNeg l2)) ^^^ (gi μ 83 (Int32.toNatClampNeg (gi μ 77 3)))) &&& (gi μ 84 4)), .int l1] μ)
    refine v_if_ne hX 49 dX9_left_40 rfl (fun c4 => ?_) (fun c4 => ?_)
    · replace h := h.1 c4
      refine v_iconst hX 0 dX9_left_49 rfl (?_ : V X 50 [some (.ref 75), some (.int l1), some (.int l2)] [.int 0, .int l1] μ)
      refine v_ior hX dX9_left_50 (?_ : V X 51 [some (.ref 75), some (.int l1), some (.int l2)] [.int (l1 ||| 0)] μ)
      refine v_istore_n hX dX9_left_51 (by rw [hn]; decide) (?_ : V X 52 [some (.ref 75), some (.int (l1 ||| 0)), some (.int l2)] [] μ)
      refine v_iinc hX 1 dX9_left_52 (by rw [hn]; decide) rfl rfl (?_ : V X 55 [some (.ref 75), some (.int (l1 ||| 0)), some (.int (l2 + 1))] [] μ)
      refine v_goto hX 4 dX9_left_55 rfl (?_ : V X 4 [some (.ref 75), some (.int (l1 ||| 0)), some (.int (l2 + 1))] [] μ)
      exact v_mask [true, true, true] (hJ4 _ _ _ h)
    · replace h := h.2 c4
      refine v_iconst hX 1 dX9_left_43 rfl (?_ : V X 44 [some (.ref 75), some (.int l1), some (.int l2)] [.int 1, .int l1] μ)
      refine v_iload_n hX dX9_left_44 rfl (?_ : V X 45 [some (.ref 75), some (.int l1), some (.int l2)] [.int l2, .int 1, .int l1] μ)
      refine v_ishl hX dX9_left_45 (?_ : V X 46 [some (.ref 75), some (.int l1), some (.int l2)] [.int (1 <<< (l2 &&& 31)), .int l1] μ)
      refine v_goto hX 50 dX9_left_46 rfl (?_ : V X 50 [some (.ref 75), some (.int l1), some (.int l2)] [.int (1 <<< (l2 &&& 31)), .int l1] μ)
      refine v_ior hX dX9_left_50 (?_ : V X 51 [some (.ref 75), some (.int l1), some (.int l2)] [.int (l1 ||| (1 <<< (l2 &&& 31)))] μ)
      refine v_istore_n hX dX9_left_51 (by rw [hn]; decide) (?_ : V X 52 [some (.ref 75), some (.int (l1 ||| (1 <<< (l2 &&& 31)))), some (.int l2)] [] μ)
      refine v_iinc hX 1 dX9_left_52 (by rw [hn]; decide) rfl rfl (?_ : V X 55 [some (.ref 75), some (.int (l1 ||| (1 <<< (l2 &&& 31)))), some (.int (l2 + 1))] [] μ)
      refine v_goto hX 4 dX9_left_55 rfl (?_ : V X 4 [some (.ref 75), some (.int (l1 ||| (1 <<< (l2 &&& 31)))), some (.int (l2 + 1))] [] μ)
      exact v_mask [true, true, true] (hJ4 _ _ _ h)
set_option maxRecDepth 20000 in
set_option maxHeartbeats 4000000 in
theorem vp_X9_left_0   (μ : Mem) (hpre : pre_X9_left  μ) : vc_X9_left_0  μ (post_X9_left  μ) (fun l1 l2 m => ∃ k : Nat, inv_X9_left_4  μ k l1 l2 m) := by
  simp only [vc_X9_left_0, and_imp, call_eq, forall_eq, forall_const, true_and, and_true]
  exact ⟨gn μ 77 2, 0, Nat.zero_le _, rfl, rfl, rfl, rfl⟩
set_option maxRecDepth 20000 in
set_option maxHeartbeats 4000000 in
theorem vp_X9_left_4   (μ : Mem) (hpre : pre_X9_left  μ) (n : Nat) (l1 : Int32) (l2 : Int32) (μ0 : Mem) (hi : inv_X9_left_4  μ n l1 l2 μ0) : vc_X9_left_4  l1 l2 μ0 (post_X9_left  μ) (fun l1 l2 m => ∃ k : Nat, k < n ∧ inv_X9_left_4  μ k l1 l2 m) := by
  simp only [vc_X9_left_4, and_imp, call_eq, forall_eq, forall_const, true_and, and_true]
  obtain ⟨i, hi1, rfl, rfl, rfl, rfl⟩ := hi
  obtain ⟨hp1, hp2⟩ := hpre
  have hb := hp1.2
  have hb2 := hp2.2
  rw [isN_le hp1 (by omega) (by omega), nI_clamp (by omega)]
  refine ⟨fun c => ?_, fun c => ⟨vp_in_nI (by omega) (by omega), isN_in hp2 (by omega) (by omega), fun c2 => ⟨gn μ0 77 2 - (i + 1), by omega, i + 1, by omega, rfl, nI_1 i, ?_, rfl⟩, fun c2 => ⟨gn μ0 77 2 - (i + 1), by omega, i + 1, by omega, rfl, nI_1 i, ?_, rfl⟩⟩⟩
  · have : i = gn μ0 77 2 := by omega
    subst this
    exact ⟨rfl, rfl⟩
  · have c3 : ¬ (gi μ0 83 i ^^^ gi μ0 83 (gn μ0 77 3)) &&& gi μ0 84 4 = 0 := c2
    simp only [orI]
    rw [if_neg c3]
  · have c3 : (gi μ0 83 i ^^^ gi μ0 83 (gn μ0 77 3)) &&& gi μ0 84 4 = 0 := c2
    simp only [orI]
    rw [if_pos c3]
theorem sp_X9_left : Sp yX9_left cX9_left 3 (some .int) 0 S_X9_left := by
  refine sp_of (by decide) (fun av μ P h => ?_) ?_
  · obtain ⟨rfl, -⟩ := h
    refine ⟨Nat.le_of_ble_eq_true rfl, fun v hv => ?_⟩
    simp only [List.mem_cons, List.not_mem_nil, or_false] at hv
    subst hv; rfl
  · rintro X P hO _ μ ⟨rfl, hpre, hpost⟩ hn
    have hJ : ∀ n : Nat, (∀ (l1 : Int32) (l2 : Int32) (m : Mem), inv_X9_left_4  μ n l1 l2 m → V X 4 [some (.ref 75), some (.int l1), some (.int l2)] [] m) := by
      intro n
      induction n using Nat.strongRecOn with
      | _ n ih =>
        exact fun l1 l2 m hi => wk_X9_left_4 (J4 := (fun l1 l2 m => ∃ k : Nat, k < n ∧ inv_X9_left_4  μ k l1 l2 m)) hO hn   l1 l2 m hpost (fun l1 l2 m hk => by obtain ⟨k, hk, hi⟩ := hk; exact (ih k hk) l1 l2 m hi) (vp_X9_left_4   μ hpre n l1 l2 m hi)
    exact wk_X9_left_0 (J4 := (fun l1 l2 m => ∃ k : Nat, inv_X9_left_4  μ k l1 l2 m)) hO hn   μ hpost (fun l1 l2 m hk => by obtain ⟨k, hi⟩ := hk; exact (hJ k) l1 l2 m hi) (vp_X9_left_0   μ hpre)
def S_X9_mayLast : Tr := fun av μ P => ∃ (p1 : Int32), av = [.ref 75, .int p1] ∧ pre_X9_mayLast p1 μ ∧ ∀ (x : Int32) (m : Mem), post_X9_mayLast p1 μ x m → P (some (.int x)) m
def vc_X9_mayLast_0 (p1 : Int32)  (μ : Mem) (R : Int32 → Mem → Prop)  : Prop :=
  ((9999 < ((gi μ 84 2) + p1) → R 0 μ) ∧ (¬ 9999 < ((gi μ 84 2) + p1) → R 1 μ))
set_option maxRecDepth 20000 in
set_option maxHeartbeats 4000000 in
theorem wk_X9_mayLast_0 {X : XT} {P : Post} (hO : OkM X cX9_mayLast RX9 0 (some .boolean) P) (hn : xn X = 2) (p1 : Int32)   (μ : Mem) {R : Int32 → Mem → Prop} (hR : ∀ x m, R x m → P (some (.int x)) m)    (h : vc_X9_mayLast_0 p1  μ R ) : V X 0 [some (.ref 75), some (.int p1)] [] μ := by
  have hX := hO.1
  unfold vc_X9_mayLast_0 at h
  refine v_aload_n hX dX9_mayLast_0 rfl (?_ : V X 1 [some (.ref 75), some (.int p1)] [.ref 75] μ)
  refine v_getr hX (84) fk_X9_34 sh_75 rfl rfl dX9_mayLast_1 (?_ : V X 4 [some (.ref 75), some (.int p1)] [.ref 84] μ)
  refine v_iconst hX 2 dX9_mayLast_4 rfl (?_ : V X 5 [some (.ref 75), some (.int p1)] [.int 2, .ref 84] μ)
  refine w_iald hX 2 sh_84 (vp_lit (by decide)) (by decide) dX9_mayLast_5 (?_ : V X 6 [some (.ref 75), some (.int p1)] [.int (gi μ 84 2)] μ)
  refine v_iload_n hX dX9_mayLast_6 rfl (?_ : V X 7 [some (.ref 75), some (.int p1)] [.int p1, .int (gi μ 84 2)] μ)
  refine v_iadd hX dX9_mayLast_7 (?_ : V X 8 [some (.ref 75), some (.int p1)] [.int ((gi μ 84 2) + p1)] μ)
  refine v_sipush hX 9999 dX9_mayLast_8 rfl (?_ : V X 11 [some (.ref 75), some (.int p1)] [.int 9999, .int ((gi μ 84 2) + p1)] μ)
  refine v_icmp_gt hX 18 dX9_mayLast_11 rfl (fun c1 => ?_) (fun c1 => ?_)
  · replace h := h.1 c1
    refine v_iconst hX 0 dX9_mayLast_18 rfl (?_ : V X 19 [some (.ref 75), some (.int p1)] [.int 0] μ)
    exact v_zret hO dX9_mayLast_19 (by decide) (hR _ _ h)
  · replace h := h.2 c1
    refine v_iconst hX 1 dX9_mayLast_14 rfl (?_ : V X 15 [some (.ref 75), some (.int p1)] [.int 1] μ)
    refine v_goto hX 19 dX9_mayLast_15 rfl (?_ : V X 19 [some (.ref 75), some (.int p1)] [.int 1] μ)
    exact v_zret hO dX9_mayLast_19 (by decide) (hR _ _ h)
set_option maxRecDepth 20000 in
set_option maxHeartbeats 4000000 in
theorem vp_X9_mayLast_0 (p1 : Int32)  (μ : Mem) (hpre : pre_X9_mayLast p1 μ) : vc_X9_mayLast_0 p1 μ (post_X9_mayLast p1 μ)  := by
  simp only [vc_X9_mayLast_0, and_imp, call_eq, forall_eq, forall_const, true_and, and_true]
  unfold post_X9_mayLast; grind
theorem sp_X9_mayLast : Sp yX9_mayLast cX9_mayLast 2 (some .boolean) 0 S_X9_mayLast := by
  refine sp_of (by decide) (fun av μ P h => ?_) ?_
  · obtain ⟨p1, rfl, -⟩ := h
    refine ⟨Nat.le_of_ble_eq_true rfl, fun v hv => ?_⟩
    simp only [List.mem_cons, List.not_mem_nil, or_false] at hv
    rcases hv with rfl | rfl <;> rfl
  · rintro X P hO _ μ ⟨p1, rfl, hpre, hpost⟩ hn
    exact wk_X9_mayLast_0 hO hn p1  μ hpost (vp_X9_mayLast_0 p1  μ hpre)
def S_X9_walk : Tr := fun av μ P => ∃ (p1 : Int32) (p2 : Int32), av = [.ref 75, .int p1, .int p2] ∧ pre_X9_walk p1 p2 μ ∧ ∀ (x : Int32) (m : Mem), post_X9_walk p1 p2 μ x m → P (some (.int x)) m
def vc_X9_walk_0 (p1 : Int32) (p2 : Int32)  (μ : Mem) (R : Int32 → Mem → Prop)  : Prop :=
  ((¬ p1 = 0 → ((p2 ≤ (p1 - 1) → R ((gi μ 77 4) * ((p1 - 1) - p2)) μ) ∧ (¬ p2 ≤ (p1 - 1) → R ((gi μ 77 4) * (p2 - (p1 - 1))) μ))) ∧ (p1 = 0 → ((p2 ≤ 0 → R ((gi μ 77 4) * (0 - p2)) μ) ∧ (¬ p2 ≤ 0 → R ((gi μ 77 4) * (p2 - 0)) μ))))
set_option maxRecDepth 20000 in
set_option maxHeartbeats 4000000 in
theorem wk_X9_walk_0 {X : XT} {P : Post} (hO : OkM X cX9_walk RX9 0 (some .int) P) (hn : xn X = 4) (p1 : Int32) (p2 : Int32)   (μ : Mem) {R : Int32 → Mem → Prop} (hR : ∀ x m, R x m → P (some (.int x)) m)    (h : vc_X9_walk_0 p1 p2  μ R ) : V X 0 [some (.ref 75), some (.int p1), some (.int p2), none] [] μ := by
  have hX := hO.1
  unfold vc_X9_walk_0 at h
  refine v_iload_n hX dX9_walk_0 rfl (?_ : V X 1 [some (.ref 75), some (.int p1), some (.int p2), none] [.int p1] μ)
  refine v_if_ne hX 8 dX9_walk_1 rfl (fun c1 => ?_) (fun c1 => ?_)
  · replace h := h.1 c1
    refine v_iload_n hX dX9_walk_8 rfl (?_ : V X 9 [some (.ref 75), some (.int p1), some (.int p2), none] [.int p1] μ)
    refine v_iconst hX 1 dX9_walk_9 rfl (?_ : V X 10 [some (.ref 75), some (.int p1), some (.int p2), none] [.int 1, .int p1] μ)
    refine v_isub hX dX9_walk_10 (?_ : V X 11 [some (.ref 75), some (.int p1), some (.int p2), none] [.int (p1 - 1)] μ)
    refine v_istore_n hX dX9_walk_11 (by rw [hn]; decide) (?_ : V X 12 [some (.ref 75), some (.int p1), some (.int p2), some (.int (p1 - 1))] [] μ)
    refine v_aload_n hX dX9_walk_12 rfl (?_ : V X 13 [some (.ref 75), some (.int p1), some (.int p2), some (.int (p1 - 1))] [.ref 75] μ)
    refine v_getr hX (77) fk_X9_13 sh_75 rfl rfl dX9_walk_13 (?_ : V X 16 [some (.ref 75), some (.int p1), some (.int p2), some (.int (p1 - 1))] [.ref 77] μ)
    refine v_iconst hX 4 dX9_walk_16 rfl (?_ : V X 17 [some (.ref 75), some (.int p1), some (.int p2), some (.int (p1 - 1))] [.int 4, .ref 77] μ)
    refine w_iald hX 4 sh_77 (vp_lit (by decide)) (by decide) dX9_walk_17 (?_ : V X 18 [some (.ref 75), some (.int p1), some (.int p2), some (.int (p1 - 1))] [.int (gi μ 77 4)] μ)
    refine v_iload_n hX dX9_walk_18 rfl (?_ : V X 19 [some (.ref 75), some (.int p1), some (.int p2), some (.int (p1 - 1))] [.int (p1 - 1), .int (gi μ 77 4)] μ)
    refine v_iload_n hX dX9_walk_19 rfl (?_ : V X 20 [some (.ref 75), some (.int p1), some (.int p2), some (.int (p1 - 1))] [.int p2, .int (p1 - 1), .int (gi μ 77 4)] μ)
    refine v_icmp_ge hX 29 dX9_walk_20 rfl (fun c2 => ?_) (fun c2 => ?_)
    · replace h := h.1 c2
      refine v_iload_n hX dX9_walk_29 rfl (?_ : V X 30 [some (.ref 75), some (.int p1), some (.int p2), some (.int (p1 - 1))] [.int (p1 - 1), .int (gi μ 77 4)] μ)
      refine v_iload_n hX dX9_walk_30 rfl (?_ : V X 31 [some (.ref 75), some (.int p1), some (.int p2), some (.int (p1 - 1))] [.int p2, .int (p1 - 1), .int (gi μ 77 4)] μ)
      refine v_isub hX dX9_walk_31 (?_ : V X 32 [some (.ref 75), some (.int p1), some (.int p2), some (.int (p1 - 1))] [.int ((p1 - 1) - p2), .int (gi μ 77 4)] μ)
      refine v_imul hX dX9_walk_32 (?_ : V X 33 [some (.ref 75), some (.int p1), some (.int p2), some (.int (p1 - 1))] [.int ((gi μ 77 4) * ((p1 - 1) - p2))] μ)
      exact v_iret hO dX9_walk_33 (hR _ _ h)
    · replace h := h.2 c2
      refine v_iload_n hX dX9_walk_23 rfl (?_ : V X 24 [some (.ref 75), some (.int p1), some (.int p2), some (.int (p1 - 1))] [.int p2, .int (gi μ 77 4)] μ)
      refine v_iload_n hX dX9_walk_24 rfl (?_ : V X 25 [some (.ref 75), some (.int p1), some (.int p2), some (.int (p1 - 1))] [.int (p1 - 1), .int p2, .int (gi μ 77 4)] μ)
      refine v_isub hX dX9_walk_25 (?_ : V X 26 [some (.ref 75), some (.int p1), some (.int p2), some (.int (p1 - 1))] [.int (p2 - (p1 - 1)), .int (gi μ 77 4)] μ)
      refine v_goto hX 32 dX9_walk_26 rfl (?_ : V X 32 [some (.ref 75), some (.int p1), some (.int p2), some (.int (p1 - 1))] [.int (p2 - (p1 - 1)), .int (gi μ 77 4)] μ)
      refine v_imul hX dX9_walk_32 (?_ : V X 33 [some (.ref 75), some (.int p1), some (.int p2), some (.int (p1 - 1))] [.int ((gi μ 77 4) * (p2 - (p1 - 1)))] μ)
      exact v_iret hO dX9_walk_33 (hR _ _ h)
  · replace h := h.2 c1
    refine v_iconst hX 0 dX9_walk_4 rfl (?_ : V X 5 [some (.ref 75), some (.int p1), some (.int p2), none] [.int 0] μ)
    refine v_goto hX 11 dX9_walk_5 rfl (?_ : V X 11 [some (.ref 75), some (.int p1), some (.int p2), none] [.int 0] μ)
    refine v_istore_n hX dX9_walk_11 (by rw [hn]; decide) (?_ : V X 12 [some (.ref 75), some (.int p1), some (.int p2), some (.int 0)] [] μ)
    refine v_aload_n hX dX9_walk_12 rfl (?_ : V X 13 [some (.ref 75), some (.int p1), some (.int p2), some (.int 0)] [.ref 75] μ)
    refine v_getr hX (77) fk_X9_13 sh_75 rfl rfl dX9_walk_13 (?_ : V X 16 [some (.ref 75), some (.int p1), some (.int p2), some (.int 0)] [.ref 77] μ)
    refine v_iconst hX 4 dX9_walk_16 rfl (?_ : V X 17 [some (.ref 75), some (.int p1), some (.int p2), some (.int 0)] [.int 4, .ref 77] μ)
    refine w_iald hX 4 sh_77 (vp_lit (by decide)) (by decide) dX9_walk_17 (?_ : V X 18 [some (.ref 75), some (.int p1), some (.int p2), some (.int 0)] [.int (gi μ 77 4)] μ)
    refine v_iload_n hX dX9_walk_18 rfl (?_ : V X 19 [some (.ref 75), some (.int p1), some (.int p2), some (.int 0)] [.int 0, .int (gi μ 77 4)] μ)
    refine v_iload_n hX dX9_walk_19 rfl (?_ : V X 20 [some (.ref 75), some (.int p1), some (.int p2), some (.int 0)] [.int p2, .int 0, .int (gi μ 77 4)] μ)
    refine v_icmp_ge hX 29 dX9_walk_20 rfl (fun c3 => ?_) (fun c3 => ?_)
    · replace h := h.1 c3
      refine v_iload_n hX dX9_walk_29 rfl (?_ : V X 30 [some (.ref 75), some (.int p1), some (.int p2), some (.int 0)] [.int 0, .int (gi μ 77 4)] μ)
      refine v_iload_n hX dX9_walk_30 rfl (?_ : V X 31 [some (.ref 75), some (.int p1), some (.int p2), some (.int 0)] [.int p2, .int 0, .int (gi μ 77 4)] μ)
      refine v_isub hX dX9_walk_31 (?_ : V X 32 [some (.ref 75), some (.int p1), some (.int p2), some (.int 0)] [.int (0 - p2), .int (gi μ 77 4)] μ)
      refine v_imul hX dX9_walk_32 (?_ : V X 33 [some (.ref 75), some (.int p1), some (.int p2), some (.int 0)] [.int ((gi μ 77 4) * (0 - p2))] μ)
      exact v_iret hO dX9_walk_33 (hR _ _ h)
    · replace h := h.2 c3
      refine v_iload_n hX dX9_walk_23 rfl (?_ : V X 24 [some (.ref 75), some (.int p1), some (.int p2), some (.int 0)] [.int p2, .int (gi μ 77 4)] μ)
      refine v_iload_n hX dX9_walk_24 rfl (?_ : V X 25 [some (.ref 75), some (.int p1), some (.int p2), some (.int 0)] [.int 0, .int p2, .int (gi μ 77 4)] μ)
      refine v_isub hX dX9_walk_25 (?_ : V X 26 [some (.ref 75), some (.int p1), some (.int p2), some (.int 0)] [.int (p2 - 0), .int (gi μ 77 4)] μ)
      refine v_goto hX 32 dX9_walk_26 rfl (?_ : V X 32 [some (.ref 75), some (.int p1), some (.int p2), some (.int 0)] [.int (p2 - 0), .int (gi μ 77 4)] μ)
      refine v_imul hX dX9_walk_32 (?_ : V X 33 [some (.ref 75), some (.int p1), some (.int p2), some (.int 0)] [.int ((gi μ 77 4) * (p2 - 0))] μ)
      exact v_iret hO dX9_walk_33 (hR _ _ h)
set_option maxRecDepth 20000 in
set_option maxHeartbeats 4000000 in
theorem vp_X9_walk_0 (p1 : Int32) (p2 : Int32)  (μ : Mem) (hpre : pre_X9_walk p1 p2 μ) : vc_X9_walk_0 p1 p2 μ (post_X9_walk p1 p2 μ)  := by
  simp only [vc_X9_walk_0, and_imp, call_eq, forall_eq, forall_const, true_and, and_true]
  unfold post_X9_walk walkF; grind (splits := 20)
theorem sp_X9_walk : Sp yX9_walk cX9_walk 4 (some .int) 0 S_X9_walk := by
  refine sp_of (by decide) (fun av μ P h => ?_) ?_
  · obtain ⟨p1, p2, rfl, -⟩ := h
    refine ⟨Nat.le_of_ble_eq_true rfl, fun v hv => ?_⟩
    simp only [List.mem_cons, List.not_mem_nil, or_false] at hv
    rcases hv with rfl | rfl | rfl <;> rfl
  · rintro X P hO _ μ ⟨p1, p2, rfl, hpre, hpost⟩ hn
    exact wk_X9_walk_0 hO hn p1 p2  μ hpost (vp_X9_walk_0 p1 p2  μ hpre)
def S_X9_hurt : Tr := fun av μ P => ∃ (p1 : Int32) (p2 : Int32) (p3 : Int32), av = [.ref 75, .int p1, .int p2, .int p3] ∧ pre_X9_hurt p1 p2 p3 μ ∧ ∀ (x : Int32) (m : Mem), post_X9_hurt p1 p2 p3 μ x m → P (some (.int x)) m
def vc_X9_hurt_0 (p1 : Int32) (p2 : Int32) (p3 : Int32)  (μ : Mem) (R : Int32 → Mem → Prop)  : Prop :=
  vp_in p2 10 ∧ vp_in p1 10 ∧ (∀ y3 : Int32, y3 = (gi μ 81 (Int32.toNatClampNeg p2)) * (gi μ 79 (Int32.toNatClampNeg p1)) → ((¬ p3 = (p2 + 1) → R y3 μ) ∧ (p3 = (p2 + 1) → R (y3 / 2) μ)))
set_option maxRecDepth 20000 in
set_option maxHeartbeats 4000000 in
theorem wk_X9_hurt_0 {X : XT} {P : Post} (hO : OkM X cX9_hurt RX9 0 (some .int) P) (hn : xn X = 5) (p1 : Int32) (p2 : Int32) (p3 : Int32)   (μ : Mem) {R : Int32 → Mem → Prop} (hR : ∀ x m, R x m → P (some (.int x)) m)    (h : vc_X9_hurt_0 p1 p2 p3  μ R ) : V X 0 [some (.ref 75), some (.int p1), some (.int p2), some (.int p3), none] [] μ := by
  have hX := hO.1
  unfold vc_X9_hurt_0 at h
  refine v_aload_n hX dX9_hurt_0 rfl (?_ : V X 1 [some (.ref 75), some (.int p1), some (.int p2), some (.int p3), none] [.ref 75] μ)
  refine v_getr hX (81) fk_X9_25 sh_75 rfl rfl dX9_hurt_1 (?_ : V X 4 [some (.ref 75), some (.int p1), some (.int p2), some (.int p3), none] [.ref 81] μ)
  refine v_iload_n hX dX9_hurt_4 rfl (?_ : V X 5 [some (.ref 75), some (.int p1), some (.int p2), some (.int p3), none] [.int p2, .ref 81] μ)
  have hb1 := h.1
  replace h := h.2
  refine w_iald hX (Int32.toNatClampNeg p2) sh_81 hb1 rfl dX9_hurt_5 (?_ : V X 6 [some (.ref 75), some (.int p1), some (.int p2), some (.int p3), none] [.int (gi μ 81 (Int32.toNatClampNeg p2))] μ)
  refine v_aload_n hX dX9_hurt_6 rfl (?_ : V X 7 [some (.ref 75), some (.int p1), some (.int p2), some (.int p3), none] [.ref 75, .int (gi μ 81 (Int32.toNatClampNeg p2))] μ)
  refine v_getr hX (79) fk_X9_19 sh_75 rfl rfl dX9_hurt_7 (?_ : V X 10 [some (.ref 75), some (.int p1), some (.int p2), some (.int p3), none] [.ref 79, .int (gi μ 81 (Int32.toNatClampNeg p2))] μ)
  refine v_iload_n hX dX9_hurt_10 rfl (?_ : V X 11 [some (.ref 75), some (.int p1), some (.int p2), some (.int p3), none] [.int p1, .ref 79, .int (gi μ 81 (Int32.toNatClampNeg p2))] μ)
  have hb2 := h.1
  replace h := h.2
  refine w_iald hX (Int32.toNatClampNeg p1) sh_79 hb2 rfl dX9_hurt_11 (?_ : V X 12 [some (.ref 75), some (.int p1), some (.int p2), some (.int p3), none] [.int (gi μ 79 (Int32.toNatClampNeg p1)), .int (gi μ 81 (Int32.toNatClampNeg p2))] μ)
  refine v_imul hX dX9_hurt_12 (?_ : V X 13 [some (.ref 75), some (.int p1), some (.int p2), some (.int p3), none] [.int ((gi μ 81 (Int32.toNatClampNeg p2)) * (gi μ 79 (Int32.toNatClampNeg p1)))] μ)
  refine w_istore hX dX9_hurt_13 (by rw [hn]; decide) (fun y3 e4 => (?_ : V X 15 [some (.ref 75), some (.int p1), some (.int p2), some (.int p3), some (.int y3)] [] μ))
  replace h := h y3 e4
  refine v_iload_n hX dX9_hurt_15 rfl (?_ : V X 16 [some (.ref 75), some (.int p1), some (.int p2), some (.int p3), some (.int y3)] [.int p3] μ)
  refine v_iload_n hX dX9_hurt_16 rfl (?_ : V X 17 [some (.ref 75), some (.int p1), some (.int p2), some (.int p3), some (.int y3)] [.int p2, .int p3] μ)
  refine v_iconst hX 1 dX9_hurt_17 rfl (?_ : V X 18 [some (.ref 75), some (.int p1), some (.int p2), some (.int p3), some (.int y3)] [.int 1, .int p2, .int p3] μ)
  refine v_iadd hX dX9_hurt_18 (?_ : V X 19 [some (.ref 75), some (.int p1), some (.int p2), some (.int p3), some (.int y3)] [.int (p2 + 1), .int p3] μ)
  refine v_icmp_ne hX 29 dX9_hurt_19 rfl (fun c5 => ?_) (fun c5 => ?_)
  · replace h := h.1 c5
    refine v_iload hX dX9_hurt_29 rfl (?_ : V X 31 [some (.ref 75), some (.int p1), some (.int p2), some (.int p3), some (.int y3)] [.int y3] μ)
    exact v_iret hO dX9_hurt_31 (hR _ _ h)
  · replace h := h.2 c5
    refine v_iload hX dX9_hurt_22 rfl (?_ : V X 24 [some (.ref 75), some (.int p1), some (.int p2), some (.int p3), some (.int y3)] [.int y3] μ)
    refine v_iconst hX 2 dX9_hurt_24 rfl (?_ : V X 25 [some (.ref 75), some (.int p1), some (.int p2), some (.int p3), some (.int y3)] [.int 2, .int y3] μ)
    refine v_idiv hX dX9_hurt_25 (by decide) (?_ : V X 26 [some (.ref 75), some (.int p1), some (.int p2), some (.int p3), some (.int y3)] [.int (y3 / 2)] μ)
    refine v_goto hX 31 dX9_hurt_26 rfl (?_ : V X 31 [some (.ref 75), some (.int p1), some (.int p2), some (.int p3), some (.int y3)] [.int (y3 / 2)] μ)
    exact v_iret hO dX9_hurt_31 (hR _ _ h)
set_option maxRecDepth 20000 in
set_option maxHeartbeats 4000000 in
theorem vp_X9_hurt_0 (p1 : Int32) (p2 : Int32) (p3 : Int32)  (μ : Mem) (hpre : pre_X9_hurt p1 p2 p3 μ) : vc_X9_hurt_0 p1 p2 p3 μ (post_X9_hurt p1 p2 p3 μ)  := by
  simp only [vc_X9_hurt_0, and_imp, call_eq, forall_eq, forall_const, true_and, and_true]
  obtain ⟨h1, h2⟩ := hpre
  unfold post_X9_hurt hurtF
  refine ⟨h2, h1, ?_⟩
  grind
theorem sp_X9_hurt : Sp yX9_hurt cX9_hurt 5 (some .int) 0 S_X9_hurt := by
  refine sp_of (by decide) (fun av μ P h => ?_) ?_
  · obtain ⟨p1, p2, p3, rfl, -⟩ := h
    refine ⟨Nat.le_of_ble_eq_true rfl, fun v hv => ?_⟩
    simp only [List.mem_cons, List.not_mem_nil, or_false] at hv
    rcases hv with rfl | rfl | rfl | rfl <;> rfl
  · rintro X P hO _ μ ⟨p1, p2, p3, rfl, hpre, hpost⟩ hn
    exact wk_X9_hurt_0 hO hn p1 p2 p3  μ hpost (vp_X9_hurt_0 p1 p2 p3  μ hpre)
def S_X9_having : Tr := fun av μ P => ∃ (p1 : Int32) (p2 : Int32), av = [.ref 75, .int p1, .int p2] ∧ pre_X9_having p1 p2 μ ∧ ∀ (x : Int32) (m : Mem), post_X9_having p1 p2 μ x m → P (some (.int x)) m
def vc_X9_having_0 (p1 : Int32) (p2 : Int32)  (μ : Mem) (R : Int32 → Mem → Prop) (J5 : Int32 → Int32 → Mem → Prop) : Prop :=
  J5 0 0 μ
set_option maxRecDepth 20000 in
set_option maxHeartbeats 4000000 in
theorem wk_X9_having_0 {X : XT} {P : Post} (hO : OkM X cX9_having RX9 0 (some .int) P) (hn : xn X = 5) (p1 : Int32) (p2 : Int32)   (μ : Mem) {R : Int32 → Mem → Prop} (hR : ∀ x m, R x m → P (some (.int x)) m) {J5 : Int32 → Int32 → Mem → Prop} (hJ5 : ∀ (l3 : Int32) (l4 : Int32) (m : Mem), J5 l3 l4 m → V X 5 [some (.ref 75), some (.int p1), some (.int p2), some (.int l3), some (.int l4)] [] m)  (h : vc_X9_having_0 p1 p2  μ R J5) : V X 0 [some (.ref 75), some (.int p1), some (.int p2), none, none] [] μ := by
  have hX := hO.1
  unfold vc_X9_having_0 at h
  refine v_iconst hX 0 dX9_having_0 rfl (?_ : V X 1 [some (.ref 75), some (.int p1), some (.int p2), none, none] [.int 0] μ)
  refine v_istore_n hX dX9_having_1 (by rw [hn]; decide) (?_ : V X 2 [some (.ref 75), some (.int p1), some (.int p2), some (.int 0), none] [] μ)
  refine v_iconst hX 0 dX9_having_2 rfl (?_ : V X 3 [some (.ref 75), some (.int p1), some (.int p2), some (.int 0), none] [.int 0] μ)
  refine v_istore hX dX9_having_3 (by rw [hn]; decide) (?_ : V X 5 [some (.ref 75), some (.int p1), some (.int p2), some (.int 0), some (.int 0)] [] μ)
  exact v_mask [true, true, true, true, true] (hJ5 _ _ _ h)
def vc_X9_having_5 (p1 : Int32) (p2 : Int32) (l3 : Int32) (l4 : Int32) (μ : Mem) (R : Int32 → Mem → Prop) (J5 : Int32 → Int32 → Mem → Prop) : Prop :=
  (((gi μ 77 2) ≤ l4 → R (p1 &&& l3) μ) ∧ (¬ (gi μ 77 2) ≤ l4 → vp_in l4 12 ∧ ((¬ (((gi μ 83 (Int32.toNatClampNeg l4)) >>> (p2 &&& 31)) &&& 1) = 1 → J5 (l3 ||| 0) (l4 + 1) μ) ∧ ((((gi μ 83 (Int32.toNatClampNeg l4)) >>> (p2 &&& 31)) &&& 1) = 1 → J5 (l3 ||| (1 <<< (l4 &&& 31))) (l4 + 1) μ))))
set_option maxRecDepth 20000 in
set_option maxHeartbeats 4000000 in
theorem wk_X9_having_5 {X : XT} {P : Post} (hO : OkM X cX9_having RX9 0 (some .int) P) (hn : xn X = 5) (p1 : Int32) (p2 : Int32)  (l3 : Int32) (l4 : Int32) (μ : Mem) {R : Int32 → Mem → Prop} (hR : ∀ x m, R x m → P (some (.int x)) m) {J5 : Int32 → Int32 → Mem → Prop} (hJ5 : ∀ (l3 : Int32) (l4 : Int32) (m : Mem), J5 l3 l4 m → V X 5 [some (.ref 75), some (.int p1), some (.int p2), some (.int l3), some (.int l4)] [] m)  (h : vc_X9_having_5 p1 p2 l3 l4 μ R J5) : V X 5 [some (.ref 75), some (.int p1), some (.int p2), some (.int l3), some (.int l4)] [] μ := by
  have hX := hO.1
  unfold vc_X9_having_5 at h
  refine v_iload hX dX9_having_5 rfl (?_ : V X 7 [some (.ref 75), some (.int p1), some (.int p2), some (.int l3), some (.int l4)] [.int l4] μ)
  refine v_aload_n hX dX9_having_7 rfl (?_ : V X 8 [some (.ref 75), some (.int p1), some (.int p2), some (.int l3), some (.int l4)] [.ref 75, .int l4] μ)
  refine v_getr hX (77) fk_X9_13 sh_75 rfl rfl dX9_having_8 (?_ : V X 11 [some (.ref 75), some (.int p1), some (.int p2), some (.int l3), some (.int l4)] [.ref 77, .int l4] μ)
  refine v_iconst hX 2 dX9_having_11 rfl (?_ : V X 12 [some (.ref 75), some (.int p1), some (.int p2), some (.int l3), some (.int l4)] [.int 2, .ref 77, .int l4] μ)
  refine w_iald hX 2 sh_77 (vp_lit (by decide)) (by decide) dX9_having_12 (?_ : V X 13 [some (.ref 75), some (.int p1), some (.int p2), some (.int l3), some (.int l4)] [.int (gi μ 77 2), .int l4] μ)
  refine v_icmp_ge hX 48 dX9_having_13 rfl (fun c1 => ?_) (fun c1 => ?_)
  · replace h := h.1 c1
    refine v_iload_n hX dX9_having_48 rfl (?_ : V X 49 [some (.ref 75), some (.int p1), some (.int p2), some (.int l3), some (.int l4)] [.int p1] μ)
    refine v_iload_n hX dX9_having_49 rfl (?_ : V X 50 [some (.ref 75), some (.int p1), some (.int p2), some (.int l3), some (.int l4)] [.int l3, .int p1] μ)
    refine v_iand hX dX9_having_50 (?_ : V X 51 [some (.ref 75), some (.int p1), some (.int p2), some (.int l3), some (.int l4)] [.int (p1 &&& l3)] μ)
    exact v_iret hO dX9_having_51 (hR _ _ h)
  · replace h := h.2 c1
    refine v_iload_n hX dX9_having_16 rfl (?_ : V X 17 [some (.ref 75), some (.int p1), some (.int p2), some (.int l3), some (.int l4)] [.int l3] μ)
    refine v_aload_n hX dX9_having_17 rfl (?_ : V X 18 [some (.ref 75), some (.int p1), some (.int p2), some (.int l3), some (.int l4)] [.ref 75, .int l3] μ)
    refine v_getr hX (83) fk_X9_31 sh_75 rfl rfl dX9_having_18 (?_ : V X 21 [some (.ref 75), some (.int p1), some (.int p2), some (.int l3), some (.int l4)] [.ref 83, .int l3] μ)
    refine v_iload hX dX9_having_21 rfl (?_ : V X 23 [some (.ref 75), some (.int p1), some (.int p2), some (.int l3), some (.int l4)] [.int l4, .ref 83, .int l3] μ)
    have hb2 := h.1
    replace h := h.2
    refine w_iald hX (Int32.toNatClampNeg l4) sh_83 hb2 rfl dX9_having_23 (?_ : V X 24 [some (.ref 75), some (.int p1), some (.int p2), some (.int l3), some (.int l4)] [.int (gi μ 83 (Int32.toNatClampNeg l4)), .int l3] μ)
    refine v_iload_n hX dX9_having_24 rfl (?_ : V X 25 [some (.ref 75), some (.int p1), some (.int p2), some (.int l3), some (.int l4)] [.int p2, .int (gi μ 83 (Int32.toNatClampNeg l4)), .int l3] μ)
    refine v_ishr hX dX9_having_25 (?_ : V X 26 [some (.ref 75), some (.int p1), some (.int p2), some (.int l3), some (.int l4)] [.int ((gi μ 83 (Int32.toNatClampNeg l4)) >>> (p2 &&& 31)), .int l3] μ)
    refine v_iconst hX 1 dX9_having_26 rfl (?_ : V X 27 [some (.ref 75), some (.int p1), some (.int p2), some (.int l3), some (.int l4)] [.int 1, .int ((gi μ 83 (Int32.toNatClampNeg l4)) >>> (p2 &&& 31)), .int l3] μ)
    refine v_iand hX dX9_having_27 (?_ : V X 28 [some (.ref 75), some (.int p1), some (.int p2), some (.int l3), some (.int l4)] [.int (((gi μ 83 (Int32.toNatClampNeg l4)) >>> (p2 &&& 31)) &&& 1), .int l3] μ)
    refine v_iconst hX 1 dX9_having_28 rfl (?_ : V X 29 [some (.ref 75), some (.int p1), some (.int p2), some (.int l3), some (.int l4)] [.int 1, .int (((gi μ 83 (Int32.toNatClampNeg l4)) >>> (p2 &&& 31)) &&& 1), .int l3] μ)
    refine v_icmp_ne hX 39 dX9_having_29 rfl (fun c3 => ?_) (fun c3 => ?_)
    · replace h := h.1 c3
      refine v_iconst hX 0 dX9_having_39 rfl (?_ : V X 40 [some (.ref 75), some (.int p1), some (.int p2), some (.int l3), some (.int l4)] [.int 0, .int l3] μ)
      refine v_ior hX dX9_having_40 (?_ : V X 41 [some (.ref 75), some (.int p1), some (.int p2), some (.int l3), some (.int l4)] [.int (l3 ||| 0)] μ)
      refine v_istore_n hX dX9_having_41 (by rw [hn]; decide) (?_ : V X 42 [some (.ref 75), some (.int p1), some (.int p2), some (.int (l3 ||| 0)), some (.int l4)] [] μ)
      refine v_iinc hX 1 dX9_having_42 (by rw [hn]; decide) rfl rfl (?_ : V X 45 [some (.ref 75), some (.int p1), some (.int p2), some (.int (l3 ||| 0)), some (.int (l4 + 1))] [] μ)
      refine v_goto hX 5 dX9_having_45 rfl (?_ : V X 5 [some (.ref 75), some (.int p1), some (.int p2), some (.int (l3 ||| 0)), some (.int (l4 + 1))] [] μ)
      exact v_mask [true, true, true, true, true] (hJ5 _ _ _ h)
    · replace h := h.2 c3
      refine v_iconst hX 1 dX9_having_32 rfl (?_ : V X 33 [some (.ref 75), some (.int p1), some (.int p2), some (.int l3), some (.int l4)] [.int 1, .int l3] μ)
      refine v_iload hX dX9_having_33 rfl (?_ : V X 35 [some (.ref 75), some (.int p1), some (.int p2), some (.int l3), some (.int l4)] [.int l4, .int 1, .int l3] μ)
      refine v_ishl hX dX9_having_35 (?_ : V X 36 [some (.ref 75), some (.int p1), some (.int p2), some (.int l3), some (.int l4)] [.int (1 <<< (l4 &&& 31)), .int l3] μ)
      refine v_goto hX 40 dX9_having_36 rfl (?_ : V X 40 [some (.ref 75), some (.int p1), some (.int p2), some (.int l3), some (.int l4)] [.int (1 <<< (l4 &&& 31)), .int l3] μ)
      refine v_ior hX dX9_having_40 (?_ : V X 41 [some (.ref 75), some (.int p1), some (.int p2), some (.int l3), some (.int l4)] [.int (l3 ||| (1 <<< (l4 &&& 31)))] μ)
      refine v_istore_n hX dX9_having_41 (by rw [hn]; decide) (?_ : V X 42 [some (.ref 75), some (.int p1), some (.int p2), some (.int (l3 ||| (1 <<< (l4 &&& 31)))), some (.int l4)] [] μ)
      refine v_iinc hX 1 dX9_having_42 (by rw [hn]; decide) rfl rfl (?_ : V X 45 [some (.ref 75), some (.int p1), some (.int p2), some (.int (l3 ||| (1 <<< (l4 &&& 31)))), some (.int (l4 + 1))] [] μ)
      refine v_goto hX 5 dX9_having_45 rfl (?_ : V X 5 [some (.ref 75), some (.int p1), some (.int p2), some (.int (l3 ||| (1 <<< (l4 &&& 31)))), some (.int (l4 + 1))] [] μ)
      exact v_mask [true, true, true, true, true] (hJ5 _ _ _ h)
set_option maxRecDepth 20000 in
set_option maxHeartbeats 4000000 in
theorem vp_X9_having_0 (p1 : Int32) (p2 : Int32)  (μ : Mem) (hpre : pre_X9_having p1 p2 μ) : vc_X9_having_0 p1 p2 μ (post_X9_having p1 p2 μ) (fun l3 l4 m => ∃ k : Nat, inv_X9_having_5 p1 p2 μ k l3 l4 m) := by
  simp only [vc_X9_having_0, and_imp, call_eq, forall_eq, forall_const, true_and, and_true]
  exact ⟨gn μ 77 2, 0, Nat.zero_le _, rfl, rfl, rfl, rfl⟩
set_option maxRecDepth 20000 in
set_option maxHeartbeats 4000000 in
theorem vp_X9_having_5 (p1 : Int32) (p2 : Int32)  (μ : Mem) (hpre : pre_X9_having p1 p2 μ) (n : Nat) (l3 : Int32) (l4 : Int32) (μ0 : Mem) (hi : inv_X9_having_5 p1 p2 μ n l3 l4 μ0) : vc_X9_having_5 p1 p2 l3 l4 μ0 (post_X9_having p1 p2 μ) (fun l3 l4 m => ∃ k : Nat, k < n ∧ inv_X9_having_5 p1 p2 μ k l3 l4 m) := by
  simp only [vc_X9_having_5, and_imp, call_eq, forall_eq, forall_const, true_and, and_true]
  obtain ⟨i, hi1, rfl, rfl, rfl, rfl⟩ := hi
  unfold pre_X9_having at hpre
  have hb := hpre.2
  rw [isN_le hpre (by omega) (by omega), nI_clamp (by omega)]
  refine ⟨fun c => ?_, fun c => ⟨vp_in_nI (by omega) (by omega), fun c2 => ⟨gn μ0 77 2 - (i + 1), by omega, i + 1, by omega, rfl, nI_1 i, ?_, rfl⟩, fun c2 => ⟨gn μ0 77 2 - (i + 1), by omega, i + 1, by omega, rfl, nI_1 i, ?_, rfl⟩⟩⟩
  · have : i = gn μ0 77 2 := by omega
    subst this
    exact ⟨rfl, rfl⟩
  · simp only [orI]
    rw [if_neg c2]
  · simp only [orI]
    rw [if_pos c2]
theorem sp_X9_having : Sp yX9_having cX9_having 5 (some .int) 0 S_X9_having := by
  refine sp_of (by decide) (fun av μ P h => ?_) ?_
  · obtain ⟨p1, p2, rfl, -⟩ := h
    refine ⟨Nat.le_of_ble_eq_true rfl, fun v hv => ?_⟩
    simp only [List.mem_cons, List.not_mem_nil, or_false] at hv
    rcases hv with rfl | rfl | rfl <;> rfl
  · rintro X P hO _ μ ⟨p1, p2, rfl, hpre, hpost⟩ hn
    have hJ : ∀ n : Nat, (∀ (l3 : Int32) (l4 : Int32) (m : Mem), inv_X9_having_5 p1 p2 μ n l3 l4 m → V X 5 [some (.ref 75), some (.int p1), some (.int p2), some (.int l3), some (.int l4)] [] m) := by
      intro n
      induction n using Nat.strongRecOn with
      | _ n ih =>
        exact fun l3 l4 m hi => wk_X9_having_5 (J5 := (fun l3 l4 m => ∃ k : Nat, k < n ∧ inv_X9_having_5 p1 p2 μ k l3 l4 m)) hO hn p1 p2  l3 l4 m hpost (fun l3 l4 m hk => by obtain ⟨k, hk, hi⟩ := hk; exact (ih k hk) l3 l4 m hi) (vp_X9_having_5 p1 p2  μ hpre n l3 l4 m hi)
    exact wk_X9_having_0 (J5 := (fun l3 l4 m => ∃ k : Nat, inv_X9_having_5 p1 p2 μ k l3 l4 m)) hO hn p1 p2  μ hpost (fun l3 l4 m hk => by obtain ⟨k, hi⟩ := hk; exact (hJ k) l3 l4 m hi) (vp_X9_having_0 p1 p2  μ hpre)
def S_X9_power : Tr := fun av μ P => ∃ (p1 : Int32) (p2 : Int32), av = [.int p1, .int p2] ∧ pre_X9_power p1 p2 μ ∧ ∀ (x : Int32) (m : Mem), post_X9_power p1 p2 μ x m → P (some (.int x)) m
def vc_X9_power_0 (p1 : Int32) (p2 : Int32)  (μ : Mem) (R : Int32 → Mem → Prop) (J4 : Int32 → Int32 → Mem → Prop) : Prop :=
  J4 1 0 μ
set_option maxRecDepth 20000 in
set_option maxHeartbeats 4000000 in
theorem wk_X9_power_0 {X : XT} {P : Post} (hO : OkM X cX9_power RX9 0 (some .int) P) (hn : xn X = 4) (p1 : Int32) (p2 : Int32)   (μ : Mem) {R : Int32 → Mem → Prop} (hR : ∀ x m, R x m → P (some (.int x)) m) {J4 : Int32 → Int32 → Mem → Prop} (hJ4 : ∀ (l2 : Int32) (l3 : Int32) (m : Mem), J4 l2 l3 m → V X 4 [some (.int p1), some (.int p2), some (.int l2), some (.int l3)] [] m)  (h : vc_X9_power_0 p1 p2  μ R J4) : V X 0 [some (.int p1), some (.int p2), none, none] [] μ := by
  have hX := hO.1
  unfold vc_X9_power_0 at h
  refine v_iconst hX 1 dX9_power_0 rfl (?_ : V X 1 [some (.int p1), some (.int p2), none, none] [.int 1] μ)
  refine v_istore_n hX dX9_power_1 (by rw [hn]; decide) (?_ : V X 2 [some (.int p1), some (.int p2), some (.int 1), none] [] μ)
  refine v_iconst hX 0 dX9_power_2 rfl (?_ : V X 3 [some (.int p1), some (.int p2), some (.int 1), none] [.int 0] μ)
  refine v_istore_n hX dX9_power_3 (by rw [hn]; decide) (?_ : V X 4 [some (.int p1), some (.int p2), some (.int 1), some (.int 0)] [] μ)
  exact v_mask [true, true, true, true] (hJ4 _ _ _ h)
def vc_X9_power_4 (p1 : Int32) (p2 : Int32) (l2 : Int32) (l3 : Int32) (μ : Mem) (R : Int32 → Mem → Prop) (J4 : Int32 → Int32 → Mem → Prop) : Prop :=
  ((p2 ≤ l3 → R l2 μ) ∧ (¬ p2 ≤ l3 → J4 (l2 * p1) (l3 + 1) μ))
set_option maxRecDepth 20000 in
set_option maxHeartbeats 4000000 in
theorem wk_X9_power_4 {X : XT} {P : Post} (hO : OkM X cX9_power RX9 0 (some .int) P) (hn : xn X = 4) (p1 : Int32) (p2 : Int32)  (l2 : Int32) (l3 : Int32) (μ : Mem) {R : Int32 → Mem → Prop} (hR : ∀ x m, R x m → P (some (.int x)) m) {J4 : Int32 → Int32 → Mem → Prop} (hJ4 : ∀ (l2 : Int32) (l3 : Int32) (m : Mem), J4 l2 l3 m → V X 4 [some (.int p1), some (.int p2), some (.int l2), some (.int l3)] [] m)  (h : vc_X9_power_4 p1 p2 l2 l3 μ R J4) : V X 4 [some (.int p1), some (.int p2), some (.int l2), some (.int l3)] [] μ := by
  have hX := hO.1
  unfold vc_X9_power_4 at h
  refine v_iload_n hX dX9_power_4 rfl (?_ : V X 5 [some (.int p1), some (.int p2), some (.int l2), some (.int l3)] [.int l3] μ)
  refine v_iload_n hX dX9_power_5 rfl (?_ : V X 6 [some (.int p1), some (.int p2), some (.int l2), some (.int l3)] [.int p2, .int l3] μ)
  refine v_icmp_ge hX 19 dX9_power_6 rfl (fun c1 => ?_) (fun c1 => ?_)
  · replace h := h.1 c1
    refine v_iload_n hX dX9_power_19 rfl (?_ : V X 20 [some (.int p1), some (.int p2), some (.int l2), some (.int l3)] [.int l2] μ)
    exact v_iret hO dX9_power_20 (hR _ _ h)
  · replace h := h.2 c1
    refine v_iload_n hX dX9_power_9 rfl (?_ : V X 10 [some (.int p1), some (.int p2), some (.int l2), some (.int l3)] [.int l2] μ)
    refine v_iload_n hX dX9_power_10 rfl (?_ : V X 11 [some (.int p1), some (.int p2), some (.int l2), some (.int l3)] [.int p1, .int l2] μ)
    refine v_imul hX dX9_power_11 (?_ : V X 12 [some (.int p1), some (.int p2), some (.int l2), some (.int l3)] [.int (l2 * p1)] μ)
    refine v_istore_n hX dX9_power_12 (by rw [hn]; decide) (?_ : V X 13 [some (.int p1), some (.int p2), some (.int (l2 * p1)), some (.int l3)] [] μ)
    refine v_iinc hX 1 dX9_power_13 (by rw [hn]; decide) rfl rfl (?_ : V X 16 [some (.int p1), some (.int p2), some (.int (l2 * p1)), some (.int (l3 + 1))] [] μ)
    refine v_goto hX 4 dX9_power_16 rfl (?_ : V X 4 [some (.int p1), some (.int p2), some (.int (l2 * p1)), some (.int (l3 + 1))] [] μ)
    exact v_mask [true, true, true, true] (hJ4 _ _ _ h)
set_option maxRecDepth 20000 in
set_option maxHeartbeats 4000000 in
theorem vp_X9_power_0 (p1 : Int32) (p2 : Int32)  (μ : Mem) (hpre : pre_X9_power p1 p2 μ) : vc_X9_power_0 p1 p2 μ (post_X9_power p1 p2 μ) (fun l2 l3 m => ∃ k : Nat, inv_X9_power_4 p1 p2 μ k l2 l3 m) := by
  simp only [vc_X9_power_0, and_imp, call_eq, forall_eq, forall_const, true_and, and_true]
  exact ⟨p2.toNatClampNeg, 0, Nat.zero_le _, rfl, rfl, rfl, rfl⟩
set_option maxRecDepth 20000 in
set_option maxHeartbeats 4000000 in
theorem vp_X9_power_4 (p1 : Int32) (p2 : Int32)  (μ : Mem) (hpre : pre_X9_power p1 p2 μ) (n : Nat) (l2 : Int32) (l3 : Int32) (μ0 : Mem) (hi : inv_X9_power_4 p1 p2 μ n l2 l3 μ0) : vc_X9_power_4 p1 p2 l2 l3 μ0 (post_X9_power p1 p2 μ) (fun l2 l3 m => ∃ k : Nat, k < n ∧ inv_X9_power_4 p1 p2 μ k l2 l3 m) := by
  simp only [vc_X9_power_4, and_imp, call_eq, forall_eq, forall_const, true_and, and_true]
  obtain ⟨i, hi1, rfl, rfl, rfl, rfl⟩ := hi
  obtain ⟨e, he⟩ := nn_of hpre
  have hle : p2 ≤ nI i ↔ p2.toNatClampNeg ≤ i := by
    rw [← nI_leI (a := p2.toNatClampNeg) (b := i) he (by omega), ← e]
  rw [hle]
  refine ⟨fun c => ?_, fun c => ⟨p2.toNatClampNeg - (i + 1), by omega, i + 1, by omega, rfl, nI_1 i, rfl, rfl⟩⟩
  have : i = p2.toNatClampNeg := by omega
  subst this
  exact ⟨rfl, rfl⟩
theorem sp_X9_power : Sp yX9_power cX9_power 4 (some .int) 0 S_X9_power := by
  refine sp_of (by decide) (fun av μ P h => ?_) ?_
  · obtain ⟨p1, p2, rfl, -⟩ := h
    refine ⟨Nat.le_of_ble_eq_true rfl, fun v hv => ?_⟩
    simp only [List.mem_cons, List.not_mem_nil, or_false] at hv
    rcases hv with rfl | rfl <;> rfl
  · rintro X P hO _ μ ⟨p1, p2, rfl, hpre, hpost⟩ hn
    have hJ : ∀ n : Nat, (∀ (l2 : Int32) (l3 : Int32) (m : Mem), inv_X9_power_4 p1 p2 μ n l2 l3 m → V X 4 [some (.int p1), some (.int p2), some (.int l2), some (.int l3)] [] m) := by
      intro n
      induction n using Nat.strongRecOn with
      | _ n ih =>
        exact fun l2 l3 m hi => wk_X9_power_4 (J4 := (fun l2 l3 m => ∃ k : Nat, k < n ∧ inv_X9_power_4 p1 p2 μ k l2 l3 m)) hO hn p1 p2  l2 l3 m hpost (fun l2 l3 m hk => by obtain ⟨k, hk, hi⟩ := hk; exact (ih k hk) l2 l3 m hi) (vp_X9_power_4 p1 p2  μ hpre n l2 l3 m hi)
    exact wk_X9_power_0 (J4 := (fun l2 l3 m => ∃ k : Nat, inv_X9_power_4 p1 p2 μ k l2 l3 m)) hO hn p1 p2  μ hpost (fun l2 l3 m hk => by obtain ⟨k, hi⟩ := hk; exact (hJ k) l2 l3 m hi) (vp_X9_power_0 p1 p2  μ hpre)
def S_X9_gcd : Tr := fun av μ P => ∃ (p1 : Int32) (p2 : Int32), av = [.int p1, .int p2] ∧ pre_X9_gcd p1 p2 μ ∧ ∀ (x : Int32) (m : Mem), post_X9_gcd p1 p2 μ x m → P (some (.int x)) m
def vc_X9_gcd_0 (p1 : Int32) (p2 : Int32)  (μ : Mem) (R : Int32 → Mem → Prop) (J4 : Int32 → Int32 → Mem → Prop) : Prop :=
  J4 p1 p2 μ
set_option maxRecDepth 20000 in
set_option maxHeartbeats 4000000 in
theorem wk_X9_gcd_0 {X : XT} {P : Post} (hO : OkM X cX9_gcd RX9 0 (some .int) P) (hn : xn X = 5) (p1 : Int32) (p2 : Int32)   (μ : Mem) {R : Int32 → Mem → Prop} (hR : ∀ x m, R x m → P (some (.int x)) m) {J4 : Int32 → Int32 → Mem → Prop} (hJ4 : ∀ (l2 : Int32) (l3 : Int32) (m : Mem), J4 l2 l3 m → V X 4 [some (.int p1), some (.int p2), some (.int l2), some (.int l3), none] [] m)  (h : vc_X9_gcd_0 p1 p2  μ R J4) : V X 0 [some (.int p1), some (.int p2), none, none, none] [] μ := by
  have hX := hO.1
  unfold vc_X9_gcd_0 at h
  refine v_iload_n hX dX9_gcd_0 rfl (?_ : V X 1 [some (.int p1), some (.int p2), none, none, none] [.int p1] μ)
  refine v_istore_n hX dX9_gcd_1 (by rw [hn]; decide) (?_ : V X 2 [some (.int p1), some (.int p2), some (.int p1), none, none] [] μ)
  refine v_iload_n hX dX9_gcd_2 rfl (?_ : V X 3 [some (.int p1), some (.int p2), some (.int p1), none, none] [.int p2] μ)
  refine v_istore_n hX dX9_gcd_3 (by rw [hn]; decide) (?_ : V X 4 [some (.int p1), some (.int p2), some (.int p1), some (.int p2), none] [] μ)
  exact v_mask [true, true, true, true, false] (hJ4 _ _ _ h)
def vc_X9_gcd_4 (p1 : Int32) (p2 : Int32) (l2 : Int32) (l3 : Int32) (μ : Mem) (R : Int32 → Mem → Prop) (J4 : Int32 → Int32 → Mem → Prop) : Prop :=
  ((l3 = 0 → R l2 μ) ∧ (¬ l3 = 0 → (¬ l3 = 0) ∧ J4 l3 (l2 - l2 / l3 * l3) μ))
set_option maxRecDepth 20000 in
set_option maxHeartbeats 4000000 in
theorem wk_X9_gcd_4 {X : XT} {P : Post} (hO : OkM X cX9_gcd RX9 0 (some .int) P) (hn : xn X = 5) (p1 : Int32) (p2 : Int32)  (l2 : Int32) (l3 : Int32) (μ : Mem) {R : Int32 → Mem → Prop} (hR : ∀ x m, R x m → P (some (.int x)) m) {J4 : Int32 → Int32 → Mem → Prop} (hJ4 : ∀ (l2 : Int32) (l3 : Int32) (m : Mem), J4 l2 l3 m → V X 4 [some (.int p1), some (.int p2), some (.int l2), some (.int l3), none] [] m)  (h : vc_X9_gcd_4 p1 p2 l2 l3 μ R J4) : V X 4 [some (.int p1), some (.int p2), some (.int l2), some (.int l3), none] [] μ := by
  have hX := hO.1
  unfold vc_X9_gcd_4 at h
  refine v_iload_n hX dX9_gcd_4 rfl (?_ : V X 5 [some (.int p1), some (.int p2), some (.int l2), some (.int l3), none] [.int l3] μ)
  refine v_if_eq hX 21 dX9_gcd_5 rfl (fun c1 => ?_) (fun c1 => ?_)
  · replace h := h.1 c1
    refine v_iload_n hX dX9_gcd_21 rfl (?_ : V X 22 [some (.int p1), some (.int p2), some (.int l2), some (.int l3), none] [.int l2] μ)
    exact v_iret hO dX9_gcd_22 (hR _ _ h)
  · replace h := h.2 c1
    refine v_iload_n hX dX9_gcd_8 rfl (?_ : V X 9 [some (.int p1), some (.int p2), some (.int l2), some (.int l3), none] [.int l2] μ)
    refine v_iload_n hX dX9_gcd_9 rfl (?_ : V X 10 [some (.int p1), some (.int p2), some (.int l2), some (.int l3), none] [.int l3, .int l2] μ)
    refine v_irem hX dX9_gcd_10 h.1 (?_ : V X 11 [some (.int p1), some (.int p2), some (.int l2), some (.int l3), none] [.int (l2 - l2 / l3 * l3)] μ)
    replace h := h.2
    refine v_istore hX dX9_gcd_11 (by rw [hn]; decide) (?_ : V X 13 [some (.int p1), some (.int p2), some (.int l2), some (.int l3), some (.int (l2 - l2 / l3 * l3))] [] μ)
    refine v_iload_n hX dX9_gcd_13 rfl (?_ : V X 14 [some (.int p1), some (.int p2), some (.int l2), some (.int l3), some (.int (l2 - l2 / l3 * l3))] [.int l3] μ)
    refine v_istore_n hX dX9_gcd_14 (by rw [hn]; decide) (?_ : V X 15 [some (.int p1), some (.int p2), some (.int l3), some (.int l3), some (.int (l2 - l2 / l3 * l3))] [] μ)
    refine v_iload hX dX9_gcd_15 rfl (?_ : V X 17 [some (.int p1), some (.int p2), some (.int l3), some (.int l3), some (.int (l2 - l2 / l3 * l3))] [.int (l2 - l2 / l3 * l3)] μ)
    refine v_istore_n hX dX9_gcd_17 (by rw [hn]; decide) (?_ : V X 18 [some (.int p1), some (.int p2), some (.int l3), some (.int (l2 - l2 / l3 * l3)), some (.int (l2 - l2 / l3 * l3))] [] μ)
    refine v_goto hX 4 dX9_gcd_18 rfl (?_ : V X 4 [some (.int p1), some (.int p2), some (.int l3), some (.int (l2 - l2 / l3 * l3)), some (.int (l2 - l2 / l3 * l3))] [] μ)
    exact v_mask [true, true, true, true, false] (hJ4 _ _ _ h)
set_option maxRecDepth 20000 in
set_option maxHeartbeats 4000000 in
theorem vp_X9_gcd_0 (p1 : Int32) (p2 : Int32)  (μ : Mem) (hpre : pre_X9_gcd p1 p2 μ) : vc_X9_gcd_0 p1 p2 μ (post_X9_gcd p1 p2 μ) (fun l2 l3 m => ∃ k : Nat, inv_X9_gcd_4 p1 p2 μ k l2 l3 m) := by
  simp only [vc_X9_gcd_0, and_imp, call_eq, forall_eq, forall_const, true_and, and_true]
  obtain ⟨h1, h2⟩ := hpre
  obtain ⟨e1, b1⟩ := nn_of h1
  obtain ⟨e2, b2⟩ := nn_of h2
  exact ⟨p2.toNatClampNeg, p1.toNatClampNeg, b1, b2, e1, e2, rfl, rfl⟩
set_option maxRecDepth 20000 in
set_option maxHeartbeats 4000000 in
theorem vp_X9_gcd_4 (p1 : Int32) (p2 : Int32)  (μ : Mem) (hpre : pre_X9_gcd p1 p2 μ) (n : Nat) (l2 : Int32) (l3 : Int32) (μ0 : Mem) (hi : inv_X9_gcd_4 p1 p2 μ n l2 l3 μ0) : vc_X9_gcd_4 p1 p2 l2 l3 μ0 (post_X9_gcd p1 p2 μ) (fun l2 l3 m => ∃ k : Nat, k < n ∧ inv_X9_gcd_4 p1 p2 μ k l2 l3 m) := by
  simp only [vc_X9_gcd_4, and_imp, call_eq, forall_eq, forall_const, true_and, and_true]
  obtain ⟨a, ha, hn, rfl, rfl, hg, rfl⟩ := hi
  rw [show (0 : Int32) = nI 0 from rfl, nI_eq hn (by omega)]
  refine ⟨fun c => ?_, fun c => ⟨c, a % n, Nat.mod_lt _ (by omega), n, hn, ?_, rfl, ?_, ?_, rfl⟩⟩
  · subst c
    rw [Nat.gcd_zero_right] at hg
    exact ⟨by rw [hg], rfl⟩
  · exact Nat.lt_trans (Nat.mod_lt _ (by omega)) hn
  · exact pk_rem ha (by omega) hn
  · rw [← hg, Nat.gcd_comm a n, Nat.gcd_rec n a, Nat.gcd_comm]
theorem sp_X9_gcd : Sp yX9_gcd cX9_gcd 5 (some .int) 0 S_X9_gcd := by
  refine sp_of (by decide) (fun av μ P h => ?_) ?_
  · obtain ⟨p1, p2, rfl, -⟩ := h
    refine ⟨Nat.le_of_ble_eq_true rfl, fun v hv => ?_⟩
    simp only [List.mem_cons, List.not_mem_nil, or_false] at hv
    rcases hv with rfl | rfl <;> rfl
  · rintro X P hO _ μ ⟨p1, p2, rfl, hpre, hpost⟩ hn
    have hJ : ∀ n : Nat, (∀ (l2 : Int32) (l3 : Int32) (m : Mem), inv_X9_gcd_4 p1 p2 μ n l2 l3 m → V X 4 [some (.int p1), some (.int p2), some (.int l2), some (.int l3), none] [] m) := by
      intro n
      induction n using Nat.strongRecOn with
      | _ n ih =>
        exact fun l2 l3 m hi => wk_X9_gcd_4 (J4 := (fun l2 l3 m => ∃ k : Nat, k < n ∧ inv_X9_gcd_4 p1 p2 μ k l2 l3 m)) hO hn p1 p2  l2 l3 m hpost (fun l2 l3 m hk => by obtain ⟨k, hk, hi⟩ := hk; exact (ih k hk) l2 l3 m hi) (vp_X9_gcd_4 p1 p2  μ hpre n l2 l3 m hi)
    exact wk_X9_gcd_0 (J4 := (fun l2 l3 m => ∃ k : Nat, inv_X9_gcd_4 p1 p2 μ k l2 l3 m)) hO hn p1 p2  μ hpost (fun l2 l3 m hk => by obtain ⟨k, hi⟩ := hk; exact (hJ k) l2 l3 m hi) (vp_X9_gcd_0 p1 p2  μ hpre)
def S_X9_notes : Tr := fun av μ P => av = [.ref 75] ∧ pre_X9_notes  μ ∧ ∀ m : Mem, post_X9_notes  μ m → P none m
def vc_X9_notes_0   (μ : Mem) (R : Mem → Prop) (J11 : Int32 → Mem → Prop) (J47 : Int32 → Mem → Prop) : Prop :=
  ((¬ (gi μ 75 21) = 10 → J47 0 μ) ∧ ((gi μ 75 21) = 10 → J11 0 μ))
set_option maxRecDepth 20000 in
set_option maxHeartbeats 4000000 in
theorem wk_X9_notes_0 {X : XT} {P : Post} (hO : OkM X cX9_notes RX9 0 none P) (hn : xn X = 2)    (μ : Mem) {R : Mem → Prop} (hR : ∀ m, R m → P none m) {J11 : Int32 → Mem → Prop} {J47 : Int32 → Mem → Prop} (hJ11 : ∀ (l1 : Int32) (m : Mem), J11 l1 m → V X 11 [some (.ref 75), some (.int l1)] [] m) (hJ47 : ∀ (l1 : Int32) (m : Mem), J47 l1 m → V X 47 [some (.ref 75), some (.int l1)] [] m)  (h : vc_X9_notes_0   μ R J11 J47) : V X 0 [some (.ref 75), none] [] μ := by
  have hX := hO.1
  unfold vc_X9_notes_0 at h
  refine v_aload_n hX dX9_notes_0 rfl (?_ : V X 1 [some (.ref 75), none] [.ref 75] μ)
  refine v_geti hX fk_X9_139 sh_75 rfl dX9_notes_1 (?_ : V X 4 [some (.ref 75), none] [.int (gi μ 75 21)] μ)
  refine v_bipush hX 10 dX9_notes_4 rfl (?_ : V X 6 [some (.ref 75), none] [.int 10, .int (gi μ 75 21)] μ)
  refine v_icmp_ne hX 45 dX9_notes_6 rfl (fun c1 => ?_) (fun c1 => ?_)
  · replace h := h.1 c1
    refine v_iconst hX 0 dX9_notes_45 rfl (?_ : V X 46 [some (.ref 75), none] [.int 0] μ)
    refine v_istore_n hX dX9_notes_46 (by rw [hn]; decide) (?_ : V X 47 [some (.ref 75), some (.int 0)] [] μ)
    exact v_mask [true, true] (hJ47 _ _ h)
  · replace h := h.2 c1
    refine v_iconst hX 0 dX9_notes_9 rfl (?_ : V X 10 [some (.ref 75), none] [.int 0] μ)
    refine v_istore_n hX dX9_notes_10 (by rw [hn]; decide) (?_ : V X 11 [some (.ref 75), some (.int 0)] [] μ)
    exact v_mask [true, true] (hJ11 _ _ h)
def vc_X9_notes_11  (l1 : Int32) (μ : Mem) (R : Mem → Prop) (J11 : Int32 → Mem → Prop) (J47 : Int32 → Mem → Prop) : Prop :=
  ((135 ≤ l1 → (∀ μ2, μ2 = ui μ 75 21 9 → J47 0 μ2)) ∧ (¬ 135 ≤ l1 → vp_in (l1 + 15) 150 ∧ vp_in l1 150 ∧ (∀ μ6, μ6 = ui μ 87 (Int32.toNatClampNeg l1) (gi μ 87 (Int32.toNatClampNeg (l1 + 15))) → J11 (l1 + 1) μ6)))
set_option maxRecDepth 20000 in
set_option maxHeartbeats 4000000 in
theorem wk_X9_notes_11 {X : XT} {P : Post} (hO : OkM X cX9_notes RX9 0 none P) (hn : xn X = 2)   (l1 : Int32) (μ : Mem) {R : Mem → Prop} (hR : ∀ m, R m → P none m) {J11 : Int32 → Mem → Prop} {J47 : Int32 → Mem → Prop} (hJ11 : ∀ (l1 : Int32) (m : Mem), J11 l1 m → V X 11 [some (.ref 75), some (.int l1)] [] m) (hJ47 : ∀ (l1 : Int32) (m : Mem), J47 l1 m → V X 47 [some (.ref 75), some (.int l1)] [] m)  (h : vc_X9_notes_11  l1 μ R J11 J47) : V X 11 [some (.ref 75), some (.int l1)] [] μ := by
  have hX := hO.1
  unfold vc_X9_notes_11 at h
  refine v_iload_n hX dX9_notes_11 rfl (?_ : V X 12 [some (.ref 75), some (.int l1)] [.int l1] μ)
  refine v_sipush hX 135 dX9_notes_12 rfl (?_ : V X 15 [some (.ref 75), some (.int l1)] [.int 135, .int l1] μ)
  refine v_icmp_ge hX 39 dX9_notes_15 rfl (fun c1 => ?_) (fun c1 => ?_)
  · replace h := h.1 c1
    refine v_aload_n hX dX9_notes_39 rfl (?_ : V X 40 [some (.ref 75), some (.int l1)] [.ref 75] μ)
    refine v_bipush hX 9 dX9_notes_40 rfl (?_ : V X 42 [some (.ref 75), some (.int l1)] [.int 9, .ref 75] μ)
    refine w_puti hX fk_X9_139 fw_9_21 sh_75 rfl dX9_notes_42 (fun μ2 e3 => (?_ : V X 45 [some (.ref 75), some (.int l1)] [] μ2))
    replace h := h μ2 e3
    refine v_iconst hX 0 dX9_notes_45 rfl (?_ : V X 46 [some (.ref 75), some (.int l1)] [.int 0] μ2)
    refine v_istore_n hX dX9_notes_46 (by rw [hn]; decide) (?_ : V X 47 [some (.ref 75), some (.int 0)] [] μ2)
    exact v_mask [true, true] (hJ47 _ _ h)
  · replace h := h.2 c1
    refine v_aload_n hX dX9_notes_18 rfl (?_ : V X 19 [some (.ref 75), some (.int l1)] [.ref 75] μ)
    refine v_getr hX (87) fk_X9_44 sh_75 rfl rfl dX9_notes_19 (?_ : V X 22 [some (.ref 75), some (.int l1)] [.ref 87] μ)
    refine v_iload_n hX dX9_notes_22 rfl (?_ : V X 23 [some (.ref 75), some (.int l1)] [.int l1, .ref 87] μ)
    refine v_aload_n hX dX9_notes_23 rfl (?_ : V X 24 [some (.ref 75), some (.int l1)] [.ref 75, .int l1, .ref 87] μ)
    refine v_getr hX (87) fk_X9_44 sh_75 rfl rfl dX9_notes_24 (?_ : V X 27 [some (.ref 75), some (.int l1)] [.ref 87, .int l1, .ref 87] μ)
    refine v_iload_n hX dX9_notes_27 rfl (?_ : V X 28 [some (.ref 75), some (.int l1)] [.int l1, .ref 87, .int l1, .ref 87] μ)
    refine v_bipush hX 15 dX9_notes_28 rfl (?_ : V X 30 [some (.ref 75), some (.int l1)] [.int 15, .int l1, .ref 87, .int l1, .ref 87] μ)
    refine v_iadd hX dX9_notes_30 (?_ : V X 31 [some (.ref 75), some (.int l1)] [.int (l1 + 15), .ref 87, .int l1, .ref 87] μ)
    have hb4 := h.1
    replace h := h.2
    refine w_iald hX (Int32.toNatClampNeg (l1 + 15)) sh_87 hb4 rfl dX9_notes_31 (?_ : V X 32 [some (.ref 75), some (.int l1)] [.int (gi μ 87 (Int32.toNatClampNeg (l1 + 15))), .int l1, .ref 87] μ)
    have hb5 := h.1
    replace h := h.2
    refine w_iast hX (Int32.toNatClampNeg l1) sh_87 hb5 rfl dX9_notes_32 (fun μ6 e7 => (?_ : V X 33 [some (.ref 75), some (.int l1)] [] μ6))
    replace h := h μ6 e7
    refine v_iinc hX 1 dX9_notes_33 (by rw [hn]; decide) rfl rfl (?_ : V X 36 [some (.ref 75), some (.int (l1 + 1))] [] μ6)
    refine v_goto hX 11 dX9_notes_36 rfl (?_ : V X 11 [some (.ref 75), some (.int (l1 + 1))] [] μ6)
    exact v_mask [true, true] (hJ11 _ _ h)
def vc_X9_notes_47  (l1 : Int32) (μ : Mem) (R : Mem → Prop) (J11 : Int32 → Mem → Prop) (J47 : Int32 → Mem → Prop) : Prop :=
  ((15 ≤ l1 → (∀ μ2, μ2 = ui μ 75 21 ((gi μ 75 21) + 1) → R μ2)) ∧ (¬ 15 ≤ l1 → vp_in l1 15 ∧ vp_in ((15 * (gi μ 75 21)) + l1) 150 ∧ (∀ μ6, μ6 = ui μ 87 (Int32.toNatClampNeg ((15 * (gi μ 75 21)) + l1)) (gi μ 84 (Int32.toNatClampNeg l1)) → J47 (l1 + 1) μ6)))
set_option maxRecDepth 20000 in
set_option maxHeartbeats 4000000 in
theorem wk_X9_notes_47 {X : XT} {P : Post} (hO : OkM X cX9_notes RX9 0 none P) (hn : xn X = 2)   (l1 : Int32) (μ : Mem) {R : Mem → Prop} (hR : ∀ m, R m → P none m) {J11 : Int32 → Mem → Prop} {J47 : Int32 → Mem → Prop} (hJ11 : ∀ (l1 : Int32) (m : Mem), J11 l1 m → V X 11 [some (.ref 75), some (.int l1)] [] m) (hJ47 : ∀ (l1 : Int32) (m : Mem), J47 l1 m → V X 47 [some (.ref 75), some (.int l1)] [] m)  (h : vc_X9_notes_47  l1 μ R J11 J47) : V X 47 [some (.ref 75), some (.int l1)] [] μ := by
  have hX := hO.1
  unfold vc_X9_notes_47 at h
  refine v_iload_n hX dX9_notes_47 rfl (?_ : V X 48 [some (.ref 75), some (.int l1)] [.int l1] μ)
  refine v_bipush hX 15 dX9_notes_48 rfl (?_ : V X 50 [some (.ref 75), some (.int l1)] [.int 15, .int l1] μ)
  refine v_icmp_ge hX 79 dX9_notes_50 rfl (fun c1 => ?_) (fun c1 => ?_)
  · replace h := h.1 c1
    refine v_aload_n hX dX9_notes_79 rfl (?_ : V X 80 [some (.ref 75), some (.int l1)] [.ref 75] μ)
    refine v_dup hX dX9_notes_80 rfl (?_ : V X 81 [some (.ref 75), some (.int l1)] [.ref 75, .ref 75] μ)
    refine v_geti hX fk_X9_139 sh_75 rfl dX9_notes_81 (?_ : V X 84 [some (.ref 75), some (.int l1)] [.int (gi μ 75 21), .ref 75] μ)
    refine v_iconst hX 1 dX9_notes_84 rfl (?_ : V X 85 [some (.ref 75), some (.int l1)] [.int 1, .int (gi μ 75 21), .ref 75] μ)
    refine v_iadd hX dX9_notes_85 (?_ : V X 86 [some (.ref 75), some (.int l1)] [.int ((gi μ 75 21) + 1), .ref 75] μ)
    refine w_puti hX fk_X9_139 fw_9_21 sh_75 rfl dX9_notes_86 (fun μ2 e3 => (?_ : V X 89 [some (.ref 75), some (.int l1)] [] μ2))
    replace h := h μ2 e3
    exact v_vret hO dX9_notes_89 (hR _ h)
  · replace h := h.2 c1
    refine v_aload_n hX dX9_notes_53 rfl (?_ : V X 54 [some (.ref 75), some (.int l1)] [.ref 75] μ)
    refine v_getr hX (87) fk_X9_44 sh_75 rfl rfl dX9_notes_54 (?_ : V X 57 [some (.ref 75), some (.int l1)] [.ref 87] μ)
    refine v_bipush hX 15 dX9_notes_57 rfl (?_ : V X 59 [some (.ref 75), some (.int l1)] [.int 15, .ref 87] μ)
    refine v_aload_n hX dX9_notes_59 rfl (?_ : V X 60 [some (.ref 75), some (.int l1)] [.ref 75, .int 15, .ref 87] μ)
    refine v_geti hX fk_X9_139 sh_75 rfl dX9_notes_60 (?_ : V X 63 [some (.ref 75), some (.int l1)] [.int (gi μ 75 21), .int 15, .ref 87] μ)
    refine v_imul hX dX9_notes_63 (?_ : V X 64 [some (.ref 75), some (.int l1)] [.int (15 * (gi μ 75 21)), .ref 87] μ)
    refine v_iload_n hX dX9_notes_64 rfl (?_ : V X 65 [some (.ref 75), some (.int l1)] [.int l1, .int (15 * (gi μ 75 21)), .ref 87] μ)
    refine v_iadd hX dX9_notes_65 (?_ : V X 66 [some (.ref 75), some (.int l1)] [.int ((15 * (gi μ 75 21)) + l1), .ref 87] μ)
    refine v_aload_n hX dX9_notes_66 rfl (?_ : V X 67 [some (.ref 75), some (.int l1)] [.ref 75, .int ((15 * (gi μ 75 21)) + l1), .ref 87] μ)
    refine v_getr hX (84) fk_X9_34 sh_75 rfl rfl dX9_notes_67 (?_ : V X 70 [some (.ref 75), some (.int l1)] [.ref 84, .int ((15 * (gi μ 75 21)) + l1), .ref 87] μ)
    refine v_iload_n hX dX9_notes_70 rfl (?_ : V X 71 [some (.ref 75), some (.int l1)] [.int l1, .ref 84, .int ((15 * (gi μ 75 21)) + l1), .ref 87] μ)
    have hb4 := h.1
    replace h := h.2
    refine w_iald hX (Int32.toNatClampNeg l1) sh_84 hb4 rfl dX9_notes_71 (?_ : V X 72 [some (.ref 75), some (.int l1)] [.int (gi μ 84 (Int32.toNatClampNeg l1)), .int ((15 * (gi μ 75 21)) + l1), .ref 87] μ)
    have hb5 := h.1
    replace h := h.2
    refine w_iast hX (Int32.toNatClampNeg ((15 * (gi μ 75 21)) + l1)) sh_87 hb5 rfl dX9_notes_72 (fun μ6 e7 => (?_ : V X 73 [some (.ref 75), some (.int l1)] [] μ6))
    replace h := h μ6 e7
    refine v_iinc hX 1 dX9_notes_73 (by rw [hn]; decide) rfl rfl (?_ : V X 76 [some (.ref 75), some (.int (l1 + 1))] [] μ6)
    refine v_goto hX 47 dX9_notes_76 rfl (?_ : V X 47 [some (.ref 75), some (.int (l1 + 1))] [] μ6)
    exact v_mask [true, true] (hJ47 _ _ h)
set_option maxRecDepth 20000 in
set_option maxHeartbeats 4000000 in
theorem vp_X9_notes_0   (μ : Mem) (hpre : pre_X9_notes  μ) : vc_X9_notes_0  μ (post_X9_notes  μ) (fun l1 m => ∃ k : Nat, inv_X9_notes_11  μ k l1 m) (fun l1 m => ∃ k : Nat, inv_X9_notes_47  μ k l1 m) := by
  simp only [vc_X9_notes_0, and_imp, call_eq, forall_eq, forall_const, true_and, and_true]
  unfold pre_X9_notes at hpre
  have hb := hpre.2
  refine ⟨fun c => ?_, fun c => ?_⟩
  · have hne : gn μ 75 21 ≠ 10 := fun q => c (by rw [hpre.1, q]; rfl)
    have hm : min (gn μ 75 21 + 1) 10 = gn μ 75 21 + 1 := Nat.min_eq_left (by omega)
    refine ⟨15, 0, by omega, rfl, rfl, fr_refl _ _, fun _ _ => rfl, ?_, fun k hk => absurd hk (Nat.not_lt_zero k), fun k hk => ?_⟩
    · rw [hm]; exact hpre.1
    · rw [if_neg hne]
  · have heq : gn μ 75 21 = 10 := by
      rw [hpre.1, show (10 : Int32) = nI 10 from rfl] at c
      exact (nI_eq (by omega) (by omega)).mp c
    exact ⟨1135, 0, by omega, rfl, rfl, heq, fr_refl _ _, fun k hk => absurd hk (Nat.not_lt_zero k), fun _ _ => rfl⟩
set_option maxRecDepth 20000 in
set_option maxHeartbeats 4000000 in
theorem vp_X9_notes_11   (μ : Mem) (hpre : pre_X9_notes  μ) (n : Nat) (l1 : Int32) (μ0 : Mem) (hi : inv_X9_notes_11  μ n l1 μ0) : vc_X9_notes_11  l1 μ0 (post_X9_notes  μ) (fun l1 m => ∃ k : Nat, k < n ∧ inv_X9_notes_11  μ k l1 m) (fun l1 m => ∃ k : Nat, k < n ∧ inv_X9_notes_47  μ k l1 m) := by
  simp only [vc_X9_notes_11, and_imp, call_eq, forall_eq, forall_const, true_and, and_true]
  obtain ⟨i, hi1, rfl, rfl, hq, hf, h1, h2⟩ := hi
  rw [show (135 : Int32) = nI 135 from rfl, show (15 : Int32) = nI 15 from rfl, nI_leI (by omega) (by omega), nI_add, nI_clamp (by omega), nI_clamp (by omega)]
  have hm : min (gn μ 75 21 + 1) 10 - 1 = 9 := by rw [hq]; rfl
  refine ⟨fun c => ?_, fun c => ⟨vp_in_nI (by omega) (by omega), vp_in_nI (by omega) (by omega), 1000 + 135 - (i + 1), by omega, i + 1, by omega, rfl, nI_1 i, hq, fr_trans hf (fr_ui (by simp)), fun k hk => ?_, fun k hk => ?_⟩⟩
  · refine ⟨15, by omega, 0, by omega, rfl, rfl, fr_trans (fr_mono hf (by simp)) (fr_ui (by simp)), fun k hk => ?_, ?_, fun k hk => absurd hk (Nat.not_lt_zero k), fun k hk => ?_⟩
    · rw [gi_ui, if_neg (by simp [hk]), hf.1 75 (by simp)]
    · rw [gi_ui, if_pos ⟨rfl, rfl⟩, hm]; rfl
    · rw [hm] at hk
      rw [gi_ui, if_neg (by simp), h1 k (by omega), if_pos hq]
  · rw [gi_ui]
    by_cases e : k = i
    · rw [if_pos ⟨rfl, e⟩, e, h2 (i + 15) (by omega)]
    · rw [if_neg (by simp [e]), h1 k (by omega)]
  · rw [gi_ui, if_neg (by omega), h2 k (by omega)]
set_option maxRecDepth 20000 in
set_option maxHeartbeats 4000000 in
theorem vp_X9_notes_47   (μ : Mem) (hpre : pre_X9_notes  μ) (n : Nat) (l1 : Int32) (μ0 : Mem) (hi : inv_X9_notes_47  μ n l1 μ0) : vc_X9_notes_47  l1 μ0 (post_X9_notes  μ) (fun l1 m => ∃ k : Nat, k < n ∧ inv_X9_notes_11  μ k l1 m) (fun l1 m => ∃ k : Nat, k < n ∧ inv_X9_notes_47  μ k l1 m) := by
  simp only [vc_X9_notes_47, and_imp, call_eq, forall_eq, forall_const, true_and, and_true]
  obtain ⟨i, hi1, rfl, rfl, hf, h1, h2, h3, h4⟩ := hi
  unfold pre_X9_notes at hpre
  have hb := hpre.2
  generalize hM : min (gn μ 75 21 + 1) 10 = M at *
  have hM1 : 1 ≤ M := by omega
  have hM2 : M ≤ 10 := by omega
  have e15 : (15 * gi μ0 75 21) + nI i = nI (15 * (M - 1) + i) := by
    rw [h2, show (15 : Int32) = nI 15 from rfl, pk_mul, nI_add]
  rw [e15, show (15 : Int32) = nI 15 from rfl, nI_leI (by omega) (by omega), nI_clamp (by omega), nI_clamp (by omega)]
  refine ⟨fun c => ?_, fun c => ⟨vp_in_nI (by omega) (by omega), vp_in_nI (by omega) (by omega), 15 - (i + 1), by omega, i + 1, by omega, rfl, nI_1 i, fr_trans hf (fr_ui (by simp)), fun k hk => ?_, ?_, fun k hk => ?_, fun k hk => ?_⟩⟩
  · have : i = 15 := by omega
    subst this
    unfold post_X9_notes
    rw [hM]
    refine ⟨fr_trans hf (fr_ui (by simp)), fun k hk => ?_, ?_, fun k hk => ?_, fun k hk => ?_⟩
    · rw [gi_ui, if_neg (by simp [hk]), h1 k hk]
    · rw [gi_ui, if_pos ⟨rfl, rfl⟩, h2, nI_1]; congr 1; omega
    · rw [gi_ui, if_neg (by simp), h3 k hk]
    · rw [gi_ui, if_neg (by simp), h4 k hk]
  · rw [gi_ui, if_neg (by simp), h1 k hk]
  · rw [gi_ui, if_neg (by simp), h2, hM]
  · rw [hM, gi_ui]
    by_cases e : k = i
    · rw [if_pos ⟨rfl, by rw [e]⟩, e, hf.1 84 (by simp)]
    · rw [if_neg (by omega), h3 k (by omega)]
  · rw [hM] at hk
    rw [gi_ui, if_neg (by omega), h4 k hk]
theorem sp_X9_notes : Sp yX9_notes cX9_notes 2 none 0 S_X9_notes := by
  refine sp_of (by decide) (fun av μ P h => ?_) ?_
  · obtain ⟨rfl, -⟩ := h
    refine ⟨Nat.le_of_ble_eq_true rfl, fun v hv => ?_⟩
    simp only [List.mem_cons, List.not_mem_nil, or_false] at hv
    subst hv; rfl
  · rintro X P hO _ μ ⟨rfl, hpre, hpost⟩ hn
    have hJ : ∀ n : Nat, (∀ (l1 : Int32) (m : Mem), inv_X9_notes_11  μ n l1 m → V X 11 [some (.ref 75), some (.int l1)] [] m) ∧ (∀ (l1 : Int32) (m : Mem), inv_X9_notes_47  μ n l1 m → V X 47 [some (.ref 75), some (.int l1)] [] m) := by
      intro n
      induction n using Nat.strongRecOn with
      | _ n ih =>
        exact ⟨fun l1 m hi => wk_X9_notes_11 (J11 := (fun l1 m => ∃ k : Nat, k < n ∧ inv_X9_notes_11  μ k l1 m)) (J47 := (fun l1 m => ∃ k : Nat, k < n ∧ inv_X9_notes_47  μ k l1 m)) hO hn   l1 m hpost (fun l1 m hk => by obtain ⟨k, hk, hi⟩ := hk; exact (ih k hk).1 l1 m hi) (fun l1 m hk => by obtain ⟨k, hk, hi⟩ := hk; exact (ih k hk).2 l1 m hi) (vp_X9_notes_11   μ hpre n l1 m hi), fun l1 m hi => wk_X9_notes_47 (J11 := (fun l1 m => ∃ k : Nat, k < n ∧ inv_X9_notes_11  μ k l1 m)) (J47 := (fun l1 m => ∃ k : Nat, k < n ∧ inv_X9_notes_47  μ k l1 m)) hO hn   l1 m hpost (fun l1 m hk => by obtain ⟨k, hk, hi⟩ := hk; exact (ih k hk).1 l1 m hi) (fun l1 m hk => by obtain ⟨k, hk, hi⟩ := hk; exact (ih k hk).2 l1 m hi) (vp_X9_notes_47   μ hpre n l1 m hi)⟩
    exact wk_X9_notes_0 (J11 := (fun l1 m => ∃ k : Nat, inv_X9_notes_11  μ k l1 m)) (J47 := (fun l1 m => ∃ k : Nat, inv_X9_notes_47  μ k l1 m)) hO hn   μ hpost (fun l1 m hk => by obtain ⟨k, hi⟩ := hk; exact (hJ k).1 l1 m hi) (fun l1 m hk => by obtain ⟨k, hi⟩ := hk; exact (hJ k).2 l1 m hi) (vp_X9_notes_0   μ hpre)

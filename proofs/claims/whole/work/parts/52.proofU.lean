theorem max_nI {a b : Nat} (ha : a < 2 ^ 31) (hb : b < 2 ^ 31) : (if nI a < nI b then nI b else nI a) = nI (max a b) := by
  split
  · rename_i h
    have := (nI_ltI ha hb).mp h
    rw [Nat.max_eq_right (by omega)]
  · rename_i h
    have : ¬ a < b := fun q => h ((nI_ltI ha hb).mpr q)
    rw [Nat.max_eq_left (by omega)]
theorem min_nI {a b : Nat} (ha : a < 2 ^ 31) (hb : b < 2 ^ 31) : (if nI b < nI a then nI b else nI a) = nI (min a b) := by
  split
  · rename_i h
    have := (nI_ltI hb ha).mp h
    rw [Nat.min_eq_right (by omega)]
  · rename_i h
    have : ¬ b < a := fun q => h ((nI_ltI hb ha).mpr q)
    rw [Nat.min_eq_left (by omega)]
def S_X3_neededOf : Tr := fun av μ P => ∃ (p1 : Int32), av = [.ref 68, .int p1] ∧ pre_X3_neededOf p1 μ ∧ ∀ (x : Int32) (m : Mem), post_X3_neededOf p1 μ x m → P (some (.int x)) m
def vc_X3_neededOf_0 (p1 : Int32)  (μ : Mem) (R : Int32 → Mem → Prop) (J5 : Int32 → Int32 → Mem → Prop) : Prop :=
  J5 6 0 μ
set_option maxRecDepth 20000 in
set_option maxHeartbeats 4000000 in
theorem wk_X3_neededOf_0 {X : XT} {P : Post} (hO : OkM X cX3_neededOf RX3 1 (some .int) P) (hn : xn X = 6) (p1 : Int32)   (μ : Mem) {R : Int32 → Mem → Prop} (hR : ∀ x m, R x m → P (some (.int x)) m) {J5 : Int32 → Int32 → Mem → Prop} (hJ5 : ∀ (l2 : Int32) (l3 : Int32) (m : Mem), J5 l2 l3 m → V X 5 [some (.ref 68), some (.int p1), some (.int l2), some (.int l3), none, none] [] m)  (h : vc_X3_neededOf_0 p1  μ R J5) : V X 0 [some (.ref 68), some (.int p1), none, none, none, none] [] μ := by
  have hX := hO.1
  unfold vc_X3_neededOf_0 at h
  refine v_bipush hX 6 dX3_neededOf_0 rfl (?_ : V X 2 [some (.ref 68), some (.int p1), none, none, none, none] [.int 6] μ)
  refine v_istore_n hX dX3_neededOf_2 (by rw [hn]; decide) (?_ : V X 3 [some (.ref 68), some (.int p1), some (.int 6), none, none, none] [] μ)
  refine v_iconst hX 0 dX3_neededOf_3 rfl (?_ : V X 4 [some (.ref 68), some (.int p1), some (.int 6), none, none, none] [.int 0] μ)
  refine v_istore_n hX dX3_neededOf_4 (by rw [hn]; decide) (?_ : V X 5 [some (.ref 68), some (.int p1), some (.int 6), some (.int 0), none, none] [] μ)
  exact v_mask [true, true, true, true, false, false] (hJ5 _ _ _ h)
def vc_X3_neededOf_5 (p1 : Int32) (l2 : Int32) (l3 : Int32) (μ : Mem) (R : Int32 → Mem → Prop) (J5 : Int32 → Int32 → Mem → Prop) : Prop :=
  ((5 ≤ l3 → ((l2 ≤ 5 → R l2 μ) ∧ (¬ l2 ≤ 5 → R 0 μ))) ∧ (¬ 5 ≤ l3 → vp_in l3 5 ∧ (∀ y4 : Int32, y4 = (p1 &&& (gi μ 70 (Int32.toNatClampNeg l3))) → vp_in l3 5 ∧ (∀ y7 : Int32, y7 = (p1 &&& ((gi μ 70 (Int32.toNatClampNeg l3)) ^^^ ((-1)))) → ((y4 = 0 → J5 l2 (l3 + 1) μ) ∧ (¬ y4 = 0 → ((y7 = 0 → J5 l2 (l3 + 1) μ) ∧ (¬ y7 = 0 → vp_in y4 64 ∧ vp_in y7 64 ∧ (∀ y13 : Int32, y13 = (if (1 + (if (gi μ 69 (Int32.toNatClampNeg y4)) < (gi μ 69 (Int32.toNatClampNeg y7)) then (gi μ 69 (Int32.toNatClampNeg y7)) else (gi μ 69 (Int32.toNatClampNeg y4)))) < l2 then (1 + (if (gi μ 69 (Int32.toNatClampNeg y4)) < (gi μ 69 (Int32.toNatClampNeg y7)) then (gi μ 69 (Int32.toNatClampNeg y7)) else (gi μ 69 (Int32.toNatClampNeg y4)))) else l2) → J5 y13 (l3 + 1) μ)))))))))
set_option maxRecDepth 20000 in
set_option maxHeartbeats 4000000 in
theorem wk_X3_neededOf_5 {X : XT} {P : Post} (hO : OkM X cX3_neededOf RX3 1 (some .int) P) (hn : xn X = 6) (p1 : Int32)  (l2 : Int32) (l3 : Int32) (μ : Mem) {R : Int32 → Mem → Prop} (hR : ∀ x m, R x m → P (some (.int x)) m) {J5 : Int32 → Int32 → Mem → Prop} (hJ5 : ∀ (l2 : Int32) (l3 : Int32) (m : Mem), J5 l2 l3 m → V X 5 [some (.ref 68), some (.int p1), some (.int l2), some (.int l3), none, none] [] m)  (h : vc_X3_neededOf_5 p1 l2 l3 μ R J5) : V X 5 [some (.ref 68), some (.int p1), some (.int l2), some (.int l3), none, none] [] μ := by
  have hX := hO.1
  unfold vc_X3_neededOf_5 at h
  refine v_iload_n hX dX3_neededOf_5 rfl (?_ : V X 6 [some (.ref 68), some (.int p1), some (.int l2), some (.int l3), none, none] [.int l3] μ)
  refine v_iconst hX 5 dX3_neededOf_6 rfl (?_ : V X 7 [some (.ref 68), some (.int p1), some (.int l2), some (.int l3), none, none] [.int 5, .int l3] μ)
  refine v_icmp_ge hX 72 dX3_neededOf_7 rfl (fun c1 => ?_) (fun c1 => ?_)
  · replace h := h.1 c1
    refine v_iload_n hX dX3_neededOf_72 rfl (?_ : V X 73 [some (.ref 68), some (.int p1), some (.int l2), some (.int l3), none, none] [.int l2] μ)
    refine v_iconst hX 5 dX3_neededOf_73 rfl (?_ : V X 74 [some (.ref 68), some (.int p1), some (.int l2), some (.int l3), none, none] [.int 5, .int l2] μ)
    refine v_icmp_le hX 81 dX3_neededOf_74 rfl (fun c2 => ?_) (fun c2 => ?_)
    · replace h := h.1 c2
      refine v_iload_n hX dX3_neededOf_81 rfl (?_ : V X 82 [some (.ref 68), some (.int p1), some (.int l2), some (.int l3), none, none] [.int l2] μ)
      exact v_iret hO dX3_neededOf_82 (hR _ _ h)
    · replace h := h.2 c2
      refine v_iconst hX 0 dX3_neededOf_77 rfl (?_ : V X 78 [some (.ref 68), some (.int p1), some (.int l2), some (.int l3), none, none] [.int 0] μ)
      refine v_goto hX 82 dX3_neededOf_78 rfl (?_ : V X 82 [some (.ref 68), some (.int p1), some (.int l2), some (.int l3), none, none] [.int 0] μ)
      exact v_iret hO dX3_neededOf_82 (hR _ _ h)
  · replace h := h.2 c1
    refine v_iload_n hX dX3_neededOf_10 rfl (?_ : V X 11 [some (.ref 68), some (.int p1), some (.int l2), some (.int l3), none, none] [.int p1] μ)
    refine v_aload_n hX dX3_neededOf_11 rfl (?_ : V X 12 [some (.ref 68), some (.int p1), some (.int l2), some (.int l3), none, none] [.ref 68, .int p1] μ)
    refine v_getr hX (70) fk_X3_9 sh_68 rfl rfl dX3_neededOf_12 (?_ : V X 15 [some (.ref 68), some (.int p1), some (.int l2), some (.int l3), none, none] [.ref 70, .int p1] μ)
    refine v_iload_n hX dX3_neededOf_15 rfl (?_ : V X 16 [some (.ref 68), some (.int p1), some (.int l2), some (.int l3), none, none] [.int l3, .ref 70, .int p1] μ)
    have hb3 := h.1
    replace h := h.2
    refine w_iald hX (Int32.toNatClampNeg l3) sh_70 hb3 rfl dX3_neededOf_16 (?_ : V X 17 [some (.ref 68), some (.int p1), some (.int l2), some (.int l3), none, none] [.int (gi μ 70 (Int32.toNatClampNeg l3)), .int p1] μ)
    refine v_iand hX dX3_neededOf_17 (?_ : V X 18 [some (.ref 68), some (.int p1), some (.int l2), some (.int l3), none, none] [.int (p1 &&& (gi μ 70 (Int32.toNatClampNeg l3)))] μ)
    refine w_istore hX dX3_neededOf_18 (by rw [hn]; decide) (fun y4 e5 => (?_ : V X 20 [some (.ref 68), some (.int p1), some (.int l2), some (.int l3), some (.int y4), none] [] μ))
    replace h := h y4 e5
    refine v_iload_n hX dX3_neededOf_20 rfl (?_ : V X 21 [some (.ref 68), some (.int p1), some (.int l2), some (.int l3), some (.int y4), none] [.int p1] μ)
    refine v_aload_n hX dX3_neededOf_21 rfl (?_ : V X 22 [some (.ref 68), some (.int p1), some (.int l2), some (.int l3), some (.int y4), none] [.ref 68, .int p1] μ)
    refine v_getr hX (70) fk_X3_9 sh_68 rfl rfl dX3_neededOf_22 (?_ : V X 25 [some (.ref 68), some (.int p1), some (.int l2), some (.int l3), some (.int y4), none] [.ref 70, .int p1] μ)
    refine v_iload_n hX dX3_neededOf_25 rfl (?_ : V X 26 [some (.ref 68), some (.int p1), some (.int l2), some (.int l3), some (.int y4), none] [.int l3, .ref 70, .int p1] μ)
    have hb6 := h.1
    replace h := h.2
    refine w_iald hX (Int32.toNatClampNeg l3) sh_70 hb6 rfl dX3_neededOf_26 (?_ : V X 27 [some (.ref 68), some (.int p1), some (.int l2), some (.int l3), some (.int y4), none] [.int (gi μ 70 (Int32.toNatClampNeg l3)), .int p1] μ)
    refine v_iconst hX (-1) dX3_neededOf_27 rfl (?_ : V X 28 [some (.ref 68), some (.int p1), some (.int l2), some (.int l3), some (.int y4), none] [.int ((-1)), .int (gi μ 70 (Int32.toNatClampNeg l3)), .int p1] μ)
    refine v_ixor hX dX3_neededOf_28 (?_ : V X 29 [some (.ref 68), some (.int p1), some (.int l2), some (.int l3), some (.int y4), none] [.int ((gi μ 70 (Int32.toNatClampNeg l3)) ^^^ ((-1))), .int p1] μ)
    refine v_iand hX dX3_neededOf_29 (?_ : V X 30 [some (.ref 68), some (.int p1), some (.int l2), some (.int l3), some (.int y4), none] [.int (p1 &&& ((gi μ 70 (Int32.toNatClampNeg l3)) ^^^ ((-1))))] μ)
    refine w_istore hX dX3_neededOf_30 (by rw [hn]; decide) (fun y7 e8 => (?_ : V X 32 [some (.ref 68), some (.int p1), some (.int l2), some (.int l3), some (.int y4), some (.int y7)] [] μ))
    replace h := h y7 e8
    refine v_iload hX dX3_neededOf_32 rfl (?_ : V X 34 [some (.ref 68), some (.int p1), some (.int l2), some (.int l3), some (.int y4), some (.int y7)] [.int y4] μ)
    refine v_if_eq hX 66 dX3_neededOf_34 rfl (fun c9 => ?_) (fun c9 => ?_)
    · replace h := h.1 c9
      refine v_iinc hX 1 dX3_neededOf_66 (by rw [hn]; decide) rfl rfl (?_ : V X 69 [some (.ref 68), some (.int p1), some (.int l2), some (.int (l3 + 1)), some (.int y4), some (.int y7)] [] μ)
      refine v_goto hX 5 dX3_neededOf_69 rfl (?_ : V X 5 [some (.ref 68), some (.int p1), some (.int l2), some (.int (l3 + 1)), some (.int y4), some (.int y7)] [] μ)
      exact v_mask [true, true, true, true, false, false] (hJ5 _ _ _ h)
    · replace h := h.2 c9
      refine v_iload hX dX3_neededOf_37 rfl (?_ : V X 39 [some (.ref 68), some (.int p1), some (.int l2), some (.int l3), some (.int y4), some (.int y7)] [.int y7] μ)
      refine v_if_eq hX 66 dX3_neededOf_39 rfl (fun c10 => ?_) (fun c10 => ?_)
      · replace h := h.1 c10
        refine v_iinc hX 1 dX3_neededOf_66 (by rw [hn]; decide) rfl rfl (?_ : V X 69 [some (.ref 68), some (.int p1), some (.int l2), some (.int (l3 + 1)), some (.int y4), some (.int y7)] [] μ)
        refine v_goto hX 5 dX3_neededOf_69 rfl (?_ : V X 5 [some (.ref 68), some (.int p1), some (.int l2), some (.int (l3 + 1)), some (.int y4), some (.int y7)] [] μ)
        exact v_mask [true, true, true, true, false, false] (hJ5 _ _ _ h)
      · replace h := h.2 c10
        refine v_iload_n hX dX3_neededOf_42 rfl (?_ : V X 43 [some (.ref 68), some (.int p1), some (.int l2), some (.int l3), some (.int y4), some (.int y7)] [.int l2] μ)
        refine v_iconst hX 1 dX3_neededOf_43 rfl (?_ : V X 44 [some (.ref 68), some (.int p1), some (.int l2), some (.int l3), some (.int y4), some (.int y7)] [.int 1, .int l2] μ)
        refine v_aload_n hX dX3_neededOf_44 rfl (?_ : V X 45 [some (.ref 68), some (.int p1), some (.int l2), some (.int l3), some (.int y4), some (.int y7)] [.ref 68, .int 1, .int l2] μ)
        refine v_getr hX (69) fk_X3_15 sh_68 rfl rfl dX3_neededOf_45 (?_ : V X 48 [some (.ref 68), some (.int p1), some (.int l2), some (.int l3), some (.int y4), some (.int y7)] [.ref 69, .int 1, .int l2] μ)
        refine v_iload hX dX3_neededOf_48 rfl (?_ : V X 50 [some (.ref 68), some (.int p1), some (.int l2), some (.int l3), some (.int y4), some (.int y7)] [.int y4, .ref 69, .int 1, .int l2] μ)
        have hb11 := h.1
        replace h := h.2
        refine w_iald hX (Int32.toNatClampNeg y4) sh_69 hb11 rfl dX3_neededOf_50 (?_ : V X 51 [some (.ref 68), some (.int p1), some (.int l2), some (.int l3), some (.int y4), some (.int y7)] [.int (gi μ 69 (Int32.toNatClampNeg y4)), .int 1, .int l2] μ)
        refine v_aload_n hX dX3_neededOf_51 rfl (?_ : V X 52 [some (.ref 68), some (.int p1), some (.int l2), some (.int l3), some (.int y4), some (.int y7)] [.ref 68, .int (gi μ 69 (Int32.toNatClampNeg y4)), .int 1, .int l2] μ)
        refine v_getr hX (69) fk_X3_15 sh_68 rfl rfl dX3_neededOf_52 (?_ : V X 55 [some (.ref 68), some (.int p1), some (.int l2), some (.int l3), some (.int y4), some (.int y7)] [.ref 69, .int (gi μ 69 (Int32.toNatClampNeg y4)), .int 1, .int l2] μ)
        refine v_iload hX dX3_neededOf_55 rfl (?_ : V X 57 [some (.ref 68), some (.int p1), some (.int l2), some (.int l3), some (.int y4), some (.int y7)] [.int y7, .ref 69, .int (gi μ 69 (Int32.toNatClampNeg y4)), .int 1, .int l2] μ)
        have hb12 := h.1
        replace h := h.2
        refine w_iald hX (Int32.toNatClampNeg y7) sh_69 hb12 rfl dX3_neededOf_57 (?_ : V X 58 [some (.ref 68), some (.int p1), some (.int l2), some (.int l3), some (.int y4), some (.int y7)] [.int (gi μ 69 (Int32.toNatClampNeg y7)), .int (gi μ 69 (Int32.toNatClampNeg y4)), .int 1, .int l2] μ)
        refine v_mmax hX mk_X3_43 twMax (by decide) (Nat.le_of_ble_eq_true rfl) dX3_neededOf_58 (?_ : V X 61 [some (.ref 68), some (.int p1), some (.int l2), some (.int l3), some (.int y4), some (.int y7)] [.int (if (gi μ 69 (Int32.toNatClampNeg y4)) < (gi μ 69 (Int32.toNatClampNeg y7)) then (gi μ 69 (Int32.toNatClampNeg y7)) else (gi μ 69 (Int32.toNatClampNeg y4))), .int 1, .int l2] μ)
        refine v_iadd hX dX3_neededOf_61 (?_ : V X 62 [some (.ref 68), some (.int p1), some (.int l2), some (.int l3), some (.int y4), some (.int y7)] [.int (1 + (if (gi μ 69 (Int32.toNatClampNeg y4)) < (gi μ 69 (Int32.toNatClampNeg y7)) then (gi μ 69 (Int32.toNatClampNeg y7)) else (gi μ 69 (Int32.toNatClampNeg y4)))), .int l2] μ)
        refine v_mmin hX mk_X3_52 twMin (by decide) (Nat.le_of_ble_eq_true rfl) dX3_neededOf_62 (?_ : V X 65 [some (.ref 68), some (.int p1), some (.int l2), some (.int l3), some (.int y4), some (.int y7)] [.int (if (1 + (if (gi μ 69 (Int32.toNatClampNeg y4)) < (gi μ 69 (Int32.toNatClampNeg y7)) then (gi μ 69 (Int32.toNatClampNeg y7)) else (gi μ 69 (Int32.toNatClampNeg y4)))) < l2 then (1 + (if (gi μ 69 (Int32.toNatClampNeg y4)) < (gi μ 69 (Int32.toNatClampNeg y7)) then (gi μ 69 (Int32.toNatClampNeg y7)) else (gi μ 69 (Int32.toNatClampNeg y4)))) else l2)] μ)
        refine w_istore_n hX dX3_neededOf_65 (by rw [hn]; decide) (fun y13 e14 => (?_ : V X 66 [some (.ref 68), some (.int p1), some (.int y13), some (.int l3), some (.int y4), some (.int y7)] [] μ))
        replace h := h y13 e14
        refine v_iinc hX 1 dX3_neededOf_66 (by rw [hn]; decide) rfl rfl (?_ : V X 69 [some (.ref 68), some (.int p1), some (.int y13), some (.int (l3 + 1)), some (.int y4), some (.int y7)] [] μ)
        refine v_goto hX 5 dX3_neededOf_69 rfl (?_ : V X 5 [some (.ref 68), some (.int p1), some (.int y13), some (.int (l3 + 1)), some (.int y4), some (.int y7)] [] μ)
        exact v_mask [true, true, true, true, false, false] (hJ5 _ _ _ h)
set_option maxRecDepth 20000 in
set_option maxHeartbeats 4000000 in
theorem vp_X3_neededOf_0 (p1 : Int32)  (μ : Mem) (hpre : pre_X3_neededOf p1 μ) : vc_X3_neededOf_0 p1 μ (post_X3_neededOf p1 μ) (fun l2 l3 m => ∃ k : Nat, inv_X3_neededOf_5 p1 μ k l2 l3 m) := by
  simp only [vc_X3_neededOf_0, and_imp, call_eq, forall_eq, forall_const, true_and, and_true]
  exact ⟨5, 0, by omega, rfl, rfl, rfl, by simp [stp], rfl⟩
set_option maxRecDepth 20000 in
set_option maxHeartbeats 4000000 in
theorem vp_X3_neededOf_5 (p1 : Int32)  (μ : Mem) (hpre : pre_X3_neededOf p1 μ) (n : Nat) (l2 : Int32) (l3 : Int32) (μ0 : Mem) (hi : inv_X3_neededOf_5 p1 μ n l2 l3 μ0) : vc_X3_neededOf_5 p1 l2 l3 μ0 (post_X3_neededOf p1 μ) (fun l2 l3 m => ∃ k : Nat, k < n ∧ inv_X3_neededOf_5 p1 μ k l2 l3 m) := by
  simp only [vc_X3_neededOf_5, and_imp, call_eq, forall_eq, forall_const, true_and, and_true]
  obtain ⟨e, he, hh, hT⟩ := hpre
  obtain ⟨i, hi1, rfl, rfl, rfl, hle, rfl⟩ := hi
  rw [show (5 : Int32) = nI 5 from rfl, nI_leI (by omega) (by omega), nI_leI (by omega) (by omega), nI_clamp (by omega)]
  refine ⟨fun c => ⟨fun c2 => ?_, fun c2 => ?_⟩, fun c => ?_⟩
  · have : i = 5 := by omega
    subst this
    exact ⟨by rw [if_neg (by omega)], rfl⟩
  · have : i = 5 := by omega
    subst this
    exact ⟨by rw [if_pos (by omega)]; rfl, rfl⟩
  · have hi5 : i < 5 := by omega
    obtain ⟨g1, g2⟩ := hh i hi5
    have ey : p1 &&& gi μ0 70 i = nI (p1.toNatClampNeg &&& gn μ0 70 i) := by
      have := and_n p1.toNatClampNeg he (gn μ0 70 i) (by omega)
      rw [← e, ← g1] at this; exact this
    have en : p1 &&& (gi μ0 70 i ^^^ -1) = nI (p1.toNatClampNeg &&& (63 ^^^ gn μ0 70 i)) := by
      have := and_c p1.toNatClampNeg he (gn μ0 70 i) (by omega)
      rw [← e, ← g1] at this; exact this
    rw [ey, en]
    obtain ⟨⟨l1, l2⟩, l3⟩ := parts_lt p1.toNatClampNeg he (gn μ0 70 i) (by omega)
    have in5 : vp_in (nI i) 5 := vp_in_nI hi5 (by omega)
    have z0 : (0 : Int32) = nI 0 := rfl
    rw [z0, nI_eq (by omega) (by omega), nI_eq (by omega) (by omega), nI_clamp (by omega), nI_clamp (by omega)]
    have key : ∀ v, v = nI (stp (gn μ0 69) (gn μ0 70) 6 p1.toNatClampNeg (i + 1)) → inv_X3_neededOf_5 p1 μ0 (5 - (i + 1)) v (nI i + 1) μ0 := fun v hv => ⟨i + 1, by omega, rfl, nI_1 i, hv, stp_le _, rfl⟩
    refine ⟨in5, in5, fun c2 => ⟨5 - (i + 1), by omega, key _ ?_⟩, fun c2 => ⟨fun c3 => ⟨5 - (i + 1), by omega, key _ ?_⟩, fun c3 => ⟨vp_in_nI (by omega) (by omega), vp_in_nI (by omega) (by omega), 5 - (i + 1), by omega, key _ ?_⟩⟩⟩
    · rw [stp, if_pos (Or.inl c2)]
    · rw [stp, if_pos (Or.inr c3)]
    · have es : stp (gn μ0 69) (gn μ0 70) 6 p1.toNatClampNeg (i + 1) = min (stp (gn μ0 69) (gn μ0 70) 6 p1.toNatClampNeg i) (1 + max (gn μ0 69 (p1.toNatClampNeg &&& gn μ0 70 i)) (gn μ0 69 (p1.toNatClampNeg &&& (63 ^^^ gn μ0 70 i)))) := by
        rw [stp, if_neg (by rintro (q | q); exact c2 q; exact c3 q)]
      rw [es]
      have l4 : p1.toNatClampNeg &&& gn μ0 70 i < p1.toNatClampNeg ∧ p1.toNatClampNeg &&& (63 ^^^ gn μ0 70 i) < p1.toNatClampNeg := by
        rcases l3 with q | q | q
        · exact absurd q c2
        · exact absurd q c3
        · exact q
      obtain ⟨a1, a2⟩ := hT _ l4.1
      obtain ⟨b1, b2⟩ := hT _ l4.2
      rw [a1, b1, max_nI (by omega) (by omega), show (1 : Int32) = nI 1 from rfl, nI_add, min_nI (by omega) (by omega)]
theorem sp_X3_neededOf : Sp yX3_neededOf cX3_neededOf 6 (some .int) 1 S_X3_neededOf := by
  refine sp_of (by decide) (fun av μ P h => ?_) ?_
  · obtain ⟨p1, rfl, -⟩ := h
    refine ⟨Nat.le_of_ble_eq_true rfl, fun v hv => ?_⟩
    simp only [List.mem_cons, List.not_mem_nil, or_false] at hv
    rcases hv with rfl | rfl <;> rfl
  · rintro X P hO _ μ ⟨p1, rfl, hpre, hpost⟩ hn
    have hJ : ∀ n : Nat, (∀ (l2 : Int32) (l3 : Int32) (m : Mem), inv_X3_neededOf_5 p1 μ n l2 l3 m → V X 5 [some (.ref 68), some (.int p1), some (.int l2), some (.int l3), none, none] [] m) := by
      intro n
      induction n using Nat.strongRecOn with
      | _ n ih =>
        exact fun l2 l3 m hi => wk_X3_neededOf_5 (J5 := (fun l2 l3 m => ∃ k : Nat, k < n ∧ inv_X3_neededOf_5 p1 μ k l2 l3 m)) hO hn p1  l2 l3 m hpost (fun l2 l3 m hk => by obtain ⟨k, hk, hi⟩ := hk; exact (ih k hk) l2 l3 m hi) (vp_X3_neededOf_5 p1  μ hpre n l2 l3 m hi)
    exact wk_X3_neededOf_0 (J5 := (fun l2 l3 m => ∃ k : Nat, inv_X3_neededOf_5 p1 μ k l2 l3 m)) hO hn p1  μ hpost (fun l2 l3 m hk => by obtain ⟨k, hi⟩ := hk; exact (hJ k) l2 l3 m hi) (vp_X3_neededOf_0 p1  μ hpre)
def S_X3_mostNeeded : Tr := fun av μ P => ∃ (w : Nat) (p1 : Int32), av = [.ref 68, .ref w, .int p1] ∧ (w = 3 ∨ w = 10) ∧ pre_X3_mostNeeded w p1 μ ∧ ∀ (x : Int32) (m : Mem), post_X3_mostNeeded w p1 μ x m → P (some (.int x)) m
def vc_X3_mostNeeded_0 (w : Nat) (p1 : Int32)  (μ : Mem) (R : Int32 → Mem → Prop) (J2 : Int32 → Mem → Prop) (J26 : Int32 → Mem → Prop) : Prop :=
  J2 0 μ
set_option maxRecDepth 20000 in
set_option maxHeartbeats 4000000 in
theorem wk_X3_mostNeeded_0 {X : XT} {P : Post} (hO : OkM X cX3_mostNeeded RX3 2 (some .int) P) (hn : xn X = 4) (w : Nat) (p1 : Int32) (hw : w = 3 ∨ w = 10)  (μ : Mem) {R : Int32 → Mem → Prop} (hR : ∀ x m, R x m → P (some (.int x)) m) {J2 : Int32 → Mem → Prop} {J26 : Int32 → Mem → Prop} (hJ2 : ∀ (l3 : Int32) (m : Mem), J2 l3 m → V X 2 [some (.ref 68), some (.ref w), some (.int p1), some (.int l3)] [] m) (hJ26 : ∀ (l3 : Int32) (m : Mem), J26 l3 m → V X 26 [some (.ref 68), some (.ref w), some (.int p1), some (.int l3)] [] m)  (h : vc_X3_mostNeeded_0 w p1  μ R J2 J26) : V X 0 [some (.ref 68), some (.ref w), some (.int p1), none] [] μ := by
  have hX := hO.1
  unfold vc_X3_mostNeeded_0 at h
  refine v_iconst hX 0 dX3_mostNeeded_0 rfl (?_ : V X 1 [some (.ref 68), some (.ref w), some (.int p1), none] [.int 0] μ)
  refine v_istore_n hX dX3_mostNeeded_1 (by rw [hn]; decide) (?_ : V X 2 [some (.ref 68), some (.ref w), some (.int p1), some (.int 0)] [] μ)
  exact v_mask [true, true, true, true] (hJ2 _ _ h)
def vc_X3_mostNeeded_2 (w : Nat) (p1 : Int32) (l3 : Int32) (μ : Mem) (R : Int32 → Mem → Prop) (J2 : Int32 → Mem → Prop) (J26 : Int32 → Mem → Prop) : Prop :=
  ((5 ≤ l3 → J26 0 μ) ∧ (¬ 5 ≤ l3 → (pre_X3_withTrait w l3 μ ∧ ∀ (x2 : Int32) (μ3 : Mem), post_X3_withTrait w l3 μ x2 μ3 → vp_in l3 5 ∧ (∀ μ6, μ6 = ui μ3 70 (Int32.toNatClampNeg l3) x2 → J2 (l3 + 1) μ6))))
set_option maxRecDepth 20000 in
set_option maxHeartbeats 4000000 in
theorem wk_X3_mostNeeded_2 {X : XT} {P : Post} (hO : OkM X cX3_mostNeeded RX3 2 (some .int) P) (hn : xn X = 4) (w : Nat) (p1 : Int32) (hw : w = 3 ∨ w = 10) (l3 : Int32) (μ : Mem) {R : Int32 → Mem → Prop} (hR : ∀ x m, R x m → P (some (.int x)) m) {J2 : Int32 → Mem → Prop} {J26 : Int32 → Mem → Prop} (hJ2 : ∀ (l3 : Int32) (m : Mem), J2 l3 m → V X 2 [some (.ref 68), some (.ref w), some (.int p1), some (.int l3)] [] m) (hJ26 : ∀ (l3 : Int32) (m : Mem), J26 l3 m → V X 26 [some (.ref 68), some (.ref w), some (.int p1), some (.int l3)] [] m)  (h : vc_X3_mostNeeded_2 w p1 l3 μ R J2 J26) : V X 2 [some (.ref 68), some (.ref w), some (.int p1), some (.int l3)] [] μ := by
  have hX := hO.1
  unfold vc_X3_mostNeeded_2 at h
  refine v_iload_n hX dX3_mostNeeded_2 rfl (?_ : V X 3 [some (.ref 68), some (.ref w), some (.int p1), some (.int l3)] [.int l3] μ)
  refine v_iconst hX 5 dX3_mostNeeded_3 rfl (?_ : V X 4 [some (.ref 68), some (.ref w), some (.int p1), some (.int l3)] [.int 5, .int l3] μ)
  refine v_icmp_ge hX 24 dX3_mostNeeded_4 rfl (fun c1 => ?_) (fun c1 => ?_)
  · replace h := h.1 c1
    refine v_iconst hX 0 dX3_mostNeeded_24 rfl (?_ : V X 25 [some (.ref 68), some (.ref w), some (.int p1), some (.int l3)] [.int 0] μ)
    refine v_istore_n hX dX3_mostNeeded_25 (by rw [hn]; decide) (?_ : V X 26 [some (.ref 68), some (.ref w), some (.int p1), some (.int 0)] [] μ)
    exact v_mask [true, true, true, true] (hJ26 _ _ h)
  · replace h := h.2 c1
    refine v_aload_n hX dX3_mostNeeded_7 rfl (?_ : V X 8 [some (.ref 68), some (.ref w), some (.int p1), some (.int l3)] [.ref 68] μ)
    refine v_getr hX (70) fk_X3_9 sh_68 rfl rfl dX3_mostNeeded_8 (?_ : V X 11 [some (.ref 68), some (.ref w), some (.int p1), some (.int l3)] [.ref 70] μ)
    refine v_iload_n hX dX3_mostNeeded_11 rfl (?_ : V X 12 [some (.ref 68), some (.ref w), some (.int p1), some (.int l3)] [.int l3, .ref 70] μ)
    refine v_aload_n hX dX3_mostNeeded_12 rfl (?_ : V X 13 [some (.ref 68), some (.ref w), some (.int p1), some (.int l3)] [.ref w, .int l3, .ref 70] μ)
    refine v_iload_n hX dX3_mostNeeded_13 rfl (?_ : V X 14 [some (.ref 68), some (.ref w), some (.int p1), some (.int l3)] [.int l3, .ref w, .int l3, .ref 70] μ)
    refine v_callS hX sp_X3_withTrait ck_X3_withTrait mk_X3_40 sk_X3_withTrait (by decide) [.ref w, .int l3] [.int l3, .ref 70] rfl rfl (Nat.le_of_ble_eq_true rfl) dX3_mostNeeded_14 ⟨w, l3, rfl, hw, h.1, fun x2 μ3 hp4 => (?_ : V X 17 [some (.ref 68), some (.ref w), some (.int p1), some (.int l3)] [.int x2, .int l3, .ref 70] μ3)⟩
    replace h := h.2 x2 μ3 hp4
    have hb5 := h.1
    replace h := h.2
    refine w_iast hX (Int32.toNatClampNeg l3) sh_70 hb5 rfl dX3_mostNeeded_17 (fun μ6 e7 => (?_ : V X 18 [some (.ref 68), some (.ref w), some (.int p1), some (.int l3)] [] μ6))
    replace h := h μ6 e7
    refine v_iinc hX 1 dX3_mostNeeded_18 (by rw [hn]; decide) rfl rfl (?_ : V X 21 [some (.ref 68), some (.ref w), some (.int p1), some (.int (l3 + 1))] [] μ6)
    refine v_goto hX 2 dX3_mostNeeded_21 rfl (?_ : V X 2 [some (.ref 68), some (.ref w), some (.int p1), some (.int (l3 + 1))] [] μ6)
    exact v_mask [true, true, true, true] (hJ2 _ _ h)
def vc_X3_mostNeeded_26 (w : Nat) (p1 : Int32) (l3 : Int32) (μ : Mem) (R : Int32 → Mem → Prop) (J2 : Int32 → Mem → Prop) (J26 : Int32 → Mem → Prop) : Prop :=
  ((p1 < l3 → vp_in p1 64 ∧ R (gi μ 69 (Int32.toNatClampNeg p1)) μ) ∧ (¬ p1 < l3 → (pre_X3_neededOf l3 μ ∧ ∀ (x3 : Int32) (μ4 : Mem), post_X3_neededOf l3 μ x3 μ4 → vp_in l3 64 ∧ (∀ μ7, μ7 = ui μ4 69 (Int32.toNatClampNeg l3) x3 → J26 (l3 + 1) μ7))))
set_option maxRecDepth 20000 in
set_option maxHeartbeats 4000000 in
theorem wk_X3_mostNeeded_26 {X : XT} {P : Post} (hO : OkM X cX3_mostNeeded RX3 2 (some .int) P) (hn : xn X = 4) (w : Nat) (p1 : Int32) (hw : w = 3 ∨ w = 10) (l3 : Int32) (μ : Mem) {R : Int32 → Mem → Prop} (hR : ∀ x m, R x m → P (some (.int x)) m) {J2 : Int32 → Mem → Prop} {J26 : Int32 → Mem → Prop} (hJ2 : ∀ (l3 : Int32) (m : Mem), J2 l3 m → V X 2 [some (.ref 68), some (.ref w), some (.int p1), some (.int l3)] [] m) (hJ26 : ∀ (l3 : Int32) (m : Mem), J26 l3 m → V X 26 [some (.ref 68), some (.ref w), some (.int p1), some (.int l3)] [] m)  (h : vc_X3_mostNeeded_26 w p1 l3 μ R J2 J26) : V X 26 [some (.ref 68), some (.ref w), some (.int p1), some (.int l3)] [] μ := by
  have hX := hO.1
  unfold vc_X3_mostNeeded_26 at h
  refine v_iload_n hX dX3_mostNeeded_26 rfl (?_ : V X 27 [some (.ref 68), some (.ref w), some (.int p1), some (.int l3)] [.int l3] μ)
  refine v_iload_n hX dX3_mostNeeded_27 rfl (?_ : V X 28 [some (.ref 68), some (.ref w), some (.int p1), some (.int l3)] [.int p1, .int l3] μ)
  refine v_icmp_gt hX 48 dX3_mostNeeded_28 rfl (fun c1 => ?_) (fun c1 => ?_)
  · replace h := h.1 c1
    refine v_aload_n hX dX3_mostNeeded_48 rfl (?_ : V X 49 [some (.ref 68), some (.ref w), some (.int p1), some (.int l3)] [.ref 68] μ)
    refine v_getr hX (69) fk_X3_15 sh_68 rfl rfl dX3_mostNeeded_49 (?_ : V X 52 [some (.ref 68), some (.ref w), some (.int p1), some (.int l3)] [.ref 69] μ)
    refine v_iload_n hX dX3_mostNeeded_52 rfl (?_ : V X 53 [some (.ref 68), some (.ref w), some (.int p1), some (.int l3)] [.int p1, .ref 69] μ)
    have hb2 := h.1
    replace h := h.2
    refine w_iald hX (Int32.toNatClampNeg p1) sh_69 hb2 rfl dX3_mostNeeded_53 (?_ : V X 54 [some (.ref 68), some (.ref w), some (.int p1), some (.int l3)] [.int (gi μ 69 (Int32.toNatClampNeg p1))] μ)
    exact v_iret hO dX3_mostNeeded_54 (hR _ _ h)
  · replace h := h.2 c1
    refine v_aload_n hX dX3_mostNeeded_31 rfl (?_ : V X 32 [some (.ref 68), some (.ref w), some (.int p1), some (.int l3)] [.ref 68] μ)
    refine v_getr hX (69) fk_X3_15 sh_68 rfl rfl dX3_mostNeeded_32 (?_ : V X 35 [some (.ref 68), some (.ref w), some (.int p1), some (.int l3)] [.ref 69] μ)
    refine v_iload_n hX dX3_mostNeeded_35 rfl (?_ : V X 36 [some (.ref 68), some (.ref w), some (.int p1), some (.int l3)] [.int l3, .ref 69] μ)
    refine v_aload_n hX dX3_mostNeeded_36 rfl (?_ : V X 37 [some (.ref 68), some (.ref w), some (.int p1), some (.int l3)] [.ref 68, .int l3, .ref 69] μ)
    refine v_iload_n hX dX3_mostNeeded_37 rfl (?_ : V X 38 [some (.ref 68), some (.ref w), some (.int p1), some (.int l3)] [.int l3, .ref 68, .int l3, .ref 69] μ)
    refine v_callV hX sp_X3_neededOf ck_X3_neededOf mk_X3_49 mv_X3_neededOf sh_68 (by decide) (by decide) [.int l3] [.int l3, .ref 69] rfl rfl (Nat.le_of_ble_eq_true rfl) dX3_mostNeeded_38 ⟨l3, rfl, h.1, fun x3 μ4 hp5 => (?_ : V X 41 [some (.ref 68), some (.ref w), some (.int p1), some (.int l3)] [.int x3, .int l3, .ref 69] μ4)⟩
    replace h := h.2 x3 μ4 hp5
    have hb6 := h.1
    replace h := h.2
    refine w_iast hX (Int32.toNatClampNeg l3) sh_69 hb6 rfl dX3_mostNeeded_41 (fun μ7 e8 => (?_ : V X 42 [some (.ref 68), some (.ref w), some (.int p1), some (.int l3)] [] μ7))
    replace h := h μ7 e8
    refine v_iinc hX 1 dX3_mostNeeded_42 (by rw [hn]; decide) rfl rfl (?_ : V X 45 [some (.ref 68), some (.ref w), some (.int p1), some (.int (l3 + 1))] [] μ7)
    refine v_goto hX 26 dX3_mostNeeded_45 rfl (?_ : V X 26 [some (.ref 68), some (.ref w), some (.int p1), some (.int (l3 + 1))] [] μ7)
    exact v_mask [true, true, true, true] (hJ26 _ _ h)
set_option maxRecDepth 20000 in
set_option maxHeartbeats 4000000 in
theorem vp_X3_mostNeeded_0 (w : Nat) (p1 : Int32) (hw : w = 3 ∨ w = 10) (μ : Mem) (hpre : pre_X3_mostNeeded w p1 μ) : vc_X3_mostNeeded_0 w p1 μ (post_X3_mostNeeded w p1 μ) (fun l3 m => ∃ k : Nat, inv_X3_mostNeeded_2 w p1 μ k l3 m) (fun l3 m => ∃ k : Nat, inv_X3_mostNeeded_26 w p1 μ k l3 m) := by
  simp only [vc_X3_mostNeeded_0, pre_X3_neededOf, pre_X3_withTrait, post_X3_neededOf, post_X3_withTrait, and_imp, call_eq, forall_eq, forall_const, true_and, and_true]
  exact ⟨1000, 0, by omega, rfl, rfl, fr_refl _ _, fun t ht => absurd ht (Nat.not_lt_zero t)⟩
set_option maxRecDepth 20000 in
set_option maxHeartbeats 4000000 in
theorem vp_X3_mostNeeded_2 (w : Nat) (p1 : Int32) (hw : w = 3 ∨ w = 10) (μ : Mem) (hpre : pre_X3_mostNeeded w p1 μ) (n : Nat) (l3 : Int32) (μ0 : Mem) (hi : inv_X3_mostNeeded_2 w p1 μ n l3 μ0) : vc_X3_mostNeeded_2 w p1 l3 μ0 (post_X3_mostNeeded w p1 μ) (fun l3 m => ∃ k : Nat, k < n ∧ inv_X3_mostNeeded_2 w p1 μ k l3 m) (fun l3 m => ∃ k : Nat, k < n ∧ inv_X3_mostNeeded_26 w p1 μ k l3 m) := by
  simp only [vc_X3_mostNeeded_2, pre_X3_neededOf, pre_X3_withTrait, post_X3_neededOf, post_X3_withTrait, and_imp, call_eq, forall_eq, forall_const, true_and, and_true]
  obtain ⟨h7, e, he⟩ := hpre
  obtain ⟨i, hi1, rfl, rfl, hf, hv⟩ := hi
  rw [show (5 : Int32) = nI 5 from rfl, nI_leI (by omega) (by omega), nI_clamp (by omega)]
  have hwl : w ≠ 70 ∧ w + 6 ≠ 70 := by omega
  have hw7 : isN μ0 w 7 6 := by
    have : gi μ0 w 7 = gi μ w 7 := hf.1 w (by simp [hwl]) 7
    unfold isN gn; rw [this]; exact h7
  have hW : withC μ0 w (nI i) = withC μ w (nI i) := by
    unfold withC gn
    rw [hf.1 w (by simp [hwl]), show gi μ0 (w + 6) = gi μ (w + 6) from funext fun k => hf.1 (w + 6) (by simp [hwl]) k]
  rw [hW]
  obtain ⟨b1, b2⟩ := with_bits h7 (nI i)
  refine ⟨fun c => ⟨p1.toNatClampNeg + 1, by omega, 0, by omega, rfl, rfl, fr_mono hf (by simp), fun t ht => hv t (by omega), fun s hs => absurd hs (Nat.not_lt_zero s)⟩, fun c => ⟨hw7, vp_in_nI (by omega) (by omega), 1000 - (i + 1), by omega, i + 1, by omega, rfl, nI_1 i, fr_trans hf (fr_ui (by simp)), fun t ht => ?_⟩⟩
  rw [gi_ui]
  by_cases z : t = i
  · subst z
    rw [if_pos ⟨rfl, rfl⟩]
    exact ⟨b1, b2⟩
  · rw [if_neg (by simp [z])]
    exact hv t (by omega)
set_option maxRecDepth 20000 in
set_option maxHeartbeats 4000000 in
theorem vp_X3_mostNeeded_26 (w : Nat) (p1 : Int32) (hw : w = 3 ∨ w = 10) (μ : Mem) (hpre : pre_X3_mostNeeded w p1 μ) (n : Nat) (l3 : Int32) (μ0 : Mem) (hi : inv_X3_mostNeeded_26 w p1 μ n l3 μ0) : vc_X3_mostNeeded_26 w p1 l3 μ0 (post_X3_mostNeeded w p1 μ) (fun l3 m => ∃ k : Nat, k < n ∧ inv_X3_mostNeeded_2 w p1 μ k l3 m) (fun l3 m => ∃ k : Nat, k < n ∧ inv_X3_mostNeeded_26 w p1 μ k l3 m) := by
  simp only [vc_X3_mostNeeded_26, pre_X3_neededOf, pre_X3_withTrait, post_X3_neededOf, post_X3_withTrait, and_imp, call_eq, forall_eq, forall_const, true_and, and_true]
  obtain ⟨h7, e, he⟩ := hpre
  obtain ⟨i, hi1, rfl, rfl, hf, hv, hT⟩ := hi
  have hc : p1 < nI i ↔ p1.toNatClampNeg < i := by
    rw [← nI_ltI (a := p1.toNatClampNeg) (b := i) (by omega) (by omega), ← e]
  rw [hc]
  have hgh : ∀ t, t < 5 → gn μ0 70 t = hvC μ w t := fun t ht => by
    unfold gn; rw [(hv t ht).1, nI_clamp (by have := (hv t ht).2; omega)]
  refine ⟨fun c => ⟨by rw [e]; exact vp_in_nI he (by omega), hf, gn μ0 69, ?_, fun s hs => (hT s (by omega)).2⟩, fun c => ⟨⟨by rw [nI_clamp (by omega)], by rw [nI_clamp (by omega)]; omega, fun t ht => ?_, fun s hs => ?_⟩, vp_in_nI (by omega) (by omega), ?_⟩⟩
  · exact (hT p1.toNatClampNeg (by omega)).1.1
  · refine ⟨?_, ?_⟩
    · rw [hgh t ht]; exact (hv t ht).1
    · rw [hgh t ht]; have := (hv t ht).2; omega
  · rw [nI_clamp (by omega)] at hs; exact (hT s hs).1
  · rw [nI_clamp (by omega)]
    rw [stp_hv (hv := gn μ0 70) (hv' := hvC μ w) 5 hgh]
    generalize hval : (if 5 < stp (gn μ0 69) (hvC μ w) 6 i 5 then 0 else stp (gn μ0 69) (hvC μ w) 6 i 5) = val
    have hval5 : val ≤ 5 := by rw [← hval]; split <;> omega
    have hg : ∀ s, gn (ui μ0 69 i (nI val)) 69 s = if s = i then val else gn μ0 69 s := by
      intro s
      unfold gn
      rw [gi_ui]
      by_cases z : s = i
      · rw [if_pos ⟨rfl, z⟩, if_pos z, nI_clamp (by omega)]
      · rw [if_neg (by simp [z]), if_neg z]
    have hS : ∀ s, s ≤ i → stp (gn (ui μ0 69 i (nI val)) 69) (hvC μ w) 6 s 5 = stp (gn μ0 69) (hvC μ w) 6 s 5 := fun s hs => stp_congr (by omega) (fun q hq => by rw [hg, if_neg (by omega)]) 5 (fun k hk => (hv k hk).2)
    refine ⟨p1.toNatClampNeg + 1 - (i + 1), by omega, i + 1, by omega, rfl, nI_1 i, fr_trans hf (fr_ui (by simp)), fun t ht => ?_, fun s hs => ?_⟩
    · rw [gi_ui, if_neg (by simp)]; exact hv t ht
    · rw [hS s (by omega), hg s]
      by_cases z : s = i
      · subst z
        rw [if_pos rfl, hval]
        refine ⟨⟨?_, ?_⟩, rfl⟩
        · rw [hg, if_pos rfl, gi_ui, if_pos ⟨rfl, rfl⟩]
        · rw [hg, if_pos rfl]; exact hval5
      · rw [if_neg z]
        obtain ⟨q1, q2⟩ := hT s (by omega)
        refine ⟨⟨?_, ?_⟩, q2⟩
        · rw [hg, if_neg z, gi_ui, if_neg (by simp [z])]; exact q1.1
        · rw [hg, if_neg z]; exact q1.2
theorem sp_X3_mostNeeded : Sp yX3_mostNeeded cX3_mostNeeded 4 (some .int) 2 S_X3_mostNeeded := by
  refine sp_of (by decide) (fun av μ P h => ?_) ?_
  · obtain ⟨w, p1, rfl, -⟩ := h
    refine ⟨Nat.le_of_ble_eq_true rfl, fun v hv => ?_⟩
    simp only [List.mem_cons, List.not_mem_nil, or_false] at hv
    rcases hv with rfl | rfl | rfl <;> rfl
  · rintro X P hO _ μ ⟨w, p1, rfl, hw, hpre, hpost⟩ hn
    have hJ : ∀ n : Nat, (∀ (l3 : Int32) (m : Mem), inv_X3_mostNeeded_2 w p1 μ n l3 m → V X 2 [some (.ref 68), some (.ref w), some (.int p1), some (.int l3)] [] m) ∧ (∀ (l3 : Int32) (m : Mem), inv_X3_mostNeeded_26 w p1 μ n l3 m → V X 26 [some (.ref 68), some (.ref w), some (.int p1), some (.int l3)] [] m) := by
      intro n
      induction n using Nat.strongRecOn with
      | _ n ih =>
        exact ⟨fun l3 m hi => wk_X3_mostNeeded_2 (J2 := (fun l3 m => ∃ k : Nat, k < n ∧ inv_X3_mostNeeded_2 w p1 μ k l3 m)) (J26 := (fun l3 m => ∃ k : Nat, k < n ∧ inv_X3_mostNeeded_26 w p1 μ k l3 m)) hO hn w p1 hw l3 m hpost (fun l3 m hk => by obtain ⟨k, hk, hi⟩ := hk; exact (ih k hk).1 l3 m hi) (fun l3 m hk => by obtain ⟨k, hk, hi⟩ := hk; exact (ih k hk).2 l3 m hi) (vp_X3_mostNeeded_2 w p1 hw μ hpre n l3 m hi), fun l3 m hi => wk_X3_mostNeeded_26 (J2 := (fun l3 m => ∃ k : Nat, k < n ∧ inv_X3_mostNeeded_2 w p1 μ k l3 m)) (J26 := (fun l3 m => ∃ k : Nat, k < n ∧ inv_X3_mostNeeded_26 w p1 μ k l3 m)) hO hn w p1 hw l3 m hpost (fun l3 m hk => by obtain ⟨k, hk, hi⟩ := hk; exact (ih k hk).1 l3 m hi) (fun l3 m hk => by obtain ⟨k, hk, hi⟩ := hk; exact (ih k hk).2 l3 m hi) (vp_X3_mostNeeded_26 w p1 hw μ hpre n l3 m hi)⟩
    exact wk_X3_mostNeeded_0 (J2 := (fun l3 m => ∃ k : Nat, inv_X3_mostNeeded_2 w p1 μ k l3 m)) (J26 := (fun l3 m => ∃ k : Nat, inv_X3_mostNeeded_26 w p1 μ k l3 m)) hO hn w p1 hw μ hpost (fun l3 m hk => by obtain ⟨k, hi⟩ := hk; exact (hJ k).1 l3 m hi) (fun l3 m hk => by obtain ⟨k, hi⟩ := hk; exact (hJ k).2 l3 m hi) (vp_X3_mostNeeded_0 w p1 hw μ hpre)
def S_X8_questions : Tr := fun av μ P => av = [.ref 0] ∧ pre_X8_questions  μ ∧ ∀ (x : Int32) (m : Mem), post_X8_questions  μ x m → P (some (.int x)) m
def vc_X8_questions_0   (μ : Mem) (R : Int32 → Mem → Prop)  : Prop :=
  ((gp μ 1) = 3 ∨ (gp μ 1) = 10) ∧ (pre_X3_leftOf ((gp μ 1)) (gi μ 17 4) μ ∧ ∀ (x2 : Int32) (μ3 : Mem), post_X3_leftOf ((gp μ 1)) (gi μ 17 4) μ x2 μ3 → (pre_X3_mostNeeded ((gp μ 1)) x2 μ3 ∧ ∀ (x5 : Int32) (μ6 : Mem), post_X3_mostNeeded ((gp μ 1)) x2 μ3 x5 μ6 → R x5 μ6))
set_option maxRecDepth 20000 in
set_option maxHeartbeats 4000000 in
theorem wk_X8_questions_0 {X : XT} {P : Post} (hO : OkM X cX8_questions RX8 3 (some .int) P) (hn : xn X = 1)    (μ : Mem) {R : Int32 → Mem → Prop} (hR : ∀ x m, R x m → P (some (.int x)) m)    (h : vc_X8_questions_0   μ R ) : V X 0 [some (.ref 0)] [] μ := by
  have hX := hO.1
  unfold vc_X8_questions_0 at h
  refine v_aload_n hX dX8_questions_0 rfl (?_ : V X 1 [some (.ref 0)] [.ref 0] μ)
  refine v_getr hX (68) fk_X8_65 sh_0 rfl rfl dX8_questions_1 (?_ : V X 4 [some (.ref 0)] [.ref 68] μ)
  refine v_aload_n hX dX8_questions_4 rfl (?_ : V X 5 [some (.ref 0)] [.ref 0, .ref 68] μ)
  have hh1 := h.1
  replace h := h.2
  refine v_getp hX (gp μ 1) fk_X8_19 sh_0 rfl rfl dX8_questions_5 (?_ : V X 8 [some (.ref 0)] [.ref ((gp μ 1)), .ref 68] μ)
  refine v_aload_n hX dX8_questions_8 rfl (?_ : V X 9 [some (.ref 0)] [.ref 0, .ref ((gp μ 1)), .ref 68] μ)
  refine v_getp hX (gp μ 1) fk_X8_19 sh_0 rfl rfl dX8_questions_9 (?_ : V X 12 [some (.ref 0)] [.ref ((gp μ 1)), .ref ((gp μ 1)), .ref 68] μ)
  refine v_aload_n hX dX8_questions_12 rfl (?_ : V X 13 [some (.ref 0)] [.ref 0, .ref ((gp μ 1)), .ref ((gp μ 1)), .ref 68] μ)
  refine v_getr hX (17) fk_X8_29 sh_0 rfl rfl dX8_questions_13 (?_ : V X 16 [some (.ref 0)] [.ref 17, .ref ((gp μ 1)), .ref ((gp μ 1)), .ref 68] μ)
  refine v_geti hX fk_X8_158 sh_17 rfl dX8_questions_16 (?_ : V X 19 [some (.ref 0)] [.int (gi μ 17 4), .ref ((gp μ 1)), .ref ((gp μ 1)), .ref 68] μ)
  refine v_callS hX sp_X3_leftOf ck_X3_leftOf mk_X8_161 sk_X3_leftOf (by decide) [.ref ((gp μ 1)), .int (gi μ 17 4)] [.ref ((gp μ 1)), .ref 68] rfl rfl (Nat.le_of_ble_eq_true rfl) dX8_questions_19 ⟨((gp μ 1)), (gi μ 17 4), rfl, hh1, h.1, fun x2 μ3 hp4 => (?_ : V X 22 [some (.ref 0)] [.int x2, .ref ((gp μ 1)), .ref 68] μ3)⟩
  replace h := h.2 x2 μ3 hp4
  refine v_callV hX sp_X3_mostNeeded ck_X3_mostNeeded mk_X8_240 mv_X3_mostNeeded sh_68 (by decide) (by decide) [.ref ((gp μ 1)), .int x2] [] rfl rfl (Nat.le_of_ble_eq_true rfl) dX8_questions_22 ⟨((gp μ 1)), x2, rfl, hh1, h.1, fun x5 μ6 hp7 => (?_ : V X 25 [some (.ref 0)] [.int x5] μ6)⟩
  replace h := h.2 x5 μ6 hp7
  exact v_iret hO dX8_questions_25 (hR _ _ h)
set_option maxRecDepth 20000 in
set_option maxHeartbeats 4000000 in
theorem vp_X8_questions_0   (μ : Mem) (hpre : pre_X8_questions  μ) : vc_X8_questions_0  μ (post_X8_questions  μ)  := by
  unfold vc_X8_questions_0
  obtain ⟨hw, h1, h2⟩ := hpre
  obtain ⟨e, he⟩ := leftC_bits h1 (gi μ 17 4)
  refine ⟨hw, ⟨h1, h2⟩, ?_⟩
  rintro x2 m2 ⟨rfl, rfl⟩
  refine ⟨⟨h1, e, he⟩, ?_⟩
  rintro x5 m5 ⟨hf, T, hx, hT⟩
  exact ⟨hf, T, _, e, he, hx, hT⟩
theorem sp_X8_questions : Sp yX8_questions cX8_questions 1 (some .int) 3 S_X8_questions := by
  refine sp_of (by decide) (fun av μ P h => ?_) ?_
  · obtain ⟨rfl, -⟩ := h
    refine ⟨Nat.le_of_ble_eq_true rfl, fun v hv => ?_⟩
    simp only [List.mem_cons, List.not_mem_nil, or_false] at hv
    subst hv; rfl
  · rintro X P hO _ μ ⟨rfl, hpre, hpost⟩ hn
    exact wk_X8_questions_0 hO hn   μ hpost (vp_X8_questions_0   μ hpre)
def S_X9_questions : Tr := fun av μ P => av = [.ref 75] ∧ pre_X9_questions  μ ∧ ∀ (x : Int32) (m : Mem), post_X9_questions  μ x m → P (some (.int x)) m
def vc_X9_questions_0   (μ : Mem) (R : Int32 → Mem → Prop) (J7 : Int32 → Mem → Prop) (J18 : Int32 → Int32 → Int32 → Mem → Prop) : Prop :=
  (∀ μ1, μ1 = ui μ 75 0 0 → J7 0 μ1)
set_option maxRecDepth 20000 in
set_option maxHeartbeats 4000000 in
theorem wk_X9_questions_0 {X : XT} {P : Post} (hO : OkM X cX9_questions RX9 1 (some .int) P) (hn : xn X = 7)    (μ : Mem) {R : Int32 → Mem → Prop} (hR : ∀ x m, R x m → P (some (.int x)) m) {J7 : Int32 → Mem → Prop} {J18 : Int32 → Int32 → Int32 → Mem → Prop} (hJ7 : ∀ (l1 : Int32) (m : Mem), J7 l1 m → V X 7 [some (.ref 75), some (.int l1), none, none, none, none, none] [] m) (hJ18 : ∀ (l1 : Int32) (l2 : Int32) (l3 : Int32) (m : Mem), J18 l1 l2 l3 m → V X 18 [some (.ref 75), some (.int l1), some (.int l2), some (.int l3), none, none, none] [] m)  (h : vc_X9_questions_0   μ R J7 J18) : V X 0 [some (.ref 75), none, none, none, none, none, none] [] μ := by
  have hX := hO.1
  unfold vc_X9_questions_0 at h
  refine v_aload_n hX dX9_questions_0 rfl (?_ : V X 1 [some (.ref 75), none, none, none, none, none, none] [.ref 75] μ)
  refine v_iconst hX 0 dX9_questions_1 rfl (?_ : V X 2 [some (.ref 75), none, none, none, none, none, none] [.int 0, .ref 75] μ)
  refine w_puti hX fk_X9_74 fw_9_0 sh_75 rfl dX9_questions_2 (fun μ1 e2 => (?_ : V X 5 [some (.ref 75), none, none, none, none, none, none] [] μ1))
  replace h := h μ1 e2
  refine v_iconst hX 0 dX9_questions_5 rfl (?_ : V X 6 [some (.ref 75), none, none, none, none, none, none] [.int 0] μ1)
  refine v_istore_n hX dX9_questions_6 (by rw [hn]; decide) (?_ : V X 7 [some (.ref 75), some (.int 0), none, none, none, none, none] [] μ1)
  exact v_mask [true, true, false, false, false, false, false] (hJ7 _ _ h)
def vc_X9_questions_7  (l1 : Int32) (μ : Mem) (R : Int32 → Mem → Prop) (J7 : Int32 → Mem → Prop) (J18 : Int32 → Int32 → Int32 → Mem → Prop) : Prop :=
  ((64 ≤ l1 → (pre_X9_left  μ ∧ ∀ (x2 : Int32) (μ3 : Mem), post_X9_left  μ x2 μ3 → vp_in x2 64 ∧ R (gi μ3 94 (Int32.toNatClampNeg x2)) μ3)) ∧ (¬ 64 ≤ l1 → J18 l1 100000000 0 μ))
set_option maxRecDepth 20000 in
set_option maxHeartbeats 4000000 in
theorem wk_X9_questions_7 {X : XT} {P : Post} (hO : OkM X cX9_questions RX9 1 (some .int) P) (hn : xn X = 7)   (l1 : Int32) (μ : Mem) {R : Int32 → Mem → Prop} (hR : ∀ x m, R x m → P (some (.int x)) m) {J7 : Int32 → Mem → Prop} {J18 : Int32 → Int32 → Int32 → Mem → Prop} (hJ7 : ∀ (l1 : Int32) (m : Mem), J7 l1 m → V X 7 [some (.ref 75), some (.int l1), none, none, none, none, none] [] m) (hJ18 : ∀ (l1 : Int32) (l2 : Int32) (l3 : Int32) (m : Mem), J18 l1 l2 l3 m → V X 18 [some (.ref 75), some (.int l1), some (.int l2), some (.int l3), none, none, none] [] m)  (h : vc_X9_questions_7  l1 μ R J7 J18) : V X 7 [some (.ref 75), some (.int l1), none, none, none, none, none] [] μ := by
  have hX := hO.1
  unfold vc_X9_questions_7 at h
  refine v_iload_n hX dX9_questions_7 rfl (?_ : V X 8 [some (.ref 75), some (.int l1), none, none, none, none, none] [.int l1] μ)
  refine v_bipush hX 64 dX9_questions_8 rfl (?_ : V X 10 [some (.ref 75), some (.int l1), none, none, none, none, none] [.int 64, .int l1] μ)
  refine v_icmp_ge hX 131 dX9_questions_10 rfl (fun c1 => ?_) (fun c1 => ?_)
  · replace h := h.1 c1
    refine v_aload_n hX dX9_questions_131 rfl (?_ : V X 132 [some (.ref 75), some (.int l1), none, none, none, none, none] [.ref 75] μ)
    refine v_getr hX (94) fk_X9_65 sh_75 rfl rfl dX9_questions_132 (?_ : V X 135 [some (.ref 75), some (.int l1), none, none, none, none, none] [.ref 94] μ)
    refine v_aload_n hX dX9_questions_135 rfl (?_ : V X 136 [some (.ref 75), some (.int l1), none, none, none, none, none] [.ref 75, .ref 94] μ)
    refine v_callV hX sp_X9_left ck_X9_left mk_X9_156 mv_X9_left sh_75 (by decide) (by decide) [] [.ref 94] rfl rfl (Nat.le_of_ble_eq_true rfl) dX9_questions_136 ⟨rfl, h.1, fun x2 μ3 hp4 => (?_ : V X 139 [some (.ref 75), some (.int l1), none, none, none, none, none] [.int x2, .ref 94] μ3)⟩
    replace h := h.2 x2 μ3 hp4
    have hb5 := h.1
    replace h := h.2
    refine w_iald hX (Int32.toNatClampNeg x2) sh_94 hb5 rfl dX9_questions_139 (?_ : V X 140 [some (.ref 75), some (.int l1), none, none, none, none, none] [.int (gi μ3 94 (Int32.toNatClampNeg x2))] μ3)
    exact v_iret hO dX9_questions_140 (hR _ _ h)
  · replace h := h.2 c1
    refine v_ldc hX 100000000 dX9_questions_13 kk_X9_172 (?_ : V X 15 [some (.ref 75), some (.int l1), none, none, none, none, none] [.int 100000000] μ)
    refine v_istore_n hX dX9_questions_15 (by rw [hn]; decide) (?_ : V X 16 [some (.ref 75), some (.int l1), some (.int 100000000), none, none, none, none] [] μ)
    refine v_iconst hX 0 dX9_questions_16 rfl (?_ : V X 17 [some (.ref 75), some (.int l1), some (.int 100000000), none, none, none, none] [.int 0] μ)
    refine v_istore_n hX dX9_questions_17 (by rw [hn]; decide) (?_ : V X 18 [some (.ref 75), some (.int l1), some (.int 100000000), some (.int 0), none, none, none] [] μ)
    exact v_mask [true, true, true, true, false, false, false] (hJ18 _ _ _ _ h)
def vc_X9_questions_18  (l1 : Int32) (l2 : Int32) (l3 : Int32) (μ : Mem) (R : Int32 → Mem → Prop) (J7 : Int32 → Mem → Prop) (J18 : Int32 → Int32 → Int32 → Mem → Prop) : Prop :=
  ((5 ≤ l3 → ((¬ l2 = 100000000 → vp_in l1 64 ∧ (∀ μ4, μ4 = ui μ 94 (Int32.toNatClampNeg l1) l2 → J7 (l1 + 1) μ4)) ∧ (l2 = 100000000 → vp_in l1 64 ∧ (∀ μ7, μ7 = ui μ 94 (Int32.toNatClampNeg l1) 0 → J7 (l1 + 1) μ7)))) ∧ (¬ 5 ≤ l3 → (pre_X9_having l1 l3 μ ∧ ∀ (x9 : Int32) (μ10 : Mem), post_X9_having l1 l3 μ x9 μ10 → ((x9 = 0 → J18 l1 l2 (l3 + 1) μ10) ∧ (¬ x9 = 0 → (((l1 &&& (x9 ^^^ ((-1)))) = 0 → J18 l1 l2 (l3 + 1) μ10) ∧ (¬ (l1 &&& (x9 ^^^ ((-1)))) = 0 → vp_in x9 64 ∧ vp_in (l1 &&& (x9 ^^^ ((-1)))) 64 ∧ (((gi μ10 94 (Int32.toNatClampNeg x9)) ≤ (gi μ10 94 (Int32.toNatClampNeg (l1 &&& (x9 ^^^ ((-1)))))) → vp_in (l1 &&& (x9 ^^^ ((-1)))) 64 ∧ (∀ y18 : Int32, y18 = (gi μ10 94 (Int32.toNatClampNeg (l1 &&& (x9 ^^^ ((-1)))))) → ((l2 ≤ (1 + y18) → J18 l1 l2 (l3 + 1) μ10) ∧ (¬ l2 ≤ (1 + y18) → J18 l1 (1 + y18) (l3 + 1) μ10)))) ∧ (¬ (gi μ10 94 (Int32.toNatClampNeg x9)) ≤ (gi μ10 94 (Int32.toNatClampNeg (l1 &&& (x9 ^^^ ((-1)))))) → vp_in x9 64 ∧ ((l2 ≤ (1 + (gi μ10 94 (Int32.toNatClampNeg x9))) → J18 l1 l2 (l3 + 1) μ10) ∧ (¬ l2 ≤ (1 + (gi μ10 94 (Int32.toNatClampNeg x9))) → J18 l1 (1 + (gi μ10 94 (Int32.toNatClampNeg x9))) (l3 + 1) μ10)))))))))))
set_option maxRecDepth 20000 in
set_option maxHeartbeats 4000000 in
theorem wk_X9_questions_18 {X : XT} {P : Post} (hO : OkM X cX9_questions RX9 1 (some .int) P) (hn : xn X = 7)   (l1 : Int32) (l2 : Int32) (l3 : Int32) (μ : Mem) {R : Int32 → Mem → Prop} (hR : ∀ x m, R x m → P (some (.int x)) m) {J7 : Int32 → Mem → Prop} {J18 : Int32 → Int32 → Int32 → Mem → Prop} (hJ7 : ∀ (l1 : Int32) (m : Mem), J7 l1 m → V X 7 [some (.ref 75), some (.int l1), none, none, none, none, none] [] m) (hJ18 : ∀ (l1 : Int32) (l2 : Int32) (l3 : Int32) (m : Mem), J18 l1 l2 l3 m → V X 18 [some (.ref 75), some (.int l1), some (.int l2), some (.int l3), none, none, none] [] m)  (h : vc_X9_questions_18  l1 l2 l3 μ R J7 J18) : V X 18 [some (.ref 75), some (.int l1), some (.int l2), some (.int l3), none, none, none] [] μ := by
  have hX := hO.1
  unfold vc_X9_questions_18 at h
  refine v_iload_n hX dX9_questions_18 rfl (?_ : V X 19 [some (.ref 75), some (.int l1), some (.int l2), some (.int l3), none, none, none] [.int l3] μ)
  refine v_iconst hX 5 dX9_questions_19 rfl (?_ : V X 20 [some (.ref 75), some (.int l1), some (.int l2), some (.int l3), none, none, none] [.int 5, .int l3] μ)
  refine v_icmp_ge hX 108 dX9_questions_20 rfl (fun c1 => ?_) (fun c1 => ?_)
  · replace h := h.1 c1
    refine v_aload_n hX dX9_questions_108 rfl (?_ : V X 109 [some (.ref 75), some (.int l1), some (.int l2), some (.int l3), none, none, none] [.ref 75] μ)
    refine v_getr hX (94) fk_X9_65 sh_75 rfl rfl dX9_questions_109 (?_ : V X 112 [some (.ref 75), some (.int l1), some (.int l2), some (.int l3), none, none, none] [.ref 94] μ)
    refine v_iload_n hX dX9_questions_112 rfl (?_ : V X 113 [some (.ref 75), some (.int l1), some (.int l2), some (.int l3), none, none, none] [.int l1, .ref 94] μ)
    refine v_iload_n hX dX9_questions_113 rfl (?_ : V X 114 [some (.ref 75), some (.int l1), some (.int l2), some (.int l3), none, none, none] [.int l2, .int l1, .ref 94] μ)
    refine v_ldc hX 100000000 dX9_questions_114 kk_X9_172 (?_ : V X 116 [some (.ref 75), some (.int l1), some (.int l2), some (.int l3), none, none, none] [.int 100000000, .int l2, .int l1, .ref 94] μ)
    refine v_icmp_ne hX 123 dX9_questions_116 rfl (fun c2 => ?_) (fun c2 => ?_)
    · replace h := h.1 c2
      refine v_iload_n hX dX9_questions_123 rfl (?_ : V X 124 [some (.ref 75), some (.int l1), some (.int l2), some (.int l3), none, none, none] [.int l2, .int l1, .ref 94] μ)
      have hb3 := h.1
      replace h := h.2
      refine w_iast hX (Int32.toNatClampNeg l1) sh_94 hb3 rfl dX9_questions_124 (fun μ4 e5 => (?_ : V X 125 [some (.ref 75), some (.int l1), some (.int l2), some (.int l3), none, none, none] [] μ4))
      replace h := h μ4 e5
      refine v_iinc hX 1 dX9_questions_125 (by rw [hn]; decide) rfl rfl (?_ : V X 128 [some (.ref 75), some (.int (l1 + 1)), some (.int l2), some (.int l3), none, none, none] [] μ4)
      refine v_goto hX 7 dX9_questions_128 rfl (?_ : V X 7 [some (.ref 75), some (.int (l1 + 1)), some (.int l2), some (.int l3), none, none, none] [] μ4)
      exact v_mask [true, true, false, false, false, false, false] (hJ7 _ _ h)
    · replace h := h.2 c2
      refine v_iconst hX 0 dX9_questions_119 rfl (?_ : V X 120 [some (.ref 75), some (.int l1), some (.int l2), some (.int l3), none, none, none] [.int 0, .int l1, .ref 94] μ)
      refine v_goto hX 124 dX9_questions_120 rfl (?_ : V X 124 [some (.ref 75), some (.int l1), some (.int l2), some (.int l3), none, none, none] [.int 0, .int l1, .ref 94] μ)
      have hb6 := h.1
      replace h := h.2
      refine w_iast hX (Int32.toNatClampNeg l1) sh_94 hb6 rfl dX9_questions_124 (fun μ7 e8 => (?_ : V X 125 [some (.ref 75), some (.int l1), some (.int l2), some (.int l3), none, none, none] [] μ7))
      replace h := h μ7 e8
      refine v_iinc hX 1 dX9_questions_125 (by rw [hn]; decide) rfl rfl (?_ : V X 128 [some (.ref 75), some (.int (l1 + 1)), some (.int l2), some (.int l3), none, none, none] [] μ7)
      refine v_goto hX 7 dX9_questions_128 rfl (?_ : V X 7 [some (.ref 75), some (.int (l1 + 1)), some (.int l2), some (.int l3), none, none, none] [] μ7)
      exact v_mask [true, true, false, false, false, false, false] (hJ7 _ _ h)
  · replace h := h.2 c1
    refine v_aload_n hX dX9_questions_23 rfl (?_ : V X 24 [some (.ref 75), some (.int l1), some (.int l2), some (.int l3), none, none, none] [.ref 75] μ)
    refine v_iload_n hX dX9_questions_24 rfl (?_ : V X 25 [some (.ref 75), some (.int l1), some (.int l2), some (.int l3), none, none, none] [.int l1, .ref 75] μ)
    refine v_iload_n hX dX9_questions_25 rfl (?_ : V X 26 [some (.ref 75), some (.int l1), some (.int l2), some (.int l3), none, none, none] [.int l3, .int l1, .ref 75] μ)
    refine v_callV hX sp_X9_having ck_X9_having mk_X9_192 mv_X9_having sh_75 (by decide) (by decide) [.int l1, .int l3] [] rfl rfl (Nat.le_of_ble_eq_true rfl) dX9_questions_26 ⟨l1, l3, rfl, h.1, fun x9 μ10 hp11 => (?_ : V X 29 [some (.ref 75), some (.int l1), some (.int l2), some (.int l3), none, none, none] [.int x9] μ10)⟩
    replace h := h.2 x9 μ10 hp11
    refine v_istore hX dX9_questions_29 (by rw [hn]; decide) (?_ : V X 31 [some (.ref 75), some (.int l1), some (.int l2), some (.int l3), some (.int x9), none, none] [] μ10)
    refine v_iload_n hX dX9_questions_31 rfl (?_ : V X 32 [some (.ref 75), some (.int l1), some (.int l2), some (.int l3), some (.int x9), none, none] [.int l1] μ10)
    refine v_iload hX dX9_questions_32 rfl (?_ : V X 34 [some (.ref 75), some (.int l1), some (.int l2), some (.int l3), some (.int x9), none, none] [.int x9, .int l1] μ10)
    refine v_iconst hX (-1) dX9_questions_34 rfl (?_ : V X 35 [some (.ref 75), some (.int l1), some (.int l2), some (.int l3), some (.int x9), none, none] [.int ((-1)), .int x9, .int l1] μ10)
    refine v_ixor hX dX9_questions_35 (?_ : V X 36 [some (.ref 75), some (.int l1), some (.int l2), some (.int l3), some (.int x9), none, none] [.int (x9 ^^^ ((-1))), .int l1] μ10)
    refine v_iand hX dX9_questions_36 (?_ : V X 37 [some (.ref 75), some (.int l1), some (.int l2), some (.int l3), some (.int x9), none, none] [.int (l1 &&& (x9 ^^^ ((-1))))] μ10)
    refine v_istore hX dX9_questions_37 (by rw [hn]; decide) (?_ : V X 39 [some (.ref 75), some (.int l1), some (.int l2), some (.int l3), some (.int x9), some (.int (l1 &&& (x9 ^^^ ((-1))))), none] [] μ10)
    refine v_iload hX dX9_questions_39 rfl (?_ : V X 41 [some (.ref 75), some (.int l1), some (.int l2), some (.int l3), some (.int x9), some (.int (l1 &&& (x9 ^^^ ((-1))))), none] [.int x9] μ10)
    refine v_if_eq hX 102 dX9_questions_41 rfl (fun c12 => ?_) (fun c12 => ?_)
    · replace h := h.1 c12
      refine v_iinc hX 1 dX9_questions_102 (by rw [hn]; decide) rfl rfl (?_ : V X 105 [some (.ref 75), some (.int l1), some (.int l2), some (.int (l3 + 1)), some (.int x9), some (.int (l1 &&& (x9 ^^^ ((-1))))), none] [] μ10)
      refine v_goto hX 18 dX9_questions_105 rfl (?_ : V X 18 [some (.ref 75), some (.int l1), some (.int l2), some (.int (l3 + 1)), some (.int x9), some (.int (l1 &&& (x9 ^^^ ((-1))))), none] [] μ10)
      exact v_mask [true, true, true, true, false, false, false] (hJ18 _ _ _ _ h)
    · replace h := h.2 c12
      refine v_iload hX dX9_questions_44 rfl (?_ : V X 46 [some (.ref 75), some (.int l1), some (.int l2), some (.int l3), some (.int x9), some (.int (l1 &&& (x9 ^^^ ((-1))))), none] [.int (l1 &&& (x9 ^^^ ((-1))))] μ10)
      refine v_if_eq hX 102 dX9_questions_46 rfl (fun c13 => ?_) (fun c13 => ?_)
      · replace h := h.1 c13
        refine v_iinc hX 1 dX9_questions_102 (by rw [hn]; decide) rfl rfl (?_ : V X 105 [some (.ref 75), some (.int l1), some (.int l2), some (.int (l3 + 1)), some (.int x9), some (.int (l1 &&& (x9 ^^^ ((-1))))), none] [] μ10)
        refine v_goto hX 18 dX9_questions_105 rfl (?_ : V X 18 [some (.ref 75), some (.int l1), some (.int l2), some (.int (l3 + 1)), some (.int x9), some (.int (l1 &&& (x9 ^^^ ((-1))))), none] [] μ10)
        exact v_mask [true, true, true, true, false, false, false] (hJ18 _ _ _ _ h)
      · replace h := h.2 c13
        refine v_aload_n hX dX9_questions_49 rfl (?_ : V X 50 [some (.ref 75), some (.int l1), some (.int l2), some (.int l3), some (.int x9), some (.int (l1 &&& (x9 ^^^ ((-1))))), none] [.ref 75] μ10)
        refine v_getr hX (94) fk_X9_65 sh_75 rfl rfl dX9_questions_50 (?_ : V X 53 [some (.ref 75), some (.int l1), some (.int l2), some (.int l3), some (.int x9), some (.int (l1 &&& (x9 ^^^ ((-1))))), none] [.ref 94] μ10)
        refine v_iload hX dX9_questions_53 rfl (?_ : V X 55 [some (.ref 75), some (.int l1), some (.int l2), some (.int l3), some (.int x9), some (.int (l1 &&& (x9 ^^^ ((-1))))), none] [.int x9, .ref 94] μ10)
        have hb14 := h.1
        replace h := h.2
        refine w_iald hX (Int32.toNatClampNeg x9) sh_94 hb14 rfl dX9_questions_55 (?_ : V X 56 [some (.ref 75), some (.int l1), some (.int l2), some (.int l3), some (.int x9), some (.int (l1 &&& (x9 ^^^ ((-1))))), none] [.int (gi μ10 94 (Int32.toNatClampNeg x9))] μ10)
        refine v_aload_n hX dX9_questions_56 rfl (?_ : V X 57 [some (.ref 75), some (.int l1), some (.int l2), some (.int l3), some (.int x9), some (.int (l1 &&& (x9 ^^^ ((-1))))), none] [.ref 75, .int (gi μ10 94 (Int32.toNatClampNeg x9))] μ10)
        refine v_getr hX (94) fk_X9_65 sh_75 rfl rfl dX9_questions_57 (?_ : V X 60 [some (.ref 75), some (.int l1), some (.int l2), some (.int l3), some (.int x9), some (.int (l1 &&& (x9 ^^^ ((-1))))), none] [.ref 94, .int (gi μ10 94 (Int32.toNatClampNeg x9))] μ10)
        refine v_iload hX dX9_questions_60 rfl (?_ : V X 62 [some (.ref 75), some (.int l1), some (.int l2), some (.int l3), some (.int x9), some (.int (l1 &&& (x9 ^^^ ((-1))))), none] [.int (l1 &&& (x9 ^^^ ((-1)))), .ref 94, .int (gi μ10 94 (Int32.toNatClampNeg x9))] μ10)
        have hb15 := h.1
        replace h := h.2
        refine w_iald hX (Int32.toNatClampNeg (l1 &&& (x9 ^^^ ((-1))))) sh_94 hb15 rfl dX9_questions_62 (?_ : V X 63 [some (.ref 75), some (.int l1), some (.int l2), some (.int l3), some (.int x9), some (.int (l1 &&& (x9 ^^^ ((-1))))), none] [.int (gi μ10 94 (Int32.toNatClampNeg (l1 &&& (x9 ^^^ ((-1)))))), .int (gi μ10 94 (Int32.toNatClampNeg x9))] μ10)
        refine v_icmp_le hX 76 dX9_questions_63 rfl (fun c16 => ?_) (fun c16 => ?_)
        · replace h := h.1 c16
          refine v_aload_n hX dX9_questions_76 rfl (?_ : V X 77 [some (.ref 75), some (.int l1), some (.int l2), some (.int l3), some (.int x9), some (.int (l1 &&& (x9 ^^^ ((-1))))), none] [.ref 75] μ10)
          refine v_getr hX (94) fk_X9_65 sh_75 rfl rfl dX9_questions_77 (?_ : V X 80 [some (.ref 75), some (.int l1), some (.int l2), some (.int l3), some (.int x9), some (.int (l1 &&& (x9 ^^^ ((-1))))), none] [.ref 94] μ10)
          refine v_iload hX dX9_questions_80 rfl (?_ : V X 82 [some (.ref 75), some (.int l1), some (.int l2), some (.int l3), some (.int x9), some (.int (l1 &&& (x9 ^^^ ((-1))))), none] [.int (l1 &&& (x9 ^^^ ((-1)))), .ref 94] μ10)
          have hb17 := h.1
          replace h := h.2
          refine w_iald hX (Int32.toNatClampNeg (l1 &&& (x9 ^^^ ((-1))))) sh_94 hb17 rfl dX9_questions_82 (?_ : V X 83 [some (.ref 75), some (.int l1), some (.int l2), some (.int l3), some (.int x9), some (.int (l1 &&& (x9 ^^^ ((-1))))), none] [.int (gi μ10 94 (Int32.toNatClampNeg (l1 &&& (x9 ^^^ ((-1))))))] μ10)
          refine w_istore hX dX9_questions_83 (by rw [hn]; decide) (fun y18 e19 => (?_ : V X 85 [some (.ref 75), some (.int l1), some (.int l2), some (.int l3), some (.int x9), some (.int (l1 &&& (x9 ^^^ ((-1))))), some (.int y18)] [] μ10))
          replace h := h y18 e19
          refine v_iconst hX 1 dX9_questions_85 rfl (?_ : V X 86 [some (.ref 75), some (.int l1), some (.int l2), some (.int l3), some (.int x9), some (.int (l1 &&& (x9 ^^^ ((-1))))), some (.int y18)] [.int 1] μ10)
          refine v_iload hX dX9_questions_86 rfl (?_ : V X 88 [some (.ref 75), some (.int l1), some (.int l2), some (.int l3), some (.int x9), some (.int (l1 &&& (x9 ^^^ ((-1))))), some (.int y18)] [.int y18, .int 1] μ10)
          refine v_iadd hX dX9_questions_88 (?_ : V X 89 [some (.ref 75), some (.int l1), some (.int l2), some (.int l3), some (.int x9), some (.int (l1 &&& (x9 ^^^ ((-1))))), some (.int y18)] [.int (1 + y18)] μ10)
          refine v_iload_n hX dX9_questions_89 rfl (?_ : V X 90 [some (.ref 75), some (.int l1), some (.int l2), some (.int l3), some (.int x9), some (.int (l1 &&& (x9 ^^^ ((-1))))), some (.int y18)] [.int l2, .int (1 + y18)] μ10)
          refine v_icmp_ge hX 100 dX9_questions_90 rfl (fun c20 => ?_) (fun c20 => ?_)
          · replace h := h.1 c20
            refine v_iload_n hX dX9_questions_100 rfl (?_ : V X 101 [some (.ref 75), some (.int l1), some (.int l2), some (.int l3), some (.int x9), some (.int (l1 &&& (x9 ^^^ ((-1))))), some (.int y18)] [.int l2] μ10)
            refine v_istore_n hX dX9_questions_101 (by rw [hn]; decide) (?_ : V X 102 [some (.ref 75), some (.int l1), some (.int l2), some (.int l3), some (.int x9), some (.int (l1 &&& (x9 ^^^ ((-1))))), some (.int y18)] [] μ10)
            refine v_iinc hX 1 dX9_questions_102 (by rw [hn]; decide) rfl rfl (?_ : V X 105 [some (.ref 75), some (.int l1), some (.int l2), some (.int (l3 + 1)), some (.int x9), some (.int (l1 &&& (x9 ^^^ ((-1))))), some (.int y18)] [] μ10)
            refine v_goto hX 18 dX9_questions_105 rfl (?_ : V X 18 [some (.ref 75), some (.int l1), some (.int l2), some (.int (l3 + 1)), some (.int x9), some (.int (l1 &&& (x9 ^^^ ((-1))))), some (.int y18)] [] μ10)
            exact v_mask [true, true, true, true, false, false, false] (hJ18 _ _ _ _ h)
          · replace h := h.2 c20
            refine v_iconst hX 1 dX9_questions_93 rfl (?_ : V X 94 [some (.ref 75), some (.int l1), some (.int l2), some (.int l3), some (.int x9), some (.int (l1 &&& (x9 ^^^ ((-1))))), some (.int y18)] [.int 1] μ10)
            refine v_iload hX dX9_questions_94 rfl (?_ : V X 96 [some (.ref 75), some (.int l1), some (.int l2), some (.int l3), some (.int x9), some (.int (l1 &&& (x9 ^^^ ((-1))))), some (.int y18)] [.int y18, .int 1] μ10)
            refine v_iadd hX dX9_questions_96 (?_ : V X 97 [some (.ref 75), some (.int l1), some (.int l2), some (.int l3), some (.int x9), some (.int (l1 &&& (x9 ^^^ ((-1))))), some (.int y18)] [.int (1 + y18)] μ10)
            refine v_goto hX 101 dX9_questions_97 rfl (?_ : V X 101 [some (.ref 75), some (.int l1), some (.int l2), some (.int l3), some (.int x9), some (.int (l1 &&& (x9 ^^^ ((-1))))), some (.int y18)] [.int (1 + y18)] μ10)
            refine v_istore_n hX dX9_questions_101 (by rw [hn]; decide) (?_ : V X 102 [some (.ref 75), some (.int l1), some (.int (1 + y18)), some (.int l3), some (.int x9), some (.int (l1 &&& (x9 ^^^ ((-1))))), some (.int y18)] [] μ10)
            refine v_iinc hX 1 dX9_questions_102 (by rw [hn]; decide) rfl rfl (?_ : V X 105 [some (.ref 75), some (.int l1), some (.int (1 + y18)), some (.int (l3 + 1)), some (.int x9), some (.int (l1 &&& (x9 ^^^ ((-1))))), some (.int y18)] [] μ10)
            refine v_goto hX 18 dX9_questions_105 rfl (?_ : V X 18 [some (.ref 75), some (.int l1), some (.int (1 + y18)), some (.int (l3 + 1)), some (.int x9), some (.int (l1 &&& (x9 ^^^ ((-1))))), some (.int y18)] [] μ10)
            exact v_mask [true, true, true, true, false, false, false] (hJ18 _ _ _ _ h)
        · replace h := h.2 c16
          refine v_aload_n hX dX9_questions_66 rfl (?_ : V X 67 [some (.ref 75), some (.int l1), some (.int l2), some (.int l3), some (.int x9), some (.int (l1 &&& (x9 ^^^ ((-1))))), none] [.ref 75] μ10)
          refine v_getr hX (94) fk_X9_65 sh_75 rfl rfl dX9_questions_67 (?_ : V X 70 [some (.ref 75), some (.int l1), some (.int l2), some (.int l3), some (.int x9), some (.int (l1 &&& (x9 ^^^ ((-1))))), none] [.ref 94] μ10)
          refine v_iload hX dX9_questions_70 rfl (?_ : V X 72 [some (.ref 75), some (.int l1), some (.int l2), some (.int l3), some (.int x9), some (.int (l1 &&& (x9 ^^^ ((-1))))), none] [.int x9, .ref 94] μ10)
          have hb21 := h.1
          replace h := h.2
          refine w_iald hX (Int32.toNatClampNeg x9) sh_94 hb21 rfl dX9_questions_72 (?_ : V X 73 [some (.ref 75), some (.int l1), some (.int l2), some (.int l3), some (.int x9), some (.int (l1 &&& (x9 ^^^ ((-1))))), none] [.int (gi μ10 94 (Int32.toNatClampNeg x9))] μ10)
          refine v_goto hX 83 dX9_questions_73 rfl (?_ : V X 83 [some (.ref 75), some (.int l1), some (.int l2), some (.int l3), some (.int x9), some (.int (l1 &&& (x9 ^^^ ((-1))))), none] [.int (gi μ10 94 (Int32.toNatClampNeg x9))] μ10)
          refine v_istore hX dX9_questions_83 (by rw [hn]; decide) (?_ : V X 85 [some (.ref 75), some (.int l1), some (.int l2), some (.int l3), some (.int x9), some (.int (l1 &&& (x9 ^^^ ((-1))))), some (.int (gi μ10 94 (Int32.toNatClampNeg x9)))] [] μ10)
          refine v_iconst hX 1 dX9_questions_85 rfl (?_ : V X 86 [some (.ref 75), some (.int l1), some (.int l2), some (.int l3), some (.int x9), some (.int (l1 &&& (x9 ^^^ ((-1))))), some (.int (gi μ10 94 (Int32.toNatClampNeg x9)))] [.int 1] μ10)
          refine v_iload hX dX9_questions_86 rfl (?_ : V X 88 [some (.ref 75), some (.int l1), some (.int l2), some (.int l3), some (.int x9), some (.int (l1 &&& (x9 ^^^ ((-1))))), some (.int (gi μ10 94 (Int32.toNatClampNeg x9)))] [.int (gi μ10 94 (Int32.toNatClampNeg x9)), .int 1] μ10)
          refine v_iadd hX dX9_questions_88 (?_ : V X 89 [some (.ref 75), some (.int l1), some (.int l2), some (.int l3), some (.int x9), some (.int (l1 &&& (x9 ^^^ ((-1))))), some (.int (gi μ10 94 (Int32.toNatClampNeg x9)))] [.int (1 + (gi μ10 94 (Int32.toNatClampNeg x9)))] μ10)
          refine v_iload_n hX dX9_questions_89 rfl (?_ : V X 90 [some (.ref 75), some (.int l1), some (.int l2), some (.int l3), some (.int x9), some (.int (l1 &&& (x9 ^^^ ((-1))))), some (.int (gi μ10 94 (Int32.toNatClampNeg x9)))] [.int l2, .int (1 + (gi μ10 94 (Int32.toNatClampNeg x9)))] μ10)
          refine v_icmp_ge hX 100 dX9_questions_90 rfl (fun c22 => ?_) (fun c22 => ?_)
          · replace h := h.1 c22
            refine v_iload_n hX dX9_questions_100 rfl (?_ : V X 101 [some (.ref 75), some (.int l1), some (.int l2), some (.int l3), some (.int x9), some (.int (l1 &&& (x9 ^^^ ((-1))))), some (.int (gi μ10 94 (Int32.toNatClampNeg x9)))] [.int l2] μ10)
            refine v_istore_n hX dX9_questions_101 (by rw [hn]; decide) (?_ : V X 102 [some (.ref 75), some (.int l1), some (.int l2), some (.int l3), some (.int x9), some (.int (l1 &&& (x9 ^^^ ((-1))))), some (.int (gi μ10 94 (Int32.toNatClampNeg x9)))] [] μ10)
            refine v_iinc hX 1 dX9_questions_102 (by rw [hn]; decide) rfl rfl (?_ : V X 105 [some (.ref 75), some (.int l1), some (.int l2), some (.int (l3 + 1)), some (.int x9), some (.int (l1 &&& (x9 ^^^ ((-1))))), some (.int (gi μ10 94 (Int32.toNatClampNeg x9)))] [] μ10)
            refine v_goto hX 18 dX9_questions_105 rfl (?_ : V X 18 [some (.ref 75), some (.int l1), some (.int l2), some (.int (l3 + 1)), some (.int x9), some (.int (l1 &&& (x9 ^^^ ((-1))))), some (.int (gi μ10 94 (Int32.toNatClampNeg x9)))] [] μ10)
            exact v_mask [true, true, true, true, false, false, false] (hJ18 _ _ _ _ h)
          · replace h := h.2 c22
            refine v_iconst hX 1 dX9_questions_93 rfl (?_ : V X 94 [some (.ref 75), some (.int l1), some (.int l2), some (.int l3), some (.int x9), some (.int (l1 &&& (x9 ^^^ ((-1))))), some (.int (gi μ10 94 (Int32.toNatClampNeg x9)))] [.int 1] μ10)
            refine v_iload hX dX9_questions_94 rfl (?_ : V X 96 [some (.ref 75), some (.int l1), some (.int l2), some (.int l3), some (.int x9), some (.int (l1 &&& (x9 ^^^ ((-1))))), some (.int (gi μ10 94 (Int32.toNatClampNeg x9)))] [.int (gi μ10 94 (Int32.toNatClampNeg x9)), .int 1] μ10)
            refine v_iadd hX dX9_questions_96 (?_ : V X 97 [some (.ref 75), some (.int l1), some (.int l2), some (.int l3), some (.int x9), some (.int (l1 &&& (x9 ^^^ ((-1))))), some (.int (gi μ10 94 (Int32.toNatClampNeg x9)))] [.int (1 + (gi μ10 94 (Int32.toNatClampNeg x9)))] μ10)
            refine v_goto hX 101 dX9_questions_97 rfl (?_ : V X 101 [some (.ref 75), some (.int l1), some (.int l2), some (.int l3), some (.int x9), some (.int (l1 &&& (x9 ^^^ ((-1))))), some (.int (gi μ10 94 (Int32.toNatClampNeg x9)))] [.int (1 + (gi μ10 94 (Int32.toNatClampNeg x9)))] μ10)
            refine v_istore_n hX dX9_questions_101 (by rw [hn]; decide) (?_ : V X 102 [some (.ref 75), some (.int l1), some (.int (1 + (gi μ10 94 (Int32.toNatClampNeg x9)))), some (.int l3), some (.int x9), some (.int (l1 &&& (x9 ^^^ ((-1))))), some (.int (gi μ10 94 (Int32.toNatClampNeg x9)))] [] μ10)
            refine v_iinc hX 1 dX9_questions_102 (by rw [hn]; decide) rfl rfl (?_ : V X 105 [some (.ref 75), some (.int l1), some (.int (1 + (gi μ10 94 (Int32.toNatClampNeg x9)))), some (.int (l3 + 1)), some (.int x9), some (.int (l1 &&& (x9 ^^^ ((-1))))), some (.int (gi μ10 94 (Int32.toNatClampNeg x9)))] [] μ10)
            refine v_goto hX 18 dX9_questions_105 rfl (?_ : V X 18 [some (.ref 75), some (.int l1), some (.int (1 + (gi μ10 94 (Int32.toNatClampNeg x9)))), some (.int (l3 + 1)), some (.int x9), some (.int (l1 &&& (x9 ^^^ ((-1))))), some (.int (gi μ10 94 (Int32.toNatClampNeg x9)))] [] μ10)
            exact v_mask [true, true, true, true, false, false, false] (hJ18 _ _ _ _ h)
set_option maxRecDepth 20000 in
set_option maxHeartbeats 4000000 in
theorem vp_X9_questions_0   (μ : Mem) (hpre : pre_X9_questions  μ) : vc_X9_questions_0  μ (post_X9_questions  μ) (fun l1 m => ∃ k : Nat, inv_X9_questions_7  μ k l1 m) (fun l1 l2 l3 m => ∃ k : Nat, inv_X9_questions_18  μ k l1 l2 l3 m) := by
  simp only [vc_X9_questions_0, pre_X9_having, pre_X9_left, post_X9_having, post_X9_left, and_imp, call_eq, forall_eq, forall_const, true_and, and_true]
  refine ⟨6400, 0, by omega, rfl, rfl, fr_ui (by simp), fun k hk => ?_, fun s hs => absurd hs (Nat.not_lt_zero s)⟩
  rw [gi_ui, if_neg (by simp [hk])]
set_option maxRecDepth 20000 in
set_option maxHeartbeats 4000000 in
theorem vp_X9_questions_7   (μ : Mem) (hpre : pre_X9_questions  μ) (n : Nat) (l1 : Int32) (μ0 : Mem) (hi : inv_X9_questions_7  μ n l1 μ0) : vc_X9_questions_7  l1 μ0 (post_X9_questions  μ) (fun l1 m => ∃ k : Nat, k < n ∧ inv_X9_questions_7  μ k l1 m) (fun l1 l2 l3 m => ∃ k : Nat, k < n ∧ inv_X9_questions_18  μ k l1 l2 l3 m) := by
  simp only [vc_X9_questions_7, pre_X9_having, pre_X9_left, post_X9_having, post_X9_left, and_imp, call_eq, forall_eq, forall_const, true_and, and_true]
  obtain ⟨h1, h2⟩ := hpre
  obtain ⟨i, hi1, rfl, rfl, hf, h75, hT⟩ := hi
  rw [show (64 : Int32) = nI 64 from rfl, nI_leI (by omega) (by omega)]
  have k77 : ∀ k, gi μ0 77 k = gi μ 77 k := fun k => hf.1 77 (by simp) k
  have hL : leftM μ0 = leftM μ := by
    unfold leftM gn
    rw [k77, k77, show gi μ0 83 = gi μ 83 from funext fun k => hf.1 83 (by simp) k, hf.1 84 (by simp)]
  obtain ⟨e, he⟩ := leftM_bits h1
  rw [hL]
  refine ⟨fun c => ⟨⟨?_, ?_⟩, by rw [e]; exact vp_in_nI he (by omega), hf, h75, gn μ0 94, (leftM μ).toNatClampNeg, e, he, ?_, fun q hq => (hT q (by omega)).2⟩, fun c => ⟨(63 - i) * 100 + 10 + (5 - 0), by omega, i, 0, by omega, by omega, rfl, rfl, rfl, rfl, hf, h75, hT⟩⟩
  · unfold isN gn; rw [k77]; exact h1
  · unfold isN gn; rw [k77]; exact h2
  · exact (hT _ (by omega)).1.1
set_option maxRecDepth 20000 in
set_option maxHeartbeats 4000000 in
theorem vp_X9_questions_18   (μ : Mem) (hpre : pre_X9_questions  μ) (n : Nat) (l1 : Int32) (l2 : Int32) (l3 : Int32) (μ0 : Mem) (hi : inv_X9_questions_18  μ n l1 l2 l3 μ0) : vc_X9_questions_18  l1 l2 l3 μ0 (post_X9_questions  μ) (fun l1 m => ∃ k : Nat, k < n ∧ inv_X9_questions_7  μ k l1 m) (fun l1 l2 l3 m => ∃ k : Nat, k < n ∧ inv_X9_questions_18  μ k l1 l2 l3 m) := by
  simp only [vc_X9_questions_18, pre_X9_having, pre_X9_left, post_X9_having, post_X9_left, and_imp, call_eq, forall_eq, forall_const, true_and, and_true]
  obtain ⟨h1, h2⟩ := hpre
  obtain ⟨i, t, hi1, ht1, rfl, rfl, rfl, rfl, hf, h75, hT⟩ := hi
  have k77 : ∀ k, gi μ0 77 k = gi μ 77 k := fun k => hf.1 77 (by simp) k
  have hH : ∀ k, havF μ0 (nI k) = havF μ (nI k) := by
    intro k; unfold havF gn
    rw [k77, show gi μ0 83 = gi μ 83 from funext fun k => hf.1 83 (by simp) k]
  have hh : ∀ k, hvM μ k < 64 := fun k => (hav_bits h1 (nI k)).2
  have hTq : ∀ q, q < i → gn μ0 94 q ≤ q := fun q hq => (hT q hq).1.2
  have hst : ∀ k, stp (gn μ0 94) (hvM μ) 100000000 i k ≤ 100000000 := fun k => stp_le k
  rw [show (5 : Int32) = nI 5 from rfl, show (100000000 : Int32) = nI 100000000 from rfl, nI_leI (by omega) (by omega), nI_eq (by have := hst t; omega) (by omega), nI_clamp (by omega)]
  refine ⟨fun c => ?_, fun c => ?_⟩
  · have : t = 5 := by omega
    subst this
    have fin : ∀ val, val = (if stp (gn μ0 94) (hvM μ) 100000000 i 5 = 100000000 then 0 else stp (gn μ0 94) (hvM μ) 100000000 i 5) → inv_X9_questions_7 μ ((64 - (i + 1)) * 100) (nI i + 1) (ui μ0 94 i (nI val)) := by
      intro val hval
      have hvi : val ≤ i := by
        rw [hval]; split
        · omega
        · rename_i q
          rcases stp_s (z := 100000000) (hv := hvM μ) hi1 hTq 5 (fun k _ => hh k) with z | z
          · exact absurd z q
          · exact z
      have hg : ∀ s, gn (ui μ0 94 i (nI val)) 94 s = if s = i then val else gn μ0 94 s := by
        intro s
        unfold gn
        rw [gi_ui]
        by_cases z : s = i
        · rw [if_pos ⟨rfl, z⟩, if_pos z, nI_clamp (by omega)]
        · rw [if_neg (by simp [z]), if_neg z]
      have hS : ∀ s, s ≤ i → stp (gn (ui μ0 94 i (nI val)) 94) (hvM μ) 100000000 s 5 = stp (gn μ0 94) (hvM μ) 100000000 s 5 := fun s hs => stp_congr (by omega) (fun q hq => by rw [hg, if_neg (by omega)]) 5 (fun k hk => hh k)
      refine ⟨i + 1, by omega, rfl, nI_1 i, fr_trans hf (fr_ui (by simp)), fun k hk => ?_, fun s hs => ?_⟩
      · rw [gi_ui, if_neg (by simp)]; exact h75 k hk
      · rw [hS s (by omega), hg s]
        by_cases z : s = i
        · subst z
          rw [if_pos rfl]
          refine ⟨⟨?_, ?_⟩, hval⟩
          · rw [hg, if_pos rfl, gi_ui, if_pos ⟨rfl, rfl⟩]
          · rw [hg, if_pos rfl]; exact hvi
        · rw [if_neg z]
          obtain ⟨q1, q2⟩ := hT s (by omega)
          refine ⟨⟨?_, ?_⟩, q2⟩
          · rw [hg, if_neg z, gi_ui, if_neg (by simp [z])]; exact q1.1
          · rw [hg, if_neg z]; exact q1.2
    exact ⟨fun c2 => ⟨vp_in_nI (by omega) (by omega), (64 - (i + 1)) * 100, by omega, fin _ (by rw [if_neg c2])⟩, fun c2 => ⟨vp_in_nI (by omega) (by omega), (64 - (i + 1)) * 100, by omega, fin 0 (by rw [if_pos c2])⟩⟩
  · obtain ⟨b1, b2⟩ := hav_bits h1 (nI t)
    have ey : nI i &&& havF μ0 (nI t) = nI (i &&& hvM μ t) := by
      rw [hH]
      have := and_n i hi1 (hvM μ t) (hh t)
      unfold hvM at this ⊢
      rw [← b1] at this; exact this
    have en : nI i &&& (nI (i &&& hvM μ t) ^^^ -1) = nI (i &&& (63 ^^^ hvM μ t)) := and_d i hi1 (hvM μ t) (hh t)
    rw [ey, en]
    obtain ⟨⟨l1, l2⟩, l3⟩ := parts_lt i hi1 (hvM μ t) (hh t)
    rw [show (0 : Int32) = nI 0 from rfl, nI_eq (by omega) (by omega), nI_eq (by omega) (by omega), nI_clamp (by omega), nI_clamp (by omega)]
    have key : ∀ v, v = nI (stp (gn μ0 94) (hvM μ) 100000000 i (t + 1)) → ∃ k, k < (63 - i) * 100 + 10 + (5 - t) ∧ inv_X9_questions_18 μ k (nI i) v (nI t + 1) μ0 := fun v hv => ⟨(63 - i) * 100 + 10 + (5 - (t + 1)), by omega, i, t + 1, hi1, by omega, rfl, rfl, nI_1 t, hv, hf, h75, hT⟩
    refine ⟨⟨by rw [k77]; exact h1.1.trans (by unfold gn; rw [k77]), by unfold gn; rw [k77]; exact h1.2⟩, fun c2 => key _ ?_, fun c2 => ⟨fun c3 => key _ ?_, fun c3 => ⟨vp_in_nI (by omega) (by omega), vp_in_nI (by omega) (by omega), ?_⟩⟩⟩
    · rw [stp, if_pos (Or.inl c2)]
    · rw [stp, if_pos (Or.inr c3)]
    · have l4 : i &&& hvM μ t < i ∧ i &&& (63 ^^^ hvM μ t) < i := by
        rcases l3 with q | q | q
        · exact absurd q c2
        · exact absurd q c3
        · exact q
      obtain ⟨⟨a1, a2⟩, -⟩ := hT _ l4.1
      obtain ⟨⟨b1, b2⟩, -⟩ := hT _ l4.2
      have hst' := hst t
      have es : stp (gn μ0 94) (hvM μ) 100000000 i (t + 1) = min (stp (gn μ0 94) (hvM μ) 100000000 i t) (1 + max (gn μ0 94 (i &&& hvM μ t)) (gn μ0 94 (i &&& (63 ^^^ hvM μ t)))) := by
        rw [stp, if_neg (by rintro (q | q); exact c2 q; exact c3 q)]
      have pA : (1 : Int32) + nI (gn μ0 94 (i &&& hvM μ t)) = nI (1 + gn μ0 94 (i &&& hvM μ t)) := by rw [show (1 : Int32) = nI 1 from rfl, nI_add]
      have pB : (1 : Int32) + nI (gn μ0 94 (i &&& (63 ^^^ hvM μ t))) = nI (1 + gn μ0 94 (i &&& (63 ^^^ hvM μ t))) := by rw [show (1 : Int32) = nI 1 from rfl, nI_add]
      rw [a1, b1, pA, pB, nI_leI (by omega) (by omega), nI_leI (by omega) (by omega), nI_leI (by omega) (by omega)]
      refine ⟨fun c4 => ⟨vp_in_nI (by omega) (by omega), fun c5 => key _ ?_, fun c5 => key _ ?_⟩, fun c4 => ⟨vp_in_nI (by omega) (by omega), fun c5 => key _ ?_, fun c5 => key _ ?_⟩⟩
      · rw [es, Nat.max_eq_right (by omega), Nat.min_eq_left (by omega)]
      · rw [es, Nat.max_eq_right (by omega), Nat.min_eq_right (by omega)]
      · rw [es, Nat.max_eq_left (by omega), Nat.min_eq_left (by omega)]
      · rw [es, Nat.max_eq_left (by omega), Nat.min_eq_right (by omega)]
theorem sp_X9_questions : Sp yX9_questions cX9_questions 7 (some .int) 1 S_X9_questions := by
  refine sp_of (by decide) (fun av μ P h => ?_) ?_
  · obtain ⟨rfl, -⟩ := h
    refine ⟨Nat.le_of_ble_eq_true rfl, fun v hv => ?_⟩
    simp only [List.mem_cons, List.not_mem_nil, or_false] at hv
    subst hv; rfl
  · rintro X P hO _ μ ⟨rfl, hpre, hpost⟩ hn
    have hJ : ∀ n : Nat, (∀ (l1 : Int32) (m : Mem), inv_X9_questions_7  μ n l1 m → V X 7 [some (.ref 75), some (.int l1), none, none, none, none, none] [] m) ∧ (∀ (l1 : Int32) (l2 : Int32) (l3 : Int32) (m : Mem), inv_X9_questions_18  μ n l1 l2 l3 m → V X 18 [some (.ref 75), some (.int l1), some (.int l2), some (.int l3), none, none, none] [] m) := by
      intro n
      induction n using Nat.strongRecOn with
      | _ n ih =>
        exact ⟨fun l1 m hi => wk_X9_questions_7 (J7 := (fun l1 m => ∃ k : Nat, k < n ∧ inv_X9_questions_7  μ k l1 m)) (J18 := (fun l1 l2 l3 m => ∃ k : Nat, k < n ∧ inv_X9_questions_18  μ k l1 l2 l3 m)) hO hn   l1 m hpost (fun l1 m hk => by obtain ⟨k, hk, hi⟩ := hk; exact (ih k hk).1 l1 m hi) (fun l1 l2 l3 m hk => by obtain ⟨k, hk, hi⟩ := hk; exact (ih k hk).2 l1 l2 l3 m hi) (vp_X9_questions_7   μ hpre n l1 m hi), fun l1 l2 l3 m hi => wk_X9_questions_18 (J7 := (fun l1 m => ∃ k : Nat, k < n ∧ inv_X9_questions_7  μ k l1 m)) (J18 := (fun l1 l2 l3 m => ∃ k : Nat, k < n ∧ inv_X9_questions_18  μ k l1 l2 l3 m)) hO hn   l1 l2 l3 m hpost (fun l1 m hk => by obtain ⟨k, hk, hi⟩ := hk; exact (ih k hk).1 l1 m hi) (fun l1 l2 l3 m hk => by obtain ⟨k, hk, hi⟩ := hk; exact (ih k hk).2 l1 l2 l3 m hi) (vp_X9_questions_18   μ hpre n l1 l2 l3 m hi)⟩
    exact wk_X9_questions_0 (J7 := (fun l1 m => ∃ k : Nat, inv_X9_questions_7  μ k l1 m)) (J18 := (fun l1 l2 l3 m => ∃ k : Nat, inv_X9_questions_18  μ k l1 l2 l3 m)) hO hn   μ hpost (fun l1 m hk => by obtain ⟨k, hi⟩ := hk; exact (hJ k).1 l1 m hi) (fun l1 l2 l3 m hk => by obtain ⟨k, hi⟩ := hk; exact (hJ k).2 l1 l2 l3 m hi) (vp_X9_questions_0   μ hpre)

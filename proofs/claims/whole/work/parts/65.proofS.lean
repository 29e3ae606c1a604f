def S_X1_cheapestBut : Tr := fun av μ P => ∃ (p1 : Int32), av = [.ref 59, .int p1] ∧ pre_X1_cheapestBut p1 μ ∧ ∀ (x : Int32) (m : Mem), post_X1_cheapestBut p1 μ x m → P (some (.int x)) m
def vc_X1_cheapestBut_0 (p1 : Int32)  (μ : Mem) (R : Int32 → Mem → Prop) (J9 : Int32 → Int32 → Int32 → Mem → Prop) : Prop :=
  J9 ((-9)) 1000000000 0 μ
set_option maxRecDepth 20000 in
set_option maxHeartbeats 4000000 in
theorem wk_X1_cheapestBut_0 {X : XT} {P : Post} (hO : OkM X cX1_cheapestBut RX1 0 (some .int) P) (hn : xn X = 6) (p1 : Int32)   (μ : Mem) {R : Int32 → Mem → Prop} (hR : ∀ x m, R x m → P (some (.int x)) m) {J9 : Int32 → Int32 → Int32 → Mem → Prop} (hJ9 : ∀ (l2 : Int32) (l3 : Int32) (l4 : Int32) (m : Mem), J9 l2 l3 l4 m → V X 9 [some (.ref 59), some (.int p1), some (.int l2), some (.int l3), some (.int l4), none] [] m)  (h : vc_X1_cheapestBut_0 p1  μ R J9) : V X 0 [some (.ref 59), some (.int p1), none, none, none, none] [] μ := by
  have hX := hO.1
  unfold vc_X1_cheapestBut_0 at h
  refine v_bipush hX (-9) dX1_cheapestBut_0 rfl (?_ : V X 2 [some (.ref 59), some (.int p1), none, none, none, none] [.int ((-9))] μ)
  refine v_istore_n hX dX1_cheapestBut_2 (by rw [hn]; decide) (?_ : V X 3 [some (.ref 59), some (.int p1), some (.int ((-9))), none, none, none] [] μ)
  refine v_ldc hX 1000000000 dX1_cheapestBut_3 kk_X1_57 (?_ : V X 5 [some (.ref 59), some (.int p1), some (.int ((-9))), none, none, none] [.int 1000000000] μ)
  refine v_istore_n hX dX1_cheapestBut_5 (by rw [hn]; decide) (?_ : V X 6 [some (.ref 59), some (.int p1), some (.int ((-9))), some (.int 1000000000), none, none] [] μ)
  refine v_iconst hX 0 dX1_cheapestBut_6 rfl (?_ : V X 7 [some (.ref 59), some (.int p1), some (.int ((-9))), some (.int 1000000000), none, none] [.int 0] μ)
  refine v_istore hX dX1_cheapestBut_7 (by rw [hn]; decide) (?_ : V X 9 [some (.ref 59), some (.int p1), some (.int ((-9))), some (.int 1000000000), some (.int 0), none] [] μ)
  exact v_mask [true, true, true, true, true, false] (hJ9 _ _ _ _ h)
def vc_X1_cheapestBut_9 (p1 : Int32) (l2 : Int32) (l3 : Int32) (l4 : Int32) (μ : Mem) (R : Int32 → Mem → Prop) (J9 : Int32 → Int32 → Int32 → Mem → Prop) : Prop :=
  ((5 ≤ l4 → R l2 μ) ∧ (¬ 5 ≤ l4 → vp_in l4 5 ∧ (((gi μ 61 (Int32.toNatClampNeg l4)) = ((-9)) → J9 l2 l3 (l4 + 1) μ) ∧ (¬ (gi μ 61 (Int32.toNatClampNeg l4)) = ((-9)) → ((¬ ((p1 >>> (l4 &&& 31)) &&& 1) = 0 → J9 l2 l3 (l4 + 1) μ) ∧ (((p1 >>> (l4 &&& 31)) &&& 1) = 0 → vp_in l4 5 ∧ ((l3 ≤ (gi μ 61 (Int32.toNatClampNeg l4)) → J9 l2 l3 (l4 + 1) μ) ∧ (¬ l3 ≤ (gi μ 61 (Int32.toNatClampNeg l4)) → vp_in l4 5 ∧ J9 l4 (gi μ 61 (Int32.toNatClampNeg l4)) (l4 + 1) μ))))))))
set_option maxRecDepth 20000 in
set_option maxHeartbeats 4000000 in
theorem wk_X1_cheapestBut_9 {X : XT} {P : Post} (hO : OkM X cX1_cheapestBut RX1 0 (some .int) P) (hn : xn X = 6) (p1 : Int32)  (l2 : Int32) (l3 : Int32) (l4 : Int32) (μ : Mem) {R : Int32 → Mem → Prop} (hR : ∀ x m, R x m → P (some (.int x)) m) {J9 : Int32 → Int32 → Int32 → Mem → Prop} (hJ9 : ∀ (l2 : Int32) (l3 : Int32) (l4 : Int32) (m : Mem), J9 l2 l3 l4 m → V X 9 [some (.ref 59), some (.int p1), some (.int l2), some (.int l3), some (.int l4), none] [] m)  (h : vc_X1_cheapestBut_9 p1 l2 l3 l4 μ R J9) : V X 9 [some (.ref 59), some (.int p1), some (.int l2), some (.int l3), some (.int l4), none] [] μ := by
  have hX := hO.1
  unfold vc_X1_cheapestBut_9 at h
  refine v_iload hX dX1_cheapestBut_9 rfl (?_ : V X 11 [some (.ref 59), some (.int p1), some (.int l2), some (.int l3), some (.int l4), none] [.int l4] μ)
  refine v_iconst hX 5 dX1_cheapestBut_11 rfl (?_ : V X 12 [some (.ref 59), some (.int p1), some (.int l2), some (.int l3), some (.int l4), none] [.int 5, .int l4] μ)
  refine v_icmp_ge hX 76 dX1_cheapestBut_12 rfl (fun c1 => ?_) (fun c1 => ?_)
  · replace h := h.1 c1
    refine v_iload_n hX dX1_cheapestBut_76 rfl (?_ : V X 77 [some (.ref 59), some (.int p1), some (.int l2), some (.int l3), some (.int l4), none] [.int l2] μ)
    exact v_iret hO dX1_cheapestBut_77 (hR _ _ h)
  · replace h := h.2 c1
    refine v_aload_n hX dX1_cheapestBut_15 rfl (?_ : V X 16 [some (.ref 59), some (.int p1), some (.int l2), some (.int l3), some (.int l4), none] [.ref 59] μ)
    refine v_getr hX (61) fk_X1_15 sh_59 rfl rfl dX1_cheapestBut_16 (?_ : V X 19 [some (.ref 59), some (.int p1), some (.int l2), some (.int l3), some (.int l4), none] [.ref 61] μ)
    refine v_iload hX dX1_cheapestBut_19 rfl (?_ : V X 21 [some (.ref 59), some (.int p1), some (.int l2), some (.int l3), some (.int l4), none] [.int l4, .ref 61] μ)
    have hb2 := h.1
    replace h := h.2
    refine w_iald hX (Int32.toNatClampNeg l4) sh_61 hb2 rfl dX1_cheapestBut_21 (?_ : V X 22 [some (.ref 59), some (.int p1), some (.int l2), some (.int l3), some (.int l4), none] [.int (gi μ 61 (Int32.toNatClampNeg l4))] μ)
    refine v_bipush hX (-9) dX1_cheapestBut_22 rfl (?_ : V X 24 [some (.ref 59), some (.int p1), some (.int l2), some (.int l3), some (.int l4), none] [.int ((-9)), .int (gi μ 61 (Int32.toNatClampNeg l4))] μ)
    refine v_icmp_eq hX 40 dX1_cheapestBut_24 rfl (fun c3 => ?_) (fun c3 => ?_)
    · replace h := h.1 c3
      refine v_iconst hX 0 dX1_cheapestBut_40 rfl (?_ : V X 41 [some (.ref 59), some (.int p1), some (.int l2), some (.int l3), some (.int l4), none] [.int 0] μ)
      refine v_istore hX dX1_cheapestBut_41 (by rw [hn]; decide) (?_ : V X 43 [some (.ref 59), some (.int p1), some (.int l2), some (.int l3), some (.int l4), some (.int 0)] [] μ)
      refine v_iload hX dX1_cheapestBut_43 rfl (?_ : V X 45 [some (.ref 59), some (.int p1), some (.int l2), some (.int l3), some (.int l4), some (.int 0)] [.int 0] μ)
      refine v_if_eq hX 70 dX1_cheapestBut_45 rfl (fun _ => (?_ : V X 70 [some (.ref 59), some (.int p1), some (.int l2), some (.int l3), some (.int l4), some (.int 0)] [] μ)) (fun c1 => absurd c1 (by decide))
      refine v_iinc hX 1 dX1_cheapestBut_70 (by rw [hn]; decide) rfl rfl (?_ : V X 73 [some (.ref 59), some (.int p1), some (.int l2), some (.int l3), some (.int (l4 + 1)), some (.int 0)] [] μ)
      refine v_goto hX 9 dX1_cheapestBut_73 rfl (?_ : V X 9 [some (.ref 59), some (.int p1), some (.int l2), some (.int l3), some (.int (l4 + 1)), some (.int 0)] [] μ)
      exact v_mask [true, true, true, true, true, false] (hJ9 _ _ _ _ h)
    · replace h := h.2 c3
      refine v_iload_n hX dX1_cheapestBut_27 rfl (?_ : V X 28 [some (.ref 59), some (.int p1), some (.int l2), some (.int l3), some (.int l4), none] [.int p1] μ)
      refine v_iload hX dX1_cheapestBut_28 rfl (?_ : V X 30 [some (.ref 59), some (.int p1), some (.int l2), some (.int l3), some (.int l4), none] [.int l4, .int p1] μ)
      refine v_ishr hX dX1_cheapestBut_30 (?_ : V X 31 [some (.ref 59), some (.int p1), some (.int l2), some (.int l3), some (.int l4), none] [.int (p1 >>> (l4 &&& 31))] μ)
      refine v_iconst hX 1 dX1_cheapestBut_31 rfl (?_ : V X 32 [some (.ref 59), some (.int p1), some (.int l2), some (.int l3), some (.int l4), none] [.int 1, .int (p1 >>> (l4 &&& 31))] μ)
      refine v_iand hX dX1_cheapestBut_32 (?_ : V X 33 [some (.ref 59), some (.int p1), some (.int l2), some (.int l3), some (.int l4), none] [.int ((p1 >>> (l4 &&& 31)) &&& 1)] μ)
      refine v_if_ne hX 40 dX1_cheapestBut_33 rfl (fun c4 => ?_) (fun c4 => ?_)
      · replace h := h.1 c4
        refine v_iconst hX 0 dX1_cheapestBut_40 rfl (?_ : V X 41 [some (.ref 59), some (.int p1), some (.int l2), some (.int l3), some (.int l4), none] [.int 0] μ)
        refine v_istore hX dX1_cheapestBut_41 (by rw [hn]; decide) (?_ : V X 43 [some (.ref 59), some (.int p1), some (.int l2), some (.int l3), some (.int l4), some (.int 0)] [] μ)
        refine v_iload hX dX1_cheapestBut_43 rfl (?_ : V X 45 [some (.ref 59), some (.int p1), some (.int l2), some (.int l3), some (.int l4), some (.int 0)] [.int 0] μ)
        refine v_if_eq hX 70 dX1_cheapestBut_45 rfl (fun _ => (?_ : V X 70 [some (.ref 59), some (.int p1), some (.int l2), some (.int l3), some (.int l4), some (.int 0)] [] μ)) (fun c1 => absurd c1 (by decide))
        refine v_iinc hX 1 dX1_cheapestBut_70 (by rw [hn]; decide) rfl rfl (?_ : V X 73 [some (.ref 59), some (.int p1), some (.int l2), some (.int l3), some (.int (l4 + 1)), some (.int 0)] [] μ)
        refine v_goto hX 9 dX1_cheapestBut_73 rfl (?_ : V X 9 [some (.ref 59), some (.int p1), some (.int l2), some (.int l3), some (.int (l4 + 1)), some (.int 0)] [] μ)
        exact v_mask [true, true, true, true, true, false] (hJ9 _ _ _ _ h)
      · replace h := h.2 c4
        refine v_iconst hX 1 dX1_cheapestBut_36 rfl (?_ : V X 37 [some (.ref 59), some (.int p1), some (.int l2), some (.int l3), some (.int l4), none] [.int 1] μ)
        refine v_goto hX 41 dX1_cheapestBut_37 rfl (?_ : V X 41 [some (.ref 59), some (.int p1), some (.int l2), some (.int l3), some (.int l4), none] [.int 1] μ)
        refine v_istore hX dX1_cheapestBut_41 (by rw [hn]; decide) (?_ : V X 43 [some (.ref 59), some (.int p1), some (.int l2), some (.int l3), some (.int l4), some (.int 1)] [] μ)
        refine v_iload hX dX1_cheapestBut_43 rfl (?_ : V X 45 [some (.ref 59), some (.int p1), some (.int l2), some (.int l3), some (.int l4), some (.int 1)] [.int 1] μ)
        refine v_if_eq hX 70 dX1_cheapestBut_45 rfl (fun c1 => absurd c1 (by decide)) (fun _ => (?_ : V X 48 [some (.ref 59), some (.int p1), some (.int l2), some (.int l3), some (.int l4), some (.int 1)] [] μ))
        refine v_aload_n hX dX1_cheapestBut_48 rfl (?_ : V X 49 [some (.ref 59), some (.int p1), some (.int l2), some (.int l3), some (.int l4), some (.int 1)] [.ref 59] μ)
        refine v_getr hX (61) fk_X1_15 sh_59 rfl rfl dX1_cheapestBut_49 (?_ : V X 52 [some (.ref 59), some (.int p1), some (.int l2), some (.int l3), some (.int l4), some (.int 1)] [.ref 61] μ)
        refine v_iload hX dX1_cheapestBut_52 rfl (?_ : V X 54 [some (.ref 59), some (.int p1), some (.int l2), some (.int l3), some (.int l4), some (.int 1)] [.int l4, .ref 61] μ)
        have hb5 := h.1
        replace h := h.2
        refine w_iald hX (Int32.toNatClampNeg l4) sh_61 hb5 rfl dX1_cheapestBut_54 (?_ : V X 55 [some (.ref 59), some (.int p1), some (.int l2), some (.int l3), some (.int l4), some (.int 1)] [.int (gi μ 61 (Int32.toNatClampNeg l4))] μ)
        refine v_iload_n hX dX1_cheapestBut_55 rfl (?_ : V X 56 [some (.ref 59), some (.int p1), some (.int l2), some (.int l3), some (.int l4), some (.int 1)] [.int l3, .int (gi μ 61 (Int32.toNatClampNeg l4))] μ)
        refine v_icmp_ge hX 70 dX1_cheapestBut_56 rfl (fun c6 => ?_) (fun c6 => ?_)
        · replace h := h.1 c6
          refine v_iinc hX 1 dX1_cheapestBut_70 (by rw [hn]; decide) rfl rfl (?_ : V X 73 [some (.ref 59), some (.int p1), some (.int l2), some (.int l3), some (.int (l4 + 1)), some (.int 1)] [] μ)
          refine v_goto hX 9 dX1_cheapestBut_73 rfl (?_ : V X 9 [some (.ref 59), some (.int p1), some (.int l2), some (.int l3), some (.int (l4 + 1)), some (.int 1)] [] μ)
          exact v_mask [true, true, true, true, true, false] (hJ9 _ _ _ _ h)
        · replace h := h.2 c6
          refine v_aload_n hX dX1_cheapestBut_59 rfl (?_ : V X 60 [some (.ref 59), some (.int p1), some (.int l2), some (.int l3), some (.int l4), some (.int 1)] [.ref 59] μ)
          refine v_getr hX (61) fk_X1_15 sh_59 rfl rfl dX1_cheapestBut_60 (?_ : V X 63 [some (.ref 59), some (.int p1), some (.int l2), some (.int l3), some (.int l4), some (.int 1)] [.ref 61] μ)
          refine v_iload hX dX1_cheapestBut_63 rfl (?_ : V X 65 [some (.ref 59), some (.int p1), some (.int l2), some (.int l3), some (.int l4), some (.int 1)] [.int l4, .ref 61] μ)
          have hb7 := h.1
          replace h := h.2
          refine w_iald hX (Int32.toNatClampNeg l4) sh_61 hb7 rfl dX1_cheapestBut_65 (?_ : V X 66 [some (.ref 59), some (.int p1), some (.int l2), some (.int l3), some (.int l4), some (.int 1)] [.int (gi μ 61 (Int32.toNatClampNeg l4))] μ)
          refine v_istore_n hX dX1_cheapestBut_66 (by rw [hn]; decide) (?_ : V X 67 [some (.ref 59), some (.int p1), some (.int l2), some (.int (gi μ 61 (Int32.toNatClampNeg l4))), some (.int l4), some (.int 1)] [] μ)
          refine v_iload hX dX1_cheapestBut_67 rfl (?_ : V X 69 [some (.ref 59), some (.int p1), some (.int l2), some (.int (gi μ 61 (Int32.toNatClampNeg l4))), some (.int l4), some (.int 1)] [.int l4] μ)
          refine v_istore_n hX dX1_cheapestBut_69 (by rw [hn]; decide) (?_ : V X 70 [some (.ref 59), some (.int p1), some (.int l4), some (.int (gi μ 61 (Int32.toNatClampNeg l4))), some (.int l4), some (.int 1)] [] μ)
          refine v_iinc hX 1 dX1_cheapestBut_70 (by rw [hn]; decide) rfl rfl (?_ : V X 73 [some (.ref 59), some (.int p1), some (.int l4), some (.int (gi μ 61 (Int32.toNatClampNeg l4))), some (.int (l4 + 1)), some (.int 1)] [] μ)
          refine v_goto hX 9 dX1_cheapestBut_73 rfl (?_ : V X 9 [some (.ref 59), some (.int p1), some (.int l4), some (.int (gi μ 61 (Int32.toNatClampNeg l4))), some (.int (l4 + 1)), some (.int 1)] [] μ)
          exact v_mask [true, true, true, true, true, false] (hJ9 _ _ _ _ h)
set_option maxRecDepth 20000 in
set_option maxHeartbeats 1000000 in
theorem vp_X1_cheapestBut_0 (p1 : Int32)  (μ : Mem) (hpre : pre_X1_cheapestBut p1 μ) : vc_X1_cheapestBut_0 p1 μ (post_X1_cheapestBut p1 μ) (fun l2 l3 l4 m => ∃ k : Nat, inv_X1_cheapestBut_9 p1 μ k l2 l3 l4 m) := by
  simp only [vc_X1_cheapestBut_0, and_imp, call_eq, forall_eq, forall_const, true_and, and_true]
  exact ⟨5, 0, by omega, rfl, rfl, rfl, rfl, rfl⟩
set_option maxRecDepth 20000 in
set_option maxHeartbeats 1000000 in
theorem vp_X1_cheapestBut_9 (p1 : Int32)  (μ : Mem) (hpre : pre_X1_cheapestBut p1 μ) (n : Nat) (l2 : Int32) (l3 : Int32) (l4 : Int32) (μ0 : Mem) (hi : inv_X1_cheapestBut_9 p1 μ n l2 l3 l4 μ0) : vc_X1_cheapestBut_9 p1 l2 l3 l4 μ0 (post_X1_cheapestBut p1 μ) (fun l2 l3 l4 m => ∃ k : Nat, k < n ∧ inv_X1_cheapestBut_9 p1 μ k l2 l3 l4 m) := by
  simp only [vc_X1_cheapestBut_9, and_imp, call_eq, forall_eq, forall_const, true_and, and_true]
  obtain ⟨i, hi1, rfl, rfl, rfl, rfl, rfl⟩ := hi
  rw [show (5 : Int32) = nI 5 from rfl, nI_leI (by omega) (by omega), nI_clamp (by omega)]
  have key : ∀ a b, (a, b) = chF (gi μ0 61) p1 (i + 1) → ∃ k, k < 5 - i ∧ inv_X1_cheapestBut_9 p1 μ0 k a b (nI i + 1) μ0 ∨ 5 ≤ i := by
    intro a b hab
    rcases Nat.lt_or_ge i 5 with z | z
    · refine ⟨5 - (i + 1), Or.inl ⟨by omega, i + 1, by omega, rfl, nI_1 i, ?_, ?_, rfl⟩⟩ <;> rw [← hab]
    · exact ⟨0, Or.inr z⟩
  have key2 : ¬ 5 ≤ i → ∀ a b, (a, b) = chF (gi μ0 61) p1 (i + 1) → ∃ k, k < 5 - i ∧ inv_X1_cheapestBut_9 p1 μ0 k a b (nI i + 1) μ0 := by
    intro hc a b hab
    obtain ⟨k, hk | hk⟩ := key a b hab
    · exact ⟨k, hk⟩
    · exact absurd hk hc
  refine ⟨fun c => ?_, fun c => ?_⟩
  · have : i = 5 := by omega
    subst this
    exact ⟨rfl, rfl⟩
  · have in5 : vp_in (nI i) 5 := vp_in_nI (by omega) (by omega)
    refine ⟨in5, fun c2 => key2 c _ _ ?_, fun c2 => ⟨fun c3 => key2 c _ _ ?_, fun c3 => ⟨in5, fun c4 => key2 c _ _ ?_, fun c4 => ⟨in5, key2 c _ _ ?_⟩⟩⟩⟩
    · rw [chF, if_neg (fun q => q.1 c2)]
    · rw [chF, if_neg (fun q => c3 q.2.1)]
    · rw [chF, if_neg (fun q => absurd c4 (by simpa using q.2.2))]
    · rw [chF, if_pos ⟨c2, c3, nle_lt c4⟩]
theorem sp_X1_cheapestBut : Sp yX1_cheapestBut cX1_cheapestBut 6 (some .int) 0 S_X1_cheapestBut := by
  refine sp_of (by decide) (fun av μ P h => ?_) ?_
  · obtain ⟨p1, rfl, -⟩ := h
    refine ⟨Nat.le_of_ble_eq_true rfl, fun v hv => ?_⟩
    simp only [List.mem_cons, List.not_mem_nil, or_false] at hv
    rcases hv with rfl | rfl <;> rfl
  · rintro X P hO _ μ ⟨p1, rfl, hpre, hpost⟩ hn
    have hJ : ∀ n : Nat, (∀ (l2 : Int32) (l3 : Int32) (l4 : Int32) (m : Mem), inv_X1_cheapestBut_9 p1 μ n l2 l3 l4 m → V X 9 [some (.ref 59), some (.int p1), some (.int l2), some (.int l3), some (.int l4), none] [] m) := by
      intro n
      induction n using Nat.strongRecOn with
      | _ n ih =>
        exact fun l2 l3 l4 m hi => wk_X1_cheapestBut_9 (J9 := (fun l2 l3 l4 m => ∃ k : Nat, k < n ∧ inv_X1_cheapestBut_9 p1 μ k l2 l3 l4 m)) hO hn p1  l2 l3 l4 m hpost (fun l2 l3 l4 m hk => by obtain ⟨k, hk, hi⟩ := hk; exact (ih k hk) l2 l3 l4 m hi) (vp_X1_cheapestBut_9 p1  μ hpre n l2 l3 l4 m hi)
    exact wk_X1_cheapestBut_0 (J9 := (fun l2 l3 l4 m => ∃ k : Nat, inv_X1_cheapestBut_9 p1 μ k l2 l3 l4 m)) hO hn p1  μ hpost (fun l2 l3 l4 m hk => by obtain ⟨k, hi⟩ := hk; exact (hJ k) l2 l3 l4 m hi) (vp_X1_cheapestBut_0 p1  μ hpre)
def S_X8_soonest : Tr := fun av μ P => ∃ (p1 : Int32) (p2 : Int32), av = [.ref 0, .int p1, .int p2] ∧ pre_X8_soonest p1 p2 μ ∧ ∀ (x : Int32) (m : Mem), post_X8_soonest p1 p2 μ x m → P (some (.int x)) m
def vc_X8_soonest_0 (p1 : Int32) (p2 : Int32)  (μ : Mem) (R : Int32 → Mem → Prop)  : Prop :=
  ((gp μ 1) = 3 ∨ (gp μ 1) = 10) ∧ (pre_X2_hasRoom ((gp μ 1)) p1 μ ∧ ∀ (x2 : Int32) (μ3 : Mem), post_X2_hasRoom ((gp μ 1)) p1 μ x2 μ3 → ((x2 = 0 → R ((-1)) μ3) ∧ (¬ x2 = 0 → ((((-2)) ≤ p2 → (pre_X7_isSolved p1 μ3 ∧ ∀ (x7 : Int32) (μ8 : Mem), post_X7_isSolved p1 μ3 x7 μ8 → ((x7 = 0 → ((gp μ8 1) = 3 ∨ (gp μ8 1) = 10) ∧ (pre_X1_solve ((gp μ8 1)) p1 μ8 ∧ ∀ (μ13 : Mem), post_X1_solve ((gp μ8 1)) p1 μ8 μ13 → (pre_X1_isNever  μ13 ∧ ∀ (x15 : Int32) (μ16 : Mem), post_X1_isNever  μ13 x15 μ16 → ((x15 = 0 → ((p2 = (-2) → (pre_X1_doingsNeeded  μ16 ∧ ∀ (x20 : Int32) (μ21 : Mem), post_X1_doingsNeeded  μ16 x20 μ21 → R x20 μ21)) ∧ (¬ p2 = (-2) → ((p2 = (-1) → (pre_X1_minutesNeeded  μ16 ∧ ∀ (x24 : Int32) (μ25 : Mem), post_X1_minutesNeeded  μ16 x24 μ25 → R x24 μ25)) ∧ (¬ p2 = (-1) → (pre_X1_doingAt p2 μ16 ∧ ∀ (x27 : Int32) (μ28 : Mem), post_X1_doingAt p2 μ16 x27 μ28 → R x27 μ28)))))) ∧ (¬ x15 = 0 → R ((-9)) μ16))))) ∧ (¬ x7 = 0 → R ((-2)) μ8)))) ∧ (¬ ((-2)) ≤ p2 → R ((-1)) μ3)))))
set_option maxRecDepth 20000 in
set_option maxHeartbeats 4000000 in
theorem wk_X8_soonest_0 {X : XT} {P : Post} (hO : OkM X cX8_soonest RX8 4 (some .int) P) (hn : xn X = 3) (p1 : Int32) (p2 : Int32)   (μ : Mem) {R : Int32 → Mem → Prop} (hR : ∀ x m, R x m → P (some (.int x)) m)    (h : vc_X8_soonest_0 p1 p2  μ R ) : V X 0 [some (.ref 0), some (.int p1), some (.int p2)] [] μ := by
  have hX := hO.1
  unfold vc_X8_soonest_0 at h
  refine v_aload_n hX dX8_soonest_0 rfl (?_ : V X 1 [some (.ref 0), some (.int p1), some (.int p2)] [.ref 0] μ)
  have hh1 := h.1
  replace h := h.2
  refine v_getp hX (gp μ 1) fk_X8_19 sh_0 rfl rfl dX8_soonest_1 (?_ : V X 4 [some (.ref 0), some (.int p1), some (.int p2)] [.ref ((gp μ 1))] μ)
  refine v_iload_n hX dX8_soonest_4 rfl (?_ : V X 5 [some (.ref 0), some (.int p1), some (.int p2)] [.int p1, .ref ((gp μ 1))] μ)
  refine v_callV hX sp_X2_hasRoom ck_X2_hasRoom mk_X8_108 mv_X2_hasRoom (sHo hh1) (by decide) (by decide) [.int p1] [] rfl rfl (Nat.le_of_ble_eq_true rfl) dX8_soonest_5 ⟨((gp μ 1)), p1, rfl, hh1, h.1, fun x2 μ3 hp4 => (?_ : V X 8 [some (.ref 0), some (.int p1), some (.int p2)] [.int x2] μ3)⟩
  replace h := h.2 x2 μ3 hp4
  refine v_if_eq hX 17 dX8_soonest_8 rfl (fun c5 => ?_) (fun c5 => ?_)
  · replace h := h.1 c5
    refine v_iconst hX (-1) dX8_soonest_17 rfl (?_ : V X 18 [some (.ref 0), some (.int p1), some (.int p2)] [.int ((-1))] μ3)
    exact v_iret hO dX8_soonest_18 (hR _ _ h)
  · replace h := h.2 c5
    refine v_iload_n hX dX8_soonest_11 rfl (?_ : V X 12 [some (.ref 0), some (.int p1), some (.int p2)] [.int p2] μ3)
    refine v_bipush hX (-2) dX8_soonest_12 rfl (?_ : V X 14 [some (.ref 0), some (.int p1), some (.int p2)] [.int ((-2)), .int p2] μ3)
    refine v_icmp_ge hX 19 dX8_soonest_14 rfl (fun c6 => ?_) (fun c6 => ?_)
    · replace h := h.1 c6
      refine v_aload_n hX dX8_soonest_19 rfl (?_ : V X 20 [some (.ref 0), some (.int p1), some (.int p2)] [.ref 0] μ3)
      refine v_getr hX (17) fk_X8_29 sh_0 rfl rfl dX8_soonest_20 (?_ : V X 23 [some (.ref 0), some (.int p1), some (.int p2)] [.ref 17] μ3)
      refine v_iload_n hX dX8_soonest_23 rfl (?_ : V X 24 [some (.ref 0), some (.int p1), some (.int p2)] [.int p1, .ref 17] μ3)
      refine v_callV hX sp_X7_isSolved ck_X7_isSolved mk_X8_122 mv_X7_isSolved sh_17 (by decide) (by decide) [.int p1] [] rfl rfl (Nat.le_of_ble_eq_true rfl) dX8_soonest_24 ⟨p1, rfl, h.1, fun x7 μ8 hp9 => (?_ : V X 27 [some (.ref 0), some (.int p1), some (.int p2)] [.int x7] μ8)⟩
      replace h := h.2 x7 μ8 hp9
      refine v_if_eq hX 33 dX8_soonest_27 rfl (fun c10 => ?_) (fun c10 => ?_)
      · replace h := h.1 c10
        refine v_aload_n hX dX8_soonest_33 rfl (?_ : V X 34 [some (.ref 0), some (.int p1), some (.int p2)] [.ref 0] μ8)
        refine v_getr hX (59) fk_X8_51 sh_0 rfl rfl dX8_soonest_34 (?_ : V X 37 [some (.ref 0), some (.int p1), some (.int p2)] [.ref 59] μ8)
        refine v_aload_n hX dX8_soonest_37 rfl (?_ : V X 38 [some (.ref 0), some (.int p1), some (.int p2)] [.ref 0, .ref 59] μ8)
        have hh11 := h.1
        replace h := h.2
        refine v_getp hX (gp μ8 1) fk_X8_19 sh_0 rfl rfl dX8_soonest_38 (?_ : V X 41 [some (.ref 0), some (.int p1), some (.int p2)] [.ref ((gp μ8 1)), .ref 59] μ8)
        refine v_aload_n hX dX8_soonest_41 rfl (?_ : V X 42 [some (.ref 0), some (.int p1), some (.int p2)] [.ref 0, .ref ((gp μ8 1)), .ref 59] μ8)
        refine v_getr hX (17) fk_X8_29 sh_0 rfl rfl dX8_soonest_42 (?_ : V X 45 [some (.ref 0), some (.int p1), some (.int p2)] [.ref 17, .ref ((gp μ8 1)), .ref 59] μ8)
        refine v_iload_n hX dX8_soonest_45 rfl (?_ : V X 46 [some (.ref 0), some (.int p1), some (.int p2)] [.int p1, .ref 17, .ref ((gp μ8 1)), .ref 59] μ8)
        refine v_callV hX sp_X1_solve ck_X1_solve mk_X8_184 mv_X1_solve sh_59 (by decide) (by decide) [.ref ((gp μ8 1)), .ref 17, .int p1] [] rfl rfl (Nat.le_of_ble_eq_true rfl) dX8_soonest_46 ⟨((gp μ8 1)), p1, rfl, hh11, h.1, fun μ13 hp14 => (?_ : V X 49 [some (.ref 0), some (.int p1), some (.int p2)] [] μ13)⟩
        replace h := h.2 μ13 hp14
        refine v_aload_n hX dX8_soonest_49 rfl (?_ : V X 50 [some (.ref 0), some (.int p1), some (.int p2)] [.ref 0] μ13)
        refine v_getr hX (59) fk_X8_51 sh_0 rfl rfl dX8_soonest_50 (?_ : V X 53 [some (.ref 0), some (.int p1), some (.int p2)] [.ref 59] μ13)
        refine v_callV hX sp_X1_isNever ck_X1_isNever mk_X8_188 mv_X1_isNever sh_59 (by decide) (by decide) [] [] rfl rfl (Nat.le_of_ble_eq_true rfl) dX8_soonest_53 ⟨rfl, h.1, fun x15 μ16 hp17 => (?_ : V X 56 [some (.ref 0), some (.int p1), some (.int p2)] [.int x15] μ16)⟩
        replace h := h.2 x15 μ16 hp17
        refine v_if_eq hX 62 dX8_soonest_56 rfl (fun c18 => ?_) (fun c18 => ?_)
        · replace h := h.1 c18
          refine v_iload_n hX dX8_soonest_62 rfl (?_ : V X 63 [some (.ref 0), some (.int p1), some (.int p2)] [.int p2] μ16)
          by_cases c19 : p2 = (-2)
          · replace h := h.1 c19
            refine v_lookup hX 96 dX8_soonest_63 (by decide) (o := 33) (by rw [c19]; decide) rfl (?_ : V X 96 [some (.ref 0), some (.int p1), some (.int p2)] [] μ16)
            refine v_aload_n hX dX8_soonest_96 rfl (?_ : V X 97 [some (.ref 0), some (.int p1), some (.int p2)] [.ref 0] μ16)
            refine v_getr hX (59) fk_X8_51 sh_0 rfl rfl dX8_soonest_97 (?_ : V X 100 [some (.ref 0), some (.int p1), some (.int p2)] [.ref 59] μ16)
            refine v_callV hX sp_X1_doingsNeeded ck_X1_doingsNeeded mk_X8_196 mv_X1_doingsNeeded sh_59 (by decide) (by decide) [] [] rfl rfl (Nat.le_of_ble_eq_true rfl) dX8_soonest_100 ⟨rfl, h.1, fun x20 μ21 hp22 => (?_ : V X 103 [some (.ref 0), some (.int p1), some (.int p2)] [.int x20] μ21)⟩
            replace h := h.2 x20 μ21 hp22
            exact v_iret hO dX8_soonest_103 (hR _ _ h)
          · replace h := h.2 c19
            by_cases c23 : p2 = (-1)
            · replace h := h.1 c23
              refine v_lookup hX 88 dX8_soonest_63 (by decide) (o := 25) (by rw [c23]; decide) rfl (?_ : V X 88 [some (.ref 0), some (.int p1), some (.int p2)] [] μ16)
              refine v_aload_n hX dX8_soonest_88 rfl (?_ : V X 89 [some (.ref 0), some (.int p1), some (.int p2)] [.ref 0] μ16)
              refine v_getr hX (59) fk_X8_51 sh_0 rfl rfl dX8_soonest_89 (?_ : V X 92 [some (.ref 0), some (.int p1), some (.int p2)] [.ref 59] μ16)
              refine v_callV hX sp_X1_minutesNeeded ck_X1_minutesNeeded mk_X8_192 mv_X1_minutesNeeded sh_59 (by decide) (by decide) [] [] rfl rfl (Nat.le_of_ble_eq_true rfl) dX8_soonest_92 ⟨rfl, h.1, fun x24 μ25 hp26 => (?_ : V X 95 [some (.ref 0), some (.int p1), some (.int p2)] [.int x24] μ25)⟩
              replace h := h.2 x24 μ25 hp26
              exact v_iret hO dX8_soonest_95 (hR _ _ h)
            · replace h := h.2 c23
              refine v_lookup hX 104 dX8_soonest_63 (by decide) (o := 41) (by show Op.lookupswitch.offset [(-2, 33), (-1, 25)] _ _ = _; rw [lv_osw (a := (-2)) c19 rfl, lv_osw (a := (-1)) c23 rfl]; rfl) rfl (?_ : V X 104 [some (.ref 0), some (.int p1), some (.int p2)] [] μ16)
              refine v_aload_n hX dX8_soonest_104 rfl (?_ : V X 105 [some (.ref 0), some (.int p1), some (.int p2)] [.ref 0] μ16)
              refine v_getr hX (59) fk_X8_51 sh_0 rfl rfl dX8_soonest_105 (?_ : V X 108 [some (.ref 0), some (.int p1), some (.int p2)] [.ref 59] μ16)
              refine v_iload_n hX dX8_soonest_108 rfl (?_ : V X 109 [some (.ref 0), some (.int p1), some (.int p2)] [.int p2, .ref 59] μ16)
              refine v_callV hX sp_X1_doingAt ck_X1_doingAt mk_X8_199 mv_X1_doingAt sh_59 (by decide) (by decide) [.int p2] [] rfl rfl (Nat.le_of_ble_eq_true rfl) dX8_soonest_109 ⟨p2, rfl, h.1, fun x27 μ28 hp29 => (?_ : V X 112 [some (.ref 0), some (.int p1), some (.int p2)] [.int x27] μ28)⟩
              replace h := h.2 x27 μ28 hp29
              exact v_iret hO dX8_soonest_112 (hR _ _ h)
        · replace h := h.2 c18
          refine v_bipush hX (-9) dX8_soonest_59 rfl (?_ : V X 61 [some (.ref 0), some (.int p1), some (.int p2)] [.int ((-9))] μ16)
          exact v_iret hO dX8_soonest_61 (hR _ _ h)
      · replace h := h.2 c10
        refine v_bipush hX (-2) dX8_soonest_30 rfl (?_ : V X 32 [some (.ref 0), some (.int p1), some (.int p2)] [.int ((-2))] μ8)
        exact v_iret hO dX8_soonest_32 (hR _ _ h)
    · replace h := h.2 c6
      refine v_iconst hX (-1) dX8_soonest_17 rfl (?_ : V X 18 [some (.ref 0), some (.int p1), some (.int p2)] [.int ((-1))] μ3)
      exact v_iret hO dX8_soonest_18 (hR _ _ h)
set_option maxRecDepth 20000 in
set_option maxHeartbeats 1000000 in
theorem vp_X8_soonest_0 (p1 : Int32) (p2 : Int32)  (μ : Mem) (hpre : pre_X8_soonest p1 p2 μ) : vc_X8_soonest_0 p1 p2 μ (post_X8_soonest p1 p2 μ)  := by
  unfold vc_X8_soonest_0
  obtain ⟨hw, hS⟩ := hpre
  have hw' : gp μ 1 = 3 ∨ gp μ 1 = 10 := hw
  refine ⟨hw', trivial, ?_⟩
  rintro x2 m2 ⟨hx2, rfl⟩
  obtain ⟨h0, h4, h5, h2, h18, h19⟩ := hS
  have bad : (p1 < 0 ∨ gi m2 (gp m2 1) 0 ≤ p1 ∨ p2 < -2) → post_X8_soonest p1 p2 m2 (-1) m2 := fun q => ⟨fr_refl _ _, fun _ => rfl, fun z => absurd q z⟩
  by_cases c : p1 < 0 ∨ gi m2 (gp m2 1) 0 ≤ p1
  · rw [if_pos c] at hx2; subst hx2
    exact ⟨fun _ => bad (by grind), fun q => absurd rfl q⟩
  · rw [if_neg c] at hx2; subst hx2
    obtain ⟨e, he⟩ := ix_of h0 (by omega) c
    have hb := h0.2
    refine ⟨fun q => absurd q (by decide), fun _ => ⟨fun q => ⟨trivial, ?_⟩, fun q => bad (Or.inr (Or.inr (nle_lt q)))⟩⟩
    have nb : ¬ (p1 < 0 ∨ gi m2 (gp m2 1) 0 ≤ p1 ∨ p2 < -2) := by
      rintro (z | z | z)
      · exact c (Or.inl z)
      · exact c (Or.inr z)
      · exact absurd q (by simpa using z)
    rintro x7 m7 ⟨hx7, rfl⟩
    have hx7' : x7 = if slvI (gi m7 17 3) p1 = 1 then 1 else 0 := hx7
    generalize hj : p1.toNatClampNeg = j at *
    refine ⟨fun q1 => ⟨hw', ?_⟩, fun q1 => ?_⟩
    · have ns : ¬ slvI (gi m7 17 3) p1 = 1 := by
        intro z; rw [if_pos z] at hx7'; rw [hx7'] at q1; exact absurd q1 (by decide)
      refine ⟨⟨by rw [hj]; exact e, by rw [hj]; omega, h4, h5, by rw [hj]; exact h2 j he, by rw [hj]; exact h18 j he (by rw [← e]; exact ns), by rw [hj]; exact h19 j he⟩, ?_⟩
      rintro m ⟨sf, sE, s2, sv, s5, s6, sB⟩
      rw [hj] at s5 s6 sv
      have tb : tabC m7 (gp m7 1) j (gn m 62) (gn m 63) (cC m) := ⟨sv, by rw [s2, s5] at sB; exact sB⟩
      have nC : nowC m = cC m (gn m7 18 j) (lastC (gi m7 19 j)) := by unfold nowC; rw [s5, s6]
      have fin : ∀ x, x = soonA 1000000000 (gn m 62) (gn m 63) (cC m) (gn m7 (gp m7 1) 4) (gn m7 18 j) (lastC (gi m7 19 j)) p2 → post_X8_soonest p1 p2 m7 x m := by
        intro x hx
        exact ⟨sf, fun z => absurd z nb, fun _ => ⟨fun z => absurd z ns, fun _ => ⟨_, _, _, by rw [hj]; exact tb, by rw [hj]; exact hx⟩⟩⟩
      refine ⟨sE, ?_⟩
      rintro x15 m15 ⟨hx15, rfl⟩
      rw [nC] at hx15
      refine ⟨fun z => ?_, fun z => ?_⟩
      · have hlt : cC m15 (gn m7 18 j) (lastC (gi m7 19 j)) < 1000000000 := by
          split at hx15
          · rename_i y; exact y
          · rw [hx15] at z; exact absurd z (by decide)
        refine ⟨fun y => ⟨sE, ?_⟩, fun y => ⟨fun y2 => ⟨sE, ?_⟩, fun y2 => ⟨⟨sE, by rw [nC]; exact hlt, sB⟩, ?_⟩⟩⟩
        · rintro x m ⟨hx, rfl⟩
          refine fin x ?_
          unfold soonA
          rw [if_neg (by omega), if_neg (by rw [y]; decide), if_pos y, hx, nC]
        · rintro x m ⟨hx, rfl⟩
          refine fin x ?_
          unfold soonA
          rw [if_neg (by omega), if_pos y2, hx, nC]
        · rintro x m ⟨hx, rfl⟩
          refine fin x ?_
          unfold soonA
          rw [if_neg (by omega), if_neg y2, if_neg y, hx, nC, s2, s5, s6]
          have p0 : ¬ p2 < 0 := by
            intro p
            have : p2 = -2 ∨ p2 = -1 := by
              rw [i_le] at q; rw [i_lt] at p
              rw [show (-2 : Int32).toInt = -2 from rfl] at q
              rw [show (0 : Int32).toInt = 0 from rfl] at p
              have : p2.toInt = -2 ∨ p2.toInt = -1 := by omega
              rcases this with h | h
              · left; exact Int32.toInt_inj.mp (by rw [h]; rfl)
              · right; exact Int32.toInt_inj.mp (by rw [h]; rfl)
            rcases this with h | h
            · exact y h
            · exact y2 h
          by_cases w : nI (cC m (gn m7 18 j) (lastC (gi m7 19 j)) % 1000) ≤ p2
          · rw [if_pos (Or.inr w), if_pos w]
          · rw [if_neg (by rintro (h | h); exact p0 h; exact w h), if_neg w]
      · have hlt : ¬ cC m15 (gn m7 18 j) (lastC (gi m7 19 j)) < 1000000000 := by
          intro y; rw [if_pos y] at hx15; exact z hx15
        refine fin _ ?_
        unfold soonA
        rw [if_pos (by omega)]
    · have ys : slvI (gi m7 17 3) p1 = 1 := by
        split at hx7'
        · rename_i z; exact z
        · exact absurd hx7' q1
      exact ⟨fr_refl _ _, fun z => absurd z nb, fun _ => ⟨fun _ => rfl, fun z => absurd ys z⟩⟩
theorem sp_X8_soonest : Sp yX8_soonest cX8_soonest 3 (some .int) 4 S_X8_soonest := by
  refine sp_of (by decide) (fun av μ P h => ?_) ?_
  · obtain ⟨p1, p2, rfl, -⟩ := h
    refine ⟨Nat.le_of_ble_eq_true rfl, fun v hv => ?_⟩
    simp only [List.mem_cons, List.not_mem_nil, or_false] at hv
    rcases hv with rfl | rfl | rfl <;> rfl
  · rintro X P hO _ μ ⟨p1, p2, rfl, hpre, hpost⟩ hn
    exact wk_X8_soonest_0 hO hn p1 p2  μ hpost (vp_X8_soonest_0 p1 p2  μ hpre)
def S_X8_loved : Tr := fun av μ P => av = [.ref 0] ∧ pre_X8_loved  μ ∧ ∀ (x : Int32) (m : Mem), post_X8_loved  μ x m → P (some (.int x)) m
def vc_X8_loved_0   (μ : Mem) (R : Int32 → Mem → Prop) (J19 : Int32 → Int32 → Mem → Prop) : Prop :=
  ((gp μ 1) = 3 ∨ (gp μ 1) = 10) ∧ (pre_X1_solveAll ((gp μ 1)) μ ∧ ∀ (μ3 : Mem), post_X1_solveAll ((gp μ 1)) μ μ3 → J19 0 0 μ3)
set_option maxRecDepth 20000 in
set_option maxHeartbeats 4000000 in
theorem wk_X8_loved_0 {X : XT} {P : Post} (hO : OkM X cX8_loved RX8 5 (some .int) P) (hn : xn X = 3)    (μ : Mem) {R : Int32 → Mem → Prop} (hR : ∀ x m, R x m → P (some (.int x)) m) {J19 : Int32 → Int32 → Mem → Prop} (hJ19 : ∀ (l1 : Int32) (l2 : Int32) (m : Mem), J19 l1 l2 m → V X 19 [some (.ref 0), some (.int l1), some (.int l2)] [] m)  (h : vc_X8_loved_0   μ R J19) : V X 0 [some (.ref 0), none, none] [] μ := by
  have hX := hO.1
  unfold vc_X8_loved_0 at h
  refine v_aload_n hX dX8_loved_0 rfl (?_ : V X 1 [some (.ref 0), none, none] [.ref 0] μ)
  refine v_getr hX (59) fk_X8_51 sh_0 rfl rfl dX8_loved_1 (?_ : V X 4 [some (.ref 0), none, none] [.ref 59] μ)
  refine v_aload_n hX dX8_loved_4 rfl (?_ : V X 5 [some (.ref 0), none, none] [.ref 0, .ref 59] μ)
  have hh1 := h.1
  replace h := h.2
  refine v_getp hX (gp μ 1) fk_X8_19 sh_0 rfl rfl dX8_loved_5 (?_ : V X 8 [some (.ref 0), none, none] [.ref ((gp μ 1)), .ref 59] μ)
  refine v_aload_n hX dX8_loved_8 rfl (?_ : V X 9 [some (.ref 0), none, none] [.ref 0, .ref ((gp μ 1)), .ref 59] μ)
  refine v_getr hX (17) fk_X8_29 sh_0 rfl rfl dX8_loved_9 (?_ : V X 12 [some (.ref 0), none, none] [.ref 17, .ref ((gp μ 1)), .ref 59] μ)
  refine v_callV hX sp_X1_solveAll ck_X1_solveAll mk_X8_203 mv_X1_solveAll sh_59 (by decide) (by decide) [.ref ((gp μ 1)), .ref 17] [] rfl rfl (Nat.le_of_ble_eq_true rfl) dX8_loved_12 ⟨((gp μ 1)), rfl, hh1, h.1, fun μ3 hp4 => (?_ : V X 15 [some (.ref 0), none, none] [] μ3)⟩
  replace h := h.2 μ3 hp4
  refine v_iconst hX 0 dX8_loved_15 rfl (?_ : V X 16 [some (.ref 0), none, none] [.int 0] μ3)
  refine v_istore_n hX dX8_loved_16 (by rw [hn]; decide) (?_ : V X 17 [some (.ref 0), some (.int 0), none] [] μ3)
  refine v_iconst hX 0 dX8_loved_17 rfl (?_ : V X 18 [some (.ref 0), some (.int 0), none] [.int 0] μ3)
  refine v_istore_n hX dX8_loved_18 (by rw [hn]; decide) (?_ : V X 19 [some (.ref 0), some (.int 0), some (.int 0)] [] μ3)
  exact v_mask [true, true, true] (hJ19 _ _ _ h)
def vc_X8_loved_19  (l1 : Int32) (l2 : Int32) (μ : Mem) (R : Int32 → Mem → Prop) (J19 : Int32 → Int32 → Mem → Prop) : Prop :=
  ((gp μ 1) = 3 ∨ (gp μ 1) = 10) ∧ (((gi μ ((gp μ 1)) 0) ≤ l2 → R l1 μ) ∧ (¬ (gi μ ((gp μ 1)) 0) ≤ l2 → (pre_X7_isSolved l2 μ ∧ ∀ (x3 : Int32) (μ4 : Mem), post_X7_isSolved l2 μ x3 μ4 → ((¬ x3 = 0 → J19 l1 (l2 + 1) μ4) ∧ (x3 = 0 → vp_in l2 5 ∧ ((¬ (gi μ4 61 (Int32.toNatClampNeg l2)) = ((-9)) → J19 l1 (l2 + 1) μ4) ∧ ((gi μ4 61 (Int32.toNatClampNeg l2)) = ((-9)) → J19 (l1 ||| (1 <<< (l2 &&& 31))) (l2 + 1) μ4)))))))
set_option maxRecDepth 20000 in
set_option maxHeartbeats 4000000 in
theorem wk_X8_loved_19 {X : XT} {P : Post} (hO : OkM X cX8_loved RX8 5 (some .int) P) (hn : xn X = 3)   (l1 : Int32) (l2 : Int32) (μ : Mem) {R : Int32 → Mem → Prop} (hR : ∀ x m, R x m → P (some (.int x)) m) {J19 : Int32 → Int32 → Mem → Prop} (hJ19 : ∀ (l1 : Int32) (l2 : Int32) (m : Mem), J19 l1 l2 m → V X 19 [some (.ref 0), some (.int l1), some (.int l2)] [] m)  (h : vc_X8_loved_19  l1 l2 μ R J19) : V X 19 [some (.ref 0), some (.int l1), some (.int l2)] [] μ := by
  have hX := hO.1
  unfold vc_X8_loved_19 at h
  refine v_iload_n hX dX8_loved_19 rfl (?_ : V X 20 [some (.ref 0), some (.int l1), some (.int l2)] [.int l2] μ)
  refine v_aload_n hX dX8_loved_20 rfl (?_ : V X 21 [some (.ref 0), some (.int l1), some (.int l2)] [.ref 0, .int l2] μ)
  have hh1 := h.1
  replace h := h.2
  refine v_getp hX (gp μ 1) fk_X8_19 sh_0 rfl rfl dX8_loved_21 (?_ : V X 24 [some (.ref 0), some (.int l1), some (.int l2)] [.ref ((gp μ 1)), .int l2] μ)
  refine v_geti hX fk_X8_207 (sHo hh1) rfl dX8_loved_24 (?_ : V X 27 [some (.ref 0), some (.int l1), some (.int l2)] [.int (gi μ ((gp μ 1)) 0), .int l2] μ)
  refine v_icmp_ge hX 67 dX8_loved_27 rfl (fun c2 => ?_) (fun c2 => ?_)
  · replace h := h.1 c2
    refine v_iload_n hX dX8_loved_67 rfl (?_ : V X 68 [some (.ref 0), some (.int l1), some (.int l2)] [.int l1] μ)
    exact v_iret hO dX8_loved_68 (hR _ _ h)
  · replace h := h.2 c2
    refine v_aload_n hX dX8_loved_30 rfl (?_ : V X 31 [some (.ref 0), some (.int l1), some (.int l2)] [.ref 0] μ)
    refine v_getr hX (17) fk_X8_29 sh_0 rfl rfl dX8_loved_31 (?_ : V X 34 [some (.ref 0), some (.int l1), some (.int l2)] [.ref 17] μ)
    refine v_iload_n hX dX8_loved_34 rfl (?_ : V X 35 [some (.ref 0), some (.int l1), some (.int l2)] [.int l2, .ref 17] μ)
    refine v_callV hX sp_X7_isSolved ck_X7_isSolved mk_X8_122 mv_X7_isSolved sh_17 (by decide) (by decide) [.int l2] [] rfl rfl (Nat.le_of_ble_eq_true rfl) dX8_loved_35 ⟨l2, rfl, h.1, fun x3 μ4 hp5 => (?_ : V X 38 [some (.ref 0), some (.int l1), some (.int l2)] [.int x3] μ4)⟩
    replace h := h.2 x3 μ4 hp5
    refine v_if_ne hX 61 dX8_loved_38 rfl (fun c6 => ?_) (fun c6 => ?_)
    · replace h := h.1 c6
      refine v_iinc hX 1 dX8_loved_61 (by rw [hn]; decide) rfl rfl (?_ : V X 64 [some (.ref 0), some (.int l1), some (.int (l2 + 1))] [] μ4)
      refine v_goto hX 19 dX8_loved_64 rfl (?_ : V X 19 [some (.ref 0), some (.int l1), some (.int (l2 + 1))] [] μ4)
      exact v_mask [true, true, true] (hJ19 _ _ _ h)
    · replace h := h.2 c6
      refine v_aload_n hX dX8_loved_41 rfl (?_ : V X 42 [some (.ref 0), some (.int l1), some (.int l2)] [.ref 0] μ4)
      refine v_getr hX (59) fk_X8_51 sh_0 rfl rfl dX8_loved_42 (?_ : V X 45 [some (.ref 0), some (.int l1), some (.int l2)] [.ref 59] μ4)
      refine v_getr hX (61) fk_X8_210 sh_59 rfl rfl dX8_loved_45 (?_ : V X 48 [some (.ref 0), some (.int l1), some (.int l2)] [.ref 61] μ4)
      refine v_iload_n hX dX8_loved_48 rfl (?_ : V X 49 [some (.ref 0), some (.int l1), some (.int l2)] [.int l2, .ref 61] μ4)
      have hb7 := h.1
      replace h := h.2
      refine w_iald hX (Int32.toNatClampNeg l2) sh_61 hb7 rfl dX8_loved_49 (?_ : V X 50 [some (.ref 0), some (.int l1), some (.int l2)] [.int (gi μ4 61 (Int32.toNatClampNeg l2))] μ4)
      refine v_bipush hX (-9) dX8_loved_50 rfl (?_ : V X 52 [some (.ref 0), some (.int l1), some (.int l2)] [.int ((-9)), .int (gi μ4 61 (Int32.toNatClampNeg l2))] μ4)
      refine v_icmp_ne hX 61 dX8_loved_52 rfl (fun c8 => ?_) (fun c8 => ?_)
      · replace h := h.1 c8
        refine v_iinc hX 1 dX8_loved_61 (by rw [hn]; decide) rfl rfl (?_ : V X 64 [some (.ref 0), some (.int l1), some (.int (l2 + 1))] [] μ4)
        refine v_goto hX 19 dX8_loved_64 rfl (?_ : V X 19 [some (.ref 0), some (.int l1), some (.int (l2 + 1))] [] μ4)
        exact v_mask [true, true, true] (hJ19 _ _ _ h)
      · replace h := h.2 c8
        refine v_iload_n hX dX8_loved_55 rfl (?_ : V X 56 [some (.ref 0), some (.int l1), some (.int l2)] [.int l1] μ4)
        refine v_iconst hX 1 dX8_loved_56 rfl (?_ : V X 57 [some (.ref 0), some (.int l1), some (.int l2)] [.int 1, .int l1] μ4)
        refine v_iload_n hX dX8_loved_57 rfl (?_ : V X 58 [some (.ref 0), some (.int l1), some (.int l2)] [.int l2, .int 1, .int l1] μ4)
        refine v_ishl hX dX8_loved_58 (?_ : V X 59 [some (.ref 0), some (.int l1), some (.int l2)] [.int (1 <<< (l2 &&& 31)), .int l1] μ4)
        refine v_ior hX dX8_loved_59 (?_ : V X 60 [some (.ref 0), some (.int l1), some (.int l2)] [.int (l1 ||| (1 <<< (l2 &&& 31)))] μ4)
        refine v_istore_n hX dX8_loved_60 (by rw [hn]; decide) (?_ : V X 61 [some (.ref 0), some (.int (l1 ||| (1 <<< (l2 &&& 31)))), some (.int l2)] [] μ4)
        refine v_iinc hX 1 dX8_loved_61 (by rw [hn]; decide) rfl rfl (?_ : V X 64 [some (.ref 0), some (.int (l1 ||| (1 <<< (l2 &&& 31)))), some (.int (l2 + 1))] [] μ4)
        refine v_goto hX 19 dX8_loved_64 rfl (?_ : V X 19 [some (.ref 0), some (.int (l1 ||| (1 <<< (l2 &&& 31)))), some (.int (l2 + 1))] [] μ4)
        exact v_mask [true, true, true] (hJ19 _ _ _ h)
set_option maxRecDepth 20000 in
set_option maxHeartbeats 1000000 in
theorem vp_X8_loved_0   (μ : Mem) (hpre : pre_X8_loved  μ) : vc_X8_loved_0  μ (post_X8_loved  μ) (fun l1 l2 m => ∃ k : Nat, inv_X8_loved_19  μ k l1 l2 m) := by
  unfold vc_X8_loved_0
  obtain ⟨hw, hS⟩ := hpre
  refine ⟨hw, hS, ?_⟩
  rintro m ⟨hf, hv, hn⟩
  exact ⟨gn μ (gp μ 1) 0, 0, Nat.zero_le _, rfl, rfl, hf, hv, rfl⟩
set_option maxRecDepth 20000 in
set_option maxHeartbeats 1000000 in
theorem vp_X8_loved_19   (μ : Mem) (hpre : pre_X8_loved  μ) (n : Nat) (l1 : Int32) (l2 : Int32) (μ0 : Mem) (hi : inv_X8_loved_19  μ n l1 l2 μ0) : vc_X8_loved_19  l1 l2 μ0 (post_X8_loved  μ) (fun l1 l2 m => ∃ k : Nat, k < n ∧ inv_X8_loved_19  μ k l1 l2 m) := by
  unfold vc_X8_loved_19
  obtain ⟨hw, hS⟩ := hpre
  have hw' : gp μ 1 = 3 ∨ gp μ 1 = 10 := hw
  obtain ⟨i, hi1, rfl, rfl, hf, hv, rfl⟩ := hi
  have h0 := hS.1
  have hb := h0.2
  have hgp : gp μ0 1 = gp μ 1 := rem_gp hf 1
  have nw0 : gp μ 1 ∉ ([59, 60, 61, 62, 63] : List Nat) := by simp; omega
  rw [hgp, hf.1 _ nw0, isN_le h0 (by omega) (by omega), nI_clamp (by omega)]
  refine ⟨hw', fun c => ?_, fun c => ⟨trivial, ?_⟩⟩
  · have : i = gn μ (gp μ 1) 0 := by omega
    subst this
    exact ⟨hf, gi μ0 61, hv, rfl⟩
  · rintro x3 m3 ⟨hx3, rfl⟩
    have hx3' : x3 = if slvI (gi μ 17 3) (nI i) = 1 then 1 else 0 := by rw [hx3, hf.1 17 (by simp)]; rfl
    have key : ∀ v, v = orI (lovF (gi μ 17 3) (gi m3 61)) (i + 1) → ∃ k, k < gn μ (gp μ 1) 0 - i ∧ inv_X8_loved_19 μ k v (nI i + 1) m3 := fun v hv2 => ⟨gn μ (gp μ 1) 0 - (i + 1), by omega, i + 1, by omega, rfl, nI_1 i, hf, hv, hv2⟩
    refine ⟨fun q => key _ ?_, fun q => ⟨vp_in_nI (by omega) (by omega), fun q2 => key _ ?_, fun q2 => key _ ?_⟩⟩
    · have ys : slvI (gi μ 17 3) (nI i) = 1 := by
        split at hx3'
        · rename_i z; exact z
        · exact absurd hx3' q
      simp only [orI, lovF]; rw [if_neg (fun z => z.1 ys), orI_0]
    · simp only [orI, lovF]; rw [if_neg (fun z => q2 z.2), orI_0]
    · have ns : ¬ slvI (gi μ 17 3) (nI i) = 1 := by
        intro z; rw [if_pos z] at hx3'; rw [hx3'] at q; exact absurd q (by decide)
      simp only [orI, lovF]; rw [if_pos ⟨ns, q2⟩]
theorem sp_X8_loved : Sp yX8_loved cX8_loved 3 (some .int) 5 S_X8_loved := by
  refine sp_of (by decide) (fun av μ P h => ?_) ?_
  · obtain ⟨rfl, -⟩ := h
    refine ⟨Nat.le_of_ble_eq_true rfl, fun v hv => ?_⟩
    simp only [List.mem_cons, List.not_mem_nil, or_false] at hv
    subst hv; rfl
  · rintro X P hO _ μ ⟨rfl, hpre, hpost⟩ hn
    have hJ : ∀ n : Nat, (∀ (l1 : Int32) (l2 : Int32) (m : Mem), inv_X8_loved_19  μ n l1 l2 m → V X 19 [some (.ref 0), some (.int l1), some (.int l2)] [] m) := by
      intro n
      induction n using Nat.strongRecOn with
      | _ n ih =>
        exact fun l1 l2 m hi => wk_X8_loved_19 (J19 := (fun l1 l2 m => ∃ k : Nat, k < n ∧ inv_X8_loved_19  μ k l1 l2 m)) hO hn   l1 l2 m hpost (fun l1 l2 m hk => by obtain ⟨k, hk, hi⟩ := hk; exact (ih k hk) l1 l2 m hi) (vp_X8_loved_19   μ hpre n l1 l2 m hi)
    exact wk_X8_loved_0 (J19 := (fun l1 l2 m => ∃ k : Nat, inv_X8_loved_19  μ k l1 l2 m)) hO hn   μ hpost (fun l1 l2 m hk => by obtain ⟨k, hi⟩ := hk; exact (hJ k) l1 l2 m hi) (vp_X8_loved_0   μ hpre)
def S_X8_country : Tr := fun av μ P => av = [.ref 0] ∧ pre_X8_country  μ ∧ ∀ (x : Int32) (m : Mem), post_X8_country  μ x m → P (some (.int x)) m
def vc_X8_country_0   (μ : Mem) (R : Int32 → Mem → Prop) (J45 : Int32 → Int32 → Int32 → Int32 → Mem → Prop) : Prop :=
  ((gp μ 1) = 3 ∨ (gp μ 1) = 10) ∧ (pre_J6_bitCount_0f7a4 (gi μ 17 3) μ ∧ ∀ (x2 : Int32) (μ3 : Mem), post_J6_bitCount_0f7a4 (gi μ 17 3) μ x2 μ3 → ((gp μ3 1) = 3 ∨ (gp μ3 1) = 10) ∧ (pre_X1_solveAll ((gp μ3 1)) μ3 ∧ ∀ (μ7 : Mem), post_X1_solveAll ((gp μ3 1)) μ3 μ7 → J45 ((((gi μ ((gp μ 1)) 0) / 2) + 1) - x2) 0 0 0 μ7))
set_option maxRecDepth 20000 in
set_option maxHeartbeats 4000000 in
theorem wk_X8_country_0 {X : XT} {P : Post} (hO : OkM X cX8_country RX8 5 (some .int) P) (hn : xn X = 6)    (μ : Mem) {R : Int32 → Mem → Prop} (hR : ∀ x m, R x m → P (some (.int x)) m) {J45 : Int32 → Int32 → Int32 → Int32 → Mem → Prop} (hJ45 : ∀ (l1 : Int32) (l2 : Int32) (l3 : Int32) (l4 : Int32) (m : Mem), J45 l1 l2 l3 l4 m → V X 45 [some (.ref 0), some (.int l1), some (.int l2), some (.int l3), some (.int l4), none] [] m)  (h : vc_X8_country_0   μ R J45) : V X 0 [some (.ref 0), none, none, none, none, none] [] μ := by
  have hX := hO.1
  unfold vc_X8_country_0 at h
  refine v_aload_n hX dX8_country_0 rfl (?_ : V X 1 [some (.ref 0), none, none, none, none, none] [.ref 0] μ)
  have hh1 := h.1
  replace h := h.2
  refine v_getp hX (gp μ 1) fk_X8_19 sh_0 rfl rfl dX8_country_1 (?_ : V X 4 [some (.ref 0), none, none, none, none, none] [.ref ((gp μ 1))] μ)
  refine v_geti hX fk_X8_207 (sHo hh1) rfl dX8_country_4 (?_ : V X 7 [some (.ref 0), none, none, none, none, none] [.int (gi μ ((gp μ 1)) 0)] μ)
  refine v_iconst hX 2 dX8_country_7 rfl (?_ : V X 8 [some (.ref 0), none, none, none, none, none] [.int 2, .int (gi μ ((gp μ 1)) 0)] μ)
  refine v_idiv hX dX8_country_8 (by decide) (?_ : V X 9 [some (.ref 0), none, none, none, none, none] [.int ((gi μ ((gp μ 1)) 0) / 2)] μ)
  refine v_iconst hX 1 dX8_country_9 rfl (?_ : V X 10 [some (.ref 0), none, none, none, none, none] [.int 1, .int ((gi μ ((gp μ 1)) 0) / 2)] μ)
  refine v_iadd hX dX8_country_10 (?_ : V X 11 [some (.ref 0), none, none, none, none, none] [.int (((gi μ ((gp μ 1)) 0) / 2) + 1)] μ)
  refine v_aload_n hX dX8_country_11 rfl (?_ : V X 12 [some (.ref 0), none, none, none, none, none] [.ref 0, .int (((gi μ ((gp μ 1)) 0) / 2) + 1)] μ)
  refine v_getr hX (17) fk_X8_29 sh_0 rfl rfl dX8_country_12 (?_ : V X 15 [some (.ref 0), none, none, none, none, none] [.ref 17, .int (((gi μ ((gp μ 1)) 0) / 2) + 1)] μ)
  refine v_geti hX fk_X8_152 sh_17 rfl dX8_country_15 (?_ : V X 18 [some (.ref 0), none, none, none, none, none] [.int (gi μ 17 3), .int (((gi μ ((gp μ 1)) 0) / 2) + 1)] μ)
  refine v_callS hX sp_J6_bitCount_0f7a4 ck_J6_bitCount_0f7a4 mk_X8_229 sk_J6_bitCount_0f7a4 (by decide) [.int (gi μ 17 3)] [.int (((gi μ ((gp μ 1)) 0) / 2) + 1)] rfl rfl (Nat.le_of_ble_eq_true rfl) dX8_country_18 ⟨(gi μ 17 3), rfl, h.1, fun x2 μ3 hp4 => (?_ : V X 21 [some (.ref 0), none, none, none, none, none] [.int x2, .int (((gi μ ((gp μ 1)) 0) / 2) + 1)] μ3)⟩
  replace h := h.2 x2 μ3 hp4
  refine v_isub hX dX8_country_21 (?_ : V X 22 [some (.ref 0), none, none, none, none, none] [.int ((((gi μ ((gp μ 1)) 0) / 2) + 1) - x2)] μ3)
  refine v_istore_n hX dX8_country_22 (by rw [hn]; decide) (?_ : V X 23 [some (.ref 0), some (.int ((((gi μ ((gp μ 1)) 0) / 2) + 1) - x2)), none, none, none, none] [] μ3)
  refine v_aload_n hX dX8_country_23 rfl (?_ : V X 24 [some (.ref 0), some (.int ((((gi μ ((gp μ 1)) 0) / 2) + 1) - x2)), none, none, none, none] [.ref 0] μ3)
  refine v_getr hX (59) fk_X8_51 sh_0 rfl rfl dX8_country_24 (?_ : V X 27 [some (.ref 0), some (.int ((((gi μ ((gp μ 1)) 0) / 2) + 1) - x2)), none, none, none, none] [.ref 59] μ3)
  refine v_aload_n hX dX8_country_27 rfl (?_ : V X 28 [some (.ref 0), some (.int ((((gi μ ((gp μ 1)) 0) / 2) + 1) - x2)), none, none, none, none] [.ref 0, .ref 59] μ3)
  have hh5 := h.1
  replace h := h.2
  refine v_getp hX (gp μ3 1) fk_X8_19 sh_0 rfl rfl dX8_country_28 (?_ : V X 31 [some (.ref 0), some (.int ((((gi μ ((gp μ 1)) 0) / 2) + 1) - x2)), none, none, none, none] [.ref ((gp μ3 1)), .ref 59] μ3)
  refine v_aload_n hX dX8_country_31 rfl (?_ : V X 32 [some (.ref 0), some (.int ((((gi μ ((gp μ 1)) 0) / 2) + 1) - x2)), none, none, none, none] [.ref 0, .ref ((gp μ3 1)), .ref 59] μ3)
  refine v_getr hX (17) fk_X8_29 sh_0 rfl rfl dX8_country_32 (?_ : V X 35 [some (.ref 0), some (.int ((((gi μ ((gp μ 1)) 0) / 2) + 1) - x2)), none, none, none, none] [.ref 17, .ref ((gp μ3 1)), .ref 59] μ3)
  refine v_callV hX sp_X1_solveAll ck_X1_solveAll mk_X8_203 mv_X1_solveAll sh_59 (by decide) (by decide) [.ref ((gp μ3 1)), .ref 17] [] rfl rfl (Nat.le_of_ble_eq_true rfl) dX8_country_35 ⟨((gp μ3 1)), rfl, hh5, h.1, fun μ7 hp8 => (?_ : V X 38 [some (.ref 0), some (.int ((((gi μ ((gp μ 1)) 0) / 2) + 1) - x2)), none, none, none, none] [] μ7)⟩
  replace h := h.2 μ7 hp8
  refine v_iconst hX 0 dX8_country_38 rfl (?_ : V X 39 [some (.ref 0), some (.int ((((gi μ ((gp μ 1)) 0) / 2) + 1) - x2)), none, none, none, none] [.int 0] μ7)
  refine v_istore_n hX dX8_country_39 (by rw [hn]; decide) (?_ : V X 40 [some (.ref 0), some (.int ((((gi μ ((gp μ 1)) 0) / 2) + 1) - x2)), some (.int 0), none, none, none] [] μ7)
  refine v_iconst hX 0 dX8_country_40 rfl (?_ : V X 41 [some (.ref 0), some (.int ((((gi μ ((gp μ 1)) 0) / 2) + 1) - x2)), some (.int 0), none, none, none] [.int 0] μ7)
  refine v_istore_n hX dX8_country_41 (by rw [hn]; decide) (?_ : V X 42 [some (.ref 0), some (.int ((((gi μ ((gp μ 1)) 0) / 2) + 1) - x2)), some (.int 0), some (.int 0), none, none] [] μ7)
  refine v_iconst hX 0 dX8_country_42 rfl (?_ : V X 43 [some (.ref 0), some (.int ((((gi μ ((gp μ 1)) 0) / 2) + 1) - x2)), some (.int 0), some (.int 0), none, none] [.int 0] μ7)
  refine v_istore hX dX8_country_43 (by rw [hn]; decide) (?_ : V X 45 [some (.ref 0), some (.int ((((gi μ ((gp μ 1)) 0) / 2) + 1) - x2)), some (.int 0), some (.int 0), some (.int 0), none] [] μ7)
  exact v_mask [true, true, true, true, true, false] (hJ45 _ _ _ _ _ h)
def vc_X8_country_45  (l1 : Int32) (l2 : Int32) (l3 : Int32) (l4 : Int32) (μ : Mem) (R : Int32 → Mem → Prop) (J45 : Int32 → Int32 → Int32 → Int32 → Mem → Prop) : Prop :=
  ((l1 ≤ l4 → R l3 μ) ∧ (¬ l1 ≤ l4 → (pre_X1_cheapestBut l2 μ ∧ ∀ (x2 : Int32) (μ3 : Mem), post_X1_cheapestBut l2 μ x2 μ3 → ((¬ x2 = ((-9)) → vp_in x2 5 ∧ J45 l1 (l2 ||| (1 <<< (x2 &&& 31))) (l3 + (gi μ3 61 (Int32.toNatClampNeg x2))) (l4 + 1) μ3) ∧ (x2 = ((-9)) → R ((-9)) μ3)))))
set_option maxRecDepth 20000 in
set_option maxHeartbeats 4000000 in
theorem wk_X8_country_45 {X : XT} {P : Post} (hO : OkM X cX8_country RX8 5 (some .int) P) (hn : xn X = 6)   (l1 : Int32) (l2 : Int32) (l3 : Int32) (l4 : Int32) (μ : Mem) {R : Int32 → Mem → Prop} (hR : ∀ x m, R x m → P (some (.int x)) m) {J45 : Int32 → Int32 → Int32 → Int32 → Mem → Prop} (hJ45 : ∀ (l1 : Int32) (l2 : Int32) (l3 : Int32) (l4 : Int32) (m : Mem), J45 l1 l2 l3 l4 m → V X 45 [some (.ref 0), some (.int l1), some (.int l2), some (.int l3), some (.int l4), none] [] m)  (h : vc_X8_country_45  l1 l2 l3 l4 μ R J45) : V X 45 [some (.ref 0), some (.int l1), some (.int l2), some (.int l3), some (.int l4), none] [] μ := by
  have hX := hO.1
  unfold vc_X8_country_45 at h
  refine v_iload hX dX8_country_45 rfl (?_ : V X 47 [some (.ref 0), some (.int l1), some (.int l2), some (.int l3), some (.int l4), none] [.int l4] μ)
  refine v_iload_n hX dX8_country_47 rfl (?_ : V X 48 [some (.ref 0), some (.int l1), some (.int l2), some (.int l3), some (.int l4), none] [.int l1, .int l4] μ)
  refine v_icmp_ge hX 97 dX8_country_48 rfl (fun c1 => ?_) (fun c1 => ?_)
  · replace h := h.1 c1
    refine v_iload_n hX dX8_country_97 rfl (?_ : V X 98 [some (.ref 0), some (.int l1), some (.int l2), some (.int l3), some (.int l4), none] [.int l3] μ)
    exact v_iret hO dX8_country_98 (hR _ _ h)
  · replace h := h.2 c1
    refine v_aload_n hX dX8_country_51 rfl (?_ : V X 52 [some (.ref 0), some (.int l1), some (.int l2), some (.int l3), some (.int l4), none] [.ref 0] μ)
    refine v_getr hX (59) fk_X8_51 sh_0 rfl rfl dX8_country_52 (?_ : V X 55 [some (.ref 0), some (.int l1), some (.int l2), some (.int l3), some (.int l4), none] [.ref 59] μ)
    refine v_iload_n hX dX8_country_55 rfl (?_ : V X 56 [some (.ref 0), some (.int l1), some (.int l2), some (.int l3), some (.int l4), none] [.int l2, .ref 59] μ)
    refine v_callV hX sp_X1_cheapestBut ck_X1_cheapestBut mk_X8_234 mv_X1_cheapestBut sh_59 (by decide) (by decide) [.int l2] [] rfl rfl (Nat.le_of_ble_eq_true rfl) dX8_country_56 ⟨l2, rfl, h.1, fun x2 μ3 hp4 => (?_ : V X 59 [some (.ref 0), some (.int l1), some (.int l2), some (.int l3), some (.int l4), none] [.int x2] μ3)⟩
    replace h := h.2 x2 μ3 hp4
    refine v_istore hX dX8_country_59 (by rw [hn]; decide) (?_ : V X 61 [some (.ref 0), some (.int l1), some (.int l2), some (.int l3), some (.int l4), some (.int x2)] [] μ3)
    refine v_iload hX dX8_country_61 rfl (?_ : V X 63 [some (.ref 0), some (.int l1), some (.int l2), some (.int l3), some (.int l4), some (.int x2)] [.int x2] μ3)
    refine v_bipush hX (-9) dX8_country_63 rfl (?_ : V X 65 [some (.ref 0), some (.int l1), some (.int l2), some (.int l3), some (.int l4), some (.int x2)] [.int ((-9)), .int x2] μ3)
    refine v_icmp_ne hX 71 dX8_country_65 rfl (fun c5 => ?_) (fun c5 => ?_)
    · replace h := h.1 c5
      refine v_iload_n hX dX8_country_71 rfl (?_ : V X 72 [some (.ref 0), some (.int l1), some (.int l2), some (.int l3), some (.int l4), some (.int x2)] [.int l2] μ3)
      refine v_iconst hX 1 dX8_country_72 rfl (?_ : V X 73 [some (.ref 0), some (.int l1), some (.int l2), some (.int l3), some (.int l4), some (.int x2)] [.int 1, .int l2] μ3)
      refine v_iload hX dX8_country_73 rfl (?_ : V X 75 [some (.ref 0), some (.int l1), some (.int l2), some (.int l3), some (.int l4), some (.int x2)] [.int x2, .int 1, .int l2] μ3)
      refine v_ishl hX dX8_country_75 (?_ : V X 76 [some (.ref 0), some (.int l1), some (.int l2), some (.int l3), some (.int l4), some (.int x2)] [.int (1 <<< (x2 &&& 31)), .int l2] μ3)
      refine v_ior hX dX8_country_76 (?_ : V X 77 [some (.ref 0), some (.int l1), some (.int l2), some (.int l3), some (.int l4), some (.int x2)] [.int (l2 ||| (1 <<< (x2 &&& 31)))] μ3)
      refine v_istore_n hX dX8_country_77 (by rw [hn]; decide) (?_ : V X 78 [some (.ref 0), some (.int l1), some (.int (l2 ||| (1 <<< (x2 &&& 31)))), some (.int l3), some (.int l4), some (.int x2)] [] μ3)
      refine v_iload_n hX dX8_country_78 rfl (?_ : V X 79 [some (.ref 0), some (.int l1), some (.int (l2 ||| (1 <<< (x2 &&& 31)))), some (.int l3), some (.int l4), some (.int x2)] [.int l3] μ3)
      refine v_aload_n hX dX8_country_79 rfl (?_ : V X 80 [some (.ref 0), some (.int l1), some (.int (l2 ||| (1 <<< (x2 &&& 31)))), some (.int l3), some (.int l4), some (.int x2)] [.ref 0, .int l3] μ3)
      refine v_getr hX (59) fk_X8_51 sh_0 rfl rfl dX8_country_80 (?_ : V X 83 [some (.ref 0), some (.int l1), some (.int (l2 ||| (1 <<< (x2 &&& 31)))), some (.int l3), some (.int l4), some (.int x2)] [.ref 59, .int l3] μ3)
      refine v_getr hX (61) fk_X8_210 sh_59 rfl rfl dX8_country_83 (?_ : V X 86 [some (.ref 0), some (.int l1), some (.int (l2 ||| (1 <<< (x2 &&& 31)))), some (.int l3), some (.int l4), some (.int x2)] [.ref 61, .int l3] μ3)
      refine v_iload hX dX8_country_86 rfl (?_ : V X 88 [some (.ref 0), some (.int l1), some (.int (l2 ||| (1 <<< (x2 &&& 31)))), some (.int l3), some (.int l4), some (.int x2)] [.int x2, .ref 61, .int l3] μ3)
      have hb6 := h.1
      replace h := h.2
      refine w_iald hX (Int32.toNatClampNeg x2) sh_61 hb6 rfl dX8_country_88 (?_ : V X 89 [some (.ref 0), some (.int l1), some (.int (l2 ||| (1 <<< (x2 &&& 31)))), some (.int l3), some (.int l4), some (.int x2)] [.int (gi μ3 61 (Int32.toNatClampNeg x2)), .int l3] μ3)
      refine v_iadd hX dX8_country_89 (?_ : V X 90 [some (.ref 0), some (.int l1), some (.int (l2 ||| (1 <<< (x2 &&& 31)))), some (.int l3), some (.int l4), some (.int x2)] [.int (l3 + (gi μ3 61 (Int32.toNatClampNeg x2)))] μ3)
      refine v_istore_n hX dX8_country_90 (by rw [hn]; decide) (?_ : V X 91 [some (.ref 0), some (.int l1), some (.int (l2 ||| (1 <<< (x2 &&& 31)))), some (.int (l3 + (gi μ3 61 (Int32.toNatClampNeg x2)))), some (.int l4), some (.int x2)] [] μ3)
      refine v_iinc hX 1 dX8_country_91 (by rw [hn]; decide) rfl rfl (?_ : V X 94 [some (.ref 0), some (.int l1), some (.int (l2 ||| (1 <<< (x2 &&& 31)))), some (.int (l3 + (gi μ3 61 (Int32.toNatClampNeg x2)))), some (.int (l4 + 1)), some (.int x2)] [] μ3)
      refine v_goto hX 45 dX8_country_94 rfl (?_ : V X 45 [some (.ref 0), some (.int l1), some (.int (l2 ||| (1 <<< (x2 &&& 31)))), some (.int (l3 + (gi μ3 61 (Int32.toNatClampNeg x2)))), some (.int (l4 + 1)), some (.int x2)] [] μ3)
      exact v_mask [true, true, true, true, true, false] (hJ45 _ _ _ _ _ h)
    · replace h := h.2 c5
      refine v_bipush hX (-9) dX8_country_68 rfl (?_ : V X 70 [some (.ref 0), some (.int l1), some (.int l2), some (.int l3), some (.int l4), some (.int x2)] [.int ((-9))] μ3)
      exact v_iret hO dX8_country_70 (hR _ _ h)
set_option maxRecDepth 20000 in
set_option maxHeartbeats 1000000 in
theorem vp_X8_country_0   (μ : Mem) (hpre : pre_X8_country  μ) : vc_X8_country_0  μ (post_X8_country  μ) (fun l1 l2 l3 l4 m => ∃ k : Nat, inv_X8_country_45  μ k l1 l2 l3 l4 m) := by
  unfold vc_X8_country_0
  obtain ⟨hw, hS⟩ := hpre
  refine ⟨hw, trivial, ?_⟩
  rintro x2 m2 ⟨hx2, rfl⟩
  refine ⟨hw, hS, ?_⟩
  rintro m ⟨hf, hv, hn⟩
  refine ⟨_, 0, Nat.zero_le _, rfl, ?_, rfl, hf, hv, hn, rfl⟩
  rw [hx2]; rfl
set_option maxRecDepth 20000 in
set_option maxHeartbeats 1000000 in
theorem vp_X8_country_45   (μ : Mem) (hpre : pre_X8_country  μ) (n : Nat) (l1 : Int32) (l2 : Int32) (l3 : Int32) (l4 : Int32) (μ0 : Mem) (hi : inv_X8_country_45  μ n l1 l2 l3 l4 μ0) : vc_X8_country_45  l1 l2 l3 l4 μ0 (post_X8_country  μ) (fun l1 l2 l3 l4 m => ∃ k : Nat, k < n ∧ inv_X8_country_45  μ k l1 l2 l3 l4 m) := by
  unfold vc_X8_country_45
  obtain ⟨hw, hS⟩ := hpre
  obtain ⟨i, hi1, rfl, rfl, rfl, hf, hv, hn, hc⟩ := hi
  generalize hW : wantC (gi μ (gp μ 1) 0) (gi μ 17 3) = W at *
  have hle : W ≤ nI i ↔ W.toNatClampNeg ≤ i := by
    rcases Classical.em (0 ≤ W) with z | z
    · obtain ⟨e, he⟩ := nn_of z
      rw [← nI_leI (a := W.toNatClampNeg) (b := i) he (by omega), ← e]
    · have z2 : W < 0 := nle_lt z
      have z3 : W.toNatClampNeg = 0 := by
        unfold Int32.toNatClampNeg
        rw [i_lt, show (0 : Int32).toInt = 0 from rfl] at z2; omega
      rw [z3]
      refine ⟨fun _ => Nat.zero_le _, fun _ => ?_⟩
      have hi0 : i < 2 ^ 31 := by omega
      rw [i_le, nI_toInt hi0]
      rw [i_lt, show (0 : Int32).toInt = 0 from rfl] at z2; omega
  rw [hle]
  refine ⟨fun c => ?_, fun c => ⟨trivial, ?_⟩⟩
  · have : i = W.toNatClampNeg := by omega
    refine ⟨hf, gi μ0 61, hv, hn, ?_⟩
    rw [hW, hc, this, Nat.sub_self]; rfl
  · rintro x2 m2 ⟨hx2, rfl⟩
    have hs : ctyF (gi m2 61) (W.toNatClampNeg - i) l2 l3 = if (chF (gi m2 61) l2 5).1 = -9 then -9 else ctyF (gi m2 61) (W.toNatClampNeg - (i + 1)) (l2 ||| (1 <<< ((chF (gi m2 61) l2 5).1 &&& 31))) (l3 + gi m2 61 (chF (gi m2 61) l2 5).1.toNatClampNeg) := by
      rw [show W.toNatClampNeg - i = (W.toNatClampNeg - (i + 1)) + 1 from by omega]; rfl
    rw [← hx2] at hs
    have hin : ∀ t n, n ≤ 5 → (chF (gi m2 61) t n).1 = -9 ∨ ∃ j, j < n ∧ (chF (gi m2 61) t n).1 = nI j := by
      intro t n
      induction n with
      | zero => intro _; left; rfl
      | succ n ih =>
        intro hn5
        rw [chF]; split
        · right; exact ⟨n, by omega, rfl⟩
        · rcases ih (by omega) with h | ⟨j, hj, h⟩
          · left; exact h
          · right; exact ⟨j, by omega, h⟩
    refine ⟨fun q => ⟨?_, W.toNatClampNeg - (i + 1), by omega, i + 1, by rw [hW]; omega, by rw [hW], hW.symm, nI_1 i, hf, hv, hn, ?_⟩, fun q => ⟨hf, gi m2 61, hv, hn, ?_⟩⟩
    · rcases hin l2 5 (by omega) with h | ⟨j, hj, h⟩
      · exact absurd (hx2.trans h) q
      · rw [hx2, h]; exact vp_in_nI hj (by omega)
    · rw [hW, hc, hs, if_neg q]
    · rw [hW, hc, hs, if_pos q]
theorem sp_X8_country : Sp yX8_country cX8_country 6 (some .int) 5 S_X8_country := by
  refine sp_of (by decide) (fun av μ P h => ?_) ?_
  · obtain ⟨rfl, -⟩ := h
    refine ⟨Nat.le_of_ble_eq_true rfl, fun v hv => ?_⟩
    simp only [List.mem_cons, List.not_mem_nil, or_false] at hv
    subst hv; rfl
  · rintro X P hO _ μ ⟨rfl, hpre, hpost⟩ hn
    have hJ : ∀ n : Nat, (∀ (l1 : Int32) (l2 : Int32) (l3 : Int32) (l4 : Int32) (m : Mem), inv_X8_country_45  μ n l1 l2 l3 l4 m → V X 45 [some (.ref 0), some (.int l1), some (.int l2), some (.int l3), some (.int l4), none] [] m) := by
      intro n
      induction n using Nat.strongRecOn with
      | _ n ih =>
        exact fun l1 l2 l3 l4 m hi => wk_X8_country_45 (J45 := (fun l1 l2 l3 l4 m => ∃ k : Nat, k < n ∧ inv_X8_country_45  μ k l1 l2 l3 l4 m)) hO hn   l1 l2 l3 l4 m hpost (fun l1 l2 l3 l4 m hk => by obtain ⟨k, hk, hi⟩ := hk; exact (ih k hk) l1 l2 l3 l4 m hi) (vp_X8_country_45   μ hpre n l1 l2 l3 l4 m hi)
    exact wk_X8_country_0 (J45 := (fun l1 l2 l3 l4 m => ∃ k : Nat, inv_X8_country_45  μ k l1 l2 l3 l4 m)) hO hn   μ hpost (fun l1 l2 l3 l4 m hk => by obtain ⟨k, hi⟩ := hk; exact (hJ k) l1 l2 l3 l4 m hi) (vp_X8_country_0   μ hpre)

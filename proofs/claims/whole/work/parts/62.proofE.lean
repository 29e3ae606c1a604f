theorem ls_nI {full : Nat → Nat} {l d : Nat} (hl : l < 2 ^ 31) (hd : d < 2 ^ 31) (hf : full d < 2 ^ 31) : (if ¬ nI l = nI d then nI (full d) else nI (full d) / 2) = nI (lsN full l d) := by
  unfold lsN
  by_cases h : l = d
  · subst h
    rw [if_neg (by simp), if_pos rfl, show (2 : Int32) = nI 2 from rfl, pk_div hf (by omega) (by omega)]
  · rw [if_pos (fun q => h ((nI_eq hl hd).mp q)), if_neg h]
theorem sub_neg {a b : Nat} (ha : a < 2 ^ 30) (hb : b < 2 ^ 30) : 0 ≤ nI a - nI b ↔ b ≤ a := by
  rw [i_le, pk_sub_toInt ha hb, show (0 : Int32).toInt = 0 from rfl]; omega
def S_X1_costThrough : Tr := fun av μ P => ∃ (p1 : Int32) (p2 : Int32) (p3 : Int32), av = [.ref 59, .int p1, .int p2, .int p3] ∧ pre_X1_costThrough p1 p2 p3 μ ∧ ∀ (x : Int32) (m : Mem), post_X1_costThrough p1 p2 p3 μ x m → P (some (.int x)) m
def vc_X1_costThrough_0 (p1 : Int32) (p2 : Int32) (p3 : Int32)  (μ : Mem) (R : Int32 → Mem → Prop)  : Prop :=
  vp_in p3 5 ∧ ((¬ p2 = p3 → (pre_X8_lossOf (gi μ 62 (Int32.toNatClampNeg p3)) 0 μ ∧ ∀ (x3 : Int32) (μ4 : Mem), post_X8_lossOf (gi μ 62 (Int32.toNatClampNeg p3)) 0 μ x3 μ4 → ((0 ≤ (p1 - x3) → (pre_X1_indexOf (p1 - x3) p3 μ4 ∧ ∀ (x7 : Int32) (μ8 : Mem), post_X1_indexOf (p1 - x3) p3 μ4 x7 μ8 → vp_in x7 186 ∧ (((gi μ8 60 (Int32.toNatClampNeg x7)) < 1000000000 → vp_in p3 5 ∧ R ((((gi μ8 63 (Int32.toNatClampNeg p3)) * 1000) + 1) + (gi μ8 60 (Int32.toNatClampNeg x7))) μ8) ∧ (¬ (gi μ8 60 (Int32.toNatClampNeg x7)) < 1000000000 → R 1000000000 μ8)))) ∧ (¬ 0 ≤ (p1 - x3) → vp_in p3 5 ∧ R ((((gi μ4 63 (Int32.toNatClampNeg p3)) * 1000) + 1) + 0) μ4)))) ∧ (p2 = p3 → (pre_X8_lossOf (gi μ 62 (Int32.toNatClampNeg p3)) 1 μ ∧ ∀ (x14 : Int32) (μ15 : Mem), post_X8_lossOf (gi μ 62 (Int32.toNatClampNeg p3)) 1 μ x14 μ15 → ((0 ≤ (p1 - x14) → (pre_X1_indexOf (p1 - x14) p3 μ15 ∧ ∀ (x18 : Int32) (μ19 : Mem), post_X1_indexOf (p1 - x14) p3 μ15 x18 μ19 → vp_in x18 186 ∧ (((gi μ19 60 (Int32.toNatClampNeg x18)) < 1000000000 → vp_in p3 5 ∧ R ((((gi μ19 63 (Int32.toNatClampNeg p3)) * 1000) + 1) + (gi μ19 60 (Int32.toNatClampNeg x18))) μ19) ∧ (¬ (gi μ19 60 (Int32.toNatClampNeg x18)) < 1000000000 → R 1000000000 μ19)))) ∧ (¬ 0 ≤ (p1 - x14) → vp_in p3 5 ∧ R ((((gi μ15 63 (Int32.toNatClampNeg p3)) * 1000) + 1) + 0) μ15)))))
set_option maxRecDepth 20000 in
set_option maxHeartbeats 4000000 in
theorem wk_X1_costThrough_0 {X : XT} {P : Post} (hO : OkM X cX1_costThrough RX1 1 (some .int) P) (hn : xn X = 6) (p1 : Int32) (p2 : Int32) (p3 : Int32)   (μ : Mem) {R : Int32 → Mem → Prop} (hR : ∀ x m, R x m → P (some (.int x)) m)    (h : vc_X1_costThrough_0 p1 p2 p3  μ R ) : V X 0 [some (.ref 59), some (.int p1), some (.int p2), some (.int p3), none, none] [] μ := by
  have hX := hO.1
  unfold vc_X1_costThrough_0 at h
  refine v_iload_n hX dX1_costThrough_0 rfl (?_ : V X 1 [some (.ref 59), some (.int p1), some (.int p2), some (.int p3), none, none] [.int p1] μ)
  refine v_aload_n hX dX1_costThrough_1 rfl (?_ : V X 2 [some (.ref 59), some (.int p1), some (.int p2), some (.int p3), none, none] [.ref 59, .int p1] μ)
  refine v_getr hX (62) fk_X1_18 sh_59 rfl rfl dX1_costThrough_2 (?_ : V X 5 [some (.ref 59), some (.int p1), some (.int p2), some (.int p3), none, none] [.ref 62, .int p1] μ)
  refine v_iload_n hX dX1_costThrough_5 rfl (?_ : V X 6 [some (.ref 59), some (.int p1), some (.int p2), some (.int p3), none, none] [.int p3, .ref 62, .int p1] μ)
  have hb1 := h.1
  replace h := h.2
  refine w_iald hX (Int32.toNatClampNeg p3) sh_62 hb1 rfl dX1_costThrough_6 (?_ : V X 7 [some (.ref 59), some (.int p1), some (.int p2), some (.int p3), none, none] [.int (gi μ 62 (Int32.toNatClampNeg p3)), .int p1] μ)
  refine v_iload_n hX dX1_costThrough_7 rfl (?_ : V X 8 [some (.ref 59), some (.int p1), some (.int p2), some (.int p3), none, none] [.int p2, .int (gi μ 62 (Int32.toNatClampNeg p3)), .int p1] μ)
  refine v_iload_n hX dX1_costThrough_8 rfl (?_ : V X 9 [some (.ref 59), some (.int p1), some (.int p2), some (.int p3), none, none] [.int p3, .int p2, .int (gi μ 62 (Int32.toNatClampNeg p3)), .int p1] μ)
  refine v_icmp_ne hX 16 dX1_costThrough_9 rfl (fun c2 => ?_) (fun c2 => ?_)
  · replace h := h.1 c2
    refine v_iconst hX 0 dX1_costThrough_16 rfl (?_ : V X 17 [some (.ref 59), some (.int p1), some (.int p2), some (.int p3), none, none] [.int 0, .int (gi μ 62 (Int32.toNatClampNeg p3)), .int p1] μ)
    refine v_callN hX sp_X8_lossOf ck_X8_lossOf hX.2.2.2.2.2.1.2.2.2.2.2.2 (mtb 1 (by decide +kernel) (by decide +kernel)) sk_X8_lossOf lossMd (by decide) [.int (gi μ 62 (Int32.toNatClampNeg p3)), .int 0] [.int p1] rfl rfl (Nat.le_of_ble_eq_true rfl) dX1_costThrough_17 ⟨(gi μ 62 (Int32.toNatClampNeg p3)), 0, rfl, h.1, fun x3 μ4 hp5 => (?_ : V X 20 [some (.ref 59), some (.int p1), some (.int p2), some (.int p3), none, none] [.int x3, .int p1] μ4)⟩
    replace h := h.2 x3 μ4 hp5
    refine v_isub hX dX1_costThrough_20 (?_ : V X 21 [some (.ref 59), some (.int p1), some (.int p2), some (.int p3), none, none] [.int (p1 - x3)] μ4)
    refine v_istore hX dX1_costThrough_21 (by rw [hn]; decide) (?_ : V X 23 [some (.ref 59), some (.int p1), some (.int p2), some (.int p3), some (.int (p1 - x3)), none] [] μ4)
    refine v_iload hX dX1_costThrough_23 rfl (?_ : V X 25 [some (.ref 59), some (.int p1), some (.int p2), some (.int p3), some (.int (p1 - x3)), none] [.int (p1 - x3)] μ4)
    refine v_if_ge hX 32 dX1_costThrough_25 rfl (fun c6 => ?_) (fun c6 => ?_)
    · replace h := h.1 c6
      refine v_aload_n hX dX1_costThrough_32 rfl (?_ : V X 33 [some (.ref 59), some (.int p1), some (.int p2), some (.int p3), some (.int (p1 - x3)), none] [.ref 59] μ4)
      refine v_getr hX (60) fk_X1_11 sh_59 rfl rfl dX1_costThrough_33 (?_ : V X 36 [some (.ref 59), some (.int p1), some (.int p2), some (.int p3), some (.int (p1 - x3)), none] [.ref 60] μ4)
      refine v_iload hX dX1_costThrough_36 rfl (?_ : V X 38 [some (.ref 59), some (.int p1), some (.int p2), some (.int p3), some (.int (p1 - x3)), none] [.int (p1 - x3), .ref 60] μ4)
      refine v_iload_n hX dX1_costThrough_38 rfl (?_ : V X 39 [some (.ref 59), some (.int p1), some (.int p2), some (.int p3), some (.int (p1 - x3)), none] [.int p3, .int (p1 - x3), .ref 60] μ4)
      refine v_callS hX sp_X1_indexOf ck_X1_indexOf mk_X1_68 sk_X1_indexOf (by decide) [.int (p1 - x3), .int p3] [.ref 60] rfl rfl (Nat.le_of_ble_eq_true rfl) dX1_costThrough_39 ⟨(p1 - x3), p3, rfl, h.1, fun x7 μ8 hp9 => (?_ : V X 42 [some (.ref 59), some (.int p1), some (.int p2), some (.int p3), some (.int (p1 - x3)), none] [.int x7, .ref 60] μ8)⟩
      replace h := h.2 x7 μ8 hp9
      have hb10 := h.1
      replace h := h.2
      refine w_iald hX (Int32.toNatClampNeg x7) sh_60 hb10 rfl dX1_costThrough_42 (?_ : V X 43 [some (.ref 59), some (.int p1), some (.int p2), some (.int p3), some (.int (p1 - x3)), none] [.int (gi μ8 60 (Int32.toNatClampNeg x7))] μ8)
      refine v_istore hX dX1_costThrough_43 (by rw [hn]; decide) (?_ : V X 45 [some (.ref 59), some (.int p1), some (.int p2), some (.int p3), some (.int (p1 - x3)), some (.int (gi μ8 60 (Int32.toNatClampNeg x7)))] [] μ8)
      refine v_iload hX dX1_costThrough_45 rfl (?_ : V X 47 [some (.ref 59), some (.int p1), some (.int p2), some (.int p3), some (.int (p1 - x3)), some (.int (gi μ8 60 (Int32.toNatClampNeg x7)))] [.int (gi μ8 60 (Int32.toNatClampNeg x7))] μ8)
      refine v_ldc hX 1000000000 dX1_costThrough_47 kk_X1_57 (?_ : V X 49 [some (.ref 59), some (.int p1), some (.int p2), some (.int p3), some (.int (p1 - x3)), some (.int (gi μ8 60 (Int32.toNatClampNeg x7)))] [.int 1000000000, .int (gi μ8 60 (Int32.toNatClampNeg x7))] μ8)
      refine v_icmp_lt hX 57 dX1_costThrough_49 rfl (fun c11 => ?_) (fun c11 => ?_)
      · replace h := h.1 c11
        refine v_aload_n hX dX1_costThrough_57 rfl (?_ : V X 58 [some (.ref 59), some (.int p1), some (.int p2), some (.int p3), some (.int (p1 - x3)), some (.int (gi μ8 60 (Int32.toNatClampNeg x7)))] [.ref 59] μ8)
        refine v_getr hX (63) fk_X1_21 sh_59 rfl rfl dX1_costThrough_58 (?_ : V X 61 [some (.ref 59), some (.int p1), some (.int p2), some (.int p3), some (.int (p1 - x3)), some (.int (gi μ8 60 (Int32.toNatClampNeg x7)))] [.ref 63] μ8)
        refine v_iload_n hX dX1_costThrough_61 rfl (?_ : V X 62 [some (.ref 59), some (.int p1), some (.int p2), some (.int p3), some (.int (p1 - x3)), some (.int (gi μ8 60 (Int32.toNatClampNeg x7)))] [.int p3, .ref 63] μ8)
        have hb12 := h.1
        replace h := h.2
        refine w_iald hX (Int32.toNatClampNeg p3) sh_63 hb12 rfl dX1_costThrough_62 (?_ : V X 63 [some (.ref 59), some (.int p1), some (.int p2), some (.int p3), some (.int (p1 - x3)), some (.int (gi μ8 60 (Int32.toNatClampNeg x7)))] [.int (gi μ8 63 (Int32.toNatClampNeg p3))] μ8)
        refine v_sipush hX 1000 dX1_costThrough_63 rfl (?_ : V X 66 [some (.ref 59), some (.int p1), some (.int p2), some (.int p3), some (.int (p1 - x3)), some (.int (gi μ8 60 (Int32.toNatClampNeg x7)))] [.int 1000, .int (gi μ8 63 (Int32.toNatClampNeg p3))] μ8)
        refine v_imul hX dX1_costThrough_66 (?_ : V X 67 [some (.ref 59), some (.int p1), some (.int p2), some (.int p3), some (.int (p1 - x3)), some (.int (gi μ8 60 (Int32.toNatClampNeg x7)))] [.int ((gi μ8 63 (Int32.toNatClampNeg p3)) * 1000)] μ8)
        refine v_iconst hX 1 dX1_costThrough_67 rfl (?_ : V X 68 [some (.ref 59), some (.int p1), some (.int p2), some (.int p3), some (.int (p1 - x3)), some (.int (gi μ8 60 (Int32.toNatClampNeg x7)))] [.int 1, .int ((gi μ8 63 (Int32.toNatClampNeg p3)) * 1000)] μ8)
        refine v_iadd hX dX1_costThrough_68 (?_ : V X 69 [some (.ref 59), some (.int p1), some (.int p2), some (.int p3), some (.int (p1 - x3)), some (.int (gi μ8 60 (Int32.toNatClampNeg x7)))] [.int (((gi μ8 63 (Int32.toNatClampNeg p3)) * 1000) + 1)] μ8)
        refine v_iload hX dX1_costThrough_69 rfl (?_ : V X 71 [some (.ref 59), some (.int p1), some (.int p2), some (.int p3), some (.int (p1 - x3)), some (.int (gi μ8 60 (Int32.toNatClampNeg x7)))] [.int (gi μ8 60 (Int32.toNatClampNeg x7)), .int (((gi μ8 63 (Int32.toNatClampNeg p3)) * 1000) + 1)] μ8)
        refine v_iadd hX dX1_costThrough_71 (?_ : V X 72 [some (.ref 59), some (.int p1), some (.int p2), some (.int p3), some (.int (p1 - x3)), some (.int (gi μ8 60 (Int32.toNatClampNeg x7)))] [.int ((((gi μ8 63 (Int32.toNatClampNeg p3)) * 1000) + 1) + (gi μ8 60 (Int32.toNatClampNeg x7)))] μ8)
        exact v_iret hO dX1_costThrough_72 (hR _ _ h)
      · replace h := h.2 c11
        refine v_ldc hX 1000000000 dX1_costThrough_52 kk_X1_57 (?_ : V X 54 [some (.ref 59), some (.int p1), some (.int p2), some (.int p3), some (.int (p1 - x3)), some (.int (gi μ8 60 (Int32.toNatClampNeg x7)))] [.int 1000000000] μ8)
        refine v_goto hX 72 dX1_costThrough_54 rfl (?_ : V X 72 [some (.ref 59), some (.int p1), some (.int p2), some (.int p3), some (.int (p1 - x3)), some (.int (gi μ8 60 (Int32.toNatClampNeg x7)))] [.int 1000000000] μ8)
        exact v_iret hO dX1_costThrough_72 (hR _ _ h)
    · replace h := h.2 c6
      refine v_iconst hX 0 dX1_costThrough_28 rfl (?_ : V X 29 [some (.ref 59), some (.int p1), some (.int p2), some (.int p3), some (.int (p1 - x3)), none] [.int 0] μ4)
      refine v_goto hX 43 dX1_costThrough_29 rfl (?_ : V X 43 [some (.ref 59), some (.int p1), some (.int p2), some (.int p3), some (.int (p1 - x3)), none] [.int 0] μ4)
      refine v_istore hX dX1_costThrough_43 (by rw [hn]; decide) (?_ : V X 45 [some (.ref 59), some (.int p1), some (.int p2), some (.int p3), some (.int (p1 - x3)), some (.int 0)] [] μ4)
      refine v_iload hX dX1_costThrough_45 rfl (?_ : V X 47 [some (.ref 59), some (.int p1), some (.int p2), some (.int p3), some (.int (p1 - x3)), some (.int 0)] [.int 0] μ4)
      refine v_ldc hX 1000000000 dX1_costThrough_47 kk_X1_57 (?_ : V X 49 [some (.ref 59), some (.int p1), some (.int p2), some (.int p3), some (.int (p1 - x3)), some (.int 0)] [.int 1000000000, .int 0] μ4)
      refine v_icmp_lt hX 57 dX1_costThrough_49 rfl (fun _ => (?_ : V X 57 [some (.ref 59), some (.int p1), some (.int p2), some (.int p3), some (.int (p1 - x3)), some (.int 0)] [] μ4)) (fun c1 => absurd c1 (by decide))
      refine v_aload_n hX dX1_costThrough_57 rfl (?_ : V X 58 [some (.ref 59), some (.int p1), some (.int p2), some (.int p3), some (.int (p1 - x3)), some (.int 0)] [.ref 59] μ4)
      refine v_getr hX (63) fk_X1_21 sh_59 rfl rfl dX1_costThrough_58 (?_ : V X 61 [some (.ref 59), some (.int p1), some (.int p2), some (.int p3), some (.int (p1 - x3)), some (.int 0)] [.ref 63] μ4)
      refine v_iload_n hX dX1_costThrough_61 rfl (?_ : V X 62 [some (.ref 59), some (.int p1), some (.int p2), some (.int p3), some (.int (p1 - x3)), some (.int 0)] [.int p3, .ref 63] μ4)
      have hb13 := h.1
      replace h := h.2
      refine w_iald hX (Int32.toNatClampNeg p3) sh_63 hb13 rfl dX1_costThrough_62 (?_ : V X 63 [some (.ref 59), some (.int p1), some (.int p2), some (.int p3), some (.int (p1 - x3)), some (.int 0)] [.int (gi μ4 63 (Int32.toNatClampNeg p3))] μ4)
      refine v_sipush hX 1000 dX1_costThrough_63 rfl (?_ : V X 66 [some (.ref 59), some (.int p1), some (.int p2), some (.int p3), some (.int (p1 - x3)), some (.int 0)] [.int 1000, .int (gi μ4 63 (Int32.toNatClampNeg p3))] μ4)
      refine v_imul hX dX1_costThrough_66 (?_ : V X 67 [some (.ref 59), some (.int p1), some (.int p2), some (.int p3), some (.int (p1 - x3)), some (.int 0)] [.int ((gi μ4 63 (Int32.toNatClampNeg p3)) * 1000)] μ4)
      refine v_iconst hX 1 dX1_costThrough_67 rfl (?_ : V X 68 [some (.ref 59), some (.int p1), some (.int p2), some (.int p3), some (.int (p1 - x3)), some (.int 0)] [.int 1, .int ((gi μ4 63 (Int32.toNatClampNeg p3)) * 1000)] μ4)
      refine v_iadd hX dX1_costThrough_68 (?_ : V X 69 [some (.ref 59), some (.int p1), some (.int p2), some (.int p3), some (.int (p1 - x3)), some (.int 0)] [.int (((gi μ4 63 (Int32.toNatClampNeg p3)) * 1000) + 1)] μ4)
      refine v_iload hX dX1_costThrough_69 rfl (?_ : V X 71 [some (.ref 59), some (.int p1), some (.int p2), some (.int p3), some (.int (p1 - x3)), some (.int 0)] [.int 0, .int (((gi μ4 63 (Int32.toNatClampNeg p3)) * 1000) + 1)] μ4)
      refine v_iadd hX dX1_costThrough_71 (?_ : V X 72 [some (.ref 59), some (.int p1), some (.int p2), some (.int p3), some (.int (p1 - x3)), some (.int 0)] [.int ((((gi μ4 63 (Int32.toNatClampNeg p3)) * 1000) + 1) + 0)] μ4)
      exact v_iret hO dX1_costThrough_72 (hR _ _ h)
  · replace h := h.2 c2
    refine v_iconst hX 1 dX1_costThrough_12 rfl (?_ : V X 13 [some (.ref 59), some (.int p1), some (.int p2), some (.int p3), none, none] [.int 1, .int (gi μ 62 (Int32.toNatClampNeg p3)), .int p1] μ)
    refine v_goto hX 17 dX1_costThrough_13 rfl (?_ : V X 17 [some (.ref 59), some (.int p1), some (.int p2), some (.int p3), none, none] [.int 1, .int (gi μ 62 (Int32.toNatClampNeg p3)), .int p1] μ)
    refine v_callN hX sp_X8_lossOf ck_X8_lossOf hX.2.2.2.2.2.1.2.2.2.2.2.2 (mtb 1 (by decide +kernel) (by decide +kernel)) sk_X8_lossOf lossMd (by decide) [.int (gi μ 62 (Int32.toNatClampNeg p3)), .int 1] [.int p1] rfl rfl (Nat.le_of_ble_eq_true rfl) dX1_costThrough_17 ⟨(gi μ 62 (Int32.toNatClampNeg p3)), 1, rfl, h.1, fun x14 μ15 hp16 => (?_ : V X 20 [some (.ref 59), some (.int p1), some (.int p2), some (.int p3), none, none] [.int x14, .int p1] μ15)⟩
    replace h := h.2 x14 μ15 hp16
    refine v_isub hX dX1_costThrough_20 (?_ : V X 21 [some (.ref 59), some (.int p1), some (.int p2), some (.int p3), none, none] [.int (p1 - x14)] μ15)
    refine v_istore hX dX1_costThrough_21 (by rw [hn]; decide) (?_ : V X 23 [some (.ref 59), some (.int p1), some (.int p2), some (.int p3), some (.int (p1 - x14)), none] [] μ15)
    refine v_iload hX dX1_costThrough_23 rfl (?_ : V X 25 [some (.ref 59), some (.int p1), some (.int p2), some (.int p3), some (.int (p1 - x14)), none] [.int (p1 - x14)] μ15)
    refine v_if_ge hX 32 dX1_costThrough_25 rfl (fun c17 => ?_) (fun c17 => ?_)
    · replace h := h.1 c17
      refine v_aload_n hX dX1_costThrough_32 rfl (?_ : V X 33 [some (.ref 59), some (.int p1), some (.int p2), some (.int p3), some (.int (p1 - x14)), none] [.ref 59] μ15)
      refine v_getr hX (60) fk_X1_11 sh_59 rfl rfl dX1_costThrough_33 (?_ : V X 36 [some (.ref 59), some (.int p1), some (.int p2), some (.int p3), some (.int (p1 - x14)), none] [.ref 60] μ15)
      refine v_iload hX dX1_costThrough_36 rfl (?_ : V X 38 [some (.ref 59), some (.int p1), some (.int p2), some (.int p3), some (.int (p1 - x14)), none] [.int (p1 - x14), .ref 60] μ15)
      refine v_iload_n hX dX1_costThrough_38 rfl (?_ : V X 39 [some (.ref 59), some (.int p1), some (.int p2), some (.int p3), some (.int (p1 - x14)), none] [.int p3, .int (p1 - x14), .ref 60] μ15)
      refine v_callS hX sp_X1_indexOf ck_X1_indexOf mk_X1_68 sk_X1_indexOf (by decide) [.int (p1 - x14), .int p3] [.ref 60] rfl rfl (Nat.le_of_ble_eq_true rfl) dX1_costThrough_39 ⟨(p1 - x14), p3, rfl, h.1, fun x18 μ19 hp20 => (?_ : V X 42 [some (.ref 59), some (.int p1), some (.int p2), some (.int p3), some (.int (p1 - x14)), none] [.int x18, .ref 60] μ19)⟩
      replace h := h.2 x18 μ19 hp20
      have hb21 := h.1
      replace h := h.2
      refine w_iald hX (Int32.toNatClampNeg x18) sh_60 hb21 rfl dX1_costThrough_42 (?_ : V X 43 [some (.ref 59), some (.int p1), some (.int p2), some (.int p3), some (.int (p1 - x14)), none] [.int (gi μ19 60 (Int32.toNatClampNeg x18))] μ19)
      refine v_istore hX dX1_costThrough_43 (by rw [hn]; decide) (?_ : V X 45 [some (.ref 59), some (.int p1), some (.int p2), some (.int p3), some (.int (p1 - x14)), some (.int (gi μ19 60 (Int32.toNatClampNeg x18)))] [] μ19)
      refine v_iload hX dX1_costThrough_45 rfl (?_ : V X 47 [some (.ref 59), some (.int p1), some (.int p2), some (.int p3), some (.int (p1 - x14)), some (.int (gi μ19 60 (Int32.toNatClampNeg x18)))] [.int (gi μ19 60 (Int32.toNatClampNeg x18))] μ19)
      refine v_ldc hX 1000000000 dX1_costThrough_47 kk_X1_57 (?_ : V X 49 [some (.ref 59), some (.int p1), some (.int p2), some (.int p3), some (.int (p1 - x14)), some (.int (gi μ19 60 (Int32.toNatClampNeg x18)))] [.int 1000000000, .int (gi μ19 60 (Int32.toNatClampNeg x18))] μ19)
      refine v_icmp_lt hX 57 dX1_costThrough_49 rfl (fun c22 => ?_) (fun c22 => ?_)
      · replace h := h.1 c22
        refine v_aload_n hX dX1_costThrough_57 rfl (?_ : V X 58 [some (.ref 59), some (.int p1), some (.int p2), some (.int p3), some (.int (p1 - x14)), some (.int (gi μ19 60 (Int32.toNatClampNeg x18)))] [.ref 59] μ19)
        refine v_getr hX (63) fk_X1_21 sh_59 rfl rfl dX1_costThrough_58 (?_ : V X 61 [some (.ref 59), some (.int p1), some (.int p2), some (.int p3), some (.int (p1 - x14)), some (.int (gi μ19 60 (Int32.toNatClampNeg x18)))] [.ref 63] μ19)
        refine v_iload_n hX dX1_costThrough_61 rfl (?_ : V X 62 [some (.ref 59), some (.int p1), some (.int p2), some (.int p3), some (.int (p1 - x14)), some (.int (gi μ19 60 (Int32.toNatClampNeg x18)))] [.int p3, .ref 63] μ19)
        have hb23 := h.1
        replace h := h.2
        refine w_iald hX (Int32.toNatClampNeg p3) sh_63 hb23 rfl dX1_costThrough_62 (?_ : V X 63 [some (.ref 59), some (.int p1), some (.int p2), some (.int p3), some (.int (p1 - x14)), some (.int (gi μ19 60 (Int32.toNatClampNeg x18)))] [.int (gi μ19 63 (Int32.toNatClampNeg p3))] μ19)
        refine v_sipush hX 1000 dX1_costThrough_63 rfl (?_ : V X 66 [some (.ref 59), some (.int p1), some (.int p2), some (.int p3), some (.int (p1 - x14)), some (.int (gi μ19 60 (Int32.toNatClampNeg x18)))] [.int 1000, .int (gi μ19 63 (Int32.toNatClampNeg p3))] μ19)
        refine v_imul hX dX1_costThrough_66 (?_ : V X 67 [some (.ref 59), some (.int p1), some (.int p2), some (.int p3), some (.int (p1 - x14)), some (.int (gi μ19 60 (Int32.toNatClampNeg x18)))] [.int ((gi μ19 63 (Int32.toNatClampNeg p3)) * 1000)] μ19)
        refine v_iconst hX 1 dX1_costThrough_67 rfl (?_ : V X 68 [some (.ref 59), some (.int p1), some (.int p2), some (.int p3), some (.int (p1 - x14)), some (.int (gi μ19 60 (Int32.toNatClampNeg x18)))] [.int 1, .int ((gi μ19 63 (Int32.toNatClampNeg p3)) * 1000)] μ19)
        refine v_iadd hX dX1_costThrough_68 (?_ : V X 69 [some (.ref 59), some (.int p1), some (.int p2), some (.int p3), some (.int (p1 - x14)), some (.int (gi μ19 60 (Int32.toNatClampNeg x18)))] [.int (((gi μ19 63 (Int32.toNatClampNeg p3)) * 1000) + 1)] μ19)
        refine v_iload hX dX1_costThrough_69 rfl (?_ : V X 71 [some (.ref 59), some (.int p1), some (.int p2), some (.int p3), some (.int (p1 - x14)), some (.int (gi μ19 60 (Int32.toNatClampNeg x18)))] [.int (gi μ19 60 (Int32.toNatClampNeg x18)), .int (((gi μ19 63 (Int32.toNatClampNeg p3)) * 1000) + 1)] μ19)
        refine v_iadd hX dX1_costThrough_71 (?_ : V X 72 [some (.ref 59), some (.int p1), some (.int p2), some (.int p3), some (.int (p1 - x14)), some (.int (gi μ19 60 (Int32.toNatClampNeg x18)))] [.int ((((gi μ19 63 (Int32.toNatClampNeg p3)) * 1000) + 1) + (gi μ19 60 (Int32.toNatClampNeg x18)))] μ19)
        exact v_iret hO dX1_costThrough_72 (hR _ _ h)
      · replace h := h.2 c22
        refine v_ldc hX 1000000000 dX1_costThrough_52 kk_X1_57 (?_ : V X 54 [some (.ref 59), some (.int p1), some (.int p2), some (.int p3), some (.int (p1 - x14)), some (.int (gi μ19 60 (Int32.toNatClampNeg x18)))] [.int 1000000000] μ19)
        refine v_goto hX 72 dX1_costThrough_54 rfl (?_ : V X 72 [some (.ref 59), some (.int p1), some (.int p2), some (.int p3), some (.int (p1 - x14)), some (.int (gi μ19 60 (Int32.toNatClampNeg x18)))] [.int 1000000000] μ19)
        exact v_iret hO dX1_costThrough_72 (hR _ _ h)
    · replace h := h.2 c17
      refine v_iconst hX 0 dX1_costThrough_28 rfl (?_ : V X 29 [some (.ref 59), some (.int p1), some (.int p2), some (.int p3), some (.int (p1 - x14)), none] [.int 0] μ15)
      refine v_goto hX 43 dX1_costThrough_29 rfl (?_ : V X 43 [some (.ref 59), some (.int p1), some (.int p2), some (.int p3), some (.int (p1 - x14)), none] [.int 0] μ15)
      refine v_istore hX dX1_costThrough_43 (by rw [hn]; decide) (?_ : V X 45 [some (.ref 59), some (.int p1), some (.int p2), some (.int p3), some (.int (p1 - x14)), some (.int 0)] [] μ15)
      refine v_iload hX dX1_costThrough_45 rfl (?_ : V X 47 [some (.ref 59), some (.int p1), some (.int p2), some (.int p3), some (.int (p1 - x14)), some (.int 0)] [.int 0] μ15)
      refine v_ldc hX 1000000000 dX1_costThrough_47 kk_X1_57 (?_ : V X 49 [some (.ref 59), some (.int p1), some (.int p2), some (.int p3), some (.int (p1 - x14)), some (.int 0)] [.int 1000000000, .int 0] μ15)
      refine v_icmp_lt hX 57 dX1_costThrough_49 rfl (fun _ => (?_ : V X 57 [some (.ref 59), some (.int p1), some (.int p2), some (.int p3), some (.int (p1 - x14)), some (.int 0)] [] μ15)) (fun c1 => absurd c1 (by decide))
      refine v_aload_n hX dX1_costThrough_57 rfl (?_ : V X 58 [some (.ref 59), some (.int p1), some (.int p2), some (.int p3), some (.int (p1 - x14)), some (.int 0)] [.ref 59] μ15)
      refine v_getr hX (63) fk_X1_21 sh_59 rfl rfl dX1_costThrough_58 (?_ : V X 61 [some (.ref 59), some (.int p1), some (.int p2), some (.int p3), some (.int (p1 - x14)), some (.int 0)] [.ref 63] μ15)
      refine v_iload_n hX dX1_costThrough_61 rfl (?_ : V X 62 [some (.ref 59), some (.int p1), some (.int p2), some (.int p3), some (.int (p1 - x14)), some (.int 0)] [.int p3, .ref 63] μ15)
      have hb24 := h.1
      replace h := h.2
      refine w_iald hX (Int32.toNatClampNeg p3) sh_63 hb24 rfl dX1_costThrough_62 (?_ : V X 63 [some (.ref 59), some (.int p1), some (.int p2), some (.int p3), some (.int (p1 - x14)), some (.int 0)] [.int (gi μ15 63 (Int32.toNatClampNeg p3))] μ15)
      refine v_sipush hX 1000 dX1_costThrough_63 rfl (?_ : V X 66 [some (.ref 59), some (.int p1), some (.int p2), some (.int p3), some (.int (p1 - x14)), some (.int 0)] [.int 1000, .int (gi μ15 63 (Int32.toNatClampNeg p3))] μ15)
      refine v_imul hX dX1_costThrough_66 (?_ : V X 67 [some (.ref 59), some (.int p1), some (.int p2), some (.int p3), some (.int (p1 - x14)), some (.int 0)] [.int ((gi μ15 63 (Int32.toNatClampNeg p3)) * 1000)] μ15)
      refine v_iconst hX 1 dX1_costThrough_67 rfl (?_ : V X 68 [some (.ref 59), some (.int p1), some (.int p2), some (.int p3), some (.int (p1 - x14)), some (.int 0)] [.int 1, .int ((gi μ15 63 (Int32.toNatClampNeg p3)) * 1000)] μ15)
      refine v_iadd hX dX1_costThrough_68 (?_ : V X 69 [some (.ref 59), some (.int p1), some (.int p2), some (.int p3), some (.int (p1 - x14)), some (.int 0)] [.int (((gi μ15 63 (Int32.toNatClampNeg p3)) * 1000) + 1)] μ15)
      refine v_iload hX dX1_costThrough_69 rfl (?_ : V X 71 [some (.ref 59), some (.int p1), some (.int p2), some (.int p3), some (.int (p1 - x14)), some (.int 0)] [.int 0, .int (((gi μ15 63 (Int32.toNatClampNeg p3)) * 1000) + 1)] μ15)
      refine v_iadd hX dX1_costThrough_71 (?_ : V X 72 [some (.ref 59), some (.int p1), some (.int p2), some (.int p3), some (.int (p1 - x14)), some (.int 0)] [.int ((((gi μ15 63 (Int32.toNatClampNeg p3)) * 1000) + 1) + 0)] μ15)
      exact v_iret hO dX1_costThrough_72 (hR _ _ h)
set_option maxRecDepth 20000 in
set_option maxHeartbeats 4000000 in
theorem vp_X1_costThrough_0 (p1 : Int32) (p2 : Int32) (p3 : Int32)  (μ : Mem) (hpre : pre_X1_costThrough p1 p2 p3 μ) : vc_X1_costThrough_0 p1 p2 p3 μ (post_X1_costThrough p1 p2 p3 μ)  := by
  simp only [vc_X1_costThrough_0, pre_X1_indexOf, pre_X8_lossOf, post_X1_indexOf, post_X8_lossOf, and_imp, call_eq, forall_eq, forall_const, true_and, and_true]
  obtain ⟨e1, b1, e2, b2, e3, b3, ⟨t1, t2, t3⟩⟩ := hpre
  generalize hf : p1.toNatClampNeg = f at *
  generalize hl : p2.toNatClampNeg = l at *
  generalize hd : p3.toNatClampNeg = d at *
  subst e1; subst e2; subst e3
  have hD := t1.2
  obtain ⟨⟨g1, g2⟩, k1, k2⟩ := t2 d b3
  have in5 : vp_in (nI d) 5 := vp_in_nI (by omega) (by omega)
  have core : ∀ ls : Nat, ls ≤ 27 → lsN (gn μ 62) l d = ls → ((0 ≤ nI f - nI ls → vp_in ((nI f - nI ls) * 6 + nI d) 186 ∧ ((gi μ 60 ((nI f - nI ls) * 6 + nI d).toNatClampNeg < 1000000000 → vp_in (nI d) 5 ∧ post_X1_costThrough (nI f) (nI l) (nI d) μ (gi μ 63 d * 1000 + 1 + gi μ 60 ((nI f - nI ls) * 6 + nI d).toNatClampNeg) μ) ∧ (¬ gi μ 60 ((nI f - nI ls) * 6 + nI d).toNatClampNeg < 1000000000 → post_X1_costThrough (nI f) (nI l) (nI d) μ 1000000000 μ))) ∧ (¬ 0 ≤ nI f - nI ls → vp_in (nI d) 5 ∧ post_X1_costThrough (nI f) (nI l) (nI d) μ (gi μ 63 d * 1000 + 1 + 0) μ)) := by
    intro ls hls els
    have ew : gi μ 63 d * 1000 + 1 = nI (gn μ 63 d * 1000 + 1) := by
      rw [k1, show (1000 : Int32) = nI 1000 from rfl, pk_mul, nI_1]
    unfold post_X1_costThrough
    rw [hf, hl, hd, sub_neg (by omega) (by omega), ew]
    refine ⟨fun c => ?_, fun c => ⟨in5, ?_, rfl⟩⟩
    · have ei : (nI f - nI ls) * 6 + nI d = nI ((f - ls) * 6 + d) := by
        rw [pk_sub c, show (6 : Int32) = nI 6 from rfl, pk_mul, nI_add]
      rw [ei, nI_clamp (by omega)]
      obtain ⟨q1, q2⟩ := t3 ((f - ls) * 6 + d) (by omega)
      rw [q1, show (1000000000 : Int32) = nI 1000000000 from rfl, nI_ltI (by omega) (by omega)]
      have hcc : cC μ (f - ls) d = gn μ 60 ((f - ls) * 6 + d) := rfl
      refine ⟨vp_in_nI (by omega) (by omega), fun c2 => ⟨in5, ?_, rfl⟩, fun c2 => ⟨?_, rfl⟩⟩
      · unfold tXf; rw [els, if_neg (by omega), hcc, if_neg (by omega), nI_add]
      · unfold tXf; rw [els, if_neg (by omega), hcc, if_pos (by omega)]
    · unfold tXf; rw [els, if_pos (by omega)]; simp
  have hls27 : lsN (gn μ 62) l d ≤ 27 := by unfold lsN; split <;> omega
  have lsd := ls_nI (full := gn μ 62) (l := l) (d := d) (by omega) (by omega) (by omega)
  rw [g1]
  refine ⟨in5, fun c => ?_, fun c => ?_⟩
  · simp only [if_true]
    rw [if_pos c] at lsd
    rw [lsd]
    exact core _ hls27 rfl
  · rw [if_neg (by decide)]
    rw [if_neg (by simpa using c)] at lsd
    rw [lsd]
    exact core _ hls27 rfl
theorem sp_X1_costThrough : Sp yX1_costThrough cX1_costThrough 6 (some .int) 1 S_X1_costThrough := by
  refine sp_of (by decide) (fun av μ P h => ?_) ?_
  · obtain ⟨p1, p2, p3, rfl, -⟩ := h
    refine ⟨Nat.le_of_ble_eq_true rfl, fun v hv => ?_⟩
    simp only [List.mem_cons, List.not_mem_nil, or_false] at hv
    rcases hv with rfl | rfl | rfl | rfl <;> rfl
  · rintro X P hO _ μ ⟨p1, p2, p3, rfl, hpre, hpost⟩ hn
    exact wk_X1_costThrough_0 hO hn p1 p2 p3  μ hpost (vp_X1_costThrough_0 p1 p2 p3  μ hpre)
def S_X1_costNow : Tr := fun av μ P => av = [.ref 59] ∧ pre_X1_costNow  μ ∧ ∀ (x : Int32) (m : Mem), post_X1_costNow  μ x m → P (some (.int x)) m
def vc_X1_costNow_0   (μ : Mem) (R : Int32 → Mem → Prop)  : Prop :=
  (pre_X1_indexOf (gi μ 59 5) (gi μ 59 6) μ ∧ ∀ (x1 : Int32) (μ2 : Mem), post_X1_indexOf (gi μ 59 5) (gi μ 59 6) μ x1 μ2 → vp_in x1 186 ∧ R (gi μ2 60 (Int32.toNatClampNeg x1)) μ2)
set_option maxRecDepth 20000 in
set_option maxHeartbeats 4000000 in
theorem wk_X1_costNow_0 {X : XT} {P : Post} (hO : OkM X cX1_costNow RX1 1 (some .int) P) (hn : xn X = 1)    (μ : Mem) {R : Int32 → Mem → Prop} (hR : ∀ x m, R x m → P (some (.int x)) m)    (h : vc_X1_costNow_0   μ R ) : V X 0 [some (.ref 59)] [] μ := by
  have hX := hO.1
  unfold vc_X1_costNow_0 at h
  refine v_aload_n hX dX1_costNow_0 rfl (?_ : V X 1 [some (.ref 59)] [.ref 59] μ)
  refine v_getr hX (60) fk_X1_11 sh_59 rfl rfl dX1_costNow_1 (?_ : V X 4 [some (.ref 59)] [.ref 60] μ)
  refine v_aload_n hX dX1_costNow_4 rfl (?_ : V X 5 [some (.ref 59)] [.ref 59, .ref 60] μ)
  refine v_geti hX fk_X1_49 sh_59 rfl dX1_costNow_5 (?_ : V X 8 [some (.ref 59)] [.int (gi μ 59 5), .ref 60] μ)
  refine v_aload_n hX dX1_costNow_8 rfl (?_ : V X 9 [some (.ref 59)] [.ref 59, .int (gi μ 59 5), .ref 60] μ)
  refine v_geti hX fk_X1_54 sh_59 rfl dX1_costNow_9 (?_ : V X 12 [some (.ref 59)] [.int (gi μ 59 6), .int (gi μ 59 5), .ref 60] μ)
  refine v_callS hX sp_X1_indexOf ck_X1_indexOf mk_X1_68 sk_X1_indexOf (by decide) [.int (gi μ 59 5), .int (gi μ 59 6)] [.ref 60] rfl rfl (Nat.le_of_ble_eq_true rfl) dX1_costNow_12 ⟨(gi μ 59 5), (gi μ 59 6), rfl, h.1, fun x1 μ2 hp3 => (?_ : V X 15 [some (.ref 59)] [.int x1, .ref 60] μ2)⟩
  replace h := h.2 x1 μ2 hp3
  have hb4 := h.1
  replace h := h.2
  refine w_iald hX (Int32.toNatClampNeg x1) sh_60 hb4 rfl dX1_costNow_15 (?_ : V X 16 [some (.ref 59)] [.int (gi μ2 60 (Int32.toNatClampNeg x1))] μ2)
  exact v_iret hO dX1_costNow_16 (hR _ _ h)
set_option maxRecDepth 20000 in
set_option maxHeartbeats 4000000 in
theorem vp_X1_costNow_0   (μ : Mem) (hpre : pre_X1_costNow  μ) : vc_X1_costNow_0  μ (post_X1_costNow  μ)  := by
  simp only [vc_X1_costNow_0, pre_X1_indexOf, post_X1_indexOf, and_imp, call_eq, forall_eq, forall_const, true_and, and_true]
  obtain ⟨⟨t1, t2, t3⟩, ⟨a1, a2⟩, c1, c2⟩ := hpre
  have ei : gi μ 59 5 * 6 + gi μ 59 6 = nI (gn μ 59 5 * 6 + gn μ 59 6) := by
    rw [a1, c1, show (6 : Int32) = nI 6 from rfl, pk_mul, nI_add]
  rw [ei, nI_clamp (by omega)]
  exact ⟨vp_in_nI (by omega) (by omega), (t3 _ (by omega)).1, rfl⟩
theorem sp_X1_costNow : Sp yX1_costNow cX1_costNow 1 (some .int) 1 S_X1_costNow := by
  refine sp_of (by decide) (fun av μ P h => ?_) ?_
  · obtain ⟨rfl, -⟩ := h
    refine ⟨Nat.le_of_ble_eq_true rfl, fun v hv => ?_⟩
    simp only [List.mem_cons, List.not_mem_nil, or_false] at hv
    subst hv; rfl
  · rintro X P hO _ μ ⟨rfl, hpre, hpost⟩ hn
    exact wk_X1_costNow_0 hO hn   μ hpost (vp_X1_costNow_0   μ hpre)
def S_X1_isNever : Tr := fun av μ P => av = [.ref 59] ∧ pre_X1_isNever  μ ∧ ∀ (x : Int32) (m : Mem), post_X1_isNever  μ x m → P (some (.int x)) m
def vc_X1_isNever_0   (μ : Mem) (R : Int32 → Mem → Prop)  : Prop :=
  (pre_X1_costNow  μ ∧ ∀ (x1 : Int32) (μ2 : Mem), post_X1_costNow  μ x1 μ2 → ((x1 < 1000000000 → R 0 μ2) ∧ (¬ x1 < 1000000000 → R 1 μ2)))
set_option maxRecDepth 20000 in
set_option maxHeartbeats 4000000 in
theorem wk_X1_isNever_0 {X : XT} {P : Post} (hO : OkM X cX1_isNever RX1 2 (some .boolean) P) (hn : xn X = 1)    (μ : Mem) {R : Int32 → Mem → Prop} (hR : ∀ x m, R x m → P (some (.int x)) m)    (h : vc_X1_isNever_0   μ R ) : V X 0 [some (.ref 59)] [] μ := by
  have hX := hO.1
  unfold vc_X1_isNever_0 at h
  refine v_aload_n hX dX1_isNever_0 rfl (?_ : V X 1 [some (.ref 59)] [.ref 59] μ)
  refine v_callV hX sp_X1_costNow ck_X1_costNow mk_X1_79 mv_X1_costNow sh_59 (by decide) (by decide) [] [] rfl rfl (Nat.le_of_ble_eq_true rfl) dX1_isNever_1 ⟨rfl, h.1, fun x1 μ2 hp3 => (?_ : V X 4 [some (.ref 59)] [.int x1] μ2)⟩
  replace h := h.2 x1 μ2 hp3
  refine v_ldc hX 1000000000 dX1_isNever_4 kk_X1_57 (?_ : V X 6 [some (.ref 59)] [.int 1000000000, .int x1] μ2)
  refine v_icmp_lt hX 13 dX1_isNever_6 rfl (fun c4 => ?_) (fun c4 => ?_)
  · replace h := h.1 c4
    refine v_iconst hX 0 dX1_isNever_13 rfl (?_ : V X 14 [some (.ref 59)] [.int 0] μ2)
    exact v_zret hO dX1_isNever_14 (by decide) (hR _ _ h)
  · replace h := h.2 c4
    refine v_iconst hX 1 dX1_isNever_9 rfl (?_ : V X 10 [some (.ref 59)] [.int 1] μ2)
    refine v_goto hX 14 dX1_isNever_10 rfl (?_ : V X 14 [some (.ref 59)] [.int 1] μ2)
    exact v_zret hO dX1_isNever_14 (by decide) (hR _ _ h)
set_option maxRecDepth 20000 in
set_option maxHeartbeats 4000000 in
theorem vp_X1_isNever_0   (μ : Mem) (hpre : pre_X1_isNever  μ) : vc_X1_isNever_0  μ (post_X1_isNever  μ)  := by
  simp only [vc_X1_isNever_0, pre_X1_costNow, post_X1_costNow, and_imp, call_eq, forall_eq, forall_const, true_and, and_true]
  obtain ⟨⟨t1, t2, t3⟩, ⟨a1, a2⟩, c1, c2⟩ := hpre
  have hb : nowC μ ≤ 1000000000 := (t3 _ (by omega)).2
  unfold post_X1_isNever
  rw [show (1000000000 : Int32) = nI 1000000000 from rfl, nI_ltI (by omega) (by omega)]
  refine ⟨⟨⟨t1, t2, t3⟩, ⟨a1, a2⟩, c1, c2⟩, fun c => ?_, fun c => ?_⟩
  · rw [if_pos c]; exact ⟨rfl, rfl⟩
  · rw [if_neg c]; exact ⟨rfl, rfl⟩
theorem sp_X1_isNever : Sp yX1_isNever cX1_isNever 1 (some .boolean) 2 S_X1_isNever := by
  refine sp_of (by decide) (fun av μ P h => ?_) ?_
  · obtain ⟨rfl, -⟩ := h
    refine ⟨Nat.le_of_ble_eq_true rfl, fun v hv => ?_⟩
    simp only [List.mem_cons, List.not_mem_nil, or_false] at hv
    subst hv; rfl
  · rintro X P hO _ μ ⟨rfl, hpre, hpost⟩ hn
    exact wk_X1_isNever_0 hO hn   μ hpost (vp_X1_isNever_0   μ hpre)
def S_X1_minutesNeeded : Tr := fun av μ P => av = [.ref 59] ∧ pre_X1_minutesNeeded  μ ∧ ∀ (x : Int32) (m : Mem), post_X1_minutesNeeded  μ x m → P (some (.int x)) m
def vc_X1_minutesNeeded_0   (μ : Mem) (R : Int32 → Mem → Prop)  : Prop :=
  (pre_X1_costNow  μ ∧ ∀ (x1 : Int32) (μ2 : Mem), post_X1_costNow  μ x1 μ2 → R (x1 / 1000) μ2)
set_option maxRecDepth 20000 in
set_option maxHeartbeats 4000000 in
theorem wk_X1_minutesNeeded_0 {X : XT} {P : Post} (hO : OkM X cX1_minutesNeeded RX1 2 (some .int) P) (hn : xn X = 1)    (μ : Mem) {R : Int32 → Mem → Prop} (hR : ∀ x m, R x m → P (some (.int x)) m)    (h : vc_X1_minutesNeeded_0   μ R ) : V X 0 [some (.ref 59)] [] μ := by
  have hX := hO.1
  unfold vc_X1_minutesNeeded_0 at h
  refine v_aload_n hX dX1_minutesNeeded_0 rfl (?_ : V X 1 [some (.ref 59)] [.ref 59] μ)
  refine v_callV hX sp_X1_costNow ck_X1_costNow mk_X1_79 mv_X1_costNow sh_59 (by decide) (by decide) [] [] rfl rfl (Nat.le_of_ble_eq_true rfl) dX1_minutesNeeded_1 ⟨rfl, h.1, fun x1 μ2 hp3 => (?_ : V X 4 [some (.ref 59)] [.int x1] μ2)⟩
  replace h := h.2 x1 μ2 hp3
  refine v_sipush hX 1000 dX1_minutesNeeded_4 rfl (?_ : V X 7 [some (.ref 59)] [.int 1000, .int x1] μ2)
  refine v_idiv hX dX1_minutesNeeded_7 (by decide) (?_ : V X 8 [some (.ref 59)] [.int (x1 / 1000)] μ2)
  exact v_iret hO dX1_minutesNeeded_8 (hR _ _ h)
set_option maxRecDepth 20000 in
set_option maxHeartbeats 4000000 in
theorem vp_X1_minutesNeeded_0   (μ : Mem) (hpre : pre_X1_minutesNeeded  μ) : vc_X1_minutesNeeded_0  μ (post_X1_minutesNeeded  μ)  := by
  simp only [vc_X1_minutesNeeded_0, pre_X1_costNow, post_X1_costNow, and_imp, call_eq, forall_eq, forall_const, true_and, and_true]
  have hp := hpre
  obtain ⟨⟨t1, t2, t3⟩, ⟨a1, a2⟩, c1, c2⟩ := hpre
  have hb : nowC μ ≤ 1000000000 := (t3 _ (by omega)).2
  refine ⟨hp, ?_, rfl⟩
  rw [show (1000 : Int32) = nI 1000 from rfl, pk_div (by omega) (by omega) (by omega)]
theorem sp_X1_minutesNeeded : Sp yX1_minutesNeeded cX1_minutesNeeded 1 (some .int) 2 S_X1_minutesNeeded := by
  refine sp_of (by decide) (fun av μ P h => ?_) ?_
  · obtain ⟨rfl, -⟩ := h
    refine ⟨Nat.le_of_ble_eq_true rfl, fun v hv => ?_⟩
    simp only [List.mem_cons, List.not_mem_nil, or_false] at hv
    subst hv; rfl
  · rintro X P hO _ μ ⟨rfl, hpre, hpost⟩ hn
    exact wk_X1_minutesNeeded_0 hO hn   μ hpost (vp_X1_minutesNeeded_0   μ hpre)
def S_X1_doingsNeeded : Tr := fun av μ P => av = [.ref 59] ∧ pre_X1_doingsNeeded  μ ∧ ∀ (x : Int32) (m : Mem), post_X1_doingsNeeded  μ x m → P (some (.int x)) m
def vc_X1_doingsNeeded_0   (μ : Mem) (R : Int32 → Mem → Prop)  : Prop :=
  (pre_X1_costNow  μ ∧ ∀ (x1 : Int32) (μ2 : Mem), post_X1_costNow  μ x1 μ2 → R (x1 - x1 / 1000 * 1000) μ2)
set_option maxRecDepth 20000 in
set_option maxHeartbeats 4000000 in
theorem wk_X1_doingsNeeded_0 {X : XT} {P : Post} (hO : OkM X cX1_doingsNeeded RX1 2 (some .int) P) (hn : xn X = 1)    (μ : Mem) {R : Int32 → Mem → Prop} (hR : ∀ x m, R x m → P (some (.int x)) m)    (h : vc_X1_doingsNeeded_0   μ R ) : V X 0 [some (.ref 59)] [] μ := by
  have hX := hO.1
  unfold vc_X1_doingsNeeded_0 at h
  refine v_aload_n hX dX1_doingsNeeded_0 rfl (?_ : V X 1 [some (.ref 59)] [.ref 59] μ)
  refine v_callV hX sp_X1_costNow ck_X1_costNow mk_X1_79 mv_X1_costNow sh_59 (by decide) (by decide) [] [] rfl rfl (Nat.le_of_ble_eq_true rfl) dX1_doingsNeeded_1 ⟨rfl, h.1, fun x1 μ2 hp3 => (?_ : V X 4 [some (.ref 59)] [.int x1] μ2)⟩
  replace h := h.2 x1 μ2 hp3
  refine v_sipush hX 1000 dX1_doingsNeeded_4 rfl (?_ : V X 7 [some (.ref 59)] [.int 1000, .int x1] μ2)
  refine v_irem hX dX1_doingsNeeded_7 (by decide) (?_ : V X 8 [some (.ref 59)] [.int (x1 - x1 / 1000 * 1000)] μ2)
  exact v_iret hO dX1_doingsNeeded_8 (hR _ _ h)
set_option maxRecDepth 20000 in
set_option maxHeartbeats 4000000 in
theorem vp_X1_doingsNeeded_0   (μ : Mem) (hpre : pre_X1_doingsNeeded  μ) : vc_X1_doingsNeeded_0  μ (post_X1_doingsNeeded  μ)  := by
  simp only [vc_X1_doingsNeeded_0, pre_X1_costNow, post_X1_costNow, and_imp, call_eq, forall_eq, forall_const, true_and, and_true]
  have hp := hpre
  obtain ⟨⟨t1, t2, t3⟩, ⟨a1, a2⟩, c1, c2⟩ := hpre
  have hb : nowC μ ≤ 1000000000 := (t3 _ (by omega)).2
  refine ⟨hp, ?_, rfl⟩
  rw [show (1000 : Int32) = nI 1000 from rfl, pk_rem (by omega) (by omega) (by omega)]
theorem sp_X1_doingsNeeded : Sp yX1_doingsNeeded cX1_doingsNeeded 1 (some .int) 2 S_X1_doingsNeeded := by
  refine sp_of (by decide) (fun av μ P h => ?_) ?_
  · obtain ⟨rfl, -⟩ := h
    refine ⟨Nat.le_of_ble_eq_true rfl, fun v hv => ?_⟩
    simp only [List.mem_cons, List.not_mem_nil, or_false] at hv
    subst hv; rfl
  · rintro X P hO _ μ ⟨rfl, hpre, hpost⟩ hn
    exact wk_X1_doingsNeeded_0 hO hn   μ hpost (vp_X1_doingsNeeded_0   μ hpre)
def S_X1_solveLevel : Tr := fun av μ P => ∃ (p1 : Int32), av = [.ref 59, .int p1] ∧ pre_X1_solveLevel p1 μ ∧ ∀ m : Mem, post_X1_solveLevel p1 μ m → P none m
def vc_X1_solveLevel_0 (p1 : Int32)  (μ : Mem) (R : Mem → Prop) (J2 : Int32 → Mem → Prop) (J10 : Int32 → Int32 → Mem → Prop) : Prop :=
  J2 0 μ
set_option maxRecDepth 20000 in
set_option maxHeartbeats 4000000 in
theorem wk_X1_solveLevel_0 {X : XT} {P : Post} (hO : OkM X cX1_solveLevel RX1 2 none P) (hn : xn X = 5) (p1 : Int32)   (μ : Mem) {R : Mem → Prop} (hR : ∀ m, R m → P none m) {J2 : Int32 → Mem → Prop} {J10 : Int32 → Int32 → Mem → Prop} (hJ2 : ∀ (l2 : Int32) (m : Mem), J2 l2 m → V X 2 [some (.ref 59), some (.int p1), some (.int l2), none, none] [] m) (hJ10 : ∀ (l2 : Int32) (l3 : Int32) (m : Mem), J10 l2 l3 m → V X 10 [some (.ref 59), some (.int p1), some (.int l2), some (.int l3), none] [] m)  (h : vc_X1_solveLevel_0 p1  μ R J2 J10) : V X 0 [some (.ref 59), some (.int p1), none, none, none] [] μ := by
  have hX := hO.1
  unfold vc_X1_solveLevel_0 at h
  refine v_iconst hX 0 dX1_solveLevel_0 rfl (?_ : V X 1 [some (.ref 59), some (.int p1), none, none, none] [.int 0] μ)
  refine v_istore_n hX dX1_solveLevel_1 (by rw [hn]; decide) (?_ : V X 2 [some (.ref 59), some (.int p1), some (.int 0), none, none] [] μ)
  exact v_mask [true, true, true, false, false] (hJ2 _ _ h)
def vc_X1_solveLevel_2 (p1 : Int32) (l2 : Int32) (μ : Mem) (R : Mem → Prop) (J2 : Int32 → Mem → Prop) (J10 : Int32 → Int32 → Mem → Prop) : Prop :=
  ((6 ≤ l2 → R μ) ∧ (¬ 6 ≤ l2 → J10 l2 0 μ))
set_option maxRecDepth 20000 in
set_option maxHeartbeats 4000000 in
theorem wk_X1_solveLevel_2 {X : XT} {P : Post} (hO : OkM X cX1_solveLevel RX1 2 none P) (hn : xn X = 5) (p1 : Int32)  (l2 : Int32) (μ : Mem) {R : Mem → Prop} (hR : ∀ m, R m → P none m) {J2 : Int32 → Mem → Prop} {J10 : Int32 → Int32 → Mem → Prop} (hJ2 : ∀ (l2 : Int32) (m : Mem), J2 l2 m → V X 2 [some (.ref 59), some (.int p1), some (.int l2), none, none] [] m) (hJ10 : ∀ (l2 : Int32) (l3 : Int32) (m : Mem), J10 l2 l3 m → V X 10 [some (.ref 59), some (.int p1), some (.int l2), some (.int l3), none] [] m)  (h : vc_X1_solveLevel_2 p1 l2 μ R J2 J10) : V X 2 [some (.ref 59), some (.int p1), some (.int l2), none, none] [] μ := by
  have hX := hO.1
  unfold vc_X1_solveLevel_2 at h
  refine v_iload_n hX dX1_solveLevel_2 rfl (?_ : V X 3 [some (.ref 59), some (.int p1), some (.int l2), none, none] [.int l2] μ)
  refine v_bipush hX 6 dX1_solveLevel_3 rfl (?_ : V X 5 [some (.ref 59), some (.int p1), some (.int l2), none, none] [.int 6, .int l2] μ)
  refine v_icmp_ge hX 61 dX1_solveLevel_5 rfl (fun c1 => ?_) (fun c1 => ?_)
  · replace h := h.1 c1
    exact v_vret hO dX1_solveLevel_61 (hR _ h)
  · replace h := h.2 c1
    refine v_iconst hX 0 dX1_solveLevel_8 rfl (?_ : V X 9 [some (.ref 59), some (.int p1), some (.int l2), none, none] [.int 0] μ)
    refine v_istore_n hX dX1_solveLevel_9 (by rw [hn]; decide) (?_ : V X 10 [some (.ref 59), some (.int p1), some (.int l2), some (.int 0), none] [] μ)
    exact v_mask [true, true, true, true, false] (hJ10 _ _ _ h)
def vc_X1_solveLevel_10 (p1 : Int32) (l2 : Int32) (l3 : Int32) (μ : Mem) (R : Mem → Prop) (J2 : Int32 → Mem → Prop) (J10 : Int32 → Int32 → Mem → Prop) : Prop :=
  (((gi μ 59 2) ≤ l3 → J2 (l2 + 1) μ) ∧ (¬ (gi μ 59 2) ≤ l3 → (pre_X1_indexOf p1 l2 μ ∧ ∀ (x2 : Int32) (μ3 : Mem), post_X1_indexOf p1 l2 μ x2 μ3 → vp_in x2 186 ∧ (pre_X1_costThrough p1 l2 l3 μ3 ∧ ∀ (x6 : Int32) (μ7 : Mem), post_X1_costThrough p1 l2 l3 μ3 x6 μ7 → vp_in x2 186 ∧ (∀ μ10, μ10 = ui μ7 60 (Int32.toNatClampNeg x2) (if x6 < (gi μ3 60 (Int32.toNatClampNeg x2)) then x6 else (gi μ3 60 (Int32.toNatClampNeg x2))) → J10 l2 (l3 + 1) μ10)))))
set_option maxRecDepth 20000 in
set_option maxHeartbeats 4000000 in
theorem wk_X1_solveLevel_10 {X : XT} {P : Post} (hO : OkM X cX1_solveLevel RX1 2 none P) (hn : xn X = 5) (p1 : Int32)  (l2 : Int32) (l3 : Int32) (μ : Mem) {R : Mem → Prop} (hR : ∀ m, R m → P none m) {J2 : Int32 → Mem → Prop} {J10 : Int32 → Int32 → Mem → Prop} (hJ2 : ∀ (l2 : Int32) (m : Mem), J2 l2 m → V X 2 [some (.ref 59), some (.int p1), some (.int l2), none, none] [] m) (hJ10 : ∀ (l2 : Int32) (l3 : Int32) (m : Mem), J10 l2 l3 m → V X 10 [some (.ref 59), some (.int p1), some (.int l2), some (.int l3), none] [] m)  (h : vc_X1_solveLevel_10 p1 l2 l3 μ R J2 J10) : V X 10 [some (.ref 59), some (.int p1), some (.int l2), some (.int l3), none] [] μ := by
  have hX := hO.1
  unfold vc_X1_solveLevel_10 at h
  refine v_iload_n hX dX1_solveLevel_10 rfl (?_ : V X 11 [some (.ref 59), some (.int p1), some (.int l2), some (.int l3), none] [.int l3] μ)
  refine v_aload_n hX dX1_solveLevel_11 rfl (?_ : V X 12 [some (.ref 59), some (.int p1), some (.int l2), some (.int l3), none] [.ref 59, .int l3] μ)
  refine v_geti hX fk_X1_30 sh_59 rfl dX1_solveLevel_12 (?_ : V X 15 [some (.ref 59), some (.int p1), some (.int l2), some (.int l3), none] [.int (gi μ 59 2), .int l3] μ)
  refine v_icmp_ge hX 55 dX1_solveLevel_15 rfl (fun c1 => ?_) (fun c1 => ?_)
  · replace h := h.1 c1
    refine v_iinc hX 1 dX1_solveLevel_55 (by rw [hn]; decide) rfl rfl (?_ : V X 58 [some (.ref 59), some (.int p1), some (.int (l2 + 1)), some (.int l3), none] [] μ)
    refine v_goto hX 2 dX1_solveLevel_58 rfl (?_ : V X 2 [some (.ref 59), some (.int p1), some (.int (l2 + 1)), some (.int l3), none] [] μ)
    exact v_mask [true, true, true, false, false] (hJ2 _ _ h)
  · replace h := h.2 c1
    refine v_iload_n hX dX1_solveLevel_18 rfl (?_ : V X 19 [some (.ref 59), some (.int p1), some (.int l2), some (.int l3), none] [.int p1] μ)
    refine v_iload_n hX dX1_solveLevel_19 rfl (?_ : V X 20 [some (.ref 59), some (.int p1), some (.int l2), some (.int l3), none] [.int l2, .int p1] μ)
    refine v_callS hX sp_X1_indexOf ck_X1_indexOf mk_X1_68 sk_X1_indexOf (by decide) [.int p1, .int l2] [] rfl rfl (Nat.le_of_ble_eq_true rfl) dX1_solveLevel_20 ⟨p1, l2, rfl, h.1, fun x2 μ3 hp4 => (?_ : V X 23 [some (.ref 59), some (.int p1), some (.int l2), some (.int l3), none] [.int x2] μ3)⟩
    replace h := h.2 x2 μ3 hp4
    refine v_istore hX dX1_solveLevel_23 (by rw [hn]; decide) (?_ : V X 25 [some (.ref 59), some (.int p1), some (.int l2), some (.int l3), some (.int x2)] [] μ3)
    refine v_aload_n hX dX1_solveLevel_25 rfl (?_ : V X 26 [some (.ref 59), some (.int p1), some (.int l2), some (.int l3), some (.int x2)] [.ref 59] μ3)
    refine v_getr hX (60) fk_X1_11 sh_59 rfl rfl dX1_solveLevel_26 (?_ : V X 29 [some (.ref 59), some (.int p1), some (.int l2), some (.int l3), some (.int x2)] [.ref 60] μ3)
    refine v_iload hX dX1_solveLevel_29 rfl (?_ : V X 31 [some (.ref 59), some (.int p1), some (.int l2), some (.int l3), some (.int x2)] [.int x2, .ref 60] μ3)
    refine v_aload_n hX dX1_solveLevel_31 rfl (?_ : V X 32 [some (.ref 59), some (.int p1), some (.int l2), some (.int l3), some (.int x2)] [.ref 59, .int x2, .ref 60] μ3)
    refine v_getr hX (60) fk_X1_11 sh_59 rfl rfl dX1_solveLevel_32 (?_ : V X 35 [some (.ref 59), some (.int p1), some (.int l2), some (.int l3), some (.int x2)] [.ref 60, .int x2, .ref 60] μ3)
    refine v_iload hX dX1_solveLevel_35 rfl (?_ : V X 37 [some (.ref 59), some (.int p1), some (.int l2), some (.int l3), some (.int x2)] [.int x2, .ref 60, .int x2, .ref 60] μ3)
    have hb5 := h.1
    replace h := h.2
    refine w_iald hX (Int32.toNatClampNeg x2) sh_60 hb5 rfl dX1_solveLevel_37 (?_ : V X 38 [some (.ref 59), some (.int p1), some (.int l2), some (.int l3), some (.int x2)] [.int (gi μ3 60 (Int32.toNatClampNeg x2)), .int x2, .ref 60] μ3)
    refine v_aload_n hX dX1_solveLevel_38 rfl (?_ : V X 39 [some (.ref 59), some (.int p1), some (.int l2), some (.int l3), some (.int x2)] [.ref 59, .int (gi μ3 60 (Int32.toNatClampNeg x2)), .int x2, .ref 60] μ3)
    refine v_iload_n hX dX1_solveLevel_39 rfl (?_ : V X 40 [some (.ref 59), some (.int p1), some (.int l2), some (.int l3), some (.int x2)] [.int p1, .ref 59, .int (gi μ3 60 (Int32.toNatClampNeg x2)), .int x2, .ref 60] μ3)
    refine v_iload_n hX dX1_solveLevel_40 rfl (?_ : V X 41 [some (.ref 59), some (.int p1), some (.int l2), some (.int l3), some (.int x2)] [.int l2, .int p1, .ref 59, .int (gi μ3 60 (Int32.toNatClampNeg x2)), .int x2, .ref 60] μ3)
    refine v_iload_n hX dX1_solveLevel_41 rfl (?_ : V X 42 [some (.ref 59), some (.int p1), some (.int l2), some (.int l3), some (.int x2)] [.int l3, .int l2, .int p1, .ref 59, .int (gi μ3 60 (Int32.toNatClampNeg x2)), .int x2, .ref 60] μ3)
    refine v_callV hX sp_X1_costThrough ck_X1_costThrough mk_X1_71 mv_X1_costThrough sh_59 (by decide) (by decide) [.int p1, .int l2, .int l3] [.int (gi μ3 60 (Int32.toNatClampNeg x2)), .int x2, .ref 60] rfl rfl (Nat.le_of_ble_eq_true rfl) dX1_solveLevel_42 ⟨p1, l2, l3, rfl, h.1, fun x6 μ7 hp8 => (?_ : V X 45 [some (.ref 59), some (.int p1), some (.int l2), some (.int l3), some (.int x2)] [.int x6, .int (gi μ3 60 (Int32.toNatClampNeg x2)), .int x2, .ref 60] μ7)⟩
    replace h := h.2 x6 μ7 hp8
    refine v_mmin hX mk_X1_41 twMin (by decide) (Nat.le_of_ble_eq_true rfl) dX1_solveLevel_45 (?_ : V X 48 [some (.ref 59), some (.int p1), some (.int l2), some (.int l3), some (.int x2)] [.int (if x6 < (gi μ3 60 (Int32.toNatClampNeg x2)) then x6 else (gi μ3 60 (Int32.toNatClampNeg x2))), .int x2, .ref 60] μ7)
    have hb9 := h.1
    replace h := h.2
    refine w_iast hX (Int32.toNatClampNeg x2) sh_60 hb9 rfl dX1_solveLevel_48 (fun μ10 e11 => (?_ : V X 49 [some (.ref 59), some (.int p1), some (.int l2), some (.int l3), some (.int x2)] [] μ10))
    replace h := h μ10 e11
    refine v_iinc hX 1 dX1_solveLevel_49 (by rw [hn]; decide) rfl rfl (?_ : V X 52 [some (.ref 59), some (.int p1), some (.int l2), some (.int (l3 + 1)), some (.int x2)] [] μ10)
    refine v_goto hX 10 dX1_solveLevel_52 rfl (?_ : V X 10 [some (.ref 59), some (.int p1), some (.int l2), some (.int (l3 + 1)), some (.int x2)] [] μ10)
    exact v_mask [true, true, true, true, false] (hJ10 _ _ _ h)
set_option maxRecDepth 20000 in
set_option maxHeartbeats 4000000 in
theorem vp_X1_solveLevel_0 (p1 : Int32)  (μ : Mem) (hpre : pre_X1_solveLevel p1 μ) : vc_X1_solveLevel_0 p1 μ (post_X1_solveLevel p1 μ) (fun l2 m => ∃ k : Nat, inv_X1_solveLevel_2 p1 μ k l2 m) (fun l2 l3 m => ∃ k : Nat, inv_X1_solveLevel_10 p1 μ k l2 l3 m) := by
  simp only [vc_X1_solveLevel_0, pre_X1_costThrough, pre_X1_indexOf, post_X1_costThrough, post_X1_indexOf, and_imp, call_eq, forall_eq, forall_const, true_and, and_true]
  obtain ⟨e, hf, hT⟩ := hpre
  refine ⟨600, 0, by omega, rfl, rfl, fr_refl _ _, hT.2.2, fun _ _ => rfl, fun _ _ => Nat.le_refl _, fun j e hj he h => ?_, fun _ _ => Or.inl rfl, fun S h1 _ j hj => h1 j hj⟩
  rcases h with h | ⟨_, h⟩ <;> exact absurd h (Nat.not_lt_zero _)
set_option maxRecDepth 20000 in
set_option maxHeartbeats 4000000 in
theorem vp_X1_solveLevel_2 (p1 : Int32)  (μ : Mem) (hpre : pre_X1_solveLevel p1 μ) (n : Nat) (l2 : Int32) (μ0 : Mem) (hi : inv_X1_solveLevel_2 p1 μ n l2 μ0) : vc_X1_solveLevel_2 p1 l2 μ0 (post_X1_solveLevel p1 μ) (fun l2 m => ∃ k : Nat, k < n ∧ inv_X1_solveLevel_2 p1 μ k l2 m) (fun l2 l3 m => ∃ k : Nat, k < n ∧ inv_X1_solveLevel_10 p1 μ k l2 l3 m) := by
  simp only [vc_X1_solveLevel_2, pre_X1_costThrough, pre_X1_indexOf, post_X1_costThrough, post_X1_indexOf, and_imp, call_eq, forall_eq, forall_const, true_and, and_true]
  obtain ⟨e, hf, hT⟩ := hpre
  obtain ⟨l, hl, rfl, rfl, hL⟩ := hi
  have hD := hT.1.2
  rw [show (6 : Int32) = nI 6 from rfl, nI_leI (by omega) (by omega)]
  refine ⟨fun c => ?_, fun c => ⟨(5 - l) * 100 + 10 + (gn μ 59 2 - 0), by omega, l, 0, by omega, Nat.zero_le _, rfl, rfl, rfl, hL⟩⟩
  have : l = 6 := by omega
  subst this
  exact hL
set_option maxRecDepth 20000 in
set_option maxHeartbeats 4000000 in
theorem vp_X1_solveLevel_10 (p1 : Int32)  (μ : Mem) (hpre : pre_X1_solveLevel p1 μ) (n : Nat) (l2 : Int32) (l3 : Int32) (μ0 : Mem) (hi : inv_X1_solveLevel_10 p1 μ n l2 l3 μ0) : vc_X1_solveLevel_10 p1 l2 l3 μ0 (post_X1_solveLevel p1 μ) (fun l2 m => ∃ k : Nat, k < n ∧ inv_X1_solveLevel_2 p1 μ k l2 m) (fun l2 l3 m => ∃ k : Nat, k < n ∧ inv_X1_solveLevel_10 p1 μ k l2 l3 m) := by
  simp only [vc_X1_solveLevel_10, pre_X1_costThrough, pre_X1_indexOf, post_X1_costThrough, post_X1_indexOf, and_imp, call_eq, forall_eq, forall_const, true_and, and_true]
  obtain ⟨ep, hf, hT⟩ := hpre
  obtain ⟨l, d, hl, hd, rfl, rfl, rfl, hL⟩ := hi
  have hL0 := hL
  obtain ⟨F1, F2, F3, Fa, Fb, Fc, Fd⟩ := hL
  obtain ⟨T1, T2, T3⟩ := hT
  have hD := T1.2
  have k59 : ∀ k, gi μ0 59 k = gi μ 59 k := fun k => F1.1 59 (by simp) k
  have k62 : gn μ0 62 = gn μ 62 := funext fun k => by unfold gn; rw [F1.1 62 (by simp)]
  have k63 : gn μ0 63 = gn μ 63 := funext fun k => by unfold gn; rw [F1.1 63 (by simp)]
  have kD : gn μ0 59 2 = gn μ 59 2 := by unfold gn; rw [k59]
  generalize hfn : p1.toNatClampNeg = f at *
  subst ep
  rw [k59, isN_le T1 (by omega) (by omega)]
  have ei : nI f * 6 + nI l = nI (f * 6 + l) := by rw [show (6 : Int32) = nI 6 from rfl, pk_mul, nI_add]
  have ci : (nI (f * 6 + l)).toNatClampNeg = f * 6 + l := nI_clamp (by omega)
  have cl : (nI l).toNatClampNeg = l := nI_clamp (by omega)
  have cd : (nI d).toNatClampNeg = d := nI_clamp (by omega)
  rw [ei, ci]
  refine ⟨fun c => ⟨(6 - (l + 1)) * 100, by omega, l + 1, by omega, rfl, nI_1 l, ?_⟩, fun c => ⟨vp_in_nI (by omega) (by omega), ⟨by first | rfl | rw [hfn], by first | exact hf | (rw [hfn]; exact hf), by first | rfl | rw [cl], by first | omega | (rw [cl]; omega), by first | rfl | rw [cd], by first | (rw [kD]; omega) | (rw [cd, kD]; omega), ⟨?_, ?_, F2⟩⟩, vp_in_nI (by omega) (by omega), (5 - l) * 100 + 10 + (gn μ 59 2 - (d + 1)), by omega, l, d + 1, hl, by omega, rfl, rfl, nI_1 d, ?_⟩⟩
  · try rw [hfn]
    have : d = gn μ 59 2 := by omega
    subst this
    refine ⟨F1, F2, F3, Fa, fun j e hj he h => Fb j e hj he ?_, Fc, Fd⟩
    rcases h with h | ⟨_, h⟩
    · rcases Nat.lt_or_ge j l with z | z
      · exact Or.inl z
      · exact Or.inr ⟨by omega, he⟩
    · exact absurd h (Nat.not_lt_zero _)
  · unfold isN gn; rw [k59]; exact T1
  · intro e he
    rw [kD] at he
    obtain ⟨q1, q2⟩ := T2 e he
    refine ⟨?_, ?_⟩
    · unfold isN; rw [k62, F1.1 62 (by simp)]; exact q1
    · unfold isN; rw [k63, F1.1 63 (by simp)]; exact q2
  · have hdD : d < gn μ 59 2 := by omega
    obtain ⟨q1, q2⟩ := F2 (f * 6 + l) (by omega)
    obtain ⟨w1, w2⟩ := T2 d hdD
    have w22 := w2.2
    try rw [hfn]
    try rw [cl]
    try rw [cd]
    rw [k62, k63]
    have low : ∀ g, g < f → ∀ e, e < 6 → cC μ0 g e = cC μ g e := by
      intro g hg e he; unfold cC gn; rw [F3 _ (by omega)]
    generalize htx : tXf 1000000000 (gn μ 62) (gn μ 63) (cC μ0) f l d = tx
    have hth : min 1000000000 tx = min 1000000000 (thr 1000000000 (gn μ 62) (gn μ 63) (cC μ) (cC μ0 f) f l d) := by
      rw [thr_lower (c' := cC μ0) (fun g hg => (low g hg d (by omega)).symm), thr_self, ← htx]
      unfold tXf
      split
      · rfl
      · split
        · omega
        · omega
    have htxb : tx ≤ 2000000000 := by
      rw [← htx]; unfold tXf
      have : cC μ0 (f - lsN (gn μ 62) l d) d ≤ 1000000000 := (F2 _ (by omega)).2
      split
      · omega
      · split <;> omega
    rw [q1]
    have ev : (if nI tx < nI (gn μ0 60 (f * 6 + l)) then nI tx else nI (gn μ0 60 (f * 6 + l))) = nI (min (gn μ0 60 (f * 6 + l)) tx) := min_nI (by omega) (by omega)
    rw [ev]
    generalize hv : min (gn μ0 60 (f * 6 + l)) tx = v
    have hcl : cC μ0 f l = gn μ0 60 (f * 6 + l) := rfl
    have hvt : v = min (cC μ0 f l) (thr 1000000000 (gn μ 62) (gn μ 63) (cC μ) (cC μ0 f) f l d) := by
      rw [hcl]; omega
    have g : ∀ k, gn (ui μ0 60 (f * 6 + l) (nI v)) 60 k = if k = f * 6 + l then v else gn μ0 60 k := by
      intro k; unfold gn; rw [gi_ui]
      by_cases z : k = f * 6 + l
      · rw [if_pos ⟨rfl, z⟩, if_pos z, nI_clamp (by omega)]
      · rw [if_neg (by simp [z]), if_neg z]
    have gc : ∀ j, j < 6 → cC (ui μ0 60 (f * 6 + l) (nI v)) f j = if j = l then v else cC μ0 f j := by
      intro j hj; unfold cC; rw [g]
      by_cases z : j = l
      · subst z; rw [if_pos rfl, if_pos rfl]
      · rw [if_neg (by omega), if_neg z]
    have gle : ∀ j, j < 6 → cC (ui μ0 60 (f * 6 + l) (nI v)) f j ≤ cC μ0 f j := by
      intro j hj; rw [gc j hj]; split
      · rename_i z; rw [z]; omega
      · exact Nat.le_refl _
    refine ⟨fr_trans F1 (fr_ui (by simp)), fun k hk => ⟨?_, ?_⟩, fun k hk => ?_, fun j hj => Nat.le_trans (gle j hj) (Fa j hj), fun j e hj he h => ?_, fun j hj => ?_, fun S h1 h2 j hj => ?_⟩
    · rw [g, gi_ui]
      by_cases z : k = f * 6 + l
      · rw [if_pos ⟨rfl, z⟩, if_pos z]
      · rw [if_neg (by simp [z]), if_neg z]; exact (F2 k hk).1
    · rw [g]; split
      · omega
      · exact (F2 k hk).2
    · rw [gi_ui, if_neg (by omega)]; exact F3 k hk
    · by_cases z : j < l ∨ (j = l ∧ e < d)
      · exact Nat.le_trans (gle j hj) (Fb j e hj he z)
      · have hj2 : j = l := by omega
        have he2 : e = d := by omega
        subst hj2; subst he2
        rw [gc j hj, if_pos rfl, hvt]
        exact Nat.le_trans (Nat.min_le_right _ _) (thr_mono (Fa e (by omega)))
    · have mono : ∀ e, e < gn μ 59 2 → thr 1000000000 (gn μ 62) (gn μ 63) (cC μ) (cC (ui μ0 60 (f * 6 + l) (nI v)) f) f j e ≤ thr 1000000000 (gn μ 62) (gn μ 63) (cC μ) (cC μ0 f) f j e := fun e he => thr_mono (gle e (by omega))
      by_cases z : j = l
      · subst z
        rw [gc j hj, if_pos rfl]
        rcases Nat.lt_or_ge (thr 1000000000 (gn μ 62) (gn μ 63) (cC μ) (cC μ0 f) f j d) (cC μ0 f j) with q | q
        · exact Or.inr ⟨d, hdD, Nat.le_trans (mono d hdD) (by omega)⟩
        · have ev : v = cC μ0 f j := by omega
          rcases Fc j hj with y | ⟨e, he, y⟩
          · exact Or.inl (ev.trans y)
          · exact Or.inr ⟨e, he, Nat.le_trans (mono e he) (by rw [ev]; exact y)⟩
      · rw [gc j hj, if_neg z]
        rcases Fc j hj with y | ⟨e, he, y⟩
        · exact Or.inl y
        · exact Or.inr ⟨e, he, Nat.le_trans (mono e he) y⟩
    · have hS := Fd S h1 h2
      rw [gc j hj]; split
      · rename_i z; subst z
        rw [hvt]
        exact Nat.le_min.mpr ⟨hS j hj, Nat.le_trans (h2 j hj d hdD) (thr_mono (hS d (by omega)))⟩
      · exact hS j hj
theorem sp_X1_solveLevel : Sp yX1_solveLevel cX1_solveLevel 5 none 2 S_X1_solveLevel := by
  refine sp_of (by decide) (fun av μ P h => ?_) ?_
  · obtain ⟨p1, rfl, -⟩ := h
    refine ⟨Nat.le_of_ble_eq_true rfl, fun v hv => ?_⟩
    simp only [List.mem_cons, List.not_mem_nil, or_false] at hv
    rcases hv with rfl | rfl <;> rfl
  · rintro X P hO _ μ ⟨p1, rfl, hpre, hpost⟩ hn
    have hJ : ∀ n : Nat, (∀ (l2 : Int32) (m : Mem), inv_X1_solveLevel_2 p1 μ n l2 m → V X 2 [some (.ref 59), some (.int p1), some (.int l2), none, none] [] m) ∧ (∀ (l2 : Int32) (l3 : Int32) (m : Mem), inv_X1_solveLevel_10 p1 μ n l2 l3 m → V X 10 [some (.ref 59), some (.int p1), some (.int l2), some (.int l3), none] [] m) := by
      intro n
      induction n using Nat.strongRecOn with
      | _ n ih =>
        exact ⟨fun l2 m hi => wk_X1_solveLevel_2 (J2 := (fun l2 m => ∃ k : Nat, k < n ∧ inv_X1_solveLevel_2 p1 μ k l2 m)) (J10 := (fun l2 l3 m => ∃ k : Nat, k < n ∧ inv_X1_solveLevel_10 p1 μ k l2 l3 m)) hO hn p1  l2 m hpost (fun l2 m hk => by obtain ⟨k, hk, hi⟩ := hk; exact (ih k hk).1 l2 m hi) (fun l2 l3 m hk => by obtain ⟨k, hk, hi⟩ := hk; exact (ih k hk).2 l2 l3 m hi) (vp_X1_solveLevel_2 p1  μ hpre n l2 m hi), fun l2 l3 m hi => wk_X1_solveLevel_10 (J2 := (fun l2 m => ∃ k : Nat, k < n ∧ inv_X1_solveLevel_2 p1 μ k l2 m)) (J10 := (fun l2 l3 m => ∃ k : Nat, k < n ∧ inv_X1_solveLevel_10 p1 μ k l2 l3 m)) hO hn p1  l2 l3 m hpost (fun l2 m hk => by obtain ⟨k, hk, hi⟩ := hk; exact (ih k hk).1 l2 m hi) (fun l2 l3 m hk => by obtain ⟨k, hk, hi⟩ := hk; exact (ih k hk).2 l2 l3 m hi) (vp_X1_solveLevel_10 p1  μ hpre n l2 l3 m hi)⟩
    exact wk_X1_solveLevel_0 (J2 := (fun l2 m => ∃ k : Nat, inv_X1_solveLevel_2 p1 μ k l2 m)) (J10 := (fun l2 l3 m => ∃ k : Nat, inv_X1_solveLevel_10 p1 μ k l2 l3 m)) hO hn p1  μ hpost (fun l2 m hk => by obtain ⟨k, hi⟩ := hk; exact (hJ k).1 l2 m hi) (fun l2 l3 m hk => by obtain ⟨k, hi⟩ := hk; exact (hJ k).2 l2 l3 m hi) (vp_X1_solveLevel_0 p1  μ hpre)
def S_X1_firstOfBest : Tr := fun av μ P => ∃ (p1 : Int32) (p2 : Int32), av = [.ref 59, .int p1, .int p2] ∧ pre_X1_firstOfBest p1 p2 μ ∧ ∀ (x : Int32) (m : Mem), post_X1_firstOfBest p1 p2 μ x m → P (some (.int x)) m
def vc_X1_firstOfBest_0 (p1 : Int32) (p2 : Int32)  (μ : Mem) (R : Int32 → Mem → Prop) (J2 : Int32 → Mem → Prop) : Prop :=
  J2 0 μ
set_option maxRecDepth 20000 in
set_option maxHeartbeats 4000000 in
theorem wk_X1_firstOfBest_0 {X : XT} {P : Post} (hO : OkM X cX1_firstOfBest RX1 2 (some .int) P) (hn : xn X = 4) (p1 : Int32) (p2 : Int32)   (μ : Mem) {R : Int32 → Mem → Prop} (hR : ∀ x m, R x m → P (some (.int x)) m) {J2 : Int32 → Mem → Prop} (hJ2 : ∀ (l3 : Int32) (m : Mem), J2 l3 m → V X 2 [some (.ref 59), some (.int p1), some (.int p2), some (.int l3)] [] m)  (h : vc_X1_firstOfBest_0 p1 p2  μ R J2) : V X 0 [some (.ref 59), some (.int p1), some (.int p2), none] [] μ := by
  have hX := hO.1
  unfold vc_X1_firstOfBest_0 at h
  refine v_iconst hX 0 dX1_firstOfBest_0 rfl (?_ : V X 1 [some (.ref 59), some (.int p1), some (.int p2), none] [.int 0] μ)
  refine v_istore_n hX dX1_firstOfBest_1 (by rw [hn]; decide) (?_ : V X 2 [some (.ref 59), some (.int p1), some (.int p2), some (.int 0)] [] μ)
  exact v_mask [true, true, true, true] (hJ2 _ _ h)
def vc_X1_firstOfBest_2 (p1 : Int32) (p2 : Int32) (l3 : Int32) (μ : Mem) (R : Int32 → Mem → Prop) (J2 : Int32 → Mem → Prop) : Prop :=
  (((gi μ 59 2) ≤ l3 → R 0 μ) ∧ (¬ (gi μ 59 2) ≤ l3 → (pre_X1_costThrough p1 p2 l3 μ ∧ ∀ (x2 : Int32) (μ3 : Mem), post_X1_costThrough p1 p2 l3 μ x2 μ3 → (pre_X1_indexOf p1 p2 μ3 ∧ ∀ (x5 : Int32) (μ6 : Mem), post_X1_indexOf p1 p2 μ3 x5 μ6 → vp_in x5 186 ∧ ((¬ x2 = (gi μ6 60 (Int32.toNatClampNeg x5)) → J2 (l3 + 1) μ6) ∧ (x2 = (gi μ6 60 (Int32.toNatClampNeg x5)) → R l3 μ6))))))
set_option maxRecDepth 20000 in
set_option maxHeartbeats 4000000 in
theorem wk_X1_firstOfBest_2 {X : XT} {P : Post} (hO : OkM X cX1_firstOfBest RX1 2 (some .int) P) (hn : xn X = 4) (p1 : Int32) (p2 : Int32)  (l3 : Int32) (μ : Mem) {R : Int32 → Mem → Prop} (hR : ∀ x m, R x m → P (some (.int x)) m) {J2 : Int32 → Mem → Prop} (hJ2 : ∀ (l3 : Int32) (m : Mem), J2 l3 m → V X 2 [some (.ref 59), some (.int p1), some (.int p2), some (.int l3)] [] m)  (h : vc_X1_firstOfBest_2 p1 p2 l3 μ R J2) : V X 2 [some (.ref 59), some (.int p1), some (.int p2), some (.int l3)] [] μ := by
  have hX := hO.1
  unfold vc_X1_firstOfBest_2 at h
  refine v_iload_n hX dX1_firstOfBest_2 rfl (?_ : V X 3 [some (.ref 59), some (.int p1), some (.int p2), some (.int l3)] [.int l3] μ)
  refine v_aload_n hX dX1_firstOfBest_3 rfl (?_ : V X 4 [some (.ref 59), some (.int p1), some (.int p2), some (.int l3)] [.ref 59, .int l3] μ)
  refine v_geti hX fk_X1_30 sh_59 rfl dX1_firstOfBest_4 (?_ : V X 7 [some (.ref 59), some (.int p1), some (.int p2), some (.int l3)] [.int (gi μ 59 2), .int l3] μ)
  refine v_icmp_ge hX 38 dX1_firstOfBest_7 rfl (fun c1 => ?_) (fun c1 => ?_)
  · replace h := h.1 c1
    refine v_iconst hX 0 dX1_firstOfBest_38 rfl (?_ : V X 39 [some (.ref 59), some (.int p1), some (.int p2), some (.int l3)] [.int 0] μ)
    exact v_iret hO dX1_firstOfBest_39 (hR _ _ h)
  · replace h := h.2 c1
    refine v_aload_n hX dX1_firstOfBest_10 rfl (?_ : V X 11 [some (.ref 59), some (.int p1), some (.int p2), some (.int l3)] [.ref 59] μ)
    refine v_iload_n hX dX1_firstOfBest_11 rfl (?_ : V X 12 [some (.ref 59), some (.int p1), some (.int p2), some (.int l3)] [.int p1, .ref 59] μ)
    refine v_iload_n hX dX1_firstOfBest_12 rfl (?_ : V X 13 [some (.ref 59), some (.int p1), some (.int p2), some (.int l3)] [.int p2, .int p1, .ref 59] μ)
    refine v_iload_n hX dX1_firstOfBest_13 rfl (?_ : V X 14 [some (.ref 59), some (.int p1), some (.int p2), some (.int l3)] [.int l3, .int p2, .int p1, .ref 59] μ)
    refine v_callV hX sp_X1_costThrough ck_X1_costThrough mk_X1_71 mv_X1_costThrough sh_59 (by decide) (by decide) [.int p1, .int p2, .int l3] [] rfl rfl (Nat.le_of_ble_eq_true rfl) dX1_firstOfBest_14 ⟨p1, p2, l3, rfl, h.1, fun x2 μ3 hp4 => (?_ : V X 17 [some (.ref 59), some (.int p1), some (.int p2), some (.int l3)] [.int x2] μ3)⟩
    replace h := h.2 x2 μ3 hp4
    refine v_aload_n hX dX1_firstOfBest_17 rfl (?_ : V X 18 [some (.ref 59), some (.int p1), some (.int p2), some (.int l3)] [.ref 59, .int x2] μ3)
    refine v_getr hX (60) fk_X1_11 sh_59 rfl rfl dX1_firstOfBest_18 (?_ : V X 21 [some (.ref 59), some (.int p1), some (.int p2), some (.int l3)] [.ref 60, .int x2] μ3)
    refine v_iload_n hX dX1_firstOfBest_21 rfl (?_ : V X 22 [some (.ref 59), some (.int p1), some (.int p2), some (.int l3)] [.int p1, .ref 60, .int x2] μ3)
    refine v_iload_n hX dX1_firstOfBest_22 rfl (?_ : V X 23 [some (.ref 59), some (.int p1), some (.int p2), some (.int l3)] [.int p2, .int p1, .ref 60, .int x2] μ3)
    refine v_callS hX sp_X1_indexOf ck_X1_indexOf mk_X1_68 sk_X1_indexOf (by decide) [.int p1, .int p2] [.ref 60, .int x2] rfl rfl (Nat.le_of_ble_eq_true rfl) dX1_firstOfBest_23 ⟨p1, p2, rfl, h.1, fun x5 μ6 hp7 => (?_ : V X 26 [some (.ref 59), some (.int p1), some (.int p2), some (.int l3)] [.int x5, .ref 60, .int x2] μ6)⟩
    replace h := h.2 x5 μ6 hp7
    have hb8 := h.1
    replace h := h.2
    refine w_iald hX (Int32.toNatClampNeg x5) sh_60 hb8 rfl dX1_firstOfBest_26 (?_ : V X 27 [some (.ref 59), some (.int p1), some (.int p2), some (.int l3)] [.int (gi μ6 60 (Int32.toNatClampNeg x5)), .int x2] μ6)
    refine v_icmp_ne hX 32 dX1_firstOfBest_27 rfl (fun c9 => ?_) (fun c9 => ?_)
    · replace h := h.1 c9
      refine v_iinc hX 1 dX1_firstOfBest_32 (by rw [hn]; decide) rfl rfl (?_ : V X 35 [some (.ref 59), some (.int p1), some (.int p2), some (.int (l3 + 1))] [] μ6)
      refine v_goto hX 2 dX1_firstOfBest_35 rfl (?_ : V X 2 [some (.ref 59), some (.int p1), some (.int p2), some (.int (l3 + 1))] [] μ6)
      exact v_mask [true, true, true, true] (hJ2 _ _ h)
    · replace h := h.2 c9
      refine v_iload_n hX dX1_firstOfBest_30 rfl (?_ : V X 31 [some (.ref 59), some (.int p1), some (.int p2), some (.int l3)] [.int l3] μ6)
      exact v_iret hO dX1_firstOfBest_31 (hR _ _ h)
set_option maxRecDepth 20000 in
set_option maxHeartbeats 4000000 in
theorem vp_X1_firstOfBest_0 (p1 : Int32) (p2 : Int32)  (μ : Mem) (hpre : pre_X1_firstOfBest p1 p2 μ) : vc_X1_firstOfBest_0 p1 p2 μ (post_X1_firstOfBest p1 p2 μ) (fun l3 m => ∃ k : Nat, inv_X1_firstOfBest_2 p1 p2 μ k l3 m) := by
  simp only [vc_X1_firstOfBest_0, pre_X1_costThrough, pre_X1_indexOf, post_X1_costThrough, post_X1_indexOf, and_imp, call_eq, forall_eq, forall_const, true_and, and_true]
  exact ⟨gn μ 59 2, 0, Nat.zero_le _, rfl, rfl, rfl, rfl⟩
set_option maxRecDepth 20000 in
set_option maxHeartbeats 4000000 in
theorem vp_X1_firstOfBest_2 (p1 : Int32) (p2 : Int32)  (μ : Mem) (hpre : pre_X1_firstOfBest p1 p2 μ) (n : Nat) (l3 : Int32) (μ0 : Mem) (hi : inv_X1_firstOfBest_2 p1 p2 μ n l3 μ0) : vc_X1_firstOfBest_2 p1 p2 l3 μ0 (post_X1_firstOfBest p1 p2 μ) (fun l3 m => ∃ k : Nat, k < n ∧ inv_X1_firstOfBest_2 p1 p2 μ k l3 m) := by
  simp only [vc_X1_firstOfBest_2, pre_X1_costThrough, pre_X1_indexOf, post_X1_costThrough, post_X1_indexOf, and_imp, call_eq, forall_eq, forall_const, true_and, and_true]
  obtain ⟨e1, b1, e2, b2, hT⟩ := hpre
  obtain ⟨i, hi1, rfl, rfl, rfl, hv⟩ := hi
  have hT0 := hT
  obtain ⟨T1, T2, T3⟩ := hT
  have hD := T1.2
  generalize hf : p1.toNatClampNeg = f at *
  generalize hl : p2.toNatClampNeg = l at *
  subst e1; subst e2
  have ei : nI f * 6 + nI l = nI (f * 6 + l) := by rw [show (6 : Int32) = nI 6 from rfl, pk_mul, nI_add]
  have ci : (nI (f * 6 + l)).toNatClampNeg = f * 6 + l := nI_clamp (by omega)
  have cd : (nI i).toNatClampNeg = i := nI_clamp (by omega)
  rw [isN_le T1 (by omega) (by omega), ei, ci]
  refine ⟨fun c => ?_, fun c => ⟨⟨by first | rfl | rw [hf], by first | exact b1 | (rw [hf]; exact b1), by first | rfl | rw [hl], by first | exact b2 | (rw [hl]; exact b2), by first | rfl | rw [cd], by first | omega | (rw [cd]; omega), hT0⟩, vp_in_nI (by omega) (by omega), ?_⟩⟩
  · have : i = gn μ0 59 2 := by omega
    rw [this, Nat.sub_self] at hv
    unfold post_X1_firstOfBest
    rw [hf, hl, hv]; exact ⟨rfl, rfl⟩
  · obtain ⟨q1, q2⟩ := T3 (f * 6 + l) (by omega)
    have w2 := (T2 i (by omega)).2.2
    obtain ⟨s, hs⟩ : ∃ s, gn μ0 59 2 - i = s + 1 := ⟨gn μ0 59 2 - i - 1, by omega⟩
    have hsi : gn μ0 59 2 - (s + 1) = i := by omega
    rw [hs] at hv
    have hv2 : fbC 1000000000 (gn μ0 62) (gn μ0 63) (cC μ0) (gn μ0 59 2) f l = if tXf 1000000000 (gn μ0 62) (gn μ0 63) (cC μ0) f l i = cC μ0 f l then i else fbN (tXf 1000000000 (gn μ0 62) (gn μ0 63) (cC μ0) f l) (cC μ0 f l) (gn μ0 59 2) s := by
      rw [hv]; show (if _ = _ then _ else _) = _; rw [hsi]
    try rw [cd]
    have htxb : tXf 1000000000 (gn μ0 62) (gn μ0 63) (cC μ0) f l i ≤ 2000000000 := by
      unfold tXf
      have : cC μ0 (f - lsN (gn μ0 62) l i) i ≤ 1000000000 := (T3 _ (by omega)).2
      split
      · omega
      · split <;> omega
    rw [q1, nI_eq (by omega) (by omega)]
    refine ⟨fun c2 => ⟨gn μ0 59 2 - (i + 1), by omega, i + 1, by omega, rfl, nI_1 i, rfl, ?_⟩, fun c2 => ?_⟩
    · have c3 : ¬ tXf 1000000000 (gn μ0 62) (gn μ0 63) (cC μ0) f l i = cC μ0 f l := c2
      rw [hf, hl, hv2, if_neg c3, show gn μ0 59 2 - (i + 1) = s from by omega]
    · have c3 : tXf 1000000000 (gn μ0 62) (gn μ0 63) (cC μ0) f l i = cC μ0 f l := c2
      unfold post_X1_firstOfBest
      rw [hf, hl, hv2, if_pos c3]; exact ⟨rfl, rfl⟩
theorem sp_X1_firstOfBest : Sp yX1_firstOfBest cX1_firstOfBest 4 (some .int) 2 S_X1_firstOfBest := by
  refine sp_of (by decide) (fun av μ P h => ?_) ?_
  · obtain ⟨p1, p2, rfl, -⟩ := h
    refine ⟨Nat.le_of_ble_eq_true rfl, fun v hv => ?_⟩
    simp only [List.mem_cons, List.not_mem_nil, or_false] at hv
    rcases hv with rfl | rfl | rfl <;> rfl
  · rintro X P hO _ μ ⟨p1, p2, rfl, hpre, hpost⟩ hn
    have hJ : ∀ n : Nat, (∀ (l3 : Int32) (m : Mem), inv_X1_firstOfBest_2 p1 p2 μ n l3 m → V X 2 [some (.ref 59), some (.int p1), some (.int p2), some (.int l3)] [] m) := by
      intro n
      induction n using Nat.strongRecOn with
      | _ n ih =>
        exact fun l3 m hi => wk_X1_firstOfBest_2 (J2 := (fun l3 m => ∃ k : Nat, k < n ∧ inv_X1_firstOfBest_2 p1 p2 μ k l3 m)) hO hn p1 p2  l3 m hpost (fun l3 m hk => by obtain ⟨k, hk, hi⟩ := hk; exact (ih k hk) l3 m hi) (vp_X1_firstOfBest_2 p1 p2  μ hpre n l3 m hi)
    exact wk_X1_firstOfBest_0 (J2 := (fun l3 m => ∃ k : Nat, inv_X1_firstOfBest_2 p1 p2 μ k l3 m)) hO hn p1 p2  μ hpost (fun l3 m hk => by obtain ⟨k, hi⟩ := hk; exact (hJ k) l3 m hi) (vp_X1_firstOfBest_0 p1 p2  μ hpre)
theorem fb_spec (t : Nat → Nat) (v D : Nat) : ∀ n, n ≤ D → (∃ d, D - n ≤ d ∧ d < D ∧ t d = v) → fbN t v D n < D ∧ t (fbN t v D n) = v := by
  intro n
  induction n with
  | zero => intro _ ⟨d, h1, h2, _⟩; omega
  | succ n ih =>
    intro hn ⟨d, h1, h2, h3⟩
    rw [fbN]
    split
    · rename_i q; exact ⟨by omega, q⟩
    · rename_i q
      refine ih (by omega) ⟨d, ?_, h2, h3⟩
      rcases Nat.lt_or_ge d (D - n) with z | z
      · have : d = D - (n + 1) := by omega
        rw [this] at h3; exact absurd h3 q
      · exact z
theorem step_fb {NV D : Nat} {full tk : Nat → Nat} {F : Nat} {c : Nat → Nat → Nat} (h : Bell NV D full tk F c) {f l : Nat} (hf : f ≤ F) (hl : l < 6) (hn : c f l < NV) :
    fbC NV full tk c D f l < D ∧ ((f < lsN full l (fbC NV full tk c D f l) ∧ c f l = tk (fbC NV full tk c D f l) * 1000 + 1) ∨ (lsN full l (fbC NV full tk c D f l) ≤ f ∧ c (f - lsN full l (fbC NV full tk c D f l)) (fbC NV full tk c D f l) < NV ∧ c f l = tk (fbC NV full tk c D f l) * 1000 + 1 + c (f - lsN full l (fbC NV full tk c D f l)) (fbC NV full tk c D f l))) := by
  obtain ⟨d, hd, q⟩ := bell_eq h hf hl hn
  have hx : tXf NV full tk c f l d = c f l := by
    rw [thr_self] at q
    unfold tXf
    split at q
    · rename_i z; rw [if_pos z]; exact q
    · rename_i z; rw [if_neg z, if_neg (by omega)]; omega
  obtain ⟨h1, h2⟩ := fb_spec (tXf NV full tk c f l) (c f l) D D (Nat.le_refl _) ⟨d, by omega, hd, hx⟩
  have e : fbN (tXf NV full tk c f l) (c f l) D D = fbC NV full tk c D f l := rfl
  rw [e] at h1 h2
  refine ⟨h1, ?_⟩
  unfold tXf at h2
  split at h2
  · rename_i z; exact Or.inl ⟨z, h2.symm⟩
  · rename_i z
    split at h2
    · omega
    · rename_i y; exact Or.inr ⟨by omega, by omega, h2.symm⟩
theorem step_cnt {NV D : Nat} {full tk : Nat → Nat} {F : Nat} {c : Nat → Nat → Nat} (hD : D ≤ 5) (htk : ∀ d, d < D → tk d ≤ 30) (hF : F ≤ 30) (h : Bell NV D full tk F c) {f l : Nat} (hf : f ≤ F) (hl : l < 6) (hn : c f l < NV) :
    (f < lsN full l (fbC NV full tk c D f l) ∧ c f l % 1000 = 1) ∨ (lsN full l (fbC NV full tk c D f l) ≤ f ∧ c (f - lsN full l (fbC NV full tk c D f l)) (fbC NV full tk c D f l) < NV ∧ c f l % 1000 = 1 + c (f - lsN full l (fbC NV full tk c D f l)) (fbC NV full tk c D f l) % 1000 ∧ 1 ≤ c (f - lsN full l (fbC NV full tk c D f l)) (fbC NV full tk c D f l) % 1000) := by
  obtain ⟨h1, h2 | ⟨h2, h3, h4⟩⟩ := step_fb h hf hl hn
  · left; exact ⟨h2.1, by omega⟩
  · right
    obtain ⟨M, N, e1, e2, e3, e4⟩ := bell_small hD htk h _ (f - lsN full l (fbC NV full tk c D f l)) (fbC NV full tk c D f l) (Nat.le_refl _) (by omega) (by omega) h3
    exact ⟨h2, h3, by omega, by omega⟩
def S_X1_doingAt : Tr := fun av μ P => ∃ (p1 : Int32), av = [.ref 59, .int p1] ∧ pre_X1_doingAt p1 μ ∧ ∀ (x : Int32) (m : Mem), post_X1_doingAt p1 μ x m → P (some (.int x)) m
def vc_X1_doingAt_0 (p1 : Int32)  (μ : Mem) (R : Int32 → Mem → Prop) (J28 : Int32 → Int32 → Int32 → Mem → Prop) : Prop :=
  ((p1 < 0 → R ((-5)) μ) ∧ (¬ p1 < 0 → (pre_X1_doingsNeeded  μ ∧ ∀ (x2 : Int32) (μ3 : Mem), post_X1_doingsNeeded  μ x2 μ3 → ((p1 < x2 → J28 (gi μ3 59 5) (gi μ3 59 6) 0 μ3) ∧ (¬ p1 < x2 → R ((-5)) μ3)))))
set_option maxRecDepth 20000 in
set_option maxHeartbeats 4000000 in
theorem wk_X1_doingAt_0 {X : XT} {P : Post} (hO : OkM X cX1_doingAt RX1 3 (some .int) P) (hn : xn X = 6) (p1 : Int32)   (μ : Mem) {R : Int32 → Mem → Prop} (hR : ∀ x m, R x m → P (some (.int x)) m) {J28 : Int32 → Int32 → Int32 → Mem → Prop} (hJ28 : ∀ (l2 : Int32) (l3 : Int32) (l4 : Int32) (m : Mem), J28 l2 l3 l4 m → V X 28 [some (.ref 59), some (.int p1), some (.int l2), some (.int l3), some (.int l4), none] [] m)  (h : vc_X1_doingAt_0 p1  μ R J28) : V X 0 [some (.ref 59), some (.int p1), none, none, none, none] [] μ := by
  have hX := hO.1
  unfold vc_X1_doingAt_0 at h
  refine v_iload_n hX dX1_doingAt_0 rfl (?_ : V X 1 [some (.ref 59), some (.int p1), none, none, none, none] [.int p1] μ)
  refine v_if_lt hX 12 dX1_doingAt_1 rfl (fun c1 => ?_) (fun c1 => ?_)
  · replace h := h.1 c1
    refine v_bipush hX (-5) dX1_doingAt_12 rfl (?_ : V X 14 [some (.ref 59), some (.int p1), none, none, none, none] [.int ((-5))] μ)
    exact v_iret hO dX1_doingAt_14 (hR _ _ h)
  · replace h := h.2 c1
    refine v_iload_n hX dX1_doingAt_4 rfl (?_ : V X 5 [some (.ref 59), some (.int p1), none, none, none, none] [.int p1] μ)
    refine v_aload_n hX dX1_doingAt_5 rfl (?_ : V X 6 [some (.ref 59), some (.int p1), none, none, none, none] [.ref 59, .int p1] μ)
    refine v_callV hX sp_X1_doingsNeeded ck_X1_doingsNeeded mk_X1_83 mv_X1_doingsNeeded sh_59 (by decide) (by decide) [] [.int p1] rfl rfl (Nat.le_of_ble_eq_true rfl) dX1_doingAt_6 ⟨rfl, h.1, fun x2 μ3 hp4 => (?_ : V X 9 [some (.ref 59), some (.int p1), none, none, none, none] [.int x2, .int p1] μ3)⟩
    replace h := h.2 x2 μ3 hp4
    refine v_icmp_lt hX 15 dX1_doingAt_9 rfl (fun c5 => ?_) (fun c5 => ?_)
    · replace h := h.1 c5
      refine v_aload_n hX dX1_doingAt_15 rfl (?_ : V X 16 [some (.ref 59), some (.int p1), none, none, none, none] [.ref 59] μ3)
      refine v_geti hX fk_X1_49 sh_59 rfl dX1_doingAt_16 (?_ : V X 19 [some (.ref 59), some (.int p1), none, none, none, none] [.int (gi μ3 59 5)] μ3)
      refine v_istore_n hX dX1_doingAt_19 (by rw [hn]; decide) (?_ : V X 20 [some (.ref 59), some (.int p1), some (.int (gi μ3 59 5)), none, none, none] [] μ3)
      refine v_aload_n hX dX1_doingAt_20 rfl (?_ : V X 21 [some (.ref 59), some (.int p1), some (.int (gi μ3 59 5)), none, none, none] [.ref 59] μ3)
      refine v_geti hX fk_X1_54 sh_59 rfl dX1_doingAt_21 (?_ : V X 24 [some (.ref 59), some (.int p1), some (.int (gi μ3 59 5)), none, none, none] [.int (gi μ3 59 6)] μ3)
      refine v_istore_n hX dX1_doingAt_24 (by rw [hn]; decide) (?_ : V X 25 [some (.ref 59), some (.int p1), some (.int (gi μ3 59 5)), some (.int (gi μ3 59 6)), none, none] [] μ3)
      refine v_iconst hX 0 dX1_doingAt_25 rfl (?_ : V X 26 [some (.ref 59), some (.int p1), some (.int (gi μ3 59 5)), some (.int (gi μ3 59 6)), none, none] [.int 0] μ3)
      refine v_istore hX dX1_doingAt_26 (by rw [hn]; decide) (?_ : V X 28 [some (.ref 59), some (.int p1), some (.int (gi μ3 59 5)), some (.int (gi μ3 59 6)), some (.int 0), none] [] μ3)
      exact v_mask [true, true, true, true, true, false] (hJ28 _ _ _ _ h)
    · replace h := h.2 c5
      refine v_bipush hX (-5) dX1_doingAt_12 rfl (?_ : V X 14 [some (.ref 59), some (.int p1), none, none, none, none] [.int ((-5))] μ3)
      exact v_iret hO dX1_doingAt_14 (hR _ _ h)
def vc_X1_doingAt_28 (p1 : Int32) (l2 : Int32) (l3 : Int32) (l4 : Int32) (μ : Mem) (R : Int32 → Mem → Prop) (J28 : Int32 → Int32 → Int32 → Mem → Prop) : Prop :=
  ((p1 ≤ l4 → ((0 ≤ l2 → (pre_X1_firstOfBest l2 l3 μ ∧ ∀ (x3 : Int32) (μ4 : Mem), post_X1_firstOfBest l2 l3 μ x3 μ4 → R x3 μ4)) ∧ (¬ 0 ≤ l2 → R ((-5)) μ))) ∧ (¬ p1 ≤ l4 → ((l2 < 0 → ((0 ≤ l2 → (pre_X1_firstOfBest l2 l3 μ ∧ ∀ (x8 : Int32) (μ9 : Mem), post_X1_firstOfBest l2 l3 μ x8 μ9 → R x8 μ9)) ∧ (¬ 0 ≤ l2 → R ((-5)) μ))) ∧ (¬ l2 < 0 → (pre_X1_firstOfBest l2 l3 μ ∧ ∀ (x11 : Int32) (μ12 : Mem), post_X1_firstOfBest l2 l3 μ x11 μ12 → vp_in x11 5 ∧ ((¬ l3 = x11 → (pre_X8_lossOf (gi μ12 62 (Int32.toNatClampNeg x11)) 0 μ12 ∧ ∀ (x16 : Int32) (μ17 : Mem), post_X8_lossOf (gi μ12 62 (Int32.toNatClampNeg x11)) 0 μ12 x16 μ17 → J28 (l2 - x16) x11 (l4 + 1) μ17)) ∧ (l3 = x11 → (pre_X8_lossOf (gi μ12 62 (Int32.toNatClampNeg x11)) 1 μ12 ∧ ∀ (x19 : Int32) (μ20 : Mem), post_X8_lossOf (gi μ12 62 (Int32.toNatClampNeg x11)) 1 μ12 x19 μ20 → J28 (l2 - x19) x11 (l4 + 1) μ20))))))))
set_option maxRecDepth 20000 in
set_option maxHeartbeats 4000000 in
theorem wk_X1_doingAt_28 {X : XT} {P : Post} (hO : OkM X cX1_doingAt RX1 3 (some .int) P) (hn : xn X = 6) (p1 : Int32)  (l2 : Int32) (l3 : Int32) (l4 : Int32) (μ : Mem) {R : Int32 → Mem → Prop} (hR : ∀ x m, R x m → P (some (.int x)) m) {J28 : Int32 → Int32 → Int32 → Mem → Prop} (hJ28 : ∀ (l2 : Int32) (l3 : Int32) (l4 : Int32) (m : Mem), J28 l2 l3 l4 m → V X 28 [some (.ref 59), some (.int p1), some (.int l2), some (.int l3), some (.int l4), none] [] m)  (h : vc_X1_doingAt_28 p1 l2 l3 l4 μ R J28) : V X 28 [some (.ref 59), some (.int p1), some (.int l2), some (.int l3), some (.int l4), none] [] μ := by
  have hX := hO.1
  unfold vc_X1_doingAt_28 at h
  refine v_iload hX dX1_doingAt_28 rfl (?_ : V X 30 [some (.ref 59), some (.int p1), some (.int l2), some (.int l3), some (.int l4), none] [.int l4] μ)
  refine v_iload_n hX dX1_doingAt_30 rfl (?_ : V X 31 [some (.ref 59), some (.int p1), some (.int l2), some (.int l3), some (.int l4), none] [.int p1, .int l4] μ)
  refine v_icmp_ge hX 79 dX1_doingAt_31 rfl (fun c1 => ?_) (fun c1 => ?_)
  · replace h := h.1 c1
    refine v_iload_n hX dX1_doingAt_79 rfl (?_ : V X 80 [some (.ref 59), some (.int p1), some (.int l2), some (.int l3), some (.int l4), none] [.int l2] μ)
    refine v_if_ge hX 88 dX1_doingAt_80 rfl (fun c2 => ?_) (fun c2 => ?_)
    · replace h := h.1 c2
      refine v_aload_n hX dX1_doingAt_88 rfl (?_ : V X 89 [some (.ref 59), some (.int p1), some (.int l2), some (.int l3), some (.int l4), none] [.ref 59] μ)
      refine v_iload_n hX dX1_doingAt_89 rfl (?_ : V X 90 [some (.ref 59), some (.int p1), some (.int l2), some (.int l3), some (.int l4), none] [.int l2, .ref 59] μ)
      refine v_iload_n hX dX1_doingAt_90 rfl (?_ : V X 91 [some (.ref 59), some (.int p1), some (.int l2), some (.int l3), some (.int l4), none] [.int l3, .int l2, .ref 59] μ)
      refine v_callV hX sp_X1_firstOfBest ck_X1_firstOfBest mk_X1_86 mv_X1_firstOfBest sh_59 (by decide) (by decide) [.int l2, .int l3] [] rfl rfl (Nat.le_of_ble_eq_true rfl) dX1_doingAt_91 ⟨l2, l3, rfl, h.1, fun x3 μ4 hp5 => (?_ : V X 94 [some (.ref 59), some (.int p1), some (.int l2), some (.int l3), some (.int l4), none] [.int x3] μ4)⟩
      replace h := h.2 x3 μ4 hp5
      exact v_iret hO dX1_doingAt_94 (hR _ _ h)
    · replace h := h.2 c2
      refine v_bipush hX (-5) dX1_doingAt_83 rfl (?_ : V X 85 [some (.ref 59), some (.int p1), some (.int l2), some (.int l3), some (.int l4), none] [.int ((-5))] μ)
      refine v_goto hX 94 dX1_doingAt_85 rfl (?_ : V X 94 [some (.ref 59), some (.int p1), some (.int l2), some (.int l3), some (.int l4), none] [.int ((-5))] μ)
      exact v_iret hO dX1_doingAt_94 (hR _ _ h)
  · replace h := h.2 c1
    refine v_iload_n hX dX1_doingAt_34 rfl (?_ : V X 35 [some (.ref 59), some (.int p1), some (.int l2), some (.int l3), some (.int l4), none] [.int l2] μ)
    refine v_if_lt hX 79 dX1_doingAt_35 rfl (fun c6 => ?_) (fun c6 => ?_)
    · replace h := h.1 c6
      refine v_iload_n hX dX1_doingAt_79 rfl (?_ : V X 80 [some (.ref 59), some (.int p1), some (.int l2), some (.int l3), some (.int l4), none] [.int l2] μ)
      refine v_if_ge hX 88 dX1_doingAt_80 rfl (fun c7 => ?_) (fun c7 => ?_)
      · replace h := h.1 c7
        refine v_aload_n hX dX1_doingAt_88 rfl (?_ : V X 89 [some (.ref 59), some (.int p1), some (.int l2), some (.int l3), some (.int l4), none] [.ref 59] μ)
        refine v_iload_n hX dX1_doingAt_89 rfl (?_ : V X 90 [some (.ref 59), some (.int p1), some (.int l2), some (.int l3), some (.int l4), none] [.int l2, .ref 59] μ)
        refine v_iload_n hX dX1_doingAt_90 rfl (?_ : V X 91 [some (.ref 59), some (.int p1), some (.int l2), some (.int l3), some (.int l4), none] [.int l3, .int l2, .ref 59] μ)
        refine v_callV hX sp_X1_firstOfBest ck_X1_firstOfBest mk_X1_86 mv_X1_firstOfBest sh_59 (by decide) (by decide) [.int l2, .int l3] [] rfl rfl (Nat.le_of_ble_eq_true rfl) dX1_doingAt_91 ⟨l2, l3, rfl, h.1, fun x8 μ9 hp10 => (?_ : V X 94 [some (.ref 59), some (.int p1), some (.int l2), some (.int l3), some (.int l4), none] [.int x8] μ9)⟩
        replace h := h.2 x8 μ9 hp10
        exact v_iret hO dX1_doingAt_94 (hR _ _ h)
      · replace h := h.2 c7
        refine v_bipush hX (-5) dX1_doingAt_83 rfl (?_ : V X 85 [some (.ref 59), some (.int p1), some (.int l2), some (.int l3), some (.int l4), none] [.int ((-5))] μ)
        refine v_goto hX 94 dX1_doingAt_85 rfl (?_ : V X 94 [some (.ref 59), some (.int p1), some (.int l2), some (.int l3), some (.int l4), none] [.int ((-5))] μ)
        exact v_iret hO dX1_doingAt_94 (hR _ _ h)
    · replace h := h.2 c6
      refine v_aload_n hX dX1_doingAt_38 rfl (?_ : V X 39 [some (.ref 59), some (.int p1), some (.int l2), some (.int l3), some (.int l4), none] [.ref 59] μ)
      refine v_iload_n hX dX1_doingAt_39 rfl (?_ : V X 40 [some (.ref 59), some (.int p1), some (.int l2), some (.int l3), some (.int l4), none] [.int l2, .ref 59] μ)
      refine v_iload_n hX dX1_doingAt_40 rfl (?_ : V X 41 [some (.ref 59), some (.int p1), some (.int l2), some (.int l3), some (.int l4), none] [.int l3, .int l2, .ref 59] μ)
      refine v_callV hX sp_X1_firstOfBest ck_X1_firstOfBest mk_X1_86 mv_X1_firstOfBest sh_59 (by decide) (by decide) [.int l2, .int l3] [] rfl rfl (Nat.le_of_ble_eq_true rfl) dX1_doingAt_41 ⟨l2, l3, rfl, h.1, fun x11 μ12 hp13 => (?_ : V X 44 [some (.ref 59), some (.int p1), some (.int l2), some (.int l3), some (.int l4), none] [.int x11] μ12)⟩
      replace h := h.2 x11 μ12 hp13
      refine v_istore hX dX1_doingAt_44 (by rw [hn]; decide) (?_ : V X 46 [some (.ref 59), some (.int p1), some (.int l2), some (.int l3), some (.int l4), some (.int x11)] [] μ12)
      refine v_iload_n hX dX1_doingAt_46 rfl (?_ : V X 47 [some (.ref 59), some (.int p1), some (.int l2), some (.int l3), some (.int l4), some (.int x11)] [.int l2] μ12)
      refine v_aload_n hX dX1_doingAt_47 rfl (?_ : V X 48 [some (.ref 59), some (.int p1), some (.int l2), some (.int l3), some (.int l4), some (.int x11)] [.ref 59, .int l2] μ12)
      refine v_getr hX (62) fk_X1_18 sh_59 rfl rfl dX1_doingAt_48 (?_ : V X 51 [some (.ref 59), some (.int p1), some (.int l2), some (.int l3), some (.int l4), some (.int x11)] [.ref 62, .int l2] μ12)
      refine v_iload hX dX1_doingAt_51 rfl (?_ : V X 53 [some (.ref 59), some (.int p1), some (.int l2), some (.int l3), some (.int l4), some (.int x11)] [.int x11, .ref 62, .int l2] μ12)
      have hb14 := h.1
      replace h := h.2
      refine w_iald hX (Int32.toNatClampNeg x11) sh_62 hb14 rfl dX1_doingAt_53 (?_ : V X 54 [some (.ref 59), some (.int p1), some (.int l2), some (.int l3), some (.int l4), some (.int x11)] [.int (gi μ12 62 (Int32.toNatClampNeg x11)), .int l2] μ12)
      refine v_iload_n hX dX1_doingAt_54 rfl (?_ : V X 55 [some (.ref 59), some (.int p1), some (.int l2), some (.int l3), some (.int l4), some (.int x11)] [.int l3, .int (gi μ12 62 (Int32.toNatClampNeg x11)), .int l2] μ12)
      refine v_iload hX dX1_doingAt_55 rfl (?_ : V X 57 [some (.ref 59), some (.int p1), some (.int l2), some (.int l3), some (.int l4), some (.int x11)] [.int x11, .int l3, .int (gi μ12 62 (Int32.toNatClampNeg x11)), .int l2] μ12)
      refine v_icmp_ne hX 64 dX1_doingAt_57 rfl (fun c15 => ?_) (fun c15 => ?_)
      · replace h := h.1 c15
        refine v_iconst hX 0 dX1_doingAt_64 rfl (?_ : V X 65 [some (.ref 59), some (.int p1), some (.int l2), some (.int l3), some (.int l4), some (.int x11)] [.int 0, .int (gi μ12 62 (Int32.toNatClampNeg x11)), .int l2] μ12)
        refine v_callN hX sp_X8_lossOf ck_X8_lossOf hX.2.2.2.2.2.1.2.2.2.2.2.2 (mtb 1 (by decide +kernel) (by decide +kernel)) sk_X8_lossOf lossMd (by decide) [.int (gi μ12 62 (Int32.toNatClampNeg x11)), .int 0] [.int l2] rfl rfl (Nat.le_of_ble_eq_true rfl) dX1_doingAt_65 ⟨(gi μ12 62 (Int32.toNatClampNeg x11)), 0, rfl, h.1, fun x16 μ17 hp18 => (?_ : V X 68 [some (.ref 59), some (.int p1), some (.int l2), some (.int l3), some (.int l4), some (.int x11)] [.int x16, .int l2] μ17)⟩
        replace h := h.2 x16 μ17 hp18
        refine v_isub hX dX1_doingAt_68 (?_ : V X 69 [some (.ref 59), some (.int p1), some (.int l2), some (.int l3), some (.int l4), some (.int x11)] [.int (l2 - x16)] μ17)
        refine v_istore_n hX dX1_doingAt_69 (by rw [hn]; decide) (?_ : V X 70 [some (.ref 59), some (.int p1), some (.int (l2 - x16)), some (.int l3), some (.int l4), some (.int x11)] [] μ17)
        refine v_iload hX dX1_doingAt_70 rfl (?_ : V X 72 [some (.ref 59), some (.int p1), some (.int (l2 - x16)), some (.int l3), some (.int l4), some (.int x11)] [.int x11] μ17)
        refine v_istore_n hX dX1_doingAt_72 (by rw [hn]; decide) (?_ : V X 73 [some (.ref 59), some (.int p1), some (.int (l2 - x16)), some (.int x11), some (.int l4), some (.int x11)] [] μ17)
        refine v_iinc hX 1 dX1_doingAt_73 (by rw [hn]; decide) rfl rfl (?_ : V X 76 [some (.ref 59), some (.int p1), some (.int (l2 - x16)), some (.int x11), some (.int (l4 + 1)), some (.int x11)] [] μ17)
        refine v_goto hX 28 dX1_doingAt_76 rfl (?_ : V X 28 [some (.ref 59), some (.int p1), some (.int (l2 - x16)), some (.int x11), some (.int (l4 + 1)), some (.int x11)] [] μ17)
        exact v_mask [true, true, true, true, true, false] (hJ28 _ _ _ _ h)
      · replace h := h.2 c15
        refine v_iconst hX 1 dX1_doingAt_60 rfl (?_ : V X 61 [some (.ref 59), some (.int p1), some (.int l2), some (.int l3), some (.int l4), some (.int x11)] [.int 1, .int (gi μ12 62 (Int32.toNatClampNeg x11)), .int l2] μ12)
        refine v_goto hX 65 dX1_doingAt_61 rfl (?_ : V X 65 [some (.ref 59), some (.int p1), some (.int l2), some (.int l3), some (.int l4), some (.int x11)] [.int 1, .int (gi μ12 62 (Int32.toNatClampNeg x11)), .int l2] μ12)
        refine v_callN hX sp_X8_lossOf ck_X8_lossOf hX.2.2.2.2.2.1.2.2.2.2.2.2 (mtb 1 (by decide +kernel) (by decide +kernel)) sk_X8_lossOf lossMd (by decide) [.int (gi μ12 62 (Int32.toNatClampNeg x11)), .int 1] [.int l2] rfl rfl (Nat.le_of_ble_eq_true rfl) dX1_doingAt_65 ⟨(gi μ12 62 (Int32.toNatClampNeg x11)), 1, rfl, h.1, fun x19 μ20 hp21 => (?_ : V X 68 [some (.ref 59), some (.int p1), some (.int l2), some (.int l3), some (.int l4), some (.int x11)] [.int x19, .int l2] μ20)⟩
        replace h := h.2 x19 μ20 hp21
        refine v_isub hX dX1_doingAt_68 (?_ : V X 69 [some (.ref 59), some (.int p1), some (.int l2), some (.int l3), some (.int l4), some (.int x11)] [.int (l2 - x19)] μ20)
        refine v_istore_n hX dX1_doingAt_69 (by rw [hn]; decide) (?_ : V X 70 [some (.ref 59), some (.int p1), some (.int (l2 - x19)), some (.int l3), some (.int l4), some (.int x11)] [] μ20)
        refine v_iload hX dX1_doingAt_70 rfl (?_ : V X 72 [some (.ref 59), some (.int p1), some (.int (l2 - x19)), some (.int l3), some (.int l4), some (.int x11)] [.int x11] μ20)
        refine v_istore_n hX dX1_doingAt_72 (by rw [hn]; decide) (?_ : V X 73 [some (.ref 59), some (.int p1), some (.int (l2 - x19)), some (.int x11), some (.int l4), some (.int x11)] [] μ20)
        refine v_iinc hX 1 dX1_doingAt_73 (by rw [hn]; decide) rfl rfl (?_ : V X 76 [some (.ref 59), some (.int p1), some (.int (l2 - x19)), some (.int x11), some (.int (l4 + 1)), some (.int x11)] [] μ20)
        refine v_goto hX 28 dX1_doingAt_76 rfl (?_ : V X 28 [some (.ref 59), some (.int p1), some (.int (l2 - x19)), some (.int x11), some (.int (l4 + 1)), some (.int x11)] [] μ20)
        exact v_mask [true, true, true, true, true, false] (hJ28 _ _ _ _ h)
set_option maxRecDepth 20000 in
set_option maxHeartbeats 4000000 in
theorem vp_X1_doingAt_0 (p1 : Int32)  (μ : Mem) (hpre : pre_X1_doingAt p1 μ) : vc_X1_doingAt_0 p1 μ (post_X1_doingAt p1 μ) (fun l2 l3 l4 m => ∃ k : Nat, inv_X1_doingAt_28 p1 μ k l2 l3 l4 m) := by
  simp only [vc_X1_doingAt_0, pre_X1_doingsNeeded, pre_X1_firstOfBest, pre_X8_lossOf, post_X1_doingsNeeded, post_X1_firstOfBest, post_X8_lossOf, and_imp, call_eq, forall_eq, forall_const, true_and, and_true]
  obtain ⟨hE, hn, hB⟩ := hpre
  have hE0 := hE
  obtain ⟨⟨T1, T2, T3⟩, ⟨a1, a2⟩, c1, c2⟩ := hE
  unfold post_X1_doingAt
  refine ⟨fun c => ?_, fun c => ⟨hE0, fun q => ?_, fun q => ?_⟩⟩
  · rw [if_pos (Or.inl c)]; exact ⟨rfl, rfl⟩
  · refine ⟨p1.toNatClampNeg, 0, gn μ 59 5, gn μ 59 6, Nat.zero_le _, rfl, rfl, a1, c1, Nat.le_refl _, c2, rfl, ?_, hn, ?_, rfl⟩
    · rintro (z | z)
      · exact c z
      · exact absurd q (by simpa using z)
    · rw [Nat.sub_zero]; rfl
  · rw [if_pos (Or.inr (by simpa using q))]; exact ⟨rfl, rfl⟩
set_option maxRecDepth 20000 in
set_option maxHeartbeats 4000000 in
theorem vp_X1_doingAt_28 (p1 : Int32)  (μ : Mem) (hpre : pre_X1_doingAt p1 μ) (n : Nat) (l2 : Int32) (l3 : Int32) (l4 : Int32) (μ0 : Mem) (hi : inv_X1_doingAt_28 p1 μ n l2 l3 l4 μ0) : vc_X1_doingAt_28 p1 l2 l3 l4 μ0 (post_X1_doingAt p1 μ) (fun l2 l3 l4 m => ∃ k : Nat, k < n ∧ inv_X1_doingAt_28 p1 μ k l2 l3 l4 m) := by
  simp only [vc_X1_doingAt_28, pre_X1_doingsNeeded, pre_X1_firstOfBest, pre_X8_lossOf, post_X1_doingsNeeded, post_X1_firstOfBest, post_X8_lossOf, and_imp, call_eq, forall_eq, forall_const, true_and, and_true]
  obtain ⟨hE, hn, hB⟩ := hpre
  have hE0 := hE
  obtain ⟨hT, ⟨a1, a2⟩, c1, c2⟩ := hE
  obtain ⟨i, f, l, hi1, rfl, rfl, rfl, rfl, hf, hl, rfl, hk, hlt, hcnt, hs⟩ := hi
  have hp0 : ¬ p1 < 0 := fun z => hk (Or.inl z)
  obtain ⟨ep, bp⟩ := nn_of (nlt_le hp0)
  have hN : nowC μ0 % 1000 < 1000 := Nat.mod_lt _ (by omega)
  have hkN : p1.toNatClampNeg < nowC μ0 % 1000 := by
    have z : ¬ nI (nowC μ0 % 1000) ≤ p1 := fun z => hk (Or.inr z)
    rw [ep, nI_leI (by omega) bp] at z; omega
  have htk : ∀ d, d < gn μ0 59 2 → gn μ0 63 d ≤ 30 := fun d hd => (hT.2.1 d hd).2.2
  have hD := hT.1.2
  have hle : p1 ≤ nI i ↔ p1.toNatClampNeg ≤ i := by
    rw [← nI_leI (a := p1.toNatClampNeg) (b := i) bp (by omega), ← ep]
  have f0 : ¬ nI f < 0 := nI_pos (by omega)
  have f0' : 0 ≤ nI f := nI_pos' (by omega)
  have cf : (nI f).toNatClampNeg = f := nI_clamp (by omega)
  have cl : (nI l).toNatClampNeg = l := nI_clamp (by omega)
  rw [hle]
  have pf : pre_X1_firstOfBest (nI f) (nI l) μ0 := ⟨by rw [cf], by rw [cf]; omega, by rw [cl], by rw [cl]; exact hl, hT⟩
  refine ⟨fun c => ⟨fun _ => ⟨pf, ?_⟩, fun z => absurd f0' z⟩, fun c => ⟨fun z => absurd z f0, fun _ => ⟨pf, ?_⟩⟩⟩
  · have hi2 : i = p1.toNatClampNeg := by omega
    unfold post_X1_doingAt
    rw [if_neg hk, ← hs, hi2, Nat.sub_self, cf, cl]
    exact ⟨rfl, rfl⟩
  · rw [cf, cl]
    obtain ⟨g1, -⟩ := step_fb hB hf (by omega) hlt
    have g2 := step_cnt hD htk a2 hB hf (by omega) hlt
    have hs2 : sAt 1000000000 (gn μ0 62) (gn μ0 63) (cC μ0) (gn μ0 59 2) (p1.toNatClampNeg - i) f l = sAt 1000000000 (gn μ0 62) (gn μ0 63) (cC μ0) (gn μ0 59 2) (p1.toNatClampNeg - (i + 1)) (f - lsN (gn μ0 62) l (fbC 1000000000 (gn μ0 62) (gn μ0 63) (cC μ0) (gn μ0 59 2) f l)) (fbC 1000000000 (gn μ0 62) (gn μ0 63) (cC μ0) (gn μ0 59 2) f l) := by
      rw [show p1.toNatClampNeg - i = (p1.toNatClampNeg - (i + 1)) + 1 from by omega]; rfl
    generalize fbC 1000000000 (gn μ0 62) (gn μ0 63) (cC μ0) (gn μ0 59 2) f l = d at *
    have g3 : lsN (gn μ0 62) l d ≤ f ∧ cC μ0 (f - lsN (gn μ0 62) l d) d < 1000000000 ∧ cC μ0 f l % 1000 = 1 + cC μ0 (f - lsN (gn μ0 62) l d) d % 1000 ∧ 1 ≤ cC μ0 (f - lsN (gn μ0 62) l d) d % 1000 := by
      rcases g2 with z | z
      · omega
      · exact z
    obtain ⟨k1, k2, k3, k4⟩ := g3
    obtain ⟨⟨w1, w2⟩, -⟩ := hT.2.1 d g1
    have cd : (nI d).toNatClampNeg = d := nI_clamp (by omega)
    rw [cd]
    have lsd := ls_nI (full := gn μ0 62) (l := l) (d := d) (by omega) (by omega) (by omega)
    have fin : ∀ v, v = nI (lsN (gn μ0 62) l d) → ∃ k, k < p1.toNatClampNeg - i ∧ inv_X1_doingAt_28 p1 μ0 k (nI f - v) (nI d) (nI i + 1) μ0 := by
      rintro v rfl
      exact ⟨p1.toNatClampNeg - (i + 1), by omega, i + 1, f - lsN (gn μ0 62) l d, d, by omega, rfl, nI_1 i, pk_sub k1, rfl, by omega, by omega, rfl, hk, k2, by omega, by rw [← hs2]; exact hs⟩
    rw [w1]
    refine ⟨vp_in_nI (by omega) (by omega), fun c3 => fin _ ?_, fun c3 => fin _ ?_⟩
    · rw [if_pos c3] at lsd; simp only [if_true]; exact lsd
    · rw [if_neg (by simpa using c3)] at lsd; rw [if_neg (by decide)]; exact lsd
theorem sp_X1_doingAt : Sp yX1_doingAt cX1_doingAt 6 (some .int) 3 S_X1_doingAt := by
  refine sp_of (by decide) (fun av μ P h => ?_) ?_
  · obtain ⟨p1, rfl, -⟩ := h
    refine ⟨Nat.le_of_ble_eq_true rfl, fun v hv => ?_⟩
    simp only [List.mem_cons, List.not_mem_nil, or_false] at hv
    rcases hv with rfl | rfl <;> rfl
  · rintro X P hO _ μ ⟨p1, rfl, hpre, hpost⟩ hn
    have hJ : ∀ n : Nat, (∀ (l2 : Int32) (l3 : Int32) (l4 : Int32) (m : Mem), inv_X1_doingAt_28 p1 μ n l2 l3 l4 m → V X 28 [some (.ref 59), some (.int p1), some (.int l2), some (.int l3), some (.int l4), none] [] m) := by
      intro n
      induction n using Nat.strongRecOn with
      | _ n ih =>
        exact fun l2 l3 l4 m hi => wk_X1_doingAt_28 (J28 := (fun l2 l3 l4 m => ∃ k : Nat, k < n ∧ inv_X1_doingAt_28 p1 μ k l2 l3 l4 m)) hO hn p1  l2 l3 l4 m hpost (fun l2 l3 l4 m hk => by obtain ⟨k, hk, hi⟩ := hk; exact (ih k hk) l2 l3 l4 m hi) (vp_X1_doingAt_28 p1  μ hpre n l2 l3 l4 m hi)
    exact wk_X1_doingAt_0 (J28 := (fun l2 l3 l4 m => ∃ k : Nat, inv_X1_doingAt_28 p1 μ k l2 l3 l4 m)) hO hn p1  μ hpost (fun l2 l3 l4 m hk => by obtain ⟨k, hi⟩ := hk; exact (hJ k) l2 l3 l4 m hi) (vp_X1_doingAt_0 p1  μ hpre)

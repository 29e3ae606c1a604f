theorem moV_1e8 (v : Nat → Int32) (r : Nat) : moV 100000000 v r = 100000000 ↔ v r = 100000000 := by
  unfold moV
  split
  · rename_i h; exact ⟨fun _ => h, fun _ => rfl⟩
  · rename_i h
    constructor
    · intro z; exfalso; apply h
      apply Int32.toInt_inj.mp
      rw [show (100000000 : Int32).toInt = 100000000 from rfl]
      unfold Int32.toNatClampNeg at z; omega
    · intro z; exact absurd z h
theorem pw_step : ∀ i, i < 5 → nI (pw6 i) / 6 = nI (pw6 (i + 1)) := by decide +kernel
theorem u6_or : ∀ U, U < 64 → ∀ d, d < 6 → nI U ||| ((1 : Int32) <<< (nI d &&& 31)) = nI (U ||| 2 ^ d) := by decide +kernel
theorem u6_lt : ∀ U, U < 64 → ∀ d, d < 6 → U ||| 2 ^ d < 64 := by decide +kernel
theorem u6_bit : ∀ U, U < 64 → ∀ d, d < 6 → ∀ q, q < 6 → (slvI (nI (U ||| 2 ^ d)) (nI q) = 1 ↔ slvI (nI U) (nI q) = 1 ∨ q = d) := by decide +kernel
def S_X9_rowOf : Tr := fun av μ P => ∃ (p1 : Int32), av = [.ref 75, .int p1] ∧ pre_X9_rowOf p1 μ ∧ ∀ (x : Int32) (m : Mem), post_X9_rowOf p1 μ x m → P (some (.int x)) m
def vc_X9_rowOf_0 (p1 : Int32)  (μ : Mem) (R : Int32 → Mem → Prop) (J12 : Int32 → Int32 → Int32 → Int32 → Mem → Prop) : Prop :=
  J12 1296 0 0 0 μ
set_option maxRecDepth 20000 in
set_option maxHeartbeats 4000000 in
theorem wk_X9_rowOf_0 {X : XT} {P : Post} (hO : OkM X cX9_rowOf RX9 0 (some .int) P) (hn : xn X = 7) (p1 : Int32)   (μ : Mem) {R : Int32 → Mem → Prop} (hR : ∀ x m, R x m → P (some (.int x)) m) {J12 : Int32 → Int32 → Int32 → Int32 → Mem → Prop} (hJ12 : ∀ (l2 : Int32) (l3 : Int32) (l4 : Int32) (l5 : Int32) (m : Mem), J12 l2 l3 l4 l5 m → V X 12 [some (.ref 75), some (.int p1), some (.int l2), some (.int l3), some (.int l4), some (.int l5), none] [] m)  (h : vc_X9_rowOf_0 p1  μ R J12) : V X 0 [some (.ref 75), some (.int p1), none, none, none, none, none] [] μ := by
  have hX := hO.1
  unfold vc_X9_rowOf_0 at h
  refine v_sipush hX 1296 dX9_rowOf_0 rfl (?_ : V X 3 [some (.ref 75), some (.int p1), none, none, none, none, none] [.int 1296] μ)
  refine v_istore_n hX dX9_rowOf_3 (by rw [hn]; decide) (?_ : V X 4 [some (.ref 75), some (.int p1), some (.int 1296), none, none, none, none] [] μ)
  refine v_iconst hX 0 dX9_rowOf_4 rfl (?_ : V X 5 [some (.ref 75), some (.int p1), some (.int 1296), none, none, none, none] [.int 0] μ)
  refine v_istore_n hX dX9_rowOf_5 (by rw [hn]; decide) (?_ : V X 6 [some (.ref 75), some (.int p1), some (.int 1296), some (.int 0), none, none, none] [] μ)
  refine v_iconst hX 0 dX9_rowOf_6 rfl (?_ : V X 7 [some (.ref 75), some (.int p1), some (.int 1296), some (.int 0), none, none, none] [.int 0] μ)
  refine v_istore hX dX9_rowOf_7 (by rw [hn]; decide) (?_ : V X 9 [some (.ref 75), some (.int p1), some (.int 1296), some (.int 0), some (.int 0), none, none] [] μ)
  refine v_iconst hX 0 dX9_rowOf_9 rfl (?_ : V X 10 [some (.ref 75), some (.int p1), some (.int 1296), some (.int 0), some (.int 0), none, none] [.int 0] μ)
  refine v_istore hX dX9_rowOf_10 (by rw [hn]; decide) (?_ : V X 12 [some (.ref 75), some (.int p1), some (.int 1296), some (.int 0), some (.int 0), some (.int 0), none] [] μ)
  exact v_mask [true, true, true, true, true, true, false] (hJ12 _ _ _ _ _ h)
def vc_X9_rowOf_12 (p1 : Int32) (l2 : Int32) (l3 : Int32) (l4 : Int32) (l5 : Int32) (μ : Mem) (R : Int32 → Mem → Prop) (J12 : Int32 → Int32 → Int32 → Int32 → Mem → Prop) : Prop :=
  ((5 ≤ l5 → R l3 μ) ∧ (¬ 5 ≤ l5 → (¬ l2 = 0) ∧ ((((p1 / l2) - (p1 / l2) / 6 * 6) ≤ 0 → J12 (l2 / 6) l3 l4 (l5 + 1) μ) ∧ (¬ ((p1 / l2) - (p1 / l2) / 6 * 6) ≤ 0 → ((l3 < l5 → R ((-9)) μ) ∧ (¬ l3 < l5 → (((gi μ 77 0) < ((p1 / l2) - (p1 / l2) / 6 * 6) → R ((-9)) μ) ∧ (¬ (gi μ 77 0) < ((p1 / l2) - (p1 / l2) / 6 * 6) → ((((l4 >>> (((p1 / l2) - (p1 / l2) / 6 * 6) &&& 31)) &&& 1) = 1 → R ((-9)) μ) ∧ (¬ ((l4 >>> (((p1 / l2) - (p1 / l2) / 6 * 6) &&& 31)) &&& 1) = 1 → vp_in (((p1 / l2) - (p1 / l2) / 6 * 6) - 1) 5 ∧ ((¬ (gi μ 91 (Int32.toNatClampNeg (((p1 / l2) - (p1 / l2) / 6 * 6) - 1))) = 100000000 → (∀ y8 : Int32, y8 = (l4 ||| (1 <<< (((p1 / l2) - (p1 / l2) / 6 * 6) &&& 31))) → vp_in l3 5 ∧ (∀ μ11, μ11 = ui μ 92 (Int32.toNatClampNeg l3) (((p1 / l2) - (p1 / l2) / 6 * 6) - 1) → J12 (l2 / 6) (l3 + 1) y8 (l5 + 1) μ11))) ∧ ((gi μ 91 (Int32.toNatClampNeg (((p1 / l2) - (p1 / l2) / 6 * 6) - 1))) = 100000000 → R ((-9)) μ))))))))))))
set_option maxRecDepth 20000 in
set_option maxHeartbeats 4000000 in
theorem wk_X9_rowOf_12 {X : XT} {P : Post} (hO : OkM X cX9_rowOf RX9 0 (some .int) P) (hn : xn X = 7) (p1 : Int32)  (l2 : Int32) (l3 : Int32) (l4 : Int32) (l5 : Int32) (μ : Mem) {R : Int32 → Mem → Prop} (hR : ∀ x m, R x m → P (some (.int x)) m) {J12 : Int32 → Int32 → Int32 → Int32 → Mem → Prop} (hJ12 : ∀ (l2 : Int32) (l3 : Int32) (l4 : Int32) (l5 : Int32) (m : Mem), J12 l2 l3 l4 l5 m → V X 12 [some (.ref 75), some (.int p1), some (.int l2), some (.int l3), some (.int l4), some (.int l5), none] [] m)  (h : vc_X9_rowOf_12 p1 l2 l3 l4 l5 μ R J12) : V X 12 [some (.ref 75), some (.int p1), some (.int l2), some (.int l3), some (.int l4), some (.int l5), none] [] μ := by
  have hX := hO.1
  unfold vc_X9_rowOf_12 at h
  refine v_iload hX dX9_rowOf_12 rfl (?_ : V X 14 [some (.ref 75), some (.int p1), some (.int l2), some (.int l3), some (.int l4), some (.int l5), none] [.int l5] μ)
  refine v_iconst hX 5 dX9_rowOf_14 rfl (?_ : V X 15 [some (.ref 75), some (.int p1), some (.int l2), some (.int l3), some (.int l4), some (.int l5), none] [.int 5, .int l5] μ)
  refine v_icmp_ge hX 109 dX9_rowOf_15 rfl (fun c1 => ?_) (fun c1 => ?_)
  · replace h := h.1 c1
    refine v_iload_n hX dX9_rowOf_109 rfl (?_ : V X 110 [some (.ref 75), some (.int p1), some (.int l2), some (.int l3), some (.int l4), some (.int l5), none] [.int l3] μ)
    exact v_iret hO dX9_rowOf_110 (hR _ _ h)
  · replace h := h.2 c1
    refine v_iload_n hX dX9_rowOf_18 rfl (?_ : V X 19 [some (.ref 75), some (.int p1), some (.int l2), some (.int l3), some (.int l4), some (.int l5), none] [.int p1] μ)
    refine v_iload_n hX dX9_rowOf_19 rfl (?_ : V X 20 [some (.ref 75), some (.int p1), some (.int l2), some (.int l3), some (.int l4), some (.int l5), none] [.int l2, .int p1] μ)
    refine v_idiv hX dX9_rowOf_20 h.1 (?_ : V X 21 [some (.ref 75), some (.int p1), some (.int l2), some (.int l3), some (.int l4), some (.int l5), none] [.int (p1 / l2)] μ)
    replace h := h.2
    refine v_bipush hX 6 dX9_rowOf_21 rfl (?_ : V X 23 [some (.ref 75), some (.int p1), some (.int l2), some (.int l3), some (.int l4), some (.int l5), none] [.int 6, .int (p1 / l2)] μ)
    refine v_irem hX dX9_rowOf_23 (by decide) (?_ : V X 24 [some (.ref 75), some (.int p1), some (.int l2), some (.int l3), some (.int l4), some (.int l5), none] [.int ((p1 / l2) - (p1 / l2) / 6 * 6)] μ)
    refine v_istore hX dX9_rowOf_24 (by rw [hn]; decide) (?_ : V X 26 [some (.ref 75), some (.int p1), some (.int l2), some (.int l3), some (.int l4), some (.int l5), some (.int ((p1 / l2) - (p1 / l2) / 6 * 6))] [] μ)
    refine v_iload_n hX dX9_rowOf_26 rfl (?_ : V X 27 [some (.ref 75), some (.int p1), some (.int l2), some (.int l3), some (.int l4), some (.int l5), some (.int ((p1 / l2) - (p1 / l2) / 6 * 6))] [.int l2] μ)
    refine v_bipush hX 6 dX9_rowOf_27 rfl (?_ : V X 29 [some (.ref 75), some (.int p1), some (.int l2), some (.int l3), some (.int l4), some (.int l5), some (.int ((p1 / l2) - (p1 / l2) / 6 * 6))] [.int 6, .int l2] μ)
    refine v_idiv hX dX9_rowOf_29 (by decide) (?_ : V X 30 [some (.ref 75), some (.int p1), some (.int l2), some (.int l3), some (.int l4), some (.int l5), some (.int ((p1 / l2) - (p1 / l2) / 6 * 6))] [.int (l2 / 6)] μ)
    refine v_istore_n hX dX9_rowOf_30 (by rw [hn]; decide) (?_ : V X 31 [some (.ref 75), some (.int p1), some (.int (l2 / 6)), some (.int l3), some (.int l4), some (.int l5), some (.int ((p1 / l2) - (p1 / l2) / 6 * 6))] [] μ)
    refine v_iload hX dX9_rowOf_31 rfl (?_ : V X 33 [some (.ref 75), some (.int p1), some (.int (l2 / 6)), some (.int l3), some (.int l4), some (.int l5), some (.int ((p1 / l2) - (p1 / l2) / 6 * 6))] [.int ((p1 / l2) - (p1 / l2) / 6 * 6)] μ)
    refine v_if_le hX 103 dX9_rowOf_33 rfl (fun c2 => ?_) (fun c2 => ?_)
    · replace h := h.1 c2
      refine v_iinc hX 1 dX9_rowOf_103 (by rw [hn]; decide) rfl rfl (?_ : V X 106 [some (.ref 75), some (.int p1), some (.int (l2 / 6)), some (.int l3), some (.int l4), some (.int (l5 + 1)), some (.int ((p1 / l2) - (p1 / l2) / 6 * 6))] [] μ)
      refine v_goto hX 12 dX9_rowOf_106 rfl (?_ : V X 12 [some (.ref 75), some (.int p1), some (.int (l2 / 6)), some (.int l3), some (.int l4), some (.int (l5 + 1)), some (.int ((p1 / l2) - (p1 / l2) / 6 * 6))] [] μ)
      exact v_mask [true, true, true, true, true, true, false] (hJ12 _ _ _ _ _ h)
    · replace h := h.2 c2
      refine v_iload_n hX dX9_rowOf_36 rfl (?_ : V X 37 [some (.ref 75), some (.int p1), some (.int (l2 / 6)), some (.int l3), some (.int l4), some (.int l5), some (.int ((p1 / l2) - (p1 / l2) / 6 * 6))] [.int l3] μ)
      refine v_iload hX dX9_rowOf_37 rfl (?_ : V X 39 [some (.ref 75), some (.int p1), some (.int (l2 / 6)), some (.int l3), some (.int l4), some (.int l5), some (.int ((p1 / l2) - (p1 / l2) / 6 * 6))] [.int l5, .int l3] μ)
      refine v_icmp_lt hX 78 dX9_rowOf_39 rfl (fun c3 => ?_) (fun c3 => ?_)
      · replace h := h.1 c3
        refine v_bipush hX (-9) dX9_rowOf_78 rfl (?_ : V X 80 [some (.ref 75), some (.int p1), some (.int (l2 / 6)), some (.int l3), some (.int l4), some (.int l5), some (.int ((p1 / l2) - (p1 / l2) / 6 * 6))] [.int ((-9))] μ)
        exact v_iret hO dX9_rowOf_80 (hR _ _ h)
      · replace h := h.2 c3
        refine v_iload hX dX9_rowOf_42 rfl (?_ : V X 44 [some (.ref 75), some (.int p1), some (.int (l2 / 6)), some (.int l3), some (.int l4), some (.int l5), some (.int ((p1 / l2) - (p1 / l2) / 6 * 6))] [.int ((p1 / l2) - (p1 / l2) / 6 * 6)] μ)
        refine v_aload_n hX dX9_rowOf_44 rfl (?_ : V X 45 [some (.ref 75), some (.int p1), some (.int (l2 / 6)), some (.int l3), some (.int l4), some (.int l5), some (.int ((p1 / l2) - (p1 / l2) / 6 * 6))] [.ref 75, .int ((p1 / l2) - (p1 / l2) / 6 * 6)] μ)
        refine v_getr hX (77) fk_X9_13 sh_75 rfl rfl dX9_rowOf_45 (?_ : V X 48 [some (.ref 75), some (.int p1), some (.int (l2 / 6)), some (.int l3), some (.int l4), some (.int l5), some (.int ((p1 / l2) - (p1 / l2) / 6 * 6))] [.ref 77, .int ((p1 / l2) - (p1 / l2) / 6 * 6)] μ)
        refine v_iconst hX 0 dX9_rowOf_48 rfl (?_ : V X 49 [some (.ref 75), some (.int p1), some (.int (l2 / 6)), some (.int l3), some (.int l4), some (.int l5), some (.int ((p1 / l2) - (p1 / l2) / 6 * 6))] [.int 0, .ref 77, .int ((p1 / l2) - (p1 / l2) / 6 * 6)] μ)
        refine w_iald hX 0 sh_77 (vp_lit (by decide)) (by decide) dX9_rowOf_49 (?_ : V X 50 [some (.ref 75), some (.int p1), some (.int (l2 / 6)), some (.int l3), some (.int l4), some (.int l5), some (.int ((p1 / l2) - (p1 / l2) / 6 * 6))] [.int (gi μ 77 0), .int ((p1 / l2) - (p1 / l2) / 6 * 6)] μ)
        refine v_icmp_gt hX 78 dX9_rowOf_50 rfl (fun c4 => ?_) (fun c4 => ?_)
        · replace h := h.1 c4
          refine v_bipush hX (-9) dX9_rowOf_78 rfl (?_ : V X 80 [some (.ref 75), some (.int p1), some (.int (l2 / 6)), some (.int l3), some (.int l4), some (.int l5), some (.int ((p1 / l2) - (p1 / l2) / 6 * 6))] [.int ((-9))] μ)
          exact v_iret hO dX9_rowOf_80 (hR _ _ h)
        · replace h := h.2 c4
          refine v_iload hX dX9_rowOf_53 rfl (?_ : V X 55 [some (.ref 75), some (.int p1), some (.int (l2 / 6)), some (.int l3), some (.int l4), some (.int l5), some (.int ((p1 / l2) - (p1 / l2) / 6 * 6))] [.int l4] μ)
          refine v_iload hX dX9_rowOf_55 rfl (?_ : V X 57 [some (.ref 75), some (.int p1), some (.int (l2 / 6)), some (.int l3), some (.int l4), some (.int l5), some (.int ((p1 / l2) - (p1 / l2) / 6 * 6))] [.int ((p1 / l2) - (p1 / l2) / 6 * 6), .int l4] μ)
          refine v_ishr hX dX9_rowOf_57 (?_ : V X 58 [some (.ref 75), some (.int p1), some (.int (l2 / 6)), some (.int l3), some (.int l4), some (.int l5), some (.int ((p1 / l2) - (p1 / l2) / 6 * 6))] [.int (l4 >>> (((p1 / l2) - (p1 / l2) / 6 * 6) &&& 31))] μ)
          refine v_iconst hX 1 dX9_rowOf_58 rfl (?_ : V X 59 [some (.ref 75), some (.int p1), some (.int (l2 / 6)), some (.int l3), some (.int l4), some (.int l5), some (.int ((p1 / l2) - (p1 / l2) / 6 * 6))] [.int 1, .int (l4 >>> (((p1 / l2) - (p1 / l2) / 6 * 6) &&& 31))] μ)
          refine v_iand hX dX9_rowOf_59 (?_ : V X 60 [some (.ref 75), some (.int p1), some (.int (l2 / 6)), some (.int l3), some (.int l4), some (.int l5), some (.int ((p1 / l2) - (p1 / l2) / 6 * 6))] [.int ((l4 >>> (((p1 / l2) - (p1 / l2) / 6 * 6) &&& 31)) &&& 1)] μ)
          refine v_iconst hX 1 dX9_rowOf_60 rfl (?_ : V X 61 [some (.ref 75), some (.int p1), some (.int (l2 / 6)), some (.int l3), some (.int l4), some (.int l5), some (.int ((p1 / l2) - (p1 / l2) / 6 * 6))] [.int 1, .int ((l4 >>> (((p1 / l2) - (p1 / l2) / 6 * 6) &&& 31)) &&& 1)] μ)
          refine v_icmp_eq hX 78 dX9_rowOf_61 rfl (fun c5 => ?_) (fun c5 => ?_)
          · replace h := h.1 c5
            refine v_bipush hX (-9) dX9_rowOf_78 rfl (?_ : V X 80 [some (.ref 75), some (.int p1), some (.int (l2 / 6)), some (.int l3), some (.int l4), some (.int l5), some (.int ((p1 / l2) - (p1 / l2) / 6 * 6))] [.int ((-9))] μ)
            exact v_iret hO dX9_rowOf_80 (hR _ _ h)
          · replace h := h.2 c5
            refine v_aload_n hX dX9_rowOf_64 rfl (?_ : V X 65 [some (.ref 75), some (.int p1), some (.int (l2 / 6)), some (.int l3), some (.int l4), some (.int l5), some (.int ((p1 / l2) - (p1 / l2) / 6 * 6))] [.ref 75] μ)
            refine v_getr hX (91) fk_X9_56 sh_75 rfl rfl dX9_rowOf_65 (?_ : V X 68 [some (.ref 75), some (.int p1), some (.int (l2 / 6)), some (.int l3), some (.int l4), some (.int l5), some (.int ((p1 / l2) - (p1 / l2) / 6 * 6))] [.ref 91] μ)
            refine v_iload hX dX9_rowOf_68 rfl (?_ : V X 70 [some (.ref 75), some (.int p1), some (.int (l2 / 6)), some (.int l3), some (.int l4), some (.int l5), some (.int ((p1 / l2) - (p1 / l2) / 6 * 6))] [.int ((p1 / l2) - (p1 / l2) / 6 * 6), .ref 91] μ)
            refine v_iconst hX 1 dX9_rowOf_70 rfl (?_ : V X 71 [some (.ref 75), some (.int p1), some (.int (l2 / 6)), some (.int l3), some (.int l4), some (.int l5), some (.int ((p1 / l2) - (p1 / l2) / 6 * 6))] [.int 1, .int ((p1 / l2) - (p1 / l2) / 6 * 6), .ref 91] μ)
            refine v_isub hX dX9_rowOf_71 (?_ : V X 72 [some (.ref 75), some (.int p1), some (.int (l2 / 6)), some (.int l3), some (.int l4), some (.int l5), some (.int ((p1 / l2) - (p1 / l2) / 6 * 6))] [.int (((p1 / l2) - (p1 / l2) / 6 * 6) - 1), .ref 91] μ)
            have hb6 := h.1
            replace h := h.2
            refine w_iald hX (Int32.toNatClampNeg (((p1 / l2) - (p1 / l2) / 6 * 6) - 1)) sh_91 hb6 rfl dX9_rowOf_72 (?_ : V X 73 [some (.ref 75), some (.int p1), some (.int (l2 / 6)), some (.int l3), some (.int l4), some (.int l5), some (.int ((p1 / l2) - (p1 / l2) / 6 * 6))] [.int (gi μ 91 (Int32.toNatClampNeg (((p1 / l2) - (p1 / l2) / 6 * 6) - 1)))] μ)
            refine v_ldc hX 100000000 dX9_rowOf_73 kk_X9_172 (?_ : V X 75 [some (.ref 75), some (.int p1), some (.int (l2 / 6)), some (.int l3), some (.int l4), some (.int l5), some (.int ((p1 / l2) - (p1 / l2) / 6 * 6))] [.int 100000000, .int (gi μ 91 (Int32.toNatClampNeg (((p1 / l2) - (p1 / l2) / 6 * 6) - 1)))] μ)
            refine v_icmp_ne hX 81 dX9_rowOf_75 rfl (fun c7 => ?_) (fun c7 => ?_)
            · replace h := h.1 c7
              refine v_iload hX dX9_rowOf_81 rfl (?_ : V X 83 [some (.ref 75), some (.int p1), some (.int (l2 / 6)), some (.int l3), some (.int l4), some (.int l5), some (.int ((p1 / l2) - (p1 / l2) / 6 * 6))] [.int l4] μ)
              refine v_iconst hX 1 dX9_rowOf_83 rfl (?_ : V X 84 [some (.ref 75), some (.int p1), some (.int (l2 / 6)), some (.int l3), some (.int l4), some (.int l5), some (.int ((p1 / l2) - (p1 / l2) / 6 * 6))] [.int 1, .int l4] μ)
              refine v_iload hX dX9_rowOf_84 rfl (?_ : V X 86 [some (.ref 75), some (.int p1), some (.int (l2 / 6)), some (.int l3), some (.int l4), some (.int l5), some (.int ((p1 / l2) - (p1 / l2) / 6 * 6))] [.int ((p1 / l2) - (p1 / l2) / 6 * 6), .int 1, .int l4] μ)
              refine v_ishl hX dX9_rowOf_86 (?_ : V X 87 [some (.ref 75), some (.int p1), some (.int (l2 / 6)), some (.int l3), some (.int l4), some (.int l5), some (.int ((p1 / l2) - (p1 / l2) / 6 * 6))] [.int (1 <<< (((p1 / l2) - (p1 / l2) / 6 * 6) &&& 31)), .int l4] μ)
              refine v_ior hX dX9_rowOf_87 (?_ : V X 88 [some (.ref 75), some (.int p1), some (.int (l2 / 6)), some (.int l3), some (.int l4), some (.int l5), some (.int ((p1 / l2) - (p1 / l2) / 6 * 6))] [.int (l4 ||| (1 <<< (((p1 / l2) - (p1 / l2) / 6 * 6) &&& 31)))] μ)
              refine w_istore hX dX9_rowOf_88 (by rw [hn]; decide) (fun y8 e9 => (?_ : V X 90 [some (.ref 75), some (.int p1), some (.int (l2 / 6)), some (.int l3), some (.int y8), some (.int l5), some (.int ((p1 / l2) - (p1 / l2) / 6 * 6))] [] μ))
              replace h := h y8 e9
              refine v_aload_n hX dX9_rowOf_90 rfl (?_ : V X 91 [some (.ref 75), some (.int p1), some (.int (l2 / 6)), some (.int l3), some (.int y8), some (.int l5), some (.int ((p1 / l2) - (p1 / l2) / 6 * 6))] [.ref 75] μ)
              refine v_getr hX (92) fk_X9_59 sh_75 rfl rfl dX9_rowOf_91 (?_ : V X 94 [some (.ref 75), some (.int p1), some (.int (l2 / 6)), some (.int l3), some (.int y8), some (.int l5), some (.int ((p1 / l2) - (p1 / l2) / 6 * 6))] [.ref 92] μ)
              refine v_iload_n hX dX9_rowOf_94 rfl (?_ : V X 95 [some (.ref 75), some (.int p1), some (.int (l2 / 6)), some (.int l3), some (.int y8), some (.int l5), some (.int ((p1 / l2) - (p1 / l2) / 6 * 6))] [.int l3, .ref 92] μ)
              refine v_iload hX dX9_rowOf_95 rfl (?_ : V X 97 [some (.ref 75), some (.int p1), some (.int (l2 / 6)), some (.int l3), some (.int y8), some (.int l5), some (.int ((p1 / l2) - (p1 / l2) / 6 * 6))] [.int ((p1 / l2) - (p1 / l2) / 6 * 6), .int l3, .ref 92] μ)
              refine v_iconst hX 1 dX9_rowOf_97 rfl (?_ : V X 98 [some (.ref 75), some (.int p1), some (.int (l2 / 6)), some (.int l3), some (.int y8), some (.int l5), some (.int ((p1 / l2) - (p1 / l2) / 6 * 6))] [.int 1, .int ((p1 / l2) - (p1 / l2) / 6 * 6), .int l3, .ref 92] μ)
              refine v_isub hX dX9_rowOf_98 (?_ : V X 99 [some (.ref 75), some (.int p1), some (.int (l2 / 6)), some (.int l3), some (.int y8), some (.int l5), some (.int ((p1 / l2) - (p1 / l2) / 6 * 6))] [.int (((p1 / l2) - (p1 / l2) / 6 * 6) - 1), .int l3, .ref 92] μ)
              have hb10 := h.1
              replace h := h.2
              refine w_iast hX (Int32.toNatClampNeg l3) sh_92 hb10 rfl dX9_rowOf_99 (fun μ11 e12 => (?_ : V X 100 [some (.ref 75), some (.int p1), some (.int (l2 / 6)), some (.int l3), some (.int y8), some (.int l5), some (.int ((p1 / l2) - (p1 / l2) / 6 * 6))] [] μ11))
              replace h := h μ11 e12
              refine v_iinc hX 1 dX9_rowOf_100 (by rw [hn]; decide) rfl rfl (?_ : V X 103 [some (.ref 75), some (.int p1), some (.int (l2 / 6)), some (.int (l3 + 1)), some (.int y8), some (.int l5), some (.int ((p1 / l2) - (p1 / l2) / 6 * 6))] [] μ11)
              refine v_iinc hX 1 dX9_rowOf_103 (by rw [hn]; decide) rfl rfl (?_ : V X 106 [some (.ref 75), some (.int p1), some (.int (l2 / 6)), some (.int (l3 + 1)), some (.int y8), some (.int (l5 + 1)), some (.int ((p1 / l2) - (p1 / l2) / 6 * 6))] [] μ11)
              refine v_goto hX 12 dX9_rowOf_106 rfl (?_ : V X 12 [some (.ref 75), some (.int p1), some (.int (l2 / 6)), some (.int (l3 + 1)), some (.int y8), some (.int (l5 + 1)), some (.int ((p1 / l2) - (p1 / l2) / 6 * 6))] [] μ11)
              exact v_mask [true, true, true, true, true, true, false] (hJ12 _ _ _ _ _ h)
            · replace h := h.2 c7
              refine v_bipush hX (-9) dX9_rowOf_78 rfl (?_ : V X 80 [some (.ref 75), some (.int p1), some (.int (l2 / 6)), some (.int l3), some (.int l4), some (.int l5), some (.int ((p1 / l2) - (p1 / l2) / 6 * 6))] [.int ((-9))] μ)
              exact v_iret hO dX9_rowOf_80 (hR _ _ h)
set_option maxRecDepth 20000 in
set_option maxHeartbeats 1000000 in
theorem vp_X9_rowOf_0 (p1 : Int32)  (μ : Mem) (hpre : pre_X9_rowOf p1 μ) : vc_X9_rowOf_0 p1 μ (post_X9_rowOf p1 μ) (fun l2 l3 l4 l5 m => ∃ k : Nat, inv_X9_rowOf_12 p1 μ k l2 l3 l4 l5 m) := by
  unfold vc_X9_rowOf_0
  refine ⟨5, 0, by omega, rfl, rfl, rfl, rfl, fun j hj => absurd hj (Nat.not_lt_zero j), ⟨0, by omega, rfl, fun d hd h0 => ⟨fun z => ?_, fun ⟨j, hj, _⟩ => absurd hj (Nat.not_lt_zero j)⟩⟩, fr_refl _ _, fun j hj => absurd hj (Nat.not_lt_zero j)⟩
  have : ∀ d, d < 6 → ¬ slvI (nI 0) (nI d) = 1 := by decide +kernel
  exact absurd z (this d hd)
set_option maxRecDepth 20000 in
set_option maxHeartbeats 1000000 in
theorem vp_X9_rowOf_12 (p1 : Int32)  (μ : Mem) (hpre : pre_X9_rowOf p1 μ) (n : Nat) (l2 : Int32) (l3 : Int32) (l4 : Int32) (l5 : Int32) (μ0 : Mem) (hi : inv_X9_rowOf_12 p1 μ n l2 l3 l4 l5 μ0) : vc_X9_rowOf_12 p1 l2 l3 l4 l5 μ0 (post_X9_rowOf p1 μ) (fun l2 l3 l4 l5 m => ∃ k : Nat, k < n ∧ inv_X9_rowOf_12 p1 μ k l2 l3 l4 l5 m) := by
  unfold vc_X9_rowOf_12
  obtain ⟨e, hc, a0⟩ := hpre
  obtain ⟨i, hi1, rfl, rfl, rfl, rfl, hok, ⟨U, hU, rfl, hu⟩, hf, hr⟩ := hi
  generalize hcc : p1.toNatClampNeg = c at *
  subst e
  have hb := a0.2
  have hcl := cnt_le c i
  rw [show (5 : Int32) = nI 5 from rfl, nI_leI (by omega) (by omega)]
  have bad : ¬ okC (gn μ 77 0) (moG μ) c 5 → post_X9_rowOf (nI c) μ (-9) μ0 := fun z => ⟨hf, Or.inr ⟨by rw [hcc]; exact z, rfl⟩⟩
  refine ⟨fun c5 => ?_, fun c5 => ?_⟩
  · have hi5 : i = 5 := by omega
    subst hi5
    exact ⟨hf, Or.inl ⟨by rw [hcc]; exact hok, by rw [hcc], by rw [hcc]; exact hr⟩⟩
  · have hi5 : i < 5 := by omega
    have hpw : pw6 i = 6 ^ (4 - i) := if_pos hi5
    have hpb : 0 < 6 ^ (4 - i) ∧ 6 ^ (4 - i) ≤ 1296 := by
      have : i = 0 ∨ i = 1 ∨ i = 2 ∨ i = 3 ∨ i = 4 := by omega
      rcases this with rfl | rfl | rfl | rfl | rfl <;> decide
    have hq : c / 6 ^ (4 - i) < 7776 := Nat.lt_of_le_of_lt (Nat.div_le_self _ _) hc
    have ed : nI c / nI (pw6 i) - nI c / nI (pw6 i) / 6 * 6 = nI (dg c i) := by
      rw [hpw, pk_div (by omega) (by omega) (by omega), show (6 : Int32) = nI 6 from rfl, pk_rem (by omega) (by omega) (by omega)]; rfl
    rw [ed, pw_step i hi5, hf.1 77 (by simp)]
    have hd := dg_lt c i
    rw [show (0 : Int32) = nI 0 from rfl, nI_leI (by omega) (by omega)]
    refine ⟨?_, fun q => ⟨4 - i, by omega, i + 1, by omega, by omega, nI_1 i, rfl, ?_, ?_, ⟨U, hU, rfl, fun d h1 h2 => ?_⟩, hf, ?_⟩, fun q => ⟨fun q2 => bad ?_, fun q2 => ⟨fun q3 => bad ?_, fun q3 => ⟨fun q4 => bad ?_, fun q4 => ⟨?_, fun q5 => ?_, fun q5 => bad ?_⟩⟩⟩⟩⟩
    · rw [hpw, nI_eq (by omega) (by omega)]; omega
    · rw [hcc, cntN, if_pos (by omega), Nat.add_zero]
    · rw [hcc]; intro j hj hz
      rcases Nat.lt_or_ge j i with z | z
      · exact hok j z hz
      · have : j = i := by omega
        subst this; omega
    · rw [hu d h1 h2, hcc]
      constructor
      · rintro ⟨j, hj, hz⟩; exact ⟨j, by omega, hz⟩
      · rintro ⟨j, hj, hz⟩
        refine ⟨j, ?_, hz⟩
        rcases Nat.lt_or_ge j i with z | z
        · exact z
        · have : j = i := by omega
          subst this; omega
    · rw [hcc, cntN, if_pos (by omega), Nat.add_zero]; exact hr
    · intro z
      have := (z i hi5 (by omega)).1
      rw [this] at q2
      exact absurd q2 (by simp)
    · intro z
      have := (z i hi5 (by omega)).2.1
      rw [a0.1] at q3
      have h3 := i_lt.mp q3
      rw [nI_toInt (by omega), nI_toInt (by omega)] at h3; omega
    · intro z
      obtain ⟨j, hj, hz⟩ := (hu (dg c i) hd (by omega)).mp q4
      exact (z i hi5 (by omega)).2.2.1 j hj hz
    · rw [show (1 : Int32) = nI 1 from rfl, pk_sub (by omega)]
      exact vp_in_nI (by omega) (by omega)
    · rintro y8 rfl
      have hci : cntN c i = i := by
        rcases Nat.lt_or_ge (cntN c i) i with z | z
        · exfalso; apply q2; rw [i_lt, nI_toInt (by omega), nI_toInt (by omega)]; omega
        · omega
      rw [show (1 : Int32) = nI 1 from rfl, pk_sub (by omega : 1 ≤ dg c i), nI_clamp (by omega)] at q5
      refine ⟨vp_in_nI (by omega) (by omega), ?_⟩
      rintro m11 rfl
      have hcs : cntN c (i + 1) = i + 1 := by rw [cntN, hci, if_neg (by omega)]
      refine ⟨4 - i, by omega, i + 1, by omega, by omega, nI_1 i, rfl, ?_, ?_, ⟨U ||| 2 ^ dg c i, u6_lt U hU _ hd, u6_or U hU _ hd, fun d h1 h2 => ?_⟩, fr_trans hf (fr_ui (by simp)), ?_⟩
      · rw [hcc, hcs, hci, nI_1]
      · rw [hcc]; intro j hj hz
        rcases Nat.lt_or_ge j i with z | z
        · exact hok j z hz
        · have : j = i := by omega
          subst this
          refine ⟨hci, ?_, fun k hk hkk => q4 ((hu (dg c j) hd (by omega)).mpr ⟨k, hk, hkk⟩), fun z8 => q5 ?_⟩
          · rw [a0.1] at q3
            rcases Nat.lt_or_ge (gn μ 77 0) (dg c j) with y | y
            · exfalso; apply q3; rw [i_lt, nI_toInt (by omega), nI_toInt (by omega)]; omega
            · exact y
          · rw [hf.1 91 (by simp)]; exact (moV_1e8 _ _).mp z8
      · rw [u6_bit U hU _ hd d h1, hu d h1 h2, hcc]
        constructor
        · rintro (⟨j, hj, hz⟩ | hz)
          · exact ⟨j, by omega, hz⟩
          · exact ⟨i, by omega, hz.symm⟩
        · rintro ⟨j, hj, hz⟩
          rcases Nat.lt_or_ge j i with z | z
          · exact Or.inl ⟨j, z, hz⟩
          · have : j = i := by omega
            subst this; exact Or.inr hz.symm
      · rw [hcc, hcs]
        intro j hj
        rw [hci, nI_clamp (by omega), gi_ui]
        by_cases z : j = i
        · rw [if_pos ⟨rfl, z⟩, z, show (1 : Int32) = nI 1 from rfl, pk_sub (by omega)]
        · rw [if_neg (fun y => z y.2)]; exact hr j (by omega)
    · intro z
      rw [show (1 : Int32) = nI 1 from rfl, pk_sub (by omega : 1 ≤ dg c i), nI_clamp (by omega), hf.1 91 (by simp)] at q5
      exact (z i hi5 (by omega)).2.2.2 ((moV_1e8 _ _).mpr q5)
theorem sp_X9_rowOf : Sp yX9_rowOf cX9_rowOf 7 (some .int) 0 S_X9_rowOf := by
  refine sp_of (by decide) (fun av μ P h => ?_) ?_
  · obtain ⟨p1, rfl, -⟩ := h
    refine ⟨Nat.le_of_ble_eq_true rfl, fun v hv => ?_⟩
    simp only [List.mem_cons, List.not_mem_nil, or_false] at hv
    rcases hv with rfl | rfl <;> rfl
  · rintro X P hO _ μ ⟨p1, rfl, hpre, hpost⟩ hn
    have hJ : ∀ n : Nat, (∀ (l2 : Int32) (l3 : Int32) (l4 : Int32) (l5 : Int32) (m : Mem), inv_X9_rowOf_12 p1 μ n l2 l3 l4 l5 m → V X 12 [some (.ref 75), some (.int p1), some (.int l2), some (.int l3), some (.int l4), some (.int l5), none] [] m) := by
      intro n
      induction n using Nat.strongRecOn with
      | _ n ih =>
        exact fun l2 l3 l4 l5 m hi => wk_X9_rowOf_12 (J12 := (fun l2 l3 l4 l5 m => ∃ k : Nat, k < n ∧ inv_X9_rowOf_12 p1 μ k l2 l3 l4 l5 m)) hO hn p1  l2 l3 l4 l5 m hpost (fun l2 l3 l4 l5 m hk => by obtain ⟨k, hk, hi⟩ := hk; exact (ih k hk) l2 l3 l4 l5 m hi) (vp_X9_rowOf_12 p1  μ hpre n l2 l3 l4 l5 m hi)
    exact wk_X9_rowOf_0 (J12 := (fun l2 l3 l4 l5 m => ∃ k : Nat, inv_X9_rowOf_12 p1 μ k l2 l3 l4 l5 m)) hO hn p1  μ hpost (fun l2 l3 l4 l5 m hk => by obtain ⟨k, hi⟩ := hk; exact (hJ k) l2 l3 l4 l5 m hi) (vp_X9_rowOf_0 p1  μ hpre)

theorem nle_lt {x y : Int32} (h : ¬ x ≤ y) : y < x := by simpa using h
theorem nlt_le {x y : Int32} (h : ¬ x < y) : y ≤ x := by simpa using h
def S_X8_goes : Tr := fun av μ P => ∃ (p1 : Int32), av = [.ref 0, .int p1] ∧ pre_X8_goes p1 μ ∧ ∀ (x : Int32) (m : Mem), post_X8_goes p1 μ x m → P (some (.int x)) m
def vc_X8_goes_0 (p1 : Int32)  (μ : Mem) (R : Int32 → Mem → Prop)  : Prop :=
  ((gp μ 1) = 3 ∨ (gp μ 1) = 10) ∧ (pre_X2_hasRoom ((gp μ 1)) p1 μ ∧ ∀ (x2 : Int32) (μ3 : Mem), post_X2_hasRoom ((gp μ 1)) p1 μ x2 μ3 → ((¬ x2 = 0 → (pre_X7_isSolved p1 μ3 ∧ ∀ (x6 : Int32) (μ7 : Mem), post_X7_isSolved p1 μ3 x6 μ7 → ((¬ x6 = 0 → R ((-2)) μ7) ∧ (x6 = 0 → ((¬ (gi μ7 17 0) = p1 → ((gp μ7 1) = 3 ∨ (gp μ7 1) = 10) ∧ (pre_X2_walkBetween ((gp μ7 1)) (gi μ7 17 1) p1 μ7 ∧ ∀ (x12 : Int32) (μ13 : Mem), post_X2_walkBetween ((gp μ7 1)) (gi μ7 17 1) p1 μ7 x12 μ13 → ((((gi μ13 17 2) + x12) ≤ 9999 → (pre_X5_remember  μ13 ∧ ∀ (μ17 : Mem), post_X5_remember  μ13 μ17 → (∀ μ19, μ19 = ui μ17 17 2 ((gi μ17 17 2) + x12) → (∀ μ21, μ21 = ui μ19 17 0 p1 → (∀ μ23, μ23 = ui μ21 17 1 p1 → R x12 μ23))))) ∧ (¬ ((gi μ13 17 2) + x12) ≤ 9999 → R ((-2)) μ13)))) ∧ ((gi μ7 17 0) = p1 → R ((-2)) μ7)))))) ∧ (x2 = 0 → R ((-1)) μ3)))
set_option maxRecDepth 20000 in
set_option maxHeartbeats 4000000 in
theorem wk_X8_goes_0 {X : XT} {P : Post} (hO : OkM X cX8_goes RX8 4 (some .int) P) (hn : xn X = 3) (p1 : Int32)   (μ : Mem) {R : Int32 → Mem → Prop} (hR : ∀ x m, R x m → P (some (.int x)) m)    (h : vc_X8_goes_0 p1  μ R ) : V X 0 [some (.ref 0), some (.int p1), none] [] μ := by
  have hX := hO.1
  unfold vc_X8_goes_0 at h
  refine v_aload_n hX dX8_goes_0 rfl (?_ : V X 1 [some (.ref 0), some (.int p1), none] [.ref 0] μ)
  have hh1 := h.1
  replace h := h.2
  refine v_getp hX (gp μ 1) fk_X8_19 sh_0 rfl rfl dX8_goes_1 (?_ : V X 4 [some (.ref 0), some (.int p1), none] [.ref ((gp μ 1))] μ)
  refine v_iload_n hX dX8_goes_4 rfl (?_ : V X 5 [some (.ref 0), some (.int p1), none] [.int p1, .ref ((gp μ 1))] μ)
  refine v_callV hX sp_X2_hasRoom ck_X2_hasRoom mk_X8_108 mv_X2_hasRoom (sHo hh1) (by decide) (by decide) [.int p1] [] rfl rfl (Nat.le_of_ble_eq_true rfl) dX8_goes_5 ⟨((gp μ 1)), p1, rfl, hh1, h.1, fun x2 μ3 hp4 => (?_ : V X 8 [some (.ref 0), some (.int p1), none] [.int x2] μ3)⟩
  replace h := h.2 x2 μ3 hp4
  refine v_if_ne hX 13 dX8_goes_8 rfl (fun c5 => ?_) (fun c5 => ?_)
  · replace h := h.1 c5
    refine v_aload_n hX dX8_goes_13 rfl (?_ : V X 14 [some (.ref 0), some (.int p1), none] [.ref 0] μ3)
    refine v_getr hX (17) fk_X8_29 sh_0 rfl rfl dX8_goes_14 (?_ : V X 17 [some (.ref 0), some (.int p1), none] [.ref 17] μ3)
    refine v_iload_n hX dX8_goes_17 rfl (?_ : V X 18 [some (.ref 0), some (.int p1), none] [.int p1, .ref 17] μ3)
    refine v_callV hX sp_X7_isSolved ck_X7_isSolved mk_X8_122 mv_X7_isSolved sh_17 (by decide) (by decide) [.int p1] [] rfl rfl (Nat.le_of_ble_eq_true rfl) dX8_goes_18 ⟨p1, rfl, h.1, fun x6 μ7 hp8 => (?_ : V X 21 [some (.ref 0), some (.int p1), none] [.int x6] μ7)⟩
    replace h := h.2 x6 μ7 hp8
    refine v_if_ne hX 35 dX8_goes_21 rfl (fun c9 => ?_) (fun c9 => ?_)
    · replace h := h.1 c9
      refine v_bipush hX (-2) dX8_goes_35 rfl (?_ : V X 37 [some (.ref 0), some (.int p1), none] [.int ((-2))] μ7)
      exact v_iret hO dX8_goes_37 (hR _ _ h)
    · replace h := h.2 c9
      refine v_aload_n hX dX8_goes_24 rfl (?_ : V X 25 [some (.ref 0), some (.int p1), none] [.ref 0] μ7)
      refine v_getr hX (17) fk_X8_29 sh_0 rfl rfl dX8_goes_25 (?_ : V X 28 [some (.ref 0), some (.int p1), none] [.ref 17] μ7)
      refine v_geti hX fk_X8_143 sh_17 rfl dX8_goes_28 (?_ : V X 31 [some (.ref 0), some (.int p1), none] [.int (gi μ7 17 0)] μ7)
      refine v_iload_n hX dX8_goes_31 rfl (?_ : V X 32 [some (.ref 0), some (.int p1), none] [.int p1, .int (gi μ7 17 0)] μ7)
      refine v_icmp_ne hX 38 dX8_goes_32 rfl (fun c10 => ?_) (fun c10 => ?_)
      · replace h := h.1 c10
        refine v_aload_n hX dX8_goes_38 rfl (?_ : V X 39 [some (.ref 0), some (.int p1), none] [.ref 0] μ7)
        have hh11 := h.1
        replace h := h.2
        refine v_getp hX (gp μ7 1) fk_X8_19 sh_0 rfl rfl dX8_goes_39 (?_ : V X 42 [some (.ref 0), some (.int p1), none] [.ref ((gp μ7 1))] μ7)
        refine v_aload_n hX dX8_goes_42 rfl (?_ : V X 43 [some (.ref 0), some (.int p1), none] [.ref 0, .ref ((gp μ7 1))] μ7)
        refine v_getr hX (17) fk_X8_29 sh_0 rfl rfl dX8_goes_43 (?_ : V X 46 [some (.ref 0), some (.int p1), none] [.ref 17, .ref ((gp μ7 1))] μ7)
        refine v_geti hX fk_X8_146 sh_17 rfl dX8_goes_46 (?_ : V X 49 [some (.ref 0), some (.int p1), none] [.int (gi μ7 17 1), .ref ((gp μ7 1))] μ7)
        refine v_iload_n hX dX8_goes_49 rfl (?_ : V X 50 [some (.ref 0), some (.int p1), none] [.int p1, .int (gi μ7 17 1), .ref ((gp μ7 1))] μ7)
        refine v_callV hX sp_X2_walkBetween ck_X2_walkBetween mk_X8_166 mv_X2_walkBetween (sHo hh11) (by decide) (by decide) [.int (gi μ7 17 1), .int p1] [] rfl rfl (Nat.le_of_ble_eq_true rfl) dX8_goes_50 ⟨((gp μ7 1)), (gi μ7 17 1), p1, rfl, hh11, h.1, fun x12 μ13 hp14 => (?_ : V X 53 [some (.ref 0), some (.int p1), none] [.int x12] μ13)⟩
        replace h := h.2 x12 μ13 hp14
        refine v_istore_n hX dX8_goes_53 (by rw [hn]; decide) (?_ : V X 54 [some (.ref 0), some (.int p1), some (.int x12)] [] μ13)
        refine v_aload_n hX dX8_goes_54 rfl (?_ : V X 55 [some (.ref 0), some (.int p1), some (.int x12)] [.ref 0] μ13)
        refine v_getr hX (17) fk_X8_29 sh_0 rfl rfl dX8_goes_55 (?_ : V X 58 [some (.ref 0), some (.int p1), some (.int x12)] [.ref 17] μ13)
        refine v_geti hX fk_X8_149 sh_17 rfl dX8_goes_58 (?_ : V X 61 [some (.ref 0), some (.int p1), some (.int x12)] [.int (gi μ13 17 2)] μ13)
        refine v_iload_n hX dX8_goes_61 rfl (?_ : V X 62 [some (.ref 0), some (.int p1), some (.int x12)] [.int x12, .int (gi μ13 17 2)] μ13)
        refine v_iadd hX dX8_goes_62 (?_ : V X 63 [some (.ref 0), some (.int p1), some (.int x12)] [.int ((gi μ13 17 2) + x12)] μ13)
        refine v_sipush hX 9999 dX8_goes_63 rfl (?_ : V X 66 [some (.ref 0), some (.int p1), some (.int x12)] [.int 9999, .int ((gi μ13 17 2) + x12)] μ13)
        refine v_icmp_le hX 72 dX8_goes_66 rfl (fun c15 => ?_) (fun c15 => ?_)
        · replace h := h.1 c15
          refine v_aload_n hX dX8_goes_72 rfl (?_ : V X 73 [some (.ref 0), some (.int p1), some (.int x12)] [.ref 0] μ13)
          refine v_getr hX (20) fk_X8_36 sh_0 rfl rfl dX8_goes_73 (?_ : V X 76 [some (.ref 0), some (.int p1), some (.int x12)] [.ref 20] μ13)
          refine v_aload_n hX dX8_goes_76 rfl (?_ : V X 77 [some (.ref 0), some (.int p1), some (.int x12)] [.ref 0, .ref 20] μ13)
          refine v_getr hX (17) fk_X8_29 sh_0 rfl rfl dX8_goes_77 (?_ : V X 80 [some (.ref 0), some (.int p1), some (.int x12)] [.ref 17, .ref 20] μ13)
          refine v_callV hX sp_X5_remember ck_X5_remember mk_X8_170 mv_X5_remember sh_20 (by decide) (by decide) [.ref 17] [] rfl rfl (Nat.le_of_ble_eq_true rfl) dX8_goes_80 ⟨rfl, h.1, fun μ17 hp18 => (?_ : V X 83 [some (.ref 0), some (.int p1), some (.int x12)] [] μ17)⟩
          replace h := h.2 μ17 hp18
          refine v_aload_n hX dX8_goes_83 rfl (?_ : V X 84 [some (.ref 0), some (.int p1), some (.int x12)] [.ref 0] μ17)
          refine v_getr hX (17) fk_X8_29 sh_0 rfl rfl dX8_goes_84 (?_ : V X 87 [some (.ref 0), some (.int p1), some (.int x12)] [.ref 17] μ17)
          refine v_dup hX dX8_goes_87 rfl (?_ : V X 88 [some (.ref 0), some (.int p1), some (.int x12)] [.ref 17, .ref 17] μ17)
          refine v_geti hX fk_X8_149 sh_17 rfl dX8_goes_88 (?_ : V X 91 [some (.ref 0), some (.int p1), some (.int x12)] [.int (gi μ17 17 2), .ref 17] μ17)
          refine v_iload_n hX dX8_goes_91 rfl (?_ : V X 92 [some (.ref 0), some (.int p1), some (.int x12)] [.int x12, .int (gi μ17 17 2), .ref 17] μ17)
          refine v_iadd hX dX8_goes_92 (?_ : V X 93 [some (.ref 0), some (.int p1), some (.int x12)] [.int ((gi μ17 17 2) + x12), .ref 17] μ17)
          refine w_puti hX fk_X8_149 fw_7_2 sh_17 rfl dX8_goes_93 (fun μ19 e20 => (?_ : V X 96 [some (.ref 0), some (.int p1), some (.int x12)] [] μ19))
          replace h := h μ19 e20
          refine v_aload_n hX dX8_goes_96 rfl (?_ : V X 97 [some (.ref 0), some (.int p1), some (.int x12)] [.ref 0] μ19)
          refine v_getr hX (17) fk_X8_29 sh_0 rfl rfl dX8_goes_97 (?_ : V X 100 [some (.ref 0), some (.int p1), some (.int x12)] [.ref 17] μ19)
          refine v_iload_n hX dX8_goes_100 rfl (?_ : V X 101 [some (.ref 0), some (.int p1), some (.int x12)] [.int p1, .ref 17] μ19)
          refine w_puti hX fk_X8_143 fw_7_0 sh_17 rfl dX8_goes_101 (fun μ21 e22 => (?_ : V X 104 [some (.ref 0), some (.int p1), some (.int x12)] [] μ21))
          replace h := h μ21 e22
          refine v_aload_n hX dX8_goes_104 rfl (?_ : V X 105 [some (.ref 0), some (.int p1), some (.int x12)] [.ref 0] μ21)
          refine v_getr hX (17) fk_X8_29 sh_0 rfl rfl dX8_goes_105 (?_ : V X 108 [some (.ref 0), some (.int p1), some (.int x12)] [.ref 17] μ21)
          refine v_iload_n hX dX8_goes_108 rfl (?_ : V X 109 [some (.ref 0), some (.int p1), some (.int x12)] [.int p1, .ref 17] μ21)
          refine w_puti hX fk_X8_146 fw_7_1 sh_17 rfl dX8_goes_109 (fun μ23 e24 => (?_ : V X 112 [some (.ref 0), some (.int p1), some (.int x12)] [] μ23))
          replace h := h μ23 e24
          refine v_iload_n hX dX8_goes_112 rfl (?_ : V X 113 [some (.ref 0), some (.int p1), some (.int x12)] [.int x12] μ23)
          exact v_iret hO dX8_goes_113 (hR _ _ h)
        · replace h := h.2 c15
          refine v_bipush hX (-2) dX8_goes_69 rfl (?_ : V X 71 [some (.ref 0), some (.int p1), some (.int x12)] [.int ((-2))] μ13)
          exact v_iret hO dX8_goes_71 (hR _ _ h)
      · replace h := h.2 c10
        refine v_bipush hX (-2) dX8_goes_35 rfl (?_ : V X 37 [some (.ref 0), some (.int p1), none] [.int ((-2))] μ7)
        exact v_iret hO dX8_goes_37 (hR _ _ h)
  · replace h := h.2 c5
    refine v_iconst hX (-1) dX8_goes_11 rfl (?_ : V X 12 [some (.ref 0), some (.int p1), none] [.int ((-1))] μ3)
    exact v_iret hO dX8_goes_12 (hR _ _ h)
set_option maxRecDepth 20000 in
set_option maxHeartbeats 4000000 in
theorem vp_X8_goes_0 (p1 : Int32)  (μ : Mem) (hpre : pre_X8_goes p1 μ) : vc_X8_goes_0 p1 μ (post_X8_goes p1 μ)  := by
  unfold vc_X8_goes_0
  obtain ⟨hw, h1, h2⟩ := hpre
  refine ⟨hw, trivial, ?_⟩
  rintro x2 m2 ⟨hx2, rfl⟩
  by_cases c : p1 < 0 ∨ gi m2 (gp m2 1) 0 ≤ p1
  · rw [if_pos c] at hx2; subst hx2
    refine ⟨fun q => absurd rfl q, fun _ => ?_⟩
    unfold post_X8_goes; rw [if_pos c]; exact ⟨rfl, rfl⟩
  · rw [if_neg c] at hx2; subst hx2
    refine ⟨fun _ => ⟨trivial, ?_⟩, fun q => absurd q (by decide)⟩
    rintro x6 m6 ⟨hx6, rfl⟩
    have bad : (slvI (gi m6 17 3) p1 = 1 ∨ gi m6 17 0 = p1 ∨ 9999 < gi m6 17 2 + walkC m6 p1) → post_X8_goes p1 m6 (-2) m6 := by
      intro q; unfold post_X8_goes; rw [if_neg c, if_pos q]; exact ⟨rfl, rfl⟩
    refine ⟨fun q => ?_, fun q => ⟨fun q2 => ⟨hw, trivial, ?_⟩, fun q2 => bad (Or.inr (Or.inl q2))⟩⟩
    · refine bad (Or.inl ?_)
      split at hx6
      · rename_i z; exact z
      · exact absurd hx6 q
    · have ns : ¬ slvI (gi m6 17 3) p1 = 1 := by
        intro z
        unfold slvI at z
        rw [if_pos z] at hx6
        rw [hx6] at q; exact absurd q (by decide)
      rintro x12 m12 ⟨hx12, rfl⟩
      have ex : x12 = walkC m12 p1 := hx12
      subst ex
      refine ⟨fun q3 => ⟨⟨h1, h2⟩, ?_⟩, fun q3 => bad (Or.inr (Or.inr (nle_lt q3)))⟩
      rintro m ⟨hf, hc, ht, hs⟩ _ rfl _ rfl _ rfl
      have hf' : fr (remF m12) m12 m := hf
      unfold post_X8_goes
      rw [if_neg c, if_neg (by rintro (z | z | z); exact ns z; exact q2 z; exact absurd q3 (by simpa using z))]
      have hF : fr [17] m (ui (ui (ui m 17 2 (gi m 17 2 + walkC m12 p1)) 17 0 p1) 17 1 p1) := fr_trans (fr_trans (fr_ui (by simp)) (fr_ui (by simp))) (fr_ui (by simp))
      refine ⟨rfl, fr_trans (fr_mono hf' (by simp; grind)) (fr_mono hF (by simp)), remP_fr ⟨hc, ht, hs⟩ hF (by simp) (by simp), ?_, ?_, ?_, ?_, ?_⟩
      · simp [gi_ui]
      · simp [gi_ui]
      · simp [gi_ui, rem_lo hf']
      · simp [gi_ui, rem_lo hf']
      · simp [gi_ui, rem_lo hf']
theorem sp_X8_goes : Sp yX8_goes cX8_goes 3 (some .int) 4 S_X8_goes := by
  refine sp_of (by decide) (fun av μ P h => ?_) ?_
  · obtain ⟨p1, rfl, -⟩ := h
    refine ⟨Nat.le_of_ble_eq_true rfl, fun v hv => ?_⟩
    simp only [List.mem_cons, List.not_mem_nil, or_false] at hv
    rcases hv with rfl | rfl <;> rfl
  · rintro X P hO _ μ ⟨p1, rfl, hpre, hpost⟩ hn
    exact wk_X8_goes_0 hO hn p1  μ hpost (vp_X8_goes_0 p1  μ hpre)
def S_X9_goes : Tr := fun av μ P => ∃ (p1 : Int32), av = [.ref 75, .int p1] ∧ pre_X9_goes p1 μ ∧ ∀ (x : Int32) (m : Mem), post_X9_goes p1 μ x m → P (some (.int x)) m
def vc_X9_goes_0 (p1 : Int32)  (μ : Mem) (R : Int32 → Mem → Prop)  : Prop :=
  (∀ μ1, μ1 = ui μ 75 0 0 → (pre_X9_isRoom p1 μ1 ∧ ∀ (x3 : Int32) (μ4 : Mem), post_X9_isRoom p1 μ1 x3 μ4 → ((¬ x3 = 0 → (pre_X9_walk (gi μ4 84 1) p1 μ4 ∧ ∀ (x7 : Int32) (μ8 : Mem), post_X9_walk (gi μ4 84 1) p1 μ4 x7 μ8 → (pre_X9_isSolved p1 μ8 ∧ ∀ (x10 : Int32) (μ11 : Mem), post_X9_isSolved p1 μ8 x10 μ11 → ((¬ x10 = 0 → R ((-2)) μ11) ∧ (x10 = 0 → (((gi μ11 84 0) = (p1 + 1) → R ((-2)) μ11) ∧ (¬ (gi μ11 84 0) = (p1 + 1) → (pre_X9_mayLast x7 μ11 ∧ ∀ (x15 : Int32) (μ16 : Mem), post_X9_mayLast x7 μ11 x15 μ16 → ((¬ x15 = 0 → (pre_X9_notes  μ16 ∧ ∀ (μ20 : Mem), post_X9_notes  μ16 μ20 → (∀ μ22, μ22 = ui μ20 84 0 (p1 + 1) → (∀ μ24, μ24 = ui μ22 84 1 (p1 + 1) → (∀ μ26, μ26 = ui μ24 84 2 ((gi μ24 84 2) + x7) → R x7 μ26))))) ∧ (x15 = 0 → R ((-2)) μ16)))))))))) ∧ (x3 = 0 → R ((-1)) μ4))))
set_option maxRecDepth 20000 in
set_option maxHeartbeats 4000000 in
theorem wk_X9_goes_0 {X : XT} {P : Post} (hO : OkM X cX9_goes RX9 2 (some .int) P) (hn : xn X = 3) (p1 : Int32)   (μ : Mem) {R : Int32 → Mem → Prop} (hR : ∀ x m, R x m → P (some (.int x)) m)    (h : vc_X9_goes_0 p1  μ R ) : V X 0 [some (.ref 75), some (.int p1), none] [] μ := by
  have hX := hO.1
  unfold vc_X9_goes_0 at h
  refine v_aload_n hX dX9_goes_0 rfl (?_ : V X 1 [some (.ref 75), some (.int p1), none] [.ref 75] μ)
  refine v_iconst hX 0 dX9_goes_1 rfl (?_ : V X 2 [some (.ref 75), some (.int p1), none] [.int 0, .ref 75] μ)
  refine w_puti hX fk_X9_74 fw_9_0 sh_75 rfl dX9_goes_2 (fun μ1 e2 => (?_ : V X 5 [some (.ref 75), some (.int p1), none] [] μ1))
  replace h := h μ1 e2
  refine v_aload_n hX dX9_goes_5 rfl (?_ : V X 6 [some (.ref 75), some (.int p1), none] [.ref 75] μ1)
  refine v_iload_n hX dX9_goes_6 rfl (?_ : V X 7 [some (.ref 75), some (.int p1), none] [.int p1, .ref 75] μ1)
  refine v_callV hX sp_X9_isRoom ck_X9_isRoom mk_X9_142 mv_X9_isRoom sh_75 (by decide) (by decide) [.int p1] [] rfl rfl (Nat.le_of_ble_eq_true rfl) dX9_goes_7 ⟨p1, rfl, h.1, fun x3 μ4 hp5 => (?_ : V X 10 [some (.ref 75), some (.int p1), none] [.int x3] μ4)⟩
  replace h := h.2 x3 μ4 hp5
  refine v_if_ne hX 15 dX9_goes_10 rfl (fun c6 => ?_) (fun c6 => ?_)
  · replace h := h.1 c6
    refine v_aload_n hX dX9_goes_15 rfl (?_ : V X 16 [some (.ref 75), some (.int p1), none] [.ref 75] μ4)
    refine v_aload_n hX dX9_goes_16 rfl (?_ : V X 17 [some (.ref 75), some (.int p1), none] [.ref 75, .ref 75] μ4)
    refine v_getr hX (84) fk_X9_34 sh_75 rfl rfl dX9_goes_17 (?_ : V X 20 [some (.ref 75), some (.int p1), none] [.ref 84, .ref 75] μ4)
    refine v_iconst hX 1 dX9_goes_20 rfl (?_ : V X 21 [some (.ref 75), some (.int p1), none] [.int 1, .ref 84, .ref 75] μ4)
    refine w_iald hX 1 sh_84 (vp_lit (by decide)) (by decide) dX9_goes_21 (?_ : V X 22 [some (.ref 75), some (.int p1), none] [.int (gi μ4 84 1), .ref 75] μ4)
    refine v_iload_n hX dX9_goes_22 rfl (?_ : V X 23 [some (.ref 75), some (.int p1), none] [.int p1, .int (gi μ4 84 1), .ref 75] μ4)
    refine v_callV hX sp_X9_walk ck_X9_walk mk_X9_159 mv_X9_walk sh_75 (by decide) (by decide) [.int (gi μ4 84 1), .int p1] [] rfl rfl (Nat.le_of_ble_eq_true rfl) dX9_goes_23 ⟨(gi μ4 84 1), p1, rfl, h.1, fun x7 μ8 hp9 => (?_ : V X 26 [some (.ref 75), some (.int p1), none] [.int x7] μ8)⟩
    replace h := h.2 x7 μ8 hp9
    refine v_istore_n hX dX9_goes_26 (by rw [hn]; decide) (?_ : V X 27 [some (.ref 75), some (.int p1), some (.int x7)] [] μ8)
    refine v_aload_n hX dX9_goes_27 rfl (?_ : V X 28 [some (.ref 75), some (.int p1), some (.int x7)] [.ref 75] μ8)
    refine v_iload_n hX dX9_goes_28 rfl (?_ : V X 29 [some (.ref 75), some (.int p1), some (.int x7)] [.int p1, .ref 75] μ8)
    refine v_callV hX sp_X9_isSolved ck_X9_isSolved mk_X9_146 mv_X9_isSolved sh_75 (by decide) (by decide) [.int p1] [] rfl rfl (Nat.le_of_ble_eq_true rfl) dX9_goes_29 ⟨p1, rfl, h.1, fun x10 μ11 hp12 => (?_ : V X 32 [some (.ref 75), some (.int p1), some (.int x7)] [.int x10] μ11)⟩
    replace h := h.2 x10 μ11 hp12
    refine v_if_ne hX 55 dX9_goes_32 rfl (fun c13 => ?_) (fun c13 => ?_)
    · replace h := h.1 c13
      refine v_bipush hX (-2) dX9_goes_55 rfl (?_ : V X 57 [some (.ref 75), some (.int p1), some (.int x7)] [.int ((-2))] μ11)
      exact v_iret hO dX9_goes_57 (hR _ _ h)
    · replace h := h.2 c13
      refine v_aload_n hX dX9_goes_35 rfl (?_ : V X 36 [some (.ref 75), some (.int p1), some (.int x7)] [.ref 75] μ11)
      refine v_getr hX (84) fk_X9_34 sh_75 rfl rfl dX9_goes_36 (?_ : V X 39 [some (.ref 75), some (.int p1), some (.int x7)] [.ref 84] μ11)
      refine v_iconst hX 0 dX9_goes_39 rfl (?_ : V X 40 [some (.ref 75), some (.int p1), some (.int x7)] [.int 0, .ref 84] μ11)
      refine w_iald hX 0 sh_84 (vp_lit (by decide)) (by decide) dX9_goes_40 (?_ : V X 41 [some (.ref 75), some (.int p1), some (.int x7)] [.int (gi μ11 84 0)] μ11)
      refine v_iload_n hX dX9_goes_41 rfl (?_ : V X 42 [some (.ref 75), some (.int p1), some (.int x7)] [.int p1, .int (gi μ11 84 0)] μ11)
      refine v_iconst hX 1 dX9_goes_42 rfl (?_ : V X 43 [some (.ref 75), some (.int p1), some (.int x7)] [.int 1, .int p1, .int (gi μ11 84 0)] μ11)
      refine v_iadd hX dX9_goes_43 (?_ : V X 44 [some (.ref 75), some (.int p1), some (.int x7)] [.int (p1 + 1), .int (gi μ11 84 0)] μ11)
      refine v_icmp_eq hX 55 dX9_goes_44 rfl (fun c14 => ?_) (fun c14 => ?_)
      · replace h := h.1 c14
        refine v_bipush hX (-2) dX9_goes_55 rfl (?_ : V X 57 [some (.ref 75), some (.int p1), some (.int x7)] [.int ((-2))] μ11)
        exact v_iret hO dX9_goes_57 (hR _ _ h)
      · replace h := h.2 c14
        refine v_aload_n hX dX9_goes_47 rfl (?_ : V X 48 [some (.ref 75), some (.int p1), some (.int x7)] [.ref 75] μ11)
        refine v_iload_n hX dX9_goes_48 rfl (?_ : V X 49 [some (.ref 75), some (.int p1), some (.int x7)] [.int x7, .ref 75] μ11)
        refine v_callV hX sp_X9_mayLast ck_X9_mayLast mk_X9_162 mv_X9_mayLast sh_75 (by decide) (by decide) [.int x7] [] rfl rfl (Nat.le_of_ble_eq_true rfl) dX9_goes_49 ⟨x7, rfl, h.1, fun x15 μ16 hp17 => (?_ : V X 52 [some (.ref 75), some (.int p1), some (.int x7)] [.int x15] μ16)⟩
        replace h := h.2 x15 μ16 hp17
        refine v_if_ne hX 58 dX9_goes_52 rfl (fun c18 => ?_) (fun c18 => ?_)
        · replace h := h.1 c18
          refine v_aload_n hX dX9_goes_58 rfl (?_ : V X 59 [some (.ref 75), some (.int p1), some (.int x7)] [.ref 75] μ16)
          refine v_callV hX sp_X9_notes ck_X9_notes mk_X9_165 mv_X9_notes sh_75 (by decide) (by decide) [] [] rfl rfl (Nat.le_of_ble_eq_true rfl) dX9_goes_59 ⟨rfl, h.1, fun μ20 hp21 => (?_ : V X 62 [some (.ref 75), some (.int p1), some (.int x7)] [] μ20)⟩
          replace h := h.2 μ20 hp21
          refine v_aload_n hX dX9_goes_62 rfl (?_ : V X 63 [some (.ref 75), some (.int p1), some (.int x7)] [.ref 75] μ20)
          refine v_getr hX (84) fk_X9_34 sh_75 rfl rfl dX9_goes_63 (?_ : V X 66 [some (.ref 75), some (.int p1), some (.int x7)] [.ref 84] μ20)
          refine v_iconst hX 0 dX9_goes_66 rfl (?_ : V X 67 [some (.ref 75), some (.int p1), some (.int x7)] [.int 0, .ref 84] μ20)
          refine v_iload_n hX dX9_goes_67 rfl (?_ : V X 68 [some (.ref 75), some (.int p1), some (.int x7)] [.int p1, .int 0, .ref 84] μ20)
          refine v_iconst hX 1 dX9_goes_68 rfl (?_ : V X 69 [some (.ref 75), some (.int p1), some (.int x7)] [.int 1, .int p1, .int 0, .ref 84] μ20)
          refine v_iadd hX dX9_goes_69 (?_ : V X 70 [some (.ref 75), some (.int p1), some (.int x7)] [.int (p1 + 1), .int 0, .ref 84] μ20)
          refine w_iast hX 0 sh_84 (vp_lit (by decide)) (by decide) dX9_goes_70 (fun μ22 e23 => (?_ : V X 71 [some (.ref 75), some (.int p1), some (.int x7)] [] μ22))
          replace h := h μ22 e23
          refine v_aload_n hX dX9_goes_71 rfl (?_ : V X 72 [some (.ref 75), some (.int p1), some (.int x7)] [.ref 75] μ22)
          refine v_getr hX (84) fk_X9_34 sh_75 rfl rfl dX9_goes_72 (?_ : V X 75 [some (.ref 75), some (.int p1), some (.int x7)] [.ref 84] μ22)
          refine v_iconst hX 1 dX9_goes_75 rfl (?_ : V X 76 [some (.ref 75), some (.int p1), some (.int x7)] [.int 1, .ref 84] μ22)
          refine v_iload_n hX dX9_goes_76 rfl (?_ : V X 77 [some (.ref 75), some (.int p1), some (.int x7)] [.int p1, .int 1, .ref 84] μ22)
          refine v_iconst hX 1 dX9_goes_77 rfl (?_ : V X 78 [some (.ref 75), some (.int p1), some (.int x7)] [.int 1, .int p1, .int 1, .ref 84] μ22)
          refine v_iadd hX dX9_goes_78 (?_ : V X 79 [some (.ref 75), some (.int p1), some (.int x7)] [.int (p1 + 1), .int 1, .ref 84] μ22)
          refine w_iast hX 1 sh_84 (vp_lit (by decide)) (by decide) dX9_goes_79 (fun μ24 e25 => (?_ : V X 80 [some (.ref 75), some (.int p1), some (.int x7)] [] μ24))
          replace h := h μ24 e25
          refine v_aload_n hX dX9_goes_80 rfl (?_ : V X 81 [some (.ref 75), some (.int p1), some (.int x7)] [.ref 75] μ24)
          refine v_getr hX (84) fk_X9_34 sh_75 rfl rfl dX9_goes_81 (?_ : V X 84 [some (.ref 75), some (.int p1), some (.int x7)] [.ref 84] μ24)
          refine v_iconst hX 2 dX9_goes_84 rfl (?_ : V X 85 [some (.ref 75), some (.int p1), some (.int x7)] [.int 2, .ref 84] μ24)
          refine v_dup2 hX dX9_goes_85 rfl rfl (?_ : V X 86 [some (.ref 75), some (.int p1), some (.int x7)] [.int 2, .ref 84, .int 2, .ref 84] μ24)
          refine w_iald hX 2 sh_84 (vp_lit (by decide)) (by decide) dX9_goes_86 (?_ : V X 87 [some (.ref 75), some (.int p1), some (.int x7)] [.int (gi μ24 84 2), .int 2, .ref 84] μ24)
          refine v_iload_n hX dX9_goes_87 rfl (?_ : V X 88 [some (.ref 75), some (.int p1), some (.int x7)] [.int x7, .int (gi μ24 84 2), .int 2, .ref 84] μ24)
          refine v_iadd hX dX9_goes_88 (?_ : V X 89 [some (.ref 75), some (.int p1), some (.int x7)] [.int ((gi μ24 84 2) + x7), .int 2, .ref 84] μ24)
          refine w_iast hX 2 sh_84 (vp_lit (by decide)) (by decide) dX9_goes_89 (fun μ26 e27 => (?_ : V X 90 [some (.ref 75), some (.int p1), some (.int x7)] [] μ26))
          replace h := h μ26 e27
          refine v_iload_n hX dX9_goes_90 rfl (?_ : V X 91 [some (.ref 75), some (.int p1), some (.int x7)] [.int x7] μ26)
          exact v_iret hO dX9_goes_91 (hR _ _ h)
        · replace h := h.2 c18
          refine v_bipush hX (-2) dX9_goes_55 rfl (?_ : V X 57 [some (.ref 75), some (.int p1), some (.int x7)] [.int ((-2))] μ16)
          exact v_iret hO dX9_goes_57 (hR _ _ h)
  · replace h := h.2 c6
    refine v_iconst hX (-1) dX9_goes_13 rfl (?_ : V X 14 [some (.ref 75), some (.int p1), none] [.int ((-1))] μ4)
    exact v_iret hO dX9_goes_14 (hR _ _ h)
set_option maxRecDepth 20000 in
set_option maxHeartbeats 4000000 in
theorem vp_X9_goes_0 (p1 : Int32)  (μ : Mem) (hpre : pre_X9_goes p1 μ) : vc_X9_goes_0 p1 μ (post_X9_goes p1 μ)  := by
  unfold vc_X9_goes_0
  obtain ⟨h1, h2⟩ := hpre
  rintro _ rfl
  refine ⟨h1, ?_⟩
  rintro x3 m3 ⟨hx3, rfl⟩
  rw [show gi (ui μ 75 0 0) 77 0 = gi μ 77 0 from rfl] at hx3
  by_cases c : p1 < 0 ∨ gi μ 77 0 ≤ p1
  · rw [if_pos c] at hx3; subst hx3
    refine ⟨fun q => absurd rfl q, fun _ => ?_⟩
    unfold post_X9_goes; rw [if_pos c]; exact ⟨rfl, rfl⟩
  · rw [if_neg c] at hx3; subst hx3
    refine ⟨fun _ => ⟨trivial, ?_⟩, fun q => absurd q (by decide)⟩
    rintro x7 m7 ⟨hx7, rfl⟩
    have ex : x7 = walkF (gi μ 77 4) (gi μ 84 1) p1 := hx7
    subst ex
    refine ⟨trivial, ?_⟩
    rintro x10 m10 ⟨hx10, rfl⟩
    rw [show gi (ui μ 75 0 0) 84 3 = gi μ 84 3 from rfl] at hx10
    have bad : (slvI (gi μ 84 3) p1 = 1 ∨ gi μ 84 0 = p1 + 1 ∨ 9999 < gi μ 84 2 + walkF (gi μ 77 4) (gi μ 84 1) p1) → post_X9_goes p1 μ (-2) (ui μ 75 0 0) := by
      intro q; unfold post_X9_goes; rw [if_neg c, if_pos q]; exact ⟨rfl, rfl⟩
    refine ⟨fun q => ?_, fun q => ⟨fun q2 => bad (Or.inr (Or.inl q2)), fun q2 => ⟨trivial, ?_⟩⟩⟩
    · refine bad (Or.inl ?_)
      split at hx10
      · rename_i z; exact z
      · exact absurd hx10 q
    · have ns : ¬ slvI (gi μ 84 3) p1 = 1 := by
        intro z
        rw [if_pos z] at hx10
        rw [hx10] at q; exact absurd q (by decide)
      rintro x15 m15 ⟨hx15, rfl⟩
      rw [show gi (ui μ 75 0 0) 84 2 = gi μ 84 2 from rfl] at hx15
      refine ⟨fun q3 => ⟨h2, ?_⟩, fun q3 => ?_⟩
      · intro m hn
        obtain ⟨hf, hN⟩ := noteP_of hn
        rintro _ rfl _ rfl _ rfl
        have q4 : ¬ 9999 < gi μ 84 2 + walkF (gi μ 77 4) (gi μ 84 1) p1 := by
          intro z; rw [if_pos z] at hx15; exact q3 hx15
        have k84 : ∀ k, gi m 84 k = gi μ 84 k := fun k => hf.1 84 (by simp) k
        unfold post_X9_goes
        have q2' : ¬ gi μ 84 0 = p1 + 1 := q2
        rw [if_neg c, if_neg (by rintro (z | z | z); exact ns z; exact q2' z; exact q4 z)]
        have hF : fr [84] m (ui (ui (ui m 84 0 (p1 + 1)) 84 1 (p1 + 1)) 84 2 (gi (ui (ui m 84 0 (p1 + 1)) 84 1 (p1 + 1)) 84 2 + walkF (gi μ 77 4) (gi μ 84 1) p1)) := fr_trans (fr_trans (fr_ui (by simp)) (fr_ui (by simp))) (fr_ui (by simp))
        refine ⟨rfl, fr_trans (fr_mono hf (by simp)) (fr_mono hF (by simp)), noteP_fr hN hF (by simp) (by simp), ?_, ?_, ?_, fun k hk => ?_⟩
        · simp [gi_ui]
        · simp [gi_ui]
        · simp [gi_ui, k84]
        · rw [gi_ui, if_neg (by omega), gi_ui, if_neg (by omega), gi_ui, if_neg (by omega), k84]
      · refine bad (Or.inr (Or.inr ?_))
        split at hx15
        · rename_i z; exact z
        · rw [hx15] at q3; exact absurd q3 (by decide)
theorem sp_X9_goes : Sp yX9_goes cX9_goes 3 (some .int) 2 S_X9_goes := by
  refine sp_of (by decide) (fun av μ P h => ?_) ?_
  · obtain ⟨p1, rfl, -⟩ := h
    refine ⟨Nat.le_of_ble_eq_true rfl, fun v hv => ?_⟩
    simp only [List.mem_cons, List.not_mem_nil, or_false] at hv
    rcases hv with rfl | rfl <;> rfl
  · rintro X P hO _ μ ⟨p1, rfl, hpre, hpost⟩ hn
    exact wk_X9_goes_0 hO hn p1  μ hpost (vp_X9_goes_0 p1  μ hpre)
def S_X8_does : Tr := fun av μ P => ∃ (p1 : Int32), av = [.ref 0, .int p1] ∧ pre_X8_does p1 μ ∧ ∀ (x : Int32) (m : Mem), post_X8_does p1 μ x m → P (some (.int x)) m
def vc_X8_does_0 (p1 : Int32)  (μ : Mem) (R : Int32 → Mem → Prop)  : Prop :=
  ((gp μ 1) = 3 ∨ (gp μ 1) = 10) ∧ (pre_X2_hasDoing ((gp μ 1)) p1 μ ∧ ∀ (x2 : Int32) (μ3 : Mem), post_X2_hasDoing ((gp μ 1)) p1 μ x2 μ3 → ((¬ x2 = 0 → ((gp μ3 1) = 3 ∨ (gp μ3 1) = 10) ∧ (pre_X2_hasRoom ((gp μ3 1)) (gi μ3 17 0) μ3 ∧ ∀ (x7 : Int32) (μ8 : Mem), post_X2_hasRoom ((gp μ3 1)) (gi μ3 17 0) μ3 x7 μ8 → ((x7 = 0 → R ((-2)) μ8) ∧ (¬ x7 = 0 → ((gp μ8 1) = 3 ∨ (gp μ8 1) = 10) ∧ vp_in p1 5 ∧ ((((gi μ8 17 2) + (gi μ8 (((gp μ8 1)) + 5) (Int32.toNatClampNeg p1))) ≤ 9999 → (pre_X5_remember  μ8 ∧ ∀ (μ15 : Mem), post_X5_remember  μ8 μ15 → ((gp μ15 1) = 3 ∨ (gp μ15 1) = 10) ∧ (pre_X7_takeDoing ((gp μ15 1)) (gi μ3 17 0) p1 μ15 ∧ ∀ (μ19 : Mem), post_X7_takeDoing ((gp μ15 1)) (gi μ3 17 0) p1 μ15 μ19 → (pre_X7_isSolved (gi μ3 17 0) μ19 ∧ ∀ (x21 : Int32) (μ22 : Mem), post_X7_isSolved (gi μ3 17 0) μ19 x21 μ22 → ((x21 = 0 → R 0 μ22) ∧ (¬ x21 = 0 → R 1 μ22)))))) ∧ (¬ ((gi μ8 17 2) + (gi μ8 (((gp μ8 1)) + 5) (Int32.toNatClampNeg p1))) ≤ 9999 → R ((-2)) μ8)))))) ∧ (x2 = 0 → R ((-1)) μ3)))
set_option maxRecDepth 20000 in
set_option maxHeartbeats 4000000 in
theorem wk_X8_does_0 {X : XT} {P : Post} (hO : OkM X cX8_does RX8 4 (some .int) P) (hn : xn X = 3) (p1 : Int32)   (μ : Mem) {R : Int32 → Mem → Prop} (hR : ∀ x m, R x m → P (some (.int x)) m)    (h : vc_X8_does_0 p1  μ R ) : V X 0 [some (.ref 0), some (.int p1), none] [] μ := by
  have hX := hO.1
  unfold vc_X8_does_0 at h
  refine v_aload_n hX dX8_does_0 rfl (?_ : V X 1 [some (.ref 0), some (.int p1), none] [.ref 0] μ)
  have hh1 := h.1
  replace h := h.2
  refine v_getp hX (gp μ 1) fk_X8_19 sh_0 rfl rfl dX8_does_1 (?_ : V X 4 [some (.ref 0), some (.int p1), none] [.ref ((gp μ 1))] μ)
  refine v_iload_n hX dX8_does_4 rfl (?_ : V X 5 [some (.ref 0), some (.int p1), none] [.int p1, .ref ((gp μ 1))] μ)
  refine v_callV hX sp_X2_hasDoing ck_X2_hasDoing mk_X8_128 mv_X2_hasDoing (sHo hh1) (by decide) (by decide) [.int p1] [] rfl rfl (Nat.le_of_ble_eq_true rfl) dX8_does_5 ⟨((gp μ 1)), p1, rfl, hh1, h.1, fun x2 μ3 hp4 => (?_ : V X 8 [some (.ref 0), some (.int p1), none] [.int x2] μ3)⟩
  replace h := h.2 x2 μ3 hp4
  refine v_if_ne hX 13 dX8_does_8 rfl (fun c5 => ?_) (fun c5 => ?_)
  · replace h := h.1 c5
    refine v_aload_n hX dX8_does_13 rfl (?_ : V X 14 [some (.ref 0), some (.int p1), none] [.ref 0] μ3)
    refine v_getr hX (17) fk_X8_29 sh_0 rfl rfl dX8_does_14 (?_ : V X 17 [some (.ref 0), some (.int p1), none] [.ref 17] μ3)
    refine v_geti hX fk_X8_143 sh_17 rfl dX8_does_17 (?_ : V X 20 [some (.ref 0), some (.int p1), none] [.int (gi μ3 17 0)] μ3)
    refine v_istore_n hX dX8_does_20 (by rw [hn]; decide) (?_ : V X 21 [some (.ref 0), some (.int p1), some (.int (gi μ3 17 0))] [] μ3)
    refine v_aload_n hX dX8_does_21 rfl (?_ : V X 22 [some (.ref 0), some (.int p1), some (.int (gi μ3 17 0))] [.ref 0] μ3)
    have hh6 := h.1
    replace h := h.2
    refine v_getp hX (gp μ3 1) fk_X8_19 sh_0 rfl rfl dX8_does_22 (?_ : V X 25 [some (.ref 0), some (.int p1), some (.int (gi μ3 17 0))] [.ref ((gp μ3 1))] μ3)
    refine v_iload_n hX dX8_does_25 rfl (?_ : V X 26 [some (.ref 0), some (.int p1), some (.int (gi μ3 17 0))] [.int (gi μ3 17 0), .ref ((gp μ3 1))] μ3)
    refine v_callV hX sp_X2_hasRoom ck_X2_hasRoom mk_X8_108 mv_X2_hasRoom (sHo hh6) (by decide) (by decide) [.int (gi μ3 17 0)] [] rfl rfl (Nat.le_of_ble_eq_true rfl) dX8_does_26 ⟨((gp μ3 1)), (gi μ3 17 0), rfl, hh6, h.1, fun x7 μ8 hp9 => (?_ : V X 29 [some (.ref 0), some (.int p1), some (.int (gi μ3 17 0))] [.int x7] μ8)⟩
    replace h := h.2 x7 μ8 hp9
    refine v_if_eq hX 55 dX8_does_29 rfl (fun c10 => ?_) (fun c10 => ?_)
    · replace h := h.1 c10
      refine v_bipush hX (-2) dX8_does_55 rfl (?_ : V X 57 [some (.ref 0), some (.int p1), some (.int (gi μ3 17 0))] [.int ((-2))] μ8)
      exact v_iret hO dX8_does_57 (hR _ _ h)
    · replace h := h.2 c10
      refine v_aload_n hX dX8_does_32 rfl (?_ : V X 33 [some (.ref 0), some (.int p1), some (.int (gi μ3 17 0))] [.ref 0] μ8)
      refine v_getr hX (17) fk_X8_29 sh_0 rfl rfl dX8_does_33 (?_ : V X 36 [some (.ref 0), some (.int p1), some (.int (gi μ3 17 0))] [.ref 17] μ8)
      refine v_geti hX fk_X8_149 sh_17 rfl dX8_does_36 (?_ : V X 39 [some (.ref 0), some (.int p1), some (.int (gi μ3 17 0))] [.int (gi μ8 17 2)] μ8)
      refine v_aload_n hX dX8_does_39 rfl (?_ : V X 40 [some (.ref 0), some (.int p1), some (.int (gi μ3 17 0))] [.ref 0, .int (gi μ8 17 2)] μ8)
      have hh11 := h.1
      replace h := h.2
      refine v_getp hX (gp μ8 1) fk_X8_19 sh_0 rfl rfl dX8_does_40 (?_ : V X 43 [some (.ref 0), some (.int p1), some (.int (gi μ3 17 0))] [.ref ((gp μ8 1)), .int (gi μ8 17 2)] μ8)
      refine v_getr hX (((gp μ8 1)) + 5) fk_X8_134 (sHo hh11) rfl rfl dX8_does_43 (?_ : V X 46 [some (.ref 0), some (.int p1), some (.int (gi μ3 17 0))] [.ref (((gp μ8 1)) + 5), .int (gi μ8 17 2)] μ8)
      refine v_iload_n hX dX8_does_46 rfl (?_ : V X 47 [some (.ref 0), some (.int p1), some (.int (gi μ3 17 0))] [.int p1, .ref (((gp μ8 1)) + 5), .int (gi μ8 17 2)] μ8)
      have hb12 := h.1
      replace h := h.2
      refine w_iald hX (Int32.toNatClampNeg p1) (sH5 hh11) hb12 rfl dX8_does_47 (?_ : V X 48 [some (.ref 0), some (.int p1), some (.int (gi μ3 17 0))] [.int (gi μ8 (((gp μ8 1)) + 5) (Int32.toNatClampNeg p1)), .int (gi μ8 17 2)] μ8)
      refine v_iadd hX dX8_does_48 (?_ : V X 49 [some (.ref 0), some (.int p1), some (.int (gi μ3 17 0))] [.int ((gi μ8 17 2) + (gi μ8 (((gp μ8 1)) + 5) (Int32.toNatClampNeg p1)))] μ8)
      refine v_sipush hX 9999 dX8_does_49 rfl (?_ : V X 52 [some (.ref 0), some (.int p1), some (.int (gi μ3 17 0))] [.int 9999, .int ((gi μ8 17 2) + (gi μ8 (((gp μ8 1)) + 5) (Int32.toNatClampNeg p1)))] μ8)
      refine v_icmp_le hX 58 dX8_does_52 rfl (fun c13 => ?_) (fun c13 => ?_)
      · replace h := h.1 c13
        refine v_aload_n hX dX8_does_58 rfl (?_ : V X 59 [some (.ref 0), some (.int p1), some (.int (gi μ3 17 0))] [.ref 0] μ8)
        refine v_getr hX (20) fk_X8_36 sh_0 rfl rfl dX8_does_59 (?_ : V X 62 [some (.ref 0), some (.int p1), some (.int (gi μ3 17 0))] [.ref 20] μ8)
        refine v_aload_n hX dX8_does_62 rfl (?_ : V X 63 [some (.ref 0), some (.int p1), some (.int (gi μ3 17 0))] [.ref 0, .ref 20] μ8)
        refine v_getr hX (17) fk_X8_29 sh_0 rfl rfl dX8_does_63 (?_ : V X 66 [some (.ref 0), some (.int p1), some (.int (gi μ3 17 0))] [.ref 17, .ref 20] μ8)
        refine v_callV hX sp_X5_remember ck_X5_remember mk_X8_170 mv_X5_remember sh_20 (by decide) (by decide) [.ref 17] [] rfl rfl (Nat.le_of_ble_eq_true rfl) dX8_does_66 ⟨rfl, h.1, fun μ15 hp16 => (?_ : V X 69 [some (.ref 0), some (.int p1), some (.int (gi μ3 17 0))] [] μ15)⟩
        replace h := h.2 μ15 hp16
        refine v_aload_n hX dX8_does_69 rfl (?_ : V X 70 [some (.ref 0), some (.int p1), some (.int (gi μ3 17 0))] [.ref 0] μ15)
        refine v_getr hX (17) fk_X8_29 sh_0 rfl rfl dX8_does_70 (?_ : V X 73 [some (.ref 0), some (.int p1), some (.int (gi μ3 17 0))] [.ref 17] μ15)
        refine v_aload_n hX dX8_does_73 rfl (?_ : V X 74 [some (.ref 0), some (.int p1), some (.int (gi μ3 17 0))] [.ref 0, .ref 17] μ15)
        have hh17 := h.1
        replace h := h.2
        refine v_getp hX (gp μ15 1) fk_X8_19 sh_0 rfl rfl dX8_does_74 (?_ : V X 77 [some (.ref 0), some (.int p1), some (.int (gi μ3 17 0))] [.ref ((gp μ15 1)), .ref 17] μ15)
        refine v_iload_n hX dX8_does_77 rfl (?_ : V X 78 [some (.ref 0), some (.int p1), some (.int (gi μ3 17 0))] [.int (gi μ3 17 0), .ref ((gp μ15 1)), .ref 17] μ15)
        refine v_iload_n hX dX8_does_78 rfl (?_ : V X 79 [some (.ref 0), some (.int p1), some (.int (gi μ3 17 0))] [.int p1, .int (gi μ3 17 0), .ref ((gp μ15 1)), .ref 17] μ15)
        refine v_callV hX sp_X7_takeDoing ck_X7_takeDoing mk_X8_174 mv_X7_takeDoing sh_17 (by decide) (by decide) [.ref ((gp μ15 1)), .int (gi μ3 17 0), .int p1] [] rfl rfl (Nat.le_of_ble_eq_true rfl) dX8_does_79 ⟨((gp μ15 1)), (gi μ3 17 0), p1, rfl, hh17, h.1, fun μ19 hp20 => (?_ : V X 82 [some (.ref 0), some (.int p1), some (.int (gi μ3 17 0))] [] μ19)⟩
        replace h := h.2 μ19 hp20
        refine v_aload_n hX dX8_does_82 rfl (?_ : V X 83 [some (.ref 0), some (.int p1), some (.int (gi μ3 17 0))] [.ref 0] μ19)
        refine v_getr hX (17) fk_X8_29 sh_0 rfl rfl dX8_does_83 (?_ : V X 86 [some (.ref 0), some (.int p1), some (.int (gi μ3 17 0))] [.ref 17] μ19)
        refine v_iload_n hX dX8_does_86 rfl (?_ : V X 87 [some (.ref 0), some (.int p1), some (.int (gi μ3 17 0))] [.int (gi μ3 17 0), .ref 17] μ19)
        refine v_callV hX sp_X7_isSolved ck_X7_isSolved mk_X8_122 mv_X7_isSolved sh_17 (by decide) (by decide) [.int (gi μ3 17 0)] [] rfl rfl (Nat.le_of_ble_eq_true rfl) dX8_does_87 ⟨(gi μ3 17 0), rfl, h.1, fun x21 μ22 hp23 => (?_ : V X 90 [some (.ref 0), some (.int p1), some (.int (gi μ3 17 0))] [.int x21] μ22)⟩
        replace h := h.2 x21 μ22 hp23
        refine v_if_eq hX 97 dX8_does_90 rfl (fun c24 => ?_) (fun c24 => ?_)
        · replace h := h.1 c24
          refine v_iconst hX 0 dX8_does_97 rfl (?_ : V X 98 [some (.ref 0), some (.int p1), some (.int (gi μ3 17 0))] [.int 0] μ22)
          exact v_iret hO dX8_does_98 (hR _ _ h)
        · replace h := h.2 c24
          refine v_iconst hX 1 dX8_does_93 rfl (?_ : V X 94 [some (.ref 0), some (.int p1), some (.int (gi μ3 17 0))] [.int 1] μ22)
          refine v_goto hX 98 dX8_does_94 rfl (?_ : V X 98 [some (.ref 0), some (.int p1), some (.int (gi μ3 17 0))] [.int 1] μ22)
          exact v_iret hO dX8_does_98 (hR _ _ h)
      · replace h := h.2 c13
        refine v_bipush hX (-2) dX8_does_55 rfl (?_ : V X 57 [some (.ref 0), some (.int p1), some (.int (gi μ3 17 0))] [.int ((-2))] μ8)
        exact v_iret hO dX8_does_57 (hR _ _ h)
  · replace h := h.2 c5
    refine v_iconst hX (-1) dX8_does_11 rfl (?_ : V X 12 [some (.ref 0), some (.int p1), none] [.int ((-1))] μ3)
    exact v_iret hO dX8_does_12 (hR _ _ h)
set_option maxRecDepth 20000 in
set_option maxHeartbeats 4000000 in
theorem vp_X8_does_0 (p1 : Int32)  (μ : Mem) (hpre : pre_X8_does p1 μ) : vc_X8_does_0 p1 μ (post_X8_does p1 μ)  := by
  unfold vc_X8_does_0
  obtain ⟨hw, h1, h2, h3, h4⟩ := hpre
  refine ⟨hw, trivial, ?_⟩
  rintro x2 m2 ⟨hx2, rfl⟩
  by_cases c : p1 < 0 ∨ gi m2 (gp m2 1) 4 ≤ p1
  · rw [if_pos c] at hx2; subst hx2
    refine ⟨fun q => absurd rfl q, fun _ => ?_⟩
    unfold post_X8_does; rw [if_pos c]; exact ⟨rfl, rfl⟩
  · rw [if_neg c] at hx2; subst hx2
    have hin1 := ix_in (N := 5) h4 (by omega) (by omega) (by omega) c
    refine ⟨fun _ => ⟨hw, trivial, ?_⟩, fun q => absurd q (by decide)⟩
    rintro x7 m7 ⟨hx7, rfl⟩
    have bad : (gi m7 17 0 < 0 ∨ gi m7 (gp m7 1) 0 ≤ gi m7 17 0 ∨ 9999 < gi m7 17 2 + gi m7 (gp m7 1 + 5) p1.toNatClampNeg) → post_X8_does p1 m7 (-2) m7 := by
      intro q; unfold post_X8_does; rw [if_neg c, if_pos q]; exact ⟨rfl, rfl⟩
    by_cases c2 : gi m7 17 0 < 0 ∨ gi m7 (gp m7 1) 0 ≤ gi m7 17 0
    · rw [if_pos c2] at hx7; subst hx7
      exact ⟨fun _ => bad (by grind), fun q => absurd rfl q⟩
    · rw [if_neg c2] at hx7; subst hx7
      have hin0 := ix_in (N := 5) h3 (by omega) (by omega) (by omega) c2
      refine ⟨fun q => absurd q (by decide), fun _ => ⟨hw, hin1, fun q3 => ⟨⟨h1, h2⟩, ?_⟩, fun q3 => bad (Or.inr (Or.inr (nle_lt q3)))⟩⟩
      rintro m ⟨hf, hc, ht, hs⟩
      have hf' : fr (remF m7) m7 m := hf
      have hgp : gp m 1 = gp m7 1 := rem_gp hf' 1
      rw [hgp]
      refine ⟨hw, ⟨hin0, hin1⟩, ?_⟩
      rintro m' ⟨tf, t1, t2, t4, t18, t19, tS⟩
      refine ⟨trivial, ?_⟩
      rintro x21 m21 ⟨hx21, rfl⟩
      have hwlo : gp m7 1 + 6 < 20 := by unfold hsOK at hw; omega
      have hl : lossC m (gp m7 1) (gi m7 17 0) p1 = lossC m7 (gp m7 1) (gi m7 17 0) p1 := by
        unfold lossC; rw [rem_lo hf' (by omega), rem_lo hf' (by omega), rem_lo hf' (by omega)]
      have fin : post_X8_does p1 m7 (if slvI (gi m21 17 3) (gi m7 17 0) = 1 then 1 else 0) m21 := by
        unfold post_X8_does
        rw [if_neg c, if_neg (by rintro (z | z | z); exact c2 (Or.inl z); exact c2 (Or.inr z); exact absurd q3 (by simpa using z))]
        refine ⟨rfl, fr_trans (fr_mono hf' (by simp; grind)) (fr_mono tf (by simp)), remP_fr ⟨hc, ht, hs⟩ tf (by simp) (by simp), ?_, ?_, ?_, ?_, ?_, ?_⟩
        · rw [t1, rem_lo hf' (by omega)]
        · rw [t2, rem_lo hf' (by omega), rem_lo hf' (by omega)]
        · rw [t4, rem_lo hf' (by omega)]
        · intro j; rw [t18 j, hl, rem_lo hf' (by omega)]; rfl
        · intro j; rw [t19 j, rem_lo hf' (by omega)]; rfl
        · rw [hl] at tS
          simp only [rem_lo hf' (show 17 < 20 by omega), rem_lo hf' (show 18 < 20 by omega)] at tS
          exact tS
      have fx : (if slvI (gi m21 17 3) (gi m7 17 0) = 1 then (1 : Int32) else 0) = x21 := by rw [hx21]; rfl
      rw [fx] at fin
      refine ⟨fun q => by rw [q] at fin; exact fin, fun q => ?_⟩
      have : x21 = 1 := by
        split at fx
        · exact fx.symm
        · exact absurd fx.symm q
      rw [this] at fin; exact fin
theorem sp_X8_does : Sp yX8_does cX8_does 3 (some .int) 4 S_X8_does := by
  refine sp_of (by decide) (fun av μ P h => ?_) ?_
  · obtain ⟨p1, rfl, -⟩ := h
    refine ⟨Nat.le_of_ble_eq_true rfl, fun v hv => ?_⟩
    simp only [List.mem_cons, List.not_mem_nil, or_false] at hv
    rcases hv with rfl | rfl <;> rfl
  · rintro X P hO _ μ ⟨p1, rfl, hpre, hpost⟩ hn
    exact wk_X8_does_0 hO hn p1  μ hpost (vp_X8_does_0 p1  μ hpre)

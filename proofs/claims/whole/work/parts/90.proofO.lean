def S_X6_readRoom : Tr := fun av μ P => ∃ (w : Nat), av = [.ref 1, .ref w] ∧ (w = 3 ∨ w = 10) ∧ pre_X6_readRoom w μ ∧ ∀ (x : Int32) (m : Mem), post_X6_readRoom w μ x m → P (some (.int x)) m
def vc_X6_readRoom_0 (w : Nat)  (μ : Mem) (R : Int32 → Mem → Prop)  : Prop :=
  (((gi μ w 0) < 5 → (∀ μ2, μ2 = ui μ 1 3 ((gi μ 1 3) + 1) → (pre_X6_readNumber 0 30 μ2 ∧ ∀ (x4 : Int32) (μ5 : Mem), post_X6_readNumber 0 30 μ2 x4 μ5 → vp_in (gi μ w 0) 5 ∧ (∀ μ8, μ8 = ui μ5 (w + 1) (Int32.toNatClampNeg (gi μ w 0)) x4 → vp_in (gi μ w 0) 5 ∧ ((0 ≤ (gi μ8 (w + 1) (Int32.toNatClampNeg (gi μ w 0))) → (pre_X6_readNumber 0 3 μ8 ∧ ∀ (x12 : Int32) (μ13 : Mem), post_X6_readNumber 0 3 μ8 x12 μ13 → vp_in (gi μ w 0) 5 ∧ (∀ μ16, μ16 = ui μ13 (w + 2) (Int32.toNatClampNeg (gi μ w 0)) x12 → vp_in (gi μ w 0) 5 ∧ ((0 ≤ (gi μ16 (w + 2) (Int32.toNatClampNeg (gi μ w 0))) → (pre_X6_readNumber 0 99 μ16 ∧ ∀ (x20 : Int32) (μ21 : Mem), post_X6_readNumber 0 99 μ16 x20 μ21 → vp_in (gi μ w 0) 5 ∧ (∀ μ24, μ24 = ui μ21 (w + 3) (Int32.toNatClampNeg (gi μ w 0)) x20 → (∀ μ26, μ26 = ui μ24 w 0 ((gi μ24 w 0) + 1) → vp_in (gi μ w 0) 5 ∧ (((gi μ26 (w + 3) (Int32.toNatClampNeg (gi μ w 0))) < 0 → R 0 μ26) ∧ (¬ (gi μ26 (w + 3) (Int32.toNatClampNeg (gi μ w 0))) < 0 → R 1 μ26)))))) ∧ (¬ 0 ≤ (gi μ16 (w + 2) (Int32.toNatClampNeg (gi μ w 0))) → R 0 μ16))))) ∧ (¬ 0 ≤ (gi μ8 (w + 1) (Int32.toNatClampNeg (gi μ w 0))) → R 0 μ8)))))) ∧ (¬ (gi μ w 0) < 5 → (pre_X6_failsAt (gi μ 1 3) μ ∧ ∀ (x30 : Int32) (μ31 : Mem), post_X6_failsAt (gi μ 1 3) μ x30 μ31 → (x30 = 0 ∨ x30 = 1) ∧ R x30 μ31)))
set_option maxRecDepth 20000 in
set_option maxHeartbeats 4000000 in
theorem wk_X6_readRoom_0 {X : XT} {P : Post} (hO : OkM X cX6_readRoom RX6 2 (some .boolean) P) (hn : xn X = 3) (w : Nat) (hw : w = 3 ∨ w = 10)  (μ : Mem) {R : Int32 → Mem → Prop} (hR : ∀ x m, R x m → P (some (.int x)) m)    (h : vc_X6_readRoom_0 w  μ R ) : V X 0 [some (.ref 1), some (.ref w), none] [] μ := by
  have hX := hO.1
  unfold vc_X6_readRoom_0 at h
  refine v_aload_n hX dX6_readRoom_0 rfl (?_ : V X 1 [some (.ref 1), some (.ref w), none] [.ref w] μ)
  refine v_geti hX fk_X6_73 (sHo hw) rfl dX6_readRoom_1 (?_ : V X 4 [some (.ref 1), some (.ref w), none] [.int (gi μ w 0)] μ)
  refine v_istore_n hX dX6_readRoom_4 (by rw [hn]; decide) (?_ : V X 5 [some (.ref 1), some (.ref w), some (.int (gi μ w 0))] [] μ)
  refine v_iload_n hX dX6_readRoom_5 rfl (?_ : V X 6 [some (.ref 1), some (.ref w), some (.int (gi μ w 0))] [.int (gi μ w 0)] μ)
  refine v_iconst hX 5 dX6_readRoom_6 rfl (?_ : V X 7 [some (.ref 1), some (.ref w), some (.int (gi μ w 0))] [.int 5, .int (gi μ w 0)] μ)
  refine v_icmp_lt hX 19 dX6_readRoom_7 rfl (fun c1 => ?_) (fun c1 => ?_)
  · replace h := h.1 c1
    refine v_aload_n hX dX6_readRoom_19 rfl (?_ : V X 20 [some (.ref 1), some (.ref w), some (.int (gi μ w 0))] [.ref 1] μ)
    refine v_dup hX dX6_readRoom_20 rfl (?_ : V X 21 [some (.ref 1), some (.ref w), some (.int (gi μ w 0))] [.ref 1, .ref 1] μ)
    refine v_geti hX fk_X6_27 sh_1 rfl dX6_readRoom_21 (?_ : V X 24 [some (.ref 1), some (.ref w), some (.int (gi μ w 0))] [.int (gi μ 1 3), .ref 1] μ)
    refine v_iconst hX 1 dX6_readRoom_24 rfl (?_ : V X 25 [some (.ref 1), some (.ref w), some (.int (gi μ w 0))] [.int 1, .int (gi μ 1 3), .ref 1] μ)
    refine v_iadd hX dX6_readRoom_25 (?_ : V X 26 [some (.ref 1), some (.ref w), some (.int (gi μ w 0))] [.int ((gi μ 1 3) + 1), .ref 1] μ)
    refine w_puti hX fk_X6_27 fw_6_3 sh_1 rfl dX6_readRoom_26 (fun μ2 e3 => (?_ : V X 29 [some (.ref 1), some (.ref w), some (.int (gi μ w 0))] [] μ2))
    replace h := h μ2 e3
    refine v_aload_n hX dX6_readRoom_29 rfl (?_ : V X 30 [some (.ref 1), some (.ref w), some (.int (gi μ w 0))] [.ref w] μ2)
    refine v_getr hX (w + 1) fk_X6_76 (sHo hw) rfl rfl dX6_readRoom_30 (?_ : V X 33 [some (.ref 1), some (.ref w), some (.int (gi μ w 0))] [.ref (w + 1)] μ2)
    refine v_iload_n hX dX6_readRoom_33 rfl (?_ : V X 34 [some (.ref 1), some (.ref w), some (.int (gi μ w 0))] [.int (gi μ w 0), .ref (w + 1)] μ2)
    refine v_aload_n hX dX6_readRoom_34 rfl (?_ : V X 35 [some (.ref 1), some (.ref w), some (.int (gi μ w 0))] [.ref 1, .int (gi μ w 0), .ref (w + 1)] μ2)
    refine v_iconst hX 0 dX6_readRoom_35 rfl (?_ : V X 36 [some (.ref 1), some (.ref w), some (.int (gi μ w 0))] [.int 0, .ref 1, .int (gi μ w 0), .ref (w + 1)] μ2)
    refine v_bipush hX 30 dX6_readRoom_36 rfl (?_ : V X 38 [some (.ref 1), some (.ref w), some (.int (gi μ w 0))] [.int 30, .int 0, .ref 1, .int (gi μ w 0), .ref (w + 1)] μ2)
    refine v_callV hX sp_X6_readNumber ck_X6_readNumber mk_X6_79 mv_X6_readNumber sh_1 (by decide) (by decide) [.int 0, .int 30] [.int (gi μ w 0), .ref (w + 1)] rfl rfl (Nat.le_of_ble_eq_true rfl) dX6_readRoom_38 ⟨0, 30, rfl, h.1, fun x4 μ5 hp6 => (?_ : V X 41 [some (.ref 1), some (.ref w), some (.int (gi μ w 0))] [.int x4, .int (gi μ w 0), .ref (w + 1)] μ5)⟩
    replace h := h.2 x4 μ5 hp6
    have hb7 := h.1
    replace h := h.2
    refine w_iast hX (Int32.toNatClampNeg (gi μ w 0)) (sH1 hw) hb7 rfl dX6_readRoom_41 (fun μ8 e9 => (?_ : V X 42 [some (.ref 1), some (.ref w), some (.int (gi μ w 0))] [] μ8))
    replace h := h μ8 e9
    refine v_aload_n hX dX6_readRoom_42 rfl (?_ : V X 43 [some (.ref 1), some (.ref w), some (.int (gi μ w 0))] [.ref w] μ8)
    refine v_getr hX (w + 1) fk_X6_76 (sHo hw) rfl rfl dX6_readRoom_43 (?_ : V X 46 [some (.ref 1), some (.ref w), some (.int (gi μ w 0))] [.ref (w + 1)] μ8)
    refine v_iload_n hX dX6_readRoom_46 rfl (?_ : V X 47 [some (.ref 1), some (.ref w), some (.int (gi μ w 0))] [.int (gi μ w 0), .ref (w + 1)] μ8)
    have hb10 := h.1
    replace h := h.2
    refine w_iald hX (Int32.toNatClampNeg (gi μ w 0)) (sH1 hw) hb10 rfl dX6_readRoom_47 (?_ : V X 48 [some (.ref 1), some (.ref w), some (.int (gi μ w 0))] [.int (gi μ8 (w + 1) (Int32.toNatClampNeg (gi μ w 0)))] μ8)
    refine v_if_ge hX 53 dX6_readRoom_48 rfl (fun c11 => ?_) (fun c11 => ?_)
    · replace h := h.1 c11
      refine v_aload_n hX dX6_readRoom_53 rfl (?_ : V X 54 [some (.ref 1), some (.ref w), some (.int (gi μ w 0))] [.ref w] μ8)
      refine v_getr hX (w + 2) fk_X6_83 (sHo hw) rfl rfl dX6_readRoom_54 (?_ : V X 57 [some (.ref 1), some (.ref w), some (.int (gi μ w 0))] [.ref (w + 2)] μ8)
      refine v_iload_n hX dX6_readRoom_57 rfl (?_ : V X 58 [some (.ref 1), some (.ref w), some (.int (gi μ w 0))] [.int (gi μ w 0), .ref (w + 2)] μ8)
      refine v_aload_n hX dX6_readRoom_58 rfl (?_ : V X 59 [some (.ref 1), some (.ref w), some (.int (gi μ w 0))] [.ref 1, .int (gi μ w 0), .ref (w + 2)] μ8)
      refine v_iconst hX 0 dX6_readRoom_59 rfl (?_ : V X 60 [some (.ref 1), some (.ref w), some (.int (gi μ w 0))] [.int 0, .ref 1, .int (gi μ w 0), .ref (w + 2)] μ8)
      refine v_iconst hX 3 dX6_readRoom_60 rfl (?_ : V X 61 [some (.ref 1), some (.ref w), some (.int (gi μ w 0))] [.int 3, .int 0, .ref 1, .int (gi μ w 0), .ref (w + 2)] μ8)
      refine v_callV hX sp_X6_readNumber ck_X6_readNumber mk_X6_79 mv_X6_readNumber sh_1 (by decide) (by decide) [.int 0, .int 3] [.int (gi μ w 0), .ref (w + 2)] rfl rfl (Nat.le_of_ble_eq_true rfl) dX6_readRoom_61 ⟨0, 3, rfl, h.1, fun x12 μ13 hp14 => (?_ : V X 64 [some (.ref 1), some (.ref w), some (.int (gi μ w 0))] [.int x12, .int (gi μ w 0), .ref (w + 2)] μ13)⟩
      replace h := h.2 x12 μ13 hp14
      have hb15 := h.1
      replace h := h.2
      refine w_iast hX (Int32.toNatClampNeg (gi μ w 0)) (sH2 hw) hb15 rfl dX6_readRoom_64 (fun μ16 e17 => (?_ : V X 65 [some (.ref 1), some (.ref w), some (.int (gi μ w 0))] [] μ16))
      replace h := h μ16 e17
      refine v_aload_n hX dX6_readRoom_65 rfl (?_ : V X 66 [some (.ref 1), some (.ref w), some (.int (gi μ w 0))] [.ref w] μ16)
      refine v_getr hX (w + 2) fk_X6_83 (sHo hw) rfl rfl dX6_readRoom_66 (?_ : V X 69 [some (.ref 1), some (.ref w), some (.int (gi μ w 0))] [.ref (w + 2)] μ16)
      refine v_iload_n hX dX6_readRoom_69 rfl (?_ : V X 70 [some (.ref 1), some (.ref w), some (.int (gi μ w 0))] [.int (gi μ w 0), .ref (w + 2)] μ16)
      have hb18 := h.1
      replace h := h.2
      refine w_iald hX (Int32.toNatClampNeg (gi μ w 0)) (sH2 hw) hb18 rfl dX6_readRoom_70 (?_ : V X 71 [some (.ref 1), some (.ref w), some (.int (gi μ w 0))] [.int (gi μ16 (w + 2) (Int32.toNatClampNeg (gi μ w 0)))] μ16)
      refine v_if_ge hX 76 dX6_readRoom_71 rfl (fun c19 => ?_) (fun c19 => ?_)
      · replace h := h.1 c19
        refine v_aload_n hX dX6_readRoom_76 rfl (?_ : V X 77 [some (.ref 1), some (.ref w), some (.int (gi μ w 0))] [.ref w] μ16)
        refine v_getr hX (w + 3) fk_X6_86 (sHo hw) rfl rfl dX6_readRoom_77 (?_ : V X 80 [some (.ref 1), some (.ref w), some (.int (gi μ w 0))] [.ref (w + 3)] μ16)
        refine v_iload_n hX dX6_readRoom_80 rfl (?_ : V X 81 [some (.ref 1), some (.ref w), some (.int (gi μ w 0))] [.int (gi μ w 0), .ref (w + 3)] μ16)
        refine v_aload_n hX dX6_readRoom_81 rfl (?_ : V X 82 [some (.ref 1), some (.ref w), some (.int (gi μ w 0))] [.ref 1, .int (gi μ w 0), .ref (w + 3)] μ16)
        refine v_iconst hX 0 dX6_readRoom_82 rfl (?_ : V X 83 [some (.ref 1), some (.ref w), some (.int (gi μ w 0))] [.int 0, .ref 1, .int (gi μ w 0), .ref (w + 3)] μ16)
        refine v_bipush hX 99 dX6_readRoom_83 rfl (?_ : V X 85 [some (.ref 1), some (.ref w), some (.int (gi μ w 0))] [.int 99, .int 0, .ref 1, .int (gi μ w 0), .ref (w + 3)] μ16)
        refine v_callV hX sp_X6_readNumber ck_X6_readNumber mk_X6_79 mv_X6_readNumber sh_1 (by decide) (by decide) [.int 0, .int 99] [.int (gi μ w 0), .ref (w + 3)] rfl rfl (Nat.le_of_ble_eq_true rfl) dX6_readRoom_85 ⟨0, 99, rfl, h.1, fun x20 μ21 hp22 => (?_ : V X 88 [some (.ref 1), some (.ref w), some (.int (gi μ w 0))] [.int x20, .int (gi μ w 0), .ref (w + 3)] μ21)⟩
        replace h := h.2 x20 μ21 hp22
        have hb23 := h.1
        replace h := h.2
        refine w_iast hX (Int32.toNatClampNeg (gi μ w 0)) (sH3 hw) hb23 rfl dX6_readRoom_88 (fun μ24 e25 => (?_ : V X 89 [some (.ref 1), some (.ref w), some (.int (gi μ w 0))] [] μ24))
        replace h := h μ24 e25
        refine v_aload_n hX dX6_readRoom_89 rfl (?_ : V X 90 [some (.ref 1), some (.ref w), some (.int (gi μ w 0))] [.ref w] μ24)
        refine v_dup hX dX6_readRoom_90 rfl (?_ : V X 91 [some (.ref 1), some (.ref w), some (.int (gi μ w 0))] [.ref w, .ref w] μ24)
        refine v_geti hX fk_X6_73 (sHo hw) rfl dX6_readRoom_91 (?_ : V X 94 [some (.ref 1), some (.ref w), some (.int (gi μ w 0))] [.int (gi μ24 w 0), .ref w] μ24)
        refine v_iconst hX 1 dX6_readRoom_94 rfl (?_ : V X 95 [some (.ref 1), some (.ref w), some (.int (gi μ w 0))] [.int 1, .int (gi μ24 w 0), .ref w] μ24)
        refine v_iadd hX dX6_readRoom_95 (?_ : V X 96 [some (.ref 1), some (.ref w), some (.int (gi μ w 0))] [.int ((gi μ24 w 0) + 1), .ref w] μ24)
        refine w_puti hX fk_X6_73 fw_2_0 (sHo hw) rfl dX6_readRoom_96 (fun μ26 e27 => (?_ : V X 99 [some (.ref 1), some (.ref w), some (.int (gi μ w 0))] [] μ26))
        replace h := h μ26 e27
        refine v_aload_n hX dX6_readRoom_99 rfl (?_ : V X 100 [some (.ref 1), some (.ref w), some (.int (gi μ w 0))] [.ref w] μ26)
        refine v_getr hX (w + 3) fk_X6_86 (sHo hw) rfl rfl dX6_readRoom_100 (?_ : V X 103 [some (.ref 1), some (.ref w), some (.int (gi μ w 0))] [.ref (w + 3)] μ26)
        refine v_iload_n hX dX6_readRoom_103 rfl (?_ : V X 104 [some (.ref 1), some (.ref w), some (.int (gi μ w 0))] [.int (gi μ w 0), .ref (w + 3)] μ26)
        have hb28 := h.1
        replace h := h.2
        refine w_iald hX (Int32.toNatClampNeg (gi μ w 0)) (sH3 hw) hb28 rfl dX6_readRoom_104 (?_ : V X 105 [some (.ref 1), some (.ref w), some (.int (gi μ w 0))] [.int (gi μ26 (w + 3) (Int32.toNatClampNeg (gi μ w 0)))] μ26)
        refine v_if_lt hX 112 dX6_readRoom_105 rfl (fun c29 => ?_) (fun c29 => ?_)
        · replace h := h.1 c29
          refine v_iconst hX 0 dX6_readRoom_112 rfl (?_ : V X 113 [some (.ref 1), some (.ref w), some (.int (gi μ w 0))] [.int 0] μ26)
          exact v_zret hO dX6_readRoom_113 (by decide) (hR _ _ h)
        · replace h := h.2 c29
          refine v_iconst hX 1 dX6_readRoom_108 rfl (?_ : V X 109 [some (.ref 1), some (.ref w), some (.int (gi μ w 0))] [.int 1] μ26)
          refine v_goto hX 113 dX6_readRoom_109 rfl (?_ : V X 113 [some (.ref 1), some (.ref w), some (.int (gi μ w 0))] [.int 1] μ26)
          exact v_zret hO dX6_readRoom_113 (by decide) (hR _ _ h)
      · replace h := h.2 c19
        refine v_iconst hX 0 dX6_readRoom_74 rfl (?_ : V X 75 [some (.ref 1), some (.ref w), some (.int (gi μ w 0))] [.int 0] μ16)
        exact v_zret hO dX6_readRoom_75 (by decide) (hR _ _ h)
    · replace h := h.2 c11
      refine v_iconst hX 0 dX6_readRoom_51 rfl (?_ : V X 52 [some (.ref 1), some (.ref w), some (.int (gi μ w 0))] [.int 0] μ8)
      exact v_zret hO dX6_readRoom_52 (by decide) (hR _ _ h)
  · replace h := h.2 c1
    refine v_aload_n hX dX6_readRoom_10 rfl (?_ : V X 11 [some (.ref 1), some (.ref w), some (.int (gi μ w 0))] [.ref 1] μ)
    refine v_aload_n hX dX6_readRoom_11 rfl (?_ : V X 12 [some (.ref 1), some (.ref w), some (.int (gi μ w 0))] [.ref 1, .ref 1] μ)
    refine v_geti hX fk_X6_27 sh_1 rfl dX6_readRoom_12 (?_ : V X 15 [some (.ref 1), some (.ref w), some (.int (gi μ w 0))] [.int (gi μ 1 3), .ref 1] μ)
    refine v_callV hX sp_X6_failsAt ck_X6_failsAt mk_X6_69 mv_X6_failsAt sh_1 (by decide) (by decide) [.int (gi μ 1 3)] [] rfl rfl (Nat.le_of_ble_eq_true rfl) dX6_readRoom_15 ⟨(gi μ 1 3), rfl, h.1, fun x30 μ31 hp32 => (?_ : V X 18 [some (.ref 1), some (.ref w), some (.int (gi μ w 0))] [.int x30] μ31)⟩
    replace h := h.2 x30 μ31 hp32
    exact v_zret hO dX6_readRoom_18 h.1 (hR _ _ h.2)
set_option maxRecDepth 20000 in
set_option maxHeartbeats 1000000 in
theorem vp_X6_readRoom_0 (w : Nat) (hw : w = 3 ∨ w = 10) (μ : Mem) (hpre : pre_X6_readRoom w μ) : vc_X6_readRoom_0 w μ (post_X6_readRoom w μ)  := by
  unfold vc_X6_readRoom_0
  obtain ⟨hR, a7⟩ := hpre
  have hw := hR.1
  have h7 := a7.2
  refine ⟨fun q => ?_, fun q => ⟨trivial, ?_⟩⟩
  · have hs : gn μ w 0 < 5 := by
      have h := i_lt.mp q
      rw [a7.1, nI_toInt (by omega), show (5 : Int32).toInt = 5 from rfl] at h; omega
    have in6 : vp_in (gi μ w 0) 5 := by rw [a7.1]; exact vp_in_nI hs (by omega)
    rintro m2 hm2
    obtain ⟨hRD, eT, g1, g3, f2, k2⟩ := at1 hR hm2
    refine ⟨⟨hRD, by decide⟩, ?_⟩
    rintro x4 m5 h
    obtain ⟨nf, n1, hn⟩ := num_use hRD h
    have ec : (gi μ w 0).toNatClampNeg = gn μ w 0 := rfl
    rw [ec]
    generalize hj : gn μ w 0 = j at *
    refine ⟨in6, ?_⟩
    rintro m8 hm8
    refine ⟨in6, ?_⟩
    have f5 : fr [1] μ m5 := fr_trans f2 nf
    have k5 : f1x [2, 3] μ m5 := f1_trans k2 n1
    have e81 : ∀ k, gi m8 1 k = gi m5 1 k := fun k => by rw [hm8, gi_ui, if_neg (by omega)]
    have e8c : ∀ k, gi m8 (w + 1) k = if k = j then x4 else gi μ (w + 1) k := fun k => by
      rw [hm8, gi_ui]
      by_cases z : k = j
      · rw [if_pos ⟨rfl, z⟩, if_pos z]
      · rw [if_neg (fun y => z y.2), if_neg z, f5.1 (w + 1) (by simp; omega)]
    have f8 : fr [1, w + 1] μ m8 := by rw [hm8]; exact fr_trans (fr_mono f5 (by simp)) (fr_ui (by simp))
    have k8 : f1x [2, 3] μ m8 := fun k hk => by rw [e81]; exact k5 k hk
    rw [e8c, if_pos rfl]
    rcases hn with ⟨s, hs1, hx, h2⟩ | ⟨b, hb1, hx, h3, hbn⟩
    · refine ⟨fun z => ?_, fun _ => ⟨⟨fr_mono f8 (by simp), f1_mono k8 (by simp)⟩, Or.inl ⟨rfl, Or.inr ⟨q, s, Or.inl (by rw [← g3, ← g1, ← eT]; exact hs1), by rw [e81]; exact h2⟩⟩⟩⟩
      rw [hx] at z; exact absurd z (by decide)
    · refine ⟨fun _ => ?_, fun z => absurd hx z⟩
      obtain ⟨hRD8, eT8, g18, g38⟩ := nx1 (c := w + 1) hRD nf n1 h3 hbn (by omega) (by omega) hm8
      clear hm8
      refine ⟨⟨hRD8, by decide⟩, ?_⟩
      rintro x12 m13 h'
      obtain ⟨nf', n1', hn'⟩ := num_use hRD8 h'
      rw [eT, g1, g3] at hb1
      refine ⟨in6, ?_⟩
      rintro m16 hm16
      refine ⟨in6, ?_⟩
      have f13 : fr [1, w + 1] μ m13 := fr_trans f8 (fr_mono nf' (by simp))
      have k13 : f1x [2, 3] μ m13 := f1_trans k8 n1'
      have e161 : ∀ k, gi m16 1 k = gi m13 1 k := fun k => by rw [hm16, gi_ui, if_neg (by omega)]
      have e16c : ∀ k, gi m16 (w + 2) k = if k = j then x12 else gi μ (w + 2) k := fun k => by
        rw [hm16, gi_ui]
        by_cases z : k = j
        · rw [if_pos ⟨rfl, z⟩, if_pos z]
        · rw [if_neg (fun y => z y.2), if_neg z, f13.1 (w + 2) (by simp)]
      have e16b : ∀ k, gi m16 (w + 1) k = if k = j then x4 else gi μ (w + 1) k := fun k => by
        rw [hm16, gi_ui, if_neg (by omega), nf'.1 (w + 1) (by simp; omega), e8c]
      have f16 : fr [1, w + 1, w + 2] μ m16 := by rw [hm16]; exact fr_trans (fr_mono f13 (by simp)) (fr_ui (by simp))
      have k16 : f1x [2, 3] μ m16 := fun k hk => by rw [e161]; exact k13 k hk
      rw [e16c, if_pos rfl]
      rcases hn' with ⟨s, hs1, hx', h2⟩ | ⟨b', hb1', hx', h3', hbn'⟩
      · rw [eT8, g18, g38, eT, g1] at hs1
        refine ⟨fun z => ?_, fun _ => ⟨⟨fr_mono f16 (by simp), f1_mono k16 (by simp)⟩, Or.inl ⟨rfl, Or.inr ⟨q, s, Or.inr ⟨x4, b, hb1, Or.inl hs1⟩, by rw [e161]; exact h2⟩⟩⟩⟩
        rw [hx'] at z; exact absurd z (by decide)
      · refine ⟨fun _ => ?_, fun z => absurd hx' z⟩
        obtain ⟨hRD16, eT16, g116, g316⟩ := nx1 (c := w + 2) hRD8 nf' n1' h3' hbn' (by omega) (by omega) hm16
        clear hm16
        rw [eT8, g18, g38, eT, g1] at hb1'
        refine ⟨⟨hRD16, by decide⟩, ?_⟩
        rintro x20 m21 h''
        obtain ⟨nf2, n12, hn2⟩ := num_use hRD16 h''
        rw [eT16, g116, g316, eT8, g18, eT, g1] at hn2
        refine ⟨in6, ?_⟩
        rintro m24 hm24 m26 hm26
        refine ⟨in6, ?_⟩
        have f21 : fr [1, w + 1, w + 2] μ m21 := fr_trans f16 (fr_mono nf2 (by simp))
        have k21 : f1x [2, 3] μ m21 := f1_trans k16 n12
        have e1 : ∀ k, gi m26 1 k = gi m21 1 k := fun k => by
          rw [hm26, gi_ui, if_neg (by omega), hm24, gi_ui, if_neg (by omega)]
        have e3 : ∀ k, gi m26 (w + 3) k = if k = j then x20 else gi μ (w + 3) k := fun k => by
          rw [hm26, gi_ui, if_neg (by omega), hm24, gi_ui]
          by_cases z : k = j
          · rw [if_pos ⟨rfl, z⟩, if_pos z]
          · rw [if_neg (fun y => z y.2), if_neg z, f21.1 (w + 3) (by simp)]
        have e2 : ∀ k, gi m26 (w + 2) k = if k = j then x12 else gi μ (w + 2) k := fun k => by
          rw [hm26, gi_ui, if_neg (by omega), hm24, gi_ui, if_neg (by omega), nf2.1 (w + 2) (by simp), e16c]
        have eb : ∀ k, gi m26 (w + 1) k = if k = j then x4 else gi μ (w + 1) k := fun k => by
          rw [hm26, gi_ui, if_neg (by omega), hm24, gi_ui, if_neg (by omega), nf2.1 (w + 1) (by simp; omega), e16b]
        have e24 : ∀ k, gi m24 w k = gi μ w k := fun k => by rw [hm24, gi_ui, if_neg (by omega), f21.1 w (by simp; omega)]
        have fA : fr [1, w, w + 1, w + 2, w + 3] μ m26 := by
          rw [hm26, hm24]; exact fr_trans (fr_mono f21 (by simp)) (fr_trans (fr_ui (by simp)) (fr_ui (by simp)))
        have kA : f1x [2, 3] μ m26 := fun k hk => by rw [e1]; exact k21 k hk
        have fI : frI w μ m26 := ⟨fr_mono fA (by simp), f1_mono kA (by simp)⟩
        rw [e3, if_pos rfl]
        rcases hn2 with ⟨s, hs1, hx2, h2⟩ | ⟨b2, hb2, hx2, h32, hbn2⟩
        · refine ⟨fun _ => ⟨fI, Or.inl ⟨rfl, Or.inr ⟨q, s, Or.inr ⟨x4, b, hb1, Or.inr ⟨x12, b', hb1', hs1⟩⟩, by rw [e1]; exact h2⟩⟩⟩, fun z => ?_⟩
          rw [hx2] at z; exact absurd (by decide) z
        · refine ⟨fun z => absurd hx2 (by simpa using z), fun _ => ⟨fI, Or.inr ⟨rfl, q, x4, b, x12, b', x20, b2, hb1, hb1', hb2, ⟨hbn2, by rw [e1]; exact h32, kA, ?_, fun k hk => ?_⟩, fA, by rw [hj]; exact eb, by rw [hj]; exact e2, by rw [hj]; exact e3⟩⟩⟩
          · rw [hm26, gi_ui, if_pos ⟨rfl, rfl⟩, e24]
          · rw [hm26, gi_ui, if_neg (fun y => hk y.2), e24]
  · rintro x m ⟨rfl, rfl⟩
    exact ⟨Or.inl rfl, ⟨fr_ui (by simp), f1_ui (by simp)⟩, Or.inl ⟨rfl, Or.inl ⟨q, rfl⟩⟩⟩
theorem sp_X6_readRoom : Sp yX6_readRoom cX6_readRoom 3 (some .boolean) 2 S_X6_readRoom := by
  refine sp_of (by decide) (fun av μ P h => ?_) ?_
  · obtain ⟨w, rfl, -⟩ := h
    refine ⟨Nat.le_of_ble_eq_true rfl, fun v hv => ?_⟩
    simp only [List.mem_cons, List.not_mem_nil, or_false] at hv
    rcases hv with rfl | rfl <;> rfl
  · rintro X P hO _ μ ⟨w, rfl, hw, hpre, hpost⟩ hn
    exact wk_X6_readRoom_0 hO hn w hw μ hpost (vp_X6_readRoom_0 w hw μ hpre)

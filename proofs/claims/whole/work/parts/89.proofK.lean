def S_X6_readDoing : Tr := fun av μ P => ∃ (w : Nat), av = [.ref 1, .ref w] ∧ (w = 3 ∨ w = 10) ∧ pre_X6_readDoing w μ ∧ ∀ (x : Int32) (m : Mem), post_X6_readDoing w μ x m → P (some (.int x)) m
def vc_X6_readDoing_0 (w : Nat)  (μ : Mem) (R : Int32 → Mem → Prop)  : Prop :=
  (((gi μ w 4) < 5 → (∀ μ2, μ2 = ui μ 1 3 ((gi μ 1 3) + 1) → (pre_X6_readNumber 0 9 μ2 ∧ ∀ (x4 : Int32) (μ5 : Mem), post_X6_readNumber 0 9 μ2 x4 μ5 → vp_in (gi μ w 4) 5 ∧ (∀ μ8, μ8 = ui μ5 (w + 4) (Int32.toNatClampNeg (gi μ w 4)) x4 → vp_in (gi μ w 4) 5 ∧ ((0 ≤ (gi μ8 (w + 4) (Int32.toNatClampNeg (gi μ w 4))) → (pre_X6_readNumber 1 30 μ8 ∧ ∀ (x12 : Int32) (μ13 : Mem), post_X6_readNumber 1 30 μ8 x12 μ13 → vp_in (gi μ w 4) 5 ∧ (∀ μ16, μ16 = ui μ13 (w + 5) (Int32.toNatClampNeg (gi μ w 4)) x12 → (∀ μ18, μ18 = ui μ16 w 4 ((gi μ16 w 4) + 1) → vp_in (gi μ w 4) 5 ∧ (((gi μ18 (w + 5) (Int32.toNatClampNeg (gi μ w 4))) < 0 → R 0 μ18) ∧ (¬ (gi μ18 (w + 5) (Int32.toNatClampNeg (gi μ w 4))) < 0 → R 1 μ18)))))) ∧ (¬ 0 ≤ (gi μ8 (w + 4) (Int32.toNatClampNeg (gi μ w 4))) → R 0 μ8)))))) ∧ (¬ (gi μ w 4) < 5 → (pre_X6_failsAt (gi μ 1 3) μ ∧ ∀ (x22 : Int32) (μ23 : Mem), post_X6_failsAt (gi μ 1 3) μ x22 μ23 → (x22 = 0 ∨ x22 = 1) ∧ R x22 μ23)))
set_option maxRecDepth 20000 in
set_option maxHeartbeats 4000000 in
theorem wk_X6_readDoing_0 {X : XT} {P : Post} (hO : OkM X cX6_readDoing RX6 2 (some .boolean) P) (hn : xn X = 3) (w : Nat) (hw : w = 3 ∨ w = 10)  (μ : Mem) {R : Int32 → Mem → Prop} (hR : ∀ x m, R x m → P (some (.int x)) m)    (h : vc_X6_readDoing_0 w  μ R ) : V X 0 [some (.ref 1), some (.ref w), none] [] μ := by
  have hX := hO.1
  unfold vc_X6_readDoing_0 at h
  refine v_aload_n hX dX6_readDoing_0 rfl (?_ : V X 1 [some (.ref 1), some (.ref w), none] [.ref w] μ)
  refine v_geti hX fk_X6_89 (sHo hw) rfl dX6_readDoing_1 (?_ : V X 4 [some (.ref 1), some (.ref w), none] [.int (gi μ w 4)] μ)
  refine v_istore_n hX dX6_readDoing_4 (by rw [hn]; decide) (?_ : V X 5 [some (.ref 1), some (.ref w), some (.int (gi μ w 4))] [] μ)
  refine v_iload_n hX dX6_readDoing_5 rfl (?_ : V X 6 [some (.ref 1), some (.ref w), some (.int (gi μ w 4))] [.int (gi μ w 4)] μ)
  refine v_iconst hX 5 dX6_readDoing_6 rfl (?_ : V X 7 [some (.ref 1), some (.ref w), some (.int (gi μ w 4))] [.int 5, .int (gi μ w 4)] μ)
  refine v_icmp_lt hX 19 dX6_readDoing_7 rfl (fun c1 => ?_) (fun c1 => ?_)
  · replace h := h.1 c1
    refine v_aload_n hX dX6_readDoing_19 rfl (?_ : V X 20 [some (.ref 1), some (.ref w), some (.int (gi μ w 4))] [.ref 1] μ)
    refine v_dup hX dX6_readDoing_20 rfl (?_ : V X 21 [some (.ref 1), some (.ref w), some (.int (gi μ w 4))] [.ref 1, .ref 1] μ)
    refine v_geti hX fk_X6_27 sh_1 rfl dX6_readDoing_21 (?_ : V X 24 [some (.ref 1), some (.ref w), some (.int (gi μ w 4))] [.int (gi μ 1 3), .ref 1] μ)
    refine v_iconst hX 1 dX6_readDoing_24 rfl (?_ : V X 25 [some (.ref 1), some (.ref w), some (.int (gi μ w 4))] [.int 1, .int (gi μ 1 3), .ref 1] μ)
    refine v_iadd hX dX6_readDoing_25 (?_ : V X 26 [some (.ref 1), some (.ref w), some (.int (gi μ w 4))] [.int ((gi μ 1 3) + 1), .ref 1] μ)
    refine w_puti hX fk_X6_27 fw_6_3 sh_1 rfl dX6_readDoing_26 (fun μ2 e3 => (?_ : V X 29 [some (.ref 1), some (.ref w), some (.int (gi μ w 4))] [] μ2))
    replace h := h μ2 e3
    refine v_aload_n hX dX6_readDoing_29 rfl (?_ : V X 30 [some (.ref 1), some (.ref w), some (.int (gi μ w 4))] [.ref w] μ2)
    refine v_getr hX (w + 4) fk_X6_92 (sHo hw) rfl rfl dX6_readDoing_30 (?_ : V X 33 [some (.ref 1), some (.ref w), some (.int (gi μ w 4))] [.ref (w + 4)] μ2)
    refine v_iload_n hX dX6_readDoing_33 rfl (?_ : V X 34 [some (.ref 1), some (.ref w), some (.int (gi μ w 4))] [.int (gi μ w 4), .ref (w + 4)] μ2)
    refine v_aload_n hX dX6_readDoing_34 rfl (?_ : V X 35 [some (.ref 1), some (.ref w), some (.int (gi μ w 4))] [.ref 1, .int (gi μ w 4), .ref (w + 4)] μ2)
    refine v_iconst hX 0 dX6_readDoing_35 rfl (?_ : V X 36 [some (.ref 1), some (.ref w), some (.int (gi μ w 4))] [.int 0, .ref 1, .int (gi μ w 4), .ref (w + 4)] μ2)
    refine v_bipush hX 9 dX6_readDoing_36 rfl (?_ : V X 38 [some (.ref 1), some (.ref w), some (.int (gi μ w 4))] [.int 9, .int 0, .ref 1, .int (gi μ w 4), .ref (w + 4)] μ2)
    refine v_callV hX sp_X6_readNumber ck_X6_readNumber mk_X6_79 mv_X6_readNumber sh_1 (by decide) (by decide) [.int 0, .int 9] [.int (gi μ w 4), .ref (w + 4)] rfl rfl (Nat.le_of_ble_eq_true rfl) dX6_readDoing_38 ⟨0, 9, rfl, h.1, fun x4 μ5 hp6 => (?_ : V X 41 [some (.ref 1), some (.ref w), some (.int (gi μ w 4))] [.int x4, .int (gi μ w 4), .ref (w + 4)] μ5)⟩
    replace h := h.2 x4 μ5 hp6
    have hb7 := h.1
    replace h := h.2
    refine w_iast hX (Int32.toNatClampNeg (gi μ w 4)) (sH4 hw) hb7 rfl dX6_readDoing_41 (fun μ8 e9 => (?_ : V X 42 [some (.ref 1), some (.ref w), some (.int (gi μ w 4))] [] μ8))
    replace h := h μ8 e9
    refine v_aload_n hX dX6_readDoing_42 rfl (?_ : V X 43 [some (.ref 1), some (.ref w), some (.int (gi μ w 4))] [.ref w] μ8)
    refine v_getr hX (w + 4) fk_X6_92 (sHo hw) rfl rfl dX6_readDoing_43 (?_ : V X 46 [some (.ref 1), some (.ref w), some (.int (gi μ w 4))] [.ref (w + 4)] μ8)
    refine v_iload_n hX dX6_readDoing_46 rfl (?_ : V X 47 [some (.ref 1), some (.ref w), some (.int (gi μ w 4))] [.int (gi μ w 4), .ref (w + 4)] μ8)
    have hb10 := h.1
    replace h := h.2
    refine w_iald hX (Int32.toNatClampNeg (gi μ w 4)) (sH4 hw) hb10 rfl dX6_readDoing_47 (?_ : V X 48 [some (.ref 1), some (.ref w), some (.int (gi μ w 4))] [.int (gi μ8 (w + 4) (Int32.toNatClampNeg (gi μ w 4)))] μ8)
    refine v_if_ge hX 53 dX6_readDoing_48 rfl (fun c11 => ?_) (fun c11 => ?_)
    · replace h := h.1 c11
      refine v_aload_n hX dX6_readDoing_53 rfl (?_ : V X 54 [some (.ref 1), some (.ref w), some (.int (gi μ w 4))] [.ref w] μ8)
      refine v_getr hX (w + 5) fk_X6_95 (sHo hw) rfl rfl dX6_readDoing_54 (?_ : V X 57 [some (.ref 1), some (.ref w), some (.int (gi μ w 4))] [.ref (w + 5)] μ8)
      refine v_iload_n hX dX6_readDoing_57 rfl (?_ : V X 58 [some (.ref 1), some (.ref w), some (.int (gi μ w 4))] [.int (gi μ w 4), .ref (w + 5)] μ8)
      refine v_aload_n hX dX6_readDoing_58 rfl (?_ : V X 59 [some (.ref 1), some (.ref w), some (.int (gi μ w 4))] [.ref 1, .int (gi μ w 4), .ref (w + 5)] μ8)
      refine v_iconst hX 1 dX6_readDoing_59 rfl (?_ : V X 60 [some (.ref 1), some (.ref w), some (.int (gi μ w 4))] [.int 1, .ref 1, .int (gi μ w 4), .ref (w + 5)] μ8)
      refine v_bipush hX 30 dX6_readDoing_60 rfl (?_ : V X 62 [some (.ref 1), some (.ref w), some (.int (gi μ w 4))] [.int 30, .int 1, .ref 1, .int (gi μ w 4), .ref (w + 5)] μ8)
      refine v_callV hX sp_X6_readNumber ck_X6_readNumber mk_X6_79 mv_X6_readNumber sh_1 (by decide) (by decide) [.int 1, .int 30] [.int (gi μ w 4), .ref (w + 5)] rfl rfl (Nat.le_of_ble_eq_true rfl) dX6_readDoing_62 ⟨1, 30, rfl, h.1, fun x12 μ13 hp14 => (?_ : V X 65 [some (.ref 1), some (.ref w), some (.int (gi μ w 4))] [.int x12, .int (gi μ w 4), .ref (w + 5)] μ13)⟩
      replace h := h.2 x12 μ13 hp14
      have hb15 := h.1
      replace h := h.2
      refine w_iast hX (Int32.toNatClampNeg (gi μ w 4)) (sH5 hw) hb15 rfl dX6_readDoing_65 (fun μ16 e17 => (?_ : V X 66 [some (.ref 1), some (.ref w), some (.int (gi μ w 4))] [] μ16))
      replace h := h μ16 e17
      refine v_aload_n hX dX6_readDoing_66 rfl (?_ : V X 67 [some (.ref 1), some (.ref w), some (.int (gi μ w 4))] [.ref w] μ16)
      refine v_dup hX dX6_readDoing_67 rfl (?_ : V X 68 [some (.ref 1), some (.ref w), some (.int (gi μ w 4))] [.ref w, .ref w] μ16)
      refine v_geti hX fk_X6_89 (sHo hw) rfl dX6_readDoing_68 (?_ : V X 71 [some (.ref 1), some (.ref w), some (.int (gi μ w 4))] [.int (gi μ16 w 4), .ref w] μ16)
      refine v_iconst hX 1 dX6_readDoing_71 rfl (?_ : V X 72 [some (.ref 1), some (.ref w), some (.int (gi μ w 4))] [.int 1, .int (gi μ16 w 4), .ref w] μ16)
      refine v_iadd hX dX6_readDoing_72 (?_ : V X 73 [some (.ref 1), some (.ref w), some (.int (gi μ w 4))] [.int ((gi μ16 w 4) + 1), .ref w] μ16)
      refine w_puti hX fk_X6_89 fw_2_4 (sHo hw) rfl dX6_readDoing_73 (fun μ18 e19 => (?_ : V X 76 [some (.ref 1), some (.ref w), some (.int (gi μ w 4))] [] μ18))
      replace h := h μ18 e19
      refine v_aload_n hX dX6_readDoing_76 rfl (?_ : V X 77 [some (.ref 1), some (.ref w), some (.int (gi μ w 4))] [.ref w] μ18)
      refine v_getr hX (w + 5) fk_X6_95 (sHo hw) rfl rfl dX6_readDoing_77 (?_ : V X 80 [some (.ref 1), some (.ref w), some (.int (gi μ w 4))] [.ref (w + 5)] μ18)
      refine v_iload_n hX dX6_readDoing_80 rfl (?_ : V X 81 [some (.ref 1), some (.ref w), some (.int (gi μ w 4))] [.int (gi μ w 4), .ref (w + 5)] μ18)
      have hb20 := h.1
      replace h := h.2
      refine w_iald hX (Int32.toNatClampNeg (gi μ w 4)) (sH5 hw) hb20 rfl dX6_readDoing_81 (?_ : V X 82 [some (.ref 1), some (.ref w), some (.int (gi μ w 4))] [.int (gi μ18 (w + 5) (Int32.toNatClampNeg (gi μ w 4)))] μ18)
      refine v_if_lt hX 89 dX6_readDoing_82 rfl (fun c21 => ?_) (fun c21 => ?_)
      · replace h := h.1 c21
        refine v_iconst hX 0 dX6_readDoing_89 rfl (?_ : V X 90 [some (.ref 1), some (.ref w), some (.int (gi μ w 4))] [.int 0] μ18)
        exact v_zret hO dX6_readDoing_90 (by decide) (hR _ _ h)
      · replace h := h.2 c21
        refine v_iconst hX 1 dX6_readDoing_85 rfl (?_ : V X 86 [some (.ref 1), some (.ref w), some (.int (gi μ w 4))] [.int 1] μ18)
        refine v_goto hX 90 dX6_readDoing_86 rfl (?_ : V X 90 [some (.ref 1), some (.ref w), some (.int (gi μ w 4))] [.int 1] μ18)
        exact v_zret hO dX6_readDoing_90 (by decide) (hR _ _ h)
    · replace h := h.2 c11
      refine v_iconst hX 0 dX6_readDoing_51 rfl (?_ : V X 52 [some (.ref 1), some (.ref w), some (.int (gi μ w 4))] [.int 0] μ8)
      exact v_zret hO dX6_readDoing_52 (by decide) (hR _ _ h)
  · replace h := h.2 c1
    refine v_aload_n hX dX6_readDoing_10 rfl (?_ : V X 11 [some (.ref 1), some (.ref w), some (.int (gi μ w 4))] [.ref 1] μ)
    refine v_aload_n hX dX6_readDoing_11 rfl (?_ : V X 12 [some (.ref 1), some (.ref w), some (.int (gi μ w 4))] [.ref 1, .ref 1] μ)
    refine v_geti hX fk_X6_27 sh_1 rfl dX6_readDoing_12 (?_ : V X 15 [some (.ref 1), some (.ref w), some (.int (gi μ w 4))] [.int (gi μ 1 3), .ref 1] μ)
    refine v_callV hX sp_X6_failsAt ck_X6_failsAt mk_X6_69 mv_X6_failsAt sh_1 (by decide) (by decide) [.int (gi μ 1 3)] [] rfl rfl (Nat.le_of_ble_eq_true rfl) dX6_readDoing_15 ⟨(gi μ 1 3), rfl, h.1, fun x22 μ23 hp24 => (?_ : V X 18 [some (.ref 1), some (.ref w), some (.int (gi μ w 4))] [.int x22] μ23)⟩
    replace h := h.2 x22 μ23 hp24
    exact v_zret hO dX6_readDoing_18 h.1 (hR _ _ h.2)
set_option maxRecDepth 20000 in
set_option maxHeartbeats 1000000 in
theorem vp_X6_readDoing_0 (w : Nat) (hw : w = 3 ∨ w = 10) (μ : Mem) (hpre : pre_X6_readDoing w μ) : vc_X6_readDoing_0 w μ (post_X6_readDoing w μ)  := by
  unfold vc_X6_readDoing_0
  obtain ⟨hR, a7⟩ := hpre
  have hw := hR.1
  have h7 := a7.2
  refine ⟨fun q => ?_, fun q => ⟨trivial, ?_⟩⟩
  · have hs : gn μ w 4 < 5 := by
      have h := i_lt.mp q
      rw [a7.1, nI_toInt (by omega), show (5 : Int32).toInt = 5 from rfl] at h; omega
    have in6 : vp_in (gi μ w 4) 5 := by rw [a7.1]; exact vp_in_nI hs (by omega)
    rintro m2 hm2
    obtain ⟨hRD, eT, g1, g3, f2, k2⟩ := at1 hR hm2
    refine ⟨⟨hRD, by decide⟩, ?_⟩
    rintro x4 m5 h
    obtain ⟨nf, n1, hn⟩ := num_use hRD h
    have ec : (gi μ w 4).toNatClampNeg = gn μ w 4 := rfl
    rw [ec]
    generalize hj : gn μ w 4 = j at *
    refine ⟨in6, ?_⟩
    rintro m8 hm8
    refine ⟨in6, ?_⟩
    have f5 : fr [1] μ m5 := fr_trans f2 nf
    have k5 : f1x [2, 3] μ m5 := f1_trans k2 n1
    have e81 : ∀ k, gi m8 1 k = gi m5 1 k := fun k => by rw [hm8, gi_ui, if_neg (by omega)]
    have e8c : ∀ k, gi m8 (w + 4) k = if k = j then x4 else gi μ (w + 4) k := fun k => by
      rw [hm8, gi_ui]
      by_cases z : k = j
      · rw [if_pos ⟨rfl, z⟩, if_pos z]
      · rw [if_neg (fun y => z y.2), if_neg z, f5.1 (w + 4) (by simp)]
    have f8 : fr [1, w + 4] μ m8 := by rw [hm8]; exact fr_trans (fr_mono f5 (by simp)) (fr_ui (by simp))
    have k8 : f1x [2, 3] μ m8 := fun k hk => by rw [e81]; exact k5 k hk
    rw [e8c, if_pos rfl]
    rcases hn with ⟨s, hs1, hx, h2⟩ | ⟨b, hb1, hx, h3, hbn⟩
    · refine ⟨fun z => ?_, fun _ => ⟨⟨fr_mono f8 (by simp), f1_mono k8 (by simp)⟩, Or.inl ⟨rfl, Or.inr ⟨q, s, Or.inl (by rw [← g3, ← g1, ← eT]; exact hs1), by rw [e81]; exact h2⟩⟩⟩⟩
      rw [hx] at z; exact absurd z (by decide)
    · refine ⟨fun _ => ?_, fun z => absurd hx z⟩
      obtain ⟨hRD8, eT8, g18, g38⟩ := nx1 (c := w + 4) hRD nf n1 h3 hbn (by omega) (by omega) hm8
      clear hm8
      refine ⟨⟨hRD8, by decide⟩, ?_⟩
      rintro x12 m13 h'
      obtain ⟨nf', n1', hn'⟩ := num_use hRD8 h'
      rw [eT8, g18, g38, eT, g1] at hn'
      rw [eT, g1, g3] at hb1
      rw [g1] at hbn
      refine ⟨in6, ?_⟩
      rintro m16 hm16 m18 hm18
      refine ⟨in6, ?_⟩
      have f13 : fr [1, w + 4] μ m13 := fr_trans f8 (fr_mono nf' (by simp))
      have k13 : f1x [2, 3] μ m13 := f1_trans k8 n1'
      have e1 : ∀ k, gi m18 1 k = gi m13 1 k := fun k => by
        rw [hm18, gi_ui, if_neg (by omega), hm16, gi_ui, if_neg (by omega)]
      have e5 : ∀ k, gi m18 (w + 5) k = if k = j then x12 else gi μ (w + 5) k := fun k => by
        rw [hm18, gi_ui, if_neg (by omega), hm16, gi_ui]
        by_cases z : k = j
        · rw [if_pos ⟨rfl, z⟩, if_pos z]
        · rw [if_neg (fun y => z y.2), if_neg z, f13.1 (w + 5) (by simp)]
      have e4 : ∀ k, gi m18 (w + 4) k = if k = j then x4 else gi μ (w + 4) k := fun k => by
        rw [hm18, gi_ui, if_neg (by omega), hm16, gi_ui, if_neg (by omega), nf'.1 (w + 4) (by simp), e8c]
      have e16 : ∀ k, gi m16 w k = gi μ w k := fun k => by rw [hm16, gi_ui, if_neg (by omega), f13.1 w (by simp; omega)]
      have fA : fr [1, w, w + 4, w + 5] μ m18 := by
        rw [hm18, hm16]; exact fr_trans (fr_mono f13 (by simp)) (fr_trans (fr_ui (by simp)) (fr_ui (by simp)))
      have kA : f1x [2, 3] μ m18 := fun k hk => by rw [e1]; exact k13 k hk
      have fI : frI w μ m18 := ⟨fr_mono fA (by simp), f1_mono kA (by simp)⟩
      rw [e5, if_pos rfl]
      rcases hn' with ⟨s, hs1, hx', h2⟩ | ⟨b', hb1', hx', h3', hbn'⟩
      · refine ⟨fun _ => ⟨fI, Or.inl ⟨rfl, Or.inr ⟨q, s, Or.inr ⟨x4, b, hb1, hs1⟩, by rw [e1]; exact h2⟩⟩⟩, fun z => ?_⟩
        rw [hx'] at z; exact absurd (by decide) z
      · refine ⟨fun z => absurd hx' (by simpa using z), fun _ => ⟨fI, Or.inr ⟨rfl, q, x4, b, x12, b', hb1, hb1', ⟨hbn', by rw [e1]; exact h3', kA, ?_, fun k hk => ?_⟩, fA, by rw [hj]; exact e4, by rw [hj]; exact e5⟩⟩⟩
        · rw [hm18, gi_ui, if_pos ⟨rfl, rfl⟩, e16]
        · rw [hm18, gi_ui, if_neg (fun y => hk y.2), e16]
  · rintro x m ⟨rfl, rfl⟩
    exact ⟨Or.inl rfl, ⟨fr_ui (by simp), f1_ui (by simp)⟩, Or.inl ⟨rfl, Or.inl ⟨q, rfl⟩⟩⟩
theorem sp_X6_readDoing : Sp yX6_readDoing cX6_readDoing 3 (some .boolean) 2 S_X6_readDoing := by
  refine sp_of (by decide) (fun av μ P h => ?_) ?_
  · obtain ⟨w, rfl, -⟩ := h
    refine ⟨Nat.le_of_ble_eq_true rfl, fun v hv => ?_⟩
    simp only [List.mem_cons, List.not_mem_nil, or_false] at hv
    rcases hv with rfl | rfl <;> rfl
  · rintro X P hO _ μ ⟨w, rfl, hw, hpre, hpost⟩ hn
    exact wk_X6_readDoing_0 hO hn w hw μ hpost (vp_X6_readDoing_0 w hw μ hpre)

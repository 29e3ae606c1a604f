theorem at1 {w : Nat} {μ m2 : Mem} (hR : RI w μ) (hm2 : m2 = ui μ 1 3 (gi μ 1 3 + 1)) : RD m2 ∧ gi m2 2 = gi μ 2 ∧ gn m2 1 1 = gn μ 1 1 ∧ gn m2 1 3 = gn μ 1 3 + 1 ∧ fr [1] μ m2 ∧ f1x [2, 3] μ m2 := by
  obtain ⟨hw, ⟨a1, a3, hle⟩, hlt⟩ := hR
  have hb := a1.2
  have e1 : gi m2 1 1 = gi μ 1 1 := by rw [hm2, gi_ui, if_neg (by omega)]
  have e3 : gi m2 1 3 = nI (gn μ 1 3 + 1) := by rw [hm2, gi_ui, if_pos ⟨rfl, rfl⟩, a3.1, nI_1]
  have g3 : gn m2 1 3 = gn μ 1 3 + 1 := by unfold gn; rw [e3, nI_clamp (by unfold gn at *; omega)]; rfl
  have g1 : gn m2 1 1 = gn μ 1 1 := by unfold gn; rw [e1]
  have f2 : fr [1] μ m2 := by rw [hm2]; exact fr_ui (by simp)
  exact ⟨⟨by unfold isN; rw [e1, g1]; exact a1, ⟨by rw [g3]; exact e3, by omega⟩, by omega⟩, funext fun k => f2.1 2 (by simp) k, g1, g3, f2, by rw [hm2]; exact f1_ui (by simp)⟩
theorem nx1 {m' m8 m : Mem} {c k b : Nat} {v : Int32} (hR : RD m') (nf : fr [1] m' m) (n1 : f1x [2, 3] m' m) (h3 : gi m 1 3 = nI b) (hbn : b ≤ gn m' 1 1) (c1 : c ≠ 1) (c2 : c ≠ 2) (hm : m8 = ui m c k v) : RD m8 ∧ gi m8 2 = gi m' 2 ∧ gn m8 1 1 = gn m' 1 1 ∧ gn m8 1 3 = b := by
  have hb := hR.1.2
  have ek : ∀ j, gi m8 1 j = gi m 1 j := fun j => by rw [hm, gi_ui, if_neg (fun y => c1 y.1.symm)]
  have e1 : gi m8 1 1 = gi m' 1 1 := by rw [ek, n1 1 (by simp)]
  have e3 : gi m8 1 3 = nI b := by rw [ek, h3]
  have g1 : gn m8 1 1 = gn m' 1 1 := by unfold gn; rw [e1]
  have g3 : gn m8 1 3 = b := by unfold gn; rw [e3, nI_clamp (by omega)]
  refine ⟨⟨by unfold isN; rw [e1, g1]; exact hR.1, ⟨by rw [g3]; exact e3, by omega⟩, by omega⟩, funext fun j => ?_, g1, g3⟩
  rw [hm, gi_ui, if_neg (fun y => c2 y.1.symm), nf.1 2 (by simp)]
def S_X6_readSuspect : Tr := fun av μ P => ∃ (w : Nat), av = [.ref 1, .ref w] ∧ (w = 3 ∨ w = 10) ∧ pre_X6_readSuspect w μ ∧ ∀ (x : Int32) (m : Mem), post_X6_readSuspect w μ x m → P (some (.int x)) m
def vc_X6_readSuspect_0 (w : Nat)  (μ : Mem) (R : Int32 → Mem → Prop)  : Prop :=
  (((gi μ w 7) < 6 → (∀ μ2, μ2 = ui μ 1 3 ((gi μ 1 3) + 1) → (pre_X6_readNumber 0 31 μ2 ∧ ∀ (x4 : Int32) (μ5 : Mem), post_X6_readNumber 0 31 μ2 x4 μ5 → vp_in (gi μ w 7) 6 ∧ (∀ μ8, μ8 = ui μ5 (w + 6) (Int32.toNatClampNeg (gi μ w 7)) x4 → (∀ μ10, μ10 = ui μ8 w 7 ((gi μ8 w 7) + 1) → vp_in (gi μ w 7) 6 ∧ (((gi μ10 (w + 6) (Int32.toNatClampNeg (gi μ w 7))) < 0 → R 0 μ10) ∧ (¬ (gi μ10 (w + 6) (Int32.toNatClampNeg (gi μ w 7))) < 0 → R 1 μ10))))))) ∧ (¬ (gi μ w 7) < 6 → (pre_X6_failsAt (gi μ 1 3) μ ∧ ∀ (x14 : Int32) (μ15 : Mem), post_X6_failsAt (gi μ 1 3) μ x14 μ15 → (x14 = 0 ∨ x14 = 1) ∧ R x14 μ15)))
set_option maxRecDepth 20000 in
set_option maxHeartbeats 4000000 in
theorem wk_X6_readSuspect_0 {X : XT} {P : Post} (hO : OkM X cX6_readSuspect RX6 2 (some .boolean) P) (hn : xn X = 3) (w : Nat) (hw : w = 3 ∨ w = 10)  (μ : Mem) {R : Int32 → Mem → Prop} (hR : ∀ x m, R x m → P (some (.int x)) m)    (h : vc_X6_readSuspect_0 w  μ R ) : V X 0 [some (.ref 1), some (.ref w), none] [] μ := by
  have hX := hO.1
  unfold vc_X6_readSuspect_0 at h
  refine v_aload_n hX dX6_readSuspect_0 rfl (?_ : V X 1 [some (.ref 1), some (.ref w), none] [.ref w] μ)
  refine v_geti hX fk_X6_98 (sHo hw) rfl dX6_readSuspect_1 (?_ : V X 4 [some (.ref 1), some (.ref w), none] [.int (gi μ w 7)] μ)
  refine v_istore_n hX dX6_readSuspect_4 (by rw [hn]; decide) (?_ : V X 5 [some (.ref 1), some (.ref w), some (.int (gi μ w 7))] [] μ)
  refine v_iload_n hX dX6_readSuspect_5 rfl (?_ : V X 6 [some (.ref 1), some (.ref w), some (.int (gi μ w 7))] [.int (gi μ w 7)] μ)
  refine v_bipush hX 6 dX6_readSuspect_6 rfl (?_ : V X 8 [some (.ref 1), some (.ref w), some (.int (gi μ w 7))] [.int 6, .int (gi μ w 7)] μ)
  refine v_icmp_lt hX 20 dX6_readSuspect_8 rfl (fun c1 => ?_) (fun c1 => ?_)
  · replace h := h.1 c1
    refine v_aload_n hX dX6_readSuspect_20 rfl (?_ : V X 21 [some (.ref 1), some (.ref w), some (.int (gi μ w 7))] [.ref 1] μ)
    refine v_dup hX dX6_readSuspect_21 rfl (?_ : V X 22 [some (.ref 1), some (.ref w), some (.int (gi μ w 7))] [.ref 1, .ref 1] μ)
    refine v_geti hX fk_X6_27 sh_1 rfl dX6_readSuspect_22 (?_ : V X 25 [some (.ref 1), some (.ref w), some (.int (gi μ w 7))] [.int (gi μ 1 3), .ref 1] μ)
    refine v_iconst hX 1 dX6_readSuspect_25 rfl (?_ : V X 26 [some (.ref 1), some (.ref w), some (.int (gi μ w 7))] [.int 1, .int (gi μ 1 3), .ref 1] μ)
    refine v_iadd hX dX6_readSuspect_26 (?_ : V X 27 [some (.ref 1), some (.ref w), some (.int (gi μ w 7))] [.int ((gi μ 1 3) + 1), .ref 1] μ)
    refine w_puti hX fk_X6_27 fw_6_3 sh_1 rfl dX6_readSuspect_27 (fun μ2 e3 => (?_ : V X 30 [some (.ref 1), some (.ref w), some (.int (gi μ w 7))] [] μ2))
    replace h := h μ2 e3
    refine v_aload_n hX dX6_readSuspect_30 rfl (?_ : V X 31 [some (.ref 1), some (.ref w), some (.int (gi μ w 7))] [.ref w] μ2)
    refine v_getr hX (w + 6) fk_X6_101 (sHo hw) rfl rfl dX6_readSuspect_31 (?_ : V X 34 [some (.ref 1), some (.ref w), some (.int (gi μ w 7))] [.ref (w + 6)] μ2)
    refine v_iload_n hX dX6_readSuspect_34 rfl (?_ : V X 35 [some (.ref 1), some (.ref w), some (.int (gi μ w 7))] [.int (gi μ w 7), .ref (w + 6)] μ2)
    refine v_aload_n hX dX6_readSuspect_35 rfl (?_ : V X 36 [some (.ref 1), some (.ref w), some (.int (gi μ w 7))] [.ref 1, .int (gi μ w 7), .ref (w + 6)] μ2)
    refine v_iconst hX 0 dX6_readSuspect_36 rfl (?_ : V X 37 [some (.ref 1), some (.ref w), some (.int (gi μ w 7))] [.int 0, .ref 1, .int (gi μ w 7), .ref (w + 6)] μ2)
    refine v_bipush hX 31 dX6_readSuspect_37 rfl (?_ : V X 39 [some (.ref 1), some (.ref w), some (.int (gi μ w 7))] [.int 31, .int 0, .ref 1, .int (gi μ w 7), .ref (w + 6)] μ2)
    refine v_callV hX sp_X6_readNumber ck_X6_readNumber mk_X6_79 mv_X6_readNumber sh_1 (by decide) (by decide) [.int 0, .int 31] [.int (gi μ w 7), .ref (w + 6)] rfl rfl (Nat.le_of_ble_eq_true rfl) dX6_readSuspect_39 ⟨0, 31, rfl, h.1, fun x4 μ5 hp6 => (?_ : V X 42 [some (.ref 1), some (.ref w), some (.int (gi μ w 7))] [.int x4, .int (gi μ w 7), .ref (w + 6)] μ5)⟩
    replace h := h.2 x4 μ5 hp6
    have hb7 := h.1
    replace h := h.2
    refine w_iast hX (Int32.toNatClampNeg (gi μ w 7)) (sH6 hw) hb7 rfl dX6_readSuspect_42 (fun μ8 e9 => (?_ : V X 43 [some (.ref 1), some (.ref w), some (.int (gi μ w 7))] [] μ8))
    replace h := h μ8 e9
    refine v_aload_n hX dX6_readSuspect_43 rfl (?_ : V X 44 [some (.ref 1), some (.ref w), some (.int (gi μ w 7))] [.ref w] μ8)
    refine v_dup hX dX6_readSuspect_44 rfl (?_ : V X 45 [some (.ref 1), some (.ref w), some (.int (gi μ w 7))] [.ref w, .ref w] μ8)
    refine v_geti hX fk_X6_98 (sHo hw) rfl dX6_readSuspect_45 (?_ : V X 48 [some (.ref 1), some (.ref w), some (.int (gi μ w 7))] [.int (gi μ8 w 7), .ref w] μ8)
    refine v_iconst hX 1 dX6_readSuspect_48 rfl (?_ : V X 49 [some (.ref 1), some (.ref w), some (.int (gi μ w 7))] [.int 1, .int (gi μ8 w 7), .ref w] μ8)
    refine v_iadd hX dX6_readSuspect_49 (?_ : V X 50 [some (.ref 1), some (.ref w), some (.int (gi μ w 7))] [.int ((gi μ8 w 7) + 1), .ref w] μ8)
    refine w_puti hX fk_X6_98 fw_2_7 (sHo hw) rfl dX6_readSuspect_50 (fun μ10 e11 => (?_ : V X 53 [some (.ref 1), some (.ref w), some (.int (gi μ w 7))] [] μ10))
    replace h := h μ10 e11
    refine v_aload_n hX dX6_readSuspect_53 rfl (?_ : V X 54 [some (.ref 1), some (.ref w), some (.int (gi μ w 7))] [.ref w] μ10)
    refine v_getr hX (w + 6) fk_X6_101 (sHo hw) rfl rfl dX6_readSuspect_54 (?_ : V X 57 [some (.ref 1), some (.ref w), some (.int (gi μ w 7))] [.ref (w + 6)] μ10)
    refine v_iload_n hX dX6_readSuspect_57 rfl (?_ : V X 58 [some (.ref 1), some (.ref w), some (.int (gi μ w 7))] [.int (gi μ w 7), .ref (w + 6)] μ10)
    have hb12 := h.1
    replace h := h.2
    refine w_iald hX (Int32.toNatClampNeg (gi μ w 7)) (sH6 hw) hb12 rfl dX6_readSuspect_58 (?_ : V X 59 [some (.ref 1), some (.ref w), some (.int (gi μ w 7))] [.int (gi μ10 (w + 6) (Int32.toNatClampNeg (gi μ w 7)))] μ10)
    refine v_if_lt hX 66 dX6_readSuspect_59 rfl (fun c13 => ?_) (fun c13 => ?_)
    · replace h := h.1 c13
      refine v_iconst hX 0 dX6_readSuspect_66 rfl (?_ : V X 67 [some (.ref 1), some (.ref w), some (.int (gi μ w 7))] [.int 0] μ10)
      exact v_zret hO dX6_readSuspect_67 (by decide) (hR _ _ h)
    · replace h := h.2 c13
      refine v_iconst hX 1 dX6_readSuspect_62 rfl (?_ : V X 63 [some (.ref 1), some (.ref w), some (.int (gi μ w 7))] [.int 1] μ10)
      refine v_goto hX 67 dX6_readSuspect_63 rfl (?_ : V X 67 [some (.ref 1), some (.ref w), some (.int (gi μ w 7))] [.int 1] μ10)
      exact v_zret hO dX6_readSuspect_67 (by decide) (hR _ _ h)
  · replace h := h.2 c1
    refine v_aload_n hX dX6_readSuspect_11 rfl (?_ : V X 12 [some (.ref 1), some (.ref w), some (.int (gi μ w 7))] [.ref 1] μ)
    refine v_aload_n hX dX6_readSuspect_12 rfl (?_ : V X 13 [some (.ref 1), some (.ref w), some (.int (gi μ w 7))] [.ref 1, .ref 1] μ)
    refine v_geti hX fk_X6_27 sh_1 rfl dX6_readSuspect_13 (?_ : V X 16 [some (.ref 1), some (.ref w), some (.int (gi μ w 7))] [.int (gi μ 1 3), .ref 1] μ)
    refine v_callV hX sp_X6_failsAt ck_X6_failsAt mk_X6_69 mv_X6_failsAt sh_1 (by decide) (by decide) [.int (gi μ 1 3)] [] rfl rfl (Nat.le_of_ble_eq_true rfl) dX6_readSuspect_16 ⟨(gi μ 1 3), rfl, h.1, fun x14 μ15 hp16 => (?_ : V X 19 [some (.ref 1), some (.ref w), some (.int (gi μ w 7))] [.int x14] μ15)⟩
    replace h := h.2 x14 μ15 hp16
    exact v_zret hO dX6_readSuspect_19 h.1 (hR _ _ h.2)
set_option maxRecDepth 20000 in
set_option maxHeartbeats 1000000 in
theorem vp_X6_readSuspect_0 (w : Nat) (hw : w = 3 ∨ w = 10) (μ : Mem) (hpre : pre_X6_readSuspect w μ) : vc_X6_readSuspect_0 w μ (post_X6_readSuspect w μ)  := by
  unfold vc_X6_readSuspect_0
  obtain ⟨hR, a7⟩ := hpre
  have hw := hR.1
  have h7 := a7.2
  refine ⟨fun q => ?_, fun q => ⟨trivial, ?_⟩⟩
  · have hs : gn μ w 7 < 6 := by
      have h := i_lt.mp q
      rw [a7.1, nI_toInt (by omega), show (6 : Int32).toInt = 6 from rfl] at h; omega
    have in6 : vp_in (gi μ w 7) 6 := by rw [a7.1]; exact vp_in_nI hs (by omega)
    rintro m2 hm2
    obtain ⟨hRD, eT, g1, g3, f2, k2⟩ := at1 hR hm2
    refine ⟨⟨hRD, by decide⟩, ?_⟩
    rintro x4 m5 h
    obtain ⟨nf, n1, hn⟩ := num_use hRD h
    rw [eT, g1, g3] at hn
    refine ⟨in6, ?_⟩
    rintro m8 hm8 m10 hm10
    refine ⟨in6, ?_⟩
    have ec : (gi μ w 7).toNatClampNeg = gn μ w 7 := rfl
    rw [ec] at hm8 ⊢
    have f5 : fr [1] μ m5 := fr_trans f2 nf
    have k5 : f1x [2, 3] μ m5 := f1_trans k2 n1
    have e1 : ∀ k, gi m10 1 k = gi m5 1 k := fun k => by
      rw [hm10, gi_ui, if_neg (by omega), hm8, gi_ui, if_neg (by omega)]
    have e6 : ∀ k, gi m10 (w + 6) k = if k = gn μ w 7 then x4 else gi μ (w + 6) k := fun k => by
      rw [hm10, gi_ui, if_neg (by omega), hm8, gi_ui]
      by_cases z : k = gn μ w 7
      · rw [if_pos ⟨rfl, z⟩, if_pos z]
      · rw [if_neg (fun y => z y.2), if_neg z, f5.1 (w + 6) (by simp)]
    have e8 : ∀ k, gi m8 w k = gi μ w k := fun k => by rw [hm8, gi_ui, if_neg (by omega), f5.1 w (by simp; omega)]
    have fA : fr [1, w, w + 6] μ m10 := by
      rw [hm10, hm8]; exact fr_trans (fr_mono f5 (by simp)) (fr_trans (fr_ui (by simp)) (fr_ui (by simp)))
    have kA : f1x [2, 3] μ m10 := fun k hk => by rw [e1]; exact k5 k hk
    have fI : frI w μ m10 := ⟨fr_mono fA (by simp), f1_mono kA (by simp)⟩
    rw [e6, if_pos rfl]
    rcases hn with ⟨s, hs1, hx, h2⟩ | ⟨b, hb1, hx, h3, hbn⟩
    · refine ⟨fun _ => ⟨fI, Or.inl ⟨rfl, Or.inr ⟨q, s, hs1, by rw [e1]; exact h2⟩⟩⟩, fun z => ?_⟩
      rw [hx] at z; exact absurd (by decide) z
    · refine ⟨fun z => absurd hx (by simpa using z), fun _ => ⟨fI, Or.inr ⟨rfl, q, x4, b, hb1, ⟨hbn, by rw [e1]; exact h3, kA, ?_, fun k hk => ?_⟩, fA, e6⟩⟩⟩
      · rw [hm10, gi_ui, if_pos ⟨rfl, rfl⟩, e8]
      · rw [hm10, gi_ui, if_neg (fun y => hk y.2), e8]
  · rintro x m ⟨rfl, rfl⟩
    exact ⟨Or.inl rfl, ⟨fr_ui (by simp), f1_ui (by simp)⟩, Or.inl ⟨rfl, Or.inl ⟨q, rfl⟩⟩⟩
theorem sp_X6_readSuspect : Sp yX6_readSuspect cX6_readSuspect 3 (some .boolean) 2 S_X6_readSuspect := by
  refine sp_of (by decide) (fun av μ P h => ?_) ?_
  · obtain ⟨w, rfl, -⟩ := h
    refine ⟨Nat.le_of_ble_eq_true rfl, fun v hv => ?_⟩
    simp only [List.mem_cons, List.not_mem_nil, or_false] at hv
    rcases hv with rfl | rfl <;> rfl
  · rintro X P hO _ μ ⟨w, rfl, hw, hpre, hpost⟩ hn
    exact wk_X6_readSuspect_0 hO hn w hw μ hpost (vp_X6_readSuspect_0 w hw μ hpre)

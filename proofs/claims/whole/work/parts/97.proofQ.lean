def S_X6_readInto : Tr := fun av μ P => ∃ (w : Nat), av = [.ref 1, .ref w] ∧ (w = 3 ∨ w = 10) ∧ pre_X6_readInto w μ ∧ ∀ (x : Int32) (m : Mem), post_X6_readInto w μ x m → P (some (.int x)) m
def vc_X6_readInto_0 (w : Nat)  (μ : Mem) (R : Int32 → Mem → Prop) (J32 : Int32 → Int32 → Mem → Prop) : Prop :=
  (pre_X2_tellNothing w μ ∧ ∀ (μ2 : Mem), post_X2_tellNothing w μ μ2 → (∀ μ4, μ4 = ui μ2 1 3 0 → (∀ μ6, μ6 = ui μ4 1 4 0 → (∀ μ8, μ8 = ui μ6 1 5 0 → (∀ μ10, μ10 = ui μ8 1 6 0 → (pre_X6_skipBlanks  μ10 ∧ ∀ (μ13 : Mem), post_X6_skipBlanks  μ10 μ13 → J32 0 0 μ13))))))
set_option maxRecDepth 20000 in
set_option maxHeartbeats 4000000 in
theorem wk_X6_readInto_0 {X : XT} {P : Post} (hO : OkM X cX6_readInto RX6 4 (some .int) P) (hn : xn X = 4) (w : Nat) (hw : w = 3 ∨ w = 10)  (μ : Mem) {R : Int32 → Mem → Prop} (hR : ∀ x m, R x m → P (some (.int x)) m) {J32 : Int32 → Int32 → Mem → Prop} (hJ32 : ∀ (l2 : Int32) (l3 : Int32) (m : Mem), J32 l2 l3 m → V X 32 [some (.ref 1), some (.ref w), some (.int l2), some (.int l3)] [] m)  (h : vc_X6_readInto_0 w  μ R J32) : V X 0 [some (.ref 1), some (.ref w), none, none] [] μ := by
  have hX := hO.1
  unfold vc_X6_readInto_0 at h
  refine v_aload_n hX dX6_readInto_0 rfl (?_ : V X 1 [some (.ref 1), some (.ref w), none, none] [.ref w] μ)
  refine v_callV hX sp_X2_tellNothing ck_X2_tellNothing mk_X6_22 mv_X2_tellNothing (sHo hw) (by decide) (by decide) [] [] rfl rfl (Nat.le_of_ble_eq_true rfl) dX6_readInto_1 ⟨w, rfl, hw, h.1, fun μ2 hp3 => (?_ : V X 4 [some (.ref 1), some (.ref w), none, none] [] μ2)⟩
  replace h := h.2 μ2 hp3
  refine v_aload_n hX dX6_readInto_4 rfl (?_ : V X 5 [some (.ref 1), some (.ref w), none, none] [.ref 1] μ2)
  refine v_iconst hX 0 dX6_readInto_5 rfl (?_ : V X 6 [some (.ref 1), some (.ref w), none, none] [.int 0, .ref 1] μ2)
  refine w_puti hX fk_X6_27 fw_6_3 sh_1 rfl dX6_readInto_6 (fun μ4 e5 => (?_ : V X 9 [some (.ref 1), some (.ref w), none, none] [] μ4))
  replace h := h μ4 e5
  refine v_aload_n hX dX6_readInto_9 rfl (?_ : V X 10 [some (.ref 1), some (.ref w), none, none] [.ref 1] μ4)
  refine v_iconst hX 0 dX6_readInto_10 rfl (?_ : V X 11 [some (.ref 1), some (.ref w), none, none] [.int 0, .ref 1] μ4)
  refine w_putz hX fk_X6_30 fw_6_4 sh_1 rfl (by decide) dX6_readInto_11 (fun μ6 e7 => (?_ : V X 14 [some (.ref 1), some (.ref w), none, none] [] μ6))
  replace h := h μ6 e7
  refine v_aload_n hX dX6_readInto_14 rfl (?_ : V X 15 [some (.ref 1), some (.ref w), none, none] [.ref 1] μ6)
  refine v_iconst hX 0 dX6_readInto_15 rfl (?_ : V X 16 [some (.ref 1), some (.ref w), none, none] [.int 0, .ref 1] μ6)
  refine w_putz hX fk_X6_34 fw_6_5 sh_1 rfl (by decide) dX6_readInto_16 (fun μ8 e9 => (?_ : V X 19 [some (.ref 1), some (.ref w), none, none] [] μ8))
  replace h := h μ8 e9
  refine v_aload_n hX dX6_readInto_19 rfl (?_ : V X 20 [some (.ref 1), some (.ref w), none, none] [.ref 1] μ8)
  refine v_iconst hX 0 dX6_readInto_20 rfl (?_ : V X 21 [some (.ref 1), some (.ref w), none, none] [.int 0, .ref 1] μ8)
  refine w_putz hX fk_X6_37 fw_6_6 sh_1 rfl (by decide) dX6_readInto_21 (fun μ10 e11 => (?_ : V X 24 [some (.ref 1), some (.ref w), none, none] [] μ10))
  replace h := h μ10 e11
  refine v_aload_n hX dX6_readInto_24 rfl (?_ : V X 25 [some (.ref 1), some (.ref w), none, none] [.ref 1] μ10)
  refine v_callV hX sp_X6_skipBlanks ck_X6_skipBlanks mk_X6_40 mv_X6_skipBlanks sh_1 (by decide) (by decide) [] [] rfl rfl (Nat.le_of_ble_eq_true rfl) dX6_readInto_25 ⟨rfl, h.1, fun μ13 hp14 => (?_ : V X 28 [some (.ref 1), some (.ref w), none, none] [] μ13)⟩
  replace h := h.2 μ13 hp14
  refine v_iconst hX 0 dX6_readInto_28 rfl (?_ : V X 29 [some (.ref 1), some (.ref w), none, none] [.int 0] μ13)
  refine v_istore_n hX dX6_readInto_29 (by rw [hn]; decide) (?_ : V X 30 [some (.ref 1), some (.ref w), some (.int 0), none] [] μ13)
  refine v_iconst hX 0 dX6_readInto_30 rfl (?_ : V X 31 [some (.ref 1), some (.ref w), some (.int 0), none] [.int 0] μ13)
  refine v_istore_n hX dX6_readInto_31 (by rw [hn]; decide) (?_ : V X 32 [some (.ref 1), some (.ref w), some (.int 0), some (.int 0)] [] μ13)
  exact v_mask [true, true, true, true] (hJ32 _ _ _ h)
def vc_X6_readInto_32 (w : Nat) (l2 : Int32) (l3 : Int32) (μ : Mem) (R : Int32 → Mem → Prop) (J32 : Int32 → Int32 → Mem → Prop) : Prop :=
  ((200 ≤ l3 → R l2 μ) ∧ (¬ 200 ≤ l3 → (((gi μ 1 1) ≤ (gi μ 1 3) → R l2 μ) ∧ (¬ (gi μ 1 1) ≤ (gi μ 1 3) → (pre_X6_readItem w μ ∧ ∀ (x3 : Int32) (μ4 : Mem), post_X6_readItem w μ x3 μ4 → ((¬ x3 = 0 → (pre_X6_skipBlanks  μ4 ∧ ∀ (μ8 : Mem), post_X6_skipBlanks  μ4 μ8 → J32 (l2 + 1) (l3 + 1) μ8)) ∧ (x3 = 0 → R ((-1)) μ4)))))))
set_option maxRecDepth 20000 in
set_option maxHeartbeats 4000000 in
theorem wk_X6_readInto_32 {X : XT} {P : Post} (hO : OkM X cX6_readInto RX6 4 (some .int) P) (hn : xn X = 4) (w : Nat) (hw : w = 3 ∨ w = 10) (l2 : Int32) (l3 : Int32) (μ : Mem) {R : Int32 → Mem → Prop} (hR : ∀ x m, R x m → P (some (.int x)) m) {J32 : Int32 → Int32 → Mem → Prop} (hJ32 : ∀ (l2 : Int32) (l3 : Int32) (m : Mem), J32 l2 l3 m → V X 32 [some (.ref 1), some (.ref w), some (.int l2), some (.int l3)] [] m)  (h : vc_X6_readInto_32 w l2 l3 μ R J32) : V X 32 [some (.ref 1), some (.ref w), some (.int l2), some (.int l3)] [] μ := by
  have hX := hO.1
  unfold vc_X6_readInto_32 at h
  refine v_iload_n hX dX6_readInto_32 rfl (?_ : V X 33 [some (.ref 1), some (.ref w), some (.int l2), some (.int l3)] [.int l3] μ)
  refine v_sipush hX 200 dX6_readInto_33 rfl (?_ : V X 36 [some (.ref 1), some (.ref w), some (.int l2), some (.int l3)] [.int 200, .int l3] μ)
  refine v_icmp_ge hX 73 dX6_readInto_36 rfl (fun c1 => ?_) (fun c1 => ?_)
  · replace h := h.1 c1
    refine v_iload_n hX dX6_readInto_73 rfl (?_ : V X 74 [some (.ref 1), some (.ref w), some (.int l2), some (.int l3)] [.int l2] μ)
    exact v_iret hO dX6_readInto_74 (hR _ _ h)
  · replace h := h.2 c1
    refine v_aload_n hX dX6_readInto_39 rfl (?_ : V X 40 [some (.ref 1), some (.ref w), some (.int l2), some (.int l3)] [.ref 1] μ)
    refine v_geti hX fk_X6_27 sh_1 rfl dX6_readInto_40 (?_ : V X 43 [some (.ref 1), some (.ref w), some (.int l2), some (.int l3)] [.int (gi μ 1 3)] μ)
    refine v_aload_n hX dX6_readInto_43 rfl (?_ : V X 44 [some (.ref 1), some (.ref w), some (.int l2), some (.int l3)] [.ref 1, .int (gi μ 1 3)] μ)
    refine v_geti hX fk_X6_15 sh_1 rfl dX6_readInto_44 (?_ : V X 47 [some (.ref 1), some (.ref w), some (.int l2), some (.int l3)] [.int (gi μ 1 1), .int (gi μ 1 3)] μ)
    refine v_icmp_ge hX 73 dX6_readInto_47 rfl (fun c2 => ?_) (fun c2 => ?_)
    · replace h := h.1 c2
      refine v_iload_n hX dX6_readInto_73 rfl (?_ : V X 74 [some (.ref 1), some (.ref w), some (.int l2), some (.int l3)] [.int l2] μ)
      exact v_iret hO dX6_readInto_74 (hR _ _ h)
    · replace h := h.2 c2
      refine v_aload_n hX dX6_readInto_50 rfl (?_ : V X 51 [some (.ref 1), some (.ref w), some (.int l2), some (.int l3)] [.ref 1] μ)
      refine v_aload_n hX dX6_readInto_51 rfl (?_ : V X 52 [some (.ref 1), some (.ref w), some (.int l2), some (.int l3)] [.ref w, .ref 1] μ)
      refine v_callV hX sp_X6_readItem ck_X6_readItem mk_X6_43 mv_X6_readItem sh_1 (by decide) (by decide) [.ref w] [] rfl rfl (Nat.le_of_ble_eq_true rfl) dX6_readInto_52 ⟨w, rfl, hw, h.1, fun x3 μ4 hp5 => (?_ : V X 55 [some (.ref 1), some (.ref w), some (.int l2), some (.int l3)] [.int x3] μ4)⟩
      replace h := h.2 x3 μ4 hp5
      refine v_if_ne hX 60 dX6_readInto_55 rfl (fun c6 => ?_) (fun c6 => ?_)
      · replace h := h.1 c6
        refine v_iinc hX 1 dX6_readInto_60 (by rw [hn]; decide) rfl rfl (?_ : V X 63 [some (.ref 1), some (.ref w), some (.int (l2 + 1)), some (.int l3)] [] μ4)
        refine v_aload_n hX dX6_readInto_63 rfl (?_ : V X 64 [some (.ref 1), some (.ref w), some (.int (l2 + 1)), some (.int l3)] [.ref 1] μ4)
        refine v_callV hX sp_X6_skipBlanks ck_X6_skipBlanks mk_X6_40 mv_X6_skipBlanks sh_1 (by decide) (by decide) [] [] rfl rfl (Nat.le_of_ble_eq_true rfl) dX6_readInto_64 ⟨rfl, h.1, fun μ8 hp9 => (?_ : V X 67 [some (.ref 1), some (.ref w), some (.int (l2 + 1)), some (.int l3)] [] μ8)⟩
        replace h := h.2 μ8 hp9
        refine v_iinc hX 1 dX6_readInto_67 (by rw [hn]; decide) rfl rfl (?_ : V X 70 [some (.ref 1), some (.ref w), some (.int (l2 + 1)), some (.int (l3 + 1))] [] μ8)
        refine v_goto hX 32 dX6_readInto_70 rfl (?_ : V X 32 [some (.ref 1), some (.ref w), some (.int (l2 + 1)), some (.int (l3 + 1))] [] μ8)
        exact v_mask [true, true, true, true] (hJ32 _ _ _ h)
      · replace h := h.2 c6
        refine v_iconst hX (-1) dX6_readInto_58 rfl (?_ : V X 59 [some (.ref 1), some (.ref w), some (.int l2), some (.int l3)] [.int ((-1))] μ4)
        exact v_iret hO dX6_readInto_59 (hR _ _ h)
set_option maxRecDepth 20000 in
set_option maxHeartbeats 1000000 in
theorem vp_X6_readInto_0 (w : Nat) (hw : w = 3 ∨ w = 10) (μ : Mem) (hpre : pre_X6_readInto w μ) : vc_X6_readInto_0 w μ (post_X6_readInto w μ) (fun l2 l3 m => ∃ k : Nat, inv_X6_readInto_32 w μ k l2 l3 m) := by
  unfold vc_X6_readInto_0
  refine ⟨trivial, fun m2 h2 m4 h4 m6 h6 m8 h8 m10 h10 => ?_⟩
  have hN := hpre
  have h200 := hN.2
  have f2 : frI w μ m2 := by
    rw [h2]
    refine ⟨?_, fun k _ => ?_⟩
    · exact fr_trans (fr_trans (fr_trans (fr_trans (fr_trans (fr_ui (by simp)) (fr_ui (by simp))) (fr_ui (by simp))) (fr_ui (by simp))) (fr_ui (by simp))) (fr_ui (by simp))
    · simp only [gi_ui]
      rw [if_neg (by omega), if_neg (by omega), if_neg (by omega), if_neg (by omega), if_neg (by omega), if_neg (by omega)]
  have f10 : frI w μ m10 := by
    rw [h10, h8, h6, h4]
    exact ⟨fr_trans (fr_trans (fr_trans (fr_trans f2.1 (fr_ui (by simp))) (fr_ui (by simp))) (fr_ui (by simp))) (fr_ui (by simp)), f1_trans (f1_trans (f1_trans (f1_trans f2.2 (f1_ui (by simp))) (f1_ui (by simp))) (f1_ui (by simp))) (f1_ui (by simp))⟩
  have e1 : gi m10 1 1 = gi μ 1 1 := f10.2 1 (by simp)
  have e3 : gi m10 1 3 = nI 0 := by
    rw [h10, gi_ui, if_neg (by omega), h8, gi_ui, if_neg (by omega), h6, gi_ui, if_neg (by omega), h4, gi_ui, if_pos ⟨rfl, rfl⟩]; rfl
  have e4 : gi m10 1 4 = 0 := by rw [h10, gi_ui, if_neg (by omega), h8, gi_ui, if_neg (by omega), h6, gi_ui, if_pos ⟨rfl, rfl⟩]
  have e5 : gi m10 1 5 = 0 := by rw [h10, gi_ui, if_neg (by omega), h8, gi_ui, if_pos ⟨rfl, rfl⟩]
  have e6 : gi m10 1 6 = 0 := by rw [h10, gi_ui, if_pos ⟨rfl, rfl⟩]
  have ew : ∀ k, gi m10 w k = gi m2 w k := fun k => by rw [h10, gi_ui, if_neg (by omega), h8, gi_ui, if_neg (by omega), h6, gi_ui, if_neg (by omega), h4, gi_ui, if_neg (by omega)]
  have hRD : RD m10 := by
    refine ⟨by unfold isN gn; rw [e1]; exact hN, ?_, ?_⟩
    · unfold isN gn; rw [e3, nI_clamp (by omega)]; exact ⟨rfl, by omega⟩
    · unfold gn; rw [e3, nI_clamp (by omega)]; omega
  refine ⟨hRD, ?_⟩
  rintro m13 ⟨b1, b2, s, b3, b4⟩
  have f13 : frI w μ m13 := ⟨fr_trans f10.1 (fr_mono b1 (by simp)), f1_trans f10.2 (f1_mono b2 (by simp))⟩
  have eT : gi m10 2 = gi μ 2 := funext fun k => f10.1.1 2 (by simp <;> omega) k
  have g1 : gn m10 1 1 = gn μ 1 1 := by unfold gn; rw [e1]
  have g3 : gn m10 1 3 = 0 := by unfold gn; rw [e3, nI_clamp (by omega)]
  rw [eT, g1, g3] at b4
  refine ⟨200, f13, 0, 0, s, D0, by omega, by omega, rfl, rfl, ⟨rfl, rfl⟩, b4, b3, D0_ok, ag_fr1 hw b1 ?_, ?_⟩
  · unfold agC
    simp only [ew]
    rw [show dn D0 0 = 0 from by decide, show dn D0 1 = 0 from by decide, show dn D0 2 = 0 from by decide]
    refine ⟨?_, ?_, ?_, ?_, ?_, ?_, fun i hi => by omega, fun i hi => by omega, fun i hi => by omega⟩ <;> rw [h2] <;> simp [gi_ui, D0]
  · unfold mkC
    rw [b2 4 (by simp), b2 5 (by simp), b2 6 (by simp), e4, e5, e6]
    decide
set_option maxRecDepth 20000 in
set_option maxHeartbeats 1000000 in
theorem vp_X6_readInto_32 (w : Nat) (hw : w = 3 ∨ w = 10) (μ : Mem) (hpre : pre_X6_readInto w μ) (n : Nat) (l2 : Int32) (l3 : Int32) (μ0 : Mem) (hi : inv_X6_readInto_32 w μ n l2 l3 μ0) : vc_X6_readInto_32 w l2 l3 μ0 (post_X6_readInto w μ) (fun l2 l3 m => ∃ k : Nat, k < n ∧ inv_X6_readInto_32 w μ k l2 l3 m) := by
  unfold vc_X6_readInto_32
  obtain ⟨hf, k, a, s, D, hk, hn, e2, e3, hP, hS, h3, hD, hA, hM⟩ := hi
  have hN := hpre
  have h200 := hN.2
  have e1 : gi μ0 1 1 = gi μ 1 1 := hf.2 1 (by simp)
  have eT : gi μ0 2 = gi μ 2 := funext fun j => hf.1.1 2 (by simp <;> omega) j
  have g1 : gn μ0 1 1 = gn μ 1 1 := by unfold gn; rw [e1]
  have hsn := hS.2.1
  have g3 : gn μ0 1 3 = s := by unfold gn; rw [h3, nI_clamp (by omega)]
  have hpl := pf_place hP
  have hsa := hS.1
  subst e2 e3
  refine ⟨fun q => ⟨hf, Or.inr ⟨k, D, by omega, rfl, ⟨a, hP, ?_⟩, hD, hA⟩⟩, fun q => ⟨fun q2 => ⟨hf, Or.inr ⟨k, D, by omega, rfl, ⟨a, hP, ?_⟩, hD, hA⟩⟩, fun q2 => ?_⟩⟩
  · have hk2 : 200 ≤ k := by
      have := i_le.mp q
      rw [nI_toInt (by omega), show (200 : Int32).toInt = 200 from rfl] at this
      omega
    rw [show s = gn μ 1 1 from by omega] at hS
    exact hS
  · rw [e1, h3, hN.1, nI_leI (by omega) (by omega)] at q2
    rw [show s = gn μ 1 1 from by omega] at hS
    exact hS
  · rw [e1, h3, hN.1, nI_leI (by omega) (by omega)] at q2
    have hk2 : k < 200 := by
      have := fun z => q (i_le.mpr z)
      rw [nI_toInt (by omega), show (200 : Int32).toInt = 200 from rfl] at this
      omega
    have hRD : RD μ0 := by
      refine ⟨by unfold isN; rw [g1, e1]; exact hN, ?_, by omega⟩
      unfold isN; rw [g3]; exact ⟨h3, by omega⟩
    refine ⟨⟨⟨hw, hRD, by omega⟩, ok_isN hD hA⟩, ?_⟩
    rintro x m4 ⟨i1, i2, i3⟩
    have i3 := i3 D hD hA hM
    have f4 : frI w μ m4 := ⟨fr_trans hf.1 i1.1, f1_trans hf.2 i1.2⟩
    rw [eT, g1, g3] at i3
    refine ⟨fun x0 => ?_, fun x0 => ?_⟩
    · rcases i2 with z | ⟨x1, hR4⟩
      · exact absurd z x0
      rcases i3 with ⟨z, _⟩ | ⟨_, b, D', c1, c2, c3, c4⟩
      · exact absurd z x0
      refine ⟨hR4, ?_⟩
      rintro m8 ⟨b1, b2, s', b3, b4⟩
      have bp := it_place c1
      have eT4 : gi m4 2 = gi μ 2 := funext fun j => f4.1.1 2 (by simp <;> omega) j
      have g14 : gn m4 1 1 = gn μ 1 1 := by unfold gn; rw [f4.2 1 (by simp)]
      have g34 : gn m4 1 3 = b := by unfold gn; rw [c2, nI_clamp (by omega)]
      rw [eT4, g14, g34] at b4
      exact ⟨200 - (k + 1), by omega, ⟨fr_trans f4.1 (fr_mono b1 (by simp)), f1_trans f4.2 (f1_mono b2 (by simp))⟩, k + 1, b, s', D', by omega, rfl, nI_1 k, nI_1 k, ⟨a, D, s, hP, hS, by omega, c1⟩, b4, b3, it_ok hD c1, ag_fr1 hw b1 c3, by unfold mkC; rw [b2 4 (by simp), b2 5 (by simp), b2 6 (by simp)]; exact c4⟩
    · rcases i3 with ⟨_, f, c1, c2⟩ | ⟨z, _⟩
      · exact ⟨f4, Or.inl ⟨rfl, f, ⟨k, a, s, D, hP, hS, by omega, c1⟩, c2⟩⟩
      · rw [x0] at z; exact absurd z (by decide)
theorem sp_X6_readInto : Sp yX6_readInto cX6_readInto 4 (some .int) 4 S_X6_readInto := by
  refine sp_of (by decide) (fun av μ P h => ?_) ?_
  · obtain ⟨w, rfl, -⟩ := h
    refine ⟨Nat.le_of_ble_eq_true rfl, fun v hv => ?_⟩
    simp only [List.mem_cons, List.not_mem_nil, or_false] at hv
    rcases hv with rfl | rfl <;> rfl
  · rintro X P hO _ μ ⟨w, rfl, hw, hpre, hpost⟩ hn
    have hJ : ∀ n : Nat, (∀ (l2 : Int32) (l3 : Int32) (m : Mem), inv_X6_readInto_32 w μ n l2 l3 m → V X 32 [some (.ref 1), some (.ref w), some (.int l2), some (.int l3)] [] m) := by
      intro n
      induction n using Nat.strongRecOn with
      | _ n ih =>
        exact fun l2 l3 m hi => wk_X6_readInto_32 (J32 := (fun l2 l3 m => ∃ k : Nat, k < n ∧ inv_X6_readInto_32 w μ k l2 l3 m)) hO hn w hw l2 l3 m hpost (fun l2 l3 m hk => by obtain ⟨k, hk, hi⟩ := hk; exact (ih k hk) l2 l3 m hi) (vp_X6_readInto_32 w hw μ hpre n l2 l3 m hi)
    exact wk_X6_readInto_0 (J32 := (fun l2 l3 m => ∃ k : Nat, inv_X6_readInto_32 w μ k l2 l3 m)) hO hn w hw μ hpost (fun l2 l3 m hk => by obtain ⟨k, hi⟩ := hk; exact (hJ k) l2 l3 m hi) (vp_X6_readInto_0 w hw μ hpre)
def S_X8_house : Tr := fun av μ P => av = [.ref 0] ∧ pre_X8_house  μ ∧ ∀ (x : Int32) (m : Mem), post_X8_house  μ x m → P (some (.int x)) m
def vc_X8_house_0   (μ : Mem) (R : Int32 → Mem → Prop)  : Prop :=
  ((gp μ 2) = 3 ∨ (gp μ 2) = 10) ∧ (pre_X6_readInto ((gp μ 2)) μ ∧ ∀ (x2 : Int32) (μ3 : Mem), post_X6_readInto ((gp μ 2)) μ x2 μ3 → ((0 ≤ x2 → ((gp μ3 1) = 3 ∨ (gp μ3 1) = 10) ∧ ((gp μ3 2) = 3 ∨ (gp μ3 2) = 10) ∧ (∀ μ8, μ8 = up μ3 1 ((gp μ3 2)) → (∀ μ10, μ10 = up μ8 2 ((gp μ3 1)) → (∀ μ12, μ12 = ui μ10 1 1 0 → ((gp μ12 1) = 3 ∨ (gp μ12 1) = 10) ∧ (pre_X7_beginIn ((gp μ12 1)) μ12 ∧ ∀ (μ16 : Mem), post_X7_beginIn ((gp μ12 1)) μ12 μ16 → (pre_X5_lose  μ16 ∧ ∀ (μ19 : Mem), post_X5_lose  μ16 μ19 → (∀ μ21, μ21 = ui μ19 0 6 0 → (∀ μ23, μ23 = ui μ21 71 2 0 → R x2 μ23)))))))) ∧ (¬ 0 ≤ x2 → R (((-10)) - (gi μ3 1 2)) μ3)))
set_option maxRecDepth 20000 in
set_option maxHeartbeats 4000000 in
theorem wk_X8_house_0 {X : XT} {P : Post} (hO : OkM X cX8_house RX8 5 (some .int) P) (hn : xn X = 3)    (μ : Mem) {R : Int32 → Mem → Prop} (hR : ∀ x m, R x m → P (some (.int x)) m)    (h : vc_X8_house_0   μ R ) : V X 0 [some (.ref 0), none, none] [] μ := by
  have hX := hO.1
  unfold vc_X8_house_0 at h
  refine v_aload_n hX dX8_house_0 rfl (?_ : V X 1 [some (.ref 0), none, none] [.ref 0] μ)
  refine v_getr hX (1) fk_X8_10 sh_0 rfl rfl dX8_house_1 (?_ : V X 4 [some (.ref 0), none, none] [.ref 1] μ)
  refine v_aload_n hX dX8_house_4 rfl (?_ : V X 5 [some (.ref 0), none, none] [.ref 0, .ref 1] μ)
  have hh1 := h.1
  replace h := h.2
  refine v_getp hX (gp μ 2) fk_X8_23 sh_0 rfl rfl dX8_house_5 (?_ : V X 8 [some (.ref 0), none, none] [.ref ((gp μ 2)), .ref 1] μ)
  refine v_callV hX sp_X6_readInto ck_X6_readInto mk_X8_91 mv_X6_readInto sh_1 (by decide) (by decide) [.ref ((gp μ 2))] [] rfl rfl (Nat.le_of_ble_eq_true rfl) dX8_house_8 ⟨((gp μ 2)), rfl, hh1, h.1, fun x2 μ3 hp4 => (?_ : V X 11 [some (.ref 0), none, none] [.int x2] μ3)⟩
  replace h := h.2 x2 μ3 hp4
  refine v_istore_n hX dX8_house_11 (by rw [hn]; decide) (?_ : V X 12 [some (.ref 0), some (.int x2), none] [] μ3)
  refine v_iload_n hX dX8_house_12 rfl (?_ : V X 13 [some (.ref 0), some (.int x2), none] [.int x2] μ3)
  refine v_if_ge hX 27 dX8_house_13 rfl (fun c5 => ?_) (fun c5 => ?_)
  · replace h := h.1 c5
    refine v_aload_n hX dX8_house_27 rfl (?_ : V X 28 [some (.ref 0), some (.int x2), none] [.ref 0] μ3)
    have hh6 := h.1
    replace h := h.2
    refine v_getp hX (gp μ3 1) fk_X8_19 sh_0 rfl rfl dX8_house_28 (?_ : V X 31 [some (.ref 0), some (.int x2), none] [.ref ((gp μ3 1))] μ3)
    refine v_astore_n hX dX8_house_31 (by rw [hn]; decide) (?_ : V X 32 [some (.ref 0), some (.int x2), some (.ref ((gp μ3 1)))] [] μ3)
    refine v_aload_n hX dX8_house_32 rfl (?_ : V X 33 [some (.ref 0), some (.int x2), some (.ref ((gp μ3 1)))] [.ref 0] μ3)
    refine v_aload_n hX dX8_house_33 rfl (?_ : V X 34 [some (.ref 0), some (.int x2), some (.ref ((gp μ3 1)))] [.ref 0, .ref 0] μ3)
    have hh7 := h.1
    replace h := h.2
    refine v_getp hX (gp μ3 2) fk_X8_23 sh_0 rfl rfl dX8_house_34 (?_ : V X 37 [some (.ref 0), some (.int x2), some (.ref ((gp μ3 1)))] [.ref ((gp μ3 2)), .ref 0] μ3)
    refine w_putp hX fk_X8_19 fw_8_1 rfl dX8_house_37 (fun μ8 e9 => (?_ : V X 40 [some (.ref 0), some (.int x2), some (.ref ((gp μ3 1)))] [] μ8))
    replace h := h μ8 e9
    refine v_aload_n hX dX8_house_40 rfl (?_ : V X 41 [some (.ref 0), some (.int x2), some (.ref ((gp μ3 1)))] [.ref 0] μ8)
    refine v_aload_n hX dX8_house_41 rfl (?_ : V X 42 [some (.ref 0), some (.int x2), some (.ref ((gp μ3 1)))] [.ref ((gp μ3 1)), .ref 0] μ8)
    refine w_putp hX fk_X8_23 fw_8_2 rfl dX8_house_42 (fun μ10 e11 => (?_ : V X 45 [some (.ref 0), some (.int x2), some (.ref ((gp μ3 1)))] [] μ10))
    replace h := h μ10 e11
    refine v_aload_n hX dX8_house_45 rfl (?_ : V X 46 [some (.ref 0), some (.int x2), some (.ref ((gp μ3 1)))] [.ref 0] μ10)
    refine v_getr hX (1) fk_X8_10 sh_0 rfl rfl dX8_house_46 (?_ : V X 49 [some (.ref 0), some (.int x2), some (.ref ((gp μ3 1)))] [.ref 1] μ10)
    refine v_iconst hX 0 dX8_house_49 rfl (?_ : V X 50 [some (.ref 0), some (.int x2), some (.ref ((gp μ3 1)))] [.int 0, .ref 1] μ10)
    refine w_puti hX fk_X8_84 fw_6_1 sh_1 rfl dX8_house_50 (fun μ12 e13 => (?_ : V X 53 [some (.ref 0), some (.int x2), some (.ref ((gp μ3 1)))] [] μ12))
    replace h := h μ12 e13
    refine v_aload_n hX dX8_house_53 rfl (?_ : V X 54 [some (.ref 0), some (.int x2), some (.ref ((gp μ3 1)))] [.ref 0] μ12)
    refine v_getr hX (17) fk_X8_29 sh_0 rfl rfl dX8_house_54 (?_ : V X 57 [some (.ref 0), some (.int x2), some (.ref ((gp μ3 1)))] [.ref 17] μ12)
    refine v_aload_n hX dX8_house_57 rfl (?_ : V X 58 [some (.ref 0), some (.int x2), some (.ref ((gp μ3 1)))] [.ref 0, .ref 17] μ12)
    have hh14 := h.1
    replace h := h.2
    refine v_getp hX (gp μ12 1) fk_X8_19 sh_0 rfl rfl dX8_house_58 (?_ : V X 61 [some (.ref 0), some (.int x2), some (.ref ((gp μ3 1)))] [.ref ((gp μ12 1)), .ref 17] μ12)
    refine v_callV hX sp_X7_beginIn ck_X7_beginIn mk_X8_98 mv_X7_beginIn sh_17 (by decide) (by decide) [.ref ((gp μ12 1))] [] rfl rfl (Nat.le_of_ble_eq_true rfl) dX8_house_61 ⟨((gp μ12 1)), rfl, hh14, h.1, fun μ16 hp17 => (?_ : V X 64 [some (.ref 0), some (.int x2), some (.ref ((gp μ3 1)))] [] μ16)⟩
    replace h := h.2 μ16 hp17
    refine v_aload_n hX dX8_house_64 rfl (?_ : V X 65 [some (.ref 0), some (.int x2), some (.ref ((gp μ3 1)))] [.ref 0] μ16)
    refine v_getr hX (20) fk_X8_36 sh_0 rfl rfl dX8_house_65 (?_ : V X 68 [some (.ref 0), some (.int x2), some (.ref ((gp μ3 1)))] [.ref 20] μ16)
    refine v_callV hX sp_X5_lose ck_X5_lose mk_X8_102 mv_X5_lose sh_20 (by decide) (by decide) [] [] rfl rfl (Nat.le_of_ble_eq_true rfl) dX8_house_68 ⟨rfl, h.1, fun μ19 hp20 => (?_ : V X 71 [some (.ref 0), some (.int x2), some (.ref ((gp μ3 1)))] [] μ19)⟩
    replace h := h.2 μ19 hp20
    refine v_aload_n hX dX8_house_71 rfl (?_ : V X 72 [some (.ref 0), some (.int x2), some (.ref ((gp μ3 1)))] [.ref 0] μ19)
    refine v_iconst hX 0 dX8_house_72 rfl (?_ : V X 73 [some (.ref 0), some (.int x2), some (.ref ((gp μ3 1)))] [.int 0, .ref 0] μ19)
    refine w_puti hX fk_X8_44 fw_8_6 sh_0 rfl dX8_house_73 (fun μ21 e22 => (?_ : V X 76 [some (.ref 0), some (.int x2), some (.ref ((gp μ3 1)))] [] μ21))
    replace h := h μ21 e22
    refine v_aload_n hX dX8_house_76 rfl (?_ : V X 77 [some (.ref 0), some (.int x2), some (.ref ((gp μ3 1)))] [.ref 0] μ21)
    refine v_getr hX (71) fk_X8_72 sh_0 rfl rfl dX8_house_77 (?_ : V X 80 [some (.ref 0), some (.int x2), some (.ref ((gp μ3 1)))] [.ref 71] μ21)
    refine v_iconst hX 0 dX8_house_80 rfl (?_ : V X 81 [some (.ref 0), some (.int x2), some (.ref ((gp μ3 1)))] [.int 0, .ref 71] μ21)
    refine w_puti hX fk_X8_105 fw_4_2 sh_71 rfl dX8_house_81 (fun μ23 e24 => (?_ : V X 84 [some (.ref 0), some (.int x2), some (.ref ((gp μ3 1)))] [] μ23))
    replace h := h μ23 e24
    refine v_iload_n hX dX8_house_84 rfl (?_ : V X 85 [some (.ref 0), some (.int x2), some (.ref ((gp μ3 1)))] [.int x2] μ23)
    exact v_iret hO dX8_house_85 (hR _ _ h)
  · replace h := h.2 c5
    refine v_bipush hX (-10) dX8_house_16 rfl (?_ : V X 18 [some (.ref 0), some (.int x2), none] [.int ((-10))] μ3)
    refine v_aload_n hX dX8_house_18 rfl (?_ : V X 19 [some (.ref 0), some (.int x2), none] [.ref 0, .int ((-10))] μ3)
    refine v_getr hX (1) fk_X8_10 sh_0 rfl rfl dX8_house_19 (?_ : V X 22 [some (.ref 0), some (.int x2), none] [.ref 1, .int ((-10))] μ3)
    refine v_geti hX fk_X8_95 sh_1 rfl dX8_house_22 (?_ : V X 25 [some (.ref 0), some (.int x2), none] [.int (gi μ3 1 2), .int ((-10))] μ3)
    refine v_isub hX dX8_house_25 (?_ : V X 26 [some (.ref 0), some (.int x2), none] [.int (((-10)) - (gi μ3 1 2))] μ3)
    exact v_iret hO dX8_house_26 (hR _ _ h)
set_option maxRecDepth 20000 in
set_option maxHeartbeats 1000000 in
theorem vp_X8_house_0   (μ : Mem) (hpre : pre_X8_house  μ) : vc_X8_house_0  μ (post_X8_house  μ)  := by
  unfold vc_X8_house_0
  obtain ⟨hN, hh⟩ := hpre
  have h200 := hN.2
  have hg2 : gp μ 2 = 3 ∨ gp μ 2 = 10 := by omega
  refine ⟨hg2, hN, ?_⟩
  rintro x m3 ⟨hf, h⟩
  have e2 : m3.2 = μ.2 := hf.1.2
  have p1 : gp m3 1 = gp μ 1 := by unfold gp; rw [e2]
  have p2 : gp m3 2 = gp μ 2 := by unfold gp; rw [e2]
  refine ⟨fun q => ?_, fun q => ?_⟩
  · rcases h with ⟨z, _⟩ | ⟨k, D, hk, hx, hR, hD, hA⟩
    · rw [z] at q; exact absurd q (by decide)
    rw [p1, p2]
    refine ⟨by omega, hg2, fun m8 h8 m10 h10 m12 h12 => ?_⟩
    have q1 : gp m12 1 = gp μ 2 := by rw [h12, h10, h8]; simp [gp, up, ui]
    rw [q1]
    refine ⟨hg2, trivial, ?_⟩
    rintro m16 ⟨b0, b1, b2, b3, b4, b5, b6, b7⟩
    refine ⟨trivial, fun m19 h19 m21 h21 m23 h23 => ?_⟩
    have e12 : ∀ c k, (c = 1 → k ≠ 1) → gi m12 c k = gi m3 c k := fun c k hc => by
      rw [h12, gi_ui, if_neg (by omega), h10, h8]; rfl
    have e23 : ∀ c k, (c = 20 → k ≠ 2) → (c = 0 → k ≠ 6) → (c = 71 → k ≠ 2) → gi m23 c k = gi m16 c k := fun c k h1 h2 h3 => by
      rw [h23, gi_ui, if_neg (by omega), h21, gi_ui, if_neg (by omega), h19, gi_ui, if_neg (by omega)]
    have e3 : ∀ c, 17 ≤ c → ∀ k, gi m3 c k = gi μ c k := fun c hc k => hf.1.1 c (by simp <;> omega) k
    have eA : ∀ c, c < 17 → ∀ k, (c = 0 → k ≠ 6) → (c = 1 → k ≠ 1) → gi m23 c k = gi m3 c k := fun c hc k h1 h2 => by
      rw [e23 c k (by omega) h1 (by omega), b0.1 c (by simp <;> omega), e12 c k h2]
    refine Or.inr ⟨k, D, hR, hD, hx, ?_, ?_, ?_, ?_, ?_, ⟨?_, ?_, ?_, ?_, ?_, fun j hj => ?_, fun j hj => ?_⟩, ?_, ?_, ?_, ?_, fun k => ?_, fun c hc k => ?_⟩
    · have z : m23.2 = m12.2 := by rw [h23, h21, h19]; exact b0.2
      unfold gp at q1 ⊢; rw [z, q1]
    · have z : m23.2 = m12.2 := by rw [h23, h21, h19]; exact b0.2
      have q2 : gp m12 2 = gp μ 1 := by rw [h12, h10, h8]; simp [gp, up, ui]
      unfold gp at q2 ⊢; rw [z, q2]
    · have z : m23.2 = m12.2 := by rw [h23, h21, h19]; exact b0.2
      rw [z, h12, h10, h8]
      show m3.2.1 = _
      rw [e2]
    · unfold agC at hA ⊢
      obtain ⟨a0, a1, a2, a3, a4, a5, aR, aD, aS⟩ := hA
      rw [eA _ (by omega) _ (by omega) (by omega), eA _ (by omega) _ (by omega) (by omega), eA _ (by omega) _ (by omega) (by omega), eA _ (by omega) _ (by omega) (by omega), eA _ (by omega) _ (by omega) (by omega), eA _ (by omega) _ (by omega) (by omega)]
      refine ⟨a0, a1, a2, a3, a4, a5, fun i hi => ?_, fun i hi => ?_, fun i hi => ?_⟩
      · rw [eA _ (by omega) _ (by omega) (by omega), eA _ (by omega) _ (by omega) (by omega), eA _ (by omega) _ (by omega) (by omega)]; exact aR i hi
      · rw [eA _ (by omega) _ (by omega) (by omega), eA _ (by omega) _ (by omega) (by omega)]; exact aD i hi
      · rw [eA _ (by omega) _ (by omega) (by omega)]; exact aS i hi
    · rw [e23 _ _ (by omega) (by omega) (by omega), b0.1 1 (by simp), h12, gi_ui, if_pos ⟨rfl, rfl⟩]
    · rw [e23 _ _ (by omega) (by omega) (by omega), b1]
    · rw [e23 _ _ (by omega) (by omega) (by omega), b2]
    · rw [e23 _ _ (by omega) (by omega) (by omega), b3]
    · rw [e23 _ _ (by omega) (by omega) (by omega), b4]
    · rw [e23 _ _ (by omega) (by omega) (by omega), b5]
    · rw [e23 _ _ (by omega) (by omega) (by omega), b6 j hj, eA _ (by omega) _ (by omega) (by omega), e12 _ _ (by omega)]
    · rw [e23 _ _ (by omega) (by omega) (by omega), b7 j hj]
    · rw [e23 _ _ (by omega) (by omega) (by omega), b0.1 20 (by simp), e12 _ _ (by omega), e3 _ (by omega)]
    · rw [h23, gi_ui, if_neg (by omega), h21, gi_ui, if_neg (by omega), h19, gi_ui, if_pos ⟨rfl, rfl⟩]
    · rw [h23, gi_ui, if_neg (by omega), h21, gi_ui, if_pos ⟨rfl, rfl⟩]
    · rw [h23, gi_ui, if_pos ⟨rfl, rfl⟩]
    · rw [eA _ (by omega) _ (by omega) (by omega), hf.1.1 2 (by simp <;> omega)]
    · rw [e23 _ _ (by omega) (by omega) (by omega), b0.1 c (by simp <;> omega), e12 _ _ (by omega), e3 _ (by omega)]
  · rcases h with ⟨z, f, h1, h2⟩ | ⟨k, D, hk, hx, _⟩
    · exact Or.inl ⟨f, h1, by rw [h2], hf⟩
    · rw [hx] at q; exact absurd (nI_pos' (by omega)) q
theorem sp_X8_house : Sp yX8_house cX8_house 3 (some .int) 5 S_X8_house := by
  refine sp_of (by decide) (fun av μ P h => ?_) ?_
  · obtain ⟨rfl, -⟩ := h
    refine ⟨Nat.le_of_ble_eq_true rfl, fun v hv => ?_⟩
    simp only [List.mem_cons, List.not_mem_nil, or_false] at hv
    subst hv; rfl
  · rintro X P hO _ μ ⟨rfl, hpre, hpost⟩ hn
    exact wk_X8_house_0 hO hn   μ hpost (vp_X8_house_0   μ hpre)

theorem f1_ui {μ : Mem} {ks : List Nat} {k : Nat} {v : Int32} (h : k ∈ ks) : f1x ks μ (ui μ 1 k v) := fun j hj => by
  rw [gi_ui, if_neg]
  rintro ⟨_, rfl⟩; exact hj h
theorem f1_trans {a b c : Mem} {ks : List Nat} (h1 : f1x ks a b) (h2 : f1x ks b c) : f1x ks a c := fun k hk => (h2 k hk).trans (h1 k hk)
theorem f1_mono {a b : Mem} {ks ls : List Nat} (h : f1x ks a b) (hs : ∀ k ∈ ks, k ∈ ls) : f1x ls a b := fun k hk => h k (fun z => hk (hs k z))
def S_X6_skipBlanks : Tr := fun av μ P => av = [.ref 1] ∧ pre_X6_skipBlanks  μ ∧ ∀ m : Mem, post_X6_skipBlanks  μ m → P none m
def vc_X6_skipBlanks_0   (μ : Mem) (R : Mem → Prop) (J5 : Int32 → Mem → Prop) : Prop :=
  J5 (gi μ 1 3) μ
set_option maxRecDepth 20000 in
set_option maxHeartbeats 4000000 in
theorem wk_X6_skipBlanks_0 {X : XT} {P : Post} (hO : OkM X cX6_skipBlanks RX6 0 none P) (hn : xn X = 2)    (μ : Mem) {R : Mem → Prop} (hR : ∀ m, R m → P none m) {J5 : Int32 → Mem → Prop} (hJ5 : ∀ (l1 : Int32) (m : Mem), J5 l1 m → V X 5 [some (.ref 1), some (.int l1)] [] m)  (h : vc_X6_skipBlanks_0   μ R J5) : V X 0 [some (.ref 1), none] [] μ := by
  have hX := hO.1
  unfold vc_X6_skipBlanks_0 at h
  refine v_aload_n hX dX6_skipBlanks_0 rfl (?_ : V X 1 [some (.ref 1), none] [.ref 1] μ)
  refine v_geti hX fk_X6_27 sh_1 rfl dX6_skipBlanks_1 (?_ : V X 4 [some (.ref 1), none] [.int (gi μ 1 3)] μ)
  refine v_istore_n hX dX6_skipBlanks_4 (by rw [hn]; decide) (?_ : V X 5 [some (.ref 1), some (.int (gi μ 1 3))] [] μ)
  exact v_mask [true, true] (hJ5 _ _ h)
def vc_X6_skipBlanks_5  (l1 : Int32) (μ : Mem) (R : Mem → Prop) (J5 : Int32 → Mem → Prop) : Prop :=
  (((gi μ 1 1) ≤ l1 → R μ) ∧ (¬ (gi μ 1 1) ≤ l1 → vp_in l1 200 ∧ ((¬ (gi μ 2 (Int32.toNatClampNeg l1)) = 32 → R μ) ∧ ((gi μ 2 (Int32.toNatClampNeg l1)) = 32 → (∀ μ4, μ4 = ui μ 1 3 (l1 + 1) → J5 (l1 + 1) μ4)))))
set_option maxRecDepth 20000 in
set_option maxHeartbeats 4000000 in
theorem wk_X6_skipBlanks_5 {X : XT} {P : Post} (hO : OkM X cX6_skipBlanks RX6 0 none P) (hn : xn X = 2)   (l1 : Int32) (μ : Mem) {R : Mem → Prop} (hR : ∀ m, R m → P none m) {J5 : Int32 → Mem → Prop} (hJ5 : ∀ (l1 : Int32) (m : Mem), J5 l1 m → V X 5 [some (.ref 1), some (.int l1)] [] m)  (h : vc_X6_skipBlanks_5  l1 μ R J5) : V X 5 [some (.ref 1), some (.int l1)] [] μ := by
  have hX := hO.1
  unfold vc_X6_skipBlanks_5 at h
  refine v_iload_n hX dX6_skipBlanks_5 rfl (?_ : V X 6 [some (.ref 1), some (.int l1)] [.int l1] μ)
  refine v_aload_n hX dX6_skipBlanks_6 rfl (?_ : V X 7 [some (.ref 1), some (.int l1)] [.ref 1, .int l1] μ)
  refine v_geti hX fk_X6_15 sh_1 rfl dX6_skipBlanks_7 (?_ : V X 10 [some (.ref 1), some (.int l1)] [.int (gi μ 1 1), .int l1] μ)
  refine v_icmp_ge hX 37 dX6_skipBlanks_10 rfl (fun c1 => ?_) (fun c1 => ?_)
  · replace h := h.1 c1
    exact v_vret hO dX6_skipBlanks_37 (hR _ h)
  · replace h := h.2 c1
    refine v_aload_n hX dX6_skipBlanks_13 rfl (?_ : V X 14 [some (.ref 1), some (.int l1)] [.ref 1] μ)
    refine v_getr hX (2) fk_X6_9 sh_1 rfl rfl dX6_skipBlanks_14 (?_ : V X 17 [some (.ref 1), some (.int l1)] [.ref 2] μ)
    refine v_iload_n hX dX6_skipBlanks_17 rfl (?_ : V X 18 [some (.ref 1), some (.int l1)] [.int l1, .ref 2] μ)
    have hb2 := h.1
    replace h := h.2
    refine w_iald hX (Int32.toNatClampNeg l1) sh_2 hb2 rfl dX6_skipBlanks_18 (?_ : V X 19 [some (.ref 1), some (.int l1)] [.int (gi μ 2 (Int32.toNatClampNeg l1))] μ)
    refine v_bipush hX 32 dX6_skipBlanks_19 rfl (?_ : V X 21 [some (.ref 1), some (.int l1)] [.int 32, .int (gi μ 2 (Int32.toNatClampNeg l1))] μ)
    refine v_icmp_ne hX 37 dX6_skipBlanks_21 rfl (fun c3 => ?_) (fun c3 => ?_)
    · replace h := h.1 c3
      exact v_vret hO dX6_skipBlanks_37 (hR _ h)
    · replace h := h.2 c3
      refine v_aload_n hX dX6_skipBlanks_24 rfl (?_ : V X 25 [some (.ref 1), some (.int l1)] [.ref 1] μ)
      refine v_iload_n hX dX6_skipBlanks_25 rfl (?_ : V X 26 [some (.ref 1), some (.int l1)] [.int l1, .ref 1] μ)
      refine v_iconst hX 1 dX6_skipBlanks_26 rfl (?_ : V X 27 [some (.ref 1), some (.int l1)] [.int 1, .int l1, .ref 1] μ)
      refine v_iadd hX dX6_skipBlanks_27 (?_ : V X 28 [some (.ref 1), some (.int l1)] [.int (l1 + 1), .ref 1] μ)
      refine w_puti hX fk_X6_27 fw_6_3 sh_1 rfl dX6_skipBlanks_28 (fun μ4 e5 => (?_ : V X 31 [some (.ref 1), some (.int l1)] [] μ4))
      replace h := h μ4 e5
      refine v_iinc hX 1 dX6_skipBlanks_31 (by rw [hn]; decide) rfl rfl (?_ : V X 34 [some (.ref 1), some (.int (l1 + 1))] [] μ4)
      refine v_goto hX 5 dX6_skipBlanks_34 rfl (?_ : V X 5 [some (.ref 1), some (.int (l1 + 1))] [] μ4)
      exact v_mask [true, true] (hJ5 _ _ h)
set_option maxRecDepth 20000 in
set_option maxHeartbeats 1000000 in
theorem vp_X6_skipBlanks_0   (μ : Mem) (hpre : pre_X6_skipBlanks  μ) : vc_X6_skipBlanks_0  μ (post_X6_skipBlanks  μ) (fun l1 m => ∃ k : Nat, inv_X6_skipBlanks_5  μ k l1 m) := by
  unfold vc_X6_skipBlanks_0
  obtain ⟨a1, a3, hle⟩ := hpre
  exact ⟨_, gn μ 1 3, rfl, a3.1, a3.1, fr_refl _ _, fun k _ => rfl, Nat.le_refl _, hle, fun j h1 h2 => by omega⟩
set_option maxRecDepth 20000 in
set_option maxHeartbeats 1000000 in
theorem vp_X6_skipBlanks_5   (μ : Mem) (hpre : pre_X6_skipBlanks  μ) (n : Nat) (l1 : Int32) (μ0 : Mem) (hi : inv_X6_skipBlanks_5  μ n l1 μ0) : vc_X6_skipBlanks_5  l1 μ0 (post_X6_skipBlanks  μ) (fun l1 m => ∃ k : Nat, k < n ∧ inv_X6_skipBlanks_5  μ k l1 m) := by
  unfold vc_X6_skipBlanks_5
  obtain ⟨a1, a3, hle⟩ := hpre
  obtain ⟨b, rfl, rfl, h3, hf, h1, hb1, hb2, hs⟩ := hi
  have hb := a1.2
  rw [h1 1 (by simp), isN_le a1 (by omega) (by omega), nI_clamp (by omega), hf.1 2 (by simp)]
  refine ⟨fun q => ⟨hf, h1, b, h3, hb1, hb2, hs, Or.inl (by omega)⟩, fun q => ⟨vp_in_nI (by omega) (by omega), fun q2 => ⟨hf, h1, b, h3, hb1, hb2, hs, Or.inr q2⟩, fun q2 => ?_⟩⟩
  rintro m4 rfl
  refine ⟨_, ?_, b + 1, rfl, nI_1 b, nI_1 b, fr_trans hf (fr_ui (by simp)), f1_trans h1 (f1_ui (by simp)), by omega, by omega, fun j j1 j2 => ?_⟩
  · omega
  · rcases Nat.lt_or_ge j b with z | z
    · exact hs j j1 z
    · have : j = b := by omega
      subst this; exact q2
theorem sp_X6_skipBlanks : Sp yX6_skipBlanks cX6_skipBlanks 2 none 0 S_X6_skipBlanks := by
  refine sp_of (by decide) (fun av μ P h => ?_) ?_
  · obtain ⟨rfl, -⟩ := h
    refine ⟨Nat.le_of_ble_eq_true rfl, fun v hv => ?_⟩
    simp only [List.mem_cons, List.not_mem_nil, or_false] at hv
    subst hv; rfl
  · rintro X P hO _ μ ⟨rfl, hpre, hpost⟩ hn
    have hJ : ∀ n : Nat, (∀ (l1 : Int32) (m : Mem), inv_X6_skipBlanks_5  μ n l1 m → V X 5 [some (.ref 1), some (.int l1)] [] m) := by
      intro n
      induction n using Nat.strongRecOn with
      | _ n ih =>
        exact fun l1 m hi => wk_X6_skipBlanks_5 (J5 := (fun l1 m => ∃ k : Nat, k < n ∧ inv_X6_skipBlanks_5  μ k l1 m)) hO hn   l1 m hpost (fun l1 m hk => by obtain ⟨k, hk, hi⟩ := hk; exact (ih k hk) l1 m hi) (vp_X6_skipBlanks_5   μ hpre n l1 m hi)
    exact wk_X6_skipBlanks_0 (J5 := (fun l1 m => ∃ k : Nat, inv_X6_skipBlanks_5  μ k l1 m)) hO hn   μ hpost (fun l1 m hk => by obtain ⟨k, hi⟩ := hk; exact (hJ k) l1 m hi) (vp_X6_skipBlanks_0   μ hpre)
def S_X6_readEnd : Tr := fun av μ P => av = [.ref 1] ∧ pre_X6_readEnd  μ ∧ ∀ (x : Int32) (m : Mem), post_X6_readEnd  μ x m → P (some (.int x)) m
def vc_X6_readEnd_0   (μ : Mem) (R : Int32 → Mem → Prop)  : Prop :=
  (pre_X6_skipBlanks  μ ∧ ∀ (μ2 : Mem), post_X6_skipBlanks  μ μ2 → (((gi μ2 1 1) ≤ (gi μ2 1 3) → (pre_X6_failsAt (gi μ2 1 3) μ2 ∧ ∀ (x5 : Int32) (μ6 : Mem), post_X6_failsAt (gi μ2 1 3) μ2 x5 μ6 → (x5 = 0 ∨ x5 = 1) ∧ R x5 μ6)) ∧ (¬ (gi μ2 1 1) ≤ (gi μ2 1 3) → vp_in (gi μ2 1 3) 200 ∧ (((gi μ2 2 (Int32.toNatClampNeg (gi μ2 1 3))) = 59 → (∀ μ10, μ10 = ui μ2 1 3 ((gi μ2 1 3) + 1) → R 1 μ10)) ∧ (¬ (gi μ2 2 (Int32.toNatClampNeg (gi μ2 1 3))) = 59 → (pre_X6_failsAt (gi μ2 1 3) μ2 ∧ ∀ (x12 : Int32) (μ13 : Mem), post_X6_failsAt (gi μ2 1 3) μ2 x12 μ13 → (x12 = 0 ∨ x12 = 1) ∧ R x12 μ13))))))
set_option maxRecDepth 20000 in
set_option maxHeartbeats 4000000 in
theorem wk_X6_readEnd_0 {X : XT} {P : Post} (hO : OkM X cX6_readEnd RX6 1 (some .boolean) P) (hn : xn X = 1)    (μ : Mem) {R : Int32 → Mem → Prop} (hR : ∀ x m, R x m → P (some (.int x)) m)    (h : vc_X6_readEnd_0   μ R ) : V X 0 [some (.ref 1)] [] μ := by
  have hX := hO.1
  unfold vc_X6_readEnd_0 at h
  refine v_aload_n hX dX6_readEnd_0 rfl (?_ : V X 1 [some (.ref 1)] [.ref 1] μ)
  refine v_callV hX sp_X6_skipBlanks ck_X6_skipBlanks mk_X6_40 mv_X6_skipBlanks sh_1 (by decide) (by decide) [] [] rfl rfl (Nat.le_of_ble_eq_true rfl) dX6_readEnd_1 ⟨rfl, h.1, fun μ2 hp3 => (?_ : V X 4 [some (.ref 1)] [] μ2)⟩
  replace h := h.2 μ2 hp3
  refine v_aload_n hX dX6_readEnd_4 rfl (?_ : V X 5 [some (.ref 1)] [.ref 1] μ2)
  refine v_geti hX fk_X6_27 sh_1 rfl dX6_readEnd_5 (?_ : V X 8 [some (.ref 1)] [.int (gi μ2 1 3)] μ2)
  refine v_aload_n hX dX6_readEnd_8 rfl (?_ : V X 9 [some (.ref 1)] [.ref 1, .int (gi μ2 1 3)] μ2)
  refine v_geti hX fk_X6_15 sh_1 rfl dX6_readEnd_9 (?_ : V X 12 [some (.ref 1)] [.int (gi μ2 1 1), .int (gi μ2 1 3)] μ2)
  refine v_icmp_ge hX 29 dX6_readEnd_12 rfl (fun c4 => ?_) (fun c4 => ?_)
  · replace h := h.1 c4
    refine v_aload_n hX dX6_readEnd_29 rfl (?_ : V X 30 [some (.ref 1)] [.ref 1] μ2)
    refine v_aload_n hX dX6_readEnd_30 rfl (?_ : V X 31 [some (.ref 1)] [.ref 1, .ref 1] μ2)
    refine v_geti hX fk_X6_27 sh_1 rfl dX6_readEnd_31 (?_ : V X 34 [some (.ref 1)] [.int (gi μ2 1 3), .ref 1] μ2)
    refine v_callV hX sp_X6_failsAt ck_X6_failsAt mk_X6_69 mv_X6_failsAt sh_1 (by decide) (by decide) [.int (gi μ2 1 3)] [] rfl rfl (Nat.le_of_ble_eq_true rfl) dX6_readEnd_34 ⟨(gi μ2 1 3), rfl, h.1, fun x5 μ6 hp7 => (?_ : V X 37 [some (.ref 1)] [.int x5] μ6)⟩
    replace h := h.2 x5 μ6 hp7
    exact v_zret hO dX6_readEnd_37 h.1 (hR _ _ h.2)
  · replace h := h.2 c4
    refine v_aload_n hX dX6_readEnd_15 rfl (?_ : V X 16 [some (.ref 1)] [.ref 1] μ2)
    refine v_getr hX (2) fk_X6_9 sh_1 rfl rfl dX6_readEnd_16 (?_ : V X 19 [some (.ref 1)] [.ref 2] μ2)
    refine v_aload_n hX dX6_readEnd_19 rfl (?_ : V X 20 [some (.ref 1)] [.ref 1, .ref 2] μ2)
    refine v_geti hX fk_X6_27 sh_1 rfl dX6_readEnd_20 (?_ : V X 23 [some (.ref 1)] [.int (gi μ2 1 3), .ref 2] μ2)
    have hb8 := h.1
    replace h := h.2
    refine w_iald hX (Int32.toNatClampNeg (gi μ2 1 3)) sh_2 hb8 rfl dX6_readEnd_23 (?_ : V X 24 [some (.ref 1)] [.int (gi μ2 2 (Int32.toNatClampNeg (gi μ2 1 3)))] μ2)
    refine v_bipush hX 59 dX6_readEnd_24 rfl (?_ : V X 26 [some (.ref 1)] [.int 59, .int (gi μ2 2 (Int32.toNatClampNeg (gi μ2 1 3)))] μ2)
    refine v_icmp_eq hX 38 dX6_readEnd_26 rfl (fun c9 => ?_) (fun c9 => ?_)
    · replace h := h.1 c9
      refine v_aload_n hX dX6_readEnd_38 rfl (?_ : V X 39 [some (.ref 1)] [.ref 1] μ2)
      refine v_dup hX dX6_readEnd_39 rfl (?_ : V X 40 [some (.ref 1)] [.ref 1, .ref 1] μ2)
      refine v_geti hX fk_X6_27 sh_1 rfl dX6_readEnd_40 (?_ : V X 43 [some (.ref 1)] [.int (gi μ2 1 3), .ref 1] μ2)
      refine v_iconst hX 1 dX6_readEnd_43 rfl (?_ : V X 44 [some (.ref 1)] [.int 1, .int (gi μ2 1 3), .ref 1] μ2)
      refine v_iadd hX dX6_readEnd_44 (?_ : V X 45 [some (.ref 1)] [.int ((gi μ2 1 3) + 1), .ref 1] μ2)
      refine w_puti hX fk_X6_27 fw_6_3 sh_1 rfl dX6_readEnd_45 (fun μ10 e11 => (?_ : V X 48 [some (.ref 1)] [] μ10))
      replace h := h μ10 e11
      refine v_iconst hX 1 dX6_readEnd_48 rfl (?_ : V X 49 [some (.ref 1)] [.int 1] μ10)
      exact v_zret hO dX6_readEnd_49 (by decide) (hR _ _ h)
    · replace h := h.2 c9
      refine v_aload_n hX dX6_readEnd_29 rfl (?_ : V X 30 [some (.ref 1)] [.ref 1] μ2)
      refine v_aload_n hX dX6_readEnd_30 rfl (?_ : V X 31 [some (.ref 1)] [.ref 1, .ref 1] μ2)
      refine v_geti hX fk_X6_27 sh_1 rfl dX6_readEnd_31 (?_ : V X 34 [some (.ref 1)] [.int (gi μ2 1 3), .ref 1] μ2)
      refine v_callV hX sp_X6_failsAt ck_X6_failsAt mk_X6_69 mv_X6_failsAt sh_1 (by decide) (by decide) [.int (gi μ2 1 3)] [] rfl rfl (Nat.le_of_ble_eq_true rfl) dX6_readEnd_34 ⟨(gi μ2 1 3), rfl, h.1, fun x12 μ13 hp14 => (?_ : V X 37 [some (.ref 1)] [.int x12] μ13)⟩
      replace h := h.2 x12 μ13 hp14
      exact v_zret hO dX6_readEnd_37 h.1 (hR _ _ h.2)
set_option maxRecDepth 20000 in
set_option maxHeartbeats 1000000 in
theorem vp_X6_readEnd_0   (μ : Mem) (hpre : pre_X6_readEnd  μ) : vc_X6_readEnd_0  μ (post_X6_readEnd  μ)  := by
  unfold vc_X6_readEnd_0
  have hp := hpre
  obtain ⟨a1, a3, hle⟩ := hpre
  refine ⟨hp, ?_⟩
  rintro m2 ⟨hf, h1, a, h3, hs⟩
  have hs0 := hs
  obtain ⟨s1, s2, s3, s4⟩ := hs
  have hb := a1.2
  rw [h1 1 (by simp), h3, isN_le a1 (by omega) (by omega), nI_clamp (by omega), hf.1 2 (by simp)]
  have fail : ¬ (a < gn μ 1 1 ∧ gi μ 2 a = 59) → ∀ (x : Int32) (m : Mem), post_X6_failsAt (nI a) m2 x m → (x = 0 ∨ x = 1) ∧ post_X6_readEnd μ x m := by
    rintro hn x m ⟨rfl, rfl⟩
    refine ⟨Or.inl rfl, fr_trans hf (fr_ui (by simp)), f1_trans (f1_mono h1 (by simp)) (f1_ui (by simp)), a, hs0, Or.inr ⟨hn, rfl, ?_, rfl⟩⟩
    exact h3
  refine ⟨fun q => ⟨trivial, fail (by omega)⟩, fun q => ⟨vp_in_nI (by omega) (by omega), fun q2 => ?_, fun q2 => ⟨trivial, fail (fun z => q2 z.2)⟩⟩⟩
  rintro m10 rfl
  refine ⟨fr_trans hf (fr_ui (by simp)), f1_trans (f1_mono h1 (by simp)) (f1_ui (by simp)), a, hs0, Or.inl ⟨by omega, q2, rfl, nI_1 a, ?_⟩⟩
  exact h1 2 (by simp)
theorem sp_X6_readEnd : Sp yX6_readEnd cX6_readEnd 1 (some .boolean) 1 S_X6_readEnd := by
  refine sp_of (by decide) (fun av μ P h => ?_) ?_
  · obtain ⟨rfl, -⟩ := h
    refine ⟨Nat.le_of_ble_eq_true rfl, fun v hv => ?_⟩
    simp only [List.mem_cons, List.not_mem_nil, or_false] at hv
    subst hv; rfl
  · rintro X P hO _ μ ⟨rfl, hpre, hpost⟩ hn
    exact wk_X6_readEnd_0 hO hn   μ hpost (vp_X6_readEnd_0   μ hpre)
theorem isD_of {x : Int32} : isD x ↔ ¬ (x < 48 ∨ 57 < x) := by
  unfold isD
  rw [i_le, i_le, i_lt, i_lt]; omega
theorem isD_nI {x : Int32} (h : isD x) : ∃ t, x = nI t ∧ x.toNatClampNeg = t ∧ 48 ≤ t ∧ t ≤ 57 := by
  obtain ⟨h1, h2⟩ := h
  have h0 : 0 ≤ x := by
    rw [i_le] at h1 ⊢
    rw [show (48 : Int32).toInt = 48 from rfl] at h1
    rw [show (0 : Int32).toInt = 0 from rfl]; omega
  obtain ⟨e, he⟩ := nn_of h0
  refine ⟨x.toNatClampNeg, e, rfl, ?_, ?_⟩
  · rw [e, show (48 : Int32) = nI 48 from rfl, nI_leI (by omega) he] at h1; exact h1
  · rw [e, show (57 : Int32) = nI 57 from rfl, nI_leI he (by omega)] at h2; exact h2
theorem cap_step {v t : Nat} (ht : 48 ≤ t) (ht2 : t ≤ 57) (hv : v ≤ 1000) : (if (1000 : Int32) < nI v * 10 + nI t - 48 then 1000 else nI v * 10 + nI t - 48) = nI (min (10 * v + (t - 48)) 1000) := by
  have e : nI v * 10 + nI t - 48 = nI (10 * v + (t - 48)) := by
    rw [show (10 : Int32) = nI 10 from rfl, show (48 : Int32) = nI 48 from rfl, pk_mul, nI_add, pk_sub (by omega)]
    congr 1; omega
  rw [e]
  have hc : (1000 : Int32) < nI (10 * v + (t - 48)) ↔ 1000 < 10 * v + (t - 48) := by
    rw [show (1000 : Int32) = nI 1000 from rfl, i_lt, nI_toInt (by omega), nI_toInt (by omega)]; omega
  by_cases z : 1000 < 10 * v + (t - 48)
  · rw [if_pos (hc.mpr z), Nat.min_eq_right (by omega)]; rfl
  · rw [if_neg (fun y => z (hc.mp y)), Nat.min_eq_left (by omega)]
def S_X6_readNumber : Tr := fun av μ P => ∃ (p1 : Int32) (p2 : Int32), av = [.ref 1, .int p1, .int p2] ∧ pre_X6_readNumber p1 p2 μ ∧ ∀ (x : Int32) (m : Mem), post_X6_readNumber p1 p2 μ x m → P (some (.int x)) m
def vc_X6_readNumber_0 (p1 : Int32) (p2 : Int32)  (μ : Mem) (R : Int32 → Mem → Prop) (J15 : Int32 → Int32 → Int32 → Mem → Prop) : Prop :=
  (pre_X6_skipBlanks  μ ∧ ∀ (μ2 : Mem), post_X6_skipBlanks  μ μ2 → J15 (gi μ2 1 3) 0 (gi μ2 1 3) μ2)
set_option maxRecDepth 20000 in
set_option maxHeartbeats 4000000 in
theorem wk_X6_readNumber_0 {X : XT} {P : Post} (hO : OkM X cX6_readNumber RX6 1 (some .int) P) (hn : xn X = 6) (p1 : Int32) (p2 : Int32)   (μ : Mem) {R : Int32 → Mem → Prop} (hR : ∀ x m, R x m → P (some (.int x)) m) {J15 : Int32 → Int32 → Int32 → Mem → Prop} (hJ15 : ∀ (l3 : Int32) (l4 : Int32) (l5 : Int32) (m : Mem), J15 l3 l4 l5 m → V X 15 [some (.ref 1), some (.int p1), some (.int p2), some (.int l3), some (.int l4), some (.int l5)] [] m)  (h : vc_X6_readNumber_0 p1 p2  μ R J15) : V X 0 [some (.ref 1), some (.int p1), some (.int p2), none, none, none] [] μ := by
  have hX := hO.1
  unfold vc_X6_readNumber_0 at h
  refine v_aload_n hX dX6_readNumber_0 rfl (?_ : V X 1 [some (.ref 1), some (.int p1), some (.int p2), none, none, none] [.ref 1] μ)
  refine v_callV hX sp_X6_skipBlanks ck_X6_skipBlanks mk_X6_40 mv_X6_skipBlanks sh_1 (by decide) (by decide) [] [] rfl rfl (Nat.le_of_ble_eq_true rfl) dX6_readNumber_1 ⟨rfl, h.1, fun μ2 hp3 => (?_ : V X 4 [some (.ref 1), some (.int p1), some (.int p2), none, none, none] [] μ2)⟩
  replace h := h.2 μ2 hp3
  refine v_aload_n hX dX6_readNumber_4 rfl (?_ : V X 5 [some (.ref 1), some (.int p1), some (.int p2), none, none, none] [.ref 1] μ2)
  refine v_geti hX fk_X6_27 sh_1 rfl dX6_readNumber_5 (?_ : V X 8 [some (.ref 1), some (.int p1), some (.int p2), none, none, none] [.int (gi μ2 1 3)] μ2)
  refine v_istore_n hX dX6_readNumber_8 (by rw [hn]; decide) (?_ : V X 9 [some (.ref 1), some (.int p1), some (.int p2), some (.int (gi μ2 1 3)), none, none] [] μ2)
  refine v_iconst hX 0 dX6_readNumber_9 rfl (?_ : V X 10 [some (.ref 1), some (.int p1), some (.int p2), some (.int (gi μ2 1 3)), none, none] [.int 0] μ2)
  refine v_istore hX dX6_readNumber_10 (by rw [hn]; decide) (?_ : V X 12 [some (.ref 1), some (.int p1), some (.int p2), some (.int (gi μ2 1 3)), some (.int 0), none] [] μ2)
  refine v_iload_n hX dX6_readNumber_12 rfl (?_ : V X 13 [some (.ref 1), some (.int p1), some (.int p2), some (.int (gi μ2 1 3)), some (.int 0), none] [.int (gi μ2 1 3)] μ2)
  refine v_istore hX dX6_readNumber_13 (by rw [hn]; decide) (?_ : V X 15 [some (.ref 1), some (.int p1), some (.int p2), some (.int (gi μ2 1 3)), some (.int 0), some (.int (gi μ2 1 3))] [] μ2)
  exact v_mask [true, true, true, true, true, true] (hJ15 _ _ _ _ h)
def vc_X6_readNumber_15 (p1 : Int32) (p2 : Int32) (l3 : Int32) (l4 : Int32) (l5 : Int32) (μ : Mem) (R : Int32 → Mem → Prop) (J15 : Int32 → Int32 → Int32 → Mem → Prop) : Prop :=
  (((gi μ 1 1) ≤ l5 → ((((gi μ 1 3) - l3) ≤ 1 → (((gi μ 1 3) = l3 → (∀ μ4, μ4 = ui μ 1 2 l3 → R ((-1)) μ4)) ∧ (¬ (gi μ 1 3) = l3 → ((l4 < p1 → (∀ μ7, μ7 = ui μ 1 2 l3 → R ((-1)) μ7)) ∧ (¬ l4 < p1 → ((l4 ≤ p2 → R l4 μ) ∧ (¬ l4 ≤ p2 → (∀ μ10, μ10 = ui μ 1 2 l3 → R ((-1)) μ10)))))))) ∧ (¬ ((gi μ 1 3) - l3) ≤ 1 → vp_in l3 200 ∧ ((¬ (gi μ 2 (Int32.toNatClampNeg l3)) = 48 → (((gi μ 1 3) = l3 → (∀ μ15, μ15 = ui μ 1 2 l3 → R ((-1)) μ15)) ∧ (¬ (gi μ 1 3) = l3 → ((l4 < p1 → (∀ μ18, μ18 = ui μ 1 2 l3 → R ((-1)) μ18)) ∧ (¬ l4 < p1 → ((l4 ≤ p2 → R l4 μ) ∧ (¬ l4 ≤ p2 → (∀ μ21, μ21 = ui μ 1 2 l3 → R ((-1)) μ21)))))))) ∧ ((gi μ 2 (Int32.toNatClampNeg l3)) = 48 → (((gi μ 1 3) = l3 → (∀ μ24, μ24 = ui μ 1 2 l3 → R ((-1)) μ24)) ∧ (¬ (gi μ 1 3) = l3 → (∀ μ26, μ26 = ui μ 1 2 l3 → R ((-1)) μ26)))))))) ∧ (¬ (gi μ 1 1) ≤ l5 → vp_in l5 200 ∧ (pre_X6_isDigit (gi μ 2 (Int32.toNatClampNeg l5)) μ ∧ ∀ (x29 : Int32) (μ30 : Mem), post_X6_isDigit (gi μ 2 (Int32.toNatClampNeg l5)) μ x29 μ30 → ((x29 = 0 → ((((gi μ30 1 3) - l3) ≤ 1 → (((gi μ30 1 3) = l3 → (∀ μ35, μ35 = ui μ30 1 2 l3 → R ((-1)) μ35)) ∧ (¬ (gi μ30 1 3) = l3 → ((l4 < p1 → (∀ μ38, μ38 = ui μ30 1 2 l3 → R ((-1)) μ38)) ∧ (¬ l4 < p1 → ((l4 ≤ p2 → R l4 μ30) ∧ (¬ l4 ≤ p2 → (∀ μ41, μ41 = ui μ30 1 2 l3 → R ((-1)) μ41)))))))) ∧ (¬ ((gi μ30 1 3) - l3) ≤ 1 → vp_in l3 200 ∧ ((¬ (gi μ30 2 (Int32.toNatClampNeg l3)) = 48 → (((gi μ30 1 3) = l3 → (∀ μ46, μ46 = ui μ30 1 2 l3 → R ((-1)) μ46)) ∧ (¬ (gi μ30 1 3) = l3 → ((l4 < p1 → (∀ μ49, μ49 = ui μ30 1 2 l3 → R ((-1)) μ49)) ∧ (¬ l4 < p1 → ((l4 ≤ p2 → R l4 μ30) ∧ (¬ l4 ≤ p2 → (∀ μ52, μ52 = ui μ30 1 2 l3 → R ((-1)) μ52)))))))) ∧ ((gi μ30 2 (Int32.toNatClampNeg l3)) = 48 → (((gi μ30 1 3) = l3 → (∀ μ55, μ55 = ui μ30 1 2 l3 → R ((-1)) μ55)) ∧ (¬ (gi μ30 1 3) = l3 → (∀ μ57, μ57 = ui μ30 1 2 l3 → R ((-1)) μ57)))))))) ∧ (¬ x29 = 0 → vp_in l5 200 ∧ (∀ y60 : Int32, y60 = (if 1000 < (((l4 * 10) + (gi μ30 2 (Int32.toNatClampNeg l5))) - 48) then 1000 else (((l4 * 10) + (gi μ30 2 (Int32.toNatClampNeg l5))) - 48)) → (∀ μ62, μ62 = ui μ30 1 3 (l5 + 1) → J15 l3 y60 (l5 + 1) μ62)))))))
set_option maxRecDepth 20000 in
set_option maxHeartbeats 4000000 in
theorem wk_X6_readNumber_15 {X : XT} {P : Post} (hO : OkM X cX6_readNumber RX6 1 (some .int) P) (hn : xn X = 6) (p1 : Int32) (p2 : Int32)  (l3 : Int32) (l4 : Int32) (l5 : Int32) (μ : Mem) {R : Int32 → Mem → Prop} (hR : ∀ x m, R x m → P (some (.int x)) m) {J15 : Int32 → Int32 → Int32 → Mem → Prop} (hJ15 : ∀ (l3 : Int32) (l4 : Int32) (l5 : Int32) (m : Mem), J15 l3 l4 l5 m → V X 15 [some (.ref 1), some (.int p1), some (.int p2), some (.int l3), some (.int l4), some (.int l5)] [] m)  (h : vc_X6_readNumber_15 p1 p2 l3 l4 l5 μ R J15) : V X 15 [some (.ref 1), some (.int p1), some (.int p2), some (.int l3), some (.int l4), some (.int l5)] [] μ := by
  have hX := hO.1
  unfold vc_X6_readNumber_15 at h
  refine v_iload hX dX6_readNumber_15 rfl (?_ : V X 17 [some (.ref 1), some (.int p1), some (.int p2), some (.int l3), some (.int l4), some (.int l5)] [.int l5] μ)
  refine v_aload_n hX dX6_readNumber_17 rfl (?_ : V X 18 [some (.ref 1), some (.int p1), some (.int p2), some (.int l3), some (.int l4), some (.int l5)] [.ref 1, .int l5] μ)
  refine v_geti hX fk_X6_15 sh_1 rfl dX6_readNumber_18 (?_ : V X 21 [some (.ref 1), some (.int p1), some (.int p2), some (.int l3), some (.int l4), some (.int l5)] [.int (gi μ 1 1), .int l5] μ)
  refine v_icmp_ge hX 75 dX6_readNumber_21 rfl (fun c1 => ?_) (fun c1 => ?_)
  · replace h := h.1 c1
    refine v_aload_n hX dX6_readNumber_75 rfl (?_ : V X 76 [some (.ref 1), some (.int p1), some (.int p2), some (.int l3), some (.int l4), some (.int l5)] [.ref 1] μ)
    refine v_geti hX fk_X6_27 sh_1 rfl dX6_readNumber_76 (?_ : V X 79 [some (.ref 1), some (.int p1), some (.int p2), some (.int l3), some (.int l4), some (.int l5)] [.int (gi μ 1 3)] μ)
    refine v_iload_n hX dX6_readNumber_79 rfl (?_ : V X 80 [some (.ref 1), some (.int p1), some (.int p2), some (.int l3), some (.int l4), some (.int l5)] [.int l3, .int (gi μ 1 3)] μ)
    refine v_isub hX dX6_readNumber_80 (?_ : V X 81 [some (.ref 1), some (.int p1), some (.int p2), some (.int l3), some (.int l4), some (.int l5)] [.int ((gi μ 1 3) - l3)] μ)
    refine v_iconst hX 1 dX6_readNumber_81 rfl (?_ : V X 82 [some (.ref 1), some (.int p1), some (.int p2), some (.int l3), some (.int l4), some (.int l5)] [.int 1, .int ((gi μ 1 3) - l3)] μ)
    refine v_icmp_le hX 100 dX6_readNumber_82 rfl (fun c2 => ?_) (fun c2 => ?_)
    · replace h := h.1 c2
      refine v_iconst hX 0 dX6_readNumber_100 rfl (?_ : V X 101 [some (.ref 1), some (.int p1), some (.int p2), some (.int l3), some (.int l4), some (.int l5)] [.int 0] μ)
      refine v_istore hX dX6_readNumber_101 (by rw [hn]; decide) (?_ : V X 103 [some (.ref 1), some (.int p1), some (.int p2), some (.int l3), some (.int l4), some (.int 0)] [] μ)
      refine v_aload_n hX dX6_readNumber_103 rfl (?_ : V X 104 [some (.ref 1), some (.int p1), some (.int p2), some (.int l3), some (.int l4), some (.int 0)] [.ref 1] μ)
      refine v_geti hX fk_X6_27 sh_1 rfl dX6_readNumber_104 (?_ : V X 107 [some (.ref 1), some (.int p1), some (.int p2), some (.int l3), some (.int l4), some (.int 0)] [.int (gi μ 1 3)] μ)
      refine v_iload_n hX dX6_readNumber_107 rfl (?_ : V X 108 [some (.ref 1), some (.int p1), some (.int p2), some (.int l3), some (.int l4), some (.int 0)] [.int l3, .int (gi μ 1 3)] μ)
      refine v_icmp_eq hX 128 dX6_readNumber_108 rfl (fun c3 => ?_) (fun c3 => ?_)
      · replace h := h.1 c3
        refine v_aload_n hX dX6_readNumber_128 rfl (?_ : V X 129 [some (.ref 1), some (.int p1), some (.int p2), some (.int l3), some (.int l4), some (.int 0)] [.ref 1] μ)
        refine v_iload_n hX dX6_readNumber_129 rfl (?_ : V X 130 [some (.ref 1), some (.int p1), some (.int p2), some (.int l3), some (.int l4), some (.int 0)] [.int l3, .ref 1] μ)
        refine w_puti hX fk_X6_19 fw_6_2 sh_1 rfl dX6_readNumber_130 (fun μ4 e5 => (?_ : V X 133 [some (.ref 1), some (.int p1), some (.int p2), some (.int l3), some (.int l4), some (.int 0)] [] μ4))
        replace h := h μ4 e5
        refine v_iconst hX (-1) dX6_readNumber_133 rfl (?_ : V X 134 [some (.ref 1), some (.int p1), some (.int p2), some (.int l3), some (.int l4), some (.int 0)] [.int ((-1))] μ4)
        exact v_iret hO dX6_readNumber_134 (hR _ _ h)
      · replace h := h.2 c3
        refine v_iload hX dX6_readNumber_111 rfl (?_ : V X 113 [some (.ref 1), some (.int p1), some (.int p2), some (.int l3), some (.int l4), some (.int 0)] [.int 0] μ)
        refine v_if_ne hX 128 dX6_readNumber_113 rfl (fun c1 => absurd c1 (by decide)) (fun _ => (?_ : V X 116 [some (.ref 1), some (.int p1), some (.int p2), some (.int l3), some (.int l4), some (.int 0)] [] μ))
        refine v_iload hX dX6_readNumber_116 rfl (?_ : V X 118 [some (.ref 1), some (.int p1), some (.int p2), some (.int l3), some (.int l4), some (.int 0)] [.int l4] μ)
        refine v_iload_n hX dX6_readNumber_118 rfl (?_ : V X 119 [some (.ref 1), some (.int p1), some (.int p2), some (.int l3), some (.int l4), some (.int 0)] [.int p1, .int l4] μ)
        refine v_icmp_lt hX 128 dX6_readNumber_119 rfl (fun c6 => ?_) (fun c6 => ?_)
        · replace h := h.1 c6
          refine v_aload_n hX dX6_readNumber_128 rfl (?_ : V X 129 [some (.ref 1), some (.int p1), some (.int p2), some (.int l3), some (.int l4), some (.int 0)] [.ref 1] μ)
          refine v_iload_n hX dX6_readNumber_129 rfl (?_ : V X 130 [some (.ref 1), some (.int p1), some (.int p2), some (.int l3), some (.int l4), some (.int 0)] [.int l3, .ref 1] μ)
          refine w_puti hX fk_X6_19 fw_6_2 sh_1 rfl dX6_readNumber_130 (fun μ7 e8 => (?_ : V X 133 [some (.ref 1), some (.int p1), some (.int p2), some (.int l3), some (.int l4), some (.int 0)] [] μ7))
          replace h := h μ7 e8
          refine v_iconst hX (-1) dX6_readNumber_133 rfl (?_ : V X 134 [some (.ref 1), some (.int p1), some (.int p2), some (.int l3), some (.int l4), some (.int 0)] [.int ((-1))] μ7)
          exact v_iret hO dX6_readNumber_134 (hR _ _ h)
        · replace h := h.2 c6
          refine v_iload hX dX6_readNumber_122 rfl (?_ : V X 124 [some (.ref 1), some (.int p1), some (.int p2), some (.int l3), some (.int l4), some (.int 0)] [.int l4] μ)
          refine v_iload_n hX dX6_readNumber_124 rfl (?_ : V X 125 [some (.ref 1), some (.int p1), some (.int p2), some (.int l3), some (.int l4), some (.int 0)] [.int p2, .int l4] μ)
          refine v_icmp_le hX 135 dX6_readNumber_125 rfl (fun c9 => ?_) (fun c9 => ?_)
          · replace h := h.1 c9
            refine v_iload hX dX6_readNumber_135 rfl (?_ : V X 137 [some (.ref 1), some (.int p1), some (.int p2), some (.int l3), some (.int l4), some (.int 0)] [.int l4] μ)
            exact v_iret hO dX6_readNumber_137 (hR _ _ h)
          · replace h := h.2 c9
            refine v_aload_n hX dX6_readNumber_128 rfl (?_ : V X 129 [some (.ref 1), some (.int p1), some (.int p2), some (.int l3), some (.int l4), some (.int 0)] [.ref 1] μ)
            refine v_iload_n hX dX6_readNumber_129 rfl (?_ : V X 130 [some (.ref 1), some (.int p1), some (.int p2), some (.int l3), some (.int l4), some (.int 0)] [.int l3, .ref 1] μ)
            refine w_puti hX fk_X6_19 fw_6_2 sh_1 rfl dX6_readNumber_130 (fun μ10 e11 => (?_ : V X 133 [some (.ref 1), some (.int p1), some (.int p2), some (.int l3), some (.int l4), some (.int 0)] [] μ10))
            replace h := h μ10 e11
            refine v_iconst hX (-1) dX6_readNumber_133 rfl (?_ : V X 134 [some (.ref 1), some (.int p1), some (.int p2), some (.int l3), some (.int l4), some (.int 0)] [.int ((-1))] μ10)
            exact v_iret hO dX6_readNumber_134 (hR _ _ h)
    · replace h := h.2 c2
      refine v_aload_n hX dX6_readNumber_85 rfl (?_ : V X 86 [some (.ref 1), some (.int p1), some (.int p2), some (.int l3), some (.int l4), some (.int l5)] [.ref 1] μ)
      refine v_getr hX (2) fk_X6_9 sh_1 rfl rfl dX6_readNumber_86 (?_ : V X 89 [some (.ref 1), some (.int p1), some (.int p2), some (.int l3), some (.int l4), some (.int l5)] [.ref 2] μ)
      refine v_iload_n hX dX6_readNumber_89 rfl (?_ : V X 90 [some (.ref 1), some (.int p1), some (.int p2), some (.int l3), some (.int l4), some (.int l5)] [.int l3, .ref 2] μ)
      have hb12 := h.1
      replace h := h.2
      refine w_iald hX (Int32.toNatClampNeg l3) sh_2 hb12 rfl dX6_readNumber_90 (?_ : V X 91 [some (.ref 1), some (.int p1), some (.int p2), some (.int l3), some (.int l4), some (.int l5)] [.int (gi μ 2 (Int32.toNatClampNeg l3))] μ)
      refine v_bipush hX 48 dX6_readNumber_91 rfl (?_ : V X 93 [some (.ref 1), some (.int p1), some (.int p2), some (.int l3), some (.int l4), some (.int l5)] [.int 48, .int (gi μ 2 (Int32.toNatClampNeg l3))] μ)
      refine v_icmp_ne hX 100 dX6_readNumber_93 rfl (fun c13 => ?_) (fun c13 => ?_)
      · replace h := h.1 c13
        refine v_iconst hX 0 dX6_readNumber_100 rfl (?_ : V X 101 [some (.ref 1), some (.int p1), some (.int p2), some (.int l3), some (.int l4), some (.int l5)] [.int 0] μ)
        refine v_istore hX dX6_readNumber_101 (by rw [hn]; decide) (?_ : V X 103 [some (.ref 1), some (.int p1), some (.int p2), some (.int l3), some (.int l4), some (.int 0)] [] μ)
        refine v_aload_n hX dX6_readNumber_103 rfl (?_ : V X 104 [some (.ref 1), some (.int p1), some (.int p2), some (.int l3), some (.int l4), some (.int 0)] [.ref 1] μ)
        refine v_geti hX fk_X6_27 sh_1 rfl dX6_readNumber_104 (?_ : V X 107 [some (.ref 1), some (.int p1), some (.int p2), some (.int l3), some (.int l4), some (.int 0)] [.int (gi μ 1 3)] μ)
        refine v_iload_n hX dX6_readNumber_107 rfl (?_ : V X 108 [some (.ref 1), some (.int p1), some (.int p2), some (.int l3), some (.int l4), some (.int 0)] [.int l3, .int (gi μ 1 3)] μ)
        refine v_icmp_eq hX 128 dX6_readNumber_108 rfl (fun c14 => ?_) (fun c14 => ?_)
        · replace h := h.1 c14
          refine v_aload_n hX dX6_readNumber_128 rfl (?_ : V X 129 [some (.ref 1), some (.int p1), some (.int p2), some (.int l3), some (.int l4), some (.int 0)] [.ref 1] μ)
          refine v_iload_n hX dX6_readNumber_129 rfl (?_ : V X 130 [some (.ref 1), some (.int p1), some (.int p2), some (.int l3), some (.int l4), some (.int 0)] [.int l3, .ref 1] μ)
          refine w_puti hX fk_X6_19 fw_6_2 sh_1 rfl dX6_readNumber_130 (fun μ15 e16 => (?_ : V X 133 [some (.ref 1), some (.int p1), some (.int p2), some (.int l3), some (.int l4), some (.int 0)] [] μ15))
          replace h := h μ15 e16
          refine v_iconst hX (-1) dX6_readNumber_133 rfl (?_ : V X 134 [some (.ref 1), some (.int p1), some (.int p2), some (.int l3), some (.int l4), some (.int 0)] [.int ((-1))] μ15)
          exact v_iret hO dX6_readNumber_134 (hR _ _ h)
        · replace h := h.2 c14
          refine v_iload hX dX6_readNumber_111 rfl (?_ : V X 113 [some (.ref 1), some (.int p1), some (.int p2), some (.int l3), some (.int l4), some (.int 0)] [.int 0] μ)
          refine v_if_ne hX 128 dX6_readNumber_113 rfl (fun c1 => absurd c1 (by decide)) (fun _ => (?_ : V X 116 [some (.ref 1), some (.int p1), some (.int p2), some (.int l3), some (.int l4), some (.int 0)] [] μ))
          refine v_iload hX dX6_readNumber_116 rfl (?_ : V X 118 [some (.ref 1), some (.int p1), some (.int p2), some (.int l3), some (.int l4), some (.int 0)] [.int l4] μ)
          refine v_iload_n hX dX6_readNumber_118 rfl (?_ : V X 119 [some (.ref 1), some (.int p1), some (.int p2), some (.int l3), some (.int l4), some (.int 0)] [.int p1, .int l4] μ)
          refine v_icmp_lt hX 128 dX6_readNumber_119 rfl (fun c17 => ?_) (fun c17 => ?_)
          · replace h := h.1 c17
            refine v_aload_n hX dX6_readNumber_128 rfl (?_ : V X 129 [some (.ref 1), some (.int p1), some (.int p2), some (.int l3), some (.int l4), some (.int 0)] [.ref 1] μ)
            refine v_iload_n hX dX6_readNumber_129 rfl (?_ : V X 130 [some (.ref 1), some (.int p1), some (.int p2), some (.int l3), some (.int l4), some (.int 0)] [.int l3, .ref 1] μ)
            refine w_puti hX fk_X6_19 fw_6_2 sh_1 rfl dX6_readNumber_130 (fun μ18 e19 => (?_ : V X 133 [some (.ref 1), some (.int p1), some (.int p2), some (.int l3), some (.int l4), some (.int 0)] [] μ18))
            replace h := h μ18 e19
            refine v_iconst hX (-1) dX6_readNumber_133 rfl (?_ : V X 134 [some (.ref 1), some (.int p1), some (.int p2), some (.int l3), some (.int l4), some (.int 0)] [.int ((-1))] μ18)
            exact v_iret hO dX6_readNumber_134 (hR _ _ h)
          · replace h := h.2 c17
            refine v_iload hX dX6_readNumber_122 rfl (?_ : V X 124 [some (.ref 1), some (.int p1), some (.int p2), some (.int l3), some (.int l4), some (.int 0)] [.int l4] μ)
            refine v_iload_n hX dX6_readNumber_124 rfl (?_ : V X 125 [some (.ref 1), some (.int p1), some (.int p2), some (.int l3), some (.int l4), some (.int 0)] [.int p2, .int l4] μ)
            refine v_icmp_le hX 135 dX6_readNumber_125 rfl (fun c20 => ?_) (fun c20 => ?_)
            · replace h := h.1 c20
              refine v_iload hX dX6_readNumber_135 rfl (?_ : V X 137 [some (.ref 1), some (.int p1), some (.int p2), some (.int l3), some (.int l4), some (.int 0)] [.int l4] μ)
              exact v_iret hO dX6_readNumber_137 (hR _ _ h)
            · replace h := h.2 c20
              refine v_aload_n hX dX6_readNumber_128 rfl (?_ : V X 129 [some (.ref 1), some (.int p1), some (.int p2), some (.int l3), some (.int l4), some (.int 0)] [.ref 1] μ)
              refine v_iload_n hX dX6_readNumber_129 rfl (?_ : V X 130 [some (.ref 1), some (.int p1), some (.int p2), some (.int l3), some (.int l4), some (.int 0)] [.int l3, .ref 1] μ)
              refine w_puti hX fk_X6_19 fw_6_2 sh_1 rfl dX6_readNumber_130 (fun μ21 e22 => (?_ : V X 133 [some (.ref 1), some (.int p1), some (.int p2), some (.int l3), some (.int l4), some (.int 0)] [] μ21))
              replace h := h μ21 e22
              refine v_iconst hX (-1) dX6_readNumber_133 rfl (?_ : V X 134 [some (.ref 1), some (.int p1), some (.int p2), some (.int l3), some (.int l4), some (.int 0)] [.int ((-1))] μ21)
              exact v_iret hO dX6_readNumber_134 (hR _ _ h)
      · replace h := h.2 c13
        refine v_iconst hX 1 dX6_readNumber_96 rfl (?_ : V X 97 [some (.ref 1), some (.int p1), some (.int p2), some (.int l3), some (.int l4), some (.int l5)] [.int 1] μ)
        refine v_goto hX 101 dX6_readNumber_97 rfl (?_ : V X 101 [some (.ref 1), some (.int p1), some (.int p2), some (.int l3), some (.int l4), some (.int l5)] [.int 1] μ)
        refine v_istore hX dX6_readNumber_101 (by rw [hn]; decide) (?_ : V X 103 [some (.ref 1), some (.int p1), some (.int p2), some (.int l3), some (.int l4), some (.int 1)] [] μ)
        refine v_aload_n hX dX6_readNumber_103 rfl (?_ : V X 104 [some (.ref 1), some (.int p1), some (.int p2), some (.int l3), some (.int l4), some (.int 1)] [.ref 1] μ)
        refine v_geti hX fk_X6_27 sh_1 rfl dX6_readNumber_104 (?_ : V X 107 [some (.ref 1), some (.int p1), some (.int p2), some (.int l3), some (.int l4), some (.int 1)] [.int (gi μ 1 3)] μ)
        refine v_iload_n hX dX6_readNumber_107 rfl (?_ : V X 108 [some (.ref 1), some (.int p1), some (.int p2), some (.int l3), some (.int l4), some (.int 1)] [.int l3, .int (gi μ 1 3)] μ)
        refine v_icmp_eq hX 128 dX6_readNumber_108 rfl (fun c23 => ?_) (fun c23 => ?_)
        · replace h := h.1 c23
          refine v_aload_n hX dX6_readNumber_128 rfl (?_ : V X 129 [some (.ref 1), some (.int p1), some (.int p2), some (.int l3), some (.int l4), some (.int 1)] [.ref 1] μ)
          refine v_iload_n hX dX6_readNumber_129 rfl (?_ : V X 130 [some (.ref 1), some (.int p1), some (.int p2), some (.int l3), some (.int l4), some (.int 1)] [.int l3, .ref 1] μ)
          refine w_puti hX fk_X6_19 fw_6_2 sh_1 rfl dX6_readNumber_130 (fun μ24 e25 => (?_ : V X 133 [some (.ref 1), some (.int p1), some (.int p2), some (.int l3), some (.int l4), some (.int 1)] [] μ24))
          replace h := h μ24 e25
          refine v_iconst hX (-1) dX6_readNumber_133 rfl (?_ : V X 134 [some (.ref 1), some (.int p1), some (.int p2), some (.int l3), some (.int l4), some (.int 1)] [.int ((-1))] μ24)
          exact v_iret hO dX6_readNumber_134 (hR _ _ h)
        · replace h := h.2 c23
          refine v_iload hX dX6_readNumber_111 rfl (?_ : V X 113 [some (.ref 1), some (.int p1), some (.int p2), some (.int l3), some (.int l4), some (.int 1)] [.int 1] μ)
          refine v_if_ne hX 128 dX6_readNumber_113 rfl (fun _ => (?_ : V X 128 [some (.ref 1), some (.int p1), some (.int p2), some (.int l3), some (.int l4), some (.int 1)] [] μ)) (fun c1 => absurd c1 (by decide))
          refine v_aload_n hX dX6_readNumber_128 rfl (?_ : V X 129 [some (.ref 1), some (.int p1), some (.int p2), some (.int l3), some (.int l4), some (.int 1)] [.ref 1] μ)
          refine v_iload_n hX dX6_readNumber_129 rfl (?_ : V X 130 [some (.ref 1), some (.int p1), some (.int p2), some (.int l3), some (.int l4), some (.int 1)] [.int l3, .ref 1] μ)
          refine w_puti hX fk_X6_19 fw_6_2 sh_1 rfl dX6_readNumber_130 (fun μ26 e27 => (?_ : V X 133 [some (.ref 1), some (.int p1), some (.int p2), some (.int l3), some (.int l4), some (.int 1)] [] μ26))
          replace h := h μ26 e27
          refine v_iconst hX (-1) dX6_readNumber_133 rfl (?_ : V X 134 [some (.ref 1), some (.int p1), some (.int p2), some (.int l3), some (.int l4), some (.int 1)] [.int ((-1))] μ26)
          exact v_iret hO dX6_readNumber_134 (hR _ _ h)
  · replace h := h.2 c1
    refine v_aload_n hX dX6_readNumber_24 rfl (?_ : V X 25 [some (.ref 1), some (.int p1), some (.int p2), some (.int l3), some (.int l4), some (.int l5)] [.ref 1] μ)
    refine v_getr hX (2) fk_X6_9 sh_1 rfl rfl dX6_readNumber_25 (?_ : V X 28 [some (.ref 1), some (.int p1), some (.int p2), some (.int l3), some (.int l4), some (.int l5)] [.ref 2] μ)
    refine v_iload hX dX6_readNumber_28 rfl (?_ : V X 30 [some (.ref 1), some (.int p1), some (.int p2), some (.int l3), some (.int l4), some (.int l5)] [.int l5, .ref 2] μ)
    have hb28 := h.1
    replace h := h.2
    refine w_iald hX (Int32.toNatClampNeg l5) sh_2 hb28 rfl dX6_readNumber_30 (?_ : V X 31 [some (.ref 1), some (.int p1), some (.int p2), some (.int l3), some (.int l4), some (.int l5)] [.int (gi μ 2 (Int32.toNatClampNeg l5))] μ)
    refine v_callS hX sp_X6_isDigit ck_X6_isDigit mk_X6_113 sk_X6_isDigit (by decide) [.int (gi μ 2 (Int32.toNatClampNeg l5))] [] rfl rfl (Nat.le_of_ble_eq_true rfl) dX6_readNumber_31 ⟨(gi μ 2 (Int32.toNatClampNeg l5)), rfl, h.1, fun x29 μ30 hp31 => (?_ : V X 34 [some (.ref 1), some (.int p1), some (.int p2), some (.int l3), some (.int l4), some (.int l5)] [.int x29] μ30)⟩
    replace h := h.2 x29 μ30 hp31
    refine v_if_eq hX 75 dX6_readNumber_34 rfl (fun c32 => ?_) (fun c32 => ?_)
    · replace h := h.1 c32
      refine v_aload_n hX dX6_readNumber_75 rfl (?_ : V X 76 [some (.ref 1), some (.int p1), some (.int p2), some (.int l3), some (.int l4), some (.int l5)] [.ref 1] μ30)
      refine v_geti hX fk_X6_27 sh_1 rfl dX6_readNumber_76 (?_ : V X 79 [some (.ref 1), some (.int p1), some (.int p2), some (.int l3), some (.int l4), some (.int l5)] [.int (gi μ30 1 3)] μ30)
      refine v_iload_n hX dX6_readNumber_79 rfl (?_ : V X 80 [some (.ref 1), some (.int p1), some (.int p2), some (.int l3), some (.int l4), some (.int l5)] [.int l3, .int (gi μ30 1 3)] μ30)
      refine v_isub hX dX6_readNumber_80 (?_ : V X 81 [some (.ref 1), some (.int p1), some (.int p2), some (.int l3), some (.int l4), some (.int l5)] [.int ((gi μ30 1 3) - l3)] μ30)
      refine v_iconst hX 1 dX6_readNumber_81 rfl (?_ : V X 82 [some (.ref 1), some (.int p1), some (.int p2), some (.int l3), some (.int l4), some (.int l5)] [.int 1, .int ((gi μ30 1 3) - l3)] μ30)
      refine v_icmp_le hX 100 dX6_readNumber_82 rfl (fun c33 => ?_) (fun c33 => ?_)
      · replace h := h.1 c33
        refine v_iconst hX 0 dX6_readNumber_100 rfl (?_ : V X 101 [some (.ref 1), some (.int p1), some (.int p2), some (.int l3), some (.int l4), some (.int l5)] [.int 0] μ30)
        refine v_istore hX dX6_readNumber_101 (by rw [hn]; decide) (?_ : V X 103 [some (.ref 1), some (.int p1), some (.int p2), some (.int l3), some (.int l4), some (.int 0)] [] μ30)
        refine v_aload_n hX dX6_readNumber_103 rfl (?_ : V X 104 [some (.ref 1), some (.int p1), some (.int p2), some (.int l3), some (.int l4), some (.int 0)] [.ref 1] μ30)
        refine v_geti hX fk_X6_27 sh_1 rfl dX6_readNumber_104 (?_ : V X 107 [some (.ref 1), some (.int p1), some (.int p2), some (.int l3), some (.int l4), some (.int 0)] [.int (gi μ30 1 3)] μ30)
        refine v_iload_n hX dX6_readNumber_107 rfl (?_ : V X 108 [some (.ref 1), some (.int p1), some (.int p2), some (.int l3), some (.int l4), some (.int 0)] [.int l3, .int (gi μ30 1 3)] μ30)
        refine v_icmp_eq hX 128 dX6_readNumber_108 rfl (fun c34 => ?_) (fun c34 => ?_)
        · replace h := h.1 c34
          refine v_aload_n hX dX6_readNumber_128 rfl (?_ : V X 129 [some (.ref 1), some (.int p1), some (.int p2), some (.int l3), some (.int l4), some (.int 0)] [.ref 1] μ30)
          refine v_iload_n hX dX6_readNumber_129 rfl (?_ : V X 130 [some (.ref 1), some (.int p1), some (.int p2), some (.int l3), some (.int l4), some (.int 0)] [.int l3, .ref 1] μ30)
          refine w_puti hX fk_X6_19 fw_6_2 sh_1 rfl dX6_readNumber_130 (fun μ35 e36 => (?_ : V X 133 [some (.ref 1), some (.int p1), some (.int p2), some (.int l3), some (.int l4), some (.int 0)] [] μ35))
          replace h := h μ35 e36
          refine v_iconst hX (-1) dX6_readNumber_133 rfl (?_ : V X 134 [some (.ref 1), some (.int p1), some (.int p2), some (.int l3), some (.int l4), some (.int 0)] [.int ((-1))] μ35)
          exact v_iret hO dX6_readNumber_134 (hR _ _ h)
        · replace h := h.2 c34
          refine v_iload hX dX6_readNumber_111 rfl (?_ : V X 113 [some (.ref 1), some (.int p1), some (.int p2), some (.int l3), some (.int l4), some (.int 0)] [.int 0] μ30)
          refine v_if_ne hX 128 dX6_readNumber_113 rfl (fun c1 => absurd c1 (by decide)) (fun _ => (?_ : V X 116 [some (.ref 1), some (.int p1), some (.int p2), some (.int l3), some (.int l4), some (.int 0)] [] μ30))
          refine v_iload hX dX6_readNumber_116 rfl (?_ : V X 118 [some (.ref 1), some (.int p1), some (.int p2), some (.int l3), some (.int l4), some (.int 0)] [.int l4] μ30)
          refine v_iload_n hX dX6_readNumber_118 rfl (?_ : V X 119 [some (.ref 1), some (.int p1), some (.int p2), some (.int l3), some (.int l4), some (.int 0)] [.int p1, .int l4] μ30)
          refine v_icmp_lt hX 128 dX6_readNumber_119 rfl (fun c37 => ?_) (fun c37 => ?_)
          · replace h := h.1 c37
            refine v_aload_n hX dX6_readNumber_128 rfl (?_ : V X 129 [some (.ref 1), some (.int p1), some (.int p2), some (.int l3), some (.int l4), some (.int 0)] [.ref 1] μ30)
            refine v_iload_n hX dX6_readNumber_129 rfl (?_ : V X 130 [some (.ref 1), some (.int p1), some (.int p2), some (.int l3), some (.int l4), some (.int 0)] [.int l3, .ref 1] μ30)
            refine w_puti hX fk_X6_19 fw_6_2 sh_1 rfl dX6_readNumber_130 (fun μ38 e39 => (?_ : V X 133 [some (.ref 1), some (.int p1), some (.int p2), some (.int l3), some (.int l4), some (.int 0)] [] μ38))
            replace h := h μ38 e39
            refine v_iconst hX (-1) dX6_readNumber_133 rfl (?_ : V X 134 [some (.ref 1), some (.int p1), some (.int p2), some (.int l3), some (.int l4), some (.int 0)] [.int ((-1))] μ38)
            exact v_iret hO dX6_readNumber_134 (hR _ _ h)
          · replace h := h.2 c37
            refine v_iload hX dX6_readNumber_122 rfl (?_ : V X 124 [some (.ref 1), some (.int p1), some (.int p2), some (.int l3), some (.int l4), some (.int 0)] [.int l4] μ30)
            refine v_iload_n hX dX6_readNumber_124 rfl (?_ : V X 125 [some (.ref 1), some (.int p1), some (.int p2), some (.int l3), some (.int l4), some (.int 0)] [.int p2, .int l4] μ30)
            refine v_icmp_le hX 135 dX6_readNumber_125 rfl (fun c40 => ?_) (fun c40 => ?_)
            · replace h := h.1 c40
              refine v_iload hX dX6_readNumber_135 rfl (?_ : V X 137 [some (.ref 1), some (.int p1), some (.int p2), some (.int l3), some (.int l4), some (.int 0)] [.int l4] μ30)
              exact v_iret hO dX6_readNumber_137 (hR _ _ h)
            · replace h := h.2 c40
              refine v_aload_n hX dX6_readNumber_128 rfl (?_ : V X 129 [some (.ref 1), some (.int p1), some (.int p2), some (.int l3), some (.int l4), some (.int 0)] [.ref 1] μ30)
              refine v_iload_n hX dX6_readNumber_129 rfl (?_ : V X 130 [some (.ref 1), some (.int p1), some (.int p2), some (.int l3), some (.int l4), some (.int 0)] [.int l3, .ref 1] μ30)
              refine w_puti hX fk_X6_19 fw_6_2 sh_1 rfl dX6_readNumber_130 (fun μ41 e42 => (?_ : V X 133 [some (.ref 1), some (.int p1), some (.int p2), some (.int l3), some (.int l4), some (.int 0)] [] μ41))
              replace h := h μ41 e42
              refine v_iconst hX (-1) dX6_readNumber_133 rfl (?_ : V X 134 [some (.ref 1), some (.int p1), some (.int p2), some (.int l3), some (.int l4), some (.int 0)] [.int ((-1))] μ41)
              exact v_iret hO dX6_readNumber_134 (hR _ _ h)
      · replace h := h.2 c33
        refine v_aload_n hX dX6_readNumber_85 rfl (?_ : V X 86 [some (.ref 1), some (.int p1), some (.int p2), some (.int l3), some (.int l4), some (.int l5)] [.ref 1] μ30)
        refine v_getr hX (2) fk_X6_9 sh_1 rfl rfl dX6_readNumber_86 (?_ : V X 89 [some (.ref 1), some (.int p1), some (.int p2), some (.int l3), some (.int l4), some (.int l5)] [.ref 2] μ30)
        refine v_iload_n hX dX6_readNumber_89 rfl (?_ : V X 90 [some (.ref 1), some (.int p1), some (.int p2), some (.int l3), some (.int l4), some (.int l5)] [.int l3, .ref 2] μ30)
        have hb43 := h.1
        replace h := h.2
        refine w_iald hX (Int32.toNatClampNeg l3) sh_2 hb43 rfl dX6_readNumber_90 (?_ : V X 91 [some (.ref 1), some (.int p1), some (.int p2), some (.int l3), some (.int l4), some (.int l5)] [.int (gi μ30 2 (Int32.toNatClampNeg l3))] μ30)
        refine v_bipush hX 48 dX6_readNumber_91 rfl (?_ : V X 93 [some (.ref 1), some (.int p1), some (.int p2), some (.int l3), some (.int l4), some (.int l5)] [.int 48, .int (gi μ30 2 (Int32.toNatClampNeg l3))] μ30)
        refine v_icmp_ne hX 100 dX6_readNumber_93 rfl (fun c44 => ?_) (fun c44 => ?_)
        · replace h := h.1 c44
          refine v_iconst hX 0 dX6_readNumber_100 rfl (?_ : V X 101 [some (.ref 1), some (.int p1), some (.int p2), some (.int l3), some (.int l4), some (.int l5)] [.int 0] μ30)
          refine v_istore hX dX6_readNumber_101 (by rw [hn]; decide) (?_ : V X 103 [some (.ref 1), some (.int p1), some (.int p2), some (.int l3), some (.int l4), some (.int 0)] [] μ30)
          refine v_aload_n hX dX6_readNumber_103 rfl (?_ : V X 104 [some (.ref 1), some (.int p1), some (.int p2), some (.int l3), some (.int l4), some (.int 0)] [.ref 1] μ30)
          refine v_geti hX fk_X6_27 sh_1 rfl dX6_readNumber_104 (?_ : V X 107 [some (.ref 1), some (.int p1), some (.int p2), some (.int l3), some (.int l4), some (.int 0)] [.int (gi μ30 1 3)] μ30)
          refine v_iload_n hX dX6_readNumber_107 rfl (?_ : V X 108 [some (.ref 1), some (.int p1), some (.int p2), some (.int l3), some (.int l4), some (.int 0)] [.int l3, .int (gi μ30 1 3)] μ30)
          refine v_icmp_eq hX 128 dX6_readNumber_108 rfl (fun c45 => ?_) (fun c45 => ?_)
          · replace h := h.1 c45
            refine v_aload_n hX dX6_readNumber_128 rfl (?_ : V X 129 [some (.ref 1), some (.int p1), some (.int p2), some (.int l3), some (.int l4), some (.int 0)] [.ref 1] μ30)
            refine v_iload_n hX dX6_readNumber_129 rfl (?_ : V X 130 [some (.ref 1), some (.int p1), some (.int p2), some (.int l3), some (.int l4), some (.int 0)] [.int l3, .ref 1] μ30)
            refine w_puti hX fk_X6_19 fw_6_2 sh_1 rfl dX6_readNumber_130 (fun μ46 e47 => (?_ : V X 133 [some (.ref 1), some (.int p1), some (.int p2), some (.int l3), some (.int l4), some (.int 0)] [] μ46))
            replace h := h μ46 e47
            refine v_iconst hX (-1) dX6_readNumber_133 rfl (?_ : V X 134 [some (.ref 1), some (.int p1), some (.int p2), some (.int l3), some (.int l4), some (.int 0)] [.int ((-1))] μ46)
            exact v_iret hO dX6_readNumber_134 (hR _ _ h)
          · replace h := h.2 c45
            refine v_iload hX dX6_readNumber_111 rfl (?_ : V X 113 [some (.ref 1), some (.int p1), some (.int p2), some (.int l3), some (.int l4), some (.int 0)] [.int 0] μ30)
            refine v_if_ne hX 128 dX6_readNumber_113 rfl (fun c1 => absurd c1 (by decide)) (fun _ => (?_ : V X 116 [some (.ref 1), some (.int p1), some (.int p2), some (.int l3), some (.int l4), some (.int 0)] [] μ30))
            refine v_iload hX dX6_readNumber_116 rfl (?_ : V X 118 [some (.ref 1), some (.int p1), some (.int p2), some (.int l3), some (.int l4), some (.int 0)] [.int l4] μ30)
            refine v_iload_n hX dX6_readNumber_118 rfl (?_ : V X 119 [some (.ref 1), some (.int p1), some (.int p2), some (.int l3), some (.int l4), some (.int 0)] [.int p1, .int l4] μ30)
            refine v_icmp_lt hX 128 dX6_readNumber_119 rfl (fun c48 => ?_) (fun c48 => ?_)
            · replace h := h.1 c48
              refine v_aload_n hX dX6_readNumber_128 rfl (?_ : V X 129 [some (.ref 1), some (.int p1), some (.int p2), some (.int l3), some (.int l4), some (.int 0)] [.ref 1] μ30)
              refine v_iload_n hX dX6_readNumber_129 rfl (?_ : V X 130 [some (.ref 1), some (.int p1), some (.int p2), some (.int l3), some (.int l4), some (.int 0)] [.int l3, .ref 1] μ30)
              refine w_puti hX fk_X6_19 fw_6_2 sh_1 rfl dX6_readNumber_130 (fun μ49 e50 => (?_ : V X 133 [some (.ref 1), some (.int p1), some (.int p2), some (.int l3), some (.int l4), some (.int 0)] [] μ49))
              replace h := h μ49 e50
              refine v_iconst hX (-1) dX6_readNumber_133 rfl (?_ : V X 134 [some (.ref 1), some (.int p1), some (.int p2), some (.int l3), some (.int l4), some (.int 0)] [.int ((-1))] μ49)
              exact v_iret hO dX6_readNumber_134 (hR _ _ h)
            · replace h := h.2 c48
              refine v_iload hX dX6_readNumber_122 rfl (?_ : V X 124 [some (.ref 1), some (.int p1), some (.int p2), some (.int l3), some (.int l4), some (.int 0)] [.int l4] μ30)
              refine v_iload_n hX dX6_readNumber_124 rfl (?_ : V X 125 [some (.ref 1), some (.int p1), some (.int p2), some (.int l3), some (.int l4), some (.int 0)] [.int p2, .int l4] μ30)
              refine v_icmp_le hX 135 dX6_readNumber_125 rfl (fun c51 => ?_) (fun c51 => ?_)
              · replace h := h.1 c51
                refine v_iload hX dX6_readNumber_135 rfl (?_ : V X 137 [some (.ref 1), some (.int p1), some (.int p2), some (.int l3), some (.int l4), some (.int 0)] [.int l4] μ30)
                exact v_iret hO dX6_readNumber_137 (hR _ _ h)
              · replace h := h.2 c51
                refine v_aload_n hX dX6_readNumber_128 rfl (?_ : V X 129 [some (.ref 1), some (.int p1), some (.int p2), some (.int l3), some (.int l4), some (.int 0)] [.ref 1] μ30)
                refine v_iload_n hX dX6_readNumber_129 rfl (?_ : V X 130 [some (.ref 1), some (.int p1), some (.int p2), some (.int l3), some (.int l4), some (.int 0)] [.int l3, .ref 1] μ30)
                refine w_puti hX fk_X6_19 fw_6_2 sh_1 rfl dX6_readNumber_130 (fun μ52 e53 => (?_ : V X 133 [some (.ref 1), some (.int p1), some (.int p2), some (.int l3), some (.int l4), some (.int 0)] [] μ52))
                replace h := h μ52 e53
                refine v_iconst hX (-1) dX6_readNumber_133 rfl (?_ : V X 134 [some (.ref 1), some (.int p1), some (.int p2), some (.int l3), some (.int l4), some (.int 0)] [.int ((-1))] μ52)
                exact v_iret hO dX6_readNumber_134 (hR _ _ h)
        · replace h := h.2 c44
          refine v_iconst hX 1 dX6_readNumber_96 rfl (?_ : V X 97 [some (.ref 1), some (.int p1), some (.int p2), some (.int l3), some (.int l4), some (.int l5)] [.int 1] μ30)
          refine v_goto hX 101 dX6_readNumber_97 rfl (?_ : V X 101 [some (.ref 1), some (.int p1), some (.int p2), some (.int l3), some (.int l4), some (.int l5)] [.int 1] μ30)
          refine v_istore hX dX6_readNumber_101 (by rw [hn]; decide) (?_ : V X 103 [some (.ref 1), some (.int p1), some (.int p2), some (.int l3), some (.int l4), some (.int 1)] [] μ30)
          refine v_aload_n hX dX6_readNumber_103 rfl (?_ : V X 104 [some (.ref 1), some (.int p1), some (.int p2), some (.int l3), some (.int l4), some (.int 1)] [.ref 1] μ30)
          refine v_geti hX fk_X6_27 sh_1 rfl dX6_readNumber_104 (?_ : V X 107 [some (.ref 1), some (.int p1), some (.int p2), some (.int l3), some (.int l4), some (.int 1)] [.int (gi μ30 1 3)] μ30)
          refine v_iload_n hX dX6_readNumber_107 rfl (?_ : V X 108 [some (.ref 1), some (.int p1), some (.int p2), some (.int l3), some (.int l4), some (.int 1)] [.int l3, .int (gi μ30 1 3)] μ30)
          refine v_icmp_eq hX 128 dX6_readNumber_108 rfl (fun c54 => ?_) (fun c54 => ?_)
          · replace h := h.1 c54
            refine v_aload_n hX dX6_readNumber_128 rfl (?_ : V X 129 [some (.ref 1), some (.int p1), some (.int p2), some (.int l3), some (.int l4), some (.int 1)] [.ref 1] μ30)
            refine v_iload_n hX dX6_readNumber_129 rfl (?_ : V X 130 [some (.ref 1), some (.int p1), some (.int p2), some (.int l3), some (.int l4), some (.int 1)] [.int l3, .ref 1] μ30)
            refine w_puti hX fk_X6_19 fw_6_2 sh_1 rfl dX6_readNumber_130 (fun μ55 e56 => (?_ : V X 133 [some (.ref 1), some (.int p1), some (.int p2), some (.int l3), some (.int l4), some (.int 1)] [] μ55))
            replace h := h μ55 e56
            refine v_iconst hX (-1) dX6_readNumber_133 rfl (?_ : V X 134 [some (.ref 1), some (.int p1), some (.int p2), some (.int l3), some (.int l4), some (.int 1)] [.int ((-1))] μ55)
            exact v_iret hO dX6_readNumber_134 (hR _ _ h)
          · replace h := h.2 c54
            refine v_iload hX dX6_readNumber_111 rfl (?_ : V X 113 [some (.ref 1), some (.int p1), some (.int p2), some (.int l3), some (.int l4), some (.int 1)] [.int 1] μ30)
            refine v_if_ne hX 128 dX6_readNumber_113 rfl (fun _ => (?_ : V X 128 [some (.ref 1), some (.int p1), some (.int p2), some (.int l3), some (.int l4), some (.int 1)] [] μ30)) (fun c1 => absurd c1 (by decide))
            refine v_aload_n hX dX6_readNumber_128 rfl (?_ : V X 129 [some (.ref 1), some (.int p1), some (.int p2), some (.int l3), some (.int l4), some (.int 1)] [.ref 1] μ30)
            refine v_iload_n hX dX6_readNumber_129 rfl (?_ : V X 130 [some (.ref 1), some (.int p1), some (.int p2), some (.int l3), some (.int l4), some (.int 1)] [.int l3, .ref 1] μ30)
            refine w_puti hX fk_X6_19 fw_6_2 sh_1 rfl dX6_readNumber_130 (fun μ57 e58 => (?_ : V X 133 [some (.ref 1), some (.int p1), some (.int p2), some (.int l3), some (.int l4), some (.int 1)] [] μ57))
            replace h := h μ57 e58
            refine v_iconst hX (-1) dX6_readNumber_133 rfl (?_ : V X 134 [some (.ref 1), some (.int p1), some (.int p2), some (.int l3), some (.int l4), some (.int 1)] [.int ((-1))] μ57)
            exact v_iret hO dX6_readNumber_134 (hR _ _ h)
    · replace h := h.2 c32
      refine v_iload hX dX6_readNumber_37 rfl (?_ : V X 39 [some (.ref 1), some (.int p1), some (.int p2), some (.int l3), some (.int l4), some (.int l5)] [.int l4] μ30)
      refine v_bipush hX 10 dX6_readNumber_39 rfl (?_ : V X 41 [some (.ref 1), some (.int p1), some (.int p2), some (.int l3), some (.int l4), some (.int l5)] [.int 10, .int l4] μ30)
      refine v_imul hX dX6_readNumber_41 (?_ : V X 42 [some (.ref 1), some (.int p1), some (.int p2), some (.int l3), some (.int l4), some (.int l5)] [.int (l4 * 10)] μ30)
      refine v_aload_n hX dX6_readNumber_42 rfl (?_ : V X 43 [some (.ref 1), some (.int p1), some (.int p2), some (.int l3), some (.int l4), some (.int l5)] [.ref 1, .int (l4 * 10)] μ30)
      refine v_getr hX (2) fk_X6_9 sh_1 rfl rfl dX6_readNumber_43 (?_ : V X 46 [some (.ref 1), some (.int p1), some (.int p2), some (.int l3), some (.int l4), some (.int l5)] [.ref 2, .int (l4 * 10)] μ30)
      refine v_iload hX dX6_readNumber_46 rfl (?_ : V X 48 [some (.ref 1), some (.int p1), some (.int p2), some (.int l3), some (.int l4), some (.int l5)] [.int l5, .ref 2, .int (l4 * 10)] μ30)
      have hb59 := h.1
      replace h := h.2
      refine w_iald hX (Int32.toNatClampNeg l5) sh_2 hb59 rfl dX6_readNumber_48 (?_ : V X 49 [some (.ref 1), some (.int p1), some (.int p2), some (.int l3), some (.int l4), some (.int l5)] [.int (gi μ30 2 (Int32.toNatClampNeg l5)), .int (l4 * 10)] μ30)
      refine v_iadd hX dX6_readNumber_49 (?_ : V X 50 [some (.ref 1), some (.int p1), some (.int p2), some (.int l3), some (.int l4), some (.int l5)] [.int ((l4 * 10) + (gi μ30 2 (Int32.toNatClampNeg l5)))] μ30)
      refine v_bipush hX 48 dX6_readNumber_50 rfl (?_ : V X 52 [some (.ref 1), some (.int p1), some (.int p2), some (.int l3), some (.int l4), some (.int l5)] [.int 48, .int ((l4 * 10) + (gi μ30 2 (Int32.toNatClampNeg l5)))] μ30)
      refine v_isub hX dX6_readNumber_52 (?_ : V X 53 [some (.ref 1), some (.int p1), some (.int p2), some (.int l3), some (.int l4), some (.int l5)] [.int (((l4 * 10) + (gi μ30 2 (Int32.toNatClampNeg l5))) - 48)] μ30)
      refine v_sipush hX 1000 dX6_readNumber_53 rfl (?_ : V X 56 [some (.ref 1), some (.int p1), some (.int p2), some (.int l3), some (.int l4), some (.int l5)] [.int 1000, .int (((l4 * 10) + (gi μ30 2 (Int32.toNatClampNeg l5))) - 48)] μ30)
      refine v_mmin hX mk_X6_116 twMin (by decide) (Nat.le_of_ble_eq_true rfl) dX6_readNumber_56 (?_ : V X 59 [some (.ref 1), some (.int p1), some (.int p2), some (.int l3), some (.int l4), some (.int l5)] [.int (if 1000 < (((l4 * 10) + (gi μ30 2 (Int32.toNatClampNeg l5))) - 48) then 1000 else (((l4 * 10) + (gi μ30 2 (Int32.toNatClampNeg l5))) - 48))] μ30)
      refine w_istore hX dX6_readNumber_59 (by rw [hn]; decide) (fun y60 e61 => (?_ : V X 61 [some (.ref 1), some (.int p1), some (.int p2), some (.int l3), some (.int y60), some (.int l5)] [] μ30))
      replace h := h y60 e61
      refine v_aload_n hX dX6_readNumber_61 rfl (?_ : V X 62 [some (.ref 1), some (.int p1), some (.int p2), some (.int l3), some (.int y60), some (.int l5)] [.ref 1] μ30)
      refine v_iload hX dX6_readNumber_62 rfl (?_ : V X 64 [some (.ref 1), some (.int p1), some (.int p2), some (.int l3), some (.int y60), some (.int l5)] [.int l5, .ref 1] μ30)
      refine v_iconst hX 1 dX6_readNumber_64 rfl (?_ : V X 65 [some (.ref 1), some (.int p1), some (.int p2), some (.int l3), some (.int y60), some (.int l5)] [.int 1, .int l5, .ref 1] μ30)
      refine v_iadd hX dX6_readNumber_65 (?_ : V X 66 [some (.ref 1), some (.int p1), some (.int p2), some (.int l3), some (.int y60), some (.int l5)] [.int (l5 + 1), .ref 1] μ30)
      refine w_puti hX fk_X6_27 fw_6_3 sh_1 rfl dX6_readNumber_66 (fun μ62 e63 => (?_ : V X 69 [some (.ref 1), some (.int p1), some (.int p2), some (.int l3), some (.int y60), some (.int l5)] [] μ62))
      replace h := h μ62 e63
      refine v_iinc hX 1 dX6_readNumber_69 (by rw [hn]; decide) rfl rfl (?_ : V X 72 [some (.ref 1), some (.int p1), some (.int p2), some (.int l3), some (.int y60), some (.int (l5 + 1))] [] μ62)
      refine v_goto hX 15 dX6_readNumber_72 rfl (?_ : V X 15 [some (.ref 1), some (.int p1), some (.int p2), some (.int l3), some (.int y60), some (.int (l5 + 1))] [] μ62)
      exact v_mask [true, true, true, true, true, true] (hJ15 _ _ _ _ h)
set_option maxRecDepth 20000 in
set_option maxHeartbeats 1000000 in
theorem vp_X6_readNumber_0 (p1 : Int32) (p2 : Int32)  (μ : Mem) (hpre : pre_X6_readNumber p1 p2 μ) : vc_X6_readNumber_0 p1 p2 μ (post_X6_readNumber p1 p2 μ) (fun l3 l4 l5 m => ∃ k : Nat, inv_X6_readNumber_15 p1 p2 μ k l3 l4 l5 m) := by
  unfold vc_X6_readNumber_0
  obtain ⟨hp, hp2⟩ := hpre
  obtain ⟨a1, a3, hle⟩ := hp
  refine ⟨⟨a1, a3, hle⟩, ?_⟩
  rintro m2 ⟨hf, h1, a, h3, hs⟩
  have hb := hs.2.1
  refine ⟨_, a, a, rfl, hs, Nat.le_refl _, hb, fun j j1 j2 => by omega, h3, h3, h3, ?_, hf, h1⟩
  rw [Nat.sub_self]; rfl
set_option maxRecDepth 20000 in
set_option maxHeartbeats 1000000 in
theorem vp_X6_readNumber_15 (p1 : Int32) (p2 : Int32)  (μ : Mem) (hpre : pre_X6_readNumber p1 p2 μ) (n : Nat) (l3 : Int32) (l4 : Int32) (l5 : Int32) (μ0 : Mem) (hi : inv_X6_readNumber_15 p1 p2 μ n l3 l4 l5 μ0) : vc_X6_readNumber_15 p1 p2 l3 l4 l5 μ0 (post_X6_readNumber p1 p2 μ) (fun l3 l4 l5 m => ∃ k : Nat, k < n ∧ inv_X6_readNumber_15 p1 p2 μ k l3 l4 l5 m) := by
  unfold vc_X6_readNumber_15
  obtain ⟨⟨a1, a3, hle⟩, hp2⟩ := hpre
  obtain ⟨a, b, rfl, hs, hab, hbn, hdg, rfl, rfl, h3, rfl, hf, h1⟩ := hi
  have hb := a1.2
  have h2 : gi μ0 1 2 = gi μ 1 2 := h1 2 (by simp)
  have e1 : gi μ0 1 1 = gi μ 1 1 := h1 1 (by simp)
  have eT : ∀ k, gi μ0 2 k = gi μ 2 k := fun k => hf.1 2 (by simp) k
  rw [e1, isN_le a1 (by omega) (by omega), nI_clamp (by omega), nI_clamp (by omega), h3, eT, eT, pk_sub hab, show (1 : Int32) = nI 1 from rfl, nI_leI (by omega) (by omega), nI_eq (by omega) (by omega)]
  have bad : DgB (gi μ 2) (gn μ 1 1) a b → badN (gi μ 2) a b p1 p2 → ∀ m, m = ui μ0 1 2 (nI a) → post_X6_readNumber p1 p2 μ (-1) m := by
    rintro hD hbad m rfl
    exact ⟨fr_trans hf (fr_ui (by simp)), f1_trans (f1_mono h1 (by simp)) (f1_ui (by simp)), a, b, hs, hD, h3, Or.inl ⟨hbad, rfl, rfl⟩⟩
  have good : DgB (gi μ 2) (gn μ 1 1) a b → ¬ badN (gi μ 2) a b p1 p2 → post_X6_readNumber p1 p2 μ (nI (min (nvN (gi μ 2) a (b - a)) 1000)) μ0 := by
    intro hD hg
    have hn : ¬ 1000 ≤ nvN (gi μ 2) a (b - a) := fun z => hg (Or.inr (Or.inr (Or.inl z)))
    exact ⟨hf, f1_mono h1 (by simp), a, b, hs, hD, h3, Or.inr ⟨hg, by rw [Nat.min_eq_left (by omega)], h2⟩⟩
  have mid : DgB (gi μ 2) (gn μ 1 1) a b → ¬ (1 < b - a ∧ gi μ 2 a = 48) → (b = a → ∀ m, m = ui μ0 1 2 (nI a) → post_X6_readNumber p1 p2 μ (-1) m) ∧ (¬ b = a → (nI (min (nvN (gi μ 2) a (b - a)) 1000) < p1 → ∀ m, m = ui μ0 1 2 (nI a) → post_X6_readNumber p1 p2 μ (-1) m) ∧ (¬ nI (min (nvN (gi μ 2) a (b - a)) 1000) < p1 → (nI (min (nvN (gi μ 2) a (b - a)) 1000) ≤ p2 → post_X6_readNumber p1 p2 μ (nI (min (nvN (gi μ 2) a (b - a)) 1000)) μ0) ∧ (¬ nI (min (nvN (gi μ 2) a (b - a)) 1000) ≤ p2 → ∀ m, m = ui μ0 1 2 (nI a) → post_X6_readNumber p1 p2 μ (-1) m))) := by
    intro hD hz
    refine ⟨fun e => bad hD (Or.inl e), fun e => ?_⟩
    by_cases hn : 1000 ≤ nvN (gi μ 2) a (b - a)
    · have hbd : badN (gi μ 2) a b p1 p2 := Or.inr (Or.inr (Or.inl hn))
      refine ⟨fun _ => bad hD hbd, fun _ => ⟨fun y => ?_, fun _ => bad hD hbd⟩⟩
      exfalso
      rw [Nat.min_eq_right hn, i_le, nI_toInt (by omega)] at y
      rw [i_lt, show (1000 : Int32).toInt = 1000 from rfl] at hp2
      omega
    · have em : min (nvN (gi μ 2) a (b - a)) 1000 = nvN (gi μ 2) a (b - a) := Nat.min_eq_left (by omega)
      rw [em] at good ⊢
      refine ⟨fun y => bad hD (Or.inr (Or.inr (Or.inr (Or.inl y)))), fun y => ⟨fun y2 => good hD ?_, fun y2 => bad hD (Or.inr (Or.inr (Or.inr (Or.inr y2))))⟩⟩
      rintro (z | z | z | z | z)
      · exact e z
      · exact hz z
      · exact hn z
      · exact y z
      · exact z y2
  refine ⟨fun q => ?_, fun q => ⟨vp_in_nI (by omega) (by omega), trivial, ?_⟩⟩
  · have hD : DgB (gi μ 2) (gn μ 1 1) a b := ⟨hab, hbn, hdg, Or.inl (by omega)⟩
    refine ⟨fun c1 => mid hD (by omega), fun c1 => ⟨vp_in_nI (by omega) (by omega), fun c2 => mid hD (fun z => c2 z.2), fun c2 => ⟨fun c3 => bad hD (Or.inl c3), fun c3 => bad hD (Or.inr (Or.inl ⟨by omega, c2⟩))⟩⟩⟩
  · rintro x29 m30 ⟨hx, rfl⟩
    rw [h3, pk_sub hab, nI_leI (by omega) (by omega), nI_eq (by omega) (by omega), eT, eT]
    refine ⟨fun q2 => ?_, fun q2 => ⟨vp_in_nI (by omega) (by omega), ?_⟩⟩
    · have hnd : ¬ isD (gi μ 2 b) := by
        intro z; rw [if_neg (isD_of.mp z)] at hx; rw [hx] at q2; exact absurd q2 (by decide)
      have hD : DgB (gi μ 2) (gn μ 1 1) a b := ⟨hab, hbn, hdg, Or.inr hnd⟩
      refine ⟨fun c1 => mid hD (by omega), fun c1 => ⟨vp_in_nI (by omega) (by omega), fun c2 => mid hD (fun z => c2 z.2), fun c2 => ⟨fun c3 => bad hD (Or.inl c3), fun c3 => bad hD (Or.inr (Or.inl ⟨by omega, c2⟩))⟩⟩⟩
    · have hdd : isD (gi μ 2 b) := by
        rw [isD_of]; intro z; rw [if_pos z] at hx; exact q2 hx
      obtain ⟨t, t1, t2, t3, t4⟩ := isD_nI hdd
      rintro y60 rfl m62 rfl
      refine ⟨gn μ 1 1 - (b + 1), by omega, a, b + 1, rfl, hs, by omega, by omega, fun j j1 j2 => ?_, rfl, nI_1 b, nI_1 b, ?_, fr_trans hf (fr_ui (by simp)), f1_trans h1 (f1_ui (by simp))⟩
      · rcases Nat.lt_or_ge j b with z | z
        · exact hdg j j1 z
        · have : j = b := by omega
          subst this; exact hdd
      · rw [t1, cap_step t3 t4 (by omega), show b + 1 - a = (b - a) + 1 from by omega, nvN, show a + (b - a) = b from by omega, t2]
        congr 1; omega
theorem sp_X6_readNumber : Sp yX6_readNumber cX6_readNumber 6 (some .int) 1 S_X6_readNumber := by
  refine sp_of (by decide) (fun av μ P h => ?_) ?_
  · obtain ⟨p1, p2, rfl, -⟩ := h
    refine ⟨Nat.le_of_ble_eq_true rfl, fun v hv => ?_⟩
    simp only [List.mem_cons, List.not_mem_nil, or_false] at hv
    rcases hv with rfl | rfl | rfl <;> rfl
  · rintro X P hO _ μ ⟨p1, p2, rfl, hpre, hpost⟩ hn
    have hJ : ∀ n : Nat, (∀ (l3 : Int32) (l4 : Int32) (l5 : Int32) (m : Mem), inv_X6_readNumber_15 p1 p2 μ n l3 l4 l5 m → V X 15 [some (.ref 1), some (.int p1), some (.int p2), some (.int l3), some (.int l4), some (.int l5)] [] m) := by
      intro n
      induction n using Nat.strongRecOn with
      | _ n ih =>
        exact fun l3 l4 l5 m hi => wk_X6_readNumber_15 (J15 := (fun l3 l4 l5 m => ∃ k : Nat, k < n ∧ inv_X6_readNumber_15 p1 p2 μ k l3 l4 l5 m)) hO hn p1 p2  l3 l4 l5 m hpost (fun l3 l4 l5 m hk => by obtain ⟨k, hk, hi⟩ := hk; exact (ih k hk) l3 l4 l5 m hi) (vp_X6_readNumber_15 p1 p2  μ hpre n l3 l4 l5 m hi)
    exact wk_X6_readNumber_0 (J15 := (fun l3 l4 l5 m => ∃ k : Nat, inv_X6_readNumber_15 p1 p2 μ k l3 l4 l5 m)) hO hn p1 p2  μ hpost (fun l3 l4 l5 m hk => by obtain ⟨k, hi⟩ := hk; exact (hJ k) l3 l4 l5 m hi) (vp_X6_readNumber_0 p1 p2  μ hpre)

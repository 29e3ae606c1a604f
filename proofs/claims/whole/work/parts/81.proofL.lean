theorem f1_ui {μ : Mem} {ks : List Nat} {k : Nat} {v : Int32} (h : k ∈ ks) : f1x ks μ (ui μ 1 k v) := fun j hj => by
  rw [gi_ui, if_neg]
  rintro ⟨_, rfl⟩; exact hj h
theorem f1_trans {a b c : Mem} {ks : List Nat} (h1 : f1x ks a b) (h2 : f1x ks b c) : f1x ks a c := fun k hk => (h2 k hk).trans (h1 k hk)
theorem f1_mono {a b : Mem} {ks ls : List Nat} (h : f1x ks a b) (hs : ∀ k ∈ ks, k ∈ ls) : f1x ls a b := fun k hk => h k (fun z => hk (hs k z))
def S_X6_skipBlanks : Tr := fun av μ P => av = [.ref 1] ∧ pre_X6_skipBlanks  μ ∧ ∀ m : Mem, post_X6_skipBlanks  μ m → P none m
def vc_X6_skipBlanks_0   (μ : Mem) (R : Mem → Prop) (J5 : Int32 → Mem → Prop) : Prop :=
  J5 (gi μ 1 3) μ
set_option maxRecDepth 20000 in
set_option maxHeartbeats 4000000 in
theorem wk_X6_skipBlanks_0 {X : XT} {P : Post} (hO : OkM X cX6_skipBlanks RX6 0 none P) (hn : xn X = 2)    (μ : Mem) {R : Mem → Prop} (hR : ∀ m, R m → P none m) {J5 : Int32 → Mem → Prop} (hJ5 : ∀ (l1 : Int32) (m : Mem), J5 l1 m → V X 5 [some (.ref 1), some (.int l1)] [] m)  (h : vc_X6_skipBlanks_0   μ R J5) : V X 0 [some (.ref 1), none] [] μ := by
  have hX := hO.1
  unfold vc_X6_skipBlanks_0 at h
  refine v_aload_n hX dX6_skipBlanks_0 rfl (?_ : V X 1 [some (.ref 1), none] [.ref 1] μ)
  refine v_geti hX fk_X6_27 sh_1 rfl dX6_skipBlanks_1 (?_ : V X 4 [some (.ref 1), none] [.int (gi μ 1 3)] μ)
  refine v_istore_n hX dX6_skipBlanks_4 (by rw [hn]; decide) (?_ : V X 5 [some (.ref 1), some (.int (gi μ 1 3))] [] μ)
  exact v_mask [true, true] (hJ5 _ _ h)
def vc_X6_skipBlanks_5  (l1 : Int32) (μ : Mem) (R : Mem → Prop) (J5 : Int32 → Mem → Prop) : Prop :=
  (((gi μ 1 1) ≤ l1 → R μ) ∧ (¬ (gi μ 1 1) ≤ l1 → vp_in l1 200 ∧ ((¬ (gi μ 2 (Int32.toNatClampNeg l1)) = 32 → R μ) ∧ ((gi μ 2 (Int32.toNatClampNeg l1)) = 32 → (∀ μ4, μ4 = ui μ 1 3 (l1 + 1) → J5 (l1 + 1) μ4)))))
set_option maxRecDepth 20000 in
set_option maxHeartbeats 4000000 in
theorem wk_X6_skipBlanks_5 {X : XT} {P : Post} (hO : OkM X cX6_skipBlanks RX6 0 none P) (hn : xn X = 2)   (l1 : Int32) (μ : Mem) {R : Mem → Prop} (hR : ∀ m, R m → P none m) {J5 : Int32 → Mem → Prop} (hJ5 : ∀ (l1 : Int32) (m : Mem), J5 l1 m → V X 5 [some (.ref 1), some (.int l1)] [] m)  (h : vc_X6_skipBlanks_5  l1 μ R J5) : V X 5 [some (.ref 1), some (.int l1)] [] μ := by
  have hX := hO.1
  unfold vc_X6_skipBlanks_5 at h
  refine v_iload_n hX dX6_skipBlanks_5 rfl (?_ : V X 6 [some (.ref 1), some (.int l1)] [.int l1] μ)
  refine v_aload_n hX dX6_skipBlanks_6 rfl (?_ : V X 7 [some (.ref 1), some (.int l1)] [.ref 1, .int l1] μ)
  refine v_geti hX fk_X6_15 sh_1 rfl dX6_skipBlanks_7 (?_ : V X 10 [some (.ref 1), some (.int l1)] [.int (gi μ 1 1), .int l1] μ)
  refine v_icmp_ge hX 37 dX6_skipBlanks_10 rfl (fun c1 => ?_) (fun c1 => ?_)
  · replace h := h.1 c1
    exact v_vret hO dX6_skipBlanks_37 (hR _ h)
  · replace h := h.2 c1
    refine v_aload_n hX dX6_skipBlanks_13 rfl (?_ : V X 14 [some (.ref 1), some (.int l1)] [.ref 1] μ)
    refine v_getr hX (2) fk_X6_9 sh_1 rfl rfl dX6_skipBlanks_14 (?_ : V X 17 [some (.ref 1), some (.int l1)] [.ref 2] μ)
    refine v_iload_n hX dX6_skipBlanks_17 rfl (?_ : V X 18 [some (.ref 1), some (.int l1)] [.int l1, .ref 2] μ)
    have hb2 := h.1
    replace h := h.2
    refine w_iald hX (Int32.toNatClampNeg l1) sh_2 hb2 rfl dX6_skipBlanks_18 (?_ : V X 19 [some (.ref 1), some (.int l1)] [.int (gi μ 2 (Int32.toNatClampNeg l1))] μ)
    refine v_bipush hX 32 dX6_skipBlanks_19 rfl (?_ : V X 21 [some (.ref 1), some (.int l1)] [.int 32, .int (gi μ 2 (Int32.toNatClampNeg l1))] μ)
    refine v_icmp_ne hX 37 dX6_skipBlanks_21 rfl (fun c3 => ?_) (fun c3 => ?_)
    · replace h := h.1 c3
      exact v_vret hO dX6_skipBlanks_37 (hR _ h)
    · replace h := h.2 c3
      refine v_aload_n hX dX6_skipBlanks_24 rfl (?_ : V X 25 [some (.ref 1), some (.int l1)] [.ref 1] μ)
      refine v_iload_n hX dX6_skipBlanks_25 rfl (?_ : V X 26 [some (.ref 1), some (.int l1)] [.int l1, .ref 1] μ)
      refine v_iconst hX 1 dX6_skipBlanks_26 rfl (?_ : V X 27 [some (.ref 1), some (.int l1)] [.int 1, .int l1, .ref 1] μ)
      refine v_iadd hX dX6_skipBlanks_27 (?_ : V X 28 [some (.ref 1), some (.int l1)] [.int (l1 + 1), .ref 1] μ)
      refine w_puti hX fk_X6_27 fw_6_3 sh_1 rfl dX6_skipBlanks_28 (fun μ4 e5 => (?_ : V X 31 [some (.ref 1), some (.int l1)] [] μ4))
      replace h := h μ4 e5
      refine v_iinc hX 1 dX6_skipBlanks_31 (by rw [hn]; decide) rfl rfl (?_ : V X 34 [some (.ref 1), some (.int (l1 + 1))] [] μ4)
      refine v_goto hX 5 dX6_skipBlanks_34 rfl (?_ : V X 5 [some (.ref 1), some (.int (l1 + 1))] [] μ4)
      exact v_mask [true, true] (hJ5 _ _ h)
set_option maxRecDepth 20000 in
set_option maxHeartbeats 1000000 in
theorem vp_X6_skipBlanks_0   (μ : Mem) (hpre : pre_X6_skipBlanks  μ) : vc_X6_skipBlanks_0  μ (post_X6_skipBlanks  μ) (fun l1 m => ∃ k : Nat, inv_X6_skipBlanks_5  μ k l1 m) := by
  unfold vc_X6_skipBlanks_0
  obtain ⟨a1, a3, hle⟩ := hpre
  exact ⟨_, gn μ 1 3, rfl, a3.1, a3.1, fr_refl _ _, fun k _ => rfl, Nat.le_refl _, hle, fun j h1 h2 => by omega⟩
set_option maxRecDepth 20000 in
set_option maxHeartbeats 1000000 in
theorem vp_X6_skipBlanks_5   (μ : Mem) (hpre : pre_X6_skipBlanks  μ) (n : Nat) (l1 : Int32) (μ0 : Mem) (hi : inv_X6_skipBlanks_5  μ n l1 μ0) : vc_X6_skipBlanks_5  l1 μ0 (post_X6_skipBlanks  μ) (fun l1 m => ∃ k : Nat, k < n ∧ inv_X6_skipBlanks_5  μ k l1 m) := by
  unfold vc_X6_skipBlanks_5
  obtain ⟨a1, a3, hle⟩ := hpre
  obtain ⟨b, rfl, rfl, h3, hf, h1, hb1, hb2, hs⟩ := hi
  have hb := a1.2
  rw [h1 1 (by simp), isN_le a1 (by omega) (by omega), nI_clamp (by omega), hf.1 2 (by simp)]
  refine ⟨fun q => ⟨hf, h1, b, h3, hb1, hb2, hs, Or.inl (by omega)⟩, fun q => ⟨vp_in_nI (by omega) (by omega), fun q2 => ⟨hf, h1, b, h3, hb1, hb2, hs, Or.inr q2⟩, fun q2 => ?_⟩⟩
  rintro m4 rfl
  refine ⟨_, ?_, b + 1, rfl, nI_1 b, nI_1 b, fr_trans hf (fr_ui (by simp)), f1_trans h1 (f1_ui (by simp)), by omega, by omega, fun j j1 j2 => ?_⟩
  · omega
  · rcases Nat.lt_or_ge j b with z | z
    · exact hs j j1 z
    · have : j = b := by omega
      subst this; exact q2
theorem sp_X6_skipBlanks : Sp yX6_skipBlanks cX6_skipBlanks 2 none 0 S_X6_skipBlanks := by
  refine sp_of (by decide) (fun av μ P h => ?_) ?_
  · obtain ⟨rfl, -⟩ := h
    refine ⟨Nat.le_of_ble_eq_true rfl, fun v hv => ?_⟩
    simp only [List.mem_cons, List.not_mem_nil, or_false] at hv
    subst hv; rfl
  · rintro X P hO _ μ ⟨rfl, hpre, hpost⟩ hn
    have hJ : ∀ n : Nat, (∀ (l1 : Int32) (m : Mem), inv_X6_skipBlanks_5  μ n l1 m → V X 5 [some (.ref 1), some (.int l1)] [] m) := by
      intro n
      induction n using Nat.strongRecOn with
      | _ n ih =>
        exact fun l1 m hi => wk_X6_skipBlanks_5 (J5 := (fun l1 m => ∃ k : Nat, k < n ∧ inv_X6_skipBlanks_5  μ k l1 m)) hO hn   l1 m hpost (fun l1 m hk => by obtain ⟨k, hk, hi⟩ := hk; exact (ih k hk) l1 m hi) (vp_X6_skipBlanks_5   μ hpre n l1 m hi)
    exact wk_X6_skipBlanks_0 (J5 := (fun l1 m => ∃ k : Nat, inv_X6_skipBlanks_5  μ k l1 m)) hO hn   μ hpost (fun l1 m hk => by obtain ⟨k, hi⟩ := hk; exact (hJ k) l1 m hi) (vp_X6_skipBlanks_0   μ hpre)
def S_X6_readEnd : Tr := fun av μ P => av = [.ref 1] ∧ pre_X6_readEnd  μ ∧ ∀ (x : Int32) (m : Mem), post_X6_readEnd  μ x m → P (some (.int x)) m
def vc_X6_readEnd_0   (μ : Mem) (R : Int32 → Mem → Prop)  : Prop :=
  (pre_X6_skipBlanks  μ ∧ ∀ (μ2 : Mem), post_X6_skipBlanks  μ μ2 → (((gi μ2 1 1) ≤ (gi μ2 1 3) → (pre_X6_failsAt (gi μ2 1 3) μ2 ∧ ∀ (x5 : Int32) (μ6 : Mem), post_X6_failsAt (gi μ2 1 3) μ2 x5 μ6 → (x5 = 0 ∨ x5 = 1) ∧ R x5 μ6)) ∧ (¬ (gi μ2 1 1) ≤ (gi μ2 1 3) → vp_in (gi μ2 1 3) 200 ∧ (((gi μ2 2 (Int32.toNatClampNeg (gi μ2 1 3))) = 59 → (∀ μ10, μ10 = ui μ2 1 3 ((gi μ2 1 3) + 1) → R 1 μ10)) ∧ (¬ (gi μ2 2 (Int32.toNatClampNeg (gi μ2 1 3))) = 59 → (pre_X6_failsAt (gi μ2 1 3) μ2 ∧ ∀ (x12 : Int32) (μ13 : Mem), post_X6_failsAt (gi μ2 1 3) μ2 x12 μ13 → (x12 = 0 ∨ x12 = 1) ∧ R x12 μ13))))))
set_option maxRecDepth 20000 in
set_option maxHeartbeats 4000000 in
theorem wk_X6_readEnd_0 {X : XT} {P : Post} (hO : OkM X cX6_readEnd RX6 1 (some .boolean) P) (hn : xn X = 1)    (μ : Mem) {R : Int32 → Mem → Prop} (hR : ∀ x m, R x m → P (some (.int x)) m)    (h : vc_X6_readEnd_0   μ R ) : V X 0 [some (.ref 1)] [] μ := by
  have hX := hO.1
  unfold vc_X6_readEnd_0 at h
  refine v_aload_n hX dX6_readEnd_0 rfl (?_ : V X 1 [some (.ref 1)] [.ref 1] μ)
  refine v_callV hX sp_X6_skipBlanks ck_X6_skipBlanks mk_X6_40 mv_X6_skipBlanks sh_1 (by decide) (by decide) [] [] rfl rfl (Nat.le_of_ble_eq_true rfl) dX6_readEnd_1 ⟨rfl, h.1, fun μ2 hp3 => (?_ : V X 4 [some (.ref 1)] [] μ2)⟩
  replace h := h.2 μ2 hp3
  refine v_aload_n hX dX6_readEnd_4 rfl (?_ : V X 5 [some (.ref 1)] [.ref 1] μ2)
  refine v_geti hX fk_X6_27 sh_1 rfl dX6_readEnd_5 (?_ : V X 8 [some (.ref 1)] [.int (gi μ2 1 3)] μ2)
  refine v_aload_n hX dX6_readEnd_8 rfl (?_ : V X 9 [some (.ref 1)] [.ref 1, .int (gi μ2 1 3)] μ2)
  refine v_geti hX fk_X6_15 sh_1 rfl dX6_readEnd_9 (?_ : V X 12 [some (.ref 1)] [.int (gi μ2 1 1), .int (gi μ2 1 3)] μ2)
  refine v_icmp_ge hX 29 dX6_readEnd_12 rfl (fun c4 => ?_) (fun c4 => ?_)
  · replace h := h.1 c4
    refine v_aload_n hX dX6_readEnd_29 rfl (?_ : V X 30 [some (.ref 1)] [.ref 1] μ2)
    refine v_aload_n hX dX6_readEnd_30 rfl (?_ : V X 31 [some (.ref 1)] [.ref 1, .ref 1] μ2)
    refine v_geti hX fk_X6_27 sh_1 rfl dX6_readEnd_31 (?_ : V X 34 [some (.ref 1)] [.int (gi μ2 1 3), .ref 1] μ2)
    refine v_callV hX sp_X6_failsAt ck_X6_failsAt mk_X6_69 mv_X6_failsAt sh_1 (by decide) (by decide) [.int (gi μ2 1 3)] [] rfl rfl (Nat.le_of_ble_eq_true rfl) dX6_readEnd_34 ⟨(gi μ2 1 3), rfl, h.1, fun x5 μ6 hp7 => (?_ : V X 37 [some (.ref 1)] [.int x5] μ6)⟩
    replace h := h.2 x5 μ6 hp7
    exact v_zret hO dX6_readEnd_37 h.1 (hR _ _ h.2)
  · replace h := h.2 c4
    refine v_aload_n hX dX6_readEnd_15 rfl (?_ : V X 16 [some (.ref 1)] [.ref 1] μ2)
    refine v_getr hX (2) fk_X6_9 sh_1 rfl rfl dX6_readEnd_16 (?_ : V X 19 [some (.ref 1)] [.ref 2] μ2)
    refine v_aload_n hX dX6_readEnd_19 rfl (?_ : V X 20 [some (.ref 1)] [.ref 1, .ref 2] μ2)
    refine v_geti hX fk_X6_27 sh_1 rfl dX6_readEnd_20 (?_ : V X 23 [some (.ref 1)] [.int (gi μ2 1 3), .ref 2] μ2)
    have hb8 := h.1
    replace h := h.2
    refine w_iald hX (Int32.toNatClampNeg (gi μ2 1 3)) sh_2 hb8 rfl dX6_readEnd_23 (?_ : V X 24 [some (.ref 1)] [.int (gi μ2 2 (Int32.toNatClampNeg (gi μ2 1 3)))] μ2)
    refine v_bipush hX 59 dX6_readEnd_24 rfl (?_ : V X 26 [some (.ref 1)] [.int 59, .int (gi μ2 2 (Int32.toNatClampNeg (gi μ2 1 3)))] μ2)
    refine v_icmp_eq hX 38 dX6_readEnd_26 rfl (fun c9 => ?_) (fun c9 => ?_)
    · replace h := h.1 c9
      refine v_aload_n hX dX6_readEnd_38 rfl (?_ : V X 39 [some (.ref 1)] [.ref 1] μ2)
      refine v_dup hX dX6_readEnd_39 rfl (?_ : V X 40 [some (.ref 1)] [.ref 1, .ref 1] μ2)
      refine v_geti hX fk_X6_27 sh_1 rfl dX6_readEnd_40 (?_ : V X 43 [some (.ref 1)] [.int (gi μ2 1 3), .ref 1] μ2)
      refine v_iconst hX 1 dX6_readEnd_43 rfl (?_ : V X 44 [some (.ref 1)] [.int 1, .int (gi μ2 1 3), .ref 1] μ2)
      refine v_iadd hX dX6_readEnd_44 (?_ : V X 45 [some (.ref 1)] [.int ((gi μ2 1 3) + 1), .ref 1] μ2)
      refine w_puti hX fk_X6_27 fw_6_3 sh_1 rfl dX6_readEnd_45 (fun μ10 e11 => (?_ : V X 48 [some (.ref 1)] [] μ10))
      replace h := h μ10 e11
      refine v_iconst hX 1 dX6_readEnd_48 rfl (?_ : V X 49 [some (.ref 1)] [.int 1] μ10)
      exact v_zret hO dX6_readEnd_49 (by decide) (hR _ _ h)
    · replace h := h.2 c9
      refine v_aload_n hX dX6_readEnd_29 rfl (?_ : V X 30 [some (.ref 1)] [.ref 1] μ2)
      refine v_aload_n hX dX6_readEnd_30 rfl (?_ : V X 31 [some (.ref 1)] [.ref 1, .ref 1] μ2)
      refine v_geti hX fk_X6_27 sh_1 rfl dX6_readEnd_31 (?_ : V X 34 [some (.ref 1)] [.int (gi μ2 1 3), .ref 1] μ2)
      refine v_callV hX sp_X6_failsAt ck_X6_failsAt mk_X6_69 mv_X6_failsAt sh_1 (by decide) (by decide) [.int (gi μ2 1 3)] [] rfl rfl (Nat.le_of_ble_eq_true rfl) dX6_readEnd_34 ⟨(gi μ2 1 3), rfl, h.1, fun x12 μ13 hp14 => (?_ : V X 37 [some (.ref 1)] [.int x12] μ13)⟩
      replace h := h.2 x12 μ13 hp14
      exact v_zret hO dX6_readEnd_37 h.1 (hR _ _ h.2)
set_option maxRecDepth 20000 in
set_option maxHeartbeats 1000000 in
theorem vp_X6_readEnd_0   (μ : Mem) (hpre : pre_X6_readEnd  μ) : vc_X6_readEnd_0  μ (post_X6_readEnd  μ)  := by
  unfold vc_X6_readEnd_0
  have hp := hpre
  obtain ⟨a1, a3, hle⟩ := hpre
  refine ⟨hp, ?_⟩
  rintro m2 ⟨hf, h1, a, h3, hs⟩
  have hs0 := hs
  obtain ⟨s1, s2, s3, s4⟩ := hs
  have hb := a1.2
  rw [h1 1 (by simp), h3, isN_le a1 (by omega) (by omega), nI_clamp (by omega), hf.1 2 (by simp)]
  have fail : ¬ (a < gn μ 1 1 ∧ gi μ 2 a = 59) → ∀ (x : Int32) (m : Mem), post_X6_failsAt (nI a) m2 x m → (x = 0 ∨ x = 1) ∧ post_X6_readEnd μ x m := by
    rintro hn x m ⟨rfl, rfl⟩
    refine ⟨Or.inl rfl, fr_trans hf (fr_ui (by simp)), f1_trans (f1_mono h1 (by simp)) (f1_ui (by simp)), a, hs0, Or.inr ⟨hn, rfl, ?_, rfl⟩⟩
    exact h3
  refine ⟨fun q => ⟨trivial, fail (by omega)⟩, fun q => ⟨vp_in_nI (by omega) (by omega), fun q2 => ?_, fun q2 => ⟨trivial, fail (fun z => q2 z.2)⟩⟩⟩
  rintro m10 rfl
  refine ⟨fr_trans hf (fr_ui (by simp)), f1_trans (f1_mono h1 (by simp)) (f1_ui (by simp)), a, hs0, Or.inl ⟨by omega, q2, rfl, nI_1 a, ?_⟩⟩
  exact h1 2 (by simp)
theorem sp_X6_readEnd : Sp yX6_readEnd cX6_readEnd 1 (some .boolean) 1 S_X6_readEnd := by
  refine sp_of (by decide) (fun av μ P h => ?_) ?_
  · obtain ⟨rfl, -⟩ := h
    refine ⟨Nat.le_of_ble_eq_true rfl, fun v hv => ?_⟩
    simp only [List.mem_cons, List.not_mem_nil, or_false] at hv
    subst hv; rfl
  · rintro X P hO _ μ ⟨rfl, hpre, hpost⟩ hn
    exact wk_X6_readEnd_0 hO hn   μ hpost (vp_X6_readEnd_0   μ hpre)

theorem remP_fr {cs : List Nat} {μ m m' : Mem} (h : remP μ m) (hf : fr cs m m') (h20 : 20 ∉ cs) (h22 : ∀ c ∈ cs, c < 22) : remP μ m' := by
  have k : ∀ c, 22 ≤ c → ∀ j, gi m' c j = gi m c j := fun c hc j => hf.1 c (fun q => by have := h22 c q; omega) j
  obtain ⟨⟨a1, a2, a3⟩, a4, a5⟩ := h
  refine ⟨⟨fun j hj => ?_, fun j hj => ?_, fun j hj => ?_⟩, ?_, ?_⟩
  · rw [k _ (by omega)]; exact a1 j hj
  · rw [k _ (by omega)]; exact a2 j hj
  · rw [k _ (by omega)]; exact a3 j hj
  · rw [hf.1 20 h20]; exact a4
  · rw [hf.1 20 h20]; exact a5
theorem rem_lo {μ m : Mem} (h : fr (remF μ) μ m) {c : Nat} (hc : c < 20) (k : Nat) : gi m c k = gi μ c k := h.1 c (by simp [remF]; omega) k
theorem rem_gp {cs : List Nat} {μ m : Mem} (h : fr cs μ m) (k : Nat) : gp m k = gp μ k := by unfold gp; rw [h.2]
theorem noteP_of {μ m : Mem} (h : post_X9_notes (ui μ 75 0 0) m) : fr [75, 87] μ m ∧ noteP μ m := by
  obtain ⟨h1, h2, h3, h4, h5⟩ := h
  refine ⟨fr_trans (fr_ui (by simp)) h1, fun k k0 k21 => ?_, h3, h4, h5⟩
  rw [h2 k k21, gi_ui, if_neg (by simp [k0])]
theorem noteP_fr {cs : List Nat} {μ m m' : Mem} (h : noteP μ m) (hf : fr cs m m') (h75 : 75 ∉ cs) (h87 : 87 ∉ cs) : noteP μ m' := by
  obtain ⟨h2, h3, h4, h5⟩ := h
  exact ⟨fun k k0 k21 => by rw [hf.1 75 h75]; exact h2 k k0 k21, by rw [hf.1 75 h75]; exact h3, fun k hk => by rw [hf.1 87 h87]; exact h4 k hk, fun k hk => by rw [hf.1 87 h87]; exact h5 k hk⟩
def S_X8_tempers : Tr := fun av μ P => av = [.ref 0] ∧ pre_X8_tempers  μ ∧ ∀ (x : Int32) (m : Mem), post_X8_tempers  μ x m → P (some (.int x)) m
def vc_X8_tempers_0   (μ : Mem) (R : Int32 → Mem → Prop) (J4 : Int32 → Int32 → Mem → Prop) : Prop :=
  J4 0 0 μ
set_option maxRecDepth 20000 in
set_option maxHeartbeats 4000000 in
theorem wk_X8_tempers_0 {X : XT} {P : Post} (hO : OkM X cX8_tempers RX8 1 (some .int) P) (hn : xn X = 3)    (μ : Mem) {R : Int32 → Mem → Prop} (hR : ∀ x m, R x m → P (some (.int x)) m) {J4 : Int32 → Int32 → Mem → Prop} (hJ4 : ∀ (l1 : Int32) (l2 : Int32) (m : Mem), J4 l1 l2 m → V X 4 [some (.ref 0), some (.int l1), some (.int l2)] [] m)  (h : vc_X8_tempers_0   μ R J4) : V X 0 [some (.ref 0), none, none] [] μ := by
  have hX := hO.1
  unfold vc_X8_tempers_0 at h
  refine v_iconst hX 0 dX8_tempers_0 rfl (?_ : V X 1 [some (.ref 0), none, none] [.int 0] μ)
  refine v_istore_n hX dX8_tempers_1 (by rw [hn]; decide) (?_ : V X 2 [some (.ref 0), some (.int 0), none] [] μ)
  refine v_iconst hX 0 dX8_tempers_2 rfl (?_ : V X 3 [some (.ref 0), some (.int 0), none] [.int 0] μ)
  refine v_istore_n hX dX8_tempers_3 (by rw [hn]; decide) (?_ : V X 4 [some (.ref 0), some (.int 0), some (.int 0)] [] μ)
  exact v_mask [true, true, true] (hJ4 _ _ _ h)
def vc_X8_tempers_4  (l1 : Int32) (l2 : Int32) (μ : Mem) (R : Int32 → Mem → Prop) (J4 : Int32 → Int32 → Mem → Prop) : Prop :=
  ((3 < l2 → R l1 μ) ∧ (¬ 3 < l2 → ((gp μ 1) = 3 ∨ (gp μ 1) = 10) ∧ (pre_X4_agreesWith ((gp μ 1)) l2 μ ∧ ∀ (x3 : Int32) (μ4 : Mem), post_X4_agreesWith ((gp μ 1)) l2 μ x3 μ4 → ((x3 = 0 → J4 l1 (l2 + 1) μ4) ∧ (¬ x3 = 0 → J4 (l1 ||| (1 <<< (l2 &&& 31))) (l2 + 1) μ4)))))
set_option maxRecDepth 20000 in
set_option maxHeartbeats 4000000 in
theorem wk_X8_tempers_4 {X : XT} {P : Post} (hO : OkM X cX8_tempers RX8 1 (some .int) P) (hn : xn X = 3)   (l1 : Int32) (l2 : Int32) (μ : Mem) {R : Int32 → Mem → Prop} (hR : ∀ x m, R x m → P (some (.int x)) m) {J4 : Int32 → Int32 → Mem → Prop} (hJ4 : ∀ (l1 : Int32) (l2 : Int32) (m : Mem), J4 l1 l2 m → V X 4 [some (.ref 0), some (.int l1), some (.int l2)] [] m)  (h : vc_X8_tempers_4  l1 l2 μ R J4) : V X 4 [some (.ref 0), some (.int l1), some (.int l2)] [] μ := by
  have hX := hO.1
  unfold vc_X8_tempers_4 at h
  refine v_iload_n hX dX8_tempers_4 rfl (?_ : V X 5 [some (.ref 0), some (.int l1), some (.int l2)] [.int l2] μ)
  refine v_iconst hX 3 dX8_tempers_5 rfl (?_ : V X 6 [some (.ref 0), some (.int l1), some (.int l2)] [.int 3, .int l2] μ)
  refine v_icmp_gt hX 36 dX8_tempers_6 rfl (fun c1 => ?_) (fun c1 => ?_)
  · replace h := h.1 c1
    refine v_iload_n hX dX8_tempers_36 rfl (?_ : V X 37 [some (.ref 0), some (.int l1), some (.int l2)] [.int l1] μ)
    exact v_iret hO dX8_tempers_37 (hR _ _ h)
  · replace h := h.2 c1
    refine v_aload_n hX dX8_tempers_9 rfl (?_ : V X 10 [some (.ref 0), some (.int l1), some (.int l2)] [.ref 0] μ)
    refine v_getr hX (71) fk_X8_72 sh_0 rfl rfl dX8_tempers_10 (?_ : V X 13 [some (.ref 0), some (.int l1), some (.int l2)] [.ref 71] μ)
    refine v_aload_n hX dX8_tempers_13 rfl (?_ : V X 14 [some (.ref 0), some (.int l1), some (.int l2)] [.ref 0, .ref 71] μ)
    have hh2 := h.1
    replace h := h.2
    refine v_getp hX (gp μ 1) fk_X8_19 sh_0 rfl rfl dX8_tempers_14 (?_ : V X 17 [some (.ref 0), some (.int l1), some (.int l2)] [.ref ((gp μ 1)), .ref 71] μ)
    refine v_iload_n hX dX8_tempers_17 rfl (?_ : V X 18 [some (.ref 0), some (.int l1), some (.int l2)] [.int l2, .ref ((gp μ 1)), .ref 71] μ)
    refine v_callV hX sp_X4_agreesWith ck_X4_agreesWith mk_X8_246 mv_X4_agreesWith sh_71 (by decide) (by decide) [.ref ((gp μ 1)), .int l2] [] rfl rfl (Nat.le_of_ble_eq_true rfl) dX8_tempers_18 ⟨((gp μ 1)), l2, rfl, hh2, h.1, fun x3 μ4 hp5 => (?_ : V X 21 [some (.ref 0), some (.int l1), some (.int l2)] [.int x3] μ4)⟩
    replace h := h.2 x3 μ4 hp5
    refine v_if_eq hX 30 dX8_tempers_21 rfl (fun c6 => ?_) (fun c6 => ?_)
    · replace h := h.1 c6
      refine v_iinc hX 1 dX8_tempers_30 (by rw [hn]; decide) rfl rfl (?_ : V X 33 [some (.ref 0), some (.int l1), some (.int (l2 + 1))] [] μ4)
      refine v_goto hX 4 dX8_tempers_33 rfl (?_ : V X 4 [some (.ref 0), some (.int l1), some (.int (l2 + 1))] [] μ4)
      exact v_mask [true, true, true] (hJ4 _ _ _ h)
    · replace h := h.2 c6
      refine v_iload_n hX dX8_tempers_24 rfl (?_ : V X 25 [some (.ref 0), some (.int l1), some (.int l2)] [.int l1] μ4)
      refine v_iconst hX 1 dX8_tempers_25 rfl (?_ : V X 26 [some (.ref 0), some (.int l1), some (.int l2)] [.int 1, .int l1] μ4)
      refine v_iload_n hX dX8_tempers_26 rfl (?_ : V X 27 [some (.ref 0), some (.int l1), some (.int l2)] [.int l2, .int 1, .int l1] μ4)
      refine v_ishl hX dX8_tempers_27 (?_ : V X 28 [some (.ref 0), some (.int l1), some (.int l2)] [.int (1 <<< (l2 &&& 31)), .int l1] μ4)
      refine v_ior hX dX8_tempers_28 (?_ : V X 29 [some (.ref 0), some (.int l1), some (.int l2)] [.int (l1 ||| (1 <<< (l2 &&& 31)))] μ4)
      refine v_istore_n hX dX8_tempers_29 (by rw [hn]; decide) (?_ : V X 30 [some (.ref 0), some (.int (l1 ||| (1 <<< (l2 &&& 31)))), some (.int l2)] [] μ4)
      refine v_iinc hX 1 dX8_tempers_30 (by rw [hn]; decide) rfl rfl (?_ : V X 33 [some (.ref 0), some (.int (l1 ||| (1 <<< (l2 &&& 31)))), some (.int (l2 + 1))] [] μ4)
      refine v_goto hX 4 dX8_tempers_33 rfl (?_ : V X 4 [some (.ref 0), some (.int (l1 ||| (1 <<< (l2 &&& 31)))), some (.int (l2 + 1))] [] μ4)
      exact v_mask [true, true, true] (hJ4 _ _ _ h)
set_option maxRecDepth 20000 in
set_option maxHeartbeats 4000000 in
theorem vp_X8_tempers_0   (μ : Mem) (hpre : pre_X8_tempers  μ) : vc_X8_tempers_0  μ (post_X8_tempers  μ) (fun l1 l2 m => ∃ k : Nat, inv_X8_tempers_4  μ k l1 l2 m) := by
  simp only [vc_X8_tempers_0, pre_X4_agreesWith, post_X4_agreesWith, and_imp, call_eq, forall_eq, forall_const, true_and, and_true]
  exact ⟨4, 0, by omega, rfl, rfl, rfl, rfl⟩
set_option maxRecDepth 20000 in
set_option maxHeartbeats 4000000 in
theorem vp_X8_tempers_4   (μ : Mem) (hpre : pre_X8_tempers  μ) (n : Nat) (l1 : Int32) (l2 : Int32) (μ0 : Mem) (hi : inv_X8_tempers_4  μ n l1 l2 μ0) : vc_X8_tempers_4  l1 l2 μ0 (post_X8_tempers  μ) (fun l1 l2 m => ∃ k : Nat, k < n ∧ inv_X8_tempers_4  μ k l1 l2 m) := by
  simp only [vc_X8_tempers_4, pre_X4_agreesWith, post_X4_agreesWith, and_imp, call_eq, forall_eq, forall_const, true_and, and_true]
  obtain ⟨i, hi1, rfl, rfl, rfl, rfl⟩ := hi
  obtain ⟨hw, h1, h2⟩ := hpre
  rw [show (3 : Int32) = nI 3 from rfl, nI_ltI (by omega) (by omega)]
  refine ⟨fun c => ?_, fun c => ⟨hw, ⟨h1, h2⟩, fun c2 => ⟨4 - (i + 1), by omega, i + 1, by omega, rfl, nI_1 i, ?_, rfl⟩, fun c2 => ⟨4 - (i + 1), by omega, i + 1, by omega, rfl, nI_1 i, ?_, rfl⟩⟩⟩
  · have : i = 4 := by omega
    subst this
    exact ⟨rfl, rfl⟩
  · simp only [orI, tempF]
    by_cases q : ∀ k, k < gn μ0 71 2 → gi μ0 (gp μ0 1 + 4) (gn μ0 72 k) * nI i = gi μ0 73 k
    · rw [if_pos q] at c2; exact absurd c2 (by decide)
    · have q2 : ¬ ∀ k, k < gn μ0 71 2 → gi μ0 (gp μ0 1 + 4) (gi μ0 72 k).toNatClampNeg * nI i = gi μ0 73 k := q
      rw [if_neg q2, orI_0]
  · simp only [orI, tempF]
    by_cases q : ∀ k, k < gn μ0 71 2 → gi μ0 (gp μ0 1 + 4) (gn μ0 72 k) * nI i = gi μ0 73 k
    · have q2 : ∀ k, k < gn μ0 71 2 → gi μ0 (gp μ0 1 + 4) (gi μ0 72 k).toNatClampNeg * nI i = gi μ0 73 k := q
      rw [if_pos q2]
    · rw [if_neg q] at c2; exact absurd rfl c2
theorem sp_X8_tempers : Sp yX8_tempers cX8_tempers 3 (some .int) 1 S_X8_tempers := by
  refine sp_of (by decide) (fun av μ P h => ?_) ?_
  · obtain ⟨rfl, -⟩ := h
    refine ⟨Nat.le_of_ble_eq_true rfl, fun v hv => ?_⟩
    simp only [List.mem_cons, List.not_mem_nil, or_false] at hv
    subst hv; rfl
  · rintro X P hO _ μ ⟨rfl, hpre, hpost⟩ hn
    have hJ : ∀ n : Nat, (∀ (l1 : Int32) (l2 : Int32) (m : Mem), inv_X8_tempers_4  μ n l1 l2 m → V X 4 [some (.ref 0), some (.int l1), some (.int l2)] [] m) := by
      intro n
      induction n using Nat.strongRecOn with
      | _ n ih =>
        exact fun l1 l2 m hi => wk_X8_tempers_4 (J4 := (fun l1 l2 m => ∃ k : Nat, k < n ∧ inv_X8_tempers_4  μ k l1 l2 m)) hO hn   l1 l2 m hpost (fun l1 l2 m hk => by obtain ⟨k, hk, hi⟩ := hk; exact (ih k hk) l1 l2 m hi) (vp_X8_tempers_4   μ hpre n l1 l2 m hi)
    exact wk_X8_tempers_0 (J4 := (fun l1 l2 m => ∃ k : Nat, inv_X8_tempers_4  μ k l1 l2 m)) hO hn   μ hpost (fun l1 l2 m hk => by obtain ⟨k, hi⟩ := hk; exact (hJ k) l1 l2 m hi) (vp_X8_tempers_0   μ hpre)
def S_X9_tempers : Tr := fun av μ P => av = [.ref 75] ∧ pre_X9_tempers  μ ∧ ∀ (x : Int32) (m : Mem), post_X9_tempers  μ x m → P (some (.int x)) m
def vc_X9_tempers_0   (μ : Mem) (R : Int32 → Mem → Prop) (J9 : Int32 → Int32 → Mem → Prop) (J19 : Int32 → Int32 → Int32 → Int32 → Mem → Prop) : Prop :=
  (∀ μ1, μ1 = ui μ 75 0 0 → J9 0 0 μ1)
set_option maxRecDepth 20000 in
set_option maxHeartbeats 4000000 in
theorem wk_X9_tempers_0 {X : XT} {P : Post} (hO : OkM X cX9_tempers RX9 0 (some .int) P) (hn : xn X = 5)    (μ : Mem) {R : Int32 → Mem → Prop} (hR : ∀ x m, R x m → P (some (.int x)) m) {J9 : Int32 → Int32 → Mem → Prop} {J19 : Int32 → Int32 → Int32 → Int32 → Mem → Prop} (hJ9 : ∀ (l1 : Int32) (l2 : Int32) (m : Mem), J9 l1 l2 m → V X 9 [some (.ref 75), some (.int l1), some (.int l2), none, none] [] m) (hJ19 : ∀ (l1 : Int32) (l2 : Int32) (l3 : Int32) (l4 : Int32) (m : Mem), J19 l1 l2 l3 l4 m → V X 19 [some (.ref 75), some (.int l1), some (.int l2), some (.int l3), some (.int l4)] [] m)  (h : vc_X9_tempers_0   μ R J9 J19) : V X 0 [some (.ref 75), none, none, none, none] [] μ := by
  have hX := hO.1
  unfold vc_X9_tempers_0 at h
  refine v_aload_n hX dX9_tempers_0 rfl (?_ : V X 1 [some (.ref 75), none, none, none, none] [.ref 75] μ)
  refine v_iconst hX 0 dX9_tempers_1 rfl (?_ : V X 2 [some (.ref 75), none, none, none, none] [.int 0, .ref 75] μ)
  refine w_puti hX fk_X9_74 fw_9_0 sh_75 rfl dX9_tempers_2 (fun μ1 e2 => (?_ : V X 5 [some (.ref 75), none, none, none, none] [] μ1))
  replace h := h μ1 e2
  refine v_iconst hX 0 dX9_tempers_5 rfl (?_ : V X 6 [some (.ref 75), none, none, none, none] [.int 0] μ1)
  refine v_istore_n hX dX9_tempers_6 (by rw [hn]; decide) (?_ : V X 7 [some (.ref 75), some (.int 0), none, none, none] [] μ1)
  refine v_iconst hX 0 dX9_tempers_7 rfl (?_ : V X 8 [some (.ref 75), some (.int 0), none, none, none] [.int 0] μ1)
  refine v_istore_n hX dX9_tempers_8 (by rw [hn]; decide) (?_ : V X 9 [some (.ref 75), some (.int 0), some (.int 0), none, none] [] μ1)
  exact v_mask [true, true, true, false, false] (hJ9 _ _ _ h)
def vc_X9_tempers_9  (l1 : Int32) (l2 : Int32) (μ : Mem) (R : Int32 → Mem → Prop) (J9 : Int32 → Int32 → Mem → Prop) (J19 : Int32 → Int32 → Int32 → Int32 → Mem → Prop) : Prop :=
  ((4 ≤ l2 → R l1 μ) ∧ (¬ 4 ≤ l2 → J19 l1 l2 1 0 μ))
set_option maxRecDepth 20000 in
set_option maxHeartbeats 4000000 in
theorem wk_X9_tempers_9 {X : XT} {P : Post} (hO : OkM X cX9_tempers RX9 0 (some .int) P) (hn : xn X = 5)   (l1 : Int32) (l2 : Int32) (μ : Mem) {R : Int32 → Mem → Prop} (hR : ∀ x m, R x m → P (some (.int x)) m) {J9 : Int32 → Int32 → Mem → Prop} {J19 : Int32 → Int32 → Int32 → Int32 → Mem → Prop} (hJ9 : ∀ (l1 : Int32) (l2 : Int32) (m : Mem), J9 l1 l2 m → V X 9 [some (.ref 75), some (.int l1), some (.int l2), none, none] [] m) (hJ19 : ∀ (l1 : Int32) (l2 : Int32) (l3 : Int32) (l4 : Int32) (m : Mem), J19 l1 l2 l3 l4 m → V X 19 [some (.ref 75), some (.int l1), some (.int l2), some (.int l3), some (.int l4)] [] m)  (h : vc_X9_tempers_9  l1 l2 μ R J9 J19) : V X 9 [some (.ref 75), some (.int l1), some (.int l2), none, none] [] μ := by
  have hX := hO.1
  unfold vc_X9_tempers_9 at h
  refine v_iload_n hX dX9_tempers_9 rfl (?_ : V X 10 [some (.ref 75), some (.int l1), some (.int l2), none, none] [.int l2] μ)
  refine v_iconst hX 4 dX9_tempers_10 rfl (?_ : V X 11 [some (.ref 75), some (.int l1), some (.int l2), none, none] [.int 4, .int l2] μ)
  refine v_icmp_ge hX 88 dX9_tempers_11 rfl (fun c1 => ?_) (fun c1 => ?_)
  · replace h := h.1 c1
    refine v_iload_n hX dX9_tempers_88 rfl (?_ : V X 89 [some (.ref 75), some (.int l1), some (.int l2), none, none] [.int l1] μ)
    exact v_iret hO dX9_tempers_89 (hR _ _ h)
  · replace h := h.2 c1
    refine v_iconst hX 1 dX9_tempers_14 rfl (?_ : V X 15 [some (.ref 75), some (.int l1), some (.int l2), none, none] [.int 1] μ)
    refine v_istore_n hX dX9_tempers_15 (by rw [hn]; decide) (?_ : V X 16 [some (.ref 75), some (.int l1), some (.int l2), some (.int 1), none] [] μ)
    refine v_iconst hX 0 dX9_tempers_16 rfl (?_ : V X 17 [some (.ref 75), some (.int l1), some (.int l2), some (.int 1), none] [.int 0] μ)
    refine v_istore hX dX9_tempers_17 (by rw [hn]; decide) (?_ : V X 19 [some (.ref 75), some (.int l1), some (.int l2), some (.int 1), some (.int 0)] [] μ)
    exact v_mask [true, true, true, true, true] (hJ19 _ _ _ _ _ h)
def vc_X9_tempers_19  (l1 : Int32) (l2 : Int32) (l3 : Int32) (l4 : Int32) (μ : Mem) (R : Int32 → Mem → Prop) (J9 : Int32 → Int32 → Mem → Prop) (J19 : Int32 → Int32 → Int32 → Int32 → Mem → Prop) : Prop :=
  (((gi μ 75 24) ≤ l4 → ((l3 = 0 → J9 (l1 ||| 0) (l2 + 1) μ) ∧ (¬ l3 = 0 → J9 (l1 ||| (1 <<< (l2 &&& 31))) (l2 + 1) μ))) ∧ (¬ (gi μ 75 24) ≤ l4 → ((l3 = 0 → J19 l1 l2 0 (l4 + 1) μ) ∧ (¬ l3 = 0 → vp_in l4 5 ∧ vp_in (gi μ 88 (Int32.toNatClampNeg l4)) 10 ∧ vp_in l4 5 ∧ ((¬ ((gi μ 81 (Int32.toNatClampNeg (gi μ 88 (Int32.toNatClampNeg l4)))) * l2) = (gi μ 89 (Int32.toNatClampNeg l4)) → J19 l1 l2 0 (l4 + 1) μ) ∧ (((gi μ 81 (Int32.toNatClampNeg (gi μ 88 (Int32.toNatClampNeg l4)))) * l2) = (gi μ 89 (Int32.toNatClampNeg l4)) → J19 l1 l2 1 (l4 + 1) μ))))))
set_option maxRecDepth 20000 in
set_option maxHeartbeats 4000000 in
theorem wk_X9_tempers_19 {X : XT} {P : Post} (hO : OkM X cX9_tempers RX9 0 (some .int) P) (hn : xn X = 5)   (l1 : Int32) (l2 : Int32) (l3 : Int32) (l4 : Int32) (μ : Mem) {R : Int32 → Mem → Prop} (hR : ∀ x m, R x m → P (some (.int x)) m) {J9 : Int32 → Int32 → Mem → Prop} {J19 : Int32 → Int32 → Int32 → Int32 → Mem → Prop} (hJ9 : ∀ (l1 : Int32) (l2 : Int32) (m : Mem), J9 l1 l2 m → V X 9 [some (.ref 75), some (.int l1), some (.int l2), none, none] [] m) (hJ19 : ∀ (l1 : Int32) (l2 : Int32) (l3 : Int32) (l4 : Int32) (m : Mem), J19 l1 l2 l3 l4 m → V X 19 [some (.ref 75), some (.int l1), some (.int l2), some (.int l3), some (.int l4)] [] m)  (h : vc_X9_tempers_19  l1 l2 l3 l4 μ R J9 J19) : V X 19 [some (.ref 75), some (.int l1), some (.int l2), some (.int l3), some (.int l4)] [] μ := by
  have hX := hO.1
  unfold vc_X9_tempers_19 at h
  refine v_iload hX dX9_tempers_19 rfl (?_ : V X 21 [some (.ref 75), some (.int l1), some (.int l2), some (.int l3), some (.int l4)] [.int l4] μ)
  refine v_aload_n hX dX9_tempers_21 rfl (?_ : V X 22 [some (.ref 75), some (.int l1), some (.int l2), some (.int l3), some (.int l4)] [.ref 75, .int l4] μ)
  refine v_geti hX fk_X9_136 sh_75 rfl dX9_tempers_22 (?_ : V X 25 [some (.ref 75), some (.int l1), some (.int l2), some (.int l3), some (.int l4)] [.int (gi μ 75 24), .int l4] μ)
  refine v_icmp_ge hX 68 dX9_tempers_25 rfl (fun c1 => ?_) (fun c1 => ?_)
  · replace h := h.1 c1
    refine v_iload_n hX dX9_tempers_68 rfl (?_ : V X 69 [some (.ref 75), some (.int l1), some (.int l2), some (.int l3), some (.int l4)] [.int l1] μ)
    refine v_iload_n hX dX9_tempers_69 rfl (?_ : V X 70 [some (.ref 75), some (.int l1), some (.int l2), some (.int l3), some (.int l4)] [.int l3, .int l1] μ)
    refine v_if_eq hX 79 dX9_tempers_70 rfl (fun c2 => ?_) (fun c2 => ?_)
    · replace h := h.1 c2
      refine v_iconst hX 0 dX9_tempers_79 rfl (?_ : V X 80 [some (.ref 75), some (.int l1), some (.int l2), some (.int l3), some (.int l4)] [.int 0, .int l1] μ)
      refine v_ior hX dX9_tempers_80 (?_ : V X 81 [some (.ref 75), some (.int l1), some (.int l2), some (.int l3), some (.int l4)] [.int (l1 ||| 0)] μ)
      refine v_istore_n hX dX9_tempers_81 (by rw [hn]; decide) (?_ : V X 82 [some (.ref 75), some (.int (l1 ||| 0)), some (.int l2), some (.int l3), some (.int l4)] [] μ)
      refine v_iinc hX 1 dX9_tempers_82 (by rw [hn]; decide) rfl rfl (?_ : V X 85 [some (.ref 75), some (.int (l1 ||| 0)), some (.int (l2 + 1)), some (.int l3), some (.int l4)] [] μ)
      refine v_goto hX 9 dX9_tempers_85 rfl (?_ : V X 9 [some (.ref 75), some (.int (l1 ||| 0)), some (.int (l2 + 1)), some (.int l3), some (.int l4)] [] μ)
      exact v_mask [true, true, true, false, false] (hJ9 _ _ _ h)
    · replace h := h.2 c2
      refine v_iconst hX 1 dX9_tempers_73 rfl (?_ : V X 74 [some (.ref 75), some (.int l1), some (.int l2), some (.int l3), some (.int l4)] [.int 1, .int l1] μ)
      refine v_iload_n hX dX9_tempers_74 rfl (?_ : V X 75 [some (.ref 75), some (.int l1), some (.int l2), some (.int l3), some (.int l4)] [.int l2, .int 1, .int l1] μ)
      refine v_ishl hX dX9_tempers_75 (?_ : V X 76 [some (.ref 75), some (.int l1), some (.int l2), some (.int l3), some (.int l4)] [.int (1 <<< (l2 &&& 31)), .int l1] μ)
      refine v_goto hX 80 dX9_tempers_76 rfl (?_ : V X 80 [some (.ref 75), some (.int l1), some (.int l2), some (.int l3), some (.int l4)] [.int (1 <<< (l2 &&& 31)), .int l1] μ)
      refine v_ior hX dX9_tempers_80 (?_ : V X 81 [some (.ref 75), some (.int l1), some (.int l2), some (.int l3), some (.int l4)] [.int (l1 ||| (1 <<< (l2 &&& 31)))] μ)
      refine v_istore_n hX dX9_tempers_81 (by rw [hn]; decide) (?_ : V X 82 [some (.ref 75), some (.int (l1 ||| (1 <<< (l2 &&& 31)))), some (.int l2), some (.int l3), some (.int l4)] [] μ)
      refine v_iinc hX 1 dX9_tempers_82 (by rw [hn]; decide) rfl rfl (?_ : V X 85 [some (.ref 75), some (.int (l1 ||| (1 <<< (l2 &&& 31)))), some (.int (l2 + 1)), some (.int l3), some (.int l4)] [] μ)
      refine v_goto hX 9 dX9_tempers_85 rfl (?_ : V X 9 [some (.ref 75), some (.int (l1 ||| (1 <<< (l2 &&& 31)))), some (.int (l2 + 1)), some (.int l3), some (.int l4)] [] μ)
      exact v_mask [true, true, true, false, false] (hJ9 _ _ _ h)
  · replace h := h.2 c1
    refine v_iload_n hX dX9_tempers_28 rfl (?_ : V X 29 [some (.ref 75), some (.int l1), some (.int l2), some (.int l3), some (.int l4)] [.int l3] μ)
    refine v_if_eq hX 60 dX9_tempers_29 rfl (fun c3 => ?_) (fun c3 => ?_)
    · replace h := h.1 c3
      refine v_iconst hX 0 dX9_tempers_60 rfl (?_ : V X 61 [some (.ref 75), some (.int l1), some (.int l2), some (.int l3), some (.int l4)] [.int 0] μ)
      refine v_istore_n hX dX9_tempers_61 (by rw [hn]; decide) (?_ : V X 62 [some (.ref 75), some (.int l1), some (.int l2), some (.int 0), some (.int l4)] [] μ)
      refine v_iinc hX 1 dX9_tempers_62 (by rw [hn]; decide) rfl rfl (?_ : V X 65 [some (.ref 75), some (.int l1), some (.int l2), some (.int 0), some (.int (l4 + 1))] [] μ)
      refine v_goto hX 19 dX9_tempers_65 rfl (?_ : V X 19 [some (.ref 75), some (.int l1), some (.int l2), some (.int 0), some (.int (l4 + 1))] [] μ)
      exact v_mask [true, true, true, true, true] (hJ19 _ _ _ _ _ h)
    · replace h := h.2 c3
      refine v_aload_n hX dX9_tempers_32 rfl (?_ : V X 33 [some (.ref 75), some (.int l1), some (.int l2), some (.int l3), some (.int l4)] [.ref 75] μ)
      refine v_getr hX (81) fk_X9_25 sh_75 rfl rfl dX9_tempers_33 (?_ : V X 36 [some (.ref 75), some (.int l1), some (.int l2), some (.int l3), some (.int l4)] [.ref 81] μ)
      refine v_aload_n hX dX9_tempers_36 rfl (?_ : V X 37 [some (.ref 75), some (.int l1), some (.int l2), some (.int l3), some (.int l4)] [.ref 75, .ref 81] μ)
      refine v_getr hX (88) fk_X9_47 sh_75 rfl rfl dX9_tempers_37 (?_ : V X 40 [some (.ref 75), some (.int l1), some (.int l2), some (.int l3), some (.int l4)] [.ref 88, .ref 81] μ)
      refine v_iload hX dX9_tempers_40 rfl (?_ : V X 42 [some (.ref 75), some (.int l1), some (.int l2), some (.int l3), some (.int l4)] [.int l4, .ref 88, .ref 81] μ)
      have hb4 := h.1
      replace h := h.2
      refine w_iald hX (Int32.toNatClampNeg l4) sh_88 hb4 rfl dX9_tempers_42 (?_ : V X 43 [some (.ref 75), some (.int l1), some (.int l2), some (.int l3), some (.int l4)] [.int (gi μ 88 (Int32.toNatClampNeg l4)), .ref 81] μ)
      have hb5 := h.1
      replace h := h.2
      refine w_iald hX (Int32.toNatClampNeg (gi μ 88 (Int32.toNatClampNeg l4))) sh_81 hb5 rfl dX9_tempers_43 (?_ : V X 44 [some (.ref 75), some (.int l1), some (.int l2), some (.int l3), some (.int l4)] [.int (gi μ 81 (Int32.toNatClampNeg (gi μ 88 (Int32.toNatClampNeg l4))))] μ)
      refine v_iload_n hX dX9_tempers_44 rfl (?_ : V X 45 [some (.ref 75), some (.int l1), some (.int l2), some (.int l3), some (.int l4)] [.int l2, .int (gi μ 81 (Int32.toNatClampNeg (gi μ 88 (Int32.toNatClampNeg l4))))] μ)
      refine v_imul hX dX9_tempers_45 (?_ : V X 46 [some (.ref 75), some (.int l1), some (.int l2), some (.int l3), some (.int l4)] [.int ((gi μ 81 (Int32.toNatClampNeg (gi μ 88 (Int32.toNatClampNeg l4)))) * l2)] μ)
      refine v_aload_n hX dX9_tempers_46 rfl (?_ : V X 47 [some (.ref 75), some (.int l1), some (.int l2), some (.int l3), some (.int l4)] [.ref 75, .int ((gi μ 81 (Int32.toNatClampNeg (gi μ 88 (Int32.toNatClampNeg l4)))) * l2)] μ)
      refine v_getr hX (89) fk_X9_50 sh_75 rfl rfl dX9_tempers_47 (?_ : V X 50 [some (.ref 75), some (.int l1), some (.int l2), some (.int l3), some (.int l4)] [.ref 89, .int ((gi μ 81 (Int32.toNatClampNeg (gi μ 88 (Int32.toNatClampNeg l4)))) * l2)] μ)
      refine v_iload hX dX9_tempers_50 rfl (?_ : V X 52 [some (.ref 75), some (.int l1), some (.int l2), some (.int l3), some (.int l4)] [.int l4, .ref 89, .int ((gi μ 81 (Int32.toNatClampNeg (gi μ 88 (Int32.toNatClampNeg l4)))) * l2)] μ)
      have hb6 := h.1
      replace h := h.2
      refine w_iald hX (Int32.toNatClampNeg l4) sh_89 hb6 rfl dX9_tempers_52 (?_ : V X 53 [some (.ref 75), some (.int l1), some (.int l2), some (.int l3), some (.int l4)] [.int (gi μ 89 (Int32.toNatClampNeg l4)), .int ((gi μ 81 (Int32.toNatClampNeg (gi μ 88 (Int32.toNatClampNeg l4)))) * l2)] μ)
      refine v_icmp_ne hX 60 dX9_tempers_53 rfl (fun c7 => ?_) (fun c7 => ?_)
      · replace h := h.1 c7
        refine v_iconst hX 0 dX9_tempers_60 rfl (?_ : V X 61 [some (.ref 75), some (.int l1), some (.int l2), some (.int l3), some (.int l4)] [.int 0] μ)
        refine v_istore_n hX dX9_tempers_61 (by rw [hn]; decide) (?_ : V X 62 [some (.ref 75), some (.int l1), some (.int l2), some (.int 0), some (.int l4)] [] μ)
        refine v_iinc hX 1 dX9_tempers_62 (by rw [hn]; decide) rfl rfl (?_ : V X 65 [some (.ref 75), some (.int l1), some (.int l2), some (.int 0), some (.int (l4 + 1))] [] μ)
        refine v_goto hX 19 dX9_tempers_65 rfl (?_ : V X 19 [some (.ref 75), some (.int l1), some (.int l2), some (.int 0), some (.int (l4 + 1))] [] μ)
        exact v_mask [true, true, true, true, true] (hJ19 _ _ _ _ _ h)
      · replace h := h.2 c7
        refine v_iconst hX 1 dX9_tempers_56 rfl (?_ : V X 57 [some (.ref 75), some (.int l1), some (.int l2), some (.int l3), some (.int l4)] [.int 1] μ)
        refine v_goto hX 61 dX9_tempers_57 rfl (?_ : V X 61 [some (.ref 75), some (.int l1), some (.int l2), some (.int l3), some (.int l4)] [.int 1] μ)
        refine v_istore_n hX dX9_tempers_61 (by rw [hn]; decide) (?_ : V X 62 [some (.ref 75), some (.int l1), some (.int l2), some (.int 1), some (.int l4)] [] μ)
        refine v_iinc hX 1 dX9_tempers_62 (by rw [hn]; decide) rfl rfl (?_ : V X 65 [some (.ref 75), some (.int l1), some (.int l2), some (.int 1), some (.int (l4 + 1))] [] μ)
        refine v_goto hX 19 dX9_tempers_65 rfl (?_ : V X 19 [some (.ref 75), some (.int l1), some (.int l2), some (.int 1), some (.int (l4 + 1))] [] μ)
        exact v_mask [true, true, true, true, true] (hJ19 _ _ _ _ _ h)
set_option maxRecDepth 20000 in
set_option maxHeartbeats 4000000 in
theorem vp_X9_tempers_0   (μ : Mem) (hpre : pre_X9_tempers  μ) : vc_X9_tempers_0  μ (post_X9_tempers  μ) (fun l1 l2 m => ∃ k : Nat, inv_X9_tempers_9  μ k l1 l2 m) (fun l1 l2 l3 l4 m => ∃ k : Nat, inv_X9_tempers_19  μ k l1 l2 l3 l4 m) := by
  simp only [vc_X9_tempers_0, and_imp, call_eq, forall_eq, forall_const, true_and, and_true]
  exact ⟨400, 0, by omega, rfl, rfl, rfl, rfl⟩
set_option maxRecDepth 20000 in
set_option maxHeartbeats 4000000 in
theorem vp_X9_tempers_9   (μ : Mem) (hpre : pre_X9_tempers  μ) (n : Nat) (l1 : Int32) (l2 : Int32) (μ0 : Mem) (hi : inv_X9_tempers_9  μ n l1 l2 μ0) : vc_X9_tempers_9  l1 l2 μ0 (post_X9_tempers  μ) (fun l1 l2 m => ∃ k : Nat, k < n ∧ inv_X9_tempers_9  μ k l1 l2 m) (fun l1 l2 l3 l4 m => ∃ k : Nat, k < n ∧ inv_X9_tempers_19  μ k l1 l2 l3 l4 m) := by
  simp only [vc_X9_tempers_9, and_imp, call_eq, forall_eq, forall_const, true_and, and_true]
  obtain ⟨i, hi1, rfl, rfl, rfl, rfl⟩ := hi
  obtain ⟨h1, h2⟩ := hpre
  have hb := h1.2
  rw [show (4 : Int32) = nI 4 from rfl, nI_leI (by omega) (by omega)]
  refine ⟨fun c => ?_, fun c => ⟨(3 - i) * 100 + 1 + (gn μ 75 24 - 0), by omega, i, 0, by omega, by omega, rfl, rfl, rfl, rfl, ?_, rfl⟩⟩
  · have : i = 4 := by omega
    subst this
    exact ⟨rfl, rfl⟩
  · rw [if_pos (fun k hk => absurd hk (Nat.not_lt_zero k))]
set_option maxRecDepth 20000 in
set_option maxHeartbeats 4000000 in
theorem vp_X9_tempers_19   (μ : Mem) (hpre : pre_X9_tempers  μ) (n : Nat) (l1 : Int32) (l2 : Int32) (l3 : Int32) (l4 : Int32) (μ0 : Mem) (hi : inv_X9_tempers_19  μ n l1 l2 l3 l4 μ0) : vc_X9_tempers_19  l1 l2 l3 l4 μ0 (post_X9_tempers  μ) (fun l1 l2 m => ∃ k : Nat, k < n ∧ inv_X9_tempers_9  μ k l1 l2 m) (fun l1 l2 l3 l4 m => ∃ k : Nat, k < n ∧ inv_X9_tempers_19  μ k l1 l2 l3 l4 m) := by
  simp only [vc_X9_tempers_19, and_imp, call_eq, forall_eq, forall_const, true_and, and_true]
  obtain ⟨i, j, hi1, hj1, rfl, rfl, rfl, rfl, hl3, rfl⟩ := hi
  obtain ⟨h1, h2⟩ := hpre
  have hb := h1.2
  rw [show gi (ui μ 75 0 0) 75 24 = gi μ 75 24 from rfl, isN_le h1 (by omega) (by omega), nI_clamp (by omega)]
  rw [show gi (ui μ 75 0 0) 88 j = gi μ 88 j from rfl, show gi (ui μ 75 0 0) 89 j = gi μ 89 j from rfl, show gi (ui μ 75 0 0) 81 (gi μ 88 j).toNatClampNeg = gi μ 81 (gi μ 88 j).toNatClampNeg from rfl]
  refine ⟨fun c => ⟨fun c2 => ⟨(4 - (i + 1)) * 100, by omega, i + 1, by omega, rfl, nI_1 i, ?_, rfl⟩, fun c2 => ⟨(4 - (i + 1)) * 100, by omega, i + 1, by omega, rfl, nI_1 i, ?_, rfl⟩⟩, fun c => ⟨fun c2 => ⟨(3 - i) * 100 + 1 + (gn μ 75 24 - (j + 1)), by omega, i, j + 1, hi1, by omega, rfl, rfl, nI_1 j, rfl, ?_, rfl⟩, fun c2 => ⟨vp_in_nI (by omega) (by omega), ?_, vp_in_nI (by omega) (by omega), fun c3 => ⟨(3 - i) * 100 + 1 + (gn μ 75 24 - (j + 1)), by omega, i, j + 1, hi1, by omega, rfl, rfl, nI_1 j, rfl, ?_, rfl⟩, fun c3 => ⟨(3 - i) * 100 + 1 + (gn μ 75 24 - (j + 1)), by omega, i, j + 1, hi1, by omega, rfl, rfl, nI_1 j, rfl, ?_, rfl⟩⟩⟩⟩
  · have : j = gn μ 75 24 := by omega
    subst this
    simp only [orI, tempF]
    split at hl3
    · rw [hl3] at c2; exact absurd c2 (by decide)
    · rename_i q; rw [if_neg q]
  · have : j = gn μ 75 24 := by omega
    subst this
    simp only [orI, tempF]
    split at hl3
    · rename_i q; rw [if_pos q]
    · rw [hl3] at c2; exact absurd rfl c2
  · split at hl3
    · rw [hl3] at c2; exact absurd c2 (by decide)
    · rename_i q; rw [if_neg (fun z => q (fun k hk => z k (by omega)))]
  · obtain ⟨e, he⟩ := vp_in_of' (h2 j (by omega)) (by omega)
    rw [e]; exact vp_in_nI (by omega) (by omega)
  · rw [if_neg (fun z => c3 (z j (by omega)))]
  · split at hl3
    · rename_i q
      rw [if_pos (fun k hk => ?_)]
      rcases Nat.lt_or_ge k j with z | z
      · exact q k z
      · have : k = j := by omega
        subst this; exact c3
    · rw [hl3] at c2; exact absurd rfl c2
theorem sp_X9_tempers : Sp yX9_tempers cX9_tempers 5 (some .int) 0 S_X9_tempers := by
  refine sp_of (by decide) (fun av μ P h => ?_) ?_
  · obtain ⟨rfl, -⟩ := h
    refine ⟨Nat.le_of_ble_eq_true rfl, fun v hv => ?_⟩
    simp only [List.mem_cons, List.not_mem_nil, or_false] at hv
    subst hv; rfl
  · rintro X P hO _ μ ⟨rfl, hpre, hpost⟩ hn
    have hJ : ∀ n : Nat, (∀ (l1 : Int32) (l2 : Int32) (m : Mem), inv_X9_tempers_9  μ n l1 l2 m → V X 9 [some (.ref 75), some (.int l1), some (.int l2), none, none] [] m) ∧ (∀ (l1 : Int32) (l2 : Int32) (l3 : Int32) (l4 : Int32) (m : Mem), inv_X9_tempers_19  μ n l1 l2 l3 l4 m → V X 19 [some (.ref 75), some (.int l1), some (.int l2), some (.int l3), some (.int l4)] [] m) := by
      intro n
      induction n using Nat.strongRecOn with
      | _ n ih =>
        exact ⟨fun l1 l2 m hi => wk_X9_tempers_9 (J9 := (fun l1 l2 m => ∃ k : Nat, k < n ∧ inv_X9_tempers_9  μ k l1 l2 m)) (J19 := (fun l1 l2 l3 l4 m => ∃ k : Nat, k < n ∧ inv_X9_tempers_19  μ k l1 l2 l3 l4 m)) hO hn   l1 l2 m hpost (fun l1 l2 m hk => by obtain ⟨k, hk, hi⟩ := hk; exact (ih k hk).1 l1 l2 m hi) (fun l1 l2 l3 l4 m hk => by obtain ⟨k, hk, hi⟩ := hk; exact (ih k hk).2 l1 l2 l3 l4 m hi) (vp_X9_tempers_9   μ hpre n l1 l2 m hi), fun l1 l2 l3 l4 m hi => wk_X9_tempers_19 (J9 := (fun l1 l2 m => ∃ k : Nat, k < n ∧ inv_X9_tempers_9  μ k l1 l2 m)) (J19 := (fun l1 l2 l3 l4 m => ∃ k : Nat, k < n ∧ inv_X9_tempers_19  μ k l1 l2 l3 l4 m)) hO hn   l1 l2 l3 l4 m hpost (fun l1 l2 m hk => by obtain ⟨k, hk, hi⟩ := hk; exact (ih k hk).1 l1 l2 m hi) (fun l1 l2 l3 l4 m hk => by obtain ⟨k, hk, hi⟩ := hk; exact (ih k hk).2 l1 l2 l3 l4 m hi) (vp_X9_tempers_19   μ hpre n l1 l2 l3 l4 m hi)⟩
    exact wk_X9_tempers_0 (J9 := (fun l1 l2 m => ∃ k : Nat, inv_X9_tempers_9  μ k l1 l2 m)) (J19 := (fun l1 l2 l3 l4 m => ∃ k : Nat, inv_X9_tempers_19  μ k l1 l2 l3 l4 m)) hO hn   μ hpost (fun l1 l2 m hk => by obtain ⟨k, hi⟩ := hk; exact (hJ k).1 l1 l2 m hi) (fun l1 l2 l3 l4 m hk => by obtain ⟨k, hi⟩ := hk; exact (hJ k).2 l1 l2 l3 l4 m hi) (vp_X9_tempers_0   μ hpre)
def S_X8_which : Tr := fun av μ P => ∃ (p1 : Int32) (p2 : Int32), av = [.ref 0, .int p1, .int p2] ∧ pre_X8_which p1 p2 μ ∧ ∀ (x : Int32) (m : Mem), post_X8_which p1 p2 μ x m → P (some (.int x)) m
def vc_X8_which_0 (p1 : Int32) (p2 : Int32)  (μ : Mem) (R : Int32 → Mem → Prop) (J28 : Int32 → Int32 → Mem → Prop) : Prop :=
  ((gp μ 1) = 3 ∨ (gp μ 1) = 10) ∧ (pre_X2_hasDoing ((gp μ 1)) p1 μ ∧ ∀ (x2 : Int32) (μ3 : Mem), post_X2_hasDoing ((gp μ 1)) p1 μ x2 μ3 → ((x2 = 0 → R ((-1)) μ3) ∧ (¬ x2 = 0 → ((p2 < 0 → R ((-1)) μ3) ∧ (¬ p2 < 0 → ((p2 ≤ 30 → J28 0 0 μ3) ∧ (¬ p2 ≤ 30 → R ((-1)) μ3)))))))
set_option maxRecDepth 20000 in
set_option maxHeartbeats 4000000 in
theorem wk_X8_which_0 {X : XT} {P : Post} (hO : OkM X cX8_which RX8 1 (some .int) P) (hn : xn X = 5) (p1 : Int32) (p2 : Int32)   (μ : Mem) {R : Int32 → Mem → Prop} (hR : ∀ x m, R x m → P (some (.int x)) m) {J28 : Int32 → Int32 → Mem → Prop} (hJ28 : ∀ (l3 : Int32) (l4 : Int32) (m : Mem), J28 l3 l4 m → V X 28 [some (.ref 0), some (.int p1), some (.int p2), some (.int l3), some (.int l4)] [] m)  (h : vc_X8_which_0 p1 p2  μ R J28) : V X 0 [some (.ref 0), some (.int p1), some (.int p2), none, none] [] μ := by
  have hX := hO.1
  unfold vc_X8_which_0 at h
  refine v_aload_n hX dX8_which_0 rfl (?_ : V X 1 [some (.ref 0), some (.int p1), some (.int p2), none, none] [.ref 0] μ)
  have hh1 := h.1
  replace h := h.2
  refine v_getp hX (gp μ 1) fk_X8_19 sh_0 rfl rfl dX8_which_1 (?_ : V X 4 [some (.ref 0), some (.int p1), some (.int p2), none, none] [.ref ((gp μ 1))] μ)
  refine v_iload_n hX dX8_which_4 rfl (?_ : V X 5 [some (.ref 0), some (.int p1), some (.int p2), none, none] [.int p1, .ref ((gp μ 1))] μ)
  refine v_callV hX sp_X2_hasDoing ck_X2_hasDoing mk_X8_128 mv_X2_hasDoing (sHo hh1) (by decide) (by decide) [.int p1] [] rfl rfl (Nat.le_of_ble_eq_true rfl) dX8_which_5 ⟨((gp μ 1)), p1, rfl, hh1, h.1, fun x2 μ3 hp4 => (?_ : V X 8 [some (.ref 0), some (.int p1), some (.int p2), none, none] [.int x2] μ3)⟩
  replace h := h.2 x2 μ3 hp4
  refine v_if_eq hX 21 dX8_which_8 rfl (fun c5 => ?_) (fun c5 => ?_)
  · replace h := h.1 c5
    refine v_iconst hX (-1) dX8_which_21 rfl (?_ : V X 22 [some (.ref 0), some (.int p1), some (.int p2), none, none] [.int ((-1))] μ3)
    exact v_iret hO dX8_which_22 (hR _ _ h)
  · replace h := h.2 c5
    refine v_iload_n hX dX8_which_11 rfl (?_ : V X 12 [some (.ref 0), some (.int p1), some (.int p2), none, none] [.int p2] μ3)
    refine v_if_lt hX 21 dX8_which_12 rfl (fun c6 => ?_) (fun c6 => ?_)
    · replace h := h.1 c6
      refine v_iconst hX (-1) dX8_which_21 rfl (?_ : V X 22 [some (.ref 0), some (.int p1), some (.int p2), none, none] [.int ((-1))] μ3)
      exact v_iret hO dX8_which_22 (hR _ _ h)
    · replace h := h.2 c6
      refine v_iload_n hX dX8_which_15 rfl (?_ : V X 16 [some (.ref 0), some (.int p1), some (.int p2), none, none] [.int p2] μ3)
      refine v_bipush hX 30 dX8_which_16 rfl (?_ : V X 18 [some (.ref 0), some (.int p1), some (.int p2), none, none] [.int 30, .int p2] μ3)
      refine v_icmp_le hX 23 dX8_which_18 rfl (fun c7 => ?_) (fun c7 => ?_)
      · replace h := h.1 c7
        refine v_iconst hX 0 dX8_which_23 rfl (?_ : V X 24 [some (.ref 0), some (.int p1), some (.int p2), none, none] [.int 0] μ3)
        refine v_istore_n hX dX8_which_24 (by rw [hn]; decide) (?_ : V X 25 [some (.ref 0), some (.int p1), some (.int p2), some (.int 0), none] [] μ3)
        refine v_iconst hX 0 dX8_which_25 rfl (?_ : V X 26 [some (.ref 0), some (.int p1), some (.int p2), some (.int 0), none] [.int 0] μ3)
        refine v_istore hX dX8_which_26 (by rw [hn]; decide) (?_ : V X 28 [some (.ref 0), some (.int p1), some (.int p2), some (.int 0), some (.int 0)] [] μ3)
        exact v_mask [true, true, true, true, true] (hJ28 _ _ _ h)
      · replace h := h.2 c7
        refine v_iconst hX (-1) dX8_which_21 rfl (?_ : V X 22 [some (.ref 0), some (.int p1), some (.int p2), none, none] [.int ((-1))] μ3)
        exact v_iret hO dX8_which_22 (hR _ _ h)
def vc_X8_which_28 (p1 : Int32) (p2 : Int32) (l3 : Int32) (l4 : Int32) (μ : Mem) (R : Int32 → Mem → Prop) (J28 : Int32 → Int32 → Mem → Prop) : Prop :=
  ((gp μ 1) = 3 ∨ (gp μ 1) = 10) ∧ (((gi μ ((gp μ 1)) 0) ≤ l4 → R l3 μ) ∧ (¬ (gi μ ((gp μ 1)) 0) ≤ l4 → (pre_X2_fullLoss ((gp μ 1)) l4 p1 μ ∧ ∀ (x3 : Int32) (μ4 : Mem), post_X2_fullLoss ((gp μ 1)) l4 p1 μ x3 μ4 → ((¬ x3 = p2 → J28 l3 (l4 + 1) μ4) ∧ (x3 = p2 → J28 (l3 ||| (1 <<< (l4 &&& 31))) (l4 + 1) μ4)))))
set_option maxRecDepth 20000 in
set_option maxHeartbeats 4000000 in
theorem wk_X8_which_28 {X : XT} {P : Post} (hO : OkM X cX8_which RX8 1 (some .int) P) (hn : xn X = 5) (p1 : Int32) (p2 : Int32)  (l3 : Int32) (l4 : Int32) (μ : Mem) {R : Int32 → Mem → Prop} (hR : ∀ x m, R x m → P (some (.int x)) m) {J28 : Int32 → Int32 → Mem → Prop} (hJ28 : ∀ (l3 : Int32) (l4 : Int32) (m : Mem), J28 l3 l4 m → V X 28 [some (.ref 0), some (.int p1), some (.int p2), some (.int l3), some (.int l4)] [] m)  (h : vc_X8_which_28 p1 p2 l3 l4 μ R J28) : V X 28 [some (.ref 0), some (.int p1), some (.int p2), some (.int l3), some (.int l4)] [] μ := by
  have hX := hO.1
  unfold vc_X8_which_28 at h
  refine v_iload hX dX8_which_28 rfl (?_ : V X 30 [some (.ref 0), some (.int p1), some (.int p2), some (.int l3), some (.int l4)] [.int l4] μ)
  refine v_aload_n hX dX8_which_30 rfl (?_ : V X 31 [some (.ref 0), some (.int p1), some (.int p2), some (.int l3), some (.int l4)] [.ref 0, .int l4] μ)
  have hh1 := h.1
  replace h := h.2
  refine v_getp hX (gp μ 1) fk_X8_19 sh_0 rfl rfl dX8_which_31 (?_ : V X 34 [some (.ref 0), some (.int p1), some (.int p2), some (.int l3), some (.int l4)] [.ref ((gp μ 1)), .int l4] μ)
  refine v_geti hX fk_X8_207 (sHo hh1) rfl dX8_which_34 (?_ : V X 37 [some (.ref 0), some (.int p1), some (.int p2), some (.int l3), some (.int l4)] [.int (gi μ ((gp μ 1)) 0), .int l4] μ)
  refine v_icmp_ge hX 67 dX8_which_37 rfl (fun c2 => ?_) (fun c2 => ?_)
  · replace h := h.1 c2
    refine v_iload_n hX dX8_which_67 rfl (?_ : V X 68 [some (.ref 0), some (.int p1), some (.int p2), some (.int l3), some (.int l4)] [.int l3] μ)
    exact v_iret hO dX8_which_68 (hR _ _ h)
  · replace h := h.2 c2
    refine v_aload_n hX dX8_which_40 rfl (?_ : V X 41 [some (.ref 0), some (.int p1), some (.int p2), some (.int l3), some (.int l4)] [.ref 0] μ)
    refine v_getp hX (gp μ 1) fk_X8_19 sh_0 rfl rfl dX8_which_41 (?_ : V X 44 [some (.ref 0), some (.int p1), some (.int p2), some (.int l3), some (.int l4)] [.ref ((gp μ 1))] μ)
    refine v_iload hX dX8_which_44 rfl (?_ : V X 46 [some (.ref 0), some (.int p1), some (.int p2), some (.int l3), some (.int l4)] [.int l4, .ref ((gp μ 1))] μ)
    refine v_iload_n hX dX8_which_46 rfl (?_ : V X 47 [some (.ref 0), some (.int p1), some (.int p2), some (.int l3), some (.int l4)] [.int p1, .int l4, .ref ((gp μ 1))] μ)
    refine v_callV hX sp_X2_fullLoss ck_X2_fullLoss mk_X8_250 mv_X2_fullLoss (sHo hh1) (by decide) (by decide) [.int l4, .int p1] [] rfl rfl (Nat.le_of_ble_eq_true rfl) dX8_which_47 ⟨((gp μ 1)), l4, p1, rfl, hh1, h.1, fun x3 μ4 hp5 => (?_ : V X 50 [some (.ref 0), some (.int p1), some (.int p2), some (.int l3), some (.int l4)] [.int x3] μ4)⟩
    replace h := h.2 x3 μ4 hp5
    refine v_iload_n hX dX8_which_50 rfl (?_ : V X 51 [some (.ref 0), some (.int p1), some (.int p2), some (.int l3), some (.int l4)] [.int p2, .int x3] μ4)
    refine v_icmp_ne hX 61 dX8_which_51 rfl (fun c6 => ?_) (fun c6 => ?_)
    · replace h := h.1 c6
      refine v_iinc hX 1 dX8_which_61 (by rw [hn]; decide) rfl rfl (?_ : V X 64 [some (.ref 0), some (.int p1), some (.int p2), some (.int l3), some (.int (l4 + 1))] [] μ4)
      refine v_goto hX 28 dX8_which_64 rfl (?_ : V X 28 [some (.ref 0), some (.int p1), some (.int p2), some (.int l3), some (.int (l4 + 1))] [] μ4)
      exact v_mask [true, true, true, true, true] (hJ28 _ _ _ h)
    · replace h := h.2 c6
      refine v_iload_n hX dX8_which_54 rfl (?_ : V X 55 [some (.ref 0), some (.int p1), some (.int p2), some (.int l3), some (.int l4)] [.int l3] μ4)
      refine v_iconst hX 1 dX8_which_55 rfl (?_ : V X 56 [some (.ref 0), some (.int p1), some (.int p2), some (.int l3), some (.int l4)] [.int 1, .int l3] μ4)
      refine v_iload hX dX8_which_56 rfl (?_ : V X 58 [some (.ref 0), some (.int p1), some (.int p2), some (.int l3), some (.int l4)] [.int l4, .int 1, .int l3] μ4)
      refine v_ishl hX dX8_which_58 (?_ : V X 59 [some (.ref 0), some (.int p1), some (.int p2), some (.int l3), some (.int l4)] [.int (1 <<< (l4 &&& 31)), .int l3] μ4)
      refine v_ior hX dX8_which_59 (?_ : V X 60 [some (.ref 0), some (.int p1), some (.int p2), some (.int l3), some (.int l4)] [.int (l3 ||| (1 <<< (l4 &&& 31)))] μ4)
      refine v_istore_n hX dX8_which_60 (by rw [hn]; decide) (?_ : V X 61 [some (.ref 0), some (.int p1), some (.int p2), some (.int (l3 ||| (1 <<< (l4 &&& 31)))), some (.int l4)] [] μ4)
      refine v_iinc hX 1 dX8_which_61 (by rw [hn]; decide) rfl rfl (?_ : V X 64 [some (.ref 0), some (.int p1), some (.int p2), some (.int (l3 ||| (1 <<< (l4 &&& 31)))), some (.int (l4 + 1))] [] μ4)
      refine v_goto hX 28 dX8_which_64 rfl (?_ : V X 28 [some (.ref 0), some (.int p1), some (.int p2), some (.int (l3 ||| (1 <<< (l4 &&& 31)))), some (.int (l4 + 1))] [] μ4)
      exact v_mask [true, true, true, true, true] (hJ28 _ _ _ h)
set_option maxRecDepth 20000 in
set_option maxHeartbeats 4000000 in
theorem vp_X8_which_0 (p1 : Int32) (p2 : Int32)  (μ : Mem) (hpre : pre_X8_which p1 p2 μ) : vc_X8_which_0 p1 p2 μ (post_X8_which p1 p2 μ) (fun l3 l4 m => ∃ k : Nat, inv_X8_which_28 p1 p2 μ k l3 l4 m) := by
  simp only [vc_X8_which_0, pre_X2_fullLoss, pre_X2_hasDoing, post_X2_fullLoss, post_X2_hasDoing, and_imp, call_eq, forall_eq, forall_const, true_and, and_true]
  obtain ⟨hw, h1, h2⟩ := hpre
  refine ⟨hw, ?_⟩
  unfold post_X8_which
  by_cases c : p1 < 0 ∨ gi μ (gp μ 1) 4 ≤ p1
  · have c2 : p1 < 0 ∨ gi μ (gp μ 1) 4 ≤ p1 ∨ p2 < 0 ∨ 30 < p2 := by grind
    simp only [if_pos c, if_pos c2]; simp
  · simp only [if_neg c]
    refine ⟨fun q => absurd q (by decide), fun _ => ⟨fun q => ?_, fun q => ⟨fun q2 => ⟨gn μ (gp μ 1) 0, 0, Nat.zero_le _, rfl, rfl, rfl, rfl, ?_⟩, fun q2 => ?_⟩⟩⟩
    · rw [if_pos (by grind)]; simp
    · grind
    · rw [if_pos (by grind)]; simp
set_option maxRecDepth 20000 in
set_option maxHeartbeats 4000000 in
theorem vp_X8_which_28 (p1 : Int32) (p2 : Int32)  (μ : Mem) (hpre : pre_X8_which p1 p2 μ) (n : Nat) (l3 : Int32) (l4 : Int32) (μ0 : Mem) (hi : inv_X8_which_28 p1 p2 μ n l3 l4 μ0) : vc_X8_which_28 p1 p2 l3 l4 μ0 (post_X8_which p1 p2 μ) (fun l3 l4 m => ∃ k : Nat, k < n ∧ inv_X8_which_28 p1 p2 μ k l3 l4 m) := by
  simp only [vc_X8_which_28, pre_X2_fullLoss, pre_X2_hasDoing, post_X2_fullLoss, post_X2_hasDoing, and_imp, call_eq, forall_eq, forall_const, true_and, and_true]
  obtain ⟨i, hi1, rfl, rfl, rfl, rfl, hc⟩ := hi
  obtain ⟨hw, h1, h2⟩ := hpre
  have hb := h2.2
  rw [isN_le h2 (by omega) (by omega)]
  have hin : vp_in p1 5 := ix_in (N := 5) h1 (by omega) (by omega) (by omega) (by grind)
  refine ⟨hw, fun c => ?_, fun c => ⟨⟨vp_in_nI (by omega) (by omega), hin⟩, ?_⟩⟩
  · have : i = gn μ0 (gp μ0 1) 0 := by omega
    subst this
    exact ⟨by rw [if_neg hc], rfl⟩
  · rw [nI_clamp (by omega)]
    refine ⟨fun c2 => ⟨gn μ0 (gp μ0 1) 0 - (i + 1), by omega, i + 1, by omega, rfl, nI_1 i, ?_, rfl, hc⟩, fun c2 => ⟨gn μ0 (gp μ0 1) 0 - (i + 1), by omega, i + 1, by omega, rfl, nI_1 i, ?_, rfl, hc⟩⟩
    · simp only [orI, whichF]; rw [if_neg c2, orI_0]
    · simp only [orI, whichF]; rw [if_pos c2]
theorem sp_X8_which : Sp yX8_which cX8_which 5 (some .int) 1 S_X8_which := by
  refine sp_of (by decide) (fun av μ P h => ?_) ?_
  · obtain ⟨p1, p2, rfl, -⟩ := h
    refine ⟨Nat.le_of_ble_eq_true rfl, fun v hv => ?_⟩
    simp only [List.mem_cons, List.not_mem_nil, or_false] at hv
    rcases hv with rfl | rfl | rfl <;> rfl
  · rintro X P hO _ μ ⟨p1, p2, rfl, hpre, hpost⟩ hn
    have hJ : ∀ n : Nat, (∀ (l3 : Int32) (l4 : Int32) (m : Mem), inv_X8_which_28 p1 p2 μ n l3 l4 m → V X 28 [some (.ref 0), some (.int p1), some (.int p2), some (.int l3), some (.int l4)] [] m) := by
      intro n
      induction n using Nat.strongRecOn with
      | _ n ih =>
        exact fun l3 l4 m hi => wk_X8_which_28 (J28 := (fun l3 l4 m => ∃ k : Nat, k < n ∧ inv_X8_which_28 p1 p2 μ k l3 l4 m)) hO hn p1 p2  l3 l4 m hpost (fun l3 l4 m hk => by obtain ⟨k, hk, hi⟩ := hk; exact (ih k hk) l3 l4 m hi) (vp_X8_which_28 p1 p2  μ hpre n l3 l4 m hi)
    exact wk_X8_which_0 (J28 := (fun l3 l4 m => ∃ k : Nat, inv_X8_which_28 p1 p2 μ k l3 l4 m)) hO hn p1 p2  μ hpost (fun l3 l4 m hk => by obtain ⟨k, hi⟩ := hk; exact (hJ k) l3 l4 m hi) (vp_X8_which_0 p1 p2  μ hpre)
def S_X9_which : Tr := fun av μ P => ∃ (p1 : Int32) (p2 : Int32), av = [.ref 75, .int p1, .int p2] ∧ pre_X9_which p1 p2 μ ∧ ∀ (x : Int32) (m : Mem), post_X9_which p1 p2 μ x m → P (some (.int x)) m
def vc_X9_which_0 (p1 : Int32) (p2 : Int32)  (μ : Mem) (R : Int32 → Mem → Prop) (J30 : Int32 → Int32 → Mem → Prop) : Prop :=
  (∀ μ1, μ1 = ui μ 75 0 0 → (pre_X9_isDoing p1 μ1 ∧ ∀ (x3 : Int32) (μ4 : Mem), post_X9_isDoing p1 μ1 x3 μ4 → ((x3 = 0 → R ((-1)) μ4) ∧ (¬ x3 = 0 → (pre_X9_in p2 0 30 μ4 ∧ ∀ (x7 : Int32) (μ8 : Mem), post_X9_in p2 0 30 μ4 x7 μ8 → ((¬ x7 = 0 → J30 0 0 μ8) ∧ (x7 = 0 → R ((-1)) μ8)))))))
set_option maxRecDepth 20000 in
set_option maxHeartbeats 4000000 in
theorem wk_X9_which_0 {X : XT} {P : Post} (hO : OkM X cX9_which RX9 2 (some .int) P) (hn : xn X = 5) (p1 : Int32) (p2 : Int32)   (μ : Mem) {R : Int32 → Mem → Prop} (hR : ∀ x m, R x m → P (some (.int x)) m) {J30 : Int32 → Int32 → Mem → Prop} (hJ30 : ∀ (l3 : Int32) (l4 : Int32) (m : Mem), J30 l3 l4 m → V X 30 [some (.ref 75), some (.int p1), some (.int p2), some (.int l3), some (.int l4)] [] m)  (h : vc_X9_which_0 p1 p2  μ R J30) : V X 0 [some (.ref 75), some (.int p1), some (.int p2), none, none] [] μ := by
  have hX := hO.1
  unfold vc_X9_which_0 at h
  refine v_aload_n hX dX9_which_0 rfl (?_ : V X 1 [some (.ref 75), some (.int p1), some (.int p2), none, none] [.ref 75] μ)
  refine v_iconst hX 0 dX9_which_1 rfl (?_ : V X 2 [some (.ref 75), some (.int p1), some (.int p2), none, none] [.int 0, .ref 75] μ)
  refine w_puti hX fk_X9_74 fw_9_0 sh_75 rfl dX9_which_2 (fun μ1 e2 => (?_ : V X 5 [some (.ref 75), some (.int p1), some (.int p2), none, none] [] μ1))
  replace h := h μ1 e2
  refine v_aload_n hX dX9_which_5 rfl (?_ : V X 6 [some (.ref 75), some (.int p1), some (.int p2), none, none] [.ref 75] μ1)
  refine v_iload_n hX dX9_which_6 rfl (?_ : V X 7 [some (.ref 75), some (.int p1), some (.int p2), none, none] [.int p1, .ref 75] μ1)
  refine v_callV hX sp_X9_isDoing ck_X9_isDoing mk_X9_149 mv_X9_isDoing sh_75 (by decide) (by decide) [.int p1] [] rfl rfl (Nat.le_of_ble_eq_true rfl) dX9_which_7 ⟨p1, rfl, h.1, fun x3 μ4 hp5 => (?_ : V X 10 [some (.ref 75), some (.int p1), some (.int p2), none, none] [.int x3] μ4)⟩
  replace h := h.2 x3 μ4 hp5
  refine v_if_eq hX 23 dX9_which_10 rfl (fun c6 => ?_) (fun c6 => ?_)
  · replace h := h.1 c6
    refine v_iconst hX (-1) dX9_which_23 rfl (?_ : V X 24 [some (.ref 75), some (.int p1), some (.int p2), none, none] [.int ((-1))] μ4)
    exact v_iret hO dX9_which_24 (hR _ _ h)
  · replace h := h.2 c6
    refine v_iload_n hX dX9_which_13 rfl (?_ : V X 14 [some (.ref 75), some (.int p1), some (.int p2), none, none] [.int p2] μ4)
    refine v_iconst hX 0 dX9_which_14 rfl (?_ : V X 15 [some (.ref 75), some (.int p1), some (.int p2), none, none] [.int 0, .int p2] μ4)
    refine v_bipush hX 30 dX9_which_15 rfl (?_ : V X 17 [some (.ref 75), some (.int p1), some (.int p2), none, none] [.int 30, .int 0, .int p2] μ4)
    refine v_callS hX sp_X9_in ck_X9_in mk_X9_78 sk_X9_in (by decide) [.int p2, .int 0, .int 30] [] rfl rfl (Nat.le_of_ble_eq_true rfl) dX9_which_17 ⟨p2, 0, 30, rfl, h.1, fun x7 μ8 hp9 => (?_ : V X 20 [some (.ref 75), some (.int p1), some (.int p2), none, none] [.int x7] μ8)⟩
    replace h := h.2 x7 μ8 hp9
    refine v_if_ne hX 25 dX9_which_20 rfl (fun c10 => ?_) (fun c10 => ?_)
    · replace h := h.1 c10
      refine v_iconst hX 0 dX9_which_25 rfl (?_ : V X 26 [some (.ref 75), some (.int p1), some (.int p2), none, none] [.int 0] μ8)
      refine v_istore_n hX dX9_which_26 (by rw [hn]; decide) (?_ : V X 27 [some (.ref 75), some (.int p1), some (.int p2), some (.int 0), none] [] μ8)
      refine v_iconst hX 0 dX9_which_27 rfl (?_ : V X 28 [some (.ref 75), some (.int p1), some (.int p2), some (.int 0), none] [.int 0] μ8)
      refine v_istore hX dX9_which_28 (by rw [hn]; decide) (?_ : V X 30 [some (.ref 75), some (.int p1), some (.int p2), some (.int 0), some (.int 0)] [] μ8)
      exact v_mask [true, true, true, true, true] (hJ30 _ _ _ h)
    · replace h := h.2 c10
      refine v_iconst hX (-1) dX9_which_23 rfl (?_ : V X 24 [some (.ref 75), some (.int p1), some (.int p2), none, none] [.int ((-1))] μ8)
      exact v_iret hO dX9_which_24 (hR _ _ h)
def vc_X9_which_30 (p1 : Int32) (p2 : Int32) (l3 : Int32) (l4 : Int32) (μ : Mem) (R : Int32 → Mem → Prop) (J30 : Int32 → Int32 → Mem → Prop) : Prop :=
  (((gi μ 77 0) ≤ l4 → R l3 μ) ∧ (¬ (gi μ 77 0) ≤ l4 → vp_in p1 10 ∧ vp_in l4 10 ∧ ((¬ ((gi μ 81 (Int32.toNatClampNeg p1)) * (gi μ 79 (Int32.toNatClampNeg l4))) = p2 → J30 (l3 ||| 0) (l4 + 1) μ) ∧ (((gi μ 81 (Int32.toNatClampNeg p1)) * (gi μ 79 (Int32.toNatClampNeg l4))) = p2 → J30 (l3 ||| (1 <<< (l4 &&& 31))) (l4 + 1) μ))))
set_option maxRecDepth 20000 in
set_option maxHeartbeats 4000000 in
theorem wk_X9_which_30 {X : XT} {P : Post} (hO : OkM X cX9_which RX9 2 (some .int) P) (hn : xn X = 5) (p1 : Int32) (p2 : Int32)  (l3 : Int32) (l4 : Int32) (μ : Mem) {R : Int32 → Mem → Prop} (hR : ∀ x m, R x m → P (some (.int x)) m) {J30 : Int32 → Int32 → Mem → Prop} (hJ30 : ∀ (l3 : Int32) (l4 : Int32) (m : Mem), J30 l3 l4 m → V X 30 [some (.ref 75), some (.int p1), some (.int p2), some (.int l3), some (.int l4)] [] m)  (h : vc_X9_which_30 p1 p2 l3 l4 μ R J30) : V X 30 [some (.ref 75), some (.int p1), some (.int p2), some (.int l3), some (.int l4)] [] μ := by
  have hX := hO.1
  unfold vc_X9_which_30 at h
  refine v_iload hX dX9_which_30 rfl (?_ : V X 32 [some (.ref 75), some (.int p1), some (.int p2), some (.int l3), some (.int l4)] [.int l4] μ)
  refine v_aload_n hX dX9_which_32 rfl (?_ : V X 33 [some (.ref 75), some (.int p1), some (.int p2), some (.int l3), some (.int l4)] [.ref 75, .int l4] μ)
  refine v_getr hX (77) fk_X9_13 sh_75 rfl rfl dX9_which_33 (?_ : V X 36 [some (.ref 75), some (.int p1), some (.int p2), some (.int l3), some (.int l4)] [.ref 77, .int l4] μ)
  refine v_iconst hX 0 dX9_which_36 rfl (?_ : V X 37 [some (.ref 75), some (.int p1), some (.int p2), some (.int l3), some (.int l4)] [.int 0, .ref 77, .int l4] μ)
  refine w_iald hX 0 sh_77 (vp_lit (by decide)) (by decide) dX9_which_37 (?_ : V X 38 [some (.ref 75), some (.int p1), some (.int p2), some (.int l3), some (.int l4)] [.int (gi μ 77 0), .int l4] μ)
  refine v_icmp_ge hX 76 dX9_which_38 rfl (fun c1 => ?_) (fun c1 => ?_)
  · replace h := h.1 c1
    refine v_iload_n hX dX9_which_76 rfl (?_ : V X 77 [some (.ref 75), some (.int p1), some (.int p2), some (.int l3), some (.int l4)] [.int l3] μ)
    exact v_iret hO dX9_which_77 (hR _ _ h)
  · replace h := h.2 c1
    refine v_iload_n hX dX9_which_41 rfl (?_ : V X 42 [some (.ref 75), some (.int p1), some (.int p2), some (.int l3), some (.int l4)] [.int l3] μ)
    refine v_aload_n hX dX9_which_42 rfl (?_ : V X 43 [some (.ref 75), some (.int p1), some (.int p2), some (.int l3), some (.int l4)] [.ref 75, .int l3] μ)
    refine v_getr hX (81) fk_X9_25 sh_75 rfl rfl dX9_which_43 (?_ : V X 46 [some (.ref 75), some (.int p1), some (.int p2), some (.int l3), some (.int l4)] [.ref 81, .int l3] μ)
    refine v_iload_n hX dX9_which_46 rfl (?_ : V X 47 [some (.ref 75), some (.int p1), some (.int p2), some (.int l3), some (.int l4)] [.int p1, .ref 81, .int l3] μ)
    have hb2 := h.1
    replace h := h.2
    refine w_iald hX (Int32.toNatClampNeg p1) sh_81 hb2 rfl dX9_which_47 (?_ : V X 48 [some (.ref 75), some (.int p1), some (.int p2), some (.int l3), some (.int l4)] [.int (gi μ 81 (Int32.toNatClampNeg p1)), .int l3] μ)
    refine v_aload_n hX dX9_which_48 rfl (?_ : V X 49 [some (.ref 75), some (.int p1), some (.int p2), some (.int l3), some (.int l4)] [.ref 75, .int (gi μ 81 (Int32.toNatClampNeg p1)), .int l3] μ)
    refine v_getr hX (79) fk_X9_19 sh_75 rfl rfl dX9_which_49 (?_ : V X 52 [some (.ref 75), some (.int p1), some (.int p2), some (.int l3), some (.int l4)] [.ref 79, .int (gi μ 81 (Int32.toNatClampNeg p1)), .int l3] μ)
    refine v_iload hX dX9_which_52 rfl (?_ : V X 54 [some (.ref 75), some (.int p1), some (.int p2), some (.int l3), some (.int l4)] [.int l4, .ref 79, .int (gi μ 81 (Int32.toNatClampNeg p1)), .int l3] μ)
    have hb3 := h.1
    replace h := h.2
    refine w_iald hX (Int32.toNatClampNeg l4) sh_79 hb3 rfl dX9_which_54 (?_ : V X 55 [some (.ref 75), some (.int p1), some (.int p2), some (.int l3), some (.int l4)] [.int (gi μ 79 (Int32.toNatClampNeg l4)), .int (gi μ 81 (Int32.toNatClampNeg p1)), .int l3] μ)
    refine v_imul hX dX9_which_55 (?_ : V X 56 [some (.ref 75), some (.int p1), some (.int p2), some (.int l3), some (.int l4)] [.int ((gi μ 81 (Int32.toNatClampNeg p1)) * (gi μ 79 (Int32.toNatClampNeg l4))), .int l3] μ)
    refine v_iload_n hX dX9_which_56 rfl (?_ : V X 57 [some (.ref 75), some (.int p1), some (.int p2), some (.int l3), some (.int l4)] [.int p2, .int ((gi μ 81 (Int32.toNatClampNeg p1)) * (gi μ 79 (Int32.toNatClampNeg l4))), .int l3] μ)
    refine v_icmp_ne hX 67 dX9_which_57 rfl (fun c4 => ?_) (fun c4 => ?_)
    · replace h := h.1 c4
      refine v_iconst hX 0 dX9_which_67 rfl (?_ : V X 68 [some (.ref 75), some (.int p1), some (.int p2), some (.int l3), some (.int l4)] [.int 0, .int l3] μ)
      refine v_ior hX dX9_which_68 (?_ : V X 69 [some (.ref 75), some (.int p1), some (.int p2), some (.int l3), some (.int l4)] [.int (l3 ||| 0)] μ)
      refine v_istore_n hX dX9_which_69 (by rw [hn]; decide) (?_ : V X 70 [some (.ref 75), some (.int p1), some (.int p2), some (.int (l3 ||| 0)), some (.int l4)] [] μ)
      refine v_iinc hX 1 dX9_which_70 (by rw [hn]; decide) rfl rfl (?_ : V X 73 [some (.ref 75), some (.int p1), some (.int p2), some (.int (l3 ||| 0)), some (.int (l4 + 1))] [] μ)
      refine v_goto hX 30 dX9_which_73 rfl (?_ : V X 30 [some (.ref 75), some (.int p1), some (.int p2), some (.int (l3 ||| 0)), some (.int (l4 + 1))] [] μ)
      exact v_mask [true, true, true, true, true] (hJ30 _ _ _ h)
    · replace h := h.2 c4
      refine v_iconst hX 1 dX9_which_60 rfl (?_ : V X 61 [some (.ref 75), some (.int p1), some (.int p2), some (.int l3), some (.int l4)] [.int 1, .int l3] μ)
      refine v_iload hX dX9_which_61 rfl (?_ : V X 63 [some (.ref 75), some (.int p1), some (.int p2), some (.int l3), some (.int l4)] [.int l4, .int 1, .int l3] μ)
      refine v_ishl hX dX9_which_63 (?_ : V X 64 [some (.ref 75), some (.int p1), some (.int p2), some (.int l3), some (.int l4)] [.int (1 <<< (l4 &&& 31)), .int l3] μ)
      refine v_goto hX 68 dX9_which_64 rfl (?_ : V X 68 [some (.ref 75), some (.int p1), some (.int p2), some (.int l3), some (.int l4)] [.int (1 <<< (l4 &&& 31)), .int l3] μ)
      refine v_ior hX dX9_which_68 (?_ : V X 69 [some (.ref 75), some (.int p1), some (.int p2), some (.int l3), some (.int l4)] [.int (l3 ||| (1 <<< (l4 &&& 31)))] μ)
      refine v_istore_n hX dX9_which_69 (by rw [hn]; decide) (?_ : V X 70 [some (.ref 75), some (.int p1), some (.int p2), some (.int (l3 ||| (1 <<< (l4 &&& 31)))), some (.int l4)] [] μ)
      refine v_iinc hX 1 dX9_which_70 (by rw [hn]; decide) rfl rfl (?_ : V X 73 [some (.ref 75), some (.int p1), some (.int p2), some (.int (l3 ||| (1 <<< (l4 &&& 31)))), some (.int (l4 + 1))] [] μ)
      refine v_goto hX 30 dX9_which_73 rfl (?_ : V X 30 [some (.ref 75), some (.int p1), some (.int p2), some (.int (l3 ||| (1 <<< (l4 &&& 31)))), some (.int (l4 + 1))] [] μ)
      exact v_mask [true, true, true, true, true] (hJ30 _ _ _ h)
set_option maxRecDepth 20000 in
set_option maxHeartbeats 4000000 in
theorem vp_X9_which_0 (p1 : Int32) (p2 : Int32)  (μ : Mem) (hpre : pre_X9_which p1 p2 μ) : vc_X9_which_0 p1 p2 μ (post_X9_which p1 p2 μ) (fun l3 l4 m => ∃ k : Nat, inv_X9_which_30 p1 p2 μ k l3 l4 m) := by
  simp only [vc_X9_which_0, pre_X9_in, pre_X9_isDoing, post_X9_in, post_X9_isDoing, and_imp, call_eq, forall_eq, forall_const, true_and, and_true]
  obtain ⟨h1, h2⟩ := hpre
  unfold post_X9_which
  rw [show gi (ui μ 75 0 0) 77 1 = gi μ 77 1 from rfl]
  refine ⟨h1, ?_⟩
  by_cases c : p1 < 0 ∨ gi μ 77 1 ≤ p1
  · have c2 : p1 < 0 ∨ gi μ 77 1 ≤ p1 ∨ p2 < 0 ∨ 30 < p2 := by grind
    simp only [if_pos c, if_pos c2]; simp
  · by_cases c3 : p2 < 0 ∨ 30 < p2
    · have c2 : p1 < 0 ∨ gi μ 77 1 ≤ p1 ∨ p2 < 0 ∨ 30 < p2 := by grind
      simp only [if_neg c, if_pos c2, if_pos c3]; simp
    · simp only [if_neg c, if_neg c3]
      refine ⟨fun q => absurd q (by decide), fun _ => ⟨fun q => ⟨gn μ 77 0, 0, Nat.zero_le _, rfl, rfl, rfl, rfl, by grind⟩, fun q => absurd q (by decide)⟩⟩
set_option maxRecDepth 20000 in
set_option maxHeartbeats 4000000 in
theorem vp_X9_which_30 (p1 : Int32) (p2 : Int32)  (μ : Mem) (hpre : pre_X9_which p1 p2 μ) (n : Nat) (l3 : Int32) (l4 : Int32) (μ0 : Mem) (hi : inv_X9_which_30 p1 p2 μ n l3 l4 μ0) : vc_X9_which_30 p1 p2 l3 l4 μ0 (post_X9_which p1 p2 μ) (fun l3 l4 m => ∃ k : Nat, k < n ∧ inv_X9_which_30 p1 p2 μ k l3 l4 m) := by
  simp only [vc_X9_which_30, pre_X9_in, pre_X9_isDoing, post_X9_in, post_X9_isDoing, and_imp, call_eq, forall_eq, forall_const, true_and, and_true]
  obtain ⟨i, hi1, rfl, rfl, rfl, rfl, hc⟩ := hi
  obtain ⟨h1, h2⟩ := hpre
  have hb := h2.2
  rw [show gi (ui μ 75 0 0) 77 0 = gi μ 77 0 from rfl, isN_le h2 (by omega) (by omega), nI_clamp (by omega)]
  have hin : vp_in p1 10 := ix_in (N := 10) h1 (by omega) (by omega) (by omega) (by grind)
  rw [show gi (ui μ 75 0 0) 81 p1.toNatClampNeg = gi μ 81 p1.toNatClampNeg from rfl, show gi (ui μ 75 0 0) 79 i = gi μ 79 i from rfl]
  refine ⟨fun c => ?_, fun c => ⟨hin, vp_in_nI (by omega) (by omega), fun c2 => ⟨gn μ 77 0 - (i + 1), by omega, i + 1, by omega, rfl, nI_1 i, ?_, rfl, hc⟩, fun c2 => ⟨gn μ 77 0 - (i + 1), by omega, i + 1, by omega, rfl, nI_1 i, ?_, rfl, hc⟩⟩⟩
  · have : i = gn μ 77 0 := by omega
    subst this
    exact ⟨by rw [if_neg hc], rfl⟩
  · simp only [orI, whichF]; rw [if_neg c2]
  · simp only [orI, whichF]; rw [if_pos c2]
theorem sp_X9_which : Sp yX9_which cX9_which 5 (some .int) 2 S_X9_which := by
  refine sp_of (by decide) (fun av μ P h => ?_) ?_
  · obtain ⟨p1, p2, rfl, -⟩ := h
    refine ⟨Nat.le_of_ble_eq_true rfl, fun v hv => ?_⟩
    simp only [List.mem_cons, List.not_mem_nil, or_false] at hv
    rcases hv with rfl | rfl | rfl <;> rfl
  · rintro X P hO _ μ ⟨p1, p2, rfl, hpre, hpost⟩ hn
    have hJ : ∀ n : Nat, (∀ (l3 : Int32) (l4 : Int32) (m : Mem), inv_X9_which_30 p1 p2 μ n l3 l4 m → V X 30 [some (.ref 75), some (.int p1), some (.int p2), some (.int l3), some (.int l4)] [] m) := by
      intro n
      induction n using Nat.strongRecOn with
      | _ n ih =>
        exact fun l3 l4 m hi => wk_X9_which_30 (J30 := (fun l3 l4 m => ∃ k : Nat, k < n ∧ inv_X9_which_30 p1 p2 μ k l3 l4 m)) hO hn p1 p2  l3 l4 m hpost (fun l3 l4 m hk => by obtain ⟨k, hk, hi⟩ := hk; exact (ih k hk) l3 l4 m hi) (vp_X9_which_30 p1 p2  μ hpre n l3 l4 m hi)
    exact wk_X9_which_0 (J30 := (fun l3 l4 m => ∃ k : Nat, inv_X9_which_30 p1 p2 μ k l3 l4 m)) hO hn p1 p2  μ hpost (fun l3 l4 m hk => by obtain ⟨k, hi⟩ := hk; exact (hJ k) l3 l4 m hi) (vp_X9_which_0 p1 p2  μ hpre)

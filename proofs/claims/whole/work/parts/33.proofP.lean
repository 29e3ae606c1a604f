theorem ix_of {μ : Mem} {c k b : Nat} {p : Int32} (h : isN μ c k b) (hb : b < 2 ^ 30) (hc : ¬ (p < 0 ∨ gi μ c k ≤ p)) : p = nI p.toNatClampNeg ∧ p.toNatClampNeg < gn μ c k := by
  have h2 := h.2
  have h0 : 0 ≤ p := by
    have : ¬ p < 0 := fun q => hc (Or.inl q)
    simpa using this
  obtain ⟨e, he⟩ := nn_of h0
  refine ⟨e, ?_⟩
  have h1 : ¬ gi μ c k ≤ p := fun q => hc (Or.inr q)
  rw [h.1, e, nI_leI (by omega) he] at h1
  omega
theorem ix_in {μ : Mem} {c k b N : Nat} {p : Int32} (h : isN μ c k b) (hb : b < 2 ^ 30) (hN : b ≤ N) (hN2 : N < 2 ^ 31) (hc : ¬ (p < 0 ∨ gi μ c k ≤ p)) : vp_in p N := by
  obtain ⟨e, he⟩ := ix_of h hb hc
  have h2 := h.2
  rw [e]
  exact vp_in_nI (by omega) hN2
theorem add_tn {a j : Nat} {p : Int32} (h : p = nI j) (ha : a + j < 2 ^ 31) : nI a + p = nI (a + j) ∧ (nI a + p).toNatClampNeg = a + j := by
  rw [h, nI_add, nI_clamp ha]; exact ⟨rfl, rfl⟩
def S_X6_add : Tr := fun av μ P => ∃ (p1 : Int32), av = [.ref 1, .int p1] ∧ pre_X6_add p1 μ ∧ ∀ m : Mem, post_X6_add p1 μ m → P none m
def vc_X6_add_0 (p1 : Int32)  (μ : Mem) (R : Mem → Prop)  : Prop :=
  ((200 ≤ (gi μ 1 1) → R μ) ∧ (¬ 200 ≤ (gi μ 1 1) → vp_in (gi μ 1 1) 200 ∧ (∀ μ3, μ3 = ui μ 2 (Int32.toNatClampNeg (gi μ 1 1)) p1 → (∀ μ5, μ5 = ui μ3 1 1 ((gi μ3 1 1) + 1) → R μ5))))
set_option maxRecDepth 20000 in
set_option maxHeartbeats 4000000 in
theorem wk_X6_add_0 {X : XT} {P : Post} (hO : OkM X cX6_add RX6 0 none P) (hn : xn X = 2) (p1 : Int32)   (μ : Mem) {R : Mem → Prop} (hR : ∀ m, R m → P none m)    (h : vc_X6_add_0 p1  μ R ) : V X 0 [some (.ref 1), some (.int p1)] [] μ := by
  have hX := hO.1
  unfold vc_X6_add_0 at h
  refine v_aload_n hX dX6_add_0 rfl (?_ : V X 1 [some (.ref 1), some (.int p1)] [.ref 1] μ)
  refine v_geti hX fk_X6_15 sh_1 rfl dX6_add_1 (?_ : V X 4 [some (.ref 1), some (.int p1)] [.int (gi μ 1 1)] μ)
  refine v_sipush hX 200 dX6_add_4 rfl (?_ : V X 7 [some (.ref 1), some (.int p1)] [.int 200, .int (gi μ 1 1)] μ)
  refine v_icmp_ge hX 30 dX6_add_7 rfl (fun c1 => ?_) (fun c1 => ?_)
  · replace h := h.1 c1
    exact v_vret hO dX6_add_30 (hR _ h)
  · replace h := h.2 c1
    refine v_aload_n hX dX6_add_10 rfl (?_ : V X 11 [some (.ref 1), some (.int p1)] [.ref 1] μ)
    refine v_getr hX (2) fk_X6_9 sh_1 rfl rfl dX6_add_11 (?_ : V X 14 [some (.ref 1), some (.int p1)] [.ref 2] μ)
    refine v_aload_n hX dX6_add_14 rfl (?_ : V X 15 [some (.ref 1), some (.int p1)] [.ref 1, .ref 2] μ)
    refine v_geti hX fk_X6_15 sh_1 rfl dX6_add_15 (?_ : V X 18 [some (.ref 1), some (.int p1)] [.int (gi μ 1 1), .ref 2] μ)
    refine v_iload_n hX dX6_add_18 rfl (?_ : V X 19 [some (.ref 1), some (.int p1)] [.int p1, .int (gi μ 1 1), .ref 2] μ)
    have hb2 := h.1
    replace h := h.2
    refine w_iast hX (Int32.toNatClampNeg (gi μ 1 1)) sh_2 hb2 rfl dX6_add_19 (fun μ3 e4 => (?_ : V X 20 [some (.ref 1), some (.int p1)] [] μ3))
    replace h := h μ3 e4
    refine v_aload_n hX dX6_add_20 rfl (?_ : V X 21 [some (.ref 1), some (.int p1)] [.ref 1] μ3)
    refine v_dup hX dX6_add_21 rfl (?_ : V X 22 [some (.ref 1), some (.int p1)] [.ref 1, .ref 1] μ3)
    refine v_geti hX fk_X6_15 sh_1 rfl dX6_add_22 (?_ : V X 25 [some (.ref 1), some (.int p1)] [.int (gi μ3 1 1), .ref 1] μ3)
    refine v_iconst hX 1 dX6_add_25 rfl (?_ : V X 26 [some (.ref 1), some (.int p1)] [.int 1, .int (gi μ3 1 1), .ref 1] μ3)
    refine v_iadd hX dX6_add_26 (?_ : V X 27 [some (.ref 1), some (.int p1)] [.int ((gi μ3 1 1) + 1), .ref 1] μ3)
    refine w_puti hX fk_X6_15 fw_6_1 sh_1 rfl dX6_add_27 (fun μ5 e6 => (?_ : V X 30 [some (.ref 1), some (.int p1)] [] μ5))
    replace h := h μ5 e6
    exact v_vret hO dX6_add_30 (hR _ h)
set_option maxRecDepth 20000 in
set_option maxHeartbeats 4000000 in
theorem vp_X6_add_0 (p1 : Int32)  (μ : Mem) (hpre : pre_X6_add p1 μ) : vc_X6_add_0 p1 μ (post_X6_add p1 μ)  := by
  simp only [vc_X6_add_0, and_imp, call_eq, forall_eq, forall_const, true_and, and_true]
  unfold pre_X6_add at hpre
  have hb := hpre.2
  refine ⟨fun c => ?_, fun c => ⟨isN_in hpre (by omega) (by omega), ?_⟩⟩
  · exfalso
    rw [hpre.1, show (200 : Int32) = nI 200 from rfl] at c
    have := (nI_leI (by omega) (by omega)).mp c
    omega
  · unfold post_X6_add; simp [gi_ui, gn]
theorem sp_X6_add : Sp yX6_add cX6_add 2 none 0 S_X6_add := by
  refine sp_of (by decide) (fun av μ P h => ?_) ?_
  · obtain ⟨p1, rfl, -⟩ := h
    refine ⟨Nat.le_of_ble_eq_true rfl, fun v hv => ?_⟩
    simp only [List.mem_cons, List.not_mem_nil, or_false] at hv
    rcases hv with rfl | rfl <;> rfl
  · rintro X P hO _ μ ⟨p1, rfl, hpre, hpost⟩ hn
    exact wk_X6_add_0 hO hn p1  μ hpost (vp_X6_add_0 p1  μ hpre)
def S_X8_type : Tr := fun av μ P => ∃ (p1 : Int32), av = [.ref 0, .int p1] ∧ pre_X8_type p1 μ ∧ ∀ (x : Int32) (m : Mem), post_X8_type p1 μ x m → P (some (.int x)) m
def vc_X8_type_0 (p1 : Int32)  (μ : Mem) (R : Int32 → Mem → Prop)  : Prop :=
  ((p1 < 0 → R ((-1)) μ) ∧ (¬ p1 < 0 → ((p1 ≤ 255 → (((gi μ 1 1) < 200 → (pre_X6_add p1 μ ∧ ∀ (μ5 : Mem), post_X6_add p1 μ μ5 → R (gi μ5 1 1) μ5)) ∧ (¬ (gi μ 1 1) < 200 → R ((-3)) μ))) ∧ (¬ p1 ≤ 255 → R ((-1)) μ))))
set_option maxRecDepth 20000 in
set_option maxHeartbeats 4000000 in
theorem wk_X8_type_0 {X : XT} {P : Post} (hO : OkM X cX8_type RX8 1 (some .int) P) (hn : xn X = 2) (p1 : Int32)   (μ : Mem) {R : Int32 → Mem → Prop} (hR : ∀ x m, R x m → P (some (.int x)) m)    (h : vc_X8_type_0 p1  μ R ) : V X 0 [some (.ref 0), some (.int p1)] [] μ := by
  have hX := hO.1
  unfold vc_X8_type_0 at h
  refine v_iload_n hX dX8_type_0 rfl (?_ : V X 1 [some (.ref 0), some (.int p1)] [.int p1] μ)
  refine v_if_lt hX 11 dX8_type_1 rfl (fun c1 => ?_) (fun c1 => ?_)
  · replace h := h.1 c1
    refine v_iconst hX (-1) dX8_type_11 rfl (?_ : V X 12 [some (.ref 0), some (.int p1)] [.int ((-1))] μ)
    exact v_iret hO dX8_type_12 (hR _ _ h)
  · replace h := h.2 c1
    refine v_iload_n hX dX8_type_4 rfl (?_ : V X 5 [some (.ref 0), some (.int p1)] [.int p1] μ)
    refine v_sipush hX 255 dX8_type_5 rfl (?_ : V X 8 [some (.ref 0), some (.int p1)] [.int 255, .int p1] μ)
    refine v_icmp_le hX 13 dX8_type_8 rfl (fun c2 => ?_) (fun c2 => ?_)
    · replace h := h.1 c2
      refine v_aload_n hX dX8_type_13 rfl (?_ : V X 14 [some (.ref 0), some (.int p1)] [.ref 0] μ)
      refine v_getr hX (1) fk_X8_10 sh_0 rfl rfl dX8_type_14 (?_ : V X 17 [some (.ref 0), some (.int p1)] [.ref 1] μ)
      refine v_geti hX fk_X8_84 sh_1 rfl dX8_type_17 (?_ : V X 20 [some (.ref 0), some (.int p1)] [.int (gi μ 1 1)] μ)
      refine v_sipush hX 200 dX8_type_20 rfl (?_ : V X 23 [some (.ref 0), some (.int p1)] [.int 200, .int (gi μ 1 1)] μ)
      refine v_icmp_lt hX 29 dX8_type_23 rfl (fun c3 => ?_) (fun c3 => ?_)
      · replace h := h.1 c3
        refine v_aload_n hX dX8_type_29 rfl (?_ : V X 30 [some (.ref 0), some (.int p1)] [.ref 0] μ)
        refine v_getr hX (1) fk_X8_10 sh_0 rfl rfl dX8_type_30 (?_ : V X 33 [some (.ref 0), some (.int p1)] [.ref 1] μ)
        refine v_iload_n hX dX8_type_33 rfl (?_ : V X 34 [some (.ref 0), some (.int p1)] [.int p1, .ref 1] μ)
        refine v_callV hX sp_X6_add ck_X6_add mk_X8_87 mv_X6_add sh_1 (by decide) (by decide) [.int p1] [] rfl rfl (Nat.le_of_ble_eq_true rfl) dX8_type_34 ⟨p1, rfl, h.1, fun μ5 hp6 => (?_ : V X 37 [some (.ref 0), some (.int p1)] [] μ5)⟩
        replace h := h.2 μ5 hp6
        refine v_aload_n hX dX8_type_37 rfl (?_ : V X 38 [some (.ref 0), some (.int p1)] [.ref 0] μ5)
        refine v_getr hX (1) fk_X8_10 sh_0 rfl rfl dX8_type_38 (?_ : V X 41 [some (.ref 0), some (.int p1)] [.ref 1] μ5)
        refine v_geti hX fk_X8_84 sh_1 rfl dX8_type_41 (?_ : V X 44 [some (.ref 0), some (.int p1)] [.int (gi μ5 1 1)] μ5)
        exact v_iret hO dX8_type_44 (hR _ _ h)
      · replace h := h.2 c3
        refine v_bipush hX (-3) dX8_type_26 rfl (?_ : V X 28 [some (.ref 0), some (.int p1)] [.int ((-3))] μ)
        exact v_iret hO dX8_type_28 (hR _ _ h)
    · replace h := h.2 c2
      refine v_iconst hX (-1) dX8_type_11 rfl (?_ : V X 12 [some (.ref 0), some (.int p1)] [.int ((-1))] μ)
      exact v_iret hO dX8_type_12 (hR _ _ h)
set_option maxRecDepth 20000 in
set_option maxHeartbeats 4000000 in
theorem vp_X8_type_0 (p1 : Int32)  (μ : Mem) (hpre : pre_X8_type p1 μ) : vc_X8_type_0 p1 μ (post_X8_type p1 μ)  := by
  simp only [vc_X8_type_0, pre_X6_add, post_X6_add, and_imp, call_eq, forall_eq, forall_const, true_and, and_true]
  unfold pre_X8_type at hpre
  have hb := hpre.2
  unfold post_X8_type
  have h200 : gi μ 1 1 < 200 ↔ gn μ 1 1 < 200 := by
    rw [hpre.1, show (200 : Int32) = nI 200 from rfl, nI_ltI (by omega) (by omega)]
  rw [h200]
  refine ⟨fun c => ?_, fun c => ⟨fun c2 => ⟨fun c3 => ⟨⟨hpre.1, by omega⟩, ?_⟩, fun c3 => ?_⟩, fun c2 => ?_⟩⟩
  · rw [if_pos (Or.inl c)]; exact ⟨rfl, rfl⟩
  · rw [if_neg (by rintro (q | q); exact c q; exact absurd c2 (by simpa using q)), if_neg (by omega)]
    exact ⟨by simp [gi_ui], rfl⟩
  · rw [if_neg (by rintro (q | q); exact c q; exact absurd c2 (by simpa using q)), if_pos (by omega)]; exact ⟨rfl, rfl⟩
  · rw [if_pos (Or.inr (by simpa using c2))]; exact ⟨rfl, rfl⟩
theorem sp_X8_type : Sp yX8_type cX8_type 2 (some .int) 1 S_X8_type := by
  refine sp_of (by decide) (fun av μ P h => ?_) ?_
  · obtain ⟨p1, rfl, -⟩ := h
    refine ⟨Nat.le_of_ble_eq_true rfl, fun v hv => ?_⟩
    simp only [List.mem_cons, List.not_mem_nil, or_false] at hv
    rcases hv with rfl | rfl <;> rfl
  · rintro X P hO _ μ ⟨p1, rfl, hpre, hpost⟩ hn
    exact wk_X8_type_0 hO hn p1  μ hpost (vp_X8_type_0 p1  μ hpre)
def S_X9_type : Tr := fun av μ P => ∃ (p1 : Int32), av = [.ref 75, .int p1] ∧ pre_X9_type p1 μ ∧ ∀ (x : Int32) (m : Mem), post_X9_type p1 μ x m → P (some (.int x)) m
def vc_X9_type_0 (p1 : Int32)  (μ : Mem) (R : Int32 → Mem → Prop)  : Prop :=
  (∀ μ1, μ1 = ui μ 75 0 0 → (pre_X9_in p1 0 255 μ1 ∧ ∀ (x3 : Int32) (μ4 : Mem), post_X9_in p1 0 255 μ1 x3 μ4 → ((¬ x3 = 0 → ((¬ (gi μ4 75 3) = 200 → vp_in (gi μ4 75 3) 200 ∧ (∀ μ9, μ9 = ui μ4 76 (Int32.toNatClampNeg (gi μ4 75 3)) p1 → (∀ μ11, μ11 = ui μ9 75 3 ((gi μ9 75 3) + 1) → R (gi μ11 75 3) μ11))) ∧ ((gi μ4 75 3) = 200 → R ((-3)) μ4))) ∧ (x3 = 0 → R ((-1)) μ4))))
set_option maxRecDepth 20000 in
set_option maxHeartbeats 4000000 in
theorem wk_X9_type_0 {X : XT} {P : Post} (hO : OkM X cX9_type RX9 1 (some .int) P) (hn : xn X = 2) (p1 : Int32)   (μ : Mem) {R : Int32 → Mem → Prop} (hR : ∀ x m, R x m → P (some (.int x)) m)    (h : vc_X9_type_0 p1  μ R ) : V X 0 [some (.ref 75), some (.int p1)] [] μ := by
  have hX := hO.1
  unfold vc_X9_type_0 at h
  refine v_aload_n hX dX9_type_0 rfl (?_ : V X 1 [some (.ref 75), some (.int p1)] [.ref 75] μ)
  refine v_iconst hX 0 dX9_type_1 rfl (?_ : V X 2 [some (.ref 75), some (.int p1)] [.int 0, .ref 75] μ)
  refine w_puti hX fk_X9_74 fw_9_0 sh_75 rfl dX9_type_2 (fun μ1 e2 => (?_ : V X 5 [some (.ref 75), some (.int p1)] [] μ1))
  replace h := h μ1 e2
  refine v_iload_n hX dX9_type_5 rfl (?_ : V X 6 [some (.ref 75), some (.int p1)] [.int p1] μ1)
  refine v_iconst hX 0 dX9_type_6 rfl (?_ : V X 7 [some (.ref 75), some (.int p1)] [.int 0, .int p1] μ1)
  refine v_sipush hX 255 dX9_type_7 rfl (?_ : V X 10 [some (.ref 75), some (.int p1)] [.int 255, .int 0, .int p1] μ1)
  refine v_callS hX sp_X9_in ck_X9_in mk_X9_78 sk_X9_in (by decide) [.int p1, .int 0, .int 255] [] rfl rfl (Nat.le_of_ble_eq_true rfl) dX9_type_10 ⟨p1, 0, 255, rfl, h.1, fun x3 μ4 hp5 => (?_ : V X 13 [some (.ref 75), some (.int p1)] [.int x3] μ4)⟩
  replace h := h.2 x3 μ4 hp5
  refine v_if_ne hX 18 dX9_type_13 rfl (fun c6 => ?_) (fun c6 => ?_)
  · replace h := h.1 c6
    refine v_aload_n hX dX9_type_18 rfl (?_ : V X 19 [some (.ref 75), some (.int p1)] [.ref 75] μ4)
    refine v_geti hX fk_X9_82 sh_75 rfl dX9_type_19 (?_ : V X 22 [some (.ref 75), some (.int p1)] [.int (gi μ4 75 3)] μ4)
    refine v_sipush hX 200 dX9_type_22 rfl (?_ : V X 25 [some (.ref 75), some (.int p1)] [.int 200, .int (gi μ4 75 3)] μ4)
    refine v_icmp_ne hX 31 dX9_type_25 rfl (fun c7 => ?_) (fun c7 => ?_)
    · replace h := h.1 c7
      refine v_aload_n hX dX9_type_31 rfl (?_ : V X 32 [some (.ref 75), some (.int p1)] [.ref 75] μ4)
      refine v_getr hX (76) fk_X9_7 sh_75 rfl rfl dX9_type_32 (?_ : V X 35 [some (.ref 75), some (.int p1)] [.ref 76] μ4)
      refine v_aload_n hX dX9_type_35 rfl (?_ : V X 36 [some (.ref 75), some (.int p1)] [.ref 75, .ref 76] μ4)
      refine v_geti hX fk_X9_82 sh_75 rfl dX9_type_36 (?_ : V X 39 [some (.ref 75), some (.int p1)] [.int (gi μ4 75 3), .ref 76] μ4)
      refine v_iload_n hX dX9_type_39 rfl (?_ : V X 40 [some (.ref 75), some (.int p1)] [.int p1, .int (gi μ4 75 3), .ref 76] μ4)
      have hb8 := h.1
      replace h := h.2
      refine w_iast hX (Int32.toNatClampNeg (gi μ4 75 3)) sh_76 hb8 rfl dX9_type_40 (fun μ9 e10 => (?_ : V X 41 [some (.ref 75), some (.int p1)] [] μ9))
      replace h := h μ9 e10
      refine v_aload_n hX dX9_type_41 rfl (?_ : V X 42 [some (.ref 75), some (.int p1)] [.ref 75] μ9)
      refine v_dup hX dX9_type_42 rfl (?_ : V X 43 [some (.ref 75), some (.int p1)] [.ref 75, .ref 75] μ9)
      refine v_geti hX fk_X9_82 sh_75 rfl dX9_type_43 (?_ : V X 46 [some (.ref 75), some (.int p1)] [.int (gi μ9 75 3), .ref 75] μ9)
      refine v_iconst hX 1 dX9_type_46 rfl (?_ : V X 47 [some (.ref 75), some (.int p1)] [.int 1, .int (gi μ9 75 3), .ref 75] μ9)
      refine v_iadd hX dX9_type_47 (?_ : V X 48 [some (.ref 75), some (.int p1)] [.int ((gi μ9 75 3) + 1), .ref 75] μ9)
      refine w_puti hX fk_X9_82 fw_9_3 sh_75 rfl dX9_type_48 (fun μ11 e12 => (?_ : V X 51 [some (.ref 75), some (.int p1)] [] μ11))
      replace h := h μ11 e12
      refine v_aload_n hX dX9_type_51 rfl (?_ : V X 52 [some (.ref 75), some (.int p1)] [.ref 75] μ11)
      refine v_geti hX fk_X9_82 sh_75 rfl dX9_type_52 (?_ : V X 55 [some (.ref 75), some (.int p1)] [.int (gi μ11 75 3)] μ11)
      exact v_iret hO dX9_type_55 (hR _ _ h)
    · replace h := h.2 c7
      refine v_bipush hX (-3) dX9_type_28 rfl (?_ : V X 30 [some (.ref 75), some (.int p1)] [.int ((-3))] μ4)
      exact v_iret hO dX9_type_30 (hR _ _ h)
  · replace h := h.2 c6
    refine v_iconst hX (-1) dX9_type_16 rfl (?_ : V X 17 [some (.ref 75), some (.int p1)] [.int ((-1))] μ4)
    exact v_iret hO dX9_type_17 (hR _ _ h)
set_option maxRecDepth 20000 in
set_option maxHeartbeats 4000000 in
theorem vp_X9_type_0 (p1 : Int32)  (μ : Mem) (hpre : pre_X9_type p1 μ) : vc_X9_type_0 p1 μ (post_X9_type p1 μ)  := by
  simp only [vc_X9_type_0, pre_X9_in, post_X9_in, and_imp, call_eq, forall_eq, forall_const, true_and, and_true]
  unfold pre_X9_type at hpre
  have hb := hpre.2
  unfold post_X9_type
  have e3 : gi (ui μ 75 0 0) 75 3 = gi μ 75 3 := rfl
  rw [e3]
  have h200 : gi μ 75 3 = 200 ↔ gn μ 75 3 = 200 := by
    rw [← nI_eq (a := gn μ 75 3) (b := 200) (by omega) (by omega), ← hpre.1]; rfl
  rw [h200]
  by_cases c : p1 < 0 ∨ 255 < p1
  · simp only [if_pos c]; simp
  · simp only [if_neg c]
    refine ⟨fun _ => ⟨fun c2 => ⟨isN_in hpre (by omega) (by omega), ?_⟩, fun c2 => ?_⟩, fun q => absurd q (by decide)⟩
    · rw [if_neg c2]; exact ⟨by simp [gi_ui], by simp [gi_ui, gn]⟩
    · simp [c2]
theorem sp_X9_type : Sp yX9_type cX9_type 2 (some .int) 1 S_X9_type := by
  refine sp_of (by decide) (fun av μ P h => ?_) ?_
  · obtain ⟨p1, rfl, -⟩ := h
    refine ⟨Nat.le_of_ble_eq_true rfl, fun v hv => ?_⟩
    simp only [List.mem_cons, List.not_mem_nil, or_false] at hv
    rcases hv with rfl | rfl <;> rfl
  · rintro X P hO _ μ ⟨p1, rfl, hpre, hpost⟩ hn
    exact wk_X9_type_0 hO hn p1  μ hpost (vp_X9_type_0 p1  μ hpre)
def S_X8_clear : Tr := fun av μ P => av = [.ref 0] ∧ pre_X8_clear  μ ∧ ∀ (x : Int32) (m : Mem), post_X8_clear  μ x m → P (some (.int x)) m
def vc_X8_clear_0   (μ : Mem) (R : Int32 → Mem → Prop)  : Prop :=
  (∀ μ1, μ1 = ui μ 1 1 0 → R (gi μ 1 1) μ1)
set_option maxRecDepth 20000 in
set_option maxHeartbeats 4000000 in
theorem wk_X8_clear_0 {X : XT} {P : Post} (hO : OkM X cX8_clear RX8 0 (some .int) P) (hn : xn X = 2)    (μ : Mem) {R : Int32 → Mem → Prop} (hR : ∀ x m, R x m → P (some (.int x)) m)    (h : vc_X8_clear_0   μ R ) : V X 0 [some (.ref 0), none] [] μ := by
  have hX := hO.1
  unfold vc_X8_clear_0 at h
  refine v_aload_n hX dX8_clear_0 rfl (?_ : V X 1 [some (.ref 0), none] [.ref 0] μ)
  refine v_getr hX (1) fk_X8_10 sh_0 rfl rfl dX8_clear_1 (?_ : V X 4 [some (.ref 0), none] [.ref 1] μ)
  refine v_geti hX fk_X8_84 sh_1 rfl dX8_clear_4 (?_ : V X 7 [some (.ref 0), none] [.int (gi μ 1 1)] μ)
  refine v_istore_n hX dX8_clear_7 (by rw [hn]; decide) (?_ : V X 8 [some (.ref 0), some (.int (gi μ 1 1))] [] μ)
  refine v_aload_n hX dX8_clear_8 rfl (?_ : V X 9 [some (.ref 0), some (.int (gi μ 1 1))] [.ref 0] μ)
  refine v_getr hX (1) fk_X8_10 sh_0 rfl rfl dX8_clear_9 (?_ : V X 12 [some (.ref 0), some (.int (gi μ 1 1))] [.ref 1] μ)
  refine v_iconst hX 0 dX8_clear_12 rfl (?_ : V X 13 [some (.ref 0), some (.int (gi μ 1 1))] [.int 0, .ref 1] μ)
  refine w_puti hX fk_X8_84 fw_6_1 sh_1 rfl dX8_clear_13 (fun μ1 e2 => (?_ : V X 16 [some (.ref 0), some (.int (gi μ 1 1))] [] μ1))
  replace h := h μ1 e2
  refine v_iload_n hX dX8_clear_16 rfl (?_ : V X 17 [some (.ref 0), some (.int (gi μ 1 1))] [.int (gi μ 1 1)] μ1)
  exact v_iret hO dX8_clear_17 (hR _ _ h)
set_option maxRecDepth 20000 in
set_option maxHeartbeats 4000000 in
theorem vp_X8_clear_0   (μ : Mem) (hpre : pre_X8_clear  μ) : vc_X8_clear_0  μ (post_X8_clear  μ)  := by
  simp only [vc_X8_clear_0, and_imp, call_eq, forall_eq, forall_const, true_and, and_true]
  exact ⟨rfl, rfl⟩
theorem sp_X8_clear : Sp yX8_clear cX8_clear 2 (some .int) 0 S_X8_clear := by
  refine sp_of (by decide) (fun av μ P h => ?_) ?_
  · obtain ⟨rfl, -⟩ := h
    refine ⟨Nat.le_of_ble_eq_true rfl, fun v hv => ?_⟩
    simp only [List.mem_cons, List.not_mem_nil, or_false] at hv
    subst hv; rfl
  · rintro X P hO _ μ ⟨rfl, hpre, hpost⟩ hn
    exact wk_X8_clear_0 hO hn   μ hpost (vp_X8_clear_0   μ hpre)
def S_X9_clear : Tr := fun av μ P => av = [.ref 75] ∧ pre_X9_clear  μ ∧ ∀ (x : Int32) (m : Mem), post_X9_clear  μ x m → P (some (.int x)) m
def vc_X9_clear_0   (μ : Mem) (R : Int32 → Mem → Prop)  : Prop :=
  (∀ μ1, μ1 = ui μ 75 0 0 → (∀ μ3, μ3 = ui μ1 75 3 0 → R (gi μ1 75 3) μ3))
set_option maxRecDepth 20000 in
set_option maxHeartbeats 4000000 in
theorem wk_X9_clear_0 {X : XT} {P : Post} (hO : OkM X cX9_clear RX9 0 (some .int) P) (hn : xn X = 2)    (μ : Mem) {R : Int32 → Mem → Prop} (hR : ∀ x m, R x m → P (some (.int x)) m)    (h : vc_X9_clear_0   μ R ) : V X 0 [some (.ref 75), none] [] μ := by
  have hX := hO.1
  unfold vc_X9_clear_0 at h
  refine v_aload_n hX dX9_clear_0 rfl (?_ : V X 1 [some (.ref 75), none] [.ref 75] μ)
  refine v_iconst hX 0 dX9_clear_1 rfl (?_ : V X 2 [some (.ref 75), none] [.int 0, .ref 75] μ)
  refine w_puti hX fk_X9_74 fw_9_0 sh_75 rfl dX9_clear_2 (fun μ1 e2 => (?_ : V X 5 [some (.ref 75), none] [] μ1))
  replace h := h μ1 e2
  refine v_aload_n hX dX9_clear_5 rfl (?_ : V X 6 [some (.ref 75), none] [.ref 75] μ1)
  refine v_geti hX fk_X9_82 sh_75 rfl dX9_clear_6 (?_ : V X 9 [some (.ref 75), none] [.int (gi μ1 75 3)] μ1)
  refine v_istore_n hX dX9_clear_9 (by rw [hn]; decide) (?_ : V X 10 [some (.ref 75), some (.int (gi μ1 75 3))] [] μ1)
  refine v_aload_n hX dX9_clear_10 rfl (?_ : V X 11 [some (.ref 75), some (.int (gi μ1 75 3))] [.ref 75] μ1)
  refine v_iconst hX 0 dX9_clear_11 rfl (?_ : V X 12 [some (.ref 75), some (.int (gi μ1 75 3))] [.int 0, .ref 75] μ1)
  refine w_puti hX fk_X9_82 fw_9_3 sh_75 rfl dX9_clear_12 (fun μ3 e4 => (?_ : V X 15 [some (.ref 75), some (.int (gi μ1 75 3))] [] μ3))
  replace h := h μ3 e4
  refine v_iload_n hX dX9_clear_15 rfl (?_ : V X 16 [some (.ref 75), some (.int (gi μ1 75 3))] [.int (gi μ1 75 3)] μ3)
  exact v_iret hO dX9_clear_16 (hR _ _ h)
set_option maxRecDepth 20000 in
set_option maxHeartbeats 4000000 in
theorem vp_X9_clear_0   (μ : Mem) (hpre : pre_X9_clear  μ) : vc_X9_clear_0  μ (post_X9_clear  μ)  := by
  simp only [vc_X9_clear_0, and_imp, call_eq, forall_eq, forall_const, true_and, and_true]
  exact ⟨rfl, rfl⟩
theorem sp_X9_clear : Sp yX9_clear cX9_clear 2 (some .int) 0 S_X9_clear := by
  refine sp_of (by decide) (fun av μ P h => ?_) ?_
  · obtain ⟨rfl, -⟩ := h
    refine ⟨Nat.le_of_ble_eq_true rfl, fun v hv => ?_⟩
    simp only [List.mem_cons, List.not_mem_nil, or_false] at hv
    subst hv; rfl
  · rintro X P hO _ μ ⟨rfl, hpre, hpost⟩ hn
    exact wk_X9_clear_0 hO hn   μ hpost (vp_X9_clear_0   μ hpre)
def S_X8_room : Tr := fun av μ P => ∃ (p1 : Int32) (p2 : Int32), av = [.ref 0, .int p1, .int p2] ∧ pre_X8_room p1 p2 μ ∧ ∀ (x : Int32) (m : Mem), post_X8_room p1 p2 μ x m → P (some (.int x)) m
def vc_X8_room_0 (p1 : Int32) (p2 : Int32)  (μ : Mem) (R : Int32 → Mem → Prop)  : Prop :=
  ((gp μ 1) = 3 ∨ (gp μ 1) = 10) ∧ (pre_X2_hasRoom ((gp μ 1)) p1 μ ∧ ∀ (x2 : Int32) (μ3 : Mem), post_X2_hasRoom ((gp μ 1)) p1 μ x2 μ3 → ((¬ x2 = 0 → ((p2 = 0 → vp_in p1 5 ∧ R (gi μ3 18 (Int32.toNatClampNeg p1)) μ3) ∧ (¬ p2 = 0 → ((p2 = 1 → ((gp μ3 1) = 3 ∨ (gp μ3 1) = 10) ∧ vp_in p1 5 ∧ R (gi μ3 (((gp μ3 1)) + 2) (Int32.toNatClampNeg p1)) μ3) ∧ (¬ p2 = 1 → ((p2 = 2 → ((gp μ3 1) = 3 ∨ (gp μ3 1) = 10) ∧ vp_in p1 5 ∧ R (gi μ3 (((gp μ3 1)) + 3) (Int32.toNatClampNeg p1)) μ3) ∧ (¬ p2 = 2 → ((p2 = 3 → (pre_X7_isSolved p1 μ3 ∧ ∀ (x15 : Int32) (μ16 : Mem), post_X7_isSolved p1 μ3 x15 μ16 → ((x15 = 0 → R 0 μ16) ∧ (¬ x15 = 0 → R 1 μ16)))) ∧ (¬ p2 = 3 → ((p2 = 4 → vp_in p1 5 ∧ R (gi μ3 19 (Int32.toNatClampNeg p1)) μ3) ∧ (¬ p2 = 4 → R ((-1000000)) μ3))))))))))) ∧ (x2 = 0 → R ((-1000000)) μ3)))
set_option maxRecDepth 20000 in
set_option maxHeartbeats 4000000 in
theorem wk_X8_room_0 {X : XT} {P : Post} (hO : OkM X cX8_room RX8 1 (some .int) P) (hn : xn X = 3) (p1 : Int32) (p2 : Int32)   (μ : Mem) {R : Int32 → Mem → Prop} (hR : ∀ x m, R x m → P (some (.int x)) m)    (h : vc_X8_room_0 p1 p2  μ R ) : V X 0 [some (.ref 0), some (.int p1), some (.int p2)] [] μ := by
  have hX := hO.1
  unfold vc_X8_room_0 at h
  refine v_aload_n hX dX8_room_0 rfl (?_ : V X 1 [some (.ref 0), some (.int p1), some (.int p2)] [.ref 0] μ)
  have hh1 := h.1
  replace h := h.2
  refine v_getp hX (gp μ 1) fk_X8_19 sh_0 rfl rfl dX8_room_1 (?_ : V X 4 [some (.ref 0), some (.int p1), some (.int p2)] [.ref ((gp μ 1))] μ)
  refine v_iload_n hX dX8_room_4 rfl (?_ : V X 5 [some (.ref 0), some (.int p1), some (.int p2)] [.int p1, .ref ((gp μ 1))] μ)
  refine v_callV hX sp_X2_hasRoom ck_X2_hasRoom mk_X8_108 mv_X2_hasRoom (sHo hh1) (by decide) (by decide) [.int p1] [] rfl rfl (Nat.le_of_ble_eq_true rfl) dX8_room_5 ⟨((gp μ 1)), p1, rfl, hh1, h.1, fun x2 μ3 hp4 => (?_ : V X 8 [some (.ref 0), some (.int p1), some (.int p2)] [.int x2] μ3)⟩
  replace h := h.2 x2 μ3 hp4
  refine v_if_ne hX 14 dX8_room_8 rfl (fun c5 => ?_) (fun c5 => ?_)
  · replace h := h.1 c5
    refine v_iload_n hX dX8_room_14 rfl (?_ : V X 15 [some (.ref 0), some (.int p1), some (.int p2)] [.int p2] μ3)
    by_cases c6 : p2 = 0
    · replace h := h.1 c6
      refine v_tableIn hX 48 dX8_room_15 (by rw [c6]; decide) (by rw [c6]; decide) (o := 33) (by rw [c6]; decide) rfl (?_ : V X 48 [some (.ref 0), some (.int p1), some (.int p2)] [] μ3)
      refine v_aload_n hX dX8_room_48 rfl (?_ : V X 49 [some (.ref 0), some (.int p1), some (.int p2)] [.ref 0] μ3)
      refine v_getr hX (17) fk_X8_29 sh_0 rfl rfl dX8_room_49 (?_ : V X 52 [some (.ref 0), some (.int p1), some (.int p2)] [.ref 17] μ3)
      refine v_getr hX (18) fk_X8_113 sh_17 rfl rfl dX8_room_52 (?_ : V X 55 [some (.ref 0), some (.int p1), some (.int p2)] [.ref 18] μ3)
      refine v_iload_n hX dX8_room_55 rfl (?_ : V X 56 [some (.ref 0), some (.int p1), some (.int p2)] [.int p1, .ref 18] μ3)
      have hb7 := h.1
      replace h := h.2
      refine w_iald hX (Int32.toNatClampNeg p1) sh_18 hb7 rfl dX8_room_56 (?_ : V X 57 [some (.ref 0), some (.int p1), some (.int p2)] [.int (gi μ3 18 (Int32.toNatClampNeg p1))] μ3)
      exact v_iret hO dX8_room_57 (hR _ _ h)
    · replace h := h.2 c6
      by_cases c8 : p2 = 1
      · replace h := h.1 c8
        refine v_tableIn hX 58 dX8_room_15 (by rw [c8]; decide) (by rw [c8]; decide) (o := 43) (by rw [c8]; decide) rfl (?_ : V X 58 [some (.ref 0), some (.int p1), some (.int p2)] [] μ3)
        refine v_aload_n hX dX8_room_58 rfl (?_ : V X 59 [some (.ref 0), some (.int p1), some (.int p2)] [.ref 0] μ3)
        have hh9 := h.1
        replace h := h.2
        refine v_getp hX (gp μ3 1) fk_X8_19 sh_0 rfl rfl dX8_room_59 (?_ : V X 62 [some (.ref 0), some (.int p1), some (.int p2)] [.ref ((gp μ3 1))] μ3)
        refine v_getr hX (((gp μ3 1)) + 2) fk_X8_116 (sHo hh9) rfl rfl dX8_room_62 (?_ : V X 65 [some (.ref 0), some (.int p1), some (.int p2)] [.ref (((gp μ3 1)) + 2)] μ3)
        refine v_iload_n hX dX8_room_65 rfl (?_ : V X 66 [some (.ref 0), some (.int p1), some (.int p2)] [.int p1, .ref (((gp μ3 1)) + 2)] μ3)
        have hb10 := h.1
        replace h := h.2
        refine w_iald hX (Int32.toNatClampNeg p1) (sH2 hh9) hb10 rfl dX8_room_66 (?_ : V X 67 [some (.ref 0), some (.int p1), some (.int p2)] [.int (gi μ3 (((gp μ3 1)) + 2) (Int32.toNatClampNeg p1))] μ3)
        exact v_iret hO dX8_room_67 (hR _ _ h)
      · replace h := h.2 c8
        by_cases c11 : p2 = 2
        · replace h := h.1 c11
          refine v_tableIn hX 68 dX8_room_15 (by rw [c11]; decide) (by rw [c11]; decide) (o := 53) (by rw [c11]; decide) rfl (?_ : V X 68 [some (.ref 0), some (.int p1), some (.int p2)] [] μ3)
          refine v_aload_n hX dX8_room_68 rfl (?_ : V X 69 [some (.ref 0), some (.int p1), some (.int p2)] [.ref 0] μ3)
          have hh12 := h.1
          replace h := h.2
          refine v_getp hX (gp μ3 1) fk_X8_19 sh_0 rfl rfl dX8_room_69 (?_ : V X 72 [some (.ref 0), some (.int p1), some (.int p2)] [.ref ((gp μ3 1))] μ3)
          refine v_getr hX (((gp μ3 1)) + 3) fk_X8_119 (sHo hh12) rfl rfl dX8_room_72 (?_ : V X 75 [some (.ref 0), some (.int p1), some (.int p2)] [.ref (((gp μ3 1)) + 3)] μ3)
          refine v_iload_n hX dX8_room_75 rfl (?_ : V X 76 [some (.ref 0), some (.int p1), some (.int p2)] [.int p1, .ref (((gp μ3 1)) + 3)] μ3)
          have hb13 := h.1
          replace h := h.2
          refine w_iald hX (Int32.toNatClampNeg p1) (sH3 hh12) hb13 rfl dX8_room_76 (?_ : V X 77 [some (.ref 0), some (.int p1), some (.int p2)] [.int (gi μ3 (((gp μ3 1)) + 3) (Int32.toNatClampNeg p1))] μ3)
          exact v_iret hO dX8_room_77 (hR _ _ h)
        · replace h := h.2 c11
          by_cases c14 : p2 = 3
          · replace h := h.1 c14
            refine v_tableIn hX 78 dX8_room_15 (by rw [c14]; decide) (by rw [c14]; decide) (o := 63) (by rw [c14]; decide) rfl (?_ : V X 78 [some (.ref 0), some (.int p1), some (.int p2)] [] μ3)
            refine v_aload_n hX dX8_room_78 rfl (?_ : V X 79 [some (.ref 0), some (.int p1), some (.int p2)] [.ref 0] μ3)
            refine v_getr hX (17) fk_X8_29 sh_0 rfl rfl dX8_room_79 (?_ : V X 82 [some (.ref 0), some (.int p1), some (.int p2)] [.ref 17] μ3)
            refine v_iload_n hX dX8_room_82 rfl (?_ : V X 83 [some (.ref 0), some (.int p1), some (.int p2)] [.int p1, .ref 17] μ3)
            refine v_callV hX sp_X7_isSolved ck_X7_isSolved mk_X8_122 mv_X7_isSolved sh_17 (by decide) (by decide) [.int p1] [] rfl rfl (Nat.le_of_ble_eq_true rfl) dX8_room_83 ⟨p1, rfl, h.1, fun x15 μ16 hp17 => (?_ : V X 86 [some (.ref 0), some (.int p1), some (.int p2)] [.int x15] μ16)⟩
            replace h := h.2 x15 μ16 hp17
            refine v_if_eq hX 93 dX8_room_86 rfl (fun c18 => ?_) (fun c18 => ?_)
            · replace h := h.1 c18
              refine v_iconst hX 0 dX8_room_93 rfl (?_ : V X 94 [some (.ref 0), some (.int p1), some (.int p2)] [.int 0] μ16)
              exact v_iret hO dX8_room_94 (hR _ _ h)
            · replace h := h.2 c18
              refine v_iconst hX 1 dX8_room_89 rfl (?_ : V X 90 [some (.ref 0), some (.int p1), some (.int p2)] [.int 1] μ16)
              refine v_goto hX 94 dX8_room_90 rfl (?_ : V X 94 [some (.ref 0), some (.int p1), some (.int p2)] [.int 1] μ16)
              exact v_iret hO dX8_room_94 (hR _ _ h)
          · replace h := h.2 c14
            by_cases c19 : p2 = 4
            · replace h := h.1 c19
              refine v_tableIn hX 95 dX8_room_15 (by rw [c19]; decide) (by rw [c19]; decide) (o := 80) (by rw [c19]; decide) rfl (?_ : V X 95 [some (.ref 0), some (.int p1), some (.int p2)] [] μ3)
              refine v_aload_n hX dX8_room_95 rfl (?_ : V X 96 [some (.ref 0), some (.int p1), some (.int p2)] [.ref 0] μ3)
              refine v_getr hX (17) fk_X8_29 sh_0 rfl rfl dX8_room_96 (?_ : V X 99 [some (.ref 0), some (.int p1), some (.int p2)] [.ref 17] μ3)
              refine v_getr hX (19) fk_X8_125 sh_17 rfl rfl dX8_room_99 (?_ : V X 102 [some (.ref 0), some (.int p1), some (.int p2)] [.ref 19] μ3)
              refine v_iload_n hX dX8_room_102 rfl (?_ : V X 103 [some (.ref 0), some (.int p1), some (.int p2)] [.int p1, .ref 19] μ3)
              have hb20 := h.1
              replace h := h.2
              refine w_iald hX (Int32.toNatClampNeg p1) sh_19 hb20 rfl dX8_room_103 (?_ : V X 104 [some (.ref 0), some (.int p1), some (.int p2)] [.int (gi μ3 19 (Int32.toNatClampNeg p1))] μ3)
              exact v_iret hO dX8_room_104 (hR _ _ h)
            · replace h := h.2 c19
              refine v_tableOut hX 105 dX8_room_15 (by have t0 := lv_neT (a := 0) c6 rfl; have t1 := lv_neT (a := 1) c8 rfl; have t2 := lv_neT (a := 2) c11 rfl; have t3 := lv_neT (a := 3) c14 rfl; have t4 := lv_neT (a := 4) c19 rfl; omega) rfl (?_ : V X 105 [some (.ref 0), some (.int p1), some (.int p2)] [] μ3)
              refine v_ldc hX (-1000000) dX8_room_105 kk_X8_112 (?_ : V X 107 [some (.ref 0), some (.int p1), some (.int p2)] [.int ((-1000000))] μ3)
              exact v_iret hO dX8_room_107 (hR _ _ h)
  · replace h := h.2 c5
    refine v_ldc hX (-1000000) dX8_room_11 kk_X8_112 (?_ : V X 13 [some (.ref 0), some (.int p1), some (.int p2)] [.int ((-1000000))] μ3)
    exact v_iret hO dX8_room_13 (hR _ _ h)
set_option maxRecDepth 20000 in
set_option maxHeartbeats 4000000 in
theorem vp_X8_room_0 (p1 : Int32) (p2 : Int32)  (μ : Mem) (hpre : pre_X8_room p1 p2 μ) : vc_X8_room_0 p1 p2 μ (post_X8_room p1 p2 μ)  := by
  simp only [vc_X8_room_0, pre_X2_hasRoom, pre_X7_isSolved, post_X2_hasRoom, post_X7_isSolved, and_imp, call_eq, forall_eq, forall_const, true_and, and_true]
  obtain ⟨hw, hR⟩ := hpre
  refine ⟨hw, ?_⟩
  unfold post_X8_room roomA slvI
  by_cases c : p1 < 0 ∨ gi μ (gp μ 1) 0 ≤ p1
  · simp only [if_pos c]; simp
  · have hin := ix_in (N := 5) hR (by omega) (by omega) (by omega) c
    simp only [if_neg c]
    unfold hsOK at hw
    refine ⟨fun _ => ?_, fun q => absurd q (by decide)⟩
    grind (splits := 40)
theorem sp_X8_room : Sp yX8_room cX8_room 3 (some .int) 1 S_X8_room := by
  refine sp_of (by decide) (fun av μ P h => ?_) ?_
  · obtain ⟨p1, p2, rfl, -⟩ := h
    refine ⟨Nat.le_of_ble_eq_true rfl, fun v hv => ?_⟩
    simp only [List.mem_cons, List.not_mem_nil, or_false] at hv
    rcases hv with rfl | rfl | rfl <;> rfl
  · rintro X P hO _ μ ⟨p1, p2, rfl, hpre, hpost⟩ hn
    exact wk_X8_room_0 hO hn p1 p2  μ hpost (vp_X8_room_0 p1 p2  μ hpre)
def S_X9_room : Tr := fun av μ P => ∃ (p1 : Int32) (p2 : Int32), av = [.ref 75, .int p1, .int p2] ∧ pre_X9_room p1 p2 μ ∧ ∀ (x : Int32) (m : Mem), post_X9_room p1 p2 μ x m → P (some (.int x)) m
def vc_X9_room_0 (p1 : Int32) (p2 : Int32)  (μ : Mem) (R : Int32 → Mem → Prop)  : Prop :=
  (∀ μ1, μ1 = ui μ 75 0 0 → (pre_X9_isRoom p1 μ1 ∧ ∀ (x3 : Int32) (μ4 : Mem), post_X9_isRoom p1 μ1 x3 μ4 → ((x3 = 0 → R ((-1000000)) μ4) ∧ (¬ x3 = 0 → (pre_X9_in p2 0 4 μ4 ∧ ∀ (x7 : Int32) (μ8 : Mem), post_X9_in p2 0 4 μ4 x7 μ8 → ((¬ x7 = 0 → ((3 ≤ p2 → ((¬ p2 = 3 → vp_in (10 + p1) 15 ∧ ((¬ (gi μ8 84 (Int32.toNatClampNeg (10 + p1))) = 0 → vp_in (10 + p1) 15 ∧ R ((gi μ8 84 (Int32.toNatClampNeg (10 + p1))) - 1) μ8) ∧ ((gi μ8 84 (Int32.toNatClampNeg (10 + p1))) = 0 → R ((-9)) μ8))) ∧ (p2 = 3 → (pre_X9_isSolved p1 μ8 ∧ ∀ (x16 : Int32) (μ17 : Mem), post_X9_isSolved p1 μ8 x16 μ17 → ((x16 = 0 → R 0 μ17) ∧ (¬ x16 = 0 → R 1 μ17)))))) ∧ (¬ 3 ≤ p2 → ((¬ p2 = 0 → ((¬ p2 = 1 → vp_in p1 10 ∧ R (gi μ8 80 (Int32.toNatClampNeg p1)) μ8) ∧ (p2 = 1 → vp_in p1 10 ∧ R (gi μ8 79 (Int32.toNatClampNeg p1)) μ8))) ∧ (p2 = 0 → vp_in (5 + p1) 15 ∧ R (gi μ8 84 (Int32.toNatClampNeg (5 + p1))) μ8))))) ∧ (x7 = 0 → R ((-1000000)) μ8)))))))
set_option maxRecDepth 20000 in
set_option maxHeartbeats 4000000 in
theorem wk_X9_room_0 {X : XT} {P : Post} (hO : OkM X cX9_room RX9 2 (some .int) P) (hn : xn X = 3) (p1 : Int32) (p2 : Int32)   (μ : Mem) {R : Int32 → Mem → Prop} (hR : ∀ x m, R x m → P (some (.int x)) m)    (h : vc_X9_room_0 p1 p2  μ R ) : V X 0 [some (.ref 75), some (.int p1), some (.int p2)] [] μ := by
  have hX := hO.1
  unfold vc_X9_room_0 at h
  refine v_aload_n hX dX9_room_0 rfl (?_ : V X 1 [some (.ref 75), some (.int p1), some (.int p2)] [.ref 75] μ)
  refine v_iconst hX 0 dX9_room_1 rfl (?_ : V X 2 [some (.ref 75), some (.int p1), some (.int p2)] [.int 0, .ref 75] μ)
  refine w_puti hX fk_X9_74 fw_9_0 sh_75 rfl dX9_room_2 (fun μ1 e2 => (?_ : V X 5 [some (.ref 75), some (.int p1), some (.int p2)] [] μ1))
  replace h := h μ1 e2
  refine v_aload_n hX dX9_room_5 rfl (?_ : V X 6 [some (.ref 75), some (.int p1), some (.int p2)] [.ref 75] μ1)
  refine v_iload_n hX dX9_room_6 rfl (?_ : V X 7 [some (.ref 75), some (.int p1), some (.int p2)] [.int p1, .ref 75] μ1)
  refine v_callV hX sp_X9_isRoom ck_X9_isRoom mk_X9_142 mv_X9_isRoom sh_75 (by decide) (by decide) [.int p1] [] rfl rfl (Nat.le_of_ble_eq_true rfl) dX9_room_7 ⟨p1, rfl, h.1, fun x3 μ4 hp5 => (?_ : V X 10 [some (.ref 75), some (.int p1), some (.int p2)] [.int x3] μ4)⟩
  replace h := h.2 x3 μ4 hp5
  refine v_if_eq hX 22 dX9_room_10 rfl (fun c6 => ?_) (fun c6 => ?_)
  · replace h := h.1 c6
    refine v_ldc hX (-1000000) dX9_room_22 kk_X9_145 (?_ : V X 24 [some (.ref 75), some (.int p1), some (.int p2)] [.int ((-1000000))] μ4)
    exact v_iret hO dX9_room_24 (hR _ _ h)
  · replace h := h.2 c6
    refine v_iload_n hX dX9_room_13 rfl (?_ : V X 14 [some (.ref 75), some (.int p1), some (.int p2)] [.int p2] μ4)
    refine v_iconst hX 0 dX9_room_14 rfl (?_ : V X 15 [some (.ref 75), some (.int p1), some (.int p2)] [.int 0, .int p2] μ4)
    refine v_iconst hX 4 dX9_room_15 rfl (?_ : V X 16 [some (.ref 75), some (.int p1), some (.int p2)] [.int 4, .int 0, .int p2] μ4)
    refine v_callS hX sp_X9_in ck_X9_in mk_X9_78 sk_X9_in (by decide) [.int p2, .int 0, .int 4] [] rfl rfl (Nat.le_of_ble_eq_true rfl) dX9_room_16 ⟨p2, 0, 4, rfl, h.1, fun x7 μ8 hp9 => (?_ : V X 19 [some (.ref 75), some (.int p1), some (.int p2)] [.int x7] μ8)⟩
    replace h := h.2 x7 μ8 hp9
    refine v_if_ne hX 25 dX9_room_19 rfl (fun c10 => ?_) (fun c10 => ?_)
    · replace h := h.1 c10
      refine v_iload_n hX dX9_room_25 rfl (?_ : V X 26 [some (.ref 75), some (.int p1), some (.int p2)] [.int p2] μ8)
      refine v_iconst hX 3 dX9_room_26 rfl (?_ : V X 27 [some (.ref 75), some (.int p1), some (.int p2)] [.int 3, .int p2] μ8)
      refine v_icmp_ge hX 66 dX9_room_27 rfl (fun c11 => ?_) (fun c11 => ?_)
      · replace h := h.1 c11
        refine v_iload_n hX dX9_room_66 rfl (?_ : V X 67 [some (.ref 75), some (.int p1), some (.int p2)] [.int p2] μ8)
        refine v_iconst hX 3 dX9_room_67 rfl (?_ : V X 68 [some (.ref 75), some (.int p1), some (.int p2)] [.int 3, .int p2] μ8)
        refine v_icmp_ne hX 87 dX9_room_68 rfl (fun c12 => ?_) (fun c12 => ?_)
        · replace h := h.1 c12
          refine v_aload_n hX dX9_room_87 rfl (?_ : V X 88 [some (.ref 75), some (.int p1), some (.int p2)] [.ref 75] μ8)
          refine v_getr hX (84) fk_X9_34 sh_75 rfl rfl dX9_room_88 (?_ : V X 91 [some (.ref 75), some (.int p1), some (.int p2)] [.ref 84] μ8)
          refine v_bipush hX 10 dX9_room_91 rfl (?_ : V X 93 [some (.ref 75), some (.int p1), some (.int p2)] [.int 10, .ref 84] μ8)
          refine v_iload_n hX dX9_room_93 rfl (?_ : V X 94 [some (.ref 75), some (.int p1), some (.int p2)] [.int p1, .int 10, .ref 84] μ8)
          refine v_iadd hX dX9_room_94 (?_ : V X 95 [some (.ref 75), some (.int p1), some (.int p2)] [.int (10 + p1), .ref 84] μ8)
          have hb13 := h.1
          replace h := h.2
          refine w_iald hX (Int32.toNatClampNeg (10 + p1)) sh_84 hb13 rfl dX9_room_95 (?_ : V X 96 [some (.ref 75), some (.int p1), some (.int p2)] [.int (gi μ8 84 (Int32.toNatClampNeg (10 + p1)))] μ8)
          refine v_if_ne hX 104 dX9_room_96 rfl (fun c14 => ?_) (fun c14 => ?_)
          · replace h := h.1 c14
            refine v_aload_n hX dX9_room_104 rfl (?_ : V X 105 [some (.ref 75), some (.int p1), some (.int p2)] [.ref 75] μ8)
            refine v_getr hX (84) fk_X9_34 sh_75 rfl rfl dX9_room_105 (?_ : V X 108 [some (.ref 75), some (.int p1), some (.int p2)] [.ref 84] μ8)
            refine v_bipush hX 10 dX9_room_108 rfl (?_ : V X 110 [some (.ref 75), some (.int p1), some (.int p2)] [.int 10, .ref 84] μ8)
            refine v_iload_n hX dX9_room_110 rfl (?_ : V X 111 [some (.ref 75), some (.int p1), some (.int p2)] [.int p1, .int 10, .ref 84] μ8)
            refine v_iadd hX dX9_room_111 (?_ : V X 112 [some (.ref 75), some (.int p1), some (.int p2)] [.int (10 + p1), .ref 84] μ8)
            have hb15 := h.1
            replace h := h.2
            refine w_iald hX (Int32.toNatClampNeg (10 + p1)) sh_84 hb15 rfl dX9_room_112 (?_ : V X 113 [some (.ref 75), some (.int p1), some (.int p2)] [.int (gi μ8 84 (Int32.toNatClampNeg (10 + p1)))] μ8)
            refine v_iconst hX 1 dX9_room_113 rfl (?_ : V X 114 [some (.ref 75), some (.int p1), some (.int p2)] [.int 1, .int (gi μ8 84 (Int32.toNatClampNeg (10 + p1)))] μ8)
            refine v_isub hX dX9_room_114 (?_ : V X 115 [some (.ref 75), some (.int p1), some (.int p2)] [.int ((gi μ8 84 (Int32.toNatClampNeg (10 + p1))) - 1)] μ8)
            exact v_iret hO dX9_room_115 (hR _ _ h)
          · replace h := h.2 c14
            refine v_bipush hX (-9) dX9_room_99 rfl (?_ : V X 101 [some (.ref 75), some (.int p1), some (.int p2)] [.int ((-9))] μ8)
            refine v_goto hX 115 dX9_room_101 rfl (?_ : V X 115 [some (.ref 75), some (.int p1), some (.int p2)] [.int ((-9))] μ8)
            exact v_iret hO dX9_room_115 (hR _ _ h)
        · replace h := h.2 c12
          refine v_aload_n hX dX9_room_71 rfl (?_ : V X 72 [some (.ref 75), some (.int p1), some (.int p2)] [.ref 75] μ8)
          refine v_iload_n hX dX9_room_72 rfl (?_ : V X 73 [some (.ref 75), some (.int p1), some (.int p2)] [.int p1, .ref 75] μ8)
          refine v_callV hX sp_X9_isSolved ck_X9_isSolved mk_X9_146 mv_X9_isSolved sh_75 (by decide) (by decide) [.int p1] [] rfl rfl (Nat.le_of_ble_eq_true rfl) dX9_room_73 ⟨p1, rfl, h.1, fun x16 μ17 hp18 => (?_ : V X 76 [some (.ref 75), some (.int p1), some (.int p2)] [.int x16] μ17)⟩
          replace h := h.2 x16 μ17 hp18
          refine v_if_eq hX 83 dX9_room_76 rfl (fun c19 => ?_) (fun c19 => ?_)
          · replace h := h.1 c19
            refine v_iconst hX 0 dX9_room_83 rfl (?_ : V X 84 [some (.ref 75), some (.int p1), some (.int p2)] [.int 0] μ17)
            refine v_goto hX 115 dX9_room_84 rfl (?_ : V X 115 [some (.ref 75), some (.int p1), some (.int p2)] [.int 0] μ17)
            exact v_iret hO dX9_room_115 (hR _ _ h)
          · replace h := h.2 c19
            refine v_iconst hX 1 dX9_room_79 rfl (?_ : V X 80 [some (.ref 75), some (.int p1), some (.int p2)] [.int 1] μ17)
            refine v_goto hX 115 dX9_room_80 rfl (?_ : V X 115 [some (.ref 75), some (.int p1), some (.int p2)] [.int 1] μ17)
            exact v_iret hO dX9_room_115 (hR _ _ h)
      · replace h := h.2 c11
        refine v_iload_n hX dX9_room_30 rfl (?_ : V X 31 [some (.ref 75), some (.int p1), some (.int p2)] [.int p2] μ8)
        refine v_if_ne hX 45 dX9_room_31 rfl (fun c20 => ?_) (fun c20 => ?_)
        · replace h := h.1 c20
          refine v_iload_n hX dX9_room_45 rfl (?_ : V X 46 [some (.ref 75), some (.int p1), some (.int p2)] [.int p2] μ8)
          refine v_iconst hX 1 dX9_room_46 rfl (?_ : V X 47 [some (.ref 75), some (.int p1), some (.int p2)] [.int 1, .int p2] μ8)
          refine v_icmp_ne hX 59 dX9_room_47 rfl (fun c21 => ?_) (fun c21 => ?_)
          · replace h := h.1 c21
            refine v_aload_n hX dX9_room_59 rfl (?_ : V X 60 [some (.ref 75), some (.int p1), some (.int p2)] [.ref 75] μ8)
            refine v_getr hX (80) fk_X9_22 sh_75 rfl rfl dX9_room_60 (?_ : V X 63 [some (.ref 75), some (.int p1), some (.int p2)] [.ref 80] μ8)
            refine v_iload_n hX dX9_room_63 rfl (?_ : V X 64 [some (.ref 75), some (.int p1), some (.int p2)] [.int p1, .ref 80] μ8)
            have hb22 := h.1
            replace h := h.2
            refine w_iald hX (Int32.toNatClampNeg p1) sh_80 hb22 rfl dX9_room_64 (?_ : V X 65 [some (.ref 75), some (.int p1), some (.int p2)] [.int (gi μ8 80 (Int32.toNatClampNeg p1))] μ8)
            exact v_iret hO dX9_room_65 (hR _ _ h)
          · replace h := h.2 c21
            refine v_aload_n hX dX9_room_50 rfl (?_ : V X 51 [some (.ref 75), some (.int p1), some (.int p2)] [.ref 75] μ8)
            refine v_getr hX (79) fk_X9_19 sh_75 rfl rfl dX9_room_51 (?_ : V X 54 [some (.ref 75), some (.int p1), some (.int p2)] [.ref 79] μ8)
            refine v_iload_n hX dX9_room_54 rfl (?_ : V X 55 [some (.ref 75), some (.int p1), some (.int p2)] [.int p1, .ref 79] μ8)
            have hb23 := h.1
            replace h := h.2
            refine w_iald hX (Int32.toNatClampNeg p1) sh_79 hb23 rfl dX9_room_55 (?_ : V X 56 [some (.ref 75), some (.int p1), some (.int p2)] [.int (gi μ8 79 (Int32.toNatClampNeg p1))] μ8)
            refine v_goto hX 65 dX9_room_56 rfl (?_ : V X 65 [some (.ref 75), some (.int p1), some (.int p2)] [.int (gi μ8 79 (Int32.toNatClampNeg p1))] μ8)
            exact v_iret hO dX9_room_65 (hR _ _ h)
        · replace h := h.2 c20
          refine v_aload_n hX dX9_room_34 rfl (?_ : V X 35 [some (.ref 75), some (.int p1), some (.int p2)] [.ref 75] μ8)
          refine v_getr hX (84) fk_X9_34 sh_75 rfl rfl dX9_room_35 (?_ : V X 38 [some (.ref 75), some (.int p1), some (.int p2)] [.ref 84] μ8)
          refine v_iconst hX 5 dX9_room_38 rfl (?_ : V X 39 [some (.ref 75), some (.int p1), some (.int p2)] [.int 5, .ref 84] μ8)
          refine v_iload_n hX dX9_room_39 rfl (?_ : V X 40 [some (.ref 75), some (.int p1), some (.int p2)] [.int p1, .int 5, .ref 84] μ8)
          refine v_iadd hX dX9_room_40 (?_ : V X 41 [some (.ref 75), some (.int p1), some (.int p2)] [.int (5 + p1), .ref 84] μ8)
          have hb24 := h.1
          replace h := h.2
          refine w_iald hX (Int32.toNatClampNeg (5 + p1)) sh_84 hb24 rfl dX9_room_41 (?_ : V X 42 [some (.ref 75), some (.int p1), some (.int p2)] [.int (gi μ8 84 (Int32.toNatClampNeg (5 + p1)))] μ8)
          refine v_goto hX 65 dX9_room_42 rfl (?_ : V X 65 [some (.ref 75), some (.int p1), some (.int p2)] [.int (gi μ8 84 (Int32.toNatClampNeg (5 + p1)))] μ8)
          exact v_iret hO dX9_room_65 (hR _ _ h)
    · replace h := h.2 c10
      refine v_ldc hX (-1000000) dX9_room_22 kk_X9_145 (?_ : V X 24 [some (.ref 75), some (.int p1), some (.int p2)] [.int ((-1000000))] μ8)
      exact v_iret hO dX9_room_24 (hR _ _ h)
set_option maxRecDepth 20000 in
set_option maxHeartbeats 4000000 in
theorem vp_X9_room_0 (p1 : Int32) (p2 : Int32)  (μ : Mem) (hpre : pre_X9_room p1 p2 μ) : vc_X9_room_0 p1 p2 μ (post_X9_room p1 p2 μ)  := by
  simp only [vc_X9_room_0, pre_X9_in, pre_X9_isRoom, pre_X9_isSolved, post_X9_in, post_X9_isRoom, post_X9_isSolved, and_imp, call_eq, forall_eq, forall_const, true_and, and_true]
  unfold pre_X9_room at hpre
  unfold post_X9_room roomA slvI decI
  rw [show gi (ui μ 75 0 0) 77 0 = gi μ 77 0 from rfl, show gi (ui μ 75 0 0) 84 3 = gi μ 84 3 from rfl]
  refine ⟨hpre, ?_⟩
  by_cases c : p1 < 0 ∨ gi μ 77 0 ≤ p1
  · simp only [if_pos c]; simp
  · obtain ⟨e, he⟩ := ix_of hpre (by omega) c
    have hb := hpre.2
    have hin := ix_in (N := 10) hpre (by omega) (by omega) (by omega) c
    simp only [if_neg c]
    rw [show (10 : Int32) = nI 10 from rfl, show (5 : Int32) = nI 5 from rfl, (add_tn (a := 10) e (by omega)).2, (add_tn (a := 5) e (by omega)).2, (add_tn (a := 10) e (by omega)).1, (add_tn (a := 5) e (by omega)).1]
    have h1 : vp_in (nI (10 + p1.toNatClampNeg)) 15 := vp_in_nI (by omega) (by omega)
    have h2 : vp_in (nI (5 + p1.toNatClampNeg)) 15 := vp_in_nI (by omega) (by omega)
    rw [show gi (ui μ 75 0 0) 84 (10 + p1.toNatClampNeg) = gi μ 84 (10 + p1.toNatClampNeg) from rfl, show gi (ui μ 75 0 0) 84 (5 + p1.toNatClampNeg) = gi μ 84 (5 + p1.toNatClampNeg) from rfl, show gi (ui μ 75 0 0) 79 p1.toNatClampNeg = gi μ 79 p1.toNatClampNeg from rfl, show gi (ui μ 75 0 0) 80 p1.toNatClampNeg = gi μ 80 p1.toNatClampNeg from rfl]
    refine ⟨fun q => absurd q (by decide), fun _ => ?_⟩
    have k5 : (p2 < 0 ∨ 4 < p2) ∨ p2 = 0 ∨ p2 = 1 ∨ p2 = 2 ∨ p2 = 3 ∨ p2 = 4 := by grind
    rcases k5 with k | rfl | rfl | rfl | rfl | rfl
    · rw [if_pos k]; grind
    all_goals grind
theorem sp_X9_room : Sp yX9_room cX9_room 3 (some .int) 2 S_X9_room := by
  refine sp_of (by decide) (fun av μ P h => ?_) ?_
  · obtain ⟨p1, p2, rfl, -⟩ := h
    refine ⟨Nat.le_of_ble_eq_true rfl, fun v hv => ?_⟩
    simp only [List.mem_cons, List.not_mem_nil, or_false] at hv
    rcases hv with rfl | rfl | rfl <;> rfl
  · rintro X P hO _ μ ⟨p1, p2, rfl, hpre, hpost⟩ hn
    exact wk_X9_room_0 hO hn p1 p2  μ hpost (vp_X9_room_0 p1 p2  μ hpre)
def S_X8_doing : Tr := fun av μ P => ∃ (p1 : Int32) (p2 : Int32), av = [.ref 0, .int p1, .int p2] ∧ pre_X8_doing p1 p2 μ ∧ ∀ (x : Int32) (m : Mem), post_X8_doing p1 p2 μ x m → P (some (.int x)) m
def vc_X8_doing_0 (p1 : Int32) (p2 : Int32)  (μ : Mem) (R : Int32 → Mem → Prop)  : Prop :=
  ((gp μ 1) = 3 ∨ (gp μ 1) = 10) ∧ (pre_X2_hasDoing ((gp μ 1)) p1 μ ∧ ∀ (x2 : Int32) (μ3 : Mem), post_X2_hasDoing ((gp μ 1)) p1 μ x2 μ3 → ((¬ x2 = 0 → ((p2 = 0 → ((gp μ3 1) = 3 ∨ (gp μ3 1) = 10) ∧ vp_in p1 5 ∧ R (gi μ3 (((gp μ3 1)) + 4) (Int32.toNatClampNeg p1)) μ3) ∧ (¬ p2 = 0 → ((p2 = 1 → ((gp μ3 1) = 3 ∨ (gp μ3 1) = 10) ∧ vp_in p1 5 ∧ R (gi μ3 (((gp μ3 1)) + 5) (Int32.toNatClampNeg p1)) μ3) ∧ (¬ p2 = 1 → R ((-1)) μ3))))) ∧ (x2 = 0 → R ((-1)) μ3)))
set_option maxRecDepth 20000 in
set_option maxHeartbeats 4000000 in
theorem wk_X8_doing_0 {X : XT} {P : Post} (hO : OkM X cX8_doing RX8 1 (some .int) P) (hn : xn X = 3) (p1 : Int32) (p2 : Int32)   (μ : Mem) {R : Int32 → Mem → Prop} (hR : ∀ x m, R x m → P (some (.int x)) m)    (h : vc_X8_doing_0 p1 p2  μ R ) : V X 0 [some (.ref 0), some (.int p1), some (.int p2)] [] μ := by
  have hX := hO.1
  unfold vc_X8_doing_0 at h
  refine v_aload_n hX dX8_doing_0 rfl (?_ : V X 1 [some (.ref 0), some (.int p1), some (.int p2)] [.ref 0] μ)
  have hh1 := h.1
  replace h := h.2
  refine v_getp hX (gp μ 1) fk_X8_19 sh_0 rfl rfl dX8_doing_1 (?_ : V X 4 [some (.ref 0), some (.int p1), some (.int p2)] [.ref ((gp μ 1))] μ)
  refine v_iload_n hX dX8_doing_4 rfl (?_ : V X 5 [some (.ref 0), some (.int p1), some (.int p2)] [.int p1, .ref ((gp μ 1))] μ)
  refine v_callV hX sp_X2_hasDoing ck_X2_hasDoing mk_X8_128 mv_X2_hasDoing (sHo hh1) (by decide) (by decide) [.int p1] [] rfl rfl (Nat.le_of_ble_eq_true rfl) dX8_doing_5 ⟨((gp μ 1)), p1, rfl, hh1, h.1, fun x2 μ3 hp4 => (?_ : V X 8 [some (.ref 0), some (.int p1), some (.int p2)] [.int x2] μ3)⟩
  replace h := h.2 x2 μ3 hp4
  refine v_if_ne hX 13 dX8_doing_8 rfl (fun c5 => ?_) (fun c5 => ?_)
  · replace h := h.1 c5
    refine v_iload_n hX dX8_doing_13 rfl (?_ : V X 14 [some (.ref 0), some (.int p1), some (.int p2)] [.int p2] μ3)
    by_cases c6 : p2 = 0
    · replace h := h.1 c6
      refine v_lookup hX 40 dX8_doing_14 (by decide) (o := 26) (by rw [c6]; decide) rfl (?_ : V X 40 [some (.ref 0), some (.int p1), some (.int p2)] [] μ3)
      refine v_aload_n hX dX8_doing_40 rfl (?_ : V X 41 [some (.ref 0), some (.int p1), some (.int p2)] [.ref 0] μ3)
      have hh7 := h.1
      replace h := h.2
      refine v_getp hX (gp μ3 1) fk_X8_19 sh_0 rfl rfl dX8_doing_41 (?_ : V X 44 [some (.ref 0), some (.int p1), some (.int p2)] [.ref ((gp μ3 1))] μ3)
      refine v_getr hX (((gp μ3 1)) + 4) fk_X8_131 (sHo hh7) rfl rfl dX8_doing_44 (?_ : V X 47 [some (.ref 0), some (.int p1), some (.int p2)] [.ref (((gp μ3 1)) + 4)] μ3)
      refine v_iload_n hX dX8_doing_47 rfl (?_ : V X 48 [some (.ref 0), some (.int p1), some (.int p2)] [.int p1, .ref (((gp μ3 1)) + 4)] μ3)
      have hb8 := h.1
      replace h := h.2
      refine w_iald hX (Int32.toNatClampNeg p1) (sH4 hh7) hb8 rfl dX8_doing_48 (?_ : V X 49 [some (.ref 0), some (.int p1), some (.int p2)] [.int (gi μ3 (((gp μ3 1)) + 4) (Int32.toNatClampNeg p1))] μ3)
      exact v_iret hO dX8_doing_49 (hR _ _ h)
    · replace h := h.2 c6
      by_cases c9 : p2 = 1
      · replace h := h.1 c9
        refine v_lookup hX 50 dX8_doing_14 (by decide) (o := 36) (by rw [c9]; decide) rfl (?_ : V X 50 [some (.ref 0), some (.int p1), some (.int p2)] [] μ3)
        refine v_aload_n hX dX8_doing_50 rfl (?_ : V X 51 [some (.ref 0), some (.int p1), some (.int p2)] [.ref 0] μ3)
        have hh10 := h.1
        replace h := h.2
        refine v_getp hX (gp μ3 1) fk_X8_19 sh_0 rfl rfl dX8_doing_51 (?_ : V X 54 [some (.ref 0), some (.int p1), some (.int p2)] [.ref ((gp μ3 1))] μ3)
        refine v_getr hX (((gp μ3 1)) + 5) fk_X8_134 (sHo hh10) rfl rfl dX8_doing_54 (?_ : V X 57 [some (.ref 0), some (.int p1), some (.int p2)] [.ref (((gp μ3 1)) + 5)] μ3)
        refine v_iload_n hX dX8_doing_57 rfl (?_ : V X 58 [some (.ref 0), some (.int p1), some (.int p2)] [.int p1, .ref (((gp μ3 1)) + 5)] μ3)
        have hb11 := h.1
        replace h := h.2
        refine w_iald hX (Int32.toNatClampNeg p1) (sH5 hh10) hb11 rfl dX8_doing_58 (?_ : V X 59 [some (.ref 0), some (.int p1), some (.int p2)] [.int (gi μ3 (((gp μ3 1)) + 5) (Int32.toNatClampNeg p1))] μ3)
        exact v_iret hO dX8_doing_59 (hR _ _ h)
      · replace h := h.2 c9
        refine v_lookup hX 60 dX8_doing_14 (by decide) (o := 46) (by show Op.lookupswitch.offset [(0, 26), (1, 36)] _ _ = _; rw [lv_osw (a := 0) c6 rfl, lv_osw (a := 1) c9 rfl]; rfl) rfl (?_ : V X 60 [some (.ref 0), some (.int p1), some (.int p2)] [] μ3)
        refine v_iconst hX (-1) dX8_doing_60 rfl (?_ : V X 61 [some (.ref 0), some (.int p1), some (.int p2)] [.int ((-1))] μ3)
        exact v_iret hO dX8_doing_61 (hR _ _ h)
  · replace h := h.2 c5
    refine v_iconst hX (-1) dX8_doing_11 rfl (?_ : V X 12 [some (.ref 0), some (.int p1), some (.int p2)] [.int ((-1))] μ3)
    exact v_iret hO dX8_doing_12 (hR _ _ h)
set_option maxRecDepth 20000 in
set_option maxHeartbeats 4000000 in
theorem vp_X8_doing_0 (p1 : Int32) (p2 : Int32)  (μ : Mem) (hpre : pre_X8_doing p1 p2 μ) : vc_X8_doing_0 p1 p2 μ (post_X8_doing p1 p2 μ)  := by
  simp only [vc_X8_doing_0, pre_X2_hasDoing, post_X2_hasDoing, and_imp, call_eq, forall_eq, forall_const, true_and, and_true]
  obtain ⟨hw, hR⟩ := hpre
  refine ⟨hw, ?_⟩
  unfold post_X8_doing doingA
  by_cases c : p1 < 0 ∨ gi μ (gp μ 1) 4 ≤ p1
  · simp only [if_pos c]; simp
  · have hin := ix_in (N := 5) hR (by omega) (by omega) (by omega) c
    simp only [if_neg c]
    unfold hsOK at hw
    refine ⟨fun _ => ?_, fun q => absurd q (by decide)⟩
    grind (splits := 40)
theorem sp_X8_doing : Sp yX8_doing cX8_doing 3 (some .int) 1 S_X8_doing := by
  refine sp_of (by decide) (fun av μ P h => ?_) ?_
  · obtain ⟨p1, p2, rfl, -⟩ := h
    refine ⟨Nat.le_of_ble_eq_true rfl, fun v hv => ?_⟩
    simp only [List.mem_cons, List.not_mem_nil, or_false] at hv
    rcases hv with rfl | rfl | rfl <;> rfl
  · rintro X P hO _ μ ⟨p1, p2, rfl, hpre, hpost⟩ hn
    exact wk_X8_doing_0 hO hn p1 p2  μ hpost (vp_X8_doing_0 p1 p2  μ hpre)
def S_X9_doing : Tr := fun av μ P => ∃ (p1 : Int32) (p2 : Int32), av = [.ref 75, .int p1, .int p2] ∧ pre_X9_doing p1 p2 μ ∧ ∀ (x : Int32) (m : Mem), post_X9_doing p1 p2 μ x m → P (some (.int x)) m
def vc_X9_doing_0 (p1 : Int32) (p2 : Int32)  (μ : Mem) (R : Int32 → Mem → Prop)  : Prop :=
  (∀ μ1, μ1 = ui μ 75 0 0 → (pre_X9_isDoing p1 μ1 ∧ ∀ (x3 : Int32) (μ4 : Mem), post_X9_isDoing p1 μ1 x3 μ4 → ((x3 = 0 → R ((-1)) μ4) ∧ (¬ x3 = 0 → (pre_X9_in p2 0 1 μ4 ∧ ∀ (x7 : Int32) (μ8 : Mem), post_X9_in p2 0 1 μ4 x7 μ8 → ((¬ x7 = 0 → ((¬ p2 = 0 → vp_in p1 10 ∧ R (gi μ8 82 (Int32.toNatClampNeg p1)) μ8) ∧ (p2 = 0 → vp_in p1 10 ∧ R (gi μ8 81 (Int32.toNatClampNeg p1)) μ8))) ∧ (x7 = 0 → R ((-1)) μ8)))))))
set_option maxRecDepth 20000 in
set_option maxHeartbeats 4000000 in
theorem wk_X9_doing_0 {X : XT} {P : Post} (hO : OkM X cX9_doing RX9 2 (some .int) P) (hn : xn X = 3) (p1 : Int32) (p2 : Int32)   (μ : Mem) {R : Int32 → Mem → Prop} (hR : ∀ x m, R x m → P (some (.int x)) m)    (h : vc_X9_doing_0 p1 p2  μ R ) : V X 0 [some (.ref 75), some (.int p1), some (.int p2)] [] μ := by
  have hX := hO.1
  unfold vc_X9_doing_0 at h
  refine v_aload_n hX dX9_doing_0 rfl (?_ : V X 1 [some (.ref 75), some (.int p1), some (.int p2)] [.ref 75] μ)
  refine v_iconst hX 0 dX9_doing_1 rfl (?_ : V X 2 [some (.ref 75), some (.int p1), some (.int p2)] [.int 0, .ref 75] μ)
  refine w_puti hX fk_X9_74 fw_9_0 sh_75 rfl dX9_doing_2 (fun μ1 e2 => (?_ : V X 5 [some (.ref 75), some (.int p1), some (.int p2)] [] μ1))
  replace h := h μ1 e2
  refine v_aload_n hX dX9_doing_5 rfl (?_ : V X 6 [some (.ref 75), some (.int p1), some (.int p2)] [.ref 75] μ1)
  refine v_iload_n hX dX9_doing_6 rfl (?_ : V X 7 [some (.ref 75), some (.int p1), some (.int p2)] [.int p1, .ref 75] μ1)
  refine v_callV hX sp_X9_isDoing ck_X9_isDoing mk_X9_149 mv_X9_isDoing sh_75 (by decide) (by decide) [.int p1] [] rfl rfl (Nat.le_of_ble_eq_true rfl) dX9_doing_7 ⟨p1, rfl, h.1, fun x3 μ4 hp5 => (?_ : V X 10 [some (.ref 75), some (.int p1), some (.int p2)] [.int x3] μ4)⟩
  replace h := h.2 x3 μ4 hp5
  refine v_if_eq hX 22 dX9_doing_10 rfl (fun c6 => ?_) (fun c6 => ?_)
  · replace h := h.1 c6
    refine v_iconst hX (-1) dX9_doing_22 rfl (?_ : V X 23 [some (.ref 75), some (.int p1), some (.int p2)] [.int ((-1))] μ4)
    refine v_goto hX 45 dX9_doing_23 rfl (?_ : V X 45 [some (.ref 75), some (.int p1), some (.int p2)] [.int ((-1))] μ4)
    exact v_iret hO dX9_doing_45 (hR _ _ h)
  · replace h := h.2 c6
    refine v_iload_n hX dX9_doing_13 rfl (?_ : V X 14 [some (.ref 75), some (.int p1), some (.int p2)] [.int p2] μ4)
    refine v_iconst hX 0 dX9_doing_14 rfl (?_ : V X 15 [some (.ref 75), some (.int p1), some (.int p2)] [.int 0, .int p2] μ4)
    refine v_iconst hX 1 dX9_doing_15 rfl (?_ : V X 16 [some (.ref 75), some (.int p1), some (.int p2)] [.int 1, .int 0, .int p2] μ4)
    refine v_callS hX sp_X9_in ck_X9_in mk_X9_78 sk_X9_in (by decide) [.int p2, .int 0, .int 1] [] rfl rfl (Nat.le_of_ble_eq_true rfl) dX9_doing_16 ⟨p2, 0, 1, rfl, h.1, fun x7 μ8 hp9 => (?_ : V X 19 [some (.ref 75), some (.int p1), some (.int p2)] [.int x7] μ8)⟩
    replace h := h.2 x7 μ8 hp9
    refine v_if_ne hX 26 dX9_doing_19 rfl (fun c10 => ?_) (fun c10 => ?_)
    · replace h := h.1 c10
      refine v_iload_n hX dX9_doing_26 rfl (?_ : V X 27 [some (.ref 75), some (.int p1), some (.int p2)] [.int p2] μ8)
      refine v_if_ne hX 39 dX9_doing_27 rfl (fun c11 => ?_) (fun c11 => ?_)
      · replace h := h.1 c11
        refine v_aload_n hX dX9_doing_39 rfl (?_ : V X 40 [some (.ref 75), some (.int p1), some (.int p2)] [.ref 75] μ8)
        refine v_getr hX (82) fk_X9_28 sh_75 rfl rfl dX9_doing_40 (?_ : V X 43 [some (.ref 75), some (.int p1), some (.int p2)] [.ref 82] μ8)
        refine v_iload_n hX dX9_doing_43 rfl (?_ : V X 44 [some (.ref 75), some (.int p1), some (.int p2)] [.int p1, .ref 82] μ8)
        have hb12 := h.1
        replace h := h.2
        refine w_iald hX (Int32.toNatClampNeg p1) sh_82 hb12 rfl dX9_doing_44 (?_ : V X 45 [some (.ref 75), some (.int p1), some (.int p2)] [.int (gi μ8 82 (Int32.toNatClampNeg p1))] μ8)
        exact v_iret hO dX9_doing_45 (hR _ _ h)
      · replace h := h.2 c11
        refine v_aload_n hX dX9_doing_30 rfl (?_ : V X 31 [some (.ref 75), some (.int p1), some (.int p2)] [.ref 75] μ8)
        refine v_getr hX (81) fk_X9_25 sh_75 rfl rfl dX9_doing_31 (?_ : V X 34 [some (.ref 75), some (.int p1), some (.int p2)] [.ref 81] μ8)
        refine v_iload_n hX dX9_doing_34 rfl (?_ : V X 35 [some (.ref 75), some (.int p1), some (.int p2)] [.int p1, .ref 81] μ8)
        have hb13 := h.1
        replace h := h.2
        refine w_iald hX (Int32.toNatClampNeg p1) sh_81 hb13 rfl dX9_doing_35 (?_ : V X 36 [some (.ref 75), some (.int p1), some (.int p2)] [.int (gi μ8 81 (Int32.toNatClampNeg p1))] μ8)
        refine v_goto hX 45 dX9_doing_36 rfl (?_ : V X 45 [some (.ref 75), some (.int p1), some (.int p2)] [.int (gi μ8 81 (Int32.toNatClampNeg p1))] μ8)
        exact v_iret hO dX9_doing_45 (hR _ _ h)
    · replace h := h.2 c10
      refine v_iconst hX (-1) dX9_doing_22 rfl (?_ : V X 23 [some (.ref 75), some (.int p1), some (.int p2)] [.int ((-1))] μ8)
      refine v_goto hX 45 dX9_doing_23 rfl (?_ : V X 45 [some (.ref 75), some (.int p1), some (.int p2)] [.int ((-1))] μ8)
      exact v_iret hO dX9_doing_45 (hR _ _ h)
set_option maxRecDepth 20000 in
set_option maxHeartbeats 4000000 in
theorem vp_X9_doing_0 (p1 : Int32) (p2 : Int32)  (μ : Mem) (hpre : pre_X9_doing p1 p2 μ) : vc_X9_doing_0 p1 p2 μ (post_X9_doing p1 p2 μ)  := by
  simp only [vc_X9_doing_0, pre_X9_in, pre_X9_isDoing, post_X9_in, post_X9_isDoing, and_imp, call_eq, forall_eq, forall_const, true_and, and_true]
  unfold pre_X9_doing at hpre
  unfold post_X9_doing doingA
  rw [show gi (ui μ 75 0 0) 77 1 = gi μ 77 1 from rfl]
  refine ⟨hpre, ?_⟩
  by_cases c : p1 < 0 ∨ gi μ 77 1 ≤ p1
  · simp only [if_pos c]; simp
  · have hin := ix_in (N := 10) hpre (by omega) (by omega) (by omega) c
    simp only [if_neg c]
    rw [show gi (ui μ 75 0 0) 81 p1.toNatClampNeg = gi μ 81 p1.toNatClampNeg from rfl, show gi (ui μ 75 0 0) 82 p1.toNatClampNeg = gi μ 82 p1.toNatClampNeg from rfl]
    refine ⟨fun q => absurd q (by decide), fun _ => ?_⟩
    have k5 : (p2 < 0 ∨ 1 < p2) ∨ p2 = 0 ∨ p2 = 1 := by grind
    rcases k5 with k | rfl | rfl
    · rw [if_pos k]; grind
    all_goals grind
theorem sp_X9_doing : Sp yX9_doing cX9_doing 3 (some .int) 2 S_X9_doing := by
  refine sp_of (by decide) (fun av μ P h => ?_) ?_
  · obtain ⟨p1, p2, rfl, -⟩ := h
    refine ⟨Nat.le_of_ble_eq_true rfl, fun v hv => ?_⟩
    simp only [List.mem_cons, List.not_mem_nil, or_false] at hv
    rcases hv with rfl | rfl | rfl <;> rfl
  · rintro X P hO _ μ ⟨p1, p2, rfl, hpre, hpost⟩ hn
    exact wk_X9_doing_0 hO hn p1 p2  μ hpost (vp_X9_doing_0 p1 p2  μ hpre)
def S_X8_suspect : Tr := fun av μ P => ∃ (p1 : Int32), av = [.ref 0, .int p1] ∧ pre_X8_suspect p1 μ ∧ ∀ (x : Int32) (m : Mem), post_X8_suspect p1 μ x m → P (some (.int x)) m
def vc_X8_suspect_0 (p1 : Int32)  (μ : Mem) (R : Int32 → Mem → Prop)  : Prop :=
  ((p1 < 0 → R ((-1)) μ) ∧ (¬ p1 < 0 → ((gp μ 1) = 3 ∨ (gp μ 1) = 10) ∧ ((p1 < (gi μ ((gp μ 1)) 7) → vp_in p1 6 ∧ R (gi μ (((gp μ 1)) + 6) (Int32.toNatClampNeg p1)) μ) ∧ (¬ p1 < (gi μ ((gp μ 1)) 7) → R ((-1)) μ))))
set_option maxRecDepth 20000 in
set_option maxHeartbeats 4000000 in
theorem wk_X8_suspect_0 {X : XT} {P : Post} (hO : OkM X cX8_suspect RX8 0 (some .int) P) (hn : xn X = 2) (p1 : Int32)   (μ : Mem) {R : Int32 → Mem → Prop} (hR : ∀ x m, R x m → P (some (.int x)) m)    (h : vc_X8_suspect_0 p1  μ R ) : V X 0 [some (.ref 0), some (.int p1)] [] μ := by
  have hX := hO.1
  unfold vc_X8_suspect_0 at h
  refine v_iload_n hX dX8_suspect_0 rfl (?_ : V X 1 [some (.ref 0), some (.int p1)] [.int p1] μ)
  refine v_if_lt hX 15 dX8_suspect_1 rfl (fun c1 => ?_) (fun c1 => ?_)
  · replace h := h.1 c1
    refine v_iconst hX (-1) dX8_suspect_15 rfl (?_ : V X 16 [some (.ref 0), some (.int p1)] [.int ((-1))] μ)
    exact v_iret hO dX8_suspect_16 (hR _ _ h)
  · replace h := h.2 c1
    refine v_iload_n hX dX8_suspect_4 rfl (?_ : V X 5 [some (.ref 0), some (.int p1)] [.int p1] μ)
    refine v_aload_n hX dX8_suspect_5 rfl (?_ : V X 6 [some (.ref 0), some (.int p1)] [.ref 0, .int p1] μ)
    have hh2 := h.1
    replace h := h.2
    refine v_getp hX (gp μ 1) fk_X8_19 sh_0 rfl rfl dX8_suspect_6 (?_ : V X 9 [some (.ref 0), some (.int p1)] [.ref ((gp μ 1)), .int p1] μ)
    refine v_geti hX fk_X8_137 (sHo hh2) rfl dX8_suspect_9 (?_ : V X 12 [some (.ref 0), some (.int p1)] [.int (gi μ ((gp μ 1)) 7), .int p1] μ)
    refine v_icmp_lt hX 17 dX8_suspect_12 rfl (fun c3 => ?_) (fun c3 => ?_)
    · replace h := h.1 c3
      refine v_aload_n hX dX8_suspect_17 rfl (?_ : V X 18 [some (.ref 0), some (.int p1)] [.ref 0] μ)
      refine v_getp hX (gp μ 1) fk_X8_19 sh_0 rfl rfl dX8_suspect_18 (?_ : V X 21 [some (.ref 0), some (.int p1)] [.ref ((gp μ 1))] μ)
      refine v_getr hX (((gp μ 1)) + 6) fk_X8_140 (sHo hh2) rfl rfl dX8_suspect_21 (?_ : V X 24 [some (.ref 0), some (.int p1)] [.ref (((gp μ 1)) + 6)] μ)
      refine v_iload_n hX dX8_suspect_24 rfl (?_ : V X 25 [some (.ref 0), some (.int p1)] [.int p1, .ref (((gp μ 1)) + 6)] μ)
      have hb4 := h.1
      replace h := h.2
      refine w_iald hX (Int32.toNatClampNeg p1) (sH6 hh2) hb4 rfl dX8_suspect_25 (?_ : V X 26 [some (.ref 0), some (.int p1)] [.int (gi μ (((gp μ 1)) + 6) (Int32.toNatClampNeg p1))] μ)
      exact v_iret hO dX8_suspect_26 (hR _ _ h)
    · replace h := h.2 c3
      refine v_iconst hX (-1) dX8_suspect_15 rfl (?_ : V X 16 [some (.ref 0), some (.int p1)] [.int ((-1))] μ)
      exact v_iret hO dX8_suspect_16 (hR _ _ h)
set_option maxRecDepth 20000 in
set_option maxHeartbeats 4000000 in
theorem vp_X8_suspect_0 (p1 : Int32)  (μ : Mem) (hpre : pre_X8_suspect p1 μ) : vc_X8_suspect_0 p1 μ (post_X8_suspect p1 μ)  := by
  simp only [vc_X8_suspect_0, and_imp, call_eq, forall_eq, forall_const, true_and, and_true]
  obtain ⟨hw, hR⟩ := hpre
  unfold post_X8_suspect
  unfold hsOK at hw
  by_cases c : p1 < 0 ∨ gi μ (gp μ 1) 7 ≤ p1
  · simp only [if_pos c]; grind
  · have hin := ix_in (N := 6) hR (by omega) (by omega) (by omega) c
    simp only [if_neg c]; grind
theorem sp_X8_suspect : Sp yX8_suspect cX8_suspect 2 (some .int) 0 S_X8_suspect := by
  refine sp_of (by decide) (fun av μ P h => ?_) ?_
  · obtain ⟨p1, rfl, -⟩ := h
    refine ⟨Nat.le_of_ble_eq_true rfl, fun v hv => ?_⟩
    simp only [List.mem_cons, List.not_mem_nil, or_false] at hv
    rcases hv with rfl | rfl <;> rfl
  · rintro X P hO _ μ ⟨p1, rfl, hpre, hpost⟩ hn
    exact wk_X8_suspect_0 hO hn p1  μ hpost (vp_X8_suspect_0 p1  μ hpre)
def S_X9_suspect : Tr := fun av μ P => ∃ (p1 : Int32), av = [.ref 75, .int p1] ∧ pre_X9_suspect p1 μ ∧ ∀ (x : Int32) (m : Mem), post_X9_suspect p1 μ x m → P (some (.int x)) m
def vc_X9_suspect_0 (p1 : Int32)  (μ : Mem) (R : Int32 → Mem → Prop)  : Prop :=
  (∀ μ1, μ1 = ui μ 75 0 0 → (pre_X9_in p1 0 ((gi μ1 77 2) - 1) μ1 ∧ ∀ (x3 : Int32) (μ4 : Mem), post_X9_in p1 0 ((gi μ1 77 2) - 1) μ1 x3 μ4 → ((x3 = 0 → R ((-1)) μ4) ∧ (¬ x3 = 0 → vp_in p1 12 ∧ R (gi μ4 83 (Int32.toNatClampNeg p1)) μ4))))
set_option maxRecDepth 20000 in
set_option maxHeartbeats 4000000 in
theorem wk_X9_suspect_0 {X : XT} {P : Post} (hO : OkM X cX9_suspect RX9 1 (some .int) P) (hn : xn X = 2) (p1 : Int32)   (μ : Mem) {R : Int32 → Mem → Prop} (hR : ∀ x m, R x m → P (some (.int x)) m)    (h : vc_X9_suspect_0 p1  μ R ) : V X 0 [some (.ref 75), some (.int p1)] [] μ := by
  have hX := hO.1
  unfold vc_X9_suspect_0 at h
  refine v_aload_n hX dX9_suspect_0 rfl (?_ : V X 1 [some (.ref 75), some (.int p1)] [.ref 75] μ)
  refine v_iconst hX 0 dX9_suspect_1 rfl (?_ : V X 2 [some (.ref 75), some (.int p1)] [.int 0, .ref 75] μ)
  refine w_puti hX fk_X9_74 fw_9_0 sh_75 rfl dX9_suspect_2 (fun μ1 e2 => (?_ : V X 5 [some (.ref 75), some (.int p1)] [] μ1))
  replace h := h μ1 e2
  refine v_iload_n hX dX9_suspect_5 rfl (?_ : V X 6 [some (.ref 75), some (.int p1)] [.int p1] μ1)
  refine v_iconst hX 0 dX9_suspect_6 rfl (?_ : V X 7 [some (.ref 75), some (.int p1)] [.int 0, .int p1] μ1)
  refine v_aload_n hX dX9_suspect_7 rfl (?_ : V X 8 [some (.ref 75), some (.int p1)] [.ref 75, .int 0, .int p1] μ1)
  refine v_getr hX (77) fk_X9_13 sh_75 rfl rfl dX9_suspect_8 (?_ : V X 11 [some (.ref 75), some (.int p1)] [.ref 77, .int 0, .int p1] μ1)
  refine v_iconst hX 2 dX9_suspect_11 rfl (?_ : V X 12 [some (.ref 75), some (.int p1)] [.int 2, .ref 77, .int 0, .int p1] μ1)
  refine w_iald hX 2 sh_77 (vp_lit (by decide)) (by decide) dX9_suspect_12 (?_ : V X 13 [some (.ref 75), some (.int p1)] [.int (gi μ1 77 2), .int 0, .int p1] μ1)
  refine v_iconst hX 1 dX9_suspect_13 rfl (?_ : V X 14 [some (.ref 75), some (.int p1)] [.int 1, .int (gi μ1 77 2), .int 0, .int p1] μ1)
  refine v_isub hX dX9_suspect_14 (?_ : V X 15 [some (.ref 75), some (.int p1)] [.int ((gi μ1 77 2) - 1), .int 0, .int p1] μ1)
  refine v_callS hX sp_X9_in ck_X9_in mk_X9_78 sk_X9_in (by decide) [.int p1, .int 0, .int ((gi μ1 77 2) - 1)] [] rfl rfl (Nat.le_of_ble_eq_true rfl) dX9_suspect_15 ⟨p1, 0, ((gi μ1 77 2) - 1), rfl, h.1, fun x3 μ4 hp5 => (?_ : V X 18 [some (.ref 75), some (.int p1)] [.int x3] μ4)⟩
  replace h := h.2 x3 μ4 hp5
  refine v_if_eq hX 30 dX9_suspect_18 rfl (fun c6 => ?_) (fun c6 => ?_)
  · replace h := h.1 c6
    refine v_iconst hX (-1) dX9_suspect_30 rfl (?_ : V X 31 [some (.ref 75), some (.int p1)] [.int ((-1))] μ4)
    exact v_iret hO dX9_suspect_31 (hR _ _ h)
  · replace h := h.2 c6
    refine v_aload_n hX dX9_suspect_21 rfl (?_ : V X 22 [some (.ref 75), some (.int p1)] [.ref 75] μ4)
    refine v_getr hX (83) fk_X9_31 sh_75 rfl rfl dX9_suspect_22 (?_ : V X 25 [some (.ref 75), some (.int p1)] [.ref 83] μ4)
    refine v_iload_n hX dX9_suspect_25 rfl (?_ : V X 26 [some (.ref 75), some (.int p1)] [.int p1, .ref 83] μ4)
    have hb7 := h.1
    replace h := h.2
    refine w_iald hX (Int32.toNatClampNeg p1) sh_83 hb7 rfl dX9_suspect_26 (?_ : V X 27 [some (.ref 75), some (.int p1)] [.int (gi μ4 83 (Int32.toNatClampNeg p1))] μ4)
    refine v_goto hX 31 dX9_suspect_27 rfl (?_ : V X 31 [some (.ref 75), some (.int p1)] [.int (gi μ4 83 (Int32.toNatClampNeg p1))] μ4)
    exact v_iret hO dX9_suspect_31 (hR _ _ h)
set_option maxRecDepth 20000 in
set_option maxHeartbeats 4000000 in
theorem vp_X9_suspect_0 (p1 : Int32)  (μ : Mem) (hpre : pre_X9_suspect p1 μ) : vc_X9_suspect_0 p1 μ (post_X9_suspect p1 μ)  := by
  simp only [vc_X9_suspect_0, pre_X9_in, post_X9_in, and_imp, call_eq, forall_eq, forall_const, true_and, and_true]
  unfold pre_X9_suspect at hpre
  have hb := hpre.2
  unfold post_X9_suspect
  rw [show gi (ui μ 75 0 0) 77 2 = gi μ 77 2 from rfl]
  have e : (p1 < 0 ∨ gi μ 77 2 - 1 < p1) ↔ (p1 < 0 ∨ gi μ 77 2 ≤ p1) := by
    rw [hpre.1]; exact in_pred (by omega) p1
  by_cases c : p1 < 0 ∨ gi μ 77 2 ≤ p1
  · simp only [if_pos c, if_pos (e.mpr c)]; simp
  · have hin := ix_in (N := 12) hpre (by omega) (by omega) (by omega) c
    simp only [if_neg c, if_neg (fun q => c (e.mp q))]
    exact ⟨fun q => absurd q (by decide), fun _ => ⟨hin, rfl, trivial⟩⟩
theorem sp_X9_suspect : Sp yX9_suspect cX9_suspect 2 (some .int) 1 S_X9_suspect := by
  refine sp_of (by decide) (fun av μ P h => ?_) ?_
  · obtain ⟨p1, rfl, -⟩ := h
    refine ⟨Nat.le_of_ble_eq_true rfl, fun v hv => ?_⟩
    simp only [List.mem_cons, List.not_mem_nil, or_false] at hv
    rcases hv with rfl | rfl <;> rfl
  · rintro X P hO _ μ ⟨p1, rfl, hpre, hpost⟩ hn
    exact wk_X9_suspect_0 hO hn p1  μ hpost (vp_X9_suspect_0 p1  μ hpre)
def S_X8_now : Tr := fun av μ P => ∃ (p1 : Int32), av = [.ref 0, .int p1] ∧ pre_X8_now p1 μ ∧ ∀ (x : Int32) (m : Mem), post_X8_now p1 μ x m → P (some (.int x)) m
def vc_X8_now_0 (p1 : Int32)  (μ : Mem) (R : Int32 → Mem → Prop)  : Prop :=
  ((p1 = 0 → R (gi μ 17 0) μ) ∧ (¬ p1 = 0 → ((p1 = 1 → R (gi μ 17 1) μ) ∧ (¬ p1 = 1 → ((p1 = 2 → R (gi μ 17 2) μ) ∧ (¬ p1 = 2 → ((p1 = 3 → R (gi μ 17 3) μ) ∧ (¬ p1 = 3 → ((p1 = 4 → ((gp μ 1) = 3 ∨ (gp μ 1) = 10) ∧ (pre_X7_earnedIn ((gp μ 1)) μ ∧ ∀ (x7 : Int32) (μ8 : Mem), post_X7_earnedIn ((gp μ 1)) μ x7 μ8 → R x7 μ8)) ∧ (¬ p1 = 4 → ((p1 = 5 → R (gi μ 17 4) μ) ∧ (¬ p1 = 5 → ((p1 = 6 → ((gp μ 1) = 3 ∨ (gp μ 1) = 10) ∧ (pre_X3_leftOf ((gp μ 1)) (gi μ 17 4) μ ∧ ∀ (x13 : Int32) (μ14 : Mem), post_X3_leftOf ((gp μ 1)) (gi μ 17 4) μ x13 μ14 → R x13 μ14)) ∧ (¬ p1 = 6 → ((p1 = 7 → R (gi μ 20 2) μ) ∧ (¬ p1 = 7 → R ((-1)) μ))))))))))))))))
set_option maxRecDepth 20000 in
set_option maxHeartbeats 4000000 in
theorem wk_X8_now_0 {X : XT} {P : Post} (hO : OkM X cX8_now RX8 2 (some .int) P) (hn : xn X = 2) (p1 : Int32)   (μ : Mem) {R : Int32 → Mem → Prop} (hR : ∀ x m, R x m → P (some (.int x)) m)    (h : vc_X8_now_0 p1  μ R ) : V X 0 [some (.ref 0), some (.int p1)] [] μ := by
  have hX := hO.1
  unfold vc_X8_now_0 at h
  refine v_iload_n hX dX8_now_0 rfl (?_ : V X 1 [some (.ref 0), some (.int p1)] [.int p1] μ)
  by_cases c1 : p1 = 0
  · replace h := h.1 c1
    refine v_tableIn hX 48 dX8_now_1 (by rw [c1]; decide) (by rw [c1]; decide) (o := 47) (by rw [c1]; decide) rfl (?_ : V X 48 [some (.ref 0), some (.int p1)] [] μ)
    refine v_aload_n hX dX8_now_48 rfl (?_ : V X 49 [some (.ref 0), some (.int p1)] [.ref 0] μ)
    refine v_getr hX (17) fk_X8_29 sh_0 rfl rfl dX8_now_49 (?_ : V X 52 [some (.ref 0), some (.int p1)] [.ref 17] μ)
    refine v_geti hX fk_X8_143 sh_17 rfl dX8_now_52 (?_ : V X 55 [some (.ref 0), some (.int p1)] [.int (gi μ 17 0)] μ)
    exact v_iret hO dX8_now_55 (hR _ _ h)
  · replace h := h.2 c1
    by_cases c2 : p1 = 1
    · replace h := h.1 c2
      refine v_tableIn hX 56 dX8_now_1 (by rw [c2]; decide) (by rw [c2]; decide) (o := 55) (by rw [c2]; decide) rfl (?_ : V X 56 [some (.ref 0), some (.int p1)] [] μ)
      refine v_aload_n hX dX8_now_56 rfl (?_ : V X 57 [some (.ref 0), some (.int p1)] [.ref 0] μ)
      refine v_getr hX (17) fk_X8_29 sh_0 rfl rfl dX8_now_57 (?_ : V X 60 [some (.ref 0), some (.int p1)] [.ref 17] μ)
      refine v_geti hX fk_X8_146 sh_17 rfl dX8_now_60 (?_ : V X 63 [some (.ref 0), some (.int p1)] [.int (gi μ 17 1)] μ)
      exact v_iret hO dX8_now_63 (hR _ _ h)
    · replace h := h.2 c2
      by_cases c3 : p1 = 2
      · replace h := h.1 c3
        refine v_tableIn hX 64 dX8_now_1 (by rw [c3]; decide) (by rw [c3]; decide) (o := 63) (by rw [c3]; decide) rfl (?_ : V X 64 [some (.ref 0), some (.int p1)] [] μ)
        refine v_aload_n hX dX8_now_64 rfl (?_ : V X 65 [some (.ref 0), some (.int p1)] [.ref 0] μ)
        refine v_getr hX (17) fk_X8_29 sh_0 rfl rfl dX8_now_65 (?_ : V X 68 [some (.ref 0), some (.int p1)] [.ref 17] μ)
        refine v_geti hX fk_X8_149 sh_17 rfl dX8_now_68 (?_ : V X 71 [some (.ref 0), some (.int p1)] [.int (gi μ 17 2)] μ)
        exact v_iret hO dX8_now_71 (hR _ _ h)
      · replace h := h.2 c3
        by_cases c4 : p1 = 3
        · replace h := h.1 c4
          refine v_tableIn hX 72 dX8_now_1 (by rw [c4]; decide) (by rw [c4]; decide) (o := 71) (by rw [c4]; decide) rfl (?_ : V X 72 [some (.ref 0), some (.int p1)] [] μ)
          refine v_aload_n hX dX8_now_72 rfl (?_ : V X 73 [some (.ref 0), some (.int p1)] [.ref 0] μ)
          refine v_getr hX (17) fk_X8_29 sh_0 rfl rfl dX8_now_73 (?_ : V X 76 [some (.ref 0), some (.int p1)] [.ref 17] μ)
          refine v_geti hX fk_X8_152 sh_17 rfl dX8_now_76 (?_ : V X 79 [some (.ref 0), some (.int p1)] [.int (gi μ 17 3)] μ)
          exact v_iret hO dX8_now_79 (hR _ _ h)
        · replace h := h.2 c4
          by_cases c5 : p1 = 4
          · replace h := h.1 c5
            refine v_tableIn hX 80 dX8_now_1 (by rw [c5]; decide) (by rw [c5]; decide) (o := 79) (by rw [c5]; decide) rfl (?_ : V X 80 [some (.ref 0), some (.int p1)] [] μ)
            refine v_aload_n hX dX8_now_80 rfl (?_ : V X 81 [some (.ref 0), some (.int p1)] [.ref 0] μ)
            refine v_getr hX (17) fk_X8_29 sh_0 rfl rfl dX8_now_81 (?_ : V X 84 [some (.ref 0), some (.int p1)] [.ref 17] μ)
            refine v_aload_n hX dX8_now_84 rfl (?_ : V X 85 [some (.ref 0), some (.int p1)] [.ref 0, .ref 17] μ)
            have hh6 := h.1
            replace h := h.2
            refine v_getp hX (gp μ 1) fk_X8_19 sh_0 rfl rfl dX8_now_85 (?_ : V X 88 [some (.ref 0), some (.int p1)] [.ref ((gp μ 1)), .ref 17] μ)
            refine v_callV hX sp_X7_earnedIn ck_X7_earnedIn mk_X8_155 mv_X7_earnedIn sh_17 (by decide) (by decide) [.ref ((gp μ 1))] [] rfl rfl (Nat.le_of_ble_eq_true rfl) dX8_now_88 ⟨((gp μ 1)), rfl, hh6, h.1, fun x7 μ8 hp9 => (?_ : V X 91 [some (.ref 0), some (.int p1)] [.int x7] μ8)⟩
            replace h := h.2 x7 μ8 hp9
            exact v_iret hO dX8_now_91 (hR _ _ h)
          · replace h := h.2 c5
            by_cases c10 : p1 = 5
            · replace h := h.1 c10
              refine v_tableIn hX 92 dX8_now_1 (by rw [c10]; decide) (by rw [c10]; decide) (o := 91) (by rw [c10]; decide) rfl (?_ : V X 92 [some (.ref 0), some (.int p1)] [] μ)
              refine v_aload_n hX dX8_now_92 rfl (?_ : V X 93 [some (.ref 0), some (.int p1)] [.ref 0] μ)
              refine v_getr hX (17) fk_X8_29 sh_0 rfl rfl dX8_now_93 (?_ : V X 96 [some (.ref 0), some (.int p1)] [.ref 17] μ)
              refine v_geti hX fk_X8_158 sh_17 rfl dX8_now_96 (?_ : V X 99 [some (.ref 0), some (.int p1)] [.int (gi μ 17 4)] μ)
              exact v_iret hO dX8_now_99 (hR _ _ h)
            · replace h := h.2 c10
              by_cases c11 : p1 = 6
              · replace h := h.1 c11
                refine v_tableIn hX 100 dX8_now_1 (by rw [c11]; decide) (by rw [c11]; decide) (o := 99) (by rw [c11]; decide) rfl (?_ : V X 100 [some (.ref 0), some (.int p1)] [] μ)
                refine v_aload_n hX dX8_now_100 rfl (?_ : V X 101 [some (.ref 0), some (.int p1)] [.ref 0] μ)
                have hh12 := h.1
                replace h := h.2
                refine v_getp hX (gp μ 1) fk_X8_19 sh_0 rfl rfl dX8_now_101 (?_ : V X 104 [some (.ref 0), some (.int p1)] [.ref ((gp μ 1))] μ)
                refine v_aload_n hX dX8_now_104 rfl (?_ : V X 105 [some (.ref 0), some (.int p1)] [.ref 0, .ref ((gp μ 1))] μ)
                refine v_getr hX (17) fk_X8_29 sh_0 rfl rfl dX8_now_105 (?_ : V X 108 [some (.ref 0), some (.int p1)] [.ref 17, .ref ((gp μ 1))] μ)
                refine v_geti hX fk_X8_158 sh_17 rfl dX8_now_108 (?_ : V X 111 [some (.ref 0), some (.int p1)] [.int (gi μ 17 4), .ref ((gp μ 1))] μ)
                refine v_callS hX sp_X3_leftOf ck_X3_leftOf mk_X8_161 sk_X3_leftOf (by decide) [.ref ((gp μ 1)), .int (gi μ 17 4)] [] rfl rfl (Nat.le_of_ble_eq_true rfl) dX8_now_111 ⟨((gp μ 1)), (gi μ 17 4), rfl, hh12, h.1, fun x13 μ14 hp15 => (?_ : V X 114 [some (.ref 0), some (.int p1)] [.int x13] μ14)⟩
                replace h := h.2 x13 μ14 hp15
                exact v_iret hO dX8_now_114 (hR _ _ h)
              · replace h := h.2 c11
                by_cases c16 : p1 = 7
                · replace h := h.1 c16
                  refine v_tableIn hX 115 dX8_now_1 (by rw [c16]; decide) (by rw [c16]; decide) (o := 114) (by rw [c16]; decide) rfl (?_ : V X 115 [some (.ref 0), some (.int p1)] [] μ)
                  refine v_aload_n hX dX8_now_115 rfl (?_ : V X 116 [some (.ref 0), some (.int p1)] [.ref 0] μ)
                  refine v_getr hX (20) fk_X8_36 sh_0 rfl rfl dX8_now_116 (?_ : V X 119 [some (.ref 0), some (.int p1)] [.ref 20] μ)
                  refine v_geti hX fk_X8_165 sh_20 rfl dX8_now_119 (?_ : V X 122 [some (.ref 0), some (.int p1)] [.int (gi μ 20 2)] μ)
                  exact v_iret hO dX8_now_122 (hR _ _ h)
                · replace h := h.2 c16
                  refine v_tableOut hX 123 dX8_now_1 (by have t0 := lv_neT (a := 0) c1 rfl; have t1 := lv_neT (a := 1) c2 rfl; have t2 := lv_neT (a := 2) c3 rfl; have t3 := lv_neT (a := 3) c4 rfl; have t4 := lv_neT (a := 4) c5 rfl; have t5 := lv_neT (a := 5) c10 rfl; have t6 := lv_neT (a := 6) c11 rfl; have t7 := lv_neT (a := 7) c16 rfl; omega) rfl (?_ : V X 123 [some (.ref 0), some (.int p1)] [] μ)
                  refine v_iconst hX (-1) dX8_now_123 rfl (?_ : V X 124 [some (.ref 0), some (.int p1)] [.int ((-1))] μ)
                  exact v_iret hO dX8_now_124 (hR _ _ h)
set_option maxRecDepth 20000 in
set_option maxHeartbeats 4000000 in
theorem vp_X8_now_0 (p1 : Int32)  (μ : Mem) (hpre : pre_X8_now p1 μ) : vc_X8_now_0 p1 μ (post_X8_now p1 μ)  := by
  simp only [vc_X8_now_0, pre_X3_leftOf, pre_X7_earnedIn, post_X3_leftOf, post_X7_earnedIn, and_imp, call_eq, forall_eq, forall_const, true_and, and_true]
  obtain ⟨hw, h1, h2, h3⟩ := hpre
  unfold post_X8_now nowA
  unfold hsOK at hw
  grind (splits := 40)
theorem sp_X8_now : Sp yX8_now cX8_now 2 (some .int) 2 S_X8_now := by
  refine sp_of (by decide) (fun av μ P h => ?_) ?_
  · obtain ⟨p1, rfl, -⟩ := h
    refine ⟨Nat.le_of_ble_eq_true rfl, fun v hv => ?_⟩
    simp only [List.mem_cons, List.not_mem_nil, or_false] at hv
    rcases hv with rfl | rfl <;> rfl
  · rintro X P hO _ μ ⟨p1, rfl, hpre, hpost⟩ hn
    exact wk_X8_now_0 hO hn p1  μ hpost (vp_X8_now_0 p1  μ hpre)
def S_X9_now : Tr := fun av μ P => ∃ (p1 : Int32), av = [.ref 75, .int p1] ∧ pre_X9_now p1 μ ∧ ∀ (x : Int32) (m : Mem), post_X9_now p1 μ x m → P (some (.int x)) m
def vc_X9_now_0 (p1 : Int32)  (μ : Mem) (R : Int32 → Mem → Prop)  : Prop :=
  (∀ μ1, μ1 = ui μ 75 0 0 → (pre_X9_in p1 0 7 μ1 ∧ ∀ (x3 : Int32) (μ4 : Mem), post_X9_in p1 0 7 μ1 x3 μ4 → ((¬ x3 = 0 → ((2 ≤ p1 → ((4 ≤ p1 → ((¬ p1 = 4 → ((¬ p1 = 5 → ((¬ p1 = 6 → R (gi μ4 75 21) μ4) ∧ (p1 = 6 → (pre_X9_left  μ4 ∧ ∀ (x12 : Int32) (μ13 : Mem), post_X9_left  μ4 x12 μ13 → R x12 μ13)))) ∧ (p1 = 5 → R (gi μ4 84 4) μ4))) ∧ (p1 = 4 → (pre_X9_earned  μ4 ∧ ∀ (x15 : Int32) (μ16 : Mem), post_X9_earned  μ4 x15 μ16 → R x15 μ16)))) ∧ (¬ 4 ≤ p1 → vp_in p1 15 ∧ R (gi μ4 84 (Int32.toNatClampNeg p1)) μ4))) ∧ (¬ 2 ≤ p1 → vp_in p1 15 ∧ ((¬ (gi μ4 84 (Int32.toNatClampNeg p1)) = 0 → vp_in p1 15 ∧ R ((gi μ4 84 (Int32.toNatClampNeg p1)) - 1) μ4) ∧ ((gi μ4 84 (Int32.toNatClampNeg p1)) = 0 → R ((-9)) μ4))))) ∧ (x3 = 0 → R ((-1)) μ4))))
set_option maxRecDepth 20000 in
set_option maxHeartbeats 4000000 in
theorem wk_X9_now_0 {X : XT} {P : Post} (hO : OkM X cX9_now RX9 2 (some .int) P) (hn : xn X = 2) (p1 : Int32)   (μ : Mem) {R : Int32 → Mem → Prop} (hR : ∀ x m, R x m → P (some (.int x)) m)    (h : vc_X9_now_0 p1  μ R ) : V X 0 [some (.ref 75), some (.int p1)] [] μ := by
  have hX := hO.1
  unfold vc_X9_now_0 at h
  refine v_aload_n hX dX9_now_0 rfl (?_ : V X 1 [some (.ref 75), some (.int p1)] [.ref 75] μ)
  refine v_iconst hX 0 dX9_now_1 rfl (?_ : V X 2 [some (.ref 75), some (.int p1)] [.int 0, .ref 75] μ)
  refine w_puti hX fk_X9_74 fw_9_0 sh_75 rfl dX9_now_2 (fun μ1 e2 => (?_ : V X 5 [some (.ref 75), some (.int p1)] [] μ1))
  replace h := h μ1 e2
  refine v_iload_n hX dX9_now_5 rfl (?_ : V X 6 [some (.ref 75), some (.int p1)] [.int p1] μ1)
  refine v_iconst hX 0 dX9_now_6 rfl (?_ : V X 7 [some (.ref 75), some (.int p1)] [.int 0, .int p1] μ1)
  refine v_bipush hX 7 dX9_now_7 rfl (?_ : V X 9 [some (.ref 75), some (.int p1)] [.int 7, .int 0, .int p1] μ1)
  refine v_callS hX sp_X9_in ck_X9_in mk_X9_78 sk_X9_in (by decide) [.int p1, .int 0, .int 7] [] rfl rfl (Nat.le_of_ble_eq_true rfl) dX9_now_9 ⟨p1, 0, 7, rfl, h.1, fun x3 μ4 hp5 => (?_ : V X 12 [some (.ref 75), some (.int p1)] [.int x3] μ4)⟩
  replace h := h.2 x3 μ4 hp5
  refine v_if_ne hX 17 dX9_now_12 rfl (fun c6 => ?_) (fun c6 => ?_)
  · replace h := h.1 c6
    refine v_iload_n hX dX9_now_17 rfl (?_ : V X 18 [some (.ref 75), some (.int p1)] [.int p1] μ4)
    refine v_iconst hX 2 dX9_now_18 rfl (?_ : V X 19 [some (.ref 75), some (.int p1)] [.int 2, .int p1] μ4)
    refine v_icmp_ge hX 45 dX9_now_19 rfl (fun c7 => ?_) (fun c7 => ?_)
    · replace h := h.1 c7
      refine v_iload_n hX dX9_now_45 rfl (?_ : V X 46 [some (.ref 75), some (.int p1)] [.int p1] μ4)
      refine v_iconst hX 4 dX9_now_46 rfl (?_ : V X 47 [some (.ref 75), some (.int p1)] [.int 4, .int p1] μ4)
      refine v_icmp_ge hX 59 dX9_now_47 rfl (fun c8 => ?_) (fun c8 => ?_)
      · replace h := h.1 c8
        refine v_iload_n hX dX9_now_59 rfl (?_ : V X 60 [some (.ref 75), some (.int p1)] [.int p1] μ4)
        refine v_iconst hX 4 dX9_now_60 rfl (?_ : V X 61 [some (.ref 75), some (.int p1)] [.int 4, .int p1] μ4)
        refine v_icmp_ne hX 71 dX9_now_61 rfl (fun c9 => ?_) (fun c9 => ?_)
        · replace h := h.1 c9
          refine v_iload_n hX dX9_now_71 rfl (?_ : V X 72 [some (.ref 75), some (.int p1)] [.int p1] μ4)
          refine v_iconst hX 5 dX9_now_72 rfl (?_ : V X 73 [some (.ref 75), some (.int p1)] [.int 5, .int p1] μ4)
          refine v_icmp_ne hX 85 dX9_now_73 rfl (fun c10 => ?_) (fun c10 => ?_)
          · replace h := h.1 c10
            refine v_iload_n hX dX9_now_85 rfl (?_ : V X 86 [some (.ref 75), some (.int p1)] [.int p1] μ4)
            refine v_bipush hX 6 dX9_now_86 rfl (?_ : V X 88 [some (.ref 75), some (.int p1)] [.int 6, .int p1] μ4)
            refine v_icmp_ne hX 98 dX9_now_88 rfl (fun c11 => ?_) (fun c11 => ?_)
            · replace h := h.1 c11
              refine v_aload_n hX dX9_now_98 rfl (?_ : V X 99 [some (.ref 75), some (.int p1)] [.ref 75] μ4)
              refine v_geti hX fk_X9_139 sh_75 rfl dX9_now_99 (?_ : V X 102 [some (.ref 75), some (.int p1)] [.int (gi μ4 75 21)] μ4)
              exact v_iret hO dX9_now_102 (hR _ _ h)
            · replace h := h.2 c11
              refine v_aload_n hX dX9_now_91 rfl (?_ : V X 92 [some (.ref 75), some (.int p1)] [.ref 75] μ4)
              refine v_callV hX sp_X9_left ck_X9_left mk_X9_156 mv_X9_left sh_75 (by decide) (by decide) [] [] rfl rfl (Nat.le_of_ble_eq_true rfl) dX9_now_92 ⟨rfl, h.1, fun x12 μ13 hp14 => (?_ : V X 95 [some (.ref 75), some (.int p1)] [.int x12] μ13)⟩
              replace h := h.2 x12 μ13 hp14
              refine v_goto hX 102 dX9_now_95 rfl (?_ : V X 102 [some (.ref 75), some (.int p1)] [.int x12] μ13)
              exact v_iret hO dX9_now_102 (hR _ _ h)
          · replace h := h.2 c10
            refine v_aload_n hX dX9_now_76 rfl (?_ : V X 77 [some (.ref 75), some (.int p1)] [.ref 75] μ4)
            refine v_getr hX (84) fk_X9_34 sh_75 rfl rfl dX9_now_77 (?_ : V X 80 [some (.ref 75), some (.int p1)] [.ref 84] μ4)
            refine v_iconst hX 4 dX9_now_80 rfl (?_ : V X 81 [some (.ref 75), some (.int p1)] [.int 4, .ref 84] μ4)
            refine w_iald hX 4 sh_84 (vp_lit (by decide)) (by decide) dX9_now_81 (?_ : V X 82 [some (.ref 75), some (.int p1)] [.int (gi μ4 84 4)] μ4)
            refine v_goto hX 102 dX9_now_82 rfl (?_ : V X 102 [some (.ref 75), some (.int p1)] [.int (gi μ4 84 4)] μ4)
            exact v_iret hO dX9_now_102 (hR _ _ h)
        · replace h := h.2 c9
          refine v_aload_n hX dX9_now_64 rfl (?_ : V X 65 [some (.ref 75), some (.int p1)] [.ref 75] μ4)
          refine v_callV hX sp_X9_earned ck_X9_earned mk_X9_152 mv_X9_earned sh_75 (by decide) (by decide) [] [] rfl rfl (Nat.le_of_ble_eq_true rfl) dX9_now_65 ⟨rfl, h.1, fun x15 μ16 hp17 => (?_ : V X 68 [some (.ref 75), some (.int p1)] [.int x15] μ16)⟩
          replace h := h.2 x15 μ16 hp17
          refine v_goto hX 102 dX9_now_68 rfl (?_ : V X 102 [some (.ref 75), some (.int p1)] [.int x15] μ16)
          exact v_iret hO dX9_now_102 (hR _ _ h)
      · replace h := h.2 c8
        refine v_aload_n hX dX9_now_50 rfl (?_ : V X 51 [some (.ref 75), some (.int p1)] [.ref 75] μ4)
        refine v_getr hX (84) fk_X9_34 sh_75 rfl rfl dX9_now_51 (?_ : V X 54 [some (.ref 75), some (.int p1)] [.ref 84] μ4)
        refine v_iload_n hX dX9_now_54 rfl (?_ : V X 55 [some (.ref 75), some (.int p1)] [.int p1, .ref 84] μ4)
        have hb18 := h.1
        replace h := h.2
        refine w_iald hX (Int32.toNatClampNeg p1) sh_84 hb18 rfl dX9_now_55 (?_ : V X 56 [some (.ref 75), some (.int p1)] [.int (gi μ4 84 (Int32.toNatClampNeg p1))] μ4)
        refine v_goto hX 102 dX9_now_56 rfl (?_ : V X 102 [some (.ref 75), some (.int p1)] [.int (gi μ4 84 (Int32.toNatClampNeg p1))] μ4)
        exact v_iret hO dX9_now_102 (hR _ _ h)
    · replace h := h.2 c7
      refine v_aload_n hX dX9_now_22 rfl (?_ : V X 23 [some (.ref 75), some (.int p1)] [.ref 75] μ4)
      refine v_getr hX (84) fk_X9_34 sh_75 rfl rfl dX9_now_23 (?_ : V X 26 [some (.ref 75), some (.int p1)] [.ref 84] μ4)
      refine v_iload_n hX dX9_now_26 rfl (?_ : V X 27 [some (.ref 75), some (.int p1)] [.int p1, .ref 84] μ4)
      have hb19 := h.1
      replace h := h.2
      refine w_iald hX (Int32.toNatClampNeg p1) sh_84 hb19 rfl dX9_now_27 (?_ : V X 28 [some (.ref 75), some (.int p1)] [.int (gi μ4 84 (Int32.toNatClampNeg p1))] μ4)
      refine v_if_ne hX 36 dX9_now_28 rfl (fun c20 => ?_) (fun c20 => ?_)
      · replace h := h.1 c20
        refine v_aload_n hX dX9_now_36 rfl (?_ : V X 37 [some (.ref 75), some (.int p1)] [.ref 75] μ4)
        refine v_getr hX (84) fk_X9_34 sh_75 rfl rfl dX9_now_37 (?_ : V X 40 [some (.ref 75), some (.int p1)] [.ref 84] μ4)
        refine v_iload_n hX dX9_now_40 rfl (?_ : V X 41 [some (.ref 75), some (.int p1)] [.int p1, .ref 84] μ4)
        have hb21 := h.1
        replace h := h.2
        refine w_iald hX (Int32.toNatClampNeg p1) sh_84 hb21 rfl dX9_now_41 (?_ : V X 42 [some (.ref 75), some (.int p1)] [.int (gi μ4 84 (Int32.toNatClampNeg p1))] μ4)
        refine v_iconst hX 1 dX9_now_42 rfl (?_ : V X 43 [some (.ref 75), some (.int p1)] [.int 1, .int (gi μ4 84 (Int32.toNatClampNeg p1))] μ4)
        refine v_isub hX dX9_now_43 (?_ : V X 44 [some (.ref 75), some (.int p1)] [.int ((gi μ4 84 (Int32.toNatClampNeg p1)) - 1)] μ4)
        exact v_iret hO dX9_now_44 (hR _ _ h)
      · replace h := h.2 c20
        refine v_bipush hX (-9) dX9_now_31 rfl (?_ : V X 33 [some (.ref 75), some (.int p1)] [.int ((-9))] μ4)
        refine v_goto hX 44 dX9_now_33 rfl (?_ : V X 44 [some (.ref 75), some (.int p1)] [.int ((-9))] μ4)
        exact v_iret hO dX9_now_44 (hR _ _ h)
  · replace h := h.2 c6
    refine v_iconst hX (-1) dX9_now_15 rfl (?_ : V X 16 [some (.ref 75), some (.int p1)] [.int ((-1))] μ4)
    exact v_iret hO dX9_now_16 (hR _ _ h)
set_option maxRecDepth 20000 in
set_option maxHeartbeats 4000000 in
theorem vp_X9_now_0 (p1 : Int32)  (μ : Mem) (hpre : pre_X9_now p1 μ) : vc_X9_now_0 p1 μ (post_X9_now p1 μ)  := by
  simp only [vc_X9_now_0, pre_X9_earned, pre_X9_in, pre_X9_left, post_X9_earned, post_X9_in, post_X9_left, and_imp, call_eq, forall_eq, forall_const, true_and, and_true]
  obtain ⟨h1, h2, h3⟩ := hpre
  unfold post_X9_now nowA decI
  rw [show earnM (ui μ 75 0 0) = earnM μ from rfl, show leftM (ui μ 75 0 0) = leftM μ from rfl, show gi (ui μ 75 0 0) 84 4 = gi μ 84 4 from rfl, show gi (ui μ 75 0 0) 75 21 = gi μ 75 21 from rfl]
  have i1 : isN (ui μ 75 0 0) 77 0 5 := h1
  have i2 : isN (ui μ 75 0 0) 77 2 6 := h2
  have i3 : isN (ui μ 75 0 0) 77 3 5 := h3
  have k8 : (p1 < 0 ∨ 7 < p1) ∨ p1 = 0 ∨ p1 = 1 ∨ p1 = 2 ∨ p1 = 3 ∨ p1 = 4 ∨ p1 = 5 ∨ p1 = 6 ∨ p1 = 7 := by grind (splits := 20)
  rcases k8 with k | rfl | rfl | rfl | rfl | rfl | rfl | rfl | rfl
  · simp only [if_pos k]; grind (splits := 20)
  · rw [show gi (ui μ 75 0 0) 84 (Int32.toNatClampNeg 0) = gi μ 84 0 from rfl]
    have : vp_in 0 15 := vp_lit (by decide)
    grind
  · rw [show gi (ui μ 75 0 0) 84 (Int32.toNatClampNeg 1) = gi μ 84 1 from rfl]
    have : vp_in 1 15 := vp_lit (by decide)
    grind
  · rw [show gi (ui μ 75 0 0) 84 (Int32.toNatClampNeg 2) = gi μ 84 2 from rfl]
    have : vp_in 2 15 := vp_lit (by decide)
    grind
  · rw [show gi (ui μ 75 0 0) 84 (Int32.toNatClampNeg 3) = gi μ 84 3 from rfl]
    have : vp_in 3 15 := vp_lit (by decide)
    grind
  all_goals grind
theorem sp_X9_now : Sp yX9_now cX9_now 2 (some .int) 2 S_X9_now := by
  refine sp_of (by decide) (fun av μ P h => ?_) ?_
  · obtain ⟨p1, rfl, -⟩ := h
    refine ⟨Nat.le_of_ble_eq_true rfl, fun v hv => ?_⟩
    simp only [List.mem_cons, List.not_mem_nil, or_false] at hv
    rcases hv with rfl | rfl <;> rfl
  · rintro X P hO _ μ ⟨p1, rfl, hpre, hpost⟩ hn
    exact wk_X9_now_0 hO hn p1  μ hpost (vp_X9_now_0 p1  μ hpre)
def S_X8_count : Tr := fun av μ P => ∃ (p1 : Int32), av = [.ref 0, .int p1] ∧ pre_X8_count p1 μ ∧ ∀ (x : Int32) (m : Mem), post_X8_count p1 μ x m → P (some (.int x)) m
def vc_X8_count_0 (p1 : Int32)  (μ : Mem) (R : Int32 → Mem → Prop)  : Prop :=
  ((p1 = 0 → ((gp μ 1) = 3 ∨ (gp μ 1) = 10) ∧ R (gi μ ((gp μ 1)) 0) μ) ∧ (¬ p1 = 0 → ((p1 = 1 → ((gp μ 1) = 3 ∨ (gp μ 1) = 10) ∧ R (gi μ ((gp μ 1)) 4) μ) ∧ (¬ p1 = 1 → ((p1 = 2 → ((gp μ 1) = 3 ∨ (gp μ 1) = 10) ∧ R (gi μ ((gp μ 1)) 7) μ) ∧ (¬ p1 = 2 → ((p1 = 3 → ((gp μ 1) = 3 ∨ (gp μ 1) = 10) ∧ R (gi μ ((gp μ 1)) 9) μ) ∧ (¬ p1 = 3 → ((p1 = 4 → ((gp μ 1) = 3 ∨ (gp μ 1) = 10) ∧ R (gi μ ((gp μ 1)) 10) μ) ∧ (¬ p1 = 4 → ((p1 = 5 → ((gp μ 1) = 3 ∨ (gp μ 1) = 10) ∧ R (gi μ ((gp μ 1)) 11) μ) ∧ (¬ p1 = 5 → ((p1 = 6 → R (gi μ 71 2) μ) ∧ (¬ p1 = 6 → ((p1 = 7 → R (gi μ 1 1) μ) ∧ (¬ p1 = 7 → R ((-1)) μ))))))))))))))))
set_option maxRecDepth 20000 in
set_option maxHeartbeats 4000000 in
theorem wk_X8_count_0 {X : XT} {P : Post} (hO : OkM X cX8_count RX8 0 (some .int) P) (hn : xn X = 2) (p1 : Int32)   (μ : Mem) {R : Int32 → Mem → Prop} (hR : ∀ x m, R x m → P (some (.int x)) m)    (h : vc_X8_count_0 p1  μ R ) : V X 0 [some (.ref 0), some (.int p1)] [] μ := by
  have hX := hO.1
  unfold vc_X8_count_0 at h
  refine v_iload_n hX dX8_count_0 rfl (?_ : V X 1 [some (.ref 0), some (.int p1)] [.int p1] μ)
  by_cases c1 : p1 = 0
  · replace h := h.1 c1
    refine v_tableIn hX 48 dX8_count_1 (by rw [c1]; decide) (by rw [c1]; decide) (o := 47) (by rw [c1]; decide) rfl (?_ : V X 48 [some (.ref 0), some (.int p1)] [] μ)
    refine v_aload_n hX dX8_count_48 rfl (?_ : V X 49 [some (.ref 0), some (.int p1)] [.ref 0] μ)
    have hh2 := h.1
    replace h := h.2
    refine v_getp hX (gp μ 1) fk_X8_19 sh_0 rfl rfl dX8_count_49 (?_ : V X 52 [some (.ref 0), some (.int p1)] [.ref ((gp μ 1))] μ)
    refine v_geti hX fk_X8_207 (sHo hh2) rfl dX8_count_52 (?_ : V X 55 [some (.ref 0), some (.int p1)] [.int (gi μ ((gp μ 1)) 0)] μ)
    exact v_iret hO dX8_count_55 (hR _ _ h)
  · replace h := h.2 c1
    by_cases c3 : p1 = 1
    · replace h := h.1 c3
      refine v_tableIn hX 56 dX8_count_1 (by rw [c3]; decide) (by rw [c3]; decide) (o := 55) (by rw [c3]; decide) rfl (?_ : V X 56 [some (.ref 0), some (.int p1)] [] μ)
      refine v_aload_n hX dX8_count_56 rfl (?_ : V X 57 [some (.ref 0), some (.int p1)] [.ref 0] μ)
      have hh4 := h.1
      replace h := h.2
      refine v_getp hX (gp μ 1) fk_X8_19 sh_0 rfl rfl dX8_count_57 (?_ : V X 60 [some (.ref 0), some (.int p1)] [.ref ((gp μ 1))] μ)
      refine v_geti hX fk_X8_265 (sHo hh4) rfl dX8_count_60 (?_ : V X 63 [some (.ref 0), some (.int p1)] [.int (gi μ ((gp μ 1)) 4)] μ)
      exact v_iret hO dX8_count_63 (hR _ _ h)
    · replace h := h.2 c3
      by_cases c5 : p1 = 2
      · replace h := h.1 c5
        refine v_tableIn hX 64 dX8_count_1 (by rw [c5]; decide) (by rw [c5]; decide) (o := 63) (by rw [c5]; decide) rfl (?_ : V X 64 [some (.ref 0), some (.int p1)] [] μ)
        refine v_aload_n hX dX8_count_64 rfl (?_ : V X 65 [some (.ref 0), some (.int p1)] [.ref 0] μ)
        have hh6 := h.1
        replace h := h.2
        refine v_getp hX (gp μ 1) fk_X8_19 sh_0 rfl rfl dX8_count_65 (?_ : V X 68 [some (.ref 0), some (.int p1)] [.ref ((gp μ 1))] μ)
        refine v_geti hX fk_X8_137 (sHo hh6) rfl dX8_count_68 (?_ : V X 71 [some (.ref 0), some (.int p1)] [.int (gi μ ((gp μ 1)) 7)] μ)
        exact v_iret hO dX8_count_71 (hR _ _ h)
      · replace h := h.2 c5
        by_cases c7 : p1 = 3
        · replace h := h.1 c7
          refine v_tableIn hX 72 dX8_count_1 (by rw [c7]; decide) (by rw [c7]; decide) (o := 71) (by rw [c7]; decide) rfl (?_ : V X 72 [some (.ref 0), some (.int p1)] [] μ)
          refine v_aload_n hX dX8_count_72 rfl (?_ : V X 73 [some (.ref 0), some (.int p1)] [.ref 0] μ)
          have hh8 := h.1
          replace h := h.2
          refine v_getp hX (gp μ 1) fk_X8_19 sh_0 rfl rfl dX8_count_73 (?_ : V X 76 [some (.ref 0), some (.int p1)] [.ref ((gp μ 1))] μ)
          refine v_geti hX fk_X8_178 (sHo hh8) rfl dX8_count_76 (?_ : V X 79 [some (.ref 0), some (.int p1)] [.int (gi μ ((gp μ 1)) 9)] μ)
          exact v_iret hO dX8_count_79 (hR _ _ h)
        · replace h := h.2 c7
          by_cases c9 : p1 = 4
          · replace h := h.1 c9
            refine v_tableIn hX 80 dX8_count_1 (by rw [c9]; decide) (by rw [c9]; decide) (o := 79) (by rw [c9]; decide) rfl (?_ : V X 80 [some (.ref 0), some (.int p1)] [] μ)
            refine v_aload_n hX dX8_count_80 rfl (?_ : V X 81 [some (.ref 0), some (.int p1)] [.ref 0] μ)
            have hh10 := h.1
            replace h := h.2
            refine v_getp hX (gp μ 1) fk_X8_19 sh_0 rfl rfl dX8_count_81 (?_ : V X 84 [some (.ref 0), some (.int p1)] [.ref ((gp μ 1))] μ)
            refine v_geti hX fk_X8_268 (sHo hh10) rfl dX8_count_84 (?_ : V X 87 [some (.ref 0), some (.int p1)] [.int (gi μ ((gp μ 1)) 10)] μ)
            exact v_iret hO dX8_count_87 (hR _ _ h)
          · replace h := h.2 c9
            by_cases c11 : p1 = 5
            · replace h := h.1 c11
              refine v_tableIn hX 88 dX8_count_1 (by rw [c11]; decide) (by rw [c11]; decide) (o := 87) (by rw [c11]; decide) rfl (?_ : V X 88 [some (.ref 0), some (.int p1)] [] μ)
              refine v_aload_n hX dX8_count_88 rfl (?_ : V X 89 [some (.ref 0), some (.int p1)] [.ref 0] μ)
              have hh12 := h.1
              replace h := h.2
              refine v_getp hX (gp μ 1) fk_X8_19 sh_0 rfl rfl dX8_count_89 (?_ : V X 92 [some (.ref 0), some (.int p1)] [.ref ((gp μ 1))] μ)
              refine v_geti hX fk_X8_271 (sHo hh12) rfl dX8_count_92 (?_ : V X 95 [some (.ref 0), some (.int p1)] [.int (gi μ ((gp μ 1)) 11)] μ)
              exact v_iret hO dX8_count_95 (hR _ _ h)
            · replace h := h.2 c11
              by_cases c13 : p1 = 6
              · replace h := h.1 c13
                refine v_tableIn hX 96 dX8_count_1 (by rw [c13]; decide) (by rw [c13]; decide) (o := 95) (by rw [c13]; decide) rfl (?_ : V X 96 [some (.ref 0), some (.int p1)] [] μ)
                refine v_aload_n hX dX8_count_96 rfl (?_ : V X 97 [some (.ref 0), some (.int p1)] [.ref 0] μ)
                refine v_getr hX (71) fk_X8_72 sh_0 rfl rfl dX8_count_97 (?_ : V X 100 [some (.ref 0), some (.int p1)] [.ref 71] μ)
                refine v_geti hX fk_X8_105 sh_71 rfl dX8_count_100 (?_ : V X 103 [some (.ref 0), some (.int p1)] [.int (gi μ 71 2)] μ)
                exact v_iret hO dX8_count_103 (hR _ _ h)
              · replace h := h.2 c13
                by_cases c14 : p1 = 7
                · replace h := h.1 c14
                  refine v_tableIn hX 104 dX8_count_1 (by rw [c14]; decide) (by rw [c14]; decide) (o := 103) (by rw [c14]; decide) rfl (?_ : V X 104 [some (.ref 0), some (.int p1)] [] μ)
                  refine v_aload_n hX dX8_count_104 rfl (?_ : V X 105 [some (.ref 0), some (.int p1)] [.ref 0] μ)
                  refine v_getr hX (1) fk_X8_10 sh_0 rfl rfl dX8_count_105 (?_ : V X 108 [some (.ref 0), some (.int p1)] [.ref 1] μ)
                  refine v_geti hX fk_X8_84 sh_1 rfl dX8_count_108 (?_ : V X 111 [some (.ref 0), some (.int p1)] [.int (gi μ 1 1)] μ)
                  exact v_iret hO dX8_count_111 (hR _ _ h)
                · replace h := h.2 c14
                  refine v_tableOut hX 112 dX8_count_1 (by have t0 := lv_neT (a := 0) c1 rfl; have t1 := lv_neT (a := 1) c3 rfl; have t2 := lv_neT (a := 2) c5 rfl; have t3 := lv_neT (a := 3) c7 rfl; have t4 := lv_neT (a := 4) c9 rfl; have t5 := lv_neT (a := 5) c11 rfl; have t6 := lv_neT (a := 6) c13 rfl; have t7 := lv_neT (a := 7) c14 rfl; omega) rfl (?_ : V X 112 [some (.ref 0), some (.int p1)] [] μ)
                  refine v_iconst hX (-1) dX8_count_112 rfl (?_ : V X 113 [some (.ref 0), some (.int p1)] [.int ((-1))] μ)
                  exact v_iret hO dX8_count_113 (hR _ _ h)
set_option maxRecDepth 20000 in
set_option maxHeartbeats 4000000 in
theorem vp_X8_count_0 (p1 : Int32)  (μ : Mem) (hpre : pre_X8_count p1 μ) : vc_X8_count_0 p1 μ (post_X8_count p1 μ)  := by
  simp only [vc_X8_count_0, and_imp, call_eq, forall_eq, forall_const, true_and, and_true]
  unfold post_X8_count countA
  unfold pre_X8_count hsOK at hpre
  grind (splits := 40)
theorem sp_X8_count : Sp yX8_count cX8_count 2 (some .int) 0 S_X8_count := by
  refine sp_of (by decide) (fun av μ P h => ?_) ?_
  · obtain ⟨p1, rfl, -⟩ := h
    refine ⟨Nat.le_of_ble_eq_true rfl, fun v hv => ?_⟩
    simp only [List.mem_cons, List.not_mem_nil, or_false] at hv
    rcases hv with rfl | rfl <;> rfl
  · rintro X P hO _ μ ⟨p1, rfl, hpre, hpost⟩ hn
    exact wk_X8_count_0 hO hn p1  μ hpost (vp_X8_count_0 p1  μ hpre)
def S_X9_count : Tr := fun av μ P => ∃ (p1 : Int32), av = [.ref 75, .int p1] ∧ pre_X9_count p1 μ ∧ ∀ (x : Int32) (m : Mem), post_X9_count p1 μ x m → P (some (.int x)) m
def vc_X9_count_0 (p1 : Int32)  (μ : Mem) (R : Int32 → Mem → Prop)  : Prop :=
  (∀ μ1, μ1 = ui μ 75 0 0 → (pre_X9_in p1 0 5 μ1 ∧ ∀ (x3 : Int32) (μ4 : Mem), post_X9_in p1 0 5 μ1 x3 μ4 → ((x3 = 0 → ((¬ p1 = 6 → ((¬ p1 = 7 → R ((-1)) μ4) ∧ (p1 = 7 → R (gi μ4 75 3) μ4))) ∧ (p1 = 6 → R (gi μ4 75 24) μ4))) ∧ (¬ x3 = 0 → vp_in p1 12 ∧ R (gi μ4 77 (Int32.toNatClampNeg p1)) μ4))))
set_option maxRecDepth 20000 in
set_option maxHeartbeats 4000000 in
theorem wk_X9_count_0 {X : XT} {P : Post} (hO : OkM X cX9_count RX9 1 (some .int) P) (hn : xn X = 2) (p1 : Int32)   (μ : Mem) {R : Int32 → Mem → Prop} (hR : ∀ x m, R x m → P (some (.int x)) m)    (h : vc_X9_count_0 p1  μ R ) : V X 0 [some (.ref 75), some (.int p1)] [] μ := by
  have hX := hO.1
  unfold vc_X9_count_0 at h
  refine v_aload_n hX dX9_count_0 rfl (?_ : V X 1 [some (.ref 75), some (.int p1)] [.ref 75] μ)
  refine v_iconst hX 0 dX9_count_1 rfl (?_ : V X 2 [some (.ref 75), some (.int p1)] [.int 0, .ref 75] μ)
  refine w_puti hX fk_X9_74 fw_9_0 sh_75 rfl dX9_count_2 (fun μ1 e2 => (?_ : V X 5 [some (.ref 75), some (.int p1)] [] μ1))
  replace h := h μ1 e2
  refine v_iload_n hX dX9_count_5 rfl (?_ : V X 6 [some (.ref 75), some (.int p1)] [.int p1] μ1)
  refine v_iconst hX 0 dX9_count_6 rfl (?_ : V X 7 [some (.ref 75), some (.int p1)] [.int 0, .int p1] μ1)
  refine v_iconst hX 5 dX9_count_7 rfl (?_ : V X 8 [some (.ref 75), some (.int p1)] [.int 5, .int 0, .int p1] μ1)
  refine v_callS hX sp_X9_in ck_X9_in mk_X9_78 sk_X9_in (by decide) [.int p1, .int 0, .int 5] [] rfl rfl (Nat.le_of_ble_eq_true rfl) dX9_count_8 ⟨p1, 0, 5, rfl, h.1, fun x3 μ4 hp5 => (?_ : V X 11 [some (.ref 75), some (.int p1)] [.int x3] μ4)⟩
  replace h := h.2 x3 μ4 hp5
  refine v_if_eq hX 23 dX9_count_11 rfl (fun c6 => ?_) (fun c6 => ?_)
  · replace h := h.1 c6
    refine v_iload_n hX dX9_count_23 rfl (?_ : V X 24 [some (.ref 75), some (.int p1)] [.int p1] μ4)
    refine v_bipush hX 6 dX9_count_24 rfl (?_ : V X 26 [some (.ref 75), some (.int p1)] [.int 6, .int p1] μ4)
    refine v_icmp_ne hX 36 dX9_count_26 rfl (fun c7 => ?_) (fun c7 => ?_)
    · replace h := h.1 c7
      refine v_iload_n hX dX9_count_36 rfl (?_ : V X 37 [some (.ref 75), some (.int p1)] [.int p1] μ4)
      refine v_bipush hX 7 dX9_count_37 rfl (?_ : V X 39 [some (.ref 75), some (.int p1)] [.int 7, .int p1] μ4)
      refine v_icmp_ne hX 49 dX9_count_39 rfl (fun c8 => ?_) (fun c8 => ?_)
      · replace h := h.1 c8
        refine v_iconst hX (-1) dX9_count_49 rfl (?_ : V X 50 [some (.ref 75), some (.int p1)] [.int ((-1))] μ4)
        exact v_iret hO dX9_count_50 (hR _ _ h)
      · replace h := h.2 c8
        refine v_aload_n hX dX9_count_42 rfl (?_ : V X 43 [some (.ref 75), some (.int p1)] [.ref 75] μ4)
        refine v_geti hX fk_X9_82 sh_75 rfl dX9_count_43 (?_ : V X 46 [some (.ref 75), some (.int p1)] [.int (gi μ4 75 3)] μ4)
        refine v_goto hX 50 dX9_count_46 rfl (?_ : V X 50 [some (.ref 75), some (.int p1)] [.int (gi μ4 75 3)] μ4)
        exact v_iret hO dX9_count_50 (hR _ _ h)
    · replace h := h.2 c7
      refine v_aload_n hX dX9_count_29 rfl (?_ : V X 30 [some (.ref 75), some (.int p1)] [.ref 75] μ4)
      refine v_geti hX fk_X9_136 sh_75 rfl dX9_count_30 (?_ : V X 33 [some (.ref 75), some (.int p1)] [.int (gi μ4 75 24)] μ4)
      refine v_goto hX 50 dX9_count_33 rfl (?_ : V X 50 [some (.ref 75), some (.int p1)] [.int (gi μ4 75 24)] μ4)
      exact v_iret hO dX9_count_50 (hR _ _ h)
  · replace h := h.2 c6
    refine v_aload_n hX dX9_count_14 rfl (?_ : V X 15 [some (.ref 75), some (.int p1)] [.ref 75] μ4)
    refine v_getr hX (77) fk_X9_13 sh_75 rfl rfl dX9_count_15 (?_ : V X 18 [some (.ref 75), some (.int p1)] [.ref 77] μ4)
    refine v_iload_n hX dX9_count_18 rfl (?_ : V X 19 [some (.ref 75), some (.int p1)] [.int p1, .ref 77] μ4)
    have hb9 := h.1
    replace h := h.2
    refine w_iald hX (Int32.toNatClampNeg p1) sh_77 hb9 rfl dX9_count_19 (?_ : V X 20 [some (.ref 75), some (.int p1)] [.int (gi μ4 77 (Int32.toNatClampNeg p1))] μ4)
    refine v_goto hX 50 dX9_count_20 rfl (?_ : V X 50 [some (.ref 75), some (.int p1)] [.int (gi μ4 77 (Int32.toNatClampNeg p1))] μ4)
    exact v_iret hO dX9_count_50 (hR _ _ h)
set_option maxRecDepth 20000 in
set_option maxHeartbeats 4000000 in
theorem vp_X9_count_0 (p1 : Int32)  (μ : Mem) (hpre : pre_X9_count p1 μ) : vc_X9_count_0 p1 μ (post_X9_count p1 μ)  := by
  simp only [vc_X9_count_0, pre_X9_in, post_X9_in, and_imp, call_eq, forall_eq, forall_const, true_and, and_true]
  unfold post_X9_count countA
  rw [show gi (ui μ 75 0 0) 75 24 = gi μ 75 24 from rfl, show gi (ui μ 75 0 0) 75 3 = gi μ 75 3 from rfl]
  have k8 : (p1 < 0 ∨ 5 < p1) ∨ p1 = 0 ∨ p1 = 1 ∨ p1 = 2 ∨ p1 = 3 ∨ p1 = 4 ∨ p1 = 5 := by grind (splits := 20)
  rcases k8 with k | rfl | rfl | rfl | rfl | rfl | rfl
  · simp only [if_pos k]; grind (splits := 20)
  · rw [show gi (ui μ 75 0 0) 77 (Int32.toNatClampNeg 0) = gi μ 77 0 from rfl]
    have : vp_in 0 12 := vp_lit (by decide)
    grind
  · rw [show gi (ui μ 75 0 0) 77 (Int32.toNatClampNeg 1) = gi μ 77 1 from rfl]
    have : vp_in 1 12 := vp_lit (by decide)
    grind
  · rw [show gi (ui μ 75 0 0) 77 (Int32.toNatClampNeg 2) = gi μ 77 2 from rfl]
    have : vp_in 2 12 := vp_lit (by decide)
    grind
  · rw [show gi (ui μ 75 0 0) 77 (Int32.toNatClampNeg 3) = gi μ 77 3 from rfl]
    have : vp_in 3 12 := vp_lit (by decide)
    grind
  · rw [show gi (ui μ 75 0 0) 77 (Int32.toNatClampNeg 4) = gi μ 77 4 from rfl]
    have : vp_in 4 12 := vp_lit (by decide)
    grind
  · rw [show gi (ui μ 75 0 0) 77 (Int32.toNatClampNeg 5) = gi μ 77 5 from rfl]
    have : vp_in 5 12 := vp_lit (by decide)
    grind
theorem sp_X9_count : Sp yX9_count cX9_count 2 (some .int) 1 S_X9_count := by
  refine sp_of (by decide) (fun av μ P h => ?_) ?_
  · obtain ⟨p1, rfl, -⟩ := h
    refine ⟨Nat.le_of_ble_eq_true rfl, fun v hv => ?_⟩
    simp only [List.mem_cons, List.not_mem_nil, or_false] at hv
    rcases hv with rfl | rfl <;> rfl
  · rintro X P hO _ μ ⟨p1, rfl, hpre, hpost⟩ hn
    exact wk_X9_count_0 hO hn p1  μ hpost (vp_X9_count_0 p1  μ hpre)
def S_X8_trace : Tr := fun av μ P => av = [.ref 0] ∧ pre_X8_trace  μ ∧ ∀ (x : Int64) (m : Mem), post_X8_trace  μ x m → P (some (.long x)) m
def vc_X8_trace_0   (μ : Mem) (R : Int64 → Mem → Prop)  : Prop :=
  R (gl μ 0 12) μ
set_option maxRecDepth 20000 in
set_option maxHeartbeats 4000000 in
theorem wk_X8_trace_0 {X : XT} {P : Post} (hO : OkM X cX8_trace RX8 0 (some .long) P) (hn : xn X = 1)    (μ : Mem) {R : Int64 → Mem → Prop} (hR : ∀ x m, R x m → P (some (.long x)) m)    (h : vc_X8_trace_0   μ R ) : V X 0 [some (.ref 0)] [] μ := by
  have hX := hO.1
  unfold vc_X8_trace_0 at h
  refine v_aload_n hX dX8_trace_0 rfl (?_ : V X 1 [some (.ref 0)] [.ref 0] μ)
  refine v_getl hX fk_X8_80 sh_0 rfl dX8_trace_1 (?_ : V X 4 [some (.ref 0)] [.long (gl μ 0 12)] μ)
  exact v_lret hO dX8_trace_4 (hR _ _ h)
set_option maxRecDepth 20000 in
set_option maxHeartbeats 4000000 in
theorem vp_X8_trace_0   (μ : Mem) (hpre : pre_X8_trace  μ) : vc_X8_trace_0  μ (post_X8_trace  μ)  := by
  simp only [vc_X8_trace_0, and_imp, call_eq, forall_eq, forall_const, true_and, and_true]
  exact ⟨rfl, rfl⟩
theorem sp_X8_trace : Sp yX8_trace cX8_trace 1 (some .long) 0 S_X8_trace := by
  refine sp_of (by decide) (fun av μ P h => ?_) ?_
  · obtain ⟨rfl, -⟩ := h
    refine ⟨Nat.le_of_ble_eq_true rfl, fun v hv => ?_⟩
    simp only [List.mem_cons, List.not_mem_nil, or_false] at hv
    subst hv; rfl
  · rintro X P hO _ μ ⟨rfl, hpre, hpost⟩ hn
    exact wk_X8_trace_0 hO hn   μ hpost (vp_X8_trace_0   μ hpre)
def S_X9_trace : Tr := fun av μ P => av = [.ref 75] ∧ pre_X9_trace  μ ∧ ∀ (x : Int64) (m : Mem), post_X9_trace  μ x m → P (some (.long x)) m
def vc_X9_trace_0   (μ : Mem) (R : Int64 → Mem → Prop)  : Prop :=
  (∀ μ1, μ1 = ui μ 75 0 0 → R (gl μ1 75 1) μ1)
set_option maxRecDepth 20000 in
set_option maxHeartbeats 4000000 in
theorem wk_X9_trace_0 {X : XT} {P : Post} (hO : OkM X cX9_trace RX9 0 (some .long) P) (hn : xn X = 1)    (μ : Mem) {R : Int64 → Mem → Prop} (hR : ∀ x m, R x m → P (some (.long x)) m)    (h : vc_X9_trace_0   μ R ) : V X 0 [some (.ref 75)] [] μ := by
  have hX := hO.1
  unfold vc_X9_trace_0 at h
  refine v_aload_n hX dX9_trace_0 rfl (?_ : V X 1 [some (.ref 75)] [.ref 75] μ)
  refine v_iconst hX 0 dX9_trace_1 rfl (?_ : V X 2 [some (.ref 75)] [.int 0, .ref 75] μ)
  refine w_puti hX fk_X9_74 fw_9_0 sh_75 rfl dX9_trace_2 (fun μ1 e2 => (?_ : V X 5 [some (.ref 75)] [] μ1))
  replace h := h μ1 e2
  refine v_aload_n hX dX9_trace_5 rfl (?_ : V X 6 [some (.ref 75)] [.ref 75] μ1)
  refine v_getl hX fk_X9_201 sh_75 rfl dX9_trace_6 (?_ : V X 9 [some (.ref 75)] [.long (gl μ1 75 1)] μ1)
  exact v_lret hO dX9_trace_9 (hR _ _ h)
set_option maxRecDepth 20000 in
set_option maxHeartbeats 4000000 in
theorem vp_X9_trace_0   (μ : Mem) (hpre : pre_X9_trace  μ) : vc_X9_trace_0  μ (post_X9_trace  μ)  := by
  simp only [vc_X9_trace_0, and_imp, call_eq, forall_eq, forall_const, true_and, and_true]
  exact ⟨rfl, rfl⟩
theorem sp_X9_trace : Sp yX9_trace cX9_trace 1 (some .long) 0 S_X9_trace := by
  refine sp_of (by decide) (fun av μ P h => ?_) ?_
  · obtain ⟨rfl, -⟩ := h
    refine ⟨Nat.le_of_ble_eq_true rfl, fun v hv => ?_⟩
    simp only [List.mem_cons, List.not_mem_nil, or_false] at hv
    subst hv; rfl
  · rintro X P hO _ μ ⟨rfl, hpre, hpost⟩ hn
    exact wk_X9_trace_0 hO hn   μ hpost (vp_X9_trace_0   μ hpre)
def S_X8_forget : Tr := fun av μ P => av = [.ref 0] ∧ pre_X8_forget  μ ∧ ∀ (x : Int32) (m : Mem), post_X8_forget  μ x m → P (some (.int x)) m
def vc_X8_forget_0   (μ : Mem) (R : Int32 → Mem → Prop)  : Prop :=
  (∀ μ1, μ1 = ui μ 71 2 0 → R (gi μ 71 2) μ1)
set_option maxRecDepth 20000 in
set_option maxHeartbeats 4000000 in
theorem wk_X8_forget_0 {X : XT} {P : Post} (hO : OkM X cX8_forget RX8 0 (some .int) P) (hn : xn X = 2)    (μ : Mem) {R : Int32 → Mem → Prop} (hR : ∀ x m, R x m → P (some (.int x)) m)    (h : vc_X8_forget_0   μ R ) : V X 0 [some (.ref 0), none] [] μ := by
  have hX := hO.1
  unfold vc_X8_forget_0 at h
  refine v_aload_n hX dX8_forget_0 rfl (?_ : V X 1 [some (.ref 0), none] [.ref 0] μ)
  refine v_getr hX (71) fk_X8_72 sh_0 rfl rfl dX8_forget_1 (?_ : V X 4 [some (.ref 0), none] [.ref 71] μ)
  refine v_geti hX fk_X8_105 sh_71 rfl dX8_forget_4 (?_ : V X 7 [some (.ref 0), none] [.int (gi μ 71 2)] μ)
  refine v_istore_n hX dX8_forget_7 (by rw [hn]; decide) (?_ : V X 8 [some (.ref 0), some (.int (gi μ 71 2))] [] μ)
  refine v_aload_n hX dX8_forget_8 rfl (?_ : V X 9 [some (.ref 0), some (.int (gi μ 71 2))] [.ref 0] μ)
  refine v_getr hX (71) fk_X8_72 sh_0 rfl rfl dX8_forget_9 (?_ : V X 12 [some (.ref 0), some (.int (gi μ 71 2))] [.ref 71] μ)
  refine v_iconst hX 0 dX8_forget_12 rfl (?_ : V X 13 [some (.ref 0), some (.int (gi μ 71 2))] [.int 0, .ref 71] μ)
  refine w_puti hX fk_X8_105 fw_4_2 sh_71 rfl dX8_forget_13 (fun μ1 e2 => (?_ : V X 16 [some (.ref 0), some (.int (gi μ 71 2))] [] μ1))
  replace h := h μ1 e2
  refine v_iload_n hX dX8_forget_16 rfl (?_ : V X 17 [some (.ref 0), some (.int (gi μ 71 2))] [.int (gi μ 71 2)] μ1)
  exact v_iret hO dX8_forget_17 (hR _ _ h)
set_option maxRecDepth 20000 in
set_option maxHeartbeats 4000000 in
theorem vp_X8_forget_0   (μ : Mem) (hpre : pre_X8_forget  μ) : vc_X8_forget_0  μ (post_X8_forget  μ)  := by
  simp only [vc_X8_forget_0, and_imp, call_eq, forall_eq, forall_const, true_and, and_true]
  exact ⟨rfl, rfl⟩
theorem sp_X8_forget : Sp yX8_forget cX8_forget 2 (some .int) 0 S_X8_forget := by
  refine sp_of (by decide) (fun av μ P h => ?_) ?_
  · obtain ⟨rfl, -⟩ := h
    refine ⟨Nat.le_of_ble_eq_true rfl, fun v hv => ?_⟩
    simp only [List.mem_cons, List.not_mem_nil, or_false] at hv
    subst hv; rfl
  · rintro X P hO _ μ ⟨rfl, hpre, hpost⟩ hn
    exact wk_X8_forget_0 hO hn   μ hpost (vp_X8_forget_0   μ hpre)
def S_X9_forget : Tr := fun av μ P => av = [.ref 75] ∧ pre_X9_forget  μ ∧ ∀ (x : Int32) (m : Mem), post_X9_forget  μ x m → P (some (.int x)) m
def vc_X9_forget_0   (μ : Mem) (R : Int32 → Mem → Prop)  : Prop :=
  (∀ μ1, μ1 = ui μ 75 0 0 → (∀ μ3, μ3 = ui μ1 75 24 0 → R (gi μ1 75 24) μ3))
set_option maxRecDepth 20000 in
set_option maxHeartbeats 4000000 in
theorem wk_X9_forget_0 {X : XT} {P : Post} (hO : OkM X cX9_forget RX9 0 (some .int) P) (hn : xn X = 2)    (μ : Mem) {R : Int32 → Mem → Prop} (hR : ∀ x m, R x m → P (some (.int x)) m)    (h : vc_X9_forget_0   μ R ) : V X 0 [some (.ref 75), none] [] μ := by
  have hX := hO.1
  unfold vc_X9_forget_0 at h
  refine v_aload_n hX dX9_forget_0 rfl (?_ : V X 1 [some (.ref 75), none] [.ref 75] μ)
  refine v_iconst hX 0 dX9_forget_1 rfl (?_ : V X 2 [some (.ref 75), none] [.int 0, .ref 75] μ)
  refine w_puti hX fk_X9_74 fw_9_0 sh_75 rfl dX9_forget_2 (fun μ1 e2 => (?_ : V X 5 [some (.ref 75), none] [] μ1))
  replace h := h μ1 e2
  refine v_aload_n hX dX9_forget_5 rfl (?_ : V X 6 [some (.ref 75), none] [.ref 75] μ1)
  refine v_geti hX fk_X9_136 sh_75 rfl dX9_forget_6 (?_ : V X 9 [some (.ref 75), none] [.int (gi μ1 75 24)] μ1)
  refine v_istore_n hX dX9_forget_9 (by rw [hn]; decide) (?_ : V X 10 [some (.ref 75), some (.int (gi μ1 75 24))] [] μ1)
  refine v_aload_n hX dX9_forget_10 rfl (?_ : V X 11 [some (.ref 75), some (.int (gi μ1 75 24))] [.ref 75] μ1)
  refine v_iconst hX 0 dX9_forget_11 rfl (?_ : V X 12 [some (.ref 75), some (.int (gi μ1 75 24))] [.int 0, .ref 75] μ1)
  refine w_puti hX fk_X9_136 fw_9_24 sh_75 rfl dX9_forget_12 (fun μ3 e4 => (?_ : V X 15 [some (.ref 75), some (.int (gi μ1 75 24))] [] μ3))
  replace h := h μ3 e4
  refine v_iload_n hX dX9_forget_15 rfl (?_ : V X 16 [some (.ref 75), some (.int (gi μ1 75 24))] [.int (gi μ1 75 24)] μ3)
  exact v_iret hO dX9_forget_16 (hR _ _ h)
set_option maxRecDepth 20000 in
set_option maxHeartbeats 4000000 in
theorem vp_X9_forget_0   (μ : Mem) (hpre : pre_X9_forget  μ) : vc_X9_forget_0  μ (post_X9_forget  μ)  := by
  simp only [vc_X9_forget_0, and_imp, call_eq, forall_eq, forall_const, true_and, and_true]
  exact ⟨rfl, rfl⟩
theorem sp_X9_forget : Sp yX9_forget cX9_forget 2 (some .int) 0 S_X9_forget := by
  refine sp_of (by decide) (fun av μ P h => ?_) ?_
  · obtain ⟨rfl, -⟩ := h
    refine ⟨Nat.le_of_ble_eq_true rfl, fun v hv => ?_⟩
    simp only [List.mem_cons, List.not_mem_nil, or_false] at hv
    subst hv; rfl
  · rintro X P hO _ μ ⟨rfl, hpre, hpost⟩ hn
    exact wk_X9_forget_0 hO hn   μ hpost (vp_X9_forget_0   μ hpre)
def S_X8_felt : Tr := fun av μ P => ∃ (p1 : Int32) (p2 : Int32), av = [.ref 0, .int p1, .int p2] ∧ pre_X8_felt p1 p2 μ ∧ ∀ (x : Int32) (m : Mem), post_X8_felt p1 p2 μ x m → P (some (.int x)) m
def vc_X8_felt_0 (p1 : Int32) (p2 : Int32)  (μ : Mem) (R : Int32 → Mem → Prop)  : Prop :=
  ((gp μ 1) = 3 ∨ (gp μ 1) = 10) ∧ (pre_X2_hasDoing ((gp μ 1)) p1 μ ∧ ∀ (x2 : Int32) (μ3 : Mem), post_X2_hasDoing ((gp μ 1)) p1 μ x2 μ3 → ((x2 = 0 → R ((-1)) μ3) ∧ (¬ x2 = 0 → ((p2 < 0 → R ((-1)) μ3) ∧ (¬ p2 < 0 → ((p2 ≤ 30 → (((gi μ3 71 2) < 5 → (pre_X4_add p1 p2 μ3 ∧ ∀ (μ10 : Mem), post_X4_add p1 p2 μ3 μ10 → R (gi μ10 71 2) μ10)) ∧ (¬ (gi μ3 71 2) < 5 → R ((-3)) μ3))) ∧ (¬ p2 ≤ 30 → R ((-1)) μ3)))))))
set_option maxRecDepth 20000 in
set_option maxHeartbeats 4000000 in
theorem wk_X8_felt_0 {X : XT} {P : Post} (hO : OkM X cX8_felt RX8 1 (some .int) P) (hn : xn X = 3) (p1 : Int32) (p2 : Int32)   (μ : Mem) {R : Int32 → Mem → Prop} (hR : ∀ x m, R x m → P (some (.int x)) m)    (h : vc_X8_felt_0 p1 p2  μ R ) : V X 0 [some (.ref 0), some (.int p1), some (.int p2)] [] μ := by
  have hX := hO.1
  unfold vc_X8_felt_0 at h
  refine v_aload_n hX dX8_felt_0 rfl (?_ : V X 1 [some (.ref 0), some (.int p1), some (.int p2)] [.ref 0] μ)
  have hh1 := h.1
  replace h := h.2
  refine v_getp hX (gp μ 1) fk_X8_19 sh_0 rfl rfl dX8_felt_1 (?_ : V X 4 [some (.ref 0), some (.int p1), some (.int p2)] [.ref ((gp μ 1))] μ)
  refine v_iload_n hX dX8_felt_4 rfl (?_ : V X 5 [some (.ref 0), some (.int p1), some (.int p2)] [.int p1, .ref ((gp μ 1))] μ)
  refine v_callV hX sp_X2_hasDoing ck_X2_hasDoing mk_X8_128 mv_X2_hasDoing (sHo hh1) (by decide) (by decide) [.int p1] [] rfl rfl (Nat.le_of_ble_eq_true rfl) dX8_felt_5 ⟨((gp μ 1)), p1, rfl, hh1, h.1, fun x2 μ3 hp4 => (?_ : V X 8 [some (.ref 0), some (.int p1), some (.int p2)] [.int x2] μ3)⟩
  replace h := h.2 x2 μ3 hp4
  refine v_if_eq hX 21 dX8_felt_8 rfl (fun c5 => ?_) (fun c5 => ?_)
  · replace h := h.1 c5
    refine v_iconst hX (-1) dX8_felt_21 rfl (?_ : V X 22 [some (.ref 0), some (.int p1), some (.int p2)] [.int ((-1))] μ3)
    exact v_iret hO dX8_felt_22 (hR _ _ h)
  · replace h := h.2 c5
    refine v_iload_n hX dX8_felt_11 rfl (?_ : V X 12 [some (.ref 0), some (.int p1), some (.int p2)] [.int p2] μ3)
    refine v_if_lt hX 21 dX8_felt_12 rfl (fun c6 => ?_) (fun c6 => ?_)
    · replace h := h.1 c6
      refine v_iconst hX (-1) dX8_felt_21 rfl (?_ : V X 22 [some (.ref 0), some (.int p1), some (.int p2)] [.int ((-1))] μ3)
      exact v_iret hO dX8_felt_22 (hR _ _ h)
    · replace h := h.2 c6
      refine v_iload_n hX dX8_felt_15 rfl (?_ : V X 16 [some (.ref 0), some (.int p1), some (.int p2)] [.int p2] μ3)
      refine v_bipush hX 30 dX8_felt_16 rfl (?_ : V X 18 [some (.ref 0), some (.int p1), some (.int p2)] [.int 30, .int p2] μ3)
      refine v_icmp_le hX 23 dX8_felt_18 rfl (fun c7 => ?_) (fun c7 => ?_)
      · replace h := h.1 c7
        refine v_aload_n hX dX8_felt_23 rfl (?_ : V X 24 [some (.ref 0), some (.int p1), some (.int p2)] [.ref 0] μ3)
        refine v_getr hX (71) fk_X8_72 sh_0 rfl rfl dX8_felt_24 (?_ : V X 27 [some (.ref 0), some (.int p1), some (.int p2)] [.ref 71] μ3)
        refine v_geti hX fk_X8_105 sh_71 rfl dX8_felt_27 (?_ : V X 30 [some (.ref 0), some (.int p1), some (.int p2)] [.int (gi μ3 71 2)] μ3)
        refine v_iconst hX 5 dX8_felt_30 rfl (?_ : V X 31 [some (.ref 0), some (.int p1), some (.int p2)] [.int 5, .int (gi μ3 71 2)] μ3)
        refine v_icmp_lt hX 37 dX8_felt_31 rfl (fun c8 => ?_) (fun c8 => ?_)
        · replace h := h.1 c8
          refine v_aload_n hX dX8_felt_37 rfl (?_ : V X 38 [some (.ref 0), some (.int p1), some (.int p2)] [.ref 0] μ3)
          refine v_getr hX (71) fk_X8_72 sh_0 rfl rfl dX8_felt_38 (?_ : V X 41 [some (.ref 0), some (.int p1), some (.int p2)] [.ref 71] μ3)
          refine v_iload_n hX dX8_felt_41 rfl (?_ : V X 42 [some (.ref 0), some (.int p1), some (.int p2)] [.int p1, .ref 71] μ3)
          refine v_iload_n hX dX8_felt_42 rfl (?_ : V X 43 [some (.ref 0), some (.int p1), some (.int p2)] [.int p2, .int p1, .ref 71] μ3)
          refine v_callV hX sp_X4_add ck_X4_add mk_X8_243 mv_X4_add sh_71 (by decide) (by decide) [.int p1, .int p2] [] rfl rfl (Nat.le_of_ble_eq_true rfl) dX8_felt_43 ⟨p1, p2, rfl, h.1, fun μ10 hp11 => (?_ : V X 46 [some (.ref 0), some (.int p1), some (.int p2)] [] μ10)⟩
          replace h := h.2 μ10 hp11
          refine v_aload_n hX dX8_felt_46 rfl (?_ : V X 47 [some (.ref 0), some (.int p1), some (.int p2)] [.ref 0] μ10)
          refine v_getr hX (71) fk_X8_72 sh_0 rfl rfl dX8_felt_47 (?_ : V X 50 [some (.ref 0), some (.int p1), some (.int p2)] [.ref 71] μ10)
          refine v_geti hX fk_X8_105 sh_71 rfl dX8_felt_50 (?_ : V X 53 [some (.ref 0), some (.int p1), some (.int p2)] [.int (gi μ10 71 2)] μ10)
          exact v_iret hO dX8_felt_53 (hR _ _ h)
        · replace h := h.2 c8
          refine v_bipush hX (-3) dX8_felt_34 rfl (?_ : V X 36 [some (.ref 0), some (.int p1), some (.int p2)] [.int ((-3))] μ3)
          exact v_iret hO dX8_felt_36 (hR _ _ h)
      · replace h := h.2 c7
        refine v_iconst hX (-1) dX8_felt_21 rfl (?_ : V X 22 [some (.ref 0), some (.int p1), some (.int p2)] [.int ((-1))] μ3)
        exact v_iret hO dX8_felt_22 (hR _ _ h)
set_option maxRecDepth 20000 in
set_option maxHeartbeats 4000000 in
theorem vp_X8_felt_0 (p1 : Int32) (p2 : Int32)  (μ : Mem) (hpre : pre_X8_felt p1 p2 μ) : vc_X8_felt_0 p1 p2 μ (post_X8_felt p1 p2 μ)  := by
  simp only [vc_X8_felt_0, pre_X2_hasDoing, pre_X4_add, post_X2_hasDoing, post_X4_add, and_imp, call_eq, forall_eq, forall_const, true_and, and_true]
  obtain ⟨hw, h1⟩ := hpre
  have hb := h1.2
  unfold post_X8_felt
  unfold hsOK at hw
  have h5 : gi μ 71 2 < 5 ↔ gn μ 71 2 < 5 := by
    rw [h1.1, show (5 : Int32) = nI 5 from rfl, nI_ltI (by omega) (by omega)]
  rw [h5]
  refine ⟨hw, ?_⟩
  by_cases c : p1 < 0 ∨ gi μ (gp μ 1) 4 ≤ p1 ∨ p2 < 0 ∨ 30 < p2
  · simp only [if_pos c]
    by_cases c2 : p1 < 0 ∨ gi μ (gp μ 1) 4 ≤ p1
    · simp only [if_pos c2]; simp
    · simp only [if_neg c2]; grind (splits := 20)
  · have c2 : ¬ (p1 < 0 ∨ gi μ (gp μ 1) 4 ≤ p1) := by grind
    simp only [if_neg c, if_neg c2]
    have n1 : ¬ p2 < 0 := by grind
    have n2 : p2 ≤ 30 := by grind
    refine ⟨fun q => absurd q (by decide), fun _ => ⟨fun q => absurd q n1, fun _ => ⟨fun _ => ⟨fun c3 => ⟨⟨h1.1, by omega⟩, ?_⟩, fun c3 => ?_⟩, fun q => absurd n2 q⟩⟩⟩
    · rw [if_neg (by omega)]
      exact ⟨by simp [gi_ui], trivial⟩
    · rw [if_pos (by omega)]; exact ⟨trivial, trivial⟩
theorem sp_X8_felt : Sp yX8_felt cX8_felt 3 (some .int) 1 S_X8_felt := by
  refine sp_of (by decide) (fun av μ P h => ?_) ?_
  · obtain ⟨p1, p2, rfl, -⟩ := h
    refine ⟨Nat.le_of_ble_eq_true rfl, fun v hv => ?_⟩
    simp only [List.mem_cons, List.not_mem_nil, or_false] at hv
    rcases hv with rfl | rfl | rfl <;> rfl
  · rintro X P hO _ μ ⟨p1, p2, rfl, hpre, hpost⟩ hn
    exact wk_X8_felt_0 hO hn p1 p2  μ hpost (vp_X8_felt_0 p1 p2  μ hpre)
def S_X9_felt : Tr := fun av μ P => ∃ (p1 : Int32) (p2 : Int32), av = [.ref 75, .int p1, .int p2] ∧ pre_X9_felt p1 p2 μ ∧ ∀ (x : Int32) (m : Mem), post_X9_felt p1 p2 μ x m → P (some (.int x)) m
def vc_X9_felt_0 (p1 : Int32) (p2 : Int32)  (μ : Mem) (R : Int32 → Mem → Prop)  : Prop :=
  (∀ μ1, μ1 = ui μ 75 0 0 → (pre_X9_isDoing p1 μ1 ∧ ∀ (x3 : Int32) (μ4 : Mem), post_X9_isDoing p1 μ1 x3 μ4 → ((x3 = 0 → R ((-1)) μ4) ∧ (¬ x3 = 0 → (pre_X9_in p2 0 30 μ4 ∧ ∀ (x7 : Int32) (μ8 : Mem), post_X9_in p2 0 30 μ4 x7 μ8 → ((¬ x7 = 0 → ((¬ (gi μ8 75 24) = 5 → vp_in (gi μ8 75 24) 5 ∧ (∀ μ13, μ13 = ui μ8 88 (Int32.toNatClampNeg (gi μ8 75 24)) p1 → vp_in (gi μ13 75 24) 5 ∧ (∀ μ16, μ16 = ui μ13 89 (Int32.toNatClampNeg (gi μ13 75 24)) p2 → (∀ μ18, μ18 = ui μ16 75 24 ((gi μ16 75 24) + 1) → R (gi μ18 75 24) μ18)))) ∧ ((gi μ8 75 24) = 5 → R ((-3)) μ8))) ∧ (x7 = 0 → R ((-1)) μ8)))))))
set_option maxRecDepth 20000 in
set_option maxHeartbeats 4000000 in
theorem wk_X9_felt_0 {X : XT} {P : Post} (hO : OkM X cX9_felt RX9 2 (some .int) P) (hn : xn X = 3) (p1 : Int32) (p2 : Int32)   (μ : Mem) {R : Int32 → Mem → Prop} (hR : ∀ x m, R x m → P (some (.int x)) m)    (h : vc_X9_felt_0 p1 p2  μ R ) : V X 0 [some (.ref 75), some (.int p1), some (.int p2)] [] μ := by
  have hX := hO.1
  unfold vc_X9_felt_0 at h
  refine v_aload_n hX dX9_felt_0 rfl (?_ : V X 1 [some (.ref 75), some (.int p1), some (.int p2)] [.ref 75] μ)
  refine v_iconst hX 0 dX9_felt_1 rfl (?_ : V X 2 [some (.ref 75), some (.int p1), some (.int p2)] [.int 0, .ref 75] μ)
  refine w_puti hX fk_X9_74 fw_9_0 sh_75 rfl dX9_felt_2 (fun μ1 e2 => (?_ : V X 5 [some (.ref 75), some (.int p1), some (.int p2)] [] μ1))
  replace h := h μ1 e2
  refine v_aload_n hX dX9_felt_5 rfl (?_ : V X 6 [some (.ref 75), some (.int p1), some (.int p2)] [.ref 75] μ1)
  refine v_iload_n hX dX9_felt_6 rfl (?_ : V X 7 [some (.ref 75), some (.int p1), some (.int p2)] [.int p1, .ref 75] μ1)
  refine v_callV hX sp_X9_isDoing ck_X9_isDoing mk_X9_149 mv_X9_isDoing sh_75 (by decide) (by decide) [.int p1] [] rfl rfl (Nat.le_of_ble_eq_true rfl) dX9_felt_7 ⟨p1, rfl, h.1, fun x3 μ4 hp5 => (?_ : V X 10 [some (.ref 75), some (.int p1), some (.int p2)] [.int x3] μ4)⟩
  replace h := h.2 x3 μ4 hp5
  refine v_if_eq hX 23 dX9_felt_10 rfl (fun c6 => ?_) (fun c6 => ?_)
  · replace h := h.1 c6
    refine v_iconst hX (-1) dX9_felt_23 rfl (?_ : V X 24 [some (.ref 75), some (.int p1), some (.int p2)] [.int ((-1))] μ4)
    exact v_iret hO dX9_felt_24 (hR _ _ h)
  · replace h := h.2 c6
    refine v_iload_n hX dX9_felt_13 rfl (?_ : V X 14 [some (.ref 75), some (.int p1), some (.int p2)] [.int p2] μ4)
    refine v_iconst hX 0 dX9_felt_14 rfl (?_ : V X 15 [some (.ref 75), some (.int p1), some (.int p2)] [.int 0, .int p2] μ4)
    refine v_bipush hX 30 dX9_felt_15 rfl (?_ : V X 17 [some (.ref 75), some (.int p1), some (.int p2)] [.int 30, .int 0, .int p2] μ4)
    refine v_callS hX sp_X9_in ck_X9_in mk_X9_78 sk_X9_in (by decide) [.int p2, .int 0, .int 30] [] rfl rfl (Nat.le_of_ble_eq_true rfl) dX9_felt_17 ⟨p2, 0, 30, rfl, h.1, fun x7 μ8 hp9 => (?_ : V X 20 [some (.ref 75), some (.int p1), some (.int p2)] [.int x7] μ8)⟩
    replace h := h.2 x7 μ8 hp9
    refine v_if_ne hX 25 dX9_felt_20 rfl (fun c10 => ?_) (fun c10 => ?_)
    · replace h := h.1 c10
      refine v_aload_n hX dX9_felt_25 rfl (?_ : V X 26 [some (.ref 75), some (.int p1), some (.int p2)] [.ref 75] μ8)
      refine v_geti hX fk_X9_136 sh_75 rfl dX9_felt_26 (?_ : V X 29 [some (.ref 75), some (.int p1), some (.int p2)] [.int (gi μ8 75 24)] μ8)
      refine v_iconst hX 5 dX9_felt_29 rfl (?_ : V X 30 [some (.ref 75), some (.int p1), some (.int p2)] [.int 5, .int (gi μ8 75 24)] μ8)
      refine v_icmp_ne hX 36 dX9_felt_30 rfl (fun c11 => ?_) (fun c11 => ?_)
      · replace h := h.1 c11
        refine v_aload_n hX dX9_felt_36 rfl (?_ : V X 37 [some (.ref 75), some (.int p1), some (.int p2)] [.ref 75] μ8)
        refine v_getr hX (88) fk_X9_47 sh_75 rfl rfl dX9_felt_37 (?_ : V X 40 [some (.ref 75), some (.int p1), some (.int p2)] [.ref 88] μ8)
        refine v_aload_n hX dX9_felt_40 rfl (?_ : V X 41 [some (.ref 75), some (.int p1), some (.int p2)] [.ref 75, .ref 88] μ8)
        refine v_geti hX fk_X9_136 sh_75 rfl dX9_felt_41 (?_ : V X 44 [some (.ref 75), some (.int p1), some (.int p2)] [.int (gi μ8 75 24), .ref 88] μ8)
        refine v_iload_n hX dX9_felt_44 rfl (?_ : V X 45 [some (.ref 75), some (.int p1), some (.int p2)] [.int p1, .int (gi μ8 75 24), .ref 88] μ8)
        have hb12 := h.1
        replace h := h.2
        refine w_iast hX (Int32.toNatClampNeg (gi μ8 75 24)) sh_88 hb12 rfl dX9_felt_45 (fun μ13 e14 => (?_ : V X 46 [some (.ref 75), some (.int p1), some (.int p2)] [] μ13))
        replace h := h μ13 e14
        refine v_aload_n hX dX9_felt_46 rfl (?_ : V X 47 [some (.ref 75), some (.int p1), some (.int p2)] [.ref 75] μ13)
        refine v_getr hX (89) fk_X9_50 sh_75 rfl rfl dX9_felt_47 (?_ : V X 50 [some (.ref 75), some (.int p1), some (.int p2)] [.ref 89] μ13)
        refine v_aload_n hX dX9_felt_50 rfl (?_ : V X 51 [some (.ref 75), some (.int p1), some (.int p2)] [.ref 75, .ref 89] μ13)
        refine v_geti hX fk_X9_136 sh_75 rfl dX9_felt_51 (?_ : V X 54 [some (.ref 75), some (.int p1), some (.int p2)] [.int (gi μ13 75 24), .ref 89] μ13)
        refine v_iload_n hX dX9_felt_54 rfl (?_ : V X 55 [some (.ref 75), some (.int p1), some (.int p2)] [.int p2, .int (gi μ13 75 24), .ref 89] μ13)
        have hb15 := h.1
        replace h := h.2
        refine w_iast hX (Int32.toNatClampNeg (gi μ13 75 24)) sh_89 hb15 rfl dX9_felt_55 (fun μ16 e17 => (?_ : V X 56 [some (.ref 75), some (.int p1), some (.int p2)] [] μ16))
        replace h := h μ16 e17
        refine v_aload_n hX dX9_felt_56 rfl (?_ : V X 57 [some (.ref 75), some (.int p1), some (.int p2)] [.ref 75] μ16)
        refine v_dup hX dX9_felt_57 rfl (?_ : V X 58 [some (.ref 75), some (.int p1), some (.int p2)] [.ref 75, .ref 75] μ16)
        refine v_geti hX fk_X9_136 sh_75 rfl dX9_felt_58 (?_ : V X 61 [some (.ref 75), some (.int p1), some (.int p2)] [.int (gi μ16 75 24), .ref 75] μ16)
        refine v_iconst hX 1 dX9_felt_61 rfl (?_ : V X 62 [some (.ref 75), some (.int p1), some (.int p2)] [.int 1, .int (gi μ16 75 24), .ref 75] μ16)
        refine v_iadd hX dX9_felt_62 (?_ : V X 63 [some (.ref 75), some (.int p1), some (.int p2)] [.int ((gi μ16 75 24) + 1), .ref 75] μ16)
        refine w_puti hX fk_X9_136 fw_9_24 sh_75 rfl dX9_felt_63 (fun μ18 e19 => (?_ : V X 66 [some (.ref 75), some (.int p1), some (.int p2)] [] μ18))
        replace h := h μ18 e19
        refine v_aload_n hX dX9_felt_66 rfl (?_ : V X 67 [some (.ref 75), some (.int p1), some (.int p2)] [.ref 75] μ18)
        refine v_geti hX fk_X9_136 sh_75 rfl dX9_felt_67 (?_ : V X 70 [some (.ref 75), some (.int p1), some (.int p2)] [.int (gi μ18 75 24)] μ18)
        exact v_iret hO dX9_felt_70 (hR _ _ h)
      · replace h := h.2 c11
        refine v_bipush hX (-3) dX9_felt_33 rfl (?_ : V X 35 [some (.ref 75), some (.int p1), some (.int p2)] [.int ((-3))] μ8)
        exact v_iret hO dX9_felt_35 (hR _ _ h)
    · replace h := h.2 c10
      refine v_iconst hX (-1) dX9_felt_23 rfl (?_ : V X 24 [some (.ref 75), some (.int p1), some (.int p2)] [.int ((-1))] μ8)
      exact v_iret hO dX9_felt_24 (hR _ _ h)
set_option maxRecDepth 20000 in
set_option maxHeartbeats 4000000 in
theorem vp_X9_felt_0 (p1 : Int32) (p2 : Int32)  (μ : Mem) (hpre : pre_X9_felt p1 p2 μ) : vc_X9_felt_0 p1 p2 μ (post_X9_felt p1 p2 μ)  := by
  simp only [vc_X9_felt_0, pre_X9_in, pre_X9_isDoing, post_X9_in, post_X9_isDoing, and_imp, call_eq, forall_eq, forall_const, true_and, and_true]
  obtain ⟨h0, h1⟩ := hpre
  have hb := h1.2
  unfold post_X9_felt
  rw [show gi (ui μ 75 0 0) 77 1 = gi μ 77 1 from rfl, show gi (ui μ 75 0 0) 75 24 = gi μ 75 24 from rfl]
  have h5 : gi μ 75 24 = 5 ↔ gn μ 75 24 = 5 := by
    rw [← nI_eq (a := gn μ 75 24) (b := 5) (by omega) (by omega), ← h1.1]; rfl
  rw [h5]
  refine ⟨h0, ?_⟩
  by_cases c : p1 < 0 ∨ gi μ 77 1 ≤ p1 ∨ p2 < 0 ∨ 30 < p2
  · simp only [if_pos c]
    by_cases c2 : p1 < 0 ∨ gi μ 77 1 ≤ p1
    · simp only [if_pos c2]; simp
    · have c3 : p2 < 0 ∨ 30 < p2 := by grind
      simp only [if_neg c2, if_pos c3]; simp
  · have c2 : ¬ (p1 < 0 ∨ gi μ 77 1 ≤ p1) := by grind
    have c3 : ¬ (p2 < 0 ∨ 30 < p2) := by grind
    simp only [if_neg c, if_neg c2, if_neg c3]
    have hin : vp_in (gi μ 75 24) 5 ∨ gn μ 75 24 = 5 := by
      rcases Nat.lt_or_ge (gn μ 75 24) 5 with q | q
      · exact Or.inl (isN_in h1 q (by omega))
      · exact Or.inr (by omega)
    refine ⟨fun q => absurd q (by decide), fun _ => ⟨fun _ => ⟨fun c4 => ?_, fun c4 => ?_⟩, fun q => absurd q (by decide)⟩⟩
    · have hin := hin.resolve_right c4
      simp only [if_neg c4]
      refine ⟨hin, ?_, ?_⟩
      · simp [gi_ui]; exact hin
      · simp [gi_ui, gn]
    · simp [c4]
theorem sp_X9_felt : Sp yX9_felt cX9_felt 3 (some .int) 2 S_X9_felt := by
  refine sp_of (by decide) (fun av μ P h => ?_) ?_
  · obtain ⟨p1, p2, rfl, -⟩ := h
    refine ⟨Nat.le_of_ble_eq_true rfl, fun v hv => ?_⟩
    simp only [List.mem_cons, List.not_mem_nil, or_false] at hv
    rcases hv with rfl | rfl | rfl <;> rfl
  · rintro X P hO _ μ ⟨p1, p2, rfl, hpre, hpost⟩ hn
    exact wk_X9_felt_0 hO hn p1 p2  μ hpost (vp_X9_felt_0 p1 p2  μ hpre)

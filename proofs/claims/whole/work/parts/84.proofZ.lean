def S_X9_takes : Tr := fun av μ P => ∃ (p1 : Int32), av = [.ref 75, .int p1] ∧ pre_X9_takes p1 μ ∧ ∀ (x : Int32) (m : Mem), post_X9_takes p1 μ x m → P (some (.int x)) m
def vc_X9_takes_0 (p1 : Int32)  (μ : Mem) (R : Int32 → Mem → Prop)  : Prop :=
  (pre_X9_isWell  μ ∧ ∀ (x1 : Int32) (μ2 : Mem), post_X9_isWell  μ x1 μ2 → ((¬ x1 = 0 → ((¬ p1 = 0 → (pre_X9_advances  μ2 ∧ ∀ (μ7 : Mem), post_X9_advances  μ2 μ7 → R (gi μ2 75 7) μ7)) ∧ (p1 = 0 → (∀ μ9, μ9 = ui μ2 75 8 (gi μ2 75 6) → R 0 μ9)))) ∧ (x1 = 0 → R 0 μ2)))
set_option maxRecDepth 20000 in
set_option maxHeartbeats 4000000 in
theorem wk_X9_takes_0 {X : XT} {P : Post} (hO : OkM X cX9_takes RX9 2 (some .int) P) (hn : xn X = 3) (p1 : Int32)   (μ : Mem) {R : Int32 → Mem → Prop} (hR : ∀ x m, R x m → P (some (.int x)) m)    (h : vc_X9_takes_0 p1  μ R ) : V X 0 [some (.ref 75), some (.int p1), none] [] μ := by
  have hX := hO.1
  unfold vc_X9_takes_0 at h
  refine v_aload_n hX dX9_takes_0 rfl (?_ : V X 1 [some (.ref 75), some (.int p1), none] [.ref 75] μ)
  refine v_callV hX sp_X9_isWell ck_X9_isWell mk_X9_108 mv_X9_isWell sh_75 (by decide) (by decide) [] [] rfl rfl (Nat.le_of_ble_eq_true rfl) dX9_takes_1 ⟨rfl, h.1, fun x1 μ2 hp3 => (?_ : V X 4 [some (.ref 75), some (.int p1), none] [.int x1] μ2)⟩
  replace h := h.2 x1 μ2 hp3
  refine v_if_ne hX 9 dX9_takes_4 rfl (fun c4 => ?_) (fun c4 => ?_)
  · replace h := h.1 c4
    refine v_iload_n hX dX9_takes_9 rfl (?_ : V X 10 [some (.ref 75), some (.int p1), none] [.int p1] μ2)
    refine v_if_ne hX 23 dX9_takes_10 rfl (fun c5 => ?_) (fun c5 => ?_)
    · replace h := h.1 c5
      refine v_aload_n hX dX9_takes_23 rfl (?_ : V X 24 [some (.ref 75), some (.int p1), none] [.ref 75] μ2)
      refine v_geti hX fk_X9_98 sh_75 rfl dX9_takes_24 (?_ : V X 27 [some (.ref 75), some (.int p1), none] [.int (gi μ2 75 7)] μ2)
      refine v_istore_n hX dX9_takes_27 (by rw [hn]; decide) (?_ : V X 28 [some (.ref 75), some (.int p1), some (.int (gi μ2 75 7))] [] μ2)
      refine v_aload_n hX dX9_takes_28 rfl (?_ : V X 29 [some (.ref 75), some (.int p1), some (.int (gi μ2 75 7))] [.ref 75] μ2)
      refine v_callV hX sp_X9_advances ck_X9_advances mk_X9_112 mv_X9_advances sh_75 (by decide) (by decide) [] [] rfl rfl (Nat.le_of_ble_eq_true rfl) dX9_takes_29 ⟨rfl, h.1, fun μ7 hp8 => (?_ : V X 32 [some (.ref 75), some (.int p1), some (.int (gi μ2 75 7))] [] μ7)⟩
      replace h := h.2 μ7 hp8
      refine v_iload_n hX dX9_takes_32 rfl (?_ : V X 33 [some (.ref 75), some (.int p1), some (.int (gi μ2 75 7))] [.int (gi μ2 75 7)] μ7)
      exact v_iret hO dX9_takes_33 (hR _ _ h)
    · replace h := h.2 c5
      refine v_aload_n hX dX9_takes_13 rfl (?_ : V X 14 [some (.ref 75), some (.int p1), none] [.ref 75] μ2)
      refine v_aload_n hX dX9_takes_14 rfl (?_ : V X 15 [some (.ref 75), some (.int p1), none] [.ref 75, .ref 75] μ2)
      refine v_geti hX fk_X9_92 sh_75 rfl dX9_takes_15 (?_ : V X 18 [some (.ref 75), some (.int p1), none] [.int (gi μ2 75 6), .ref 75] μ2)
      refine w_puti hX fk_X9_105 fw_9_8 sh_75 rfl dX9_takes_18 (fun μ9 e10 => (?_ : V X 21 [some (.ref 75), some (.int p1), none] [] μ9))
      replace h := h μ9 e10
      refine v_iconst hX 0 dX9_takes_21 rfl (?_ : V X 22 [some (.ref 75), some (.int p1), none] [.int 0] μ9)
      exact v_iret hO dX9_takes_22 (hR _ _ h)
  · replace h := h.2 c4
    refine v_iconst hX 0 dX9_takes_7 rfl (?_ : V X 8 [some (.ref 75), some (.int p1), none] [.int 0] μ2)
    exact v_iret hO dX9_takes_8 (hR _ _ h)
set_option maxRecDepth 20000 in
set_option maxHeartbeats 1000000 in
theorem vp_X9_takes_0 (p1 : Int32)  (μ : Mem) (hpre : pre_X9_takes p1 μ) : vc_X9_takes_0 p1 μ (post_X9_takes p1 μ)  := by
  unfold vc_X9_takes_0
  refine ⟨trivial, ?_⟩
  rintro x1 m2 ⟨hx1, rfl⟩
  refine ⟨fun q => ⟨fun q2 => ⟨hpre, fun m hm => ?_⟩, fun q2 m hm => ?_⟩, fun q => ?_⟩
  · have hw : gi m2 75 8 < 0 := by
      split at hx1
      · assumption
      · exact absurd hx1 q
    exact ⟨fun z => absurd hw z, fun _ => ⟨fun z => absurd z q2, fun _ => ⟨rfl, hm⟩⟩⟩
  · have hw : gi m2 75 8 < 0 := by
      split at hx1
      · assumption
      · exact absurd hx1 q
    exact ⟨fun z => absurd hw z, fun _ => ⟨fun _ => ⟨rfl, hm⟩, fun z => absurd q2 z⟩⟩
  · have hw : ¬ gi m2 75 8 < 0 := by
      intro z; rw [if_pos z] at hx1; rw [hx1] at q; exact absurd q (by decide)
    exact ⟨fun _ => ⟨rfl, rfl⟩, fun z => absurd z hw⟩
theorem sp_X9_takes : Sp yX9_takes cX9_takes 3 (some .int) 2 S_X9_takes := by
  refine sp_of (by decide) (fun av μ P h => ?_) ?_
  · obtain ⟨p1, rfl, -⟩ := h
    refine ⟨Nat.le_of_ble_eq_true rfl, fun v hv => ?_⟩
    simp only [List.mem_cons, List.not_mem_nil, or_false] at hv
    rcases hv with rfl | rfl <;> rfl
  · rintro X P hO _ μ ⟨p1, rfl, hpre, hpost⟩ hn
    exact wk_X9_takes_0 hO hn p1  μ hpost (vp_X9_takes_0 p1  μ hpre)
def S_X9_number : Tr := fun av μ P => ∃ (p1 : Int32) (p2 : Int32), av = [.ref 75, .int p1, .int p2] ∧ pre_X9_number p1 p2 μ ∧ ∀ (x : Int32) (m : Mem), post_X9_number p1 p2 μ x m → P (some (.int x)) m
def vc_X9_number_0 (p1 : Int32) (p2 : Int32)  (μ : Mem) (R : Int32 → Mem → Prop)  : Prop :=
  ((¬ (gi μ 75 5) = 2 → (pre_X9_takes 0 μ ∧ ∀ (x2 : Int32) (μ3 : Mem), post_X9_takes 0 μ x2 μ3 → R x2 μ3)) ∧ ((gi μ 75 5) = 2 → (pre_X9_in (gi μ 75 7) p1 p2 μ ∧ ∀ (x5 : Int32) (μ6 : Mem), post_X9_in (gi μ 75 7) p1 p2 μ x5 μ6 → ((x5 = 0 → (pre_X9_takes 0 μ6 ∧ ∀ (x9 : Int32) (μ10 : Mem), post_X9_takes 0 μ6 x9 μ10 → R x9 μ10)) ∧ (¬ x5 = 0 → (pre_X9_takes 1 μ6 ∧ ∀ (x12 : Int32) (μ13 : Mem), post_X9_takes 1 μ6 x12 μ13 → R x12 μ13))))))
set_option maxRecDepth 20000 in
set_option maxHeartbeats 4000000 in
theorem wk_X9_number_0 {X : XT} {P : Post} (hO : OkM X cX9_number RX9 3 (some .int) P) (hn : xn X = 3) (p1 : Int32) (p2 : Int32)   (μ : Mem) {R : Int32 → Mem → Prop} (hR : ∀ x m, R x m → P (some (.int x)) m)    (h : vc_X9_number_0 p1 p2  μ R ) : V X 0 [some (.ref 75), some (.int p1), some (.int p2)] [] μ := by
  have hX := hO.1
  unfold vc_X9_number_0 at h
  refine v_aload_n hX dX9_number_0 rfl (?_ : V X 1 [some (.ref 75), some (.int p1), some (.int p2)] [.ref 75] μ)
  refine v_aload_n hX dX9_number_1 rfl (?_ : V X 2 [some (.ref 75), some (.int p1), some (.int p2)] [.ref 75, .ref 75] μ)
  refine v_geti hX fk_X9_95 sh_75 rfl dX9_number_2 (?_ : V X 5 [some (.ref 75), some (.int p1), some (.int p2)] [.int (gi μ 75 5), .ref 75] μ)
  refine v_iconst hX 2 dX9_number_5 rfl (?_ : V X 6 [some (.ref 75), some (.int p1), some (.int p2)] [.int 2, .int (gi μ 75 5), .ref 75] μ)
  refine v_icmp_ne hX 25 dX9_number_6 rfl (fun c1 => ?_) (fun c1 => ?_)
  · replace h := h.1 c1
    refine v_iconst hX 0 dX9_number_25 rfl (?_ : V X 26 [some (.ref 75), some (.int p1), some (.int p2)] [.int 0, .ref 75] μ)
    refine v_callV hX sp_X9_takes ck_X9_takes mk_X9_115 mv_X9_takes sh_75 (by decide) (by decide) [.int 0] [] rfl rfl (Nat.le_of_ble_eq_true rfl) dX9_number_26 ⟨0, rfl, h.1, fun x2 μ3 hp4 => (?_ : V X 29 [some (.ref 75), some (.int p1), some (.int p2)] [.int x2] μ3)⟩
    replace h := h.2 x2 μ3 hp4
    exact v_iret hO dX9_number_29 (hR _ _ h)
  · replace h := h.2 c1
    refine v_aload_n hX dX9_number_9 rfl (?_ : V X 10 [some (.ref 75), some (.int p1), some (.int p2)] [.ref 75, .ref 75] μ)
    refine v_geti hX fk_X9_98 sh_75 rfl dX9_number_10 (?_ : V X 13 [some (.ref 75), some (.int p1), some (.int p2)] [.int (gi μ 75 7), .ref 75] μ)
    refine v_iload_n hX dX9_number_13 rfl (?_ : V X 14 [some (.ref 75), some (.int p1), some (.int p2)] [.int p1, .int (gi μ 75 7), .ref 75] μ)
    refine v_iload_n hX dX9_number_14 rfl (?_ : V X 15 [some (.ref 75), some (.int p1), some (.int p2)] [.int p2, .int p1, .int (gi μ 75 7), .ref 75] μ)
    refine v_callS hX sp_X9_in ck_X9_in mk_X9_78 sk_X9_in (by decide) [.int (gi μ 75 7), .int p1, .int p2] [.ref 75] rfl rfl (Nat.le_of_ble_eq_true rfl) dX9_number_15 ⟨(gi μ 75 7), p1, p2, rfl, h.1, fun x5 μ6 hp7 => (?_ : V X 18 [some (.ref 75), some (.int p1), some (.int p2)] [.int x5, .ref 75] μ6)⟩
    replace h := h.2 x5 μ6 hp7
    refine v_if_eq hX 25 dX9_number_18 rfl (fun c8 => ?_) (fun c8 => ?_)
    · replace h := h.1 c8
      refine v_iconst hX 0 dX9_number_25 rfl (?_ : V X 26 [some (.ref 75), some (.int p1), some (.int p2)] [.int 0, .ref 75] μ6)
      refine v_callV hX sp_X9_takes ck_X9_takes mk_X9_115 mv_X9_takes sh_75 (by decide) (by decide) [.int 0] [] rfl rfl (Nat.le_of_ble_eq_true rfl) dX9_number_26 ⟨0, rfl, h.1, fun x9 μ10 hp11 => (?_ : V X 29 [some (.ref 75), some (.int p1), some (.int p2)] [.int x9] μ10)⟩
      replace h := h.2 x9 μ10 hp11
      exact v_iret hO dX9_number_29 (hR _ _ h)
    · replace h := h.2 c8
      refine v_iconst hX 1 dX9_number_21 rfl (?_ : V X 22 [some (.ref 75), some (.int p1), some (.int p2)] [.int 1, .ref 75] μ6)
      refine v_goto hX 26 dX9_number_22 rfl (?_ : V X 26 [some (.ref 75), some (.int p1), some (.int p2)] [.int 1, .ref 75] μ6)
      refine v_callV hX sp_X9_takes ck_X9_takes mk_X9_115 mv_X9_takes sh_75 (by decide) (by decide) [.int 1] [] rfl rfl (Nat.le_of_ble_eq_true rfl) dX9_number_26 ⟨1, rfl, h.1, fun x12 μ13 hp14 => (?_ : V X 29 [some (.ref 75), some (.int p1), some (.int p2)] [.int x12] μ13)⟩
      replace h := h.2 x12 μ13 hp14
      exact v_iret hO dX9_number_29 (hR _ _ h)
set_option maxRecDepth 20000 in
set_option maxHeartbeats 1000000 in
theorem vp_X9_number_0 (p1 : Int32) (p2 : Int32)  (μ : Mem) (hpre : pre_X9_number p1 p2 μ) : vc_X9_number_0 p1 p2 μ (post_X9_number p1 p2 μ)  := by
  unfold vc_X9_number_0
  refine ⟨fun q => ⟨hpre, fun x m hm => ⟨fun z => absurd z.1 q, fun _ => hm⟩⟩, fun q => ⟨trivial, ?_⟩⟩
  rintro x5 m6 ⟨hx5, rfl⟩
  refine ⟨fun q2 => ⟨hpre, fun x m hm => ⟨fun z => ?_, fun _ => hm⟩⟩, fun q2 => ⟨hpre, fun x m hm => ⟨fun _ => hm, fun z => ?_⟩⟩⟩
  · rw [if_neg z.2] at hx5; rw [hx5] at q2; exact absurd q2 (by decide)
  · exfalso; apply z
    refine ⟨q, fun y => ?_⟩
    rw [if_pos y] at hx5; exact q2 hx5
theorem sp_X9_number : Sp yX9_number cX9_number 3 (some .int) 3 S_X9_number := by
  refine sp_of (by decide) (fun av μ P h => ?_) ?_
  · obtain ⟨p1, p2, rfl, -⟩ := h
    refine ⟨Nat.le_of_ble_eq_true rfl, fun v hv => ?_⟩
    simp only [List.mem_cons, List.not_mem_nil, or_false] at hv
    rcases hv with rfl | rfl | rfl <;> rfl
  · rintro X P hO _ μ ⟨p1, p2, rfl, hpre, hpost⟩ hn
    exact wk_X9_number_0 hO hn p1 p2  μ hpost (vp_X9_number_0 p1 p2  μ hpre)
def S_X9_mayBegin : Tr := fun av μ P => av = [.ref 75] ∧ pre_X9_mayBegin  μ ∧ ∀ (x : Int32) (m : Mem), post_X9_mayBegin  μ x m → P (some (.int x)) m
def vc_X9_mayBegin_0   (μ : Mem) (R : Int32 → Mem → Prop)  : Prop :=
  (((gi μ 75 7) = 114 → ((¬ (gi μ 75 7) = 114 → ((5 ≤ (gi μ 77 7) → R 0 μ) ∧ (¬ 5 ≤ (gi μ 77 7) → R 1 μ))) ∧ ((gi μ 75 7) = 114 → ((5 ≤ (gi μ 77 6) → R 0 μ) ∧ (¬ 5 ≤ (gi μ 77 6) → R 1 μ))))) ∧ (¬ (gi μ 75 7) = 114 → ((¬ (gi μ 75 7) = 100 → ((¬ (gi μ 75 7) = 115 → (pre_X9_bitOf (gi μ 75 7) μ ∧ ∀ (x7 : Int32) (μ8 : Mem), post_X9_bitOf (gi μ 75 7) μ x7 μ8 → ((¬ ((gi μ 75 10) &&& x7) = 0 → R 0 μ8) ∧ (((gi μ 75 10) &&& x7) = 0 → R 1 μ8)))) ∧ ((gi μ 75 7) = 115 → ((6 ≤ (gi μ 77 8) → R 0 μ) ∧ (¬ 6 ≤ (gi μ 77 8) → R 1 μ))))) ∧ ((gi μ 75 7) = 100 → ((¬ (gi μ 75 7) = 114 → ((5 ≤ (gi μ 77 7) → R 0 μ) ∧ (¬ 5 ≤ (gi μ 77 7) → R 1 μ))) ∧ ((gi μ 75 7) = 114 → ((5 ≤ (gi μ 77 6) → R 0 μ) ∧ (¬ 5 ≤ (gi μ 77 6) → R 1 μ))))))))
set_option maxRecDepth 20000 in
set_option maxHeartbeats 4000000 in
theorem wk_X9_mayBegin_0 {X : XT} {P : Post} (hO : OkM X cX9_mayBegin RX9 1 (some .boolean) P) (hn : xn X = 1)    (μ : Mem) {R : Int32 → Mem → Prop} (hR : ∀ x m, R x m → P (some (.int x)) m)    (h : vc_X9_mayBegin_0   μ R ) : V X 0 [some (.ref 75)] [] μ := by
  have hX := hO.1
  unfold vc_X9_mayBegin_0 at h
  refine v_aload_n hX dX9_mayBegin_0 rfl (?_ : V X 1 [some (.ref 75)] [.ref 75] μ)
  refine v_geti hX fk_X9_98 sh_75 rfl dX9_mayBegin_1 (?_ : V X 4 [some (.ref 75)] [.int (gi μ 75 7)] μ)
  refine v_bipush hX 114 dX9_mayBegin_4 rfl (?_ : V X 6 [some (.ref 75)] [.int 114, .int (gi μ 75 7)] μ)
  refine v_icmp_eq hX 18 dX9_mayBegin_6 rfl (fun c1 => ?_) (fun c1 => ?_)
  · replace h := h.1 c1
    refine v_aload_n hX dX9_mayBegin_18 rfl (?_ : V X 19 [some (.ref 75)] [.ref 75] μ)
    refine v_getr hX (77) fk_X9_13 sh_75 rfl rfl dX9_mayBegin_19 (?_ : V X 22 [some (.ref 75)] [.ref 77] μ)
    refine v_bipush hX 6 dX9_mayBegin_22 rfl (?_ : V X 24 [some (.ref 75)] [.int 6, .ref 77] μ)
    refine v_aload_n hX dX9_mayBegin_24 rfl (?_ : V X 25 [some (.ref 75)] [.ref 75, .int 6, .ref 77] μ)
    refine v_geti hX fk_X9_98 sh_75 rfl dX9_mayBegin_25 (?_ : V X 28 [some (.ref 75)] [.int (gi μ 75 7), .int 6, .ref 77] μ)
    refine v_bipush hX 114 dX9_mayBegin_28 rfl (?_ : V X 30 [some (.ref 75)] [.int 114, .int (gi μ 75 7), .int 6, .ref 77] μ)
    refine v_icmp_ne hX 37 dX9_mayBegin_30 rfl (fun c2 => ?_) (fun c2 => ?_)
    · replace h := h.1 c2
      refine v_iconst hX 1 dX9_mayBegin_37 rfl (?_ : V X 38 [some (.ref 75)] [.int 1, .int 6, .ref 77] μ)
      refine v_iadd hX dX9_mayBegin_38 (?_ : V X 39 [some (.ref 75)] [.int 7, .ref 77] μ)
      refine w_iald hX 7 sh_77 (vp_lit (by decide)) (by decide) dX9_mayBegin_39 (?_ : V X 40 [some (.ref 75)] [.int (gi μ 77 7)] μ)
      refine v_iconst hX 5 dX9_mayBegin_40 rfl (?_ : V X 41 [some (.ref 75)] [.int 5, .int (gi μ 77 7)] μ)
      refine v_icmp_ge hX 48 dX9_mayBegin_41 rfl (fun c3 => ?_) (fun c3 => ?_)
      · replace h := h.1 c3
        refine v_iconst hX 0 dX9_mayBegin_48 rfl (?_ : V X 49 [some (.ref 75)] [.int 0] μ)
        exact v_zret hO dX9_mayBegin_49 (by decide) (hR _ _ h)
      · replace h := h.2 c3
        refine v_iconst hX 1 dX9_mayBegin_44 rfl (?_ : V X 45 [some (.ref 75)] [.int 1] μ)
        refine v_goto hX 49 dX9_mayBegin_45 rfl (?_ : V X 49 [some (.ref 75)] [.int 1] μ)
        exact v_zret hO dX9_mayBegin_49 (by decide) (hR _ _ h)
    · replace h := h.2 c2
      refine v_iconst hX 0 dX9_mayBegin_33 rfl (?_ : V X 34 [some (.ref 75)] [.int 0, .int 6, .ref 77] μ)
      refine v_goto hX 38 dX9_mayBegin_34 rfl (?_ : V X 38 [some (.ref 75)] [.int 0, .int 6, .ref 77] μ)
      refine v_iadd hX dX9_mayBegin_38 (?_ : V X 39 [some (.ref 75)] [.int 6, .ref 77] μ)
      refine w_iald hX 6 sh_77 (vp_lit (by decide)) (by decide) dX9_mayBegin_39 (?_ : V X 40 [some (.ref 75)] [.int (gi μ 77 6)] μ)
      refine v_iconst hX 5 dX9_mayBegin_40 rfl (?_ : V X 41 [some (.ref 75)] [.int 5, .int (gi μ 77 6)] μ)
      refine v_icmp_ge hX 48 dX9_mayBegin_41 rfl (fun c4 => ?_) (fun c4 => ?_)
      · replace h := h.1 c4
        refine v_iconst hX 0 dX9_mayBegin_48 rfl (?_ : V X 49 [some (.ref 75)] [.int 0] μ)
        exact v_zret hO dX9_mayBegin_49 (by decide) (hR _ _ h)
      · replace h := h.2 c4
        refine v_iconst hX 1 dX9_mayBegin_44 rfl (?_ : V X 45 [some (.ref 75)] [.int 1] μ)
        refine v_goto hX 49 dX9_mayBegin_45 rfl (?_ : V X 49 [some (.ref 75)] [.int 1] μ)
        exact v_zret hO dX9_mayBegin_49 (by decide) (hR _ _ h)
  · replace h := h.2 c1
    refine v_aload_n hX dX9_mayBegin_9 rfl (?_ : V X 10 [some (.ref 75)] [.ref 75] μ)
    refine v_geti hX fk_X9_98 sh_75 rfl dX9_mayBegin_10 (?_ : V X 13 [some (.ref 75)] [.int (gi μ 75 7)] μ)
    refine v_bipush hX 100 dX9_mayBegin_13 rfl (?_ : V X 15 [some (.ref 75)] [.int 100, .int (gi μ 75 7)] μ)
    refine v_icmp_ne hX 50 dX9_mayBegin_15 rfl (fun c5 => ?_) (fun c5 => ?_)
    · replace h := h.1 c5
      refine v_aload_n hX dX9_mayBegin_50 rfl (?_ : V X 51 [some (.ref 75)] [.ref 75] μ)
      refine v_geti hX fk_X9_98 sh_75 rfl dX9_mayBegin_51 (?_ : V X 54 [some (.ref 75)] [.int (gi μ 75 7)] μ)
      refine v_bipush hX 115 dX9_mayBegin_54 rfl (?_ : V X 56 [some (.ref 75)] [.int 115, .int (gi μ 75 7)] μ)
      refine v_icmp_ne hX 79 dX9_mayBegin_56 rfl (fun c6 => ?_) (fun c6 => ?_)
      · replace h := h.1 c6
        refine v_aload_n hX dX9_mayBegin_79 rfl (?_ : V X 80 [some (.ref 75)] [.ref 75] μ)
        refine v_geti hX fk_X9_119 sh_75 rfl dX9_mayBegin_80 (?_ : V X 83 [some (.ref 75)] [.int (gi μ 75 10)] μ)
        refine v_aload_n hX dX9_mayBegin_83 rfl (?_ : V X 84 [some (.ref 75)] [.ref 75, .int (gi μ 75 10)] μ)
        refine v_geti hX fk_X9_98 sh_75 rfl dX9_mayBegin_84 (?_ : V X 87 [some (.ref 75)] [.int (gi μ 75 7), .int (gi μ 75 10)] μ)
        refine v_callS hX sp_X9_bitOf ck_X9_bitOf mk_X9_122 sk_X9_bitOf (by decide) [.int (gi μ 75 7)] [.int (gi μ 75 10)] rfl rfl (Nat.le_of_ble_eq_true rfl) dX9_mayBegin_87 ⟨(gi μ 75 7), rfl, h.1, fun x7 μ8 hp9 => (?_ : V X 90 [some (.ref 75)] [.int x7, .int (gi μ 75 10)] μ8)⟩
        replace h := h.2 x7 μ8 hp9
        refine v_iand hX dX9_mayBegin_90 (?_ : V X 91 [some (.ref 75)] [.int ((gi μ 75 10) &&& x7)] μ8)
        refine v_if_ne hX 98 dX9_mayBegin_91 rfl (fun c10 => ?_) (fun c10 => ?_)
        · replace h := h.1 c10
          refine v_iconst hX 0 dX9_mayBegin_98 rfl (?_ : V X 99 [some (.ref 75)] [.int 0] μ8)
          exact v_zret hO dX9_mayBegin_99 (by decide) (hR _ _ h)
        · replace h := h.2 c10
          refine v_iconst hX 1 dX9_mayBegin_94 rfl (?_ : V X 95 [some (.ref 75)] [.int 1] μ8)
          refine v_goto hX 99 dX9_mayBegin_95 rfl (?_ : V X 99 [some (.ref 75)] [.int 1] μ8)
          exact v_zret hO dX9_mayBegin_99 (by decide) (hR _ _ h)
      · replace h := h.2 c6
        refine v_aload_n hX dX9_mayBegin_59 rfl (?_ : V X 60 [some (.ref 75)] [.ref 75] μ)
        refine v_getr hX (77) fk_X9_13 sh_75 rfl rfl dX9_mayBegin_60 (?_ : V X 63 [some (.ref 75)] [.ref 77] μ)
        refine v_bipush hX 8 dX9_mayBegin_63 rfl (?_ : V X 65 [some (.ref 75)] [.int 8, .ref 77] μ)
        refine w_iald hX 8 sh_77 (vp_lit (by decide)) (by decide) dX9_mayBegin_65 (?_ : V X 66 [some (.ref 75)] [.int (gi μ 77 8)] μ)
        refine v_bipush hX 6 dX9_mayBegin_66 rfl (?_ : V X 68 [some (.ref 75)] [.int 6, .int (gi μ 77 8)] μ)
        refine v_icmp_ge hX 75 dX9_mayBegin_68 rfl (fun c11 => ?_) (fun c11 => ?_)
        · replace h := h.1 c11
          refine v_iconst hX 0 dX9_mayBegin_75 rfl (?_ : V X 76 [some (.ref 75)] [.int 0] μ)
          refine v_goto hX 99 dX9_mayBegin_76 rfl (?_ : V X 99 [some (.ref 75)] [.int 0] μ)
          exact v_zret hO dX9_mayBegin_99 (by decide) (hR _ _ h)
        · replace h := h.2 c11
          refine v_iconst hX 1 dX9_mayBegin_71 rfl (?_ : V X 72 [some (.ref 75)] [.int 1] μ)
          refine v_goto hX 99 dX9_mayBegin_72 rfl (?_ : V X 99 [some (.ref 75)] [.int 1] μ)
          exact v_zret hO dX9_mayBegin_99 (by decide) (hR _ _ h)
    · replace h := h.2 c5
      refine v_aload_n hX dX9_mayBegin_18 rfl (?_ : V X 19 [some (.ref 75)] [.ref 75] μ)
      refine v_getr hX (77) fk_X9_13 sh_75 rfl rfl dX9_mayBegin_19 (?_ : V X 22 [some (.ref 75)] [.ref 77] μ)
      refine v_bipush hX 6 dX9_mayBegin_22 rfl (?_ : V X 24 [some (.ref 75)] [.int 6, .ref 77] μ)
      refine v_aload_n hX dX9_mayBegin_24 rfl (?_ : V X 25 [some (.ref 75)] [.ref 75, .int 6, .ref 77] μ)
      refine v_geti hX fk_X9_98 sh_75 rfl dX9_mayBegin_25 (?_ : V X 28 [some (.ref 75)] [.int (gi μ 75 7), .int 6, .ref 77] μ)
      refine v_bipush hX 114 dX9_mayBegin_28 rfl (?_ : V X 30 [some (.ref 75)] [.int 114, .int (gi μ 75 7), .int 6, .ref 77] μ)
      refine v_icmp_ne hX 37 dX9_mayBegin_30 rfl (fun c12 => ?_) (fun c12 => ?_)
      · replace h := h.1 c12
        refine v_iconst hX 1 dX9_mayBegin_37 rfl (?_ : V X 38 [some (.ref 75)] [.int 1, .int 6, .ref 77] μ)
        refine v_iadd hX dX9_mayBegin_38 (?_ : V X 39 [some (.ref 75)] [.int 7, .ref 77] μ)
        refine w_iald hX 7 sh_77 (vp_lit (by decide)) (by decide) dX9_mayBegin_39 (?_ : V X 40 [some (.ref 75)] [.int (gi μ 77 7)] μ)
        refine v_iconst hX 5 dX9_mayBegin_40 rfl (?_ : V X 41 [some (.ref 75)] [.int 5, .int (gi μ 77 7)] μ)
        refine v_icmp_ge hX 48 dX9_mayBegin_41 rfl (fun c13 => ?_) (fun c13 => ?_)
        · replace h := h.1 c13
          refine v_iconst hX 0 dX9_mayBegin_48 rfl (?_ : V X 49 [some (.ref 75)] [.int 0] μ)
          exact v_zret hO dX9_mayBegin_49 (by decide) (hR _ _ h)
        · replace h := h.2 c13
          refine v_iconst hX 1 dX9_mayBegin_44 rfl (?_ : V X 45 [some (.ref 75)] [.int 1] μ)
          refine v_goto hX 49 dX9_mayBegin_45 rfl (?_ : V X 49 [some (.ref 75)] [.int 1] μ)
          exact v_zret hO dX9_mayBegin_49 (by decide) (hR _ _ h)
      · replace h := h.2 c12
        refine v_iconst hX 0 dX9_mayBegin_33 rfl (?_ : V X 34 [some (.ref 75)] [.int 0, .int 6, .ref 77] μ)
        refine v_goto hX 38 dX9_mayBegin_34 rfl (?_ : V X 38 [some (.ref 75)] [.int 0, .int 6, .ref 77] μ)
        refine v_iadd hX dX9_mayBegin_38 (?_ : V X 39 [some (.ref 75)] [.int 6, .ref 77] μ)
        refine w_iald hX 6 sh_77 (vp_lit (by decide)) (by decide) dX9_mayBegin_39 (?_ : V X 40 [some (.ref 75)] [.int (gi μ 77 6)] μ)
        refine v_iconst hX 5 dX9_mayBegin_40 rfl (?_ : V X 41 [some (.ref 75)] [.int 5, .int (gi μ 77 6)] μ)
        refine v_icmp_ge hX 48 dX9_mayBegin_41 rfl (fun c14 => ?_) (fun c14 => ?_)
        · replace h := h.1 c14
          refine v_iconst hX 0 dX9_mayBegin_48 rfl (?_ : V X 49 [some (.ref 75)] [.int 0] μ)
          exact v_zret hO dX9_mayBegin_49 (by decide) (hR _ _ h)
        · replace h := h.2 c14
          refine v_iconst hX 1 dX9_mayBegin_44 rfl (?_ : V X 45 [some (.ref 75)] [.int 1] μ)
          refine v_goto hX 49 dX9_mayBegin_45 rfl (?_ : V X 49 [some (.ref 75)] [.int 1] μ)
          exact v_zret hO dX9_mayBegin_49 (by decide) (hR _ _ h)
set_option maxRecDepth 20000 in
set_option maxHeartbeats 1000000 in
theorem vp_X9_mayBegin_0   (μ : Mem) (hpre : pre_X9_mayBegin  μ) : vc_X9_mayBegin_0  μ (post_X9_mayBegin  μ)  := by
  unfold vc_X9_mayBegin_0
  have r1 : ∀ m, m = μ → mayF μ (gi μ 75 7) → post_X9_mayBegin μ 1 m := fun m hm h => ⟨⟨fun _ => rfl, fun z => absurd h z⟩, hm⟩
  have r0 : ∀ m, m = μ → ¬ mayF μ (gi μ 75 7) → post_X9_mayBegin μ 0 m := fun m hm h => ⟨⟨fun z => absurd z h, fun _ => rfl⟩, hm⟩
  unfold mayF at r1 r0
  refine ⟨fun q => ⟨fun z => absurd q z, fun _ => ⟨fun q2 => r0 _ rfl ?_, fun q2 => r1 _ rfl ?_⟩⟩, fun q => ⟨fun q2 => ⟨fun q3 => ⟨trivial, ?_⟩, fun q3 => ⟨fun q4 => r0 _ rfl ?_, fun q4 => r1 _ rfl ?_⟩⟩, fun q2 => ⟨fun _ => ⟨fun q4 => r0 _ rfl ?_, fun q4 => r1 _ rfl ?_⟩, fun z => absurd z q⟩⟩⟩
  · rw [if_pos q]; exact fun z => z q2
  · rw [if_pos q]; exact q2
  · rintro x7 m8 ⟨hx7, rfl⟩
    refine ⟨fun q4 => r0 _ rfl ?_, fun q4 => r1 _ rfl ?_⟩
    · rw [if_neg q, if_neg q2, if_neg q3, ← hx7]; exact q4
    · rw [if_neg q, if_neg q2, if_neg q3, ← hx7]; exact q4
  · rw [if_neg q, if_neg q2, if_pos q3]; exact fun z => z q4
  · rw [if_neg q, if_neg q2, if_pos q3]; exact q4
  · rw [if_neg q, if_pos q2]; exact fun z => z q4
  · rw [if_neg q, if_pos q2]; exact q4
theorem sp_X9_mayBegin : Sp yX9_mayBegin cX9_mayBegin 1 (some .boolean) 1 S_X9_mayBegin := by
  refine sp_of (by decide) (fun av μ P h => ?_) ?_
  · obtain ⟨rfl, -⟩ := h
    refine ⟨Nat.le_of_ble_eq_true rfl, fun v hv => ?_⟩
    simp only [List.mem_cons, List.not_mem_nil, or_false] at hv
    subst hv; rfl
  · rintro X P hO _ μ ⟨rfl, hpre, hpost⟩ hn
    exact wk_X9_mayBegin_0 hO hn   μ hpost (vp_X9_mayBegin_0   μ hpre)
def S_X9_begins : Tr := fun av μ P => av = [.ref 75] ∧ pre_X9_begins  μ ∧ ∀ m : Mem, post_X9_begins  μ m → P none m
def vc_X9_begins_0   (μ : Mem) (R : Mem → Prop)  : Prop :=
  (∀ μ1, μ1 = ui μ 75 10 0 → (∀ μ3, μ3 = ui μ1 77 6 0 → (∀ μ5, μ5 = ui μ3 77 7 0 → (∀ μ7, μ7 = ui μ5 77 8 0 → (∀ μ9, μ9 = ui μ7 77 9 0 → (∀ μ11, μ11 = ui μ9 77 10 1 → (∀ μ13, μ13 = ui μ11 77 11 120 → R μ13)))))))
set_option maxRecDepth 20000 in
set_option maxHeartbeats 4000000 in
theorem wk_X9_begins_0 {X : XT} {P : Post} (hO : OkM X cX9_begins RX9 0 none P) (hn : xn X = 1)    (μ : Mem) {R : Mem → Prop} (hR : ∀ m, R m → P none m)    (h : vc_X9_begins_0   μ R ) : V X 0 [some (.ref 75)] [] μ := by
  have hX := hO.1
  unfold vc_X9_begins_0 at h
  refine v_aload_n hX dX9_begins_0 rfl (?_ : V X 1 [some (.ref 75)] [.ref 75] μ)
  refine v_iconst hX 0 dX9_begins_1 rfl (?_ : V X 2 [some (.ref 75)] [.int 0, .ref 75] μ)
  refine w_puti hX fk_X9_119 fw_9_10 sh_75 rfl dX9_begins_2 (fun μ1 e2 => (?_ : V X 5 [some (.ref 75)] [] μ1))
  replace h := h μ1 e2
  refine v_aload_n hX dX9_begins_5 rfl (?_ : V X 6 [some (.ref 75)] [.ref 75] μ1)
  refine v_getr hX (77) fk_X9_13 sh_75 rfl rfl dX9_begins_6 (?_ : V X 9 [some (.ref 75)] [.ref 77] μ1)
  refine v_bipush hX 6 dX9_begins_9 rfl (?_ : V X 11 [some (.ref 75)] [.int 6, .ref 77] μ1)
  refine v_iconst hX 0 dX9_begins_11 rfl (?_ : V X 12 [some (.ref 75)] [.int 0, .int 6, .ref 77] μ1)
  refine w_iast hX 6 sh_77 (vp_lit (by decide)) (by decide) dX9_begins_12 (fun μ3 e4 => (?_ : V X 13 [some (.ref 75)] [] μ3))
  replace h := h μ3 e4
  refine v_aload_n hX dX9_begins_13 rfl (?_ : V X 14 [some (.ref 75)] [.ref 75] μ3)
  refine v_getr hX (77) fk_X9_13 sh_75 rfl rfl dX9_begins_14 (?_ : V X 17 [some (.ref 75)] [.ref 77] μ3)
  refine v_bipush hX 7 dX9_begins_17 rfl (?_ : V X 19 [some (.ref 75)] [.int 7, .ref 77] μ3)
  refine v_iconst hX 0 dX9_begins_19 rfl (?_ : V X 20 [some (.ref 75)] [.int 0, .int 7, .ref 77] μ3)
  refine w_iast hX 7 sh_77 (vp_lit (by decide)) (by decide) dX9_begins_20 (fun μ5 e6 => (?_ : V X 21 [some (.ref 75)] [] μ5))
  replace h := h μ5 e6
  refine v_aload_n hX dX9_begins_21 rfl (?_ : V X 22 [some (.ref 75)] [.ref 75] μ5)
  refine v_getr hX (77) fk_X9_13 sh_75 rfl rfl dX9_begins_22 (?_ : V X 25 [some (.ref 75)] [.ref 77] μ5)
  refine v_bipush hX 8 dX9_begins_25 rfl (?_ : V X 27 [some (.ref 75)] [.int 8, .ref 77] μ5)
  refine v_iconst hX 0 dX9_begins_27 rfl (?_ : V X 28 [some (.ref 75)] [.int 0, .int 8, .ref 77] μ5)
  refine w_iast hX 8 sh_77 (vp_lit (by decide)) (by decide) dX9_begins_28 (fun μ7 e8 => (?_ : V X 29 [some (.ref 75)] [] μ7))
  replace h := h μ7 e8
  refine v_aload_n hX dX9_begins_29 rfl (?_ : V X 30 [some (.ref 75)] [.ref 75] μ7)
  refine v_getr hX (77) fk_X9_13 sh_75 rfl rfl dX9_begins_30 (?_ : V X 33 [some (.ref 75)] [.ref 77] μ7)
  refine v_bipush hX 9 dX9_begins_33 rfl (?_ : V X 35 [some (.ref 75)] [.int 9, .ref 77] μ7)
  refine v_iconst hX 0 dX9_begins_35 rfl (?_ : V X 36 [some (.ref 75)] [.int 0, .int 9, .ref 77] μ7)
  refine w_iast hX 9 sh_77 (vp_lit (by decide)) (by decide) dX9_begins_36 (fun μ9 e10 => (?_ : V X 37 [some (.ref 75)] [] μ9))
  replace h := h μ9 e10
  refine v_aload_n hX dX9_begins_37 rfl (?_ : V X 38 [some (.ref 75)] [.ref 75] μ9)
  refine v_getr hX (77) fk_X9_13 sh_75 rfl rfl dX9_begins_38 (?_ : V X 41 [some (.ref 75)] [.ref 77] μ9)
  refine v_bipush hX 10 dX9_begins_41 rfl (?_ : V X 43 [some (.ref 75)] [.int 10, .ref 77] μ9)
  refine v_iconst hX 1 dX9_begins_43 rfl (?_ : V X 44 [some (.ref 75)] [.int 1, .int 10, .ref 77] μ9)
  refine w_iast hX 10 sh_77 (vp_lit (by decide)) (by decide) dX9_begins_44 (fun μ11 e12 => (?_ : V X 45 [some (.ref 75)] [] μ11))
  replace h := h μ11 e12
  refine v_aload_n hX dX9_begins_45 rfl (?_ : V X 46 [some (.ref 75)] [.ref 75] μ11)
  refine v_getr hX (77) fk_X9_13 sh_75 rfl rfl dX9_begins_46 (?_ : V X 49 [some (.ref 75)] [.ref 77] μ11)
  refine v_bipush hX 11 dX9_begins_49 rfl (?_ : V X 51 [some (.ref 75)] [.int 11, .ref 77] μ11)
  refine v_bipush hX 120 dX9_begins_51 rfl (?_ : V X 53 [some (.ref 75)] [.int 120, .int 11, .ref 77] μ11)
  refine w_iast hX 11 sh_77 (vp_lit (by decide)) (by decide) dX9_begins_53 (fun μ13 e14 => (?_ : V X 54 [some (.ref 75)] [] μ13))
  replace h := h μ13 e14
  exact v_vret hO dX9_begins_54 (hR _ h)
set_option maxRecDepth 20000 in
set_option maxHeartbeats 1000000 in
theorem vp_X9_begins_0   (μ : Mem) (hpre : pre_X9_begins  μ) : vc_X9_begins_0  μ (post_X9_begins  μ)  := by
  unfold vc_X9_begins_0
  rintro m1 rfl m3 rfl m5 rfl m7 rfl m9 rfl m11 rfl m13 rfl
  refine ⟨fr_trans (fr_ui (by simp)) (fr_trans (fr_ui (by simp)) (fr_trans (fr_ui (by simp)) (fr_trans (fr_ui (by simp)) (fr_trans (fr_ui (by simp)) (fr_trans (fr_ui (by simp)) (fr_ui (by simp))))))), fun k hk => ?_, rfl, fun k hk => ?_, rfl, rfl, rfl, rfl, rfl, rfl⟩
  · simp only [gi_ui]; simp [hk]
  · simp only [gi_ui]
    rw [if_neg (by omega), if_neg (by omega), if_neg (by omega), if_neg (by omega), if_neg (by omega), if_neg (by omega), if_neg (by omega)]
theorem sp_X9_begins : Sp yX9_begins cX9_begins 1 none 0 S_X9_begins := by
  refine sp_of (by decide) (fun av μ P h => ?_) ?_
  · obtain ⟨rfl, -⟩ := h
    refine ⟨Nat.le_of_ble_eq_true rfl, fun v hv => ?_⟩
    simp only [List.mem_cons, List.not_mem_nil, or_false] at hv
    subst hv; rfl
  · rintro X P hO _ μ ⟨rfl, hpre, hpost⟩ hn
    exact wk_X9_begins_0 hO hn   μ hpost (vp_X9_begins_0   μ hpre)
theorem sh_step {c d i : Nat} {μ m : Mem} (h : shF c d i μ m) (hid : i < d) : shF c d (i + 1) μ (ui m c i (gi m c (d + i))) := by
  intro k
  rw [gi_ui]
  by_cases z : k = i
  · rw [if_pos ⟨rfl, z⟩, z, if_pos (by omega), h (d + i), if_neg (by omega)]
  · rw [if_neg (fun y => z y.2), h k]
    by_cases y : k < i
    · rw [if_pos y, if_pos (by omega)]
    · rw [if_neg y, if_neg (by omega)]
theorem sh_ui {c d i a k : Nat} {v : Int32} {μ m : Mem} (h : shF c d i μ m) (hc : c ≠ a) : shF c d i μ (ui m a k v) := by
  intro j; rw [gi_ui, if_neg (fun y => hc y.1)]; exact h j
theorem shF_0 {c d : Nat} {μ m : Mem} (h : ∀ k, gi m c k = gi μ c k) : shF c d 0 μ m := fun k => by rw [if_neg (by omega)]; exact h k
def S_X9_settles : Tr := fun av μ P => av = [.ref 75] ∧ pre_X9_settles  μ ∧ ∀ m : Mem, post_X9_settles  μ m → P none m
def vc_X9_settles_0   (μ : Mem) (R : Mem → Prop) (J2 : Int32 → Mem → Prop) (J46 : Int32 → Mem → Prop) (J67 : Int32 → Mem → Prop) : Prop :=
  J2 0 μ
set_option maxRecDepth 20000 in
set_option maxHeartbeats 4000000 in
theorem wk_X9_settles_0 {X : XT} {P : Post} (hO : OkM X cX9_settles RX9 0 none P) (hn : xn X = 2)    (μ : Mem) {R : Mem → Prop} (hR : ∀ m, R m → P none m) {J2 : Int32 → Mem → Prop} {J46 : Int32 → Mem → Prop} {J67 : Int32 → Mem → Prop} (hJ2 : ∀ (l1 : Int32) (m : Mem), J2 l1 m → V X 2 [some (.ref 75), some (.int l1)] [] m) (hJ46 : ∀ (l1 : Int32) (m : Mem), J46 l1 m → V X 46 [some (.ref 75), some (.int l1)] [] m) (hJ67 : ∀ (l1 : Int32) (m : Mem), J67 l1 m → V X 67 [some (.ref 75), some (.int l1)] [] m)  (h : vc_X9_settles_0   μ R J2 J46 J67) : V X 0 [some (.ref 75), none] [] μ := by
  have hX := hO.1
  unfold vc_X9_settles_0 at h
  refine v_iconst hX 0 dX9_settles_0 rfl (?_ : V X 1 [some (.ref 75), none] [.int 0] μ)
  refine v_istore_n hX dX9_settles_1 (by rw [hn]; decide) (?_ : V X 2 [some (.ref 75), some (.int 0)] [] μ)
  exact v_mask [true, true] (hJ2 _ _ h)
def vc_X9_settles_2  (l1 : Int32) (μ : Mem) (R : Mem → Prop) (J2 : Int32 → Mem → Prop) (J46 : Int32 → Mem → Prop) (J67 : Int32 → Mem → Prop) : Prop :=
  ((6 ≤ l1 → J46 0 μ) ∧ (¬ 6 ≤ l1 → vp_in (6 + l1) 12 ∧ vp_in l1 12 ∧ (∀ μ4, μ4 = ui μ 77 (Int32.toNatClampNeg l1) (gi μ 77 (Int32.toNatClampNeg (6 + l1))) → vp_in (6 + l1) 12 ∧ vp_in l1 12 ∧ (∀ μ8, μ8 = ui μ4 83 (Int32.toNatClampNeg l1) (gi μ4 83 (Int32.toNatClampNeg (6 + l1))) → J2 (l1 + 1) μ8))))
set_option maxRecDepth 20000 in
set_option maxHeartbeats 4000000 in
theorem wk_X9_settles_2 {X : XT} {P : Post} (hO : OkM X cX9_settles RX9 0 none P) (hn : xn X = 2)   (l1 : Int32) (μ : Mem) {R : Mem → Prop} (hR : ∀ m, R m → P none m) {J2 : Int32 → Mem → Prop} {J46 : Int32 → Mem → Prop} {J67 : Int32 → Mem → Prop} (hJ2 : ∀ (l1 : Int32) (m : Mem), J2 l1 m → V X 2 [some (.ref 75), some (.int l1)] [] m) (hJ46 : ∀ (l1 : Int32) (m : Mem), J46 l1 m → V X 46 [some (.ref 75), some (.int l1)] [] m) (hJ67 : ∀ (l1 : Int32) (m : Mem), J67 l1 m → V X 67 [some (.ref 75), some (.int l1)] [] m)  (h : vc_X9_settles_2  l1 μ R J2 J46 J67) : V X 2 [some (.ref 75), some (.int l1)] [] μ := by
  have hX := hO.1
  unfold vc_X9_settles_2 at h
  refine v_iload_n hX dX9_settles_2 rfl (?_ : V X 3 [some (.ref 75), some (.int l1)] [.int l1] μ)
  refine v_bipush hX 6 dX9_settles_3 rfl (?_ : V X 5 [some (.ref 75), some (.int l1)] [.int 6, .int l1] μ)
  refine v_icmp_ge hX 44 dX9_settles_5 rfl (fun c1 => ?_) (fun c1 => ?_)
  · replace h := h.1 c1
    refine v_iconst hX 0 dX9_settles_44 rfl (?_ : V X 45 [some (.ref 75), some (.int l1)] [.int 0] μ)
    refine v_istore_n hX dX9_settles_45 (by rw [hn]; decide) (?_ : V X 46 [some (.ref 75), some (.int 0)] [] μ)
    exact v_mask [true, true] (hJ46 _ _ h)
  · replace h := h.2 c1
    refine v_aload_n hX dX9_settles_8 rfl (?_ : V X 9 [some (.ref 75), some (.int l1)] [.ref 75] μ)
    refine v_getr hX (77) fk_X9_13 sh_75 rfl rfl dX9_settles_9 (?_ : V X 12 [some (.ref 75), some (.int l1)] [.ref 77] μ)
    refine v_iload_n hX dX9_settles_12 rfl (?_ : V X 13 [some (.ref 75), some (.int l1)] [.int l1, .ref 77] μ)
    refine v_aload_n hX dX9_settles_13 rfl (?_ : V X 14 [some (.ref 75), some (.int l1)] [.ref 75, .int l1, .ref 77] μ)
    refine v_getr hX (77) fk_X9_13 sh_75 rfl rfl dX9_settles_14 (?_ : V X 17 [some (.ref 75), some (.int l1)] [.ref 77, .int l1, .ref 77] μ)
    refine v_bipush hX 6 dX9_settles_17 rfl (?_ : V X 19 [some (.ref 75), some (.int l1)] [.int 6, .ref 77, .int l1, .ref 77] μ)
    refine v_iload_n hX dX9_settles_19 rfl (?_ : V X 20 [some (.ref 75), some (.int l1)] [.int l1, .int 6, .ref 77, .int l1, .ref 77] μ)
    refine v_iadd hX dX9_settles_20 (?_ : V X 21 [some (.ref 75), some (.int l1)] [.int (6 + l1), .ref 77, .int l1, .ref 77] μ)
    have hb2 := h.1
    replace h := h.2
    refine w_iald hX (Int32.toNatClampNeg (6 + l1)) sh_77 hb2 rfl dX9_settles_21 (?_ : V X 22 [some (.ref 75), some (.int l1)] [.int (gi μ 77 (Int32.toNatClampNeg (6 + l1))), .int l1, .ref 77] μ)
    have hb3 := h.1
    replace h := h.2
    refine w_iast hX (Int32.toNatClampNeg l1) sh_77 hb3 rfl dX9_settles_22 (fun μ4 e5 => (?_ : V X 23 [some (.ref 75), some (.int l1)] [] μ4))
    replace h := h μ4 e5
    refine v_aload_n hX dX9_settles_23 rfl (?_ : V X 24 [some (.ref 75), some (.int l1)] [.ref 75] μ4)
    refine v_getr hX (83) fk_X9_31 sh_75 rfl rfl dX9_settles_24 (?_ : V X 27 [some (.ref 75), some (.int l1)] [.ref 83] μ4)
    refine v_iload_n hX dX9_settles_27 rfl (?_ : V X 28 [some (.ref 75), some (.int l1)] [.int l1, .ref 83] μ4)
    refine v_aload_n hX dX9_settles_28 rfl (?_ : V X 29 [some (.ref 75), some (.int l1)] [.ref 75, .int l1, .ref 83] μ4)
    refine v_getr hX (83) fk_X9_31 sh_75 rfl rfl dX9_settles_29 (?_ : V X 32 [some (.ref 75), some (.int l1)] [.ref 83, .int l1, .ref 83] μ4)
    refine v_bipush hX 6 dX9_settles_32 rfl (?_ : V X 34 [some (.ref 75), some (.int l1)] [.int 6, .ref 83, .int l1, .ref 83] μ4)
    refine v_iload_n hX dX9_settles_34 rfl (?_ : V X 35 [some (.ref 75), some (.int l1)] [.int l1, .int 6, .ref 83, .int l1, .ref 83] μ4)
    refine v_iadd hX dX9_settles_35 (?_ : V X 36 [some (.ref 75), some (.int l1)] [.int (6 + l1), .ref 83, .int l1, .ref 83] μ4)
    have hb6 := h.1
    replace h := h.2
    refine w_iald hX (Int32.toNatClampNeg (6 + l1)) sh_83 hb6 rfl dX9_settles_36 (?_ : V X 37 [some (.ref 75), some (.int l1)] [.int (gi μ4 83 (Int32.toNatClampNeg (6 + l1))), .int l1, .ref 83] μ4)
    have hb7 := h.1
    replace h := h.2
    refine w_iast hX (Int32.toNatClampNeg l1) sh_83 hb7 rfl dX9_settles_37 (fun μ8 e9 => (?_ : V X 38 [some (.ref 75), some (.int l1)] [] μ8))
    replace h := h μ8 e9
    refine v_iinc hX 1 dX9_settles_38 (by rw [hn]; decide) rfl rfl (?_ : V X 41 [some (.ref 75), some (.int (l1 + 1))] [] μ8)
    refine v_goto hX 2 dX9_settles_41 rfl (?_ : V X 2 [some (.ref 75), some (.int (l1 + 1))] [] μ8)
    exact v_mask [true, true] (hJ2 _ _ h)
def vc_X9_settles_46  (l1 : Int32) (μ : Mem) (R : Mem → Prop) (J2 : Int32 → Mem → Prop) (J46 : Int32 → Mem → Prop) (J67 : Int32 → Mem → Prop) : Prop :=
  ((15 ≤ l1 → J67 0 μ) ∧ (¬ 15 ≤ l1 → vp_in l1 15 ∧ (∀ μ3, μ3 = ui μ 84 (Int32.toNatClampNeg l1) 0 → J46 (l1 + 1) μ3)))
set_option maxRecDepth 20000 in
set_option maxHeartbeats 4000000 in
theorem wk_X9_settles_46 {X : XT} {P : Post} (hO : OkM X cX9_settles RX9 0 none P) (hn : xn X = 2)   (l1 : Int32) (μ : Mem) {R : Mem → Prop} (hR : ∀ m, R m → P none m) {J2 : Int32 → Mem → Prop} {J46 : Int32 → Mem → Prop} {J67 : Int32 → Mem → Prop} (hJ2 : ∀ (l1 : Int32) (m : Mem), J2 l1 m → V X 2 [some (.ref 75), some (.int l1)] [] m) (hJ46 : ∀ (l1 : Int32) (m : Mem), J46 l1 m → V X 46 [some (.ref 75), some (.int l1)] [] m) (hJ67 : ∀ (l1 : Int32) (m : Mem), J67 l1 m → V X 67 [some (.ref 75), some (.int l1)] [] m)  (h : vc_X9_settles_46  l1 μ R J2 J46 J67) : V X 46 [some (.ref 75), some (.int l1)] [] μ := by
  have hX := hO.1
  unfold vc_X9_settles_46 at h
  refine v_iload_n hX dX9_settles_46 rfl (?_ : V X 47 [some (.ref 75), some (.int l1)] [.int l1] μ)
  refine v_bipush hX 15 dX9_settles_47 rfl (?_ : V X 49 [some (.ref 75), some (.int l1)] [.int 15, .int l1] μ)
  refine v_icmp_ge hX 65 dX9_settles_49 rfl (fun c1 => ?_) (fun c1 => ?_)
  · replace h := h.1 c1
    refine v_iconst hX 0 dX9_settles_65 rfl (?_ : V X 66 [some (.ref 75), some (.int l1)] [.int 0] μ)
    refine v_istore_n hX dX9_settles_66 (by rw [hn]; decide) (?_ : V X 67 [some (.ref 75), some (.int 0)] [] μ)
    exact v_mask [true, true] (hJ67 _ _ h)
  · replace h := h.2 c1
    refine v_aload_n hX dX9_settles_52 rfl (?_ : V X 53 [some (.ref 75), some (.int l1)] [.ref 75] μ)
    refine v_getr hX (84) fk_X9_34 sh_75 rfl rfl dX9_settles_53 (?_ : V X 56 [some (.ref 75), some (.int l1)] [.ref 84] μ)
    refine v_iload_n hX dX9_settles_56 rfl (?_ : V X 57 [some (.ref 75), some (.int l1)] [.int l1, .ref 84] μ)
    refine v_iconst hX 0 dX9_settles_57 rfl (?_ : V X 58 [some (.ref 75), some (.int l1)] [.int 0, .int l1, .ref 84] μ)
    have hb2 := h.1
    replace h := h.2
    refine w_iast hX (Int32.toNatClampNeg l1) sh_84 hb2 rfl dX9_settles_58 (fun μ3 e4 => (?_ : V X 59 [some (.ref 75), some (.int l1)] [] μ3))
    replace h := h μ3 e4
    refine v_iinc hX 1 dX9_settles_59 (by rw [hn]; decide) rfl rfl (?_ : V X 62 [some (.ref 75), some (.int (l1 + 1))] [] μ3)
    refine v_goto hX 46 dX9_settles_62 rfl (?_ : V X 46 [some (.ref 75), some (.int (l1 + 1))] [] μ3)
    exact v_mask [true, true] (hJ46 _ _ h)
def vc_X9_settles_67  (l1 : Int32) (μ : Mem) (R : Mem → Prop) (J2 : Int32 → Mem → Prop) (J46 : Int32 → Mem → Prop) (J67 : Int32 → Mem → Prop) : Prop :=
  ((5 ≤ l1 → (∀ μ2, μ2 = ui μ 75 3 0 → (∀ μ4, μ4 = ui μ2 75 24 0 → (∀ μ6, μ6 = ui μ4 75 21 0 → (∀ μ8, μ8 = ui μ6 86 0 0 → (∀ μ10, μ10 = ui μ8 86 1 0 → R μ10)))))) ∧ (¬ 5 ≤ l1 → vp_in (5 + l1) 10 ∧ vp_in l1 10 ∧ (∀ μ14, μ14 = ui μ 79 (Int32.toNatClampNeg l1) (gi μ 79 (Int32.toNatClampNeg (5 + l1))) → vp_in (5 + l1) 10 ∧ vp_in l1 10 ∧ (∀ μ18, μ18 = ui μ14 80 (Int32.toNatClampNeg l1) (gi μ14 80 (Int32.toNatClampNeg (5 + l1))) → vp_in (5 + l1) 10 ∧ vp_in l1 10 ∧ (∀ μ22, μ22 = ui μ18 81 (Int32.toNatClampNeg l1) (gi μ18 81 (Int32.toNatClampNeg (5 + l1))) → vp_in (5 + l1) 10 ∧ vp_in l1 10 ∧ (∀ μ26, μ26 = ui μ22 82 (Int32.toNatClampNeg l1) (gi μ22 82 (Int32.toNatClampNeg (5 + l1))) → (((gi μ26 77 0) ≤ l1 → vp_in (5 + l1) 15 ∧ (∀ μ30, μ30 = ui μ26 84 (Int32.toNatClampNeg (5 + l1)) 0 → J67 (l1 + 1) μ30)) ∧ (¬ (gi μ26 77 0) ≤ l1 → vp_in l1 5 ∧ vp_in (5 + l1) 15 ∧ (∀ μ34, μ34 = ui μ26 84 (Int32.toNatClampNeg (5 + l1)) (gi μ26 78 (Int32.toNatClampNeg l1)) → J67 (l1 + 1) μ34)))))))))
set_option maxRecDepth 20000 in
set_option maxHeartbeats 4000000 in
theorem wk_X9_settles_67 {X : XT} {P : Post} (hO : OkM X cX9_settles RX9 0 none P) (hn : xn X = 2)   (l1 : Int32) (μ : Mem) {R : Mem → Prop} (hR : ∀ m, R m → P none m) {J2 : Int32 → Mem → Prop} {J46 : Int32 → Mem → Prop} {J67 : Int32 → Mem → Prop} (hJ2 : ∀ (l1 : Int32) (m : Mem), J2 l1 m → V X 2 [some (.ref 75), some (.int l1)] [] m) (hJ46 : ∀ (l1 : Int32) (m : Mem), J46 l1 m → V X 46 [some (.ref 75), some (.int l1)] [] m) (hJ67 : ∀ (l1 : Int32) (m : Mem), J67 l1 m → V X 67 [some (.ref 75), some (.int l1)] [] m)  (h : vc_X9_settles_67  l1 μ R J2 J46 J67) : V X 67 [some (.ref 75), some (.int l1)] [] μ := by
  have hX := hO.1
  unfold vc_X9_settles_67 at h
  refine v_iload_n hX dX9_settles_67 rfl (?_ : V X 68 [some (.ref 75), some (.int l1)] [.int l1] μ)
  refine v_iconst hX 5 dX9_settles_68 rfl (?_ : V X 69 [some (.ref 75), some (.int l1)] [.int 5, .int l1] μ)
  refine v_icmp_ge hX 162 dX9_settles_69 rfl (fun c1 => ?_) (fun c1 => ?_)
  · replace h := h.1 c1
    refine v_aload_n hX dX9_settles_162 rfl (?_ : V X 163 [some (.ref 75), some (.int l1)] [.ref 75] μ)
    refine v_iconst hX 0 dX9_settles_163 rfl (?_ : V X 164 [some (.ref 75), some (.int l1)] [.int 0, .ref 75] μ)
    refine w_puti hX fk_X9_82 fw_9_3 sh_75 rfl dX9_settles_164 (fun μ2 e3 => (?_ : V X 167 [some (.ref 75), some (.int l1)] [] μ2))
    replace h := h μ2 e3
    refine v_aload_n hX dX9_settles_167 rfl (?_ : V X 168 [some (.ref 75), some (.int l1)] [.ref 75] μ2)
    refine v_iconst hX 0 dX9_settles_168 rfl (?_ : V X 169 [some (.ref 75), some (.int l1)] [.int 0, .ref 75] μ2)
    refine w_puti hX fk_X9_136 fw_9_24 sh_75 rfl dX9_settles_169 (fun μ4 e5 => (?_ : V X 172 [some (.ref 75), some (.int l1)] [] μ4))
    replace h := h μ4 e5
    refine v_aload_n hX dX9_settles_172 rfl (?_ : V X 173 [some (.ref 75), some (.int l1)] [.ref 75] μ4)
    refine v_iconst hX 0 dX9_settles_173 rfl (?_ : V X 174 [some (.ref 75), some (.int l1)] [.int 0, .ref 75] μ4)
    refine w_puti hX fk_X9_139 fw_9_21 sh_75 rfl dX9_settles_174 (fun μ6 e7 => (?_ : V X 177 [some (.ref 75), some (.int l1)] [] μ6))
    replace h := h μ6 e7
    refine v_aload_n hX dX9_settles_177 rfl (?_ : V X 178 [some (.ref 75), some (.int l1)] [.ref 75] μ6)
    refine v_getr hX (86) fk_X9_40 sh_75 rfl rfl dX9_settles_178 (?_ : V X 181 [some (.ref 75), some (.int l1)] [.ref 86] μ6)
    refine v_iconst hX 0 dX9_settles_181 rfl (?_ : V X 182 [some (.ref 75), some (.int l1)] [.int 0, .ref 86] μ6)
    refine v_iconst hX 0 dX9_settles_182 rfl (?_ : V X 183 [some (.ref 75), some (.int l1)] [.int 0, .int 0, .ref 86] μ6)
    refine w_bast hX 0 sh_86 (vp_lit (by decide)) (by decide) (by decide) dX9_settles_183 (fun μ8 e9 => (?_ : V X 184 [some (.ref 75), some (.int l1)] [] μ8))
    replace h := h μ8 e9
    refine v_aload_n hX dX9_settles_184 rfl (?_ : V X 185 [some (.ref 75), some (.int l1)] [.ref 75] μ8)
    refine v_getr hX (86) fk_X9_40 sh_75 rfl rfl dX9_settles_185 (?_ : V X 188 [some (.ref 75), some (.int l1)] [.ref 86] μ8)
    refine v_iconst hX 1 dX9_settles_188 rfl (?_ : V X 189 [some (.ref 75), some (.int l1)] [.int 1, .ref 86] μ8)
    refine v_iconst hX 0 dX9_settles_189 rfl (?_ : V X 190 [some (.ref 75), some (.int l1)] [.int 0, .int 1, .ref 86] μ8)
    refine w_bast hX 1 sh_86 (vp_lit (by decide)) (by decide) (by decide) dX9_settles_190 (fun μ10 e11 => (?_ : V X 191 [some (.ref 75), some (.int l1)] [] μ10))
    replace h := h μ10 e11
    exact v_vret hO dX9_settles_191 (hR _ h)
  · replace h := h.2 c1
    refine v_aload_n hX dX9_settles_72 rfl (?_ : V X 73 [some (.ref 75), some (.int l1)] [.ref 75] μ)
    refine v_getr hX (79) fk_X9_19 sh_75 rfl rfl dX9_settles_73 (?_ : V X 76 [some (.ref 75), some (.int l1)] [.ref 79] μ)
    refine v_iload_n hX dX9_settles_76 rfl (?_ : V X 77 [some (.ref 75), some (.int l1)] [.int l1, .ref 79] μ)
    refine v_aload_n hX dX9_settles_77 rfl (?_ : V X 78 [some (.ref 75), some (.int l1)] [.ref 75, .int l1, .ref 79] μ)
    refine v_getr hX (79) fk_X9_19 sh_75 rfl rfl dX9_settles_78 (?_ : V X 81 [some (.ref 75), some (.int l1)] [.ref 79, .int l1, .ref 79] μ)
    refine v_iconst hX 5 dX9_settles_81 rfl (?_ : V X 82 [some (.ref 75), some (.int l1)] [.int 5, .ref 79, .int l1, .ref 79] μ)
    refine v_iload_n hX dX9_settles_82 rfl (?_ : V X 83 [some (.ref 75), some (.int l1)] [.int l1, .int 5, .ref 79, .int l1, .ref 79] μ)
    refine v_iadd hX dX9_settles_83 (?_ : V X 84 [some (.ref 75), some (.int l1)] [.int (5 + l1), .ref 79, .int l1, .ref 79] μ)
    have hb12 := h.1
    replace h := h.2
    refine w_iald hX (Int32.toNatClampNeg (5 + l1)) sh_79 hb12 rfl dX9_settles_84 (?_ : V X 85 [some (.ref 75), some (.int l1)] [.int (gi μ 79 (Int32.toNatClampNeg (5 + l1))), .int l1, .ref 79] μ)
    have hb13 := h.1
    replace h := h.2
    refine w_iast hX (Int32.toNatClampNeg l1) sh_79 hb13 rfl dX9_settles_85 (fun μ14 e15 => (?_ : V X 86 [some (.ref 75), some (.int l1)] [] μ14))
    replace h := h μ14 e15
    refine v_aload_n hX dX9_settles_86 rfl (?_ : V X 87 [some (.ref 75), some (.int l1)] [.ref 75] μ14)
    refine v_getr hX (80) fk_X9_22 sh_75 rfl rfl dX9_settles_87 (?_ : V X 90 [some (.ref 75), some (.int l1)] [.ref 80] μ14)
    refine v_iload_n hX dX9_settles_90 rfl (?_ : V X 91 [some (.ref 75), some (.int l1)] [.int l1, .ref 80] μ14)
    refine v_aload_n hX dX9_settles_91 rfl (?_ : V X 92 [some (.ref 75), some (.int l1)] [.ref 75, .int l1, .ref 80] μ14)
    refine v_getr hX (80) fk_X9_22 sh_75 rfl rfl dX9_settles_92 (?_ : V X 95 [some (.ref 75), some (.int l1)] [.ref 80, .int l1, .ref 80] μ14)
    refine v_iconst hX 5 dX9_settles_95 rfl (?_ : V X 96 [some (.ref 75), some (.int l1)] [.int 5, .ref 80, .int l1, .ref 80] μ14)
    refine v_iload_n hX dX9_settles_96 rfl (?_ : V X 97 [some (.ref 75), some (.int l1)] [.int l1, .int 5, .ref 80, .int l1, .ref 80] μ14)
    refine v_iadd hX dX9_settles_97 (?_ : V X 98 [some (.ref 75), some (.int l1)] [.int (5 + l1), .ref 80, .int l1, .ref 80] μ14)
    have hb16 := h.1
    replace h := h.2
    refine w_iald hX (Int32.toNatClampNeg (5 + l1)) sh_80 hb16 rfl dX9_settles_98 (?_ : V X 99 [some (.ref 75), some (.int l1)] [.int (gi μ14 80 (Int32.toNatClampNeg (5 + l1))), .int l1, .ref 80] μ14)
    have hb17 := h.1
    replace h := h.2
    refine w_iast hX (Int32.toNatClampNeg l1) sh_80 hb17 rfl dX9_settles_99 (fun μ18 e19 => (?_ : V X 100 [some (.ref 75), some (.int l1)] [] μ18))
    replace h := h μ18 e19
    refine v_aload_n hX dX9_settles_100 rfl (?_ : V X 101 [some (.ref 75), some (.int l1)] [.ref 75] μ18)
    refine v_getr hX (81) fk_X9_25 sh_75 rfl rfl dX9_settles_101 (?_ : V X 104 [some (.ref 75), some (.int l1)] [.ref 81] μ18)
    refine v_iload_n hX dX9_settles_104 rfl (?_ : V X 105 [some (.ref 75), some (.int l1)] [.int l1, .ref 81] μ18)
    refine v_aload_n hX dX9_settles_105 rfl (?_ : V X 106 [some (.ref 75), some (.int l1)] [.ref 75, .int l1, .ref 81] μ18)
    refine v_getr hX (81) fk_X9_25 sh_75 rfl rfl dX9_settles_106 (?_ : V X 109 [some (.ref 75), some (.int l1)] [.ref 81, .int l1, .ref 81] μ18)
    refine v_iconst hX 5 dX9_settles_109 rfl (?_ : V X 110 [some (.ref 75), some (.int l1)] [.int 5, .ref 81, .int l1, .ref 81] μ18)
    refine v_iload_n hX dX9_settles_110 rfl (?_ : V X 111 [some (.ref 75), some (.int l1)] [.int l1, .int 5, .ref 81, .int l1, .ref 81] μ18)
    refine v_iadd hX dX9_settles_111 (?_ : V X 112 [some (.ref 75), some (.int l1)] [.int (5 + l1), .ref 81, .int l1, .ref 81] μ18)
    have hb20 := h.1
    replace h := h.2
    refine w_iald hX (Int32.toNatClampNeg (5 + l1)) sh_81 hb20 rfl dX9_settles_112 (?_ : V X 113 [some (.ref 75), some (.int l1)] [.int (gi μ18 81 (Int32.toNatClampNeg (5 + l1))), .int l1, .ref 81] μ18)
    have hb21 := h.1
    replace h := h.2
    refine w_iast hX (Int32.toNatClampNeg l1) sh_81 hb21 rfl dX9_settles_113 (fun μ22 e23 => (?_ : V X 114 [some (.ref 75), some (.int l1)] [] μ22))
    replace h := h μ22 e23
    refine v_aload_n hX dX9_settles_114 rfl (?_ : V X 115 [some (.ref 75), some (.int l1)] [.ref 75] μ22)
    refine v_getr hX (82) fk_X9_28 sh_75 rfl rfl dX9_settles_115 (?_ : V X 118 [some (.ref 75), some (.int l1)] [.ref 82] μ22)
    refine v_iload_n hX dX9_settles_118 rfl (?_ : V X 119 [some (.ref 75), some (.int l1)] [.int l1, .ref 82] μ22)
    refine v_aload_n hX dX9_settles_119 rfl (?_ : V X 120 [some (.ref 75), some (.int l1)] [.ref 75, .int l1, .ref 82] μ22)
    refine v_getr hX (82) fk_X9_28 sh_75 rfl rfl dX9_settles_120 (?_ : V X 123 [some (.ref 75), some (.int l1)] [.ref 82, .int l1, .ref 82] μ22)
    refine v_iconst hX 5 dX9_settles_123 rfl (?_ : V X 124 [some (.ref 75), some (.int l1)] [.int 5, .ref 82, .int l1, .ref 82] μ22)
    refine v_iload_n hX dX9_settles_124 rfl (?_ : V X 125 [some (.ref 75), some (.int l1)] [.int l1, .int 5, .ref 82, .int l1, .ref 82] μ22)
    refine v_iadd hX dX9_settles_125 (?_ : V X 126 [some (.ref 75), some (.int l1)] [.int (5 + l1), .ref 82, .int l1, .ref 82] μ22)
    have hb24 := h.1
    replace h := h.2
    refine w_iald hX (Int32.toNatClampNeg (5 + l1)) sh_82 hb24 rfl dX9_settles_126 (?_ : V X 127 [some (.ref 75), some (.int l1)] [.int (gi μ22 82 (Int32.toNatClampNeg (5 + l1))), .int l1, .ref 82] μ22)
    have hb25 := h.1
    replace h := h.2
    refine w_iast hX (Int32.toNatClampNeg l1) sh_82 hb25 rfl dX9_settles_127 (fun μ26 e27 => (?_ : V X 128 [some (.ref 75), some (.int l1)] [] μ26))
    replace h := h μ26 e27
    refine v_aload_n hX dX9_settles_128 rfl (?_ : V X 129 [some (.ref 75), some (.int l1)] [.ref 75] μ26)
    refine v_getr hX (84) fk_X9_34 sh_75 rfl rfl dX9_settles_129 (?_ : V X 132 [some (.ref 75), some (.int l1)] [.ref 84] μ26)
    refine v_iconst hX 5 dX9_settles_132 rfl (?_ : V X 133 [some (.ref 75), some (.int l1)] [.int 5, .ref 84] μ26)
    refine v_iload_n hX dX9_settles_133 rfl (?_ : V X 134 [some (.ref 75), some (.int l1)] [.int l1, .int 5, .ref 84] μ26)
    refine v_iadd hX dX9_settles_134 (?_ : V X 135 [some (.ref 75), some (.int l1)] [.int (5 + l1), .ref 84] μ26)
    refine v_iload_n hX dX9_settles_135 rfl (?_ : V X 136 [some (.ref 75), some (.int l1)] [.int l1, .int (5 + l1), .ref 84] μ26)
    refine v_aload_n hX dX9_settles_136 rfl (?_ : V X 137 [some (.ref 75), some (.int l1)] [.ref 75, .int l1, .int (5 + l1), .ref 84] μ26)
    refine v_getr hX (77) fk_X9_13 sh_75 rfl rfl dX9_settles_137 (?_ : V X 140 [some (.ref 75), some (.int l1)] [.ref 77, .int l1, .int (5 + l1), .ref 84] μ26)
    refine v_iconst hX 0 dX9_settles_140 rfl (?_ : V X 141 [some (.ref 75), some (.int l1)] [.int 0, .ref 77, .int l1, .int (5 + l1), .ref 84] μ26)
    refine w_iald hX 0 sh_77 (vp_lit (by decide)) (by decide) dX9_settles_141 (?_ : V X 142 [some (.ref 75), some (.int l1)] [.int (gi μ26 77 0), .int l1, .int (5 + l1), .ref 84] μ26)
    refine v_icmp_ge hX 154 dX9_settles_142 rfl (fun c28 => ?_) (fun c28 => ?_)
    · replace h := h.1 c28
      refine v_iconst hX 0 dX9_settles_154 rfl (?_ : V X 155 [some (.ref 75), some (.int l1)] [.int 0, .int (5 + l1), .ref 84] μ26)
      have hb29 := h.1
      replace h := h.2
      refine w_iast hX (Int32.toNatClampNeg (5 + l1)) sh_84 hb29 rfl dX9_settles_155 (fun μ30 e31 => (?_ : V X 156 [some (.ref 75), some (.int l1)] [] μ30))
      replace h := h μ30 e31
      refine v_iinc hX 1 dX9_settles_156 (by rw [hn]; decide) rfl rfl (?_ : V X 159 [some (.ref 75), some (.int (l1 + 1))] [] μ30)
      refine v_goto hX 67 dX9_settles_159 rfl (?_ : V X 67 [some (.ref 75), some (.int (l1 + 1))] [] μ30)
      exact v_mask [true, true] (hJ67 _ _ h)
    · replace h := h.2 c28
      refine v_aload_n hX dX9_settles_145 rfl (?_ : V X 146 [some (.ref 75), some (.int l1)] [.ref 75, .int (5 + l1), .ref 84] μ26)
      refine v_getr hX (78) fk_X9_16 sh_75 rfl rfl dX9_settles_146 (?_ : V X 149 [some (.ref 75), some (.int l1)] [.ref 78, .int (5 + l1), .ref 84] μ26)
      refine v_iload_n hX dX9_settles_149 rfl (?_ : V X 150 [some (.ref 75), some (.int l1)] [.int l1, .ref 78, .int (5 + l1), .ref 84] μ26)
      have hb32 := h.1
      replace h := h.2
      refine w_iald hX (Int32.toNatClampNeg l1) sh_78 hb32 rfl dX9_settles_150 (?_ : V X 151 [some (.ref 75), some (.int l1)] [.int (gi μ26 78 (Int32.toNatClampNeg l1)), .int (5 + l1), .ref 84] μ26)
      refine v_goto hX 155 dX9_settles_151 rfl (?_ : V X 155 [some (.ref 75), some (.int l1)] [.int (gi μ26 78 (Int32.toNatClampNeg l1)), .int (5 + l1), .ref 84] μ26)
      have hb33 := h.1
      replace h := h.2
      refine w_iast hX (Int32.toNatClampNeg (5 + l1)) sh_84 hb33 rfl dX9_settles_155 (fun μ34 e35 => (?_ : V X 156 [some (.ref 75), some (.int l1)] [] μ34))
      replace h := h μ34 e35
      refine v_iinc hX 1 dX9_settles_156 (by rw [hn]; decide) rfl rfl (?_ : V X 159 [some (.ref 75), some (.int (l1 + 1))] [] μ34)
      refine v_goto hX 67 dX9_settles_159 rfl (?_ : V X 67 [some (.ref 75), some (.int (l1 + 1))] [] μ34)
      exact v_mask [true, true] (hJ67 _ _ h)
set_option maxRecDepth 20000 in
set_option maxHeartbeats 1000000 in
theorem vp_X9_settles_0   (μ : Mem) (hpre : pre_X9_settles  μ) : vc_X9_settles_0  μ (post_X9_settles  μ) (fun l1 m => ∃ k : Nat, inv_X9_settles_2  μ k l1 m) (fun l1 m => ∃ k : Nat, inv_X9_settles_46  μ k l1 m) (fun l1 m => ∃ k : Nat, inv_X9_settles_67  μ k l1 m) := by
  unfold vc_X9_settles_0
  exact ⟨_, 0, by omega, rfl, rfl, fr_refl _ _, shF_0 fun _ => rfl, shF_0 fun _ => rfl⟩
set_option maxRecDepth 20000 in
set_option maxHeartbeats 1000000 in
theorem vp_X9_settles_2   (μ : Mem) (hpre : pre_X9_settles  μ) (n : Nat) (l1 : Int32) (μ0 : Mem) (hi : inv_X9_settles_2  μ n l1 μ0) : vc_X9_settles_2  l1 μ0 (post_X9_settles  μ) (fun l1 m => ∃ k : Nat, k < n ∧ inv_X9_settles_2  μ k l1 m) (fun l1 m => ∃ k : Nat, k < n ∧ inv_X9_settles_46  μ k l1 m) (fun l1 m => ∃ k : Nat, k < n ∧ inv_X9_settles_67  μ k l1 m) := by
  unfold vc_X9_settles_2
  obtain ⟨i, hi1, rfl, rfl, hf, h7, h3⟩ := hi
  rw [show (6 : Int32) = nI 6 from rfl, nI_add, nI_leI (by omega) (by omega), nI_clamp (by omega), nI_clamp (by omega)]
  refine ⟨fun q => ?_, fun q => ⟨vp_in_nI (by omega) (by omega), vp_in_nI (by omega) (by omega), ?_⟩⟩
  · have : i = 6 := by omega
    subst this
    exact ⟨_, by omega, 0, by omega, rfl, rfl, fr_mono hf (by simp), h7, h3, fun k hk => absurd hk (Nat.not_lt_zero k)⟩
  · rintro m4 rfl
    refine ⟨vp_in_nI (by omega) (by omega), vp_in_nI (by omega) (by omega), ?_⟩
    rintro m8 rfl
    exact ⟨_, by omega, i + 1, by omega, rfl, nI_1 i, fr_trans hf (fr_trans (fr_ui (by simp)) (fr_ui (by simp))), sh_ui (sh_step h7 (by omega)) (by omega), sh_step (sh_ui h3 (by omega)) (by omega)⟩
set_option maxRecDepth 20000 in
set_option maxHeartbeats 1000000 in
theorem vp_X9_settles_46   (μ : Mem) (hpre : pre_X9_settles  μ) (n : Nat) (l1 : Int32) (μ0 : Mem) (hi : inv_X9_settles_46  μ n l1 μ0) : vc_X9_settles_46  l1 μ0 (post_X9_settles  μ) (fun l1 m => ∃ k : Nat, k < n ∧ inv_X9_settles_2  μ k l1 m) (fun l1 m => ∃ k : Nat, k < n ∧ inv_X9_settles_46  μ k l1 m) (fun l1 m => ∃ k : Nat, k < n ∧ inv_X9_settles_67  μ k l1 m) := by
  unfold vc_X9_settles_46
  obtain ⟨i, hi1, rfl, rfl, hf, h7, h3, h4⟩ := hi
  rw [show (15 : Int32) = nI 15 from rfl, nI_leI (by omega) (by omega), nI_clamp (by omega)]
  refine ⟨fun q => ?_, fun q => ⟨vp_in_nI (by omega) (by omega), ?_⟩⟩
  · have : i = 15 := by omega
    subst this
    refine ⟨10, by omega, 0, by omega, rfl, rfl, fr_mono hf (by simp), h7, h3, shF_0 fun k => hf.1 79 (by simp) k, shF_0 fun k => hf.1 80 (by simp) k, shF_0 fun k => hf.1 81 (by simp) k, shF_0 fun k => hf.1 82 (by simp) k, fun k hk => ?_⟩
    rw [if_neg (by omega)]; exact h4 k hk
  · rintro m3 rfl
    refine ⟨_, by omega, i + 1, by omega, rfl, nI_1 i, fr_trans hf (fr_ui (by simp)), sh_ui h7 (by omega), sh_ui h3 (by omega), fun k hk => ?_⟩
    rw [gi_ui]
    by_cases z : k = i
    · rw [if_pos ⟨rfl, z⟩]
    · rw [if_neg (fun y => z y.2)]; exact h4 k (by omega)
set_option maxRecDepth 20000 in
set_option maxHeartbeats 1000000 in
theorem vp_X9_settles_67   (μ : Mem) (hpre : pre_X9_settles  μ) (n : Nat) (l1 : Int32) (μ0 : Mem) (hi : inv_X9_settles_67  μ n l1 μ0) : vc_X9_settles_67  l1 μ0 (post_X9_settles  μ) (fun l1 m => ∃ k : Nat, k < n ∧ inv_X9_settles_2  μ k l1 m) (fun l1 m => ∃ k : Nat, k < n ∧ inv_X9_settles_46  μ k l1 m) (fun l1 m => ∃ k : Nat, k < n ∧ inv_X9_settles_67  μ k l1 m) := by
  unfold vc_X9_settles_67
  obtain ⟨i, hi1, rfl, rfl, hf, h7, h3, h79, h80, h81, h82, h84⟩ := hi
  rw [show (5 : Int32) = nI 5 from rfl, nI_add, nI_leI (by omega) (by omega), nI_clamp (by omega), nI_clamp (by omega)]
  have in10 : ¬ 5 ≤ i → vp_in (nI (5 + i)) 10 := fun z => vp_in_nI (by omega) (by omega)
  have in10' : ¬ 5 ≤ i → vp_in (nI i) 10 := fun z => vp_in_nI (by omega) (by omega)
  refine ⟨fun q => ?_, fun q => ⟨in10 q, in10' q, ?_⟩⟩
  · have : i = 5 := by omega
    subst this
    rintro m2 rfl m4 rfl m6 rfl m8 rfl m10 rfl
    refine ⟨fr_trans (fr_mono hf (by simp)) (fr_trans (fr_ui (by simp)) (fr_trans (fr_ui (by simp)) (fr_trans (fr_ui (by simp)) (fr_trans (fr_ui (by simp)) (fr_ui (by simp)))))), h7, h3, h79, h80, h81, h82, h84, rfl, rfl, rfl, fun k k1 k2 k3 => ?_, rfl, rfl⟩
    simp only [gi_ui]
    simp [k1, k2, k3]
    exact hf.1 75 (by simp) k
  · rintro m14 rfl
    refine ⟨in10 q, in10' q, ?_⟩
    rintro m18 rfl
    refine ⟨in10 q, in10' q, ?_⟩
    rintro m22 rfl
    refine ⟨in10 q, in10' q, ?_⟩
    rintro m26 hm26
    have s79 : shF 79 5 (i + 1) μ m26 := by rw [hm26]; exact sh_ui (sh_ui (sh_ui (sh_step h79 (by omega)) (by omega)) (by omega)) (by omega)
    have s80 : shF 80 5 (i + 1) μ m26 := by rw [hm26]; exact sh_ui (sh_ui (sh_step (sh_ui h80 (by omega)) (by omega)) (by omega)) (by omega)
    have s81 : shF 81 5 (i + 1) μ m26 := by rw [hm26]; exact sh_ui (sh_step (sh_ui (sh_ui h81 (by omega)) (by omega)) (by omega)) (by omega)
    have s82 : shF 82 5 (i + 1) μ m26 := by rw [hm26]; exact sh_step (sh_ui (sh_ui (sh_ui h82 (by omega)) (by omega)) (by omega)) (by omega)
    have s77 : shF 77 6 6 μ m26 := by rw [hm26]; exact h7
    have s83 : shF 83 6 6 μ m26 := by rw [hm26]; exact h3
    have s84' : s84 i μ m26 := by rw [hm26]; exact h84
    have f26 : fr [77, 79, 80, 81, 82, 83, 84] μ m26 := by
      rw [hm26]; exact fr_trans hf (fr_trans (fr_ui (by simp)) (fr_trans (fr_ui (by simp)) (fr_trans (fr_ui (by simp)) (fr_ui (by simp)))))
    clear hm26
    have e77 : gi m26 77 0 = gi μ 77 6 := by rw [s77 0, if_pos (by omega)]
    have e78 : gi m26 78 i = gi μ 78 i := f26.1 78 (by simp) i
    rw [e77, e78]
    have fin : ∀ v : Int32, v = (if nI i < gi μ 77 6 then gi μ 78 i else 0) → ∃ k, k < 10 - i ∧ inv_X9_settles_67 μ k (nI i + 1) (ui m26 84 (5 + i) v) := by
      intro v hv
      refine ⟨10 - (i + 1), by omega, i + 1, by omega, rfl, nI_1 i, fr_trans f26 (fr_ui (by simp)), sh_ui s77 (by omega), sh_ui s83 (by omega), sh_ui s79 (by omega), sh_ui s80 (by omega), sh_ui s81 (by omega), sh_ui s82 (by omega), fun k hk => ?_⟩
      rw [gi_ui]
      by_cases z : k = 5 + i
      · have ez : k - 5 = i := by omega
        rw [if_pos ⟨rfl, z⟩, hv, ez]
        by_cases y : nI i < gi μ 77 6
        · rw [if_pos y, if_pos ⟨by omega, by omega, y⟩]
        · rw [if_neg y, if_neg (fun w => y w.2.2)]
      · rw [if_neg (fun y => z y.2), s84' k hk]
        by_cases y : 5 ≤ k ∧ k < 5 + i ∧ nI (k - 5) < gi μ 77 6
        · rw [if_pos y, if_pos ⟨y.1, by omega, y.2.2⟩]
        · rw [if_neg y, if_neg (fun w => y ⟨w.1, by omega, w.2.2⟩)]
    refine ⟨fun q2 => ⟨vp_in_nI (by omega) (by omega), fun m hm => ?_⟩, fun q2 => ⟨vp_in_nI (by omega) (by omega), vp_in_nI (by omega) (by omega), fun m hm => ?_⟩⟩
    · rw [hm]; refine fin 0 ?_; rw [if_neg (by simpa using q2)]
    · rw [hm]; refine fin _ ?_; rw [if_pos (by simpa using q2)]
theorem sp_X9_settles : Sp yX9_settles cX9_settles 2 none 0 S_X9_settles := by
  refine sp_of (by decide) (fun av μ P h => ?_) ?_
  · obtain ⟨rfl, -⟩ := h
    refine ⟨Nat.le_of_ble_eq_true rfl, fun v hv => ?_⟩
    simp only [List.mem_cons, List.not_mem_nil, or_false] at hv
    subst hv; rfl
  · rintro X P hO _ μ ⟨rfl, hpre, hpost⟩ hn
    have hJ : ∀ n : Nat, (∀ (l1 : Int32) (m : Mem), inv_X9_settles_2  μ n l1 m → V X 2 [some (.ref 75), some (.int l1)] [] m) ∧ (∀ (l1 : Int32) (m : Mem), inv_X9_settles_46  μ n l1 m → V X 46 [some (.ref 75), some (.int l1)] [] m) ∧ (∀ (l1 : Int32) (m : Mem), inv_X9_settles_67  μ n l1 m → V X 67 [some (.ref 75), some (.int l1)] [] m) := by
      intro n
      induction n using Nat.strongRecOn with
      | _ n ih =>
        exact ⟨fun l1 m hi => wk_X9_settles_2 (J2 := (fun l1 m => ∃ k : Nat, k < n ∧ inv_X9_settles_2  μ k l1 m)) (J46 := (fun l1 m => ∃ k : Nat, k < n ∧ inv_X9_settles_46  μ k l1 m)) (J67 := (fun l1 m => ∃ k : Nat, k < n ∧ inv_X9_settles_67  μ k l1 m)) hO hn   l1 m hpost (fun l1 m hk => by obtain ⟨k, hk, hi⟩ := hk; exact (ih k hk).1 l1 m hi) (fun l1 m hk => by obtain ⟨k, hk, hi⟩ := hk; exact (ih k hk).2.1 l1 m hi) (fun l1 m hk => by obtain ⟨k, hk, hi⟩ := hk; exact (ih k hk).2.2 l1 m hi) (vp_X9_settles_2   μ hpre n l1 m hi), fun l1 m hi => wk_X9_settles_46 (J2 := (fun l1 m => ∃ k : Nat, k < n ∧ inv_X9_settles_2  μ k l1 m)) (J46 := (fun l1 m => ∃ k : Nat, k < n ∧ inv_X9_settles_46  μ k l1 m)) (J67 := (fun l1 m => ∃ k : Nat, k < n ∧ inv_X9_settles_67  μ k l1 m)) hO hn   l1 m hpost (fun l1 m hk => by obtain ⟨k, hk, hi⟩ := hk; exact (ih k hk).1 l1 m hi) (fun l1 m hk => by obtain ⟨k, hk, hi⟩ := hk; exact (ih k hk).2.1 l1 m hi) (fun l1 m hk => by obtain ⟨k, hk, hi⟩ := hk; exact (ih k hk).2.2 l1 m hi) (vp_X9_settles_46   μ hpre n l1 m hi), fun l1 m hi => wk_X9_settles_67 (J2 := (fun l1 m => ∃ k : Nat, k < n ∧ inv_X9_settles_2  μ k l1 m)) (J46 := (fun l1 m => ∃ k : Nat, k < n ∧ inv_X9_settles_46  μ k l1 m)) (J67 := (fun l1 m => ∃ k : Nat, k < n ∧ inv_X9_settles_67  μ k l1 m)) hO hn   l1 m hpost (fun l1 m hk => by obtain ⟨k, hk, hi⟩ := hk; exact (ih k hk).1 l1 m hi) (fun l1 m hk => by obtain ⟨k, hk, hi⟩ := hk; exact (ih k hk).2.1 l1 m hi) (fun l1 m hk => by obtain ⟨k, hk, hi⟩ := hk; exact (ih k hk).2.2 l1 m hi) (vp_X9_settles_67   μ hpre n l1 m hi)⟩
    exact wk_X9_settles_0 (J2 := (fun l1 m => ∃ k : Nat, inv_X9_settles_2  μ k l1 m)) (J46 := (fun l1 m => ∃ k : Nat, inv_X9_settles_46  μ k l1 m)) (J67 := (fun l1 m => ∃ k : Nat, inv_X9_settles_67  μ k l1 m)) hO hn   μ hpost (fun l1 m hk => by obtain ⟨k, hi⟩ := hk; exact (hJ k).1 l1 m hi) (fun l1 m hk => by obtain ⟨k, hi⟩ := hk; exact (hJ k).2.1 l1 m hi) (fun l1 m hk => by obtain ⟨k, hi⟩ := hk; exact (hJ k).2.2 l1 m hi) (vp_X9_settles_0   μ hpre)

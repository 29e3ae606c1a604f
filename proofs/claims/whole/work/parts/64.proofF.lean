theorem bellR_congr {NV D : Nat} {full full' tk tk' : Nat → Nat} {c c' : Nat → Nat → Nat} {f : Nat} (hD : D ≤ 5) (h1 : ∀ d, d < D → full d = full' d ∧ tk d = tk' d) (hc : ∀ g, g ≤ f → ∀ l, l < 6 → c g l = c' g l) (h : BellR NV D full tk c f (c f)) : BellR NV D full' tk' c' f (c' f) := by
  have e : ∀ l, l < 6 → ∀ d, d < D → thr NV full tk c (c f) f l d = thr NV full' tk' c' (c' f) f l d := by
    intro l hl d hd
    rw [thr_self, thr_self]
    have el : lsN full l d = lsN full' l d := by unfold lsN; rw [(h1 d hd).1]
    rw [el, (h1 d hd).2, hc _ (by omega) d (by omega)]
  intro l hl
  obtain ⟨a, b, g⟩ := h l hl
  rw [hc f (Nat.le_refl _) l hl] at a b g
  refine ⟨a, fun d hd => by rw [← e l hl d hd]; exact b d hd, ?_⟩
  rcases g with g | ⟨d, hd, g⟩
  · exact Or.inl g
  · exact Or.inr ⟨d, hd, by rw [← e l hl d hd]; exact g⟩
theorem isN_fr {cs : List Nat} {μ m : Mem} (h : fr cs μ m) {c k b : Nat} (hc : c ∉ cs) (hi : isN μ c k b) : isN m c k b := by
  unfold isN gn; rw [h.1 c hc]; exact hi
theorem gn_fr {cs : List Nat} {μ m : Mem} (h : fr cs μ m) {c : Nat} (hc : c ∉ cs) (k : Nat) : gn m c k = gn μ c k := by
  unfold gn; rw [h.1 c hc]
theorem clamp30 : ∀ n, n < 31 → (if (0 : Int32) < (if (30 : Int32) < nI n then 30 else nI n) then (if (30 : Int32) < nI n then 30 else nI n) else 0) = nI n := by decide +kernel
def S_X1_solve : Tr := fun av μ P => ∃ (w : Nat) (p1 : Int32), av = [.ref 59, .ref w, .ref 17, .int p1] ∧ (w = 3 ∨ w = 10) ∧ pre_X1_solve w p1 μ ∧ ∀ m : Mem, post_X1_solve w p1 μ m → P none m
def vc_X1_solve_0 (w : Nat) (p1 : Int32)  (μ : Mem) (R : Mem → Prop) (J11 : Int32 → Mem → Prop) (J110 : Int32 → Mem → Prop) : Prop :=
  (∀ μ1, μ1 = ui μ 59 2 (gi μ w 4) → J11 0 μ1)
set_option maxRecDepth 20000 in
set_option maxHeartbeats 4000000 in
theorem wk_X1_solve_0 {X : XT} {P : Post} (hO : OkM X cX1_solve RX1 3 none P) (hn : xn X = 5) (w : Nat) (p1 : Int32) (hw : w = 3 ∨ w = 10)  (μ : Mem) {R : Mem → Prop} (hR : ∀ m, R m → P none m) {J11 : Int32 → Mem → Prop} {J110 : Int32 → Mem → Prop} (hJ11 : ∀ (l4 : Int32) (m : Mem), J11 l4 m → V X 11 [some (.ref 59), some (.ref w), some (.ref 17), some (.int p1), some (.int l4)] [] m) (hJ110 : ∀ (l4 : Int32) (m : Mem), J110 l4 m → V X 110 [some (.ref 59), some (.ref w), some (.ref 17), some (.int p1), some (.int l4)] [] m)  (h : vc_X1_solve_0 w p1  μ R J11 J110) : V X 0 [some (.ref 59), some (.ref w), some (.ref 17), some (.int p1), none] [] μ := by
  have hX := hO.1
  unfold vc_X1_solve_0 at h
  refine v_aload_n hX dX1_solve_0 rfl (?_ : V X 1 [some (.ref 59), some (.ref w), some (.ref 17), some (.int p1), none] [.ref 59] μ)
  refine v_aload_n hX dX1_solve_1 rfl (?_ : V X 2 [some (.ref 59), some (.ref w), some (.ref 17), some (.int p1), none] [.ref w, .ref 59] μ)
  refine v_geti hX fk_X1_24 (sHo hw) rfl dX1_solve_2 (?_ : V X 5 [some (.ref 59), some (.ref w), some (.ref 17), some (.int p1), none] [.int (gi μ w 4), .ref 59] μ)
  refine w_puti hX fk_X1_30 fw_1_2 sh_59 rfl dX1_solve_5 (fun μ1 e2 => (?_ : V X 8 [some (.ref 59), some (.ref w), some (.ref 17), some (.int p1), none] [] μ1))
  replace h := h μ1 e2
  refine v_iconst hX 0 dX1_solve_8 rfl (?_ : V X 9 [some (.ref 59), some (.ref w), some (.ref 17), some (.int p1), none] [.int 0] μ1)
  refine v_istore hX dX1_solve_9 (by rw [hn]; decide) (?_ : V X 11 [some (.ref 59), some (.ref w), some (.ref 17), some (.int p1), some (.int 0)] [] μ1)
  exact v_mask [true, true, true, true, true] (hJ11 _ _ h)
def vc_X1_solve_11 (w : Nat) (p1 : Int32) (l4 : Int32) (μ : Mem) (R : Mem → Prop) (J11 : Int32 → Mem → Prop) (J110 : Int32 → Mem → Prop) : Prop :=
  (((gi μ 59 2) ≤ l4 → vp_in p1 5 ∧ (∀ μ3, μ3 = ui μ 59 5 (if 0 < (if 30 < (gi μ 18 (Int32.toNatClampNeg p1)) then 30 else (gi μ 18 (Int32.toNatClampNeg p1))) then (if 30 < (gi μ 18 (Int32.toNatClampNeg p1)) then 30 else (gi μ 18 (Int32.toNatClampNeg p1))) else 0) → vp_in p1 5 ∧ ((¬ (gi μ3 19 (Int32.toNatClampNeg p1)) = ((-9)) → vp_in p1 5 ∧ (∀ μ8, μ8 = ui μ3 59 6 (gi μ3 19 (Int32.toNatClampNeg p1)) → (pre_J7_fill_53178 60 186 1000000000 μ8 ∧ ∀ (μ11 : Mem), post_J7_fill_53178 60 186 1000000000 μ8 μ11 → J110 0 μ11))) ∧ ((gi μ3 19 (Int32.toNatClampNeg p1)) = ((-9)) → (∀ μ13, μ13 = ui μ3 59 6 5 → (pre_J7_fill_53178 60 186 1000000000 μ13 ∧ ∀ (μ16 : Mem), post_J7_fill_53178 60 186 1000000000 μ13 μ16 → J110 0 μ16)))))) ∧ (¬ (gi μ 59 2) ≤ l4 → (pre_X2_fullLoss w p1 l4 μ ∧ ∀ (x18 : Int32) (μ19 : Mem), post_X2_fullLoss w p1 l4 μ x18 μ19 → vp_in l4 5 ∧ (∀ μ22, μ22 = ui μ19 62 (Int32.toNatClampNeg l4) x18 → vp_in l4 5 ∧ vp_in l4 5 ∧ (∀ μ26, μ26 = ui μ22 63 (Int32.toNatClampNeg l4) (gi μ22 (w + 5) (Int32.toNatClampNeg l4)) → J11 (l4 + 1) μ26)))))
set_option maxRecDepth 20000 in
set_option maxHeartbeats 4000000 in
theorem wk_X1_solve_11 {X : XT} {P : Post} (hO : OkM X cX1_solve RX1 3 none P) (hn : xn X = 5) (w : Nat) (p1 : Int32) (hw : w = 3 ∨ w = 10) (l4 : Int32) (μ : Mem) {R : Mem → Prop} (hR : ∀ m, R m → P none m) {J11 : Int32 → Mem → Prop} {J110 : Int32 → Mem → Prop} (hJ11 : ∀ (l4 : Int32) (m : Mem), J11 l4 m → V X 11 [some (.ref 59), some (.ref w), some (.ref 17), some (.int p1), some (.int l4)] [] m) (hJ110 : ∀ (l4 : Int32) (m : Mem), J110 l4 m → V X 110 [some (.ref 59), some (.ref w), some (.ref 17), some (.int p1), some (.int l4)] [] m)  (h : vc_X1_solve_11 w p1 l4 μ R J11 J110) : V X 11 [some (.ref 59), some (.ref w), some (.ref 17), some (.int p1), some (.int l4)] [] μ := by
  have hX := hO.1
  unfold vc_X1_solve_11 at h
  refine v_iload hX dX1_solve_11 rfl (?_ : V X 13 [some (.ref 59), some (.ref w), some (.ref 17), some (.int p1), some (.int l4)] [.int l4] μ)
  refine v_aload_n hX dX1_solve_13 rfl (?_ : V X 14 [some (.ref 59), some (.ref w), some (.ref 17), some (.int p1), some (.int l4)] [.ref 59, .int l4] μ)
  refine v_geti hX fk_X1_30 sh_59 rfl dX1_solve_14 (?_ : V X 17 [some (.ref 59), some (.ref w), some (.ref 17), some (.int p1), some (.int l4)] [.int (gi μ 59 2), .int l4] μ)
  refine v_icmp_ge hX 54 dX1_solve_17 rfl (fun c1 => ?_) (fun c1 => ?_)
  · replace h := h.1 c1
    refine v_aload_n hX dX1_solve_54 rfl (?_ : V X 55 [some (.ref 59), some (.ref w), some (.ref 17), some (.int p1), some (.int l4)] [.ref 59] μ)
    refine v_iconst hX 0 dX1_solve_55 rfl (?_ : V X 56 [some (.ref 59), some (.ref w), some (.ref 17), some (.int p1), some (.int l4)] [.int 0, .ref 59] μ)
    refine v_aload_n hX dX1_solve_56 rfl (?_ : V X 57 [some (.ref 59), some (.ref w), some (.ref 17), some (.int p1), some (.int l4)] [.ref 17, .int 0, .ref 59] μ)
    refine v_getr hX (18) fk_X1_36 sh_17 rfl rfl dX1_solve_57 (?_ : V X 60 [some (.ref 59), some (.ref w), some (.ref 17), some (.int p1), some (.int l4)] [.ref 18, .int 0, .ref 59] μ)
    refine v_iload_n hX dX1_solve_60 rfl (?_ : V X 61 [some (.ref 59), some (.ref w), some (.ref 17), some (.int p1), some (.int l4)] [.int p1, .ref 18, .int 0, .ref 59] μ)
    have hb2 := h.1
    replace h := h.2
    refine w_iald hX (Int32.toNatClampNeg p1) sh_18 hb2 rfl dX1_solve_61 (?_ : V X 62 [some (.ref 59), some (.ref w), some (.ref 17), some (.int p1), some (.int l4)] [.int (gi μ 18 (Int32.toNatClampNeg p1)), .int 0, .ref 59] μ)
    refine v_bipush hX 30 dX1_solve_62 rfl (?_ : V X 64 [some (.ref 59), some (.ref w), some (.ref 17), some (.int p1), some (.int l4)] [.int 30, .int (gi μ 18 (Int32.toNatClampNeg p1)), .int 0, .ref 59] μ)
    refine v_mmin hX mk_X1_41 twMin (by decide) (Nat.le_of_ble_eq_true rfl) dX1_solve_64 (?_ : V X 67 [some (.ref 59), some (.ref w), some (.ref 17), some (.int p1), some (.int l4)] [.int (if 30 < (gi μ 18 (Int32.toNatClampNeg p1)) then 30 else (gi μ 18 (Int32.toNatClampNeg p1))), .int 0, .ref 59] μ)
    refine v_mmax hX mk_X1_46 twMax (by decide) (Nat.le_of_ble_eq_true rfl) dX1_solve_67 (?_ : V X 70 [some (.ref 59), some (.ref w), some (.ref 17), some (.int p1), some (.int l4)] [.int (if 0 < (if 30 < (gi μ 18 (Int32.toNatClampNeg p1)) then 30 else (gi μ 18 (Int32.toNatClampNeg p1))) then (if 30 < (gi μ 18 (Int32.toNatClampNeg p1)) then 30 else (gi μ 18 (Int32.toNatClampNeg p1))) else 0), .ref 59] μ)
    refine w_puti hX fk_X1_49 fw_1_5 sh_59 rfl dX1_solve_70 (fun μ3 e4 => (?_ : V X 73 [some (.ref 59), some (.ref w), some (.ref 17), some (.int p1), some (.int l4)] [] μ3))
    replace h := h μ3 e4
    refine v_aload_n hX dX1_solve_73 rfl (?_ : V X 74 [some (.ref 59), some (.ref w), some (.ref 17), some (.int p1), some (.int l4)] [.ref 59] μ3)
    refine v_aload_n hX dX1_solve_74 rfl (?_ : V X 75 [some (.ref 59), some (.ref w), some (.ref 17), some (.int p1), some (.int l4)] [.ref 17, .ref 59] μ3)
    refine v_getr hX (19) fk_X1_51 sh_17 rfl rfl dX1_solve_75 (?_ : V X 78 [some (.ref 59), some (.ref w), some (.ref 17), some (.int p1), some (.int l4)] [.ref 19, .ref 59] μ3)
    refine v_iload_n hX dX1_solve_78 rfl (?_ : V X 79 [some (.ref 59), some (.ref w), some (.ref 17), some (.int p1), some (.int l4)] [.int p1, .ref 19, .ref 59] μ3)
    have hb5 := h.1
    replace h := h.2
    refine w_iald hX (Int32.toNatClampNeg p1) sh_19 hb5 rfl dX1_solve_79 (?_ : V X 80 [some (.ref 59), some (.ref w), some (.ref 17), some (.int p1), some (.int l4)] [.int (gi μ3 19 (Int32.toNatClampNeg p1)), .ref 59] μ3)
    refine v_bipush hX (-9) dX1_solve_80 rfl (?_ : V X 82 [some (.ref 59), some (.ref w), some (.ref 17), some (.int p1), some (.int l4)] [.int ((-9)), .int (gi μ3 19 (Int32.toNatClampNeg p1)), .ref 59] μ3)
    refine v_icmp_ne hX 89 dX1_solve_82 rfl (fun c6 => ?_) (fun c6 => ?_)
    · replace h := h.1 c6
      refine v_aload_n hX dX1_solve_89 rfl (?_ : V X 90 [some (.ref 59), some (.ref w), some (.ref 17), some (.int p1), some (.int l4)] [.ref 17, .ref 59] μ3)
      refine v_getr hX (19) fk_X1_51 sh_17 rfl rfl dX1_solve_90 (?_ : V X 93 [some (.ref 59), some (.ref w), some (.ref 17), some (.int p1), some (.int l4)] [.ref 19, .ref 59] μ3)
      refine v_iload_n hX dX1_solve_93 rfl (?_ : V X 94 [some (.ref 59), some (.ref w), some (.ref 17), some (.int p1), some (.int l4)] [.int p1, .ref 19, .ref 59] μ3)
      have hb7 := h.1
      replace h := h.2
      refine w_iald hX (Int32.toNatClampNeg p1) sh_19 hb7 rfl dX1_solve_94 (?_ : V X 95 [some (.ref 59), some (.ref w), some (.ref 17), some (.int p1), some (.int l4)] [.int (gi μ3 19 (Int32.toNatClampNeg p1)), .ref 59] μ3)
      refine w_puti hX fk_X1_54 fw_1_6 sh_59 rfl dX1_solve_95 (fun μ8 e9 => (?_ : V X 98 [some (.ref 59), some (.ref w), some (.ref 17), some (.int p1), some (.int l4)] [] μ8))
      replace h := h μ8 e9
      refine v_aload_n hX dX1_solve_98 rfl (?_ : V X 99 [some (.ref 59), some (.ref w), some (.ref 17), some (.int p1), some (.int l4)] [.ref 59] μ8)
      refine v_getr hX (60) fk_X1_11 sh_59 rfl rfl dX1_solve_99 (?_ : V X 102 [some (.ref 59), some (.ref w), some (.ref 17), some (.int p1), some (.int l4)] [.ref 60] μ8)
      refine v_ldc hX 1000000000 dX1_solve_102 kk_X1_57 (?_ : V X 104 [some (.ref 59), some (.ref w), some (.ref 17), some (.int p1), some (.int l4)] [.int 1000000000, .ref 60] μ8)
      refine v_callS hX sp_J7_fill_53178 ck_J7_fill_53178 mk_X1_58 sk_J7_fill_53178 (by decide) [.ref 60, .int 1000000000] [] rfl rfl (Nat.le_of_ble_eq_true rfl) dX1_solve_104 ⟨60, 186, 1000000000, rfl, ⟨sh_60, by decide⟩, h.1, fun μ11 hp12 => (?_ : V X 107 [some (.ref 59), some (.ref w), some (.ref 17), some (.int p1), some (.int l4)] [] μ11)⟩
      replace h := h.2 μ11 hp12
      refine v_iconst hX 0 dX1_solve_107 rfl (?_ : V X 108 [some (.ref 59), some (.ref w), some (.ref 17), some (.int p1), some (.int l4)] [.int 0] μ11)
      refine v_istore hX dX1_solve_108 (by rw [hn]; decide) (?_ : V X 110 [some (.ref 59), some (.ref w), some (.ref 17), some (.int p1), some (.int 0)] [] μ11)
      exact v_mask [true, true, true, true, true] (hJ110 _ _ h)
    · replace h := h.2 c6
      refine v_iconst hX 5 dX1_solve_85 rfl (?_ : V X 86 [some (.ref 59), some (.ref w), some (.ref 17), some (.int p1), some (.int l4)] [.int 5, .ref 59] μ3)
      refine v_goto hX 95 dX1_solve_86 rfl (?_ : V X 95 [some (.ref 59), some (.ref w), some (.ref 17), some (.int p1), some (.int l4)] [.int 5, .ref 59] μ3)
      refine w_puti hX fk_X1_54 fw_1_6 sh_59 rfl dX1_solve_95 (fun μ13 e14 => (?_ : V X 98 [some (.ref 59), some (.ref w), some (.ref 17), some (.int p1), some (.int l4)] [] μ13))
      replace h := h μ13 e14
      refine v_aload_n hX dX1_solve_98 rfl (?_ : V X 99 [some (.ref 59), some (.ref w), some (.ref 17), some (.int p1), some (.int l4)] [.ref 59] μ13)
      refine v_getr hX (60) fk_X1_11 sh_59 rfl rfl dX1_solve_99 (?_ : V X 102 [some (.ref 59), some (.ref w), some (.ref 17), some (.int p1), some (.int l4)] [.ref 60] μ13)
      refine v_ldc hX 1000000000 dX1_solve_102 kk_X1_57 (?_ : V X 104 [some (.ref 59), some (.ref w), some (.ref 17), some (.int p1), some (.int l4)] [.int 1000000000, .ref 60] μ13)
      refine v_callS hX sp_J7_fill_53178 ck_J7_fill_53178 mk_X1_58 sk_J7_fill_53178 (by decide) [.ref 60, .int 1000000000] [] rfl rfl (Nat.le_of_ble_eq_true rfl) dX1_solve_104 ⟨60, 186, 1000000000, rfl, ⟨sh_60, by decide⟩, h.1, fun μ16 hp17 => (?_ : V X 107 [some (.ref 59), some (.ref w), some (.ref 17), some (.int p1), some (.int l4)] [] μ16)⟩
      replace h := h.2 μ16 hp17
      refine v_iconst hX 0 dX1_solve_107 rfl (?_ : V X 108 [some (.ref 59), some (.ref w), some (.ref 17), some (.int p1), some (.int l4)] [.int 0] μ16)
      refine v_istore hX dX1_solve_108 (by rw [hn]; decide) (?_ : V X 110 [some (.ref 59), some (.ref w), some (.ref 17), some (.int p1), some (.int 0)] [] μ16)
      exact v_mask [true, true, true, true, true] (hJ110 _ _ h)
  · replace h := h.2 c1
    refine v_aload_n hX dX1_solve_20 rfl (?_ : V X 21 [some (.ref 59), some (.ref w), some (.ref 17), some (.int p1), some (.int l4)] [.ref 59] μ)
    refine v_getr hX (62) fk_X1_18 sh_59 rfl rfl dX1_solve_21 (?_ : V X 24 [some (.ref 59), some (.ref w), some (.ref 17), some (.int p1), some (.int l4)] [.ref 62] μ)
    refine v_iload hX dX1_solve_24 rfl (?_ : V X 26 [some (.ref 59), some (.ref w), some (.ref 17), some (.int p1), some (.int l4)] [.int l4, .ref 62] μ)
    refine v_aload_n hX dX1_solve_26 rfl (?_ : V X 27 [some (.ref 59), some (.ref w), some (.ref 17), some (.int p1), some (.int l4)] [.ref w, .int l4, .ref 62] μ)
    refine v_iload_n hX dX1_solve_27 rfl (?_ : V X 28 [some (.ref 59), some (.ref w), some (.ref 17), some (.int p1), some (.int l4)] [.int p1, .ref w, .int l4, .ref 62] μ)
    refine v_iload hX dX1_solve_28 rfl (?_ : V X 30 [some (.ref 59), some (.ref w), some (.ref 17), some (.int p1), some (.int l4)] [.int l4, .int p1, .ref w, .int l4, .ref 62] μ)
    refine v_callV hX sp_X2_fullLoss ck_X2_fullLoss mk_X1_31 mv_X2_fullLoss (sHo hw) (by decide) (by decide) [.int p1, .int l4] [.int l4, .ref 62] rfl rfl (Nat.le_of_ble_eq_true rfl) dX1_solve_30 ⟨w, p1, l4, rfl, hw, h.1, fun x18 μ19 hp20 => (?_ : V X 33 [some (.ref 59), some (.ref w), some (.ref 17), some (.int p1), some (.int l4)] [.int x18, .int l4, .ref 62] μ19)⟩
    replace h := h.2 x18 μ19 hp20
    have hb21 := h.1
    replace h := h.2
    refine w_iast hX (Int32.toNatClampNeg l4) sh_62 hb21 rfl dX1_solve_33 (fun μ22 e23 => (?_ : V X 34 [some (.ref 59), some (.ref w), some (.ref 17), some (.int p1), some (.int l4)] [] μ22))
    replace h := h μ22 e23
    refine v_aload_n hX dX1_solve_34 rfl (?_ : V X 35 [some (.ref 59), some (.ref w), some (.ref 17), some (.int p1), some (.int l4)] [.ref 59] μ22)
    refine v_getr hX (63) fk_X1_21 sh_59 rfl rfl dX1_solve_35 (?_ : V X 38 [some (.ref 59), some (.ref w), some (.ref 17), some (.int p1), some (.int l4)] [.ref 63] μ22)
    refine v_iload hX dX1_solve_38 rfl (?_ : V X 40 [some (.ref 59), some (.ref w), some (.ref 17), some (.int p1), some (.int l4)] [.int l4, .ref 63] μ22)
    refine v_aload_n hX dX1_solve_40 rfl (?_ : V X 41 [some (.ref 59), some (.ref w), some (.ref 17), some (.int p1), some (.int l4)] [.ref w, .int l4, .ref 63] μ22)
    refine v_getr hX (w + 5) fk_X1_35 (sHo hw) rfl rfl dX1_solve_41 (?_ : V X 44 [some (.ref 59), some (.ref w), some (.ref 17), some (.int p1), some (.int l4)] [.ref (w + 5), .int l4, .ref 63] μ22)
    refine v_iload hX dX1_solve_44 rfl (?_ : V X 46 [some (.ref 59), some (.ref w), some (.ref 17), some (.int p1), some (.int l4)] [.int l4, .ref (w + 5), .int l4, .ref 63] μ22)
    have hb24 := h.1
    replace h := h.2
    refine w_iald hX (Int32.toNatClampNeg l4) (sH5 hw) hb24 rfl dX1_solve_46 (?_ : V X 47 [some (.ref 59), some (.ref w), some (.ref 17), some (.int p1), some (.int l4)] [.int (gi μ22 (w + 5) (Int32.toNatClampNeg l4)), .int l4, .ref 63] μ22)
    have hb25 := h.1
    replace h := h.2
    refine w_iast hX (Int32.toNatClampNeg l4) sh_63 hb25 rfl dX1_solve_47 (fun μ26 e27 => (?_ : V X 48 [some (.ref 59), some (.ref w), some (.ref 17), some (.int p1), some (.int l4)] [] μ26))
    replace h := h μ26 e27
    refine v_iinc hX 1 dX1_solve_48 (by rw [hn]; decide) rfl rfl (?_ : V X 51 [some (.ref 59), some (.ref w), some (.ref 17), some (.int p1), some (.int (l4 + 1))] [] μ26)
    refine v_goto hX 11 dX1_solve_51 rfl (?_ : V X 11 [some (.ref 59), some (.ref w), some (.ref 17), some (.int p1), some (.int (l4 + 1))] [] μ26)
    exact v_mask [true, true, true, true, true] (hJ11 _ _ h)
def vc_X1_solve_110 (w : Nat) (p1 : Int32) (l4 : Int32) (μ : Mem) (R : Mem → Prop) (J11 : Int32 → Mem → Prop) (J110 : Int32 → Mem → Prop) : Prop :=
  (((gi μ 59 5) < l4 → R μ) ∧ (¬ (gi μ 59 5) < l4 → (pre_X1_solveLevel l4 μ ∧ ∀ (μ3 : Mem), post_X1_solveLevel l4 μ μ3 → (pre_X1_solveLevel l4 μ3 ∧ ∀ (μ6 : Mem), post_X1_solveLevel l4 μ3 μ6 → J110 (l4 + 1) μ6))))
set_option maxRecDepth 20000 in
set_option maxHeartbeats 4000000 in
theorem wk_X1_solve_110 {X : XT} {P : Post} (hO : OkM X cX1_solve RX1 3 none P) (hn : xn X = 5) (w : Nat) (p1 : Int32) (hw : w = 3 ∨ w = 10) (l4 : Int32) (μ : Mem) {R : Mem → Prop} (hR : ∀ m, R m → P none m) {J11 : Int32 → Mem → Prop} {J110 : Int32 → Mem → Prop} (hJ11 : ∀ (l4 : Int32) (m : Mem), J11 l4 m → V X 11 [some (.ref 59), some (.ref w), some (.ref 17), some (.int p1), some (.int l4)] [] m) (hJ110 : ∀ (l4 : Int32) (m : Mem), J110 l4 m → V X 110 [some (.ref 59), some (.ref w), some (.ref 17), some (.int p1), some (.int l4)] [] m)  (h : vc_X1_solve_110 w p1 l4 μ R J11 J110) : V X 110 [some (.ref 59), some (.ref w), some (.ref 17), some (.int p1), some (.int l4)] [] μ := by
  have hX := hO.1
  unfold vc_X1_solve_110 at h
  refine v_iload hX dX1_solve_110 rfl (?_ : V X 112 [some (.ref 59), some (.ref w), some (.ref 17), some (.int p1), some (.int l4)] [.int l4] μ)
  refine v_aload_n hX dX1_solve_112 rfl (?_ : V X 113 [some (.ref 59), some (.ref w), some (.ref 17), some (.int p1), some (.int l4)] [.ref 59, .int l4] μ)
  refine v_geti hX fk_X1_49 sh_59 rfl dX1_solve_113 (?_ : V X 116 [some (.ref 59), some (.ref w), some (.ref 17), some (.int p1), some (.int l4)] [.int (gi μ 59 5), .int l4] μ)
  refine v_icmp_gt hX 137 dX1_solve_116 rfl (fun c1 => ?_) (fun c1 => ?_)
  · replace h := h.1 c1
    exact v_vret hO dX1_solve_137 (hR _ h)
  · replace h := h.2 c1
    refine v_aload_n hX dX1_solve_119 rfl (?_ : V X 120 [some (.ref 59), some (.ref w), some (.ref 17), some (.int p1), some (.int l4)] [.ref 59] μ)
    refine v_iload hX dX1_solve_120 rfl (?_ : V X 122 [some (.ref 59), some (.ref w), some (.ref 17), some (.int p1), some (.int l4)] [.int l4, .ref 59] μ)
    refine v_callV hX sp_X1_solveLevel ck_X1_solveLevel mk_X1_64 mv_X1_solveLevel sh_59 (by decide) (by decide) [.int l4] [] rfl rfl (Nat.le_of_ble_eq_true rfl) dX1_solve_122 ⟨l4, rfl, h.1, fun μ3 hp4 => (?_ : V X 125 [some (.ref 59), some (.ref w), some (.ref 17), some (.int p1), some (.int l4)] [] μ3)⟩
    replace h := h.2 μ3 hp4
    refine v_aload_n hX dX1_solve_125 rfl (?_ : V X 126 [some (.ref 59), some (.ref w), some (.ref 17), some (.int p1), some (.int l4)] [.ref 59] μ3)
    refine v_iload hX dX1_solve_126 rfl (?_ : V X 128 [some (.ref 59), some (.ref w), some (.ref 17), some (.int p1), some (.int l4)] [.int l4, .ref 59] μ3)
    refine v_callV hX sp_X1_solveLevel ck_X1_solveLevel mk_X1_64 mv_X1_solveLevel sh_59 (by decide) (by decide) [.int l4] [] rfl rfl (Nat.le_of_ble_eq_true rfl) dX1_solve_128 ⟨l4, rfl, h.1, fun μ6 hp7 => (?_ : V X 131 [some (.ref 59), some (.ref w), some (.ref 17), some (.int p1), some (.int l4)] [] μ6)⟩
    replace h := h.2 μ6 hp7
    refine v_iinc hX 1 dX1_solve_131 (by rw [hn]; decide) rfl rfl (?_ : V X 134 [some (.ref 59), some (.ref w), some (.ref 17), some (.int p1), some (.int (l4 + 1))] [] μ6)
    refine v_goto hX 110 dX1_solve_134 rfl (?_ : V X 110 [some (.ref 59), some (.ref w), some (.ref 17), some (.int p1), some (.int (l4 + 1))] [] μ6)
    exact v_mask [true, true, true, true, true] (hJ110 _ _ h)
set_option maxRecDepth 20000 in
set_option maxHeartbeats 1000000 in
theorem vp_X1_solve_0 (w : Nat) (p1 : Int32) (hw : w = 3 ∨ w = 10) (μ : Mem) (hpre : pre_X1_solve w p1 μ) : vc_X1_solve_0 w p1 μ (post_X1_solve w p1 μ) (fun l4 m => ∃ k : Nat, inv_X1_solve_11 w p1 μ k l4 m) (fun l4 m => ∃ k : Nat, inv_X1_solve_110 w p1 μ k l4 m) := by
  simp only [vc_X1_solve_0, pre_J7_fill_53178, pre_X1_solveLevel, pre_X2_fullLoss, post_J7_fill_53178, post_X1_solveLevel, post_X2_fullLoss, and_imp, call_eq, forall_eq, forall_const, true_and, and_true]
  obtain ⟨e, hr, h4, h5, h2, h18, h19⟩ := hpre
  refine ⟨1000, 0, Nat.zero_le _, rfl, rfl, fr_ui (by simp), ?_, fun d hd => absurd hd (Nat.not_lt_zero d)⟩
  rw [gi_ui, if_pos ⟨rfl, rfl⟩]
set_option maxRecDepth 20000 in
set_option maxHeartbeats 1000000 in
theorem vp_X1_solve_11 (w : Nat) (p1 : Int32) (hw : w = 3 ∨ w = 10) (μ : Mem) (hpre : pre_X1_solve w p1 μ) (n : Nat) (l4 : Int32) (μ0 : Mem) (hi : inv_X1_solve_11 w p1 μ n l4 μ0) : vc_X1_solve_11 w p1 l4 μ0 (post_X1_solve w p1 μ) (fun l4 m => ∃ k : Nat, k < n ∧ inv_X1_solve_11 w p1 μ k l4 m) (fun l4 m => ∃ k : Nat, k < n ∧ inv_X1_solve_110 w p1 μ k l4 m) := by
  simp only [vc_X1_solve_11, pre_J7_fill_53178, pre_X1_solveLevel, pre_X2_fullLoss, post_J7_fill_53178, post_X1_solveLevel, post_X2_fullLoss, and_imp, call_eq, forall_eq, forall_const, true_and, and_true]
  obtain ⟨e, hr, h4, h5, h2, h18, h19⟩ := hpre
  obtain ⟨i, hi1, rfl, rfl, hf, hD, hv⟩ := hi
  have hb := h4.2
  have hwl : w + 6 < 17 := by omega
  have in1 : vp_in p1 5 := by rw [e]; exact vp_in_nI hr (by omega)
  have nw : ∀ k, k ≤ 6 → w + k ∉ ([59, 62, 63] : List Nat) := by intro k hk; simp; omega
  rw [hD, isN_le h4 (by omega) (by omega), nI_clamp (by omega)]
  refine ⟨fun c => ⟨in1, ?_⟩, fun c => ⟨⟨in1, vp_in_nI (by omega) (by omega)⟩, vp_in_nI (by omega) (by omega), vp_in_nI (by omega) (by omega), vp_in_nI (by omega) (by omega), 1000 - (i + 1), by omega, i + 1, by omega, rfl, nI_1 i, ?_, ?_, fun d hd => ?_⟩⟩
  · have hi2 : i = gn μ w 4 := by omega
    subst hi2
    have e18 : gi μ0 18 p1.toNatClampNeg = nI (gn μ 18 p1.toNatClampNeg) := by rw [hf.1 18 (by simp)]; exact h18.1
    have hF := h18.2
    have e30 : (if (0 : Int32) < (if (30 : Int32) < gi μ0 18 p1.toNatClampNeg then 30 else gi μ0 18 p1.toNatClampNeg) then (if (30 : Int32) < gi μ0 18 p1.toNatClampNeg then 30 else gi μ0 18 p1.toNatClampNeg) else 0) = nI (gn μ 18 p1.toNatClampNeg) := by
      rw [e18]; exact clamp30 _ (by omega)
    rw [e30]
    have e19 : ∀ v, gi (ui μ0 59 5 v) 19 p1.toNatClampNeg = gi μ 19 p1.toNatClampNeg := by
      intro v; rw [gi_ui, if_neg (by simp), hf.1 19 (by simp)]
    rw [e19]
    have fin : ∀ (L : Nat) (m : Mem), L ≤ 5 → L = lastC (gi μ 19 p1.toNatClampNeg) → fr [60] (ui (ui μ0 59 5 (nI (gn μ 18 p1.toNatClampNeg))) 59 6 (nI L)) m → (∀ j, j < 186 → gi m 60 j = 1000000000) → inv_X1_solve_110 w p1 μ (gn μ 18 p1.toNatClampNeg + 1) 0 m := by
      intro L m hL hL2 hm hm2
      have g59 : ∀ k, gi m 59 k = if k = 6 then nI L else if k = 5 then nI (gn μ 18 p1.toNatClampNeg) else gi μ0 59 k := by
        intro k; rw [hm.1 59 (by simp), gi_ui, gi_ui]; simp
      have g62 : ∀ k, gi m 62 k = gi μ0 62 k := by
        intro k; rw [hm.1 62 (by simp), gi_ui, if_neg (by simp), gi_ui, if_neg (by simp)]
      have g63 : ∀ k, gi m 63 k = gi μ0 63 k := by
        intro k; rw [hm.1 63 (by simp), gi_ui, if_neg (by simp), gi_ui, if_neg (by simp)]
      have d2 : gi m 59 2 = nI (gn μ w 4) := by rw [g59]; simp; rw [hD]; exact h4.1
      have d5 : gi m 59 5 = nI (gn μ 18 p1.toNatClampNeg) := by rw [g59]; simp
      have d6 : gi m 59 6 = nI L := by rw [g59]; simp
      have n2 : gn m 59 2 = gn μ w 4 := by unfold gn; rw [d2]; exact nI_clamp (by omega)
      have n5 : gn m 59 5 = gn μ 18 p1.toNatClampNeg := by unfold gn; rw [d5]; exact nI_clamp (by omega)
      have n6 : gn m 59 6 = L := by unfold gn; rw [d6]; exact nI_clamp (by omega)
      have hfull : ∀ d, d < gn μ w 4 → fullC μ w p1.toNatClampNeg d ≤ 27 := by
        intro d hd
        have a := (h5 d hd).1.2
        have b := h2.2
        unfold fullC
        have := Nat.mul_le_mul a b
        omega
      have q62 : ∀ d, d < gn μ w 4 → gi m 62 d = nI (fullC μ w p1.toNatClampNeg d) ∧ gn m 62 d = fullC μ w p1.toNatClampNeg d := by
        intro d hd
        have e1 : gi m 62 d = nI (fullC μ w p1.toNatClampNeg d) := by rw [g62]; exact (hv d hd).1
        have := hfull d hd
        exact ⟨e1, by unfold gn; rw [e1]; exact nI_clamp (by omega)⟩
      have q63 : ∀ d, d < gn μ w 4 → gi m 63 d = nI (gn μ (w + 5) d) ∧ gn m 63 d = gn μ (w + 5) d := by
        intro d hd
        have e1 : gi m 63 d = gi μ (w + 5) d := by rw [g63]; exact (hv d hd).2
        exact ⟨by rw [e1]; exact (h5 d hd).2.1, by unfold gn; rw [e1]⟩
      refine ⟨0, Nat.zero_le _, rfl, rfl, fr_trans (fr_mono hf (by simp)) (fr_trans (fr_trans (fr_ui (by simp)) (fr_ui (by simp))) (fr_mono hm (by simp))), ⟨⟨⟨?_, ?_⟩, fun d hd => ?_, fun k hk => ?_⟩, ⟨?_, ?_⟩, ⟨?_, ?_⟩⟩, n2, fun d hd => ⟨(q62 d hd).2, (q63 d hd).2⟩, n5, ?_, fun f hf => absurd hf (Nat.not_lt_zero f), fun k _ hk => hm2 k hk⟩
      · rw [n2]; exact d2
      · rw [n2]; exact hb
      · rw [n2] at hd
        refine ⟨⟨?_, ?_⟩, ?_, ?_⟩
        · rw [(q62 d hd).2]; exact (q62 d hd).1
        · rw [(q62 d hd).2]; exact hfull d hd
        · rw [(q63 d hd).2]; exact (q63 d hd).1
        · rw [(q63 d hd).2]; exact (h5 d hd).2.2
      · have e1 := hm2 k hk
        have e2 : gn m 60 k = 1000000000 := by unfold gn; rw [e1]; rfl
        exact ⟨by rw [e2]; exact e1, by omega⟩
      · rw [n5]; exact d5
      · rw [n5]; exact hF
      · rw [n6]; exact d6
      · rw [n6]; exact hL
      · rw [n6]; exact hL2
    refine ⟨in1, fun q => ⟨in1, by omega, fun m hfm hm2 => ⟨_, by omega, fin (gn μ 19 p1.toNatClampNeg) m ?_ ?_ ?_ hm2⟩⟩, fun q => ⟨by omega, fun m hfm hm2 => ⟨_, by omega, fin 5 m (by omega) ?_ hfm hm2⟩⟩⟩
    · have := (h19.resolve_left q).2; omega
    · unfold lastC; rw [if_neg q]; rfl
    · rw [(h19.resolve_left q).1] at hfm; exact hfm
    · unfold lastC; rw [if_pos q]
  · exact fr_trans hf (fr_trans (fr_ui (by simp)) (fr_ui (by simp)))
  · rw [gi_ui, if_neg (by simp), gi_ui, if_neg (by simp)]; exact hD
  · have f1 : gi μ0 (w + 4) i * gi μ0 (w + 2) p1.toNatClampNeg = nI (fullC μ w p1.toNatClampNeg i) := by
      rw [hf.1 _ (nw 4 (by omega)), hf.1 _ (nw 2 (by omega)), (h5 i (by omega)).1.1, h2.1, pk_mul]; rfl
    rw [f1, gi_ui, if_neg (by simp), gi_ui, gi_ui, gi_ui, if_neg (by omega : ¬ (w + 5 = 62 ∧ i = i)), gi_ui]
    by_cases z : d = i
    · subst z
      rw [if_pos ⟨rfl, rfl⟩, if_pos ⟨rfl, rfl⟩]
      exact ⟨rfl, hf.1 _ (nw 5 (by omega)) d⟩
    · rw [if_neg (by simp [z]), if_neg (by simp [z]), if_neg (by simp)]
      exact hv d (by omega)
set_option maxRecDepth 20000 in
set_option maxHeartbeats 1000000 in
theorem vp_X1_solve_110 (w : Nat) (p1 : Int32) (hw : w = 3 ∨ w = 10) (μ : Mem) (hpre : pre_X1_solve w p1 μ) (n : Nat) (l4 : Int32) (μ0 : Mem) (hi : inv_X1_solve_110 w p1 μ n l4 μ0) : vc_X1_solve_110 w p1 l4 μ0 (post_X1_solve w p1 μ) (fun l4 m => ∃ k : Nat, k < n ∧ inv_X1_solve_11 w p1 μ k l4 m) (fun l4 m => ∃ k : Nat, k < n ∧ inv_X1_solve_110 w p1 μ k l4 m) := by
  simp only [vc_X1_solve_110, pre_J7_fill_53178, pre_X1_solveLevel, pre_X2_fullLoss, post_J7_fill_53178, post_X1_solveLevel, post_X2_fullLoss, and_imp, call_eq, forall_eq, forall_const, true_and, and_true]
  obtain ⟨e, hr, h4, h5, h2, h18, h19⟩ := hpre
  obtain ⟨i, hi1, rfl, rfl, hf, hE, n2, nv, n5, n6, hB, hN⟩ := hi
  have hF := h18.2
  have hD := h4.2
  have hE0 := hE
  obtain ⟨hT, a5, a6⟩ := hE
  have hc : gi μ0 59 5 < nI i ↔ gn μ 18 p1.toNatClampNeg < i := by
    rw [a5.1, nI_ltI (by omega) (by omega), n5]
  have ci : (nI i).toNatClampNeg = i := nI_clamp (by omega)
  rw [hc]
  refine ⟨fun c => ⟨hf, hE0, n2, nv, n5, n6, fun f hf2 => hB f (by omega)⟩, fun c => ⟨⟨by rw [ci], by rw [ci]; omega, hT⟩, fun m1 hL1 => ?_⟩⟩
  rw [ci] at hL1
  obtain ⟨F1, F2, F3, Fa, Fb, Fc, Fd⟩ := hL1
  have k59 : ∀ k, gi m1 59 k = gi μ0 59 k := fun k => F1.1 59 (by simp) k
  have k62 : gn m1 62 = gn μ0 62 := funext fun k => gn_fr F1 (by simp) k
  have k63 : gn m1 63 = gn μ0 63 := funext fun k => gn_fr F1 (by simp) k
  have kD : gn m1 59 2 = gn μ0 59 2 := gn_fr F1 (by simp) 2
  have hT1 : TV m1 := ⟨isN_fr F1 (by simp) hT.1, fun d hd => ⟨isN_fr F1 (by simp) (hT.2.1 d (by rw [← kD]; exact hd)).1, isN_fr F1 (by simp) (hT.2.1 d (by rw [← kD]; exact hd)).2⟩, F2⟩
  refine ⟨⟨by rw [ci], by rw [ci]; omega, hT1⟩, fun m2 hL2 => ?_⟩
  rw [ci] at hL2
  obtain ⟨G1, G2, G3, Ga, Gb, Gc, Gd⟩ := hL2
  rw [k62, k63, kD] at Gb Gc Gd
  have low1 : ∀ g, g < i → ∀ l, l < 6 → cC m1 g l = cC μ0 g l := by
    intro g hg l hl; unfold cC gn; rw [F3 _ (by omega)]
  have low2 : ∀ g, g < i → ∀ l, l < 6 → cC m2 g l = cC m1 g l := by
    intro g hg l hl; unfold cC gn; rw [G3 _ (by omega)]
  have j62 : gn m2 62 = gn μ0 62 := funext fun k => (gn_fr G1 (by simp) k).trans (gn_fr F1 (by simp) k)
  have j63 : gn m2 63 = gn μ0 63 := funext fun k => (gn_fr G1 (by simp) k).trans (gn_fr F1 (by simp) k)
  have jD : gn m2 59 2 = gn μ0 59 2 := (gn_fr G1 (by simp) 2).trans kD
  have D5 : gn μ0 59 2 ≤ 5 := by rw [n2]; exact hD
  have p1s : Pass 1000000000 (gn μ0 59 2) (gn μ0 62) (gn μ0 63) (cC μ0) i (cC μ0 i) (cC m1 i) := ⟨Fa, fun l hl d hd => Fb l d hl hd (Or.inl hl), Fc, Fd⟩
  have p2s : Pass 1000000000 (gn μ0 59 2) (gn μ0 62) (gn μ0 63) (cC μ0) i (cC m1 i) (cC m2 i) := by
    have et : ∀ (r : Nat → Nat) (l d : Nat), d < gn μ0 59 2 → thr 1000000000 (gn μ0 62) (gn μ0 63) (cC m1) r i l d = thr 1000000000 (gn μ0 62) (gn μ0 63) (cC μ0) r i l d := fun r l d hd => thr_lower (fun g hg => low1 g hg d (by omega))
    refine ⟨Ga, fun l hl d hd => by rw [← et _ l d hd]; exact Gb l d hl hd (Or.inl hl), fun l hl => ?_, fun S h1 h2 => Gd S h1 (fun j hj e he => by rw [et S j e he]; exact h2 j hj e he)⟩
    rcases Gc l hl with q | ⟨d, hd, q⟩
    · exact Or.inl q
    · exact Or.inr ⟨d, hd, by rw [← et _ l d hd]; exact q⟩
  have hNV : ∀ l, l < 6 → cC μ0 i l = 1000000000 := by
    intro l hl; unfold cC gn; rw [hN _ (by omega) (by omega)]; rfl
  have bR := two_pass D5 hNV p1s p2s
  have hE2 : EX m2 := ⟨⟨isN_fr G1 (by simp) hT1.1, fun d hd => ⟨isN_fr G1 (by simp) (hT1.2.1 d (by rw [kD, ← jD]; exact hd)).1, isN_fr G1 (by simp) (hT1.2.1 d (by rw [kD, ← jD]; exact hd)).2⟩, G2⟩, isN_fr G1 (by simp) (isN_fr F1 (by simp) a5), isN_fr G1 (by simp) (isN_fr F1 (by simp) a6)⟩
  refine ⟨gn μ 18 p1.toNatClampNeg + 1 - (i + 1), by omega, i + 1, by omega, rfl, nI_1 i, fr_trans hf (fr_trans (fr_mono F1 (by simp)) (fr_mono G1 (by simp))), hE2, jD.trans n2, fun d hd => by rw [j62, j63]; exact nv d hd, ?_, ?_, fun f hfi => ?_, fun k hk1 hk2 => ?_⟩
  · rw [gn_fr G1 (by simp), gn_fr F1 (by simp)]; exact n5
  · rw [gn_fr G1 (by simp), gn_fr F1 (by simp)]; exact n6
  · rw [jD, j62, j63]
    rcases Nat.lt_or_ge f i with z | z
    · exact bellR_congr D5 (fun d hd => ⟨rfl, rfl⟩) (fun g hg l hl => by rw [low2 g (by omega) l hl, low1 g (by omega) l hl]) (hB f z)
    · have hfe : f = i := by omega
      subst hfe
      have et : ∀ (r : Nat → Nat) (l d : Nat), d < gn μ0 59 2 → thr 1000000000 (gn μ0 62) (gn μ0 63) (cC m2) r f l d = thr 1000000000 (gn μ0 62) (gn μ0 63) (cC μ0) r f l d := fun r l d hd => thr_lower (fun g hg => by rw [low2 g hg d (by omega), low1 g hg d (by omega)])
      intro l hl
      obtain ⟨q1, q2, q3⟩ := bR l hl
      refine ⟨q1, fun d hd => by rw [et _ l d hd]; exact q2 d hd, ?_⟩
      rcases q3 with q3 | ⟨d, hd, q3⟩
      · exact Or.inl q3
      · exact Or.inr ⟨d, hd, by rw [et _ l d hd]; exact q3⟩
  · rw [G3 k (by omega), F3 k (by omega)]; exact hN k (by omega) hk2
theorem sp_X1_solve : Sp yX1_solve cX1_solve 5 none 3 S_X1_solve := by
  refine sp_of (by decide) (fun av μ P h => ?_) ?_
  · obtain ⟨w, p1, rfl, -⟩ := h
    refine ⟨Nat.le_of_ble_eq_true rfl, fun v hv => ?_⟩
    simp only [List.mem_cons, List.not_mem_nil, or_false] at hv
    rcases hv with rfl | rfl | rfl | rfl <;> rfl
  · rintro X P hO _ μ ⟨w, p1, rfl, hw, hpre, hpost⟩ hn
    have hJ : ∀ n : Nat, (∀ (l4 : Int32) (m : Mem), inv_X1_solve_11 w p1 μ n l4 m → V X 11 [some (.ref 59), some (.ref w), some (.ref 17), some (.int p1), some (.int l4)] [] m) ∧ (∀ (l4 : Int32) (m : Mem), inv_X1_solve_110 w p1 μ n l4 m → V X 110 [some (.ref 59), some (.ref w), some (.ref 17), some (.int p1), some (.int l4)] [] m) := by
      intro n
      induction n using Nat.strongRecOn with
      | _ n ih =>
        exact ⟨fun l4 m hi => wk_X1_solve_11 (J11 := (fun l4 m => ∃ k : Nat, k < n ∧ inv_X1_solve_11 w p1 μ k l4 m)) (J110 := (fun l4 m => ∃ k : Nat, k < n ∧ inv_X1_solve_110 w p1 μ k l4 m)) hO hn w p1 hw l4 m hpost (fun l4 m hk => by obtain ⟨k, hk, hi⟩ := hk; exact (ih k hk).1 l4 m hi) (fun l4 m hk => by obtain ⟨k, hk, hi⟩ := hk; exact (ih k hk).2 l4 m hi) (vp_X1_solve_11 w p1 hw μ hpre n l4 m hi), fun l4 m hi => wk_X1_solve_110 (J11 := (fun l4 m => ∃ k : Nat, k < n ∧ inv_X1_solve_11 w p1 μ k l4 m)) (J110 := (fun l4 m => ∃ k : Nat, k < n ∧ inv_X1_solve_110 w p1 μ k l4 m)) hO hn w p1 hw l4 m hpost (fun l4 m hk => by obtain ⟨k, hk, hi⟩ := hk; exact (ih k hk).1 l4 m hi) (fun l4 m hk => by obtain ⟨k, hk, hi⟩ := hk; exact (ih k hk).2 l4 m hi) (vp_X1_solve_110 w p1 hw μ hpre n l4 m hi)⟩
    exact wk_X1_solve_0 (J11 := (fun l4 m => ∃ k : Nat, inv_X1_solve_11 w p1 μ k l4 m)) (J110 := (fun l4 m => ∃ k : Nat, inv_X1_solve_110 w p1 μ k l4 m)) hO hn w p1 hw μ hpost (fun l4 m hk => by obtain ⟨k, hi⟩ := hk; exact (hJ k).1 l4 m hi) (fun l4 m hk => by obtain ⟨k, hi⟩ := hk; exact (hJ k).2 l4 m hi) (vp_X1_solve_0 w p1 hw μ hpre)
def S_X1_solveAll : Tr := fun av μ P => ∃ (w : Nat), av = [.ref 59, .ref w, .ref 17] ∧ (w = 3 ∨ w = 10) ∧ pre_X1_solveAll w μ ∧ ∀ m : Mem, post_X1_solveAll w μ m → P none m
def vc_X1_solveAll_0 (w : Nat)  (μ : Mem) (R : Mem → Prop) (J11 : Int32 → Mem → Prop) : Prop :=
  (pre_J7_fill_53178 61 5 ((-9)) μ ∧ ∀ (μ2 : Mem), post_J7_fill_53178 61 5 ((-9)) μ μ2 → J11 0 μ2)
set_option maxRecDepth 20000 in
set_option maxHeartbeats 4000000 in
theorem wk_X1_solveAll_0 {X : XT} {P : Post} (hO : OkM X cX1_solveAll RX1 4 none P) (hn : xn X = 4) (w : Nat) (hw : w = 3 ∨ w = 10)  (μ : Mem) {R : Mem → Prop} (hR : ∀ m, R m → P none m) {J11 : Int32 → Mem → Prop} (hJ11 : ∀ (l3 : Int32) (m : Mem), J11 l3 m → V X 11 [some (.ref 59), some (.ref w), some (.ref 17), some (.int l3)] [] m)  (h : vc_X1_solveAll_0 w  μ R J11) : V X 0 [some (.ref 59), some (.ref w), some (.ref 17), none] [] μ := by
  have hX := hO.1
  unfold vc_X1_solveAll_0 at h
  refine v_aload_n hX dX1_solveAll_0 rfl (?_ : V X 1 [some (.ref 59), some (.ref w), some (.ref 17), none] [.ref 59] μ)
  refine v_getr hX (61) fk_X1_15 sh_59 rfl rfl dX1_solveAll_1 (?_ : V X 4 [some (.ref 59), some (.ref w), some (.ref 17), none] [.ref 61] μ)
  refine v_bipush hX (-9) dX1_solveAll_4 rfl (?_ : V X 6 [some (.ref 59), some (.ref w), some (.ref 17), none] [.int ((-9)), .ref 61] μ)
  refine v_callS hX sp_J7_fill_53178 ck_J7_fill_53178 mk_X1_58 sk_J7_fill_53178 (by decide) [.ref 61, .int ((-9))] [] rfl rfl (Nat.le_of_ble_eq_true rfl) dX1_solveAll_6 ⟨61, 5, ((-9)), rfl, ⟨sh_61, by decide⟩, h.1, fun μ2 hp3 => (?_ : V X 9 [some (.ref 59), some (.ref w), some (.ref 17), none] [] μ2)⟩
  replace h := h.2 μ2 hp3
  refine v_iconst hX 0 dX1_solveAll_9 rfl (?_ : V X 10 [some (.ref 59), some (.ref w), some (.ref 17), none] [.int 0] μ2)
  refine v_istore_n hX dX1_solveAll_10 (by rw [hn]; decide) (?_ : V X 11 [some (.ref 59), some (.ref w), some (.ref 17), some (.int 0)] [] μ2)
  exact v_mask [true, true, true, true] (hJ11 _ _ h)
def vc_X1_solveAll_11 (w : Nat) (l3 : Int32) (μ : Mem) (R : Mem → Prop) (J11 : Int32 → Mem → Prop) : Prop :=
  (((gi μ w 0) ≤ l3 → R μ) ∧ (¬ (gi μ w 0) ≤ l3 → (pre_X7_isSolved l3 μ ∧ ∀ (x2 : Int32) (μ3 : Mem), post_X7_isSolved l3 μ x2 μ3 → ((¬ x2 = 0 → J11 (l3 + 1) μ3) ∧ (x2 = 0 → (pre_X1_solve w l3 μ3 ∧ ∀ (μ7 : Mem), post_X1_solve w l3 μ3 μ7 → (pre_X1_isNever  μ7 ∧ ∀ (x9 : Int32) (μ10 : Mem), post_X1_isNever  μ7 x9 μ10 → ((x9 = 0 → (pre_X1_minutesNeeded  μ10 ∧ ∀ (x13 : Int32) (μ14 : Mem), post_X1_minutesNeeded  μ10 x13 μ14 → vp_in l3 5 ∧ (∀ μ17, μ17 = ui μ14 61 (Int32.toNatClampNeg l3) x13 → J11 (l3 + 1) μ17))) ∧ (¬ x9 = 0 → vp_in l3 5 ∧ (∀ μ20, μ20 = ui μ10 61 (Int32.toNatClampNeg l3) ((-9)) → J11 (l3 + 1) μ20))))))))))
set_option maxRecDepth 20000 in
set_option maxHeartbeats 4000000 in
theorem wk_X1_solveAll_11 {X : XT} {P : Post} (hO : OkM X cX1_solveAll RX1 4 none P) (hn : xn X = 4) (w : Nat) (hw : w = 3 ∨ w = 10) (l3 : Int32) (μ : Mem) {R : Mem → Prop} (hR : ∀ m, R m → P none m) {J11 : Int32 → Mem → Prop} (hJ11 : ∀ (l3 : Int32) (m : Mem), J11 l3 m → V X 11 [some (.ref 59), some (.ref w), some (.ref 17), some (.int l3)] [] m)  (h : vc_X1_solveAll_11 w l3 μ R J11) : V X 11 [some (.ref 59), some (.ref w), some (.ref 17), some (.int l3)] [] μ := by
  have hX := hO.1
  unfold vc_X1_solveAll_11 at h
  refine v_iload_n hX dX1_solveAll_11 rfl (?_ : V X 12 [some (.ref 59), some (.ref w), some (.ref 17), some (.int l3)] [.int l3] μ)
  refine v_aload_n hX dX1_solveAll_12 rfl (?_ : V X 13 [some (.ref 59), some (.ref w), some (.ref 17), some (.int l3)] [.ref w, .int l3] μ)
  refine v_geti hX fk_X1_89 (sHo hw) rfl dX1_solveAll_13 (?_ : V X 16 [some (.ref 59), some (.ref w), some (.ref 17), some (.int l3)] [.int (gi μ w 0), .int l3] μ)
  refine v_icmp_ge hX 62 dX1_solveAll_16 rfl (fun c1 => ?_) (fun c1 => ?_)
  · replace h := h.1 c1
    exact v_vret hO dX1_solveAll_62 (hR _ h)
  · replace h := h.2 c1
    refine v_aload_n hX dX1_solveAll_19 rfl (?_ : V X 20 [some (.ref 59), some (.ref w), some (.ref 17), some (.int l3)] [.ref 17] μ)
    refine v_iload_n hX dX1_solveAll_20 rfl (?_ : V X 21 [some (.ref 59), some (.ref w), some (.ref 17), some (.int l3)] [.int l3, .ref 17] μ)
    refine v_callV hX sp_X7_isSolved ck_X7_isSolved mk_X1_92 mv_X7_isSolved sh_17 (by decide) (by decide) [.int l3] [] rfl rfl (Nat.le_of_ble_eq_true rfl) dX1_solveAll_21 ⟨l3, rfl, h.1, fun x2 μ3 hp4 => (?_ : V X 24 [some (.ref 59), some (.ref w), some (.ref 17), some (.int l3)] [.int x2] μ3)⟩
    replace h := h.2 x2 μ3 hp4
    refine v_if_ne hX 56 dX1_solveAll_24 rfl (fun c5 => ?_) (fun c5 => ?_)
    · replace h := h.1 c5
      refine v_iinc hX 1 dX1_solveAll_56 (by rw [hn]; decide) rfl rfl (?_ : V X 59 [some (.ref 59), some (.ref w), some (.ref 17), some (.int (l3 + 1))] [] μ3)
      refine v_goto hX 11 dX1_solveAll_59 rfl (?_ : V X 11 [some (.ref 59), some (.ref w), some (.ref 17), some (.int (l3 + 1))] [] μ3)
      exact v_mask [true, true, true, true] (hJ11 _ _ h)
    · replace h := h.2 c5
      refine v_aload_n hX dX1_solveAll_27 rfl (?_ : V X 28 [some (.ref 59), some (.ref w), some (.ref 17), some (.int l3)] [.ref 59] μ3)
      refine v_aload_n hX dX1_solveAll_28 rfl (?_ : V X 29 [some (.ref 59), some (.ref w), some (.ref 17), some (.int l3)] [.ref w, .ref 59] μ3)
      refine v_aload_n hX dX1_solveAll_29 rfl (?_ : V X 30 [some (.ref 59), some (.ref w), some (.ref 17), some (.int l3)] [.ref 17, .ref w, .ref 59] μ3)
      refine v_iload_n hX dX1_solveAll_30 rfl (?_ : V X 31 [some (.ref 59), some (.ref w), some (.ref 17), some (.int l3)] [.int l3, .ref 17, .ref w, .ref 59] μ3)
      refine v_callV hX sp_X1_solve ck_X1_solve mk_X1_96 mv_X1_solve sh_59 (by decide) (by decide) [.ref w, .ref 17, .int l3] [] rfl rfl (Nat.le_of_ble_eq_true rfl) dX1_solveAll_31 ⟨w, l3, rfl, hw, h.1, fun μ7 hp8 => (?_ : V X 34 [some (.ref 59), some (.ref w), some (.ref 17), some (.int l3)] [] μ7)⟩
      replace h := h.2 μ7 hp8
      refine v_aload_n hX dX1_solveAll_34 rfl (?_ : V X 35 [some (.ref 59), some (.ref w), some (.ref 17), some (.int l3)] [.ref 59] μ7)
      refine v_getr hX (61) fk_X1_15 sh_59 rfl rfl dX1_solveAll_35 (?_ : V X 38 [some (.ref 59), some (.ref w), some (.ref 17), some (.int l3)] [.ref 61] μ7)
      refine v_iload_n hX dX1_solveAll_38 rfl (?_ : V X 39 [some (.ref 59), some (.ref w), some (.ref 17), some (.int l3)] [.int l3, .ref 61] μ7)
      refine v_aload_n hX dX1_solveAll_39 rfl (?_ : V X 40 [some (.ref 59), some (.ref w), some (.ref 17), some (.int l3)] [.ref 59, .int l3, .ref 61] μ7)
      refine v_callV hX sp_X1_isNever ck_X1_isNever mk_X1_100 mv_X1_isNever sh_59 (by decide) (by decide) [] [.int l3, .ref 61] rfl rfl (Nat.le_of_ble_eq_true rfl) dX1_solveAll_40 ⟨rfl, h.1, fun x9 μ10 hp11 => (?_ : V X 43 [some (.ref 59), some (.ref w), some (.ref 17), some (.int l3)] [.int x9, .int l3, .ref 61] μ10)⟩
      replace h := h.2 x9 μ10 hp11
      refine v_if_eq hX 51 dX1_solveAll_43 rfl (fun c12 => ?_) (fun c12 => ?_)
      · replace h := h.1 c12
        refine v_aload_n hX dX1_solveAll_51 rfl (?_ : V X 52 [some (.ref 59), some (.ref w), some (.ref 17), some (.int l3)] [.ref 59, .int l3, .ref 61] μ10)
        refine v_callV hX sp_X1_minutesNeeded ck_X1_minutesNeeded mk_X1_104 mv_X1_minutesNeeded sh_59 (by decide) (by decide) [] [.int l3, .ref 61] rfl rfl (Nat.le_of_ble_eq_true rfl) dX1_solveAll_52 ⟨rfl, h.1, fun x13 μ14 hp15 => (?_ : V X 55 [some (.ref 59), some (.ref w), some (.ref 17), some (.int l3)] [.int x13, .int l3, .ref 61] μ14)⟩
        replace h := h.2 x13 μ14 hp15
        have hb16 := h.1
        replace h := h.2
        refine w_iast hX (Int32.toNatClampNeg l3) sh_61 hb16 rfl dX1_solveAll_55 (fun μ17 e18 => (?_ : V X 56 [some (.ref 59), some (.ref w), some (.ref 17), some (.int l3)] [] μ17))
        replace h := h μ17 e18
        refine v_iinc hX 1 dX1_solveAll_56 (by rw [hn]; decide) rfl rfl (?_ : V X 59 [some (.ref 59), some (.ref w), some (.ref 17), some (.int (l3 + 1))] [] μ17)
        refine v_goto hX 11 dX1_solveAll_59 rfl (?_ : V X 11 [some (.ref 59), some (.ref w), some (.ref 17), some (.int (l3 + 1))] [] μ17)
        exact v_mask [true, true, true, true] (hJ11 _ _ h)
      · replace h := h.2 c12
        refine v_bipush hX (-9) dX1_solveAll_46 rfl (?_ : V X 48 [some (.ref 59), some (.ref w), some (.ref 17), some (.int l3)] [.int ((-9)), .int l3, .ref 61] μ10)
        refine v_goto hX 55 dX1_solveAll_48 rfl (?_ : V X 55 [some (.ref 59), some (.ref w), some (.ref 17), some (.int l3)] [.int ((-9)), .int l3, .ref 61] μ10)
        have hb19 := h.1
        replace h := h.2
        refine w_iast hX (Int32.toNatClampNeg l3) sh_61 hb19 rfl dX1_solveAll_55 (fun μ20 e21 => (?_ : V X 56 [some (.ref 59), some (.ref w), some (.ref 17), some (.int l3)] [] μ20))
        replace h := h μ20 e21
        refine v_iinc hX 1 dX1_solveAll_56 (by rw [hn]; decide) rfl rfl (?_ : V X 59 [some (.ref 59), some (.ref w), some (.ref 17), some (.int (l3 + 1))] [] μ20)
        refine v_goto hX 11 dX1_solveAll_59 rfl (?_ : V X 11 [some (.ref 59), some (.ref w), some (.ref 17), some (.int (l3 + 1))] [] μ20)
        exact v_mask [true, true, true, true] (hJ11 _ _ h)
set_option maxRecDepth 20000 in
set_option maxHeartbeats 1000000 in
theorem vp_X1_solveAll_0 (w : Nat) (hw : w = 3 ∨ w = 10) (μ : Mem) (hpre : pre_X1_solveAll w μ) : vc_X1_solveAll_0 w μ (post_X1_solveAll w μ) (fun l3 m => ∃ k : Nat, inv_X1_solveAll_11 w μ k l3 m) := by
  simp only [vc_X1_solveAll_0, pre_J7_fill_53178, pre_X1_isNever, pre_X1_minutesNeeded, pre_X1_solve, pre_X7_isSolved, post_J7_fill_53178, post_X1_isNever, post_X1_minutesNeeded, post_X1_solve, post_X7_isSolved, and_imp, call_eq, forall_eq, forall_const, true_and, and_true]
  refine ⟨by omega, ?_⟩
  intro m hf hv
  exact ⟨gn μ w 0, 0, Nat.zero_le _, rfl, rfl, fr_mono hf (by simp), fun r hr => absurd hr (Nat.not_lt_zero r), fun r _ hr => hv r hr⟩
set_option maxRecDepth 20000 in
set_option maxHeartbeats 1000000 in
theorem vp_X1_solveAll_11 (w : Nat) (hw : w = 3 ∨ w = 10) (μ : Mem) (hpre : pre_X1_solveAll w μ) (n : Nat) (l3 : Int32) (μ0 : Mem) (hi : inv_X1_solveAll_11 w μ n l3 μ0) : vc_X1_solveAll_11 w l3 μ0 (post_X1_solveAll w μ) (fun l3 m => ∃ k : Nat, k < n ∧ inv_X1_solveAll_11 w μ k l3 m) := by
  unfold vc_X1_solveAll_11
  have hp := hpre
  obtain ⟨h0, h4, h5, h2, h18, h19⟩ := hpre
  obtain ⟨i, hi1, rfl, rfl, hf, hv, hn⟩ := hi
  have hb := h0.2
  have hwl : w + 6 < 17 := by omega
  have nw : ∀ k, k ≤ 6 → w + k ∉ ([59, 60, 61, 62, 63] : List Nat) := by intro k hk; simp; omega
  have nw0 : w ∉ ([59, 60, 61, 62, 63] : List Nat) := nw 0 (by omega)
  have e0 : gi μ0 w 0 = gi μ w 0 := hf.1 w nw0 0
  have e17 : gi μ0 17 3 = gi μ 17 3 := hf.1 17 (by simp) 3
  rw [e0, isN_le h0 (by omega) (by omega)]
  have ci : (nI i).toNatClampNeg = i := nI_clamp (by omega)
  have in5 : i < 5 → vp_in (nI i) 5 := fun h => vp_in_nI h (by omega)
  refine ⟨fun c => ⟨hf, fun r hr => hv r (by omega), fun r h1 h2 => hn r (by omega) h2⟩, fun c => ⟨trivial, ?_⟩⟩
  rintro x2 m2 ⟨hx2, rfl⟩
  have hx2' : x2 = if slvI (gi μ 17 3) (nI i) = 1 then 1 else 0 := by rw [hx2, e17]; rfl
  have step : ∀ (m : Mem) (v : Int32), fr [59, 60, 61, 62, 63] μ m → moC μ w i v → (∀ r, r < i → gi m 61 r = gi m2 61 r) → gi m 61 i = v → (∀ r, i + 1 ≤ r → r < 5 → gi m 61 r = gi m2 61 r) → ∃ k, k < gn μ w 0 - i ∧ inv_X1_solveAll_11 w μ k (nI i + 1) m := by
    intro m v h1 h2 h3 h4 h5
    refine ⟨gn μ w 0 - (i + 1), by omega, i + 1, by omega, rfl, nI_1 i, h1, fun r hr => ?_, fun r hr1 hr2 => by rw [h5 r hr1 hr2]; exact hn r (by omega) hr2⟩
    rcases Nat.lt_or_ge r i with z | z
    · rw [h3 r z]; exact hv r z
    · have : r = i := by omega
      subst this; rw [h4]; exact h2
  refine ⟨fun q => ?_, fun q => ⟨?_, fun m7 hs => ?_⟩⟩
  · have hs1 : slvI (gi μ 17 3) (nI i) = 1 := by
      split at hx2'
      · rename_i z; exact z
      · exact absurd hx2' q
    exact step m2 (-9) hf ⟨fun _ => rfl, fun z => absurd hs1 z⟩ (fun _ _ => rfl) (hn i (Nat.le_refl _) (by omega)) (fun _ _ _ => rfl)
  · have hs1 : ¬ slvI (gi μ 17 3) (nI i) = 1 := by
      intro z; rw [if_pos z] at hx2'; rw [hx2'] at q; exact absurd q (by decide)
    refine ⟨by rw [ci], by rw [ci]; omega, isN_fr hf nw0 h4, fun d hd => ?_, ?_, ?_, ?_⟩
    · rw [gn_fr hf nw0] at hd
      exact ⟨isN_fr hf (nw 4 (by omega)) (h5 d hd).1, isN_fr hf (nw 5 (by omega)) (h5 d hd).2⟩
    · rw [ci]; exact isN_fr hf (nw 2 (by omega)) (h2 i (by omega))
    · rw [ci]; exact isN_fr hf (by simp) (h18 i (by omega) hs1)
    · rw [ci]
      rcases h19 i (by omega) with z | z
      · left; rw [hf.1 19 (by simp)]; exact z
      · right; exact isN_fr hf (by simp) z
  · have hs1 : ¬ slvI (gi μ 17 3) (nI i) = 1 := by
      intro z; rw [if_pos z] at hx2'; rw [hx2'] at q; exact absurd q (by decide)
    obtain ⟨sf, sE, s2, sv, s5, s6, sB⟩ := hs
    rw [ci] at s5 s6 sv
    rw [gn_fr hf nw0] at s2 sv
    rw [gn_fr hf (by simp)] at s5
    rw [hf.1 19 (by simp)] at s6
    have sf2 : fr [59, 60, 61, 62, 63] μ m7 := fr_trans hf (fr_mono sf (by simp))
    have tb : tabC μ w i (gn m7 62) (gn m7 63) (cC m7) := by
      refine ⟨fun d hd => ?_, ?_⟩
      · obtain ⟨q1, q2⟩ := sv d hd
        refine ⟨?_, ?_⟩
        · rw [q1]; unfold fullC; rw [gn_fr hf (nw 4 (by omega)), gn_fr hf (nw 2 (by omega))]
        · rw [q2, gn_fr hf (nw 5 (by omega))]
      · rw [s2, s5] at sB; exact sB
    have nC : nowC m7 = cC m7 (gn μ 18 i) (lastC (gi μ 19 i)) := by unfold nowC; rw [s5, s6]
    refine ⟨sE, ?_⟩
    rintro x9 m9 ⟨hx9, rfl⟩
    rw [nC] at hx9
    refine ⟨fun z => ⟨sE, ?_⟩, fun z => ⟨in5 (by omega), ?_⟩⟩
    · have hlt : cC m9 (gn μ 18 i) (lastC (gi μ 19 i)) < 1000000000 := by
        split at hx9
        · rename_i y; exact y
        · rw [hx9] at z; exact absurd z (by decide)
      rintro x13 m13 ⟨hx13, rfl⟩
      rw [nC] at hx13
      refine ⟨in5 (by omega), ?_⟩
      rintro _ rfl
      rw [ci]
      refine step _ x13 (fr_trans sf2 (fr_ui (by simp))) ⟨fun y => absurd y hs1, fun _ => ⟨_, _, _, tb, by rw [if_pos hlt]; exact hx13⟩⟩ (fun r hr => ?_) ?_ (fun r hr1 hr2 => ?_)
      · rw [gi_ui, if_neg (by omega)]; exact sf.1 61 (by simp) r
      · rw [gi_ui, if_pos ⟨rfl, rfl⟩]
      · rw [gi_ui, if_neg (by omega)]; exact sf.1 61 (by simp) r
    · have hlt : ¬ cC m9 (gn μ 18 i) (lastC (gi μ 19 i)) < 1000000000 := by
        intro y; rw [if_pos y] at hx9; exact z hx9
      rintro _ rfl
      rw [ci]
      refine step _ (-9) (fr_trans sf2 (fr_ui (by simp))) ⟨fun y => absurd y hs1, fun _ => ⟨_, _, _, tb, by rw [if_neg hlt]⟩⟩ (fun r hr => ?_) ?_ (fun r hr1 hr2 => ?_)
      · rw [gi_ui, if_neg (by omega)]; exact sf.1 61 (by simp) r
      · rw [gi_ui, if_pos ⟨rfl, rfl⟩]
      · rw [gi_ui, if_neg (by omega)]; exact sf.1 61 (by simp) r
theorem sp_X1_solveAll : Sp yX1_solveAll cX1_solveAll 4 none 4 S_X1_solveAll := by
  refine sp_of (by decide) (fun av μ P h => ?_) ?_
  · obtain ⟨w, rfl, -⟩ := h
    refine ⟨Nat.le_of_ble_eq_true rfl, fun v hv => ?_⟩
    simp only [List.mem_cons, List.not_mem_nil, or_false] at hv
    rcases hv with rfl | rfl | rfl <;> rfl
  · rintro X P hO _ μ ⟨w, rfl, hw, hpre, hpost⟩ hn
    have hJ : ∀ n : Nat, (∀ (l3 : Int32) (m : Mem), inv_X1_solveAll_11 w μ n l3 m → V X 11 [some (.ref 59), some (.ref w), some (.ref 17), some (.int l3)] [] m) := by
      intro n
      induction n using Nat.strongRecOn with
      | _ n ih =>
        exact fun l3 m hi => wk_X1_solveAll_11 (J11 := (fun l3 m => ∃ k : Nat, k < n ∧ inv_X1_solveAll_11 w μ k l3 m)) hO hn w hw l3 m hpost (fun l3 m hk => by obtain ⟨k, hk, hi⟩ := hk; exact (ih k hk) l3 m hi) (vp_X1_solveAll_11 w hw μ hpre n l3 m hi)
    exact wk_X1_solveAll_0 (J11 := (fun l3 m => ∃ k : Nat, inv_X1_solveAll_11 w μ k l3 m)) hO hn w hw μ hpost (fun l3 m hk => by obtain ⟨k, hi⟩ := hk; exact (hJ k) l3 m hi) (vp_X1_solveAll_0 w hw μ hpre)

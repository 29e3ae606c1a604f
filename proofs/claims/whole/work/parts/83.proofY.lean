theorem f75_ui {μ : Mem} {ks : List Nat} {k : Nat} {v : Int32} (h : k ∈ ks) : f75x ks μ (ui μ 75 k v) := fun j hj => by
  rw [gi_ui, if_neg]
  rintro ⟨_, rfl⟩; exact hj h
theorem f75_trans {a b c : Mem} {ks : List Nat} (h1 : f75x ks a b) (h2 : f75x ks b c) : f75x ks a c := fun k hk => (h2 k hk).trans (h1 k hk)
theorem letAt {μ m : Mem} {b : Nat} (hR : RM μ) (hf : fr [75] μ m) (h75 : f75x [4, 5, 6, 7] μ m) (hb : b ≤ gn μ 75 3) : (if nI b < gi m 75 3 then gi m 76 (nI b).toNatClampNeg else -1) = (if b < gn μ 75 3 then gi μ 76 b else -1) := by
  obtain ⟨a3, a4, hle, hpos⟩ := hR
  have h2 := a3.2
  rw [h75 3 (by simp), a3.1, nI_clamp (by omega), hf.1 76 (by simp)]
  have : nI b < nI (gn μ 75 3) ↔ b < gn μ 75 3 := by rw [i_lt, nI_toInt (by omega), nI_toInt (by omega)]; omega
  by_cases z : b < gn μ 75 3
  · rw [if_pos (this.mpr z), if_pos z]
  · rw [if_neg (fun y => z (this.mp y)), if_neg z]
theorem vi_X9_advances (μ : Mem) (hpre : pre_X9_advances μ) : ∃ k, inv_X9_advances_0 μ k μ := by
  obtain ⟨a3, a4, hle, hpos⟩ := hpre
  exact ⟨_, gn μ 75 4, rfl, a4.1, Nat.le_refl _, hle, fun j h1 h2 => by omega, fr_refl _ _, fun _ _ => rfl⟩
def S_X9_advances : Tr := fun av μ P => av = [.ref 75] ∧ pre_X9_advances  μ ∧ ∀ m : Mem, post_X9_advances  μ m → P none m
def vc_X9_advances_0   (μ : Mem) (R : Mem → Prop) (J0 : Mem → Prop) (J71 : Int32 → Mem → Prop) : Prop :=
  (pre_X9_letterAt (gi μ 75 4) μ ∧ ∀ (x1 : Int32) (μ2 : Mem), post_X9_letterAt (gi μ 75 4) μ x1 μ2 → ((¬ x1 = 32 → (∀ μ5, μ5 = ui μ2 75 6 (gi μ2 75 4) → (pre_X9_letterAt (gi μ5 75 4) μ5 ∧ ∀ (x7 : Int32) (μ8 : Mem), post_X9_letterAt (gi μ5 75 4) μ5 x7 μ8 → ((0 ≤ x7 → (pre_X9_in x7 48 57 μ8 ∧ ∀ (x11 : Int32) (μ12 : Mem), post_X9_in x7 48 57 μ8 x11 μ12 → ((x11 = 0 → (∀ μ15, μ15 = ui μ12 75 4 ((gi μ12 75 4) + 1) → (∀ μ17, μ17 = ui μ15 75 7 x7 → ((¬ x7 = 59 → (pre_X9_isLetter x7 μ17 ∧ ∀ (x20 : Int32) (μ21 : Mem), post_X9_isLetter x7 μ17 x20 μ21 → ((x20 = 0 → (∀ μ24, μ24 = ui μ21 75 5 4 → R μ24)) ∧ (¬ x20 = 0 → (∀ μ26, μ26 = ui μ21 75 5 1 → R μ26))))) ∧ (x7 = 59 → (∀ μ28, μ28 = ui μ17 75 5 3 → R μ28)))))) ∧ (¬ x11 = 0 → (∀ μ30, μ30 = ui μ12 75 7 0 → J71 x7 μ30))))) ∧ (¬ 0 ≤ x7 → (∀ μ32, μ32 = ui μ8 75 5 0 → R μ32)))))) ∧ (x1 = 32 → (∀ μ34, μ34 = ui μ2 75 4 ((gi μ2 75 4) + 1) → J0 μ34))))
set_option maxRecDepth 20000 in
set_option maxHeartbeats 4000000 in
theorem wk_X9_advances_0 {X : XT} {P : Post} (hO : OkM X cX9_advances RX9 1 none P) (hn : xn X = 2)    (μ : Mem) {R : Mem → Prop} (hR : ∀ m, R m → P none m) {J0 : Mem → Prop} {J71 : Int32 → Mem → Prop} (hJ0 : ∀ (m : Mem), J0 m → V X 0 [some (.ref 75), none] [] m) (hJ71 : ∀ (l1 : Int32) (m : Mem), J71 l1 m → V X 71 [some (.ref 75), some (.int l1)] [] m)  (h : vc_X9_advances_0   μ R J0 J71) : V X 0 [some (.ref 75), none] [] μ := by
  have hX := hO.1
  unfold vc_X9_advances_0 at h
  refine v_aload_n hX dX9_advances_0 rfl (?_ : V X 1 [some (.ref 75), none] [.ref 75] μ)
  refine v_aload_n hX dX9_advances_1 rfl (?_ : V X 2 [some (.ref 75), none] [.ref 75, .ref 75] μ)
  refine v_geti hX fk_X9_85 sh_75 rfl dX9_advances_2 (?_ : V X 5 [some (.ref 75), none] [.int (gi μ 75 4), .ref 75] μ)
  refine v_callV hX sp_X9_letterAt ck_X9_letterAt mk_X9_88 mv_X9_letterAt sh_75 (by decide) (by decide) [.int (gi μ 75 4)] [] rfl rfl (Nat.le_of_ble_eq_true rfl) dX9_advances_5 ⟨(gi μ 75 4), rfl, h.1, fun x1 μ2 hp3 => (?_ : V X 8 [some (.ref 75), none] [.int x1] μ2)⟩
  replace h := h.2 x1 μ2 hp3
  refine v_bipush hX 32 dX9_advances_8 rfl (?_ : V X 10 [some (.ref 75), none] [.int 32, .int x1] μ2)
  refine v_icmp_ne hX 26 dX9_advances_10 rfl (fun c4 => ?_) (fun c4 => ?_)
  · replace h := h.1 c4
    refine v_aload_n hX dX9_advances_26 rfl (?_ : V X 27 [some (.ref 75), none] [.ref 75] μ2)
    refine v_aload_n hX dX9_advances_27 rfl (?_ : V X 28 [some (.ref 75), none] [.ref 75, .ref 75] μ2)
    refine v_geti hX fk_X9_85 sh_75 rfl dX9_advances_28 (?_ : V X 31 [some (.ref 75), none] [.int (gi μ2 75 4), .ref 75] μ2)
    refine w_puti hX fk_X9_92 fw_9_6 sh_75 rfl dX9_advances_31 (fun μ5 e6 => (?_ : V X 34 [some (.ref 75), none] [] μ5))
    replace h := h μ5 e6
    refine v_aload_n hX dX9_advances_34 rfl (?_ : V X 35 [some (.ref 75), none] [.ref 75] μ5)
    refine v_aload_n hX dX9_advances_35 rfl (?_ : V X 36 [some (.ref 75), none] [.ref 75, .ref 75] μ5)
    refine v_geti hX fk_X9_85 sh_75 rfl dX9_advances_36 (?_ : V X 39 [some (.ref 75), none] [.int (gi μ5 75 4), .ref 75] μ5)
    refine v_callV hX sp_X9_letterAt ck_X9_letterAt mk_X9_88 mv_X9_letterAt sh_75 (by decide) (by decide) [.int (gi μ5 75 4)] [] rfl rfl (Nat.le_of_ble_eq_true rfl) dX9_advances_39 ⟨(gi μ5 75 4), rfl, h.1, fun x7 μ8 hp9 => (?_ : V X 42 [some (.ref 75), none] [.int x7] μ8)⟩
    replace h := h.2 x7 μ8 hp9
    refine v_istore_n hX dX9_advances_42 (by rw [hn]; decide) (?_ : V X 43 [some (.ref 75), some (.int x7)] [] μ8)
    refine v_iload_n hX dX9_advances_43 rfl (?_ : V X 44 [some (.ref 75), some (.int x7)] [.int x7] μ8)
    refine v_if_ge hX 55 dX9_advances_44 rfl (fun c10 => ?_) (fun c10 => ?_)
    · replace h := h.1 c10
      refine v_iload_n hX dX9_advances_55 rfl (?_ : V X 56 [some (.ref 75), some (.int x7)] [.int x7] μ8)
      refine v_bipush hX 48 dX9_advances_56 rfl (?_ : V X 58 [some (.ref 75), some (.int x7)] [.int 48, .int x7] μ8)
      refine v_bipush hX 57 dX9_advances_58 rfl (?_ : V X 60 [some (.ref 75), some (.int x7)] [.int 57, .int 48, .int x7] μ8)
      refine v_callS hX sp_X9_in ck_X9_in mk_X9_78 sk_X9_in (by decide) [.int x7, .int 48, .int 57] [] rfl rfl (Nat.le_of_ble_eq_true rfl) dX9_advances_60 ⟨x7, 48, 57, rfl, h.1, fun x11 μ12 hp13 => (?_ : V X 63 [some (.ref 75), some (.int x7)] [.int x11] μ12)⟩
      replace h := h.2 x11 μ12 hp13
      refine v_if_eq hX 183 dX9_advances_63 rfl (fun c14 => ?_) (fun c14 => ?_)
      · replace h := h.1 c14
        refine v_aload_n hX dX9_advances_183 rfl (?_ : V X 184 [some (.ref 75), some (.int x7)] [.ref 75] μ12)
        refine v_dup hX dX9_advances_184 rfl (?_ : V X 185 [some (.ref 75), some (.int x7)] [.ref 75, .ref 75] μ12)
        refine v_geti hX fk_X9_85 sh_75 rfl dX9_advances_185 (?_ : V X 188 [some (.ref 75), some (.int x7)] [.int (gi μ12 75 4), .ref 75] μ12)
        refine v_iconst hX 1 dX9_advances_188 rfl (?_ : V X 189 [some (.ref 75), some (.int x7)] [.int 1, .int (gi μ12 75 4), .ref 75] μ12)
        refine v_iadd hX dX9_advances_189 (?_ : V X 190 [some (.ref 75), some (.int x7)] [.int ((gi μ12 75 4) + 1), .ref 75] μ12)
        refine w_puti hX fk_X9_85 fw_9_4 sh_75 rfl dX9_advances_190 (fun μ15 e16 => (?_ : V X 193 [some (.ref 75), some (.int x7)] [] μ15))
        replace h := h μ15 e16
        refine v_aload_n hX dX9_advances_193 rfl (?_ : V X 194 [some (.ref 75), some (.int x7)] [.ref 75] μ15)
        refine v_iload_n hX dX9_advances_194 rfl (?_ : V X 195 [some (.ref 75), some (.int x7)] [.int x7, .ref 75] μ15)
        refine w_puti hX fk_X9_98 fw_9_7 sh_75 rfl dX9_advances_195 (fun μ17 e18 => (?_ : V X 198 [some (.ref 75), some (.int x7)] [] μ17))
        replace h := h μ17 e18
        refine v_aload_n hX dX9_advances_198 rfl (?_ : V X 199 [some (.ref 75), some (.int x7)] [.ref 75] μ17)
        refine v_iload_n hX dX9_advances_199 rfl (?_ : V X 200 [some (.ref 75), some (.int x7)] [.int x7, .ref 75] μ17)
        refine v_bipush hX 59 dX9_advances_200 rfl (?_ : V X 202 [some (.ref 75), some (.int x7)] [.int 59, .int x7, .ref 75] μ17)
        refine v_icmp_ne hX 209 dX9_advances_202 rfl (fun c19 => ?_) (fun c19 => ?_)
        · replace h := h.1 c19
          refine v_iload_n hX dX9_advances_209 rfl (?_ : V X 210 [some (.ref 75), some (.int x7)] [.int x7, .ref 75] μ17)
          refine v_callS hX sp_X9_isLetter ck_X9_isLetter mk_X9_101 sk_X9_isLetter (by decide) [.int x7] [.ref 75] rfl rfl (Nat.le_of_ble_eq_true rfl) dX9_advances_210 ⟨x7, rfl, h.1, fun x20 μ21 hp22 => (?_ : V X 213 [some (.ref 75), some (.int x7)] [.int x20, .ref 75] μ21)⟩
          replace h := h.2 x20 μ21 hp22
          refine v_if_eq hX 220 dX9_advances_213 rfl (fun c23 => ?_) (fun c23 => ?_)
          · replace h := h.1 c23
            refine v_iconst hX 4 dX9_advances_220 rfl (?_ : V X 221 [some (.ref 75), some (.int x7)] [.int 4, .ref 75] μ21)
            refine w_puti hX fk_X9_95 fw_9_5 sh_75 rfl dX9_advances_221 (fun μ24 e25 => (?_ : V X 224 [some (.ref 75), some (.int x7)] [] μ24))
            replace h := h μ24 e25
            exact v_vret hO dX9_advances_224 (hR _ h)
          · replace h := h.2 c23
            refine v_iconst hX 1 dX9_advances_216 rfl (?_ : V X 217 [some (.ref 75), some (.int x7)] [.int 1, .ref 75] μ21)
            refine v_goto hX 221 dX9_advances_217 rfl (?_ : V X 221 [some (.ref 75), some (.int x7)] [.int 1, .ref 75] μ21)
            refine w_puti hX fk_X9_95 fw_9_5 sh_75 rfl dX9_advances_221 (fun μ26 e27 => (?_ : V X 224 [some (.ref 75), some (.int x7)] [] μ26))
            replace h := h μ26 e27
            exact v_vret hO dX9_advances_224 (hR _ h)
        · replace h := h.2 c19
          refine v_iconst hX 3 dX9_advances_205 rfl (?_ : V X 206 [some (.ref 75), some (.int x7)] [.int 3, .ref 75] μ17)
          refine v_goto hX 221 dX9_advances_206 rfl (?_ : V X 221 [some (.ref 75), some (.int x7)] [.int 3, .ref 75] μ17)
          refine w_puti hX fk_X9_95 fw_9_5 sh_75 rfl dX9_advances_221 (fun μ28 e29 => (?_ : V X 224 [some (.ref 75), some (.int x7)] [] μ28))
          replace h := h μ28 e29
          exact v_vret hO dX9_advances_224 (hR _ h)
      · replace h := h.2 c14
        refine v_aload_n hX dX9_advances_66 rfl (?_ : V X 67 [some (.ref 75), some (.int x7)] [.ref 75] μ12)
        refine v_iconst hX 0 dX9_advances_67 rfl (?_ : V X 68 [some (.ref 75), some (.int x7)] [.int 0, .ref 75] μ12)
        refine w_puti hX fk_X9_98 fw_9_7 sh_75 rfl dX9_advances_68 (fun μ30 e31 => (?_ : V X 71 [some (.ref 75), some (.int x7)] [] μ30))
        replace h := h μ30 e31
        exact v_mask [true, true] (hJ71 _ _ h)
    · replace h := h.2 c10
      refine v_aload_n hX dX9_advances_47 rfl (?_ : V X 48 [some (.ref 75), some (.int x7)] [.ref 75] μ8)
      refine v_iconst hX 0 dX9_advances_48 rfl (?_ : V X 49 [some (.ref 75), some (.int x7)] [.int 0, .ref 75] μ8)
      refine w_puti hX fk_X9_95 fw_9_5 sh_75 rfl dX9_advances_49 (fun μ32 e33 => (?_ : V X 52 [some (.ref 75), some (.int x7)] [] μ32))
      replace h := h μ32 e33
      refine v_goto hX 224 dX9_advances_52 rfl (?_ : V X 224 [some (.ref 75), some (.int x7)] [] μ32)
      exact v_vret hO dX9_advances_224 (hR _ h)
  · replace h := h.2 c4
    refine v_aload_n hX dX9_advances_13 rfl (?_ : V X 14 [some (.ref 75), none] [.ref 75] μ2)
    refine v_dup hX dX9_advances_14 rfl (?_ : V X 15 [some (.ref 75), none] [.ref 75, .ref 75] μ2)
    refine v_geti hX fk_X9_85 sh_75 rfl dX9_advances_15 (?_ : V X 18 [some (.ref 75), none] [.int (gi μ2 75 4), .ref 75] μ2)
    refine v_iconst hX 1 dX9_advances_18 rfl (?_ : V X 19 [some (.ref 75), none] [.int 1, .int (gi μ2 75 4), .ref 75] μ2)
    refine v_iadd hX dX9_advances_19 (?_ : V X 20 [some (.ref 75), none] [.int ((gi μ2 75 4) + 1), .ref 75] μ2)
    refine w_puti hX fk_X9_85 fw_9_4 sh_75 rfl dX9_advances_20 (fun μ34 e35 => (?_ : V X 23 [some (.ref 75), none] [] μ34))
    replace h := h μ34 e35
    refine v_goto hX 0 dX9_advances_23 rfl (?_ : V X 0 [some (.ref 75), none] [] μ34)
    exact v_mask [true, false] (hJ0  _ h)
def vc_X9_advances_71  (l1 : Int32) (μ : Mem) (R : Mem → Prop) (J0 : Mem → Prop) (J71 : Int32 → Mem → Prop) : Prop :=
  (pre_X9_letterAt (gi μ 75 4) μ ∧ ∀ (x1 : Int32) (μ2 : Mem), post_X9_letterAt (gi μ 75 4) μ x1 μ2 → (pre_X9_in x1 48 57 μ2 ∧ ∀ (x4 : Int32) (μ5 : Mem), post_X9_in x1 48 57 μ2 x4 μ5 → ((x4 = 0 → ((500 < (gi μ5 75 7) → (∀ μ9, μ9 = ui μ5 75 5 4 → R μ9)) ∧ (¬ 500 < (gi μ5 75 7) → ((¬ l1 = 48 → (∀ μ12, μ12 = ui μ5 75 5 2 → R μ12)) ∧ (l1 = 48 → ((((gi μ5 75 4) - (gi μ5 75 6)) ≤ 1 → (∀ μ15, μ15 = ui μ5 75 5 2 → R μ15)) ∧ (¬ ((gi μ5 75 4) - (gi μ5 75 6)) ≤ 1 → (∀ μ17, μ17 = ui μ5 75 5 4 → R μ17)))))))) ∧ (¬ x4 = 0 → (((gi μ5 75 7) ≤ 500 → (pre_X9_letterAt (gi μ5 75 4) μ5 ∧ ∀ (x20 : Int32) (μ21 : Mem), post_X9_letterAt (gi μ5 75 4) μ5 x20 μ21 → (∀ μ23, μ23 = ui μ21 75 7 (((10 * (gi μ5 75 7)) + x20) - 48) → (∀ μ25, μ25 = ui μ23 75 4 ((gi μ23 75 4) + 1) → J71 l1 μ25)))) ∧ (¬ (gi μ5 75 7) ≤ 500 → (∀ μ27, μ27 = ui μ5 75 7 (gi μ5 75 7) → (∀ μ29, μ29 = ui μ27 75 4 ((gi μ27 75 4) + 1) → J71 l1 μ29))))))))
set_option maxRecDepth 20000 in
set_option maxHeartbeats 4000000 in
theorem wk_X9_advances_71 {X : XT} {P : Post} (hO : OkM X cX9_advances RX9 1 none P) (hn : xn X = 2)   (l1 : Int32) (μ : Mem) {R : Mem → Prop} (hR : ∀ m, R m → P none m) {J0 : Mem → Prop} {J71 : Int32 → Mem → Prop} (hJ0 : ∀ (m : Mem), J0 m → V X 0 [some (.ref 75), none] [] m) (hJ71 : ∀ (l1 : Int32) (m : Mem), J71 l1 m → V X 71 [some (.ref 75), some (.int l1)] [] m)  (h : vc_X9_advances_71  l1 μ R J0 J71) : V X 71 [some (.ref 75), some (.int l1)] [] μ := by
  have hX := hO.1
  unfold vc_X9_advances_71 at h
  refine v_aload_n hX dX9_advances_71 rfl (?_ : V X 72 [some (.ref 75), some (.int l1)] [.ref 75] μ)
  refine v_aload_n hX dX9_advances_72 rfl (?_ : V X 73 [some (.ref 75), some (.int l1)] [.ref 75, .ref 75] μ)
  refine v_geti hX fk_X9_85 sh_75 rfl dX9_advances_73 (?_ : V X 76 [some (.ref 75), some (.int l1)] [.int (gi μ 75 4), .ref 75] μ)
  refine v_callV hX sp_X9_letterAt ck_X9_letterAt mk_X9_88 mv_X9_letterAt sh_75 (by decide) (by decide) [.int (gi μ 75 4)] [] rfl rfl (Nat.le_of_ble_eq_true rfl) dX9_advances_76 ⟨(gi μ 75 4), rfl, h.1, fun x1 μ2 hp3 => (?_ : V X 79 [some (.ref 75), some (.int l1)] [.int x1] μ2)⟩
  replace h := h.2 x1 μ2 hp3
  refine v_bipush hX 48 dX9_advances_79 rfl (?_ : V X 81 [some (.ref 75), some (.int l1)] [.int 48, .int x1] μ2)
  refine v_bipush hX 57 dX9_advances_81 rfl (?_ : V X 83 [some (.ref 75), some (.int l1)] [.int 57, .int 48, .int x1] μ2)
  refine v_callS hX sp_X9_in ck_X9_in mk_X9_78 sk_X9_in (by decide) [.int x1, .int 48, .int 57] [] rfl rfl (Nat.le_of_ble_eq_true rfl) dX9_advances_83 ⟨x1, 48, 57, rfl, h.1, fun x4 μ5 hp6 => (?_ : V X 86 [some (.ref 75), some (.int l1)] [.int x4] μ5)⟩
  replace h := h.2 x4 μ5 hp6
  refine v_if_eq hX 142 dX9_advances_86 rfl (fun c7 => ?_) (fun c7 => ?_)
  · replace h := h.1 c7
    refine v_aload_n hX dX9_advances_142 rfl (?_ : V X 143 [some (.ref 75), some (.int l1)] [.ref 75] μ5)
    refine v_aload_n hX dX9_advances_143 rfl (?_ : V X 144 [some (.ref 75), some (.int l1)] [.ref 75, .ref 75] μ5)
    refine v_geti hX fk_X9_98 sh_75 rfl dX9_advances_144 (?_ : V X 147 [some (.ref 75), some (.int l1)] [.int (gi μ5 75 7), .ref 75] μ5)
    refine v_sipush hX 500 dX9_advances_147 rfl (?_ : V X 150 [some (.ref 75), some (.int l1)] [.int 500, .int (gi μ5 75 7), .ref 75] μ5)
    refine v_icmp_gt hX 172 dX9_advances_150 rfl (fun c8 => ?_) (fun c8 => ?_)
    · replace h := h.1 c8
      refine v_iconst hX 4 dX9_advances_172 rfl (?_ : V X 173 [some (.ref 75), some (.int l1)] [.int 4, .ref 75] μ5)
      refine v_goto hX 177 dX9_advances_173 rfl (?_ : V X 177 [some (.ref 75), some (.int l1)] [.int 4, .ref 75] μ5)
      refine w_puti hX fk_X9_95 fw_9_5 sh_75 rfl dX9_advances_177 (fun μ9 e10 => (?_ : V X 180 [some (.ref 75), some (.int l1)] [] μ9))
      replace h := h μ9 e10
      refine v_goto hX 224 dX9_advances_180 rfl (?_ : V X 224 [some (.ref 75), some (.int l1)] [] μ9)
      exact v_vret hO dX9_advances_224 (hR _ h)
    · replace h := h.2 c8
      refine v_iload_n hX dX9_advances_153 rfl (?_ : V X 154 [some (.ref 75), some (.int l1)] [.int l1, .ref 75] μ5)
      refine v_bipush hX 48 dX9_advances_154 rfl (?_ : V X 156 [some (.ref 75), some (.int l1)] [.int 48, .int l1, .ref 75] μ5)
      refine v_icmp_ne hX 176 dX9_advances_156 rfl (fun c11 => ?_) (fun c11 => ?_)
      · replace h := h.1 c11
        refine v_iconst hX 2 dX9_advances_176 rfl (?_ : V X 177 [some (.ref 75), some (.int l1)] [.int 2, .ref 75] μ5)
        refine w_puti hX fk_X9_95 fw_9_5 sh_75 rfl dX9_advances_177 (fun μ12 e13 => (?_ : V X 180 [some (.ref 75), some (.int l1)] [] μ12))
        replace h := h μ12 e13
        refine v_goto hX 224 dX9_advances_180 rfl (?_ : V X 224 [some (.ref 75), some (.int l1)] [] μ12)
        exact v_vret hO dX9_advances_224 (hR _ h)
      · replace h := h.2 c11
        refine v_aload_n hX dX9_advances_159 rfl (?_ : V X 160 [some (.ref 75), some (.int l1)] [.ref 75, .ref 75] μ5)
        refine v_geti hX fk_X9_85 sh_75 rfl dX9_advances_160 (?_ : V X 163 [some (.ref 75), some (.int l1)] [.int (gi μ5 75 4), .ref 75] μ5)
        refine v_aload_n hX dX9_advances_163 rfl (?_ : V X 164 [some (.ref 75), some (.int l1)] [.ref 75, .int (gi μ5 75 4), .ref 75] μ5)
        refine v_geti hX fk_X9_92 sh_75 rfl dX9_advances_164 (?_ : V X 167 [some (.ref 75), some (.int l1)] [.int (gi μ5 75 6), .int (gi μ5 75 4), .ref 75] μ5)
        refine v_isub hX dX9_advances_167 (?_ : V X 168 [some (.ref 75), some (.int l1)] [.int ((gi μ5 75 4) - (gi μ5 75 6)), .ref 75] μ5)
        refine v_iconst hX 1 dX9_advances_168 rfl (?_ : V X 169 [some (.ref 75), some (.int l1)] [.int 1, .int ((gi μ5 75 4) - (gi μ5 75 6)), .ref 75] μ5)
        refine v_icmp_le hX 176 dX9_advances_169 rfl (fun c14 => ?_) (fun c14 => ?_)
        · replace h := h.1 c14
          refine v_iconst hX 2 dX9_advances_176 rfl (?_ : V X 177 [some (.ref 75), some (.int l1)] [.int 2, .ref 75] μ5)
          refine w_puti hX fk_X9_95 fw_9_5 sh_75 rfl dX9_advances_177 (fun μ15 e16 => (?_ : V X 180 [some (.ref 75), some (.int l1)] [] μ15))
          replace h := h μ15 e16
          refine v_goto hX 224 dX9_advances_180 rfl (?_ : V X 224 [some (.ref 75), some (.int l1)] [] μ15)
          exact v_vret hO dX9_advances_224 (hR _ h)
        · replace h := h.2 c14
          refine v_iconst hX 4 dX9_advances_172 rfl (?_ : V X 173 [some (.ref 75), some (.int l1)] [.int 4, .ref 75] μ5)
          refine v_goto hX 177 dX9_advances_173 rfl (?_ : V X 177 [some (.ref 75), some (.int l1)] [.int 4, .ref 75] μ5)
          refine w_puti hX fk_X9_95 fw_9_5 sh_75 rfl dX9_advances_177 (fun μ17 e18 => (?_ : V X 180 [some (.ref 75), some (.int l1)] [] μ17))
          replace h := h μ17 e18
          refine v_goto hX 224 dX9_advances_180 rfl (?_ : V X 224 [some (.ref 75), some (.int l1)] [] μ17)
          exact v_vret hO dX9_advances_224 (hR _ h)
  · replace h := h.2 c7
    refine v_aload_n hX dX9_advances_89 rfl (?_ : V X 90 [some (.ref 75), some (.int l1)] [.ref 75] μ5)
    refine v_aload_n hX dX9_advances_90 rfl (?_ : V X 91 [some (.ref 75), some (.int l1)] [.ref 75, .ref 75] μ5)
    refine v_geti hX fk_X9_98 sh_75 rfl dX9_advances_91 (?_ : V X 94 [some (.ref 75), some (.int l1)] [.int (gi μ5 75 7), .ref 75] μ5)
    refine v_sipush hX 500 dX9_advances_94 rfl (?_ : V X 97 [some (.ref 75), some (.int l1)] [.int 500, .int (gi μ5 75 7), .ref 75] μ5)
    refine v_icmp_le hX 107 dX9_advances_97 rfl (fun c19 => ?_) (fun c19 => ?_)
    · replace h := h.1 c19
      refine v_bipush hX 10 dX9_advances_107 rfl (?_ : V X 109 [some (.ref 75), some (.int l1)] [.int 10, .ref 75] μ5)
      refine v_aload_n hX dX9_advances_109 rfl (?_ : V X 110 [some (.ref 75), some (.int l1)] [.ref 75, .int 10, .ref 75] μ5)
      refine v_geti hX fk_X9_98 sh_75 rfl dX9_advances_110 (?_ : V X 113 [some (.ref 75), some (.int l1)] [.int (gi μ5 75 7), .int 10, .ref 75] μ5)
      refine v_imul hX dX9_advances_113 (?_ : V X 114 [some (.ref 75), some (.int l1)] [.int (10 * (gi μ5 75 7)), .ref 75] μ5)
      refine v_aload_n hX dX9_advances_114 rfl (?_ : V X 115 [some (.ref 75), some (.int l1)] [.ref 75, .int (10 * (gi μ5 75 7)), .ref 75] μ5)
      refine v_aload_n hX dX9_advances_115 rfl (?_ : V X 116 [some (.ref 75), some (.int l1)] [.ref 75, .ref 75, .int (10 * (gi μ5 75 7)), .ref 75] μ5)
      refine v_geti hX fk_X9_85 sh_75 rfl dX9_advances_116 (?_ : V X 119 [some (.ref 75), some (.int l1)] [.int (gi μ5 75 4), .ref 75, .int (10 * (gi μ5 75 7)), .ref 75] μ5)
      refine v_callV hX sp_X9_letterAt ck_X9_letterAt mk_X9_88 mv_X9_letterAt sh_75 (by decide) (by decide) [.int (gi μ5 75 4)] [.int (10 * (gi μ5 75 7)), .ref 75] rfl rfl (Nat.le_of_ble_eq_true rfl) dX9_advances_119 ⟨(gi μ5 75 4), rfl, h.1, fun x20 μ21 hp22 => (?_ : V X 122 [some (.ref 75), some (.int l1)] [.int x20, .int (10 * (gi μ5 75 7)), .ref 75] μ21)⟩
      replace h := h.2 x20 μ21 hp22
      refine v_iadd hX dX9_advances_122 (?_ : V X 123 [some (.ref 75), some (.int l1)] [.int ((10 * (gi μ5 75 7)) + x20), .ref 75] μ21)
      refine v_bipush hX 48 dX9_advances_123 rfl (?_ : V X 125 [some (.ref 75), some (.int l1)] [.int 48, .int ((10 * (gi μ5 75 7)) + x20), .ref 75] μ21)
      refine v_isub hX dX9_advances_125 (?_ : V X 126 [some (.ref 75), some (.int l1)] [.int (((10 * (gi μ5 75 7)) + x20) - 48), .ref 75] μ21)
      refine w_puti hX fk_X9_98 fw_9_7 sh_75 rfl dX9_advances_126 (fun μ23 e24 => (?_ : V X 129 [some (.ref 75), some (.int l1)] [] μ23))
      replace h := h μ23 e24
      refine v_aload_n hX dX9_advances_129 rfl (?_ : V X 130 [some (.ref 75), some (.int l1)] [.ref 75] μ23)
      refine v_dup hX dX9_advances_130 rfl (?_ : V X 131 [some (.ref 75), some (.int l1)] [.ref 75, .ref 75] μ23)
      refine v_geti hX fk_X9_85 sh_75 rfl dX9_advances_131 (?_ : V X 134 [some (.ref 75), some (.int l1)] [.int (gi μ23 75 4), .ref 75] μ23)
      refine v_iconst hX 1 dX9_advances_134 rfl (?_ : V X 135 [some (.ref 75), some (.int l1)] [.int 1, .int (gi μ23 75 4), .ref 75] μ23)
      refine v_iadd hX dX9_advances_135 (?_ : V X 136 [some (.ref 75), some (.int l1)] [.int ((gi μ23 75 4) + 1), .ref 75] μ23)
      refine w_puti hX fk_X9_85 fw_9_4 sh_75 rfl dX9_advances_136 (fun μ25 e26 => (?_ : V X 139 [some (.ref 75), some (.int l1)] [] μ25))
      replace h := h μ25 e26
      refine v_goto hX 71 dX9_advances_139 rfl (?_ : V X 71 [some (.ref 75), some (.int l1)] [] μ25)
      exact v_mask [true, true] (hJ71 _ _ h)
    · replace h := h.2 c19
      refine v_aload_n hX dX9_advances_100 rfl (?_ : V X 101 [some (.ref 75), some (.int l1)] [.ref 75, .ref 75] μ5)
      refine v_geti hX fk_X9_98 sh_75 rfl dX9_advances_101 (?_ : V X 104 [some (.ref 75), some (.int l1)] [.int (gi μ5 75 7), .ref 75] μ5)
      refine v_goto hX 126 dX9_advances_104 rfl (?_ : V X 126 [some (.ref 75), some (.int l1)] [.int (gi μ5 75 7), .ref 75] μ5)
      refine w_puti hX fk_X9_98 fw_9_7 sh_75 rfl dX9_advances_126 (fun μ27 e28 => (?_ : V X 129 [some (.ref 75), some (.int l1)] [] μ27))
      replace h := h μ27 e28
      refine v_aload_n hX dX9_advances_129 rfl (?_ : V X 130 [some (.ref 75), some (.int l1)] [.ref 75] μ27)
      refine v_dup hX dX9_advances_130 rfl (?_ : V X 131 [some (.ref 75), some (.int l1)] [.ref 75, .ref 75] μ27)
      refine v_geti hX fk_X9_85 sh_75 rfl dX9_advances_131 (?_ : V X 134 [some (.ref 75), some (.int l1)] [.int (gi μ27 75 4), .ref 75] μ27)
      refine v_iconst hX 1 dX9_advances_134 rfl (?_ : V X 135 [some (.ref 75), some (.int l1)] [.int 1, .int (gi μ27 75 4), .ref 75] μ27)
      refine v_iadd hX dX9_advances_135 (?_ : V X 136 [some (.ref 75), some (.int l1)] [.int ((gi μ27 75 4) + 1), .ref 75] μ27)
      refine w_puti hX fk_X9_85 fw_9_4 sh_75 rfl dX9_advances_136 (fun μ29 e30 => (?_ : V X 139 [some (.ref 75), some (.int l1)] [] μ29))
      replace h := h μ29 e30
      refine v_goto hX 71 dX9_advances_139 rfl (?_ : V X 71 [some (.ref 75), some (.int l1)] [] μ29)
      exact v_mask [true, true] (hJ71 _ _ h)
set_option maxRecDepth 20000 in
set_option maxHeartbeats 1000000 in
theorem vp_X9_advances_0   (μ : Mem) (hpre : pre_X9_advances  μ) (n : Nat) (μ0 : Mem) (hi : inv_X9_advances_0  μ n μ0) : vc_X9_advances_0  μ0 (post_X9_advances  μ) (fun m => ∃ k : Nat, k < n ∧ inv_X9_advances_0  μ k m) (fun l1 m => ∃ k : Nat, k < n ∧ inv_X9_advances_71  μ k l1 m) := by
  unfold vc_X9_advances_0
  have hp := hpre
  obtain ⟨a3, a4, hle, hpos⟩ := hpre
  obtain ⟨a, rfl, h4, ha1, ha2, hs, hf, h75⟩ := hi
  have h200 := a3.2
  have lp : ∀ m, f75x [4, 5, 6, 7] μ m → isN m 75 3 200 := fun m hm => by
    have := hm 3 (by simp); unfold isN gn at *; rw [this]; exact a3
  refine ⟨⟨lp _ h75, by rw [h4]; exact nI_pos' (by omega)⟩, ?_⟩
  rintro x1 m2 ⟨hx1, rfl⟩
  rw [h4, letAt hp hf h75 ha2] at hx1
  refine ⟨fun q => ?_, fun q => ?_⟩
  · have hS : SkB (gi μ 76) (gn μ 75 3) (gn μ 75 4) a := by
      refine ⟨ha1, ha2, hs, ?_⟩
      rcases Nat.lt_or_ge a (gn μ 75 3) with z | z
      · right; rw [if_pos z] at hx1; rw [← hx1]; exact q
      · left; omega
    rintro m5 rfl
    have f5 : fr [75] μ (ui m2 75 6 (gi m2 75 4)) := fr_trans hf (fr_ui (by simp))
    have g5 : f75x [4, 5, 6, 7] μ (ui m2 75 6 (gi m2 75 4)) := f75_trans h75 (f75_ui (by simp))
    have e4 : gi (ui m2 75 6 (gi m2 75 4)) 75 4 = nI a := h4
    rw [e4]
    refine ⟨⟨lp _ g5, nI_pos' (by omega)⟩, ?_⟩
    rintro x7 m8 ⟨hx7, rfl⟩
    rw [letAt hp f5 g5 ha2] at hx7
    refine ⟨fun q2 => ?_, fun q2 => ?_⟩
    · have han : a < gn μ 75 3 := by
        rcases Nat.lt_or_ge a (gn μ 75 3) with z | z
        · exact z
        · rw [if_neg (by omega)] at hx7; rw [hx7] at q2; exact absurd q2 (by decide)
      rw [if_pos han] at hx7
      refine ⟨trivial, ?_⟩
      rintro x11 m12 ⟨hx11, rfl⟩
      refine ⟨fun q3 => ?_, fun q3 => ?_⟩
      · have hnd : ¬ isD (gi μ 76 a) := by
          intro z; rw [hx7, if_neg (isD_of.mp z)] at hx11; rw [hx11] at q3; exact absurd q3 (by decide)
        rintro m15 rfl m17 rfl
        have mk : ∀ (k : Int32) (m : Mem), m = ui (ui (ui (ui m2 75 6 (gi m2 75 4)) 75 4 (gi (ui m2 75 6 (gi m2 75 4)) 75 4 + 1)) 75 7 x7) 75 5 k → ((gi μ 76 a = 59 ∧ k = 3) ∨ (¬ gi μ 76 a = 59 ∧ isLetF (gi μ 76 a) ∧ k = 1) ∨ (¬ gi μ 76 a = 59 ∧ ¬ isLetF (gi μ 76 a) ∧ k = 4)) → post_X9_advances μ m := by
          rintro k m rfl hk
          refine ⟨fr_trans f5 (fr_trans (fr_ui (by simp)) (fr_trans (fr_ui (by simp)) (fr_ui (by simp)))), f75_trans g5 (f75_trans (f75_ui (by simp)) (f75_trans (f75_ui (by simp)) (f75_ui (by simp)))), a, hS, h4, Or.inr (Or.inl ⟨han, hnd, ?_, hx7, hk⟩)⟩
          show gi (ui m2 75 6 (gi m2 75 4)) 75 4 + 1 = _
          rw [e4, nI_1]
        refine ⟨fun q4 => ⟨trivial, ?_⟩, fun q4 => ?_⟩
        · rintro x20 m21 ⟨⟨hl1, hl2⟩, rfl⟩
          rw [hx7] at q4 hl1 hl2
          refine ⟨fun q5 m hm => mk 4 m hm (Or.inr (Or.inr ⟨q4, fun z => ?_, rfl⟩)), fun q5 m hm => mk 1 m hm (Or.inr (Or.inl ⟨q4, Classical.byContradiction fun z => q5 (hl2 z), rfl⟩))⟩
          rw [hl1 z] at q5; exact absurd q5 (by decide)
        · rintro m hm
          exact mk 3 m hm (Or.inl ⟨by rw [← hx7]; exact q4, rfl⟩)
      · have hd : isD (gi μ 76 a) := by
          rw [isD_of]; intro z; rw [hx7, if_pos z] at hx11; exact q3 hx11
        rintro m30 rfl
        refine ⟨gn μ 75 3 - a, by omega, a, a, 0, rfl, hS, han, hd, hx7, Nat.le_refl _, ha2, fun j j1 j2 => by omega, h4, h4, rfl, by omega, fun _ => ?_, fun z => ?_, fr_trans f5 (fr_ui (by simp)), f75_trans g5 (f75_ui (by simp))⟩
        · rw [Nat.sub_self]; rfl
        · rw [Nat.sub_self] at z; exact absurd z (by unfold nvN; omega)
    · have han : a = gn μ 75 3 := by
        rcases Nat.lt_or_ge a (gn μ 75 3) with z | z
        · rw [if_pos z] at hx7; rw [hx7] at q2; exact absurd (hpos a z) q2
        · omega
      rintro m32 rfl
      exact ⟨fr_trans f5 (fr_ui (by simp)), f75_trans g5 (f75_ui (by simp)), a, hS, h4, Or.inl ⟨han, rfl, h4⟩⟩
  · have han : a < gn μ 75 3 := by
      rcases Nat.lt_or_ge a (gn μ 75 3) with z | z
      · exact z
      · rw [if_neg (by omega)] at hx1; rw [hx1] at q; exact absurd q (by decide)
    rw [if_pos han] at hx1
    rintro m34 rfl
    refine ⟨1000 + (gn μ 75 3 - (a + 1)), by omega, a + 1, rfl, ?_, by omega, by omega, fun j j1 j2 => ?_, fr_trans hf (fr_ui (by simp)), f75_trans h75 (f75_ui (by simp))⟩
    · show gi m2 75 4 + 1 = _
      rw [h4, nI_1]
    · rcases Nat.lt_or_ge j a with z | z
      · exact hs j j1 z
      · have : j = a := by omega
        subst this; rw [← hx1]; exact q
set_option maxRecDepth 20000 in
set_option maxHeartbeats 1000000 in
theorem vp_X9_advances_71   (μ : Mem) (hpre : pre_X9_advances  μ) (n : Nat) (l1 : Int32) (μ0 : Mem) (hi : inv_X9_advances_71  μ n l1 μ0) : vc_X9_advances_71  l1 μ0 (post_X9_advances  μ) (fun m => ∃ k : Nat, k < n ∧ inv_X9_advances_0  μ k m) (fun l1 m => ∃ k : Nat, k < n ∧ inv_X9_advances_71  μ k l1 m) := by
  unfold vc_X9_advances_71
  have hp := hpre
  obtain ⟨a3, a4, hle, hpos⟩ := hpre
  obtain ⟨a, b, v, rfl, hS, han, hd, rfl, hab, hbn, hdg, h4, h6, h7, hv1, hv2, hv3, hf, h75⟩ := hi
  have h200 := a3.2
  have lp : ∀ m, f75x [4, 5, 6, 7] μ m → isN m 75 3 200 := fun m hm => by
    have := hm 3 (by simp); unfold isN gn at *; rw [this]; exact a3
  refine ⟨⟨lp _ h75, by rw [h4]; exact nI_pos' (by omega)⟩, ?_⟩
  rintro x1 m2 ⟨hx1, rfl⟩
  rw [h4, letAt hp hf h75 hbn] at hx1
  refine ⟨trivial, ?_⟩
  rintro x4 m5 ⟨hx4, rfl⟩
  refine ⟨fun q => ?_, fun q => ?_⟩
  · have hD : DgB (gi μ 76) (gn μ 75 3) a b := by
      refine ⟨hab, hbn, hdg, ?_⟩
      rcases Nat.lt_or_ge b (gn μ 75 3) with z | z
      · right; intro y; rw [if_pos z] at hx1; rw [hx1, if_neg (isD_of.mp y)] at hx4; rw [hx4] at q; exact absurd q (by decide)
      · left; omega
    have mk : ∀ (k : Int32) (m : Mem), m = ui m5 75 5 k → ((okQ (gi μ 76) a b ∧ k = 2) ∨ (¬ okQ (gi μ 76) a b ∧ k = 4)) → post_X9_advances μ m := by
      rintro k m rfl hk
      refine ⟨fr_trans hf (fr_ui (by simp)), f75_trans h75 (f75_ui (by simp)), a, hS, h6, Or.inr (Or.inr ⟨han, hd, b, hD, h4, ?_⟩)⟩
      rcases hk with ⟨k1, k2⟩ | ⟨k1, k2⟩
      · left; refine ⟨k1, k2, ?_⟩
        show gi m5 75 7 = _
        rw [h7, hv2 k1.1]
      · right; exact ⟨k1, k2⟩
    have hc : (500 : Int32) < gi m5 75 7 ↔ 500 < nvN (gi μ 76) a (b - a) := by
      rw [h7, show (500 : Int32) = nI 500 from rfl, i_lt, nI_toInt (by omega), nI_toInt (by omega)]
      constructor
      · intro z
        rcases Nat.lt_or_ge 500 (nvN (gi μ 76) a (b - a)) with y | y
        · exact y
        · have := hv2 y; omega
      · intro z; have := hv3 z; omega
    rw [hc, h4, h6, pk_sub hab, show (1 : Int32) = nI 1 from rfl, nI_leI (by omega) (by omega)]
    refine ⟨fun z m hm => mk 4 m hm (Or.inr ⟨fun y => by have := y.1; omega, rfl⟩), fun z => ⟨fun z2 m hm => mk 2 m hm (Or.inl ⟨⟨by omega, fun y => z2 y.2⟩, rfl⟩), fun z2 => ⟨fun z3 m hm => mk 2 m hm (Or.inl ⟨⟨by omega, fun y => by have := y.1; omega⟩, rfl⟩), fun z3 m hm => mk 4 m hm (Or.inr ⟨fun y => y.2 ⟨by omega, z2⟩, rfl⟩)⟩⟩⟩
  · have hbl : b < gn μ 75 3 := by
      rcases Nat.lt_or_ge b (gn μ 75 3) with z | z
      · exact z
      · rw [if_neg (by omega)] at hx1; rw [hx1] at hx4; exact absurd hx4 q
    rw [if_pos hbl] at hx1
    have hdd : isD (gi μ 76 b) := by
      rw [isD_of]; intro z; rw [hx1, if_pos z] at hx4; exact q hx4
    obtain ⟨t, t1, t2, t3, t4⟩ := isD_nI hdd
    have hnv : nvN (gi μ 76) a (b + 1 - a) = 10 * nvN (gi μ 76) a (b - a) + (t - 48) := by
      rw [show b + 1 - a = (b - a) + 1 from by omega, nvN, show a + (b - a) = b from by omega, t2]
    have dgs : ∀ j, a ≤ j → j < b + 1 → isD (gi μ 76 j) := by
      intro j j1 j2
      rcases Nat.lt_or_ge j b with z | z
      · exact hdg j j1 z
      · have : j = b := by omega
        subst this; exact hdd
    have hc : gi m5 75 7 ≤ 500 ↔ v ≤ 500 := by
      rw [h7, show (500 : Int32) = nI 500 from rfl, nI_leI (by omega) (by omega)]
    rw [hc]
    refine ⟨fun z => ⟨⟨lp _ h75, by rw [h4]; exact nI_pos' (by omega)⟩, ?_⟩, fun z => ?_⟩
    · rintro x20 m21 ⟨hx20, rfl⟩
      rw [h4, letAt hp hf h75 hbn, if_pos hbl] at hx20
      rintro m23 rfl m25 rfl
      refine ⟨gn μ 75 3 - (b + 1), by omega, a, b + 1, 10 * v + (t - 48), rfl, hS, han, hd, rfl, by omega, by omega, dgs, ?_, h6, ?_, by omega, fun y => ?_, fun y => ?_, fr_trans hf (fr_trans (fr_ui (by simp)) (fr_ui (by simp))), f75_trans h75 (f75_trans (f75_ui (by simp)) (f75_ui (by simp)))⟩
      · show gi m21 75 4 + 1 = _
        rw [h4, nI_1]
      · show 10 * gi m21 75 7 + x20 - 48 = _
        rw [h7, hx20, t1, show (10 : Int32) = nI 10 from rfl, show (48 : Int32) = nI 48 from rfl, pk_mul, nI_add, pk_sub (by omega)]
        congr 1; omega
      · rw [hnv] at y ⊢; have := hv2 (by omega); omega
      · rw [hnv] at y
        rcases Nat.lt_or_ge 500 (nvN (gi μ 76) a (b - a)) with u | u
        · have := hv3 u; omega
        · have := hv2 u; omega
    · rintro m27 rfl m29 rfl
      refine ⟨gn μ 75 3 - (b + 1), by omega, a, b + 1, v, rfl, hS, han, hd, rfl, by omega, by omega, dgs, ?_, h6, h7, hv1, fun y => ?_, fun y => by omega, fr_trans hf (fr_trans (fr_ui (by simp)) (fr_ui (by simp))), f75_trans h75 (f75_trans (f75_ui (by simp)) (f75_ui (by simp)))⟩
      · show gi m5 75 4 + 1 = _
        rw [h4, nI_1]
      · rw [hnv] at y; have := hv2 (by omega); omega
theorem sp_X9_advances : Sp yX9_advances cX9_advances 2 none 1 S_X9_advances := by
  refine sp_of (by decide) (fun av μ P h => ?_) ?_
  · obtain ⟨rfl, -⟩ := h
    refine ⟨Nat.le_of_ble_eq_true rfl, fun v hv => ?_⟩
    simp only [List.mem_cons, List.not_mem_nil, or_false] at hv
    subst hv; rfl
  · rintro X P hO _ μ ⟨rfl, hpre, hpost⟩ hn
    have hJ : ∀ n : Nat, (∀ (m : Mem), inv_X9_advances_0  μ n m → V X 0 [some (.ref 75), none] [] m) ∧ (∀ (l1 : Int32) (m : Mem), inv_X9_advances_71  μ n l1 m → V X 71 [some (.ref 75), some (.int l1)] [] m) := by
      intro n
      induction n using Nat.strongRecOn with
      | _ n ih =>
        exact ⟨fun m hi => wk_X9_advances_0 (J0 := (fun m => ∃ k : Nat, k < n ∧ inv_X9_advances_0  μ k m)) (J71 := (fun l1 m => ∃ k : Nat, k < n ∧ inv_X9_advances_71  μ k l1 m)) hO hn   m hpost (fun m hk => by obtain ⟨k, hk, hi⟩ := hk; exact (ih k hk).1 m hi) (fun l1 m hk => by obtain ⟨k, hk, hi⟩ := hk; exact (ih k hk).2 l1 m hi) (vp_X9_advances_0   μ hpre n m hi), fun l1 m hi => wk_X9_advances_71 (J0 := (fun m => ∃ k : Nat, k < n ∧ inv_X9_advances_0  μ k m)) (J71 := (fun l1 m => ∃ k : Nat, k < n ∧ inv_X9_advances_71  μ k l1 m)) hO hn   l1 m hpost (fun m hk => by obtain ⟨k, hk, hi⟩ := hk; exact (ih k hk).1 m hi) (fun l1 m hk => by obtain ⟨k, hk, hi⟩ := hk; exact (ih k hk).2 l1 m hi) (vp_X9_advances_71   μ hpre n l1 m hi)⟩
    obtain ⟨k, hi⟩ := vi_X9_advances   μ hpre
    exact (hJ k).1 μ hi

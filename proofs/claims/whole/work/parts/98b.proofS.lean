theorem nst2 {μ m1 m2 m : Mem} {x y p1 p2 q1 q2 : Int32} {n : Nat} {T : Nat → Int32} (eT : gi m1 76 = T) (en : gn m1 75 3 = n) (hn : n ≤ 200) {f : Nat} (hf : NumF T n f p1 p2 f ∨ f ≤ n) (hb : f ≤ n) (h8 : gi m1 75 8 = nI f)
    (s5 : (¬ gi m1 75 8 < 0 ∧ gi m2 75 8 = gi m1 75 8) ∨ (gi m1 75 8 < 0 ∧ ∀ a, TokAt (gi m1 76) (gn m1 75 3) a m1 → q2 ≤ 500 → (∃ s, NumF (gi m1 76) (gn m1 75 3) a q1 q2 s ∧ gi m2 75 8 = nI s) ∨ (∃ b, NumR (gi m1 76) (gn m1 75 3) a q1 q2 y b ∧ gi m2 75 8 = gi m1 75 8 ∧ TokAt (gi m1 76) (gn m1 75 3) b m2))) : gi m2 75 8 = nI f := by
  rcases s5 with ⟨_, z⟩ | ⟨z, _⟩
  · rw [z, h8]
  · rw [h8] at z; exact absurd z (nI_pos (by omega))
theorem frM_of {μ m : Mem} (h : fr [75, 77, 78, 79, 80, 81, 82, 83] μ m) (h75 : f75x [4, 5, 6, 7, 8] μ m) (h1 : ∀ k, k < 6 → gi m 77 k = gi μ 77 k) (h2 : ∀ k, k < 6 → gi m 83 k = gi μ 83 k) (h3 : ∀ c, 79 ≤ c → c ≤ 82 → ∀ k, k < 5 → gi m c k = gi μ c k) : frM μ m :=
  ⟨h, f75_mono h75 (by simp <;> omega), fun k hk => ⟨h1 k hk, h2 k hk⟩, fun k hk => ⟨h3 79 (by omega) (by omega) k hk, h3 80 (by omega) (by omega) k hk, h3 81 (by omega) (by omega) k hk, h3 82 (by omega) (by omega) k hk⟩⟩
def S_X9_readsItem : Tr := fun av μ P => ∃ (p1 : Int32), av = [.ref 75, .int p1] ∧ pre_X9_readsItem p1 μ ∧ ∀ m : Mem, post_X9_readsItem p1 μ m → P none m
def vc_X9_readsItem_0 (p1 : Int32)  (μ : Mem) (R : Mem → Prop)  : Prop :=
  ((¬ p1 = 114 → ((¬ p1 = 100 → ((¬ p1 = 115 → ((¬ p1 = 99 → ((¬ p1 = 119 → (pre_X9_number 1 500 μ ∧ ∀ (x6 : Int32) (μ7 : Mem), post_X9_number 1 500 μ x6 μ7 → (∀ μ9, μ9 = ui μ7 77 11 x6 → (pre_X9_bitOf p1 μ9 ∧ ∀ (x11 : Int32) (μ12 : Mem), post_X9_bitOf p1 μ9 x11 μ12 → (∀ μ14, μ14 = ui μ12 75 10 ((gi μ9 75 10) ||| x11) → R μ14))))) ∧ (p1 = 119 → (pre_X9_number 0 9 μ ∧ ∀ (x16 : Int32) (μ17 : Mem), post_X9_number 0 9 μ x16 μ17 → (∀ μ19, μ19 = ui μ17 77 10 x16 → (pre_X9_bitOf p1 μ19 ∧ ∀ (x21 : Int32) (μ22 : Mem), post_X9_bitOf p1 μ19 x21 μ22 → (∀ μ24, μ24 = ui μ22 75 10 ((gi μ19 75 10) ||| x21) → R μ24))))))) ∧ (p1 = 99 → (pre_X9_number 0 ((gi μ 77 8) - 1) μ ∧ ∀ (x26 : Int32) (μ27 : Mem), post_X9_number 0 ((gi μ 77 8) - 1) μ x26 μ27 → (∀ μ29, μ29 = ui μ27 77 9 x26 → (pre_X9_bitOf p1 μ29 ∧ ∀ (x31 : Int32) (μ32 : Mem), post_X9_bitOf p1 μ29 x31 μ32 → (∀ μ34, μ34 = ui μ32 75 10 ((gi μ29 75 10) ||| x31) → R μ34))))))) ∧ (p1 = 115 → (pre_X9_number 0 31 μ ∧ ∀ (x36 : Int32) (μ37 : Mem), post_X9_number 0 31 μ x36 μ37 → vp_in (6 + (gi μ 77 8)) 12 ∧ (∀ μ40, μ40 = ui μ37 83 (Int32.toNatClampNeg (6 + (gi μ 77 8))) x36 → (∀ μ42, μ42 = ui μ40 77 8 ((gi μ40 77 8) + 1) → R μ42)))))) ∧ (p1 = 100 → (pre_X9_number 0 9 μ ∧ ∀ (x44 : Int32) (μ45 : Mem), post_X9_number 0 9 μ x44 μ45 → vp_in (5 + (gi μ 77 7)) 10 ∧ (∀ μ48, μ48 = ui μ45 81 (Int32.toNatClampNeg (5 + (gi μ 77 7))) x44 → (pre_X9_number 1 30 μ48 ∧ ∀ (x50 : Int32) (μ51 : Mem), post_X9_number 1 30 μ48 x50 μ51 → vp_in (5 + (gi μ 77 7)) 10 ∧ (∀ μ54, μ54 = ui μ51 82 (Int32.toNatClampNeg (5 + (gi μ 77 7))) x50 → (∀ μ56, μ56 = ui μ54 77 7 ((gi μ54 77 7) + 1) → R μ56)))))))) ∧ (p1 = 114 → (pre_X9_number 0 30 μ ∧ ∀ (x58 : Int32) (μ59 : Mem), post_X9_number 0 30 μ x58 μ59 → vp_in (gi μ 77 6) 5 ∧ (∀ μ62, μ62 = ui μ59 78 (Int32.toNatClampNeg (gi μ 77 6)) x58 → (pre_X9_number 0 3 μ62 ∧ ∀ (x64 : Int32) (μ65 : Mem), post_X9_number 0 3 μ62 x64 μ65 → vp_in (5 + (gi μ 77 6)) 10 ∧ (∀ μ68, μ68 = ui μ65 79 (Int32.toNatClampNeg (5 + (gi μ 77 6))) x64 → (pre_X9_number 0 99 μ68 ∧ ∀ (x70 : Int32) (μ71 : Mem), post_X9_number 0 99 μ68 x70 μ71 → vp_in (5 + (gi μ 77 6)) 10 ∧ (∀ μ74, μ74 = ui μ71 80 (Int32.toNatClampNeg (5 + (gi μ 77 6))) x70 → (∀ μ76, μ76 = ui μ74 77 6 ((gi μ74 77 6) + 1) → R μ76)))))))))
set_option maxRecDepth 20000 in
set_option maxHeartbeats 4000000 in
theorem wk_X9_readsItem_0 {X : XT} {P : Post} (hO : OkM X cX9_readsItem RX9 4 none P) (hn : xn X = 3) (p1 : Int32)   (μ : Mem) {R : Mem → Prop} (hR : ∀ m, R m → P none m)    (h : vc_X9_readsItem_0 p1  μ R ) : V X 0 [some (.ref 75), some (.int p1), none] [] μ := by
  have hX := hO.1
  unfold vc_X9_readsItem_0 at h
  refine v_iload_n hX dX9_readsItem_0 rfl (?_ : V X 1 [some (.ref 75), some (.int p1), none] [.int p1] μ)
  refine v_bipush hX 114 dX9_readsItem_1 rfl (?_ : V X 3 [some (.ref 75), some (.int p1), none] [.int 114, .int p1] μ)
  refine v_icmp_ne hX 70 dX9_readsItem_3 rfl (fun c1 => ?_) (fun c1 => ?_)
  · replace h := h.1 c1
    refine v_iload_n hX dX9_readsItem_70 rfl (?_ : V X 71 [some (.ref 75), some (.int p1), none] [.int p1] μ)
    refine v_bipush hX 100 dX9_readsItem_71 rfl (?_ : V X 73 [some (.ref 75), some (.int p1), none] [.int 100, .int p1] μ)
    refine v_icmp_ne hX 126 dX9_readsItem_73 rfl (fun c2 => ?_) (fun c2 => ?_)
    · replace h := h.1 c2
      refine v_iload_n hX dX9_readsItem_126 rfl (?_ : V X 127 [some (.ref 75), some (.int p1), none] [.int p1] μ)
      refine v_bipush hX 115 dX9_readsItem_127 rfl (?_ : V X 129 [some (.ref 75), some (.int p1), none] [.int 115, .int p1] μ)
      refine v_icmp_ne hX 168 dX9_readsItem_129 rfl (fun c3 => ?_) (fun c3 => ?_)
      · replace h := h.1 c3
        refine v_iload_n hX dX9_readsItem_168 rfl (?_ : V X 169 [some (.ref 75), some (.int p1), none] [.int p1] μ)
        refine v_bipush hX 99 dX9_readsItem_169 rfl (?_ : V X 171 [some (.ref 75), some (.int p1), none] [.int 99, .int p1] μ)
        refine v_icmp_ne hX 198 dX9_readsItem_171 rfl (fun c4 => ?_) (fun c4 => ?_)
        · replace h := h.1 c4
          refine v_iload_n hX dX9_readsItem_198 rfl (?_ : V X 199 [some (.ref 75), some (.int p1), none] [.int p1] μ)
          refine v_bipush hX 119 dX9_readsItem_199 rfl (?_ : V X 201 [some (.ref 75), some (.int p1), none] [.int 119, .int p1] μ)
          refine v_icmp_ne hX 221 dX9_readsItem_201 rfl (fun c5 => ?_) (fun c5 => ?_)
          · replace h := h.1 c5
            refine v_aload_n hX dX9_readsItem_221 rfl (?_ : V X 222 [some (.ref 75), some (.int p1), none] [.ref 75] μ)
            refine v_getr hX (77) fk_X9_13 sh_75 rfl rfl dX9_readsItem_222 (?_ : V X 225 [some (.ref 75), some (.int p1), none] [.ref 77] μ)
            refine v_bipush hX 11 dX9_readsItem_225 rfl (?_ : V X 227 [some (.ref 75), some (.int p1), none] [.int 11, .ref 77] μ)
            refine v_aload_n hX dX9_readsItem_227 rfl (?_ : V X 228 [some (.ref 75), some (.int p1), none] [.ref 75, .int 11, .ref 77] μ)
            refine v_iconst hX 1 dX9_readsItem_228 rfl (?_ : V X 229 [some (.ref 75), some (.int p1), none] [.int 1, .ref 75, .int 11, .ref 77] μ)
            refine v_sipush hX 500 dX9_readsItem_229 rfl (?_ : V X 232 [some (.ref 75), some (.int p1), none] [.int 500, .int 1, .ref 75, .int 11, .ref 77] μ)
            refine v_callV hX sp_X9_number ck_X9_number mk_X9_125 mv_X9_number sh_75 (by decide) (by decide) [.int 1, .int 500] [.int 11, .ref 77] rfl rfl (Nat.le_of_ble_eq_true rfl) dX9_readsItem_232 ⟨1, 500, rfl, h.1, fun x6 μ7 hp8 => (?_ : V X 235 [some (.ref 75), some (.int p1), none] [.int x6, .int 11, .ref 77] μ7)⟩
            replace h := h.2 x6 μ7 hp8
            refine w_iast hX 11 sh_77 (vp_lit (by decide)) (by decide) dX9_readsItem_235 (fun μ9 e10 => (?_ : V X 236 [some (.ref 75), some (.int p1), none] [] μ9))
            replace h := h μ9 e10
            refine v_aload_n hX dX9_readsItem_236 rfl (?_ : V X 237 [some (.ref 75), some (.int p1), none] [.ref 75] μ9)
            refine v_dup hX dX9_readsItem_237 rfl (?_ : V X 238 [some (.ref 75), some (.int p1), none] [.ref 75, .ref 75] μ9)
            refine v_geti hX fk_X9_119 sh_75 rfl dX9_readsItem_238 (?_ : V X 241 [some (.ref 75), some (.int p1), none] [.int (gi μ9 75 10), .ref 75] μ9)
            refine v_iload_n hX dX9_readsItem_241 rfl (?_ : V X 242 [some (.ref 75), some (.int p1), none] [.int p1, .int (gi μ9 75 10), .ref 75] μ9)
            refine v_callS hX sp_X9_bitOf ck_X9_bitOf mk_X9_122 sk_X9_bitOf (by decide) [.int p1] [.int (gi μ9 75 10), .ref 75] rfl rfl (Nat.le_of_ble_eq_true rfl) dX9_readsItem_242 ⟨p1, rfl, h.1, fun x11 μ12 hp13 => (?_ : V X 245 [some (.ref 75), some (.int p1), none] [.int x11, .int (gi μ9 75 10), .ref 75] μ12)⟩
            replace h := h.2 x11 μ12 hp13
            refine v_ior hX dX9_readsItem_245 (?_ : V X 246 [some (.ref 75), some (.int p1), none] [.int ((gi μ9 75 10) ||| x11), .ref 75] μ12)
            refine w_puti hX fk_X9_119 fw_9_10 sh_75 rfl dX9_readsItem_246 (fun μ14 e15 => (?_ : V X 249 [some (.ref 75), some (.int p1), none] [] μ14))
            replace h := h μ14 e15
            exact v_vret hO dX9_readsItem_249 (hR _ h)
          · replace h := h.2 c5
            refine v_aload_n hX dX9_readsItem_204 rfl (?_ : V X 205 [some (.ref 75), some (.int p1), none] [.ref 75] μ)
            refine v_getr hX (77) fk_X9_13 sh_75 rfl rfl dX9_readsItem_205 (?_ : V X 208 [some (.ref 75), some (.int p1), none] [.ref 77] μ)
            refine v_bipush hX 10 dX9_readsItem_208 rfl (?_ : V X 210 [some (.ref 75), some (.int p1), none] [.int 10, .ref 77] μ)
            refine v_aload_n hX dX9_readsItem_210 rfl (?_ : V X 211 [some (.ref 75), some (.int p1), none] [.ref 75, .int 10, .ref 77] μ)
            refine v_iconst hX 0 dX9_readsItem_211 rfl (?_ : V X 212 [some (.ref 75), some (.int p1), none] [.int 0, .ref 75, .int 10, .ref 77] μ)
            refine v_bipush hX 9 dX9_readsItem_212 rfl (?_ : V X 214 [some (.ref 75), some (.int p1), none] [.int 9, .int 0, .ref 75, .int 10, .ref 77] μ)
            refine v_callV hX sp_X9_number ck_X9_number mk_X9_125 mv_X9_number sh_75 (by decide) (by decide) [.int 0, .int 9] [.int 10, .ref 77] rfl rfl (Nat.le_of_ble_eq_true rfl) dX9_readsItem_214 ⟨0, 9, rfl, h.1, fun x16 μ17 hp18 => (?_ : V X 217 [some (.ref 75), some (.int p1), none] [.int x16, .int 10, .ref 77] μ17)⟩
            replace h := h.2 x16 μ17 hp18
            refine w_iast hX 10 sh_77 (vp_lit (by decide)) (by decide) dX9_readsItem_217 (fun μ19 e20 => (?_ : V X 218 [some (.ref 75), some (.int p1), none] [] μ19))
            replace h := h μ19 e20
            refine v_goto hX 236 dX9_readsItem_218 rfl (?_ : V X 236 [some (.ref 75), some (.int p1), none] [] μ19)
            refine v_aload_n hX dX9_readsItem_236 rfl (?_ : V X 237 [some (.ref 75), some (.int p1), none] [.ref 75] μ19)
            refine v_dup hX dX9_readsItem_237 rfl (?_ : V X 238 [some (.ref 75), some (.int p1), none] [.ref 75, .ref 75] μ19)
            refine v_geti hX fk_X9_119 sh_75 rfl dX9_readsItem_238 (?_ : V X 241 [some (.ref 75), some (.int p1), none] [.int (gi μ19 75 10), .ref 75] μ19)
            refine v_iload_n hX dX9_readsItem_241 rfl (?_ : V X 242 [some (.ref 75), some (.int p1), none] [.int p1, .int (gi μ19 75 10), .ref 75] μ19)
            refine v_callS hX sp_X9_bitOf ck_X9_bitOf mk_X9_122 sk_X9_bitOf (by decide) [.int p1] [.int (gi μ19 75 10), .ref 75] rfl rfl (Nat.le_of_ble_eq_true rfl) dX9_readsItem_242 ⟨p1, rfl, h.1, fun x21 μ22 hp23 => (?_ : V X 245 [some (.ref 75), some (.int p1), none] [.int x21, .int (gi μ19 75 10), .ref 75] μ22)⟩
            replace h := h.2 x21 μ22 hp23
            refine v_ior hX dX9_readsItem_245 (?_ : V X 246 [some (.ref 75), some (.int p1), none] [.int ((gi μ19 75 10) ||| x21), .ref 75] μ22)
            refine w_puti hX fk_X9_119 fw_9_10 sh_75 rfl dX9_readsItem_246 (fun μ24 e25 => (?_ : V X 249 [some (.ref 75), some (.int p1), none] [] μ24))
            replace h := h μ24 e25
            exact v_vret hO dX9_readsItem_249 (hR _ h)
        · replace h := h.2 c4
          refine v_aload_n hX dX9_readsItem_174 rfl (?_ : V X 175 [some (.ref 75), some (.int p1), none] [.ref 75] μ)
          refine v_getr hX (77) fk_X9_13 sh_75 rfl rfl dX9_readsItem_175 (?_ : V X 178 [some (.ref 75), some (.int p1), none] [.ref 77] μ)
          refine v_bipush hX 9 dX9_readsItem_178 rfl (?_ : V X 180 [some (.ref 75), some (.int p1), none] [.int 9, .ref 77] μ)
          refine v_aload_n hX dX9_readsItem_180 rfl (?_ : V X 181 [some (.ref 75), some (.int p1), none] [.ref 75, .int 9, .ref 77] μ)
          refine v_iconst hX 0 dX9_readsItem_181 rfl (?_ : V X 182 [some (.ref 75), some (.int p1), none] [.int 0, .ref 75, .int 9, .ref 77] μ)
          refine v_aload_n hX dX9_readsItem_182 rfl (?_ : V X 183 [some (.ref 75), some (.int p1), none] [.ref 75, .int 0, .ref 75, .int 9, .ref 77] μ)
          refine v_getr hX (77) fk_X9_13 sh_75 rfl rfl dX9_readsItem_183 (?_ : V X 186 [some (.ref 75), some (.int p1), none] [.ref 77, .int 0, .ref 75, .int 9, .ref 77] μ)
          refine v_bipush hX 8 dX9_readsItem_186 rfl (?_ : V X 188 [some (.ref 75), some (.int p1), none] [.int 8, .ref 77, .int 0, .ref 75, .int 9, .ref 77] μ)
          refine w_iald hX 8 sh_77 (vp_lit (by decide)) (by decide) dX9_readsItem_188 (?_ : V X 189 [some (.ref 75), some (.int p1), none] [.int (gi μ 77 8), .int 0, .ref 75, .int 9, .ref 77] μ)
          refine v_iconst hX 1 dX9_readsItem_189 rfl (?_ : V X 190 [some (.ref 75), some (.int p1), none] [.int 1, .int (gi μ 77 8), .int 0, .ref 75, .int 9, .ref 77] μ)
          refine v_isub hX dX9_readsItem_190 (?_ : V X 191 [some (.ref 75), some (.int p1), none] [.int ((gi μ 77 8) - 1), .int 0, .ref 75, .int 9, .ref 77] μ)
          refine v_callV hX sp_X9_number ck_X9_number mk_X9_125 mv_X9_number sh_75 (by decide) (by decide) [.int 0, .int ((gi μ 77 8) - 1)] [.int 9, .ref 77] rfl rfl (Nat.le_of_ble_eq_true rfl) dX9_readsItem_191 ⟨0, ((gi μ 77 8) - 1), rfl, h.1, fun x26 μ27 hp28 => (?_ : V X 194 [some (.ref 75), some (.int p1), none] [.int x26, .int 9, .ref 77] μ27)⟩
          replace h := h.2 x26 μ27 hp28
          refine w_iast hX 9 sh_77 (vp_lit (by decide)) (by decide) dX9_readsItem_194 (fun μ29 e30 => (?_ : V X 195 [some (.ref 75), some (.int p1), none] [] μ29))
          replace h := h μ29 e30
          refine v_goto hX 236 dX9_readsItem_195 rfl (?_ : V X 236 [some (.ref 75), some (.int p1), none] [] μ29)
          refine v_aload_n hX dX9_readsItem_236 rfl (?_ : V X 237 [some (.ref 75), some (.int p1), none] [.ref 75] μ29)
          refine v_dup hX dX9_readsItem_237 rfl (?_ : V X 238 [some (.ref 75), some (.int p1), none] [.ref 75, .ref 75] μ29)
          refine v_geti hX fk_X9_119 sh_75 rfl dX9_readsItem_238 (?_ : V X 241 [some (.ref 75), some (.int p1), none] [.int (gi μ29 75 10), .ref 75] μ29)
          refine v_iload_n hX dX9_readsItem_241 rfl (?_ : V X 242 [some (.ref 75), some (.int p1), none] [.int p1, .int (gi μ29 75 10), .ref 75] μ29)
          refine v_callS hX sp_X9_bitOf ck_X9_bitOf mk_X9_122 sk_X9_bitOf (by decide) [.int p1] [.int (gi μ29 75 10), .ref 75] rfl rfl (Nat.le_of_ble_eq_true rfl) dX9_readsItem_242 ⟨p1, rfl, h.1, fun x31 μ32 hp33 => (?_ : V X 245 [some (.ref 75), some (.int p1), none] [.int x31, .int (gi μ29 75 10), .ref 75] μ32)⟩
          replace h := h.2 x31 μ32 hp33
          refine v_ior hX dX9_readsItem_245 (?_ : V X 246 [some (.ref 75), some (.int p1), none] [.int ((gi μ29 75 10) ||| x31), .ref 75] μ32)
          refine w_puti hX fk_X9_119 fw_9_10 sh_75 rfl dX9_readsItem_246 (fun μ34 e35 => (?_ : V X 249 [some (.ref 75), some (.int p1), none] [] μ34))
          replace h := h μ34 e35
          exact v_vret hO dX9_readsItem_249 (hR _ h)
      · replace h := h.2 c3
        refine v_aload_n hX dX9_readsItem_132 rfl (?_ : V X 133 [some (.ref 75), some (.int p1), none] [.ref 75] μ)
        refine v_getr hX (83) fk_X9_31 sh_75 rfl rfl dX9_readsItem_133 (?_ : V X 136 [some (.ref 75), some (.int p1), none] [.ref 83] μ)
        refine v_bipush hX 6 dX9_readsItem_136 rfl (?_ : V X 138 [some (.ref 75), some (.int p1), none] [.int 6, .ref 83] μ)
        refine v_aload_n hX dX9_readsItem_138 rfl (?_ : V X 139 [some (.ref 75), some (.int p1), none] [.ref 75, .int 6, .ref 83] μ)
        refine v_getr hX (77) fk_X9_13 sh_75 rfl rfl dX9_readsItem_139 (?_ : V X 142 [some (.ref 75), some (.int p1), none] [.ref 77, .int 6, .ref 83] μ)
        refine v_bipush hX 8 dX9_readsItem_142 rfl (?_ : V X 144 [some (.ref 75), some (.int p1), none] [.int 8, .ref 77, .int 6, .ref 83] μ)
        refine w_iald hX 8 sh_77 (vp_lit (by decide)) (by decide) dX9_readsItem_144 (?_ : V X 145 [some (.ref 75), some (.int p1), none] [.int (gi μ 77 8), .int 6, .ref 83] μ)
        refine v_iadd hX dX9_readsItem_145 (?_ : V X 146 [some (.ref 75), some (.int p1), none] [.int (6 + (gi μ 77 8)), .ref 83] μ)
        refine v_aload_n hX dX9_readsItem_146 rfl (?_ : V X 147 [some (.ref 75), some (.int p1), none] [.ref 75, .int (6 + (gi μ 77 8)), .ref 83] μ)
        refine v_iconst hX 0 dX9_readsItem_147 rfl (?_ : V X 148 [some (.ref 75), some (.int p1), none] [.int 0, .ref 75, .int (6 + (gi μ 77 8)), .ref 83] μ)
        refine v_bipush hX 31 dX9_readsItem_148 rfl (?_ : V X 150 [some (.ref 75), some (.int p1), none] [.int 31, .int 0, .ref 75, .int (6 + (gi μ 77 8)), .ref 83] μ)
        refine v_callV hX sp_X9_number ck_X9_number mk_X9_125 mv_X9_number sh_75 (by decide) (by decide) [.int 0, .int 31] [.int (6 + (gi μ 77 8)), .ref 83] rfl rfl (Nat.le_of_ble_eq_true rfl) dX9_readsItem_150 ⟨0, 31, rfl, h.1, fun x36 μ37 hp38 => (?_ : V X 153 [some (.ref 75), some (.int p1), none] [.int x36, .int (6 + (gi μ 77 8)), .ref 83] μ37)⟩
        replace h := h.2 x36 μ37 hp38
        have hb39 := h.1
        replace h := h.2
        refine w_iast hX (Int32.toNatClampNeg (6 + (gi μ 77 8))) sh_83 hb39 rfl dX9_readsItem_153 (fun μ40 e41 => (?_ : V X 154 [some (.ref 75), some (.int p1), none] [] μ40))
        replace h := h μ40 e41
        refine v_aload_n hX dX9_readsItem_154 rfl (?_ : V X 155 [some (.ref 75), some (.int p1), none] [.ref 75] μ40)
        refine v_getr hX (77) fk_X9_13 sh_75 rfl rfl dX9_readsItem_155 (?_ : V X 158 [some (.ref 75), some (.int p1), none] [.ref 77] μ40)
        refine v_bipush hX 8 dX9_readsItem_158 rfl (?_ : V X 160 [some (.ref 75), some (.int p1), none] [.int 8, .ref 77] μ40)
        refine v_dup2 hX dX9_readsItem_160 rfl rfl (?_ : V X 161 [some (.ref 75), some (.int p1), none] [.int 8, .ref 77, .int 8, .ref 77] μ40)
        refine w_iald hX 8 sh_77 (vp_lit (by decide)) (by decide) dX9_readsItem_161 (?_ : V X 162 [some (.ref 75), some (.int p1), none] [.int (gi μ40 77 8), .int 8, .ref 77] μ40)
        refine v_iconst hX 1 dX9_readsItem_162 rfl (?_ : V X 163 [some (.ref 75), some (.int p1), none] [.int 1, .int (gi μ40 77 8), .int 8, .ref 77] μ40)
        refine v_iadd hX dX9_readsItem_163 (?_ : V X 164 [some (.ref 75), some (.int p1), none] [.int ((gi μ40 77 8) + 1), .int 8, .ref 77] μ40)
        refine w_iast hX 8 sh_77 (vp_lit (by decide)) (by decide) dX9_readsItem_164 (fun μ42 e43 => (?_ : V X 165 [some (.ref 75), some (.int p1), none] [] μ42))
        replace h := h μ42 e43
        refine v_goto hX 249 dX9_readsItem_165 rfl (?_ : V X 249 [some (.ref 75), some (.int p1), none] [] μ42)
        exact v_vret hO dX9_readsItem_249 (hR _ h)
    · replace h := h.2 c2
      refine v_iconst hX 5 dX9_readsItem_76 rfl (?_ : V X 77 [some (.ref 75), some (.int p1), none] [.int 5] μ)
      refine v_aload_n hX dX9_readsItem_77 rfl (?_ : V X 78 [some (.ref 75), some (.int p1), none] [.ref 75, .int 5] μ)
      refine v_getr hX (77) fk_X9_13 sh_75 rfl rfl dX9_readsItem_78 (?_ : V X 81 [some (.ref 75), some (.int p1), none] [.ref 77, .int 5] μ)
      refine v_bipush hX 7 dX9_readsItem_81 rfl (?_ : V X 83 [some (.ref 75), some (.int p1), none] [.int 7, .ref 77, .int 5] μ)
      refine w_iald hX 7 sh_77 (vp_lit (by decide)) (by decide) dX9_readsItem_83 (?_ : V X 84 [some (.ref 75), some (.int p1), none] [.int (gi μ 77 7), .int 5] μ)
      refine v_iadd hX dX9_readsItem_84 (?_ : V X 85 [some (.ref 75), some (.int p1), none] [.int (5 + (gi μ 77 7))] μ)
      refine v_istore_n hX dX9_readsItem_85 (by rw [hn]; decide) (?_ : V X 86 [some (.ref 75), some (.int p1), some (.int (5 + (gi μ 77 7)))] [] μ)
      refine v_aload_n hX dX9_readsItem_86 rfl (?_ : V X 87 [some (.ref 75), some (.int p1), some (.int (5 + (gi μ 77 7)))] [.ref 75] μ)
      refine v_getr hX (81) fk_X9_25 sh_75 rfl rfl dX9_readsItem_87 (?_ : V X 90 [some (.ref 75), some (.int p1), some (.int (5 + (gi μ 77 7)))] [.ref 81] μ)
      refine v_iload_n hX dX9_readsItem_90 rfl (?_ : V X 91 [some (.ref 75), some (.int p1), some (.int (5 + (gi μ 77 7)))] [.int (5 + (gi μ 77 7)), .ref 81] μ)
      refine v_aload_n hX dX9_readsItem_91 rfl (?_ : V X 92 [some (.ref 75), some (.int p1), some (.int (5 + (gi μ 77 7)))] [.ref 75, .int (5 + (gi μ 77 7)), .ref 81] μ)
      refine v_iconst hX 0 dX9_readsItem_92 rfl (?_ : V X 93 [some (.ref 75), some (.int p1), some (.int (5 + (gi μ 77 7)))] [.int 0, .ref 75, .int (5 + (gi μ 77 7)), .ref 81] μ)
      refine v_bipush hX 9 dX9_readsItem_93 rfl (?_ : V X 95 [some (.ref 75), some (.int p1), some (.int (5 + (gi μ 77 7)))] [.int 9, .int 0, .ref 75, .int (5 + (gi μ 77 7)), .ref 81] μ)
      refine v_callV hX sp_X9_number ck_X9_number mk_X9_125 mv_X9_number sh_75 (by decide) (by decide) [.int 0, .int 9] [.int (5 + (gi μ 77 7)), .ref 81] rfl rfl (Nat.le_of_ble_eq_true rfl) dX9_readsItem_95 ⟨0, 9, rfl, h.1, fun x44 μ45 hp46 => (?_ : V X 98 [some (.ref 75), some (.int p1), some (.int (5 + (gi μ 77 7)))] [.int x44, .int (5 + (gi μ 77 7)), .ref 81] μ45)⟩
      replace h := h.2 x44 μ45 hp46
      have hb47 := h.1
      replace h := h.2
      refine w_iast hX (Int32.toNatClampNeg (5 + (gi μ 77 7))) sh_81 hb47 rfl dX9_readsItem_98 (fun μ48 e49 => (?_ : V X 99 [some (.ref 75), some (.int p1), some (.int (5 + (gi μ 77 7)))] [] μ48))
      replace h := h μ48 e49
      refine v_aload_n hX dX9_readsItem_99 rfl (?_ : V X 100 [some (.ref 75), some (.int p1), some (.int (5 + (gi μ 77 7)))] [.ref 75] μ48)
      refine v_getr hX (82) fk_X9_28 sh_75 rfl rfl dX9_readsItem_100 (?_ : V X 103 [some (.ref 75), some (.int p1), some (.int (5 + (gi μ 77 7)))] [.ref 82] μ48)
      refine v_iload_n hX dX9_readsItem_103 rfl (?_ : V X 104 [some (.ref 75), some (.int p1), some (.int (5 + (gi μ 77 7)))] [.int (5 + (gi μ 77 7)), .ref 82] μ48)
      refine v_aload_n hX dX9_readsItem_104 rfl (?_ : V X 105 [some (.ref 75), some (.int p1), some (.int (5 + (gi μ 77 7)))] [.ref 75, .int (5 + (gi μ 77 7)), .ref 82] μ48)
      refine v_iconst hX 1 dX9_readsItem_105 rfl (?_ : V X 106 [some (.ref 75), some (.int p1), some (.int (5 + (gi μ 77 7)))] [.int 1, .ref 75, .int (5 + (gi μ 77 7)), .ref 82] μ48)
      refine v_bipush hX 30 dX9_readsItem_106 rfl (?_ : V X 108 [some (.ref 75), some (.int p1), some (.int (5 + (gi μ 77 7)))] [.int 30, .int 1, .ref 75, .int (5 + (gi μ 77 7)), .ref 82] μ48)
      refine v_callV hX sp_X9_number ck_X9_number mk_X9_125 mv_X9_number sh_75 (by decide) (by decide) [.int 1, .int 30] [.int (5 + (gi μ 77 7)), .ref 82] rfl rfl (Nat.le_of_ble_eq_true rfl) dX9_readsItem_108 ⟨1, 30, rfl, h.1, fun x50 μ51 hp52 => (?_ : V X 111 [some (.ref 75), some (.int p1), some (.int (5 + (gi μ 77 7)))] [.int x50, .int (5 + (gi μ 77 7)), .ref 82] μ51)⟩
      replace h := h.2 x50 μ51 hp52
      have hb53 := h.1
      replace h := h.2
      refine w_iast hX (Int32.toNatClampNeg (5 + (gi μ 77 7))) sh_82 hb53 rfl dX9_readsItem_111 (fun μ54 e55 => (?_ : V X 112 [some (.ref 75), some (.int p1), some (.int (5 + (gi μ 77 7)))] [] μ54))
      replace h := h μ54 e55
      refine v_aload_n hX dX9_readsItem_112 rfl (?_ : V X 113 [some (.ref 75), some (.int p1), some (.int (5 + (gi μ 77 7)))] [.ref 75] μ54)
      refine v_getr hX (77) fk_X9_13 sh_75 rfl rfl dX9_readsItem_113 (?_ : V X 116 [some (.ref 75), some (.int p1), some (.int (5 + (gi μ 77 7)))] [.ref 77] μ54)
      refine v_bipush hX 7 dX9_readsItem_116 rfl (?_ : V X 118 [some (.ref 75), some (.int p1), some (.int (5 + (gi μ 77 7)))] [.int 7, .ref 77] μ54)
      refine v_dup2 hX dX9_readsItem_118 rfl rfl (?_ : V X 119 [some (.ref 75), some (.int p1), some (.int (5 + (gi μ 77 7)))] [.int 7, .ref 77, .int 7, .ref 77] μ54)
      refine w_iald hX 7 sh_77 (vp_lit (by decide)) (by decide) dX9_readsItem_119 (?_ : V X 120 [some (.ref 75), some (.int p1), some (.int (5 + (gi μ 77 7)))] [.int (gi μ54 77 7), .int 7, .ref 77] μ54)
      refine v_iconst hX 1 dX9_readsItem_120 rfl (?_ : V X 121 [some (.ref 75), some (.int p1), some (.int (5 + (gi μ 77 7)))] [.int 1, .int (gi μ54 77 7), .int 7, .ref 77] μ54)
      refine v_iadd hX dX9_readsItem_121 (?_ : V X 122 [some (.ref 75), some (.int p1), some (.int (5 + (gi μ 77 7)))] [.int ((gi μ54 77 7) + 1), .int 7, .ref 77] μ54)
      refine w_iast hX 7 sh_77 (vp_lit (by decide)) (by decide) dX9_readsItem_122 (fun μ56 e57 => (?_ : V X 123 [some (.ref 75), some (.int p1), some (.int (5 + (gi μ 77 7)))] [] μ56))
      replace h := h μ56 e57
      refine v_goto hX 249 dX9_readsItem_123 rfl (?_ : V X 249 [some (.ref 75), some (.int p1), some (.int (5 + (gi μ 77 7)))] [] μ56)
      exact v_vret hO dX9_readsItem_249 (hR _ h)
  · replace h := h.2 c1
    refine v_aload_n hX dX9_readsItem_6 rfl (?_ : V X 7 [some (.ref 75), some (.int p1), none] [.ref 75] μ)
    refine v_getr hX (77) fk_X9_13 sh_75 rfl rfl dX9_readsItem_7 (?_ : V X 10 [some (.ref 75), some (.int p1), none] [.ref 77] μ)
    refine v_bipush hX 6 dX9_readsItem_10 rfl (?_ : V X 12 [some (.ref 75), some (.int p1), none] [.int 6, .ref 77] μ)
    refine w_iald hX 6 sh_77 (vp_lit (by decide)) (by decide) dX9_readsItem_12 (?_ : V X 13 [some (.ref 75), some (.int p1), none] [.int (gi μ 77 6)] μ)
    refine v_istore_n hX dX9_readsItem_13 (by rw [hn]; decide) (?_ : V X 14 [some (.ref 75), some (.int p1), some (.int (gi μ 77 6))] [] μ)
    refine v_aload_n hX dX9_readsItem_14 rfl (?_ : V X 15 [some (.ref 75), some (.int p1), some (.int (gi μ 77 6))] [.ref 75] μ)
    refine v_getr hX (78) fk_X9_16 sh_75 rfl rfl dX9_readsItem_15 (?_ : V X 18 [some (.ref 75), some (.int p1), some (.int (gi μ 77 6))] [.ref 78] μ)
    refine v_iload_n hX dX9_readsItem_18 rfl (?_ : V X 19 [some (.ref 75), some (.int p1), some (.int (gi μ 77 6))] [.int (gi μ 77 6), .ref 78] μ)
    refine v_aload_n hX dX9_readsItem_19 rfl (?_ : V X 20 [some (.ref 75), some (.int p1), some (.int (gi μ 77 6))] [.ref 75, .int (gi μ 77 6), .ref 78] μ)
    refine v_iconst hX 0 dX9_readsItem_20 rfl (?_ : V X 21 [some (.ref 75), some (.int p1), some (.int (gi μ 77 6))] [.int 0, .ref 75, .int (gi μ 77 6), .ref 78] μ)
    refine v_bipush hX 30 dX9_readsItem_21 rfl (?_ : V X 23 [some (.ref 75), some (.int p1), some (.int (gi μ 77 6))] [.int 30, .int 0, .ref 75, .int (gi μ 77 6), .ref 78] μ)
    refine v_callV hX sp_X9_number ck_X9_number mk_X9_125 mv_X9_number sh_75 (by decide) (by decide) [.int 0, .int 30] [.int (gi μ 77 6), .ref 78] rfl rfl (Nat.le_of_ble_eq_true rfl) dX9_readsItem_23 ⟨0, 30, rfl, h.1, fun x58 μ59 hp60 => (?_ : V X 26 [some (.ref 75), some (.int p1), some (.int (gi μ 77 6))] [.int x58, .int (gi μ 77 6), .ref 78] μ59)⟩
    replace h := h.2 x58 μ59 hp60
    have hb61 := h.1
    replace h := h.2
    refine w_iast hX (Int32.toNatClampNeg (gi μ 77 6)) sh_78 hb61 rfl dX9_readsItem_26 (fun μ62 e63 => (?_ : V X 27 [some (.ref 75), some (.int p1), some (.int (gi μ 77 6))] [] μ62))
    replace h := h μ62 e63
    refine v_aload_n hX dX9_readsItem_27 rfl (?_ : V X 28 [some (.ref 75), some (.int p1), some (.int (gi μ 77 6))] [.ref 75] μ62)
    refine v_getr hX (79) fk_X9_19 sh_75 rfl rfl dX9_readsItem_28 (?_ : V X 31 [some (.ref 75), some (.int p1), some (.int (gi μ 77 6))] [.ref 79] μ62)
    refine v_iconst hX 5 dX9_readsItem_31 rfl (?_ : V X 32 [some (.ref 75), some (.int p1), some (.int (gi μ 77 6))] [.int 5, .ref 79] μ62)
    refine v_iload_n hX dX9_readsItem_32 rfl (?_ : V X 33 [some (.ref 75), some (.int p1), some (.int (gi μ 77 6))] [.int (gi μ 77 6), .int 5, .ref 79] μ62)
    refine v_iadd hX dX9_readsItem_33 (?_ : V X 34 [some (.ref 75), some (.int p1), some (.int (gi μ 77 6))] [.int (5 + (gi μ 77 6)), .ref 79] μ62)
    refine v_aload_n hX dX9_readsItem_34 rfl (?_ : V X 35 [some (.ref 75), some (.int p1), some (.int (gi μ 77 6))] [.ref 75, .int (5 + (gi μ 77 6)), .ref 79] μ62)
    refine v_iconst hX 0 dX9_readsItem_35 rfl (?_ : V X 36 [some (.ref 75), some (.int p1), some (.int (gi μ 77 6))] [.int 0, .ref 75, .int (5 + (gi μ 77 6)), .ref 79] μ62)
    refine v_iconst hX 3 dX9_readsItem_36 rfl (?_ : V X 37 [some (.ref 75), some (.int p1), some (.int (gi μ 77 6))] [.int 3, .int 0, .ref 75, .int (5 + (gi μ 77 6)), .ref 79] μ62)
    refine v_callV hX sp_X9_number ck_X9_number mk_X9_125 mv_X9_number sh_75 (by decide) (by decide) [.int 0, .int 3] [.int (5 + (gi μ 77 6)), .ref 79] rfl rfl (Nat.le_of_ble_eq_true rfl) dX9_readsItem_37 ⟨0, 3, rfl, h.1, fun x64 μ65 hp66 => (?_ : V X 40 [some (.ref 75), some (.int p1), some (.int (gi μ 77 6))] [.int x64, .int (5 + (gi μ 77 6)), .ref 79] μ65)⟩
    replace h := h.2 x64 μ65 hp66
    have hb67 := h.1
    replace h := h.2
    refine w_iast hX (Int32.toNatClampNeg (5 + (gi μ 77 6))) sh_79 hb67 rfl dX9_readsItem_40 (fun μ68 e69 => (?_ : V X 41 [some (.ref 75), some (.int p1), some (.int (gi μ 77 6))] [] μ68))
    replace h := h μ68 e69
    refine v_aload_n hX dX9_readsItem_41 rfl (?_ : V X 42 [some (.ref 75), some (.int p1), some (.int (gi μ 77 6))] [.ref 75] μ68)
    refine v_getr hX (80) fk_X9_22 sh_75 rfl rfl dX9_readsItem_42 (?_ : V X 45 [some (.ref 75), some (.int p1), some (.int (gi μ 77 6))] [.ref 80] μ68)
    refine v_iconst hX 5 dX9_readsItem_45 rfl (?_ : V X 46 [some (.ref 75), some (.int p1), some (.int (gi μ 77 6))] [.int 5, .ref 80] μ68)
    refine v_iload_n hX dX9_readsItem_46 rfl (?_ : V X 47 [some (.ref 75), some (.int p1), some (.int (gi μ 77 6))] [.int (gi μ 77 6), .int 5, .ref 80] μ68)
    refine v_iadd hX dX9_readsItem_47 (?_ : V X 48 [some (.ref 75), some (.int p1), some (.int (gi μ 77 6))] [.int (5 + (gi μ 77 6)), .ref 80] μ68)
    refine v_aload_n hX dX9_readsItem_48 rfl (?_ : V X 49 [some (.ref 75), some (.int p1), some (.int (gi μ 77 6))] [.ref 75, .int (5 + (gi μ 77 6)), .ref 80] μ68)
    refine v_iconst hX 0 dX9_readsItem_49 rfl (?_ : V X 50 [some (.ref 75), some (.int p1), some (.int (gi μ 77 6))] [.int 0, .ref 75, .int (5 + (gi μ 77 6)), .ref 80] μ68)
    refine v_bipush hX 99 dX9_readsItem_50 rfl (?_ : V X 52 [some (.ref 75), some (.int p1), some (.int (gi μ 77 6))] [.int 99, .int 0, .ref 75, .int (5 + (gi μ 77 6)), .ref 80] μ68)
    refine v_callV hX sp_X9_number ck_X9_number mk_X9_125 mv_X9_number sh_75 (by decide) (by decide) [.int 0, .int 99] [.int (5 + (gi μ 77 6)), .ref 80] rfl rfl (Nat.le_of_ble_eq_true rfl) dX9_readsItem_52 ⟨0, 99, rfl, h.1, fun x70 μ71 hp72 => (?_ : V X 55 [some (.ref 75), some (.int p1), some (.int (gi μ 77 6))] [.int x70, .int (5 + (gi μ 77 6)), .ref 80] μ71)⟩
    replace h := h.2 x70 μ71 hp72
    have hb73 := h.1
    replace h := h.2
    refine w_iast hX (Int32.toNatClampNeg (5 + (gi μ 77 6))) sh_80 hb73 rfl dX9_readsItem_55 (fun μ74 e75 => (?_ : V X 56 [some (.ref 75), some (.int p1), some (.int (gi μ 77 6))] [] μ74))
    replace h := h μ74 e75
    refine v_aload_n hX dX9_readsItem_56 rfl (?_ : V X 57 [some (.ref 75), some (.int p1), some (.int (gi μ 77 6))] [.ref 75] μ74)
    refine v_getr hX (77) fk_X9_13 sh_75 rfl rfl dX9_readsItem_57 (?_ : V X 60 [some (.ref 75), some (.int p1), some (.int (gi μ 77 6))] [.ref 77] μ74)
    refine v_bipush hX 6 dX9_readsItem_60 rfl (?_ : V X 62 [some (.ref 75), some (.int p1), some (.int (gi μ 77 6))] [.int 6, .ref 77] μ74)
    refine v_dup2 hX dX9_readsItem_62 rfl rfl (?_ : V X 63 [some (.ref 75), some (.int p1), some (.int (gi μ 77 6))] [.int 6, .ref 77, .int 6, .ref 77] μ74)
    refine w_iald hX 6 sh_77 (vp_lit (by decide)) (by decide) dX9_readsItem_63 (?_ : V X 64 [some (.ref 75), some (.int p1), some (.int (gi μ 77 6))] [.int (gi μ74 77 6), .int 6, .ref 77] μ74)
    refine v_iconst hX 1 dX9_readsItem_64 rfl (?_ : V X 65 [some (.ref 75), some (.int p1), some (.int (gi μ 77 6))] [.int 1, .int (gi μ74 77 6), .int 6, .ref 77] μ74)
    refine v_iadd hX dX9_readsItem_65 (?_ : V X 66 [some (.ref 75), some (.int p1), some (.int (gi μ 77 6))] [.int ((gi μ74 77 6) + 1), .int 6, .ref 77] μ74)
    refine w_iast hX 6 sh_77 (vp_lit (by decide)) (by decide) dX9_readsItem_66 (fun μ76 e77 => (?_ : V X 67 [some (.ref 75), some (.int p1), some (.int (gi μ 77 6))] [] μ76))
    replace h := h μ76 e77
    refine v_goto hX 249 dX9_readsItem_67 rfl (?_ : V X 249 [some (.ref 75), some (.int p1), some (.int (gi μ 77 6))] [] μ76)
    exact v_vret hO dX9_readsItem_249 (hR _ h)
set_option maxRecDepth 20000 in
set_option maxHeartbeats 1000000 in
theorem vp_X9_readsItem_0 (p1 : Int32)  (μ : Mem) (hpre : pre_X9_readsItem p1 μ) : vc_X9_readsItem_0 p1 μ (post_X9_readsItem p1 μ)  := by
  unfold vc_X9_readsItem_0
  obtain ⟨hR, hw, i6, i7, i8, hmay, hlet⟩ := hpre
  have h200 := hR.1.2
  refine ⟨fun n1 => ⟨fun n2 => ⟨fun n3 => ⟨fun n4 => ⟨fun n5 => ?_, fun q => ?_⟩, fun q => ?_⟩, fun q => ?_⟩, fun q => ?_⟩, fun q => ?_⟩
  · refine ⟨hR, fun x6 m7 h m9 h9 => ⟨trivial, ?_⟩⟩
    rintro x11 m12 ⟨rfl, rfl⟩ m14 h14
    have q : p1 = 110 := by rcases hlet with z | z | z | z | z | z <;> first | exact z | contradiction
    subst q
    rw [show bitF 110 = 4 from by decide] at h14
    obtain ⟨o1, o2, o3, o4, o5⟩ := one_rm hR hw h (by omega) h9 h14
    refine ⟨o1, o2, fun s D hD hA ht hs => ?_⟩
    have h0 : D 0 8 = 0 := by
      obtain ⟨_, _, _, _, t, _, et, _, _, t4⟩ := hA
      unfold mayF at hmay
      rw [if_neg (by decide), if_neg (by decide), if_neg (by decide), show bitF 110 = 4 from by decide, et] at hmay
      exact t4.mp hmay
    have c1 : ¬ gi μ 76 s = 114 := by rw [hs]; decide
    have c2 : ¬ gi μ 76 s = 100 := by rw [hs]; decide
    have c3 : ¬ gi μ 76 s = 115 := by rw [hs]; decide
    have c4 : ¬ gi μ 76 s = 99 := by rw [hs]; decide
    have c5 : ¬ gi μ 76 s = 119 := by rw [hs]; decide
    unfold BdF BdR
    simp only [if_neg c1, if_neg c2, if_neg c3, if_neg c4, if_neg c5, if_pos hs]
    rcases o5 (s + 1) ht (by decide) with ⟨f, f1, f2⟩ | ⟨b, b1, b2, b3⟩
    · exact Or.inl ⟨f, Or.inr ⟨h0, f1⟩, f2⟩
    · exact Or.inr ⟨b, _, ⟨h0, x6, b1, rfl⟩, b2, one_ag hA (Or.inr (Or.inr ⟨rfl, rfl, rfl, rfl⟩)) o3 o4, b3⟩
  · refine ⟨hR, fun x6 m7 h m9 h9 => ⟨trivial, ?_⟩⟩
    rintro x11 m12 ⟨rfl, rfl⟩ m14 h14
    subst q
    rw [show bitF 119 = 2 from by decide] at h14
    obtain ⟨o1, o2, o3, o4, o5⟩ := one_rm hR hw h (by omega) h9 h14
    refine ⟨o1, o2, fun s D hD hA ht hs => ?_⟩
    have h0 : D 0 7 = 0 := by
      obtain ⟨_, _, _, _, t, _, et, _, t4, _⟩ := hA
      unfold mayF at hmay
      rw [if_neg (by decide), if_neg (by decide), if_neg (by decide), show bitF 119 = 2 from by decide, et] at hmay
      exact t4.mp hmay
    have c1 : ¬ gi μ 76 s = 114 := by rw [hs]; decide
    have c2 : ¬ gi μ 76 s = 100 := by rw [hs]; decide
    have c3 : ¬ gi μ 76 s = 115 := by rw [hs]; decide
    have c4 : ¬ gi μ 76 s = 99 := by rw [hs]; decide
    unfold BdF BdR
    simp only [if_neg c1, if_neg c2, if_neg c3, if_neg c4, if_pos hs]
    rcases o5 (s + 1) ht (by decide) with ⟨f, f1, f2⟩ | ⟨b, b1, b2, b3⟩
    · exact Or.inl ⟨f, Or.inr ⟨h0, f1⟩, f2⟩
    · exact Or.inr ⟨b, _, ⟨h0, x6, b1, rfl⟩, b2, one_ag hA (Or.inr (Or.inl ⟨rfl, rfl, rfl, rfl⟩)) o3 o4, b3⟩
  · refine ⟨hR, fun x6 m7 h m9 h9 => ⟨trivial, ?_⟩⟩
    rintro x11 m12 ⟨rfl, rfl⟩ m14 h14
    subst q
    rw [show bitF 99 = 1 from by decide] at h14
    obtain ⟨o1, o2, o3, o4, o5⟩ := one_rm hR hw h (by omega) h9 h14
    refine ⟨o1, o2, fun s D hD hA ht hs => ?_⟩
    have h0 : D 0 6 = 0 := by
      obtain ⟨_, _, _, _, t, _, et, t4, _, _⟩ := hA
      unfold mayF at hmay
      rw [if_neg (by decide), if_neg (by decide), if_neg (by decide), show bitF 99 = 1 from by decide, et] at hmay
      exact t4.mp hmay
    have c1 : ¬ gi μ 76 s = 114 := by rw [hs]; decide
    have c2 : ¬ gi μ 76 s = 100 := by rw [hs]; decide
    have c3 : ¬ gi μ 76 s = 115 := by rw [hs]; decide
    have e8 : gi μ 77 8 = D 0 2 := hA.1 2 (by omega)
    have hp : gi μ 77 8 - 1 ≤ 500 := by
      have hb : ∀ k, k ≤ 6 → nI k - 1 ≤ 500 := by decide +kernel
      rw [i8.1]; exact hb _ i8.2
    unfold BdF BdR
    simp only [if_neg c1, if_neg c2, if_neg c3, if_pos hs, ← e8]
    rcases o5 (s + 1) ht hp with ⟨f, f1, f2⟩ | ⟨b, b1, b2, b3⟩
    · exact Or.inl ⟨f, Or.inr ⟨h0, f1⟩, f2⟩
    · exact Or.inr ⟨b, _, ⟨h0, x6, b1, rfl⟩, b2, one_ag hA (Or.inl ⟨rfl, rfl, rfl, rfl⟩) o3 o4, b3⟩
  · subst q
    have hlt : gi μ 77 8 < 6 := by
      unfold mayF at hmay
      rw [if_neg (by decide), if_neg (by decide), if_pos rfl] at hmay
      exact nle_lt hmay
    have hg : gn μ 77 8 < 6 := by
      have z := i_lt.mp hlt
      have := i8.2
      rw [i8.1, nI_toInt (by omega), show (6 : Int32).toInt = 6 from rfl] at z; omega
    refine ⟨hR, fun x m37 h => ⟨?_, ?_⟩⟩
    · rw [i8.1, show (6 : Int32) = nI 6 from rfl, nI_add]; exact vp_in_nI (by omega) (by omega)
    rw [cl6 i8]
    intro m40 h40 m42 h42
    obtain ⟨r1, r2, r3, r4, r5⟩ := nst (c := 83) hR h (by omega) h40
    have e77 : ∀ j, gi m42 77 j = if j = 8 then gi μ 77 8 + 1 else gi μ 77 j := fun j => by
      rw [h42, gi_ui]
      by_cases z : j = 8
      · rw [if_pos ⟨rfl, z⟩, if_pos z, r2.1 77 (by simp)]
      · rw [if_neg (fun y => z y.2), if_neg z, r2.1 77 (by simp)]
    have eo : ∀ c, c ≠ 77 → ∀ j, gi m42 c j = gi m40 c j := fun c hc j => by rw [h42, gi_ui, if_neg (fun y => hc y.1)]
    have fA : fr [75, 77, 83] μ m42 := by rw [h42]; exact fr_trans (fr_mono r2 (by simp)) (fr_ui (by simp))
    refine ⟨RM_id r1 (eo 75 (by omega) 3) (eo 76 (by omega)) (eo 75 (by omega) 4), frM_of (fr_mono fA (by simp)) (fun j hj => by rw [eo 75 (by omega), r3 j hj]) (fun k hk => by rw [e77, if_neg (by omega)]) (fun k hk => by rw [eo 83 (by omega), r4, if_neg (by omega)]) (fun c hc1 hc2 k hk => fA.1 c (by simp <;> omega) k), fun s D hD hA ht hs => ?_⟩
    have c1 : ¬ gi μ 76 s = 114 := by rw [hs]; decide
    have c2 : ¬ gi μ 76 s = 100 := by rw [hs]; decide
    have e8 : gi μ 77 8 = D 0 2 := hA.1 2 (by omega)
    have g8 : gn μ 77 8 = dn D 2 := by unfold gn dn; rw [e8]
    unfold BdF BdR
    simp only [if_neg c1, if_neg c2, if_pos hs, ← e8]
    rcases r5 with ⟨z, _⟩ | ⟨_, r5⟩
    · exact absurd hw z
    rcases r5 (s + 1) ht (by decide) with ⟨f, f1, f2⟩ | ⟨b, b1, b2, b3⟩
    · exact Or.inl ⟨f, Or.inr ⟨hlt, f1⟩, by rw [eo 75 (by omega)]; exact f2⟩
    · refine Or.inr ⟨b, _, ⟨hlt, x, b1, rfl⟩, by rw [eo 75 (by omega)]; exact b2, ?_, tok_75 b3 (eo 75 (by omega) 4) (eo 75 (by omega) 5) (eo 75 (by omega) 6) (eo 75 (by omega) 7)⟩
      obtain ⟨a0, aR, aD, aS, t, ht, et, t1, t2, t4⟩ := hA
      rw [e8]
      have d2 : dn (ud (ud D 6 (dn D 2) x) 0 2 (D 0 2 + 1)) 2 = dn D 2 + 1 := dn_succ hD.2.2.1 (by omega) (by simp [ud_at])
      have d0 : dn (ud (ud D 6 (dn D 2) x) 0 2 (D 0 2 + 1)) 0 = dn D 0 := by simp [dn, ud_at]
      have d1 : dn (ud (ud D 6 (dn D 2) x) 0 2 (D 0 2 + 1)) 1 = dn D 1 := by simp [dn, ud_at]
      unfold agM
      rw [d0, d1, d2]
      refine ⟨fun q hq => ?_, fun i hi => ?_, fun i hi => ?_, fun i hi => ?_, t, ht, by rw [eo 75 (by omega), r3 10 (by simp)]; exact et, by simpa [ud_at] using t1, by simpa [ud_at] using t2, by simpa [ud_at] using t4⟩
      · rw [e77]
        by_cases z : q = 2
        · subst z
          rw [if_pos rfl, e8]; simp [ud_at]
        · rw [if_neg (by omega), a0 q hq]; simp [ud_at, z]
      · rw [fA.1 78 (by simp), fA.1 79 (by simp), fA.1 80 (by simp)]
        simpa [ud_at] using aR i hi
      · rw [fA.1 81 (by simp), fA.1 82 (by simp)]
        simpa [ud_at] using aD i hi
      · rw [eo 83 (by omega), r4, g8]
        by_cases z : i = dn D 2
        · simp [ud_at, z]
        · rw [if_neg (by omega)]
          simpa [ud_at, z] using aS i (by omega)
  · subst q
    have hlt : gi μ 77 7 < 5 := by
      unfold mayF at hmay
      rw [if_neg (by decide), if_pos rfl] at hmay
      exact nle_lt hmay
    have hg : gn μ 77 7 < 5 := by
      have z := i_lt.mp hlt
      have := i7.2
      rw [i7.1, nI_toInt (by omega), show (5 : Int32).toInt = 5 from rfl] at z; omega
    have hin : vp_in (5 + gi μ 77 7) 10 := by
      rw [i7.1, show (5 : Int32) = nI 5 from rfl, nI_add]; exact vp_in_nI (by omega) (by omega)
    rw [cl5 i7]
    refine ⟨hR, fun x m45 h => ⟨hin, fun m48 h48 => ?_⟩⟩
    obtain ⟨r1, r2, r3, r4, r5⟩ := nst (c := 81) hR h (by omega) h48
    refine ⟨r1, fun y m51 h' => ⟨hin, fun m54 h54 m56 h56 => ?_⟩⟩
    obtain ⟨s1, s2, s3, s4, s5⟩ := nst (c := 82) r1 h' (by omega) h54
    have f54 : fr [75, 81, 82] μ m54 := fr_trans (fr_mono r2 (by simp)) (fr_mono s2 (by simp))
    have e77 : ∀ j, gi m56 77 j = if j = 7 then gi μ 77 7 + 1 else gi μ 77 j := fun j => by
      rw [h56, gi_ui]
      by_cases z : j = 7
      · rw [if_pos ⟨rfl, z⟩, if_pos z, f54.1 77 (by simp)]
      · rw [if_neg (fun y => z y.2), if_neg z, f54.1 77 (by simp)]
    have eo : ∀ c, c ≠ 77 → ∀ j, gi m56 c j = gi m54 c j := fun c hc j => by rw [h56, gi_ui, if_neg (fun y => hc y.1)]
    have fA : fr [75, 77, 81, 82] μ m56 := by rw [h56]; exact fr_trans (fr_mono f54 (by simp)) (fr_ui (by simp))
    have e81 : ∀ j, gi m56 81 j = if j = 5 + gn μ 77 7 then x else gi μ 81 j := fun j => by rw [eo 81 (by omega), s2.1 81 (by simp), r4]
    have e82 : ∀ j, gi m56 82 j = if j = 5 + gn μ 77 7 then y else gi μ 82 j := fun j => by rw [eo 82 (by omega), s4, r2.1 82 (by simp)]
    refine ⟨RM_id s1 (eo 75 (by omega) 3) (eo 76 (by omega)) (eo 75 (by omega) 4), frM_of (fr_mono fA (by simp)) (fun j hj => by rw [eo 75 (by omega), s3 j hj, r3 j hj]) (fun k hk => by rw [e77, if_neg (by omega)]) (fun k hk => fA.1 83 (by simp) k) (fun c hc1 hc2 k hk => ?_), fun s D hD hA ht hs => ?_⟩
    · by_cases z1 : c = 81
      · rw [z1, e81, if_neg (by omega)]
      by_cases z2 : c = 82
      · rw [z2, e82, if_neg (by omega)]
      exact fA.1 c (by simp <;> omega) k
    have c1 : ¬ gi μ 76 s = 114 := by rw [hs]; decide
    have e8 : gi μ 77 7 = D 0 1 := hA.1 1 (by omega)
    have g8 : gn μ 77 7 = dn D 1 := by unfold gn dn; rw [e8]
    have eT : gi m48 76 = gi μ 76 := funext fun j => r2.1 76 (by simp) j
    have eN : gn m48 75 3 = gn μ 75 3 := by unfold gn; rw [r3 3 (by simp)]
    unfold BdF BdR
    simp only [if_neg c1, if_pos hs, ← e8]
    rcases r5 with ⟨z, _⟩ | ⟨_, r5⟩
    · exact absurd hw z
    rcases r5 (s + 1) ht (by decide) with ⟨f, f1, f2⟩ | ⟨b, b1, b2, b3⟩
    · refine Or.inl ⟨f, Or.inr ⟨hlt, Or.inl f1⟩, ?_⟩
      rw [eo 75 (by omega)]
      exact nst2 (μ := μ) (m := μ) (x := 0) (p1 := 0) (p2 := 0) eT eN h200 (Or.inr (numf_le f1)) (numf_le f1) f2 s5
    · rcases s5 with ⟨z, _⟩ | ⟨_, s5⟩
      · rw [b2] at z; exact absurd hw z
      rw [eT, eN] at s5
      rcases s5 b b3 (by decide) with ⟨f, f1, f2⟩ | ⟨b', b1', b2', b3'⟩
      · exact Or.inl ⟨f, Or.inr ⟨hlt, Or.inr ⟨x, b, b1, f1⟩⟩, by rw [eo 75 (by omega)]; exact f2⟩
      · refine Or.inr ⟨b', _, ⟨hlt, x, b, y, b1, b1', rfl⟩, by rw [eo 75 (by omega), b2']; exact b2, ?_, tok_75 b3' (eo 75 (by omega) 4) (eo 75 (by omega) 5) (eo 75 (by omega) 6) (eo 75 (by omega) 7)⟩
        obtain ⟨a0, aR, aD, aS, t, ht, et, t1, t2, t4⟩ := hA
        rw [e8]
        have d1 : dn (ud (ud (ud D 4 (dn D 1) x) 5 (dn D 1) y) 0 1 (D 0 1 + 1)) 1 = dn D 1 + 1 := dn_succ hD.2.1 (by omega) (by simp [ud_at])
        have d0 : dn (ud (ud (ud D 4 (dn D 1) x) 5 (dn D 1) y) 0 1 (D 0 1 + 1)) 0 = dn D 0 := by simp [dn, ud_at]
        have d2 : dn (ud (ud (ud D 4 (dn D 1) x) 5 (dn D 1) y) 0 1 (D 0 1 + 1)) 2 = dn D 2 := by simp [dn, ud_at]
        unfold agM
        rw [d0, d1, d2]
        refine ⟨fun q hq => ?_, fun i hi => ?_, fun i hi => ?_, fun i hi => ?_, t, ht, by rw [eo 75 (by omega), s3 10 (by simp), r3 10 (by simp)]; exact et, by simpa [ud_at] using t1, by simpa [ud_at] using t2, by simpa [ud_at] using t4⟩
        · rw [e77]
          by_cases z : q = 1
          · subst z
            rw [if_pos rfl, e8]; simp [ud_at]
          · rw [if_neg (by omega), a0 q hq]; simp [ud_at, z]
        · rw [fA.1 78 (by simp), fA.1 79 (by simp), fA.1 80 (by simp)]
          simpa [ud_at] using aR i hi
        · rw [e81, e82, g8]
          by_cases z : i = dn D 1
          · simp [ud_at, z]
          · rw [if_neg (by omega), if_neg (by omega)]
            simpa [ud_at, z] using aD i (by omega)
        · rw [fA.1 83 (by simp)]
          simpa [ud_at] using aS i hi
  · subst q
    have hlt : gi μ 77 6 < 5 := by
      unfold mayF at hmay
      rw [if_pos rfl] at hmay
      exact nle_lt hmay
    have hg : gn μ 77 6 < 5 := by
      have z := i_lt.mp hlt
      have := i6.2
      rw [i6.1, nI_toInt (by omega), show (5 : Int32).toInt = 5 from rfl] at z; omega
    have hin : vp_in (5 + gi μ 77 6) 10 := by
      rw [i6.1, show (5 : Int32) = nI 5 from rfl, nI_add]; exact vp_in_nI (by omega) (by omega)
    have hin0 : vp_in (gi μ 77 6) 5 := by rw [i6.1]; exact vp_in_nI (by omega) (by omega)
    have ec : (gi μ 77 6).toNatClampNeg = gn μ 77 6 := rfl
    rw [cl5 i6, ec]
    refine ⟨hR, fun x m59 h => ⟨hin0, fun m62 h62 => ?_⟩⟩
    obtain ⟨r1, r2, r3, r4, r5⟩ := nst (c := 78) hR h (by omega) h62
    refine ⟨r1, fun y m65 h' => ⟨hin, fun m68 h68 => ?_⟩⟩
    obtain ⟨s1, s2, s3, s4, s5⟩ := nst (c := 79) r1 h' (by omega) h68
    refine ⟨s1, fun v m71 h'' => ⟨hin, fun m74 h74 m76 h76 => ?_⟩⟩
    obtain ⟨u1, u2, u3, u4, u5⟩ := nst (c := 80) s1 h'' (by omega) h74
    have f68 : fr [75, 78, 79] μ m68 := fr_trans (fr_mono r2 (by simp)) (fr_mono s2 (by simp))
    have f74 : fr [75, 78, 79, 80] μ m74 := fr_trans (fr_mono f68 (by simp)) (fr_mono u2 (by simp))
    have e77 : ∀ j, gi m76 77 j = if j = 6 then gi μ 77 6 + 1 else gi μ 77 j := fun j => by
      rw [h76, gi_ui]
      by_cases z : j = 6
      · rw [if_pos ⟨rfl, z⟩, if_pos z, f74.1 77 (by simp)]
      · rw [if_neg (fun y => z y.2), if_neg z, f74.1 77 (by simp)]
    have eo : ∀ c, c ≠ 77 → ∀ j, gi m76 c j = gi m74 c j := fun c hc j => by rw [h76, gi_ui, if_neg (fun y => hc y.1)]
    have fA : fr [75, 77, 78, 79, 80] μ m76 := by rw [h76]; exact fr_trans (fr_mono f74 (by simp)) (fr_ui (by simp))
    have e78 : ∀ j, gi m76 78 j = if j = gn μ 77 6 then x else gi μ 78 j := fun j => by rw [eo 78 (by omega), u2.1 78 (by simp), s2.1 78 (by simp), r4]
    have e79 : ∀ j, gi m76 79 j = if j = 5 + gn μ 77 6 then y else gi μ 79 j := fun j => by rw [eo 79 (by omega), u2.1 79 (by simp), s4, r2.1 79 (by simp)]
    have e80 : ∀ j, gi m76 80 j = if j = 5 + gn μ 77 6 then v else gi μ 80 j := fun j => by rw [eo 80 (by omega), u4, f68.1 80 (by simp)]
    refine ⟨RM_id u1 (eo 75 (by omega) 3) (eo 76 (by omega)) (eo 75 (by omega) 4), frM_of (fr_mono fA (by simp)) (fun j hj => by rw [eo 75 (by omega), u3 j hj, s3 j hj, r3 j hj]) (fun k hk => by rw [e77, if_neg (by omega)]) (fun k hk => fA.1 83 (by simp) k) (fun c hc1 hc2 k hk => ?_), fun s D hD hA ht hs => ?_⟩
    · by_cases z1 : c = 79
      · rw [z1, e79, if_neg (by omega)]
      by_cases z2 : c = 80
      · rw [z2, e80, if_neg (by omega)]
      exact fA.1 c (by simp <;> omega) k
    have e8 : gi μ 77 6 = D 0 0 := hA.1 0 (by omega)
    have g8 : gn μ 77 6 = dn D 0 := by unfold gn dn; rw [e8]
    have eT : gi m62 76 = gi μ 76 := funext fun j => r2.1 76 (by simp) j
    have eN : gn m62 75 3 = gn μ 75 3 := by unfold gn; rw [r3 3 (by simp)]
    have eT2 : gi m68 76 = gi μ 76 := funext fun j => f68.1 76 (by simp) j
    have eN2 : gn m68 75 3 = gn μ 75 3 := by unfold gn; rw [s3 3 (by simp), r3 3 (by simp)]
    unfold BdF BdR
    simp only [if_pos hs, ← e8]
    rcases r5 with ⟨z, _⟩ | ⟨_, r5⟩
    · exact absurd hw z
    rcases r5 (s + 1) ht (by decide) with ⟨f, f1, f2⟩ | ⟨b, b1, b2, b3⟩
    · refine Or.inl ⟨f, Or.inr ⟨hlt, Or.inl f1⟩, ?_⟩
      rw [eo 75 (by omega)]
      exact nst2 (μ := μ) (m := μ) (x := 0) (p1 := 0) (p2 := 0) eT2 eN2 h200 (Or.inr (numf_le f1)) (numf_le f1) (nst2 (μ := μ) (m := μ) (x := 0) (p1 := 0) (p2 := 0) eT eN h200 (Or.inr (numf_le f1)) (numf_le f1) f2 s5) u5
    · rcases s5 with ⟨z, _⟩ | ⟨_, s5⟩
      · rw [b2] at z; exact absurd hw z
      rw [eT, eN] at s5
      rcases s5 b b3 (by decide) with ⟨f, f1, f2⟩ | ⟨b', b1', b2', b3'⟩
      · refine Or.inl ⟨f, Or.inr ⟨hlt, Or.inr ⟨x, b, b1, Or.inl f1⟩⟩, ?_⟩
        rw [eo 75 (by omega)]
        exact nst2 (μ := μ) (m := μ) (x := 0) (p1 := 0) (p2 := 0) eT2 eN2 h200 (Or.inr (numf_le f1)) (numf_le f1) f2 u5
      · rcases u5 with ⟨z, _⟩ | ⟨_, u5⟩
        · rw [b2', b2] at z; exact absurd hw z
        rw [eT2, eN2] at u5
        rcases u5 b' b3' (by decide) with ⟨f, f1, f2⟩ | ⟨b2x, b1x, b2y, b3x⟩
        · exact Or.inl ⟨f, Or.inr ⟨hlt, Or.inr ⟨x, b, b1, Or.inr ⟨y, b', b1', f1⟩⟩⟩, by rw [eo 75 (by omega)]; exact f2⟩
        · refine Or.inr ⟨b2x, _, ⟨hlt, x, b, y, b', v, b1, b1', b1x, rfl⟩, by rw [eo 75 (by omega), b2y, b2']; exact b2, ?_, tok_75 b3x (eo 75 (by omega) 4) (eo 75 (by omega) 5) (eo 75 (by omega) 6) (eo 75 (by omega) 7)⟩
          obtain ⟨a0, aR, aD, aS, t, ht, et, t1, t2, t4⟩ := hA
          rw [e8]
          have d0 : dn (ud (ud (ud (ud D 1 (dn D 0) x) 2 (dn D 0) y) 3 (dn D 0) v) 0 0 (D 0 0 + 1)) 0 = dn D 0 + 1 := dn_succ hD.1 (by omega) (by simp [ud_at])
          have d1 : dn (ud (ud (ud (ud D 1 (dn D 0) x) 2 (dn D 0) y) 3 (dn D 0) v) 0 0 (D 0 0 + 1)) 1 = dn D 1 := by simp [dn, ud_at]
          have d2 : dn (ud (ud (ud (ud D 1 (dn D 0) x) 2 (dn D 0) y) 3 (dn D 0) v) 0 0 (D 0 0 + 1)) 2 = dn D 2 := by simp [dn, ud_at]
          unfold agM
          rw [d0, d1, d2]
          refine ⟨fun q hq => ?_, fun i hi => ?_, fun i hi => ?_, fun i hi => ?_, t, ht, by rw [eo 75 (by omega), u3 10 (by simp), s3 10 (by simp), r3 10 (by simp)]; exact et, by simpa [ud_at] using t1, by simpa [ud_at] using t2, by simpa [ud_at] using t4⟩
          · rw [e77]
            by_cases z : q = 0
            · subst z
              rw [if_pos rfl, e8]; simp [ud_at]
            · rw [if_neg (by omega), a0 q hq]; simp [ud_at, z]
          · rw [e78, e79, e80, g8]
            by_cases z : i = dn D 0
            · simp [ud_at, z]
            · rw [if_neg z, if_neg (by omega), if_neg (by omega)]
              simpa [ud_at, z] using aR i (by omega)
          · rw [fA.1 81 (by simp), fA.1 82 (by simp)]
            simpa [ud_at] using aD i hi
          · rw [fA.1 83 (by simp)]
            simpa [ud_at] using aS i hi
theorem sp_X9_readsItem : Sp yX9_readsItem cX9_readsItem 3 none 4 S_X9_readsItem := by
  refine sp_of (by decide) (fun av μ P h => ?_) ?_
  · obtain ⟨p1, rfl, -⟩ := h
    refine ⟨Nat.le_of_ble_eq_true rfl, fun v hv => ?_⟩
    simp only [List.mem_cons, List.not_mem_nil, or_false] at hv
    rcases hv with rfl | rfl <;> rfl
  · rintro X P hO _ μ ⟨p1, rfl, hpre, hpost⟩ hn
    exact wk_X9_readsItem_0 hO hn p1  μ hpost (vp_X9_readsItem_0 p1  μ hpre)

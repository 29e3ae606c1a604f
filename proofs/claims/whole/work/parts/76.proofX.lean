theorem moM_b {μ : Mem} {r : Nat} {v : Int32} (hS : SVm μ) (hr : r < gn μ 77 0) (h : moM μ r v) : v = 100000000 ∨ (v = nI v.toNatClampNeg ∧ v.toNatClampNeg ≤ 3000) := by
  obtain ⟨a0, a1, a2, a3, a4, a5⟩ := hS
  obtain ⟨h1, h2⟩ := h
  by_cases ns : slvI (gi μ 84 3) (nI r) = 1
  · exact Or.inl (h1 ns)
  · obtain ⟨c, tb, hv⟩ := h2 ns
    have h10 := (a5 r hr).2
    have h5 := (a4 r hr ns).2
    by_cases z : c (gn μ 84 (5 + r)) (decN (gn μ 84 (10 + r))) < 100000000
    · right
      rw [if_pos z] at hv
      obtain ⟨M, N, q1, q2, q3, q4⟩ := bell_small a1.2 (fun d hd => (a2 d hd).2.2) tb _ (gn μ 84 (5 + r)) (decN (gn μ 84 (10 + r))) (Nat.le_refl _) h5 (decN_lt (by omega)) z
      rw [hv, nI_clamp (by omega)]
      exact ⟨rfl, by omega⟩
    · left; rw [if_neg z] at hv; exact hv
theorem walk_nI : ∀ W, W < 10 → ∀ p, p < 6 → ∀ r, r < 5 → walkF (nI W) (nI p) (nI r) = nI (dW W (p - 1) r) := by decide +kernel
theorem dW_b {W p r : Nat} (hW : W ≤ 9) (hp : p < 5) (hr : r < 5) : dW W p r ≤ 36 := by
  unfold dW
  have : (if p < r then r - p else p - r) ≤ 4 := by split <;> omega
  have := Nat.mul_le_mul hW this
  omega
theorem RN_75 {p1 : Int32} {μ m m' : Mem} (h : RN p1 μ m) (hf : fr [92, 93] m m') : RN p1 μ m' ∧ gi m' 91 = gi m 91 := by
  obtain ⟨a, b, c, d⟩ := h
  have e : gi m' 91 = gi m 91 := funext fun k => hf.1 91 (by simp) k
  exact ⟨⟨a, fr_trans b (fr_mono hf (by simp)), fun k hk => by rw [hf.1 75 (by simp)]; exact c k hk, by rw [e]; exact d⟩, e⟩
def S_X9_round : Tr := fun av μ P => ∃ (p1 : Int32), av = [.ref 75, .int p1] ∧ pre_X9_round p1 μ ∧ ∀ (x : Int32) (m : Mem), post_X9_round p1 μ x m → P (some (.int x)) m
def vc_X9_round_0 (p1 : Int32)  (μ : Mem) (R : Int32 → Mem → Prop) (J27 : Int32 → Int32 → Int32 → Int32 → Mem → Prop) (J60 : Int32 → Int32 → Int32 → Int32 → Int32 → Int32 → Int32 → Int32 → Int32 → Mem → Prop) (J203 : Int32 → Int32 → Int32 → Int32 → Int32 → Int32 → Mem → Prop) : Prop :=
  (∀ μ1, μ1 = ui μ 75 0 0 → ((((-2)) ≤ p1 → (pre_X9_gathers  μ1 ∧ ∀ (μ5 : Mem), post_X9_gathers  μ1 μ5 → J27 ((-1)) 0 0 0 μ5)) ∧ (¬ ((-2)) ≤ p1 → R ((-1)) μ1)))
set_option maxRecDepth 20000 in
set_option maxHeartbeats 4000000 in
theorem wk_X9_round_0 {X : XT} {P : Post} (hO : OkM X cX9_round RX9 5 (some .int) P) (hn : xn X = 12) (p1 : Int32)   (μ : Mem) {R : Int32 → Mem → Prop} (hR : ∀ x m, R x m → P (some (.int x)) m) {J27 : Int32 → Int32 → Int32 → Int32 → Mem → Prop} {J60 : Int32 → Int32 → Int32 → Int32 → Int32 → Int32 → Int32 → Int32 → Int32 → Mem → Prop} {J203 : Int32 → Int32 → Int32 → Int32 → Int32 → Int32 → Mem → Prop} (hJ27 : ∀ (l2 : Int32) (l3 : Int32) (l4 : Int32) (l5 : Int32) (m : Mem), J27 l2 l3 l4 l5 m → V X 27 [some (.ref 75), some (.int p1), some (.int l2), some (.int l3), some (.int l4), some (.int l5), none, none, none, none, none, none] [] m) (hJ60 : ∀ (l2 : Int32) (l3 : Int32) (l4 : Int32) (l5 : Int32) (l6 : Int32) (l7 : Int32) (l8 : Int32) (l9 : Int32) (l10 : Int32) (m : Mem), J60 l2 l3 l4 l5 l6 l7 l8 l9 l10 m → V X 60 [some (.ref 75), some (.int p1), some (.int l2), some (.int l3), some (.int l4), some (.int l5), some (.int l6), some (.int l7), some (.int l8), some (.int l9), some (.int l10), none] [] m) (hJ203 : ∀ (l2 : Int32) (l3 : Int32) (l4 : Int32) (l5 : Int32) (l6 : Int32) (l11 : Int32) (m : Mem), J203 l2 l3 l4 l5 l6 l11 m → V X 203 [some (.ref 75), some (.int p1), some (.int l2), some (.int l3), some (.int l4), some (.int l5), some (.int l6), none, none, none, none, some (.int l11)] [] m)  (h : vc_X9_round_0 p1  μ R J27 J60 J203) : V X 0 [some (.ref 75), some (.int p1), none, none, none, none, none, none, none, none, none, none] [] μ := by
  have hX := hO.1
  unfold vc_X9_round_0 at h
  refine v_aload_n hX dX9_round_0 rfl (?_ : V X 1 [some (.ref 75), some (.int p1), none, none, none, none, none, none, none, none, none, none] [.ref 75] μ)
  refine v_iconst hX 0 dX9_round_1 rfl (?_ : V X 2 [some (.ref 75), some (.int p1), none, none, none, none, none, none, none, none, none, none] [.int 0, .ref 75] μ)
  refine w_puti hX fk_X9_74 fw_9_0 sh_75 rfl dX9_round_2 (fun μ1 e2 => (?_ : V X 5 [some (.ref 75), some (.int p1), none, none, none, none, none, none, none, none, none, none] [] μ1))
  replace h := h μ1 e2
  refine v_iload_n hX dX9_round_5 rfl (?_ : V X 6 [some (.ref 75), some (.int p1), none, none, none, none, none, none, none, none, none, none] [.int p1] μ1)
  refine v_bipush hX (-2) dX9_round_6 rfl (?_ : V X 8 [some (.ref 75), some (.int p1), none, none, none, none, none, none, none, none, none, none] [.int ((-2)), .int p1] μ1)
  refine v_icmp_ge hX 13 dX9_round_8 rfl (fun c3 => ?_) (fun c3 => ?_)
  · replace h := h.1 c3
    refine v_aload_n hX dX9_round_13 rfl (?_ : V X 14 [some (.ref 75), some (.int p1), none, none, none, none, none, none, none, none, none, none] [.ref 75] μ1)
    refine v_callV hX sp_X9_gathers ck_X9_gathers mk_X9_183 mv_X9_gathers sh_75 (by decide) (by decide) [] [] rfl rfl (Nat.le_of_ble_eq_true rfl) dX9_round_14 ⟨rfl, h.1, fun μ5 hp6 => (?_ : V X 17 [some (.ref 75), some (.int p1), none, none, none, none, none, none, none, none, none, none] [] μ5)⟩
    replace h := h.2 μ5 hp6
    refine v_iconst hX (-1) dX9_round_17 rfl (?_ : V X 18 [some (.ref 75), some (.int p1), none, none, none, none, none, none, none, none, none, none] [.int ((-1))] μ5)
    refine v_istore_n hX dX9_round_18 (by rw [hn]; decide) (?_ : V X 19 [some (.ref 75), some (.int p1), some (.int ((-1))), none, none, none, none, none, none, none, none, none] [] μ5)
    refine v_iconst hX 0 dX9_round_19 rfl (?_ : V X 20 [some (.ref 75), some (.int p1), some (.int ((-1))), none, none, none, none, none, none, none, none, none] [.int 0] μ5)
    refine v_istore_n hX dX9_round_20 (by rw [hn]; decide) (?_ : V X 21 [some (.ref 75), some (.int p1), some (.int ((-1))), some (.int 0), none, none, none, none, none, none, none, none] [] μ5)
    refine v_iconst hX 0 dX9_round_21 rfl (?_ : V X 22 [some (.ref 75), some (.int p1), some (.int ((-1))), some (.int 0), none, none, none, none, none, none, none, none] [.int 0] μ5)
    refine v_istore hX dX9_round_22 (by rw [hn]; decide) (?_ : V X 24 [some (.ref 75), some (.int p1), some (.int ((-1))), some (.int 0), some (.int 0), none, none, none, none, none, none, none] [] μ5)
    refine v_iconst hX 0 dX9_round_24 rfl (?_ : V X 25 [some (.ref 75), some (.int p1), some (.int ((-1))), some (.int 0), some (.int 0), none, none, none, none, none, none, none] [.int 0] μ5)
    refine v_istore hX dX9_round_25 (by rw [hn]; decide) (?_ : V X 27 [some (.ref 75), some (.int p1), some (.int ((-1))), some (.int 0), some (.int 0), some (.int 0), none, none, none, none, none, none] [] μ5)
    exact v_mask [true, true, true, true, true, true, false, false, false, false, false, false] (hJ27 _ _ _ _ _ h)
  · replace h := h.2 c3
    refine v_iconst hX (-1) dX9_round_11 rfl (?_ : V X 12 [some (.ref 75), some (.int p1), none, none, none, none, none, none, none, none, none, none] [.int ((-1))] μ1)
    exact v_iret hO dX9_round_12 (hR _ _ h)
def vc_X9_round_27 (p1 : Int32) (l2 : Int32) (l3 : Int32) (l4 : Int32) (l5 : Int32) (μ : Mem) (R : Int32 → Mem → Prop) (J27 : Int32 → Int32 → Int32 → Int32 → Mem → Prop) (J60 : Int32 → Int32 → Int32 → Int32 → Int32 → Int32 → Int32 → Int32 → Int32 → Mem → Prop) (J203 : Int32 → Int32 → Int32 → Int32 → Int32 → Int32 → Mem → Prop) : Prop :=
  ((7776 ≤ l5 → ((¬ p1 = ((-1)) → ((¬ p1 = ((-2)) → ((l4 ≤ p1 → R ((-5)) μ) ∧ (¬ l4 ≤ p1 → vp_in p1 5 ∧ R (gi μ 93 (Int32.toNatClampNeg p1)) μ))) ∧ (p1 = ((-2)) → R l3 μ))) ∧ (p1 = ((-1)) → R l2 μ))) ∧ (¬ 7776 ≤ l5 → (pre_X9_rowOf l5 μ ∧ ∀ (x6 : Int32) (μ7 : Mem), post_X9_rowOf l5 μ x6 μ7 → J60 l2 l3 l4 l5 x6 (gi μ7 84 1) 0 0 0 μ7)))
set_option maxRecDepth 20000 in
set_option maxHeartbeats 4000000 in
theorem wk_X9_round_27 {X : XT} {P : Post} (hO : OkM X cX9_round RX9 5 (some .int) P) (hn : xn X = 12) (p1 : Int32)  (l2 : Int32) (l3 : Int32) (l4 : Int32) (l5 : Int32) (μ : Mem) {R : Int32 → Mem → Prop} (hR : ∀ x m, R x m → P (some (.int x)) m) {J27 : Int32 → Int32 → Int32 → Int32 → Mem → Prop} {J60 : Int32 → Int32 → Int32 → Int32 → Int32 → Int32 → Int32 → Int32 → Int32 → Mem → Prop} {J203 : Int32 → Int32 → Int32 → Int32 → Int32 → Int32 → Mem → Prop} (hJ27 : ∀ (l2 : Int32) (l3 : Int32) (l4 : Int32) (l5 : Int32) (m : Mem), J27 l2 l3 l4 l5 m → V X 27 [some (.ref 75), some (.int p1), some (.int l2), some (.int l3), some (.int l4), some (.int l5), none, none, none, none, none, none] [] m) (hJ60 : ∀ (l2 : Int32) (l3 : Int32) (l4 : Int32) (l5 : Int32) (l6 : Int32) (l7 : Int32) (l8 : Int32) (l9 : Int32) (l10 : Int32) (m : Mem), J60 l2 l3 l4 l5 l6 l7 l8 l9 l10 m → V X 60 [some (.ref 75), some (.int p1), some (.int l2), some (.int l3), some (.int l4), some (.int l5), some (.int l6), some (.int l7), some (.int l8), some (.int l9), some (.int l10), none] [] m) (hJ203 : ∀ (l2 : Int32) (l3 : Int32) (l4 : Int32) (l5 : Int32) (l6 : Int32) (l11 : Int32) (m : Mem), J203 l2 l3 l4 l5 l6 l11 m → V X 203 [some (.ref 75), some (.int p1), some (.int l2), some (.int l3), some (.int l4), some (.int l5), some (.int l6), none, none, none, none, some (.int l11)] [] m)  (h : vc_X9_round_27 p1 l2 l3 l4 l5 μ R J27 J60 J203) : V X 27 [some (.ref 75), some (.int p1), some (.int l2), some (.int l3), some (.int l4), some (.int l5), none, none, none, none, none, none] [] μ := by
  have hX := hO.1
  unfold vc_X9_round_27 at h
  refine v_iload hX dX9_round_27 rfl (?_ : V X 29 [some (.ref 75), some (.int p1), some (.int l2), some (.int l3), some (.int l4), some (.int l5), none, none, none, none, none, none] [.int l5] μ)
  refine v_sipush hX 7776 dX9_round_29 rfl (?_ : V X 32 [some (.ref 75), some (.int p1), some (.int l2), some (.int l3), some (.int l4), some (.int l5), none, none, none, none, none, none] [.int 7776, .int l5] μ)
  refine v_icmp_ge hX 236 dX9_round_32 rfl (fun c1 => ?_) (fun c1 => ?_)
  · replace h := h.1 c1
    refine v_iload_n hX dX9_round_236 rfl (?_ : V X 237 [some (.ref 75), some (.int p1), some (.int l2), some (.int l3), some (.int l4), some (.int l5), none, none, none, none, none, none] [.int p1] μ)
    refine v_iconst hX (-1) dX9_round_237 rfl (?_ : V X 238 [some (.ref 75), some (.int p1), some (.int l2), some (.int l3), some (.int l4), some (.int l5), none, none, none, none, none, none] [.int ((-1)), .int p1] μ)
    refine v_icmp_ne hX 245 dX9_round_238 rfl (fun c2 => ?_) (fun c2 => ?_)
    · replace h := h.1 c2
      refine v_iload_n hX dX9_round_245 rfl (?_ : V X 246 [some (.ref 75), some (.int p1), some (.int l2), some (.int l3), some (.int l4), some (.int l5), none, none, none, none, none, none] [.int p1] μ)
      refine v_bipush hX (-2) dX9_round_246 rfl (?_ : V X 248 [some (.ref 75), some (.int p1), some (.int l2), some (.int l3), some (.int l4), some (.int l5), none, none, none, none, none, none] [.int ((-2)), .int p1] μ)
      refine v_icmp_ne hX 255 dX9_round_248 rfl (fun c3 => ?_) (fun c3 => ?_)
      · replace h := h.1 c3
        refine v_iload_n hX dX9_round_255 rfl (?_ : V X 256 [some (.ref 75), some (.int p1), some (.int l2), some (.int l3), some (.int l4), some (.int l5), none, none, none, none, none, none] [.int p1] μ)
        refine v_iload hX dX9_round_256 rfl (?_ : V X 258 [some (.ref 75), some (.int p1), some (.int l2), some (.int l3), some (.int l4), some (.int l5), none, none, none, none, none, none] [.int l4, .int p1] μ)
        refine v_icmp_ge hX 270 dX9_round_258 rfl (fun c4 => ?_) (fun c4 => ?_)
        · replace h := h.1 c4
          refine v_bipush hX (-5) dX9_round_270 rfl (?_ : V X 272 [some (.ref 75), some (.int p1), some (.int l2), some (.int l3), some (.int l4), some (.int l5), none, none, none, none, none, none] [.int ((-5))] μ)
          exact v_iret hO dX9_round_272 (hR _ _ h)
        · replace h := h.2 c4
          refine v_aload_n hX dX9_round_261 rfl (?_ : V X 262 [some (.ref 75), some (.int p1), some (.int l2), some (.int l3), some (.int l4), some (.int l5), none, none, none, none, none, none] [.ref 75] μ)
          refine v_getr hX (93) fk_X9_62 sh_75 rfl rfl dX9_round_262 (?_ : V X 265 [some (.ref 75), some (.int p1), some (.int l2), some (.int l3), some (.int l4), some (.int l5), none, none, none, none, none, none] [.ref 93] μ)
          refine v_iload_n hX dX9_round_265 rfl (?_ : V X 266 [some (.ref 75), some (.int p1), some (.int l2), some (.int l3), some (.int l4), some (.int l5), none, none, none, none, none, none] [.int p1, .ref 93] μ)
          have hb5 := h.1
          replace h := h.2
          refine w_iald hX (Int32.toNatClampNeg p1) sh_93 hb5 rfl dX9_round_266 (?_ : V X 267 [some (.ref 75), some (.int p1), some (.int l2), some (.int l3), some (.int l4), some (.int l5), none, none, none, none, none, none] [.int (gi μ 93 (Int32.toNatClampNeg p1))] μ)
          refine v_goto hX 272 dX9_round_267 rfl (?_ : V X 272 [some (.ref 75), some (.int p1), some (.int l2), some (.int l3), some (.int l4), some (.int l5), none, none, none, none, none, none] [.int (gi μ 93 (Int32.toNatClampNeg p1))] μ)
          exact v_iret hO dX9_round_272 (hR _ _ h)
      · replace h := h.2 c3
        refine v_iload_n hX dX9_round_251 rfl (?_ : V X 252 [some (.ref 75), some (.int p1), some (.int l2), some (.int l3), some (.int l4), some (.int l5), none, none, none, none, none, none] [.int l3] μ)
        refine v_goto hX 272 dX9_round_252 rfl (?_ : V X 272 [some (.ref 75), some (.int p1), some (.int l2), some (.int l3), some (.int l4), some (.int l5), none, none, none, none, none, none] [.int l3] μ)
        exact v_iret hO dX9_round_272 (hR _ _ h)
    · replace h := h.2 c2
      refine v_iload_n hX dX9_round_241 rfl (?_ : V X 242 [some (.ref 75), some (.int p1), some (.int l2), some (.int l3), some (.int l4), some (.int l5), none, none, none, none, none, none] [.int l2] μ)
      refine v_goto hX 272 dX9_round_242 rfl (?_ : V X 272 [some (.ref 75), some (.int p1), some (.int l2), some (.int l3), some (.int l4), some (.int l5), none, none, none, none, none, none] [.int l2] μ)
      exact v_iret hO dX9_round_272 (hR _ _ h)
  · replace h := h.2 c1
    refine v_aload_n hX dX9_round_35 rfl (?_ : V X 36 [some (.ref 75), some (.int p1), some (.int l2), some (.int l3), some (.int l4), some (.int l5), none, none, none, none, none, none] [.ref 75] μ)
    refine v_iload hX dX9_round_36 rfl (?_ : V X 38 [some (.ref 75), some (.int p1), some (.int l2), some (.int l3), some (.int l4), some (.int l5), none, none, none, none, none, none] [.int l5, .ref 75] μ)
    refine v_callV hX sp_X9_rowOf ck_X9_rowOf mk_X9_186 mv_X9_rowOf sh_75 (by decide) (by decide) [.int l5] [] rfl rfl (Nat.le_of_ble_eq_true rfl) dX9_round_38 ⟨l5, rfl, h.1, fun x6 μ7 hp8 => (?_ : V X 41 [some (.ref 75), some (.int p1), some (.int l2), some (.int l3), some (.int l4), some (.int l5), none, none, none, none, none, none] [.int x6] μ7)⟩
    replace h := h.2 x6 μ7 hp8
    refine v_istore hX dX9_round_41 (by rw [hn]; decide) (?_ : V X 43 [some (.ref 75), some (.int p1), some (.int l2), some (.int l3), some (.int l4), some (.int l5), some (.int x6), none, none, none, none, none] [] μ7)
    refine v_aload_n hX dX9_round_43 rfl (?_ : V X 44 [some (.ref 75), some (.int p1), some (.int l2), some (.int l3), some (.int l4), some (.int l5), some (.int x6), none, none, none, none, none] [.ref 75] μ7)
    refine v_getr hX (84) fk_X9_34 sh_75 rfl rfl dX9_round_44 (?_ : V X 47 [some (.ref 75), some (.int p1), some (.int l2), some (.int l3), some (.int l4), some (.int l5), some (.int x6), none, none, none, none, none] [.ref 84] μ7)
    refine v_iconst hX 1 dX9_round_47 rfl (?_ : V X 48 [some (.ref 75), some (.int p1), some (.int l2), some (.int l3), some (.int l4), some (.int l5), some (.int x6), none, none, none, none, none] [.int 1, .ref 84] μ7)
    refine w_iald hX 1 sh_84 (vp_lit (by decide)) (by decide) dX9_round_48 (?_ : V X 49 [some (.ref 75), some (.int p1), some (.int l2), some (.int l3), some (.int l4), some (.int l5), some (.int x6), none, none, none, none, none] [.int (gi μ7 84 1)] μ7)
    refine v_istore hX dX9_round_49 (by rw [hn]; decide) (?_ : V X 51 [some (.ref 75), some (.int p1), some (.int l2), some (.int l3), some (.int l4), some (.int l5), some (.int x6), some (.int (gi μ7 84 1)), none, none, none, none] [] μ7)
    refine v_iconst hX 0 dX9_round_51 rfl (?_ : V X 52 [some (.ref 75), some (.int p1), some (.int l2), some (.int l3), some (.int l4), some (.int l5), some (.int x6), some (.int (gi μ7 84 1)), none, none, none, none] [.int 0] μ7)
    refine v_istore hX dX9_round_52 (by rw [hn]; decide) (?_ : V X 54 [some (.ref 75), some (.int p1), some (.int l2), some (.int l3), some (.int l4), some (.int l5), some (.int x6), some (.int (gi μ7 84 1)), some (.int 0), none, none, none] [] μ7)
    refine v_iconst hX 0 dX9_round_54 rfl (?_ : V X 55 [some (.ref 75), some (.int p1), some (.int l2), some (.int l3), some (.int l4), some (.int l5), some (.int x6), some (.int (gi μ7 84 1)), some (.int 0), none, none, none] [.int 0] μ7)
    refine v_istore hX dX9_round_55 (by rw [hn]; decide) (?_ : V X 57 [some (.ref 75), some (.int p1), some (.int l2), some (.int l3), some (.int l4), some (.int l5), some (.int x6), some (.int (gi μ7 84 1)), some (.int 0), some (.int 0), none, none] [] μ7)
    refine v_iconst hX 0 dX9_round_57 rfl (?_ : V X 58 [some (.ref 75), some (.int p1), some (.int l2), some (.int l3), some (.int l4), some (.int l5), some (.int x6), some (.int (gi μ7 84 1)), some (.int 0), some (.int 0), none, none] [.int 0] μ7)
    refine v_istore hX dX9_round_58 (by rw [hn]; decide) (?_ : V X 60 [some (.ref 75), some (.int p1), some (.int l2), some (.int l3), some (.int l4), some (.int l5), some (.int x6), some (.int (gi μ7 84 1)), some (.int 0), some (.int 0), some (.int 0), none] [] μ7)
    exact v_mask [true, true, true, true, true, true, true, true, true, true, true, false] (hJ60 _ _ _ _ _ _ _ _ _ _ h)
def vc_X9_round_60 (p1 : Int32) (l2 : Int32) (l3 : Int32) (l4 : Int32) (l5 : Int32) (l6 : Int32) (l7 : Int32) (l8 : Int32) (l9 : Int32) (l10 : Int32) (μ : Mem) (R : Int32 → Mem → Prop) (J27 : Int32 → Int32 → Int32 → Int32 → Mem → Prop) (J60 : Int32 → Int32 → Int32 → Int32 → Int32 → Int32 → Int32 → Int32 → Int32 → Mem → Prop) (J203 : Int32 → Int32 → Int32 → Int32 → Int32 → Int32 → Mem → Prop) : Prop :=
  ((l6 ≤ l10 → ((l6 = 0 → ((l2 < l9 → J203 l9 l8 l6 l5 l6 0 μ) ∧ (¬ l2 < l9 → ((¬ l9 = l2 → J27 l2 l3 l4 (l5 + 1) μ) ∧ (l9 = l2 → ((l3 ≤ l8 → J27 l2 l3 l4 (l5 + 1) μ) ∧ (¬ l3 ≤ l8 → J203 l9 l8 l6 l5 l6 0 μ))))))) ∧ (¬ l6 = 0 → ((l6 ≤ 0 → J27 l2 l3 l4 (l5 + 1) μ) ∧ (¬ l6 ≤ 0 → (((gi μ 77 5) < ((gi μ 84 2) + l8) → J27 l2 l3 l4 (l5 + 1) μ) ∧ (¬ (gi μ 77 5) < ((gi μ 84 2) + l8) → ((l2 < l9 → J203 l9 l8 l6 l5 l6 0 μ) ∧ (¬ l2 < l9 → ((¬ l9 = l2 → J27 l2 l3 l4 (l5 + 1) μ) ∧ (l9 = l2 → ((l3 ≤ l8 → J27 l2 l3 l4 (l5 + 1) μ) ∧ (¬ l3 ≤ l8 → J203 l9 l8 l6 l5 l6 0 μ))))))))))))) ∧ (¬ l6 ≤ l10 → vp_in l10 5 ∧ (pre_X9_walk l7 (gi μ 92 (Int32.toNatClampNeg l10)) μ ∧ ∀ (x12 : Int32) (μ13 : Mem), post_X9_walk l7 (gi μ 92 (Int32.toNatClampNeg l10)) μ x12 μ13 → vp_in l10 5 ∧ vp_in (gi μ13 92 (Int32.toNatClampNeg l10)) 5 ∧ (∀ y17 : Int32, y17 = (l8 + (x12 + (gi μ13 91 (Int32.toNatClampNeg (gi μ13 92 (Int32.toNatClampNeg l10)))))) → vp_in l10 5 ∧ vp_in (gi μ13 92 (Int32.toNatClampNeg l10)) 10 ∧ (∀ y21 : Int32, y21 = (l9 + (gi μ13 80 (Int32.toNatClampNeg (gi μ13 92 (Int32.toNatClampNeg l10))))) → vp_in l10 5 ∧ (∀ y24 : Int32, y24 = ((gi μ13 92 (Int32.toNatClampNeg l10)) + 1) → J60 l2 l3 l4 l5 l6 y24 y17 y21 (l10 + 1) μ13))))))
set_option maxRecDepth 20000 in
set_option maxHeartbeats 4000000 in
theorem wk_X9_round_60 {X : XT} {P : Post} (hO : OkM X cX9_round RX9 5 (some .int) P) (hn : xn X = 12) (p1 : Int32)  (l2 : Int32) (l3 : Int32) (l4 : Int32) (l5 : Int32) (l6 : Int32) (l7 : Int32) (l8 : Int32) (l9 : Int32) (l10 : Int32) (μ : Mem) {R : Int32 → Mem → Prop} (hR : ∀ x m, R x m → P (some (.int x)) m) {J27 : Int32 → Int32 → Int32 → Int32 → Mem → Prop} {J60 : Int32 → Int32 → Int32 → Int32 → Int32 → Int32 → Int32 → Int32 → Int32 → Mem → Prop} {J203 : Int32 → Int32 → Int32 → Int32 → Int32 → Int32 → Mem → Prop} (hJ27 : ∀ (l2 : Int32) (l3 : Int32) (l4 : Int32) (l5 : Int32) (m : Mem), J27 l2 l3 l4 l5 m → V X 27 [some (.ref 75), some (.int p1), some (.int l2), some (.int l3), some (.int l4), some (.int l5), none, none, none, none, none, none] [] m) (hJ60 : ∀ (l2 : Int32) (l3 : Int32) (l4 : Int32) (l5 : Int32) (l6 : Int32) (l7 : Int32) (l8 : Int32) (l9 : Int32) (l10 : Int32) (m : Mem), J60 l2 l3 l4 l5 l6 l7 l8 l9 l10 m → V X 60 [some (.ref 75), some (.int p1), some (.int l2), some (.int l3), some (.int l4), some (.int l5), some (.int l6), some (.int l7), some (.int l8), some (.int l9), some (.int l10), none] [] m) (hJ203 : ∀ (l2 : Int32) (l3 : Int32) (l4 : Int32) (l5 : Int32) (l6 : Int32) (l11 : Int32) (m : Mem), J203 l2 l3 l4 l5 l6 l11 m → V X 203 [some (.ref 75), some (.int p1), some (.int l2), some (.int l3), some (.int l4), some (.int l5), some (.int l6), none, none, none, none, some (.int l11)] [] m)  (h : vc_X9_round_60 p1 l2 l3 l4 l5 l6 l7 l8 l9 l10 μ R J27 J60 J203) : V X 60 [some (.ref 75), some (.int p1), some (.int l2), some (.int l3), some (.int l4), some (.int l5), some (.int l6), some (.int l7), some (.int l8), some (.int l9), some (.int l10), none] [] μ := by
  have hX := hO.1
  unfold vc_X9_round_60 at h
  refine v_iload hX dX9_round_60 rfl (?_ : V X 62 [some (.ref 75), some (.int p1), some (.int l2), some (.int l3), some (.int l4), some (.int l5), some (.int l6), some (.int l7), some (.int l8), some (.int l9), some (.int l10), none] [.int l10] μ)
  refine v_iload hX dX9_round_62 rfl (?_ : V X 64 [some (.ref 75), some (.int p1), some (.int l2), some (.int l3), some (.int l4), some (.int l5), some (.int l6), some (.int l7), some (.int l8), some (.int l9), some (.int l10), none] [.int l6, .int l10] μ)
  refine v_icmp_ge hX 132 dX9_round_64 rfl (fun c1 => ?_) (fun c1 => ?_)
  · replace h := h.1 c1
    refine v_iload hX dX9_round_132 rfl (?_ : V X 134 [some (.ref 75), some (.int p1), some (.int l2), some (.int l3), some (.int l4), some (.int l5), some (.int l6), some (.int l7), some (.int l8), some (.int l9), some (.int l10), none] [.int l6] μ)
    refine v_if_eq hX 160 dX9_round_134 rfl (fun c2 => ?_) (fun c2 => ?_)
    · replace h := h.1 c2
      refine v_iconst hX 1 dX9_round_160 rfl (?_ : V X 161 [some (.ref 75), some (.int p1), some (.int l2), some (.int l3), some (.int l4), some (.int l5), some (.int l6), some (.int l7), some (.int l8), some (.int l9), some (.int l10), none] [.int 1] μ)
      refine v_goto hX 165 dX9_round_161 rfl (?_ : V X 165 [some (.ref 75), some (.int p1), some (.int l2), some (.int l3), some (.int l4), some (.int l5), some (.int l6), some (.int l7), some (.int l8), some (.int l9), some (.int l10), none] [.int 1] μ)
      refine v_istore hX dX9_round_165 (by rw [hn]; decide) (?_ : V X 167 [some (.ref 75), some (.int p1), some (.int l2), some (.int l3), some (.int l4), some (.int l5), some (.int l6), some (.int l7), some (.int l8), some (.int l9), some (.int 1), none] [] μ)
      refine v_iload hX dX9_round_167 rfl (?_ : V X 169 [some (.ref 75), some (.int p1), some (.int l2), some (.int l3), some (.int l4), some (.int l5), some (.int l6), some (.int l7), some (.int l8), some (.int l9), some (.int 1), none] [.int 1] μ)
      refine v_if_eq hX 230 dX9_round_169 rfl (fun c1 => absurd c1 (by decide)) (fun _ => (?_ : V X 172 [some (.ref 75), some (.int p1), some (.int l2), some (.int l3), some (.int l4), some (.int l5), some (.int l6), some (.int l7), some (.int l8), some (.int l9), some (.int 1), none] [] μ))
      refine v_iload hX dX9_round_172 rfl (?_ : V X 174 [some (.ref 75), some (.int p1), some (.int l2), some (.int l3), some (.int l4), some (.int l5), some (.int l6), some (.int l7), some (.int l8), some (.int l9), some (.int 1), none] [.int l9] μ)
      refine v_iload_n hX dX9_round_174 rfl (?_ : V X 175 [some (.ref 75), some (.int p1), some (.int l2), some (.int l3), some (.int l4), some (.int l5), some (.int l6), some (.int l7), some (.int l8), some (.int l9), some (.int 1), none] [.int l2, .int l9] μ)
      refine v_icmp_gt hX 190 dX9_round_175 rfl (fun c3 => ?_) (fun c3 => ?_)
      · replace h := h.1 c3
        refine v_iload hX dX9_round_190 rfl (?_ : V X 192 [some (.ref 75), some (.int p1), some (.int l2), some (.int l3), some (.int l4), some (.int l5), some (.int l6), some (.int l7), some (.int l8), some (.int l9), some (.int 1), none] [.int l9] μ)
        refine v_istore_n hX dX9_round_192 (by rw [hn]; decide) (?_ : V X 193 [some (.ref 75), some (.int p1), some (.int l9), some (.int l3), some (.int l4), some (.int l5), some (.int l6), some (.int l7), some (.int l8), some (.int l9), some (.int 1), none] [] μ)
        refine v_iload hX dX9_round_193 rfl (?_ : V X 195 [some (.ref 75), some (.int p1), some (.int l9), some (.int l3), some (.int l4), some (.int l5), some (.int l6), some (.int l7), some (.int l8), some (.int l9), some (.int 1), none] [.int l8] μ)
        refine v_istore_n hX dX9_round_195 (by rw [hn]; decide) (?_ : V X 196 [some (.ref 75), some (.int p1), some (.int l9), some (.int l8), some (.int l4), some (.int l5), some (.int l6), some (.int l7), some (.int l8), some (.int l9), some (.int 1), none] [] μ)
        refine v_iload hX dX9_round_196 rfl (?_ : V X 198 [some (.ref 75), some (.int p1), some (.int l9), some (.int l8), some (.int l4), some (.int l5), some (.int l6), some (.int l7), some (.int l8), some (.int l9), some (.int 1), none] [.int l6] μ)
        refine v_istore hX dX9_round_198 (by rw [hn]; decide) (?_ : V X 200 [some (.ref 75), some (.int p1), some (.int l9), some (.int l8), some (.int l6), some (.int l5), some (.int l6), some (.int l7), some (.int l8), some (.int l9), some (.int 1), none] [] μ)
        refine v_iconst hX 0 dX9_round_200 rfl (?_ : V X 201 [some (.ref 75), some (.int p1), some (.int l9), some (.int l8), some (.int l6), some (.int l5), some (.int l6), some (.int l7), some (.int l8), some (.int l9), some (.int 1), none] [.int 0] μ)
        refine v_istore hX dX9_round_201 (by rw [hn]; decide) (?_ : V X 203 [some (.ref 75), some (.int p1), some (.int l9), some (.int l8), some (.int l6), some (.int l5), some (.int l6), some (.int l7), some (.int l8), some (.int l9), some (.int 1), some (.int 0)] [] μ)
        exact v_mask [true, true, true, true, true, true, true, false, false, false, false, true] (hJ203 _ _ _ _ _ _ _ h)
      · replace h := h.2 c3
        refine v_iload hX dX9_round_178 rfl (?_ : V X 180 [some (.ref 75), some (.int p1), some (.int l2), some (.int l3), some (.int l4), some (.int l5), some (.int l6), some (.int l7), some (.int l8), some (.int l9), some (.int 1), none] [.int l9] μ)
        refine v_iload_n hX dX9_round_180 rfl (?_ : V X 181 [some (.ref 75), some (.int p1), some (.int l2), some (.int l3), some (.int l4), some (.int l5), some (.int l6), some (.int l7), some (.int l8), some (.int l9), some (.int 1), none] [.int l2, .int l9] μ)
        refine v_icmp_ne hX 230 dX9_round_181 rfl (fun c4 => ?_) (fun c4 => ?_)
        · replace h := h.1 c4
          refine v_iinc hX 1 dX9_round_230 (by rw [hn]; decide) rfl rfl (?_ : V X 233 [some (.ref 75), some (.int p1), some (.int l2), some (.int l3), some (.int l4), some (.int (l5 + 1)), some (.int l6), some (.int l7), some (.int l8), some (.int l9), some (.int 1), none] [] μ)
          refine v_goto hX 27 dX9_round_233 rfl (?_ : V X 27 [some (.ref 75), some (.int p1), some (.int l2), some (.int l3), some (.int l4), some (.int (l5 + 1)), some (.int l6), some (.int l7), some (.int l8), some (.int l9), some (.int 1), none] [] μ)
          exact v_mask [true, true, true, true, true, true, false, false, false, false, false, false] (hJ27 _ _ _ _ _ h)
        · replace h := h.2 c4
          refine v_iload hX dX9_round_184 rfl (?_ : V X 186 [some (.ref 75), some (.int p1), some (.int l2), some (.int l3), some (.int l4), some (.int l5), some (.int l6), some (.int l7), some (.int l8), some (.int l9), some (.int 1), none] [.int l8] μ)
          refine v_iload_n hX dX9_round_186 rfl (?_ : V X 187 [some (.ref 75), some (.int p1), some (.int l2), some (.int l3), some (.int l4), some (.int l5), some (.int l6), some (.int l7), some (.int l8), some (.int l9), some (.int 1), none] [.int l3, .int l8] μ)
          refine v_icmp_ge hX 230 dX9_round_187 rfl (fun c5 => ?_) (fun c5 => ?_)
          · replace h := h.1 c5
            refine v_iinc hX 1 dX9_round_230 (by rw [hn]; decide) rfl rfl (?_ : V X 233 [some (.ref 75), some (.int p1), some (.int l2), some (.int l3), some (.int l4), some (.int (l5 + 1)), some (.int l6), some (.int l7), some (.int l8), some (.int l9), some (.int 1), none] [] μ)
            refine v_goto hX 27 dX9_round_233 rfl (?_ : V X 27 [some (.ref 75), some (.int p1), some (.int l2), some (.int l3), some (.int l4), some (.int (l5 + 1)), some (.int l6), some (.int l7), some (.int l8), some (.int l9), some (.int 1), none] [] μ)
            exact v_mask [true, true, true, true, true, true, false, false, false, false, false, false] (hJ27 _ _ _ _ _ h)
          · replace h := h.2 c5
            refine v_iload hX dX9_round_190 rfl (?_ : V X 192 [some (.ref 75), some (.int p1), some (.int l2), some (.int l3), some (.int l4), some (.int l5), some (.int l6), some (.int l7), some (.int l8), some (.int l9), some (.int 1), none] [.int l9] μ)
            refine v_istore_n hX dX9_round_192 (by rw [hn]; decide) (?_ : V X 193 [some (.ref 75), some (.int p1), some (.int l9), some (.int l3), some (.int l4), some (.int l5), some (.int l6), some (.int l7), some (.int l8), some (.int l9), some (.int 1), none] [] μ)
            refine v_iload hX dX9_round_193 rfl (?_ : V X 195 [some (.ref 75), some (.int p1), some (.int l9), some (.int l3), some (.int l4), some (.int l5), some (.int l6), some (.int l7), some (.int l8), some (.int l9), some (.int 1), none] [.int l8] μ)
            refine v_istore_n hX dX9_round_195 (by rw [hn]; decide) (?_ : V X 196 [some (.ref 75), some (.int p1), some (.int l9), some (.int l8), some (.int l4), some (.int l5), some (.int l6), some (.int l7), some (.int l8), some (.int l9), some (.int 1), none] [] μ)
            refine v_iload hX dX9_round_196 rfl (?_ : V X 198 [some (.ref 75), some (.int p1), some (.int l9), some (.int l8), some (.int l4), some (.int l5), some (.int l6), some (.int l7), some (.int l8), some (.int l9), some (.int 1), none] [.int l6] μ)
            refine v_istore hX dX9_round_198 (by rw [hn]; decide) (?_ : V X 200 [some (.ref 75), some (.int p1), some (.int l9), some (.int l8), some (.int l6), some (.int l5), some (.int l6), some (.int l7), some (.int l8), some (.int l9), some (.int 1), none] [] μ)
            refine v_iconst hX 0 dX9_round_200 rfl (?_ : V X 201 [some (.ref 75), some (.int p1), some (.int l9), some (.int l8), some (.int l6), some (.int l5), some (.int l6), some (.int l7), some (.int l8), some (.int l9), some (.int 1), none] [.int 0] μ)
            refine v_istore hX dX9_round_201 (by rw [hn]; decide) (?_ : V X 203 [some (.ref 75), some (.int p1), some (.int l9), some (.int l8), some (.int l6), some (.int l5), some (.int l6), some (.int l7), some (.int l8), some (.int l9), some (.int 1), some (.int 0)] [] μ)
            exact v_mask [true, true, true, true, true, true, true, false, false, false, false, true] (hJ203 _ _ _ _ _ _ _ h)
    · replace h := h.2 c2
      refine v_iload hX dX9_round_137 rfl (?_ : V X 139 [some (.ref 75), some (.int p1), some (.int l2), some (.int l3), some (.int l4), some (.int l5), some (.int l6), some (.int l7), some (.int l8), some (.int l9), some (.int l10), none] [.int l6] μ)
      refine v_if_le hX 164 dX9_round_139 rfl (fun c6 => ?_) (fun c6 => ?_)
      · replace h := h.1 c6
        refine v_iconst hX 0 dX9_round_164 rfl (?_ : V X 165 [some (.ref 75), some (.int p1), some (.int l2), some (.int l3), some (.int l4), some (.int l5), some (.int l6), some (.int l7), some (.int l8), some (.int l9), some (.int l10), none] [.int 0] μ)
        refine v_istore hX dX9_round_165 (by rw [hn]; decide) (?_ : V X 167 [some (.ref 75), some (.int p1), some (.int l2), some (.int l3), some (.int l4), some (.int l5), some (.int l6), some (.int l7), some (.int l8), some (.int l9), some (.int 0), none] [] μ)
        refine v_iload hX dX9_round_167 rfl (?_ : V X 169 [some (.ref 75), some (.int p1), some (.int l2), some (.int l3), some (.int l4), some (.int l5), some (.int l6), some (.int l7), some (.int l8), some (.int l9), some (.int 0), none] [.int 0] μ)
        refine v_if_eq hX 230 dX9_round_169 rfl (fun _ => (?_ : V X 230 [some (.ref 75), some (.int p1), some (.int l2), some (.int l3), some (.int l4), some (.int l5), some (.int l6), some (.int l7), some (.int l8), some (.int l9), some (.int 0), none] [] μ)) (fun c1 => absurd c1 (by decide))
        refine v_iinc hX 1 dX9_round_230 (by rw [hn]; decide) rfl rfl (?_ : V X 233 [some (.ref 75), some (.int p1), some (.int l2), some (.int l3), some (.int l4), some (.int (l5 + 1)), some (.int l6), some (.int l7), some (.int l8), some (.int l9), some (.int 0), none] [] μ)
        refine v_goto hX 27 dX9_round_233 rfl (?_ : V X 27 [some (.ref 75), some (.int p1), some (.int l2), some (.int l3), some (.int l4), some (.int (l5 + 1)), some (.int l6), some (.int l7), some (.int l8), some (.int l9), some (.int 0), none] [] μ)
        exact v_mask [true, true, true, true, true, true, false, false, false, false, false, false] (hJ27 _ _ _ _ _ h)
      · replace h := h.2 c6
        refine v_aload_n hX dX9_round_142 rfl (?_ : V X 143 [some (.ref 75), some (.int p1), some (.int l2), some (.int l3), some (.int l4), some (.int l5), some (.int l6), some (.int l7), some (.int l8), some (.int l9), some (.int l10), none] [.ref 75] μ)
        refine v_getr hX (84) fk_X9_34 sh_75 rfl rfl dX9_round_143 (?_ : V X 146 [some (.ref 75), some (.int p1), some (.int l2), some (.int l3), some (.int l4), some (.int l5), some (.int l6), some (.int l7), some (.int l8), some (.int l9), some (.int l10), none] [.ref 84] μ)
        refine v_iconst hX 2 dX9_round_146 rfl (?_ : V X 147 [some (.ref 75), some (.int p1), some (.int l2), some (.int l3), some (.int l4), some (.int l5), some (.int l6), some (.int l7), some (.int l8), some (.int l9), some (.int l10), none] [.int 2, .ref 84] μ)
        refine w_iald hX 2 sh_84 (vp_lit (by decide)) (by decide) dX9_round_147 (?_ : V X 148 [some (.ref 75), some (.int p1), some (.int l2), some (.int l3), some (.int l4), some (.int l5), some (.int l6), some (.int l7), some (.int l8), some (.int l9), some (.int l10), none] [.int (gi μ 84 2)] μ)
        refine v_iload hX dX9_round_148 rfl (?_ : V X 150 [some (.ref 75), some (.int p1), some (.int l2), some (.int l3), some (.int l4), some (.int l5), some (.int l6), some (.int l7), some (.int l8), some (.int l9), some (.int l10), none] [.int l8, .int (gi μ 84 2)] μ)
        refine v_iadd hX dX9_round_150 (?_ : V X 151 [some (.ref 75), some (.int p1), some (.int l2), some (.int l3), some (.int l4), some (.int l5), some (.int l6), some (.int l7), some (.int l8), some (.int l9), some (.int l10), none] [.int ((gi μ 84 2) + l8)] μ)
        refine v_aload_n hX dX9_round_151 rfl (?_ : V X 152 [some (.ref 75), some (.int p1), some (.int l2), some (.int l3), some (.int l4), some (.int l5), some (.int l6), some (.int l7), some (.int l8), some (.int l9), some (.int l10), none] [.ref 75, .int ((gi μ 84 2) + l8)] μ)
        refine v_getr hX (77) fk_X9_13 sh_75 rfl rfl dX9_round_152 (?_ : V X 155 [some (.ref 75), some (.int p1), some (.int l2), some (.int l3), some (.int l4), some (.int l5), some (.int l6), some (.int l7), some (.int l8), some (.int l9), some (.int l10), none] [.ref 77, .int ((gi μ 84 2) + l8)] μ)
        refine v_iconst hX 5 dX9_round_155 rfl (?_ : V X 156 [some (.ref 75), some (.int p1), some (.int l2), some (.int l3), some (.int l4), some (.int l5), some (.int l6), some (.int l7), some (.int l8), some (.int l9), some (.int l10), none] [.int 5, .ref 77, .int ((gi μ 84 2) + l8)] μ)
        refine w_iald hX 5 sh_77 (vp_lit (by decide)) (by decide) dX9_round_156 (?_ : V X 157 [some (.ref 75), some (.int p1), some (.int l2), some (.int l3), some (.int l4), some (.int l5), some (.int l6), some (.int l7), some (.int l8), some (.int l9), some (.int l10), none] [.int (gi μ 77 5), .int ((gi μ 84 2) + l8)] μ)
        refine v_icmp_gt hX 164 dX9_round_157 rfl (fun c7 => ?_) (fun c7 => ?_)
        · replace h := h.1 c7
          refine v_iconst hX 0 dX9_round_164 rfl (?_ : V X 165 [some (.ref 75), some (.int p1), some (.int l2), some (.int l3), some (.int l4), some (.int l5), some (.int l6), some (.int l7), some (.int l8), some (.int l9), some (.int l10), none] [.int 0] μ)
          refine v_istore hX dX9_round_165 (by rw [hn]; decide) (?_ : V X 167 [some (.ref 75), some (.int p1), some (.int l2), some (.int l3), some (.int l4), some (.int l5), some (.int l6), some (.int l7), some (.int l8), some (.int l9), some (.int 0), none] [] μ)
          refine v_iload hX dX9_round_167 rfl (?_ : V X 169 [some (.ref 75), some (.int p1), some (.int l2), some (.int l3), some (.int l4), some (.int l5), some (.int l6), some (.int l7), some (.int l8), some (.int l9), some (.int 0), none] [.int 0] μ)
          refine v_if_eq hX 230 dX9_round_169 rfl (fun _ => (?_ : V X 230 [some (.ref 75), some (.int p1), some (.int l2), some (.int l3), some (.int l4), some (.int l5), some (.int l6), some (.int l7), some (.int l8), some (.int l9), some (.int 0), none] [] μ)) (fun c1 => absurd c1 (by decide))
          refine v_iinc hX 1 dX9_round_230 (by rw [hn]; decide) rfl rfl (?_ : V X 233 [some (.ref 75), some (.int p1), some (.int l2), some (.int l3), some (.int l4), some (.int (l5 + 1)), some (.int l6), some (.int l7), some (.int l8), some (.int l9), some (.int 0), none] [] μ)
          refine v_goto hX 27 dX9_round_233 rfl (?_ : V X 27 [some (.ref 75), some (.int p1), some (.int l2), some (.int l3), some (.int l4), some (.int (l5 + 1)), some (.int l6), some (.int l7), some (.int l8), some (.int l9), some (.int 0), none] [] μ)
          exact v_mask [true, true, true, true, true, true, false, false, false, false, false, false] (hJ27 _ _ _ _ _ h)
        · replace h := h.2 c7
          refine v_iconst hX 1 dX9_round_160 rfl (?_ : V X 161 [some (.ref 75), some (.int p1), some (.int l2), some (.int l3), some (.int l4), some (.int l5), some (.int l6), some (.int l7), some (.int l8), some (.int l9), some (.int l10), none] [.int 1] μ)
          refine v_goto hX 165 dX9_round_161 rfl (?_ : V X 165 [some (.ref 75), some (.int p1), some (.int l2), some (.int l3), some (.int l4), some (.int l5), some (.int l6), some (.int l7), some (.int l8), some (.int l9), some (.int l10), none] [.int 1] μ)
          refine v_istore hX dX9_round_165 (by rw [hn]; decide) (?_ : V X 167 [some (.ref 75), some (.int p1), some (.int l2), some (.int l3), some (.int l4), some (.int l5), some (.int l6), some (.int l7), some (.int l8), some (.int l9), some (.int 1), none] [] μ)
          refine v_iload hX dX9_round_167 rfl (?_ : V X 169 [some (.ref 75), some (.int p1), some (.int l2), some (.int l3), some (.int l4), some (.int l5), some (.int l6), some (.int l7), some (.int l8), some (.int l9), some (.int 1), none] [.int 1] μ)
          refine v_if_eq hX 230 dX9_round_169 rfl (fun c1 => absurd c1 (by decide)) (fun _ => (?_ : V X 172 [some (.ref 75), some (.int p1), some (.int l2), some (.int l3), some (.int l4), some (.int l5), some (.int l6), some (.int l7), some (.int l8), some (.int l9), some (.int 1), none] [] μ))
          refine v_iload hX dX9_round_172 rfl (?_ : V X 174 [some (.ref 75), some (.int p1), some (.int l2), some (.int l3), some (.int l4), some (.int l5), some (.int l6), some (.int l7), some (.int l8), some (.int l9), some (.int 1), none] [.int l9] μ)
          refine v_iload_n hX dX9_round_174 rfl (?_ : V X 175 [some (.ref 75), some (.int p1), some (.int l2), some (.int l3), some (.int l4), some (.int l5), some (.int l6), some (.int l7), some (.int l8), some (.int l9), some (.int 1), none] [.int l2, .int l9] μ)
          refine v_icmp_gt hX 190 dX9_round_175 rfl (fun c8 => ?_) (fun c8 => ?_)
          · replace h := h.1 c8
            refine v_iload hX dX9_round_190 rfl (?_ : V X 192 [some (.ref 75), some (.int p1), some (.int l2), some (.int l3), some (.int l4), some (.int l5), some (.int l6), some (.int l7), some (.int l8), some (.int l9), some (.int 1), none] [.int l9] μ)
            refine v_istore_n hX dX9_round_192 (by rw [hn]; decide) (?_ : V X 193 [some (.ref 75), some (.int p1), some (.int l9), some (.int l3), some (.int l4), some (.int l5), some (.int l6), some (.int l7), some (.int l8), some (.int l9), some (.int 1), none] [] μ)
            refine v_iload hX dX9_round_193 rfl (?_ : V X 195 [some (.ref 75), some (.int p1), some (.int l9), some (.int l3), some (.int l4), some (.int l5), some (.int l6), some (.int l7), some (.int l8), some (.int l9), some (.int 1), none] [.int l8] μ)
            refine v_istore_n hX dX9_round_195 (by rw [hn]; decide) (?_ : V X 196 [some (.ref 75), some (.int p1), some (.int l9), some (.int l8), some (.int l4), some (.int l5), some (.int l6), some (.int l7), some (.int l8), some (.int l9), some (.int 1), none] [] μ)
            refine v_iload hX dX9_round_196 rfl (?_ : V X 198 [some (.ref 75), some (.int p1), some (.int l9), some (.int l8), some (.int l4), some (.int l5), some (.int l6), some (.int l7), some (.int l8), some (.int l9), some (.int 1), none] [.int l6] μ)
            refine v_istore hX dX9_round_198 (by rw [hn]; decide) (?_ : V X 200 [some (.ref 75), some (.int p1), some (.int l9), some (.int l8), some (.int l6), some (.int l5), some (.int l6), some (.int l7), some (.int l8), some (.int l9), some (.int 1), none] [] μ)
            refine v_iconst hX 0 dX9_round_200 rfl (?_ : V X 201 [some (.ref 75), some (.int p1), some (.int l9), some (.int l8), some (.int l6), some (.int l5), some (.int l6), some (.int l7), some (.int l8), some (.int l9), some (.int 1), none] [.int 0] μ)
            refine v_istore hX dX9_round_201 (by rw [hn]; decide) (?_ : V X 203 [some (.ref 75), some (.int p1), some (.int l9), some (.int l8), some (.int l6), some (.int l5), some (.int l6), some (.int l7), some (.int l8), some (.int l9), some (.int 1), some (.int 0)] [] μ)
            exact v_mask [true, true, true, true, true, true, true, false, false, false, false, true] (hJ203 _ _ _ _ _ _ _ h)
          · replace h := h.2 c8
            refine v_iload hX dX9_round_178 rfl (?_ : V X 180 [some (.ref 75), some (.int p1), some (.int l2), some (.int l3), some (.int l4), some (.int l5), some (.int l6), some (.int l7), some (.int l8), some (.int l9), some (.int 1), none] [.int l9] μ)
            refine v_iload_n hX dX9_round_180 rfl (?_ : V X 181 [some (.ref 75), some (.int p1), some (.int l2), some (.int l3), some (.int l4), some (.int l5), some (.int l6), some (.int l7), some (.int l8), some (.int l9), some (.int 1), none] [.int l2, .int l9] μ)
            refine v_icmp_ne hX 230 dX9_round_181 rfl (fun c9 => ?_) (fun c9 => ?_)
            · replace h := h.1 c9
              refine v_iinc hX 1 dX9_round_230 (by rw [hn]; decide) rfl rfl (?_ : V X 233 [some (.ref 75), some (.int p1), some (.int l2), some (.int l3), some (.int l4), some (.int (l5 + 1)), some (.int l6), some (.int l7), some (.int l8), some (.int l9), some (.int 1), none] [] μ)
              refine v_goto hX 27 dX9_round_233 rfl (?_ : V X 27 [some (.ref 75), some (.int p1), some (.int l2), some (.int l3), some (.int l4), some (.int (l5 + 1)), some (.int l6), some (.int l7), some (.int l8), some (.int l9), some (.int 1), none] [] μ)
              exact v_mask [true, true, true, true, true, true, false, false, false, false, false, false] (hJ27 _ _ _ _ _ h)
            · replace h := h.2 c9
              refine v_iload hX dX9_round_184 rfl (?_ : V X 186 [some (.ref 75), some (.int p1), some (.int l2), some (.int l3), some (.int l4), some (.int l5), some (.int l6), some (.int l7), some (.int l8), some (.int l9), some (.int 1), none] [.int l8] μ)
              refine v_iload_n hX dX9_round_186 rfl (?_ : V X 187 [some (.ref 75), some (.int p1), some (.int l2), some (.int l3), some (.int l4), some (.int l5), some (.int l6), some (.int l7), some (.int l8), some (.int l9), some (.int 1), none] [.int l3, .int l8] μ)
              refine v_icmp_ge hX 230 dX9_round_187 rfl (fun c10 => ?_) (fun c10 => ?_)
              · replace h := h.1 c10
                refine v_iinc hX 1 dX9_round_230 (by rw [hn]; decide) rfl rfl (?_ : V X 233 [some (.ref 75), some (.int p1), some (.int l2), some (.int l3), some (.int l4), some (.int (l5 + 1)), some (.int l6), some (.int l7), some (.int l8), some (.int l9), some (.int 1), none] [] μ)
                refine v_goto hX 27 dX9_round_233 rfl (?_ : V X 27 [some (.ref 75), some (.int p1), some (.int l2), some (.int l3), some (.int l4), some (.int (l5 + 1)), some (.int l6), some (.int l7), some (.int l8), some (.int l9), some (.int 1), none] [] μ)
                exact v_mask [true, true, true, true, true, true, false, false, false, false, false, false] (hJ27 _ _ _ _ _ h)
              · replace h := h.2 c10
                refine v_iload hX dX9_round_190 rfl (?_ : V X 192 [some (.ref 75), some (.int p1), some (.int l2), some (.int l3), some (.int l4), some (.int l5), some (.int l6), some (.int l7), some (.int l8), some (.int l9), some (.int 1), none] [.int l9] μ)
                refine v_istore_n hX dX9_round_192 (by rw [hn]; decide) (?_ : V X 193 [some (.ref 75), some (.int p1), some (.int l9), some (.int l3), some (.int l4), some (.int l5), some (.int l6), some (.int l7), some (.int l8), some (.int l9), some (.int 1), none] [] μ)
                refine v_iload hX dX9_round_193 rfl (?_ : V X 195 [some (.ref 75), some (.int p1), some (.int l9), some (.int l3), some (.int l4), some (.int l5), some (.int l6), some (.int l7), some (.int l8), some (.int l9), some (.int 1), none] [.int l8] μ)
                refine v_istore_n hX dX9_round_195 (by rw [hn]; decide) (?_ : V X 196 [some (.ref 75), some (.int p1), some (.int l9), some (.int l8), some (.int l4), some (.int l5), some (.int l6), some (.int l7), some (.int l8), some (.int l9), some (.int 1), none] [] μ)
                refine v_iload hX dX9_round_196 rfl (?_ : V X 198 [some (.ref 75), some (.int p1), some (.int l9), some (.int l8), some (.int l4), some (.int l5), some (.int l6), some (.int l7), some (.int l8), some (.int l9), some (.int 1), none] [.int l6] μ)
                refine v_istore hX dX9_round_198 (by rw [hn]; decide) (?_ : V X 200 [some (.ref 75), some (.int p1), some (.int l9), some (.int l8), some (.int l6), some (.int l5), some (.int l6), some (.int l7), some (.int l8), some (.int l9), some (.int 1), none] [] μ)
                refine v_iconst hX 0 dX9_round_200 rfl (?_ : V X 201 [some (.ref 75), some (.int p1), some (.int l9), some (.int l8), some (.int l6), some (.int l5), some (.int l6), some (.int l7), some (.int l8), some (.int l9), some (.int 1), none] [.int 0] μ)
                refine v_istore hX dX9_round_201 (by rw [hn]; decide) (?_ : V X 203 [some (.ref 75), some (.int p1), some (.int l9), some (.int l8), some (.int l6), some (.int l5), some (.int l6), some (.int l7), some (.int l8), some (.int l9), some (.int 1), some (.int 0)] [] μ)
                exact v_mask [true, true, true, true, true, true, true, false, false, false, false, true] (hJ203 _ _ _ _ _ _ _ h)
  · replace h := h.2 c1
    refine v_iload hX dX9_round_67 rfl (?_ : V X 69 [some (.ref 75), some (.int p1), some (.int l2), some (.int l3), some (.int l4), some (.int l5), some (.int l6), some (.int l7), some (.int l8), some (.int l9), some (.int l10), none] [.int l8] μ)
    refine v_aload_n hX dX9_round_69 rfl (?_ : V X 70 [some (.ref 75), some (.int p1), some (.int l2), some (.int l3), some (.int l4), some (.int l5), some (.int l6), some (.int l7), some (.int l8), some (.int l9), some (.int l10), none] [.ref 75, .int l8] μ)
    refine v_iload hX dX9_round_70 rfl (?_ : V X 72 [some (.ref 75), some (.int p1), some (.int l2), some (.int l3), some (.int l4), some (.int l5), some (.int l6), some (.int l7), some (.int l8), some (.int l9), some (.int l10), none] [.int l7, .ref 75, .int l8] μ)
    refine v_aload_n hX dX9_round_72 rfl (?_ : V X 73 [some (.ref 75), some (.int p1), some (.int l2), some (.int l3), some (.int l4), some (.int l5), some (.int l6), some (.int l7), some (.int l8), some (.int l9), some (.int l10), none] [.ref 75, .int l7, .ref 75, .int l8] μ)
    refine v_getr hX (92) fk_X9_59 sh_75 rfl rfl dX9_round_73 (?_ : V X 76 [some (.ref 75), some (.int p1), some (.int l2), some (.int l3), some (.int l4), some (.int l5), some (.int l6), some (.int l7), some (.int l8), some (.int l9), some (.int l10), none] [.ref 92, .int l7, .ref 75, .int l8] μ)
    refine v_iload hX dX9_round_76 rfl (?_ : V X 78 [some (.ref 75), some (.int p1), some (.int l2), some (.int l3), some (.int l4), some (.int l5), some (.int l6), some (.int l7), some (.int l8), some (.int l9), some (.int l10), none] [.int l10, .ref 92, .int l7, .ref 75, .int l8] μ)
    have hb11 := h.1
    replace h := h.2
    refine w_iald hX (Int32.toNatClampNeg l10) sh_92 hb11 rfl dX9_round_78 (?_ : V X 79 [some (.ref 75), some (.int p1), some (.int l2), some (.int l3), some (.int l4), some (.int l5), some (.int l6), some (.int l7), some (.int l8), some (.int l9), some (.int l10), none] [.int (gi μ 92 (Int32.toNatClampNeg l10)), .int l7, .ref 75, .int l8] μ)
    refine v_callV hX sp_X9_walk ck_X9_walk mk_X9_159 mv_X9_walk sh_75 (by decide) (by decide) [.int l7, .int (gi μ 92 (Int32.toNatClampNeg l10))] [.int l8] rfl rfl (Nat.le_of_ble_eq_true rfl) dX9_round_79 ⟨l7, (gi μ 92 (Int32.toNatClampNeg l10)), rfl, h.1, fun x12 μ13 hp14 => (?_ : V X 82 [some (.ref 75), some (.int p1), some (.int l2), some (.int l3), some (.int l4), some (.int l5), some (.int l6), some (.int l7), some (.int l8), some (.int l9), some (.int l10), none] [.int x12, .int l8] μ13)⟩
    replace h := h.2 x12 μ13 hp14
    refine v_aload_n hX dX9_round_82 rfl (?_ : V X 83 [some (.ref 75), some (.int p1), some (.int l2), some (.int l3), some (.int l4), some (.int l5), some (.int l6), some (.int l7), some (.int l8), some (.int l9), some (.int l10), none] [.ref 75, .int x12, .int l8] μ13)
    refine v_getr hX (91) fk_X9_56 sh_75 rfl rfl dX9_round_83 (?_ : V X 86 [some (.ref 75), some (.int p1), some (.int l2), some (.int l3), some (.int l4), some (.int l5), some (.int l6), some (.int l7), some (.int l8), some (.int l9), some (.int l10), none] [.ref 91, .int x12, .int l8] μ13)
    refine v_aload_n hX dX9_round_86 rfl (?_ : V X 87 [some (.ref 75), some (.int p1), some (.int l2), some (.int l3), some (.int l4), some (.int l5), some (.int l6), some (.int l7), some (.int l8), some (.int l9), some (.int l10), none] [.ref 75, .ref 91, .int x12, .int l8] μ13)
    refine v_getr hX (92) fk_X9_59 sh_75 rfl rfl dX9_round_87 (?_ : V X 90 [some (.ref 75), some (.int p1), some (.int l2), some (.int l3), some (.int l4), some (.int l5), some (.int l6), some (.int l7), some (.int l8), some (.int l9), some (.int l10), none] [.ref 92, .ref 91, .int x12, .int l8] μ13)
    refine v_iload hX dX9_round_90 rfl (?_ : V X 92 [some (.ref 75), some (.int p1), some (.int l2), some (.int l3), some (.int l4), some (.int l5), some (.int l6), some (.int l7), some (.int l8), some (.int l9), some (.int l10), none] [.int l10, .ref 92, .ref 91, .int x12, .int l8] μ13)
    have hb15 := h.1
    replace h := h.2
    refine w_iald hX (Int32.toNatClampNeg l10) sh_92 hb15 rfl dX9_round_92 (?_ : V X 93 [some (.ref 75), some (.int p1), some (.int l2), some (.int l3), some (.int l4), some (.int l5), some (.int l6), some (.int l7), some (.int l8), some (.int l9), some (.int l10), none] [.int (gi μ13 92 (Int32.toNatClampNeg l10)), .ref 91, .int x12, .int l8] μ13)
    have hb16 := h.1
    replace h := h.2
    refine w_iald hX (Int32.toNatClampNeg (gi μ13 92 (Int32.toNatClampNeg l10))) sh_91 hb16 rfl dX9_round_93 (?_ : V X 94 [some (.ref 75), some (.int p1), some (.int l2), some (.int l3), some (.int l4), some (.int l5), some (.int l6), some (.int l7), some (.int l8), some (.int l9), some (.int l10), none] [.int (gi μ13 91 (Int32.toNatClampNeg (gi μ13 92 (Int32.toNatClampNeg l10)))), .int x12, .int l8] μ13)
    refine v_iadd hX dX9_round_94 (?_ : V X 95 [some (.ref 75), some (.int p1), some (.int l2), some (.int l3), some (.int l4), some (.int l5), some (.int l6), some (.int l7), some (.int l8), some (.int l9), some (.int l10), none] [.int (x12 + (gi μ13 91 (Int32.toNatClampNeg (gi μ13 92 (Int32.toNatClampNeg l10))))), .int l8] μ13)
    refine v_iadd hX dX9_round_95 (?_ : V X 96 [some (.ref 75), some (.int p1), some (.int l2), some (.int l3), some (.int l4), some (.int l5), some (.int l6), some (.int l7), some (.int l8), some (.int l9), some (.int l10), none] [.int (l8 + (x12 + (gi μ13 91 (Int32.toNatClampNeg (gi μ13 92 (Int32.toNatClampNeg l10))))))] μ13)
    refine w_istore hX dX9_round_96 (by rw [hn]; decide) (fun y17 e18 => (?_ : V X 98 [some (.ref 75), some (.int p1), some (.int l2), some (.int l3), some (.int l4), some (.int l5), some (.int l6), some (.int l7), some (.int y17), some (.int l9), some (.int l10), none] [] μ13))
    replace h := h y17 e18
    refine v_iload hX dX9_round_98 rfl (?_ : V X 100 [some (.ref 75), some (.int p1), some (.int l2), some (.int l3), some (.int l4), some (.int l5), some (.int l6), some (.int l7), some (.int y17), some (.int l9), some (.int l10), none] [.int l9] μ13)
    refine v_aload_n hX dX9_round_100 rfl (?_ : V X 101 [some (.ref 75), some (.int p1), some (.int l2), some (.int l3), some (.int l4), some (.int l5), some (.int l6), some (.int l7), some (.int y17), some (.int l9), some (.int l10), none] [.ref 75, .int l9] μ13)
    refine v_getr hX (80) fk_X9_22 sh_75 rfl rfl dX9_round_101 (?_ : V X 104 [some (.ref 75), some (.int p1), some (.int l2), some (.int l3), some (.int l4), some (.int l5), some (.int l6), some (.int l7), some (.int y17), some (.int l9), some (.int l10), none] [.ref 80, .int l9] μ13)
    refine v_aload_n hX dX9_round_104 rfl (?_ : V X 105 [some (.ref 75), some (.int p1), some (.int l2), some (.int l3), some (.int l4), some (.int l5), some (.int l6), some (.int l7), some (.int y17), some (.int l9), some (.int l10), none] [.ref 75, .ref 80, .int l9] μ13)
    refine v_getr hX (92) fk_X9_59 sh_75 rfl rfl dX9_round_105 (?_ : V X 108 [some (.ref 75), some (.int p1), some (.int l2), some (.int l3), some (.int l4), some (.int l5), some (.int l6), some (.int l7), some (.int y17), some (.int l9), some (.int l10), none] [.ref 92, .ref 80, .int l9] μ13)
    refine v_iload hX dX9_round_108 rfl (?_ : V X 110 [some (.ref 75), some (.int p1), some (.int l2), some (.int l3), some (.int l4), some (.int l5), some (.int l6), some (.int l7), some (.int y17), some (.int l9), some (.int l10), none] [.int l10, .ref 92, .ref 80, .int l9] μ13)
    have hb19 := h.1
    replace h := h.2
    refine w_iald hX (Int32.toNatClampNeg l10) sh_92 hb19 rfl dX9_round_110 (?_ : V X 111 [some (.ref 75), some (.int p1), some (.int l2), some (.int l3), some (.int l4), some (.int l5), some (.int l6), some (.int l7), some (.int y17), some (.int l9), some (.int l10), none] [.int (gi μ13 92 (Int32.toNatClampNeg l10)), .ref 80, .int l9] μ13)
    have hb20 := h.1
    replace h := h.2
    refine w_iald hX (Int32.toNatClampNeg (gi μ13 92 (Int32.toNatClampNeg l10))) sh_80 hb20 rfl dX9_round_111 (?_ : V X 112 [some (.ref 75), some (.int p1), some (.int l2), some (.int l3), some (.int l4), some (.int l5), some (.int l6), some (.int l7), some (.int y17), some (.int l9), some (.int l10), none] [.int (gi μ13 80 (Int32.toNatClampNeg (gi μ13 92 (Int32.toNatClampNeg l10)))), .int l9] μ13)
    refine v_iadd hX dX9_round_112 (?_ : V X 113 [some (.ref 75), some (.int p1), some (.int l2), some (.int l3), some (.int l4), some (.int l5), some (.int l6), some (.int l7), some (.int y17), some (.int l9), some (.int l10), none] [.int (l9 + (gi μ13 80 (Int32.toNatClampNeg (gi μ13 92 (Int32.toNatClampNeg l10)))))] μ13)
    refine w_istore hX dX9_round_113 (by rw [hn]; decide) (fun y21 e22 => (?_ : V X 115 [some (.ref 75), some (.int p1), some (.int l2), some (.int l3), some (.int l4), some (.int l5), some (.int l6), some (.int l7), some (.int y17), some (.int y21), some (.int l10), none] [] μ13))
    replace h := h y21 e22
    refine v_aload_n hX dX9_round_115 rfl (?_ : V X 116 [some (.ref 75), some (.int p1), some (.int l2), some (.int l3), some (.int l4), some (.int l5), some (.int l6), some (.int l7), some (.int y17), some (.int y21), some (.int l10), none] [.ref 75] μ13)
    refine v_getr hX (92) fk_X9_59 sh_75 rfl rfl dX9_round_116 (?_ : V X 119 [some (.ref 75), some (.int p1), some (.int l2), some (.int l3), some (.int l4), some (.int l5), some (.int l6), some (.int l7), some (.int y17), some (.int y21), some (.int l10), none] [.ref 92] μ13)
    refine v_iload hX dX9_round_119 rfl (?_ : V X 121 [some (.ref 75), some (.int p1), some (.int l2), some (.int l3), some (.int l4), some (.int l5), some (.int l6), some (.int l7), some (.int y17), some (.int y21), some (.int l10), none] [.int l10, .ref 92] μ13)
    have hb23 := h.1
    replace h := h.2
    refine w_iald hX (Int32.toNatClampNeg l10) sh_92 hb23 rfl dX9_round_121 (?_ : V X 122 [some (.ref 75), some (.int p1), some (.int l2), some (.int l3), some (.int l4), some (.int l5), some (.int l6), some (.int l7), some (.int y17), some (.int y21), some (.int l10), none] [.int (gi μ13 92 (Int32.toNatClampNeg l10))] μ13)
    refine v_iconst hX 1 dX9_round_122 rfl (?_ : V X 123 [some (.ref 75), some (.int p1), some (.int l2), some (.int l3), some (.int l4), some (.int l5), some (.int l6), some (.int l7), some (.int y17), some (.int y21), some (.int l10), none] [.int 1, .int (gi μ13 92 (Int32.toNatClampNeg l10))] μ13)
    refine v_iadd hX dX9_round_123 (?_ : V X 124 [some (.ref 75), some (.int p1), some (.int l2), some (.int l3), some (.int l4), some (.int l5), some (.int l6), some (.int l7), some (.int y17), some (.int y21), some (.int l10), none] [.int ((gi μ13 92 (Int32.toNatClampNeg l10)) + 1)] μ13)
    refine w_istore hX dX9_round_124 (by rw [hn]; decide) (fun y24 e25 => (?_ : V X 126 [some (.ref 75), some (.int p1), some (.int l2), some (.int l3), some (.int l4), some (.int l5), some (.int l6), some (.int y24), some (.int y17), some (.int y21), some (.int l10), none] [] μ13))
    replace h := h y24 e25
    refine v_iinc hX 1 dX9_round_126 (by rw [hn]; decide) rfl rfl (?_ : V X 129 [some (.ref 75), some (.int p1), some (.int l2), some (.int l3), some (.int l4), some (.int l5), some (.int l6), some (.int y24), some (.int y17), some (.int y21), some (.int (l10 + 1)), none] [] μ13)
    refine v_goto hX 60 dX9_round_129 rfl (?_ : V X 60 [some (.ref 75), some (.int p1), some (.int l2), some (.int l3), some (.int l4), some (.int l5), some (.int l6), some (.int y24), some (.int y17), some (.int y21), some (.int (l10 + 1)), none] [] μ13)
    exact v_mask [true, true, true, true, true, true, true, true, true, true, true, false] (hJ60 _ _ _ _ _ _ _ _ _ _ h)
def vc_X9_round_203 (p1 : Int32) (l2 : Int32) (l3 : Int32) (l4 : Int32) (l5 : Int32) (l6 : Int32) (l11 : Int32) (μ : Mem) (R : Int32 → Mem → Prop) (J27 : Int32 → Int32 → Int32 → Int32 → Mem → Prop) (J60 : Int32 → Int32 → Int32 → Int32 → Int32 → Int32 → Int32 → Int32 → Int32 → Mem → Prop) (J203 : Int32 → Int32 → Int32 → Int32 → Int32 → Int32 → Mem → Prop) : Prop :=
  ((l6 ≤ l11 → J27 l2 l3 l4 (l5 + 1) μ) ∧ (¬ l6 ≤ l11 → vp_in l11 5 ∧ vp_in l11 5 ∧ (∀ μ4, μ4 = ui μ 93 (Int32.toNatClampNeg l11) (gi μ 92 (Int32.toNatClampNeg l11)) → J203 l2 l3 l4 l5 l6 (l11 + 1) μ4)))
set_option maxRecDepth 20000 in
set_option maxHeartbeats 4000000 in
theorem wk_X9_round_203 {X : XT} {P : Post} (hO : OkM X cX9_round RX9 5 (some .int) P) (hn : xn X = 12) (p1 : Int32)  (l2 : Int32) (l3 : Int32) (l4 : Int32) (l5 : Int32) (l6 : Int32) (l11 : Int32) (μ : Mem) {R : Int32 → Mem → Prop} (hR : ∀ x m, R x m → P (some (.int x)) m) {J27 : Int32 → Int32 → Int32 → Int32 → Mem → Prop} {J60 : Int32 → Int32 → Int32 → Int32 → Int32 → Int32 → Int32 → Int32 → Int32 → Mem → Prop} {J203 : Int32 → Int32 → Int32 → Int32 → Int32 → Int32 → Mem → Prop} (hJ27 : ∀ (l2 : Int32) (l3 : Int32) (l4 : Int32) (l5 : Int32) (m : Mem), J27 l2 l3 l4 l5 m → V X 27 [some (.ref 75), some (.int p1), some (.int l2), some (.int l3), some (.int l4), some (.int l5), none, none, none, none, none, none] [] m) (hJ60 : ∀ (l2 : Int32) (l3 : Int32) (l4 : Int32) (l5 : Int32) (l6 : Int32) (l7 : Int32) (l8 : Int32) (l9 : Int32) (l10 : Int32) (m : Mem), J60 l2 l3 l4 l5 l6 l7 l8 l9 l10 m → V X 60 [some (.ref 75), some (.int p1), some (.int l2), some (.int l3), some (.int l4), some (.int l5), some (.int l6), some (.int l7), some (.int l8), some (.int l9), some (.int l10), none] [] m) (hJ203 : ∀ (l2 : Int32) (l3 : Int32) (l4 : Int32) (l5 : Int32) (l6 : Int32) (l11 : Int32) (m : Mem), J203 l2 l3 l4 l5 l6 l11 m → V X 203 [some (.ref 75), some (.int p1), some (.int l2), some (.int l3), some (.int l4), some (.int l5), some (.int l6), none, none, none, none, some (.int l11)] [] m)  (h : vc_X9_round_203 p1 l2 l3 l4 l5 l6 l11 μ R J27 J60 J203) : V X 203 [some (.ref 75), some (.int p1), some (.int l2), some (.int l3), some (.int l4), some (.int l5), some (.int l6), none, none, none, none, some (.int l11)] [] μ := by
  have hX := hO.1
  unfold vc_X9_round_203 at h
  refine v_iload hX dX9_round_203 rfl (?_ : V X 205 [some (.ref 75), some (.int p1), some (.int l2), some (.int l3), some (.int l4), some (.int l5), some (.int l6), none, none, none, none, some (.int l11)] [.int l11] μ)
  refine v_iload hX dX9_round_205 rfl (?_ : V X 207 [some (.ref 75), some (.int p1), some (.int l2), some (.int l3), some (.int l4), some (.int l5), some (.int l6), none, none, none, none, some (.int l11)] [.int l6, .int l11] μ)
  refine v_icmp_ge hX 230 dX9_round_207 rfl (fun c1 => ?_) (fun c1 => ?_)
  · replace h := h.1 c1
    refine v_iinc hX 1 dX9_round_230 (by rw [hn]; decide) rfl rfl (?_ : V X 233 [some (.ref 75), some (.int p1), some (.int l2), some (.int l3), some (.int l4), some (.int (l5 + 1)), some (.int l6), none, none, none, none, some (.int l11)] [] μ)
    refine v_goto hX 27 dX9_round_233 rfl (?_ : V X 27 [some (.ref 75), some (.int p1), some (.int l2), some (.int l3), some (.int l4), some (.int (l5 + 1)), some (.int l6), none, none, none, none, some (.int l11)] [] μ)
    exact v_mask [true, true, true, true, true, true, false, false, false, false, false, false] (hJ27 _ _ _ _ _ h)
  · replace h := h.2 c1
    refine v_aload_n hX dX9_round_210 rfl (?_ : V X 211 [some (.ref 75), some (.int p1), some (.int l2), some (.int l3), some (.int l4), some (.int l5), some (.int l6), none, none, none, none, some (.int l11)] [.ref 75] μ)
    refine v_getr hX (93) fk_X9_62 sh_75 rfl rfl dX9_round_211 (?_ : V X 214 [some (.ref 75), some (.int p1), some (.int l2), some (.int l3), some (.int l4), some (.int l5), some (.int l6), none, none, none, none, some (.int l11)] [.ref 93] μ)
    refine v_iload hX dX9_round_214 rfl (?_ : V X 216 [some (.ref 75), some (.int p1), some (.int l2), some (.int l3), some (.int l4), some (.int l5), some (.int l6), none, none, none, none, some (.int l11)] [.int l11, .ref 93] μ)
    refine v_aload_n hX dX9_round_216 rfl (?_ : V X 217 [some (.ref 75), some (.int p1), some (.int l2), some (.int l3), some (.int l4), some (.int l5), some (.int l6), none, none, none, none, some (.int l11)] [.ref 75, .int l11, .ref 93] μ)
    refine v_getr hX (92) fk_X9_59 sh_75 rfl rfl dX9_round_217 (?_ : V X 220 [some (.ref 75), some (.int p1), some (.int l2), some (.int l3), some (.int l4), some (.int l5), some (.int l6), none, none, none, none, some (.int l11)] [.ref 92, .int l11, .ref 93] μ)
    refine v_iload hX dX9_round_220 rfl (?_ : V X 222 [some (.ref 75), some (.int p1), some (.int l2), some (.int l3), some (.int l4), some (.int l5), some (.int l6), none, none, none, none, some (.int l11)] [.int l11, .ref 92, .int l11, .ref 93] μ)
    have hb2 := h.1
    replace h := h.2
    refine w_iald hX (Int32.toNatClampNeg l11) sh_92 hb2 rfl dX9_round_222 (?_ : V X 223 [some (.ref 75), some (.int p1), some (.int l2), some (.int l3), some (.int l4), some (.int l5), some (.int l6), none, none, none, none, some (.int l11)] [.int (gi μ 92 (Int32.toNatClampNeg l11)), .int l11, .ref 93] μ)
    have hb3 := h.1
    replace h := h.2
    refine w_iast hX (Int32.toNatClampNeg l11) sh_93 hb3 rfl dX9_round_223 (fun μ4 e5 => (?_ : V X 224 [some (.ref 75), some (.int p1), some (.int l2), some (.int l3), some (.int l4), some (.int l5), some (.int l6), none, none, none, none, some (.int l11)] [] μ4))
    replace h := h μ4 e5
    refine v_iinc hX 1 dX9_round_224 (by rw [hn]; decide) rfl rfl (?_ : V X 227 [some (.ref 75), some (.int p1), some (.int l2), some (.int l3), some (.int l4), some (.int l5), some (.int l6), none, none, none, none, some (.int (l11 + 1))] [] μ4)
    refine v_goto hX 203 dX9_round_227 rfl (?_ : V X 203 [some (.ref 75), some (.int p1), some (.int l2), some (.int l3), some (.int l4), some (.int l5), some (.int l6), none, none, none, none, some (.int (l11 + 1))] [] μ4)
    exact v_mask [true, true, true, true, true, true, true, false, false, false, false, true] (hJ203 _ _ _ _ _ _ _ h)
set_option maxRecDepth 20000 in
set_option maxHeartbeats 1000000 in
theorem vp_X9_round_0 (p1 : Int32)  (μ : Mem) (hpre : pre_X9_round p1 μ) : vc_X9_round_0 p1 μ (post_X9_round p1 μ) (fun l2 l3 l4 l5 m => ∃ k : Nat, inv_X9_round_27 p1 μ k l2 l3 l4 l5 m) (fun l2 l3 l4 l5 l6 l7 l8 l9 l10 m => ∃ k : Nat, inv_X9_round_60 p1 μ k l2 l3 l4 l5 l6 l7 l8 l9 l10 m) (fun l2 l3 l4 l5 l6 l11 m => ∃ k : Nat, inv_X9_round_203 p1 μ k l2 l3 l4 l5 l6 l11 m) := by
  unfold vc_X9_round_0
  have hp := hpre
  obtain ⟨hS, a4, a5, b2, b1⟩ := hpre
  rintro m1 rfl
  have f1 : fr [75] μ (ui μ 75 0 0) := fr_ui (by simp)
  have f75' : f75 μ (ui μ 75 0 0) := fun k hk => by rw [gi_ui, if_neg (by simp [hk])]
  refine ⟨fun c => ⟨hS, ?_⟩, fun c => ⟨fr_mono f1 (by simp), f75', fun _ => rfl, fun z => absurd z c⟩⟩
  rintro m5 ⟨gf, gv⟩
  refine ⟨_, ⟨c, fr_trans (fr_mono f1 (by simp)) (fr_mono gf (by simp)), fun k hk => by rw [gf.1 75 (by simp)]; exact f75' k hk, gv⟩, 0, by omega, rfl, rfl, Or.inl ⟨rfl, rfl⟩⟩
set_option maxRecDepth 20000 in
set_option maxHeartbeats 1000000 in
theorem vp_X9_round_27 (p1 : Int32)  (μ : Mem) (hpre : pre_X9_round p1 μ) (n : Nat) (l2 : Int32) (l3 : Int32) (l4 : Int32) (l5 : Int32) (μ0 : Mem) (hi : inv_X9_round_27 p1 μ n l2 l3 l4 l5 μ0) : vc_X9_round_27 p1 l2 l3 l4 l5 μ0 (post_X9_round p1 μ) (fun l2 l3 l4 l5 m => ∃ k : Nat, k < n ∧ inv_X9_round_27 p1 μ k l2 l3 l4 l5 m) (fun l2 l3 l4 l5 l6 l7 l8 l9 l10 m => ∃ k : Nat, k < n ∧ inv_X9_round_60 p1 μ k l2 l3 l4 l5 l6 l7 l8 l9 l10 m) (fun l2 l3 l4 l5 l6 l11 m => ∃ k : Nat, k < n ∧ inv_X9_round_203 p1 μ k l2 l3 l4 l5 l6 l11 m) := by
  unfold vc_X9_round_27
  have hp := hpre
  obtain ⟨hS, a4, a5, b2, b1⟩ := hpre
  obtain ⟨hR, c, hc, rfl, rfl, hst⟩ := hi
  have hR0 := hR
  obtain ⟨c1, hf, h75, hv⟩ := hR
  rw [show (7776 : Int32) = nI 7776 from rfl, nI_leI (by omega) (by omega)]
  refine ⟨fun q => ?_, fun q => ⟨⟨by rw [nI_clamp (by omega)], by rw [nI_clamp (by omega)]; omega, isN_fr hf (by simp) hS.1⟩, ?_⟩⟩
  · have : c = 7776 := by omega
    subst this
    rcases hst with ⟨z, _⟩ | ⟨_, b, hb, d2, d3, d1, d4⟩
    · omega
    · have h5 := cnt_le b 5
      have fin : ∀ x, x = rndA (gn μ 77 4) (P0M μ) (moV 100000000 (gi μ0 91)) (gi μ 80) b p1 → post_X9_round p1 μ x μ0 := fun x hx => ⟨hf, h75, fun z => absurd c1 z, fun _ => ⟨gi μ0 91, hv, b, hb, hx⟩⟩
      refine ⟨fun q => ⟨fun q2 => ⟨fun q3 => fin _ ?_, fun q3 => ⟨?_, fin _ ?_⟩⟩, fun q2 => fin _ ?_⟩, fun q => fin _ ?_⟩
      · unfold rndA; rw [d1] at q3; rw [if_neg q2, if_neg q, if_pos q3]
      rotate_left 2
      · unfold rndA; rw [if_pos q2, d3]; rfl
      · unfold rndA; rw [if_neg (by rw [q]; decide), if_pos q, d2]
      all_goals
        have p0 : 0 ≤ p1 := by
          rw [i_le] at c1 ⊢
          rw [show (-2 : Int32).toInt = -2 from rfl] at c1
          rw [show (0 : Int32).toInt = 0 from rfl]
          have n2 : p1.toInt ≠ -2 := fun h => q2 (Int32.toInt_inj.mp (by rw [h]; rfl))
          have n1 : p1.toInt ≠ -1 := fun h => q (Int32.toInt_inj.mp (by rw [h]; rfl))
          omega
        obtain ⟨e, he⟩ := nn_of p0
        rw [d1] at q3
        have q3' := q3
        rw [e, nI_leI (by omega) he] at q3'
      · rw [e]; exact vp_in_nI (by omega) (by omega)
      · unfold rndA; rw [if_neg q2, if_neg q, if_neg q3]; exact d4 _ (by omega)
  · rintro x6 m7 ⟨rf, hx⟩
    rw [nI_clamp (by omega)] at hx
    obtain ⟨hR7, e91⟩ := RN_75 hR0 (fr_mono rf (by simp))
    have h77 : gn μ0 77 0 = gn μ 77 0 := gn_fr hf (by simp) 0
    have emo : moG μ0 = moV 100000000 (gi m7 91) := by rw [e91]; rfl
    rw [h77, emo] at hx
    refine ⟨_, ?_, hR7, c, 0, by omega, by omega, rfl, rfl, rfl, ?_, ?_⟩
    · omega
    · rcases hst with z | ⟨z, b, hb, d2, d3, d1, d4⟩
      · exact Or.inl z
      · exact Or.inr ⟨z, b, by rw [e91]; exact hb, d2, by rw [e91]; exact d3, d1, fun j hj => by rw [rf.1 93 (by simp)]; exact d4 j hj⟩
    · rcases hx with ⟨x1, x2, x3⟩ | ⟨x1, x2⟩
      · right
        refine ⟨x1, x2, Nat.zero_le _, x3, ?_, rfl, Nat.zero_le _, rfl⟩
        rw [if_pos rfl, hR7.2.1.1 84 (by simp)]; exact b1.1
      · left; exact ⟨x1, x2, rfl⟩
set_option maxRecDepth 20000 in
set_option maxHeartbeats 1000000 in
theorem vp_X9_round_203 (p1 : Int32)  (μ : Mem) (hpre : pre_X9_round p1 μ) (n : Nat) (l2 : Int32) (l3 : Int32) (l4 : Int32) (l5 : Int32) (l6 : Int32) (l11 : Int32) (μ0 : Mem) (hi : inv_X9_round_203 p1 μ n l2 l3 l4 l5 l6 l11 μ0) : vc_X9_round_203 p1 l2 l3 l4 l5 l6 l11 μ0 (post_X9_round p1 μ) (fun l2 l3 l4 l5 m => ∃ k : Nat, k < n ∧ inv_X9_round_27 p1 μ k l2 l3 l4 l5 m) (fun l2 l3 l4 l5 l6 l7 l8 l9 l10 m => ∃ k : Nat, k < n ∧ inv_X9_round_60 p1 μ k l2 l3 l4 l5 l6 l7 l8 l9 l10 m) (fun l2 l3 l4 l5 l6 l11 m => ∃ k : Nat, k < n ∧ inv_X9_round_203 p1 μ k l2 l3 l4 l5 l6 l11 m) := by
  unfold vc_X9_round_203
  obtain ⟨hR, c, i, hc, hi1, rfl, rfl, rfl, rfl, hrow, hb, rfl, rfl, rfl, h93⟩ := hi
  have h5 := cnt_le c 5
  rw [nI_leI (by omega) (by omega), nI_clamp (by omega)]
  refine ⟨fun q => ⟨_, ?_, hR, c + 1, by omega, rfl, nI_1 c, Or.inr ⟨by omega, c, by simpa using hb, rfl, rfl, rfl, fun j hj => h93 j (by omega)⟩⟩, fun q => ⟨vp_in_nI (by omega) (by omega), vp_in_nI (by omega) (by omega), ?_⟩⟩
  · omega
  · rintro m4 rfl
    obtain ⟨hR', e91⟩ := RN_75 hR (fr_ui (c := 93) (k := i) (v := gi μ0 92 i) (by simp))
    refine ⟨_, ?_, hR', c, i + 1, hc, by omega, rfl, rfl, nI_1 i, rfl, fun j hj => ?_, hb, rfl, rfl, rfl, fun j hj => ?_⟩
    · omega
    · exact hrow j hj
    · rw [gi_ui]
      by_cases z : j = i
      · rw [if_pos ⟨rfl, z⟩, z]; exact hrow i (by omega)
      · rw [if_neg (fun y => z y.2)]; exact h93 j (by omega)
set_option maxRecDepth 20000 in
set_option maxHeartbeats 1000000 in
theorem vp_X9_round_60 (p1 : Int32)  (μ : Mem) (hpre : pre_X9_round p1 μ) (n : Nat) (l2 : Int32) (l3 : Int32) (l4 : Int32) (l5 : Int32) (l6 : Int32) (l7 : Int32) (l8 : Int32) (l9 : Int32) (l10 : Int32) (μ0 : Mem) (hi : inv_X9_round_60 p1 μ n l2 l3 l4 l5 l6 l7 l8 l9 l10 μ0) : vc_X9_round_60 p1 l2 l3 l4 l5 l6 l7 l8 l9 l10 μ0 (post_X9_round p1 μ) (fun l2 l3 l4 l5 m => ∃ k : Nat, k < n ∧ inv_X9_round_27 p1 μ k l2 l3 l4 l5 m) (fun l2 l3 l4 l5 l6 l7 l8 l9 l10 m => ∃ k : Nat, k < n ∧ inv_X9_round_60 p1 μ k l2 l3 l4 l5 l6 l7 l8 l9 l10 m) (fun l2 l3 l4 l5 l6 l11 m => ∃ k : Nat, k < n ∧ inv_X9_round_203 p1 μ k l2 l3 l4 l5 l6 l11 m) := by
  unfold vc_X9_round_60
  obtain ⟨hS, a4, a5, b2, b1⟩ := hpre
  obtain ⟨hR, c, i, hc, hi5, rfl, rfl, rfl, hst, hcase⟩ := hi
  have hR0 := hR
  obtain ⟨c1, hf, h75, hv⟩ := hR
  have h5 := cnt_le c 5
  have hb5 := hS.1.2
  have hN := a5.2
  have ht0 := b2.2
  have skip : (0 < c) → (∀ b, bstM μ (gi μ0 91) (c - 1) b → l2 = woN (gi μ 80) b (cntN b 5) → l3 = nI (tmM μ (gi μ0 91) b (cntN b 5)) → accN (gn μ 77 0) (moV 100000000 (gi μ0 91)) (gn μ 77 4) (P0M μ) (gn μ 84 2) (gn μ 77 5) c → ¬ betN (moV 100000000 (gi μ0 91)) (gn μ 77 4) (P0M μ) (gi μ 80) c b) → ∃ k, k < (7775 - c) * 100 + 90 - i ∧ inv_X9_round_27 p1 μ k l2 l3 l4 (nI c + 1) μ0 := by
    intro h0 hno
    refine ⟨(7776 - (c + 1)) * 100, by omega, hR0, c + 1, by omega, rfl, nI_1 c, Or.inr ⟨by omega, ?_⟩⟩
    rcases hst with z | ⟨_, b, hb, d2, d3, d1, d4⟩
    · omega
    · refine ⟨b, ?_, d2, d3, d1, d4⟩
      have := best_no hb (n := c - 1) (fun ha => by rw [show c - 1 + 1 = c from by omega] at *; exact hno b hb d2 d3 ha)
      rw [show c - 1 + 1 = c from by omega] at this
      exact this
  rcases hcase with ⟨nok, rfl, rfl⟩ | ⟨ok, rfl, hic, hrow, rfl, rfl, htb, rfl⟩
  · have h0 : 0 < c := by
      rcases Nat.eq_zero_or_pos c with z | z
      · subst z; exact absurd (best_zero (R := gn μ 77 0) (mo := moV 100000000 (gi μ0 91)) (W := 0) (P0 := 0) (t0 := 0) (N := 0) (wt := gi μ 80)).1.1 nok
      · exact z
    have sk := skip h0 (fun b _ _ _ ha => absurd ha.1 nok)
    refine ⟨fun _ => ⟨fun z => absurd z (by decide), fun _ => ⟨fun _ => sk, fun z => absurd (by decide) z⟩⟩, fun z => absurd (by decide) z⟩
  · rw [nI_leI (by omega) (by omega), show (0 : Int32) = nI 0 from rfl, nI_eq (by omega) (by omega), nI_leI (by omega) (by omega)]
    refine ⟨fun q => ?_, fun q => ?_⟩
    · have hie : i = cntN c 5 := by omega
      subst hie
      have blk : accN (gn μ 77 0) (moV 100000000 (gi μ0 91)) (gn μ 77 4) (P0M μ) (gn μ 84 2) (gn μ 77 5) c → _ := fun ha => show (l2 < woN (gi μ 80) c (cntN c 5) → ∃ k, k < (7775 - c) * 100 + 90 - cntN c 5 ∧ inv_X9_round_203 p1 μ k (woN (gi μ 80) c (cntN c 5)) (nI (tmM μ (gi μ0 91) c (cntN c 5))) (nI (cntN c 5)) (nI c) (nI (cntN c 5)) (nI 0) μ0) ∧ (¬ l2 < woN (gi μ 80) c (cntN c 5) → (¬ woN (gi μ 80) c (cntN c 5) = l2 → ∃ k, k < (7775 - c) * 100 + 90 - cntN c 5 ∧ inv_X9_round_27 p1 μ k l2 l3 l4 (nI c + 1) μ0) ∧ (woN (gi μ 80) c (cntN c 5) = l2 → (l3 ≤ nI (tmM μ (gi μ0 91) c (cntN c 5)) → ∃ k, k < (7775 - c) * 100 + 90 - cntN c 5 ∧ inv_X9_round_27 p1 μ k l2 l3 l4 (nI c + 1) μ0) ∧ (¬ l3 ≤ nI (tmM μ (gi μ0 91) c (cntN c 5)) → ∃ k, k < (7775 - c) * 100 + 90 - cntN c 5 ∧ inv_X9_round_203 p1 μ k (woN (gi μ 80) c (cntN c 5)) (nI (tmM μ (gi μ0 91) c (cntN c 5))) (nI (cntN c 5)) (nI c) (nI (cntN c 5)) (nI 0) μ0))) by
        have take : bstM μ (gi μ0 91) c c → ∃ k, k < (7775 - c) * 100 + 90 - cntN c 5 ∧ inv_X9_round_203 p1 μ k (woN (gi μ 80) c (cntN c 5)) (nI (tmM μ (gi μ0 91) c (cntN c 5))) (nI (cntN c 5)) (nI c) (nI (cntN c 5)) (nI 0) μ0 := fun hb => ⟨(7775 - c) * 100 + 50 - 0, by omega, hR0, c, 0, hc, Nat.zero_le _, rfl, rfl, rfl, rfl, hrow, hb, rfl, rfl, rfl, fun j hj => absurd hj (Nat.not_lt_zero j)⟩
        rcases hst with ⟨z, z2⟩ | ⟨h0, b, hb, d2, d3, d1, d4⟩
        · subst z; subst z2
          have hz := best_zero (R := gn μ 77 0) (mo := moV 100000000 (gi μ0 91)) (W := gn μ 77 4) (P0 := P0M μ) (t0 := gn μ 84 2) (N := gn μ 77 5) (wt := gi μ 80)
          have hlt : (-1 : Int32) < woN (gi μ 80) 0 (cntN 0 5) := by rw [hz.2.1, woN]; decide
          exact ⟨fun _ => take hz.2.2, fun z => absurd hlt z⟩
        · have hcm : c - 1 + 1 = c := by omega
          have htb2 : tmM μ (gi μ0 91) b (cntN b 5) ≤ 500 := by
            rcases hb.2.1.2 with z | z
            · rw [z]; unfold tmM; rw [tmN]; omega
            · unfold tmM; omega
          have yes : betN (moV 100000000 (gi μ0 91)) (gn μ 77 4) (P0M μ) (gi μ 80) c b → bstM μ (gi μ0 91) c c := fun z => by
            have := best_yes (n := c - 1) hb (by rw [hcm]; exact ha) (by rw [hcm]; exact z)
            rw [hcm] at this; exact this
          have hle : l3 ≤ nI (tmM μ (gi μ0 91) c (cntN c 5)) ↔ tmM μ (gi μ0 91) b (cntN b 5) ≤ tmM μ (gi μ0 91) c (cntN c 5) := by rw [d3, nI_leI (by omega) (by omega)]
          have sk : ¬ betN (moV 100000000 (gi μ0 91)) (gn μ 77 4) (P0M μ) (gi μ 80) c b → ∃ k, k < (7775 - c) * 100 + 90 - cntN c 5 ∧ inv_X9_round_27 p1 μ k l2 l3 l4 (nI c + 1) μ0 := fun z => skip h0 (fun b' hb' _ _ _ => by rw [← best_uniq hb hb']; exact z)
          rw [hle, d2]
          refine ⟨fun q1 => take (yes (Or.inl q1)), fun q1 => ⟨fun q2 => d2 ▸ sk ?_, fun q2 => ⟨fun q3 => d2 ▸ sk ?_, fun q3 => take (yes (Or.inr ⟨q2, by unfold tmM at q3; omega⟩))⟩⟩⟩
          · rintro (z | z)
            · exact q1 z
            · exact q2 z.1
          · rintro (z | z)
            · exact q1 z
            · have := z.2; unfold tmM at q3; omega
      refine ⟨fun q0 => blk ⟨ok, Or.inl q0⟩, fun q0 => ⟨fun z => by omega, fun _ => ?_⟩⟩
      have h0 : 0 < c := by
        rcases Nat.eq_zero_or_pos c with z | z
        · subst z; exact absurd (best_zero (R := 0) (mo := fun _ => 0) (W := 0) (P0 := 0) (t0 := 0) (N := 0) (wt := gi μ 80)).2.1 q0
        · exact z
      have hcmp : gi μ0 77 5 < gi μ0 84 2 + nI (tmM μ (gi μ0 91) c (cntN c 5)) ↔ gn μ 77 5 < gn μ 84 2 + tmM μ (gi μ0 91) c (cntN c 5) := by
        rw [hf.1 77 (by simp), hf.1 84 (by simp), a5.1, b2.1, nI_add, i_lt, nI_toInt (by omega), nI_toInt (by omega)]; omega
      rw [hcmp]
      refine ⟨fun z => skip h0 (fun b _ _ _ ha => ?_), fun z => blk ⟨ok, Or.inr (by unfold tmM at z; omega)⟩⟩
      exfalso
      rcases ha.2 with y | y
      · exact q0 y
      · unfold tmM at z; omega
    · have hlt : i < cntN c 5 := by omega
      have hz : dg c i ≠ 0 := ok_nz 5 ok i hlt
      have hd := dg_lt c i
      obtain ⟨o1, o2, o3, o4⟩ := ok i (by omega) hz
      have hr : dg c i - 1 < gn μ 77 0 := by omega
      have hne : gi μ0 91 (dg c i - 1) ≠ 100000000 := fun z => o4 ((moV_1e8 _ _).mpr z)
      obtain ⟨g1, g2⟩ := (moM_b hS hr (hv _ hr)).resolve_left hne
      have hmo : moV 100000000 (gi μ0 91) (dg c i - 1) = (gi μ0 91 (dg c i - 1)).toNatClampNeg := if_neg hne
      have ci : (nI i).toNatClampNeg = i := nI_clamp (by omega)
      have e92 : gi μ0 92 i = nI (dg c i - 1) := hrow i hlt
      have i5 : vp_in (nI i) 5 := vp_in_nI (by omega) (by omega)
      have r5 : vp_in (nI (dg c i - 1)) 5 := vp_in_nI (by omega) (by omega)
      have r10 : vp_in (nI (dg c i - 1)) 10 := vp_in_nI (by omega) (by omega)
      have cr : (nI (dg c i - 1)).toNatClampNeg = dg c i - 1 := nI_clamp (by omega)
      have hpl : (if i = 0 then gn μ 84 1 else dg c (i - 1)) < 6 ∧ (if i = 0 then gn μ 84 1 else dg c (i - 1)) - 1 = plN (P0M μ) c i := by
        cases i with
        | zero => rw [if_pos rfl]; exact ⟨by have := b1.2; omega, rfl⟩
        | succ i => rw [if_neg (Nat.succ_ne_zero i)]; exact ⟨dg_lt _ _, rfl⟩
      rw [ci]
      refine ⟨i5, trivial, ?_⟩
      rintro x12 m13 ⟨hx12, rfl⟩
      rw [e92, hf.1 77 (by simp), a4.1, walk_nI _ (by have := a4.2; omega) _ hpl.1 _ (by omega), hpl.2] at hx12
      rw [e92, cr]
      refine ⟨i5, r5, ?_⟩
      rintro y17 rfl
      refine ⟨i5, r10, ?_⟩
      rintro y21 rfl
      refine ⟨i5, ?_⟩
      rintro y24 rfl
      have hdw : dW (gn μ 77 4) (plN (P0M μ) c i) (dg c i - 1) ≤ 36 := dW_b a4.2 (by have := hpl.1; have := hpl.2; omega) (by omega)
      have etm : tmM μ (gi m13 91) c (i + 1) = tmM μ (gi m13 91) c i + (dW (gn μ 77 4) (plN (P0M μ) c i) (dg c i - 1) + (gi m13 91 (dg c i - 1)).toNatClampNeg) := by
        unfold tmM; rw [tmN, hmo, Nat.add_assoc]
      refine ⟨_, ?_, hR0, c, i + 1, hc, by omega, rfl, rfl, nI_1 i, hst, Or.inr ⟨ok, rfl, by omega, hrow, ?_, ?_, ?_, ?_⟩⟩
      · omega
      · rw [if_neg (Nat.succ_ne_zero i), Nat.add_sub_cancel, nI_1]; congr 1; omega
      · rw [hx12, etm, ← nI_add, ← nI_add, ← g1]
      · rw [etm]; omega
      · rw [woN, hf.1 80 (by simp)]
theorem sp_X9_round : Sp yX9_round cX9_round 12 (some .int) 5 S_X9_round := by
  refine sp_of (by decide) (fun av μ P h => ?_) ?_
  · obtain ⟨p1, rfl, -⟩ := h
    refine ⟨Nat.le_of_ble_eq_true rfl, fun v hv => ?_⟩
    simp only [List.mem_cons, List.not_mem_nil, or_false] at hv
    rcases hv with rfl | rfl <;> rfl
  · rintro X P hO _ μ ⟨p1, rfl, hpre, hpost⟩ hn
    have hJ : ∀ n : Nat, (∀ (l2 : Int32) (l3 : Int32) (l4 : Int32) (l5 : Int32) (m : Mem), inv_X9_round_27 p1 μ n l2 l3 l4 l5 m → V X 27 [some (.ref 75), some (.int p1), some (.int l2), some (.int l3), some (.int l4), some (.int l5), none, none, none, none, none, none] [] m) ∧ (∀ (l2 : Int32) (l3 : Int32) (l4 : Int32) (l5 : Int32) (l6 : Int32) (l7 : Int32) (l8 : Int32) (l9 : Int32) (l10 : Int32) (m : Mem), inv_X9_round_60 p1 μ n l2 l3 l4 l5 l6 l7 l8 l9 l10 m → V X 60 [some (.ref 75), some (.int p1), some (.int l2), some (.int l3), some (.int l4), some (.int l5), some (.int l6), some (.int l7), some (.int l8), some (.int l9), some (.int l10), none] [] m) ∧ (∀ (l2 : Int32) (l3 : Int32) (l4 : Int32) (l5 : Int32) (l6 : Int32) (l11 : Int32) (m : Mem), inv_X9_round_203 p1 μ n l2 l3 l4 l5 l6 l11 m → V X 203 [some (.ref 75), some (.int p1), some (.int l2), some (.int l3), some (.int l4), some (.int l5), some (.int l6), none, none, none, none, some (.int l11)] [] m) := by
      intro n
      induction n using Nat.strongRecOn with
      | _ n ih =>
        exact ⟨fun l2 l3 l4 l5 m hi => wk_X9_round_27 (J27 := (fun l2 l3 l4 l5 m => ∃ k : Nat, k < n ∧ inv_X9_round_27 p1 μ k l2 l3 l4 l5 m)) (J60 := (fun l2 l3 l4 l5 l6 l7 l8 l9 l10 m => ∃ k : Nat, k < n ∧ inv_X9_round_60 p1 μ k l2 l3 l4 l5 l6 l7 l8 l9 l10 m)) (J203 := (fun l2 l3 l4 l5 l6 l11 m => ∃ k : Nat, k < n ∧ inv_X9_round_203 p1 μ k l2 l3 l4 l5 l6 l11 m)) hO hn p1  l2 l3 l4 l5 m hpost (fun l2 l3 l4 l5 m hk => by obtain ⟨k, hk, hi⟩ := hk; exact (ih k hk).1 l2 l3 l4 l5 m hi) (fun l2 l3 l4 l5 l6 l7 l8 l9 l10 m hk => by obtain ⟨k, hk, hi⟩ := hk; exact (ih k hk).2.1 l2 l3 l4 l5 l6 l7 l8 l9 l10 m hi) (fun l2 l3 l4 l5 l6 l11 m hk => by obtain ⟨k, hk, hi⟩ := hk; exact (ih k hk).2.2 l2 l3 l4 l5 l6 l11 m hi) (vp_X9_round_27 p1  μ hpre n l2 l3 l4 l5 m hi), fun l2 l3 l4 l5 l6 l7 l8 l9 l10 m hi => wk_X9_round_60 (J27 := (fun l2 l3 l4 l5 m => ∃ k : Nat, k < n ∧ inv_X9_round_27 p1 μ k l2 l3 l4 l5 m)) (J60 := (fun l2 l3 l4 l5 l6 l7 l8 l9 l10 m => ∃ k : Nat, k < n ∧ inv_X9_round_60 p1 μ k l2 l3 l4 l5 l6 l7 l8 l9 l10 m)) (J203 := (fun l2 l3 l4 l5 l6 l11 m => ∃ k : Nat, k < n ∧ inv_X9_round_203 p1 μ k l2 l3 l4 l5 l6 l11 m)) hO hn p1  l2 l3 l4 l5 l6 l7 l8 l9 l10 m hpost (fun l2 l3 l4 l5 m hk => by obtain ⟨k, hk, hi⟩ := hk; exact (ih k hk).1 l2 l3 l4 l5 m hi) (fun l2 l3 l4 l5 l6 l7 l8 l9 l10 m hk => by obtain ⟨k, hk, hi⟩ := hk; exact (ih k hk).2.1 l2 l3 l4 l5 l6 l7 l8 l9 l10 m hi) (fun l2 l3 l4 l5 l6 l11 m hk => by obtain ⟨k, hk, hi⟩ := hk; exact (ih k hk).2.2 l2 l3 l4 l5 l6 l11 m hi) (vp_X9_round_60 p1  μ hpre n l2 l3 l4 l5 l6 l7 l8 l9 l10 m hi), fun l2 l3 l4 l5 l6 l11 m hi => wk_X9_round_203 (J27 := (fun l2 l3 l4 l5 m => ∃ k : Nat, k < n ∧ inv_X9_round_27 p1 μ k l2 l3 l4 l5 m)) (J60 := (fun l2 l3 l4 l5 l6 l7 l8 l9 l10 m => ∃ k : Nat, k < n ∧ inv_X9_round_60 p1 μ k l2 l3 l4 l5 l6 l7 l8 l9 l10 m)) (J203 := (fun l2 l3 l4 l5 l6 l11 m => ∃ k : Nat, k < n ∧ inv_X9_round_203 p1 μ k l2 l3 l4 l5 l6 l11 m)) hO hn p1  l2 l3 l4 l5 l6 l11 m hpost (fun l2 l3 l4 l5 m hk => by obtain ⟨k, hk, hi⟩ := hk; exact (ih k hk).1 l2 l3 l4 l5 m hi) (fun l2 l3 l4 l5 l6 l7 l8 l9 l10 m hk => by obtain ⟨k, hk, hi⟩ := hk; exact (ih k hk).2.1 l2 l3 l4 l5 l6 l7 l8 l9 l10 m hi) (fun l2 l3 l4 l5 l6 l11 m hk => by obtain ⟨k, hk, hi⟩ := hk; exact (ih k hk).2.2 l2 l3 l4 l5 l6 l11 m hi) (vp_X9_round_203 p1  μ hpre n l2 l3 l4 l5 l6 l11 m hi)⟩
    exact wk_X9_round_0 (J27 := (fun l2 l3 l4 l5 m => ∃ k : Nat, inv_X9_round_27 p1 μ k l2 l3 l4 l5 m)) (J60 := (fun l2 l3 l4 l5 l6 l7 l8 l9 l10 m => ∃ k : Nat, inv_X9_round_60 p1 μ k l2 l3 l4 l5 l6 l7 l8 l9 l10 m)) (J203 := (fun l2 l3 l4 l5 l6 l11 m => ∃ k : Nat, inv_X9_round_203 p1 μ k l2 l3 l4 l5 l6 l11 m)) hO hn p1  μ hpost (fun l2 l3 l4 l5 m hk => by obtain ⟨k, hi⟩ := hk; exact (hJ k).1 l2 l3 l4 l5 m hi) (fun l2 l3 l4 l5 l6 l7 l8 l9 l10 m hk => by obtain ⟨k, hi⟩ := hk; exact (hJ k).2.1 l2 l3 l4 l5 l6 l7 l8 l9 l10 m hi) (fun l2 l3 l4 l5 l6 l11 m hk => by obtain ⟨k, hi⟩ := hk; exact (hJ k).2.2 l2 l3 l4 l5 l6 l11 m hi) (vp_X9_round_0 p1  μ hpre)

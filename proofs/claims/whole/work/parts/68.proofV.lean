theorem SVm_TM {μ m : Mem} {cs : List Nat} (h : SVm μ) (hf : fr cs μ m) (h77 : 77 ∉ cs) (h79 : 79 ∉ cs) (h81 : 81 ∉ cs) (h82 : 82 ∉ cs) {r : Nat} (hr : r < gn μ 77 0) : TM m r := by
  obtain ⟨a0, a1, a2, a3, a4, a5⟩ := h
  have hb := a0.2
  refine ⟨by omega, isN_fr hf h77 a1, fun d hd => ?_, isN_fr hf h79 (a3 r hr)⟩
  rw [gn_fr hf h77] at hd
  exact ⟨isN_fr hf h81 (a2 d hd).1, isN_fr hf h82 (a2 d hd).2⟩
theorem fullM_fr {μ m : Mem} {cs : List Nat} (hf : fr cs μ m) (h79 : 79 ∉ cs) (h81 : 81 ∉ cs) (r : Nat) : fullM m r = fullM μ r := funext fun d => by
  unfold fullM; rw [gn_fr hf h81, gn_fr hf h79]
theorem tabM_of {μ m m' : Mem} {cs : List Nat} (hf : fr cs μ m) (h77 : 77 ∉ cs) (h79 : 79 ∉ cs) (h81 : 81 ∉ cs) (h82 : 82 ∉ cs) {r : Nat} (h : Bell 100000000 (gn m 77 1) (fullM m r) (gn m 82) 30 (cM m')) : tabM μ r (cM m') := by
  rw [gn_fr hf h77, fullM_fr hf h79 h81, show gn m 82 = gn μ 82 from funext fun k => gn_fr hf h82 k] at h
  exact h
theorem tX_thr {NV : Nat} {full tk : Nat → Nat} {c : Nat → Nat → Nat} {f l d : Nat} {v : Nat} (h : v < NV) : tXf NV full tk c f l d = v ↔ thr NV full tk c (c f) f l d = v := by
  rw [thr_self]; unfold tXf
  split
  · exact Iff.rfl
  · split <;> omega
def S_X9_gathers : Tr := fun av μ P => av = [.ref 75] ∧ pre_X9_gathers  μ ∧ ∀ m : Mem, post_X9_gathers  μ m → P none m
def vc_X9_gathers_0   (μ : Mem) (R : Mem → Prop) (J2 : Int32 → Mem → Prop) : Prop :=
  J2 0 μ
set_option maxRecDepth 20000 in
set_option maxHeartbeats 4000000 in
theorem wk_X9_gathers_0 {X : XT} {P : Post} (hO : OkM X cX9_gathers RX9 4 none P) (hn : xn X = 3)    (μ : Mem) {R : Mem → Prop} (hR : ∀ m, R m → P none m) {J2 : Int32 → Mem → Prop} (hJ2 : ∀ (l1 : Int32) (m : Mem), J2 l1 m → V X 2 [some (.ref 75), some (.int l1), none] [] m)  (h : vc_X9_gathers_0   μ R J2) : V X 0 [some (.ref 75), none, none] [] μ := by
  have hX := hO.1
  unfold vc_X9_gathers_0 at h
  refine v_iconst hX 0 dX9_gathers_0 rfl (?_ : V X 1 [some (.ref 75), none, none] [.int 0] μ)
  refine v_istore_n hX dX9_gathers_1 (by rw [hn]; decide) (?_ : V X 2 [some (.ref 75), some (.int 0), none] [] μ)
  exact v_mask [true, true, false] (hJ2 _ _ h)
def vc_X9_gathers_2  (l1 : Int32) (μ : Mem) (R : Mem → Prop) (J2 : Int32 → Mem → Prop) : Prop :=
  (((gi μ 77 0) ≤ l1 → R μ) ∧ (¬ (gi μ 77 0) ≤ l1 → (pre_X9_isSolved l1 μ ∧ ∀ (x2 : Int32) (μ3 : Mem), post_X9_isSolved l1 μ x2 μ3 → ((x2 = 0 → (pre_X9_soonAt l1 μ3 ∧ ∀ (x6 : Int32) (μ7 : Mem), post_X9_soonAt l1 μ3 x6 μ7 → ((¬ x6 = 100000000 → vp_in l1 5 ∧ (∀ μ11, μ11 = ui μ7 91 (Int32.toNatClampNeg l1) (x6 / 1000) → J2 (l1 + 1) μ11)) ∧ (x6 = 100000000 → vp_in l1 5 ∧ (∀ μ14, μ14 = ui μ7 91 (Int32.toNatClampNeg l1) 100000000 → J2 (l1 + 1) μ14))))) ∧ (¬ x2 = 0 → vp_in l1 5 ∧ (∀ μ17, μ17 = ui μ3 91 (Int32.toNatClampNeg l1) 100000000 → J2 (l1 + 1) μ17))))))
set_option maxRecDepth 20000 in
set_option maxHeartbeats 4000000 in
theorem wk_X9_gathers_2 {X : XT} {P : Post} (hO : OkM X cX9_gathers RX9 4 none P) (hn : xn X = 3)   (l1 : Int32) (μ : Mem) {R : Mem → Prop} (hR : ∀ m, R m → P none m) {J2 : Int32 → Mem → Prop} (hJ2 : ∀ (l1 : Int32) (m : Mem), J2 l1 m → V X 2 [some (.ref 75), some (.int l1), none] [] m)  (h : vc_X9_gathers_2  l1 μ R J2) : V X 2 [some (.ref 75), some (.int l1), none] [] μ := by
  have hX := hO.1
  unfold vc_X9_gathers_2 at h
  refine v_iload_n hX dX9_gathers_2 rfl (?_ : V X 3 [some (.ref 75), some (.int l1), none] [.int l1] μ)
  refine v_aload_n hX dX9_gathers_3 rfl (?_ : V X 4 [some (.ref 75), some (.int l1), none] [.ref 75, .int l1] μ)
  refine v_getr hX (77) fk_X9_13 sh_75 rfl rfl dX9_gathers_4 (?_ : V X 7 [some (.ref 75), some (.int l1), none] [.ref 77, .int l1] μ)
  refine v_iconst hX 0 dX9_gathers_7 rfl (?_ : V X 8 [some (.ref 75), some (.int l1), none] [.int 0, .ref 77, .int l1] μ)
  refine w_iald hX 0 sh_77 (vp_lit (by decide)) (by decide) dX9_gathers_8 (?_ : V X 9 [some (.ref 75), some (.int l1), none] [.int (gi μ 77 0), .int l1] μ)
  refine v_icmp_ge hX 59 dX9_gathers_9 rfl (fun c1 => ?_) (fun c1 => ?_)
  · replace h := h.1 c1
    exact v_vret hO dX9_gathers_59 (hR _ h)
  · replace h := h.2 c1
    refine v_aload_n hX dX9_gathers_12 rfl (?_ : V X 13 [some (.ref 75), some (.int l1), none] [.ref 75] μ)
    refine v_iload_n hX dX9_gathers_13 rfl (?_ : V X 14 [some (.ref 75), some (.int l1), none] [.int l1, .ref 75] μ)
    refine v_callV hX sp_X9_isSolved ck_X9_isSolved mk_X9_146 mv_X9_isSolved sh_75 (by decide) (by decide) [.int l1] [] rfl rfl (Nat.le_of_ble_eq_true rfl) dX9_gathers_14 ⟨l1, rfl, h.1, fun x2 μ3 hp4 => (?_ : V X 17 [some (.ref 75), some (.int l1), none] [.int x2] μ3)⟩
    replace h := h.2 x2 μ3 hp4
    refine v_if_eq hX 25 dX9_gathers_17 rfl (fun c5 => ?_) (fun c5 => ?_)
    · replace h := h.1 c5
      refine v_aload_n hX dX9_gathers_25 rfl (?_ : V X 26 [some (.ref 75), some (.int l1), none] [.ref 75] μ3)
      refine v_iload_n hX dX9_gathers_26 rfl (?_ : V X 27 [some (.ref 75), some (.int l1), none] [.int l1, .ref 75] μ3)
      refine v_callV hX sp_X9_soonAt ck_X9_soonAt mk_X9_180 mv_X9_soonAt sh_75 (by decide) (by decide) [.int l1] [] rfl rfl (Nat.le_of_ble_eq_true rfl) dX9_gathers_27 ⟨l1, rfl, h.1, fun x6 μ7 hp8 => (?_ : V X 30 [some (.ref 75), some (.int l1), none] [.int x6] μ7)⟩
      replace h := h.2 x6 μ7 hp8
      refine v_istore_n hX dX9_gathers_30 (by rw [hn]; decide) (?_ : V X 31 [some (.ref 75), some (.int l1), some (.int x6)] [] μ7)
      refine v_aload_n hX dX9_gathers_31 rfl (?_ : V X 32 [some (.ref 75), some (.int l1), some (.int x6)] [.ref 75] μ7)
      refine v_getr hX (91) fk_X9_56 sh_75 rfl rfl dX9_gathers_32 (?_ : V X 35 [some (.ref 75), some (.int l1), some (.int x6)] [.ref 91] μ7)
      refine v_iload_n hX dX9_gathers_35 rfl (?_ : V X 36 [some (.ref 75), some (.int l1), some (.int x6)] [.int l1, .ref 91] μ7)
      refine v_iload_n hX dX9_gathers_36 rfl (?_ : V X 37 [some (.ref 75), some (.int l1), some (.int x6)] [.int x6, .int l1, .ref 91] μ7)
      refine v_ldc hX 100000000 dX9_gathers_37 kk_X9_172 (?_ : V X 39 [some (.ref 75), some (.int l1), some (.int x6)] [.int 100000000, .int x6, .int l1, .ref 91] μ7)
      refine v_icmp_ne hX 47 dX9_gathers_39 rfl (fun c9 => ?_) (fun c9 => ?_)
      · replace h := h.1 c9
        refine v_iload_n hX dX9_gathers_47 rfl (?_ : V X 48 [some (.ref 75), some (.int l1), some (.int x6)] [.int x6, .int l1, .ref 91] μ7)
        refine v_sipush hX 1000 dX9_gathers_48 rfl (?_ : V X 51 [some (.ref 75), some (.int l1), some (.int x6)] [.int 1000, .int x6, .int l1, .ref 91] μ7)
        refine v_idiv hX dX9_gathers_51 (by decide) (?_ : V X 52 [some (.ref 75), some (.int l1), some (.int x6)] [.int (x6 / 1000), .int l1, .ref 91] μ7)
        have hb10 := h.1
        replace h := h.2
        refine w_iast hX (Int32.toNatClampNeg l1) sh_91 hb10 rfl dX9_gathers_52 (fun μ11 e12 => (?_ : V X 53 [some (.ref 75), some (.int l1), some (.int x6)] [] μ11))
        replace h := h μ11 e12
        refine v_iinc hX 1 dX9_gathers_53 (by rw [hn]; decide) rfl rfl (?_ : V X 56 [some (.ref 75), some (.int (l1 + 1)), some (.int x6)] [] μ11)
        refine v_goto hX 2 dX9_gathers_56 rfl (?_ : V X 2 [some (.ref 75), some (.int (l1 + 1)), some (.int x6)] [] μ11)
        exact v_mask [true, true, false] (hJ2 _ _ h)
      · replace h := h.2 c9
        refine v_ldc hX 100000000 dX9_gathers_42 kk_X9_172 (?_ : V X 44 [some (.ref 75), some (.int l1), some (.int x6)] [.int 100000000, .int l1, .ref 91] μ7)
        refine v_goto hX 52 dX9_gathers_44 rfl (?_ : V X 52 [some (.ref 75), some (.int l1), some (.int x6)] [.int 100000000, .int l1, .ref 91] μ7)
        have hb13 := h.1
        replace h := h.2
        refine w_iast hX (Int32.toNatClampNeg l1) sh_91 hb13 rfl dX9_gathers_52 (fun μ14 e15 => (?_ : V X 53 [some (.ref 75), some (.int l1), some (.int x6)] [] μ14))
        replace h := h μ14 e15
        refine v_iinc hX 1 dX9_gathers_53 (by rw [hn]; decide) rfl rfl (?_ : V X 56 [some (.ref 75), some (.int (l1 + 1)), some (.int x6)] [] μ14)
        refine v_goto hX 2 dX9_gathers_56 rfl (?_ : V X 2 [some (.ref 75), some (.int (l1 + 1)), some (.int x6)] [] μ14)
        exact v_mask [true, true, false] (hJ2 _ _ h)
    · replace h := h.2 c5
      refine v_ldc hX 100000000 dX9_gathers_20 kk_X9_172 (?_ : V X 22 [some (.ref 75), some (.int l1), none] [.int 100000000] μ3)
      refine v_goto hX 30 dX9_gathers_22 rfl (?_ : V X 30 [some (.ref 75), some (.int l1), none] [.int 100000000] μ3)
      refine v_istore_n hX dX9_gathers_30 (by rw [hn]; decide) (?_ : V X 31 [some (.ref 75), some (.int l1), some (.int 100000000)] [] μ3)
      refine v_aload_n hX dX9_gathers_31 rfl (?_ : V X 32 [some (.ref 75), some (.int l1), some (.int 100000000)] [.ref 75] μ3)
      refine v_getr hX (91) fk_X9_56 sh_75 rfl rfl dX9_gathers_32 (?_ : V X 35 [some (.ref 75), some (.int l1), some (.int 100000000)] [.ref 91] μ3)
      refine v_iload_n hX dX9_gathers_35 rfl (?_ : V X 36 [some (.ref 75), some (.int l1), some (.int 100000000)] [.int l1, .ref 91] μ3)
      refine v_iload_n hX dX9_gathers_36 rfl (?_ : V X 37 [some (.ref 75), some (.int l1), some (.int 100000000)] [.int 100000000, .int l1, .ref 91] μ3)
      refine v_ldc hX 100000000 dX9_gathers_37 kk_X9_172 (?_ : V X 39 [some (.ref 75), some (.int l1), some (.int 100000000)] [.int 100000000, .int 100000000, .int l1, .ref 91] μ3)
      refine v_icmp_ne hX 47 dX9_gathers_39 rfl (fun c1 => absurd c1 (by decide)) (fun _ => (?_ : V X 42 [some (.ref 75), some (.int l1), some (.int 100000000)] [.int l1, .ref 91] μ3))
      refine v_ldc hX 100000000 dX9_gathers_42 kk_X9_172 (?_ : V X 44 [some (.ref 75), some (.int l1), some (.int 100000000)] [.int 100000000, .int l1, .ref 91] μ3)
      refine v_goto hX 52 dX9_gathers_44 rfl (?_ : V X 52 [some (.ref 75), some (.int l1), some (.int 100000000)] [.int 100000000, .int l1, .ref 91] μ3)
      have hb16 := h.1
      replace h := h.2
      refine w_iast hX (Int32.toNatClampNeg l1) sh_91 hb16 rfl dX9_gathers_52 (fun μ17 e18 => (?_ : V X 53 [some (.ref 75), some (.int l1), some (.int 100000000)] [] μ17))
      replace h := h μ17 e18
      refine v_iinc hX 1 dX9_gathers_53 (by rw [hn]; decide) rfl rfl (?_ : V X 56 [some (.ref 75), some (.int (l1 + 1)), some (.int 100000000)] [] μ17)
      refine v_goto hX 2 dX9_gathers_56 rfl (?_ : V X 2 [some (.ref 75), some (.int (l1 + 1)), some (.int 100000000)] [] μ17)
      exact v_mask [true, true, false] (hJ2 _ _ h)
set_option maxRecDepth 20000 in
set_option maxHeartbeats 1000000 in
theorem vp_X9_gathers_0   (μ : Mem) (hpre : pre_X9_gathers  μ) : vc_X9_gathers_0  μ (post_X9_gathers  μ) (fun l1 m => ∃ k : Nat, inv_X9_gathers_2  μ k l1 m) := by
  simp only [vc_X9_gathers_0, pre_X9_isSolved, pre_X9_soonAt, post_X9_isSolved, post_X9_soonAt, and_imp, call_eq, forall_eq, forall_const, true_and, and_true]
  exact ⟨gn μ 77 0, 0, Nat.zero_le _, rfl, rfl, fr_refl _ _, fun r hr => absurd hr (Nat.not_lt_zero r)⟩
set_option maxRecDepth 20000 in
set_option maxHeartbeats 1000000 in
theorem vp_X9_gathers_2   (μ : Mem) (hpre : pre_X9_gathers  μ) (n : Nat) (l1 : Int32) (μ0 : Mem) (hi : inv_X9_gathers_2  μ n l1 μ0) : vc_X9_gathers_2  l1 μ0 (post_X9_gathers  μ) (fun l1 m => ∃ k : Nat, k < n ∧ inv_X9_gathers_2  μ k l1 m) := by
  unfold vc_X9_gathers_2
  have hp := hpre
  obtain ⟨a0, a1, a2, a3, a4, a5⟩ := hpre
  obtain ⟨i, hi1, rfl, rfl, hf, hv⟩ := hi
  have hb := a0.2
  have ci : (nI i).toNatClampNeg = i := nI_clamp (by omega)
  rw [hf.1 77 (by simp), isN_le a0 (by omega) (by omega), ci]
  refine ⟨fun c => ⟨hf, fun r hr => hv r (by omega)⟩, fun c => ⟨trivial, ?_⟩⟩
  have in5 : vp_in (nI i) 5 := vp_in_nI (by omega) (by omega)
  rintro x2 m2 ⟨hx2, rfl⟩
  rw [hf.1 84 (by simp)] at hx2
  have step : ∀ (m : Mem) (v : Int32), fr [90, 91] μ m → moM μ i v → (∀ r, r < i → gi m 91 r = gi m2 91 r) → gi m 91 i = v → ∃ k, k < gn μ 77 0 - i ∧ inv_X9_gathers_2 μ k (nI i + 1) m := by
    intro m v h1 h2 h3 h4
    refine ⟨gn μ 77 0 - (i + 1), by omega, i + 1, by omega, rfl, nI_1 i, h1, fun r hr => ?_⟩
    rcases Nat.lt_or_ge r i with z | z
    · rw [h3 r z]; exact hv r z
    · have : r = i := by omega
      subst this; rw [h4]; exact h2
  refine ⟨fun q => ⟨?_, ?_⟩, fun q => ⟨in5, ?_⟩⟩
  · have ns : ¬ slvI (gi μ 84 3) (nI i) = 1 := by
      intro z; rw [if_pos z] at hx2; rw [hx2] at q; exact absurd q (by decide)
    exact ⟨by rw [ci], by rw [ci]; exact SVm_TM hp hf (by simp) (by simp) (by simp) (by simp) (by omega), by rw [ci]; exact isN_fr hf (by simp) (a4 i (by omega) ns), by rw [ci]; exact isN_fr hf (by simp) (a5 i (by omega))⟩
  · have ns : ¬ slvI (gi μ 84 3) (nI i) = 1 := by
      intro z; rw [if_pos z] at hx2; rw [hx2] at q; exact absurd q (by decide)
    rintro x6 m6 ⟨⟨pf, pi, pB⟩, hx6, hle⟩
    rw [ci] at hx6 hle pB
    rw [gn_fr hf (by simp), gn_fr hf (by simp)] at hx6 hle
    have tb : tabM μ i (cM m6) := tabM_of hf (by simp) (by simp) (by simp) (by simp) pB
    have hf6 : fr [90, 91] μ m6 := fr_trans hf (fr_mono pf (by simp))
    generalize hc : cM m6 (gn μ 84 (5 + i)) (decN (gn μ 84 (10 + i))) = cv at *
    rw [hx6, show (100000000 : Int32) = nI 100000000 from rfl, nI_eq (by omega) (by omega)]
    refine ⟨fun q2 => ⟨in5, ?_⟩, fun q2 => ⟨in5, ?_⟩⟩
    · rintro _ rfl
      refine step _ (nI cv / 1000) (fr_trans hf6 (fr_ui (by simp))) ⟨fun z => absurd z ns, fun _ => ⟨_, tb, ?_⟩⟩ (fun r hr => ?_) ?_
      · rw [hc, if_pos (by omega), show (1000 : Int32) = nI 1000 from rfl, pk_div (by omega) (by omega) (by omega)]
      · rw [gi_ui, if_neg (by omega)]; exact pf.1 91 (by simp) r
      · rw [gi_ui, if_pos ⟨rfl, rfl⟩]
    · rintro _ rfl
      refine step _ 100000000 (fr_trans hf6 (fr_ui (by simp))) ⟨fun _ => rfl, fun _ => ⟨_, tb, ?_⟩⟩ (fun r hr => ?_) ?_
      · rw [hc, if_neg (by omega)]
      · rw [gi_ui, if_neg (by omega)]; exact pf.1 91 (by simp) r
      · rw [gi_ui, if_pos ⟨rfl, rfl⟩]; rfl
  · have ys : slvI (gi μ 84 3) (nI i) = 1 := by
      split at hx2
      · rename_i z; exact z
      · exact absurd hx2 q
    rintro _ rfl
    refine step _ 100000000 (fr_trans hf (fr_ui (by simp))) ⟨fun _ => rfl, fun z => absurd ys z⟩ (fun r hr => ?_) ?_
    · rw [gi_ui, if_neg (by omega)]
    · rw [gi_ui, if_pos ⟨rfl, rfl⟩]
theorem sp_X9_gathers : Sp yX9_gathers cX9_gathers 3 none 4 S_X9_gathers := by
  refine sp_of (by decide) (fun av μ P h => ?_) ?_
  · obtain ⟨rfl, -⟩ := h
    refine ⟨Nat.le_of_ble_eq_true rfl, fun v hv => ?_⟩
    simp only [List.mem_cons, List.not_mem_nil, or_false] at hv
    subst hv; rfl
  · rintro X P hO _ μ ⟨rfl, hpre, hpost⟩ hn
    have hJ : ∀ n : Nat, (∀ (l1 : Int32) (m : Mem), inv_X9_gathers_2  μ n l1 m → V X 2 [some (.ref 75), some (.int l1), none] [] m) := by
      intro n
      induction n using Nat.strongRecOn with
      | _ n ih =>
        exact fun l1 m hi => wk_X9_gathers_2 (J2 := (fun l1 m => ∃ k : Nat, k < n ∧ inv_X9_gathers_2  μ k l1 m)) hO hn   l1 m hpost (fun l1 m hk => by obtain ⟨k, hk, hi⟩ := hk; exact (ih k hk) l1 m hi) (vp_X9_gathers_2   μ hpre n l1 m hi)
    exact wk_X9_gathers_0 (J2 := (fun l1 m => ∃ k : Nat, inv_X9_gathers_2  μ k l1 m)) hO hn   μ hpost (fun l1 m hk => by obtain ⟨k, hi⟩ := hk; exact (hJ k) l1 m hi) (vp_X9_gathers_0   μ hpre)
def S_X9_loved : Tr := fun av μ P => av = [.ref 75] ∧ pre_X9_loved  μ ∧ ∀ (x : Int32) (m : Mem), post_X9_loved  μ x m → P (some (.int x)) m
def vc_X9_loved_0   (μ : Mem) (R : Int32 → Mem → Prop) (J9 : Int32 → Int32 → Mem → Prop) : Prop :=
  (∀ μ1, μ1 = ui μ 75 0 0 → J9 0 0 μ1)
set_option maxRecDepth 20000 in
set_option maxHeartbeats 4000000 in
theorem wk_X9_loved_0 {X : XT} {P : Post} (hO : OkM X cX9_loved RX9 4 (some .int) P) (hn : xn X = 3)    (μ : Mem) {R : Int32 → Mem → Prop} (hR : ∀ x m, R x m → P (some (.int x)) m) {J9 : Int32 → Int32 → Mem → Prop} (hJ9 : ∀ (l1 : Int32) (l2 : Int32) (m : Mem), J9 l1 l2 m → V X 9 [some (.ref 75), some (.int l1), some (.int l2)] [] m)  (h : vc_X9_loved_0   μ R J9) : V X 0 [some (.ref 75), none, none] [] μ := by
  have hX := hO.1
  unfold vc_X9_loved_0 at h
  refine v_aload_n hX dX9_loved_0 rfl (?_ : V X 1 [some (.ref 75), none, none] [.ref 75] μ)
  refine v_iconst hX 0 dX9_loved_1 rfl (?_ : V X 2 [some (.ref 75), none, none] [.int 0, .ref 75] μ)
  refine w_puti hX fk_X9_74 fw_9_0 sh_75 rfl dX9_loved_2 (fun μ1 e2 => (?_ : V X 5 [some (.ref 75), none, none] [] μ1))
  replace h := h μ1 e2
  refine v_iconst hX 0 dX9_loved_5 rfl (?_ : V X 6 [some (.ref 75), none, none] [.int 0] μ1)
  refine v_istore_n hX dX9_loved_6 (by rw [hn]; decide) (?_ : V X 7 [some (.ref 75), some (.int 0), none] [] μ1)
  refine v_iconst hX 0 dX9_loved_7 rfl (?_ : V X 8 [some (.ref 75), some (.int 0), none] [.int 0] μ1)
  refine v_istore_n hX dX9_loved_8 (by rw [hn]; decide) (?_ : V X 9 [some (.ref 75), some (.int 0), some (.int 0)] [] μ1)
  exact v_mask [true, true, true] (hJ9 _ _ _ h)
def vc_X9_loved_9  (l1 : Int32) (l2 : Int32) (μ : Mem) (R : Int32 → Mem → Prop) (J9 : Int32 → Int32 → Mem → Prop) : Prop :=
  (((gi μ 77 0) ≤ l2 → R l1 μ) ∧ (¬ (gi μ 77 0) ≤ l2 → (pre_X9_isSolved l2 μ ∧ ∀ (x2 : Int32) (μ3 : Mem), post_X9_isSolved l2 μ x2 μ3 → ((¬ x2 = 0 → J9 (l1 ||| 0) (l2 + 1) μ3) ∧ (x2 = 0 → (pre_X9_soonAt l2 μ3 ∧ ∀ (x6 : Int32) (μ7 : Mem), post_X9_soonAt l2 μ3 x6 μ7 → ((¬ x6 = 100000000 → J9 (l1 ||| 0) (l2 + 1) μ7) ∧ (x6 = 100000000 → J9 (l1 ||| (1 <<< (l2 &&& 31))) (l2 + 1) μ7))))))))
set_option maxRecDepth 20000 in
set_option maxHeartbeats 4000000 in
theorem wk_X9_loved_9 {X : XT} {P : Post} (hO : OkM X cX9_loved RX9 4 (some .int) P) (hn : xn X = 3)   (l1 : Int32) (l2 : Int32) (μ : Mem) {R : Int32 → Mem → Prop} (hR : ∀ x m, R x m → P (some (.int x)) m) {J9 : Int32 → Int32 → Mem → Prop} (hJ9 : ∀ (l1 : Int32) (l2 : Int32) (m : Mem), J9 l1 l2 m → V X 9 [some (.ref 75), some (.int l1), some (.int l2)] [] m)  (h : vc_X9_loved_9  l1 l2 μ R J9) : V X 9 [some (.ref 75), some (.int l1), some (.int l2)] [] μ := by
  have hX := hO.1
  unfold vc_X9_loved_9 at h
  refine v_iload_n hX dX9_loved_9 rfl (?_ : V X 10 [some (.ref 75), some (.int l1), some (.int l2)] [.int l2] μ)
  refine v_aload_n hX dX9_loved_10 rfl (?_ : V X 11 [some (.ref 75), some (.int l1), some (.int l2)] [.ref 75, .int l2] μ)
  refine v_getr hX (77) fk_X9_13 sh_75 rfl rfl dX9_loved_11 (?_ : V X 14 [some (.ref 75), some (.int l1), some (.int l2)] [.ref 77, .int l2] μ)
  refine v_iconst hX 0 dX9_loved_14 rfl (?_ : V X 15 [some (.ref 75), some (.int l1), some (.int l2)] [.int 0, .ref 77, .int l2] μ)
  refine w_iald hX 0 sh_77 (vp_lit (by decide)) (by decide) dX9_loved_15 (?_ : V X 16 [some (.ref 75), some (.int l1), some (.int l2)] [.int (gi μ 77 0), .int l2] μ)
  refine v_icmp_ge hX 53 dX9_loved_16 rfl (fun c1 => ?_) (fun c1 => ?_)
  · replace h := h.1 c1
    refine v_iload_n hX dX9_loved_53 rfl (?_ : V X 54 [some (.ref 75), some (.int l1), some (.int l2)] [.int l1] μ)
    exact v_iret hO dX9_loved_54 (hR _ _ h)
  · replace h := h.2 c1
    refine v_iload_n hX dX9_loved_19 rfl (?_ : V X 20 [some (.ref 75), some (.int l1), some (.int l2)] [.int l1] μ)
    refine v_aload_n hX dX9_loved_20 rfl (?_ : V X 21 [some (.ref 75), some (.int l1), some (.int l2)] [.ref 75, .int l1] μ)
    refine v_iload_n hX dX9_loved_21 rfl (?_ : V X 22 [some (.ref 75), some (.int l1), some (.int l2)] [.int l2, .ref 75, .int l1] μ)
    refine v_callV hX sp_X9_isSolved ck_X9_isSolved mk_X9_146 mv_X9_isSolved sh_75 (by decide) (by decide) [.int l2] [.int l1] rfl rfl (Nat.le_of_ble_eq_true rfl) dX9_loved_22 ⟨l2, rfl, h.1, fun x2 μ3 hp4 => (?_ : V X 25 [some (.ref 75), some (.int l1), some (.int l2)] [.int x2, .int l1] μ3)⟩
    replace h := h.2 x2 μ3 hp4
    refine v_if_ne hX 44 dX9_loved_25 rfl (fun c5 => ?_) (fun c5 => ?_)
    · replace h := h.1 c5
      refine v_iconst hX 0 dX9_loved_44 rfl (?_ : V X 45 [some (.ref 75), some (.int l1), some (.int l2)] [.int 0, .int l1] μ3)
      refine v_ior hX dX9_loved_45 (?_ : V X 46 [some (.ref 75), some (.int l1), some (.int l2)] [.int (l1 ||| 0)] μ3)
      refine v_istore_n hX dX9_loved_46 (by rw [hn]; decide) (?_ : V X 47 [some (.ref 75), some (.int (l1 ||| 0)), some (.int l2)] [] μ3)
      refine v_iinc hX 1 dX9_loved_47 (by rw [hn]; decide) rfl rfl (?_ : V X 50 [some (.ref 75), some (.int (l1 ||| 0)), some (.int (l2 + 1))] [] μ3)
      refine v_goto hX 9 dX9_loved_50 rfl (?_ : V X 9 [some (.ref 75), some (.int (l1 ||| 0)), some (.int (l2 + 1))] [] μ3)
      exact v_mask [true, true, true] (hJ9 _ _ _ h)
    · replace h := h.2 c5
      refine v_aload_n hX dX9_loved_28 rfl (?_ : V X 29 [some (.ref 75), some (.int l1), some (.int l2)] [.ref 75, .int l1] μ3)
      refine v_iload_n hX dX9_loved_29 rfl (?_ : V X 30 [some (.ref 75), some (.int l1), some (.int l2)] [.int l2, .ref 75, .int l1] μ3)
      refine v_callV hX sp_X9_soonAt ck_X9_soonAt mk_X9_180 mv_X9_soonAt sh_75 (by decide) (by decide) [.int l2] [.int l1] rfl rfl (Nat.le_of_ble_eq_true rfl) dX9_loved_30 ⟨l2, rfl, h.1, fun x6 μ7 hp8 => (?_ : V X 33 [some (.ref 75), some (.int l1), some (.int l2)] [.int x6, .int l1] μ7)⟩
      replace h := h.2 x6 μ7 hp8
      refine v_ldc hX 100000000 dX9_loved_33 kk_X9_172 (?_ : V X 35 [some (.ref 75), some (.int l1), some (.int l2)] [.int 100000000, .int x6, .int l1] μ7)
      refine v_icmp_ne hX 44 dX9_loved_35 rfl (fun c9 => ?_) (fun c9 => ?_)
      · replace h := h.1 c9
        refine v_iconst hX 0 dX9_loved_44 rfl (?_ : V X 45 [some (.ref 75), some (.int l1), some (.int l2)] [.int 0, .int l1] μ7)
        refine v_ior hX dX9_loved_45 (?_ : V X 46 [some (.ref 75), some (.int l1), some (.int l2)] [.int (l1 ||| 0)] μ7)
        refine v_istore_n hX dX9_loved_46 (by rw [hn]; decide) (?_ : V X 47 [some (.ref 75), some (.int (l1 ||| 0)), some (.int l2)] [] μ7)
        refine v_iinc hX 1 dX9_loved_47 (by rw [hn]; decide) rfl rfl (?_ : V X 50 [some (.ref 75), some (.int (l1 ||| 0)), some (.int (l2 + 1))] [] μ7)
        refine v_goto hX 9 dX9_loved_50 rfl (?_ : V X 9 [some (.ref 75), some (.int (l1 ||| 0)), some (.int (l2 + 1))] [] μ7)
        exact v_mask [true, true, true] (hJ9 _ _ _ h)
      · replace h := h.2 c9
        refine v_iconst hX 1 dX9_loved_38 rfl (?_ : V X 39 [some (.ref 75), some (.int l1), some (.int l2)] [.int 1, .int l1] μ7)
        refine v_iload_n hX dX9_loved_39 rfl (?_ : V X 40 [some (.ref 75), some (.int l1), some (.int l2)] [.int l2, .int 1, .int l1] μ7)
        refine v_ishl hX dX9_loved_40 (?_ : V X 41 [some (.ref 75), some (.int l1), some (.int l2)] [.int (1 <<< (l2 &&& 31)), .int l1] μ7)
        refine v_goto hX 45 dX9_loved_41 rfl (?_ : V X 45 [some (.ref 75), some (.int l1), some (.int l2)] [.int (1 <<< (l2 &&& 31)), .int l1] μ7)
        refine v_ior hX dX9_loved_45 (?_ : V X 46 [some (.ref 75), some (.int l1), some (.int l2)] [.int (l1 ||| (1 <<< (l2 &&& 31)))] μ7)
        refine v_istore_n hX dX9_loved_46 (by rw [hn]; decide) (?_ : V X 47 [some (.ref 75), some (.int (l1 ||| (1 <<< (l2 &&& 31)))), some (.int l2)] [] μ7)
        refine v_iinc hX 1 dX9_loved_47 (by rw [hn]; decide) rfl rfl (?_ : V X 50 [some (.ref 75), some (.int (l1 ||| (1 <<< (l2 &&& 31)))), some (.int (l2 + 1))] [] μ7)
        refine v_goto hX 9 dX9_loved_50 rfl (?_ : V X 9 [some (.ref 75), some (.int (l1 ||| (1 <<< (l2 &&& 31)))), some (.int (l2 + 1))] [] μ7)
        exact v_mask [true, true, true] (hJ9 _ _ _ h)
set_option maxRecDepth 20000 in
set_option maxHeartbeats 1000000 in
theorem vp_X9_loved_0   (μ : Mem) (hpre : pre_X9_loved  μ) : vc_X9_loved_0  μ (post_X9_loved  μ) (fun l1 l2 m => ∃ k : Nat, inv_X9_loved_9  μ k l1 l2 m) := by
  unfold vc_X9_loved_0
  rintro _ rfl
  exact ⟨gn μ 77 0, 0, Nat.zero_le _, rfl, rfl, fr_ui (by simp), fun k hk => by rw [gi_ui, if_neg (by simp [hk])], fun _ => 0, fun r hr => absurd hr (Nat.not_lt_zero r), rfl⟩
set_option maxRecDepth 20000 in
set_option maxHeartbeats 1000000 in
theorem vp_X9_loved_9   (μ : Mem) (hpre : pre_X9_loved  μ) (n : Nat) (l1 : Int32) (l2 : Int32) (μ0 : Mem) (hi : inv_X9_loved_9  μ n l1 l2 μ0) : vc_X9_loved_9  l1 l2 μ0 (post_X9_loved  μ) (fun l1 l2 m => ∃ k : Nat, k < n ∧ inv_X9_loved_9  μ k l1 l2 m) := by
  unfold vc_X9_loved_9
  have hp := hpre
  obtain ⟨a0, a1, a2, a3, a4, a5⟩ := hpre
  obtain ⟨i, hi1, rfl, rfl, hf, h75, v, hv, rfl⟩ := hi
  have hb := a0.2
  have ci : (nI i).toNatClampNeg = i := nI_clamp (by omega)
  rw [hf.1 77 (by simp), isN_le a0 (by omega) (by omega)]
  refine ⟨fun c => ?_, fun c => ⟨trivial, ?_⟩⟩
  · have : i = gn μ 77 0 := by omega
    subst this
    exact ⟨hf, h75, v, hv, rfl⟩
  · rintro x2 m2 ⟨hx2, rfl⟩
    rw [hf.1 84 (by simp)] at hx2
    have step : ∀ (m : Mem) (u : Nat) (b : Int32), fr [75, 90] μ m → f75 μ m → soR μ i u → b = (if ¬ slvI (gi μ 84 3) (nI i) = 1 ∧ u = 100000000 then 1 <<< (nI i &&& 31) else 0) → ∃ k, k < gn μ 77 0 - i ∧ inv_X9_loved_9 μ k (orI (lovM (gi μ 84 3) v) i ||| b) (nI i + 1) m := by
      intro m u b h1 h2 h3 h4
      refine ⟨gn μ 77 0 - (i + 1), by omega, i + 1, by omega, rfl, nI_1 i, h1, h2, fun r => if r = i then u else v r, fun r hr => ?_, ?_⟩
      · rcases Nat.lt_or_ge r i with z | z
        · show soR μ r (if r = i then u else v r); rw [if_neg (by omega)]; exact hv r z
        · have : r = i := by omega
          subst this
          show soR μ r (if r = r then u else v r); rw [if_pos rfl]; exact h3
      · have eq : ∀ n, n ≤ i → orI (lovM (gi μ 84 3) (fun r => if r = i then u else v r)) n = orI (lovM (gi μ 84 3) v) n := by
          intro n
          induction n with
          | zero => intro _; rfl
          | succ n ih =>
            intro hn
            rw [orI, orI, ih (by omega)]
            have : lovM (gi μ 84 3) (fun r => if r = i then u else v r) n = lovM (gi μ 84 3) v n := by
              unfold lovM; simp only [show ¬ n = i from by omega, if_false]
            rw [this]
        rw [orI, eq i (Nat.le_refl _), h4]
        congr 1
        unfold lovM; simp only; rw [if_pos trivial]
    refine ⟨fun q => ?_, fun q => ⟨?_, ?_⟩⟩
    · have ys : slvI (gi μ 84 3) (nI i) = 1 := by
        split at hx2
        · rename_i z; exact z
        · exact absurd hx2 q
      exact step m2 0 0 hf h75 (Or.inl ys) (by rw [if_neg (fun z => z.1 ys)])
    · have ns : ¬ slvI (gi μ 84 3) (nI i) = 1 := by
        intro z; rw [if_pos z] at hx2; rw [hx2] at q; exact absurd q (by decide)
      exact ⟨by rw [ci], by rw [ci]; exact SVm_TM hp hf (by simp) (by simp) (by simp) (by simp) (by omega), by rw [ci]; exact isN_fr hf (by simp) (a4 i (by omega) ns), by rw [ci]; exact isN_fr hf (by simp) (a5 i (by omega))⟩
    · have ns : ¬ slvI (gi μ 84 3) (nI i) = 1 := by
        intro z; rw [if_pos z] at hx2; rw [hx2] at q; exact absurd q (by decide)
      rintro x6 m6 ⟨⟨pf, pi, pB⟩, hx6, hle⟩
      rw [ci] at hx6 hle pB
      rw [gn_fr hf (by simp), gn_fr hf (by simp)] at hx6 hle
      have tb : tabM μ i (cM m6) := tabM_of hf (by simp) (by simp) (by simp) (by simp) pB
      have hf6 : fr [75, 90] μ m6 := fr_trans hf (fr_mono pf (by simp))
      have h756 : f75 μ m6 := fun k hk => by rw [pf.1 75 (by simp)]; exact h75 k hk
      have so : soR μ i (cM m6 (gn μ 84 (5 + i)) (decN (gn μ 84 (10 + i)))) := Or.inr ⟨_, tb, rfl, hle⟩
      generalize hc : cM m6 (gn μ 84 (5 + i)) (decN (gn μ 84 (10 + i))) = cv at *
      rw [hx6, show (100000000 : Int32) = nI 100000000 from rfl, nI_eq (by omega) (by omega)]
      exact ⟨fun q2 => step m6 cv 0 hf6 h756 so (by rw [if_neg (fun z => q2 z.2)]), fun q2 => step m6 cv _ hf6 h756 so (by rw [if_pos ⟨ns, q2⟩])⟩
theorem sp_X9_loved : Sp yX9_loved cX9_loved 3 (some .int) 4 S_X9_loved := by
  refine sp_of (by decide) (fun av μ P h => ?_) ?_
  · obtain ⟨rfl, -⟩ := h
    refine ⟨Nat.le_of_ble_eq_true rfl, fun v hv => ?_⟩
    simp only [List.mem_cons, List.not_mem_nil, or_false] at hv
    subst hv; rfl
  · rintro X P hO _ μ ⟨rfl, hpre, hpost⟩ hn
    have hJ : ∀ n : Nat, (∀ (l1 : Int32) (l2 : Int32) (m : Mem), inv_X9_loved_9  μ n l1 l2 m → V X 9 [some (.ref 75), some (.int l1), some (.int l2)] [] m) := by
      intro n
      induction n using Nat.strongRecOn with
      | _ n ih =>
        exact fun l1 l2 m hi => wk_X9_loved_9 (J9 := (fun l1 l2 m => ∃ k : Nat, k < n ∧ inv_X9_loved_9  μ k l1 l2 m)) hO hn   l1 l2 m hpost (fun l1 l2 m hk => by obtain ⟨k, hk, hi⟩ := hk; exact (ih k hk) l1 l2 m hi) (vp_X9_loved_9   μ hpre n l1 l2 m hi)
    exact wk_X9_loved_0 (J9 := (fun l1 l2 m => ∃ k : Nat, inv_X9_loved_9  μ k l1 l2 m)) hO hn   μ hpost (fun l1 l2 m hk => by obtain ⟨k, hi⟩ := hk; exact (hJ k) l1 l2 m hi) (vp_X9_loved_0   μ hpre)
def S_X9_country : Tr := fun av μ P => av = [.ref 75] ∧ pre_X9_country  μ ∧ ∀ (x : Int32) (m : Mem), post_X9_country  μ x m → P (some (.int x)) m
def vc_X9_country_0   (μ : Mem) (R : Int32 → Mem → Prop) (J35 : Int32 → Int32 → Int32 → Mem → Prop) (J53 : Int32 → Int32 → Int32 → Int32 → Int32 → Mem → Prop) : Prop :=
  (∀ μ1, μ1 = ui μ 75 0 0 → (pre_X9_gathers  μ1 ∧ ∀ (μ4 : Mem), post_X9_gathers  μ1 μ4 → (pre_X9_ones (gi μ4 84 3) μ4 ∧ ∀ (x6 : Int32) (μ7 : Mem), post_X9_ones (gi μ4 84 3) μ4 x6 μ7 → J35 ((((gi μ4 77 0) / 2) + 1) - x6) 100000000 0 μ7)))
set_option maxRecDepth 20000 in
set_option maxHeartbeats 4000000 in
theorem wk_X9_country_0 {X : XT} {P : Post} (hO : OkM X cX9_country RX9 5 (some .int) P) (hn : xn X = 6)    (μ : Mem) {R : Int32 → Mem → Prop} (hR : ∀ x m, R x m → P (some (.int x)) m) {J35 : Int32 → Int32 → Int32 → Mem → Prop} {J53 : Int32 → Int32 → Int32 → Int32 → Int32 → Mem → Prop} (hJ35 : ∀ (l1 : Int32) (l2 : Int32) (l3 : Int32) (m : Mem), J35 l1 l2 l3 m → V X 35 [some (.ref 75), some (.int l1), some (.int l2), some (.int l3), none, none] [] m) (hJ53 : ∀ (l1 : Int32) (l2 : Int32) (l3 : Int32) (l4 : Int32) (l5 : Int32) (m : Mem), J53 l1 l2 l3 l4 l5 m → V X 53 [some (.ref 75), some (.int l1), some (.int l2), some (.int l3), some (.int l4), some (.int l5)] [] m)  (h : vc_X9_country_0   μ R J35 J53) : V X 0 [some (.ref 75), none, none, none, none, none] [] μ := by
  have hX := hO.1
  unfold vc_X9_country_0 at h
  refine v_aload_n hX dX9_country_0 rfl (?_ : V X 1 [some (.ref 75), none, none, none, none, none] [.ref 75] μ)
  refine v_iconst hX 0 dX9_country_1 rfl (?_ : V X 2 [some (.ref 75), none, none, none, none, none] [.int 0, .ref 75] μ)
  refine w_puti hX fk_X9_74 fw_9_0 sh_75 rfl dX9_country_2 (fun μ1 e2 => (?_ : V X 5 [some (.ref 75), none, none, none, none, none] [] μ1))
  replace h := h μ1 e2
  refine v_aload_n hX dX9_country_5 rfl (?_ : V X 6 [some (.ref 75), none, none, none, none, none] [.ref 75] μ1)
  refine v_callV hX sp_X9_gathers ck_X9_gathers mk_X9_183 mv_X9_gathers sh_75 (by decide) (by decide) [] [] rfl rfl (Nat.le_of_ble_eq_true rfl) dX9_country_6 ⟨rfl, h.1, fun μ4 hp5 => (?_ : V X 9 [some (.ref 75), none, none, none, none, none] [] μ4)⟩
  replace h := h.2 μ4 hp5
  refine v_aload_n hX dX9_country_9 rfl (?_ : V X 10 [some (.ref 75), none, none, none, none, none] [.ref 75] μ4)
  refine v_getr hX (77) fk_X9_13 sh_75 rfl rfl dX9_country_10 (?_ : V X 13 [some (.ref 75), none, none, none, none, none] [.ref 77] μ4)
  refine v_iconst hX 0 dX9_country_13 rfl (?_ : V X 14 [some (.ref 75), none, none, none, none, none] [.int 0, .ref 77] μ4)
  refine w_iald hX 0 sh_77 (vp_lit (by decide)) (by decide) dX9_country_14 (?_ : V X 15 [some (.ref 75), none, none, none, none, none] [.int (gi μ4 77 0)] μ4)
  refine v_iconst hX 2 dX9_country_15 rfl (?_ : V X 16 [some (.ref 75), none, none, none, none, none] [.int 2, .int (gi μ4 77 0)] μ4)
  refine v_idiv hX dX9_country_16 (by decide) (?_ : V X 17 [some (.ref 75), none, none, none, none, none] [.int ((gi μ4 77 0) / 2)] μ4)
  refine v_iconst hX 1 dX9_country_17 rfl (?_ : V X 18 [some (.ref 75), none, none, none, none, none] [.int 1, .int ((gi μ4 77 0) / 2)] μ4)
  refine v_iadd hX dX9_country_18 (?_ : V X 19 [some (.ref 75), none, none, none, none, none] [.int (((gi μ4 77 0) / 2) + 1)] μ4)
  refine v_aload_n hX dX9_country_19 rfl (?_ : V X 20 [some (.ref 75), none, none, none, none, none] [.ref 75, .int (((gi μ4 77 0) / 2) + 1)] μ4)
  refine v_getr hX (84) fk_X9_34 sh_75 rfl rfl dX9_country_20 (?_ : V X 23 [some (.ref 75), none, none, none, none, none] [.ref 84, .int (((gi μ4 77 0) / 2) + 1)] μ4)
  refine v_iconst hX 3 dX9_country_23 rfl (?_ : V X 24 [some (.ref 75), none, none, none, none, none] [.int 3, .ref 84, .int (((gi μ4 77 0) / 2) + 1)] μ4)
  refine w_iald hX 3 sh_84 (vp_lit (by decide)) (by decide) dX9_country_24 (?_ : V X 25 [some (.ref 75), none, none, none, none, none] [.int (gi μ4 84 3), .int (((gi μ4 77 0) / 2) + 1)] μ4)
  refine v_callS hX sp_X9_ones ck_X9_ones mk_X9_189 sk_X9_ones (by decide) [.int (gi μ4 84 3)] [.int (((gi μ4 77 0) / 2) + 1)] rfl rfl (Nat.le_of_ble_eq_true rfl) dX9_country_25 ⟨(gi μ4 84 3), rfl, h.1, fun x6 μ7 hp8 => (?_ : V X 28 [some (.ref 75), none, none, none, none, none] [.int x6, .int (((gi μ4 77 0) / 2) + 1)] μ7)⟩
  replace h := h.2 x6 μ7 hp8
  refine v_isub hX dX9_country_28 (?_ : V X 29 [some (.ref 75), none, none, none, none, none] [.int ((((gi μ4 77 0) / 2) + 1) - x6)] μ7)
  refine v_istore_n hX dX9_country_29 (by rw [hn]; decide) (?_ : V X 30 [some (.ref 75), some (.int ((((gi μ4 77 0) / 2) + 1) - x6)), none, none, none, none] [] μ7)
  refine v_ldc hX 100000000 dX9_country_30 kk_X9_172 (?_ : V X 32 [some (.ref 75), some (.int ((((gi μ4 77 0) / 2) + 1) - x6)), none, none, none, none] [.int 100000000] μ7)
  refine v_istore_n hX dX9_country_32 (by rw [hn]; decide) (?_ : V X 33 [some (.ref 75), some (.int ((((gi μ4 77 0) / 2) + 1) - x6)), some (.int 100000000), none, none, none] [] μ7)
  refine v_iconst hX 0 dX9_country_33 rfl (?_ : V X 34 [some (.ref 75), some (.int ((((gi μ4 77 0) / 2) + 1) - x6)), some (.int 100000000), none, none, none] [.int 0] μ7)
  refine v_istore_n hX dX9_country_34 (by rw [hn]; decide) (?_ : V X 35 [some (.ref 75), some (.int ((((gi μ4 77 0) / 2) + 1) - x6)), some (.int 100000000), some (.int 0), none, none] [] μ7)
  exact v_mask [true, true, true, true, false, false] (hJ35 _ _ _ _ h)
def vc_X9_country_35  (l1 : Int32) (l2 : Int32) (l3 : Int32) (μ : Mem) (R : Int32 → Mem → Prop) (J35 : Int32 → Int32 → Int32 → Mem → Prop) (J53 : Int32 → Int32 → Int32 → Int32 → Int32 → Mem → Prop) : Prop :=
  (((1 <<< ((gi μ 77 0) &&& 31)) ≤ l3 → ((¬ l2 = 100000000 → R l2 μ) ∧ (l2 = 100000000 → R ((-9)) μ))) ∧ (¬ (1 <<< ((gi μ 77 0) &&& 31)) ≤ l3 → J53 l1 l2 l3 0 0 μ))
set_option maxRecDepth 20000 in
set_option maxHeartbeats 4000000 in
theorem wk_X9_country_35 {X : XT} {P : Post} (hO : OkM X cX9_country RX9 5 (some .int) P) (hn : xn X = 6)   (l1 : Int32) (l2 : Int32) (l3 : Int32) (μ : Mem) {R : Int32 → Mem → Prop} (hR : ∀ x m, R x m → P (some (.int x)) m) {J35 : Int32 → Int32 → Int32 → Mem → Prop} {J53 : Int32 → Int32 → Int32 → Int32 → Int32 → Mem → Prop} (hJ35 : ∀ (l1 : Int32) (l2 : Int32) (l3 : Int32) (m : Mem), J35 l1 l2 l3 m → V X 35 [some (.ref 75), some (.int l1), some (.int l2), some (.int l3), none, none] [] m) (hJ53 : ∀ (l1 : Int32) (l2 : Int32) (l3 : Int32) (l4 : Int32) (l5 : Int32) (m : Mem), J53 l1 l2 l3 l4 l5 m → V X 53 [some (.ref 75), some (.int l1), some (.int l2), some (.int l3), some (.int l4), some (.int l5)] [] m)  (h : vc_X9_country_35  l1 l2 l3 μ R J35 J53) : V X 35 [some (.ref 75), some (.int l1), some (.int l2), some (.int l3), none, none] [] μ := by
  have hX := hO.1
  unfold vc_X9_country_35 at h
  refine v_iload_n hX dX9_country_35 rfl (?_ : V X 36 [some (.ref 75), some (.int l1), some (.int l2), some (.int l3), none, none] [.int l3] μ)
  refine v_iconst hX 1 dX9_country_36 rfl (?_ : V X 37 [some (.ref 75), some (.int l1), some (.int l2), some (.int l3), none, none] [.int 1, .int l3] μ)
  refine v_aload_n hX dX9_country_37 rfl (?_ : V X 38 [some (.ref 75), some (.int l1), some (.int l2), some (.int l3), none, none] [.ref 75, .int 1, .int l3] μ)
  refine v_getr hX (77) fk_X9_13 sh_75 rfl rfl dX9_country_38 (?_ : V X 41 [some (.ref 75), some (.int l1), some (.int l2), some (.int l3), none, none] [.ref 77, .int 1, .int l3] μ)
  refine v_iconst hX 0 dX9_country_41 rfl (?_ : V X 42 [some (.ref 75), some (.int l1), some (.int l2), some (.int l3), none, none] [.int 0, .ref 77, .int 1, .int l3] μ)
  refine w_iald hX 0 sh_77 (vp_lit (by decide)) (by decide) dX9_country_42 (?_ : V X 43 [some (.ref 75), some (.int l1), some (.int l2), some (.int l3), none, none] [.int (gi μ 77 0), .int 1, .int l3] μ)
  refine v_ishl hX dX9_country_43 (?_ : V X 44 [some (.ref 75), some (.int l1), some (.int l2), some (.int l3), none, none] [.int (1 <<< ((gi μ 77 0) &&& 31)), .int l3] μ)
  refine v_icmp_ge hX 123 dX9_country_44 rfl (fun c1 => ?_) (fun c1 => ?_)
  · replace h := h.1 c1
    refine v_iload_n hX dX9_country_123 rfl (?_ : V X 124 [some (.ref 75), some (.int l1), some (.int l2), some (.int l3), none, none] [.int l2] μ)
    refine v_ldc hX 100000000 dX9_country_124 kk_X9_172 (?_ : V X 126 [some (.ref 75), some (.int l1), some (.int l2), some (.int l3), none, none] [.int 100000000, .int l2] μ)
    refine v_icmp_ne hX 134 dX9_country_126 rfl (fun c2 => ?_) (fun c2 => ?_)
    · replace h := h.1 c2
      refine v_iload_n hX dX9_country_134 rfl (?_ : V X 135 [some (.ref 75), some (.int l1), some (.int l2), some (.int l3), none, none] [.int l2] μ)
      exact v_iret hO dX9_country_135 (hR _ _ h)
    · replace h := h.2 c2
      refine v_bipush hX (-9) dX9_country_129 rfl (?_ : V X 131 [some (.ref 75), some (.int l1), some (.int l2), some (.int l3), none, none] [.int ((-9))] μ)
      refine v_goto hX 135 dX9_country_131 rfl (?_ : V X 135 [some (.ref 75), some (.int l1), some (.int l2), some (.int l3), none, none] [.int ((-9))] μ)
      exact v_iret hO dX9_country_135 (hR _ _ h)
  · replace h := h.2 c1
    refine v_iconst hX 0 dX9_country_47 rfl (?_ : V X 48 [some (.ref 75), some (.int l1), some (.int l2), some (.int l3), none, none] [.int 0] μ)
    refine v_istore hX dX9_country_48 (by rw [hn]; decide) (?_ : V X 50 [some (.ref 75), some (.int l1), some (.int l2), some (.int l3), some (.int 0), none] [] μ)
    refine v_iconst hX 0 dX9_country_50 rfl (?_ : V X 51 [some (.ref 75), some (.int l1), some (.int l2), some (.int l3), some (.int 0), none] [.int 0] μ)
    refine v_istore hX dX9_country_51 (by rw [hn]; decide) (?_ : V X 53 [some (.ref 75), some (.int l1), some (.int l2), some (.int l3), some (.int 0), some (.int 0)] [] μ)
    exact v_mask [true, true, true, true, true, true] (hJ53 _ _ _ _ _ _ h)
def vc_X9_country_53  (l1 : Int32) (l2 : Int32) (l3 : Int32) (l4 : Int32) (l5 : Int32) (μ : Mem) (R : Int32 → Mem → Prop) (J35 : Int32 → Int32 → Int32 → Mem → Prop) (J53 : Int32 → Int32 → Int32 → Int32 → Int32 → Mem → Prop) : Prop :=
  (((gi μ 77 0) ≤ l5 → (pre_X9_ones l3 μ ∧ ∀ (x2 : Int32) (μ3 : Mem), post_X9_ones l3 μ x2 μ3 → ((x2 < l1 → J35 l1 l2 (l3 + 1) μ3) ∧ (¬ x2 < l1 → ((l2 ≤ l4 → J35 l1 l2 (l3 + 1) μ3) ∧ (¬ l2 ≤ l4 → J35 l1 l4 (l3 + 1) μ3)))))) ∧ (¬ (gi μ 77 0) ≤ l5 → ((¬ ((l3 >>> (l5 &&& 31)) &&& 1) = 1 → J53 l1 l2 l3 (l4 + 0) (l5 + 1) μ) ∧ (((l3 >>> (l5 &&& 31)) &&& 1) = 1 → vp_in l5 5 ∧ J53 l1 l2 l3 (l4 + (gi μ 91 (Int32.toNatClampNeg l5))) (l5 + 1) μ))))
set_option maxRecDepth 20000 in
set_option maxHeartbeats 4000000 in
theorem wk_X9_country_53 {X : XT} {P : Post} (hO : OkM X cX9_country RX9 5 (some .int) P) (hn : xn X = 6)   (l1 : Int32) (l2 : Int32) (l3 : Int32) (l4 : Int32) (l5 : Int32) (μ : Mem) {R : Int32 → Mem → Prop} (hR : ∀ x m, R x m → P (some (.int x)) m) {J35 : Int32 → Int32 → Int32 → Mem → Prop} {J53 : Int32 → Int32 → Int32 → Int32 → Int32 → Mem → Prop} (hJ35 : ∀ (l1 : Int32) (l2 : Int32) (l3 : Int32) (m : Mem), J35 l1 l2 l3 m → V X 35 [some (.ref 75), some (.int l1), some (.int l2), some (.int l3), none, none] [] m) (hJ53 : ∀ (l1 : Int32) (l2 : Int32) (l3 : Int32) (l4 : Int32) (l5 : Int32) (m : Mem), J53 l1 l2 l3 l4 l5 m → V X 53 [some (.ref 75), some (.int l1), some (.int l2), some (.int l3), some (.int l4), some (.int l5)] [] m)  (h : vc_X9_country_53  l1 l2 l3 l4 l5 μ R J35 J53) : V X 53 [some (.ref 75), some (.int l1), some (.int l2), some (.int l3), some (.int l4), some (.int l5)] [] μ := by
  have hX := hO.1
  unfold vc_X9_country_53 at h
  refine v_iload hX dX9_country_53 rfl (?_ : V X 55 [some (.ref 75), some (.int l1), some (.int l2), some (.int l3), some (.int l4), some (.int l5)] [.int l5] μ)
  refine v_aload_n hX dX9_country_55 rfl (?_ : V X 56 [some (.ref 75), some (.int l1), some (.int l2), some (.int l3), some (.int l4), some (.int l5)] [.ref 75, .int l5] μ)
  refine v_getr hX (77) fk_X9_13 sh_75 rfl rfl dX9_country_56 (?_ : V X 59 [some (.ref 75), some (.int l1), some (.int l2), some (.int l3), some (.int l4), some (.int l5)] [.ref 77, .int l5] μ)
  refine v_iconst hX 0 dX9_country_59 rfl (?_ : V X 60 [some (.ref 75), some (.int l1), some (.int l2), some (.int l3), some (.int l4), some (.int l5)] [.int 0, .ref 77, .int l5] μ)
  refine w_iald hX 0 sh_77 (vp_lit (by decide)) (by decide) dX9_country_60 (?_ : V X 61 [some (.ref 75), some (.int l1), some (.int l2), some (.int l3), some (.int l4), some (.int l5)] [.int (gi μ 77 0), .int l5] μ)
  refine v_icmp_ge hX 96 dX9_country_61 rfl (fun c1 => ?_) (fun c1 => ?_)
  · replace h := h.1 c1
    refine v_iload_n hX dX9_country_96 rfl (?_ : V X 97 [some (.ref 75), some (.int l1), some (.int l2), some (.int l3), some (.int l4), some (.int l5)] [.int l3] μ)
    refine v_callS hX sp_X9_ones ck_X9_ones mk_X9_189 sk_X9_ones (by decide) [.int l3] [] rfl rfl (Nat.le_of_ble_eq_true rfl) dX9_country_97 ⟨l3, rfl, h.1, fun x2 μ3 hp4 => (?_ : V X 100 [some (.ref 75), some (.int l1), some (.int l2), some (.int l3), some (.int l4), some (.int l5)] [.int x2] μ3)⟩
    replace h := h.2 x2 μ3 hp4
    refine v_iload_n hX dX9_country_100 rfl (?_ : V X 101 [some (.ref 75), some (.int l1), some (.int l2), some (.int l3), some (.int l4), some (.int l5)] [.int l1, .int x2] μ3)
    refine v_icmp_lt hX 115 dX9_country_101 rfl (fun c5 => ?_) (fun c5 => ?_)
    · replace h := h.1 c5
      refine v_iload_n hX dX9_country_115 rfl (?_ : V X 116 [some (.ref 75), some (.int l1), some (.int l2), some (.int l3), some (.int l4), some (.int l5)] [.int l2] μ3)
      refine v_istore_n hX dX9_country_116 (by rw [hn]; decide) (?_ : V X 117 [some (.ref 75), some (.int l1), some (.int l2), some (.int l3), some (.int l4), some (.int l5)] [] μ3)
      refine v_iinc hX 1 dX9_country_117 (by rw [hn]; decide) rfl rfl (?_ : V X 120 [some (.ref 75), some (.int l1), some (.int l2), some (.int (l3 + 1)), some (.int l4), some (.int l5)] [] μ3)
      refine v_goto hX 35 dX9_country_120 rfl (?_ : V X 35 [some (.ref 75), some (.int l1), some (.int l2), some (.int (l3 + 1)), some (.int l4), some (.int l5)] [] μ3)
      exact v_mask [true, true, true, true, false, false] (hJ35 _ _ _ _ h)
    · replace h := h.2 c5
      refine v_iload hX dX9_country_104 rfl (?_ : V X 106 [some (.ref 75), some (.int l1), some (.int l2), some (.int l3), some (.int l4), some (.int l5)] [.int l4] μ3)
      refine v_iload_n hX dX9_country_106 rfl (?_ : V X 107 [some (.ref 75), some (.int l1), some (.int l2), some (.int l3), some (.int l4), some (.int l5)] [.int l2, .int l4] μ3)
      refine v_icmp_ge hX 115 dX9_country_107 rfl (fun c6 => ?_) (fun c6 => ?_)
      · replace h := h.1 c6
        refine v_iload_n hX dX9_country_115 rfl (?_ : V X 116 [some (.ref 75), some (.int l1), some (.int l2), some (.int l3), some (.int l4), some (.int l5)] [.int l2] μ3)
        refine v_istore_n hX dX9_country_116 (by rw [hn]; decide) (?_ : V X 117 [some (.ref 75), some (.int l1), some (.int l2), some (.int l3), some (.int l4), some (.int l5)] [] μ3)
        refine v_iinc hX 1 dX9_country_117 (by rw [hn]; decide) rfl rfl (?_ : V X 120 [some (.ref 75), some (.int l1), some (.int l2), some (.int (l3 + 1)), some (.int l4), some (.int l5)] [] μ3)
        refine v_goto hX 35 dX9_country_120 rfl (?_ : V X 35 [some (.ref 75), some (.int l1), some (.int l2), some (.int (l3 + 1)), some (.int l4), some (.int l5)] [] μ3)
        exact v_mask [true, true, true, true, false, false] (hJ35 _ _ _ _ h)
      · replace h := h.2 c6
        refine v_iload hX dX9_country_110 rfl (?_ : V X 112 [some (.ref 75), some (.int l1), some (.int l2), some (.int l3), some (.int l4), some (.int l5)] [.int l4] μ3)
        refine v_goto hX 116 dX9_country_112 rfl (?_ : V X 116 [some (.ref 75), some (.int l1), some (.int l2), some (.int l3), some (.int l4), some (.int l5)] [.int l4] μ3)
        refine v_istore_n hX dX9_country_116 (by rw [hn]; decide) (?_ : V X 117 [some (.ref 75), some (.int l1), some (.int l4), some (.int l3), some (.int l4), some (.int l5)] [] μ3)
        refine v_iinc hX 1 dX9_country_117 (by rw [hn]; decide) rfl rfl (?_ : V X 120 [some (.ref 75), some (.int l1), some (.int l4), some (.int (l3 + 1)), some (.int l4), some (.int l5)] [] μ3)
        refine v_goto hX 35 dX9_country_120 rfl (?_ : V X 35 [some (.ref 75), some (.int l1), some (.int l4), some (.int (l3 + 1)), some (.int l4), some (.int l5)] [] μ3)
        exact v_mask [true, true, true, true, false, false] (hJ35 _ _ _ _ h)
  · replace h := h.2 c1
    refine v_iload hX dX9_country_64 rfl (?_ : V X 66 [some (.ref 75), some (.int l1), some (.int l2), some (.int l3), some (.int l4), some (.int l5)] [.int l4] μ)
    refine v_iload_n hX dX9_country_66 rfl (?_ : V X 67 [some (.ref 75), some (.int l1), some (.int l2), some (.int l3), some (.int l4), some (.int l5)] [.int l3, .int l4] μ)
    refine v_iload hX dX9_country_67 rfl (?_ : V X 69 [some (.ref 75), some (.int l1), some (.int l2), some (.int l3), some (.int l4), some (.int l5)] [.int l5, .int l3, .int l4] μ)
    refine v_ishr hX dX9_country_69 (?_ : V X 70 [some (.ref 75), some (.int l1), some (.int l2), some (.int l3), some (.int l4), some (.int l5)] [.int (l3 >>> (l5 &&& 31)), .int l4] μ)
    refine v_iconst hX 1 dX9_country_70 rfl (?_ : V X 71 [some (.ref 75), some (.int l1), some (.int l2), some (.int l3), some (.int l4), some (.int l5)] [.int 1, .int (l3 >>> (l5 &&& 31)), .int l4] μ)
    refine v_iand hX dX9_country_71 (?_ : V X 72 [some (.ref 75), some (.int l1), some (.int l2), some (.int l3), some (.int l4), some (.int l5)] [.int ((l3 >>> (l5 &&& 31)) &&& 1), .int l4] μ)
    refine v_iconst hX 1 dX9_country_72 rfl (?_ : V X 73 [some (.ref 75), some (.int l1), some (.int l2), some (.int l3), some (.int l4), some (.int l5)] [.int 1, .int ((l3 >>> (l5 &&& 31)) &&& 1), .int l4] μ)
    refine v_icmp_ne hX 86 dX9_country_73 rfl (fun c7 => ?_) (fun c7 => ?_)
    · replace h := h.1 c7
      refine v_iconst hX 0 dX9_country_86 rfl (?_ : V X 87 [some (.ref 75), some (.int l1), some (.int l2), some (.int l3), some (.int l4), some (.int l5)] [.int 0, .int l4] μ)
      refine v_iadd hX dX9_country_87 (?_ : V X 88 [some (.ref 75), some (.int l1), some (.int l2), some (.int l3), some (.int l4), some (.int l5)] [.int (l4 + 0)] μ)
      refine v_istore hX dX9_country_88 (by rw [hn]; decide) (?_ : V X 90 [some (.ref 75), some (.int l1), some (.int l2), some (.int l3), some (.int (l4 + 0)), some (.int l5)] [] μ)
      refine v_iinc hX 1 dX9_country_90 (by rw [hn]; decide) rfl rfl (?_ : V X 93 [some (.ref 75), some (.int l1), some (.int l2), some (.int l3), some (.int (l4 + 0)), some (.int (l5 + 1))] [] μ)
      refine v_goto hX 53 dX9_country_93 rfl (?_ : V X 53 [some (.ref 75), some (.int l1), some (.int l2), some (.int l3), some (.int (l4 + 0)), some (.int (l5 + 1))] [] μ)
      exact v_mask [true, true, true, true, true, true] (hJ53 _ _ _ _ _ _ h)
    · replace h := h.2 c7
      refine v_aload_n hX dX9_country_76 rfl (?_ : V X 77 [some (.ref 75), some (.int l1), some (.int l2), some (.int l3), some (.int l4), some (.int l5)] [.ref 75, .int l4] μ)
      refine v_getr hX (91) fk_X9_56 sh_75 rfl rfl dX9_country_77 (?_ : V X 80 [some (.ref 75), some (.int l1), some (.int l2), some (.int l3), some (.int l4), some (.int l5)] [.ref 91, .int l4] μ)
      refine v_iload hX dX9_country_80 rfl (?_ : V X 82 [some (.ref 75), some (.int l1), some (.int l2), some (.int l3), some (.int l4), some (.int l5)] [.int l5, .ref 91, .int l4] μ)
      have hb8 := h.1
      replace h := h.2
      refine w_iald hX (Int32.toNatClampNeg l5) sh_91 hb8 rfl dX9_country_82 (?_ : V X 83 [some (.ref 75), some (.int l1), some (.int l2), some (.int l3), some (.int l4), some (.int l5)] [.int (gi μ 91 (Int32.toNatClampNeg l5)), .int l4] μ)
      refine v_goto hX 87 dX9_country_83 rfl (?_ : V X 87 [some (.ref 75), some (.int l1), some (.int l2), some (.int l3), some (.int l4), some (.int l5)] [.int (gi μ 91 (Int32.toNatClampNeg l5)), .int l4] μ)
      refine v_iadd hX dX9_country_87 (?_ : V X 88 [some (.ref 75), some (.int l1), some (.int l2), some (.int l3), some (.int l4), some (.int l5)] [.int (l4 + (gi μ 91 (Int32.toNatClampNeg l5)))] μ)
      refine v_istore hX dX9_country_88 (by rw [hn]; decide) (?_ : V X 90 [some (.ref 75), some (.int l1), some (.int l2), some (.int l3), some (.int (l4 + (gi μ 91 (Int32.toNatClampNeg l5)))), some (.int l5)] [] μ)
      refine v_iinc hX 1 dX9_country_90 (by rw [hn]; decide) rfl rfl (?_ : V X 93 [some (.ref 75), some (.int l1), some (.int l2), some (.int l3), some (.int (l4 + (gi μ 91 (Int32.toNatClampNeg l5)))), some (.int (l5 + 1))] [] μ)
      refine v_goto hX 53 dX9_country_93 rfl (?_ : V X 53 [some (.ref 75), some (.int l1), some (.int l2), some (.int l3), some (.int (l4 + (gi μ 91 (Int32.toNatClampNeg l5)))), some (.int (l5 + 1))] [] μ)
      exact v_mask [true, true, true, true, true, true] (hJ53 _ _ _ _ _ _ h)
set_option maxRecDepth 20000 in
set_option maxHeartbeats 1000000 in
theorem vp_X9_country_0   (μ : Mem) (hpre : pre_X9_country  μ) : vc_X9_country_0  μ (post_X9_country  μ) (fun l1 l2 l3 m => ∃ k : Nat, inv_X9_country_35  μ k l1 l2 l3 m) (fun l1 l2 l3 l4 l5 m => ∃ k : Nat, inv_X9_country_53  μ k l1 l2 l3 l4 l5 m) := by
  unfold vc_X9_country_0
  rintro _ rfl
  refine ⟨hpre, ?_⟩
  rintro m4 ⟨gf, gv⟩
  refine ⟨trivial, ?_⟩
  rintro x6 m6 ⟨hx6, rfl⟩
  have hf : fr [75, 90, 91] μ m6 := fr_trans (fr_ui (by simp)) (fr_mono gf (by simp))
  have h75 : f75 μ m6 := fun k hk => by rw [gf.1 75 (by simp), gi_ui, if_neg (by simp [hk])]
  refine ⟨_, 0, Nat.zero_le _, rfl, rfl, ?_, hf, h75, gv, rfl⟩
  rw [hx6, hf.1 84 (by simp), hf.1 77 (by simp)]; rfl
set_option maxRecDepth 20000 in
set_option maxHeartbeats 1000000 in
theorem vp_X9_country_35   (μ : Mem) (hpre : pre_X9_country  μ) (n : Nat) (l1 : Int32) (l2 : Int32) (l3 : Int32) (μ0 : Mem) (hi : inv_X9_country_35  μ n l1 l2 l3 μ0) : vc_X9_country_35  l1 l2 l3 μ0 (post_X9_country  μ) (fun l1 l2 l3 m => ∃ k : Nat, k < n ∧ inv_X9_country_35  μ k l1 l2 l3 m) (fun l1 l2 l3 l4 l5 m => ∃ k : Nat, k < n ∧ inv_X9_country_53  μ k l1 l2 l3 l4 l5 m) := by
  unfold vc_X9_country_35
  obtain ⟨a0, a1, a2, a3, a4, a5⟩ := hpre
  obtain ⟨s, hs, rfl, rfl, rfl, hf, h75, hv, rfl⟩ := hi
  have hb := a0.2
  have h32 : 2 ^ gn μ 77 0 ≤ 2 ^ 5 := Nat.pow_le_pow_right (by omega) hb
  have e1 : (1 : Int32) <<< (gi μ0 77 0 &&& 31) = nI (2 ^ gn μ 77 0) := by
    rw [hf.1 77 (by simp), a0.1]; exact shl_pow _ (by omega)
  rw [e1, nI_leI (by omega) (by omega)]
  refine ⟨fun c => ?_, fun c => ⟨(2 ^ gn μ 77 0 - s - 1) * 100 + 10 + (gn μ 77 0 - 0), by omega, s, 0, by omega, Nat.zero_le _, rfl, rfl, rfl, rfl, rfl, hf, h75, hv, rfl⟩⟩
  have : s = 2 ^ gn μ 77 0 := by omega
  subst this
  exact ⟨fun q => ⟨hf, h75, gi μ0 91, hv, by rw [if_neg q]⟩, fun q => ⟨hf, h75, gi μ0 91, hv, by rw [if_pos q]⟩⟩
set_option maxRecDepth 20000 in
set_option maxHeartbeats 1000000 in
theorem vp_X9_country_53   (μ : Mem) (hpre : pre_X9_country  μ) (n : Nat) (l1 : Int32) (l2 : Int32) (l3 : Int32) (l4 : Int32) (l5 : Int32) (μ0 : Mem) (hi : inv_X9_country_53  μ n l1 l2 l3 l4 l5 μ0) : vc_X9_country_53  l1 l2 l3 l4 l5 μ0 (post_X9_country  μ) (fun l1 l2 l3 m => ∃ k : Nat, k < n ∧ inv_X9_country_35  μ k l1 l2 l3 m) (fun l1 l2 l3 l4 l5 m => ∃ k : Nat, k < n ∧ inv_X9_country_53  μ k l1 l2 l3 l4 l5 m) := by
  unfold vc_X9_country_53
  obtain ⟨a0, a1, a2, a3, a4, a5⟩ := hpre
  obtain ⟨s, i, hs, hi1, rfl, rfl, rfl, rfl, rfl, hf, h75, hv, rfl⟩ := hi
  have hb := a0.2
  have h32 : 2 ^ gn μ 77 0 ≤ 2 ^ 5 := Nat.pow_le_pow_right (by omega) hb
  rw [hf.1 77 (by simp), isN_le a0 (by omega) (by omega), nI_clamp (by omega)]
  refine ⟨fun c => ⟨trivial, ?_⟩, fun c => ⟨fun q => ⟨(2 ^ gn μ 77 0 - s - 1) * 100 + 10 + (gn μ 77 0 - (i + 1)), by omega, s, i + 1, hs, by omega, rfl, rfl, nI_1 i, rfl, ?_, hf, h75, hv, rfl⟩, fun q => ⟨vp_in_nI (by omega) (by omega), (2 ^ gn μ 77 0 - s - 1) * 100 + 10 + (gn μ 77 0 - (i + 1)), by omega, s, i + 1, hs, by omega, rfl, rfl, nI_1 i, rfl, ?_, hf, h75, hv, rfl⟩⟩⟩
  · have : i = gn μ 77 0 := by omega
    subst this
    rintro x2 m2 ⟨rfl, rfl⟩
    have key : ∀ v, v = cmF (gi m2 91) (wantM (gi μ 77 0) (gi μ 84 3)) (gn μ 77 0) (s + 1) → ∃ k, k < (2 ^ gn μ 77 0 - s - 1) * 100 + 10 + (gn μ 77 0 - gn μ 77 0) ∧ inv_X9_country_35 μ k (wantM (gi μ 77 0) (gi μ 84 3)) v (nI s + 1) m2 := fun v hv2 => ⟨(2 ^ gn μ 77 0 - (s + 1)) * 100, by omega, s + 1, by omega, rfl, nI_1 s, rfl, hf, h75, hv, hv2⟩
    refine ⟨fun q => key _ ?_, fun q => ⟨fun q2 => key _ ?_, fun q2 => key _ ?_⟩⟩
    · rw [cmF, if_pos (Or.inl q)]
    · rw [cmF, if_pos (Or.inr q2)]
    · rw [cmF, if_neg (by rintro (z | z); exact q z; exact q2 z)]
  · have q' : ¬ slvI (nI s) (nI i) = 1 := q
    simp only [setS, sumI]; rw [if_neg q']
  · have q' : slvI (nI s) (nI i) = 1 := q
    simp only [setS, sumI]; rw [if_pos q']
theorem sp_X9_country : Sp yX9_country cX9_country 6 (some .int) 5 S_X9_country := by
  refine sp_of (by decide) (fun av μ P h => ?_) ?_
  · obtain ⟨rfl, -⟩ := h
    refine ⟨Nat.le_of_ble_eq_true rfl, fun v hv => ?_⟩
    simp only [List.mem_cons, List.not_mem_nil, or_false] at hv
    subst hv; rfl
  · rintro X P hO _ μ ⟨rfl, hpre, hpost⟩ hn
    have hJ : ∀ n : Nat, (∀ (l1 : Int32) (l2 : Int32) (l3 : Int32) (m : Mem), inv_X9_country_35  μ n l1 l2 l3 m → V X 35 [some (.ref 75), some (.int l1), some (.int l2), some (.int l3), none, none] [] m) ∧ (∀ (l1 : Int32) (l2 : Int32) (l3 : Int32) (l4 : Int32) (l5 : Int32) (m : Mem), inv_X9_country_53  μ n l1 l2 l3 l4 l5 m → V X 53 [some (.ref 75), some (.int l1), some (.int l2), some (.int l3), some (.int l4), some (.int l5)] [] m) := by
      intro n
      induction n using Nat.strongRecOn with
      | _ n ih =>
        exact ⟨fun l1 l2 l3 m hi => wk_X9_country_35 (J35 := (fun l1 l2 l3 m => ∃ k : Nat, k < n ∧ inv_X9_country_35  μ k l1 l2 l3 m)) (J53 := (fun l1 l2 l3 l4 l5 m => ∃ k : Nat, k < n ∧ inv_X9_country_53  μ k l1 l2 l3 l4 l5 m)) hO hn   l1 l2 l3 m hpost (fun l1 l2 l3 m hk => by obtain ⟨k, hk, hi⟩ := hk; exact (ih k hk).1 l1 l2 l3 m hi) (fun l1 l2 l3 l4 l5 m hk => by obtain ⟨k, hk, hi⟩ := hk; exact (ih k hk).2 l1 l2 l3 l4 l5 m hi) (vp_X9_country_35   μ hpre n l1 l2 l3 m hi), fun l1 l2 l3 l4 l5 m hi => wk_X9_country_53 (J35 := (fun l1 l2 l3 m => ∃ k : Nat, k < n ∧ inv_X9_country_35  μ k l1 l2 l3 m)) (J53 := (fun l1 l2 l3 l4 l5 m => ∃ k : Nat, k < n ∧ inv_X9_country_53  μ k l1 l2 l3 l4 l5 m)) hO hn   l1 l2 l3 l4 l5 m hpost (fun l1 l2 l3 m hk => by obtain ⟨k, hk, hi⟩ := hk; exact (ih k hk).1 l1 l2 l3 m hi) (fun l1 l2 l3 l4 l5 m hk => by obtain ⟨k, hk, hi⟩ := hk; exact (ih k hk).2 l1 l2 l3 l4 l5 m hi) (vp_X9_country_53   μ hpre n l1 l2 l3 l4 l5 m hi)⟩
    exact wk_X9_country_0 (J35 := (fun l1 l2 l3 m => ∃ k : Nat, inv_X9_country_35  μ k l1 l2 l3 m)) (J53 := (fun l1 l2 l3 l4 l5 m => ∃ k : Nat, inv_X9_country_53  μ k l1 l2 l3 l4 l5 m)) hO hn   μ hpost (fun l1 l2 l3 m hk => by obtain ⟨k, hi⟩ := hk; exact (hJ k).1 l1 l2 l3 m hi) (fun l1 l2 l3 l4 l5 m hk => by obtain ⟨k, hi⟩ := hk; exact (hJ k).2 l1 l2 l3 l4 l5 m hi) (vp_X9_country_0   μ hpre)
def S_X9_soonest : Tr := fun av μ P => ∃ (p1 : Int32) (p2 : Int32), av = [.ref 75, .int p1, .int p2] ∧ pre_X9_soonest p1 p2 μ ∧ ∀ (x : Int32) (m : Mem), post_X9_soonest p1 p2 μ x m → P (some (.int x)) m
def vc_X9_soonest_0 (p1 : Int32) (p2 : Int32)  (μ : Mem) (R : Int32 → Mem → Prop) (J102 : Int32 → Int32 → Int32 → Mem → Prop) (J121 : Int32 → Int32 → Int32 → Int32 → Int32 → Mem → Prop) : Prop :=
  (∀ μ1, μ1 = ui μ 75 0 0 → (pre_X9_isRoom p1 μ1 ∧ ∀ (x3 : Int32) (μ4 : Mem), post_X9_isRoom p1 μ1 x3 μ4 → ((x3 = 0 → R ((-1)) μ4) ∧ (¬ x3 = 0 → ((((-2)) ≤ p2 → (pre_X9_isSolved p1 μ4 ∧ ∀ (x8 : Int32) (μ9 : Mem), post_X9_isSolved p1 μ4 x8 μ9 → ((x8 = 0 → (pre_X9_soonAt p1 μ9 ∧ ∀ (x12 : Int32) (μ13 : Mem), post_X9_soonAt p1 μ9 x12 μ13 → ((x12 = 100000000 → ((¬ x12 = 100000000 → ((¬ p2 = ((-1)) → R (x12 - x12 / 1000 * 1000) μ13) ∧ (p2 = ((-1)) → R (x12 / 1000) μ13))) ∧ (x12 = 100000000 → R ((-9)) μ13))) ∧ (¬ x12 = 100000000 → ((0 ≤ p2 → vp_in (5 + p1) 15 ∧ vp_in (10 + p1) 15 ∧ (∀ y21 : Int32, y21 = (gi μ13 84 (Int32.toNatClampNeg (10 + p1))) → J102 (gi μ13 84 (Int32.toNatClampNeg (5 + p1))) y21 0 μ13)) ∧ (¬ 0 ≤ p2 → ((¬ x12 = 100000000 → ((¬ p2 = ((-1)) → R (x12 - x12 / 1000 * 1000) μ13) ∧ (p2 = ((-1)) → R (x12 / 1000) μ13))) ∧ (x12 = 100000000 → R ((-9)) μ13)))))))) ∧ (¬ x8 = 0 → R ((-2)) μ9)))) ∧ (¬ ((-2)) ≤ p2 → R ((-1)) μ4))))))
set_option maxRecDepth 20000 in
set_option maxHeartbeats 4000000 in
theorem wk_X9_soonest_0 {X : XT} {P : Post} (hO : OkM X cX9_soonest RX9 4 (some .int) P) (hn : xn X = 9) (p1 : Int32) (p2 : Int32)   (μ : Mem) {R : Int32 → Mem → Prop} (hR : ∀ x m, R x m → P (some (.int x)) m) {J102 : Int32 → Int32 → Int32 → Mem → Prop} {J121 : Int32 → Int32 → Int32 → Int32 → Int32 → Mem → Prop} (hJ102 : ∀ (l4 : Int32) (l5 : Int32) (l6 : Int32) (m : Mem), J102 l4 l5 l6 m → V X 102 [some (.ref 75), some (.int p1), some (.int p2), none, some (.int l4), some (.int l5), some (.int l6), none, none] [] m) (hJ121 : ∀ (l4 : Int32) (l5 : Int32) (l6 : Int32) (l7 : Int32) (l8 : Int32) (m : Mem), J121 l4 l5 l6 l7 l8 m → V X 121 [some (.ref 75), some (.int p1), some (.int p2), none, some (.int l4), some (.int l5), some (.int l6), some (.int l7), some (.int l8)] [] m)  (h : vc_X9_soonest_0 p1 p2  μ R J102 J121) : V X 0 [some (.ref 75), some (.int p1), some (.int p2), none, none, none, none, none, none] [] μ := by
  have hX := hO.1
  unfold vc_X9_soonest_0 at h
  refine v_aload_n hX dX9_soonest_0 rfl (?_ : V X 1 [some (.ref 75), some (.int p1), some (.int p2), none, none, none, none, none, none] [.ref 75] μ)
  refine v_iconst hX 0 dX9_soonest_1 rfl (?_ : V X 2 [some (.ref 75), some (.int p1), some (.int p2), none, none, none, none, none, none] [.int 0, .ref 75] μ)
  refine w_puti hX fk_X9_74 fw_9_0 sh_75 rfl dX9_soonest_2 (fun μ1 e2 => (?_ : V X 5 [some (.ref 75), some (.int p1), some (.int p2), none, none, none, none, none, none] [] μ1))
  replace h := h μ1 e2
  refine v_aload_n hX dX9_soonest_5 rfl (?_ : V X 6 [some (.ref 75), some (.int p1), some (.int p2), none, none, none, none, none, none] [.ref 75] μ1)
  refine v_iload_n hX dX9_soonest_6 rfl (?_ : V X 7 [some (.ref 75), some (.int p1), some (.int p2), none, none, none, none, none, none] [.int p1, .ref 75] μ1)
  refine v_callV hX sp_X9_isRoom ck_X9_isRoom mk_X9_142 mv_X9_isRoom sh_75 (by decide) (by decide) [.int p1] [] rfl rfl (Nat.le_of_ble_eq_true rfl) dX9_soonest_7 ⟨p1, rfl, h.1, fun x3 μ4 hp5 => (?_ : V X 10 [some (.ref 75), some (.int p1), some (.int p2), none, none, none, none, none, none] [.int x3] μ4)⟩
  replace h := h.2 x3 μ4 hp5
  refine v_if_eq hX 19 dX9_soonest_10 rfl (fun c6 => ?_) (fun c6 => ?_)
  · replace h := h.1 c6
    refine v_iconst hX (-1) dX9_soonest_19 rfl (?_ : V X 20 [some (.ref 75), some (.int p1), some (.int p2), none, none, none, none, none, none] [.int ((-1))] μ4)
    exact v_iret hO dX9_soonest_20 (hR _ _ h)
  · replace h := h.2 c6
    refine v_iload_n hX dX9_soonest_13 rfl (?_ : V X 14 [some (.ref 75), some (.int p1), some (.int p2), none, none, none, none, none, none] [.int p2] μ4)
    refine v_bipush hX (-2) dX9_soonest_14 rfl (?_ : V X 16 [some (.ref 75), some (.int p1), some (.int p2), none, none, none, none, none, none] [.int ((-2)), .int p2] μ4)
    refine v_icmp_ge hX 21 dX9_soonest_16 rfl (fun c7 => ?_) (fun c7 => ?_)
    · replace h := h.1 c7
      refine v_aload_n hX dX9_soonest_21 rfl (?_ : V X 22 [some (.ref 75), some (.int p1), some (.int p2), none, none, none, none, none, none] [.ref 75] μ4)
      refine v_iload_n hX dX9_soonest_22 rfl (?_ : V X 23 [some (.ref 75), some (.int p1), some (.int p2), none, none, none, none, none, none] [.int p1, .ref 75] μ4)
      refine v_callV hX sp_X9_isSolved ck_X9_isSolved mk_X9_146 mv_X9_isSolved sh_75 (by decide) (by decide) [.int p1] [] rfl rfl (Nat.le_of_ble_eq_true rfl) dX9_soonest_23 ⟨p1, rfl, h.1, fun x8 μ9 hp10 => (?_ : V X 26 [some (.ref 75), some (.int p1), some (.int p2), none, none, none, none, none, none] [.int x8] μ9)⟩
      replace h := h.2 x8 μ9 hp10
      refine v_if_eq hX 32 dX9_soonest_26 rfl (fun c11 => ?_) (fun c11 => ?_)
      · replace h := h.1 c11
        refine v_aload_n hX dX9_soonest_32 rfl (?_ : V X 33 [some (.ref 75), some (.int p1), some (.int p2), none, none, none, none, none, none] [.ref 75] μ9)
        refine v_iload_n hX dX9_soonest_33 rfl (?_ : V X 34 [some (.ref 75), some (.int p1), some (.int p2), none, none, none, none, none, none] [.int p1, .ref 75] μ9)
        refine v_callV hX sp_X9_soonAt ck_X9_soonAt mk_X9_180 mv_X9_soonAt sh_75 (by decide) (by decide) [.int p1] [] rfl rfl (Nat.le_of_ble_eq_true rfl) dX9_soonest_34 ⟨p1, rfl, h.1, fun x12 μ13 hp14 => (?_ : V X 37 [some (.ref 75), some (.int p1), some (.int p2), none, none, none, none, none, none] [.int x12] μ13)⟩
        replace h := h.2 x12 μ13 hp14
        refine v_istore_n hX dX9_soonest_37 (by rw [hn]; decide) (?_ : V X 38 [some (.ref 75), some (.int p1), some (.int p2), some (.int x12), none, none, none, none, none] [] μ13)
        refine v_iload_n hX dX9_soonest_38 rfl (?_ : V X 39 [some (.ref 75), some (.int p1), some (.int p2), some (.int x12), none, none, none, none, none] [.int x12] μ13)
        refine v_ldc hX 100000000 dX9_soonest_39 kk_X9_172 (?_ : V X 41 [some (.ref 75), some (.int p1), some (.int p2), some (.int x12), none, none, none, none, none] [.int 100000000, .int x12] μ13)
        refine v_icmp_eq hX 48 dX9_soonest_41 rfl (fun c15 => ?_) (fun c15 => ?_)
        · replace h := h.1 c15
          refine v_iload_n hX dX9_soonest_48 rfl (?_ : V X 49 [some (.ref 75), some (.int p1), some (.int p2), some (.int x12), none, none, none, none, none] [.int x12] μ13)
          refine v_ldc hX 100000000 dX9_soonest_49 kk_X9_172 (?_ : V X 51 [some (.ref 75), some (.int p1), some (.int p2), some (.int x12), none, none, none, none, none] [.int 100000000, .int x12] μ13)
          refine v_icmp_ne hX 59 dX9_soonest_51 rfl (fun c16 => ?_) (fun c16 => ?_)
          · replace h := h.1 c16
            refine v_iload_n hX dX9_soonest_59 rfl (?_ : V X 60 [some (.ref 75), some (.int p1), some (.int p2), some (.int x12), none, none, none, none, none] [.int p2] μ13)
            refine v_iconst hX (-1) dX9_soonest_60 rfl (?_ : V X 61 [some (.ref 75), some (.int p1), some (.int p2), some (.int x12), none, none, none, none, none] [.int ((-1)), .int p2] μ13)
            refine v_icmp_ne hX 72 dX9_soonest_61 rfl (fun c17 => ?_) (fun c17 => ?_)
            · replace h := h.1 c17
              refine v_iload_n hX dX9_soonest_72 rfl (?_ : V X 73 [some (.ref 75), some (.int p1), some (.int p2), some (.int x12), none, none, none, none, none] [.int x12] μ13)
              refine v_sipush hX 1000 dX9_soonest_73 rfl (?_ : V X 76 [some (.ref 75), some (.int p1), some (.int p2), some (.int x12), none, none, none, none, none] [.int 1000, .int x12] μ13)
              refine v_irem hX dX9_soonest_76 (by decide) (?_ : V X 77 [some (.ref 75), some (.int p1), some (.int p2), some (.int x12), none, none, none, none, none] [.int (x12 - x12 / 1000 * 1000)] μ13)
              exact v_iret hO dX9_soonest_77 (hR _ _ h)
            · replace h := h.2 c17
              refine v_iload_n hX dX9_soonest_64 rfl (?_ : V X 65 [some (.ref 75), some (.int p1), some (.int p2), some (.int x12), none, none, none, none, none] [.int x12] μ13)
              refine v_sipush hX 1000 dX9_soonest_65 rfl (?_ : V X 68 [some (.ref 75), some (.int p1), some (.int p2), some (.int x12), none, none, none, none, none] [.int 1000, .int x12] μ13)
              refine v_idiv hX dX9_soonest_68 (by decide) (?_ : V X 69 [some (.ref 75), some (.int p1), some (.int p2), some (.int x12), none, none, none, none, none] [.int (x12 / 1000)] μ13)
              refine v_goto hX 77 dX9_soonest_69 rfl (?_ : V X 77 [some (.ref 75), some (.int p1), some (.int p2), some (.int x12), none, none, none, none, none] [.int (x12 / 1000)] μ13)
              exact v_iret hO dX9_soonest_77 (hR _ _ h)
          · replace h := h.2 c16
            refine v_bipush hX (-9) dX9_soonest_54 rfl (?_ : V X 56 [some (.ref 75), some (.int p1), some (.int p2), some (.int x12), none, none, none, none, none] [.int ((-9))] μ13)
            refine v_goto hX 77 dX9_soonest_56 rfl (?_ : V X 77 [some (.ref 75), some (.int p1), some (.int p2), some (.int x12), none, none, none, none, none] [.int ((-9))] μ13)
            exact v_iret hO dX9_soonest_77 (hR _ _ h)
        · replace h := h.2 c15
          refine v_iload_n hX dX9_soonest_44 rfl (?_ : V X 45 [some (.ref 75), some (.int p1), some (.int p2), some (.int x12), none, none, none, none, none] [.int p2] μ13)
          refine v_if_ge hX 78 dX9_soonest_45 rfl (fun c18 => ?_) (fun c18 => ?_)
          · replace h := h.1 c18
            refine v_aload_n hX dX9_soonest_78 rfl (?_ : V X 79 [some (.ref 75), some (.int p1), some (.int p2), some (.int x12), none, none, none, none, none] [.ref 75] μ13)
            refine v_getr hX (84) fk_X9_34 sh_75 rfl rfl dX9_soonest_79 (?_ : V X 82 [some (.ref 75), some (.int p1), some (.int p2), some (.int x12), none, none, none, none, none] [.ref 84] μ13)
            refine v_iconst hX 5 dX9_soonest_82 rfl (?_ : V X 83 [some (.ref 75), some (.int p1), some (.int p2), some (.int x12), none, none, none, none, none] [.int 5, .ref 84] μ13)
            refine v_iload_n hX dX9_soonest_83 rfl (?_ : V X 84 [some (.ref 75), some (.int p1), some (.int p2), some (.int x12), none, none, none, none, none] [.int p1, .int 5, .ref 84] μ13)
            refine v_iadd hX dX9_soonest_84 (?_ : V X 85 [some (.ref 75), some (.int p1), some (.int p2), some (.int x12), none, none, none, none, none] [.int (5 + p1), .ref 84] μ13)
            have hb19 := h.1
            replace h := h.2
            refine w_iald hX (Int32.toNatClampNeg (5 + p1)) sh_84 hb19 rfl dX9_soonest_85 (?_ : V X 86 [some (.ref 75), some (.int p1), some (.int p2), some (.int x12), none, none, none, none, none] [.int (gi μ13 84 (Int32.toNatClampNeg (5 + p1)))] μ13)
            refine v_istore hX dX9_soonest_86 (by rw [hn]; decide) (?_ : V X 88 [some (.ref 75), some (.int p1), some (.int p2), some (.int x12), some (.int (gi μ13 84 (Int32.toNatClampNeg (5 + p1)))), none, none, none, none] [] μ13)
            refine v_aload_n hX dX9_soonest_88 rfl (?_ : V X 89 [some (.ref 75), some (.int p1), some (.int p2), some (.int x12), some (.int (gi μ13 84 (Int32.toNatClampNeg (5 + p1)))), none, none, none, none] [.ref 75] μ13)
            refine v_getr hX (84) fk_X9_34 sh_75 rfl rfl dX9_soonest_89 (?_ : V X 92 [some (.ref 75), some (.int p1), some (.int p2), some (.int x12), some (.int (gi μ13 84 (Int32.toNatClampNeg (5 + p1)))), none, none, none, none] [.ref 84] μ13)
            refine v_bipush hX 10 dX9_soonest_92 rfl (?_ : V X 94 [some (.ref 75), some (.int p1), some (.int p2), some (.int x12), some (.int (gi μ13 84 (Int32.toNatClampNeg (5 + p1)))), none, none, none, none] [.int 10, .ref 84] μ13)
            refine v_iload_n hX dX9_soonest_94 rfl (?_ : V X 95 [some (.ref 75), some (.int p1), some (.int p2), some (.int x12), some (.int (gi μ13 84 (Int32.toNatClampNeg (5 + p1)))), none, none, none, none] [.int p1, .int 10, .ref 84] μ13)
            refine v_iadd hX dX9_soonest_95 (?_ : V X 96 [some (.ref 75), some (.int p1), some (.int p2), some (.int x12), some (.int (gi μ13 84 (Int32.toNatClampNeg (5 + p1)))), none, none, none, none] [.int (10 + p1), .ref 84] μ13)
            have hb20 := h.1
            replace h := h.2
            refine w_iald hX (Int32.toNatClampNeg (10 + p1)) sh_84 hb20 rfl dX9_soonest_96 (?_ : V X 97 [some (.ref 75), some (.int p1), some (.int p2), some (.int x12), some (.int (gi μ13 84 (Int32.toNatClampNeg (5 + p1)))), none, none, none, none] [.int (gi μ13 84 (Int32.toNatClampNeg (10 + p1)))] μ13)
            refine w_istore hX dX9_soonest_97 (by rw [hn]; decide) (fun y21 e22 => (?_ : V X 99 [some (.ref 75), some (.int p1), some (.int p2), some (.int x12), some (.int (gi μ13 84 (Int32.toNatClampNeg (5 + p1)))), some (.int y21), none, none, none] [] μ13))
            replace h := h y21 e22
            refine v_iconst hX 0 dX9_soonest_99 rfl (?_ : V X 100 [some (.ref 75), some (.int p1), some (.int p2), some (.int x12), some (.int (gi μ13 84 (Int32.toNatClampNeg (5 + p1)))), some (.int y21), none, none, none] [.int 0] μ13)
            refine v_istore hX dX9_soonest_100 (by rw [hn]; decide) (?_ : V X 102 [some (.ref 75), some (.int p1), some (.int p2), some (.int x12), some (.int (gi μ13 84 (Int32.toNatClampNeg (5 + p1)))), some (.int y21), some (.int 0), none, none] [] μ13)
            exact v_mask [true, true, true, false, true, true, true, false, false] (hJ102 _ _ _ _ h)
          · replace h := h.2 c18
            refine v_iload_n hX dX9_soonest_48 rfl (?_ : V X 49 [some (.ref 75), some (.int p1), some (.int p2), some (.int x12), none, none, none, none, none] [.int x12] μ13)
            refine v_ldc hX 100000000 dX9_soonest_49 kk_X9_172 (?_ : V X 51 [some (.ref 75), some (.int p1), some (.int p2), some (.int x12), none, none, none, none, none] [.int 100000000, .int x12] μ13)
            refine v_icmp_ne hX 59 dX9_soonest_51 rfl (fun c23 => ?_) (fun c23 => ?_)
            · replace h := h.1 c23
              refine v_iload_n hX dX9_soonest_59 rfl (?_ : V X 60 [some (.ref 75), some (.int p1), some (.int p2), some (.int x12), none, none, none, none, none] [.int p2] μ13)
              refine v_iconst hX (-1) dX9_soonest_60 rfl (?_ : V X 61 [some (.ref 75), some (.int p1), some (.int p2), some (.int x12), none, none, none, none, none] [.int ((-1)), .int p2] μ13)
              refine v_icmp_ne hX 72 dX9_soonest_61 rfl (fun c24 => ?_) (fun c24 => ?_)
              · replace h := h.1 c24
                refine v_iload_n hX dX9_soonest_72 rfl (?_ : V X 73 [some (.ref 75), some (.int p1), some (.int p2), some (.int x12), none, none, none, none, none] [.int x12] μ13)
                refine v_sipush hX 1000 dX9_soonest_73 rfl (?_ : V X 76 [some (.ref 75), some (.int p1), some (.int p2), some (.int x12), none, none, none, none, none] [.int 1000, .int x12] μ13)
                refine v_irem hX dX9_soonest_76 (by decide) (?_ : V X 77 [some (.ref 75), some (.int p1), some (.int p2), some (.int x12), none, none, none, none, none] [.int (x12 - x12 / 1000 * 1000)] μ13)
                exact v_iret hO dX9_soonest_77 (hR _ _ h)
              · replace h := h.2 c24
                refine v_iload_n hX dX9_soonest_64 rfl (?_ : V X 65 [some (.ref 75), some (.int p1), some (.int p2), some (.int x12), none, none, none, none, none] [.int x12] μ13)
                refine v_sipush hX 1000 dX9_soonest_65 rfl (?_ : V X 68 [some (.ref 75), some (.int p1), some (.int p2), some (.int x12), none, none, none, none, none] [.int 1000, .int x12] μ13)
                refine v_idiv hX dX9_soonest_68 (by decide) (?_ : V X 69 [some (.ref 75), some (.int p1), some (.int p2), some (.int x12), none, none, none, none, none] [.int (x12 / 1000)] μ13)
                refine v_goto hX 77 dX9_soonest_69 rfl (?_ : V X 77 [some (.ref 75), some (.int p1), some (.int p2), some (.int x12), none, none, none, none, none] [.int (x12 / 1000)] μ13)
                exact v_iret hO dX9_soonest_77 (hR _ _ h)
            · replace h := h.2 c23
              refine v_bipush hX (-9) dX9_soonest_54 rfl (?_ : V X 56 [some (.ref 75), some (.int p1), some (.int p2), some (.int x12), none, none, none, none, none] [.int ((-9))] μ13)
              refine v_goto hX 77 dX9_soonest_56 rfl (?_ : V X 77 [some (.ref 75), some (.int p1), some (.int p2), some (.int x12), none, none, none, none, none] [.int ((-9))] μ13)
              exact v_iret hO dX9_soonest_77 (hR _ _ h)
      · replace h := h.2 c11
        refine v_bipush hX (-2) dX9_soonest_29 rfl (?_ : V X 31 [some (.ref 75), some (.int p1), some (.int p2), none, none, none, none, none, none] [.int ((-2))] μ9)
        exact v_iret hO dX9_soonest_31 (hR _ _ h)
    · replace h := h.2 c7
      refine v_iconst hX (-1) dX9_soonest_19 rfl (?_ : V X 20 [some (.ref 75), some (.int p1), some (.int p2), none, none, none, none, none, none] [.int ((-1))] μ4)
      exact v_iret hO dX9_soonest_20 (hR _ _ h)
def vc_X9_soonest_102 (p1 : Int32) (p2 : Int32) (l4 : Int32) (l5 : Int32) (l6 : Int32) (μ : Mem) (R : Int32 → Mem → Prop) (J102 : Int32 → Int32 → Int32 → Mem → Prop) (J121 : Int32 → Int32 → Int32 → Int32 → Int32 → Mem → Prop) : Prop :=
  ((l4 < 0 → R ((-5)) μ) ∧ (¬ l4 < 0 → J121 l4 l5 l6 ((-9)) ((gi μ 77 1) - 1) μ))
set_option maxRecDepth 20000 in
set_option maxHeartbeats 4000000 in
theorem wk_X9_soonest_102 {X : XT} {P : Post} (hO : OkM X cX9_soonest RX9 4 (some .int) P) (hn : xn X = 9) (p1 : Int32) (p2 : Int32)  (l4 : Int32) (l5 : Int32) (l6 : Int32) (μ : Mem) {R : Int32 → Mem → Prop} (hR : ∀ x m, R x m → P (some (.int x)) m) {J102 : Int32 → Int32 → Int32 → Mem → Prop} {J121 : Int32 → Int32 → Int32 → Int32 → Int32 → Mem → Prop} (hJ102 : ∀ (l4 : Int32) (l5 : Int32) (l6 : Int32) (m : Mem), J102 l4 l5 l6 m → V X 102 [some (.ref 75), some (.int p1), some (.int p2), none, some (.int l4), some (.int l5), some (.int l6), none, none] [] m) (hJ121 : ∀ (l4 : Int32) (l5 : Int32) (l6 : Int32) (l7 : Int32) (l8 : Int32) (m : Mem), J121 l4 l5 l6 l7 l8 m → V X 121 [some (.ref 75), some (.int p1), some (.int p2), none, some (.int l4), some (.int l5), some (.int l6), some (.int l7), some (.int l8)] [] m)  (h : vc_X9_soonest_102 p1 p2 l4 l5 l6 μ R J102 J121) : V X 102 [some (.ref 75), some (.int p1), some (.int p2), none, some (.int l4), some (.int l5), some (.int l6), none, none] [] μ := by
  have hX := hO.1
  unfold vc_X9_soonest_102 at h
  refine v_iload hX dX9_soonest_102 rfl (?_ : V X 104 [some (.ref 75), some (.int p1), some (.int p2), none, some (.int l4), some (.int l5), some (.int l6), none, none] [.int l4] μ)
  refine v_if_lt hX 203 dX9_soonest_104 rfl (fun c1 => ?_) (fun c1 => ?_)
  · replace h := h.1 c1
    refine v_bipush hX (-5) dX9_soonest_203 rfl (?_ : V X 205 [some (.ref 75), some (.int p1), some (.int p2), none, some (.int l4), some (.int l5), some (.int l6), none, none] [.int ((-5))] μ)
    exact v_iret hO dX9_soonest_205 (hR _ _ h)
  · replace h := h.2 c1
    refine v_bipush hX (-9) dX9_soonest_107 rfl (?_ : V X 109 [some (.ref 75), some (.int p1), some (.int p2), none, some (.int l4), some (.int l5), some (.int l6), none, none] [.int ((-9))] μ)
    refine v_istore hX dX9_soonest_109 (by rw [hn]; decide) (?_ : V X 111 [some (.ref 75), some (.int p1), some (.int p2), none, some (.int l4), some (.int l5), some (.int l6), some (.int ((-9))), none] [] μ)
    refine v_aload_n hX dX9_soonest_111 rfl (?_ : V X 112 [some (.ref 75), some (.int p1), some (.int p2), none, some (.int l4), some (.int l5), some (.int l6), some (.int ((-9))), none] [.ref 75] μ)
    refine v_getr hX (77) fk_X9_13 sh_75 rfl rfl dX9_soonest_112 (?_ : V X 115 [some (.ref 75), some (.int p1), some (.int p2), none, some (.int l4), some (.int l5), some (.int l6), some (.int ((-9))), none] [.ref 77] μ)
    refine v_iconst hX 1 dX9_soonest_115 rfl (?_ : V X 116 [some (.ref 75), some (.int p1), some (.int p2), none, some (.int l4), some (.int l5), some (.int l6), some (.int ((-9))), none] [.int 1, .ref 77] μ)
    refine w_iald hX 1 sh_77 (vp_lit (by decide)) (by decide) dX9_soonest_116 (?_ : V X 117 [some (.ref 75), some (.int p1), some (.int p2), none, some (.int l4), some (.int l5), some (.int l6), some (.int ((-9))), none] [.int (gi μ 77 1)] μ)
    refine v_iconst hX 1 dX9_soonest_117 rfl (?_ : V X 118 [some (.ref 75), some (.int p1), some (.int p2), none, some (.int l4), some (.int l5), some (.int l6), some (.int ((-9))), none] [.int 1, .int (gi μ 77 1)] μ)
    refine v_isub hX dX9_soonest_118 (?_ : V X 119 [some (.ref 75), some (.int p1), some (.int p2), none, some (.int l4), some (.int l5), some (.int l6), some (.int ((-9))), none] [.int ((gi μ 77 1) - 1)] μ)
    refine v_istore hX dX9_soonest_119 (by rw [hn]; decide) (?_ : V X 121 [some (.ref 75), some (.int p1), some (.int p2), none, some (.int l4), some (.int l5), some (.int l6), some (.int ((-9))), some (.int ((gi μ 77 1) - 1))] [] μ)
    exact v_mask [true, true, true, false, true, true, true, true, true] (hJ121 _ _ _ _ _ _ h)
def vc_X9_soonest_121 (p1 : Int32) (p2 : Int32) (l4 : Int32) (l5 : Int32) (l6 : Int32) (l7 : Int32) (l8 : Int32) (μ : Mem) (R : Int32 → Mem → Prop) (J102 : Int32 → Int32 → Int32 → Mem → Prop) (J121 : Int32 → Int32 → Int32 → Int32 → Int32 → Mem → Prop) : Prop :=
  ((l8 < 0 → ((¬ l6 = p2 → (pre_X9_hurt p1 l7 l5 μ ∧ ∀ (x3 : Int32) (μ4 : Mem), post_X9_hurt p1 l7 l5 μ x3 μ4 → J102 (l4 - x3) (l7 + 1) (l6 + 1) μ4)) ∧ (l6 = p2 → R l7 μ))) ∧ (¬ l8 < 0 → (pre_X9_soonBy p1 l4 l5 l8 μ ∧ ∀ (x6 : Int32) (μ7 : Mem), post_X9_soonBy p1 l4 l5 l8 μ x6 μ7 → vp_in ((6 * l4) + l5) 186 ∧ ((¬ x6 = (gi μ7 90 (Int32.toNatClampNeg ((6 * l4) + l5))) → J121 l4 l5 l6 l7 (l8 + (-1)) μ7) ∧ (x6 = (gi μ7 90 (Int32.toNatClampNeg ((6 * l4) + l5))) → J121 l4 l5 l6 l8 (l8 + (-1)) μ7)))))
set_option maxRecDepth 20000 in
set_option maxHeartbeats 4000000 in
theorem wk_X9_soonest_121 {X : XT} {P : Post} (hO : OkM X cX9_soonest RX9 4 (some .int) P) (hn : xn X = 9) (p1 : Int32) (p2 : Int32)  (l4 : Int32) (l5 : Int32) (l6 : Int32) (l7 : Int32) (l8 : Int32) (μ : Mem) {R : Int32 → Mem → Prop} (hR : ∀ x m, R x m → P (some (.int x)) m) {J102 : Int32 → Int32 → Int32 → Mem → Prop} {J121 : Int32 → Int32 → Int32 → Int32 → Int32 → Mem → Prop} (hJ102 : ∀ (l4 : Int32) (l5 : Int32) (l6 : Int32) (m : Mem), J102 l4 l5 l6 m → V X 102 [some (.ref 75), some (.int p1), some (.int p2), none, some (.int l4), some (.int l5), some (.int l6), none, none] [] m) (hJ121 : ∀ (l4 : Int32) (l5 : Int32) (l6 : Int32) (l7 : Int32) (l8 : Int32) (m : Mem), J121 l4 l5 l6 l7 l8 m → V X 121 [some (.ref 75), some (.int p1), some (.int p2), none, some (.int l4), some (.int l5), some (.int l6), some (.int l7), some (.int l8)] [] m)  (h : vc_X9_soonest_121 p1 p2 l4 l5 l6 l7 l8 μ R J102 J121) : V X 121 [some (.ref 75), some (.int p1), some (.int p2), none, some (.int l4), some (.int l5), some (.int l6), some (.int l7), some (.int l8)] [] μ := by
  have hX := hO.1
  unfold vc_X9_soonest_121 at h
  refine v_iload hX dX9_soonest_121 rfl (?_ : V X 123 [some (.ref 75), some (.int p1), some (.int p2), none, some (.int l4), some (.int l5), some (.int l6), some (.int l7), some (.int l8)] [.int l8] μ)
  refine v_if_lt hX 168 dX9_soonest_123 rfl (fun c1 => ?_) (fun c1 => ?_)
  · replace h := h.1 c1
    refine v_iload hX dX9_soonest_168 rfl (?_ : V X 170 [some (.ref 75), some (.int p1), some (.int p2), none, some (.int l4), some (.int l5), some (.int l6), some (.int l7), some (.int l8)] [.int l6] μ)
    refine v_iload_n hX dX9_soonest_170 rfl (?_ : V X 171 [some (.ref 75), some (.int p1), some (.int p2), none, some (.int l4), some (.int l5), some (.int l6), some (.int l7), some (.int l8)] [.int p2, .int l6] μ)
    refine v_icmp_ne hX 177 dX9_soonest_171 rfl (fun c2 => ?_) (fun c2 => ?_)
    · replace h := h.1 c2
      refine v_iload hX dX9_soonest_177 rfl (?_ : V X 179 [some (.ref 75), some (.int p1), some (.int p2), none, some (.int l4), some (.int l5), some (.int l6), some (.int l7), some (.int l8)] [.int l4] μ)
      refine v_aload_n hX dX9_soonest_179 rfl (?_ : V X 180 [some (.ref 75), some (.int p1), some (.int p2), none, some (.int l4), some (.int l5), some (.int l6), some (.int l7), some (.int l8)] [.ref 75, .int l4] μ)
      refine v_iload_n hX dX9_soonest_180 rfl (?_ : V X 181 [some (.ref 75), some (.int p1), some (.int p2), none, some (.int l4), some (.int l5), some (.int l6), some (.int l7), some (.int l8)] [.int p1, .ref 75, .int l4] μ)
      refine v_iload hX dX9_soonest_181 rfl (?_ : V X 183 [some (.ref 75), some (.int p1), some (.int p2), none, some (.int l4), some (.int l5), some (.int l6), some (.int l7), some (.int l8)] [.int l7, .int p1, .ref 75, .int l4] μ)
      refine v_iload hX dX9_soonest_183 rfl (?_ : V X 185 [some (.ref 75), some (.int p1), some (.int p2), none, some (.int l4), some (.int l5), some (.int l6), some (.int l7), some (.int l8)] [.int l5, .int l7, .int p1, .ref 75, .int l4] μ)
      refine v_callV hX sp_X9_hurt ck_X9_hurt mk_X9_168 mv_X9_hurt sh_75 (by decide) (by decide) [.int p1, .int l7, .int l5] [.int l4] rfl rfl (Nat.le_of_ble_eq_true rfl) dX9_soonest_185 ⟨p1, l7, l5, rfl, h.1, fun x3 μ4 hp5 => (?_ : V X 188 [some (.ref 75), some (.int p1), some (.int p2), none, some (.int l4), some (.int l5), some (.int l6), some (.int l7), some (.int l8)] [.int x3, .int l4] μ4)⟩
      replace h := h.2 x3 μ4 hp5
      refine v_isub hX dX9_soonest_188 (?_ : V X 189 [some (.ref 75), some (.int p1), some (.int p2), none, some (.int l4), some (.int l5), some (.int l6), some (.int l7), some (.int l8)] [.int (l4 - x3)] μ4)
      refine v_istore hX dX9_soonest_189 (by rw [hn]; decide) (?_ : V X 191 [some (.ref 75), some (.int p1), some (.int p2), none, some (.int (l4 - x3)), some (.int l5), some (.int l6), some (.int l7), some (.int l8)] [] μ4)
      refine v_iload hX dX9_soonest_191 rfl (?_ : V X 193 [some (.ref 75), some (.int p1), some (.int p2), none, some (.int (l4 - x3)), some (.int l5), some (.int l6), some (.int l7), some (.int l8)] [.int l7] μ4)
      refine v_iconst hX 1 dX9_soonest_193 rfl (?_ : V X 194 [some (.ref 75), some (.int p1), some (.int p2), none, some (.int (l4 - x3)), some (.int l5), some (.int l6), some (.int l7), some (.int l8)] [.int 1, .int l7] μ4)
      refine v_iadd hX dX9_soonest_194 (?_ : V X 195 [some (.ref 75), some (.int p1), some (.int p2), none, some (.int (l4 - x3)), some (.int l5), some (.int l6), some (.int l7), some (.int l8)] [.int (l7 + 1)] μ4)
      refine v_istore hX dX9_soonest_195 (by rw [hn]; decide) (?_ : V X 197 [some (.ref 75), some (.int p1), some (.int p2), none, some (.int (l4 - x3)), some (.int (l7 + 1)), some (.int l6), some (.int l7), some (.int l8)] [] μ4)
      refine v_iinc hX 1 dX9_soonest_197 (by rw [hn]; decide) rfl rfl (?_ : V X 200 [some (.ref 75), some (.int p1), some (.int p2), none, some (.int (l4 - x3)), some (.int (l7 + 1)), some (.int (l6 + 1)), some (.int l7), some (.int l8)] [] μ4)
      refine v_goto hX 102 dX9_soonest_200 rfl (?_ : V X 102 [some (.ref 75), some (.int p1), some (.int p2), none, some (.int (l4 - x3)), some (.int (l7 + 1)), some (.int (l6 + 1)), some (.int l7), some (.int l8)] [] μ4)
      exact v_mask [true, true, true, false, true, true, true, false, false] (hJ102 _ _ _ _ h)
    · replace h := h.2 c2
      refine v_iload hX dX9_soonest_174 rfl (?_ : V X 176 [some (.ref 75), some (.int p1), some (.int p2), none, some (.int l4), some (.int l5), some (.int l6), some (.int l7), some (.int l8)] [.int l7] μ)
      exact v_iret hO dX9_soonest_176 (hR _ _ h)
  · replace h := h.2 c1
    refine v_aload_n hX dX9_soonest_126 rfl (?_ : V X 127 [some (.ref 75), some (.int p1), some (.int p2), none, some (.int l4), some (.int l5), some (.int l6), some (.int l7), some (.int l8)] [.ref 75] μ)
    refine v_iload_n hX dX9_soonest_127 rfl (?_ : V X 128 [some (.ref 75), some (.int p1), some (.int p2), none, some (.int l4), some (.int l5), some (.int l6), some (.int l7), some (.int l8)] [.int p1, .ref 75] μ)
    refine v_iload hX dX9_soonest_128 rfl (?_ : V X 130 [some (.ref 75), some (.int p1), some (.int p2), none, some (.int l4), some (.int l5), some (.int l6), some (.int l7), some (.int l8)] [.int l4, .int p1, .ref 75] μ)
    refine v_iload hX dX9_soonest_130 rfl (?_ : V X 132 [some (.ref 75), some (.int p1), some (.int p2), none, some (.int l4), some (.int l5), some (.int l6), some (.int l7), some (.int l8)] [.int l5, .int l4, .int p1, .ref 75] μ)
    refine v_iload hX dX9_soonest_132 rfl (?_ : V X 134 [some (.ref 75), some (.int p1), some (.int p2), none, some (.int l4), some (.int l5), some (.int l6), some (.int l7), some (.int l8)] [.int l8, .int l5, .int l4, .int p1, .ref 75] μ)
    refine v_callV hX sp_X9_soonBy ck_X9_soonBy mk_X9_173 mv_X9_soonBy sh_75 (by decide) (by decide) [.int p1, .int l4, .int l5, .int l8] [] rfl rfl (Nat.le_of_ble_eq_true rfl) dX9_soonest_134 ⟨p1, l4, l5, l8, rfl, h.1, fun x6 μ7 hp8 => (?_ : V X 137 [some (.ref 75), some (.int p1), some (.int p2), none, some (.int l4), some (.int l5), some (.int l6), some (.int l7), some (.int l8)] [.int x6] μ7)⟩
    replace h := h.2 x6 μ7 hp8
    refine v_aload_n hX dX9_soonest_137 rfl (?_ : V X 138 [some (.ref 75), some (.int p1), some (.int p2), none, some (.int l4), some (.int l5), some (.int l6), some (.int l7), some (.int l8)] [.ref 75, .int x6] μ7)
    refine v_getr hX (90) fk_X9_53 sh_75 rfl rfl dX9_soonest_138 (?_ : V X 141 [some (.ref 75), some (.int p1), some (.int p2), none, some (.int l4), some (.int l5), some (.int l6), some (.int l7), some (.int l8)] [.ref 90, .int x6] μ7)
    refine v_bipush hX 6 dX9_soonest_141 rfl (?_ : V X 143 [some (.ref 75), some (.int p1), some (.int p2), none, some (.int l4), some (.int l5), some (.int l6), some (.int l7), some (.int l8)] [.int 6, .ref 90, .int x6] μ7)
    refine v_iload hX dX9_soonest_143 rfl (?_ : V X 145 [some (.ref 75), some (.int p1), some (.int p2), none, some (.int l4), some (.int l5), some (.int l6), some (.int l7), some (.int l8)] [.int l4, .int 6, .ref 90, .int x6] μ7)
    refine v_imul hX dX9_soonest_145 (?_ : V X 146 [some (.ref 75), some (.int p1), some (.int p2), none, some (.int l4), some (.int l5), some (.int l6), some (.int l7), some (.int l8)] [.int (6 * l4), .ref 90, .int x6] μ7)
    refine v_iload hX dX9_soonest_146 rfl (?_ : V X 148 [some (.ref 75), some (.int p1), some (.int p2), none, some (.int l4), some (.int l5), some (.int l6), some (.int l7), some (.int l8)] [.int l5, .int (6 * l4), .ref 90, .int x6] μ7)
    refine v_iadd hX dX9_soonest_148 (?_ : V X 149 [some (.ref 75), some (.int p1), some (.int p2), none, some (.int l4), some (.int l5), some (.int l6), some (.int l7), some (.int l8)] [.int ((6 * l4) + l5), .ref 90, .int x6] μ7)
    have hb9 := h.1
    replace h := h.2
    refine w_iald hX (Int32.toNatClampNeg ((6 * l4) + l5)) sh_90 hb9 rfl dX9_soonest_149 (?_ : V X 150 [some (.ref 75), some (.int p1), some (.int p2), none, some (.int l4), some (.int l5), some (.int l6), some (.int l7), some (.int l8)] [.int (gi μ7 90 (Int32.toNatClampNeg ((6 * l4) + l5))), .int x6] μ7)
    refine v_icmp_ne hX 158 dX9_soonest_150 rfl (fun c10 => ?_) (fun c10 => ?_)
    · replace h := h.1 c10
      refine v_iload hX dX9_soonest_158 rfl (?_ : V X 160 [some (.ref 75), some (.int p1), some (.int p2), none, some (.int l4), some (.int l5), some (.int l6), some (.int l7), some (.int l8)] [.int l7] μ7)
      refine v_istore hX dX9_soonest_160 (by rw [hn]; decide) (?_ : V X 162 [some (.ref 75), some (.int p1), some (.int p2), none, some (.int l4), some (.int l5), some (.int l6), some (.int l7), some (.int l8)] [] μ7)
      refine v_iinc hX (-1) dX9_soonest_162 (by rw [hn]; decide) rfl rfl (?_ : V X 165 [some (.ref 75), some (.int p1), some (.int p2), none, some (.int l4), some (.int l5), some (.int l6), some (.int l7), some (.int (l8 + (-1)))] [] μ7)
      refine v_goto hX 121 dX9_soonest_165 rfl (?_ : V X 121 [some (.ref 75), some (.int p1), some (.int p2), none, some (.int l4), some (.int l5), some (.int l6), some (.int l7), some (.int (l8 + (-1)))] [] μ7)
      exact v_mask [true, true, true, false, true, true, true, true, true] (hJ121 _ _ _ _ _ _ h)
    · replace h := h.2 c10
      refine v_iload hX dX9_soonest_153 rfl (?_ : V X 155 [some (.ref 75), some (.int p1), some (.int p2), none, some (.int l4), some (.int l5), some (.int l6), some (.int l7), some (.int l8)] [.int l8] μ7)
      refine v_goto hX 160 dX9_soonest_155 rfl (?_ : V X 160 [some (.ref 75), some (.int p1), some (.int p2), none, some (.int l4), some (.int l5), some (.int l6), some (.int l7), some (.int l8)] [.int l8] μ7)
      refine v_istore hX dX9_soonest_160 (by rw [hn]; decide) (?_ : V X 162 [some (.ref 75), some (.int p1), some (.int p2), none, some (.int l4), some (.int l5), some (.int l6), some (.int l8), some (.int l8)] [] μ7)
      refine v_iinc hX (-1) dX9_soonest_162 (by rw [hn]; decide) rfl rfl (?_ : V X 165 [some (.ref 75), some (.int p1), some (.int p2), none, some (.int l4), some (.int l5), some (.int l6), some (.int l8), some (.int (l8 + (-1)))] [] μ7)
      refine v_goto hX 121 dX9_soonest_165 rfl (?_ : V X 121 [some (.ref 75), some (.int p1), some (.int p2), none, some (.int l4), some (.int l5), some (.int l6), some (.int l8), some (.int (l8 + (-1)))] [] μ7)
      exact v_mask [true, true, true, false, true, true, true, true, true] (hJ121 _ _ _ _ _ _ h)
set_option maxRecDepth 20000 in
set_option maxHeartbeats 1000000 in
theorem vp_X9_soonest_0 (p1 : Int32) (p2 : Int32)  (μ : Mem) (hpre : pre_X9_soonest p1 p2 μ) : vc_X9_soonest_0 p1 p2 μ (post_X9_soonest p1 p2 μ) (fun l4 l5 l6 m => ∃ k : Nat, inv_X9_soonest_102 p1 p2 μ k l4 l5 l6 m) (fun l4 l5 l6 l7 l8 m => ∃ k : Nat, inv_X9_soonest_121 p1 p2 μ k l4 l5 l6 l7 l8 m) := by
  unfold vc_X9_soonest_0
  have hp := hpre
  obtain ⟨a0, a1, a2, a3, a4, a5⟩ := hpre
  rintro _ rfl
  refine ⟨a0, ?_⟩
  rintro x3 m3 ⟨hx3, rfl⟩
  rw [show gi (ui μ 75 0 0) 77 0 = gi μ 77 0 from rfl] at hx3
  have f1 : fr [75, 90] μ (ui μ 75 0 0) := fr_ui (by simp)
  have f2 : f75 μ (ui μ 75 0 0) := fun k hk => by rw [gi_ui, if_neg (by simp [hk])]
  have bad : (p1 < 0 ∨ gi μ 77 0 ≤ p1 ∨ p2 < -2) → post_X9_soonest p1 p2 μ (-1) (ui μ 75 0 0) := fun q => ⟨f1, f2, fun _ => rfl, fun z => absurd q z⟩
  by_cases c : p1 < 0 ∨ gi μ 77 0 ≤ p1
  · rw [if_pos c] at hx3; subst hx3
    exact ⟨fun _ => bad (by grind), fun q => absurd rfl q⟩
  · rw [if_neg c] at hx3; subst hx3
    obtain ⟨e, he⟩ := ix_of a0 (by omega) c
    have hb := a0.2
    refine ⟨fun q => absurd q (by decide), fun _ => ⟨fun q => ⟨trivial, ?_⟩, fun q => bad (Or.inr (Or.inr (nle_lt q)))⟩⟩
    have nb : ¬ (p1 < 0 ∨ gi μ 77 0 ≤ p1 ∨ p2 < -2) := by
      rintro (z | z | z)
      · exact c (Or.inl z)
      · exact c (Or.inr z)
      · exact absurd q (by simpa using z)
    rintro x8 m8 ⟨hx8, rfl⟩
    rw [show gi (ui μ 75 0 0) 84 3 = gi μ 84 3 from rfl] at hx8
    have hj : ∃ j, p1.toNatClampNeg = j := ⟨_, rfl⟩
    obtain ⟨j, hj⟩ := hj
    rw [hj] at e he
    refine ⟨fun q1 => ?_, fun q1 => ?_⟩
    · have ns : ¬ slvI (gi μ 84 3) p1 = 1 := by
        intro z; rw [if_pos z] at hx8; rw [hx8] at q1; exact absurd q1 (by decide)
      have ns' : ¬ slvI (gi μ 84 3) (nI j) = 1 := by rw [← e]; exact ns
      refine ⟨⟨by rw [hj]; exact e, by rw [hj]; exact SVm_TM hp f1 (by simp) (by simp) (by simp) (by simp) he, by rw [hj]; exact a4 j he ns', by rw [hj]; exact a5 j he⟩, ?_⟩
      rintro x12 m ⟨⟨pf, pi, pB⟩, hx12, hle⟩
      rw [hj] at hx12 hle pB
      have e5g : gn (ui μ 75 0 0) 84 (5 + j) = gn μ 84 (5 + j) := rfl
      have e10g : gn (ui μ 75 0 0) 84 (10 + j) = gn μ 84 (10 + j) := rfl
      rw [e5g, e10g] at hx12 hle
      have tb : tabM μ j (cM m) := tabM_of f1 (by simp) (by simp) (by simp) (by simp) pB
      have hf : fr [75, 90] μ m := fr_trans f1 (fr_mono pf (by simp))
      have h75 : f75 μ m := fun k hk => by rw [pf.1 75 (by simp)]; exact f2 k hk
      have fin : ∀ x, x = soonA 100000000 (fullM μ j) (gn μ 82) (cM m) (gn μ 77 1) (gn μ 84 (5 + j)) (decN (gn μ 84 (10 + j))) p2 → post_X9_soonest p1 p2 μ x m := fun x hx => ⟨hf, h75, fun z => absurd z nb, fun _ => ⟨fun z => absurd z ns, fun _ => ⟨cM m, by rw [hj]; exact tb, by rw [hj]; exact hx⟩⟩⟩
      generalize hcv : cM m (gn μ 84 (5 + j)) (decN (gn μ 84 (10 + j))) = cv at *
      have e100 : (100000000 : Int32) = nI 100000000 := rfl
      rw [hx12, e100, nI_eq (by omega) (by omega)]
      have sm : ¬ cv = 100000000 → ¬ 0 ≤ p2 → (¬ p2 = -1 → post_X9_soonest p1 p2 μ (nI cv - nI cv / 1000 * 1000) m) ∧ (p2 = -1 → post_X9_soonest p1 p2 μ (nI cv / 1000) m) := by
        intro z1 z2
        refine ⟨fun z3 => fin _ ?_, fun z3 => fin _ ?_⟩
        · have : p2 = -2 := by
            rw [i_le] at q z2
            rw [show (-2 : Int32).toInt = -2 from rfl] at q
            rw [show (0 : Int32).toInt = 0 from rfl] at z2
            have : p2.toInt = -2 ∨ p2.toInt = -1 := by omega
            rcases this with h | h
            · exact Int32.toInt_inj.mp (by rw [h]; rfl)
            · exact absurd (Int32.toInt_inj.mp (by rw [h]; rfl)) z3
          unfold soonA
          rw [hcv, if_neg (by omega), if_neg z3, if_pos this, show (1000 : Int32) = nI 1000 from rfl, pk_rem (by omega) (by omega) (by omega)]
        · unfold soonA
          rw [hcv, if_neg (by omega), if_pos z3, show (1000 : Int32) = nI 1000 from rfl, pk_div (by omega) (by omega) (by omega)]
      have s9 : cv = 100000000 → post_X9_soonest p1 p2 μ (-9) m := by
        intro z; refine fin _ ?_; unfold soonA; rw [hcv, if_pos (by omega)]
      refine ⟨fun z => ⟨fun z2 => absurd z z2, fun z2 => s9 z2⟩, fun z => ⟨fun z2 => ?_, fun z2 => ⟨fun z3 => sm z3 z2, fun z3 => absurd z3 z⟩⟩⟩
      have a5' : (5 : Int32) + p1 = nI (5 + j) := (add_tn (a := 5) e (by omega)).1
      have a10' : (10 : Int32) + p1 = nI (10 + j) := (add_tn (a := 10) e (by omega)).1
      have b10 := (a5 j he).2
      have b5 := (a4 j he ns').2
      rw [a5', a10', nI_clamp (by omega), nI_clamp (by omega)]
      refine ⟨vp_in_nI (by omega) (by omega), vp_in_nI (by omega) (by omega), ?_⟩
      rintro y rfl
      have hD := a1.2
      have htk : ∀ d, d < gn μ 77 1 → gn μ 82 d ≤ 30 := fun d hd => (a2 d hd).2.2
      have hdl : decN (gn μ 84 (10 + j)) < 6 := decN_lt (by omega)
      obtain ⟨M, N, q1, q2, q3, q4⟩ := bell_small hD htk tb _ (gn μ 84 (5 + j)) (decN (gn μ 84 (10 + j))) (Nat.le_refl _) (by omega) hdl (by rw [hcv]; omega)
      refine ⟨_, ⟨hf, h75, nb, ns, z2, pi, by rw [hj]; exact tb, by rw [hj, hcv]; omega⟩, 0, by omega, rfl, rfl, Or.inr ⟨gn μ 84 (5 + j), decN (gn μ 84 (10 + j)), ?_, ?_, by omega, hdl, by rw [hcv]; omega, ?_, Nat.zero_le _, ?_⟩⟩
      · rw [hf.1 84 (by simp)]; exact (a4 j he ns').1
      · rw [hf.1 84 (by simp), inc_dec (by omega)]; exact (a5 j he).1
      · unfold cntM; rw [hj]; rfl
      · rw [hj]; rfl
    · have ys : slvI (gi μ 84 3) p1 = 1 := by
        split at hx8
        · rename_i z; exact z
        · exact absurd hx8 q1
      exact ⟨f1, f2, fun z => absurd z nb, fun _ => ⟨fun _ => rfl, fun z => absurd ys z⟩⟩
set_option maxRecDepth 20000 in
set_option maxHeartbeats 1000000 in
theorem vp_X9_soonest_102 (p1 : Int32) (p2 : Int32)  (μ : Mem) (hpre : pre_X9_soonest p1 p2 μ) (n : Nat) (l4 : Int32) (l5 : Int32) (l6 : Int32) (μ0 : Mem) (hi : inv_X9_soonest_102 p1 p2 μ n l4 l5 l6 μ0) : vc_X9_soonest_102 p1 p2 l4 l5 l6 μ0 (post_X9_soonest p1 p2 μ) (fun l4 l5 l6 m => ∃ k : Nat, k < n ∧ inv_X9_soonest_102 p1 p2 μ k l4 l5 l6 m) (fun l4 l5 l6 l7 l8 m => ∃ k : Nat, k < n ∧ inv_X9_soonest_121 p1 p2 μ k l4 l5 l6 l7 l8 m) := by
  simp only [vc_X9_soonest_102, pre_X9_hurt, pre_X9_isRoom, pre_X9_isSolved, pre_X9_soonAt, pre_X9_soonBy, post_X9_hurt, post_X9_isRoom, post_X9_isSolved, post_X9_soonAt, post_X9_soonBy, and_imp, call_eq, forall_eq, forall_const, true_and, and_true]
  obtain ⟨a0, a1, a2, a3, a4, a5⟩ := hpre
  obtain ⟨hF, n', hn, rfl, rfl, hc⟩ := hi
  have hF0 := hF
  obtain ⟨hf, h75, nb, ns, hp2, pi, tb, hlt⟩ := hF
  have hD := a1.2
  obtain ⟨ep, bp⟩ := nn_of hp2
  refine ⟨fun c => ?_, fun c => ?_⟩
  · rcases hc with ⟨c1, c2, c3⟩ | ⟨f, l, rfl, rfl, hat⟩
    · refine ⟨hf, h75, fun z => absurd z nb, fun _ => ⟨fun z => absurd z ns, fun _ => ⟨cM μ0, tb, ?_⟩⟩⟩
      unfold soonA
      rw [if_neg (by omega), if_neg (by intro z; rw [z] at hp2; exact absurd hp2 (by decide)), if_neg (by intro z; rw [z] at hp2; exact absurd hp2 (by decide)), if_pos]
      have : nI (cntM p1 μ μ0) ≤ nI p2.toNatClampNeg := by rw [nI_leI (by unfold cntM; have := Nat.mod_lt (cM μ0 (gn μ 84 (5 + p1.toNatClampNeg)) (decN (gn μ 84 (10 + p1.toNatClampNeg)))) (show 0 < 1000 by omega); omega) bp]; omega
      rw [← ep] at this; exact this
    · exact absurd c (nI_pos (by have := hat.1; omega))
  · rcases hc with ⟨c1, c2, c3⟩ | ⟨f, l, rfl, rfl, hat⟩
    · exact absurd c1 c
    · refine ⟨_, ?_, hF0, n', f, l, 0, hn, Nat.zero_le _, rfl, rfl, rfl, rfl, hat, ?_, Or.inr (fun d h1 h2 => by omega)⟩
      · omega
      · rw [hf.1 77 (by simp), a1.1]; rfl
set_option maxRecDepth 20000 in
set_option maxHeartbeats 1000000 in
theorem vp_X9_soonest_121 (p1 : Int32) (p2 : Int32)  (μ : Mem) (hpre : pre_X9_soonest p1 p2 μ) (n : Nat) (l4 : Int32) (l5 : Int32) (l6 : Int32) (l7 : Int32) (l8 : Int32) (μ0 : Mem) (hi : inv_X9_soonest_121 p1 p2 μ n l4 l5 l6 l7 l8 μ0) : vc_X9_soonest_121 p1 p2 l4 l5 l6 l7 l8 μ0 (post_X9_soonest p1 p2 μ) (fun l4 l5 l6 m => ∃ k : Nat, k < n ∧ inv_X9_soonest_102 p1 p2 μ k l4 l5 l6 m) (fun l4 l5 l6 l7 l8 m => ∃ k : Nat, k < n ∧ inv_X9_soonest_121 p1 p2 μ k l4 l5 l6 l7 l8 m) := by
  unfold vc_X9_soonest_121
  have hp := hpre
  obtain ⟨a0, a1, a2, a3, a4, a5⟩ := hpre
  obtain ⟨hF, n', f, l, s, hn, hs, rfl, rfl, rfl, rfl, hat, rfl, hl7⟩ := hi
  have hF0 := hF
  have hat0 := hat
  obtain ⟨hf, h75, nb, ns, hp2, pi, tb, hlt⟩ := hF
  obtain ⟨b1, b2, b3, b4, b5, b6⟩ := hat
  have hD := a1.2
  obtain ⟨ep, bp⟩ := nn_of hp2
  have c1 : ¬ (p1 < 0 ∨ gi μ 77 0 ≤ p1) := fun z => nb (by grind)
  obtain ⟨e, he⟩ := ix_of a0 (by omega) c1
  have hb := a0.2
  have htk : ∀ d, d < gn μ 77 1 → gn μ 82 d ≤ 30 := fun d hd => (a2 d hd).2.2
  have hil := incN_lt b2
  generalize hj : p1.toNatClampNeg = j at *
  have e77 : gn μ0 77 1 = gn μ 77 1 := gn_fr hf (by simp) 1
  have efm : fullM μ0 j = fullM μ j := fullM_fr hf (by simp) (by simp) j
  have e82 : gn μ0 82 = gn μ 82 := funext fun k => gn_fr hf (by simp) k
  have hneg : (nI (gn μ 77 1 - s) - 1 < 0) ↔ gn μ 77 1 - s = 0 := by
    have := sub_neg (a := gn μ 77 1 - s) (b := 1) (by omega) (by omega)
    rw [show nI 1 = (1 : Int32) from rfl] at this
    constructor
    · intro z; have : ¬ 1 ≤ gn μ 77 1 - s := fun y => absurd (this.mpr y) (by simpa using z)
      omega
    · intro z; exact nle_lt (fun y => by have := this.mp y; omega)
  rw [hneg]
  refine ⟨fun c => ?_, fun c => ?_⟩
  · have hsD : s = gn μ 77 1 := by omega
    subst hsD
    have hst := step_cnt hD htk (Nat.le_refl _) tb b1 b2 b3
    have hfd := (step_fb tb b1 b2 b3).1
    obtain ⟨d0, hd0, hx0⟩ := bell_eq tb b1 b2 b3
    have hl7' : l7 = nI (fbC 100000000 (fullM μ j) (gn μ 82) (cM μ0) (gn μ 77 1) f l) := by
      rcases hl7 with q | q
      · exact q
      · exact absurd ((tX_thr b3).mpr hx0) (q d0 (by omega) hd0)
    subst hl7'
    have hsA : fbC 100000000 (fullM μ j) (gn μ 82) (cM μ0) (gn μ 77 1) f l = sAt 100000000 (fullM μ j) (gn μ 82) (cM μ0) (gn μ 77 1) 0 f l := rfl
    have hsB : ∀ k, sAt 100000000 (fullM μ j) (gn μ 82) (cM μ0) (gn μ 77 1) (k + 1) f l = sAt 100000000 (fullM μ j) (gn μ 82) (cM μ0) (gn μ 77 1) k (f - lsN (fullM μ j) l (fbC 100000000 (fullM μ j) (gn μ 82) (cM μ0) (gn μ 77 1) f l)) (fbC 100000000 (fullM μ j) (gn μ 82) (cM μ0) (gn μ 77 1) f l) := fun k => rfl
    generalize hd : fbC 100000000 (fullM μ j) (gn μ 82) (cM μ0) (gn μ 77 1) f l = d at *
    refine ⟨fun q => ⟨?_, ?_⟩, fun q => ?_⟩
    · exact ⟨by rw [e]; exact vp_in_nI (by omega) (by omega), vp_in_nI (by omega) (by omega)⟩
    · rintro x3 m4 ⟨hx3, rfl⟩
      have cd : (nI d).toNatClampNeg = d := nI_clamp (by omega)
      have hnp : n' ≠ p2.toNatClampNeg := by
        intro z; apply q; rw [z]; exact ep.symm
      obtain ⟨⟨g1, g2⟩, k1, k2⟩ := a2 d hfd
      have g3 := (a3 j he).2
      have hfull : fullM μ j d ≤ 27 := by
        have := Nat.mul_le_mul g2 g3
        unfold fullM; omega
      have hls : lsN (fullM μ j) l d ≤ 27 := by unfold lsN; split <;> omega
      have ex3 : x3 = nI (lsN (fullM μ j) l d) := by
        have efull : gi m4 81 d * gi m4 79 j = nI (fullM μ j d) := by rw [hf.1 81 (by simp), hf.1 79 (by simp), g1, (a3 j he).1, pk_mul]; rfl
        rw [hx3]; unfold hurtF
        rw [hj, cd, efull, nI_1]
        unfold lsN
        by_cases z : l = d
        · rw [if_pos (by rw [z]; unfold incN; rw [if_neg (by omega)]), if_pos z, show (2 : Int32) = nI 2 from rfl, pk_div (by omega) (by omega) (by omega)]
        · rw [if_neg (fun q => z (by have := (nI_eq (by omega) (by omega)).mp q; unfold incN at this; split at this <;> omega)), if_neg z]
      subst ex3
      obtain ⟨M, N, q1, q2, q3, q4⟩ := bell_small hD htk tb _ f l (Nat.le_refl _) b1 b2 b3
      have hcp : cM m4 f l % 1000 = N := by omega
      have hcN : cntM p1 μ m4 ≤ 62 := by
        have hbb : gn μ 84 (5 + j) ≤ 30 := (a4 j he (by rw [← e]; exact ns)).2
        obtain ⟨M', N', q1', q2', q3', q4'⟩ := bell_small hD htk tb _ (gn μ 84 (5 + j)) (decN (gn μ 84 (10 + j))) (Nat.le_refl _) hbb (decN_lt (by have := (a5 j he).2; omega)) hlt
        unfold cntM; rw [hj]; omega
      refine ⟨_, ?_, hF0, n' + 1, by omega, rfl, nI_1 n', ?_⟩
      · omega
      · rcases hst with ⟨s1, s2⟩ | ⟨s1, s2, s3, s4⟩
        · left
          refine ⟨nle_lt (fun y => ?_), by omega, by omega⟩
          have := (sub_neg (a := f) (b := lsN (fullM μ j) l d) (by omega) (by omega)).mp y
          omega
        · right
          refine ⟨f - lsN (fullM μ j) l d, d, pk_sub s1, ?_, by omega, by omega, s2, by omega, by omega, ?_⟩
          · rw [nI_1]; unfold incN; rw [if_neg (by omega)]
          · rw [hj, ← b6]
            have : p2.toNatClampNeg - n' = p2.toNatClampNeg - (n' + 1) + 1 := by omega
            rw [this]
            unfold sFM; rw [hj, hsB]
    · refine ⟨hf, h75, fun z => absurd z nb, fun _ => ⟨fun z => absurd z ns, fun _ => ⟨cM μ0, by rw [hj]; exact tb, ?_⟩⟩⟩
      have hnp : n' = p2.toNatClampNeg := by rw [← q, nI_clamp (by omega)]
      have hmod := Nat.mod_lt (cM μ0 (gn μ 84 (5 + j)) (decN (gn μ 84 (10 + j)))) (show 0 < 1000 by omega)
      unfold soonA
      rw [hj, if_neg (by omega), if_neg (by intro z; rw [z] at hp2; exact absurd hp2 (by decide)), if_neg (by intro z; rw [z] at hp2; exact absurd hp2 (by decide)), if_neg]
      · unfold sFM at b6; rw [hj, hnp, Nat.sub_self, ← hsA] at b6
        rw [b6]
      · rw [ep, nI_leI (by omega) bp]
        unfold cntM at b4; rw [hj] at b4
        rcases hst with ⟨s1, s2⟩ | ⟨s1, s2, s3, s4⟩ <;> omega
  · have hd : ∃ d, gn μ 77 1 - s = d + 1 := ⟨gn μ 77 1 - s - 1, by omega⟩
    obtain ⟨d, hd⟩ := hd
    have e8 : nI (gn μ 77 1 - s) - 1 = nI d := by rw [hd, show (1 : Int32) = nI 1 from rfl, pk_sub (by omega)]; rfl
    have e8' : nI d + -1 = nI (gn μ 77 1 - (s + 1)) - 1 := by
      rw [show gn μ 77 1 - (s + 1) = d from by omega, Int32.sub_eq_add_neg]
    rw [e8]
    have cd : (nI d).toNatClampNeg = d := nI_clamp (by omega)
    have cf : (nI f).toNatClampNeg = f := nI_clamp (by omega)
    have ci : (nI (incN l)).toNatClampNeg = incN l := nI_clamp (by omega)
    refine ⟨⟨by rw [hj]; exact e, by rw [hj]; exact SVm_TM hp hf (by simp) (by simp) (by simp) (by simp) he, by rw [cf], by rw [cf]; exact b1, by rw [ci], by rw [ci]; omega, by rw [cd], by rw [cd, e77]; omega, pi⟩, ?_⟩
    rintro x6 m7 ⟨hx6, rfl⟩
    rw [hj, cf, ci, cd, efm, e82, dec_inc b2] at hx6
    have e6 : 6 * nI f + nI (incN l) = nI (6 * f + incN l) := by rw [show (6 : Int32) = nI 6 from rfl, pk_mul, nI_add]
    rw [e6, nI_clamp (by omega)]
    have hcell : gi m7 90 (6 * f + incN l) = nI (cM m7 f l) := (pi (6 * f + incN l) (by omega)).1
    have htb : thr 100000000 (fullM μ j) (gn μ 82) (cM m7) (cM m7 f) f l d ≤ 100000000 := by
      have := htk d (by omega)
      rw [thr_self]; split <;> omega
    rw [hcell, hx6, nI_eq (by omega) (by omega), ← tX_thr b3]
    have hsd : gn μ 77 1 - (s + 1) = d := by omega
    refine ⟨vp_in_nI (by omega) (by omega), fun q => ⟨_, ?_, hF0, n', f, l, s + 1, hn, by omega, rfl, rfl, rfl, rfl, hat0, e8', ?_⟩, fun q => ⟨_, ?_, hF0, n', f, l, s + 1, hn, by omega, rfl, rfl, rfl, rfl, hat0, e8', Or.inl ?_⟩⟩
    · omega
    · rw [hj]
      rcases hl7 with z | z
      · left; rw [z, fbN, hsd, if_neg q]
      · right
        intro d' h1 h2
        rcases Nat.lt_or_ge d' (gn μ 77 1 - s) with y | y
        · have : d' = d := by omega
          rw [this]; exact q
        · exact z d' y h2
    · omega
    · rw [hj, fbN, hsd, if_pos q]
theorem sp_X9_soonest : Sp yX9_soonest cX9_soonest 9 (some .int) 4 S_X9_soonest := by
  refine sp_of (by decide) (fun av μ P h => ?_) ?_
  · obtain ⟨p1, p2, rfl, -⟩ := h
    refine ⟨Nat.le_of_ble_eq_true rfl, fun v hv => ?_⟩
    simp only [List.mem_cons, List.not_mem_nil, or_false] at hv
    rcases hv with rfl | rfl | rfl <;> rfl
  · rintro X P hO _ μ ⟨p1, p2, rfl, hpre, hpost⟩ hn
    have hJ : ∀ n : Nat, (∀ (l4 : Int32) (l5 : Int32) (l6 : Int32) (m : Mem), inv_X9_soonest_102 p1 p2 μ n l4 l5 l6 m → V X 102 [some (.ref 75), some (.int p1), some (.int p2), none, some (.int l4), some (.int l5), some (.int l6), none, none] [] m) ∧ (∀ (l4 : Int32) (l5 : Int32) (l6 : Int32) (l7 : Int32) (l8 : Int32) (m : Mem), inv_X9_soonest_121 p1 p2 μ n l4 l5 l6 l7 l8 m → V X 121 [some (.ref 75), some (.int p1), some (.int p2), none, some (.int l4), some (.int l5), some (.int l6), some (.int l7), some (.int l8)] [] m) := by
      intro n
      induction n using Nat.strongRecOn with
      | _ n ih =>
        exact ⟨fun l4 l5 l6 m hi => wk_X9_soonest_102 (J102 := (fun l4 l5 l6 m => ∃ k : Nat, k < n ∧ inv_X9_soonest_102 p1 p2 μ k l4 l5 l6 m)) (J121 := (fun l4 l5 l6 l7 l8 m => ∃ k : Nat, k < n ∧ inv_X9_soonest_121 p1 p2 μ k l4 l5 l6 l7 l8 m)) hO hn p1 p2  l4 l5 l6 m hpost (fun l4 l5 l6 m hk => by obtain ⟨k, hk, hi⟩ := hk; exact (ih k hk).1 l4 l5 l6 m hi) (fun l4 l5 l6 l7 l8 m hk => by obtain ⟨k, hk, hi⟩ := hk; exact (ih k hk).2 l4 l5 l6 l7 l8 m hi) (vp_X9_soonest_102 p1 p2  μ hpre n l4 l5 l6 m hi), fun l4 l5 l6 l7 l8 m hi => wk_X9_soonest_121 (J102 := (fun l4 l5 l6 m => ∃ k : Nat, k < n ∧ inv_X9_soonest_102 p1 p2 μ k l4 l5 l6 m)) (J121 := (fun l4 l5 l6 l7 l8 m => ∃ k : Nat, k < n ∧ inv_X9_soonest_121 p1 p2 μ k l4 l5 l6 l7 l8 m)) hO hn p1 p2  l4 l5 l6 l7 l8 m hpost (fun l4 l5 l6 m hk => by obtain ⟨k, hk, hi⟩ := hk; exact (ih k hk).1 l4 l5 l6 m hi) (fun l4 l5 l6 l7 l8 m hk => by obtain ⟨k, hk, hi⟩ := hk; exact (ih k hk).2 l4 l5 l6 l7 l8 m hi) (vp_X9_soonest_121 p1 p2  μ hpre n l4 l5 l6 l7 l8 m hi)⟩
    exact wk_X9_soonest_0 (J102 := (fun l4 l5 l6 m => ∃ k : Nat, inv_X9_soonest_102 p1 p2 μ k l4 l5 l6 m)) (J121 := (fun l4 l5 l6 l7 l8 m => ∃ k : Nat, inv_X9_soonest_121 p1 p2 μ k l4 l5 l6 l7 l8 m)) hO hn p1 p2  μ hpost (fun l4 l5 l6 m hk => by obtain ⟨k, hi⟩ := hk; exact (hJ k).1 l4 l5 l6 m hi) (fun l4 l5 l6 l7 l8 m hk => by obtain ⟨k, hi⟩ := hk; exact (hJ k).2 l4 l5 l6 l7 l8 m hi) (vp_X9_soonest_0 p1 p2  μ hpre)

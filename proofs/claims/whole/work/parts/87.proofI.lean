theorem num_use {p1 p2 : Int32} {m' m : Mem} {x : Int32} (hR : RD m') (h : post_X6_readNumber p1 p2 m' x m) : fr [1] m' m ∧ f1x [2, 3] m' m ∧ numP p1 p2 (gi m' 2) (gn m' 1 1) (gn m' 1 3) x m := by
  obtain ⟨hf, h1, a, b, hs, hd, h3, h⟩ := h
  refine ⟨hf, h1, ?_⟩
  have hb := hR.1.2
  rcases h with ⟨k1, k2, k3⟩ | ⟨k1, k2, k3⟩
  · exact Or.inl ⟨a, ⟨b, hs, hd, k1⟩, k2, k3⟩
  · refine Or.inr ⟨b, ⟨a, hs, hd, k1, k2⟩, ?_, h3, hd.2.1⟩
    rw [k2]
    refine nI_pos' ?_
    have : ¬ 1000 ≤ nvN (gi m' 2) a (b - a) := fun z => k1 (Or.inr (Or.inr (Or.inl z)))
    omega
theorem one_all {w f g : Nat} {p1 p2 : Int32} {μ : Mem} (hR : RI w μ) (hf0 : gi μ 1 f = 0) (hf : f = 4 ∨ f = 5 ∨ f = 6) (m4 : Mem) (hm4 : m4 = ui (ui μ 1 f 1) 1 3 (gi (ui μ 1 f 1) 1 3 + 1)) : RD m4 ∧ ∀ (x6 : Int32) (m7 : Mem), post_X6_readNumber p1 p2 m4 x6 m7 → ∀ m9, m9 = ui m7 w g x6 → ((gi m9 w g < 0 → oneP w f g p1 p2 μ 0 m9) ∧ (¬ gi m9 w g < 0 → oneP w f g p1 p2 μ 1 m9)) := by
  obtain ⟨hw, ⟨a1, a3, hle⟩, hlt⟩ := hR
  have hb := a1.2
  have w1 : w ≠ 1 := by omega
  have e1 : gi m4 1 1 = gi μ 1 1 := by
    rw [hm4, gi_ui, if_neg (by omega), gi_ui, if_neg (by omega)]
  have e3 : gi m4 1 3 = nI (gn μ 1 3 + 1) := by
    rw [hm4, gi_ui, if_pos ⟨rfl, rfl⟩, gi_ui, if_neg (by omega), a3.1, nI_1]
  have g3 : gn m4 1 3 = gn μ 1 3 + 1 := by unfold gn; rw [e3, nI_clamp (by unfold gn at *; omega)]; rfl
  have g1 : gn m4 1 1 = gn μ 1 1 := by unfold gn; rw [e1]
  have f4 : fr [1] μ m4 := by rw [hm4]; exact fr_trans (fr_ui (by simp)) (fr_ui (by simp))
  have h4 : f1x [2, 3, f] μ m4 := by rw [hm4]; exact f1_trans (f1_ui (by simp)) (f1_ui (by simp))
  have ef : gi m4 1 f = 1 := by rw [hm4, gi_ui, if_neg (by omega), gi_ui, if_pos ⟨rfl, rfl⟩]
  have hRD : RD m4 := ⟨by unfold isN; rw [e1, g1]; exact a1, ⟨by rw [g3]; exact e3, by omega⟩, by omega⟩
  have eT : gi m4 2 = gi μ 2 := funext fun k => f4.1 2 (by simp) k
  clear hm4
  refine ⟨hRD, ?_⟩
  intro x6 m7 h m9 hm9
  obtain ⟨nf, n1, hn⟩ := num_use hRD h
  rw [eT, g1, g3] at hn
  have fI : frI w μ m9 := by
    rw [hm9]
    refine ⟨fr_trans (fr_mono f4 (by simp)) (fr_trans (fr_mono nf (by simp)) (fr_ui (by simp))), f1_trans (f1_mono h4 ?_) (f1_trans (f1_mono n1 (by simp)) ?_)⟩
    · intro k hk
      simp at hk ⊢
      omega
    · intro k hk; rw [gi_ui, if_neg (fun y => w1 y.1.symm)]
  have eg : gi m9 w g = x6 := by rw [hm9, gi_ui, if_pos ⟨rfl, rfl⟩]
  have ek : ∀ k, gi m9 1 k = gi m7 1 k := fun k => by rw [hm9, gi_ui, if_neg (fun y => w1 y.1.symm)]
  rw [eg]
  rcases hn with ⟨s, hs, hx, h2⟩ | ⟨b, hb1, hx, h3, hbn⟩
  · refine ⟨fun _ => ⟨fI, Or.inl ⟨rfl, Or.inr ⟨hf0, s, hs, by rw [ek]; exact h2⟩⟩⟩, fun z => ?_⟩
    rw [hx] at z; exact absurd (by decide) z
  · refine ⟨fun z => absurd hx (by simpa using z), fun _ => ⟨fI, Or.inr ⟨rfl, hf0, b, by rw [eg]; exact hb1, hbn, by rw [ek]; exact h3, ?_, ?_, fun k hk => ?_, fun k hk => ?_⟩⟩⟩
    · rw [hm9]; exact fr_trans (fr_mono f4 (by simp)) (fr_trans (fr_mono nf (by simp)) (fr_ui (by simp)))
    · rw [ek, n1 f (by simp; omega)]; exact ef
    · rw [ek, n1 k (fun z => hk (by simp at z ⊢; omega))]; exact h4 k hk
    · rw [hm9, gi_ui, if_neg (fun y => hk y.2), nf.1 w (by simp; omega), f4.1 w (by simp; omega)]
theorem one_fail {w f g : Nat} {p1 p2 : Int32} {μ : Mem} (hf0 : ¬ gi μ 1 f = 0) : ∀ (x : Int32) (m : Mem), post_X6_failsAt (gi μ 1 3) μ x m → (x = 0 ∨ x = 1) ∧ oneP w f g p1 p2 μ x m := by
  rintro x m ⟨rfl, rfl⟩
  exact ⟨Or.inl rfl, ⟨fr_ui (by simp), f1_ui (by simp)⟩, Or.inl ⟨rfl, Or.inl ⟨hf0, rfl⟩⟩⟩
def S_X6_readWalk : Tr := fun av μ P => ∃ (w : Nat), av = [.ref 1, .ref w] ∧ (w = 3 ∨ w = 10) ∧ pre_X6_readWalk w μ ∧ ∀ (x : Int32) (m : Mem), post_X6_readWalk w μ x m → P (some (.int x)) m
def vc_X6_readWalk_0 (w : Nat)  (μ : Mem) (R : Int32 → Mem → Prop)  : Prop :=
  (((gi μ 1 5) = 0 → (∀ μ2, μ2 = ui μ 1 5 1 → (∀ μ4, μ4 = ui μ2 1 3 ((gi μ2 1 3) + 1) → (pre_X6_readNumber 0 9 μ4 ∧ ∀ (x6 : Int32) (μ7 : Mem), post_X6_readNumber 0 9 μ4 x6 μ7 → (∀ μ9, μ9 = ui μ7 w 10 x6 → (((gi μ9 w 10) < 0 → R 0 μ9) ∧ (¬ (gi μ9 w 10) < 0 → R 1 μ9))))))) ∧ (¬ (gi μ 1 5) = 0 → (pre_X6_failsAt (gi μ 1 3) μ ∧ ∀ (x12 : Int32) (μ13 : Mem), post_X6_failsAt (gi μ 1 3) μ x12 μ13 → (x12 = 0 ∨ x12 = 1) ∧ R x12 μ13)))
set_option maxRecDepth 20000 in
set_option maxHeartbeats 4000000 in
theorem wk_X6_readWalk_0 {X : XT} {P : Post} (hO : OkM X cX6_readWalk RX6 2 (some .boolean) P) (hn : xn X = 2) (w : Nat) (hw : w = 3 ∨ w = 10)  (μ : Mem) {R : Int32 → Mem → Prop} (hR : ∀ x m, R x m → P (some (.int x)) m)    (h : vc_X6_readWalk_0 w  μ R ) : V X 0 [some (.ref 1), some (.ref w)] [] μ := by
  have hX := hO.1
  unfold vc_X6_readWalk_0 at h
  refine v_aload_n hX dX6_readWalk_0 rfl (?_ : V X 1 [some (.ref 1), some (.ref w)] [.ref 1] μ)
  refine v_getz hX fk_X6_34 sh_1 rfl dX6_readWalk_1 (?_ : V X 4 [some (.ref 1), some (.ref w)] [.int (gi μ 1 5)] μ)
  refine v_if_eq hX 16 dX6_readWalk_4 rfl (fun c1 => ?_) (fun c1 => ?_)
  · replace h := h.1 c1
    refine v_aload_n hX dX6_readWalk_16 rfl (?_ : V X 17 [some (.ref 1), some (.ref w)] [.ref 1] μ)
    refine v_iconst hX 1 dX6_readWalk_17 rfl (?_ : V X 18 [some (.ref 1), some (.ref w)] [.int 1, .ref 1] μ)
    refine w_putz hX fk_X6_34 fw_6_5 sh_1 rfl (by decide) dX6_readWalk_18 (fun μ2 e3 => (?_ : V X 21 [some (.ref 1), some (.ref w)] [] μ2))
    replace h := h μ2 e3
    refine v_aload_n hX dX6_readWalk_21 rfl (?_ : V X 22 [some (.ref 1), some (.ref w)] [.ref 1] μ2)
    refine v_dup hX dX6_readWalk_22 rfl (?_ : V X 23 [some (.ref 1), some (.ref w)] [.ref 1, .ref 1] μ2)
    refine v_geti hX fk_X6_27 sh_1 rfl dX6_readWalk_23 (?_ : V X 26 [some (.ref 1), some (.ref w)] [.int (gi μ2 1 3), .ref 1] μ2)
    refine v_iconst hX 1 dX6_readWalk_26 rfl (?_ : V X 27 [some (.ref 1), some (.ref w)] [.int 1, .int (gi μ2 1 3), .ref 1] μ2)
    refine v_iadd hX dX6_readWalk_27 (?_ : V X 28 [some (.ref 1), some (.ref w)] [.int ((gi μ2 1 3) + 1), .ref 1] μ2)
    refine w_puti hX fk_X6_27 fw_6_3 sh_1 rfl dX6_readWalk_28 (fun μ4 e5 => (?_ : V X 31 [some (.ref 1), some (.ref w)] [] μ4))
    replace h := h μ4 e5
    refine v_aload_n hX dX6_readWalk_31 rfl (?_ : V X 32 [some (.ref 1), some (.ref w)] [.ref w] μ4)
    refine v_aload_n hX dX6_readWalk_32 rfl (?_ : V X 33 [some (.ref 1), some (.ref w)] [.ref 1, .ref w] μ4)
    refine v_iconst hX 0 dX6_readWalk_33 rfl (?_ : V X 34 [some (.ref 1), some (.ref w)] [.int 0, .ref 1, .ref w] μ4)
    refine v_bipush hX 9 dX6_readWalk_34 rfl (?_ : V X 36 [some (.ref 1), some (.ref w)] [.int 9, .int 0, .ref 1, .ref w] μ4)
    refine v_callV hX sp_X6_readNumber ck_X6_readNumber mk_X6_79 mv_X6_readNumber sh_1 (by decide) (by decide) [.int 0, .int 9] [.ref w] rfl rfl (Nat.le_of_ble_eq_true rfl) dX6_readWalk_36 ⟨0, 9, rfl, h.1, fun x6 μ7 hp8 => (?_ : V X 39 [some (.ref 1), some (.ref w)] [.int x6, .ref w] μ7)⟩
    replace h := h.2 x6 μ7 hp8
    refine w_puti hX fk_X6_107 fw_2_10 (sHo hw) rfl dX6_readWalk_39 (fun μ9 e10 => (?_ : V X 42 [some (.ref 1), some (.ref w)] [] μ9))
    replace h := h μ9 e10
    refine v_aload_n hX dX6_readWalk_42 rfl (?_ : V X 43 [some (.ref 1), some (.ref w)] [.ref w] μ9)
    refine v_geti hX fk_X6_107 (sHo hw) rfl dX6_readWalk_43 (?_ : V X 46 [some (.ref 1), some (.ref w)] [.int (gi μ9 w 10)] μ9)
    refine v_if_lt hX 53 dX6_readWalk_46 rfl (fun c11 => ?_) (fun c11 => ?_)
    · replace h := h.1 c11
      refine v_iconst hX 0 dX6_readWalk_53 rfl (?_ : V X 54 [some (.ref 1), some (.ref w)] [.int 0] μ9)
      exact v_zret hO dX6_readWalk_54 (by decide) (hR _ _ h)
    · replace h := h.2 c11
      refine v_iconst hX 1 dX6_readWalk_49 rfl (?_ : V X 50 [some (.ref 1), some (.ref w)] [.int 1] μ9)
      refine v_goto hX 54 dX6_readWalk_50 rfl (?_ : V X 54 [some (.ref 1), some (.ref w)] [.int 1] μ9)
      exact v_zret hO dX6_readWalk_54 (by decide) (hR _ _ h)
  · replace h := h.2 c1
    refine v_aload_n hX dX6_readWalk_7 rfl (?_ : V X 8 [some (.ref 1), some (.ref w)] [.ref 1] μ)
    refine v_aload_n hX dX6_readWalk_8 rfl (?_ : V X 9 [some (.ref 1), some (.ref w)] [.ref 1, .ref 1] μ)
    refine v_geti hX fk_X6_27 sh_1 rfl dX6_readWalk_9 (?_ : V X 12 [some (.ref 1), some (.ref w)] [.int (gi μ 1 3), .ref 1] μ)
    refine v_callV hX sp_X6_failsAt ck_X6_failsAt mk_X6_69 mv_X6_failsAt sh_1 (by decide) (by decide) [.int (gi μ 1 3)] [] rfl rfl (Nat.le_of_ble_eq_true rfl) dX6_readWalk_12 ⟨(gi μ 1 3), rfl, h.1, fun x12 μ13 hp14 => (?_ : V X 15 [some (.ref 1), some (.ref w)] [.int x12] μ13)⟩
    replace h := h.2 x12 μ13 hp14
    exact v_zret hO dX6_readWalk_15 h.1 (hR _ _ h.2)
set_option maxRecDepth 20000 in
set_option maxHeartbeats 1000000 in
theorem vp_X6_readWalk_0 (w : Nat) (hw : w = 3 ∨ w = 10) (μ : Mem) (hpre : pre_X6_readWalk w μ) : vc_X6_readWalk_0 w μ (post_X6_readWalk w μ)  := by
  unfold vc_X6_readWalk_0
  refine ⟨fun q => ?_, fun q => ⟨trivial, one_fail q⟩⟩
  rintro m2 rfl m4 hm4
  obtain ⟨hRD, k⟩ := one_all (g := 10) (p1 := 0) (p2 := 9) hpre q (by omega) m4 hm4
  exact ⟨⟨hRD, by decide⟩, k⟩
theorem sp_X6_readWalk : Sp yX6_readWalk cX6_readWalk 2 (some .boolean) 2 S_X6_readWalk := by
  refine sp_of (by decide) (fun av μ P h => ?_) ?_
  · obtain ⟨w, rfl, -⟩ := h
    refine ⟨Nat.le_of_ble_eq_true rfl, fun v hv => ?_⟩
    simp only [List.mem_cons, List.not_mem_nil, or_false] at hv
    rcases hv with rfl | rfl <;> rfl
  · rintro X P hO _ μ ⟨w, rfl, hw, hpre, hpost⟩ hn
    exact wk_X6_readWalk_0 hO hn w hw μ hpost (vp_X6_readWalk_0 w hw μ hpre)
def S_X6_readNight : Tr := fun av μ P => ∃ (w : Nat), av = [.ref 1, .ref w] ∧ (w = 3 ∨ w = 10) ∧ pre_X6_readNight w μ ∧ ∀ (x : Int32) (m : Mem), post_X6_readNight w μ x m → P (some (.int x)) m
def vc_X6_readNight_0 (w : Nat)  (μ : Mem) (R : Int32 → Mem → Prop)  : Prop :=
  (((gi μ 1 6) = 0 → (∀ μ2, μ2 = ui μ 1 6 1 → (∀ μ4, μ4 = ui μ2 1 3 ((gi μ2 1 3) + 1) → (pre_X6_readNumber 1 500 μ4 ∧ ∀ (x6 : Int32) (μ7 : Mem), post_X6_readNumber 1 500 μ4 x6 μ7 → (∀ μ9, μ9 = ui μ7 w 11 x6 → (((gi μ9 w 11) < 0 → R 0 μ9) ∧ (¬ (gi μ9 w 11) < 0 → R 1 μ9))))))) ∧ (¬ (gi μ 1 6) = 0 → (pre_X6_failsAt (gi μ 1 3) μ ∧ ∀ (x12 : Int32) (μ13 : Mem), post_X6_failsAt (gi μ 1 3) μ x12 μ13 → (x12 = 0 ∨ x12 = 1) ∧ R x12 μ13)))
set_option maxRecDepth 20000 in
set_option maxHeartbeats 4000000 in
theorem wk_X6_readNight_0 {X : XT} {P : Post} (hO : OkM X cX6_readNight RX6 2 (some .boolean) P) (hn : xn X = 2) (w : Nat) (hw : w = 3 ∨ w = 10)  (μ : Mem) {R : Int32 → Mem → Prop} (hR : ∀ x m, R x m → P (some (.int x)) m)    (h : vc_X6_readNight_0 w  μ R ) : V X 0 [some (.ref 1), some (.ref w)] [] μ := by
  have hX := hO.1
  unfold vc_X6_readNight_0 at h
  refine v_aload_n hX dX6_readNight_0 rfl (?_ : V X 1 [some (.ref 1), some (.ref w)] [.ref 1] μ)
  refine v_getz hX fk_X6_37 sh_1 rfl dX6_readNight_1 (?_ : V X 4 [some (.ref 1), some (.ref w)] [.int (gi μ 1 6)] μ)
  refine v_if_eq hX 16 dX6_readNight_4 rfl (fun c1 => ?_) (fun c1 => ?_)
  · replace h := h.1 c1
    refine v_aload_n hX dX6_readNight_16 rfl (?_ : V X 17 [some (.ref 1), some (.ref w)] [.ref 1] μ)
    refine v_iconst hX 1 dX6_readNight_17 rfl (?_ : V X 18 [some (.ref 1), some (.ref w)] [.int 1, .ref 1] μ)
    refine w_putz hX fk_X6_37 fw_6_6 sh_1 rfl (by decide) dX6_readNight_18 (fun μ2 e3 => (?_ : V X 21 [some (.ref 1), some (.ref w)] [] μ2))
    replace h := h μ2 e3
    refine v_aload_n hX dX6_readNight_21 rfl (?_ : V X 22 [some (.ref 1), some (.ref w)] [.ref 1] μ2)
    refine v_dup hX dX6_readNight_22 rfl (?_ : V X 23 [some (.ref 1), some (.ref w)] [.ref 1, .ref 1] μ2)
    refine v_geti hX fk_X6_27 sh_1 rfl dX6_readNight_23 (?_ : V X 26 [some (.ref 1), some (.ref w)] [.int (gi μ2 1 3), .ref 1] μ2)
    refine v_iconst hX 1 dX6_readNight_26 rfl (?_ : V X 27 [some (.ref 1), some (.ref w)] [.int 1, .int (gi μ2 1 3), .ref 1] μ2)
    refine v_iadd hX dX6_readNight_27 (?_ : V X 28 [some (.ref 1), some (.ref w)] [.int ((gi μ2 1 3) + 1), .ref 1] μ2)
    refine w_puti hX fk_X6_27 fw_6_3 sh_1 rfl dX6_readNight_28 (fun μ4 e5 => (?_ : V X 31 [some (.ref 1), some (.ref w)] [] μ4))
    replace h := h μ4 e5
    refine v_aload_n hX dX6_readNight_31 rfl (?_ : V X 32 [some (.ref 1), some (.ref w)] [.ref w] μ4)
    refine v_aload_n hX dX6_readNight_32 rfl (?_ : V X 33 [some (.ref 1), some (.ref w)] [.ref 1, .ref w] μ4)
    refine v_iconst hX 1 dX6_readNight_33 rfl (?_ : V X 34 [some (.ref 1), some (.ref w)] [.int 1, .ref 1, .ref w] μ4)
    refine v_sipush hX 500 dX6_readNight_34 rfl (?_ : V X 37 [some (.ref 1), some (.ref w)] [.int 500, .int 1, .ref 1, .ref w] μ4)
    refine v_callV hX sp_X6_readNumber ck_X6_readNumber mk_X6_79 mv_X6_readNumber sh_1 (by decide) (by decide) [.int 1, .int 500] [.ref w] rfl rfl (Nat.le_of_ble_eq_true rfl) dX6_readNight_37 ⟨1, 500, rfl, h.1, fun x6 μ7 hp8 => (?_ : V X 40 [some (.ref 1), some (.ref w)] [.int x6, .ref w] μ7)⟩
    replace h := h.2 x6 μ7 hp8
    refine w_puti hX fk_X6_110 fw_2_11 (sHo hw) rfl dX6_readNight_40 (fun μ9 e10 => (?_ : V X 43 [some (.ref 1), some (.ref w)] [] μ9))
    replace h := h μ9 e10
    refine v_aload_n hX dX6_readNight_43 rfl (?_ : V X 44 [some (.ref 1), some (.ref w)] [.ref w] μ9)
    refine v_geti hX fk_X6_110 (sHo hw) rfl dX6_readNight_44 (?_ : V X 47 [some (.ref 1), some (.ref w)] [.int (gi μ9 w 11)] μ9)
    refine v_if_lt hX 54 dX6_readNight_47 rfl (fun c11 => ?_) (fun c11 => ?_)
    · replace h := h.1 c11
      refine v_iconst hX 0 dX6_readNight_54 rfl (?_ : V X 55 [some (.ref 1), some (.ref w)] [.int 0] μ9)
      exact v_zret hO dX6_readNight_55 (by decide) (hR _ _ h)
    · replace h := h.2 c11
      refine v_iconst hX 1 dX6_readNight_50 rfl (?_ : V X 51 [some (.ref 1), some (.ref w)] [.int 1] μ9)
      refine v_goto hX 55 dX6_readNight_51 rfl (?_ : V X 55 [some (.ref 1), some (.ref w)] [.int 1] μ9)
      exact v_zret hO dX6_readNight_55 (by decide) (hR _ _ h)
  · replace h := h.2 c1
    refine v_aload_n hX dX6_readNight_7 rfl (?_ : V X 8 [some (.ref 1), some (.ref w)] [.ref 1] μ)
    refine v_aload_n hX dX6_readNight_8 rfl (?_ : V X 9 [some (.ref 1), some (.ref w)] [.ref 1, .ref 1] μ)
    refine v_geti hX fk_X6_27 sh_1 rfl dX6_readNight_9 (?_ : V X 12 [some (.ref 1), some (.ref w)] [.int (gi μ 1 3), .ref 1] μ)
    refine v_callV hX sp_X6_failsAt ck_X6_failsAt mk_X6_69 mv_X6_failsAt sh_1 (by decide) (by decide) [.int (gi μ 1 3)] [] rfl rfl (Nat.le_of_ble_eq_true rfl) dX6_readNight_12 ⟨(gi μ 1 3), rfl, h.1, fun x12 μ13 hp14 => (?_ : V X 15 [some (.ref 1), some (.ref w)] [.int x12] μ13)⟩
    replace h := h.2 x12 μ13 hp14
    exact v_zret hO dX6_readNight_15 h.1 (hR _ _ h.2)
set_option maxRecDepth 20000 in
set_option maxHeartbeats 1000000 in
theorem vp_X6_readNight_0 (w : Nat) (hw : w = 3 ∨ w = 10) (μ : Mem) (hpre : pre_X6_readNight w μ) : vc_X6_readNight_0 w μ (post_X6_readNight w μ)  := by
  unfold vc_X6_readNight_0
  refine ⟨fun q => ?_, fun q => ⟨trivial, one_fail q⟩⟩
  rintro m2 rfl m4 hm4
  obtain ⟨hRD, k⟩ := one_all (g := 11) (p1 := 1) (p2 := 500) hpre q (by omega) m4 hm4
  exact ⟨⟨hRD, by decide⟩, k⟩
theorem sp_X6_readNight : Sp yX6_readNight cX6_readNight 2 (some .boolean) 2 S_X6_readNight := by
  refine sp_of (by decide) (fun av μ P h => ?_) ?_
  · obtain ⟨w, rfl, -⟩ := h
    refine ⟨Nat.le_of_ble_eq_true rfl, fun v hv => ?_⟩
    simp only [List.mem_cons, List.not_mem_nil, or_false] at hv
    rcases hv with rfl | rfl <;> rfl
  · rintro X P hO _ μ ⟨w, rfl, hw, hpre, hpost⟩ hn
    exact wk_X6_readNight_0 hO hn w hw μ hpost (vp_X6_readNight_0 w hw μ hpre)
def S_X6_readCulprit : Tr := fun av μ P => ∃ (w : Nat), av = [.ref 1, .ref w] ∧ (w = 3 ∨ w = 10) ∧ pre_X6_readCulprit w μ ∧ ∀ (x : Int32) (m : Mem), post_X6_readCulprit w μ x m → P (some (.int x)) m
def vc_X6_readCulprit_0 (w : Nat)  (μ : Mem) (R : Int32 → Mem → Prop)  : Prop :=
  (((gi μ 1 4) = 0 → (∀ μ2, μ2 = ui μ 1 4 1 → (∀ μ4, μ4 = ui μ2 1 3 ((gi μ2 1 3) + 1) → (pre_X6_readNumber 0 ((gi μ4 w 7) - 1) μ4 ∧ ∀ (x6 : Int32) (μ7 : Mem), post_X6_readNumber 0 ((gi μ4 w 7) - 1) μ4 x6 μ7 → (∀ μ9, μ9 = ui μ7 w 9 x6 → (((gi μ9 w 9) < 0 → R 0 μ9) ∧ (¬ (gi μ9 w 9) < 0 → R 1 μ9))))))) ∧ (¬ (gi μ 1 4) = 0 → (pre_X6_failsAt (gi μ 1 3) μ ∧ ∀ (x12 : Int32) (μ13 : Mem), post_X6_failsAt (gi μ 1 3) μ x12 μ13 → (x12 = 0 ∨ x12 = 1) ∧ R x12 μ13)))
set_option maxRecDepth 20000 in
set_option maxHeartbeats 4000000 in
theorem wk_X6_readCulprit_0 {X : XT} {P : Post} (hO : OkM X cX6_readCulprit RX6 2 (some .boolean) P) (hn : xn X = 2) (w : Nat) (hw : w = 3 ∨ w = 10)  (μ : Mem) {R : Int32 → Mem → Prop} (hR : ∀ x m, R x m → P (some (.int x)) m)    (h : vc_X6_readCulprit_0 w  μ R ) : V X 0 [some (.ref 1), some (.ref w)] [] μ := by
  have hX := hO.1
  unfold vc_X6_readCulprit_0 at h
  refine v_aload_n hX dX6_readCulprit_0 rfl (?_ : V X 1 [some (.ref 1), some (.ref w)] [.ref 1] μ)
  refine v_getz hX fk_X6_30 sh_1 rfl dX6_readCulprit_1 (?_ : V X 4 [some (.ref 1), some (.ref w)] [.int (gi μ 1 4)] μ)
  refine v_if_eq hX 16 dX6_readCulprit_4 rfl (fun c1 => ?_) (fun c1 => ?_)
  · replace h := h.1 c1
    refine v_aload_n hX dX6_readCulprit_16 rfl (?_ : V X 17 [some (.ref 1), some (.ref w)] [.ref 1] μ)
    refine v_iconst hX 1 dX6_readCulprit_17 rfl (?_ : V X 18 [some (.ref 1), some (.ref w)] [.int 1, .ref 1] μ)
    refine w_putz hX fk_X6_30 fw_6_4 sh_1 rfl (by decide) dX6_readCulprit_18 (fun μ2 e3 => (?_ : V X 21 [some (.ref 1), some (.ref w)] [] μ2))
    replace h := h μ2 e3
    refine v_aload_n hX dX6_readCulprit_21 rfl (?_ : V X 22 [some (.ref 1), some (.ref w)] [.ref 1] μ2)
    refine v_dup hX dX6_readCulprit_22 rfl (?_ : V X 23 [some (.ref 1), some (.ref w)] [.ref 1, .ref 1] μ2)
    refine v_geti hX fk_X6_27 sh_1 rfl dX6_readCulprit_23 (?_ : V X 26 [some (.ref 1), some (.ref w)] [.int (gi μ2 1 3), .ref 1] μ2)
    refine v_iconst hX 1 dX6_readCulprit_26 rfl (?_ : V X 27 [some (.ref 1), some (.ref w)] [.int 1, .int (gi μ2 1 3), .ref 1] μ2)
    refine v_iadd hX dX6_readCulprit_27 (?_ : V X 28 [some (.ref 1), some (.ref w)] [.int ((gi μ2 1 3) + 1), .ref 1] μ2)
    refine w_puti hX fk_X6_27 fw_6_3 sh_1 rfl dX6_readCulprit_28 (fun μ4 e5 => (?_ : V X 31 [some (.ref 1), some (.ref w)] [] μ4))
    replace h := h μ4 e5
    refine v_aload_n hX dX6_readCulprit_31 rfl (?_ : V X 32 [some (.ref 1), some (.ref w)] [.ref w] μ4)
    refine v_aload_n hX dX6_readCulprit_32 rfl (?_ : V X 33 [some (.ref 1), some (.ref w)] [.ref 1, .ref w] μ4)
    refine v_iconst hX 0 dX6_readCulprit_33 rfl (?_ : V X 34 [some (.ref 1), some (.ref w)] [.int 0, .ref 1, .ref w] μ4)
    refine v_aload_n hX dX6_readCulprit_34 rfl (?_ : V X 35 [some (.ref 1), some (.ref w)] [.ref w, .int 0, .ref 1, .ref w] μ4)
    refine v_geti hX fk_X6_98 (sHo hw) rfl dX6_readCulprit_35 (?_ : V X 38 [some (.ref 1), some (.ref w)] [.int (gi μ4 w 7), .int 0, .ref 1, .ref w] μ4)
    refine v_iconst hX 1 dX6_readCulprit_38 rfl (?_ : V X 39 [some (.ref 1), some (.ref w)] [.int 1, .int (gi μ4 w 7), .int 0, .ref 1, .ref w] μ4)
    refine v_isub hX dX6_readCulprit_39 (?_ : V X 40 [some (.ref 1), some (.ref w)] [.int ((gi μ4 w 7) - 1), .int 0, .ref 1, .ref w] μ4)
    refine v_callV hX sp_X6_readNumber ck_X6_readNumber mk_X6_79 mv_X6_readNumber sh_1 (by decide) (by decide) [.int 0, .int ((gi μ4 w 7) - 1)] [.ref w] rfl rfl (Nat.le_of_ble_eq_true rfl) dX6_readCulprit_40 ⟨0, ((gi μ4 w 7) - 1), rfl, h.1, fun x6 μ7 hp8 => (?_ : V X 43 [some (.ref 1), some (.ref w)] [.int x6, .ref w] μ7)⟩
    replace h := h.2 x6 μ7 hp8
    refine w_puti hX fk_X6_104 fw_2_9 (sHo hw) rfl dX6_readCulprit_43 (fun μ9 e10 => (?_ : V X 46 [some (.ref 1), some (.ref w)] [] μ9))
    replace h := h μ9 e10
    refine v_aload_n hX dX6_readCulprit_46 rfl (?_ : V X 47 [some (.ref 1), some (.ref w)] [.ref w] μ9)
    refine v_geti hX fk_X6_104 (sHo hw) rfl dX6_readCulprit_47 (?_ : V X 50 [some (.ref 1), some (.ref w)] [.int (gi μ9 w 9)] μ9)
    refine v_if_lt hX 57 dX6_readCulprit_50 rfl (fun c11 => ?_) (fun c11 => ?_)
    · replace h := h.1 c11
      refine v_iconst hX 0 dX6_readCulprit_57 rfl (?_ : V X 58 [some (.ref 1), some (.ref w)] [.int 0] μ9)
      exact v_zret hO dX6_readCulprit_58 (by decide) (hR _ _ h)
    · replace h := h.2 c11
      refine v_iconst hX 1 dX6_readCulprit_53 rfl (?_ : V X 54 [some (.ref 1), some (.ref w)] [.int 1] μ9)
      refine v_goto hX 58 dX6_readCulprit_54 rfl (?_ : V X 58 [some (.ref 1), some (.ref w)] [.int 1] μ9)
      exact v_zret hO dX6_readCulprit_58 (by decide) (hR _ _ h)
  · replace h := h.2 c1
    refine v_aload_n hX dX6_readCulprit_7 rfl (?_ : V X 8 [some (.ref 1), some (.ref w)] [.ref 1] μ)
    refine v_aload_n hX dX6_readCulprit_8 rfl (?_ : V X 9 [some (.ref 1), some (.ref w)] [.ref 1, .ref 1] μ)
    refine v_geti hX fk_X6_27 sh_1 rfl dX6_readCulprit_9 (?_ : V X 12 [some (.ref 1), some (.ref w)] [.int (gi μ 1 3), .ref 1] μ)
    refine v_callV hX sp_X6_failsAt ck_X6_failsAt mk_X6_69 mv_X6_failsAt sh_1 (by decide) (by decide) [.int (gi μ 1 3)] [] rfl rfl (Nat.le_of_ble_eq_true rfl) dX6_readCulprit_12 ⟨(gi μ 1 3), rfl, h.1, fun x12 μ13 hp14 => (?_ : V X 15 [some (.ref 1), some (.ref w)] [.int x12] μ13)⟩
    replace h := h.2 x12 μ13 hp14
    exact v_zret hO dX6_readCulprit_15 h.1 (hR _ _ h.2)
set_option maxRecDepth 20000 in
set_option maxHeartbeats 1000000 in
theorem vp_X6_readCulprit_0 (w : Nat) (hw : w = 3 ∨ w = 10) (μ : Mem) (hpre : pre_X6_readCulprit w μ) : vc_X6_readCulprit_0 w μ (post_X6_readCulprit w μ)  := by
  unfold vc_X6_readCulprit_0
  obtain ⟨hR, a7⟩ := hpre
  refine ⟨fun q => ?_, fun q => ⟨trivial, one_fail q⟩⟩
  rintro m2 rfl m4 hm4
  have hw := hR.1
  obtain ⟨hRD, k⟩ := one_all (g := 9) (p1 := 0) (p2 := gi μ w 7 - 1) hR q (by omega) m4 hm4
  have e7 : gi m4 w 7 = gi μ w 7 := by rw [hm4, gi_ui, if_neg (by omega), gi_ui, if_neg (by omega)]
  rw [e7]
  refine ⟨⟨hRD, ?_⟩, k⟩
  have : ∀ n, n ≤ 6 → nI n - 1 < 1000 := by decide +kernel
  rw [a7.1]; exact this _ a7.2
theorem sp_X6_readCulprit : Sp yX6_readCulprit cX6_readCulprit 2 (some .boolean) 2 S_X6_readCulprit := by
  refine sp_of (by decide) (fun av μ P h => ?_) ?_
  · obtain ⟨w, rfl, -⟩ := h
    refine ⟨Nat.le_of_ble_eq_true rfl, fun v hv => ?_⟩
    simp only [List.mem_cons, List.not_mem_nil, or_false] at hv
    rcases hv with rfl | rfl <;> rfl
  · rintro X P hO _ μ ⟨w, rfl, hw, hpre, hpost⟩ hn
    exact wk_X6_readCulprit_0 hO hn w hw μ hpost (vp_X6_readCulprit_0 w hw μ hpre)

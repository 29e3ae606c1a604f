theorem fr_refl (cs : List Nat) (μ : Mem) : fr cs μ μ := ⟨fun _ _ _ => rfl, rfl⟩
theorem fr_trans {cs : List Nat} {a b c : Mem} (h1 : fr cs a b) (h2 : fr cs b c) : fr cs a c := ⟨fun q hq k => (h2.1 q hq k).trans (h1.1 q hq k), h2.2.trans h1.2⟩
theorem fr_mono {cs ds : List Nat} {a b : Mem} (h : fr cs a b) (hs : ∀ c ∈ cs, c ∈ ds) : fr ds a b := ⟨fun q hq k => h.1 q (fun z => hq (hs q z)) k, h.2⟩
theorem fr_ui {cs : List Nat} {μ : Mem} {c k : Nat} {v : Int32} (h : c ∈ cs) : fr cs μ (ui μ c k v) := ⟨fun q hq j => by
  have : q ≠ c := fun e => hq (e ▸ h)
  simp [gi, ui, this], rfl⟩
theorem fr_ua {cs : List Nat} {μ : Mem} {c : Nat} {f : Nat → Int32} (h : c ∈ cs) : fr cs μ (ua μ c f) := ⟨fun q hq j => by
  have : q ≠ c := fun e => hq (e ▸ h)
  simp [gi, ua, this], rfl⟩
theorem gi_ui (μ : Mem) (c k : Nat) (v : Int32) (a b : Nat) : gi (ui μ c k v) a b = if a = c ∧ b = k then v else gi μ a b := rfl
theorem gi_ua (μ : Mem) (c : Nat) (f : Nat → Int32) (a b : Nat) : gi (ua μ c f) a b = if a = c then f b else gi μ a b := rfl
theorem gi_ul (μ : Mem) (c k : Nat) (v : Int64) (a b : Nat) : gi (ul μ c k v) a b = gi μ a b := rfl
theorem gi_up (μ : Mem) (k v a b : Nat) : gi (up μ k v) a b = gi μ a b := rfl
theorem gl_ui (μ : Mem) (c k : Nat) (v : Int32) (a b : Nat) : gl (ui μ c k v) a b = gl μ a b := rfl
theorem gl_ua (μ : Mem) (c : Nat) (f : Nat → Int32) (a b : Nat) : gl (ua μ c f) a b = gl μ a b := rfl
theorem gl_up (μ : Mem) (k v a b : Nat) : gl (up μ k v) a b = gl μ a b := rfl
theorem gl_ul (μ : Mem) (c k : Nat) (v : Int64) (a b : Nat) : gl (ul μ c k v) a b = if a = c ∧ b = k then v else gl μ a b := rfl
theorem gp_ui (μ : Mem) (c k : Nat) (v : Int32) (a : Nat) : gp (ui μ c k v) a = gp μ a := rfl
theorem gp_ua (μ : Mem) (c : Nat) (f : Nat → Int32) (a : Nat) : gp (ua μ c f) a = gp μ a := rfl
theorem gp_ul (μ : Mem) (c k : Nat) (v : Int64) (a : Nat) : gp (ul μ c k v) a = gp μ a := rfl
theorem gp_up (μ : Mem) (k v a : Nat) : gp (up μ k v) a = if a = k then v else gp μ a := rfl
def S_X2_hasRoom : Tr := fun av μ P => ∃ (w : Nat) (p1 : Int32), av = [.ref w, .int p1] ∧ (w = 3 ∨ w = 10) ∧ pre_X2_hasRoom w p1 μ ∧ ∀ (x : Int32) (m : Mem), post_X2_hasRoom w p1 μ x m → P (some (.int x)) m
def vc_X2_hasRoom_0 (w : Nat) (p1 : Int32)  (μ : Mem) (R : Int32 → Mem → Prop)  : Prop :=
  ((p1 < 0 → R 0 μ) ∧ (¬ p1 < 0 → (((gi μ w 0) ≤ p1 → R 0 μ) ∧ (¬ (gi μ w 0) ≤ p1 → R 1 μ))))
set_option maxRecDepth 20000 in
set_option maxHeartbeats 4000000 in
theorem wk_X2_hasRoom_0 {X : XT} {P : Post} (hO : OkM X cX2_hasRoom RX2 0 (some .boolean) P) (hn : xn X = 2) (w : Nat) (p1 : Int32) (hw : w = 3 ∨ w = 10)  (μ : Mem) {R : Int32 → Mem → Prop} (hR : ∀ x m, R x m → P (some (.int x)) m)    (h : vc_X2_hasRoom_0 w p1  μ R ) : V X 0 [some (.ref w), some (.int p1)] [] μ := by
  have hX := hO.1
  unfold vc_X2_hasRoom_0 at h
  refine v_iload_n hX dX2_hasRoom_0 rfl (?_ : V X 1 [some (.ref w), some (.int p1)] [.int p1] μ)
  refine v_if_lt hX 16 dX2_hasRoom_1 rfl (fun c1 => ?_) (fun c1 => ?_)
  · replace h := h.1 c1
    refine v_iconst hX 0 dX2_hasRoom_16 rfl (?_ : V X 17 [some (.ref w), some (.int p1)] [.int 0] μ)
    exact v_zret hO dX2_hasRoom_17 (by decide) (hR _ _ h)
  · replace h := h.2 c1
    refine v_iload_n hX dX2_hasRoom_4 rfl (?_ : V X 5 [some (.ref w), some (.int p1)] [.int p1] μ)
    refine v_aload_n hX dX2_hasRoom_5 rfl (?_ : V X 6 [some (.ref w), some (.int p1)] [.ref w, .int p1] μ)
    refine v_geti hX fk_X2_33 (sHo hw) rfl dX2_hasRoom_6 (?_ : V X 9 [some (.ref w), some (.int p1)] [.int (gi μ w 0), .int p1] μ)
    refine v_icmp_ge hX 16 dX2_hasRoom_9 rfl (fun c2 => ?_) (fun c2 => ?_)
    · replace h := h.1 c2
      refine v_iconst hX 0 dX2_hasRoom_16 rfl (?_ : V X 17 [some (.ref w), some (.int p1)] [.int 0] μ)
      exact v_zret hO dX2_hasRoom_17 (by decide) (hR _ _ h)
    · replace h := h.2 c2
      refine v_iconst hX 1 dX2_hasRoom_12 rfl (?_ : V X 13 [some (.ref w), some (.int p1)] [.int 1] μ)
      refine v_goto hX 17 dX2_hasRoom_13 rfl (?_ : V X 17 [some (.ref w), some (.int p1)] [.int 1] μ)
      exact v_zret hO dX2_hasRoom_17 (by decide) (hR _ _ h)
set_option maxRecDepth 20000 in
set_option maxHeartbeats 4000000 in
theorem vp_X2_hasRoom_0 (w : Nat) (p1 : Int32) (hw : w = 3 ∨ w = 10) (μ : Mem) (hpre : pre_X2_hasRoom w p1 μ) : vc_X2_hasRoom_0 w p1 μ (post_X2_hasRoom w p1 μ)  := by
  simp only [vc_X2_hasRoom_0, and_imp, call_eq, forall_eq, forall_const, true_and, and_true]
  unfold post_X2_hasRoom; grind
theorem sp_X2_hasRoom : Sp yX2_hasRoom cX2_hasRoom 2 (some .boolean) 0 S_X2_hasRoom := by
  refine sp_of (by decide) (fun av μ P h => ?_) ?_
  · obtain ⟨w, p1, rfl, -⟩ := h
    refine ⟨Nat.le_of_ble_eq_true rfl, fun v hv => ?_⟩
    simp only [List.mem_cons, List.not_mem_nil, or_false] at hv
    rcases hv with rfl | rfl <;> rfl
  · rintro X P hO _ μ ⟨w, p1, rfl, hw, hpre, hpost⟩ hn
    exact wk_X2_hasRoom_0 hO hn w p1 hw μ hpost (vp_X2_hasRoom_0 w p1 hw μ hpre)
def S_X2_hasDoing : Tr := fun av μ P => ∃ (w : Nat) (p1 : Int32), av = [.ref w, .int p1] ∧ (w = 3 ∨ w = 10) ∧ pre_X2_hasDoing w p1 μ ∧ ∀ (x : Int32) (m : Mem), post_X2_hasDoing w p1 μ x m → P (some (.int x)) m
def vc_X2_hasDoing_0 (w : Nat) (p1 : Int32)  (μ : Mem) (R : Int32 → Mem → Prop)  : Prop :=
  ((p1 < 0 → R 0 μ) ∧ (¬ p1 < 0 → (((gi μ w 4) ≤ p1 → R 0 μ) ∧ (¬ (gi μ w 4) ≤ p1 → R 1 μ))))
set_option maxRecDepth 20000 in
set_option maxHeartbeats 4000000 in
theorem wk_X2_hasDoing_0 {X : XT} {P : Post} (hO : OkM X cX2_hasDoing RX2 0 (some .boolean) P) (hn : xn X = 2) (w : Nat) (p1 : Int32) (hw : w = 3 ∨ w = 10)  (μ : Mem) {R : Int32 → Mem → Prop} (hR : ∀ x m, R x m → P (some (.int x)) m)    (h : vc_X2_hasDoing_0 w p1  μ R ) : V X 0 [some (.ref w), some (.int p1)] [] μ := by
  have hX := hO.1
  unfold vc_X2_hasDoing_0 at h
  refine v_iload_n hX dX2_hasDoing_0 rfl (?_ : V X 1 [some (.ref w), some (.int p1)] [.int p1] μ)
  refine v_if_lt hX 16 dX2_hasDoing_1 rfl (fun c1 => ?_) (fun c1 => ?_)
  · replace h := h.1 c1
    refine v_iconst hX 0 dX2_hasDoing_16 rfl (?_ : V X 17 [some (.ref w), some (.int p1)] [.int 0] μ)
    exact v_zret hO dX2_hasDoing_17 (by decide) (hR _ _ h)
  · replace h := h.2 c1
    refine v_iload_n hX dX2_hasDoing_4 rfl (?_ : V X 5 [some (.ref w), some (.int p1)] [.int p1] μ)
    refine v_aload_n hX dX2_hasDoing_5 rfl (?_ : V X 6 [some (.ref w), some (.int p1)] [.ref w, .int p1] μ)
    refine v_geti hX fk_X2_37 (sHo hw) rfl dX2_hasDoing_6 (?_ : V X 9 [some (.ref w), some (.int p1)] [.int (gi μ w 4), .int p1] μ)
    refine v_icmp_ge hX 16 dX2_hasDoing_9 rfl (fun c2 => ?_) (fun c2 => ?_)
    · replace h := h.1 c2
      refine v_iconst hX 0 dX2_hasDoing_16 rfl (?_ : V X 17 [some (.ref w), some (.int p1)] [.int 0] μ)
      exact v_zret hO dX2_hasDoing_17 (by decide) (hR _ _ h)
    · replace h := h.2 c2
      refine v_iconst hX 1 dX2_hasDoing_12 rfl (?_ : V X 13 [some (.ref w), some (.int p1)] [.int 1] μ)
      refine v_goto hX 17 dX2_hasDoing_13 rfl (?_ : V X 17 [some (.ref w), some (.int p1)] [.int 1] μ)
      exact v_zret hO dX2_hasDoing_17 (by decide) (hR _ _ h)
set_option maxRecDepth 20000 in
set_option maxHeartbeats 4000000 in
theorem vp_X2_hasDoing_0 (w : Nat) (p1 : Int32) (hw : w = 3 ∨ w = 10) (μ : Mem) (hpre : pre_X2_hasDoing w p1 μ) : vc_X2_hasDoing_0 w p1 μ (post_X2_hasDoing w p1 μ)  := by
  simp only [vc_X2_hasDoing_0, and_imp, call_eq, forall_eq, forall_const, true_and, and_true]
  unfold post_X2_hasDoing; grind
theorem sp_X2_hasDoing : Sp yX2_hasDoing cX2_hasDoing 2 (some .boolean) 0 S_X2_hasDoing := by
  refine sp_of (by decide) (fun av μ P h => ?_) ?_
  · obtain ⟨w, p1, rfl, -⟩ := h
    refine ⟨Nat.le_of_ble_eq_true rfl, fun v hv => ?_⟩
    simp only [List.mem_cons, List.not_mem_nil, or_false] at hv
    rcases hv with rfl | rfl <;> rfl
  · rintro X P hO _ μ ⟨w, p1, rfl, hw, hpre, hpost⟩ hn
    exact wk_X2_hasDoing_0 hO hn w p1 hw μ hpost (vp_X2_hasDoing_0 w p1 hw μ hpre)
def S_X2_fullLoss : Tr := fun av μ P => ∃ (w : Nat) (p1 : Int32) (p2 : Int32), av = [.ref w, .int p1, .int p2] ∧ (w = 3 ∨ w = 10) ∧ pre_X2_fullLoss w p1 p2 μ ∧ ∀ (x : Int32) (m : Mem), post_X2_fullLoss w p1 p2 μ x m → P (some (.int x)) m
def vc_X2_fullLoss_0 (w : Nat) (p1 : Int32) (p2 : Int32)  (μ : Mem) (R : Int32 → Mem → Prop)  : Prop :=
  vp_in p2 5 ∧ vp_in p1 5 ∧ R ((gi μ (w + 4) (Int32.toNatClampNeg p2)) * (gi μ (w + 2) (Int32.toNatClampNeg p1))) μ
set_option maxRecDepth 20000 in
set_option maxHeartbeats 4000000 in
theorem wk_X2_fullLoss_0 {X : XT} {P : Post} (hO : OkM X cX2_fullLoss RX2 0 (some .int) P) (hn : xn X = 3) (w : Nat) (p1 : Int32) (p2 : Int32) (hw : w = 3 ∨ w = 10)  (μ : Mem) {R : Int32 → Mem → Prop} (hR : ∀ x m, R x m → P (some (.int x)) m)    (h : vc_X2_fullLoss_0 w p1 p2  μ R ) : V X 0 [some (.ref w), some (.int p1), some (.int p2)] [] μ := by
  have hX := hO.1
  unfold vc_X2_fullLoss_0 at h
  refine v_aload_n hX dX2_fullLoss_0 rfl (?_ : V X 1 [some (.ref w), some (.int p1), some (.int p2)] [.ref w] μ)
  refine v_getr hX (w + 4) fk_X2_21 (sHo hw) rfl rfl dX2_fullLoss_1 (?_ : V X 4 [some (.ref w), some (.int p1), some (.int p2)] [.ref (w + 4)] μ)
  refine v_iload_n hX dX2_fullLoss_4 rfl (?_ : V X 5 [some (.ref w), some (.int p1), some (.int p2)] [.int p2, .ref (w + 4)] μ)
  have hb1 := h.1
  replace h := h.2
  refine w_iald hX (Int32.toNatClampNeg p2) (sH4 hw) hb1 rfl dX2_fullLoss_5 (?_ : V X 6 [some (.ref w), some (.int p1), some (.int p2)] [.int (gi μ (w + 4) (Int32.toNatClampNeg p2))] μ)
  refine v_aload_n hX dX2_fullLoss_6 rfl (?_ : V X 7 [some (.ref w), some (.int p1), some (.int p2)] [.ref w, .int (gi μ (w + 4) (Int32.toNatClampNeg p2))] μ)
  refine v_getr hX (w + 2) fk_X2_15 (sHo hw) rfl rfl dX2_fullLoss_7 (?_ : V X 10 [some (.ref w), some (.int p1), some (.int p2)] [.ref (w + 2), .int (gi μ (w + 4) (Int32.toNatClampNeg p2))] μ)
  refine v_iload_n hX dX2_fullLoss_10 rfl (?_ : V X 11 [some (.ref w), some (.int p1), some (.int p2)] [.int p1, .ref (w + 2), .int (gi μ (w + 4) (Int32.toNatClampNeg p2))] μ)
  have hb2 := h.1
  replace h := h.2
  refine w_iald hX (Int32.toNatClampNeg p1) (sH2 hw) hb2 rfl dX2_fullLoss_11 (?_ : V X 12 [some (.ref w), some (.int p1), some (.int p2)] [.int (gi μ (w + 2) (Int32.toNatClampNeg p1)), .int (gi μ (w + 4) (Int32.toNatClampNeg p2))] μ)
  refine v_imul hX dX2_fullLoss_12 (?_ : V X 13 [some (.ref w), some (.int p1), some (.int p2)] [.int ((gi μ (w + 4) (Int32.toNatClampNeg p2)) * (gi μ (w + 2) (Int32.toNatClampNeg p1)))] μ)
  exact v_iret hO dX2_fullLoss_13 (hR _ _ h)
set_option maxRecDepth 20000 in
set_option maxHeartbeats 4000000 in
theorem vp_X2_fullLoss_0 (w : Nat) (p1 : Int32) (p2 : Int32) (hw : w = 3 ∨ w = 10) (μ : Mem) (hpre : pre_X2_fullLoss w p1 p2 μ) : vc_X2_fullLoss_0 w p1 p2 μ (post_X2_fullLoss w p1 p2 μ)  := by
  simp only [vc_X2_fullLoss_0, and_imp, call_eq, forall_eq, forall_const, true_and, and_true]
  unfold post_X2_fullLoss; unfold pre_X2_fullLoss at hpre; grind
theorem sp_X2_fullLoss : Sp yX2_fullLoss cX2_fullLoss 3 (some .int) 0 S_X2_fullLoss := by
  refine sp_of (by decide) (fun av μ P h => ?_) ?_
  · obtain ⟨w, p1, p2, rfl, -⟩ := h
    refine ⟨Nat.le_of_ble_eq_true rfl, fun v hv => ?_⟩
    simp only [List.mem_cons, List.not_mem_nil, or_false] at hv
    rcases hv with rfl | rfl | rfl <;> rfl
  · rintro X P hO _ μ ⟨w, p1, p2, rfl, hw, hpre, hpost⟩ hn
    exact wk_X2_fullLoss_0 hO hn w p1 p2 hw μ hpost (vp_X2_fullLoss_0 w p1 p2 hw μ hpre)
def S_X2_walkBetween : Tr := fun av μ P => ∃ (w : Nat) (p1 : Int32) (p2 : Int32), av = [.ref w, .int p1, .int p2] ∧ (w = 3 ∨ w = 10) ∧ pre_X2_walkBetween w p1 p2 μ ∧ ∀ (x : Int32) (m : Mem), post_X2_walkBetween w p1 p2 μ x m → P (some (.int x)) m
def vc_X2_walkBetween_0 (w : Nat) (p1 : Int32) (p2 : Int32)  (μ : Mem) (R : Int32 → Mem → Prop)  : Prop :=
  ((¬ p1 = ((-9)) → R ((gi μ w 10) * (if 0 ≤ (p2 - p1) then (p2 - p1) else 0 - (p2 - p1))) μ) ∧ (p1 = ((-9)) → R ((gi μ w 10) * (if 0 ≤ (p2 - 0) then (p2 - 0) else 0 - (p2 - 0))) μ))
set_option maxRecDepth 20000 in
set_option maxHeartbeats 4000000 in
theorem wk_X2_walkBetween_0 {X : XT} {P : Post} (hO : OkM X cX2_walkBetween RX2 1 (some .int) P) (hn : xn X = 3) (w : Nat) (p1 : Int32) (p2 : Int32) (hw : w = 3 ∨ w = 10)  (μ : Mem) {R : Int32 → Mem → Prop} (hR : ∀ x m, R x m → P (some (.int x)) m)    (h : vc_X2_walkBetween_0 w p1 p2  μ R ) : V X 0 [some (.ref w), some (.int p1), some (.int p2)] [] μ := by
  have hX := hO.1
  unfold vc_X2_walkBetween_0 at h
  refine v_aload_n hX dX2_walkBetween_0 rfl (?_ : V X 1 [some (.ref w), some (.int p1), some (.int p2)] [.ref w] μ)
  refine v_geti hX fk_X2_46 (sHo hw) rfl dX2_walkBetween_1 (?_ : V X 4 [some (.ref w), some (.int p1), some (.int p2)] [.int (gi μ w 10)] μ)
  refine v_iload_n hX dX2_walkBetween_4 rfl (?_ : V X 5 [some (.ref w), some (.int p1), some (.int p2)] [.int p2, .int (gi μ w 10)] μ)
  refine v_iload_n hX dX2_walkBetween_5 rfl (?_ : V X 6 [some (.ref w), some (.int p1), some (.int p2)] [.int p1, .int p2, .int (gi μ w 10)] μ)
  refine v_bipush hX (-9) dX2_walkBetween_6 rfl (?_ : V X 8 [some (.ref w), some (.int p1), some (.int p2)] [.int ((-9)), .int p1, .int p2, .int (gi μ w 10)] μ)
  refine v_icmp_ne hX 15 dX2_walkBetween_8 rfl (fun c1 => ?_) (fun c1 => ?_)
  · replace h := h.1 c1
    refine v_iload_n hX dX2_walkBetween_15 rfl (?_ : V X 16 [some (.ref w), some (.int p1), some (.int p2)] [.int p1, .int p2, .int (gi μ w 10)] μ)
    refine v_isub hX dX2_walkBetween_16 (?_ : V X 17 [some (.ref w), some (.int p1), some (.int p2)] [.int (p2 - p1), .int (gi μ w 10)] μ)
    refine v_mabs hX mk_X2_52 twAbs (by decide) (Nat.le_of_ble_eq_true rfl) dX2_walkBetween_17 (?_ : V X 20 [some (.ref w), some (.int p1), some (.int p2)] [.int (if 0 ≤ (p2 - p1) then (p2 - p1) else 0 - (p2 - p1)), .int (gi μ w 10)] μ)
    refine v_imul hX dX2_walkBetween_20 (?_ : V X 21 [some (.ref w), some (.int p1), some (.int p2)] [.int ((gi μ w 10) * (if 0 ≤ (p2 - p1) then (p2 - p1) else 0 - (p2 - p1)))] μ)
    exact v_iret hO dX2_walkBetween_21 (hR _ _ h)
  · replace h := h.2 c1
    refine v_iconst hX 0 dX2_walkBetween_11 rfl (?_ : V X 12 [some (.ref w), some (.int p1), some (.int p2)] [.int 0, .int p2, .int (gi μ w 10)] μ)
    refine v_goto hX 16 dX2_walkBetween_12 rfl (?_ : V X 16 [some (.ref w), some (.int p1), some (.int p2)] [.int 0, .int p2, .int (gi μ w 10)] μ)
    refine v_isub hX dX2_walkBetween_16 (?_ : V X 17 [some (.ref w), some (.int p1), some (.int p2)] [.int (p2 - 0), .int (gi μ w 10)] μ)
    refine v_mabs hX mk_X2_52 twAbs (by decide) (Nat.le_of_ble_eq_true rfl) dX2_walkBetween_17 (?_ : V X 20 [some (.ref w), some (.int p1), some (.int p2)] [.int (if 0 ≤ (p2 - 0) then (p2 - 0) else 0 - (p2 - 0)), .int (gi μ w 10)] μ)
    refine v_imul hX dX2_walkBetween_20 (?_ : V X 21 [some (.ref w), some (.int p1), some (.int p2)] [.int ((gi μ w 10) * (if 0 ≤ (p2 - 0) then (p2 - 0) else 0 - (p2 - 0)))] μ)
    exact v_iret hO dX2_walkBetween_21 (hR _ _ h)
set_option maxRecDepth 20000 in
set_option maxHeartbeats 4000000 in
theorem vp_X2_walkBetween_0 (w : Nat) (p1 : Int32) (p2 : Int32) (hw : w = 3 ∨ w = 10) (μ : Mem) (hpre : pre_X2_walkBetween w p1 p2 μ) : vc_X2_walkBetween_0 w p1 p2 μ (post_X2_walkBetween w p1 p2 μ)  := by
  simp only [vc_X2_walkBetween_0, and_imp, call_eq, forall_eq, forall_const, true_and, and_true]
  unfold post_X2_walkBetween absI; grind
theorem sp_X2_walkBetween : Sp yX2_walkBetween cX2_walkBetween 3 (some .int) 1 S_X2_walkBetween := by
  refine sp_of (by decide) (fun av μ P h => ?_) ?_
  · obtain ⟨w, p1, p2, rfl, -⟩ := h
    refine ⟨Nat.le_of_ble_eq_true rfl, fun v hv => ?_⟩
    simp only [List.mem_cons, List.not_mem_nil, or_false] at hv
    rcases hv with rfl | rfl | rfl <;> rfl
  · rintro X P hO _ μ ⟨w, p1, p2, rfl, hw, hpre, hpost⟩ hn
    exact wk_X2_walkBetween_0 hO hn w p1 p2 hw μ hpost (vp_X2_walkBetween_0 w p1 p2 hw μ hpre)
def S_X2_tellNothing : Tr := fun av μ P => ∃ (w : Nat), av = [.ref w] ∧ (w = 3 ∨ w = 10) ∧ pre_X2_tellNothing w μ ∧ ∀ m : Mem, post_X2_tellNothing w μ m → P none m
def vc_X2_tellNothing_0 (w : Nat)  (μ : Mem) (R : Mem → Prop)  : Prop :=
  (∀ μ1, μ1 = ui μ w 0 0 → (∀ μ3, μ3 = ui μ1 w 4 0 → (∀ μ5, μ5 = ui μ3 w 7 0 → (∀ μ7, μ7 = ui μ5 w 9 0 → (∀ μ9, μ9 = ui μ7 w 10 1 → (∀ μ11, μ11 = ui μ9 w 11 120 → R μ11))))))
set_option maxRecDepth 20000 in
set_option maxHeartbeats 4000000 in
theorem wk_X2_tellNothing_0 {X : XT} {P : Post} (hO : OkM X cX2_tellNothing RX2 0 none P) (hn : xn X = 1) (w : Nat) (hw : w = 3 ∨ w = 10)  (μ : Mem) {R : Mem → Prop} (hR : ∀ m, R m → P none m)    (h : vc_X2_tellNothing_0 w  μ R ) : V X 0 [some (.ref w)] [] μ := by
  have hX := hO.1
  unfold vc_X2_tellNothing_0 at h
  refine v_aload_n hX dX2_tellNothing_0 rfl (?_ : V X 1 [some (.ref w)] [.ref w] μ)
  refine v_iconst hX 0 dX2_tellNothing_1 rfl (?_ : V X 2 [some (.ref w)] [.int 0, .ref w] μ)
  refine w_puti hX fk_X2_33 fw_2_0 (sHo hw) rfl dX2_tellNothing_2 (fun μ1 e2 => (?_ : V X 5 [some (.ref w)] [] μ1))
  replace h := h μ1 e2
  refine v_aload_n hX dX2_tellNothing_5 rfl (?_ : V X 6 [some (.ref w)] [.ref w] μ1)
  refine v_iconst hX 0 dX2_tellNothing_6 rfl (?_ : V X 7 [some (.ref w)] [.int 0, .ref w] μ1)
  refine w_puti hX fk_X2_37 fw_2_4 (sHo hw) rfl dX2_tellNothing_7 (fun μ3 e4 => (?_ : V X 10 [some (.ref w)] [] μ3))
  replace h := h μ3 e4
  refine v_aload_n hX dX2_tellNothing_10 rfl (?_ : V X 11 [some (.ref w)] [.ref w] μ3)
  refine v_iconst hX 0 dX2_tellNothing_11 rfl (?_ : V X 12 [some (.ref w)] [.int 0, .ref w] μ3)
  refine w_puti hX fk_X2_40 fw_2_7 (sHo hw) rfl dX2_tellNothing_12 (fun μ5 e6 => (?_ : V X 15 [some (.ref w)] [] μ5))
  replace h := h μ5 e6
  refine v_aload_n hX dX2_tellNothing_15 rfl (?_ : V X 16 [some (.ref w)] [.ref w] μ5)
  refine v_iconst hX 0 dX2_tellNothing_16 rfl (?_ : V X 17 [some (.ref w)] [.int 0, .ref w] μ5)
  refine w_puti hX fk_X2_43 fw_2_9 (sHo hw) rfl dX2_tellNothing_17 (fun μ7 e8 => (?_ : V X 20 [some (.ref w)] [] μ7))
  replace h := h μ7 e8
  refine v_aload_n hX dX2_tellNothing_20 rfl (?_ : V X 21 [some (.ref w)] [.ref w] μ7)
  refine v_iconst hX 1 dX2_tellNothing_21 rfl (?_ : V X 22 [some (.ref w)] [.int 1, .ref w] μ7)
  refine w_puti hX fk_X2_46 fw_2_10 (sHo hw) rfl dX2_tellNothing_22 (fun μ9 e10 => (?_ : V X 25 [some (.ref w)] [] μ9))
  replace h := h μ9 e10
  refine v_aload_n hX dX2_tellNothing_25 rfl (?_ : V X 26 [some (.ref w)] [.ref w] μ9)
  refine v_bipush hX 120 dX2_tellNothing_26 rfl (?_ : V X 28 [some (.ref w)] [.int 120, .ref w] μ9)
  refine w_puti hX fk_X2_49 fw_2_11 (sHo hw) rfl dX2_tellNothing_28 (fun μ11 e12 => (?_ : V X 31 [some (.ref w)] [] μ11))
  replace h := h μ11 e12
  exact v_vret hO dX2_tellNothing_31 (hR _ h)
set_option maxRecDepth 20000 in
set_option maxHeartbeats 4000000 in
theorem vp_X2_tellNothing_0 (w : Nat) (hw : w = 3 ∨ w = 10) (μ : Mem) (hpre : pre_X2_tellNothing w μ) : vc_X2_tellNothing_0 w μ (post_X2_tellNothing w μ)  := by
  simp only [vc_X2_tellNothing_0, and_imp, call_eq, forall_eq, forall_const, true_and, and_true]
  rfl
theorem sp_X2_tellNothing : Sp yX2_tellNothing cX2_tellNothing 1 none 0 S_X2_tellNothing := by
  refine sp_of (by decide) (fun av μ P h => ?_) ?_
  · obtain ⟨w, rfl, -⟩ := h
    refine ⟨Nat.le_of_ble_eq_true rfl, fun v hv => ?_⟩
    simp only [List.mem_cons, List.not_mem_nil, or_false] at hv
    subst hv; rfl
  · rintro X P hO _ μ ⟨w, rfl, hw, hpre, hpost⟩ hn
    exact wk_X2_tellNothing_0 hO hn w hw μ hpost (vp_X2_tellNothing_0 w hw μ hpre)
def S_X8_lossOf : Tr := fun av μ P => ∃ (p1 : Int32) (p2 : Int32), av = [.int p1, .int p2] ∧ pre_X8_lossOf p1 p2 μ ∧ ∀ (x : Int32) (m : Mem), post_X8_lossOf p1 p2 μ x m → P (some (.int x)) m
def vc_X8_lossOf_0 (p1 : Int32) (p2 : Int32)  (μ : Mem) (R : Int32 → Mem → Prop)  : Prop :=
  ((p2 = 0 → R p1 μ) ∧ (¬ p2 = 0 → R (p1 / 2) μ))
set_option maxRecDepth 20000 in
set_option maxHeartbeats 4000000 in
theorem wk_X8_lossOf_0 {X : XT} {P : Post} (hO : OkM X cX8_lossOf RX8 0 (some .int) P) (hn : xn X = 2) (p1 : Int32) (p2 : Int32)   (μ : Mem) {R : Int32 → Mem → Prop} (hR : ∀ x m, R x m → P (some (.int x)) m)    (h : vc_X8_lossOf_0 p1 p2  μ R ) : V X 0 [some (.int p1), some (.int p2)] [] μ := by
  have hX := hO.1
  unfold vc_X8_lossOf_0 at h
  refine v_iload_n hX dX8_lossOf_0 rfl (?_ : V X 1 [some (.int p1), some (.int p2)] [.int p2] μ)
  refine v_if_eq hX 10 dX8_lossOf_1 rfl (fun c1 => ?_) (fun c1 => ?_)
  · replace h := h.1 c1
    refine v_iload_n hX dX8_lossOf_10 rfl (?_ : V X 11 [some (.int p1), some (.int p2)] [.int p1] μ)
    exact v_iret hO dX8_lossOf_11 (hR _ _ h)
  · replace h := h.2 c1
    refine v_iload_n hX dX8_lossOf_4 rfl (?_ : V X 5 [some (.int p1), some (.int p2)] [.int p1] μ)
    refine v_iconst hX 2 dX8_lossOf_5 rfl (?_ : V X 6 [some (.int p1), some (.int p2)] [.int 2, .int p1] μ)
    refine v_idiv hX dX8_lossOf_6 (by decide) (?_ : V X 7 [some (.int p1), some (.int p2)] [.int (p1 / 2)] μ)
    refine v_goto hX 11 dX8_lossOf_7 rfl (?_ : V X 11 [some (.int p1), some (.int p2)] [.int (p1 / 2)] μ)
    exact v_iret hO dX8_lossOf_11 (hR _ _ h)
set_option maxRecDepth 20000 in
set_option maxHeartbeats 4000000 in
theorem vp_X8_lossOf_0 (p1 : Int32) (p2 : Int32)  (μ : Mem) (hpre : pre_X8_lossOf p1 p2 μ) : vc_X8_lossOf_0 p1 p2 μ (post_X8_lossOf p1 p2 μ)  := by
  simp only [vc_X8_lossOf_0, and_imp, call_eq, forall_eq, forall_const, true_and, and_true]
  unfold post_X8_lossOf; grind
theorem sp_X8_lossOf : Sp yX8_lossOf cX8_lossOf 2 (some .int) 0 S_X8_lossOf := by
  refine sp_of (by decide) (fun av μ P h => ?_) ?_
  · obtain ⟨p1, p2, rfl, -⟩ := h
    refine ⟨Nat.le_of_ble_eq_true rfl, fun v hv => ?_⟩
    simp only [List.mem_cons, List.not_mem_nil, or_false] at hv
    rcases hv with rfl | rfl <;> rfl
  · rintro X P hO _ μ ⟨p1, p2, rfl, hpre, hpost⟩ hn
    exact wk_X8_lossOf_0 hO hn p1 p2  μ hpost (vp_X8_lossOf_0 p1 p2  μ hpre)
def S_X7_isSolved : Tr := fun av μ P => ∃ (p1 : Int32), av = [.ref 17, .int p1] ∧ pre_X7_isSolved p1 μ ∧ ∀ (x : Int32) (m : Mem), post_X7_isSolved p1 μ x m → P (some (.int x)) m
def vc_X7_isSolved_0 (p1 : Int32)  (μ : Mem) (R : Int32 → Mem → Prop)  : Prop :=
  ((¬ (((gi μ 17 3) >>> (p1 &&& 31)) &&& 1) = 1 → R 0 μ) ∧ ((((gi μ 17 3) >>> (p1 &&& 31)) &&& 1) = 1 → R 1 μ))
set_option maxRecDepth 20000 in
set_option maxHeartbeats 4000000 in
theorem wk_X7_isSolved_0 {X : XT} {P : Post} (hO : OkM X cX7_isSolved RX7 0 (some .boolean) P) (hn : xn X = 2) (p1 : Int32)   (μ : Mem) {R : Int32 → Mem → Prop} (hR : ∀ x m, R x m → P (some (.int x)) m)    (h : vc_X7_isSolved_0 p1  μ R ) : V X 0 [some (.ref 17), some (.int p1)] [] μ := by
  have hX := hO.1
  unfold vc_X7_isSolved_0 at h
  refine v_aload_n hX dX7_isSolved_0 rfl (?_ : V X 1 [some (.ref 17), some (.int p1)] [.ref 17] μ)
  refine v_geti hX fk_X7_28 sh_17 rfl dX7_isSolved_1 (?_ : V X 4 [some (.ref 17), some (.int p1)] [.int (gi μ 17 3)] μ)
  refine v_iload_n hX dX7_isSolved_4 rfl (?_ : V X 5 [some (.ref 17), some (.int p1)] [.int p1, .int (gi μ 17 3)] μ)
  refine v_ishr hX dX7_isSolved_5 (?_ : V X 6 [some (.ref 17), some (.int p1)] [.int ((gi μ 17 3) >>> (p1 &&& 31))] μ)
  refine v_iconst hX 1 dX7_isSolved_6 rfl (?_ : V X 7 [some (.ref 17), some (.int p1)] [.int 1, .int ((gi μ 17 3) >>> (p1 &&& 31))] μ)
  refine v_iand hX dX7_isSolved_7 (?_ : V X 8 [some (.ref 17), some (.int p1)] [.int (((gi μ 17 3) >>> (p1 &&& 31)) &&& 1)] μ)
  refine v_iconst hX 1 dX7_isSolved_8 rfl (?_ : V X 9 [some (.ref 17), some (.int p1)] [.int 1, .int (((gi μ 17 3) >>> (p1 &&& 31)) &&& 1)] μ)
  refine v_icmp_ne hX 16 dX7_isSolved_9 rfl (fun c1 => ?_) (fun c1 => ?_)
  · replace h := h.1 c1
    refine v_iconst hX 0 dX7_isSolved_16 rfl (?_ : V X 17 [some (.ref 17), some (.int p1)] [.int 0] μ)
    exact v_zret hO dX7_isSolved_17 (by decide) (hR _ _ h)
  · replace h := h.2 c1
    refine v_iconst hX 1 dX7_isSolved_12 rfl (?_ : V X 13 [some (.ref 17), some (.int p1)] [.int 1] μ)
    refine v_goto hX 17 dX7_isSolved_13 rfl (?_ : V X 17 [some (.ref 17), some (.int p1)] [.int 1] μ)
    exact v_zret hO dX7_isSolved_17 (by decide) (hR _ _ h)
set_option maxRecDepth 20000 in
set_option maxHeartbeats 4000000 in
theorem vp_X7_isSolved_0 (p1 : Int32)  (μ : Mem) (hpre : pre_X7_isSolved p1 μ) : vc_X7_isSolved_0 p1 μ (post_X7_isSolved p1 μ)  := by
  simp only [vc_X7_isSolved_0, and_imp, call_eq, forall_eq, forall_const, true_and, and_true]
  unfold post_X7_isSolved; grind
theorem sp_X7_isSolved : Sp yX7_isSolved cX7_isSolved 2 (some .boolean) 0 S_X7_isSolved := by
  refine sp_of (by decide) (fun av μ P h => ?_) ?_
  · obtain ⟨p1, rfl, -⟩ := h
    refine ⟨Nat.le_of_ble_eq_true rfl, fun v hv => ?_⟩
    simp only [List.mem_cons, List.not_mem_nil, or_false] at hv
    rcases hv with rfl | rfl <;> rfl
  · rintro X P hO _ μ ⟨p1, rfl, hpre, hpost⟩ hn
    exact wk_X7_isSolved_0 hO hn p1  μ hpost (vp_X7_isSolved_0 p1  μ hpre)
def S_X5_lose : Tr := fun av μ P => av = [.ref 20] ∧ pre_X5_lose  μ ∧ ∀ m : Mem, post_X5_lose  μ m → P none m
def vc_X5_lose_0   (μ : Mem) (R : Mem → Prop)  : Prop :=
  (∀ μ1, μ1 = ui μ 20 2 0 → R μ1)
set_option maxRecDepth 20000 in
set_option maxHeartbeats 4000000 in
theorem wk_X5_lose_0 {X : XT} {P : Post} (hO : OkM X cX5_lose RX5 0 none P) (hn : xn X = 1)    (μ : Mem) {R : Mem → Prop} (hR : ∀ m, R m → P none m)    (h : vc_X5_lose_0   μ R ) : V X 0 [some (.ref 20)] [] μ := by
  have hX := hO.1
  unfold vc_X5_lose_0 at h
  refine v_aload_n hX dX5_lose_0 rfl (?_ : V X 1 [some (.ref 20)] [.ref 20] μ)
  refine v_iconst hX 0 dX5_lose_1 rfl (?_ : V X 2 [some (.ref 20)] [.int 0, .ref 20] μ)
  refine w_puti hX fk_X5_22 fw_5_2 sh_20 rfl dX5_lose_2 (fun μ1 e2 => (?_ : V X 5 [some (.ref 20)] [] μ1))
  replace h := h μ1 e2
  exact v_vret hO dX5_lose_5 (hR _ h)
set_option maxRecDepth 20000 in
set_option maxHeartbeats 4000000 in
theorem vp_X5_lose_0   (μ : Mem) (hpre : pre_X5_lose  μ) : vc_X5_lose_0  μ (post_X5_lose  μ)  := by
  simp only [vc_X5_lose_0, and_imp, call_eq, forall_eq, forall_const, true_and, and_true]
  rfl
theorem sp_X5_lose : Sp yX5_lose cX5_lose 1 none 0 S_X5_lose := by
  refine sp_of (by decide) (fun av μ P h => ?_) ?_
  · obtain ⟨rfl, -⟩ := h
    refine ⟨Nat.le_of_ble_eq_true rfl, fun v hv => ?_⟩
    simp only [List.mem_cons, List.not_mem_nil, or_false] at hv
    subst hv; rfl
  · rintro X P hO _ μ ⟨rfl, hpre, hpost⟩ hn
    exact wk_X5_lose_0 hO hn   μ hpost (vp_X5_lose_0   μ hpre)
def S_X6_isDigit : Tr := fun av μ P => ∃ (p1 : Int32), av = [.int p1] ∧ pre_X6_isDigit p1 μ ∧ ∀ (x : Int32) (m : Mem), post_X6_isDigit p1 μ x m → P (some (.int x)) m
def vc_X6_isDigit_0 (p1 : Int32)  (μ : Mem) (R : Int32 → Mem → Prop)  : Prop :=
  ((p1 < 48 → R 0 μ) ∧ (¬ p1 < 48 → ((57 < p1 → R 0 μ) ∧ (¬ 57 < p1 → R 1 μ))))
set_option maxRecDepth 20000 in
set_option maxHeartbeats 4000000 in
theorem wk_X6_isDigit_0 {X : XT} {P : Post} (hO : OkM X cX6_isDigit RX6 0 (some .boolean) P) (hn : xn X = 1) (p1 : Int32)   (μ : Mem) {R : Int32 → Mem → Prop} (hR : ∀ x m, R x m → P (some (.int x)) m)    (h : vc_X6_isDigit_0 p1  μ R ) : V X 0 [some (.int p1)] [] μ := by
  have hX := hO.1
  unfold vc_X6_isDigit_0 at h
  refine v_iload_n hX dX6_isDigit_0 rfl (?_ : V X 1 [some (.int p1)] [.int p1] μ)
  refine v_bipush hX 48 dX6_isDigit_1 rfl (?_ : V X 3 [some (.int p1)] [.int 48, .int p1] μ)
  refine v_icmp_lt hX 16 dX6_isDigit_3 rfl (fun c1 => ?_) (fun c1 => ?_)
  · replace h := h.1 c1
    refine v_iconst hX 0 dX6_isDigit_16 rfl (?_ : V X 17 [some (.int p1)] [.int 0] μ)
    exact v_zret hO dX6_isDigit_17 (by decide) (hR _ _ h)
  · replace h := h.2 c1
    refine v_iload_n hX dX6_isDigit_6 rfl (?_ : V X 7 [some (.int p1)] [.int p1] μ)
    refine v_bipush hX 57 dX6_isDigit_7 rfl (?_ : V X 9 [some (.int p1)] [.int 57, .int p1] μ)
    refine v_icmp_gt hX 16 dX6_isDigit_9 rfl (fun c2 => ?_) (fun c2 => ?_)
    · replace h := h.1 c2
      refine v_iconst hX 0 dX6_isDigit_16 rfl (?_ : V X 17 [some (.int p1)] [.int 0] μ)
      exact v_zret hO dX6_isDigit_17 (by decide) (hR _ _ h)
    · replace h := h.2 c2
      refine v_iconst hX 1 dX6_isDigit_12 rfl (?_ : V X 13 [some (.int p1)] [.int 1] μ)
      refine v_goto hX 17 dX6_isDigit_13 rfl (?_ : V X 17 [some (.int p1)] [.int 1] μ)
      exact v_zret hO dX6_isDigit_17 (by decide) (hR _ _ h)
set_option maxRecDepth 20000 in
set_option maxHeartbeats 4000000 in
theorem vp_X6_isDigit_0 (p1 : Int32)  (μ : Mem) (hpre : pre_X6_isDigit p1 μ) : vc_X6_isDigit_0 p1 μ (post_X6_isDigit p1 μ)  := by
  simp only [vc_X6_isDigit_0, and_imp, call_eq, forall_eq, forall_const, true_and, and_true]
  unfold post_X6_isDigit; grind
theorem sp_X6_isDigit : Sp yX6_isDigit cX6_isDigit 1 (some .boolean) 0 S_X6_isDigit := by
  refine sp_of (by decide) (fun av μ P h => ?_) ?_
  · obtain ⟨p1, rfl, -⟩ := h
    refine ⟨Nat.le_of_ble_eq_true rfl, fun v hv => ?_⟩
    simp only [List.mem_cons, List.not_mem_nil, or_false] at hv
    subst hv; rfl
  · rintro X P hO _ μ ⟨p1, rfl, hpre, hpost⟩ hn
    exact wk_X6_isDigit_0 hO hn p1  μ hpost (vp_X6_isDigit_0 p1  μ hpre)
def S_X6_failsAt : Tr := fun av μ P => ∃ (p1 : Int32), av = [.ref 1, .int p1] ∧ pre_X6_failsAt p1 μ ∧ ∀ (x : Int32) (m : Mem), post_X6_failsAt p1 μ x m → P (some (.int x)) m
def vc_X6_failsAt_0 (p1 : Int32)  (μ : Mem) (R : Int32 → Mem → Prop)  : Prop :=
  (∀ μ1, μ1 = ui μ 1 2 p1 → R 0 μ1)
set_option maxRecDepth 20000 in
set_option maxHeartbeats 4000000 in
theorem wk_X6_failsAt_0 {X : XT} {P : Post} (hO : OkM X cX6_failsAt RX6 0 (some .boolean) P) (hn : xn X = 2) (p1 : Int32)   (μ : Mem) {R : Int32 → Mem → Prop} (hR : ∀ x m, R x m → P (some (.int x)) m)    (h : vc_X6_failsAt_0 p1  μ R ) : V X 0 [some (.ref 1), some (.int p1)] [] μ := by
  have hX := hO.1
  unfold vc_X6_failsAt_0 at h
  refine v_aload_n hX dX6_failsAt_0 rfl (?_ : V X 1 [some (.ref 1), some (.int p1)] [.ref 1] μ)
  refine v_iload_n hX dX6_failsAt_1 rfl (?_ : V X 2 [some (.ref 1), some (.int p1)] [.int p1, .ref 1] μ)
  refine w_puti hX fk_X6_19 fw_6_2 sh_1 rfl dX6_failsAt_2 (fun μ1 e2 => (?_ : V X 5 [some (.ref 1), some (.int p1)] [] μ1))
  replace h := h μ1 e2
  refine v_iconst hX 0 dX6_failsAt_5 rfl (?_ : V X 6 [some (.ref 1), some (.int p1)] [.int 0] μ1)
  exact v_zret hO dX6_failsAt_6 (by decide) (hR _ _ h)
set_option maxRecDepth 20000 in
set_option maxHeartbeats 4000000 in
theorem vp_X6_failsAt_0 (p1 : Int32)  (μ : Mem) (hpre : pre_X6_failsAt p1 μ) : vc_X6_failsAt_0 p1 μ (post_X6_failsAt p1 μ)  := by
  simp only [vc_X6_failsAt_0, and_imp, call_eq, forall_eq, forall_const, true_and, and_true]
  exact ⟨rfl, rfl⟩
theorem sp_X6_failsAt : Sp yX6_failsAt cX6_failsAt 2 (some .boolean) 0 S_X6_failsAt := by
  refine sp_of (by decide) (fun av μ P h => ?_) ?_
  · obtain ⟨p1, rfl, -⟩ := h
    refine ⟨Nat.le_of_ble_eq_true rfl, fun v hv => ?_⟩
    simp only [List.mem_cons, List.not_mem_nil, or_false] at hv
    rcases hv with rfl | rfl <;> rfl
  · rintro X P hO _ μ ⟨p1, rfl, hpre, hpost⟩ hn
    exact wk_X6_failsAt_0 hO hn p1  μ hpost (vp_X6_failsAt_0 p1  μ hpre)
def S_X1_indexOf : Tr := fun av μ P => ∃ (p1 : Int32) (p2 : Int32), av = [.int p1, .int p2] ∧ pre_X1_indexOf p1 p2 μ ∧ ∀ (x : Int32) (m : Mem), post_X1_indexOf p1 p2 μ x m → P (some (.int x)) m
def vc_X1_indexOf_0 (p1 : Int32) (p2 : Int32)  (μ : Mem) (R : Int32 → Mem → Prop)  : Prop :=
  R ((p1 * 6) + p2) μ
set_option maxRecDepth 20000 in
set_option maxHeartbeats 4000000 in
theorem wk_X1_indexOf_0 {X : XT} {P : Post} (hO : OkM X cX1_indexOf RX1 0 (some .int) P) (hn : xn X = 2) (p1 : Int32) (p2 : Int32)   (μ : Mem) {R : Int32 → Mem → Prop} (hR : ∀ x m, R x m → P (some (.int x)) m)    (h : vc_X1_indexOf_0 p1 p2  μ R ) : V X 0 [some (.int p1), some (.int p2)] [] μ := by
  have hX := hO.1
  unfold vc_X1_indexOf_0 at h
  refine v_iload_n hX dX1_indexOf_0 rfl (?_ : V X 1 [some (.int p1), some (.int p2)] [.int p1] μ)
  refine v_bipush hX 6 dX1_indexOf_1 rfl (?_ : V X 3 [some (.int p1), some (.int p2)] [.int 6, .int p1] μ)
  refine v_imul hX dX1_indexOf_3 (?_ : V X 4 [some (.int p1), some (.int p2)] [.int (p1 * 6)] μ)
  refine v_iload_n hX dX1_indexOf_4 rfl (?_ : V X 5 [some (.int p1), some (.int p2)] [.int p2, .int (p1 * 6)] μ)
  refine v_iadd hX dX1_indexOf_5 (?_ : V X 6 [some (.int p1), some (.int p2)] [.int ((p1 * 6) + p2)] μ)
  exact v_iret hO dX1_indexOf_6 (hR _ _ h)
set_option maxRecDepth 20000 in
set_option maxHeartbeats 4000000 in
theorem vp_X1_indexOf_0 (p1 : Int32) (p2 : Int32)  (μ : Mem) (hpre : pre_X1_indexOf p1 p2 μ) : vc_X1_indexOf_0 p1 p2 μ (post_X1_indexOf p1 p2 μ)  := by
  simp only [vc_X1_indexOf_0, and_imp, call_eq, forall_eq, forall_const, true_and, and_true]
  exact ⟨rfl, rfl⟩
theorem sp_X1_indexOf : Sp yX1_indexOf cX1_indexOf 2 (some .int) 0 S_X1_indexOf := by
  refine sp_of (by decide) (fun av μ P h => ?_) ?_
  · obtain ⟨p1, p2, rfl, -⟩ := h
    refine ⟨Nat.le_of_ble_eq_true rfl, fun v hv => ?_⟩
    simp only [List.mem_cons, List.not_mem_nil, or_false] at hv
    rcases hv with rfl | rfl <;> rfl
  · rintro X P hO _ μ ⟨p1, p2, rfl, hpre, hpost⟩ hn
    exact wk_X1_indexOf_0 hO hn p1 p2  μ hpost (vp_X1_indexOf_0 p1 p2  μ hpre)
def S_J6_bitCount_0f7a4 : Tr := fun av μ P => ∃ (p1 : Int32), av = [.int p1] ∧ pre_J6_bitCount_0f7a4 p1 μ ∧ ∀ (x : Int32) (m : Mem), post_J6_bitCount_0f7a4 p1 μ x m → P (some (.int x)) m
def vc_J6_bitCount_0f7a4_0 (p1 : Int32)  (μ : Mem) (R : Int32 → Mem → Prop)  : Prop :=
  (∀ y1 : Int32, y1 = p1 - (((Int32.toUInt32 p1 >>> (Int32.toUInt32 1 &&& Int32.toUInt32 31)).toInt32) &&& 1431655765) → (∀ y3 : Int32, y3 = (y1 &&& 858993459) + (((Int32.toUInt32 y1 >>> (Int32.toUInt32 2 &&& Int32.toUInt32 31)).toInt32) &&& 858993459) → (∀ y5 : Int32, y5 = (y3 + ((Int32.toUInt32 y3 >>> (Int32.toUInt32 4 &&& Int32.toUInt32 31)).toInt32)) &&& 252645135 → (∀ y7 : Int32, y7 = y5 + ((Int32.toUInt32 y5 >>> (Int32.toUInt32 8 &&& Int32.toUInt32 31)).toInt32) → (∀ y9 : Int32, y9 = y7 + ((Int32.toUInt32 y7 >>> (Int32.toUInt32 16 &&& Int32.toUInt32 31)).toInt32) → R (y9 &&& 63) μ)))))
set_option maxRecDepth 20000 in
set_option maxHeartbeats 4000000 in
theorem wk_J6_bitCount_0f7a4_0 {X : XT} {P : Post} (hO : OkM X cJ6_bitCount_0f7a4 RJ6 0 (some .int) P) (hn : xn X = 1) (p1 : Int32)   (μ : Mem) {R : Int32 → Mem → Prop} (hR : ∀ x m, R x m → P (some (.int x)) m)    (h : vc_J6_bitCount_0f7a4_0 p1  μ R ) : V X 0 [some (.int p1)] [] μ := by
  have hX := hO.1
  unfold vc_J6_bitCount_0f7a4_0 at h
  refine v_iload_n hX dJ6_bitCount_0f7a4_0 rfl (?_ : V X 1 [some (.int p1)] [.int p1] μ)
  refine v_iload_n hX dJ6_bitCount_0f7a4_1 rfl (?_ : V X 2 [some (.int p1)] [.int p1, .int p1] μ)
  refine v_iconst hX 1 dJ6_bitCount_0f7a4_2 rfl (?_ : V X 3 [some (.int p1)] [.int 1, .int p1, .int p1] μ)
  refine v_iushr hX dJ6_bitCount_0f7a4_3 (?_ : V X 4 [some (.int p1)] [.int ((Int32.toUInt32 p1 >>> (Int32.toUInt32 1 &&& Int32.toUInt32 31)).toInt32), .int p1] μ)
  refine v_ldcw hX 1431655765 dJ6_bitCount_0f7a4_4 kk_J6_265 (?_ : V X 7 [some (.int p1)] [.int 1431655765, .int ((Int32.toUInt32 p1 >>> (Int32.toUInt32 1 &&& Int32.toUInt32 31)).toInt32), .int p1] μ)
  refine v_iand hX dJ6_bitCount_0f7a4_7 (?_ : V X 8 [some (.int p1)] [.int (((Int32.toUInt32 p1 >>> (Int32.toUInt32 1 &&& Int32.toUInt32 31)).toInt32) &&& 1431655765), .int p1] μ)
  refine v_isub hX dJ6_bitCount_0f7a4_8 (?_ : V X 9 [some (.int p1)] [.int (p1 - (((Int32.toUInt32 p1 >>> (Int32.toUInt32 1 &&& Int32.toUInt32 31)).toInt32) &&& 1431655765))] μ)
  refine w_istore_n hX dJ6_bitCount_0f7a4_9 (by rw [hn]; decide) (fun y1 e2 => (?_ : V X 10 [some (.int y1)] [] μ))
  replace h := h y1 e2
  refine v_iload_n hX dJ6_bitCount_0f7a4_10 rfl (?_ : V X 11 [some (.int y1)] [.int y1] μ)
  refine v_ldcw hX 858993459 dJ6_bitCount_0f7a4_11 kk_J6_266 (?_ : V X 14 [some (.int y1)] [.int 858993459, .int y1] μ)
  refine v_iand hX dJ6_bitCount_0f7a4_14 (?_ : V X 15 [some (.int y1)] [.int (y1 &&& 858993459)] μ)
  refine v_iload_n hX dJ6_bitCount_0f7a4_15 rfl (?_ : V X 16 [some (.int y1)] [.int y1, .int (y1 &&& 858993459)] μ)
  refine v_iconst hX 2 dJ6_bitCount_0f7a4_16 rfl (?_ : V X 17 [some (.int y1)] [.int 2, .int y1, .int (y1 &&& 858993459)] μ)
  refine v_iushr hX dJ6_bitCount_0f7a4_17 (?_ : V X 18 [some (.int y1)] [.int ((Int32.toUInt32 y1 >>> (Int32.toUInt32 2 &&& Int32.toUInt32 31)).toInt32), .int (y1 &&& 858993459)] μ)
  refine v_ldcw hX 858993459 dJ6_bitCount_0f7a4_18 kk_J6_266 (?_ : V X 21 [some (.int y1)] [.int 858993459, .int ((Int32.toUInt32 y1 >>> (Int32.toUInt32 2 &&& Int32.toUInt32 31)).toInt32), .int (y1 &&& 858993459)] μ)
  refine v_iand hX dJ6_bitCount_0f7a4_21 (?_ : V X 22 [some (.int y1)] [.int (((Int32.toUInt32 y1 >>> (Int32.toUInt32 2 &&& Int32.toUInt32 31)).toInt32) &&& 858993459), .int (y1 &&& 858993459)] μ)
  refine v_iadd hX dJ6_bitCount_0f7a4_22 (?_ : V X 23 [some (.int y1)] [.int ((y1 &&& 858993459) + (((Int32.toUInt32 y1 >>> (Int32.toUInt32 2 &&& Int32.toUInt32 31)).toInt32) &&& 858993459))] μ)
  refine w_istore_n hX dJ6_bitCount_0f7a4_23 (by rw [hn]; decide) (fun y3 e4 => (?_ : V X 24 [some (.int y3)] [] μ))
  replace h := h y3 e4
  refine v_iload_n hX dJ6_bitCount_0f7a4_24 rfl (?_ : V X 25 [some (.int y3)] [.int y3] μ)
  refine v_iload_n hX dJ6_bitCount_0f7a4_25 rfl (?_ : V X 26 [some (.int y3)] [.int y3, .int y3] μ)
  refine v_iconst hX 4 dJ6_bitCount_0f7a4_26 rfl (?_ : V X 27 [some (.int y3)] [.int 4, .int y3, .int y3] μ)
  refine v_iushr hX dJ6_bitCount_0f7a4_27 (?_ : V X 28 [some (.int y3)] [.int ((Int32.toUInt32 y3 >>> (Int32.toUInt32 4 &&& Int32.toUInt32 31)).toInt32), .int y3] μ)
  refine v_iadd hX dJ6_bitCount_0f7a4_28 (?_ : V X 29 [some (.int y3)] [.int (y3 + ((Int32.toUInt32 y3 >>> (Int32.toUInt32 4 &&& Int32.toUInt32 31)).toInt32))] μ)
  refine v_ldcw hX 252645135 dJ6_bitCount_0f7a4_29 kk_J6_267 (?_ : V X 32 [some (.int y3)] [.int 252645135, .int (y3 + ((Int32.toUInt32 y3 >>> (Int32.toUInt32 4 &&& Int32.toUInt32 31)).toInt32))] μ)
  refine v_iand hX dJ6_bitCount_0f7a4_32 (?_ : V X 33 [some (.int y3)] [.int ((y3 + ((Int32.toUInt32 y3 >>> (Int32.toUInt32 4 &&& Int32.toUInt32 31)).toInt32)) &&& 252645135)] μ)
  refine w_istore_n hX dJ6_bitCount_0f7a4_33 (by rw [hn]; decide) (fun y5 e6 => (?_ : V X 34 [some (.int y5)] [] μ))
  replace h := h y5 e6
  refine v_iload_n hX dJ6_bitCount_0f7a4_34 rfl (?_ : V X 35 [some (.int y5)] [.int y5] μ)
  refine v_iload_n hX dJ6_bitCount_0f7a4_35 rfl (?_ : V X 36 [some (.int y5)] [.int y5, .int y5] μ)
  refine v_bipush hX 8 dJ6_bitCount_0f7a4_36 rfl (?_ : V X 38 [some (.int y5)] [.int 8, .int y5, .int y5] μ)
  refine v_iushr hX dJ6_bitCount_0f7a4_38 (?_ : V X 39 [some (.int y5)] [.int ((Int32.toUInt32 y5 >>> (Int32.toUInt32 8 &&& Int32.toUInt32 31)).toInt32), .int y5] μ)
  refine v_iadd hX dJ6_bitCount_0f7a4_39 (?_ : V X 40 [some (.int y5)] [.int (y5 + ((Int32.toUInt32 y5 >>> (Int32.toUInt32 8 &&& Int32.toUInt32 31)).toInt32))] μ)
  refine w_istore_n hX dJ6_bitCount_0f7a4_40 (by rw [hn]; decide) (fun y7 e8 => (?_ : V X 41 [some (.int y7)] [] μ))
  replace h := h y7 e8
  refine v_iload_n hX dJ6_bitCount_0f7a4_41 rfl (?_ : V X 42 [some (.int y7)] [.int y7] μ)
  refine v_iload_n hX dJ6_bitCount_0f7a4_42 rfl (?_ : V X 43 [some (.int y7)] [.int y7, .int y7] μ)
  refine v_bipush hX 16 dJ6_bitCount_0f7a4_43 rfl (?_ : V X 45 [some (.int y7)] [.int 16, .int y7, .int y7] μ)
  refine v_iushr hX dJ6_bitCount_0f7a4_45 (?_ : V X 46 [some (.int y7)] [.int ((Int32.toUInt32 y7 >>> (Int32.toUInt32 16 &&& Int32.toUInt32 31)).toInt32), .int y7] μ)
  refine v_iadd hX dJ6_bitCount_0f7a4_46 (?_ : V X 47 [some (.int y7)] [.int (y7 + ((Int32.toUInt32 y7 >>> (Int32.toUInt32 16 &&& Int32.toUInt32 31)).toInt32))] μ)
  refine w_istore_n hX dJ6_bitCount_0f7a4_47 (by rw [hn]; decide) (fun y9 e10 => (?_ : V X 48 [some (.int y9)] [] μ))
  replace h := h y9 e10
  refine v_iload_n hX dJ6_bitCount_0f7a4_48 rfl (?_ : V X 49 [some (.int y9)] [.int y9] μ)
  refine v_bipush hX 63 dJ6_bitCount_0f7a4_49 rfl (?_ : V X 51 [some (.int y9)] [.int 63, .int y9] μ)
  refine v_iand hX dJ6_bitCount_0f7a4_51 (?_ : V X 52 [some (.int y9)] [.int (y9 &&& 63)] μ)
  exact v_iret hO dJ6_bitCount_0f7a4_52 (hR _ _ h)
set_option maxRecDepth 20000 in
set_option maxHeartbeats 4000000 in
theorem vp_J6_bitCount_0f7a4_0 (p1 : Int32)  (μ : Mem) (hpre : pre_J6_bitCount_0f7a4 p1 μ) : vc_J6_bitCount_0f7a4_0 p1 μ (post_J6_bitCount_0f7a4 p1 μ)  := by
  simp only [vc_J6_bitCount_0f7a4_0, and_imp, call_eq, forall_eq, forall_const, true_and, and_true]
  exact ⟨rfl, rfl⟩
theorem sp_J6_bitCount_0f7a4 : Sp yJ6_bitCount_0f7a4 cJ6_bitCount_0f7a4 1 (some .int) 0 S_J6_bitCount_0f7a4 := by
  refine sp_of (by decide) (fun av μ P h => ?_) ?_
  · obtain ⟨p1, rfl, -⟩ := h
    refine ⟨Nat.le_of_ble_eq_true rfl, fun v hv => ?_⟩
    simp only [List.mem_cons, List.not_mem_nil, or_false] at hv
    subst hv; rfl
  · rintro X P hO _ μ ⟨p1, rfl, hpre, hpost⟩ hn
    exact wk_J6_bitCount_0f7a4_0 hO hn p1  μ hpost (vp_J6_bitCount_0f7a4_0 p1  μ hpre)
def S_J7_fill_53178 : Tr := fun av μ P => ∃ (a : Nat) (na : Nat) (p1 : Int32), av = [.ref a, .int p1] ∧ (isRow a na) ∧ pre_J7_fill_53178 a na p1 μ ∧ ∀ m : Mem, post_J7_fill_53178 a na p1 μ m → P none m
def vc_J7_fill_53178_0 (a : Nat) (na : Nat) (p1 : Int32)  (μ : Mem) (R : Mem → Prop) (J5 : Int32 → Int32 → Mem → Prop) : Prop :=
  J5 0 (Int32.ofNat na) μ
set_option maxRecDepth 20000 in
set_option maxHeartbeats 4000000 in
theorem wk_J7_fill_53178_0 {X : XT} {P : Post} (hO : OkM X cJ7_fill_53178 RJ7 0 none P) (hn : xn X = 4) (a : Nat) (na : Nat) (p1 : Int32) (ha : isRow a na)  (μ : Mem) {R : Mem → Prop} (hR : ∀ m, R m → P none m) {J5 : Int32 → Int32 → Mem → Prop} (hJ5 : ∀ (l2 : Int32) (l3 : Int32) (m : Mem), J5 l2 l3 m → V X 5 [some (.ref a), some (.int p1), some (.int l2), some (.int l3)] [] m)  (h : vc_J7_fill_53178_0 a na p1  μ R J5) : V X 0 [some (.ref a), some (.int p1), none, none] [] μ := by
  have hX := hO.1
  unfold vc_J7_fill_53178_0 at h
  refine v_iconst hX 0 dJ7_fill_53178_0 rfl (?_ : V X 1 [some (.ref a), some (.int p1), none, none] [.int 0] μ)
  refine v_istore_n hX dJ7_fill_53178_1 (by rw [hn]; decide) (?_ : V X 2 [some (.ref a), some (.int p1), some (.int 0), none] [] μ)
  refine v_aload_n hX dJ7_fill_53178_2 rfl (?_ : V X 3 [some (.ref a), some (.int p1), some (.int 0), none] [.ref a] μ)
  refine v_alen hX (Int32.ofNat na) ha.1 ha.2 rfl dJ7_fill_53178_3 (?_ : V X 4 [some (.ref a), some (.int p1), some (.int 0), none] [.int (Int32.ofNat na)] μ)
  refine v_istore_n hX dJ7_fill_53178_4 (by rw [hn]; decide) (?_ : V X 5 [some (.ref a), some (.int p1), some (.int 0), some (.int (Int32.ofNat na))] [] μ)
  exact v_mask [true, true, true, true] (hJ5 _ _ _ h)
def vc_J7_fill_53178_5 (a : Nat) (na : Nat) (p1 : Int32) (l2 : Int32) (l3 : Int32) (μ : Mem) (R : Mem → Prop) (J5 : Int32 → Int32 → Mem → Prop) : Prop :=
  ((l3 ≤ l2 → R μ) ∧ (¬ l3 ≤ l2 → vp_in l2 na ∧ (∀ μ3, μ3 = ui μ a (Int32.toNatClampNeg l2) p1 → J5 (l2 + 1) l3 μ3)))
set_option maxRecDepth 20000 in
set_option maxHeartbeats 4000000 in
theorem wk_J7_fill_53178_5 {X : XT} {P : Post} (hO : OkM X cJ7_fill_53178 RJ7 0 none P) (hn : xn X = 4) (a : Nat) (na : Nat) (p1 : Int32) (ha : isRow a na) (l2 : Int32) (l3 : Int32) (μ : Mem) {R : Mem → Prop} (hR : ∀ m, R m → P none m) {J5 : Int32 → Int32 → Mem → Prop} (hJ5 : ∀ (l2 : Int32) (l3 : Int32) (m : Mem), J5 l2 l3 m → V X 5 [some (.ref a), some (.int p1), some (.int l2), some (.int l3)] [] m)  (h : vc_J7_fill_53178_5 a na p1 l2 l3 μ R J5) : V X 5 [some (.ref a), some (.int p1), some (.int l2), some (.int l3)] [] μ := by
  have hX := hO.1
  unfold vc_J7_fill_53178_5 at h
  refine v_iload_n hX dJ7_fill_53178_5 rfl (?_ : V X 6 [some (.ref a), some (.int p1), some (.int l2), some (.int l3)] [.int l2] μ)
  refine v_iload_n hX dJ7_fill_53178_6 rfl (?_ : V X 7 [some (.ref a), some (.int p1), some (.int l2), some (.int l3)] [.int l3, .int l2] μ)
  refine v_icmp_ge hX 20 dJ7_fill_53178_7 rfl (fun c1 => ?_) (fun c1 => ?_)
  · replace h := h.1 c1
    exact v_vret hO dJ7_fill_53178_20 (hR _ h)
  · replace h := h.2 c1
    refine v_aload_n hX dJ7_fill_53178_10 rfl (?_ : V X 11 [some (.ref a), some (.int p1), some (.int l2), some (.int l3)] [.ref a] μ)
    refine v_iload_n hX dJ7_fill_53178_11 rfl (?_ : V X 12 [some (.ref a), some (.int p1), some (.int l2), some (.int l3)] [.int l2, .ref a] μ)
    refine v_iload_n hX dJ7_fill_53178_12 rfl (?_ : V X 13 [some (.ref a), some (.int p1), some (.int l2), some (.int l3)] [.int p1, .int l2, .ref a] μ)
    have hb2 := h.1
    replace h := h.2
    refine w_iast hX (Int32.toNatClampNeg l2) ha.1 hb2 rfl dJ7_fill_53178_13 (fun μ3 e4 => (?_ : V X 14 [some (.ref a), some (.int p1), some (.int l2), some (.int l3)] [] μ3))
    replace h := h μ3 e4
    refine v_iinc hX 1 dJ7_fill_53178_14 (by rw [hn]; decide) rfl rfl (?_ : V X 17 [some (.ref a), some (.int p1), some (.int (l2 + 1)), some (.int l3)] [] μ3)
    refine v_goto hX 5 dJ7_fill_53178_17 rfl (?_ : V X 5 [some (.ref a), some (.int p1), some (.int (l2 + 1)), some (.int l3)] [] μ3)
    exact v_mask [true, true, true, true] (hJ5 _ _ _ h)
set_option maxRecDepth 20000 in
set_option maxHeartbeats 4000000 in
theorem vp_J7_fill_53178_0 (a : Nat) (na : Nat) (p1 : Int32) (ha : isRow a na) (μ : Mem) (hpre : pre_J7_fill_53178 a na p1 μ) : vc_J7_fill_53178_0 a na p1 μ (post_J7_fill_53178 a na p1 μ) (fun l2 l3 m => ∃ k : Nat, inv_J7_fill_53178_5 a na p1 μ k l2 l3 m) := by
  simp only [vc_J7_fill_53178_0, and_imp, call_eq, forall_eq, forall_const, true_and, and_true]
  exact ⟨na, 0, Nat.zero_le _, rfl, rfl, rfl, fr_refl _ _, fun j hj => absurd hj (Nat.not_lt_zero j)⟩
set_option maxRecDepth 20000 in
set_option maxHeartbeats 4000000 in
theorem vp_J7_fill_53178_5 (a : Nat) (na : Nat) (p1 : Int32) (ha : isRow a na) (μ : Mem) (hpre : pre_J7_fill_53178 a na p1 μ) (n : Nat) (l2 : Int32) (l3 : Int32) (μ0 : Mem) (hi : inv_J7_fill_53178_5 a na p1 μ n l2 l3 μ0) : vc_J7_fill_53178_5 a na p1 l2 l3 μ0 (post_J7_fill_53178 a na p1 μ) (fun l2 l3 m => ∃ k : Nat, k < n ∧ inv_J7_fill_53178_5 a na p1 μ k l2 l3 m) := by
  simp only [vc_J7_fill_53178_5, and_imp, call_eq, forall_eq, forall_const, true_and, and_true]
  unfold post_J7_fill_53178
  unfold pre_J7_fill_53178 at hpre
  obtain ⟨i, hi1, rfl, rfl, rfl, hf, hv⟩ := hi
  refine ⟨fun c => ?_, fun c => ?_⟩
  · have : na ≤ i := (nI_leI (by omega) (by omega)).mp c
    exact ⟨hf, fun j hj => hv j (by omega)⟩
  · have hlt : i < na := by
      rcases Nat.lt_or_ge i na with h | h
      · exact h
      · exact absurd ((nI_leI (by omega) (by omega)).mpr h) c
    refine ⟨vp_in_nI hlt (by omega), na - (i + 1), by omega, i + 1, by omega, rfl, nI_1 i, rfl, fr_trans hf (fr_ui (by simp)), fun j hj => ?_⟩
    rw [gi_ui, nI_clamp (by omega)]
    by_cases h : j = i
    · simp [h]
    · rw [if_neg (by simp [h]), hv j (by omega)]
theorem sp_J7_fill_53178 : Sp yJ7_fill_53178 cJ7_fill_53178 4 none 0 S_J7_fill_53178 := by
  refine sp_of (by decide) (fun av μ P h => ?_) ?_
  · obtain ⟨a, na, p1, rfl, -⟩ := h
    refine ⟨Nat.le_of_ble_eq_true rfl, fun v hv => ?_⟩
    simp only [List.mem_cons, List.not_mem_nil, or_false] at hv
    rcases hv with rfl | rfl <;> rfl
  · rintro X P hO _ μ ⟨a, na, p1, rfl, ha, hpre, hpost⟩ hn
    have hJ : ∀ n : Nat, (∀ (l2 : Int32) (l3 : Int32) (m : Mem), inv_J7_fill_53178_5 a na p1 μ n l2 l3 m → V X 5 [some (.ref a), some (.int p1), some (.int l2), some (.int l3)] [] m) := by
      intro n
      induction n using Nat.strongRecOn with
      | _ n ih =>
        exact fun l2 l3 m hi => wk_J7_fill_53178_5 (J5 := (fun l2 l3 m => ∃ k : Nat, k < n ∧ inv_J7_fill_53178_5 a na p1 μ k l2 l3 m)) hO hn a na p1 ha l2 l3 m hpost (fun l2 l3 m hk => by obtain ⟨k, hk, hi⟩ := hk; exact (ih k hk) l2 l3 m hi) (vp_J7_fill_53178_5 a na p1 ha μ hpre n l2 l3 m hi)
    exact wk_J7_fill_53178_0 (J5 := (fun l2 l3 m => ∃ k : Nat, inv_J7_fill_53178_5 a na p1 μ k l2 l3 m)) hO hn a na p1 ha μ hpost (fun l2 l3 m hk => by obtain ⟨k, hi⟩ := hk; exact (hJ k) l2 l3 m hi) (vp_J7_fill_53178_0 a na p1 ha μ hpre)

theorem fr_refl (cs : List Nat) (μ : Mem) : fr cs μ μ := ⟨fun _ _ _ => rfl, rfl⟩
theorem fr_trans {cs : List Nat} {a b c : Mem} (h1 : fr cs a b) (h2 : fr cs b c) : fr cs a c := ⟨fun q hq k => (h2.1 q hq k).trans (h1.1 q hq k), h2.2.trans h1.2⟩
theorem fr_mono {cs ds : List Nat} {a b : Mem} (h : fr cs a b) (hs : ∀ c ∈ cs, c ∈ ds) : fr ds a b := ⟨fun q hq k => h.1 q (fun z => hq (hs q z)) k, h.2⟩
theorem fr_ui {cs : List Nat} {μ : Mem} {c k : Nat} {v : Int32} (h : c ∈ cs) : fr cs μ (ui μ c k v) := ⟨fun q hq j => by
  have : q ≠ c := fun e => hq (e ▸ h)
  simp [gi, ui, this], rfl⟩
theorem fr_ua {cs : List Nat} {μ : Mem} {c : Nat} {f : Nat → Int32} (h : c ∈ cs) : fr cs μ (ua μ c f) := ⟨fun q hq j => by
  have : q ≠ c := fun e => hq (e ▸ h)
  simp [gi, ua, this], rfl⟩
theorem gi_ui (μ : Mem) (c k : Nat) (v : Int32) (a b : Nat) : gi (ui μ c k v) a b = if a = c ∧ b = k then v else gi μ a b := rfl
theorem gi_ua (μ : Mem) (c : Nat) (f : Nat → Int32) (a b : Nat) : gi (ua μ c f) a b = if a = c then f b else gi μ a b := rfl
theorem gi_ul (μ : Mem) (c k : Nat) (v : Int64) (a b : Nat) : gi (ul μ c k v) a b = gi μ a b := rfl
theorem gi_up (μ : Mem) (k v a b : Nat) : gi (up μ k v) a b = gi μ a b := rfl
theorem gl_ui (μ : Mem) (c k : Nat) (v : Int32) (a b : Nat) : gl (ui μ c k v) a b = gl μ a b := rfl
theorem gl_ua (μ : Mem) (c : Nat) (f : Nat → Int32) (a b : Nat) : gl (ua μ c f) a b = gl μ a b := rfl
theorem gl_up (μ : Mem) (k v a b : Nat) : gl (up μ k v) a b = gl μ a b := rfl
theorem gl_ul (μ : Mem) (c k : Nat) (v : Int64) (a b : Nat) : gl (ul μ c k v) a b = if a = c ∧ b = k then v else gl μ a b := rfl
theorem gp_ui (μ : Mem) (c k : Nat) (v : Int32) (a : Nat) : gp (ui μ c k v) a = gp μ a := rfl
theorem gp_ua (μ : Mem) (c : Nat) (f : Nat → Int32) (a : Nat) : gp (ua μ c f) a = gp μ a := rfl
theorem gp_ul (μ : Mem) (c k : Nat) (v : Int64) (a : Nat) : gp (ul μ c k v) a = gp μ a := rfl
theorem gp_up (μ : Mem) (k v a : Nat) : gp (up μ k v) a = if a = k then v else gp μ a := rfl
set_option maxRecDepth 20000 in
set_option maxHeartbeats 4000000 in
theorem vp_X2_hasRoom_0 (w : Nat) (p1 : Int32) (hw : w = 3 ∨ w = 10) (μ : Mem) (hpre : pre_X2_hasRoom w p1 μ) : vc_X2_hasRoom_0 w p1 μ (post_X2_hasRoom w p1 μ)  := by
  simp only [vc_X2_hasRoom_0, and_imp, forall_eq, forall_const, true_and, and_true]
  unfold post_X2_hasRoom; grind
theorem sp_X2_hasRoom : Sp yX2_hasRoom cX2_hasRoom 2 (some .boolean) 0 S_X2_hasRoom := by
  refine sp_of (by decide) (fun av μ P h => ?_) ?_
  · obtain ⟨w, p1, rfl, -⟩ := h
    refine ⟨Nat.le_of_ble_eq_true rfl, fun v hv => ?_⟩
    simp only [List.mem_cons, List.not_mem_nil, or_false] at hv
    rcases hv with rfl | rfl <;> rfl
  · rintro X P hO _ μ ⟨w, p1, rfl, hw, hpre, hpost⟩ hn
    exact wk_X2_hasRoom_0 hO hn w p1 hw μ hpost (vp_X2_hasRoom_0 w p1 hw μ hpre)
set_option maxRecDepth 20000 in
set_option maxHeartbeats 4000000 in
theorem vp_X2_hasDoing_0 (w : Nat) (p1 : Int32) (hw : w = 3 ∨ w = 10) (μ : Mem) (hpre : pre_X2_hasDoing w p1 μ) : vc_X2_hasDoing_0 w p1 μ (post_X2_hasDoing w p1 μ)  := by
  simp only [vc_X2_hasDoing_0, and_imp, forall_eq, forall_const, true_and, and_true]
  unfold post_X2_hasDoing; grind
theorem sp_X2_hasDoing : Sp yX2_hasDoing cX2_hasDoing 2 (some .boolean) 0 S_X2_hasDoing := by
  refine sp_of (by decide) (fun av μ P h => ?_) ?_
  · obtain ⟨w, p1, rfl, -⟩ := h
    refine ⟨Nat.le_of_ble_eq_true rfl, fun v hv => ?_⟩
    simp only [List.mem_cons, List.not_mem_nil, or_false] at hv
    rcases hv with rfl | rfl <;> rfl
  · rintro X P hO _ μ ⟨w, p1, rfl, hw, hpre, hpost⟩ hn
    exact wk_X2_hasDoing_0 hO hn w p1 hw μ hpost (vp_X2_hasDoing_0 w p1 hw μ hpre)
set_option maxRecDepth 20000 in
set_option maxHeartbeats 4000000 in
theorem vp_X2_fullLoss_0 (w : Nat) (p1 : Int32) (p2 : Int32) (hw : w = 3 ∨ w = 10) (μ : Mem) (hpre : pre_X2_fullLoss w p1 p2 μ) : vc_X2_fullLoss_0 w p1 p2 μ (post_X2_fullLoss w p1 p2 μ)  := by
  simp only [vc_X2_fullLoss_0, and_imp, forall_eq, forall_const, true_and, and_true]
  unfold post_X2_fullLoss; unfold pre_X2_fullLoss at hpre; grind
theorem sp_X2_fullLoss : Sp yX2_fullLoss cX2_fullLoss 3 (some .int) 0 S_X2_fullLoss := by
  refine sp_of (by decide) (fun av μ P h => ?_) ?_
  · obtain ⟨w, p1, p2, rfl, -⟩ := h
    refine ⟨Nat.le_of_ble_eq_true rfl, fun v hv => ?_⟩
    simp only [List.mem_cons, List.not_mem_nil, or_false] at hv
    rcases hv with rfl | rfl | rfl <;> rfl
  · rintro X P hO _ μ ⟨w, p1, p2, rfl, hw, hpre, hpost⟩ hn
    exact wk_X2_fullLoss_0 hO hn w p1 p2 hw μ hpost (vp_X2_fullLoss_0 w p1 p2 hw μ hpre)
set_option maxRecDepth 20000 in
set_option maxHeartbeats 4000000 in
theorem vp_X2_walkBetween_0 (w : Nat) (p1 : Int32) (p2 : Int32) (hw : w = 3 ∨ w = 10) (μ : Mem) (hpre : pre_X2_walkBetween w p1 p2 μ) : vc_X2_walkBetween_0 w p1 p2 μ (post_X2_walkBetween w p1 p2 μ)  := by
  simp only [vc_X2_walkBetween_0, and_imp, forall_eq, forall_const, true_and, and_true]
  unfold post_X2_walkBetween absI; grind
theorem sp_X2_walkBetween : Sp yX2_walkBetween cX2_walkBetween 3 (some .int) 1 S_X2_walkBetween := by
  refine sp_of (by decide) (fun av μ P h => ?_) ?_
  · obtain ⟨w, p1, p2, rfl, -⟩ := h
    refine ⟨Nat.le_of_ble_eq_true rfl, fun v hv => ?_⟩
    simp only [List.mem_cons, List.not_mem_nil, or_false] at hv
    rcases hv with rfl | rfl | rfl <;> rfl
  · rintro X P hO _ μ ⟨w, p1, p2, rfl, hw, hpre, hpost⟩ hn
    exact wk_X2_walkBetween_0 hO hn w p1 p2 hw μ hpost (vp_X2_walkBetween_0 w p1 p2 hw μ hpre)
set_option maxRecDepth 20000 in
set_option maxHeartbeats 4000000 in
theorem vp_X2_tellNothing_0 (w : Nat) (hw : w = 3 ∨ w = 10) (μ : Mem) (hpre : pre_X2_tellNothing w μ) : vc_X2_tellNothing_0 w μ (post_X2_tellNothing w μ)  := by
  simp only [vc_X2_tellNothing_0, and_imp, forall_eq, forall_const, true_and, and_true]
  rfl
theorem sp_X2_tellNothing : Sp yX2_tellNothing cX2_tellNothing 1 none 0 S_X2_tellNothing := by
  refine sp_of (by decide) (fun av μ P h => ?_) ?_
  · obtain ⟨w, rfl, -⟩ := h
    refine ⟨Nat.le_of_ble_eq_true rfl, fun v hv => ?_⟩
    simp only [List.mem_cons, List.not_mem_nil, or_false] at hv
    subst hv; rfl
  · rintro X P hO _ μ ⟨w, rfl, hw, hpre, hpost⟩ hn
    exact wk_X2_tellNothing_0 hO hn w hw μ hpost (vp_X2_tellNothing_0 w hw μ hpre)
set_option maxRecDepth 20000 in
set_option maxHeartbeats 4000000 in
theorem vp_X8_lossOf_0 (p1 : Int32) (p2 : Int32)  (μ : Mem) (hpre : pre_X8_lossOf p1 p2 μ) : vc_X8_lossOf_0 p1 p2 μ (post_X8_lossOf p1 p2 μ)  := by
  simp only [vc_X8_lossOf_0, and_imp, forall_eq, forall_const, true_and, and_true]
  unfold post_X8_lossOf; grind
theorem sp_X8_lossOf : Sp yX8_lossOf cX8_lossOf 2 (some .int) 0 S_X8_lossOf := by
  refine sp_of (by decide) (fun av μ P h => ?_) ?_
  · obtain ⟨p1, p2, rfl, -⟩ := h
    refine ⟨Nat.le_of_ble_eq_true rfl, fun v hv => ?_⟩
    simp only [List.mem_cons, List.not_mem_nil, or_false] at hv
    rcases hv with rfl | rfl <;> rfl
  · rintro X P hO _ μ ⟨p1, p2, rfl, hpre, hpost⟩ hn
    exact wk_X8_lossOf_0 hO hn p1 p2  μ hpost (vp_X8_lossOf_0 p1 p2  μ hpre)
set_option maxRecDepth 20000 in
set_option maxHeartbeats 4000000 in
theorem vp_X7_isSolved_0 (p1 : Int32)  (μ : Mem) (hpre : pre_X7_isSolved p1 μ) : vc_X7_isSolved_0 p1 μ (post_X7_isSolved p1 μ)  := by
  simp only [vc_X7_isSolved_0, and_imp, forall_eq, forall_const, true_and, and_true]
  unfold post_X7_isSolved; grind
theorem sp_X7_isSolved : Sp yX7_isSolved cX7_isSolved 2 (some .boolean) 0 S_X7_isSolved := by
  refine sp_of (by decide) (fun av μ P h => ?_) ?_
  · obtain ⟨p1, rfl, -⟩ := h
    refine ⟨Nat.le_of_ble_eq_true rfl, fun v hv => ?_⟩
    simp only [List.mem_cons, List.not_mem_nil, or_false] at hv
    rcases hv with rfl | rfl <;> rfl
  · rintro X P hO _ μ ⟨p1, rfl, hpre, hpost⟩ hn
    exact wk_X7_isSolved_0 hO hn p1  μ hpost (vp_X7_isSolved_0 p1  μ hpre)
set_option maxRecDepth 20000 in
set_option maxHeartbeats 4000000 in
theorem vp_X5_lose_0   (μ : Mem) (hpre : pre_X5_lose  μ) : vc_X5_lose_0  μ (post_X5_lose  μ)  := by
  simp only [vc_X5_lose_0, and_imp, forall_eq, forall_const, true_and, and_true]
  rfl
theorem sp_X5_lose : Sp yX5_lose cX5_lose 1 none 0 S_X5_lose := by
  refine sp_of (by decide) (fun av μ P h => ?_) ?_
  · obtain ⟨rfl, -⟩ := h
    refine ⟨Nat.le_of_ble_eq_true rfl, fun v hv => ?_⟩
    simp only [List.mem_cons, List.not_mem_nil, or_false] at hv
    subst hv; rfl
  · rintro X P hO _ μ ⟨rfl, hpre, hpost⟩ hn
    exact wk_X5_lose_0 hO hn   μ hpost (vp_X5_lose_0   μ hpre)
set_option maxRecDepth 20000 in
set_option maxHeartbeats 4000000 in
theorem vp_X6_isDigit_0 (p1 : Int32)  (μ : Mem) (hpre : pre_X6_isDigit p1 μ) : vc_X6_isDigit_0 p1 μ (post_X6_isDigit p1 μ)  := by
  simp only [vc_X6_isDigit_0, and_imp, forall_eq, forall_const, true_and, and_true]
  unfold post_X6_isDigit; grind
theorem sp_X6_isDigit : Sp yX6_isDigit cX6_isDigit 1 (some .boolean) 0 S_X6_isDigit := by
  refine sp_of (by decide) (fun av μ P h => ?_) ?_
  · obtain ⟨p1, rfl, -⟩ := h
    refine ⟨Nat.le_of_ble_eq_true rfl, fun v hv => ?_⟩
    simp only [List.mem_cons, List.not_mem_nil, or_false] at hv
    subst hv; rfl
  · rintro X P hO _ μ ⟨p1, rfl, hpre, hpost⟩ hn
    exact wk_X6_isDigit_0 hO hn p1  μ hpost (vp_X6_isDigit_0 p1  μ hpre)
set_option maxRecDepth 20000 in
set_option maxHeartbeats 4000000 in
theorem vp_X6_failsAt_0 (p1 : Int32)  (μ : Mem) (hpre : pre_X6_failsAt p1 μ) : vc_X6_failsAt_0 p1 μ (post_X6_failsAt p1 μ)  := by
  simp only [vc_X6_failsAt_0, and_imp, forall_eq, forall_const, true_and, and_true]
  exact ⟨rfl, rfl⟩
theorem sp_X6_failsAt : Sp yX6_failsAt cX6_failsAt 2 (some .boolean) 0 S_X6_failsAt := by
  refine sp_of (by decide) (fun av μ P h => ?_) ?_
  · obtain ⟨p1, rfl, -⟩ := h
    refine ⟨Nat.le_of_ble_eq_true rfl, fun v hv => ?_⟩
    simp only [List.mem_cons, List.not_mem_nil, or_false] at hv
    rcases hv with rfl | rfl <;> rfl
  · rintro X P hO _ μ ⟨p1, rfl, hpre, hpost⟩ hn
    exact wk_X6_failsAt_0 hO hn p1  μ hpost (vp_X6_failsAt_0 p1  μ hpre)
set_option maxRecDepth 20000 in
set_option maxHeartbeats 4000000 in
theorem vp_X1_indexOf_0 (p1 : Int32) (p2 : Int32)  (μ : Mem) (hpre : pre_X1_indexOf p1 p2 μ) : vc_X1_indexOf_0 p1 p2 μ (post_X1_indexOf p1 p2 μ)  := by
  simp only [vc_X1_indexOf_0, and_imp, forall_eq, forall_const, true_and, and_true]
  exact ⟨rfl, rfl⟩
theorem sp_X1_indexOf : Sp yX1_indexOf cX1_indexOf 2 (some .int) 0 S_X1_indexOf := by
  refine sp_of (by decide) (fun av μ P h => ?_) ?_
  · obtain ⟨p1, p2, rfl, -⟩ := h
    refine ⟨Nat.le_of_ble_eq_true rfl, fun v hv => ?_⟩
    simp only [List.mem_cons, List.not_mem_nil, or_false] at hv
    rcases hv with rfl | rfl <;> rfl
  · rintro X P hO _ μ ⟨p1, p2, rfl, hpre, hpost⟩ hn
    exact wk_X1_indexOf_0 hO hn p1 p2  μ hpost (vp_X1_indexOf_0 p1 p2  μ hpre)
set_option maxRecDepth 20000 in
set_option maxHeartbeats 4000000 in
theorem vp_J6_bitCount_0f7a4_0 (p1 : Int32)  (μ : Mem) (hpre : pre_J6_bitCount_0f7a4 p1 μ) : vc_J6_bitCount_0f7a4_0 p1 μ (post_J6_bitCount_0f7a4 p1 μ)  := by
  simp only [vc_J6_bitCount_0f7a4_0, and_imp, forall_eq, forall_const, true_and, and_true]
  exact ⟨rfl, rfl⟩
theorem sp_J6_bitCount_0f7a4 : Sp yJ6_bitCount_0f7a4 cJ6_bitCount_0f7a4 1 (some .int) 0 S_J6_bitCount_0f7a4 := by
  refine sp_of (by decide) (fun av μ P h => ?_) ?_
  · obtain ⟨p1, rfl, -⟩ := h
    refine ⟨Nat.le_of_ble_eq_true rfl, fun v hv => ?_⟩
    simp only [List.mem_cons, List.not_mem_nil, or_false] at hv
    subst hv; rfl
  · rintro X P hO _ μ ⟨p1, rfl, hpre, hpost⟩ hn
    exact wk_J6_bitCount_0f7a4_0 hO hn p1  μ hpost (vp_J6_bitCount_0f7a4_0 p1  μ hpre)
set_option maxRecDepth 20000 in
set_option maxHeartbeats 4000000 in
theorem vp_J7_fill_53178_0 (a : Nat) (na : Nat) (p1 : Int32) (ha : isRow a na) (μ : Mem) (hpre : pre_J7_fill_53178 a na p1 μ) : vc_J7_fill_53178_0 a na p1 μ (post_J7_fill_53178 a na p1 μ) (fun l2 l3 m => ∃ k : Nat, inv_J7_fill_53178_5 a na p1 μ k l2 l3 m) := by
  simp only [vc_J7_fill_53178_0, and_imp, forall_eq, forall_const, true_and, and_true]
  exact ⟨na, 0, Nat.zero_le _, rfl, rfl, rfl, fr_refl _ _, fun j hj => absurd hj (Nat.not_lt_zero j)⟩
set_option maxRecDepth 20000 in
set_option maxHeartbeats 4000000 in
theorem vp_J7_fill_53178_5 (a : Nat) (na : Nat) (p1 : Int32) (ha : isRow a na) (μ : Mem) (hpre : pre_J7_fill_53178 a na p1 μ) (n : Nat) (l2 : Int32) (l3 : Int32) (μ0 : Mem) (hi : inv_J7_fill_53178_5 a na p1 μ n l2 l3 μ0) : vc_J7_fill_53178_5 a na p1 l2 l3 μ0 (post_J7_fill_53178 a na p1 μ) (fun l2 l3 m => ∃ k : Nat, k < n ∧ inv_J7_fill_53178_5 a na p1 μ k l2 l3 m) := by
  simp only [vc_J7_fill_53178_5, and_imp, forall_eq, forall_const, true_and, and_true]
  unfold post_J7_fill_53178
  unfold pre_J7_fill_53178 at hpre
  obtain ⟨i, hi1, rfl, rfl, rfl, hf, hv⟩ := hi
  refine ⟨fun c => ?_, fun c => ?_⟩
  · have : na ≤ i := (nI_leI (by omega) (by omega)).mp c
    exact ⟨hf, fun j hj => hv j (by omega)⟩
  · have hlt : i < na := by
      rcases Nat.lt_or_ge i na with h | h
      · exact h
      · exact absurd ((nI_leI (by omega) (by omega)).mpr h) c
    refine ⟨vp_in_nI hlt (by omega), na - (i + 1), by omega, i + 1, by omega, rfl, nI_1 i, rfl, fr_trans hf (fr_ui (by simp)), fun j hj => ?_⟩
    rw [gi_ui, nI_clamp (by omega)]
    by_cases h : j = i
    · simp [h]
    · rw [if_neg (by simp [h]), hv j (by omega)]
theorem sp_J7_fill_53178 : Sp yJ7_fill_53178 cJ7_fill_53178 4 none 0 S_J7_fill_53178 := by
  refine sp_of (by decide) (fun av μ P h => ?_) ?_
  · obtain ⟨a, na, p1, rfl, -⟩ := h
    refine ⟨Nat.le_of_ble_eq_true rfl, fun v hv => ?_⟩
    simp only [List.mem_cons, List.not_mem_nil, or_false] at hv
    rcases hv with rfl | rfl <;> rfl
  · rintro X P hO _ μ ⟨a, na, p1, rfl, ha, hpre, hpost⟩ hn
    have hJ : ∀ n : Nat, (∀ (l2 : Int32) (l3 : Int32) (m : Mem), inv_J7_fill_53178_5 a na p1 μ n l2 l3 m → V X 5 [some (.ref a), some (.int p1), some (.int l2), some (.int l3)] [] m) := by
      intro n
      induction n using Nat.strongRecOn with
      | _ n ih =>
        exact fun l2 l3 m hi => wk_J7_fill_53178_5 (J5 := (fun l2 l3 m => ∃ k : Nat, k < n ∧ inv_J7_fill_53178_5 a na p1 μ k l2 l3 m)) hO hn a na p1 ha l2 l3 m hpost (fun l2 l3 m hk => by obtain ⟨k, hk, hi⟩ := hk; exact (ih k hk) l2 l3 m hi) (vp_J7_fill_53178_5 a na p1 ha μ hpre n l2 l3 m hi)
    exact wk_J7_fill_53178_0 (J5 := (fun l2 l3 m => ∃ k : Nat, inv_J7_fill_53178_5 a na p1 μ k l2 l3 m)) hO hn a na p1 ha μ hpost (fun l2 l3 m hk => by obtain ⟨k, hi⟩ := hk; exact (hJ k) l2 l3 m hi) (vp_J7_fill_53178_0 a na p1 ha μ hpre)

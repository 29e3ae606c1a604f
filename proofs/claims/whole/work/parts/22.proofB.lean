theorem isN_le {μ : Mem} {c k b i : Nat} (h : isN μ c k b) (hb : b < 2 ^ 31) (hi : i < 2 ^ 31) : gi μ c k ≤ nI i ↔ gn μ c k ≤ i := by
  rw [h.1]
  have h2 := h.2
  rw [nI_leI (by omega) hi]
theorem isN_in {μ : Mem} {c k b N : Nat} (h : isN μ c k b) (hb : gn μ c k < N) (hN : N < 2 ^ 31) : vp_in (gi μ c k) N := by
  rw [h.1]
  exact vp_in_nI hb hN
theorem orI_0 (x : Int32) : x ||| 0 = x := by simp
theorem tk_end {w : Nat} {p1 p2 : Int32} (μ : Mem) : ∀ (c1 : Int32) (m : Mem), lossC μ w p1 p2 = c1 → m = ui (ui (ui μ 17 2 (gi μ 17 2 + gi μ (w + 5) p2.toNatClampNeg)) 18 p1.toNatClampNeg (gi μ 18 p1.toNatClampNeg - c1)) 19 p1.toNatClampNeg p2 → ((0 ≤ gi m 18 p1.toNatClampNeg → post_X7_takeDoing w p1 p2 μ m) ∧ (¬ 0 ≤ gi m 18 p1.toNatClampNeg → post_X7_takeDoing w p1 p2 μ (ui (ui m 17 3 (gi m 17 3 ||| 1 <<< (p1 &&& 31))) 17 0 (-9)))) := by
  intro c1 m hc1 hm
  generalize hj : p1.toNatClampNeg = j at hm
  generalize hv : gi μ 18 j - c1 = v at hm
  generalize ht : gi μ 17 2 + gi μ (w + 5) p2.toNatClampNeg = t at hm
  generalize hb : (1 : Int32) <<< (p1 &&& 31) = b
  have g : ∀ c k, gi m c k = if c = 19 ∧ k = j then p2 else if c = 18 ∧ k = j then v else if c = 17 ∧ k = 2 then t else gi μ c k := by
    intro c k; rw [hm]; rfl
  have gf : ∀ c, c ∉ [17, 18, 19] → ∀ k, gi m c k = gi μ c k := by
    intro c hc k
    simp only [List.mem_cons, List.not_mem_nil, or_false, not_or] at hc
    rw [g]; simp [hc]
  have g2 : m.2 = μ.2 := by rw [hm]; rfl
  have g18 : ∀ k, gi m 18 k = if k = j then v else gi μ 18 k := by intro k; rw [g]; simp
  have g19 : ∀ k, gi m 19 k = if k = j then p2 else gi μ 19 k := by intro k; rw [g]; simp
  have g17 : ∀ k, gi m 17 k = if k = 2 then t else gi μ 17 k := by intro k; rw [g]; simp
  rw [g18 j, if_pos rfl]
  unfold post_X7_takeDoing
  rw [hc1, hj, hv, ht, hb]
  refine ⟨fun c => ⟨⟨gf, g2⟩, g17 1, g17 2, g17 4, fun k => ?_, g19, ?_⟩, fun c => ⟨⟨fun c hc k => ?_, g2⟩, ?_, ?_, ?_, fun k => ?_, fun k => ?_, ?_⟩⟩
  · rw [g18]; split
    · rename_i h; rw [h, hv]
    · rfl
  · rw [if_neg (by simpa using c)]; exact ⟨g17 3, g17 0⟩
  · have := gf c hc k
    simp only [List.mem_cons, List.not_mem_nil, or_false, not_or] at hc
    rw [gi_ui, if_neg (by simp [hc]), gi_ui, if_neg (by simp [hc]), this]
  · rw [gi_ui, if_neg (by simp), gi_ui, if_neg (by simp), g17 1]; rfl
  · rw [gi_ui, if_neg (by simp), gi_ui, if_neg (by simp), g17 2]; rfl
  · rw [gi_ui, if_neg (by simp), gi_ui, if_neg (by simp), g17 4]; rfl
  · rw [gi_ui, if_neg (by simp), gi_ui, if_neg (by simp), g18 k]; split
    · rename_i h; rw [h, hv]
    · rfl
  · rw [gi_ui, if_neg (by simp), gi_ui, if_neg (by simp), g19 k]
  · rw [if_pos (by simpa using c)]
    refine ⟨?_, ?_⟩
    · rw [gi_ui, if_neg (by simp), gi_ui, if_pos ⟨rfl, rfl⟩, g17 3, if_neg (by decide)]
    · rw [gi_ui, if_pos ⟨rfl, rfl⟩]
def S_X7_earnedIn : Tr := fun av μ P => ∃ (w : Nat), av = [.ref 17, .ref w] ∧ (w = 3 ∨ w = 10) ∧ pre_X7_earnedIn w μ ∧ ∀ (x : Int32) (m : Mem), post_X7_earnedIn w μ x m → P (some (.int x)) m
def vc_X7_earnedIn_0 (w : Nat)  (μ : Mem) (R : Int32 → Mem → Prop) (J4 : Int32 → Int32 → Mem → Prop) : Prop :=
  J4 0 0 μ
set_option maxRecDepth 20000 in
set_option maxHeartbeats 4000000 in
theorem wk_X7_earnedIn_0 {X : XT} {P : Post} (hO : OkM X cX7_earnedIn RX7 1 (some .int) P) (hn : xn X = 4) (w : Nat) (hw : w = 3 ∨ w = 10)  (μ : Mem) {R : Int32 → Mem → Prop} (hR : ∀ x m, R x m → P (some (.int x)) m) {J4 : Int32 → Int32 → Mem → Prop} (hJ4 : ∀ (l2 : Int32) (l3 : Int32) (m : Mem), J4 l2 l3 m → V X 4 [some (.ref 17), some (.ref w), some (.int l2), some (.int l3)] [] m)  (h : vc_X7_earnedIn_0 w  μ R J4) : V X 0 [some (.ref 17), some (.ref w), none, none] [] μ := by
  have hX := hO.1
  unfold vc_X7_earnedIn_0 at h
  refine v_iconst hX 0 dX7_earnedIn_0 rfl (?_ : V X 1 [some (.ref 17), some (.ref w), none, none] [.int 0] μ)
  refine v_istore_n hX dX7_earnedIn_1 (by rw [hn]; decide) (?_ : V X 2 [some (.ref 17), some (.ref w), some (.int 0), none] [] μ)
  refine v_iconst hX 0 dX7_earnedIn_2 rfl (?_ : V X 3 [some (.ref 17), some (.ref w), some (.int 0), none] [.int 0] μ)
  refine v_istore_n hX dX7_earnedIn_3 (by rw [hn]; decide) (?_ : V X 4 [some (.ref 17), some (.ref w), some (.int 0), some (.int 0)] [] μ)
  exact v_mask [true, true, true, true] (hJ4 _ _ _ h)
def vc_X7_earnedIn_4 (w : Nat) (l2 : Int32) (l3 : Int32) (μ : Mem) (R : Int32 → Mem → Prop) (J4 : Int32 → Int32 → Mem → Prop) : Prop :=
  (((gi μ w 0) ≤ l3 → R l2 μ) ∧ (¬ (gi μ w 0) ≤ l3 → (pre_X7_isSolved l3 μ ∧ ∀ (x2 : Int32) (μ3 : Mem), post_X7_isSolved l3 μ x2 μ3 → ((x2 = 0 → J4 l2 (l3 + 1) μ3) ∧ (¬ x2 = 0 → vp_in l3 5 ∧ (∀ y7 : Int32, y7 = l2 + (gi μ3 (w + 3) (Int32.toNatClampNeg l3)) → J4 y7 (l3 + 1) μ3))))))
set_option maxRecDepth 20000 in
set_option maxHeartbeats 4000000 in
theorem wk_X7_earnedIn_4 {X : XT} {P : Post} (hO : OkM X cX7_earnedIn RX7 1 (some .int) P) (hn : xn X = 4) (w : Nat) (hw : w = 3 ∨ w = 10) (l2 : Int32) (l3 : Int32) (μ : Mem) {R : Int32 → Mem → Prop} (hR : ∀ x m, R x m → P (some (.int x)) m) {J4 : Int32 → Int32 → Mem → Prop} (hJ4 : ∀ (l2 : Int32) (l3 : Int32) (m : Mem), J4 l2 l3 m → V X 4 [some (.ref 17), some (.ref w), some (.int l2), some (.int l3)] [] m)  (h : vc_X7_earnedIn_4 w l2 l3 μ R J4) : V X 4 [some (.ref 17), some (.ref w), some (.int l2), some (.int l3)] [] μ := by
  have hX := hO.1
  unfold vc_X7_earnedIn_4 at h
  refine v_iload_n hX dX7_earnedIn_4 rfl (?_ : V X 5 [some (.ref 17), some (.ref w), some (.int l2), some (.int l3)] [.int l3] μ)
  refine v_aload_n hX dX7_earnedIn_5 rfl (?_ : V X 6 [some (.ref 17), some (.ref w), some (.int l2), some (.int l3)] [.ref w, .int l3] μ)
  refine v_geti hX fk_X7_49 (sHo hw) rfl dX7_earnedIn_6 (?_ : V X 9 [some (.ref 17), some (.ref w), some (.int l2), some (.int l3)] [.int (gi μ w 0), .int l3] μ)
  refine v_icmp_ge hX 35 dX7_earnedIn_9 rfl (fun c1 => ?_) (fun c1 => ?_)
  · replace h := h.1 c1
    refine v_iload_n hX dX7_earnedIn_35 rfl (?_ : V X 36 [some (.ref 17), some (.ref w), some (.int l2), some (.int l3)] [.int l2] μ)
    exact v_iret hO dX7_earnedIn_36 (hR _ _ h)
  · replace h := h.2 c1
    refine v_aload_n hX dX7_earnedIn_12 rfl (?_ : V X 13 [some (.ref 17), some (.ref w), some (.int l2), some (.int l3)] [.ref 17] μ)
    refine v_iload_n hX dX7_earnedIn_13 rfl (?_ : V X 14 [some (.ref 17), some (.ref w), some (.int l2), some (.int l3)] [.int l3, .ref 17] μ)
    refine v_callV hX sp_X7_isSolved ck_X7_isSolved mk_X7_52 mv_X7_isSolved sh_17 (by decide) (by decide) [.int l3] [] rfl rfl (Nat.le_of_ble_eq_true rfl) dX7_earnedIn_14 ⟨l3, rfl, h.1, fun x2 μ3 hp4 => (?_ : V X 17 [some (.ref 17), some (.ref w), some (.int l2), some (.int l3)] [.int x2] μ3)⟩
    replace h := h.2 x2 μ3 hp4
    refine v_if_eq hX 29 dX7_earnedIn_17 rfl (fun c5 => ?_) (fun c5 => ?_)
    · replace h := h.1 c5
      refine v_iinc hX 1 dX7_earnedIn_29 (by rw [hn]; decide) rfl rfl (?_ : V X 32 [some (.ref 17), some (.ref w), some (.int l2), some (.int (l3 + 1))] [] μ3)
      refine v_goto hX 4 dX7_earnedIn_32 rfl (?_ : V X 4 [some (.ref 17), some (.ref w), some (.int l2), some (.int (l3 + 1))] [] μ3)
      exact v_mask [true, true, true, true] (hJ4 _ _ _ h)
    · replace h := h.2 c5
      refine v_iload_n hX dX7_earnedIn_20 rfl (?_ : V X 21 [some (.ref 17), some (.ref w), some (.int l2), some (.int l3)] [.int l2] μ3)
      refine v_aload_n hX dX7_earnedIn_21 rfl (?_ : V X 22 [some (.ref 17), some (.ref w), some (.int l2), some (.int l3)] [.ref w, .int l2] μ3)
      refine v_getr hX (w + 3) fk_X7_56 (sHo hw) rfl rfl dX7_earnedIn_22 (?_ : V X 25 [some (.ref 17), some (.ref w), some (.int l2), some (.int l3)] [.ref (w + 3), .int l2] μ3)
      refine v_iload_n hX dX7_earnedIn_25 rfl (?_ : V X 26 [some (.ref 17), some (.ref w), some (.int l2), some (.int l3)] [.int l3, .ref (w + 3), .int l2] μ3)
      have hb6 := h.1
      replace h := h.2
      refine w_iald hX (Int32.toNatClampNeg l3) (sH3 hw) hb6 rfl dX7_earnedIn_26 (?_ : V X 27 [some (.ref 17), some (.ref w), some (.int l2), some (.int l3)] [.int (gi μ3 (w + 3) (Int32.toNatClampNeg l3)), .int l2] μ3)
      refine v_iadd hX dX7_earnedIn_27 (?_ : V X 28 [some (.ref 17), some (.ref w), some (.int l2), some (.int l3)] [.int (l2 + (gi μ3 (w + 3) (Int32.toNatClampNeg l3)))] μ3)
      refine w_istore_n hX dX7_earnedIn_28 (by rw [hn]; decide) (fun y7 e8 => (?_ : V X 29 [some (.ref 17), some (.ref w), some (.int y7), some (.int l3)] [] μ3))
      replace h := h y7 e8
      refine v_iinc hX 1 dX7_earnedIn_29 (by rw [hn]; decide) rfl rfl (?_ : V X 32 [some (.ref 17), some (.ref w), some (.int y7), some (.int (l3 + 1))] [] μ3)
      refine v_goto hX 4 dX7_earnedIn_32 rfl (?_ : V X 4 [some (.ref 17), some (.ref w), some (.int y7), some (.int (l3 + 1))] [] μ3)
      exact v_mask [true, true, true, true] (hJ4 _ _ _ h)
set_option maxRecDepth 20000 in
set_option maxHeartbeats 4000000 in
theorem vp_X7_earnedIn_0 (w : Nat) (hw : w = 3 ∨ w = 10) (μ : Mem) (hpre : pre_X7_earnedIn w μ) : vc_X7_earnedIn_0 w μ (post_X7_earnedIn w μ) (fun l2 l3 m => ∃ k : Nat, inv_X7_earnedIn_4 w μ k l2 l3 m) := by
  simp only [vc_X7_earnedIn_0, pre_X7_isSolved, post_X7_isSolved, and_imp, call_eq, forall_eq, forall_const, true_and, and_true]
  exact ⟨gn μ w 0, 0, Nat.zero_le _, rfl, rfl, rfl, rfl⟩
set_option maxRecDepth 20000 in
set_option maxHeartbeats 4000000 in
theorem vp_X7_earnedIn_4 (w : Nat) (hw : w = 3 ∨ w = 10) (μ : Mem) (hpre : pre_X7_earnedIn w μ) (n : Nat) (l2 : Int32) (l3 : Int32) (μ0 : Mem) (hi : inv_X7_earnedIn_4 w μ n l2 l3 μ0) : vc_X7_earnedIn_4 w l2 l3 μ0 (post_X7_earnedIn w μ) (fun l2 l3 m => ∃ k : Nat, k < n ∧ inv_X7_earnedIn_4 w μ k l2 l3 m) := by
  simp only [vc_X7_earnedIn_4, pre_X7_isSolved, post_X7_isSolved, and_imp, call_eq, forall_eq, forall_const, true_and, and_true]
  unfold post_X7_earnedIn
  unfold pre_X7_earnedIn at hpre
  obtain ⟨i, hi1, rfl, rfl, rfl, rfl⟩ := hi
  have hb := hpre.2
  rw [isN_le hpre (by omega) (by omega)]
  refine ⟨fun c => ?_, fun c => ?_⟩
  · have : i = gn μ0 w 0 := by omega
    subst this
    exact ⟨rfl, rfl⟩
  · refine ⟨fun c2 => ⟨gn μ0 w 0 - (i + 1), by omega, i + 1, by omega, rfl, nI_1 i, ?_, rfl⟩, fun c2 => ⟨vp_in_nI (by omega) (by omega), gn μ0 w 0 - (i + 1), by omega, i + 1, by omega, rfl, nI_1 i, ?_, rfl⟩⟩
    · simp only [sumI, slvI]; split at c2 <;> simp_all
    · rw [nI_clamp (by omega)]; simp only [sumI, slvI]; split at c2 <;> simp_all
theorem sp_X7_earnedIn : Sp yX7_earnedIn cX7_earnedIn 4 (some .int) 1 S_X7_earnedIn := by
  refine sp_of (by decide) (fun av μ P h => ?_) ?_
  · obtain ⟨w, rfl, -⟩ := h
    refine ⟨Nat.le_of_ble_eq_true rfl, fun v hv => ?_⟩
    simp only [List.mem_cons, List.not_mem_nil, or_false] at hv
    rcases hv with rfl | rfl <;> rfl
  · rintro X P hO _ μ ⟨w, rfl, hw, hpre, hpost⟩ hn
    have hJ : ∀ n : Nat, (∀ (l2 : Int32) (l3 : Int32) (m : Mem), inv_X7_earnedIn_4 w μ n l2 l3 m → V X 4 [some (.ref 17), some (.ref w), some (.int l2), some (.int l3)] [] m) := by
      intro n
      induction n using Nat.strongRecOn with
      | _ n ih =>
        exact fun l2 l3 m hi => wk_X7_earnedIn_4 (J4 := (fun l2 l3 m => ∃ k : Nat, k < n ∧ inv_X7_earnedIn_4 w μ k l2 l3 m)) hO hn w hw l2 l3 m hpost (fun l2 l3 m hk => by obtain ⟨k, hk, hi⟩ := hk; exact (ih k hk) l2 l3 m hi) (vp_X7_earnedIn_4 w hw μ hpre n l2 l3 m hi)
    exact wk_X7_earnedIn_0 (J4 := (fun l2 l3 m => ∃ k : Nat, inv_X7_earnedIn_4 w μ k l2 l3 m)) hO hn w hw μ hpost (fun l2 l3 m hk => by obtain ⟨k, hi⟩ := hk; exact (hJ k) l2 l3 m hi) (vp_X7_earnedIn_0 w hw μ hpre)
def S_X7_beginIn : Tr := fun av μ P => ∃ (w : Nat), av = [.ref 17, .ref w] ∧ (w = 3 ∨ w = 10) ∧ pre_X7_beginIn w μ ∧ ∀ m : Mem, post_X7_beginIn w μ m → P none m
def vc_X7_beginIn_0 (w : Nat)  (μ : Mem) (R : Mem → Prop)  : Prop :=
  (∀ μ1, μ1 = ui μ 17 0 ((-9)) → (∀ μ3, μ3 = ui μ1 17 1 ((-9)) → (∀ μ5, μ5 = ui μ3 17 2 0 → (∀ μ7, μ7 = ui μ5 17 3 0 → (∀ μ9, μ9 = ui μ7 17 4 0 → (∀ μ11, μ11 = ua μ9 18 (va_cpy (gi μ9 (w + 1)) (gi μ9 18) 0 0 5) → (pre_J7_fill_53178 19 5 ((-9)) μ11 ∧ ∀ (μ14 : Mem), post_J7_fill_53178 19 5 ((-9)) μ11 μ14 → R μ14)))))))
set_option maxRecDepth 20000 in
set_option maxHeartbeats 4000000 in
theorem wk_X7_beginIn_0 {X : XT} {P : Post} (hO : OkM X cX7_beginIn RX7 2 none P) (hn : xn X = 2) (w : Nat) (hw : w = 3 ∨ w = 10)  (μ : Mem) {R : Mem → Prop} (hR : ∀ m, R m → P none m)    (h : vc_X7_beginIn_0 w  μ R ) : V X 0 [some (.ref 17), some (.ref w)] [] μ := by
  have hX := hO.1
  unfold vc_X7_beginIn_0 at h
  refine v_aload_n hX dX7_beginIn_0 rfl (?_ : V X 1 [some (.ref 17), some (.ref w)] [.ref 17] μ)
  refine v_bipush hX (-9) dX7_beginIn_1 rfl (?_ : V X 3 [some (.ref 17), some (.ref w)] [.int ((-9)), .ref 17] μ)
  refine w_puti hX fk_X7_18 fw_7_0 sh_17 rfl dX7_beginIn_3 (fun μ1 e2 => (?_ : V X 6 [some (.ref 17), some (.ref w)] [] μ1))
  replace h := h μ1 e2
  refine v_aload_n hX dX7_beginIn_6 rfl (?_ : V X 7 [some (.ref 17), some (.ref w)] [.ref 17] μ1)
  refine v_bipush hX (-9) dX7_beginIn_7 rfl (?_ : V X 9 [some (.ref 17), some (.ref w)] [.int ((-9)), .ref 17] μ1)
  refine w_puti hX fk_X7_22 fw_7_1 sh_17 rfl dX7_beginIn_9 (fun μ3 e4 => (?_ : V X 12 [some (.ref 17), some (.ref w)] [] μ3))
  replace h := h μ3 e4
  refine v_aload_n hX dX7_beginIn_12 rfl (?_ : V X 13 [some (.ref 17), some (.ref w)] [.ref 17] μ3)
  refine v_iconst hX 0 dX7_beginIn_13 rfl (?_ : V X 14 [some (.ref 17), some (.ref w)] [.int 0, .ref 17] μ3)
  refine w_puti hX fk_X7_25 fw_7_2 sh_17 rfl dX7_beginIn_14 (fun μ5 e6 => (?_ : V X 17 [some (.ref 17), some (.ref w)] [] μ5))
  replace h := h μ5 e6
  refine v_aload_n hX dX7_beginIn_17 rfl (?_ : V X 18 [some (.ref 17), some (.ref w)] [.ref 17] μ5)
  refine v_iconst hX 0 dX7_beginIn_18 rfl (?_ : V X 19 [some (.ref 17), some (.ref w)] [.int 0, .ref 17] μ5)
  refine w_puti hX fk_X7_28 fw_7_3 sh_17 rfl dX7_beginIn_19 (fun μ7 e8 => (?_ : V X 22 [some (.ref 17), some (.ref w)] [] μ7))
  replace h := h μ7 e8
  refine v_aload_n hX dX7_beginIn_22 rfl (?_ : V X 23 [some (.ref 17), some (.ref w)] [.ref 17] μ7)
  refine v_iconst hX 0 dX7_beginIn_23 rfl (?_ : V X 24 [some (.ref 17), some (.ref w)] [.int 0, .ref 17] μ7)
  refine w_puti hX fk_X7_31 fw_7_4 sh_17 rfl dX7_beginIn_24 (fun μ9 e10 => (?_ : V X 27 [some (.ref 17), some (.ref w)] [] μ9))
  replace h := h μ9 e10
  refine v_aload_n hX dX7_beginIn_27 rfl (?_ : V X 28 [some (.ref 17), some (.ref w)] [.ref w] μ9)
  refine v_getr hX (w + 1) fk_X7_34 (sHo hw) rfl rfl dX7_beginIn_28 (?_ : V X 31 [some (.ref 17), some (.ref w)] [.ref (w + 1)] μ9)
  refine v_iconst hX 0 dX7_beginIn_31 rfl (?_ : V X 32 [some (.ref 17), some (.ref w)] [.int 0, .ref (w + 1)] μ9)
  refine v_aload_n hX dX7_beginIn_32 rfl (?_ : V X 33 [some (.ref 17), some (.ref w)] [.ref 17, .int 0, .ref (w + 1)] μ9)
  refine v_getr hX (18) fk_X7_9 sh_17 rfl rfl dX7_beginIn_33 (?_ : V X 36 [some (.ref 17), some (.ref w)] [.ref 18, .int 0, .ref (w + 1)] μ9)
  refine v_iconst hX 0 dX7_beginIn_36 rfl (?_ : V X 37 [some (.ref 17), some (.ref w)] [.int 0, .ref 18, .int 0, .ref (w + 1)] μ9)
  refine v_iconst hX 5 dX7_beginIn_37 rfl (?_ : V X 38 [some (.ref 17), some (.ref w)] [.int 5, .int 0, .ref 18, .int 0, .ref (w + 1)] μ9)
  refine w_copy hX 5 mk_X7_37 (sH1 hw) sh_18 (by decide) (by decide) (by decide) (Nat.le_of_ble_eq_true rfl) dX7_beginIn_38 (by decide) (by decide) (by decide) (by decide) (fun μ11 e12 => (?_ : V X 41 [some (.ref 17), some (.ref w)] [] μ11))
  replace h := h μ11 e12
  refine v_aload_n hX dX7_beginIn_41 rfl (?_ : V X 42 [some (.ref 17), some (.ref w)] [.ref 17] μ11)
  refine v_getr hX (19) fk_X7_15 sh_17 rfl rfl dX7_beginIn_42 (?_ : V X 45 [some (.ref 17), some (.ref w)] [.ref 19] μ11)
  refine v_bipush hX (-9) dX7_beginIn_45 rfl (?_ : V X 47 [some (.ref 17), some (.ref w)] [.int ((-9)), .ref 19] μ11)
  refine v_callS hX sp_J7_fill_53178 ck_J7_fill_53178 mk_X7_43 sk_J7_fill_53178 (by decide) [.ref 19, .int ((-9))] [] rfl rfl (Nat.le_of_ble_eq_true rfl) dX7_beginIn_47 ⟨19, 5, ((-9)), rfl, ⟨sh_19, by decide⟩, h.1, fun μ14 hp15 => (?_ : V X 50 [some (.ref 17), some (.ref w)] [] μ14)⟩
  replace h := h.2 μ14 hp15
  exact v_vret hO dX7_beginIn_50 (hR _ h)
set_option maxRecDepth 20000 in
set_option maxHeartbeats 4000000 in
theorem vp_X7_beginIn_0 (w : Nat) (hw : w = 3 ∨ w = 10) (μ : Mem) (hpre : pre_X7_beginIn w μ) : vc_X7_beginIn_0 w μ (post_X7_beginIn w μ)  := by
  unfold vc_X7_beginIn_0
  rintro _ rfl _ rfl _ rfl _ rfl _ rfl _ rfl
  refine ⟨by unfold pre_J7_fill_53178; omega, fun m hp => ?_⟩
  obtain ⟨⟨hf1, hf2⟩, hv⟩ := hp
  refine ⟨⟨fun c hc k => ?_, by rw [hf2]; rfl⟩, ?_, ?_, ?_, ?_, ?_, fun j hj => ?_, hv⟩
  · simp only [List.mem_cons, List.not_mem_nil, or_false, not_or] at hc
    rw [hf1 c (by simp [hc])]
    simp [gi_ua, gi_ui, hc]
  · rw [hf1 17 (by decide)]; simp [gi_ua, gi_ui]
  · rw [hf1 17 (by decide)]; simp [gi_ua, gi_ui]
  · rw [hf1 17 (by decide)]; simp [gi_ua, gi_ui]
  · rw [hf1 17 (by decide)]; simp [gi_ua, gi_ui]
  · rw [hf1 17 (by decide)]; simp [gi_ua, gi_ui]
  · rw [hf1 18 (by decide)]
    have hw2 : w + 1 ≠ 17 := by omega
    simp [gi_ua, gi_ui, va_cpy, hj, hw2]
theorem sp_X7_beginIn : Sp yX7_beginIn cX7_beginIn 2 none 2 S_X7_beginIn := by
  refine sp_of (by decide) (fun av μ P h => ?_) ?_
  · obtain ⟨w, rfl, -⟩ := h
    refine ⟨Nat.le_of_ble_eq_true rfl, fun v hv => ?_⟩
    simp only [List.mem_cons, List.not_mem_nil, or_false] at hv
    rcases hv with rfl | rfl <;> rfl
  · rintro X P hO _ μ ⟨w, rfl, hw, hpre, hpost⟩ hn
    exact wk_X7_beginIn_0 hO hn w hw μ hpost (vp_X7_beginIn_0 w hw μ hpre)
def S_X7_copyOf : Tr := fun av μ P => ∃ (a : Nat) (b : Nat), av = [.ref a, .ref b] ∧ (isSc a) ∧ (isSc b) ∧ pre_X7_copyOf a b μ ∧ ∀ m : Mem, post_X7_copyOf a b μ m → P none m
def vc_X7_copyOf_0 (a : Nat) (b : Nat)  (μ : Mem) (R : Mem → Prop)  : Prop :=
  (∀ μ1, μ1 = ui μ a 0 (gi μ b 0) → (∀ μ3, μ3 = ui μ1 a 1 (gi μ1 b 1) → (∀ μ5, μ5 = ui μ3 a 2 (gi μ3 b 2) → (∀ μ7, μ7 = ui μ5 a 3 (gi μ5 b 3) → (∀ μ9, μ9 = ui μ7 a 4 (gi μ7 b 4) → (∀ μ11, μ11 = ua μ9 (a + 1) (va_cpy (gi μ9 (b + 1)) (gi μ9 (a + 1)) 0 0 5) → (∀ μ13, μ13 = ua μ11 (a + 2) (va_cpy (gi μ11 (b + 2)) (gi μ11 (a + 2)) 0 0 5) → R μ13)))))))
set_option maxRecDepth 20000 in
set_option maxHeartbeats 4000000 in
theorem wk_X7_copyOf_0 {X : XT} {P : Post} (hO : OkM X cX7_copyOf RX7 2 none P) (hn : xn X = 2) (a : Nat) (b : Nat) (ha : isSc a) (hb : isSc b)  (μ : Mem) {R : Mem → Prop} (hR : ∀ m, R m → P none m)    (h : vc_X7_copyOf_0 a b  μ R ) : V X 0 [some (.ref a), some (.ref b)] [] μ := by
  have hX := hO.1
  unfold vc_X7_copyOf_0 at h
  refine v_aload_n hX dX7_copyOf_0 rfl (?_ : V X 1 [some (.ref a), some (.ref b)] [.ref a] μ)
  refine v_aload_n hX dX7_copyOf_1 rfl (?_ : V X 2 [some (.ref a), some (.ref b)] [.ref b, .ref a] μ)
  refine v_geti hX fk_X7_18 hb.1 rfl dX7_copyOf_2 (?_ : V X 5 [some (.ref a), some (.ref b)] [.int (gi μ b 0), .ref a] μ)
  refine w_puti hX fk_X7_18 fw_7_0 ha.1 rfl dX7_copyOf_5 (fun μ1 e2 => (?_ : V X 8 [some (.ref a), some (.ref b)] [] μ1))
  replace h := h μ1 e2
  refine v_aload_n hX dX7_copyOf_8 rfl (?_ : V X 9 [some (.ref a), some (.ref b)] [.ref a] μ1)
  refine v_aload_n hX dX7_copyOf_9 rfl (?_ : V X 10 [some (.ref a), some (.ref b)] [.ref b, .ref a] μ1)
  refine v_geti hX fk_X7_22 hb.1 rfl dX7_copyOf_10 (?_ : V X 13 [some (.ref a), some (.ref b)] [.int (gi μ1 b 1), .ref a] μ1)
  refine w_puti hX fk_X7_22 fw_7_1 ha.1 rfl dX7_copyOf_13 (fun μ3 e4 => (?_ : V X 16 [some (.ref a), some (.ref b)] [] μ3))
  replace h := h μ3 e4
  refine v_aload_n hX dX7_copyOf_16 rfl (?_ : V X 17 [some (.ref a), some (.ref b)] [.ref a] μ3)
  refine v_aload_n hX dX7_copyOf_17 rfl (?_ : V X 18 [some (.ref a), some (.ref b)] [.ref b, .ref a] μ3)
  refine v_geti hX fk_X7_25 hb.1 rfl dX7_copyOf_18 (?_ : V X 21 [some (.ref a), some (.ref b)] [.int (gi μ3 b 2), .ref a] μ3)
  refine w_puti hX fk_X7_25 fw_7_2 ha.1 rfl dX7_copyOf_21 (fun μ5 e6 => (?_ : V X 24 [some (.ref a), some (.ref b)] [] μ5))
  replace h := h μ5 e6
  refine v_aload_n hX dX7_copyOf_24 rfl (?_ : V X 25 [some (.ref a), some (.ref b)] [.ref a] μ5)
  refine v_aload_n hX dX7_copyOf_25 rfl (?_ : V X 26 [some (.ref a), some (.ref b)] [.ref b, .ref a] μ5)
  refine v_geti hX fk_X7_28 hb.1 rfl dX7_copyOf_26 (?_ : V X 29 [some (.ref a), some (.ref b)] [.int (gi μ5 b 3), .ref a] μ5)
  refine w_puti hX fk_X7_28 fw_7_3 ha.1 rfl dX7_copyOf_29 (fun μ7 e8 => (?_ : V X 32 [some (.ref a), some (.ref b)] [] μ7))
  replace h := h μ7 e8
  refine v_aload_n hX dX7_copyOf_32 rfl (?_ : V X 33 [some (.ref a), some (.ref b)] [.ref a] μ7)
  refine v_aload_n hX dX7_copyOf_33 rfl (?_ : V X 34 [some (.ref a), some (.ref b)] [.ref b, .ref a] μ7)
  refine v_geti hX fk_X7_31 hb.1 rfl dX7_copyOf_34 (?_ : V X 37 [some (.ref a), some (.ref b)] [.int (gi μ7 b 4), .ref a] μ7)
  refine w_puti hX fk_X7_31 fw_7_4 ha.1 rfl dX7_copyOf_37 (fun μ9 e10 => (?_ : V X 40 [some (.ref a), some (.ref b)] [] μ9))
  replace h := h μ9 e10
  refine v_aload_n hX dX7_copyOf_40 rfl (?_ : V X 41 [some (.ref a), some (.ref b)] [.ref b] μ9)
  refine v_getr hX (b + 1) fk_X7_9 hb.1 rfl rfl dX7_copyOf_41 (?_ : V X 44 [some (.ref a), some (.ref b)] [.ref (b + 1)] μ9)
  refine v_iconst hX 0 dX7_copyOf_44 rfl (?_ : V X 45 [some (.ref a), some (.ref b)] [.int 0, .ref (b + 1)] μ9)
  refine v_aload_n hX dX7_copyOf_45 rfl (?_ : V X 46 [some (.ref a), some (.ref b)] [.ref a, .int 0, .ref (b + 1)] μ9)
  refine v_getr hX (a + 1) fk_X7_9 ha.1 rfl rfl dX7_copyOf_46 (?_ : V X 49 [some (.ref a), some (.ref b)] [.ref (a + 1), .int 0, .ref (b + 1)] μ9)
  refine v_iconst hX 0 dX7_copyOf_49 rfl (?_ : V X 50 [some (.ref a), some (.ref b)] [.int 0, .ref (a + 1), .int 0, .ref (b + 1)] μ9)
  refine v_iconst hX 5 dX7_copyOf_50 rfl (?_ : V X 51 [some (.ref a), some (.ref b)] [.int 5, .int 0, .ref (a + 1), .int 0, .ref (b + 1)] μ9)
  refine w_copy hX 5 mk_X7_37 hb.2.1 ha.2.1 (by decide) (by decide) (by decide) (Nat.le_of_ble_eq_true rfl) dX7_copyOf_51 (by decide) (by decide) (by decide) (by decide) (fun μ11 e12 => (?_ : V X 54 [some (.ref a), some (.ref b)] [] μ11))
  replace h := h μ11 e12
  refine v_aload_n hX dX7_copyOf_54 rfl (?_ : V X 55 [some (.ref a), some (.ref b)] [.ref b] μ11)
  refine v_getr hX (b + 2) fk_X7_15 hb.1 rfl rfl dX7_copyOf_55 (?_ : V X 58 [some (.ref a), some (.ref b)] [.ref (b + 2)] μ11)
  refine v_iconst hX 0 dX7_copyOf_58 rfl (?_ : V X 59 [some (.ref a), some (.ref b)] [.int 0, .ref (b + 2)] μ11)
  refine v_aload_n hX dX7_copyOf_59 rfl (?_ : V X 60 [some (.ref a), some (.ref b)] [.ref a, .int 0, .ref (b + 2)] μ11)
  refine v_getr hX (a + 2) fk_X7_15 ha.1 rfl rfl dX7_copyOf_60 (?_ : V X 63 [some (.ref a), some (.ref b)] [.ref (a + 2), .int 0, .ref (b + 2)] μ11)
  refine v_iconst hX 0 dX7_copyOf_63 rfl (?_ : V X 64 [some (.ref a), some (.ref b)] [.int 0, .ref (a + 2), .int 0, .ref (b + 2)] μ11)
  refine v_iconst hX 5 dX7_copyOf_64 rfl (?_ : V X 65 [some (.ref a), some (.ref b)] [.int 5, .int 0, .ref (a + 2), .int 0, .ref (b + 2)] μ11)
  refine w_copy hX 5 mk_X7_37 hb.2.2 ha.2.2 (by decide) (by decide) (by decide) (Nat.le_of_ble_eq_true rfl) dX7_copyOf_65 (by decide) (by decide) (by decide) (by decide) (fun μ13 e14 => (?_ : V X 68 [some (.ref a), some (.ref b)] [] μ13))
  replace h := h μ13 e14
  exact v_vret hO dX7_copyOf_68 (hR _ h)
set_option maxRecDepth 20000 in
set_option maxHeartbeats 4000000 in
theorem vp_X7_copyOf_0 (a : Nat) (b : Nat) (ha : isSc a) (hb : isSc b) (μ : Mem) (hpre : pre_X7_copyOf a b μ) : vc_X7_copyOf_0 a b μ (post_X7_copyOf a b μ)  := by
  simp only [vc_X7_copyOf_0, and_imp, call_eq, forall_eq, forall_const, true_and, and_true]
  unfold pre_X7_copyOf at hpre
  have n1 : b ≠ a := by omega
  have n2 : b + 1 ≠ a := by omega
  have n3 : b + 2 ≠ a := by omega
  have n4 : b + 1 ≠ a + 1 := by omega
  have n5 : b + 2 ≠ a + 1 := by omega
  refine ⟨⟨fun c hc k => ?_, rfl⟩, fun k hk => ?_, fun j hj => ?_, fun j hj => ?_⟩
  · simp only [List.mem_cons, List.not_mem_nil, or_false, not_or] at hc
    simp [gi_ua, gi_ui, hc]
  · have e1 : a ≠ a + 1 := by omega
    have e2 : a ≠ a + 2 := by omega
    simp only [gi_ua, gi_ui, n1, e1, e2, if_false, false_and, true_and]
    match k, hk with
    | 0, _ => simp
    | 1, _ => simp
    | 2, _ => simp
    | 3, _ => simp
    | 4, _ => simp
  · have e1 : a + 1 ≠ a + 2 := by omega
    simp [gi_ua, gi_ui, va_cpy, hj, n2, e1]
  · simp [gi_ua, gi_ui, va_cpy, hj, n3, n5]
theorem sp_X7_copyOf : Sp yX7_copyOf cX7_copyOf 2 none 2 S_X7_copyOf := by
  refine sp_of (by decide) (fun av μ P h => ?_) ?_
  · obtain ⟨a, b, rfl, -⟩ := h
    refine ⟨Nat.le_of_ble_eq_true rfl, fun v hv => ?_⟩
    simp only [List.mem_cons, List.not_mem_nil, or_false] at hv
    rcases hv with rfl | rfl <;> rfl
  · rintro X P hO _ μ ⟨a, b, rfl, ha, hb, hpre, hpost⟩ hn
    exact wk_X7_copyOf_0 hO hn a b ha hb μ hpost (vp_X7_copyOf_0 a b ha hb μ hpre)
def S_X7_takeDoing : Tr := fun av μ P => ∃ (w : Nat) (p1 : Int32) (p2 : Int32), av = [.ref 17, .ref w, .int p1, .int p2] ∧ (w = 3 ∨ w = 10) ∧ pre_X7_takeDoing w p1 p2 μ ∧ ∀ m : Mem, post_X7_takeDoing w p1 p2 μ m → P none m
def vc_X7_takeDoing_0 (w : Nat) (p1 : Int32) (p2 : Int32)  (μ : Mem) (R : Mem → Prop)  : Prop :=
  vp_in p2 5 ∧ (∀ μ2, μ2 = ui μ 17 2 ((gi μ 17 2) + (gi μ (w + 5) (Int32.toNatClampNeg p2))) → vp_in p1 5 ∧ (pre_X2_fullLoss w p1 p2 μ2 ∧ ∀ (x5 : Int32) (μ6 : Mem), post_X2_fullLoss w p1 p2 μ2 x5 μ6 → vp_in p1 5 ∧ ((¬ (gi μ6 19 (Int32.toNatClampNeg p1)) = p2 → (pre_X8_lossOf x5 0 μ6 ∧ ∀ (x10 : Int32) (μ11 : Mem), post_X8_lossOf x5 0 μ6 x10 μ11 → vp_in p1 5 ∧ (∀ μ14, μ14 = ui μ11 18 (Int32.toNatClampNeg p1) ((gi μ2 18 (Int32.toNatClampNeg p1)) - x10) → vp_in p1 5 ∧ (∀ μ17, μ17 = ui μ14 19 (Int32.toNatClampNeg p1) p2 → vp_in p1 5 ∧ ((0 ≤ (gi μ17 18 (Int32.toNatClampNeg p1)) → R μ17) ∧ (¬ 0 ≤ (gi μ17 18 (Int32.toNatClampNeg p1)) → (∀ μ21, μ21 = ui μ17 17 3 ((gi μ17 17 3) ||| (1 <<< (p1 &&& 31))) → (∀ μ23, μ23 = ui μ21 17 0 ((-9)) → R μ23)))))))) ∧ ((gi μ6 19 (Int32.toNatClampNeg p1)) = p2 → (pre_X8_lossOf x5 1 μ6 ∧ ∀ (x25 : Int32) (μ26 : Mem), post_X8_lossOf x5 1 μ6 x25 μ26 → vp_in p1 5 ∧ (∀ μ29, μ29 = ui μ26 18 (Int32.toNatClampNeg p1) ((gi μ2 18 (Int32.toNatClampNeg p1)) - x25) → vp_in p1 5 ∧ (∀ μ32, μ32 = ui μ29 19 (Int32.toNatClampNeg p1) p2 → vp_in p1 5 ∧ ((0 ≤ (gi μ32 18 (Int32.toNatClampNeg p1)) → R μ32) ∧ (¬ 0 ≤ (gi μ32 18 (Int32.toNatClampNeg p1)) → (∀ μ36, μ36 = ui μ32 17 3 ((gi μ32 17 3) ||| (1 <<< (p1 &&& 31))) → (∀ μ38, μ38 = ui μ36 17 0 ((-9)) → R μ38)))))))))))
set_option maxRecDepth 20000 in
set_option maxHeartbeats 4000000 in
theorem wk_X7_takeDoing_0 {X : XT} {P : Post} (hO : OkM X cX7_takeDoing RX7 1 none P) (hn : xn X = 4) (w : Nat) (p1 : Int32) (p2 : Int32) (hw : w = 3 ∨ w = 10)  (μ : Mem) {R : Mem → Prop} (hR : ∀ m, R m → P none m)    (h : vc_X7_takeDoing_0 w p1 p2  μ R ) : V X 0 [some (.ref 17), some (.ref w), some (.int p1), some (.int p2)] [] μ := by
  have hX := hO.1
  unfold vc_X7_takeDoing_0 at h
  refine v_aload_n hX dX7_takeDoing_0 rfl (?_ : V X 1 [some (.ref 17), some (.ref w), some (.int p1), some (.int p2)] [.ref 17] μ)
  refine v_dup hX dX7_takeDoing_1 rfl (?_ : V X 2 [some (.ref 17), some (.ref w), some (.int p1), some (.int p2)] [.ref 17, .ref 17] μ)
  refine v_geti hX fk_X7_25 sh_17 rfl dX7_takeDoing_2 (?_ : V X 5 [some (.ref 17), some (.ref w), some (.int p1), some (.int p2)] [.int (gi μ 17 2), .ref 17] μ)
  refine v_aload_n hX dX7_takeDoing_5 rfl (?_ : V X 6 [some (.ref 17), some (.ref w), some (.int p1), some (.int p2)] [.ref w, .int (gi μ 17 2), .ref 17] μ)
  refine v_getr hX (w + 5) fk_X7_59 (sHo hw) rfl rfl dX7_takeDoing_6 (?_ : V X 9 [some (.ref 17), some (.ref w), some (.int p1), some (.int p2)] [.ref (w + 5), .int (gi μ 17 2), .ref 17] μ)
  refine v_iload_n hX dX7_takeDoing_9 rfl (?_ : V X 10 [some (.ref 17), some (.ref w), some (.int p1), some (.int p2)] [.int p2, .ref (w + 5), .int (gi μ 17 2), .ref 17] μ)
  have hb1 := h.1
  replace h := h.2
  refine w_iald hX (Int32.toNatClampNeg p2) (sH5 hw) hb1 rfl dX7_takeDoing_10 (?_ : V X 11 [some (.ref 17), some (.ref w), some (.int p1), some (.int p2)] [.int (gi μ (w + 5) (Int32.toNatClampNeg p2)), .int (gi μ 17 2), .ref 17] μ)
  refine v_iadd hX dX7_takeDoing_11 (?_ : V X 12 [some (.ref 17), some (.ref w), some (.int p1), some (.int p2)] [.int ((gi μ 17 2) + (gi μ (w + 5) (Int32.toNatClampNeg p2))), .ref 17] μ)
  refine w_puti hX fk_X7_25 fw_7_2 sh_17 rfl dX7_takeDoing_12 (fun μ2 e3 => (?_ : V X 15 [some (.ref 17), some (.ref w), some (.int p1), some (.int p2)] [] μ2))
  replace h := h μ2 e3
  refine v_aload_n hX dX7_takeDoing_15 rfl (?_ : V X 16 [some (.ref 17), some (.ref w), some (.int p1), some (.int p2)] [.ref 17] μ2)
  refine v_getr hX (18) fk_X7_9 sh_17 rfl rfl dX7_takeDoing_16 (?_ : V X 19 [some (.ref 17), some (.ref w), some (.int p1), some (.int p2)] [.ref 18] μ2)
  refine v_iload_n hX dX7_takeDoing_19 rfl (?_ : V X 20 [some (.ref 17), some (.ref w), some (.int p1), some (.int p2)] [.int p1, .ref 18] μ2)
  refine v_dup2 hX dX7_takeDoing_20 rfl rfl (?_ : V X 21 [some (.ref 17), some (.ref w), some (.int p1), some (.int p2)] [.int p1, .ref 18, .int p1, .ref 18] μ2)
  have hb4 := h.1
  replace h := h.2
  refine w_iald hX (Int32.toNatClampNeg p1) sh_18 hb4 rfl dX7_takeDoing_21 (?_ : V X 22 [some (.ref 17), some (.ref w), some (.int p1), some (.int p2)] [.int (gi μ2 18 (Int32.toNatClampNeg p1)), .int p1, .ref 18] μ2)
  refine v_aload_n hX dX7_takeDoing_22 rfl (?_ : V X 23 [some (.ref 17), some (.ref w), some (.int p1), some (.int p2)] [.ref w, .int (gi μ2 18 (Int32.toNatClampNeg p1)), .int p1, .ref 18] μ2)
  refine v_iload_n hX dX7_takeDoing_23 rfl (?_ : V X 24 [some (.ref 17), some (.ref w), some (.int p1), some (.int p2)] [.int p1, .ref w, .int (gi μ2 18 (Int32.toNatClampNeg p1)), .int p1, .ref 18] μ2)
  refine v_iload_n hX dX7_takeDoing_24 rfl (?_ : V X 25 [some (.ref 17), some (.ref w), some (.int p1), some (.int p2)] [.int p2, .int p1, .ref w, .int (gi μ2 18 (Int32.toNatClampNeg p1)), .int p1, .ref 18] μ2)
  refine v_callV hX sp_X2_fullLoss ck_X2_fullLoss mk_X7_62 mv_X2_fullLoss (sHo hw) (by decide) (by decide) [.int p1, .int p2] [.int (gi μ2 18 (Int32.toNatClampNeg p1)), .int p1, .ref 18] rfl rfl (Nat.le_of_ble_eq_true rfl) dX7_takeDoing_25 ⟨w, p1, p2, rfl, hw, h.1, fun x5 μ6 hp7 => (?_ : V X 28 [some (.ref 17), some (.ref w), some (.int p1), some (.int p2)] [.int x5, .int (gi μ2 18 (Int32.toNatClampNeg p1)), .int p1, .ref 18] μ6)⟩
  replace h := h.2 x5 μ6 hp7
  refine v_aload_n hX dX7_takeDoing_28 rfl (?_ : V X 29 [some (.ref 17), some (.ref w), some (.int p1), some (.int p2)] [.ref 17, .int x5, .int (gi μ2 18 (Int32.toNatClampNeg p1)), .int p1, .ref 18] μ6)
  refine v_getr hX (19) fk_X7_15 sh_17 rfl rfl dX7_takeDoing_29 (?_ : V X 32 [some (.ref 17), some (.ref w), some (.int p1), some (.int p2)] [.ref 19, .int x5, .int (gi μ2 18 (Int32.toNatClampNeg p1)), .int p1, .ref 18] μ6)
  refine v_iload_n hX dX7_takeDoing_32 rfl (?_ : V X 33 [some (.ref 17), some (.ref w), some (.int p1), some (.int p2)] [.int p1, .ref 19, .int x5, .int (gi μ2 18 (Int32.toNatClampNeg p1)), .int p1, .ref 18] μ6)
  have hb8 := h.1
  replace h := h.2
  refine w_iald hX (Int32.toNatClampNeg p1) sh_19 hb8 rfl dX7_takeDoing_33 (?_ : V X 34 [some (.ref 17), some (.ref w), some (.int p1), some (.int p2)] [.int (gi μ6 19 (Int32.toNatClampNeg p1)), .int x5, .int (gi μ2 18 (Int32.toNatClampNeg p1)), .int p1, .ref 18] μ6)
  refine v_iload_n hX dX7_takeDoing_34 rfl (?_ : V X 35 [some (.ref 17), some (.ref w), some (.int p1), some (.int p2)] [.int p2, .int (gi μ6 19 (Int32.toNatClampNeg p1)), .int x5, .int (gi μ2 18 (Int32.toNatClampNeg p1)), .int p1, .ref 18] μ6)
  refine v_icmp_ne hX 42 dX7_takeDoing_35 rfl (fun c9 => ?_) (fun c9 => ?_)
  · replace h := h.1 c9
    refine v_iconst hX 0 dX7_takeDoing_42 rfl (?_ : V X 43 [some (.ref 17), some (.ref w), some (.int p1), some (.int p2)] [.int 0, .int x5, .int (gi μ2 18 (Int32.toNatClampNeg p1)), .int p1, .ref 18] μ6)
    refine v_callN hX sp_X8_lossOf ck_X8_lossOf hX.2.2.2.2.2.1.2.2.2.2.2.1 (mtb 1 (by decide +kernel) (by decide +kernel)) sk_X8_lossOf lossMd (by decide) [.int x5, .int 0] [.int (gi μ2 18 (Int32.toNatClampNeg p1)), .int p1, .ref 18] rfl rfl (Nat.le_of_ble_eq_true rfl) dX7_takeDoing_43 ⟨x5, 0, rfl, h.1, fun x10 μ11 hp12 => (?_ : V X 46 [some (.ref 17), some (.ref w), some (.int p1), some (.int p2)] [.int x10, .int (gi μ2 18 (Int32.toNatClampNeg p1)), .int p1, .ref 18] μ11)⟩
    replace h := h.2 x10 μ11 hp12
    refine v_isub hX dX7_takeDoing_46 (?_ : V X 47 [some (.ref 17), some (.ref w), some (.int p1), some (.int p2)] [.int ((gi μ2 18 (Int32.toNatClampNeg p1)) - x10), .int p1, .ref 18] μ11)
    have hb13 := h.1
    replace h := h.2
    refine w_iast hX (Int32.toNatClampNeg p1) sh_18 hb13 rfl dX7_takeDoing_47 (fun μ14 e15 => (?_ : V X 48 [some (.ref 17), some (.ref w), some (.int p1), some (.int p2)] [] μ14))
    replace h := h μ14 e15
    refine v_aload_n hX dX7_takeDoing_48 rfl (?_ : V X 49 [some (.ref 17), some (.ref w), some (.int p1), some (.int p2)] [.ref 17] μ14)
    refine v_getr hX (19) fk_X7_15 sh_17 rfl rfl dX7_takeDoing_49 (?_ : V X 52 [some (.ref 17), some (.ref w), some (.int p1), some (.int p2)] [.ref 19] μ14)
    refine v_iload_n hX dX7_takeDoing_52 rfl (?_ : V X 53 [some (.ref 17), some (.ref w), some (.int p1), some (.int p2)] [.int p1, .ref 19] μ14)
    refine v_iload_n hX dX7_takeDoing_53 rfl (?_ : V X 54 [some (.ref 17), some (.ref w), some (.int p1), some (.int p2)] [.int p2, .int p1, .ref 19] μ14)
    have hb16 := h.1
    replace h := h.2
    refine w_iast hX (Int32.toNatClampNeg p1) sh_19 hb16 rfl dX7_takeDoing_54 (fun μ17 e18 => (?_ : V X 55 [some (.ref 17), some (.ref w), some (.int p1), some (.int p2)] [] μ17))
    replace h := h μ17 e18
    refine v_aload_n hX dX7_takeDoing_55 rfl (?_ : V X 56 [some (.ref 17), some (.ref w), some (.int p1), some (.int p2)] [.ref 17] μ17)
    refine v_getr hX (18) fk_X7_9 sh_17 rfl rfl dX7_takeDoing_56 (?_ : V X 59 [some (.ref 17), some (.ref w), some (.int p1), some (.int p2)] [.ref 18] μ17)
    refine v_iload_n hX dX7_takeDoing_59 rfl (?_ : V X 60 [some (.ref 17), some (.ref w), some (.int p1), some (.int p2)] [.int p1, .ref 18] μ17)
    have hb19 := h.1
    replace h := h.2
    refine w_iald hX (Int32.toNatClampNeg p1) sh_18 hb19 rfl dX7_takeDoing_60 (?_ : V X 61 [some (.ref 17), some (.ref w), some (.int p1), some (.int p2)] [.int (gi μ17 18 (Int32.toNatClampNeg p1))] μ17)
    refine v_if_ge hX 82 dX7_takeDoing_61 rfl (fun c20 => ?_) (fun c20 => ?_)
    · replace h := h.1 c20
      exact v_vret hO dX7_takeDoing_82 (hR _ h)
    · replace h := h.2 c20
      refine v_aload_n hX dX7_takeDoing_64 rfl (?_ : V X 65 [some (.ref 17), some (.ref w), some (.int p1), some (.int p2)] [.ref 17] μ17)
      refine v_dup hX dX7_takeDoing_65 rfl (?_ : V X 66 [some (.ref 17), some (.ref w), some (.int p1), some (.int p2)] [.ref 17, .ref 17] μ17)
      refine v_geti hX fk_X7_28 sh_17 rfl dX7_takeDoing_66 (?_ : V X 69 [some (.ref 17), some (.ref w), some (.int p1), some (.int p2)] [.int (gi μ17 17 3), .ref 17] μ17)
      refine v_iconst hX 1 dX7_takeDoing_69 rfl (?_ : V X 70 [some (.ref 17), some (.ref w), some (.int p1), some (.int p2)] [.int 1, .int (gi μ17 17 3), .ref 17] μ17)
      refine v_iload_n hX dX7_takeDoing_70 rfl (?_ : V X 71 [some (.ref 17), some (.ref w), some (.int p1), some (.int p2)] [.int p1, .int 1, .int (gi μ17 17 3), .ref 17] μ17)
      refine v_ishl hX dX7_takeDoing_71 (?_ : V X 72 [some (.ref 17), some (.ref w), some (.int p1), some (.int p2)] [.int (1 <<< (p1 &&& 31)), .int (gi μ17 17 3), .ref 17] μ17)
      refine v_ior hX dX7_takeDoing_72 (?_ : V X 73 [some (.ref 17), some (.ref w), some (.int p1), some (.int p2)] [.int ((gi μ17 17 3) ||| (1 <<< (p1 &&& 31))), .ref 17] μ17)
      refine w_puti hX fk_X7_28 fw_7_3 sh_17 rfl dX7_takeDoing_73 (fun μ21 e22 => (?_ : V X 76 [some (.ref 17), some (.ref w), some (.int p1), some (.int p2)] [] μ21))
      replace h := h μ21 e22
      refine v_aload_n hX dX7_takeDoing_76 rfl (?_ : V X 77 [some (.ref 17), some (.ref w), some (.int p1), some (.int p2)] [.ref 17] μ21)
      refine v_bipush hX (-9) dX7_takeDoing_77 rfl (?_ : V X 79 [some (.ref 17), some (.ref w), some (.int p1), some (.int p2)] [.int ((-9)), .ref 17] μ21)
      refine w_puti hX fk_X7_18 fw_7_0 sh_17 rfl dX7_takeDoing_79 (fun μ23 e24 => (?_ : V X 82 [some (.ref 17), some (.ref w), some (.int p1), some (.int p2)] [] μ23))
      replace h := h μ23 e24
      exact v_vret hO dX7_takeDoing_82 (hR _ h)
  · replace h := h.2 c9
    refine v_iconst hX 1 dX7_takeDoing_38 rfl (?_ : V X 39 [some (.ref 17), some (.ref w), some (.int p1), some (.int p2)] [.int 1, .int x5, .int (gi μ2 18 (Int32.toNatClampNeg p1)), .int p1, .ref 18] μ6)
    refine v_goto hX 43 dX7_takeDoing_39 rfl (?_ : V X 43 [some (.ref 17), some (.ref w), some (.int p1), some (.int p2)] [.int 1, .int x5, .int (gi μ2 18 (Int32.toNatClampNeg p1)), .int p1, .ref 18] μ6)
    refine v_callN hX sp_X8_lossOf ck_X8_lossOf hX.2.2.2.2.2.1.2.2.2.2.2.1 (mtb 1 (by decide +kernel) (by decide +kernel)) sk_X8_lossOf lossMd (by decide) [.int x5, .int 1] [.int (gi μ2 18 (Int32.toNatClampNeg p1)), .int p1, .ref 18] rfl rfl (Nat.le_of_ble_eq_true rfl) dX7_takeDoing_43 ⟨x5, 1, rfl, h.1, fun x25 μ26 hp27 => (?_ : V X 46 [some (.ref 17), some (.ref w), some (.int p1), some (.int p2)] [.int x25, .int (gi μ2 18 (Int32.toNatClampNeg p1)), .int p1, .ref 18] μ26)⟩
    replace h := h.2 x25 μ26 hp27
    refine v_isub hX dX7_takeDoing_46 (?_ : V X 47 [some (.ref 17), some (.ref w), some (.int p1), some (.int p2)] [.int ((gi μ2 18 (Int32.toNatClampNeg p1)) - x25), .int p1, .ref 18] μ26)
    have hb28 := h.1
    replace h := h.2
    refine w_iast hX (Int32.toNatClampNeg p1) sh_18 hb28 rfl dX7_takeDoing_47 (fun μ29 e30 => (?_ : V X 48 [some (.ref 17), some (.ref w), some (.int p1), some (.int p2)] [] μ29))
    replace h := h μ29 e30
    refine v_aload_n hX dX7_takeDoing_48 rfl (?_ : V X 49 [some (.ref 17), some (.ref w), some (.int p1), some (.int p2)] [.ref 17] μ29)
    refine v_getr hX (19) fk_X7_15 sh_17 rfl rfl dX7_takeDoing_49 (?_ : V X 52 [some (.ref 17), some (.ref w), some (.int p1), some (.int p2)] [.ref 19] μ29)
    refine v_iload_n hX dX7_takeDoing_52 rfl (?_ : V X 53 [some (.ref 17), some (.ref w), some (.int p1), some (.int p2)] [.int p1, .ref 19] μ29)
    refine v_iload_n hX dX7_takeDoing_53 rfl (?_ : V X 54 [some (.ref 17), some (.ref w), some (.int p1), some (.int p2)] [.int p2, .int p1, .ref 19] μ29)
    have hb31 := h.1
    replace h := h.2
    refine w_iast hX (Int32.toNatClampNeg p1) sh_19 hb31 rfl dX7_takeDoing_54 (fun μ32 e33 => (?_ : V X 55 [some (.ref 17), some (.ref w), some (.int p1), some (.int p2)] [] μ32))
    replace h := h μ32 e33
    refine v_aload_n hX dX7_takeDoing_55 rfl (?_ : V X 56 [some (.ref 17), some (.ref w), some (.int p1), some (.int p2)] [.ref 17] μ32)
    refine v_getr hX (18) fk_X7_9 sh_17 rfl rfl dX7_takeDoing_56 (?_ : V X 59 [some (.ref 17), some (.ref w), some (.int p1), some (.int p2)] [.ref 18] μ32)
    refine v_iload_n hX dX7_takeDoing_59 rfl (?_ : V X 60 [some (.ref 17), some (.ref w), some (.int p1), some (.int p2)] [.int p1, .ref 18] μ32)
    have hb34 := h.1
    replace h := h.2
    refine w_iald hX (Int32.toNatClampNeg p1) sh_18 hb34 rfl dX7_takeDoing_60 (?_ : V X 61 [some (.ref 17), some (.ref w), some (.int p1), some (.int p2)] [.int (gi μ32 18 (Int32.toNatClampNeg p1))] μ32)
    refine v_if_ge hX 82 dX7_takeDoing_61 rfl (fun c35 => ?_) (fun c35 => ?_)
    · replace h := h.1 c35
      exact v_vret hO dX7_takeDoing_82 (hR _ h)
    · replace h := h.2 c35
      refine v_aload_n hX dX7_takeDoing_64 rfl (?_ : V X 65 [some (.ref 17), some (.ref w), some (.int p1), some (.int p2)] [.ref 17] μ32)
      refine v_dup hX dX7_takeDoing_65 rfl (?_ : V X 66 [some (.ref 17), some (.ref w), some (.int p1), some (.int p2)] [.ref 17, .ref 17] μ32)
      refine v_geti hX fk_X7_28 sh_17 rfl dX7_takeDoing_66 (?_ : V X 69 [some (.ref 17), some (.ref w), some (.int p1), some (.int p2)] [.int (gi μ32 17 3), .ref 17] μ32)
      refine v_iconst hX 1 dX7_takeDoing_69 rfl (?_ : V X 70 [some (.ref 17), some (.ref w), some (.int p1), some (.int p2)] [.int 1, .int (gi μ32 17 3), .ref 17] μ32)
      refine v_iload_n hX dX7_takeDoing_70 rfl (?_ : V X 71 [some (.ref 17), some (.ref w), some (.int p1), some (.int p2)] [.int p1, .int 1, .int (gi μ32 17 3), .ref 17] μ32)
      refine v_ishl hX dX7_takeDoing_71 (?_ : V X 72 [some (.ref 17), some (.ref w), some (.int p1), some (.int p2)] [.int (1 <<< (p1 &&& 31)), .int (gi μ32 17 3), .ref 17] μ32)
      refine v_ior hX dX7_takeDoing_72 (?_ : V X 73 [some (.ref 17), some (.ref w), some (.int p1), some (.int p2)] [.int ((gi μ32 17 3) ||| (1 <<< (p1 &&& 31))), .ref 17] μ32)
      refine w_puti hX fk_X7_28 fw_7_3 sh_17 rfl dX7_takeDoing_73 (fun μ36 e37 => (?_ : V X 76 [some (.ref 17), some (.ref w), some (.int p1), some (.int p2)] [] μ36))
      replace h := h μ36 e37
      refine v_aload_n hX dX7_takeDoing_76 rfl (?_ : V X 77 [some (.ref 17), some (.ref w), some (.int p1), some (.int p2)] [.ref 17] μ36)
      refine v_bipush hX (-9) dX7_takeDoing_77 rfl (?_ : V X 79 [some (.ref 17), some (.ref w), some (.int p1), some (.int p2)] [.int ((-9)), .ref 17] μ36)
      refine w_puti hX fk_X7_18 fw_7_0 sh_17 rfl dX7_takeDoing_79 (fun μ38 e39 => (?_ : V X 82 [some (.ref 17), some (.ref w), some (.int p1), some (.int p2)] [] μ38))
      replace h := h μ38 e39
      exact v_vret hO dX7_takeDoing_82 (hR _ h)
set_option maxRecDepth 20000 in
set_option maxHeartbeats 4000000 in
theorem vp_X7_takeDoing_0 (w : Nat) (p1 : Int32) (p2 : Int32) (hw : w = 3 ∨ w = 10) (μ : Mem) (hpre : pre_X7_takeDoing w p1 p2 μ) : vc_X7_takeDoing_0 w p1 p2 μ (post_X7_takeDoing w p1 p2 μ)  := by
  unfold vc_X7_takeDoing_0
  unfold pre_X7_takeDoing at hpre
  obtain ⟨h1, h2⟩ := hpre
  have w4 : w + 4 ≠ 17 := by omega
  have w2 : w + 2 ≠ 17 := by omega
  have w5 : w + 5 ≠ 17 := by omega
  have hu := tk_end (w := w) (p1 := p1) (p2 := p2) μ
  refine ⟨h2, ?_⟩
  intro μ2 e2
  refine ⟨h1, ⟨h1, h2⟩, ?_⟩
  rintro x5 μ6 ⟨hx5, rfl⟩
  have e1 : gi μ6 (w + 4) p2.toNatClampNeg = gi μ (w + 4) p2.toNatClampNeg := by simp [e2, gi_ui, w4]
  have e5 : gi μ6 (w + 2) p1.toNatClampNeg = gi μ (w + 2) p1.toNatClampNeg := by simp [e2, gi_ui, w2]
  have e3 : gi μ6 19 p1.toNatClampNeg = gi μ 19 p1.toNatClampNeg := by simp [e2, gi_ui]
  have e4 : gi μ6 18 p1.toNatClampNeg = gi μ 18 p1.toNatClampNeg := by simp [e2, gi_ui]
  rw [e1, e5] at hx5
  rw [e3, e4]
  refine ⟨h1, fun c => ⟨trivial, ?_⟩, fun c => ⟨trivial, ?_⟩⟩
  · rintro x10 μ11 ⟨hx10, rfl⟩
    refine ⟨h1, ?_⟩
    intro μ14 e14
    refine ⟨h1, ?_⟩
    intro μ17 e17
    rw [if_pos rfl, hx5] at hx10
    have q := hu x10 μ17 (by rw [hx10]; unfold lossC; rw [if_neg c]) (by rw [e17, e14, e2])
    exact ⟨h1, q.1, fun c2 => by rintro _ rfl _ rfl; exact q.2 c2⟩
  · rintro x10 μ11 ⟨hx10, rfl⟩
    refine ⟨h1, ?_⟩
    intro μ14 e14
    refine ⟨h1, ?_⟩
    intro μ17 e17
    rw [if_neg (by decide), hx5] at hx10
    have q := hu x10 μ17 (by rw [hx10]; unfold lossC; rw [if_pos c]) (by rw [e17, e14, e2])
    exact ⟨h1, q.1, fun c2 => by rintro _ rfl _ rfl; exact q.2 c2⟩
theorem sp_X7_takeDoing : Sp yX7_takeDoing cX7_takeDoing 4 none 1 S_X7_takeDoing := by
  refine sp_of (by decide) (fun av μ P h => ?_) ?_
  · obtain ⟨w, p1, p2, rfl, -⟩ := h
    refine ⟨Nat.le_of_ble_eq_true rfl, fun v hv => ?_⟩
    simp only [List.mem_cons, List.not_mem_nil, or_false] at hv
    rcases hv with rfl | rfl | rfl | rfl <;> rfl
  · rintro X P hO _ μ ⟨w, p1, p2, rfl, hw, hpre, hpost⟩ hn
    exact wk_X7_takeDoing_0 hO hn w p1 p2 hw μ hpost (vp_X7_takeDoing_0 w p1 p2 hw μ hpre)
def S_X5_remember : Tr := fun av μ P => av = [.ref 20, .ref 17] ∧ pre_X5_remember  μ ∧ ∀ m : Mem, post_X5_remember  μ m → P none m
def vc_X5_remember_0   (μ : Mem) (R : Mem → Prop)  : Prop :=
  vp_in (gi μ 20 1) 10 ∧ (pre_X7_copyOf (21 + 1 + 3 * (Int32.toNatClampNeg (gi μ 20 1))) 17 μ ∧ ∀ (μ3 : Mem), post_X7_copyOf (21 + 1 + 3 * (Int32.toNatClampNeg (gi μ 20 1))) 17 μ μ3 → (∀ μ5, μ5 = ui μ3 20 1 (((gi μ3 20 1) + 1) - ((gi μ3 20 1) + 1) / 10 * 10) → (∀ μ7, μ7 = ui μ5 20 2 (if 10 < ((gi μ5 20 2) + 1) then 10 else ((gi μ5 20 2) + 1)) → R μ7)))
set_option maxRecDepth 20000 in
set_option maxHeartbeats 4000000 in
theorem wk_X5_remember_0 {X : XT} {P : Post} (hO : OkM X cX5_remember RX5 3 none P) (hn : xn X = 2)    (μ : Mem) {R : Mem → Prop} (hR : ∀ m, R m → P none m)    (h : vc_X5_remember_0   μ R ) : V X 0 [some (.ref 20), some (.ref 17)] [] μ := by
  have hX := hO.1
  unfold vc_X5_remember_0 at h
  refine v_aload_n hX dX5_remember_0 rfl (?_ : V X 1 [some (.ref 20), some (.ref 17)] [.ref 20] μ)
  refine v_getr hX (21) fk_X5_11 sh_20 rfl rfl dX5_remember_1 (?_ : V X 4 [some (.ref 20), some (.ref 17)] [.ref 21] μ)
  refine v_aload_n hX dX5_remember_4 rfl (?_ : V X 5 [some (.ref 20), some (.ref 17)] [.ref 20, .ref 21] μ)
  refine v_geti hX fk_X5_18 sh_20 rfl dX5_remember_5 (?_ : V X 8 [some (.ref 20), some (.ref 17)] [.int (gi μ 20 1), .ref 21] μ)
  have hb1 := h.1
  replace h := h.2
  refine v_aald hX sh_21 hb1 dX5_remember_8 (?_ : V X 9 [some (.ref 20), some (.ref 17)] [.ref (21 + 1 + 3 * (Int32.toNatClampNeg (gi μ 20 1)))] μ)
  refine v_aload_n hX dX5_remember_9 rfl (?_ : V X 10 [some (.ref 20), some (.ref 17)] [.ref 17, .ref (21 + 1 + 3 * (Int32.toNatClampNeg (gi μ 20 1)))] μ)
  refine v_callV hX sp_X7_copyOf ck_X7_copyOf mk_X5_25 mv_X7_copyOf (sc_past hb1).1 (by decide) (by decide) [.ref 17] [] rfl rfl (Nat.le_of_ble_eq_true rfl) dX5_remember_10 ⟨(21 + 1 + 3 * (Int32.toNatClampNeg (gi μ 20 1))), 17, rfl, (sc_past hb1), sc_17, h.1, fun μ3 hp4 => (?_ : V X 13 [some (.ref 20), some (.ref 17)] [] μ3)⟩
  replace h := h.2 μ3 hp4
  refine v_aload_n hX dX5_remember_13 rfl (?_ : V X 14 [some (.ref 20), some (.ref 17)] [.ref 20] μ3)
  refine v_aload_n hX dX5_remember_14 rfl (?_ : V X 15 [some (.ref 20), some (.ref 17)] [.ref 20, .ref 20] μ3)
  refine v_geti hX fk_X5_18 sh_20 rfl dX5_remember_15 (?_ : V X 18 [some (.ref 20), some (.ref 17)] [.int (gi μ3 20 1), .ref 20] μ3)
  refine v_iconst hX 1 dX5_remember_18 rfl (?_ : V X 19 [some (.ref 20), some (.ref 17)] [.int 1, .int (gi μ3 20 1), .ref 20] μ3)
  refine v_iadd hX dX5_remember_19 (?_ : V X 20 [some (.ref 20), some (.ref 17)] [.int ((gi μ3 20 1) + 1), .ref 20] μ3)
  refine v_bipush hX 10 dX5_remember_20 rfl (?_ : V X 22 [some (.ref 20), some (.ref 17)] [.int 10, .int ((gi μ3 20 1) + 1), .ref 20] μ3)
  refine v_irem hX dX5_remember_22 (by decide) (?_ : V X 23 [some (.ref 20), some (.ref 17)] [.int (((gi μ3 20 1) + 1) - ((gi μ3 20 1) + 1) / 10 * 10), .ref 20] μ3)
  refine w_puti hX fk_X5_18 fw_5_1 sh_20 rfl dX5_remember_23 (fun μ5 e6 => (?_ : V X 26 [some (.ref 20), some (.ref 17)] [] μ5))
  replace h := h μ5 e6
  refine v_aload_n hX dX5_remember_26 rfl (?_ : V X 27 [some (.ref 20), some (.ref 17)] [.ref 20] μ5)
  refine v_aload_n hX dX5_remember_27 rfl (?_ : V X 28 [some (.ref 20), some (.ref 17)] [.ref 20, .ref 20] μ5)
  refine v_geti hX fk_X5_22 sh_20 rfl dX5_remember_28 (?_ : V X 31 [some (.ref 20), some (.ref 17)] [.int (gi μ5 20 2), .ref 20] μ5)
  refine v_iconst hX 1 dX5_remember_31 rfl (?_ : V X 32 [some (.ref 20), some (.ref 17)] [.int 1, .int (gi μ5 20 2), .ref 20] μ5)
  refine v_iadd hX dX5_remember_32 (?_ : V X 33 [some (.ref 20), some (.ref 17)] [.int ((gi μ5 20 2) + 1), .ref 20] μ5)
  refine v_bipush hX 10 dX5_remember_33 rfl (?_ : V X 35 [some (.ref 20), some (.ref 17)] [.int 10, .int ((gi μ5 20 2) + 1), .ref 20] μ5)
  refine v_mmin hX mk_X5_29 twMin (by decide) (Nat.le_of_ble_eq_true rfl) dX5_remember_35 (?_ : V X 38 [some (.ref 20), some (.ref 17)] [.int (if 10 < ((gi μ5 20 2) + 1) then 10 else ((gi μ5 20 2) + 1)), .ref 20] μ5)
  refine w_puti hX fk_X5_22 fw_5_2 sh_20 rfl dX5_remember_38 (fun μ7 e8 => (?_ : V X 41 [some (.ref 20), some (.ref 17)] [] μ7))
  replace h := h μ7 e8
  exact v_vret hO dX5_remember_41 (hR _ h)
set_option maxRecDepth 20000 in
set_option maxHeartbeats 4000000 in
theorem vp_X5_remember_0   (μ : Mem) (hpre : pre_X5_remember  μ) : vc_X5_remember_0  μ (post_X5_remember  μ)  := by
  unfold vc_X5_remember_0
  obtain ⟨⟨h1, h1b⟩, h2, h2b⟩ := hpre
  have ht : (gi μ 20 1).toNatClampNeg = gn μ 20 1 := rfl
  rw [ht]
  refine ⟨by rw [h1]; exact vp_in_nI (by omega) (by omega), by unfold pre_X7_copyOf; omega, fun m hp => ?_⟩
  obtain ⟨⟨hf1, hf2⟩, hc⟩ := hp
  have e22 : 21 + 1 + 3 * gn μ 20 1 = 22 + 3 * gn μ 20 1 := rfl
  rw [e22] at hf1 hc
  have hk : ∀ k, gi m 20 k = gi μ 20 k := fun k => hf1 20 (by simp; omega) k
  rintro _ rfl _ rfl
  have d1 : 22 + 3 * gn μ 20 1 ≠ 20 := by omega
  have d2 : 22 + 3 * gn μ 20 1 + 1 ≠ 20 := by omega
  have d3 : 22 + 3 * gn μ 20 1 + 2 ≠ 20 := by omega
  refine ⟨⟨fun c hq k => ?_, hf2⟩, ⟨fun k hk => ?_, fun j hj => ?_, fun j hj => ?_⟩, ?_, ?_⟩
  · simp only [List.mem_cons, List.not_mem_nil, or_false, not_or] at hq
    rw [← hf1 c (by simp [hq])]
    simp [gi_ui, hq]
  · rw [← hc.1 k hk]; simp [gi_ui, d1]
  · rw [← hc.2.1 j hj]; simp [gi_ui, d2]
  · rw [← hc.2.2 j hj]; simp [gi_ui, d3]
  · simp only [gi_ui, hk]
    simp only [h1, Nat.reduceEqDiff, and_false, if_false, and_self, if_true]
    have e10 : (10 : Int32) = nI 10 := rfl
    rw [e10, nI_1, pk_rem (by omega) (by omega) (by omega)]
  · simp only [gi_ui, hk]
    simp only [h2, Nat.reduceEqDiff, and_false, if_false, and_self, if_true]
    have e10 : (10 : Int32) = nI 10 := rfl
    rw [e10, nI_1]
    split
    · rename_i hlt
      have := (nI_ltI (by omega) (by omega)).mp hlt
      rw [Nat.min_eq_right (by omega)]
    · rename_i hlt
      have : ¬ 10 < gn μ 20 2 + 1 := fun q => hlt ((nI_ltI (by omega) (by omega)).mpr q)
      rw [Nat.min_eq_left (by omega)]
theorem sp_X5_remember : Sp yX5_remember cX5_remember 2 none 3 S_X5_remember := by
  refine sp_of (by decide) (fun av μ P h => ?_) ?_
  · obtain ⟨rfl, -⟩ := h
    refine ⟨Nat.le_of_ble_eq_true rfl, fun v hv => ?_⟩
    simp only [List.mem_cons, List.not_mem_nil, or_false] at hv
    rcases hv with rfl | rfl <;> rfl
  · rintro X P hO _ μ ⟨rfl, hpre, hpost⟩ hn
    exact wk_X5_remember_0 hO hn   μ hpost (vp_X5_remember_0   μ hpre)
def S_X5_restore : Tr := fun av μ P => av = [.ref 20, .ref 17] ∧ pre_X5_restore  μ ∧ ∀ m : Mem, post_X5_restore  μ m → P none m
def vc_X5_restore_0   (μ : Mem) (R : Mem → Prop)  : Prop :=
  (∀ μ1, μ1 = ui μ 20 1 ((((gi μ 20 1) + 10) - 1) - (((gi μ 20 1) + 10) - 1) / 10 * 10) → vp_in (gi μ1 20 1) 10 ∧ (pre_X7_copyOf 17 (21 + 1 + 3 * (Int32.toNatClampNeg (gi μ1 20 1))) μ1 ∧ ∀ (μ5 : Mem), post_X7_copyOf 17 (21 + 1 + 3 * (Int32.toNatClampNeg (gi μ1 20 1))) μ1 μ5 → (∀ μ7, μ7 = ui μ5 20 2 ((gi μ5 20 2) - 1) → R μ7)))
set_option maxRecDepth 20000 in
set_option maxHeartbeats 4000000 in
theorem wk_X5_restore_0 {X : XT} {P : Post} (hO : OkM X cX5_restore RX5 3 none P) (hn : xn X = 2)    (μ : Mem) {R : Mem → Prop} (hR : ∀ m, R m → P none m)    (h : vc_X5_restore_0   μ R ) : V X 0 [some (.ref 20), some (.ref 17)] [] μ := by
  have hX := hO.1
  unfold vc_X5_restore_0 at h
  refine v_aload_n hX dX5_restore_0 rfl (?_ : V X 1 [some (.ref 20), some (.ref 17)] [.ref 20] μ)
  refine v_aload_n hX dX5_restore_1 rfl (?_ : V X 2 [some (.ref 20), some (.ref 17)] [.ref 20, .ref 20] μ)
  refine v_geti hX fk_X5_18 sh_20 rfl dX5_restore_2 (?_ : V X 5 [some (.ref 20), some (.ref 17)] [.int (gi μ 20 1), .ref 20] μ)
  refine v_bipush hX 10 dX5_restore_5 rfl (?_ : V X 7 [some (.ref 20), some (.ref 17)] [.int 10, .int (gi μ 20 1), .ref 20] μ)
  refine v_iadd hX dX5_restore_7 (?_ : V X 8 [some (.ref 20), some (.ref 17)] [.int ((gi μ 20 1) + 10), .ref 20] μ)
  refine v_iconst hX 1 dX5_restore_8 rfl (?_ : V X 9 [some (.ref 20), some (.ref 17)] [.int 1, .int ((gi μ 20 1) + 10), .ref 20] μ)
  refine v_isub hX dX5_restore_9 (?_ : V X 10 [some (.ref 20), some (.ref 17)] [.int (((gi μ 20 1) + 10) - 1), .ref 20] μ)
  refine v_bipush hX 10 dX5_restore_10 rfl (?_ : V X 12 [some (.ref 20), some (.ref 17)] [.int 10, .int (((gi μ 20 1) + 10) - 1), .ref 20] μ)
  refine v_irem hX dX5_restore_12 (by decide) (?_ : V X 13 [some (.ref 20), some (.ref 17)] [.int ((((gi μ 20 1) + 10) - 1) - (((gi μ 20 1) + 10) - 1) / 10 * 10), .ref 20] μ)
  refine w_puti hX fk_X5_18 fw_5_1 sh_20 rfl dX5_restore_13 (fun μ1 e2 => (?_ : V X 16 [some (.ref 20), some (.ref 17)] [] μ1))
  replace h := h μ1 e2
  refine v_aload_n hX dX5_restore_16 rfl (?_ : V X 17 [some (.ref 20), some (.ref 17)] [.ref 17] μ1)
  refine v_aload_n hX dX5_restore_17 rfl (?_ : V X 18 [some (.ref 20), some (.ref 17)] [.ref 20, .ref 17] μ1)
  refine v_getr hX (21) fk_X5_11 sh_20 rfl rfl dX5_restore_18 (?_ : V X 21 [some (.ref 20), some (.ref 17)] [.ref 21, .ref 17] μ1)
  refine v_aload_n hX dX5_restore_21 rfl (?_ : V X 22 [some (.ref 20), some (.ref 17)] [.ref 20, .ref 21, .ref 17] μ1)
  refine v_geti hX fk_X5_18 sh_20 rfl dX5_restore_22 (?_ : V X 25 [some (.ref 20), some (.ref 17)] [.int (gi μ1 20 1), .ref 21, .ref 17] μ1)
  have hb3 := h.1
  replace h := h.2
  refine v_aald hX sh_21 hb3 dX5_restore_25 (?_ : V X 26 [some (.ref 20), some (.ref 17)] [.ref (21 + 1 + 3 * (Int32.toNatClampNeg (gi μ1 20 1))), .ref 17] μ1)
  refine v_callV hX sp_X7_copyOf ck_X7_copyOf mk_X5_25 mv_X7_copyOf sh_17 (by decide) (by decide) [.ref (21 + 1 + 3 * (Int32.toNatClampNeg (gi μ1 20 1)))] [] rfl rfl (Nat.le_of_ble_eq_true rfl) dX5_restore_26 ⟨17, (21 + 1 + 3 * (Int32.toNatClampNeg (gi μ1 20 1))), rfl, sc_17, (sc_past hb3), h.1, fun μ5 hp6 => (?_ : V X 29 [some (.ref 20), some (.ref 17)] [] μ5)⟩
  replace h := h.2 μ5 hp6
  refine v_aload_n hX dX5_restore_29 rfl (?_ : V X 30 [some (.ref 20), some (.ref 17)] [.ref 20] μ5)
  refine v_dup hX dX5_restore_30 rfl (?_ : V X 31 [some (.ref 20), some (.ref 17)] [.ref 20, .ref 20] μ5)
  refine v_geti hX fk_X5_22 sh_20 rfl dX5_restore_31 (?_ : V X 34 [some (.ref 20), some (.ref 17)] [.int (gi μ5 20 2), .ref 20] μ5)
  refine v_iconst hX 1 dX5_restore_34 rfl (?_ : V X 35 [some (.ref 20), some (.ref 17)] [.int 1, .int (gi μ5 20 2), .ref 20] μ5)
  refine v_isub hX dX5_restore_35 (?_ : V X 36 [some (.ref 20), some (.ref 17)] [.int ((gi μ5 20 2) - 1), .ref 20] μ5)
  refine w_puti hX fk_X5_22 fw_5_2 sh_20 rfl dX5_restore_36 (fun μ7 e8 => (?_ : V X 39 [some (.ref 20), some (.ref 17)] [] μ7))
  replace h := h μ7 e8
  exact v_vret hO dX5_restore_39 (hR _ h)
set_option maxRecDepth 20000 in
set_option maxHeartbeats 4000000 in
theorem vp_X5_restore_0   (μ : Mem) (hpre : pre_X5_restore  μ) : vc_X5_restore_0  μ (post_X5_restore  μ)  := by
  unfold vc_X5_restore_0
  obtain ⟨⟨h1, h1b⟩, ⟨h2, h2b⟩, h3⟩ := hpre
  intro μ1 e1
  have hk1 : gi μ1 20 1 = nI ((gn μ 20 1 + 9) % 10) := by
    simp only [e1, gi_ui, and_self, if_true]
    rw [h1]
    have e10 : (10 : Int32) = nI 10 := rfl
    rw [e10, nI_add, show gn μ 20 1 + 10 = (gn μ 20 1 + 9) + 1 from rfl, nI_pred, pk_rem (by omega) (by omega) (by omega)]
  have ht : (gi μ1 20 1).toNatClampNeg = (gn μ 20 1 + 9) % 10 := by rw [hk1, nI_clamp (by omega)]
  rw [ht]
  refine ⟨by rw [hk1]; exact vp_in_nI (by omega) (by omega), by unfold pre_X7_copyOf; omega, fun m hp => ?_⟩
  obtain ⟨⟨hf1, hf2⟩, hc⟩ := hp
  have e22 : 21 + 1 + 3 * ((gn μ 20 1 + 9) % 10) = 22 + 3 * ((gn μ 20 1 + 9) % 10) := rfl
  rw [e22] at hc
  rintro _ rfl
  refine ⟨⟨fun c hq k => ?_, ?_⟩, ⟨fun k hk => ?_, fun j hj => ?_, fun j hj => ?_⟩, ?_, ?_⟩
  · simp only [List.mem_cons, List.not_mem_nil, or_false, not_or] at hq
    rw [gi_ui, if_neg (by simp [hq]), hf1 c (by simp [hq]), e1, gi_ui, if_neg (by simp [hq])]
  · show m.2 = μ.2
    rw [hf2, e1]; rfl
  · rw [gi_ui, if_neg (by simp), hc.1 k hk, e1, gi_ui, if_neg (by omega)]
  · rw [gi_ui, if_neg (by simp), hc.2.1 j hj, e1, gi_ui, if_neg (by omega)]
  · rw [gi_ui, if_neg (by simp), hc.2.2 j hj, e1, gi_ui, if_neg (by omega)]
  · rw [gi_ui, if_neg (by simp), hf1 20 (by decide), hk1]
  · rw [gi_ui, if_pos ⟨rfl, rfl⟩, hf1 20 (by decide), e1, gi_ui, if_neg (by simp), h2]
    obtain ⟨q, hq⟩ : ∃ q, gn μ 20 2 = q + 1 := ⟨gn μ 20 2 - 1, by omega⟩
    rw [hq, nI_pred]; rfl
theorem sp_X5_restore : Sp yX5_restore cX5_restore 2 none 3 S_X5_restore := by
  refine sp_of (by decide) (fun av μ P h => ?_) ?_
  · obtain ⟨rfl, -⟩ := h
    refine ⟨Nat.le_of_ble_eq_true rfl, fun v hv => ?_⟩
    simp only [List.mem_cons, List.not_mem_nil, or_false] at hv
    rcases hv with rfl | rfl <;> rfl
  · rintro X P hO _ μ ⟨rfl, hpre, hpost⟩ hn
    exact wk_X5_restore_0 hO hn   μ hpost (vp_X5_restore_0   μ hpre)
def S_X4_add : Tr := fun av μ P => ∃ (p1 : Int32) (p2 : Int32), av = [.ref 71, .int p1, .int p2] ∧ pre_X4_add p1 p2 μ ∧ ∀ m : Mem, post_X4_add p1 p2 μ m → P none m
def vc_X4_add_0 (p1 : Int32) (p2 : Int32)  (μ : Mem) (R : Mem → Prop)  : Prop :=
  ((5 ≤ (gi μ 71 2) → R μ) ∧ (¬ 5 ≤ (gi μ 71 2) → vp_in (gi μ 71 2) 5 ∧ (∀ μ3, μ3 = ui μ 72 (Int32.toNatClampNeg (gi μ 71 2)) p1 → vp_in (gi μ3 71 2) 5 ∧ (∀ μ6, μ6 = ui μ3 73 (Int32.toNatClampNeg (gi μ3 71 2)) p2 → (∀ μ8, μ8 = ui μ6 71 2 ((gi μ6 71 2) + 1) → R μ8)))))
set_option maxRecDepth 20000 in
set_option maxHeartbeats 4000000 in
theorem wk_X4_add_0 {X : XT} {P : Post} (hO : OkM X cX4_add RX4 0 none P) (hn : xn X = 3) (p1 : Int32) (p2 : Int32)   (μ : Mem) {R : Mem → Prop} (hR : ∀ m, R m → P none m)    (h : vc_X4_add_0 p1 p2  μ R ) : V X 0 [some (.ref 71), some (.int p1), some (.int p2)] [] μ := by
  have hX := hO.1
  unfold vc_X4_add_0 at h
  refine v_aload_n hX dX4_add_0 rfl (?_ : V X 1 [some (.ref 71), some (.int p1), some (.int p2)] [.ref 71] μ)
  refine v_geti hX fk_X4_18 sh_71 rfl dX4_add_1 (?_ : V X 4 [some (.ref 71), some (.int p1), some (.int p2)] [.int (gi μ 71 2)] μ)
  refine v_iconst hX 5 dX4_add_4 rfl (?_ : V X 5 [some (.ref 71), some (.int p1), some (.int p2)] [.int 5, .int (gi μ 71 2)] μ)
  refine v_icmp_ge hX 38 dX4_add_5 rfl (fun c1 => ?_) (fun c1 => ?_)
  · replace h := h.1 c1
    exact v_vret hO dX4_add_38 (hR _ h)
  · replace h := h.2 c1
    refine v_aload_n hX dX4_add_8 rfl (?_ : V X 9 [some (.ref 71), some (.int p1), some (.int p2)] [.ref 71] μ)
    refine v_getr hX (72) fk_X4_9 sh_71 rfl rfl dX4_add_9 (?_ : V X 12 [some (.ref 71), some (.int p1), some (.int p2)] [.ref 72] μ)
    refine v_aload_n hX dX4_add_12 rfl (?_ : V X 13 [some (.ref 71), some (.int p1), some (.int p2)] [.ref 71, .ref 72] μ)
    refine v_geti hX fk_X4_18 sh_71 rfl dX4_add_13 (?_ : V X 16 [some (.ref 71), some (.int p1), some (.int p2)] [.int (gi μ 71 2), .ref 72] μ)
    refine v_iload_n hX dX4_add_16 rfl (?_ : V X 17 [some (.ref 71), some (.int p1), some (.int p2)] [.int p1, .int (gi μ 71 2), .ref 72] μ)
    have hb2 := h.1
    replace h := h.2
    refine w_iast hX (Int32.toNatClampNeg (gi μ 71 2)) sh_72 hb2 rfl dX4_add_17 (fun μ3 e4 => (?_ : V X 18 [some (.ref 71), some (.int p1), some (.int p2)] [] μ3))
    replace h := h μ3 e4
    refine v_aload_n hX dX4_add_18 rfl (?_ : V X 19 [some (.ref 71), some (.int p1), some (.int p2)] [.ref 71] μ3)
    refine v_getr hX (73) fk_X4_15 sh_71 rfl rfl dX4_add_19 (?_ : V X 22 [some (.ref 71), some (.int p1), some (.int p2)] [.ref 73] μ3)
    refine v_aload_n hX dX4_add_22 rfl (?_ : V X 23 [some (.ref 71), some (.int p1), some (.int p2)] [.ref 71, .ref 73] μ3)
    refine v_geti hX fk_X4_18 sh_71 rfl dX4_add_23 (?_ : V X 26 [some (.ref 71), some (.int p1), some (.int p2)] [.int (gi μ3 71 2), .ref 73] μ3)
    refine v_iload_n hX dX4_add_26 rfl (?_ : V X 27 [some (.ref 71), some (.int p1), some (.int p2)] [.int p2, .int (gi μ3 71 2), .ref 73] μ3)
    have hb5 := h.1
    replace h := h.2
    refine w_iast hX (Int32.toNatClampNeg (gi μ3 71 2)) sh_73 hb5 rfl dX4_add_27 (fun μ6 e7 => (?_ : V X 28 [some (.ref 71), some (.int p1), some (.int p2)] [] μ6))
    replace h := h μ6 e7
    refine v_aload_n hX dX4_add_28 rfl (?_ : V X 29 [some (.ref 71), some (.int p1), some (.int p2)] [.ref 71] μ6)
    refine v_dup hX dX4_add_29 rfl (?_ : V X 30 [some (.ref 71), some (.int p1), some (.int p2)] [.ref 71, .ref 71] μ6)
    refine v_geti hX fk_X4_18 sh_71 rfl dX4_add_30 (?_ : V X 33 [some (.ref 71), some (.int p1), some (.int p2)] [.int (gi μ6 71 2), .ref 71] μ6)
    refine v_iconst hX 1 dX4_add_33 rfl (?_ : V X 34 [some (.ref 71), some (.int p1), some (.int p2)] [.int 1, .int (gi μ6 71 2), .ref 71] μ6)
    refine v_iadd hX dX4_add_34 (?_ : V X 35 [some (.ref 71), some (.int p1), some (.int p2)] [.int ((gi μ6 71 2) + 1), .ref 71] μ6)
    refine w_puti hX fk_X4_18 fw_4_2 sh_71 rfl dX4_add_35 (fun μ8 e9 => (?_ : V X 38 [some (.ref 71), some (.int p1), some (.int p2)] [] μ8))
    replace h := h μ8 e9
    exact v_vret hO dX4_add_38 (hR _ h)
set_option maxRecDepth 20000 in
set_option maxHeartbeats 4000000 in
theorem vp_X4_add_0 (p1 : Int32) (p2 : Int32)  (μ : Mem) (hpre : pre_X4_add p1 p2 μ) : vc_X4_add_0 p1 p2 μ (post_X4_add p1 p2 μ)  := by
  simp only [vc_X4_add_0, and_imp, call_eq, forall_eq, forall_const, true_and, and_true]
  obtain ⟨h1, h1b⟩ := hpre
  have hin : vp_in (gi μ 71 2) 5 := by rw [h1]; exact vp_in_nI (by omega) (by omega)
  refine ⟨fun c => ?_, fun c => ⟨hin, ?_, ?_⟩⟩
  · rw [h1] at c
    have := (nI_leI (a := 5) (by omega) (by omega)).mp c
    omega
  · simp [gi_ui]; exact hin
  · simp [post_X4_add, gi_ui, gn]
theorem sp_X4_add : Sp yX4_add cX4_add 3 none 0 S_X4_add := by
  refine sp_of (by decide) (fun av μ P h => ?_) ?_
  · obtain ⟨p1, p2, rfl, -⟩ := h
    refine ⟨Nat.le_of_ble_eq_true rfl, fun v hv => ?_⟩
    simp only [List.mem_cons, List.not_mem_nil, or_false] at hv
    rcases hv with rfl | rfl | rfl <;> rfl
  · rintro X P hO _ μ ⟨p1, p2, rfl, hpre, hpost⟩ hn
    exact wk_X4_add_0 hO hn p1 p2  μ hpost (vp_X4_add_0 p1 p2  μ hpre)
def S_X4_agreesWith : Tr := fun av μ P => ∃ (w : Nat) (p1 : Int32), av = [.ref 71, .ref w, .int p1] ∧ (w = 3 ∨ w = 10) ∧ pre_X4_agreesWith w p1 μ ∧ ∀ (x : Int32) (m : Mem), post_X4_agreesWith w p1 μ x m → P (some (.int x)) m
def vc_X4_agreesWith_0 (w : Nat) (p1 : Int32)  (μ : Mem) (R : Int32 → Mem → Prop) (J2 : Int32 → Mem → Prop) : Prop :=
  J2 0 μ
set_option maxRecDepth 20000 in
set_option maxHeartbeats 4000000 in
theorem wk_X4_agreesWith_0 {X : XT} {P : Post} (hO : OkM X cX4_agreesWith RX4 0 (some .boolean) P) (hn : xn X = 4) (w : Nat) (p1 : Int32) (hw : w = 3 ∨ w = 10)  (μ : Mem) {R : Int32 → Mem → Prop} (hR : ∀ x m, R x m → P (some (.int x)) m) {J2 : Int32 → Mem → Prop} (hJ2 : ∀ (l3 : Int32) (m : Mem), J2 l3 m → V X 2 [some (.ref 71), some (.ref w), some (.int p1), some (.int l3)] [] m)  (h : vc_X4_agreesWith_0 w p1  μ R J2) : V X 0 [some (.ref 71), some (.ref w), some (.int p1), none] [] μ := by
  have hX := hO.1
  unfold vc_X4_agreesWith_0 at h
  refine v_iconst hX 0 dX4_agreesWith_0 rfl (?_ : V X 1 [some (.ref 71), some (.ref w), some (.int p1), none] [.int 0] μ)
  refine v_istore_n hX dX4_agreesWith_1 (by rw [hn]; decide) (?_ : V X 2 [some (.ref 71), some (.ref w), some (.int p1), some (.int 0)] [] μ)
  exact v_mask [true, true, true, true] (hJ2 _ _ h)
def vc_X4_agreesWith_2 (w : Nat) (p1 : Int32) (l3 : Int32) (μ : Mem) (R : Int32 → Mem → Prop) (J2 : Int32 → Mem → Prop) : Prop :=
  (((gi μ 71 2) ≤ l3 → R 1 μ) ∧ (¬ (gi μ 71 2) ≤ l3 → vp_in l3 5 ∧ vp_in (gi μ 72 (Int32.toNatClampNeg l3)) 5 ∧ vp_in l3 5 ∧ ((((gi μ (w + 4) (Int32.toNatClampNeg (gi μ 72 (Int32.toNatClampNeg l3)))) * p1) = (gi μ 73 (Int32.toNatClampNeg l3)) → J2 (l3 + 1) μ) ∧ (¬ ((gi μ (w + 4) (Int32.toNatClampNeg (gi μ 72 (Int32.toNatClampNeg l3)))) * p1) = (gi μ 73 (Int32.toNatClampNeg l3)) → R 0 μ))))
set_option maxRecDepth 20000 in
set_option maxHeartbeats 4000000 in
theorem wk_X4_agreesWith_2 {X : XT} {P : Post} (hO : OkM X cX4_agreesWith RX4 0 (some .boolean) P) (hn : xn X = 4) (w : Nat) (p1 : Int32) (hw : w = 3 ∨ w = 10) (l3 : Int32) (μ : Mem) {R : Int32 → Mem → Prop} (hR : ∀ x m, R x m → P (some (.int x)) m) {J2 : Int32 → Mem → Prop} (hJ2 : ∀ (l3 : Int32) (m : Mem), J2 l3 m → V X 2 [some (.ref 71), some (.ref w), some (.int p1), some (.int l3)] [] m)  (h : vc_X4_agreesWith_2 w p1 l3 μ R J2) : V X 2 [some (.ref 71), some (.ref w), some (.int p1), some (.int l3)] [] μ := by
  have hX := hO.1
  unfold vc_X4_agreesWith_2 at h
  refine v_iload_n hX dX4_agreesWith_2 rfl (?_ : V X 3 [some (.ref 71), some (.ref w), some (.int p1), some (.int l3)] [.int l3] μ)
  refine v_aload_n hX dX4_agreesWith_3 rfl (?_ : V X 4 [some (.ref 71), some (.ref w), some (.int p1), some (.int l3)] [.ref 71, .int l3] μ)
  refine v_geti hX fk_X4_18 sh_71 rfl dX4_agreesWith_4 (?_ : V X 7 [some (.ref 71), some (.ref w), some (.int p1), some (.int l3)] [.int (gi μ 71 2), .int l3] μ)
  refine v_icmp_ge hX 40 dX4_agreesWith_7 rfl (fun c1 => ?_) (fun c1 => ?_)
  · replace h := h.1 c1
    refine v_iconst hX 1 dX4_agreesWith_40 rfl (?_ : V X 41 [some (.ref 71), some (.ref w), some (.int p1), some (.int l3)] [.int 1] μ)
    exact v_zret hO dX4_agreesWith_41 (by decide) (hR _ _ h)
  · replace h := h.2 c1
    refine v_aload_n hX dX4_agreesWith_10 rfl (?_ : V X 11 [some (.ref 71), some (.ref w), some (.int p1), some (.int l3)] [.ref w] μ)
    refine v_getr hX (w + 4) fk_X4_22 (sHo hw) rfl rfl dX4_agreesWith_11 (?_ : V X 14 [some (.ref 71), some (.ref w), some (.int p1), some (.int l3)] [.ref (w + 4)] μ)
    refine v_aload_n hX dX4_agreesWith_14 rfl (?_ : V X 15 [some (.ref 71), some (.ref w), some (.int p1), some (.int l3)] [.ref 71, .ref (w + 4)] μ)
    refine v_getr hX (72) fk_X4_9 sh_71 rfl rfl dX4_agreesWith_15 (?_ : V X 18 [some (.ref 71), some (.ref w), some (.int p1), some (.int l3)] [.ref 72, .ref (w + 4)] μ)
    refine v_iload_n hX dX4_agreesWith_18 rfl (?_ : V X 19 [some (.ref 71), some (.ref w), some (.int p1), some (.int l3)] [.int l3, .ref 72, .ref (w + 4)] μ)
    have hb2 := h.1
    replace h := h.2
    refine w_iald hX (Int32.toNatClampNeg l3) sh_72 hb2 rfl dX4_agreesWith_19 (?_ : V X 20 [some (.ref 71), some (.ref w), some (.int p1), some (.int l3)] [.int (gi μ 72 (Int32.toNatClampNeg l3)), .ref (w + 4)] μ)
    have hb3 := h.1
    replace h := h.2
    refine w_iald hX (Int32.toNatClampNeg (gi μ 72 (Int32.toNatClampNeg l3))) (sH4 hw) hb3 rfl dX4_agreesWith_20 (?_ : V X 21 [some (.ref 71), some (.ref w), some (.int p1), some (.int l3)] [.int (gi μ (w + 4) (Int32.toNatClampNeg (gi μ 72 (Int32.toNatClampNeg l3))))] μ)
    refine v_iload_n hX dX4_agreesWith_21 rfl (?_ : V X 22 [some (.ref 71), some (.ref w), some (.int p1), some (.int l3)] [.int p1, .int (gi μ (w + 4) (Int32.toNatClampNeg (gi μ 72 (Int32.toNatClampNeg l3))))] μ)
    refine v_imul hX dX4_agreesWith_22 (?_ : V X 23 [some (.ref 71), some (.ref w), some (.int p1), some (.int l3)] [.int ((gi μ (w + 4) (Int32.toNatClampNeg (gi μ 72 (Int32.toNatClampNeg l3)))) * p1)] μ)
    refine v_aload_n hX dX4_agreesWith_23 rfl (?_ : V X 24 [some (.ref 71), some (.ref w), some (.int p1), some (.int l3)] [.ref 71, .int ((gi μ (w + 4) (Int32.toNatClampNeg (gi μ 72 (Int32.toNatClampNeg l3)))) * p1)] μ)
    refine v_getr hX (73) fk_X4_15 sh_71 rfl rfl dX4_agreesWith_24 (?_ : V X 27 [some (.ref 71), some (.ref w), some (.int p1), some (.int l3)] [.ref 73, .int ((gi μ (w + 4) (Int32.toNatClampNeg (gi μ 72 (Int32.toNatClampNeg l3)))) * p1)] μ)
    refine v_iload_n hX dX4_agreesWith_27 rfl (?_ : V X 28 [some (.ref 71), some (.ref w), some (.int p1), some (.int l3)] [.int l3, .ref 73, .int ((gi μ (w + 4) (Int32.toNatClampNeg (gi μ 72 (Int32.toNatClampNeg l3)))) * p1)] μ)
    have hb4 := h.1
    replace h := h.2
    refine w_iald hX (Int32.toNatClampNeg l3) sh_73 hb4 rfl dX4_agreesWith_28 (?_ : V X 29 [some (.ref 71), some (.ref w), some (.int p1), some (.int l3)] [.int (gi μ 73 (Int32.toNatClampNeg l3)), .int ((gi μ (w + 4) (Int32.toNatClampNeg (gi μ 72 (Int32.toNatClampNeg l3)))) * p1)] μ)
    refine v_icmp_eq hX 34 dX4_agreesWith_29 rfl (fun c5 => ?_) (fun c5 => ?_)
    · replace h := h.1 c5
      refine v_iinc hX 1 dX4_agreesWith_34 (by rw [hn]; decide) rfl rfl (?_ : V X 37 [some (.ref 71), some (.ref w), some (.int p1), some (.int (l3 + 1))] [] μ)
      refine v_goto hX 2 dX4_agreesWith_37 rfl (?_ : V X 2 [some (.ref 71), some (.ref w), some (.int p1), some (.int (l3 + 1))] [] μ)
      exact v_mask [true, true, true, true] (hJ2 _ _ h)
    · replace h := h.2 c5
      refine v_iconst hX 0 dX4_agreesWith_32 rfl (?_ : V X 33 [some (.ref 71), some (.ref w), some (.int p1), some (.int l3)] [.int 0] μ)
      exact v_zret hO dX4_agreesWith_33 (by decide) (hR _ _ h)
set_option maxRecDepth 20000 in
set_option maxHeartbeats 4000000 in
theorem vp_X4_agreesWith_0 (w : Nat) (p1 : Int32) (hw : w = 3 ∨ w = 10) (μ : Mem) (hpre : pre_X4_agreesWith w p1 μ) : vc_X4_agreesWith_0 w p1 μ (post_X4_agreesWith w p1 μ) (fun l3 m => ∃ k : Nat, inv_X4_agreesWith_2 w p1 μ k l3 m) := by
  simp only [vc_X4_agreesWith_0, and_imp, call_eq, forall_eq, forall_const, true_and, and_true]
  exact ⟨gn μ 71 2, 0, Nat.zero_le _, rfl, rfl, rfl, fun j hj => absurd hj (Nat.not_lt_zero j)⟩
set_option maxRecDepth 20000 in
set_option maxHeartbeats 4000000 in
theorem vp_X4_agreesWith_2 (w : Nat) (p1 : Int32) (hw : w = 3 ∨ w = 10) (μ : Mem) (hpre : pre_X4_agreesWith w p1 μ) (n : Nat) (l3 : Int32) (μ0 : Mem) (hi : inv_X4_agreesWith_2 w p1 μ n l3 μ0) : vc_X4_agreesWith_2 w p1 l3 μ0 (post_X4_agreesWith w p1 μ) (fun l3 m => ∃ k : Nat, k < n ∧ inv_X4_agreesWith_2 w p1 μ k l3 m) := by
  simp only [vc_X4_agreesWith_2, and_imp, call_eq, forall_eq, forall_const, true_and, and_true]
  obtain ⟨i, hi1, rfl, rfl, rfl, hv⟩ := hi
  obtain ⟨hp1, hp2⟩ := hpre
  have hb := hp1.2
  rw [isN_le hp1 (by omega) (by omega), nI_clamp (by omega)]
  refine ⟨fun c => ⟨?_, rfl⟩, fun c => ⟨vp_in_nI (by omega) (by omega), hp2 i (by omega), vp_in_nI (by omega) (by omega), fun c2 => ⟨gn μ0 71 2 - (i + 1), by omega, i + 1, by omega, rfl, nI_1 i, rfl, fun j hj => ?_⟩, fun c2 => ⟨?_, rfl⟩⟩⟩
  · rw [if_pos (fun j hj => hv j (by omega))]
  · rcases Nat.lt_or_ge j i with h | h
    · exact hv j h
    · have : j = i := by omega
      subst this; exact c2
  · rw [if_neg (fun q => c2 (q i (by omega)))]
theorem sp_X4_agreesWith : Sp yX4_agreesWith cX4_agreesWith 4 (some .boolean) 0 S_X4_agreesWith := by
  refine sp_of (by decide) (fun av μ P h => ?_) ?_
  · obtain ⟨w, p1, rfl, -⟩ := h
    refine ⟨Nat.le_of_ble_eq_true rfl, fun v hv => ?_⟩
    simp only [List.mem_cons, List.not_mem_nil, or_false] at hv
    rcases hv with rfl | rfl | rfl <;> rfl
  · rintro X P hO _ μ ⟨w, p1, rfl, hw, hpre, hpost⟩ hn
    have hJ : ∀ n : Nat, (∀ (l3 : Int32) (m : Mem), inv_X4_agreesWith_2 w p1 μ n l3 m → V X 2 [some (.ref 71), some (.ref w), some (.int p1), some (.int l3)] [] m) := by
      intro n
      induction n using Nat.strongRecOn with
      | _ n ih =>
        exact fun l3 m hi => wk_X4_agreesWith_2 (J2 := (fun l3 m => ∃ k : Nat, k < n ∧ inv_X4_agreesWith_2 w p1 μ k l3 m)) hO hn w p1 hw l3 m hpost (fun l3 m hk => by obtain ⟨k, hk, hi⟩ := hk; exact (ih k hk) l3 m hi) (vp_X4_agreesWith_2 w p1 hw μ hpre n l3 m hi)
    exact wk_X4_agreesWith_0 (J2 := (fun l3 m => ∃ k : Nat, inv_X4_agreesWith_2 w p1 μ k l3 m)) hO hn w p1 hw μ hpost (fun l3 m hk => by obtain ⟨k, hi⟩ := hk; exact (hJ k) l3 m hi) (vp_X4_agreesWith_0 w p1 hw μ hpre)
def S_X3_leftOf : Tr := fun av μ P => ∃ (w : Nat) (p1 : Int32), av = [.ref w, .int p1] ∧ (w = 3 ∨ w = 10) ∧ pre_X3_leftOf w p1 μ ∧ ∀ (x : Int32) (m : Mem), post_X3_leftOf w p1 μ x m → P (some (.int x)) m
def vc_X3_leftOf_0 (w : Nat) (p1 : Int32)  (μ : Mem) (R : Int32 → Mem → Prop) (J4 : Int32 → Int32 → Mem → Prop) : Prop :=
  J4 0 0 μ
set_option maxRecDepth 20000 in
set_option maxHeartbeats 4000000 in
theorem wk_X3_leftOf_0 {X : XT} {P : Post} (hO : OkM X cX3_leftOf RX3 0 (some .int) P) (hn : xn X = 5) (w : Nat) (p1 : Int32) (hw : w = 3 ∨ w = 10)  (μ : Mem) {R : Int32 → Mem → Prop} (hR : ∀ x m, R x m → P (some (.int x)) m) {J4 : Int32 → Int32 → Mem → Prop} (hJ4 : ∀ (l2 : Int32) (l3 : Int32) (m : Mem), J4 l2 l3 m → V X 4 [some (.ref w), some (.int p1), some (.int l2), some (.int l3), none] [] m)  (h : vc_X3_leftOf_0 w p1  μ R J4) : V X 0 [some (.ref w), some (.int p1), none, none, none] [] μ := by
  have hX := hO.1
  unfold vc_X3_leftOf_0 at h
  refine v_iconst hX 0 dX3_leftOf_0 rfl (?_ : V X 1 [some (.ref w), some (.int p1), none, none, none] [.int 0] μ)
  refine v_istore_n hX dX3_leftOf_1 (by rw [hn]; decide) (?_ : V X 2 [some (.ref w), some (.int p1), some (.int 0), none, none] [] μ)
  refine v_iconst hX 0 dX3_leftOf_2 rfl (?_ : V X 3 [some (.ref w), some (.int p1), some (.int 0), none, none] [.int 0] μ)
  refine v_istore_n hX dX3_leftOf_3 (by rw [hn]; decide) (?_ : V X 4 [some (.ref w), some (.int p1), some (.int 0), some (.int 0), none] [] μ)
  exact v_mask [true, true, true, true, false] (hJ4 _ _ _ h)
def vc_X3_leftOf_4 (w : Nat) (p1 : Int32) (l2 : Int32) (l3 : Int32) (μ : Mem) (R : Int32 → Mem → Prop) (J4 : Int32 → Int32 → Mem → Prop) : Prop :=
  (((gi μ w 7) ≤ l3 → R l2 μ) ∧ (¬ (gi μ w 7) ≤ l3 → vp_in l3 6 ∧ vp_in (gi μ w 9) 6 ∧ (∀ y4 : Int32, y4 = (gi μ (w + 6) (Int32.toNatClampNeg l3)) ^^^ (gi μ (w + 6) (Int32.toNatClampNeg (gi μ w 9))) → ((¬ (y4 &&& p1) = 0 → J4 l2 (l3 + 1) μ) ∧ ((y4 &&& p1) = 0 → J4 (l2 ||| (1 <<< (l3 &&& 31))) (l3 + 1) μ)))))
set_option maxRecDepth 20000 in
set_option maxHeartbeats 4000000 in
theorem wk_X3_leftOf_4 {X : XT} {P : Post} (hO : OkM X cX3_leftOf RX3 0 (some .int) P) (hn : xn X = 5) (w : Nat) (p1 : Int32) (hw : w = 3 ∨ w = 10) (l2 : Int32) (l3 : Int32) (μ : Mem) {R : Int32 → Mem → Prop} (hR : ∀ x m, R x m → P (some (.int x)) m) {J4 : Int32 → Int32 → Mem → Prop} (hJ4 : ∀ (l2 : Int32) (l3 : Int32) (m : Mem), J4 l2 l3 m → V X 4 [some (.ref w), some (.int p1), some (.int l2), some (.int l3), none] [] m)  (h : vc_X3_leftOf_4 w p1 l2 l3 μ R J4) : V X 4 [some (.ref w), some (.int p1), some (.int l2), some (.int l3), none] [] μ := by
  have hX := hO.1
  unfold vc_X3_leftOf_4 at h
  refine v_iload_n hX dX3_leftOf_4 rfl (?_ : V X 5 [some (.ref w), some (.int p1), some (.int l2), some (.int l3), none] [.int l3] μ)
  refine v_aload_n hX dX3_leftOf_5 rfl (?_ : V X 6 [some (.ref w), some (.int p1), some (.int l2), some (.int l3), none] [.ref w, .int l3] μ)
  refine v_geti hX fk_X3_18 (sHo hw) rfl dX3_leftOf_6 (?_ : V X 9 [some (.ref w), some (.int p1), some (.int l2), some (.int l3), none] [.int (gi μ w 7), .int l3] μ)
  refine v_icmp_ge hX 49 dX3_leftOf_9 rfl (fun c1 => ?_) (fun c1 => ?_)
  · replace h := h.1 c1
    refine v_iload_n hX dX3_leftOf_49 rfl (?_ : V X 50 [some (.ref w), some (.int p1), some (.int l2), some (.int l3), none] [.int l2] μ)
    exact v_iret hO dX3_leftOf_50 (hR _ _ h)
  · replace h := h.2 c1
    refine v_aload_n hX dX3_leftOf_12 rfl (?_ : V X 13 [some (.ref w), some (.int p1), some (.int l2), some (.int l3), none] [.ref w] μ)
    refine v_getr hX (w + 6) fk_X3_24 (sHo hw) rfl rfl dX3_leftOf_13 (?_ : V X 16 [some (.ref w), some (.int p1), some (.int l2), some (.int l3), none] [.ref (w + 6)] μ)
    refine v_iload_n hX dX3_leftOf_16 rfl (?_ : V X 17 [some (.ref w), some (.int p1), some (.int l2), some (.int l3), none] [.int l3, .ref (w + 6)] μ)
    have hb2 := h.1
    replace h := h.2
    refine w_iald hX (Int32.toNatClampNeg l3) (sH6 hw) hb2 rfl dX3_leftOf_17 (?_ : V X 18 [some (.ref w), some (.int p1), some (.int l2), some (.int l3), none] [.int (gi μ (w + 6) (Int32.toNatClampNeg l3))] μ)
    refine v_aload_n hX dX3_leftOf_18 rfl (?_ : V X 19 [some (.ref w), some (.int p1), some (.int l2), some (.int l3), none] [.ref w, .int (gi μ (w + 6) (Int32.toNatClampNeg l3))] μ)
    refine v_getr hX (w + 6) fk_X3_24 (sHo hw) rfl rfl dX3_leftOf_19 (?_ : V X 22 [some (.ref w), some (.int p1), some (.int l2), some (.int l3), none] [.ref (w + 6), .int (gi μ (w + 6) (Int32.toNatClampNeg l3))] μ)
    refine v_aload_n hX dX3_leftOf_22 rfl (?_ : V X 23 [some (.ref w), some (.int p1), some (.int l2), some (.int l3), none] [.ref w, .ref (w + 6), .int (gi μ (w + 6) (Int32.toNatClampNeg l3))] μ)
    refine v_geti hX fk_X3_27 (sHo hw) rfl dX3_leftOf_23 (?_ : V X 26 [some (.ref w), some (.int p1), some (.int l2), some (.int l3), none] [.int (gi μ w 9), .ref (w + 6), .int (gi μ (w + 6) (Int32.toNatClampNeg l3))] μ)
    have hb3 := h.1
    replace h := h.2
    refine w_iald hX (Int32.toNatClampNeg (gi μ w 9)) (sH6 hw) hb3 rfl dX3_leftOf_26 (?_ : V X 27 [some (.ref w), some (.int p1), some (.int l2), some (.int l3), none] [.int (gi μ (w + 6) (Int32.toNatClampNeg (gi μ w 9))), .int (gi μ (w + 6) (Int32.toNatClampNeg l3))] μ)
    refine v_ixor hX dX3_leftOf_27 (?_ : V X 28 [some (.ref w), some (.int p1), some (.int l2), some (.int l3), none] [.int ((gi μ (w + 6) (Int32.toNatClampNeg l3)) ^^^ (gi μ (w + 6) (Int32.toNatClampNeg (gi μ w 9))))] μ)
    refine w_istore hX dX3_leftOf_28 (by rw [hn]; decide) (fun y4 e5 => (?_ : V X 30 [some (.ref w), some (.int p1), some (.int l2), some (.int l3), some (.int y4)] [] μ))
    replace h := h y4 e5
    refine v_iload hX dX3_leftOf_30 rfl (?_ : V X 32 [some (.ref w), some (.int p1), some (.int l2), some (.int l3), some (.int y4)] [.int y4] μ)
    refine v_iload_n hX dX3_leftOf_32 rfl (?_ : V X 33 [some (.ref w), some (.int p1), some (.int l2), some (.int l3), some (.int y4)] [.int p1, .int y4] μ)
    refine v_iand hX dX3_leftOf_33 (?_ : V X 34 [some (.ref w), some (.int p1), some (.int l2), some (.int l3), some (.int y4)] [.int (y4 &&& p1)] μ)
    refine v_if_ne hX 43 dX3_leftOf_34 rfl (fun c6 => ?_) (fun c6 => ?_)
    · replace h := h.1 c6
      refine v_iinc hX 1 dX3_leftOf_43 (by rw [hn]; decide) rfl rfl (?_ : V X 46 [some (.ref w), some (.int p1), some (.int l2), some (.int (l3 + 1)), some (.int y4)] [] μ)
      refine v_goto hX 4 dX3_leftOf_46 rfl (?_ : V X 4 [some (.ref w), some (.int p1), some (.int l2), some (.int (l3 + 1)), some (.int y4)] [] μ)
      exact v_mask [true, true, true, true, false] (hJ4 _ _ _ h)
    · replace h := h.2 c6
      refine v_iload_n hX dX3_leftOf_37 rfl (?_ : V X 38 [some (.ref w), some (.int p1), some (.int l2), some (.int l3), some (.int y4)] [.int l2] μ)
      refine v_iconst hX 1 dX3_leftOf_38 rfl (?_ : V X 39 [some (.ref w), some (.int p1), some (.int l2), some (.int l3), some (.int y4)] [.int 1, .int l2] μ)
      refine v_iload_n hX dX3_leftOf_39 rfl (?_ : V X 40 [some (.ref w), some (.int p1), some (.int l2), some (.int l3), some (.int y4)] [.int l3, .int 1, .int l2] μ)
      refine v_ishl hX dX3_leftOf_40 (?_ : V X 41 [some (.ref w), some (.int p1), some (.int l2), some (.int l3), some (.int y4)] [.int (1 <<< (l3 &&& 31)), .int l2] μ)
      refine v_ior hX dX3_leftOf_41 (?_ : V X 42 [some (.ref w), some (.int p1), some (.int l2), some (.int l3), some (.int y4)] [.int (l2 ||| (1 <<< (l3 &&& 31)))] μ)
      refine v_istore_n hX dX3_leftOf_42 (by rw [hn]; decide) (?_ : V X 43 [some (.ref w), some (.int p1), some (.int (l2 ||| (1 <<< (l3 &&& 31)))), some (.int l3), some (.int y4)] [] μ)
      refine v_iinc hX 1 dX3_leftOf_43 (by rw [hn]; decide) rfl rfl (?_ : V X 46 [some (.ref w), some (.int p1), some (.int (l2 ||| (1 <<< (l3 &&& 31)))), some (.int (l3 + 1)), some (.int y4)] [] μ)
      refine v_goto hX 4 dX3_leftOf_46 rfl (?_ : V X 4 [some (.ref w), some (.int p1), some (.int (l2 ||| (1 <<< (l3 &&& 31)))), some (.int (l3 + 1)), some (.int y4)] [] μ)
      exact v_mask [true, true, true, true, false] (hJ4 _ _ _ h)
set_option maxRecDepth 20000 in
set_option maxHeartbeats 4000000 in
theorem vp_X3_leftOf_0 (w : Nat) (p1 : Int32) (hw : w = 3 ∨ w = 10) (μ : Mem) (hpre : pre_X3_leftOf w p1 μ) : vc_X3_leftOf_0 w p1 μ (post_X3_leftOf w p1 μ) (fun l2 l3 m => ∃ k : Nat, inv_X3_leftOf_4 w p1 μ k l2 l3 m) := by
  simp only [vc_X3_leftOf_0, and_imp, call_eq, forall_eq, forall_const, true_and, and_true]
  exact ⟨gn μ w 7, 0, Nat.zero_le _, rfl, rfl, rfl, rfl⟩
set_option maxRecDepth 20000 in
set_option maxHeartbeats 4000000 in
theorem vp_X3_leftOf_4 (w : Nat) (p1 : Int32) (hw : w = 3 ∨ w = 10) (μ : Mem) (hpre : pre_X3_leftOf w p1 μ) (n : Nat) (l2 : Int32) (l3 : Int32) (μ0 : Mem) (hi : inv_X3_leftOf_4 w p1 μ n l2 l3 μ0) : vc_X3_leftOf_4 w p1 l2 l3 μ0 (post_X3_leftOf w p1 μ) (fun l2 l3 m => ∃ k : Nat, k < n ∧ inv_X3_leftOf_4 w p1 μ k l2 l3 m) := by
  simp only [vc_X3_leftOf_4, and_imp, call_eq, forall_eq, forall_const, true_and, and_true]
  obtain ⟨i, hi1, rfl, rfl, rfl, rfl⟩ := hi
  obtain ⟨hp1, hp2⟩ := hpre
  have hb := hp1.2
  have hb2 := hp2.2
  rw [isN_le hp1 (by omega) (by omega), nI_clamp (by omega)]
  refine ⟨fun c => ?_, fun c => ⟨vp_in_nI (by omega) (by omega), isN_in hp2 (by omega) (by omega), fun c2 => ⟨gn μ0 w 7 - (i + 1), by omega, i + 1, by omega, rfl, nI_1 i, ?_, rfl⟩, fun c2 => ⟨gn μ0 w 7 - (i + 1), by omega, i + 1, by omega, rfl, nI_1 i, ?_, rfl⟩⟩⟩
  · have : i = gn μ0 w 7 := by omega
    subst this
    exact ⟨rfl, rfl⟩
  · have c3 : ¬ (gi μ0 (w + 6) i ^^^ gi μ0 (w + 6) (gn μ0 w 9)) &&& p1 = 0 := c2
    simp only [orI]
    rw [if_neg c3, orI_0]
  · have c3 : (gi μ0 (w + 6) i ^^^ gi μ0 (w + 6) (gn μ0 w 9)) &&& p1 = 0 := c2
    simp only [orI]
    rw [if_pos c3]
theorem sp_X3_leftOf : Sp yX3_leftOf cX3_leftOf 5 (some .int) 0 S_X3_leftOf := by
  refine sp_of (by decide) (fun av μ P h => ?_) ?_
  · obtain ⟨w, p1, rfl, -⟩ := h
    refine ⟨Nat.le_of_ble_eq_true rfl, fun v hv => ?_⟩
    simp only [List.mem_cons, List.not_mem_nil, or_false] at hv
    rcases hv with rfl | rfl <;> rfl
  · rintro X P hO _ μ ⟨w, p1, rfl, hw, hpre, hpost⟩ hn
    have hJ : ∀ n : Nat, (∀ (l2 : Int32) (l3 : Int32) (m : Mem), inv_X3_leftOf_4 w p1 μ n l2 l3 m → V X 4 [some (.ref w), some (.int p1), some (.int l2), some (.int l3), none] [] m) := by
      intro n
      induction n using Nat.strongRecOn with
      | _ n ih =>
        exact fun l2 l3 m hi => wk_X3_leftOf_4 (J4 := (fun l2 l3 m => ∃ k : Nat, k < n ∧ inv_X3_leftOf_4 w p1 μ k l2 l3 m)) hO hn w p1 hw l2 l3 m hpost (fun l2 l3 m hk => by obtain ⟨k, hk, hi⟩ := hk; exact (ih k hk) l2 l3 m hi) (vp_X3_leftOf_4 w p1 hw μ hpre n l2 l3 m hi)
    exact wk_X3_leftOf_0 (J4 := (fun l2 l3 m => ∃ k : Nat, inv_X3_leftOf_4 w p1 μ k l2 l3 m)) hO hn w p1 hw μ hpost (fun l2 l3 m hk => by obtain ⟨k, hi⟩ := hk; exact (hJ k) l2 l3 m hi) (vp_X3_leftOf_0 w p1 hw μ hpre)
def S_X3_withTrait : Tr := fun av μ P => ∃ (w : Nat) (p1 : Int32), av = [.ref w, .int p1] ∧ (w = 3 ∨ w = 10) ∧ pre_X3_withTrait w p1 μ ∧ ∀ (x : Int32) (m : Mem), post_X3_withTrait w p1 μ x m → P (some (.int x)) m
def vc_X3_withTrait_0 (w : Nat) (p1 : Int32)  (μ : Mem) (R : Int32 → Mem → Prop) (J4 : Int32 → Int32 → Mem → Prop) : Prop :=
  J4 0 0 μ
set_option maxRecDepth 20000 in
set_option maxHeartbeats 4000000 in
theorem wk_X3_withTrait_0 {X : XT} {P : Post} (hO : OkM X cX3_withTrait RX3 0 (some .int) P) (hn : xn X = 4) (w : Nat) (p1 : Int32) (hw : w = 3 ∨ w = 10)  (μ : Mem) {R : Int32 → Mem → Prop} (hR : ∀ x m, R x m → P (some (.int x)) m) {J4 : Int32 → Int32 → Mem → Prop} (hJ4 : ∀ (l2 : Int32) (l3 : Int32) (m : Mem), J4 l2 l3 m → V X 4 [some (.ref w), some (.int p1), some (.int l2), some (.int l3)] [] m)  (h : vc_X3_withTrait_0 w p1  μ R J4) : V X 0 [some (.ref w), some (.int p1), none, none] [] μ := by
  have hX := hO.1
  unfold vc_X3_withTrait_0 at h
  refine v_iconst hX 0 dX3_withTrait_0 rfl (?_ : V X 1 [some (.ref w), some (.int p1), none, none] [.int 0] μ)
  refine v_istore_n hX dX3_withTrait_1 (by rw [hn]; decide) (?_ : V X 2 [some (.ref w), some (.int p1), some (.int 0), none] [] μ)
  refine v_iconst hX 0 dX3_withTrait_2 rfl (?_ : V X 3 [some (.ref w), some (.int p1), some (.int 0), none] [.int 0] μ)
  refine v_istore_n hX dX3_withTrait_3 (by rw [hn]; decide) (?_ : V X 4 [some (.ref w), some (.int p1), some (.int 0), some (.int 0)] [] μ)
  exact v_mask [true, true, true, true] (hJ4 _ _ _ h)
def vc_X3_withTrait_4 (w : Nat) (p1 : Int32) (l2 : Int32) (l3 : Int32) (μ : Mem) (R : Int32 → Mem → Prop) (J4 : Int32 → Int32 → Mem → Prop) : Prop :=
  (((gi μ w 7) ≤ l3 → R l2 μ) ∧ (¬ (gi μ w 7) ≤ l3 → vp_in l3 6 ∧ (∀ y3 : Int32, y3 = l2 ||| ((((gi μ (w + 6) (Int32.toNatClampNeg l3)) >>> (p1 &&& 31)) &&& 1) <<< (l3 &&& 31)) → J4 y3 (l3 + 1) μ)))
set_option maxRecDepth 20000 in
set_option maxHeartbeats 4000000 in
theorem wk_X3_withTrait_4 {X : XT} {P : Post} (hO : OkM X cX3_withTrait RX3 0 (some .int) P) (hn : xn X = 4) (w : Nat) (p1 : Int32) (hw : w = 3 ∨ w = 10) (l2 : Int32) (l3 : Int32) (μ : Mem) {R : Int32 → Mem → Prop} (hR : ∀ x m, R x m → P (some (.int x)) m) {J4 : Int32 → Int32 → Mem → Prop} (hJ4 : ∀ (l2 : Int32) (l3 : Int32) (m : Mem), J4 l2 l3 m → V X 4 [some (.ref w), some (.int p1), some (.int l2), some (.int l3)] [] m)  (h : vc_X3_withTrait_4 w p1 l2 l3 μ R J4) : V X 4 [some (.ref w), some (.int p1), some (.int l2), some (.int l3)] [] μ := by
  have hX := hO.1
  unfold vc_X3_withTrait_4 at h
  refine v_iload_n hX dX3_withTrait_4 rfl (?_ : V X 5 [some (.ref w), some (.int p1), some (.int l2), some (.int l3)] [.int l3] μ)
  refine v_aload_n hX dX3_withTrait_5 rfl (?_ : V X 6 [some (.ref w), some (.int p1), some (.int l2), some (.int l3)] [.ref w, .int l3] μ)
  refine v_geti hX fk_X3_18 (sHo hw) rfl dX3_withTrait_6 (?_ : V X 9 [some (.ref w), some (.int p1), some (.int l2), some (.int l3)] [.int (gi μ w 7), .int l3] μ)
  refine v_icmp_ge hX 33 dX3_withTrait_9 rfl (fun c1 => ?_) (fun c1 => ?_)
  · replace h := h.1 c1
    refine v_iload_n hX dX3_withTrait_33 rfl (?_ : V X 34 [some (.ref w), some (.int p1), some (.int l2), some (.int l3)] [.int l2] μ)
    exact v_iret hO dX3_withTrait_34 (hR _ _ h)
  · replace h := h.2 c1
    refine v_iload_n hX dX3_withTrait_12 rfl (?_ : V X 13 [some (.ref w), some (.int p1), some (.int l2), some (.int l3)] [.int l2] μ)
    refine v_aload_n hX dX3_withTrait_13 rfl (?_ : V X 14 [some (.ref w), some (.int p1), some (.int l2), some (.int l3)] [.ref w, .int l2] μ)
    refine v_getr hX (w + 6) fk_X3_24 (sHo hw) rfl rfl dX3_withTrait_14 (?_ : V X 17 [some (.ref w), some (.int p1), some (.int l2), some (.int l3)] [.ref (w + 6), .int l2] μ)
    refine v_iload_n hX dX3_withTrait_17 rfl (?_ : V X 18 [some (.ref w), some (.int p1), some (.int l2), some (.int l3)] [.int l3, .ref (w + 6), .int l2] μ)
    have hb2 := h.1
    replace h := h.2
    refine w_iald hX (Int32.toNatClampNeg l3) (sH6 hw) hb2 rfl dX3_withTrait_18 (?_ : V X 19 [some (.ref w), some (.int p1), some (.int l2), some (.int l3)] [.int (gi μ (w + 6) (Int32.toNatClampNeg l3)), .int l2] μ)
    refine v_iload_n hX dX3_withTrait_19 rfl (?_ : V X 20 [some (.ref w), some (.int p1), some (.int l2), some (.int l3)] [.int p1, .int (gi μ (w + 6) (Int32.toNatClampNeg l3)), .int l2] μ)
    refine v_ishr hX dX3_withTrait_20 (?_ : V X 21 [some (.ref w), some (.int p1), some (.int l2), some (.int l3)] [.int ((gi μ (w + 6) (Int32.toNatClampNeg l3)) >>> (p1 &&& 31)), .int l2] μ)
    refine v_iconst hX 1 dX3_withTrait_21 rfl (?_ : V X 22 [some (.ref w), some (.int p1), some (.int l2), some (.int l3)] [.int 1, .int ((gi μ (w + 6) (Int32.toNatClampNeg l3)) >>> (p1 &&& 31)), .int l2] μ)
    refine v_iand hX dX3_withTrait_22 (?_ : V X 23 [some (.ref w), some (.int p1), some (.int l2), some (.int l3)] [.int (((gi μ (w + 6) (Int32.toNatClampNeg l3)) >>> (p1 &&& 31)) &&& 1), .int l2] μ)
    refine v_iload_n hX dX3_withTrait_23 rfl (?_ : V X 24 [some (.ref w), some (.int p1), some (.int l2), some (.int l3)] [.int l3, .int (((gi μ (w + 6) (Int32.toNatClampNeg l3)) >>> (p1 &&& 31)) &&& 1), .int l2] μ)
    refine v_ishl hX dX3_withTrait_24 (?_ : V X 25 [some (.ref w), some (.int p1), some (.int l2), some (.int l3)] [.int ((((gi μ (w + 6) (Int32.toNatClampNeg l3)) >>> (p1 &&& 31)) &&& 1) <<< (l3 &&& 31)), .int l2] μ)
    refine v_ior hX dX3_withTrait_25 (?_ : V X 26 [some (.ref w), some (.int p1), some (.int l2), some (.int l3)] [.int (l2 ||| ((((gi μ (w + 6) (Int32.toNatClampNeg l3)) >>> (p1 &&& 31)) &&& 1) <<< (l3 &&& 31)))] μ)
    refine w_istore_n hX dX3_withTrait_26 (by rw [hn]; decide) (fun y3 e4 => (?_ : V X 27 [some (.ref w), some (.int p1), some (.int y3), some (.int l3)] [] μ))
    replace h := h y3 e4
    refine v_iinc hX 1 dX3_withTrait_27 (by rw [hn]; decide) rfl rfl (?_ : V X 30 [some (.ref w), some (.int p1), some (.int y3), some (.int (l3 + 1))] [] μ)
    refine v_goto hX 4 dX3_withTrait_30 rfl (?_ : V X 4 [some (.ref w), some (.int p1), some (.int y3), some (.int (l3 + 1))] [] μ)
    exact v_mask [true, true, true, true] (hJ4 _ _ _ h)
set_option maxRecDepth 20000 in
set_option maxHeartbeats 4000000 in
theorem vp_X3_withTrait_0 (w : Nat) (p1 : Int32) (hw : w = 3 ∨ w = 10) (μ : Mem) (hpre : pre_X3_withTrait w p1 μ) : vc_X3_withTrait_0 w p1 μ (post_X3_withTrait w p1 μ) (fun l2 l3 m => ∃ k : Nat, inv_X3_withTrait_4 w p1 μ k l2 l3 m) := by
  simp only [vc_X3_withTrait_0, and_imp, call_eq, forall_eq, forall_const, true_and, and_true]
  exact ⟨gn μ w 7, 0, Nat.zero_le _, rfl, rfl, rfl, rfl⟩
set_option maxRecDepth 20000 in
set_option maxHeartbeats 4000000 in
theorem vp_X3_withTrait_4 (w : Nat) (p1 : Int32) (hw : w = 3 ∨ w = 10) (μ : Mem) (hpre : pre_X3_withTrait w p1 μ) (n : Nat) (l2 : Int32) (l3 : Int32) (μ0 : Mem) (hi : inv_X3_withTrait_4 w p1 μ n l2 l3 μ0) : vc_X3_withTrait_4 w p1 l2 l3 μ0 (post_X3_withTrait w p1 μ) (fun l2 l3 m => ∃ k : Nat, k < n ∧ inv_X3_withTrait_4 w p1 μ k l2 l3 m) := by
  simp only [vc_X3_withTrait_4, and_imp, call_eq, forall_eq, forall_const, true_and, and_true]
  obtain ⟨i, hi1, rfl, rfl, rfl, rfl⟩ := hi
  have hb := hpre.2
  unfold pre_X3_withTrait at hpre
  rw [isN_le hpre (by omega) (by omega), nI_clamp (by omega)]
  refine ⟨fun c => ?_, fun c => ⟨vp_in_nI (by omega) (by omega), gn μ0 w 7 - (i + 1), by omega, i + 1, by omega, rfl, nI_1 i, rfl, rfl⟩⟩
  have : i = gn μ0 w 7 := by omega
  subst this
  exact ⟨rfl, rfl⟩
theorem sp_X3_withTrait : Sp yX3_withTrait cX3_withTrait 4 (some .int) 0 S_X3_withTrait := by
  refine sp_of (by decide) (fun av μ P h => ?_) ?_
  · obtain ⟨w, p1, rfl, -⟩ := h
    refine ⟨Nat.le_of_ble_eq_true rfl, fun v hv => ?_⟩
    simp only [List.mem_cons, List.not_mem_nil, or_false] at hv
    rcases hv with rfl | rfl <;> rfl
  · rintro X P hO _ μ ⟨w, p1, rfl, hw, hpre, hpost⟩ hn
    have hJ : ∀ n : Nat, (∀ (l2 : Int32) (l3 : Int32) (m : Mem), inv_X3_withTrait_4 w p1 μ n l2 l3 m → V X 4 [some (.ref w), some (.int p1), some (.int l2), some (.int l3)] [] m) := by
      intro n
      induction n using Nat.strongRecOn with
      | _ n ih =>
        exact fun l2 l3 m hi => wk_X3_withTrait_4 (J4 := (fun l2 l3 m => ∃ k : Nat, k < n ∧ inv_X3_withTrait_4 w p1 μ k l2 l3 m)) hO hn w p1 hw l2 l3 m hpost (fun l2 l3 m hk => by obtain ⟨k, hk, hi⟩ := hk; exact (ih k hk) l2 l3 m hi) (vp_X3_withTrait_4 w p1 hw μ hpre n l2 l3 m hi)
    exact wk_X3_withTrait_0 (J4 := (fun l2 l3 m => ∃ k : Nat, inv_X3_withTrait_4 w p1 μ k l2 l3 m)) hO hn w p1 hw μ hpost (fun l2 l3 m hk => by obtain ⟨k, hi⟩ := hk; exact (hJ k) l2 l3 m hi) (vp_X3_withTrait_0 w p1 hw μ hpre)

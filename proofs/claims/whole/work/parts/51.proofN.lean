theorem or_bit : ∀ n, n < 6 → ∀ k, k < 64 → k < 2 ^ n → nI k ||| ((1 : Int32) <<< (nI n &&& 31)) = nI (k + 2 ^ n) := by decide +kernel
theorem orI_bits (f : Nat → Int32) : ∀ n, n ≤ 6 → (∀ s, s < n → f s = 0 ∨ f s = 1 <<< (nI s &&& 31)) → ∃ k, k < 2 ^ n ∧ orI f n = nI k := by
  intro n
  induction n with
  | zero => intro _ _; exact ⟨0, by simp, rfl⟩
  | succ n ih =>
    intro hn hf
    obtain ⟨k, hk, e⟩ := ih (by omega) (fun s hs => hf s (by omega))
    have hp : 2 ^ n ≤ 2 ^ 5 := Nat.pow_le_pow_right (by omega) (by omega)
    rw [orI, e]
    rcases hf n (by omega) with h | h
    · exact ⟨k, by rw [Nat.pow_succ]; omega, by rw [h, orI_0]⟩
    · exact ⟨k + 2 ^ n, by rw [Nat.pow_succ]; omega, by rw [h, or_bit n (by omega) k (by omega) hk]⟩
theorem and1 (x : Int32) : x &&& 1 = 0 ∨ x &&& 1 = 1 := by
  obtain ⟨j, hj, e⟩ := pk_andE x (m := 1) 1 (by decide)
  have : j = 0 ∨ j = 1 := by omega
  rcases this with rfl | rfl
  · left; rw [e]; rfl
  · right; rw [e]; rfl
theorem shl_b (b : Int32) (s : Nat) (hs : s < 6) (h : b = 0 ∨ b = 1) : b <<< (nI s &&& 31) = if b = 1 then 1 <<< (nI s &&& 31) else 0 := by
  have h0 : ∀ s, s < 6 → (0 : Int32) <<< (nI s &&& 31) = 0 := by decide +kernel
  rcases h with rfl | rfl
  · rw [h0 s hs, if_neg (by decide)]
  · rw [if_pos rfl]
theorem with_bits {μ : Mem} {w : Nat} (h : isN μ w 7 6) (t : Int32) : withC μ w t = nI (withC μ w t).toNatClampNeg ∧ (withC μ w t).toNatClampNeg < 64 := by
  have hb := h.2
  obtain ⟨k, hk, e⟩ := orI_bits (fun s => (gi μ (w + 6) s >>> (t &&& 31) &&& 1) <<< (nI s &&& 31)) (gn μ w 7) hb (fun s hs => by
    show (gi μ (w + 6) s >>> (t &&& 31) &&& 1) <<< (nI s &&& 31) = 0 ∨ _
    rw [shl_b _ s (by omega) (and1 _)]
    split
    · exact Or.inr rfl
    · exact Or.inl rfl)
  have hp : 2 ^ gn μ w 7 ≤ 2 ^ 6 := Nat.pow_le_pow_right (by omega) hb
  have e2 : withC μ w t = nI k := e
  rw [e2, nI_clamp (by omega)]
  exact ⟨rfl, by omega⟩
theorem hav_bits {μ : Mem} (h : isN μ 77 2 6) (t : Int32) : havF μ t = nI (havF μ t).toNatClampNeg ∧ (havF μ t).toNatClampNeg < 64 := by
  have hb := h.2
  obtain ⟨k, hk, e⟩ := orI_bits (fun s => if gi μ 83 s >>> (t &&& 31) &&& 1 = 1 then 1 <<< (nI s &&& 31) else 0) (gn μ 77 2) hb (fun s hs => by
    show (if _ then _ else _) = (0 : Int32) ∨ _
    split
    · exact Or.inr rfl
    · exact Or.inl rfl)
  have hp : 2 ^ gn μ 77 2 ≤ 2 ^ 6 := Nat.pow_le_pow_right (by omega) hb
  have e2 : havF μ t = nI k := e
  rw [e2, nI_clamp (by omega)]
  exact ⟨rfl, by omega⟩
theorem leftC_bits {μ : Mem} {w : Nat} (h : isN μ w 7 6) (t : Int32) : leftC μ w t = nI (leftC μ w t).toNatClampNeg ∧ (leftC μ w t).toNatClampNeg < 64 := by
  have hb := h.2
  obtain ⟨k, hk, e⟩ := orI_bits (fun s => if (gi μ (w + 6) s ^^^ gi μ (w + 6) (gn μ w 9)) &&& t = 0 then 1 <<< (nI s &&& 31) else 0) (gn μ w 7) hb (fun s hs => by
    show (if _ then _ else _) = (0 : Int32) ∨ _
    split
    · exact Or.inr rfl
    · exact Or.inl rfl)
  have hp : 2 ^ gn μ w 7 ≤ 2 ^ 6 := Nat.pow_le_pow_right (by omega) hb
  have e2 : leftC μ w t = nI k := e
  rw [e2, nI_clamp (by omega)]
  exact ⟨rfl, by omega⟩
theorem leftM_bits {μ : Mem} (h : isN μ 77 2 6) : leftM μ = nI (leftM μ).toNatClampNeg ∧ (leftM μ).toNatClampNeg < 64 := by
  have hb := h.2
  obtain ⟨k, hk, e⟩ := orI_bits (fun s => if (gi μ 83 s ^^^ gi μ 83 (gn μ 77 3)) &&& gi μ 84 4 = 0 then 1 <<< (nI s &&& 31) else 0) (gn μ 77 2) hb (fun s hs => by
    show (if _ then _ else _) = (0 : Int32) ∨ _
    split
    · exact Or.inr rfl
    · exact Or.inl rfl)
  have hp : 2 ^ gn μ 77 2 ≤ 2 ^ 6 := Nat.pow_le_pow_right (by omega) hb
  have e2 : leftM μ = nI k := e
  rw [e2, nI_clamp (by omega)]
  exact ⟨rfl, by omega⟩
theorem and_n : ∀ s, s < 64 → ∀ h, h < 64 → nI s &&& nI h = nI (s &&& h) := by decide +kernel
theorem and_c : ∀ s, s < 64 → ∀ h, h < 64 → nI s &&& (nI h ^^^ -1) = nI (s &&& (63 ^^^ h)) := by decide +kernel
theorem and_d : ∀ s, s < 64 → ∀ h, h < 64 → nI s &&& (nI (s &&& h) ^^^ -1) = nI (s &&& (63 ^^^ h)) := by decide +kernel
theorem parts_lt : ∀ s, s < 64 → ∀ h, h < 64 → (s &&& h ≤ s ∧ s &&& (63 ^^^ h) ≤ s) ∧ (s &&& h = 0 ∨ s &&& (63 ^^^ h) = 0 ∨ (s &&& h < s ∧ s &&& (63 ^^^ h) < s)) := by decide +kernel
theorem stp_congr {T T' hv : Nat → Nat} {z s : Nat} (hs : s < 64) (hT : ∀ q, q < s → T q = T' q) : ∀ t, (∀ k, k < t → hv k < 64) → stp T hv z s t = stp T' hv z s t := by
  intro t
  induction t with
  | zero => intro _; rfl
  | succ t ih =>
    intro hh
    rw [stp, stp, ih (fun k hk => hh k (by omega))]
    rcases (parts_lt s hs (hv t) (hh t (by omega))).2 with h | h | h
    · rw [if_pos (Or.inl h), if_pos (Or.inl h)]
    · rw [if_pos (Or.inr h), if_pos (Or.inr h)]
    · rw [hT _ h.1, hT _ h.2]
theorem stp_hv {T hv hv' : Nat → Nat} {z s : Nat} : ∀ t, (∀ k, k < t → hv k = hv' k) → stp T hv z s t = stp T hv' z s t := by
  intro t
  induction t with
  | zero => intro _; rfl
  | succ t ih => intro hh; rw [stp, stp, ih (fun k hk => hh k (by omega)), hh t (by omega)]
theorem stp_le {T hv : Nat → Nat} {z s : Nat} : ∀ t, stp T hv z s t ≤ z := by
  intro t
  induction t with
  | zero => exact Nat.le_refl _
  | succ t ih =>
    rw [stp]; split
    · exact ih
    · exact Nat.le_trans (Nat.min_le_left _ _) ih
theorem stp_s {T hv : Nat → Nat} {z s : Nat} (hs : s < 64) (hT : ∀ q, q < s → T q ≤ q) : ∀ t, (∀ k, k < t → hv k < 64) → stp T hv z s t = z ∨ stp T hv z s t ≤ s := by
  intro t
  induction t with
  | zero => intro _; exact Or.inl rfl
  | succ t ih =>
    intro hh
    rw [stp]; split
    · exact ih (fun k hk => hh k (by omega))
    · rename_i hc
      right
      rcases (parts_lt s hs (hv t) (hh t (by omega))).2 with h | h | h
      · exact absurd (Or.inl h) hc
      · exact absurd (Or.inr h) hc
      · have h1 := hT _ h.1
        have h2 := hT _ h.2
        have : max (T (s &&& hv t)) (T (s &&& (63 ^^^ hv t))) + 1 ≤ s := by omega
        exact Nat.le_trans (Nat.min_le_right _ _) (by omega)
def S_X3_bestTrait : Tr := fun av μ P => ∃ (w : Nat) (p1 : Int32), av = [.ref w, .int p1] ∧ (w = 3 ∨ w = 10) ∧ pre_X3_bestTrait w p1 μ ∧ ∀ (x : Int32) (m : Mem), post_X3_bestTrait w p1 μ x m → P (some (.int x)) m
def vc_X3_bestTrait_0 (w : Nat) (p1 : Int32)  (μ : Mem) (R : Int32 → Mem → Prop) (J31 : Int32 → Int32 → Int32 → Int32 → Int32 → Mem → Prop) : Prop :=
  (pre_X3_leftOf w p1 μ ∧ ∀ (x1 : Int32) (μ2 : Mem), post_X3_leftOf w p1 μ x1 μ2 → (pre_J6_bitCount_0f7a4 x1 μ2 ∧ ∀ (x4 : Int32) (μ5 : Mem), post_J6_bitCount_0f7a4 x1 μ2 x4 μ5 → ((1 < x4 → J31 x1 x4 ((-9)) (x4 + 1) 0 μ5) ∧ (¬ 1 < x4 → R ((-9)) μ5))))
set_option maxRecDepth 20000 in
set_option maxHeartbeats 4000000 in
theorem wk_X3_bestTrait_0 {X : XT} {P : Post} (hO : OkM X cX3_bestTrait RX3 1 (some .int) P) (hn : xn X = 9) (w : Nat) (p1 : Int32) (hw : w = 3 ∨ w = 10)  (μ : Mem) {R : Int32 → Mem → Prop} (hR : ∀ x m, R x m → P (some (.int x)) m) {J31 : Int32 → Int32 → Int32 → Int32 → Int32 → Mem → Prop} (hJ31 : ∀ (l2 : Int32) (l3 : Int32) (l4 : Int32) (l5 : Int32) (l6 : Int32) (m : Mem), J31 l2 l3 l4 l5 l6 m → V X 31 [some (.ref w), some (.int p1), some (.int l2), some (.int l3), some (.int l4), some (.int l5), some (.int l6), none, none] [] m)  (h : vc_X3_bestTrait_0 w p1  μ R J31) : V X 0 [some (.ref w), some (.int p1), none, none, none, none, none, none, none] [] μ := by
  have hX := hO.1
  unfold vc_X3_bestTrait_0 at h
  refine v_aload_n hX dX3_bestTrait_0 rfl (?_ : V X 1 [some (.ref w), some (.int p1), none, none, none, none, none, none, none] [.ref w] μ)
  refine v_iload_n hX dX3_bestTrait_1 rfl (?_ : V X 2 [some (.ref w), some (.int p1), none, none, none, none, none, none, none] [.int p1, .ref w] μ)
  refine v_callS hX sp_X3_leftOf ck_X3_leftOf mk_X3_30 sk_X3_leftOf (by decide) [.ref w, .int p1] [] rfl rfl (Nat.le_of_ble_eq_true rfl) dX3_bestTrait_2 ⟨w, p1, rfl, hw, h.1, fun x1 μ2 hp3 => (?_ : V X 5 [some (.ref w), some (.int p1), none, none, none, none, none, none, none] [.int x1] μ2)⟩
  replace h := h.2 x1 μ2 hp3
  refine v_istore_n hX dX3_bestTrait_5 (by rw [hn]; decide) (?_ : V X 6 [some (.ref w), some (.int p1), some (.int x1), none, none, none, none, none, none] [] μ2)
  refine v_iload_n hX dX3_bestTrait_6 rfl (?_ : V X 7 [some (.ref w), some (.int p1), some (.int x1), none, none, none, none, none, none] [.int x1] μ2)
  refine v_callS hX sp_J6_bitCount_0f7a4 ck_J6_bitCount_0f7a4 mk_X3_34 sk_J6_bitCount_0f7a4 (by decide) [.int x1] [] rfl rfl (Nat.le_of_ble_eq_true rfl) dX3_bestTrait_7 ⟨x1, rfl, h.1, fun x4 μ5 hp6 => (?_ : V X 10 [some (.ref w), some (.int p1), some (.int x1), none, none, none, none, none, none] [.int x4] μ5)⟩
  replace h := h.2 x4 μ5 hp6
  refine v_istore_n hX dX3_bestTrait_10 (by rw [hn]; decide) (?_ : V X 11 [some (.ref w), some (.int p1), some (.int x1), some (.int x4), none, none, none, none, none] [] μ5)
  refine v_iload_n hX dX3_bestTrait_11 rfl (?_ : V X 12 [some (.ref w), some (.int p1), some (.int x1), some (.int x4), none, none, none, none, none] [.int x4] μ5)
  refine v_iconst hX 1 dX3_bestTrait_12 rfl (?_ : V X 13 [some (.ref w), some (.int p1), some (.int x1), some (.int x4), none, none, none, none, none] [.int 1, .int x4] μ5)
  refine v_icmp_gt hX 19 dX3_bestTrait_13 rfl (fun c7 => ?_) (fun c7 => ?_)
  · replace h := h.1 c7
    refine v_bipush hX (-9) dX3_bestTrait_19 rfl (?_ : V X 21 [some (.ref w), some (.int p1), some (.int x1), some (.int x4), none, none, none, none, none] [.int ((-9))] μ5)
    refine v_istore hX dX3_bestTrait_21 (by rw [hn]; decide) (?_ : V X 23 [some (.ref w), some (.int p1), some (.int x1), some (.int x4), some (.int ((-9))), none, none, none, none] [] μ5)
    refine v_iload_n hX dX3_bestTrait_23 rfl (?_ : V X 24 [some (.ref w), some (.int p1), some (.int x1), some (.int x4), some (.int ((-9))), none, none, none, none] [.int x4] μ5)
    refine v_iconst hX 1 dX3_bestTrait_24 rfl (?_ : V X 25 [some (.ref w), some (.int p1), some (.int x1), some (.int x4), some (.int ((-9))), none, none, none, none] [.int 1, .int x4] μ5)
    refine v_iadd hX dX3_bestTrait_25 (?_ : V X 26 [some (.ref w), some (.int p1), some (.int x1), some (.int x4), some (.int ((-9))), none, none, none, none] [.int (x4 + 1)] μ5)
    refine v_istore hX dX3_bestTrait_26 (by rw [hn]; decide) (?_ : V X 28 [some (.ref w), some (.int p1), some (.int x1), some (.int x4), some (.int ((-9))), some (.int (x4 + 1)), none, none, none] [] μ5)
    refine v_iconst hX 0 dX3_bestTrait_28 rfl (?_ : V X 29 [some (.ref w), some (.int p1), some (.int x1), some (.int x4), some (.int ((-9))), some (.int (x4 + 1)), none, none, none] [.int 0] μ5)
    refine v_istore hX dX3_bestTrait_29 (by rw [hn]; decide) (?_ : V X 31 [some (.ref w), some (.int p1), some (.int x1), some (.int x4), some (.int ((-9))), some (.int (x4 + 1)), some (.int 0), none, none] [] μ5)
    exact v_mask [true, true, true, true, true, true, true, false, false] (hJ31 _ _ _ _ _ _ h)
  · replace h := h.2 c7
    refine v_bipush hX (-9) dX3_bestTrait_16 rfl (?_ : V X 18 [some (.ref w), some (.int p1), some (.int x1), some (.int x4), none, none, none, none, none] [.int ((-9))] μ5)
    exact v_iret hO dX3_bestTrait_18 (hR _ _ h)
def vc_X3_bestTrait_31 (w : Nat) (p1 : Int32) (l2 : Int32) (l3 : Int32) (l4 : Int32) (l5 : Int32) (l6 : Int32) (μ : Mem) (R : Int32 → Mem → Prop) (J31 : Int32 → Int32 → Int32 → Int32 → Int32 → Mem → Prop) : Prop :=
  ((5 ≤ l6 → R l4 μ) ∧ (¬ 5 ≤ l6 → (pre_X3_withTrait w l6 μ ∧ ∀ (x2 : Int32) (μ3 : Mem), post_X3_withTrait w l6 μ x2 μ3 → (pre_J6_bitCount_0f7a4 (l2 &&& x2) μ3 ∧ ∀ (x5 : Int32) (μ6 : Mem), post_J6_bitCount_0f7a4 (l2 &&& x2) μ3 x5 μ6 → ((¬ ((p1 >>> (l6 &&& 31)) &&& 1) = 0 → J31 l2 l3 l4 l5 (l6 + 1) μ6) ∧ (((p1 >>> (l6 &&& 31)) &&& 1) = 0 → ((l5 ≤ (if x5 < (l3 - x5) then (l3 - x5) else x5) → J31 l2 l3 l4 l5 (l6 + 1) μ6) ∧ (¬ l5 ≤ (if x5 < (l3 - x5) then (l3 - x5) else x5) → J31 l2 l3 l6 (if x5 < (l3 - x5) then (l3 - x5) else x5) (l6 + 1) μ6))))))))
set_option maxRecDepth 20000 in
set_option maxHeartbeats 4000000 in
theorem wk_X3_bestTrait_31 {X : XT} {P : Post} (hO : OkM X cX3_bestTrait RX3 1 (some .int) P) (hn : xn X = 9) (w : Nat) (p1 : Int32) (hw : w = 3 ∨ w = 10) (l2 : Int32) (l3 : Int32) (l4 : Int32) (l5 : Int32) (l6 : Int32) (μ : Mem) {R : Int32 → Mem → Prop} (hR : ∀ x m, R x m → P (some (.int x)) m) {J31 : Int32 → Int32 → Int32 → Int32 → Int32 → Mem → Prop} (hJ31 : ∀ (l2 : Int32) (l3 : Int32) (l4 : Int32) (l5 : Int32) (l6 : Int32) (m : Mem), J31 l2 l3 l4 l5 l6 m → V X 31 [some (.ref w), some (.int p1), some (.int l2), some (.int l3), some (.int l4), some (.int l5), some (.int l6), none, none] [] m)  (h : vc_X3_bestTrait_31 w p1 l2 l3 l4 l5 l6 μ R J31) : V X 31 [some (.ref w), some (.int p1), some (.int l2), some (.int l3), some (.int l4), some (.int l5), some (.int l6), none, none] [] μ := by
  have hX := hO.1
  unfold vc_X3_bestTrait_31 at h
  refine v_iload hX dX3_bestTrait_31 rfl (?_ : V X 33 [some (.ref w), some (.int p1), some (.int l2), some (.int l3), some (.int l4), some (.int l5), some (.int l6), none, none] [.int l6] μ)
  refine v_iconst hX 5 dX3_bestTrait_33 rfl (?_ : V X 34 [some (.ref w), some (.int p1), some (.int l2), some (.int l3), some (.int l4), some (.int l5), some (.int l6), none, none] [.int 5, .int l6] μ)
  refine v_icmp_ge hX 91 dX3_bestTrait_34 rfl (fun c1 => ?_) (fun c1 => ?_)
  · replace h := h.1 c1
    refine v_iload hX dX3_bestTrait_91 rfl (?_ : V X 93 [some (.ref w), some (.int p1), some (.int l2), some (.int l3), some (.int l4), some (.int l5), some (.int l6), none, none] [.int l4] μ)
    exact v_iret hO dX3_bestTrait_93 (hR _ _ h)
  · replace h := h.2 c1
    refine v_iload_n hX dX3_bestTrait_37 rfl (?_ : V X 38 [some (.ref w), some (.int p1), some (.int l2), some (.int l3), some (.int l4), some (.int l5), some (.int l6), none, none] [.int l2] μ)
    refine v_aload_n hX dX3_bestTrait_38 rfl (?_ : V X 39 [some (.ref w), some (.int p1), some (.int l2), some (.int l3), some (.int l4), some (.int l5), some (.int l6), none, none] [.ref w, .int l2] μ)
    refine v_iload hX dX3_bestTrait_39 rfl (?_ : V X 41 [some (.ref w), some (.int p1), some (.int l2), some (.int l3), some (.int l4), some (.int l5), some (.int l6), none, none] [.int l6, .ref w, .int l2] μ)
    refine v_callS hX sp_X3_withTrait ck_X3_withTrait mk_X3_40 sk_X3_withTrait (by decide) [.ref w, .int l6] [.int l2] rfl rfl (Nat.le_of_ble_eq_true rfl) dX3_bestTrait_41 ⟨w, l6, rfl, hw, h.1, fun x2 μ3 hp4 => (?_ : V X 44 [some (.ref w), some (.int p1), some (.int l2), some (.int l3), some (.int l4), some (.int l5), some (.int l6), none, none] [.int x2, .int l2] μ3)⟩
    replace h := h.2 x2 μ3 hp4
    refine v_iand hX dX3_bestTrait_44 (?_ : V X 45 [some (.ref w), some (.int p1), some (.int l2), some (.int l3), some (.int l4), some (.int l5), some (.int l6), none, none] [.int (l2 &&& x2)] μ3)
    refine v_callS hX sp_J6_bitCount_0f7a4 ck_J6_bitCount_0f7a4 mk_X3_34 sk_J6_bitCount_0f7a4 (by decide) [.int (l2 &&& x2)] [] rfl rfl (Nat.le_of_ble_eq_true rfl) dX3_bestTrait_45 ⟨(l2 &&& x2), rfl, h.1, fun x5 μ6 hp7 => (?_ : V X 48 [some (.ref w), some (.int p1), some (.int l2), some (.int l3), some (.int l4), some (.int l5), some (.int l6), none, none] [.int x5] μ6)⟩
    replace h := h.2 x5 μ6 hp7
    refine v_istore hX dX3_bestTrait_48 (by rw [hn]; decide) (?_ : V X 50 [some (.ref w), some (.int p1), some (.int l2), some (.int l3), some (.int l4), some (.int l5), some (.int l6), some (.int x5), none] [] μ6)
    refine v_iload hX dX3_bestTrait_50 rfl (?_ : V X 52 [some (.ref w), some (.int p1), some (.int l2), some (.int l3), some (.int l4), some (.int l5), some (.int l6), some (.int x5), none] [.int x5] μ6)
    refine v_iload_n hX dX3_bestTrait_52 rfl (?_ : V X 53 [some (.ref w), some (.int p1), some (.int l2), some (.int l3), some (.int l4), some (.int l5), some (.int l6), some (.int x5), none] [.int l3, .int x5] μ6)
    refine v_iload hX dX3_bestTrait_53 rfl (?_ : V X 55 [some (.ref w), some (.int p1), some (.int l2), some (.int l3), some (.int l4), some (.int l5), some (.int l6), some (.int x5), none] [.int x5, .int l3, .int x5] μ6)
    refine v_isub hX dX3_bestTrait_55 (?_ : V X 56 [some (.ref w), some (.int p1), some (.int l2), some (.int l3), some (.int l4), some (.int l5), some (.int l6), some (.int x5), none] [.int (l3 - x5), .int x5] μ6)
    refine v_mmax hX mk_X3_43 twMax (by decide) (Nat.le_of_ble_eq_true rfl) dX3_bestTrait_56 (?_ : V X 59 [some (.ref w), some (.int p1), some (.int l2), some (.int l3), some (.int l4), some (.int l5), some (.int l6), some (.int x5), none] [.int (if x5 < (l3 - x5) then (l3 - x5) else x5)] μ6)
    refine v_istore hX dX3_bestTrait_59 (by rw [hn]; decide) (?_ : V X 61 [some (.ref w), some (.int p1), some (.int l2), some (.int l3), some (.int l4), some (.int l5), some (.int l6), some (.int x5), some (.int (if x5 < (l3 - x5) then (l3 - x5) else x5))] [] μ6)
    refine v_iload_n hX dX3_bestTrait_61 rfl (?_ : V X 62 [some (.ref w), some (.int p1), some (.int l2), some (.int l3), some (.int l4), some (.int l5), some (.int l6), some (.int x5), some (.int (if x5 < (l3 - x5) then (l3 - x5) else x5))] [.int p1] μ6)
    refine v_iload hX dX3_bestTrait_62 rfl (?_ : V X 64 [some (.ref w), some (.int p1), some (.int l2), some (.int l3), some (.int l4), some (.int l5), some (.int l6), some (.int x5), some (.int (if x5 < (l3 - x5) then (l3 - x5) else x5))] [.int l6, .int p1] μ6)
    refine v_ishr hX dX3_bestTrait_64 (?_ : V X 65 [some (.ref w), some (.int p1), some (.int l2), some (.int l3), some (.int l4), some (.int l5), some (.int l6), some (.int x5), some (.int (if x5 < (l3 - x5) then (l3 - x5) else x5))] [.int (p1 >>> (l6 &&& 31))] μ6)
    refine v_iconst hX 1 dX3_bestTrait_65 rfl (?_ : V X 66 [some (.ref w), some (.int p1), some (.int l2), some (.int l3), some (.int l4), some (.int l5), some (.int l6), some (.int x5), some (.int (if x5 < (l3 - x5) then (l3 - x5) else x5))] [.int 1, .int (p1 >>> (l6 &&& 31))] μ6)
    refine v_iand hX dX3_bestTrait_66 (?_ : V X 67 [some (.ref w), some (.int p1), some (.int l2), some (.int l3), some (.int l4), some (.int l5), some (.int l6), some (.int x5), some (.int (if x5 < (l3 - x5) then (l3 - x5) else x5))] [.int ((p1 >>> (l6 &&& 31)) &&& 1)] μ6)
    refine v_if_ne hX 85 dX3_bestTrait_67 rfl (fun c8 => ?_) (fun c8 => ?_)
    · replace h := h.1 c8
      refine v_iinc hX 1 dX3_bestTrait_85 (by rw [hn]; decide) rfl rfl (?_ : V X 88 [some (.ref w), some (.int p1), some (.int l2), some (.int l3), some (.int l4), some (.int l5), some (.int (l6 + 1)), some (.int x5), some (.int (if x5 < (l3 - x5) then (l3 - x5) else x5))] [] μ6)
      refine v_goto hX 31 dX3_bestTrait_88 rfl (?_ : V X 31 [some (.ref w), some (.int p1), some (.int l2), some (.int l3), some (.int l4), some (.int l5), some (.int (l6 + 1)), some (.int x5), some (.int (if x5 < (l3 - x5) then (l3 - x5) else x5))] [] μ6)
      exact v_mask [true, true, true, true, true, true, true, false, false] (hJ31 _ _ _ _ _ _ h)
    · replace h := h.2 c8
      refine v_iload hX dX3_bestTrait_70 rfl (?_ : V X 72 [some (.ref w), some (.int p1), some (.int l2), some (.int l3), some (.int l4), some (.int l5), some (.int l6), some (.int x5), some (.int (if x5 < (l3 - x5) then (l3 - x5) else x5))] [.int (if x5 < (l3 - x5) then (l3 - x5) else x5)] μ6)
      refine v_iload hX dX3_bestTrait_72 rfl (?_ : V X 74 [some (.ref w), some (.int p1), some (.int l2), some (.int l3), some (.int l4), some (.int l5), some (.int l6), some (.int x5), some (.int (if x5 < (l3 - x5) then (l3 - x5) else x5))] [.int l5, .int (if x5 < (l3 - x5) then (l3 - x5) else x5)] μ6)
      refine v_icmp_ge hX 85 dX3_bestTrait_74 rfl (fun c9 => ?_) (fun c9 => ?_)
      · replace h := h.1 c9
        refine v_iinc hX 1 dX3_bestTrait_85 (by rw [hn]; decide) rfl rfl (?_ : V X 88 [some (.ref w), some (.int p1), some (.int l2), some (.int l3), some (.int l4), some (.int l5), some (.int (l6 + 1)), some (.int x5), some (.int (if x5 < (l3 - x5) then (l3 - x5) else x5))] [] μ6)
        refine v_goto hX 31 dX3_bestTrait_88 rfl (?_ : V X 31 [some (.ref w), some (.int p1), some (.int l2), some (.int l3), some (.int l4), some (.int l5), some (.int (l6 + 1)), some (.int x5), some (.int (if x5 < (l3 - x5) then (l3 - x5) else x5))] [] μ6)
        exact v_mask [true, true, true, true, true, true, true, false, false] (hJ31 _ _ _ _ _ _ h)
      · replace h := h.2 c9
        refine v_iload hX dX3_bestTrait_77 rfl (?_ : V X 79 [some (.ref w), some (.int p1), some (.int l2), some (.int l3), some (.int l4), some (.int l5), some (.int l6), some (.int x5), some (.int (if x5 < (l3 - x5) then (l3 - x5) else x5))] [.int (if x5 < (l3 - x5) then (l3 - x5) else x5)] μ6)
        refine v_istore hX dX3_bestTrait_79 (by rw [hn]; decide) (?_ : V X 81 [some (.ref w), some (.int p1), some (.int l2), some (.int l3), some (.int l4), some (.int (if x5 < (l3 - x5) then (l3 - x5) else x5)), some (.int l6), some (.int x5), some (.int (if x5 < (l3 - x5) then (l3 - x5) else x5))] [] μ6)
        refine v_iload hX dX3_bestTrait_81 rfl (?_ : V X 83 [some (.ref w), some (.int p1), some (.int l2), some (.int l3), some (.int l4), some (.int (if x5 < (l3 - x5) then (l3 - x5) else x5)), some (.int l6), some (.int x5), some (.int (if x5 < (l3 - x5) then (l3 - x5) else x5))] [.int l6] μ6)
        refine v_istore hX dX3_bestTrait_83 (by rw [hn]; decide) (?_ : V X 85 [some (.ref w), some (.int p1), some (.int l2), some (.int l3), some (.int l6), some (.int (if x5 < (l3 - x5) then (l3 - x5) else x5)), some (.int l6), some (.int x5), some (.int (if x5 < (l3 - x5) then (l3 - x5) else x5))] [] μ6)
        refine v_iinc hX 1 dX3_bestTrait_85 (by rw [hn]; decide) rfl rfl (?_ : V X 88 [some (.ref w), some (.int p1), some (.int l2), some (.int l3), some (.int l6), some (.int (if x5 < (l3 - x5) then (l3 - x5) else x5)), some (.int (l6 + 1)), some (.int x5), some (.int (if x5 < (l3 - x5) then (l3 - x5) else x5))] [] μ6)
        refine v_goto hX 31 dX3_bestTrait_88 rfl (?_ : V X 31 [some (.ref w), some (.int p1), some (.int l2), some (.int l3), some (.int l6), some (.int (if x5 < (l3 - x5) then (l3 - x5) else x5)), some (.int (l6 + 1)), some (.int x5), some (.int (if x5 < (l3 - x5) then (l3 - x5) else x5))] [] μ6)
        exact v_mask [true, true, true, true, true, true, true, false, false] (hJ31 _ _ _ _ _ _ h)
set_option maxRecDepth 20000 in
set_option maxHeartbeats 4000000 in
theorem vp_X3_bestTrait_0 (w : Nat) (p1 : Int32) (hw : w = 3 ∨ w = 10) (μ : Mem) (hpre : pre_X3_bestTrait w p1 μ) : vc_X3_bestTrait_0 w p1 μ (post_X3_bestTrait w p1 μ) (fun l2 l3 l4 l5 l6 m => ∃ k : Nat, inv_X3_bestTrait_31 w p1 μ k l2 l3 l4 l5 l6 m) := by
  simp only [vc_X3_bestTrait_0, pre_J6_bitCount_0f7a4, pre_X3_leftOf, pre_X3_withTrait, post_J6_bitCount_0f7a4, post_X3_leftOf, post_X3_withTrait, and_imp, call_eq, forall_eq, forall_const, true_and, and_true]
  obtain ⟨h1, h2⟩ := hpre
  refine ⟨⟨h1, h2⟩, fun c => ⟨5, 0, by omega, rfl, by simpa using c, rfl, rfl, rfl, rfl, rfl, rfl⟩, fun c => ?_⟩
  unfold post_X3_bestTrait bestC
  rw [if_pos (by simpa using c)]
  exact ⟨rfl, rfl⟩
set_option maxRecDepth 20000 in
set_option maxHeartbeats 4000000 in
theorem vp_X3_bestTrait_31 (w : Nat) (p1 : Int32) (hw : w = 3 ∨ w = 10) (μ : Mem) (hpre : pre_X3_bestTrait w p1 μ) (n : Nat) (l2 : Int32) (l3 : Int32) (l4 : Int32) (l5 : Int32) (l6 : Int32) (μ0 : Mem) (hi : inv_X3_bestTrait_31 w p1 μ n l2 l3 l4 l5 l6 μ0) : vc_X3_bestTrait_31 w p1 l2 l3 l4 l5 l6 μ0 (post_X3_bestTrait w p1 μ) (fun l2 l3 l4 l5 l6 m => ∃ k : Nat, k < n ∧ inv_X3_bestTrait_31 w p1 μ k l2 l3 l4 l5 l6 m) := by
  simp only [vc_X3_bestTrait_31, pre_J6_bitCount_0f7a4, pre_X3_leftOf, pre_X3_withTrait, post_J6_bitCount_0f7a4, post_X3_leftOf, post_X3_withTrait, and_imp, call_eq, forall_eq, forall_const, true_and, and_true]
  obtain ⟨h1, h2⟩ := hpre
  obtain ⟨i, hi1, rfl, hn, rfl, rfl, rfl, rfl, rfl, rfl⟩ := hi
  rw [show (5 : Int32) = nI 5 from rfl, nI_leI (by omega) (by omega)]
  refine ⟨fun c => ?_, fun c => ⟨h1, ?_⟩⟩
  · have : i = 5 := by omega
    subst this
    unfold post_X3_bestTrait bestC
    rw [if_neg hn]
    exact ⟨rfl, rfl⟩
  · have key : ∀ a b, (a, b) = btF p1 (grC μ0 w (leftC μ0 w p1)) (bitsF (leftC μ0 w p1) + 1) (i + 1) → inv_X3_bestTrait_31 w p1 μ0 (5 - (i + 1)) (leftC μ0 w p1) (bitsF (leftC μ0 w p1)) a b (nI i + 1) μ0 := by
      intro a b hab
      refine ⟨i + 1, by omega, rfl, hn, rfl, rfl, nI_1 i, ?_, ?_, rfl⟩
      · rw [← hab]
      · rw [← hab]
    have eg : (if bitsF (leftC μ0 w p1 &&& withC μ0 w (nI i)) < bitsF (leftC μ0 w p1) - bitsF (leftC μ0 w p1 &&& withC μ0 w (nI i)) then bitsF (leftC μ0 w p1) - bitsF (leftC μ0 w p1 &&& withC μ0 w (nI i)) else bitsF (leftC μ0 w p1 &&& withC μ0 w (nI i))) = grC μ0 w (leftC μ0 w p1) i := rfl
    rw [eg]
    refine ⟨fun c2 => ⟨5 - (i + 1), by omega, key _ _ ?_⟩, fun c2 => ⟨fun c3 => ⟨5 - (i + 1), by omega, key _ _ ?_⟩, fun c3 => ⟨5 - (i + 1), by omega, key _ _ ?_⟩⟩⟩
    · rw [btF, if_neg (fun q => c2 q.1)]
    · rw [btF, if_neg (fun q => absurd c3 (by simpa using q.2))]
    · rw [btF, if_pos ⟨c2, nle_lt c3⟩]
theorem sp_X3_bestTrait : Sp yX3_bestTrait cX3_bestTrait 9 (some .int) 1 S_X3_bestTrait := by
  refine sp_of (by decide) (fun av μ P h => ?_) ?_
  · obtain ⟨w, p1, rfl, -⟩ := h
    refine ⟨Nat.le_of_ble_eq_true rfl, fun v hv => ?_⟩
    simp only [List.mem_cons, List.not_mem_nil, or_false] at hv
    rcases hv with rfl | rfl <;> rfl
  · rintro X P hO _ μ ⟨w, p1, rfl, hw, hpre, hpost⟩ hn
    have hJ : ∀ n : Nat, (∀ (l2 : Int32) (l3 : Int32) (l4 : Int32) (l5 : Int32) (l6 : Int32) (m : Mem), inv_X3_bestTrait_31 w p1 μ n l2 l3 l4 l5 l6 m → V X 31 [some (.ref w), some (.int p1), some (.int l2), some (.int l3), some (.int l4), some (.int l5), some (.int l6), none, none] [] m) := by
      intro n
      induction n using Nat.strongRecOn with
      | _ n ih =>
        exact fun l2 l3 l4 l5 l6 m hi => wk_X3_bestTrait_31 (J31 := (fun l2 l3 l4 l5 l6 m => ∃ k : Nat, k < n ∧ inv_X3_bestTrait_31 w p1 μ k l2 l3 l4 l5 l6 m)) hO hn w p1 hw l2 l3 l4 l5 l6 m hpost (fun l2 l3 l4 l5 l6 m hk => by obtain ⟨k, hk, hi⟩ := hk; exact (ih k hk) l2 l3 l4 l5 l6 m hi) (vp_X3_bestTrait_31 w p1 hw μ hpre n l2 l3 l4 l5 l6 m hi)
    exact wk_X3_bestTrait_0 (J31 := (fun l2 l3 l4 l5 l6 m => ∃ k : Nat, inv_X3_bestTrait_31 w p1 μ k l2 l3 l4 l5 l6 m)) hO hn w p1 hw μ hpost (fun l2 l3 l4 l5 l6 m hk => by obtain ⟨k, hi⟩ := hk; exact (hJ k) l2 l3 l4 l5 l6 m hi) (vp_X3_bestTrait_0 w p1 hw μ hpre)
def S_X8_next : Tr := fun av μ P => av = [.ref 0] ∧ pre_X8_next  μ ∧ ∀ (x : Int32) (m : Mem), post_X8_next  μ x m → P (some (.int x)) m
def vc_X8_next_0   (μ : Mem) (R : Int32 → Mem → Prop)  : Prop :=
  ((gp μ 1) = 3 ∨ (gp μ 1) = 10) ∧ (pre_X3_bestTrait ((gp μ 1)) (gi μ 17 4) μ ∧ ∀ (x2 : Int32) (μ3 : Mem), post_X3_bestTrait ((gp μ 1)) (gi μ 17 4) μ x2 μ3 → R x2 μ3)
set_option maxRecDepth 20000 in
set_option maxHeartbeats 4000000 in
theorem wk_X8_next_0 {X : XT} {P : Post} (hO : OkM X cX8_next RX8 2 (some .int) P) (hn : xn X = 1)    (μ : Mem) {R : Int32 → Mem → Prop} (hR : ∀ x m, R x m → P (some (.int x)) m)    (h : vc_X8_next_0   μ R ) : V X 0 [some (.ref 0)] [] μ := by
  have hX := hO.1
  unfold vc_X8_next_0 at h
  refine v_aload_n hX dX8_next_0 rfl (?_ : V X 1 [some (.ref 0)] [.ref 0] μ)
  have hh1 := h.1
  replace h := h.2
  refine v_getp hX (gp μ 1) fk_X8_19 sh_0 rfl rfl dX8_next_1 (?_ : V X 4 [some (.ref 0)] [.ref ((gp μ 1))] μ)
  refine v_aload_n hX dX8_next_4 rfl (?_ : V X 5 [some (.ref 0)] [.ref 0, .ref ((gp μ 1))] μ)
  refine v_getr hX (17) fk_X8_29 sh_0 rfl rfl dX8_next_5 (?_ : V X 8 [some (.ref 0)] [.ref 17, .ref ((gp μ 1))] μ)
  refine v_geti hX fk_X8_158 sh_17 rfl dX8_next_8 (?_ : V X 11 [some (.ref 0)] [.int (gi μ 17 4), .ref ((gp μ 1))] μ)
  refine v_callS hX sp_X3_bestTrait ck_X3_bestTrait mk_X8_237 sk_X3_bestTrait (by decide) [.ref ((gp μ 1)), .int (gi μ 17 4)] [] rfl rfl (Nat.le_of_ble_eq_true rfl) dX8_next_11 ⟨((gp μ 1)), (gi μ 17 4), rfl, hh1, h.1, fun x2 μ3 hp4 => (?_ : V X 14 [some (.ref 0)] [.int x2] μ3)⟩
  replace h := h.2 x2 μ3 hp4
  exact v_iret hO dX8_next_14 (hR _ _ h)
set_option maxRecDepth 20000 in
set_option maxHeartbeats 4000000 in
theorem vp_X8_next_0   (μ : Mem) (hpre : pre_X8_next  μ) : vc_X8_next_0  μ (post_X8_next  μ)  := by
  simp only [vc_X8_next_0, pre_X3_bestTrait, post_X3_bestTrait, and_imp, call_eq, forall_eq, forall_const, true_and, and_true]
  obtain ⟨hw, h1, h2⟩ := hpre
  exact ⟨hw, ⟨h1, h2⟩, rfl, rfl⟩
theorem sp_X8_next : Sp yX8_next cX8_next 1 (some .int) 2 S_X8_next := by
  refine sp_of (by decide) (fun av μ P h => ?_) ?_
  · obtain ⟨rfl, -⟩ := h
    refine ⟨Nat.le_of_ble_eq_true rfl, fun v hv => ?_⟩
    simp only [List.mem_cons, List.not_mem_nil, or_false] at hv
    subst hv; rfl
  · rintro X P hO _ μ ⟨rfl, hpre, hpost⟩ hn
    exact wk_X8_next_0 hO hn   μ hpost (vp_X8_next_0   μ hpre)
def S_X9_next : Tr := fun av μ P => av = [.ref 75] ∧ pre_X9_next  μ ∧ ∀ (x : Int32) (m : Mem), post_X9_next  μ x m → P (some (.int x)) m
def vc_X9_next_0   (μ : Mem) (R : Int32 → Mem → Prop) (J19 : Int32 → Int32 → Int32 → Int32 → Mem → Prop) : Prop :=
  (∀ μ1, μ1 = ui μ 75 0 0 → (pre_X9_left  μ1 ∧ ∀ (x3 : Int32) (μ4 : Mem), post_X9_left  μ1 x3 μ4 → J19 x3 ((-9)) 100000000 0 μ4))
set_option maxRecDepth 20000 in
set_option maxHeartbeats 4000000 in
theorem wk_X9_next_0 {X : XT} {P : Post} (hO : OkM X cX9_next RX9 1 (some .int) P) (hn : xn X = 8)    (μ : Mem) {R : Int32 → Mem → Prop} (hR : ∀ x m, R x m → P (some (.int x)) m) {J19 : Int32 → Int32 → Int32 → Int32 → Mem → Prop} (hJ19 : ∀ (l1 : Int32) (l2 : Int32) (l3 : Int32) (l4 : Int32) (m : Mem), J19 l1 l2 l3 l4 m → V X 19 [some (.ref 75), some (.int l1), some (.int l2), some (.int l3), some (.int l4), none, none, none] [] m)  (h : vc_X9_next_0   μ R J19) : V X 0 [some (.ref 75), none, none, none, none, none, none, none] [] μ := by
  have hX := hO.1
  unfold vc_X9_next_0 at h
  refine v_aload_n hX dX9_next_0 rfl (?_ : V X 1 [some (.ref 75), none, none, none, none, none, none, none] [.ref 75] μ)
  refine v_iconst hX 0 dX9_next_1 rfl (?_ : V X 2 [some (.ref 75), none, none, none, none, none, none, none] [.int 0, .ref 75] μ)
  refine w_puti hX fk_X9_74 fw_9_0 sh_75 rfl dX9_next_2 (fun μ1 e2 => (?_ : V X 5 [some (.ref 75), none, none, none, none, none, none, none] [] μ1))
  replace h := h μ1 e2
  refine v_aload_n hX dX9_next_5 rfl (?_ : V X 6 [some (.ref 75), none, none, none, none, none, none, none] [.ref 75] μ1)
  refine v_callV hX sp_X9_left ck_X9_left mk_X9_156 mv_X9_left sh_75 (by decide) (by decide) [] [] rfl rfl (Nat.le_of_ble_eq_true rfl) dX9_next_6 ⟨rfl, h.1, fun x3 μ4 hp5 => (?_ : V X 9 [some (.ref 75), none, none, none, none, none, none, none] [.int x3] μ4)⟩
  replace h := h.2 x3 μ4 hp5
  refine v_istore_n hX dX9_next_9 (by rw [hn]; decide) (?_ : V X 10 [some (.ref 75), some (.int x3), none, none, none, none, none, none] [] μ4)
  refine v_bipush hX (-9) dX9_next_10 rfl (?_ : V X 12 [some (.ref 75), some (.int x3), none, none, none, none, none, none] [.int ((-9))] μ4)
  refine v_istore_n hX dX9_next_12 (by rw [hn]; decide) (?_ : V X 13 [some (.ref 75), some (.int x3), some (.int ((-9))), none, none, none, none, none] [] μ4)
  refine v_ldc hX 100000000 dX9_next_13 kk_X9_172 (?_ : V X 15 [some (.ref 75), some (.int x3), some (.int ((-9))), none, none, none, none, none] [.int 100000000] μ4)
  refine v_istore_n hX dX9_next_15 (by rw [hn]; decide) (?_ : V X 16 [some (.ref 75), some (.int x3), some (.int ((-9))), some (.int 100000000), none, none, none, none] [] μ4)
  refine v_iconst hX 0 dX9_next_16 rfl (?_ : V X 17 [some (.ref 75), some (.int x3), some (.int ((-9))), some (.int 100000000), none, none, none, none] [.int 0] μ4)
  refine v_istore hX dX9_next_17 (by rw [hn]; decide) (?_ : V X 19 [some (.ref 75), some (.int x3), some (.int ((-9))), some (.int 100000000), some (.int 0), none, none, none] [] μ4)
  exact v_mask [true, true, true, true, true, false, false, false] (hJ19 _ _ _ _ _ h)
def vc_X9_next_19  (l1 : Int32) (l2 : Int32) (l3 : Int32) (l4 : Int32) (μ : Mem) (R : Int32 → Mem → Prop) (J19 : Int32 → Int32 → Int32 → Int32 → Mem → Prop) : Prop :=
  ((5 ≤ l4 → R l2 μ) ∧ (¬ 5 ≤ l4 → (pre_X9_ones l1 μ ∧ ∀ (x2 : Int32) (μ3 : Mem), post_X9_ones l1 μ x2 μ3 → ((x2 ≤ 1 → R l2 μ3) ∧ (¬ x2 ≤ 1 → (pre_X9_having l1 l4 μ3 ∧ ∀ (x6 : Int32) (μ7 : Mem), post_X9_having l1 l4 μ3 x6 μ7 → (pre_X9_ones x6 μ7 ∧ ∀ (x9 : Int32) (μ10 : Mem), post_X9_ones x6 μ7 x9 μ10 → (pre_X9_ones l1 μ10 ∧ ∀ (x12 : Int32) (μ13 : Mem), post_X9_ones l1 μ10 x12 μ13 → ((x9 ≤ (x12 - x9) → ((¬ (((gi μ13 84 4) >>> (l4 &&& 31)) &&& 1) = 0 → J19 l1 l2 l3 (l4 + 1) μ13) ∧ ((((gi μ13 84 4) >>> (l4 &&& 31)) &&& 1) = 0 → ((l3 ≤ (x12 - x9) → J19 l1 l2 l3 (l4 + 1) μ13) ∧ (¬ l3 ≤ (x12 - x9) → J19 l1 l4 (x12 - x9) (l4 + 1) μ13))))) ∧ (¬ x9 ≤ (x12 - x9) → ((¬ (((gi μ13 84 4) >>> (l4 &&& 31)) &&& 1) = 0 → J19 l1 l2 l3 (l4 + 1) μ13) ∧ ((((gi μ13 84 4) >>> (l4 &&& 31)) &&& 1) = 0 → ((l3 ≤ x9 → J19 l1 l2 l3 (l4 + 1) μ13) ∧ (¬ l3 ≤ x9 → J19 l1 l4 x9 (l4 + 1) μ13))))))))))))))
set_option maxRecDepth 20000 in
set_option maxHeartbeats 4000000 in
theorem wk_X9_next_19 {X : XT} {P : Post} (hO : OkM X cX9_next RX9 1 (some .int) P) (hn : xn X = 8)   (l1 : Int32) (l2 : Int32) (l3 : Int32) (l4 : Int32) (μ : Mem) {R : Int32 → Mem → Prop} (hR : ∀ x m, R x m → P (some (.int x)) m) {J19 : Int32 → Int32 → Int32 → Int32 → Mem → Prop} (hJ19 : ∀ (l1 : Int32) (l2 : Int32) (l3 : Int32) (l4 : Int32) (m : Mem), J19 l1 l2 l3 l4 m → V X 19 [some (.ref 75), some (.int l1), some (.int l2), some (.int l3), some (.int l4), none, none, none] [] m)  (h : vc_X9_next_19  l1 l2 l3 l4 μ R J19) : V X 19 [some (.ref 75), some (.int l1), some (.int l2), some (.int l3), some (.int l4), none, none, none] [] μ := by
  have hX := hO.1
  unfold vc_X9_next_19 at h
  refine v_iload hX dX9_next_19 rfl (?_ : V X 21 [some (.ref 75), some (.int l1), some (.int l2), some (.int l3), some (.int l4), none, none, none] [.int l4] μ)
  refine v_iconst hX 5 dX9_next_21 rfl (?_ : V X 22 [some (.ref 75), some (.int l1), some (.int l2), some (.int l3), some (.int l4), none, none, none] [.int 5, .int l4] μ)
  refine v_icmp_ge hX 102 dX9_next_22 rfl (fun c1 => ?_) (fun c1 => ?_)
  · replace h := h.1 c1
    refine v_iload_n hX dX9_next_102 rfl (?_ : V X 103 [some (.ref 75), some (.int l1), some (.int l2), some (.int l3), some (.int l4), none, none, none] [.int l2] μ)
    exact v_iret hO dX9_next_103 (hR _ _ h)
  · replace h := h.2 c1
    refine v_iload_n hX dX9_next_25 rfl (?_ : V X 26 [some (.ref 75), some (.int l1), some (.int l2), some (.int l3), some (.int l4), none, none, none] [.int l1] μ)
    refine v_callS hX sp_X9_ones ck_X9_ones mk_X9_189 sk_X9_ones (by decide) [.int l1] [] rfl rfl (Nat.le_of_ble_eq_true rfl) dX9_next_26 ⟨l1, rfl, h.1, fun x2 μ3 hp4 => (?_ : V X 29 [some (.ref 75), some (.int l1), some (.int l2), some (.int l3), some (.int l4), none, none, none] [.int x2] μ3)⟩
    replace h := h.2 x2 μ3 hp4
    refine v_iconst hX 1 dX9_next_29 rfl (?_ : V X 30 [some (.ref 75), some (.int l1), some (.int l2), some (.int l3), some (.int l4), none, none, none] [.int 1, .int x2] μ3)
    refine v_icmp_le hX 102 dX9_next_30 rfl (fun c5 => ?_) (fun c5 => ?_)
    · replace h := h.1 c5
      refine v_iload_n hX dX9_next_102 rfl (?_ : V X 103 [some (.ref 75), some (.int l1), some (.int l2), some (.int l3), some (.int l4), none, none, none] [.int l2] μ3)
      exact v_iret hO dX9_next_103 (hR _ _ h)
    · replace h := h.2 c5
      refine v_aload_n hX dX9_next_33 rfl (?_ : V X 34 [some (.ref 75), some (.int l1), some (.int l2), some (.int l3), some (.int l4), none, none, none] [.ref 75] μ3)
      refine v_iload_n hX dX9_next_34 rfl (?_ : V X 35 [some (.ref 75), some (.int l1), some (.int l2), some (.int l3), some (.int l4), none, none, none] [.int l1, .ref 75] μ3)
      refine v_iload hX dX9_next_35 rfl (?_ : V X 37 [some (.ref 75), some (.int l1), some (.int l2), some (.int l3), some (.int l4), none, none, none] [.int l4, .int l1, .ref 75] μ3)
      refine v_callV hX sp_X9_having ck_X9_having mk_X9_192 mv_X9_having sh_75 (by decide) (by decide) [.int l1, .int l4] [] rfl rfl (Nat.le_of_ble_eq_true rfl) dX9_next_37 ⟨l1, l4, rfl, h.1, fun x6 μ7 hp8 => (?_ : V X 40 [some (.ref 75), some (.int l1), some (.int l2), some (.int l3), some (.int l4), none, none, none] [.int x6] μ7)⟩
      replace h := h.2 x6 μ7 hp8
      refine v_callS hX sp_X9_ones ck_X9_ones mk_X9_189 sk_X9_ones (by decide) [.int x6] [] rfl rfl (Nat.le_of_ble_eq_true rfl) dX9_next_40 ⟨x6, rfl, h.1, fun x9 μ10 hp11 => (?_ : V X 43 [some (.ref 75), some (.int l1), some (.int l2), some (.int l3), some (.int l4), none, none, none] [.int x9] μ10)⟩
      replace h := h.2 x9 μ10 hp11
      refine v_istore hX dX9_next_43 (by rw [hn]; decide) (?_ : V X 45 [some (.ref 75), some (.int l1), some (.int l2), some (.int l3), some (.int l4), some (.int x9), none, none] [] μ10)
      refine v_iload_n hX dX9_next_45 rfl (?_ : V X 46 [some (.ref 75), some (.int l1), some (.int l2), some (.int l3), some (.int l4), some (.int x9), none, none] [.int l1] μ10)
      refine v_callS hX sp_X9_ones ck_X9_ones mk_X9_189 sk_X9_ones (by decide) [.int l1] [] rfl rfl (Nat.le_of_ble_eq_true rfl) dX9_next_46 ⟨l1, rfl, h.1, fun x12 μ13 hp14 => (?_ : V X 49 [some (.ref 75), some (.int l1), some (.int l2), some (.int l3), some (.int l4), some (.int x9), none, none] [.int x12] μ13)⟩
      replace h := h.2 x12 μ13 hp14
      refine v_iload hX dX9_next_49 rfl (?_ : V X 51 [some (.ref 75), some (.int l1), some (.int l2), some (.int l3), some (.int l4), some (.int x9), none, none] [.int x9, .int x12] μ13)
      refine v_isub hX dX9_next_51 (?_ : V X 52 [some (.ref 75), some (.int l1), some (.int l2), some (.int l3), some (.int l4), some (.int x9), none, none] [.int (x12 - x9)] μ13)
      refine v_istore hX dX9_next_52 (by rw [hn]; decide) (?_ : V X 54 [some (.ref 75), some (.int l1), some (.int l2), some (.int l3), some (.int l4), some (.int x9), some (.int (x12 - x9)), none] [] μ13)
      refine v_iload hX dX9_next_54 rfl (?_ : V X 56 [some (.ref 75), some (.int l1), some (.int l2), some (.int l3), some (.int l4), some (.int x9), some (.int (x12 - x9)), none] [.int x9] μ13)
      refine v_iload hX dX9_next_56 rfl (?_ : V X 58 [some (.ref 75), some (.int l1), some (.int l2), some (.int l3), some (.int l4), some (.int x9), some (.int (x12 - x9)), none] [.int (x12 - x9), .int x9] μ13)
      refine v_icmp_le hX 66 dX9_next_58 rfl (fun c15 => ?_) (fun c15 => ?_)
      · replace h := h.1 c15
        refine v_iload hX dX9_next_66 rfl (?_ : V X 68 [some (.ref 75), some (.int l1), some (.int l2), some (.int l3), some (.int l4), some (.int x9), some (.int (x12 - x9)), none] [.int (x12 - x9)] μ13)
        refine v_istore hX dX9_next_68 (by rw [hn]; decide) (?_ : V X 70 [some (.ref 75), some (.int l1), some (.int l2), some (.int l3), some (.int l4), some (.int x9), some (.int (x12 - x9)), some (.int (x12 - x9))] [] μ13)
        refine v_aload_n hX dX9_next_70 rfl (?_ : V X 71 [some (.ref 75), some (.int l1), some (.int l2), some (.int l3), some (.int l4), some (.int x9), some (.int (x12 - x9)), some (.int (x12 - x9))] [.ref 75] μ13)
        refine v_getr hX (84) fk_X9_34 sh_75 rfl rfl dX9_next_71 (?_ : V X 74 [some (.ref 75), some (.int l1), some (.int l2), some (.int l3), some (.int l4), some (.int x9), some (.int (x12 - x9)), some (.int (x12 - x9))] [.ref 84] μ13)
        refine v_iconst hX 4 dX9_next_74 rfl (?_ : V X 75 [some (.ref 75), some (.int l1), some (.int l2), some (.int l3), some (.int l4), some (.int x9), some (.int (x12 - x9)), some (.int (x12 - x9))] [.int 4, .ref 84] μ13)
        refine w_iald hX 4 sh_84 (vp_lit (by decide)) (by decide) dX9_next_75 (?_ : V X 76 [some (.ref 75), some (.int l1), some (.int l2), some (.int l3), some (.int l4), some (.int x9), some (.int (x12 - x9)), some (.int (x12 - x9))] [.int (gi μ13 84 4)] μ13)
        refine v_iload hX dX9_next_76 rfl (?_ : V X 78 [some (.ref 75), some (.int l1), some (.int l2), some (.int l3), some (.int l4), some (.int x9), some (.int (x12 - x9)), some (.int (x12 - x9))] [.int l4, .int (gi μ13 84 4)] μ13)
        refine v_ishr hX dX9_next_78 (?_ : V X 79 [some (.ref 75), some (.int l1), some (.int l2), some (.int l3), some (.int l4), some (.int x9), some (.int (x12 - x9)), some (.int (x12 - x9))] [.int ((gi μ13 84 4) >>> (l4 &&& 31))] μ13)
        refine v_iconst hX 1 dX9_next_79 rfl (?_ : V X 80 [some (.ref 75), some (.int l1), some (.int l2), some (.int l3), some (.int l4), some (.int x9), some (.int (x12 - x9)), some (.int (x12 - x9))] [.int 1, .int ((gi μ13 84 4) >>> (l4 &&& 31))] μ13)
        refine v_iand hX dX9_next_80 (?_ : V X 81 [some (.ref 75), some (.int l1), some (.int l2), some (.int l3), some (.int l4), some (.int x9), some (.int (x12 - x9)), some (.int (x12 - x9))] [.int (((gi μ13 84 4) >>> (l4 &&& 31)) &&& 1)] μ13)
        refine v_if_ne hX 96 dX9_next_81 rfl (fun c16 => ?_) (fun c16 => ?_)
        · replace h := h.1 c16
          refine v_iinc hX 1 dX9_next_96 (by rw [hn]; decide) rfl rfl (?_ : V X 99 [some (.ref 75), some (.int l1), some (.int l2), some (.int l3), some (.int (l4 + 1)), some (.int x9), some (.int (x12 - x9)), some (.int (x12 - x9))] [] μ13)
          refine v_goto hX 19 dX9_next_99 rfl (?_ : V X 19 [some (.ref 75), some (.int l1), some (.int l2), some (.int l3), some (.int (l4 + 1)), some (.int x9), some (.int (x12 - x9)), some (.int (x12 - x9))] [] μ13)
          exact v_mask [true, true, true, true, true, false, false, false] (hJ19 _ _ _ _ _ h)
        · replace h := h.2 c16
          refine v_iload hX dX9_next_84 rfl (?_ : V X 86 [some (.ref 75), some (.int l1), some (.int l2), some (.int l3), some (.int l4), some (.int x9), some (.int (x12 - x9)), some (.int (x12 - x9))] [.int (x12 - x9)] μ13)
          refine v_iload_n hX dX9_next_86 rfl (?_ : V X 87 [some (.ref 75), some (.int l1), some (.int l2), some (.int l3), some (.int l4), some (.int x9), some (.int (x12 - x9)), some (.int (x12 - x9))] [.int l3, .int (x12 - x9)] μ13)
          refine v_icmp_ge hX 96 dX9_next_87 rfl (fun c17 => ?_) (fun c17 => ?_)
          · replace h := h.1 c17
            refine v_iinc hX 1 dX9_next_96 (by rw [hn]; decide) rfl rfl (?_ : V X 99 [some (.ref 75), some (.int l1), some (.int l2), some (.int l3), some (.int (l4 + 1)), some (.int x9), some (.int (x12 - x9)), some (.int (x12 - x9))] [] μ13)
            refine v_goto hX 19 dX9_next_99 rfl (?_ : V X 19 [some (.ref 75), some (.int l1), some (.int l2), some (.int l3), some (.int (l4 + 1)), some (.int x9), some (.int (x12 - x9)), some (.int (x12 - x9))] [] μ13)
            exact v_mask [true, true, true, true, true, false, false, false] (hJ19 _ _ _ _ _ h)
          · replace h := h.2 c17
            refine v_iload hX dX9_next_90 rfl (?_ : V X 92 [some (.ref 75), some (.int l1), some (.int l2), some (.int l3), some (.int l4), some (.int x9), some (.int (x12 - x9)), some (.int (x12 - x9))] [.int l4] μ13)
            refine v_istore_n hX dX9_next_92 (by rw [hn]; decide) (?_ : V X 93 [some (.ref 75), some (.int l1), some (.int l4), some (.int l3), some (.int l4), some (.int x9), some (.int (x12 - x9)), some (.int (x12 - x9))] [] μ13)
            refine v_iload hX dX9_next_93 rfl (?_ : V X 95 [some (.ref 75), some (.int l1), some (.int l4), some (.int l3), some (.int l4), some (.int x9), some (.int (x12 - x9)), some (.int (x12 - x9))] [.int (x12 - x9)] μ13)
            refine v_istore_n hX dX9_next_95 (by rw [hn]; decide) (?_ : V X 96 [some (.ref 75), some (.int l1), some (.int l4), some (.int (x12 - x9)), some (.int l4), some (.int x9), some (.int (x12 - x9)), some (.int (x12 - x9))] [] μ13)
            refine v_iinc hX 1 dX9_next_96 (by rw [hn]; decide) rfl rfl (?_ : V X 99 [some (.ref 75), some (.int l1), some (.int l4), some (.int (x12 - x9)), some (.int (l4 + 1)), some (.int x9), some (.int (x12 - x9)), some (.int (x12 - x9))] [] μ13)
            refine v_goto hX 19 dX9_next_99 rfl (?_ : V X 19 [some (.ref 75), some (.int l1), some (.int l4), some (.int (x12 - x9)), some (.int (l4 + 1)), some (.int x9), some (.int (x12 - x9)), some (.int (x12 - x9))] [] μ13)
            exact v_mask [true, true, true, true, true, false, false, false] (hJ19 _ _ _ _ _ h)
      · replace h := h.2 c15
        refine v_iload hX dX9_next_61 rfl (?_ : V X 63 [some (.ref 75), some (.int l1), some (.int l2), some (.int l3), some (.int l4), some (.int x9), some (.int (x12 - x9)), none] [.int x9] μ13)
        refine v_goto hX 68 dX9_next_63 rfl (?_ : V X 68 [some (.ref 75), some (.int l1), some (.int l2), some (.int l3), some (.int l4), some (.int x9), some (.int (x12 - x9)), none] [.int x9] μ13)
        refine v_istore hX dX9_next_68 (by rw [hn]; decide) (?_ : V X 70 [some (.ref 75), some (.int l1), some (.int l2), some (.int l3), some (.int l4), some (.int x9), some (.int (x12 - x9)), some (.int x9)] [] μ13)
        refine v_aload_n hX dX9_next_70 rfl (?_ : V X 71 [some (.ref 75), some (.int l1), some (.int l2), some (.int l3), some (.int l4), some (.int x9), some (.int (x12 - x9)), some (.int x9)] [.ref 75] μ13)
        refine v_getr hX (84) fk_X9_34 sh_75 rfl rfl dX9_next_71 (?_ : V X 74 [some (.ref 75), some (.int l1), some (.int l2), some (.int l3), some (.int l4), some (.int x9), some (.int (x12 - x9)), some (.int x9)] [.ref 84] μ13)
        refine v_iconst hX 4 dX9_next_74 rfl (?_ : V X 75 [some (.ref 75), some (.int l1), some (.int l2), some (.int l3), some (.int l4), some (.int x9), some (.int (x12 - x9)), some (.int x9)] [.int 4, .ref 84] μ13)
        refine w_iald hX 4 sh_84 (vp_lit (by decide)) (by decide) dX9_next_75 (?_ : V X 76 [some (.ref 75), some (.int l1), some (.int l2), some (.int l3), some (.int l4), some (.int x9), some (.int (x12 - x9)), some (.int x9)] [.int (gi μ13 84 4)] μ13)
        refine v_iload hX dX9_next_76 rfl (?_ : V X 78 [some (.ref 75), some (.int l1), some (.int l2), some (.int l3), some (.int l4), some (.int x9), some (.int (x12 - x9)), some (.int x9)] [.int l4, .int (gi μ13 84 4)] μ13)
        refine v_ishr hX dX9_next_78 (?_ : V X 79 [some (.ref 75), some (.int l1), some (.int l2), some (.int l3), some (.int l4), some (.int x9), some (.int (x12 - x9)), some (.int x9)] [.int ((gi μ13 84 4) >>> (l4 &&& 31))] μ13)
        refine v_iconst hX 1 dX9_next_79 rfl (?_ : V X 80 [some (.ref 75), some (.int l1), some (.int l2), some (.int l3), some (.int l4), some (.int x9), some (.int (x12 - x9)), some (.int x9)] [.int 1, .int ((gi μ13 84 4) >>> (l4 &&& 31))] μ13)
        refine v_iand hX dX9_next_80 (?_ : V X 81 [some (.ref 75), some (.int l1), some (.int l2), some (.int l3), some (.int l4), some (.int x9), some (.int (x12 - x9)), some (.int x9)] [.int (((gi μ13 84 4) >>> (l4 &&& 31)) &&& 1)] μ13)
        refine v_if_ne hX 96 dX9_next_81 rfl (fun c18 => ?_) (fun c18 => ?_)
        · replace h := h.1 c18
          refine v_iinc hX 1 dX9_next_96 (by rw [hn]; decide) rfl rfl (?_ : V X 99 [some (.ref 75), some (.int l1), some (.int l2), some (.int l3), some (.int (l4 + 1)), some (.int x9), some (.int (x12 - x9)), some (.int x9)] [] μ13)
          refine v_goto hX 19 dX9_next_99 rfl (?_ : V X 19 [some (.ref 75), some (.int l1), some (.int l2), some (.int l3), some (.int (l4 + 1)), some (.int x9), some (.int (x12 - x9)), some (.int x9)] [] μ13)
          exact v_mask [true, true, true, true, true, false, false, false] (hJ19 _ _ _ _ _ h)
        · replace h := h.2 c18
          refine v_iload hX dX9_next_84 rfl (?_ : V X 86 [some (.ref 75), some (.int l1), some (.int l2), some (.int l3), some (.int l4), some (.int x9), some (.int (x12 - x9)), some (.int x9)] [.int x9] μ13)
          refine v_iload_n hX dX9_next_86 rfl (?_ : V X 87 [some (.ref 75), some (.int l1), some (.int l2), some (.int l3), some (.int l4), some (.int x9), some (.int (x12 - x9)), some (.int x9)] [.int l3, .int x9] μ13)
          refine v_icmp_ge hX 96 dX9_next_87 rfl (fun c19 => ?_) (fun c19 => ?_)
          · replace h := h.1 c19
            refine v_iinc hX 1 dX9_next_96 (by rw [hn]; decide) rfl rfl (?_ : V X 99 [some (.ref 75), some (.int l1), some (.int l2), some (.int l3), some (.int (l4 + 1)), some (.int x9), some (.int (x12 - x9)), some (.int x9)] [] μ13)
            refine v_goto hX 19 dX9_next_99 rfl (?_ : V X 19 [some (.ref 75), some (.int l1), some (.int l2), some (.int l3), some (.int (l4 + 1)), some (.int x9), some (.int (x12 - x9)), some (.int x9)] [] μ13)
            exact v_mask [true, true, true, true, true, false, false, false] (hJ19 _ _ _ _ _ h)
          · replace h := h.2 c19
            refine v_iload hX dX9_next_90 rfl (?_ : V X 92 [some (.ref 75), some (.int l1), some (.int l2), some (.int l3), some (.int l4), some (.int x9), some (.int (x12 - x9)), some (.int x9)] [.int l4] μ13)
            refine v_istore_n hX dX9_next_92 (by rw [hn]; decide) (?_ : V X 93 [some (.ref 75), some (.int l1), some (.int l4), some (.int l3), some (.int l4), some (.int x9), some (.int (x12 - x9)), some (.int x9)] [] μ13)
            refine v_iload hX dX9_next_93 rfl (?_ : V X 95 [some (.ref 75), some (.int l1), some (.int l4), some (.int l3), some (.int l4), some (.int x9), some (.int (x12 - x9)), some (.int x9)] [.int x9] μ13)
            refine v_istore_n hX dX9_next_95 (by rw [hn]; decide) (?_ : V X 96 [some (.ref 75), some (.int l1), some (.int l4), some (.int x9), some (.int l4), some (.int x9), some (.int (x12 - x9)), some (.int x9)] [] μ13)
            refine v_iinc hX 1 dX9_next_96 (by rw [hn]; decide) rfl rfl (?_ : V X 99 [some (.ref 75), some (.int l1), some (.int l4), some (.int x9), some (.int (l4 + 1)), some (.int x9), some (.int (x12 - x9)), some (.int x9)] [] μ13)
            refine v_goto hX 19 dX9_next_99 rfl (?_ : V X 19 [some (.ref 75), some (.int l1), some (.int l4), some (.int x9), some (.int (l4 + 1)), some (.int x9), some (.int (x12 - x9)), some (.int x9)] [] μ13)
            exact v_mask [true, true, true, true, true, false, false, false] (hJ19 _ _ _ _ _ h)
set_option maxRecDepth 20000 in
set_option maxHeartbeats 4000000 in
theorem vp_X9_next_0   (μ : Mem) (hpre : pre_X9_next  μ) : vc_X9_next_0  μ (post_X9_next  μ) (fun l1 l2 l3 l4 m => ∃ k : Nat, inv_X9_next_19  μ k l1 l2 l3 l4 m) := by
  simp only [vc_X9_next_0, pre_X9_having, pre_X9_left, pre_X9_ones, post_X9_having, post_X9_left, post_X9_ones, and_imp, call_eq, forall_eq, forall_const, true_and, and_true]
  obtain ⟨h1, h2⟩ := hpre
  refine ⟨⟨h1, h2⟩, 5, 0, by omega, rfl, rfl, rfl, rfl, ?_, fun _ => ⟨rfl, rfl⟩⟩
  rcases Classical.em (onesI (leftM μ) ≤ 1) with h | h
  · exact Or.inl ⟨h, rfl, rfl⟩
  · exact Or.inr ⟨h, rfl, rfl⟩
set_option maxRecDepth 20000 in
set_option maxHeartbeats 4000000 in
theorem vp_X9_next_19   (μ : Mem) (hpre : pre_X9_next  μ) (n : Nat) (l1 : Int32) (l2 : Int32) (l3 : Int32) (l4 : Int32) (μ0 : Mem) (hi : inv_X9_next_19  μ n l1 l2 l3 l4 μ0) : vc_X9_next_19  l1 l2 l3 l4 μ0 (post_X9_next  μ) (fun l1 l2 l3 l4 m => ∃ k : Nat, k < n ∧ inv_X9_next_19  μ k l1 l2 l3 l4 m) := by
  simp only [vc_X9_next_19, pre_X9_having, pre_X9_left, pre_X9_ones, post_X9_having, post_X9_left, post_X9_ones, and_imp, call_eq, forall_eq, forall_const, true_and, and_true]
  obtain ⟨h1, h2⟩ := hpre
  obtain ⟨i, hi1, rfl, rfl, rfl, rfl, hd, h00⟩ := hi
  rw [show (5 : Int32) = nI 5 from rfl, nI_leI (by omega) (by omega)]
  have fin : i = 5 ∨ onesI (leftM μ) ≤ 1 → post_X9_next μ l2 (ui μ 75 0 0) := by
    intro q
    unfold post_X9_next bestM
    rcases hd with ⟨d1, d2, d3⟩ | ⟨d1, d2, d3⟩
    · rw [if_pos d1]; exact ⟨d3, rfl⟩
    · rw [if_neg d1]
      rcases q with rfl | q
      · exact ⟨d2, rfl⟩
      · exact absurd q d1
  refine ⟨fun c => fin (Or.inl (by omega)), fun c => ⟨fun c2 => fin (Or.inr c2), fun c2 => ⟨h1, ?_⟩⟩⟩
  have hd' := hd.resolve_left (fun q => c2 q.1)
  obtain ⟨-, rfl, rfl⟩ := hd'
  have key : ∀ a b, (a, b) = btF (gi μ 84 4) (grM μ (leftM μ)) 100000000 (i + 1) → inv_X9_next_19 μ (5 - (i + 1)) (leftM μ) a b (nI i + 1) (ui μ 75 0 0) := by
    intro a b hab
    refine ⟨i + 1, by omega, rfl, rfl, nI_1 i, rfl, Or.inr ⟨c2, ?_, ?_⟩, fun q => by omega⟩
    · rw [← hab]
    · rw [← hab]
  have eh : havF (ui μ 75 0 0) (nI i) = havF μ (nI i) := rfl
  rw [eh, show gi (ui μ 75 0 0) 84 4 = gi μ 84 4 from rfl]
  refine ⟨fun c3 => ?_, fun c3 => ?_⟩
  · have eg : grM μ (leftM μ) i = onesI (leftM μ) - onesI (leftM μ &&& havF μ (nI i)) := by unfold grM; rw [if_neg (by simpa using c3)]
    refine ⟨fun c4 => ⟨5 - (i + 1), by omega, key _ _ ?_⟩, fun c4 => ⟨fun c5 => ⟨5 - (i + 1), by omega, key _ _ ?_⟩, fun c5 => ⟨5 - (i + 1), by omega, key _ _ ?_⟩⟩⟩
    · rw [btF, if_neg (fun q => c4 q.1)]
    · rw [btF, eg, if_neg (fun q => absurd c5 (by simpa using q.2))]
    · rw [btF, eg, if_pos ⟨c4, nle_lt c5⟩]
  · have eg : grM μ (leftM μ) i = onesI (leftM μ &&& havF μ (nI i)) := by unfold grM; rw [if_pos (by simpa using c3)]
    refine ⟨fun c4 => ⟨5 - (i + 1), by omega, key _ _ ?_⟩, fun c4 => ⟨fun c5 => ⟨5 - (i + 1), by omega, key _ _ ?_⟩, fun c5 => ⟨5 - (i + 1), by omega, key _ _ ?_⟩⟩⟩
    · rw [btF, if_neg (fun q => c4 q.1)]
    · rw [btF, eg, if_neg (fun q => absurd c5 (by simpa using q.2))]
    · rw [btF, eg, if_pos ⟨c4, nle_lt c5⟩]
theorem sp_X9_next : Sp yX9_next cX9_next 8 (some .int) 1 S_X9_next := by
  refine sp_of (by decide) (fun av μ P h => ?_) ?_
  · obtain ⟨rfl, -⟩ := h
    refine ⟨Nat.le_of_ble_eq_true rfl, fun v hv => ?_⟩
    simp only [List.mem_cons, List.not_mem_nil, or_false] at hv
    subst hv; rfl
  · rintro X P hO _ μ ⟨rfl, hpre, hpost⟩ hn
    have hJ : ∀ n : Nat, (∀ (l1 : Int32) (l2 : Int32) (l3 : Int32) (l4 : Int32) (m : Mem), inv_X9_next_19  μ n l1 l2 l3 l4 m → V X 19 [some (.ref 75), some (.int l1), some (.int l2), some (.int l3), some (.int l4), none, none, none] [] m) := by
      intro n
      induction n using Nat.strongRecOn with
      | _ n ih =>
        exact fun l1 l2 l3 l4 m hi => wk_X9_next_19 (J19 := (fun l1 l2 l3 l4 m => ∃ k : Nat, k < n ∧ inv_X9_next_19  μ k l1 l2 l3 l4 m)) hO hn   l1 l2 l3 l4 m hpost (fun l1 l2 l3 l4 m hk => by obtain ⟨k, hk, hi⟩ := hk; exact (ih k hk) l1 l2 l3 l4 m hi) (vp_X9_next_19   μ hpre n l1 l2 l3 l4 m hi)
    exact wk_X9_next_0 (J19 := (fun l1 l2 l3 l4 m => ∃ k : Nat, inv_X9_next_19  μ k l1 l2 l3 l4 m)) hO hn   μ hpost (fun l1 l2 l3 l4 m hk => by obtain ⟨k, hi⟩ := hk; exact (hJ k) l1 l2 l3 l4 m hi) (vp_X9_next_0   μ hpre)

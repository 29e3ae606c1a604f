theorem EV_fr {μ m : Mem} {cs : List Nat} {w : Nat} (h : EV μ w) (hf : fr cs μ m) (h3 : 3 ∉ cs) (h10 : 10 ∉ cs) (h17 : 17 ∉ cs) : EV m w := by
  obtain ⟨a, b, c, d, e, f⟩ := h
  have hw : w ∉ cs := by rcases a with rfl | rfl <;> assumption
  exact ⟨a, isN_fr hf hw b, isN_fr hf hw c, isN_fr hf hw d, isN_fr hf h17 e, by rcases f with f | f; exact Or.inl (by rw [hf.1 17 h17]; exact f); exact Or.inr (isN_fr hf h17 f)⟩
theorem abs_nI : ∀ a, a < 5 → ∀ b, b < 5 → absI (nI a - nI b) = nI (if b < a then a - b else b - a) := by decide +kernel
theorem used_or : ∀ U, U < 32 → ∀ r, r < 5 → nI U ||| ((1 : Int32) <<< (nI r &&& 31)) = nI (U ||| 2 ^ r) := by decide +kernel
theorem used_lt : ∀ U, U < 32 → ∀ r, r < 5 → U ||| 2 ^ r < 32 := by decide +kernel
theorem used_bit : ∀ U, U < 32 → ∀ r, r < 5 → ∀ q, q < 5 → (slvI (nI (U ||| 2 ^ r)) (nI q) = 0 ↔ slvI (nI U) (nI q) = 0 ∧ q ≠ r) := by decide +kernel
theorem nI_n9 : ∀ n, n < 5 → ¬ nI n = -9 := by decide +kernel
theorem p0_of {μ : Mem} (a1 : gi μ 17 1 = -9 ∨ isN μ 17 1 4) : (if gi μ 17 1 = -9 then (0 : Int32) else gi μ 17 1) = nI (P0C μ) ∧ P0C μ < 5 := by
  unfold P0C
  rcases a1 with a1 | ⟨a1, a2⟩
  · rw [if_pos a1, if_pos a1]; exact ⟨rfl, by omega⟩
  · have hne : ¬ gi μ 17 1 = -9 := by rw [a1]; exact nI_n9 _ (by omega)
    rw [if_neg hne, if_neg hne]; exact ⟨a1, by omega⟩
theorem pl_of {μ : Mem} (a1 : gi μ 17 1 = -9 ∨ isN μ 17 1 4) (B k : Nat) : (if (if k = 0 then gi μ 17 1 else nI (dg B (k - 1) - 1)) = -9 then (0 : Int32) else (if k = 0 then gi μ 17 1 else nI (dg B (k - 1) - 1))) = nI (plN (P0C μ) B k) ∧ plN (P0C μ) B k < 5 := by
  cases k with
  | zero => exact p0_of a1
  | succ k =>
    have hd := dg_lt B k
    have e : (if k + 1 = 0 then gi μ 17 1 else nI (dg B (k + 1 - 1) - 1)) = nI (dg B k - 1) := if_neg (Nat.succ_ne_zero k)
    rw [e, if_neg (nI_n9 _ (by omega)), plN]
    exact ⟨rfl, by omega⟩
def S_X0_weigh : Tr := fun av μ P => ∃ (p1 : Int32) (p2 : Int32) (p3 : Int32), av = [.ref 64, .int p1, .int p2, .int p3] ∧ pre_X0_weigh p1 p2 p3 μ ∧ ∀ m : Mem, post_X0_weigh p1 p2 p3 μ m → P none m
def vc_X0_weigh_0 (p1 : Int32) (p2 : Int32) (p3 : Int32)  (μ : Mem) (R : Mem → Prop)  : Prop :=
  (((gi μ 64 2) < p2 → (∀ μ2, μ2 = ui μ 64 1 p1 → (∀ μ4, μ4 = ui μ2 64 2 p2 → (∀ μ6, μ6 = ui μ4 64 3 p3 → (¬ p1 < 0 ∧ (Int32.toNatClampNeg p1) ≤ 5 ∧ (Int32.toNatClampNeg p1) ≤ 5) ∧ (∀ μ8, μ8 = ua μ6 65 (va_cpy (gi μ6 66) (gi μ6 65) 0 0 (Int32.toNatClampNeg p1)) → R μ8))))) ∧ (¬ (gi μ 64 2) < p2 → ((¬ p2 = (gi μ 64 2) → R μ) ∧ (p2 = (gi μ 64 2) → (((gi μ 64 3) ≤ p3 → R μ) ∧ (¬ (gi μ 64 3) ≤ p3 → (∀ μ13, μ13 = ui μ 64 1 p1 → (∀ μ15, μ15 = ui μ13 64 2 p2 → (∀ μ17, μ17 = ui μ15 64 3 p3 → (¬ p1 < 0 ∧ (Int32.toNatClampNeg p1) ≤ 5 ∧ (Int32.toNatClampNeg p1) ≤ 5) ∧ (∀ μ19, μ19 = ua μ17 65 (va_cpy (gi μ17 66) (gi μ17 65) 0 0 (Int32.toNatClampNeg p1)) → R μ19))))))))))
set_option maxRecDepth 20000 in
set_option maxHeartbeats 4000000 in
theorem wk_X0_weigh_0 {X : XT} {P : Post} (hO : OkM X cX0_weigh RX0 2 none P) (hn : xn X = 4) (p1 : Int32) (p2 : Int32) (p3 : Int32)   (μ : Mem) {R : Mem → Prop} (hR : ∀ m, R m → P none m)    (h : vc_X0_weigh_0 p1 p2 p3  μ R ) : V X 0 [some (.ref 64), some (.int p1), some (.int p2), some (.int p3)] [] μ := by
  have hX := hO.1
  unfold vc_X0_weigh_0 at h
  refine v_iload_n hX dX0_weigh_0 rfl (?_ : V X 1 [some (.ref 64), some (.int p1), some (.int p2), some (.int p3)] [.int p2] μ)
  refine v_aload_n hX dX0_weigh_1 rfl (?_ : V X 2 [some (.ref 64), some (.int p1), some (.int p2), some (.int p3)] [.ref 64, .int p2] μ)
  refine v_geti hX fk_X0_44 sh_64 rfl dX0_weigh_2 (?_ : V X 5 [some (.ref 64), some (.int p1), some (.int p2), some (.int p3)] [.int (gi μ 64 2), .int p2] μ)
  refine v_icmp_gt hX 24 dX0_weigh_5 rfl (fun c1 => ?_) (fun c1 => ?_)
  · replace h := h.1 c1
    refine v_aload_n hX dX0_weigh_24 rfl (?_ : V X 25 [some (.ref 64), some (.int p1), some (.int p2), some (.int p3)] [.ref 64] μ)
    refine v_iload_n hX dX0_weigh_25 rfl (?_ : V X 26 [some (.ref 64), some (.int p1), some (.int p2), some (.int p3)] [.int p1, .ref 64] μ)
    refine w_puti hX fk_X0_41 fw_0_1 sh_64 rfl dX0_weigh_26 (fun μ2 e3 => (?_ : V X 29 [some (.ref 64), some (.int p1), some (.int p2), some (.int p3)] [] μ2))
    replace h := h μ2 e3
    refine v_aload_n hX dX0_weigh_29 rfl (?_ : V X 30 [some (.ref 64), some (.int p1), some (.int p2), some (.int p3)] [.ref 64] μ2)
    refine v_iload_n hX dX0_weigh_30 rfl (?_ : V X 31 [some (.ref 64), some (.int p1), some (.int p2), some (.int p3)] [.int p2, .ref 64] μ2)
    refine w_puti hX fk_X0_44 fw_0_2 sh_64 rfl dX0_weigh_31 (fun μ4 e5 => (?_ : V X 34 [some (.ref 64), some (.int p1), some (.int p2), some (.int p3)] [] μ4))
    replace h := h μ4 e5
    refine v_aload_n hX dX0_weigh_34 rfl (?_ : V X 35 [some (.ref 64), some (.int p1), some (.int p2), some (.int p3)] [.ref 64] μ4)
    refine v_iload_n hX dX0_weigh_35 rfl (?_ : V X 36 [some (.ref 64), some (.int p1), some (.int p2), some (.int p3)] [.int p3, .ref 64] μ4)
    refine w_puti hX fk_X0_47 fw_0_3 sh_64 rfl dX0_weigh_36 (fun μ6 e7 => (?_ : V X 39 [some (.ref 64), some (.int p1), some (.int p2), some (.int p3)] [] μ6))
    replace h := h μ6 e7
    refine v_aload_n hX dX0_weigh_39 rfl (?_ : V X 40 [some (.ref 64), some (.int p1), some (.int p2), some (.int p3)] [.ref 64] μ6)
    refine v_getr hX (66) fk_X0_15 sh_64 rfl rfl dX0_weigh_40 (?_ : V X 43 [some (.ref 64), some (.int p1), some (.int p2), some (.int p3)] [.ref 66] μ6)
    refine v_iconst hX 0 dX0_weigh_43 rfl (?_ : V X 44 [some (.ref 64), some (.int p1), some (.int p2), some (.int p3)] [.int 0, .ref 66] μ6)
    refine v_aload_n hX dX0_weigh_44 rfl (?_ : V X 45 [some (.ref 64), some (.int p1), some (.int p2), some (.int p3)] [.ref 64, .int 0, .ref 66] μ6)
    refine v_getr hX (65) fk_X0_9 sh_64 rfl rfl dX0_weigh_45 (?_ : V X 48 [some (.ref 64), some (.int p1), some (.int p2), some (.int p3)] [.ref 65, .int 0, .ref 66] μ6)
    refine v_iconst hX 0 dX0_weigh_48 rfl (?_ : V X 49 [some (.ref 64), some (.int p1), some (.int p2), some (.int p3)] [.int 0, .ref 65, .int 0, .ref 66] μ6)
    refine v_iload_n hX dX0_weigh_49 rfl (?_ : V X 50 [some (.ref 64), some (.int p1), some (.int p2), some (.int p3)] [.int p1, .int 0, .ref 65, .int 0, .ref 66] μ6)
    have hb10 := h.1
    replace h := h.2
    refine w_copy hX (Int32.toNatClampNeg p1) mk_X0_21 sh_66 sh_65 (by decide) (by decide) (by decide) (Nat.le_of_ble_eq_true rfl) dX0_weigh_50 rfl hb10.1 hb10.2.1 hb10.2.2 (fun μ8 e9 => (?_ : V X 53 [some (.ref 64), some (.int p1), some (.int p2), some (.int p3)] [] μ8))
    replace h := h μ8 e9
    exact v_vret hO dX0_weigh_53 (hR _ h)
  · replace h := h.2 c1
    refine v_iload_n hX dX0_weigh_8 rfl (?_ : V X 9 [some (.ref 64), some (.int p1), some (.int p2), some (.int p3)] [.int p2] μ)
    refine v_aload_n hX dX0_weigh_9 rfl (?_ : V X 10 [some (.ref 64), some (.int p1), some (.int p2), some (.int p3)] [.ref 64, .int p2] μ)
    refine v_geti hX fk_X0_44 sh_64 rfl dX0_weigh_10 (?_ : V X 13 [some (.ref 64), some (.int p1), some (.int p2), some (.int p3)] [.int (gi μ 64 2), .int p2] μ)
    refine v_icmp_ne hX 53 dX0_weigh_13 rfl (fun c11 => ?_) (fun c11 => ?_)
    · replace h := h.1 c11
      exact v_vret hO dX0_weigh_53 (hR _ h)
    · replace h := h.2 c11
      refine v_iload_n hX dX0_weigh_16 rfl (?_ : V X 17 [some (.ref 64), some (.int p1), some (.int p2), some (.int p3)] [.int p3] μ)
      refine v_aload_n hX dX0_weigh_17 rfl (?_ : V X 18 [some (.ref 64), some (.int p1), some (.int p2), some (.int p3)] [.ref 64, .int p3] μ)
      refine v_geti hX fk_X0_47 sh_64 rfl dX0_weigh_18 (?_ : V X 21 [some (.ref 64), some (.int p1), some (.int p2), some (.int p3)] [.int (gi μ 64 3), .int p3] μ)
      refine v_icmp_ge hX 53 dX0_weigh_21 rfl (fun c12 => ?_) (fun c12 => ?_)
      · replace h := h.1 c12
        exact v_vret hO dX0_weigh_53 (hR _ h)
      · replace h := h.2 c12
        refine v_aload_n hX dX0_weigh_24 rfl (?_ : V X 25 [some (.ref 64), some (.int p1), some (.int p2), some (.int p3)] [.ref 64] μ)
        refine v_iload_n hX dX0_weigh_25 rfl (?_ : V X 26 [some (.ref 64), some (.int p1), some (.int p2), some (.int p3)] [.int p1, .ref 64] μ)
        refine w_puti hX fk_X0_41 fw_0_1 sh_64 rfl dX0_weigh_26 (fun μ13 e14 => (?_ : V X 29 [some (.ref 64), some (.int p1), some (.int p2), some (.int p3)] [] μ13))
        replace h := h μ13 e14
        refine v_aload_n hX dX0_weigh_29 rfl (?_ : V X 30 [some (.ref 64), some (.int p1), some (.int p2), some (.int p3)] [.ref 64] μ13)
        refine v_iload_n hX dX0_weigh_30 rfl (?_ : V X 31 [some (.ref 64), some (.int p1), some (.int p2), some (.int p3)] [.int p2, .ref 64] μ13)
        refine w_puti hX fk_X0_44 fw_0_2 sh_64 rfl dX0_weigh_31 (fun μ15 e16 => (?_ : V X 34 [some (.ref 64), some (.int p1), some (.int p2), some (.int p3)] [] μ15))
        replace h := h μ15 e16
        refine v_aload_n hX dX0_weigh_34 rfl (?_ : V X 35 [some (.ref 64), some (.int p1), some (.int p2), some (.int p3)] [.ref 64] μ15)
        refine v_iload_n hX dX0_weigh_35 rfl (?_ : V X 36 [some (.ref 64), some (.int p1), some (.int p2), some (.int p3)] [.int p3, .ref 64] μ15)
        refine w_puti hX fk_X0_47 fw_0_3 sh_64 rfl dX0_weigh_36 (fun μ17 e18 => (?_ : V X 39 [some (.ref 64), some (.int p1), some (.int p2), some (.int p3)] [] μ17))
        replace h := h μ17 e18
        refine v_aload_n hX dX0_weigh_39 rfl (?_ : V X 40 [some (.ref 64), some (.int p1), some (.int p2), some (.int p3)] [.ref 64] μ17)
        refine v_getr hX (66) fk_X0_15 sh_64 rfl rfl dX0_weigh_40 (?_ : V X 43 [some (.ref 64), some (.int p1), some (.int p2), some (.int p3)] [.ref 66] μ17)
        refine v_iconst hX 0 dX0_weigh_43 rfl (?_ : V X 44 [some (.ref 64), some (.int p1), some (.int p2), some (.int p3)] [.int 0, .ref 66] μ17)
        refine v_aload_n hX dX0_weigh_44 rfl (?_ : V X 45 [some (.ref 64), some (.int p1), some (.int p2), some (.int p3)] [.ref 64, .int 0, .ref 66] μ17)
        refine v_getr hX (65) fk_X0_9 sh_64 rfl rfl dX0_weigh_45 (?_ : V X 48 [some (.ref 64), some (.int p1), some (.int p2), some (.int p3)] [.ref 65, .int 0, .ref 66] μ17)
        refine v_iconst hX 0 dX0_weigh_48 rfl (?_ : V X 49 [some (.ref 64), some (.int p1), some (.int p2), some (.int p3)] [.int 0, .ref 65, .int 0, .ref 66] μ17)
        refine v_iload_n hX dX0_weigh_49 rfl (?_ : V X 50 [some (.ref 64), some (.int p1), some (.int p2), some (.int p3)] [.int p1, .int 0, .ref 65, .int 0, .ref 66] μ17)
        have hb21 := h.1
        replace h := h.2
        refine w_copy hX (Int32.toNatClampNeg p1) mk_X0_21 sh_66 sh_65 (by decide) (by decide) (by decide) (Nat.le_of_ble_eq_true rfl) dX0_weigh_50 rfl hb21.1 hb21.2.1 hb21.2.2 (fun μ19 e20 => (?_ : V X 53 [some (.ref 64), some (.int p1), some (.int p2), some (.int p3)] [] μ19))
        replace h := h μ19 e20
        exact v_vret hO dX0_weigh_53 (hR _ h)
set_option maxRecDepth 20000 in
set_option maxHeartbeats 1000000 in
theorem vp_X0_weigh_0 (p1 : Int32) (p2 : Int32) (p3 : Int32)  (μ : Mem) (hpre : pre_X0_weigh p1 p2 p3 μ) : vc_X0_weigh_0 p1 p2 p3 μ (post_X0_weigh p1 p2 p3 μ)  := by
  unfold vc_X0_weigh_0
  obtain ⟨e, he⟩ := hpre
  have yes : betI μ p2 p3 → ∀ m, m = ua (ui (ui (ui μ 64 1 p1) 64 2 p2) 64 3 p3) 65 (va_cpy (gi (ui (ui (ui μ 64 1 p1) 64 2 p2) 64 3 p3) 66) (gi (ui (ui (ui μ 64 1 p1) 64 2 p2) 64 3 p3) 65) 0 0 p1.toNatClampNeg) → post_X0_weigh p1 p2 p3 μ m := by
    rintro hb m rfl
    refine ⟨fr_trans (fr_ui (by simp)) (fr_trans (fr_ui (by simp)) (fr_trans (fr_ui (by simp)) (fr_ua (by simp)))), rfl, fun _ => ⟨rfl, rfl, rfl, fun j hj => ?_⟩, fun z => absurd hb z⟩
    rw [gi_ua, if_pos rfl]; unfold va_cpy
    rw [if_pos (by omega)]
    simp only [Nat.zero_add, Nat.sub_zero]; rfl
  have no : ¬ betI μ p2 p3 → post_X0_weigh p1 p2 p3 μ μ := fun hb => ⟨fr_refl _ _, rfl, fun z => absurd z hb, fun _ => rfl⟩
  have np : ¬ p1 < 0 := by rw [e]; exact nI_pos (by omega)
  refine ⟨fun c => ?_, fun c => ⟨fun c2 => no ?_, fun c2 => ⟨fun c3 => no ?_, fun c3 => ?_⟩⟩⟩
  · rintro _ rfl _ rfl _ rfl
    exact ⟨⟨np, he, he⟩, yes (Or.inl c)⟩
  · rintro (z | z)
    · exact c z
    · exact c2 z.1
  · rintro (z | z)
    · exact c z
    · exact absurd c3 (by simpa using z.2)
  · rintro _ rfl _ rfl _ rfl
    exact ⟨⟨np, he, he⟩, yes (Or.inr ⟨c2, nle_lt c3⟩)⟩
  theorem ev_env {μ m : Mem} {w : Nat} (hw : w = 3 ∨ w = 10) (hf : fr [64, 65, 66] μ m) : bstC m w = bstC μ w ∧ accC m w = accC μ w ∧ tmC m w = tmC μ w ∧ gi m (w + 3) = gi μ (w + 3) ∧ bcC m w = bcC μ w := by
    have hw0 : w ∉ ([64, 65, 66] : List Nat) := by simp; omega
    have hw3 : w + 3 ∉ ([64, 65, 66] : List Nat) := by simp; omega
    have e3 : gi m (w + 3) = gi μ (w + 3) := funext fun k => hf.1 _ hw3 k
    have eg : ∀ k, gn m w k = gn μ w k := fun k => gn_fr hf hw0 k
    have e17 : ∀ k, gn m 17 k = gn μ 17 k := fun k => gn_fr hf (by simp) k
    have em : moX m = moX μ := funext fun r => by unfold moX; rw [hf.1 67 (by simp), gn_fr hf (by simp)]
    have ep : P0C m = P0C μ := by unfold P0C; rw [hf.1 17 (by simp), e17]
    have et : tmC m w = tmC μ w := funext fun c => funext fun k => by unfold tmC; rw [em, ep, eg]
    refine ⟨?_, ?_, et, e3, ?_⟩
    · funext n b; unfold bstC; rw [em, ep, eg, eg, eg, e17, e3]
    · funext c; unfold accC; rw [em, ep, eg, eg, eg, e17]
    · funext q b; unfold bcC; rw [et, e3]
theorem sp_X0_weigh : Sp yX0_weigh cX0_weigh 4 none 2 S_X0_weigh := by
  refine sp_of (by decide) (fun av μ P h => ?_) ?_
  · obtain ⟨p1, p2, p3, rfl, -⟩ := h
    refine ⟨Nat.le_of_ble_eq_true rfl, fun v hv => ?_⟩
    simp only [List.mem_cons, List.not_mem_nil, or_false] at hv
    rcases hv with rfl | rfl | rfl | rfl <;> rfl
  · rintro X P hO _ μ ⟨p1, p2, p3, rfl, hpre, hpost⟩ hn
    exact wk_X0_weigh_0 hO hn p1 p2 p3  μ hpost (vp_X0_weigh_0 p1 p2 p3  μ hpre)
def S_X0_extend (lv : Nat) : Tr := fun av μ P => ∃ (w : Nat) (p1 : Int32) (p2 : Int32) (p3 : Int32) (p4 : Int32) (p5 : Int32), av = [.ref 64, .ref w, .int p1, .int p2, .int p3, .int p4, .int p5] ∧ (w = 3 ∨ w = 10) ∧ pre_X0_extend lv w p1 p2 p3 p4 p5 μ ∧ ∀ m : Mem, post_X0_extend lv w p1 p2 p3 p4 p5 μ m → P none m
def vc_X0_extend_0 (lv : Nat) (w : Nat) (p1 : Int32) (p2 : Int32) (p3 : Int32) (p4 : Int32) (p5 : Int32)  (μ : Mem) (R : Mem → Prop) (J9 : Int32 → Mem → Prop) : Prop :=
  ((p1 < 5 → J9 0 μ) ∧ (¬ p1 < 5 → R μ))
set_option maxRecDepth 20000 in
set_option maxHeartbeats 4000000 in
theorem wk_X0_extend_0 {X : XT} {P : Post} {lv : Nat} (hO : OkM X cX0_extend RX0 (3 + lv) none P) (hn : xn X = 10) (w : Nat) (p1 : Int32) (p2 : Int32) (p3 : Int32) (p4 : Int32) (p5 : Int32) (hw : w = 3 ∨ w = 10)  (μ : Mem) {R : Mem → Prop} (hR : ∀ m, R m → P none m) {J9 : Int32 → Mem → Prop} (hJ9 : ∀ (l7 : Int32) (m : Mem), J9 l7 m → V X 9 [some (.ref 64), some (.ref w), some (.int p1), some (.int p2), some (.int p3), some (.int p4), some (.int p5), some (.int l7), none, none] [] m) (hrec : ∀ k : Nat, k < lv → Sp yX0_extend cX0_extend 10 none (3 + k) (S_X0_extend k)) (h : vc_X0_extend_0 lv w p1 p2 p3 p4 p5  μ R J9) : V X 0 [some (.ref 64), some (.ref w), some (.int p1), some (.int p2), some (.int p3), some (.int p4), some (.int p5), none, none, none] [] μ := by
  have hX := hO.1
  unfold vc_X0_extend_0 at h
  refine v_iload_n hX dX0_extend_0 rfl (?_ : V X 1 [some (.ref 64), some (.ref w), some (.int p1), some (.int p2), some (.int p3), some (.int p4), some (.int p5), none, none, none] [.int p1] μ)
  refine v_iconst hX 5 dX0_extend_1 rfl (?_ : V X 2 [some (.ref 64), some (.ref w), some (.int p1), some (.int p2), some (.int p3), some (.int p4), some (.int p5), none, none, none] [.int 5, .int p1] μ)
  refine v_icmp_lt hX 6 dX0_extend_2 rfl (fun c1 => ?_) (fun c1 => ?_)
  · replace h := h.1 c1
    refine v_iconst hX 0 dX0_extend_6 rfl (?_ : V X 7 [some (.ref 64), some (.ref w), some (.int p1), some (.int p2), some (.int p3), some (.int p4), some (.int p5), none, none, none] [.int 0] μ)
    refine v_istore hX dX0_extend_7 (by rw [hn]; decide) (?_ : V X 9 [some (.ref 64), some (.ref w), some (.int p1), some (.int p2), some (.int p3), some (.int p4), some (.int p5), some (.int 0), none, none] [] μ)
    exact v_mask [true, true, true, true, true, true, true, true, false, false] (hJ9 _ _ h)
  · replace h := h.2 c1
    exact v_vret hO dX0_extend_5 (hR _ h)
def vc_X0_extend_9 (lv : Nat) (w : Nat) (p1 : Int32) (p2 : Int32) (p3 : Int32) (p4 : Int32) (p5 : Int32) (l7 : Int32) (μ : Mem) (R : Mem → Prop) (J9 : Int32 → Mem → Prop) : Prop :=
  (((gi μ w 0) ≤ l7 → R μ) ∧ (¬ (gi μ w 0) ≤ l7 → vp_in l7 5 ∧ (((gi μ 67 (Int32.toNatClampNeg l7)) = ((-9)) → J9 (l7 + 1) μ) ∧ (¬ (gi μ 67 (Int32.toNatClampNeg l7)) = ((-9)) → ((¬ ((p5 >>> (l7 &&& 31)) &&& 1) = 0 → J9 (l7 + 1) μ) ∧ (((p5 >>> (l7 &&& 31)) &&& 1) = 0 → (pre_X2_walkBetween w p2 l7 μ ∧ ∀ (x5 : Int32) (μ6 : Mem), post_X2_walkBetween w p2 l7 μ x5 μ6 → vp_in l7 5 ∧ (∀ y9 : Int32, y9 = ((p3 + x5) + (gi μ6 67 (Int32.toNatClampNeg l7))) → vp_in l7 5 ∧ (∀ y12 : Int32, y12 = (p4 + (gi μ6 (w + 3) (Int32.toNatClampNeg l7))) → (((gi μ6 64 6) < y9 → J9 (l7 + 1) μ6) ∧ (¬ (gi μ6 64 6) < y9 → vp_in p1 5 ∧ (∀ μ16, μ16 = ui μ6 66 (Int32.toNatClampNeg p1) l7 → (pre_X0_weigh (p1 + 1) y12 y9 μ16 ∧ ∀ (μ19 : Mem), post_X0_weigh (p1 + 1) y12 y9 μ16 μ19 → (0 < lv ∧ pre_X0_extend (lv - 1) w (p1 + 1) l7 y9 y12 (p5 ||| (1 <<< (l7 &&& 31))) μ19 ∧ ∀ (μ22 : Mem), post_X0_extend (lv - 1) w (p1 + 1) l7 y9 y12 (p5 ||| (1 <<< (l7 &&& 31))) μ19 μ22 → J9 (l7 + 1) μ22))))))))))))))
set_option maxRecDepth 20000 in
set_option maxHeartbeats 4000000 in
theorem wk_X0_extend_9 {X : XT} {P : Post} {lv : Nat} (hO : OkM X cX0_extend RX0 (3 + lv) none P) (hn : xn X = 10) (w : Nat) (p1 : Int32) (p2 : Int32) (p3 : Int32) (p4 : Int32) (p5 : Int32) (hw : w = 3 ∨ w = 10) (l7 : Int32) (μ : Mem) {R : Mem → Prop} (hR : ∀ m, R m → P none m) {J9 : Int32 → Mem → Prop} (hJ9 : ∀ (l7 : Int32) (m : Mem), J9 l7 m → V X 9 [some (.ref 64), some (.ref w), some (.int p1), some (.int p2), some (.int p3), some (.int p4), some (.int p5), some (.int l7), none, none] [] m) (hrec : ∀ k : Nat, k < lv → Sp yX0_extend cX0_extend 10 none (3 + k) (S_X0_extend k)) (h : vc_X0_extend_9 lv w p1 p2 p3 p4 p5 l7 μ R J9) : V X 9 [some (.ref 64), some (.ref w), some (.int p1), some (.int p2), some (.int p3), some (.int p4), some (.int p5), some (.int l7), none, none] [] μ := by
  have hX := hO.1
  unfold vc_X0_extend_9 at h
  refine v_iload hX dX0_extend_9 rfl (?_ : V X 11 [some (.ref 64), some (.ref w), some (.int p1), some (.int p2), some (.int p3), some (.int p4), some (.int p5), some (.int l7), none, none] [.int l7] μ)
  refine v_aload_n hX dX0_extend_11 rfl (?_ : V X 12 [some (.ref 64), some (.ref w), some (.int p1), some (.int p2), some (.int p3), some (.int p4), some (.int p5), some (.int l7), none, none] [.ref w, .int l7] μ)
  refine v_geti hX fk_X0_57 (sHo hw) rfl dX0_extend_12 (?_ : V X 15 [some (.ref 64), some (.ref w), some (.int p1), some (.int p2), some (.int p3), some (.int p4), some (.int p5), some (.int l7), none, none] [.int (gi μ w 0), .int l7] μ)
  refine v_icmp_ge hX 127 dX0_extend_15 rfl (fun c1 => ?_) (fun c1 => ?_)
  · replace h := h.1 c1
    exact v_vret hO dX0_extend_127 (hR _ h)
  · replace h := h.2 c1
    refine v_aload_n hX dX0_extend_18 rfl (?_ : V X 19 [some (.ref 64), some (.ref w), some (.int p1), some (.int p2), some (.int p3), some (.int p4), some (.int p5), some (.int l7), none, none] [.ref 64] μ)
    refine v_getr hX (67) fk_X0_18 sh_64 rfl rfl dX0_extend_19 (?_ : V X 22 [some (.ref 64), some (.ref w), some (.int p1), some (.int p2), some (.int p3), some (.int p4), some (.int p5), some (.int l7), none, none] [.ref 67] μ)
    refine v_iload hX dX0_extend_22 rfl (?_ : V X 24 [some (.ref 64), some (.ref w), some (.int p1), some (.int p2), some (.int p3), some (.int p4), some (.int p5), some (.int l7), none, none] [.int l7, .ref 67] μ)
    have hb2 := h.1
    replace h := h.2
    refine w_iald hX (Int32.toNatClampNeg l7) sh_67 hb2 rfl dX0_extend_24 (?_ : V X 25 [some (.ref 64), some (.ref w), some (.int p1), some (.int p2), some (.int p3), some (.int p4), some (.int p5), some (.int l7), none, none] [.int (gi μ 67 (Int32.toNatClampNeg l7))] μ)
    refine v_bipush hX (-9) dX0_extend_25 rfl (?_ : V X 27 [some (.ref 64), some (.ref w), some (.int p1), some (.int p2), some (.int p3), some (.int p4), some (.int p5), some (.int l7), none, none] [.int ((-9)), .int (gi μ 67 (Int32.toNatClampNeg l7))] μ)
    refine v_icmp_eq hX 121 dX0_extend_27 rfl (fun c3 => ?_) (fun c3 => ?_)
    · replace h := h.1 c3
      refine v_iinc hX 1 dX0_extend_121 (by rw [hn]; decide) rfl rfl (?_ : V X 124 [some (.ref 64), some (.ref w), some (.int p1), some (.int p2), some (.int p3), some (.int p4), some (.int p5), some (.int (l7 + 1)), none, none] [] μ)
      refine v_goto hX 9 dX0_extend_124 rfl (?_ : V X 9 [some (.ref 64), some (.ref w), some (.int p1), some (.int p2), some (.int p3), some (.int p4), some (.int p5), some (.int (l7 + 1)), none, none] [] μ)
      exact v_mask [true, true, true, true, true, true, true, true, false, false] (hJ9 _ _ h)
    · replace h := h.2 c3
      refine v_iload hX dX0_extend_30 rfl (?_ : V X 32 [some (.ref 64), some (.ref w), some (.int p1), some (.int p2), some (.int p3), some (.int p4), some (.int p5), some (.int l7), none, none] [.int p5] μ)
      refine v_iload hX dX0_extend_32 rfl (?_ : V X 34 [some (.ref 64), some (.ref w), some (.int p1), some (.int p2), some (.int p3), some (.int p4), some (.int p5), some (.int l7), none, none] [.int l7, .int p5] μ)
      refine v_ishr hX dX0_extend_34 (?_ : V X 35 [some (.ref 64), some (.ref w), some (.int p1), some (.int p2), some (.int p3), some (.int p4), some (.int p5), some (.int l7), none, none] [.int (p5 >>> (l7 &&& 31))] μ)
      refine v_iconst hX 1 dX0_extend_35 rfl (?_ : V X 36 [some (.ref 64), some (.ref w), some (.int p1), some (.int p2), some (.int p3), some (.int p4), some (.int p5), some (.int l7), none, none] [.int 1, .int (p5 >>> (l7 &&& 31))] μ)
      refine v_iand hX dX0_extend_36 (?_ : V X 37 [some (.ref 64), some (.ref w), some (.int p1), some (.int p2), some (.int p3), some (.int p4), some (.int p5), some (.int l7), none, none] [.int ((p5 >>> (l7 &&& 31)) &&& 1)] μ)
      refine v_if_ne hX 121 dX0_extend_37 rfl (fun c4 => ?_) (fun c4 => ?_)
      · replace h := h.1 c4
        refine v_iinc hX 1 dX0_extend_121 (by rw [hn]; decide) rfl rfl (?_ : V X 124 [some (.ref 64), some (.ref w), some (.int p1), some (.int p2), some (.int p3), some (.int p4), some (.int p5), some (.int (l7 + 1)), none, none] [] μ)
        refine v_goto hX 9 dX0_extend_124 rfl (?_ : V X 9 [some (.ref 64), some (.ref w), some (.int p1), some (.int p2), some (.int p3), some (.int p4), some (.int p5), some (.int (l7 + 1)), none, none] [] μ)
        exact v_mask [true, true, true, true, true, true, true, true, false, false] (hJ9 _ _ h)
      · replace h := h.2 c4
        refine v_iload hX dX0_extend_40 rfl (?_ : V X 42 [some (.ref 64), some (.ref w), some (.int p1), some (.int p2), some (.int p3), some (.int p4), some (.int p5), some (.int l7), none, none] [.int p3] μ)
        refine v_aload_n hX dX0_extend_42 rfl (?_ : V X 43 [some (.ref 64), some (.ref w), some (.int p1), some (.int p2), some (.int p3), some (.int p4), some (.int p5), some (.int l7), none, none] [.ref w, .int p3] μ)
        refine v_iload_n hX dX0_extend_43 rfl (?_ : V X 44 [some (.ref 64), some (.ref w), some (.int p1), some (.int p2), some (.int p3), some (.int p4), some (.int p5), some (.int l7), none, none] [.int p2, .ref w, .int p3] μ)
        refine v_iload hX dX0_extend_44 rfl (?_ : V X 46 [some (.ref 64), some (.ref w), some (.int p1), some (.int p2), some (.int p3), some (.int p4), some (.int p5), some (.int l7), none, none] [.int l7, .int p2, .ref w, .int p3] μ)
        refine v_callV hX sp_X2_walkBetween ck_X2_walkBetween mk_X0_60 mv_X2_walkBetween (sHo hw) (by decide) (by omega) [.int p2, .int l7] [.int p3] rfl rfl (Nat.le_of_ble_eq_true rfl) dX0_extend_46 ⟨w, p2, l7, rfl, hw, h.1, fun x5 μ6 hp7 => (?_ : V X 49 [some (.ref 64), some (.ref w), some (.int p1), some (.int p2), some (.int p3), some (.int p4), some (.int p5), some (.int l7), none, none] [.int x5, .int p3] μ6)⟩
        replace h := h.2 x5 μ6 hp7
        refine v_iadd hX dX0_extend_49 (?_ : V X 50 [some (.ref 64), some (.ref w), some (.int p1), some (.int p2), some (.int p3), some (.int p4), some (.int p5), some (.int l7), none, none] [.int (p3 + x5)] μ6)
        refine v_aload_n hX dX0_extend_50 rfl (?_ : V X 51 [some (.ref 64), some (.ref w), some (.int p1), some (.int p2), some (.int p3), some (.int p4), some (.int p5), some (.int l7), none, none] [.ref 64, .int (p3 + x5)] μ6)
        refine v_getr hX (67) fk_X0_18 sh_64 rfl rfl dX0_extend_51 (?_ : V X 54 [some (.ref 64), some (.ref w), some (.int p1), some (.int p2), some (.int p3), some (.int p4), some (.int p5), some (.int l7), none, none] [.ref 67, .int (p3 + x5)] μ6)
        refine v_iload hX dX0_extend_54 rfl (?_ : V X 56 [some (.ref 64), some (.ref w), some (.int p1), some (.int p2), some (.int p3), some (.int p4), some (.int p5), some (.int l7), none, none] [.int l7, .ref 67, .int (p3 + x5)] μ6)
        have hb8 := h.1
        replace h := h.2
        refine w_iald hX (Int32.toNatClampNeg l7) sh_67 hb8 rfl dX0_extend_56 (?_ : V X 57 [some (.ref 64), some (.ref w), some (.int p1), some (.int p2), some (.int p3), some (.int p4), some (.int p5), some (.int l7), none, none] [.int (gi μ6 67 (Int32.toNatClampNeg l7)), .int (p3 + x5)] μ6)
        refine v_iadd hX dX0_extend_57 (?_ : V X 58 [some (.ref 64), some (.ref w), some (.int p1), some (.int p2), some (.int p3), some (.int p4), some (.int p5), some (.int l7), none, none] [.int ((p3 + x5) + (gi μ6 67 (Int32.toNatClampNeg l7)))] μ6)
        refine w_istore hX dX0_extend_58 (by rw [hn]; decide) (fun y9 e10 => (?_ : V X 60 [some (.ref 64), some (.ref w), some (.int p1), some (.int p2), some (.int p3), some (.int p4), some (.int p5), some (.int l7), some (.int y9), none] [] μ6))
        replace h := h y9 e10
        refine v_iload hX dX0_extend_60 rfl (?_ : V X 62 [some (.ref 64), some (.ref w), some (.int p1), some (.int p2), some (.int p3), some (.int p4), some (.int p5), some (.int l7), some (.int y9), none] [.int p4] μ6)
        refine v_aload_n hX dX0_extend_62 rfl (?_ : V X 63 [some (.ref 64), some (.ref w), some (.int p1), some (.int p2), some (.int p3), some (.int p4), some (.int p5), some (.int l7), some (.int y9), none] [.ref w, .int p4] μ6)
        refine v_getr hX (w + 3) fk_X0_64 (sHo hw) rfl rfl dX0_extend_63 (?_ : V X 66 [some (.ref 64), some (.ref w), some (.int p1), some (.int p2), some (.int p3), some (.int p4), some (.int p5), some (.int l7), some (.int y9), none] [.ref (w + 3), .int p4] μ6)
        refine v_iload hX dX0_extend_66 rfl (?_ : V X 68 [some (.ref 64), some (.ref w), some (.int p1), some (.int p2), some (.int p3), some (.int p4), some (.int p5), some (.int l7), some (.int y9), none] [.int l7, .ref (w + 3), .int p4] μ6)
        have hb11 := h.1
        replace h := h.2
        refine w_iald hX (Int32.toNatClampNeg l7) (sH3 hw) hb11 rfl dX0_extend_68 (?_ : V X 69 [some (.ref 64), some (.ref w), some (.int p1), some (.int p2), some (.int p3), some (.int p4), some (.int p5), some (.int l7), some (.int y9), none] [.int (gi μ6 (w + 3) (Int32.toNatClampNeg l7)), .int p4] μ6)
        refine v_iadd hX dX0_extend_69 (?_ : V X 70 [some (.ref 64), some (.ref w), some (.int p1), some (.int p2), some (.int p3), some (.int p4), some (.int p5), some (.int l7), some (.int y9), none] [.int (p4 + (gi μ6 (w + 3) (Int32.toNatClampNeg l7)))] μ6)
        refine w_istore hX dX0_extend_70 (by rw [hn]; decide) (fun y12 e13 => (?_ : V X 72 [some (.ref 64), some (.ref w), some (.int p1), some (.int p2), some (.int p3), some (.int p4), some (.int p5), some (.int l7), some (.int y9), some (.int y12)] [] μ6))
        replace h := h y12 e13
        refine v_iload hX dX0_extend_72 rfl (?_ : V X 74 [some (.ref 64), some (.ref w), some (.int p1), some (.int p2), some (.int p3), some (.int p4), some (.int p5), some (.int l7), some (.int y9), some (.int y12)] [.int y9] μ6)
        refine v_aload_n hX dX0_extend_74 rfl (?_ : V X 75 [some (.ref 64), some (.ref w), some (.int p1), some (.int p2), some (.int p3), some (.int p4), some (.int p5), some (.int l7), some (.int y9), some (.int y12)] [.ref 64, .int y9] μ6)
        refine v_geti hX fk_X0_38 sh_64 rfl dX0_extend_75 (?_ : V X 78 [some (.ref 64), some (.ref w), some (.int p1), some (.int p2), some (.int p3), some (.int p4), some (.int p5), some (.int l7), some (.int y9), some (.int y12)] [.int (gi μ6 64 6), .int y9] μ6)
        refine v_icmp_gt hX 121 dX0_extend_78 rfl (fun c14 => ?_) (fun c14 => ?_)
        · replace h := h.1 c14
          refine v_iinc hX 1 dX0_extend_121 (by rw [hn]; decide) rfl rfl (?_ : V X 124 [some (.ref 64), some (.ref w), some (.int p1), some (.int p2), some (.int p3), some (.int p4), some (.int p5), some (.int (l7 + 1)), some (.int y9), some (.int y12)] [] μ6)
          refine v_goto hX 9 dX0_extend_124 rfl (?_ : V X 9 [some (.ref 64), some (.ref w), some (.int p1), some (.int p2), some (.int p3), some (.int p4), some (.int p5), some (.int (l7 + 1)), some (.int y9), some (.int y12)] [] μ6)
          exact v_mask [true, true, true, true, true, true, true, true, false, false] (hJ9 _ _ h)
        · replace h := h.2 c14
          refine v_aload_n hX dX0_extend_81 rfl (?_ : V X 82 [some (.ref 64), some (.ref w), some (.int p1), some (.int p2), some (.int p3), some (.int p4), some (.int p5), some (.int l7), some (.int y9), some (.int y12)] [.ref 64] μ6)
          refine v_getr hX (66) fk_X0_15 sh_64 rfl rfl dX0_extend_82 (?_ : V X 85 [some (.ref 64), some (.ref w), some (.int p1), some (.int p2), some (.int p3), some (.int p4), some (.int p5), some (.int l7), some (.int y9), some (.int y12)] [.ref 66] μ6)
          refine v_iload_n hX dX0_extend_85 rfl (?_ : V X 86 [some (.ref 64), some (.ref w), some (.int p1), some (.int p2), some (.int p3), some (.int p4), some (.int p5), some (.int l7), some (.int y9), some (.int y12)] [.int p1, .ref 66] μ6)
          refine v_iload hX dX0_extend_86 rfl (?_ : V X 88 [some (.ref 64), some (.ref w), some (.int p1), some (.int p2), some (.int p3), some (.int p4), some (.int p5), some (.int l7), some (.int y9), some (.int y12)] [.int l7, .int p1, .ref 66] μ6)
          have hb15 := h.1
          replace h := h.2
          refine w_iast hX (Int32.toNatClampNeg p1) sh_66 hb15 rfl dX0_extend_88 (fun μ16 e17 => (?_ : V X 89 [some (.ref 64), some (.ref w), some (.int p1), some (.int p2), some (.int p3), some (.int p4), some (.int p5), some (.int l7), some (.int y9), some (.int y12)] [] μ16))
          replace h := h μ16 e17
          refine v_aload_n hX dX0_extend_89 rfl (?_ : V X 90 [some (.ref 64), some (.ref w), some (.int p1), some (.int p2), some (.int p3), some (.int p4), some (.int p5), some (.int l7), some (.int y9), some (.int y12)] [.ref 64] μ16)
          refine v_iload_n hX dX0_extend_90 rfl (?_ : V X 91 [some (.ref 64), some (.ref w), some (.int p1), some (.int p2), some (.int p3), some (.int p4), some (.int p5), some (.int l7), some (.int y9), some (.int y12)] [.int p1, .ref 64] μ16)
          refine v_iconst hX 1 dX0_extend_91 rfl (?_ : V X 92 [some (.ref 64), some (.ref w), some (.int p1), some (.int p2), some (.int p3), some (.int p4), some (.int p5), some (.int l7), some (.int y9), some (.int y12)] [.int 1, .int p1, .ref 64] μ16)
          refine v_iadd hX dX0_extend_92 (?_ : V X 93 [some (.ref 64), some (.ref w), some (.int p1), some (.int p2), some (.int p3), some (.int p4), some (.int p5), some (.int l7), some (.int y9), some (.int y12)] [.int (p1 + 1), .ref 64] μ16)
          refine v_iload hX dX0_extend_93 rfl (?_ : V X 95 [some (.ref 64), some (.ref w), some (.int p1), some (.int p2), some (.int p3), some (.int p4), some (.int p5), some (.int l7), some (.int y9), some (.int y12)] [.int y12, .int (p1 + 1), .ref 64] μ16)
          refine v_iload hX dX0_extend_95 rfl (?_ : V X 97 [some (.ref 64), some (.ref w), some (.int p1), some (.int p2), some (.int p3), some (.int p4), some (.int p5), some (.int l7), some (.int y9), some (.int y12)] [.int y9, .int y12, .int (p1 + 1), .ref 64] μ16)
          refine v_callV hX sp_X0_weigh ck_X0_weigh mk_X0_67 mv_X0_weigh sh_64 (by decide) (by omega) [.int (p1 + 1), .int y12, .int y9] [] rfl rfl (Nat.le_of_ble_eq_true rfl) dX0_extend_97 ⟨(p1 + 1), y12, y9, rfl, h.1, fun μ19 hp20 => (?_ : V X 100 [some (.ref 64), some (.ref w), some (.int p1), some (.int p2), some (.int p3), some (.int p4), some (.int p5), some (.int l7), some (.int y9), some (.int y12)] [] μ19)⟩
          replace h := h.2 μ19 hp20
          refine v_aload_n hX dX0_extend_100 rfl (?_ : V X 101 [some (.ref 64), some (.ref w), some (.int p1), some (.int p2), some (.int p3), some (.int p4), some (.int p5), some (.int l7), some (.int y9), some (.int y12)] [.ref 64] μ19)
          refine v_aload_n hX dX0_extend_101 rfl (?_ : V X 102 [some (.ref 64), some (.ref w), some (.int p1), some (.int p2), some (.int p3), some (.int p4), some (.int p5), some (.int l7), some (.int y9), some (.int y12)] [.ref w, .ref 64] μ19)
          refine v_iload_n hX dX0_extend_102 rfl (?_ : V X 103 [some (.ref 64), some (.ref w), some (.int p1), some (.int p2), some (.int p3), some (.int p4), some (.int p5), some (.int l7), some (.int y9), some (.int y12)] [.int p1, .ref w, .ref 64] μ19)
          refine v_iconst hX 1 dX0_extend_103 rfl (?_ : V X 104 [some (.ref 64), some (.ref w), some (.int p1), some (.int p2), some (.int p3), some (.int p4), some (.int p5), some (.int l7), some (.int y9), some (.int y12)] [.int 1, .int p1, .ref w, .ref 64] μ19)
          refine v_iadd hX dX0_extend_104 (?_ : V X 105 [some (.ref 64), some (.ref w), some (.int p1), some (.int p2), some (.int p3), some (.int p4), some (.int p5), some (.int l7), some (.int y9), some (.int y12)] [.int (p1 + 1), .ref w, .ref 64] μ19)
          refine v_iload hX dX0_extend_105 rfl (?_ : V X 107 [some (.ref 64), some (.ref w), some (.int p1), some (.int p2), some (.int p3), some (.int p4), some (.int p5), some (.int l7), some (.int y9), some (.int y12)] [.int l7, .int (p1 + 1), .ref w, .ref 64] μ19)
          refine v_iload hX dX0_extend_107 rfl (?_ : V X 109 [some (.ref 64), some (.ref w), some (.int p1), some (.int p2), some (.int p3), some (.int p4), some (.int p5), some (.int l7), some (.int y9), some (.int y12)] [.int y9, .int l7, .int (p1 + 1), .ref w, .ref 64] μ19)
          refine v_iload hX dX0_extend_109 rfl (?_ : V X 111 [some (.ref 64), some (.ref w), some (.int p1), some (.int p2), some (.int p3), some (.int p4), some (.int p5), some (.int l7), some (.int y9), some (.int y12)] [.int y12, .int y9, .int l7, .int (p1 + 1), .ref w, .ref 64] μ19)
          refine v_iload hX dX0_extend_111 rfl (?_ : V X 113 [some (.ref 64), some (.ref w), some (.int p1), some (.int p2), some (.int p3), some (.int p4), some (.int p5), some (.int l7), some (.int y9), some (.int y12)] [.int p5, .int y12, .int y9, .int l7, .int (p1 + 1), .ref w, .ref 64] μ19)
          refine v_iconst hX 1 dX0_extend_113 rfl (?_ : V X 114 [some (.ref 64), some (.ref w), some (.int p1), some (.int p2), some (.int p3), some (.int p4), some (.int p5), some (.int l7), some (.int y9), some (.int y12)] [.int 1, .int p5, .int y12, .int y9, .int l7, .int (p1 + 1), .ref w, .ref 64] μ19)
          refine v_iload hX dX0_extend_114 rfl (?_ : V X 116 [some (.ref 64), some (.ref w), some (.int p1), some (.int p2), some (.int p3), some (.int p4), some (.int p5), some (.int l7), some (.int y9), some (.int y12)] [.int l7, .int 1, .int p5, .int y12, .int y9, .int l7, .int (p1 + 1), .ref w, .ref 64] μ19)
          refine v_ishl hX dX0_extend_116 (?_ : V X 117 [some (.ref 64), some (.ref w), some (.int p1), some (.int p2), some (.int p3), some (.int p4), some (.int p5), some (.int l7), some (.int y9), some (.int y12)] [.int (1 <<< (l7 &&& 31)), .int p5, .int y12, .int y9, .int l7, .int (p1 + 1), .ref w, .ref 64] μ19)
          refine v_ior hX dX0_extend_117 (?_ : V X 118 [some (.ref 64), some (.ref w), some (.int p1), some (.int p2), some (.int p3), some (.int p4), some (.int p5), some (.int l7), some (.int y9), some (.int y12)] [.int (p5 ||| (1 <<< (l7 &&& 31))), .int y12, .int y9, .int l7, .int (p1 + 1), .ref w, .ref 64] μ19)
          have h0lv := h.1
          replace h := h.2
          refine v_callV hX (hrec (lv - 1) (by omega)) ck_X0_extend mk_X0_53 mv_X0_extend sh_64 (by decide) (by omega) [.ref w, .int (p1 + 1), .int l7, .int y9, .int y12, .int (p5 ||| (1 <<< (l7 &&& 31)))] [] rfl rfl (Nat.le_of_ble_eq_true rfl) dX0_extend_118 ⟨w, (p1 + 1), l7, y9, y12, (p5 ||| (1 <<< (l7 &&& 31))), rfl, hw, h.1, fun μ22 hp23 => (?_ : V X 121 [some (.ref 64), some (.ref w), some (.int p1), some (.int p2), some (.int p3), some (.int p4), some (.int p5), some (.int l7), some (.int y9), some (.int y12)] [] μ22)⟩
          replace h := h.2 μ22 hp23
          refine v_iinc hX 1 dX0_extend_121 (by rw [hn]; decide) rfl rfl (?_ : V X 124 [some (.ref 64), some (.ref w), some (.int p1), some (.int p2), some (.int p3), some (.int p4), some (.int p5), some (.int (l7 + 1)), some (.int y9), some (.int y12)] [] μ22)
          refine v_goto hX 9 dX0_extend_124 rfl (?_ : V X 9 [some (.ref 64), some (.ref w), some (.int p1), some (.int p2), some (.int p3), some (.int p4), some (.int p5), some (.int (l7 + 1)), some (.int y9), some (.int y12)] [] μ22)
          exact v_mask [true, true, true, true, true, true, true, true, false, false] (hJ9 _ _ h)
set_option maxRecDepth 20000 in
set_option maxHeartbeats 1000000 in
theorem vp_X0_extend_0 (lv : Nat) (w : Nat) (p1 : Int32) (p2 : Int32) (p3 : Int32) (p4 : Int32) (p5 : Int32) (hw : w = 3 ∨ w = 10) (μ : Mem) (hpre : pre_X0_extend lv w p1 p2 p3 p4 p5 μ) : vc_X0_extend_0 lv w p1 p2 p3 p4 p5 μ (post_X0_extend lv w p1 p2 p3 p4 p5 μ) (fun l7 m => ∃ k : Nat, inv_X0_extend_9 lv w p1 p2 p3 p4 p5 μ k l7 m) := by
  unfold vc_X0_extend_0
  obtain ⟨hE, hE6, k0, B0, hlv, hx0⟩ := hpre
  have five : ∀ k, k ≤ 5 → (nI k < 5 ↔ k < 5) := by
    intro k hk
    rw [show (5 : Int32) = nI 5 from rfl]
    constructor
    · intro z; have := (nI_leI (a := 5) (b := k) (by omega) (by omega))
      rcases Nat.lt_or_ge k 5 with y | y
      · exact y
      · exact absurd (this.mpr y) (by simpa using z)
    · intro z; exact nle_lt fun y => by have := (nI_leI (a := 5) (b := k) (by omega) (by omega)).mp y; omega
  refine ⟨fun c => ⟨gn μ w 0, 0, Nat.zero_le _, rfl, rfl, fr_refl _ _, rfl, fun k B hx => ?_⟩, fun c => ⟨fr_refl _ _, rfl, fun k B hx => ?_⟩⟩
  · obtain ⟨x1, x2, x3, x4, x5, x6, x7, x8, x9, x10, ⟨b, hb, hc⟩, x12⟩ := hx
    have hk : k < 5 := (five k x2).mp (by rw [← x1]; exact c)
    refine ⟨hk, ⟨b, ?_, hc⟩, fun j hj => rfl⟩
    have hpos : 0 < 6 ^ (4 - k) := Nat.pow_pos (by omega)
    have := best_skip (6 ^ (4 - k) - 1) hb (fun c h1 h2 => noacc_gap hk x3 x4 h1 (by omega))
    rw [show B + (0 + 1) * 6 ^ (4 - k) - 1 = B + (6 ^ (4 - k) - 1) from by omega]
    exact this
  · obtain ⟨x1, x2, x3, x4, x5, x6, x7, x8, x9, x10, ⟨b, hb, hc⟩, x12⟩ := hx
    have hk : k = 5 := by
      rcases Nat.lt_or_ge k 5 with y | y
      · exact absurd ((five k x2).mpr y) (by rw [← x1]; exact c)
      · omega
    subst hk
    exact ⟨⟨b, by simpa using hb, hc⟩, fun j hj => rfl⟩
set_option maxRecDepth 20000 in
set_option maxHeartbeats 1000000 in
theorem vp_X0_extend_9 (lv : Nat) (w : Nat) (p1 : Int32) (p2 : Int32) (p3 : Int32) (p4 : Int32) (p5 : Int32) (hw : w = 3 ∨ w = 10) (μ : Mem) (hpre : pre_X0_extend lv w p1 p2 p3 p4 p5 μ) (n : Nat) (l7 : Int32) (μ0 : Mem) (hi : inv_X0_extend_9 lv w p1 p2 p3 p4 p5 μ n l7 μ0) : vc_X0_extend_9 lv w p1 p2 p3 p4 p5 l7 μ0 (post_X0_extend lv w p1 p2 p3 p4 p5 μ) (fun l7 m => ∃ k : Nat, k < n ∧ inv_X0_extend_9 lv w p1 p2 p3 p4 p5 μ k l7 m) := by
  unfold vc_X0_extend_9
  obtain ⟨hE, hE6, k0, B0, hlv, hx0⟩ := hpre
  obtain ⟨i, hi1, rfl, rfl, hf, h6, hI⟩ := hi
  have hE0 := hE
  obtain ⟨hw, a0, a10, a11, a2, a1⟩ := hE
  obtain ⟨b6, b67⟩ := hE6
  have hb := a0.2
  have hw0 : w ∉ ([64, 65, 66] : List Nat) := by simp; omega
  have hw3 : w + 3 ∉ ([64, 65, 66] : List Nat) := by simp; omega
  rw [hf.1 w hw0, isN_le a0 (by omega) (by omega), nI_clamp (by omega), hf.1 67 (by simp)]
  have in5 : i < gn μ w 0 → vp_in (nI i) 5 := fun z => vp_in_nI (by omega) (by omega)
  have p6 : ∀ k, 0 < 6 ^ (4 - k) := fun k => Nat.pow_pos (by omega)
  -- nothing is taken below this room
  have skip : i < gn μ w 0 → (∀ k B, ExP μ w k B p1 p2 p3 p4 p5 → k < 5 → ∀ c, B + (i + 1) * 6 ^ (4 - k) ≤ c → c < B + (i + 1 + 1) * 6 ^ (4 - k) → ¬ accC μ w c) → ∃ n, n < gn μ w 0 - i ∧ inv_X0_extend_9 lv w p1 p2 p3 p4 p5 μ n (nI i + 1) μ0 := by
    intro hiR hno
    refine ⟨gn μ w 0 - (i + 1), by omega, i + 1, by omega, rfl, nI_1 i, hf, h6, fun k B hx => ?_⟩
    obtain ⟨hk, ⟨b, hb1, hb2⟩, hr⟩ := hI k B hx
    refine ⟨hk, ⟨b, ?_, hb2⟩, hr⟩
    have hp := p6 k
    have e1 : (i + 1) * 6 ^ (4 - k) = i * 6 ^ (4 - k) + 6 ^ (4 - k) := Nat.succ_mul _ _
    have e2 : (i + 1 + 1) * 6 ^ (4 - k) = (i + 1) * 6 ^ (4 - k) + 6 ^ (4 - k) := Nat.succ_mul _ _
    have := best_skip (6 ^ (4 - k)) hb1 (fun c h1 h2 => hno k B hx hk c (by omega) (by omega))
    rw [show B + (i + 1 + 1) * 6 ^ (4 - k) - 1 = B + (i + 1) * 6 ^ (4 - k) - 1 + 6 ^ (4 - k) from by omega]
    exact this
  refine ⟨fun c => ⟨hf, h6, fun k B hx => ?_⟩, fun c => ⟨in5 (by omega), fun q => skip (by omega) ?_, fun q => ⟨fun q2 => skip (by omega) ?_, fun q2 => ?_⟩⟩⟩
  · have hiR : i = gn μ w 0 := by omega
    obtain ⟨hk, ⟨b, hb1, hb2⟩, hr⟩ := hI k B hx
    refine ⟨⟨b, ?_, hb2⟩, hr⟩
    obtain ⟨x1, x2, x3, x4, x5, x6, x7, x8, x9, x10, x11, x12⟩ := hx
    have hp := p6 k
    have e5 : 6 ^ (5 - k) = 6 * 6 ^ (4 - k) := by rw [show 5 - k = (4 - k) + 1 from by omega, Nat.pow_succ, Nat.mul_comm]
    have go : ∀ n, i + n ≤ 5 → bstC μ w (B + (i + n + 1) * 6 ^ (4 - k) - 1) b := by
      intro n
      induction n with
      | zero => intro _; exact hb1
      | succ n ih =>
        intro hn
        have e1 : (i + n + 1) * 6 ^ (4 - k) = (i + n) * 6 ^ (4 - k) + 6 ^ (4 - k) := Nat.succ_mul _ _
        have e2 : (i + n + 1 + 1) * 6 ^ (4 - k) = (i + n + 1) * 6 ^ (4 - k) + 6 ^ (4 - k) := Nat.succ_mul _ _
        have := best_skip (6 ^ (4 - k)) (ih (by omega)) (fun c h1 h2 => noacc_bad (r := i + n) hk x3 x4 (by omega) (by omega) (by omega) (Or.inl (by omega)))
        rw [show i + (n + 1) + 1 = i + n + 1 + 1 from by omega, show B + (i + n + 1 + 1) * 6 ^ (4 - k) - 1 = B + (i + n + 1) * 6 ^ (4 - k) - 1 + 6 ^ (4 - k) from by omega]
        exact this
    have := go (5 - i) (by omega)
    rw [show i + (5 - i) + 1 = 6 from by omega, ← e5] at this
    exact this
  · intro k B hx hk c h1 h2
    obtain ⟨x1, x2, x3, x4, x5, x6, x7, x8, x9, x10, x11, x12⟩ := hx
    exact noacc_bad hk x3 x4 (by omega) h1 h2 (Or.inr (Or.inr (by unfold moX; rw [if_pos q])))
  · intro k B hx hk c h1 h2
    obtain ⟨x1, x2, x3, x4, x5, x6, x7, x8, x9, ⟨U, hU, e5, hu⟩, x11, x12⟩ := hx
    have : ¬ ∀ j, j < k → dg B j ≠ i + 1 := fun z => q2 (by rw [e5]; exact (hu i (by omega)).mpr z)
    refine noacc_bad hk x3 x4 (by omega) h1 h2 (Or.inr (Or.inl ?_))
    exact Classical.byContradiction fun z => this fun j hj y => z ⟨j, hj, y⟩
  · have hiR : i < gn μ w 0 := by omega
    refine ⟨trivial, ?_⟩
    rintro x5' m6 ⟨hx5, rfl⟩
    refine ⟨in5 hiR, ?_⟩
    rintro y9 rfl
    refine ⟨in5 hiR, ?_⟩
    rintro y12 rfl
    have mo : moX μ i = gn μ 67 i := by unfold moX; rw [if_neg q]
    obtain ⟨g1, g2⟩ := (b67 i hiR).resolve_left q
    have hmo : moX μ i ≠ 100000000 := by rw [mo]; omega
    have hW := a10.2
    -- what each number that fits says
    have fact : ∀ k B, ExP μ w k B p1 p2 p3 p4 p5 → p3 + x5' + gi μ 67 i = nI (tmC μ w B k + dW (gn μ w 10) (plN (P0C μ) B k) i + moX μ i) ∧ tmC μ w B k ≤ 500 ∧ dW (gn μ w 10) (plN (P0C μ) B k) i ≤ 36 ∧ cntN B 5 = k := by
      intro k B hx
      obtain ⟨x1, x2, x3, x4, x5, x6, x7, x8, x9, x10, x11, x12⟩ := hx
      have hpl : (if p2 = -9 then (0 : Int32) else p2) = nI (plN (P0C μ) B k) ∧ plN (P0C μ) B k < 5 := by
        rw [x7]; exact pl_of a1 B k
      have hz := dg_zero x2 x4
      have hc : cntN B 5 = k := by
        have := cnt_tail hz (5 - k) (by omega)
        rw [show k + (5 - k) = 5 from by omega] at this
        rw [this]; exact cnt_of x5
      have ht : tmC μ w B k ≤ 500 := by
        have := a11.2
        rcases x6.2 with z | z
        · rw [hc] at z; subst z; unfold tmC; rw [tmN]; omega
        · rw [hc] at z; unfold tmC; omega
      have hdw : dW (gn μ w 10) (plN (P0C μ) B k) i ≤ 36 := by
        unfold dW
        have : (if plN (P0C μ) B k < i then i - plN (P0C μ) B k else plN (P0C μ) B k - i) ≤ 4 := by split <;> omega
        have := Nat.mul_le_mul hW this
        omega
      refine ⟨?_, ht, hdw, hc⟩
      rw [hx5, hpl.1, abs_nI i (by omega) _ hpl.2, hf.1 w hw0, a10.1, pk_mul, x8, nI_add, g1, nI_add, mo]
      unfold dW; rfl
    have h64 : gi m6 64 6 = nI (gn μ w 11) - nI (gn μ 17 2) := h6.trans b6
    have hN := a11.2
    have ht0 := a2.2
    have cmpL : ∀ v, v < 10000 → (nI (gn μ w 11) - nI (gn μ 17 2) < nI v ↔ gn μ w 11 < gn μ 17 2 + v) := by
      intro v hv
      have e1 : (nI (gn μ w 11) - nI (gn μ 17 2)).toInt = (gn μ w 11 : Int) - gn μ 17 2 := by
        rw [Int32.toInt_sub, nI_toInt (by omega), nI_toInt (by omega)]
        rw [Int.bmod_eq_of_le (by omega) (by omega)]
      rw [i_lt, e1, nI_toInt (by omega)]; omega
    obtain ⟨F1, F2, F3, F4⟩ := fact k0 B0 hx0
    rw [h64, hf.1 67 (by simp) i, F1, hf.1 (w + 3) hw3]
    have hv : tmC μ w B0 k0 + dW (gn μ w 10) (plN (P0C μ) B0 k0) i + moX μ i < 10000 := by rw [mo]; omega
    rw [cmpL _ hv]
    refine ⟨fun c3 => skip hiR ?_, fun c3 => ?_⟩
    · intro k B hx hk c h1 h2
      obtain ⟨G1, G2, G3, G4⟩ := fact k B hx
      have he : tmC μ w B k + dW (gn μ w 10) (plN (P0C μ) B k) i + moX μ i = tmC μ w B0 k0 + dW (gn μ w 10) (plN (P0C μ) B0 k0) i + moX μ i := by
        have := G1.symm.trans F1
        exact (nI_eq (by rw [mo]; omega) (by omega)).mp this
      obtain ⟨x1, x2, x3, x4, x5, x6, x7, x8, x9, x10, x11, x12⟩ := hx
      refine noacc_long hk x3 x4 (by omega) h1 h2 ?_
      unfold tmC at he
      unfold tmC at c3
      omega
    · have hk0 := (hI k0 B0 hx0).1
      have hx0' := hx0
      obtain ⟨x1, x2, x3, x4, x5, x6, x7, x8, x9, ⟨U, hU, e5, hu⟩, x11, x12⟩ := hx0'
      refine ⟨by rw [x1]; exact vp_in_nI (by omega) (by omega), ?_⟩
      rintro m16 rfl
      have ck : (p1 + 1) = nI (k0 + 1) := by rw [x1, nI_1]
      have ck1 : (nI k0).toNatClampNeg = k0 := nI_clamp (by omega)
      rw [ck, x1, ck1]
      refine ⟨⟨by rw [nI_clamp (by omega)], by rw [nI_clamp (by omega)]; omega⟩, ?_⟩
      rintro m19 ⟨wf, w6, wy, wn⟩
      rw [nI_clamp (by omega)] at wy
      have f16 : fr [64, 65, 66] μ (ui m6 66 k0 (nI i)) := fr_trans hf (fr_ui (by simp))
      have f19 : fr [64, 65, 66] μ m19 := fr_trans f16 (fr_mono wf (by simp))
      have g19 : gi m19 64 6 = gi μ 64 6 := by rw [w6]; exact h6
      -- the child's number, and that all that is said of it holds
      have child : ∀ k B, ExP μ w k B p1 p2 p3 p4 p5 → k = k0 ∧ tmC μ w B k + dW (gn μ w 10) (plN (P0C μ) B k) i + moX μ i = tmC μ w B0 k0 + dW (gn μ w 10) (plN (P0C μ) B0 k0) i + moX μ i ∧ ExP m19 w (k + 1) (B + (i + 1) * 6 ^ (4 - k)) (nI (k0 + 1)) (nI i) (nI (tmC μ w B0 k0 + dW (gn μ w 10) (plN (P0C μ) B0 k0) i + moX μ i)) (p4 + gi μ (w + 3) i) (p5 ||| (1 <<< (nI i &&& 31))) := by
        intro k B hx
        obtain ⟨hk, ⟨b, hb1, hb2⟩, hr⟩ := hI k B hx
        obtain ⟨G1, G2, G3, G4⟩ := fact k B hx
        have hx' := hx
        obtain ⟨y1, y2, y3, y4, y5, y6, y7, y8, y9, ⟨U', hU', e5', hu'⟩, y11, y12⟩ := hx'
        have hkk : k = k0 := (nI_eq (by omega) (by omega)).mp (y1.symm.trans x1)
        have hte : tmC μ w B k + dW (gn μ w 10) (plN (P0C μ) B k) i + moX μ i = tmC μ w B0 k0 + dW (gn μ w 10) (plN (P0C μ) B0 k0) i + moX μ i := by
          have := G1.symm.trans F1
          exact (nI_eq (by rw [mo]; omega) (by omega)).mp this
        subst hkk
        rw [← hte] at wy wn hv c3 ⊢
        have hun : ∀ j, j < k → dg B j ≠ i + 1 := (hu' i (by omega)).mp (by rw [← e5']; exact q2)
        obtain ⟨c1, c2, c3', c4, c5, c6, c7, c8, c9⟩ := child_facts (W := gn μ w 10) (P0 := P0C μ) (wt := gi μ (w + 3)) (mo := moX μ) hk y3 y4 (by omega : i < 5) y5 y6.1 hiR hun hmo
        have hp := p6 k
        have eC : B + (i + 1) * 6 ^ (4 - k) - 1 + 1 = B + (i + 1) * 6 ^ (4 - k) := by
          have : 1 * 6 ^ (4 - k) ≤ (i + 1) * 6 ^ (4 - k) := Nat.mul_le_mul_right _ (by omega)
          omega
        generalize hC : B + (i + 1) * 6 ^ (4 - k) = C at *
        have c8' : tmC μ w C (k + 1) = tmC μ w B k + dW (gn μ w 10) (plN (P0C μ) B k) i + moX μ i := c8
        rw [← c8'] at wy wn hv c3 ⊢
        obtain ⟨v1, v2, v3, v4, v5⟩ := ev_env hw f19
        have hacc : accC μ w C := ⟨c4, Or.inr (by rw [c5]; unfold tmC at c3; omega)⟩
        have hrow : ∀ j, j < k + 1 → gi (ui m6 66 k (nI i)) 66 j = nI (dg C j - 1) := by
          intro j hj
          rw [gi_ui]
          by_cases z : j = k
          · rw [if_pos ⟨rfl, z⟩, z, c6]; rfl
          · rw [if_neg (fun y => z y.2), hr j (by omega), y12 j (by omega), c7 j (by omega)]
        have htb : tmC μ w b (cntN b 5) ≤ 500 := by
          rcases hb1.2.1.2 with z | z
          · rw [z]; unfold tmC; rw [tmN]; omega
          · unfold tmC; omega
        refine ⟨rfl, rfl, rfl, by omega, c1, c2, c3', by rw [v2]; exact hacc, ?_, by rw [v3], by rw [v4, c9, y9], ⟨U' ||| 2 ^ i, used_lt U' hU' i (by omega), by rw [e5']; exact used_or U' hU' i (by omega), fun r hr5 => ?_⟩, ?_, fun j hj => ?_⟩
        · rw [if_neg (Nat.succ_ne_zero k), Nat.add_sub_cancel, c6]; rfl
        · rw [used_bit U' hU' i (by omega) r hr5, hu' r hr5]
          constructor
          · rintro ⟨z1, z2⟩ j hj
            rcases Nat.lt_or_ge j k with z | z
            · rw [c7 j z]; exact z1 j z
            · have : j = k := by omega
              subst this; rw [c6]; omega
          · intro z
            refine ⟨fun j hj => by rw [← c7 j hj]; exact z j (by omega), fun y => ?_⟩
            have := z k (by omega)
            rw [c6] at this; omega
        · obtain ⟨d1, d2, d3, d4⟩ := hb2
          have hbet : betI (ui m6 66 k (nI i)) (p4 + gi μ (w + 3) i) (nI (tmC μ w C (k + 1))) ↔ betN (moX μ) (gn μ w 10) (P0C μ) (gi μ (w + 3)) C b := by
            unfold betI betN betV
            rw [c5, c9, ← y9]
            rw [show gi (ui m6 66 k (nI i)) 64 2 = gi m6 64 2 from rfl, show gi (ui m6 66 k (nI i)) 64 3 = gi m6 64 3 from rfl, d2, d3]
            rw [i_lt (x := nI _), nI_toInt (by omega), nI_toInt (by omega)]
            rw [Int.ofNat_lt]; exact Iff.rfl
          rw [v1, v5]
          by_cases hq : betN (moX μ) (gn μ w 10) (P0C μ) (gi μ (w + 3)) C b
          · obtain ⟨u1, u2, u3, u4⟩ := wy (hbet.mpr hq)
            refine ⟨C, ?_, by rw [c5]; exact u1, by rw [c5, c9, ← y9]; exact u2, by rw [c5]; exact u3, fun j hj => ?_⟩
            · have := best_yes hb1 (by rw [eC]; exact hacc) (by rw [eC]; exact hq)
              rw [eC] at this; exact this
            · rw [c5] at hj; rw [u4 j hj]; exact hrow j hj
          · have hm := wn (fun z => hq (hbet.mp z))
            refine ⟨b, ?_, ?_⟩
            · have := best_no hb1 (fun _ => by rw [eC]; exact hq)
              rw [eC] at this; exact this
            · rw [hm]; exact ⟨d1, d2, d3, d4⟩
        · rw [wf.1 66 (by simp)]; exact hrow j hj
      refine ⟨?_, ⟨?_, ?_, k0 + 1, B0 + (i + 1) * 6 ^ (4 - k0), by omega, (child k0 B0 hx0).2.2⟩, ?_⟩
      · omega
      · exact EV_fr hE0 f19 (by simp) (by simp) (by simp)
      · refine ⟨?_, fun r hr => ?_⟩
        · rw [g19, b6, gn_fr f19 hw0 11, gn_fr f19 (by simp) 2]
        · rw [gn_fr f19 hw0 0] at hr
          rcases b67 r hr with z | z
          · left; rw [f19.1 67 (by simp)]; exact z
          · right; exact isN_fr f19 (by simp) z
      · rintro m22 ⟨ef, e6, eP⟩
        refine ⟨gn μ w 0 - (i + 1), by omega, i + 1, by omega, rfl, nI_1 i, fr_trans f19 ef, by rw [e6, g19], fun k B hx => ?_⟩
        replace hx : ExP μ w k B p1 p2 p3 p4 p5 := by rw [x1]; exact hx
        obtain ⟨rfl, hte, hxc⟩ := child k B hx
        obtain ⟨⟨b, hb1, hb2⟩, hb3⟩ := eP _ _ hxc
        refine ⟨hk0, ⟨b, ?_, ?_⟩, fun j hj => ?_⟩
        · rw [(ev_env hw f19).1, show 5 - (k + 1) = 4 - k from by omega] at hb1
          have e2 : (i + 1 + 1) * 6 ^ (4 - k) = (i + 1) * 6 ^ (4 - k) + 6 ^ (4 - k) := Nat.succ_mul _ _
          rw [e2, ← Nat.add_assoc]; exact hb1
        · rw [(ev_env hw f19).2.2.2.2] at hb2; exact hb2
        · rw [hb3 j (by omega), wf.1 66 (by simp), gi_ui, if_neg (by omega)]
          exact (hI k B hx).2.2 j hj
theorem sp_X0_extend (lv : Nat) : Sp yX0_extend cX0_extend 10 none (3 + lv) (S_X0_extend lv) := by
  induction lv using Nat.strongRecOn with
  | _ lv hrec =>
  refine sp_of (by decide) (fun av μ P h => ?_) ?_
  · obtain ⟨w, p1, p2, p3, p4, p5, rfl, -⟩ := h
    refine ⟨Nat.le_of_ble_eq_true rfl, fun v hv => ?_⟩
    simp only [List.mem_cons, List.not_mem_nil, or_false] at hv
    rcases hv with rfl | rfl | rfl | rfl | rfl | rfl | rfl <;> rfl
  · rintro X P hO _ μ ⟨w, p1, p2, p3, p4, p5, rfl, hw, hpre, hpost⟩ hn
    have hJ : ∀ n : Nat, (∀ (l7 : Int32) (m : Mem), inv_X0_extend_9 lv w p1 p2 p3 p4 p5 μ n l7 m → V X 9 [some (.ref 64), some (.ref w), some (.int p1), some (.int p2), some (.int p3), some (.int p4), some (.int p5), some (.int l7), none, none] [] m) := by
      intro n
      induction n using Nat.strongRecOn with
      | _ n ih =>
        exact fun l7 m hi => wk_X0_extend_9 (J9 := (fun l7 m => ∃ k : Nat, k < n ∧ inv_X0_extend_9 lv w p1 p2 p3 p4 p5 μ k l7 m)) hO hn w p1 p2 p3 p4 p5 hw l7 m hpost (fun l7 m hk => by obtain ⟨k, hk, hi⟩ := hk; exact (ih k hk) l7 m hi) hrec (vp_X0_extend_9 lv w p1 p2 p3 p4 p5 hw μ hpre n l7 m hi)
    exact wk_X0_extend_0 (J9 := (fun l7 m => ∃ k : Nat, inv_X0_extend_9 lv w p1 p2 p3 p4 p5 μ k l7 m)) hO hn w p1 p2 p3 p4 p5 hw μ hpost (fun l7 m hk => by obtain ⟨k, hi⟩ := hk; exact (hJ k) l7 m hi) hrec (vp_X0_extend_0 lv w p1 p2 p3 p4 p5 hw μ hpre)
def S_X0_plan : Tr := fun av μ P => ∃ (w : Nat), av = [.ref 64, .ref w, .ref 17, .ref 61] ∧ (w = 3 ∨ w = 10) ∧ pre_X0_plan w μ ∧ ∀ m : Mem, post_X0_plan w μ m → P none m
def vc_X0_plan_0 (w : Nat)  (μ : Mem) (R : Mem → Prop)  : Prop :=
  (∀ μ1, μ1 = ua μ 67 (va_cpy (gi μ 61) (gi μ 67) 0 0 5) → (∀ μ3, μ3 = ui μ1 64 6 ((gi μ1 w 11) - (gi μ1 17 2)) → (∀ μ5, μ5 = ui μ3 64 1 0 → (∀ μ7, μ7 = ui μ5 64 2 0 → (∀ μ9, μ9 = ui μ7 64 3 0 → (pre_X0_extend 5 w 0 (gi μ9 17 1) 0 0 0 μ9 ∧ ∀ (μ12 : Mem), post_X0_extend 5 w 0 (gi μ9 17 1) 0 0 0 μ9 μ12 → R μ12))))))
set_option maxRecDepth 20000 in
set_option maxHeartbeats 4000000 in
theorem wk_X0_plan_0 {X : XT} {P : Post} (hO : OkM X cX0_plan RX0 9 none P) (hn : xn X = 4) (w : Nat) (hw : w = 3 ∨ w = 10)  (μ : Mem) {R : Mem → Prop} (hR : ∀ m, R m → P none m)    (h : vc_X0_plan_0 w  μ R ) : V X 0 [some (.ref 64), some (.ref w), some (.ref 17), some (.ref 61)] [] μ := by
  have hX := hO.1
  unfold vc_X0_plan_0 at h
  refine v_aload_n hX dX0_plan_0 rfl (?_ : V X 1 [some (.ref 64), some (.ref w), some (.ref 17), some (.ref 61)] [.ref 61] μ)
  refine v_iconst hX 0 dX0_plan_1 rfl (?_ : V X 2 [some (.ref 64), some (.ref w), some (.ref 17), some (.ref 61)] [.int 0, .ref 61] μ)
  refine v_aload_n hX dX0_plan_2 rfl (?_ : V X 3 [some (.ref 64), some (.ref w), some (.ref 17), some (.ref 61)] [.ref 64, .int 0, .ref 61] μ)
  refine v_getr hX (67) fk_X0_18 sh_64 rfl rfl dX0_plan_3 (?_ : V X 6 [some (.ref 64), some (.ref w), some (.ref 17), some (.ref 61)] [.ref 67, .int 0, .ref 61] μ)
  refine v_iconst hX 0 dX0_plan_6 rfl (?_ : V X 7 [some (.ref 64), some (.ref w), some (.ref 17), some (.ref 61)] [.int 0, .ref 67, .int 0, .ref 61] μ)
  refine v_iconst hX 5 dX0_plan_7 rfl (?_ : V X 8 [some (.ref 64), some (.ref w), some (.ref 17), some (.ref 61)] [.int 5, .int 0, .ref 67, .int 0, .ref 61] μ)
  refine w_copy hX 5 mk_X0_21 sh_61 sh_67 (by decide) (by decide) (by decide) (Nat.le_of_ble_eq_true rfl) dX0_plan_8 (by decide) (by decide) (by decide) (by decide) (fun μ1 e2 => (?_ : V X 11 [some (.ref 64), some (.ref w), some (.ref 17), some (.ref 61)] [] μ1))
  replace h := h μ1 e2
  refine v_aload_n hX dX0_plan_11 rfl (?_ : V X 12 [some (.ref 64), some (.ref w), some (.ref 17), some (.ref 61)] [.ref 64] μ1)
  refine v_aload_n hX dX0_plan_12 rfl (?_ : V X 13 [some (.ref 64), some (.ref w), some (.ref 17), some (.ref 61)] [.ref w, .ref 64] μ1)
  refine v_geti hX fk_X0_27 (sHo hw) rfl dX0_plan_13 (?_ : V X 16 [some (.ref 64), some (.ref w), some (.ref 17), some (.ref 61)] [.int (gi μ1 w 11), .ref 64] μ1)
  refine v_aload_n hX dX0_plan_16 rfl (?_ : V X 17 [some (.ref 64), some (.ref w), some (.ref 17), some (.ref 61)] [.ref 17, .int (gi μ1 w 11), .ref 64] μ1)
  refine v_geti hX fk_X0_33 sh_17 rfl dX0_plan_17 (?_ : V X 20 [some (.ref 64), some (.ref w), some (.ref 17), some (.ref 61)] [.int (gi μ1 17 2), .int (gi μ1 w 11), .ref 64] μ1)
  refine v_isub hX dX0_plan_20 (?_ : V X 21 [some (.ref 64), some (.ref w), some (.ref 17), some (.ref 61)] [.int ((gi μ1 w 11) - (gi μ1 17 2)), .ref 64] μ1)
  refine w_puti hX fk_X0_38 fw_0_6 sh_64 rfl dX0_plan_21 (fun μ3 e4 => (?_ : V X 24 [some (.ref 64), some (.ref w), some (.ref 17), some (.ref 61)] [] μ3))
  replace h := h μ3 e4
  refine v_aload_n hX dX0_plan_24 rfl (?_ : V X 25 [some (.ref 64), some (.ref w), some (.ref 17), some (.ref 61)] [.ref 64] μ3)
  refine v_iconst hX 0 dX0_plan_25 rfl (?_ : V X 26 [some (.ref 64), some (.ref w), some (.ref 17), some (.ref 61)] [.int 0, .ref 64] μ3)
  refine w_puti hX fk_X0_41 fw_0_1 sh_64 rfl dX0_plan_26 (fun μ5 e6 => (?_ : V X 29 [some (.ref 64), some (.ref w), some (.ref 17), some (.ref 61)] [] μ5))
  replace h := h μ5 e6
  refine v_aload_n hX dX0_plan_29 rfl (?_ : V X 30 [some (.ref 64), some (.ref w), some (.ref 17), some (.ref 61)] [.ref 64] μ5)
  refine v_iconst hX 0 dX0_plan_30 rfl (?_ : V X 31 [some (.ref 64), some (.ref w), some (.ref 17), some (.ref 61)] [.int 0, .ref 64] μ5)
  refine w_puti hX fk_X0_44 fw_0_2 sh_64 rfl dX0_plan_31 (fun μ7 e8 => (?_ : V X 34 [some (.ref 64), some (.ref w), some (.ref 17), some (.ref 61)] [] μ7))
  replace h := h μ7 e8
  refine v_aload_n hX dX0_plan_34 rfl (?_ : V X 35 [some (.ref 64), some (.ref w), some (.ref 17), some (.ref 61)] [.ref 64] μ7)
  refine v_iconst hX 0 dX0_plan_35 rfl (?_ : V X 36 [some (.ref 64), some (.ref w), some (.ref 17), some (.ref 61)] [.int 0, .ref 64] μ7)
  refine w_puti hX fk_X0_47 fw_0_3 sh_64 rfl dX0_plan_36 (fun μ9 e10 => (?_ : V X 39 [some (.ref 64), some (.ref w), some (.ref 17), some (.ref 61)] [] μ9))
  replace h := h μ9 e10
  refine v_aload_n hX dX0_plan_39 rfl (?_ : V X 40 [some (.ref 64), some (.ref w), some (.ref 17), some (.ref 61)] [.ref 64] μ9)
  refine v_aload_n hX dX0_plan_40 rfl (?_ : V X 41 [some (.ref 64), some (.ref w), some (.ref 17), some (.ref 61)] [.ref w, .ref 64] μ9)
  refine v_iconst hX 0 dX0_plan_41 rfl (?_ : V X 42 [some (.ref 64), some (.ref w), some (.ref 17), some (.ref 61)] [.int 0, .ref w, .ref 64] μ9)
  refine v_aload_n hX dX0_plan_42 rfl (?_ : V X 43 [some (.ref 64), some (.ref w), some (.ref 17), some (.ref 61)] [.ref 17, .int 0, .ref w, .ref 64] μ9)
  refine v_geti hX fk_X0_50 sh_17 rfl dX0_plan_43 (?_ : V X 46 [some (.ref 64), some (.ref w), some (.ref 17), some (.ref 61)] [.int (gi μ9 17 1), .int 0, .ref w, .ref 64] μ9)
  refine v_iconst hX 0 dX0_plan_46 rfl (?_ : V X 47 [some (.ref 64), some (.ref w), some (.ref 17), some (.ref 61)] [.int 0, .int (gi μ9 17 1), .int 0, .ref w, .ref 64] μ9)
  refine v_iconst hX 0 dX0_plan_47 rfl (?_ : V X 48 [some (.ref 64), some (.ref w), some (.ref 17), some (.ref 61)] [.int 0, .int 0, .int (gi μ9 17 1), .int 0, .ref w, .ref 64] μ9)
  refine v_iconst hX 0 dX0_plan_48 rfl (?_ : V X 49 [some (.ref 64), some (.ref w), some (.ref 17), some (.ref 61)] [.int 0, .int 0, .int 0, .int (gi μ9 17 1), .int 0, .ref w, .ref 64] μ9)
  refine v_callV hX (sp_X0_extend 5) ck_X0_extend mk_X0_53 mv_X0_extend sh_64 (by decide) (by decide) [.ref w, .int 0, .int (gi μ9 17 1), .int 0, .int 0, .int 0] [] rfl rfl (Nat.le_of_ble_eq_true rfl) dX0_plan_49 ⟨w, 0, (gi μ9 17 1), 0, 0, 0, rfl, hw, h.1, fun μ12 hp13 => (?_ : V X 52 [some (.ref 64), some (.ref w), some (.ref 17), some (.ref 61)] [] μ12)⟩
  replace h := h.2 μ12 hp13
  exact v_vret hO dX0_plan_52 (hR _ h)
set_option maxRecDepth 20000 in
set_option maxHeartbeats 1000000 in
theorem vp_X0_plan_0 (w : Nat) (hw : w = 3 ∨ w = 10) (μ : Mem) (hpre : pre_X0_plan w μ) : vc_X0_plan_0 w μ (post_X0_plan w μ)  := by
  unfold vc_X0_plan_0
  obtain ⟨hE, h61⟩ := hpre
  have hw := hE.1
  have hw0 : w ∉ ([64, 67] : List Nat) := by simp; omega
  have hw3 : w + 3 ∉ ([64, 67] : List Nat) := by simp; omega
  rintro m1 rfl m3 rfl m5 rfl m7 rfl m9 hm9
  have f9 : fr [64, 67] μ m9 := by
    rw [hm9]
    exact fr_trans (fr_ua (by simp)) (fr_trans (fr_ui (by simp)) (fr_trans (fr_ui (by simp)) (fr_trans (fr_ui (by simp)) (fr_ui (by simp)))))
  have c61 : gi m9 64 1 = 0 ∧ gi m9 64 2 = 0 ∧ gi m9 64 3 = 0 := by rw [hm9]; exact ⟨rfl, rfl, rfl⟩
  have c66 : gi m9 64 6 = gi μ w 11 - gi μ 17 2 := by
    rw [hm9]
    simp only [gi_ui, gi_ua]
    rw [if_neg (show ¬ w = 67 by omega)]
    rfl
  have c67 : ∀ r, r < 5 → gi m9 67 r = gi μ 61 r := by
    intro r hr
    rw [hm9]
    simp only [gi_ui, gi_ua]
    rw [if_neg (by omega), if_neg (by omega), if_neg (by omega), if_neg (by omega), if_pos trivial]
    unfold va_cpy
    rw [if_pos (by omega)]; simp
  clear hm9
  have hE9 : EV m9 w := EV_fr hE f9 (by simp) (by simp) (by simp)
  obtain ⟨_, a0, a10, a11, a2, a1⟩ := hE
  have hb := a0.2
  have hm : ∀ r, r < gn μ w 0 → moX m9 r = moY μ r := by
    intro r hr; unfold moX moY gn; rw [c67 r (by omega)]
  have hgw : ∀ k, gn m9 w k = gn μ w k := fun k => gn_fr f9 hw0 k
  obtain ⟨z1, z2, z3⟩ := best_zero (R := gn m9 w 0) (mo := moX m9) (W := gn m9 w 10) (P0 := P0C m9) (t0 := gn m9 17 2) (N := gn m9 w 11) (wt := gi m9 (w + 3))
  have hx : ExP m9 w 0 0 0 (gi m9 17 1) 0 0 0 := by
    refine ⟨rfl, by omega, by omega, rfl, fun j hj => absurd hj (Nat.not_lt_zero j), z1, by rw [if_pos rfl], rfl, rfl, ⟨0, by omega, rfl, fun r hr => ⟨fun _ j hj => absurd hj (Nat.not_lt_zero j), fun _ => ?_⟩⟩, ⟨0, z3, ?_⟩, fun j hj => absurd hj (Nat.not_lt_zero j)⟩
    · have : ∀ r, r < 5 → slvI (nI 0) (nI r) = 0 := by decide +kernel
      exact this r hr
    · unfold bcC; rw [z2]; exact ⟨c61.1, c61.2.1, c61.2.2, fun j hj => absurd hj (Nat.not_lt_zero j)⟩
  refine ⟨⟨hE9, ⟨?_, fun r hr => ?_⟩, 0, 0, by omega, hx⟩, ?_⟩
  · rw [c66, hgw, gn_fr f9 (by simp) 2, ← a11.1, ← a2.1]
  · rw [hgw] at hr
    rcases h61 r hr with z | z
    · left; rw [c67 r (by omega)]; exact z
    · right; unfold isN gn at *; rw [c67 r (by omega)]; exact z
  · rintro m ⟨ef, e6, eP⟩
    obtain ⟨⟨b, hb1, hb2⟩, _⟩ := eP 0 0 hx
    have e17 : P0C m9 = P0C μ := by unfold P0C; rw [f9.1 17 (by simp), gn_fr f9 (by simp)]
    have e3 : gi m9 (w + 3) = gi μ (w + 3) := funext fun k => f9.1 _ hw3 k
    unfold bstC at hb1
    rw [hgw, hgw, hgw, e17, gn_fr f9 (by simp) 2, e3] at hb1
    have hY : bestY μ w 7775 b := best_congr hm (fun _ _ => rfl) hb1
    refine ⟨fr_trans (fr_mono f9 (by simp)) (fr_mono ef (by simp)), b, hY, ?_⟩
    obtain ⟨d1, d2, d3, d4⟩ := hb2
    refine ⟨d1, by rw [d2, e3], ?_, d4⟩
    rw [d3]; unfold tmC
    rw [hgw, e17, tm_congr hm hb1.2.1.1 _ (Nat.le_refl _)]
theorem sp_X0_plan : Sp yX0_plan cX0_plan 4 none 9 S_X0_plan := by
  refine sp_of (by decide) (fun av μ P h => ?_) ?_
  · obtain ⟨w, rfl, -⟩ := h
    refine ⟨Nat.le_of_ble_eq_true rfl, fun v hv => ?_⟩
    simp only [List.mem_cons, List.not_mem_nil, or_false] at hv
    rcases hv with rfl | rfl | rfl | rfl <;> rfl
  · rintro X P hO _ μ ⟨w, rfl, hw, hpre, hpost⟩ hn
    exact wk_X0_plan_0 hO hn w hw μ hpost (vp_X0_plan_0 w hw μ hpre)
theorem lastC_lt {μ : Mem} {r : Nat} (h : gi μ 19 r = -9 ∨ isN μ 19 r 4) : lastC (gi μ 19 r) < 6 := by
  unfold lastC
  split
  · omega
  · rename_i z
    have := (h.resolve_left z).2
    unfold gn at this; omega
theorem moC_b {μ : Mem} {w r : Nat} {v : Int32} (hS : SVp μ w) (hr : r < gn μ w 0) (h : moC μ w r v) : v = -9 ∨ (v = nI v.toNatClampNeg ∧ v.toNatClampNeg ≤ 3000) := by
  obtain ⟨a0, a4, a5, a2, a18, a19⟩ := hS
  obtain ⟨h1, h2⟩ := h
  by_cases ns : slvI (gi μ 17 3) (nI r) = 1
  · exact Or.inl (h1 ns)
  · obtain ⟨full, tk, c, ⟨t1, t2⟩, hv⟩ := h2 ns
    by_cases z : c (gn μ 18 r) (lastC (gi μ 19 r)) < 1000000000
    · right
      rw [if_pos z] at hv
      obtain ⟨M, N, q1, q2, q3, q4⟩ := bell_small a4.2 (fun d hd => by rw [(t1 d hd).2]; exact (a5 d hd).2.2) t2 _ (gn μ 18 r) (lastC (gi μ 19 r)) (Nat.le_refl _) (Nat.le_refl _) (lastC_lt (a19 r hr)) z
      have h18 := (a18 r hr ns).2
      rw [hv, nI_clamp (by omega)]
      exact ⟨rfl, by omega⟩
    · left; rw [if_neg z] at hv; exact hv
def S_X8_round : Tr := fun av μ P => ∃ (p1 : Int32), av = [.ref 0, .int p1] ∧ pre_X8_round p1 μ ∧ ∀ (x : Int32) (m : Mem), post_X8_round p1 μ x m → P (some (.int x)) m
def vc_X8_round_0 (p1 : Int32)  (μ : Mem) (R : Int32 → Mem → Prop)  : Prop :=
  ((((-2)) ≤ p1 → ((gp μ 1) = 3 ∨ (gp μ 1) = 10) ∧ (pre_X1_solveAll ((gp μ 1)) μ ∧ ∀ (μ4 : Mem), post_X1_solveAll ((gp μ 1)) μ μ4 → ((gp μ4 1) = 3 ∨ (gp μ4 1) = 10) ∧ (pre_X0_plan ((gp μ4 1)) μ4 ∧ ∀ (μ8 : Mem), post_X0_plan ((gp μ4 1)) μ4 μ8 → ((p1 = (-2) → R (gi μ8 64 3) μ8) ∧ (¬ p1 = (-2) → ((p1 = (-1) → R (gi μ8 64 2) μ8) ∧ (¬ p1 = (-1) → (((gi μ8 64 1) ≤ p1 → R ((-5)) μ8) ∧ (¬ (gi μ8 64 1) ≤ p1 → vp_in p1 5 ∧ R (gi μ8 65 (Int32.toNatClampNeg p1)) μ8))))))))) ∧ (¬ ((-2)) ≤ p1 → R ((-1)) μ))
set_option maxRecDepth 20000 in
set_option maxHeartbeats 4000000 in
theorem wk_X8_round_0 {X : XT} {P : Post} (hO : OkM X cX8_round RX8 10 (some .int) P) (hn : xn X = 2) (p1 : Int32)   (μ : Mem) {R : Int32 → Mem → Prop} (hR : ∀ x m, R x m → P (some (.int x)) m)    (h : vc_X8_round_0 p1  μ R ) : V X 0 [some (.ref 0), some (.int p1)] [] μ := by
  have hX := hO.1
  unfold vc_X8_round_0 at h
  refine v_iload_n hX dX8_round_0 rfl (?_ : V X 1 [some (.ref 0), some (.int p1)] [.int p1] μ)
  refine v_bipush hX (-2) dX8_round_1 rfl (?_ : V X 3 [some (.ref 0), some (.int p1)] [.int ((-2)), .int p1] μ)
  refine v_icmp_ge hX 8 dX8_round_3 rfl (fun c1 => ?_) (fun c1 => ?_)
  · replace h := h.1 c1
    refine v_aload_n hX dX8_round_8 rfl (?_ : V X 9 [some (.ref 0), some (.int p1)] [.ref 0] μ)
    refine v_getr hX (59) fk_X8_51 sh_0 rfl rfl dX8_round_9 (?_ : V X 12 [some (.ref 0), some (.int p1)] [.ref 59] μ)
    refine v_aload_n hX dX8_round_12 rfl (?_ : V X 13 [some (.ref 0), some (.int p1)] [.ref 0, .ref 59] μ)
    have hh2 := h.1
    replace h := h.2
    refine v_getp hX (gp μ 1) fk_X8_19 sh_0 rfl rfl dX8_round_13 (?_ : V X 16 [some (.ref 0), some (.int p1)] [.ref ((gp μ 1)), .ref 59] μ)
    refine v_aload_n hX dX8_round_16 rfl (?_ : V X 17 [some (.ref 0), some (.int p1)] [.ref 0, .ref ((gp μ 1)), .ref 59] μ)
    refine v_getr hX (17) fk_X8_29 sh_0 rfl rfl dX8_round_17 (?_ : V X 20 [some (.ref 0), some (.int p1)] [.ref 17, .ref ((gp μ 1)), .ref 59] μ)
    refine v_callV hX sp_X1_solveAll ck_X1_solveAll mk_X8_203 mv_X1_solveAll sh_59 (by decide) (by decide) [.ref ((gp μ 1)), .ref 17] [] rfl rfl (Nat.le_of_ble_eq_true rfl) dX8_round_20 ⟨((gp μ 1)), rfl, hh2, h.1, fun μ4 hp5 => (?_ : V X 23 [some (.ref 0), some (.int p1)] [] μ4)⟩
    replace h := h.2 μ4 hp5
    refine v_aload_n hX dX8_round_23 rfl (?_ : V X 24 [some (.ref 0), some (.int p1)] [.ref 0] μ4)
    refine v_getr hX (64) fk_X8_58 sh_0 rfl rfl dX8_round_24 (?_ : V X 27 [some (.ref 0), some (.int p1)] [.ref 64] μ4)
    refine v_aload_n hX dX8_round_27 rfl (?_ : V X 28 [some (.ref 0), some (.int p1)] [.ref 0, .ref 64] μ4)
    have hh6 := h.1
    replace h := h.2
    refine v_getp hX (gp μ4 1) fk_X8_19 sh_0 rfl rfl dX8_round_28 (?_ : V X 31 [some (.ref 0), some (.int p1)] [.ref ((gp μ4 1)), .ref 64] μ4)
    refine v_aload_n hX dX8_round_31 rfl (?_ : V X 32 [some (.ref 0), some (.int p1)] [.ref 0, .ref ((gp μ4 1)), .ref 64] μ4)
    refine v_getr hX (17) fk_X8_29 sh_0 rfl rfl dX8_round_32 (?_ : V X 35 [some (.ref 0), some (.int p1)] [.ref 17, .ref ((gp μ4 1)), .ref 64] μ4)
    refine v_aload_n hX dX8_round_35 rfl (?_ : V X 36 [some (.ref 0), some (.int p1)] [.ref 0, .ref 17, .ref ((gp μ4 1)), .ref 64] μ4)
    refine v_getr hX (59) fk_X8_51 sh_0 rfl rfl dX8_round_36 (?_ : V X 39 [some (.ref 0), some (.int p1)] [.ref 59, .ref 17, .ref ((gp μ4 1)), .ref 64] μ4)
    refine v_getr hX (61) fk_X8_210 sh_59 rfl rfl dX8_round_39 (?_ : V X 42 [some (.ref 0), some (.int p1)] [.ref 61, .ref 17, .ref ((gp μ4 1)), .ref 64] μ4)
    refine v_callV hX sp_X0_plan ck_X0_plan mk_X8_213 mv_X0_plan sh_64 (by decide) (by decide) [.ref ((gp μ4 1)), .ref 17, .ref 61] [] rfl rfl (Nat.le_of_ble_eq_true rfl) dX8_round_42 ⟨((gp μ4 1)), rfl, hh6, h.1, fun μ8 hp9 => (?_ : V X 45 [some (.ref 0), some (.int p1)] [] μ8)⟩
    replace h := h.2 μ8 hp9
    refine v_iload_n hX dX8_round_45 rfl (?_ : V X 46 [some (.ref 0), some (.int p1)] [.int p1] μ8)
    by_cases c10 : p1 = (-2)
    · replace h := h.1 c10
      refine v_lookup hX 80 dX8_round_46 (by decide) (o := 34) (by rw [c10]; decide) rfl (?_ : V X 80 [some (.ref 0), some (.int p1)] [] μ8)
      refine v_aload_n hX dX8_round_80 rfl (?_ : V X 81 [some (.ref 0), some (.int p1)] [.ref 0] μ8)
      refine v_getr hX (64) fk_X8_58 sh_0 rfl rfl dX8_round_81 (?_ : V X 84 [some (.ref 0), some (.int p1)] [.ref 64] μ8)
      refine v_geti hX fk_X8_220 sh_64 rfl dX8_round_84 (?_ : V X 87 [some (.ref 0), some (.int p1)] [.int (gi μ8 64 3)] μ8)
      exact v_iret hO dX8_round_87 (hR _ _ h)
    · replace h := h.2 c10
      by_cases c11 : p1 = (-1)
      · replace h := h.1 c11
        refine v_lookup hX 72 dX8_round_46 (by decide) (o := 26) (by rw [c11]; decide) rfl (?_ : V X 72 [some (.ref 0), some (.int p1)] [] μ8)
        refine v_aload_n hX dX8_round_72 rfl (?_ : V X 73 [some (.ref 0), some (.int p1)] [.ref 0] μ8)
        refine v_getr hX (64) fk_X8_58 sh_0 rfl rfl dX8_round_73 (?_ : V X 76 [some (.ref 0), some (.int p1)] [.ref 64] μ8)
        refine v_geti hX fk_X8_217 sh_64 rfl dX8_round_76 (?_ : V X 79 [some (.ref 0), some (.int p1)] [.int (gi μ8 64 2)] μ8)
        exact v_iret hO dX8_round_79 (hR _ _ h)
      · replace h := h.2 c11
        refine v_lookup hX 88 dX8_round_46 (by decide) (o := 42) (by show Op.lookupswitch.offset [(-2, 34), (-1, 26)] _ _ = _; rw [lv_osw (a := (-2)) c10 rfl, lv_osw (a := (-1)) c11 rfl]; rfl) rfl (?_ : V X 88 [some (.ref 0), some (.int p1)] [] μ8)
        refine v_iload_n hX dX8_round_88 rfl (?_ : V X 89 [some (.ref 0), some (.int p1)] [.int p1] μ8)
        refine v_aload_n hX dX8_round_89 rfl (?_ : V X 90 [some (.ref 0), some (.int p1)] [.ref 0, .int p1] μ8)
        refine v_getr hX (64) fk_X8_58 sh_0 rfl rfl dX8_round_90 (?_ : V X 93 [some (.ref 0), some (.int p1)] [.ref 64, .int p1] μ8)
        refine v_geti hX fk_X8_223 sh_64 rfl dX8_round_93 (?_ : V X 96 [some (.ref 0), some (.int p1)] [.int (gi μ8 64 1), .int p1] μ8)
        refine v_icmp_ge hX 111 dX8_round_96 rfl (fun c12 => ?_) (fun c12 => ?_)
        · replace h := h.1 c12
          refine v_bipush hX (-5) dX8_round_111 rfl (?_ : V X 113 [some (.ref 0), some (.int p1)] [.int ((-5))] μ8)
          exact v_iret hO dX8_round_113 (hR _ _ h)
        · replace h := h.2 c12
          refine v_aload_n hX dX8_round_99 rfl (?_ : V X 100 [some (.ref 0), some (.int p1)] [.ref 0] μ8)
          refine v_getr hX (64) fk_X8_58 sh_0 rfl rfl dX8_round_100 (?_ : V X 103 [some (.ref 0), some (.int p1)] [.ref 64] μ8)
          refine v_getr hX (65) fk_X8_226 sh_64 rfl rfl dX8_round_103 (?_ : V X 106 [some (.ref 0), some (.int p1)] [.ref 65] μ8)
          refine v_iload_n hX dX8_round_106 rfl (?_ : V X 107 [some (.ref 0), some (.int p1)] [.int p1, .ref 65] μ8)
          have hb13 := h.1
          replace h := h.2
          refine w_iald hX (Int32.toNatClampNeg p1) sh_65 hb13 rfl dX8_round_107 (?_ : V X 108 [some (.ref 0), some (.int p1)] [.int (gi μ8 65 (Int32.toNatClampNeg p1))] μ8)
          refine v_goto hX 113 dX8_round_108 rfl (?_ : V X 113 [some (.ref 0), some (.int p1)] [.int (gi μ8 65 (Int32.toNatClampNeg p1))] μ8)
          exact v_iret hO dX8_round_113 (hR _ _ h)
  · replace h := h.2 c1
    refine v_iconst hX (-1) dX8_round_6 rfl (?_ : V X 7 [some (.ref 0), some (.int p1)] [.int ((-1))] μ)
    exact v_iret hO dX8_round_7 (hR _ _ h)
set_option maxRecDepth 20000 in
set_option maxHeartbeats 1000000 in
theorem vp_X8_round_0 (p1 : Int32)  (μ : Mem) (hpre : pre_X8_round p1 μ) : vc_X8_round_0 p1 μ (post_X8_round p1 μ)  := by
  unfold vc_X8_round_0
  obtain ⟨hw, hS, hE⟩ := hpre
  have hw' : gp μ 1 = 3 ∨ gp μ 1 = 10 := hw
  refine ⟨fun c => ⟨hw', hS, ?_⟩, fun c => ⟨fr_refl _ _, fun _ => rfl, fun z => absurd z c⟩⟩
  rintro m4 ⟨sf, sv, sn⟩
  have hgp : gp m4 1 = gp μ 1 := rem_gp sf 1
  rw [hgp]
  generalize hww : gp μ 1 = w at *
  have hw0 : w ∉ ([59, 60, 61, 62, 63] : List Nat) := by simp; omega
  have hw3 : w + 3 ∉ ([59, 60, 61, 62, 63] : List Nat) := by simp; omega
  have hgw : ∀ k, gn m4 w k = gn μ w k := fun k => gn_fr sf hw0 k
  refine ⟨hw', ⟨EV_fr hE sf (by simp) (by simp) (by simp), fun r hr => ?_⟩, ?_⟩
  · rw [hgw] at hr
    exact moC_b hS hr (sv r hr)
  · rintro m8 ⟨pf, b, hb, d1, d2, d3, d4⟩
    have e17 : P0C m4 = P0C μ := by unfold P0C; rw [sf.1 17 (by simp), gn_fr sf (by simp)]
    have e3 : gi m4 (w + 3) = gi μ (w + 3) := funext fun k => sf.1 _ hw3 k
    have em : moY m4 = moV (-9) (gi m4 61) := rfl
    unfold bestY at hb
    rw [hgw, hgw, hgw, e17, gn_fr sf (by simp) 2, e3, em] at hb
    rw [e3] at d2
    rw [hgw, e17, em] at d3
    have h5 := cnt_le b 5
    have fin : ∀ x, x = rndA (gn μ w 10) (P0C μ) (moV (-9) (gi m4 61)) (gi μ (w + 3)) b p1 → post_X8_round p1 μ x m8 := by
      intro x hx
      refine ⟨fr_trans (fr_mono sf (by simp)) (fr_mono pf (by simp)), fun z => absurd c z, fun _ => ⟨gi m4 61, ?_⟩⟩
      rw [hww]
      exact ⟨sv, b, hb, hx⟩
    refine ⟨fun q => fin _ ?_, fun q => ⟨fun q2 => fin _ ?_, fun q2 => ⟨fun q3 => fin _ ?_, fun q3 => ⟨?_, fin _ ?_⟩⟩⟩⟩
    · unfold rndA; rw [if_pos q, d3]
    · unfold rndA; rw [if_neg q, if_pos q2, d2]
    · unfold rndA; rw [d1] at q3; rw [if_neg q, if_neg q2, if_pos q3]
    all_goals
      have p0 : 0 ≤ p1 := by
        rw [i_le] at c ⊢
        rw [show (-2 : Int32).toInt = -2 from rfl] at c
        rw [show (0 : Int32).toInt = 0 from rfl]
        have n2 : p1.toInt ≠ -2 := fun h => q (Int32.toInt_inj.mp (by rw [h]; rfl))
        have n1 : p1.toInt ≠ -1 := fun h => q2 (Int32.toInt_inj.mp (by rw [h]; rfl))
        omega
      obtain ⟨e, he⟩ := nn_of p0
      rw [d1] at q3
      have q3' := q3
      rw [e, nI_leI (by omega) he] at q3'
    · rw [e]; exact vp_in_nI (by omega) (by omega)
    · unfold rndA; rw [if_neg q, if_neg q2, if_neg q3]; exact d4 _ (by omega)
theorem sp_X8_round : Sp yX8_round cX8_round 2 (some .int) 10 S_X8_round := by
  refine sp_of (by decide) (fun av μ P h => ?_) ?_
  · obtain ⟨p1, rfl, -⟩ := h
    refine ⟨Nat.le_of_ble_eq_true rfl, fun v hv => ?_⟩
    simp only [List.mem_cons, List.not_mem_nil, or_false] at hv
    rcases hv with rfl | rfl <;> rfl
  · rintro X P hO _ μ ⟨p1, rfl, hpre, hpost⟩ hn
    exact wk_X8_round_0 hO hn p1  μ hpost (vp_X8_round_0 p1  μ hpre)

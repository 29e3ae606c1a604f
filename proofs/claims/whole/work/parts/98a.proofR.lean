theorem f75_mono {a b : Mem} {ks ls : List Nat} (h : f75x ks a b) (hs : ∀ k ∈ ks, k ∈ ls) : f75x ls a b := fun k hk => h k (fun z => hk (hs k z))
theorem tok_4 {T : Nat → Int32} {n a : Nat} {m : Mem} (ha : a ≤ n) (h : tokM T n a m) : ∃ b, b ≤ n ∧ gi m 75 4 = nI b := by
  rcases h with ⟨h1, _, h2⟩ | ⟨h1, _, h2, _⟩ | ⟨_, _, b, h1, h2, _⟩
  · exact ⟨a, ha, h2⟩
  · exact ⟨a + 1, h1, h2⟩
  · exact ⟨b, h1.2.1, h2⟩
theorem RM_of {μ m : Mem} {b : Nat} (hR : RM μ) (h3 : gi m 75 3 = gi μ 75 3) (h6 : ∀ j, gi m 76 j = gi μ 76 j) (h4 : gi m 75 4 = nI b) (hb : b ≤ gn μ 75 3) : RM m := by
  have h200 := hR.1.2
  have g3 : gn m 75 3 = gn μ 75 3 := by unfold gn; rw [h3]
  have g4 : gn m 75 4 = b := by unfold gn; rw [h4, nI_clamp (by omega)]
  refine ⟨by unfold isN; rw [g3, h3]; exact hR.1, by unfold isN; rw [g4]; exact ⟨h4, by omega⟩, by omega, fun j hj => ?_⟩
  rw [h6]; exact hR.2.2.2 j (by omega)
theorem RM_id {μ m : Mem} (hR : RM μ) (h3 : gi m 75 3 = gi μ 75 3) (h6 : ∀ j, gi m 76 j = gi μ 76 j) (h4 : gi m 75 4 = gi μ 75 4) : RM m := RM_of hR h3 h6 (h4.trans hR.2.1.1) hR.2.2.1
theorem takes_rm {p1 x : Int32} {μ m : Mem} (hR : RM μ) (h : post_X9_takes p1 μ x m) : RM m ∧ fr [75] μ m ∧ f75x [4, 5, 6, 7, 8] μ m := by
  by_cases w : gi μ 75 8 < 0
  · by_cases z : p1 = 0
    · obtain ⟨_, hm⟩ := (h.2 w).1 z
      rw [hm]
      refine ⟨RM_id hR (by rw [gi_ui, if_neg (by omega)]) (fun j => by rw [gi_ui, if_neg (by omega)]) (by rw [gi_ui, if_neg (by omega)]), fr_ui (by simp), fun k hk => ?_⟩
      rw [gi_ui, if_neg (fun y => hk (by rw [y.2]; simp))]
    · obtain ⟨_, hf, h75, a, k1, k2, k3⟩ := (h.2 w).2 z
      obtain ⟨b, hb, h4⟩ := tok_4 k1.2.1 k3
      exact ⟨RM_of hR (h75 3 (by simp)) (fun j => hf.1 76 (by simp) j) h4 hb, hf, f75_mono h75 (by simp <;> omega)⟩
  · obtain ⟨_, hm⟩ := h.1 w
    rw [hm]
    exact ⟨hR, fr_refl _ _, fun k _ => rfl⟩
theorem num_rm {p1 p2 x : Int32} {μ m : Mem} (hR : RM μ) (h : post_X9_number p1 p2 μ x m) : RM m ∧ fr [75] μ m ∧ f75x [4, 5, 6, 7, 8] μ m := by
  by_cases ok : okV μ p1 p2
  · exact takes_rm hR (h.1 ok)
  · exact takes_rm hR (h.2 ok)
/-- a number is read, and stored -/
theorem nst {p1 p2 x v : Int32} {μ m m2 : Mem} {c k : Nat} (hR : RM μ) (h : post_X9_number p1 p2 μ x m) (hc : 77 ≤ c) (hm : m2 = ui m c k v) : RM m2 ∧ fr [75, c] μ m2 ∧ f75x [4, 5, 6, 7, 8] μ m2 ∧ (∀ j, gi m2 c j = if j = k then v else gi μ c j) ∧
    ((¬ gi μ 75 8 < 0 ∧ gi m2 75 8 = gi μ 75 8) ∨ (gi μ 75 8 < 0 ∧ ∀ a, TokAt (gi μ 76) (gn μ 75 3) a μ → p2 ≤ 500 → (∃ s, NumF (gi μ 76) (gn μ 75 3) a p1 p2 s ∧ gi m2 75 8 = nI s) ∨ (∃ b, NumR (gi μ 76) (gn μ 75 3) a p1 p2 x b ∧ gi m2 75 8 = gi μ 75 8 ∧ TokAt (gi μ 76) (gn μ 75 3) b m2))) := by
  obtain ⟨r1, r2, r3⟩ := num_rm hR h
  have e75 : ∀ j, gi m2 75 j = gi m 75 j := fun j => by rw [hm, gi_ui, if_neg (by omega)]
  have e76 : ∀ j, gi m2 76 j = gi m 76 j := fun j => by rw [hm, gi_ui, if_neg (by omega)]
  refine ⟨RM_id r1 (e75 3) e76 (e75 4), ?_, fun j hj => by rw [e75]; exact r3 j hj, fun j => ?_, ?_⟩
  · rw [hm]; exact fr_trans (fr_mono r2 (by simp)) (fr_ui (by simp))
  · rw [hm, gi_ui]
    by_cases z : j = k
    · rw [if_pos ⟨rfl, z⟩, if_pos z]
    · rw [if_neg (fun y => z y.2), if_neg z, r2.1 c (by simp <;> omega)]
  · by_cases w : gi μ 75 8 < 0
    · refine Or.inr ⟨w, fun a ht hp => ?_⟩
      rcases num_mod hR w hp ht h with ⟨s, s1, _, s2⟩ | ⟨b, b1, _, b2, b3, b4⟩
      · exact Or.inl ⟨s, s1, by rw [e75, s2, gi_ui, if_pos ⟨rfl, rfl⟩]⟩
      · refine Or.inr ⟨b, b1, by rw [e75, b3 8 (by simp)], ?_⟩
        obtain ⟨s, s1, s2, s3⟩ := b4
        refine ⟨s, s1, by rw [e75]; exact s2, ?_⟩
        unfold tokM at s3 ⊢
        simp only [e75]
        exact s3
    · refine Or.inl ⟨w, ?_⟩
      have : m = μ := by
        by_cases ok : okV μ p1 p2
        · exact ((h.1 ok).1 w).2
        · exact ((h.2 ok).1 w).2
      rw [e75, this]
theorem tok_75 {T : Nat → Int32} {n a : Nat} {m m' : Mem} (h : TokAt T n a m) (h4 : gi m' 75 4 = gi m 75 4) (h5 : gi m' 75 5 = gi m 75 5) (h6 : gi m' 75 6 = gi m 75 6) (h7 : gi m' 75 7 = gi m 75 7) : TokAt T n a m' := by
  obtain ⟨s, s1, s2, s3⟩ := h
  refine ⟨s, s1, by rw [h6]; exact s2, ?_⟩
  unfold tokM at s3 ⊢
  rw [h4, h5, h7]
  exact s3
theorem told_1 : ∀ t, t < 8 → (t ||| 1) < 8 ∧ nI t ||| 1 = nI (t ||| 1) ∧ ¬ nI (t ||| 1) &&& 1 = 0 ∧ (nI (t ||| 1) &&& 2 = 0 ↔ nI t &&& 2 = 0) ∧ (nI (t ||| 1) &&& 4 = 0 ↔ nI t &&& 4 = 0) := by decide +kernel
theorem told_2 : ∀ t, t < 8 → (t ||| 2) < 8 ∧ nI t ||| 2 = nI (t ||| 2) ∧ ¬ nI (t ||| 2) &&& 2 = 0 ∧ (nI (t ||| 2) &&& 1 = 0 ↔ nI t &&& 1 = 0) ∧ (nI (t ||| 2) &&& 4 = 0 ↔ nI t &&& 4 = 0) := by decide +kernel
theorem told_4 : ∀ t, t < 8 → (t ||| 4) < 8 ∧ nI t ||| 4 = nI (t ||| 4) ∧ ¬ nI (t ||| 4) &&& 4 = 0 ∧ (nI (t ||| 4) &&& 1 = 0 ↔ nI t &&& 1 = 0) ∧ (nI (t ||| 4) &&& 2 = 0 ↔ nI t &&& 2 = 0) := by decide +kernel
theorem cl5 {μ : Mem} {k : Nat} (h : isN μ 77 k 5) : (5 + gi μ 77 k).toNatClampNeg = 5 + gn μ 77 k := by
  have := h.2
  rw [h.1, show (5 : Int32) = nI 5 from rfl, nI_add, nI_clamp (by omega)]
theorem cl6 {μ : Mem} {k : Nat} (h : isN μ 77 k 6) : (6 + gi μ 77 k).toNatClampNeg = 6 + gn μ 77 k := by
  have := h.2
  rw [h.1, show (6 : Int32) = nI 6 from rfl, nI_add, nI_clamp (by omega)]
/-- the three that are told once -/
theorem one_rm {x : Int32} {μ m7 m9 m14 : Mem} {p1 p2 bt : Int32} {k : Nat} (hR : RM μ) (hw : gi μ 75 8 < 0) (h : post_X9_number p1 p2 μ x m7) (hk : 6 ≤ k) (h9 : m9 = ui m7 77 k x) (h14 : m14 = ui m9 75 10 (gi m9 75 10 ||| bt)) : RM m14 ∧ frM μ m14 ∧ gi m14 75 10 = gi μ 75 10 ||| bt ∧ (∀ c, 77 ≤ c → ∀ j, gi m14 c j = if c = 77 ∧ j = k then x else gi μ c j) ∧
    ∀ a, TokAt (gi μ 76) (gn μ 75 3) a μ → p2 ≤ 500 → (∃ s, NumF (gi μ 76) (gn μ 75 3) a p1 p2 s ∧ gi m14 75 8 = nI s) ∨ (∃ b, NumR (gi μ 76) (gn μ 75 3) a p1 p2 x b ∧ gi m14 75 8 = gi μ 75 8 ∧ TokAt (gi μ 76) (gn μ 75 3) b m14) := by
  obtain ⟨r1, r2, r3, r4, r5⟩ := nst (c := 77) hR h (by omega) h9
  have e75 : ∀ j, j ≠ 10 → gi m14 75 j = gi m9 75 j := fun j hj => by rw [h14, gi_ui, if_neg (fun y => hj y.2)]
  have eo : ∀ c, c ≠ 75 → ∀ j, gi m14 c j = gi m9 c j := fun c hc j => by rw [h14, gi_ui, if_neg (fun y => hc y.1)]
  have ec : ∀ c, 77 ≤ c → ∀ j, gi m14 c j = if c = 77 ∧ j = k then x else gi μ c j := fun c hc j => by
    rw [eo c (by omega)]
    by_cases z : c = 77
    · subst z
      rw [r4]
      by_cases y : j = k
      · rw [if_pos y, if_pos ⟨rfl, y⟩]
      · rw [if_neg y, if_neg (fun q => y q.2)]
    · rw [if_neg (fun q => z q.1), r2.1 c (by simp <;> omega)]
  refine ⟨RM_id r1 (e75 3 (by omega)) (eo 76 (by omega)) (e75 4 (by omega)), ⟨?_, fun j hj => ?_, fun j hj => ⟨?_, ?_⟩, fun j hj => ⟨?_, ?_, ?_, ?_⟩⟩, ?_, ec, fun a ht hp => ?_⟩
  · rw [h14]; exact fr_trans (fr_mono r2 (by simp)) (fr_ui (by simp))
  · rw [e75 j (fun z => hj (by rw [z]; simp)), r3 j (fun z => hj (by simp at z ⊢; omega))]
  · rw [ec _ (by omega), if_neg (by omega)]
  · rw [ec _ (by omega), if_neg (by omega)]
  · rw [ec _ (by omega), if_neg (by omega)]
  · rw [ec _ (by omega), if_neg (by omega)]
  · rw [ec _ (by omega), if_neg (by omega)]
  · rw [ec _ (by omega), if_neg (by omega)]
  · rw [h14, gi_ui, if_pos ⟨rfl, rfl⟩, r3 10 (by simp)]
  · rcases r5 with ⟨z, _⟩ | ⟨_, r5⟩
    · exact absurd hw z
    · rcases r5 a ht hp with ⟨s, s1, s2⟩ | ⟨b, b1, b2, b3⟩
      · exact Or.inl ⟨s, s1, by rw [e75 8 (by omega)]; exact s2⟩
      · exact Or.inr ⟨b, b1, by rw [e75 8 (by omega)]; exact b2, tok_75 b3 (e75 4 (by omega)) (e75 5 (by omega)) (e75 6 (by omega)) (e75 7 (by omega))⟩
theorem one_ag {μ m : Mem} {D : Dr} {j t0 : Nat} {x bt : Int32} {k : Nat} (hA : agM μ D) (hj : bt = 1 ∧ j = 3 ∧ t0 = 6 ∧ k = 9 ∨ bt = 2 ∧ j = 4 ∧ t0 = 7 ∧ k = 10 ∨ bt = 4 ∧ j = 5 ∧ t0 = 8 ∧ k = 11) (h10 : gi m 75 10 = gi μ 75 10 ||| bt) (ec : ∀ c, 77 ≤ c → ∀ j, gi m c j = if c = 77 ∧ j = k then x else gi μ c j) : agM m (ud (ud D 0 j x) 0 t0 1) := by
  obtain ⟨a0, aR, aD, aS, t, ht, et, t1, t2, t4⟩ := hA
  have e0 : dn (ud (ud D 0 j x) 0 t0 1) 0 = dn D 0 := by rcases hj with ⟨_, rfl, rfl, _⟩ | ⟨_, rfl, rfl, _⟩ | ⟨_, rfl, rfl, _⟩ <;> simp [dn, ud_at]
  have e1 : dn (ud (ud D 0 j x) 0 t0 1) 1 = dn D 1 := by rcases hj with ⟨_, rfl, rfl, _⟩ | ⟨_, rfl, rfl, _⟩ | ⟨_, rfl, rfl, _⟩ <;> simp [dn, ud_at]
  have e2 : dn (ud (ud D 0 j x) 0 t0 1) 2 = dn D 2 := by rcases hj with ⟨_, rfl, rfl, _⟩ | ⟨_, rfl, rfl, _⟩ | ⟨_, rfl, rfl, _⟩ <;> simp [dn, ud_at]
  unfold agM
  rw [e0, e1, e2]
  refine ⟨fun q hq => ?_, fun i hi => ?_, fun i hi => ?_, fun i hi => ?_, ?_⟩
  · rw [ec _ (by omega)]
    have hkj : k = 6 + j := by omega
    subst hkj
    by_cases z : q = j
    · subst z
      rw [if_pos ⟨rfl, rfl⟩, ud_at, if_neg (by omega), ud_at, if_pos ⟨rfl, rfl⟩]
    · rw [if_neg (by omega), ud_at, if_neg (by omega), ud_at, if_neg (by omega)]
      exact a0 q hq
  · rw [ec _ (by omega), ec _ (by omega), ec _ (by omega), if_neg (by omega), if_neg (by omega), if_neg (by omega)]
    simpa [ud_at] using aR i hi
  · rw [ec _ (by omega), ec _ (by omega), if_neg (by omega), if_neg (by omega)]
    simpa [ud_at] using aD i hi
  · rw [ec _ (by omega), if_neg (by omega)]
    simpa [ud_at] using aS i hi
  · rcases hj with ⟨rfl, rfl, rfl, _⟩ | ⟨rfl, rfl, rfl, _⟩ | ⟨rfl, rfl, rfl, _⟩
    · obtain ⟨c1, c2, c3, c4, c5⟩ := told_1 t ht
      refine ⟨t ||| 1, c1, by rw [h10, et, c2], ?_, ?_, ?_⟩
      · simp [ud_at, c3]
      · rw [c4, t2]; simp [ud_at]
      · rw [c5, t4]; simp [ud_at]
    · obtain ⟨c1, c2, c3, c4, c5⟩ := told_2 t ht
      refine ⟨t ||| 2, c1, by rw [h10, et, c2], ?_, ?_, ?_⟩
      · rw [c4, t1]; simp [ud_at]
      · simp [ud_at, c3]
      · rw [c5, t4]; simp [ud_at]
    · obtain ⟨c1, c2, c3, c4, c5⟩ := told_4 t ht
      refine ⟨t ||| 4, c1, by rw [h10, et, c2], ?_, ?_, ?_⟩
      · rw [c4, t1]; simp [ud_at]
      · rw [c5, t2]; simp [ud_at]
      · simp [ud_at, c3]


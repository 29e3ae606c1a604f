theorem ag_fr1 {w : Nat} {m m' : Mem} {D : Dr} (hw : w = 3 ∨ w = 10) (h : fr [1] m m') (ha : agC w m D) : agC w m' D := by
  have e : ∀ c, 2 ≤ c → ∀ k, gi m' c k = gi m c k := fun c hc k => h.1 c (by simp <;> omega) k
  unfold agC at ha ⊢
  rw [e w (by omega), e w (by omega), e w (by omega), e w (by omega), e w (by omega), e w (by omega)]
  refine ⟨ha.1, ha.2.1, ha.2.2.1, ha.2.2.2.1, ha.2.2.2.2.1, ha.2.2.2.2.2.1, fun i hi => ?_, fun i hi => ?_, fun i hi => ?_⟩
  · rw [e _ (by omega), e _ (by omega), e _ (by omega)]; exact ha.2.2.2.2.2.2.1 i hi
  · rw [e _ (by omega), e _ (by omega)]; exact ha.2.2.2.2.2.2.2.1 i hi
  · rw [e _ (by omega)]; exact ha.2.2.2.2.2.2.2.2 i hi
theorem dn_succ {D D' : Dr} {k b : Nat} (h : isB (D 0 k) b) (hb : b < 1000) (e : D' 0 k = D 0 k + 1) : dn D' k = dn D k + 1 := by
  obtain ⟨n, hn, hle⟩ := h
  unfold dn
  rw [e, hn, nI_1, nI_clamp (by omega), nI_clamp (by omega)]
theorem RD_of {μ m : Mem} {b : Nat} (hR : RD μ) (h1 : gi m 1 1 = gi μ 1 1) (h3 : gi m 1 3 = nI b) (hb : b ≤ gn μ 1 1) : RD m ∧ gn m 1 1 = gn μ 1 1 ∧ gn m 1 3 = b := by
  have h200 := hR.1.2
  have g1 : gn m 1 1 = gn μ 1 1 := by unfold gn; rw [h1]
  have g3 : gn m 1 3 = b := by unfold gn; rw [h3, nI_clamp (by omega)]
  exact ⟨⟨by unfold isN; rw [h1, g1]; exact hR.1, ⟨by rw [g3]; exact h3, by omega⟩, by omega⟩, g1, g3⟩
theorem item_fin {w : Nat} {μ : Mem} {x : Int32} {m : Mem} (hR : RI w μ) (hb : bdC w μ x m) : (x = 0 → itC w μ 0 m) ∧ (¬ x = 0 → (RD m ∧ ∀ (y : Int32) (m' : Mem), post_X6_readEnd m y m' → ((y = 0 → itC w μ 0 m') ∧ (¬ y = 0 → itC w μ 1 m')))) := by
  obtain ⟨hf, hrd, hb⟩ := hb
  refine ⟨fun e => ⟨hf, Or.inl rfl, fun D h1 h2 h3 => ?_⟩, fun e => ?_⟩
  · rcases hb D h1 h2 h3 with ⟨_, f, k1, k2⟩ | ⟨k, _⟩
    · exact Or.inl ⟨rfl, f, Or.inl k1, k2⟩
    · rw [e] at k; exact absurd k (by decide)
  · rcases hrd with hx | ⟨hx, hrm⟩
    · exact absurd hx e
    refine ⟨hrm, fun y m' he => ?_⟩
    obtain ⟨ef, e1, he⟩ := end_cls he
    have hfI : frI w μ m' := ⟨fr_trans hf.1 (fr_mono ef (by simp)), f1_trans hf.2 (f1_mono e1 (by simp))⟩
    have hw := hR.1
    have eT : gi m 2 = gi μ 2 := funext fun k => hf.1.1 2 (by simp <;> omega) k
    have e11 : gn m 1 1 = gn μ 1 1 := by unfold gn; rw [hf.2 1 (by simp)]
    have h200 := hrm.1.2
    rw [eT, e11] at he
    refine ⟨fun ey => ⟨hfI, Or.inl rfl, fun D h1 h2 h3 => ?_⟩, fun ey => ?_⟩
    · rcases hb D h1 h2 h3 with ⟨z, _⟩ | ⟨_, b, D', k1, k2, k3, k4⟩
      · exact absurd z e
      · have g3 : gn m 1 3 = b := by unfold gn; rw [k2, nI_clamp (by have := (bd_place k1).2; omega)]
        rcases he with ⟨z, _⟩ | ⟨_, s, s1, s2⟩
        · rw [ey] at z; exact absurd z (by decide)
        · rw [g3] at s1
          exact Or.inl ⟨rfl, s, Or.inr ⟨b, D', k1, s1⟩, s2⟩
    · rcases he with ⟨ey1, c, c1, c2, c3⟩ | ⟨z, _⟩
      · refine ⟨hfI, Or.inr ⟨rfl, (RD_of hrm (e1 1 (by simp)) c3 (by omega)).1⟩, fun D h1 h2 h3 => ?_⟩
        rcases hb D h1 h2 h3 with ⟨z, _⟩ | ⟨_, b, D', k1, k2, k3, k4⟩
        · exact absurd z e
        · have g3 : gn m 1 3 = b := by unfold gn; rw [k2, nI_clamp (by have := (bd_place k1).2; omega)]
          rw [g3] at c1
          exact Or.inr ⟨rfl, c, D', ⟨b, k1, c1⟩, c3, ag_fr1 hw ef k3, by unfold mkC; rw [e1 4 (by simp), e1 5 (by simp), e1 6 (by simp)]; exact k4⟩
      · exact absurd z ey
theorem at_nI {μ : Mem} (hR : RD μ) : gi μ 1 3 = nI (gn μ 1 3) := hR.2.1.1
theorem bd_room {w : Nat} {μ : Mem} {x : Int32} {m : Mem} (hR : RI w μ) (q : gi μ 2 (gn μ 1 3) = 114) (h : post_X6_readRoom w μ x m) : bdC w μ x m := by
  obtain ⟨hf, h⟩ := h
  have hw := hR.1
  have hat := at_nI hR.2.1
  refine ⟨hf, ?_, fun D hD hA hM => ?_⟩
  · rcases h with ⟨h, _⟩ | ⟨h, _, v, b, v', b', v2, b2, _, _, _, ⟨k1, k2, k3, _⟩, _⟩
    · exact Or.inl h
    · exact Or.inr ⟨h, (RD_of hR.2.1 (k3 1 (by simp)) k2 k1).1⟩
  · unfold BdF BdR
    simp only [if_pos q]
    obtain ⟨a0, a1, a2, a3, a4, a5, aR, aD, aS⟩ := hA
    rw [a0] at h
    rcases h with ⟨hx, ⟨z1, z2⟩ | ⟨z1, s, z2, z3⟩⟩ | ⟨hx, z1, v, b, v', b', v2, b2, n1, n2, n3, ⟨k1, k2, k3, k4, k5⟩, hfr, p1, p2, p3⟩
    · exact Or.inl ⟨hx, _, Or.inl ⟨z1, rfl⟩, by rw [z2]; exact hat⟩
    · exact Or.inl ⟨hx, s, Or.inr ⟨z1, z2⟩, z3⟩
    · have ej : gn μ w 0 = dn D 0 := by unfold gn dn; rw [a0]
      rw [ej] at p1 p2 p3
      refine Or.inr ⟨hx, b2, _, ⟨z1, v, b, v', b', v2, n1, n2, n3, rfl⟩, k2, ?_, by unfold mkC; rw [k3 4 (by simp), k3 5 (by simp), k3 6 (by simp)]; simpa [ud_at, mkC] using hM⟩
      have e0 : dn (ud (ud (ud (ud D 1 (dn D 0) v) 2 (dn D 0) v') 3 (dn D 0) v2) 0 0 (D 0 0 + 1)) 0 = dn D 0 + 1 := dn_succ hD.1 (by omega) (by simp [ud_at])
      have e1 : dn (ud (ud (ud (ud D 1 (dn D 0) v) 2 (dn D 0) v') 3 (dn D 0) v2) 0 0 (D 0 0 + 1)) 1 = dn D 1 := by simp [dn, ud_at]
      have e2 : dn (ud (ud (ud (ud D 1 (dn D 0) v) 2 (dn D 0) v') 3 (dn D 0) v2) 0 0 (D 0 0 + 1)) 2 = dn D 2 := by simp [dn, ud_at]
      unfold agC
      rw [e0, e1, e2]
      refine ⟨by rw [k4, a0]; simp [ud_at], by rw [k5 4 (by simp), a1]; simp [ud_at], by rw [k5 7 (by simp), a2]; simp [ud_at], by rw [k5 9 (by simp), a3]; simp [ud_at], by rw [k5 10 (by simp), a4]; simp [ud_at], by rw [k5 11 (by simp), a5]; simp [ud_at], fun i hi => ?_, fun i hi => ?_, fun i hi => ?_⟩
      · rw [p1, p2, p3]
        by_cases ei : i = dn D 0
        · simp [ud_at, ei]
        · have := aR i (by omega)
          simp [ud_at, ei, this]
      · rw [hfr.1 _ (by simp <;> omega), hfr.1 _ (by simp <;> omega)]
        simpa [ud_at] using aD i hi
      · rw [hfr.1 _ (by simp <;> omega)]
        simpa [ud_at] using aS i hi
theorem bd_doing {w : Nat} {μ : Mem} {x : Int32} {m : Mem} (hR : RI w μ) (q : gi μ 2 (gn μ 1 3) = 100) (h : post_X6_readDoing w μ x m) : bdC w μ x m := by
  obtain ⟨hf, h⟩ := h
  have hw := hR.1
  have hat := at_nI hR.2.1
  have q1 : ¬ gi μ 2 (gn μ 1 3) = 114 := by rw [q]; decide
  refine ⟨hf, ?_, fun D hD hA hM => ?_⟩
  · rcases h with ⟨h, _⟩ | ⟨h, _, v, b, v', b', _, _, ⟨k1, k2, k3, _⟩, _⟩
    · exact Or.inl h
    · exact Or.inr ⟨h, (RD_of hR.2.1 (k3 1 (by simp)) k2 k1).1⟩
  · unfold BdF BdR
    simp only [if_neg q1, if_pos q]
    obtain ⟨a0, a1, a2, a3, a4, a5, aR, aD, aS⟩ := hA
    rw [a1] at h
    rcases h with ⟨hx, ⟨z1, z2⟩ | ⟨z1, s, z2, z3⟩⟩ | ⟨hx, z1, v, b, v', b', n1, n2, ⟨k1, k2, k3, k4, k5⟩, hfr, p1, p2⟩
    · exact Or.inl ⟨hx, _, Or.inl ⟨z1, rfl⟩, by rw [z2]; exact hat⟩
    · exact Or.inl ⟨hx, s, Or.inr ⟨z1, z2⟩, z3⟩
    · have ej : gn μ w 4 = dn D 1 := by unfold gn dn; rw [a1]
      rw [ej] at p1 p2
      refine Or.inr ⟨hx, b', _, ⟨z1, v, b, v', n1, n2, rfl⟩, k2, ?_, by unfold mkC; rw [k3 4 (by simp), k3 5 (by simp), k3 6 (by simp)]; simpa [ud_at, mkC] using hM⟩
      have e1 : dn (ud (ud (ud D 4 (dn D 1) v) 5 (dn D 1) v') 0 1 (D 0 1 + 1)) 1 = dn D 1 + 1 := dn_succ hD.2.1 (by omega) (by simp [ud_at])
      have e0 : dn (ud (ud (ud D 4 (dn D 1) v) 5 (dn D 1) v') 0 1 (D 0 1 + 1)) 0 = dn D 0 := by simp [dn, ud_at]
      have e2 : dn (ud (ud (ud D 4 (dn D 1) v) 5 (dn D 1) v') 0 1 (D 0 1 + 1)) 2 = dn D 2 := by simp [dn, ud_at]
      unfold agC
      rw [e0, e1, e2]
      refine ⟨by rw [k5 0 (by simp), a0]; simp [ud_at], by rw [k4, a1]; simp [ud_at], by rw [k5 7 (by simp), a2]; simp [ud_at], by rw [k5 9 (by simp), a3]; simp [ud_at], by rw [k5 10 (by simp), a4]; simp [ud_at], by rw [k5 11 (by simp), a5]; simp [ud_at], fun i hi => ?_, fun i hi => ?_, fun i hi => ?_⟩
      · rw [hfr.1 _ (by simp <;> omega), hfr.1 _ (by simp <;> omega), hfr.1 _ (by simp <;> omega)]
        simpa [ud_at] using aR i hi
      · rw [p1, p2]
        by_cases ei : i = dn D 1
        · simp [ud_at, ei]
        · have := aD i (by omega)
          simp [ud_at, ei, this]
      · rw [hfr.1 _ (by simp <;> omega)]
        simpa [ud_at] using aS i hi
theorem bd_suspect {w : Nat} {μ : Mem} {x : Int32} {m : Mem} (hR : RI w μ) (q : gi μ 2 (gn μ 1 3) = 115) (h : post_X6_readSuspect w μ x m) : bdC w μ x m := by
  obtain ⟨hf, h⟩ := h
  have hw := hR.1
  have hat := at_nI hR.2.1
  have q1 : ¬ gi μ 2 (gn μ 1 3) = 114 := by rw [q]; decide
  have q2 : ¬ gi μ 2 (gn μ 1 3) = 100 := by rw [q]; decide
  refine ⟨hf, ?_, fun D hD hA hM => ?_⟩
  · rcases h with ⟨h, _⟩ | ⟨h, _, v, b, _, ⟨k1, k2, k3, _⟩, _⟩
    · exact Or.inl h
    · exact Or.inr ⟨h, (RD_of hR.2.1 (k3 1 (by simp)) k2 k1).1⟩
  · unfold BdF BdR
    simp only [if_neg q1, if_neg q2, if_pos q]
    obtain ⟨a0, a1, a2, a3, a4, a5, aR, aD, aS⟩ := hA
    rw [a2] at h
    rcases h with ⟨hx, ⟨z1, z2⟩ | ⟨z1, s, z2, z3⟩⟩ | ⟨hx, z1, v, b, n1, ⟨k1, k2, k3, k4, k5⟩, hfr, p1⟩
    · exact Or.inl ⟨hx, _, Or.inl ⟨z1, rfl⟩, by rw [z2]; exact hat⟩
    · exact Or.inl ⟨hx, s, Or.inr ⟨z1, z2⟩, z3⟩
    · have ej : gn μ w 7 = dn D 2 := by unfold gn dn; rw [a2]
      rw [ej] at p1
      refine Or.inr ⟨hx, b, _, ⟨z1, v, n1, rfl⟩, k2, ?_, by unfold mkC; rw [k3 4 (by simp), k3 5 (by simp), k3 6 (by simp)]; simpa [ud_at, mkC] using hM⟩
      have e2 : dn (ud (ud D 6 (dn D 2) v) 0 2 (D 0 2 + 1)) 2 = dn D 2 + 1 := dn_succ hD.2.2.1 (by omega) (by simp [ud_at])
      have e0 : dn (ud (ud D 6 (dn D 2) v) 0 2 (D 0 2 + 1)) 0 = dn D 0 := by simp [dn, ud_at]
      have e1 : dn (ud (ud D 6 (dn D 2) v) 0 2 (D 0 2 + 1)) 1 = dn D 1 := by simp [dn, ud_at]
      unfold agC
      rw [e0, e1, e2]
      refine ⟨by rw [k5 0 (by simp), a0]; simp [ud_at], by rw [k5 4 (by simp), a1]; simp [ud_at], by rw [k4, a2]; simp [ud_at], by rw [k5 9 (by simp), a3]; simp [ud_at], by rw [k5 10 (by simp), a4]; simp [ud_at], by rw [k5 11 (by simp), a5]; simp [ud_at], fun i hi => ?_, fun i hi => ?_, fun i hi => ?_⟩
      · rw [hfr.1 _ (by simp <;> omega), hfr.1 _ (by simp <;> omega), hfr.1 _ (by simp <;> omega)]
        simpa [ud_at] using aR i hi
      · rw [hfr.1 _ (by simp <;> omega), hfr.1 _ (by simp <;> omega)]
        simpa [ud_at] using aD i hi
      · rw [p1]
        by_cases ei : i = dn D 2
        · simp [ud_at, ei]
        · have := aS i (by omega)
          simp [ud_at, ei, this]
/-- the three items that are told once, in one row: f the mark's cell, g the house's, j and t the draft's places -/
theorem bd_one {w f g j t : Nat} {p1 p2 : Int32} {μ : Mem} {x : Int32} {m : Mem} (hR : RI w μ) (hf1 : f = 4 ∧ g = 9 ∧ j = 3 ∧ t = 6 ∨ f = 5 ∧ g = 10 ∧ j = 4 ∧ t = 7 ∨ f = 6 ∧ g = 11 ∧ j = 5 ∧ t = 8)
    (hF : ∀ D b, agC w μ D → (BdF (gi μ 2) (gn μ 1 1) (gn μ 1 3) D b ↔ (¬ D 0 t = 0 ∧ b = gn μ 1 3) ∨ (D 0 t = 0 ∧ NumF (gi μ 2) (gn μ 1 1) (gn μ 1 3 + 1) p1 p2 b))) (hB : ∀ D b D', agC w μ D → (BdR (gi μ 2) (gn μ 1 1) (gn μ 1 3) D b D' ↔ (D 0 t = 0 ∧ ∃ v, NumR (gi μ 2) (gn μ 1 1) (gn μ 1 3 + 1) p1 p2 v b ∧ D' = ud (ud D 0 j v) 0 t 1))) (h : oneP w f g p1 p2 μ x m) : bdC w μ x m := by
  obtain ⟨hf, h⟩ := h
  have hw := hR.1
  have hat := at_nI hR.2.1
  refine ⟨hf, ?_, fun D hD hA hM => ?_⟩
  · rcases h with ⟨h, _⟩ | ⟨h, _, b, _, k1, k2, _, _, k3, _⟩
    · exact Or.inl h
    · exact Or.inr ⟨h, (RD_of hR.2.1 (k3 1 (by simp <;> omega)) k2 k1).1⟩
  · have et : gi μ 1 f = D 0 t := by
      rcases hf1 with ⟨rfl, _, _, rfl⟩ | ⟨rfl, _, _, rfl⟩ | ⟨rfl, _, _, rfl⟩
      · exact hM.1
      · exact hM.2.1
      · exact hM.2.2
    rw [et] at h
    rcases h with ⟨hx, ⟨z1, z2⟩ | ⟨z1, s, z2, z3⟩⟩ | ⟨hx, z1, b, n1, k1, k2, hfr, k3, k4, k5⟩
    · exact Or.inl ⟨hx, _, (hF D _ hA).mpr (Or.inl ⟨z1, rfl⟩), by rw [z2]; exact hat⟩
    · exact Or.inl ⟨hx, s, (hF D _ hA).mpr (Or.inr ⟨z1, z2⟩), z3⟩
    · refine Or.inr ⟨hx, b, _, (hB D _ _ hA).mpr ⟨z1, _, n1, rfl⟩, k2, ?_, ?_⟩
      · obtain ⟨a0, a1, a2, a3, a4, a5, aR, aD, aS⟩ := hA
        have e0 : dn (ud (ud D 0 j (gi m w g)) 0 t 1) 0 = dn D 0 := by rcases hf1 with ⟨_, _, rfl, rfl⟩ | ⟨_, _, rfl, rfl⟩ | ⟨_, _, rfl, rfl⟩ <;> simp [dn, ud_at]
        have e1 : dn (ud (ud D 0 j (gi m w g)) 0 t 1) 1 = dn D 1 := by rcases hf1 with ⟨_, _, rfl, rfl⟩ | ⟨_, _, rfl, rfl⟩ | ⟨_, _, rfl, rfl⟩ <;> simp [dn, ud_at]
        have e2 : dn (ud (ud D 0 j (gi m w g)) 0 t 1) 2 = dn D 2 := by rcases hf1 with ⟨_, _, rfl, rfl⟩ | ⟨_, _, rfl, rfl⟩ | ⟨_, _, rfl, rfl⟩ <;> simp [dn, ud_at]
        unfold agC
        rw [e0, e1, e2]
        refine ⟨?_, ?_, ?_, ?_, ?_, ?_, fun i hi => ?_, fun i hi => ?_, fun i hi => ?_⟩
        · rcases hf1 with ⟨_, rfl, rfl, rfl⟩ | ⟨_, rfl, rfl, rfl⟩ | ⟨_, rfl, rfl, rfl⟩ <;> rw [k5 0 (by simp), a0] <;> simp [ud_at]
        · rcases hf1 with ⟨_, rfl, rfl, rfl⟩ | ⟨_, rfl, rfl, rfl⟩ | ⟨_, rfl, rfl, rfl⟩ <;> rw [k5 4 (by simp), a1] <;> simp [ud_at]
        · rcases hf1 with ⟨_, rfl, rfl, rfl⟩ | ⟨_, rfl, rfl, rfl⟩ | ⟨_, rfl, rfl, rfl⟩ <;> rw [k5 7 (by simp), a2] <;> simp [ud_at]
        · rcases hf1 with ⟨_, rfl, rfl, rfl⟩ | ⟨_, rfl, rfl, rfl⟩ | ⟨_, rfl, rfl, rfl⟩
          · simp [ud_at]
          · rw [k5 9 (by simp), a3]; simp [ud_at]
          · rw [k5 9 (by simp), a3]; simp [ud_at]
        · rcases hf1 with ⟨_, rfl, rfl, rfl⟩ | ⟨_, rfl, rfl, rfl⟩ | ⟨_, rfl, rfl, rfl⟩
          · rw [k5 10 (by simp), a4]; simp [ud_at]
          · simp [ud_at]
          · rw [k5 10 (by simp), a4]; simp [ud_at]
        · rcases hf1 with ⟨_, rfl, rfl, rfl⟩ | ⟨_, rfl, rfl, rfl⟩ | ⟨_, rfl, rfl, rfl⟩
          · rw [k5 11 (by simp), a5]; simp [ud_at]
          · rw [k5 11 (by simp), a5]; simp [ud_at]
          · simp [ud_at]
        · rw [hfr.1 (w + 1) (by simp <;> omega), hfr.1 (w + 2) (by simp <;> omega), hfr.1 (w + 3) (by simp <;> omega)]
          simpa [ud_at] using aR i hi
        · rw [hfr.1 (w + 4) (by simp <;> omega), hfr.1 (w + 5) (by simp <;> omega)]
          simpa [ud_at] using aD i hi
        · rw [hfr.1 (w + 6) (by simp <;> omega)]
          simpa [ud_at] using aS i hi
      · obtain ⟨m4, m5, m6⟩ := hM
        unfold mkC
        rcases hf1 with ⟨rfl, _, rfl, rfl⟩ | ⟨rfl, _, rfl, rfl⟩ | ⟨rfl, _, rfl, rfl⟩
        · rw [k4 5 (by simp), k4 6 (by simp), k3, m5, m6]; simp [ud_at]
        · rw [k4 4 (by simp), k4 6 (by simp), k3, m4, m6]; simp [ud_at]
        · rw [k4 4 (by simp), k4 5 (by simp), k3, m4, m5]; simp [ud_at]
theorem bd_culprit {w : Nat} {μ : Mem} {x : Int32} {m : Mem} (hR : RI w μ) (q : gi μ 2 (gn μ 1 3) = 99) (h : post_X6_readCulprit w μ x m) : bdC w μ x m := by
  have q1 : ¬ gi μ 2 (gn μ 1 3) = 114 := by rw [q]; decide
  have q2 : ¬ gi μ 2 (gn μ 1 3) = 100 := by rw [q]; decide
  have q3 : ¬ gi μ 2 (gn μ 1 3) = 115 := by rw [q]; decide
  refine bd_one hR (Or.inl ⟨rfl, rfl, rfl, rfl⟩) (fun D b hA => ?_) (fun D b D' hA => ?_) h
  · unfold BdF; simp only [if_neg q1, if_neg q2, if_neg q3, if_pos q, hA.2.2.1]
  · unfold BdR; simp only [if_neg q1, if_neg q2, if_neg q3, if_pos q, hA.2.2.1]
theorem bd_walk {w : Nat} {μ : Mem} {x : Int32} {m : Mem} (hR : RI w μ) (q : gi μ 2 (gn μ 1 3) = 119) (h : post_X6_readWalk w μ x m) : bdC w μ x m := by
  have q1 : ¬ gi μ 2 (gn μ 1 3) = 114 := by rw [q]; decide
  have q2 : ¬ gi μ 2 (gn μ 1 3) = 100 := by rw [q]; decide
  have q3 : ¬ gi μ 2 (gn μ 1 3) = 115 := by rw [q]; decide
  have q4 : ¬ gi μ 2 (gn μ 1 3) = 99 := by rw [q]; decide
  refine bd_one hR (Or.inr (Or.inl ⟨rfl, rfl, rfl, rfl⟩)) (fun D b hA => ?_) (fun D b D' hA => ?_) h
  · unfold BdF; simp only [if_neg q1, if_neg q2, if_neg q3, if_neg q4, if_pos q]
  · unfold BdR; simp only [if_neg q1, if_neg q2, if_neg q3, if_neg q4, if_pos q]
theorem bd_night {w : Nat} {μ : Mem} {x : Int32} {m : Mem} (hR : RI w μ) (q : gi μ 2 (gn μ 1 3) = 110) (h : post_X6_readNight w μ x m) : bdC w μ x m := by
  have q1 : ¬ gi μ 2 (gn μ 1 3) = 114 := by rw [q]; decide
  have q2 : ¬ gi μ 2 (gn μ 1 3) = 100 := by rw [q]; decide
  have q3 : ¬ gi μ 2 (gn μ 1 3) = 115 := by rw [q]; decide
  have q4 : ¬ gi μ 2 (gn μ 1 3) = 99 := by rw [q]; decide
  have q5 : ¬ gi μ 2 (gn μ 1 3) = 119 := by rw [q]; decide
  refine bd_one hR (Or.inr (Or.inr ⟨rfl, rfl, rfl, rfl⟩)) (fun D b hA => ?_) (fun D b D' hA => ?_) h
  · unfold BdF; simp only [if_neg q1, if_neg q2, if_neg q3, if_neg q4, if_neg q5, if_pos q]
  · unfold BdR; simp only [if_neg q1, if_neg q2, if_neg q3, if_neg q4, if_neg q5, if_pos q]
def S_X6_readItem : Tr := fun av μ P => ∃ (w : Nat), av = [.ref 1, .ref w] ∧ (w = 3 ∨ w = 10) ∧ pre_X6_readItem w μ ∧ ∀ (x : Int32) (m : Mem), post_X6_readItem w μ x m → P (some (.int x)) m
def vc_X6_readItem_0 (w : Nat)  (μ : Mem) (R : Int32 → Mem → Prop)  : Prop :=
  vp_in (gi μ 1 3) 200 ∧ (((gi μ 2 (Int32.toNatClampNeg (gi μ 1 3))) = 99 → (pre_X6_readCulprit w μ ∧ ∀ (x3 : Int32) (μ4 : Mem), post_X6_readCulprit w μ x3 μ4 → ((x3 = 0 → R 0 μ4) ∧ (¬ x3 = 0 → (pre_X6_readEnd  μ4 ∧ ∀ (x7 : Int32) (μ8 : Mem), post_X6_readEnd  μ4 x7 μ8 → ((x7 = 0 → R 0 μ8) ∧ (¬ x7 = 0 → R 1 μ8))))))) ∧ (¬ (gi μ 2 (Int32.toNatClampNeg (gi μ 1 3))) = 99 → (((gi μ 2 (Int32.toNatClampNeg (gi μ 1 3))) = 100 → (pre_X6_readDoing w μ ∧ ∀ (x12 : Int32) (μ13 : Mem), post_X6_readDoing w μ x12 μ13 → ((x12 = 0 → R 0 μ13) ∧ (¬ x12 = 0 → (pre_X6_readEnd  μ13 ∧ ∀ (x16 : Int32) (μ17 : Mem), post_X6_readEnd  μ13 x16 μ17 → ((x16 = 0 → R 0 μ17) ∧ (¬ x16 = 0 → R 1 μ17))))))) ∧ (¬ (gi μ 2 (Int32.toNatClampNeg (gi μ 1 3))) = 100 → (((gi μ 2 (Int32.toNatClampNeg (gi μ 1 3))) = 110 → (pre_X6_readNight w μ ∧ ∀ (x21 : Int32) (μ22 : Mem), post_X6_readNight w μ x21 μ22 → ((x21 = 0 → R 0 μ22) ∧ (¬ x21 = 0 → (pre_X6_readEnd  μ22 ∧ ∀ (x25 : Int32) (μ26 : Mem), post_X6_readEnd  μ22 x25 μ26 → ((x25 = 0 → R 0 μ26) ∧ (¬ x25 = 0 → R 1 μ26))))))) ∧ (¬ (gi μ 2 (Int32.toNatClampNeg (gi μ 1 3))) = 110 → (((gi μ 2 (Int32.toNatClampNeg (gi μ 1 3))) = 114 → (pre_X6_readRoom w μ ∧ ∀ (x30 : Int32) (μ31 : Mem), post_X6_readRoom w μ x30 μ31 → ((x30 = 0 → R 0 μ31) ∧ (¬ x30 = 0 → (pre_X6_readEnd  μ31 ∧ ∀ (x34 : Int32) (μ35 : Mem), post_X6_readEnd  μ31 x34 μ35 → ((x34 = 0 → R 0 μ35) ∧ (¬ x34 = 0 → R 1 μ35))))))) ∧ (¬ (gi μ 2 (Int32.toNatClampNeg (gi μ 1 3))) = 114 → (((gi μ 2 (Int32.toNatClampNeg (gi μ 1 3))) = 115 → (pre_X6_readSuspect w μ ∧ ∀ (x39 : Int32) (μ40 : Mem), post_X6_readSuspect w μ x39 μ40 → ((x39 = 0 → R 0 μ40) ∧ (¬ x39 = 0 → (pre_X6_readEnd  μ40 ∧ ∀ (x43 : Int32) (μ44 : Mem), post_X6_readEnd  μ40 x43 μ44 → ((x43 = 0 → R 0 μ44) ∧ (¬ x43 = 0 → R 1 μ44))))))) ∧ (¬ (gi μ 2 (Int32.toNatClampNeg (gi μ 1 3))) = 115 → (((gi μ 2 (Int32.toNatClampNeg (gi μ 1 3))) = 119 → (pre_X6_readWalk w μ ∧ ∀ (x48 : Int32) (μ49 : Mem), post_X6_readWalk w μ x48 μ49 → ((x48 = 0 → R 0 μ49) ∧ (¬ x48 = 0 → (pre_X6_readEnd  μ49 ∧ ∀ (x52 : Int32) (μ53 : Mem), post_X6_readEnd  μ49 x52 μ53 → ((x52 = 0 → R 0 μ53) ∧ (¬ x52 = 0 → R 1 μ53))))))) ∧ (¬ (gi μ 2 (Int32.toNatClampNeg (gi μ 1 3))) = 119 → (pre_X6_failsAt (gi μ 1 3) μ ∧ ∀ (x56 : Int32) (μ57 : Mem), post_X6_failsAt (gi μ 1 3) μ x56 μ57 → (x56 = 0 ∨ x56 = 1) ∧ R x56 μ57)))))))))))))
set_option maxRecDepth 20000 in
set_option maxHeartbeats 4000000 in
theorem wk_X6_readItem_0 {X : XT} {P : Post} (hO : OkM X cX6_readItem RX6 3 (some .boolean) P) (hn : xn X = 2) (w : Nat) (hw : w = 3 ∨ w = 10)  (μ : Mem) {R : Int32 → Mem → Prop} (hR : ∀ x m, R x m → P (some (.int x)) m)    (h : vc_X6_readItem_0 w  μ R ) : V X 0 [some (.ref 1), some (.ref w)] [] μ := by
  have hX := hO.1
  unfold vc_X6_readItem_0 at h
  refine v_aload_n hX dX6_readItem_0 rfl (?_ : V X 1 [some (.ref 1), some (.ref w)] [.ref 1] μ)
  refine v_getr hX (2) fk_X6_9 sh_1 rfl rfl dX6_readItem_1 (?_ : V X 4 [some (.ref 1), some (.ref w)] [.ref 2] μ)
  refine v_aload_n hX dX6_readItem_4 rfl (?_ : V X 5 [some (.ref 1), some (.ref w)] [.ref 1, .ref 2] μ)
  refine v_geti hX fk_X6_27 sh_1 rfl dX6_readItem_5 (?_ : V X 8 [some (.ref 1), some (.ref w)] [.int (gi μ 1 3), .ref 2] μ)
  have hb1 := h.1
  replace h := h.2
  refine w_iald hX (Int32.toNatClampNeg (gi μ 1 3)) sh_2 hb1 rfl dX6_readItem_8 (?_ : V X 9 [some (.ref 1), some (.ref w)] [.int (gi μ 2 (Int32.toNatClampNeg (gi μ 1 3)))] μ)
  by_cases c2 : (gi μ 2 (Int32.toNatClampNeg (gi μ 1 3))) = 99
  · replace h := h.1 c2
    refine v_lookup hX 131 dX6_readItem_9 (by decide) (o := 122) (by rw [c2]; decide) rfl (?_ : V X 131 [some (.ref 1), some (.ref w)] [] μ)
    refine v_aload_n hX dX6_readItem_131 rfl (?_ : V X 132 [some (.ref 1), some (.ref w)] [.ref 1] μ)
    refine v_aload_n hX dX6_readItem_132 rfl (?_ : V X 133 [some (.ref 1), some (.ref w)] [.ref w, .ref 1] μ)
    refine v_callV hX sp_X6_readCulprit ck_X6_readCulprit mk_X6_60 mv_X6_readCulprit sh_1 (by decide) (by decide) [.ref w] [] rfl rfl (Nat.le_of_ble_eq_true rfl) dX6_readItem_133 ⟨w, rfl, hw, h.1, fun x3 μ4 hp5 => (?_ : V X 136 [some (.ref 1), some (.ref w)] [.int x3] μ4)⟩
    replace h := h.2 x3 μ4 hp5
    refine v_if_eq hX 150 dX6_readItem_136 rfl (fun c6 => ?_) (fun c6 => ?_)
    · replace h := h.1 c6
      refine v_iconst hX 0 dX6_readItem_150 rfl (?_ : V X 151 [some (.ref 1), some (.ref w)] [.int 0] μ4)
      exact v_zret hO dX6_readItem_151 (by decide) (hR _ _ h)
    · replace h := h.2 c6
      refine v_aload_n hX dX6_readItem_139 rfl (?_ : V X 140 [some (.ref 1), some (.ref w)] [.ref 1] μ4)
      refine v_callV hX sp_X6_readEnd ck_X6_readEnd mk_X6_50 mv_X6_readEnd sh_1 (by decide) (by decide) [] [] rfl rfl (Nat.le_of_ble_eq_true rfl) dX6_readItem_140 ⟨rfl, h.1, fun x7 μ8 hp9 => (?_ : V X 143 [some (.ref 1), some (.ref w)] [.int x7] μ8)⟩
      replace h := h.2 x7 μ8 hp9
      refine v_if_eq hX 150 dX6_readItem_143 rfl (fun c10 => ?_) (fun c10 => ?_)
      · replace h := h.1 c10
        refine v_iconst hX 0 dX6_readItem_150 rfl (?_ : V X 151 [some (.ref 1), some (.ref w)] [.int 0] μ8)
        exact v_zret hO dX6_readItem_151 (by decide) (hR _ _ h)
      · replace h := h.2 c10
        refine v_iconst hX 1 dX6_readItem_146 rfl (?_ : V X 147 [some (.ref 1), some (.ref w)] [.int 1] μ8)
        refine v_goto hX 151 dX6_readItem_147 rfl (?_ : V X 151 [some (.ref 1), some (.ref w)] [.int 1] μ8)
        exact v_zret hO dX6_readItem_151 (by decide) (hR _ _ h)
  · replace h := h.2 c2
    by_cases c11 : (gi μ 2 (Int32.toNatClampNeg (gi μ 1 3))) = 100
    · replace h := h.1 c11
      refine v_lookup hX 89 dX6_readItem_9 (by decide) (o := 80) (by rw [c11]; decide) rfl (?_ : V X 89 [some (.ref 1), some (.ref w)] [] μ)
      refine v_aload_n hX dX6_readItem_89 rfl (?_ : V X 90 [some (.ref 1), some (.ref w)] [.ref 1] μ)
      refine v_aload_n hX dX6_readItem_90 rfl (?_ : V X 91 [some (.ref 1), some (.ref w)] [.ref w, .ref 1] μ)
      refine v_callV hX sp_X6_readDoing ck_X6_readDoing mk_X6_54 mv_X6_readDoing sh_1 (by decide) (by decide) [.ref w] [] rfl rfl (Nat.le_of_ble_eq_true rfl) dX6_readItem_91 ⟨w, rfl, hw, h.1, fun x12 μ13 hp14 => (?_ : V X 94 [some (.ref 1), some (.ref w)] [.int x12] μ13)⟩
      replace h := h.2 x12 μ13 hp14
      refine v_if_eq hX 108 dX6_readItem_94 rfl (fun c15 => ?_) (fun c15 => ?_)
      · replace h := h.1 c15
        refine v_iconst hX 0 dX6_readItem_108 rfl (?_ : V X 109 [some (.ref 1), some (.ref w)] [.int 0] μ13)
        exact v_zret hO dX6_readItem_109 (by decide) (hR _ _ h)
      · replace h := h.2 c15
        refine v_aload_n hX dX6_readItem_97 rfl (?_ : V X 98 [some (.ref 1), some (.ref w)] [.ref 1] μ13)
        refine v_callV hX sp_X6_readEnd ck_X6_readEnd mk_X6_50 mv_X6_readEnd sh_1 (by decide) (by decide) [] [] rfl rfl (Nat.le_of_ble_eq_true rfl) dX6_readItem_98 ⟨rfl, h.1, fun x16 μ17 hp18 => (?_ : V X 101 [some (.ref 1), some (.ref w)] [.int x16] μ17)⟩
        replace h := h.2 x16 μ17 hp18
        refine v_if_eq hX 108 dX6_readItem_101 rfl (fun c19 => ?_) (fun c19 => ?_)
        · replace h := h.1 c19
          refine v_iconst hX 0 dX6_readItem_108 rfl (?_ : V X 109 [some (.ref 1), some (.ref w)] [.int 0] μ17)
          exact v_zret hO dX6_readItem_109 (by decide) (hR _ _ h)
        · replace h := h.2 c19
          refine v_iconst hX 1 dX6_readItem_104 rfl (?_ : V X 105 [some (.ref 1), some (.ref w)] [.int 1] μ17)
          refine v_goto hX 109 dX6_readItem_105 rfl (?_ : V X 109 [some (.ref 1), some (.ref w)] [.int 1] μ17)
          exact v_zret hO dX6_readItem_109 (by decide) (hR _ _ h)
    · replace h := h.2 c11
      by_cases c20 : (gi μ 2 (Int32.toNatClampNeg (gi μ 1 3))) = 110
      · replace h := h.1 c20
        refine v_lookup hX 173 dX6_readItem_9 (by decide) (o := 164) (by rw [c20]; decide) rfl (?_ : V X 173 [some (.ref 1), some (.ref w)] [] μ)
        refine v_aload_n hX dX6_readItem_173 rfl (?_ : V X 174 [some (.ref 1), some (.ref w)] [.ref 1] μ)
        refine v_aload_n hX dX6_readItem_174 rfl (?_ : V X 175 [some (.ref 1), some (.ref w)] [.ref w, .ref 1] μ)
        refine v_callV hX sp_X6_readNight ck_X6_readNight mk_X6_66 mv_X6_readNight sh_1 (by decide) (by decide) [.ref w] [] rfl rfl (Nat.le_of_ble_eq_true rfl) dX6_readItem_175 ⟨w, rfl, hw, h.1, fun x21 μ22 hp23 => (?_ : V X 178 [some (.ref 1), some (.ref w)] [.int x21] μ22)⟩
        replace h := h.2 x21 μ22 hp23
        refine v_if_eq hX 192 dX6_readItem_178 rfl (fun c24 => ?_) (fun c24 => ?_)
        · replace h := h.1 c24
          refine v_iconst hX 0 dX6_readItem_192 rfl (?_ : V X 193 [some (.ref 1), some (.ref w)] [.int 0] μ22)
          exact v_zret hO dX6_readItem_193 (by decide) (hR _ _ h)
        · replace h := h.2 c24
          refine v_aload_n hX dX6_readItem_181 rfl (?_ : V X 182 [some (.ref 1), some (.ref w)] [.ref 1] μ22)
          refine v_callV hX sp_X6_readEnd ck_X6_readEnd mk_X6_50 mv_X6_readEnd sh_1 (by decide) (by decide) [] [] rfl rfl (Nat.le_of_ble_eq_true rfl) dX6_readItem_182 ⟨rfl, h.1, fun x25 μ26 hp27 => (?_ : V X 185 [some (.ref 1), some (.ref w)] [.int x25] μ26)⟩
          replace h := h.2 x25 μ26 hp27
          refine v_if_eq hX 192 dX6_readItem_185 rfl (fun c28 => ?_) (fun c28 => ?_)
          · replace h := h.1 c28
            refine v_iconst hX 0 dX6_readItem_192 rfl (?_ : V X 193 [some (.ref 1), some (.ref w)] [.int 0] μ26)
            exact v_zret hO dX6_readItem_193 (by decide) (hR _ _ h)
          · replace h := h.2 c28
            refine v_iconst hX 1 dX6_readItem_188 rfl (?_ : V X 189 [some (.ref 1), some (.ref w)] [.int 1] μ26)
            refine v_goto hX 193 dX6_readItem_189 rfl (?_ : V X 193 [some (.ref 1), some (.ref w)] [.int 1] μ26)
            exact v_zret hO dX6_readItem_193 (by decide) (hR _ _ h)
      · replace h := h.2 c20
        by_cases c29 : (gi μ 2 (Int32.toNatClampNeg (gi μ 1 3))) = 114
        · replace h := h.1 c29
          refine v_lookup hX 68 dX6_readItem_9 (by decide) (o := 59) (by rw [c29]; decide) rfl (?_ : V X 68 [some (.ref 1), some (.ref w)] [] μ)
          refine v_aload_n hX dX6_readItem_68 rfl (?_ : V X 69 [some (.ref 1), some (.ref w)] [.ref 1] μ)
          refine v_aload_n hX dX6_readItem_69 rfl (?_ : V X 70 [some (.ref 1), some (.ref w)] [.ref w, .ref 1] μ)
          refine v_callV hX sp_X6_readRoom ck_X6_readRoom mk_X6_47 mv_X6_readRoom sh_1 (by decide) (by decide) [.ref w] [] rfl rfl (Nat.le_of_ble_eq_true rfl) dX6_readItem_70 ⟨w, rfl, hw, h.1, fun x30 μ31 hp32 => (?_ : V X 73 [some (.ref 1), some (.ref w)] [.int x30] μ31)⟩
          replace h := h.2 x30 μ31 hp32
          refine v_if_eq hX 87 dX6_readItem_73 rfl (fun c33 => ?_) (fun c33 => ?_)
          · replace h := h.1 c33
            refine v_iconst hX 0 dX6_readItem_87 rfl (?_ : V X 88 [some (.ref 1), some (.ref w)] [.int 0] μ31)
            exact v_zret hO dX6_readItem_88 (by decide) (hR _ _ h)
          · replace h := h.2 c33
            refine v_aload_n hX dX6_readItem_76 rfl (?_ : V X 77 [some (.ref 1), some (.ref w)] [.ref 1] μ31)
            refine v_callV hX sp_X6_readEnd ck_X6_readEnd mk_X6_50 mv_X6_readEnd sh_1 (by decide) (by decide) [] [] rfl rfl (Nat.le_of_ble_eq_true rfl) dX6_readItem_77 ⟨rfl, h.1, fun x34 μ35 hp36 => (?_ : V X 80 [some (.ref 1), some (.ref w)] [.int x34] μ35)⟩
            replace h := h.2 x34 μ35 hp36
            refine v_if_eq hX 87 dX6_readItem_80 rfl (fun c37 => ?_) (fun c37 => ?_)
            · replace h := h.1 c37
              refine v_iconst hX 0 dX6_readItem_87 rfl (?_ : V X 88 [some (.ref 1), some (.ref w)] [.int 0] μ35)
              exact v_zret hO dX6_readItem_88 (by decide) (hR _ _ h)
            · replace h := h.2 c37
              refine v_iconst hX 1 dX6_readItem_83 rfl (?_ : V X 84 [some (.ref 1), some (.ref w)] [.int 1] μ35)
              refine v_goto hX 88 dX6_readItem_84 rfl (?_ : V X 88 [some (.ref 1), some (.ref w)] [.int 1] μ35)
              exact v_zret hO dX6_readItem_88 (by decide) (hR _ _ h)
        · replace h := h.2 c29
          by_cases c38 : (gi μ 2 (Int32.toNatClampNeg (gi μ 1 3))) = 115
          · replace h := h.1 c38
            refine v_lookup hX 110 dX6_readItem_9 (by decide) (o := 101) (by rw [c38]; decide) rfl (?_ : V X 110 [some (.ref 1), some (.ref w)] [] μ)
            refine v_aload_n hX dX6_readItem_110 rfl (?_ : V X 111 [some (.ref 1), some (.ref w)] [.ref 1] μ)
            refine v_aload_n hX dX6_readItem_111 rfl (?_ : V X 112 [some (.ref 1), some (.ref w)] [.ref w, .ref 1] μ)
            refine v_callV hX sp_X6_readSuspect ck_X6_readSuspect mk_X6_57 mv_X6_readSuspect sh_1 (by decide) (by decide) [.ref w] [] rfl rfl (Nat.le_of_ble_eq_true rfl) dX6_readItem_112 ⟨w, rfl, hw, h.1, fun x39 μ40 hp41 => (?_ : V X 115 [some (.ref 1), some (.ref w)] [.int x39] μ40)⟩
            replace h := h.2 x39 μ40 hp41
            refine v_if_eq hX 129 dX6_readItem_115 rfl (fun c42 => ?_) (fun c42 => ?_)
            · replace h := h.1 c42
              refine v_iconst hX 0 dX6_readItem_129 rfl (?_ : V X 130 [some (.ref 1), some (.ref w)] [.int 0] μ40)
              exact v_zret hO dX6_readItem_130 (by decide) (hR _ _ h)
            · replace h := h.2 c42
              refine v_aload_n hX dX6_readItem_118 rfl (?_ : V X 119 [some (.ref 1), some (.ref w)] [.ref 1] μ40)
              refine v_callV hX sp_X6_readEnd ck_X6_readEnd mk_X6_50 mv_X6_readEnd sh_1 (by decide) (by decide) [] [] rfl rfl (Nat.le_of_ble_eq_true rfl) dX6_readItem_119 ⟨rfl, h.1, fun x43 μ44 hp45 => (?_ : V X 122 [some (.ref 1), some (.ref w)] [.int x43] μ44)⟩
              replace h := h.2 x43 μ44 hp45
              refine v_if_eq hX 129 dX6_readItem_122 rfl (fun c46 => ?_) (fun c46 => ?_)
              · replace h := h.1 c46
                refine v_iconst hX 0 dX6_readItem_129 rfl (?_ : V X 130 [some (.ref 1), some (.ref w)] [.int 0] μ44)
                exact v_zret hO dX6_readItem_130 (by decide) (hR _ _ h)
              · replace h := h.2 c46
                refine v_iconst hX 1 dX6_readItem_125 rfl (?_ : V X 126 [some (.ref 1), some (.ref w)] [.int 1] μ44)
                refine v_goto hX 130 dX6_readItem_126 rfl (?_ : V X 130 [some (.ref 1), some (.ref w)] [.int 1] μ44)
                exact v_zret hO dX6_readItem_130 (by decide) (hR _ _ h)
          · replace h := h.2 c38
            by_cases c47 : (gi μ 2 (Int32.toNatClampNeg (gi μ 1 3))) = 119
            · replace h := h.1 c47
              refine v_lookup hX 152 dX6_readItem_9 (by decide) (o := 143) (by rw [c47]; decide) rfl (?_ : V X 152 [some (.ref 1), some (.ref w)] [] μ)
              refine v_aload_n hX dX6_readItem_152 rfl (?_ : V X 153 [some (.ref 1), some (.ref w)] [.ref 1] μ)
              refine v_aload_n hX dX6_readItem_153 rfl (?_ : V X 154 [some (.ref 1), some (.ref w)] [.ref w, .ref 1] μ)
              refine v_callV hX sp_X6_readWalk ck_X6_readWalk mk_X6_63 mv_X6_readWalk sh_1 (by decide) (by decide) [.ref w] [] rfl rfl (Nat.le_of_ble_eq_true rfl) dX6_readItem_154 ⟨w, rfl, hw, h.1, fun x48 μ49 hp50 => (?_ : V X 157 [some (.ref 1), some (.ref w)] [.int x48] μ49)⟩
              replace h := h.2 x48 μ49 hp50
              refine v_if_eq hX 171 dX6_readItem_157 rfl (fun c51 => ?_) (fun c51 => ?_)
              · replace h := h.1 c51
                refine v_iconst hX 0 dX6_readItem_171 rfl (?_ : V X 172 [some (.ref 1), some (.ref w)] [.int 0] μ49)
                exact v_zret hO dX6_readItem_172 (by decide) (hR _ _ h)
              · replace h := h.2 c51
                refine v_aload_n hX dX6_readItem_160 rfl (?_ : V X 161 [some (.ref 1), some (.ref w)] [.ref 1] μ49)
                refine v_callV hX sp_X6_readEnd ck_X6_readEnd mk_X6_50 mv_X6_readEnd sh_1 (by decide) (by decide) [] [] rfl rfl (Nat.le_of_ble_eq_true rfl) dX6_readItem_161 ⟨rfl, h.1, fun x52 μ53 hp54 => (?_ : V X 164 [some (.ref 1), some (.ref w)] [.int x52] μ53)⟩
                replace h := h.2 x52 μ53 hp54
                refine v_if_eq hX 171 dX6_readItem_164 rfl (fun c55 => ?_) (fun c55 => ?_)
                · replace h := h.1 c55
                  refine v_iconst hX 0 dX6_readItem_171 rfl (?_ : V X 172 [some (.ref 1), some (.ref w)] [.int 0] μ53)
                  exact v_zret hO dX6_readItem_172 (by decide) (hR _ _ h)
                · replace h := h.2 c55
                  refine v_iconst hX 1 dX6_readItem_167 rfl (?_ : V X 168 [some (.ref 1), some (.ref w)] [.int 1] μ53)
                  refine v_goto hX 172 dX6_readItem_168 rfl (?_ : V X 172 [some (.ref 1), some (.ref w)] [.int 1] μ53)
                  exact v_zret hO dX6_readItem_172 (by decide) (hR _ _ h)
            · replace h := h.2 c47
              refine v_lookup hX 194 dX6_readItem_9 (by decide) (o := 185) (by show Op.lookupswitch.offset [(99, 122), (100, 80), (110, 164), (114, 59), (115, 101), (119, 143)] _ _ = _; rw [lv_osw (a := 99) c2 rfl, lv_osw (a := 100) c11 rfl, lv_osw (a := 110) c20 rfl, lv_osw (a := 114) c29 rfl, lv_osw (a := 115) c38 rfl, lv_osw (a := 119) c47 rfl]; rfl) rfl (?_ : V X 194 [some (.ref 1), some (.ref w)] [] μ)
              refine v_aload_n hX dX6_readItem_194 rfl (?_ : V X 195 [some (.ref 1), some (.ref w)] [.ref 1] μ)
              refine v_aload_n hX dX6_readItem_195 rfl (?_ : V X 196 [some (.ref 1), some (.ref w)] [.ref 1, .ref 1] μ)
              refine v_geti hX fk_X6_27 sh_1 rfl dX6_readItem_196 (?_ : V X 199 [some (.ref 1), some (.ref w)] [.int (gi μ 1 3), .ref 1] μ)
              refine v_callV hX sp_X6_failsAt ck_X6_failsAt mk_X6_69 mv_X6_failsAt sh_1 (by decide) (by decide) [.int (gi μ 1 3)] [] rfl rfl (Nat.le_of_ble_eq_true rfl) dX6_readItem_199 ⟨(gi μ 1 3), rfl, h.1, fun x56 μ57 hp58 => (?_ : V X 202 [some (.ref 1), some (.ref w)] [.int x56] μ57)⟩
              replace h := h.2 x56 μ57 hp58
              exact v_zret hO dX6_readItem_202 h.1 (hR _ _ h.2)
set_option maxRecDepth 20000 in
set_option maxHeartbeats 1000000 in
theorem vp_X6_readItem_0 (w : Nat) (hw : w = 3 ∨ w = 10) (μ : Mem) (hpre : pre_X6_readItem w μ) : vc_X6_readItem_0 w μ (post_X6_readItem w μ)  := by
  unfold vc_X6_readItem_0
  obtain ⟨hR, a0, a4, a7⟩ := hpre
  have hlt := hR.2.2
  have h200 := hR.2.1.1.2
  have eg : (gi μ 1 3).toNatClampNeg = gn μ 1 3 := rfl
  rw [eg]
  refine ⟨by rw [hR.2.1.2.1.1]; exact vp_in_nI (by omega) (by omega), fun q => ⟨⟨hR, a7⟩, fun x3 m4 h => item_fin hR (bd_culprit hR q h)⟩, fun n1 => ⟨fun q => ⟨⟨hR, a4⟩, fun x3 m4 h => item_fin hR (bd_doing hR q h)⟩, fun n2 => ⟨fun q => ⟨hR, fun x3 m4 h => item_fin hR (bd_night hR q h)⟩, fun n3 => ⟨fun q => ⟨⟨hR, a0⟩, fun x3 m4 h => item_fin hR (bd_room hR q h)⟩, fun n4 => ⟨fun q => ⟨⟨hR, a7⟩, fun x3 m4 h => item_fin hR (bd_suspect hR q h)⟩, fun n5 => ⟨fun q => ⟨hR, fun x3 m4 h => item_fin hR (bd_walk hR q h)⟩, fun n6 => ⟨trivial, ?_⟩⟩⟩⟩⟩⟩⟩
  rintro x m ⟨rfl, rfl⟩
  refine ⟨Or.inl rfl, ⟨fr_ui (by simp), f1_ui (by simp)⟩, Or.inl rfl, fun D _ _ _ => Or.inl ⟨rfl, gn μ 1 3, Or.inl ?_, ?_⟩⟩
  · unfold BdF
    rw [if_neg n4, if_neg n2, if_neg n5, if_neg n1, if_neg n6, if_neg n3]
  · rw [gi_ui, if_pos ⟨rfl, rfl⟩]; exact at_nI hR.2.1
theorem sp_X6_readItem : Sp yX6_readItem cX6_readItem 2 (some .boolean) 3 S_X6_readItem := by
  refine sp_of (by decide) (fun av μ P h => ?_) ?_
  · obtain ⟨w, rfl, -⟩ := h
    refine ⟨Nat.le_of_ble_eq_true rfl, fun v hv => ?_⟩
    simp only [List.mem_cons, List.not_mem_nil, or_false] at hv
    rcases hv with rfl | rfl <;> rfl
  · rintro X P hO _ μ ⟨w, rfl, hw, hpre, hpost⟩ hn
    exact wk_X6_readItem_0 hO hn w hw μ hpost (vp_X6_readItem_0 w hw μ hpre)

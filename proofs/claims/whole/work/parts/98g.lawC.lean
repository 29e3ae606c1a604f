/-! house, keep, back, undo, goes, asks, does -/
theorem inv_put {μ m : Mem} (hs : hsP μ) (hT : InvT μ) (hl : gl μ 75 1 = gl μ 0 12) {D : Dr} (hH : InvH μ D) (hF : InvF μ (dn D 1)) (e2 : m.2 = μ.2) (e : ∀ c, c < 17 → (c = 0 → False) → ∀ k, gi m c k = gi μ c k) (eF : ∀ c, 71 ≤ c → c ≤ 73 → ∀ k, gi m c k = gi μ c k) (eM : ∀ c, (76 ≤ c ∧ c ≤ 83) ∨ (88 ≤ c ∧ c ≤ 89) → ∀ k, gi m c k = gi μ c k) (e75 : ∀ k, k ≠ 0 → k ≠ 21 → gi m 75 k = gi μ 75 k)
    (hSc : Sc (dn D 0) (dn D 1) m 17 (gi m 84)) (hP : InvP m (dn D 0) (dn D 1)) (hIm : InvI m (dn D 0) (dn D 1)) : Inv m := by
  have hw : gp μ 1 = 3 ∨ gp μ 1 = 10 := by rcases hs with ⟨z, _⟩ | ⟨z, _⟩ <;> omega
  exact ⟨by unfold hsP; rw [gp_2 e2, gp_2 e2]; exact hs, fT hT (e 1 (by omega) (by omega) 1) (e75 3 (by omega) (by omega)) (fun k => e 2 (by omega) (by omega) k) (fun k => eM 76 (by omega) k), by rw [gl_2 e2, gl_2 e2]; exact hl, D, fH hH hw (gp_2 e2 1) (fun c h1 h2 k => e c (by omega) (by omega) k) (fun k _ => ⟨eM 77 (by omega) k, eM 83 (by omega) k⟩) (fun k _ => ⟨eM 79 (by omega) k, eM 80 (by omega) k, eM 81 (by omega) k, eM 82 (by omega) k⟩), hSc, hP, hIm, fF hF eF (e75 24 (by omega) (by omega)) (fun k => eM 88 (by omega) k) (fun k => eM 89 (by omega) k)⟩
theorem slv_3 : ∀ b, b ≤ 3 → ∀ j, j < 2 → (slvI (nI b) (nI j) = 0 ∨ slvI (nI b) (nI j) = 1) ∧ ∃ b', b' ≤ 3 ∧ nI b ||| (1 <<< (nI j &&& 31)) = nI b' ∧ slvI (nI b') (nI j) = 1 ∧ ∀ i, i < 2 → i ≠ j → slvI (nI b') (nI i) = slvI (nI b) (nI i) := by decide +kernel
theorem st_keep {μ : Mem} (hI : Inv μ) (p1 : Int32) : pre_X8_keep p1 μ ∧ ∀ x m, post_X8_keep p1 μ x m → pre_X9_keep p1 m ∧ ∀ y m', post_X9_keep p1 m y m' → x = y ∧ Inv m' := by
  have hI0 := hI
  obtain ⟨hs, hT, hl, D, hH, hSc, hP, ⟨⟨b, hb, hb3⟩, i2⟩, hF⟩ := hI
  have hR := (ok5 hH.1).1
  refine ⟨trivial, fun x m h => ?_⟩
  unfold post_X8_keep at h
  by_cases z : p1 < 0 ∨ 2 ≤ p1
  · rw [if_pos z] at h
    obtain ⟨hx, rfl⟩ := h
    refine ⟨trivial, fun y m' h' => ?_⟩
    unfold post_X9_keep at h'
    rw [if_pos z] at h'
    obtain ⟨hy, rfl⟩ := h'
    exact ⟨by rw [hx, hy], inv_kp hI0 (kp_0 _)⟩
  rw [if_neg z] at h
  obtain ⟨hx, hf, hc, h6⟩ := h
  obtain ⟨pe, pl⟩ := out_R (n := 2) (by omega) z
  generalize p1.toNatClampNeg = j at *
  refine ⟨trivial, fun y m' h' => ?_⟩
  unfold post_X9_keep at h'
  rw [if_neg z, pe, nI_clamp (by omega)] at h'
  obtain ⟨hy, hf', h75, h85, h85', h86⟩ := h'
  have e : ∀ c, c ≠ 0 → ¬ (53 ≤ c ∧ c ≤ 58) → ∀ k, gi m c k = gi μ c k := fun c h1 h2 k => hf.1 c (by simp <;> omega) k
  have e' : ∀ c, c ≠ 75 → c ≠ 85 → c ≠ 86 → ∀ k, gi m' c k = gi m c k := fun c h1 h2 h3 k => hf'.1 c (by simp <;> omega) k
  refine ⟨by rw [hx, hy, e 84 (by omega) (by omega)]; exact hSc.2.2.2.1, ?_⟩
  obtain ⟨_, b', hb', eb, eb1, eb2⟩ := slv_3 b hb3 j pl
  have e06 : gi m' 0 6 = nI b' := by rw [e' 0 (by omega) (by omega) (by omega), h6, hb, pe, eb]
  refine inv_put hs hT hl hH hF (hf'.2.trans hf.2) (fun c h1 h2 k => by rw [e' c (by omega) (by omega) (by omega), e c (fun q => h2 q) (by omega)]) (fun c h1 h2 k => by rw [e' c (by omega) (by omega) (by omega), e c (by omega) (by omega)]) (fun c h1 k => by rw [e' c (by omega) (by omega) (by omega), e c (by omega) (by omega)]) (fun k h1 h2 => by rw [h75 k h1, e 75 (by omega) (by omega)]) ?_ ?_ ?_
  · exact sc_c hSc hR (fun k _ => by rw [e' 17 (by omega) (by omega) (by omega), e 17 (by omega) (by omega)]) (fun k _ => by rw [e' 18 (by omega) (by omega) (by omega), e 18 (by omega) (by omega)]) (fun k _ => by rw [e' 19 (by omega) (by omega) (by omega), e 19 (by omega) (by omega)]) (fun k _ => by rw [e' 84 (by omega) (by omega) (by omega), e 84 (by omega) (by omega)])
  · exact fP hP hR (fun c h1 h2 k => by rw [e' c (by omega) (by omega) (by omega), e c (by omega) (by omega)]) (by rw [h75 21 (by omega), e 75 (by omega) (by omega)]) (fun k => by rw [e' 87 (by omega) (by omega) (by omega), e 87 (by omega) (by omega)])
  · refine ⟨⟨b', e06, hb'⟩, fun i hi => ?_⟩
    rw [e06, h86]
    by_cases q : i = j
    · subst q
      rw [if_pos rfl]
      refine ⟨eb1.symm, fun _ => sc_c hSc hR (fun k hk => ?_) (fun k hk => ?_) (fun k hk => ?_) (fun k hk => ?_)⟩
      · rw [e' _ (by omega) (by omega) (by omega)]; exact hc.1 k hk
      · rw [e' _ (by omega) (by omega) (by omega)]; exact hc.2.1 k hk
      · rw [e' _ (by omega) (by omega) (by omega)]; exact hc.2.2 k hk
      · rw [h85 k hk, e 84 (by omega) (by omega)]
    · rw [if_neg q, eb2 i hi q, e 86 (by omega) (by omega), ← hb]
      refine ⟨(i2 i hi).1, fun y => sc_c ((i2 i hi).2 y) hR (fun k hk => ?_) (fun k hk => ?_) (fun k hk => ?_) (fun k hk => ?_)⟩
      · rw [e' _ (by omega) (by omega) (by omega), hf.1 _ (by simp <;> omega)]
      · rw [e' _ (by omega) (by omega) (by omega), hf.1 _ (by simp <;> omega)]
      · rw [e' _ (by omega) (by omega) (by omega), hf.1 _ (by simp <;> omega)]
      · rw [h85' _ (by omega), e 85 (by omega) (by omega)]
theorem st_back {μ : Mem} (hI : Inv μ) (p1 : Int32) : pre_X8_back p1 μ ∧ ∀ x m, post_X8_back p1 μ x m → pre_X9_back p1 m ∧ ∀ y m', post_X9_back p1 m y m' → x = y ∧ Inv m' := by
  have hI0 := hI
  obtain ⟨hs, hT, hl, D, hH, hSc, hP, ⟨⟨b, hb, hb3⟩, i2⟩, hF⟩ := hI
  have hR := (ok5 hH.1).1
  refine ⟨trivial, fun x m h => ?_⟩
  unfold post_X8_back at h
  by_cases z : p1 < 0 ∨ 2 ≤ p1
  · rw [if_pos z] at h
    obtain ⟨hx, rfl⟩ := h
    refine ⟨trivial, fun y m' h' => ?_⟩
    unfold post_X9_back at h'
    rw [if_pos z] at h'
    obtain ⟨hy, rfl⟩ := h'
    exact ⟨by rw [hx, hy], inv_kp hI0 (kp_0 _)⟩
  rw [if_neg z] at h
  obtain ⟨pe, pl⟩ := out_R (n := 2) (by omega) z
  generalize p1.toNatClampNeg = j at *
  subst pe
  by_cases z2 : slvI (gi μ 0 6) (nI j) = 0
  · rw [if_pos z2] at h
    obtain ⟨hx, rfl⟩ := h
    refine ⟨trivial, fun y m' h' => ?_⟩
    unfold post_X9_back at h'
    rw [if_neg z, nI_clamp (by omega), (i2 j pl).1, if_pos z2] at h'
    obtain ⟨hy, rfl⟩ := h'
    exact ⟨by rw [hx, hy], inv_kp hI0 (kp_0 _)⟩
  rw [if_neg z2] at h
  obtain ⟨hx, hf, hc, h201, h202⟩ := h
  have e : ∀ c, ¬ (17 ≤ c ∧ c ≤ 20) → ∀ k, gi m c k = gi μ c k := fun c h2 k => hf.1 c (by simp <;> omega) k
  refine ⟨trivial, fun y m' h' => ?_⟩
  unfold post_X9_back at h'
  rw [if_neg z, nI_clamp (by omega), e 86 (by omega), (i2 j pl).1, if_neg z2] at h'
  obtain ⟨hy, hf', h75, h21, h84⟩ := h'
  have e' : ∀ c, c ≠ 75 → c ≠ 84 → ∀ k, gi m' c k = gi m c k := fun c h1 h2 k => hf'.1 c (by simp <;> omega) k
  have z3 : slvI (gi μ 0 6) (nI j) = 1 := by
    rw [hb] at z2 ⊢
    rcases (slv_3 b hb3 j pl).1 with q | q
    · exact absurd q z2
    · exact q
  have sj := (i2 j pl).2 z3
  have hS' : Sc (dn D 0) (dn D 1) m' 17 (gi m' 84) := sc_c sj hR (fun k hk => by rw [e' 17 (by omega) (by omega)]; exact hc.1 k hk) (fun k hk => by rw [e' 18 (by omega) (by omega)]; exact hc.2.1 k hk) (fun k hk => by rw [e' 19 (by omega) (by omega)]; exact hc.2.2 k hk) (fun k hk => by rw [h84 k hk, e 85 (by omega)])
  refine ⟨?_, ?_⟩
  · rw [hx, hy, ← hS'.2.2.2.1, e' 17 (by omega) (by omega)]
  · refine inv_put hs hT hl hH hF (hf'.2.trans hf.2) (fun c h1 h2 k => by rw [e' c (by omega) (by omega), e c (by omega)]) (fun c h1 h2 k => by rw [e' c (by omega) (by omega), e c (by omega)]) (fun c h1 k => by rw [e' c (by omega) (by omega), e c (by omega)]) (fun k h1 h2 => by rw [h75 k h1 h2, e 75 (by omega)]) hS' ?_ ?_
    · have q1 : gi m' 20 1 = gi μ 20 1 := by rw [e' 20 (by omega) (by omega), h201]
      have q2 : gi m' 20 2 = nI 0 := by rw [e' 20 (by omega) (by omega), h202]; rfl
      refine ⟨by have := hP.1; unfold isN gn at this ⊢; rw [q1]; exact this, isN_of q2 (by omega) (by omega), by rw [h21, q2]; rfl, ?_⟩
      rw [gn_of q2 (by omega)]
      intro i hi
      omega
    · exact fI ⟨⟨b, hb, hb3⟩, i2⟩ hR (by rw [e' 0 (by omega) (by omega), e 0 (by omega)]) (fun c h1 h2 k => by rw [e' c (by omega) (by omega), e c (by omega)]) (fun k => by rw [e' 85 (by omega) (by omega), e 85 (by omega)]) (fun k => by rw [e' 86 (by omega) (by omega), e 86 (by omega)])
theorem st_undo {μ : Mem} (hI : Inv μ) : pre_X8_undo μ ∧ ∀ x m, post_X8_undo μ x m → pre_X9_undo m ∧ ∀ y m', post_X9_undo m y m' → x = y ∧ Inv m' := by
  have hI0 := hI
  obtain ⟨hs, hT, hl, D, hH, hSc, ⟨p1, p2, p3, p4⟩, hIm, hF⟩ := hI
  have hR := (ok5 hH.1).1
  have b1 := p1.2
  have b2 := p2.2
  have g : gn μ 75 21 = gn μ 20 2 := by unfold gn; rw [p3]
  refine ⟨⟨p1, p2⟩, fun x m h => ?_⟩
  unfold post_X8_undo at h
  by_cases z : gn μ 20 2 = 0
  · rw [if_pos z] at h
    obtain ⟨hx, rfl⟩ := h
    refine ⟨by unfold pre_X9_undo isN; rw [g, p3]; exact p2, fun y m' h' => ?_⟩
    unfold post_X9_undo at h'
    rw [g, if_pos z] at h'
    obtain ⟨hy, rfl⟩ := h'
    exact ⟨by rw [hx, hy], inv_kp hI0 (kp_0 _)⟩
  rw [if_neg z] at h
  obtain ⟨hx, hf, hc, h201, h202⟩ := h
  have e : ∀ c, ¬ (17 ≤ c ∧ c ≤ 20) → ∀ k, gi m c k = gi μ c k := fun c h2 k => hf.1 c (by simp <;> omega) k
  have gm : gn m 75 21 = gn μ 20 2 := by rw [← g]; unfold gn; rw [e 75 (by omega)]
  refine ⟨by unfold pre_X9_undo isN; rw [gm, e 75 (by omega), p3]; exact p2, fun y m' h' => ?_⟩
  unfold post_X9_undo at h'
  rw [gm, if_neg z] at h'
  obtain ⟨hy, hf', h75, h21, h84⟩ := h'
  have e' : ∀ c, c ≠ 75 → c ≠ 84 → ∀ k, gi m' c k = gi m c k := fun c h1 h2 k => hf'.1 c (by simp <;> omega) k
  refine ⟨by rw [hx, hy], ?_⟩
  have sj := p4 (gn μ 20 2 - 1) (by omega)
  rw [show (gn μ 20 1 + 10 - gn μ 20 2 + (gn μ 20 2 - 1)) % 10 = (gn μ 20 1 + 9) % 10 from by omega] at sj
  have hS' : Sc (dn D 0) (dn D 1) m' 17 (gi m' 84) := sc_c sj hR (fun k hk => by rw [e' 17 (by omega) (by omega)]; exact hc.1 k hk) (fun k hk => by rw [e' 18 (by omega) (by omega)]; exact hc.2.1 k hk) (fun k hk => by rw [e' 19 (by omega) (by omega)]; exact hc.2.2 k hk) (fun k hk => by rw [h84 k hk, e 87 (by omega)])
  refine inv_put hs hT hl hH hF (hf'.2.trans hf.2) (fun c h1 h2 k => by rw [e' c (by omega) (by omega), e c (by omega)]) (fun c h1 h2 k => by rw [e' c (by omega) (by omega), e c (by omega)]) (fun c h1 k => by rw [e' c (by omega) (by omega), e c (by omega)]) (fun k h1 h2 => by rw [h75 k h1 h2, e 75 (by omega)]) hS' ?_ ?_
  · have q1 : gi m' 20 1 = nI ((gn μ 20 1 + 9) % 10) := by rw [e' 20 (by omega) (by omega), h201]
    have q2 : gi m' 20 2 = nI (gn μ 20 2 - 1) := by rw [e' 20 (by omega) (by omega), h202]
    refine ⟨isN_of q1 (by omega) (by omega), isN_of q2 (by omega) (by omega), by rw [h21, q2], ?_⟩
    rw [gn_of q1 (by omega), gn_of q2 (by omega)]
    intro i hi
    rw [show ((gn μ 20 1 + 9) % 10 + 10 - (gn μ 20 2 - 1) + i) % 10 = (gn μ 20 1 + 10 - gn μ 20 2 + i) % 10 from by omega]
    exact sc_c (p4 i (by omega)) hR (fun k _ => by rw [e' _ (by omega) (by omega), e _ (by omega)]) (fun k _ => by rw [e' _ (by omega) (by omega), e _ (by omega)]) (fun k _ => by rw [e' _ (by omega) (by omega), e _ (by omega)]) (fun k _ => by rw [e' 87 (by omega) (by omega), e 87 (by omega)])
  · exact fI hIm hR (by rw [e' 0 (by omega) (by omega), e 0 (by omega)]) (fun c h1 h2 k => by rw [e' c (by omega) (by omega), e c (by omega)]) (fun k => by rw [e' 85 (by omega) (by omega), e 85 (by omega)]) (fun k => by rw [e' 86 (by omega) (by omega), e 86 (by omega)])
/-- the past with one scene more -/
theorem past_st {μ m m' : Mem} {R Q : Nat} (hR : R ≤ 5) (hP : InvP μ R Q) (hSc : Sc R Q μ 17 (gi μ 84)) (hrem : remP μ m) (hf : fr (17 :: 18 :: 19 :: remF μ) μ m) (hn : noteP m m') (hf' : fr [75, 84, 87] m m') : InvP m' R Q := by
  obtain ⟨p1, p2, p3, p4⟩ := hP
  obtain ⟨hc, h201, h202⟩ := hrem
  obtain ⟨_, n21, n1, n2⟩ := hn
  have b1 := p1.2
  have b2 := p2.2
  have e : ∀ c, 52 ≤ c → ∀ k, gi m c k = gi μ c k := fun c h2 k => hf.1 c (by simp [remF] <;> omega) k
  have e' : ∀ c, c < 75 → ∀ k, gi m' c k = gi m c k := fun c h1 k => hf'.1 c (by simp <;> omega) k
  have gm : gn m 75 21 = gn μ 20 2 := by unfold gn; rw [e 75 (by omega), p3]
  rw [gm] at n21 n1 n2
  have q1 : gi m' 20 1 = nI ((gn μ 20 1 + 1) % 10) := by rw [e' 20 (by omega), h201]
  have q2 : gi m' 20 2 = nI (min (gn μ 20 2 + 1) 10) := by rw [e' 20 (by omega), h202]
  refine ⟨isN_of q1 (by omega) (by omega), isN_of q2 (by omega) (by omega), by rw [n21, q2], ?_⟩
  rw [gn_of q1 (by omega), gn_of q2 (by omega)]
  intro i hi
  by_cases z : i = min (gn μ 20 2 + 1) 10 - 1
  · rw [show ((gn μ 20 1 + 1) % 10 + 10 - min (gn μ 20 2 + 1) 10 + i) % 10 = gn μ 20 1 from by omega]
    refine sc_c hSc hR (fun k hk => ?_) (fun k hk => ?_) (fun k hk => ?_) (fun k hk => ?_)
    · rw [e' _ (by omega)]; exact hc.1 k hk
    · rw [e' _ (by omega)]; exact hc.2.1 k hk
    · rw [e' _ (by omega)]; exact hc.2.2 k hk
    · show gi m' 87 (15 * i + k) = _
      rw [z, n1 k hk, e 84 (by omega)]
  · have hcell : ∀ a, a % 10 ≠ gn μ 20 1 → ∀ d, d < 3 → ∀ k, gi m (22 + 3 * (a % 10) + d) k = gi μ (22 + 3 * (a % 10) + d) k := fun a ha d hd k => hf.1 _ (by simp [remF] <;> omega) k
    by_cases z2 : gn μ 20 2 = 10
    · have ha : ((gn μ 20 1 + 1) % 10 + 10 - min (gn μ 20 2 + 1) 10 + i) % 10 = (gn μ 20 1 + 10 - gn μ 20 2 + (i + 1)) % 10 := by omega
      rw [ha]
      have hne : (gn μ 20 1 + 10 - gn μ 20 2 + (i + 1)) % 10 ≠ gn μ 20 1 := by omega
      refine sc_c (p4 (i + 1) (by omega)) hR (fun k hk => ?_) (fun k hk => ?_) (fun k hk => ?_) (fun k hk => ?_)
      · rw [e' _ (by omega)]; exact hcell _ hne 0 (by omega) k
      · rw [e' _ (by omega)]; exact hcell _ hne 1 (by omega) k
      · rw [e' _ (by omega)]; exact hcell _ hne 2 (by omega) k
      · show gi m' 87 (15 * i + k) = gi μ 87 (15 * (i + 1) + k)
        rw [n2 _ (by omega), if_pos z2, e 87 (by omega), show 15 * i + k + 15 = 15 * (i + 1) + k from by omega]
    · have ha : ((gn μ 20 1 + 1) % 10 + 10 - min (gn μ 20 2 + 1) 10 + i) % 10 = (gn μ 20 1 + 10 - gn μ 20 2 + i) % 10 := by omega
      rw [ha]
      have hne : (gn μ 20 1 + 10 - gn μ 20 2 + i) % 10 ≠ gn μ 20 1 := by omega
      refine sc_c (p4 i (by omega)) hR (fun k hk => ?_) (fun k hk => ?_) (fun k hk => ?_) (fun k hk => ?_)
      · rw [e' _ (by omega)]; exact hcell _ hne 0 (by omega) k
      · rw [e' _ (by omega)]; exact hcell _ hne 1 (by omega) k
      · rw [e' _ (by omega)]; exact hcell _ hne 2 (by omega) k
      · show gi m' 87 (15 * i + k) = gi μ 87 (15 * i + k)
        rw [n2 _ (by omega), if_neg z2, e 87 (by omega)]
theorem dec_eq : ∀ k, k ≤ 5 → ∀ r, r < 5 → (decI (nI k) = nI r ↔ nI k = nI r + 1) := by decide +kernel
theorem dec_9 : ∀ k, k ≤ 5 → (decI (nI k) = -9 ↔ nI k = 0) := by decide +kernel
theorem dec_s : ∀ k, k < 5 → decI (nI (k + 1)) = nI k ∧ ¬ decI (nI (k + 1)) < 0 ∧ ¬ nI (k + 1) = 0 ∧ nI (k + 1) - 1 = nI k := by decide +kernel
theorem walk_5 : ∀ k, k ≤ 5 → ∀ r, r < 5 → absI (nI r - (if decI (nI k) = -9 then 0 else decI (nI k))) = (if (if nI k = 0 then 0 else nI k - 1) < nI r then nI r - (if nI k = 0 then 0 else nI k - 1) else (if nI k = 0 then 0 else nI k - 1) - nI r) := by decide +kernel
theorem walk_n : ∀ a, a ≤ 9 → ∀ k, k ≤ 5 → ∀ r, r < 5 → ∃ n, n ≤ 45 ∧ walkF (nI a) (nI k) (nI r) = nI n := by
  have h : ∀ a, a ≤ 9 → ∀ k, k ≤ 5 → ∀ r, r < 5 → (walkF (nI a) (nI k) (nI r)).toNatClampNeg ≤ 45 ∧ walkF (nI a) (nI k) (nI r) = nI (walkF (nI a) (nI k) (nI r)).toNatClampNeg := by decide +kernel
  intro a ha k hk r hr
  exact ⟨_, (h a ha k hk r hr).1, (h a ha k hk r hr).2⟩
theorem min_ok {f : Int32} {n : Nat} {v : Int32} (hf : isB f 9999) (hv : v = nI n) (hn : n ≤ 100) (h : ¬ 9999 < f + v) : isB (f + v) 9999 := by
  obtain ⟨k, rfl, hk⟩ := hf
  rw [hv, nI_add] at h ⊢
  refine ⟨k + n, rfl, ?_⟩
  have h2 : ¬ (9999 : Int32).toInt < (nI (k + n)).toInt := fun z => h (i_lt.mpr z)
  rw [nI_toInt (by omega), show (9999 : Int32).toInt = 9999 from rfl] at h2
  omega
theorem fr_17 {μ m : Mem} (h : fr (17 :: remF μ) μ m) : fr (17 :: 18 :: 19 :: remF μ) μ m := fr_mono h fun c hc => by
  rcases List.mem_cons.mp hc with rfl | hc
  · exact List.mem_cons_self
  · exact List.mem_cons_of_mem _ (List.mem_cons_of_mem _ (List.mem_cons_of_mem _ hc))
theorem st_goes {μ : Mem} (hI : Inv μ) (p1 : Int32) : pre_X8_goes p1 μ ∧ ∀ x m, post_X8_goes p1 μ x m → pre_X9_goes p1 m ∧ ∀ y m', post_X9_goes p1 m y m' → x = y ∧ Inv m' := by
  have hI0 := hI
  obtain ⟨hs, hT, hl, D, hH, hSc, hP, hIm, hF⟩ := hI
  obtain ⟨hw, h5, h5', h6, r0, r0', q0, q0', s0, s0', hc, ⟨wk, wk1, wk2, wk9⟩, hn, hR, hQ, hS⟩ := inv_HF hs hH
  obtain ⟨⟨⟨k0, f0, l0⟩, ⟨k1, f1, l1⟩, f2, f3, f4, f5, f6, f7⟩, c0, c1, c2, c3, c4, c5, c6⟩ := hSc
  have g21 : gn μ 75 21 = gn μ 20 2 := by unfold gn; rw [hP.2.2.1]
  refine ⟨⟨hw, hP.1, hP.2.1⟩, fun x m h => ?_⟩
  unfold post_X8_goes at h
  rw [r0] at h
  by_cases z : p1 < 0 ∨ nI (dn D 0) ≤ p1
  · rw [if_pos z] at h
    obtain ⟨hx, rfl⟩ := h
    refine ⟨⟨isN_of r0' h5 (by omega), by unfold isN; rw [g21, hP.2.2.1]; exact hP.2.1⟩, fun y m' h' => ?_⟩
    unfold post_X9_goes at h'
    rw [r0', if_pos z] at h'
    obtain ⟨hy, rfl⟩ := h'
    exact ⟨by rw [hx, hy], inv_kp hI0 (kp_0 _)⟩
  rw [if_neg z] at h
  obtain ⟨pe, pl⟩ := out_R (by omega) z
  generalize p1.toNatClampNeg = r at pe pl
  subst pe
  have ew : walkC μ (nI r) = walkF (nI wk) (nI k1) (nI r) := by
    unfold walkC walkF
    rw [wk1, c1, f1, walk_5 k1 (by omega) r (by omega)]
  obtain ⟨wn, wn1, wn2⟩ := walk_n wk wk9 k1 (by omega) r (by omega)
  have econ : (slvI (gi μ 17 3) (nI r) = 1 ∨ gi μ 17 0 = nI r ∨ 9999 < gi μ 17 2 + walkC μ (nI r)) ↔ (slvI (gi μ 84 3) (nI r) = 1 ∨ gi μ 84 0 = nI r + 1 ∨ 9999 < gi μ 84 2 + walkF (gi μ 77 4) (gi μ 84 1) (nI r)) := by
    rw [ew, c3, c0, c2, wk2, f1, f0, dec_eq k0 (by omega) r (by omega)]
  by_cases z2 : slvI (gi μ 17 3) (nI r) = 1 ∨ gi μ 17 0 = nI r ∨ 9999 < gi μ 17 2 + walkC μ (nI r)
  · rw [if_pos z2] at h
    obtain ⟨hx, rfl⟩ := h
    refine ⟨⟨isN_of r0' h5 (by omega), by unfold isN; rw [g21, hP.2.2.1]; exact hP.2.1⟩, fun y m' h' => ?_⟩
    unfold post_X9_goes at h'
    rw [r0', if_neg z, if_pos (econ.mp z2)] at h'
    obtain ⟨hy, rfl⟩ := h'
    exact ⟨by rw [hx, hy], inv_kp hI0 (kp_0 _)⟩
  rw [if_neg z2] at h
  obtain ⟨hx, hf, hrem, m0, m1, m2, m3, m4⟩ := h
  have hb1 := hP.1.2
  have e : ∀ c, c ≠ 17 → ¬ (20 ≤ c ∧ c ≤ 51) → ∀ k, gi m c k = gi μ c k := fun c h1 h2 k => hf.1 c (by simp [remF] <;> omega) k
  have em21 : gn m 75 21 = gn μ 20 2 := by rw [← g21]; unfold gn; rw [e 75 (by omega) (by omega)]
  refine ⟨⟨isN_of (by rw [e 77 (by omega) (by omega)]; exact r0') h5 (by omega), by unfold isN; rw [em21, e 75 (by omega) (by omega), hP.2.2.1]; exact hP.2.1⟩, fun y m' h' => ?_⟩
  unfold post_X9_goes at h'
  rw [e 77 (by omega) (by omega), e 77 (by omega) (by omega), r0', if_neg z, e 84 (by omega) (by omega), e 84 (by omega) (by omega), e 84 (by omega) (by omega), e 84 (by omega) (by omega), if_neg (fun q => z2 (econ.mpr q))] at h'
  obtain ⟨hy, hf', hn', n0, n1, n2, n3⟩ := h'
  have e' : ∀ c, c < 75 ∨ (76 ≤ c ∧ c ≠ 84 ∧ c ≠ 87) → ∀ k, gi m' c k = gi m c k := fun c h1 k => hf'.1 c (by simp <;> omega) k
  refine ⟨by rw [hx, hy, ew, wk2, f1], ?_⟩
  have nosol : ¬ slvI (gi μ 84 3) (nI r) = 1 := fun q => z2 (econ.mpr (Or.inl q))
  refine inv_put hs hT hl hH hF (hf'.2.trans hf.2) (fun c h1 h2 k => by rw [e' c (by omega), e c (by omega) (by omega)]) (fun c h1 h2 k => by rw [e' c (by omega), e c (by omega) (by omega)]) (fun c h1 k => by rw [e' c (by omega), e c (by omega) (by omega)]) (fun k h1 h2 => by rw [hn'.1 k h1 h2, e 75 (by omega) (by omega)]) ⟨?_, ?_⟩ (past_st h5 hP ⟨⟨⟨k0, f0, l0⟩, ⟨k1, f1, l1⟩, f2, f3, f4, f5, f6, f7⟩, c0, c1, c2, c3, c4, c5, c6⟩ hrem (fr_17 hf) hn' hf') ?_
  · have n3' : ∀ k, 3 ≤ k → gi m' 84 k = gi μ 84 k := fun k hk => by rw [n3 k hk, e 84 (by omega) (by omega)]
    unfold scOK
    rw [n0, n1, n2, n3' 3 (by omega), n3' 4 (by omega), nI_1]
    refine ⟨⟨r + 1, rfl, by omega⟩, ⟨r + 1, rfl, by omega⟩, ?_, f3, f4, fun q hq y => ?_, fun q hq => ?_, fun q hq y => ?_⟩
    · rw [wk2, f1]
      refine min_ok f2 wn2 (by omega) (fun q => z2 (econ.mpr (Or.inr (Or.inr ?_))))
      rw [wk2, f1]; exact q
    · rw [n3' _ (by omega)]; exact f5 q hq y
    · rw [n3' _ (by omega)]; exact f6 q hq
    · have : r + 1 = q + 1 := (nI_eq (by omega) (by omega)).mp y
      rw [show q = r from by omega]; exact nosol
  · have n3' : ∀ k, 3 ≤ k → gi m' 84 k = gi μ 84 k := fun k hk => by rw [n3 k hk, e 84 (by omega) (by omega)]
    unfold scEq
    rw [n0, n1, n2, n3' 3 (by omega), n3' 4 (by omega), e' 17 (by omega), e' 17 (by omega), e' 17 (by omega), e' 17 (by omega), e' 17 (by omega), m0, m1, m2, m3, m4, nI_1, (dec_s r (by omega)).1]
    refine ⟨rfl, rfl, by rw [c2, ew, wk2, f1], c3, c4, fun q hq => ?_, fun q hq => ?_⟩
    · rw [e' 18 (by omega), e 18 (by omega) (by omega), n3' _ (by omega)]; exact c5 q hq
    · rw [e' 19 (by omega), e 19 (by omega) (by omega), n3' _ (by omega)]; exact c6 q hq
  · exact fI hIm h5 (by rw [e' 0 (by omega), e 0 (by omega) (by omega)]) (fun c h1 h2 k => by rw [e' c (by omega), e c (by omega) (by omega)]) (fun k => by rw [e' 85 (by omega), e 85 (by omega) (by omega)]) (fun k => by rw [e' 86 (by omega), e 86 (by omega) (by omega)])

/-! asks, does, house -/
theorem or_31 : ∀ s, s ≤ 31 → ∀ r, r < 5 → ((nI s ||| (1 <<< (nI r &&& 31))).toNatClampNeg ≤ 31 ∧ nI s ||| (1 <<< (nI r &&& 31)) = nI (nI s ||| (1 <<< (nI r &&& 31))).toNatClampNeg) ∧ slvI (nI s ||| (1 <<< (nI r &&& 31))) (nI r) = 1 := by decide +kernel
theorem or_kp : ∀ s, s ≤ 31 → ∀ r, r < 5 → ∀ j, j < 5 → slvI (nI s) (nI j) = 1 → slvI (nI s ||| (1 <<< (nI r &&& 31))) (nI j) = 1 := by decide +kernel
theorem or_B {f : Int32} {r : Nat} (h : isB f 31) (hr : r < 5) : isB (f ||| (1 <<< (nI r &&& 31))) 31 ∧ slvI (f ||| (1 <<< (nI r &&& 31))) (nI r) = 1 ∧ ∀ j, j < 5 → slvI f (nI j) = 1 → slvI (f ||| (1 <<< (nI r &&& 31))) (nI j) = 1 := by
  obtain ⟨s, rfl, hs⟩ := h
  obtain ⟨⟨h1, h2⟩, h3⟩ := or_31 s hs r hr
  exact ⟨⟨_, h2, h1⟩, h3, fun j hj => or_kp s hs r hr j hj⟩
theorem st_asks {μ : Mem} (hI : Inv μ) (p1 : Int32) : pre_X8_asks p1 μ ∧ ∀ x m, post_X8_asks p1 μ x m → pre_X9_asks p1 m ∧ ∀ y m', post_X9_asks p1 m y m' → x = y ∧ Inv m' := by
  have hI0 := hI
  obtain ⟨hs, hT, hl, D, hH, hSc, hP, hIm, hF⟩ := hI
  have hSc0 := hSc
  obtain ⟨hw, h5, h5', h6, r0, r0', q0, q0', s0, s0', ⟨cu, cu1, cu2, cu5, cuS⟩, hk, hn, hR, hQ, hS⟩ := inv_HF hs hH
  obtain ⟨⟨⟨k0, f0, l0⟩, f1, f2, f3, f4, f5, f6, f7⟩, c0, c1, c2, c3, c4, c5, c6⟩ := hSc
  have g21 : gn μ 75 21 = gn μ 20 2 := by unfold gn; rw [hP.2.2.1]
  have pre9 : pre_X9_asks p1 μ := ⟨isN_of s0' h6 (by omega), isN_of cu2 cu5 (by omega), by unfold isN; rw [g21, hP.2.2.1]; exact hP.2.1⟩
  refine ⟨⟨hw, hP.1, hP.2.1, isN_of cu1 cu5 (by omega)⟩, fun x m h => ?_⟩
  unfold post_X8_asks at h
  by_cases z : p1 < 0 ∨ 5 ≤ p1
  · rw [if_pos z] at h
    obtain ⟨hx, rfl⟩ := h
    refine ⟨pre9, fun y m' h' => ?_⟩
    unfold post_X9_asks at h'
    rw [if_pos z] at h'
    obtain ⟨hy, rfl⟩ := h'
    exact ⟨by rw [hx, hy], inv_kp hI0 (kp_0 _)⟩
  rw [if_neg z] at h
  obtain ⟨pe, pl⟩ := out_R (n := 5) (by omega) z
  generalize p1.toNatClampNeg = r at pe pl
  subst pe
  have econ : (gi μ 17 0 = -9 ∨ slvI (gi μ 17 4) (nI r) = 1 ∨ gi μ (gp μ 1) 7 = 0 ∨ 9999 < gi μ 17 2 + 2) ↔ (gi μ 84 0 = 0 ∨ slvI (gi μ 84 4) (nI r) = 1 ∨ gi μ 77 2 = 0 ∨ 9999 < gi μ 84 2 + 2) := by
    rw [c4, c0, c2, f0, dec_9 k0 (by omega), s0, s0']
  by_cases z2 : gi μ 17 0 = -9 ∨ slvI (gi μ 17 4) (nI r) = 1 ∨ gi μ (gp μ 1) 7 = 0 ∨ 9999 < gi μ 17 2 + 2
  · rw [if_pos z2] at h
    obtain ⟨hx, rfl⟩ := h
    refine ⟨pre9, fun y m' h' => ?_⟩
    unfold post_X9_asks at h'
    rw [if_neg z, if_pos (econ.mp z2)] at h'
    obtain ⟨hy, rfl⟩ := h'
    exact ⟨by rw [hx, hy], inv_kp hI0 (kp_0 _)⟩
  rw [if_neg z2] at h
  obtain ⟨hx, hf, hrem, m0, m1, m2, m3, m4⟩ := h
  have hb1 := hP.1.2
  have e : ∀ c, c ≠ 17 → ¬ (20 ≤ c ∧ c ≤ 51) → ∀ k, gi m c k = gi μ c k := fun c h1 h2 k => hf.1 c (by simp [remF] <;> omega) k
  have em21 : gn m 75 21 = gn μ 20 2 := by rw [← g21]; unfold gn; rw [e 75 (by omega) (by omega)]
  refine ⟨⟨isN_of (by rw [e 77 (by omega) (by omega)]; exact s0') h6 (by omega), isN_of (by rw [e 77 (by omega) (by omega)]; exact cu2) cu5 (by omega), by unfold isN; rw [em21, e 75 (by omega) (by omega), hP.2.2.1]; exact hP.2.1⟩, fun y m' h' => ?_⟩
  unfold post_X9_asks at h'
  rw [if_neg z, e 77 (by omega) (by omega), e 84 (by omega) (by omega), e 84 (by omega) (by omega), e 84 (by omega) (by omega), if_neg (fun q => z2 (econ.mpr q))] at h'
  obtain ⟨hy, hf', hn', n2, n4, n3⟩ := h'
  have e' : ∀ c, c < 75 ∨ (76 ≤ c ∧ c ≠ 84 ∧ c ≠ 87) → ∀ k, gi m' c k = gi m c k := fun c h1 k => hf'.1 c (by simp <;> omega) k
  have hS0 : dn D 2 ≠ 0 := fun q => z2 (Or.inr (Or.inr (Or.inl (by rw [s0, q]; rfl))))
  refine ⟨?_, ?_⟩
  · have gm : gn m 77 3 = cu := by unfold gn; rw [e 77 (by omega) (by omega), cu2, nI_clamp (by omega)]
    rw [hx, hy, gm, gn_of cu1 (by omega), e 83 (by omega) (by omega), hS cu (by omega)]
  have n3' : ∀ k, k ≠ 2 → k ≠ 4 → gi m' 84 k = gi μ 84 k := fun k h1 h2 => by rw [n3 k h1 h2, e 84 (by omega) (by omega)]
  obtain ⟨oB, _, _⟩ := or_B f4 pl
  refine inv_put hs hT hl hH hF (hf'.2.trans hf.2) (fun c h1 h2 k => by rw [e' c (by omega), e c (by omega) (by omega)]) (fun c h1 h2 k => by rw [e' c (by omega), e c (by omega) (by omega)]) (fun c h1 k => by rw [e' c (by omega), e c (by omega) (by omega)]) (fun k h1 h2 => by rw [hn'.1 k h1 h2, e 75 (by omega) (by omega)]) ⟨?_, ?_⟩ (past_st h5 hP hSc0 hrem (fr_17 hf) hn' hf') ?_
  · unfold scOK
    rw [n2, n4, n3' 0 (by omega) (by omega), n3' 1 (by omega) (by omega), n3' 3 (by omega) (by omega)]
    refine ⟨⟨k0, f0, l0⟩, f1, ?_, f3, oB, fun q hq y => ?_, fun q hq => ?_, f7⟩
    · exact min_ok f2 (n := 2) rfl (by omega) (fun q => z2 (econ.mpr (Or.inr (Or.inr (Or.inr q)))))
    · rw [n3' _ (by omega) (by omega)]; exact f5 q hq y
    · rw [n3' _ (by omega) (by omega)]; exact f6 q hq
  · unfold scEq
    rw [n2, n4, n3' 0 (by omega) (by omega), n3' 1 (by omega) (by omega), n3' 3 (by omega) (by omega), e' 17 (by omega), e' 17 (by omega), e' 17 (by omega), e' 17 (by omega), e' 17 (by omega), m0, m1, m2, m3, m4]
    refine ⟨c0, c1, by rw [c2], c3, by rw [c4], fun q hq => ?_, fun q hq => ?_⟩
    · rw [e' 18 (by omega), e 18 (by omega) (by omega), n3' _ (by omega) (by omega)]; exact c5 q hq
    · rw [e' 19 (by omega), e 19 (by omega) (by omega), n3' _ (by omega) (by omega)]; exact c6 q hq
  · exact fI hIm h5 (by rw [e' 0 (by omega), e 0 (by omega) (by omega)]) (fun c h1 h2 k => by rw [e' c (by omega), e c (by omega) (by omega)]) (fun k => by rw [e' 85 (by omega), e 85 (by omega) (by omega)]) (fun k => by rw [e' 86 (by omega), e 86 (by omega) (by omega)])
theorem half_n : ∀ a, a ≤ 9 → ∀ b, b ≤ 3 → ((nI a * nI b).toNatClampNeg ≤ 27 ∧ nI a * nI b = nI (nI a * nI b).toNatClampNeg) ∧ ((nI a * nI b / 2).toNatClampNeg ≤ 27 ∧ nI a * nI b / 2 = nI (nI a * nI b / 2).toNatClampNeg) := by decide +kernel
theorem feel_n : ∀ a, a ≤ 30 → ∀ b, b ≤ 27 → ¬ nI a - nI b < 0 → (nI a - nI b).toNatClampNeg ≤ 30 ∧ nI a - nI b = nI (nI a - nI b).toNatClampNeg := by decide +kernel
theorem st_does {μ : Mem} (hI : Inv μ) (p1 : Int32) : pre_X8_does p1 μ ∧ ∀ x m, post_X8_does p1 μ x m → pre_X9_does p1 m ∧ ∀ y m', post_X9_does p1 m y m' → x = y ∧ Inv m' := by
  have hI0 := hI
  obtain ⟨hs, hT, hl, D, hH, hSc, hP, hIm, hF⟩ := hI
  have hSc0 := hSc
  obtain ⟨hw, h5, h5', h6, r0, r0', q0, q0', s0, s0', hc, hk, hn, hR, hQ, hS⟩ := inv_HF hs hH
  obtain ⟨⟨⟨k0, f0, l0⟩, f1, f2, f3, f4, f5, f6, f7⟩, c0, c1, c2, c3, c4, c5, c6⟩ := hSc
  have g21 : gn μ 75 21 = gn μ 20 2 := by unfold gn; rw [hP.2.2.1]
  have pre9 : pre_X9_does p1 μ := ⟨isN_of q0' h5' (by omega), by unfold isN; rw [g21, hP.2.2.1]; exact hP.2.1, isN_of f0 (by omega) (by omega)⟩
  refine ⟨⟨hw, hP.1, hP.2.1, isN_of r0 h5 (by omega), isN_of q0 h5' (by omega)⟩, fun x m h => ?_⟩
  unfold post_X8_does at h
  rw [q0, r0] at h
  by_cases z : p1 < 0 ∨ nI (dn D 1) ≤ p1
  · rw [if_pos z] at h
    obtain ⟨hx, rfl⟩ := h
    refine ⟨pre9, fun y m' h' => ?_⟩
    unfold post_X9_does at h'
    rw [q0', if_pos z] at h'
    obtain ⟨hy, rfl⟩ := h'
    exact ⟨by rw [hx, hy], inv_kp hI0 (kp_0 _)⟩
  rw [if_neg z] at h
  obtain ⟨pe, pl⟩ := out_R (by omega) z
  generalize hd : p1.toNatClampNeg = d at pe pl h
  subst pe
  obtain ⟨t, ht, ht30⟩ := (hQ d pl).2.2.2
  have econ : (gi μ 17 0 < 0 ∨ nI (dn D 0) ≤ gi μ 17 0 ∨ 9999 < gi μ 17 2 + gi μ (gp μ 1 + 5) d) ↔ (gi μ 84 0 = 0 ∨ 9999 < gi μ 84 2 + gi μ 82 d) := by
    rw [c2, (hQ d pl).2.1, c0, f0]
    rcases Nat.eq_zero_or_pos k0 with q | q
    · subst q
      exact ⟨fun _ => Or.inl rfl, fun _ => Or.inl (by decide)⟩
    · obtain ⟨k, rfl⟩ : ∃ k, k0 = k + 1 := ⟨k0 - 1, by omega⟩
      obtain ⟨a1, a2, a3, _⟩ := dec_s k (by omega)
      constructor
      · rintro (y | y | y)
        · exact absurd y a2
        · rw [a1, nI_leI (by omega) (by omega)] at y; omega
        · exact Or.inr y
      · rintro (y | y)
        · exact absurd y a3
        · exact Or.inr (Or.inr y)
  by_cases z2 : gi μ 17 0 < 0 ∨ nI (dn D 0) ≤ gi μ 17 0 ∨ 9999 < gi μ 17 2 + gi μ (gp μ 1 + 5) d
  · rw [if_pos z2] at h
    obtain ⟨hx, rfl⟩ := h
    refine ⟨pre9, fun y m' h' => ?_⟩
    unfold post_X9_does at h'
    rw [q0', if_neg z, hd, if_pos (econ.mp z2)] at h'
    obtain ⟨hy, rfl⟩ := h'
    exact ⟨by rw [hx, hy], inv_kp hI0 (kp_0 _)⟩
  rw [if_neg z2] at h
  obtain ⟨hx, hf, hrem, m1, m2, m4, m18, m19, m3⟩ := h
  obtain ⟨r, rfl⟩ : ∃ k, k0 = k + 1 := ⟨k0 - 1, by
    have : k0 ≠ 0 := fun q => z2 (econ.mpr (Or.inl (by rw [f0, q]; rfl)))
    omega⟩
  obtain ⟨d1, d2, d3, d4⟩ := dec_s r (by omega)
  have e17 : gi μ 17 0 = nI r := by rw [c0, f0, d1]
  have gr : gn μ 17 0 = r := gn_of e17 (by omega)
  have ga : gn μ 84 0 = r + 1 := gn_of f0 (by omega)
  have hb1 := hP.1.2
  have e : ∀ c, ¬ (17 ≤ c ∧ c ≤ 51) → ∀ k, gi m c k = gi μ c k := fun c h2 k => hf.1 c (by simp [remF] <;> omega) k
  have em21 : gn m 75 21 = gn μ 20 2 := by rw [← g21]; unfold gn; rw [e 75 (by omega)]
  refine ⟨⟨isN_of (by rw [e 77 (by omega)]; exact q0') h5' (by omega), by unfold isN; rw [em21, e 75 (by omega), hP.2.2.1]; exact hP.2.1, isN_of (by rw [e 84 (by omega)]; exact f0) (by omega) (by omega)⟩, fun y m' h' => ?_⟩
  have ehurt : hurtF m (gi m 84 0 - 1) (nI d) (gi m 84 (10 + (gn m 84 0 - 1))) = hurtF μ (nI r) (nI d) (gi μ 84 (10 + r)) := by
    have g1 : gn m 84 0 = r + 1 := by rw [← ga]; unfold gn; rw [e 84 (by omega)]
    rw [g1, e 84 (by omega), e 84 (by omega), f0, d4, show r + 1 - 1 = r from by omega]
    unfold hurtF
    rw [e 81 (by omega), e 79 (by omega)]
  have gm1 : gn m 84 0 - 1 = r := by
    have : gn m 84 0 = r + 1 := by rw [← ga]; unfold gn; rw [e 84 (by omega)]
    omega
  unfold post_X9_does at h'
  rw [e 77 (by omega), q0', if_neg z, hd, ehurt, gm1] at h'
  have h9 : ∀ k, gi m 84 k = gi μ 84 k := fun k => e 84 (by omega) k
  simp only [h9, e 82 (by omega) d] at h'
  rw [if_neg (fun q => z2 (econ.mpr q))] at h'
  obtain ⟨hy, hf', hn', n1, n2, n4, n5, n10, n3⟩ := h'
  have e' : ∀ c, c < 75 ∨ (76 ≤ c ∧ c ≠ 84 ∧ c ≠ 87) → ∀ k, gi m' c k = gi m c k := fun c h1 k => hf'.1 c (by simp <;> omega) k
  have nosol : ¬ slvI (gi μ 84 3) (nI r) = 1 := f7 r (by omega) f0
  -- the loss is the same
  obtain ⟨ru, hru, hru9⟩ := (hQ d pl).2.2.1
  obtain ⟨te, hte, hte3⟩ := (hR r (by omega)).2.2
  obtain ⟨la, hla, hlaQ⟩ := f6 r (by omega)
  have eloss : lossC μ (gp μ 1) (nI r) (nI d) = hurtF μ (nI r) (nI d) (gi μ 84 (10 + r)) := by
    unfold lossC hurtF
    rw [nI_clamp (show r < 2 ^ 31 by omega), nI_clamp (show d < 2 ^ 31 by omega), c6 r (by omega), (hQ d pl).1, (hR r (by omega)).1, hla]
    by_cases q : decI (nI la) = nI d
    · rw [if_pos q, if_pos ((dec_eq la (by omega) d (by omega)).mp q)]
    · rw [if_neg q, if_neg (fun y => q ((dec_eq la (by omega) d (by omega)).mpr y))]
  have hloss : ∃ b, b ≤ 27 ∧ hurtF μ (nI r) (nI d) (gi μ 84 (10 + r)) = nI b := by
    unfold hurtF
    rw [nI_clamp (show r < 2 ^ 31 by omega), nI_clamp (show d < 2 ^ 31 by omega), hru, hte]
    obtain ⟨⟨a1, a2⟩, a3, a4⟩ := half_n ru hru9 te hte3
    split
    · exact ⟨_, a3, a4⟩
    · exact ⟨_, a1, a2⟩
  rw [e17, gr, eloss] at m18 m3
  rw [gr] at m19
  rw [e17] at hx
  obtain ⟨lb, lb27, elb⟩ := hloss
  rw [elb] at m18 m3 n5 n3 hy
  obtain ⟨fa, hfa, fa30⟩ := f5 r (by omega) nosol
  rw [c5 r (by omega), hfa] at m3
  rw [hfa] at n3 hy
  rw [(hQ d pl).2.1] at m2
  have n5' : ∀ j, j < 5 → gi m' 84 (5 + j) = if j = r then nI fa - nI lb else gi μ 84 (5 + j) := fun j hj => by
    rw [n5 j hj]
    by_cases q : j = r
    · rw [if_pos q, if_pos q, q, hfa]
    · rw [if_neg q, if_neg q]
  obtain ⟨oB, o1, o2⟩ := or_B f3 (show r < 5 by omega)
  have f7' := f7
  refine ⟨?_, ?_⟩
  · rw [hx, hy]
    by_cases q : nI fa - nI lb < 0
    · rw [if_pos q] at m3 ⊢
      rw [m3.1, c3, o1, if_pos rfl]
    · rw [if_neg q] at m3 ⊢
      rw [m3.1, c3, if_neg nosol]
  have e03 : (gi m' 17 3 = gi m' 84 3 ∧ isB (gi m' 84 3) 31 ∧ (∀ j, j < 5 → slvI (gi μ 84 3) (nI j) = 1 → slvI (gi m' 84 3) (nI j) = 1)) ∧ (gi m' 17 0 = decI (gi m' 84 0) ∧ isB (gi m' 84 0) (dn D 0) ∧ (gi m' 84 0 = 0 ∨ (gi m' 84 0 = nI (r + 1) ∧ gi m' 84 3 = gi μ 84 3))) ∧ (¬ slvI (gi m' 84 3) (nI r) = 1 → ¬ nI fa - nI lb < 0) := by
    rw [e' 17 (by omega), e' 17 (by omega)]
    by_cases q : nI fa - nI lb < 0
    · rw [if_pos q] at m3 n3
      rw [m3.1, m3.2, n3.1, n3.2, f0, d4, c3]
      exact ⟨⟨rfl, oB, o2⟩, ⟨by decide, ⟨0, by decide, by omega⟩, Or.inl rfl⟩, fun y => absurd o1 y⟩
    · rw [if_neg q] at m3 n3
      rw [m3.1, m3.2, n3.1, n3.2, c3, f0]
      exact ⟨⟨rfl, f3, fun _ _ y => y⟩, ⟨d1.symm, ⟨r + 1, rfl, l0⟩, Or.inr ⟨rfl, rfl⟩⟩, fun _ => q⟩
  obtain ⟨⟨u1, u2, u3⟩, ⟨v1, v2, v3⟩, w1⟩ := e03
  refine inv_put hs hT hl hH hF (hf'.2.trans hf.2) (fun c h1 h2 k => by rw [e' c (by omega), e c (by omega)]) (fun c h1 h2 k => by rw [e' c (by omega), e c (by omega)]) (fun c h1 k => by rw [e' c (by omega), e c (by omega)]) (fun k h1 h2 => by rw [hn'.1 k h1 h2, e 75 (by omega)]) ⟨?_, ?_⟩ (past_st h5 hP hSc0 hrem hf hn' hf') ?_
  · unfold scOK
    rw [n1, n2, n4]
    refine ⟨v2, f1, ?_, u2, f4, fun q hq y => ?_, fun q hq => ?_, fun q hq y => ?_⟩
    · exact min_ok f2 ht (by omega) (fun q => z2 (econ.mpr (Or.inr q)))
    · rw [n5' q (by omega)]
      by_cases qr : q = r
      · subst qr
        rw [if_pos rfl]
        obtain ⟨a1, a2⟩ := feel_n fa fa30 lb lb27 (w1 y)
        exact ⟨_, a2, a1⟩
      · rw [if_neg qr]
        exact f5 q hq (fun s => y (u3 q (by omega) s))
    · rw [n10 q (by omega)]
      by_cases qr : q = r
      · rw [if_pos qr, nI_1]; exact ⟨d + 1, rfl, by omega⟩
      · rw [if_neg qr]; exact f6 q hq
    · rcases v3 with v3 | ⟨v3, v4⟩
      · rw [v3] at y
        exact absurd y.symm (nI_ne0 (by omega) (by omega))
      · rw [v3] at y
        have : r + 1 = q + 1 := (nI_eq (by omega) (by omega)).mp y
        rw [v4, show q = r from by omega]; exact nosol
  · unfold scEq
    rw [v1, u1, n1, n2, n4, e' 17 (by omega), e' 17 (by omega), e' 17 (by omega), m1, m2, m4]
    refine ⟨rfl, c1, by rw [c2], rfl, c4, fun q hq => ?_, fun q hq => ?_⟩
    · rw [e' 18 (by omega), m18, n5' q (by omega)]
      by_cases qr : q = r
      · rw [if_pos qr, if_pos qr, qr, c5 r (by omega), hfa]
      · rw [if_neg qr, if_neg qr]; exact c5 q hq
    · rw [e' 19 (by omega), m19, n10 q (by omega)]
      by_cases qr : q = r
      · rw [if_pos qr, if_pos qr, nI_1, (dec_s d (by omega)).1]
      · rw [if_neg qr, if_neg qr]; exact c6 q hq
  · exact fI hIm h5 (by rw [e' 0 (by omega), e 0 (by omega)]) (fun c h1 h2 k => by rw [e' c (by omega), e c (by omega)]) (fun k => by rw [e' 85 (by omega), e 85 (by omega)]) (fun k => by rw [e' 86 (by omega), e 86 (by omega)])
theorem st_house {μ : Mem} (hI : Inv μ) : pre_X8_house μ ∧ ∀ x m, post_X8_house μ x m → pre_X9_house m ∧ ∀ y m', post_X9_house m y m' → x = y ∧ Inv m' := by
  obtain ⟨hs, hT, hl, D, hH, hSc, hP, hIm, hF⟩ := hI
  have hT0 := hT
  obtain ⟨t1, t2, t3, t4⟩ := hT
  have hR := (ok5 hH.1).1
  have h200 := t1.2
  have hw : gp μ 1 = 3 ∨ gp μ 1 = 10 := by rcases hs with ⟨z, _⟩ | ⟨z, _⟩ <;> omega
  refine ⟨⟨t1, hs⟩, fun x m h => ?_⟩
  have e75 : ∀ c, 75 ≤ c → ∀ k, gi m c k = gi μ c k := by
    rcases h with ⟨f, _, _, hf⟩ | ⟨k, D', h⟩
    · exact fun c hc k => hf.1.1 c (by simp; rcases hs with ⟨_, z⟩ | ⟨_, z⟩ <;> omega) k
    · exact h.2.2.2.2.2.2.2.2.2.2.2.2.2.2
  have eT : gi m 76 = gi μ 2 := funext fun j => by rw [e75 76 (by omega), t3]
  have eN : gn m 75 3 = gn μ 1 1 := by unfold gn; rw [e75 75 (by omega), t2]
  refine ⟨⟨by unfold isN; rw [eN, e75 75 (by omega), t2]; exact t1, fun j _ => by rw [eT]; exact t4 j⟩, fun y m' h' => ?_⟩
  unfold post_X9_house at h'
  rw [eT, eN] at h'
  rcases h with ⟨f, hRf, hx, hf⟩ | ⟨k, D', hRr, hD', hx, g1, g2, gL, hA, c11, hB, c201, c202, c06, c71, c2, _⟩
  · rcases h' with ⟨f', hRf', hy, hf'⟩ | ⟨k', D2, hRr', _⟩
    · refine ⟨by rw [hx, hy, rdf_uniq hRf hRf'], ?_⟩
      obtain ⟨a, b, c, d⟩ := hf'
      have e2 : m'.2 = μ.2 := a.2.trans hf.1.2
      have hw2 : gp μ 2 = 3 ∨ gp μ 2 = 10 := by rcases hs with ⟨_, z⟩ | ⟨_, z⟩ <;> omega
      have e : ∀ c, c ≠ 1 → ¬ (gp μ 2 ≤ c ∧ c ≤ gp μ 2 + 6) → ∀ k, gi m c k = gi μ c k := fun c h1 h2 k => hf.1.1 c (by simp; omega) k
      have e' : ∀ c, c < 75 ∨ c = 76 ∨ 84 ≤ c → ∀ k, gi m' c k = gi m c k := fun c h1 k => a.1 c (by simp; omega) k
      have eo : ∀ c, c = 0 ∨ c = 2 ∨ (17 ≤ c ∧ c < 75) ∨ c = 76 ∨ 84 ≤ c → ∀ k, gi m' c k = gi μ c k := fun c h1 k => by rw [e' c (by omega), e c (by omega) (by omega)]
      have ek : ∀ k, k ∉ [0, 4, 5, 6, 7, 8, 10] → gi m' 75 k = gi μ 75 k := fun k hk => by rw [b k hk, e75 75 (by omega)]
      refine ⟨by unfold hsP; rw [gp_2 e2, gp_2 e2]; exact hs, fT hT0 (by rw [e' 1 (by omega), hf.2 1 (by simp)]) (ek 3 (by simp)) (eo 2 (by omega)) (eo 76 (by omega)), by rw [gl_2 e2, gl_2 e2]; exact hl, D, fH hH hw (gp_2 e2 1) (fun c h1 h2 k => ?_) (fun k hk => ⟨by rw [(c k hk).1, e75 77 (by omega)], by rw [(c k hk).2, e75 83 (by omega)]⟩) (fun k hk => ⟨by rw [(d k hk).1, e75 79 (by omega)], by rw [(d k hk).2.1, e75 80 (by omega)], by rw [(d k hk).2.2.1, e75 81 (by omega)], by rw [(d k hk).2.2.2, e75 82 (by omega)]⟩), sc_c hSc hR (fun k _ => eo 17 (by omega) k) (fun k _ => eo 18 (by omega) k) (fun k _ => eo 19 (by omega) k) (fun k _ => eo 84 (by omega) k), fP hP hR (fun c h1 h2 k => eo c (by omega) k) (ek 21 (by simp)) (fun k => eo 87 (by omega) k), fI hIm hR (eo 0 (by omega) 6) (fun c h1 h2 k => eo c (by omega) k) (fun k => eo 85 (by omega) k) (fun k => eo 86 (by omega) k), fF hF (fun c h1 h2 k => eo c (by omega) k) (ek 24 (by simp)) (fun k => eo 88 (by omega) k) (fun k => eo 89 (by omega) k)⟩
      rw [e' c (by omega), e c (by omega) (by rcases hs with ⟨z1, z2⟩ | ⟨z1, z2⟩ <;> omega)]
    · exact (rd_excl hRr' hRf).elim
  · rcases h' with ⟨f', hRf', _⟩ | ⟨k', D2, hRr', hD2, hy, hS, hB', n3, n24, n21, n860, n861, hf'⟩
    · exact (rd_excl hRr hRf').elim
    · obtain ⟨rfl, rfl⟩ := rdr_uniq hRr hRr'
      refine ⟨by rw [hx, hy], ?_⟩
      have e' : ∀ c, c < 75 ∨ c = 76 ∨ c = 85 ∨ 87 ≤ c → ∀ k, gi m' c k = gi m c k := fun c h1 k => hf'.1 c (by simp; omega) k
      obtain ⟨h5, h5', h6⟩ := ok5 hD'
      obtain ⟨b0, b1, b2, b3, b4, b5, b6⟩ := hB
      obtain ⟨s0, s1, s2⟩ := hB'
      have i11 : gi m' 1 1 = nI 0 := by rw [e' 1 (by omega), c11]; rfl
      have i202 : gi m' 20 2 = nI 0 := by rw [e' 20 (by omega), c202]; rfl
      have i06 : gi m' 0 6 = nI 0 := by rw [e' 0 (by omega), c06]; rfl
      have i71 : gi m' 71 2 = nI 0 := by rw [e' 71 (by omega), c71]; rfl
      have p1 : gp m' 1 = gp μ 2 := (gp_2 hf'.2 1).trans g1
      have p2 : gp m' 2 = gp μ 1 := (gp_2 hf'.2 2).trans g2
      have hw2 : gp μ 2 = 3 ∨ gp μ 2 = 10 := by rcases hs with ⟨_, z⟩ | ⟨_, z⟩ <;> omega
      refine ⟨?_, ⟨isN_of i11 (by omega) (by omega), by rw [n3, i11]; rfl, fun j => ?_, fun j => ?_⟩, ?_, D', ⟨hD', ?_, hS⟩, ⟨⟨?_, ?_, ?_, ?_, ?_, fun r hr _ => ?_, fun r hr => ?_, fun r hr z => ?_⟩, ?_, ?_, ?_, ?_, ?_, fun r hr => ?_, fun r hr => ?_⟩, ⟨?_, isN_of i202 (by omega) (by omega), by rw [n21, i202]; rfl, ?_⟩, ⟨⟨0, i06, by omega⟩, fun j hj => ?_⟩, isN_of i71 (by omega) (by omega), by rw [n24, i71]; rfl, ?_⟩
      · unfold hsP; rw [p1, p2]; rcases hs with ⟨z1, z2⟩ | ⟨z1, z2⟩ <;> omega
      · rw [e' 76 (by omega), e' 2 (by omega), c2, eT]
      · rw [e' 2 (by omega), c2]; exact t4 j
      · have z : m'.2.1 = μ.2.1 := by rw [hf'.2, gL]
        unfold gl at hl ⊢
        rw [z]; exact hl
      · rw [p1]; exact agC_c hA (fun c h1 h2 k => e' c (by omega) k)
      · exact ⟨0, s0 0 (by omega), by omega⟩
      · exact ⟨0, s0 1 (by omega), by omega⟩
      · exact ⟨0, s0 2 (by omega), by omega⟩
      · exact ⟨0, s0 3 (by omega), by omega⟩
      · exact ⟨0, s0 4 (by omega), by omega⟩
      · rw [s1 r hr]; exact (hD'.2.2.2.2.2.2.1 r hr).1
      · exact ⟨0, s2 r (by omega), by omega⟩
      · rw [s0 0 (by omega)] at z
        exact absurd z.symm (nI_ne0 (by omega) (by omega))
      · rw [e' 17 (by omega), b0, s0 0 (by omega)]; decide
      · rw [e' 17 (by omega), b1, s0 1 (by omega)]; decide
      · rw [e' 17 (by omega), b2, s0 2 (by omega)]
      · rw [e' 17 (by omega), b3, s0 3 (by omega)]
      · rw [e' 17 (by omega), b4, s0 4 (by omega)]
      · rw [e' 18 (by omega), b5 r (by omega), s1 r hr]; exact (hA.2.2.2.2.2.2.1 r hr).1
      · rw [e' 19 (by omega), b6 r (by omega), s2 r (by omega)]; decide
      · have q : gi m' 20 1 = gi μ 20 1 := by rw [e' 20 (by omega), c201]
        have := hP.1
        unfold isN gn at this ⊢
        rw [q]; exact this
      · rw [gn_of i202 (by omega)]
        intro i hi
        omega
      · rw [i06]
        have zz : ∀ j, j < 2 → slvI (nI 0) (nI j) = 0 := by decide +kernel
        rw [zz j hj]
        refine ⟨?_, fun q => absurd q (by decide)⟩
        rcases (show j = 0 ∨ j = 1 by omega) with rfl | rfl
        · exact n860
        · exact n861
      · rw [gn_of i71 (by omega)]
        intro i hi
        omega

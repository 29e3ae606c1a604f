/-! the law's steps: calls that change nothing that lasts -/
theorem sumI_c {f g : Nat → Int32} : ∀ {n : Nat}, (∀ i, i < n → f i = g i) → sumI f n = sumI g n
  | 0, _ => rfl
  | n + 1, h => by show sumI f n + f n = sumI g n + g n; rw [sumI_c (fun i hi => h i (by omega)), h n (by omega)]
theorem orI_c {f g : Nat → Int32} : ∀ {n : Nat}, (∀ i, i < n → f i = g i) → orI f n = orI g n
  | 0, _ => rfl
  | n + 1, h => by show orI f n ||| f n = orI g n ||| g n; rw [orI_c (fun i hi => h i (by omega)), h n (by omega)]
theorem in_R {p x : Int32} {b : Nat} (h : isB x b) (hb : b < 2 ^ 31) (hn : ¬ (p < 0 ∨ x ≤ p)) : p = nI p.toNatClampNeg ∧ p.toNatClampNeg < x.toNatClampNeg := by
  obtain ⟨n, rfl, hle⟩ := h
  obtain ⟨j, hj, rfl⟩ := nI_of (fun z => hn (Or.inl z))
  have h2 : ¬ nI n ≤ nI j := fun z => hn (Or.inr z)
  rw [nI_leI (by omega) hj] at h2
  rw [nI_clamp hj, nI_clamp (by omega)]
  exact ⟨rfl, by omega⟩
/-- what the houses of both say alike -/
def HF (μ : Mem) (w R Q S : Nat) : Prop := (w = 3 ∨ w = 10) ∧ R ≤ 5 ∧ Q ≤ 5 ∧ S ≤ 6 ∧ gi μ w 0 = nI R ∧ gi μ 77 0 = nI R ∧ gi μ w 4 = nI Q ∧ gi μ 77 1 = nI Q ∧ gi μ w 7 = nI S ∧ gi μ 77 2 = nI S ∧ (∃ c, gi μ w 9 = nI c ∧ gi μ 77 3 = nI c ∧ c ≤ 5 ∧ (c < S ∨ S = 0)) ∧ (∃ k, gi μ w 10 = nI k ∧ gi μ 77 4 = nI k ∧ k ≤ 9) ∧ (∃ k, gi μ w 11 = nI k ∧ gi μ 77 5 = nI k ∧ k ≤ 500) ∧
  (∀ r, r < R → gi μ (w + 2) r = gi μ 79 r ∧ gi μ (w + 3) r = gi μ 80 r ∧ isB (gi μ 79 r) 3) ∧ (∀ d, d < Q → gi μ (w + 4) d = gi μ 81 d ∧ gi μ (w + 5) d = gi μ 82 d ∧ isB (gi μ 81 d) 9 ∧ isB (gi μ 82 d) 30) ∧ ∀ s, s < S → gi μ (w + 6) s = gi μ 83 s
theorem inv_HF {μ : Mem} {D : Dr} (hs : hsP μ) (h : InvH μ D) : HF μ (gp μ 1) (dn D 0) (dn D 1) (dn D 2) := by
  obtain ⟨hD, ⟨a0, a1, a2, a3, a4, a5, aR, aD, aS⟩, s0, sR, sD, sS⟩ := h
  obtain ⟨h5, h5', h6⟩ := ok5 hD
  obtain ⟨o0, o1, o2, o3, o4, o5, oR, oD⟩ := hD
  have e0 := (isB_clamp o0 (by omega)).1
  have e1 := (isB_clamp o1 (by omega)).1
  have e2 := (isB_clamp o2 (by omega)).1
  refine ⟨by rcases hs with ⟨z, _⟩ | ⟨z, _⟩ <;> omega, h5, h5', h6, a0.trans e0, (s0 0 (by omega)).trans e0, a1.trans e1, (s0 1 (by omega)).trans e1, a2.trans e2, (s0 2 (by omega)).trans e2, ?_, ?_, ?_, fun r hr => ?_, fun d hd => ?_, fun s hs => ?_⟩
  · rw [a3, s0 3 (by omega)]
    rcases o3 with z | ⟨n, z1, z2⟩
    · exact ⟨0, z, z, by omega, by omega⟩
    · exact ⟨n, z1, z1, by omega, Or.inl z2⟩
  · obtain ⟨k, k1, k2⟩ := o4
    exact ⟨k, a4.trans k1, (s0 4 (by omega)).trans k1, k2⟩
  · obtain ⟨k, k1, k2⟩ := o5
    exact ⟨k, a5.trans k1, (s0 5 (by omega)).trans k1, k2⟩
  · rw [(aR r hr).2.1, (aR r hr).2.2, (sR r hr).1, (sR r hr).2]; exact ⟨rfl, rfl, (oR r hr).2⟩
  · rw [(aD d hd).1, (aD d hd).2, (sD d hd).1, (sD d hd).2]; exact ⟨rfl, rfl, oD d hd⟩
  · rw [aS s hs, sS s hs]
theorem isN_of {μ : Mem} {c k n b : Nat} (h : gi μ c k = nI n) (hn : n ≤ b) (hb : b < 2 ^ 31) : isN μ c k b := by
  unfold isN gn
  rw [h, nI_clamp (by omega)]
  exact ⟨rfl, hn⟩
theorem gn_of {μ : Mem} {c k n : Nat} (h : gi μ c k = nI n) (hb : n < 2 ^ 31) : gn μ c k = n := by
  unfold gn
  rw [h, nI_clamp hb]
theorem out_R {p : Int32} {n : Nat} (hb : n < 2 ^ 31) (hn : ¬ (p < 0 ∨ nI n ≤ p)) : p = nI p.toNatClampNeg ∧ p.toNatClampNeg < n := by
  have h := in_R ⟨n, rfl, Nat.le_refl n⟩ hb hn
  rw [nI_clamp hb] at h
  exact h
theorem st_room {μ : Mem} (hI : Inv μ) (p1 p2 : Int32) : pre_X8_room p1 p2 μ ∧ ∀ x m, post_X8_room p1 p2 μ x m → pre_X9_room p1 p2 m ∧ ∀ y m', post_X9_room p1 p2 m y m' → x = y ∧ Inv m' := by
  have hI0 := hI
  obtain ⟨hs, hT, hl, D, hH, ⟨sO, sE⟩, hP, hIm, hF⟩ := hI
  obtain ⟨hw, h5, h5', h6, r0, r0', q0, q0', s0, s0', hc, hk, hn, hR, hQ, hS⟩ := inv_HF hs hH
  refine ⟨⟨hw, isN_of r0 h5 (by omega)⟩, ?_⟩
  rintro x m ⟨hx, rfl⟩
  refine ⟨isN_of r0' h5 (by omega), ?_⟩
  rintro y m' ⟨hy, rfl⟩
  refine ⟨?_, inv_kp hI0 (kp_0 _)⟩
  rw [hx, hy, r0, r0']
  by_cases z : p1 < 0 ∨ nI (dn D 0) ≤ p1
  · rw [if_pos z, if_pos z]
  · rw [if_neg z, if_neg z]
    obtain ⟨e1, e2⟩ := out_R (by omega) z
    generalize p1.toNatClampNeg = r at e1 e2
    rw [sE.2.2.2.2.2.1 r e2, sE.2.2.2.2.2.2 r e2, (hR r e2).1, (hR r e2).2.1, sE.2.2.2.1]
theorem st_doing {μ : Mem} (hI : Inv μ) (p1 p2 : Int32) : pre_X8_doing p1 p2 μ ∧ ∀ x m, post_X8_doing p1 p2 μ x m → pre_X9_doing p1 p2 m ∧ ∀ y m', post_X9_doing p1 p2 m y m' → x = y ∧ Inv m' := by
  have hI0 := hI
  obtain ⟨hs, hT, hl, D, hH, ⟨sO, sE⟩, hP, hIm, hF⟩ := hI
  obtain ⟨hw, h5, h5', h6, r0, r0', q0, q0', s0, s0', hc, hk, hn, hR, hQ, hS⟩ := inv_HF hs hH
  refine ⟨⟨hw, isN_of q0 h5' (by omega)⟩, ?_⟩
  rintro x m ⟨hx, rfl⟩
  refine ⟨isN_of q0' h5' (by omega), ?_⟩
  rintro y m' ⟨hy, rfl⟩
  refine ⟨?_, inv_kp hI0 (kp_0 _)⟩
  rw [hx, hy, q0, q0']
  by_cases z : p1 < 0 ∨ nI (dn D 1) ≤ p1
  · rw [if_pos z, if_pos z]
  · rw [if_neg z, if_neg z]
    obtain ⟨e1, e2⟩ := out_R (by omega) z
    rw [(hQ _ e2).1, (hQ _ e2).2.1]
theorem st_suspect {μ : Mem} (hI : Inv μ) (p1 : Int32) : pre_X8_suspect p1 μ ∧ ∀ x m, post_X8_suspect p1 μ x m → pre_X9_suspect p1 m ∧ ∀ y m', post_X9_suspect p1 m y m' → x = y ∧ Inv m' := by
  have hI0 := hI
  obtain ⟨hs, hT, hl, D, hH, ⟨sO, sE⟩, hP, hIm, hF⟩ := hI
  obtain ⟨hw, h5, h5', h6, r0, r0', q0, q0', s0, s0', hc, hk, hn, hR, hQ, hS⟩ := inv_HF hs hH
  refine ⟨⟨hw, isN_of s0 h6 (by omega)⟩, ?_⟩
  rintro x m ⟨hx, rfl⟩
  refine ⟨isN_of s0' h6 (by omega), ?_⟩
  rintro y m' ⟨hy, rfl⟩
  refine ⟨?_, inv_kp hI0 (kp_0 _)⟩
  rw [hx, hy, s0, s0']
  by_cases z : p1 < 0 ∨ nI (dn D 2) ≤ p1
  · rw [if_pos z, if_pos z]
  · rw [if_neg z, if_neg z]
    obtain ⟨e1, e2⟩ := out_R (by omega) z
    rw [hS _ e2]
theorem earn_eq {μ : Mem} {w R Q S : Nat} (h : HF μ w R Q S) (h3 : gi μ 17 3 = gi μ 84 3) : earnC μ w = earnM μ := by
  obtain ⟨hw, h5, h5', h6, r0, r0', q0, q0', s0, s0', hc, hk, hn, hR, hQ, hS⟩ := h
  unfold earnC earnM
  rw [gn_of r0 (by omega), gn_of r0' (by omega)]
  exact sumI_c fun r hr => by rw [h3, (hR r hr).2.1]
theorem left_eq {μ : Mem} {w R Q S : Nat} (h : HF μ w R Q S) (h4 : gi μ 17 4 = gi μ 84 4) : leftC μ w (gi μ 17 4) = leftM μ := by
  obtain ⟨hw, h5, h5', h6, r0, r0', q0, q0', s0, s0', ⟨c, c1, c2, c3, c4⟩, hk, hn, hR, hQ, hS⟩ := h
  unfold leftC leftM
  rw [gn_of s0 (by omega), gn_of s0' (by omega), gn_of c1 (by omega), gn_of c2 (by omega), h4]
  exact orI_c fun s hs => by rw [hS s hs, hS c (by omega)]
theorem st_now {μ : Mem} (hI : Inv μ) (p1 : Int32) : pre_X8_now p1 μ ∧ ∀ x m, post_X8_now p1 μ x m → pre_X9_now p1 m ∧ ∀ y m', post_X9_now p1 m y m' → x = y ∧ Inv m' := by
  have hI0 := hI
  obtain ⟨hs, hT, hl, D, hH, ⟨sO, sE⟩, hP, hIm, hF⟩ := hI
  have hh := inv_HF hs hH
  obtain ⟨hw, h5, h5', h6, r0, r0', q0, q0', s0, s0', ⟨c, c1, c2, c3, c4⟩, hk, hn, hR, hQ, hS⟩ := hh
  refine ⟨⟨hw, isN_of r0 h5 (by omega), isN_of s0 h6 (by omega), isN_of c1 c3 (by omega)⟩, ?_⟩
  rintro x m ⟨hx, rfl⟩
  refine ⟨⟨isN_of r0' h5 (by omega), isN_of s0' h6 (by omega), isN_of c2 c3 (by omega)⟩, ?_⟩
  rintro y m' ⟨hy, rfl⟩
  refine ⟨?_, inv_kp hI0 (kp_0 _)⟩
  obtain ⟨e0, e1, e2, e3, e4, _, _⟩ := sE
  rw [hx, hy, left_eq (inv_HF hs hH) e4, earn_eq (inv_HF hs hH) e3, e0, e1, e2, e3, e4, hP.2.2.1]
theorem st_count {μ : Mem} (hI : Inv μ) (p1 : Int32) : pre_X8_count p1 μ ∧ ∀ x m, post_X8_count p1 μ x m → pre_X9_count p1 m ∧ ∀ y m', post_X9_count p1 m y m' → x = y ∧ Inv m' := by
  have hI0 := hI
  obtain ⟨hs, hT, hl, D, hH, ⟨sO, sE⟩, hP, hIm, hF⟩ := hI
  obtain ⟨hw, h5, h5', h6, r0, r0', q0, q0', s0, s0', ⟨c, c1, c2, c3, c4⟩, ⟨k, k1, k2, _⟩, ⟨n, n1, n2, _⟩, hR, hQ, hS⟩ := inv_HF hs hH
  refine ⟨hw, ?_⟩
  rintro x m ⟨hx, rfl⟩
  refine ⟨trivial, ?_⟩
  rintro y m' ⟨hy, rfl⟩
  refine ⟨?_, inv_kp hI0 (kp_0 _)⟩
  rw [hx, hy, r0, r0', q0, q0', s0, s0', c1, c2, k1, k2, n1, n2, hF.2.1, hT.2.1]
theorem st_trace {μ : Mem} (hI : Inv μ) : pre_X8_trace μ ∧ ∀ x m, post_X8_trace μ x m → pre_X9_trace m ∧ ∀ y m', post_X9_trace m y m' → x = y ∧ Inv m' := by
  refine ⟨trivial, ?_⟩
  rintro x m ⟨hx, rfl⟩
  refine ⟨trivial, ?_⟩
  rintro y m' ⟨hy, rfl⟩
  exact ⟨by rw [hx, hy]; exact hI.2.2.1.symm, inv_kp hI (kp_0 _)⟩
theorem st_tempers {μ : Mem} (hI : Inv μ) : pre_X8_tempers μ ∧ ∀ x m, post_X8_tempers μ x m → pre_X9_tempers m ∧ ∀ y m', post_X9_tempers m y m' → x = y ∧ Inv m' := by
  have hI0 := hI
  obtain ⟨hs, hT, hl, D, hH, ⟨sO, sE⟩, hP, hIm, f1, f2, f3⟩ := hI
  obtain ⟨hw, h5, h5', h6, r0, r0', q0, q0', s0, s0', hc, hk, hn, hR, hQ, hS⟩ := inv_HF hs hH
  have g : gn μ 75 24 = gn μ 71 2 := by unfold gn; rw [f2]
  refine ⟨⟨hw, f1, fun i hi => ?_⟩, ?_⟩
  · obtain ⟨_, _, d, hd, e⟩ := f3 i hi
    rw [e]; exact vp_in_nI (by omega) (by omega)
  rintro x m ⟨hx, rfl⟩
  refine ⟨⟨by unfold isN; rw [g, f2]; exact f1, fun i hi => ?_⟩, ?_⟩
  · rw [g] at hi
    obtain ⟨e1, _, d, hd, e⟩ := f3 i hi
    rw [e1, e]; exact vp_in_nI (by omega) (by omega)
  rintro y m' ⟨hy, rfl⟩
  refine ⟨?_, inv_kp hI0 (kp_0 _)⟩
  rw [hx, hy, g]
  refine orI_c fun t ht => ?_
  unfold tempF
  have key : (∀ i, i < gn m 71 2 → gi m (gp m 1 + 4) (gi m 72 i).toNatClampNeg * nI t = gi m 73 i) ↔ (∀ i, i < gn m 71 2 → gi m 81 (gi m 88 i).toNatClampNeg * nI t = gi m 89 i) := by
    constructor
    · intro z i hi
      obtain ⟨e1, e2, d, hd, e⟩ := f3 i hi
      have := z i hi
      rw [e, nI_clamp (by omega), (hQ d hd).1] at this
      rw [e1, e2, e, nI_clamp (by omega)]; exact this
    · intro z i hi
      obtain ⟨e1, e2, d, hd, e⟩ := f3 i hi
      have := z i hi
      rw [e1, e2, e, nI_clamp (by omega)] at this
      rw [e, nI_clamp (by omega), (hQ d hd).1]; exact this
  by_cases z : ∀ i, i < gn m 71 2 → gi m (gp m 1 + 4) (gi m 72 i).toNatClampNeg * nI t = gi m 73 i
  · rw [if_pos z, if_pos (key.mp z)]
  · rw [if_neg z, if_neg (fun q => z (key.mpr q))]
theorem st_which {μ : Mem} (hI : Inv μ) (p1 p2 : Int32) : pre_X8_which p1 p2 μ ∧ ∀ x m, post_X8_which p1 p2 μ x m → pre_X9_which p1 p2 m ∧ ∀ y m', post_X9_which p1 p2 m y m' → x = y ∧ Inv m' := by
  have hI0 := hI
  obtain ⟨hs, hT, hl, D, hH, ⟨sO, sE⟩, hP, hIm, hF⟩ := hI
  obtain ⟨hw, h5, h5', h6, r0, r0', q0, q0', s0, s0', hc, hk, hn, hR, hQ, hS⟩ := inv_HF hs hH
  refine ⟨⟨hw, isN_of q0 h5' (by omega), isN_of r0 h5 (by omega)⟩, ?_⟩
  rintro x m ⟨hx, rfl⟩
  refine ⟨⟨isN_of q0' h5' (by omega), isN_of r0' h5 (by omega)⟩, ?_⟩
  rintro y m' ⟨hy, rfl⟩
  refine ⟨?_, inv_kp hI0 (kp_0 _)⟩
  rw [hx, hy, q0, q0', gn_of r0 (by omega), gn_of r0' (by omega)]
  by_cases z : p1 < 0 ∨ nI (dn D 1) ≤ p1 ∨ p2 < 0 ∨ 30 < p2
  · rw [if_pos z, if_pos z]
  · rw [if_neg z, if_neg z]
    obtain ⟨e1, e2⟩ := out_R (n := dn D 1) (by omega) (fun q => z (by rcases q with q | q; exact Or.inl q; exact Or.inr (Or.inl q)))
    refine orI_c fun r hr => ?_
    unfold whichF
    rw [(hQ _ e2).1, (hR r hr).1]
theorem st_rate {μ : Mem} (hI : Inv μ) (p1 p2 : Int32) : pre_X8_rate p1 p2 μ ∧ ∀ x m, post_X8_rate p1 p2 μ x m → pre_X9_rate p1 p2 m ∧ ∀ y m', post_X9_rate p1 p2 m y m' → x = y ∧ Inv m' := by
  have hI0 := hI
  obtain ⟨hs, hT, hl, D, hH, ⟨sO, sE⟩, hP, hIm, hF⟩ := hI
  have hh := inv_HF hs hH
  obtain ⟨hw, h5, h5', h6, r0, r0', q0, q0', s0, s0', hc, hk, hn, hR, hQ, hS⟩ := hh
  refine ⟨⟨hw, isN_of r0 h5 (by omega)⟩, ?_⟩
  intro x m h
  unfold post_X8_rate at h
  rw [r0] at h
  by_cases z : p1 < 0 ∨ 5 < p1 ∨ p2 < 0 ∨ nI (dn D 0) ≤ p2
  · rw [if_pos z] at h
    obtain ⟨hx, rfl⟩ := h
    refine ⟨isN_of r0' h5 (by omega), ?_⟩
    intro y m' h'
    unfold post_X9_rate at h'
    rw [r0', if_pos z] at h'
    obtain ⟨hy, rfl⟩ := h'
    exact ⟨by rw [hx, hy], inv_kp hI0 (kp_0 _)⟩
  · rw [if_neg z] at h
    obtain ⟨hx, hm⟩ := h
    have eg : ∀ c k, gi m c k = gi μ c k := fun c k => by rw [hm]; rfl
    refine ⟨isN_of (by rw [eg]; exact r0') h5 (by omega), ?_⟩
    intro y m' h'
    unfold post_X9_rate at h'
    rw [eg, r0', if_neg z] at h'
    obtain ⟨hy, hm'⟩ := h'
    obtain ⟨e1, e2⟩ := out_R (n := dn D 0) (by omega) (fun q => z (by rcases q with q | q; exact Or.inr (Or.inr (Or.inl q)); exact Or.inr (Or.inr (Or.inr q))))
    have eM : earnM m = earnM μ := by unfold earnM gn; simp only [eg]
    refine ⟨?_, ?_⟩
    · rw [hx, hy, eM, eg, eg, eg, earn_eq (inv_HF hs hH) sE.2.2.2.1, sE.2.2.2.2.2.1 _ e2, (hR _ e2).1, (hR _ e2).2.1]
    · have eg' : ∀ c k, (c = 75 → k ≠ 0) → gi m' c k = gi μ c k := fun c k hc => by
        rw [hm', ← eg]
        show gi (ui m 75 0 0) c k = _
        rw [gi_ui, if_neg (by omega)]
      have hp : ∀ k, gp m' k = gp μ k := fun k => by rw [hm', hm]; rfl
      obtain ⟨b1, b2, b3, D', b4, b5, b6, b7, b8⟩ := inv_kp hI0 (m := (m'.1, μ.2)) ⟨fun c hc k => eg' c k (by omega), fun k hk => eg' 75 k (fun _ => hk), rfl⟩
      refine ⟨by unfold hsP at b1 ⊢; rw [hp, hp]; exact b1, b2, ?_, D', ⟨b4.1, by rw [hp]; exact b4.2.1, b4.2.2⟩, b5, b6, b7, b8⟩
      rw [hm', hm]
      rw [gl_ul, if_pos ⟨rfl, rfl⟩, gl_ul, if_neg (by omega), gl_ul, if_neg (by omega), gl_ui, gl_ul, if_pos ⟨rfl, rfl⟩, hl]

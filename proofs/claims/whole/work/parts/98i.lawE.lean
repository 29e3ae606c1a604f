/-! next, questions, odds -/
theorem with_have {μ : Mem} {w R Q S : Nat} (h : HF μ w R Q S) (t : Int32) : withC μ w t = havF μ t := by
  obtain ⟨hw, h5, h5', h6, r0, r0', q0, q0', s0, s0', hc, hk, hn, hR, hQ, hS⟩ := h
  unfold withC havF
  rw [gn_of s0 (by omega), gn_of s0' (by omega)]
  refine orI_c fun s hs => ?_
  rw [hS s hs]
  exact shl_b _ s (by omega) (and1 _)
theorem bits_pc : ∀ s, s < 64 → bitsF (nI s) = nI (pcN s) := by decide +kernel
theorem pc_parts : ∀ s, s < 64 → ∀ h, h < 64 → pcN (s &&& h) + pcN (s &&& (63 ^^^ h)) = pcN s := by decide +kernel
theorem pc_sz : ∀ s, s < 64 → pcN s ≤ 6 ∧ (s ≠ 0 → 1 ≤ pcN s) := by decide +kernel
theorem bt_start {askd : Int32} {g : Nat → Int32} {s0 s1 : Int32} : ∀ n, (∀ t, t < n → g t < s0 ∧ g t < s1) → (btF askd g s0 n = (-9, s0) ∧ btF askd g s1 n = (-9, s1)) ∨ btF askd g s0 n = btF askd g s1 n := by
  intro n
  induction n with
  | zero => intro _; exact Or.inl ⟨rfl, rfl⟩
  | succ n ih =>
    intro h
    obtain ⟨h1, h2⟩ := h n (by omega)
    rcases ih (fun t ht => h t (by omega)) with ⟨e1, e2⟩ | e
    · unfold btF
      rw [e1, e2]
      by_cases q : slvI askd (nI n) = 0
      · rw [if_pos ⟨q, h1⟩, if_pos ⟨q, h2⟩]
        exact Or.inr rfl
      · rw [if_neg (fun z => q z.1), if_neg (fun z => q z.1)]
        exact Or.inl ⟨rfl, rfl⟩
    · right
      unfold btF
      rw [e]
theorem bt_c {askd : Int32} {g g' : Nat → Int32} {s0 : Int32} : ∀ n, (∀ t, t < n → g t = g' t) → btF askd g s0 n = btF askd g' s0 n := by
  intro n
  induction n with
  | zero => intro _; rfl
  | succ n ih =>
    intro h
    unfold btF
    rw [ih (fun t ht => h t (by omega)), h n (by omega)]
theorem st_next {μ : Mem} (hI : Inv μ) : pre_X8_next μ ∧ ∀ x m, post_X8_next μ x m → pre_X9_next m ∧ ∀ y m', post_X9_next m y m' → x = y ∧ Inv m' := by
  have hI0 := hI
  obtain ⟨hs, hT, hl, D, hH, ⟨sO, sE⟩, hP, hIm, hF⟩ := hI
  have hh := inv_HF hs hH
  have hh0 := hh
  obtain ⟨hw, h5, h5', h6, r0, r0', q0, q0', s0, s0', ⟨c, c1, c2, c3, c4⟩, hk, hn, hR, hQ, hS⟩ := hh
  have iS := isN_of s0 h6 (by omega)
  have iS' := isN_of s0' h6 (by omega)
  refine ⟨⟨hw, iS, isN_of c1 c3 (by omega)⟩, ?_⟩
  rintro x m ⟨hx, rfl⟩
  refine ⟨⟨iS', isN_of c2 c3 (by omega)⟩, ?_⟩
  rintro y m' ⟨hy, rfl⟩
  refine ⟨?_, inv_kp hI0 (kp_0 _)⟩
  rw [hx, hy]
  unfold bestC bestM
  rw [left_eq hh0 sE.2.2.2.2.1]
  obtain ⟨b1, b2⟩ := leftM_bits iS'
  generalize (leftM m).toNatClampNeg = s at b1 b2
  rw [b1, ones_pc s b2, bits_pc s b2]
  by_cases z : nI (pcN s) ≤ 1
  · rw [if_pos z, if_pos z]
  · rw [if_neg z, if_neg z]
    have pz := (pc_sz s b2).1
    have eg : ∀ t, t < 5 → grC m (gp m 1) (nI s) t = grM m (nI s) t ∧ grM m (nI s) t < nI (pcN s) + 1 ∧ grM m (nI s) t < 100000000 := by
      intro t ht
      unfold grC grM
      rw [with_have hh0]
      obtain ⟨d1, d2⟩ := hav_bits iS' (nI t)
      generalize (havF m (nI t)).toNatClampNeg = h at d1 d2
      have hp := pc_parts s b2 h d2
      have hlt : s &&& h < 64 := Nat.lt_of_le_of_lt ((parts_lt s b2 h d2).1.1) b2
      rw [d1, and_n s b2 h d2, bits_pc s b2, ones_pc s b2, bits_pc _ hlt, ones_pc _ hlt]
      generalize pcN (s &&& h) = a at *
      generalize pcN (s &&& (63 ^^^ h)) = b at *
      rw [← hp]
      have hab : a + b ≤ 6 := by omega
      clear hp hlt
      have key : ∀ a, a ≤ 6 → ∀ b, b ≤ 6 → a + b ≤ 6 → ((if nI a < nI (a + b) - nI a then nI (a + b) - nI a else nI a) = (if nI (a + b) - nI a < nI a then nI a else nI (a + b) - nI a)) ∧ (if nI (a + b) - nI a < nI a then nI a else nI (a + b) - nI a) < nI (a + b) + 1 ∧ (if nI (a + b) - nI a < nI a then nI a else nI (a + b) - nI a) < 100000000 := by decide +kernel
      exact key a (by omega) b (by omega) hab
    rw [bt_c 5 (fun t ht => (eg t ht).1), sE.2.2.2.2.1]
    rcases bt_start (askd := gi m 84 4) (s0 := nI (pcN s) + 1) (s1 := 100000000) 5 (fun t ht => (eg t ht).2) with ⟨e1, e2⟩ | e
    · rw [e1, e2]
    · rw [e]
theorem st_questions {μ : Mem} (hI : Inv μ) : pre_X8_questions μ ∧ ∀ x m, post_X8_questions μ x m → pre_X9_questions m ∧ ∀ y m', post_X9_questions m y m' → x = y ∧ Inv m' := by
  have hI0 := hI
  obtain ⟨hs, hT, hl, D, hH, ⟨sO, sE⟩, hP, hIm, hF⟩ := hI
  have hh := inv_HF hs hH
  have hh0 := hh
  obtain ⟨hw, h5, h5', h6, r0, r0', q0, q0', s0, s0', ⟨c, c1, c2, c3, c4⟩, hk, hn, hR, hQ, hS⟩ := hh
  have iS := isN_of s0 h6 (by omega)
  have iS' := isN_of s0' h6 (by omega)
  refine ⟨⟨hw, iS, isN_of c1 c3 (by omega)⟩, ?_⟩
  rintro x m ⟨hf, T, s, e1, hs64, hx, hTq⟩
  have e : ∀ c, c < 69 ∨ 70 < c → ∀ k, gi m c k = gi μ c k := fun c hc k => hf.1 c (by simp <;> omega) k
  refine ⟨⟨isN_of (by rw [e 77 (by omega)]; exact s0') h6 (by omega), isN_of (by rw [e 77 (by omega)]; exact c2) c3 (by omega)⟩, ?_⟩
  rintro y m' ⟨hf', h75, T', s', e1', hs64', hy, hTq'⟩
  have kp1 : kp μ m := kp_fr hf (by simp)
  have kp2 : kp m m' := kp_f75 hf' (by simp) h75
  refine ⟨?_, inv_kp hI0 (kp_trans kp1 kp2)⟩
  have eL : leftM m = leftM μ := by
    unfold leftM gn
    rw [e 77 (by omega), e 77 (by omega), e 84 (by omega)]
    exact orI_c fun s _ => by rw [e 83 (by omega), e 83 (by omega)]
  rw [left_eq hh0 sE.2.2.2.2.1, ← eL, e1'] at e1
  have es : s' = s := (nI_eq (by omega) (by omega)).mp e1
  subst es
  have hhv : ∀ t, hvM m t = hvC μ (gp μ 1) t := fun t => by
    unfold hvM hvC
    rw [with_have hh0]
    have : havF m (nI t) = havF μ (nI t) := by
      unfold havF gn
      rw [e 77 (by omega)]
      exact orI_c fun s _ => by rw [e 83 (by omega)]
    rw [this]
  have hv64 : ∀ t, hvM m t < 64 := fun t => by rw [hhv]; exact (with_bits iS _).2
  have key : ∀ q, q ≤ s' → T q = T' q ∧ T' q ≤ pcN q - 1 := by
    intro q
    induction q using Nat.strongRecOn with
    | _ q ih =>
      intro hq
      have hq64 : q < 64 := by omega
      rw [hTq q hq, hTq' q hq64]
      have hc1 : stp T (hvC μ (gp μ 1)) 6 q 5 = stp T' (hvM m) 6 q 5 := by
        rw [stp_congr (T' := T') hq64 (fun p hp => (ih p hp (by omega)).1) 5 (fun k _ => by rw [← hhv]; exact hv64 k)]
        exact stp_hv 5 (fun k _ => (hhv k).symm)
      rw [hc1]
      -- with either start the least of the parting traits, or the start
      have hst : ∀ t, t ≤ 5 → (stp T' (hvM m) 6 q t = 6 ∧ stp T' (hvM m) 100000000 q t = 100000000) ∨ (stp T' (hvM m) 6 q t = stp T' (hvM m) 100000000 q t ∧ stp T' (hvM m) 6 q t ≤ pcN q - 1 ∧ 1 ≤ stp T' (hvM m) 6 q t) := by
        intro t
        induction t with
        | zero => intro _; exact Or.inl ⟨rfl, rfl⟩
        | succ t iht =>
          intro ht
          have iht := iht (by omega)
          unfold stp
          by_cases z : q &&& hvM m t = 0 ∨ q &&& (63 ^^^ hvM m t) = 0
          · rw [if_pos z, if_pos z]; exact iht
          · rw [if_neg z, if_neg z]
            obtain ⟨_, z1 | z1 | ⟨z1, z2⟩⟩ := parts_lt q hq64 (hvM m t) (hv64 t)
            · exact absurd (Or.inl z1) z
            · exact absurd (Or.inr z1) z
            have hp := pc_parts q hq64 (hvM m t) (hv64 t)
            have a1 := (ih _ z1 (by omega)).2
            have a2 := (ih _ z2 (by omega)).2
            have p1 := (pc_sz (q &&& hvM m t) (by omega)).2 (fun y => z (Or.inl y))
            have p2 := (pc_sz (q &&& (63 ^^^ hvM m t)) (by omega)).2 (fun y => z (Or.inr y))
            have p6 := (pc_sz q hq64).1
            generalize T' (q &&& hvM m t) = A at *
            generalize T' (q &&& (63 ^^^ hvM m t)) = B at *
            have hmax : 1 + max A B ≤ pcN q - 1 := by omega
            rcases iht with ⟨y1, y2⟩ | ⟨y1, y2, y3⟩
            · rw [y1, y2]
              right
              omega
            · rw [← y1]
              right
              omega
      have p6 := (pc_sz q hq64).1
      rcases hst 5 (by omega) with ⟨y1, y2⟩ | ⟨y1, y2, y3⟩
      · rw [y1, y2, if_pos (by omega), if_pos rfl]; exact ⟨rfl, by omega⟩
      · rw [← y1, if_neg (by omega), if_neg (by omega)]; exact ⟨rfl, y2⟩
  rw [hx, hy, (key s' (Nat.le_refl _)).1]
theorem odd_q : ∀ a, a ≤ 30 → ∀ n, n ≤ 162 → (nI a < nI n ↔ nI a - nI n < 0) := by decide +kernel
theorem mul_n (a b : Nat) : nI a * nI b = nI (a * b) := (Int32.ofNat_mul a b).symm
theorem st_odds {μ : Mem} (hI : Inv μ) (p1 p2 p3 p4 p5 : Int32) : pre_X8_odds p1 p2 p3 p4 p5 μ ∧ ∀ x m, post_X8_odds p1 p2 p3 p4 p5 μ x m → pre_X9_odds p1 p2 p3 p4 p5 m ∧ ∀ y m', post_X9_odds p1 p2 p3 p4 p5 m y m' → x = y ∧ Inv m' := by
  have hI0 := hI
  obtain ⟨hs, hT, hl, D, hH, ⟨sO, sE⟩, hP, hIm, hF⟩ := hI
  obtain ⟨hw, h5, h5', h6, r0, r0', q0, q0', s0, s0', hc, hk, hn, hR, hQ, hS⟩ := inv_HF hs hH
  refine ⟨⟨hw, isN_of r0 h5 (by omega), isN_of q0 h5' (by omega)⟩, ?_⟩
  rintro x m ⟨hf, hx1, hx2⟩
  have e : ∀ c, c ≠ 74 → ∀ k, gi m c k = gi μ c k := fun c hc k => hf.1 c (by simp <;> omega) k
  refine ⟨⟨isN_of (by rw [e 77 (by omega)]; exact r0') h5 (by omega), isN_of (by rw [e 77 (by omega)]; exact q0') h5' (by omega)⟩, ?_⟩
  rintro y m' ⟨rfl, hy1, hy2⟩
  refine ⟨?_, inv_kp hI0 (kp_trans (kp_fr hf (by simp)) (kp_0 _))⟩
  rw [r0, q0] at hx1 hx2
  rw [e 77 (by omega), e 77 (by omega), r0', q0'] at hy1 hy2
  by_cases z : oddBad (nI (dn D 0)) (nI (dn D 1)) p1 p2 p3 p4 p5
  · rw [hx1 z, hy1 z]
  · rw [hx2 z, hy2 z, e 84 (by omega), sE.2.2.2.1]
    by_cases z2 : slvI (gi μ 84 3) p1 = 1
    · rw [if_pos z2, if_pos z2]
    · rw [if_neg z2, if_neg z2]
      unfold oddBad at z
      obtain ⟨e1, e2⟩ := out_R (p := p1) (n := dn D 0) (by omega) (fun q => z (by rcases q with q | q; exact Or.inl q; exact Or.inr (Or.inl q)))
      obtain ⟨d1, d2⟩ := out_R (p := p2) (n := dn D 1) (by omega) (fun q => z (by rcases q with q | q; exact Or.inr (Or.inr (Or.inl q)); exact Or.inr (Or.inr (Or.inr (Or.inl q)))))
      have n6 : p4.toNatClampNeg ≤ 6 := by
        have a1 : ¬ p4 < 0 := fun q => z (Or.inr (Or.inr (Or.inr (Or.inr (Or.inr (Or.inr (Or.inr (Or.inr (Or.inl q)))))))))
        have a2 : ¬ (6 : Int32) < p4 := fun q => z (Or.inr (Or.inr (Or.inr (Or.inr (Or.inr (Or.inr (Or.inr (Or.inr (Or.inr q)))))))))
        obtain ⟨j, hj, rfl⟩ := nI_of a1
        rw [nI_clamp hj]
        have a3 : ¬ (6 : Int32).toInt < (nI j).toInt := fun q => a2 (i_lt.mpr q)
        rw [nI_toInt hj, show (6 : Int32).toInt = 6 from rfl] at a3
        omega
      have eq : oddU p3.toNatClampNeg p4.toNatClampNeg (oddQC μ p1 p2) = oddU p3.toNatClampNeg p4.toNatClampNeg (oddQM m p1 p2) := by
        unfold oddU
        refine sumN_congr _ fun i hi => ?_
        have : oddQC μ p1 p2 i = oddQM m p1 p2 i := by
          unfold oddQC oddQM
          rw [e1] at z2
          generalize p1.toNatClampNeg = r at *
          generalize p2.toNatClampNeg = d at *
          obtain ⟨a, ha, ha30⟩ := sO.2.2.2.2.2.1 r e2 z2
          obtain ⟨ru, hru, hru9⟩ := (hQ d d2).2.2.1
          obtain ⟨te, hte, hte3⟩ := (hR r e2).2.2
          rw [e 84 (by omega), e 81 (by omega), e 79 (by omega), sE.2.2.2.2.2.1 r e2, (hQ d d2).1, (hR r e2).1, ha, hru, hte, mul_n, mul_n, mul_n, mul_n, ← Nat.mul_assoc]
          have hb : i * ru * te ≤ 162 := by
            have h1 : i * ru ≤ 6 * 9 := Nat.mul_le_mul (by omega) hru9
            have h2 : i * ru * te ≤ (6 * 9) * 3 := Nat.mul_le_mul h1 hte3
            omega
          exact decide_eq_decide.mpr (odd_q a ha30 _ hb)
        rw [this]
      unfold oddsA
      rw [eq]

/-! an item keeps a draft well -/
theorem lt_nI {x : Int32} {b c : Nat} {q : Int32} (h : isB x b) (hb : b < 1000) (hq : q = nI c) (hc : c < 1000) (hl : x < q) : isB (x + 1) c := by
  obtain ⟨n, rfl, hn⟩ := h
  rw [hq] at hl
  have := (nI_ltI (by omega) (by omega)).mp hl
  exact ⟨n + 1, nI_1 n, by omega⟩
theorem bd_ok {T : Nat → Int32} {n s : Nat} {D D' : Dr} {b : Nat} (hD : okD D) (h : BdR T n s D b D') : okD D' := by
  obtain ⟨o0, o1, o2, o3, o4, o5, oR, oD⟩ := hD
  unfold BdR at h
  by_cases h1 : T s = 114
  · rw [if_pos h1] at h
    obtain ⟨hp, v, b1, v', b2, v2, n1, n2, n3, rfl⟩ := h
    have e0 : dn (ud (ud (ud (ud D 1 (dn D 0) v) 2 (dn D 0) v') 3 (dn D 0) v2) 0 0 (D 0 0 + 1)) 0 = dn D 0 + 1 := dn_succ o0 (by omega) (by simp [ud_at])
    have e1 : dn (ud (ud (ud (ud D 1 (dn D 0) v) 2 (dn D 0) v') 3 (dn D 0) v2) 0 0 (D 0 0 + 1)) 1 = dn D 1 := by simp [dn, ud_at]
    have e2 : dn (ud (ud (ud (ud D 1 (dn D 0) v) 2 (dn D 0) v') 3 (dn D 0) v2) 0 0 (D 0 0 + 1)) 2 = dn D 2 := by simp [dn, ud_at]
    unfold okD
    rw [e0, e1, e2]
    refine ⟨?_, by simpa [ud_at] using o1, by simpa [ud_at] using o2, by simpa [ud_at] using o3, by simpa [ud_at] using o4, by simpa [ud_at] using o5, fun i hi => ?_, fun i hi => by simpa [ud_at] using oD i hi⟩
    · simpa [ud_at] using lt_nI o0 (by omega) (c := 5) rfl (by omega) hp
    · have q1 := num_bd (q := 30) (by omega) n1
      have q2 := num_bd (q := 3) (by omega) n2
      by_cases ei : i = dn D 0
      · simpa [ud_at, ei] using And.intro q1 q2
      · simpa [ud_at, ei] using oR i (by omega)
  rw [if_neg h1] at h
  by_cases h1 : T s = 100
  · rw [if_pos h1] at h
    obtain ⟨hp, v, b1, v', n1, n2, rfl⟩ := h
    have e1 : dn (ud (ud (ud D 4 (dn D 1) v) 5 (dn D 1) v') 0 1 (D 0 1 + 1)) 1 = dn D 1 + 1 := dn_succ o1 (by omega) (by simp [ud_at])
    have e0 : dn (ud (ud (ud D 4 (dn D 1) v) 5 (dn D 1) v') 0 1 (D 0 1 + 1)) 0 = dn D 0 := by simp [dn, ud_at]
    have e2 : dn (ud (ud (ud D 4 (dn D 1) v) 5 (dn D 1) v') 0 1 (D 0 1 + 1)) 2 = dn D 2 := by simp [dn, ud_at]
    unfold okD
    rw [e0, e1, e2]
    refine ⟨by simpa [ud_at] using o0, ?_, by simpa [ud_at] using o2, by simpa [ud_at] using o3, by simpa [ud_at] using o4, by simpa [ud_at] using o5, fun i hi => by simpa [ud_at] using oR i hi, fun i hi => ?_⟩
    · simpa [ud_at] using lt_nI o1 (by omega) (c := 5) rfl (by omega) hp
    · have q1 := num_bd (q := 9) (by omega) n1
      have q2 := num_bd (q := 30) (by omega) n2
      by_cases ei : i = dn D 1
      · simpa [ud_at, ei] using And.intro q1 q2
      · simpa [ud_at, ei] using oD i (by omega)
  rw [if_neg h1] at h
  by_cases h1 : T s = 115
  · rw [if_pos h1] at h
    obtain ⟨hp, v, n1, rfl⟩ := h
    have e2 : dn (ud (ud D 6 (dn D 2) v) 0 2 (D 0 2 + 1)) 2 = dn D 2 + 1 := dn_succ o2 (by omega) (by simp [ud_at])
    have e0 : dn (ud (ud D 6 (dn D 2) v) 0 2 (D 0 2 + 1)) 0 = dn D 0 := by simp [dn, ud_at]
    have e1 : dn (ud (ud D 6 (dn D 2) v) 0 2 (D 0 2 + 1)) 1 = dn D 1 := by simp [dn, ud_at]
    unfold okD
    rw [e0, e1, e2]
    refine ⟨by simpa [ud_at] using o0, by simpa [ud_at] using o1, ?_, ?_, by simpa [ud_at] using o4, by simpa [ud_at] using o5, fun i hi => by simpa [ud_at] using oR i hi, fun i hi => by simpa [ud_at] using oD i hi⟩
    · simpa [ud_at] using lt_nI o2 (by omega) (c := 6) rfl (by omega) hp
    · rcases o3 with z | ⟨k, z1, z2⟩
      · exact Or.inl (by simpa [ud_at] using z)
      · exact Or.inr ⟨k, by simpa [ud_at] using z1, by omega⟩
  rw [if_neg h1] at h
  by_cases h1 : T s = 99
  · rw [if_pos h1] at h
    obtain ⟨hp, v, n1, rfl⟩ := h
    have e0 : dn (ud (ud D 0 3 v) 0 6 1) 0 = dn D 0 := by simp [dn, ud_at]
    have e1 : dn (ud (ud D 0 3 v) 0 6 1) 1 = dn D 1 := by simp [dn, ud_at]
    have e2 : dn (ud (ud D 0 3 v) 0 6 1) 2 = dn D 2 := by simp [dn, ud_at]
    unfold okD
    rw [e0, e1, e2]
    refine ⟨by simpa [ud_at] using o0, by simpa [ud_at] using o1, by simpa [ud_at] using o2, ?_, by simpa [ud_at] using o4, by simpa [ud_at] using o5, fun i hi => by simpa [ud_at] using oR i hi, fun i hi => by simpa [ud_at] using oD i hi⟩
    obtain ⟨k, hk, hk6⟩ := o2
    have ek : dn D 2 = k := by unfold dn; rw [hk, nI_clamp (by omega)]
    rcases Nat.eq_zero_or_pos k with z | z
    · exfalso
      obtain ⟨s', _, _, hb, _⟩ := n1
      have x2 : nI (nvN T s' (b - s')) ≤ D 0 2 - 1 := Classical.byContradiction fun z => hb (Or.inr (Or.inr (Or.inr (Or.inr z))))
      have x3 : ¬ 1000 ≤ nvN T s' (b - s') := fun z => hb (Or.inr (Or.inr (Or.inl z)))
      rw [hk, z, show nI 0 - 1 = -1 from by decide, i_le, nI_toInt (by omega), show (-1 : Int32).toInt = -1 from rfl] at x2
      omega
    · obtain ⟨j, rfl⟩ : ∃ j, k = j + 1 := ⟨k - 1, by omega⟩
      rw [hk, nI_pred] at n1
      obtain ⟨q, hq, hq2⟩ := num_bd (by omega) n1
      exact Or.inr ⟨q, by simpa [ud_at] using hq, by omega⟩
  rw [if_neg h1] at h
  by_cases h1 : T s = 119
  · rw [if_pos h1] at h
    obtain ⟨hp, v, n1, rfl⟩ := h
    have e0 : dn (ud (ud D 0 4 v) 0 7 1) 0 = dn D 0 := by simp [dn, ud_at]
    have e1 : dn (ud (ud D 0 4 v) 0 7 1) 1 = dn D 1 := by simp [dn, ud_at]
    have e2 : dn (ud (ud D 0 4 v) 0 7 1) 2 = dn D 2 := by simp [dn, ud_at]
    unfold okD
    rw [e0, e1, e2]
    exact ⟨by simpa [ud_at] using o0, by simpa [ud_at] using o1, by simpa [ud_at] using o2, by simpa [ud_at] using o3, by simpa [ud_at] using num_bd (q := 9) (by omega) n1, by simpa [ud_at] using o5, fun i hi => by simpa [ud_at] using oR i hi, fun i hi => by simpa [ud_at] using oD i hi⟩
  rw [if_neg h1] at h
  by_cases h1 : T s = 110
  · rw [if_pos h1] at h
    obtain ⟨hp, v, n1, rfl⟩ := h
    have e0 : dn (ud (ud D 0 5 v) 0 8 1) 0 = dn D 0 := by simp [dn, ud_at]
    have e1 : dn (ud (ud D 0 5 v) 0 8 1) 1 = dn D 1 := by simp [dn, ud_at]
    have e2 : dn (ud (ud D 0 5 v) 0 8 1) 2 = dn D 2 := by simp [dn, ud_at]
    unfold okD
    rw [e0, e1, e2]
    exact ⟨by simpa [ud_at] using o0, by simpa [ud_at] using o1, by simpa [ud_at] using o2, by simpa [ud_at] using o3, by simpa [ud_at] using o4, by simpa [ud_at] using num_bd (q := 500) (by omega) n1, fun i hi => by simpa [ud_at] using oR i hi, fun i hi => by simpa [ud_at] using oD i hi⟩
  rw [if_neg h1] at h
  exact h.elim
theorem it_ok {T : Nat → Int32} {n s : Nat} {D D' : Dr} {b : Nat} (hD : okD D) (h : ItR T n s D b D') : okD D' := by
  obtain ⟨_, h, _⟩ := h
  exact bd_ok hD h
theorem D0_ok : okD D0 := by
  refine ⟨⟨0, by decide, by omega⟩, ⟨0, by decide, by omega⟩, ⟨0, by decide, by omega⟩, Or.inl (by decide), ⟨1, by decide, by omega⟩, ⟨120, by decide, by omega⟩, fun i hi => ?_, fun i hi => ?_⟩
  · rw [show dn D0 0 = 0 from by decide] at hi; omega
  · rw [show dn D0 1 = 0 from by decide] at hi; omega
theorem ok_isN {w : Nat} {m : Mem} {D : Dr} (hD : okD D) (hA : agC w m D) : isN m w 0 5 ∧ isN m w 4 5 ∧ isN m w 7 6 := by
  obtain ⟨o0, o1, o2, _⟩ := hD
  obtain ⟨a0, a1, a2, _⟩ := hA
  unfold isN gn
  rw [a0, a1, a2]
  exact ⟨isB_clamp o0 (by omega), isB_clamp o1 (by omega), isB_clamp o2 (by omega)⟩

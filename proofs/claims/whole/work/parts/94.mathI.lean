/-! the draft of a house as a pure value; what an item does to it -/
abbrev Dr : Type := Nat → Nat → Int32
def ud (D : Dr) (c k : Nat) (v : Int32) : Dr := fun a b => if a = c ∧ b = k then v else D a b
theorem ud_at (D : Dr) (c k : Nat) (v : Int32) (a b : Nat) : ud D c k v a b = if a = c ∧ b = k then v else D a b := rfl
def dn (D : Dr) (k : Nat) : Nat := (D 0 k).toNatClampNeg
def D0 : Dr := fun c k => if c = 0 ∧ k = 4 then 1 else if c = 0 ∧ k = 5 then 120 else 0
def isB (x : Int32) (b : Nat) : Prop := ∃ n : Nat, x = nI n ∧ n ≤ b
def okD (D : Dr) : Prop := isB (D 0 0) 5 ∧ isB (D 0 1) 5 ∧ isB (D 0 2) 6 ∧ (D 0 3 = 0 ∨ ∃ n, D 0 3 = nI n ∧ n < dn D 2) ∧ isB (D 0 4) 9 ∧ isB (D 0 5) 500 ∧ (∀ i, i < dn D 0 → isB (D 1 i) 30 ∧ isB (D 2 i) 3) ∧ (∀ i, i < dn D 1 → isB (D 4 i) 9 ∧ isB (D 5 i) 30)
theorem isB_clamp {x : Int32} {b : Nat} (h : isB x b) (hb : b < 2 ^ 31) : x = nI x.toNatClampNeg ∧ x.toNatClampNeg ≤ b := by
  obtain ⟨n, rfl, hn⟩ := h
  rw [nI_clamp (by omega)]
  exact ⟨rfl, hn⟩
theorem num_bd {T : Nat → Int32} {n a : Nat} {p1 v : Int32} {q b : Nat} (hq : q < 2 ^ 31) (h : NumR T n a p1 (nI q) v b) : isB v q := by
  obtain ⟨s, _, _, hb, rfl⟩ := h
  have h1 : ¬ 1000 ≤ nvN T s (b - s) := fun z => hb (Or.inr (Or.inr (Or.inl z)))
  have h2 : nI (nvN T s (b - s)) ≤ nI q := Classical.byContradiction fun z => hb (Or.inr (Or.inr (Or.inr (Or.inr z))))
  exact ⟨_, rfl, (nI_leI (by omega) hq).mp h2⟩
theorem numr_uniq {T : Nat → Int32} {n a : Nat} {p1 p2 v v' : Int32} {b b' : Nat} (h : NumR T n a p1 p2 v b) (h' : NumR T n a p1 p2 v' b') : v = v' ∧ b = b' := by
  obtain ⟨s, h1, h2, _, rfl⟩ := h
  obtain ⟨s', k1, k2, _, rfl⟩ := h'
  obtain rfl := skb_uniq h1 k1
  obtain rfl := dgb_uniq h2 k2
  exact ⟨rfl, rfl⟩
theorem num_excl {T : Nat → Int32} {n a : Nat} {p1 p2 v : Int32} {b s : Nat} (h : NumR T n a p1 p2 v b) (h' : NumF T n a p1 p2 s) : False := by
  obtain ⟨s, h1, h2, h3, rfl⟩ := h
  obtain ⟨b', k1, k2, k3⟩ := h'
  obtain rfl := skb_uniq h1 k1
  obtain rfl := dgb_uniq h2 k2
  exact h3 k3
theorem numf_uniq {T : Nat → Int32} {n a : Nat} {p1 p2 : Int32} {s s' : Nat} (h : NumF T n a p1 p2 s) (h' : NumF T n a p1 p2 s') : s = s' := by
  obtain ⟨b, h1, _⟩ := h
  obtain ⟨b', k1, _⟩ := h'
  exact skb_uniq h1 k1
theorem numf_le {T : Nat → Int32} {n a : Nat} {p1 p2 : Int32} {s : Nat} (h : NumF T n a p1 p2 s) : s ≤ n := by
  obtain ⟨b, h1, _⟩ := h
  exact h1.2.1
theorem numr_le {T : Nat → Int32} {n a : Nat} {p1 p2 v : Int32} {b : Nat} (h : NumR T n a p1 p2 v b) : a ≤ b ∧ b ≤ n := by
  obtain ⟨s, h1, h2, _⟩ := h
  exact ⟨Nat.le_trans h1.1 h2.1, h2.2.1⟩
theorem nu2_uniq {T : Nat → Int32} {n a : Nat} {p1 p2 q1 q2 : Int32} {s s' : Nat} (h : Nu2F T n a p1 p2 q1 q2 s) (h' : Nu2F T n a p1 p2 q1 q2 s') : s = s' := by
  rcases h with h | ⟨v, b, h1, h2⟩
  · rcases h' with h' | ⟨v', b', k1, k2⟩
    · exact numf_uniq h h'
    · exact (num_excl k1 h).elim
  · rcases h' with h' | ⟨v', b', k1, k2⟩
    · exact (num_excl h1 h').elim
    · obtain ⟨_, rfl⟩ := numr_uniq h1 k1
      exact numf_uniq h2 k2
theorem nu2_excl {T : Nat → Int32} {n a : Nat} {p1 p2 q1 q2 v v' : Int32} {b b' s : Nat} (h1 : NumR T n a p1 p2 v b) (h2 : NumR T n b q1 q2 v' b') (h : Nu2F T n a p1 p2 q1 q2 s) : False := by
  rcases h with h | ⟨w, c, k1, k2⟩
  · exact num_excl h1 h
  · obtain ⟨_, rfl⟩ := numr_uniq h1 k1
    exact num_excl h2 k2
theorem nu2_le {T : Nat → Int32} {n a : Nat} {p1 p2 q1 q2 : Int32} {s : Nat} (h : Nu2F T n a p1 p2 q1 q2 s) : s ≤ n := by
  rcases h with h | ⟨w, c, k1, k2⟩
  · exact numf_le h
  · exact numf_le k2
theorem nu3_uniq {T : Nat → Int32} {n a : Nat} {p1 p2 q1 q2 r1 r2 : Int32} {s s' : Nat} (h : Nu3F T n a p1 p2 q1 q2 r1 r2 s) (h' : Nu3F T n a p1 p2 q1 q2 r1 r2 s') : s = s' := by
  rcases h with h | ⟨v, b, h1, h2⟩
  · rcases h' with h' | ⟨v', b', k1, k2⟩
    · exact numf_uniq h h'
    · exact (num_excl k1 h).elim
  · rcases h' with h' | ⟨v', b', k1, k2⟩
    · exact (num_excl h1 h').elim
    · obtain ⟨_, rfl⟩ := numr_uniq h1 k1
      exact nu2_uniq h2 k2
theorem nu3_excl {T : Nat → Int32} {n a : Nat} {p1 p2 q1 q2 r1 r2 v v' v2 : Int32} {b b' b2 s : Nat} (h1 : NumR T n a p1 p2 v b) (h2 : NumR T n b q1 q2 v' b') (h3 : NumR T n b' r1 r2 v2 b2) (h : Nu3F T n a p1 p2 q1 q2 r1 r2 s) : False := by
  rcases h with h | ⟨w, c, k1, k2⟩
  · exact num_excl h1 h
  · obtain ⟨_, rfl⟩ := numr_uniq h1 k1
    exact nu2_excl h2 h3 k2
theorem nu3_le {T : Nat → Int32} {n a : Nat} {p1 p2 q1 q2 r1 r2 : Int32} {s : Nat} (h : Nu3F T n a p1 p2 q1 q2 r1 r2 s) : s ≤ n := by
  rcases h with h | ⟨w, c, k1, k2⟩
  · exact numf_le h
  · exact nu2_le k2
theorem end_uniq {T : Nat → Int32} {n a b b' : Nat} (h : EndR T n a b) (h' : EndR T n a b') : b = b' := by
  obtain ⟨s, h1, _, _, rfl⟩ := h
  obtain ⟨s', k1, _, _, rfl⟩ := h'
  rw [skb_uniq h1 k1]
theorem end_excl {T : Nat → Int32} {n a b s : Nat} (h : EndR T n a b) (h' : EndF T n a s) : False := by
  obtain ⟨s', h1, h2, h3, _⟩ := h
  obtain ⟨k1, k2⟩ := h'
  obtain rfl := skb_uniq h1 k1
  exact k2 ⟨h2, h3⟩
theorem endf_uniq {T : Nat → Int32} {n a s s' : Nat} (h : EndF T n a s) (h' : EndF T n a s') : s = s' := skb_uniq h.1 h'.1
/-- what stands before the end of an item whose letter is at s -/
def BdR (T : Nat → Int32) (n s : Nat) (D : Dr) (b : Nat) (D' : Dr) : Prop :=
  if T s = 114 then D 0 0 < 5 ∧ ∃ v b1 v' b2 v2, NumR T n (s + 1) 0 30 v b1 ∧ NumR T n b1 0 3 v' b2 ∧ NumR T n b2 0 99 v2 b ∧ D' = ud (ud (ud (ud D 1 (dn D 0) v) 2 (dn D 0) v') 3 (dn D 0) v2) 0 0 (D 0 0 + 1)
  else if T s = 100 then D 0 1 < 5 ∧ ∃ v b1 v', NumR T n (s + 1) 0 9 v b1 ∧ NumR T n b1 1 30 v' b ∧ D' = ud (ud (ud D 4 (dn D 1) v) 5 (dn D 1) v') 0 1 (D 0 1 + 1)
  else if T s = 115 then D 0 2 < 6 ∧ ∃ v, NumR T n (s + 1) 0 31 v b ∧ D' = ud (ud D 6 (dn D 2) v) 0 2 (D 0 2 + 1)
  else if T s = 99 then D 0 6 = 0 ∧ ∃ v, NumR T n (s + 1) 0 (D 0 2 - 1) v b ∧ D' = ud (ud D 0 3 v) 0 6 1
  else if T s = 119 then D 0 7 = 0 ∧ ∃ v, NumR T n (s + 1) 0 9 v b ∧ D' = ud (ud D 0 4 v) 0 7 1
  else if T s = 110 then D 0 8 = 0 ∧ ∃ v, NumR T n (s + 1) 1 500 v b ∧ D' = ud (ud D 0 5 v) 0 8 1
  else False
def BdF (T : Nat → Int32) (n s : Nat) (D : Dr) (f : Nat) : Prop :=
  if T s = 114 then (¬ D 0 0 < 5 ∧ f = s) ∨ (D 0 0 < 5 ∧ Nu3F T n (s + 1) 0 30 0 3 0 99 f)
  else if T s = 100 then (¬ D 0 1 < 5 ∧ f = s) ∨ (D 0 1 < 5 ∧ Nu2F T n (s + 1) 0 9 1 30 f)
  else if T s = 115 then (¬ D 0 2 < 6 ∧ f = s) ∨ (D 0 2 < 6 ∧ NumF T n (s + 1) 0 31 f)
  else if T s = 99 then (¬ D 0 6 = 0 ∧ f = s) ∨ (D 0 6 = 0 ∧ NumF T n (s + 1) 0 (D 0 2 - 1) f)
  else if T s = 119 then (¬ D 0 7 = 0 ∧ f = s) ∨ (D 0 7 = 0 ∧ NumF T n (s + 1) 0 9 f)
  else if T s = 110 then (¬ D 0 8 = 0 ∧ f = s) ∨ (D 0 8 = 0 ∧ NumF T n (s + 1) 1 500 f)
  else f = s
theorem pick_uniq {P : Prop} {F : Nat → Prop} {s f f' : Nat} (hF : ∀ a b, F a → F b → a = b) (h : (¬ P ∧ f = s) ∨ (P ∧ F f)) (h' : (¬ P ∧ f' = s) ∨ (P ∧ F f')) : f = f' := by
  rcases h with ⟨h1, h2⟩ | ⟨h1, h2⟩
  · rcases h' with ⟨k1, k2⟩ | ⟨k1, k2⟩
    · rw [h2, k2]
    · exact absurd k1 h1
  · rcases h' with ⟨k1, k2⟩ | ⟨k1, k2⟩
    · exact absurd h1 k1
    · exact hF _ _ h2 k2
theorem bd_cases (T : Nat → Int32) (s : Nat) : T s = 114 ∨ T s = 100 ∨ T s = 115 ∨ T s = 99 ∨ T s = 119 ∨ T s = 110 ∨ ¬ isLetF (T s) := by
  unfold isLetF
  by_cases h1 : T s = 114
  · exact Or.inl h1
  by_cases h2 : T s = 100
  · exact Or.inr (Or.inl h2)
  by_cases h3 : T s = 115
  · exact Or.inr (Or.inr (Or.inl h3))
  by_cases h4 : T s = 99
  · exact Or.inr (Or.inr (Or.inr (Or.inl h4)))
  by_cases h5 : T s = 119
  · exact Or.inr (Or.inr (Or.inr (Or.inr (Or.inl h5))))
  by_cases h6 : T s = 110
  · exact Or.inr (Or.inr (Or.inr (Or.inr (Or.inr (Or.inl h6)))))
  · exact Or.inr (Or.inr (Or.inr (Or.inr (Or.inr (Or.inr (by rintro (z | z | z | z | z | z) <;> contradiction))))))
theorem bdf_uniq {T : Nat → Int32} {n s : Nat} {D : Dr} {f f' : Nat} (h : BdF T n s D f) (h' : BdF T n s D f') : f = f' := by
  unfold BdF at h h'
  by_cases h1 : T s = 114
  · rw [if_pos h1] at h h'
    exact pick_uniq (fun _ _ => nu3_uniq) h h'
  rw [if_neg h1] at h h'
  by_cases h1 : T s = 100
  · rw [if_pos h1] at h h'
    exact pick_uniq (fun _ _ => nu2_uniq) h h'
  rw [if_neg h1] at h h'
  by_cases h1 : T s = 115
  · rw [if_pos h1] at h h'
    exact pick_uniq (fun _ _ => numf_uniq) h h'
  rw [if_neg h1] at h h'
  by_cases h1 : T s = 99
  · rw [if_pos h1] at h h'
    exact pick_uniq (fun _ _ => numf_uniq) h h'
  rw [if_neg h1] at h h'
  by_cases h1 : T s = 119
  · rw [if_pos h1] at h h'
    exact pick_uniq (fun _ _ => numf_uniq) h h'
  rw [if_neg h1] at h h'
  by_cases h1 : T s = 110
  · rw [if_pos h1] at h h'
    exact pick_uniq (fun _ _ => numf_uniq) h h'
  rw [if_neg h1] at h h'
  rw [h, h']
theorem pick_le {P : Prop} {F : Nat → Prop} {s f n : Nat} (hs : s ≤ n) (hF : F f → f ≤ n) (h : (¬ P ∧ f = s) ∨ (P ∧ F f)) : f ≤ n := by
  rcases h with ⟨_, h⟩ | ⟨_, h⟩
  · omega
  · exact hF h
theorem bdf_le {T : Nat → Int32} {n s : Nat} {D : Dr} {f : Nat} (hs : s ≤ n) (h : BdF T n s D f) : f ≤ n := by
  unfold BdF at h
  by_cases h1 : T s = 114
  · rw [if_pos h1] at h
    exact pick_le hs nu3_le h
  rw [if_neg h1] at h
  by_cases h1 : T s = 100
  · rw [if_pos h1] at h
    exact pick_le hs nu2_le h
  rw [if_neg h1] at h
  by_cases h1 : T s = 115
  · rw [if_pos h1] at h
    exact pick_le hs numf_le h
  rw [if_neg h1] at h
  by_cases h1 : T s = 99
  · rw [if_pos h1] at h
    exact pick_le hs numf_le h
  rw [if_neg h1] at h
  by_cases h1 : T s = 119
  · rw [if_pos h1] at h
    exact pick_le hs numf_le h
  rw [if_neg h1] at h
  by_cases h1 : T s = 110
  · rw [if_pos h1] at h
    exact pick_le hs numf_le h
  rw [if_neg h1] at h
  omega
theorem pick_ex {P : Prop} {F : Nat → Prop} {s f : Nat} (hP : P) (hF : F f → False) (h : (¬ P ∧ f = s) ∨ (P ∧ F f)) : False := by
  rcases h with ⟨h, _⟩ | ⟨_, h⟩
  · exact h hP
  · exact hF h
theorem bd_excl {T : Nat → Int32} {n s : Nat} {D D' : Dr} {b f : Nat} (h : BdR T n s D b D') (h' : BdF T n s D f) : False := by
  unfold BdR at h
  unfold BdF at h'
  by_cases h1 : T s = 114
  · rw [if_pos h1] at h h'
    obtain ⟨hp, v, b1, v', b2, v2, n1, n2, n3, _⟩ := h
    exact pick_ex hp (nu3_excl n1 n2 n3) h'
  rw [if_neg h1] at h h'
  by_cases h1 : T s = 100
  · rw [if_pos h1] at h h'
    obtain ⟨hp, v, b1, v', n1, n2, _⟩ := h
    exact pick_ex hp (nu2_excl n1 n2) h'
  rw [if_neg h1] at h h'
  by_cases h1 : T s = 115
  · rw [if_pos h1] at h h'
    obtain ⟨hp, v, n1, _⟩ := h
    exact pick_ex hp (num_excl n1) h'
  rw [if_neg h1] at h h'
  by_cases h1 : T s = 99
  · rw [if_pos h1] at h h'
    obtain ⟨hp, v, n1, _⟩ := h
    exact pick_ex hp (num_excl n1) h'
  rw [if_neg h1] at h h'
  by_cases h1 : T s = 119
  · rw [if_pos h1] at h h'
    obtain ⟨hp, v, n1, _⟩ := h
    exact pick_ex hp (num_excl n1) h'
  rw [if_neg h1] at h h'
  by_cases h1 : T s = 110
  · rw [if_pos h1] at h h'
    obtain ⟨hp, v, n1, _⟩ := h
    exact pick_ex hp (num_excl n1) h'
  rw [if_neg h1] at h
  exact h
theorem bd_uniq {T : Nat → Int32} {n s : Nat} {D D' D2 : Dr} {b b2 : Nat} (h : BdR T n s D b D') (h' : BdR T n s D b2 D2) : b = b2 ∧ D' = D2 := by
  unfold BdR at h h'
  by_cases h1 : T s = 114
  · rw [if_pos h1] at h h'
    obtain ⟨_, v, b1, v', b2, v2, n1, n2, n3, e⟩ := h
    obtain ⟨_, w, c1, w', c2, w2, k1, k2, k3, e'⟩ := h'
    obtain ⟨rfl, rfl⟩ := numr_uniq n1 k1
    obtain ⟨rfl, rfl⟩ := numr_uniq n2 k2
    obtain ⟨rfl, rfl⟩ := numr_uniq n3 k3
    exact ⟨rfl, e.trans e'.symm⟩
  rw [if_neg h1] at h h'
  by_cases h1 : T s = 100
  · rw [if_pos h1] at h h'
    obtain ⟨_, v, b1, v', n1, n2, e⟩ := h
    obtain ⟨_, w, c1, w', k1, k2, e'⟩ := h'
    obtain ⟨rfl, rfl⟩ := numr_uniq n1 k1
    obtain ⟨rfl, rfl⟩ := numr_uniq n2 k2
    exact ⟨rfl, e.trans e'.symm⟩
  rw [if_neg h1] at h h'
  by_cases h1 : T s = 115
  · rw [if_pos h1] at h h'
    obtain ⟨_, v, n1, e⟩ := h
    obtain ⟨_, w, k1, e'⟩ := h'
    obtain ⟨rfl, rfl⟩ := numr_uniq n1 k1
    exact ⟨rfl, e.trans e'.symm⟩
  rw [if_neg h1] at h h'
  by_cases h1 : T s = 99
  · rw [if_pos h1] at h h'
    obtain ⟨_, v, n1, e⟩ := h
    obtain ⟨_, w, k1, e'⟩ := h'
    obtain ⟨rfl, rfl⟩ := numr_uniq n1 k1
    exact ⟨rfl, e.trans e'.symm⟩
  rw [if_neg h1] at h h'
  by_cases h1 : T s = 119
  · rw [if_pos h1] at h h'
    obtain ⟨_, v, n1, e⟩ := h
    obtain ⟨_, w, k1, e'⟩ := h'
    obtain ⟨rfl, rfl⟩ := numr_uniq n1 k1
    exact ⟨rfl, e.trans e'.symm⟩
  rw [if_neg h1] at h h'
  by_cases h1 : T s = 110
  · rw [if_pos h1] at h h'
    obtain ⟨_, v, n1, e⟩ := h
    obtain ⟨_, w, k1, e'⟩ := h'
    obtain ⟨rfl, rfl⟩ := numr_uniq n1 k1
    exact ⟨rfl, e.trans e'.symm⟩
  rw [if_neg h1] at h
  exact h.elim
theorem bd_place {T : Nat → Int32} {n s : Nat} {D D' : Dr} {b : Nat} (h : BdR T n s D b D') : s < b ∧ b ≤ n := by
  unfold BdR at h
  by_cases h1 : T s = 114
  · rw [if_pos h1] at h
    obtain ⟨_, v, b1, v', b2, v2, n1, n2, n3, e⟩ := h
    have := numr_le n1; have := numr_le n2; have := numr_le n3
    omega
  rw [if_neg h1] at h
  by_cases h1 : T s = 100
  · rw [if_pos h1] at h
    obtain ⟨_, v, b1, v', n1, n2, e⟩ := h
    have := numr_le n1; have := numr_le n2
    omega
  rw [if_neg h1] at h
  by_cases h1 : T s = 115
  · rw [if_pos h1] at h
    obtain ⟨_, v, n1, e⟩ := h
    have := numr_le n1
    omega
  rw [if_neg h1] at h
  by_cases h1 : T s = 99
  · rw [if_pos h1] at h
    obtain ⟨_, v, n1, e⟩ := h
    have := numr_le n1
    omega
  rw [if_neg h1] at h
  by_cases h1 : T s = 119
  · rw [if_pos h1] at h
    obtain ⟨_, v, n1, e⟩ := h
    have := numr_le n1
    omega
  rw [if_neg h1] at h
  by_cases h1 : T s = 110
  · rw [if_pos h1] at h
    obtain ⟨_, v, n1, e⟩ := h
    have := numr_le n1
    omega
  rw [if_neg h1] at h
  exact h.elim
/-- an item: what stands before its end, and its end -/
def ItR (T : Nat → Int32) (n s : Nat) (D : Dr) (b : Nat) (D' : Dr) : Prop := ∃ b1, BdR T n s D b1 D' ∧ EndR T n b1 b
def ItF (T : Nat → Int32) (n s : Nat) (D : Dr) (f : Nat) : Prop := BdF T n s D f ∨ ∃ b1 D1, BdR T n s D b1 D1 ∧ EndF T n b1 f
theorem it_uniq {T : Nat → Int32} {n s : Nat} {D D' D2 : Dr} {b b2 : Nat} (h : ItR T n s D b D') (h' : ItR T n s D b2 D2) : b = b2 ∧ D' = D2 := by
  obtain ⟨c, h1, h2⟩ := h
  obtain ⟨c', k1, k2⟩ := h'
  obtain ⟨rfl, e⟩ := bd_uniq h1 k1
  exact ⟨end_uniq h2 k2, e⟩
theorem it_excl {T : Nat → Int32} {n s : Nat} {D D' : Dr} {b f : Nat} (h : ItR T n s D b D') (h' : ItF T n s D f) : False := by
  obtain ⟨c, h1, h2⟩ := h
  rcases h' with h' | ⟨c', D1, k1, k2⟩
  · exact bd_excl h1 h'
  · obtain ⟨rfl, _⟩ := bd_uniq h1 k1
    exact end_excl h2 k2
theorem itf_uniq {T : Nat → Int32} {n s : Nat} {D : Dr} {f f' : Nat} (h : ItF T n s D f) (h' : ItF T n s D f') : f = f' := by
  rcases h with h | ⟨c, D1, h1, h2⟩
  · rcases h' with h' | ⟨c', D1', k1, k2⟩
    · exact bdf_uniq h h'
    · exact (bd_excl k1 h).elim
  · rcases h' with h' | ⟨c', D1', k1, k2⟩
    · exact (bd_excl h1 h').elim
    · obtain ⟨rfl, _⟩ := bd_uniq h1 k1
      exact endf_uniq h2 k2
theorem itf_le {T : Nat → Int32} {n s : Nat} {D : Dr} {f : Nat} (hs : s ≤ n) (h : ItF T n s D f) : f ≤ n := by
  rcases h with h | ⟨c, D1, h1, h2⟩
  · exact bdf_le hs h
  · exact h2.1.2.1
theorem it_place {T : Nat → Int32} {n s : Nat} {D D' : Dr} {b : Nat} (h : ItR T n s D b D') : s < b ∧ b ≤ n := by
  obtain ⟨c, h1, ⟨s', h2, h3, _, rfl⟩⟩ := h
  have := bd_place h1
  have := h2.1
  omega
/-- k items are read from the start, up to the place a, and tell D -/
def Pf (T : Nat → Int32) (n : Nat) : Nat → Nat → Dr → Prop
  | 0, a, D => a = 0 ∧ D = D0
  | k + 1, b, D' => ∃ a D s, Pf T n k a D ∧ SkB T n a s ∧ s < n ∧ ItR T n s D b D'
theorem pf_uniq {T : Nat → Int32} {n : Nat} : ∀ {k a a' D D'}, Pf T n k a D → Pf T n k a' D' → a = a' ∧ D = D' := by
  intro k
  induction k with
  | zero => intro a a' D D' h h'; exact ⟨h.1.trans h'.1.symm, h.2.trans h'.2.symm⟩
  | succ k ih =>
    intro a a' D D' h h'
    obtain ⟨x, E, s, h1, h2, _, h3⟩ := h
    obtain ⟨x', E', s', k1, k2, _, k3⟩ := h'
    obtain ⟨rfl, rfl⟩ := ih h1 k1
    obtain rfl := skb_uniq h2 k2
    exact it_uniq h3 k3
theorem pf_step {T : Nat → Int32} {n : Nat} : ∀ {j k a D}, Pf T n (k + 1 + j) a D → ∃ a D s b D1, Pf T n k a D ∧ SkB T n a s ∧ s < n ∧ ItR T n s D b D1 := by
  intro j
  induction j with
  | zero => intro k a D h; obtain ⟨x, E, s, h1, h2, h3, h4⟩ := h; exact ⟨x, E, s, a, D, h1, h2, h3, h4⟩
  | succ j ih => intro k a D h; obtain ⟨x, E, s, h1, _⟩ := h; exact ih h1
def RdF (T : Nat → Int32) (n f : Nat) : Prop := ∃ k a s D, Pf T n k a D ∧ SkB T n a s ∧ s < n ∧ ItF T n s D f
def RdR (T : Nat → Int32) (n k : Nat) (D : Dr) : Prop := ∃ a, Pf T n k a D ∧ SkB T n a n
/-- nothing follows k items -/
theorem pf_stop {T : Nat → Int32} {n k k' a a' : Nat} {D D' : Dr} (h : Pf T n k a D) (hs : ∀ s b D1, SkB T n a s → s < n → ItR T n s D b D1 → False) (h' : Pf T n k' a' D') : k' ≤ k := by
  rcases Nat.lt_or_ge k k' with z | z
  · exfalso
    obtain ⟨j, rfl⟩ : ∃ j, k' = k + 1 + j := ⟨k' - k - 1, by omega⟩
    obtain ⟨x, E, s, b, D1, h1, h2, h3, h4⟩ := pf_step h'
    obtain ⟨rfl, rfl⟩ := pf_uniq h h1
    exact hs s b D1 h2 h3 h4
  · exact z
theorem rdr_stop {T : Nat → Int32} {n a : Nat} {D : Dr} (h : SkB T n a n) : ∀ s b D1, SkB T n a s → s < n → ItR T n s D b D1 → False := by
  intro s b D1 h1 h2 _
  have := skb_uniq h h1
  omega
theorem rdf_stop {T : Nat → Int32} {n a s f : Nat} {D : Dr} (h : SkB T n a s) (hf : ItF T n s D f) : ∀ s b D1, SkB T n a s → s < n → ItR T n s D b D1 → False := by
  intro s' b D1 h1 h2 h3
  obtain rfl := skb_uniq h h1
  exact it_excl h3 hf
theorem rdr_uniq {T : Nat → Int32} {n k k' : Nat} {D D' : Dr} (h : RdR T n k D) (h' : RdR T n k' D') : k = k' ∧ D = D' := by
  obtain ⟨a, h1, h2⟩ := h
  obtain ⟨a', k1, k2⟩ := h'
  obtain rfl : k = k' := Nat.le_antisymm (pf_stop k1 (rdr_stop k2) h1) (pf_stop h1 (rdr_stop h2) k1)
  exact ⟨rfl, (pf_uniq h1 k1).2⟩
theorem rd_excl {T : Nat → Int32} {n k f : Nat} {D : Dr} (h : RdR T n k D) (h' : RdF T n f) : False := by
  obtain ⟨a, h1, h2⟩ := h
  obtain ⟨k', a', s, D', k1, k2, k3, k4⟩ := h'
  obtain rfl : k = k' := Nat.le_antisymm (pf_stop k1 (rdf_stop k2 k4) h1) (pf_stop h1 (rdr_stop h2) k1)
  obtain ⟨rfl, rfl⟩ := pf_uniq h1 k1
  have := skb_uniq h2 k2
  omega
theorem rdf_uniq {T : Nat → Int32} {n f f' : Nat} (h : RdF T n f) (h' : RdF T n f') : f = f' := by
  obtain ⟨k, a, s, D, h1, h2, h3, h4⟩ := h
  obtain ⟨k', a', s', D', k1, k2, k3, k4⟩ := h'
  obtain rfl : k = k' := Nat.le_antisymm (pf_stop k1 (rdf_stop k2 k4) h1) (pf_stop h1 (rdf_stop h2 h4) k1)
  obtain ⟨rfl, rfl⟩ := pf_uniq h1 k1
  obtain rfl := skb_uniq h2 k2
  exact itf_uniq h4 k4
theorem pf_place {T : Nat → Int32} {n : Nat} : ∀ {k a D}, Pf T n k a D → k ≤ a ∧ a ≤ n ∨ (k = 0 ∧ a = 0) := by
  intro k
  induction k with
  | zero => intro a D h; exact Or.inr ⟨rfl, h.1⟩
  | succ k ih =>
    intro a D h
    obtain ⟨x, E, s, h1, h2, h3, h4⟩ := h
    have := ih h1
    have := it_place h4
    have := h2.1
    omega

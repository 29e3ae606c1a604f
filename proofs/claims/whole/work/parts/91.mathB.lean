/-! the two ways of reading a number agree -/
theorem skb_uniq {T : Nat → Int32} {n a b b' : Nat} (h : SkB T n a b) (h' : SkB T n a b') : b = b' := by
  obtain ⟨h1, h2, h3, h4⟩ := h
  obtain ⟨k1, k2, k3, k4⟩ := h'
  rcases Nat.lt_trichotomy b b' with z | z | z
  · rcases h4 with y | y
    · omega
    · exact absurd (k3 b h1 z) y
  · exact z
  · rcases k4 with y | y
    · omega
    · exact absurd (h3 b' k1 z) y
theorem dgb_uniq {T : Nat → Int32} {n a b b' : Nat} (h : DgB T n a b) (h' : DgB T n a b') : b = b' := by
  obtain ⟨h1, h2, h3, h4⟩ := h
  obtain ⟨k1, k2, k3, k4⟩ := h'
  rcases Nat.lt_trichotomy b b' with z | z | z
  · rcases h4 with y | y
    · omega
    · exact absurd (k3 b h1 z) y
  · exact z
  · rcases k4 with y | y
    · omega
    · exact absurd (h3 b' k1 z) y
theorem bad_ok {T : Nat → Int32} {a b : Nat} {p1 p2 : Int32} (hp : p2 ≤ 500) : ¬ badN T a b p1 p2 ↔ (b ≠ a ∧ okQ T a b ∧ ¬ (nI (nvN T a (b - a)) < p1 ∨ p2 < nI (nvN T a (b - a)))) := by
  unfold badN okQ
  constructor
  · intro h
    have hn : ¬ 1000 ≤ nvN T a (b - a) := fun z => h (Or.inr (Or.inr (Or.inl z)))
    have h5 : nI (nvN T a (b - a)) ≤ p2 := Classical.byContradiction fun z => h (Or.inr (Or.inr (Or.inr (Or.inr z))))
    have h5' := h5
    rw [i_le, nI_toInt (by omega)] at h5
    rw [i_le, show (500 : Int32).toInt = 500 from rfl] at hp
    refine ⟨fun z => h (Or.inl z), ⟨by omega, fun z => h (Or.inr (Or.inl z))⟩, ?_⟩
    rintro (z | z)
    · exact h (Or.inr (Or.inr (Or.inr (Or.inl z))))
    · exact absurd h5' (by simpa using z)
  · rintro ⟨h1, ⟨h2, h3⟩, h4⟩ (z | z | z | z | z)
    · exact h1 z
    · exact h3 z
    · omega
    · exact h4 (Or.inl z)
    · exact h4 (Or.inr (nle_lt z))
/-- where a token begins that is no digit, no number can be read -/
theorem dgb_none {T : Nat → Int32} {n a : Nat} (ha : a ≤ n) (h : a = n ∨ ¬ isD (T a)) : DgB T n a a := ⟨Nat.le_refl _, ha, fun j h1 h2 => by omega, h⟩
theorem dgb_some {T : Nat → Int32} {n a b : Nat} (h : DgB T n a b) (ha : a < n) (hd : isD (T a)) : b ≠ a := by
  intro z; subst z
  rcases h.2.2.2 with y | y
  · omega
  · exact y hd

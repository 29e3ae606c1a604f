/-! the end of an item, on both sides -/
def EndR (T : Nat → Int32) (n a b : Nat) : Prop := ∃ s, SkB T n a s ∧ s < n ∧ T s = 59 ∧ b = s + 1
def EndF (T : Nat → Int32) (n a s : Nat) : Prop := SkB T n a s ∧ ¬ (s < n ∧ T s = 59)
theorem end_cls {μ m : Mem} {x : Int32} (h : post_X6_readEnd μ x m) : fr [1] μ m ∧ f1x [2, 3] μ m ∧ ((x = 1 ∧ ∃ b, EndR (gi μ 2) (gn μ 1 1) (gn μ 1 3) b ∧ b ≤ gn μ 1 1 ∧ gi m 1 3 = nI b) ∨ (x = 0 ∧ ∃ s, EndF (gi μ 2) (gn μ 1 1) (gn μ 1 3) s ∧ gi m 1 2 = nI s)) := by
  obtain ⟨hf, h1, a, hs, h⟩ := h
  refine ⟨hf, h1, ?_⟩
  rcases h with ⟨k1, k2, k3, k4, _⟩ | ⟨k1, k2, _, k4⟩
  · exact Or.inl ⟨k3, a + 1, ⟨a, hs, k1, k2, rfl⟩, by omega, k4⟩
  · exact Or.inr ⟨k2, a, ⟨hs, k1⟩, k4⟩
theorem end_mod {x : Int32} {μ m : Mem} {a : Nat} (hR : RM μ) (hw : gi μ 75 8 < 0) (ht : TokAt (gi μ 76) (gn μ 75 3) a μ) (h : (gi μ 75 5 = 3 ∧ post_X9_takes 1 μ x m) ∨ (¬ gi μ 75 5 = 3 ∧ post_X9_takes 0 μ x m)) :
    (∃ s, EndF (gi μ 76) (gn μ 75 3) a s ∧ m = ui μ 75 8 (nI s)) ∨ (∃ b, EndR (gi μ 76) (gn μ 75 3) a b ∧ b ≤ gn μ 75 3 ∧ fr [75] μ m ∧ f75x [4, 5, 6, 7] μ m ∧ TokAt (gi μ 76) (gn μ 75 3) b m) := by
  obtain ⟨s, hs, h6, tk⟩ := ht
  have h200 := hR.1.2
  have key : gi μ 75 5 = 3 ↔ (s < gn μ 75 3 ∧ gi μ 76 s = 59) := by
    rcases tk with ⟨t1, t2, _⟩ | ⟨t1, t2, _, _, t5⟩ | ⟨t1, t2, b, t3, t4, t5⟩
    · exact ⟨fun z => by rw [t2] at z; exact absurd z (by decide), fun z => by omega⟩
    · rcases t5 with ⟨z1, z2⟩ | ⟨z1, _, z2⟩ | ⟨z1, _, z2⟩
      · exact ⟨fun _ => ⟨t1, z1⟩, fun _ => z2⟩
      · exact ⟨fun z => by rw [z2] at z; exact absurd z (by decide), fun z => absurd z.2 z1⟩
      · exact ⟨fun z => by rw [z2] at z; exact absurd z (by decide), fun z => absurd z.2 z1⟩
    · have n59 : ¬ gi μ 76 s = 59 := fun z => by rw [z] at t2; exact absurd t2.2 (by decide)
      rcases t5 with ⟨_, u2, _⟩ | ⟨_, u2⟩
      · exact ⟨fun z => by rw [u2] at z; exact absurd z (by decide), fun z => absurd z.2 n59⟩
      · exact ⟨fun z => by rw [u2] at z; exact absurd z (by decide), fun z => absurd z.2 n59⟩
  rcases h with ⟨k, h⟩ | ⟨k, h⟩
  · right
    obtain ⟨k1, k2⟩ := key.mp k
    obtain ⟨hx, hf, h75, a', j1, j2, j3⟩ := (h.2 hw).2 (by decide)
    have n59 : ¬ isD (gi μ 76 s) := fun z => by rw [k2] at z; exact absurd z.2 (by decide)
    have g4 : gn μ 75 4 = s + 1 := by
      rcases tk with ⟨t1, _⟩ | ⟨_, _, t3, _⟩ | ⟨_, t2, _⟩
      · omega
      · unfold gn; rw [t3, nI_clamp (by omega)]
      · exact absurd t2 n59
    rw [g4] at j1
    exact ⟨s + 1, ⟨s, hs, k1, k2, rfl⟩, by omega, hf, h75, a', j1, j2, j3⟩
  · left
    obtain ⟨hx, hm⟩ := (h.2 hw).1 rfl
    exact ⟨s, ⟨hs, fun z => k (key.mpr z)⟩, by rw [hm, h6]⟩

/-! the reference's state between two tokens -/
def TokAt (T : Nat → Int32) (n a : Nat) (m : Mem) : Prop := ∃ s, SkB T n a s ∧ gi m 75 6 = nI s ∧ tokM T n s m
theorem num_mod {p1 p2 x : Int32} {μ m : Mem} {a : Nat} (hR : RM μ) (hw : gi μ 75 8 < 0) (hp : p2 ≤ 500) (ht : TokAt (gi μ 76) (gn μ 75 3) a μ) (h : post_X9_number p1 p2 μ x m) :
    (∃ s, NumF (gi μ 76) (gn μ 75 3) a p1 p2 s ∧ x = 0 ∧ m = ui μ 75 8 (nI s)) ∨ (∃ b, NumR (gi μ 76) (gn μ 75 3) a p1 p2 x b ∧ b ≤ gn μ 75 3 ∧ fr [75] μ m ∧ f75x [4, 5, 6, 7] μ m ∧ TokAt (gi μ 76) (gn μ 75 3) b m) := by
  obtain ⟨s, hs, h6, tk⟩ := ht
  have h200 := hR.1.2
  by_cases ok : okV μ p1 p2
  · right
    obtain ⟨hx, hf, h75, a', k1, k2, k3⟩ := ((h.1 ok).2 hw).2 (by decide)
    obtain ⟨o1, o2⟩ := ok
    rcases tk with ⟨_, t2, _⟩ | ⟨_, _, _, _, t5⟩ | ⟨t1, t2, b, t3, t4, t5⟩
    · rw [t2] at o1; exact absurd o1 (by decide)
    · exfalso
      rcases t5 with ⟨_, z⟩ | ⟨_, _, z⟩ | ⟨_, _, z⟩ <;> rw [z] at o1 <;> exact absurd o1 (by decide)
    · rcases t5 with ⟨u1, u2, u3⟩ | ⟨_, u2⟩
      · have hb := t3.2.1
        have g4 : gn μ 75 4 = b := by unfold gn; rw [t4, nI_clamp (by omega)]
        rw [g4] at k1
        refine ⟨b, ⟨s, hs, t3, (bad_ok hp).mpr ⟨dgb_some t3 t1 t2, u1, by rw [← u3]; exact o2⟩, by rw [hx, u3]⟩, hb, hf, h75, a', k1, k2, k3⟩
      · rw [u2] at o1; exact absurd o1 (by decide)
  · left
    obtain ⟨hx, hm⟩ := ((h.2 ok).2 hw).1 rfl
    refine ⟨s, ?_, hx, by rw [hm, h6]⟩
    rcases tk with ⟨t1, _⟩ | ⟨t1, t2, _⟩ | ⟨t1, t2, b, t3, t4, t5⟩
    · exact ⟨s, hs, dgb_none hs.2.1 (Or.inl t1), Or.inl rfl⟩
    · exact ⟨s, hs, dgb_none hs.2.1 (Or.inr t2), Or.inl rfl⟩
    · refine ⟨b, hs, t3, Classical.byContradiction fun z => ?_⟩
      obtain ⟨z1, z2, z3⟩ := (bad_ok hp).mp z
      rcases t5 with ⟨u1, u2, u3⟩ | ⟨u1, u2⟩
      · exact ok ⟨u2, by rw [u3]; exact z3⟩
      · exact u1 z2

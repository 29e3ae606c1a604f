/-! how he is sent out soonest: the numbers alone -/
def lsN (full : Nat → Nat) (l d : Nat) : Nat := if l = d then full d / 2 else full d
/-- the cost by way of d, from feeling f, l done last; the row r is that of f, c those below -/
def thr (NV : Nat) (full tk : Nat → Nat) (c : Nat → Nat → Nat) (r : Nat → Nat) (f l d : Nat) : Nat :=
  if f < lsN full l d then tk d * 1000 + 1 else min NV (tk d * 1000 + 1 + (if lsN full l d = 0 then r d else c (f - lsN full l d) d))
theorem thr_self {NV : Nat} {full tk : Nat → Nat} {c : Nat → Nat → Nat} {f l d : Nat} : thr NV full tk c (c f) f l d = if f < lsN full l d then tk d * 1000 + 1 else min NV (tk d * 1000 + 1 + c (f - lsN full l d) d) := by
  unfold thr
  split
  · rfl
  · split
    · rename_i h; rw [h, Nat.sub_zero]
    · rfl
theorem thr_lower {NV : Nat} {full tk : Nat → Nat} {c c' : Nat → Nat → Nat} {r : Nat → Nat} {f l d : Nat} (h : ∀ g, g < f → c g d = c' g d) : thr NV full tk c r f l d = thr NV full tk c' r f l d := by
  unfold thr
  split
  · rfl
  · split
    · rfl
    · rename_i h1 h2; rw [h _ (by omega)]
theorem thr_mono {NV : Nat} {full tk : Nat → Nat} {c : Nat → Nat → Nat} {r r' : Nat → Nat} {f l d : Nat} (h : r d ≤ r' d) : thr NV full tk c r f l d ≤ thr NV full tk c r' f l d := by
  unfold thr
  split
  · exact Nat.le_refl _
  · split <;> omega
theorem thr_pos {NV : Nat} {full tk : Nat → Nat} {c : Nat → Nat → Nat} {r r' : Nat → Nat} {f l d : Nat} (h : 0 < lsN full l d) : thr NV full tk c r f l d = thr NV full tk c r' f l d := by
  unfold thr
  rw [if_neg (by omega : ¬ lsN full l d = 0), if_neg (by omega : ¬ lsN full l d = 0)]
/-- what one pass over a row does: r before it, r' behind it -/
def Pass (NV D : Nat) (full tk : Nat → Nat) (c : Nat → Nat → Nat) (f : Nat) (r r' : Nat → Nat) : Prop :=
  (∀ l, l < 6 → r' l ≤ r l) ∧ (∀ l, l < 6 → ∀ d, d < D → r' l ≤ thr NV full tk c r f l d) ∧ (∀ l, l < 6 → r' l = r l ∨ ∃ d, d < D ∧ thr NV full tk c r' f l d ≤ r' l) ∧
  ∀ S : Nat → Nat, (∀ l, l < 6 → S l ≤ r l) → (∀ l, l < 6 → ∀ d, d < D → S l ≤ thr NV full tk c S f l d) → ∀ l, l < 6 → S l ≤ r' l
def BellR (NV D : Nat) (full tk : Nat → Nat) (c : Nat → Nat → Nat) (f : Nat) (r : Nat → Nat) : Prop :=
  ∀ l, l < 6 → r l ≤ NV ∧ (∀ d, d < D → r l ≤ thr NV full tk c r f l d) ∧ (r l = NV ∨ ∃ d, d < D ∧ thr NV full tk c r f l d ≤ r l)
theorem least_of (P : Nat → Prop) (g : Nat → Nat) (NV : Nat) : ∀ D : Nat, ∃ B, B ≤ NV ∧ (∀ e, e < D → P e → B ≤ g e) ∧ (B = NV ∨ ∃ e, e < D ∧ P e ∧ g e = B) := by
  intro D
  induction D with
  | zero => exact ⟨NV, Nat.le_refl _, fun e he => absurd he (Nat.not_lt_zero e), Or.inl rfl⟩
  | succ D ih =>
    obtain ⟨B, h1, h2, h3⟩ := ih
    rcases Classical.em (P D ∧ g D < B) with h | h
    · refine ⟨g D, by omega, fun e he hp => ?_, Or.inr ⟨D, by omega, h.1, rfl⟩⟩
      rcases Nat.lt_or_ge e D with z | z
      · have := h2 e z hp; omega
      · have : e = D := by omega
        subst this; exact Nat.le_refl _
    · refine ⟨B, h1, fun e he hp => ?_, ?_⟩
      · rcases Nat.lt_or_ge e D with z | z
        · exact h2 e z hp
        · have : e = D := by omega
          subst this
          exact Nat.not_lt.mp fun q => h ⟨hp, q⟩
      · rcases h3 with h3 | ⟨e, he, hp, hg⟩
        · exact Or.inl h3
        · exact Or.inr ⟨e, by omega, hp, hg⟩
theorem two_pass {NV D : Nat} {full tk : Nat → Nat} {c : Nat → Nat → Nat} {f : Nat} {r0 r1 r2 : Nat → Nat} (hD : D ≤ 5) (h0 : ∀ l, l < 6 → r0 l = NV) (p1 : Pass NV D full tk c f r0 r1) (p2 : Pass NV D full tk c f r1 r2) : BellR NV D full tk c f r2 := by
  obtain ⟨a1, b1, c1, d1⟩ := p1
  obtain ⟨a2, b2, c2, d2⟩ := p2
  -- the cost of a doing that takes all of its feeling
  obtain ⟨B, hB, hB2, hB3⟩ := least_of (fun e => 0 < full e) (fun e => thr NV full tk c r0 f 5 e) NV D
  have hls : ∀ z e, full z = 0 → 0 < full e → lsN full z e = full e := by
    intro z e hz he
    unfold lsN
    rw [if_neg]
    intro q; subst q; omega
  have h5 : ∀ e, e < D → lsN full 5 e = full e := by
    intro e he
    unfold lsN
    rw [if_neg (by omega)]
  have hPf : ∀ (z e : Nat) (r : Nat → Nat), e < D → full z = 0 → 0 < full e → thr NV full tk c r f z e = thr NV full tk c r0 f 5 e := by
    intro z e r he hz hp
    rw [thr_pos (r' := r0) (by rw [hls z e hz hp]; exact hp)]
    unfold thr
    rw [hls z e hz hp, h5 e he]
  have hZ0 : ∀ z e, full z = 0 → full e = 0 → lsN full z e = 0 := by
    intro z e hz he; unfold lsN; split
    · rw [he]
    · exact he
  let S : Nat → Nat := fun l => if full l = 0 then B else 0
  have hS : ∀ l, l < 6 → ∀ d, d < D → S l ≤ thr NV full tk c S f l d := by
    intro l hl d hd
    show (if full l = 0 then B else 0) ≤ _
    split
    · rename_i hz
      rcases Nat.eq_zero_or_pos (full d) with he | he
      · unfold thr
        rw [hZ0 l d hz he, if_neg (by omega), if_pos rfl]
        show B ≤ min NV (tk d * 1000 + 1 + (if full d = 0 then B else 0))
        rw [if_pos he]; omega
      · rw [hPf l d S hd hz he]; exact hB2 d hd he
    · exact Nat.zero_le _
  have s1 : ∀ l, l < 6 → S l ≤ r1 l := d1 S (fun l hl => by
    show (if full l = 0 then B else 0) ≤ _
    rw [h0 l hl]; split <;> omega) hS
  have s2 : ∀ l, l < 6 → S l ≤ r2 l := d2 S s1 hS
  have u1 : ∀ z, z < D → full z = 0 → r1 z = B := by
    intro z hz hz0
    have l1 := s1 z (by omega)
    have l1' : B ≤ r1 z := by
      have : S z = B := if_pos hz0
      omega
    have l2 : r1 z ≤ B := by
      rcases hB3 with q | ⟨e, he, hp, hg⟩
      · have := a1 z (by omega); rw [h0 z (by omega)] at this; omega
      · have := b1 z (by omega) e he
        rw [hPf z e r0 he hz0 hp] at this
        have hg' : thr NV full tk c r0 f 5 e = B := hg
        omega
    omega
  have u2 : ∀ z, z < D → full z = 0 → r2 z = B := by
    intro z hz hz0
    have l1 := s2 z (by omega)
    have : S z = B := if_pos hz0
    have l2 := a2 z (by omega)
    rw [u1 z hz hz0] at l2
    omega
  intro l hl
  have hle : r2 l ≤ NV := by have := a2 l hl; have := a1 l hl; rw [h0 l hl] at this; omega
  refine ⟨hle, fun d hd => ?_, ?_⟩
  · have hb := b2 l hl d hd
    rcases Nat.eq_zero_or_pos (lsN full l d) with hz | hz
    · by_cases e : l = d
      · subst e
        unfold thr
        rw [hz, if_neg (by omega), if_pos rfl]
        omega
      · have fz : full d = 0 := by unfold lsN at hz; rw [if_neg e] at hz; exact hz
        unfold thr at hb ⊢
        rw [hz, if_neg (by omega), if_pos rfl] at hb ⊢
        rw [u1 d hd fz] at hb
        rw [u2 d hd fz]; exact hb
    · rw [thr_pos (r' := r1) hz]; exact hb
  · rcases c2 l hl with q | q
    · rcases c1 l hl with q1 | ⟨d, hd, q1⟩
      · left; rw [q, q1, h0 l hl]
      · right
        refine ⟨d, hd, ?_⟩
        rw [q]
        exact Nat.le_trans (thr_mono (a2 d (by omega))) q1
    · exact Or.inr q
/-- a table all of whose rows up to F are so -/
def Bell (NV D : Nat) (full tk : Nat → Nat) (F : Nat) (c : Nat → Nat → Nat) : Prop := ∀ f, f ≤ F → BellR NV D full tk c f (c f)
theorem bell_eq {NV D : Nat} {full tk : Nat → Nat} {F : Nat} {c : Nat → Nat → Nat} (h : Bell NV D full tk F c) {f l : Nat} (hf : f ≤ F) (hl : l < 6) (hn : c f l < NV) : ∃ d, d < D ∧ thr NV full tk c (c f) f l d = c f l := by
  obtain ⟨h1, h2, h3⟩ := h f hf l hl
  rcases h3 with q | ⟨d, hd, q⟩
  · omega
  · exact ⟨d, hd, Nat.le_antisymm q (h2 d hd)⟩
/-- how many doings, how many minutes: a cost that is below NV is small -/
theorem bell_small {NV D : Nat} {full tk : Nat → Nat} {F : Nat} {c : Nat → Nat → Nat} (hD : D ≤ 5) (htk : ∀ d, d < D → tk d ≤ 30) (h : Bell NV D full tk F c) : ∀ n f l, c f l ≤ n → f ≤ F → l < 6 → c f l < NV → ∃ M N, c f l = 1000 * M + N ∧ 1 ≤ N ∧ N ≤ 2 * (f + 1) ∧ M ≤ 30 * N := by
  intro n
  induction n with
  | zero =>
    intro f l hn hf hl hlt
    obtain ⟨d, hd, q⟩ := bell_eq h hf hl hlt
    rw [thr_self] at q
    split at q
    · omega
    · omega
  | succ n ih =>
    intro f l hn hf hl hlt
    obtain ⟨d, hd, q⟩ := bell_eq h hf hl hlt
    have ht := htk d hd
    rw [thr_self] at q
    split at q
    · rename_i hs
      exact ⟨tk d, 1, by omega, by omega, by omega, by omega⟩
    · rename_i hs
      have hc : c (f - lsN full l d) d < NV := by omega
      have q' : tk d * 1000 + 1 + c (f - lsN full l d) d = c f l := by omega
      rcases Nat.eq_zero_or_pos (lsN full l d) with hz | hz
      · -- nothing is taken: what comes next takes something
        rw [hz, Nat.sub_zero] at hc q'
        obtain ⟨d2, hd2, q2⟩ := bell_eq h hf (show d < 6 by omega) hc
        have ht2 := htk d2 hd2
        have hdd : d2 ≠ d := by
          intro e; subst e
          rw [thr_self] at q2
          split at q2
          · rename_i hs2
            by_cases e : l = d2
            · subst e; omega
            · have : lsN full l d2 = full d2 := by unfold lsN; rw [if_neg e]
              have h2 : lsN full d2 d2 = full d2 / 2 := by unfold lsN; rw [if_pos rfl]
              omega
          · rename_i hs2
            by_cases e : l = d2
            · subst e; rw [hz, Nat.sub_zero] at q2; omega
            · have h1 : lsN full l d2 = full d2 := by unfold lsN; rw [if_neg e]
              have h2 : lsN full d2 d2 = full d2 / 2 := by unfold lsN; rw [if_pos rfl]
              have h3 : lsN full d2 d2 = 0 := by omega
              rw [h3, Nat.sub_zero] at q2; omega
        have hpos : 0 < lsN full d d2 := by
          rcases Nat.eq_zero_or_pos (lsN full d d2) with z | z
          · exfalso
            have fz : full d2 = 0 := by unfold lsN at z; rw [if_neg (fun e => hdd e.symm)] at z; exact z
            -- d2 at once would have been better
            have hl2 : lsN full l d2 = 0 := by unfold lsN; split <;> omega
            have b := (h f hf l hl).2.1 d2 hd2
            rw [thr_self, hl2, if_neg (by omega), Nat.sub_zero] at b
            rw [thr_self, z, if_neg (by omega), Nat.sub_zero] at q2
            omega
          · exact z
        rw [thr_self] at q2
        split at q2
        · exact ⟨tk d + tk d2, 2, by omega, by omega, by omega, by omega⟩
        · rename_i hs2
          have hc2 : c (f - lsN full d d2) d2 < NV := by omega
          obtain ⟨M, N, e1, e2, e3, e4⟩ := ih (f - lsN full d d2) d2 (by omega) (by omega) (by omega) hc2
          exact ⟨tk d + tk d2 + M, N + 2, by omega, by omega, by omega, by omega⟩
      · obtain ⟨M, N, e1, e2, e3, e4⟩ := ih (f - lsN full l d) d (by omega) (by omega) (by omega) hc
        exact ⟨tk d + M, N + 1, by omega, by omega, by omega, by omega⟩
/-- two such tables agree, whatever stands for never in each -/
theorem bell_uniq {NV NV' D : Nat} {full tk : Nat → Nat} {F F' : Nat} {c c' : Nat → Nat → Nat} (hD : D ≤ 5) (htk : ∀ d, d < D → tk d ≤ 30) (h : Bell NV D full tk F c) (h' : Bell NV' D full tk F' c') (hF : F ≤ F') (hF30 : F ≤ 30) (hN' : 2000000 ≤ NV') : ∀ n f l, c f l ≤ n → f ≤ F → l < 6 → c f l < NV → c' f l ≤ c f l := by
  intro n
  induction n with
  | zero =>
    intro f l hn hf hl hlt
    obtain ⟨d, hd, q⟩ := bell_eq h hf hl hlt
    rw [thr_self] at q
    split at q <;> omega
  | succ n ih =>
    intro f l hn hf hl hlt
    obtain ⟨M, N, e1, e2, e3, e4⟩ := bell_small hD htk h (c f l) f l (Nat.le_refl _) hf hl hlt
    obtain ⟨d, hd, q⟩ := bell_eq h hf hl hlt
    have b := (h' f (by omega) l hl).2.1 d hd
    rw [thr_self] at q b
    split at q
    · rename_i hs; rw [if_pos hs] at b; omega
    · rename_i hs
      rw [if_neg hs] at b
      have hc : c (f - lsN full l d) d < NV := by omega
      have := ih (f - lsN full l d) d (by omega) (by omega) (by omega) hc
      omega
theorem bell_same {NV NV' D : Nat} {full tk : Nat → Nat} {F : Nat} {c c' : Nat → Nat → Nat} (hD : D ≤ 5) (htk : ∀ d, d < D → tk d ≤ 30) (h : Bell NV D full tk F c) (h' : Bell NV' D full tk F c') (hF30 : F ≤ 30) (hN : 2000000 ≤ NV) (hN' : 2000000 ≤ NV') : ∀ f l, f ≤ F → l < 6 → (c f l < NV ↔ c' f l < NV') ∧ (c f l < NV → c f l = c' f l) := by
  intro f l hf hl
  have k1 : c f l < NV → c' f l ≤ c f l := bell_uniq hD htk h h' (Nat.le_refl _) hF30 hN' _ f l (Nat.le_refl _) hf hl
  have k2 : c' f l < NV' → c f l ≤ c' f l := bell_uniq hD htk h' h (Nat.le_refl _) hF30 hN _ f l (Nat.le_refl _) hf hl
  have s1 : c f l < NV → c f l < 2000000 := by
    intro q
    obtain ⟨M, N, e1, e2, e3, e4⟩ := bell_small hD htk h (c f l) f l (Nat.le_refl _) hf hl q
    omega
  have s2 : c' f l < NV' → c' f l < 2000000 := by
    intro q
    obtain ⟨M, N, e1, e2, e3, e4⟩ := bell_small hD htk h' (c' f l) f l (Nat.le_refl _) hf hl q
    omega
  refine ⟨⟨fun q => ?_, fun q => ?_⟩, fun q => ?_⟩
  · have := k1 q; have := s1 q; omega
  · have := k2 q; have := s2 q; omega
  · have a := k1 q
    have b := s1 q
    have d := k2 (by omega)
    omega

/-! country: the least rooms one by one are the least of all sets -/
def bt (t r : Nat) : Nat := t / 2 ^ r % 2
def sA (a : Nat → Nat) (R t : Nat) : Nat := sumN (fun r => bt t r * a r) R
theorem bt01 (t r : Nat) : bt t r = 0 ∨ bt t r = 1 := by unfold bt; omega
theorem bt_slv : ∀ t, t < 32 → ∀ r, r < 5 → (slvI (nI t) (nI r) = 1 ↔ bt t r = 1) ∧ (slvI (nI t) (nI r) = 0 ↔ bt t r = 0) := by decide +kernel
theorem bt_or : ∀ t, t < 32 → ∀ e, e < 5 → bt t e = 0 → (t ||| 2 ^ e) < 32 ∧ pcN (t ||| 2 ^ e) = pcN t + 1 ∧ ∀ r, r < 5 → bt (t ||| 2 ^ e) r = if r = e then 1 else bt t r := by decide +kernel
theorem bt_pc : ∀ R, R ≤ 5 → ∀ t, t < 32 → (∀ r, r < 5 → R ≤ r → bt t r = 0) → sumN (fun r => bt t r) R = pcN t := by decide +kernel
theorem bt_hi : ∀ R, R ≤ 5 → ∀ t, t < 32 → t < 2 ^ R → ∀ r, r < 5 → R ≤ r → bt t r = 0 := by decide +kernel
theorem bt_pig : ∀ s, s < 32 → ∀ t, t < 32 → pcN t < pcN s → ∃ r, r < 5 ∧ bt s r = 1 ∧ bt t r = 0 := by decide +kernel
theorem bt_lt : ∀ R, R ≤ 5 → ∀ t, t < 32 → (∀ r, r < 5 → R ≤ r → bt t r = 0) → t < 2 ^ R := by decide +kernel
theorem sumN_up {b b' a : Nat → Nat} {e : Nat} (he : b e = 0) : ∀ R, (∀ r, r < R → b' r = if r = e then 1 else b r) → sumN (fun r => b' r * a r) R = sumN (fun r => b r * a r) R + (if e < R then a e else 0) := by
  intro R
  induction R with
  | zero => intro _; rfl
  | succ R ih =>
    intro h
    show sumN (fun r => b' r * a r) R + b' R * a R = sumN (fun r => b r * a r) R + b R * a R + _
    rw [ih (fun r hr => h r (by omega)), h R (by omega)]
    by_cases z : R = e
    · subst z
      rw [if_pos rfl, if_neg (by omega), if_pos (by omega), he]
      omega
    · rw [if_neg z]
      by_cases q : e < R
      · rw [if_pos q, if_pos (by omega)]; omega
      · rw [if_neg q, if_neg (by omega)]; omega
theorem sumN_th {a bs btt : Nat → Nat} {th : Nat} : ∀ R, (∀ r, r < R → bs r * a r + th * btt r ≥ btt r * a r + th * bs r) → sumN (fun r => bs r * a r) R + th * sumN btt R ≥ sumN (fun r => btt r * a r) R + th * sumN bs R := by
  intro R
  induction R with
  | zero => intro _; exact Nat.le_refl _
  | succ R ih =>
    intro h
    have h1 := ih (fun r hr => h r (by omega))
    have h2 := h R (by omega)
    show sumN (fun r => bs r * a r) R + bs R * a R + th * (sumN btt R + btt R) ≥ sumN (fun r => btt r * a r) R + btt R * a R + th * (sumN bs R + bs R)
    rw [Nat.mul_add, Nat.mul_add]
    omega
theorem sumN_le {f : Nat → Nat} {b : Nat} : ∀ R, (∀ r, r < R → f r ≤ b) → sumN f R ≤ R * b := by
  intro R
  induction R with
  | zero => intro _; exact Nat.zero_le _
  | succ R ih =>
    intro h
    have h1 := ih (fun r hr => h r (by omega))
    have h2 := h R (by omega)
    show sumN f R + f R ≤ _
    rw [Nat.add_mul]
    omega
theorem sumN_mem {f : Nat → Nat} {e : Nat} : ∀ R, e < R → f e ≤ sumN f R := by
  intro R
  induction R with
  | zero => intro h; omega
  | succ R ih =>
    intro h
    show f e ≤ sumN f R + f R
    rcases Nat.lt_or_ge e R with z | z
    · have := ih z; omega
    · rw [show e = R from by omega]; omega
theorem th_le {a : Nat → Nat} {R s t th : Nat} (hR : R ≤ 5) (hs : s < 32) (ht : t < 32) (hs0 : ∀ r, r < 5 → R ≤ r → bt s r = 0) (ht0 : ∀ r, r < 5 → R ≤ r → bt t r = 0) (h1 : ∀ r, r < R → bt t r = 1 → a r ≤ th) (h0 : ∀ r, r < R → bt t r = 0 → th ≤ a r) (hpc : pcN t ≤ pcN s) : sA a R t ≤ sA a R s := by
  have h := sumN_th (a := a) (bs := bt s) (btt := bt t) (th := th) R (fun r hr => by
    rcases bt01 s r with z | z <;> rcases bt01 t r with y | y <;> rw [z, y]
    · omega
    · have := h1 r hr y; omega
    · have := h0 r hr y; omega
    · omega)
  rw [show sumN (bt t) R = pcN t from bt_pc R hR t ht ht0, show sumN (bt s) R = pcN s from bt_pc R hR s hs hs0] at h
  have := Nat.mul_le_mul_left th hpc
  unfold sA
  omega
theorem ch_spec {v : Nat → Int32} {t : Nat} (ht : t < 32) (hv : ∀ r, r < 5 → v r = -9 ∨ ∃ n, n < 2000 ∧ v r = nI n) : ∀ n, n ≤ 5 → ((chF v (nI t) n).1 = -9 ∧ (chF v (nI t) n).2 = 1000000000 ∧ ∀ r, r < n → v r = -9 ∨ bt t r = 1) ∨ (∃ e, e < n ∧ chF v (nI t) n = (nI e, v e) ∧ ¬ v e = -9 ∧ bt t e = 0 ∧ ∀ r, r < n → ¬ v r = -9 → bt t r = 0 → v e ≤ v r) := by
  intro n
  induction n with
  | zero => intro _; exact Or.inl ⟨rfl, rfl, fun r hr => by omega⟩
  | succ n ih =>
    intro hn
    have hs := (bt_slv t ht n (by omega)).2
    unfold chF
    rcases ih (by omega) with ⟨e1, e2, e3⟩ | ⟨e, he, e1, e2, e3, e4⟩
    · by_cases z : ¬ v n = -9 ∧ slvI (nI t) (nI n) = 0 ∧ v n < (chF v (nI t) n).2
      · rw [if_pos z]
        right
        refine ⟨n, by omega, rfl, z.1, hs.mp z.2.1, fun r hr y1 y2 => ?_⟩
        rcases Nat.lt_or_ge r n with q | q
        · rcases e3 r q with w | w
          · exact absurd w y1
          · omega
        · rw [show r = n from by omega]; exact (i_le.mpr (Int.le_refl _))
      · rw [if_neg z]
        left
        refine ⟨e1, e2, fun r hr => ?_⟩
        rcases Nat.lt_or_ge r n with q | q
        · exact e3 r q
        · rw [show r = n from by omega]
          rcases hv n (by omega) with w | ⟨k, hk, w⟩
          · exact Or.inl w
          · right
            rcases bt01 t n with y | y
            · exfalso
              refine z ⟨by rw [w]; exact n9_ne (by omega), hs.mpr y, ?_⟩
              rw [e2, w, show (1000000000 : Int32) = nI 1000000000 from rfl]
              exact nI_lt (by omega) (by omega)
            · exact y
    · by_cases z : ¬ v n = -9 ∧ slvI (nI t) (nI n) = 0 ∧ v n < (chF v (nI t) n).2
      · rw [if_pos z]
        right
        rw [e1] at z
        have z3 : v n ≤ v e := i_le.mpr (Int.le_of_lt (i_lt.mp z.2.2))
        refine ⟨n, by omega, rfl, z.1, hs.mp z.2.1, fun r hr y1 y2 => ?_⟩
        rcases Nat.lt_or_ge r n with q | q
        · exact i_le.mpr (Int.le_trans (i_le.mp z3) (i_le.mp (e4 r q y1 y2)))
        · rw [show r = n from by omega]; exact i_le.mpr (Int.le_refl _)
      · rw [if_neg z]
        right
        refine ⟨e, by omega, e1, e2, e3, fun r hr y1 y2 => ?_⟩
        rcases Nat.lt_or_ge r n with q | q
        · exact e4 r q y1 y2
        · have er : r = n := by omega
          rw [er] at y1 y2 ⊢
          have : ¬ v n < v e := fun w => z ⟨y1, hs.mpr y2, by rw [e1]; exact w⟩
          exact nlt_le this
theorem greedy {v : Nat → Int32} {a : Nat → Nat} {R : Nat} (hv : ∀ r, r < R → (v r = -9 ∧ a r = 100000000) ∨ (∃ n, n < 2000 ∧ v r = nI n ∧ a r = n)) (hv5 : ∀ r, R ≤ r → r < 5 → v r = -9) (hR : R ≤ 5) :
    ∀ k t th, t < 32 → (∀ r, r < 5 → R ≤ r → bt t r = 0) → (∀ r, r < R → bt t r = 1 → a r ≤ th ∧ a r < 2000) → (∀ r, r < R → bt t r = 0 → th ≤ a r) →
      (ctyF v k (nI t) (nI (sA a R t)) = -9 ∧ ∀ s, s < 32 → (∀ r, r < 5 → R ≤ r → bt s r = 0) → pcN t + k ≤ pcN s → 100000000 ≤ sA a R s) ∨ (∃ t', t' < 32 ∧ (∀ r, r < 5 → R ≤ r → bt t' r = 0) ∧ pcN t' = pcN t + k ∧ ctyF v k (nI t) (nI (sA a R t)) = nI (sA a R t') ∧ sA a R t' < 100000000 ∧ ∀ s, s < 32 → (∀ r, r < 5 → R ≤ r → bt s r = 0) → pcN t' ≤ pcN s → sA a R t' ≤ sA a R s) := by
  have hvv : ∀ r, r < 5 → v r = -9 ∨ ∃ n, n < 2000 ∧ v r = nI n := fun r hr => by
    rcases Nat.lt_or_ge r R with z | z
    · rcases hv r z with ⟨y, _⟩ | ⟨n, hn, y, _⟩
      · exact Or.inl y
      · exact Or.inr ⟨n, hn, y⟩
    · exact Or.inl (hv5 r z hr)
  intro k
  induction k with
  | zero =>
    intro t th ht ht0 h1 h0
    right
    refine ⟨t, ht, ht0, rfl, rfl, ?_, fun s hs hs0 hp => th_le hR hs ht hs0 ht0 (fun r hr y => (h1 r hr y).1) h0 hp⟩
    have : sA a R t ≤ R * 2000 := sumN_le R (fun r hr => by
      rcases bt01 t r with y | y
      · rw [y]; omega
      · have := (h1 r hr y).2; rw [y]; omega)
    omega
  | succ k ih =>
    intro t th ht ht0 h1 h0
    unfold ctyF
    rcases ch_spec ht hvv 5 (Nat.le_refl _) with ⟨e1, e2, e3⟩ | ⟨e, he, e1, e2, e3, e4⟩
    · left
      rw [if_pos e1]
      refine ⟨rfl, fun s hs hs0 hp => ?_⟩
      obtain ⟨r, hr, y1, y2⟩ := bt_pig s hs t ht (by omega)
      have hrR : r < R := by
        rcases Nat.lt_or_ge r R with z | z
        · exact z
        · have := hs0 r hr z; omega
      rcases e3 r hr with w | w
      · rcases hv r hrR with ⟨_, q⟩ | ⟨n, hn, q, _⟩
        · have := sumN_mem (f := fun r => bt s r * a r) R hrR
          simp only [y1, q] at this
          unfold sA
          omega
        · exact absurd (q.symm.trans w) (n9_ne (by omega))
      · omega
    · have heR : e < R := by
        rcases Nat.lt_or_ge e R with z | z
        · exact z
        · exact absurd (hv5 e z he) e2
      obtain ⟨n, hn, ven, aen⟩ : ∃ n, n < 2000 ∧ v e = nI n ∧ a e = n := by
        rcases hv e heR with ⟨w, _⟩ | w
        · exact absurd w e2
        · exact w
      have ene : ¬ nI e = -9 := n9_ne (by omega)
      have cfst : (chF v (nI t) 5).1 = nI e := by rw [e1]
      rw [cfst, if_neg ene, nI_clamp (by omega), used_or t ht e he, ven, nI_add]
      obtain ⟨o1, o2, o3⟩ := bt_or t ht e he e3
      have es : sA a R t + n = sA a R (t ||| 2 ^ e) := by
        unfold sA
        rw [sumN_up (b := bt t) (b' := bt (t ||| 2 ^ e)) (e := e) e3 R (fun r hr => o3 r (by omega)), if_pos heR, aen]
      rw [es]
      have := ih (t ||| 2 ^ e) n o1 (fun r hr z => by rw [o3 r hr, if_neg (by omega)]; exact ht0 r hr z) (fun r hr y => ?_) (fun r hr y => ?_)
      · rw [o2, show pcN t + 1 + k = pcN t + (k + 1) from by omega] at this
        exact this
      · rw [o3 r (by omega)] at y
        by_cases q : r = e
        · rw [q, aen]; omega
        · rw [if_neg q] at y
          have w := h1 r hr y
          have w2 := h0 e heR e3
          omega
      · rw [o3 r (by omega)] at y
        by_cases q : r = e
        · rw [if_pos q] at y; omega
        · rw [if_neg q] at y
          rcases hv r hr with ⟨_, w⟩ | ⟨n', hn', w, w2⟩
          · omega
          · have w3 := e4 r (by omega) (by rw [w]; exact n9_ne (by omega)) y
            rw [ven, w, nI_leI (by omega) (by omega)] at w3
            omega
theorem setS_n {v' : Nat → Int32} {a : Nat → Nat} {R s : Nat} (hR : R ≤ 5) (hs : s < 32) (hv : ∀ r, r < R → v' r = nI (a r)) : setS v' s R = nI (sA a R s) := by
  unfold setS sA
  have : ∀ i, i ≤ R → sumI (fun r => if slvI (nI s) (nI r) = 1 then v' r else 0) i = nI (sumN (fun r => bt s r * a r) i) := by
    intro i
    induction i with
    | zero => intro _; rfl
    | succ i ih =>
      intro hi
      show sumI (fun r => if slvI (nI s) (nI r) = 1 then v' r else 0) i + (if slvI (nI s) (nI i) = 1 then v' i else 0) = nI (sumN (fun r => bt s r * a r) i + bt s i * a i)
      rw [ih (by omega), ← nI_add]
      rcases bt01 s i with y | y
      · rw [if_neg (fun z => by have := (bt_slv s hs i (by omega)).1.mp z; omega), y]
        simp [nI_0]
      · rw [if_pos ((bt_slv s hs i (by omega)).1.mpr y), y, hv i (by omega), Nat.one_mul]
  exact this R (Nat.le_refl _)
theorem cm_spec {v' : Nat → Int32} {a : Nat → Nat} {R wn : Nat} {W : Int32} (hR : R ≤ 5) (hv : ∀ r, r < R → v' r = nI (a r)) (ha : ∀ r, r < R → a r ≤ 100000000) (hW : ∀ s, s < 32 → (onesI (nI s) < W ↔ pcN s < wn)) :
    ∀ k, k ≤ 32 → ∃ M, M ≤ 100000000 ∧ cmF v' W R k = nI M ∧ (∀ s, s < k → wn ≤ pcN s → M ≤ sA a R s) ∧ (M = 100000000 ∨ ∃ s, s < k ∧ wn ≤ pcN s ∧ sA a R s = M) := by
  intro k
  induction k with
  | zero => intro _; exact ⟨100000000, Nat.le_refl _, rfl, fun s hs => by omega, Or.inl rfl⟩
  | succ k ih =>
    intro hk
    obtain ⟨M, m1, m2, m3, m4⟩ := ih (by omega)
    have hsA : sA a R k ≤ 5 * 100000000 := by
      have : sA a R k ≤ R * 100000000 := sumN_le R (fun r hr => by
        rcases bt01 k r with y | y
        · rw [y]; omega
        · have := ha r hr; rw [y]; omega)
      exact Nat.le_trans this (Nat.mul_le_mul_right _ hR)
    have hsA2 : sA a R k < 2 ^ 31 := Nat.lt_of_le_of_lt hsA (by decide)
    unfold cmF
    rw [m2, setS_n hR (by omega) hv]
    have hiff : (onesI (nI k) < W ∨ nI M ≤ nI (sA a R k)) ↔ (pcN k < wn ∨ M ≤ sA a R k) := by
      rw [hW k (by omega), nI_leI (by omega) hsA2]
    by_cases z : pcN k < wn ∨ M ≤ sA a R k
    · rw [if_pos (hiff.mpr z)]
      refine ⟨M, m1, rfl, fun s hs hp => ?_, ?_⟩
      · rcases Nat.lt_or_ge s k with y | y
        · exact m3 s y hp
        · have : s = k := by omega
          subst this
          omega
      · rcases m4 with y | ⟨s, y1, y2, y3⟩
        · exact Or.inl y
        · exact Or.inr ⟨s, by omega, y2, y3⟩
    · rw [if_neg (fun q => z (hiff.mp q))]
      refine ⟨sA a R k, by omega, rfl, fun s hs hp => ?_, Or.inr ⟨k, by omega, by omega, rfl⟩⟩
      rcases Nat.lt_or_ge s k with y | y
      · have := m3 s y hp; omega
      · rw [show s = k from by omega]; exact Nat.le_refl _
theorem want_n : ∀ R, R ≤ 5 → ∀ p, p ≤ 6 → ∀ c, c ≤ 6 → (nI c < nI R / 2 + 1 - nI p ↔ c < (nI R / 2 + 1 - nI p).toNatClampNeg) := by decide +kernel
theorem pow_32 : ∀ R, R ≤ 5 → 2 ^ R ≤ 32 := by decide +kernel
theorem st_country {μ : Mem} (hI : Inv μ) : pre_X8_country μ ∧ ∀ x m, post_X8_country μ x m → pre_X9_country m ∧ ∀ y m', post_X9_country m y m' → x = y ∧ Inv m' := by
  have hI0 := hI
  obtain ⟨hs, hT, hl, D, hH, ⟨sO, sE⟩, hP, hIm, hF⟩ := hI
  have hh := inv_HF hs hH
  have hh0 := hh
  obtain ⟨vp, vm⟩ := sv_of hh0 sO sE
  obtain ⟨hw, h5, h5', h6, r0, r0', q0, q0', s0, s0', hc, hk, hn, hR, hQ, hS⟩ := hh0
  refine ⟨⟨hw, vp⟩, ?_⟩
  rintro x m ⟨hf, v, hv, hv5, hx⟩
  have k1 : kp μ m := kp_fr hf (by simp)
  have e := k1.1
  refine ⟨sv_kp vm k1, ?_⟩
  rintro y m' ⟨hf', h75, v', hv', hy⟩
  refine ⟨?_, inv_kp hI0 (kp_trans k1 (kp_f75 hf' (by simp) h75))⟩
  rw [gn_of r0 (by omega)] at hv hv5
  rw [kp_gn k1 (c := 77) (by omega), gn_of r0' (by omega)] at hv' hy
  rw [e 77 (by omega), e 84 (by omega), r0'] at hy
  rw [r0, sE.2.2.2.1] at hx
  obtain ⟨s, hsv, hs31⟩ := sO.2.2.2.1
  rw [hsv] at hx hy
  unfold wantC at hx
  unfold wantM at hy
  rw [bits_pc s (by omega)] at hx
  rw [ones_pc s (by omega)] at hy
  have pz := (pc_sz s (by omega)).1
  have hmo : ∀ r, r < dn D 0 → (v r = -9 ∧ v' r = 100000000) ∨ ∃ n, n < 2000 ∧ v r = nI n ∧ v' r = nI n := fun r hr => mov_eq hh sO sE hr k1 (hv r hr) (hv' r hr)
  obtain ⟨a, hav, hav'⟩ : ∃ a : Nat → Nat, (∀ r, r < dn D 0 → (v r = -9 ∧ a r = 100000000) ∨ (∃ n, n < 2000 ∧ v r = nI n ∧ a r = n)) ∧ (∀ r, r < dn D 0 → v' r = nI (a r) ∧ a r ≤ 100000000) := by
    refine ⟨fun r => (v' r).toNatClampNeg, fun r hr => ?_, fun r hr => ?_⟩
    · rcases hmo r hr with ⟨y1, y2⟩ | ⟨n, hn, y1, y2⟩
      · exact Or.inl ⟨y1, by show (v' r).toNatClampNeg = _; rw [y2]; rfl⟩
      · exact Or.inr ⟨n, hn, y1, by show (v' r).toNatClampNeg = _; rw [y2, nI_clamp (by omega)]⟩
    · rcases hmo r hr with ⟨y1, y2⟩ | ⟨n, hn, y1, y2⟩
      · show v' r = nI (v' r).toNatClampNeg ∧ (v' r).toNatClampNeg ≤ _
        rw [y2]
        exact ⟨rfl, by decide⟩
      · show v' r = nI (v' r).toNatClampNeg ∧ (v' r).toNatClampNeg ≤ _
        rw [y2, nI_clamp (by omega)]
        exact ⟨rfl, by omega⟩
  generalize hWn : (nI (dn D 0) / 2 + 1 - nI (pcN s)).toNatClampNeg = wn at hx
  have hW : ∀ q, q < 32 → (onesI (nI q) < nI (dn D 0) / 2 + 1 - nI (pcN s) ↔ pcN q < wn) := fun q hq => by
    rw [ones_pc q (by omega), ← hWn]
    exact want_n (dn D 0) h5 (pcN s) pz (pcN q) (pc_sz q (by omega)).1
  have hp32 := pow_32 (dn D 0) h5
  obtain ⟨M, m1, m2, m3, m4⟩ := cm_spec (wn := wn) h5 (fun r hr => (hav' r hr).1) (fun r hr => (hav' r hr).2) hW (2 ^ dn D 0) hp32
  rw [m2] at hy
  have z0 : ∀ r, bt 0 r = 0 := fun r => by unfold bt; simp
  have hg := greedy hav hv5 h5 wn 0 0 (by omega) (fun r _ _ => z0 r) (fun r _ y => absurd y (by rw [z0 r]; omega)) (fun r _ _ => Nat.zero_le _)
  have sA0 : sA a (dn D 0) 0 = 0 := by
    have : sA a (dn D 0) 0 ≤ dn D 0 * 0 := sumN_le _ (fun r _ => by rw [z0 r]; omega)
    omega
  rw [sA0, nI_0, show pcN 0 = 0 from by decide, Nat.zero_add] at hg
  rw [hx, hy]
  rcases hg with ⟨g1, g2⟩ | ⟨t', g1, g2, g3, g4, g5, g6⟩
  · rw [g1]
    have : M = 100000000 := by
      rcases m4 with w | ⟨q, w1, w2, w3⟩
      · exact w
      · have := g2 q (by omega) (fun r hr z => bt_hi (dn D 0) h5 q (by omega) w1 r hr z) w2
        omega
    rw [this, if_pos (show nI 100000000 = 100000000 from rfl)]
  · rw [g4]
    have ht2 := bt_lt (dn D 0) h5 t' g1 g2
    have u1 := m3 t' ht2 (by omega)
    have : M = sA a (dn D 0) t' := by
      rcases m4 with w | ⟨q, w1, w2, w3⟩
      · omega
      · have := g6 q (by omega) (fun r hr z => bt_hi (dn D 0) h5 q (by omega) w1 r hr z) (by omega)
        omega
    rw [this, if_neg]
    intro z
    have := (nI_eq (a := sA a (dn D 0) t') (b := 100000000) (by omega) (by omega)).mp z
    omega

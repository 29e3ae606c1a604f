/-! soonest, loved, round -/
theorem bell_cut {NV D : Nat} {full full' tk tk' : Nat → Nat} {F F' : Nat} {c : Nat → Nat → Nat} (hD : D ≤ 5) (h1 : ∀ d, d < D → full d = full' d ∧ tk d = tk' d) (hF : F ≤ F') (h : Bell NV D full tk F' c) : Bell NV D full' tk' F c := fun f hf => bellR_congr hD h1 (fun _ _ _ _ => rfl) (h f (by omega))
/-- the two tables say the same: each cost below its own 'never' is the other's -/
def repr2 (NV NV' : Nat) (a a' : Nat) : Prop := (a < NV ∧ a' = a ∧ a' < NV') ∨ (a = NV ∧ a' = NV')
theorem rep_eq {NV NV' a a' b b' : Nat} (h : repr2 NV NV' a a') (k : repr2 NV NV' b b') : a = b ↔ a' = b' := by
  unfold repr2 at h k
  omega
theorem fbN_c {t t' : Nat → Nat} {v v' D : Nat} : ∀ n, n ≤ D → (∀ d, d < D → (t d = v ↔ t' d = v')) → fbN t v D n = fbN t' v' D n := by
  intro n
  induction n with
  | zero => intro _ _; rfl
  | succ n ih =>
    intro hn h
    unfold fbN
    rw [ih (by omega) h]
    have := h (D - (n + 1)) (by omega)
    by_cases z : t (D - (n + 1)) = v
    · rw [if_pos z, if_pos (this.mp z)]
    · rw [if_neg z, if_neg (fun q => z (this.mpr q))]
theorem fbN_lt {t : Nat → Nat} {v D : Nat} (hD : 0 < D) : ∀ n, n ≤ D → fbN t v D n < D := by
  intro n
  induction n with
  | zero => intro _; exact hD
  | succ n ih =>
    intro hn
    unfold fbN
    split
    · omega
    · exact ih (by omega)
theorem sAt_same {NV NV' D : Nat} {full full' tk tk' : Nat → Nat} {F : Nat} {c c' : Nat → Nat → Nat} (hD0 : 0 < D) (hD : D ≤ 5) (h1 : ∀ d, d < D → full d = full' d ∧ tk d = tk' d) (htk : ∀ d, d < D → tk d ≤ 30) (hN : 10000000 ≤ NV) (hN' : 10000000 ≤ NV') (hs : ∀ f l, f ≤ F → l < 6 → repr2 NV NV' (c f l) (c' f l) ∧ (c f l < NV → c f l < 2000000)) :
    ∀ k f l, f ≤ F → l < 6 → sAt NV full tk c D k f l = sAt NV' full' tk' c' D k f l := by
  have hls : ∀ l d, d < D → lsN full l d = lsN full' l d := fun l d hd => by unfold lsN; rw [(h1 d hd).1]
  have hfb : ∀ f l, f ≤ F → l < 6 → fbC NV full tk c D f l = fbC NV' full' tk' c' D f l := by
    intro f l hf hl
    unfold fbC
    refine fbN_c D (Nat.le_refl _) fun d hd => rep_eq ?_ (hs f l hf hl).1
    unfold tXf
    rw [hls l d hd, (h1 d hd).2]
    have h30 := htk d hd
    rw [(h1 d hd).2] at h30
    by_cases z : f < lsN full' l d
    · rw [if_pos z, if_pos z]; unfold repr2; omega
    · rw [if_neg z, if_neg z]
      obtain ⟨q, q2⟩ := hs (f - lsN full' l d) d (by omega) (by omega)
      unfold repr2 at q ⊢
      rcases q with ⟨y1, y2, y3⟩ | ⟨y1, y2⟩
      · have := q2 y1
        rw [if_neg (by omega), if_neg (by omega)]; omega
      · rw [if_pos (by omega), if_pos (by omega)]; omega
  intro k
  induction k with
  | zero => intro f l hf hl; exact hfb f l hf hl
  | succ k ih =>
    intro f l hf hl
    unfold sAt
    have hd : fbC NV full tk c D f l < D := fbN_lt hD0 D (Nat.le_refl _)
    rw [← hfb f l hf hl, ← hls l _ hd]
    exact ih _ _ (by omega) (by omega)
/-- the two tables of a room -/
theorem tabs {μ : Mem} {w R Q S r : Nat} (h : HF μ w R Q S) (hr : r < R) (hf30 : isB (gi μ 84 (5 + r)) 30) (he : gi μ 18 r = gi μ 84 (5 + r)) {full tk : Nat → Nat} {c c' : Nat → Nat → Nat} (ht : tabC μ w r full tk c) (ht' : tabM μ r c') :
    (∀ d, d < Q → full d = fullM μ r d ∧ tk d = gn μ 82 d) ∧ (∀ d, d < Q → tk d ≤ 30) ∧ ∀ f l, f ≤ gn μ 18 r → l < 6 → repr2 1000000000 100000000 (c f l) (c' f l) ∧ (c f l < 1000000000 → c f l < 2000000) := by
  obtain ⟨hw, h5, h5', h6, r0, r0', q0, q0', s0, s0', hc, hk, hn, hR, hQ, hS⟩ := h
  obtain ⟨t1, t2⟩ := ht
  rw [gn_of q0 (by omega)] at t1 t2
  unfold tabM at ht'
  rw [gn_of q0' (by omega)] at ht'
  have e1 : ∀ d, d < Q → full d = fullM μ r d ∧ tk d = gn μ 82 d := fun d hd => by
    obtain ⟨a1, a2⟩ := t1 d hd
    rw [a1, a2]
    unfold fullC fullM gn
    rw [(hQ d hd).1, (hQ d hd).2.1, (hR r hr).1]
    exact ⟨rfl, rfl⟩
  have h30 : ∀ d, d < Q → gn μ 82 d ≤ 30 := fun d hd => (isB_clamp (hQ d hd).2.2.2 (by omega)).2
  obtain ⟨a, ha, ha30⟩ := hf30
  have g18 : gn μ 18 r = a := gn_of (he.trans ha) (by omega)
  refine ⟨e1, fun d hd => by rw [(e1 d hd).2]; exact h30 d hd, fun f l hf hl => ?_⟩
  rw [g18] at hf t2
  have b1 : Bell 1000000000 Q (fullM μ r) (gn μ 82) a c := bell_cut h5' e1 (Nat.le_refl _) t2
  have b2 : Bell 100000000 Q (fullM μ r) (gn μ 82) a c' := bell_cut h5' (fun _ _ => ⟨rfl, rfl⟩) ha30 ht'
  obtain ⟨s1, s2⟩ := bell_same h5' h30 b1 b2 ha30 (by omega) (by omega) f l hf hl
  have l1 := (b1 f hf l hl).1
  have l2 := (b2 f hf l hl).1
  refine ⟨?_, fun q => ?_⟩
  · unfold repr2
    by_cases q : c f l < 1000000000
    · exact Or.inl ⟨q, (s2 q).symm, s1.mp q⟩
    · have : ¬ c' f l < 100000000 := fun y => q (s1.mpr y)
      omega
  · obtain ⟨M, N, e1, e2, e3, e4⟩ := bell_small h5' h30 b1 (c f l) f l (Nat.le_refl _) hf hl q
    omega
theorem last_eq {R Q : Nat} {μ : Mem} {r : Nat} (hr : r < R) (hQ : Q ≤ 5) (h : isB (gi μ 84 (10 + r)) Q) (he : gi μ 19 r = decI (gi μ 84 (10 + r))) : lastC (gi μ 19 r) = decN (gn μ 84 (10 + r)) ∧ decN (gn μ 84 (10 + r)) < 6 ∧ (gi μ 19 r = -9 ∨ isN μ 19 r 4) := by
  obtain ⟨k, hk, hkQ⟩ := h
  have key : ∀ k, k ≤ 5 → lastC (decI (nI k)) = decN k ∧ decN k < 6 ∧ (decI (nI k) = -9 ∨ (decI (nI k) = nI (decI (nI k)).toNatClampNeg ∧ (decI (nI k)).toNatClampNeg ≤ 4)) := by decide +kernel
  obtain ⟨a1, a2, a3⟩ := key k (by omega)
  rw [gn_of hk (by omega), he, hk]
  refine ⟨a1, a2, ?_⟩
  unfold isN gn
  rw [he, hk]
  exact a3
theorem sv_of {μ : Mem} {w R Q S : Nat} (h : HF μ w R Q S) (sO : scOK R Q (gi μ 84)) (sE : scEq R (gi μ 17) (gi μ 18) (gi μ 19) (gi μ 84)) : SVp μ w ∧ SVm μ := by
  obtain ⟨hw, h5, h5', h6, r0, r0', q0, q0', s0, s0', hc, hk, hn, hR, hQ, hS⟩ := h
  have isB_N : ∀ {c k b : Nat}, isB (gi μ c k) b → b < 2 ^ 31 → isN μ c k b := fun h hb => isB_clamp h hb
  constructor
  · unfold SVp
    rw [gn_of r0 (by omega), gn_of q0 (by omega)]
    refine ⟨isN_of r0 h5 (by omega), isN_of q0 h5' (by omega), fun d hd => ⟨isB_N ?_ (by omega), isB_N ?_ (by omega)⟩, fun r hr => isB_N ?_ (by omega), fun r hr z => isB_N ?_ (by omega), fun r hr => (last_eq hr h5' (sO.2.2.2.2.2.2.1 r hr) (sE.2.2.2.2.2.2 r hr)).2.2⟩
    · rw [(hQ d hd).1]; exact (hQ d hd).2.2.1
    · rw [(hQ d hd).2.1]; exact (hQ d hd).2.2.2
    · rw [(hR r hr).1]; exact (hR r hr).2.2
    · rw [sE.2.2.2.2.2.1 r hr]; rw [sE.2.2.2.1] at z; exact sO.2.2.2.2.2.1 r hr z
  · unfold SVm
    rw [gn_of r0' (by omega), gn_of q0' (by omega)]
    refine ⟨isN_of r0' h5 (by omega), isN_of q0' h5' (by omega), fun d hd => ⟨isB_N (hQ d hd).2.2.1 (by omega), isB_N (hQ d hd).2.2.2 (by omega)⟩, fun r hr => isB_N (hR r hr).2.2 (by omega), fun r hr z => isB_N (sO.2.2.2.2.2.1 r hr z) (by omega), fun r hr => ?_⟩
    obtain ⟨k, hk, hkQ⟩ := sO.2.2.2.2.2.2.1 r hr
    exact isN_of hk (by omega) (by omega)
theorem sv_kp {μ m : Mem} (h : SVm μ) (hk : kp μ m) : SVm m := by
  have e := hk.1
  have g : ∀ c, (76 ≤ c ∧ c ≤ 89) → ∀ k, gn m c k = gn μ c k := fun c hc k => kp_gn hk (by omega)
  unfold SVm isN at h ⊢
  simp only [g 77 (by omega), g 79 (by omega), g 81 (by omega), g 82 (by omega), g 84 (by omega), e 77 (by omega), e 79 (by omega), e 81 (by omega), e 82 (by omega), e 84 (by omega)]
  exact h
theorem tab_kp {μ m : Mem} (hk : kp μ m) (r : Nat) (c : Nat → Nat → Nat) : tabM m r c ↔ tabM μ r c := by
  unfold tabM
  rw [kp_gn hk (c := 77) (by omega), show fullM m r = fullM μ r from funext fun d => by unfold fullM; rw [kp_gn hk (c := 81) (by omega), kp_gn hk (c := 79) (by omega)], show gn m 82 = gn μ 82 from funext fun d => kp_gn hk (by omega)]
theorem st_soonest {μ : Mem} (hI : Inv μ) (p1 p2 : Int32) : pre_X8_soonest p1 p2 μ ∧ ∀ x m, post_X8_soonest p1 p2 μ x m → pre_X9_soonest p1 p2 m ∧ ∀ y m', post_X9_soonest p1 p2 m y m' → x = y ∧ Inv m' := by
  have hI0 := hI
  obtain ⟨hs, hT, hl, D, hH, ⟨sO, sE⟩, hP, hIm, hF⟩ := hI
  have hh0 := inv_HF hs hH
  obtain ⟨vp, vm⟩ := sv_of hh0 sO sE
  obtain ⟨hw, h5, h5', h6, r0, r0', q0, q0', s0, s0', hc, hk, hn, hR, hQ, hS⟩ := hh0
  refine ⟨⟨hw, vp⟩, ?_⟩
  rintro x m ⟨hf, hx1, hx2⟩
  have k1 : kp μ m := kp_fr hf (by simp)
  refine ⟨sv_kp vm k1, ?_⟩
  rintro y m' ⟨hf', h75, hy1, hy2⟩
  refine ⟨?_, inv_kp hI0 (kp_trans k1 (kp_f75 hf' (by simp) h75))⟩
  rw [r0] at hx1 hx2
  rw [k1.1 77 (by omega), r0'] at hy1 hy2
  by_cases z : p1 < 0 ∨ nI (dn D 0) ≤ p1 ∨ p2 < -2
  · rw [hx1 z, hy1 z]
  obtain ⟨x1, x2⟩ := hx2 z
  obtain ⟨y1, y2⟩ := hy2 z
  rw [sE.2.2.2.1] at x1 x2
  rw [k1.1 84 (by omega)] at y1 y2
  by_cases z2 : slvI (gi μ 84 3) p1 = 1
  · rw [x1 z2, y1 z2]
  obtain ⟨full, tk, c, hc1, hx⟩ := x2 z2
  obtain ⟨c', hc2, hy⟩ := y2 z2
  rw [tab_kp k1] at hc2
  obtain ⟨e1, e2⟩ := out_R (n := dn D 0) (by omega) (fun q => z (by rcases q with q | q; exact Or.inl q; exact Or.inr (Or.inl q)))
  rw [e1] at z2
  generalize p1.toNatClampNeg = r at *
  have hb := sO.2.2.2.2.2.1 r e2 z2
  have he := sE.2.2.2.2.2.1 r e2
  obtain ⟨t1, t2, t3⟩ := tabs (inv_HF hs hH) e2 hb he hc1 hc2
  obtain ⟨l1, l2, _⟩ := last_eq e2 h5' (sO.2.2.2.2.2.2.1 r e2) (sE.2.2.2.2.2.2 r e2)
  have gF : gn μ 84 (5 + r) = gn μ 18 r := by unfold gn; rw [he]
  rw [kp_gn k1 (c := 77) (by omega), kp_gn k1 (c := 84) (by omega), kp_gn k1 (c := 84) (by omega), gn_of q0' (by omega), gF, show fullM m r = fullM μ r from funext fun d => by unfold fullM; rw [kp_gn k1 (c := 81) (by omega), kp_gn k1 (c := 79) (by omega)], show gn m 82 = gn μ 82 from funext fun d => kp_gn k1 (by omega)] at hy
  rw [gn_of q0 (by omega), l1] at hx
  rw [hx, hy]
  obtain ⟨q1, q2⟩ := t3 (gn μ 18 r) (decN (gn μ 84 (10 + r))) (Nat.le_refl _) l2
  unfold soonA
  rcases q1 with ⟨y1, y2, y3⟩ | ⟨y1, y2⟩
  · have n1 : ¬ 1000000000 ≤ c (gn μ 18 r) (decN (gn μ 84 (10 + r))) := by omega
    have n2 : ¬ 100000000 ≤ c' (gn μ 18 r) (decN (gn μ 84 (10 + r))) := by omega
    rw [if_neg n1, if_neg n2, y2]
    have hD0 : 0 < dn D 1 := by
      rcases Nat.eq_zero_or_pos (dn D 1) with q | q
      · exfalso
        have hb := hc1.2 (gn μ 18 r) (Nat.le_refl _) (decN (gn μ 84 (10 + r))) l2
        rw [gn_of q0 (by omega), q] at hb
        rcases hb.2.2 with w | ⟨d, hd, _⟩ <;> omega
      · exact q
    rw [sAt_same hD0 h5' t1 t2 (by omega) (by omega) t3 _ _ _ (Nat.le_refl _) l2]
  · rw [if_pos (by omega), if_pos (by omega)]
/-- what is said of a room by both -/
theorem mo_eq {μ : Mem} {w R Q S r : Nat} (h : HF μ w R Q S) (sO : scOK R Q (gi μ 84)) (sE : scEq R (gi μ 17) (gi μ 18) (gi μ 19) (gi μ 84)) (hr : r < R) (hns : ¬ slvI (gi μ 84 3) (nI r) = 1) {full tk : Nat → Nat} {c c' : Nat → Nat → Nat} (ht : tabC μ w r full tk c) (ht' : tabM μ r c') :
    repr2 1000000000 100000000 (c (gn μ 18 r) (lastC (gi μ 19 r))) (c' (gn μ 84 (5 + r)) (decN (gn μ 84 (10 + r)))) ∧ (c (gn μ 18 r) (lastC (gi μ 19 r)) < 1000000000 → c (gn μ 18 r) (lastC (gi μ 19 r)) < 2000000) := by
  have h5' := h.2.2.1
  have he := sE.2.2.2.2.2.1 r hr
  obtain ⟨t1, t2, t3⟩ := tabs h hr (sO.2.2.2.2.2.1 r hr hns) he ht ht'
  obtain ⟨l1, l2, _⟩ := last_eq hr h5' (sO.2.2.2.2.2.2.1 r hr) (sE.2.2.2.2.2.2 r hr)
  have gF : gn μ 84 (5 + r) = gn μ 18 r := by unfold gn; rw [he]
  rw [l1, gF]
  exact t3 _ _ (Nat.le_refl _) l2
theorem n9_ne {n : Nat} (h : n < 2000000) : ¬ nI n = -9 := fun z => by
  have := congrArg Int32.toInt z
  rw [nI_toInt (by omega), show (-9 : Int32).toInt = -9 from rfl] at this
  omega
theorem st_loved {μ : Mem} (hI : Inv μ) : pre_X8_loved μ ∧ ∀ x m, post_X8_loved μ x m → pre_X9_loved m ∧ ∀ y m', post_X9_loved m y m' → x = y ∧ Inv m' := by
  have hI0 := hI
  obtain ⟨hs, hT, hl, D, hH, ⟨sO, sE⟩, hP, hIm, hF⟩ := hI
  have hh := inv_HF hs hH
  have hh0 := hh
  obtain ⟨vp, vm⟩ := sv_of hh0 sO sE
  obtain ⟨hw, h5, h5', h6, r0, r0', q0, q0', s0, s0', hc, hk, hn, hR, hQ, hS⟩ := hh0
  refine ⟨⟨hw, vp⟩, ?_⟩
  rintro x m ⟨hf, v, hv, hx⟩
  have k1 : kp μ m := kp_fr hf (by simp)
  refine ⟨sv_kp vm k1, ?_⟩
  rintro y m' ⟨hf', h75, v', hv', hy⟩
  refine ⟨?_, inv_kp hI0 (kp_trans k1 (kp_f75 hf' (by simp) h75))⟩
  rw [gn_of r0 (by omega)] at hx hv
  rw [kp_gn k1 (c := 77) (by omega), gn_of r0' (by omega)] at hy hv'
  rw [hx, hy, k1.1 84 (by omega), sE.2.2.2.1]
  refine orI_c fun r hr => ?_
  unfold lovF lovM
  by_cases z : slvI (gi μ 84 3) (nI r) = 1
  · rw [if_neg (fun q => q.1 z), if_neg (fun q => q.1 z)]
  · have hm := (hv r hr).2 (by rw [sE.2.2.2.1]; exact z)
    obtain ⟨full, tk, c, hc1, he1⟩ := hm
    rcases hv' r hr with q | ⟨c', hc2, he2, _⟩
    · rw [k1.1 84 (by omega)] at q; exact absurd q z
    rw [tab_kp k1] at hc2
    rw [kp_gn k1 (c := 84) (by omega), kp_gn k1 (c := 84) (by omega)] at he2
    obtain ⟨q1, q2⟩ := mo_eq hh sO sE hr z hc1 hc2
    rcases q1 with ⟨y1, y2, y3⟩ | ⟨y1, y2⟩
    · have := q2 y1
      rw [if_pos y1] at he1
      rw [if_neg (fun q => n9_ne (by omega) (he1.symm.trans q.2)), if_neg (fun q => by have := q.2; omega)]
    · rw [if_neg (by omega)] at he1
      rw [if_pos ⟨z, he1⟩, if_pos ⟨z, by omega⟩]
/-- the minutes of a room, by both -/
theorem mov_eq {μ m : Mem} {w R Q S r : Nat} (h : HF μ w R Q S) (sO : scOK R Q (gi μ 84)) (sE : scEq R (gi μ 17) (gi μ 18) (gi μ 19) (gi μ 84)) (hr : r < R) (k1 : kp μ m) {v v' : Int32} (hv : moC μ w r v) (hv' : moM m r v') : (v = -9 ∧ v' = 100000000) ∨ ∃ n, n < 2000 ∧ v = nI n ∧ v' = nI n := by
  unfold moC at hv
  unfold moM at hv'
  rw [sE.2.2.2.1] at hv
  rw [k1.1 84 (by omega)] at hv'
  by_cases z : slvI (gi μ 84 3) (nI r) = 1
  · exact Or.inl ⟨hv.1 z, hv'.1 z⟩
  · obtain ⟨full, tk, c, hc1, he1⟩ := hv.2 z
    obtain ⟨c', hc2, he2⟩ := hv'.2 z
    rw [tab_kp k1] at hc2
    rw [kp_gn k1 (c := 84) (by omega), kp_gn k1 (c := 84) (by omega)] at he2
    obtain ⟨q1, q2⟩ := mo_eq h sO sE hr z hc1 hc2
    rcases q1 with ⟨y1, y2, y3⟩ | ⟨y1, y2⟩
    · have := q2 y1
      rw [if_pos y1] at he1
      rw [if_pos y3, y2] at he2
      exact Or.inr ⟨_, by omega, he1, he2⟩
    · rw [if_neg (by omega)] at he1
      rw [if_neg (by omega)] at he2
      exact Or.inl ⟨he1, he2⟩
theorem st_round {μ : Mem} (hI : Inv μ) (p1 : Int32) : pre_X8_round p1 μ ∧ ∀ x m, post_X8_round p1 μ x m → pre_X9_round p1 m ∧ ∀ y m', post_X9_round p1 m y m' → x = y ∧ Inv m' := by
  have hI0 := hI
  obtain ⟨hs, hT, hl, D, hH, ⟨sO, sE⟩, hP, hIm, hF⟩ := hI
  have hh := inv_HF hs hH
  have hh0 := hh
  obtain ⟨vp, vm⟩ := sv_of hh0 sO sE
  obtain ⟨hw, h5, h5', h6, r0, r0', q0, q0', s0, s0', hc, ⟨wk, wk1, wk2, wk9⟩, ⟨ni, ni1, ni2, ni5⟩, hR, hQ, hS⟩ := hh0
  obtain ⟨k, hk, hkR⟩ := sO.2.1
  obtain ⟨mi, hmi, hmi9⟩ := sO.2.2.1
  have e1 : gi μ 17 1 = decI (nI k) := by rw [sE.2.1, hk]
  have keyd : ∀ k, k ≤ 5 → (decI (nI k) = -9 ∧ k - 1 = 0) ∨ (decI (nI k) = nI (k - 1) ∧ ¬ decI (nI k) = -9 ∧ k - 1 ≤ 4) := by decide +kernel
  have kd := keyd k (by omega)
  have hP0 : P0C μ = k - 1 := by
    unfold P0C gn
    rw [e1]
    rcases kd with ⟨y1, y2⟩ | ⟨y1, y2, y3⟩
    · rw [if_pos y1, y2]
    · rw [if_neg y2, y1, nI_clamp (by omega)]
  refine ⟨⟨hw, vp, hw, isN_of r0 h5 (by omega), isN_of wk1 wk9 (by omega), isN_of ni1 ni5 (by omega), isN_of (by rw [sE.2.2.1]; exact hmi) hmi9 (by omega), ?_⟩, ?_⟩
  · rcases kd with ⟨y1, y2⟩ | ⟨y1, y2, y3⟩
    · exact Or.inl (e1.trans y1)
    · exact Or.inr (isN_of (e1.trans y1) y3 (by omega))
  rintro x m ⟨hf, hx1, hx2⟩
  have k1 : kp μ m := kp_fr hf (by simp)
  have e := k1.1
  refine ⟨⟨sv_kp vm k1, isN_of (by rw [e 77 (by omega)]; exact wk2) wk9 (by omega), isN_of (by rw [e 77 (by omega)]; exact ni2) ni5 (by omega), isN_of (by rw [e 84 (by omega)]; exact hmi) hmi9 (by omega), isN_of (by rw [e 84 (by omega)]; exact hk) (by omega) (by omega)⟩, ?_⟩
  rintro y m' ⟨hf', h75, hy1, hy2⟩
  refine ⟨?_, inv_kp hI0 (kp_trans k1 (kp_f75 hf' (by simp) h75))⟩
  by_cases z : -2 ≤ p1
  · obtain ⟨v, hv, b, hb, hx⟩ := hx2 z
    obtain ⟨v', hv', b', hb', hy⟩ := hy2 z
    unfold bstM P0M at hb'
    unfold P0M at hy
    rw [kp_gn k1 (c := 77) (by omega), gn_of r0' (by omega)] at hv'
    rw [gn_of r0 (by omega)] at hv
    have hmo : ∀ r, r < dn D 0 → moV (-9) v r = moV 100000000 v' r := fun r hr => by
      unfold moV
      rcases mov_eq hh sO sE hr k1 (hv r hr) (hv' r hr) with ⟨y1, y2⟩ | ⟨n, hn, y1, y2⟩
      · rw [y1, y2, if_pos rfl, if_pos rfl]
      · rw [y1, y2, if_neg (n9_ne (by omega)), if_neg (fun q => ?_)]
        have := (nI_eq (a := n) (b := 100000000) (by omega) (by omega)).mp q
        omega
    have hwt : ∀ r, r < dn D 0 → gi μ (gp μ 1 + 3) r = gi m 80 r := fun r hr => by rw [e 80 (by omega), (hR r hr).2.1]
    rw [gn_of r0 (by omega), gn_of wk1 (by omega), gn_of ni1 (by omega), hP0, gn_of (sE.2.2.1.trans hmi) (by omega)] at hb
    rw [gn_of wk1 (by omega), hP0] at hx
    rw [kp_gn k1 (c := 77) (by omega), kp_gn k1 (c := 77) (by omega), kp_gn k1 (c := 77) (by omega), kp_gn k1 (c := 84) (by omega), kp_gn k1 (c := 84) (by omega), gn_of r0' (by omega), gn_of wk2 (by omega), gn_of ni2 (by omega), gn_of hk (by omega), gn_of hmi (by omega)] at hb'
    rw [kp_gn k1 (c := 77) (by omega), kp_gn k1 (c := 84) (by omega), gn_of wk2 (by omega), gn_of hk (by omega)] at hy
    have hb2 := best_congr hmo hwt hb
    obtain rfl := best_uniq hb2 hb'
    have ok := hb.2.1.1
    rw [hx, hy]
    unfold rndA
    rw [tm_congr hmo ok _ (Nat.le_refl _), wo_congr hwt ok _ (Nat.le_refl _)]
  · rw [hx1 z, hy1 z]

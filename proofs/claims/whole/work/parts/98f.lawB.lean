/-! frames of the invariant's pieces -/
theorem fT {μ m : Mem} (h : InvT μ) (e1 : gi m 1 1 = gi μ 1 1) (e3 : gi m 75 3 = gi μ 75 3) (e2 : ∀ k, gi m 2 k = gi μ 2 k) (e6 : ∀ k, gi m 76 k = gi μ 76 k) : InvT m := by
  obtain ⟨t1, t2, t3, t4⟩ := h
  refine ⟨?_, by rw [e3, e1, t2], fun j => by rw [e6, e2]; exact t3 j, fun j => by rw [e2]; exact t4 j⟩
  unfold isN gn at t1 ⊢
  rw [e1]; exact t1
theorem fH {μ m : Mem} {D : Dr} (h : InvH μ D) (hw : gp μ 1 = 3 ∨ gp μ 1 = 10) (hp : gp m 1 = gp μ 1) (e : ∀ c, gp μ 1 ≤ c → c ≤ gp μ 1 + 6 → ∀ k, gi m c k = gi μ c k) (e1 : ∀ k, k < 6 → gi m 77 k = gi μ 77 k ∧ gi m 83 k = gi μ 83 k) (e2 : ∀ k, k < 5 → gi m 79 k = gi μ 79 k ∧ gi m 80 k = gi μ 80 k ∧ gi m 81 k = gi μ 81 k ∧ gi m 82 k = gi μ 82 k) : InvH m D :=
  ⟨h.1, by rw [hp]; exact agC_c h.2.1 e, agS_c h.2.2 h.1 e1 e2⟩
theorem fP {μ m : Mem} {R Q : Nat} (h : InvP μ R Q) (hR : R ≤ 5) (e : ∀ c, 20 ≤ c → c ≤ 51 → ∀ k, gi m c k = gi μ c k) (e1 : gi m 75 21 = gi μ 75 21) (e2 : ∀ k, gi m 87 k = gi μ 87 k) : InvP m R Q := by
  obtain ⟨p1, p2, p3, p4⟩ := h
  have g1 : gn m 20 1 = gn μ 20 1 := by unfold gn; rw [e 20 (by omega) (by omega)]
  have g2 : gn m 20 2 = gn μ 20 2 := by unfold gn; rw [e 20 (by omega) (by omega)]
  refine ⟨by unfold isN; rw [g1, e 20 (by omega) (by omega)]; exact p1, by unfold isN; rw [g2, e 20 (by omega) (by omega)]; exact p2, by rw [e1, e 20 (by omega) (by omega)]; exact p3, ?_⟩
  rw [g1, g2]
  intro i hi
  exact sc_c (p4 i hi) hR (fun k _ => e _ (by omega) (by omega) k) (fun k _ => e _ (by omega) (by omega) k) (fun k _ => e _ (by omega) (by omega) k) (fun k _ => e2 _)
theorem fI {μ m : Mem} {R Q : Nat} (h : InvI μ R Q) (hR : R ≤ 5) (e0 : gi m 0 6 = gi μ 0 6) (e : ∀ c, 53 ≤ c → c ≤ 58 → ∀ k, gi m c k = gi μ c k) (e5 : ∀ k, gi m 85 k = gi μ 85 k) (e6 : ∀ k, gi m 86 k = gi μ 86 k) : InvI m R Q := by
  obtain ⟨i1, i2⟩ := h
  refine ⟨by rw [e0]; exact i1, fun j hj => ?_⟩
  rw [e0, e6]
  exact ⟨(i2 j hj).1, fun z => sc_c ((i2 j hj).2 z) hR (fun k _ => e _ (by omega) (by omega) k) (fun k _ => e _ (by omega) (by omega) k) (fun k _ => e _ (by omega) (by omega) k) (fun k _ => e5 _)⟩
theorem fF {μ m : Mem} {Q : Nat} (h : InvF μ Q) (e : ∀ c, 71 ≤ c → c ≤ 73 → ∀ k, gi m c k = gi μ c k) (e24 : gi m 75 24 = gi μ 75 24) (e8 : ∀ k, gi m 88 k = gi μ 88 k) (e9 : ∀ k, gi m 89 k = gi μ 89 k) : InvF m Q := by
  obtain ⟨f1, f2, f3⟩ := h
  have g : gn m 71 2 = gn μ 71 2 := by unfold gn; rw [e 71 (by omega) (by omega)]
  refine ⟨by unfold isN; rw [g, e 71 (by omega) (by omega)]; exact f1, by rw [e24, e 71 (by omega) (by omega)]; exact f2, ?_⟩
  rw [g]
  intro i hi
  rw [e8, e9, e 72 (by omega) (by omega), e 73 (by omega) (by omega)]
  exact f3 i hi
theorem gp_2 {μ m : Mem} (h : m.2 = μ.2) (k : Nat) : gp m k = gp μ k := by unfold gp; rw [h]
theorem gl_2 {μ m : Mem} (h : m.2 = μ.2) (c k : Nat) : gl m c k = gl μ c k := by unfold gl; rw [h]
/-! type, clear, felt, forget -/
theorem st_type {μ : Mem} (hI : Inv μ) (p1 : Int32) : pre_X8_type p1 μ ∧ ∀ x m, post_X8_type p1 μ x m → pre_X9_type p1 m ∧ ∀ y m', post_X9_type p1 m y m' → x = y ∧ Inv m' := by
  have hI0 := hI
  obtain ⟨hs, ⟨t1, t2, t3, t4⟩, hl, D, hH, hSc, hP, hIm, hF⟩ := hI
  have hR := (ok5 hH.1).1
  have h200 := t1.2
  have hw : gp μ 1 = 3 ∨ gp μ 1 = 10 := by rcases hs with ⟨z, _⟩ | ⟨z, _⟩ <;> omega
  have g : gn μ 75 3 = gn μ 1 1 := by unfold gn; rw [t2]
  refine ⟨t1, fun x m h => ?_⟩
  unfold post_X8_type at h
  by_cases z : p1 < 0 ∨ 255 < p1
  · rw [if_pos z] at h
    obtain ⟨hx, rfl⟩ := h
    refine ⟨by unfold pre_X9_type isN; rw [g, t2]; exact t1, fun y m' h' => ?_⟩
    unfold post_X9_type at h'
    rw [if_pos z] at h'
    obtain ⟨hy, rfl⟩ := h'
    exact ⟨by rw [hx, hy], inv_kp hI0 (kp_0 _)⟩
  rw [if_neg z] at h
  by_cases z2 : gn μ 1 1 = 200
  · rw [if_pos z2] at h
    obtain ⟨hx, rfl⟩ := h
    refine ⟨by unfold pre_X9_type isN; rw [g, t2]; exact t1, fun y m' h' => ?_⟩
    unfold post_X9_type at h'
    rw [if_neg z, g, if_pos z2] at h'
    obtain ⟨hy, rfl⟩ := h'
    exact ⟨by rw [hx, hy], inv_kp hI0 (kp_0 _)⟩
  rw [if_neg z2] at h
  obtain ⟨hx, hm⟩ := h
  have em : ∀ c, 3 ≤ c → ∀ k, gi m c k = gi μ c k := fun c hc k => by rw [hm, gi_ui, if_neg (by omega), gi_ui, if_neg (by omega)]
  have gm : gn m 75 3 = gn μ 1 1 := by rw [← g]; unfold gn; rw [em 75 (by omega)]
  refine ⟨by unfold pre_X9_type isN; rw [gm, em 75 (by omega), t2]; exact t1, fun y m' h' => ?_⟩
  unfold post_X9_type at h'
  rw [if_neg z, gm, if_neg z2, em 75 (by omega), t2] at h'
  obtain ⟨hy, hm'⟩ := h'
  refine ⟨by rw [hx, hy], ?_⟩
  have e : ∀ c, 3 ≤ c → c ≠ 76 → ∀ k, (c = 75 → k ≠ 0 ∧ k ≠ 3) → gi m' c k = gi μ c k := fun c hc h6 k hk => by
    rw [hm', gi_ui, if_neg (by omega), gi_ui, if_neg (by omega), gi_ui, if_neg (by omega), em c hc]
  have e2 : m'.2 = μ.2 := by rw [hm', hm]; rfl
  have e11 : gi m' 1 1 = nI (gn μ 1 1 + 1) := by rw [hm', gi_ui, if_neg (by omega), gi_ui, if_neg (by omega), gi_ui, if_neg (by omega), hm, gi_ui, if_pos ⟨rfl, rfl⟩, t1.1, nI_1]
  have e753 : gi m' 75 3 = nI (gn μ 1 1 + 1) := by rw [hm', gi_ui, if_pos ⟨rfl, rfl⟩, t1.1, nI_1]
  have eL : ∀ k, gi m' 2 k = if k = gn μ 1 1 then p1 else gi μ 2 k := fun k => by
    rw [hm', gi_ui, if_neg (by omega), gi_ui, if_neg (by omega), gi_ui, if_neg (by omega), hm, gi_ui, if_neg (by omega), gi_ui]
    by_cases q : k = gn μ 1 1
    · rw [if_pos ⟨rfl, q⟩, if_pos q]
    · rw [if_neg (fun y => q y.2), if_neg q]
  have eM : ∀ k, gi m' 76 k = if k = gn μ 1 1 then p1 else gi μ 2 k := fun k => by
    rw [hm', gi_ui, if_neg (by omega), gi_ui]
    by_cases q : k = gn μ 1 1
    · rw [if_pos ⟨rfl, q⟩, if_pos q]
    · rw [if_neg (fun y => q y.2), if_neg q, gi_ui, if_neg (by omega), em 76 (by omega), t3]
  refine ⟨by unfold hsP; rw [gp_2 e2, gp_2 e2]; exact hs, ⟨isN_of e11 (by omega) (by omega), by rw [e753, e11], fun j => by rw [eL, eM], fun j => ?_⟩, by rw [gl_2 e2, gl_2 e2]; exact hl, D, fH hH hw (gp_2 e2 1) (fun c h1 h2 k => e c (by omega) (by omega) k (by omega)) (fun k _ => ⟨e 77 (by omega) (by omega) k (by omega), e 83 (by omega) (by omega) k (by omega)⟩) (fun k _ => ⟨e 79 (by omega) (by omega) k (by omega), e 80 (by omega) (by omega) k (by omega), e 81 (by omega) (by omega) k (by omega), e 82 (by omega) (by omega) k (by omega)⟩), sc_c hSc hR (fun k _ => e 17 (by omega) (by omega) k (by omega)) (fun k _ => e 18 (by omega) (by omega) k (by omega)) (fun k _ => e 19 (by omega) (by omega) k (by omega)) (fun k _ => e 84 (by omega) (by omega) k (by omega)), fP hP hR (fun c h1 h2 k => e c (by omega) (by omega) k (by omega)) (e 75 (by omega) (by omega) 21 (by omega)) (fun k => e 87 (by omega) (by omega) k (by omega)), fI hIm hR ?_ (fun c h1 h2 k => e c (by omega) (by omega) k (by omega)) (fun k => e 85 (by omega) (by omega) k (by omega)) (fun k => e 86 (by omega) (by omega) k (by omega)), fF hF (fun c h1 h2 k => e c (by omega) (by omega) k (by omega)) (e 75 (by omega) (by omega) 24 (by omega)) (fun k => e 88 (by omega) (by omega) k (by omega)) (fun k => e 89 (by omega) (by omega) k (by omega))⟩
  · rw [eL]
    by_cases q : j = gn μ 1 1
    · rw [if_pos q]
      have : ¬ p1 < 0 := fun y => z (Or.inl y)
      simpa using this
    · rw [if_neg q]; exact t4 j
  · rw [hm', gi_ui, if_neg (by omega), gi_ui, if_neg (by omega), gi_ui, if_neg (by omega), hm, gi_ui, if_neg (by omega), gi_ui, if_neg (by omega)]
theorem st_clear {μ : Mem} (hI : Inv μ) : pre_X8_clear μ ∧ ∀ x m, post_X8_clear μ x m → pre_X9_clear m ∧ ∀ y m', post_X9_clear m y m' → x = y ∧ Inv m' := by
  obtain ⟨hs, ⟨t1, t2, t3, t4⟩, hl, D, hH, hSc, hP, hIm, hF⟩ := hI
  have hR := (ok5 hH.1).1
  have hw : gp μ 1 = 3 ∨ gp μ 1 = 10 := by rcases hs with ⟨z, _⟩ | ⟨z, _⟩ <;> omega
  refine ⟨trivial, ?_⟩
  rintro x m ⟨hx, hm⟩
  refine ⟨trivial, ?_⟩
  rintro y m' ⟨hy, hm'⟩
  have e : ∀ c k, (c = 1 → k ≠ 1) → (c = 75 → k ≠ 0 ∧ k ≠ 3) → gi m' c k = gi μ c k := fun c k h1 h2 => by
    rw [hm', gi_ui, if_neg (by omega), gi_ui, if_neg (by omega), hm, gi_ui, if_neg (by omega)]
  have e2 : m'.2 = μ.2 := by rw [hm', hm]; rfl
  have e11 : gi m' 1 1 = nI 0 := by rw [hm', gi_ui, if_neg (by omega), gi_ui, if_neg (by omega), hm, gi_ui, if_pos ⟨rfl, rfl⟩]; rfl
  have e753 : gi m' 75 3 = nI 0 := by rw [hm', gi_ui, if_pos ⟨rfl, rfl⟩]; rfl
  refine ⟨by rw [hx, hy, hm, gi_ui, if_neg (by omega), t2], ?_⟩
  exact ⟨by unfold hsP; rw [gp_2 e2, gp_2 e2]; exact hs, ⟨isN_of e11 (by omega) (by omega), by rw [e753, e11], fun j => by rw [e _ _ (by omega) (by omega), e _ _ (by omega) (by omega)]; exact t3 j, fun j => by rw [e _ _ (by omega) (by omega)]; exact t4 j⟩, by rw [gl_2 e2, gl_2 e2]; exact hl, D, fH hH hw (gp_2 e2 1) (fun c h1 h2 k => e c k (by omega) (by omega)) (fun k _ => ⟨e 77 k (by omega) (by omega), e 83 k (by omega) (by omega)⟩) (fun k _ => ⟨e 79 k (by omega) (by omega), e 80 k (by omega) (by omega), e 81 k (by omega) (by omega), e 82 k (by omega) (by omega)⟩), sc_c hSc hR (fun k _ => e 17 k (by omega) (by omega)) (fun k _ => e 18 k (by omega) (by omega)) (fun k _ => e 19 k (by omega) (by omega)) (fun k _ => e 84 k (by omega) (by omega)), fP hP hR (fun c h1 h2 k => e c k (by omega) (by omega)) (e 75 21 (by omega) (by omega)) (fun k => e 87 k (by omega) (by omega)), fI hIm hR (e 0 6 (by omega) (by omega)) (fun c h1 h2 k => e c k (by omega) (by omega)) (fun k => e 85 k (by omega) (by omega)) (fun k => e 86 k (by omega) (by omega)), fF hF (fun c h1 h2 k => e c k (by omega) (by omega)) (e 75 24 (by omega) (by omega)) (fun k => e 88 k (by omega) (by omega)) (fun k => e 89 k (by omega) (by omega))⟩
theorem st_forget {μ : Mem} (hI : Inv μ) : pre_X8_forget μ ∧ ∀ x m, post_X8_forget μ x m → pre_X9_forget m ∧ ∀ y m', post_X9_forget m y m' → x = y ∧ Inv m' := by
  obtain ⟨hs, hT, hl, D, hH, hSc, hP, hIm, f1, f2, f3⟩ := hI
  have hR := (ok5 hH.1).1
  have hw : gp μ 1 = 3 ∨ gp μ 1 = 10 := by rcases hs with ⟨z, _⟩ | ⟨z, _⟩ <;> omega
  refine ⟨trivial, ?_⟩
  rintro x m ⟨hx, hm⟩
  refine ⟨trivial, ?_⟩
  rintro y m' ⟨hy, hm'⟩
  have e : ∀ c k, (c = 71 → k ≠ 2) → (c = 75 → k ≠ 0 ∧ k ≠ 24) → gi m' c k = gi μ c k := fun c k h1 h2 => by
    rw [hm', gi_ui, if_neg (by omega), gi_ui, if_neg (by omega), hm, gi_ui, if_neg (by omega)]
  have e2 : m'.2 = μ.2 := by rw [hm', hm]; rfl
  have e71 : gi m' 71 2 = nI 0 := by rw [hm', gi_ui, if_neg (by omega), gi_ui, if_neg (by omega), hm, gi_ui, if_pos ⟨rfl, rfl⟩]; rfl
  have e75 : gi m' 75 24 = nI 0 := by rw [hm', gi_ui, if_pos ⟨rfl, rfl⟩]; rfl
  refine ⟨by rw [hx, hy, hm, gi_ui, if_neg (by omega), f2], ?_⟩
  refine ⟨by unfold hsP; rw [gp_2 e2, gp_2 e2]; exact hs, fT hT (e 1 1 (by omega) (by omega)) (e 75 3 (by omega) (by omega)) (fun k => e 2 k (by omega) (by omega)) (fun k => e 76 k (by omega) (by omega)), by rw [gl_2 e2, gl_2 e2]; exact hl, D, fH hH hw (gp_2 e2 1) (fun c h1 h2 k => e c k (by omega) (by omega)) (fun k _ => ⟨e 77 k (by omega) (by omega), e 83 k (by omega) (by omega)⟩) (fun k _ => ⟨e 79 k (by omega) (by omega), e 80 k (by omega) (by omega), e 81 k (by omega) (by omega), e 82 k (by omega) (by omega)⟩), sc_c hSc hR (fun k _ => e 17 k (by omega) (by omega)) (fun k _ => e 18 k (by omega) (by omega)) (fun k _ => e 19 k (by omega) (by omega)) (fun k _ => e 84 k (by omega) (by omega)), fP hP hR (fun c h1 h2 k => e c k (by omega) (by omega)) (e 75 21 (by omega) (by omega)) (fun k => e 87 k (by omega) (by omega)), fI hIm hR (e 0 6 (by omega) (by omega)) (fun c h1 h2 k => e c k (by omega) (by omega)) (fun k => e 85 k (by omega) (by omega)) (fun k => e 86 k (by omega) (by omega)), isN_of e71 (by omega) (by omega), by rw [e71, e75], ?_⟩
  rw [gn_of e71 (by omega)]
  intro i hi
  omega
theorem st_felt {μ : Mem} (hI : Inv μ) (p1 p2 : Int32) : pre_X8_felt p1 p2 μ ∧ ∀ x m, post_X8_felt p1 p2 μ x m → pre_X9_felt p1 p2 m ∧ ∀ y m', post_X9_felt p1 p2 m y m' → x = y ∧ Inv m' := by
  have hI0 := hI
  obtain ⟨hs, hT, hl, D, hH, hSc, hP, hIm, f1, f2, f3⟩ := hI
  obtain ⟨hw, h5, h5', h6, r0, r0', q0, q0', s0, s0', hc, hk, hn, hR, hQ, hS⟩ := inv_HF hs hH
  have g : gn μ 75 24 = gn μ 71 2 := by unfold gn; rw [f2]
  have hb := f1.2
  refine ⟨⟨hw, f1⟩, fun x m h => ?_⟩
  unfold post_X8_felt at h
  rw [q0] at h
  by_cases z : p1 < 0 ∨ nI (dn D 1) ≤ p1 ∨ p2 < 0 ∨ 30 < p2
  · rw [if_pos z] at h
    obtain ⟨hx, rfl⟩ := h
    refine ⟨⟨isN_of q0' h5' (by omega), by unfold isN; rw [g, f2]; exact f1⟩, fun y m' h' => ?_⟩
    unfold post_X9_felt at h'
    rw [q0', if_pos z] at h'
    obtain ⟨hy, rfl⟩ := h'
    exact ⟨by rw [hx, hy], inv_kp hI0 (kp_0 _)⟩
  rw [if_neg z] at h
  by_cases z2 : gn μ 71 2 = 5
  · rw [if_pos z2] at h
    obtain ⟨hx, rfl⟩ := h
    refine ⟨⟨isN_of q0' h5' (by omega), by unfold isN; rw [g, f2]; exact f1⟩, fun y m' h' => ?_⟩
    unfold post_X9_felt at h'
    rw [q0', if_neg z, g, if_pos z2] at h'
    obtain ⟨hy, rfl⟩ := h'
    exact ⟨by rw [hx, hy], inv_kp hI0 (kp_0 _)⟩
  rw [if_neg z2] at h
  obtain ⟨hx, hm⟩ := h
  have em : ∀ c k, c ≠ 72 → c ≠ 73 → (c = 71 → k ≠ 2) → gi m c k = gi μ c k := fun c k h1 h2 h3 => by rw [hm, gi_ui, if_neg (by omega), gi_ui, if_neg (by omega), gi_ui, if_neg (by omega)]
  have gm : gn m 75 24 = gn μ 71 2 := by rw [← g]; unfold gn; rw [em 75 24 (by omega) (by omega) (by omega)]
  refine ⟨⟨isN_of (by rw [em 77 1 (by omega) (by omega) (by omega)]; exact q0') h5' (by omega), by unfold isN; rw [gm, em 75 24 (by omega) (by omega) (by omega), f2]; exact f1⟩, fun y m' h' => ?_⟩
  unfold post_X9_felt at h'
  rw [em 77 1 (by omega) (by omega) (by omega), q0', if_neg z, gm, if_neg z2, em 75 24 (by omega) (by omega) (by omega), f2] at h'
  obtain ⟨hy, hm'⟩ := h'
  refine ⟨by rw [hx, hy], ?_⟩
  obtain ⟨p1e, p1l⟩ := out_R (n := dn D 1) (by omega) (fun q => z (by rcases q with q | q; exact Or.inl q; exact Or.inr (Or.inl q)))
  have e' : ∀ c k, c ≠ 88 → c ≠ 89 → (c = 75 → k ≠ 0 ∧ k ≠ 24) → gi m' c k = gi m c k := fun c k h1 h2 h3 => by
    rw [hm', gi_ui, if_neg (by omega), gi_ui, if_neg (by omega), gi_ui, if_neg (by omega), gi_ui, if_neg (by omega)]
  have e : ∀ c k, c ≠ 72 → c ≠ 73 → c ≠ 88 → c ≠ 89 → c ≠ 71 → (c = 75 → k ≠ 0 ∧ k ≠ 24) → gi m' c k = gi μ c k := fun c k h1 h2 h3 h4 h5 h6 => by
    rw [e' c k h3 h4 h6, em c k h1 h2 (fun q => absurd q h5)]
  have e2 : m'.2 = μ.2 := by rw [hm', hm]; rfl
  have e71 : gi m' 71 2 = nI (gn μ 71 2 + 1) := by rw [e' 71 2 (by omega) (by omega) (by omega), hm, gi_ui, if_pos ⟨rfl, rfl⟩, f1.1, nI_1]
  have e75 : gi m' 75 24 = nI (gn μ 71 2 + 1) := by rw [hm', gi_ui, if_pos ⟨rfl, rfl⟩, f1.1, nI_1]
  have c72 : ∀ k, gi m' 72 k = if k = gn μ 71 2 then p1 else gi μ 72 k := fun k => by
    rw [e' 72 k (by omega) (by omega) (by omega), hm, gi_ui, if_neg (by omega), gi_ui, if_neg (by omega), gi_ui]
    by_cases q : k = gn μ 71 2
    · rw [if_pos ⟨rfl, q⟩, if_pos q]
    · rw [if_neg (fun y => q y.2), if_neg q]
  have c73 : ∀ k, gi m' 73 k = if k = gn μ 71 2 then p2 else gi μ 73 k := fun k => by
    rw [e' 73 k (by omega) (by omega) (by omega), hm, gi_ui, if_neg (by omega), gi_ui]
    by_cases q : k = gn μ 71 2
    · rw [if_pos ⟨rfl, q⟩, if_pos q]
    · rw [if_neg (fun y => q y.2), if_neg q, gi_ui, if_neg (by omega)]
  have c88 : ∀ k, gi m' 88 k = if k = gn μ 71 2 then p1 else gi μ 88 k := fun k => by
    rw [hm', gi_ui, if_neg (by omega), gi_ui, if_neg (by omega), gi_ui]
    by_cases q : k = gn μ 71 2
    · rw [if_pos ⟨rfl, q⟩, if_pos q]
    · rw [if_neg (fun y => q y.2), if_neg q, gi_ui, if_neg (by omega), em 88 k (by omega) (by omega) (by omega)]
  have c89 : ∀ k, gi m' 89 k = if k = gn μ 71 2 then p2 else gi μ 89 k := fun k => by
    rw [hm', gi_ui, if_neg (by omega), gi_ui]
    by_cases q : k = gn μ 71 2
    · rw [if_pos ⟨rfl, q⟩, if_pos q]
    · rw [if_neg (fun y => q y.2), if_neg q, gi_ui, if_neg (by omega), gi_ui, if_neg (by omega), em 89 k (by omega) (by omega) (by omega)]
  have eo : ∀ c k, c < 59 ∨ (76 ≤ c ∧ c ≤ 87) → gi m' c k = gi μ c k := fun c k h => e c k (by omega) (by omega) (by omega) (by omega) (by omega) (by omega)
  refine ⟨by unfold hsP; rw [gp_2 e2, gp_2 e2]; exact hs, fT hT (eo 1 1 (by omega)) (e 75 3 (by omega) (by omega) (by omega) (by omega) (by omega) (by omega)) (fun k => eo 2 k (by omega)) (fun k => eo 76 k (by omega)), by rw [gl_2 e2, gl_2 e2]; exact hl, D, fH hH hw (gp_2 e2 1) (fun c h1 h2 k => eo c k (by omega)) (fun k _ => ⟨eo 77 k (by omega), eo 83 k (by omega)⟩) (fun k _ => ⟨eo 79 k (by omega), eo 80 k (by omega), eo 81 k (by omega), eo 82 k (by omega)⟩), sc_c hSc h5 (fun k _ => eo 17 k (by omega)) (fun k _ => eo 18 k (by omega)) (fun k _ => eo 19 k (by omega)) (fun k _ => eo 84 k (by omega)), fP hP h5 (fun c h1 h2 k => eo c k (by omega)) (e 75 21 (by omega) (by omega) (by omega) (by omega) (by omega) (by omega)) (fun k => eo 87 k (by omega)), fI hIm h5 (eo 0 6 (by omega)) (fun c h1 h2 k => eo c k (by omega)) (fun k => eo 85 k (by omega)) (fun k => eo 86 k (by omega)), isN_of e71 (by omega) (by omega), by rw [e71, e75], ?_⟩
  rw [gn_of e71 (by omega)]
  intro i hi
  rw [c72, c73, c88, c89]
  by_cases q : i = gn μ 71 2
  · rw [if_pos q, if_pos q, if_pos q, if_pos q]
    exact ⟨rfl, rfl, _, p1l, p1e⟩
  · rw [if_neg q, if_neg q, if_neg q, if_neg q]
    exact f3 i (by omega)

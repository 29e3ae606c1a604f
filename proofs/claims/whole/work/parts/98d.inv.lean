/-! what ties the class's cells to the reference's -/
def scOK (R Q : Nat) (f : Nat → Int32) : Prop := isB (f 0) R ∧ isB (f 1) R ∧ isB (f 2) 9999 ∧ isB (f 3) 31 ∧ isB (f 4) 31 ∧ (∀ r, r < R → ¬ slvI (f 3) (nI r) = 1 → isB (f (5 + r)) 30) ∧ (∀ r, r < R → isB (f (10 + r)) Q) ∧ ∀ r, r < R → f 0 = nI (r + 1) → ¬ slvI (f 3) (nI r) = 1
def scEq (R : Nat) (c0 c1 c2 f : Nat → Int32) : Prop := c0 0 = decI (f 0) ∧ c0 1 = decI (f 1) ∧ c0 2 = f 2 ∧ c0 3 = f 3 ∧ c0 4 = f 4 ∧ (∀ r, r < R → c1 r = f (5 + r)) ∧ ∀ r, r < R → c2 r = decI (f (10 + r))
def Sc (R Q : Nat) (μ : Mem) (a : Nat) (f : Nat → Int32) : Prop := scOK R Q f ∧ scEq R (gi μ a) (gi μ (a + 1)) (gi μ (a + 2)) f
def hsP (μ : Mem) : Prop := (gp μ 1 = 3 ∧ gp μ 2 = 10) ∨ (gp μ 1 = 10 ∧ gp μ 2 = 3)
def InvT (μ : Mem) : Prop := isN μ 1 1 200 ∧ gi μ 75 3 = gi μ 1 1 ∧ (∀ j, gi μ 76 j = gi μ 2 j) ∧ ∀ j, 0 ≤ gi μ 2 j
def InvH (μ : Mem) (D : Dr) : Prop := okD D ∧ agC (gp μ 1) μ D ∧ agS μ D
def InvP (μ : Mem) (R Q : Nat) : Prop := isN μ 20 1 9 ∧ isN μ 20 2 10 ∧ gi μ 75 21 = gi μ 20 2 ∧ ∀ i, i < gn μ 20 2 → Sc R Q μ (22 + 3 * ((gn μ 20 1 + 10 - gn μ 20 2 + i) % 10)) (fun k => gi μ 87 (15 * i + k))
def InvI (μ : Mem) (R Q : Nat) : Prop := isB (gi μ 0 6) 3 ∧ ∀ j, j < 2 → gi μ 86 j = slvI (gi μ 0 6) (nI j) ∧ (slvI (gi μ 0 6) (nI j) = 1 → Sc R Q μ (53 + 3 * j) (fun k => gi μ 85 (15 * j + k)))
def InvF (μ : Mem) (Q : Nat) : Prop := isN μ 71 2 5 ∧ gi μ 75 24 = gi μ 71 2 ∧ ∀ i, i < gn μ 71 2 → gi μ 88 i = gi μ 72 i ∧ gi μ 89 i = gi μ 73 i ∧ ∃ d, d < Q ∧ gi μ 72 i = nI d
def Inv (μ : Mem) : Prop := hsP μ ∧ InvT μ ∧ gl μ 75 1 = gl μ 0 12 ∧ ∃ D, InvH μ D ∧ Sc (dn D 0) (dn D 1) μ 17 (gi μ 84) ∧ InvP μ (dn D 0) (dn D 1) ∧ InvI μ (dn D 0) (dn D 1) ∧ InvF μ (dn D 1)
theorem scok_c {R Q : Nat} {f g : Nat → Int32} (h : scOK R Q f) (hR : R ≤ 5) (e : ∀ k, k < 15 → g k = f k) : scOK R Q g := by
  obtain ⟨h0, h1, h2, h3, h4, h5, h6, h7⟩ := h
  unfold scOK
  rw [e 0 (by omega), e 1 (by omega), e 2 (by omega), e 3 (by omega), e 4 (by omega)]
  refine ⟨h0, h1, h2, h3, h4, fun r hr z => ?_, fun r hr => ?_, h7⟩
  · rw [e _ (by omega)]; exact h5 r hr z
  · rw [e _ (by omega)]; exact h6 r hr
theorem sc_c {R Q : Nat} {μ m : Mem} {a b : Nat} {f g : Nat → Int32} (h : Sc R Q μ a f) (hR : R ≤ 5) (e0 : ∀ k, k < 5 → gi m b k = gi μ a k) (e1 : ∀ k, k < 5 → gi m (b + 1) k = gi μ (a + 1) k) (e2 : ∀ k, k < 5 → gi m (b + 2) k = gi μ (a + 2) k) (e : ∀ k, k < 15 → g k = f k) : Sc R Q m b g := by
  obtain ⟨h, k0, k1, k2, k3, k4, k5, k6⟩ := h
  refine ⟨scok_c h hR e, ?_⟩
  unfold scEq
  rw [e 0 (by omega), e 1 (by omega), e 2 (by omega), e 3 (by omega), e 4 (by omega), e0 0 (by omega), e0 1 (by omega), e0 2 (by omega), e0 3 (by omega), e0 4 (by omega)]
  refine ⟨k0, k1, k2, k3, k4, fun r hr => ?_, fun r hr => ?_⟩
  · rw [e _ (by omega), e1 _ (by omega)]; exact k5 r hr
  · rw [e _ (by omega), e2 _ (by omega)]; exact k6 r hr
/-- m keeps what μ has, but for the cells that are used anew at each call -/
def kp (μ m : Mem) : Prop := (∀ c, (c < 59 ∨ (71 ≤ c ∧ c ≤ 73) ∨ (76 ≤ c ∧ c ≤ 89)) → ∀ k, gi m c k = gi μ c k) ∧ (∀ k, k ≠ 0 → gi m 75 k = gi μ 75 k) ∧ m.2 = μ.2
theorem kp_refl (μ : Mem) : kp μ μ := ⟨fun _ _ _ => rfl, fun _ _ => rfl, rfl⟩
theorem kp_trans {a b c : Mem} (h1 : kp a b) (h2 : kp b c) : kp a c := ⟨fun q hq k => (h2.1 q hq k).trans (h1.1 q hq k), fun k hk => (h2.2.1 k hk).trans (h1.2.1 k hk), h2.2.2.trans h1.2.2⟩
theorem kp_0 (μ : Mem) : kp μ (ui μ 75 0 0) := ⟨fun c hc k => by rw [gi_ui, if_neg (by omega)], fun k hk => by rw [gi_ui, if_neg (fun y => hk y.2)], rfl⟩
theorem kp_fr {cs : List Nat} {μ m : Mem} (h : fr cs μ m) (hc : ∀ c ∈ cs, ¬ (c < 59 ∨ (71 ≤ c ∧ c ≤ 73) ∨ (76 ≤ c ∧ c ≤ 89)) ∧ c ≠ 75) : kp μ m := ⟨fun c z k => h.1 c (fun y => (hc c y).1 z) k, fun k _ => h.1 75 (fun y => (hc 75 y).2 rfl) k, h.2⟩
theorem kp_f75 {cs : List Nat} {μ m : Mem} (h : fr cs μ m) (hc : ∀ c ∈ cs, ¬ (c < 59 ∨ (71 ≤ c ∧ c ≤ 73) ∨ (76 ≤ c ∧ c ≤ 89))) (h75 : f75 μ m) : kp μ m := ⟨fun c z k => h.1 c (fun y => hc c y z) k, fun k hk => h75 k hk, h.2⟩
theorem kp_gn {μ m : Mem} (h : kp μ m) {c k : Nat} (hc : (c < 59 ∨ (71 ≤ c ∧ c ≤ 73) ∨ (76 ≤ c ∧ c ≤ 89)) ∨ (c = 75 ∧ k ≠ 0)) : gn m c k = gn μ c k := by
  unfold gn
  rcases hc with hc | ⟨rfl, hk⟩
  · rw [h.1 c hc]
  · rw [h.2.1 k hk]
theorem ok5 {D : Dr} (h : okD D) : dn D 0 ≤ 5 ∧ dn D 1 ≤ 5 ∧ dn D 2 ≤ 6 := ⟨(isB_clamp h.1 (by omega)).2, (isB_clamp h.2.1 (by omega)).2, (isB_clamp h.2.2.1 (by omega)).2⟩
theorem agC_c {w : Nat} {μ m : Mem} {D : Dr} (h : agC w μ D) (e : ∀ c, w ≤ c → c ≤ w + 6 → ∀ k, gi m c k = gi μ c k) : agC w m D := by
  obtain ⟨a0, a1, a2, a3, a4, a5, aR, aD, aS⟩ := h
  unfold agC
  rw [e w (by omega) (by omega), e w (by omega) (by omega), e w (by omega) (by omega), e w (by omega) (by omega), e w (by omega) (by omega), e w (by omega) (by omega)]
  refine ⟨a0, a1, a2, a3, a4, a5, fun i hi => ?_, fun i hi => ?_, fun i hi => ?_⟩
  · rw [e _ (by omega) (by omega), e _ (by omega) (by omega), e _ (by omega) (by omega)]; exact aR i hi
  · rw [e _ (by omega) (by omega), e _ (by omega) (by omega)]; exact aD i hi
  · rw [e _ (by omega) (by omega)]; exact aS i hi
theorem agS_c {μ m : Mem} {D : Dr} (h : agS μ D) (hD : okD D) (e : ∀ k, k < 6 → gi m 77 k = gi μ 77 k ∧ gi m 83 k = gi μ 83 k) (e2 : ∀ k, k < 5 → gi m 79 k = gi μ 79 k ∧ gi m 80 k = gi μ 80 k ∧ gi m 81 k = gi μ 81 k ∧ gi m 82 k = gi μ 82 k) : agS m D := by
  obtain ⟨a0, aR, aD, aS⟩ := h
  obtain ⟨h5, h5', h6⟩ := ok5 hD
  refine ⟨fun k hk => ?_, fun i hi => ?_, fun i hi => ?_, fun i hi => ?_⟩
  · rw [(e k hk).1]; exact a0 k hk
  · rw [(e2 i (by omega)).1, (e2 i (by omega)).2.1]; exact aR i hi
  · rw [(e2 i (by omega)).2.2.1, (e2 i (by omega)).2.2.2]; exact aD i hi
  · rw [(e i (by omega)).2]; exact aS i hi
theorem inv_kp {μ m : Mem} (h : Inv μ) (hk : kp μ m) : Inv m := by
  obtain ⟨h1, ⟨t1, t2, t3, t4⟩, h3, D, ⟨hD, hA, hS⟩, hsc, ⟨p1, p2, p3, p4⟩, ⟨i1, i2⟩, f1, f2, f3⟩ := h
  have e := hk.1
  have e75 := hk.2.1
  have g := hk.2.2
  have hp : gp m 1 = gp μ 1 := by unfold gp; rw [g]
  have hp2 : gp m 2 = gp μ 2 := by unfold gp; rw [g]
  obtain ⟨h5, h5', h6⟩ := ok5 hD
  have hw : gp μ 1 = 3 ∨ gp μ 1 = 10 := by rcases h1 with ⟨z, _⟩ | ⟨z, _⟩ <;> omega
  refine ⟨by unfold hsP; rw [hp, hp2]; exact h1, ⟨?_, ?_, fun j => ?_, fun j => ?_⟩, ?_, D, ⟨hD, ?_, ?_⟩, ?_, ⟨?_, ?_, ?_, ?_⟩, ⟨?_, fun j hj => ?_⟩, ?_, ?_, ?_⟩
  · unfold isN; rw [kp_gn hk (by omega), e 1 (by omega)]; exact t1
  · rw [e75 3 (by omega), e 1 (by omega)]; exact t2
  · rw [e 76 (by omega), e 2 (by omega)]; exact t3 j
  · rw [e 2 (by omega)]; exact t4 j
  · unfold gl; rw [g]; exact h3
  · rw [hp]; exact agC_c hA (fun c hc1 hc2 k => e c (by omega) k)
  · exact agS_c hS hD (fun k hk => ⟨e 77 (by omega) k, e 83 (by omega) k⟩) (fun k hk => ⟨e 79 (by omega) k, e 80 (by omega) k, e 81 (by omega) k, e 82 (by omega) k⟩)
  · exact sc_c hsc h5 (fun k _ => e 17 (by omega) k) (fun k _ => e 18 (by omega) k) (fun k _ => e 19 (by omega) k) (fun k _ => e 84 (by omega) k)
  · unfold isN; rw [kp_gn hk (by omega), e 20 (by omega)]; exact p1
  · unfold isN; rw [kp_gn hk (by omega), e 20 (by omega)]; exact p2
  · rw [e75 21 (by omega), e 20 (by omega)]; exact p3
  · rw [kp_gn hk (by omega), kp_gn hk (by omega)]
    intro i hi
    exact sc_c (p4 i hi) h5 (fun k _ => e _ (by omega) k) (fun k _ => e _ (by omega) k) (fun k _ => e _ (by omega) k) (fun k _ => e 87 (by omega) _)
  · rw [e 0 (by omega)]; exact i1
  · rw [e 0 (by omega), e 86 (by omega)]
    refine ⟨(i2 j hj).1, fun z => ?_⟩
    exact sc_c ((i2 j hj).2 z) h5 (fun k _ => e _ (by omega) k) (fun k _ => e _ (by omega) k) (fun k _ => e _ (by omega) k) (fun k _ => e 85 (by omega) _)
  · unfold isN; rw [kp_gn hk (by omega), e 71 (by omega)]; exact f1
  · rw [e75 24 (by omega), e 71 (by omega)]; exact f2
  · rw [kp_gn hk (by omega)]
    intro i hi
    rw [e 88 (by omega), e 89 (by omega), e 72 (by omega), e 73 (by omega)]; exact f3 i hi

/-! the memory of the whole system as one function: cell number, place -> int; longs; the two moving references -/
abbrev Mem : Type := (Nat → Nat → Int32) × (Nat → Nat → Int64) × (Nat → Nat)
def gi (μ : Mem) (c k : Nat) : Int32 := μ.1 c k
def gl (μ : Mem) (c k : Nat) : Int64 := μ.2.1 c k
def gp (μ : Mem) (k : Nat) : Nat := μ.2.2 k
def ui (μ : Mem) (c k : Nat) (v : Int32) : Mem := (fun a b => if a = c ∧ b = k then v else μ.1 a b, μ.2)
def ul (μ : Mem) (c k : Nat) (v : Int64) : Mem := (μ.1, fun a b => if a = c ∧ b = k then v else μ.2.1 a b, μ.2.2)
def up (μ : Mem) (k v : Nat) : Mem := (μ.1, μ.2.1, fun b => if b = k then v else μ.2.2 b)
def ua (μ : Mem) (c : Nat) (f : Nat → Int32) : Mem := (fun a b => if a = c then f b else μ.1 a b, μ.2)
def m0 : Mem := (fun _ _ => 0, fun _ _ => 0, fun _ => 0)
/-- the cells' shapes: 0 int row, 1 boolean row, 2 Scene row, 3 + class: an object; how many places -/
def shT : List (Nat × Nat) := [(11, 13), (9, 7), (0, 200), (5, 12), (0, 5), (0, 5), (0, 5), (0, 5), (0, 5), (0, 6), (5, 12), (0, 5), (0, 5), (0, 5), (0, 5), (0, 5), (0, 6), (10, 7), (0, 5), (0, 5), (8, 3), (2, 10),
  (10, 7), (0, 5), (0, 5), (10, 7), (0, 5), (0, 5), (10, 7), (0, 5), (0, 5), (10, 7), (0, 5), (0, 5), (10, 7), (0, 5), (0, 5), (10, 7), (0, 5), (0, 5), (10, 7), (0, 5), (0, 5), (10, 7), (0, 5), (0, 5), (10, 7), (0, 5), (0, 5), (10, 7), (0, 5), (0, 5),
  (2, 2), (10, 7), (0, 5), (0, 5), (10, 7), (0, 5), (0, 5), (4, 7), (0, 186), (0, 5), (0, 5), (0, 5), (3, 7), (0, 5), (0, 5), (0, 5), (6, 2), (0, 64), (0, 5), (7, 3), (0, 5), (0, 5), (0, 7),
  (12, 30), (0, 200), (0, 12), (0, 5), (0, 10), (0, 10), (0, 10), (0, 10), (0, 12), (0, 15), (0, 30), (1, 2), (0, 150), (0, 5), (0, 5), (0, 186), (0, 5), (0, 5), (0, 5), (0, 64)]
def NC : Nat := 95
def shp (c : Nat) : Nat × Nat := shT.getD c (13, 0)
/-- a field's kind: 0 int, 1 long, 2 a fixed reference, 3 a moving one, 4 boolean -/
def kndT : List (List Nat) := [[2, 0, 0, 0, 2, 2, 0], [2, 2, 0, 2, 2, 0, 0], [0, 2, 2, 2, 0, 2, 2, 0, 2, 0, 0, 0], [2, 2], [2, 2, 0], [2, 0, 0], [2, 0, 0, 0, 4, 4, 4], [0, 0, 0, 0, 0, 2, 2], [2, 3, 3, 2, 2, 2, 0, 2, 2, 2, 2, 2, 1],
  [0, 1, 2, 0, 0, 0, 0, 0, 0, 2, 0, 2, 2, 2, 2, 2, 2, 2, 2, 2, 2, 0, 2, 2, 0, 2, 2, 2, 2, 2]]
def knd (ci k : Nat) : Nat := (kndT.getD ci []).getD k 0
/-- where a fixed reference leads, from the object's number on -/
def offT : List (List Nat) := [[1, 0, 0, 0, 2, 3, 0], [1, 2, 0, 3, 4, 0, 0], [0, 1, 2, 3, 0, 4, 5, 0, 6, 0, 0, 0], [1, 2], [1, 2, 0], [1, 0, 0], [1, 0, 0, 0, 0, 0, 0], [0, 0, 0, 0, 0, 1, 2], [1, 0, 0, 17, 20, 52, 0, 59, 64, 68, 71, 74, 0],
  [0, 0, 1, 0, 0, 0, 0, 0, 0, 2, 0, 3, 4, 5, 6, 7, 8, 9, 10, 11, 12, 0, 13, 14, 0, 15, 16, 17, 18, 19]]
def off (ci k : Nat) : Nat := (offT.getD ci []).getD k 0
def tr (ad : Nat → Nat) (v : Value) : Value := match v with
  | .ref c => .ref (ad c)
  | w => w
def fldA (μ : Mem) (ci c k : Nat) : Value := match knd ci k with
  | 0 => .int (gi μ c k)
  | 1 => .long (gl μ c k)
  | 2 => .ref (c + off ci k)
  | 3 => .ref (gp μ k)
  | _ => .int (gi μ c k)
abbrev K3 : Type := ClassId × ClassId × ClassId
def cellE (ad : Nat → Nat) (K : K3) (μ : Mem) (c : Nat) : va_E := match shp c with
  | (0, n) => .inl (K.1, n, .inl (gi μ c))
  | (1, n) => .inl (K.2.1, n, .inl (gi μ c))
  | (2, n) => .inl (K.2.2, n, .inr (.inr (.inr (.inr (fun j => some (ad (c + 1 + 3 * j)))))))
  | (ci + 3, n) => .inr (ci, (List.range n).map (fun k => tr ad (fldA μ ci c k)))
def wd (ad : Nat → Nat) (K : K3) (μ : Mem) : va_W := (List.range NC).map (fun c => (ad c, cellE ad K μ c))
def tysK (K : K3) : List (ClassId × FieldType) := [(K.1, .int), (K.2.1, .boolean), (K.2.2, .object "DoorCases$Scene")]
def inW (ad : Nat → Nat) : Nat → Prop := fun q => ∃ c, c < NC ∧ q = ad c
theorem wd_at {ad : Nat → Nat} {K : K3} {μ : Mem} {c : Nat} (h : c < NC) : (wd ad K μ)[c]? = some (ad c, cellE ad K μ c) := by
  simp [wd, h]
theorem wd_len {ad : Nat → Nat} {K : K3} {μ : Mem} : (wd ad K μ).length = NC := by simp [wd]
theorem wd_lt {ad : Nat → Nat} {K : K3} {μ : Mem} {c : Nat} {q : Nat × va_E} (h : (wd ad K μ)[c]? = some q) : c < NC ∧ q = (ad c, cellE ad K μ c) := by
  have h1 : c < (wd ad K μ).length := (List.getElem?_eq_some_iff.mp h).1
  rw [wd_len] at h1
  rw [wd_at h1] at h
  exact ⟨h1, (Option.some.inj h).symm⟩
theorem shp_lt {c a b : Nat} (h : shp c = (a, b)) (hb : 0 < b) : c < NC := by
  rcases Nat.lt_or_ge c NC with h1 | h1
  · exact h1
  · have h2 : shT.length ≤ c := h1
    rw [shp, List.getD_eq_getElem?_getD, List.getElem?_eq_none h2] at h
    simp at h
    omega
theorem wd_set {ad : Nat → Nat} {K : K3} {μ μ' : Mem} {c : Nat} {e : va_E} (h : c < NC) (he : e = cellE ad K μ' c) (ho : ∀ d, d ≠ c → cellE ad K μ' d = cellE ad K μ d) : (wd ad K μ).set c (ad c, e) = wd ad K μ' := by
  subst he
  apply List.ext_getElem?
  intro i
  rw [List.getElem?_set]
  by_cases hi : c = i
  · subst hi
    rw [if_pos rfl, wd_len, if_pos h, wd_at h]
  · rw [if_neg hi]
    rcases Nat.lt_or_ge i NC with h1 | h1
    · rw [wd_at h1, wd_at h1, ho i (fun q => hi q.symm)]
    · rw [List.getElem?_eq_none (by rw [wd_len]; exact h1), List.getElem?_eq_none (by rw [wd_len]; exact h1)]
theorem wd_D {A : Nat → Prop} {ad : Nat → Nat} {K : K3} {μ μ' : Mem} (h : va_D A (wd ad K μ)) : va_D A (wd ad K μ') := by
  refine ⟨fun i j p q hi hj e => ?_, fun k q hk => ?_⟩
  · obtain ⟨i1, rfl⟩ := wd_lt hi
    obtain ⟨j1, rfl⟩ := wd_lt hj
    exact h.1 i j _ _ (wd_at i1) (wd_at j1) e
  · obtain ⟨k1, rfl⟩ := wd_lt hk
    have h2 := h.2 k (ad k, cellE ad K μ k) (wd_at k1)
    exact h2
theorem wd_A {A : Nat → Prop} {ad : Nat → Nat} {K : K3} {μ : Mem} (h : va_D A (wd ad K μ)) : ∀ q, inW ad q → A q := by
  rintro q ⟨c, hc, rfl⟩
  exact h.2 c _ (wd_at hc)
theorem wd_W {A : Nat → Prop} {ad : Nat → Nat} {K : K3} {μ : Mem} (h : va_D A (wd ad K μ)) : va_D (inW ad) (wd ad K μ) := ⟨h.1, fun k q hk => by
  obtain ⟨k1, rfl⟩ := wd_lt hk
  exact ⟨k, k1, rfl⟩⟩
theorem cell_int {ad : Nat → Nat} {K : K3} {μ : Mem} {c n : Nat} (h : shp c = (0, n)) : cellE ad K μ c = .inl (K.1, n, .inl (gi μ c)) := by
  unfold cellE; rw [h]
theorem cell_bool {ad : Nat → Nat} {K : K3} {μ : Mem} {c n : Nat} (h : shp c = (1, n)) : cellE ad K μ c = .inl (K.2.1, n, .inl (gi μ c)) := by
  unfold cellE; rw [h]
theorem cell_sc {ad : Nat → Nat} {K : K3} {μ : Mem} {c n : Nat} (h : shp c = (2, n)) : cellE ad K μ c = .inl (K.2.2, n, .inr (.inr (.inr (.inr (fun j => some (ad (c + 1 + 3 * j))))))) := by
  unfold cellE; rw [h]
theorem cell_obj {ad : Nat → Nat} {K : K3} {μ : Mem} {c ci n : Nat} (h : shp c = (ci + 3, n)) : cellE ad K μ c = .inr (ci, (List.range n).map (fun k => tr ad (fldA μ ci c k))) := by
  unfold cellE; rw [h]
/-- a write to cell c leaves the others -/
theorem cell_ui {ad : Nat → Nat} {K : K3} {μ : Mem} {c k : Nat} {v : Int32} {d : Nat} (h : d ≠ c) : cellE ad K (ui μ c k v) d = cellE ad K μ d := by
  have hg : ∀ j, gi (ui μ c k v) d j = gi μ d j := fun j => by simp [gi, ui, h]
  have hf : gi (ui μ c k v) d = gi μ d := funext hg
  have hF : ∀ ci j, fldA (ui μ c k v) ci d j = fldA μ ci d j := fun ci j => by
    unfold fldA; rw [hg]; rfl
  unfold cellE
  split <;> simp only [hf, hF]
theorem cell_ua {ad : Nat → Nat} {K : K3} {μ : Mem} {c : Nat} {f : Nat → Int32} {d : Nat} (h : d ≠ c) : cellE ad K (ua μ c f) d = cellE ad K μ d := by
  have hg : ∀ j, gi (ua μ c f) d j = gi μ d j := fun j => by simp [gi, ua, h]
  have hf : gi (ua μ c f) d = gi μ d := funext hg
  have hF : ∀ ci j, fldA (ua μ c f) ci d j = fldA μ ci d j := fun ci j => by
    unfold fldA; rw [hg]; rfl
  unfold cellE
  split <;> simp only [hf, hF]
theorem cell_ul {ad : Nat → Nat} {K : K3} {μ : Mem} {c k : Nat} {v : Int64} {d : Nat} (h : d ≠ c) : cellE ad K (ul μ c k v) d = cellE ad K μ d := by
  have hg : ∀ j, gl (ul μ c k v) d j = gl μ d j := fun j => by simp [gl, ul, h]
  have hF : ∀ ci j, fldA (ul μ c k v) ci d j = fldA μ ci d j := fun ci j => by
    unfold fldA; rw [hg]; rfl
  unfold cellE
  split <;> first | rfl | simp only [hF]

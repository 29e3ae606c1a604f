/-! the words: all of the tables' that are good for a callee too -/
def tw : List Cond := lw_tbl.filter goodWord
theorem mem_tw {w : Cond} (h : w ∈ lw_tbl) (g : goodWord w = true) : w ∈ tw := List.mem_filter.mpr ⟨h, g⟩
theorem tw_good {w : Cond} (h : w ∈ tw) : (w.onTables && w.keeps) = true ∨ ∃ ty, w = .arrayClass ty := good_of_word (List.mem_filter.mp h).2
def wA (y : MethodName) (cc : ByteArray) (nL : Nat) (ret : Option FieldType) : List Cond := .code y cc nL ret :: tw
theorem wA_good {y : MethodName} {cc : ByteArray} {nL : Nat} {ret : Option FieldType} (h : Cond.code y cc nL ret ∈ tw) : GoodIn tw (wA y cc nL ret) := by
  intro w hw
  rcases List.mem_cons.mp hw with rfl | hw
  · exact ⟨h, tw_good h⟩
  · exact ⟨hw, tw_good hw⟩
def markF (j : Nat) : Int32 := ([1, 10, 100, 1000, 10000, 100000] : List Int32).getD j 0
def aboveF (j : Nat) : Int32 := ([-1, 0, 0, 1, 2, 0] : List Int32).getD j 0
/-- what holds of the state beside the heap's cells -/
def St (D : va_G) (K : K3) (A : Nat → Prop) (z : Nat × Nat) (U : State) (H : Heap) : Prop :=
  va_K D vwCl (tysK K) U ∧ va_Z "DoorCases" "KIND_MARK" "[I" (.ref z.1) A U H ∧ va_T .int z.1 6 (fun j => .int (markF j)) A U H ∧ va_Z "DoorCases" "KIND_ABOVE" "[I" (.ref z.2) A U H ∧ va_T .int z.2 6 (fun j => .int (aboveF j)) A U H ∧
  va_Nw (.methodLinkNest RX7 66 yX8_lossOf "DoorCases") U ∧ va_Nw (.methodLinkNest RX1 75 yX8_lossOf "DoorCases") U
theorem St.same {D : va_G} {K : K3} {A : Nat → Prop} {z : Nat × Nat} {u U : State} {H : Heap} (h : St D K A z u H) (hv : u.vm = U.vm) : St D K A z U H := by
  obtain ⟨h1, h2, h3, h4, h5, h6, h7⟩ := h
  have hA : u.vm.Alike U.vm := by rw [hv]; exact Vm.Alike.refl U.vm
  exact ⟨va_K.moved hA h1, va_Z.moved hA h2, va_T.moved hA h3, va_Z.moved hA h4, va_T.moved hA h5, va_Nw.same rfl hv h6, va_Nw.same rfl hv h7⟩
theorem St.call {D : va_G} {K : K3} {A B : Nat → Prop} {z : Nat × Nat} {s U : State} {H : Heap} {locs : List Loc} (h : St D K A z s s.heap) (hS : va_S A s.heap H locs) (hW : s.WarmedH U.vm) (hU : U.heap = H) (hAB : ∀ q, B q → A q) : St D K B z U U.heap := by
  obtain ⟨h1, h2, h3, h4, h5, h6, h7⟩ := h
  subst hU
  have hA : s.vm.Alike U.vm := hW.alike
  have hk : ∀ a : Nat, a < s.heap.size → ¬ A a → U.heap[a]? = s.heap[a]? := hS.2.1
  exact ⟨va_K.moved hA h1, (va_Z.moved hA (h2.kept hk)).narrow hAB, (va_T.moved hA (h3.kept hk)).narrow hAB, (va_Z.moved hA (h4.kept hk)).narrow hAB, (va_T.moved hA (h5.kept hk)).narrow hAB, va_Nw.warmM hW h6, va_Nw.warmM hW h7⟩
/-! the frame's context in one tuple -/
abbrev XT : Type := Program × Launch × Env × Room × State × MethodId × Array Value × List Frame × Method × Code × (State → Prop) × va_G × K3 × (Nat → Nat) × (Nat → Prop) × Nat × (Nat × Nat)
abbrev xp (X : XT) : Program := X.1
abbrev xl (X : XT) : Launch := X.2.1
abbrev xe (X : XT) : Env := X.2.2.1
abbrev xR (X : XT) : Room := X.2.2.2.1
abbrev xs (X : XT) : State := X.2.2.2.2.1
abbrev xm (X : XT) : MethodId := X.2.2.2.2.2.1
abbrev xa (X : XT) : Array Value := X.2.2.2.2.2.2.1
abbrev xb (X : XT) : List Frame := X.2.2.2.2.2.2.2.1
abbrev xh (X : XT) : Method := X.2.2.2.2.2.2.2.2.1
abbrev xc (X : XT) : Code := X.2.2.2.2.2.2.2.2.2.1
abbrev xQ (X : XT) : State → Prop := X.2.2.2.2.2.2.2.2.2.2.1
abbrev xD (X : XT) : va_G := X.2.2.2.2.2.2.2.2.2.2.2.1
abbrev xK (X : XT) : K3 := X.2.2.2.2.2.2.2.2.2.2.2.2.1
abbrev xd (X : XT) : Nat → Nat := X.2.2.2.2.2.2.2.2.2.2.2.2.2.1
abbrev xA (X : XT) : Nat → Prop := X.2.2.2.2.2.2.2.2.2.2.2.2.2.2.1
abbrev xn (X : XT) : Nat := X.2.2.2.2.2.2.2.2.2.2.2.2.2.2.2.1
abbrev xz (X : XT) : Nat × Nat := X.2.2.2.2.2.2.2.2.2.2.2.2.2.2.2.2
def lm (ad : Nat → Nat) (nL : Nat) (L : List (Option Value)) (ls : Array Slot) : Prop := lv_has ls nL [] ∧ ∀ (i : Nat) (v : Value), L[i]? = some (some v) → v.category = 1 ∧ ls[i]? = some (.val (tr ad v))
theorem tr_cat (ad : Nat → Nat) (v : Value) : (tr ad v).category = v.category := by cases v <;> rfl
theorem lm_list {ad : Nat → Nat} {nL : Nat} {L : List (Option Value)} {ls : Array Slot} (h : lm ad nL L ls) : ∃ lv, lv_has ls nL lv ∧ (∀ q ∈ lv, q.2.category = 1) ∧ ∀ (j : Nat) (v : Value), L[j]? = some (some v) → (j, tr ad v) ∈ lv := by
  refine ⟨(List.range L.length).filterMap (fun i => match L[i]? with | some (some v) => some (i, tr ad v) | _ => none), ⟨h.1.1, h.1.2.1, fun q hq => ?_⟩, fun q hq => ?_, fun j v hj => ?_⟩
  · obtain ⟨i, -, hi⟩ := List.mem_filterMap.mp hq
    split at hi
    · rename_i v hv
      cases hi
      exact (h.2 i v hv).2
    · cases hi
  · obtain ⟨i, -, hi⟩ := List.mem_filterMap.mp hq
    split at hi
    · rename_i v hv
      cases hi
      show (tr ad v).category = 1
      rw [tr_cat]
      exact (h.2 i v hv).1
    · cases hi
  · refine List.mem_filterMap.mpr ⟨j, List.mem_range.mpr (List.getElem?_eq_some_iff.mp hj).1, ?_⟩
    rw [hj]
theorem lm_set {ad : Nat → Nat} {nL : Nat} {L : List (Option Value)} {ls' : Array Slot} {i : Nat} {v : Value} {lv : List (Nat × Value)} (hc : v.category = 1) (hq1 : ∀ q ∈ lv, q.2.category = 1) (hq : ∀ (j : Nat) (w : Value), L[j]? = some (some w) → w.category = 1 ∧ (j, tr ad w) ∈ lv)
    (h : lv_has ls' nL ((i, tr ad v) :: lv.filter (fun q => !(q.1 == i) && !(q.1 + 1 == i && q.2.category == 2)))) : lm ad nL (L.set i (some v)) ls' := by
  refine ⟨⟨h.1, h.2.1, fun q hq => by cases hq⟩, fun j w hj => ?_⟩
  rw [List.getElem?_set] at hj
  by_cases e : i = j
  · subst e
    rw [if_pos rfl] at hj
    split at hj
    · cases hj
      exact ⟨hc, h.2.2 _ List.mem_cons_self⟩
    · cases hj
  · rw [if_neg e] at hj
    obtain ⟨h1, h2⟩ := hq j w hj
    refine ⟨h1, h.2.2 (j, tr ad w) (List.mem_cons_of_mem _ (List.mem_filter.mpr ⟨h2, ?_⟩))⟩
    have h3 := hq1 _ h2
    have n1 : (j == i) = false := by simpa using fun q => e q.symm
    have n2 : ((tr ad w).category == 2) = false := by rw [h3]; rfl
    simp only [n1, n2, Bool.and_false, Bool.not_false, Bool.and_self]
/-- the machine, now at place pc of this frame with the locals L, the operands st, the memory μ, comes to the frame's end -/
def V (X : XT) (pc : Nat) (L : List (Option Value)) (st : List Value) (μ : Mem) : Prop :=
  ∀ (ls : Array Slot) (H : Heap) (locs : List Loc), lm (xd X) (xn X) L ls → va_P (xD X) vwCl (wd (xd X) (xK X) μ) H → va_S (xA X) (xs X).heap H locs → W (xp X) (xl X) (xe X) (xR X) (xs X) (xm X) (xa X) (xb X) (xh X) (xc X) H locs 0 0 (xQ X) (F0 (xm X) pc ls (st.map (tr (xd X))))
def Ok (X : XT) (cc : ByteArray) (own : String) (d : Nat) : Prop :=
  (xp X).tables.exec = Jvm.exec ∧ (xc X).code = cc ∧ (xc X).maxLocals = xn X ∧ (xs X).vm.findClass own = some (xm X).cls ∧ (∀ w ∈ tw, w.before (xa X) (xs X) = true) ∧ St (xD X) (xK X) (xA X) (xz X) (xs X) (xs X).heap ∧ va_D (xA X) (wd (xd X) (xK X) m0) ∧ (xh X).locks = false ∧ d ≤ (xR X).frames ∧ 40 * d ≤ (xR X).locals
abbrev Post : Type := Option Value → Mem → Prop
abbrev Tr : Type := List Value → Mem → Post → Prop
def QQ (D : va_G) (K : K3) (ad : Nat → Nat) (P : Post) : Array Value → State → Outcome → State → Prop := fun _ st oc t => (∃ (r : Option Value) (μ' : Mem), oc = .returned (r.map (tr ad)) ∧ P r μ' ∧ va_P D vwCl (wd ad K μ') t.heap) ∧ va_F (inW ad) st t
def OkM (X : XT) (cc : ByteArray) (own : String) (d : Nat) (ret : Option FieldType) (P : Post) : Prop :=
  Ok X cc own d ∧ (xh X).sig.returnType = ret ∧ xQ X = MQ (xb X) (QQ (xD X) (xK X) (xd X) P) (xa X) (xs X) 0 0 (inW (xd X)) ∧ xA X = inW (xd X)
def rmd (d : Nat) : Room := { frames := d, cells := 0, slots := 0, locals := 40 * d }
/-- a method's contract: from every memory and arguments of which S holds, it comes to its end with P -/
def Sp (y : MethodName) (cc : ByteArray) (nL : Nat) (ret : Option FieldType) (d : Nat) (S : Tr) : Prop :=
  ∀ (l : Launch) (D : va_G) (K : K3) (ad : Nat → Nat) (z : Nat × Nat) (av : List Value) (μ : Mem) (P : Post), S av μ P →
    Met l y (wA y cc nL ret) (rmd d) (va_Pc (av.map (tr ad)) (fun U => va_P D vwCl (wd ad K μ) U.heap ∧ St D K (inW ad) z U U.heap ∧ va_D (inW ad) (wd ad K m0))) (QQ D K ad P) 0 0 (inW ad)
theorem sp_of {y : MethodName} {cc : ByteArray} {nL : Nat} {ret : Option FieldType} {d : Nat} {S : Tr} (hy : plainName y.cls = true) (hc1 : ∀ av μ P, S av μ P → av.length ≤ nL ∧ ∀ v ∈ av, v.category = 1)
    (body : ∀ (X : XT) (P : Post), OkM X cc y.cls d ret P → ∀ av μ, S av μ P → xn X = nL → V X 0 (av.map some ++ List.replicate (nL - av.length) none) [] μ) : Sp y cc nL ret d S := by
  intro l D K ad z av μ P hS
  obtain ⟨hlen, hcat⟩ := hc1 av μ P hS
  refine Met.ofW (cc := cc) (maxL := nL) (ret := ret) hy rfl ?_
  intro p e s m args below meth c s₁ B hml hv
  obtain ⟨rfl, hP, hSt, hD⟩ := hv
  have hts := atoms_spec (ws := wA y cc nL ret) B.pre
  have hown : s.vm.findClass y.cls = some m.cls := findClass_of_methodNamed B.named
  have hsl : ∀ (vs : List Value), (∀ v ∈ vs, v.category = 1) → lg_sl (vs.map (tr ad)) = vs.map (fun v => .val (tr ad v)) := by
    intro vs h
    induction vs with
    | nil => rfl
    | cons v t ih =>
      have h1 := h v List.mem_cons_self
      simp only [lg_sl, List.map_cons, List.flatMap_cons] at ih ⊢
      rw [ih (fun w hw => h w (List.mem_cons_of_mem _ hw)), if_neg (by rw [tr_cat]; omega)]
      rfl
  have hl := lv_entry (av.map (tr ad)) (n := nL) (by rw [hsl av hcat, List.length_map]; exact hlen)
  rw [lg_entry_eq]
  generalize hls : (lg_sl (av.map (tr ad)) ++ List.replicate (nL - (lg_sl (av.map (tr ad))).length) Slot.unset).toArray = ls at hl ⊢
  have b := body (p, l, e, (headSpec (wA y cc nL ret) (rmd d)).room, s, m, (av.map (tr ad)).toArray, below, meth, c, MQ below (QQ D K ad P) (av.map (tr ad)).toArray s 0 0 (inW ad), D, K, ad, inW ad, nL, z) P
    ⟨⟨B.exec, B.bytes, hml, hown, fun w hw => hts w (List.mem_cons_of_mem _ hw), hSt, hD, B.notSynchronized, Nat.le_refl _, Nat.le_refl _⟩, B.returns, rfl, rfl⟩ av μ hS rfl
  refine b ls s.heap [] ⟨⟨hl.1, hl.2.1, fun q hq => by cases hq⟩, fun i v hi => ?_⟩ hP va_S.rf
  rw [List.getElem?_append] at hi
  split at hi
  · rename_i hlt
    rw [List.length_map] at hlt
    rw [List.getElem?_map, List.getElem?_eq_getElem hlt] at hi
    cases hi
    refine ⟨hcat _ (List.getElem_mem hlt), ?_⟩
    rw [← hls]
    show ((lg_sl (av.map (tr ad)) ++ _).toArray)[i]? = _
    rw [List.getElem?_toArray, hsl av hcat, List.getElem?_append_left (by simpa using hlt), List.getElem?_map, List.getElem?_eq_getElem hlt]
    rfl
  · rw [List.getElem?_replicate] at hi
    split at hi <;> cases hi

/-! the rows as the program prints them: places named, memories named -/
theorem vp_lit {i : Int32} {n : Nat} (h : ¬ (i < 0 ∨ n ≤ i.toNatClampNeg)) : vp_in i n := h
def msk : List Bool → List (Option Value) → List (Option Value)
  | true :: ms, x :: L => x :: msk ms L
  | false :: ms, _ :: L => none :: msk ms L
  | _, _ => []
theorem msk_get : ∀ (ms : List Bool) (L : List (Option Value)) (i : Nat) (v : Value), (msk ms L)[i]? = some (some v) → L[i]? = some (some v)
  | true :: ms, x :: L, 0, v, h => h
  | true :: ms, x :: L, i + 1, v, h => msk_get ms L i v h
  | false :: ms, x :: L, 0, v, h => by simp [msk] at h
  | false :: ms, x :: L, i + 1, v, h => msk_get ms L i v h
  | [], L, i, v, h => by simp [msk] at h
  | b :: ms, [], i, v, h => by cases b <;> simp [msk] at h
theorem sHo {h : Nat} (hh : h = 3 ∨ h = 10) : shp h = (5, 12) := by rcases hh with rfl | rfl <;> rfl
theorem sH1 {h : Nat} (hh : h = 3 ∨ h = 10) : shp (h + 1) = (0, 5) := by rcases hh with rfl | rfl <;> rfl
theorem sH2 {h : Nat} (hh : h = 3 ∨ h = 10) : shp (h + 2) = (0, 5) := by rcases hh with rfl | rfl <;> rfl
theorem sH3 {h : Nat} (hh : h = 3 ∨ h = 10) : shp (h + 3) = (0, 5) := by rcases hh with rfl | rfl <;> rfl
theorem sH4 {h : Nat} (hh : h = 3 ∨ h = 10) : shp (h + 4) = (0, 5) := by rcases hh with rfl | rfl <;> rfl
theorem sH5 {h : Nat} (hh : h = 3 ∨ h = 10) : shp (h + 5) = (0, 5) := by rcases hh with rfl | rfl <;> rfl
theorem sH6 {h : Nat} (hh : h = 3 ∨ h = 10) : shp (h + 6) = (0, 6) := by rcases hh with rfl | rfl <;> rfl
def isSc (a : Nat) : Prop := shp a = (10, 7) ∧ shp (a + 1) = (0, 5) ∧ shp (a + 2) = (0, 5)
theorem sc_17 : isSc 17 := ⟨rfl, rfl, rfl⟩
theorem sc_past {i : Int32} (h : vp_in i 10) : isSc (21 + 1 + 3 * i.toNatClampNeg) := by
  have h1 : i.toNatClampNeg < 10 := Nat.not_le.mp fun q => h (Or.inr q)
  generalize i.toNatClampNeg = j at h1
  unfold isSc
  revert j
  decide +kernel
theorem sc_img {i : Int32} (h : vp_in i 2) : isSc (52 + 1 + 3 * i.toNatClampNeg) := by
  have h1 : i.toNatClampNeg < 2 := Nat.not_le.mp fun q => h (Or.inr q)
  generalize i.toNatClampNeg = j at h1
  unfold isSc
  revert j
  decide +kernel
/-- an array of ints of n > 0 places -/
def isRow (a n : Nat) : Prop := shp a = (0, n) ∧ 0 < n
section VR2
variable {X : XT} {cc : ByteArray} {own : String} {d pc : Nat} {L : List (Option Value)} {st : List Value} {μ : Mem} {ret : Option FieldType} {P : Post}
theorem v_mask (ms : List Bool) (k : V X pc (msk ms L) st μ) : V X pc L st μ := v_forget _ (msk_get ms L) k
theorem w_puti (hX : Ok X cc own d) {c ci k N idx : Nat} {v : Int32} (hf : FL own idx ci k N) (hw : FW ci k .int) (hs : shp c = (ci + 3, N)) (hk : knd ci k = 0) (hd : decode cc pc = .ok (.putfield idx, 3)) (kk : ∀ m, m = ui μ c k v → V X (pc + 3) L st m) : V X pc L (.int v :: .ref c :: st) μ := v_puti hX hf hw hs hk hd (kk _ rfl)
theorem w_putz (hX : Ok X cc own d) {c ci k N idx : Nat} {v : Int32} (hf : FL own idx ci k N) (hw : FW ci k .boolean) (hs : shp c = (ci + 3, N)) (hk : knd ci k = 4) (hv : v = 0 ∨ v = 1) (hd : decode cc pc = .ok (.putfield idx, 3)) (kk : ∀ m, m = ui μ c k v → V X (pc + 3) L st m) : V X pc L (.int v :: .ref c :: st) μ := v_putz hX hf hw hs hk hv hd (kk _ rfl)
theorem w_putl (hX : Ok X cc own d) {c ci k N idx : Nat} {v : Int64} (hf : FL own idx ci k N) (hw : FW ci k .long) (hs : shp c = (ci + 3, N)) (hk : knd ci k = 1) (hd : decode cc pc = .ok (.putfield idx, 3)) (kk : ∀ m, m = ul μ c k v → V X (pc + 3) L st m) : V X pc L (.long v :: .ref c :: st) μ := v_putl hX hf hw hs hk hd (kk _ rfl)
theorem w_putp (hX : Ok X cc own d) {k idx : Nat} {v : Nat} (hf : FL own idx 8 k 13) (hw : FW 8 k (.object "DoorCases$House")) (hk : knd 8 k = 3) (hd : decode cc pc = .ok (.putfield idx, 3)) (kk : ∀ m, m = up μ k v → V X (pc + 3) L st m) : V X pc L (.ref v :: .ref 0 :: st) μ := v_putp hX hf hw hk hd (kk _ rfl)
theorem w_iald (hX : Ok X cc own d) {c n : Nat} {i : Int32} (j : Nat) (hs : shp c = (0, n)) (hin : vp_in i n) (hj : i.toNatClampNeg = j) (hd : decode cc pc = .ok (.iaload, 1)) (kk : V X (pc + 1) L (.int (gi μ c j) :: st) μ) : V X pc L (.int i :: .ref c :: st) μ := by subst hj; exact v_iald hX hs hin hd kk
theorem w_bald (hX : Ok X cc own d) {c n : Nat} {i : Int32} (j : Nat) (hs : shp c = (1, n)) (hin : vp_in i n) (hj : i.toNatClampNeg = j) (hd : decode cc pc = .ok (.baload, 1)) (kk : V X (pc + 1) L (.int (gi μ c j) :: st) μ) : V X pc L (.int i :: .ref c :: st) μ := by subst hj; exact v_bald hX hs hin hd kk
theorem w_iast (hX : Ok X cc own d) {c n : Nat} {i x : Int32} (j : Nat) (hs : shp c = (0, n)) (hin : vp_in i n) (hj : i.toNatClampNeg = j) (hd : decode cc pc = .ok (.iastore, 1)) (kk : ∀ m, m = ui μ c j x → V X (pc + 1) L st m) : V X pc L (.int x :: .int i :: .ref c :: st) μ := by subst hj; exact v_iast hX hs hin hd (kk _ rfl)
theorem w_bast (hX : Ok X cc own d) {c n : Nat} {i x : Int32} (j : Nat) (hs : shp c = (1, n)) (hin : vp_in i n) (hj : i.toNatClampNeg = j) (hx : x = 0 ∨ x = 1) (hd : decode cc pc = .ok (.bastore, 1)) (kk : ∀ m, m = ui μ c j x → V X (pc + 1) L st m) : V X pc L (.int x :: .int i :: .ref c :: st) μ := by subst hj; exact v_bast hX hs hin hx hd (kk _ rfl)
theorem w_copy (hX : Ok X cc own d) {idx c0 c1 n0 n1 : Nat} {n : Int32} (nn : Nat) (hl : Cond.methodLink own idx arraycopyName ∈ tw) (hs0 : shp c0 = (0, n0)) (hs1 : shp c1 = (0, n1)) (hz0 : 0 < n0) (hz1 : 0 < n1) (hd0 : 2 ≤ d) (hcat : (st.map fun v => v.category).sum ≤ 8) (hd : decode cc pc = .ok (.invokestatic idx, 3)) (hn : n.toNatClampNeg = nn) (h3 : ¬ n < 0) (h4 : nn ≤ n0) (h5 : nn ≤ n1)
    (k : ∀ m, m = ua μ c1 (va_cpy (gi μ c0) (gi μ c1) 0 0 nn) → V X (pc + 3) L st m) : V X pc L (.int n :: .int 0 :: .ref c1 :: .int 0 :: .ref c0 :: st) μ := by
  subst hn
  exact v_copy hX hl twCpy hs0 hs1 hz0 hz1 hd0 hcat hd (by decide) (by decide) h3 (by rw [show (0 : Int32).toNatClampNeg = 0 from rfl]; omega) (by rw [show (0 : Int32).toNatClampNeg = 0 from rfl]; omega) (k _ rfl)
theorem w_istore_n (hX : Ok X cc own d) {i : Fin 4} {x : Int32} (hd : decode cc pc = .ok (.istore_n i, 1)) (hn : (i : Nat) < xn X) (k : ∀ y, y = x → V X (pc + 1) (L.set i (some (.int y))) st μ) : V X pc L (.int x :: st) μ := v_istore_n hX hd hn (k _ rfl)
theorem w_istore (hX : Ok X cc own d) {i : Nat} {x : Int32} (hd : decode cc pc = .ok (.istore i, 2)) (hn : i < xn X) (k : ∀ y, y = x → V X (pc + 2) (L.set i (some (.int y))) st μ) : V X pc L (.int x :: st) μ := v_istore hX hd hn (k _ rfl)
end VR2
theorem lossMd : yX8_lossOf.cls ≠ "java/lang/invoke/MethodHandle" ∧ yX8_lossOf.cls ≠ "java/lang/invoke/VarHandle" ∧ (parseMethodDescriptor yX8_lossOf.desc).map (fun d => d.parameters.length) = some 2 := ⟨by decide +kernel, by decide +kernel, by decide +kernel⟩
theorem call_eq {α β : Type} {a : α} {b : β} {F : α → β → Prop} : (∀ (x : α) (m : β), x = a → m = b → F x m) ↔ F a b := ⟨fun h => h a b rfl rfl, fun h x m e1 e2 => by subst e1; subst e2; exact h⟩

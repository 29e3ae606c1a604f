/-! frames that make objects: the world is a list that grows -/
def CtW (D : va_G) (A : Nat → Prop) (w : va_W) (H : Heap) : Prop := va_P D vwCl w H ∧ va_D A w
def VC (X : XT) (k1 k2 pc : Nat) (L : List (Option Value)) (st : List Value) (w : va_W) : Prop :=
  ∀ (ls : Array Slot) (H : Heap) (locs : List Loc), lm id (xn X) L ls → CtW (xD X) (xA X) w H → va_S (xA X) (xs X).heap H locs → W (xp X) (xl X) (xe X) (xR X) (xs X) (xm X) (xa X) (xb X) (xh X) (xc X) H locs k1 k2 (xQ X) (F0 (xm X) pc ls (st.map (tr id)))
def OkC (X : XT) (cc : ByteArray) (own : String) : Prop :=
  (xp X).tables.exec = Jvm.exec ∧ (xc X).code = cc ∧ (xc X).maxLocals = xn X ∧ (xs X).vm.findClass own = some (xm X).cls ∧ (∀ w ∈ tw, w.before (xa X) (xs X) = true) ∧ va_K (xD X) vwCl (tysK (xK X)) (xs X) ∧ va_AO "DoorCases$Scene" (xs X) ∧ (xh X).locks = false ∧ ∀ q, (xs X).heap.size ≤ q → xA X q
def CtPre (D : va_G) (K : K3) (w : va_W) (U : State) : Prop := va_P D vwCl w U.heap ∧ va_K D vwCl (tysK K) U ∧ va_AO "DoorCases$Scene" U ∧ va_D (fun _ => True) w
def rmC (f lo mc ms : Nat) : Room := { frames := f, cells := mc, slots := ms, locals := lo }
/-- what a method without parameters makes of a world that it may grow -/
def CM (l : Launch) (D : va_G) (K : K3) (y : MethodName) (cc : ByteArray) (nL f lo mc ms h : Nat) (wi : va_W) (Po : va_W → Prop) : Prop :=
  ∀ sz : Nat, Met l y (wA y cc nL none) (rmC f lo mc ms) (va_Pc [.ref h] (fun U => U.heap.size = sz ∧ CtPre D K wi U)) (va_Qv Po (fun w' t => CtW D (va_A wi sz) w' t.heap) (va_A wi sz)) mc ms (va_A wi sz)
/-- a final field of the class's own -/
def FF (ci k : Nat) (ty : FieldType) (own : String) : Prop := ∀ (C : String) (T : u_T) (N : Nat), vwCl[ci]? = some (C, T, N) → (T k).2.2.2 = true ∧ (T k).1 = own ∧ parseFieldDescriptor (T k).2.2.1 = some ty
theorem at_len {α : Type} (l : List α) (x : α) (r : List α) : (l ++ x :: r)[l.length]? = some x := by simp
theorem set_len {α : Type} (l : List α) (x y : α) (r : List α) : (l ++ x :: r).set l.length y = l ++ y :: r := by simp
section CROWS
variable {X : XT} {cc : ByteArray} {own : String} {k1 k2 pc : Nat} {L : List (Option Value)} {st : List Value} {w ws T : va_W} {h : Nat} {e : va_E}
theorem c_iconst (hX : OkC X cc own) {n : Int} (v : Int32) (hd : decode cc pc = .ok (.iconst n, 1)) (hv : Int32.ofInt n = v) (k : VC X k1 k2 (pc + 1) L (.int v :: st) w) : VC X k1 k2 pc L st w := fun ls H locs hm hP hS => lv_iconst hX.1 hX.2.1 hd hv (k ls H locs hm hP hS)
theorem c_bipush (hX : OkC X cc own) {n : Int} (v : Int32) (hd : decode cc pc = .ok (.bipush n, 2)) (hv : (Int8.ofInt n).toInt32 = v) (k : VC X k1 k2 (pc + 2) L (.int v :: st) w) : VC X k1 k2 pc L st w := fun ls H locs hm hP hS => lv_bipush hX.1 hX.2.1 hd hv (k ls H locs hm hP hS)
theorem c_sipush (hX : OkC X cc own) {n : Int} (v : Int32) (hd : decode cc pc = .ok (.sipush n, 3)) (hv : (Int16.ofInt n).toInt32 = v) (k : VC X k1 k2 (pc + 3) L (.int v :: st) w) : VC X k1 k2 pc L st w := fun ls H locs hm hP hS => lv_sipush hX.1 hX.2.1 hd hv (k ls H locs hm hP hS)
theorem c_lconst (hX : OkC X cc own) {n : Fin 2} (v : Int64) (hd : decode cc pc = .ok (.lconst n, 1)) (hv : Int64.ofNat (n : Nat) = v) (k : VC X k1 k2 (pc + 1) L (.long v :: st) w) : VC X k1 k2 pc L st w := fun ls H locs hm hP hS => lv_lconst hX.1 hX.2.1 hd hv (k ls H locs hm hP hS)
theorem c_iload_n (hX : OkC X cc own) {i : Fin 4} {x : Int32} (hd : decode cc pc = .ok (.iload_n i, 1)) (hl : L[(i : Nat)]? = some (some (.int x))) (k : VC X k1 k2 (pc + 1) L (.int x :: st) w) : VC X k1 k2 pc L st w := fun ls H locs hm hP hS => lv_iload_n hX.1 hX.2.1 hd rfl (hm.2 _ _ hl).2 (k ls H locs hm hP hS)
theorem c_aload_n (hX : OkC X cc own) {i : Fin 4} {x : Nat} (hd : decode cc pc = .ok (.aload_n i, 1)) (hl : L[(i : Nat)]? = some (some (.ref x))) (k : VC X k1 k2 (pc + 1) L (.ref x :: st) w) : VC X k1 k2 pc L st w := fun ls H locs hm hP hS => lv_aload_n hX.1 hX.2.1 hd rfl (hm.2 _ _ hl).2 (k ls H locs hm hP hS)
theorem c_istore_n (hX : OkC X cc own) {i : Fin 4} {x : Int32} (hd : decode cc pc = .ok (.istore_n i, 1)) (hn : (i : Nat) < xn X) (k : VC X k1 k2 (pc + 1) (L.set i (some (.int x))) st w) : VC X k1 k2 pc L (.int x :: st) w := fun ls H locs hm hP hS => by
  obtain ⟨lv, h1, h2, h3⟩ := lm_list hm
  exact lv_istore_n hX.1 hX.2.1 hd rfl h1 hn rfl (fun ls' h' => k ls' H locs (lm_set (v := .int x) rfl h2 (fun j w hj => ⟨(hm.2 j w hj).1, h3 j w hj⟩) h') hP hS)
theorem c_astore_n (hX : OkC X cc own) {i : Fin 4} {x : Nat} (hd : decode cc pc = .ok (.astore_n i, 1)) (hn : (i : Nat) < xn X) (k : VC X k1 k2 (pc + 1) (L.set i (some (.ref x))) st w) : VC X k1 k2 pc L (.ref x :: st) w := fun ls H locs hm hP hS => by
  obtain ⟨lv, h1, h2, h3⟩ := lm_list hm
  exact lv_astore_n hX.1 hX.2.1 hd rfl h1 hn rfl (fun ls' h' => k ls' H locs (lm_set (v := .ref x) rfl h2 (fun j w hj => ⟨(hm.2 j w hj).1, h3 j w hj⟩) h') hP hS)
theorem c_iinc (hX : OkC X cc own) {i : Nat} {n : Int} {x : Int32} (v : Int32) (hd : decode cc pc = .ok (.iinc i n, 3)) (hn : i < xn X) (hl : L[i]? = some (some (.int x))) (hv : Int32.ofInt n = v) (k : VC X k1 k2 (pc + 3) (L.set i (some (.int (x + v)))) st w) : VC X k1 k2 pc L st w := fun ls H locs hm hP hS => by
  obtain ⟨lv, h1, h2, h3⟩ := lm_list hm
  obtain ⟨q, hq⟩ := List.mem_iff_getElem?.mp (h3 i _ hl)
  exact lv_iinc hX.1 hX.2.1 hd h1 hq (by rw [hv]) hn rfl (fun ls' h' => k ls' H locs (lm_set (v := .int (x + v)) rfl h2 (fun j w hj => ⟨(hm.2 j w hj).1, h3 j w hj⟩) h') hP hS)
theorem c_dup (hX : OkC X cc own) {v : Value} (hd : decode cc pc = .ok (.dup, 1)) (hv : v.category = 1) (k : VC X k1 k2 (pc + 1) L (v :: v :: st) w) : VC X k1 k2 pc L (v :: st) w := fun ls H locs hm hP hS => lv_dup hX.1 hX.2.1 hd (by rw [tr_cat]; exact hv) (k ls H locs hm hP hS)
theorem c_goto (hX : OkC X cc own) {o : Int} (t : Nat) (hd : decode cc pc = .ok (.goto o, 3)) (ht : (pc : Int) + o = (t : Int)) (k : VC X k1 k2 t L st w) : VC X k1 k2 pc L st w := fun ls H locs hm hP hS => lv_goto hX.1 hX.2.1 hd ht (k ls H locs hm hP hS)
theorem c_icmp_ge (hX : OkC X cc own) {x y : Int32} {o : Int} (t : Nat) (hd : decode cc pc = .ok (.if_icmp .ge o, 3)) (ht : (pc : Int) + o = (t : Int)) (kt : y ≤ x → VC X k1 k2 t L st w) (kf : ¬ y ≤ x → VC X k1 k2 (pc + 3) L st w) : VC X k1 k2 pc L (.int y :: .int x :: st) w := fun ls H locs hm hP hS => lv_icmp_ge hX.1 hX.2.1 hd ht (fun h => kt h ls H locs hm hP hS) (fun h => kf h ls H locs hm hP hS)
theorem c_eq {w' : va_W} (he : w = w') (k : VC X k1 k2 pc L st w') : VC X k1 k2 pc L st w := he ▸ k
theorem c_obj (hX : OkC X cc own) (hr : 1 ≤ (xR X).frames ∧ 12 ≤ (xR X).locals) {idx a : Nat} (hl : Cond.methodLink own idx objectInit ∈ tw) (hi : Cond.instanceMethod objectInit ∈ tw) (hc : Cond.code objectInit ⟨#[0xb1]⟩ 1 none ∈ tw) (hd : decode cc pc = .ok (.invokespecial idx, 3)) (k : VC X k1 k2 (pc + 3) L [] w) : VC X k1 k2 pc L [.ref a] w := fun ls H locs hm hP hS => by
  refine W.objInit hX.1 hX.2.1 hX.2.2.2.1 (hX.2.2.2.2.1 _ hl) (hX.2.2.2.2.1 _ hi) (hX.2.2.2.2.1 _ hc) rfl (by rw [hX.2.2.1]; exact hm.1.1) rfl hd hr.1 (by show 2 * 0 + 0 + 12 ≤ _; omega) ?_
  exact W.eq rfl (k ls H locs hm hP hS)
theorem tys_int {D : va_G} {K : K3} {U : State} {cA : ClassId} (h : va_K D vwCl (tysK K ++ [(cA, .int)]) U) : cA = K.1 := by
  have h1 : U.vm.findClass ("[" ++ FieldType.int.toString) = some K.1 := (h.2 0 (K.1, .int) rfl).2
  have h2 : U.vm.findClass ("[" ++ FieldType.int.toString) = some cA := (h.2 3 (cA, .int) rfl).2
  exact Option.some.inj (h2.symm.trans h1)
theorem tys_bool {D : va_G} {K : K3} {U : State} {cA : ClassId} (h : va_K D vwCl (tysK K ++ [(cA, .boolean)]) U) : cA = K.2.1 := by
  have h1 : U.vm.findClass ("[" ++ FieldType.boolean.toString) = some K.2.1 := (h.2 1 (K.2.1, .boolean) rfl).2
  have h2 : U.vm.findClass ("[" ++ FieldType.boolean.toString) = some cA := (h.2 3 (cA, .boolean) rfl).2
  exact Option.some.inj (h2.symm.trans h1)
theorem tys_sc {D : va_G} {K : K3} {U : State} {cA : ClassId} (h : va_K D vwCl (tysK K ++ [(cA, .object "DoorCases$Scene")]) U) : cA = K.2.2 := by
  obtain ⟨_, _, _, _, _, h1⟩ := (h.2 2 (K.2.2, .object "DoorCases$Scene") rfl).2
  obtain ⟨_, _, _, _, _, h2⟩ := (h.2 3 (cA, .object "DoorCases$Scene") rfl).2
  exact Option.some.inj (h2.symm.trans h1)
def iA (K : K3) (N : Nat) : va_E := .inl (K.1, N, .inl (fun _ => 0))
def zA (K : K3) (N : Nat) : va_E := .inl (K.2.1, N, .inl (fun _ => 0))
def rA (K : K3) (N : Nat) (f : Nat → Option Nat) : va_E := .inl (K.2.2, N, .inr (.inr (.inr (.inr f))))
theorem c_newi (hX : OkC X cc own) {v : Int32} (N : Nat) (ha : Cond.arrayClass .int ∈ tw) (hn : ¬ v < 0) (hN : v.toNatClampNeg = N) (hb : N ≤ 1000) (hr : k1 + 1 ≤ (xR X).cells ∧ k2 + N ≤ (xR X).slots) (hd : decode cc pc = .ok (.newarray .int, 2)) (k : ∀ q, VC X (k1 + 1) (k2 + N) (pc + 2) L (.ref q :: st) (ws ++ (h, e) :: (T ++ [(q, iA (xK X) N)]))) : VC X k1 k2 pc L (.int v :: st) (ws ++ (h, e) :: T) := fun ls H locs hm hP hS => by
  refine va_newa (atype := .int) (D := xD X) (cl := vwCl) (tys := tysK (xK X)) (a0 := (N, .inl (fun _ => 0))) hX.1 hX.2.1 (hX.2.2.2.2.1 _ ha) rfl hX.2.2.2.2.2.1 hP.1 hP.2 hS hX.2.2.2.2.2.2.2.2 (fun _ => rfl) hn hN (by show N * 4 ≤ _; omega) hr.1 hr.2 hd (fun q cA H1 hK1 hP1 hD1 hS1 => ?_)
  have ec := tys_int hK1
  subst ec
  rw [List.append_assoc] at hP1 hD1
  exact k q ls H1 locs hm ⟨hP1, hD1⟩ hS1
theorem c_newz (hX : OkC X cc own) {v : Int32} (N : Nat) (ha : Cond.arrayClass .boolean ∈ tw) (hn : ¬ v < 0) (hN : v.toNatClampNeg = N) (hb : N ≤ 1000) (hr : k1 + 1 ≤ (xR X).cells ∧ k2 + N ≤ (xR X).slots) (hd : decode cc pc = .ok (.newarray .boolean, 2)) (k : ∀ q, VC X (k1 + 1) (k2 + N) (pc + 2) L (.ref q :: st) (ws ++ (h, e) :: (T ++ [(q, zA (xK X) N)]))) : VC X k1 k2 pc L (.int v :: st) (ws ++ (h, e) :: T) := fun ls H locs hm hP hS => by
  refine va_newa (atype := .boolean) (D := xD X) (cl := vwCl) (tys := tysK (xK X)) (a0 := (N, .inl (fun _ => 0))) hX.1 hX.2.1 (hX.2.2.2.2.1 _ ha) rfl hX.2.2.2.2.2.1 hP.1 hP.2 hS hX.2.2.2.2.2.2.2.2 (fun _ => rfl) hn hN (by show N * 1 ≤ _; omega) hr.1 hr.2 hd (fun q cA H1 hK1 hP1 hD1 hS1 => ?_)
  have ec := tys_bool hK1
  subst ec
  rw [List.append_assoc] at hP1 hD1
  exact k q ls H1 locs hm ⟨hP1, hD1⟩ hS1
theorem c_newq (hX : OkC X cc own) {v : Int32} {idx : Nat} (N : Nat) (hc : Cond.classLink own idx "DoorCases$Scene" ∈ tw) (hn : ¬ v < 0) (hN : v.toNatClampNeg = N) (hb : N ≤ 1000) (hr : k1 + 1 ≤ (xR X).cells ∧ k2 + N ≤ (xR X).slots) (hd : decode cc pc = .ok (.anewarray idx, 3)) (k : ∀ q, VC X (k1 + 1) (k2 + N) (pc + 3) L (.ref q :: st) (ws ++ (h, e) :: (T ++ [(q, rA (xK X) N (fun _ => none))]))) : VC X k1 k2 pc L (.int v :: st) (ws ++ (h, e) :: T) := fun ls H locs hm hP hS => by
  refine va_newq (D := xD X) (cl := vwCl) (tys := tysK (xK X)) hX.1 hX.2.1 hX.2.2.2.1 (hX.2.2.2.2.1 _ hc) hX.2.2.2.2.2.2.1 hX.2.2.2.2.2.1 hP.1 hP.2 hS hX.2.2.2.2.2.2.2.2 hn hN (by omega) hr.1 hr.2 hd (fun q cA H1 hK1 hP1 hD1 hS1 => ?_)
  have ec := tys_sc hK1
  subst ec
  rw [List.append_assoc] at hP1 hD1
  exact k q ls H1 locs hm ⟨hP1, hD1⟩ hS1
/-- a class whose objects can be made -/
def NW (ci N : Nat) (C : String) (fs : List Value) : Prop := ∃ (T : u_T) (ty : Nat → FieldType), vwCl[ci]? = some (C, T, N) ∧ (∀ w ∈ u_ws C T N, w ∈ tw) ∧ (∀ k, k < N → parseFieldDescriptor (T k).2.2.1 = some (ty k)) ∧ Cond.instantiable C N ∈ tw ∧ Cond.initialized C ∈ tw ∧ ∀ j, j < N → defaultValue (ty j) = vp_V fs j
theorem c_new (hX : OkC X cc own) {ci N idx : Nat} {C : String} {fs : List Value} (hw : NW ci N C fs) (hc : Cond.classLink own idx C ∈ tw) (hr : k1 + 1 ≤ (xR X).cells ∧ k2 + N ≤ (xR X).slots) (hd : decode cc pc = .ok (.new idx, 3)) (k : ∀ q, VC X (k1 + 1) (k2 + N) (pc + 3) L (.ref q :: st) (w ++ [(q, .inr (ci, fs))])) : VC X k1 k2 pc L st w := fun ls H locs hm hP hS => by
  obtain ⟨T, ty, h1, h2, h3, h4, h5, h6⟩ := hw
  refine va_new (D := xD X) (cl := vwCl) (tys := tysK (xK X)) (fs := fs) hX.1 hX.2.1 hX.2.2.2.2.1 h2 ty h3 hX.2.2.2.1 (hX.2.2.2.2.1 _ hc) (hX.2.2.2.2.1 _ h4) (hX.2.2.2.2.1 _ h5) hX.2.2.2.2.2.1 hP.1 hP.2 hS hX.2.2.2.2.2.2.2.2 h1 h6 hr.1 hr.2 hd (fun q H1 hP1 hD1 hS1 => ?_)
  exact k q ls H1 locs hm ⟨hP1, hD1⟩ hS1
theorem c_putF (hX : OkC X cc own) (hin : (xh X).name = "<init>") {ci j N idx q : Nat} {fs : List Value} {ty : FieldType} (hf : FL own idx ci j N) (hw : FF ci j ty own) (hl : fs.length = N) (hn : narrow ty (.ref q) = .ref q) (hfit : fits ty (.ref q) = true) (hd : decode cc pc = .ok (.putfield idx, 3)) (k : VC X k1 k2 (pc + 3) L st (ws ++ (h, .inr (ci, fs.set j (.ref q))) :: T)) : VC X k1 k2 pc L (.ref q :: .ref h :: st) (ws ++ (h, .inr (ci, fs)) :: T) := fun ls H locs hm hP hS => by
  obtain ⟨C, TT, ty0, h1, h2, h3, h4, h5, h6⟩ := hf
  obtain ⟨h7, h8, h9⟩ := hw C TT N h1
  refine va_putF (D := xD X) (v := .ref q) hX.1 hX.2.1 hX.2.2.2.2.1 h4 ty0 h5 h6 hX.2.2.2.1 hX.2.2.2.2.2.1 hP.1 hP.2 hS ws.length (at_len ws _ T) h1 j h2 (hX.2.2.2.2.1 _ h3) (fun _ h9 => h9) h7 hin h8 h9 hn hfit (by rw [hl]; exact h2) hd (fun H1 locs1 hP1 hD1 hS1 => ?_)
  rw [set_len] at hP1 hD1
  exact k ls H1 locs1 hm ⟨hP1, hD1⟩ hS1
theorem c_put (hX : OkC X cc own) {ci j N idx : Nat} {v : Value} {fs : List Value} {ty : FieldType} (hf : FL own idx ci j N) (hw : FW ci j ty) (hl : fs.length = N) (hv : tr id v = v) (hn : narrow ty v = v) (hfit : fits ty v = true) (hd : decode cc pc = .ok (.putfield idx, 3)) (k : VC X k1 k2 (pc + 3) L st (ws ++ (h, .inr (ci, fs.set j v)) :: T)) : VC X k1 k2 pc L (v :: .ref h :: st) (ws ++ (h, .inr (ci, fs)) :: T) := fun ls H locs hm hP hS => by
  obtain ⟨C, TT, ty0, h1, h2, h3, h4, h5, h6⟩ := hf
  obtain ⟨h7, h8⟩ := hw C TT N h1
  have e1 : (v :: .ref h :: st).map (tr id) = v :: .ref h :: st.map (tr id) := by rw [List.map_cons, hv]; rfl
  rw [e1]
  refine va_put (D := xD X) (v := v) hX.1 hX.2.1 hX.2.2.2.2.1 h4 ty0 h5 h6 hX.2.2.2.1 hX.2.2.2.2.2.1 hP.1 hP.2 hS ws.length (at_len ws _ T) h1 j h2 (hX.2.2.2.2.1 _ h3) (fun _ h9 => h9) h7 h8 hn hfit (by rw [hl]; exact h2) hd (fun H1 locs1 hP1 hD1 hS1 => ?_)
  rw [set_len] at hP1 hD1
  exact k ls H1 locs1 hm ⟨hP1, hD1⟩ hS1
theorem c_getr (hX : OkC X cc own) {ci j N idx q : Nat} {fs : List Value} (hf : FL own idx ci j N) (hv : fs[j]? = some (.ref q)) (hd : decode cc pc = .ok (.getfield idx, 3)) (k : VC X k1 k2 (pc + 3) L (.ref q :: st) (ws ++ (h, .inr (ci, fs)) :: T)) : VC X k1 k2 pc L (.ref h :: st) (ws ++ (h, .inr (ci, fs)) :: T) := fun ls H locs hm hP hS => by
  obtain ⟨C, TT, ty0, h1, h2, h3, h4, h5, h6⟩ := hf
  exact va_get (D := xD X) (v := .ref q) hX.1 hX.2.1 hX.2.2.2.2.1 h4 hX.2.2.2.1 hX.2.2.2.2.2.1 hP.1 ws.length (at_len ws _ T) h1 j h2 (hX.2.2.2.2.1 _ h3) (fun _ h9 => h9) hv hd (k ls H locs hm hP hS)
/-- a Scene is put into a row of Scenes -/
theorem c_aast (hX : OkC X cc own) {l r0 r1 : va_W} {a v N : Nat} {f : Nat → Option Nat} {vs : List Value} {i : Int32} (hin : vp_in i N) (hd : decode cc pc = .ok (.aastore, 1)) (k : VC X k1 k2 (pc + 1) L st (l ++ (a, rA (xK X) N (va_up f i.toNatClampNeg (some v))) :: (r0 ++ (v, .inr (7, vs)) :: r1))) : VC X k1 k2 pc L (.ref v :: .int i :: .ref a :: st) (l ++ (a, rA (xK X) N f) :: (r0 ++ (v, .inr (7, vs)) :: r1)) := fun ls H locs hm hP hS => by
  have e2 : (l ++ (a, rA (xK X) N f) :: (r0 ++ (v, .inr (7, vs)) :: r1))[(l ++ (a, rA (xK X) N f) :: r0).length]? = some (v, .inr (7, vs)) := by
    have := at_len (l ++ (a, rA (xK X) N f) :: r0) (v, (.inr (7, vs) : va_E)) r1
    rw [List.append_assoc] at this
    exact this
  refine va_astq (D := xD X) (cl := vwCl) (tys := tysK (xK X)) (r := (RX7, TX7, 7)) hX.1 hX.2.1 hX.2.2.2.2.2.1 hP.1 hP.2 hS l.length 2 (l ++ (a, rA (xK X) N f) :: r0).length 7 (at_len l _ _) rfl e2 rfl hin hd (fun H1 locs1 hP1 hD1 hS1 => ?_)
  rw [set_len] at hP1 hD1
  exact k ls H1 locs1 hm ⟨hP1, hD1⟩ hS1
theorem free_of {A : Nat → Prop} {D : va_G} {wi : va_W} {H0 H : Heap} {locs : List Loc} (hD : va_D A wi) (hS : va_S A H0 H locs) (hA : ∀ q, H0.size ≤ q → A q) : ∀ q, va_A wi H.size q → A q := by
  rintro q (⟨k, e, hk⟩ | hq)
  · exact hD.2 k _ hk
  · exact hA q (Nat.le_trans hS.1 hq)
theorem ct_blind {D : va_G} {K : K3} {wi : va_W} {a sz : Nat} : FrameBlind (va_Pc [.ref a] (fun U => U.heap.size = sz ∧ CtPre D K wi U)) := by
  rintro v U g mk ⟨q0, q1, qP, qK, qA, qD⟩
  exact ⟨q0, q1, qP, va_K.moved (u := U) (U := U.calling g mk v) (Vm.Alike.refl U.vm) qK, va_AO.moved (u := U) (U := U.calling g mk v) (Vm.Alike.refl U.vm) qA, qD⟩
/-- a constructor's links -/
def CI (own : String) (idx : Nat) (y : MethodName) : Prop := Cond.methodLink own idx y ∈ tw ∧ Cond.initialized y.cls ∈ tw ∧ Cond.instanceMethod y ∈ tw ∧ y.name = "<init>" ∧ (y.cls ≠ "java/lang/invoke/MethodHandle" ∧ y.cls ≠ "java/lang/invoke/VarHandle" ∧ (parseMethodDescriptor y.desc).map (fun d => d.parameters.length) = some 0)
theorem c_callI (hX : OkC X cc own) {y : MethodName} {bytes : ByteArray} {maxL f lo mc ms q idx : Nat} {wi : va_W} {Po : va_W → Prop} (hM : CM (xl X) (xD X) (xK X) y bytes maxL f lo mc ms q wi Po) (hc : Cond.code y bytes maxL none ∈ tw) (hi : CI own idx y) (hR : f + 1 ≤ (xR X).frames ∧ 8 + (maxL + 11) + lo ≤ (xR X).locals) (hr : k1 + mc ≤ (xR X).cells ∧ k2 + ms ≤ (xR X).slots) (hcat : (st.map fun v => v.category).sum ≤ 8) (hd : decode cc pc = .ok (.invokespecial idx, 3)) (k : ∀ w', Po w' → VC X (k1 + mc) (k2 + ms) (pc + 3) L st w') : VC X k1 k2 pc L (.ref q :: st) wi := fun ls H locs hm hP hS => by
  obtain ⟨h1, h2, h3, h4, h5⟩ := hi
  have hF := free_of (D := xD X) hP.2 hS hX.2.2.2.2.2.2.2.2
  refine va_callv (va_runI (cc := cc) (nL := xn X) (Ts := tw) (own := own) (As := []) (rest := st.map (tr id)) ⟨hX.1, hX.2.1, hX.2.2.1, hX.2.2.2.1, hX.2.2.2.2.1⟩ (hM H.size) (cwI 0 hX.2.2.2.2.1 (wA_good hc) rfl rfl rfl (hX.2.2.2.2.1 _ h2) (hX.2.2.2.2.1 _ h1) (hX.2.2.2.2.1 _ h3) h4 h5 hR) ⟨ct_blind, fun U hU hW => ⟨rfl, by rw [hU], by rw [hU]; exact hP.1, va_K.moved hW.alike hX.2.2.2.2.2.1, va_AO.moved hW.alike hX.2.2.2.2.2.2.1, hP.2.weaken (fun _ _ _ _ => trivial)⟩⟩ rfl rfl hm.1.1 rfl (lv_room (by rw [cat_sum]; exact hcat)) hd hr) hS (fun q _ z => hF q z) hF (fun us t H1 locs1 ht hvm hus hB hz hk hS1 => ?_)
  rw [ht] at hB
  exact k us hus ls H1 locs1 hm ⟨hB.1, hB.2.weaken (fun _ _ _ z => hF _ z)⟩ hS1
theorem c_callV (hX : OkC X cc own) {y : MethodName} {bytes : ByteArray} {maxL f lo mc ms q idx ci p : Nat} {vs : List Value} {wi : va_W} {Po : va_W → Prop} (hM : CM (xl X) (xD X) (xK X) y bytes maxL f lo mc ms q wi Po) (hc : Cond.code y bytes maxL none ∈ tw) (hm1 : ML own idx y 0) (hm2 : MV ci y) (he : wi[p]? = some (q, .inr (ci, vs))) (hR : f + 1 ≤ (xR X).frames ∧ 8 + (maxL + 11) + lo ≤ (xR X).locals) (hr : k1 + mc ≤ (xR X).cells ∧ k2 + ms ≤ (xR X).slots) (hcat : (st.map fun v => v.category).sum ≤ 8) (hd : decode cc pc = .ok (.invokevirtual idx, 3)) (k : ∀ w', Po w' → VC X (k1 + mc) (k2 + ms) (pc + 3) L st w') : VC X k1 k2 pc L (.ref q :: st) wi := fun ls H locs hm hP hS => by
  obtain ⟨ml, mi, md⟩ := hm1
  obtain ⟨vi, vs', T', N', vC⟩ := hm2
  have hGw : GoodIn tw (wsV own idx y.cls y (wA y bytes maxL none)) := by
    intro w hw
    rcases List.mem_append.mp hw with hw | hw
    · have : w ∈ tw := by
        rcases List.mem_cons.mp hw with rfl | hw
        · exact ml
        rcases List.mem_cons.mp hw with rfl | hw
        · exact vi
        rcases List.mem_cons.mp hw with rfl | hw
        · exact vs'
        rcases List.mem_cons.mp hw with rfl | hw
        · exact mi
        · cases hw
      exact ⟨this, tw_good this⟩
    · exact wA_good hc w hw
  have hF := free_of (D := xD X) hP.2 hS hX.2.2.2.2.2.2.2.2
  refine va_callv (va_runV (cc := cc) (nL := xn X) (Ts := tw) (own := own) (C := y.cls) (As := []) (rest := st.map (tr id)) ⟨hX.1, hX.2.1, hX.2.2.1, hX.2.2.2.1, hX.2.2.2.2.1⟩ (hM H.size) (cwV 0 hX.2.2.2.2.1 hGw rfl rfl rfl ⟨rfl, md.1, md.2.1, md.2.2⟩ hR) ⟨ct_blind, va_recv hX.2.2.2.2.2.1 hP.1 vC he, fun U hU hW => ⟨rfl, by rw [hU], by rw [hU]; exact hP.1, va_K.moved hW.alike hX.2.2.2.2.2.1, va_AO.moved hW.alike hX.2.2.2.2.2.2.1, hP.2.weaken (fun _ _ _ _ => trivial)⟩⟩ rfl rfl hm.1.1 rfl (lv_room (by rw [cat_sum]; exact hcat)) hd hr) hS (fun q _ z => hF q z) hF (fun us t H1 locs1 ht hvm hus hB hz hk hS1 => ?_)
  rw [ht] at hB
  exact k us hus ls H1 locs1 hm ⟨hB.1, hB.2.weaken (fun _ _ _ z => hF _ z)⟩ hS1
theorem c_ret (hX : OkC X cc own) (hr : (xh X).sig.returnType = none) {Po : va_W → Prop} (hQ : xQ X = MQ (xb X) (va_Qv Po (fun w' t => CtW (xD X) (xA X) w' t.heap) (xA X)) (xa X) (xs X) k1 k2 (xA X)) (hw : Po w) (hd : decode cc pc = .ok (.return_, 1)) : VC X k1 k2 pc L [] w := fun ls H locs hm hP hS => by
  rw [hQ]
  exact W.vret hX.1 hX.2.1 hr (fun t ht hW => ⟨⟨w, rfl, hw, by show CtW _ _ _ t.heap; rw [ht]; exact hP⟩, hS.F ht⟩) hS.2.2 hd hX.2.2.2.2.2.2.2.1
end CROWS
theorem cm_of {l : Launch} {D : va_G} {K : K3} {y : MethodName} {cc : ByteArray} {nL f lo mc ms h : Nat} {wi : va_W} {Po : va_W → Prop} (hy : plainName y.cls = true) (h1 : 1 ≤ nL)
    (body : ∀ X : XT, OkC X cc y.cls → (xh X).name = y.name → xl X = l → xD X = D → xK X = K → xn X = nL → xR X = rmC f lo mc ms → (xh X).sig.returnType = none → xQ X = MQ (xb X) (va_Qv Po (fun w' t => CtW (xD X) (xA X) w' t.heap) (xA X)) (xa X) (xs X) mc ms (xA X) → VC X 0 0 0 (some (.ref h) :: List.replicate (nL - 1) none) [] wi) : CM l D K y cc nL f lo mc ms h wi Po := by
  intro sz
  refine Met.ofW (cc := cc) (maxL := nL) (ret := none) hy rfl ?_
  intro p e s m args below meth c s₁ B hml hv
  obtain ⟨rfl, hsz, hP, hK, hAO, hD⟩ := hv
  subst hsz
  have hts := atoms_spec (ws := wA y cc nL none) B.pre
  have hown : s.vm.findClass y.cls = some m.cls := findClass_of_methodNamed B.named
  have hin : meth.name = y.name := (name_of_methodNamed B.named B.method).1
  have hl := lv_entry ([.ref h]) (n := nL) h1
  rw [lg_entry_eq]
  generalize hls : (lg_sl ([.ref h]) ++ List.replicate (nL - (lg_sl ([.ref h])).length) Slot.unset).toArray = ls at hl ⊢
  have b := body (p, l, e, (headSpec (wA y cc nL none) (rmC f lo mc ms)).room, s, m, #[.ref h], below, meth, c, MQ below (va_Qv Po (fun w' t => CtW D (va_A wi s.heap.size) w' t.heap) (va_A wi s.heap.size)) #[.ref h] s mc ms (va_A wi s.heap.size), D, K, id, va_A wi s.heap.size, nL, (0, 0))
    ⟨B.exec, B.bytes, hml, hown, fun w hw => hts w (List.mem_cons_of_mem _ hw), hK, hAO, B.notSynchronized, fun q hq => Or.inr hq⟩ hin rfl rfl rfl rfl rfl B.returns rfl
  refine b ls s.heap [] ⟨⟨hl.1, hl.2.1, fun q hq => by cases hq⟩, fun i v hi => ?_⟩ ⟨hP, hD.self⟩ va_S.rf
  match i, hi with
  | 0, hi =>
    cases hi
    refine ⟨rfl, ?_⟩
    rw [← hls]
    rfl
  | i + 1, hi =>
    rw [List.getElem?_cons_succ, List.getElem?_replicate] at hi
    split at hi <;> cases hi

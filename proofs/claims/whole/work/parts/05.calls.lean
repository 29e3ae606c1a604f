section VCALL
variable {X : XT} {cc : ByteArray} {own : String} {d pc : Nat} {L : List (Option Value)} {st : List Value} {μ : Mem} {ret : Option FieldType} {P : Post}
theorem v_iret (hO : OkM X cc own d (some .int) P) {v : Int32} (hd : decode cc pc = .ok (.ireturn, 1)) (h : P (some (.int v)) μ) : V X pc L [.int v] μ := fun ls H locs hm hP hS => by
  obtain ⟨hX, hr, hQ, hA⟩ := hO
  rw [hQ]
  rw [hA] at hS
  exact W.iret (v := v) hX.1 hX.2.1 hr (fun t ht hW => ⟨⟨some (.int v), μ, rfl, h, by rw [ht]; exact hP⟩, hS.F ht⟩) hS.2.2 hd hX.2.2.2.2.2.2.2.1
theorem v_zret (hO : OkM X cc own d (some .boolean) P) {v : Int32} (hd : decode cc pc = .ok (.ireturn, 1)) (hv : v = 0 ∨ v = 1) (h : P (some (.int v)) μ) : V X pc L [.int v] μ := fun ls H locs hm hP hS => by
  obtain ⟨hX, hr, hQ, hA⟩ := hO
  rw [hQ]
  rw [hA] at hS
  exact W.zret (v := v) hX.1 hX.2.1 hr (by rcases hv with rfl | rfl <;> rfl) (fun t ht hW => ⟨⟨some (.int v), μ, rfl, h, by rw [ht]; exact hP⟩, hS.F ht⟩) hS.2.2 hd hX.2.2.2.2.2.2.2.1
theorem v_lret (hO : OkM X cc own d (some .long) P) {v : Int64} (hd : decode cc pc = .ok (.lreturn, 1)) (h : P (some (.long v)) μ) : V X pc L [.long v] μ := fun ls H locs hm hP hS => by
  obtain ⟨hX, hr, hQ, hA⟩ := hO
  rw [hQ]
  rw [hA] at hS
  exact W.lret (v := v) hX.1 hX.2.1 hr (fun t ht hW => ⟨⟨some (.long v), μ, rfl, h, by rw [ht]; exact hP⟩, hS.F ht⟩) hS.2.2 hd hX.2.2.2.2.2.2.2.1
theorem v_vret (hO : OkM X cc own d none P) (hd : decode cc pc = .ok (.return_, 1)) (h : P none μ) : V X pc L [] μ := fun ls H locs hm hP hS => by
  obtain ⟨hX, hr, hQ, hA⟩ := hO
  rw [hQ]
  rw [hA] at hS
  exact W.vret hX.1 hX.2.1 hr (fun t ht hW => ⟨⟨none, μ, rfl, h, by rw [ht]; exact hP⟩, hS.F ht⟩) hS.2.2 hd hX.2.2.2.2.2.2.2.1
theorem va_callQ {p : Program} {l : Launch} {e : Env} {R : Room} {s : State} {m : MethodId} {args : Array Value} {below : List Frame} {meth : Method} {c : Code} {H : Heap} {locs : List Loc} {Q : State → Prop} {ls : Array Slot} {rest st0 : List Value} {a : Array Value} {A0 : Nat → Prop} {D : va_G} {K : K3} {ad : Nat → Nat} {P : Post}
    (hr : va_Run p l e R s m args below meth c H locs 0 0 0 0 (F0 m pc ls st0) rest (QQ D K ad P a) (inW ad)) (hS : va_S A0 s.heap H locs) (hA : ∀ q, inW ad q → A0 q)
    (kk : ∀ (r : Option Value) (μ' : Mem) (H1 : Heap) (locs1 : List Loc), P r μ' → va_P D vwCl (wd ad K μ') H1 → va_S A0 s.heap H1 locs1 → W p l e R s m args below meth c H1 locs1 0 0 Q (F0 m (pc + 3) ls ((r.map (tr ad)).toList ++ rest))) : W p l e R s m args below meth c H locs 0 0 Q (F0 m pc ls st0) := by
  intro T hT Y
  obtain ⟨v, st₀, t, T', L, h0, Y', hL, e1, e2, ⟨⟨r, u, hv, hp, hb⟩, hz, hk⟩, sg⟩ := hr T hT Y
  cases hv
  rw [h0] at hz hk
  obtain ⟨t2, a1, b1⟩ := kk r u T'.heap (locs ++ L) hp (by rw [e1]; exact hb)
    ⟨Nat.le_trans hS.1 (by rw [e1]; exact hz), fun q h1 h2 => by rw [e1, hk q (Nat.lt_of_lt_of_le h1 hS.1) (fun z => h2 (hA q z))]; exact hS.2.1 q h1 h2, fun q hq => by
      rcases List.mem_append.mp hq with h | h
      · exact hS.2.2 q h
      · exact hA _ (hL q h)⟩ T' rfl Y'
  exact ⟨t2, sg t2 a1, b1⟩
theorem pc_blind {D : va_G} {K : K3} {ad : Nat → Nat} {z : Nat × Nat} {av : List Value} {μ : Mem} : FrameBlind (va_Pc (av.map (tr ad)) (fun U => va_P D vwCl (wd ad K μ) U.heap ∧ St D K (inW ad) z U U.heap ∧ va_D (inW ad) (wd ad K m0))) := by
  rintro a U g mk ⟨q0, q1, q2, q3⟩
  exact ⟨q0, q1, q2.same rfl, q3⟩
theorem pc_call {z : Nat × Nat} {av : List Value} {H : Heap} {locs : List Loc} (hX : Ok X cc own d) (hP : va_P (xD X) vwCl (wd (xd X) (xK X) μ) H) (hS : va_S (xA X) (xs X).heap H locs) (U : State) (hU : U.heap = H) (hW : (xs X).WarmedH U.vm) : va_Pc (av.map (tr (xd X))) (fun U => va_P (xD X) vwCl (wd (xd X) (xK X) μ) U.heap ∧ St (xD X) (xK X) (inW (xd X)) (xz X) U U.heap ∧ va_D (inW (xd X)) (wd (xd X) (xK X) m0)) (av.map (tr (xd X))).toArray U :=
  ⟨rfl, by rw [hU]; exact hP, St.call hX.2.2.2.2.2.1 hS hW hU (wd_A hX.2.2.2.2.2.2.1), wd_W hX.2.2.2.2.2.2.1⟩
theorem cat_sum {ad : Nat → Nat} (rest : List Value) : ((rest.map (tr ad)).map fun v => v.category).sum = (rest.map fun v => v.category).sum := by
  rw [List.map_map]
  exact congrArg List.sum (List.map_congr_left fun v _ => tr_cat ad v)
/-- what a call's link says -/
def ML (own : String) (idx : Nat) (y : MethodName) (n : Nat) : Prop := Cond.methodLink own idx y ∈ tw ∧ Cond.initialized y.cls ∈ tw ∧ (y.cls ≠ "java/lang/invoke/MethodHandle" ∧ y.cls ≠ "java/lang/invoke/VarHandle" ∧ (parseMethodDescriptor y.desc).map (fun d => d.parameters.length) = some n)
/-- an instance method of the class number ci -/
def MV (ci : Nat) (y : MethodName) : Prop := Cond.instanceMethod y ∈ tw ∧ Cond.selects y.cls y y ∈ tw ∧ ∃ (T : u_T) (N : Nat), vwCl[ci]? = some (y.cls, T, N)
theorem v_callV (hX : Ok X cc own d) {y : MethodName} {bytes : ByteArray} {maxL d' idx n ci N c : Nat} {S : Tr} (hsp : Sp y bytes maxL ret d' S) (hc : Cond.code y bytes maxL ret ∈ tw) (hm1 : ML own idx y n) (hm2 : MV ci y) (hs : shp c = (ci + 3, N)) (hN : 0 < N) (hR : d' < d ∧ maxL ≤ 21) (As rest : List Value) (hn : As.length = n) (hst : st = As.reverse ++ .ref c :: rest) (hcat : (rest.map fun v => v.category).sum ≤ 8) (hd : decode cc pc = .ok (.invokevirtual idx, 3))
    (hS : S (.ref c :: As) μ (fun r μ' => V X (pc + 3) L (r.toList ++ rest) μ')) : V X pc L st μ := fun ls H locs hm hP hSS => by
  subst hst
  obtain ⟨ml, mi, md⟩ := hm1
  obtain ⟨vi, vs, T, N', vC⟩ := hm2
  have hM := hsp (xl X) (xD X) (xK X) (xd X) (xz X) (.ref c :: As) μ _ hS
  have hGw : GoodIn tw (wsV own idx y.cls y (wA y bytes maxL ret)) := by
    intro w hw
    rcases List.mem_append.mp hw with hw | hw
    · have : w ∈ tw := by
        rcases List.mem_cons.mp hw with rfl | hw
        · exact ml
        rcases List.mem_cons.mp hw with rfl | hw
        · exact vi
        rcases List.mem_cons.mp hw with rfl | hw
        · exact vs
        rcases List.mem_cons.mp hw with rfl | hw
        · exact mi
        · cases hw
      exact ⟨this, tw_good this⟩
    · exact wA_good hc w hw
  refine va_callQ (rest := rest.map (tr (xd X))) (va_runV (cc := cc) (nL := xn X) (Ts := tw) (own := own) (C := y.cls) (b := xd X c) (As := As.map (tr (xd X))) ⟨hX.1, hX.2.1, hX.2.2.1, hX.2.2.2.1, hX.2.2.2.2.1⟩ hM (cwV n hX.2.2.2.2.1 hGw rfl rfl rfl ⟨rfl, md.1, md.2.1, md.2.2⟩ ⟨?_, ?_⟩) ⟨pc_blind, ?_, ?_⟩ rfl (by rw [List.length_map]; exact hn) hm.1.1 ?_ (lv_room (by rw [cat_sum]; exact hcat)) hd ⟨Nat.zero_le _, Nat.zero_le _⟩) hSS (wd_A hX.2.2.2.2.2.2.1) ?_
  · show d' + 1 ≤ _
    have := hX.2.2.2.2.2.2.2.2.1
    omega
  · show 8 + (maxL + 11) + 40 * d' ≤ _
    have := hX.2.2.2.2.2.2.2.2.2
    omega
  · exact va_recv hX.2.2.2.2.2.1.1 hP vC ((wd_at (shp_lt hs hN)).trans (by rw [cell_obj hs]))
  · exact fun U hU hW => pc_call (z := xz X) (av := .ref c :: As) hX hP hSS U hU hW
  · simp [tr]
  · intro r μ' H1 locs1 hk hP1 hS1
    have h := hk ls H1 locs1 hm hP1 hS1
    cases r <;> simpa using h
theorem v_callS (hX : Ok X cc own d) {y : MethodName} {bytes : ByteArray} {maxL d' idx n : Nat} {S : Tr} (hsp : Sp y bytes maxL ret d' S) (hc : Cond.code y bytes maxL ret ∈ tw) (hm1 : ML own idx y n) (hm2 : Cond.static y ∈ tw) (hR : d' < d ∧ maxL ≤ 21) (As rest : List Value) (hn : As.length = n) (hst : st = As.reverse ++ rest) (hcat : (rest.map fun v => v.category).sum ≤ 8) (hd : decode cc pc = .ok (.invokestatic idx, 3))
    (hS : S As μ (fun r μ' => V X (pc + 3) L (r.toList ++ rest) μ')) : V X pc L st μ := fun ls H locs hm hP hSS => by
  subst hst
  obtain ⟨ml, mi, md⟩ := hm1
  have hM := hsp (xl X) (xD X) (xK X) (xd X) (xz X) As μ _ hS
  have hGw : GoodIn tw (va_wsS own idx y (wA y bytes maxL ret)) := by
    intro w hw
    rcases List.mem_append.mp hw with hw | hw
    · have : w ∈ tw := by
        rcases List.mem_cons.mp hw with rfl | hw
        · exact ml
        rcases List.mem_cons.mp hw with rfl | hw
        · exact hm2
        rcases List.mem_cons.mp hw with rfl | hw
        · exact mi
        · cases hw
      exact ⟨this, tw_good this⟩
    · exact wA_good hc w hw
  refine va_callQ (rest := rest.map (tr (xd X))) (va_runS (cc := cc) (nL := xn X) (Ts := tw) (own := own) (As := As.map (tr (xd X))) ⟨hX.1, hX.2.1, hX.2.2.1, hX.2.2.2.1, hX.2.2.2.2.1⟩ hM (va_cwS n hX.2.2.2.2.1 hGw rfl rfl rfl ⟨md.1, md.2.1, md.2.2⟩ ⟨?_, ?_⟩) ⟨pc_blind, ?_⟩ rfl (by rw [List.length_map]; exact hn) hm.1.1 ?_ (lv_room (by rw [cat_sum]; exact hcat)) hd ⟨Nat.zero_le _, Nat.zero_le _⟩) hSS (wd_A hX.2.2.2.2.2.2.1) ?_
  · show d' + 1 ≤ _
    have := hX.2.2.2.2.2.2.2.2.1
    omega
  · show 8 + (maxL + 11) + 40 * d' ≤ _
    have := hX.2.2.2.2.2.2.2.2.2
    omega
  · exact fun U hU hW => pc_call (z := xz X) (av := As) hX hP hSS U hU hW
  · simp
  · intro r μ' H1 locs1 hk hP1 hS1
    have h := hk ls H1 locs1 hm hP1 hS1
    cases r <;> simpa using h
/-- lossOf, a private static of the nest's host, called from Scene (66) and Exits (75) -/
theorem v_callN (hX : Ok X cc own d) {y : MethodName} {bytes : ByteArray} {maxL d' idx n : Nat} {S : Tr} (hsp : Sp y bytes maxL ret d' S) (hc : Cond.code y bytes maxL ret ∈ tw) (hnw : va_Nw (.methodLinkNest own idx y "DoorCases") (xs X)) (hi : Cond.initialized y.cls ∈ tw) (hm2 : Cond.static y ∈ tw) (md : y.cls ≠ "java/lang/invoke/MethodHandle" ∧ y.cls ≠ "java/lang/invoke/VarHandle" ∧ (parseMethodDescriptor y.desc).map (fun d => d.parameters.length) = some n) (hR : d' < d ∧ maxL ≤ 21) (As rest : List Value) (hn : As.length = n) (hst : st = As.reverse ++ rest) (hcat : (rest.map fun v => v.category).sum ≤ 8) (hd : decode cc pc = .ok (.invokestatic idx, 3))
    (hS : S As μ (fun r μ' => V X (pc + 3) L (r.toList ++ rest) μ')) : V X pc L st μ := fun ls H locs hm hP hSS => by
  subst hst
  have hM := hsp (xl X) (xD X) (xK X) (xd X) (xz X) As μ _ hS
  refine va_callQ (rest := rest.map (tr (xd X))) (va_runSN (cc := cc) (nL := xn X) (Ts := tw) (own := own) (As := As.map (tr (xd X))) ⟨hX.1, hX.2.1, hX.2.2.1, hX.2.2.2.1, hX.2.2.2.2.1⟩ hM ⟨va_cnB n hX.2.2.2.2.1 (wA_good hc) rfl rfl rfl hnw (hX.2.2.2.2.1 _ hi) md ⟨?_, ?_⟩, hX.2.2.2.2.1 _ hm2, trivial⟩ ⟨pc_blind, ?_⟩ rfl (by rw [List.length_map]; exact hn) hm.1.1 ?_ (lv_room (by rw [cat_sum]; exact hcat)) hd ⟨Nat.zero_le _, Nat.zero_le _⟩) hSS (wd_A hX.2.2.2.2.2.2.1) ?_
  · show d' + 1 ≤ _
    have := hX.2.2.2.2.2.2.2.2.1
    omega
  · show 8 + (maxL + 11) + 40 * d' ≤ _
    have := hX.2.2.2.2.2.2.2.2.2
    omega
  · exact fun U hU hW => pc_call (z := xz X) (av := As) hX hP hSS U hU hW
  · simp
  · intro r μ' H1 locs1 hk hP1 hS1
    have h := hk ls H1 locs1 hm hP1 hS1
    cases r <;> simpa using h
def tMax : List Cond := [.static Lib.Math.max.name, .initialized "java/lang/Math", .code Lib.Math.max.name Lib.Math.max.code 2 (some .int)]
theorem v_mmax (hX : Ok X cc own d) {idx : Nat} {x y : Int32} (hl : Cond.methodLink own idx Lib.Math.max.name ∈ tw) (hw : ∀ w ∈ tMax, w ∈ tw) (hd0 : 0 < d) (hcat : (st.map fun v => v.category).sum ≤ 8) (hd : decode cc pc = .ok (.invokestatic idx, 3)) (k : V X (pc + 3) L (.int (if x < y then y else x) :: st) μ) : V X pc L (.int y :: .int x :: st) μ := fun ls H locs hm hP hS => by
  have h9 := hX.2.2.2.2.2.2.2.2
  exact va_mmax hX.1 hX.2.1 (hX.2.2.1.trans hm.1.1.symm) hX.2.2.2.1 (hX.2.2.2.2.1 _ hl) (hX.2.2.2.2.1 _ (hw _ (by simp [tMax]))) (hX.2.2.2.2.1 _ (hw _ (by simp [tMax]))) (hX.2.2.2.2.1 _ (hw _ (by simp [tMax]))) (by omega) (by rw [cat_sum]; omega) (Nat.zero_le _) (Nat.zero_le _) hd (k ls H locs hm hP hS)
def tMin : List Cond := [.static Lib.Math.min.name, .initialized "java/lang/Math", .code Lib.Math.min.name Lib.Math.min.code 2 (some .int)]
theorem v_mmin (hX : Ok X cc own d) {idx : Nat} {x y : Int32} (hl : Cond.methodLink own idx Lib.Math.min.name ∈ tw) (hw : ∀ w ∈ tMin, w ∈ tw) (hd0 : 0 < d) (hcat : (st.map fun v => v.category).sum ≤ 8) (hd : decode cc pc = .ok (.invokestatic idx, 3)) (k : V X (pc + 3) L (.int (if y < x then y else x) :: st) μ) : V X pc L (.int y :: .int x :: st) μ := fun ls H locs hm hP hS => by
  have h9 := hX.2.2.2.2.2.2.2.2
  exact va_mmin hX.1 hX.2.1 (hX.2.2.1.trans hm.1.1.symm) hX.2.2.2.1 (hX.2.2.2.2.1 _ hl) (hX.2.2.2.2.1 _ (hw _ (by simp [tMin]))) (hX.2.2.2.2.1 _ (hw _ (by simp [tMin]))) (hX.2.2.2.2.1 _ (hw _ (by simp [tMin]))) (by omega) (by rw [cat_sum]; omega) (Nat.zero_le _) (Nat.zero_le _) hd (k ls H locs hm hP hS)
def tAbs : List Cond := [.static Lib.Math.abs.name, .initialized "java/lang/Math", .code Lib.Math.abs.name Lib.Math.abs.code 1 (some .int)]
theorem v_mabs (hX : Ok X cc own d) {idx : Nat} {x : Int32} (hl : Cond.methodLink own idx Lib.Math.abs.name ∈ tw) (hw : ∀ w ∈ tAbs, w ∈ tw) (hd0 : 0 < d) (hcat : (st.map fun v => v.category).sum ≤ 8) (hd : decode cc pc = .ok (.invokestatic idx, 3)) (k : V X (pc + 3) L (.int (if 0 ≤ x then x else 0 - x) :: st) μ) : V X pc L (.int x :: st) μ := fun ls H locs hm hP hS => by
  have h9 := hX.2.2.2.2.2.2.2.2
  exact va_mabs hX.1 hX.2.1 (hX.2.2.1.trans hm.1.1.symm) hX.2.2.2.1 (hX.2.2.2.2.1 _ hl) (hX.2.2.2.2.1 _ (hw _ (by simp [tAbs]))) (hX.2.2.2.2.1 _ (hw _ (by simp [tAbs]))) (hX.2.2.2.2.1 _ (hw _ (by simp [tAbs]))) (by omega) (by rw [cat_sum]; omega) (Nat.zero_le _) (Nat.zero_le _) hd (k ls H locs hm hP hS)
def tCpy : List Cond := [.native arraycopyName, .static arraycopyName, .initialized "java/lang/System"]
theorem v_copy (hX : Ok X cc own d) {idx c0 c1 n0 n1 : Nat} {sp dp n : Int32} (hl : Cond.methodLink own idx arraycopyName ∈ tw) (hw : ∀ w ∈ tCpy, w ∈ tw) (hs0 : shp c0 = (0, n0)) (hs1 : shp c1 = (0, n1)) (hz0 : 0 < n0) (hz1 : 0 < n1) (hd0 : 2 ≤ d) (hcat : (st.map fun v => v.category).sum ≤ 8) (hd : decode cc pc = .ok (.invokestatic idx, 3))
    (h1 : ¬ sp < 0) (h2 : ¬ dp < 0) (h3 : ¬ n < 0) (h4 : sp.toNatClampNeg + n.toNatClampNeg ≤ n0) (h5 : dp.toNatClampNeg + n.toNatClampNeg ≤ n1)
    (k : V X (pc + 3) L st (ua μ c1 (va_cpy (gi μ c0) (gi μ c1) sp.toNatClampNeg dp.toNatClampNeg n.toNatClampNeg))) : V X pc L (.int n :: .int dp :: .ref c1 :: .int sp :: .ref c0 :: st) μ := fun ls H locs hm hP hS => by
  have h9 := hX.2.2.2.2.2.2.2.2
  have hnw : nativeFrameWords "java/lang/System" "arraycopy" 5 + 11 ≤ 60 := by decide
  refine va_copyi (f := gi μ c0) (g := gi μ c1) (ty := .int) hX.1 hX.2.1 (hX.2.2.1.trans hm.1.1.symm) hX.2.2.2.1 (hX.2.2.2.2.1 _ hl) (hX.2.2.2.2.1 _ (hw _ (by simp [tCpy]))) (hX.2.2.2.2.1 _ (hw _ (by simp [tCpy]))) (hX.2.2.2.2.1 _ (hw _ (by simp [tCpy]))) hX.2.2.2.2.2.1.1 hP (wd_D hX.2.2.2.2.2.2.1) hS c0 c1 0 0 ((wd_at (shp_lt hs0 hz0)).trans (by rw [cell_int hs0])) ((wd_at (shp_lt hs1 hz1)).trans (by rw [cell_int hs1])) rfl rfl rfl h1 h2 h3 h4 h5 (fun _ _ => rfl) (by omega) (by rw [cat_sum]; omega) hd (fun H1 locs1 hP1 hD1 hS1 => ?_)
  refine k ls H1 locs1 hm ?_ hS1
  rw [wd_set (μ' := ua μ c1 (va_cpy (gi μ c0) (gi μ c1) sp.toNatClampNeg dp.toNatClampNeg n.toNatClampNeg)) (shp_lt hs1 hz1) ?_ (fun _ h => cell_ua h)] at hP1
  · exact hP1
  · rw [cell_int hs1]
    refine congrArg (fun z => Sum.inl ((xK X).1, n1, Sum.inl z)) (funext fun j => ?_)
    simp [gi, ua]
end VCALL

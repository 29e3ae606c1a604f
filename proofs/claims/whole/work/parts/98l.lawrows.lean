/-! THE CLAIM OUT OF ONE WALK OF THE LAW'S BODY. Your part is whole_start (and what it stands on); all else here is the same for every law, but numbers. -/
def R_law : String := "DoorCasesLaw"
def lw_P (b : Addr) (xs : List Int32) (args : Array Value) (s : State) : Prop := args = #[.ref b] ∧ s.IntsAt b xs ∧ xs.length ≤ 384 ∧ (Jvm.Cond.and given_1 narrow_1).before args s = true
def lw_Q (_ : Array Value) (s : State) (o : Outcome) (t : State) : Prop := o = .returned (some (.int 1)) ∧ Framed s o t [] 600000 7302250
def lw_Z (below : List Frame) (a : Array Value) (s : State) : State → Prop := fun t => ∃ o, t.status = .running ∧ Ended t below o ∧ lw_Q a s o t
/-- the law's own end, with 1 on the stack, nothing written that was there before, its room as the claim has it -/
theorem lw_ret {p : Program} {l : Launch} {e : Env} {s : State} {m : MethodId} {below : List Frame} {meth : Method} {c : Code} {b : Nat} (hx : p.tables.exec = Jvm.exec) (hb : c.code = code) (hr : meth.sig.returnType = ret) (hlocks : meth.locks = false) {pc : Nat} {H : Heap} {ls : Array Slot} (hdg : decode code pc = .ok (.ireturn, 1)) : W p l e room_1 s m #[Value.ref b] below meth c H [] 600000 7302250 (lw_Z below #[Value.ref b] s) (F0 m pc ls [.int 1]) := by
  intro T hT X
  obtain ⟨fs, hret, hrun, hended, hW, hframe⟩ := X.leave (v := some (.int 1)) (hlocks := hlocks) (fun h => by rw [hr] at h; cases h)
  have hmeth' : T.vm.method? m = some meth := X.method'
  refine ⟨T.setFrames fs, ?_, .returned (some (.int 1)), hrun, hended, rfl, ⟨_, rfl⟩, hW, hframe⟩
  jvm_step X.here [X.here.top, hx, hb, hdg, hmeth', hr, ret, narrow_b1]
  (try refine ⟨rfl, ?_⟩); (try refine ⟨rfl, ?_⟩)
  first | (intro acts; rw [hret _ acts rfl rfl rfl]) | rw [hret _ _ rfl rfl rfl]
  exact Steps.refl _
/-- what holds at the law's entry: the machine, the code, the tables' words (any of lw_tbl by 'hts w (by decide +kernel)'), the script of L ints xs at the cell b, what the Statement gives of the start (any of its parts by flat_of_before) -/
def lw_At (p : Program) (s : State) (m : MethodId) (meth : Method) (c : Code) (b L : Nat) (xs : Nat → Int32) : Prop :=
  p.tables.exec = Jvm.exec ∧ c.code = code ∧ meth.sig.returnType = ret ∧ c.maxLocals = 4 ∧ s.vm.findClass R_law = some m.cls ∧ (∀ w ∈ lw_tbl, w.before #[Value.ref b] s = true) ∧ va_X b L xs s s.heap ∧ b < s.heap.size ∧ meth.locks = false ∧ (Jvm.Cond.and given_1 narrow_1).before #[Value.ref b] s = true
def ret_law : Option FieldType := ret
/-! the law's own frame: the same rows, its cells and slots counted as the claim has them -/
def VL (X : XT) (pc : Nat) (L : List (Option Value)) (st : List Value) (μ : Mem) : Prop :=
  ∀ (ls : Array Slot) (H : Heap) (locs : List Loc), lm (xd X) (xn X) L ls → va_P (xD X) vwCl (wd (xd X) (xK X) μ) H → va_S (xA X) (xs X).heap H locs → W (xp X) (xl X) (xe X) (xR X) (xs X) (xm X) (xa X) (xb X) (xh X) (xc X) H locs 600000 7302250 (xQ X) (F0 (xm X) pc ls (st.map (tr (xd X))))
section ULAW
variable {X : XT} {cc : ByteArray} {own : String} {d pc : Nat} {L : List (Option Value)} {st : List Value} {μ : Mem} {ret : Option FieldType} {P : Post}
theorem u_iconst (hX : Ok X cc own d) {n : Int} (v : Int32) (hd : decode cc pc = .ok (.iconst n, 1)) (hv : Int32.ofInt n = v) (k : VL X (pc + 1) L (.int v :: st) μ) : VL X pc L st μ := fun ls H locs hm hP hS => lv_iconst hX.1 hX.2.1 hd hv (k ls H locs hm hP hS)
theorem u_bipush (hX : Ok X cc own d) {n : Int} (v : Int32) (hd : decode cc pc = .ok (.bipush n, 2)) (hv : (Int8.ofInt n).toInt32 = v) (k : VL X (pc + 2) L (.int v :: st) μ) : VL X pc L st μ := fun ls H locs hm hP hS => lv_bipush hX.1 hX.2.1 hd hv (k ls H locs hm hP hS)
theorem u_iload_n (hX : Ok X cc own d) {i : Fin 4} {x : Int32} (hd : decode cc pc = .ok (.iload_n i, 1)) (hl : L[(i : Nat)]? = some (some (.int x))) (k : VL X (pc + 1) L (.int x :: st) μ) : VL X pc L st μ := fun ls H locs hm hP hS => lv_iload_n hX.1 hX.2.1 hd rfl (hm.2 _ _ hl).2 (k ls H locs hm hP hS)
theorem u_aload_n (hX : Ok X cc own d) {i : Fin 4} {x : Nat} (hd : decode cc pc = .ok (.aload_n i, 1)) (hl : L[(i : Nat)]? = some (some (.ref x))) (k : VL X (pc + 1) L (.ref x :: st) μ) : VL X pc L st μ := fun ls H locs hm hP hS => lv_aload_n hX.1 hX.2.1 hd rfl (hm.2 _ _ hl).2 (k ls H locs hm hP hS)
theorem u_iinc (hX : Ok X cc own d) {i : Nat} {n : Int} {x : Int32} (v : Int32) (hd : decode cc pc = .ok (.iinc i n, 3)) (hn : i < xn X) (hl : L[i]? = some (some (.int x))) (hv : Int32.ofInt n = v) (k : VL X (pc + 3) (L.set i (some (.int (x + v)))) st μ) : VL X pc L st μ := fun ls H locs hm hP hS => by
  obtain ⟨lv, h1, h2, h3⟩ := lm_list hm
  obtain ⟨q, hq⟩ := List.mem_iff_getElem?.mp (h3 i _ hl)
  exact lv_iinc hX.1 hX.2.1 hd h1 hq (by rw [hv]) hn rfl (fun ls' h' => k ls' H locs (lm_set (v := .int (x + v)) rfl h2 (fun j w hj => ⟨(hm.2 j w hj).1, h3 j w hj⟩) h') hP hS)
theorem u_iadd (hX : Ok X cc own d) {x y : Int32} (hd : decode cc pc = .ok (.iadd, 1)) (k : VL X (pc + 1) L (.int (x + y) :: st) μ) : VL X pc L (.int y :: .int x :: st) μ := fun ls H locs hm hP hS => lv_iadd hX.1 hX.2.1 hd (k ls H locs hm hP hS)
theorem u_isub (hX : Ok X cc own d) {x y : Int32} (hd : decode cc pc = .ok (.isub, 1)) (k : VL X (pc + 1) L (.int (x - y) :: st) μ) : VL X pc L (.int y :: .int x :: st) μ := fun ls H locs hm hP hS => lv_isub hX.1 hX.2.1 hd (k ls H locs hm hP hS)
theorem u_iand (hX : Ok X cc own d) {x y : Int32} (hd : decode cc pc = .ok (.iand, 1)) (k : VL X (pc + 1) L (.int (x &&& y) :: st) μ) : VL X pc L (.int y :: .int x :: st) μ := fun ls H locs hm hP hS => lv_iand hX.1 hX.2.1 hd (k ls H locs hm hP hS)
theorem u_goto (hX : Ok X cc own d) {o : Int} (t : Nat) (hd : decode cc pc = .ok (.goto o, 3)) (ht : (pc : Int) + o = (t : Int)) (k : VL X t L st μ) : VL X pc L st μ := fun ls H locs hm hP hS => lv_goto hX.1 hX.2.1 hd ht (k ls H locs hm hP hS)
theorem u_if_eq (hX : Ok X cc own d) {x : Int32} {o : Int} (t : Nat) (hd : decode cc pc = .ok (.ifCond .eq o, 3)) (ht : (pc : Int) + o = (t : Int)) (kt : x = 0 → VL X t L st μ) (kf : ¬ x = 0 → VL X (pc + 3) L st μ) : VL X pc L (.int x :: st) μ := fun ls H locs hm hP hS => lv_if_eq hX.1 hX.2.1 hd ht (fun h => kt h ls H locs hm hP hS) (fun h => kf h ls H locs hm hP hS)
theorem u_icmp_eq (hX : Ok X cc own d) {x y : Int32} {o : Int} (t : Nat) (hd : decode cc pc = .ok (.if_icmp .eq o, 3)) (ht : (pc : Int) + o = (t : Int)) (kt : x = y → VL X t L st μ) (kf : ¬ x = y → VL X (pc + 3) L st μ) : VL X pc L (.int y :: .int x :: st) μ := fun ls H locs hm hP hS => lv_icmp_eq hX.1 hX.2.1 hd ht (fun h => kt h ls H locs hm hP hS) (fun h => kf h ls H locs hm hP hS)
theorem u_icmp_gt (hX : Ok X cc own d) {x y : Int32} {o : Int} (t : Nat) (hd : decode cc pc = .ok (.if_icmp .gt o, 3)) (ht : (pc : Int) + o = (t : Int)) (kt : y < x → VL X t L st μ) (kf : ¬ y < x → VL X (pc + 3) L st μ) : VL X pc L (.int y :: .int x :: st) μ := fun ls H locs hm hP hS => lv_icmp_gt hX.1 hX.2.1 hd ht (fun h => kt h ls H locs hm hP hS) (fun h => kf h ls H locs hm hP hS)
theorem u_tableIn (hX : Ok X cc own d) {df lo hi : Int} {os : Array Int} {len : Nat} {x : Int32} {o : Int} (t : Nat) (hd : decode cc pc = .ok (.tableswitch df lo hi os, len)) (h1 : ¬ x.toInt < lo) (h2 : ¬ hi < x.toInt) (ho : os[(x.toInt - lo).toNat]? = some o) (ht : (pc : Int) + o = (t : Int)) (k : VL X t L st μ) : VL X pc L (.int x :: st) μ := fun ls H locs hm hP hS => lv_tableIn hX.1 hX.2.1 hd h1 h2 ho ht (k ls H locs hm hP hS)
theorem u_tableOut (hX : Ok X cc own d) {df lo hi : Int} {os : Array Int} {len : Nat} {x : Int32} (t : Nat) (hd : decode cc pc = .ok (.tableswitch df lo hi os, len)) (h : x.toInt < lo ∨ hi < x.toInt) (ht : (pc : Int) + df = (t : Int)) (k : VL X t L st μ) : VL X pc L (.int x :: st) μ := fun ls H locs hm hP hS => lv_tableOut hX.1 hX.2.1 hd h ht (k ls H locs hm hP hS)
theorem va_callQL {p : Program} {l : Launch} {e : Env} {R : Room} {s : State} {m : MethodId} {args : Array Value} {below : List Frame} {meth : Method} {c : Code} {H : Heap} {locs : List Loc} {cells slots : Nat} {Q : State → Prop} {ls : Array Slot} {rest st0 : List Value} {a : Array Value} {A0 : Nat → Prop} {D : va_G} {K : K3} {ad : Nat → Nat} {P : Post}
    (hr : va_Run p l e R s m args below meth c H locs cells slots 0 0 (F0 m pc ls st0) rest (QQ D K ad P a) (inW ad)) (hS : va_S A0 s.heap H locs) (hA : ∀ q, inW ad q → A0 q)
    (kk : ∀ (r : Option Value) (μ' : Mem) (H1 : Heap) (locs1 : List Loc), P r μ' → va_P D vwCl (wd ad K μ') H1 → va_S A0 s.heap H1 locs1 → W p l e R s m args below meth c H1 locs1 cells slots Q (F0 m (pc + 3) ls ((r.map (tr ad)).toList ++ rest))) : W p l e R s m args below meth c H locs cells slots Q (F0 m pc ls st0) := by
  intro T hT Y
  obtain ⟨v, st₀, t, T', L, h0, Y', hL, e1, e2, ⟨⟨r, u, hv, hp, hb⟩, hz, hk⟩, sg⟩ := hr T hT Y
  cases hv
  rw [h0] at hz hk
  obtain ⟨t2, a1, b1⟩ := kk r u T'.heap (locs ++ L) hp (by rw [e1]; exact hb)
    ⟨Nat.le_trans hS.1 (by rw [e1]; exact hz), fun q h1 h2 => by rw [e1, hk q (Nat.lt_of_lt_of_le h1 hS.1) (fun z => h2 (hA q z))]; exact hS.2.1 q h1 h2, fun q hq => by
      rcases List.mem_append.mp hq with h | h
      · exact hS.2.2 q h
      · exact hA _ (hL q h)⟩ T' rfl Y'
  exact ⟨t2, sg t2 a1, b1⟩
theorem u_callV (hX : Ok X cc own d) (hroom : 600000 ≤ (xR X).cells ∧ 7302250 ≤ (xR X).slots) {y : MethodName} {bytes : ByteArray} {maxL d' idx n ci N c : Nat} {S : Tr} (hsp : Sp y bytes maxL ret d' S) (hc : Cond.code y bytes maxL ret ∈ tw) (hm1 : ML own idx y n) (hm2 : MV ci y) (hs : shp c = (ci + 3, N)) (hN : 0 < N) (hR : d' < d ∧ maxL ≤ 21) (As rest : List Value) (hn : As.length = n) (hst : st = As.reverse ++ .ref c :: rest) (hcat : (rest.map fun v => v.category).sum ≤ 8) (hd : decode cc pc = .ok (.invokevirtual idx, 3))
    (hS : S (.ref c :: As) μ (fun r μ' => VL X (pc + 3) L (r.toList ++ rest) μ')) : VL X pc L st μ := fun ls H locs hm hP hSS => by
  subst hst
  obtain ⟨ml, mi, md⟩ := hm1
  obtain ⟨vi, vs, T, N', vC⟩ := hm2
  have hM := hsp (xl X) (xD X) (xK X) (xd X) (xz X) (.ref c :: As) μ _ hS
  have hGw : GoodIn tw (wsV own idx y.cls y (wA y bytes maxL ret)) := by
    intro w hw
    rcases List.mem_append.mp hw with hw | hw
    · have : w ∈ tw := by
        rcases List.mem_cons.mp hw with rfl | hw
        · exact ml
        rcases List.mem_cons.mp hw with rfl | hw
        · exact vi
        rcases List.mem_cons.mp hw with rfl | hw
        · exact vs
        rcases List.mem_cons.mp hw with rfl | hw
        · exact mi
        · cases hw
      exact ⟨this, tw_good this⟩
    · exact wA_good hc w hw
  refine va_callQL (rest := rest.map (tr (xd X))) (va_runV (cc := cc) (nL := xn X) (Ts := tw) (own := own) (C := y.cls) (b := xd X c) (As := As.map (tr (xd X))) ⟨hX.1, hX.2.1, hX.2.2.1, hX.2.2.2.1, hX.2.2.2.2.1⟩ hM (cwV n hX.2.2.2.2.1 hGw rfl rfl rfl ⟨rfl, md.1, md.2.1, md.2.2⟩ ⟨?_, ?_⟩) ⟨pc_blind, ?_, ?_⟩ rfl (by rw [List.length_map]; exact hn) hm.1.1 ?_ (lv_room (by rw [cat_sum]; exact hcat)) hd ⟨hroom.1, hroom.2⟩) hSS (wd_A hX.2.2.2.2.2.2.1) ?_
  · show d' + 1 ≤ _
    have := hX.2.2.2.2.2.2.2.2.1
    omega
  · show 8 + (maxL + 11) + 40 * d' ≤ _
    have := hX.2.2.2.2.2.2.2.2.2
    omega
  · exact va_recv hX.2.2.2.2.2.1.1 hP vC ((wd_at (shp_lt hs hN)).trans (by rw [cell_obj hs]))
  · exact fun U hU hW => pc_call (z := xz X) (av := .ref c :: As) hX hP hSS U hU hW
  · simp [tr]
  · intro r μ' H1 locs1 hk hP1 hS1
    have h := hk ls H1 locs1 hm hP1 hS1
    cases r <;> simpa using h
theorem u_lcmp (hX : Ok X cc own d) {x y : Int64} (hd : decode cc pc = .ok (.lcmp, 1)) (k : VL X (pc + 1) L (.int (lg_cmp x y) :: st) μ) : VL X pc L (.long y :: .long x :: st) μ := fun ls H locs hm hP hS => W.lcmp hX.1 hX.2.1 hd (k ls H locs hm hP hS)
/-- the law's frame -/
def LwX (X : XT) (b Ln : Nat) (xv : Nat → Int32) : Prop := Ok X cL_law RL 100 ∧ xn X = 4 ∧ xd X 95 = b ∧ va_X b Ln xv (xs X) (xs X).heap ∧ b < (xs X).heap.size ∧ ¬ xA X b ∧ xR X = room_1 ∧ (xh X).sig.returnType = ret_law ∧ xa X = #[Value.ref b] ∧ xQ X = lw_Z (xb X) #[Value.ref b] (xs X) ∧ ∀ q, xA X q → (xs X).heap.size ≤ q
variable {b Ln : Nat} {xv : Nat → Int32}
theorem u_slen (hL : LwX X b Ln xv) (hd : decode cL_law pc = .ok (.arraylength, 1)) (k : VL X (pc + 1) L (.int (Int32.ofNat Ln) :: st) μ) : VL X pc L (.ref 95 :: st) μ := fun ls H locs hm hP hS => by
  have h := va_slen (b := b) (L := Ln) (xs := xv) hL.1.1 hL.1.2.1 hL.2.2.2.1 hL.2.2.2.2.1 hL.2.2.2.2.2.1 hS hd (k ls H locs hm hP hS)
  have e : (Value.ref 95 :: st).map (tr (xd X)) = .ref b :: st.map (tr (xd X)) := by
    show Value.ref (xd X 95) :: _ = _
    rw [hL.2.2.1]
  rw [e]; exact h
theorem u_sld (hL : LwX X b Ln xv) {i : Int32} (hin : vp_in i Ln) (hd : decode cL_law pc = .ok (.iaload, 1)) (k : VL X (pc + 1) L (.int (xv i.toNatClampNeg) :: st) μ) : VL X pc L (.int i :: .ref 95 :: st) μ := fun ls H locs hm hP hS => by
  have h := va_sld (b := b) (L := Ln) (xs := xv) hL.1.1 hL.1.2.1 hL.2.2.2.1 hL.2.2.2.2.1 hL.2.2.2.2.2.1 hS hin hd (k ls H locs hm hP hS)
  have e : (Value.int i :: .ref 95 :: st).map (tr (xd X)) = .int i :: .ref b :: st.map (tr (xd X)) := by
    show Value.int i :: Value.ref (xd X 95) :: _ = _
    rw [hL.2.2.1]
  rw [e]; exact h
theorem u_ret (hL : LwX X b Ln xv) (hd : decode cL_law pc = .ok (.ireturn, 1)) : VL X pc L [.int 1] μ := fun ls H locs hm hP hS => by
  obtain ⟨hX, _, _, _, _, _, hR, hr, ha, hQ, hA⟩ := hL
  rw [hR, ha, hQ]
  refine va_forget (fun q hq => hA _ (hS.2.2 q hq)) ?_
  exact lw_ret hX.1 hX.2.1 hr hX.2.2.2.2.2.2.2.1 hd
theorem room_ok (hL : LwX X b Ln xv) : 600000 ≤ (xR X).cells ∧ 7302250 ≤ (xR X).slots := by
  rw [hL.2.2.2.2.2.2.1]; decide
end ULAW

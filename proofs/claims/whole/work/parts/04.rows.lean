section VROWS
variable {X : XT} {cc : ByteArray} {own : String} {d pc : Nat} {L : List (Option Value)} {st : List Value} {μ : Mem}
theorem v_iconst (hX : Ok X cc own d) {n : Int} (v : Int32) (hd : decode cc pc = .ok (.iconst n, 1)) (hv : Int32.ofInt n = v) (k : V X (pc + 1) L (.int v :: st) μ) : V X pc L st μ := fun ls H locs hm hP hS => lv_iconst hX.1 hX.2.1 hd hv (k ls H locs hm hP hS)
theorem v_bipush (hX : Ok X cc own d) {n : Int} (v : Int32) (hd : decode cc pc = .ok (.bipush n, 2)) (hv : (Int8.ofInt n).toInt32 = v) (k : V X (pc + 2) L (.int v :: st) μ) : V X pc L st μ := fun ls H locs hm hP hS => lv_bipush hX.1 hX.2.1 hd hv (k ls H locs hm hP hS)
theorem v_sipush (hX : Ok X cc own d) {n : Int} (v : Int32) (hd : decode cc pc = .ok (.sipush n, 3)) (hv : (Int16.ofInt n).toInt32 = v) (k : V X (pc + 3) L (.int v :: st) μ) : V X pc L st μ := fun ls H locs hm hP hS => lv_sipush hX.1 hX.2.1 hd hv (k ls H locs hm hP hS)
theorem v_lconst (hX : Ok X cc own d) {n : Fin 2} (v : Int64) (hd : decode cc pc = .ok (.lconst n, 1)) (hv : Int64.ofNat (n : Nat) = v) (k : V X (pc + 1) L (.long v :: st) μ) : V X pc L st μ := fun ls H locs hm hP hS => lv_lconst hX.1 hX.2.1 hd hv (k ls H locs hm hP hS)
theorem v_ldc (hX : Ok X cc own d) {i : Nat} (v : Int32) (hd : decode cc pc = .ok (.ldc i, 2)) (hw : Cond.constant own i v ∈ tw) (k : V X (pc + 2) L (.int v :: st) μ) : V X pc L st μ := fun ls H locs hm hP hS => lv_ldc hX.1 hX.2.1 hX.2.2.2.1 (hX.2.2.2.2.1 _ hw) hd (k ls H locs hm hP hS)
theorem v_ldcw (hX : Ok X cc own d) {i : Nat} (v : Int32) (hd : decode cc pc = .ok (.ldc_w i, 3)) (hw : Cond.constant own i v ∈ tw) (k : V X (pc + 3) L (.int v :: st) μ) : V X pc L st μ := fun ls H locs hm hP hS => lv_ldcw hX.1 hX.2.1 hX.2.2.2.1 (hX.2.2.2.2.1 _ hw) hd (k ls H locs hm hP hS)
theorem v_ldc2 (hX : Ok X cc own d) {i : Nat} (v : Int64) (hd : decode cc pc = .ok (.ldc2_w i, 3)) (hw : Cond.constantLong own i v ∈ tw) (k : V X (pc + 3) L (.long v :: st) μ) : V X pc L st μ := fun ls H locs hm hP hS => lv_ldc2 hX.1 hX.2.1 hX.2.2.2.1 (hX.2.2.2.2.1 _ hw) hd (k ls H locs hm hP hS)
theorem v_iload_n (hX : Ok X cc own d) {i : Fin 4} {x : Int32} (hd : decode cc pc = .ok (.iload_n i, 1)) (hl : L[(i : Nat)]? = some (some (.int x))) (k : V X (pc + 1) L (.int x :: st) μ) : V X pc L st μ := fun ls H locs hm hP hS => lv_iload_n hX.1 hX.2.1 hd rfl (hm.2 _ _ hl).2 (k ls H locs hm hP hS)
theorem v_iload (hX : Ok X cc own d) {i : Nat} {x : Int32} (hd : decode cc pc = .ok (.iload i, 2)) (hl : L[i]? = some (some (.int x))) (k : V X (pc + 2) L (.int x :: st) μ) : V X pc L st μ := fun ls H locs hm hP hS => lv_iload hX.1 hX.2.1 hd (hm.2 _ _ hl).2 (k ls H locs hm hP hS)
theorem v_aload_n (hX : Ok X cc own d) {i : Fin 4} {x : Nat} (hd : decode cc pc = .ok (.aload_n i, 1)) (hl : L[(i : Nat)]? = some (some (.ref x))) (k : V X (pc + 1) L (.ref x :: st) μ) : V X pc L st μ := fun ls H locs hm hP hS => lv_aload_n hX.1 hX.2.1 hd rfl (hm.2 _ _ hl).2 (k ls H locs hm hP hS)
theorem v_istore_n (hX : Ok X cc own d) {i : Fin 4} {x : Int32} (hd : decode cc pc = .ok (.istore_n i, 1)) (hn : (i : Nat) < xn X) (k : V X (pc + 1) (L.set i (some (.int x))) st μ) : V X pc L (.int x :: st) μ := fun ls H locs hm hP hS => by
  obtain ⟨lv, h1, h2, h3⟩ := lm_list hm
  exact lv_istore_n hX.1 hX.2.1 hd rfl h1 hn rfl (fun ls' h' => k ls' H locs (lm_set (v := .int x) rfl h2 (fun j w hj => ⟨(hm.2 j w hj).1, h3 j w hj⟩) h') hP hS)
theorem v_istore (hX : Ok X cc own d) {i : Nat} {x : Int32} (hd : decode cc pc = .ok (.istore i, 2)) (hn : i < xn X) (k : V X (pc + 2) (L.set i (some (.int x))) st μ) : V X pc L (.int x :: st) μ := fun ls H locs hm hP hS => by
  obtain ⟨lv, h1, h2, h3⟩ := lm_list hm
  exact lv_istore hX.1 hX.2.1 hd h1 hn rfl (fun ls' h' => k ls' H locs (lm_set (v := .int x) rfl h2 (fun j w hj => ⟨(hm.2 j w hj).1, h3 j w hj⟩) h') hP hS)
theorem v_astore_n (hX : Ok X cc own d) {i : Fin 4} {x : Nat} (hd : decode cc pc = .ok (.astore_n i, 1)) (hn : (i : Nat) < xn X) (k : V X (pc + 1) (L.set i (some (.ref x))) st μ) : V X pc L (.ref x :: st) μ := fun ls H locs hm hP hS => by
  obtain ⟨lv, h1, h2, h3⟩ := lm_list hm
  exact lv_astore_n hX.1 hX.2.1 hd rfl h1 hn rfl (fun ls' h' => k ls' H locs (lm_set (v := .ref x) rfl h2 (fun j w hj => ⟨(hm.2 j w hj).1, h3 j w hj⟩) h') hP hS)
theorem v_iinc (hX : Ok X cc own d) {i : Nat} {n : Int} {x : Int32} (v : Int32) (hd : decode cc pc = .ok (.iinc i n, 3)) (hn : i < xn X) (hl : L[i]? = some (some (.int x))) (hv : Int32.ofInt n = v) (k : V X (pc + 3) (L.set i (some (.int (x + v)))) st μ) : V X pc L st μ := fun ls H locs hm hP hS => by
  obtain ⟨lv, h1, h2, h3⟩ := lm_list hm
  obtain ⟨q, hq⟩ := List.mem_iff_getElem?.mp (h3 i _ hl)
  exact lv_iinc hX.1 hX.2.1 hd h1 hq (by rw [hv]) hn rfl (fun ls' h' => k ls' H locs (lm_set (v := .int (x + v)) rfl h2 (fun j w hj => ⟨(hm.2 j w hj).1, h3 j w hj⟩) h') hP hS)
theorem v_iadd (hX : Ok X cc own d) {x y : Int32} (hd : decode cc pc = .ok (.iadd, 1)) (k : V X (pc + 1) L (.int (x + y) :: st) μ) : V X pc L (.int y :: .int x :: st) μ := fun ls H locs hm hP hS => lv_iadd hX.1 hX.2.1 hd (k ls H locs hm hP hS)
theorem v_isub (hX : Ok X cc own d) {x y : Int32} (hd : decode cc pc = .ok (.isub, 1)) (k : V X (pc + 1) L (.int (x - y) :: st) μ) : V X pc L (.int y :: .int x :: st) μ := fun ls H locs hm hP hS => lv_isub hX.1 hX.2.1 hd (k ls H locs hm hP hS)
theorem v_imul (hX : Ok X cc own d) {x y : Int32} (hd : decode cc pc = .ok (.imul, 1)) (k : V X (pc + 1) L (.int (x * y) :: st) μ) : V X pc L (.int y :: .int x :: st) μ := fun ls H locs hm hP hS => lv_imul hX.1 hX.2.1 hd (k ls H locs hm hP hS)
theorem v_iand (hX : Ok X cc own d) {x y : Int32} (hd : decode cc pc = .ok (.iand, 1)) (k : V X (pc + 1) L (.int (x &&& y) :: st) μ) : V X pc L (.int y :: .int x :: st) μ := fun ls H locs hm hP hS => lv_iand hX.1 hX.2.1 hd (k ls H locs hm hP hS)
theorem v_ior (hX : Ok X cc own d) {x y : Int32} (hd : decode cc pc = .ok (.ior, 1)) (k : V X (pc + 1) L (.int (x ||| y) :: st) μ) : V X pc L (.int y :: .int x :: st) μ := fun ls H locs hm hP hS => lv_ior hX.1 hX.2.1 hd (k ls H locs hm hP hS)
theorem v_ixor (hX : Ok X cc own d) {x y : Int32} (hd : decode cc pc = .ok (.ixor, 1)) (k : V X (pc + 1) L (.int (x ^^^ y) :: st) μ) : V X pc L (.int y :: .int x :: st) μ := fun ls H locs hm hP hS => lv_ixor hX.1 hX.2.1 hd (k ls H locs hm hP hS)
theorem v_ishl (hX : Ok X cc own d) {x y : Int32} (hd : decode cc pc = .ok (.ishl, 1)) (k : V X (pc + 1) L (.int (x <<< (y &&& 31)) :: st) μ) : V X pc L (.int y :: .int x :: st) μ := fun ls H locs hm hP hS => lv_ishl hX.1 hX.2.1 hd (k ls H locs hm hP hS)
theorem v_ishr (hX : Ok X cc own d) {x y : Int32} (hd : decode cc pc = .ok (.ishr, 1)) (k : V X (pc + 1) L (.int (x >>> (y &&& 31)) :: st) μ) : V X pc L (.int y :: .int x :: st) μ := fun ls H locs hm hP hS => lv_ishr hX.1 hX.2.1 hd (k ls H locs hm hP hS)
theorem v_idiv (hX : Ok X cc own d) {x y : Int32} (hd : decode cc pc = .ok (.idiv, 1)) (hne : ¬ y = 0) (k : V X (pc + 1) L (.int (x / y) :: st) μ) : V X pc L (.int y :: .int x :: st) μ := fun ls H locs hm hP hS => lv_idiv hX.1 hX.2.1 hd hne (k ls H locs hm hP hS)
theorem v_irem (hX : Ok X cc own d) {x y : Int32} (hd : decode cc pc = .ok (.irem, 1)) (hne : ¬ y = 0) (k : V X (pc + 1) L (.int (x - x / y * y) :: st) μ) : V X pc L (.int y :: .int x :: st) μ := fun ls H locs hm hP hS => lv_irem hX.1 hX.2.1 hd hne (k ls H locs hm hP hS)
theorem v_ineg (hX : Ok X cc own d) {x : Int32} (hd : decode cc pc = .ok (.ineg, 1)) (k : V X (pc + 1) L (.int (-x) :: st) μ) : V X pc L (.int x :: st) μ := fun ls H locs hm hP hS => lv_ineg hX.1 hX.2.1 hd (k ls H locs hm hP hS)
theorem v_iushr (hX : Ok X cc own d) {x y : Int32} (hd : decode cc pc = .ok (.iushr, 1)) (k : V X (pc + 1) L (.int ((x.toUInt32 >>> (y.toUInt32 &&& Int32.toUInt32 31)).toInt32) :: st) μ) : V X pc L (.int y :: .int x :: st) μ := fun ls H locs hm hP hS => lv_iushr hX.1 hX.2.1 hd rfl (k ls H locs hm hP hS)
theorem v_ladd (hX : Ok X cc own d) {x y : Int64} (hd : decode cc pc = .ok (.ladd, 1)) (k : V X (pc + 1) L (.long (x + y) :: st) μ) : V X pc L (.long y :: .long x :: st) μ := fun ls H locs hm hP hS => lv_ladd hX.1 hX.2.1 hd (k ls H locs hm hP hS)
theorem v_i2l (hX : Ok X cc own d) {x : Int32} (hd : decode cc pc = .ok (.i2l, 1)) (k : V X (pc + 1) L (.long x.toInt64 :: st) μ) : V X pc L (.int x :: st) μ := fun ls H locs hm hP hS => lv_i2l hX.1 hX.2.1 hd rfl (k ls H locs hm hP hS)
theorem v_dup (hX : Ok X cc own d) {v : Value} (hd : decode cc pc = .ok (.dup, 1)) (hv : v.category = 1) (k : V X (pc + 1) L (v :: v :: st) μ) : V X pc L (v :: st) μ := fun ls H locs hm hP hS => lv_dup hX.1 hX.2.1 hd (by rw [tr_cat]; exact hv) (k ls H locs hm hP hS)
theorem v_dup2 (hX : Ok X cc own d) {v w : Value} (hd : decode cc pc = .ok (.dup2, 1)) (hv : v.category = 1) (hw : w.category = 1) (k : V X (pc + 1) L (v :: w :: v :: w :: st) μ) : V X pc L (v :: w :: st) μ := fun ls H locs hm hP hS => lv_dup2_11 hX.1 hX.2.1 hd (by rw [tr_cat]; exact hv) (by rw [tr_cat]; exact hw) (k ls H locs hm hP hS)
theorem v_pop (hX : Ok X cc own d) {v : Value} (hd : decode cc pc = .ok (.pop, 1)) (hv : v.category = 1) (k : V X (pc + 1) L st μ) : V X pc L (v :: st) μ := fun ls H locs hm hP hS => lv_pop hX.1 hX.2.1 hd (by rw [tr_cat]; exact hv) (k ls H locs hm hP hS)
theorem v_goto (hX : Ok X cc own d) {o : Int} (t : Nat) (hd : decode cc pc = .ok (.goto o, 3)) (ht : (pc : Int) + o = (t : Int)) (k : V X t L st μ) : V X pc L st μ := fun ls H locs hm hP hS => lv_goto hX.1 hX.2.1 hd ht (k ls H locs hm hP hS)
theorem v_if_eq (hX : Ok X cc own d) {x : Int32} {o : Int} (t : Nat) (hd : decode cc pc = .ok (.ifCond .eq o, 3)) (ht : (pc : Int) + o = (t : Int)) (kt : x = 0 → V X t L st μ) (kf : ¬ x = 0 → V X (pc + 3) L st μ) : V X pc L (.int x :: st) μ := fun ls H locs hm hP hS => lv_if_eq hX.1 hX.2.1 hd ht (fun h => kt h ls H locs hm hP hS) (fun h => kf h ls H locs hm hP hS)
theorem v_if_ne (hX : Ok X cc own d) {x : Int32} {o : Int} (t : Nat) (hd : decode cc pc = .ok (.ifCond .ne o, 3)) (ht : (pc : Int) + o = (t : Int)) (kt : ¬ x = 0 → V X t L st μ) (kf : x = 0 → V X (pc + 3) L st μ) : V X pc L (.int x :: st) μ := fun ls H locs hm hP hS => lv_if_ne hX.1 hX.2.1 hd ht (fun h => kt h ls H locs hm hP hS) (fun h => kf h ls H locs hm hP hS)
theorem v_if_lt (hX : Ok X cc own d) {x : Int32} {o : Int} (t : Nat) (hd : decode cc pc = .ok (.ifCond .lt o, 3)) (ht : (pc : Int) + o = (t : Int)) (kt : x < 0 → V X t L st μ) (kf : ¬ x < 0 → V X (pc + 3) L st μ) : V X pc L (.int x :: st) μ := fun ls H locs hm hP hS => lv_if_lt hX.1 hX.2.1 hd ht (fun h => kt h ls H locs hm hP hS) (fun h => kf h ls H locs hm hP hS)
theorem v_if_ge (hX : Ok X cc own d) {x : Int32} {o : Int} (t : Nat) (hd : decode cc pc = .ok (.ifCond .ge o, 3)) (ht : (pc : Int) + o = (t : Int)) (kt : 0 ≤ x → V X t L st μ) (kf : ¬ 0 ≤ x → V X (pc + 3) L st μ) : V X pc L (.int x :: st) μ := fun ls H locs hm hP hS => lv_if_ge hX.1 hX.2.1 hd ht (fun h => kt h ls H locs hm hP hS) (fun h => kf h ls H locs hm hP hS)
theorem v_if_gt (hX : Ok X cc own d) {x : Int32} {o : Int} (t : Nat) (hd : decode cc pc = .ok (.ifCond .gt o, 3)) (ht : (pc : Int) + o = (t : Int)) (kt : 0 < x → V X t L st μ) (kf : ¬ 0 < x → V X (pc + 3) L st μ) : V X pc L (.int x :: st) μ := fun ls H locs hm hP hS => lv_if_gt hX.1 hX.2.1 hd ht (fun h => kt h ls H locs hm hP hS) (fun h => kf h ls H locs hm hP hS)
theorem v_if_le (hX : Ok X cc own d) {x : Int32} {o : Int} (t : Nat) (hd : decode cc pc = .ok (.ifCond .le o, 3)) (ht : (pc : Int) + o = (t : Int)) (kt : x ≤ 0 → V X t L st μ) (kf : ¬ x ≤ 0 → V X (pc + 3) L st μ) : V X pc L (.int x :: st) μ := fun ls H locs hm hP hS => lv_if_le hX.1 hX.2.1 hd ht (fun h => kt h ls H locs hm hP hS) (fun h => kf h ls H locs hm hP hS)
theorem v_icmp_eq (hX : Ok X cc own d) {x y : Int32} {o : Int} (t : Nat) (hd : decode cc pc = .ok (.if_icmp .eq o, 3)) (ht : (pc : Int) + o = (t : Int)) (kt : x = y → V X t L st μ) (kf : ¬ x = y → V X (pc + 3) L st μ) : V X pc L (.int y :: .int x :: st) μ := fun ls H locs hm hP hS => lv_icmp_eq hX.1 hX.2.1 hd ht (fun h => kt h ls H locs hm hP hS) (fun h => kf h ls H locs hm hP hS)
theorem v_icmp_ne (hX : Ok X cc own d) {x y : Int32} {o : Int} (t : Nat) (hd : decode cc pc = .ok (.if_icmp .ne o, 3)) (ht : (pc : Int) + o = (t : Int)) (kt : ¬ x = y → V X t L st μ) (kf : x = y → V X (pc + 3) L st μ) : V X pc L (.int y :: .int x :: st) μ := fun ls H locs hm hP hS => lv_icmp_ne hX.1 hX.2.1 hd ht (fun h => kt h ls H locs hm hP hS) (fun h => kf h ls H locs hm hP hS)
theorem v_icmp_lt (hX : Ok X cc own d) {x y : Int32} {o : Int} (t : Nat) (hd : decode cc pc = .ok (.if_icmp .lt o, 3)) (ht : (pc : Int) + o = (t : Int)) (kt : x < y → V X t L st μ) (kf : ¬ x < y → V X (pc + 3) L st μ) : V X pc L (.int y :: .int x :: st) μ := fun ls H locs hm hP hS => lv_icmp_lt hX.1 hX.2.1 hd ht (fun h => kt h ls H locs hm hP hS) (fun h => kf h ls H locs hm hP hS)
theorem v_icmp_ge (hX : Ok X cc own d) {x y : Int32} {o : Int} (t : Nat) (hd : decode cc pc = .ok (.if_icmp .ge o, 3)) (ht : (pc : Int) + o = (t : Int)) (kt : y ≤ x → V X t L st μ) (kf : ¬ y ≤ x → V X (pc + 3) L st μ) : V X pc L (.int y :: .int x :: st) μ := fun ls H locs hm hP hS => lv_icmp_ge hX.1 hX.2.1 hd ht (fun h => kt h ls H locs hm hP hS) (fun h => kf h ls H locs hm hP hS)
theorem v_icmp_gt (hX : Ok X cc own d) {x y : Int32} {o : Int} (t : Nat) (hd : decode cc pc = .ok (.if_icmp .gt o, 3)) (ht : (pc : Int) + o = (t : Int)) (kt : y < x → V X t L st μ) (kf : ¬ y < x → V X (pc + 3) L st μ) : V X pc L (.int y :: .int x :: st) μ := fun ls H locs hm hP hS => lv_icmp_gt hX.1 hX.2.1 hd ht (fun h => kt h ls H locs hm hP hS) (fun h => kf h ls H locs hm hP hS)
theorem v_icmp_le (hX : Ok X cc own d) {x y : Int32} {o : Int} (t : Nat) (hd : decode cc pc = .ok (.if_icmp .le o, 3)) (ht : (pc : Int) + o = (t : Int)) (kt : x ≤ y → V X t L st μ) (kf : ¬ x ≤ y → V X (pc + 3) L st μ) : V X pc L (.int y :: .int x :: st) μ := fun ls H locs hm hP hS => lv_icmp_le hX.1 hX.2.1 hd ht (fun h => kt h ls H locs hm hP hS) (fun h => kf h ls H locs hm hP hS)
theorem v_tableIn (hX : Ok X cc own d) {df lo hi : Int} {os : Array Int} {len : Nat} {x : Int32} {o : Int} (t : Nat) (hd : decode cc pc = .ok (.tableswitch df lo hi os, len)) (h1 : ¬ x.toInt < lo) (h2 : ¬ hi < x.toInt) (ho : os[(x.toInt - lo).toNat]? = some o) (ht : (pc : Int) + o = (t : Int)) (k : V X t L st μ) : V X pc L (.int x :: st) μ := fun ls H locs hm hP hS => lv_tableIn hX.1 hX.2.1 hd h1 h2 ho ht (k ls H locs hm hP hS)
theorem v_tableOut (hX : Ok X cc own d) {df lo hi : Int} {os : Array Int} {len : Nat} {x : Int32} (t : Nat) (hd : decode cc pc = .ok (.tableswitch df lo hi os, len)) (h : x.toInt < lo ∨ hi < x.toInt) (ht : (pc : Int) + df = (t : Int)) (k : V X t L st μ) : V X pc L (.int x :: st) μ := fun ls H locs hm hP hS => lv_tableOut hX.1 hX.2.1 hd h ht (k ls H locs hm hP hS)
theorem v_lookup (hX : Ok X cc own d) {df : Int} {ps : Array (Int × Int)} {len : Nat} {x : Int32} {o : Int} (t : Nat) (hd : decode cc pc = .ok (.lookupswitch df ps, len)) (hp : (ps.toList.zip (ps.toList.drop 1)).all (fun (a, next) => a.1 < next.1) = true) (ho : Op.lookupswitch.offset ps.toList df x.toInt = o) (ht : (pc : Int) + o = (t : Int)) (k : V X t L st μ) : V X pc L (.int x :: st) μ := fun ls H locs hm hP hS => lv_lookup hX.1 hX.2.1 hd hp ho ht (k ls H locs hm hP hS)
/-- forget locals -/
theorem v_forget (L' : List (Option Value)) (h : ∀ (i : Nat) (v : Value), L'[i]? = some (some v) → L[i]? = some (some v)) (k : V X pc L' st μ) : V X pc L st μ := fun ls H locs hm hP hS => k ls H locs ⟨hm.1, fun i v hi => hm.2 i v (h i v hi)⟩ hP hS
end VROWS
/-- what a field's link says: own class and place in its pool, class and place of the field, how many fields -/
def FL (own : String) (idx ci k N : Nat) : Prop := ∃ (C : String) (T : u_T) (ty0 : Nat → FieldType), vwCl[ci]? = some (C, T, N) ∧ k < N ∧ Cond.fieldLink own idx (T k).1 (T k).2.1 (T k).2.2.1 ∈ tw ∧ (∀ w ∈ u_ws C T N, w ∈ tw) ∧ (∀ j, j < N → parseFieldDescriptor (T j).2.2.1 = some (ty0 j)) ∧ (∀ a, a < N → ∀ b, b < N → a ≠ b → (T a).2.1 ≠ (T b).2.1)
/-- such a field may be written: not final, of the type ty -/
def FW (ci k : Nat) (ty : FieldType) : Prop := ∀ (C : String) (T : u_T) (N : Nat), vwCl[ci]? = some (C, T, N) → (T k).2.2.2 = false ∧ parseFieldDescriptor (T k).2.2.1 = some ty
section VMEM
variable {X : XT} {cc : ByteArray} {own : String} {d pc : Nat} {L : List (Option Value)} {st : List Value} {μ : Mem}
theorem v_get (hX : Ok X cc own d) {c ci k N idx : Nat} (hf : FL own idx ci k N) (hs : shp c = (ci + 3, N)) (hd : decode cc pc = .ok (.getfield idx, 3)) (kk : V X (pc + 3) L (fldA μ ci c k :: st) μ) : V X pc L (.ref c :: st) μ := fun ls H locs hm hP hS => by
  obtain ⟨C, T, ty0, h1, h2, h3, h4, h5, h6⟩ := hf
  exact va_get (v := tr (xd X) (fldA μ ci c k)) hX.1 hX.2.1 hX.2.2.2.2.1 h4 hX.2.2.2.1 hX.2.2.2.2.2.1.1 hP c ((wd_at (shp_lt hs (by omega))).trans (by rw [cell_obj hs])) h1 k h2 (hX.2.2.2.2.1 _ h3) (fun _ h9 => h9) (by simp [h2]) hd (kk ls H locs hm hP hS)
theorem v_geti (hX : Ok X cc own d) {c ci k N idx : Nat} (hf : FL own idx ci k N) (hs : shp c = (ci + 3, N)) (hk : knd ci k = 0) (hd : decode cc pc = .ok (.getfield idx, 3)) (kk : V X (pc + 3) L (.int (gi μ c k) :: st) μ) : V X pc L (.ref c :: st) μ := v_get hX hf hs hd (by rw [fldA, hk]; exact kk)
theorem v_getz (hX : Ok X cc own d) {c ci k N idx : Nat} (hf : FL own idx ci k N) (hs : shp c = (ci + 3, N)) (hk : knd ci k = 4) (hd : decode cc pc = .ok (.getfield idx, 3)) (kk : V X (pc + 3) L (.int (gi μ c k) :: st) μ) : V X pc L (.ref c :: st) μ := v_get hX hf hs hd (by rw [fldA, hk]; exact kk)
theorem v_getl (hX : Ok X cc own d) {c ci k N idx : Nat} (hf : FL own idx ci k N) (hs : shp c = (ci + 3, N)) (hk : knd ci k = 1) (hd : decode cc pc = .ok (.getfield idx, 3)) (kk : V X (pc + 3) L (.long (gl μ c k) :: st) μ) : V X pc L (.ref c :: st) μ := v_get hX hf hs hd (by rw [fldA, hk]; exact kk)
theorem v_getr (hX : Ok X cc own d) {c ci k N idx : Nat} (c' : Nat) (hf : FL own idx ci k N) (hs : shp c = (ci + 3, N)) (hk : knd ci k = 2) (hc : c + off ci k = c') (hd : decode cc pc = .ok (.getfield idx, 3)) (kk : V X (pc + 3) L (.ref c' :: st) μ) : V X pc L (.ref c :: st) μ := v_get hX hf hs hd (by rw [fldA, hk, hc]; exact kk)
theorem v_getp (hX : Ok X cc own d) {c ci k N idx : Nat} (c' : Nat) (hf : FL own idx ci k N) (hs : shp c = (ci + 3, N)) (hk : knd ci k = 3) (hc : gp μ k = c') (hd : decode cc pc = .ok (.getfield idx, 3)) (kk : V X (pc + 3) L (.ref c' :: st) μ) : V X pc L (.ref c :: st) μ := v_get hX hf hs hd (by rw [fldA, hk, hc]; exact kk)
theorem v_put (hX : Ok X cc own d) {c ci k N idx : Nat} {v : Value} {μ' : Mem} {ty : FieldType} (hf : FL own idx ci k N) (hw : FW ci k ty) (hs : shp c = (ci + 3, N)) (hn : narrow ty (tr (xd X) v) = tr (xd X) v) (hfit : fits ty (tr (xd X) v) = true) (ho : ∀ e, e ≠ c → cellE (xd X) (xK X) μ' e = cellE (xd X) (xK X) μ e) (hv : ∀ j, fldA μ' ci c j = if j = k then v else fldA μ ci c j) (hd : decode cc pc = .ok (.putfield idx, 3)) (kk : V X (pc + 3) L st μ') : V X pc L (v :: .ref c :: st) μ := fun ls H locs hm hP hS => by
  obtain ⟨C, T, ty0, h1, h2, h3, h4, h5, h6⟩ := hf
  obtain ⟨h7, h8⟩ := hw C T N h1
  refine va_put (D := xD X) (v := tr (xd X) v) hX.1 hX.2.1 hX.2.2.2.2.1 h4 ty0 h5 h6 hX.2.2.2.1 hX.2.2.2.2.2.1.1 hP (wd_D hX.2.2.2.2.2.2.1) hS c ((wd_at (shp_lt hs (by omega))).trans (by rw [cell_obj hs])) h1 k h2 (hX.2.2.2.2.1 _ h3) (fun _ h9 => h9) h7 h8 hn hfit (by simp; exact h2) hd (fun H1 locs1 hP1 hD1 hS1 => ?_)
  refine kk ls H1 locs1 hm ?_ hS1
  rw [wd_set (μ' := μ') (shp_lt hs (by omega)) ?_ ho] at hP1
  · exact hP1
  · rw [cell_obj hs]
    refine congrArg (fun z => Sum.inr (ci, z)) (List.ext_getElem? fun i => ?_)
    rw [List.getElem?_set, List.getElem?_map, List.getElem?_map]
    by_cases hi : k = i
    · subst hi
      rw [if_pos rfl, if_pos (by simpa using h2), List.getElem?_range h2, Option.map_some, hv k, if_pos rfl]
    · rw [if_neg hi]
      rcases Nat.lt_or_ge i N with h9 | h9
      · rw [List.getElem?_range h9, Option.map_some, Option.map_some, hv i, if_neg (fun q => hi q.symm)]
      · rw [List.getElem?_eq_none (by simpa using h9)]; rfl
theorem fld_ui {μ : Mem} {ci c k : Nat} {v : Int32} (hk : knd ci k = 0 ∨ knd ci k = 4) (j : Nat) : fldA (ui μ c k v) ci c j = if j = k then .int v else fldA μ ci c j := by
  by_cases h : j = k
  · subst h
    rw [if_pos rfl]
    rcases hk with hk | hk <;> simp [fldA, hk, gi, ui]
  · rw [if_neg h]
    have h1 : gi (ui μ c k v) c j = gi μ c j := by simp [gi, ui, h]
    unfold fldA
    rw [h1]; rfl
theorem fld_ul {μ : Mem} {ci c k : Nat} {v : Int64} (hk : knd ci k = 1) (j : Nat) : fldA (ul μ c k v) ci c j = if j = k then .long v else fldA μ ci c j := by
  by_cases h : j = k
  · subst h
    rw [if_pos rfl]
    simp [fldA, hk, gl, ul]
  · rw [if_neg h]
    have h1 : gl (ul μ c k v) c j = gl μ c j := by simp [gl, ul, h]
    unfold fldA
    rw [h1]; rfl
theorem v_puti (hX : Ok X cc own d) {c ci k N idx : Nat} {v : Int32} (hf : FL own idx ci k N) (hw : FW ci k .int) (hs : shp c = (ci + 3, N)) (hk : knd ci k = 0) (hd : decode cc pc = .ok (.putfield idx, 3)) (kk : V X (pc + 3) L st (ui μ c k v)) : V X pc L (.int v :: .ref c :: st) μ := v_put hX hf hw hs rfl rfl (fun _ h => cell_ui h) (fld_ui (Or.inl hk)) hd kk
theorem v_putz (hX : Ok X cc own d) {c ci k N idx : Nat} {v : Int32} (hf : FL own idx ci k N) (hw : FW ci k .boolean) (hs : shp c = (ci + 3, N)) (hk : knd ci k = 4) (hv : v = 0 ∨ v = 1) (hd : decode cc pc = .ok (.putfield idx, 3)) (kk : V X (pc + 3) L st (ui μ c k v)) : V X pc L (.int v :: .ref c :: st) μ := v_put hX hf hw hs (by rcases hv with rfl | rfl <;> rfl) (by rcases hv with rfl | rfl <;> rfl) (fun _ h => cell_ui h) (fld_ui (Or.inr hk)) hd kk
theorem v_putl (hX : Ok X cc own d) {c ci k N idx : Nat} {v : Int64} (hf : FL own idx ci k N) (hw : FW ci k .long) (hs : shp c = (ci + 3, N)) (hk : knd ci k = 1) (hd : decode cc pc = .ok (.putfield idx, 3)) (kk : V X (pc + 3) L st (ul μ c k v)) : V X pc L (.long v :: .ref c :: st) μ := v_put hX hf hw hs rfl rfl (fun _ h => cell_ul h) (fld_ul hk) hd kk
/-- the class's two moving references: only cell 0 has such fields -/
theorem knd3 : ∀ ci k, knd ci k = 3 → ci = 8 := by
  intro ci k h
  have h1 : ∀ c, c < 10 → ∀ j, j < 30 → knd c j = 3 → c = 8 := by decide +kernel
  rcases Nat.lt_or_ge ci 10 with h2 | h2
  · rcases Nat.lt_or_ge k 30 with h3 | h3
    · exact h1 ci h2 k h3 h
    · exfalso
      have h4 : ∀ c, c < 10 → (kndT.getD c []).length ≤ 30 := by decide +kernel
      have h5 := h4 ci h2
      rw [knd, List.getD_eq_getElem?_getD, List.getElem?_eq_none (by omega)] at h
      simp at h
  · exfalso
    have h4 : kndT.length ≤ ci := h2
    have h5 : kndT.getD ci [] = [] := by rw [List.getD_eq_getElem?_getD, List.getElem?_eq_none h4]; rfl
    rw [knd, h5] at h
    simp at h
theorem shp0 : ∀ c, (shp c).1 = 11 → c = 0 := by
  intro c h
  rcases Nat.lt_or_ge c NC with h1 | h1
  · have h2 : ∀ c, c < NC → (shp c).1 = 11 → c = 0 := by decide +kernel
    exact h2 c h1 h
  · have h2 : shT.length ≤ c := h1
    rw [shp, List.getD_eq_getElem?_getD, List.getElem?_eq_none h2] at h
    simp at h
theorem v_putp (hX : Ok X cc own d) {k idx : Nat} {v : Nat} (hf : FL own idx 8 k 13) (hw : FW 8 k (.object "DoorCases$House")) (hk : knd 8 k = 3) (hd : decode cc pc = .ok (.putfield idx, 3)) (kk : V X (pc + 3) L st (up μ k v)) : V X pc L (.ref v :: .ref 0 :: st) μ := by
  refine v_put (μ' := up μ k v) hX hf hw (rfl : shp 0 = (8 + 3, 13)) rfl rfl (fun e he => ?_) (fun j => ?_) hd kk
  · have hF : ∀ ci j, ci ≠ 8 → fldA (up μ k v) ci e j = fldA μ ci e j := fun ci j h8 => by
      unfold fldA
      split <;> first | rfl | (rename_i h3; exact absurd (knd3 _ _ h3) h8)
    unfold cellE
    split <;> try rfl
    rename_i ci n hsh
    have h8 : ci ≠ 8 := fun q => he (shp0 e (by rw [hsh, q]))
    simp only [hF ci _ h8]
  · by_cases h : j = k
    · subst h
      rw [if_pos rfl]
      simp [fldA, hk, gp, up]
    · rw [if_neg h]
      have h1 : gp (up μ k v) j = gp μ j := by simp [gp, up, h]
      unfold fldA
      rw [h1]; rfl
theorem v_iald (hX : Ok X cc own d) {c n : Nat} {i : Int32} (hs : shp c = (0, n)) (hin : vp_in i n) (hd : decode cc pc = .ok (.iaload, 1)) (kk : V X (pc + 1) L (.int (gi μ c i.toNatClampNeg) :: st) μ) : V X pc L (.int i :: .ref c :: st) μ := fun ls H locs hm hP hS => by
  have hn : 0 < n := by
    rcases Nat.eq_zero_or_pos n with h | h
    · exact absurd (Or.inr (by omega)) hin
    · exact h
  exact va_iald (f := gi μ c) hX.1 hX.2.1 hX.2.2.2.2.2.1.1 hP c 0 ((wd_at (shp_lt hs hn)).trans (by rw [cell_int hs])) rfl hin hd (kk ls H locs hm hP hS)
theorem v_bald (hX : Ok X cc own d) {c n : Nat} {i : Int32} (hs : shp c = (1, n)) (hin : vp_in i n) (hd : decode cc pc = .ok (.baload, 1)) (kk : V X (pc + 1) L (.int (gi μ c i.toNatClampNeg) :: st) μ) : V X pc L (.int i :: .ref c :: st) μ := fun ls H locs hm hP hS => by
  have hn : 0 < n := by
    rcases Nat.eq_zero_or_pos n with h | h
    · exact absurd (Or.inr (by omega)) hin
    · exact h
  exact va_zald (f := gi μ c) hX.1 hX.2.1 hX.2.2.2.2.2.1.1 hP c 1 ((wd_at (shp_lt hs hn)).trans (by rw [cell_bool hs])) rfl hin hd (kk ls H locs hm hP hS)
theorem v_aald (hX : Ok X cc own d) {c n : Nat} {i : Int32} (hs : shp c = (2, n)) (hin : vp_in i n) (hd : decode cc pc = .ok (.aaload, 1)) (kk : V X (pc + 1) L (.ref (c + 1 + 3 * i.toNatClampNeg) :: st) μ) : V X pc L (.int i :: .ref c :: st) μ := fun ls H locs hm hP hS => by
  have hn : 0 < n := by
    rcases Nat.eq_zero_or_pos n with h | h
    · exact absurd (Or.inr (by omega)) hin
    · exact h
  exact va_aldq (f := fun j => some (xd X (c + 1 + 3 * j))) hX.1 hX.2.1 hX.2.2.2.2.2.1.1 hP c 2 ((wd_at (shp_lt hs hn)).trans (by rw [cell_sc hs])) rfl hin hd (kk ls H locs hm hP hS)
theorem v_iast (hX : Ok X cc own d) {c n : Nat} {i x : Int32} (hs : shp c = (0, n)) (hin : vp_in i n) (hd : decode cc pc = .ok (.iastore, 1)) (kk : V X (pc + 1) L st (ui μ c i.toNatClampNeg x)) : V X pc L (.int x :: .int i :: .ref c :: st) μ := fun ls H locs hm hP hS => by
  have hn : 0 < n := by
    rcases Nat.eq_zero_or_pos n with h | h
    · exact absurd (Or.inr (by omega)) hin
    · exact h
  refine va_iast (f := gi μ c) hX.1 hX.2.1 hX.2.2.2.2.2.1.1 hP (wd_D hX.2.2.2.2.2.2.1) hS c 0 ((wd_at (shp_lt hs hn)).trans (by rw [cell_int hs])) rfl hin hd (fun H1 locs1 hP1 hD1 hS1 => ?_)
  refine kk ls H1 locs1 hm ?_ hS1
  rw [wd_set (μ' := ui μ c i.toNatClampNeg x) (shp_lt hs hn) ?_ (fun _ h => cell_ui h)] at hP1
  · exact hP1
  · rw [cell_int hs]
    refine congrArg (fun z => Sum.inl ((xK X).1, n, Sum.inl z)) (funext fun j => ?_)
    simp [upd, gi, ui]
theorem nar_b {x : Int32} (h : x = 0 ∨ x = 1) : vp_nar .boolean x = x := by rcases h with rfl | rfl <;> rfl
theorem v_bast (hX : Ok X cc own d) {c n : Nat} {i x : Int32} (hs : shp c = (1, n)) (hin : vp_in i n) (hx : x = 0 ∨ x = 1) (hd : decode cc pc = .ok (.bastore, 1)) (kk : V X (pc + 1) L st (ui μ c i.toNatClampNeg x)) : V X pc L (.int x :: .int i :: .ref c :: st) μ := fun ls H locs hm hP hS => by
  have hn : 0 < n := by
    rcases Nat.eq_zero_or_pos n with h | h
    · exact absurd (Or.inr (by omega)) hin
    · exact h
  refine va_zast (f := gi μ c) hX.1 hX.2.1 hX.2.2.2.2.2.1.1 hP (wd_D hX.2.2.2.2.2.2.1) hS c 1 ((wd_at (shp_lt hs hn)).trans (by rw [cell_bool hs])) rfl hin hd (fun H1 locs1 hP1 hD1 hS1 => ?_)
  refine kk ls H1 locs1 hm ?_ hS1
  rw [nar_b hx, wd_set (μ' := ui μ c i.toNatClampNeg x) (shp_lt hs hn) ?_ (fun _ h => cell_ui h)] at hP1
  · exact hP1
  · rw [cell_bool hs]
    refine congrArg (fun z => Sum.inl ((xK X).2.1, n, Sum.inl z)) (funext fun j => ?_)
    simp [upd, gi, ui]
theorem v_alen (hX : Ok X cc own d) {c n : Nat} (v : Int32) (hs : shp c = (0, n)) (hn : 0 < n) (hv : Int32.ofNat n = v) (hd : decode cc pc = .ok (.arraylength, 1)) (kk : V X (pc + 1) L (.int v :: st) μ) : V X pc L (.ref c :: st) μ := fun ls H locs hm hP hS => va_alen (x := (n, .inl (gi μ c))) hX.1 hX.2.1 hX.2.2.2.2.2.1.1 hP c 0 ((wd_at (shp_lt hs hn)).trans (by rw [cell_int hs])) rfl hv hd (kk ls H locs hm hP hS)
/-- what is read behind a static array: KIND_MARK (k := 0), KIND_ABOVE (k := 1): the two instructions are walked together with the value between them by its own rows -/
theorem v_kinds (hX : Ok X cc own d) {i1 : Nat} {i : Int32} {l1 : Fin 4} (hl1 : Cond.fieldLink own i1 "DoorCases" "KIND_MARK" "[I" ∈ tw) (hd : decode cc pc = .ok (.getstatic i1, 3)) (hd2 : decode cc (pc + 3) = .ok (.iload_n l1, 1)) (hl : L[(l1 : Nat)]? = some (some (.int i))) (hin : vp_in i 6) (hd3 : decode cc (pc + 3 + 1) = .ok (.iaload, 1)) (kk : V X (pc + 3 + 1 + 1) L (.int (markF i.toNatClampNeg) :: st) μ) : V X pc L st μ := fun ls H locs hm hP hS => by
  obtain ⟨-, z1, z2, z3, z4, -⟩ := hX.2.2.2.2.2.1
  exact va_gets hX.1 hX.2.1 z1 hS hX.2.2.2.1 (hX.2.2.2.2.1 _ hl1) (fun _ h => h) hd (lv_iload_n hX.1 hX.2.1 hd2 rfl (hm.2 _ _ hl).2 (va_ti hX.1 hX.2.1 z2 hS hin rfl hd3 (kk ls H locs hm hP hS)))
theorem v_above (hX : Ok X cc own d) {i1 : Nat} {i : Int32} {l1 : Fin 4} (hl1 : Cond.fieldLink own i1 "DoorCases" "KIND_ABOVE" "[I" ∈ tw) (hd : decode cc pc = .ok (.getstatic i1, 3)) (hd2 : decode cc (pc + 3) = .ok (.iload_n l1, 1)) (hl : L[(l1 : Nat)]? = some (some (.int i))) (hin : vp_in i 6) (hd3 : decode cc (pc + 3 + 1) = .ok (.iaload, 1)) (kk : V X (pc + 3 + 1 + 1) L (.int (aboveF i.toNatClampNeg) :: st) μ) : V X pc L st μ := fun ls H locs hm hP hS => by
  obtain ⟨-, z1, z2, z3, z4, -⟩ := hX.2.2.2.2.2.1
  exact va_gets hX.1 hX.2.1 z3 hS hX.2.2.2.1 (hX.2.2.2.2.1 _ hl1) (fun _ h => h) hd (lv_iload_n hX.1 hX.2.1 hd2 rfl (hm.2 _ _ hl).2 (va_ti hX.1 hX.2.1 z4 hS hin rfl hd3 (kk ls H locs hm hP hS)))
end VMEM

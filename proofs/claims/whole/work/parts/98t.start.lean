/-! the law, from its entry -/
section USTORE
variable {X : XT} {cc : ByteArray} {own : String} {d pc : Nat} {L : List (Option Value)} {st : List Value} {μ : Mem}
theorem u_istore_n (hX : Ok X cc own d) {i : Fin 4} {x : Int32} (hd : decode cc pc = .ok (.istore_n i, 1)) (hn : (i : Nat) < xn X) (k : VL X (pc + 1) (L.set i (some (.int x))) st μ) : VL X pc L (.int x :: st) μ := fun ls H locs hm hP hS => by
  obtain ⟨lv, h1, h2, h3⟩ := lm_list hm
  exact lv_istore_n hX.1 hX.2.1 hd rfl h1 hn rfl (fun ls' h' => k ls' H locs (lm_set (v := .int x) rfl h2 (fun j w hj => ⟨(hm.2 j w hj).1, h3 j w hj⟩) h') hP hS)
theorem u_astore_n (hX : Ok X cc own d) {i : Fin 4} {x : Nat} (hd : decode cc pc = .ok (.astore_n i, 1)) (hn : (i : Nat) < xn X) (k : VL X (pc + 1) (L.set i (some (.ref x))) st μ) : VL X pc L (.ref x :: st) μ := fun ls H locs hm hP hS => by
  obtain ⟨lv, h1, h2, h3⟩ := lm_list hm
  exact lv_astore_n hX.1 hX.2.1 hd rfl h1 hn rfl (fun ls' h' => k ls' H locs (lm_set (v := .ref x) rfl h2 (fun j w hj => ⟨(hm.2 j w hj).1, h3 j w hj⟩) h') hP hS)
end USTORE
theorem iv_nil {c : Nat} (h : ivT c = []) (k : Nat) : gi μ0 c k = 0 := by
  show (ivT c).getD k 0 = 0
  rw [h]
  simp
theorem inv_start {μ : Mem} (h : Mod0 μ) : Inv μ := by
  obtain ⟨m1, ⟨b0, b1, b2, b3, b4, b5, b6, b7, b8, b9⟩, s0, s77, s83, s79, s80, s81, s82, s84, c3, c24, c21, cx, c860, c861⟩ := h
  have e : ∀ c, c < 75 ∨ c = 76 → ∀ k, gi μ c k = gi μ0 c k := fun c hc k => by
    rw [s0.1 c (by simp <;> omega), b0.1 c (by simp <;> omega)]
  have g : μ.2 = μ0.2 := s0.2.trans b0.2
  have p1 : gp μ 1 = 3 := by unfold gp; rw [g]; rfl
  have p2 : gp μ 2 = 10 := by unfold gp; rw [g]; rfl
  have d0 : dn D0 0 = 0 := by decide
  have d1 : dn D0 1 = 0 := by decide
  have d2 : dn D0 2 = 0 := by decide
  have z84 : ∀ k, k < 5 → gi μ 84 k = 0 := fun k hk => by rw [s84 k (by omega), if_neg (by omega)]
  have i11 : gi μ 1 1 = nI 0 := by rw [e 1 (by omega)]; exact iv_nil (by decide) 1
  have i201 : gi μ 20 1 = nI 0 := by rw [e 20 (by omega)]; exact iv_nil (by decide) 1
  have i202 : gi μ 20 2 = nI 0 := by rw [e 20 (by omega)]; exact iv_nil (by decide) 2
  have i06 : gi μ 0 6 = nI 0 := by rw [e 0 (by omega)]; exact iv_nil (by decide) 6
  have i71 : gi μ 71 2 = nI 0 := by rw [e 71 (by omega)]; exact iv_nil (by decide) 2
  refine ⟨Or.inl ⟨p1, p2⟩, ⟨isN_of i11 (by omega) (by omega), by rw [c3, i11]; rfl, fun j => ?_, fun j => ?_⟩, ?_, D0, ⟨D0_ok, ?_, ?_⟩, ?_, ⟨isN_of i201 (by omega) (by omega), isN_of i202 (by omega) (by omega), by rw [c21, i202]; rfl, ?_⟩, ⟨⟨0, i06, by omega⟩, fun j hj => ?_⟩, isN_of i71 (by omega) (by omega), by rw [c24, i71]; rfl, ?_⟩
  · rw [e 76 (by omega), e 2 (by omega), iv_nil (by decide), iv_nil (by decide)]
  · rw [e 2 (by omega), iv_nil (by decide)]; decide
  · unfold gl; rw [g]; rfl
  · rw [p1]
    unfold agC
    rw [d0, d1, d2, e 3 (by omega), e 3 (by omega), e 3 (by omega), e 3 (by omega), e 3 (by omega), e 3 (by omega)]
    exact ⟨by decide, by decide, by decide, by decide, by decide, by decide, fun i hi => by omega, fun i hi => by omega, fun i hi => by omega⟩
  · unfold agS
    rw [d0, d1, d2]
    refine ⟨fun k hk => ?_, fun i hi => by omega, fun i hi => by omega, fun i hi => by omega⟩
    rw [s77, if_pos hk]
    have : k = 0 ∨ k = 1 ∨ k = 2 ∨ k = 3 ∨ k = 4 ∨ k = 5 := by omega
    rcases this with rfl | rfl | rfl | rfl | rfl | rfl
    · exact b4
    · exact b5
    · exact b6
    · exact b7
    · exact b8
    · exact b9
  · rw [d0, d1]
    refine ⟨⟨⟨0, z84 0 (by omega), by omega⟩, ⟨0, z84 1 (by omega), by omega⟩, ⟨0, z84 2 (by omega), by omega⟩, ⟨0, z84 3 (by omega), by omega⟩, ⟨0, z84 4 (by omega), by omega⟩, fun r hr => by omega, fun r hr => by omega, fun r hr => by omega⟩, ?_, ?_, ?_, ?_, ?_, fun r hr => by omega, fun r hr => by omega⟩
    · rw [e 17 (by omega), z84 0 (by omega)]; decide
    · rw [e 17 (by omega), z84 1 (by omega)]; decide
    · rw [e 17 (by omega), z84 2 (by omega)]; decide
    · rw [e 17 (by omega), z84 3 (by omega)]; decide
    · rw [e 17 (by omega), z84 4 (by omega)]; decide
  · rw [gn_of i202 (by omega)]
    intro i hi
    omega
  · rw [i06]
    have zz : ∀ j, j < 2 → slvI (nI 0) (nI j) = 0 := by decide +kernel
    rw [zz j hj]
    refine ⟨?_, fun q => absurd q (by decide)⟩
    rcases (show j = 0 ∨ j = 1 by omega) with rfl | rfl
    · exact c860
    · exact c861
  · rw [gn_of i71 (by omega)]
    intro i hi
    omega
theorem lw_tw {w : Cond} (h : w ∈ tw) : w ∈ lw_tbl := (List.mem_filter.mp h).1
theorem lw_tab {w : Cond} (i : Nat) (h : tables_1[i]? = some w) : w ∈ lw_tbl := List.mem_append_right _ (List.mem_of_getElem? h)
theorem lw_known {s : State} {args : Array Value} (htw : ∀ w ∈ tw, w.before args s = true) : ∃ D : va_G, ∀ (k : Nat) (q : vw_C), vwCl[k]? = some q → u_Kn s q.1 q.2.1 q.2.2 (D.1 k) (D.2 k) := by
  obtain ⟨T0, _, v0, h0, _, n0, _, _⟩ := nw_0
  obtain ⟨c0, i0, k0⟩ := u_known htw h0 (htw _ n0)
  obtain ⟨T1, _, v1, h1, _, n1, _, _⟩ := nw_1
  obtain ⟨c1, i1, k1⟩ := u_known htw h1 (htw _ n1)
  obtain ⟨T2, _, v2, h2, _, n2, _, _⟩ := nw_2
  obtain ⟨c2, i2, k2⟩ := u_known htw h2 (htw _ n2)
  obtain ⟨T3, _, v3, h3, _, n3, _, _⟩ := nw_3
  obtain ⟨c3, i3, k3⟩ := u_known htw h3 (htw _ n3)
  obtain ⟨T4, _, v4, h4, _, n4, _, _⟩ := nw_4
  obtain ⟨c4, i4, k4⟩ := u_known htw h4 (htw _ n4)
  obtain ⟨T5, _, v5, h5, _, n5, _, _⟩ := nw_5
  obtain ⟨c5, i5, k5⟩ := u_known htw h5 (htw _ n5)
  obtain ⟨T6, _, v6, h6, _, n6, _, _⟩ := nw_6
  obtain ⟨c6, i6, k6⟩ := u_known htw h6 (htw _ n6)
  obtain ⟨T7, _, v7, h7, _, n7, _, _⟩ := nw_7
  obtain ⟨c7, i7, k7⟩ := u_known htw h7 (htw _ n7)
  obtain ⟨T8, _, v8, h8, _, n8, _, _⟩ := nw_8
  obtain ⟨c8, i8, k8⟩ := u_known htw h8 (htw _ n8)
  obtain ⟨T9, _, v9, h9, _, n9, _, _⟩ := nw_9
  obtain ⟨c9, i9, k9⟩ := u_known htw h9 (htw _ n9)
  refine ⟨(fun k => if k = 0 then c0 else if k = 1 then c1 else if k = 2 then c2 else if k = 3 then c3 else if k = 4 then c4 else if k = 5 then c5 else if k = 6 then c6 else if k = 7 then c7 else if k = 8 then c8 else c9, fun k => if k = 0 then i0 else if k = 1 then i1 else if k = 2 then i2 else if k = 3 then i3 else if k = 4 then i4 else if k = 5 then i5 else if k = 6 then i6 else if k = 7 then i7 else if k = 8 then i8 else i9), fun k q hq => ?_⟩
  match k, hq with
  | 0, hq => rw [v0] at hq; cases hq; exact k0
  | 1, hq => rw [v1] at hq; cases hq; exact k1
  | 2, hq => rw [v2] at hq; cases hq; exact k2
  | 3, hq => rw [v3] at hq; cases hq; exact k3
  | 4, hq => rw [v4] at hq; cases hq; exact k4
  | 5, hq => rw [v5] at hq; cases hq; exact k5
  | 6, hq => rw [v6] at hq; cases hq; exact k6
  | 7, hq => rw [v7] at hq; cases hq; exact k7
  | 8, hq => rw [v8] at hq; cases hq; exact k8
  | 9, hq => rw [v9] at hq; cases hq; exact k9
  | k + 10, hq => simp [vwCl] at hq
theorem lw_K {s : State} {args : Array Value} {D : va_G} (htw : ∀ w ∈ tw, w.before args s = true) (hao : (Cond.arrayOver (.object "DoorCases$Scene")).before args s = true) (hKc : ∀ (k : Nat) (q : vw_C), vwCl[k]? = some q → u_Kn s q.1 q.2.1 q.2.2 (D.1 k) (D.2 k)) : ∃ K : K3, va_K D vwCl (tysK K) s := by
  obtain ⟨cI, kI, pI, a1, a2, a3⟩ := Cond.arrayClass_spec (htw _ aw_int)
  obtain ⟨cZ, kZ, pZ, b1, b2, b3⟩ := Cond.arrayClass_spec (htw _ aw_boolean)
  obtain ⟨comp, cS, kS, h1, h2, h3, h4, h5⟩ := Cond.arrayOver_spec hao
  refine ⟨(cI, cZ, cS), hKc, fun k q hq => ?_⟩
  match k, hq with
  | 0, hq => cases hq; exact ⟨fun n z => ⟨fun k h => (by cases h), kI, a2, pI, a3⟩, a1⟩
  | 1, hq => cases hq; exact ⟨fun n z => ⟨fun k h => (by cases h), kZ, b2, pZ, b3⟩, b1⟩
  | 2, hq => cases hq; exact ⟨fun n z => ⟨fun k h => (by cases h), kS, h3, comp, h4⟩, kS, comp, h3, h4, h1, h5⟩
  | k + 3, hq => simp [tysK] at hq
theorem lw_St {s : State} {b : Nat} {D : va_G} {K : K3} (hts : ∀ w ∈ lw_tbl, w.before #[Value.ref b] s = true) (hgv : (Jvm.Cond.and given_1 narrow_1).before #[Value.ref b] s = true) (hK : va_K D vwCl (tysK K) s) : ∃ z : Nat × Nat, St D K (fun q => s.heap.size ≤ q) z s s.heap := by
  have hs := flat_of_before _ hgv
  have hnA : ∀ a : Nat, a < s.heap.size → ¬ (fun q : Nat => s.heap.size ≤ q) a := fun a h => Nat.not_le.mpr h
  obtain ⟨t1, e1, T1⟩ := va_Tof (tm := (Term.static "DoorCases" "KIND_MARK" "[I")) (N := 6) (f := fun j => .int (markF j)) (A := fun q => s.heap.size ≤ q) (by decide) (hs (Cond.arrayOf (Term.static "DoorCases" "KIND_MARK" "[I") .int) (by decide +kernel)) (va_eqt (hs (Cond.eq (Term.length (Term.static "DoorCases" "KIND_MARK" "[I")) (.int 6)) (by decide +kernel))) (fun j hj => by
    match j, hj with
    | 0, _ => exact va_eqt (hs (Cond.eq (Term.elem (Term.static "DoorCases" "KIND_MARK" "[I") (.int 0)) (.int 1)) (by decide +kernel))
    | 1, _ => exact va_eqt (hs (Cond.eq (Term.elem (Term.static "DoorCases" "KIND_MARK" "[I") (.int 1)) (.int 10)) (by decide +kernel))
    | 2, _ => exact va_eqt (hs (Cond.eq (Term.elem (Term.static "DoorCases" "KIND_MARK" "[I") (.int 2)) (.int 100)) (by decide +kernel))
    | 3, _ => exact va_eqt (hs (Cond.eq (Term.elem (Term.static "DoorCases" "KIND_MARK" "[I") (.int 3)) (.int 1000)) (by decide +kernel))
    | 4, _ => exact va_eqt (hs (Cond.eq (Term.elem (Term.static "DoorCases" "KIND_MARK" "[I") (.int 4)) (.int 10000)) (by decide +kernel))
    | 5, _ => exact va_eqt (hs (Cond.eq (Term.elem (Term.static "DoorCases" "KIND_MARK" "[I") (.int 5)) (.int 100000)) (by decide +kernel))
    | n + 6, hj => exact absurd hj (by omega)) hnA
  obtain ⟨t2, e2, T2⟩ := va_Tof (tm := (Term.static "DoorCases" "KIND_ABOVE" "[I")) (N := 6) (f := fun j => .int (aboveF j)) (A := fun q => s.heap.size ≤ q) (by decide) (hs (Cond.arrayOf (Term.static "DoorCases" "KIND_ABOVE" "[I") .int) (by decide +kernel)) (va_eqt (hs (Cond.eq (Term.length (Term.static "DoorCases" "KIND_ABOVE" "[I")) (.int 6)) (by decide +kernel))) (fun j hj => by
    match j, hj with
    | 0, _ => exact va_eqt (hs (Cond.eq (Term.elem (Term.static "DoorCases" "KIND_ABOVE" "[I") (.int 0)) (.int (-1))) (by decide +kernel))
    | 1, _ => exact va_eqt (hs (Cond.eq (Term.elem (Term.static "DoorCases" "KIND_ABOVE" "[I") (.int 1)) (.int 0)) (by decide +kernel))
    | 2, _ => exact va_eqt (hs (Cond.eq (Term.elem (Term.static "DoorCases" "KIND_ABOVE" "[I") (.int 2)) (.int 0)) (by decide +kernel))
    | 3, _ => exact va_eqt (hs (Cond.eq (Term.elem (Term.static "DoorCases" "KIND_ABOVE" "[I") (.int 3)) (.int 1)) (by decide +kernel))
    | 4, _ => exact va_eqt (hs (Cond.eq (Term.elem (Term.static "DoorCases" "KIND_ABOVE" "[I") (.int 4)) (.int 2)) (by decide +kernel))
    | 5, _ => exact va_eqt (hs (Cond.eq (Term.elem (Term.static "DoorCases" "KIND_ABOVE" "[I") (.int 5)) (.int 0)) (by decide +kernel))
    | n + 6, hj => exact absurd hj (by omega)) hnA
  have hini : (Cond.initialized "DoorCases").before #[Value.ref b] s = true := hts _ (lw_tab 1 (by decide +kernel))
  exact ⟨(t1, t2), hK, va_Zref (hts _ (lw_tab 665 (by decide +kernel))) hini e1 hnA, T1, va_Zref (hts _ (lw_tab 667 (by decide +kernel))) hini e2 hnA, T2, va_Nw.of rfl (hts _ (lw_tab 482 (by decide +kernel))), va_Nw.of rfl (hts _ (lw_tab 523 (by decide +kernel)))⟩
theorem ct9_blind {D : va_G} {K : K3} {z : Nat × Nat} {wi : va_W} {A : Nat → Prop} {a sz : Nat} : FrameBlind (va_Pc [.ref a] (fun U => U.heap.size = sz ∧ CtPre D K wi U ∧ St D K A z U U.heap)) := by
  rintro v U g mk ⟨q0, q1, ⟨qP, qK, qA, qD⟩, qS⟩
  exact ⟨q0, q1, ⟨qP, va_K.moved (u := U) (U := U.calling g mk v) (Vm.Alike.refl U.vm) qK, va_AO.moved (u := U) (U := U.calling g mk v) (Vm.Alike.refl U.vm) qA, qD⟩, qS.same rfl⟩
set_option maxRecDepth 20000 in
set_option maxHeartbeats 4000000 in
/-- YOUR PART: from the entry, for every script of at most 384 ints, the law comes to its end with true -/
theorem whole_start {p : Program} {e : Env} {s : State} {m : MethodId} {below : List Frame} {meth : Method} {c : Code} (l : Launch) {b L : Nat} {xs : Nat → Int32} (hL : L ≤ 384) (C0 : lw_At p s m meth c b L xs) : W p l e room_1 s m #[Value.ref b] below meth c s.heap [] 0 0 (lw_Z below #[Value.ref b] s) (entryFrame m ([Value.ref b] : List Value).toArray 4) := by
  obtain ⟨hx, hb, hr, hml, hown, hts, hXs, hbl, hlocks, hgv⟩ := C0
  have htw : ∀ w ∈ tw, w.before #[Value.ref b] s = true := fun w hw => hts w (lw_tw hw)
  have hao : (Cond.arrayOver (.object "DoorCases$Scene")).before #[Value.ref b] s = true := hts _ (lw_tab 184 (by decide +kernel))
  obtain ⟨D, hKc⟩ := lw_known htw
  obtain ⟨K, hK⟩ := lw_K htw hao hKc
  obtain ⟨z, hSt⟩ := lw_St hts hgv hK
  have hAO : va_AO "DoorCases$Scene" s := va_AO.of hao
  generalize hAe : (fun q : Nat => s.heap.size ≤ q) = A at hSt
  have hA : ∀ q : Nat, s.heap.size ≤ q → A q := fun q h => by rw [← hAe]; exact h
  have hA2 : ∀ q : Nat, A q → s.heap.size ≤ q := fun q h => by rw [← hAe] at h; exact h
  have hbA : ¬ A b := fun h => absurd (hA2 b h) (Nat.not_le.mpr hbl)
  generalize hQe : lw_Z below #[Value.ref b] s = Q
  have hl := lv_entry ([.ref b]) (n := 4) (Nat.le_of_ble_eq_true rfl)
  rw [lg_entry_eq]
  generalize hls : (lg_sl ([.ref b]) ++ List.replicate (4 - (lg_sl ([.ref b])).length) Slot.unset).toArray = ls at hl ⊢
  obtain ⟨X, hXe⟩ : ∃ X : XT, X = (p, l, e, room_1, s, m, #[Value.ref b], below, meth, c, Q, D, K, id, A, 4, z) := ⟨_, rfl⟩
  have hR : xR X = room_1 := by rw [hXe]
  have hn : xn X = 4 := by rw [hXe]
  have hX : OkC X cL_law RL := by rw [hXe]; exact ⟨hx, hb, hml, hown, htw, hK, hAO, hlocks, hA⟩
  suffices hV : VC X 0 0 0 [some (.ref b), none, none, none] [] [] by
    rw [hXe] at hV
    refine hV ls s.heap [] ⟨⟨hl.1, hl.2.1, fun q hq => by cases hq⟩, fun i v hi => ?_⟩ ⟨fun k q h => by simp at h, fun i j p q h => by simp at h, fun k q h => by simp at h⟩ va_S.rf
    match i, hi with
    | 0, hi =>
      cases hi
      refine ⟨rfl, ?_⟩
      rw [← hls]
      rfl
    | 1, hi => cases hi
    | 2, hi => cases hi
    | 3, hi => cases hi
    | i + 4, hi => cases hi
  refine c_new hX nw_8 cl_L_7 (by rw [hR]; decide) dL_law_0 (fun h => (?_ : VC X 1 13 3 [some (.ref b), none, none, none] [.ref h] ([] ++ [(h, .inr (8, fz8))])))
  refine c_dup hX dL_law_3 rfl (?_ : VC X 1 13 4 [some (.ref b), none, none, none] [.ref h, .ref h] ([] ++ [(h, .inr (8, fz8))]))
  refine c_callI hX (ct_X8 (xl X) (xD X) (xK X) [] h) ck_X8_init ci_L_9 (by rw [hR]; decide) (by rw [hR]; decide) (Nat.le_of_ble_eq_true rfl) dL_law_4 (fun w1 hw1 => ?_)
  obtain ⟨x, ad, hw2, h75⟩ := hw1
  refine c_eq (w' := x) hw2 (?_ : VC X 75 863 7 [some (.ref b), none, none, none] [.ref h] x)
  refine c_astore_n hX dL_law_7 (by rw [hn]; decide) (?_ : VC X 75 863 8 [some (.ref b), some (.ref h), none, none] [] x)
  refine c_new hX nw_9 cl_L_10 (by rw [hR]; decide) dL_law_8 (fun hm => (?_ : VC X 76 893 11 [some (.ref b), some (.ref h), none, none] [.ref hm] (x ++ [(hm, .inr (9, fz9))])))
  refine c_dup hX dL_law_11 rfl (?_ : VC X 76 893 12 [some (.ref b), some (.ref h), none, none] [.ref hm, .ref hm] (x ++ [(hm, .inr (9, fz9))]))
  intro ls2 H locs hlm hw hS
  rw [hXe] at hlm hw hS h75 ⊢
  have hF := free_of (D := D) hw.2 hS hA
  obtain ⟨i1, i2, i3, i4, i5⟩ := ci_L_12
  show W p l e room_1 s m #[Value.ref b] below meth c H locs 76 893 Q (F0 m 12 ls2 [.ref hm, .ref hm])
  refine va_callv (va_runI (cc := cL_law) (nL := 4) (Ts := tw) (own := RL) (As := []) (rest := [.ref hm]) ⟨hx, hb, hml, hown, htw⟩ (ct_X9 l D K z x ad h b hm h75 H.size) (cwI 0 htw (wA_good ck_X9_init) rfl rfl rfl (htw _ i2) (htw _ i1) (htw _ i3) i4 i5 ⟨by decide, by decide⟩) ⟨ct9_blind, fun U hU hW => ⟨rfl, by rw [hU], ⟨by rw [hU]; exact hw.1, va_K.moved hW.alike hK, va_AO.moved hW.alike hAO, hw.2.weaken (fun _ _ _ _ => trivial)⟩, St.call hSt hS hW hU hF⟩⟩ rfl rfl hlm.1.1 rfl (lv_room (Nat.le_of_ble_eq_true rfl)) dL_law_12 ⟨by decide, by decide⟩) hS (fun q _ h => hF q h) hF (fun q t H1 locs1 ht hvm hq hB hz hk hS1 => ?_)
  obtain ⟨ad', μ'⟩ := q
  obtain ⟨q1, q2, q3, q4⟩ := hq
  obtain ⟨hB1, hB2⟩ := hB
  rw [ht] at hB1
  refine W.widen (k := 600000) (n := 7302250) (by decide) (by decide) ?_
  obtain ⟨Y, hYe⟩ : ∃ Y : XT, Y = (p, l, e, room_1, s, m, #[Value.ref b], below, meth, c, Q, D, K, ad', A, 4, z) := ⟨_, rfl⟩
  have hYn : xn Y = 4 := by rw [hYe]
  have hLw : LwX Y b L xs := by
    rw [hYe]
    exact ⟨⟨hx, hb, hml, hown, htw, hSt, hB2.weaken (fun _ _ _ h => hF _ h), hlocks, by show 100 ≤ room_1.frames; decide, by show 40 * 100 ≤ room_1.locals; decide⟩, rfl, q3, hXs, hbl, hbA, rfl, hr, rfl, hQe.symm, hA2⟩
  have hY := hLw.1
  have hV : VL Y 15 [some (.ref 95), some (.ref 0), none, none] [.ref 75] μ' := by
    refine u_astore_n hY dL_law_15 (by rw [hYn]; decide) (?_ : VL Y 16 [some (.ref 95), some (.ref 0), some (.ref 75), none] [] μ')
    refine u_iconst hY 0 dL_law_16 rfl (?_ : VL Y 17 [some (.ref 95), some (.ref 0), some (.ref 75), none] [.int 0] μ')
    refine u_istore_n hY dL_law_17 (by rw [hYn]; decide) (?_ : VL Y 18 [some (.ref 95), some (.ref 0), some (.ref 75), some (.int (nI 0))] [] μ')
    exact law_loop hLw hL (L + 1) 0 μ' (Nat.zero_le _) (by omega) (inv_start q4)
  rw [hYe] at hV
  have hst : ([.ref 75] : List Value).map (tr ad') = [.ref hm] := by
    show [Value.ref (ad' 75)] = _
    rw [show ad' 75 = hm from q2]
  have := hV ls2 H1 locs1 ⟨hlm.1, fun i v hi => ?_⟩ hB1 hS1
  · show W p l e room_1 s m #[Value.ref b] below meth c H1 locs1 600000 7302250 Q (F0 m 15 ls2 [.ref hm])
    rw [← hst]
    exact this
  · match i, hi with
    | 0, hi =>
      cases hi
      have z := hlm.2 0 (.ref b) rfl
      refine ⟨rfl, ?_⟩
      show ls2[0]? = some (.val (.ref (ad' 95)))
      rw [show ad' 95 = b from q3]
      exact z.2
    | 1, hi =>
      cases hi
      have z := hlm.2 1 (.ref h) rfl
      refine ⟨rfl, ?_⟩
      show ls2[1]? = some (.val (.ref (ad' 0)))
      rw [show ad' 0 = h from (q1 0 (by omega)).trans h75.1]
      exact z.2
    | 2, hi => cases hi
    | 3, hi => cases hi
    | i + 4, hi => cases hi

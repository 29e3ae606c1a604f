theorem tok_end {T : Nat → Int32} {n s : Nat} {m : Mem} (h : tokM T n s m) : gi m 75 5 = 0 ↔ s = n := by
  rcases h with ⟨h1, h2, _⟩ | ⟨h1, _, _, _, h5⟩ | ⟨h1, _, b, _, _, h5⟩
  · exact ⟨fun _ => h1, fun _ => h2⟩
  · rcases h5 with ⟨_, z⟩ | ⟨_, _, z⟩ | ⟨_, _, z⟩ <;> rw [z] <;> exact ⟨fun y => absurd y (by decide), fun y => by omega⟩
  · rcases h5 with ⟨_, z, _⟩ | ⟨_, z⟩ <;> rw [z] <;> exact ⟨fun y => absurd y (by decide), fun y => by omega⟩
theorem let_nd {c : Int32} (h : isLetF c) : ¬ isD c ∧ ¬ c = 59 := by
  rcases h with z | z | z | z | z | z <;> rw [z] <;> exact ⟨fun y => absurd y.2 (by decide), by decide⟩
theorem tok_let {T : Nat → Int32} {n s : Nat} {m : Mem} (h : tokM T n s m) : (gi m 75 5 = 1 → s < n ∧ isLetF (T s) ∧ gi m 75 7 = T s ∧ gi m 75 4 = nI (s + 1)) ∧ (¬ gi m 75 5 = 1 → s < n → ¬ isLetF (T s)) := by
  rcases h with ⟨h1, h2, _⟩ | ⟨h1, _, h3, h4, h5⟩ | ⟨h1, h2, b, _, _, h5⟩
  · rw [h2]; exact ⟨fun y => absurd y (by decide), fun _ y => by omega⟩
  · rcases h5 with ⟨y, z⟩ | ⟨_, y, z⟩ | ⟨_, y, z⟩
    · rw [z]; exact ⟨fun y => absurd y (by decide), fun _ _ q => (let_nd q).2 y⟩
    · exact ⟨fun _ => ⟨h1, y, h4, h3⟩, fun q => absurd z q⟩
    · rw [z]; exact ⟨fun y => absurd y (by decide), fun _ _ => y⟩
  · rcases h5 with ⟨_, z, _⟩ | ⟨_, z⟩ <;> rw [z] <;> exact ⟨fun y => absurd y (by decide), fun _ _ q => (let_nd q).1 h2⟩
theorem may_no {T : Nat → Int32} {n s : Nat} {m : Mem} {D : Dr} (hA : agM m D) (hl : isLetF (T s)) (h : ¬ mayF m (T s)) : BdF T n s D s := by
  obtain ⟨a0, _, _, _, t, _, et, t1, t2, t4⟩ := hA
  have e0 : gi m 77 6 = D 0 0 := a0 0 (by omega)
  have e1 : gi m 77 7 = D 0 1 := a0 1 (by omega)
  have e2 : gi m 77 8 = D 0 2 := a0 2 (by omega)
  have nl : ∀ {x y : Int32}, ¬ ¬ y ≤ x → ¬ x < y := fun h z => h (by simpa using z)
  unfold mayF at h
  unfold BdF
  by_cases c1 : T s = 114
  · rw [if_pos c1, e0] at h
    rw [if_pos c1]
    exact Or.inl ⟨nl h, rfl⟩
  rw [if_neg c1] at h ⊢
  by_cases c2 : T s = 100
  · rw [if_pos c2, e1] at h
    rw [if_pos c2]
    exact Or.inl ⟨nl h, rfl⟩
  rw [if_neg c2] at h ⊢
  by_cases c3 : T s = 115
  · rw [if_pos c3, e2] at h
    rw [if_pos c3]
    exact Or.inl ⟨nl h, rfl⟩
  rw [if_neg c3, et] at h
  rw [if_neg c3]
  by_cases c4 : T s = 99
  · rw [c4, show bitF 99 = 1 from by decide] at h
    rw [if_pos c4]
    exact Or.inl ⟨fun z => h (t1.mpr z), rfl⟩
  rw [if_neg c4]
  by_cases c5 : T s = 119
  · rw [c5, show bitF 119 = 2 from by decide] at h
    rw [if_pos c5]
    exact Or.inl ⟨fun z => h (t2.mpr z), rfl⟩
  rw [if_neg c5]
  by_cases c6 : T s = 110
  · rw [c6, show bitF 110 = 4 from by decide] at h
    rw [if_pos c6]
    exact Or.inl ⟨fun z => h (t4.mpr z), rfl⟩
  exfalso
  rcases hl with z | z | z | z | z | z <;> contradiction
theorem no_let {T : Nat → Int32} {n s : Nat} {D : Dr} (h : ¬ isLetF (T s)) : BdF T n s D s := by
  unfold isLetF at h
  unfold BdF
  rw [if_neg (fun z => h (Or.inl z)), if_neg (fun z => h (Or.inr (Or.inl z))), if_neg (fun z => h (Or.inr (Or.inr (Or.inl z)))), if_neg (fun z => h (Or.inr (Or.inr (Or.inr (Or.inl z))))), if_neg (fun z => h (Or.inr (Or.inr (Or.inr (Or.inr (Or.inl z)))))), if_neg (fun z => h (Or.inr (Or.inr (Or.inr (Or.inr (Or.inr z))))))]
theorem frM_fr75 {μ m m' : Mem} (h : frM μ m) (h1 : fr [75] m m') (h2 : f75x [4, 5, 6, 7, 8] m m') : frM μ m' := by
  obtain ⟨a, b, c, d⟩ := h
  refine ⟨fr_trans a (fr_mono h1 (by simp)), fun k hk => ?_, fun k hk => ?_, fun k hk => ?_⟩
  · rw [h2 k (fun z => hk (by simp at z ⊢; omega)), b k hk]
  · rw [h1.1 77 (by simp), h1.1 83 (by simp)]; exact c k hk
  · rw [h1.1 79 (by simp), h1.1 80 (by simp), h1.1 81 (by simp), h1.1 82 (by simp)]; exact d k hk
theorem frM_trans {μ m m' : Mem} (h : frM μ m) (h' : frM m m') : frM μ m' := by
  obtain ⟨a, b, c, d⟩ := h
  obtain ⟨a', b', c', d'⟩ := h'
  refine ⟨fr_trans a a', fun k hk => (b' k hk).trans (b k hk), fun k hk => ⟨(c' k hk).1.trans (c k hk).1, (c' k hk).2.trans (c k hk).2⟩, fun k hk => ⟨(d' k hk).1.trans (d k hk).1, (d' k hk).2.1.trans (d k hk).2.1, (d' k hk).2.2.1.trans (d k hk).2.2.1, (d' k hk).2.2.2.trans (d k hk).2.2.2⟩⟩
theorem agM_fr {m m' : Mem} {D : Dr} (h1 : fr [75] m m') (h2 : gi m' 75 10 = gi m 75 10) (h : agM m D) : agM m' D := by
  have e : ∀ c, 77 ≤ c → ∀ k, gi m' c k = gi m c k := fun c hc k => h1.1 c (by simp <;> omega) k
  obtain ⟨a0, aR, aD, aS, t, ht⟩ := h
  refine ⟨fun k hk => ?_, fun i hi => ?_, fun i hi => ?_, fun i hi => ?_, t, by rw [h2]; exact ht⟩
  · rw [e 77 (by omega)]; exact a0 k hk
  · rw [e 78 (by omega), e 79 (by omega), e 80 (by omega)]; exact aR i hi
  · rw [e 81 (by omega), e 82 (by omega)]; exact aD i hi
  · rw [e 83 (by omega)]; exact aS i hi
theorem hs_end {μ m m10 : Mem} {k a : Nat} {D : Dr} (hf : frM μ m) (hD : okD D) (hA : agM m D) (hP : Pf (gi μ 76) (gn μ 75 3) k a D) (ht : TokAt (gi μ 76) (gn μ 75 3) a m) (h5 : gi m 75 5 = 0) (hs : post_X9_settles m m10) : post_X9_house μ (nI k) m10 := by
  obtain ⟨s, hs1, _, tk⟩ := ht
  have es := (tok_end tk).mp h5
  rw [es] at hs1
  obtain ⟨b0, b77, b83, b79, b80, b81, b82, b84, c3, c24, c21, _, c860, c861⟩ := hs
  have hD2 := hD
  obtain ⟨o0, o1, o2, _⟩ := hD2
  have d0 := (isB_clamp o0 (by omega))
  have d1 := (isB_clamp o1 (by omega))
  have d2 := (isB_clamp o2 (by omega))
  obtain ⟨a0, aR, aD, aS, _⟩ := hA
  refine Or.inr ⟨k, D, ⟨a, hP, hs1⟩, hD, rfl, ⟨fun j hj => ?_, fun i hi => ?_, fun i hi => ?_, fun i hi => ?_⟩, ⟨fun j hj => ?_, fun i hi => ?_, fun j hj => ?_⟩, c3, c24, c21, c860, c861, fr_trans (fr_mono hf.1 (by simp)) (fr_mono b0 (by simp))⟩
  · rw [b77, if_pos hj]; exact a0 j hj
  · have : i < 5 := by have := d0.2; unfold dn at hi; omega
    rw [b79, if_pos this, b80, if_pos this]; exact ⟨(aR i hi).2.1, (aR i hi).2.2⟩
  · have : i < 5 := by have := d1.2; unfold dn at hi; omega
    rw [b81, if_pos this, b82, if_pos this]; exact aD i hi
  · have : i < 6 := by have := d2.2; unfold dn at hi; omega
    rw [b83, if_pos this]; exact aS i hi
  · rw [b84 j (by omega), if_neg (by omega)]
  · have : i < 5 := by have := d0.2; unfold dn at hi; omega
    have z := a0 0 (by omega)
    rw [b84 _ (by omega), if_pos, show 5 + i - 5 = i from by omega]
    · exact (aR i hi).1
    · refine ⟨by omega, by omega, ?_⟩
      rw [show 5 + i - 5 = i from by omega, z, d0.1]
      exact nI_lt hi (by have := d0.2; omega)
  · rw [b84 _ (by omega), if_neg (by omega)]
theorem tail_F {J : Mem → Prop} {m : Mem} (hR : RM m) (hw : ¬ gi m 75 8 < 0) (hJ : J m) : ((¬ gi m 75 5 = 3 → (pre_X9_takes 0 m ∧ ∀ (x : Int32) (m' : Mem), post_X9_takes 0 m x m' → J m')) ∧ (gi m 75 5 = 3 → (pre_X9_takes 1 m ∧ ∀ (x : Int32) (m' : Mem), post_X9_takes 1 m x m' → J m'))) :=
  ⟨fun _ => ⟨hR, fun x m' h => by rw [(h.1 hw).2]; exact hJ⟩, fun _ => ⟨hR, fun x m' h => by rw [(h.1 hw).2]; exact hJ⟩⟩
theorem tail_W {J : Mem → Prop} {m : Mem} (hR : RM m) (h : ∀ (x : Int32) (m' : Mem), ((gi m 75 5 = 3 ∧ post_X9_takes 1 m x m') ∨ (¬ gi m 75 5 = 3 ∧ post_X9_takes 0 m x m')) → J m') : ((¬ gi m 75 5 = 3 → (pre_X9_takes 0 m ∧ ∀ (x : Int32) (m' : Mem), post_X9_takes 0 m x m' → J m')) ∧ (gi m 75 5 = 3 → (pre_X9_takes 1 m ∧ ∀ (x : Int32) (m' : Mem), post_X9_takes 1 m x m' → J m'))) :=
  ⟨fun q => ⟨hR, fun x m' z => h x m' (Or.inr ⟨q, z⟩)⟩, fun q => ⟨hR, fun x m' z => h x m' (Or.inl ⟨q, z⟩)⟩⟩
theorem hs_no {J : Mem → Prop} {rest : Int32 → Mem → Prop} {m : Mem} (hR : RM m) (hw : gi m 75 8 < 0) {s : Nat} (h6 : gi m 75 6 = nI s) (hs : s ≤ 200) (hJ : J (ui m 75 8 (nI s))) : (pre_X9_takes 0 m ∧ ∀ (x21 : Int32) (m22 : Mem), post_X9_takes 0 m x21 m22 → (pre_X9_isWell m22 ∧ ∀ (x24 : Int32) (m25 : Mem), post_X9_isWell m22 x24 m25 → ((x24 = 0 → ((¬ gi m25 75 5 = 3 → (pre_X9_takes 0 m25 ∧ ∀ (x : Int32) (m' : Mem), post_X9_takes 0 m25 x m' → J m')) ∧ (gi m25 75 5 = 3 → (pre_X9_takes 1 m25 ∧ ∀ (x : Int32) (m' : Mem), post_X9_takes 1 m25 x m' → J m')))) ∧ (¬ x24 = 0 → rest x21 m25)))) := by
  refine ⟨hR, fun x m22 h => ⟨trivial, ?_⟩⟩
  rintro y m25 ⟨hy, hm⟩
  obtain ⟨hR2, _, _⟩ := takes_rm hR h
  have e := ((h.2 hw).1 rfl).2
  have e8 : gi m22 75 8 = nI s := by rw [e, gi_ui, if_pos ⟨rfl, rfl⟩, h6]
  have nw : ¬ gi m22 75 8 < 0 := by rw [e8]; exact nI_pos (by omega)
  rw [if_neg nw] at hy
  rw [hm]
  refine ⟨fun _ => tail_F hR2 nw ?_, fun z => absurd hy z⟩
  rw [e, h6]; exact hJ
def S_X9_house : Tr := fun av μ P => av = [.ref 75] ∧ pre_X9_house  μ ∧ ∀ (x : Int32) (m : Mem), post_X9_house  μ x m → P (some (.int x)) m
def vc_X9_house_0   (μ : Mem) (R : Int32 → Mem → Prop) (J25 : Int32 → Mem → Prop) : Prop :=
  (∀ μ1, μ1 = ui μ 75 0 0 → (∀ μ3, μ3 = ui μ1 75 8 ((-1)) → (∀ μ5, μ5 = ui μ3 75 4 0 → (pre_X9_begins  μ5 ∧ ∀ (μ8 : Mem), post_X9_begins  μ5 μ8 → (pre_X9_advances  μ8 ∧ ∀ (μ11 : Mem), post_X9_advances  μ8 μ11 → J25 0 μ11)))))
set_option maxRecDepth 20000 in
set_option maxHeartbeats 4000000 in
theorem wk_X9_house_0 {X : XT} {P : Post} (hO : OkM X cX9_house RX9 5 (some .int) P) (hn : xn X = 3)    (μ : Mem) {R : Int32 → Mem → Prop} (hR : ∀ x m, R x m → P (some (.int x)) m) {J25 : Int32 → Mem → Prop} (hJ25 : ∀ (l1 : Int32) (m : Mem), J25 l1 m → V X 25 [some (.ref 75), some (.int l1), none] [] m)  (h : vc_X9_house_0   μ R J25) : V X 0 [some (.ref 75), none, none] [] μ := by
  have hX := hO.1
  unfold vc_X9_house_0 at h
  refine v_aload_n hX dX9_house_0 rfl (?_ : V X 1 [some (.ref 75), none, none] [.ref 75] μ)
  refine v_iconst hX 0 dX9_house_1 rfl (?_ : V X 2 [some (.ref 75), none, none] [.int 0, .ref 75] μ)
  refine w_puti hX fk_X9_74 fw_9_0 sh_75 rfl dX9_house_2 (fun μ1 e2 => (?_ : V X 5 [some (.ref 75), none, none] [] μ1))
  replace h := h μ1 e2
  refine v_aload_n hX dX9_house_5 rfl (?_ : V X 6 [some (.ref 75), none, none] [.ref 75] μ1)
  refine v_iconst hX (-1) dX9_house_6 rfl (?_ : V X 7 [some (.ref 75), none, none] [.int ((-1)), .ref 75] μ1)
  refine w_puti hX fk_X9_105 fw_9_8 sh_75 rfl dX9_house_7 (fun μ3 e4 => (?_ : V X 10 [some (.ref 75), none, none] [] μ3))
  replace h := h μ3 e4
  refine v_aload_n hX dX9_house_10 rfl (?_ : V X 11 [some (.ref 75), none, none] [.ref 75] μ3)
  refine v_iconst hX 0 dX9_house_11 rfl (?_ : V X 12 [some (.ref 75), none, none] [.int 0, .ref 75] μ3)
  refine w_puti hX fk_X9_85 fw_9_4 sh_75 rfl dX9_house_12 (fun μ5 e6 => (?_ : V X 15 [some (.ref 75), none, none] [] μ5))
  replace h := h μ5 e6
  refine v_aload_n hX dX9_house_15 rfl (?_ : V X 16 [some (.ref 75), none, none] [.ref 75] μ5)
  refine v_callV hX sp_X9_begins ck_X9_begins mk_X9_68 mv_X9_begins sh_75 (by decide) (by decide) [] [] rfl rfl (Nat.le_of_ble_eq_true rfl) dX9_house_16 ⟨rfl, h.1, fun μ8 hp9 => (?_ : V X 19 [some (.ref 75), none, none] [] μ8)⟩
  replace h := h.2 μ8 hp9
  refine v_iconst hX 0 dX9_house_19 rfl (?_ : V X 20 [some (.ref 75), none, none] [.int 0] μ8)
  refine v_istore_n hX dX9_house_20 (by rw [hn]; decide) (?_ : V X 21 [some (.ref 75), some (.int 0), none] [] μ8)
  refine v_aload_n hX dX9_house_21 rfl (?_ : V X 22 [some (.ref 75), some (.int 0), none] [.ref 75] μ8)
  refine v_callV hX sp_X9_advances ck_X9_advances mk_X9_112 mv_X9_advances sh_75 (by decide) (by decide) [] [] rfl rfl (Nat.le_of_ble_eq_true rfl) dX9_house_22 ⟨rfl, h.1, fun μ11 hp12 => (?_ : V X 25 [some (.ref 75), some (.int 0), none] [] μ11)⟩
  replace h := h.2 μ11 hp12
  exact v_mask [true, true, false] (hJ25 _ _ h)
def vc_X9_house_25  (l1 : Int32) (μ : Mem) (R : Int32 → Mem → Prop) (J25 : Int32 → Mem → Prop) : Prop :=
  (pre_X9_isWell  μ ∧ ∀ (x1 : Int32) (μ2 : Mem), post_X9_isWell  μ x1 μ2 → ((x1 = 0 → (pre_X9_isWell  μ2 ∧ ∀ (x5 : Int32) (μ6 : Mem), post_X9_isWell  μ2 x5 μ6 → ((¬ x5 = 0 → (pre_X9_settles  μ6 ∧ ∀ (μ10 : Mem), post_X9_settles  μ6 μ10 → R l1 μ10)) ∧ (x5 = 0 → R (((-10)) - (gi μ6 75 8)) μ6)))) ∧ (¬ x1 = 0 → (((gi μ2 75 5) = 0 → (pre_X9_isWell  μ2 ∧ ∀ (x13 : Int32) (μ14 : Mem), post_X9_isWell  μ2 x13 μ14 → ((¬ x13 = 0 → (pre_X9_settles  μ14 ∧ ∀ (μ18 : Mem), post_X9_settles  μ14 μ18 → R l1 μ18)) ∧ (x13 = 0 → R (((-10)) - (gi μ14 75 8)) μ14)))) ∧ (¬ (gi μ2 75 5) = 0 → ((¬ (gi μ2 75 5) = 1 → (pre_X9_takes 0 μ2 ∧ ∀ (x21 : Int32) (μ22 : Mem), post_X9_takes 0 μ2 x21 μ22 → (pre_X9_isWell  μ22 ∧ ∀ (x24 : Int32) (μ25 : Mem), post_X9_isWell  μ22 x24 μ25 → ((x24 = 0 → ((¬ (gi μ25 75 5) = 3 → (pre_X9_takes 0 μ25 ∧ ∀ (x29 : Int32) (μ30 : Mem), post_X9_takes 0 μ25 x29 μ30 → J25 (l1 + 1) μ30)) ∧ ((gi μ25 75 5) = 3 → (pre_X9_takes 1 μ25 ∧ ∀ (x32 : Int32) (μ33 : Mem), post_X9_takes 1 μ25 x32 μ33 → J25 (l1 + 1) μ33)))) ∧ (¬ x24 = 0 → (pre_X9_readsItem x21 μ25 ∧ ∀ (μ36 : Mem), post_X9_readsItem x21 μ25 μ36 → ((¬ (gi μ36 75 5) = 3 → (pre_X9_takes 0 μ36 ∧ ∀ (x39 : Int32) (μ40 : Mem), post_X9_takes 0 μ36 x39 μ40 → J25 (l1 + 1) μ40)) ∧ ((gi μ36 75 5) = 3 → (pre_X9_takes 1 μ36 ∧ ∀ (x42 : Int32) (μ43 : Mem), post_X9_takes 1 μ36 x42 μ43 → J25 (l1 + 1) μ43))))))))) ∧ ((gi μ2 75 5) = 1 → (pre_X9_mayBegin  μ2 ∧ ∀ (x45 : Int32) (μ46 : Mem), post_X9_mayBegin  μ2 x45 μ46 → ((x45 = 0 → (pre_X9_takes 0 μ46 ∧ ∀ (x49 : Int32) (μ50 : Mem), post_X9_takes 0 μ46 x49 μ50 → (pre_X9_isWell  μ50 ∧ ∀ (x52 : Int32) (μ53 : Mem), post_X9_isWell  μ50 x52 μ53 → ((x52 = 0 → ((¬ (gi μ53 75 5) = 3 → (pre_X9_takes 0 μ53 ∧ ∀ (x57 : Int32) (μ58 : Mem), post_X9_takes 0 μ53 x57 μ58 → J25 (l1 + 1) μ58)) ∧ ((gi μ53 75 5) = 3 → (pre_X9_takes 1 μ53 ∧ ∀ (x60 : Int32) (μ61 : Mem), post_X9_takes 1 μ53 x60 μ61 → J25 (l1 + 1) μ61)))) ∧ (¬ x52 = 0 → (pre_X9_readsItem x49 μ53 ∧ ∀ (μ64 : Mem), post_X9_readsItem x49 μ53 μ64 → ((¬ (gi μ64 75 5) = 3 → (pre_X9_takes 0 μ64 ∧ ∀ (x67 : Int32) (μ68 : Mem), post_X9_takes 0 μ64 x67 μ68 → J25 (l1 + 1) μ68)) ∧ ((gi μ64 75 5) = 3 → (pre_X9_takes 1 μ64 ∧ ∀ (x70 : Int32) (μ71 : Mem), post_X9_takes 1 μ64 x70 μ71 → J25 (l1 + 1) μ71))))))))) ∧ (¬ x45 = 0 → (pre_X9_takes 1 μ46 ∧ ∀ (x73 : Int32) (μ74 : Mem), post_X9_takes 1 μ46 x73 μ74 → (pre_X9_isWell  μ74 ∧ ∀ (x76 : Int32) (μ77 : Mem), post_X9_isWell  μ74 x76 μ77 → ((x76 = 0 → ((¬ (gi μ77 75 5) = 3 → (pre_X9_takes 0 μ77 ∧ ∀ (x81 : Int32) (μ82 : Mem), post_X9_takes 0 μ77 x81 μ82 → J25 (l1 + 1) μ82)) ∧ ((gi μ77 75 5) = 3 → (pre_X9_takes 1 μ77 ∧ ∀ (x84 : Int32) (μ85 : Mem), post_X9_takes 1 μ77 x84 μ85 → J25 (l1 + 1) μ85)))) ∧ (¬ x76 = 0 → (pre_X9_readsItem x73 μ77 ∧ ∀ (μ88 : Mem), post_X9_readsItem x73 μ77 μ88 → ((¬ (gi μ88 75 5) = 3 → (pre_X9_takes 0 μ88 ∧ ∀ (x91 : Int32) (μ92 : Mem), post_X9_takes 0 μ88 x91 μ92 → J25 (l1 + 1) μ92)) ∧ ((gi μ88 75 5) = 3 → (pre_X9_takes 1 μ88 ∧ ∀ (x94 : Int32) (μ95 : Mem), post_X9_takes 1 μ88 x94 μ95 → J25 (l1 + 1) μ95))))))))))))))))))
set_option maxRecDepth 20000 in
set_option maxHeartbeats 4000000 in
theorem wk_X9_house_25 {X : XT} {P : Post} (hO : OkM X cX9_house RX9 5 (some .int) P) (hn : xn X = 3)   (l1 : Int32) (μ : Mem) {R : Int32 → Mem → Prop} (hR : ∀ x m, R x m → P (some (.int x)) m) {J25 : Int32 → Mem → Prop} (hJ25 : ∀ (l1 : Int32) (m : Mem), J25 l1 m → V X 25 [some (.ref 75), some (.int l1), none] [] m)  (h : vc_X9_house_25  l1 μ R J25) : V X 25 [some (.ref 75), some (.int l1), none] [] μ := by
  have hX := hO.1
  unfold vc_X9_house_25 at h
  refine v_aload_n hX dX9_house_25 rfl (?_ : V X 26 [some (.ref 75), some (.int l1), none] [.ref 75] μ)
  refine v_callV hX sp_X9_isWell ck_X9_isWell mk_X9_108 mv_X9_isWell sh_75 (by decide) (by decide) [] [] rfl rfl (Nat.le_of_ble_eq_true rfl) dX9_house_26 ⟨rfl, h.1, fun x1 μ2 hp3 => (?_ : V X 29 [some (.ref 75), some (.int l1), none] [.int x1] μ2)⟩
  replace h := h.2 x1 μ2 hp3
  refine v_if_eq hX 100 dX9_house_29 rfl (fun c4 => ?_) (fun c4 => ?_)
  · replace h := h.1 c4
    refine v_aload_n hX dX9_house_100 rfl (?_ : V X 101 [some (.ref 75), some (.int l1), none] [.ref 75] μ2)
    refine v_callV hX sp_X9_isWell ck_X9_isWell mk_X9_108 mv_X9_isWell sh_75 (by decide) (by decide) [] [] rfl rfl (Nat.le_of_ble_eq_true rfl) dX9_house_101 ⟨rfl, h.1, fun x5 μ6 hp7 => (?_ : V X 104 [some (.ref 75), some (.int l1), none] [.int x5] μ6)⟩
    replace h := h.2 x5 μ6 hp7
    refine v_if_ne hX 115 dX9_house_104 rfl (fun c8 => ?_) (fun c8 => ?_)
    · replace h := h.1 c8
      refine v_aload_n hX dX9_house_115 rfl (?_ : V X 116 [some (.ref 75), some (.int l1), none] [.ref 75] μ6)
      refine v_callV hX sp_X9_settles ck_X9_settles mk_X9_71 mv_X9_settles sh_75 (by decide) (by decide) [] [] rfl rfl (Nat.le_of_ble_eq_true rfl) dX9_house_116 ⟨rfl, h.1, fun μ10 hp11 => (?_ : V X 119 [some (.ref 75), some (.int l1), none] [] μ10)⟩
      replace h := h.2 μ10 hp11
      refine v_iload_n hX dX9_house_119 rfl (?_ : V X 120 [some (.ref 75), some (.int l1), none] [.int l1] μ10)
      exact v_iret hO dX9_house_120 (hR _ _ h)
    · replace h := h.2 c8
      refine v_bipush hX (-10) dX9_house_107 rfl (?_ : V X 109 [some (.ref 75), some (.int l1), none] [.int ((-10))] μ6)
      refine v_aload_n hX dX9_house_109 rfl (?_ : V X 110 [some (.ref 75), some (.int l1), none] [.ref 75, .int ((-10))] μ6)
      refine v_geti hX fk_X9_105 sh_75 rfl dX9_house_110 (?_ : V X 113 [some (.ref 75), some (.int l1), none] [.int (gi μ6 75 8), .int ((-10))] μ6)
      refine v_isub hX dX9_house_113 (?_ : V X 114 [some (.ref 75), some (.int l1), none] [.int (((-10)) - (gi μ6 75 8))] μ6)
      exact v_iret hO dX9_house_114 (hR _ _ h)
  · replace h := h.2 c4
    refine v_aload_n hX dX9_house_32 rfl (?_ : V X 33 [some (.ref 75), some (.int l1), none] [.ref 75] μ2)
    refine v_geti hX fk_X9_95 sh_75 rfl dX9_house_33 (?_ : V X 36 [some (.ref 75), some (.int l1), none] [.int (gi μ2 75 5)] μ2)
    refine v_if_eq hX 100 dX9_house_36 rfl (fun c12 => ?_) (fun c12 => ?_)
    · replace h := h.1 c12
      refine v_aload_n hX dX9_house_100 rfl (?_ : V X 101 [some (.ref 75), some (.int l1), none] [.ref 75] μ2)
      refine v_callV hX sp_X9_isWell ck_X9_isWell mk_X9_108 mv_X9_isWell sh_75 (by decide) (by decide) [] [] rfl rfl (Nat.le_of_ble_eq_true rfl) dX9_house_101 ⟨rfl, h.1, fun x13 μ14 hp15 => (?_ : V X 104 [some (.ref 75), some (.int l1), none] [.int x13] μ14)⟩
      replace h := h.2 x13 μ14 hp15
      refine v_if_ne hX 115 dX9_house_104 rfl (fun c16 => ?_) (fun c16 => ?_)
      · replace h := h.1 c16
        refine v_aload_n hX dX9_house_115 rfl (?_ : V X 116 [some (.ref 75), some (.int l1), none] [.ref 75] μ14)
        refine v_callV hX sp_X9_settles ck_X9_settles mk_X9_71 mv_X9_settles sh_75 (by decide) (by decide) [] [] rfl rfl (Nat.le_of_ble_eq_true rfl) dX9_house_116 ⟨rfl, h.1, fun μ18 hp19 => (?_ : V X 119 [some (.ref 75), some (.int l1), none] [] μ18)⟩
        replace h := h.2 μ18 hp19
        refine v_iload_n hX dX9_house_119 rfl (?_ : V X 120 [some (.ref 75), some (.int l1), none] [.int l1] μ18)
        exact v_iret hO dX9_house_120 (hR _ _ h)
      · replace h := h.2 c16
        refine v_bipush hX (-10) dX9_house_107 rfl (?_ : V X 109 [some (.ref 75), some (.int l1), none] [.int ((-10))] μ14)
        refine v_aload_n hX dX9_house_109 rfl (?_ : V X 110 [some (.ref 75), some (.int l1), none] [.ref 75, .int ((-10))] μ14)
        refine v_geti hX fk_X9_105 sh_75 rfl dX9_house_110 (?_ : V X 113 [some (.ref 75), some (.int l1), none] [.int (gi μ14 75 8), .int ((-10))] μ14)
        refine v_isub hX dX9_house_113 (?_ : V X 114 [some (.ref 75), some (.int l1), none] [.int (((-10)) - (gi μ14 75 8))] μ14)
        exact v_iret hO dX9_house_114 (hR _ _ h)
    · replace h := h.2 c12
      refine v_aload_n hX dX9_house_39 rfl (?_ : V X 40 [some (.ref 75), some (.int l1), none] [.ref 75] μ2)
      refine v_aload_n hX dX9_house_40 rfl (?_ : V X 41 [some (.ref 75), some (.int l1), none] [.ref 75, .ref 75] μ2)
      refine v_geti hX fk_X9_95 sh_75 rfl dX9_house_41 (?_ : V X 44 [some (.ref 75), some (.int l1), none] [.int (gi μ2 75 5), .ref 75] μ2)
      refine v_iconst hX 1 dX9_house_44 rfl (?_ : V X 45 [some (.ref 75), some (.int l1), none] [.int 1, .int (gi μ2 75 5), .ref 75] μ2)
      refine v_icmp_ne hX 59 dX9_house_45 rfl (fun c20 => ?_) (fun c20 => ?_)
      · replace h := h.1 c20
        refine v_iconst hX 0 dX9_house_59 rfl (?_ : V X 60 [some (.ref 75), some (.int l1), none] [.int 0, .ref 75] μ2)
        refine v_callV hX sp_X9_takes ck_X9_takes mk_X9_115 mv_X9_takes sh_75 (by decide) (by decide) [.int 0] [] rfl rfl (Nat.le_of_ble_eq_true rfl) dX9_house_60 ⟨0, rfl, h.1, fun x21 μ22 hp23 => (?_ : V X 63 [some (.ref 75), some (.int l1), none] [.int x21] μ22)⟩
        replace h := h.2 x21 μ22 hp23
        refine v_istore_n hX dX9_house_63 (by rw [hn]; decide) (?_ : V X 64 [some (.ref 75), some (.int l1), some (.int x21)] [] μ22)
        refine v_aload_n hX dX9_house_64 rfl (?_ : V X 65 [some (.ref 75), some (.int l1), some (.int x21)] [.ref 75] μ22)
        refine v_callV hX sp_X9_isWell ck_X9_isWell mk_X9_108 mv_X9_isWell sh_75 (by decide) (by decide) [] [] rfl rfl (Nat.le_of_ble_eq_true rfl) dX9_house_65 ⟨rfl, h.1, fun x24 μ25 hp26 => (?_ : V X 68 [some (.ref 75), some (.int l1), some (.int x21)] [.int x24] μ25)⟩
        replace h := h.2 x24 μ25 hp26
        refine v_if_eq hX 76 dX9_house_68 rfl (fun c27 => ?_) (fun c27 => ?_)
        · replace h := h.1 c27
          refine v_aload_n hX dX9_house_76 rfl (?_ : V X 77 [some (.ref 75), some (.int l1), some (.int x21)] [.ref 75] μ25)
          refine v_aload_n hX dX9_house_77 rfl (?_ : V X 78 [some (.ref 75), some (.int l1), some (.int x21)] [.ref 75, .ref 75] μ25)
          refine v_geti hX fk_X9_95 sh_75 rfl dX9_house_78 (?_ : V X 81 [some (.ref 75), some (.int l1), some (.int x21)] [.int (gi μ25 75 5), .ref 75] μ25)
          refine v_iconst hX 3 dX9_house_81 rfl (?_ : V X 82 [some (.ref 75), some (.int l1), some (.int x21)] [.int 3, .int (gi μ25 75 5), .ref 75] μ25)
          refine v_icmp_ne hX 89 dX9_house_82 rfl (fun c28 => ?_) (fun c28 => ?_)
          · replace h := h.1 c28
            refine v_iconst hX 0 dX9_house_89 rfl (?_ : V X 90 [some (.ref 75), some (.int l1), some (.int x21)] [.int 0, .ref 75] μ25)
            refine v_callV hX sp_X9_takes ck_X9_takes mk_X9_115 mv_X9_takes sh_75 (by decide) (by decide) [.int 0] [] rfl rfl (Nat.le_of_ble_eq_true rfl) dX9_house_90 ⟨0, rfl, h.1, fun x29 μ30 hp31 => (?_ : V X 93 [some (.ref 75), some (.int l1), some (.int x21)] [.int x29] μ30)⟩
            replace h := h.2 x29 μ30 hp31
            refine v_pop hX dX9_house_93 rfl (?_ : V X 94 [some (.ref 75), some (.int l1), some (.int x21)] [] μ30)
            refine v_iinc hX 1 dX9_house_94 (by rw [hn]; decide) rfl rfl (?_ : V X 97 [some (.ref 75), some (.int (l1 + 1)), some (.int x21)] [] μ30)
            refine v_goto hX 25 dX9_house_97 rfl (?_ : V X 25 [some (.ref 75), some (.int (l1 + 1)), some (.int x21)] [] μ30)
            exact v_mask [true, true, false] (hJ25 _ _ h)
          · replace h := h.2 c28
            refine v_iconst hX 1 dX9_house_85 rfl (?_ : V X 86 [some (.ref 75), some (.int l1), some (.int x21)] [.int 1, .ref 75] μ25)
            refine v_goto hX 90 dX9_house_86 rfl (?_ : V X 90 [some (.ref 75), some (.int l1), some (.int x21)] [.int 1, .ref 75] μ25)
            refine v_callV hX sp_X9_takes ck_X9_takes mk_X9_115 mv_X9_takes sh_75 (by decide) (by decide) [.int 1] [] rfl rfl (Nat.le_of_ble_eq_true rfl) dX9_house_90 ⟨1, rfl, h.1, fun x32 μ33 hp34 => (?_ : V X 93 [some (.ref 75), some (.int l1), some (.int x21)] [.int x32] μ33)⟩
            replace h := h.2 x32 μ33 hp34
            refine v_pop hX dX9_house_93 rfl (?_ : V X 94 [some (.ref 75), some (.int l1), some (.int x21)] [] μ33)
            refine v_iinc hX 1 dX9_house_94 (by rw [hn]; decide) rfl rfl (?_ : V X 97 [some (.ref 75), some (.int (l1 + 1)), some (.int x21)] [] μ33)
            refine v_goto hX 25 dX9_house_97 rfl (?_ : V X 25 [some (.ref 75), some (.int (l1 + 1)), some (.int x21)] [] μ33)
            exact v_mask [true, true, false] (hJ25 _ _ h)
        · replace h := h.2 c27
          refine v_aload_n hX dX9_house_71 rfl (?_ : V X 72 [some (.ref 75), some (.int l1), some (.int x21)] [.ref 75] μ25)
          refine v_iload_n hX dX9_house_72 rfl (?_ : V X 73 [some (.ref 75), some (.int l1), some (.int x21)] [.int x21, .ref 75] μ25)
          refine v_callV hX sp_X9_readsItem ck_X9_readsItem mk_X9_132 mv_X9_readsItem sh_75 (by decide) (by decide) [.int x21] [] rfl rfl (Nat.le_of_ble_eq_true rfl) dX9_house_73 ⟨x21, rfl, h.1, fun μ36 hp37 => (?_ : V X 76 [some (.ref 75), some (.int l1), some (.int x21)] [] μ36)⟩
          replace h := h.2 μ36 hp37
          refine v_aload_n hX dX9_house_76 rfl (?_ : V X 77 [some (.ref 75), some (.int l1), some (.int x21)] [.ref 75] μ36)
          refine v_aload_n hX dX9_house_77 rfl (?_ : V X 78 [some (.ref 75), some (.int l1), some (.int x21)] [.ref 75, .ref 75] μ36)
          refine v_geti hX fk_X9_95 sh_75 rfl dX9_house_78 (?_ : V X 81 [some (.ref 75), some (.int l1), some (.int x21)] [.int (gi μ36 75 5), .ref 75] μ36)
          refine v_iconst hX 3 dX9_house_81 rfl (?_ : V X 82 [some (.ref 75), some (.int l1), some (.int x21)] [.int 3, .int (gi μ36 75 5), .ref 75] μ36)
          refine v_icmp_ne hX 89 dX9_house_82 rfl (fun c38 => ?_) (fun c38 => ?_)
          · replace h := h.1 c38
            refine v_iconst hX 0 dX9_house_89 rfl (?_ : V X 90 [some (.ref 75), some (.int l1), some (.int x21)] [.int 0, .ref 75] μ36)
            refine v_callV hX sp_X9_takes ck_X9_takes mk_X9_115 mv_X9_takes sh_75 (by decide) (by decide) [.int 0] [] rfl rfl (Nat.le_of_ble_eq_true rfl) dX9_house_90 ⟨0, rfl, h.1, fun x39 μ40 hp41 => (?_ : V X 93 [some (.ref 75), some (.int l1), some (.int x21)] [.int x39] μ40)⟩
            replace h := h.2 x39 μ40 hp41
            refine v_pop hX dX9_house_93 rfl (?_ : V X 94 [some (.ref 75), some (.int l1), some (.int x21)] [] μ40)
            refine v_iinc hX 1 dX9_house_94 (by rw [hn]; decide) rfl rfl (?_ : V X 97 [some (.ref 75), some (.int (l1 + 1)), some (.int x21)] [] μ40)
            refine v_goto hX 25 dX9_house_97 rfl (?_ : V X 25 [some (.ref 75), some (.int (l1 + 1)), some (.int x21)] [] μ40)
            exact v_mask [true, true, false] (hJ25 _ _ h)
          · replace h := h.2 c38
            refine v_iconst hX 1 dX9_house_85 rfl (?_ : V X 86 [some (.ref 75), some (.int l1), some (.int x21)] [.int 1, .ref 75] μ36)
            refine v_goto hX 90 dX9_house_86 rfl (?_ : V X 90 [some (.ref 75), some (.int l1), some (.int x21)] [.int 1, .ref 75] μ36)
            refine v_callV hX sp_X9_takes ck_X9_takes mk_X9_115 mv_X9_takes sh_75 (by decide) (by decide) [.int 1] [] rfl rfl (Nat.le_of_ble_eq_true rfl) dX9_house_90 ⟨1, rfl, h.1, fun x42 μ43 hp44 => (?_ : V X 93 [some (.ref 75), some (.int l1), some (.int x21)] [.int x42] μ43)⟩
            replace h := h.2 x42 μ43 hp44
            refine v_pop hX dX9_house_93 rfl (?_ : V X 94 [some (.ref 75), some (.int l1), some (.int x21)] [] μ43)
            refine v_iinc hX 1 dX9_house_94 (by rw [hn]; decide) rfl rfl (?_ : V X 97 [some (.ref 75), some (.int (l1 + 1)), some (.int x21)] [] μ43)
            refine v_goto hX 25 dX9_house_97 rfl (?_ : V X 25 [some (.ref 75), some (.int (l1 + 1)), some (.int x21)] [] μ43)
            exact v_mask [true, true, false] (hJ25 _ _ h)
      · replace h := h.2 c20
        refine v_aload_n hX dX9_house_48 rfl (?_ : V X 49 [some (.ref 75), some (.int l1), none] [.ref 75, .ref 75] μ2)
        refine v_callV hX sp_X9_mayBegin ck_X9_mayBegin mk_X9_129 mv_X9_mayBegin sh_75 (by decide) (by decide) [] [.ref 75] rfl rfl (Nat.le_of_ble_eq_true rfl) dX9_house_49 ⟨rfl, h.1, fun x45 μ46 hp47 => (?_ : V X 52 [some (.ref 75), some (.int l1), none] [.int x45, .ref 75] μ46)⟩
        replace h := h.2 x45 μ46 hp47
        refine v_if_eq hX 59 dX9_house_52 rfl (fun c48 => ?_) (fun c48 => ?_)
        · replace h := h.1 c48
          refine v_iconst hX 0 dX9_house_59 rfl (?_ : V X 60 [some (.ref 75), some (.int l1), none] [.int 0, .ref 75] μ46)
          refine v_callV hX sp_X9_takes ck_X9_takes mk_X9_115 mv_X9_takes sh_75 (by decide) (by decide) [.int 0] [] rfl rfl (Nat.le_of_ble_eq_true rfl) dX9_house_60 ⟨0, rfl, h.1, fun x49 μ50 hp51 => (?_ : V X 63 [some (.ref 75), some (.int l1), none] [.int x49] μ50)⟩
          replace h := h.2 x49 μ50 hp51
          refine v_istore_n hX dX9_house_63 (by rw [hn]; decide) (?_ : V X 64 [some (.ref 75), some (.int l1), some (.int x49)] [] μ50)
          refine v_aload_n hX dX9_house_64 rfl (?_ : V X 65 [some (.ref 75), some (.int l1), some (.int x49)] [.ref 75] μ50)
          refine v_callV hX sp_X9_isWell ck_X9_isWell mk_X9_108 mv_X9_isWell sh_75 (by decide) (by decide) [] [] rfl rfl (Nat.le_of_ble_eq_true rfl) dX9_house_65 ⟨rfl, h.1, fun x52 μ53 hp54 => (?_ : V X 68 [some (.ref 75), some (.int l1), some (.int x49)] [.int x52] μ53)⟩
          replace h := h.2 x52 μ53 hp54
          refine v_if_eq hX 76 dX9_house_68 rfl (fun c55 => ?_) (fun c55 => ?_)
          · replace h := h.1 c55
            refine v_aload_n hX dX9_house_76 rfl (?_ : V X 77 [some (.ref 75), some (.int l1), some (.int x49)] [.ref 75] μ53)
            refine v_aload_n hX dX9_house_77 rfl (?_ : V X 78 [some (.ref 75), some (.int l1), some (.int x49)] [.ref 75, .ref 75] μ53)
            refine v_geti hX fk_X9_95 sh_75 rfl dX9_house_78 (?_ : V X 81 [some (.ref 75), some (.int l1), some (.int x49)] [.int (gi μ53 75 5), .ref 75] μ53)
            refine v_iconst hX 3 dX9_house_81 rfl (?_ : V X 82 [some (.ref 75), some (.int l1), some (.int x49)] [.int 3, .int (gi μ53 75 5), .ref 75] μ53)
            refine v_icmp_ne hX 89 dX9_house_82 rfl (fun c56 => ?_) (fun c56 => ?_)
            · replace h := h.1 c56
              refine v_iconst hX 0 dX9_house_89 rfl (?_ : V X 90 [some (.ref 75), some (.int l1), some (.int x49)] [.int 0, .ref 75] μ53)
              refine v_callV hX sp_X9_takes ck_X9_takes mk_X9_115 mv_X9_takes sh_75 (by decide) (by decide) [.int 0] [] rfl rfl (Nat.le_of_ble_eq_true rfl) dX9_house_90 ⟨0, rfl, h.1, fun x57 μ58 hp59 => (?_ : V X 93 [some (.ref 75), some (.int l1), some (.int x49)] [.int x57] μ58)⟩
              replace h := h.2 x57 μ58 hp59
              refine v_pop hX dX9_house_93 rfl (?_ : V X 94 [some (.ref 75), some (.int l1), some (.int x49)] [] μ58)
              refine v_iinc hX 1 dX9_house_94 (by rw [hn]; decide) rfl rfl (?_ : V X 97 [some (.ref 75), some (.int (l1 + 1)), some (.int x49)] [] μ58)
              refine v_goto hX 25 dX9_house_97 rfl (?_ : V X 25 [some (.ref 75), some (.int (l1 + 1)), some (.int x49)] [] μ58)
              exact v_mask [true, true, false] (hJ25 _ _ h)
            · replace h := h.2 c56
              refine v_iconst hX 1 dX9_house_85 rfl (?_ : V X 86 [some (.ref 75), some (.int l1), some (.int x49)] [.int 1, .ref 75] μ53)
              refine v_goto hX 90 dX9_house_86 rfl (?_ : V X 90 [some (.ref 75), some (.int l1), some (.int x49)] [.int 1, .ref 75] μ53)
              refine v_callV hX sp_X9_takes ck_X9_takes mk_X9_115 mv_X9_takes sh_75 (by decide) (by decide) [.int 1] [] rfl rfl (Nat.le_of_ble_eq_true rfl) dX9_house_90 ⟨1, rfl, h.1, fun x60 μ61 hp62 => (?_ : V X 93 [some (.ref 75), some (.int l1), some (.int x49)] [.int x60] μ61)⟩
              replace h := h.2 x60 μ61 hp62
              refine v_pop hX dX9_house_93 rfl (?_ : V X 94 [some (.ref 75), some (.int l1), some (.int x49)] [] μ61)
              refine v_iinc hX 1 dX9_house_94 (by rw [hn]; decide) rfl rfl (?_ : V X 97 [some (.ref 75), some (.int (l1 + 1)), some (.int x49)] [] μ61)
              refine v_goto hX 25 dX9_house_97 rfl (?_ : V X 25 [some (.ref 75), some (.int (l1 + 1)), some (.int x49)] [] μ61)
              exact v_mask [true, true, false] (hJ25 _ _ h)
          · replace h := h.2 c55
            refine v_aload_n hX dX9_house_71 rfl (?_ : V X 72 [some (.ref 75), some (.int l1), some (.int x49)] [.ref 75] μ53)
            refine v_iload_n hX dX9_house_72 rfl (?_ : V X 73 [some (.ref 75), some (.int l1), some (.int x49)] [.int x49, .ref 75] μ53)
            refine v_callV hX sp_X9_readsItem ck_X9_readsItem mk_X9_132 mv_X9_readsItem sh_75 (by decide) (by decide) [.int x49] [] rfl rfl (Nat.le_of_ble_eq_true rfl) dX9_house_73 ⟨x49, rfl, h.1, fun μ64 hp65 => (?_ : V X 76 [some (.ref 75), some (.int l1), some (.int x49)] [] μ64)⟩
            replace h := h.2 μ64 hp65
            refine v_aload_n hX dX9_house_76 rfl (?_ : V X 77 [some (.ref 75), some (.int l1), some (.int x49)] [.ref 75] μ64)
            refine v_aload_n hX dX9_house_77 rfl (?_ : V X 78 [some (.ref 75), some (.int l1), some (.int x49)] [.ref 75, .ref 75] μ64)
            refine v_geti hX fk_X9_95 sh_75 rfl dX9_house_78 (?_ : V X 81 [some (.ref 75), some (.int l1), some (.int x49)] [.int (gi μ64 75 5), .ref 75] μ64)
            refine v_iconst hX 3 dX9_house_81 rfl (?_ : V X 82 [some (.ref 75), some (.int l1), some (.int x49)] [.int 3, .int (gi μ64 75 5), .ref 75] μ64)
            refine v_icmp_ne hX 89 dX9_house_82 rfl (fun c66 => ?_) (fun c66 => ?_)
            · replace h := h.1 c66
              refine v_iconst hX 0 dX9_house_89 rfl (?_ : V X 90 [some (.ref 75), some (.int l1), some (.int x49)] [.int 0, .ref 75] μ64)
              refine v_callV hX sp_X9_takes ck_X9_takes mk_X9_115 mv_X9_takes sh_75 (by decide) (by decide) [.int 0] [] rfl rfl (Nat.le_of_ble_eq_true rfl) dX9_house_90 ⟨0, rfl, h.1, fun x67 μ68 hp69 => (?_ : V X 93 [some (.ref 75), some (.int l1), some (.int x49)] [.int x67] μ68)⟩
              replace h := h.2 x67 μ68 hp69
              refine v_pop hX dX9_house_93 rfl (?_ : V X 94 [some (.ref 75), some (.int l1), some (.int x49)] [] μ68)
              refine v_iinc hX 1 dX9_house_94 (by rw [hn]; decide) rfl rfl (?_ : V X 97 [some (.ref 75), some (.int (l1 + 1)), some (.int x49)] [] μ68)
              refine v_goto hX 25 dX9_house_97 rfl (?_ : V X 25 [some (.ref 75), some (.int (l1 + 1)), some (.int x49)] [] μ68)
              exact v_mask [true, true, false] (hJ25 _ _ h)
            · replace h := h.2 c66
              refine v_iconst hX 1 dX9_house_85 rfl (?_ : V X 86 [some (.ref 75), some (.int l1), some (.int x49)] [.int 1, .ref 75] μ64)
              refine v_goto hX 90 dX9_house_86 rfl (?_ : V X 90 [some (.ref 75), some (.int l1), some (.int x49)] [.int 1, .ref 75] μ64)
              refine v_callV hX sp_X9_takes ck_X9_takes mk_X9_115 mv_X9_takes sh_75 (by decide) (by decide) [.int 1] [] rfl rfl (Nat.le_of_ble_eq_true rfl) dX9_house_90 ⟨1, rfl, h.1, fun x70 μ71 hp72 => (?_ : V X 93 [some (.ref 75), some (.int l1), some (.int x49)] [.int x70] μ71)⟩
              replace h := h.2 x70 μ71 hp72
              refine v_pop hX dX9_house_93 rfl (?_ : V X 94 [some (.ref 75), some (.int l1), some (.int x49)] [] μ71)
              refine v_iinc hX 1 dX9_house_94 (by rw [hn]; decide) rfl rfl (?_ : V X 97 [some (.ref 75), some (.int (l1 + 1)), some (.int x49)] [] μ71)
              refine v_goto hX 25 dX9_house_97 rfl (?_ : V X 25 [some (.ref 75), some (.int (l1 + 1)), some (.int x49)] [] μ71)
              exact v_mask [true, true, false] (hJ25 _ _ h)
        · replace h := h.2 c48
          refine v_iconst hX 1 dX9_house_55 rfl (?_ : V X 56 [some (.ref 75), some (.int l1), none] [.int 1, .ref 75] μ46)
          refine v_goto hX 60 dX9_house_56 rfl (?_ : V X 60 [some (.ref 75), some (.int l1), none] [.int 1, .ref 75] μ46)
          refine v_callV hX sp_X9_takes ck_X9_takes mk_X9_115 mv_X9_takes sh_75 (by decide) (by decide) [.int 1] [] rfl rfl (Nat.le_of_ble_eq_true rfl) dX9_house_60 ⟨1, rfl, h.1, fun x73 μ74 hp75 => (?_ : V X 63 [some (.ref 75), some (.int l1), none] [.int x73] μ74)⟩
          replace h := h.2 x73 μ74 hp75
          refine v_istore_n hX dX9_house_63 (by rw [hn]; decide) (?_ : V X 64 [some (.ref 75), some (.int l1), some (.int x73)] [] μ74)
          refine v_aload_n hX dX9_house_64 rfl (?_ : V X 65 [some (.ref 75), some (.int l1), some (.int x73)] [.ref 75] μ74)
          refine v_callV hX sp_X9_isWell ck_X9_isWell mk_X9_108 mv_X9_isWell sh_75 (by decide) (by decide) [] [] rfl rfl (Nat.le_of_ble_eq_true rfl) dX9_house_65 ⟨rfl, h.1, fun x76 μ77 hp78 => (?_ : V X 68 [some (.ref 75), some (.int l1), some (.int x73)] [.int x76] μ77)⟩
          replace h := h.2 x76 μ77 hp78
          refine v_if_eq hX 76 dX9_house_68 rfl (fun c79 => ?_) (fun c79 => ?_)
          · replace h := h.1 c79
            refine v_aload_n hX dX9_house_76 rfl (?_ : V X 77 [some (.ref 75), some (.int l1), some (.int x73)] [.ref 75] μ77)
            refine v_aload_n hX dX9_house_77 rfl (?_ : V X 78 [some (.ref 75), some (.int l1), some (.int x73)] [.ref 75, .ref 75] μ77)
            refine v_geti hX fk_X9_95 sh_75 rfl dX9_house_78 (?_ : V X 81 [some (.ref 75), some (.int l1), some (.int x73)] [.int (gi μ77 75 5), .ref 75] μ77)
            refine v_iconst hX 3 dX9_house_81 rfl (?_ : V X 82 [some (.ref 75), some (.int l1), some (.int x73)] [.int 3, .int (gi μ77 75 5), .ref 75] μ77)
            refine v_icmp_ne hX 89 dX9_house_82 rfl (fun c80 => ?_) (fun c80 => ?_)
            · replace h := h.1 c80
              refine v_iconst hX 0 dX9_house_89 rfl (?_ : V X 90 [some (.ref 75), some (.int l1), some (.int x73)] [.int 0, .ref 75] μ77)
              refine v_callV hX sp_X9_takes ck_X9_takes mk_X9_115 mv_X9_takes sh_75 (by decide) (by decide) [.int 0] [] rfl rfl (Nat.le_of_ble_eq_true rfl) dX9_house_90 ⟨0, rfl, h.1, fun x81 μ82 hp83 => (?_ : V X 93 [some (.ref 75), some (.int l1), some (.int x73)] [.int x81] μ82)⟩
              replace h := h.2 x81 μ82 hp83
              refine v_pop hX dX9_house_93 rfl (?_ : V X 94 [some (.ref 75), some (.int l1), some (.int x73)] [] μ82)
              refine v_iinc hX 1 dX9_house_94 (by rw [hn]; decide) rfl rfl (?_ : V X 97 [some (.ref 75), some (.int (l1 + 1)), some (.int x73)] [] μ82)
              refine v_goto hX 25 dX9_house_97 rfl (?_ : V X 25 [some (.ref 75), some (.int (l1 + 1)), some (.int x73)] [] μ82)
              exact v_mask [true, true, false] (hJ25 _ _ h)
            · replace h := h.2 c80
              refine v_iconst hX 1 dX9_house_85 rfl (?_ : V X 86 [some (.ref 75), some (.int l1), some (.int x73)] [.int 1, .ref 75] μ77)
              refine v_goto hX 90 dX9_house_86 rfl (?_ : V X 90 [some (.ref 75), some (.int l1), some (.int x73)] [.int 1, .ref 75] μ77)
              refine v_callV hX sp_X9_takes ck_X9_takes mk_X9_115 mv_X9_takes sh_75 (by decide) (by decide) [.int 1] [] rfl rfl (Nat.le_of_ble_eq_true rfl) dX9_house_90 ⟨1, rfl, h.1, fun x84 μ85 hp86 => (?_ : V X 93 [some (.ref 75), some (.int l1), some (.int x73)] [.int x84] μ85)⟩
              replace h := h.2 x84 μ85 hp86
              refine v_pop hX dX9_house_93 rfl (?_ : V X 94 [some (.ref 75), some (.int l1), some (.int x73)] [] μ85)
              refine v_iinc hX 1 dX9_house_94 (by rw [hn]; decide) rfl rfl (?_ : V X 97 [some (.ref 75), some (.int (l1 + 1)), some (.int x73)] [] μ85)
              refine v_goto hX 25 dX9_house_97 rfl (?_ : V X 25 [some (.ref 75), some (.int (l1 + 1)), some (.int x73)] [] μ85)
              exact v_mask [true, true, false] (hJ25 _ _ h)
          · replace h := h.2 c79
            refine v_aload_n hX dX9_house_71 rfl (?_ : V X 72 [some (.ref 75), some (.int l1), some (.int x73)] [.ref 75] μ77)
            refine v_iload_n hX dX9_house_72 rfl (?_ : V X 73 [some (.ref 75), some (.int l1), some (.int x73)] [.int x73, .ref 75] μ77)
            refine v_callV hX sp_X9_readsItem ck_X9_readsItem mk_X9_132 mv_X9_readsItem sh_75 (by decide) (by decide) [.int x73] [] rfl rfl (Nat.le_of_ble_eq_true rfl) dX9_house_73 ⟨x73, rfl, h.1, fun μ88 hp89 => (?_ : V X 76 [some (.ref 75), some (.int l1), some (.int x73)] [] μ88)⟩
            replace h := h.2 μ88 hp89
            refine v_aload_n hX dX9_house_76 rfl (?_ : V X 77 [some (.ref 75), some (.int l1), some (.int x73)] [.ref 75] μ88)
            refine v_aload_n hX dX9_house_77 rfl (?_ : V X 78 [some (.ref 75), some (.int l1), some (.int x73)] [.ref 75, .ref 75] μ88)
            refine v_geti hX fk_X9_95 sh_75 rfl dX9_house_78 (?_ : V X 81 [some (.ref 75), some (.int l1), some (.int x73)] [.int (gi μ88 75 5), .ref 75] μ88)
            refine v_iconst hX 3 dX9_house_81 rfl (?_ : V X 82 [some (.ref 75), some (.int l1), some (.int x73)] [.int 3, .int (gi μ88 75 5), .ref 75] μ88)
            refine v_icmp_ne hX 89 dX9_house_82 rfl (fun c90 => ?_) (fun c90 => ?_)
            · replace h := h.1 c90
              refine v_iconst hX 0 dX9_house_89 rfl (?_ : V X 90 [some (.ref 75), some (.int l1), some (.int x73)] [.int 0, .ref 75] μ88)
              refine v_callV hX sp_X9_takes ck_X9_takes mk_X9_115 mv_X9_takes sh_75 (by decide) (by decide) [.int 0] [] rfl rfl (Nat.le_of_ble_eq_true rfl) dX9_house_90 ⟨0, rfl, h.1, fun x91 μ92 hp93 => (?_ : V X 93 [some (.ref 75), some (.int l1), some (.int x73)] [.int x91] μ92)⟩
              replace h := h.2 x91 μ92 hp93
              refine v_pop hX dX9_house_93 rfl (?_ : V X 94 [some (.ref 75), some (.int l1), some (.int x73)] [] μ92)
              refine v_iinc hX 1 dX9_house_94 (by rw [hn]; decide) rfl rfl (?_ : V X 97 [some (.ref 75), some (.int (l1 + 1)), some (.int x73)] [] μ92)
              refine v_goto hX 25 dX9_house_97 rfl (?_ : V X 25 [some (.ref 75), some (.int (l1 + 1)), some (.int x73)] [] μ92)
              exact v_mask [true, true, false] (hJ25 _ _ h)
            · replace h := h.2 c90
              refine v_iconst hX 1 dX9_house_85 rfl (?_ : V X 86 [some (.ref 75), some (.int l1), some (.int x73)] [.int 1, .ref 75] μ88)
              refine v_goto hX 90 dX9_house_86 rfl (?_ : V X 90 [some (.ref 75), some (.int l1), some (.int x73)] [.int 1, .ref 75] μ88)
              refine v_callV hX sp_X9_takes ck_X9_takes mk_X9_115 mv_X9_takes sh_75 (by decide) (by decide) [.int 1] [] rfl rfl (Nat.le_of_ble_eq_true rfl) dX9_house_90 ⟨1, rfl, h.1, fun x94 μ95 hp96 => (?_ : V X 93 [some (.ref 75), some (.int l1), some (.int x73)] [.int x94] μ95)⟩
              replace h := h.2 x94 μ95 hp96
              refine v_pop hX dX9_house_93 rfl (?_ : V X 94 [some (.ref 75), some (.int l1), some (.int x73)] [] μ95)
              refine v_iinc hX 1 dX9_house_94 (by rw [hn]; decide) rfl rfl (?_ : V X 97 [some (.ref 75), some (.int (l1 + 1)), some (.int x73)] [] μ95)
              refine v_goto hX 25 dX9_house_97 rfl (?_ : V X 25 [some (.ref 75), some (.int (l1 + 1)), some (.int x73)] [] μ95)
              exact v_mask [true, true, false] (hJ25 _ _ h)
set_option maxRecDepth 20000 in
set_option maxHeartbeats 1000000 in
theorem vp_X9_house_0   (μ : Mem) (hpre : pre_X9_house  μ) : vc_X9_house_0  μ (post_X9_house  μ) (fun l1 m => ∃ k : Nat, inv_X9_house_25  μ k l1 m) := by
  unfold vc_X9_house_0
  obtain ⟨hN, hT⟩ := hpre
  have h200 := hN.2
  refine fun m1 h1 m3 h3 m5 h5 => ⟨trivial, ?_⟩
  rintro m8 ⟨b0, b1, b2, b3, b4, b5, b6, b7, b8, b9⟩
  have f5 : fr [75] μ m5 := by rw [h5, h3, h1]; exact fr_trans (fr_trans (fr_ui (by simp)) (fr_ui (by simp))) (fr_ui (by simp))
  have e5 : ∀ k, k ≠ 0 → k ≠ 4 → k ≠ 8 → gi m5 75 k = gi μ 75 k := fun k z0 z4 z8 => by
    rw [h5, gi_ui, if_neg (by omega), h3, gi_ui, if_neg (by omega), h1, gi_ui, if_neg (by omega)]
  have e54 : gi m5 75 4 = 0 := by rw [h5, gi_ui, if_pos ⟨rfl, rfl⟩]
  have e58 : gi m5 75 8 = -1 := by rw [h5, gi_ui, if_neg (by omega), h3, gi_ui, if_pos ⟨rfl, rfl⟩]
  have e83 : gi m8 75 3 = gi μ 75 3 := by rw [b1 3 (by omega), e5 3 (by omega) (by omega) (by omega)]
  have e84 : gi m8 75 4 = nI 0 := by rw [b1 4 (by omega), e54]; rfl
  have e876 : ∀ j, gi m8 76 j = gi μ 76 j := fun j => by rw [b0.1 76 (by simp), f5.1 76 (by simp)]
  have g3 : gn m8 75 3 = gn μ 75 3 := by unfold gn; rw [e83]
  have g4 : gn m8 75 4 = 0 := by unfold gn; rw [e84, nI_clamp (by omega)]
  have hR8 : RM m8 := by
    refine ⟨by unfold isN; rw [g3, e83]; exact hN, by unfold isN; rw [g4]; exact ⟨e84, by omega⟩, by omega, fun j hj => ?_⟩
    rw [e876]; exact hT j (by omega)
  have f8 : frM μ m8 := by
    refine ⟨fr_trans (fr_mono f5 (by simp)) (fr_mono b0 (by simp)), fun k hk => ?_, fun k hk => ⟨?_, ?_⟩, fun k hk => ⟨?_, ?_, ?_, ?_⟩⟩
    · simp at hk
      rw [b1 k (by omega), e5 k (by omega) (by omega) (by omega)]
    · rw [b3 k hk, f5.1 77 (by simp)]
    · rw [b0.1 83 (by simp), f5.1 83 (by simp)]
    · rw [b0.1 79 (by simp), f5.1 79 (by simp)]
    · rw [b0.1 80 (by simp), f5.1 80 (by simp)]
    · rw [b0.1 81 (by simp), f5.1 81 (by simp)]
    · rw [b0.1 82 (by simp), f5.1 82 (by simp)]
  refine ⟨hR8, ?_⟩
  rintro m11 ⟨c0, c1, a, k1, k2, k3⟩
  have eT : gi m8 76 = gi μ 76 := funext e876
  rw [eT, g3, g4] at k1
  rw [eT, g3] at k3
  obtain ⟨b, hb, h4⟩ := tok_4 k1.2.1 k3
  refine ⟨1000, RM_of hR8 (c1 3 (by simp)) (fun j => c0.1 76 (by simp) j) h4 (by omega), frM_fr75 f8 c0 (f75_mono c1 (by simp <;> omega)), Or.inr ⟨?_, 0, 0, D0, by omega, by omega, rfl, ⟨rfl, rfl⟩, D0_ok, agM_fr c0 (c1 10 (by simp)) ?_, a, k1, k2, k3⟩⟩
  · rw [c1 8 (by simp), b1 8 (by omega), e58]; decide
  · refine ⟨fun k hk => ?_, fun i hi => ?_, fun i hi => ?_, fun i hi => ?_, 0, by omega, b2, by decide⟩
    · have : k = 0 ∨ k = 1 ∨ k = 2 ∨ k = 3 ∨ k = 4 ∨ k = 5 := by omega
      rcases this with rfl | rfl | rfl | rfl | rfl | rfl
      · exact b4
      · exact b5
      · exact b6
      · exact b7
      · exact b8
      · exact b9
    · rw [show dn D0 0 = 0 from by decide] at hi; omega
    · rw [show dn D0 1 = 0 from by decide] at hi; omega
    · rw [show dn D0 2 = 0 from by decide] at hi; omega
set_option maxRecDepth 20000 in
set_option maxHeartbeats 1000000 in
theorem vp_X9_house_25   (μ : Mem) (hpre : pre_X9_house  μ) (n : Nat) (l1 : Int32) (μ0 : Mem) (hi : inv_X9_house_25  μ n l1 μ0) : vc_X9_house_25  l1 μ0 (post_X9_house  μ) (fun l1 m => ∃ k : Nat, k < n ∧ inv_X9_house_25  μ k l1 m) := by
  unfold vc_X9_house_25
  obtain ⟨hR, hf, hi⟩ := hi
  have h200 := hpre.1.2
  have e3 : gi μ0 75 3 = gi μ 75 3 := hf.2.1 3 (by simp)
  have eT : gi μ0 76 = gi μ 76 := funext fun j => hf.1.1 76 (by simp) j
  have g3 : gn μ0 75 3 = gn μ 75 3 := by unfold gn; rw [e3]
  refine ⟨trivial, ?_⟩
  rintro x1 m2 ⟨hx1, hm2⟩
  rw [hm2]
  rcases hi with ⟨f, hF, hf200, h8, hn0⟩ | ⟨hw, k, a, D, hk, hnn, hl, hP, hD, hA, ht⟩
  · have nw : ¬ gi μ0 75 8 < 0 := by rw [h8]; exact nI_pos (by omega)
    rw [if_neg nw] at hx1
    refine ⟨fun _ => ⟨trivial, ?_⟩, fun z => absurd hx1 z⟩
    rintro x5 m6 ⟨hx5, hm6⟩
    rw [if_neg nw] at hx5
    rw [hm6]
    exact ⟨fun z => absurd hx5 z, fun _ => Or.inl ⟨f, hF, by rw [h8], hf⟩⟩
  · rw [if_pos hw] at hx1
    refine ⟨fun z => absurd (hx1.symm.trans z) (by decide), fun _ => ⟨fun h5 => ⟨trivial, ?_⟩, fun h5 => ?_⟩⟩
    · rintro x5 m6 ⟨hx5, hm6⟩
      rw [if_pos hw] at hx5
      rw [hm6]
      exact ⟨fun _ => ⟨trivial, fun m10 hs => by rw [hl]; exact hs_end hf hD hA hP ht h5 hs⟩, fun z => absurd (hx5.symm.trans z) (by decide)⟩
    · have ht' := ht
      obtain ⟨s, hs1, h6, tk⟩ := ht'
      have hsn := hs1.2.1
      have hsl : s < gn μ 75 3 := by
        have : ¬ s = gn μ 75 3 := fun z => h5 ((tok_end tk).mpr z)
        omega
      have hpl := pf_place hP
      have hsa := hs1.1
      have mkF : ∀ f, f ≤ gn μ 75 3 → ItF (gi μ 76) (gn μ 75 3) s D f → ∀ m', RM m' → frM μ m' → gi m' 75 8 = nI f → ∃ k, k < n ∧ inv_X9_house_25 μ k (l1 + 1) m' := fun f hf1 hI m' hRm hfm h8 =>
        ⟨0, by omega, hRm, hfm, Or.inl ⟨f, ⟨k, a, s, D, hP, hs1, hsl, hI⟩, by omega, h8, rfl⟩⟩
      have noJ : BdF (gi μ 76) (gn μ 75 3) s D s → ∃ k, k < n ∧ inv_X9_house_25 μ k (l1 + 1) (ui μ0 75 8 (nI s)) := fun hB =>
        mkF s (by omega) (Or.inl hB) _ (RM_id hR (by rw [gi_ui, if_neg (by omega)]) (fun j => by rw [gi_ui, if_neg (by omega)]) (by rw [gi_ui, if_neg (by omega)])) (frM_fr75 hf (fr_ui (by simp)) (fun j hj => by rw [gi_ui, if_neg (fun y => hj (by rw [y.2]; simp))])) (by rw [gi_ui, if_pos ⟨rfl, rfl⟩])
      refine ⟨fun q => hs_no (J := fun m => ∃ k, k < n ∧ inv_X9_house_25 μ k (l1 + 1) m) hR hw h6 (by omega) (noJ (no_let ((tok_let tk).2 q hsl))), fun q => ⟨trivial, ?_⟩⟩
      obtain ⟨_, hlet, h7, h4⟩ := (tok_let tk).1 q
      rintro x45 m46 ⟨hx45, hm46⟩
      rw [hm46]
      rw [h7] at hx45
      refine ⟨fun z => hs_no (J := fun m => ∃ k, k < n ∧ inv_X9_house_25 μ k (l1 + 1) m) hR hw h6 (by omega) (noJ (may_no hA hlet (fun y => absurd ((hx45.1 y).symm.trans z) (by decide)))), fun z => ⟨hR, fun x73 m74 ht1 => ⟨trivial, ?_⟩⟩⟩
      have hmay : mayF μ0 (gi μ 76 s) := Classical.byContradiction fun y => z (hx45.2 y)
      obtain ⟨hx73, c0, c1, a', k1, k2, k3⟩ := (ht1.2 hw).2 (by decide)
      have g4 : gn μ0 75 4 = s + 1 := by unfold gn; rw [h4, nI_clamp (by omega)]
      rw [eT, g3, g4] at k1
      rw [eT, g3] at k3
      obtain ⟨hR74, _, _⟩ := takes_rm hR ht1
      have hw74 : gi m74 75 8 < 0 := by rw [c1 8 (by simp)]; exact hw
      have hA74 : agM m74 D := agM_fr c0 (c1 10 (by simp)) hA
      have f74 : frM μ m74 := frM_fr75 hf c0 (f75_mono c1 (by simp <;> omega))
      have eT74 : gi m74 76 = gi μ 76 := by rw [← eT]; exact funext fun j => c0.1 76 (by simp) j
      have g374 : gn m74 75 3 = gn μ 75 3 := by rw [← g3]; unfold gn; rw [c1 3 (by simp)]
      rintro x76 m77 ⟨hx76, hm77⟩
      rw [if_pos hw74] at hx76
      rw [hm77]
      refine ⟨fun y => absurd (hx76.symm.trans y) (by decide), fun _ => ?_⟩
      rw [hx73, h7]
      have i6 : isN m74 77 6 5 := by
        unfold isN gn; rw [show gi m74 77 6 = D 0 0 from hA74.1 0 (by omega)]; exact isB_clamp hD.1 (by omega)
      have i7 : isN m74 77 7 5 := by
        unfold isN gn; rw [show gi m74 77 7 = D 0 1 from hA74.1 1 (by omega)]; exact isB_clamp hD.2.1 (by omega)
      have i8 : isN m74 77 8 6 := by
        unfold isN gn; rw [show gi m74 77 8 = D 0 2 from hA74.1 2 (by omega)]; exact isB_clamp hD.2.2.1 (by omega)
      have hmay74 : mayF m74 (gi μ 76 s) := by
        unfold mayF at hmay ⊢
        rw [c0.1 77 (by simp), c0.1 77 (by simp), c0.1 77 (by simp), c1 10 (by simp)]
        exact hmay
      refine ⟨⟨hR74, hw74, i6, i7, i8, hmay74, hlet⟩, ?_⟩
      rintro m88 ⟨hR88, f88, hI⟩
      have hI := hI s D hD hA74 (by rw [eT74, g374]; exact ⟨a', k1, k2, k3⟩) (by rw [eT74])
      rw [eT74, g374] at hI
      have fm88 : frM μ m88 := frM_trans f74 f88
      rcases hI with ⟨f, f1, f2⟩ | ⟨b, D', d1, d2, d3, d4⟩
      · have hfn := bdf_le (by omega) f1
        have nw : ¬ gi m88 75 8 < 0 := by rw [f2]; exact nI_pos (by omega)
        exact tail_F (J := fun m => ∃ k, k < n ∧ inv_X9_house_25 μ k (l1 + 1) m) hR88 nw (mkF f hfn (Or.inl f1) m88 hR88 fm88 f2)
      · have hw88 : gi m88 75 8 < 0 := by rw [d2]; exact hw74
        have eT88 : gi m88 76 = gi μ 76 := funext fun j => fm88.1.1 76 (by simp) j
        have g388 : gn m88 75 3 = gn μ 75 3 := by unfold gn; rw [fm88.2.1 3 (by simp)]
        refine tail_W (J := fun m => ∃ k, k < n ∧ inv_X9_house_25 μ k (l1 + 1) m) hR88 (fun x m' hx => ?_)
        have hR' : RM m' ∧ fr [75] m88 m' ∧ f75x [4, 5, 6, 7, 8] m88 m' := by
          rcases hx with ⟨_, hx⟩ | ⟨_, hx⟩
          · exact takes_rm hR88 hx
          · exact takes_rm hR88 hx
        obtain ⟨r1, r2, r3⟩ := hR'
        rcases end_mod hR88 hw88 (by rw [eT88, g388]; exact d4) hx with ⟨f, f1, f2⟩ | ⟨b2, b1, b3, b4, b5, b6⟩
        · rw [eT88, g388] at f1
          exact mkF f f1.1.2.1 (Or.inr ⟨b, D', d1, f1⟩) m' r1 (frM_fr75 fm88 r2 r3) (by rw [f2, gi_ui, if_pos ⟨rfl, rfl⟩])
        · rw [eT88, g388] at b1 b6
          have hit : ItR (gi μ 76) (gn μ 75 3) s D b2 D' := ⟨b, d1, b1⟩
          have hpl2 := it_place hit
          have hPk : Pf (gi μ 76) (gn μ 75 3) (k + 1) b2 D' := ⟨a, D, s, hP, hs1, hsl, hit⟩
          have hpl3 := pf_place hPk
          exact ⟨1000 - (k + 1), by omega, r1, frM_fr75 fm88 r2 r3, Or.inr ⟨by rw [b5 8 (by simp)]; exact hw88, k + 1, b2, D', by omega, rfl, by rw [hl]; exact nI_1 k, hPk, it_ok hD hit, agM_fr b4 (b5 10 (by simp)) d3, b6⟩⟩
theorem sp_X9_house : Sp yX9_house cX9_house 3 (some .int) 5 S_X9_house := by
  refine sp_of (by decide) (fun av μ P h => ?_) ?_
  · obtain ⟨rfl, -⟩ := h
    refine ⟨Nat.le_of_ble_eq_true rfl, fun v hv => ?_⟩
    simp only [List.mem_cons, List.not_mem_nil, or_false] at hv
    subst hv; rfl
  · rintro X P hO _ μ ⟨rfl, hpre, hpost⟩ hn
    have hJ : ∀ n : Nat, (∀ (l1 : Int32) (m : Mem), inv_X9_house_25  μ n l1 m → V X 25 [some (.ref 75), some (.int l1), none] [] m) := by
      intro n
      induction n using Nat.strongRecOn with
      | _ n ih =>
        exact fun l1 m hi => wk_X9_house_25 (J25 := (fun l1 m => ∃ k : Nat, k < n ∧ inv_X9_house_25  μ k l1 m)) hO hn   l1 m hpost (fun l1 m hk => by obtain ⟨k, hk, hi⟩ := hk; exact (ih k hk) l1 m hi) (vp_X9_house_25   μ hpre n l1 m hi)
    exact wk_X9_house_0 (J25 := (fun l1 m => ∃ k : Nat, inv_X9_house_25  μ k l1 m)) hO hn   μ hpost (fun l1 m hk => by obtain ⟨k, hi⟩ := hk; exact (hJ k) l1 m hi) (vp_X9_house_0   μ hpre)

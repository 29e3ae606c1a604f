theorem dec_inc {l : Nat} (h : l < 6) : decN (incN l) = l := by unfold decN incN; split <;> split <;> omega
theorem inc_dec {k : Nat} (h : k < 6) : incN (decN k) = k := by unfold decN incN; split <;> split <;> omega
theorem decN_lt {k : Nat} (h : k < 6) : decN k < 6 := by unfold decN; split <;> omega
theorem incN_lt {k : Nat} (h : k < 6) : incN k < 6 := by unfold incN; split <;> omega
theorem cM_k (m : Mem) (k : Nat) : cM m (k / 6) (decN (k % 6)) = gn m 90 k := by
  unfold cM; rw [inc_dec (Nat.mod_lt _ (by omega)), Nat.div_add_mod]
theorem thr_mono2 {NV : Nat} {full tk : Nat → Nat} {c c' : Nat → Nat → Nat} {f l d : Nat} (h : ∀ g, g ≤ f → c g d ≤ c' g d) : thr NV full tk c (c f) f l d ≤ thr NV full tk c' (c' f) f l d := by
  rw [thr_self, thr_self]
  split
  · exact Nat.le_refl _
  · have := h (f - lsN full l d) (by omega); omega
theorem sumN_upd (f : Nat → Nat) (k v : Nat) : ∀ n, k < n → v ≤ f k → sumN (fun j => if j = k then v else f j) n + (f k - v) = sumN f n := by
  intro n
  induction n with
  | zero => intro h; omega
  | succ n ih =>
    intro h hv
    rcases Nat.lt_or_ge k n with z | z
    · have := ih z hv
      simp only [sumN]
      rw [if_neg (by omega)]; omega
    · have hk : k = n := by omega
      subst hk
      have e : sumN (fun j => if j = k then v else f j) k = sumN f k := sumN_congr k (fun i hi => if_neg (by omega))
      simp only [sumN]
      rw [e]; simp; omega
def S_X9_soonBy : Tr := fun av μ P => ∃ (p1 : Int32) (p2 : Int32) (p3 : Int32) (p4 : Int32), av = [.ref 75, .int p1, .int p2, .int p3, .int p4] ∧ pre_X9_soonBy p1 p2 p3 p4 μ ∧ ∀ (x : Int32) (m : Mem), post_X9_soonBy p1 p2 p3 p4 μ x m → P (some (.int x)) m
def vc_X9_soonBy_0 (p1 : Int32) (p2 : Int32) (p3 : Int32) (p4 : Int32)  (μ : Mem) (R : Int32 → Mem → Prop)  : Prop :=
  (pre_X9_hurt p1 p4 p3 μ ∧ ∀ (x1 : Int32) (μ2 : Mem), post_X9_hurt p1 p4 p3 μ x1 μ2 → vp_in p4 10 ∧ ((0 ≤ (p2 - x1) → vp_in (((6 * (p2 - x1)) + p4) + 1) 186 ∧ (∀ y7 : Int32, y7 = (((1000 * (gi μ2 82 (Int32.toNatClampNeg p4))) + 1) + (gi μ2 90 (Int32.toNatClampNeg (((6 * (p2 - x1)) + p4) + 1)))) → ((y7 ≤ 100000000 → R y7 μ2) ∧ (¬ y7 ≤ 100000000 → R 100000000 μ2)))) ∧ (¬ 0 ≤ (p2 - x1) → (∀ y10 : Int32, y10 = (((1000 * (gi μ2 82 (Int32.toNatClampNeg p4))) + 1) + 0) → ((y10 ≤ 100000000 → R y10 μ2) ∧ (¬ y10 ≤ 100000000 → R 100000000 μ2))))))
set_option maxRecDepth 20000 in
set_option maxHeartbeats 4000000 in
theorem wk_X9_soonBy_0 {X : XT} {P : Post} (hO : OkM X cX9_soonBy RX9 1 (some .int) P) (hn : xn X = 7) (p1 : Int32) (p2 : Int32) (p3 : Int32) (p4 : Int32)   (μ : Mem) {R : Int32 → Mem → Prop} (hR : ∀ x m, R x m → P (some (.int x)) m)    (h : vc_X9_soonBy_0 p1 p2 p3 p4  μ R ) : V X 0 [some (.ref 75), some (.int p1), some (.int p2), some (.int p3), some (.int p4), none, none] [] μ := by
  have hX := hO.1
  unfold vc_X9_soonBy_0 at h
  refine v_iload_n hX dX9_soonBy_0 rfl (?_ : V X 1 [some (.ref 75), some (.int p1), some (.int p2), some (.int p3), some (.int p4), none, none] [.int p2] μ)
  refine v_aload_n hX dX9_soonBy_1 rfl (?_ : V X 2 [some (.ref 75), some (.int p1), some (.int p2), some (.int p3), some (.int p4), none, none] [.ref 75, .int p2] μ)
  refine v_iload_n hX dX9_soonBy_2 rfl (?_ : V X 3 [some (.ref 75), some (.int p1), some (.int p2), some (.int p3), some (.int p4), none, none] [.int p1, .ref 75, .int p2] μ)
  refine v_iload hX dX9_soonBy_3 rfl (?_ : V X 5 [some (.ref 75), some (.int p1), some (.int p2), some (.int p3), some (.int p4), none, none] [.int p4, .int p1, .ref 75, .int p2] μ)
  refine v_iload_n hX dX9_soonBy_5 rfl (?_ : V X 6 [some (.ref 75), some (.int p1), some (.int p2), some (.int p3), some (.int p4), none, none] [.int p3, .int p4, .int p1, .ref 75, .int p2] μ)
  refine v_callV hX sp_X9_hurt ck_X9_hurt mk_X9_168 mv_X9_hurt sh_75 (by decide) (by decide) [.int p1, .int p4, .int p3] [.int p2] rfl rfl (Nat.le_of_ble_eq_true rfl) dX9_soonBy_6 ⟨p1, p4, p3, rfl, h.1, fun x1 μ2 hp3 => (?_ : V X 9 [some (.ref 75), some (.int p1), some (.int p2), some (.int p3), some (.int p4), none, none] [.int x1, .int p2] μ2)⟩
  replace h := h.2 x1 μ2 hp3
  refine v_isub hX dX9_soonBy_9 (?_ : V X 10 [some (.ref 75), some (.int p1), some (.int p2), some (.int p3), some (.int p4), none, none] [.int (p2 - x1)] μ2)
  refine v_istore hX dX9_soonBy_10 (by rw [hn]; decide) (?_ : V X 12 [some (.ref 75), some (.int p1), some (.int p2), some (.int p3), some (.int p4), some (.int (p2 - x1)), none] [] μ2)
  refine v_sipush hX 1000 dX9_soonBy_12 rfl (?_ : V X 15 [some (.ref 75), some (.int p1), some (.int p2), some (.int p3), some (.int p4), some (.int (p2 - x1)), none] [.int 1000] μ2)
  refine v_aload_n hX dX9_soonBy_15 rfl (?_ : V X 16 [some (.ref 75), some (.int p1), some (.int p2), some (.int p3), some (.int p4), some (.int (p2 - x1)), none] [.ref 75, .int 1000] μ2)
  refine v_getr hX (82) fk_X9_28 sh_75 rfl rfl dX9_soonBy_16 (?_ : V X 19 [some (.ref 75), some (.int p1), some (.int p2), some (.int p3), some (.int p4), some (.int (p2 - x1)), none] [.ref 82, .int 1000] μ2)
  refine v_iload hX dX9_soonBy_19 rfl (?_ : V X 21 [some (.ref 75), some (.int p1), some (.int p2), some (.int p3), some (.int p4), some (.int (p2 - x1)), none] [.int p4, .ref 82, .int 1000] μ2)
  have hb4 := h.1
  replace h := h.2
  refine w_iald hX (Int32.toNatClampNeg p4) sh_82 hb4 rfl dX9_soonBy_21 (?_ : V X 22 [some (.ref 75), some (.int p1), some (.int p2), some (.int p3), some (.int p4), some (.int (p2 - x1)), none] [.int (gi μ2 82 (Int32.toNatClampNeg p4)), .int 1000] μ2)
  refine v_imul hX dX9_soonBy_22 (?_ : V X 23 [some (.ref 75), some (.int p1), some (.int p2), some (.int p3), some (.int p4), some (.int (p2 - x1)), none] [.int (1000 * (gi μ2 82 (Int32.toNatClampNeg p4)))] μ2)
  refine v_iconst hX 1 dX9_soonBy_23 rfl (?_ : V X 24 [some (.ref 75), some (.int p1), some (.int p2), some (.int p3), some (.int p4), some (.int (p2 - x1)), none] [.int 1, .int (1000 * (gi μ2 82 (Int32.toNatClampNeg p4)))] μ2)
  refine v_iadd hX dX9_soonBy_24 (?_ : V X 25 [some (.ref 75), some (.int p1), some (.int p2), some (.int p3), some (.int p4), some (.int (p2 - x1)), none] [.int ((1000 * (gi μ2 82 (Int32.toNatClampNeg p4))) + 1)] μ2)
  refine v_iload hX dX9_soonBy_25 rfl (?_ : V X 27 [some (.ref 75), some (.int p1), some (.int p2), some (.int p3), some (.int p4), some (.int (p2 - x1)), none] [.int (p2 - x1), .int ((1000 * (gi μ2 82 (Int32.toNatClampNeg p4))) + 1)] μ2)
  refine v_if_ge hX 34 dX9_soonBy_27 rfl (fun c5 => ?_) (fun c5 => ?_)
  · replace h := h.1 c5
    refine v_aload_n hX dX9_soonBy_34 rfl (?_ : V X 35 [some (.ref 75), some (.int p1), some (.int p2), some (.int p3), some (.int p4), some (.int (p2 - x1)), none] [.ref 75, .int ((1000 * (gi μ2 82 (Int32.toNatClampNeg p4))) + 1)] μ2)
    refine v_getr hX (90) fk_X9_53 sh_75 rfl rfl dX9_soonBy_35 (?_ : V X 38 [some (.ref 75), some (.int p1), some (.int p2), some (.int p3), some (.int p4), some (.int (p2 - x1)), none] [.ref 90, .int ((1000 * (gi μ2 82 (Int32.toNatClampNeg p4))) + 1)] μ2)
    refine v_bipush hX 6 dX9_soonBy_38 rfl (?_ : V X 40 [some (.ref 75), some (.int p1), some (.int p2), some (.int p3), some (.int p4), some (.int (p2 - x1)), none] [.int 6, .ref 90, .int ((1000 * (gi μ2 82 (Int32.toNatClampNeg p4))) + 1)] μ2)
    refine v_iload hX dX9_soonBy_40 rfl (?_ : V X 42 [some (.ref 75), some (.int p1), some (.int p2), some (.int p3), some (.int p4), some (.int (p2 - x1)), none] [.int (p2 - x1), .int 6, .ref 90, .int ((1000 * (gi μ2 82 (Int32.toNatClampNeg p4))) + 1)] μ2)
    refine v_imul hX dX9_soonBy_42 (?_ : V X 43 [some (.ref 75), some (.int p1), some (.int p2), some (.int p3), some (.int p4), some (.int (p2 - x1)), none] [.int (6 * (p2 - x1)), .ref 90, .int ((1000 * (gi μ2 82 (Int32.toNatClampNeg p4))) + 1)] μ2)
    refine v_iload hX dX9_soonBy_43 rfl (?_ : V X 45 [some (.ref 75), some (.int p1), some (.int p2), some (.int p3), some (.int p4), some (.int (p2 - x1)), none] [.int p4, .int (6 * (p2 - x1)), .ref 90, .int ((1000 * (gi μ2 82 (Int32.toNatClampNeg p4))) + 1)] μ2)
    refine v_iadd hX dX9_soonBy_45 (?_ : V X 46 [some (.ref 75), some (.int p1), some (.int p2), some (.int p3), some (.int p4), some (.int (p2 - x1)), none] [.int ((6 * (p2 - x1)) + p4), .ref 90, .int ((1000 * (gi μ2 82 (Int32.toNatClampNeg p4))) + 1)] μ2)
    refine v_iconst hX 1 dX9_soonBy_46 rfl (?_ : V X 47 [some (.ref 75), some (.int p1), some (.int p2), some (.int p3), some (.int p4), some (.int (p2 - x1)), none] [.int 1, .int ((6 * (p2 - x1)) + p4), .ref 90, .int ((1000 * (gi μ2 82 (Int32.toNatClampNeg p4))) + 1)] μ2)
    refine v_iadd hX dX9_soonBy_47 (?_ : V X 48 [some (.ref 75), some (.int p1), some (.int p2), some (.int p3), some (.int p4), some (.int (p2 - x1)), none] [.int (((6 * (p2 - x1)) + p4) + 1), .ref 90, .int ((1000 * (gi μ2 82 (Int32.toNatClampNeg p4))) + 1)] μ2)
    have hb6 := h.1
    replace h := h.2
    refine w_iald hX (Int32.toNatClampNeg (((6 * (p2 - x1)) + p4) + 1)) sh_90 hb6 rfl dX9_soonBy_48 (?_ : V X 49 [some (.ref 75), some (.int p1), some (.int p2), some (.int p3), some (.int p4), some (.int (p2 - x1)), none] [.int (gi μ2 90 (Int32.toNatClampNeg (((6 * (p2 - x1)) + p4) + 1))), .int ((1000 * (gi μ2 82 (Int32.toNatClampNeg p4))) + 1)] μ2)
    refine v_iadd hX dX9_soonBy_49 (?_ : V X 50 [some (.ref 75), some (.int p1), some (.int p2), some (.int p3), some (.int p4), some (.int (p2 - x1)), none] [.int (((1000 * (gi μ2 82 (Int32.toNatClampNeg p4))) + 1) + (gi μ2 90 (Int32.toNatClampNeg (((6 * (p2 - x1)) + p4) + 1))))] μ2)
    refine w_istore hX dX9_soonBy_50 (by rw [hn]; decide) (fun y7 e8 => (?_ : V X 52 [some (.ref 75), some (.int p1), some (.int p2), some (.int p3), some (.int p4), some (.int (p2 - x1)), some (.int y7)] [] μ2))
    replace h := h y7 e8
    refine v_iload hX dX9_soonBy_52 rfl (?_ : V X 54 [some (.ref 75), some (.int p1), some (.int p2), some (.int p3), some (.int p4), some (.int (p2 - x1)), some (.int y7)] [.int y7] μ2)
    refine v_ldc hX 100000000 dX9_soonBy_54 kk_X9_172 (?_ : V X 56 [some (.ref 75), some (.int p1), some (.int p2), some (.int p3), some (.int p4), some (.int (p2 - x1)), some (.int y7)] [.int 100000000, .int y7] μ2)
    refine v_icmp_le hX 64 dX9_soonBy_56 rfl (fun c9 => ?_) (fun c9 => ?_)
    · replace h := h.1 c9
      refine v_iload hX dX9_soonBy_64 rfl (?_ : V X 66 [some (.ref 75), some (.int p1), some (.int p2), some (.int p3), some (.int p4), some (.int (p2 - x1)), some (.int y7)] [.int y7] μ2)
      exact v_iret hO dX9_soonBy_66 (hR _ _ h)
    · replace h := h.2 c9
      refine v_ldc hX 100000000 dX9_soonBy_59 kk_X9_172 (?_ : V X 61 [some (.ref 75), some (.int p1), some (.int p2), some (.int p3), some (.int p4), some (.int (p2 - x1)), some (.int y7)] [.int 100000000] μ2)
      refine v_goto hX 66 dX9_soonBy_61 rfl (?_ : V X 66 [some (.ref 75), some (.int p1), some (.int p2), some (.int p3), some (.int p4), some (.int (p2 - x1)), some (.int y7)] [.int 100000000] μ2)
      exact v_iret hO dX9_soonBy_66 (hR _ _ h)
  · replace h := h.2 c5
    refine v_iconst hX 0 dX9_soonBy_30 rfl (?_ : V X 31 [some (.ref 75), some (.int p1), some (.int p2), some (.int p3), some (.int p4), some (.int (p2 - x1)), none] [.int 0, .int ((1000 * (gi μ2 82 (Int32.toNatClampNeg p4))) + 1)] μ2)
    refine v_goto hX 49 dX9_soonBy_31 rfl (?_ : V X 49 [some (.ref 75), some (.int p1), some (.int p2), some (.int p3), some (.int p4), some (.int (p2 - x1)), none] [.int 0, .int ((1000 * (gi μ2 82 (Int32.toNatClampNeg p4))) + 1)] μ2)
    refine v_iadd hX dX9_soonBy_49 (?_ : V X 50 [some (.ref 75), some (.int p1), some (.int p2), some (.int p3), some (.int p4), some (.int (p2 - x1)), none] [.int (((1000 * (gi μ2 82 (Int32.toNatClampNeg p4))) + 1) + 0)] μ2)
    refine w_istore hX dX9_soonBy_50 (by rw [hn]; decide) (fun y10 e11 => (?_ : V X 52 [some (.ref 75), some (.int p1), some (.int p2), some (.int p3), some (.int p4), some (.int (p2 - x1)), some (.int y10)] [] μ2))
    replace h := h y10 e11
    refine v_iload hX dX9_soonBy_52 rfl (?_ : V X 54 [some (.ref 75), some (.int p1), some (.int p2), some (.int p3), some (.int p4), some (.int (p2 - x1)), some (.int y10)] [.int y10] μ2)
    refine v_ldc hX 100000000 dX9_soonBy_54 kk_X9_172 (?_ : V X 56 [some (.ref 75), some (.int p1), some (.int p2), some (.int p3), some (.int p4), some (.int (p2 - x1)), some (.int y10)] [.int 100000000, .int y10] μ2)
    refine v_icmp_le hX 64 dX9_soonBy_56 rfl (fun c12 => ?_) (fun c12 => ?_)
    · replace h := h.1 c12
      refine v_iload hX dX9_soonBy_64 rfl (?_ : V X 66 [some (.ref 75), some (.int p1), some (.int p2), some (.int p3), some (.int p4), some (.int (p2 - x1)), some (.int y10)] [.int y10] μ2)
      exact v_iret hO dX9_soonBy_66 (hR _ _ h)
    · replace h := h.2 c12
      refine v_ldc hX 100000000 dX9_soonBy_59 kk_X9_172 (?_ : V X 61 [some (.ref 75), some (.int p1), some (.int p2), some (.int p3), some (.int p4), some (.int (p2 - x1)), some (.int y10)] [.int 100000000] μ2)
      refine v_goto hX 66 dX9_soonBy_61 rfl (?_ : V X 66 [some (.ref 75), some (.int p1), some (.int p2), some (.int p3), some (.int p4), some (.int (p2 - x1)), some (.int y10)] [.int 100000000] μ2)
      exact v_iret hO dX9_soonBy_66 (hR _ _ h)
set_option maxRecDepth 20000 in
set_option maxHeartbeats 1000000 in
theorem vp_X9_soonBy_0 (p1 : Int32) (p2 : Int32) (p3 : Int32) (p4 : Int32)  (μ : Mem) (hpre : pre_X9_soonBy p1 p2 p3 p4 μ) : vc_X9_soonBy_0 p1 p2 p3 p4 μ (post_X9_soonBy p1 p2 p3 p4 μ)  := by
  simp only [vc_X9_soonBy_0, pre_X9_hurt, post_X9_hurt, and_imp, call_eq, forall_eq, forall_const, true_and, and_true]
  obtain ⟨e1, ⟨t0, t1, t2, t3⟩, e2, b2, e3, b3, e4, b4, hT⟩ := hpre
  unfold post_X9_soonBy hurtF
  generalize hr : p1.toNatClampNeg = r at *
  generalize hf : p2.toNatClampNeg = f at *
  generalize hl : p3.toNatClampNeg = k at *
  generalize hd : p4.toNatClampNeg = d at *
  subst e1; subst e2; subst e3; subst e4
  have hD := t1.2
  obtain ⟨⟨g1, g2⟩, k1, k2⟩ := t2 d b4
  have g3 := t3.2
  have efull : gi μ 81 d * gi μ 79 r = nI (fullM μ r d) := by rw [g1, t3.1, pk_mul]; rfl
  have hfull : fullM μ r d ≤ 27 := by
    have := Nat.mul_le_mul g2 g3
    unfold fullM; omega
  have in1 : vp_in (nI r) 10 := vp_in_nI (by omega) (by omega)
  have in4 : vp_in (nI d) 10 := vp_in_nI (by omega) (by omega)
  have els : (if nI k = nI d + 1 then nI (fullM μ r d) / 2 else nI (fullM μ r d)) = nI (lsN (fullM μ r) (decN k) d) := by
    rw [nI_1]
    unfold lsN decN
    by_cases z : k = d + 1
    · have hd1 : (if k = 0 then 5 else k - 1) = d := by split <;> omega
      rw [if_pos (by rw [z]), if_pos hd1, show (2 : Int32) = nI 2 from rfl, pk_div (by omega) (by omega) (by omega)]
    · rw [if_neg (fun q => z ((nI_eq (by omega) (by omega)).mp q)), if_neg (by split <;> omega)]
  have hls : lsN (fullM μ r) (decN k) d ≤ 27 := by unfold lsN; split <;> omega
  rw [efull, els]
  generalize hlsv : lsN (fullM μ r) (decN k) d = ls at *
  have ew : 1000 * gi μ 82 d + 1 = nI (gn μ 82 d * 1000 + 1) := by
    rw [k1, show (1000 : Int32) = nI 1000 from rfl, pk_mul, nI_1, Nat.mul_comm]
  rw [sub_neg (by omega) (by omega), ew]
  refine ⟨⟨in1, in4⟩, in4, fun c => ?_, fun c => ?_⟩
  · have ei : 6 * (nI f - nI ls) + nI d + 1 = nI (6 * (f - ls) + (d + 1)) := by
      rw [pk_sub c, show (6 : Int32) = nI 6 from rfl, pk_mul, nI_add, nI_1, Nat.add_assoc]
    rw [ei, nI_clamp (by omega)]
    obtain ⟨q1, q2⟩ := hT (6 * (f - ls) + (d + 1)) (by omega)
    rw [q1, nI_add, show (100000000 : Int32) = nI 100000000 from rfl, nI_leI (by omega) (by omega)]
    have hc : cM μ (f - ls) d = gn μ 90 (6 * (f - ls) + (d + 1)) := by unfold cM incN; rw [if_neg (by omega)]
    have ht : thr 100000000 (fullM μ r) (gn μ 82) (cM μ) (cM μ f) f (decN k) d = min 100000000 (gn μ 82 d * 1000 + 1 + gn μ 90 (6 * (f - ls) + (d + 1))) := by
      rw [thr_self, hlsv, if_neg (by omega), hc]
    rw [ht]
    refine ⟨vp_in_nI (by omega) (by omega), fun c2 => ⟨?_, rfl⟩, fun c2 => ⟨?_, rfl⟩⟩
    · rw [Nat.min_eq_right c2]
    · rw [Nat.min_eq_left (by omega)]
  · have ht : thr 100000000 (fullM μ r) (gn μ 82) (cM μ) (cM μ f) f (decN k) d = gn μ 82 d * 1000 + 1 := by
      rw [thr_self, hlsv, if_pos (by omega)]
    have e0 : nI (gn μ 82 d * 1000 + 1) + 0 = nI (gn μ 82 d * 1000 + 1) := by simp
    rw [ht, e0, show (100000000 : Int32) = nI 100000000 from rfl, nI_leI (by omega) (by omega)]
    exact ⟨fun c2 => ⟨rfl, rfl⟩, fun c2 => absurd (by omega) c2⟩
theorem sp_X9_soonBy : Sp yX9_soonBy cX9_soonBy 7 (some .int) 1 S_X9_soonBy := by
  refine sp_of (by decide) (fun av μ P h => ?_) ?_
  · obtain ⟨p1, p2, p3, p4, rfl, -⟩ := h
    refine ⟨Nat.le_of_ble_eq_true rfl, fun v hv => ?_⟩
    simp only [List.mem_cons, List.not_mem_nil, or_false] at hv
    rcases hv with rfl | rfl | rfl | rfl | rfl <;> rfl
  · rintro X P hO _ μ ⟨p1, p2, p3, p4, rfl, hpre, hpost⟩ hn
    exact wk_X9_soonBy_0 hO hn p1 p2 p3 p4  μ hpost (vp_X9_soonBy_0 p1 p2 p3 p4  μ hpre)
def S_X9_measures : Tr := fun av μ P => ∃ (p1 : Int32), av = [.ref 75, .int p1] ∧ pre_X9_measures p1 μ ∧ ∀ m : Mem, post_X9_measures p1 μ m → P none m
def vc_X9_measures_0 (p1 : Int32)  (μ : Mem) (R : Mem → Prop) (J2 : Int32 → Mem → Prop) (J38 : Int32 → Mem → Prop) (J46 : Int32 → Int32 → Mem → Prop) (J56 : Int32 → Int32 → Int32 → Mem → Prop) : Prop :=
  J2 0 μ
set_option maxRecDepth 20000 in
set_option maxHeartbeats 4000000 in
theorem wk_X9_measures_0 {X : XT} {P : Post} (hO : OkM X cX9_measures RX9 2 none P) (hn : xn X = 6) (p1 : Int32)   (μ : Mem) {R : Mem → Prop} (hR : ∀ m, R m → P none m) {J2 : Int32 → Mem → Prop} {J38 : Int32 → Mem → Prop} {J46 : Int32 → Int32 → Mem → Prop} {J56 : Int32 → Int32 → Int32 → Mem → Prop} (hJ2 : ∀ (l2 : Int32) (m : Mem), J2 l2 m → V X 2 [some (.ref 75), some (.int p1), some (.int l2), none, none, none] [] m) (hJ38 : ∀ (l2 : Int32) (m : Mem), J38 l2 m → V X 38 [some (.ref 75), some (.int p1), some (.int l2), none, none, none] [] m) (hJ46 : ∀ (l2 : Int32) (l3 : Int32) (m : Mem), J46 l2 l3 m → V X 46 [some (.ref 75), some (.int p1), some (.int l2), some (.int l3), none, none] [] m) (hJ56 : ∀ (l2 : Int32) (l3 : Int32) (l4 : Int32) (m : Mem), J56 l2 l3 l4 m → V X 56 [some (.ref 75), some (.int p1), some (.int l2), some (.int l3), some (.int l4), none] [] m)  (h : vc_X9_measures_0 p1  μ R J2 J38 J46 J56) : V X 0 [some (.ref 75), some (.int p1), none, none, none, none] [] μ := by
  have hX := hO.1
  unfold vc_X9_measures_0 at h
  refine v_iconst hX 0 dX9_measures_0 rfl (?_ : V X 1 [some (.ref 75), some (.int p1), none, none, none, none] [.int 0] μ)
  refine v_istore_n hX dX9_measures_1 (by rw [hn]; decide) (?_ : V X 2 [some (.ref 75), some (.int p1), some (.int 0), none, none, none] [] μ)
  exact v_mask [true, true, true, false, false, false] (hJ2 _ _ h)
def vc_X9_measures_2 (p1 : Int32) (l2 : Int32) (μ : Mem) (R : Mem → Prop) (J2 : Int32 → Mem → Prop) (J38 : Int32 → Mem → Prop) (J46 : Int32 → Int32 → Mem → Prop) (J56 : Int32 → Int32 → Int32 → Mem → Prop) : Prop :=
  ((186 ≤ l2 → (((gi μ 77 1) ≤ 0 → J38 0 μ) ∧ (¬ (gi μ 77 1) ≤ 0 → J38 1 μ))) ∧ (¬ 186 ≤ l2 → vp_in l2 186 ∧ (∀ μ4, μ4 = ui μ 90 (Int32.toNatClampNeg l2) 100000000 → J2 (l2 + 1) μ4)))
set_option maxRecDepth 20000 in
set_option maxHeartbeats 4000000 in
theorem wk_X9_measures_2 {X : XT} {P : Post} (hO : OkM X cX9_measures RX9 2 none P) (hn : xn X = 6) (p1 : Int32)  (l2 : Int32) (μ : Mem) {R : Mem → Prop} (hR : ∀ m, R m → P none m) {J2 : Int32 → Mem → Prop} {J38 : Int32 → Mem → Prop} {J46 : Int32 → Int32 → Mem → Prop} {J56 : Int32 → Int32 → Int32 → Mem → Prop} (hJ2 : ∀ (l2 : Int32) (m : Mem), J2 l2 m → V X 2 [some (.ref 75), some (.int p1), some (.int l2), none, none, none] [] m) (hJ38 : ∀ (l2 : Int32) (m : Mem), J38 l2 m → V X 38 [some (.ref 75), some (.int p1), some (.int l2), none, none, none] [] m) (hJ46 : ∀ (l2 : Int32) (l3 : Int32) (m : Mem), J46 l2 l3 m → V X 46 [some (.ref 75), some (.int p1), some (.int l2), some (.int l3), none, none] [] m) (hJ56 : ∀ (l2 : Int32) (l3 : Int32) (l4 : Int32) (m : Mem), J56 l2 l3 l4 m → V X 56 [some (.ref 75), some (.int p1), some (.int l2), some (.int l3), some (.int l4), none] [] m)  (h : vc_X9_measures_2 p1 l2 μ R J2 J38 J46 J56) : V X 2 [some (.ref 75), some (.int p1), some (.int l2), none, none, none] [] μ := by
  have hX := hO.1
  unfold vc_X9_measures_2 at h
  refine v_iload_n hX dX9_measures_2 rfl (?_ : V X 3 [some (.ref 75), some (.int p1), some (.int l2), none, none, none] [.int l2] μ)
  refine v_sipush hX 186 dX9_measures_3 rfl (?_ : V X 6 [some (.ref 75), some (.int p1), some (.int l2), none, none, none] [.int 186, .int l2] μ)
  refine v_icmp_ge hX 23 dX9_measures_6 rfl (fun c1 => ?_) (fun c1 => ?_)
  · replace h := h.1 c1
    refine v_aload_n hX dX9_measures_23 rfl (?_ : V X 24 [some (.ref 75), some (.int p1), some (.int l2), none, none, none] [.ref 75] μ)
    refine v_getr hX (77) fk_X9_13 sh_75 rfl rfl dX9_measures_24 (?_ : V X 27 [some (.ref 75), some (.int p1), some (.int l2), none, none, none] [.ref 77] μ)
    refine v_iconst hX 1 dX9_measures_27 rfl (?_ : V X 28 [some (.ref 75), some (.int p1), some (.int l2), none, none, none] [.int 1, .ref 77] μ)
    refine w_iald hX 1 sh_77 (vp_lit (by decide)) (by decide) dX9_measures_28 (?_ : V X 29 [some (.ref 75), some (.int p1), some (.int l2), none, none, none] [.int (gi μ 77 1)] μ)
    refine v_if_le hX 36 dX9_measures_29 rfl (fun c2 => ?_) (fun c2 => ?_)
    · replace h := h.1 c2
      refine v_iconst hX 0 dX9_measures_36 rfl (?_ : V X 37 [some (.ref 75), some (.int p1), some (.int l2), none, none, none] [.int 0] μ)
      refine v_istore_n hX dX9_measures_37 (by rw [hn]; decide) (?_ : V X 38 [some (.ref 75), some (.int p1), some (.int 0), none, none, none] [] μ)
      exact v_mask [true, true, true, false, false, false] (hJ38 _ _ h)
    · replace h := h.2 c2
      refine v_iconst hX 1 dX9_measures_32 rfl (?_ : V X 33 [some (.ref 75), some (.int p1), some (.int l2), none, none, none] [.int 1] μ)
      refine v_goto hX 37 dX9_measures_33 rfl (?_ : V X 37 [some (.ref 75), some (.int p1), some (.int l2), none, none, none] [.int 1] μ)
      refine v_istore_n hX dX9_measures_37 (by rw [hn]; decide) (?_ : V X 38 [some (.ref 75), some (.int p1), some (.int 1), none, none, none] [] μ)
      exact v_mask [true, true, true, false, false, false] (hJ38 _ _ h)
  · replace h := h.2 c1
    refine v_aload_n hX dX9_measures_9 rfl (?_ : V X 10 [some (.ref 75), some (.int p1), some (.int l2), none, none, none] [.ref 75] μ)
    refine v_getr hX (90) fk_X9_53 sh_75 rfl rfl dX9_measures_10 (?_ : V X 13 [some (.ref 75), some (.int p1), some (.int l2), none, none, none] [.ref 90] μ)
    refine v_iload_n hX dX9_measures_13 rfl (?_ : V X 14 [some (.ref 75), some (.int p1), some (.int l2), none, none, none] [.int l2, .ref 90] μ)
    refine v_ldc hX 100000000 dX9_measures_14 kk_X9_172 (?_ : V X 16 [some (.ref 75), some (.int p1), some (.int l2), none, none, none] [.int 100000000, .int l2, .ref 90] μ)
    have hb3 := h.1
    replace h := h.2
    refine w_iast hX (Int32.toNatClampNeg l2) sh_90 hb3 rfl dX9_measures_16 (fun μ4 e5 => (?_ : V X 17 [some (.ref 75), some (.int p1), some (.int l2), none, none, none] [] μ4))
    replace h := h μ4 e5
    refine v_iinc hX 1 dX9_measures_17 (by rw [hn]; decide) rfl rfl (?_ : V X 20 [some (.ref 75), some (.int p1), some (.int (l2 + 1)), none, none, none] [] μ4)
    refine v_goto hX 2 dX9_measures_20 rfl (?_ : V X 2 [some (.ref 75), some (.int p1), some (.int (l2 + 1)), none, none, none] [] μ4)
    exact v_mask [true, true, true, false, false, false] (hJ2 _ _ h)
def vc_X9_measures_38 (p1 : Int32) (l2 : Int32) (μ : Mem) (R : Mem → Prop) (J2 : Int32 → Mem → Prop) (J38 : Int32 → Mem → Prop) (J46 : Int32 → Int32 → Mem → Prop) (J56 : Int32 → Int32 → Int32 → Mem → Prop) : Prop :=
  ((l2 = 0 → R μ) ∧ (¬ l2 = 0 → J46 0 0 μ))
set_option maxRecDepth 20000 in
set_option maxHeartbeats 4000000 in
theorem wk_X9_measures_38 {X : XT} {P : Post} (hO : OkM X cX9_measures RX9 2 none P) (hn : xn X = 6) (p1 : Int32)  (l2 : Int32) (μ : Mem) {R : Mem → Prop} (hR : ∀ m, R m → P none m) {J2 : Int32 → Mem → Prop} {J38 : Int32 → Mem → Prop} {J46 : Int32 → Int32 → Mem → Prop} {J56 : Int32 → Int32 → Int32 → Mem → Prop} (hJ2 : ∀ (l2 : Int32) (m : Mem), J2 l2 m → V X 2 [some (.ref 75), some (.int p1), some (.int l2), none, none, none] [] m) (hJ38 : ∀ (l2 : Int32) (m : Mem), J38 l2 m → V X 38 [some (.ref 75), some (.int p1), some (.int l2), none, none, none] [] m) (hJ46 : ∀ (l2 : Int32) (l3 : Int32) (m : Mem), J46 l2 l3 m → V X 46 [some (.ref 75), some (.int p1), some (.int l2), some (.int l3), none, none] [] m) (hJ56 : ∀ (l2 : Int32) (l3 : Int32) (l4 : Int32) (m : Mem), J56 l2 l3 l4 m → V X 56 [some (.ref 75), some (.int p1), some (.int l2), some (.int l3), some (.int l4), none] [] m)  (h : vc_X9_measures_38 p1 l2 μ R J2 J38 J46 J56) : V X 38 [some (.ref 75), some (.int p1), some (.int l2), none, none, none] [] μ := by
  have hX := hO.1
  unfold vc_X9_measures_38 at h
  refine v_iload_n hX dX9_measures_38 rfl (?_ : V X 39 [some (.ref 75), some (.int p1), some (.int l2), none, none, none] [.int l2] μ)
  refine v_if_eq hX 148 dX9_measures_39 rfl (fun c1 => ?_) (fun c1 => ?_)
  · replace h := h.1 c1
    exact v_vret hO dX9_measures_148 (hR _ h)
  · replace h := h.2 c1
    refine v_iconst hX 0 dX9_measures_42 rfl (?_ : V X 43 [some (.ref 75), some (.int p1), some (.int l2), none, none, none] [.int 0] μ)
    refine v_istore_n hX dX9_measures_43 (by rw [hn]; decide) (?_ : V X 44 [some (.ref 75), some (.int p1), some (.int 0), none, none, none] [] μ)
    refine v_iconst hX 0 dX9_measures_44 rfl (?_ : V X 45 [some (.ref 75), some (.int p1), some (.int 0), none, none, none] [.int 0] μ)
    refine v_istore_n hX dX9_measures_45 (by rw [hn]; decide) (?_ : V X 46 [some (.ref 75), some (.int p1), some (.int 0), some (.int 0), none, none] [] μ)
    exact v_mask [true, true, true, true, false, false] (hJ46 _ _ _ h)
def vc_X9_measures_46 (p1 : Int32) (l2 : Int32) (l3 : Int32) (μ : Mem) (R : Mem → Prop) (J2 : Int32 → Mem → Prop) (J38 : Int32 → Mem → Prop) (J46 : Int32 → Int32 → Mem → Prop) (J56 : Int32 → Int32 → Int32 → Mem → Prop) : Prop :=
  ((186 ≤ l3 → J38 l2 μ) ∧ (¬ 186 ≤ l3 → J56 l2 l3 0 μ))
set_option maxRecDepth 20000 in
set_option maxHeartbeats 4000000 in
theorem wk_X9_measures_46 {X : XT} {P : Post} (hO : OkM X cX9_measures RX9 2 none P) (hn : xn X = 6) (p1 : Int32)  (l2 : Int32) (l3 : Int32) (μ : Mem) {R : Mem → Prop} (hR : ∀ m, R m → P none m) {J2 : Int32 → Mem → Prop} {J38 : Int32 → Mem → Prop} {J46 : Int32 → Int32 → Mem → Prop} {J56 : Int32 → Int32 → Int32 → Mem → Prop} (hJ2 : ∀ (l2 : Int32) (m : Mem), J2 l2 m → V X 2 [some (.ref 75), some (.int p1), some (.int l2), none, none, none] [] m) (hJ38 : ∀ (l2 : Int32) (m : Mem), J38 l2 m → V X 38 [some (.ref 75), some (.int p1), some (.int l2), none, none, none] [] m) (hJ46 : ∀ (l2 : Int32) (l3 : Int32) (m : Mem), J46 l2 l3 m → V X 46 [some (.ref 75), some (.int p1), some (.int l2), some (.int l3), none, none] [] m) (hJ56 : ∀ (l2 : Int32) (l3 : Int32) (l4 : Int32) (m : Mem), J56 l2 l3 l4 m → V X 56 [some (.ref 75), some (.int p1), some (.int l2), some (.int l3), some (.int l4), none] [] m)  (h : vc_X9_measures_46 p1 l2 l3 μ R J2 J38 J46 J56) : V X 46 [some (.ref 75), some (.int p1), some (.int l2), some (.int l3), none, none] [] μ := by
  have hX := hO.1
  unfold vc_X9_measures_46 at h
  refine v_iload_n hX dX9_measures_46 rfl (?_ : V X 47 [some (.ref 75), some (.int p1), some (.int l2), some (.int l3), none, none] [.int l3] μ)
  refine v_sipush hX 186 dX9_measures_47 rfl (?_ : V X 50 [some (.ref 75), some (.int p1), some (.int l2), some (.int l3), none, none] [.int 186, .int l3] μ)
  refine v_icmp_ge hX 145 dX9_measures_50 rfl (fun c1 => ?_) (fun c1 => ?_)
  · replace h := h.1 c1
    refine v_goto hX 38 dX9_measures_145 rfl (?_ : V X 38 [some (.ref 75), some (.int p1), some (.int l2), some (.int l3), none, none] [] μ)
    exact v_mask [true, true, true, false, false, false] (hJ38 _ _ h)
  · replace h := h.2 c1
    refine v_iconst hX 0 dX9_measures_53 rfl (?_ : V X 54 [some (.ref 75), some (.int p1), some (.int l2), some (.int l3), none, none] [.int 0] μ)
    refine v_istore hX dX9_measures_54 (by rw [hn]; decide) (?_ : V X 56 [some (.ref 75), some (.int p1), some (.int l2), some (.int l3), some (.int 0), none] [] μ)
    exact v_mask [true, true, true, true, true, false] (hJ56 _ _ _ _ h)
def vc_X9_measures_56 (p1 : Int32) (l2 : Int32) (l3 : Int32) (l4 : Int32) (μ : Mem) (R : Mem → Prop) (J2 : Int32 → Mem → Prop) (J38 : Int32 → Mem → Prop) (J46 : Int32 → Int32 → Mem → Prop) (J56 : Int32 → Int32 → Int32 → Mem → Prop) : Prop :=
  (((gi μ 77 1) ≤ l4 → J46 l2 (l3 + 1) μ) ∧ (¬ (gi μ 77 1) ≤ l4 → (pre_X9_soonBy p1 (l3 / 6) (l3 - l3 / 6 * 6) l4 μ ∧ ∀ (x2 : Int32) (μ3 : Mem), post_X9_soonBy p1 (l3 / 6) (l3 - l3 / 6 * 6) l4 μ x2 μ3 → ((¬ l2 = 0 → vp_in l3 186 ∧ (((gi μ3 90 (Int32.toNatClampNeg l3)) ≤ x2 → vp_in l3 186 ∧ vp_in l3 186 ∧ (∀ μ10, μ10 = ui μ3 90 (Int32.toNatClampNeg l3) (gi μ3 90 (Int32.toNatClampNeg l3)) → J56 1 l3 (l4 + 1) μ10)) ∧ (¬ (gi μ3 90 (Int32.toNatClampNeg l3)) ≤ x2 → vp_in l3 186 ∧ (∀ μ13, μ13 = ui μ3 90 (Int32.toNatClampNeg l3) x2 → J56 1 l3 (l4 + 1) μ13)))) ∧ (l2 = 0 → vp_in l3 186 ∧ (((gi μ3 90 (Int32.toNatClampNeg l3)) ≤ x2 → vp_in l3 186 ∧ (((gi μ3 90 (Int32.toNatClampNeg l3)) ≤ x2 → vp_in l3 186 ∧ vp_in l3 186 ∧ (∀ μ21, μ21 = ui μ3 90 (Int32.toNatClampNeg l3) (gi μ3 90 (Int32.toNatClampNeg l3)) → J56 0 l3 (l4 + 1) μ21)) ∧ (¬ (gi μ3 90 (Int32.toNatClampNeg l3)) ≤ x2 → vp_in l3 186 ∧ (∀ μ24, μ24 = ui μ3 90 (Int32.toNatClampNeg l3) x2 → J56 0 l3 (l4 + 1) μ24)))) ∧ (¬ (gi μ3 90 (Int32.toNatClampNeg l3)) ≤ x2 → vp_in l3 186 ∧ (((gi μ3 90 (Int32.toNatClampNeg l3)) ≤ x2 → vp_in l3 186 ∧ vp_in l3 186 ∧ (∀ μ30, μ30 = ui μ3 90 (Int32.toNatClampNeg l3) (gi μ3 90 (Int32.toNatClampNeg l3)) → J56 1 l3 (l4 + 1) μ30)) ∧ (¬ (gi μ3 90 (Int32.toNatClampNeg l3)) ≤ x2 → vp_in l3 186 ∧ (∀ μ33, μ33 = ui μ3 90 (Int32.toNatClampNeg l3) x2 → J56 1 l3 (l4 + 1) μ33))))))))))
set_option maxRecDepth 20000 in
set_option maxHeartbeats 4000000 in
theorem wk_X9_measures_56 {X : XT} {P : Post} (hO : OkM X cX9_measures RX9 2 none P) (hn : xn X = 6) (p1 : Int32)  (l2 : Int32) (l3 : Int32) (l4 : Int32) (μ : Mem) {R : Mem → Prop} (hR : ∀ m, R m → P none m) {J2 : Int32 → Mem → Prop} {J38 : Int32 → Mem → Prop} {J46 : Int32 → Int32 → Mem → Prop} {J56 : Int32 → Int32 → Int32 → Mem → Prop} (hJ2 : ∀ (l2 : Int32) (m : Mem), J2 l2 m → V X 2 [some (.ref 75), some (.int p1), some (.int l2), none, none, none] [] m) (hJ38 : ∀ (l2 : Int32) (m : Mem), J38 l2 m → V X 38 [some (.ref 75), some (.int p1), some (.int l2), none, none, none] [] m) (hJ46 : ∀ (l2 : Int32) (l3 : Int32) (m : Mem), J46 l2 l3 m → V X 46 [some (.ref 75), some (.int p1), some (.int l2), some (.int l3), none, none] [] m) (hJ56 : ∀ (l2 : Int32) (l3 : Int32) (l4 : Int32) (m : Mem), J56 l2 l3 l4 m → V X 56 [some (.ref 75), some (.int p1), some (.int l2), some (.int l3), some (.int l4), none] [] m)  (h : vc_X9_measures_56 p1 l2 l3 l4 μ R J2 J38 J46 J56) : V X 56 [some (.ref 75), some (.int p1), some (.int l2), some (.int l3), some (.int l4), none] [] μ := by
  have hX := hO.1
  unfold vc_X9_measures_56 at h
  refine v_iload hX dX9_measures_56 rfl (?_ : V X 58 [some (.ref 75), some (.int p1), some (.int l2), some (.int l3), some (.int l4), none] [.int l4] μ)
  refine v_aload_n hX dX9_measures_58 rfl (?_ : V X 59 [some (.ref 75), some (.int p1), some (.int l2), some (.int l3), some (.int l4), none] [.ref 75, .int l4] μ)
  refine v_getr hX (77) fk_X9_13 sh_75 rfl rfl dX9_measures_59 (?_ : V X 62 [some (.ref 75), some (.int p1), some (.int l2), some (.int l3), some (.int l4), none] [.ref 77, .int l4] μ)
  refine v_iconst hX 1 dX9_measures_62 rfl (?_ : V X 63 [some (.ref 75), some (.int p1), some (.int l2), some (.int l3), some (.int l4), none] [.int 1, .ref 77, .int l4] μ)
  refine w_iald hX 1 sh_77 (vp_lit (by decide)) (by decide) dX9_measures_63 (?_ : V X 64 [some (.ref 75), some (.int p1), some (.int l2), some (.int l3), some (.int l4), none] [.int (gi μ 77 1), .int l4] μ)
  refine v_icmp_ge hX 139 dX9_measures_64 rfl (fun c1 => ?_) (fun c1 => ?_)
  · replace h := h.1 c1
    refine v_iinc hX 1 dX9_measures_139 (by rw [hn]; decide) rfl rfl (?_ : V X 142 [some (.ref 75), some (.int p1), some (.int l2), some (.int (l3 + 1)), some (.int l4), none] [] μ)
    refine v_goto hX 46 dX9_measures_142 rfl (?_ : V X 46 [some (.ref 75), some (.int p1), some (.int l2), some (.int (l3 + 1)), some (.int l4), none] [] μ)
    exact v_mask [true, true, true, true, false, false] (hJ46 _ _ _ h)
  · replace h := h.2 c1
    refine v_aload_n hX dX9_measures_67 rfl (?_ : V X 68 [some (.ref 75), some (.int p1), some (.int l2), some (.int l3), some (.int l4), none] [.ref 75] μ)
    refine v_iload_n hX dX9_measures_68 rfl (?_ : V X 69 [some (.ref 75), some (.int p1), some (.int l2), some (.int l3), some (.int l4), none] [.int p1, .ref 75] μ)
    refine v_iload_n hX dX9_measures_69 rfl (?_ : V X 70 [some (.ref 75), some (.int p1), some (.int l2), some (.int l3), some (.int l4), none] [.int l3, .int p1, .ref 75] μ)
    refine v_bipush hX 6 dX9_measures_70 rfl (?_ : V X 72 [some (.ref 75), some (.int p1), some (.int l2), some (.int l3), some (.int l4), none] [.int 6, .int l3, .int p1, .ref 75] μ)
    refine v_idiv hX dX9_measures_72 (by decide) (?_ : V X 73 [some (.ref 75), some (.int p1), some (.int l2), some (.int l3), some (.int l4), none] [.int (l3 / 6), .int p1, .ref 75] μ)
    refine v_iload_n hX dX9_measures_73 rfl (?_ : V X 74 [some (.ref 75), some (.int p1), some (.int l2), some (.int l3), some (.int l4), none] [.int l3, .int (l3 / 6), .int p1, .ref 75] μ)
    refine v_bipush hX 6 dX9_measures_74 rfl (?_ : V X 76 [some (.ref 75), some (.int p1), some (.int l2), some (.int l3), some (.int l4), none] [.int 6, .int l3, .int (l3 / 6), .int p1, .ref 75] μ)
    refine v_irem hX dX9_measures_76 (by decide) (?_ : V X 77 [some (.ref 75), some (.int p1), some (.int l2), some (.int l3), some (.int l4), none] [.int (l3 - l3 / 6 * 6), .int (l3 / 6), .int p1, .ref 75] μ)
    refine v_iload hX dX9_measures_77 rfl (?_ : V X 79 [some (.ref 75), some (.int p1), some (.int l2), some (.int l3), some (.int l4), none] [.int l4, .int (l3 - l3 / 6 * 6), .int (l3 / 6), .int p1, .ref 75] μ)
    refine v_callV hX sp_X9_soonBy ck_X9_soonBy mk_X9_173 mv_X9_soonBy sh_75 (by decide) (by decide) [.int p1, .int (l3 / 6), .int (l3 - l3 / 6 * 6), .int l4] [] rfl rfl (Nat.le_of_ble_eq_true rfl) dX9_measures_79 ⟨p1, (l3 / 6), (l3 - l3 / 6 * 6), l4, rfl, h.1, fun x2 μ3 hp4 => (?_ : V X 82 [some (.ref 75), some (.int p1), some (.int l2), some (.int l3), some (.int l4), none] [.int x2] μ3)⟩
    replace h := h.2 x2 μ3 hp4
    refine v_istore hX dX9_measures_82 (by rw [hn]; decide) (?_ : V X 84 [some (.ref 75), some (.int p1), some (.int l2), some (.int l3), some (.int l4), some (.int x2)] [] μ3)
    refine v_iload_n hX dX9_measures_84 rfl (?_ : V X 85 [some (.ref 75), some (.int p1), some (.int l2), some (.int l3), some (.int l4), some (.int x2)] [.int l2] μ3)
    refine v_if_ne hX 99 dX9_measures_85 rfl (fun c5 => ?_) (fun c5 => ?_)
    · replace h := h.1 c5
      refine v_iconst hX 1 dX9_measures_99 rfl (?_ : V X 100 [some (.ref 75), some (.int p1), some (.int l2), some (.int l3), some (.int l4), some (.int x2)] [.int 1] μ3)
      refine v_goto hX 104 dX9_measures_100 rfl (?_ : V X 104 [some (.ref 75), some (.int p1), some (.int l2), some (.int l3), some (.int l4), some (.int x2)] [.int 1] μ3)
      refine v_istore_n hX dX9_measures_104 (by rw [hn]; decide) (?_ : V X 105 [some (.ref 75), some (.int p1), some (.int 1), some (.int l3), some (.int l4), some (.int x2)] [] μ3)
      refine v_aload_n hX dX9_measures_105 rfl (?_ : V X 106 [some (.ref 75), some (.int p1), some (.int 1), some (.int l3), some (.int l4), some (.int x2)] [.ref 75] μ3)
      refine v_getr hX (90) fk_X9_53 sh_75 rfl rfl dX9_measures_106 (?_ : V X 109 [some (.ref 75), some (.int p1), some (.int 1), some (.int l3), some (.int l4), some (.int x2)] [.ref 90] μ3)
      refine v_iload_n hX dX9_measures_109 rfl (?_ : V X 110 [some (.ref 75), some (.int p1), some (.int 1), some (.int l3), some (.int l4), some (.int x2)] [.int l3, .ref 90] μ3)
      refine v_iload hX dX9_measures_110 rfl (?_ : V X 112 [some (.ref 75), some (.int p1), some (.int 1), some (.int l3), some (.int l4), some (.int x2)] [.int x2, .int l3, .ref 90] μ3)
      refine v_aload_n hX dX9_measures_112 rfl (?_ : V X 113 [some (.ref 75), some (.int p1), some (.int 1), some (.int l3), some (.int l4), some (.int x2)] [.ref 75, .int x2, .int l3, .ref 90] μ3)
      refine v_getr hX (90) fk_X9_53 sh_75 rfl rfl dX9_measures_113 (?_ : V X 116 [some (.ref 75), some (.int p1), some (.int 1), some (.int l3), some (.int l4), some (.int x2)] [.ref 90, .int x2, .int l3, .ref 90] μ3)
      refine v_iload_n hX dX9_measures_116 rfl (?_ : V X 117 [some (.ref 75), some (.int p1), some (.int 1), some (.int l3), some (.int l4), some (.int x2)] [.int l3, .ref 90, .int x2, .int l3, .ref 90] μ3)
      have hb6 := h.1
      replace h := h.2
      refine w_iald hX (Int32.toNatClampNeg l3) sh_90 hb6 rfl dX9_measures_117 (?_ : V X 118 [some (.ref 75), some (.int p1), some (.int 1), some (.int l3), some (.int l4), some (.int x2)] [.int (gi μ3 90 (Int32.toNatClampNeg l3)), .int x2, .int l3, .ref 90] μ3)
      refine v_icmp_ge hX 126 dX9_measures_118 rfl (fun c7 => ?_) (fun c7 => ?_)
      · replace h := h.1 c7
        refine v_aload_n hX dX9_measures_126 rfl (?_ : V X 127 [some (.ref 75), some (.int p1), some (.int 1), some (.int l3), some (.int l4), some (.int x2)] [.ref 75, .int l3, .ref 90] μ3)
        refine v_getr hX (90) fk_X9_53 sh_75 rfl rfl dX9_measures_127 (?_ : V X 130 [some (.ref 75), some (.int p1), some (.int 1), some (.int l3), some (.int l4), some (.int x2)] [.ref 90, .int l3, .ref 90] μ3)
        refine v_iload_n hX dX9_measures_130 rfl (?_ : V X 131 [some (.ref 75), some (.int p1), some (.int 1), some (.int l3), some (.int l4), some (.int x2)] [.int l3, .ref 90, .int l3, .ref 90] μ3)
        have hb8 := h.1
        replace h := h.2
        refine w_iald hX (Int32.toNatClampNeg l3) sh_90 hb8 rfl dX9_measures_131 (?_ : V X 132 [some (.ref 75), some (.int p1), some (.int 1), some (.int l3), some (.int l4), some (.int x2)] [.int (gi μ3 90 (Int32.toNatClampNeg l3)), .int l3, .ref 90] μ3)
        have hb9 := h.1
        replace h := h.2
        refine w_iast hX (Int32.toNatClampNeg l3) sh_90 hb9 rfl dX9_measures_132 (fun μ10 e11 => (?_ : V X 133 [some (.ref 75), some (.int p1), some (.int 1), some (.int l3), some (.int l4), some (.int x2)] [] μ10))
        replace h := h μ10 e11
        refine v_iinc hX 1 dX9_measures_133 (by rw [hn]; decide) rfl rfl (?_ : V X 136 [some (.ref 75), some (.int p1), some (.int 1), some (.int l3), some (.int (l4 + 1)), some (.int x2)] [] μ10)
        refine v_goto hX 56 dX9_measures_136 rfl (?_ : V X 56 [some (.ref 75), some (.int p1), some (.int 1), some (.int l3), some (.int (l4 + 1)), some (.int x2)] [] μ10)
        exact v_mask [true, true, true, true, true, false] (hJ56 _ _ _ _ h)
      · replace h := h.2 c7
        refine v_iload hX dX9_measures_121 rfl (?_ : V X 123 [some (.ref 75), some (.int p1), some (.int 1), some (.int l3), some (.int l4), some (.int x2)] [.int x2, .int l3, .ref 90] μ3)
        refine v_goto hX 132 dX9_measures_123 rfl (?_ : V X 132 [some (.ref 75), some (.int p1), some (.int 1), some (.int l3), some (.int l4), some (.int x2)] [.int x2, .int l3, .ref 90] μ3)
        have hb12 := h.1
        replace h := h.2
        refine w_iast hX (Int32.toNatClampNeg l3) sh_90 hb12 rfl dX9_measures_132 (fun μ13 e14 => (?_ : V X 133 [some (.ref 75), some (.int p1), some (.int 1), some (.int l3), some (.int l4), some (.int x2)] [] μ13))
        replace h := h μ13 e14
        refine v_iinc hX 1 dX9_measures_133 (by rw [hn]; decide) rfl rfl (?_ : V X 136 [some (.ref 75), some (.int p1), some (.int 1), some (.int l3), some (.int (l4 + 1)), some (.int x2)] [] μ13)
        refine v_goto hX 56 dX9_measures_136 rfl (?_ : V X 56 [some (.ref 75), some (.int p1), some (.int 1), some (.int l3), some (.int (l4 + 1)), some (.int x2)] [] μ13)
        exact v_mask [true, true, true, true, true, false] (hJ56 _ _ _ _ h)
    · replace h := h.2 c5
      refine v_iload hX dX9_measures_88 rfl (?_ : V X 90 [some (.ref 75), some (.int p1), some (.int l2), some (.int l3), some (.int l4), some (.int x2)] [.int x2] μ3)
      refine v_aload_n hX dX9_measures_90 rfl (?_ : V X 91 [some (.ref 75), some (.int p1), some (.int l2), some (.int l3), some (.int l4), some (.int x2)] [.ref 75, .int x2] μ3)
      refine v_getr hX (90) fk_X9_53 sh_75 rfl rfl dX9_measures_91 (?_ : V X 94 [some (.ref 75), some (.int p1), some (.int l2), some (.int l3), some (.int l4), some (.int x2)] [.ref 90, .int x2] μ3)
      refine v_iload_n hX dX9_measures_94 rfl (?_ : V X 95 [some (.ref 75), some (.int p1), some (.int l2), some (.int l3), some (.int l4), some (.int x2)] [.int l3, .ref 90, .int x2] μ3)
      have hb15 := h.1
      replace h := h.2
      refine w_iald hX (Int32.toNatClampNeg l3) sh_90 hb15 rfl dX9_measures_95 (?_ : V X 96 [some (.ref 75), some (.int p1), some (.int l2), some (.int l3), some (.int l4), some (.int x2)] [.int (gi μ3 90 (Int32.toNatClampNeg l3)), .int x2] μ3)
      refine v_icmp_ge hX 103 dX9_measures_96 rfl (fun c16 => ?_) (fun c16 => ?_)
      · replace h := h.1 c16
        refine v_iconst hX 0 dX9_measures_103 rfl (?_ : V X 104 [some (.ref 75), some (.int p1), some (.int l2), some (.int l3), some (.int l4), some (.int x2)] [.int 0] μ3)
        refine v_istore_n hX dX9_measures_104 (by rw [hn]; decide) (?_ : V X 105 [some (.ref 75), some (.int p1), some (.int 0), some (.int l3), some (.int l4), some (.int x2)] [] μ3)
        refine v_aload_n hX dX9_measures_105 rfl (?_ : V X 106 [some (.ref 75), some (.int p1), some (.int 0), some (.int l3), some (.int l4), some (.int x2)] [.ref 75] μ3)
        refine v_getr hX (90) fk_X9_53 sh_75 rfl rfl dX9_measures_106 (?_ : V X 109 [some (.ref 75), some (.int p1), some (.int 0), some (.int l3), some (.int l4), some (.int x2)] [.ref 90] μ3)
        refine v_iload_n hX dX9_measures_109 rfl (?_ : V X 110 [some (.ref 75), some (.int p1), some (.int 0), some (.int l3), some (.int l4), some (.int x2)] [.int l3, .ref 90] μ3)
        refine v_iload hX dX9_measures_110 rfl (?_ : V X 112 [some (.ref 75), some (.int p1), some (.int 0), some (.int l3), some (.int l4), some (.int x2)] [.int x2, .int l3, .ref 90] μ3)
        refine v_aload_n hX dX9_measures_112 rfl (?_ : V X 113 [some (.ref 75), some (.int p1), some (.int 0), some (.int l3), some (.int l4), some (.int x2)] [.ref 75, .int x2, .int l3, .ref 90] μ3)
        refine v_getr hX (90) fk_X9_53 sh_75 rfl rfl dX9_measures_113 (?_ : V X 116 [some (.ref 75), some (.int p1), some (.int 0), some (.int l3), some (.int l4), some (.int x2)] [.ref 90, .int x2, .int l3, .ref 90] μ3)
        refine v_iload_n hX dX9_measures_116 rfl (?_ : V X 117 [some (.ref 75), some (.int p1), some (.int 0), some (.int l3), some (.int l4), some (.int x2)] [.int l3, .ref 90, .int x2, .int l3, .ref 90] μ3)
        have hb17 := h.1
        replace h := h.2
        refine w_iald hX (Int32.toNatClampNeg l3) sh_90 hb17 rfl dX9_measures_117 (?_ : V X 118 [some (.ref 75), some (.int p1), some (.int 0), some (.int l3), some (.int l4), some (.int x2)] [.int (gi μ3 90 (Int32.toNatClampNeg l3)), .int x2, .int l3, .ref 90] μ3)
        refine v_icmp_ge hX 126 dX9_measures_118 rfl (fun c18 => ?_) (fun c18 => ?_)
        · replace h := h.1 c18
          refine v_aload_n hX dX9_measures_126 rfl (?_ : V X 127 [some (.ref 75), some (.int p1), some (.int 0), some (.int l3), some (.int l4), some (.int x2)] [.ref 75, .int l3, .ref 90] μ3)
          refine v_getr hX (90) fk_X9_53 sh_75 rfl rfl dX9_measures_127 (?_ : V X 130 [some (.ref 75), some (.int p1), some (.int 0), some (.int l3), some (.int l4), some (.int x2)] [.ref 90, .int l3, .ref 90] μ3)
          refine v_iload_n hX dX9_measures_130 rfl (?_ : V X 131 [some (.ref 75), some (.int p1), some (.int 0), some (.int l3), some (.int l4), some (.int x2)] [.int l3, .ref 90, .int l3, .ref 90] μ3)
          have hb19 := h.1
          replace h := h.2
          refine w_iald hX (Int32.toNatClampNeg l3) sh_90 hb19 rfl dX9_measures_131 (?_ : V X 132 [some (.ref 75), some (.int p1), some (.int 0), some (.int l3), some (.int l4), some (.int x2)] [.int (gi μ3 90 (Int32.toNatClampNeg l3)), .int l3, .ref 90] μ3)
          have hb20 := h.1
          replace h := h.2
          refine w_iast hX (Int32.toNatClampNeg l3) sh_90 hb20 rfl dX9_measures_132 (fun μ21 e22 => (?_ : V X 133 [some (.ref 75), some (.int p1), some (.int 0), some (.int l3), some (.int l4), some (.int x2)] [] μ21))
          replace h := h μ21 e22
          refine v_iinc hX 1 dX9_measures_133 (by rw [hn]; decide) rfl rfl (?_ : V X 136 [some (.ref 75), some (.int p1), some (.int 0), some (.int l3), some (.int (l4 + 1)), some (.int x2)] [] μ21)
          refine v_goto hX 56 dX9_measures_136 rfl (?_ : V X 56 [some (.ref 75), some (.int p1), some (.int 0), some (.int l3), some (.int (l4 + 1)), some (.int x2)] [] μ21)
          exact v_mask [true, true, true, true, true, false] (hJ56 _ _ _ _ h)
        · replace h := h.2 c18
          refine v_iload hX dX9_measures_121 rfl (?_ : V X 123 [some (.ref 75), some (.int p1), some (.int 0), some (.int l3), some (.int l4), some (.int x2)] [.int x2, .int l3, .ref 90] μ3)
          refine v_goto hX 132 dX9_measures_123 rfl (?_ : V X 132 [some (.ref 75), some (.int p1), some (.int 0), some (.int l3), some (.int l4), some (.int x2)] [.int x2, .int l3, .ref 90] μ3)
          have hb23 := h.1
          replace h := h.2
          refine w_iast hX (Int32.toNatClampNeg l3) sh_90 hb23 rfl dX9_measures_132 (fun μ24 e25 => (?_ : V X 133 [some (.ref 75), some (.int p1), some (.int 0), some (.int l3), some (.int l4), some (.int x2)] [] μ24))
          replace h := h μ24 e25
          refine v_iinc hX 1 dX9_measures_133 (by rw [hn]; decide) rfl rfl (?_ : V X 136 [some (.ref 75), some (.int p1), some (.int 0), some (.int l3), some (.int (l4 + 1)), some (.int x2)] [] μ24)
          refine v_goto hX 56 dX9_measures_136 rfl (?_ : V X 56 [some (.ref 75), some (.int p1), some (.int 0), some (.int l3), some (.int (l4 + 1)), some (.int x2)] [] μ24)
          exact v_mask [true, true, true, true, true, false] (hJ56 _ _ _ _ h)
      · replace h := h.2 c16
        refine v_iconst hX 1 dX9_measures_99 rfl (?_ : V X 100 [some (.ref 75), some (.int p1), some (.int l2), some (.int l3), some (.int l4), some (.int x2)] [.int 1] μ3)
        refine v_goto hX 104 dX9_measures_100 rfl (?_ : V X 104 [some (.ref 75), some (.int p1), some (.int l2), some (.int l3), some (.int l4), some (.int x2)] [.int 1] μ3)
        refine v_istore_n hX dX9_measures_104 (by rw [hn]; decide) (?_ : V X 105 [some (.ref 75), some (.int p1), some (.int 1), some (.int l3), some (.int l4), some (.int x2)] [] μ3)
        refine v_aload_n hX dX9_measures_105 rfl (?_ : V X 106 [some (.ref 75), some (.int p1), some (.int 1), some (.int l3), some (.int l4), some (.int x2)] [.ref 75] μ3)
        refine v_getr hX (90) fk_X9_53 sh_75 rfl rfl dX9_measures_106 (?_ : V X 109 [some (.ref 75), some (.int p1), some (.int 1), some (.int l3), some (.int l4), some (.int x2)] [.ref 90] μ3)
        refine v_iload_n hX dX9_measures_109 rfl (?_ : V X 110 [some (.ref 75), some (.int p1), some (.int 1), some (.int l3), some (.int l4), some (.int x2)] [.int l3, .ref 90] μ3)
        refine v_iload hX dX9_measures_110 rfl (?_ : V X 112 [some (.ref 75), some (.int p1), some (.int 1), some (.int l3), some (.int l4), some (.int x2)] [.int x2, .int l3, .ref 90] μ3)
        refine v_aload_n hX dX9_measures_112 rfl (?_ : V X 113 [some (.ref 75), some (.int p1), some (.int 1), some (.int l3), some (.int l4), some (.int x2)] [.ref 75, .int x2, .int l3, .ref 90] μ3)
        refine v_getr hX (90) fk_X9_53 sh_75 rfl rfl dX9_measures_113 (?_ : V X 116 [some (.ref 75), some (.int p1), some (.int 1), some (.int l3), some (.int l4), some (.int x2)] [.ref 90, .int x2, .int l3, .ref 90] μ3)
        refine v_iload_n hX dX9_measures_116 rfl (?_ : V X 117 [some (.ref 75), some (.int p1), some (.int 1), some (.int l3), some (.int l4), some (.int x2)] [.int l3, .ref 90, .int x2, .int l3, .ref 90] μ3)
        have hb26 := h.1
        replace h := h.2
        refine w_iald hX (Int32.toNatClampNeg l3) sh_90 hb26 rfl dX9_measures_117 (?_ : V X 118 [some (.ref 75), some (.int p1), some (.int 1), some (.int l3), some (.int l4), some (.int x2)] [.int (gi μ3 90 (Int32.toNatClampNeg l3)), .int x2, .int l3, .ref 90] μ3)
        refine v_icmp_ge hX 126 dX9_measures_118 rfl (fun c27 => ?_) (fun c27 => ?_)
        · replace h := h.1 c27
          refine v_aload_n hX dX9_measures_126 rfl (?_ : V X 127 [some (.ref 75), some (.int p1), some (.int 1), some (.int l3), some (.int l4), some (.int x2)] [.ref 75, .int l3, .ref 90] μ3)
          refine v_getr hX (90) fk_X9_53 sh_75 rfl rfl dX9_measures_127 (?_ : V X 130 [some (.ref 75), some (.int p1), some (.int 1), some (.int l3), some (.int l4), some (.int x2)] [.ref 90, .int l3, .ref 90] μ3)
          refine v_iload_n hX dX9_measures_130 rfl (?_ : V X 131 [some (.ref 75), some (.int p1), some (.int 1), some (.int l3), some (.int l4), some (.int x2)] [.int l3, .ref 90, .int l3, .ref 90] μ3)
          have hb28 := h.1
          replace h := h.2
          refine w_iald hX (Int32.toNatClampNeg l3) sh_90 hb28 rfl dX9_measures_131 (?_ : V X 132 [some (.ref 75), some (.int p1), some (.int 1), some (.int l3), some (.int l4), some (.int x2)] [.int (gi μ3 90 (Int32.toNatClampNeg l3)), .int l3, .ref 90] μ3)
          have hb29 := h.1
          replace h := h.2
          refine w_iast hX (Int32.toNatClampNeg l3) sh_90 hb29 rfl dX9_measures_132 (fun μ30 e31 => (?_ : V X 133 [some (.ref 75), some (.int p1), some (.int 1), some (.int l3), some (.int l4), some (.int x2)] [] μ30))
          replace h := h μ30 e31
          refine v_iinc hX 1 dX9_measures_133 (by rw [hn]; decide) rfl rfl (?_ : V X 136 [some (.ref 75), some (.int p1), some (.int 1), some (.int l3), some (.int (l4 + 1)), some (.int x2)] [] μ30)
          refine v_goto hX 56 dX9_measures_136 rfl (?_ : V X 56 [some (.ref 75), some (.int p1), some (.int 1), some (.int l3), some (.int (l4 + 1)), some (.int x2)] [] μ30)
          exact v_mask [true, true, true, true, true, false] (hJ56 _ _ _ _ h)
        · replace h := h.2 c27
          refine v_iload hX dX9_measures_121 rfl (?_ : V X 123 [some (.ref 75), some (.int p1), some (.int 1), some (.int l3), some (.int l4), some (.int x2)] [.int x2, .int l3, .ref 90] μ3)
          refine v_goto hX 132 dX9_measures_123 rfl (?_ : V X 132 [some (.ref 75), some (.int p1), some (.int 1), some (.int l3), some (.int l4), some (.int x2)] [.int x2, .int l3, .ref 90] μ3)
          have hb32 := h.1
          replace h := h.2
          refine w_iast hX (Int32.toNatClampNeg l3) sh_90 hb32 rfl dX9_measures_132 (fun μ33 e34 => (?_ : V X 133 [some (.ref 75), some (.int p1), some (.int 1), some (.int l3), some (.int l4), some (.int x2)] [] μ33))
          replace h := h μ33 e34
          refine v_iinc hX 1 dX9_measures_133 (by rw [hn]; decide) rfl rfl (?_ : V X 136 [some (.ref 75), some (.int p1), some (.int 1), some (.int l3), some (.int (l4 + 1)), some (.int x2)] [] μ33)
          refine v_goto hX 56 dX9_measures_136 rfl (?_ : V X 56 [some (.ref 75), some (.int p1), some (.int 1), some (.int l3), some (.int (l4 + 1)), some (.int x2)] [] μ33)
          exact v_mask [true, true, true, true, true, false] (hJ56 _ _ _ _ h)
set_option maxRecDepth 20000 in
set_option maxHeartbeats 1000000 in
theorem vp_X9_measures_0 (p1 : Int32)  (μ : Mem) (hpre : pre_X9_measures p1 μ) : vc_X9_measures_0 p1 μ (post_X9_measures p1 μ) (fun l2 m => ∃ k : Nat, inv_X9_measures_2 p1 μ k l2 m) (fun l2 m => ∃ k : Nat, inv_X9_measures_38 p1 μ k l2 m) (fun l2 l3 m => ∃ k : Nat, inv_X9_measures_46 p1 μ k l2 l3 m) (fun l2 l3 l4 m => ∃ k : Nat, inv_X9_measures_56 p1 μ k l2 l3 l4 m) := by
  simp only [vc_X9_measures_0, pre_X9_soonBy, post_X9_soonBy, and_imp, call_eq, forall_eq, forall_const, true_and, and_true]
  exact ⟨186 * 100000000 * 10000 + 10000, 0, by omega, rfl, rfl, fr_refl _ _, fun k hk => absurd hk (Nat.not_lt_zero k)⟩
set_option maxRecDepth 20000 in
set_option maxHeartbeats 1000000 in
theorem vp_X9_measures_2 (p1 : Int32)  (μ : Mem) (hpre : pre_X9_measures p1 μ) (n : Nat) (l2 : Int32) (μ0 : Mem) (hi : inv_X9_measures_2 p1 μ n l2 μ0) : vc_X9_measures_2 p1 l2 μ0 (post_X9_measures p1 μ) (fun l2 m => ∃ k : Nat, k < n ∧ inv_X9_measures_2 p1 μ k l2 m) (fun l2 m => ∃ k : Nat, k < n ∧ inv_X9_measures_38 p1 μ k l2 m) (fun l2 l3 m => ∃ k : Nat, k < n ∧ inv_X9_measures_46 p1 μ k l2 l3 m) (fun l2 l3 l4 m => ∃ k : Nat, k < n ∧ inv_X9_measures_56 p1 μ k l2 l3 l4 m) := by
  simp only [vc_X9_measures_2, pre_X9_soonBy, post_X9_soonBy, and_imp, call_eq, forall_eq, forall_const, true_and, and_true]
  obtain ⟨e1, t0, t1, t2, t3⟩ := hpre
  obtain ⟨i, hi1, rfl, rfl, hf, hv⟩ := hi
  rw [show (186 : Int32) = nI 186 from rfl, nI_leI (by omega) (by omega), nI_clamp (by omega), hf.1 77 (by simp)]
  refine ⟨fun c => ?_, fun c => ⟨vp_in_nI (by omega) (by omega), 186 * 100000000 * 10000 + 10000 - (i + 1), by omega, i + 1, by omega, rfl, nI_1 i, fr_trans hf (fr_ui (by simp)), fun k hk => ?_⟩⟩
  · have hi2 : i = 186 := by omega
    subst hi2
    have hg : ∀ k, k < 186 → gn μ0 90 k = 100000000 := fun k hk => by unfold gn; rw [hv k hk]; rfl
    have hsum : sumT μ0 = 186 * 100000000 := by
      have e : sumT μ0 = sumN (fun _ => 100000000) 186 := sumN_congr 186 hg
      rw [e]
      have : ∀ n, sumN (fun _ => 100000000) n = n * 100000000 := by
        intro n; induction n with
        | zero => rfl
        | succ n ih => simp only [sumN, ih]; omega
      rw [this]
    have mm : MM μ p1.toNatClampNeg μ0 := ⟨hf, fun k hk => ⟨by rw [hg k hk]; exact hv k hk, by rw [hg k hk]; omega⟩, fun k hk => Or.inl (hg k hk)⟩
    rw [show (0 : Int32) = nI 0 from rfl, isN_le t1 (by omega) (by omega)]
    refine ⟨fun q => ⟨_, ?_, Or.inl rfl, rfl, mm, fun _ k hk d hd => by omega⟩, fun q => ⟨_, ?_, Or.inr rfl, rfl, mm, fun z => absurd z (by decide)⟩⟩
    · rw [hsum, if_pos (show nI 0 = 0 from rfl)]; simp
    · rw [hsum]; simp
  · rw [gi_ui]
    by_cases z : k = i
    · rw [if_pos ⟨rfl, z⟩]
    · rw [if_neg (by simp [z])]; exact hv k (by omega)
set_option maxRecDepth 20000 in
set_option maxHeartbeats 1000000 in
theorem vp_X9_measures_38 (p1 : Int32)  (μ : Mem) (hpre : pre_X9_measures p1 μ) (n : Nat) (l2 : Int32) (μ0 : Mem) (hi : inv_X9_measures_38 p1 μ n l2 μ0) : vc_X9_measures_38 p1 l2 μ0 (post_X9_measures p1 μ) (fun l2 m => ∃ k : Nat, k < n ∧ inv_X9_measures_2 p1 μ k l2 m) (fun l2 m => ∃ k : Nat, k < n ∧ inv_X9_measures_38 p1 μ k l2 m) (fun l2 l3 m => ∃ k : Nat, k < n ∧ inv_X9_measures_46 p1 μ k l2 l3 m) (fun l2 l3 l4 m => ∃ k : Nat, k < n ∧ inv_X9_measures_56 p1 μ k l2 l3 l4 m) := by
  simp only [vc_X9_measures_38, pre_X9_soonBy, post_X9_soonBy, and_imp, call_eq, forall_eq, forall_const, true_and, and_true]
  obtain ⟨e1, t0, t1, t2, t3⟩ := hpre
  obtain ⟨h01, rfl, mm, hst⟩ := hi
  refine ⟨fun c => ?_, fun c => ?_⟩
  · obtain ⟨m1, m2, m3⟩ := mm
    refine ⟨m1, m2, fun f hf l hl => ?_⟩
    have hk : 6 * f + incN l < 186 := by have := incN_lt hl; omega
    have e6 : (6 * f + incN l) / 6 = f := by have := incN_lt hl; omega
    have e7 : (6 * f + incN l) % 6 = incN l := by have := incN_lt hl; omega
    have hth : ∀ d, thrK μ p1.toNatClampNeg μ0 (6 * f + incN l) d = thr 100000000 (fullM μ p1.toNatClampNeg) (gn μ 82) (cM μ0) (cM μ0 f) f l d := by
      intro d; unfold thrK; rw [e6, e7, dec_inc hl]
    refine ⟨(m2 _ hk).2, fun d hd => ?_, ?_⟩
    · rw [← hth]; exact hst c _ hk d hd
    · rcases m3 _ hk with q | ⟨d, hd, q⟩
      · exact Or.inl q
      · exact Or.inr ⟨d, hd, by rw [← hth]; exact q⟩
  · refine ⟨_, ?_, 0, by omega, Or.inl rfl, rfl, rfl, mm, fun _ j hj => absurd hj (Nat.not_lt_zero j)⟩
    rw [if_neg c, if_pos rfl]; omega
set_option maxRecDepth 20000 in
set_option maxHeartbeats 1000000 in
theorem vp_X9_measures_46 (p1 : Int32)  (μ : Mem) (hpre : pre_X9_measures p1 μ) (n : Nat) (l2 : Int32) (l3 : Int32) (μ0 : Mem) (hi : inv_X9_measures_46 p1 μ n l2 l3 μ0) : vc_X9_measures_46 p1 l2 l3 μ0 (post_X9_measures p1 μ) (fun l2 m => ∃ k : Nat, k < n ∧ inv_X9_measures_2 p1 μ k l2 m) (fun l2 m => ∃ k : Nat, k < n ∧ inv_X9_measures_38 p1 μ k l2 m) (fun l2 l3 m => ∃ k : Nat, k < n ∧ inv_X9_measures_46 p1 μ k l2 l3 m) (fun l2 l3 l4 m => ∃ k : Nat, k < n ∧ inv_X9_measures_56 p1 μ k l2 l3 l4 m) := by
  simp only [vc_X9_measures_46, pre_X9_soonBy, post_X9_soonBy, and_imp, call_eq, forall_eq, forall_const, true_and, and_true]
  obtain ⟨e1, t0, t1, t2, t3⟩ := hpre
  obtain ⟨k, hk, h01, rfl, rfl, mm, hst⟩ := hi
  have hD := t1.2
  rw [show (186 : Int32) = nI 186 from rfl, nI_leI (by omega) (by omega)]
  refine ⟨fun c => ⟨_, ?_, h01, rfl, mm, fun q j hj => hst q j (by omega)⟩, fun c => ⟨_, ?_, k, 0, by omega, Nat.zero_le _, h01, rfl, rfl, rfl, mm, fun q j e hj he h => ?_⟩⟩
  · split <;> omega
  · split <;> omega
  · rcases h with h | ⟨_, h⟩
    · exact hst q j h e he
    · exact absurd h (Nat.not_lt_zero _)
set_option maxRecDepth 20000 in
set_option maxHeartbeats 1000000 in
theorem vp_X9_measures_56 (p1 : Int32)  (μ : Mem) (hpre : pre_X9_measures p1 μ) (n : Nat) (l2 : Int32) (l3 : Int32) (l4 : Int32) (μ0 : Mem) (hi : inv_X9_measures_56 p1 μ n l2 l3 l4 μ0) : vc_X9_measures_56 p1 l2 l3 l4 μ0 (post_X9_measures p1 μ) (fun l2 m => ∃ k : Nat, k < n ∧ inv_X9_measures_2 p1 μ k l2 m) (fun l2 m => ∃ k : Nat, k < n ∧ inv_X9_measures_38 p1 μ k l2 m) (fun l2 l3 m => ∃ k : Nat, k < n ∧ inv_X9_measures_46 p1 μ k l2 l3 m) (fun l2 l3 l4 m => ∃ k : Nat, k < n ∧ inv_X9_measures_56 p1 μ k l2 l3 l4 m) := by
  simp only [vc_X9_measures_56, pre_X9_soonBy, post_X9_soonBy, and_imp, call_eq, forall_eq, forall_const, true_and, and_true]
  obtain ⟨e1, hTM⟩ := hpre
  have hTM0 := hTM
  obtain ⟨t0, t1, t2, t3⟩ := hTM
  obtain ⟨k, d, hk, hd, h01, rfl, rfl, rfl, mm, hst⟩ := hi
  have hD := t1.2
  have mm0 := mm
  obtain ⟨m1, m2, m3⟩ := mm
  have k77 : gi μ0 77 1 = gi μ 77 1 := m1.1 77 (by simp) 1
  rw [k77, isN_le t1 (by omega) (by omega)]
  have ck : (nI k).toNatClampNeg = k := nI_clamp (by omega)
  have cd : (nI d).toNatClampNeg = d := nI_clamp (by omega)
  have ediv : nI k / 6 = nI (k / 6) := by rw [show (6 : Int32) = nI 6 from rfl, pk_div (by omega) (by omega) (by omega)]
  have emod : nI k - nI k / 6 * 6 = nI (k % 6) := by rw [show (6 : Int32) = nI 6 from rfl, pk_rem (by omega) (by omega) (by omega)]
  have cdiv : (nI (k / 6)).toNatClampNeg = k / 6 := nI_clamp (by omega)
  have cmod : (nI (k % 6)).toNatClampNeg = k % 6 := nI_clamp (by omega)
  rw [emod, ediv]
  refine ⟨fun c => ⟨_, ?_, k + 1, by omega, h01, nI_1 k, rfl, mm0, fun q j hj e he => hst q j e (by omega) he ?_⟩, fun c => ?_⟩
  · split <;> omega
  · rcases Nat.lt_or_ge j k with z | z
    · exact Or.inl z
    · exact Or.inr ⟨by omega, by omega⟩
  · have hdD : d < gn μ 77 1 := by omega
    have hTm : TM μ0 p1.toNatClampNeg := ⟨t0, isN_fr m1 (by simp) t1, fun e he => ⟨isN_fr m1 (by simp) (t2 e (by rw [← gn_fr m1 (by simp)]; exact he)).1, isN_fr m1 (by simp) (t2 e (by rw [← gn_fr m1 (by simp)]; exact he)).2⟩, isN_fr m1 (by simp) t3⟩
    have efm : fullM μ0 p1.toNatClampNeg = fullM μ p1.toNatClampNeg := funext fun e => by unfold fullM; rw [gn_fr m1 (by simp), gn_fr m1 (by simp)]
    have e82 : gn μ0 82 = gn μ 82 := funext fun e => gn_fr m1 (by simp) e
    rw [cdiv, cmod, cd, ck, efm, e82]
    have hthk : thr 100000000 (fullM μ p1.toNatClampNeg) (gn μ 82) (cM μ0) (cM μ0 (k / 6)) (k / 6) (decN (k % 6)) d = thrK μ p1.toNatClampNeg μ0 k d := rfl
    rw [hthk]
    obtain ⟨q1, q2⟩ := m2 k hk
    have hwb := (t2 d hdD).2.2
    have htb : thrK μ p1.toNatClampNeg μ0 k d ≤ 100000000 := by
      rw [← hthk, thr_self]; split <;> omega
    generalize hits : thrK μ p1.toNatClampNeg μ0 k d = its at *
    rw [q1, nI_leI (by omega) (by omega)]
    have in186 : vp_in (nI k) 186 := vp_in_nI hk (by omega)
    -- behind the write
    have wr : ∀ (more : Int32) (v : Nat), (more = 0 ∨ more = 1) → v = min (gn μ0 90 k) its → (more = 0 → l2 = 0 ∧ gn μ0 90 k ≤ its) → (l2 = 0 → more = 1 → its < gn μ0 90 k) → ∃ n', n' < sumT μ0 * 10000 + (if l2 = 0 then 0 else 3000) + 1 + (185 - k) * 7 + 1 + (5 - d) ∧ inv_X9_measures_56 p1 μ n' more (nI k) (nI d + 1) (ui μ0 90 k (nI v)) := by
      intro more v hm hv hm0 hm1
      have g : ∀ j, gn (ui μ0 90 k (nI v)) 90 j = if j = k then v else gn μ0 90 j := by
        intro j; unfold gn; rw [gi_ui]
        by_cases z : j = k
        · rw [if_pos ⟨rfl, z⟩, if_pos z, nI_clamp (by omega)]
        · rw [if_neg (by simp [z]), if_neg z]
      have gle : ∀ j, gn (ui μ0 90 k (nI v)) 90 j ≤ gn μ0 90 j := by
        intro j; rw [g]; split
        · rename_i z; rw [z]; omega
        · exact Nat.le_refl _
      have tle : ∀ j e, thrK μ p1.toNatClampNeg (ui μ0 90 k (nI v)) j e ≤ thrK μ p1.toNatClampNeg μ0 j e := fun j e => thr_mono2 (fun _ _ => gle _)
      have hsum : sumT (ui μ0 90 k (nI v)) + (gn μ0 90 k - v) = sumT μ0 := by
        have e : sumT (ui μ0 90 k (nI v)) = sumN (fun j => if j = k then v else gn μ0 90 j) 186 := sumN_congr 186 (fun j _ => g j)
        rw [e]; exact sumN_upd (gn μ0 90) k v 186 hk (by omega)
      have hMM : MM μ p1.toNatClampNeg (ui μ0 90 k (nI v)) := by
        refine ⟨fr_trans m1 (fr_ui (by simp)), fun j hj => ⟨?_, ?_⟩, fun j hj => ?_⟩
        · rw [g, gi_ui]
          by_cases z : j = k
          · rw [if_pos ⟨rfl, z⟩, if_pos z]
          · rw [if_neg (by simp [z]), if_neg z]; exact (m2 j hj).1
        · exact Nat.le_trans (gle j) (m2 j hj).2
        · rw [g]
          by_cases z : j = k
          · subst z
            rw [if_pos rfl]
            rcases Nat.lt_or_ge its (gn μ0 90 j) with y | y
            · exact Or.inr ⟨d, hdD, Nat.le_trans (tle j d) (by rw [hits]; omega)⟩
            · have ev : v = gn μ0 90 j := by omega
              rcases m3 j hj with x | ⟨e, he, x⟩
              · exact Or.inl (ev.trans x)
              · exact Or.inr ⟨e, he, Nat.le_trans (tle j e) (by rw [ev]; exact x)⟩
          · rw [if_neg z]
            rcases m3 j hj with x | ⟨e, he, x⟩
            · exact Or.inl x
            · exact Or.inr ⟨e, he, Nat.le_trans (tle j e) x⟩
      refine ⟨_, ?_, k, d + 1, hk, by omega, hm, rfl, nI_1 d, rfl, hMM, fun z j e hj he h => ?_⟩
      · rcases hm with rfl | rfl
        · obtain ⟨z1, z2⟩ := hm0 rfl
          rw [if_pos rfl, if_pos z1]; omega
        · rw [if_neg (by decide)]
          by_cases z : l2 = 0
          · have := hm1 z rfl
            rw [if_pos z]; omega
          · rw [if_neg z]; omega
      · obtain ⟨z1, z2⟩ := hm0 z
        have ev : v = gn μ0 90 k := by omega
        have same : ∀ j, gn (ui μ0 90 k (nI v)) 90 j = gn μ0 90 j := by
          intro j; rw [g]; split
          · rename_i y; rw [y]; exact ev
          · rfl
        have ts : thrK μ p1.toNatClampNeg (ui μ0 90 k (nI v)) j e = thrK μ p1.toNatClampNeg μ0 j e := by
          apply Nat.le_antisymm (tle j e)
          exact thr_mono2 (fun _ _ => Nat.le_of_eq (same _).symm)
        rw [same, ts]
        by_cases y : j < k ∨ (j = k ∧ e < d)
        · exact hst z1 j e hj he y
        · have hj2 : j = k := by omega
          have he2 : e = d := by omega
          subst hj2; subst he2
          rw [hits]; exact z2
    refine ⟨⟨e1, hTm, rfl, by omega, rfl, by omega, rfl, by rw [gn_fr m1 (by simp)]; exact hdD, m2⟩, fun c2 => ⟨in186, fun c3 => ⟨in186, in186, wr 1 _ (Or.inr rfl) (by omega) (fun z => absurd z (by decide)) (fun z => absurd z c2)⟩, fun c3 => ⟨in186, wr 1 _ (Or.inr rfl) (by omega) (fun z => absurd z (by decide)) (fun z => absurd z c2)⟩⟩, fun c2 => ⟨in186, fun c3 => ⟨in186, fun c4 => ⟨in186, in186, wr 0 _ (Or.inl rfl) (by omega) (fun _ => ⟨c2, c3⟩) (fun _ z => absurd z (by decide))⟩, fun c4 => absurd c3 c4⟩, fun c3 => ⟨in186, fun c4 => absurd c4 c3, fun c4 => ⟨in186, wr 1 _ (Or.inr rfl) (by omega) (fun z => absurd z (by decide)) (fun _ _ => by omega)⟩⟩⟩⟩
theorem sp_X9_measures : Sp yX9_measures cX9_measures 6 none 2 S_X9_measures := by
  refine sp_of (by decide) (fun av μ P h => ?_) ?_
  · obtain ⟨p1, rfl, -⟩ := h
    refine ⟨Nat.le_of_ble_eq_true rfl, fun v hv => ?_⟩
    simp only [List.mem_cons, List.not_mem_nil, or_false] at hv
    rcases hv with rfl | rfl <;> rfl
  · rintro X P hO _ μ ⟨p1, rfl, hpre, hpost⟩ hn
    have hJ : ∀ n : Nat, (∀ (l2 : Int32) (m : Mem), inv_X9_measures_2 p1 μ n l2 m → V X 2 [some (.ref 75), some (.int p1), some (.int l2), none, none, none] [] m) ∧ (∀ (l2 : Int32) (m : Mem), inv_X9_measures_38 p1 μ n l2 m → V X 38 [some (.ref 75), some (.int p1), some (.int l2), none, none, none] [] m) ∧ (∀ (l2 : Int32) (l3 : Int32) (m : Mem), inv_X9_measures_46 p1 μ n l2 l3 m → V X 46 [some (.ref 75), some (.int p1), some (.int l2), some (.int l3), none, none] [] m) ∧ (∀ (l2 : Int32) (l3 : Int32) (l4 : Int32) (m : Mem), inv_X9_measures_56 p1 μ n l2 l3 l4 m → V X 56 [some (.ref 75), some (.int p1), some (.int l2), some (.int l3), some (.int l4), none] [] m) := by
      intro n
      induction n using Nat.strongRecOn with
      | _ n ih =>
        exact ⟨fun l2 m hi => wk_X9_measures_2 (J2 := (fun l2 m => ∃ k : Nat, k < n ∧ inv_X9_measures_2 p1 μ k l2 m)) (J38 := (fun l2 m => ∃ k : Nat, k < n ∧ inv_X9_measures_38 p1 μ k l2 m)) (J46 := (fun l2 l3 m => ∃ k : Nat, k < n ∧ inv_X9_measures_46 p1 μ k l2 l3 m)) (J56 := (fun l2 l3 l4 m => ∃ k : Nat, k < n ∧ inv_X9_measures_56 p1 μ k l2 l3 l4 m)) hO hn p1  l2 m hpost (fun l2 m hk => by obtain ⟨k, hk, hi⟩ := hk; exact (ih k hk).1 l2 m hi) (fun l2 m hk => by obtain ⟨k, hk, hi⟩ := hk; exact (ih k hk).2.1 l2 m hi) (fun l2 l3 m hk => by obtain ⟨k, hk, hi⟩ := hk; exact (ih k hk).2.2.1 l2 l3 m hi) (fun l2 l3 l4 m hk => by obtain ⟨k, hk, hi⟩ := hk; exact (ih k hk).2.2.2 l2 l3 l4 m hi) (vp_X9_measures_2 p1  μ hpre n l2 m hi), fun l2 m hi => wk_X9_measures_38 (J2 := (fun l2 m => ∃ k : Nat, k < n ∧ inv_X9_measures_2 p1 μ k l2 m)) (J38 := (fun l2 m => ∃ k : Nat, k < n ∧ inv_X9_measures_38 p1 μ k l2 m)) (J46 := (fun l2 l3 m => ∃ k : Nat, k < n ∧ inv_X9_measures_46 p1 μ k l2 l3 m)) (J56 := (fun l2 l3 l4 m => ∃ k : Nat, k < n ∧ inv_X9_measures_56 p1 μ k l2 l3 l4 m)) hO hn p1  l2 m hpost (fun l2 m hk => by obtain ⟨k, hk, hi⟩ := hk; exact (ih k hk).1 l2 m hi) (fun l2 m hk => by obtain ⟨k, hk, hi⟩ := hk; exact (ih k hk).2.1 l2 m hi) (fun l2 l3 m hk => by obtain ⟨k, hk, hi⟩ := hk; exact (ih k hk).2.2.1 l2 l3 m hi) (fun l2 l3 l4 m hk => by obtain ⟨k, hk, hi⟩ := hk; exact (ih k hk).2.2.2 l2 l3 l4 m hi) (vp_X9_measures_38 p1  μ hpre n l2 m hi), fun l2 l3 m hi => wk_X9_measures_46 (J2 := (fun l2 m => ∃ k : Nat, k < n ∧ inv_X9_measures_2 p1 μ k l2 m)) (J38 := (fun l2 m => ∃ k : Nat, k < n ∧ inv_X9_measures_38 p1 μ k l2 m)) (J46 := (fun l2 l3 m => ∃ k : Nat, k < n ∧ inv_X9_measures_46 p1 μ k l2 l3 m)) (J56 := (fun l2 l3 l4 m => ∃ k : Nat, k < n ∧ inv_X9_measures_56 p1 μ k l2 l3 l4 m)) hO hn p1  l2 l3 m hpost (fun l2 m hk => by obtain ⟨k, hk, hi⟩ := hk; exact (ih k hk).1 l2 m hi) (fun l2 m hk => by obtain ⟨k, hk, hi⟩ := hk; exact (ih k hk).2.1 l2 m hi) (fun l2 l3 m hk => by obtain ⟨k, hk, hi⟩ := hk; exact (ih k hk).2.2.1 l2 l3 m hi) (fun l2 l3 l4 m hk => by obtain ⟨k, hk, hi⟩ := hk; exact (ih k hk).2.2.2 l2 l3 l4 m hi) (vp_X9_measures_46 p1  μ hpre n l2 l3 m hi), fun l2 l3 l4 m hi => wk_X9_measures_56 (J2 := (fun l2 m => ∃ k : Nat, k < n ∧ inv_X9_measures_2 p1 μ k l2 m)) (J38 := (fun l2 m => ∃ k : Nat, k < n ∧ inv_X9_measures_38 p1 μ k l2 m)) (J46 := (fun l2 l3 m => ∃ k : Nat, k < n ∧ inv_X9_measures_46 p1 μ k l2 l3 m)) (J56 := (fun l2 l3 l4 m => ∃ k : Nat, k < n ∧ inv_X9_measures_56 p1 μ k l2 l3 l4 m)) hO hn p1  l2 l3 l4 m hpost (fun l2 m hk => by obtain ⟨k, hk, hi⟩ := hk; exact (ih k hk).1 l2 m hi) (fun l2 m hk => by obtain ⟨k, hk, hi⟩ := hk; exact (ih k hk).2.1 l2 m hi) (fun l2 l3 m hk => by obtain ⟨k, hk, hi⟩ := hk; exact (ih k hk).2.2.1 l2 l3 m hi) (fun l2 l3 l4 m hk => by obtain ⟨k, hk, hi⟩ := hk; exact (ih k hk).2.2.2 l2 l3 l4 m hi) (vp_X9_measures_56 p1  μ hpre n l2 l3 l4 m hi)⟩
    exact wk_X9_measures_0 (J2 := (fun l2 m => ∃ k : Nat, inv_X9_measures_2 p1 μ k l2 m)) (J38 := (fun l2 m => ∃ k : Nat, inv_X9_measures_38 p1 μ k l2 m)) (J46 := (fun l2 l3 m => ∃ k : Nat, inv_X9_measures_46 p1 μ k l2 l3 m)) (J56 := (fun l2 l3 l4 m => ∃ k : Nat, inv_X9_measures_56 p1 μ k l2 l3 l4 m)) hO hn p1  μ hpost (fun l2 m hk => by obtain ⟨k, hi⟩ := hk; exact (hJ k).1 l2 m hi) (fun l2 m hk => by obtain ⟨k, hi⟩ := hk; exact (hJ k).2.1 l2 m hi) (fun l2 l3 m hk => by obtain ⟨k, hi⟩ := hk; exact (hJ k).2.2.1 l2 l3 m hi) (fun l2 l3 l4 m hk => by obtain ⟨k, hi⟩ := hk; exact (hJ k).2.2.2 l2 l3 l4 m hi) (vp_X9_measures_0 p1  μ hpre)
def S_X9_soonAt : Tr := fun av μ P => ∃ (p1 : Int32), av = [.ref 75, .int p1] ∧ pre_X9_soonAt p1 μ ∧ ∀ (x : Int32) (m : Mem), post_X9_soonAt p1 μ x m → P (some (.int x)) m
def vc_X9_soonAt_0 (p1 : Int32)  (μ : Mem) (R : Int32 → Mem → Prop)  : Prop :=
  (pre_X9_measures p1 μ ∧ ∀ (μ2 : Mem), post_X9_measures p1 μ μ2 → vp_in (5 + p1) 15 ∧ vp_in (10 + p1) 15 ∧ vp_in ((6 * (gi μ2 84 (Int32.toNatClampNeg (5 + p1)))) + (gi μ2 84 (Int32.toNatClampNeg (10 + p1)))) 186 ∧ R (gi μ2 90 (Int32.toNatClampNeg ((6 * (gi μ2 84 (Int32.toNatClampNeg (5 + p1)))) + (gi μ2 84 (Int32.toNatClampNeg (10 + p1)))))) μ2)
set_option maxRecDepth 20000 in
set_option maxHeartbeats 4000000 in
theorem wk_X9_soonAt_0 {X : XT} {P : Post} (hO : OkM X cX9_soonAt RX9 3 (some .int) P) (hn : xn X = 2) (p1 : Int32)   (μ : Mem) {R : Int32 → Mem → Prop} (hR : ∀ x m, R x m → P (some (.int x)) m)    (h : vc_X9_soonAt_0 p1  μ R ) : V X 0 [some (.ref 75), some (.int p1)] [] μ := by
  have hX := hO.1
  unfold vc_X9_soonAt_0 at h
  refine v_aload_n hX dX9_soonAt_0 rfl (?_ : V X 1 [some (.ref 75), some (.int p1)] [.ref 75] μ)
  refine v_iload_n hX dX9_soonAt_1 rfl (?_ : V X 2 [some (.ref 75), some (.int p1)] [.int p1, .ref 75] μ)
  refine v_callV hX sp_X9_measures ck_X9_measures mk_X9_177 mv_X9_measures sh_75 (by decide) (by decide) [.int p1] [] rfl rfl (Nat.le_of_ble_eq_true rfl) dX9_soonAt_2 ⟨p1, rfl, h.1, fun μ2 hp3 => (?_ : V X 5 [some (.ref 75), some (.int p1)] [] μ2)⟩
  replace h := h.2 μ2 hp3
  refine v_aload_n hX dX9_soonAt_5 rfl (?_ : V X 6 [some (.ref 75), some (.int p1)] [.ref 75] μ2)
  refine v_getr hX (90) fk_X9_53 sh_75 rfl rfl dX9_soonAt_6 (?_ : V X 9 [some (.ref 75), some (.int p1)] [.ref 90] μ2)
  refine v_bipush hX 6 dX9_soonAt_9 rfl (?_ : V X 11 [some (.ref 75), some (.int p1)] [.int 6, .ref 90] μ2)
  refine v_aload_n hX dX9_soonAt_11 rfl (?_ : V X 12 [some (.ref 75), some (.int p1)] [.ref 75, .int 6, .ref 90] μ2)
  refine v_getr hX (84) fk_X9_34 sh_75 rfl rfl dX9_soonAt_12 (?_ : V X 15 [some (.ref 75), some (.int p1)] [.ref 84, .int 6, .ref 90] μ2)
  refine v_iconst hX 5 dX9_soonAt_15 rfl (?_ : V X 16 [some (.ref 75), some (.int p1)] [.int 5, .ref 84, .int 6, .ref 90] μ2)
  refine v_iload_n hX dX9_soonAt_16 rfl (?_ : V X 17 [some (.ref 75), some (.int p1)] [.int p1, .int 5, .ref 84, .int 6, .ref 90] μ2)
  refine v_iadd hX dX9_soonAt_17 (?_ : V X 18 [some (.ref 75), some (.int p1)] [.int (5 + p1), .ref 84, .int 6, .ref 90] μ2)
  have hb4 := h.1
  replace h := h.2
  refine w_iald hX (Int32.toNatClampNeg (5 + p1)) sh_84 hb4 rfl dX9_soonAt_18 (?_ : V X 19 [some (.ref 75), some (.int p1)] [.int (gi μ2 84 (Int32.toNatClampNeg (5 + p1))), .int 6, .ref 90] μ2)
  refine v_imul hX dX9_soonAt_19 (?_ : V X 20 [some (.ref 75), some (.int p1)] [.int (6 * (gi μ2 84 (Int32.toNatClampNeg (5 + p1)))), .ref 90] μ2)
  refine v_aload_n hX dX9_soonAt_20 rfl (?_ : V X 21 [some (.ref 75), some (.int p1)] [.ref 75, .int (6 * (gi μ2 84 (Int32.toNatClampNeg (5 + p1)))), .ref 90] μ2)
  refine v_getr hX (84) fk_X9_34 sh_75 rfl rfl dX9_soonAt_21 (?_ : V X 24 [some (.ref 75), some (.int p1)] [.ref 84, .int (6 * (gi μ2 84 (Int32.toNatClampNeg (5 + p1)))), .ref 90] μ2)
  refine v_bipush hX 10 dX9_soonAt_24 rfl (?_ : V X 26 [some (.ref 75), some (.int p1)] [.int 10, .ref 84, .int (6 * (gi μ2 84 (Int32.toNatClampNeg (5 + p1)))), .ref 90] μ2)
  refine v_iload_n hX dX9_soonAt_26 rfl (?_ : V X 27 [some (.ref 75), some (.int p1)] [.int p1, .int 10, .ref 84, .int (6 * (gi μ2 84 (Int32.toNatClampNeg (5 + p1)))), .ref 90] μ2)
  refine v_iadd hX dX9_soonAt_27 (?_ : V X 28 [some (.ref 75), some (.int p1)] [.int (10 + p1), .ref 84, .int (6 * (gi μ2 84 (Int32.toNatClampNeg (5 + p1)))), .ref 90] μ2)
  have hb5 := h.1
  replace h := h.2
  refine w_iald hX (Int32.toNatClampNeg (10 + p1)) sh_84 hb5 rfl dX9_soonAt_28 (?_ : V X 29 [some (.ref 75), some (.int p1)] [.int (gi μ2 84 (Int32.toNatClampNeg (10 + p1))), .int (6 * (gi μ2 84 (Int32.toNatClampNeg (5 + p1)))), .ref 90] μ2)
  refine v_iadd hX dX9_soonAt_29 (?_ : V X 30 [some (.ref 75), some (.int p1)] [.int ((6 * (gi μ2 84 (Int32.toNatClampNeg (5 + p1)))) + (gi μ2 84 (Int32.toNatClampNeg (10 + p1)))), .ref 90] μ2)
  have hb6 := h.1
  replace h := h.2
  refine w_iald hX (Int32.toNatClampNeg ((6 * (gi μ2 84 (Int32.toNatClampNeg (5 + p1)))) + (gi μ2 84 (Int32.toNatClampNeg (10 + p1))))) sh_90 hb6 rfl dX9_soonAt_30 (?_ : V X 31 [some (.ref 75), some (.int p1)] [.int (gi μ2 90 (Int32.toNatClampNeg ((6 * (gi μ2 84 (Int32.toNatClampNeg (5 + p1)))) + (gi μ2 84 (Int32.toNatClampNeg (10 + p1))))))] μ2)
  exact v_iret hO dX9_soonAt_31 (hR _ _ h)
set_option maxRecDepth 20000 in
set_option maxHeartbeats 1000000 in
theorem vp_X9_soonAt_0 (p1 : Int32)  (μ : Mem) (hpre : pre_X9_soonAt p1 μ) : vc_X9_soonAt_0 p1 μ (post_X9_soonAt p1 μ)  := by
  unfold vc_X9_soonAt_0
  obtain ⟨e1, hTM, h5, h10⟩ := hpre
  refine ⟨⟨e1, hTM⟩, fun m hm => ?_⟩
  have hm0 := hm
  obtain ⟨m1, m2, m3⟩ := hm
  generalize hr : p1.toNatClampNeg = r at *
  subst e1
  have t0 := hTM.1
  have a5 : (5 : Int32) + nI r = nI (5 + r) := by rw [show (5 : Int32) = nI 5 from rfl, nI_add]
  have a10 : (10 : Int32) + nI r = nI (10 + r) := by rw [show (10 : Int32) = nI 10 from rfl, nI_add]
  have c5 : (nI (5 + r)).toNatClampNeg = 5 + r := nI_clamp (by omega)
  have c10 : (nI (10 + r)).toNatClampNeg = 10 + r := nI_clamp (by omega)
  have hb5 := h5.2
  have hb10 := h10.2
  rw [a5, a10, c5, c10, m1.1 84 (by simp), m1.1 84 (by simp), h5.1, h10.1]
  have ei : 6 * nI (gn μ 84 (5 + r)) + nI (gn μ 84 (10 + r)) = nI (6 * gn μ 84 (5 + r) + gn μ 84 (10 + r)) := by
    rw [show (6 : Int32) = nI 6 from rfl, pk_mul, nI_add]
  have hc : cM m (gn μ 84 (5 + r)) (decN (gn μ 84 (10 + r))) = gn m 90 (6 * gn μ 84 (5 + r) + gn μ 84 (10 + r)) := by
    unfold cM; rw [inc_dec (by omega)]
  rw [ei, nI_clamp (by omega)]
  obtain ⟨q1, q2⟩ := m2 (6 * gn μ 84 (5 + r) + gn μ 84 (10 + r)) (by omega)
  refine ⟨vp_in_nI (by omega) (by omega), vp_in_nI (by omega) (by omega), vp_in_nI (by omega) (by omega), ?_⟩
  unfold post_X9_soonAt
  rw [hr, hc]
  exact ⟨hm0, q1, q2⟩
theorem sp_X9_soonAt : Sp yX9_soonAt cX9_soonAt 2 (some .int) 3 S_X9_soonAt := by
  refine sp_of (by decide) (fun av μ P h => ?_) ?_
  · obtain ⟨p1, rfl, -⟩ := h
    refine ⟨Nat.le_of_ble_eq_true rfl, fun v hv => ?_⟩
    simp only [List.mem_cons, List.not_mem_nil, or_false] at hv
    rcases hv with rfl | rfl <;> rfl
  · rintro X P hO _ μ ⟨p1, rfl, hpre, hpost⟩ hn
    exact wk_X9_soonAt_0 hO hn p1  μ hpost (vp_X9_soonAt_0 p1  μ hpre)

def S_X9_does : Tr := fun av μ P => ∃ (p1 : Int32), av = [.ref 75, .int p1] ∧ pre_X9_does p1 μ ∧ ∀ (x : Int32) (m : Mem), post_X9_does p1 μ x m → P (some (.int x)) m
def vc_X9_does_0 (p1 : Int32)  (μ : Mem) (R : Int32 → Mem → Prop)  : Prop :=
  (∀ μ1, μ1 = ui μ 75 0 0 → (pre_X9_isDoing p1 μ1 ∧ ∀ (x3 : Int32) (μ4 : Mem), post_X9_isDoing p1 μ1 x3 μ4 → ((¬ x3 = 0 → (((gi μ4 84 0) = 0 → R ((-2)) μ4) ∧ (¬ (gi μ4 84 0) = 0 → vp_in p1 10 ∧ (pre_X9_mayLast (gi μ4 82 (Int32.toNatClampNeg p1)) μ4 ∧ ∀ (x9 : Int32) (μ10 : Mem), post_X9_mayLast (gi μ4 82 (Int32.toNatClampNeg p1)) μ4 x9 μ10 → ((¬ x9 = 0 → (pre_X9_notes  μ10 ∧ ∀ (μ14 : Mem), post_X9_notes  μ10 μ14 → vp_in p1 10 ∧ (∀ μ17, μ17 = ui μ14 84 2 ((gi μ14 84 2) + (gi μ14 82 (Int32.toNatClampNeg p1))) → vp_in (5 + ((gi μ14 84 0) - 1)) 15 ∧ vp_in (10 + ((gi μ14 84 0) - 1)) 15 ∧ (pre_X9_hurt ((gi μ14 84 0) - 1) p1 (gi μ17 84 (Int32.toNatClampNeg (10 + ((gi μ14 84 0) - 1)))) μ17 ∧ ∀ (x21 : Int32) (μ22 : Mem), post_X9_hurt ((gi μ14 84 0) - 1) p1 (gi μ17 84 (Int32.toNatClampNeg (10 + ((gi μ14 84 0) - 1)))) μ17 x21 μ22 → vp_in (5 + ((gi μ14 84 0) - 1)) 15 ∧ (∀ μ25, μ25 = ui μ22 84 (Int32.toNatClampNeg (5 + ((gi μ14 84 0) - 1))) ((gi μ17 84 (Int32.toNatClampNeg (5 + ((gi μ14 84 0) - 1)))) - x21) → vp_in (10 + ((gi μ14 84 0) - 1)) 15 ∧ (∀ μ28, μ28 = ui μ25 84 (Int32.toNatClampNeg (10 + ((gi μ14 84 0) - 1))) (p1 + 1) → vp_in (5 + ((gi μ14 84 0) - 1)) 15 ∧ (((gi μ28 84 (Int32.toNatClampNeg (5 + ((gi μ14 84 0) - 1)))) < 0 → (∀ μ32, μ32 = ui μ28 84 3 ((gi μ28 84 3) ||| (1 <<< (((gi μ14 84 0) - 1) &&& 31))) → (∀ μ34, μ34 = ui μ32 84 0 0 → R 1 μ34))) ∧ (¬ (gi μ28 84 (Int32.toNatClampNeg (5 + ((gi μ14 84 0) - 1)))) < 0 → R 0 μ28)))))))) ∧ (x9 = 0 → R ((-2)) μ10)))))) ∧ (x3 = 0 → R ((-1)) μ4))))
set_option maxRecDepth 20000 in
set_option maxHeartbeats 4000000 in
theorem wk_X9_does_0 {X : XT} {P : Post} (hO : OkM X cX9_does RX9 2 (some .int) P) (hn : xn X = 3) (p1 : Int32)   (μ : Mem) {R : Int32 → Mem → Prop} (hR : ∀ x m, R x m → P (some (.int x)) m)    (h : vc_X9_does_0 p1  μ R ) : V X 0 [some (.ref 75), some (.int p1), none] [] μ := by
  have hX := hO.1
  unfold vc_X9_does_0 at h
  refine v_aload_n hX dX9_does_0 rfl (?_ : V X 1 [some (.ref 75), some (.int p1), none] [.ref 75] μ)
  refine v_iconst hX 0 dX9_does_1 rfl (?_ : V X 2 [some (.ref 75), some (.int p1), none] [.int 0, .ref 75] μ)
  refine w_puti hX fk_X9_74 fw_9_0 sh_75 rfl dX9_does_2 (fun μ1 e2 => (?_ : V X 5 [some (.ref 75), some (.int p1), none] [] μ1))
  replace h := h μ1 e2
  refine v_aload_n hX dX9_does_5 rfl (?_ : V X 6 [some (.ref 75), some (.int p1), none] [.ref 75] μ1)
  refine v_iload_n hX dX9_does_6 rfl (?_ : V X 7 [some (.ref 75), some (.int p1), none] [.int p1, .ref 75] μ1)
  refine v_callV hX sp_X9_isDoing ck_X9_isDoing mk_X9_149 mv_X9_isDoing sh_75 (by decide) (by decide) [.int p1] [] rfl rfl (Nat.le_of_ble_eq_true rfl) dX9_does_7 ⟨p1, rfl, h.1, fun x3 μ4 hp5 => (?_ : V X 10 [some (.ref 75), some (.int p1), none] [.int x3] μ4)⟩
  replace h := h.2 x3 μ4 hp5
  refine v_if_ne hX 15 dX9_does_10 rfl (fun c6 => ?_) (fun c6 => ?_)
  · replace h := h.1 c6
    refine v_aload_n hX dX9_does_15 rfl (?_ : V X 16 [some (.ref 75), some (.int p1), none] [.ref 75] μ4)
    refine v_getr hX (84) fk_X9_34 sh_75 rfl rfl dX9_does_16 (?_ : V X 19 [some (.ref 75), some (.int p1), none] [.ref 84] μ4)
    refine v_iconst hX 0 dX9_does_19 rfl (?_ : V X 20 [some (.ref 75), some (.int p1), none] [.int 0, .ref 84] μ4)
    refine w_iald hX 0 sh_84 (vp_lit (by decide)) (by decide) dX9_does_20 (?_ : V X 21 [some (.ref 75), some (.int p1), none] [.int (gi μ4 84 0)] μ4)
    refine v_if_eq hX 37 dX9_does_21 rfl (fun c7 => ?_) (fun c7 => ?_)
    · replace h := h.1 c7
      refine v_bipush hX (-2) dX9_does_37 rfl (?_ : V X 39 [some (.ref 75), some (.int p1), none] [.int ((-2))] μ4)
      exact v_iret hO dX9_does_39 (hR _ _ h)
    · replace h := h.2 c7
      refine v_aload_n hX dX9_does_24 rfl (?_ : V X 25 [some (.ref 75), some (.int p1), none] [.ref 75] μ4)
      refine v_aload_n hX dX9_does_25 rfl (?_ : V X 26 [some (.ref 75), some (.int p1), none] [.ref 75, .ref 75] μ4)
      refine v_getr hX (82) fk_X9_28 sh_75 rfl rfl dX9_does_26 (?_ : V X 29 [some (.ref 75), some (.int p1), none] [.ref 82, .ref 75] μ4)
      refine v_iload_n hX dX9_does_29 rfl (?_ : V X 30 [some (.ref 75), some (.int p1), none] [.int p1, .ref 82, .ref 75] μ4)
      have hb8 := h.1
      replace h := h.2
      refine w_iald hX (Int32.toNatClampNeg p1) sh_82 hb8 rfl dX9_does_30 (?_ : V X 31 [some (.ref 75), some (.int p1), none] [.int (gi μ4 82 (Int32.toNatClampNeg p1)), .ref 75] μ4)
      refine v_callV hX sp_X9_mayLast ck_X9_mayLast mk_X9_162 mv_X9_mayLast sh_75 (by decide) (by decide) [.int (gi μ4 82 (Int32.toNatClampNeg p1))] [] rfl rfl (Nat.le_of_ble_eq_true rfl) dX9_does_31 ⟨(gi μ4 82 (Int32.toNatClampNeg p1)), rfl, h.1, fun x9 μ10 hp11 => (?_ : V X 34 [some (.ref 75), some (.int p1), none] [.int x9] μ10)⟩
      replace h := h.2 x9 μ10 hp11
      refine v_if_ne hX 40 dX9_does_34 rfl (fun c12 => ?_) (fun c12 => ?_)
      · replace h := h.1 c12
        refine v_aload_n hX dX9_does_40 rfl (?_ : V X 41 [some (.ref 75), some (.int p1), none] [.ref 75] μ10)
        refine v_callV hX sp_X9_notes ck_X9_notes mk_X9_165 mv_X9_notes sh_75 (by decide) (by decide) [] [] rfl rfl (Nat.le_of_ble_eq_true rfl) dX9_does_41 ⟨rfl, h.1, fun μ14 hp15 => (?_ : V X 44 [some (.ref 75), some (.int p1), none] [] μ14)⟩
        replace h := h.2 μ14 hp15
        refine v_aload_n hX dX9_does_44 rfl (?_ : V X 45 [some (.ref 75), some (.int p1), none] [.ref 75] μ14)
        refine v_getr hX (84) fk_X9_34 sh_75 rfl rfl dX9_does_45 (?_ : V X 48 [some (.ref 75), some (.int p1), none] [.ref 84] μ14)
        refine v_iconst hX 0 dX9_does_48 rfl (?_ : V X 49 [some (.ref 75), some (.int p1), none] [.int 0, .ref 84] μ14)
        refine w_iald hX 0 sh_84 (vp_lit (by decide)) (by decide) dX9_does_49 (?_ : V X 50 [some (.ref 75), some (.int p1), none] [.int (gi μ14 84 0)] μ14)
        refine v_iconst hX 1 dX9_does_50 rfl (?_ : V X 51 [some (.ref 75), some (.int p1), none] [.int 1, .int (gi μ14 84 0)] μ14)
        refine v_isub hX dX9_does_51 (?_ : V X 52 [some (.ref 75), some (.int p1), none] [.int ((gi μ14 84 0) - 1)] μ14)
        refine v_istore_n hX dX9_does_52 (by rw [hn]; decide) (?_ : V X 53 [some (.ref 75), some (.int p1), some (.int ((gi μ14 84 0) - 1))] [] μ14)
        refine v_aload_n hX dX9_does_53 rfl (?_ : V X 54 [some (.ref 75), some (.int p1), some (.int ((gi μ14 84 0) - 1))] [.ref 75] μ14)
        refine v_getr hX (84) fk_X9_34 sh_75 rfl rfl dX9_does_54 (?_ : V X 57 [some (.ref 75), some (.int p1), some (.int ((gi μ14 84 0) - 1))] [.ref 84] μ14)
        refine v_iconst hX 2 dX9_does_57 rfl (?_ : V X 58 [some (.ref 75), some (.int p1), some (.int ((gi μ14 84 0) - 1))] [.int 2, .ref 84] μ14)
        refine v_dup2 hX dX9_does_58 rfl rfl (?_ : V X 59 [some (.ref 75), some (.int p1), some (.int ((gi μ14 84 0) - 1))] [.int 2, .ref 84, .int 2, .ref 84] μ14)
        refine w_iald hX 2 sh_84 (vp_lit (by decide)) (by decide) dX9_does_59 (?_ : V X 60 [some (.ref 75), some (.int p1), some (.int ((gi μ14 84 0) - 1))] [.int (gi μ14 84 2), .int 2, .ref 84] μ14)
        refine v_aload_n hX dX9_does_60 rfl (?_ : V X 61 [some (.ref 75), some (.int p1), some (.int ((gi μ14 84 0) - 1))] [.ref 75, .int (gi μ14 84 2), .int 2, .ref 84] μ14)
        refine v_getr hX (82) fk_X9_28 sh_75 rfl rfl dX9_does_61 (?_ : V X 64 [some (.ref 75), some (.int p1), some (.int ((gi μ14 84 0) - 1))] [.ref 82, .int (gi μ14 84 2), .int 2, .ref 84] μ14)
        refine v_iload_n hX dX9_does_64 rfl (?_ : V X 65 [some (.ref 75), some (.int p1), some (.int ((gi μ14 84 0) - 1))] [.int p1, .ref 82, .int (gi μ14 84 2), .int 2, .ref 84] μ14)
        have hb16 := h.1
        replace h := h.2
        refine w_iald hX (Int32.toNatClampNeg p1) sh_82 hb16 rfl dX9_does_65 (?_ : V X 66 [some (.ref 75), some (.int p1), some (.int ((gi μ14 84 0) - 1))] [.int (gi μ14 82 (Int32.toNatClampNeg p1)), .int (gi μ14 84 2), .int 2, .ref 84] μ14)
        refine v_iadd hX dX9_does_66 (?_ : V X 67 [some (.ref 75), some (.int p1), some (.int ((gi μ14 84 0) - 1))] [.int ((gi μ14 84 2) + (gi μ14 82 (Int32.toNatClampNeg p1))), .int 2, .ref 84] μ14)
        refine w_iast hX 2 sh_84 (vp_lit (by decide)) (by decide) dX9_does_67 (fun μ17 e18 => (?_ : V X 68 [some (.ref 75), some (.int p1), some (.int ((gi μ14 84 0) - 1))] [] μ17))
        replace h := h μ17 e18
        refine v_aload_n hX dX9_does_68 rfl (?_ : V X 69 [some (.ref 75), some (.int p1), some (.int ((gi μ14 84 0) - 1))] [.ref 75] μ17)
        refine v_getr hX (84) fk_X9_34 sh_75 rfl rfl dX9_does_69 (?_ : V X 72 [some (.ref 75), some (.int p1), some (.int ((gi μ14 84 0) - 1))] [.ref 84] μ17)
        refine v_iconst hX 5 dX9_does_72 rfl (?_ : V X 73 [some (.ref 75), some (.int p1), some (.int ((gi μ14 84 0) - 1))] [.int 5, .ref 84] μ17)
        refine v_iload_n hX dX9_does_73 rfl (?_ : V X 74 [some (.ref 75), some (.int p1), some (.int ((gi μ14 84 0) - 1))] [.int ((gi μ14 84 0) - 1), .int 5, .ref 84] μ17)
        refine v_iadd hX dX9_does_74 (?_ : V X 75 [some (.ref 75), some (.int p1), some (.int ((gi μ14 84 0) - 1))] [.int (5 + ((gi μ14 84 0) - 1)), .ref 84] μ17)
        refine v_dup2 hX dX9_does_75 rfl rfl (?_ : V X 76 [some (.ref 75), some (.int p1), some (.int ((gi μ14 84 0) - 1))] [.int (5 + ((gi μ14 84 0) - 1)), .ref 84, .int (5 + ((gi μ14 84 0) - 1)), .ref 84] μ17)
        have hb19 := h.1
        replace h := h.2
        refine w_iald hX (Int32.toNatClampNeg (5 + ((gi μ14 84 0) - 1))) sh_84 hb19 rfl dX9_does_76 (?_ : V X 77 [some (.ref 75), some (.int p1), some (.int ((gi μ14 84 0) - 1))] [.int (gi μ17 84 (Int32.toNatClampNeg (5 + ((gi μ14 84 0) - 1)))), .int (5 + ((gi μ14 84 0) - 1)), .ref 84] μ17)
        refine v_aload_n hX dX9_does_77 rfl (?_ : V X 78 [some (.ref 75), some (.int p1), some (.int ((gi μ14 84 0) - 1))] [.ref 75, .int (gi μ17 84 (Int32.toNatClampNeg (5 + ((gi μ14 84 0) - 1)))), .int (5 + ((gi μ14 84 0) - 1)), .ref 84] μ17)
        refine v_iload_n hX dX9_does_78 rfl (?_ : V X 79 [some (.ref 75), some (.int p1), some (.int ((gi μ14 84 0) - 1))] [.int ((gi μ14 84 0) - 1), .ref 75, .int (gi μ17 84 (Int32.toNatClampNeg (5 + ((gi μ14 84 0) - 1)))), .int (5 + ((gi μ14 84 0) - 1)), .ref 84] μ17)
        refine v_iload_n hX dX9_does_79 rfl (?_ : V X 80 [some (.ref 75), some (.int p1), some (.int ((gi μ14 84 0) - 1))] [.int p1, .int ((gi μ14 84 0) - 1), .ref 75, .int (gi μ17 84 (Int32.toNatClampNeg (5 + ((gi μ14 84 0) - 1)))), .int (5 + ((gi μ14 84 0) - 1)), .ref 84] μ17)
        refine v_aload_n hX dX9_does_80 rfl (?_ : V X 81 [some (.ref 75), some (.int p1), some (.int ((gi μ14 84 0) - 1))] [.ref 75, .int p1, .int ((gi μ14 84 0) - 1), .ref 75, .int (gi μ17 84 (Int32.toNatClampNeg (5 + ((gi μ14 84 0) - 1)))), .int (5 + ((gi μ14 84 0) - 1)), .ref 84] μ17)
        refine v_getr hX (84) fk_X9_34 sh_75 rfl rfl dX9_does_81 (?_ : V X 84 [some (.ref 75), some (.int p1), some (.int ((gi μ14 84 0) - 1))] [.ref 84, .int p1, .int ((gi μ14 84 0) - 1), .ref 75, .int (gi μ17 84 (Int32.toNatClampNeg (5 + ((gi μ14 84 0) - 1)))), .int (5 + ((gi μ14 84 0) - 1)), .ref 84] μ17)
        refine v_bipush hX 10 dX9_does_84 rfl (?_ : V X 86 [some (.ref 75), some (.int p1), some (.int ((gi μ14 84 0) - 1))] [.int 10, .ref 84, .int p1, .int ((gi μ14 84 0) - 1), .ref 75, .int (gi μ17 84 (Int32.toNatClampNeg (5 + ((gi μ14 84 0) - 1)))), .int (5 + ((gi μ14 84 0) - 1)), .ref 84] μ17)
        refine v_iload_n hX dX9_does_86 rfl (?_ : V X 87 [some (.ref 75), some (.int p1), some (.int ((gi μ14 84 0) - 1))] [.int ((gi μ14 84 0) - 1), .int 10, .ref 84, .int p1, .int ((gi μ14 84 0) - 1), .ref 75, .int (gi μ17 84 (Int32.toNatClampNeg (5 + ((gi μ14 84 0) - 1)))), .int (5 + ((gi μ14 84 0) - 1)), .ref 84] μ17)
        refine v_iadd hX dX9_does_87 (?_ : V X 88 [some (.ref 75), some (.int p1), some (.int ((gi μ14 84 0) - 1))] [.int (10 + ((gi μ14 84 0) - 1)), .ref 84, .int p1, .int ((gi μ14 84 0) - 1), .ref 75, .int (gi μ17 84 (Int32.toNatClampNeg (5 + ((gi μ14 84 0) - 1)))), .int (5 + ((gi μ14 84 0) - 1)), .ref 84] μ17)
        have hb20 := h.1
        replace h := h.2
        refine w_iald hX (Int32.toNatClampNeg (10 + ((gi μ14 84 0) - 1))) sh_84 hb20 rfl dX9_does_88 (?_ : V X 89 [some (.ref 75), some (.int p1), some (.int ((gi μ14 84 0) - 1))] [.int (gi μ17 84 (Int32.toNatClampNeg (10 + ((gi μ14 84 0) - 1)))), .int p1, .int ((gi μ14 84 0) - 1), .ref 75, .int (gi μ17 84 (Int32.toNatClampNeg (5 + ((gi μ14 84 0) - 1)))), .int (5 + ((gi μ14 84 0) - 1)), .ref 84] μ17)
        refine v_callV hX sp_X9_hurt ck_X9_hurt mk_X9_168 mv_X9_hurt sh_75 (by decide) (by decide) [.int ((gi μ14 84 0) - 1), .int p1, .int (gi μ17 84 (Int32.toNatClampNeg (10 + ((gi μ14 84 0) - 1))))] [.int (gi μ17 84 (Int32.toNatClampNeg (5 + ((gi μ14 84 0) - 1)))), .int (5 + ((gi μ14 84 0) - 1)), .ref 84] rfl rfl (Nat.le_of_ble_eq_true rfl) dX9_does_89 ⟨((gi μ14 84 0) - 1), p1, (gi μ17 84 (Int32.toNatClampNeg (10 + ((gi μ14 84 0) - 1)))), rfl, h.1, fun x21 μ22 hp23 => (?_ : V X 92 [some (.ref 75), some (.int p1), some (.int ((gi μ14 84 0) - 1))] [.int x21, .int (gi μ17 84 (Int32.toNatClampNeg (5 + ((gi μ14 84 0) - 1)))), .int (5 + ((gi μ14 84 0) - 1)), .ref 84] μ22)⟩
        replace h := h.2 x21 μ22 hp23
        refine v_isub hX dX9_does_92 (?_ : V X 93 [some (.ref 75), some (.int p1), some (.int ((gi μ14 84 0) - 1))] [.int ((gi μ17 84 (Int32.toNatClampNeg (5 + ((gi μ14 84 0) - 1)))) - x21), .int (5 + ((gi μ14 84 0) - 1)), .ref 84] μ22)
        have hb24 := h.1
        replace h := h.2
        refine w_iast hX (Int32.toNatClampNeg (5 + ((gi μ14 84 0) - 1))) sh_84 hb24 rfl dX9_does_93 (fun μ25 e26 => (?_ : V X 94 [some (.ref 75), some (.int p1), some (.int ((gi μ14 84 0) - 1))] [] μ25))
        replace h := h μ25 e26
        refine v_aload_n hX dX9_does_94 rfl (?_ : V X 95 [some (.ref 75), some (.int p1), some (.int ((gi μ14 84 0) - 1))] [.ref 75] μ25)
        refine v_getr hX (84) fk_X9_34 sh_75 rfl rfl dX9_does_95 (?_ : V X 98 [some (.ref 75), some (.int p1), some (.int ((gi μ14 84 0) - 1))] [.ref 84] μ25)
        refine v_bipush hX 10 dX9_does_98 rfl (?_ : V X 100 [some (.ref 75), some (.int p1), some (.int ((gi μ14 84 0) - 1))] [.int 10, .ref 84] μ25)
        refine v_iload_n hX dX9_does_100 rfl (?_ : V X 101 [some (.ref 75), some (.int p1), some (.int ((gi μ14 84 0) - 1))] [.int ((gi μ14 84 0) - 1), .int 10, .ref 84] μ25)
        refine v_iadd hX dX9_does_101 (?_ : V X 102 [some (.ref 75), some (.int p1), some (.int ((gi μ14 84 0) - 1))] [.int (10 + ((gi μ14 84 0) - 1)), .ref 84] μ25)
        refine v_iload_n hX dX9_does_102 rfl (?_ : V X 103 [some (.ref 75), some (.int p1), some (.int ((gi μ14 84 0) - 1))] [.int p1, .int (10 + ((gi μ14 84 0) - 1)), .ref 84] μ25)
        refine v_iconst hX 1 dX9_does_103 rfl (?_ : V X 104 [some (.ref 75), some (.int p1), some (.int ((gi μ14 84 0) - 1))] [.int 1, .int p1, .int (10 + ((gi μ14 84 0) - 1)), .ref 84] μ25)
        refine v_iadd hX dX9_does_104 (?_ : V X 105 [some (.ref 75), some (.int p1), some (.int ((gi μ14 84 0) - 1))] [.int (p1 + 1), .int (10 + ((gi μ14 84 0) - 1)), .ref 84] μ25)
        have hb27 := h.1
        replace h := h.2
        refine w_iast hX (Int32.toNatClampNeg (10 + ((gi μ14 84 0) - 1))) sh_84 hb27 rfl dX9_does_105 (fun μ28 e29 => (?_ : V X 106 [some (.ref 75), some (.int p1), some (.int ((gi μ14 84 0) - 1))] [] μ28))
        replace h := h μ28 e29
        refine v_aload_n hX dX9_does_106 rfl (?_ : V X 107 [some (.ref 75), some (.int p1), some (.int ((gi μ14 84 0) - 1))] [.ref 75] μ28)
        refine v_getr hX (84) fk_X9_34 sh_75 rfl rfl dX9_does_107 (?_ : V X 110 [some (.ref 75), some (.int p1), some (.int ((gi μ14 84 0) - 1))] [.ref 84] μ28)
        refine v_iconst hX 5 dX9_does_110 rfl (?_ : V X 111 [some (.ref 75), some (.int p1), some (.int ((gi μ14 84 0) - 1))] [.int 5, .ref 84] μ28)
        refine v_iload_n hX dX9_does_111 rfl (?_ : V X 112 [some (.ref 75), some (.int p1), some (.int ((gi μ14 84 0) - 1))] [.int ((gi μ14 84 0) - 1), .int 5, .ref 84] μ28)
        refine v_iadd hX dX9_does_112 (?_ : V X 113 [some (.ref 75), some (.int p1), some (.int ((gi μ14 84 0) - 1))] [.int (5 + ((gi μ14 84 0) - 1)), .ref 84] μ28)
        have hb30 := h.1
        replace h := h.2
        refine w_iald hX (Int32.toNatClampNeg (5 + ((gi μ14 84 0) - 1))) sh_84 hb30 rfl dX9_does_113 (?_ : V X 114 [some (.ref 75), some (.int p1), some (.int ((gi μ14 84 0) - 1))] [.int (gi μ28 84 (Int32.toNatClampNeg (5 + ((gi μ14 84 0) - 1))))] μ28)
        refine v_if_lt hX 119 dX9_does_114 rfl (fun c31 => ?_) (fun c31 => ?_)
        · replace h := h.1 c31
          refine v_aload_n hX dX9_does_119 rfl (?_ : V X 120 [some (.ref 75), some (.int p1), some (.int ((gi μ14 84 0) - 1))] [.ref 75] μ28)
          refine v_getr hX (84) fk_X9_34 sh_75 rfl rfl dX9_does_120 (?_ : V X 123 [some (.ref 75), some (.int p1), some (.int ((gi μ14 84 0) - 1))] [.ref 84] μ28)
          refine v_iconst hX 3 dX9_does_123 rfl (?_ : V X 124 [some (.ref 75), some (.int p1), some (.int ((gi μ14 84 0) - 1))] [.int 3, .ref 84] μ28)
          refine v_dup2 hX dX9_does_124 rfl rfl (?_ : V X 125 [some (.ref 75), some (.int p1), some (.int ((gi μ14 84 0) - 1))] [.int 3, .ref 84, .int 3, .ref 84] μ28)
          refine w_iald hX 3 sh_84 (vp_lit (by decide)) (by decide) dX9_does_125 (?_ : V X 126 [some (.ref 75), some (.int p1), some (.int ((gi μ14 84 0) - 1))] [.int (gi μ28 84 3), .int 3, .ref 84] μ28)
          refine v_iconst hX 1 dX9_does_126 rfl (?_ : V X 127 [some (.ref 75), some (.int p1), some (.int ((gi μ14 84 0) - 1))] [.int 1, .int (gi μ28 84 3), .int 3, .ref 84] μ28)
          refine v_iload_n hX dX9_does_127 rfl (?_ : V X 128 [some (.ref 75), some (.int p1), some (.int ((gi μ14 84 0) - 1))] [.int ((gi μ14 84 0) - 1), .int 1, .int (gi μ28 84 3), .int 3, .ref 84] μ28)
          refine v_ishl hX dX9_does_128 (?_ : V X 129 [some (.ref 75), some (.int p1), some (.int ((gi μ14 84 0) - 1))] [.int (1 <<< (((gi μ14 84 0) - 1) &&& 31)), .int (gi μ28 84 3), .int 3, .ref 84] μ28)
          refine v_ior hX dX9_does_129 (?_ : V X 130 [some (.ref 75), some (.int p1), some (.int ((gi μ14 84 0) - 1))] [.int ((gi μ28 84 3) ||| (1 <<< (((gi μ14 84 0) - 1) &&& 31))), .int 3, .ref 84] μ28)
          refine w_iast hX 3 sh_84 (vp_lit (by decide)) (by decide) dX9_does_130 (fun μ32 e33 => (?_ : V X 131 [some (.ref 75), some (.int p1), some (.int ((gi μ14 84 0) - 1))] [] μ32))
          replace h := h μ32 e33
          refine v_aload_n hX dX9_does_131 rfl (?_ : V X 132 [some (.ref 75), some (.int p1), some (.int ((gi μ14 84 0) - 1))] [.ref 75] μ32)
          refine v_getr hX (84) fk_X9_34 sh_75 rfl rfl dX9_does_132 (?_ : V X 135 [some (.ref 75), some (.int p1), some (.int ((gi μ14 84 0) - 1))] [.ref 84] μ32)
          refine v_iconst hX 0 dX9_does_135 rfl (?_ : V X 136 [some (.ref 75), some (.int p1), some (.int ((gi μ14 84 0) - 1))] [.int 0, .ref 84] μ32)
          refine v_iconst hX 0 dX9_does_136 rfl (?_ : V X 137 [some (.ref 75), some (.int p1), some (.int ((gi μ14 84 0) - 1))] [.int 0, .int 0, .ref 84] μ32)
          refine w_iast hX 0 sh_84 (vp_lit (by decide)) (by decide) dX9_does_137 (fun μ34 e35 => (?_ : V X 138 [some (.ref 75), some (.int p1), some (.int ((gi μ14 84 0) - 1))] [] μ34))
          replace h := h μ34 e35
          refine v_iconst hX 1 dX9_does_138 rfl (?_ : V X 139 [some (.ref 75), some (.int p1), some (.int ((gi μ14 84 0) - 1))] [.int 1] μ34)
          exact v_iret hO dX9_does_139 (hR _ _ h)
        · replace h := h.2 c31
          refine v_iconst hX 0 dX9_does_117 rfl (?_ : V X 118 [some (.ref 75), some (.int p1), some (.int ((gi μ14 84 0) - 1))] [.int 0] μ28)
          exact v_iret hO dX9_does_118 (hR _ _ h)
      · replace h := h.2 c12
        refine v_bipush hX (-2) dX9_does_37 rfl (?_ : V X 39 [some (.ref 75), some (.int p1), none] [.int ((-2))] μ10)
        exact v_iret hO dX9_does_39 (hR _ _ h)
  · replace h := h.2 c6
    refine v_iconst hX (-1) dX9_does_13 rfl (?_ : V X 14 [some (.ref 75), some (.int p1), none] [.int ((-1))] μ4)
    exact v_iret hO dX9_does_14 (hR _ _ h)
set_option maxRecDepth 20000 in
set_option maxHeartbeats 4000000 in
theorem vp_X9_does_0 (p1 : Int32)  (μ : Mem) (hpre : pre_X9_does p1 μ) : vc_X9_does_0 p1 μ (post_X9_does p1 μ)  := by
  unfold vc_X9_does_0
  obtain ⟨h1, h2, h3⟩ := hpre
  rintro _ rfl
  refine ⟨h1, ?_⟩
  rintro x3 m3 ⟨hx3, rfl⟩
  rw [show gi (ui μ 75 0 0) 77 1 = gi μ 77 1 from rfl] at hx3
  by_cases c : p1 < 0 ∨ gi μ 77 1 ≤ p1
  · rw [if_pos c] at hx3; subst hx3
    refine ⟨fun q => absurd rfl q, fun _ => ?_⟩
    unfold post_X9_does; rw [if_pos c]; exact ⟨rfl, rfl⟩
  · rw [if_neg c] at hx3; subst hx3
    have hin1 := ix_in (N := 10) h1 (by omega) (by omega) (by omega) c
    have bad : (gi μ 84 0 = 0 ∨ 9999 < gi μ 84 2 + gi μ 82 p1.toNatClampNeg) → post_X9_does p1 μ (-2) (ui μ 75 0 0) := by
      intro q; unfold post_X9_does; rw [if_neg c, if_pos q]; exact ⟨rfl, rfl⟩
    refine ⟨fun _ => ⟨fun q => bad (Or.inl q), fun q => ⟨hin1, trivial, ?_⟩⟩, fun q => absurd q (by decide)⟩
    rintro x9 m9 ⟨hx9, rfl⟩
    have hx9' : x9 = if 9999 < gi μ 84 2 + gi μ 82 p1.toNatClampNeg then 0 else 1 := hx9
    refine ⟨fun q3 => ⟨h2, ?_⟩, fun q3 => ?_⟩
    · intro m hn
      obtain ⟨hf, hN⟩ := noteP_of hn
      have q4 : ¬ 9999 < gi μ 84 2 + gi μ 82 p1.toNatClampNeg := by
        intro z; rw [if_pos z] at hx9'; exact q3 hx9'
      have q0 : ¬ gi μ 84 0 = 0 := q
      have hb := h3.2
      obtain ⟨r, hr⟩ : ∃ r, gn μ 84 0 = r + 1 := ⟨gn μ 84 0 - 1, by
        rcases Nat.eq_zero_or_pos (gn μ 84 0) with z | z
        · exact absurd (by rw [h3.1, z]; rfl) q0
        · omega⟩
      have hr1 : gi μ 84 0 - 1 = nI r := by rw [h3.1, hr, nI_pred]
      have k84 : ∀ k, gi m 84 k = gi μ 84 k := fun k => hf.1 84 (by simp) k
      have k82 : ∀ k, gi m 82 k = gi μ 82 k := fun k => hf.1 82 (by simp) k
      have e5 : (5 : Int32) + nI r = nI (5 + r) := by rw [show (5 : Int32) = nI 5 from rfl, nI_add]
      have e10 : (10 : Int32) + nI r = nI (10 + r) := by rw [show (10 : Int32) = nI 10 from rfl, nI_add]
      rw [k84 0, hr1, e5, e10, nI_clamp (by omega), nI_clamp (by omega)]
      have v5 : vp_in (nI (5 + r)) 15 := vp_in_nI (by omega) (by omega)
      have v10 : vp_in (nI (10 + r)) 15 := vp_in_nI (by omega) (by omega)
      refine ⟨hin1, ?_⟩
      intro m17 e17
      refine ⟨v5, v10, ⟨vp_in_nI (by omega) (by omega), hin1⟩, ?_⟩
      have g17 : gi m17 84 (10 + r) = gi μ 84 (10 + r) := by rw [e17, gi_ui, if_neg (by omega), k84]
      have g17b : gi m17 84 (5 + r) = gi μ 84 (5 + r) := by rw [e17, gi_ui, if_neg (by omega), k84]
      rw [g17, g17b]
      rintro x21 m22 ⟨hx21, rfl⟩
      have ex : x21 = hurtF μ (nI r) p1 (gi μ 84 (10 + r)) := by
        have a81 : ∀ k, gi m22 81 k = gi μ 81 k := fun k => by rw [e17, gi_ui, if_neg (by simp), hf.1 81 (by simp)]
        have a79 : ∀ k, gi m22 79 k = gi μ 79 k := fun k => by rw [e17, gi_ui, if_neg (by simp), hf.1 79 (by simp)]
        rw [hx21]
        unfold hurtF
        rw [a81, a79]
      refine ⟨v5, ?_⟩
      intro m25 e25
      refine ⟨v10, ?_⟩
      intro m28 e28
      generalize hV : gi μ 84 (5 + r) - x21 = v at e25
      generalize hT : gi m 84 2 + gi m 82 p1.toNatClampNeg = t at e17
      have g : ∀ c k, gi m28 c k = if c = 84 ∧ k = 10 + r then p1 + 1 else if c = 84 ∧ k = 5 + r then v else if c = 84 ∧ k = 2 then t else gi m c k := by
        intro c k; rw [e28, e25, e17]; rfl
      have hF28 : fr [84] m m28 := by rw [e28, e25, e17]; exact fr_trans (fr_trans (fr_ui (by simp)) (fr_ui (by simp))) (fr_ui (by simp))
      have g5 : gi m28 84 (5 + r) = v := by rw [g, if_neg (by omega), if_pos ⟨rfl, rfl⟩]
      rw [g5]
      have hrw : ∀ (x : Int32) (m' : Mem), (fr [84] m m' ∧ x = (if v < 0 then 1 else 0) ∧ (∀ k, k ≠ 0 → k ≠ 3 → gi m' 84 k = gi m28 84 k) ∧ (if v < 0 then gi m' 84 3 = gi μ 84 3 ||| (1 <<< (nI r &&& 31)) ∧ gi m' 84 0 = 0 else gi m' 84 3 = gi μ 84 3 ∧ gi m' 84 0 = gi μ 84 0)) → post_X9_does p1 μ x m' := by
        rintro x m' ⟨fF, fx, fk, f30⟩
        unfold post_X9_does
        rw [if_neg c, if_neg (by rintro (z | z); exact q0 z; exact q4 z), hr1, hr, Nat.add_sub_cancel, ← ex, hV]
        refine ⟨fx, fr_trans (fr_mono hf (by simp)) (fr_mono fF (by simp)), noteP_fr hN fF (by simp) (by simp), ?_, ?_, ?_, fun j hj => ?_, fun j hj => ?_, f30⟩
        · rw [fk 1 (by omega) (by omega), g, if_neg (by omega), if_neg (by omega), if_neg (by omega), k84]
        · rw [fk 2 (by omega) (by omega), g, if_neg (by omega), if_neg (by omega), if_pos ⟨rfl, rfl⟩, ← hT, k84, k82]
        · rw [fk 4 (by omega) (by omega), g, if_neg (by omega), if_neg (by omega), if_neg (by omega), k84]
        · rw [fk (5 + j) (by omega) (by omega), g, if_neg (by omega)]
          by_cases z : j = r
          · subst z; rw [if_pos ⟨rfl, rfl⟩, if_pos rfl, hV]
          · rw [if_neg (by omega), if_neg (by omega), if_neg z, k84]
        · rw [fk (10 + j) (by omega) (by omega), g]
          by_cases z : j = r
          · subst z; rw [if_pos ⟨rfl, rfl⟩, if_pos rfl]
          · rw [if_neg (by omega), if_neg (by omega), if_neg (by omega), if_neg z, k84]
      have g3 : gi m28 84 3 = gi μ 84 3 := by rw [g, if_neg (by omega), if_neg (by omega), if_neg (by omega), k84]
      have g0 : gi m28 84 0 = gi μ 84 0 := by rw [g, if_neg (by omega), if_neg (by omega), if_neg (by omega), k84]
      refine ⟨v5, fun hv => ?_, fun hv => ?_⟩
      · rintro _ rfl _ rfl
        refine hrw _ _ ⟨fr_trans hF28 (fr_trans (fr_ui (by simp)) (fr_ui (by simp))), by rw [if_pos hv], fun k k0 k3 => ?_, ?_⟩
        · rw [gi_ui, if_neg (by simp [k0]), gi_ui, if_neg (by simp [k3])]
        · rw [if_pos hv, gi_ui, if_neg (by simp), gi_ui, if_pos ⟨rfl, rfl⟩, g3, gi_ui, if_pos ⟨rfl, rfl⟩]
          exact ⟨rfl, rfl⟩
      · exact hrw _ _ ⟨hF28, by rw [if_neg hv], fun _ _ _ => rfl, by rw [if_neg hv]; exact ⟨g3, g0⟩⟩
    · refine bad (Or.inr ?_)
      split at hx9'
      · rename_i z; exact z
      · rw [hx9'] at q3; exact absurd q3 (by decide)
theorem sp_X9_does : Sp yX9_does cX9_does 3 (some .int) 2 S_X9_does := by
  refine sp_of (by decide) (fun av μ P h => ?_) ?_
  · obtain ⟨p1, rfl, -⟩ := h
    refine ⟨Nat.le_of_ble_eq_true rfl, fun v hv => ?_⟩
    simp only [List.mem_cons, List.not_mem_nil, or_false] at hv
    rcases hv with rfl | rfl <;> rfl
  · rintro X P hO _ μ ⟨p1, rfl, hpre, hpost⟩ hn
    exact wk_X9_does_0 hO hn p1  μ hpost (vp_X9_does_0 p1  μ hpre)
def S_X8_asks : Tr := fun av μ P => ∃ (p1 : Int32), av = [.ref 0, .int p1] ∧ pre_X8_asks p1 μ ∧ ∀ (x : Int32) (m : Mem), post_X8_asks p1 μ x m → P (some (.int x)) m
def vc_X8_asks_0 (p1 : Int32)  (μ : Mem) (R : Int32 → Mem → Prop)  : Prop :=
  ((p1 < 0 → R ((-1)) μ) ∧ (¬ p1 < 0 → ((p1 < 5 → ((¬ (((gi μ 17 4) >>> (p1 &&& 31)) &&& 1) = 1 → (((gi μ 17 0) = ((-9)) → R ((-2)) μ) ∧ (¬ (gi μ 17 0) = ((-9)) → ((gp μ 1) = 3 ∨ (gp μ 1) = 10) ∧ ((¬ (gi μ ((gp μ 1)) 7) = 0 → ((((gi μ 17 2) + 2) ≤ 9999 → (pre_X5_remember  μ ∧ ∀ (μ9 : Mem), post_X5_remember  μ μ9 → (∀ μ11, μ11 = ui μ9 17 2 ((gi μ9 17 2) + 2) → (∀ μ13, μ13 = ui μ11 17 4 ((gi μ11 17 4) ||| (1 <<< (p1 &&& 31))) → ((gp μ13 1) = 3 ∨ (gp μ13 1) = 10) ∧ vp_in (gi μ13 ((gp μ13 1)) 9) 6 ∧ R (((gi μ13 (((gp μ13 1)) + 6) (Int32.toNatClampNeg (gi μ13 ((gp μ13 1)) 9))) >>> (p1 &&& 31)) &&& 1) μ13)))) ∧ (¬ ((gi μ 17 2) + 2) ≤ 9999 → R ((-2)) μ))) ∧ ((gi μ ((gp μ 1)) 7) = 0 → R ((-2)) μ))))) ∧ ((((gi μ 17 4) >>> (p1 &&& 31)) &&& 1) = 1 → (((gi μ 17 0) = ((-9)) → R ((-2)) μ) ∧ (¬ (gi μ 17 0) = ((-9)) → R ((-2)) μ))))) ∧ (¬ p1 < 5 → R ((-1)) μ))))
set_option maxRecDepth 20000 in
set_option maxHeartbeats 4000000 in
theorem wk_X8_asks_0 {X : XT} {P : Post} (hO : OkM X cX8_asks RX8 4 (some .int) P) (hn : xn X = 3) (p1 : Int32)   (μ : Mem) {R : Int32 → Mem → Prop} (hR : ∀ x m, R x m → P (some (.int x)) m)    (h : vc_X8_asks_0 p1  μ R ) : V X 0 [some (.ref 0), some (.int p1), none] [] μ := by
  have hX := hO.1
  unfold vc_X8_asks_0 at h
  refine v_iload_n hX dX8_asks_0 rfl (?_ : V X 1 [some (.ref 0), some (.int p1), none] [.int p1] μ)
  refine v_if_lt hX 9 dX8_asks_1 rfl (fun c1 => ?_) (fun c1 => ?_)
  · replace h := h.1 c1
    refine v_iconst hX (-1) dX8_asks_9 rfl (?_ : V X 10 [some (.ref 0), some (.int p1), none] [.int ((-1))] μ)
    exact v_iret hO dX8_asks_10 (hR _ _ h)
  · replace h := h.2 c1
    refine v_iload_n hX dX8_asks_4 rfl (?_ : V X 5 [some (.ref 0), some (.int p1), none] [.int p1] μ)
    refine v_iconst hX 5 dX8_asks_5 rfl (?_ : V X 6 [some (.ref 0), some (.int p1), none] [.int 5, .int p1] μ)
    refine v_icmp_lt hX 11 dX8_asks_6 rfl (fun c2 => ?_) (fun c2 => ?_)
    · replace h := h.1 c2
      refine v_aload_n hX dX8_asks_11 rfl (?_ : V X 12 [some (.ref 0), some (.int p1), none] [.ref 0] μ)
      refine v_getr hX (17) fk_X8_29 sh_0 rfl rfl dX8_asks_12 (?_ : V X 15 [some (.ref 0), some (.int p1), none] [.ref 17] μ)
      refine v_geti hX fk_X8_158 sh_17 rfl dX8_asks_15 (?_ : V X 18 [some (.ref 0), some (.int p1), none] [.int (gi μ 17 4)] μ)
      refine v_iload_n hX dX8_asks_18 rfl (?_ : V X 19 [some (.ref 0), some (.int p1), none] [.int p1, .int (gi μ 17 4)] μ)
      refine v_ishr hX dX8_asks_19 (?_ : V X 20 [some (.ref 0), some (.int p1), none] [.int ((gi μ 17 4) >>> (p1 &&& 31))] μ)
      refine v_iconst hX 1 dX8_asks_20 rfl (?_ : V X 21 [some (.ref 0), some (.int p1), none] [.int 1, .int ((gi μ 17 4) >>> (p1 &&& 31))] μ)
      refine v_iand hX dX8_asks_21 (?_ : V X 22 [some (.ref 0), some (.int p1), none] [.int (((gi μ 17 4) >>> (p1 &&& 31)) &&& 1)] μ)
      refine v_iconst hX 1 dX8_asks_22 rfl (?_ : V X 23 [some (.ref 0), some (.int p1), none] [.int 1, .int (((gi μ 17 4) >>> (p1 &&& 31)) &&& 1)] μ)
      refine v_icmp_ne hX 30 dX8_asks_23 rfl (fun c3 => ?_) (fun c3 => ?_)
      · replace h := h.1 c3
        refine v_iconst hX 0 dX8_asks_30 rfl (?_ : V X 31 [some (.ref 0), some (.int p1), none] [.int 0] μ)
        refine v_istore_n hX dX8_asks_31 (by rw [hn]; decide) (?_ : V X 32 [some (.ref 0), some (.int p1), some (.int 0)] [] μ)
        refine v_aload_n hX dX8_asks_32 rfl (?_ : V X 33 [some (.ref 0), some (.int p1), some (.int 0)] [.ref 0] μ)
        refine v_getr hX (17) fk_X8_29 sh_0 rfl rfl dX8_asks_33 (?_ : V X 36 [some (.ref 0), some (.int p1), some (.int 0)] [.ref 17] μ)
        refine v_geti hX fk_X8_143 sh_17 rfl dX8_asks_36 (?_ : V X 39 [some (.ref 0), some (.int p1), some (.int 0)] [.int (gi μ 17 0)] μ)
        refine v_bipush hX (-9) dX8_asks_39 rfl (?_ : V X 41 [some (.ref 0), some (.int p1), some (.int 0)] [.int ((-9)), .int (gi μ 17 0)] μ)
        refine v_icmp_eq hX 58 dX8_asks_41 rfl (fun c4 => ?_) (fun c4 => ?_)
        · replace h := h.1 c4
          refine v_bipush hX (-2) dX8_asks_58 rfl (?_ : V X 60 [some (.ref 0), some (.int p1), some (.int 0)] [.int ((-2))] μ)
          exact v_iret hO dX8_asks_60 (hR _ _ h)
        · replace h := h.2 c4
          refine v_iload_n hX dX8_asks_44 rfl (?_ : V X 45 [some (.ref 0), some (.int p1), some (.int 0)] [.int 0] μ)
          refine v_if_ne hX 58 dX8_asks_45 rfl (fun c1 => absurd c1 (by decide)) (fun _ => (?_ : V X 48 [some (.ref 0), some (.int p1), some (.int 0)] [] μ))
          refine v_aload_n hX dX8_asks_48 rfl (?_ : V X 49 [some (.ref 0), some (.int p1), some (.int 0)] [.ref 0] μ)
          have hh5 := h.1
          replace h := h.2
          refine v_getp hX (gp μ 1) fk_X8_19 sh_0 rfl rfl dX8_asks_49 (?_ : V X 52 [some (.ref 0), some (.int p1), some (.int 0)] [.ref ((gp μ 1))] μ)
          refine v_geti hX fk_X8_137 (sHo hh5) rfl dX8_asks_52 (?_ : V X 55 [some (.ref 0), some (.int p1), some (.int 0)] [.int (gi μ ((gp μ 1)) 7)] μ)
          refine v_if_ne hX 61 dX8_asks_55 rfl (fun c6 => ?_) (fun c6 => ?_)
          · replace h := h.1 c6
            refine v_aload_n hX dX8_asks_61 rfl (?_ : V X 62 [some (.ref 0), some (.int p1), some (.int 0)] [.ref 0] μ)
            refine v_getr hX (17) fk_X8_29 sh_0 rfl rfl dX8_asks_62 (?_ : V X 65 [some (.ref 0), some (.int p1), some (.int 0)] [.ref 17] μ)
            refine v_geti hX fk_X8_149 sh_17 rfl dX8_asks_65 (?_ : V X 68 [some (.ref 0), some (.int p1), some (.int 0)] [.int (gi μ 17 2)] μ)
            refine v_iconst hX 2 dX8_asks_68 rfl (?_ : V X 69 [some (.ref 0), some (.int p1), some (.int 0)] [.int 2, .int (gi μ 17 2)] μ)
            refine v_iadd hX dX8_asks_69 (?_ : V X 70 [some (.ref 0), some (.int p1), some (.int 0)] [.int ((gi μ 17 2) + 2)] μ)
            refine v_sipush hX 9999 dX8_asks_70 rfl (?_ : V X 73 [some (.ref 0), some (.int p1), some (.int 0)] [.int 9999, .int ((gi μ 17 2) + 2)] μ)
            refine v_icmp_le hX 79 dX8_asks_73 rfl (fun c7 => ?_) (fun c7 => ?_)
            · replace h := h.1 c7
              refine v_aload_n hX dX8_asks_79 rfl (?_ : V X 80 [some (.ref 0), some (.int p1), some (.int 0)] [.ref 0] μ)
              refine v_getr hX (20) fk_X8_36 sh_0 rfl rfl dX8_asks_80 (?_ : V X 83 [some (.ref 0), some (.int p1), some (.int 0)] [.ref 20] μ)
              refine v_aload_n hX dX8_asks_83 rfl (?_ : V X 84 [some (.ref 0), some (.int p1), some (.int 0)] [.ref 0, .ref 20] μ)
              refine v_getr hX (17) fk_X8_29 sh_0 rfl rfl dX8_asks_84 (?_ : V X 87 [some (.ref 0), some (.int p1), some (.int 0)] [.ref 17, .ref 20] μ)
              refine v_callV hX sp_X5_remember ck_X5_remember mk_X8_170 mv_X5_remember sh_20 (by decide) (by decide) [.ref 17] [] rfl rfl (Nat.le_of_ble_eq_true rfl) dX8_asks_87 ⟨rfl, h.1, fun μ9 hp10 => (?_ : V X 90 [some (.ref 0), some (.int p1), some (.int 0)] [] μ9)⟩
              replace h := h.2 μ9 hp10
              refine v_aload_n hX dX8_asks_90 rfl (?_ : V X 91 [some (.ref 0), some (.int p1), some (.int 0)] [.ref 0] μ9)
              refine v_getr hX (17) fk_X8_29 sh_0 rfl rfl dX8_asks_91 (?_ : V X 94 [some (.ref 0), some (.int p1), some (.int 0)] [.ref 17] μ9)
              refine v_dup hX dX8_asks_94 rfl (?_ : V X 95 [some (.ref 0), some (.int p1), some (.int 0)] [.ref 17, .ref 17] μ9)
              refine v_geti hX fk_X8_149 sh_17 rfl dX8_asks_95 (?_ : V X 98 [some (.ref 0), some (.int p1), some (.int 0)] [.int (gi μ9 17 2), .ref 17] μ9)
              refine v_iconst hX 2 dX8_asks_98 rfl (?_ : V X 99 [some (.ref 0), some (.int p1), some (.int 0)] [.int 2, .int (gi μ9 17 2), .ref 17] μ9)
              refine v_iadd hX dX8_asks_99 (?_ : V X 100 [some (.ref 0), some (.int p1), some (.int 0)] [.int ((gi μ9 17 2) + 2), .ref 17] μ9)
              refine w_puti hX fk_X8_149 fw_7_2 sh_17 rfl dX8_asks_100 (fun μ11 e12 => (?_ : V X 103 [some (.ref 0), some (.int p1), some (.int 0)] [] μ11))
              replace h := h μ11 e12
              refine v_aload_n hX dX8_asks_103 rfl (?_ : V X 104 [some (.ref 0), some (.int p1), some (.int 0)] [.ref 0] μ11)
              refine v_getr hX (17) fk_X8_29 sh_0 rfl rfl dX8_asks_104 (?_ : V X 107 [some (.ref 0), some (.int p1), some (.int 0)] [.ref 17] μ11)
              refine v_dup hX dX8_asks_107 rfl (?_ : V X 108 [some (.ref 0), some (.int p1), some (.int 0)] [.ref 17, .ref 17] μ11)
              refine v_geti hX fk_X8_158 sh_17 rfl dX8_asks_108 (?_ : V X 111 [some (.ref 0), some (.int p1), some (.int 0)] [.int (gi μ11 17 4), .ref 17] μ11)
              refine v_iconst hX 1 dX8_asks_111 rfl (?_ : V X 112 [some (.ref 0), some (.int p1), some (.int 0)] [.int 1, .int (gi μ11 17 4), .ref 17] μ11)
              refine v_iload_n hX dX8_asks_112 rfl (?_ : V X 113 [some (.ref 0), some (.int p1), some (.int 0)] [.int p1, .int 1, .int (gi μ11 17 4), .ref 17] μ11)
              refine v_ishl hX dX8_asks_113 (?_ : V X 114 [some (.ref 0), some (.int p1), some (.int 0)] [.int (1 <<< (p1 &&& 31)), .int (gi μ11 17 4), .ref 17] μ11)
              refine v_ior hX dX8_asks_114 (?_ : V X 115 [some (.ref 0), some (.int p1), some (.int 0)] [.int ((gi μ11 17 4) ||| (1 <<< (p1 &&& 31))), .ref 17] μ11)
              refine w_puti hX fk_X8_158 fw_7_4 sh_17 rfl dX8_asks_115 (fun μ13 e14 => (?_ : V X 118 [some (.ref 0), some (.int p1), some (.int 0)] [] μ13))
              replace h := h μ13 e14
              refine v_aload_n hX dX8_asks_118 rfl (?_ : V X 119 [some (.ref 0), some (.int p1), some (.int 0)] [.ref 0] μ13)
              have hh15 := h.1
              replace h := h.2
              refine v_getp hX (gp μ13 1) fk_X8_19 sh_0 rfl rfl dX8_asks_119 (?_ : V X 122 [some (.ref 0), some (.int p1), some (.int 0)] [.ref ((gp μ13 1))] μ13)
              refine v_getr hX (((gp μ13 1)) + 6) fk_X8_140 (sHo hh15) rfl rfl dX8_asks_122 (?_ : V X 125 [some (.ref 0), some (.int p1), some (.int 0)] [.ref (((gp μ13 1)) + 6)] μ13)
              refine v_aload_n hX dX8_asks_125 rfl (?_ : V X 126 [some (.ref 0), some (.int p1), some (.int 0)] [.ref 0, .ref (((gp μ13 1)) + 6)] μ13)
              refine v_getp hX (gp μ13 1) fk_X8_19 sh_0 rfl rfl dX8_asks_126 (?_ : V X 129 [some (.ref 0), some (.int p1), some (.int 0)] [.ref ((gp μ13 1)), .ref (((gp μ13 1)) + 6)] μ13)
              refine v_geti hX fk_X8_178 (sHo hh15) rfl dX8_asks_129 (?_ : V X 132 [some (.ref 0), some (.int p1), some (.int 0)] [.int (gi μ13 ((gp μ13 1)) 9), .ref (((gp μ13 1)) + 6)] μ13)
              have hb16 := h.1
              replace h := h.2
              refine w_iald hX (Int32.toNatClampNeg (gi μ13 ((gp μ13 1)) 9)) (sH6 hh15) hb16 rfl dX8_asks_132 (?_ : V X 133 [some (.ref 0), some (.int p1), some (.int 0)] [.int (gi μ13 (((gp μ13 1)) + 6) (Int32.toNatClampNeg (gi μ13 ((gp μ13 1)) 9)))] μ13)
              refine v_iload_n hX dX8_asks_133 rfl (?_ : V X 134 [some (.ref 0), some (.int p1), some (.int 0)] [.int p1, .int (gi μ13 (((gp μ13 1)) + 6) (Int32.toNatClampNeg (gi μ13 ((gp μ13 1)) 9)))] μ13)
              refine v_ishr hX dX8_asks_134 (?_ : V X 135 [some (.ref 0), some (.int p1), some (.int 0)] [.int ((gi μ13 (((gp μ13 1)) + 6) (Int32.toNatClampNeg (gi μ13 ((gp μ13 1)) 9))) >>> (p1 &&& 31))] μ13)
              refine v_iconst hX 1 dX8_asks_135 rfl (?_ : V X 136 [some (.ref 0), some (.int p1), some (.int 0)] [.int 1, .int ((gi μ13 (((gp μ13 1)) + 6) (Int32.toNatClampNeg (gi μ13 ((gp μ13 1)) 9))) >>> (p1 &&& 31))] μ13)
              refine v_iand hX dX8_asks_136 (?_ : V X 137 [some (.ref 0), some (.int p1), some (.int 0)] [.int (((gi μ13 (((gp μ13 1)) + 6) (Int32.toNatClampNeg (gi μ13 ((gp μ13 1)) 9))) >>> (p1 &&& 31)) &&& 1)] μ13)
              exact v_iret hO dX8_asks_137 (hR _ _ h)
            · replace h := h.2 c7
              refine v_bipush hX (-2) dX8_asks_76 rfl (?_ : V X 78 [some (.ref 0), some (.int p1), some (.int 0)] [.int ((-2))] μ)
              exact v_iret hO dX8_asks_78 (hR _ _ h)
          · replace h := h.2 c6
            refine v_bipush hX (-2) dX8_asks_58 rfl (?_ : V X 60 [some (.ref 0), some (.int p1), some (.int 0)] [.int ((-2))] μ)
            exact v_iret hO dX8_asks_60 (hR _ _ h)
      · replace h := h.2 c3
        refine v_iconst hX 1 dX8_asks_26 rfl (?_ : V X 27 [some (.ref 0), some (.int p1), none] [.int 1] μ)
        refine v_goto hX 31 dX8_asks_27 rfl (?_ : V X 31 [some (.ref 0), some (.int p1), none] [.int 1] μ)
        refine v_istore_n hX dX8_asks_31 (by rw [hn]; decide) (?_ : V X 32 [some (.ref 0), some (.int p1), some (.int 1)] [] μ)
        refine v_aload_n hX dX8_asks_32 rfl (?_ : V X 33 [some (.ref 0), some (.int p1), some (.int 1)] [.ref 0] μ)
        refine v_getr hX (17) fk_X8_29 sh_0 rfl rfl dX8_asks_33 (?_ : V X 36 [some (.ref 0), some (.int p1), some (.int 1)] [.ref 17] μ)
        refine v_geti hX fk_X8_143 sh_17 rfl dX8_asks_36 (?_ : V X 39 [some (.ref 0), some (.int p1), some (.int 1)] [.int (gi μ 17 0)] μ)
        refine v_bipush hX (-9) dX8_asks_39 rfl (?_ : V X 41 [some (.ref 0), some (.int p1), some (.int 1)] [.int ((-9)), .int (gi μ 17 0)] μ)
        refine v_icmp_eq hX 58 dX8_asks_41 rfl (fun c17 => ?_) (fun c17 => ?_)
        · replace h := h.1 c17
          refine v_bipush hX (-2) dX8_asks_58 rfl (?_ : V X 60 [some (.ref 0), some (.int p1), some (.int 1)] [.int ((-2))] μ)
          exact v_iret hO dX8_asks_60 (hR _ _ h)
        · replace h := h.2 c17
          refine v_iload_n hX dX8_asks_44 rfl (?_ : V X 45 [some (.ref 0), some (.int p1), some (.int 1)] [.int 1] μ)
          refine v_if_ne hX 58 dX8_asks_45 rfl (fun _ => (?_ : V X 58 [some (.ref 0), some (.int p1), some (.int 1)] [] μ)) (fun c1 => absurd c1 (by decide))
          refine v_bipush hX (-2) dX8_asks_58 rfl (?_ : V X 60 [some (.ref 0), some (.int p1), some (.int 1)] [.int ((-2))] μ)
          exact v_iret hO dX8_asks_60 (hR _ _ h)
    · replace h := h.2 c2
      refine v_iconst hX (-1) dX8_asks_9 rfl (?_ : V X 10 [some (.ref 0), some (.int p1), none] [.int ((-1))] μ)
      exact v_iret hO dX8_asks_10 (hR _ _ h)
set_option maxRecDepth 20000 in
set_option maxHeartbeats 4000000 in
theorem vp_X8_asks_0 (p1 : Int32)  (μ : Mem) (hpre : pre_X8_asks p1 μ) : vc_X8_asks_0 p1 μ (post_X8_asks p1 μ)  := by
  unfold vc_X8_asks_0
  obtain ⟨hw, h1, h2, h3⟩ := hpre
  have hb := h3.2
  have b1 : (p1 < 0 ∨ 5 ≤ p1) → post_X8_asks p1 μ (-1) μ := by
    intro q; unfold post_X8_asks; rw [if_pos q]; exact ⟨rfl, rfl⟩
  have b2 : ¬ (p1 < 0 ∨ 5 ≤ p1) → (gi μ 17 0 = -9 ∨ slvI (gi μ 17 4) p1 = 1 ∨ gi μ (gp μ 1) 7 = 0 ∨ 9999 < gi μ 17 2 + 2) → post_X8_asks p1 μ (-2) μ := by
    intro q q2; unfold post_X8_asks; rw [if_neg q, if_pos q2]; exact ⟨rfl, rfl⟩
  refine ⟨fun c => b1 (Or.inl c), fun c => ⟨fun c2 => ?_, fun c2 => b1 (Or.inr (nlt_le c2))⟩⟩
  have nc : ¬ (p1 < 0 ∨ 5 ≤ p1) := by rintro (z | z); exact c z; exact absurd c2 (by simpa using z)
  refine ⟨fun c3 => ⟨fun c4 => b2 nc (Or.inl c4), fun c4 => ⟨hw, fun c5 => ⟨fun c6 => ⟨⟨h1, h2⟩, ?_⟩, fun c6 => b2 nc (Or.inr (Or.inr (Or.inr (nle_lt c6))))⟩, fun c5 => b2 nc (Or.inr (Or.inr (Or.inl c5)))⟩⟩, fun c3 => ⟨fun c4 => b2 nc (Or.inl c4), fun c4 => b2 nc (Or.inr (Or.inl c3))⟩⟩
  rintro m ⟨hf, hc, ht, hs⟩ _ rfl _ rfl
  have hf' : fr (remF μ) μ m := hf
  have hgp : gp (ui (ui m 17 2 (gi m 17 2 + 2)) 17 4 (gi (ui m 17 2 (gi m 17 2 + 2)) 17 4 ||| 1 <<< (p1 &&& 31))) 1 = gp μ 1 := rem_gp hf' 1
  rw [hgp]
  have hwlo : gp μ 1 + 6 < 17 := by unfold hsOK at hw; omega
  have r1 : ∀ c k, c < 17 → gi (ui (ui m 17 2 (gi m 17 2 + 2)) 17 4 (gi (ui m 17 2 (gi m 17 2 + 2)) 17 4 ||| 1 <<< (p1 &&& 31))) c k = gi μ c k := by
    intro c k hck; rw [gi_ui, if_neg (by omega), gi_ui, if_neg (by omega), rem_lo hf' (by omega)]
  rw [r1 _ _ (by omega), r1 _ _ (by omega)]
  refine ⟨hw, isN_in h3 (by omega) (by omega), ?_⟩
  unfold post_X8_asks
  rw [if_neg nc, if_neg (by rintro (z | z | z | z); exact c4 z; exact c3 z; exact c5 z; exact absurd c6 (by simpa using z))]
  have hF : fr [17] m (ui (ui m 17 2 (gi m 17 2 + 2)) 17 4 (gi (ui m 17 2 (gi m 17 2 + 2)) 17 4 ||| 1 <<< (p1 &&& 31))) := fr_trans (fr_ui (by simp)) (fr_ui (by simp))
  refine ⟨rfl, fr_trans (fr_mono hf' (by simp; grind)) (fr_mono hF (by simp)), remP_fr ⟨hc, ht, hs⟩ hF (by simp) (by simp), ?_, ?_, ?_, ?_, ?_⟩
  · rw [gi_ui, if_neg (by simp), gi_ui, if_neg (by simp), rem_lo hf' (by omega)]
  · rw [gi_ui, if_neg (by simp), gi_ui, if_neg (by simp), rem_lo hf' (by omega)]
  · rw [gi_ui, if_neg (by simp), gi_ui, if_pos ⟨rfl, rfl⟩, rem_lo hf' (by omega)]
  · rw [gi_ui, if_neg (by simp), gi_ui, if_neg (by simp), rem_lo hf' (by omega)]
  · rw [gi_ui, if_pos ⟨rfl, rfl⟩, gi_ui, if_neg (by simp), rem_lo hf' (by omega)]
theorem sp_X8_asks : Sp yX8_asks cX8_asks 3 (some .int) 4 S_X8_asks := by
  refine sp_of (by decide) (fun av μ P h => ?_) ?_
  · obtain ⟨p1, rfl, -⟩ := h
    refine ⟨Nat.le_of_ble_eq_true rfl, fun v hv => ?_⟩
    simp only [List.mem_cons, List.not_mem_nil, or_false] at hv
    rcases hv with rfl | rfl <;> rfl
  · rintro X P hO _ μ ⟨p1, rfl, hpre, hpost⟩ hn
    exact wk_X8_asks_0 hO hn p1  μ hpost (vp_X8_asks_0 p1  μ hpre)
def S_X9_asks : Tr := fun av μ P => ∃ (p1 : Int32), av = [.ref 75, .int p1] ∧ pre_X9_asks p1 μ ∧ ∀ (x : Int32) (m : Mem), post_X9_asks p1 μ x m → P (some (.int x)) m
def vc_X9_asks_0 (p1 : Int32)  (μ : Mem) (R : Int32 → Mem → Prop)  : Prop :=
  (∀ μ1, μ1 = ui μ 75 0 0 → (pre_X9_in p1 0 4 μ1 ∧ ∀ (x3 : Int32) (μ4 : Mem), post_X9_in p1 0 4 μ1 x3 μ4 → ((¬ x3 = 0 → (((gi μ4 84 0) = 0 → R ((-2)) μ4) ∧ (¬ (gi μ4 84 0) = 0 → (((((gi μ4 84 4) >>> (p1 &&& 31)) &&& 1) = 1 → R ((-2)) μ4) ∧ (¬ (((gi μ4 84 4) >>> (p1 &&& 31)) &&& 1) = 1 → (((gi μ4 77 2) = 0 → R ((-2)) μ4) ∧ (¬ (gi μ4 77 2) = 0 → (pre_X9_mayLast 2 μ4 ∧ ∀ (x10 : Int32) (μ11 : Mem), post_X9_mayLast 2 μ4 x10 μ11 → ((¬ x10 = 0 → (pre_X9_notes  μ11 ∧ ∀ (μ15 : Mem), post_X9_notes  μ11 μ15 → (∀ μ17, μ17 = ui μ15 84 2 ((gi μ15 84 2) + 2) → (∀ μ19, μ19 = ui μ17 84 4 ((gi μ17 84 4) ||| (1 <<< (p1 &&& 31))) → vp_in (gi μ19 77 3) 12 ∧ R (((gi μ19 83 (Int32.toNatClampNeg (gi μ19 77 3))) >>> (p1 &&& 31)) &&& 1) μ19)))) ∧ (x10 = 0 → R ((-2)) μ11)))))))))) ∧ (x3 = 0 → R ((-1)) μ4))))
set_option maxRecDepth 20000 in
set_option maxHeartbeats 4000000 in
theorem wk_X9_asks_0 {X : XT} {P : Post} (hO : OkM X cX9_asks RX9 1 (some .int) P) (hn : xn X = 2) (p1 : Int32)   (μ : Mem) {R : Int32 → Mem → Prop} (hR : ∀ x m, R x m → P (some (.int x)) m)    (h : vc_X9_asks_0 p1  μ R ) : V X 0 [some (.ref 75), some (.int p1)] [] μ := by
  have hX := hO.1
  unfold vc_X9_asks_0 at h
  refine v_aload_n hX dX9_asks_0 rfl (?_ : V X 1 [some (.ref 75), some (.int p1)] [.ref 75] μ)
  refine v_iconst hX 0 dX9_asks_1 rfl (?_ : V X 2 [some (.ref 75), some (.int p1)] [.int 0, .ref 75] μ)
  refine w_puti hX fk_X9_74 fw_9_0 sh_75 rfl dX9_asks_2 (fun μ1 e2 => (?_ : V X 5 [some (.ref 75), some (.int p1)] [] μ1))
  replace h := h μ1 e2
  refine v_iload_n hX dX9_asks_5 rfl (?_ : V X 6 [some (.ref 75), some (.int p1)] [.int p1] μ1)
  refine v_iconst hX 0 dX9_asks_6 rfl (?_ : V X 7 [some (.ref 75), some (.int p1)] [.int 0, .int p1] μ1)
  refine v_iconst hX 4 dX9_asks_7 rfl (?_ : V X 8 [some (.ref 75), some (.int p1)] [.int 4, .int 0, .int p1] μ1)
  refine v_callS hX sp_X9_in ck_X9_in mk_X9_78 sk_X9_in (by decide) [.int p1, .int 0, .int 4] [] rfl rfl (Nat.le_of_ble_eq_true rfl) dX9_asks_8 ⟨p1, 0, 4, rfl, h.1, fun x3 μ4 hp5 => (?_ : V X 11 [some (.ref 75), some (.int p1)] [.int x3] μ4)⟩
  replace h := h.2 x3 μ4 hp5
  refine v_if_ne hX 16 dX9_asks_11 rfl (fun c6 => ?_) (fun c6 => ?_)
  · replace h := h.1 c6
    refine v_aload_n hX dX9_asks_16 rfl (?_ : V X 17 [some (.ref 75), some (.int p1)] [.ref 75] μ4)
    refine v_getr hX (84) fk_X9_34 sh_75 rfl rfl dX9_asks_17 (?_ : V X 20 [some (.ref 75), some (.int p1)] [.ref 84] μ4)
    refine v_iconst hX 0 dX9_asks_20 rfl (?_ : V X 21 [some (.ref 75), some (.int p1)] [.int 0, .ref 84] μ4)
    refine w_iald hX 0 sh_84 (vp_lit (by decide)) (by decide) dX9_asks_21 (?_ : V X 22 [some (.ref 75), some (.int p1)] [.int (gi μ4 84 0)] μ4)
    refine v_if_eq hX 56 dX9_asks_22 rfl (fun c7 => ?_) (fun c7 => ?_)
    · replace h := h.1 c7
      refine v_bipush hX (-2) dX9_asks_56 rfl (?_ : V X 58 [some (.ref 75), some (.int p1)] [.int ((-2))] μ4)
      exact v_iret hO dX9_asks_58 (hR _ _ h)
    · replace h := h.2 c7
      refine v_aload_n hX dX9_asks_25 rfl (?_ : V X 26 [some (.ref 75), some (.int p1)] [.ref 75] μ4)
      refine v_getr hX (84) fk_X9_34 sh_75 rfl rfl dX9_asks_26 (?_ : V X 29 [some (.ref 75), some (.int p1)] [.ref 84] μ4)
      refine v_iconst hX 4 dX9_asks_29 rfl (?_ : V X 30 [some (.ref 75), some (.int p1)] [.int 4, .ref 84] μ4)
      refine w_iald hX 4 sh_84 (vp_lit (by decide)) (by decide) dX9_asks_30 (?_ : V X 31 [some (.ref 75), some (.int p1)] [.int (gi μ4 84 4)] μ4)
      refine v_iload_n hX dX9_asks_31 rfl (?_ : V X 32 [some (.ref 75), some (.int p1)] [.int p1, .int (gi μ4 84 4)] μ4)
      refine v_ishr hX dX9_asks_32 (?_ : V X 33 [some (.ref 75), some (.int p1)] [.int ((gi μ4 84 4) >>> (p1 &&& 31))] μ4)
      refine v_iconst hX 1 dX9_asks_33 rfl (?_ : V X 34 [some (.ref 75), some (.int p1)] [.int 1, .int ((gi μ4 84 4) >>> (p1 &&& 31))] μ4)
      refine v_iand hX dX9_asks_34 (?_ : V X 35 [some (.ref 75), some (.int p1)] [.int (((gi μ4 84 4) >>> (p1 &&& 31)) &&& 1)] μ4)
      refine v_iconst hX 1 dX9_asks_35 rfl (?_ : V X 36 [some (.ref 75), some (.int p1)] [.int 1, .int (((gi μ4 84 4) >>> (p1 &&& 31)) &&& 1)] μ4)
      refine v_icmp_eq hX 56 dX9_asks_36 rfl (fun c8 => ?_) (fun c8 => ?_)
      · replace h := h.1 c8
        refine v_bipush hX (-2) dX9_asks_56 rfl (?_ : V X 58 [some (.ref 75), some (.int p1)] [.int ((-2))] μ4)
        exact v_iret hO dX9_asks_58 (hR _ _ h)
      · replace h := h.2 c8
        refine v_aload_n hX dX9_asks_39 rfl (?_ : V X 40 [some (.ref 75), some (.int p1)] [.ref 75] μ4)
        refine v_getr hX (77) fk_X9_13 sh_75 rfl rfl dX9_asks_40 (?_ : V X 43 [some (.ref 75), some (.int p1)] [.ref 77] μ4)
        refine v_iconst hX 2 dX9_asks_43 rfl (?_ : V X 44 [some (.ref 75), some (.int p1)] [.int 2, .ref 77] μ4)
        refine w_iald hX 2 sh_77 (vp_lit (by decide)) (by decide) dX9_asks_44 (?_ : V X 45 [some (.ref 75), some (.int p1)] [.int (gi μ4 77 2)] μ4)
        refine v_if_eq hX 56 dX9_asks_45 rfl (fun c9 => ?_) (fun c9 => ?_)
        · replace h := h.1 c9
          refine v_bipush hX (-2) dX9_asks_56 rfl (?_ : V X 58 [some (.ref 75), some (.int p1)] [.int ((-2))] μ4)
          exact v_iret hO dX9_asks_58 (hR _ _ h)
        · replace h := h.2 c9
          refine v_aload_n hX dX9_asks_48 rfl (?_ : V X 49 [some (.ref 75), some (.int p1)] [.ref 75] μ4)
          refine v_iconst hX 2 dX9_asks_49 rfl (?_ : V X 50 [some (.ref 75), some (.int p1)] [.int 2, .ref 75] μ4)
          refine v_callV hX sp_X9_mayLast ck_X9_mayLast mk_X9_162 mv_X9_mayLast sh_75 (by decide) (by decide) [.int 2] [] rfl rfl (Nat.le_of_ble_eq_true rfl) dX9_asks_50 ⟨2, rfl, h.1, fun x10 μ11 hp12 => (?_ : V X 53 [some (.ref 75), some (.int p1)] [.int x10] μ11)⟩
          replace h := h.2 x10 μ11 hp12
          refine v_if_ne hX 59 dX9_asks_53 rfl (fun c13 => ?_) (fun c13 => ?_)
          · replace h := h.1 c13
            refine v_aload_n hX dX9_asks_59 rfl (?_ : V X 60 [some (.ref 75), some (.int p1)] [.ref 75] μ11)
            refine v_callV hX sp_X9_notes ck_X9_notes mk_X9_165 mv_X9_notes sh_75 (by decide) (by decide) [] [] rfl rfl (Nat.le_of_ble_eq_true rfl) dX9_asks_60 ⟨rfl, h.1, fun μ15 hp16 => (?_ : V X 63 [some (.ref 75), some (.int p1)] [] μ15)⟩
            replace h := h.2 μ15 hp16
            refine v_aload_n hX dX9_asks_63 rfl (?_ : V X 64 [some (.ref 75), some (.int p1)] [.ref 75] μ15)
            refine v_getr hX (84) fk_X9_34 sh_75 rfl rfl dX9_asks_64 (?_ : V X 67 [some (.ref 75), some (.int p1)] [.ref 84] μ15)
            refine v_iconst hX 2 dX9_asks_67 rfl (?_ : V X 68 [some (.ref 75), some (.int p1)] [.int 2, .ref 84] μ15)
            refine v_dup2 hX dX9_asks_68 rfl rfl (?_ : V X 69 [some (.ref 75), some (.int p1)] [.int 2, .ref 84, .int 2, .ref 84] μ15)
            refine w_iald hX 2 sh_84 (vp_lit (by decide)) (by decide) dX9_asks_69 (?_ : V X 70 [some (.ref 75), some (.int p1)] [.int (gi μ15 84 2), .int 2, .ref 84] μ15)
            refine v_iconst hX 2 dX9_asks_70 rfl (?_ : V X 71 [some (.ref 75), some (.int p1)] [.int 2, .int (gi μ15 84 2), .int 2, .ref 84] μ15)
            refine v_iadd hX dX9_asks_71 (?_ : V X 72 [some (.ref 75), some (.int p1)] [.int ((gi μ15 84 2) + 2), .int 2, .ref 84] μ15)
            refine w_iast hX 2 sh_84 (vp_lit (by decide)) (by decide) dX9_asks_72 (fun μ17 e18 => (?_ : V X 73 [some (.ref 75), some (.int p1)] [] μ17))
            replace h := h μ17 e18
            refine v_aload_n hX dX9_asks_73 rfl (?_ : V X 74 [some (.ref 75), some (.int p1)] [.ref 75] μ17)
            refine v_getr hX (84) fk_X9_34 sh_75 rfl rfl dX9_asks_74 (?_ : V X 77 [some (.ref 75), some (.int p1)] [.ref 84] μ17)
            refine v_iconst hX 4 dX9_asks_77 rfl (?_ : V X 78 [some (.ref 75), some (.int p1)] [.int 4, .ref 84] μ17)
            refine v_dup2 hX dX9_asks_78 rfl rfl (?_ : V X 79 [some (.ref 75), some (.int p1)] [.int 4, .ref 84, .int 4, .ref 84] μ17)
            refine w_iald hX 4 sh_84 (vp_lit (by decide)) (by decide) dX9_asks_79 (?_ : V X 80 [some (.ref 75), some (.int p1)] [.int (gi μ17 84 4), .int 4, .ref 84] μ17)
            refine v_iconst hX 1 dX9_asks_80 rfl (?_ : V X 81 [some (.ref 75), some (.int p1)] [.int 1, .int (gi μ17 84 4), .int 4, .ref 84] μ17)
            refine v_iload_n hX dX9_asks_81 rfl (?_ : V X 82 [some (.ref 75), some (.int p1)] [.int p1, .int 1, .int (gi μ17 84 4), .int 4, .ref 84] μ17)
            refine v_ishl hX dX9_asks_82 (?_ : V X 83 [some (.ref 75), some (.int p1)] [.int (1 <<< (p1 &&& 31)), .int (gi μ17 84 4), .int 4, .ref 84] μ17)
            refine v_ior hX dX9_asks_83 (?_ : V X 84 [some (.ref 75), some (.int p1)] [.int ((gi μ17 84 4) ||| (1 <<< (p1 &&& 31))), .int 4, .ref 84] μ17)
            refine w_iast hX 4 sh_84 (vp_lit (by decide)) (by decide) dX9_asks_84 (fun μ19 e20 => (?_ : V X 85 [some (.ref 75), some (.int p1)] [] μ19))
            replace h := h μ19 e20
            refine v_aload_n hX dX9_asks_85 rfl (?_ : V X 86 [some (.ref 75), some (.int p1)] [.ref 75] μ19)
            refine v_getr hX (83) fk_X9_31 sh_75 rfl rfl dX9_asks_86 (?_ : V X 89 [some (.ref 75), some (.int p1)] [.ref 83] μ19)
            refine v_aload_n hX dX9_asks_89 rfl (?_ : V X 90 [some (.ref 75), some (.int p1)] [.ref 75, .ref 83] μ19)
            refine v_getr hX (77) fk_X9_13 sh_75 rfl rfl dX9_asks_90 (?_ : V X 93 [some (.ref 75), some (.int p1)] [.ref 77, .ref 83] μ19)
            refine v_iconst hX 3 dX9_asks_93 rfl (?_ : V X 94 [some (.ref 75), some (.int p1)] [.int 3, .ref 77, .ref 83] μ19)
            refine w_iald hX 3 sh_77 (vp_lit (by decide)) (by decide) dX9_asks_94 (?_ : V X 95 [some (.ref 75), some (.int p1)] [.int (gi μ19 77 3), .ref 83] μ19)
            have hb21 := h.1
            replace h := h.2
            refine w_iald hX (Int32.toNatClampNeg (gi μ19 77 3)) sh_83 hb21 rfl dX9_asks_95 (?_ : V X 96 [some (.ref 75), some (.int p1)] [.int (gi μ19 83 (Int32.toNatClampNeg (gi μ19 77 3)))] μ19)
            refine v_iload_n hX dX9_asks_96 rfl (?_ : V X 97 [some (.ref 75), some (.int p1)] [.int p1, .int (gi μ19 83 (Int32.toNatClampNeg (gi μ19 77 3)))] μ19)
            refine v_ishr hX dX9_asks_97 (?_ : V X 98 [some (.ref 75), some (.int p1)] [.int ((gi μ19 83 (Int32.toNatClampNeg (gi μ19 77 3))) >>> (p1 &&& 31))] μ19)
            refine v_iconst hX 1 dX9_asks_98 rfl (?_ : V X 99 [some (.ref 75), some (.int p1)] [.int 1, .int ((gi μ19 83 (Int32.toNatClampNeg (gi μ19 77 3))) >>> (p1 &&& 31))] μ19)
            refine v_iand hX dX9_asks_99 (?_ : V X 100 [some (.ref 75), some (.int p1)] [.int (((gi μ19 83 (Int32.toNatClampNeg (gi μ19 77 3))) >>> (p1 &&& 31)) &&& 1)] μ19)
            exact v_iret hO dX9_asks_100 (hR _ _ h)
          · replace h := h.2 c13
            refine v_bipush hX (-2) dX9_asks_56 rfl (?_ : V X 58 [some (.ref 75), some (.int p1)] [.int ((-2))] μ11)
            exact v_iret hO dX9_asks_58 (hR _ _ h)
  · replace h := h.2 c6
    refine v_iconst hX (-1) dX9_asks_14 rfl (?_ : V X 15 [some (.ref 75), some (.int p1)] [.int ((-1))] μ4)
    exact v_iret hO dX9_asks_15 (hR _ _ h)
set_option maxRecDepth 20000 in
set_option maxHeartbeats 4000000 in
theorem vp_X9_asks_0 (p1 : Int32)  (μ : Mem) (hpre : pre_X9_asks p1 μ) : vc_X9_asks_0 p1 μ (post_X9_asks p1 μ)  := by
  unfold vc_X9_asks_0
  obtain ⟨h1, h2, h3⟩ := hpre
  have hb := h2.2
  rintro _ rfl
  refine ⟨trivial, ?_⟩
  rintro x3 m3 ⟨hx3, rfl⟩
  have ec : (p1 < 0 ∨ 4 < p1) ↔ (p1 < 0 ∨ 5 ≤ p1) := by
    simp only [i_lt, i_le]
    rw [show (4 : Int32).toInt = 4 from rfl, show (5 : Int32).toInt = 5 from rfl]; omega
  have b1 : (p1 < 0 ∨ 5 ≤ p1) → post_X9_asks p1 μ (-1) (ui μ 75 0 0) := by
    intro q; unfold post_X9_asks; rw [if_pos q]; exact ⟨rfl, rfl⟩
  by_cases c : p1 < 0 ∨ 5 ≤ p1
  · rw [if_pos (ec.mpr c)] at hx3; subst hx3
    exact ⟨fun q => absurd rfl q, fun _ => b1 c⟩
  · rw [if_neg (fun q => c (ec.mp q))] at hx3; subst hx3
    have b2 : (gi μ 84 0 = 0 ∨ slvI (gi μ 84 4) p1 = 1 ∨ gi μ 77 2 = 0 ∨ 9999 < gi μ 84 2 + 2) → post_X9_asks p1 μ (-2) (ui μ 75 0 0) := by
      intro q2; unfold post_X9_asks; rw [if_neg c, if_pos q2]; exact ⟨rfl, rfl⟩
    refine ⟨fun _ => ⟨fun q => b2 (Or.inl q), fun q => ⟨fun q2 => b2 (Or.inr (Or.inl q2)), fun q2 => ⟨fun q3 => b2 (Or.inr (Or.inr (Or.inl q3))), fun q3 => ⟨trivial, ?_⟩⟩⟩⟩, fun q => absurd q (by decide)⟩
    rintro x10 m10 ⟨hx10, rfl⟩
    have hx10' : x10 = if 9999 < gi μ 84 2 + 2 then 0 else 1 := hx10
    refine ⟨fun q4 => ⟨h3, ?_⟩, fun q4 => ?_⟩
    · intro m hn
      obtain ⟨hf, hN⟩ := noteP_of hn
      rintro _ rfl _ rfl
      have n5 : ¬ 9999 < gi μ 84 2 + 2 := by intro z; rw [if_pos z] at hx10'; exact q4 hx10'
      have k84 : ∀ k, gi m 84 k = gi μ 84 k := fun k => hf.1 84 (by simp) k
      have r1 : ∀ c k, c ≠ 84 → c ≠ 75 → c ≠ 87 → gi (ui (ui m 84 2 (gi m 84 2 + 2)) 84 4 (gi (ui m 84 2 (gi m 84 2 + 2)) 84 4 ||| 1 <<< (p1 &&& 31))) c k = gi μ c k := by
        intro c k n1 n2 n3; rw [gi_ui, if_neg (by simp [n1]), gi_ui, if_neg (by simp [n1]), hf.1 c (by simp [n2, n3])]
      rw [r1 77 3 (by omega) (by omega) (by omega), r1 83 _ (by omega) (by omega) (by omega)]
      refine ⟨isN_in h2 (by omega) (by omega), ?_⟩
      unfold post_X9_asks
      have q' : ¬ gi μ 84 0 = 0 := q
      have q2' : ¬ slvI (gi μ 84 4) p1 = 1 := q2
      have q3' : ¬ gi μ 77 2 = 0 := q3
      rw [if_neg c, if_neg (by rintro (z | z | z | z); exact q' z; exact q2' z; exact q3' z; exact n5 z)]
      have hF : fr [84] m (ui (ui m 84 2 (gi m 84 2 + 2)) 84 4 (gi (ui m 84 2 (gi m 84 2 + 2)) 84 4 ||| 1 <<< (p1 &&& 31))) := fr_trans (fr_ui (by simp)) (fr_ui (by simp))
      refine ⟨rfl, fr_trans (fr_mono hf (by simp)) (fr_mono hF (by simp)), noteP_fr hN hF (by simp) (by simp), ?_, ?_, fun k n2 n4 => ?_⟩
      · rw [gi_ui, if_neg (by simp), gi_ui, if_pos ⟨rfl, rfl⟩, k84]
      · rw [gi_ui, if_pos ⟨rfl, rfl⟩, gi_ui, if_neg (by simp), k84]
      · rw [gi_ui, if_neg (by simp [n4]), gi_ui, if_neg (by simp [n2]), k84]
    · refine b2 (Or.inr (Or.inr (Or.inr ?_)))
      split at hx10'
      · rename_i z; exact z
      · rw [hx10'] at q4; exact absurd q4 (by decide)
theorem sp_X9_asks : Sp yX9_asks cX9_asks 2 (some .int) 1 S_X9_asks := by
  refine sp_of (by decide) (fun av μ P h => ?_) ?_
  · obtain ⟨p1, rfl, -⟩ := h
    refine ⟨Nat.le_of_ble_eq_true rfl, fun v hv => ?_⟩
    simp only [List.mem_cons, List.not_mem_nil, or_false] at hv
    rcases hv with rfl | rfl <;> rfl
  · rintro X P hO _ μ ⟨p1, rfl, hpre, hpost⟩ hn
    exact wk_X9_asks_0 hO hn p1  μ hpost (vp_X9_asks_0 p1  μ hpre)
def S_X8_undo : Tr := fun av μ P => av = [.ref 0] ∧ pre_X8_undo  μ ∧ ∀ (x : Int32) (m : Mem), post_X8_undo  μ x m → P (some (.int x)) m
def vc_X8_undo_0   (μ : Mem) (R : Int32 → Mem → Prop)  : Prop :=
  ((¬ (gi μ 20 2) = 0 → (pre_X5_restore  μ ∧ ∀ (μ3 : Mem), post_X5_restore  μ μ3 → R (gi μ3 20 2) μ3)) ∧ ((gi μ 20 2) = 0 → R ((-2)) μ))
set_option maxRecDepth 20000 in
set_option maxHeartbeats 4000000 in
theorem wk_X8_undo_0 {X : XT} {P : Post} (hO : OkM X cX8_undo RX8 4 (some .int) P) (hn : xn X = 1)    (μ : Mem) {R : Int32 → Mem → Prop} (hR : ∀ x m, R x m → P (some (.int x)) m)    (h : vc_X8_undo_0   μ R ) : V X 0 [some (.ref 0)] [] μ := by
  have hX := hO.1
  unfold vc_X8_undo_0 at h
  refine v_aload_n hX dX8_undo_0 rfl (?_ : V X 1 [some (.ref 0)] [.ref 0] μ)
  refine v_getr hX (20) fk_X8_36 sh_0 rfl rfl dX8_undo_1 (?_ : V X 4 [some (.ref 0)] [.ref 20] μ)
  refine v_geti hX fk_X8_165 sh_20 rfl dX8_undo_4 (?_ : V X 7 [some (.ref 0)] [.int (gi μ 20 2)] μ)
  refine v_if_ne hX 13 dX8_undo_7 rfl (fun c1 => ?_) (fun c1 => ?_)
  · replace h := h.1 c1
    refine v_aload_n hX dX8_undo_13 rfl (?_ : V X 14 [some (.ref 0)] [.ref 0] μ)
    refine v_getr hX (20) fk_X8_36 sh_0 rfl rfl dX8_undo_14 (?_ : V X 17 [some (.ref 0)] [.ref 20] μ)
    refine v_aload_n hX dX8_undo_17 rfl (?_ : V X 18 [some (.ref 0)] [.ref 0, .ref 20] μ)
    refine v_getr hX (17) fk_X8_29 sh_0 rfl rfl dX8_undo_18 (?_ : V X 21 [some (.ref 0)] [.ref 17, .ref 20] μ)
    refine v_callV hX sp_X5_restore ck_X5_restore mk_X8_181 mv_X5_restore sh_20 (by decide) (by decide) [.ref 17] [] rfl rfl (Nat.le_of_ble_eq_true rfl) dX8_undo_21 ⟨rfl, h.1, fun μ3 hp4 => (?_ : V X 24 [some (.ref 0)] [] μ3)⟩
    replace h := h.2 μ3 hp4
    refine v_aload_n hX dX8_undo_24 rfl (?_ : V X 25 [some (.ref 0)] [.ref 0] μ3)
    refine v_getr hX (20) fk_X8_36 sh_0 rfl rfl dX8_undo_25 (?_ : V X 28 [some (.ref 0)] [.ref 20] μ3)
    refine v_geti hX fk_X8_165 sh_20 rfl dX8_undo_28 (?_ : V X 31 [some (.ref 0)] [.int (gi μ3 20 2)] μ3)
    exact v_iret hO dX8_undo_31 (hR _ _ h)
  · replace h := h.2 c1
    refine v_bipush hX (-2) dX8_undo_10 rfl (?_ : V X 12 [some (.ref 0)] [.int ((-2))] μ)
    exact v_iret hO dX8_undo_12 (hR _ _ h)
set_option maxRecDepth 20000 in
set_option maxHeartbeats 4000000 in
theorem vp_X8_undo_0   (μ : Mem) (hpre : pre_X8_undo  μ) : vc_X8_undo_0  μ (post_X8_undo  μ)  := by
  unfold vc_X8_undo_0
  obtain ⟨h1, h2⟩ := hpre
  have hb := h2.2
  have e0 : gi μ 20 2 = 0 ↔ gn μ 20 2 = 0 := by
    rw [← nI_eq (a := gn μ 20 2) (b := 0) (by omega) (by omega), ← h2.1]; rfl
  rw [e0]
  refine ⟨fun c => ⟨⟨h1, h2, by omega⟩, fun m hp => ?_⟩, fun c => ?_⟩
  · unfold post_X8_undo
    rw [if_neg c]
    exact ⟨hp.2.2.2, hp⟩
  · unfold post_X8_undo
    rw [if_pos c]; exact ⟨rfl, rfl⟩
theorem sp_X8_undo : Sp yX8_undo cX8_undo 1 (some .int) 4 S_X8_undo := by
  refine sp_of (by decide) (fun av μ P h => ?_) ?_
  · obtain ⟨rfl, -⟩ := h
    refine ⟨Nat.le_of_ble_eq_true rfl, fun v hv => ?_⟩
    simp only [List.mem_cons, List.not_mem_nil, or_false] at hv
    subst hv; rfl
  · rintro X P hO _ μ ⟨rfl, hpre, hpost⟩ hn
    exact wk_X8_undo_0 hO hn   μ hpost (vp_X8_undo_0   μ hpre)
def S_X9_undo : Tr := fun av μ P => av = [.ref 75] ∧ pre_X9_undo  μ ∧ ∀ (x : Int32) (m : Mem), post_X9_undo  μ x m → P (some (.int x)) m
def vc_X9_undo_0   (μ : Mem) (R : Int32 → Mem → Prop) (J27 : Int32 → Mem → Prop) : Prop :=
  (∀ μ1, μ1 = ui μ 75 0 0 → ((¬ (gi μ1 75 21) = 0 → (∀ μ4, μ4 = ui μ1 75 21 ((gi μ1 75 21) - 1) → J27 0 μ4)) ∧ ((gi μ1 75 21) = 0 → R ((-2)) μ1)))
set_option maxRecDepth 20000 in
set_option maxHeartbeats 4000000 in
theorem wk_X9_undo_0 {X : XT} {P : Post} (hO : OkM X cX9_undo RX9 0 (some .int) P) (hn : xn X = 2)    (μ : Mem) {R : Int32 → Mem → Prop} (hR : ∀ x m, R x m → P (some (.int x)) m) {J27 : Int32 → Mem → Prop} (hJ27 : ∀ (l1 : Int32) (m : Mem), J27 l1 m → V X 27 [some (.ref 75), some (.int l1)] [] m)  (h : vc_X9_undo_0   μ R J27) : V X 0 [some (.ref 75), none] [] μ := by
  have hX := hO.1
  unfold vc_X9_undo_0 at h
  refine v_aload_n hX dX9_undo_0 rfl (?_ : V X 1 [some (.ref 75), none] [.ref 75] μ)
  refine v_iconst hX 0 dX9_undo_1 rfl (?_ : V X 2 [some (.ref 75), none] [.int 0, .ref 75] μ)
  refine w_puti hX fk_X9_74 fw_9_0 sh_75 rfl dX9_undo_2 (fun μ1 e2 => (?_ : V X 5 [some (.ref 75), none] [] μ1))
  replace h := h μ1 e2
  refine v_aload_n hX dX9_undo_5 rfl (?_ : V X 6 [some (.ref 75), none] [.ref 75] μ1)
  refine v_geti hX fk_X9_139 sh_75 rfl dX9_undo_6 (?_ : V X 9 [some (.ref 75), none] [.int (gi μ1 75 21)] μ1)
  refine v_if_ne hX 15 dX9_undo_9 rfl (fun c3 => ?_) (fun c3 => ?_)
  · replace h := h.1 c3
    refine v_aload_n hX dX9_undo_15 rfl (?_ : V X 16 [some (.ref 75), none] [.ref 75] μ1)
    refine v_dup hX dX9_undo_16 rfl (?_ : V X 17 [some (.ref 75), none] [.ref 75, .ref 75] μ1)
    refine v_geti hX fk_X9_139 sh_75 rfl dX9_undo_17 (?_ : V X 20 [some (.ref 75), none] [.int (gi μ1 75 21), .ref 75] μ1)
    refine v_iconst hX 1 dX9_undo_20 rfl (?_ : V X 21 [some (.ref 75), none] [.int 1, .int (gi μ1 75 21), .ref 75] μ1)
    refine v_isub hX dX9_undo_21 (?_ : V X 22 [some (.ref 75), none] [.int ((gi μ1 75 21) - 1), .ref 75] μ1)
    refine w_puti hX fk_X9_139 fw_9_21 sh_75 rfl dX9_undo_22 (fun μ4 e5 => (?_ : V X 25 [some (.ref 75), none] [] μ4))
    replace h := h μ4 e5
    refine v_iconst hX 0 dX9_undo_25 rfl (?_ : V X 26 [some (.ref 75), none] [.int 0] μ4)
    refine v_istore_n hX dX9_undo_26 (by rw [hn]; decide) (?_ : V X 27 [some (.ref 75), some (.int 0)] [] μ4)
    exact v_mask [true, true] (hJ27 _ _ h)
  · replace h := h.2 c3
    refine v_bipush hX (-2) dX9_undo_12 rfl (?_ : V X 14 [some (.ref 75), none] [.int ((-2))] μ1)
    exact v_iret hO dX9_undo_14 (hR _ _ h)
def vc_X9_undo_27  (l1 : Int32) (μ : Mem) (R : Int32 → Mem → Prop) (J27 : Int32 → Mem → Prop) : Prop :=
  ((15 ≤ l1 → R (gi μ 75 21) μ) ∧ (¬ 15 ≤ l1 → vp_in ((15 * (gi μ 75 21)) + l1) 150 ∧ vp_in l1 15 ∧ (∀ μ4, μ4 = ui μ 84 (Int32.toNatClampNeg l1) (gi μ 87 (Int32.toNatClampNeg ((15 * (gi μ 75 21)) + l1))) → J27 (l1 + 1) μ4)))
set_option maxRecDepth 20000 in
set_option maxHeartbeats 4000000 in
theorem wk_X9_undo_27 {X : XT} {P : Post} (hO : OkM X cX9_undo RX9 0 (some .int) P) (hn : xn X = 2)   (l1 : Int32) (μ : Mem) {R : Int32 → Mem → Prop} (hR : ∀ x m, R x m → P (some (.int x)) m) {J27 : Int32 → Mem → Prop} (hJ27 : ∀ (l1 : Int32) (m : Mem), J27 l1 m → V X 27 [some (.ref 75), some (.int l1)] [] m)  (h : vc_X9_undo_27  l1 μ R J27) : V X 27 [some (.ref 75), some (.int l1)] [] μ := by
  have hX := hO.1
  unfold vc_X9_undo_27 at h
  refine v_iload_n hX dX9_undo_27 rfl (?_ : V X 28 [some (.ref 75), some (.int l1)] [.int l1] μ)
  refine v_bipush hX 15 dX9_undo_28 rfl (?_ : V X 30 [some (.ref 75), some (.int l1)] [.int 15, .int l1] μ)
  refine v_icmp_ge hX 59 dX9_undo_30 rfl (fun c1 => ?_) (fun c1 => ?_)
  · replace h := h.1 c1
    refine v_aload_n hX dX9_undo_59 rfl (?_ : V X 60 [some (.ref 75), some (.int l1)] [.ref 75] μ)
    refine v_geti hX fk_X9_139 sh_75 rfl dX9_undo_60 (?_ : V X 63 [some (.ref 75), some (.int l1)] [.int (gi μ 75 21)] μ)
    exact v_iret hO dX9_undo_63 (hR _ _ h)
  · replace h := h.2 c1
    refine v_aload_n hX dX9_undo_33 rfl (?_ : V X 34 [some (.ref 75), some (.int l1)] [.ref 75] μ)
    refine v_getr hX (84) fk_X9_34 sh_75 rfl rfl dX9_undo_34 (?_ : V X 37 [some (.ref 75), some (.int l1)] [.ref 84] μ)
    refine v_iload_n hX dX9_undo_37 rfl (?_ : V X 38 [some (.ref 75), some (.int l1)] [.int l1, .ref 84] μ)
    refine v_aload_n hX dX9_undo_38 rfl (?_ : V X 39 [some (.ref 75), some (.int l1)] [.ref 75, .int l1, .ref 84] μ)
    refine v_getr hX (87) fk_X9_44 sh_75 rfl rfl dX9_undo_39 (?_ : V X 42 [some (.ref 75), some (.int l1)] [.ref 87, .int l1, .ref 84] μ)
    refine v_bipush hX 15 dX9_undo_42 rfl (?_ : V X 44 [some (.ref 75), some (.int l1)] [.int 15, .ref 87, .int l1, .ref 84] μ)
    refine v_aload_n hX dX9_undo_44 rfl (?_ : V X 45 [some (.ref 75), some (.int l1)] [.ref 75, .int 15, .ref 87, .int l1, .ref 84] μ)
    refine v_geti hX fk_X9_139 sh_75 rfl dX9_undo_45 (?_ : V X 48 [some (.ref 75), some (.int l1)] [.int (gi μ 75 21), .int 15, .ref 87, .int l1, .ref 84] μ)
    refine v_imul hX dX9_undo_48 (?_ : V X 49 [some (.ref 75), some (.int l1)] [.int (15 * (gi μ 75 21)), .ref 87, .int l1, .ref 84] μ)
    refine v_iload_n hX dX9_undo_49 rfl (?_ : V X 50 [some (.ref 75), some (.int l1)] [.int l1, .int (15 * (gi μ 75 21)), .ref 87, .int l1, .ref 84] μ)
    refine v_iadd hX dX9_undo_50 (?_ : V X 51 [some (.ref 75), some (.int l1)] [.int ((15 * (gi μ 75 21)) + l1), .ref 87, .int l1, .ref 84] μ)
    have hb2 := h.1
    replace h := h.2
    refine w_iald hX (Int32.toNatClampNeg ((15 * (gi μ 75 21)) + l1)) sh_87 hb2 rfl dX9_undo_51 (?_ : V X 52 [some (.ref 75), some (.int l1)] [.int (gi μ 87 (Int32.toNatClampNeg ((15 * (gi μ 75 21)) + l1))), .int l1, .ref 84] μ)
    have hb3 := h.1
    replace h := h.2
    refine w_iast hX (Int32.toNatClampNeg l1) sh_84 hb3 rfl dX9_undo_52 (fun μ4 e5 => (?_ : V X 53 [some (.ref 75), some (.int l1)] [] μ4))
    replace h := h μ4 e5
    refine v_iinc hX 1 dX9_undo_53 (by rw [hn]; decide) rfl rfl (?_ : V X 56 [some (.ref 75), some (.int (l1 + 1))] [] μ4)
    refine v_goto hX 27 dX9_undo_56 rfl (?_ : V X 27 [some (.ref 75), some (.int (l1 + 1))] [] μ4)
    exact v_mask [true, true] (hJ27 _ _ h)
set_option maxRecDepth 20000 in
set_option maxHeartbeats 4000000 in
theorem vp_X9_undo_0   (μ : Mem) (hpre : pre_X9_undo  μ) : vc_X9_undo_0  μ (post_X9_undo  μ) (fun l1 m => ∃ k : Nat, inv_X9_undo_27  μ k l1 m) := by
  simp only [vc_X9_undo_0, and_imp, call_eq, forall_eq, forall_const, true_and, and_true]
  unfold pre_X9_undo at hpre
  have hb := hpre.2
  rw [show gi (ui μ 75 0 0) 75 21 = gi μ 75 21 from rfl]
  have e0 : gi μ 75 21 = 0 ↔ gn μ 75 21 = 0 := by
    rw [← nI_eq (a := gn μ 75 21) (b := 0) (by omega) (by omega), ← hpre.1]; rfl
  rw [e0]
  refine ⟨fun c => ⟨15, 0, by omega, rfl, rfl, c, fr_trans (fr_ui (by simp)) (fr_ui (by simp)), fun k k0 k21 => ?_, ?_, fun k hk => absurd hk (Nat.not_lt_zero k)⟩, fun c => ?_⟩
  · rw [gi_ui, if_neg (by simp [k21]), gi_ui, if_neg (by simp [k0])]
  · rw [gi_ui, if_pos ⟨rfl, rfl⟩, hpre.1]
    obtain ⟨q, hq⟩ : ∃ q, gn μ 75 21 = q + 1 := ⟨gn μ 75 21 - 1, by omega⟩
    rw [hq, nI_pred]; rfl
  · unfold post_X9_undo
    rw [if_pos c]; exact ⟨rfl, rfl⟩
set_option maxRecDepth 20000 in
set_option maxHeartbeats 4000000 in
theorem vp_X9_undo_27   (μ : Mem) (hpre : pre_X9_undo  μ) (n : Nat) (l1 : Int32) (μ0 : Mem) (hi : inv_X9_undo_27  μ n l1 μ0) : vc_X9_undo_27  l1 μ0 (post_X9_undo  μ) (fun l1 m => ∃ k : Nat, k < n ∧ inv_X9_undo_27  μ k l1 m) := by
  simp only [vc_X9_undo_27, and_imp, call_eq, forall_eq, forall_const, true_and, and_true]
  unfold pre_X9_undo at hpre
  have hb := hpre.2
  obtain ⟨i, hi1, rfl, rfl, hne, hf, h1, h2, h3⟩ := hi
  have e15 : (15 * gi μ0 75 21) + nI i = nI (15 * (gn μ 75 21 - 1) + i) := by
    rw [h2, show (15 : Int32) = nI 15 from rfl, pk_mul, nI_add]
  rw [e15, show (15 : Int32) = nI 15 from rfl, nI_leI (by omega) (by omega), nI_clamp (by omega), nI_clamp (by omega)]
  refine ⟨fun c => ?_, fun c => ⟨vp_in_nI (by omega) (by omega), vp_in_nI (by omega) (by omega), 15 - (i + 1), by omega, i + 1, by omega, rfl, nI_1 i, hne, fr_trans hf (fr_ui (by simp)), fun k k0 k21 => ?_, ?_, fun k hk => ?_⟩⟩
  · have : i = 15 := by omega
    subst this
    unfold post_X9_undo
    rw [if_neg hne]
    exact ⟨h2, hf, h1, h2, h3⟩
  · rw [gi_ui, if_neg (by simp), h1 k k0 k21]
  · rw [gi_ui, if_neg (by simp), h2]
  · rw [gi_ui]
    by_cases e : k = i
    · rw [if_pos ⟨rfl, e⟩, e, hf.1 87 (by simp)]
    · rw [if_neg (by simp [e]), h3 k (by omega)]
theorem sp_X9_undo : Sp yX9_undo cX9_undo 2 (some .int) 0 S_X9_undo := by
  refine sp_of (by decide) (fun av μ P h => ?_) ?_
  · obtain ⟨rfl, -⟩ := h
    refine ⟨Nat.le_of_ble_eq_true rfl, fun v hv => ?_⟩
    simp only [List.mem_cons, List.not_mem_nil, or_false] at hv
    subst hv; rfl
  · rintro X P hO _ μ ⟨rfl, hpre, hpost⟩ hn
    have hJ : ∀ n : Nat, (∀ (l1 : Int32) (m : Mem), inv_X9_undo_27  μ n l1 m → V X 27 [some (.ref 75), some (.int l1)] [] m) := by
      intro n
      induction n using Nat.strongRecOn with
      | _ n ih =>
        exact fun l1 m hi => wk_X9_undo_27 (J27 := (fun l1 m => ∃ k : Nat, k < n ∧ inv_X9_undo_27  μ k l1 m)) hO hn   l1 m hpost (fun l1 m hk => by obtain ⟨k, hk, hi⟩ := hk; exact (ih k hk) l1 m hi) (vp_X9_undo_27   μ hpre n l1 m hi)
    exact wk_X9_undo_0 (J27 := (fun l1 m => ∃ k : Nat, inv_X9_undo_27  μ k l1 m)) hO hn   μ hpost (fun l1 m hk => by obtain ⟨k, hi⟩ := hk; exact (hJ k) l1 m hi) (vp_X9_undo_0   μ hpre)
def S_X8_keep : Tr := fun av μ P => ∃ (p1 : Int32), av = [.ref 0, .int p1] ∧ pre_X8_keep p1 μ ∧ ∀ (x : Int32) (m : Mem), post_X8_keep p1 μ x m → P (some (.int x)) m
def vc_X8_keep_0 (p1 : Int32)  (μ : Mem) (R : Int32 → Mem → Prop)  : Prop :=
  ((p1 < 0 → R ((-1)) μ) ∧ (¬ p1 < 0 → ((p1 < 2 → vp_in p1 2 ∧ (pre_X7_copyOf (52 + 1 + 3 * (Int32.toNatClampNeg p1)) 17 μ ∧ ∀ (μ5 : Mem), post_X7_copyOf (52 + 1 + 3 * (Int32.toNatClampNeg p1)) 17 μ μ5 → (∀ μ7, μ7 = ui μ5 0 6 ((gi μ5 0 6) ||| (1 <<< (p1 &&& 31))) → R (gi μ7 17 2) μ7))) ∧ (¬ p1 < 2 → R ((-1)) μ))))
set_option maxRecDepth 20000 in
set_option maxHeartbeats 4000000 in
theorem wk_X8_keep_0 {X : XT} {P : Post} (hO : OkM X cX8_keep RX8 3 (some .int) P) (hn : xn X = 2) (p1 : Int32)   (μ : Mem) {R : Int32 → Mem → Prop} (hR : ∀ x m, R x m → P (some (.int x)) m)    (h : vc_X8_keep_0 p1  μ R ) : V X 0 [some (.ref 0), some (.int p1)] [] μ := by
  have hX := hO.1
  unfold vc_X8_keep_0 at h
  refine v_iload_n hX dX8_keep_0 rfl (?_ : V X 1 [some (.ref 0), some (.int p1)] [.int p1] μ)
  refine v_if_lt hX 9 dX8_keep_1 rfl (fun c1 => ?_) (fun c1 => ?_)
  · replace h := h.1 c1
    refine v_iconst hX (-1) dX8_keep_9 rfl (?_ : V X 10 [some (.ref 0), some (.int p1)] [.int ((-1))] μ)
    exact v_iret hO dX8_keep_10 (hR _ _ h)
  · replace h := h.2 c1
    refine v_iload_n hX dX8_keep_4 rfl (?_ : V X 5 [some (.ref 0), some (.int p1)] [.int p1] μ)
    refine v_iconst hX 2 dX8_keep_5 rfl (?_ : V X 6 [some (.ref 0), some (.int p1)] [.int 2, .int p1] μ)
    refine v_icmp_lt hX 11 dX8_keep_6 rfl (fun c2 => ?_) (fun c2 => ?_)
    · replace h := h.1 c2
      refine v_aload_n hX dX8_keep_11 rfl (?_ : V X 12 [some (.ref 0), some (.int p1)] [.ref 0] μ)
      refine v_getr hX (52) fk_X8_40 sh_0 rfl rfl dX8_keep_12 (?_ : V X 15 [some (.ref 0), some (.int p1)] [.ref 52] μ)
      refine v_iload_n hX dX8_keep_15 rfl (?_ : V X 16 [some (.ref 0), some (.int p1)] [.int p1, .ref 52] μ)
      have hb3 := h.1
      replace h := h.2
      refine v_aald hX sh_52 hb3 dX8_keep_16 (?_ : V X 17 [some (.ref 0), some (.int p1)] [.ref (52 + 1 + 3 * (Int32.toNatClampNeg p1))] μ)
      refine v_aload_n hX dX8_keep_17 rfl (?_ : V X 18 [some (.ref 0), some (.int p1)] [.ref 0, .ref (52 + 1 + 3 * (Int32.toNatClampNeg p1))] μ)
      refine v_getr hX (17) fk_X8_29 sh_0 rfl rfl dX8_keep_18 (?_ : V X 21 [some (.ref 0), some (.int p1)] [.ref 17, .ref (52 + 1 + 3 * (Int32.toNatClampNeg p1))] μ)
      refine v_callV hX sp_X7_copyOf ck_X7_copyOf mk_X8_262 mv_X7_copyOf (sc_img hb3).1 (by decide) (by decide) [.ref 17] [] rfl rfl (Nat.le_of_ble_eq_true rfl) dX8_keep_21 ⟨(52 + 1 + 3 * (Int32.toNatClampNeg p1)), 17, rfl, (sc_img hb3), sc_17, h.1, fun μ5 hp6 => (?_ : V X 24 [some (.ref 0), some (.int p1)] [] μ5)⟩
      replace h := h.2 μ5 hp6
      refine v_aload_n hX dX8_keep_24 rfl (?_ : V X 25 [some (.ref 0), some (.int p1)] [.ref 0] μ5)
      refine v_dup hX dX8_keep_25 rfl (?_ : V X 26 [some (.ref 0), some (.int p1)] [.ref 0, .ref 0] μ5)
      refine v_geti hX fk_X8_44 sh_0 rfl dX8_keep_26 (?_ : V X 29 [some (.ref 0), some (.int p1)] [.int (gi μ5 0 6), .ref 0] μ5)
      refine v_iconst hX 1 dX8_keep_29 rfl (?_ : V X 30 [some (.ref 0), some (.int p1)] [.int 1, .int (gi μ5 0 6), .ref 0] μ5)
      refine v_iload_n hX dX8_keep_30 rfl (?_ : V X 31 [some (.ref 0), some (.int p1)] [.int p1, .int 1, .int (gi μ5 0 6), .ref 0] μ5)
      refine v_ishl hX dX8_keep_31 (?_ : V X 32 [some (.ref 0), some (.int p1)] [.int (1 <<< (p1 &&& 31)), .int (gi μ5 0 6), .ref 0] μ5)
      refine v_ior hX dX8_keep_32 (?_ : V X 33 [some (.ref 0), some (.int p1)] [.int ((gi μ5 0 6) ||| (1 <<< (p1 &&& 31))), .ref 0] μ5)
      refine w_puti hX fk_X8_44 fw_8_6 sh_0 rfl dX8_keep_33 (fun μ7 e8 => (?_ : V X 36 [some (.ref 0), some (.int p1)] [] μ7))
      replace h := h μ7 e8
      refine v_aload_n hX dX8_keep_36 rfl (?_ : V X 37 [some (.ref 0), some (.int p1)] [.ref 0] μ7)
      refine v_getr hX (17) fk_X8_29 sh_0 rfl rfl dX8_keep_37 (?_ : V X 40 [some (.ref 0), some (.int p1)] [.ref 17] μ7)
      refine v_geti hX fk_X8_149 sh_17 rfl dX8_keep_40 (?_ : V X 43 [some (.ref 0), some (.int p1)] [.int (gi μ7 17 2)] μ7)
      exact v_iret hO dX8_keep_43 (hR _ _ h)
    · replace h := h.2 c2
      refine v_iconst hX (-1) dX8_keep_9 rfl (?_ : V X 10 [some (.ref 0), some (.int p1)] [.int ((-1))] μ)
      exact v_iret hO dX8_keep_10 (hR _ _ h)
set_option maxRecDepth 20000 in
set_option maxHeartbeats 4000000 in
theorem vp_X8_keep_0 (p1 : Int32)  (μ : Mem) (hpre : pre_X8_keep p1 μ) : vc_X8_keep_0 p1 μ (post_X8_keep p1 μ)  := by
  unfold vc_X8_keep_0
  have b1 : (p1 < 0 ∨ 2 ≤ p1) → post_X8_keep p1 μ (-1) μ := by
    intro q; unfold post_X8_keep; rw [if_pos q]; exact ⟨rfl, rfl⟩
  refine ⟨fun c => b1 (Or.inl c), fun c => ⟨fun c2 => ?_, fun c2 => b1 (Or.inr (nlt_le c2))⟩⟩
  have nc : ¬ (p1 < 0 ∨ 2 ≤ p1) := by rintro (z | z); exact c z; exact absurd c2 (by simpa using z)
  obtain ⟨e, he⟩ := nn_of (nlt_le c)
  have hj : p1.toNatClampNeg < 2 := by
    rw [e, show (2 : Int32) = nI 2 from rfl, nI_ltI he (by omega)] at c2; exact c2
  refine ⟨by rw [e]; exact vp_in_nI hj (by omega), by unfold pre_X7_copyOf; omega, ?_⟩
  rintro m ⟨hf, hc⟩ _ rfl
  unfold post_X8_keep
  rw [if_neg nc]
  have e53 : 52 + 1 + 3 * p1.toNatClampNeg = 53 + 3 * p1.toNatClampNeg := rfl
  rw [e53] at hf hc
  generalize p1.toNatClampNeg = j at *
  have n17 : gi m 17 2 = gi μ 17 2 := hf.1 17 (by simp; omega) 2
  have n0 : gi m 0 6 = gi μ 0 6 := hf.1 0 (by simp; omega) 6
  refine ⟨?_, fr_trans (fr_mono hf (by simp)) (fr_ui (by simp)), ⟨fun k hk => ?_, fun k hk => ?_, fun k hk => ?_⟩, ?_⟩
  · rw [gi_ui, if_neg (by simp), n17]
  · rw [gi_ui, if_neg (by omega), hc.1 k hk]
  · rw [gi_ui, if_neg (by omega), hc.2.1 k hk]
  · rw [gi_ui, if_neg (by omega), hc.2.2 k hk]
  · rw [gi_ui, if_pos ⟨rfl, rfl⟩, n0]
theorem sp_X8_keep : Sp yX8_keep cX8_keep 2 (some .int) 3 S_X8_keep := by
  refine sp_of (by decide) (fun av μ P h => ?_) ?_
  · obtain ⟨p1, rfl, -⟩ := h
    refine ⟨Nat.le_of_ble_eq_true rfl, fun v hv => ?_⟩
    simp only [List.mem_cons, List.not_mem_nil, or_false] at hv
    rcases hv with rfl | rfl <;> rfl
  · rintro X P hO _ μ ⟨p1, rfl, hpre, hpost⟩ hn
    exact wk_X8_keep_0 hO hn p1  μ hpost (vp_X8_keep_0 p1  μ hpre)
def S_X8_back : Tr := fun av μ P => ∃ (p1 : Int32), av = [.ref 0, .int p1] ∧ pre_X8_back p1 μ ∧ ∀ (x : Int32) (m : Mem), post_X8_back p1 μ x m → P (some (.int x)) m
def vc_X8_back_0 (p1 : Int32)  (μ : Mem) (R : Int32 → Mem → Prop)  : Prop :=
  ((p1 < 0 → R ((-1)) μ) ∧ (¬ p1 < 0 → ((p1 < 2 → ((¬ (((gi μ 0 6) >>> (p1 &&& 31)) &&& 1) = 0 → vp_in p1 2 ∧ (pre_X7_copyOf 17 (52 + 1 + 3 * (Int32.toNatClampNeg p1)) μ ∧ ∀ (μ6 : Mem), post_X7_copyOf 17 (52 + 1 + 3 * (Int32.toNatClampNeg p1)) μ μ6 → (pre_X5_lose  μ6 ∧ ∀ (μ9 : Mem), post_X5_lose  μ6 μ9 → R (gi μ9 17 2) μ9))) ∧ ((((gi μ 0 6) >>> (p1 &&& 31)) &&& 1) = 0 → R ((-2)) μ))) ∧ (¬ p1 < 2 → R ((-1)) μ))))
set_option maxRecDepth 20000 in
set_option maxHeartbeats 4000000 in
theorem wk_X8_back_0 {X : XT} {P : Post} (hO : OkM X cX8_back RX8 3 (some .int) P) (hn : xn X = 2) (p1 : Int32)   (μ : Mem) {R : Int32 → Mem → Prop} (hR : ∀ x m, R x m → P (some (.int x)) m)    (h : vc_X8_back_0 p1  μ R ) : V X 0 [some (.ref 0), some (.int p1)] [] μ := by
  have hX := hO.1
  unfold vc_X8_back_0 at h
  refine v_iload_n hX dX8_back_0 rfl (?_ : V X 1 [some (.ref 0), some (.int p1)] [.int p1] μ)
  refine v_if_lt hX 9 dX8_back_1 rfl (fun c1 => ?_) (fun c1 => ?_)
  · replace h := h.1 c1
    refine v_iconst hX (-1) dX8_back_9 rfl (?_ : V X 10 [some (.ref 0), some (.int p1)] [.int ((-1))] μ)
    exact v_iret hO dX8_back_10 (hR _ _ h)
  · replace h := h.2 c1
    refine v_iload_n hX dX8_back_4 rfl (?_ : V X 5 [some (.ref 0), some (.int p1)] [.int p1] μ)
    refine v_iconst hX 2 dX8_back_5 rfl (?_ : V X 6 [some (.ref 0), some (.int p1)] [.int 2, .int p1] μ)
    refine v_icmp_lt hX 11 dX8_back_6 rfl (fun c2 => ?_) (fun c2 => ?_)
    · replace h := h.1 c2
      refine v_aload_n hX dX8_back_11 rfl (?_ : V X 12 [some (.ref 0), some (.int p1)] [.ref 0] μ)
      refine v_geti hX fk_X8_44 sh_0 rfl dX8_back_12 (?_ : V X 15 [some (.ref 0), some (.int p1)] [.int (gi μ 0 6)] μ)
      refine v_iload_n hX dX8_back_15 rfl (?_ : V X 16 [some (.ref 0), some (.int p1)] [.int p1, .int (gi μ 0 6)] μ)
      refine v_ishr hX dX8_back_16 (?_ : V X 17 [some (.ref 0), some (.int p1)] [.int ((gi μ 0 6) >>> (p1 &&& 31))] μ)
      refine v_iconst hX 1 dX8_back_17 rfl (?_ : V X 18 [some (.ref 0), some (.int p1)] [.int 1, .int ((gi μ 0 6) >>> (p1 &&& 31))] μ)
      refine v_iand hX dX8_back_18 (?_ : V X 19 [some (.ref 0), some (.int p1)] [.int (((gi μ 0 6) >>> (p1 &&& 31)) &&& 1)] μ)
      refine v_if_ne hX 25 dX8_back_19 rfl (fun c3 => ?_) (fun c3 => ?_)
      · replace h := h.1 c3
        refine v_aload_n hX dX8_back_25 rfl (?_ : V X 26 [some (.ref 0), some (.int p1)] [.ref 0] μ)
        refine v_getr hX (17) fk_X8_29 sh_0 rfl rfl dX8_back_26 (?_ : V X 29 [some (.ref 0), some (.int p1)] [.ref 17] μ)
        refine v_aload_n hX dX8_back_29 rfl (?_ : V X 30 [some (.ref 0), some (.int p1)] [.ref 0, .ref 17] μ)
        refine v_getr hX (52) fk_X8_40 sh_0 rfl rfl dX8_back_30 (?_ : V X 33 [some (.ref 0), some (.int p1)] [.ref 52, .ref 17] μ)
        refine v_iload_n hX dX8_back_33 rfl (?_ : V X 34 [some (.ref 0), some (.int p1)] [.int p1, .ref 52, .ref 17] μ)
        have hb4 := h.1
        replace h := h.2
        refine v_aald hX sh_52 hb4 dX8_back_34 (?_ : V X 35 [some (.ref 0), some (.int p1)] [.ref (52 + 1 + 3 * (Int32.toNatClampNeg p1)), .ref 17] μ)
        refine v_callV hX sp_X7_copyOf ck_X7_copyOf mk_X8_262 mv_X7_copyOf sh_17 (by decide) (by decide) [.ref (52 + 1 + 3 * (Int32.toNatClampNeg p1))] [] rfl rfl (Nat.le_of_ble_eq_true rfl) dX8_back_35 ⟨17, (52 + 1 + 3 * (Int32.toNatClampNeg p1)), rfl, sc_17, (sc_img hb4), h.1, fun μ6 hp7 => (?_ : V X 38 [some (.ref 0), some (.int p1)] [] μ6)⟩
        replace h := h.2 μ6 hp7
        refine v_aload_n hX dX8_back_38 rfl (?_ : V X 39 [some (.ref 0), some (.int p1)] [.ref 0] μ6)
        refine v_getr hX (20) fk_X8_36 sh_0 rfl rfl dX8_back_39 (?_ : V X 42 [some (.ref 0), some (.int p1)] [.ref 20] μ6)
        refine v_callV hX sp_X5_lose ck_X5_lose mk_X8_102 mv_X5_lose sh_20 (by decide) (by decide) [] [] rfl rfl (Nat.le_of_ble_eq_true rfl) dX8_back_42 ⟨rfl, h.1, fun μ9 hp10 => (?_ : V X 45 [some (.ref 0), some (.int p1)] [] μ9)⟩
        replace h := h.2 μ9 hp10
        refine v_aload_n hX dX8_back_45 rfl (?_ : V X 46 [some (.ref 0), some (.int p1)] [.ref 0] μ9)
        refine v_getr hX (17) fk_X8_29 sh_0 rfl rfl dX8_back_46 (?_ : V X 49 [some (.ref 0), some (.int p1)] [.ref 17] μ9)
        refine v_geti hX fk_X8_149 sh_17 rfl dX8_back_49 (?_ : V X 52 [some (.ref 0), some (.int p1)] [.int (gi μ9 17 2)] μ9)
        exact v_iret hO dX8_back_52 (hR _ _ h)
      · replace h := h.2 c3
        refine v_bipush hX (-2) dX8_back_22 rfl (?_ : V X 24 [some (.ref 0), some (.int p1)] [.int ((-2))] μ)
        exact v_iret hO dX8_back_24 (hR _ _ h)
    · replace h := h.2 c2
      refine v_iconst hX (-1) dX8_back_9 rfl (?_ : V X 10 [some (.ref 0), some (.int p1)] [.int ((-1))] μ)
      exact v_iret hO dX8_back_10 (hR _ _ h)
set_option maxRecDepth 20000 in
set_option maxHeartbeats 4000000 in
theorem vp_X8_back_0 (p1 : Int32)  (μ : Mem) (hpre : pre_X8_back p1 μ) : vc_X8_back_0 p1 μ (post_X8_back p1 μ)  := by
  unfold vc_X8_back_0
  have b1 : (p1 < 0 ∨ 2 ≤ p1) → post_X8_back p1 μ (-1) μ := by
    intro q; unfold post_X8_back; rw [if_pos q]; exact ⟨rfl, rfl⟩
  refine ⟨fun c => b1 (Or.inl c), fun c => ⟨fun c2 => ?_, fun c2 => b1 (Or.inr (nlt_le c2))⟩⟩
  have nc : ¬ (p1 < 0 ∨ 2 ≤ p1) := by rintro (z | z); exact c z; exact absurd c2 (by simpa using z)
  obtain ⟨e, he⟩ := nn_of (nlt_le c)
  have hj : p1.toNatClampNeg < 2 := by
    rw [e, show (2 : Int32) = nI 2 from rfl, nI_ltI he (by omega)] at c2; exact c2
  refine ⟨fun c3 => ⟨by rw [e]; exact vp_in_nI hj (by omega), by unfold pre_X7_copyOf; omega, ?_⟩, fun c3 => ?_⟩
  · rintro m ⟨hf, hc⟩
    refine ⟨trivial, ?_⟩
    rintro _ rfl
    unfold post_X8_back
    have c3' : ¬ slvI (gi μ 0 6) p1 = 0 := c3
    rw [if_neg nc, if_neg c3']
    have e53 : 52 + 1 + 3 * p1.toNatClampNeg = 53 + 3 * p1.toNatClampNeg := rfl
    rw [e53] at hc
    generalize p1.toNatClampNeg = j at *
    refine ⟨rfl, fr_trans (fr_mono hf (by simp)) (fr_ui (by simp)), ⟨fun k hk => ?_, fun k hk => ?_, fun k hk => ?_⟩, ?_, ?_⟩
    · rw [gi_ui, if_neg (by simp), hc.1 k hk]
    · rw [gi_ui, if_neg (by simp), hc.2.1 k hk]
    · rw [gi_ui, if_neg (by simp), hc.2.2 k hk]
    · rw [gi_ui, if_neg (by simp), hf.1 20 (by simp)]
    · rw [gi_ui, if_pos ⟨rfl, rfl⟩]
  · unfold post_X8_back
    have c3' : slvI (gi μ 0 6) p1 = 0 := c3
    rw [if_neg nc, if_pos c3']; exact ⟨rfl, rfl⟩
theorem sp_X8_back : Sp yX8_back cX8_back 2 (some .int) 3 S_X8_back := by
  refine sp_of (by decide) (fun av μ P h => ?_) ?_
  · obtain ⟨p1, rfl, -⟩ := h
    refine ⟨Nat.le_of_ble_eq_true rfl, fun v hv => ?_⟩
    simp only [List.mem_cons, List.not_mem_nil, or_false] at hv
    rcases hv with rfl | rfl <;> rfl
  · rintro X P hO _ μ ⟨p1, rfl, hpre, hpost⟩ hn
    exact wk_X8_back_0 hO hn p1  μ hpost (vp_X8_back_0 p1  μ hpre)
def S_X9_keep : Tr := fun av μ P => ∃ (p1 : Int32), av = [.ref 75, .int p1] ∧ pre_X9_keep p1 μ ∧ ∀ (x : Int32) (m : Mem), post_X9_keep p1 μ x m → P (some (.int x)) m
def vc_X9_keep_0 (p1 : Int32)  (μ : Mem) (R : Int32 → Mem → Prop) (J18 : Int32 → Mem → Prop) : Prop :=
  (∀ μ1, μ1 = ui μ 75 0 0 → (pre_X9_in p1 0 1 μ1 ∧ ∀ (x3 : Int32) (μ4 : Mem), post_X9_in p1 0 1 μ1 x3 μ4 → ((¬ x3 = 0 → J18 0 μ4) ∧ (x3 = 0 → R ((-1)) μ4))))
set_option maxRecDepth 20000 in
set_option maxHeartbeats 4000000 in
theorem wk_X9_keep_0 {X : XT} {P : Post} (hO : OkM X cX9_keep RX9 1 (some .int) P) (hn : xn X = 3) (p1 : Int32)   (μ : Mem) {R : Int32 → Mem → Prop} (hR : ∀ x m, R x m → P (some (.int x)) m) {J18 : Int32 → Mem → Prop} (hJ18 : ∀ (l2 : Int32) (m : Mem), J18 l2 m → V X 18 [some (.ref 75), some (.int p1), some (.int l2)] [] m)  (h : vc_X9_keep_0 p1  μ R J18) : V X 0 [some (.ref 75), some (.int p1), none] [] μ := by
  have hX := hO.1
  unfold vc_X9_keep_0 at h
  refine v_aload_n hX dX9_keep_0 rfl (?_ : V X 1 [some (.ref 75), some (.int p1), none] [.ref 75] μ)
  refine v_iconst hX 0 dX9_keep_1 rfl (?_ : V X 2 [some (.ref 75), some (.int p1), none] [.int 0, .ref 75] μ)
  refine w_puti hX fk_X9_74 fw_9_0 sh_75 rfl dX9_keep_2 (fun μ1 e2 => (?_ : V X 5 [some (.ref 75), some (.int p1), none] [] μ1))
  replace h := h μ1 e2
  refine v_iload_n hX dX9_keep_5 rfl (?_ : V X 6 [some (.ref 75), some (.int p1), none] [.int p1] μ1)
  refine v_iconst hX 0 dX9_keep_6 rfl (?_ : V X 7 [some (.ref 75), some (.int p1), none] [.int 0, .int p1] μ1)
  refine v_iconst hX 1 dX9_keep_7 rfl (?_ : V X 8 [some (.ref 75), some (.int p1), none] [.int 1, .int 0, .int p1] μ1)
  refine v_callS hX sp_X9_in ck_X9_in mk_X9_78 sk_X9_in (by decide) [.int p1, .int 0, .int 1] [] rfl rfl (Nat.le_of_ble_eq_true rfl) dX9_keep_8 ⟨p1, 0, 1, rfl, h.1, fun x3 μ4 hp5 => (?_ : V X 11 [some (.ref 75), some (.int p1), none] [.int x3] μ4)⟩
  replace h := h.2 x3 μ4 hp5
  refine v_if_ne hX 16 dX9_keep_11 rfl (fun c6 => ?_) (fun c6 => ?_)
  · replace h := h.1 c6
    refine v_iconst hX 0 dX9_keep_16 rfl (?_ : V X 17 [some (.ref 75), some (.int p1), none] [.int 0] μ4)
    refine v_istore_n hX dX9_keep_17 (by rw [hn]; decide) (?_ : V X 18 [some (.ref 75), some (.int p1), some (.int 0)] [] μ4)
    exact v_mask [true, true, true] (hJ18 _ _ h)
  · replace h := h.2 c6
    refine v_iconst hX (-1) dX9_keep_14 rfl (?_ : V X 15 [some (.ref 75), some (.int p1), none] [.int ((-1))] μ4)
    exact v_iret hO dX9_keep_15 (hR _ _ h)
def vc_X9_keep_18 (p1 : Int32) (l2 : Int32) (μ : Mem) (R : Int32 → Mem → Prop) (J18 : Int32 → Mem → Prop) : Prop :=
  ((15 ≤ l2 → vp_in p1 2 ∧ (∀ μ3, μ3 = ui μ 86 (Int32.toNatClampNeg p1) 1 → R (gi μ3 84 2) μ3)) ∧ (¬ 15 ≤ l2 → vp_in l2 15 ∧ vp_in ((15 * p1) + l2) 30 ∧ (∀ μ7, μ7 = ui μ 85 (Int32.toNatClampNeg ((15 * p1) + l2)) (gi μ 84 (Int32.toNatClampNeg l2)) → J18 (l2 + 1) μ7)))
set_option maxRecDepth 20000 in
set_option maxHeartbeats 4000000 in
theorem wk_X9_keep_18 {X : XT} {P : Post} (hO : OkM X cX9_keep RX9 1 (some .int) P) (hn : xn X = 3) (p1 : Int32)  (l2 : Int32) (μ : Mem) {R : Int32 → Mem → Prop} (hR : ∀ x m, R x m → P (some (.int x)) m) {J18 : Int32 → Mem → Prop} (hJ18 : ∀ (l2 : Int32) (m : Mem), J18 l2 m → V X 18 [some (.ref 75), some (.int p1), some (.int l2)] [] m)  (h : vc_X9_keep_18 p1 l2 μ R J18) : V X 18 [some (.ref 75), some (.int p1), some (.int l2)] [] μ := by
  have hX := hO.1
  unfold vc_X9_keep_18 at h
  refine v_iload_n hX dX9_keep_18 rfl (?_ : V X 19 [some (.ref 75), some (.int p1), some (.int l2)] [.int l2] μ)
  refine v_bipush hX 15 dX9_keep_19 rfl (?_ : V X 21 [some (.ref 75), some (.int p1), some (.int l2)] [.int 15, .int l2] μ)
  refine v_icmp_ge hX 47 dX9_keep_21 rfl (fun c1 => ?_) (fun c1 => ?_)
  · replace h := h.1 c1
    refine v_aload_n hX dX9_keep_47 rfl (?_ : V X 48 [some (.ref 75), some (.int p1), some (.int l2)] [.ref 75] μ)
    refine v_getr hX (86) fk_X9_40 sh_75 rfl rfl dX9_keep_48 (?_ : V X 51 [some (.ref 75), some (.int p1), some (.int l2)] [.ref 86] μ)
    refine v_iload_n hX dX9_keep_51 rfl (?_ : V X 52 [some (.ref 75), some (.int p1), some (.int l2)] [.int p1, .ref 86] μ)
    refine v_iconst hX 1 dX9_keep_52 rfl (?_ : V X 53 [some (.ref 75), some (.int p1), some (.int l2)] [.int 1, .int p1, .ref 86] μ)
    have hb2 := h.1
    replace h := h.2
    refine w_bast hX (Int32.toNatClampNeg p1) sh_86 hb2 rfl (by decide) dX9_keep_53 (fun μ3 e4 => (?_ : V X 54 [some (.ref 75), some (.int p1), some (.int l2)] [] μ3))
    replace h := h μ3 e4
    refine v_aload_n hX dX9_keep_54 rfl (?_ : V X 55 [some (.ref 75), some (.int p1), some (.int l2)] [.ref 75] μ3)
    refine v_getr hX (84) fk_X9_34 sh_75 rfl rfl dX9_keep_55 (?_ : V X 58 [some (.ref 75), some (.int p1), some (.int l2)] [.ref 84] μ3)
    refine v_iconst hX 2 dX9_keep_58 rfl (?_ : V X 59 [some (.ref 75), some (.int p1), some (.int l2)] [.int 2, .ref 84] μ3)
    refine w_iald hX 2 sh_84 (vp_lit (by decide)) (by decide) dX9_keep_59 (?_ : V X 60 [some (.ref 75), some (.int p1), some (.int l2)] [.int (gi μ3 84 2)] μ3)
    exact v_iret hO dX9_keep_60 (hR _ _ h)
  · replace h := h.2 c1
    refine v_aload_n hX dX9_keep_24 rfl (?_ : V X 25 [some (.ref 75), some (.int p1), some (.int l2)] [.ref 75] μ)
    refine v_getr hX (85) fk_X9_37 sh_75 rfl rfl dX9_keep_25 (?_ : V X 28 [some (.ref 75), some (.int p1), some (.int l2)] [.ref 85] μ)
    refine v_bipush hX 15 dX9_keep_28 rfl (?_ : V X 30 [some (.ref 75), some (.int p1), some (.int l2)] [.int 15, .ref 85] μ)
    refine v_iload_n hX dX9_keep_30 rfl (?_ : V X 31 [some (.ref 75), some (.int p1), some (.int l2)] [.int p1, .int 15, .ref 85] μ)
    refine v_imul hX dX9_keep_31 (?_ : V X 32 [some (.ref 75), some (.int p1), some (.int l2)] [.int (15 * p1), .ref 85] μ)
    refine v_iload_n hX dX9_keep_32 rfl (?_ : V X 33 [some (.ref 75), some (.int p1), some (.int l2)] [.int l2, .int (15 * p1), .ref 85] μ)
    refine v_iadd hX dX9_keep_33 (?_ : V X 34 [some (.ref 75), some (.int p1), some (.int l2)] [.int ((15 * p1) + l2), .ref 85] μ)
    refine v_aload_n hX dX9_keep_34 rfl (?_ : V X 35 [some (.ref 75), some (.int p1), some (.int l2)] [.ref 75, .int ((15 * p1) + l2), .ref 85] μ)
    refine v_getr hX (84) fk_X9_34 sh_75 rfl rfl dX9_keep_35 (?_ : V X 38 [some (.ref 75), some (.int p1), some (.int l2)] [.ref 84, .int ((15 * p1) + l2), .ref 85] μ)
    refine v_iload_n hX dX9_keep_38 rfl (?_ : V X 39 [some (.ref 75), some (.int p1), some (.int l2)] [.int l2, .ref 84, .int ((15 * p1) + l2), .ref 85] μ)
    have hb5 := h.1
    replace h := h.2
    refine w_iald hX (Int32.toNatClampNeg l2) sh_84 hb5 rfl dX9_keep_39 (?_ : V X 40 [some (.ref 75), some (.int p1), some (.int l2)] [.int (gi μ 84 (Int32.toNatClampNeg l2)), .int ((15 * p1) + l2), .ref 85] μ)
    have hb6 := h.1
    replace h := h.2
    refine w_iast hX (Int32.toNatClampNeg ((15 * p1) + l2)) sh_85 hb6 rfl dX9_keep_40 (fun μ7 e8 => (?_ : V X 41 [some (.ref 75), some (.int p1), some (.int l2)] [] μ7))
    replace h := h μ7 e8
    refine v_iinc hX 1 dX9_keep_41 (by rw [hn]; decide) rfl rfl (?_ : V X 44 [some (.ref 75), some (.int p1), some (.int (l2 + 1))] [] μ7)
    refine v_goto hX 18 dX9_keep_44 rfl (?_ : V X 18 [some (.ref 75), some (.int p1), some (.int (l2 + 1))] [] μ7)
    exact v_mask [true, true, true] (hJ18 _ _ h)
set_option maxRecDepth 20000 in
set_option maxHeartbeats 4000000 in
theorem vp_X9_keep_0 (p1 : Int32)  (μ : Mem) (hpre : pre_X9_keep p1 μ) : vc_X9_keep_0 p1 μ (post_X9_keep p1 μ) (fun l2 m => ∃ k : Nat, inv_X9_keep_18 p1 μ k l2 m) := by
  simp only [vc_X9_keep_0, pre_X9_in, post_X9_in, and_imp, call_eq, forall_eq, forall_const, true_and, and_true]
  have ec : (p1 < 0 ∨ 1 < p1) ↔ (p1 < 0 ∨ 2 ≤ p1) := by
    simp only [i_lt, i_le]
    rw [show (1 : Int32).toInt = 1 from rfl, show (2 : Int32).toInt = 2 from rfl]; omega
  by_cases c : p1 < 0 ∨ 2 ≤ p1
  · simp only [if_pos (ec.mpr c)]
    refine ⟨fun q => absurd trivial q, fun _ => ?_⟩
    unfold post_X9_keep; rw [if_pos c]; exact ⟨rfl, rfl⟩
  · simp only [if_neg (fun q => c (ec.mp q))]
    refine ⟨fun _ => ⟨15, 0, by omega, rfl, rfl, c, fr_ui (by simp), fun k k0 => ?_, fun k hk => absurd hk (Nat.not_lt_zero k), fun _ _ => rfl⟩, fun q => absurd q (by decide)⟩
    rw [gi_ui, if_neg (by simp [k0])]
set_option maxRecDepth 20000 in
set_option maxHeartbeats 4000000 in
theorem vp_X9_keep_18 (p1 : Int32)  (μ : Mem) (hpre : pre_X9_keep p1 μ) (n : Nat) (l2 : Int32) (μ0 : Mem) (hi : inv_X9_keep_18 p1 μ n l2 μ0) : vc_X9_keep_18 p1 l2 μ0 (post_X9_keep p1 μ) (fun l2 m => ∃ k : Nat, k < n ∧ inv_X9_keep_18 p1 μ k l2 m) := by
  simp only [vc_X9_keep_18, pre_X9_in, post_X9_in, and_imp, call_eq, forall_eq, forall_const, true_and, and_true]
  obtain ⟨i, hi1, rfl, rfl, c, hf, h1, h2, h3⟩ := hi
  have c' : ¬ p1 < 0 := fun q => c (Or.inl q)
  obtain ⟨e, he⟩ := nn_of (nlt_le c')
  have hj : p1.toNatClampNeg < 2 := by
    have c2 : ¬ 2 ≤ p1 := fun q => c (Or.inr q)
    rw [e, show (2 : Int32) = nI 2 from rfl, nI_leI (by omega) he] at c2; omega
  have e15 : (15 * p1) + nI i = nI (15 * p1.toNatClampNeg + i) := by
    rw [e, show (15 : Int32) = nI 15 from rfl, pk_mul, nI_add, nI_clamp he]
  rw [e15, show (15 : Int32) = nI 15 from rfl, nI_leI (by omega) (by omega), nI_clamp (by omega), nI_clamp (by omega)]
  have hin : vp_in p1 2 := by rw [e]; exact vp_in_nI hj (by omega)
  refine ⟨fun q => ⟨hin, ?_⟩, fun q => ⟨vp_in_nI (by omega) (by omega), vp_in_nI (by omega) (by omega), 15 - (i + 1), by omega, i + 1, by omega, rfl, nI_1 i, c, fr_trans hf (fr_ui (by simp)), fun k k0 => ?_, fun k hk => ?_, fun k hk => ?_⟩⟩
  · have : i = 15 := by omega
    subst this
    unfold post_X9_keep
    rw [if_neg c]
    refine ⟨?_, fr_trans (fr_mono hf (by simp)) (fr_ui (by simp)), fun k k0 => ?_, fun k hk => ?_, fun k hk => ?_, fun j => ?_⟩
    · rw [gi_ui, if_neg (by simp), hf.1 84 (by simp)]
    · rw [gi_ui, if_neg (by simp), h1 k k0]
    · rw [gi_ui, if_neg (by simp), h2 k hk]
    · rw [gi_ui, if_neg (by simp), h3 k hk]
    · rw [gi_ui, hf.1 86 (by simp)]; simp
  · rw [gi_ui, if_neg (by simp), h1 k k0]
  · rw [gi_ui]
    by_cases z : k = i
    · rw [if_pos ⟨rfl, by rw [z]⟩, z, hf.1 84 (by simp)]
    · rw [if_neg (by omega), h2 k (by omega)]
  · rw [gi_ui, if_neg (by omega), h3 k hk]
theorem sp_X9_keep : Sp yX9_keep cX9_keep 3 (some .int) 1 S_X9_keep := by
  refine sp_of (by decide) (fun av μ P h => ?_) ?_
  · obtain ⟨p1, rfl, -⟩ := h
    refine ⟨Nat.le_of_ble_eq_true rfl, fun v hv => ?_⟩
    simp only [List.mem_cons, List.not_mem_nil, or_false] at hv
    rcases hv with rfl | rfl <;> rfl
  · rintro X P hO _ μ ⟨p1, rfl, hpre, hpost⟩ hn
    have hJ : ∀ n : Nat, (∀ (l2 : Int32) (m : Mem), inv_X9_keep_18 p1 μ n l2 m → V X 18 [some (.ref 75), some (.int p1), some (.int l2)] [] m) := by
      intro n
      induction n using Nat.strongRecOn with
      | _ n ih =>
        exact fun l2 m hi => wk_X9_keep_18 (J18 := (fun l2 m => ∃ k : Nat, k < n ∧ inv_X9_keep_18 p1 μ k l2 m)) hO hn p1  l2 m hpost (fun l2 m hk => by obtain ⟨k, hk, hi⟩ := hk; exact (ih k hk) l2 m hi) (vp_X9_keep_18 p1  μ hpre n l2 m hi)
    exact wk_X9_keep_0 (J18 := (fun l2 m => ∃ k : Nat, inv_X9_keep_18 p1 μ k l2 m)) hO hn p1  μ hpost (fun l2 m hk => by obtain ⟨k, hi⟩ := hk; exact (hJ k) l2 m hi) (vp_X9_keep_0 p1  μ hpre)
def S_X9_back : Tr := fun av μ P => ∃ (p1 : Int32), av = [.ref 75, .int p1] ∧ pre_X9_back p1 μ ∧ ∀ (x : Int32) (m : Mem), post_X9_back p1 μ x m → P (some (.int x)) m
def vc_X9_back_0 (p1 : Int32)  (μ : Mem) (R : Int32 → Mem → Prop) (J30 : Int32 → Mem → Prop) : Prop :=
  (∀ μ1, μ1 = ui μ 75 0 0 → (pre_X9_in p1 0 1 μ1 ∧ ∀ (x3 : Int32) (μ4 : Mem), post_X9_in p1 0 1 μ1 x3 μ4 → ((¬ x3 = 0 → vp_in p1 2 ∧ ((¬ (gi μ4 86 (Int32.toNatClampNeg p1)) = 0 → J30 0 μ4) ∧ ((gi μ4 86 (Int32.toNatClampNeg p1)) = 0 → R ((-2)) μ4))) ∧ (x3 = 0 → R ((-1)) μ4))))
set_option maxRecDepth 20000 in
set_option maxHeartbeats 4000000 in
theorem wk_X9_back_0 {X : XT} {P : Post} (hO : OkM X cX9_back RX9 1 (some .int) P) (hn : xn X = 3) (p1 : Int32)   (μ : Mem) {R : Int32 → Mem → Prop} (hR : ∀ x m, R x m → P (some (.int x)) m) {J30 : Int32 → Mem → Prop} (hJ30 : ∀ (l2 : Int32) (m : Mem), J30 l2 m → V X 30 [some (.ref 75), some (.int p1), some (.int l2)] [] m)  (h : vc_X9_back_0 p1  μ R J30) : V X 0 [some (.ref 75), some (.int p1), none] [] μ := by
  have hX := hO.1
  unfold vc_X9_back_0 at h
  refine v_aload_n hX dX9_back_0 rfl (?_ : V X 1 [some (.ref 75), some (.int p1), none] [.ref 75] μ)
  refine v_iconst hX 0 dX9_back_1 rfl (?_ : V X 2 [some (.ref 75), some (.int p1), none] [.int 0, .ref 75] μ)
  refine w_puti hX fk_X9_74 fw_9_0 sh_75 rfl dX9_back_2 (fun μ1 e2 => (?_ : V X 5 [some (.ref 75), some (.int p1), none] [] μ1))
  replace h := h μ1 e2
  refine v_iload_n hX dX9_back_5 rfl (?_ : V X 6 [some (.ref 75), some (.int p1), none] [.int p1] μ1)
  refine v_iconst hX 0 dX9_back_6 rfl (?_ : V X 7 [some (.ref 75), some (.int p1), none] [.int 0, .int p1] μ1)
  refine v_iconst hX 1 dX9_back_7 rfl (?_ : V X 8 [some (.ref 75), some (.int p1), none] [.int 1, .int 0, .int p1] μ1)
  refine v_callS hX sp_X9_in ck_X9_in mk_X9_78 sk_X9_in (by decide) [.int p1, .int 0, .int 1] [] rfl rfl (Nat.le_of_ble_eq_true rfl) dX9_back_8 ⟨p1, 0, 1, rfl, h.1, fun x3 μ4 hp5 => (?_ : V X 11 [some (.ref 75), some (.int p1), none] [.int x3] μ4)⟩
  replace h := h.2 x3 μ4 hp5
  refine v_if_ne hX 16 dX9_back_11 rfl (fun c6 => ?_) (fun c6 => ?_)
  · replace h := h.1 c6
    refine v_aload_n hX dX9_back_16 rfl (?_ : V X 17 [some (.ref 75), some (.int p1), none] [.ref 75] μ4)
    refine v_getr hX (86) fk_X9_40 sh_75 rfl rfl dX9_back_17 (?_ : V X 20 [some (.ref 75), some (.int p1), none] [.ref 86] μ4)
    refine v_iload_n hX dX9_back_20 rfl (?_ : V X 21 [some (.ref 75), some (.int p1), none] [.int p1, .ref 86] μ4)
    have hb7 := h.1
    replace h := h.2
    refine w_bald hX (Int32.toNatClampNeg p1) sh_86 hb7 rfl dX9_back_21 (?_ : V X 22 [some (.ref 75), some (.int p1), none] [.int (gi μ4 86 (Int32.toNatClampNeg p1))] μ4)
    refine v_if_ne hX 28 dX9_back_22 rfl (fun c8 => ?_) (fun c8 => ?_)
    · replace h := h.1 c8
      refine v_iconst hX 0 dX9_back_28 rfl (?_ : V X 29 [some (.ref 75), some (.int p1), none] [.int 0] μ4)
      refine v_istore_n hX dX9_back_29 (by rw [hn]; decide) (?_ : V X 30 [some (.ref 75), some (.int p1), some (.int 0)] [] μ4)
      exact v_mask [true, true, true] (hJ30 _ _ h)
    · replace h := h.2 c8
      refine v_bipush hX (-2) dX9_back_25 rfl (?_ : V X 27 [some (.ref 75), some (.int p1), none] [.int ((-2))] μ4)
      exact v_iret hO dX9_back_27 (hR _ _ h)
  · replace h := h.2 c6
    refine v_iconst hX (-1) dX9_back_14 rfl (?_ : V X 15 [some (.ref 75), some (.int p1), none] [.int ((-1))] μ4)
    exact v_iret hO dX9_back_15 (hR _ _ h)
def vc_X9_back_30 (p1 : Int32) (l2 : Int32) (μ : Mem) (R : Int32 → Mem → Prop) (J30 : Int32 → Mem → Prop) : Prop :=
  ((15 ≤ l2 → (∀ μ2, μ2 = ui μ 75 21 0 → R (gi μ2 84 2) μ2)) ∧ (¬ 15 ≤ l2 → vp_in ((15 * p1) + l2) 30 ∧ vp_in l2 15 ∧ (∀ μ6, μ6 = ui μ 84 (Int32.toNatClampNeg l2) (gi μ 85 (Int32.toNatClampNeg ((15 * p1) + l2))) → J30 (l2 + 1) μ6)))
set_option maxRecDepth 20000 in
set_option maxHeartbeats 4000000 in
theorem wk_X9_back_30 {X : XT} {P : Post} (hO : OkM X cX9_back RX9 1 (some .int) P) (hn : xn X = 3) (p1 : Int32)  (l2 : Int32) (μ : Mem) {R : Int32 → Mem → Prop} (hR : ∀ x m, R x m → P (some (.int x)) m) {J30 : Int32 → Mem → Prop} (hJ30 : ∀ (l2 : Int32) (m : Mem), J30 l2 m → V X 30 [some (.ref 75), some (.int p1), some (.int l2)] [] m)  (h : vc_X9_back_30 p1 l2 μ R J30) : V X 30 [some (.ref 75), some (.int p1), some (.int l2)] [] μ := by
  have hX := hO.1
  unfold vc_X9_back_30 at h
  refine v_iload_n hX dX9_back_30 rfl (?_ : V X 31 [some (.ref 75), some (.int p1), some (.int l2)] [.int l2] μ)
  refine v_bipush hX 15 dX9_back_31 rfl (?_ : V X 33 [some (.ref 75), some (.int p1), some (.int l2)] [.int 15, .int l2] μ)
  refine v_icmp_ge hX 59 dX9_back_33 rfl (fun c1 => ?_) (fun c1 => ?_)
  · replace h := h.1 c1
    refine v_aload_n hX dX9_back_59 rfl (?_ : V X 60 [some (.ref 75), some (.int p1), some (.int l2)] [.ref 75] μ)
    refine v_iconst hX 0 dX9_back_60 rfl (?_ : V X 61 [some (.ref 75), some (.int p1), some (.int l2)] [.int 0, .ref 75] μ)
    refine w_puti hX fk_X9_139 fw_9_21 sh_75 rfl dX9_back_61 (fun μ2 e3 => (?_ : V X 64 [some (.ref 75), some (.int p1), some (.int l2)] [] μ2))
    replace h := h μ2 e3
    refine v_aload_n hX dX9_back_64 rfl (?_ : V X 65 [some (.ref 75), some (.int p1), some (.int l2)] [.ref 75] μ2)
    refine v_getr hX (84) fk_X9_34 sh_75 rfl rfl dX9_back_65 (?_ : V X 68 [some (.ref 75), some (.int p1), some (.int l2)] [.ref 84] μ2)
    refine v_iconst hX 2 dX9_back_68 rfl (?_ : V X 69 [some (.ref 75), some (.int p1), some (.int l2)] [.int 2, .ref 84] μ2)
    refine w_iald hX 2 sh_84 (vp_lit (by decide)) (by decide) dX9_back_69 (?_ : V X 70 [some (.ref 75), some (.int p1), some (.int l2)] [.int (gi μ2 84 2)] μ2)
    exact v_iret hO dX9_back_70 (hR _ _ h)
  · replace h := h.2 c1
    refine v_aload_n hX dX9_back_36 rfl (?_ : V X 37 [some (.ref 75), some (.int p1), some (.int l2)] [.ref 75] μ)
    refine v_getr hX (84) fk_X9_34 sh_75 rfl rfl dX9_back_37 (?_ : V X 40 [some (.ref 75), some (.int p1), some (.int l2)] [.ref 84] μ)
    refine v_iload_n hX dX9_back_40 rfl (?_ : V X 41 [some (.ref 75), some (.int p1), some (.int l2)] [.int l2, .ref 84] μ)
    refine v_aload_n hX dX9_back_41 rfl (?_ : V X 42 [some (.ref 75), some (.int p1), some (.int l2)] [.ref 75, .int l2, .ref 84] μ)
    refine v_getr hX (85) fk_X9_37 sh_75 rfl rfl dX9_back_42 (?_ : V X 45 [some (.ref 75), some (.int p1), some (.int l2)] [.ref 85, .int l2, .ref 84] μ)
    refine v_bipush hX 15 dX9_back_45 rfl (?_ : V X 47 [some (.ref 75), some (.int p1), some (.int l2)] [.int 15, .ref 85, .int l2, .ref 84] μ)
    refine v_iload_n hX dX9_back_47 rfl (?_ : V X 48 [some (.ref 75), some (.int p1), some (.int l2)] [.int p1, .int 15, .ref 85, .int l2, .ref 84] μ)
    refine v_imul hX dX9_back_48 (?_ : V X 49 [some (.ref 75), some (.int p1), some (.int l2)] [.int (15 * p1), .ref 85, .int l2, .ref 84] μ)
    refine v_iload_n hX dX9_back_49 rfl (?_ : V X 50 [some (.ref 75), some (.int p1), some (.int l2)] [.int l2, .int (15 * p1), .ref 85, .int l2, .ref 84] μ)
    refine v_iadd hX dX9_back_50 (?_ : V X 51 [some (.ref 75), some (.int p1), some (.int l2)] [.int ((15 * p1) + l2), .ref 85, .int l2, .ref 84] μ)
    have hb4 := h.1
    replace h := h.2
    refine w_iald hX (Int32.toNatClampNeg ((15 * p1) + l2)) sh_85 hb4 rfl dX9_back_51 (?_ : V X 52 [some (.ref 75), some (.int p1), some (.int l2)] [.int (gi μ 85 (Int32.toNatClampNeg ((15 * p1) + l2))), .int l2, .ref 84] μ)
    have hb5 := h.1
    replace h := h.2
    refine w_iast hX (Int32.toNatClampNeg l2) sh_84 hb5 rfl dX9_back_52 (fun μ6 e7 => (?_ : V X 53 [some (.ref 75), some (.int p1), some (.int l2)] [] μ6))
    replace h := h μ6 e7
    refine v_iinc hX 1 dX9_back_53 (by rw [hn]; decide) rfl rfl (?_ : V X 56 [some (.ref 75), some (.int p1), some (.int (l2 + 1))] [] μ6)
    refine v_goto hX 30 dX9_back_56 rfl (?_ : V X 30 [some (.ref 75), some (.int p1), some (.int (l2 + 1))] [] μ6)
    exact v_mask [true, true, true] (hJ30 _ _ h)
set_option maxRecDepth 20000 in
set_option maxHeartbeats 4000000 in
theorem vp_X9_back_0 (p1 : Int32)  (μ : Mem) (hpre : pre_X9_back p1 μ) : vc_X9_back_0 p1 μ (post_X9_back p1 μ) (fun l2 m => ∃ k : Nat, inv_X9_back_30 p1 μ k l2 m) := by
  simp only [vc_X9_back_0, pre_X9_in, post_X9_in, and_imp, call_eq, forall_eq, forall_const, true_and, and_true]
  rw [show ∀ j, gi (ui μ 75 0 0) 86 j = gi μ 86 j from fun _ => rfl]
  have ec : (p1 < 0 ∨ 1 < p1) ↔ (p1 < 0 ∨ 2 ≤ p1) := by
    simp only [i_lt, i_le]
    rw [show (1 : Int32).toInt = 1 from rfl, show (2 : Int32).toInt = 2 from rfl]; omega
  by_cases c : p1 < 0 ∨ 2 ≤ p1
  · simp only [if_pos (ec.mpr c)]
    refine ⟨fun q => absurd trivial q, fun _ => ?_⟩
    unfold post_X9_back; rw [if_pos c]; exact ⟨rfl, rfl⟩
  · simp only [if_neg (fun q => c (ec.mp q))]
    have c' : ¬ p1 < 0 := fun q => c (Or.inl q)
    obtain ⟨e, he⟩ := nn_of (nlt_le c')
    have hj : p1.toNatClampNeg < 2 := by
      have c2 : ¬ 2 ≤ p1 := fun q => c (Or.inr q)
      rw [e, show (2 : Int32) = nI 2 from rfl, nI_leI (by omega) he] at c2; omega
    refine ⟨fun _ => ⟨by rw [e]; exact vp_in_nI hj (by omega), fun c2 => ⟨15, 0, by omega, rfl, rfl, c, c2, fr_ui (by simp), fun k k0 => ?_, fun k hk => absurd hk (Nat.not_lt_zero k)⟩, fun c2 => ?_⟩, fun q => absurd q (by decide)⟩
    · rw [gi_ui, if_neg (by simp [k0])]
    · unfold post_X9_back; rw [if_neg c, if_pos c2]; exact ⟨rfl, rfl⟩
set_option maxRecDepth 20000 in
set_option maxHeartbeats 4000000 in
theorem vp_X9_back_30 (p1 : Int32)  (μ : Mem) (hpre : pre_X9_back p1 μ) (n : Nat) (l2 : Int32) (μ0 : Mem) (hi : inv_X9_back_30 p1 μ n l2 μ0) : vc_X9_back_30 p1 l2 μ0 (post_X9_back p1 μ) (fun l2 m => ∃ k : Nat, k < n ∧ inv_X9_back_30 p1 μ k l2 m) := by
  simp only [vc_X9_back_30, pre_X9_in, post_X9_in, and_imp, call_eq, forall_eq, forall_const, true_and, and_true]
  obtain ⟨i, hi1, rfl, rfl, c, c2, hf, h1, h2⟩ := hi
  have c' : ¬ p1 < 0 := fun q => c (Or.inl q)
  obtain ⟨e, he⟩ := nn_of (nlt_le c')
  have hj : p1.toNatClampNeg < 2 := by
    have c2 : ¬ 2 ≤ p1 := fun q => c (Or.inr q)
    rw [e, show (2 : Int32) = nI 2 from rfl, nI_leI (by omega) he] at c2; omega
  have e15 : (15 * p1) + nI i = nI (15 * p1.toNatClampNeg + i) := by
    rw [e, show (15 : Int32) = nI 15 from rfl, pk_mul, nI_add, nI_clamp he]
  rw [e15, show (15 : Int32) = nI 15 from rfl, nI_leI (by omega) (by omega), nI_clamp (by omega), nI_clamp (by omega)]
  refine ⟨fun q => ?_, fun q => ⟨vp_in_nI (by omega) (by omega), vp_in_nI (by omega) (by omega), 15 - (i + 1), by omega, i + 1, by omega, rfl, nI_1 i, c, c2, fr_trans hf (fr_ui (by simp)), fun k k0 => ?_, fun k hk => ?_⟩⟩
  · have : i = 15 := by omega
    subst this
    unfold post_X9_back
    rw [if_neg c, if_neg c2]
    refine ⟨rfl, fr_trans hf (fr_ui (by simp)), fun k k0 k21 => ?_, ?_, fun k hk => ?_⟩
    · rw [gi_ui, if_neg (by simp [k21]), h1 k k0]
    · rw [gi_ui, if_pos ⟨rfl, rfl⟩]
    · rw [gi_ui, if_neg (by simp), h2 k hk]
  · rw [gi_ui, if_neg (by simp), h1 k k0]
  · rw [gi_ui]
    by_cases z : k = i
    · rw [if_pos ⟨rfl, z⟩, z, hf.1 85 (by simp)]
    · rw [if_neg (by simp [z]), h2 k (by omega)]
theorem sp_X9_back : Sp yX9_back cX9_back 3 (some .int) 1 S_X9_back := by
  refine sp_of (by decide) (fun av μ P h => ?_) ?_
  · obtain ⟨p1, rfl, -⟩ := h
    refine ⟨Nat.le_of_ble_eq_true rfl, fun v hv => ?_⟩
    simp only [List.mem_cons, List.not_mem_nil, or_false] at hv
    rcases hv with rfl | rfl <;> rfl
  · rintro X P hO _ μ ⟨p1, rfl, hpre, hpost⟩ hn
    have hJ : ∀ n : Nat, (∀ (l2 : Int32) (m : Mem), inv_X9_back_30 p1 μ n l2 m → V X 30 [some (.ref 75), some (.int p1), some (.int l2)] [] m) := by
      intro n
      induction n using Nat.strongRecOn with
      | _ n ih =>
        exact fun l2 m hi => wk_X9_back_30 (J30 := (fun l2 m => ∃ k : Nat, k < n ∧ inv_X9_back_30 p1 μ k l2 m)) hO hn p1  l2 m hpost (fun l2 m hk => by obtain ⟨k, hk, hi⟩ := hk; exact (ih k hk) l2 m hi) (vp_X9_back_30 p1  μ hpre n l2 m hi)
    exact wk_X9_back_0 (J30 := (fun l2 m => ∃ k : Nat, inv_X9_back_30 p1 μ k l2 m)) hO hn p1  μ hpost (fun l2 m hk => by obtain ⟨k, hi⟩ := hk; exact (hJ k) l2 m hi) (vp_X9_back_0 p1  μ hpre)

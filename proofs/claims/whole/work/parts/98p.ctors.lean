/-! the constructors of the nested classes -/
set_option maxRecDepth 20000 in
set_option maxHeartbeats 1000000 in
theorem ct_tell (l : Launch) (D : va_G) (K : K3) (ws : va_W) (h : Nat) (T : va_W) (q1 q2 q3 q4 q5 q6 : Nat) : CM l D K yX2_tellNothing cX2_tellNothing 1 0 0 0 0 h (ws ++ (h, .inr (2, [.int 0, .ref q1, .ref q2, .ref q3, .int 0, .ref q4, .ref q5, .int 0, .ref q6, .int 0, .int 0, .int 0])) :: T) (fun w => w = (ws ++ (h, .inr (2, [.int 0, .ref q1, .ref q2, .ref q3, .int 0, .ref q4, .ref q5, .int 0, .ref q6, .int 0, .int 1, .int 120])) :: T)) := by
  refine cm_of (by decide) (by decide) ?_
  intro X hX hin hl hD hK hn hR hr hQ
  refine c_aload_n hX dX2_tellNothing_0 rfl (?_ : VC X 0 0 1 [some (.ref h)] [.ref h] (ws ++ (h, .inr (2, [.int 0, .ref q1, .ref q2, .ref q3, .int 0, .ref q4, .ref q5, .int 0, .ref q6, .int 0, .int 0, .int 0])) :: T))
  refine c_iconst hX 0 dX2_tellNothing_1 rfl (?_ : VC X 0 0 2 [some (.ref h)] [.int 0, .ref h] (ws ++ (h, .inr (2, [.int 0, .ref q1, .ref q2, .ref q3, .int 0, .ref q4, .ref q5, .int 0, .ref q6, .int 0, .int 0, .int 0])) :: T))
  refine c_put hX fk_X2_33 fw_2_0 rfl rfl rfl rfl dX2_tellNothing_2 (?_ : VC X 0 0 5 [some (.ref h)] [] (ws ++ (h, .inr (2, [.int 0, .ref q1, .ref q2, .ref q3, .int 0, .ref q4, .ref q5, .int 0, .ref q6, .int 0, .int 0, .int 0])) :: T))
  refine c_aload_n hX dX2_tellNothing_5 rfl (?_ : VC X 0 0 6 [some (.ref h)] [.ref h] (ws ++ (h, .inr (2, [.int 0, .ref q1, .ref q2, .ref q3, .int 0, .ref q4, .ref q5, .int 0, .ref q6, .int 0, .int 0, .int 0])) :: T))
  refine c_iconst hX 0 dX2_tellNothing_6 rfl (?_ : VC X 0 0 7 [some (.ref h)] [.int 0, .ref h] (ws ++ (h, .inr (2, [.int 0, .ref q1, .ref q2, .ref q3, .int 0, .ref q4, .ref q5, .int 0, .ref q6, .int 0, .int 0, .int 0])) :: T))
  refine c_put hX fk_X2_37 fw_2_4 rfl rfl rfl rfl dX2_tellNothing_7 (?_ : VC X 0 0 10 [some (.ref h)] [] (ws ++ (h, .inr (2, [.int 0, .ref q1, .ref q2, .ref q3, .int 0, .ref q4, .ref q5, .int 0, .ref q6, .int 0, .int 0, .int 0])) :: T))
  refine c_aload_n hX dX2_tellNothing_10 rfl (?_ : VC X 0 0 11 [some (.ref h)] [.ref h] (ws ++ (h, .inr (2, [.int 0, .ref q1, .ref q2, .ref q3, .int 0, .ref q4, .ref q5, .int 0, .ref q6, .int 0, .int 0, .int 0])) :: T))
  refine c_iconst hX 0 dX2_tellNothing_11 rfl (?_ : VC X 0 0 12 [some (.ref h)] [.int 0, .ref h] (ws ++ (h, .inr (2, [.int 0, .ref q1, .ref q2, .ref q3, .int 0, .ref q4, .ref q5, .int 0, .ref q6, .int 0, .int 0, .int 0])) :: T))
  refine c_put hX fk_X2_40 fw_2_7 rfl rfl rfl rfl dX2_tellNothing_12 (?_ : VC X 0 0 15 [some (.ref h)] [] (ws ++ (h, .inr (2, [.int 0, .ref q1, .ref q2, .ref q3, .int 0, .ref q4, .ref q5, .int 0, .ref q6, .int 0, .int 0, .int 0])) :: T))
  refine c_aload_n hX dX2_tellNothing_15 rfl (?_ : VC X 0 0 16 [some (.ref h)] [.ref h] (ws ++ (h, .inr (2, [.int 0, .ref q1, .ref q2, .ref q3, .int 0, .ref q4, .ref q5, .int 0, .ref q6, .int 0, .int 0, .int 0])) :: T))
  refine c_iconst hX 0 dX2_tellNothing_16 rfl (?_ : VC X 0 0 17 [some (.ref h)] [.int 0, .ref h] (ws ++ (h, .inr (2, [.int 0, .ref q1, .ref q2, .ref q3, .int 0, .ref q4, .ref q5, .int 0, .ref q6, .int 0, .int 0, .int 0])) :: T))
  refine c_put hX fk_X2_43 fw_2_9 rfl rfl rfl rfl dX2_tellNothing_17 (?_ : VC X 0 0 20 [some (.ref h)] [] (ws ++ (h, .inr (2, [.int 0, .ref q1, .ref q2, .ref q3, .int 0, .ref q4, .ref q5, .int 0, .ref q6, .int 0, .int 0, .int 0])) :: T))
  refine c_aload_n hX dX2_tellNothing_20 rfl (?_ : VC X 0 0 21 [some (.ref h)] [.ref h] (ws ++ (h, .inr (2, [.int 0, .ref q1, .ref q2, .ref q3, .int 0, .ref q4, .ref q5, .int 0, .ref q6, .int 0, .int 0, .int 0])) :: T))
  refine c_iconst hX 1 dX2_tellNothing_21 rfl (?_ : VC X 0 0 22 [some (.ref h)] [.int 1, .ref h] (ws ++ (h, .inr (2, [.int 0, .ref q1, .ref q2, .ref q3, .int 0, .ref q4, .ref q5, .int 0, .ref q6, .int 0, .int 0, .int 0])) :: T))
  refine c_put hX fk_X2_46 fw_2_10 rfl rfl rfl rfl dX2_tellNothing_22 (?_ : VC X 0 0 25 [some (.ref h)] [] (ws ++ (h, .inr (2, [.int 0, .ref q1, .ref q2, .ref q3, .int 0, .ref q4, .ref q5, .int 0, .ref q6, .int 0, .int 1, .int 0])) :: T))
  refine c_aload_n hX dX2_tellNothing_25 rfl (?_ : VC X 0 0 26 [some (.ref h)] [.ref h] (ws ++ (h, .inr (2, [.int 0, .ref q1, .ref q2, .ref q3, .int 0, .ref q4, .ref q5, .int 0, .ref q6, .int 0, .int 1, .int 0])) :: T))
  refine c_bipush hX 120 dX2_tellNothing_26 rfl (?_ : VC X 0 0 28 [some (.ref h)] [.int 120, .ref h] (ws ++ (h, .inr (2, [.int 0, .ref q1, .ref q2, .ref q3, .int 0, .ref q4, .ref q5, .int 0, .ref q6, .int 0, .int 1, .int 0])) :: T))
  refine c_put hX fk_X2_49 fw_2_11 rfl rfl rfl rfl dX2_tellNothing_28 (?_ : VC X 0 0 31 [some (.ref h)] [] (ws ++ (h, .inr (2, [.int 0, .ref q1, .ref q2, .ref q3, .int 0, .ref q4, .ref q5, .int 0, .ref q6, .int 0, .int 1, .int 120])) :: T))
  exact c_ret hX hr hQ rfl dX2_tellNothing_31
def out7 (K : K3) (h q1 q2 : Nat) : va_W := [(h, .inr (7, [.int (-9), .int (-9), .int 0, .int 0, .int 0, .ref q1, .ref q2])), (q1, iA K 5), (q2, iA K 5)]
set_option maxRecDepth 20000 in
set_option maxHeartbeats 1000000 in
theorem ct_X7 (l : Launch) (D : va_G) (K : K3) (ws : va_W) (h : Nat) : CM l D K yX7_init cX7_init 1 1 12 2 10 h (ws ++ [(h, .inr (7, fz7))]) (fun w => ∃ q1 q2, w = ws ++ out7 K h q1 q2) := by
  refine cm_of (by decide) (by decide) ?_
  intro X hX hin hl hD hK hn hR hr hQ
  have hin : (xh X).name = "<init>" := hin
  subst hK
  refine c_aload_n hX dX7_init_0 rfl (?_ : VC X 0 0 1 [some (.ref h)] [.ref h] (ws ++ (h, .inr (7, [.int 0, .int 0, .int 0, .int 0, .int 0, .null, .null])) :: []))
  refine c_obj hX (by rw [hR]; decide) ol_X7 hi_obj hc_obj dX7_init_1 (?_ : VC X 0 0 4 [some (.ref h)] [] (ws ++ (h, .inr (7, [.int 0, .int 0, .int 0, .int 0, .int 0, .null, .null])) :: []))
  refine c_aload_n hX dX7_init_4 rfl (?_ : VC X 0 0 5 [some (.ref h)] [.ref h] (ws ++ (h, .inr (7, [.int 0, .int 0, .int 0, .int 0, .int 0, .null, .null])) :: []))
  refine c_iconst hX 5 dX7_init_5 rfl (?_ : VC X 0 0 6 [some (.ref h)] [.int 5, .ref h] (ws ++ (h, .inr (7, [.int 0, .int 0, .int 0, .int 0, .int 0, .null, .null])) :: []))
  refine c_newi hX 5 aw_int (by decide) (by decide) (by decide) (by rw [hR]; decide) dX7_init_6 (fun q1 => (?_ : VC X 1 5 8 [some (.ref h)] [.ref q1, .ref h] (ws ++ (h, .inr (7, [.int 0, .int 0, .int 0, .int 0, .int 0, .null, .null])) :: [(q1, iA (xK X) 5)])))
  refine c_putF hX hin fk_X7_9 ff_7_5 rfl rfl rfl dX7_init_8 (?_ : VC X 1 5 11 [some (.ref h)] [] (ws ++ (h, .inr (7, [.int 0, .int 0, .int 0, .int 0, .int 0, .ref q1, .null])) :: [(q1, iA (xK X) 5)]))
  refine c_aload_n hX dX7_init_11 rfl (?_ : VC X 1 5 12 [some (.ref h)] [.ref h] (ws ++ (h, .inr (7, [.int 0, .int 0, .int 0, .int 0, .int 0, .ref q1, .null])) :: [(q1, iA (xK X) 5)]))
  refine c_iconst hX 5 dX7_init_12 rfl (?_ : VC X 1 5 13 [some (.ref h)] [.int 5, .ref h] (ws ++ (h, .inr (7, [.int 0, .int 0, .int 0, .int 0, .int 0, .ref q1, .null])) :: [(q1, iA (xK X) 5)]))
  refine c_newi hX 5 aw_int (by decide) (by decide) (by decide) (by rw [hR]; decide) dX7_init_13 (fun q2 => (?_ : VC X 2 10 15 [some (.ref h)] [.ref q2, .ref h] (ws ++ (h, .inr (7, [.int 0, .int 0, .int 0, .int 0, .int 0, .ref q1, .null])) :: [(q1, iA (xK X) 5), (q2, iA (xK X) 5)])))
  refine c_putF hX hin fk_X7_15 ff_7_6 rfl rfl rfl dX7_init_15 (?_ : VC X 2 10 18 [some (.ref h)] [] (ws ++ (h, .inr (7, [.int 0, .int 0, .int 0, .int 0, .int 0, .ref q1, .ref q2])) :: [(q1, iA (xK X) 5), (q2, iA (xK X) 5)]))
  refine c_aload_n hX dX7_init_18 rfl (?_ : VC X 2 10 19 [some (.ref h)] [.ref h] (ws ++ (h, .inr (7, [.int 0, .int 0, .int 0, .int 0, .int 0, .ref q1, .ref q2])) :: [(q1, iA (xK X) 5), (q2, iA (xK X) 5)]))
  refine c_bipush hX (-9) dX7_init_19 rfl (?_ : VC X 2 10 21 [some (.ref h)] [.int (-9), .ref h] (ws ++ (h, .inr (7, [.int 0, .int 0, .int 0, .int 0, .int 0, .ref q1, .ref q2])) :: [(q1, iA (xK X) 5), (q2, iA (xK X) 5)]))
  refine c_put hX fk_X7_18 fw_7_0 rfl rfl rfl rfl dX7_init_21 (?_ : VC X 2 10 24 [some (.ref h)] [] (ws ++ (h, .inr (7, [.int (-9), .int 0, .int 0, .int 0, .int 0, .ref q1, .ref q2])) :: [(q1, iA (xK X) 5), (q2, iA (xK X) 5)]))
  refine c_aload_n hX dX7_init_24 rfl (?_ : VC X 2 10 25 [some (.ref h)] [.ref h] (ws ++ (h, .inr (7, [.int (-9), .int 0, .int 0, .int 0, .int 0, .ref q1, .ref q2])) :: [(q1, iA (xK X) 5), (q2, iA (xK X) 5)]))
  refine c_bipush hX (-9) dX7_init_25 rfl (?_ : VC X 2 10 27 [some (.ref h)] [.int (-9), .ref h] (ws ++ (h, .inr (7, [.int (-9), .int 0, .int 0, .int 0, .int 0, .ref q1, .ref q2])) :: [(q1, iA (xK X) 5), (q2, iA (xK X) 5)]))
  refine c_put hX fk_X7_22 fw_7_1 rfl rfl rfl rfl dX7_init_27 (?_ : VC X 2 10 30 [some (.ref h)] [] (ws ++ (h, .inr (7, [.int (-9), .int (-9), .int 0, .int 0, .int 0, .ref q1, .ref q2])) :: [(q1, iA (xK X) 5), (q2, iA (xK X) 5)]))
  exact c_ret hX hr hQ ⟨q1, q2, rfl⟩ dX7_init_30
def out2 (K : K3) (h q1 q2 q3 q4 q5 q6 : Nat) : va_W := [(h, .inr (2, [.int 0, .ref q1, .ref q2, .ref q3, .int 0, .ref q4, .ref q5, .int 0, .ref q6, .int 0, .int 1, .int 120])), (q1, iA K 5), (q2, iA K 5), (q3, iA K 5), (q4, iA K 5), (q5, iA K 5), (q6, iA K 6)]
set_option maxRecDepth 20000 in
set_option maxHeartbeats 1000000 in
theorem ct_X2 (l : Launch) (D : va_G) (K : K3) (ws : va_W) (h : Nat) : CM l D K yX2_init cX2_init 1 1 20 6 31 h (ws ++ [(h, .inr (2, fz2))]) (fun w => ∃ q1 q2 q3 q4 q5 q6, w = ws ++ out2 K h q1 q2 q3 q4 q5 q6) := by
  refine cm_of (by decide) (by decide) ?_
  intro X hX hin hl hD hK hn hR hr hQ
  have hin : (xh X).name = "<init>" := hin
  subst hK
  refine c_aload_n hX dX2_init_0 rfl (?_ : VC X 0 0 1 [some (.ref h)] [.ref h] (ws ++ (h, .inr (2, [.int 0, .null, .null, .null, .int 0, .null, .null, .int 0, .null, .int 0, .int 0, .int 0])) :: []))
  refine c_obj hX (by rw [hR]; decide) ol_X2 hi_obj hc_obj dX2_init_1 (?_ : VC X 0 0 4 [some (.ref h)] [] (ws ++ (h, .inr (2, [.int 0, .null, .null, .null, .int 0, .null, .null, .int 0, .null, .int 0, .int 0, .int 0])) :: []))
  refine c_aload_n hX dX2_init_4 rfl (?_ : VC X 0 0 5 [some (.ref h)] [.ref h] (ws ++ (h, .inr (2, [.int 0, .null, .null, .null, .int 0, .null, .null, .int 0, .null, .int 0, .int 0, .int 0])) :: []))
  refine c_iconst hX 5 dX2_init_5 rfl (?_ : VC X 0 0 6 [some (.ref h)] [.int 5, .ref h] (ws ++ (h, .inr (2, [.int 0, .null, .null, .null, .int 0, .null, .null, .int 0, .null, .int 0, .int 0, .int 0])) :: []))
  refine c_newi hX 5 aw_int (by decide) (by decide) (by decide) (by rw [hR]; decide) dX2_init_6 (fun q1 => (?_ : VC X 1 5 8 [some (.ref h)] [.ref q1, .ref h] (ws ++ (h, .inr (2, [.int 0, .null, .null, .null, .int 0, .null, .null, .int 0, .null, .int 0, .int 0, .int 0])) :: [(q1, iA (xK X) 5)])))
  refine c_putF hX hin fk_X2_9 ff_2_1 rfl rfl rfl dX2_init_8 (?_ : VC X 1 5 11 [some (.ref h)] [] (ws ++ (h, .inr (2, [.int 0, .ref q1, .null, .null, .int 0, .null, .null, .int 0, .null, .int 0, .int 0, .int 0])) :: [(q1, iA (xK X) 5)]))
  refine c_aload_n hX dX2_init_11 rfl (?_ : VC X 1 5 12 [some (.ref h)] [.ref h] (ws ++ (h, .inr (2, [.int 0, .ref q1, .null, .null, .int 0, .null, .null, .int 0, .null, .int 0, .int 0, .int 0])) :: [(q1, iA (xK X) 5)]))
  refine c_iconst hX 5 dX2_init_12 rfl (?_ : VC X 1 5 13 [some (.ref h)] [.int 5, .ref h] (ws ++ (h, .inr (2, [.int 0, .ref q1, .null, .null, .int 0, .null, .null, .int 0, .null, .int 0, .int 0, .int 0])) :: [(q1, iA (xK X) 5)]))
  refine c_newi hX 5 aw_int (by decide) (by decide) (by decide) (by rw [hR]; decide) dX2_init_13 (fun q2 => (?_ : VC X 2 10 15 [some (.ref h)] [.ref q2, .ref h] (ws ++ (h, .inr (2, [.int 0, .ref q1, .null, .null, .int 0, .null, .null, .int 0, .null, .int 0, .int 0, .int 0])) :: [(q1, iA (xK X) 5), (q2, iA (xK X) 5)])))
  refine c_putF hX hin fk_X2_15 ff_2_2 rfl rfl rfl dX2_init_15 (?_ : VC X 2 10 18 [some (.ref h)] [] (ws ++ (h, .inr (2, [.int 0, .ref q1, .ref q2, .null, .int 0, .null, .null, .int 0, .null, .int 0, .int 0, .int 0])) :: [(q1, iA (xK X) 5), (q2, iA (xK X) 5)]))
  refine c_aload_n hX dX2_init_18 rfl (?_ : VC X 2 10 19 [some (.ref h)] [.ref h] (ws ++ (h, .inr (2, [.int 0, .ref q1, .ref q2, .null, .int 0, .null, .null, .int 0, .null, .int 0, .int 0, .int 0])) :: [(q1, iA (xK X) 5), (q2, iA (xK X) 5)]))
  refine c_iconst hX 5 dX2_init_19 rfl (?_ : VC X 2 10 20 [some (.ref h)] [.int 5, .ref h] (ws ++ (h, .inr (2, [.int 0, .ref q1, .ref q2, .null, .int 0, .null, .null, .int 0, .null, .int 0, .int 0, .int 0])) :: [(q1, iA (xK X) 5), (q2, iA (xK X) 5)]))
  refine c_newi hX 5 aw_int (by decide) (by decide) (by decide) (by rw [hR]; decide) dX2_init_20 (fun q3 => (?_ : VC X 3 15 22 [some (.ref h)] [.ref q3, .ref h] (ws ++ (h, .inr (2, [.int 0, .ref q1, .ref q2, .null, .int 0, .null, .null, .int 0, .null, .int 0, .int 0, .int 0])) :: [(q1, iA (xK X) 5), (q2, iA (xK X) 5), (q3, iA (xK X) 5)])))
  refine c_putF hX hin fk_X2_18 ff_2_3 rfl rfl rfl dX2_init_22 (?_ : VC X 3 15 25 [some (.ref h)] [] (ws ++ (h, .inr (2, [.int 0, .ref q1, .ref q2, .ref q3, .int 0, .null, .null, .int 0, .null, .int 0, .int 0, .int 0])) :: [(q1, iA (xK X) 5), (q2, iA (xK X) 5), (q3, iA (xK X) 5)]))
  refine c_aload_n hX dX2_init_25 rfl (?_ : VC X 3 15 26 [some (.ref h)] [.ref h] (ws ++ (h, .inr (2, [.int 0, .ref q1, .ref q2, .ref q3, .int 0, .null, .null, .int 0, .null, .int 0, .int 0, .int 0])) :: [(q1, iA (xK X) 5), (q2, iA (xK X) 5), (q3, iA (xK X) 5)]))
  refine c_iconst hX 5 dX2_init_26 rfl (?_ : VC X 3 15 27 [some (.ref h)] [.int 5, .ref h] (ws ++ (h, .inr (2, [.int 0, .ref q1, .ref q2, .ref q3, .int 0, .null, .null, .int 0, .null, .int 0, .int 0, .int 0])) :: [(q1, iA (xK X) 5), (q2, iA (xK X) 5), (q3, iA (xK X) 5)]))
  refine c_newi hX 5 aw_int (by decide) (by decide) (by decide) (by rw [hR]; decide) dX2_init_27 (fun q4 => (?_ : VC X 4 20 29 [some (.ref h)] [.ref q4, .ref h] (ws ++ (h, .inr (2, [.int 0, .ref q1, .ref q2, .ref q3, .int 0, .null, .null, .int 0, .null, .int 0, .int 0, .int 0])) :: [(q1, iA (xK X) 5), (q2, iA (xK X) 5), (q3, iA (xK X) 5), (q4, iA (xK X) 5)])))
  refine c_putF hX hin fk_X2_21 ff_2_5 rfl rfl rfl dX2_init_29 (?_ : VC X 4 20 32 [some (.ref h)] [] (ws ++ (h, .inr (2, [.int 0, .ref q1, .ref q2, .ref q3, .int 0, .ref q4, .null, .int 0, .null, .int 0, .int 0, .int 0])) :: [(q1, iA (xK X) 5), (q2, iA (xK X) 5), (q3, iA (xK X) 5), (q4, iA (xK X) 5)]))
  refine c_aload_n hX dX2_init_32 rfl (?_ : VC X 4 20 33 [some (.ref h)] [.ref h] (ws ++ (h, .inr (2, [.int 0, .ref q1, .ref q2, .ref q3, .int 0, .ref q4, .null, .int 0, .null, .int 0, .int 0, .int 0])) :: [(q1, iA (xK X) 5), (q2, iA (xK X) 5), (q3, iA (xK X) 5), (q4, iA (xK X) 5)]))
  refine c_iconst hX 5 dX2_init_33 rfl (?_ : VC X 4 20 34 [some (.ref h)] [.int 5, .ref h] (ws ++ (h, .inr (2, [.int 0, .ref q1, .ref q2, .ref q3, .int 0, .ref q4, .null, .int 0, .null, .int 0, .int 0, .int 0])) :: [(q1, iA (xK X) 5), (q2, iA (xK X) 5), (q3, iA (xK X) 5), (q4, iA (xK X) 5)]))
  refine c_newi hX 5 aw_int (by decide) (by decide) (by decide) (by rw [hR]; decide) dX2_init_34 (fun q5 => (?_ : VC X 5 25 36 [some (.ref h)] [.ref q5, .ref h] (ws ++ (h, .inr (2, [.int 0, .ref q1, .ref q2, .ref q3, .int 0, .ref q4, .null, .int 0, .null, .int 0, .int 0, .int 0])) :: [(q1, iA (xK X) 5), (q2, iA (xK X) 5), (q3, iA (xK X) 5), (q4, iA (xK X) 5), (q5, iA (xK X) 5)])))
  refine c_putF hX hin fk_X2_24 ff_2_6 rfl rfl rfl dX2_init_36 (?_ : VC X 5 25 39 [some (.ref h)] [] (ws ++ (h, .inr (2, [.int 0, .ref q1, .ref q2, .ref q3, .int 0, .ref q4, .ref q5, .int 0, .null, .int 0, .int 0, .int 0])) :: [(q1, iA (xK X) 5), (q2, iA (xK X) 5), (q3, iA (xK X) 5), (q4, iA (xK X) 5), (q5, iA (xK X) 5)]))
  refine c_aload_n hX dX2_init_39 rfl (?_ : VC X 5 25 40 [some (.ref h)] [.ref h] (ws ++ (h, .inr (2, [.int 0, .ref q1, .ref q2, .ref q3, .int 0, .ref q4, .ref q5, .int 0, .null, .int 0, .int 0, .int 0])) :: [(q1, iA (xK X) 5), (q2, iA (xK X) 5), (q3, iA (xK X) 5), (q4, iA (xK X) 5), (q5, iA (xK X) 5)]))
  refine c_bipush hX 6 dX2_init_40 rfl (?_ : VC X 5 25 42 [some (.ref h)] [.int 6, .ref h] (ws ++ (h, .inr (2, [.int 0, .ref q1, .ref q2, .ref q3, .int 0, .ref q4, .ref q5, .int 0, .null, .int 0, .int 0, .int 0])) :: [(q1, iA (xK X) 5), (q2, iA (xK X) 5), (q3, iA (xK X) 5), (q4, iA (xK X) 5), (q5, iA (xK X) 5)]))
  refine c_newi hX 6 aw_int (by decide) (by decide) (by decide) (by rw [hR]; decide) dX2_init_42 (fun q6 => (?_ : VC X 6 31 44 [some (.ref h)] [.ref q6, .ref h] (ws ++ (h, .inr (2, [.int 0, .ref q1, .ref q2, .ref q3, .int 0, .ref q4, .ref q5, .int 0, .null, .int 0, .int 0, .int 0])) :: [(q1, iA (xK X) 5), (q2, iA (xK X) 5), (q3, iA (xK X) 5), (q4, iA (xK X) 5), (q5, iA (xK X) 5), (q6, iA (xK X) 6)])))
  refine c_putF hX hin fk_X2_27 ff_2_8 rfl rfl rfl dX2_init_44 (?_ : VC X 6 31 47 [some (.ref h)] [] (ws ++ (h, .inr (2, [.int 0, .ref q1, .ref q2, .ref q3, .int 0, .ref q4, .ref q5, .int 0, .ref q6, .int 0, .int 0, .int 0])) :: [(q1, iA (xK X) 5), (q2, iA (xK X) 5), (q3, iA (xK X) 5), (q4, iA (xK X) 5), (q5, iA (xK X) 5), (q6, iA (xK X) 6)]))
  refine c_aload_n hX dX2_init_47 rfl (?_ : VC X 6 31 48 [some (.ref h)] [.ref h] (ws ++ (h, .inr (2, [.int 0, .ref q1, .ref q2, .ref q3, .int 0, .ref q4, .ref q5, .int 0, .ref q6, .int 0, .int 0, .int 0])) :: [(q1, iA (xK X) 5), (q2, iA (xK X) 5), (q3, iA (xK X) 5), (q4, iA (xK X) 5), (q5, iA (xK X) 5), (q6, iA (xK X) 6)]))
  refine c_callV hX (ct_tell (xl X) (xD X) (xK X) ws h [(q1, iA (xK X) 5), (q2, iA (xK X) 5), (q3, iA (xK X) 5), (q4, iA (xK X) 5), (q5, iA (xK X) 5), (q6, iA (xK X) 6)] q1 q2 q3 q4 q5 q6) ck_X2_tellNothing mk_X2_30 mv_X2_tellNothing (at_len ws _ _) (by rw [hR]; decide) (by rw [hR]; decide) (Nat.le_of_ble_eq_true rfl) dX2_init_48 (fun w1 hw1 => ?_)
  subst hw1
  show VC X 6 31 51 [some (.ref h)] [] (ws ++ (h, .inr (2, [.int 0, .ref q1, .ref q2, .ref q3, .int 0, .ref q4, .ref q5, .int 0, .ref q6, .int 0, .int 1, .int 120])) :: [(q1, iA (xK X) 5), (q2, iA (xK X) 5), (q3, iA (xK X) 5), (q4, iA (xK X) 5), (q5, iA (xK X) 5), (q6, iA (xK X) 6)])
  exact c_ret hX hr hQ ⟨q1, q2, q3, q4, q5, q6, rfl⟩ dX2_init_51
def out6 (K : K3) (h q1 : Nat) : va_W := [(h, .inr (6, [.ref q1, .int 0, .int 0, .int 0, .int 0, .int 0, .int 0])), (q1, iA K 200)]
set_option maxRecDepth 20000 in
set_option maxHeartbeats 1000000 in
theorem ct_X6 (l : Launch) (D : va_G) (K : K3) (ws : va_W) (h : Nat) : CM l D K yX6_init cX6_init 1 1 12 1 200 h (ws ++ [(h, .inr (6, fz6))]) (fun w => ∃ q1, w = ws ++ out6 K h q1) := by
  refine cm_of (by decide) (by decide) ?_
  intro X hX hin hl hD hK hn hR hr hQ
  have hin : (xh X).name = "<init>" := hin
  subst hK
  refine c_aload_n hX dX6_init_0 rfl (?_ : VC X 0 0 1 [some (.ref h)] [.ref h] (ws ++ (h, .inr (6, [.null, .int 0, .int 0, .int 0, .int 0, .int 0, .int 0])) :: []))
  refine c_obj hX (by rw [hR]; decide) ol_X6 hi_obj hc_obj dX6_init_1 (?_ : VC X 0 0 4 [some (.ref h)] [] (ws ++ (h, .inr (6, [.null, .int 0, .int 0, .int 0, .int 0, .int 0, .int 0])) :: []))
  refine c_aload_n hX dX6_init_4 rfl (?_ : VC X 0 0 5 [some (.ref h)] [.ref h] (ws ++ (h, .inr (6, [.null, .int 0, .int 0, .int 0, .int 0, .int 0, .int 0])) :: []))
  refine c_sipush hX 200 dX6_init_5 rfl (?_ : VC X 0 0 8 [some (.ref h)] [.int 200, .ref h] (ws ++ (h, .inr (6, [.null, .int 0, .int 0, .int 0, .int 0, .int 0, .int 0])) :: []))
  refine c_newi hX 200 aw_int (by decide) (by decide) (by decide) (by rw [hR]; decide) dX6_init_8 (fun q1 => (?_ : VC X 1 200 10 [some (.ref h)] [.ref q1, .ref h] (ws ++ (h, .inr (6, [.null, .int 0, .int 0, .int 0, .int 0, .int 0, .int 0])) :: [(q1, iA (xK X) 200)])))
  refine c_putF hX hin fk_X6_9 ff_6_0 rfl rfl rfl dX6_init_10 (?_ : VC X 1 200 13 [some (.ref h)] [] (ws ++ (h, .inr (6, [.ref q1, .int 0, .int 0, .int 0, .int 0, .int 0, .int 0])) :: [(q1, iA (xK X) 200)]))
  refine c_aload_n hX dX6_init_13 rfl (?_ : VC X 1 200 14 [some (.ref h)] [.ref h] (ws ++ (h, .inr (6, [.ref q1, .int 0, .int 0, .int 0, .int 0, .int 0, .int 0])) :: [(q1, iA (xK X) 200)]))
  refine c_iconst hX 0 dX6_init_14 rfl (?_ : VC X 1 200 15 [some (.ref h)] [.int 0, .ref h] (ws ++ (h, .inr (6, [.ref q1, .int 0, .int 0, .int 0, .int 0, .int 0, .int 0])) :: [(q1, iA (xK X) 200)]))
  refine c_put hX fk_X6_15 fw_6_1 rfl rfl rfl rfl dX6_init_15 (?_ : VC X 1 200 18 [some (.ref h)] [] (ws ++ (h, .inr (6, [.ref q1, .int 0, .int 0, .int 0, .int 0, .int 0, .int 0])) :: [(q1, iA (xK X) 200)]))
  refine c_aload_n hX dX6_init_18 rfl (?_ : VC X 1 200 19 [some (.ref h)] [.ref h] (ws ++ (h, .inr (6, [.ref q1, .int 0, .int 0, .int 0, .int 0, .int 0, .int 0])) :: [(q1, iA (xK X) 200)]))
  refine c_iconst hX 0 dX6_init_19 rfl (?_ : VC X 1 200 20 [some (.ref h)] [.int 0, .ref h] (ws ++ (h, .inr (6, [.ref q1, .int 0, .int 0, .int 0, .int 0, .int 0, .int 0])) :: [(q1, iA (xK X) 200)]))
  refine c_put hX fk_X6_19 fw_6_2 rfl rfl rfl rfl dX6_init_20 (?_ : VC X 1 200 23 [some (.ref h)] [] (ws ++ (h, .inr (6, [.ref q1, .int 0, .int 0, .int 0, .int 0, .int 0, .int 0])) :: [(q1, iA (xK X) 200)]))
  exact c_ret hX hr hQ ⟨q1, rfl⟩ dX6_init_23
def out1 (K : K3) (h q1 q2 q3 q4 : Nat) : va_W := [(h, .inr (1, [.ref q1, .ref q2, .int 0, .ref q3, .ref q4, .int 0, .int 0])), (q1, iA K 186), (q2, iA K 5), (q3, iA K 5), (q4, iA K 5)]
set_option maxRecDepth 20000 in
set_option maxHeartbeats 1000000 in
theorem ct_X1 (l : Launch) (D : va_G) (K : K3) (ws : va_W) (h : Nat) : CM l D K yX1_init cX1_init 1 1 12 4 201 h (ws ++ [(h, .inr (1, fz1))]) (fun w => ∃ q1 q2 q3 q4, w = ws ++ out1 K h q1 q2 q3 q4) := by
  refine cm_of (by decide) (by decide) ?_
  intro X hX hin hl hD hK hn hR hr hQ
  have hin : (xh X).name = "<init>" := hin
  subst hK
  refine c_aload_n hX dX1_init_0 rfl (?_ : VC X 0 0 1 [some (.ref h)] [.ref h] (ws ++ (h, .inr (1, [.null, .null, .int 0, .null, .null, .int 0, .int 0])) :: []))
  refine c_obj hX (by rw [hR]; decide) ol_X1 hi_obj hc_obj dX1_init_1 (?_ : VC X 0 0 4 [some (.ref h)] [] (ws ++ (h, .inr (1, [.null, .null, .int 0, .null, .null, .int 0, .int 0])) :: []))
  refine c_aload_n hX dX1_init_4 rfl (?_ : VC X 0 0 5 [some (.ref h)] [.ref h] (ws ++ (h, .inr (1, [.null, .null, .int 0, .null, .null, .int 0, .int 0])) :: []))
  refine c_sipush hX 186 dX1_init_5 rfl (?_ : VC X 0 0 8 [some (.ref h)] [.int 186, .ref h] (ws ++ (h, .inr (1, [.null, .null, .int 0, .null, .null, .int 0, .int 0])) :: []))
  refine c_newi hX 186 aw_int (by decide) (by decide) (by decide) (by rw [hR]; decide) dX1_init_8 (fun q1 => (?_ : VC X 1 186 10 [some (.ref h)] [.ref q1, .ref h] (ws ++ (h, .inr (1, [.null, .null, .int 0, .null, .null, .int 0, .int 0])) :: [(q1, iA (xK X) 186)])))
  refine c_putF hX hin fk_X1_11 ff_1_0 rfl rfl rfl dX1_init_10 (?_ : VC X 1 186 13 [some (.ref h)] [] (ws ++ (h, .inr (1, [.ref q1, .null, .int 0, .null, .null, .int 0, .int 0])) :: [(q1, iA (xK X) 186)]))
  refine c_aload_n hX dX1_init_13 rfl (?_ : VC X 1 186 14 [some (.ref h)] [.ref h] (ws ++ (h, .inr (1, [.ref q1, .null, .int 0, .null, .null, .int 0, .int 0])) :: [(q1, iA (xK X) 186)]))
  refine c_iconst hX 5 dX1_init_14 rfl (?_ : VC X 1 186 15 [some (.ref h)] [.int 5, .ref h] (ws ++ (h, .inr (1, [.ref q1, .null, .int 0, .null, .null, .int 0, .int 0])) :: [(q1, iA (xK X) 186)]))
  refine c_newi hX 5 aw_int (by decide) (by decide) (by decide) (by rw [hR]; decide) dX1_init_15 (fun q2 => (?_ : VC X 2 191 17 [some (.ref h)] [.ref q2, .ref h] (ws ++ (h, .inr (1, [.ref q1, .null, .int 0, .null, .null, .int 0, .int 0])) :: [(q1, iA (xK X) 186), (q2, iA (xK X) 5)])))
  refine c_putF hX hin fk_X1_15 ff_1_1 rfl rfl rfl dX1_init_17 (?_ : VC X 2 191 20 [some (.ref h)] [] (ws ++ (h, .inr (1, [.ref q1, .ref q2, .int 0, .null, .null, .int 0, .int 0])) :: [(q1, iA (xK X) 186), (q2, iA (xK X) 5)]))
  refine c_aload_n hX dX1_init_20 rfl (?_ : VC X 2 191 21 [some (.ref h)] [.ref h] (ws ++ (h, .inr (1, [.ref q1, .ref q2, .int 0, .null, .null, .int 0, .int 0])) :: [(q1, iA (xK X) 186), (q2, iA (xK X) 5)]))
  refine c_iconst hX 5 dX1_init_21 rfl (?_ : VC X 2 191 22 [some (.ref h)] [.int 5, .ref h] (ws ++ (h, .inr (1, [.ref q1, .ref q2, .int 0, .null, .null, .int 0, .int 0])) :: [(q1, iA (xK X) 186), (q2, iA (xK X) 5)]))
  refine c_newi hX 5 aw_int (by decide) (by decide) (by decide) (by rw [hR]; decide) dX1_init_22 (fun q3 => (?_ : VC X 3 196 24 [some (.ref h)] [.ref q3, .ref h] (ws ++ (h, .inr (1, [.ref q1, .ref q2, .int 0, .null, .null, .int 0, .int 0])) :: [(q1, iA (xK X) 186), (q2, iA (xK X) 5), (q3, iA (xK X) 5)])))
  refine c_putF hX hin fk_X1_18 ff_1_3 rfl rfl rfl dX1_init_24 (?_ : VC X 3 196 27 [some (.ref h)] [] (ws ++ (h, .inr (1, [.ref q1, .ref q2, .int 0, .ref q3, .null, .int 0, .int 0])) :: [(q1, iA (xK X) 186), (q2, iA (xK X) 5), (q3, iA (xK X) 5)]))
  refine c_aload_n hX dX1_init_27 rfl (?_ : VC X 3 196 28 [some (.ref h)] [.ref h] (ws ++ (h, .inr (1, [.ref q1, .ref q2, .int 0, .ref q3, .null, .int 0, .int 0])) :: [(q1, iA (xK X) 186), (q2, iA (xK X) 5), (q3, iA (xK X) 5)]))
  refine c_iconst hX 5 dX1_init_28 rfl (?_ : VC X 3 196 29 [some (.ref h)] [.int 5, .ref h] (ws ++ (h, .inr (1, [.ref q1, .ref q2, .int 0, .ref q3, .null, .int 0, .int 0])) :: [(q1, iA (xK X) 186), (q2, iA (xK X) 5), (q3, iA (xK X) 5)]))
  refine c_newi hX 5 aw_int (by decide) (by decide) (by decide) (by rw [hR]; decide) dX1_init_29 (fun q4 => (?_ : VC X 4 201 31 [some (.ref h)] [.ref q4, .ref h] (ws ++ (h, .inr (1, [.ref q1, .ref q2, .int 0, .ref q3, .null, .int 0, .int 0])) :: [(q1, iA (xK X) 186), (q2, iA (xK X) 5), (q3, iA (xK X) 5), (q4, iA (xK X) 5)])))
  refine c_putF hX hin fk_X1_21 ff_1_4 rfl rfl rfl dX1_init_31 (?_ : VC X 4 201 34 [some (.ref h)] [] (ws ++ (h, .inr (1, [.ref q1, .ref q2, .int 0, .ref q3, .ref q4, .int 0, .int 0])) :: [(q1, iA (xK X) 186), (q2, iA (xK X) 5), (q3, iA (xK X) 5), (q4, iA (xK X) 5)]))
  exact c_ret hX hr hQ ⟨q1, q2, q3, q4, rfl⟩ dX1_init_34
def out0 (K : K3) (h q1 q2 q3 : Nat) : va_W := [(h, .inr (0, [.ref q1, .int 0, .int 0, .int 0, .ref q2, .ref q3, .int 0])), (q1, iA K 5), (q2, iA K 5), (q3, iA K 5)]
set_option maxRecDepth 20000 in
set_option maxHeartbeats 1000000 in
theorem ct_X0 (l : Launch) (D : va_G) (K : K3) (ws : va_W) (h : Nat) : CM l D K yX0_init cX0_init 1 1 12 3 15 h (ws ++ [(h, .inr (0, fz0))]) (fun w => ∃ q1 q2 q3, w = ws ++ out0 K h q1 q2 q3) := by
  refine cm_of (by decide) (by decide) ?_
  intro X hX hin hl hD hK hn hR hr hQ
  have hin : (xh X).name = "<init>" := hin
  subst hK
  refine c_aload_n hX dX0_init_0 rfl (?_ : VC X 0 0 1 [some (.ref h)] [.ref h] (ws ++ (h, .inr (0, [.null, .int 0, .int 0, .int 0, .null, .null, .int 0])) :: []))
  refine c_obj hX (by rw [hR]; decide) ol_X0 hi_obj hc_obj dX0_init_1 (?_ : VC X 0 0 4 [some (.ref h)] [] (ws ++ (h, .inr (0, [.null, .int 0, .int 0, .int 0, .null, .null, .int 0])) :: []))
  refine c_aload_n hX dX0_init_4 rfl (?_ : VC X 0 0 5 [some (.ref h)] [.ref h] (ws ++ (h, .inr (0, [.null, .int 0, .int 0, .int 0, .null, .null, .int 0])) :: []))
  refine c_iconst hX 5 dX0_init_5 rfl (?_ : VC X 0 0 6 [some (.ref h)] [.int 5, .ref h] (ws ++ (h, .inr (0, [.null, .int 0, .int 0, .int 0, .null, .null, .int 0])) :: []))
  refine c_newi hX 5 aw_int (by decide) (by decide) (by decide) (by rw [hR]; decide) dX0_init_6 (fun q1 => (?_ : VC X 1 5 8 [some (.ref h)] [.ref q1, .ref h] (ws ++ (h, .inr (0, [.null, .int 0, .int 0, .int 0, .null, .null, .int 0])) :: [(q1, iA (xK X) 5)])))
  refine c_putF hX hin fk_X0_9 ff_0_0 rfl rfl rfl dX0_init_8 (?_ : VC X 1 5 11 [some (.ref h)] [] (ws ++ (h, .inr (0, [.ref q1, .int 0, .int 0, .int 0, .null, .null, .int 0])) :: [(q1, iA (xK X) 5)]))
  refine c_aload_n hX dX0_init_11 rfl (?_ : VC X 1 5 12 [some (.ref h)] [.ref h] (ws ++ (h, .inr (0, [.ref q1, .int 0, .int 0, .int 0, .null, .null, .int 0])) :: [(q1, iA (xK X) 5)]))
  refine c_iconst hX 5 dX0_init_12 rfl (?_ : VC X 1 5 13 [some (.ref h)] [.int 5, .ref h] (ws ++ (h, .inr (0, [.ref q1, .int 0, .int 0, .int 0, .null, .null, .int 0])) :: [(q1, iA (xK X) 5)]))
  refine c_newi hX 5 aw_int (by decide) (by decide) (by decide) (by rw [hR]; decide) dX0_init_13 (fun q2 => (?_ : VC X 2 10 15 [some (.ref h)] [.ref q2, .ref h] (ws ++ (h, .inr (0, [.ref q1, .int 0, .int 0, .int 0, .null, .null, .int 0])) :: [(q1, iA (xK X) 5), (q2, iA (xK X) 5)])))
  refine c_putF hX hin fk_X0_15 ff_0_4 rfl rfl rfl dX0_init_15 (?_ : VC X 2 10 18 [some (.ref h)] [] (ws ++ (h, .inr (0, [.ref q1, .int 0, .int 0, .int 0, .ref q2, .null, .int 0])) :: [(q1, iA (xK X) 5), (q2, iA (xK X) 5)]))
  refine c_aload_n hX dX0_init_18 rfl (?_ : VC X 2 10 19 [some (.ref h)] [.ref h] (ws ++ (h, .inr (0, [.ref q1, .int 0, .int 0, .int 0, .ref q2, .null, .int 0])) :: [(q1, iA (xK X) 5), (q2, iA (xK X) 5)]))
  refine c_iconst hX 5 dX0_init_19 rfl (?_ : VC X 2 10 20 [some (.ref h)] [.int 5, .ref h] (ws ++ (h, .inr (0, [.ref q1, .int 0, .int 0, .int 0, .ref q2, .null, .int 0])) :: [(q1, iA (xK X) 5), (q2, iA (xK X) 5)]))
  refine c_newi hX 5 aw_int (by decide) (by decide) (by decide) (by rw [hR]; decide) dX0_init_20 (fun q3 => (?_ : VC X 3 15 22 [some (.ref h)] [.ref q3, .ref h] (ws ++ (h, .inr (0, [.ref q1, .int 0, .int 0, .int 0, .ref q2, .null, .int 0])) :: [(q1, iA (xK X) 5), (q2, iA (xK X) 5), (q3, iA (xK X) 5)])))
  refine c_putF hX hin fk_X0_18 ff_0_5 rfl rfl rfl dX0_init_22 (?_ : VC X 3 15 25 [some (.ref h)] [] (ws ++ (h, .inr (0, [.ref q1, .int 0, .int 0, .int 0, .ref q2, .ref q3, .int 0])) :: [(q1, iA (xK X) 5), (q2, iA (xK X) 5), (q3, iA (xK X) 5)]))
  exact c_ret hX hr hQ ⟨q1, q2, q3, rfl⟩ dX0_init_25
def out3 (K : K3) (h q1 q2 : Nat) : va_W := [(h, .inr (3, [.ref q2, .ref q1])), (q1, iA K 5), (q2, iA K 64)]
set_option maxRecDepth 20000 in
set_option maxHeartbeats 1000000 in
theorem ct_X3 (l : Launch) (D : va_G) (K : K3) (ws : va_W) (h : Nat) : CM l D K yX3_init cX3_init 1 1 12 2 69 h (ws ++ [(h, .inr (3, fz3))]) (fun w => ∃ q1 q2, w = ws ++ out3 K h q1 q2) := by
  refine cm_of (by decide) (by decide) ?_
  intro X hX hin hl hD hK hn hR hr hQ
  have hin : (xh X).name = "<init>" := hin
  subst hK
  refine c_aload_n hX dX3_init_0 rfl (?_ : VC X 0 0 1 [some (.ref h)] [.ref h] (ws ++ (h, .inr (3, [.null, .null])) :: []))
  refine c_obj hX (by rw [hR]; decide) ol_X3 hi_obj hc_obj dX3_init_1 (?_ : VC X 0 0 4 [some (.ref h)] [] (ws ++ (h, .inr (3, [.null, .null])) :: []))
  refine c_aload_n hX dX3_init_4 rfl (?_ : VC X 0 0 5 [some (.ref h)] [.ref h] (ws ++ (h, .inr (3, [.null, .null])) :: []))
  refine c_iconst hX 5 dX3_init_5 rfl (?_ : VC X 0 0 6 [some (.ref h)] [.int 5, .ref h] (ws ++ (h, .inr (3, [.null, .null])) :: []))
  refine c_newi hX 5 aw_int (by decide) (by decide) (by decide) (by rw [hR]; decide) dX3_init_6 (fun q1 => (?_ : VC X 1 5 8 [some (.ref h)] [.ref q1, .ref h] (ws ++ (h, .inr (3, [.null, .null])) :: [(q1, iA (xK X) 5)])))
  refine c_putF hX hin fk_X3_9 ff_3_1 rfl rfl rfl dX3_init_8 (?_ : VC X 1 5 11 [some (.ref h)] [] (ws ++ (h, .inr (3, [.null, .ref q1])) :: [(q1, iA (xK X) 5)]))
  refine c_aload_n hX dX3_init_11 rfl (?_ : VC X 1 5 12 [some (.ref h)] [.ref h] (ws ++ (h, .inr (3, [.null, .ref q1])) :: [(q1, iA (xK X) 5)]))
  refine c_bipush hX 64 dX3_init_12 rfl (?_ : VC X 1 5 14 [some (.ref h)] [.int 64, .ref h] (ws ++ (h, .inr (3, [.null, .ref q1])) :: [(q1, iA (xK X) 5)]))
  refine c_newi hX 64 aw_int (by decide) (by decide) (by decide) (by rw [hR]; decide) dX3_init_14 (fun q2 => (?_ : VC X 2 69 16 [some (.ref h)] [.ref q2, .ref h] (ws ++ (h, .inr (3, [.null, .ref q1])) :: [(q1, iA (xK X) 5), (q2, iA (xK X) 64)])))
  refine c_putF hX hin fk_X3_15 ff_3_0 rfl rfl rfl dX3_init_16 (?_ : VC X 2 69 19 [some (.ref h)] [] (ws ++ (h, .inr (3, [.ref q2, .ref q1])) :: [(q1, iA (xK X) 5), (q2, iA (xK X) 64)]))
  exact c_ret hX hr hQ ⟨q1, q2, rfl⟩ dX3_init_19
def out4 (K : K3) (h q1 q2 : Nat) : va_W := [(h, .inr (4, [.ref q1, .ref q2, .int 0])), (q1, iA K 5), (q2, iA K 5)]
set_option maxRecDepth 20000 in
set_option maxHeartbeats 1000000 in
theorem ct_X4 (l : Launch) (D : va_G) (K : K3) (ws : va_W) (h : Nat) : CM l D K yX4_init cX4_init 1 1 12 2 10 h (ws ++ [(h, .inr (4, fz4))]) (fun w => ∃ q1 q2, w = ws ++ out4 K h q1 q2) := by
  refine cm_of (by decide) (by decide) ?_
  intro X hX hin hl hD hK hn hR hr hQ
  have hin : (xh X).name = "<init>" := hin
  subst hK
  refine c_aload_n hX dX4_init_0 rfl (?_ : VC X 0 0 1 [some (.ref h)] [.ref h] (ws ++ (h, .inr (4, [.null, .null, .int 0])) :: []))
  refine c_obj hX (by rw [hR]; decide) ol_X4 hi_obj hc_obj dX4_init_1 (?_ : VC X 0 0 4 [some (.ref h)] [] (ws ++ (h, .inr (4, [.null, .null, .int 0])) :: []))
  refine c_aload_n hX dX4_init_4 rfl (?_ : VC X 0 0 5 [some (.ref h)] [.ref h] (ws ++ (h, .inr (4, [.null, .null, .int 0])) :: []))
  refine c_iconst hX 5 dX4_init_5 rfl (?_ : VC X 0 0 6 [some (.ref h)] [.int 5, .ref h] (ws ++ (h, .inr (4, [.null, .null, .int 0])) :: []))
  refine c_newi hX 5 aw_int (by decide) (by decide) (by decide) (by rw [hR]; decide) dX4_init_6 (fun q1 => (?_ : VC X 1 5 8 [some (.ref h)] [.ref q1, .ref h] (ws ++ (h, .inr (4, [.null, .null, .int 0])) :: [(q1, iA (xK X) 5)])))
  refine c_putF hX hin fk_X4_9 ff_4_0 rfl rfl rfl dX4_init_8 (?_ : VC X 1 5 11 [some (.ref h)] [] (ws ++ (h, .inr (4, [.ref q1, .null, .int 0])) :: [(q1, iA (xK X) 5)]))
  refine c_aload_n hX dX4_init_11 rfl (?_ : VC X 1 5 12 [some (.ref h)] [.ref h] (ws ++ (h, .inr (4, [.ref q1, .null, .int 0])) :: [(q1, iA (xK X) 5)]))
  refine c_iconst hX 5 dX4_init_12 rfl (?_ : VC X 1 5 13 [some (.ref h)] [.int 5, .ref h] (ws ++ (h, .inr (4, [.ref q1, .null, .int 0])) :: [(q1, iA (xK X) 5)]))
  refine c_newi hX 5 aw_int (by decide) (by decide) (by decide) (by rw [hR]; decide) dX4_init_13 (fun q2 => (?_ : VC X 2 10 15 [some (.ref h)] [.ref q2, .ref h] (ws ++ (h, .inr (4, [.ref q1, .null, .int 0])) :: [(q1, iA (xK X) 5), (q2, iA (xK X) 5)])))
  refine c_putF hX hin fk_X4_15 ff_4_1 rfl rfl rfl dX4_init_15 (?_ : VC X 2 10 18 [some (.ref h)] [] (ws ++ (h, .inr (4, [.ref q1, .ref q2, .int 0])) :: [(q1, iA (xK X) 5), (q2, iA (xK X) 5)]))
  refine c_aload_n hX dX4_init_18 rfl (?_ : VC X 2 10 19 [some (.ref h)] [.ref h] (ws ++ (h, .inr (4, [.ref q1, .ref q2, .int 0])) :: [(q1, iA (xK X) 5), (q2, iA (xK X) 5)]))
  refine c_iconst hX 0 dX4_init_19 rfl (?_ : VC X 2 10 20 [some (.ref h)] [.int 0, .ref h] (ws ++ (h, .inr (4, [.ref q1, .ref q2, .int 0])) :: [(q1, iA (xK X) 5), (q2, iA (xK X) 5)]))
  refine c_put hX fk_X4_18 fw_4_2 rfl rfl rfl rfl dX4_init_20 (?_ : VC X 2 10 23 [some (.ref h)] [] (ws ++ (h, .inr (4, [.ref q1, .ref q2, .int 0])) :: [(q1, iA (xK X) 5), (q2, iA (xK X) 5)]))
  exact c_ret hX hr hQ ⟨q1, q2, rfl⟩ dX4_init_23

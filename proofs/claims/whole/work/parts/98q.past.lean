/-! Past's constructor: a row of ten Scenes -/
def scl (K : K3) (v a b : Nat → Nat) : Nat → va_W
  | 0 => []
  | n + 1 => scl K v a b n ++ out7 K (v n) (a n) (b n)
def fR (v : Nat → Nat) (i : Nat) : Nat → Option Nat := fun j => if j < i then some (v j) else none
theorem scl_c {K : K3} {v v' a a' b b' : Nat → Nat} : ∀ n, (∀ j, j < n → v j = v' j ∧ a j = a' j ∧ b j = b' j) → scl K v a b n = scl K v' a' b' n := by
  intro n
  induction n with
  | zero => intro _; rfl
  | succ n ih =>
    intro h
    unfold scl
    rw [ih (fun j hj => h j (by omega)), (h n (by omega)).1, (h n (by omega)).2.1, (h n (by omega)).2.2]
def upN (f : Nat → Nat) (i x : Nat) : Nat → Nat := fun j => if j = i then x else f j
theorem scl_up {K : K3} {v a b : Nat → Nat} {i x y z : Nat} : scl K (upN v i x) (upN a i y) (upN b i z) (i + 1) = scl K v a b i ++ out7 K x y z := by
  show scl K (upN v i x) (upN a i y) (upN b i z) i ++ out7 K (upN v i x i) (upN a i y i) (upN b i z i) = _
  rw [scl_c (v' := v) (a' := a) (b' := b) i (fun j hj => by unfold upN; rw [if_neg (by omega), if_neg (by omega), if_neg (by omega)]; exact ⟨rfl, rfl, rfl⟩)]
  unfold upN
  rw [if_pos rfl, if_pos rfl, if_pos rfl]
theorem fR_up {v : Nat → Nat} {i x : Nat} : va_up (fR v i) i (some x) = fR (upN v i x) (i + 1) := funext fun j => by
  unfold va_up fR upN
  by_cases z : j = i
  · rw [if_pos z, if_pos (by omega), if_pos z]
  · rw [if_neg z, if_neg z]
    by_cases y : j < i
    · rw [if_pos y, if_pos (by omega)]
    · rw [if_neg y, if_neg (by omega)]
set_option maxRecDepth 20000 in
set_option maxHeartbeats 1000000 in
theorem past_loop {X : XT} (hX : OkC X cX5_init RX5) (hn : xn X = 2) (hR : xR X = rmC 2 32 31 180) {ws : va_W} {h qa : Nat} (kk : ∀ v a b, VC X 31 180 40 [some (.ref h), some (.int (nI 10))] [] (ws ++ (h, .inr (5, [.ref qa, .int 0, .int 0])) :: ((qa, rA (xK X) 10 (fR v 10)) :: scl (xK X) v a b 10))) :
    ∀ n i v a b, i + n = 10 → VC X (1 + 3 * i) (10 + 17 * i) 15 [some (.ref h), some (.int (nI i))] [] (ws ++ (h, .inr (5, [.ref qa, .int 0, .int 0])) :: ((qa, rA (xK X) 10 (fR v i)) :: scl (xK X) v a b i)) := by
  intro n
  induction n with
  | zero =>
    intro i v a b hi
    have : i = 10 := by omega
    subst this
    refine c_iload_n hX dX5_init_15 rfl (?_ : VC X _ _ 16 _ [.int (nI 10)] _)
    refine c_bipush hX 10 dX5_init_16 rfl (?_ : VC X _ _ 18 _ [.int 10, .int (nI 10)] _)
    exact c_icmp_ge hX 40 dX5_init_18 rfl (fun _ => kk v a b) (fun c1 => absurd (by decide) c1)
  | succ n ih =>
    intro i v a b hi
    have hi10 : i < 10 := by omega
    refine c_iload_n hX dX5_init_15 rfl (?_ : VC X _ _ 16 _ [.int (nI i)] _)
    refine c_bipush hX 10 dX5_init_16 rfl (?_ : VC X _ _ 18 _ [.int 10, .int (nI i)] _)
    refine c_icmp_ge hX 40 dX5_init_18 rfl (fun c1 => ?_) (fun _ => ?_)
    · exfalso
      have z : (10 : Int32).toInt ≤ (nI i).toInt := i_le.mp c1
      rw [nI_toInt (by omega), show (10 : Int32).toInt = 10 from rfl] at z
      omega
    refine c_aload_n hX dX5_init_21 rfl (?_ : VC X _ _ 22 _ [.ref h] _)
    refine c_getr hX fk_X5_11 rfl dX5_init_22 (?_ : VC X _ _ 25 _ [.ref qa] _)
    refine c_iload_n hX dX5_init_25 rfl (?_ : VC X _ _ 26 _ [.int (nI i), .ref qa] _)
    refine c_new hX nw_7 cl_X5_9 (by rw [hR]; exact ⟨by show _ ≤ 31; omega, by show _ ≤ 180; omega⟩) dX5_init_26 (fun q => (?_ : VC X _ _ 29 _ [.ref q, .int (nI i), .ref qa] _))
    refine c_dup hX dX5_init_29 rfl (?_ : VC X _ _ 30 _ [.ref q, .ref q, .int (nI i), .ref qa] _)
    refine c_callI hX (ct_X7 (xl X) (xD X) (xK X) _ q) ck_X7_init ci_X5_17 (by rw [hR]; decide) (by rw [hR]; exact ⟨by show _ ≤ 31; omega, by show _ ≤ 180; omega⟩) (Nat.le_of_ble_eq_true rfl) dX5_init_30 (fun w' hw' => (?_ : VC X _ _ 33 _ [.ref q, .int (nI i), .ref qa] _))
    obtain ⟨a', b', rfl⟩ := hw'
    refine c_eq (w' := (ws ++ [(h, .inr (5, [.ref qa, .int 0, .int 0]))]) ++ (qa, rA (xK X) 10 (fR v i)) :: (scl (xK X) v a b i ++ (q, .inr (7, [.int (-9), .int (-9), .int 0, .int 0, .int 0, .ref a', .ref b'])) :: [(a', iA (xK X) 5), (b', iA (xK X) 5)])) (by simp [out7]) ?_
    refine c_aast hX (vp_in_nI hi10 (by omega)) dX5_init_33 (?_ : VC X _ _ 34 _ [] _)
    refine c_iinc hX 1 dX5_init_34 (by rw [hn]; decide) rfl rfl (?_ : VC X _ _ 37 [some (.ref h), some (.int (nI i + 1))] [] _)
    refine c_goto hX 15 dX5_init_37 rfl ?_
    have := ih (i + 1) (upN v i q) (upN a i a') (upN b i b') (by omega)
    rw [show 1 + 3 * (i + 1) = 1 + 3 * i + 1 + 2 from by omega, show 10 + 17 * (i + 1) = 10 + 17 * i + 7 + 10 from by omega, ← nI_1, scl_up, ← fR_up] at this
    refine c_eq ?_ this
    rw [nI_clamp (by omega)]
    simp [out7]
set_option maxRecDepth 20000 in
set_option maxHeartbeats 1000000 in
theorem ct_X5 (l : Launch) (D : va_G) (K : K3) (ws : va_W) (h : Nat) : CM l D K yX5_init cX5_init 2 2 32 31 180 h (ws ++ [(h, .inr (5, fz5))]) (fun w => ∃ qa v a b, w = ws ++ (h, .inr (5, [.ref qa, .int 0, .int 0])) :: ((qa, rA K 10 (fR v 10)) :: scl K v a b 10)) := by
  refine cm_of (by decide) (by decide) ?_
  intro X hX hin hl hD hK hn hR hr hQ
  have hin : (xh X).name = "<init>" := hin
  subst hK
  refine c_aload_n hX dX5_init_0 rfl (?_ : VC X 0 0 1 [some (.ref h), none] [.ref h] (ws ++ (h, .inr (5, [.null, .int 0, .int 0])) :: []))
  refine c_obj hX (by rw [hR]; decide) ol_X5 hi_obj hc_obj dX5_init_1 (?_ : VC X 0 0 4 [some (.ref h), none] [] (ws ++ (h, .inr (5, [.null, .int 0, .int 0])) :: []))
  refine c_aload_n hX dX5_init_4 rfl (?_ : VC X 0 0 5 [some (.ref h), none] [.ref h] (ws ++ (h, .inr (5, [.null, .int 0, .int 0])) :: []))
  refine c_bipush hX 10 dX5_init_5 rfl (?_ : VC X 0 0 7 [some (.ref h), none] [.int 10, .ref h] (ws ++ (h, .inr (5, [.null, .int 0, .int 0])) :: []))
  refine c_newq hX 10 cl_X5_9 (by decide) (by decide) (by decide) (by rw [hR]; decide) dX5_init_7 (fun qa => (?_ : VC X 1 10 10 [some (.ref h), none] [.ref qa, .ref h] (ws ++ (h, .inr (5, [.null, .int 0, .int 0])) :: [(qa, rA (xK X) 10 (fun _ => none))])))
  refine c_putF hX hin fk_X5_11 ff_5_0 rfl rfl rfl dX5_init_10 (?_ : VC X 1 10 13 [some (.ref h), none] [] (ws ++ (h, .inr (5, [.ref qa, .int 0, .int 0])) :: [(qa, rA (xK X) 10 (fun _ => none))]))
  refine c_iconst hX 0 dX5_init_13 rfl (?_ : VC X 1 10 14 [some (.ref h), none] [.int 0] _)
  refine c_istore_n hX dX5_init_14 (by rw [hn]; decide) (?_ : VC X 1 10 15 [some (.ref h), some (.int 0)] [] _)
  refine past_loop hX hn hR (fun v a b => ?_) 10 0 (fun _ => 0) (fun _ => 0) (fun _ => 0) rfl
  refine c_aload_n hX dX5_init_40 rfl (?_ : VC X 31 180 41 _ [.ref h] _)
  refine c_iconst hX 0 dX5_init_41 rfl (?_ : VC X 31 180 42 _ [.int 0, .ref h] _)
  refine c_put hX fk_X5_18 fw_5_1 rfl rfl rfl rfl dX5_init_42 (?_ : VC X 31 180 45 _ [] (ws ++ (h, .inr (5, [.ref qa, .int 0, .int 0])) :: ((qa, rA (xK X) 10 (fR v 10)) :: scl (xK X) v a b 10)))
  refine c_aload_n hX dX5_init_45 rfl (?_ : VC X 31 180 46 _ [.ref h] _)
  refine c_iconst hX 0 dX5_init_46 rfl (?_ : VC X 31 180 47 _ [.int 0, .ref h] _)
  refine c_put hX fk_X5_22 fw_5_2 rfl rfl rfl rfl dX5_init_47 (?_ : VC X 31 180 50 _ [] (ws ++ (h, .inr (5, [.ref qa, .int 0, .int 0])) :: ((qa, rA (xK X) 10 (fR v 10)) :: scl (xK X) v a b 10)))
  exact c_ret hX hr hQ ⟨qa, v, a, b, rfl⟩ dX5_init_50

/-! the law: a case a call -/
/-- the six ints of a call are there -/
def In6 (i : Int32) (Ln : Nat) : Prop := vp_in i Ln ∧ vp_in (i + 1) Ln ∧ vp_in (i + 2) Ln ∧ vp_in (i + 3) Ln ∧ vp_in (i + 4) Ln ∧ vp_in (i + 5) Ln
theorem cmp_self (x : Int64) : lg_cmp x x = 0 := by unfold lg_cmp; simp
set_option maxRecDepth 20000 in
set_option maxHeartbeats 1000000 in
theorem lc_type {X : XT} {b Ln : Nat} {xv : Nat → Int32} (hL : LwX X b Ln xv) {i : Int32} {μ : Mem} (hI : Inv μ) (h6 : In6 i Ln) (kk : ∀ m, Inv m → VL X 778 [some (.ref 95), some (.ref 0), some (.ref 75), some (.int i)] [] m) : VL X 156 [some (.ref 95), some (.ref 0), some (.ref 75), some (.int i)] [] μ := by
  have hX := hL.1
  refine u_aload_n hX dL_law_156 rfl (?_ : VL X 157 [some (.ref 95), some (.ref 0), some (.ref 75), some (.int i)] [.ref 0] _)
  refine u_aload_n hX dL_law_157 rfl (?_ : VL X 158 [some (.ref 95), some (.ref 0), some (.ref 75), some (.int i)] [.ref 95, .ref 0] _)
  refine u_iload_n hX dL_law_158 rfl (?_ : VL X 159 [some (.ref 95), some (.ref 0), some (.ref 75), some (.int i)] [.int i, .ref 95, .ref 0] _)
  refine u_iconst hX 1 dL_law_159 rfl (?_ : VL X 160 [some (.ref 95), some (.ref 0), some (.ref 75), some (.int i)] [.int 1, .int i, .ref 95, .ref 0] _)
  refine u_iadd hX dL_law_160 (?_ : VL X 161 [some (.ref 95), some (.ref 0), some (.ref 75), some (.int i)] [.int (i + 1), .ref 95, .ref 0] _)
  refine u_sld hL h6.2.1 dL_law_161 (?_ : VL X 162 [some (.ref 95), some (.ref 0), some (.ref 75), some (.int i)] [.int (xv (i + 1).toNatClampNeg), .ref 0] _)
  have s1 := st_type hI (xv (i + 1).toNatClampNeg)
  refine u_callV hX (room_ok hL) sp_X8_type ck_X8_type mk_L_13 mv_X8_type sh_0 (by decide) (by decide) [.int (xv (i + 1).toNatClampNeg)] [] rfl rfl (Nat.le_of_ble_eq_true rfl) dL_law_162 ⟨(xv (i + 1).toNatClampNeg), rfl, s1.1, fun x m hp => (?_ : VL X 165 [some (.ref 95), some (.ref 0), some (.ref 75), some (.int i)] [.int x] m)⟩
  have s2 := s1.2 x m hp
  refine u_aload_n hX dL_law_165 rfl (?_ : VL X 166 [some (.ref 95), some (.ref 0), some (.ref 75), some (.int i)] [.ref 75, .int x] _)
  refine u_aload_n hX dL_law_166 rfl (?_ : VL X 167 [some (.ref 95), some (.ref 0), some (.ref 75), some (.int i)] [.ref 95, .ref 75, .int x] _)
  refine u_iload_n hX dL_law_167 rfl (?_ : VL X 168 [some (.ref 95), some (.ref 0), some (.ref 75), some (.int i)] [.int i, .ref 95, .ref 75, .int x] _)
  refine u_iconst hX 1 dL_law_168 rfl (?_ : VL X 169 [some (.ref 95), some (.ref 0), some (.ref 75), some (.int i)] [.int 1, .int i, .ref 95, .ref 75, .int x] _)
  refine u_iadd hX dL_law_169 (?_ : VL X 170 [some (.ref 95), some (.ref 0), some (.ref 75), some (.int i)] [.int (i + 1), .ref 95, .ref 75, .int x] _)
  refine u_sld hL h6.2.1 dL_law_170 (?_ : VL X 171 [some (.ref 95), some (.ref 0), some (.ref 75), some (.int i)] [.int (xv (i + 1).toNatClampNeg), .ref 75, .int x] _)
  refine u_callV hX (room_ok hL) sp_X9_type ck_X9_type mk_L_17 mv_X9_type sh_75 (by decide) (by decide) [.int (xv (i + 1).toNatClampNeg)] [.int x] rfl rfl (Nat.le_of_ble_eq_true rfl) dL_law_171 ⟨(xv (i + 1).toNatClampNeg), rfl, s2.1, fun y m' hp' => (?_ : VL X 174 [some (.ref 95), some (.ref 0), some (.ref 75), some (.int i)] [.int y, .int x] m')⟩
  have s3 := s2.2 y m' hp'
  exact u_icmp_eq hX 778 dL_law_174 rfl (fun _ => kk _ s3.2) (fun c1 => absurd s3.1 c1)
set_option maxRecDepth 20000 in
set_option maxHeartbeats 1000000 in
theorem lc_clear {X : XT} {b Ln : Nat} {xv : Nat → Int32} (hL : LwX X b Ln xv) {i : Int32} {μ : Mem} (hI : Inv μ) (h6 : In6 i Ln) (kk : ∀ m, Inv m → VL X 778 [some (.ref 95), some (.ref 0), some (.ref 75), some (.int i)] [] m) : VL X 179 [some (.ref 95), some (.ref 0), some (.ref 75), some (.int i)] [] μ := by
  have hX := hL.1
  refine u_aload_n hX dL_law_179 rfl (?_ : VL X 180 [some (.ref 95), some (.ref 0), some (.ref 75), some (.int i)] [.ref 0] _)
  have s1 := st_clear hI 
  refine u_callV hX (room_ok hL) sp_X8_clear ck_X8_clear mk_L_18 mv_X8_clear sh_0 (by decide) (by decide) [] [] rfl rfl (Nat.le_of_ble_eq_true rfl) dL_law_180 ⟨rfl, s1.1, fun x m hp => (?_ : VL X 183 [some (.ref 95), some (.ref 0), some (.ref 75), some (.int i)] [.int x] m)⟩
  have s2 := s1.2 x m hp
  refine u_aload_n hX dL_law_183 rfl (?_ : VL X 184 [some (.ref 95), some (.ref 0), some (.ref 75), some (.int i)] [.ref 75, .int x] _)
  refine u_callV hX (room_ok hL) sp_X9_clear ck_X9_clear mk_L_22 mv_X9_clear sh_75 (by decide) (by decide) [] [.int x] rfl rfl (Nat.le_of_ble_eq_true rfl) dL_law_184 ⟨rfl, s2.1, fun y m' hp' => (?_ : VL X 187 [some (.ref 95), some (.ref 0), some (.ref 75), some (.int i)] [.int y, .int x] m')⟩
  have s3 := s2.2 y m' hp'
  exact u_icmp_eq hX 778 dL_law_187 rfl (fun _ => kk _ s3.2) (fun c1 => absurd s3.1 c1)
set_option maxRecDepth 20000 in
set_option maxHeartbeats 1000000 in
theorem lc_house {X : XT} {b Ln : Nat} {xv : Nat → Int32} (hL : LwX X b Ln xv) {i : Int32} {μ : Mem} (hI : Inv μ) (h6 : In6 i Ln) (kk : ∀ m, Inv m → VL X 778 [some (.ref 95), some (.ref 0), some (.ref 75), some (.int i)] [] m) : VL X 192 [some (.ref 95), some (.ref 0), some (.ref 75), some (.int i)] [] μ := by
  have hX := hL.1
  refine u_aload_n hX dL_law_192 rfl (?_ : VL X 193 [some (.ref 95), some (.ref 0), some (.ref 75), some (.int i)] [.ref 0] _)
  have s1 := st_house hI 
  refine u_callV hX (room_ok hL) sp_X8_house ck_X8_house mk_L_23 mv_X8_house sh_0 (by decide) (by decide) [] [] rfl rfl (Nat.le_of_ble_eq_true rfl) dL_law_193 ⟨rfl, s1.1, fun x m hp => (?_ : VL X 196 [some (.ref 95), some (.ref 0), some (.ref 75), some (.int i)] [.int x] m)⟩
  have s2 := s1.2 x m hp
  refine u_aload_n hX dL_law_196 rfl (?_ : VL X 197 [some (.ref 95), some (.ref 0), some (.ref 75), some (.int i)] [.ref 75, .int x] _)
  refine u_callV hX (room_ok hL) sp_X9_house ck_X9_house mk_L_26 mv_X9_house sh_75 (by decide) (by decide) [] [.int x] rfl rfl (Nat.le_of_ble_eq_true rfl) dL_law_197 ⟨rfl, s2.1, fun y m' hp' => (?_ : VL X 200 [some (.ref 95), some (.ref 0), some (.ref 75), some (.int i)] [.int y, .int x] m')⟩
  have s3 := s2.2 y m' hp'
  exact u_icmp_eq hX 778 dL_law_200 rfl (fun _ => kk _ s3.2) (fun c1 => absurd s3.1 c1)
set_option maxRecDepth 20000 in
set_option maxHeartbeats 1000000 in
theorem lc_room {X : XT} {b Ln : Nat} {xv : Nat → Int32} (hL : LwX X b Ln xv) {i : Int32} {μ : Mem} (hI : Inv μ) (h6 : In6 i Ln) (kk : ∀ m, Inv m → VL X 778 [some (.ref 95), some (.ref 0), some (.ref 75), some (.int i)] [] m) : VL X 205 [some (.ref 95), some (.ref 0), some (.ref 75), some (.int i)] [] μ := by
  have hX := hL.1
  refine u_aload_n hX dL_law_205 rfl (?_ : VL X 206 [some (.ref 95), some (.ref 0), some (.ref 75), some (.int i)] [.ref 0] _)
  refine u_aload_n hX dL_law_206 rfl (?_ : VL X 207 [some (.ref 95), some (.ref 0), some (.ref 75), some (.int i)] [.ref 95, .ref 0] _)
  refine u_iload_n hX dL_law_207 rfl (?_ : VL X 208 [some (.ref 95), some (.ref 0), some (.ref 75), some (.int i)] [.int i, .ref 95, .ref 0] _)
  refine u_iconst hX 1 dL_law_208 rfl (?_ : VL X 209 [some (.ref 95), some (.ref 0), some (.ref 75), some (.int i)] [.int 1, .int i, .ref 95, .ref 0] _)
  refine u_iadd hX dL_law_209 (?_ : VL X 210 [some (.ref 95), some (.ref 0), some (.ref 75), some (.int i)] [.int (i + 1), .ref 95, .ref 0] _)
  refine u_sld hL h6.2.1 dL_law_210 (?_ : VL X 211 [some (.ref 95), some (.ref 0), some (.ref 75), some (.int i)] [.int (xv (i + 1).toNatClampNeg), .ref 0] _)
  refine u_aload_n hX dL_law_211 rfl (?_ : VL X 212 [some (.ref 95), some (.ref 0), some (.ref 75), some (.int i)] [.ref 95, .int (xv (i + 1).toNatClampNeg), .ref 0] _)
  refine u_iload_n hX dL_law_212 rfl (?_ : VL X 213 [some (.ref 95), some (.ref 0), some (.ref 75), some (.int i)] [.int i, .ref 95, .int (xv (i + 1).toNatClampNeg), .ref 0] _)
  refine u_iconst hX 2 dL_law_213 rfl (?_ : VL X 214 [some (.ref 95), some (.ref 0), some (.ref 75), some (.int i)] [.int 2, .int i, .ref 95, .int (xv (i + 1).toNatClampNeg), .ref 0] _)
  refine u_iadd hX dL_law_214 (?_ : VL X 215 [some (.ref 95), some (.ref 0), some (.ref 75), some (.int i)] [.int (i + 2), .ref 95, .int (xv (i + 1).toNatClampNeg), .ref 0] _)
  refine u_sld hL h6.2.2.1 dL_law_215 (?_ : VL X 216 [some (.ref 95), some (.ref 0), some (.ref 75), some (.int i)] [.int (xv (i + 2).toNatClampNeg), .int (xv (i + 1).toNatClampNeg), .ref 0] _)
  have s1 := st_room hI (xv (i + 1).toNatClampNeg) (xv (i + 2).toNatClampNeg)
  refine u_callV hX (room_ok hL) sp_X8_room ck_X8_room mk_L_27 mv_X8_room sh_0 (by decide) (by decide) [.int (xv (i + 1).toNatClampNeg), .int (xv (i + 2).toNatClampNeg)] [] rfl rfl (Nat.le_of_ble_eq_true rfl) dL_law_216 ⟨(xv (i + 1).toNatClampNeg), (xv (i + 2).toNatClampNeg), rfl, s1.1, fun x m hp => (?_ : VL X 219 [some (.ref 95), some (.ref 0), some (.ref 75), some (.int i)] [.int x] m)⟩
  have s2 := s1.2 x m hp
  refine u_aload_n hX dL_law_219 rfl (?_ : VL X 220 [some (.ref 95), some (.ref 0), some (.ref 75), some (.int i)] [.ref 75, .int x] _)
  refine u_aload_n hX dL_law_220 rfl (?_ : VL X 221 [some (.ref 95), some (.ref 0), some (.ref 75), some (.int i)] [.ref 95, .ref 75, .int x] _)
  refine u_iload_n hX dL_law_221 rfl (?_ : VL X 222 [some (.ref 95), some (.ref 0), some (.ref 75), some (.int i)] [.int i, .ref 95, .ref 75, .int x] _)
  refine u_iconst hX 1 dL_law_222 rfl (?_ : VL X 223 [some (.ref 95), some (.ref 0), some (.ref 75), some (.int i)] [.int 1, .int i, .ref 95, .ref 75, .int x] _)
  refine u_iadd hX dL_law_223 (?_ : VL X 224 [some (.ref 95), some (.ref 0), some (.ref 75), some (.int i)] [.int (i + 1), .ref 95, .ref 75, .int x] _)
  refine u_sld hL h6.2.1 dL_law_224 (?_ : VL X 225 [some (.ref 95), some (.ref 0), some (.ref 75), some (.int i)] [.int (xv (i + 1).toNatClampNeg), .ref 75, .int x] _)
  refine u_aload_n hX dL_law_225 rfl (?_ : VL X 226 [some (.ref 95), some (.ref 0), some (.ref 75), some (.int i)] [.ref 95, .int (xv (i + 1).toNatClampNeg), .ref 75, .int x] _)
  refine u_iload_n hX dL_law_226 rfl (?_ : VL X 227 [some (.ref 95), some (.ref 0), some (.ref 75), some (.int i)] [.int i, .ref 95, .int (xv (i + 1).toNatClampNeg), .ref 75, .int x] _)
  refine u_iconst hX 2 dL_law_227 rfl (?_ : VL X 228 [some (.ref 95), some (.ref 0), some (.ref 75), some (.int i)] [.int 2, .int i, .ref 95, .int (xv (i + 1).toNatClampNeg), .ref 75, .int x] _)
  refine u_iadd hX dL_law_228 (?_ : VL X 229 [some (.ref 95), some (.ref 0), some (.ref 75), some (.int i)] [.int (i + 2), .ref 95, .int (xv (i + 1).toNatClampNeg), .ref 75, .int x] _)
  refine u_sld hL h6.2.2.1 dL_law_229 (?_ : VL X 230 [some (.ref 95), some (.ref 0), some (.ref 75), some (.int i)] [.int (xv (i + 2).toNatClampNeg), .int (xv (i + 1).toNatClampNeg), .ref 75, .int x] _)
  refine u_callV hX (room_ok hL) sp_X9_room ck_X9_room mk_L_31 mv_X9_room sh_75 (by decide) (by decide) [.int (xv (i + 1).toNatClampNeg), .int (xv (i + 2).toNatClampNeg)] [.int x] rfl rfl (Nat.le_of_ble_eq_true rfl) dL_law_230 ⟨(xv (i + 1).toNatClampNeg), (xv (i + 2).toNatClampNeg), rfl, s2.1, fun y m' hp' => (?_ : VL X 233 [some (.ref 95), some (.ref 0), some (.ref 75), some (.int i)] [.int y, .int x] m')⟩
  have s3 := s2.2 y m' hp'
  exact u_icmp_eq hX 778 dL_law_233 rfl (fun _ => kk _ s3.2) (fun c1 => absurd s3.1 c1)
set_option maxRecDepth 20000 in
set_option maxHeartbeats 1000000 in
theorem lc_doing {X : XT} {b Ln : Nat} {xv : Nat → Int32} (hL : LwX X b Ln xv) {i : Int32} {μ : Mem} (hI : Inv μ) (h6 : In6 i Ln) (kk : ∀ m, Inv m → VL X 778 [some (.ref 95), some (.ref 0), some (.ref 75), some (.int i)] [] m) : VL X 238 [some (.ref 95), some (.ref 0), some (.ref 75), some (.int i)] [] μ := by
  have hX := hL.1
  refine u_aload_n hX dL_law_238 rfl (?_ : VL X 239 [some (.ref 95), some (.ref 0), some (.ref 75), some (.int i)] [.ref 0] _)
  refine u_aload_n hX dL_law_239 rfl (?_ : VL X 240 [some (.ref 95), some (.ref 0), some (.ref 75), some (.int i)] [.ref 95, .ref 0] _)
  refine u_iload_n hX dL_law_240 rfl (?_ : VL X 241 [some (.ref 95), some (.ref 0), some (.ref 75), some (.int i)] [.int i, .ref 95, .ref 0] _)
  refine u_iconst hX 1 dL_law_241 rfl (?_ : VL X 242 [some (.ref 95), some (.ref 0), some (.ref 75), some (.int i)] [.int 1, .int i, .ref 95, .ref 0] _)
  refine u_iadd hX dL_law_242 (?_ : VL X 243 [some (.ref 95), some (.ref 0), some (.ref 75), some (.int i)] [.int (i + 1), .ref 95, .ref 0] _)
  refine u_sld hL h6.2.1 dL_law_243 (?_ : VL X 244 [some (.ref 95), some (.ref 0), some (.ref 75), some (.int i)] [.int (xv (i + 1).toNatClampNeg), .ref 0] _)
  refine u_aload_n hX dL_law_244 rfl (?_ : VL X 245 [some (.ref 95), some (.ref 0), some (.ref 75), some (.int i)] [.ref 95, .int (xv (i + 1).toNatClampNeg), .ref 0] _)
  refine u_iload_n hX dL_law_245 rfl (?_ : VL X 246 [some (.ref 95), some (.ref 0), some (.ref 75), some (.int i)] [.int i, .ref 95, .int (xv (i + 1).toNatClampNeg), .ref 0] _)
  refine u_iconst hX 2 dL_law_246 rfl (?_ : VL X 247 [some (.ref 95), some (.ref 0), some (.ref 75), some (.int i)] [.int 2, .int i, .ref 95, .int (xv (i + 1).toNatClampNeg), .ref 0] _)
  refine u_iadd hX dL_law_247 (?_ : VL X 248 [some (.ref 95), some (.ref 0), some (.ref 75), some (.int i)] [.int (i + 2), .ref 95, .int (xv (i + 1).toNatClampNeg), .ref 0] _)
  refine u_sld hL h6.2.2.1 dL_law_248 (?_ : VL X 249 [some (.ref 95), some (.ref 0), some (.ref 75), some (.int i)] [.int (xv (i + 2).toNatClampNeg), .int (xv (i + 1).toNatClampNeg), .ref 0] _)
  have s1 := st_doing hI (xv (i + 1).toNatClampNeg) (xv (i + 2).toNatClampNeg)
  refine u_callV hX (room_ok hL) sp_X8_doing ck_X8_doing mk_L_32 mv_X8_doing sh_0 (by decide) (by decide) [.int (xv (i + 1).toNatClampNeg), .int (xv (i + 2).toNatClampNeg)] [] rfl rfl (Nat.le_of_ble_eq_true rfl) dL_law_249 ⟨(xv (i + 1).toNatClampNeg), (xv (i + 2).toNatClampNeg), rfl, s1.1, fun x m hp => (?_ : VL X 252 [some (.ref 95), some (.ref 0), some (.ref 75), some (.int i)] [.int x] m)⟩
  have s2 := s1.2 x m hp
  refine u_aload_n hX dL_law_252 rfl (?_ : VL X 253 [some (.ref 95), some (.ref 0), some (.ref 75), some (.int i)] [.ref 75, .int x] _)
  refine u_aload_n hX dL_law_253 rfl (?_ : VL X 254 [some (.ref 95), some (.ref 0), some (.ref 75), some (.int i)] [.ref 95, .ref 75, .int x] _)
  refine u_iload_n hX dL_law_254 rfl (?_ : VL X 255 [some (.ref 95), some (.ref 0), some (.ref 75), some (.int i)] [.int i, .ref 95, .ref 75, .int x] _)
  refine u_iconst hX 1 dL_law_255 rfl (?_ : VL X 256 [some (.ref 95), some (.ref 0), some (.ref 75), some (.int i)] [.int 1, .int i, .ref 95, .ref 75, .int x] _)
  refine u_iadd hX dL_law_256 (?_ : VL X 257 [some (.ref 95), some (.ref 0), some (.ref 75), some (.int i)] [.int (i + 1), .ref 95, .ref 75, .int x] _)
  refine u_sld hL h6.2.1 dL_law_257 (?_ : VL X 258 [some (.ref 95), some (.ref 0), some (.ref 75), some (.int i)] [.int (xv (i + 1).toNatClampNeg), .ref 75, .int x] _)
  refine u_aload_n hX dL_law_258 rfl (?_ : VL X 259 [some (.ref 95), some (.ref 0), some (.ref 75), some (.int i)] [.ref 95, .int (xv (i + 1).toNatClampNeg), .ref 75, .int x] _)
  refine u_iload_n hX dL_law_259 rfl (?_ : VL X 260 [some (.ref 95), some (.ref 0), some (.ref 75), some (.int i)] [.int i, .ref 95, .int (xv (i + 1).toNatClampNeg), .ref 75, .int x] _)
  refine u_iconst hX 2 dL_law_260 rfl (?_ : VL X 261 [some (.ref 95), some (.ref 0), some (.ref 75), some (.int i)] [.int 2, .int i, .ref 95, .int (xv (i + 1).toNatClampNeg), .ref 75, .int x] _)
  refine u_iadd hX dL_law_261 (?_ : VL X 262 [some (.ref 95), some (.ref 0), some (.ref 75), some (.int i)] [.int (i + 2), .ref 95, .int (xv (i + 1).toNatClampNeg), .ref 75, .int x] _)
  refine u_sld hL h6.2.2.1 dL_law_262 (?_ : VL X 263 [some (.ref 95), some (.ref 0), some (.ref 75), some (.int i)] [.int (xv (i + 2).toNatClampNeg), .int (xv (i + 1).toNatClampNeg), .ref 75, .int x] _)
  refine u_callV hX (room_ok hL) sp_X9_doing ck_X9_doing mk_L_35 mv_X9_doing sh_75 (by decide) (by decide) [.int (xv (i + 1).toNatClampNeg), .int (xv (i + 2).toNatClampNeg)] [.int x] rfl rfl (Nat.le_of_ble_eq_true rfl) dL_law_263 ⟨(xv (i + 1).toNatClampNeg), (xv (i + 2).toNatClampNeg), rfl, s2.1, fun y m' hp' => (?_ : VL X 266 [some (.ref 95), some (.ref 0), some (.ref 75), some (.int i)] [.int y, .int x] m')⟩
  have s3 := s2.2 y m' hp'
  exact u_icmp_eq hX 778 dL_law_266 rfl (fun _ => kk _ s3.2) (fun c1 => absurd s3.1 c1)
set_option maxRecDepth 20000 in
set_option maxHeartbeats 1000000 in
theorem lc_suspect {X : XT} {b Ln : Nat} {xv : Nat → Int32} (hL : LwX X b Ln xv) {i : Int32} {μ : Mem} (hI : Inv μ) (h6 : In6 i Ln) (kk : ∀ m, Inv m → VL X 778 [some (.ref 95), some (.ref 0), some (.ref 75), some (.int i)] [] m) : VL X 271 [some (.ref 95), some (.ref 0), some (.ref 75), some (.int i)] [] μ := by
  have hX := hL.1
  refine u_aload_n hX dL_law_271 rfl (?_ : VL X 272 [some (.ref 95), some (.ref 0), some (.ref 75), some (.int i)] [.ref 0] _)
  refine u_aload_n hX dL_law_272 rfl (?_ : VL X 273 [some (.ref 95), some (.ref 0), some (.ref 75), some (.int i)] [.ref 95, .ref 0] _)
  refine u_iload_n hX dL_law_273 rfl (?_ : VL X 274 [some (.ref 95), some (.ref 0), some (.ref 75), some (.int i)] [.int i, .ref 95, .ref 0] _)
  refine u_iconst hX 1 dL_law_274 rfl (?_ : VL X 275 [some (.ref 95), some (.ref 0), some (.ref 75), some (.int i)] [.int 1, .int i, .ref 95, .ref 0] _)
  refine u_iadd hX dL_law_275 (?_ : VL X 276 [some (.ref 95), some (.ref 0), some (.ref 75), some (.int i)] [.int (i + 1), .ref 95, .ref 0] _)
  refine u_sld hL h6.2.1 dL_law_276 (?_ : VL X 277 [some (.ref 95), some (.ref 0), some (.ref 75), some (.int i)] [.int (xv (i + 1).toNatClampNeg), .ref 0] _)
  have s1 := st_suspect hI (xv (i + 1).toNatClampNeg)
  refine u_callV hX (room_ok hL) sp_X8_suspect ck_X8_suspect mk_L_36 mv_X8_suspect sh_0 (by decide) (by decide) [.int (xv (i + 1).toNatClampNeg)] [] rfl rfl (Nat.le_of_ble_eq_true rfl) dL_law_277 ⟨(xv (i + 1).toNatClampNeg), rfl, s1.1, fun x m hp => (?_ : VL X 280 [some (.ref 95), some (.ref 0), some (.ref 75), some (.int i)] [.int x] m)⟩
  have s2 := s1.2 x m hp
  refine u_aload_n hX dL_law_280 rfl (?_ : VL X 281 [some (.ref 95), some (.ref 0), some (.ref 75), some (.int i)] [.ref 75, .int x] _)
  refine u_aload_n hX dL_law_281 rfl (?_ : VL X 282 [some (.ref 95), some (.ref 0), some (.ref 75), some (.int i)] [.ref 95, .ref 75, .int x] _)
  refine u_iload_n hX dL_law_282 rfl (?_ : VL X 283 [some (.ref 95), some (.ref 0), some (.ref 75), some (.int i)] [.int i, .ref 95, .ref 75, .int x] _)
  refine u_iconst hX 1 dL_law_283 rfl (?_ : VL X 284 [some (.ref 95), some (.ref 0), some (.ref 75), some (.int i)] [.int 1, .int i, .ref 95, .ref 75, .int x] _)
  refine u_iadd hX dL_law_284 (?_ : VL X 285 [some (.ref 95), some (.ref 0), some (.ref 75), some (.int i)] [.int (i + 1), .ref 95, .ref 75, .int x] _)
  refine u_sld hL h6.2.1 dL_law_285 (?_ : VL X 286 [some (.ref 95), some (.ref 0), some (.ref 75), some (.int i)] [.int (xv (i + 1).toNatClampNeg), .ref 75, .int x] _)
  refine u_callV hX (room_ok hL) sp_X9_suspect ck_X9_suspect mk_L_39 mv_X9_suspect sh_75 (by decide) (by decide) [.int (xv (i + 1).toNatClampNeg)] [.int x] rfl rfl (Nat.le_of_ble_eq_true rfl) dL_law_286 ⟨(xv (i + 1).toNatClampNeg), rfl, s2.1, fun y m' hp' => (?_ : VL X 289 [some (.ref 95), some (.ref 0), some (.ref 75), some (.int i)] [.int y, .int x] m')⟩
  have s3 := s2.2 y m' hp'
  exact u_icmp_eq hX 778 dL_law_289 rfl (fun _ => kk _ s3.2) (fun c1 => absurd s3.1 c1)
set_option maxRecDepth 20000 in
set_option maxHeartbeats 1000000 in
theorem lc_now {X : XT} {b Ln : Nat} {xv : Nat → Int32} (hL : LwX X b Ln xv) {i : Int32} {μ : Mem} (hI : Inv μ) (h6 : In6 i Ln) (kk : ∀ m, Inv m → VL X 778 [some (.ref 95), some (.ref 0), some (.ref 75), some (.int i)] [] m) : VL X 294 [some (.ref 95), some (.ref 0), some (.ref 75), some (.int i)] [] μ := by
  have hX := hL.1
  refine u_aload_n hX dL_law_294 rfl (?_ : VL X 295 [some (.ref 95), some (.ref 0), some (.ref 75), some (.int i)] [.ref 0] _)
  refine u_aload_n hX dL_law_295 rfl (?_ : VL X 296 [some (.ref 95), some (.ref 0), some (.ref 75), some (.int i)] [.ref 95, .ref 0] _)
  refine u_iload_n hX dL_law_296 rfl (?_ : VL X 297 [some (.ref 95), some (.ref 0), some (.ref 75), some (.int i)] [.int i, .ref 95, .ref 0] _)
  refine u_iconst hX 1 dL_law_297 rfl (?_ : VL X 298 [some (.ref 95), some (.ref 0), some (.ref 75), some (.int i)] [.int 1, .int i, .ref 95, .ref 0] _)
  refine u_iadd hX dL_law_298 (?_ : VL X 299 [some (.ref 95), some (.ref 0), some (.ref 75), some (.int i)] [.int (i + 1), .ref 95, .ref 0] _)
  refine u_sld hL h6.2.1 dL_law_299 (?_ : VL X 300 [some (.ref 95), some (.ref 0), some (.ref 75), some (.int i)] [.int (xv (i + 1).toNatClampNeg), .ref 0] _)
  have s1 := st_now hI (xv (i + 1).toNatClampNeg)
  refine u_callV hX (room_ok hL) sp_X8_now ck_X8_now mk_L_40 mv_X8_now sh_0 (by decide) (by decide) [.int (xv (i + 1).toNatClampNeg)] [] rfl rfl (Nat.le_of_ble_eq_true rfl) dL_law_300 ⟨(xv (i + 1).toNatClampNeg), rfl, s1.1, fun x m hp => (?_ : VL X 303 [some (.ref 95), some (.ref 0), some (.ref 75), some (.int i)] [.int x] m)⟩
  have s2 := s1.2 x m hp
  refine u_aload_n hX dL_law_303 rfl (?_ : VL X 304 [some (.ref 95), some (.ref 0), some (.ref 75), some (.int i)] [.ref 75, .int x] _)
  refine u_aload_n hX dL_law_304 rfl (?_ : VL X 305 [some (.ref 95), some (.ref 0), some (.ref 75), some (.int i)] [.ref 95, .ref 75, .int x] _)
  refine u_iload_n hX dL_law_305 rfl (?_ : VL X 306 [some (.ref 95), some (.ref 0), some (.ref 75), some (.int i)] [.int i, .ref 95, .ref 75, .int x] _)
  refine u_iconst hX 1 dL_law_306 rfl (?_ : VL X 307 [some (.ref 95), some (.ref 0), some (.ref 75), some (.int i)] [.int 1, .int i, .ref 95, .ref 75, .int x] _)
  refine u_iadd hX dL_law_307 (?_ : VL X 308 [some (.ref 95), some (.ref 0), some (.ref 75), some (.int i)] [.int (i + 1), .ref 95, .ref 75, .int x] _)
  refine u_sld hL h6.2.1 dL_law_308 (?_ : VL X 309 [some (.ref 95), some (.ref 0), some (.ref 75), some (.int i)] [.int (xv (i + 1).toNatClampNeg), .ref 75, .int x] _)
  refine u_callV hX (room_ok hL) sp_X9_now ck_X9_now mk_L_43 mv_X9_now sh_75 (by decide) (by decide) [.int (xv (i + 1).toNatClampNeg)] [.int x] rfl rfl (Nat.le_of_ble_eq_true rfl) dL_law_309 ⟨(xv (i + 1).toNatClampNeg), rfl, s2.1, fun y m' hp' => (?_ : VL X 312 [some (.ref 95), some (.ref 0), some (.ref 75), some (.int i)] [.int y, .int x] m')⟩
  have s3 := s2.2 y m' hp'
  exact u_icmp_eq hX 778 dL_law_312 rfl (fun _ => kk _ s3.2) (fun c1 => absurd s3.1 c1)
set_option maxRecDepth 20000 in
set_option maxHeartbeats 1000000 in
theorem lc_goes {X : XT} {b Ln : Nat} {xv : Nat → Int32} (hL : LwX X b Ln xv) {i : Int32} {μ : Mem} (hI : Inv μ) (h6 : In6 i Ln) (kk : ∀ m, Inv m → VL X 778 [some (.ref 95), some (.ref 0), some (.ref 75), some (.int i)] [] m) : VL X 317 [some (.ref 95), some (.ref 0), some (.ref 75), some (.int i)] [] μ := by
  have hX := hL.1
  refine u_aload_n hX dL_law_317 rfl (?_ : VL X 318 [some (.ref 95), some (.ref 0), some (.ref 75), some (.int i)] [.ref 0] _)
  refine u_aload_n hX dL_law_318 rfl (?_ : VL X 319 [some (.ref 95), some (.ref 0), some (.ref 75), some (.int i)] [.ref 95, .ref 0] _)
  refine u_iload_n hX dL_law_319 rfl (?_ : VL X 320 [some (.ref 95), some (.ref 0), some (.ref 75), some (.int i)] [.int i, .ref 95, .ref 0] _)
  refine u_iconst hX 1 dL_law_320 rfl (?_ : VL X 321 [some (.ref 95), some (.ref 0), some (.ref 75), some (.int i)] [.int 1, .int i, .ref 95, .ref 0] _)
  refine u_iadd hX dL_law_321 (?_ : VL X 322 [some (.ref 95), some (.ref 0), some (.ref 75), some (.int i)] [.int (i + 1), .ref 95, .ref 0] _)
  refine u_sld hL h6.2.1 dL_law_322 (?_ : VL X 323 [some (.ref 95), some (.ref 0), some (.ref 75), some (.int i)] [.int (xv (i + 1).toNatClampNeg), .ref 0] _)
  have s1 := st_goes hI (xv (i + 1).toNatClampNeg)
  refine u_callV hX (room_ok hL) sp_X8_goes ck_X8_goes mk_L_44 mv_X8_goes sh_0 (by decide) (by decide) [.int (xv (i + 1).toNatClampNeg)] [] rfl rfl (Nat.le_of_ble_eq_true rfl) dL_law_323 ⟨(xv (i + 1).toNatClampNeg), rfl, s1.1, fun x m hp => (?_ : VL X 326 [some (.ref 95), some (.ref 0), some (.ref 75), some (.int i)] [.int x] m)⟩
  have s2 := s1.2 x m hp
  refine u_aload_n hX dL_law_326 rfl (?_ : VL X 327 [some (.ref 95), some (.ref 0), some (.ref 75), some (.int i)] [.ref 75, .int x] _)
  refine u_aload_n hX dL_law_327 rfl (?_ : VL X 328 [some (.ref 95), some (.ref 0), some (.ref 75), some (.int i)] [.ref 95, .ref 75, .int x] _)
  refine u_iload_n hX dL_law_328 rfl (?_ : VL X 329 [some (.ref 95), some (.ref 0), some (.ref 75), some (.int i)] [.int i, .ref 95, .ref 75, .int x] _)
  refine u_iconst hX 1 dL_law_329 rfl (?_ : VL X 330 [some (.ref 95), some (.ref 0), some (.ref 75), some (.int i)] [.int 1, .int i, .ref 95, .ref 75, .int x] _)
  refine u_iadd hX dL_law_330 (?_ : VL X 331 [some (.ref 95), some (.ref 0), some (.ref 75), some (.int i)] [.int (i + 1), .ref 95, .ref 75, .int x] _)
  refine u_sld hL h6.2.1 dL_law_331 (?_ : VL X 332 [some (.ref 95), some (.ref 0), some (.ref 75), some (.int i)] [.int (xv (i + 1).toNatClampNeg), .ref 75, .int x] _)
  refine u_callV hX (room_ok hL) sp_X9_goes ck_X9_goes mk_L_47 mv_X9_goes sh_75 (by decide) (by decide) [.int (xv (i + 1).toNatClampNeg)] [.int x] rfl rfl (Nat.le_of_ble_eq_true rfl) dL_law_332 ⟨(xv (i + 1).toNatClampNeg), rfl, s2.1, fun y m' hp' => (?_ : VL X 335 [some (.ref 95), some (.ref 0), some (.ref 75), some (.int i)] [.int y, .int x] m')⟩
  have s3 := s2.2 y m' hp'
  exact u_icmp_eq hX 778 dL_law_335 rfl (fun _ => kk _ s3.2) (fun c1 => absurd s3.1 c1)
set_option maxRecDepth 20000 in
set_option maxHeartbeats 1000000 in
theorem lc_does {X : XT} {b Ln : Nat} {xv : Nat → Int32} (hL : LwX X b Ln xv) {i : Int32} {μ : Mem} (hI : Inv μ) (h6 : In6 i Ln) (kk : ∀ m, Inv m → VL X 778 [some (.ref 95), some (.ref 0), some (.ref 75), some (.int i)] [] m) : VL X 340 [some (.ref 95), some (.ref 0), some (.ref 75), some (.int i)] [] μ := by
  have hX := hL.1
  refine u_aload_n hX dL_law_340 rfl (?_ : VL X 341 [some (.ref 95), some (.ref 0), some (.ref 75), some (.int i)] [.ref 0] _)
  refine u_aload_n hX dL_law_341 rfl (?_ : VL X 342 [some (.ref 95), some (.ref 0), some (.ref 75), some (.int i)] [.ref 95, .ref 0] _)
  refine u_iload_n hX dL_law_342 rfl (?_ : VL X 343 [some (.ref 95), some (.ref 0), some (.ref 75), some (.int i)] [.int i, .ref 95, .ref 0] _)
  refine u_iconst hX 1 dL_law_343 rfl (?_ : VL X 344 [some (.ref 95), some (.ref 0), some (.ref 75), some (.int i)] [.int 1, .int i, .ref 95, .ref 0] _)
  refine u_iadd hX dL_law_344 (?_ : VL X 345 [some (.ref 95), some (.ref 0), some (.ref 75), some (.int i)] [.int (i + 1), .ref 95, .ref 0] _)
  refine u_sld hL h6.2.1 dL_law_345 (?_ : VL X 346 [some (.ref 95), some (.ref 0), some (.ref 75), some (.int i)] [.int (xv (i + 1).toNatClampNeg), .ref 0] _)
  have s1 := st_does hI (xv (i + 1).toNatClampNeg)
  refine u_callV hX (room_ok hL) sp_X8_does ck_X8_does mk_L_48 mv_X8_does sh_0 (by decide) (by decide) [.int (xv (i + 1).toNatClampNeg)] [] rfl rfl (Nat.le_of_ble_eq_true rfl) dL_law_346 ⟨(xv (i + 1).toNatClampNeg), rfl, s1.1, fun x m hp => (?_ : VL X 349 [some (.ref 95), some (.ref 0), some (.ref 75), some (.int i)] [.int x] m)⟩
  have s2 := s1.2 x m hp
  refine u_aload_n hX dL_law_349 rfl (?_ : VL X 350 [some (.ref 95), some (.ref 0), some (.ref 75), some (.int i)] [.ref 75, .int x] _)
  refine u_aload_n hX dL_law_350 rfl (?_ : VL X 351 [some (.ref 95), some (.ref 0), some (.ref 75), some (.int i)] [.ref 95, .ref 75, .int x] _)
  refine u_iload_n hX dL_law_351 rfl (?_ : VL X 352 [some (.ref 95), some (.ref 0), some (.ref 75), some (.int i)] [.int i, .ref 95, .ref 75, .int x] _)
  refine u_iconst hX 1 dL_law_352 rfl (?_ : VL X 353 [some (.ref 95), some (.ref 0), some (.ref 75), some (.int i)] [.int 1, .int i, .ref 95, .ref 75, .int x] _)
  refine u_iadd hX dL_law_353 (?_ : VL X 354 [some (.ref 95), some (.ref 0), some (.ref 75), some (.int i)] [.int (i + 1), .ref 95, .ref 75, .int x] _)
  refine u_sld hL h6.2.1 dL_law_354 (?_ : VL X 355 [some (.ref 95), some (.ref 0), some (.ref 75), some (.int i)] [.int (xv (i + 1).toNatClampNeg), .ref 75, .int x] _)
  refine u_callV hX (room_ok hL) sp_X9_does ck_X9_does mk_L_51 mv_X9_does sh_75 (by decide) (by decide) [.int (xv (i + 1).toNatClampNeg)] [.int x] rfl rfl (Nat.le_of_ble_eq_true rfl) dL_law_355 ⟨(xv (i + 1).toNatClampNeg), rfl, s2.1, fun y m' hp' => (?_ : VL X 358 [some (.ref 95), some (.ref 0), some (.ref 75), some (.int i)] [.int y, .int x] m')⟩
  have s3 := s2.2 y m' hp'
  exact u_icmp_eq hX 778 dL_law_358 rfl (fun _ => kk _ s3.2) (fun c1 => absurd s3.1 c1)
set_option maxRecDepth 20000 in
set_option maxHeartbeats 1000000 in
theorem lc_asks {X : XT} {b Ln : Nat} {xv : Nat → Int32} (hL : LwX X b Ln xv) {i : Int32} {μ : Mem} (hI : Inv μ) (h6 : In6 i Ln) (kk : ∀ m, Inv m → VL X 778 [some (.ref 95), some (.ref 0), some (.ref 75), some (.int i)] [] m) : VL X 363 [some (.ref 95), some (.ref 0), some (.ref 75), some (.int i)] [] μ := by
  have hX := hL.1
  refine u_aload_n hX dL_law_363 rfl (?_ : VL X 364 [some (.ref 95), some (.ref 0), some (.ref 75), some (.int i)] [.ref 0] _)
  refine u_aload_n hX dL_law_364 rfl (?_ : VL X 365 [some (.ref 95), some (.ref 0), some (.ref 75), some (.int i)] [.ref 95, .ref 0] _)
  refine u_iload_n hX dL_law_365 rfl (?_ : VL X 366 [some (.ref 95), some (.ref 0), some (.ref 75), some (.int i)] [.int i, .ref 95, .ref 0] _)
  refine u_iconst hX 1 dL_law_366 rfl (?_ : VL X 367 [some (.ref 95), some (.ref 0), some (.ref 75), some (.int i)] [.int 1, .int i, .ref 95, .ref 0] _)
  refine u_iadd hX dL_law_367 (?_ : VL X 368 [some (.ref 95), some (.ref 0), some (.ref 75), some (.int i)] [.int (i + 1), .ref 95, .ref 0] _)
  refine u_sld hL h6.2.1 dL_law_368 (?_ : VL X 369 [some (.ref 95), some (.ref 0), some (.ref 75), some (.int i)] [.int (xv (i + 1).toNatClampNeg), .ref 0] _)
  have s1 := st_asks hI (xv (i + 1).toNatClampNeg)
  refine u_callV hX (room_ok hL) sp_X8_asks ck_X8_asks mk_L_52 mv_X8_asks sh_0 (by decide) (by decide) [.int (xv (i + 1).toNatClampNeg)] [] rfl rfl (Nat.le_of_ble_eq_true rfl) dL_law_369 ⟨(xv (i + 1).toNatClampNeg), rfl, s1.1, fun x m hp => (?_ : VL X 372 [some (.ref 95), some (.ref 0), some (.ref 75), some (.int i)] [.int x] m)⟩
  have s2 := s1.2 x m hp
  refine u_aload_n hX dL_law_372 rfl (?_ : VL X 373 [some (.ref 95), some (.ref 0), some (.ref 75), some (.int i)] [.ref 75, .int x] _)
  refine u_aload_n hX dL_law_373 rfl (?_ : VL X 374 [some (.ref 95), some (.ref 0), some (.ref 75), some (.int i)] [.ref 95, .ref 75, .int x] _)
  refine u_iload_n hX dL_law_374 rfl (?_ : VL X 375 [some (.ref 95), some (.ref 0), some (.ref 75), some (.int i)] [.int i, .ref 95, .ref 75, .int x] _)
  refine u_iconst hX 1 dL_law_375 rfl (?_ : VL X 376 [some (.ref 95), some (.ref 0), some (.ref 75), some (.int i)] [.int 1, .int i, .ref 95, .ref 75, .int x] _)
  refine u_iadd hX dL_law_376 (?_ : VL X 377 [some (.ref 95), some (.ref 0), some (.ref 75), some (.int i)] [.int (i + 1), .ref 95, .ref 75, .int x] _)
  refine u_sld hL h6.2.1 dL_law_377 (?_ : VL X 378 [some (.ref 95), some (.ref 0), some (.ref 75), some (.int i)] [.int (xv (i + 1).toNatClampNeg), .ref 75, .int x] _)
  refine u_callV hX (room_ok hL) sp_X9_asks ck_X9_asks mk_L_55 mv_X9_asks sh_75 (by decide) (by decide) [.int (xv (i + 1).toNatClampNeg)] [.int x] rfl rfl (Nat.le_of_ble_eq_true rfl) dL_law_378 ⟨(xv (i + 1).toNatClampNeg), rfl, s2.1, fun y m' hp' => (?_ : VL X 381 [some (.ref 95), some (.ref 0), some (.ref 75), some (.int i)] [.int y, .int x] m')⟩
  have s3 := s2.2 y m' hp'
  exact u_icmp_eq hX 778 dL_law_381 rfl (fun _ => kk _ s3.2) (fun c1 => absurd s3.1 c1)
set_option maxRecDepth 20000 in
set_option maxHeartbeats 1000000 in
theorem lc_undo {X : XT} {b Ln : Nat} {xv : Nat → Int32} (hL : LwX X b Ln xv) {i : Int32} {μ : Mem} (hI : Inv μ) (h6 : In6 i Ln) (kk : ∀ m, Inv m → VL X 778 [some (.ref 95), some (.ref 0), some (.ref 75), some (.int i)] [] m) : VL X 386 [some (.ref 95), some (.ref 0), some (.ref 75), some (.int i)] [] μ := by
  have hX := hL.1
  refine u_aload_n hX dL_law_386 rfl (?_ : VL X 387 [some (.ref 95), some (.ref 0), some (.ref 75), some (.int i)] [.ref 0] _)
  have s1 := st_undo hI 
  refine u_callV hX (room_ok hL) sp_X8_undo ck_X8_undo mk_L_56 mv_X8_undo sh_0 (by decide) (by decide) [] [] rfl rfl (Nat.le_of_ble_eq_true rfl) dL_law_387 ⟨rfl, s1.1, fun x m hp => (?_ : VL X 390 [some (.ref 95), some (.ref 0), some (.ref 75), some (.int i)] [.int x] m)⟩
  have s2 := s1.2 x m hp
  refine u_aload_n hX dL_law_390 rfl (?_ : VL X 391 [some (.ref 95), some (.ref 0), some (.ref 75), some (.int i)] [.ref 75, .int x] _)
  refine u_callV hX (room_ok hL) sp_X9_undo ck_X9_undo mk_L_59 mv_X9_undo sh_75 (by decide) (by decide) [] [.int x] rfl rfl (Nat.le_of_ble_eq_true rfl) dL_law_391 ⟨rfl, s2.1, fun y m' hp' => (?_ : VL X 394 [some (.ref 95), some (.ref 0), some (.ref 75), some (.int i)] [.int y, .int x] m')⟩
  have s3 := s2.2 y m' hp'
  exact u_icmp_eq hX 778 dL_law_394 rfl (fun _ => kk _ s3.2) (fun c1 => absurd s3.1 c1)
set_option maxRecDepth 20000 in
set_option maxHeartbeats 1000000 in
theorem lc_soonest {X : XT} {b Ln : Nat} {xv : Nat → Int32} (hL : LwX X b Ln xv) {i : Int32} {μ : Mem} (hI : Inv μ) (h6 : In6 i Ln) (kk : ∀ m, Inv m → VL X 778 [some (.ref 95), some (.ref 0), some (.ref 75), some (.int i)] [] m) : VL X 399 [some (.ref 95), some (.ref 0), some (.ref 75), some (.int i)] [] μ := by
  have hX := hL.1
  refine u_aload_n hX dL_law_399 rfl (?_ : VL X 400 [some (.ref 95), some (.ref 0), some (.ref 75), some (.int i)] [.ref 0] _)
  refine u_aload_n hX dL_law_400 rfl (?_ : VL X 401 [some (.ref 95), some (.ref 0), some (.ref 75), some (.int i)] [.ref 95, .ref 0] _)
  refine u_iload_n hX dL_law_401 rfl (?_ : VL X 402 [some (.ref 95), some (.ref 0), some (.ref 75), some (.int i)] [.int i, .ref 95, .ref 0] _)
  refine u_iconst hX 1 dL_law_402 rfl (?_ : VL X 403 [some (.ref 95), some (.ref 0), some (.ref 75), some (.int i)] [.int 1, .int i, .ref 95, .ref 0] _)
  refine u_iadd hX dL_law_403 (?_ : VL X 404 [some (.ref 95), some (.ref 0), some (.ref 75), some (.int i)] [.int (i + 1), .ref 95, .ref 0] _)
  refine u_sld hL h6.2.1 dL_law_404 (?_ : VL X 405 [some (.ref 95), some (.ref 0), some (.ref 75), some (.int i)] [.int (xv (i + 1).toNatClampNeg), .ref 0] _)
  refine u_aload_n hX dL_law_405 rfl (?_ : VL X 406 [some (.ref 95), some (.ref 0), some (.ref 75), some (.int i)] [.ref 95, .int (xv (i + 1).toNatClampNeg), .ref 0] _)
  refine u_iload_n hX dL_law_406 rfl (?_ : VL X 407 [some (.ref 95), some (.ref 0), some (.ref 75), some (.int i)] [.int i, .ref 95, .int (xv (i + 1).toNatClampNeg), .ref 0] _)
  refine u_iconst hX 2 dL_law_407 rfl (?_ : VL X 408 [some (.ref 95), some (.ref 0), some (.ref 75), some (.int i)] [.int 2, .int i, .ref 95, .int (xv (i + 1).toNatClampNeg), .ref 0] _)
  refine u_iadd hX dL_law_408 (?_ : VL X 409 [some (.ref 95), some (.ref 0), some (.ref 75), some (.int i)] [.int (i + 2), .ref 95, .int (xv (i + 1).toNatClampNeg), .ref 0] _)
  refine u_sld hL h6.2.2.1 dL_law_409 (?_ : VL X 410 [some (.ref 95), some (.ref 0), some (.ref 75), some (.int i)] [.int (xv (i + 2).toNatClampNeg), .int (xv (i + 1).toNatClampNeg), .ref 0] _)
  have s1 := st_soonest hI (xv (i + 1).toNatClampNeg) (xv (i + 2).toNatClampNeg)
  refine u_callV hX (room_ok hL) sp_X8_soonest ck_X8_soonest mk_L_60 mv_X8_soonest sh_0 (by decide) (by decide) [.int (xv (i + 1).toNatClampNeg), .int (xv (i + 2).toNatClampNeg)] [] rfl rfl (Nat.le_of_ble_eq_true rfl) dL_law_410 ⟨(xv (i + 1).toNatClampNeg), (xv (i + 2).toNatClampNeg), rfl, s1.1, fun x m hp => (?_ : VL X 413 [some (.ref 95), some (.ref 0), some (.ref 75), some (.int i)] [.int x] m)⟩
  have s2 := s1.2 x m hp
  refine u_aload_n hX dL_law_413 rfl (?_ : VL X 414 [some (.ref 95), some (.ref 0), some (.ref 75), some (.int i)] [.ref 75, .int x] _)
  refine u_aload_n hX dL_law_414 rfl (?_ : VL X 415 [some (.ref 95), some (.ref 0), some (.ref 75), some (.int i)] [.ref 95, .ref 75, .int x] _)
  refine u_iload_n hX dL_law_415 rfl (?_ : VL X 416 [some (.ref 95), some (.ref 0), some (.ref 75), some (.int i)] [.int i, .ref 95, .ref 75, .int x] _)
  refine u_iconst hX 1 dL_law_416 rfl (?_ : VL X 417 [some (.ref 95), some (.ref 0), some (.ref 75), some (.int i)] [.int 1, .int i, .ref 95, .ref 75, .int x] _)
  refine u_iadd hX dL_law_417 (?_ : VL X 418 [some (.ref 95), some (.ref 0), some (.ref 75), some (.int i)] [.int (i + 1), .ref 95, .ref 75, .int x] _)
  refine u_sld hL h6.2.1 dL_law_418 (?_ : VL X 419 [some (.ref 95), some (.ref 0), some (.ref 75), some (.int i)] [.int (xv (i + 1).toNatClampNeg), .ref 75, .int x] _)
  refine u_aload_n hX dL_law_419 rfl (?_ : VL X 420 [some (.ref 95), some (.ref 0), some (.ref 75), some (.int i)] [.ref 95, .int (xv (i + 1).toNatClampNeg), .ref 75, .int x] _)
  refine u_iload_n hX dL_law_420 rfl (?_ : VL X 421 [some (.ref 95), some (.ref 0), some (.ref 75), some (.int i)] [.int i, .ref 95, .int (xv (i + 1).toNatClampNeg), .ref 75, .int x] _)
  refine u_iconst hX 2 dL_law_421 rfl (?_ : VL X 422 [some (.ref 95), some (.ref 0), some (.ref 75), some (.int i)] [.int 2, .int i, .ref 95, .int (xv (i + 1).toNatClampNeg), .ref 75, .int x] _)
  refine u_iadd hX dL_law_422 (?_ : VL X 423 [some (.ref 95), some (.ref 0), some (.ref 75), some (.int i)] [.int (i + 2), .ref 95, .int (xv (i + 1).toNatClampNeg), .ref 75, .int x] _)
  refine u_sld hL h6.2.2.1 dL_law_423 (?_ : VL X 424 [some (.ref 95), some (.ref 0), some (.ref 75), some (.int i)] [.int (xv (i + 2).toNatClampNeg), .int (xv (i + 1).toNatClampNeg), .ref 75, .int x] _)
  refine u_callV hX (room_ok hL) sp_X9_soonest ck_X9_soonest mk_L_63 mv_X9_soonest sh_75 (by decide) (by decide) [.int (xv (i + 1).toNatClampNeg), .int (xv (i + 2).toNatClampNeg)] [.int x] rfl rfl (Nat.le_of_ble_eq_true rfl) dL_law_424 ⟨(xv (i + 1).toNatClampNeg), (xv (i + 2).toNatClampNeg), rfl, s2.1, fun y m' hp' => (?_ : VL X 427 [some (.ref 95), some (.ref 0), some (.ref 75), some (.int i)] [.int y, .int x] m')⟩
  have s3 := s2.2 y m' hp'
  exact u_icmp_eq hX 778 dL_law_427 rfl (fun _ => kk _ s3.2) (fun c1 => absurd s3.1 c1)
set_option maxRecDepth 20000 in
set_option maxHeartbeats 1000000 in
theorem lc_loved {X : XT} {b Ln : Nat} {xv : Nat → Int32} (hL : LwX X b Ln xv) {i : Int32} {μ : Mem} (hI : Inv μ) (h6 : In6 i Ln) (kk : ∀ m, Inv m → VL X 778 [some (.ref 95), some (.ref 0), some (.ref 75), some (.int i)] [] m) : VL X 432 [some (.ref 95), some (.ref 0), some (.ref 75), some (.int i)] [] μ := by
  have hX := hL.1
  refine u_aload_n hX dL_law_432 rfl (?_ : VL X 433 [some (.ref 95), some (.ref 0), some (.ref 75), some (.int i)] [.ref 0] _)
  have s1 := st_loved hI 
  refine u_callV hX (room_ok hL) sp_X8_loved ck_X8_loved mk_L_64 mv_X8_loved sh_0 (by decide) (by decide) [] [] rfl rfl (Nat.le_of_ble_eq_true rfl) dL_law_433 ⟨rfl, s1.1, fun x m hp => (?_ : VL X 436 [some (.ref 95), some (.ref 0), some (.ref 75), some (.int i)] [.int x] m)⟩
  have s2 := s1.2 x m hp
  refine u_aload_n hX dL_law_436 rfl (?_ : VL X 437 [some (.ref 95), some (.ref 0), some (.ref 75), some (.int i)] [.ref 75, .int x] _)
  refine u_callV hX (room_ok hL) sp_X9_loved ck_X9_loved mk_L_67 mv_X9_loved sh_75 (by decide) (by decide) [] [.int x] rfl rfl (Nat.le_of_ble_eq_true rfl) dL_law_437 ⟨rfl, s2.1, fun y m' hp' => (?_ : VL X 440 [some (.ref 95), some (.ref 0), some (.ref 75), some (.int i)] [.int y, .int x] m')⟩
  have s3 := s2.2 y m' hp'
  exact u_icmp_eq hX 778 dL_law_440 rfl (fun _ => kk _ s3.2) (fun c1 => absurd s3.1 c1)
set_option maxRecDepth 20000 in
set_option maxHeartbeats 1000000 in
theorem lc_round {X : XT} {b Ln : Nat} {xv : Nat → Int32} (hL : LwX X b Ln xv) {i : Int32} {μ : Mem} (hI : Inv μ) (h6 : In6 i Ln) (kk : ∀ m, Inv m → VL X 778 [some (.ref 95), some (.ref 0), some (.ref 75), some (.int i)] [] m) : VL X 445 [some (.ref 95), some (.ref 0), some (.ref 75), some (.int i)] [] μ := by
  have hX := hL.1
  refine u_aload_n hX dL_law_445 rfl (?_ : VL X 446 [some (.ref 95), some (.ref 0), some (.ref 75), some (.int i)] [.ref 0] _)
  refine u_aload_n hX dL_law_446 rfl (?_ : VL X 447 [some (.ref 95), some (.ref 0), some (.ref 75), some (.int i)] [.ref 95, .ref 0] _)
  refine u_iload_n hX dL_law_447 rfl (?_ : VL X 448 [some (.ref 95), some (.ref 0), some (.ref 75), some (.int i)] [.int i, .ref 95, .ref 0] _)
  refine u_iconst hX 1 dL_law_448 rfl (?_ : VL X 449 [some (.ref 95), some (.ref 0), some (.ref 75), some (.int i)] [.int 1, .int i, .ref 95, .ref 0] _)
  refine u_iadd hX dL_law_449 (?_ : VL X 450 [some (.ref 95), some (.ref 0), some (.ref 75), some (.int i)] [.int (i + 1), .ref 95, .ref 0] _)
  refine u_sld hL h6.2.1 dL_law_450 (?_ : VL X 451 [some (.ref 95), some (.ref 0), some (.ref 75), some (.int i)] [.int (xv (i + 1).toNatClampNeg), .ref 0] _)
  have s1 := st_round hI (xv (i + 1).toNatClampNeg)
  refine u_callV hX (room_ok hL) sp_X8_round ck_X8_round mk_L_68 mv_X8_round sh_0 (by decide) (by decide) [.int (xv (i + 1).toNatClampNeg)] [] rfl rfl (Nat.le_of_ble_eq_true rfl) dL_law_451 ⟨(xv (i + 1).toNatClampNeg), rfl, s1.1, fun x m hp => (?_ : VL X 454 [some (.ref 95), some (.ref 0), some (.ref 75), some (.int i)] [.int x] m)⟩
  have s2 := s1.2 x m hp
  refine u_aload_n hX dL_law_454 rfl (?_ : VL X 455 [some (.ref 95), some (.ref 0), some (.ref 75), some (.int i)] [.ref 75, .int x] _)
  refine u_aload_n hX dL_law_455 rfl (?_ : VL X 456 [some (.ref 95), some (.ref 0), some (.ref 75), some (.int i)] [.ref 95, .ref 75, .int x] _)
  refine u_iload_n hX dL_law_456 rfl (?_ : VL X 457 [some (.ref 95), some (.ref 0), some (.ref 75), some (.int i)] [.int i, .ref 95, .ref 75, .int x] _)
  refine u_iconst hX 1 dL_law_457 rfl (?_ : VL X 458 [some (.ref 95), some (.ref 0), some (.ref 75), some (.int i)] [.int 1, .int i, .ref 95, .ref 75, .int x] _)
  refine u_iadd hX dL_law_458 (?_ : VL X 459 [some (.ref 95), some (.ref 0), some (.ref 75), some (.int i)] [.int (i + 1), .ref 95, .ref 75, .int x] _)
  refine u_sld hL h6.2.1 dL_law_459 (?_ : VL X 460 [some (.ref 95), some (.ref 0), some (.ref 75), some (.int i)] [.int (xv (i + 1).toNatClampNeg), .ref 75, .int x] _)
  refine u_callV hX (room_ok hL) sp_X9_round ck_X9_round mk_L_71 mv_X9_round sh_75 (by decide) (by decide) [.int (xv (i + 1).toNatClampNeg)] [.int x] rfl rfl (Nat.le_of_ble_eq_true rfl) dL_law_460 ⟨(xv (i + 1).toNatClampNeg), rfl, s2.1, fun y m' hp' => (?_ : VL X 463 [some (.ref 95), some (.ref 0), some (.ref 75), some (.int i)] [.int y, .int x] m')⟩
  have s3 := s2.2 y m' hp'
  exact u_icmp_eq hX 778 dL_law_463 rfl (fun _ => kk _ s3.2) (fun c1 => absurd s3.1 c1)
set_option maxRecDepth 20000 in
set_option maxHeartbeats 1000000 in
theorem lc_country {X : XT} {b Ln : Nat} {xv : Nat → Int32} (hL : LwX X b Ln xv) {i : Int32} {μ : Mem} (hI : Inv μ) (h6 : In6 i Ln) (kk : ∀ m, Inv m → VL X 778 [some (.ref 95), some (.ref 0), some (.ref 75), some (.int i)] [] m) : VL X 468 [some (.ref 95), some (.ref 0), some (.ref 75), some (.int i)] [] μ := by
  have hX := hL.1
  refine u_aload_n hX dL_law_468 rfl (?_ : VL X 469 [some (.ref 95), some (.ref 0), some (.ref 75), some (.int i)] [.ref 0] _)
  have s1 := st_country hI 
  refine u_callV hX (room_ok hL) sp_X8_country ck_X8_country mk_L_72 mv_X8_country sh_0 (by decide) (by decide) [] [] rfl rfl (Nat.le_of_ble_eq_true rfl) dL_law_469 ⟨rfl, s1.1, fun x m hp => (?_ : VL X 472 [some (.ref 95), some (.ref 0), some (.ref 75), some (.int i)] [.int x] m)⟩
  have s2 := s1.2 x m hp
  refine u_aload_n hX dL_law_472 rfl (?_ : VL X 473 [some (.ref 95), some (.ref 0), some (.ref 75), some (.int i)] [.ref 75, .int x] _)
  refine u_callV hX (room_ok hL) sp_X9_country ck_X9_country mk_L_75 mv_X9_country sh_75 (by decide) (by decide) [] [.int x] rfl rfl (Nat.le_of_ble_eq_true rfl) dL_law_473 ⟨rfl, s2.1, fun y m' hp' => (?_ : VL X 476 [some (.ref 95), some (.ref 0), some (.ref 75), some (.int i)] [.int y, .int x] m')⟩
  have s3 := s2.2 y m' hp'
  exact u_icmp_eq hX 778 dL_law_476 rfl (fun _ => kk _ s3.2) (fun c1 => absurd s3.1 c1)
set_option maxRecDepth 20000 in
set_option maxHeartbeats 1000000 in
theorem lc_next {X : XT} {b Ln : Nat} {xv : Nat → Int32} (hL : LwX X b Ln xv) {i : Int32} {μ : Mem} (hI : Inv μ) (h6 : In6 i Ln) (kk : ∀ m, Inv m → VL X 778 [some (.ref 95), some (.ref 0), some (.ref 75), some (.int i)] [] m) : VL X 481 [some (.ref 95), some (.ref 0), some (.ref 75), some (.int i)] [] μ := by
  have hX := hL.1
  refine u_aload_n hX dL_law_481 rfl (?_ : VL X 482 [some (.ref 95), some (.ref 0), some (.ref 75), some (.int i)] [.ref 0] _)
  have s1 := st_next hI 
  refine u_callV hX (room_ok hL) sp_X8_next ck_X8_next mk_L_76 mv_X8_next sh_0 (by decide) (by decide) [] [] rfl rfl (Nat.le_of_ble_eq_true rfl) dL_law_482 ⟨rfl, s1.1, fun x m hp => (?_ : VL X 485 [some (.ref 95), some (.ref 0), some (.ref 75), some (.int i)] [.int x] m)⟩
  have s2 := s1.2 x m hp
  refine u_aload_n hX dL_law_485 rfl (?_ : VL X 486 [some (.ref 95), some (.ref 0), some (.ref 75), some (.int i)] [.ref 75, .int x] _)
  refine u_callV hX (room_ok hL) sp_X9_next ck_X9_next mk_L_79 mv_X9_next sh_75 (by decide) (by decide) [] [.int x] rfl rfl (Nat.le_of_ble_eq_true rfl) dL_law_486 ⟨rfl, s2.1, fun y m' hp' => (?_ : VL X 489 [some (.ref 95), some (.ref 0), some (.ref 75), some (.int i)] [.int y, .int x] m')⟩
  have s3 := s2.2 y m' hp'
  exact u_icmp_eq hX 778 dL_law_489 rfl (fun _ => kk _ s3.2) (fun c1 => absurd s3.1 c1)
set_option maxRecDepth 20000 in
set_option maxHeartbeats 1000000 in
theorem lc_questions {X : XT} {b Ln : Nat} {xv : Nat → Int32} (hL : LwX X b Ln xv) {i : Int32} {μ : Mem} (hI : Inv μ) (h6 : In6 i Ln) (kk : ∀ m, Inv m → VL X 778 [some (.ref 95), some (.ref 0), some (.ref 75), some (.int i)] [] m) : VL X 494 [some (.ref 95), some (.ref 0), some (.ref 75), some (.int i)] [] μ := by
  have hX := hL.1
  refine u_aload_n hX dL_law_494 rfl (?_ : VL X 495 [some (.ref 95), some (.ref 0), some (.ref 75), some (.int i)] [.ref 0] _)
  have s1 := st_questions hI 
  refine u_callV hX (room_ok hL) sp_X8_questions ck_X8_questions mk_L_80 mv_X8_questions sh_0 (by decide) (by decide) [] [] rfl rfl (Nat.le_of_ble_eq_true rfl) dL_law_495 ⟨rfl, s1.1, fun x m hp => (?_ : VL X 498 [some (.ref 95), some (.ref 0), some (.ref 75), some (.int i)] [.int x] m)⟩
  have s2 := s1.2 x m hp
  refine u_aload_n hX dL_law_498 rfl (?_ : VL X 499 [some (.ref 95), some (.ref 0), some (.ref 75), some (.int i)] [.ref 75, .int x] _)
  refine u_callV hX (room_ok hL) sp_X9_questions ck_X9_questions mk_L_83 mv_X9_questions sh_75 (by decide) (by decide) [] [.int x] rfl rfl (Nat.le_of_ble_eq_true rfl) dL_law_499 ⟨rfl, s2.1, fun y m' hp' => (?_ : VL X 502 [some (.ref 95), some (.ref 0), some (.ref 75), some (.int i)] [.int y, .int x] m')⟩
  have s3 := s2.2 y m' hp'
  exact u_icmp_eq hX 778 dL_law_502 rfl (fun _ => kk _ s3.2) (fun c1 => absurd s3.1 c1)
set_option maxRecDepth 20000 in
set_option maxHeartbeats 1000000 in
theorem lc_felt {X : XT} {b Ln : Nat} {xv : Nat → Int32} (hL : LwX X b Ln xv) {i : Int32} {μ : Mem} (hI : Inv μ) (h6 : In6 i Ln) (kk : ∀ m, Inv m → VL X 778 [some (.ref 95), some (.ref 0), some (.ref 75), some (.int i)] [] m) : VL X 507 [some (.ref 95), some (.ref 0), some (.ref 75), some (.int i)] [] μ := by
  have hX := hL.1
  refine u_aload_n hX dL_law_507 rfl (?_ : VL X 508 [some (.ref 95), some (.ref 0), some (.ref 75), some (.int i)] [.ref 0] _)
  refine u_aload_n hX dL_law_508 rfl (?_ : VL X 509 [some (.ref 95), some (.ref 0), some (.ref 75), some (.int i)] [.ref 95, .ref 0] _)
  refine u_iload_n hX dL_law_509 rfl (?_ : VL X 510 [some (.ref 95), some (.ref 0), some (.ref 75), some (.int i)] [.int i, .ref 95, .ref 0] _)
  refine u_iconst hX 1 dL_law_510 rfl (?_ : VL X 511 [some (.ref 95), some (.ref 0), some (.ref 75), some (.int i)] [.int 1, .int i, .ref 95, .ref 0] _)
  refine u_iadd hX dL_law_511 (?_ : VL X 512 [some (.ref 95), some (.ref 0), some (.ref 75), some (.int i)] [.int (i + 1), .ref 95, .ref 0] _)
  refine u_sld hL h6.2.1 dL_law_512 (?_ : VL X 513 [some (.ref 95), some (.ref 0), some (.ref 75), some (.int i)] [.int (xv (i + 1).toNatClampNeg), .ref 0] _)
  refine u_aload_n hX dL_law_513 rfl (?_ : VL X 514 [some (.ref 95), some (.ref 0), some (.ref 75), some (.int i)] [.ref 95, .int (xv (i + 1).toNatClampNeg), .ref 0] _)
  refine u_iload_n hX dL_law_514 rfl (?_ : VL X 515 [some (.ref 95), some (.ref 0), some (.ref 75), some (.int i)] [.int i, .ref 95, .int (xv (i + 1).toNatClampNeg), .ref 0] _)
  refine u_iconst hX 2 dL_law_515 rfl (?_ : VL X 516 [some (.ref 95), some (.ref 0), some (.ref 75), some (.int i)] [.int 2, .int i, .ref 95, .int (xv (i + 1).toNatClampNeg), .ref 0] _)
  refine u_iadd hX dL_law_516 (?_ : VL X 517 [some (.ref 95), some (.ref 0), some (.ref 75), some (.int i)] [.int (i + 2), .ref 95, .int (xv (i + 1).toNatClampNeg), .ref 0] _)
  refine u_sld hL h6.2.2.1 dL_law_517 (?_ : VL X 518 [some (.ref 95), some (.ref 0), some (.ref 75), some (.int i)] [.int (xv (i + 2).toNatClampNeg), .int (xv (i + 1).toNatClampNeg), .ref 0] _)
  have s1 := st_felt hI (xv (i + 1).toNatClampNeg) (xv (i + 2).toNatClampNeg)
  refine u_callV hX (room_ok hL) sp_X8_felt ck_X8_felt mk_L_84 mv_X8_felt sh_0 (by decide) (by decide) [.int (xv (i + 1).toNatClampNeg), .int (xv (i + 2).toNatClampNeg)] [] rfl rfl (Nat.le_of_ble_eq_true rfl) dL_law_518 ⟨(xv (i + 1).toNatClampNeg), (xv (i + 2).toNatClampNeg), rfl, s1.1, fun x m hp => (?_ : VL X 521 [some (.ref 95), some (.ref 0), some (.ref 75), some (.int i)] [.int x] m)⟩
  have s2 := s1.2 x m hp
  refine u_aload_n hX dL_law_521 rfl (?_ : VL X 522 [some (.ref 95), some (.ref 0), some (.ref 75), some (.int i)] [.ref 75, .int x] _)
  refine u_aload_n hX dL_law_522 rfl (?_ : VL X 523 [some (.ref 95), some (.ref 0), some (.ref 75), some (.int i)] [.ref 95, .ref 75, .int x] _)
  refine u_iload_n hX dL_law_523 rfl (?_ : VL X 524 [some (.ref 95), some (.ref 0), some (.ref 75), some (.int i)] [.int i, .ref 95, .ref 75, .int x] _)
  refine u_iconst hX 1 dL_law_524 rfl (?_ : VL X 525 [some (.ref 95), some (.ref 0), some (.ref 75), some (.int i)] [.int 1, .int i, .ref 95, .ref 75, .int x] _)
  refine u_iadd hX dL_law_525 (?_ : VL X 526 [some (.ref 95), some (.ref 0), some (.ref 75), some (.int i)] [.int (i + 1), .ref 95, .ref 75, .int x] _)
  refine u_sld hL h6.2.1 dL_law_526 (?_ : VL X 527 [some (.ref 95), some (.ref 0), some (.ref 75), some (.int i)] [.int (xv (i + 1).toNatClampNeg), .ref 75, .int x] _)
  refine u_aload_n hX dL_law_527 rfl (?_ : VL X 528 [some (.ref 95), some (.ref 0), some (.ref 75), some (.int i)] [.ref 95, .int (xv (i + 1).toNatClampNeg), .ref 75, .int x] _)
  refine u_iload_n hX dL_law_528 rfl (?_ : VL X 529 [some (.ref 95), some (.ref 0), some (.ref 75), some (.int i)] [.int i, .ref 95, .int (xv (i + 1).toNatClampNeg), .ref 75, .int x] _)
  refine u_iconst hX 2 dL_law_529 rfl (?_ : VL X 530 [some (.ref 95), some (.ref 0), some (.ref 75), some (.int i)] [.int 2, .int i, .ref 95, .int (xv (i + 1).toNatClampNeg), .ref 75, .int x] _)
  refine u_iadd hX dL_law_530 (?_ : VL X 531 [some (.ref 95), some (.ref 0), some (.ref 75), some (.int i)] [.int (i + 2), .ref 95, .int (xv (i + 1).toNatClampNeg), .ref 75, .int x] _)
  refine u_sld hL h6.2.2.1 dL_law_531 (?_ : VL X 532 [some (.ref 95), some (.ref 0), some (.ref 75), some (.int i)] [.int (xv (i + 2).toNatClampNeg), .int (xv (i + 1).toNatClampNeg), .ref 75, .int x] _)
  refine u_callV hX (room_ok hL) sp_X9_felt ck_X9_felt mk_L_87 mv_X9_felt sh_75 (by decide) (by decide) [.int (xv (i + 1).toNatClampNeg), .int (xv (i + 2).toNatClampNeg)] [.int x] rfl rfl (Nat.le_of_ble_eq_true rfl) dL_law_532 ⟨(xv (i + 1).toNatClampNeg), (xv (i + 2).toNatClampNeg), rfl, s2.1, fun y m' hp' => (?_ : VL X 535 [some (.ref 95), some (.ref 0), some (.ref 75), some (.int i)] [.int y, .int x] m')⟩
  have s3 := s2.2 y m' hp'
  exact u_icmp_eq hX 778 dL_law_535 rfl (fun _ => kk _ s3.2) (fun c1 => absurd s3.1 c1)
set_option maxRecDepth 20000 in
set_option maxHeartbeats 1000000 in
theorem lc_forget {X : XT} {b Ln : Nat} {xv : Nat → Int32} (hL : LwX X b Ln xv) {i : Int32} {μ : Mem} (hI : Inv μ) (h6 : In6 i Ln) (kk : ∀ m, Inv m → VL X 778 [some (.ref 95), some (.ref 0), some (.ref 75), some (.int i)] [] m) : VL X 540 [some (.ref 95), some (.ref 0), some (.ref 75), some (.int i)] [] μ := by
  have hX := hL.1
  refine u_aload_n hX dL_law_540 rfl (?_ : VL X 541 [some (.ref 95), some (.ref 0), some (.ref 75), some (.int i)] [.ref 0] _)
  have s1 := st_forget hI 
  refine u_callV hX (room_ok hL) sp_X8_forget ck_X8_forget mk_L_88 mv_X8_forget sh_0 (by decide) (by decide) [] [] rfl rfl (Nat.le_of_ble_eq_true rfl) dL_law_541 ⟨rfl, s1.1, fun x m hp => (?_ : VL X 544 [some (.ref 95), some (.ref 0), some (.ref 75), some (.int i)] [.int x] m)⟩
  have s2 := s1.2 x m hp
  refine u_aload_n hX dL_law_544 rfl (?_ : VL X 545 [some (.ref 95), some (.ref 0), some (.ref 75), some (.int i)] [.ref 75, .int x] _)
  refine u_callV hX (room_ok hL) sp_X9_forget ck_X9_forget mk_L_91 mv_X9_forget sh_75 (by decide) (by decide) [] [.int x] rfl rfl (Nat.le_of_ble_eq_true rfl) dL_law_545 ⟨rfl, s2.1, fun y m' hp' => (?_ : VL X 548 [some (.ref 95), some (.ref 0), some (.ref 75), some (.int i)] [.int y, .int x] m')⟩
  have s3 := s2.2 y m' hp'
  exact u_icmp_eq hX 778 dL_law_548 rfl (fun _ => kk _ s3.2) (fun c1 => absurd s3.1 c1)
set_option maxRecDepth 20000 in
set_option maxHeartbeats 1000000 in
theorem lc_tempers {X : XT} {b Ln : Nat} {xv : Nat → Int32} (hL : LwX X b Ln xv) {i : Int32} {μ : Mem} (hI : Inv μ) (h6 : In6 i Ln) (kk : ∀ m, Inv m → VL X 778 [some (.ref 95), some (.ref 0), some (.ref 75), some (.int i)] [] m) : VL X 553 [some (.ref 95), some (.ref 0), some (.ref 75), some (.int i)] [] μ := by
  have hX := hL.1
  refine u_aload_n hX dL_law_553 rfl (?_ : VL X 554 [some (.ref 95), some (.ref 0), some (.ref 75), some (.int i)] [.ref 0] _)
  have s1 := st_tempers hI 
  refine u_callV hX (room_ok hL) sp_X8_tempers ck_X8_tempers mk_L_92 mv_X8_tempers sh_0 (by decide) (by decide) [] [] rfl rfl (Nat.le_of_ble_eq_true rfl) dL_law_554 ⟨rfl, s1.1, fun x m hp => (?_ : VL X 557 [some (.ref 95), some (.ref 0), some (.ref 75), some (.int i)] [.int x] m)⟩
  have s2 := s1.2 x m hp
  refine u_aload_n hX dL_law_557 rfl (?_ : VL X 558 [some (.ref 95), some (.ref 0), some (.ref 75), some (.int i)] [.ref 75, .int x] _)
  refine u_callV hX (room_ok hL) sp_X9_tempers ck_X9_tempers mk_L_95 mv_X9_tempers sh_75 (by decide) (by decide) [] [.int x] rfl rfl (Nat.le_of_ble_eq_true rfl) dL_law_558 ⟨rfl, s2.1, fun y m' hp' => (?_ : VL X 561 [some (.ref 95), some (.ref 0), some (.ref 75), some (.int i)] [.int y, .int x] m')⟩
  have s3 := s2.2 y m' hp'
  exact u_icmp_eq hX 778 dL_law_561 rfl (fun _ => kk _ s3.2) (fun c1 => absurd s3.1 c1)
set_option maxRecDepth 20000 in
set_option maxHeartbeats 1000000 in
theorem lc_which {X : XT} {b Ln : Nat} {xv : Nat → Int32} (hL : LwX X b Ln xv) {i : Int32} {μ : Mem} (hI : Inv μ) (h6 : In6 i Ln) (kk : ∀ m, Inv m → VL X 778 [some (.ref 95), some (.ref 0), some (.ref 75), some (.int i)] [] m) : VL X 566 [some (.ref 95), some (.ref 0), some (.ref 75), some (.int i)] [] μ := by
  have hX := hL.1
  refine u_aload_n hX dL_law_566 rfl (?_ : VL X 567 [some (.ref 95), some (.ref 0), some (.ref 75), some (.int i)] [.ref 0] _)
  refine u_aload_n hX dL_law_567 rfl (?_ : VL X 568 [some (.ref 95), some (.ref 0), some (.ref 75), some (.int i)] [.ref 95, .ref 0] _)
  refine u_iload_n hX dL_law_568 rfl (?_ : VL X 569 [some (.ref 95), some (.ref 0), some (.ref 75), some (.int i)] [.int i, .ref 95, .ref 0] _)
  refine u_iconst hX 1 dL_law_569 rfl (?_ : VL X 570 [some (.ref 95), some (.ref 0), some (.ref 75), some (.int i)] [.int 1, .int i, .ref 95, .ref 0] _)
  refine u_iadd hX dL_law_570 (?_ : VL X 571 [some (.ref 95), some (.ref 0), some (.ref 75), some (.int i)] [.int (i + 1), .ref 95, .ref 0] _)
  refine u_sld hL h6.2.1 dL_law_571 (?_ : VL X 572 [some (.ref 95), some (.ref 0), some (.ref 75), some (.int i)] [.int (xv (i + 1).toNatClampNeg), .ref 0] _)
  refine u_aload_n hX dL_law_572 rfl (?_ : VL X 573 [some (.ref 95), some (.ref 0), some (.ref 75), some (.int i)] [.ref 95, .int (xv (i + 1).toNatClampNeg), .ref 0] _)
  refine u_iload_n hX dL_law_573 rfl (?_ : VL X 574 [some (.ref 95), some (.ref 0), some (.ref 75), some (.int i)] [.int i, .ref 95, .int (xv (i + 1).toNatClampNeg), .ref 0] _)
  refine u_iconst hX 2 dL_law_574 rfl (?_ : VL X 575 [some (.ref 95), some (.ref 0), some (.ref 75), some (.int i)] [.int 2, .int i, .ref 95, .int (xv (i + 1).toNatClampNeg), .ref 0] _)
  refine u_iadd hX dL_law_575 (?_ : VL X 576 [some (.ref 95), some (.ref 0), some (.ref 75), some (.int i)] [.int (i + 2), .ref 95, .int (xv (i + 1).toNatClampNeg), .ref 0] _)
  refine u_sld hL h6.2.2.1 dL_law_576 (?_ : VL X 577 [some (.ref 95), some (.ref 0), some (.ref 75), some (.int i)] [.int (xv (i + 2).toNatClampNeg), .int (xv (i + 1).toNatClampNeg), .ref 0] _)
  have s1 := st_which hI (xv (i + 1).toNatClampNeg) (xv (i + 2).toNatClampNeg)
  refine u_callV hX (room_ok hL) sp_X8_which ck_X8_which mk_L_96 mv_X8_which sh_0 (by decide) (by decide) [.int (xv (i + 1).toNatClampNeg), .int (xv (i + 2).toNatClampNeg)] [] rfl rfl (Nat.le_of_ble_eq_true rfl) dL_law_577 ⟨(xv (i + 1).toNatClampNeg), (xv (i + 2).toNatClampNeg), rfl, s1.1, fun x m hp => (?_ : VL X 580 [some (.ref 95), some (.ref 0), some (.ref 75), some (.int i)] [.int x] m)⟩
  have s2 := s1.2 x m hp
  refine u_aload_n hX dL_law_580 rfl (?_ : VL X 581 [some (.ref 95), some (.ref 0), some (.ref 75), some (.int i)] [.ref 75, .int x] _)
  refine u_aload_n hX dL_law_581 rfl (?_ : VL X 582 [some (.ref 95), some (.ref 0), some (.ref 75), some (.int i)] [.ref 95, .ref 75, .int x] _)
  refine u_iload_n hX dL_law_582 rfl (?_ : VL X 583 [some (.ref 95), some (.ref 0), some (.ref 75), some (.int i)] [.int i, .ref 95, .ref 75, .int x] _)
  refine u_iconst hX 1 dL_law_583 rfl (?_ : VL X 584 [some (.ref 95), some (.ref 0), some (.ref 75), some (.int i)] [.int 1, .int i, .ref 95, .ref 75, .int x] _)
  refine u_iadd hX dL_law_584 (?_ : VL X 585 [some (.ref 95), some (.ref 0), some (.ref 75), some (.int i)] [.int (i + 1), .ref 95, .ref 75, .int x] _)
  refine u_sld hL h6.2.1 dL_law_585 (?_ : VL X 586 [some (.ref 95), some (.ref 0), some (.ref 75), some (.int i)] [.int (xv (i + 1).toNatClampNeg), .ref 75, .int x] _)
  refine u_aload_n hX dL_law_586 rfl (?_ : VL X 587 [some (.ref 95), some (.ref 0), some (.ref 75), some (.int i)] [.ref 95, .int (xv (i + 1).toNatClampNeg), .ref 75, .int x] _)
  refine u_iload_n hX dL_law_587 rfl (?_ : VL X 588 [some (.ref 95), some (.ref 0), some (.ref 75), some (.int i)] [.int i, .ref 95, .int (xv (i + 1).toNatClampNeg), .ref 75, .int x] _)
  refine u_iconst hX 2 dL_law_588 rfl (?_ : VL X 589 [some (.ref 95), some (.ref 0), some (.ref 75), some (.int i)] [.int 2, .int i, .ref 95, .int (xv (i + 1).toNatClampNeg), .ref 75, .int x] _)
  refine u_iadd hX dL_law_589 (?_ : VL X 590 [some (.ref 95), some (.ref 0), some (.ref 75), some (.int i)] [.int (i + 2), .ref 95, .int (xv (i + 1).toNatClampNeg), .ref 75, .int x] _)
  refine u_sld hL h6.2.2.1 dL_law_590 (?_ : VL X 591 [some (.ref 95), some (.ref 0), some (.ref 75), some (.int i)] [.int (xv (i + 2).toNatClampNeg), .int (xv (i + 1).toNatClampNeg), .ref 75, .int x] _)
  refine u_callV hX (room_ok hL) sp_X9_which ck_X9_which mk_L_99 mv_X9_which sh_75 (by decide) (by decide) [.int (xv (i + 1).toNatClampNeg), .int (xv (i + 2).toNatClampNeg)] [.int x] rfl rfl (Nat.le_of_ble_eq_true rfl) dL_law_591 ⟨(xv (i + 1).toNatClampNeg), (xv (i + 2).toNatClampNeg), rfl, s2.1, fun y m' hp' => (?_ : VL X 594 [some (.ref 95), some (.ref 0), some (.ref 75), some (.int i)] [.int y, .int x] m')⟩
  have s3 := s2.2 y m' hp'
  exact u_icmp_eq hX 778 dL_law_594 rfl (fun _ => kk _ s3.2) (fun c1 => absurd s3.1 c1)
set_option maxRecDepth 20000 in
set_option maxHeartbeats 1000000 in
theorem lc_odds {X : XT} {b Ln : Nat} {xv : Nat → Int32} (hL : LwX X b Ln xv) {i : Int32} {μ : Mem} (hI : Inv μ) (h6 : In6 i Ln) (kk : ∀ m, Inv m → VL X 778 [some (.ref 95), some (.ref 0), some (.ref 75), some (.int i)] [] m) : VL X 599 [some (.ref 95), some (.ref 0), some (.ref 75), some (.int i)] [] μ := by
  have hX := hL.1
  refine u_aload_n hX dL_law_599 rfl (?_ : VL X 600 [some (.ref 95), some (.ref 0), some (.ref 75), some (.int i)] [.ref 0] _)
  refine u_aload_n hX dL_law_600 rfl (?_ : VL X 601 [some (.ref 95), some (.ref 0), some (.ref 75), some (.int i)] [.ref 95, .ref 0] _)
  refine u_iload_n hX dL_law_601 rfl (?_ : VL X 602 [some (.ref 95), some (.ref 0), some (.ref 75), some (.int i)] [.int i, .ref 95, .ref 0] _)
  refine u_iconst hX 1 dL_law_602 rfl (?_ : VL X 603 [some (.ref 95), some (.ref 0), some (.ref 75), some (.int i)] [.int 1, .int i, .ref 95, .ref 0] _)
  refine u_iadd hX dL_law_603 (?_ : VL X 604 [some (.ref 95), some (.ref 0), some (.ref 75), some (.int i)] [.int (i + 1), .ref 95, .ref 0] _)
  refine u_sld hL h6.2.1 dL_law_604 (?_ : VL X 605 [some (.ref 95), some (.ref 0), some (.ref 75), some (.int i)] [.int (xv (i + 1).toNatClampNeg), .ref 0] _)
  refine u_aload_n hX dL_law_605 rfl (?_ : VL X 606 [some (.ref 95), some (.ref 0), some (.ref 75), some (.int i)] [.ref 95, .int (xv (i + 1).toNatClampNeg), .ref 0] _)
  refine u_iload_n hX dL_law_606 rfl (?_ : VL X 607 [some (.ref 95), some (.ref 0), some (.ref 75), some (.int i)] [.int i, .ref 95, .int (xv (i + 1).toNatClampNeg), .ref 0] _)
  refine u_iconst hX 2 dL_law_607 rfl (?_ : VL X 608 [some (.ref 95), some (.ref 0), some (.ref 75), some (.int i)] [.int 2, .int i, .ref 95, .int (xv (i + 1).toNatClampNeg), .ref 0] _)
  refine u_iadd hX dL_law_608 (?_ : VL X 609 [some (.ref 95), some (.ref 0), some (.ref 75), some (.int i)] [.int (i + 2), .ref 95, .int (xv (i + 1).toNatClampNeg), .ref 0] _)
  refine u_sld hL h6.2.2.1 dL_law_609 (?_ : VL X 610 [some (.ref 95), some (.ref 0), some (.ref 75), some (.int i)] [.int (xv (i + 2).toNatClampNeg), .int (xv (i + 1).toNatClampNeg), .ref 0] _)
  refine u_aload_n hX dL_law_610 rfl (?_ : VL X 611 [some (.ref 95), some (.ref 0), some (.ref 75), some (.int i)] [.ref 95, .int (xv (i + 2).toNatClampNeg), .int (xv (i + 1).toNatClampNeg), .ref 0] _)
  refine u_iload_n hX dL_law_611 rfl (?_ : VL X 612 [some (.ref 95), some (.ref 0), some (.ref 75), some (.int i)] [.int i, .ref 95, .int (xv (i + 2).toNatClampNeg), .int (xv (i + 1).toNatClampNeg), .ref 0] _)
  refine u_iconst hX 3 dL_law_612 rfl (?_ : VL X 613 [some (.ref 95), some (.ref 0), some (.ref 75), some (.int i)] [.int 3, .int i, .ref 95, .int (xv (i + 2).toNatClampNeg), .int (xv (i + 1).toNatClampNeg), .ref 0] _)
  refine u_iadd hX dL_law_613 (?_ : VL X 614 [some (.ref 95), some (.ref 0), some (.ref 75), some (.int i)] [.int (i + 3), .ref 95, .int (xv (i + 2).toNatClampNeg), .int (xv (i + 1).toNatClampNeg), .ref 0] _)
  refine u_sld hL h6.2.2.2.1 dL_law_614 (?_ : VL X 615 [some (.ref 95), some (.ref 0), some (.ref 75), some (.int i)] [.int (xv (i + 3).toNatClampNeg), .int (xv (i + 2).toNatClampNeg), .int (xv (i + 1).toNatClampNeg), .ref 0] _)
  refine u_aload_n hX dL_law_615 rfl (?_ : VL X 616 [some (.ref 95), some (.ref 0), some (.ref 75), some (.int i)] [.ref 95, .int (xv (i + 3).toNatClampNeg), .int (xv (i + 2).toNatClampNeg), .int (xv (i + 1).toNatClampNeg), .ref 0] _)
  refine u_iload_n hX dL_law_616 rfl (?_ : VL X 617 [some (.ref 95), some (.ref 0), some (.ref 75), some (.int i)] [.int i, .ref 95, .int (xv (i + 3).toNatClampNeg), .int (xv (i + 2).toNatClampNeg), .int (xv (i + 1).toNatClampNeg), .ref 0] _)
  refine u_iconst hX 4 dL_law_617 rfl (?_ : VL X 618 [some (.ref 95), some (.ref 0), some (.ref 75), some (.int i)] [.int 4, .int i, .ref 95, .int (xv (i + 3).toNatClampNeg), .int (xv (i + 2).toNatClampNeg), .int (xv (i + 1).toNatClampNeg), .ref 0] _)
  refine u_iadd hX dL_law_618 (?_ : VL X 619 [some (.ref 95), some (.ref 0), some (.ref 75), some (.int i)] [.int (i + 4), .ref 95, .int (xv (i + 3).toNatClampNeg), .int (xv (i + 2).toNatClampNeg), .int (xv (i + 1).toNatClampNeg), .ref 0] _)
  refine u_sld hL h6.2.2.2.2.1 dL_law_619 (?_ : VL X 620 [some (.ref 95), some (.ref 0), some (.ref 75), some (.int i)] [.int (xv (i + 4).toNatClampNeg), .int (xv (i + 3).toNatClampNeg), .int (xv (i + 2).toNatClampNeg), .int (xv (i + 1).toNatClampNeg), .ref 0] _)
  refine u_aload_n hX dL_law_620 rfl (?_ : VL X 621 [some (.ref 95), some (.ref 0), some (.ref 75), some (.int i)] [.ref 95, .int (xv (i + 4).toNatClampNeg), .int (xv (i + 3).toNatClampNeg), .int (xv (i + 2).toNatClampNeg), .int (xv (i + 1).toNatClampNeg), .ref 0] _)
  refine u_iload_n hX dL_law_621 rfl (?_ : VL X 622 [some (.ref 95), some (.ref 0), some (.ref 75), some (.int i)] [.int i, .ref 95, .int (xv (i + 4).toNatClampNeg), .int (xv (i + 3).toNatClampNeg), .int (xv (i + 2).toNatClampNeg), .int (xv (i + 1).toNatClampNeg), .ref 0] _)
  refine u_iconst hX 5 dL_law_622 rfl (?_ : VL X 623 [some (.ref 95), some (.ref 0), some (.ref 75), some (.int i)] [.int 5, .int i, .ref 95, .int (xv (i + 4).toNatClampNeg), .int (xv (i + 3).toNatClampNeg), .int (xv (i + 2).toNatClampNeg), .int (xv (i + 1).toNatClampNeg), .ref 0] _)
  refine u_iadd hX dL_law_623 (?_ : VL X 624 [some (.ref 95), some (.ref 0), some (.ref 75), some (.int i)] [.int (i + 5), .ref 95, .int (xv (i + 4).toNatClampNeg), .int (xv (i + 3).toNatClampNeg), .int (xv (i + 2).toNatClampNeg), .int (xv (i + 1).toNatClampNeg), .ref 0] _)
  refine u_sld hL h6.2.2.2.2.2 dL_law_624 (?_ : VL X 625 [some (.ref 95), some (.ref 0), some (.ref 75), some (.int i)] [.int (xv (i + 5).toNatClampNeg), .int (xv (i + 4).toNatClampNeg), .int (xv (i + 3).toNatClampNeg), .int (xv (i + 2).toNatClampNeg), .int (xv (i + 1).toNatClampNeg), .ref 0] _)
  have s1 := st_odds hI (xv (i + 1).toNatClampNeg) (xv (i + 2).toNatClampNeg) (xv (i + 3).toNatClampNeg) (xv (i + 4).toNatClampNeg) (xv (i + 5).toNatClampNeg)
  refine u_callV hX (room_ok hL) sp_X8_odds ck_X8_odds mk_L_100 mv_X8_odds sh_0 (by decide) (by decide) [.int (xv (i + 1).toNatClampNeg), .int (xv (i + 2).toNatClampNeg), .int (xv (i + 3).toNatClampNeg), .int (xv (i + 4).toNatClampNeg), .int (xv (i + 5).toNatClampNeg)] [] rfl rfl (Nat.le_of_ble_eq_true rfl) dL_law_625 ⟨(xv (i + 1).toNatClampNeg), (xv (i + 2).toNatClampNeg), (xv (i + 3).toNatClampNeg), (xv (i + 4).toNatClampNeg), (xv (i + 5).toNatClampNeg), rfl, s1.1, fun x m hp => (?_ : VL X 628 [some (.ref 95), some (.ref 0), some (.ref 75), some (.int i)] [.int x] m)⟩
  have s2 := s1.2 x m hp
  refine u_aload_n hX dL_law_628 rfl (?_ : VL X 629 [some (.ref 95), some (.ref 0), some (.ref 75), some (.int i)] [.ref 75, .int x] _)
  refine u_aload_n hX dL_law_629 rfl (?_ : VL X 630 [some (.ref 95), some (.ref 0), some (.ref 75), some (.int i)] [.ref 95, .ref 75, .int x] _)
  refine u_iload_n hX dL_law_630 rfl (?_ : VL X 631 [some (.ref 95), some (.ref 0), some (.ref 75), some (.int i)] [.int i, .ref 95, .ref 75, .int x] _)
  refine u_iconst hX 1 dL_law_631 rfl (?_ : VL X 632 [some (.ref 95), some (.ref 0), some (.ref 75), some (.int i)] [.int 1, .int i, .ref 95, .ref 75, .int x] _)
  refine u_iadd hX dL_law_632 (?_ : VL X 633 [some (.ref 95), some (.ref 0), some (.ref 75), some (.int i)] [.int (i + 1), .ref 95, .ref 75, .int x] _)
  refine u_sld hL h6.2.1 dL_law_633 (?_ : VL X 634 [some (.ref 95), some (.ref 0), some (.ref 75), some (.int i)] [.int (xv (i + 1).toNatClampNeg), .ref 75, .int x] _)
  refine u_aload_n hX dL_law_634 rfl (?_ : VL X 635 [some (.ref 95), some (.ref 0), some (.ref 75), some (.int i)] [.ref 95, .int (xv (i + 1).toNatClampNeg), .ref 75, .int x] _)
  refine u_iload_n hX dL_law_635 rfl (?_ : VL X 636 [some (.ref 95), some (.ref 0), some (.ref 75), some (.int i)] [.int i, .ref 95, .int (xv (i + 1).toNatClampNeg), .ref 75, .int x] _)
  refine u_iconst hX 2 dL_law_636 rfl (?_ : VL X 637 [some (.ref 95), some (.ref 0), some (.ref 75), some (.int i)] [.int 2, .int i, .ref 95, .int (xv (i + 1).toNatClampNeg), .ref 75, .int x] _)
  refine u_iadd hX dL_law_637 (?_ : VL X 638 [some (.ref 95), some (.ref 0), some (.ref 75), some (.int i)] [.int (i + 2), .ref 95, .int (xv (i + 1).toNatClampNeg), .ref 75, .int x] _)
  refine u_sld hL h6.2.2.1 dL_law_638 (?_ : VL X 639 [some (.ref 95), some (.ref 0), some (.ref 75), some (.int i)] [.int (xv (i + 2).toNatClampNeg), .int (xv (i + 1).toNatClampNeg), .ref 75, .int x] _)
  refine u_aload_n hX dL_law_639 rfl (?_ : VL X 640 [some (.ref 95), some (.ref 0), some (.ref 75), some (.int i)] [.ref 95, .int (xv (i + 2).toNatClampNeg), .int (xv (i + 1).toNatClampNeg), .ref 75, .int x] _)
  refine u_iload_n hX dL_law_640 rfl (?_ : VL X 641 [some (.ref 95), some (.ref 0), some (.ref 75), some (.int i)] [.int i, .ref 95, .int (xv (i + 2).toNatClampNeg), .int (xv (i + 1).toNatClampNeg), .ref 75, .int x] _)
  refine u_iconst hX 3 dL_law_641 rfl (?_ : VL X 642 [some (.ref 95), some (.ref 0), some (.ref 75), some (.int i)] [.int 3, .int i, .ref 95, .int (xv (i + 2).toNatClampNeg), .int (xv (i + 1).toNatClampNeg), .ref 75, .int x] _)
  refine u_iadd hX dL_law_642 (?_ : VL X 643 [some (.ref 95), some (.ref 0), some (.ref 75), some (.int i)] [.int (i + 3), .ref 95, .int (xv (i + 2).toNatClampNeg), .int (xv (i + 1).toNatClampNeg), .ref 75, .int x] _)
  refine u_sld hL h6.2.2.2.1 dL_law_643 (?_ : VL X 644 [some (.ref 95), some (.ref 0), some (.ref 75), some (.int i)] [.int (xv (i + 3).toNatClampNeg), .int (xv (i + 2).toNatClampNeg), .int (xv (i + 1).toNatClampNeg), .ref 75, .int x] _)
  refine u_aload_n hX dL_law_644 rfl (?_ : VL X 645 [some (.ref 95), some (.ref 0), some (.ref 75), some (.int i)] [.ref 95, .int (xv (i + 3).toNatClampNeg), .int (xv (i + 2).toNatClampNeg), .int (xv (i + 1).toNatClampNeg), .ref 75, .int x] _)
  refine u_iload_n hX dL_law_645 rfl (?_ : VL X 646 [some (.ref 95), some (.ref 0), some (.ref 75), some (.int i)] [.int i, .ref 95, .int (xv (i + 3).toNatClampNeg), .int (xv (i + 2).toNatClampNeg), .int (xv (i + 1).toNatClampNeg), .ref 75, .int x] _)
  refine u_iconst hX 4 dL_law_646 rfl (?_ : VL X 647 [some (.ref 95), some (.ref 0), some (.ref 75), some (.int i)] [.int 4, .int i, .ref 95, .int (xv (i + 3).toNatClampNeg), .int (xv (i + 2).toNatClampNeg), .int (xv (i + 1).toNatClampNeg), .ref 75, .int x] _)
  refine u_iadd hX dL_law_647 (?_ : VL X 648 [some (.ref 95), some (.ref 0), some (.ref 75), some (.int i)] [.int (i + 4), .ref 95, .int (xv (i + 3).toNatClampNeg), .int (xv (i + 2).toNatClampNeg), .int (xv (i + 1).toNatClampNeg), .ref 75, .int x] _)
  refine u_sld hL h6.2.2.2.2.1 dL_law_648 (?_ : VL X 649 [some (.ref 95), some (.ref 0), some (.ref 75), some (.int i)] [.int (xv (i + 4).toNatClampNeg), .int (xv (i + 3).toNatClampNeg), .int (xv (i + 2).toNatClampNeg), .int (xv (i + 1).toNatClampNeg), .ref 75, .int x] _)
  refine u_aload_n hX dL_law_649 rfl (?_ : VL X 650 [some (.ref 95), some (.ref 0), some (.ref 75), some (.int i)] [.ref 95, .int (xv (i + 4).toNatClampNeg), .int (xv (i + 3).toNatClampNeg), .int (xv (i + 2).toNatClampNeg), .int (xv (i + 1).toNatClampNeg), .ref 75, .int x] _)
  refine u_iload_n hX dL_law_650 rfl (?_ : VL X 651 [some (.ref 95), some (.ref 0), some (.ref 75), some (.int i)] [.int i, .ref 95, .int (xv (i + 4).toNatClampNeg), .int (xv (i + 3).toNatClampNeg), .int (xv (i + 2).toNatClampNeg), .int (xv (i + 1).toNatClampNeg), .ref 75, .int x] _)
  refine u_iconst hX 5 dL_law_651 rfl (?_ : VL X 652 [some (.ref 95), some (.ref 0), some (.ref 75), some (.int i)] [.int 5, .int i, .ref 95, .int (xv (i + 4).toNatClampNeg), .int (xv (i + 3).toNatClampNeg), .int (xv (i + 2).toNatClampNeg), .int (xv (i + 1).toNatClampNeg), .ref 75, .int x] _)
  refine u_iadd hX dL_law_652 (?_ : VL X 653 [some (.ref 95), some (.ref 0), some (.ref 75), some (.int i)] [.int (i + 5), .ref 95, .int (xv (i + 4).toNatClampNeg), .int (xv (i + 3).toNatClampNeg), .int (xv (i + 2).toNatClampNeg), .int (xv (i + 1).toNatClampNeg), .ref 75, .int x] _)
  refine u_sld hL h6.2.2.2.2.2 dL_law_653 (?_ : VL X 654 [some (.ref 95), some (.ref 0), some (.ref 75), some (.int i)] [.int (xv (i + 5).toNatClampNeg), .int (xv (i + 4).toNatClampNeg), .int (xv (i + 3).toNatClampNeg), .int (xv (i + 2).toNatClampNeg), .int (xv (i + 1).toNatClampNeg), .ref 75, .int x] _)
  refine u_callV hX (room_ok hL) sp_X9_odds ck_X9_odds mk_L_104 mv_X9_odds sh_75 (by decide) (by decide) [.int (xv (i + 1).toNatClampNeg), .int (xv (i + 2).toNatClampNeg), .int (xv (i + 3).toNatClampNeg), .int (xv (i + 4).toNatClampNeg), .int (xv (i + 5).toNatClampNeg)] [.int x] rfl rfl (Nat.le_of_ble_eq_true rfl) dL_law_654 ⟨(xv (i + 1).toNatClampNeg), (xv (i + 2).toNatClampNeg), (xv (i + 3).toNatClampNeg), (xv (i + 4).toNatClampNeg), (xv (i + 5).toNatClampNeg), rfl, s2.1, fun y m' hp' => (?_ : VL X 657 [some (.ref 95), some (.ref 0), some (.ref 75), some (.int i)] [.int y, .int x] m')⟩
  have s3 := s2.2 y m' hp'
  exact u_icmp_eq hX 778 dL_law_657 rfl (fun _ => kk _ s3.2) (fun c1 => absurd s3.1 c1)
set_option maxRecDepth 20000 in
set_option maxHeartbeats 1000000 in
theorem lc_rate {X : XT} {b Ln : Nat} {xv : Nat → Int32} (hL : LwX X b Ln xv) {i : Int32} {μ : Mem} (hI : Inv μ) (h6 : In6 i Ln) (kk : ∀ m, Inv m → VL X 778 [some (.ref 95), some (.ref 0), some (.ref 75), some (.int i)] [] m) : VL X 662 [some (.ref 95), some (.ref 0), some (.ref 75), some (.int i)] [] μ := by
  have hX := hL.1
  refine u_aload_n hX dL_law_662 rfl (?_ : VL X 663 [some (.ref 95), some (.ref 0), some (.ref 75), some (.int i)] [.ref 0] _)
  refine u_aload_n hX dL_law_663 rfl (?_ : VL X 664 [some (.ref 95), some (.ref 0), some (.ref 75), some (.int i)] [.ref 95, .ref 0] _)
  refine u_iload_n hX dL_law_664 rfl (?_ : VL X 665 [some (.ref 95), some (.ref 0), some (.ref 75), some (.int i)] [.int i, .ref 95, .ref 0] _)
  refine u_iconst hX 1 dL_law_665 rfl (?_ : VL X 666 [some (.ref 95), some (.ref 0), some (.ref 75), some (.int i)] [.int 1, .int i, .ref 95, .ref 0] _)
  refine u_iadd hX dL_law_666 (?_ : VL X 667 [some (.ref 95), some (.ref 0), some (.ref 75), some (.int i)] [.int (i + 1), .ref 95, .ref 0] _)
  refine u_sld hL h6.2.1 dL_law_667 (?_ : VL X 668 [some (.ref 95), some (.ref 0), some (.ref 75), some (.int i)] [.int (xv (i + 1).toNatClampNeg), .ref 0] _)
  refine u_aload_n hX dL_law_668 rfl (?_ : VL X 669 [some (.ref 95), some (.ref 0), some (.ref 75), some (.int i)] [.ref 95, .int (xv (i + 1).toNatClampNeg), .ref 0] _)
  refine u_iload_n hX dL_law_669 rfl (?_ : VL X 670 [some (.ref 95), some (.ref 0), some (.ref 75), some (.int i)] [.int i, .ref 95, .int (xv (i + 1).toNatClampNeg), .ref 0] _)
  refine u_iconst hX 2 dL_law_670 rfl (?_ : VL X 671 [some (.ref 95), some (.ref 0), some (.ref 75), some (.int i)] [.int 2, .int i, .ref 95, .int (xv (i + 1).toNatClampNeg), .ref 0] _)
  refine u_iadd hX dL_law_671 (?_ : VL X 672 [some (.ref 95), some (.ref 0), some (.ref 75), some (.int i)] [.int (i + 2), .ref 95, .int (xv (i + 1).toNatClampNeg), .ref 0] _)
  refine u_sld hL h6.2.2.1 dL_law_672 (?_ : VL X 673 [some (.ref 95), some (.ref 0), some (.ref 75), some (.int i)] [.int (xv (i + 2).toNatClampNeg), .int (xv (i + 1).toNatClampNeg), .ref 0] _)
  have s1 := st_rate hI (xv (i + 1).toNatClampNeg) (xv (i + 2).toNatClampNeg)
  refine u_callV hX (room_ok hL) sp_X8_rate ck_X8_rate mk_L_105 mv_X8_rate sh_0 (by decide) (by decide) [.int (xv (i + 1).toNatClampNeg), .int (xv (i + 2).toNatClampNeg)] [] rfl rfl (Nat.le_of_ble_eq_true rfl) dL_law_673 ⟨(xv (i + 1).toNatClampNeg), (xv (i + 2).toNatClampNeg), rfl, s1.1, fun x m hp => (?_ : VL X 676 [some (.ref 95), some (.ref 0), some (.ref 75), some (.int i)] [.int x] m)⟩
  have s2 := s1.2 x m hp
  refine u_aload_n hX dL_law_676 rfl (?_ : VL X 677 [some (.ref 95), some (.ref 0), some (.ref 75), some (.int i)] [.ref 75, .int x] _)
  refine u_aload_n hX dL_law_677 rfl (?_ : VL X 678 [some (.ref 95), some (.ref 0), some (.ref 75), some (.int i)] [.ref 95, .ref 75, .int x] _)
  refine u_iload_n hX dL_law_678 rfl (?_ : VL X 679 [some (.ref 95), some (.ref 0), some (.ref 75), some (.int i)] [.int i, .ref 95, .ref 75, .int x] _)
  refine u_iconst hX 1 dL_law_679 rfl (?_ : VL X 680 [some (.ref 95), some (.ref 0), some (.ref 75), some (.int i)] [.int 1, .int i, .ref 95, .ref 75, .int x] _)
  refine u_iadd hX dL_law_680 (?_ : VL X 681 [some (.ref 95), some (.ref 0), some (.ref 75), some (.int i)] [.int (i + 1), .ref 95, .ref 75, .int x] _)
  refine u_sld hL h6.2.1 dL_law_681 (?_ : VL X 682 [some (.ref 95), some (.ref 0), some (.ref 75), some (.int i)] [.int (xv (i + 1).toNatClampNeg), .ref 75, .int x] _)
  refine u_aload_n hX dL_law_682 rfl (?_ : VL X 683 [some (.ref 95), some (.ref 0), some (.ref 75), some (.int i)] [.ref 95, .int (xv (i + 1).toNatClampNeg), .ref 75, .int x] _)
  refine u_iload_n hX dL_law_683 rfl (?_ : VL X 684 [some (.ref 95), some (.ref 0), some (.ref 75), some (.int i)] [.int i, .ref 95, .int (xv (i + 1).toNatClampNeg), .ref 75, .int x] _)
  refine u_iconst hX 2 dL_law_684 rfl (?_ : VL X 685 [some (.ref 95), some (.ref 0), some (.ref 75), some (.int i)] [.int 2, .int i, .ref 95, .int (xv (i + 1).toNatClampNeg), .ref 75, .int x] _)
  refine u_iadd hX dL_law_685 (?_ : VL X 686 [some (.ref 95), some (.ref 0), some (.ref 75), some (.int i)] [.int (i + 2), .ref 95, .int (xv (i + 1).toNatClampNeg), .ref 75, .int x] _)
  refine u_sld hL h6.2.2.1 dL_law_686 (?_ : VL X 687 [some (.ref 95), some (.ref 0), some (.ref 75), some (.int i)] [.int (xv (i + 2).toNatClampNeg), .int (xv (i + 1).toNatClampNeg), .ref 75, .int x] _)
  refine u_callV hX (room_ok hL) sp_X9_rate ck_X9_rate mk_L_108 mv_X9_rate sh_75 (by decide) (by decide) [.int (xv (i + 1).toNatClampNeg), .int (xv (i + 2).toNatClampNeg)] [.int x] rfl rfl (Nat.le_of_ble_eq_true rfl) dL_law_687 ⟨(xv (i + 1).toNatClampNeg), (xv (i + 2).toNatClampNeg), rfl, s2.1, fun y m' hp' => (?_ : VL X 690 [some (.ref 95), some (.ref 0), some (.ref 75), some (.int i)] [.int y, .int x] m')⟩
  have s3 := s2.2 y m' hp'
  exact u_icmp_eq hX 778 dL_law_690 rfl (fun _ => kk _ s3.2) (fun c1 => absurd s3.1 c1)
set_option maxRecDepth 20000 in
set_option maxHeartbeats 1000000 in
theorem lc_keep {X : XT} {b Ln : Nat} {xv : Nat → Int32} (hL : LwX X b Ln xv) {i : Int32} {μ : Mem} (hI : Inv μ) (h6 : In6 i Ln) (kk : ∀ m, Inv m → VL X 778 [some (.ref 95), some (.ref 0), some (.ref 75), some (.int i)] [] m) : VL X 695 [some (.ref 95), some (.ref 0), some (.ref 75), some (.int i)] [] μ := by
  have hX := hL.1
  refine u_aload_n hX dL_law_695 rfl (?_ : VL X 696 [some (.ref 95), some (.ref 0), some (.ref 75), some (.int i)] [.ref 0] _)
  refine u_aload_n hX dL_law_696 rfl (?_ : VL X 697 [some (.ref 95), some (.ref 0), some (.ref 75), some (.int i)] [.ref 95, .ref 0] _)
  refine u_iload_n hX dL_law_697 rfl (?_ : VL X 698 [some (.ref 95), some (.ref 0), some (.ref 75), some (.int i)] [.int i, .ref 95, .ref 0] _)
  refine u_iconst hX 1 dL_law_698 rfl (?_ : VL X 699 [some (.ref 95), some (.ref 0), some (.ref 75), some (.int i)] [.int 1, .int i, .ref 95, .ref 0] _)
  refine u_iadd hX dL_law_699 (?_ : VL X 700 [some (.ref 95), some (.ref 0), some (.ref 75), some (.int i)] [.int (i + 1), .ref 95, .ref 0] _)
  refine u_sld hL h6.2.1 dL_law_700 (?_ : VL X 701 [some (.ref 95), some (.ref 0), some (.ref 75), some (.int i)] [.int (xv (i + 1).toNatClampNeg), .ref 0] _)
  have s1 := st_keep hI (xv (i + 1).toNatClampNeg)
  refine u_callV hX (room_ok hL) sp_X8_keep ck_X8_keep mk_L_109 mv_X8_keep sh_0 (by decide) (by decide) [.int (xv (i + 1).toNatClampNeg)] [] rfl rfl (Nat.le_of_ble_eq_true rfl) dL_law_701 ⟨(xv (i + 1).toNatClampNeg), rfl, s1.1, fun x m hp => (?_ : VL X 704 [some (.ref 95), some (.ref 0), some (.ref 75), some (.int i)] [.int x] m)⟩
  have s2 := s1.2 x m hp
  refine u_aload_n hX dL_law_704 rfl (?_ : VL X 705 [some (.ref 95), some (.ref 0), some (.ref 75), some (.int i)] [.ref 75, .int x] _)
  refine u_aload_n hX dL_law_705 rfl (?_ : VL X 706 [some (.ref 95), some (.ref 0), some (.ref 75), some (.int i)] [.ref 95, .ref 75, .int x] _)
  refine u_iload_n hX dL_law_706 rfl (?_ : VL X 707 [some (.ref 95), some (.ref 0), some (.ref 75), some (.int i)] [.int i, .ref 95, .ref 75, .int x] _)
  refine u_iconst hX 1 dL_law_707 rfl (?_ : VL X 708 [some (.ref 95), some (.ref 0), some (.ref 75), some (.int i)] [.int 1, .int i, .ref 95, .ref 75, .int x] _)
  refine u_iadd hX dL_law_708 (?_ : VL X 709 [some (.ref 95), some (.ref 0), some (.ref 75), some (.int i)] [.int (i + 1), .ref 95, .ref 75, .int x] _)
  refine u_sld hL h6.2.1 dL_law_709 (?_ : VL X 710 [some (.ref 95), some (.ref 0), some (.ref 75), some (.int i)] [.int (xv (i + 1).toNatClampNeg), .ref 75, .int x] _)
  refine u_callV hX (room_ok hL) sp_X9_keep ck_X9_keep mk_L_112 mv_X9_keep sh_75 (by decide) (by decide) [.int (xv (i + 1).toNatClampNeg)] [.int x] rfl rfl (Nat.le_of_ble_eq_true rfl) dL_law_710 ⟨(xv (i + 1).toNatClampNeg), rfl, s2.1, fun y m' hp' => (?_ : VL X 713 [some (.ref 95), some (.ref 0), some (.ref 75), some (.int i)] [.int y, .int x] m')⟩
  have s3 := s2.2 y m' hp'
  exact u_icmp_eq hX 778 dL_law_713 rfl (fun _ => kk _ s3.2) (fun c1 => absurd s3.1 c1)
set_option maxRecDepth 20000 in
set_option maxHeartbeats 1000000 in
theorem lc_back {X : XT} {b Ln : Nat} {xv : Nat → Int32} (hL : LwX X b Ln xv) {i : Int32} {μ : Mem} (hI : Inv μ) (h6 : In6 i Ln) (kk : ∀ m, Inv m → VL X 778 [some (.ref 95), some (.ref 0), some (.ref 75), some (.int i)] [] m) : VL X 718 [some (.ref 95), some (.ref 0), some (.ref 75), some (.int i)] [] μ := by
  have hX := hL.1
  refine u_aload_n hX dL_law_718 rfl (?_ : VL X 719 [some (.ref 95), some (.ref 0), some (.ref 75), some (.int i)] [.ref 0] _)
  refine u_aload_n hX dL_law_719 rfl (?_ : VL X 720 [some (.ref 95), some (.ref 0), some (.ref 75), some (.int i)] [.ref 95, .ref 0] _)
  refine u_iload_n hX dL_law_720 rfl (?_ : VL X 721 [some (.ref 95), some (.ref 0), some (.ref 75), some (.int i)] [.int i, .ref 95, .ref 0] _)
  refine u_iconst hX 1 dL_law_721 rfl (?_ : VL X 722 [some (.ref 95), some (.ref 0), some (.ref 75), some (.int i)] [.int 1, .int i, .ref 95, .ref 0] _)
  refine u_iadd hX dL_law_722 (?_ : VL X 723 [some (.ref 95), some (.ref 0), some (.ref 75), some (.int i)] [.int (i + 1), .ref 95, .ref 0] _)
  refine u_sld hL h6.2.1 dL_law_723 (?_ : VL X 724 [some (.ref 95), some (.ref 0), some (.ref 75), some (.int i)] [.int (xv (i + 1).toNatClampNeg), .ref 0] _)
  have s1 := st_back hI (xv (i + 1).toNatClampNeg)
  refine u_callV hX (room_ok hL) sp_X8_back ck_X8_back mk_L_113 mv_X8_back sh_0 (by decide) (by decide) [.int (xv (i + 1).toNatClampNeg)] [] rfl rfl (Nat.le_of_ble_eq_true rfl) dL_law_724 ⟨(xv (i + 1).toNatClampNeg), rfl, s1.1, fun x m hp => (?_ : VL X 727 [some (.ref 95), some (.ref 0), some (.ref 75), some (.int i)] [.int x] m)⟩
  have s2 := s1.2 x m hp
  refine u_aload_n hX dL_law_727 rfl (?_ : VL X 728 [some (.ref 95), some (.ref 0), some (.ref 75), some (.int i)] [.ref 75, .int x] _)
  refine u_aload_n hX dL_law_728 rfl (?_ : VL X 729 [some (.ref 95), some (.ref 0), some (.ref 75), some (.int i)] [.ref 95, .ref 75, .int x] _)
  refine u_iload_n hX dL_law_729 rfl (?_ : VL X 730 [some (.ref 95), some (.ref 0), some (.ref 75), some (.int i)] [.int i, .ref 95, .ref 75, .int x] _)
  refine u_iconst hX 1 dL_law_730 rfl (?_ : VL X 731 [some (.ref 95), some (.ref 0), some (.ref 75), some (.int i)] [.int 1, .int i, .ref 95, .ref 75, .int x] _)
  refine u_iadd hX dL_law_731 (?_ : VL X 732 [some (.ref 95), some (.ref 0), some (.ref 75), some (.int i)] [.int (i + 1), .ref 95, .ref 75, .int x] _)
  refine u_sld hL h6.2.1 dL_law_732 (?_ : VL X 733 [some (.ref 95), some (.ref 0), some (.ref 75), some (.int i)] [.int (xv (i + 1).toNatClampNeg), .ref 75, .int x] _)
  refine u_callV hX (room_ok hL) sp_X9_back ck_X9_back mk_L_116 mv_X9_back sh_75 (by decide) (by decide) [.int (xv (i + 1).toNatClampNeg)] [.int x] rfl rfl (Nat.le_of_ble_eq_true rfl) dL_law_733 ⟨(xv (i + 1).toNatClampNeg), rfl, s2.1, fun y m' hp' => (?_ : VL X 736 [some (.ref 95), some (.ref 0), some (.ref 75), some (.int i)] [.int y, .int x] m')⟩
  have s3 := s2.2 y m' hp'
  exact u_icmp_eq hX 778 dL_law_736 rfl (fun _ => kk _ s3.2) (fun c1 => absurd s3.1 c1)
set_option maxRecDepth 20000 in
set_option maxHeartbeats 1000000 in
theorem lc_count {X : XT} {b Ln : Nat} {xv : Nat → Int32} (hL : LwX X b Ln xv) {i : Int32} {μ : Mem} (hI : Inv μ) (h6 : In6 i Ln) (kk : ∀ m, Inv m → VL X 778 [some (.ref 95), some (.ref 0), some (.ref 75), some (.int i)] [] m) : VL X 741 [some (.ref 95), some (.ref 0), some (.ref 75), some (.int i)] [] μ := by
  have hX := hL.1
  refine u_aload_n hX dL_law_741 rfl (?_ : VL X 742 [some (.ref 95), some (.ref 0), some (.ref 75), some (.int i)] [.ref 0] _)
  refine u_aload_n hX dL_law_742 rfl (?_ : VL X 743 [some (.ref 95), some (.ref 0), some (.ref 75), some (.int i)] [.ref 95, .ref 0] _)
  refine u_iload_n hX dL_law_743 rfl (?_ : VL X 744 [some (.ref 95), some (.ref 0), some (.ref 75), some (.int i)] [.int i, .ref 95, .ref 0] _)
  refine u_iconst hX 1 dL_law_744 rfl (?_ : VL X 745 [some (.ref 95), some (.ref 0), some (.ref 75), some (.int i)] [.int 1, .int i, .ref 95, .ref 0] _)
  refine u_iadd hX dL_law_745 (?_ : VL X 746 [some (.ref 95), some (.ref 0), some (.ref 75), some (.int i)] [.int (i + 1), .ref 95, .ref 0] _)
  refine u_sld hL h6.2.1 dL_law_746 (?_ : VL X 747 [some (.ref 95), some (.ref 0), some (.ref 75), some (.int i)] [.int (xv (i + 1).toNatClampNeg), .ref 0] _)
  have s1 := st_count hI (xv (i + 1).toNatClampNeg)
  refine u_callV hX (room_ok hL) sp_X8_count ck_X8_count mk_L_117 mv_X8_count sh_0 (by decide) (by decide) [.int (xv (i + 1).toNatClampNeg)] [] rfl rfl (Nat.le_of_ble_eq_true rfl) dL_law_747 ⟨(xv (i + 1).toNatClampNeg), rfl, s1.1, fun x m hp => (?_ : VL X 750 [some (.ref 95), some (.ref 0), some (.ref 75), some (.int i)] [.int x] m)⟩
  have s2 := s1.2 x m hp
  refine u_aload_n hX dL_law_750 rfl (?_ : VL X 751 [some (.ref 95), some (.ref 0), some (.ref 75), some (.int i)] [.ref 75, .int x] _)
  refine u_aload_n hX dL_law_751 rfl (?_ : VL X 752 [some (.ref 95), some (.ref 0), some (.ref 75), some (.int i)] [.ref 95, .ref 75, .int x] _)
  refine u_iload_n hX dL_law_752 rfl (?_ : VL X 753 [some (.ref 95), some (.ref 0), some (.ref 75), some (.int i)] [.int i, .ref 95, .ref 75, .int x] _)
  refine u_iconst hX 1 dL_law_753 rfl (?_ : VL X 754 [some (.ref 95), some (.ref 0), some (.ref 75), some (.int i)] [.int 1, .int i, .ref 95, .ref 75, .int x] _)
  refine u_iadd hX dL_law_754 (?_ : VL X 755 [some (.ref 95), some (.ref 0), some (.ref 75), some (.int i)] [.int (i + 1), .ref 95, .ref 75, .int x] _)
  refine u_sld hL h6.2.1 dL_law_755 (?_ : VL X 756 [some (.ref 95), some (.ref 0), some (.ref 75), some (.int i)] [.int (xv (i + 1).toNatClampNeg), .ref 75, .int x] _)
  refine u_callV hX (room_ok hL) sp_X9_count ck_X9_count mk_L_120 mv_X9_count sh_75 (by decide) (by decide) [.int (xv (i + 1).toNatClampNeg)] [.int x] rfl rfl (Nat.le_of_ble_eq_true rfl) dL_law_756 ⟨(xv (i + 1).toNatClampNeg), rfl, s2.1, fun y m' hp' => (?_ : VL X 759 [some (.ref 95), some (.ref 0), some (.ref 75), some (.int i)] [.int y, .int x] m')⟩
  have s3 := s2.2 y m' hp'
  exact u_icmp_eq hX 778 dL_law_759 rfl (fun _ => kk _ s3.2) (fun c1 => absurd s3.1 c1)
set_option maxRecDepth 20000 in
set_option maxHeartbeats 1000000 in
theorem lc_trace {X : XT} {b Ln : Nat} {xv : Nat → Int32} (hL : LwX X b Ln xv) {i : Int32} {μ : Mem} (hI : Inv μ) (h6 : In6 i Ln) (kk : ∀ m, Inv m → VL X 778 [some (.ref 95), some (.ref 0), some (.ref 75), some (.int i)] [] m) : VL X 764 [some (.ref 95), some (.ref 0), some (.ref 75), some (.int i)] [] μ := by
  have hX := hL.1
  refine u_aload_n hX dL_law_764 rfl (?_ : VL X 765 [some (.ref 95), some (.ref 0), some (.ref 75), some (.int i)] [.ref 0] _)
  have s1 := st_trace hI 
  refine u_callV hX (room_ok hL) sp_X8_trace ck_X8_trace mk_L_121 mv_X8_trace sh_0 (by decide) (by decide) [] [] rfl rfl (Nat.le_of_ble_eq_true rfl) dL_law_765 ⟨rfl, s1.1, fun x m hp => (?_ : VL X 768 [some (.ref 95), some (.ref 0), some (.ref 75), some (.int i)] [.long x] m)⟩
  have s2 := s1.2 x m hp
  refine u_aload_n hX dL_law_768 rfl (?_ : VL X 769 [some (.ref 95), some (.ref 0), some (.ref 75), some (.int i)] [.ref 75, .long x] _)
  refine u_callV hX (room_ok hL) sp_X9_trace ck_X9_trace mk_L_125 mv_X9_trace sh_75 (by decide) (by decide) [] [.long x] rfl rfl (Nat.le_of_ble_eq_true rfl) dL_law_769 ⟨rfl, s2.1, fun y m' hp' => (?_ : VL X 772 [some (.ref 95), some (.ref 0), some (.ref 75), some (.int i)] [.long y, .long x] m')⟩
  have s3 := s2.2 y m' hp'
  refine u_lcmp hX dL_law_772 (?_ : VL X 773 [some (.ref 95), some (.ref 0), some (.ref 75), some (.int i)] [.int (lg_cmp x y)] _)
  refine u_if_eq hX 778 dL_law_773 rfl (fun _ => kk _ s3.2) (fun c1 => absurd (by rw [s3.1]; exact cmp_self y) c1)
set_option maxRecDepth 20000 in
set_option maxHeartbeats 4000000 in
theorem lc_sw {X : XT} {b Ln : Nat} {xv : Nat → Int32} (hL : LwX X b Ln xv) {i : Int32} {μ : Mem} (hI : Inv μ) (h6 : In6 i Ln) (v : Int32) (kk : ∀ m, Inv m → VL X 778 [some (.ref 95), some (.ref 0), some (.ref 75), some (.int i)] [] m) : VL X 33 [some (.ref 95), some (.ref 0), some (.ref 75), some (.int i)] [.int v] μ := by
  have hX := hL.1
  by_cases c0 : v = 0
  · exact u_tableIn hX 156 dL_law_33 (by rw [c0]; decide) (by rw [c0]; decide) (o := 123) (by rw [c0]; decide) rfl (lc_type hL hI h6 kk)
  by_cases c1 : v = 1
  · exact u_tableIn hX 179 dL_law_33 (by rw [c1]; decide) (by rw [c1]; decide) (o := 146) (by rw [c1]; decide) rfl (lc_clear hL hI h6 kk)
  by_cases c2 : v = 2
  · exact u_tableIn hX 192 dL_law_33 (by rw [c2]; decide) (by rw [c2]; decide) (o := 159) (by rw [c2]; decide) rfl (lc_house hL hI h6 kk)
  by_cases c3 : v = 3
  · exact u_tableIn hX 205 dL_law_33 (by rw [c3]; decide) (by rw [c3]; decide) (o := 172) (by rw [c3]; decide) rfl (lc_room hL hI h6 kk)
  by_cases c4 : v = 4
  · exact u_tableIn hX 238 dL_law_33 (by rw [c4]; decide) (by rw [c4]; decide) (o := 205) (by rw [c4]; decide) rfl (lc_doing hL hI h6 kk)
  by_cases c5 : v = 5
  · exact u_tableIn hX 271 dL_law_33 (by rw [c5]; decide) (by rw [c5]; decide) (o := 238) (by rw [c5]; decide) rfl (lc_suspect hL hI h6 kk)
  by_cases c6 : v = 6
  · exact u_tableIn hX 294 dL_law_33 (by rw [c6]; decide) (by rw [c6]; decide) (o := 261) (by rw [c6]; decide) rfl (lc_now hL hI h6 kk)
  by_cases c7 : v = 7
  · exact u_tableIn hX 317 dL_law_33 (by rw [c7]; decide) (by rw [c7]; decide) (o := 284) (by rw [c7]; decide) rfl (lc_goes hL hI h6 kk)
  by_cases c8 : v = 8
  · exact u_tableIn hX 340 dL_law_33 (by rw [c8]; decide) (by rw [c8]; decide) (o := 307) (by rw [c8]; decide) rfl (lc_does hL hI h6 kk)
  by_cases c9 : v = 9
  · exact u_tableIn hX 363 dL_law_33 (by rw [c9]; decide) (by rw [c9]; decide) (o := 330) (by rw [c9]; decide) rfl (lc_asks hL hI h6 kk)
  by_cases c10 : v = 10
  · exact u_tableIn hX 386 dL_law_33 (by rw [c10]; decide) (by rw [c10]; decide) (o := 353) (by rw [c10]; decide) rfl (lc_undo hL hI h6 kk)
  by_cases c11 : v = 11
  · exact u_tableIn hX 399 dL_law_33 (by rw [c11]; decide) (by rw [c11]; decide) (o := 366) (by rw [c11]; decide) rfl (lc_soonest hL hI h6 kk)
  by_cases c12 : v = 12
  · exact u_tableIn hX 432 dL_law_33 (by rw [c12]; decide) (by rw [c12]; decide) (o := 399) (by rw [c12]; decide) rfl (lc_loved hL hI h6 kk)
  by_cases c13 : v = 13
  · exact u_tableIn hX 445 dL_law_33 (by rw [c13]; decide) (by rw [c13]; decide) (o := 412) (by rw [c13]; decide) rfl (lc_round hL hI h6 kk)
  by_cases c14 : v = 14
  · exact u_tableIn hX 468 dL_law_33 (by rw [c14]; decide) (by rw [c14]; decide) (o := 435) (by rw [c14]; decide) rfl (lc_country hL hI h6 kk)
  by_cases c15 : v = 15
  · exact u_tableIn hX 481 dL_law_33 (by rw [c15]; decide) (by rw [c15]; decide) (o := 448) (by rw [c15]; decide) rfl (lc_next hL hI h6 kk)
  by_cases c16 : v = 16
  · exact u_tableIn hX 494 dL_law_33 (by rw [c16]; decide) (by rw [c16]; decide) (o := 461) (by rw [c16]; decide) rfl (lc_questions hL hI h6 kk)
  by_cases c17 : v = 17
  · exact u_tableIn hX 507 dL_law_33 (by rw [c17]; decide) (by rw [c17]; decide) (o := 474) (by rw [c17]; decide) rfl (lc_felt hL hI h6 kk)
  by_cases c18 : v = 18
  · exact u_tableIn hX 540 dL_law_33 (by rw [c18]; decide) (by rw [c18]; decide) (o := 507) (by rw [c18]; decide) rfl (lc_forget hL hI h6 kk)
  by_cases c19 : v = 19
  · exact u_tableIn hX 553 dL_law_33 (by rw [c19]; decide) (by rw [c19]; decide) (o := 520) (by rw [c19]; decide) rfl (lc_tempers hL hI h6 kk)
  by_cases c20 : v = 20
  · exact u_tableIn hX 566 dL_law_33 (by rw [c20]; decide) (by rw [c20]; decide) (o := 533) (by rw [c20]; decide) rfl (lc_which hL hI h6 kk)
  by_cases c21 : v = 21
  · exact u_tableIn hX 599 dL_law_33 (by rw [c21]; decide) (by rw [c21]; decide) (o := 566) (by rw [c21]; decide) rfl (lc_odds hL hI h6 kk)
  by_cases c22 : v = 22
  · exact u_tableIn hX 662 dL_law_33 (by rw [c22]; decide) (by rw [c22]; decide) (o := 629) (by rw [c22]; decide) rfl (lc_rate hL hI h6 kk)
  by_cases c23 : v = 23
  · exact u_tableIn hX 695 dL_law_33 (by rw [c23]; decide) (by rw [c23]; decide) (o := 662) (by rw [c23]; decide) rfl (lc_keep hL hI h6 kk)
  by_cases c24 : v = 24
  · exact u_tableIn hX 718 dL_law_33 (by rw [c24]; decide) (by rw [c24]; decide) (o := 685) (by rw [c24]; decide) rfl (lc_back hL hI h6 kk)
  by_cases c25 : v = 25
  · exact u_tableIn hX 741 dL_law_33 (by rw [c25]; decide) (by rw [c25]; decide) (o := 708) (by rw [c25]; decide) rfl (lc_count hL hI h6 kk)
  by_cases c26 : v = 26
  · exact u_tableIn hX 764 dL_law_33 (by rw [c26]; decide) (by rw [c26]; decide) (o := 731) (by rw [c26]; decide) rfl (lc_trace hL hI h6 kk)
  exact u_tableOut hX 778 dL_law_33 (by have t0 := lv_neT (a := 0) c0 rfl; have t1 := lv_neT (a := 1) c1 rfl; have t2 := lv_neT (a := 2) c2 rfl; have t3 := lv_neT (a := 3) c3 rfl; have t4 := lv_neT (a := 4) c4 rfl; have t5 := lv_neT (a := 5) c5 rfl; have t6 := lv_neT (a := 6) c6 rfl; have t7 := lv_neT (a := 7) c7 rfl; have t8 := lv_neT (a := 8) c8 rfl; have t9 := lv_neT (a := 9) c9 rfl; have t10 := lv_neT (a := 10) c10 rfl; have t11 := lv_neT (a := 11) c11 rfl; have t12 := lv_neT (a := 12) c12 rfl; have t13 := lv_neT (a := 13) c13 rfl; have t14 := lv_neT (a := 14) c14 rfl; have t15 := lv_neT (a := 15) c15 rfl; have t16 := lv_neT (a := 16) c16 rfl; have t17 := lv_neT (a := 17) c17 rfl; have t18 := lv_neT (a := 18) c18 rfl; have t19 := lv_neT (a := 19) c19 rfl; have t20 := lv_neT (a := 20) c20 rfl; have t21 := lv_neT (a := 21) c21 rfl; have t22 := lv_neT (a := 22) c22 rfl; have t23 := lv_neT (a := 23) c23 rfl; have t24 := lv_neT (a := 24) c24 rfl; have t25 := lv_neT (a := 25) c25 rfl; have t26 := lv_neT (a := 26) c26 rfl; omega) rfl (kk μ hI)
set_option maxRecDepth 20000 in
set_option maxHeartbeats 4000000 in
/-- the law's loop: with the calls of i ints made, class and model agree -/
theorem law_loop {X : XT} {b Ln : Nat} {xv : Nat → Int32} (hL : LwX X b Ln xv) (hLn : Ln ≤ 384) : ∀ (n i : Nat) (μ : Mem), i ≤ Ln → Ln + 1 ≤ i + n → Inv μ → VL X 18 [some (.ref 95), some (.ref 0), some (.ref 75), some (.int (nI i))] [] μ := by
  have hX := hL.1
  intro n
  induction n with
  | zero => intro i μ h1 h2; exact absurd h2 (by omega)
  | succ n ih =>
    intro i μ hi hin hI
    refine u_iload_n hX dL_law_18 rfl (?_ : VL X 19 _ [.int (nI i)] _)
    refine u_aload_n hX dL_law_19 rfl (?_ : VL X 20 _ [.ref 95, .int (nI i)] _)
    refine u_slen hL dL_law_20 (?_ : VL X 21 _ [.int (Int32.ofNat Ln), .int (nI i)] _)
    refine u_bipush hX 6 dL_law_21 rfl (?_ : VL X 23 _ [.int 6, .int (Int32.ofNat Ln), .int (nI i)] _)
    refine u_isub hX dL_law_23 (?_ : VL X 24 _ [.int (Int32.ofNat Ln - 6), .int (nI i)] _)
    have key : ∀ Ln, Ln ≤ 384 → (Int32.ofNat Ln - 6).toInt = (Ln : Int) - 6 := by decide +kernel
    refine u_icmp_gt hX 784 dL_law_24 rfl (fun c1 => ?_) (fun c1 => ?_)
    · refine u_iconst hX 1 dL_law_784 rfl (?_ : VL X 785 _ [.int 1] _)
      exact u_ret hL dL_law_785
    · have hle : i + 6 ≤ Ln := by
        have h : ¬ (Int32.ofNat Ln - 6).toInt < (nI i).toInt := fun z => c1 (i_lt.mpr z)
        rw [key Ln hLn, nI_toInt (by omega)] at h
        omega
      have hv : ∀ j, j < 6 → vp_in (nI i + nI j) Ln := fun j hj => by rw [nI_add]; exact vp_in_nI (by omega) (by omega)
      have h6 : In6 (nI i) Ln := ⟨vp_in_nI (by omega) (by omega), hv 1 (by omega), hv 2 (by omega), hv 3 (by omega), hv 4 (by omega), hv 5 (by omega)⟩
      refine u_aload_n hX dL_law_27 rfl (?_ : VL X 28 _ [.ref 95] _)
      refine u_iload_n hX dL_law_28 rfl (?_ : VL X 29 _ [.int (nI i), .ref 95] _)
      refine u_sld hL h6.1 dL_law_29 (?_ : VL X 30 _ [.int (xv (nI i).toNatClampNeg)] _)
      refine u_bipush hX 31 dL_law_30 rfl (?_ : VL X 32 _ [.int 31, .int (xv (nI i).toNatClampNeg)] _)
      refine u_iand hX dL_law_32 (?_ : VL X 33 _ [.int (xv (nI i).toNatClampNeg &&& 31)] _)
      refine lc_sw hL hI h6 _ (fun m hm => ?_)
      refine u_iinc hX 6 dL_law_778 (by rw [hL.2.1]; decide) rfl rfl (?_ : VL X 781 [some (.ref 95), some (.ref 0), some (.ref 75), some (.int (nI i + 6))] [] m)
      refine u_goto hX 18 dL_law_781 rfl ?_
      rw [show nI i + 6 = nI (i + 6) from nI_add i 6]
      exact ih (i + 6) m hle (by omega) hm

theorem hi_obj : Cond.instanceMethod objectInit ∈ tw := mtb 21 (by decide +kernel) (by decide +kernel)
theorem hc_obj : Cond.code objectInit ⟨#[0xb1]⟩ 1 none ∈ tw := mtb 22 (by decide +kernel) (by decide +kernel)
theorem aw_int : Cond.arrayClass .int ∈ tw := mtb 53 (by decide +kernel) (by decide +kernel)
theorem aw_boolean : Cond.arrayClass .boolean ∈ tw := mtb 790 (by decide +kernel) (by decide +kernel)
theorem ol_X8 : Cond.methodLink RX8 1 objectInit ∈ tw := mtb 20 (by decide +kernel) (by decide +kernel)
theorem ol_X0 : Cond.methodLink RX0 3 objectInit ∈ tw := mtb 231 (by decide +kernel) (by decide +kernel)
theorem ol_X1 : Cond.methodLink RX1 3 objectInit ∈ tw := mtb 202 (by decide +kernel) (by decide +kernel)
theorem ol_X2 : Cond.methodLink RX2 3 objectInit ∈ tw := mtb 59 (by decide +kernel) (by decide +kernel)
theorem ol_X3 : Cond.methodLink RX3 3 objectInit ∈ tw := mtb 263 (by decide +kernel) (by decide +kernel)
theorem ol_X4 : Cond.methodLink RX4 3 objectInit ∈ tw := mtb 276 (by decide +kernel) (by decide +kernel)
theorem ol_X5 : Cond.methodLink RX5 3 objectInit ∈ tw := mtb 182 (by decide +kernel) (by decide +kernel)
theorem ol_X6 : Cond.methodLink RX6 3 objectInit ∈ tw := mtb 28 (by decide +kernel) (by decide +kernel)
theorem ol_X7 : Cond.methodLink RX7 3 objectInit ∈ tw := mtb 143 (by decide +kernel) (by decide +kernel)
theorem ol_X9 : Cond.methodLink RX9 1 objectInit ∈ tw := mtb 690 (by decide +kernel) (by decide +kernel)
theorem cl_X8_7 : Cond.classLink RX8 7 RX6 ∈ tw := mtb 23 (by decide +kernel) (by decide +kernel)
theorem cl_X8_16 : Cond.classLink RX8 16 RX2 ∈ tw := mtb 54 (by decide +kernel) (by decide +kernel)
theorem cl_X8_26 : Cond.classLink RX8 26 RX7 ∈ tw := mtb 138 (by decide +kernel) (by decide +kernel)
theorem cl_X8_33 : Cond.classLink RX8 33 RX5 ∈ tw := mtb 177 (by decide +kernel) (by decide +kernel)
theorem cl_X8_48 : Cond.classLink RX8 48 RX1 ∈ tw := mtb 197 (by decide +kernel) (by decide +kernel)
theorem cl_X8_55 : Cond.classLink RX8 55 RX0 ∈ tw := mtb 226 (by decide +kernel) (by decide +kernel)
theorem cl_X8_62 : Cond.classLink RX8 62 RX3 ∈ tw := mtb 258 (by decide +kernel) (by decide +kernel)
theorem cl_X8_69 : Cond.classLink RX8 69 RX4 ∈ tw := mtb 271 (by decide +kernel) (by decide +kernel)
theorem cl_X5_9 : Cond.classLink RX5 9 RX7 ∈ tw := mtb 183 (by decide +kernel) (by decide +kernel)
theorem cl_L_7 : Cond.classLink RL 7 RX8 ∈ tw := mtb 15 (by decide +kernel) (by decide +kernel)
theorem cl_L_10 : Cond.classLink RL 10 RX9 ∈ tw := mtb 685 (by decide +kernel) (by decide +kernel)
theorem ck_X0_init : Cond.code yX0_init cX0_init 1 none ∈ tw := mtb 230 (by decide +kernel) (by decide +kernel)
theorem ck_X1_init : Cond.code yX1_init cX1_init 1 none ∈ tw := mtb 201 (by decide +kernel) (by decide +kernel)
theorem ck_X2_init : Cond.code yX2_init cX2_init 1 none ∈ tw := mtb 58 (by decide +kernel) (by decide +kernel)
theorem ck_X3_init : Cond.code yX3_init cX3_init 1 none ∈ tw := mtb 262 (by decide +kernel) (by decide +kernel)
theorem ck_X4_init : Cond.code yX4_init cX4_init 1 none ∈ tw := mtb 275 (by decide +kernel) (by decide +kernel)
theorem ck_X5_init : Cond.code yX5_init cX5_init 2 none ∈ tw := mtb 181 (by decide +kernel) (by decide +kernel)
theorem ck_X6_init : Cond.code yX6_init cX6_init 1 none ∈ tw := mtb 27 (by decide +kernel) (by decide +kernel)
theorem ck_X7_init : Cond.code yX7_init cX7_init 1 none ∈ tw := mtb 142 (by decide +kernel) (by decide +kernel)
theorem ck_X8_init : Cond.code yX8_init cX8_init 2 none ∈ tw := mtb 19 (by decide +kernel) (by decide +kernel)
theorem ck_X9_init : Cond.code yX9_init cX9_init 1 none ∈ tw := mtb 689 (by decide +kernel) (by decide +kernel)
theorem ci_X8_9 : CI RX8 9 yX6_init := ⟨mtb 25 (by decide +kernel) (by decide +kernel), mtb 2 (by decide +kernel) (by decide +kernel), mtb 26 (by decide +kernel) (by decide +kernel), rfl, by decide +kernel, by decide +kernel, by decide +kernel⟩
theorem ci_X8_18 : CI RX8 18 yX2_init := ⟨mtb 56 (by decide +kernel) (by decide +kernel), mtb 3 (by decide +kernel) (by decide +kernel), mtb 57 (by decide +kernel) (by decide +kernel), rfl, by decide +kernel, by decide +kernel, by decide +kernel⟩
theorem ci_X8_28 : CI RX8 28 yX7_init := ⟨mtb 140 (by decide +kernel) (by decide +kernel), mtb 4 (by decide +kernel) (by decide +kernel), mtb 141 (by decide +kernel) (by decide +kernel), rfl, by decide +kernel, by decide +kernel, by decide +kernel⟩
theorem ci_X8_35 : CI RX8 35 yX5_init := ⟨mtb 179 (by decide +kernel) (by decide +kernel), mtb 5 (by decide +kernel) (by decide +kernel), mtb 180 (by decide +kernel) (by decide +kernel), rfl, by decide +kernel, by decide +kernel, by decide +kernel⟩
theorem ci_X8_50 : CI RX8 50 yX1_init := ⟨mtb 199 (by decide +kernel) (by decide +kernel), mtb 6 (by decide +kernel) (by decide +kernel), mtb 200 (by decide +kernel) (by decide +kernel), rfl, by decide +kernel, by decide +kernel, by decide +kernel⟩
theorem ci_X8_57 : CI RX8 57 yX0_init := ⟨mtb 228 (by decide +kernel) (by decide +kernel), mtb 7 (by decide +kernel) (by decide +kernel), mtb 229 (by decide +kernel) (by decide +kernel), rfl, by decide +kernel, by decide +kernel, by decide +kernel⟩
theorem ci_X8_64 : CI RX8 64 yX3_init := ⟨mtb 260 (by decide +kernel) (by decide +kernel), mtb 8 (by decide +kernel) (by decide +kernel), mtb 261 (by decide +kernel) (by decide +kernel), rfl, by decide +kernel, by decide +kernel, by decide +kernel⟩
theorem ci_X8_71 : CI RX8 71 yX4_init := ⟨mtb 273 (by decide +kernel) (by decide +kernel), mtb 9 (by decide +kernel) (by decide +kernel), mtb 274 (by decide +kernel) (by decide +kernel), rfl, by decide +kernel, by decide +kernel, by decide +kernel⟩
theorem ci_X5_17 : CI RX5 17 yX7_init := ⟨mtb 185 (by decide +kernel) (by decide +kernel), mtb 4 (by decide +kernel) (by decide +kernel), mtb 141 (by decide +kernel) (by decide +kernel), rfl, by decide +kernel, by decide +kernel, by decide +kernel⟩
theorem ci_L_9 : CI RL 9 yX8_init := ⟨mtb 17 (by decide +kernel) (by decide +kernel), mtb 1 (by decide +kernel) (by decide +kernel), mtb 18 (by decide +kernel) (by decide +kernel), rfl, by decide +kernel, by decide +kernel, by decide +kernel⟩
theorem ci_L_12 : CI RL 12 yX9_init := ⟨mtb 687 (by decide +kernel) (by decide +kernel), mtb 10 (by decide +kernel) (by decide +kernel), mtb 688 (by decide +kernel) (by decide +kernel), rfl, by decide +kernel, by decide +kernel, by decide +kernel⟩
theorem ff_0_0 : FF 0 0 (.array .int) RX0 := by
  intro C T N h
  have h2 : some (RX0, TX0, 7) = some (C, T, N) := h
  cases h2
  exact ⟨rfl, rfl, by decide +kernel⟩
theorem ff_0_4 : FF 0 4 (.array .int) RX0 := by
  intro C T N h
  have h2 : some (RX0, TX0, 7) = some (C, T, N) := h
  cases h2
  exact ⟨rfl, rfl, by decide +kernel⟩
theorem ff_0_5 : FF 0 5 (.array .int) RX0 := by
  intro C T N h
  have h2 : some (RX0, TX0, 7) = some (C, T, N) := h
  cases h2
  exact ⟨rfl, rfl, by decide +kernel⟩
def fz0 : List Value := [.null, .int 0, .int 0, .int 0, .null, .null, .int 0]
theorem nw_0 : NW 0 7 RX0 fz0 := ⟨TX0, tyX0, rfl, lay0, tyX0_ok, mtb 227 (by decide +kernel) (by decide +kernel), mtb 7 (by decide +kernel) (by decide +kernel), fun j hj => match j, hj with
  | 0, _ => rfl
  | 1, _ => rfl
  | 2, _ => rfl
  | 3, _ => rfl
  | 4, _ => rfl
  | 5, _ => rfl
  | 6, _ => rfl
  | n + 7, hj => absurd hj (by omega)⟩
theorem ff_1_0 : FF 1 0 (.array .int) RX1 := by
  intro C T N h
  have h2 : some (RX1, TX1, 7) = some (C, T, N) := h
  cases h2
  exact ⟨rfl, rfl, by decide +kernel⟩
theorem ff_1_1 : FF 1 1 (.array .int) RX1 := by
  intro C T N h
  have h2 : some (RX1, TX1, 7) = some (C, T, N) := h
  cases h2
  exact ⟨rfl, rfl, by decide +kernel⟩
theorem ff_1_3 : FF 1 3 (.array .int) RX1 := by
  intro C T N h
  have h2 : some (RX1, TX1, 7) = some (C, T, N) := h
  cases h2
  exact ⟨rfl, rfl, by decide +kernel⟩
theorem ff_1_4 : FF 1 4 (.array .int) RX1 := by
  intro C T N h
  have h2 : some (RX1, TX1, 7) = some (C, T, N) := h
  cases h2
  exact ⟨rfl, rfl, by decide +kernel⟩
def fz1 : List Value := [.null, .null, .int 0, .null, .null, .int 0, .int 0]
theorem nw_1 : NW 1 7 RX1 fz1 := ⟨TX1, tyX1, rfl, lay1, tyX1_ok, mtb 198 (by decide +kernel) (by decide +kernel), mtb 6 (by decide +kernel) (by decide +kernel), fun j hj => match j, hj with
  | 0, _ => rfl
  | 1, _ => rfl
  | 2, _ => rfl
  | 3, _ => rfl
  | 4, _ => rfl
  | 5, _ => rfl
  | 6, _ => rfl
  | n + 7, hj => absurd hj (by omega)⟩
theorem ff_2_1 : FF 2 1 (.array .int) RX2 := by
  intro C T N h
  have h2 : some (RX2, TX2, 12) = some (C, T, N) := h
  cases h2
  exact ⟨rfl, rfl, by decide +kernel⟩
theorem ff_2_2 : FF 2 2 (.array .int) RX2 := by
  intro C T N h
  have h2 : some (RX2, TX2, 12) = some (C, T, N) := h
  cases h2
  exact ⟨rfl, rfl, by decide +kernel⟩
theorem ff_2_3 : FF 2 3 (.array .int) RX2 := by
  intro C T N h
  have h2 : some (RX2, TX2, 12) = some (C, T, N) := h
  cases h2
  exact ⟨rfl, rfl, by decide +kernel⟩
theorem ff_2_5 : FF 2 5 (.array .int) RX2 := by
  intro C T N h
  have h2 : some (RX2, TX2, 12) = some (C, T, N) := h
  cases h2
  exact ⟨rfl, rfl, by decide +kernel⟩
theorem ff_2_6 : FF 2 6 (.array .int) RX2 := by
  intro C T N h
  have h2 : some (RX2, TX2, 12) = some (C, T, N) := h
  cases h2
  exact ⟨rfl, rfl, by decide +kernel⟩
theorem ff_2_8 : FF 2 8 (.array .int) RX2 := by
  intro C T N h
  have h2 : some (RX2, TX2, 12) = some (C, T, N) := h
  cases h2
  exact ⟨rfl, rfl, by decide +kernel⟩
def fz2 : List Value := [.int 0, .null, .null, .null, .int 0, .null, .null, .int 0, .null, .int 0, .int 0, .int 0]
theorem nw_2 : NW 2 12 RX2 fz2 := ⟨TX2, tyX2, rfl, lay2, tyX2_ok, mtb 55 (by decide +kernel) (by decide +kernel), mtb 3 (by decide +kernel) (by decide +kernel), fun j hj => match j, hj with
  | 0, _ => rfl
  | 1, _ => rfl
  | 2, _ => rfl
  | 3, _ => rfl
  | 4, _ => rfl
  | 5, _ => rfl
  | 6, _ => rfl
  | 7, _ => rfl
  | 8, _ => rfl
  | 9, _ => rfl
  | 10, _ => rfl
  | 11, _ => rfl
  | n + 12, hj => absurd hj (by omega)⟩
theorem ff_3_0 : FF 3 0 (.array .int) RX3 := by
  intro C T N h
  have h2 : some (RX3, TX3, 2) = some (C, T, N) := h
  cases h2
  exact ⟨rfl, rfl, by decide +kernel⟩
theorem ff_3_1 : FF 3 1 (.array .int) RX3 := by
  intro C T N h
  have h2 : some (RX3, TX3, 2) = some (C, T, N) := h
  cases h2
  exact ⟨rfl, rfl, by decide +kernel⟩
def fz3 : List Value := [.null, .null]
theorem nw_3 : NW 3 2 RX3 fz3 := ⟨TX3, tyX3, rfl, lay3, tyX3_ok, mtb 259 (by decide +kernel) (by decide +kernel), mtb 8 (by decide +kernel) (by decide +kernel), fun j hj => match j, hj with
  | 0, _ => rfl
  | 1, _ => rfl
  | n + 2, hj => absurd hj (by omega)⟩
theorem ff_4_0 : FF 4 0 (.array .int) RX4 := by
  intro C T N h
  have h2 : some (RX4, TX4, 3) = some (C, T, N) := h
  cases h2
  exact ⟨rfl, rfl, by decide +kernel⟩
theorem ff_4_1 : FF 4 1 (.array .int) RX4 := by
  intro C T N h
  have h2 : some (RX4, TX4, 3) = some (C, T, N) := h
  cases h2
  exact ⟨rfl, rfl, by decide +kernel⟩
def fz4 : List Value := [.null, .null, .int 0]
theorem nw_4 : NW 4 3 RX4 fz4 := ⟨TX4, tyX4, rfl, lay4, tyX4_ok, mtb 272 (by decide +kernel) (by decide +kernel), mtb 9 (by decide +kernel) (by decide +kernel), fun j hj => match j, hj with
  | 0, _ => rfl
  | 1, _ => rfl
  | 2, _ => rfl
  | n + 3, hj => absurd hj (by omega)⟩
theorem ff_5_0 : FF 5 0 (.array (.object "DoorCases$Scene")) RX5 := by
  intro C T N h
  have h2 : some (RX5, TX5, 3) = some (C, T, N) := h
  cases h2
  exact ⟨rfl, rfl, by decide +kernel⟩
def fz5 : List Value := [.null, .int 0, .int 0]
theorem nw_5 : NW 5 3 RX5 fz5 := ⟨TX5, tyX5, rfl, lay5, tyX5_ok, mtb 178 (by decide +kernel) (by decide +kernel), mtb 5 (by decide +kernel) (by decide +kernel), fun j hj => match j, hj with
  | 0, _ => rfl
  | 1, _ => rfl
  | 2, _ => rfl
  | n + 3, hj => absurd hj (by omega)⟩
theorem ff_6_0 : FF 6 0 (.array .int) RX6 := by
  intro C T N h
  have h2 : some (RX6, TX6, 7) = some (C, T, N) := h
  cases h2
  exact ⟨rfl, rfl, by decide +kernel⟩
def fz6 : List Value := [.null, .int 0, .int 0, .int 0, .int 0, .int 0, .int 0]
theorem nw_6 : NW 6 7 RX6 fz6 := ⟨TX6, tyX6, rfl, lay6, tyX6_ok, mtb 24 (by decide +kernel) (by decide +kernel), mtb 2 (by decide +kernel) (by decide +kernel), fun j hj => match j, hj with
  | 0, _ => rfl
  | 1, _ => rfl
  | 2, _ => rfl
  | 3, _ => rfl
  | 4, _ => rfl
  | 5, _ => rfl
  | 6, _ => rfl
  | n + 7, hj => absurd hj (by omega)⟩
theorem ff_7_5 : FF 7 5 (.array .int) RX7 := by
  intro C T N h
  have h2 : some (RX7, TX7, 7) = some (C, T, N) := h
  cases h2
  exact ⟨rfl, rfl, by decide +kernel⟩
theorem ff_7_6 : FF 7 6 (.array .int) RX7 := by
  intro C T N h
  have h2 : some (RX7, TX7, 7) = some (C, T, N) := h
  cases h2
  exact ⟨rfl, rfl, by decide +kernel⟩
def fz7 : List Value := [.int 0, .int 0, .int 0, .int 0, .int 0, .null, .null]
theorem nw_7 : NW 7 7 RX7 fz7 := ⟨TX7, tyX7, rfl, lay7, tyX7_ok, mtb 139 (by decide +kernel) (by decide +kernel), mtb 4 (by decide +kernel) (by decide +kernel), fun j hj => match j, hj with
  | 0, _ => rfl
  | 1, _ => rfl
  | 2, _ => rfl
  | 3, _ => rfl
  | 4, _ => rfl
  | 5, _ => rfl
  | 6, _ => rfl
  | n + 7, hj => absurd hj (by omega)⟩
theorem ff_8_0 : FF 8 0 (.object "DoorCases$Reader") RX8 := by
  intro C T N h
  have h2 : some (RX8, TX8, 13) = some (C, T, N) := h
  cases h2
  exact ⟨rfl, rfl, by decide +kernel⟩
theorem ff_8_3 : FF 8 3 (.object "DoorCases$Scene") RX8 := by
  intro C T N h
  have h2 : some (RX8, TX8, 13) = some (C, T, N) := h
  cases h2
  exact ⟨rfl, rfl, by decide +kernel⟩
theorem ff_8_4 : FF 8 4 (.object "DoorCases$Past") RX8 := by
  intro C T N h
  have h2 : some (RX8, TX8, 13) = some (C, T, N) := h
  cases h2
  exact ⟨rfl, rfl, by decide +kernel⟩
theorem ff_8_5 : FF 8 5 (.array (.object "DoorCases$Scene")) RX8 := by
  intro C T N h
  have h2 : some (RX8, TX8, 13) = some (C, T, N) := h
  cases h2
  exact ⟨rfl, rfl, by decide +kernel⟩
theorem ff_8_7 : FF 8 7 (.object "DoorCases$Exits") RX8 := by
  intro C T N h
  have h2 : some (RX8, TX8, 13) = some (C, T, N) := h
  cases h2
  exact ⟨rfl, rfl, by decide +kernel⟩
theorem ff_8_8 : FF 8 8 (.object "DoorCases$Evening") RX8 := by
  intro C T N h
  have h2 : some (RX8, TX8, 13) = some (C, T, N) := h
  cases h2
  exact ⟨rfl, rfl, by decide +kernel⟩
theorem ff_8_9 : FF 8 9 (.object "DoorCases$Inquiry") RX8 := by
  intro C T N h
  have h2 : some (RX8, TX8, 13) = some (C, T, N) := h
  cases h2
  exact ⟨rfl, rfl, by decide +kernel⟩
theorem ff_8_10 : FF 8 10 (.object "DoorCases$Memory") RX8 := by
  intro C T N h
  have h2 : some (RX8, TX8, 13) = some (C, T, N) := h
  cases h2
  exact ⟨rfl, rfl, by decide +kernel⟩
theorem ff_8_11 : FF 8 11 (.array .int) RX8 := by
  intro C T N h
  have h2 : some (RX8, TX8, 13) = some (C, T, N) := h
  cases h2
  exact ⟨rfl, rfl, by decide +kernel⟩
def fz8 : List Value := [.null, .null, .null, .null, .null, .null, .int 0, .null, .null, .null, .null, .null, .long 0]
theorem nw_8 : NW 8 13 RX8 fz8 := ⟨TX8, tyX8, rfl, lay8, tyX8_ok, mtb 16 (by decide +kernel) (by decide +kernel), mtb 1 (by decide +kernel) (by decide +kernel), fun j hj => match j, hj with
  | 0, _ => rfl
  | 1, _ => rfl
  | 2, _ => rfl
  | 3, _ => rfl
  | 4, _ => rfl
  | 5, _ => rfl
  | 6, _ => rfl
  | 7, _ => rfl
  | 8, _ => rfl
  | 9, _ => rfl
  | 10, _ => rfl
  | 11, _ => rfl
  | 12, _ => rfl
  | n + 13, hj => absurd hj (by omega)⟩
theorem ff_9_2 : FF 9 2 (.array .int) RX9 := by
  intro C T N h
  have h2 : some (RX9, TX9, 30) = some (C, T, N) := h
  cases h2
  exact ⟨rfl, rfl, by decide +kernel⟩
theorem ff_9_9 : FF 9 9 (.array .int) RX9 := by
  intro C T N h
  have h2 : some (RX9, TX9, 30) = some (C, T, N) := h
  cases h2
  exact ⟨rfl, rfl, by decide +kernel⟩
theorem ff_9_11 : FF 9 11 (.array .int) RX9 := by
  intro C T N h
  have h2 : some (RX9, TX9, 30) = some (C, T, N) := h
  cases h2
  exact ⟨rfl, rfl, by decide +kernel⟩
theorem ff_9_12 : FF 9 12 (.array .int) RX9 := by
  intro C T N h
  have h2 : some (RX9, TX9, 30) = some (C, T, N) := h
  cases h2
  exact ⟨rfl, rfl, by decide +kernel⟩
theorem ff_9_13 : FF 9 13 (.array .int) RX9 := by
  intro C T N h
  have h2 : some (RX9, TX9, 30) = some (C, T, N) := h
  cases h2
  exact ⟨rfl, rfl, by decide +kernel⟩
theorem ff_9_14 : FF 9 14 (.array .int) RX9 := by
  intro C T N h
  have h2 : some (RX9, TX9, 30) = some (C, T, N) := h
  cases h2
  exact ⟨rfl, rfl, by decide +kernel⟩
theorem ff_9_15 : FF 9 15 (.array .int) RX9 := by
  intro C T N h
  have h2 : some (RX9, TX9, 30) = some (C, T, N) := h
  cases h2
  exact ⟨rfl, rfl, by decide +kernel⟩
theorem ff_9_16 : FF 9 16 (.array .int) RX9 := by
  intro C T N h
  have h2 : some (RX9, TX9, 30) = some (C, T, N) := h
  cases h2
  exact ⟨rfl, rfl, by decide +kernel⟩
theorem ff_9_17 : FF 9 17 (.array .int) RX9 := by
  intro C T N h
  have h2 : some (RX9, TX9, 30) = some (C, T, N) := h
  cases h2
  exact ⟨rfl, rfl, by decide +kernel⟩
theorem ff_9_18 : FF 9 18 (.array .int) RX9 := by
  intro C T N h
  have h2 : some (RX9, TX9, 30) = some (C, T, N) := h
  cases h2
  exact ⟨rfl, rfl, by decide +kernel⟩
theorem ff_9_19 : FF 9 19 (.array .boolean) RX9 := by
  intro C T N h
  have h2 : some (RX9, TX9, 30) = some (C, T, N) := h
  cases h2
  exact ⟨rfl, rfl, by decide +kernel⟩
theorem ff_9_20 : FF 9 20 (.array .int) RX9 := by
  intro C T N h
  have h2 : some (RX9, TX9, 30) = some (C, T, N) := h
  cases h2
  exact ⟨rfl, rfl, by decide +kernel⟩
theorem ff_9_22 : FF 9 22 (.array .int) RX9 := by
  intro C T N h
  have h2 : some (RX9, TX9, 30) = some (C, T, N) := h
  cases h2
  exact ⟨rfl, rfl, by decide +kernel⟩
theorem ff_9_23 : FF 9 23 (.array .int) RX9 := by
  intro C T N h
  have h2 : some (RX9, TX9, 30) = some (C, T, N) := h
  cases h2
  exact ⟨rfl, rfl, by decide +kernel⟩
theorem ff_9_25 : FF 9 25 (.array .int) RX9 := by
  intro C T N h
  have h2 : some (RX9, TX9, 30) = some (C, T, N) := h
  cases h2
  exact ⟨rfl, rfl, by decide +kernel⟩
theorem ff_9_26 : FF 9 26 (.array .int) RX9 := by
  intro C T N h
  have h2 : some (RX9, TX9, 30) = some (C, T, N) := h
  cases h2
  exact ⟨rfl, rfl, by decide +kernel⟩
theorem ff_9_27 : FF 9 27 (.array .int) RX9 := by
  intro C T N h
  have h2 : some (RX9, TX9, 30) = some (C, T, N) := h
  cases h2
  exact ⟨rfl, rfl, by decide +kernel⟩
theorem ff_9_28 : FF 9 28 (.array .int) RX9 := by
  intro C T N h
  have h2 : some (RX9, TX9, 30) = some (C, T, N) := h
  cases h2
  exact ⟨rfl, rfl, by decide +kernel⟩
theorem ff_9_29 : FF 9 29 (.array .int) RX9 := by
  intro C T N h
  have h2 : some (RX9, TX9, 30) = some (C, T, N) := h
  cases h2
  exact ⟨rfl, rfl, by decide +kernel⟩
def fz9 : List Value := [.int 0, .long 0, .null, .int 0, .int 0, .int 0, .int 0, .int 0, .int 0, .null, .int 0, .null, .null, .null, .null, .null, .null, .null, .null, .null, .null, .int 0, .null, .null, .int 0, .null, .null, .null, .null, .null]
theorem nw_9 : NW 9 30 RX9 fz9 := ⟨TX9, tyX9, rfl, lay9, tyX9_ok, mtb 686 (by decide +kernel) (by decide +kernel), mtb 10 (by decide +kernel) (by decide +kernel), fun j hj => match j, hj with
  | 0, _ => rfl
  | 1, _ => rfl
  | 2, _ => rfl
  | 3, _ => rfl
  | 4, _ => rfl
  | 5, _ => rfl
  | 6, _ => rfl
  | 7, _ => rfl
  | 8, _ => rfl
  | 9, _ => rfl
  | 10, _ => rfl
  | 11, _ => rfl
  | 12, _ => rfl
  | 13, _ => rfl
  | 14, _ => rfl
  | 15, _ => rfl
  | 16, _ => rfl
  | 17, _ => rfl
  | 18, _ => rfl
  | 19, _ => rfl
  | 20, _ => rfl
  | 21, _ => rfl
  | 22, _ => rfl
  | 23, _ => rfl
  | 24, _ => rfl
  | 25, _ => rfl
  | 26, _ => rfl
  | 27, _ => rfl
  | 28, _ => rfl
  | 29, _ => rfl
  | n + 30, hj => absurd hj (by omega)⟩

theorem mtb {w : Cond} (i : Nat) (h : tables_1[i]? = some w) (g : goodWord w = true) : w ∈ tw := mem_tw (List.mem_append_right _ (List.mem_of_getElem? h)) g
theorem mpr {w : Cond} (i : Nat) (h : (k2_sels lw_privs)[i]? = some w) (g : goodWord w = true) : w ∈ tw := mem_tw (List.mem_append_left _ (List.mem_of_getElem? h)) g
theorem lay0 : ∀ w ∈ u_ws RX0 TX0 7, w ∈ tw := by
  have h : ∀ k, k < 7 → u_lay RX0 TX0 k ∈ tw := by
    intro k hk
    match k, hk with
    | 0, _ => exact mtb 243 (by decide +kernel) (by decide +kernel)
    | 1, _ => exact mtb 245 (by decide +kernel) (by decide +kernel)
    | 2, _ => exact mtb 247 (by decide +kernel) (by decide +kernel)
    | 3, _ => exact mtb 249 (by decide +kernel) (by decide +kernel)
    | 4, _ => exact mtb 251 (by decide +kernel) (by decide +kernel)
    | 5, _ => exact mtb 253 (by decide +kernel) (by decide +kernel)
    | 6, _ => exact mtb 255 (by decide +kernel) (by decide +kernel)
    | n + 7, hk => exact absurd hk (by omega)
  intro w hw
  obtain ⟨k, hk, rfl⟩ := List.mem_map.mp hw
  exact h k (List.mem_range.mp hk)
theorem lay1 : ∀ w ∈ u_ws RX1 TX1 7, w ∈ tw := by
  have h : ∀ k, k < 7 → u_lay RX1 TX1 k ∈ tw := by
    intro k hk
    match k, hk with
    | 0, _ => exact mtb 211 (by decide +kernel) (by decide +kernel)
    | 1, _ => exact mtb 213 (by decide +kernel) (by decide +kernel)
    | 2, _ => exact mtb 215 (by decide +kernel) (by decide +kernel)
    | 3, _ => exact mtb 217 (by decide +kernel) (by decide +kernel)
    | 4, _ => exact mtb 219 (by decide +kernel) (by decide +kernel)
    | 5, _ => exact mtb 221 (by decide +kernel) (by decide +kernel)
    | 6, _ => exact mtb 223 (by decide +kernel) (by decide +kernel)
    | n + 7, hk => exact absurd hk (by omega)
  intro w hw
  obtain ⟨k, hk, rfl⟩ := List.mem_map.mp hw
  exact h k (List.mem_range.mp hk)
theorem lay2 : ∀ w ∈ u_ws RX2 TX2 12, w ∈ tw := by
  have h : ∀ k, k < 12 → u_lay RX2 TX2 k ∈ tw := by
    intro k hk
    match k, hk with
    | 0, _ => exact mtb 113 (by decide +kernel) (by decide +kernel)
    | 1, _ => exact mtb 115 (by decide +kernel) (by decide +kernel)
    | 2, _ => exact mtb 117 (by decide +kernel) (by decide +kernel)
    | 3, _ => exact mtb 119 (by decide +kernel) (by decide +kernel)
    | 4, _ => exact mtb 121 (by decide +kernel) (by decide +kernel)
    | 5, _ => exact mtb 123 (by decide +kernel) (by decide +kernel)
    | 6, _ => exact mtb 125 (by decide +kernel) (by decide +kernel)
    | 7, _ => exact mtb 127 (by decide +kernel) (by decide +kernel)
    | 8, _ => exact mtb 129 (by decide +kernel) (by decide +kernel)
    | 9, _ => exact mtb 131 (by decide +kernel) (by decide +kernel)
    | 10, _ => exact mtb 133 (by decide +kernel) (by decide +kernel)
    | 11, _ => exact mtb 135 (by decide +kernel) (by decide +kernel)
    | n + 12, hk => exact absurd hk (by omega)
  intro w hw
  obtain ⟨k, hk, rfl⟩ := List.mem_map.mp hw
  exact h k (List.mem_range.mp hk)
theorem lay3 : ∀ w ∈ u_ws RX3 TX3 2, w ∈ tw := by
  have h : ∀ k, k < 2 → u_lay RX3 TX3 k ∈ tw := by
    intro k hk
    match k, hk with
    | 0, _ => exact mtb 266 (by decide +kernel) (by decide +kernel)
    | 1, _ => exact mtb 268 (by decide +kernel) (by decide +kernel)
    | n + 2, hk => exact absurd hk (by omega)
  intro w hw
  obtain ⟨k, hk, rfl⟩ := List.mem_map.mp hw
  exact h k (List.mem_range.mp hk)
theorem lay4 : ∀ w ∈ u_ws RX4 TX4 3, w ∈ tw := by
  have h : ∀ k, k < 3 → u_lay RX4 TX4 k ∈ tw := by
    intro k hk
    match k, hk with
    | 0, _ => exact mtb 281 (by decide +kernel) (by decide +kernel)
    | 1, _ => exact mtb 283 (by decide +kernel) (by decide +kernel)
    | 2, _ => exact mtb 285 (by decide +kernel) (by decide +kernel)
    | n + 3, hk => exact absurd hk (by omega)
  intro w hw
  obtain ⟨k, hk, rfl⟩ := List.mem_map.mp hw
  exact h k (List.mem_range.mp hk)
theorem lay5 : ∀ w ∈ u_ws RX5 TX5 3, w ∈ tw := by
  have h : ∀ k, k < 3 → u_lay RX5 TX5 k ∈ tw := by
    intro k hk
    match k, hk with
    | 0, _ => exact mtb 190 (by decide +kernel) (by decide +kernel)
    | 1, _ => exact mtb 192 (by decide +kernel) (by decide +kernel)
    | 2, _ => exact mtb 194 (by decide +kernel) (by decide +kernel)
    | n + 3, hk => exact absurd hk (by omega)
  intro w hw
  obtain ⟨k, hk, rfl⟩ := List.mem_map.mp hw
  exact h k (List.mem_range.mp hk)
theorem lay6 : ∀ w ∈ u_ws RX6 TX6 7, w ∈ tw := by
  have h : ∀ k, k < 7 → u_lay RX6 TX6 k ∈ tw := by
    intro k hk
    match k, hk with
    | 0, _ => exact mtb 38 (by decide +kernel) (by decide +kernel)
    | 1, _ => exact mtb 40 (by decide +kernel) (by decide +kernel)
    | 2, _ => exact mtb 42 (by decide +kernel) (by decide +kernel)
    | 3, _ => exact mtb 44 (by decide +kernel) (by decide +kernel)
    | 4, _ => exact mtb 46 (by decide +kernel) (by decide +kernel)
    | 5, _ => exact mtb 48 (by decide +kernel) (by decide +kernel)
    | 6, _ => exact mtb 50 (by decide +kernel) (by decide +kernel)
    | n + 7, hk => exact absurd hk (by omega)
  intro w hw
  obtain ⟨k, hk, rfl⟩ := List.mem_map.mp hw
  exact h k (List.mem_range.mp hk)
theorem lay7 : ∀ w ∈ u_ws RX7 TX7 7, w ∈ tw := by
  have h : ∀ k, k < 7 → u_lay RX7 TX7 k ∈ tw := by
    intro k hk
    match k, hk with
    | 0, _ => exact mtb 162 (by decide +kernel) (by decide +kernel)
    | 1, _ => exact mtb 164 (by decide +kernel) (by decide +kernel)
    | 2, _ => exact mtb 166 (by decide +kernel) (by decide +kernel)
    | 3, _ => exact mtb 168 (by decide +kernel) (by decide +kernel)
    | 4, _ => exact mtb 170 (by decide +kernel) (by decide +kernel)
    | 5, _ => exact mtb 172 (by decide +kernel) (by decide +kernel)
    | 6, _ => exact mtb 174 (by decide +kernel) (by decide +kernel)
    | n + 7, hk => exact absurd hk (by omega)
  intro w hw
  obtain ⟨k, hk, rfl⟩ := List.mem_map.mp hw
  exact h k (List.mem_range.mp hk)
theorem lay8 : ∀ w ∈ u_ws RX8 TX8 13, w ∈ tw := by
  have h : ∀ k, k < 13 → u_lay RX8 TX8 k ∈ tw := by
    intro k hk
    match k, hk with
    | 0, _ => exact mtb 301 (by decide +kernel) (by decide +kernel)
    | 1, _ => exact mtb 303 (by decide +kernel) (by decide +kernel)
    | 2, _ => exact mtb 305 (by decide +kernel) (by decide +kernel)
    | 3, _ => exact mtb 307 (by decide +kernel) (by decide +kernel)
    | 4, _ => exact mtb 309 (by decide +kernel) (by decide +kernel)
    | 5, _ => exact mtb 311 (by decide +kernel) (by decide +kernel)
    | 6, _ => exact mtb 313 (by decide +kernel) (by decide +kernel)
    | 7, _ => exact mtb 315 (by decide +kernel) (by decide +kernel)
    | 8, _ => exact mtb 317 (by decide +kernel) (by decide +kernel)
    | 9, _ => exact mtb 319 (by decide +kernel) (by decide +kernel)
    | 10, _ => exact mtb 321 (by decide +kernel) (by decide +kernel)
    | 11, _ => exact mtb 323 (by decide +kernel) (by decide +kernel)
    | 12, _ => exact mtb 325 (by decide +kernel) (by decide +kernel)
    | n + 13, hk => exact absurd hk (by omega)
  intro w hw
  obtain ⟨k, hk, rfl⟩ := List.mem_map.mp hw
  exact h k (List.mem_range.mp hk)
theorem lay9 : ∀ w ∈ u_ws RX9 TX9 30, w ∈ tw := by
  have h : ∀ k, k < 30 → u_lay RX9 TX9 k ∈ tw := by
    intro k hk
    match k, hk with
    | 0, _ => exact mtb 729 (by decide +kernel) (by decide +kernel)
    | 1, _ => exact mtb 731 (by decide +kernel) (by decide +kernel)
    | 2, _ => exact mtb 733 (by decide +kernel) (by decide +kernel)
    | 3, _ => exact mtb 735 (by decide +kernel) (by decide +kernel)
    | 4, _ => exact mtb 737 (by decide +kernel) (by decide +kernel)
    | 5, _ => exact mtb 739 (by decide +kernel) (by decide +kernel)
    | 6, _ => exact mtb 741 (by decide +kernel) (by decide +kernel)
    | 7, _ => exact mtb 743 (by decide +kernel) (by decide +kernel)
    | 8, _ => exact mtb 745 (by decide +kernel) (by decide +kernel)
    | 9, _ => exact mtb 747 (by decide +kernel) (by decide +kernel)
    | 10, _ => exact mtb 749 (by decide +kernel) (by decide +kernel)
    | 11, _ => exact mtb 751 (by decide +kernel) (by decide +kernel)
    | 12, _ => exact mtb 753 (by decide +kernel) (by decide +kernel)
    | 13, _ => exact mtb 755 (by decide +kernel) (by decide +kernel)
    | 14, _ => exact mtb 757 (by decide +kernel) (by decide +kernel)
    | 15, _ => exact mtb 759 (by decide +kernel) (by decide +kernel)
    | 16, _ => exact mtb 761 (by decide +kernel) (by decide +kernel)
    | 17, _ => exact mtb 763 (by decide +kernel) (by decide +kernel)
    | 18, _ => exact mtb 765 (by decide +kernel) (by decide +kernel)
    | 19, _ => exact mtb 767 (by decide +kernel) (by decide +kernel)
    | 20, _ => exact mtb 769 (by decide +kernel) (by decide +kernel)
    | 21, _ => exact mtb 771 (by decide +kernel) (by decide +kernel)
    | 22, _ => exact mtb 773 (by decide +kernel) (by decide +kernel)
    | 23, _ => exact mtb 775 (by decide +kernel) (by decide +kernel)
    | 24, _ => exact mtb 777 (by decide +kernel) (by decide +kernel)
    | 25, _ => exact mtb 779 (by decide +kernel) (by decide +kernel)
    | 26, _ => exact mtb 781 (by decide +kernel) (by decide +kernel)
    | 27, _ => exact mtb 783 (by decide +kernel) (by decide +kernel)
    | 28, _ => exact mtb 785 (by decide +kernel) (by decide +kernel)
    | 29, _ => exact mtb 787 (by decide +kernel) (by decide +kernel)
    | n + 30, hk => exact absurd hk (by omega)
  intro w hw
  obtain ⟨k, hk, rfl⟩ := List.mem_map.mp hw
  exact h k (List.mem_range.mp hk)
theorem fk_X8_10 : FL RX8 10 8 0 13 := ⟨RX8, TX8, tyX8, rfl, by decide, mtb 288 (by decide +kernel) (by decide +kernel), lay8, tyX8_ok, nmX8⟩
theorem fk_X8_19 : FL RX8 19 8 1 13 := ⟨RX8, TX8, tyX8, rfl, by decide, mtb 289 (by decide +kernel) (by decide +kernel), lay8, tyX8_ok, nmX8⟩
theorem fk_X8_23 : FL RX8 23 8 2 13 := ⟨RX8, TX8, tyX8, rfl, by decide, mtb 290 (by decide +kernel) (by decide +kernel), lay8, tyX8_ok, nmX8⟩
theorem fk_X8_29 : FL RX8 29 8 3 13 := ⟨RX8, TX8, tyX8, rfl, by decide, mtb 291 (by decide +kernel) (by decide +kernel), lay8, tyX8_ok, nmX8⟩
theorem fk_X8_36 : FL RX8 36 8 4 13 := ⟨RX8, TX8, tyX8, rfl, by decide, mtb 292 (by decide +kernel) (by decide +kernel), lay8, tyX8_ok, nmX8⟩
theorem fk_X8_40 : FL RX8 40 8 5 13 := ⟨RX8, TX8, tyX8, rfl, by decide, mtb 293 (by decide +kernel) (by decide +kernel), lay8, tyX8_ok, nmX8⟩
theorem fk_X8_44 : FL RX8 44 8 6 13 := ⟨RX8, TX8, tyX8, rfl, by decide, mtb 294 (by decide +kernel) (by decide +kernel), lay8, tyX8_ok, nmX8⟩
theorem fk_X8_51 : FL RX8 51 8 7 13 := ⟨RX8, TX8, tyX8, rfl, by decide, mtb 295 (by decide +kernel) (by decide +kernel), lay8, tyX8_ok, nmX8⟩
theorem fk_X8_58 : FL RX8 58 8 8 13 := ⟨RX8, TX8, tyX8, rfl, by decide, mtb 296 (by decide +kernel) (by decide +kernel), lay8, tyX8_ok, nmX8⟩
theorem fk_X8_65 : FL RX8 65 8 9 13 := ⟨RX8, TX8, tyX8, rfl, by decide, mtb 297 (by decide +kernel) (by decide +kernel), lay8, tyX8_ok, nmX8⟩
theorem fk_X8_72 : FL RX8 72 8 10 13 := ⟨RX8, TX8, tyX8, rfl, by decide, mtb 298 (by decide +kernel) (by decide +kernel), lay8, tyX8_ok, nmX8⟩
theorem fk_X8_76 : FL RX8 76 8 11 13 := ⟨RX8, TX8, tyX8, rfl, by decide, mtb 299 (by decide +kernel) (by decide +kernel), lay8, tyX8_ok, nmX8⟩
theorem fk_X8_80 : FL RX8 80 8 12 13 := ⟨RX8, TX8, tyX8, rfl, by decide, mtb 300 (by decide +kernel) (by decide +kernel), lay8, tyX8_ok, nmX8⟩
theorem fk_X8_84 : FL RX8 84 6 1 7 := ⟨RX6, TX6, tyX6, rfl, by decide, mtb 31 (by decide +kernel) (by decide +kernel), lay6, tyX6_ok, nmX6⟩
theorem fk_X8_95 : FL RX8 95 6 2 7 := ⟨RX6, TX6, tyX6, rfl, by decide, mtb 33 (by decide +kernel) (by decide +kernel), lay6, tyX6_ok, nmX6⟩
theorem fk_X8_105 : FL RX8 105 4 2 3 := ⟨RX4, TX4, tyX4, rfl, by decide, mtb 280 (by decide +kernel) (by decide +kernel), lay4, tyX4_ok, nmX4⟩
theorem fk_X8_113 : FL RX8 113 7 5 7 := ⟨RX7, TX7, tyX7, rfl, by decide, mtb 158 (by decide +kernel) (by decide +kernel), lay7, tyX7_ok, nmX7⟩
theorem fk_X8_116 : FL RX8 116 2 2 12 := ⟨RX2, TX2, tyX2, rfl, by decide, mtb 75 (by decide +kernel) (by decide +kernel), lay2, tyX2_ok, nmX2⟩
theorem fk_X8_119 : FL RX8 119 2 3 12 := ⟨RX2, TX2, tyX2, rfl, by decide, mtb 79 (by decide +kernel) (by decide +kernel), lay2, tyX2_ok, nmX2⟩
theorem fk_X8_125 : FL RX8 125 7 6 7 := ⟨RX7, TX7, tyX7, rfl, by decide, mtb 161 (by decide +kernel) (by decide +kernel), lay7, tyX7_ok, nmX7⟩
theorem fk_X8_131 : FL RX8 131 2 5 12 := ⟨RX2, TX2, tyX2, rfl, by decide, mtb 88 (by decide +kernel) (by decide +kernel), lay2, tyX2_ok, nmX2⟩
theorem fk_X8_134 : FL RX8 134 2 6 12 := ⟨RX2, TX2, tyX2, rfl, by decide, mtb 93 (by decide +kernel) (by decide +kernel), lay2, tyX2_ok, nmX2⟩
theorem fk_X8_137 : FL RX8 137 2 7 12 := ⟨RX2, TX2, tyX2, rfl, by decide, mtb 97 (by decide +kernel) (by decide +kernel), lay2, tyX2_ok, nmX2⟩
theorem fk_X8_140 : FL RX8 140 2 8 12 := ⟨RX2, TX2, tyX2, rfl, by decide, mtb 100 (by decide +kernel) (by decide +kernel), lay2, tyX2_ok, nmX2⟩
theorem fk_X8_143 : FL RX8 143 7 0 7 := ⟨RX7, TX7, tyX7, rfl, by decide, mtb 145 (by decide +kernel) (by decide +kernel), lay7, tyX7_ok, nmX7⟩
theorem fk_X8_146 : FL RX8 146 7 1 7 := ⟨RX7, TX7, tyX7, rfl, by decide, mtb 148 (by decide +kernel) (by decide +kernel), lay7, tyX7_ok, nmX7⟩
theorem fk_X8_149 : FL RX8 149 7 2 7 := ⟨RX7, TX7, tyX7, rfl, by decide, mtb 151 (by decide +kernel) (by decide +kernel), lay7, tyX7_ok, nmX7⟩
theorem fk_X8_152 : FL RX8 152 7 3 7 := ⟨RX7, TX7, tyX7, rfl, by decide, mtb 153 (by decide +kernel) (by decide +kernel), lay7, tyX7_ok, nmX7⟩
theorem fk_X8_158 : FL RX8 158 7 4 7 := ⟨RX7, TX7, tyX7, rfl, by decide, mtb 155 (by decide +kernel) (by decide +kernel), lay7, tyX7_ok, nmX7⟩
theorem fk_X8_165 : FL RX8 165 5 2 3 := ⟨RX5, TX5, tyX5, rfl, by decide, mtb 189 (by decide +kernel) (by decide +kernel), lay5, tyX5_ok, nmX5⟩
theorem fk_X8_178 : FL RX8 178 2 9 12 := ⟨RX2, TX2, tyX2, rfl, by decide, mtb 105 (by decide +kernel) (by decide +kernel), lay2, tyX2_ok, nmX2⟩
theorem fk_X8_207 : FL RX8 207 2 0 12 := ⟨RX2, TX2, tyX2, rfl, by decide, mtb 69 (by decide +kernel) (by decide +kernel), lay2, tyX2_ok, nmX2⟩
theorem fk_X8_210 : FL RX8 210 1 1 7 := ⟨RX1, TX1, tyX1, rfl, by decide, mtb 205 (by decide +kernel) (by decide +kernel), lay1, tyX1_ok, nmX1⟩
theorem fk_X8_217 : FL RX8 217 0 2 7 := ⟨RX0, TX0, tyX0, rfl, by decide, mtb 237 (by decide +kernel) (by decide +kernel), lay0, tyX0_ok, nmX0⟩
theorem fk_X8_220 : FL RX8 220 0 3 7 := ⟨RX0, TX0, tyX0, rfl, by decide, mtb 239 (by decide +kernel) (by decide +kernel), lay0, tyX0_ok, nmX0⟩
theorem fk_X8_223 : FL RX8 223 0 1 7 := ⟨RX0, TX0, tyX0, rfl, by decide, mtb 235 (by decide +kernel) (by decide +kernel), lay0, tyX0_ok, nmX0⟩
theorem fk_X8_226 : FL RX8 226 0 0 7 := ⟨RX0, TX0, tyX0, rfl, by decide, mtb 233 (by decide +kernel) (by decide +kernel), lay0, tyX0_ok, nmX0⟩
theorem fk_X8_265 : FL RX8 265 2 4 12 := ⟨RX2, TX2, tyX2, rfl, by decide, mtb 84 (by decide +kernel) (by decide +kernel), lay2, tyX2_ok, nmX2⟩
theorem fk_X8_268 : FL RX8 268 2 10 12 := ⟨RX2, TX2, tyX2, rfl, by decide, mtb 108 (by decide +kernel) (by decide +kernel), lay2, tyX2_ok, nmX2⟩
theorem fk_X8_271 : FL RX8 271 2 11 12 := ⟨RX2, TX2, tyX2, rfl, by decide, mtb 112 (by decide +kernel) (by decide +kernel), lay2, tyX2_ok, nmX2⟩
theorem fk_X0_9 : FL RX0 9 0 0 7 := ⟨RX0, TX0, tyX0, rfl, by decide, mtb 232 (by decide +kernel) (by decide +kernel), lay0, tyX0_ok, nmX0⟩
theorem fk_X0_15 : FL RX0 15 0 4 7 := ⟨RX0, TX0, tyX0, rfl, by decide, mtb 240 (by decide +kernel) (by decide +kernel), lay0, tyX0_ok, nmX0⟩
theorem fk_X0_18 : FL RX0 18 0 5 7 := ⟨RX0, TX0, tyX0, rfl, by decide, mtb 241 (by decide +kernel) (by decide +kernel), lay0, tyX0_ok, nmX0⟩
theorem fk_X0_27 : FL RX0 27 2 11 12 := ⟨RX2, TX2, tyX2, rfl, by decide, mtb 109 (by decide +kernel) (by decide +kernel), lay2, tyX2_ok, nmX2⟩
theorem fk_X0_33 : FL RX0 33 7 2 7 := ⟨RX7, TX7, tyX7, rfl, by decide, mtb 150 (by decide +kernel) (by decide +kernel), lay7, tyX7_ok, nmX7⟩
theorem fk_X0_38 : FL RX0 38 0 6 7 := ⟨RX0, TX0, tyX0, rfl, by decide, mtb 242 (by decide +kernel) (by decide +kernel), lay0, tyX0_ok, nmX0⟩
theorem fk_X0_41 : FL RX0 41 0 1 7 := ⟨RX0, TX0, tyX0, rfl, by decide, mtb 234 (by decide +kernel) (by decide +kernel), lay0, tyX0_ok, nmX0⟩
theorem fk_X0_44 : FL RX0 44 0 2 7 := ⟨RX0, TX0, tyX0, rfl, by decide, mtb 236 (by decide +kernel) (by decide +kernel), lay0, tyX0_ok, nmX0⟩
theorem fk_X0_47 : FL RX0 47 0 3 7 := ⟨RX0, TX0, tyX0, rfl, by decide, mtb 238 (by decide +kernel) (by decide +kernel), lay0, tyX0_ok, nmX0⟩
theorem fk_X0_50 : FL RX0 50 7 1 7 := ⟨RX7, TX7, tyX7, rfl, by decide, mtb 147 (by decide +kernel) (by decide +kernel), lay7, tyX7_ok, nmX7⟩
theorem fk_X0_57 : FL RX0 57 2 0 12 := ⟨RX2, TX2, tyX2, rfl, by decide, mtb 65 (by decide +kernel) (by decide +kernel), lay2, tyX2_ok, nmX2⟩
theorem fk_X0_64 : FL RX0 64 2 3 12 := ⟨RX2, TX2, tyX2, rfl, by decide, mtb 77 (by decide +kernel) (by decide +kernel), lay2, tyX2_ok, nmX2⟩
theorem fk_X1_11 : FL RX1 11 1 0 7 := ⟨RX1, TX1, tyX1, rfl, by decide, mtb 203 (by decide +kernel) (by decide +kernel), lay1, tyX1_ok, nmX1⟩
theorem fk_X1_15 : FL RX1 15 1 1 7 := ⟨RX1, TX1, tyX1, rfl, by decide, mtb 204 (by decide +kernel) (by decide +kernel), lay1, tyX1_ok, nmX1⟩
theorem fk_X1_18 : FL RX1 18 1 3 7 := ⟨RX1, TX1, tyX1, rfl, by decide, mtb 207 (by decide +kernel) (by decide +kernel), lay1, tyX1_ok, nmX1⟩
theorem fk_X1_21 : FL RX1 21 1 4 7 := ⟨RX1, TX1, tyX1, rfl, by decide, mtb 208 (by decide +kernel) (by decide +kernel), lay1, tyX1_ok, nmX1⟩
theorem fk_X1_24 : FL RX1 24 2 4 12 := ⟨RX2, TX2, tyX2, rfl, by decide, mtb 81 (by decide +kernel) (by decide +kernel), lay2, tyX2_ok, nmX2⟩
theorem fk_X1_30 : FL RX1 30 1 2 7 := ⟨RX1, TX1, tyX1, rfl, by decide, mtb 206 (by decide +kernel) (by decide +kernel), lay1, tyX1_ok, nmX1⟩
theorem fk_X1_35 : FL RX1 35 2 6 12 := ⟨RX2, TX2, tyX2, rfl, by decide, mtb 90 (by decide +kernel) (by decide +kernel), lay2, tyX2_ok, nmX2⟩
theorem fk_X1_36 : FL RX1 36 7 5 7 := ⟨RX7, TX7, tyX7, rfl, by decide, mtb 157 (by decide +kernel) (by decide +kernel), lay7, tyX7_ok, nmX7⟩
theorem fk_X1_49 : FL RX1 49 1 5 7 := ⟨RX1, TX1, tyX1, rfl, by decide, mtb 209 (by decide +kernel) (by decide +kernel), lay1, tyX1_ok, nmX1⟩
theorem fk_X1_51 : FL RX1 51 7 6 7 := ⟨RX7, TX7, tyX7, rfl, by decide, mtb 160 (by decide +kernel) (by decide +kernel), lay7, tyX7_ok, nmX7⟩
theorem fk_X1_54 : FL RX1 54 1 6 7 := ⟨RX1, TX1, tyX1, rfl, by decide, mtb 210 (by decide +kernel) (by decide +kernel), lay1, tyX1_ok, nmX1⟩
theorem fk_X1_89 : FL RX1 89 2 0 12 := ⟨RX2, TX2, tyX2, rfl, by decide, mtb 68 (by decide +kernel) (by decide +kernel), lay2, tyX2_ok, nmX2⟩
theorem fk_X2_9 : FL RX2 9 2 1 12 := ⟨RX2, TX2, tyX2, rfl, by decide, mtb 70 (by decide +kernel) (by decide +kernel), lay2, tyX2_ok, nmX2⟩
theorem fk_X2_15 : FL RX2 15 2 2 12 := ⟨RX2, TX2, tyX2, rfl, by decide, mtb 73 (by decide +kernel) (by decide +kernel), lay2, tyX2_ok, nmX2⟩
theorem fk_X2_18 : FL RX2 18 2 3 12 := ⟨RX2, TX2, tyX2, rfl, by decide, mtb 76 (by decide +kernel) (by decide +kernel), lay2, tyX2_ok, nmX2⟩
theorem fk_X2_21 : FL RX2 21 2 5 12 := ⟨RX2, TX2, tyX2, rfl, by decide, mtb 85 (by decide +kernel) (by decide +kernel), lay2, tyX2_ok, nmX2⟩
theorem fk_X2_24 : FL RX2 24 2 6 12 := ⟨RX2, TX2, tyX2, rfl, by decide, mtb 89 (by decide +kernel) (by decide +kernel), lay2, tyX2_ok, nmX2⟩
theorem fk_X2_27 : FL RX2 27 2 8 12 := ⟨RX2, TX2, tyX2, rfl, by decide, mtb 98 (by decide +kernel) (by decide +kernel), lay2, tyX2_ok, nmX2⟩
theorem fk_X2_33 : FL RX2 33 2 0 12 := ⟨RX2, TX2, tyX2, rfl, by decide, mtb 64 (by decide +kernel) (by decide +kernel), lay2, tyX2_ok, nmX2⟩
theorem fk_X2_37 : FL RX2 37 2 4 12 := ⟨RX2, TX2, tyX2, rfl, by decide, mtb 82 (by decide +kernel) (by decide +kernel), lay2, tyX2_ok, nmX2⟩
theorem fk_X2_40 : FL RX2 40 2 7 12 := ⟨RX2, TX2, tyX2, rfl, by decide, mtb 95 (by decide +kernel) (by decide +kernel), lay2, tyX2_ok, nmX2⟩
theorem fk_X2_43 : FL RX2 43 2 9 12 := ⟨RX2, TX2, tyX2, rfl, by decide, mtb 102 (by decide +kernel) (by decide +kernel), lay2, tyX2_ok, nmX2⟩
theorem fk_X2_46 : FL RX2 46 2 10 12 := ⟨RX2, TX2, tyX2, rfl, by decide, mtb 106 (by decide +kernel) (by decide +kernel), lay2, tyX2_ok, nmX2⟩
theorem fk_X2_49 : FL RX2 49 2 11 12 := ⟨RX2, TX2, tyX2, rfl, by decide, mtb 110 (by decide +kernel) (by decide +kernel), lay2, tyX2_ok, nmX2⟩
theorem fk_X3_9 : FL RX3 9 3 1 2 := ⟨RX3, TX3, tyX3, rfl, by decide, mtb 265 (by decide +kernel) (by decide +kernel), lay3, tyX3_ok, nmX3⟩
theorem fk_X3_15 : FL RX3 15 3 0 2 := ⟨RX3, TX3, tyX3, rfl, by decide, mtb 264 (by decide +kernel) (by decide +kernel), lay3, tyX3_ok, nmX3⟩
theorem fk_X3_18 : FL RX3 18 2 7 12 := ⟨RX2, TX2, tyX2, rfl, by decide, mtb 94 (by decide +kernel) (by decide +kernel), lay2, tyX2_ok, nmX2⟩
theorem fk_X3_24 : FL RX3 24 2 8 12 := ⟨RX2, TX2, tyX2, rfl, by decide, mtb 99 (by decide +kernel) (by decide +kernel), lay2, tyX2_ok, nmX2⟩
theorem fk_X3_27 : FL RX3 27 2 9 12 := ⟨RX2, TX2, tyX2, rfl, by decide, mtb 103 (by decide +kernel) (by decide +kernel), lay2, tyX2_ok, nmX2⟩
theorem fk_X4_9 : FL RX4 9 4 0 3 := ⟨RX4, TX4, tyX4, rfl, by decide, mtb 277 (by decide +kernel) (by decide +kernel), lay4, tyX4_ok, nmX4⟩
theorem fk_X4_15 : FL RX4 15 4 1 3 := ⟨RX4, TX4, tyX4, rfl, by decide, mtb 278 (by decide +kernel) (by decide +kernel), lay4, tyX4_ok, nmX4⟩
theorem fk_X4_18 : FL RX4 18 4 2 3 := ⟨RX4, TX4, tyX4, rfl, by decide, mtb 279 (by decide +kernel) (by decide +kernel), lay4, tyX4_ok, nmX4⟩
theorem fk_X4_22 : FL RX4 22 2 5 12 := ⟨RX2, TX2, tyX2, rfl, by decide, mtb 86 (by decide +kernel) (by decide +kernel), lay2, tyX2_ok, nmX2⟩
theorem fk_X5_11 : FL RX5 11 5 0 3 := ⟨RX5, TX5, tyX5, rfl, by decide, mtb 186 (by decide +kernel) (by decide +kernel), lay5, tyX5_ok, nmX5⟩
theorem fk_X5_18 : FL RX5 18 5 1 3 := ⟨RX5, TX5, tyX5, rfl, by decide, mtb 187 (by decide +kernel) (by decide +kernel), lay5, tyX5_ok, nmX5⟩
theorem fk_X5_22 : FL RX5 22 5 2 3 := ⟨RX5, TX5, tyX5, rfl, by decide, mtb 188 (by decide +kernel) (by decide +kernel), lay5, tyX5_ok, nmX5⟩
theorem fk_X6_9 : FL RX6 9 6 0 7 := ⟨RX6, TX6, tyX6, rfl, by decide, mtb 29 (by decide +kernel) (by decide +kernel), lay6, tyX6_ok, nmX6⟩
theorem fk_X6_15 : FL RX6 15 6 1 7 := ⟨RX6, TX6, tyX6, rfl, by decide, mtb 30 (by decide +kernel) (by decide +kernel), lay6, tyX6_ok, nmX6⟩
theorem fk_X6_19 : FL RX6 19 6 2 7 := ⟨RX6, TX6, tyX6, rfl, by decide, mtb 32 (by decide +kernel) (by decide +kernel), lay6, tyX6_ok, nmX6⟩
theorem fk_X6_27 : FL RX6 27 6 3 7 := ⟨RX6, TX6, tyX6, rfl, by decide, mtb 34 (by decide +kernel) (by decide +kernel), lay6, tyX6_ok, nmX6⟩
theorem fk_X6_30 : FL RX6 30 6 4 7 := ⟨RX6, TX6, tyX6, rfl, by decide, mtb 35 (by decide +kernel) (by decide +kernel), lay6, tyX6_ok, nmX6⟩
theorem fk_X6_34 : FL RX6 34 6 5 7 := ⟨RX6, TX6, tyX6, rfl, by decide, mtb 36 (by decide +kernel) (by decide +kernel), lay6, tyX6_ok, nmX6⟩
theorem fk_X6_37 : FL RX6 37 6 6 7 := ⟨RX6, TX6, tyX6, rfl, by decide, mtb 37 (by decide +kernel) (by decide +kernel), lay6, tyX6_ok, nmX6⟩
theorem fk_X6_73 : FL RX6 73 2 0 12 := ⟨RX2, TX2, tyX2, rfl, by decide, mtb 66 (by decide +kernel) (by decide +kernel), lay2, tyX2_ok, nmX2⟩
theorem fk_X6_76 : FL RX6 76 2 1 12 := ⟨RX2, TX2, tyX2, rfl, by decide, mtb 72 (by decide +kernel) (by decide +kernel), lay2, tyX2_ok, nmX2⟩
theorem fk_X6_83 : FL RX6 83 2 2 12 := ⟨RX2, TX2, tyX2, rfl, by decide, mtb 74 (by decide +kernel) (by decide +kernel), lay2, tyX2_ok, nmX2⟩
theorem fk_X6_86 : FL RX6 86 2 3 12 := ⟨RX2, TX2, tyX2, rfl, by decide, mtb 80 (by decide +kernel) (by decide +kernel), lay2, tyX2_ok, nmX2⟩
theorem fk_X6_89 : FL RX6 89 2 4 12 := ⟨RX2, TX2, tyX2, rfl, by decide, mtb 83 (by decide +kernel) (by decide +kernel), lay2, tyX2_ok, nmX2⟩
theorem fk_X6_92 : FL RX6 92 2 5 12 := ⟨RX2, TX2, tyX2, rfl, by decide, mtb 87 (by decide +kernel) (by decide +kernel), lay2, tyX2_ok, nmX2⟩
theorem fk_X6_95 : FL RX6 95 2 6 12 := ⟨RX2, TX2, tyX2, rfl, by decide, mtb 92 (by decide +kernel) (by decide +kernel), lay2, tyX2_ok, nmX2⟩
theorem fk_X6_98 : FL RX6 98 2 7 12 := ⟨RX2, TX2, tyX2, rfl, by decide, mtb 96 (by decide +kernel) (by decide +kernel), lay2, tyX2_ok, nmX2⟩
theorem fk_X6_101 : FL RX6 101 2 8 12 := ⟨RX2, TX2, tyX2, rfl, by decide, mtb 101 (by decide +kernel) (by decide +kernel), lay2, tyX2_ok, nmX2⟩
theorem fk_X6_104 : FL RX6 104 2 9 12 := ⟨RX2, TX2, tyX2, rfl, by decide, mtb 104 (by decide +kernel) (by decide +kernel), lay2, tyX2_ok, nmX2⟩
theorem fk_X6_107 : FL RX6 107 2 10 12 := ⟨RX2, TX2, tyX2, rfl, by decide, mtb 107 (by decide +kernel) (by decide +kernel), lay2, tyX2_ok, nmX2⟩
theorem fk_X6_110 : FL RX6 110 2 11 12 := ⟨RX2, TX2, tyX2, rfl, by decide, mtb 111 (by decide +kernel) (by decide +kernel), lay2, tyX2_ok, nmX2⟩
theorem fk_X7_9 : FL RX7 9 7 5 7 := ⟨RX7, TX7, tyX7, rfl, by decide, mtb 156 (by decide +kernel) (by decide +kernel), lay7, tyX7_ok, nmX7⟩
theorem fk_X7_15 : FL RX7 15 7 6 7 := ⟨RX7, TX7, tyX7, rfl, by decide, mtb 159 (by decide +kernel) (by decide +kernel), lay7, tyX7_ok, nmX7⟩
theorem fk_X7_18 : FL RX7 18 7 0 7 := ⟨RX7, TX7, tyX7, rfl, by decide, mtb 144 (by decide +kernel) (by decide +kernel), lay7, tyX7_ok, nmX7⟩
theorem fk_X7_22 : FL RX7 22 7 1 7 := ⟨RX7, TX7, tyX7, rfl, by decide, mtb 146 (by decide +kernel) (by decide +kernel), lay7, tyX7_ok, nmX7⟩
theorem fk_X7_25 : FL RX7 25 7 2 7 := ⟨RX7, TX7, tyX7, rfl, by decide, mtb 149 (by decide +kernel) (by decide +kernel), lay7, tyX7_ok, nmX7⟩
theorem fk_X7_28 : FL RX7 28 7 3 7 := ⟨RX7, TX7, tyX7, rfl, by decide, mtb 152 (by decide +kernel) (by decide +kernel), lay7, tyX7_ok, nmX7⟩
theorem fk_X7_31 : FL RX7 31 7 4 7 := ⟨RX7, TX7, tyX7, rfl, by decide, mtb 154 (by decide +kernel) (by decide +kernel), lay7, tyX7_ok, nmX7⟩
theorem fk_X7_34 : FL RX7 34 2 1 12 := ⟨RX2, TX2, tyX2, rfl, by decide, mtb 71 (by decide +kernel) (by decide +kernel), lay2, tyX2_ok, nmX2⟩
theorem fk_X7_49 : FL RX7 49 2 0 12 := ⟨RX2, TX2, tyX2, rfl, by decide, mtb 67 (by decide +kernel) (by decide +kernel), lay2, tyX2_ok, nmX2⟩
theorem fk_X7_56 : FL RX7 56 2 3 12 := ⟨RX2, TX2, tyX2, rfl, by decide, mtb 78 (by decide +kernel) (by decide +kernel), lay2, tyX2_ok, nmX2⟩
theorem fk_X7_59 : FL RX7 59 2 6 12 := ⟨RX2, TX2, tyX2, rfl, by decide, mtb 91 (by decide +kernel) (by decide +kernel), lay2, tyX2_ok, nmX2⟩
theorem fk_X9_7 : FL RX9 7 9 2 30 := ⟨RX9, TX9, tyX9, rfl, by decide, mtb 701 (by decide +kernel) (by decide +kernel), lay9, tyX9_ok, nmX9⟩
theorem fk_X9_13 : FL RX9 13 9 9 30 := ⟨RX9, TX9, tyX9, rfl, by decide, mtb 708 (by decide +kernel) (by decide +kernel), lay9, tyX9_ok, nmX9⟩
theorem fk_X9_16 : FL RX9 16 9 11 30 := ⟨RX9, TX9, tyX9, rfl, by decide, mtb 710 (by decide +kernel) (by decide +kernel), lay9, tyX9_ok, nmX9⟩
theorem fk_X9_19 : FL RX9 19 9 12 30 := ⟨RX9, TX9, tyX9, rfl, by decide, mtb 711 (by decide +kernel) (by decide +kernel), lay9, tyX9_ok, nmX9⟩
theorem fk_X9_22 : FL RX9 22 9 13 30 := ⟨RX9, TX9, tyX9, rfl, by decide, mtb 712 (by decide +kernel) (by decide +kernel), lay9, tyX9_ok, nmX9⟩
theorem fk_X9_25 : FL RX9 25 9 14 30 := ⟨RX9, TX9, tyX9, rfl, by decide, mtb 713 (by decide +kernel) (by decide +kernel), lay9, tyX9_ok, nmX9⟩
theorem fk_X9_28 : FL RX9 28 9 15 30 := ⟨RX9, TX9, tyX9, rfl, by decide, mtb 714 (by decide +kernel) (by decide +kernel), lay9, tyX9_ok, nmX9⟩
theorem fk_X9_31 : FL RX9 31 9 16 30 := ⟨RX9, TX9, tyX9, rfl, by decide, mtb 715 (by decide +kernel) (by decide +kernel), lay9, tyX9_ok, nmX9⟩
theorem fk_X9_34 : FL RX9 34 9 17 30 := ⟨RX9, TX9, tyX9, rfl, by decide, mtb 716 (by decide +kernel) (by decide +kernel), lay9, tyX9_ok, nmX9⟩
theorem fk_X9_37 : FL RX9 37 9 18 30 := ⟨RX9, TX9, tyX9, rfl, by decide, mtb 717 (by decide +kernel) (by decide +kernel), lay9, tyX9_ok, nmX9⟩
theorem fk_X9_40 : FL RX9 40 9 19 30 := ⟨RX9, TX9, tyX9, rfl, by decide, mtb 718 (by decide +kernel) (by decide +kernel), lay9, tyX9_ok, nmX9⟩
theorem fk_X9_44 : FL RX9 44 9 20 30 := ⟨RX9, TX9, tyX9, rfl, by decide, mtb 719 (by decide +kernel) (by decide +kernel), lay9, tyX9_ok, nmX9⟩
theorem fk_X9_47 : FL RX9 47 9 22 30 := ⟨RX9, TX9, tyX9, rfl, by decide, mtb 721 (by decide +kernel) (by decide +kernel), lay9, tyX9_ok, nmX9⟩
theorem fk_X9_50 : FL RX9 50 9 23 30 := ⟨RX9, TX9, tyX9, rfl, by decide, mtb 722 (by decide +kernel) (by decide +kernel), lay9, tyX9_ok, nmX9⟩
theorem fk_X9_53 : FL RX9 53 9 25 30 := ⟨RX9, TX9, tyX9, rfl, by decide, mtb 724 (by decide +kernel) (by decide +kernel), lay9, tyX9_ok, nmX9⟩
theorem fk_X9_56 : FL RX9 56 9 26 30 := ⟨RX9, TX9, tyX9, rfl, by decide, mtb 725 (by decide +kernel) (by decide +kernel), lay9, tyX9_ok, nmX9⟩
theorem fk_X9_59 : FL RX9 59 9 27 30 := ⟨RX9, TX9, tyX9, rfl, by decide, mtb 726 (by decide +kernel) (by decide +kernel), lay9, tyX9_ok, nmX9⟩
theorem fk_X9_62 : FL RX9 62 9 28 30 := ⟨RX9, TX9, tyX9, rfl, by decide, mtb 727 (by decide +kernel) (by decide +kernel), lay9, tyX9_ok, nmX9⟩
theorem fk_X9_65 : FL RX9 65 9 29 30 := ⟨RX9, TX9, tyX9, rfl, by decide, mtb 728 (by decide +kernel) (by decide +kernel), lay9, tyX9_ok, nmX9⟩
theorem fk_X9_74 : FL RX9 74 9 0 30 := ⟨RX9, TX9, tyX9, rfl, by decide, mtb 699 (by decide +kernel) (by decide +kernel), lay9, tyX9_ok, nmX9⟩
theorem fk_X9_82 : FL RX9 82 9 3 30 := ⟨RX9, TX9, tyX9, rfl, by decide, mtb 702 (by decide +kernel) (by decide +kernel), lay9, tyX9_ok, nmX9⟩
theorem fk_X9_85 : FL RX9 85 9 4 30 := ⟨RX9, TX9, tyX9, rfl, by decide, mtb 703 (by decide +kernel) (by decide +kernel), lay9, tyX9_ok, nmX9⟩
theorem fk_X9_92 : FL RX9 92 9 6 30 := ⟨RX9, TX9, tyX9, rfl, by decide, mtb 705 (by decide +kernel) (by decide +kernel), lay9, tyX9_ok, nmX9⟩
theorem fk_X9_95 : FL RX9 95 9 5 30 := ⟨RX9, TX9, tyX9, rfl, by decide, mtb 704 (by decide +kernel) (by decide +kernel), lay9, tyX9_ok, nmX9⟩
theorem fk_X9_98 : FL RX9 98 9 7 30 := ⟨RX9, TX9, tyX9, rfl, by decide, mtb 706 (by decide +kernel) (by decide +kernel), lay9, tyX9_ok, nmX9⟩
theorem fk_X9_105 : FL RX9 105 9 8 30 := ⟨RX9, TX9, tyX9, rfl, by decide, mtb 707 (by decide +kernel) (by decide +kernel), lay9, tyX9_ok, nmX9⟩
theorem fk_X9_119 : FL RX9 119 9 10 30 := ⟨RX9, TX9, tyX9, rfl, by decide, mtb 709 (by decide +kernel) (by decide +kernel), lay9, tyX9_ok, nmX9⟩
theorem fk_X9_136 : FL RX9 136 9 24 30 := ⟨RX9, TX9, tyX9, rfl, by decide, mtb 723 (by decide +kernel) (by decide +kernel), lay9, tyX9_ok, nmX9⟩
theorem fk_X9_139 : FL RX9 139 9 21 30 := ⟨RX9, TX9, tyX9, rfl, by decide, mtb 720 (by decide +kernel) (by decide +kernel), lay9, tyX9_ok, nmX9⟩
theorem fk_X9_201 : FL RX9 201 9 1 30 := ⟨RX9, TX9, tyX9, rfl, by decide, mtb 700 (by decide +kernel) (by decide +kernel), lay9, tyX9_ok, nmX9⟩
theorem fw_0_1 : FW 0 1 .int := by
  intro C T N h
  have h2 : some (RX0, TX0, 7) = some (C, T, N) := h
  cases h2
  exact ⟨rfl, by decide +kernel⟩
theorem fw_0_2 : FW 0 2 .int := by
  intro C T N h
  have h2 : some (RX0, TX0, 7) = some (C, T, N) := h
  cases h2
  exact ⟨rfl, by decide +kernel⟩
theorem fw_0_3 : FW 0 3 .int := by
  intro C T N h
  have h2 : some (RX0, TX0, 7) = some (C, T, N) := h
  cases h2
  exact ⟨rfl, by decide +kernel⟩
theorem fw_0_6 : FW 0 6 .int := by
  intro C T N h
  have h2 : some (RX0, TX0, 7) = some (C, T, N) := h
  cases h2
  exact ⟨rfl, by decide +kernel⟩
theorem fw_1_2 : FW 1 2 .int := by
  intro C T N h
  have h2 : some (RX1, TX1, 7) = some (C, T, N) := h
  cases h2
  exact ⟨rfl, by decide +kernel⟩
theorem fw_1_5 : FW 1 5 .int := by
  intro C T N h
  have h2 : some (RX1, TX1, 7) = some (C, T, N) := h
  cases h2
  exact ⟨rfl, by decide +kernel⟩
theorem fw_1_6 : FW 1 6 .int := by
  intro C T N h
  have h2 : some (RX1, TX1, 7) = some (C, T, N) := h
  cases h2
  exact ⟨rfl, by decide +kernel⟩
theorem fw_2_0 : FW 2 0 .int := by
  intro C T N h
  have h2 : some (RX2, TX2, 12) = some (C, T, N) := h
  cases h2
  exact ⟨rfl, by decide +kernel⟩
theorem fw_2_4 : FW 2 4 .int := by
  intro C T N h
  have h2 : some (RX2, TX2, 12) = some (C, T, N) := h
  cases h2
  exact ⟨rfl, by decide +kernel⟩
theorem fw_2_7 : FW 2 7 .int := by
  intro C T N h
  have h2 : some (RX2, TX2, 12) = some (C, T, N) := h
  cases h2
  exact ⟨rfl, by decide +kernel⟩
theorem fw_2_9 : FW 2 9 .int := by
  intro C T N h
  have h2 : some (RX2, TX2, 12) = some (C, T, N) := h
  cases h2
  exact ⟨rfl, by decide +kernel⟩
theorem fw_2_10 : FW 2 10 .int := by
  intro C T N h
  have h2 : some (RX2, TX2, 12) = some (C, T, N) := h
  cases h2
  exact ⟨rfl, by decide +kernel⟩
theorem fw_2_11 : FW 2 11 .int := by
  intro C T N h
  have h2 : some (RX2, TX2, 12) = some (C, T, N) := h
  cases h2
  exact ⟨rfl, by decide +kernel⟩
theorem fw_4_2 : FW 4 2 .int := by
  intro C T N h
  have h2 : some (RX4, TX4, 3) = some (C, T, N) := h
  cases h2
  exact ⟨rfl, by decide +kernel⟩
theorem fw_5_1 : FW 5 1 .int := by
  intro C T N h
  have h2 : some (RX5, TX5, 3) = some (C, T, N) := h
  cases h2
  exact ⟨rfl, by decide +kernel⟩
theorem fw_5_2 : FW 5 2 .int := by
  intro C T N h
  have h2 : some (RX5, TX5, 3) = some (C, T, N) := h
  cases h2
  exact ⟨rfl, by decide +kernel⟩
theorem fw_6_1 : FW 6 1 .int := by
  intro C T N h
  have h2 : some (RX6, TX6, 7) = some (C, T, N) := h
  cases h2
  exact ⟨rfl, by decide +kernel⟩
theorem fw_6_2 : FW 6 2 .int := by
  intro C T N h
  have h2 : some (RX6, TX6, 7) = some (C, T, N) := h
  cases h2
  exact ⟨rfl, by decide +kernel⟩
theorem fw_6_3 : FW 6 3 .int := by
  intro C T N h
  have h2 : some (RX6, TX6, 7) = some (C, T, N) := h
  cases h2
  exact ⟨rfl, by decide +kernel⟩
theorem fw_6_4 : FW 6 4 .boolean := by
  intro C T N h
  have h2 : some (RX6, TX6, 7) = some (C, T, N) := h
  cases h2
  exact ⟨rfl, by decide +kernel⟩
theorem fw_6_5 : FW 6 5 .boolean := by
  intro C T N h
  have h2 : some (RX6, TX6, 7) = some (C, T, N) := h
  cases h2
  exact ⟨rfl, by decide +kernel⟩
theorem fw_6_6 : FW 6 6 .boolean := by
  intro C T N h
  have h2 : some (RX6, TX6, 7) = some (C, T, N) := h
  cases h2
  exact ⟨rfl, by decide +kernel⟩
theorem fw_7_0 : FW 7 0 .int := by
  intro C T N h
  have h2 : some (RX7, TX7, 7) = some (C, T, N) := h
  cases h2
  exact ⟨rfl, by decide +kernel⟩
theorem fw_7_1 : FW 7 1 .int := by
  intro C T N h
  have h2 : some (RX7, TX7, 7) = some (C, T, N) := h
  cases h2
  exact ⟨rfl, by decide +kernel⟩
theorem fw_7_2 : FW 7 2 .int := by
  intro C T N h
  have h2 : some (RX7, TX7, 7) = some (C, T, N) := h
  cases h2
  exact ⟨rfl, by decide +kernel⟩
theorem fw_7_3 : FW 7 3 .int := by
  intro C T N h
  have h2 : some (RX7, TX7, 7) = some (C, T, N) := h
  cases h2
  exact ⟨rfl, by decide +kernel⟩
theorem fw_7_4 : FW 7 4 .int := by
  intro C T N h
  have h2 : some (RX7, TX7, 7) = some (C, T, N) := h
  cases h2
  exact ⟨rfl, by decide +kernel⟩
theorem fw_8_1 : FW 8 1 (.object "DoorCases$House") := by
  intro C T N h
  have h2 : some (RX8, TX8, 13) = some (C, T, N) := h
  cases h2
  exact ⟨rfl, by decide +kernel⟩
theorem fw_8_2 : FW 8 2 (.object "DoorCases$House") := by
  intro C T N h
  have h2 : some (RX8, TX8, 13) = some (C, T, N) := h
  cases h2
  exact ⟨rfl, by decide +kernel⟩
theorem fw_8_6 : FW 8 6 .int := by
  intro C T N h
  have h2 : some (RX8, TX8, 13) = some (C, T, N) := h
  cases h2
  exact ⟨rfl, by decide +kernel⟩
theorem fw_8_12 : FW 8 12 .long := by
  intro C T N h
  have h2 : some (RX8, TX8, 13) = some (C, T, N) := h
  cases h2
  exact ⟨rfl, by decide +kernel⟩
theorem fw_9_0 : FW 9 0 .int := by
  intro C T N h
  have h2 : some (RX9, TX9, 30) = some (C, T, N) := h
  cases h2
  exact ⟨rfl, by decide +kernel⟩
theorem fw_9_1 : FW 9 1 .long := by
  intro C T N h
  have h2 : some (RX9, TX9, 30) = some (C, T, N) := h
  cases h2
  exact ⟨rfl, by decide +kernel⟩
theorem fw_9_3 : FW 9 3 .int := by
  intro C T N h
  have h2 : some (RX9, TX9, 30) = some (C, T, N) := h
  cases h2
  exact ⟨rfl, by decide +kernel⟩
theorem fw_9_4 : FW 9 4 .int := by
  intro C T N h
  have h2 : some (RX9, TX9, 30) = some (C, T, N) := h
  cases h2
  exact ⟨rfl, by decide +kernel⟩
theorem fw_9_5 : FW 9 5 .int := by
  intro C T N h
  have h2 : some (RX9, TX9, 30) = some (C, T, N) := h
  cases h2
  exact ⟨rfl, by decide +kernel⟩
theorem fw_9_6 : FW 9 6 .int := by
  intro C T N h
  have h2 : some (RX9, TX9, 30) = some (C, T, N) := h
  cases h2
  exact ⟨rfl, by decide +kernel⟩
theorem fw_9_7 : FW 9 7 .int := by
  intro C T N h
  have h2 : some (RX9, TX9, 30) = some (C, T, N) := h
  cases h2
  exact ⟨rfl, by decide +kernel⟩
theorem fw_9_8 : FW 9 8 .int := by
  intro C T N h
  have h2 : some (RX9, TX9, 30) = some (C, T, N) := h
  cases h2
  exact ⟨rfl, by decide +kernel⟩
theorem fw_9_10 : FW 9 10 .int := by
  intro C T N h
  have h2 : some (RX9, TX9, 30) = some (C, T, N) := h
  cases h2
  exact ⟨rfl, by decide +kernel⟩
theorem fw_9_21 : FW 9 21 .int := by
  intro C T N h
  have h2 : some (RX9, TX9, 30) = some (C, T, N) := h
  cases h2
  exact ⟨rfl, by decide +kernel⟩
theorem fw_9_24 : FW 9 24 .int := by
  intro C T N h
  have h2 : some (RX9, TX9, 30) = some (C, T, N) := h
  cases h2
  exact ⟨rfl, by decide +kernel⟩
theorem mk_X8_87 : ML RX8 87 yX6_add 1 := ⟨mtb 332 (by decide +kernel) (by decide +kernel), mtb 2 (by decide +kernel) (by decide +kernel), by decide +kernel, by decide +kernel, by decide +kernel⟩
theorem mk_X8_91 : ML RX8 91 yX6_readInto 1 := ⟨mtb 344 (by decide +kernel) (by decide +kernel), mtb 2 (by decide +kernel) (by decide +kernel), by decide +kernel, by decide +kernel, by decide +kernel⟩
theorem mk_X8_98 : ML RX8 98 yX7_beginIn 1 := ⟨mtb 399 (by decide +kernel) (by decide +kernel), mtb 4 (by decide +kernel) (by decide +kernel), by decide +kernel, by decide +kernel, by decide +kernel⟩
theorem mk_X8_102 : ML RX8 102 yX5_lose 0 := ⟨mtb 409 (by decide +kernel) (by decide +kernel), mtb 5 (by decide +kernel) (by decide +kernel), by decide +kernel, by decide +kernel, by decide +kernel⟩
theorem mk_X8_108 : ML RX8 108 yX2_hasRoom 1 := ⟨mtb 417 (by decide +kernel) (by decide +kernel), mtb 3 (by decide +kernel) (by decide +kernel), by decide +kernel, by decide +kernel, by decide +kernel⟩
theorem mk_X8_122 : ML RX8 122 yX7_isSolved 1 := ⟨mtb 422 (by decide +kernel) (by decide +kernel), mtb 4 (by decide +kernel) (by decide +kernel), by decide +kernel, by decide +kernel, by decide +kernel⟩
theorem mk_X8_128 : ML RX8 128 yX2_hasDoing 1 := ⟨mtb 430 (by decide +kernel) (by decide +kernel), mtb 3 (by decide +kernel) (by decide +kernel), by decide +kernel, by decide +kernel, by decide +kernel⟩
theorem mk_X8_155 : ML RX8 155 yX7_earnedIn 1 := ⟨mtb 442 (by decide +kernel) (by decide +kernel), mtb 4 (by decide +kernel) (by decide +kernel), by decide +kernel, by decide +kernel, by decide +kernel⟩
theorem mk_X8_161 : ML RX8 161 yX3_leftOf 2 := ⟨mtb 447 (by decide +kernel) (by decide +kernel), mtb 8 (by decide +kernel) (by decide +kernel), by decide +kernel, by decide +kernel, by decide +kernel⟩
theorem mk_X8_166 : ML RX8 166 yX2_walkBetween 2 := ⟨mtb 454 (by decide +kernel) (by decide +kernel), mtb 3 (by decide +kernel) (by decide +kernel), by decide +kernel, by decide +kernel, by decide +kernel⟩
theorem mk_X8_170 : ML RX8 170 yX5_remember 1 := ⟨mtb 461 (by decide +kernel) (by decide +kernel), mtb 5 (by decide +kernel) (by decide +kernel), by decide +kernel, by decide +kernel, by decide +kernel⟩
theorem mk_X8_174 : ML RX8 174 yX7_takeDoing 3 := ⟨mtb 474 (by decide +kernel) (by decide +kernel), mtb 4 (by decide +kernel) (by decide +kernel), by decide +kernel, by decide +kernel, by decide +kernel⟩
theorem mk_X8_181 : ML RX8 181 yX5_restore 1 := ⟨mtb 493 (by decide +kernel) (by decide +kernel), mtb 5 (by decide +kernel) (by decide +kernel), by decide +kernel, by decide +kernel, by decide +kernel⟩
theorem mk_X8_184 : ML RX8 184 yX1_solve 3 := ⟨mtb 501 (by decide +kernel) (by decide +kernel), mtb 6 (by decide +kernel) (by decide +kernel), by decide +kernel, by decide +kernel, by decide +kernel⟩
theorem mk_X8_188 : ML RX8 188 yX1_isNever 0 := ⟨mtb 524 (by decide +kernel) (by decide +kernel), mtb 6 (by decide +kernel) (by decide +kernel), by decide +kernel, by decide +kernel, by decide +kernel⟩
theorem mk_X8_192 : ML RX8 192 yX1_minutesNeeded 0 := ⟨mtb 532 (by decide +kernel) (by decide +kernel), mtb 6 (by decide +kernel) (by decide +kernel), by decide +kernel, by decide +kernel, by decide +kernel⟩
theorem mk_X8_196 : ML RX8 196 yX1_doingsNeeded 0 := ⟨mtb 536 (by decide +kernel) (by decide +kernel), mtb 6 (by decide +kernel) (by decide +kernel), by decide +kernel, by decide +kernel, by decide +kernel⟩
theorem mk_X8_199 : ML RX8 199 yX1_doingAt 1 := ⟨mtb 540 (by decide +kernel) (by decide +kernel), mtb 6 (by decide +kernel) (by decide +kernel), by decide +kernel, by decide +kernel, by decide +kernel⟩
theorem mk_X8_203 : ML RX8 203 yX1_solveAll 2 := ⟨mtb 553 (by decide +kernel) (by decide +kernel), mtb 6 (by decide +kernel) (by decide +kernel), by decide +kernel, by decide +kernel, by decide +kernel⟩
theorem mk_X8_213 : ML RX8 213 yX0_plan 3 := ⟨mtb 565 (by decide +kernel) (by decide +kernel), mtb 7 (by decide +kernel) (by decide +kernel), by decide +kernel, by decide +kernel, by decide +kernel⟩
theorem mk_X8_229 : ML RX8 229 yJ6_bitCount_0f7a4 1 := ⟨mtb 583 (by decide +kernel) (by decide +kernel), mtb 14 (by decide +kernel) (by decide +kernel), by decide +kernel, by decide +kernel, by decide +kernel⟩
theorem mk_X8_234 : ML RX8 234 yX1_cheapestBut 1 := ⟨mtb 589 (by decide +kernel) (by decide +kernel), mtb 6 (by decide +kernel) (by decide +kernel), by decide +kernel, by decide +kernel, by decide +kernel⟩
theorem mk_X8_237 : ML RX8 237 yX3_bestTrait 2 := ⟨mtb 597 (by decide +kernel) (by decide +kernel), mtb 8 (by decide +kernel) (by decide +kernel), by decide +kernel, by decide +kernel, by decide +kernel⟩
theorem mk_X8_240 : ML RX8 240 yX3_mostNeeded 2 := ⟨mtb 610 (by decide +kernel) (by decide +kernel), mtb 8 (by decide +kernel) (by decide +kernel), by decide +kernel, by decide +kernel, by decide +kernel⟩
theorem mk_X8_243 : ML RX8 243 yX4_add 2 := ⟨mtb 623 (by decide +kernel) (by decide +kernel), mtb 9 (by decide +kernel) (by decide +kernel), by decide +kernel, by decide +kernel, by decide +kernel⟩
theorem mk_X8_246 : ML RX8 246 yX4_agreesWith 2 := ⟨mtb 635 (by decide +kernel) (by decide +kernel), mtb 9 (by decide +kernel) (by decide +kernel), by decide +kernel, by decide +kernel, by decide +kernel⟩
theorem mk_X8_250 : ML RX8 250 yX2_fullLoss 2 := ⟨mtb 643 (by decide +kernel) (by decide +kernel), mtb 3 (by decide +kernel) (by decide +kernel), by decide +kernel, by decide +kernel, by decide +kernel⟩
theorem mk_X8_253 : ML RX8 253 yX8_countChances 2 := ⟨mtb 648 (by decide +kernel) (by decide +kernel), mtb 1 (by decide +kernel) (by decide +kernel), by decide +kernel, by decide +kernel, by decide +kernel⟩
theorem mk_X8_256 : ML RX8 256 yX8_commonDivisor 2 := ⟨mtb 653 (by decide +kernel) (by decide +kernel), mtb 1 (by decide +kernel) (by decide +kernel), by decide +kernel, by decide +kernel, by decide +kernel⟩
theorem mk_X8_259 : ML RX8 259 yX8_rateAs 2 := ⟨mtb 660 (by decide +kernel) (by decide +kernel), mtb 1 (by decide +kernel) (by decide +kernel), by decide +kernel, by decide +kernel, by decide +kernel⟩
theorem mk_X8_262 : ML RX8 262 yX7_copyOf 1 := ⟨mtb 672 (by decide +kernel) (by decide +kernel), mtb 4 (by decide +kernel) (by decide +kernel), by decide +kernel, by decide +kernel, by decide +kernel⟩
theorem mk_X8_280 : ML RX8 280 yJ7_fill_53178 2 := ⟨mtb 652 (by decide +kernel) (by decide +kernel), mtb 13 (by decide +kernel) (by decide +kernel), by decide +kernel, by decide +kernel, by decide +kernel⟩
theorem mk_X0_53 : ML RX0 53 yX0_extend 6 := ⟨mtb 570 (by decide +kernel) (by decide +kernel), mtb 7 (by decide +kernel) (by decide +kernel), by decide +kernel, by decide +kernel, by decide +kernel⟩
theorem mk_X0_60 : ML RX0 60 yX2_walkBetween 2 := ⟨mtb 574 (by decide +kernel) (by decide +kernel), mtb 3 (by decide +kernel) (by decide +kernel), by decide +kernel, by decide +kernel, by decide +kernel⟩
theorem mk_X0_67 : ML RX0 67 yX0_weigh 3 := ⟨mtb 575 (by decide +kernel) (by decide +kernel), mtb 7 (by decide +kernel) (by decide +kernel), by decide +kernel, by decide +kernel, by decide +kernel⟩
theorem mk_X1_31 : ML RX1 31 yX2_fullLoss 2 := ⟨mtb 505 (by decide +kernel) (by decide +kernel), mtb 3 (by decide +kernel) (by decide +kernel), by decide +kernel, by decide +kernel, by decide +kernel⟩
theorem mk_X1_58 : ML RX1 58 yJ7_fill_53178 2 := ⟨mtb 511 (by decide +kernel) (by decide +kernel), mtb 13 (by decide +kernel) (by decide +kernel), by decide +kernel, by decide +kernel, by decide +kernel⟩
theorem mk_X1_64 : ML RX1 64 yX1_solveLevel 1 := ⟨mtb 512 (by decide +kernel) (by decide +kernel), mtb 6 (by decide +kernel) (by decide +kernel), by decide +kernel, by decide +kernel, by decide +kernel⟩
theorem mk_X1_68 : ML RX1 68 yX1_indexOf 2 := ⟨mtb 516 (by decide +kernel) (by decide +kernel), mtb 6 (by decide +kernel) (by decide +kernel), by decide +kernel, by decide +kernel, by decide +kernel⟩
theorem mk_X1_71 : ML RX1 71 yX1_costThrough 3 := ⟨mtb 519 (by decide +kernel) (by decide +kernel), mtb 6 (by decide +kernel) (by decide +kernel), by decide +kernel, by decide +kernel, by decide +kernel⟩
theorem mk_X1_79 : ML RX1 79 yX1_costNow 0 := ⟨mtb 528 (by decide +kernel) (by decide +kernel), mtb 6 (by decide +kernel) (by decide +kernel), by decide +kernel, by decide +kernel, by decide +kernel⟩
theorem mk_X1_83 : ML RX1 83 yX1_doingsNeeded 0 := ⟨mtb 544 (by decide +kernel) (by decide +kernel), mtb 6 (by decide +kernel) (by decide +kernel), by decide +kernel, by decide +kernel, by decide +kernel⟩
theorem mk_X1_86 : ML RX1 86 yX1_firstOfBest 2 := ⟨mtb 545 (by decide +kernel) (by decide +kernel), mtb 6 (by decide +kernel) (by decide +kernel), by decide +kernel, by decide +kernel, by decide +kernel⟩
theorem mk_X1_92 : ML RX1 92 yX7_isSolved 1 := ⟨mtb 557 (by decide +kernel) (by decide +kernel), mtb 4 (by decide +kernel) (by decide +kernel), by decide +kernel, by decide +kernel, by decide +kernel⟩
theorem mk_X1_96 : ML RX1 96 yX1_solve 3 := ⟨mtb 558 (by decide +kernel) (by decide +kernel), mtb 6 (by decide +kernel) (by decide +kernel), by decide +kernel, by decide +kernel, by decide +kernel⟩
theorem mk_X1_100 : ML RX1 100 yX1_isNever 0 := ⟨mtb 559 (by decide +kernel) (by decide +kernel), mtb 6 (by decide +kernel) (by decide +kernel), by decide +kernel, by decide +kernel, by decide +kernel⟩
theorem mk_X1_104 : ML RX1 104 yX1_minutesNeeded 0 := ⟨mtb 560 (by decide +kernel) (by decide +kernel), mtb 6 (by decide +kernel) (by decide +kernel), by decide +kernel, by decide +kernel, by decide +kernel⟩
theorem mk_X2_30 : ML RX2 30 yX2_tellNothing 0 := ⟨mtb 60 (by decide +kernel) (by decide +kernel), mtb 3 (by decide +kernel) (by decide +kernel), by decide +kernel, by decide +kernel, by decide +kernel⟩
theorem mk_X3_30 : ML RX3 30 yX3_leftOf 2 := ⟨mtb 600 (by decide +kernel) (by decide +kernel), mtb 8 (by decide +kernel) (by decide +kernel), by decide +kernel, by decide +kernel, by decide +kernel⟩
theorem mk_X3_34 : ML RX3 34 yJ6_bitCount_0f7a4 1 := ⟨mtb 601 (by decide +kernel) (by decide +kernel), mtb 14 (by decide +kernel) (by decide +kernel), by decide +kernel, by decide +kernel, by decide +kernel⟩
theorem mk_X3_40 : ML RX3 40 yX3_withTrait 2 := ⟨mtb 602 (by decide +kernel) (by decide +kernel), mtb 8 (by decide +kernel) (by decide +kernel), by decide +kernel, by decide +kernel, by decide +kernel⟩
theorem mk_X3_49 : ML RX3 49 yX3_neededOf 1 := ⟨mtb 614 (by decide +kernel) (by decide +kernel), mtb 8 (by decide +kernel) (by decide +kernel), by decide +kernel, by decide +kernel, by decide +kernel⟩
theorem mk_X5_25 : ML RX5 25 yX7_copyOf 1 := ⟨mtb 465 (by decide +kernel) (by decide +kernel), mtb 4 (by decide +kernel) (by decide +kernel), by decide +kernel, by decide +kernel, by decide +kernel⟩
theorem mk_X6_22 : ML RX6 22 yX2_tellNothing 0 := ⟨mtb 348 (by decide +kernel) (by decide +kernel), mtb 3 (by decide +kernel) (by decide +kernel), by decide +kernel, by decide +kernel, by decide +kernel⟩
theorem mk_X6_40 : ML RX6 40 yX6_skipBlanks 0 := ⟨mtb 349 (by decide +kernel) (by decide +kernel), mtb 2 (by decide +kernel) (by decide +kernel), by decide +kernel, by decide +kernel, by decide +kernel⟩
theorem mk_X6_43 : ML RX6 43 yX6_readItem 1 := ⟨mtb 353 (by decide +kernel) (by decide +kernel), mtb 2 (by decide +kernel) (by decide +kernel), by decide +kernel, by decide +kernel, by decide +kernel⟩
theorem mk_X6_47 : ML RX6 47 yX6_readRoom 1 := ⟨mtb 357 (by decide +kernel) (by decide +kernel), mtb 2 (by decide +kernel) (by decide +kernel), by decide +kernel, by decide +kernel, by decide +kernel⟩
theorem mk_X6_50 : ML RX6 50 yX6_readEnd 0 := ⟨mtb 375 (by decide +kernel) (by decide +kernel), mtb 2 (by decide +kernel) (by decide +kernel), by decide +kernel, by decide +kernel, by decide +kernel⟩
theorem mk_X6_54 : ML RX6 54 yX6_readDoing 1 := ⟨mtb 379 (by decide +kernel) (by decide +kernel), mtb 2 (by decide +kernel) (by decide +kernel), by decide +kernel, by decide +kernel, by decide +kernel⟩
theorem mk_X6_57 : ML RX6 57 yX6_readSuspect 1 := ⟨mtb 383 (by decide +kernel) (by decide +kernel), mtb 2 (by decide +kernel) (by decide +kernel), by decide +kernel, by decide +kernel, by decide +kernel⟩
theorem mk_X6_60 : ML RX6 60 yX6_readCulprit 1 := ⟨mtb 387 (by decide +kernel) (by decide +kernel), mtb 2 (by decide +kernel) (by decide +kernel), by decide +kernel, by decide +kernel, by decide +kernel⟩
theorem mk_X6_63 : ML RX6 63 yX6_readWalk 1 := ⟨mtb 391 (by decide +kernel) (by decide +kernel), mtb 2 (by decide +kernel) (by decide +kernel), by decide +kernel, by decide +kernel, by decide +kernel⟩
theorem mk_X6_66 : ML RX6 66 yX6_readNight 1 := ⟨mtb 395 (by decide +kernel) (by decide +kernel), mtb 2 (by decide +kernel) (by decide +kernel), by decide +kernel, by decide +kernel, by decide +kernel⟩
theorem mk_X6_69 : ML RX6 69 yX6_failsAt 1 := ⟨mtb 361 (by decide +kernel) (by decide +kernel), mtb 2 (by decide +kernel) (by decide +kernel), by decide +kernel, by decide +kernel, by decide +kernel⟩
theorem mk_X6_79 : ML RX6 79 yX6_readNumber 2 := ⟨mtb 365 (by decide +kernel) (by decide +kernel), mtb 2 (by decide +kernel) (by decide +kernel), by decide +kernel, by decide +kernel, by decide +kernel⟩
theorem mk_X6_113 : ML RX6 113 yX6_isDigit 1 := ⟨mtb 369 (by decide +kernel) (by decide +kernel), mtb 2 (by decide +kernel) (by decide +kernel), by decide +kernel, by decide +kernel, by decide +kernel⟩
theorem mk_X7_43 : ML RX7 43 yJ7_fill_53178 2 := ⟨mtb 406 (by decide +kernel) (by decide +kernel), mtb 13 (by decide +kernel) (by decide +kernel), by decide +kernel, by decide +kernel, by decide +kernel⟩
theorem mk_X7_52 : ML RX7 52 yX7_isSolved 1 := ⟨mtb 446 (by decide +kernel) (by decide +kernel), mtb 4 (by decide +kernel) (by decide +kernel), by decide +kernel, by decide +kernel, by decide +kernel⟩
theorem mk_X7_62 : ML RX7 62 yX2_fullLoss 2 := ⟨mtb 478 (by decide +kernel) (by decide +kernel), mtb 3 (by decide +kernel) (by decide +kernel), by decide +kernel, by decide +kernel, by decide +kernel⟩
theorem mk_L_13 : ML RL 13 yX8_type 1 := ⟨mtb 328 (by decide +kernel) (by decide +kernel), mtb 1 (by decide +kernel) (by decide +kernel), by decide +kernel, by decide +kernel, by decide +kernel⟩
theorem mk_L_17 : ML RL 17 yX9_type 1 := ⟨mtb 791 (by decide +kernel) (by decide +kernel), mtb 10 (by decide +kernel) (by decide +kernel), by decide +kernel, by decide +kernel, by decide +kernel⟩
theorem mk_L_18 : ML RL 18 yX8_clear 0 := ⟨mtb 336 (by decide +kernel) (by decide +kernel), mtb 1 (by decide +kernel) (by decide +kernel), by decide +kernel, by decide +kernel, by decide +kernel⟩
theorem mk_L_22 : ML RL 22 yX9_clear 0 := ⟨mtb 798 (by decide +kernel) (by decide +kernel), mtb 10 (by decide +kernel) (by decide +kernel), by decide +kernel, by decide +kernel, by decide +kernel⟩
theorem mk_L_23 : ML RL 23 yX8_house 0 := ⟨mtb 340 (by decide +kernel) (by decide +kernel), mtb 1 (by decide +kernel) (by decide +kernel), by decide +kernel, by decide +kernel, by decide +kernel⟩
theorem mk_L_26 : ML RL 26 yX9_house 0 := ⟨mtb 802 (by decide +kernel) (by decide +kernel), mtb 10 (by decide +kernel) (by decide +kernel), by decide +kernel, by decide +kernel, by decide +kernel⟩
theorem mk_L_27 : ML RL 27 yX8_room 2 := ⟨mtb 413 (by decide +kernel) (by decide +kernel), mtb 1 (by decide +kernel) (by decide +kernel), by decide +kernel, by decide +kernel, by decide +kernel⟩
theorem mk_L_31 : ML RL 31 yX9_room 2 := ⟨mtb 840 (by decide +kernel) (by decide +kernel), mtb 10 (by decide +kernel) (by decide +kernel), by decide +kernel, by decide +kernel, by decide +kernel⟩
theorem mk_L_32 : ML RL 32 yX8_doing 2 := ⟨mtb 426 (by decide +kernel) (by decide +kernel), mtb 1 (by decide +kernel) (by decide +kernel), by decide +kernel, by decide +kernel, by decide +kernel⟩
theorem mk_L_35 : ML RL 35 yX9_doing 2 := ⟨mtb 853 (by decide +kernel) (by decide +kernel), mtb 10 (by decide +kernel) (by decide +kernel), by decide +kernel, by decide +kernel, by decide +kernel⟩
theorem mk_L_36 : ML RL 36 yX8_suspect 1 := ⟨mtb 434 (by decide +kernel) (by decide +kernel), mtb 1 (by decide +kernel) (by decide +kernel), by decide +kernel, by decide +kernel, by decide +kernel⟩
theorem mk_L_39 : ML RL 39 yX9_suspect 1 := ⟨mtb 861 (by decide +kernel) (by decide +kernel), mtb 10 (by decide +kernel) (by decide +kernel), by decide +kernel, by decide +kernel, by decide +kernel⟩
theorem mk_L_40 : ML RL 40 yX8_now 1 := ⟨mtb 438 (by decide +kernel) (by decide +kernel), mtb 1 (by decide +kernel) (by decide +kernel), by decide +kernel, by decide +kernel, by decide +kernel⟩
theorem mk_L_43 : ML RL 43 yX9_now 1 := ⟨mtb 865 (by decide +kernel) (by decide +kernel), mtb 10 (by decide +kernel) (by decide +kernel), by decide +kernel, by decide +kernel, by decide +kernel⟩
theorem mk_L_44 : ML RL 44 yX8_goes 1 := ⟨mtb 450 (by decide +kernel) (by decide +kernel), mtb 1 (by decide +kernel) (by decide +kernel), by decide +kernel, by decide +kernel, by decide +kernel⟩
theorem mk_L_47 : ML RL 47 yX9_goes 1 := ⟨mtb 877 (by decide +kernel) (by decide +kernel), mtb 10 (by decide +kernel) (by decide +kernel), by decide +kernel, by decide +kernel, by decide +kernel⟩
theorem mk_L_48 : ML RL 48 yX8_does 1 := ⟨mtb 470 (by decide +kernel) (by decide +kernel), mtb 1 (by decide +kernel) (by decide +kernel), by decide +kernel, by decide +kernel, by decide +kernel⟩
theorem mk_L_51 : ML RL 51 yX9_does 1 := ⟨mtb 893 (by decide +kernel) (by decide +kernel), mtb 10 (by decide +kernel) (by decide +kernel), by decide +kernel, by decide +kernel, by decide +kernel⟩
theorem mk_L_52 : ML RL 52 yX8_asks 1 := ⟨mtb 485 (by decide +kernel) (by decide +kernel), mtb 1 (by decide +kernel) (by decide +kernel), by decide +kernel, by decide +kernel, by decide +kernel⟩
theorem mk_L_55 : ML RL 55 yX9_asks 1 := ⟨mtb 901 (by decide +kernel) (by decide +kernel), mtb 10 (by decide +kernel) (by decide +kernel), by decide +kernel, by decide +kernel, by decide +kernel⟩
theorem mk_L_56 : ML RL 56 yX8_undo 0 := ⟨mtb 489 (by decide +kernel) (by decide +kernel), mtb 1 (by decide +kernel) (by decide +kernel), by decide +kernel, by decide +kernel, by decide +kernel⟩
theorem mk_L_59 : ML RL 59 yX9_undo 0 := ⟨mtb 905 (by decide +kernel) (by decide +kernel), mtb 10 (by decide +kernel) (by decide +kernel), by decide +kernel, by decide +kernel, by decide +kernel⟩
theorem mk_L_60 : ML RL 60 yX8_soonest 2 := ⟨mtb 497 (by decide +kernel) (by decide +kernel), mtb 1 (by decide +kernel) (by decide +kernel), by decide +kernel, by decide +kernel, by decide +kernel⟩
theorem mk_L_63 : ML RL 63 yX9_soonest 2 := ⟨mtb 909 (by decide +kernel) (by decide +kernel), mtb 10 (by decide +kernel) (by decide +kernel), by decide +kernel, by decide +kernel, by decide +kernel⟩
theorem mk_L_64 : ML RL 64 yX8_loved 0 := ⟨mtb 549 (by decide +kernel) (by decide +kernel), mtb 1 (by decide +kernel) (by decide +kernel), by decide +kernel, by decide +kernel, by decide +kernel⟩
theorem mk_L_67 : ML RL 67 yX9_loved 0 := ⟨mtb 926 (by decide +kernel) (by decide +kernel), mtb 10 (by decide +kernel) (by decide +kernel), by decide +kernel, by decide +kernel, by decide +kernel⟩
theorem mk_L_68 : ML RL 68 yX8_round 1 := ⟨mtb 561 (by decide +kernel) (by decide +kernel), mtb 1 (by decide +kernel) (by decide +kernel), by decide +kernel, by decide +kernel, by decide +kernel⟩
theorem mk_L_71 : ML RL 71 yX9_round 1 := ⟨mtb 930 (by decide +kernel) (by decide +kernel), mtb 10 (by decide +kernel) (by decide +kernel), by decide +kernel, by decide +kernel, by decide +kernel⟩
theorem mk_L_72 : ML RL 72 yX8_country 0 := ⟨mtb 579 (by decide +kernel) (by decide +kernel), mtb 1 (by decide +kernel) (by decide +kernel), by decide +kernel, by decide +kernel, by decide +kernel⟩
theorem mk_L_75 : ML RL 75 yX9_country 0 := ⟨mtb 942 (by decide +kernel) (by decide +kernel), mtb 10 (by decide +kernel) (by decide +kernel), by decide +kernel, by decide +kernel, by decide +kernel⟩
theorem mk_L_76 : ML RL 76 yX8_next 0 := ⟨mtb 593 (by decide +kernel) (by decide +kernel), mtb 1 (by decide +kernel) (by decide +kernel), by decide +kernel, by decide +kernel, by decide +kernel⟩
theorem mk_L_79 : ML RL 79 yX9_next 0 := ⟨mtb 949 (by decide +kernel) (by decide +kernel), mtb 10 (by decide +kernel) (by decide +kernel), by decide +kernel, by decide +kernel, by decide +kernel⟩
theorem mk_L_80 : ML RL 80 yX8_questions 0 := ⟨mtb 606 (by decide +kernel) (by decide +kernel), mtb 1 (by decide +kernel) (by decide +kernel), by decide +kernel, by decide +kernel, by decide +kernel⟩
theorem mk_L_83 : ML RL 83 yX9_questions 0 := ⟨mtb 957 (by decide +kernel) (by decide +kernel), mtb 10 (by decide +kernel) (by decide +kernel), by decide +kernel, by decide +kernel, by decide +kernel⟩
theorem mk_L_84 : ML RL 84 yX8_felt 2 := ⟨mtb 619 (by decide +kernel) (by decide +kernel), mtb 1 (by decide +kernel) (by decide +kernel), by decide +kernel, by decide +kernel, by decide +kernel⟩
theorem mk_L_87 : ML RL 87 yX9_felt 2 := ⟨mtb 961 (by decide +kernel) (by decide +kernel), mtb 10 (by decide +kernel) (by decide +kernel), by decide +kernel, by decide +kernel, by decide +kernel⟩
theorem mk_L_88 : ML RL 88 yX8_forget 0 := ⟨mtb 627 (by decide +kernel) (by decide +kernel), mtb 1 (by decide +kernel) (by decide +kernel), by decide +kernel, by decide +kernel, by decide +kernel⟩
theorem mk_L_91 : ML RL 91 yX9_forget 0 := ⟨mtb 965 (by decide +kernel) (by decide +kernel), mtb 10 (by decide +kernel) (by decide +kernel), by decide +kernel, by decide +kernel, by decide +kernel⟩
theorem mk_L_92 : ML RL 92 yX8_tempers 0 := ⟨mtb 631 (by decide +kernel) (by decide +kernel), mtb 1 (by decide +kernel) (by decide +kernel), by decide +kernel, by decide +kernel, by decide +kernel⟩
theorem mk_L_95 : ML RL 95 yX9_tempers 0 := ⟨mtb 969 (by decide +kernel) (by decide +kernel), mtb 10 (by decide +kernel) (by decide +kernel), by decide +kernel, by decide +kernel, by decide +kernel⟩
theorem mk_L_96 : ML RL 96 yX8_which 2 := ⟨mtb 639 (by decide +kernel) (by decide +kernel), mtb 1 (by decide +kernel) (by decide +kernel), by decide +kernel, by decide +kernel, by decide +kernel⟩
theorem mk_L_99 : ML RL 99 yX9_which 2 := ⟨mtb 973 (by decide +kernel) (by decide +kernel), mtb 10 (by decide +kernel) (by decide +kernel), by decide +kernel, by decide +kernel, by decide +kernel⟩
theorem mk_L_100 : ML RL 100 yX8_odds 5 := ⟨mtb 644 (by decide +kernel) (by decide +kernel), mtb 1 (by decide +kernel) (by decide +kernel), by decide +kernel, by decide +kernel, by decide +kernel⟩
theorem mk_L_104 : ML RL 104 yX9_odds 5 := ⟨mtb 977 (by decide +kernel) (by decide +kernel), mtb 10 (by decide +kernel) (by decide +kernel), by decide +kernel, by decide +kernel, by decide +kernel⟩
theorem mk_L_105 : ML RL 105 yX8_rate 2 := ⟨mtb 656 (by decide +kernel) (by decide +kernel), mtb 1 (by decide +kernel) (by decide +kernel), by decide +kernel, by decide +kernel, by decide +kernel⟩
theorem mk_L_108 : ML RL 108 yX9_rate 2 := ⟨mtb 987 (by decide +kernel) (by decide +kernel), mtb 10 (by decide +kernel) (by decide +kernel), by decide +kernel, by decide +kernel, by decide +kernel⟩
theorem mk_L_109 : ML RL 109 yX8_keep 1 := ⟨mtb 668 (by decide +kernel) (by decide +kernel), mtb 1 (by decide +kernel) (by decide +kernel), by decide +kernel, by decide +kernel, by decide +kernel⟩
theorem mk_L_112 : ML RL 112 yX9_keep 1 := ⟨mtb 996 (by decide +kernel) (by decide +kernel), mtb 10 (by decide +kernel) (by decide +kernel), by decide +kernel, by decide +kernel, by decide +kernel⟩
theorem mk_L_113 : ML RL 113 yX8_back 1 := ⟨mtb 673 (by decide +kernel) (by decide +kernel), mtb 1 (by decide +kernel) (by decide +kernel), by decide +kernel, by decide +kernel, by decide +kernel⟩
theorem mk_L_116 : ML RL 116 yX9_back 1 := ⟨mtb 1000 (by decide +kernel) (by decide +kernel), mtb 10 (by decide +kernel) (by decide +kernel), by decide +kernel, by decide +kernel, by decide +kernel⟩
theorem mk_L_117 : ML RL 117 yX8_count 1 := ⟨mtb 677 (by decide +kernel) (by decide +kernel), mtb 1 (by decide +kernel) (by decide +kernel), by decide +kernel, by decide +kernel, by decide +kernel⟩
theorem mk_L_120 : ML RL 120 yX9_count 1 := ⟨mtb 1004 (by decide +kernel) (by decide +kernel), mtb 10 (by decide +kernel) (by decide +kernel), by decide +kernel, by decide +kernel, by decide +kernel⟩
theorem mk_L_121 : ML RL 121 yX8_trace 0 := ⟨mtb 681 (by decide +kernel) (by decide +kernel), mtb 1 (by decide +kernel) (by decide +kernel), by decide +kernel, by decide +kernel, by decide +kernel⟩
theorem mk_L_125 : ML RL 125 yX9_trace 0 := ⟨mtb 1008 (by decide +kernel) (by decide +kernel), mtb 10 (by decide +kernel) (by decide +kernel), by decide +kernel, by decide +kernel, by decide +kernel⟩
theorem mk_X9_68 : ML RX9 68 yX9_begins 0 := ⟨mtb 691 (by decide +kernel) (by decide +kernel), mtb 10 (by decide +kernel) (by decide +kernel), by decide +kernel, by decide +kernel, by decide +kernel⟩
theorem mk_X9_71 : ML RX9 71 yX9_settles 0 := ⟨mtb 695 (by decide +kernel) (by decide +kernel), mtb 10 (by decide +kernel) (by decide +kernel), by decide +kernel, by decide +kernel, by decide +kernel⟩
theorem mk_X9_78 : ML RX9 78 yX9_in 3 := ⟨mtb 795 (by decide +kernel) (by decide +kernel), mtb 10 (by decide +kernel) (by decide +kernel), by decide +kernel, by decide +kernel, by decide +kernel⟩
theorem mk_X9_88 : ML RX9 88 yX9_letterAt 1 := ⟨mtb 810 (by decide +kernel) (by decide +kernel), mtb 10 (by decide +kernel) (by decide +kernel), by decide +kernel, by decide +kernel, by decide +kernel⟩
theorem mk_X9_101 : ML RX9 101 yX9_isLetter 1 := ⟨mtb 814 (by decide +kernel) (by decide +kernel), mtb 10 (by decide +kernel) (by decide +kernel), by decide +kernel, by decide +kernel, by decide +kernel⟩
theorem mk_X9_108 : ML RX9 108 yX9_isWell 0 := ⟨mtb 817 (by decide +kernel) (by decide +kernel), mtb 10 (by decide +kernel) (by decide +kernel), by decide +kernel, by decide +kernel, by decide +kernel⟩
theorem mk_X9_112 : ML RX9 112 yX9_advances 0 := ⟨mtb 806 (by decide +kernel) (by decide +kernel), mtb 10 (by decide +kernel) (by decide +kernel), by decide +kernel, by decide +kernel, by decide +kernel⟩
theorem mk_X9_115 : ML RX9 115 yX9_takes 1 := ⟨mtb 828 (by decide +kernel) (by decide +kernel), mtb 10 (by decide +kernel) (by decide +kernel), by decide +kernel, by decide +kernel, by decide +kernel⟩
theorem mk_X9_122 : ML RX9 122 yX9_bitOf 1 := ⟨mtb 825 (by decide +kernel) (by decide +kernel), mtb 10 (by decide +kernel) (by decide +kernel), by decide +kernel, by decide +kernel, by decide +kernel⟩
theorem mk_X9_125 : ML RX9 125 yX9_number 2 := ⟨mtb 836 (by decide +kernel) (by decide +kernel), mtb 10 (by decide +kernel) (by decide +kernel), by decide +kernel, by decide +kernel, by decide +kernel⟩
theorem mk_X9_129 : ML RX9 129 yX9_mayBegin 0 := ⟨mtb 821 (by decide +kernel) (by decide +kernel), mtb 10 (by decide +kernel) (by decide +kernel), by decide +kernel, by decide +kernel, by decide +kernel⟩
theorem mk_X9_132 : ML RX9 132 yX9_readsItem 1 := ⟨mtb 832 (by decide +kernel) (by decide +kernel), mtb 10 (by decide +kernel) (by decide +kernel), by decide +kernel, by decide +kernel, by decide +kernel⟩
theorem mk_X9_142 : ML RX9 142 yX9_isRoom 1 := ⟨mtb 844 (by decide +kernel) (by decide +kernel), mtb 10 (by decide +kernel) (by decide +kernel), by decide +kernel, by decide +kernel, by decide +kernel⟩
theorem mk_X9_146 : ML RX9 146 yX9_isSolved 1 := ⟨mtb 849 (by decide +kernel) (by decide +kernel), mtb 10 (by decide +kernel) (by decide +kernel), by decide +kernel, by decide +kernel, by decide +kernel⟩
theorem mk_X9_149 : ML RX9 149 yX9_isDoing 1 := ⟨mtb 857 (by decide +kernel) (by decide +kernel), mtb 10 (by decide +kernel) (by decide +kernel), by decide +kernel, by decide +kernel, by decide +kernel⟩
theorem mk_X9_152 : ML RX9 152 yX9_earned 0 := ⟨mtb 869 (by decide +kernel) (by decide +kernel), mtb 10 (by decide +kernel) (by decide +kernel), by decide +kernel, by decide +kernel, by decide +kernel⟩
theorem mk_X9_156 : ML RX9 156 yX9_left 0 := ⟨mtb 873 (by decide +kernel) (by decide +kernel), mtb 10 (by decide +kernel) (by decide +kernel), by decide +kernel, by decide +kernel, by decide +kernel⟩
theorem mk_X9_159 : ML RX9 159 yX9_walk 2 := ⟨mtb 881 (by decide +kernel) (by decide +kernel), mtb 10 (by decide +kernel) (by decide +kernel), by decide +kernel, by decide +kernel, by decide +kernel⟩
theorem mk_X9_162 : ML RX9 162 yX9_mayLast 1 := ⟨mtb 885 (by decide +kernel) (by decide +kernel), mtb 10 (by decide +kernel) (by decide +kernel), by decide +kernel, by decide +kernel, by decide +kernel⟩
theorem mk_X9_165 : ML RX9 165 yX9_notes 0 := ⟨mtb 889 (by decide +kernel) (by decide +kernel), mtb 10 (by decide +kernel) (by decide +kernel), by decide +kernel, by decide +kernel, by decide +kernel⟩
theorem mk_X9_168 : ML RX9 168 yX9_hurt 3 := ⟨mtb 897 (by decide +kernel) (by decide +kernel), mtb 10 (by decide +kernel) (by decide +kernel), by decide +kernel, by decide +kernel, by decide +kernel⟩
theorem mk_X9_173 : ML RX9 173 yX9_soonBy 4 := ⟨mtb 922 (by decide +kernel) (by decide +kernel), mtb 10 (by decide +kernel) (by decide +kernel), by decide +kernel, by decide +kernel, by decide +kernel⟩
theorem mk_X9_177 : ML RX9 177 yX9_measures 1 := ⟨mtb 917 (by decide +kernel) (by decide +kernel), mtb 10 (by decide +kernel) (by decide +kernel), by decide +kernel, by decide +kernel, by decide +kernel⟩
theorem mk_X9_180 : ML RX9 180 yX9_soonAt 1 := ⟨mtb 913 (by decide +kernel) (by decide +kernel), mtb 10 (by decide +kernel) (by decide +kernel), by decide +kernel, by decide +kernel, by decide +kernel⟩
theorem mk_X9_183 : ML RX9 183 yX9_gathers 0 := ⟨mtb 934 (by decide +kernel) (by decide +kernel), mtb 10 (by decide +kernel) (by decide +kernel), by decide +kernel, by decide +kernel, by decide +kernel⟩
theorem mk_X9_186 : ML RX9 186 yX9_rowOf 1 := ⟨mtb 938 (by decide +kernel) (by decide +kernel), mtb 10 (by decide +kernel) (by decide +kernel), by decide +kernel, by decide +kernel, by decide +kernel⟩
theorem mk_X9_189 : ML RX9 189 yX9_ones 1 := ⟨mtb 946 (by decide +kernel) (by decide +kernel), mtb 10 (by decide +kernel) (by decide +kernel), by decide +kernel, by decide +kernel, by decide +kernel⟩
theorem mk_X9_192 : ML RX9 192 yX9_having 2 := ⟨mtb 953 (by decide +kernel) (by decide +kernel), mtb 10 (by decide +kernel) (by decide +kernel), by decide +kernel, by decide +kernel, by decide +kernel⟩
theorem mk_X9_195 : ML RX9 195 yX9_power 2 := ⟨mtb 981 (by decide +kernel) (by decide +kernel), mtb 10 (by decide +kernel) (by decide +kernel), by decide +kernel, by decide +kernel, by decide +kernel⟩
theorem mk_X9_198 : ML RX9 198 yX9_gcd 2 := ⟨mtb 984 (by decide +kernel) (by decide +kernel), mtb 10 (by decide +kernel) (by decide +kernel), by decide +kernel, by decide +kernel, by decide +kernel⟩
theorem ck_J6_bitCount_0f7a4 : Cond.code yJ6_bitCount_0f7a4 cJ6_bitCount_0f7a4 1 (some .int) ∈ tw := mtb 585 (by decide +kernel) (by decide +kernel)
theorem sk_J6_bitCount_0f7a4 : Cond.static yJ6_bitCount_0f7a4 ∈ tw := mtb 584 (by decide +kernel) (by decide +kernel)
theorem ck_J7_fill_53178 : Cond.code yJ7_fill_53178 cJ7_fill_53178 4 none ∈ tw := mtb 408 (by decide +kernel) (by decide +kernel)
theorem sk_J7_fill_53178 : Cond.static yJ7_fill_53178 ∈ tw := mtb 407 (by decide +kernel) (by decide +kernel)
theorem ck_X0_extend : Cond.code yX0_extend cX0_extend 10 none ∈ tw := mtb 573 (by decide +kernel) (by decide +kernel)
theorem mv_X0_extend : MV 0 yX0_extend := ⟨mtb 572 (by decide +kernel) (by decide +kernel), mpr 15 (by decide +kernel) (by decide +kernel), TX0, 7, rfl⟩
theorem ck_X0_plan : Cond.code yX0_plan cX0_plan 4 none ∈ tw := mtb 568 (by decide +kernel) (by decide +kernel)
theorem mv_X0_plan : MV 0 yX0_plan := ⟨mtb 566 (by decide +kernel) (by decide +kernel), mtb 567 (by decide +kernel) (by decide +kernel), TX0, 7, rfl⟩
theorem ck_X0_weigh : Cond.code yX0_weigh cX0_weigh 4 none ∈ tw := mtb 578 (by decide +kernel) (by decide +kernel)
theorem mv_X0_weigh : MV 0 yX0_weigh := ⟨mtb 577 (by decide +kernel) (by decide +kernel), mpr 16 (by decide +kernel) (by decide +kernel), TX0, 7, rfl⟩
theorem ck_X1_cheapestBut : Cond.code yX1_cheapestBut cX1_cheapestBut 6 (some .int) ∈ tw := mtb 592 (by decide +kernel) (by decide +kernel)
theorem mv_X1_cheapestBut : MV 1 yX1_cheapestBut := ⟨mtb 590 (by decide +kernel) (by decide +kernel), mtb 591 (by decide +kernel) (by decide +kernel), TX1, 7, rfl⟩
theorem ck_X1_costNow : Cond.code yX1_costNow cX1_costNow 1 (some .int) ∈ tw := mtb 531 (by decide +kernel) (by decide +kernel)
theorem mv_X1_costNow : MV 1 yX1_costNow := ⟨mtb 530 (by decide +kernel) (by decide +kernel), mpr 13 (by decide +kernel) (by decide +kernel), TX1, 7, rfl⟩
theorem ck_X1_costThrough : Cond.code yX1_costThrough cX1_costThrough 6 (some .int) ∈ tw := mtb 522 (by decide +kernel) (by decide +kernel)
theorem mv_X1_costThrough : MV 1 yX1_costThrough := ⟨mtb 521 (by decide +kernel) (by decide +kernel), mpr 12 (by decide +kernel) (by decide +kernel), TX1, 7, rfl⟩
theorem ck_X1_doingAt : Cond.code yX1_doingAt cX1_doingAt 6 (some .int) ∈ tw := mtb 543 (by decide +kernel) (by decide +kernel)
theorem mv_X1_doingAt : MV 1 yX1_doingAt := ⟨mtb 541 (by decide +kernel) (by decide +kernel), mtb 542 (by decide +kernel) (by decide +kernel), TX1, 7, rfl⟩
theorem ck_X1_doingsNeeded : Cond.code yX1_doingsNeeded cX1_doingsNeeded 1 (some .int) ∈ tw := mtb 539 (by decide +kernel) (by decide +kernel)
theorem mv_X1_doingsNeeded : MV 1 yX1_doingsNeeded := ⟨mtb 537 (by decide +kernel) (by decide +kernel), mtb 538 (by decide +kernel) (by decide +kernel), TX1, 7, rfl⟩
theorem ck_X1_firstOfBest : Cond.code yX1_firstOfBest cX1_firstOfBest 4 (some .int) ∈ tw := mtb 548 (by decide +kernel) (by decide +kernel)
theorem mv_X1_firstOfBest : MV 1 yX1_firstOfBest := ⟨mtb 547 (by decide +kernel) (by decide +kernel), mpr 14 (by decide +kernel) (by decide +kernel), TX1, 7, rfl⟩
theorem ck_X1_indexOf : Cond.code yX1_indexOf cX1_indexOf 2 (some .int) ∈ tw := mtb 518 (by decide +kernel) (by decide +kernel)
theorem sk_X1_indexOf : Cond.static yX1_indexOf ∈ tw := mtb 517 (by decide +kernel) (by decide +kernel)
theorem ck_X1_isNever : Cond.code yX1_isNever cX1_isNever 1 (some .boolean) ∈ tw := mtb 527 (by decide +kernel) (by decide +kernel)
theorem mv_X1_isNever : MV 1 yX1_isNever := ⟨mtb 525 (by decide +kernel) (by decide +kernel), mtb 526 (by decide +kernel) (by decide +kernel), TX1, 7, rfl⟩
theorem ck_X1_minutesNeeded : Cond.code yX1_minutesNeeded cX1_minutesNeeded 1 (some .int) ∈ tw := mtb 535 (by decide +kernel) (by decide +kernel)
theorem mv_X1_minutesNeeded : MV 1 yX1_minutesNeeded := ⟨mtb 533 (by decide +kernel) (by decide +kernel), mtb 534 (by decide +kernel) (by decide +kernel), TX1, 7, rfl⟩
theorem ck_X1_solve : Cond.code yX1_solve cX1_solve 5 none ∈ tw := mtb 504 (by decide +kernel) (by decide +kernel)
theorem mv_X1_solve : MV 1 yX1_solve := ⟨mtb 502 (by decide +kernel) (by decide +kernel), mtb 503 (by decide +kernel) (by decide +kernel), TX1, 7, rfl⟩
theorem ck_X1_solveAll : Cond.code yX1_solveAll cX1_solveAll 4 none ∈ tw := mtb 556 (by decide +kernel) (by decide +kernel)
theorem mv_X1_solveAll : MV 1 yX1_solveAll := ⟨mtb 554 (by decide +kernel) (by decide +kernel), mtb 555 (by decide +kernel) (by decide +kernel), TX1, 7, rfl⟩
theorem ck_X1_solveLevel : Cond.code yX1_solveLevel cX1_solveLevel 5 none ∈ tw := mtb 515 (by decide +kernel) (by decide +kernel)
theorem mv_X1_solveLevel : MV 1 yX1_solveLevel := ⟨mtb 514 (by decide +kernel) (by decide +kernel), mpr 11 (by decide +kernel) (by decide +kernel), TX1, 7, rfl⟩
theorem ck_X2_fullLoss : Cond.code yX2_fullLoss cX2_fullLoss 3 (some .int) ∈ tw := mtb 481 (by decide +kernel) (by decide +kernel)
theorem mv_X2_fullLoss : MV 2 yX2_fullLoss := ⟨mtb 479 (by decide +kernel) (by decide +kernel), mtb 480 (by decide +kernel) (by decide +kernel), TX2, 12, rfl⟩
theorem ck_X2_hasDoing : Cond.code yX2_hasDoing cX2_hasDoing 2 (some .boolean) ∈ tw := mtb 433 (by decide +kernel) (by decide +kernel)
theorem mv_X2_hasDoing : MV 2 yX2_hasDoing := ⟨mtb 431 (by decide +kernel) (by decide +kernel), mtb 432 (by decide +kernel) (by decide +kernel), TX2, 12, rfl⟩
theorem ck_X2_hasRoom : Cond.code yX2_hasRoom cX2_hasRoom 2 (some .boolean) ∈ tw := mtb 420 (by decide +kernel) (by decide +kernel)
theorem mv_X2_hasRoom : MV 2 yX2_hasRoom := ⟨mtb 418 (by decide +kernel) (by decide +kernel), mtb 419 (by decide +kernel) (by decide +kernel), TX2, 12, rfl⟩
theorem ck_X2_tellNothing : Cond.code yX2_tellNothing cX2_tellNothing 1 none ∈ tw := mtb 63 (by decide +kernel) (by decide +kernel)
theorem mv_X2_tellNothing : MV 2 yX2_tellNothing := ⟨mtb 61 (by decide +kernel) (by decide +kernel), mtb 62 (by decide +kernel) (by decide +kernel), TX2, 12, rfl⟩
theorem ck_X2_walkBetween : Cond.code yX2_walkBetween cX2_walkBetween 3 (some .int) ∈ tw := mtb 457 (by decide +kernel) (by decide +kernel)
theorem mv_X2_walkBetween : MV 2 yX2_walkBetween := ⟨mtb 455 (by decide +kernel) (by decide +kernel), mtb 456 (by decide +kernel) (by decide +kernel), TX2, 12, rfl⟩
theorem ck_X3_bestTrait : Cond.code yX3_bestTrait cX3_bestTrait 9 (some .int) ∈ tw := mtb 599 (by decide +kernel) (by decide +kernel)
theorem sk_X3_bestTrait : Cond.static yX3_bestTrait ∈ tw := mtb 598 (by decide +kernel) (by decide +kernel)
theorem ck_X3_leftOf : Cond.code yX3_leftOf cX3_leftOf 5 (some .int) ∈ tw := mtb 449 (by decide +kernel) (by decide +kernel)
theorem sk_X3_leftOf : Cond.static yX3_leftOf ∈ tw := mtb 448 (by decide +kernel) (by decide +kernel)
theorem ck_X3_mostNeeded : Cond.code yX3_mostNeeded cX3_mostNeeded 4 (some .int) ∈ tw := mtb 613 (by decide +kernel) (by decide +kernel)
theorem mv_X3_mostNeeded : MV 3 yX3_mostNeeded := ⟨mtb 611 (by decide +kernel) (by decide +kernel), mtb 612 (by decide +kernel) (by decide +kernel), TX3, 2, rfl⟩
theorem ck_X3_neededOf : Cond.code yX3_neededOf cX3_neededOf 6 (some .int) ∈ tw := mtb 617 (by decide +kernel) (by decide +kernel)
theorem mv_X3_neededOf : MV 3 yX3_neededOf := ⟨mtb 616 (by decide +kernel) (by decide +kernel), mpr 17 (by decide +kernel) (by decide +kernel), TX3, 2, rfl⟩
theorem ck_X3_withTrait : Cond.code yX3_withTrait cX3_withTrait 4 (some .int) ∈ tw := mtb 604 (by decide +kernel) (by decide +kernel)
theorem sk_X3_withTrait : Cond.static yX3_withTrait ∈ tw := mtb 603 (by decide +kernel) (by decide +kernel)
theorem ck_X4_add : Cond.code yX4_add cX4_add 3 none ∈ tw := mtb 626 (by decide +kernel) (by decide +kernel)
theorem mv_X4_add : MV 4 yX4_add := ⟨mtb 624 (by decide +kernel) (by decide +kernel), mtb 625 (by decide +kernel) (by decide +kernel), TX4, 3, rfl⟩
theorem ck_X4_agreesWith : Cond.code yX4_agreesWith cX4_agreesWith 4 (some .boolean) ∈ tw := mtb 638 (by decide +kernel) (by decide +kernel)
theorem mv_X4_agreesWith : MV 4 yX4_agreesWith := ⟨mtb 636 (by decide +kernel) (by decide +kernel), mtb 637 (by decide +kernel) (by decide +kernel), TX4, 3, rfl⟩
theorem ck_X5_lose : Cond.code yX5_lose cX5_lose 1 none ∈ tw := mtb 412 (by decide +kernel) (by decide +kernel)
theorem mv_X5_lose : MV 5 yX5_lose := ⟨mtb 410 (by decide +kernel) (by decide +kernel), mtb 411 (by decide +kernel) (by decide +kernel), TX5, 3, rfl⟩
theorem ck_X5_remember : Cond.code yX5_remember cX5_remember 2 none ∈ tw := mtb 464 (by decide +kernel) (by decide +kernel)
theorem mv_X5_remember : MV 5 yX5_remember := ⟨mtb 462 (by decide +kernel) (by decide +kernel), mtb 463 (by decide +kernel) (by decide +kernel), TX5, 3, rfl⟩
theorem ck_X5_restore : Cond.code yX5_restore cX5_restore 2 none ∈ tw := mtb 496 (by decide +kernel) (by decide +kernel)
theorem mv_X5_restore : MV 5 yX5_restore := ⟨mtb 494 (by decide +kernel) (by decide +kernel), mtb 495 (by decide +kernel) (by decide +kernel), TX5, 3, rfl⟩
theorem ck_X6_add : Cond.code yX6_add cX6_add 2 none ∈ tw := mtb 335 (by decide +kernel) (by decide +kernel)
theorem mv_X6_add : MV 6 yX6_add := ⟨mtb 333 (by decide +kernel) (by decide +kernel), mtb 334 (by decide +kernel) (by decide +kernel), TX6, 7, rfl⟩
theorem ck_X6_failsAt : Cond.code yX6_failsAt cX6_failsAt 2 (some .boolean) ∈ tw := mtb 364 (by decide +kernel) (by decide +kernel)
theorem mv_X6_failsAt : MV 6 yX6_failsAt := ⟨mtb 363 (by decide +kernel) (by decide +kernel), mpr 3 (by decide +kernel) (by decide +kernel), TX6, 7, rfl⟩
theorem ck_X6_isDigit : Cond.code yX6_isDigit cX6_isDigit 1 (some .boolean) ∈ tw := mtb 371 (by decide +kernel) (by decide +kernel)
theorem sk_X6_isDigit : Cond.static yX6_isDigit ∈ tw := mtb 370 (by decide +kernel) (by decide +kernel)
theorem ck_X6_readCulprit : Cond.code yX6_readCulprit cX6_readCulprit 2 (some .boolean) ∈ tw := mtb 390 (by decide +kernel) (by decide +kernel)
theorem mv_X6_readCulprit : MV 6 yX6_readCulprit := ⟨mtb 389 (by decide +kernel) (by decide +kernel), mpr 8 (by decide +kernel) (by decide +kernel), TX6, 7, rfl⟩
theorem ck_X6_readDoing : Cond.code yX6_readDoing cX6_readDoing 3 (some .boolean) ∈ tw := mtb 382 (by decide +kernel) (by decide +kernel)
theorem mv_X6_readDoing : MV 6 yX6_readDoing := ⟨mtb 381 (by decide +kernel) (by decide +kernel), mpr 6 (by decide +kernel) (by decide +kernel), TX6, 7, rfl⟩
theorem ck_X6_readEnd : Cond.code yX6_readEnd cX6_readEnd 1 (some .boolean) ∈ tw := mtb 378 (by decide +kernel) (by decide +kernel)
theorem mv_X6_readEnd : MV 6 yX6_readEnd := ⟨mtb 377 (by decide +kernel) (by decide +kernel), mpr 5 (by decide +kernel) (by decide +kernel), TX6, 7, rfl⟩
theorem ck_X6_readInto : Cond.code yX6_readInto cX6_readInto 4 (some .int) ∈ tw := mtb 347 (by decide +kernel) (by decide +kernel)
theorem mv_X6_readInto : MV 6 yX6_readInto := ⟨mtb 345 (by decide +kernel) (by decide +kernel), mtb 346 (by decide +kernel) (by decide +kernel), TX6, 7, rfl⟩
theorem ck_X6_readItem : Cond.code yX6_readItem cX6_readItem 2 (some .boolean) ∈ tw := mtb 356 (by decide +kernel) (by decide +kernel)
theorem mv_X6_readItem : MV 6 yX6_readItem := ⟨mtb 355 (by decide +kernel) (by decide +kernel), mpr 1 (by decide +kernel) (by decide +kernel), TX6, 7, rfl⟩
theorem ck_X6_readNight : Cond.code yX6_readNight cX6_readNight 2 (some .boolean) ∈ tw := mtb 398 (by decide +kernel) (by decide +kernel)
theorem mv_X6_readNight : MV 6 yX6_readNight := ⟨mtb 397 (by decide +kernel) (by decide +kernel), mpr 10 (by decide +kernel) (by decide +kernel), TX6, 7, rfl⟩
theorem ck_X6_readNumber : Cond.code yX6_readNumber cX6_readNumber 6 (some .int) ∈ tw := mtb 368 (by decide +kernel) (by decide +kernel)
theorem mv_X6_readNumber : MV 6 yX6_readNumber := ⟨mtb 367 (by decide +kernel) (by decide +kernel), mpr 4 (by decide +kernel) (by decide +kernel), TX6, 7, rfl⟩
theorem ck_X6_readRoom : Cond.code yX6_readRoom cX6_readRoom 3 (some .boolean) ∈ tw := mtb 360 (by decide +kernel) (by decide +kernel)
theorem mv_X6_readRoom : MV 6 yX6_readRoom := ⟨mtb 359 (by decide +kernel) (by decide +kernel), mpr 2 (by decide +kernel) (by decide +kernel), TX6, 7, rfl⟩
theorem ck_X6_readSuspect : Cond.code yX6_readSuspect cX6_readSuspect 3 (some .boolean) ∈ tw := mtb 386 (by decide +kernel) (by decide +kernel)
theorem mv_X6_readSuspect : MV 6 yX6_readSuspect := ⟨mtb 385 (by decide +kernel) (by decide +kernel), mpr 7 (by decide +kernel) (by decide +kernel), TX6, 7, rfl⟩
theorem ck_X6_readWalk : Cond.code yX6_readWalk cX6_readWalk 2 (some .boolean) ∈ tw := mtb 394 (by decide +kernel) (by decide +kernel)
theorem mv_X6_readWalk : MV 6 yX6_readWalk := ⟨mtb 393 (by decide +kernel) (by decide +kernel), mpr 9 (by decide +kernel) (by decide +kernel), TX6, 7, rfl⟩
theorem ck_X6_skipBlanks : Cond.code yX6_skipBlanks cX6_skipBlanks 2 none ∈ tw := mtb 352 (by decide +kernel) (by decide +kernel)
theorem mv_X6_skipBlanks : MV 6 yX6_skipBlanks := ⟨mtb 351 (by decide +kernel) (by decide +kernel), mpr 0 (by decide +kernel) (by decide +kernel), TX6, 7, rfl⟩
theorem ck_X7_beginIn : Cond.code yX7_beginIn cX7_beginIn 2 none ∈ tw := mtb 402 (by decide +kernel) (by decide +kernel)
theorem mv_X7_beginIn : MV 7 yX7_beginIn := ⟨mtb 400 (by decide +kernel) (by decide +kernel), mtb 401 (by decide +kernel) (by decide +kernel), TX7, 7, rfl⟩
theorem ck_X7_copyOf : Cond.code yX7_copyOf cX7_copyOf 2 none ∈ tw := mtb 468 (by decide +kernel) (by decide +kernel)
theorem mv_X7_copyOf : MV 7 yX7_copyOf := ⟨mtb 466 (by decide +kernel) (by decide +kernel), mtb 467 (by decide +kernel) (by decide +kernel), TX7, 7, rfl⟩
theorem ck_X7_earnedIn : Cond.code yX7_earnedIn cX7_earnedIn 4 (some .int) ∈ tw := mtb 445 (by decide +kernel) (by decide +kernel)
theorem mv_X7_earnedIn : MV 7 yX7_earnedIn := ⟨mtb 443 (by decide +kernel) (by decide +kernel), mtb 444 (by decide +kernel) (by decide +kernel), TX7, 7, rfl⟩
theorem ck_X7_isSolved : Cond.code yX7_isSolved cX7_isSolved 2 (some .boolean) ∈ tw := mtb 425 (by decide +kernel) (by decide +kernel)
theorem mv_X7_isSolved : MV 7 yX7_isSolved := ⟨mtb 423 (by decide +kernel) (by decide +kernel), mtb 424 (by decide +kernel) (by decide +kernel), TX7, 7, rfl⟩
theorem ck_X7_takeDoing : Cond.code yX7_takeDoing cX7_takeDoing 4 none ∈ tw := mtb 477 (by decide +kernel) (by decide +kernel)
theorem mv_X7_takeDoing : MV 7 yX7_takeDoing := ⟨mtb 475 (by decide +kernel) (by decide +kernel), mtb 476 (by decide +kernel) (by decide +kernel), TX7, 7, rfl⟩
theorem ck_X8_asks : Cond.code yX8_asks cX8_asks 3 (some .int) ∈ tw := mtb 488 (by decide +kernel) (by decide +kernel)
theorem mv_X8_asks : MV 8 yX8_asks := ⟨mtb 486 (by decide +kernel) (by decide +kernel), mtb 487 (by decide +kernel) (by decide +kernel), TX8, 13, rfl⟩
theorem ck_X8_back : Cond.code yX8_back cX8_back 2 (some .int) ∈ tw := mtb 676 (by decide +kernel) (by decide +kernel)
theorem mv_X8_back : MV 8 yX8_back := ⟨mtb 674 (by decide +kernel) (by decide +kernel), mtb 675 (by decide +kernel) (by decide +kernel), TX8, 13, rfl⟩
theorem ck_X8_clear : Cond.code yX8_clear cX8_clear 2 (some .int) ∈ tw := mtb 339 (by decide +kernel) (by decide +kernel)
theorem mv_X8_clear : MV 8 yX8_clear := ⟨mtb 337 (by decide +kernel) (by decide +kernel), mtb 338 (by decide +kernel) (by decide +kernel), TX8, 13, rfl⟩
theorem ck_X8_commonDivisor : Cond.code yX8_commonDivisor cX8_commonDivisor 6 (some .int) ∈ tw := mtb 655 (by decide +kernel) (by decide +kernel)
theorem sk_X8_commonDivisor : Cond.static yX8_commonDivisor ∈ tw := mtb 654 (by decide +kernel) (by decide +kernel)
theorem ck_X8_count : Cond.code yX8_count cX8_count 2 (some .int) ∈ tw := mtb 680 (by decide +kernel) (by decide +kernel)
theorem mv_X8_count : MV 8 yX8_count := ⟨mtb 678 (by decide +kernel) (by decide +kernel), mtb 679 (by decide +kernel) (by decide +kernel), TX8, 13, rfl⟩
theorem ck_X8_countChances : Cond.code yX8_countChances cX8_countChances 6 (some .int) ∈ tw := mtb 651 (by decide +kernel) (by decide +kernel)
theorem mv_X8_countChances : MV 8 yX8_countChances := ⟨mtb 650 (by decide +kernel) (by decide +kernel), mpr 18 (by decide +kernel) (by decide +kernel), TX8, 13, rfl⟩
theorem ck_X8_country : Cond.code yX8_country cX8_country 6 (some .int) ∈ tw := mtb 582 (by decide +kernel) (by decide +kernel)
theorem mv_X8_country : MV 8 yX8_country := ⟨mtb 580 (by decide +kernel) (by decide +kernel), mtb 581 (by decide +kernel) (by decide +kernel), TX8, 13, rfl⟩
theorem ck_X8_does : Cond.code yX8_does cX8_does 3 (some .int) ∈ tw := mtb 473 (by decide +kernel) (by decide +kernel)
theorem mv_X8_does : MV 8 yX8_does := ⟨mtb 471 (by decide +kernel) (by decide +kernel), mtb 472 (by decide +kernel) (by decide +kernel), TX8, 13, rfl⟩
theorem ck_X8_doing : Cond.code yX8_doing cX8_doing 3 (some .int) ∈ tw := mtb 429 (by decide +kernel) (by decide +kernel)
theorem mv_X8_doing : MV 8 yX8_doing := ⟨mtb 427 (by decide +kernel) (by decide +kernel), mtb 428 (by decide +kernel) (by decide +kernel), TX8, 13, rfl⟩
theorem ck_X8_felt : Cond.code yX8_felt cX8_felt 3 (some .int) ∈ tw := mtb 622 (by decide +kernel) (by decide +kernel)
theorem mv_X8_felt : MV 8 yX8_felt := ⟨mtb 620 (by decide +kernel) (by decide +kernel), mtb 621 (by decide +kernel) (by decide +kernel), TX8, 13, rfl⟩
theorem ck_X8_forget : Cond.code yX8_forget cX8_forget 2 (some .int) ∈ tw := mtb 630 (by decide +kernel) (by decide +kernel)
theorem mv_X8_forget : MV 8 yX8_forget := ⟨mtb 628 (by decide +kernel) (by decide +kernel), mtb 629 (by decide +kernel) (by decide +kernel), TX8, 13, rfl⟩
theorem ck_X8_goes : Cond.code yX8_goes cX8_goes 3 (some .int) ∈ tw := mtb 453 (by decide +kernel) (by decide +kernel)
theorem mv_X8_goes : MV 8 yX8_goes := ⟨mtb 451 (by decide +kernel) (by decide +kernel), mtb 452 (by decide +kernel) (by decide +kernel), TX8, 13, rfl⟩
theorem ck_X8_house : Cond.code yX8_house cX8_house 3 (some .int) ∈ tw := mtb 343 (by decide +kernel) (by decide +kernel)
theorem mv_X8_house : MV 8 yX8_house := ⟨mtb 341 (by decide +kernel) (by decide +kernel), mtb 342 (by decide +kernel) (by decide +kernel), TX8, 13, rfl⟩
theorem ck_X8_keep : Cond.code yX8_keep cX8_keep 2 (some .int) ∈ tw := mtb 671 (by decide +kernel) (by decide +kernel)
theorem mv_X8_keep : MV 8 yX8_keep := ⟨mtb 669 (by decide +kernel) (by decide +kernel), mtb 670 (by decide +kernel) (by decide +kernel), TX8, 13, rfl⟩
theorem ck_X8_lossOf : Cond.code yX8_lossOf cX8_lossOf 2 (some .int) ∈ tw := mtb 484 (by decide +kernel) (by decide +kernel)
theorem sk_X8_lossOf : Cond.static yX8_lossOf ∈ tw := mtb 483 (by decide +kernel) (by decide +kernel)
theorem ck_X8_loved : Cond.code yX8_loved cX8_loved 3 (some .int) ∈ tw := mtb 552 (by decide +kernel) (by decide +kernel)
theorem mv_X8_loved : MV 8 yX8_loved := ⟨mtb 550 (by decide +kernel) (by decide +kernel), mtb 551 (by decide +kernel) (by decide +kernel), TX8, 13, rfl⟩
theorem ck_X8_next : Cond.code yX8_next cX8_next 1 (some .int) ∈ tw := mtb 596 (by decide +kernel) (by decide +kernel)
theorem mv_X8_next : MV 8 yX8_next := ⟨mtb 594 (by decide +kernel) (by decide +kernel), mtb 595 (by decide +kernel) (by decide +kernel), TX8, 13, rfl⟩
theorem ck_X8_now : Cond.code yX8_now cX8_now 2 (some .int) ∈ tw := mtb 441 (by decide +kernel) (by decide +kernel)
theorem mv_X8_now : MV 8 yX8_now := ⟨mtb 439 (by decide +kernel) (by decide +kernel), mtb 440 (by decide +kernel) (by decide +kernel), TX8, 13, rfl⟩
theorem ck_X8_odds : Cond.code yX8_odds cX8_odds 9 (some .int) ∈ tw := mtb 647 (by decide +kernel) (by decide +kernel)
theorem mv_X8_odds : MV 8 yX8_odds := ⟨mtb 645 (by decide +kernel) (by decide +kernel), mtb 646 (by decide +kernel) (by decide +kernel), TX8, 13, rfl⟩
theorem ck_X8_questions : Cond.code yX8_questions cX8_questions 1 (some .int) ∈ tw := mtb 609 (by decide +kernel) (by decide +kernel)
theorem mv_X8_questions : MV 8 yX8_questions := ⟨mtb 607 (by decide +kernel) (by decide +kernel), mtb 608 (by decide +kernel) (by decide +kernel), TX8, 13, rfl⟩
theorem ck_X8_rate : Cond.code yX8_rate cX8_rate 3 (some .int) ∈ tw := mtb 659 (by decide +kernel) (by decide +kernel)
theorem mv_X8_rate : MV 8 yX8_rate := ⟨mtb 657 (by decide +kernel) (by decide +kernel), mtb 658 (by decide +kernel) (by decide +kernel), TX8, 13, rfl⟩
theorem ck_X8_rateAs : Cond.code yX8_rateAs cX8_rateAs 4 (some .int) ∈ tw := mtb 663 (by decide +kernel) (by decide +kernel)
theorem mv_X8_rateAs : MV 8 yX8_rateAs := ⟨mtb 662 (by decide +kernel) (by decide +kernel), mpr 19 (by decide +kernel) (by decide +kernel), TX8, 13, rfl⟩
theorem ck_X8_room : Cond.code yX8_room cX8_room 3 (some .int) ∈ tw := mtb 416 (by decide +kernel) (by decide +kernel)
theorem mv_X8_room : MV 8 yX8_room := ⟨mtb 414 (by decide +kernel) (by decide +kernel), mtb 415 (by decide +kernel) (by decide +kernel), TX8, 13, rfl⟩
theorem ck_X8_round : Cond.code yX8_round cX8_round 2 (some .int) ∈ tw := mtb 564 (by decide +kernel) (by decide +kernel)
theorem mv_X8_round : MV 8 yX8_round := ⟨mtb 562 (by decide +kernel) (by decide +kernel), mtb 563 (by decide +kernel) (by decide +kernel), TX8, 13, rfl⟩
theorem ck_X8_soonest : Cond.code yX8_soonest cX8_soonest 3 (some .int) ∈ tw := mtb 500 (by decide +kernel) (by decide +kernel)
theorem mv_X8_soonest : MV 8 yX8_soonest := ⟨mtb 498 (by decide +kernel) (by decide +kernel), mtb 499 (by decide +kernel) (by decide +kernel), TX8, 13, rfl⟩
theorem ck_X8_suspect : Cond.code yX8_suspect cX8_suspect 2 (some .int) ∈ tw := mtb 437 (by decide +kernel) (by decide +kernel)
theorem mv_X8_suspect : MV 8 yX8_suspect := ⟨mtb 435 (by decide +kernel) (by decide +kernel), mtb 436 (by decide +kernel) (by decide +kernel), TX8, 13, rfl⟩
theorem ck_X8_tempers : Cond.code yX8_tempers cX8_tempers 3 (some .int) ∈ tw := mtb 634 (by decide +kernel) (by decide +kernel)
theorem mv_X8_tempers : MV 8 yX8_tempers := ⟨mtb 632 (by decide +kernel) (by decide +kernel), mtb 633 (by decide +kernel) (by decide +kernel), TX8, 13, rfl⟩
theorem ck_X8_trace : Cond.code yX8_trace cX8_trace 1 (some .long) ∈ tw := mtb 684 (by decide +kernel) (by decide +kernel)
theorem mv_X8_trace : MV 8 yX8_trace := ⟨mtb 682 (by decide +kernel) (by decide +kernel), mtb 683 (by decide +kernel) (by decide +kernel), TX8, 13, rfl⟩
theorem ck_X8_type : Cond.code yX8_type cX8_type 2 (some .int) ∈ tw := mtb 331 (by decide +kernel) (by decide +kernel)
theorem mv_X8_type : MV 8 yX8_type := ⟨mtb 329 (by decide +kernel) (by decide +kernel), mtb 330 (by decide +kernel) (by decide +kernel), TX8, 13, rfl⟩
theorem ck_X8_undo : Cond.code yX8_undo cX8_undo 1 (some .int) ∈ tw := mtb 492 (by decide +kernel) (by decide +kernel)
theorem mv_X8_undo : MV 8 yX8_undo := ⟨mtb 490 (by decide +kernel) (by decide +kernel), mtb 491 (by decide +kernel) (by decide +kernel), TX8, 13, rfl⟩
theorem ck_X8_which : Cond.code yX8_which cX8_which 5 (some .int) ∈ tw := mtb 642 (by decide +kernel) (by decide +kernel)
theorem mv_X8_which : MV 8 yX8_which := ⟨mtb 640 (by decide +kernel) (by decide +kernel), mtb 641 (by decide +kernel) (by decide +kernel), TX8, 13, rfl⟩
theorem ck_X9_advances : Cond.code yX9_advances cX9_advances 2 none ∈ tw := mtb 809 (by decide +kernel) (by decide +kernel)
theorem mv_X9_advances : MV 9 yX9_advances := ⟨mtb 808 (by decide +kernel) (by decide +kernel), mpr 22 (by decide +kernel) (by decide +kernel), TX9, 30, rfl⟩
theorem ck_X9_asks : Cond.code yX9_asks cX9_asks 2 (some .int) ∈ tw := mtb 904 (by decide +kernel) (by decide +kernel)
theorem mv_X9_asks : MV 9 yX9_asks := ⟨mtb 902 (by decide +kernel) (by decide +kernel), mtb 903 (by decide +kernel) (by decide +kernel), TX9, 30, rfl⟩
theorem ck_X9_back : Cond.code yX9_back cX9_back 3 (some .int) ∈ tw := mtb 1003 (by decide +kernel) (by decide +kernel)
theorem mv_X9_back : MV 9 yX9_back := ⟨mtb 1001 (by decide +kernel) (by decide +kernel), mtb 1002 (by decide +kernel) (by decide +kernel), TX9, 30, rfl⟩
theorem ck_X9_begins : Cond.code yX9_begins cX9_begins 1 none ∈ tw := mtb 694 (by decide +kernel) (by decide +kernel)
theorem mv_X9_begins : MV 9 yX9_begins := ⟨mtb 693 (by decide +kernel) (by decide +kernel), mpr 20 (by decide +kernel) (by decide +kernel), TX9, 30, rfl⟩
theorem ck_X9_bitOf : Cond.code yX9_bitOf cX9_bitOf 1 (some .int) ∈ tw := mtb 827 (by decide +kernel) (by decide +kernel)
theorem sk_X9_bitOf : Cond.static yX9_bitOf ∈ tw := mtb 826 (by decide +kernel) (by decide +kernel)
theorem ck_X9_clear : Cond.code yX9_clear cX9_clear 2 (some .int) ∈ tw := mtb 801 (by decide +kernel) (by decide +kernel)
theorem mv_X9_clear : MV 9 yX9_clear := ⟨mtb 799 (by decide +kernel) (by decide +kernel), mtb 800 (by decide +kernel) (by decide +kernel), TX9, 30, rfl⟩
theorem ck_X9_count : Cond.code yX9_count cX9_count 2 (some .int) ∈ tw := mtb 1007 (by decide +kernel) (by decide +kernel)
theorem mv_X9_count : MV 9 yX9_count := ⟨mtb 1005 (by decide +kernel) (by decide +kernel), mtb 1006 (by decide +kernel) (by decide +kernel), TX9, 30, rfl⟩
theorem ck_X9_country : Cond.code yX9_country cX9_country 6 (some .int) ∈ tw := mtb 945 (by decide +kernel) (by decide +kernel)
theorem mv_X9_country : MV 9 yX9_country := ⟨mtb 943 (by decide +kernel) (by decide +kernel), mtb 944 (by decide +kernel) (by decide +kernel), TX9, 30, rfl⟩
theorem ck_X9_does : Cond.code yX9_does cX9_does 3 (some .int) ∈ tw := mtb 896 (by decide +kernel) (by decide +kernel)
theorem mv_X9_does : MV 9 yX9_does := ⟨mtb 894 (by decide +kernel) (by decide +kernel), mtb 895 (by decide +kernel) (by decide +kernel), TX9, 30, rfl⟩
theorem ck_X9_doing : Cond.code yX9_doing cX9_doing 3 (some .int) ∈ tw := mtb 856 (by decide +kernel) (by decide +kernel)
theorem mv_X9_doing : MV 9 yX9_doing := ⟨mtb 854 (by decide +kernel) (by decide +kernel), mtb 855 (by decide +kernel) (by decide +kernel), TX9, 30, rfl⟩
theorem ck_X9_earned : Cond.code yX9_earned cX9_earned 3 (some .int) ∈ tw := mtb 872 (by decide +kernel) (by decide +kernel)
theorem mv_X9_earned : MV 9 yX9_earned := ⟨mtb 871 (by decide +kernel) (by decide +kernel), mpr 32 (by decide +kernel) (by decide +kernel), TX9, 30, rfl⟩
theorem ck_X9_felt : Cond.code yX9_felt cX9_felt 3 (some .int) ∈ tw := mtb 964 (by decide +kernel) (by decide +kernel)
theorem mv_X9_felt : MV 9 yX9_felt := ⟨mtb 962 (by decide +kernel) (by decide +kernel), mtb 963 (by decide +kernel) (by decide +kernel), TX9, 30, rfl⟩
theorem ck_X9_forget : Cond.code yX9_forget cX9_forget 2 (some .int) ∈ tw := mtb 968 (by decide +kernel) (by decide +kernel)
theorem mv_X9_forget : MV 9 yX9_forget := ⟨mtb 966 (by decide +kernel) (by decide +kernel), mtb 967 (by decide +kernel) (by decide +kernel), TX9, 30, rfl⟩
theorem ck_X9_gathers : Cond.code yX9_gathers cX9_gathers 3 none ∈ tw := mtb 937 (by decide +kernel) (by decide +kernel)
theorem mv_X9_gathers : MV 9 yX9_gathers := ⟨mtb 936 (by decide +kernel) (by decide +kernel), mpr 41 (by decide +kernel) (by decide +kernel), TX9, 30, rfl⟩
theorem ck_X9_gcd : Cond.code yX9_gcd cX9_gcd 5 (some .int) ∈ tw := mtb 986 (by decide +kernel) (by decide +kernel)
theorem sk_X9_gcd : Cond.static yX9_gcd ∈ tw := mtb 985 (by decide +kernel) (by decide +kernel)
theorem ck_X9_goes : Cond.code yX9_goes cX9_goes 3 (some .int) ∈ tw := mtb 880 (by decide +kernel) (by decide +kernel)
theorem mv_X9_goes : MV 9 yX9_goes := ⟨mtb 878 (by decide +kernel) (by decide +kernel), mtb 879 (by decide +kernel) (by decide +kernel), TX9, 30, rfl⟩
theorem ck_X9_having : Cond.code yX9_having cX9_having 5 (some .int) ∈ tw := mtb 956 (by decide +kernel) (by decide +kernel)
theorem mv_X9_having : MV 9 yX9_having := ⟨mtb 955 (by decide +kernel) (by decide +kernel), mpr 43 (by decide +kernel) (by decide +kernel), TX9, 30, rfl⟩
theorem ck_X9_house : Cond.code yX9_house cX9_house 3 (some .int) ∈ tw := mtb 805 (by decide +kernel) (by decide +kernel)
theorem mv_X9_house : MV 9 yX9_house := ⟨mtb 803 (by decide +kernel) (by decide +kernel), mtb 804 (by decide +kernel) (by decide +kernel), TX9, 30, rfl⟩
theorem ck_X9_hurt : Cond.code yX9_hurt cX9_hurt 5 (some .int) ∈ tw := mtb 900 (by decide +kernel) (by decide +kernel)
theorem mv_X9_hurt : MV 9 yX9_hurt := ⟨mtb 899 (by decide +kernel) (by decide +kernel), mpr 37 (by decide +kernel) (by decide +kernel), TX9, 30, rfl⟩
theorem ck_X9_in : Cond.code yX9_in cX9_in 3 (some .boolean) ∈ tw := mtb 797 (by decide +kernel) (by decide +kernel)
theorem sk_X9_in : Cond.static yX9_in ∈ tw := mtb 796 (by decide +kernel) (by decide +kernel)
theorem ck_X9_isDoing : Cond.code yX9_isDoing cX9_isDoing 2 (some .boolean) ∈ tw := mtb 860 (by decide +kernel) (by decide +kernel)
theorem mv_X9_isDoing : MV 9 yX9_isDoing := ⟨mtb 859 (by decide +kernel) (by decide +kernel), mpr 31 (by decide +kernel) (by decide +kernel), TX9, 30, rfl⟩
theorem ck_X9_isLetter : Cond.code yX9_isLetter cX9_isLetter 1 (some .boolean) ∈ tw := mtb 816 (by decide +kernel) (by decide +kernel)
theorem sk_X9_isLetter : Cond.static yX9_isLetter ∈ tw := mtb 815 (by decide +kernel) (by decide +kernel)
theorem ck_X9_isRoom : Cond.code yX9_isRoom cX9_isRoom 2 (some .boolean) ∈ tw := mtb 847 (by decide +kernel) (by decide +kernel)
theorem mv_X9_isRoom : MV 9 yX9_isRoom := ⟨mtb 846 (by decide +kernel) (by decide +kernel), mpr 29 (by decide +kernel) (by decide +kernel), TX9, 30, rfl⟩
theorem ck_X9_isSolved : Cond.code yX9_isSolved cX9_isSolved 2 (some .boolean) ∈ tw := mtb 852 (by decide +kernel) (by decide +kernel)
theorem mv_X9_isSolved : MV 9 yX9_isSolved := ⟨mtb 851 (by decide +kernel) (by decide +kernel), mpr 30 (by decide +kernel) (by decide +kernel), TX9, 30, rfl⟩
theorem ck_X9_isWell : Cond.code yX9_isWell cX9_isWell 1 (some .boolean) ∈ tw := mtb 820 (by decide +kernel) (by decide +kernel)
theorem mv_X9_isWell : MV 9 yX9_isWell := ⟨mtb 819 (by decide +kernel) (by decide +kernel), mpr 24 (by decide +kernel) (by decide +kernel), TX9, 30, rfl⟩
theorem ck_X9_keep : Cond.code yX9_keep cX9_keep 3 (some .int) ∈ tw := mtb 999 (by decide +kernel) (by decide +kernel)
theorem mv_X9_keep : MV 9 yX9_keep := ⟨mtb 997 (by decide +kernel) (by decide +kernel), mtb 998 (by decide +kernel) (by decide +kernel), TX9, 30, rfl⟩
theorem ck_X9_left : Cond.code yX9_left cX9_left 3 (some .int) ∈ tw := mtb 876 (by decide +kernel) (by decide +kernel)
theorem mv_X9_left : MV 9 yX9_left := ⟨mtb 875 (by decide +kernel) (by decide +kernel), mpr 33 (by decide +kernel) (by decide +kernel), TX9, 30, rfl⟩
theorem ck_X9_letterAt : Cond.code yX9_letterAt cX9_letterAt 2 (some .int) ∈ tw := mtb 813 (by decide +kernel) (by decide +kernel)
theorem mv_X9_letterAt : MV 9 yX9_letterAt := ⟨mtb 812 (by decide +kernel) (by decide +kernel), mpr 23 (by decide +kernel) (by decide +kernel), TX9, 30, rfl⟩
theorem ck_X9_loved : Cond.code yX9_loved cX9_loved 3 (some .int) ∈ tw := mtb 929 (by decide +kernel) (by decide +kernel)
theorem mv_X9_loved : MV 9 yX9_loved := ⟨mtb 927 (by decide +kernel) (by decide +kernel), mtb 928 (by decide +kernel) (by decide +kernel), TX9, 30, rfl⟩
theorem ck_X9_mayBegin : Cond.code yX9_mayBegin cX9_mayBegin 1 (some .boolean) ∈ tw := mtb 824 (by decide +kernel) (by decide +kernel)
theorem mv_X9_mayBegin : MV 9 yX9_mayBegin := ⟨mtb 823 (by decide +kernel) (by decide +kernel), mpr 25 (by decide +kernel) (by decide +kernel), TX9, 30, rfl⟩
theorem ck_X9_mayLast : Cond.code yX9_mayLast cX9_mayLast 2 (some .boolean) ∈ tw := mtb 888 (by decide +kernel) (by decide +kernel)
theorem mv_X9_mayLast : MV 9 yX9_mayLast := ⟨mtb 887 (by decide +kernel) (by decide +kernel), mpr 35 (by decide +kernel) (by decide +kernel), TX9, 30, rfl⟩
theorem ck_X9_measures : Cond.code yX9_measures cX9_measures 6 none ∈ tw := mtb 920 (by decide +kernel) (by decide +kernel)
theorem mv_X9_measures : MV 9 yX9_measures := ⟨mtb 919 (by decide +kernel) (by decide +kernel), mpr 39 (by decide +kernel) (by decide +kernel), TX9, 30, rfl⟩
theorem ck_X9_next : Cond.code yX9_next cX9_next 8 (some .int) ∈ tw := mtb 952 (by decide +kernel) (by decide +kernel)
theorem mv_X9_next : MV 9 yX9_next := ⟨mtb 950 (by decide +kernel) (by decide +kernel), mtb 951 (by decide +kernel) (by decide +kernel), TX9, 30, rfl⟩
theorem ck_X9_notes : Cond.code yX9_notes cX9_notes 2 none ∈ tw := mtb 892 (by decide +kernel) (by decide +kernel)
theorem mv_X9_notes : MV 9 yX9_notes := ⟨mtb 891 (by decide +kernel) (by decide +kernel), mpr 36 (by decide +kernel) (by decide +kernel), TX9, 30, rfl⟩
theorem ck_X9_now : Cond.code yX9_now cX9_now 2 (some .int) ∈ tw := mtb 868 (by decide +kernel) (by decide +kernel)
theorem mv_X9_now : MV 9 yX9_now := ⟨mtb 866 (by decide +kernel) (by decide +kernel), mtb 867 (by decide +kernel) (by decide +kernel), TX9, 30, rfl⟩
theorem ck_X9_number : Cond.code yX9_number cX9_number 3 (some .int) ∈ tw := mtb 839 (by decide +kernel) (by decide +kernel)
theorem mv_X9_number : MV 9 yX9_number := ⟨mtb 838 (by decide +kernel) (by decide +kernel), mpr 28 (by decide +kernel) (by decide +kernel), TX9, 30, rfl⟩
theorem ck_X9_odds : Cond.code yX9_odds cX9_odds 9 (some .int) ∈ tw := mtb 980 (by decide +kernel) (by decide +kernel)
theorem mv_X9_odds : MV 9 yX9_odds := ⟨mtb 978 (by decide +kernel) (by decide +kernel), mtb 979 (by decide +kernel) (by decide +kernel), TX9, 30, rfl⟩
theorem ck_X9_ones : Cond.code yX9_ones cX9_ones 3 (some .int) ∈ tw := mtb 948 (by decide +kernel) (by decide +kernel)
theorem sk_X9_ones : Cond.static yX9_ones ∈ tw := mtb 947 (by decide +kernel) (by decide +kernel)
theorem ck_X9_power : Cond.code yX9_power cX9_power 4 (some .int) ∈ tw := mtb 983 (by decide +kernel) (by decide +kernel)
theorem sk_X9_power : Cond.static yX9_power ∈ tw := mtb 982 (by decide +kernel) (by decide +kernel)
theorem ck_X9_questions : Cond.code yX9_questions cX9_questions 7 (some .int) ∈ tw := mtb 960 (by decide +kernel) (by decide +kernel)
theorem mv_X9_questions : MV 9 yX9_questions := ⟨mtb 958 (by decide +kernel) (by decide +kernel), mtb 959 (by decide +kernel) (by decide +kernel), TX9, 30, rfl⟩
theorem ck_X9_rate : Cond.code yX9_rate cX9_rate 6 (some .int) ∈ tw := mtb 990 (by decide +kernel) (by decide +kernel)
theorem mv_X9_rate : MV 9 yX9_rate := ⟨mtb 988 (by decide +kernel) (by decide +kernel), mtb 989 (by decide +kernel) (by decide +kernel), TX9, 30, rfl⟩
theorem ck_X9_readsItem : Cond.code yX9_readsItem cX9_readsItem 3 none ∈ tw := mtb 835 (by decide +kernel) (by decide +kernel)
theorem mv_X9_readsItem : MV 9 yX9_readsItem := ⟨mtb 834 (by decide +kernel) (by decide +kernel), mpr 27 (by decide +kernel) (by decide +kernel), TX9, 30, rfl⟩
theorem ck_X9_room : Cond.code yX9_room cX9_room 3 (some .int) ∈ tw := mtb 843 (by decide +kernel) (by decide +kernel)
theorem mv_X9_room : MV 9 yX9_room := ⟨mtb 841 (by decide +kernel) (by decide +kernel), mtb 842 (by decide +kernel) (by decide +kernel), TX9, 30, rfl⟩
theorem ck_X9_round : Cond.code yX9_round cX9_round 12 (some .int) ∈ tw := mtb 933 (by decide +kernel) (by decide +kernel)
theorem mv_X9_round : MV 9 yX9_round := ⟨mtb 931 (by decide +kernel) (by decide +kernel), mtb 932 (by decide +kernel) (by decide +kernel), TX9, 30, rfl⟩
theorem ck_X9_rowOf : Cond.code yX9_rowOf cX9_rowOf 7 (some .int) ∈ tw := mtb 941 (by decide +kernel) (by decide +kernel)
theorem mv_X9_rowOf : MV 9 yX9_rowOf := ⟨mtb 940 (by decide +kernel) (by decide +kernel), mpr 42 (by decide +kernel) (by decide +kernel), TX9, 30, rfl⟩
theorem ck_X9_settles : Cond.code yX9_settles cX9_settles 2 none ∈ tw := mtb 698 (by decide +kernel) (by decide +kernel)
theorem mv_X9_settles : MV 9 yX9_settles := ⟨mtb 697 (by decide +kernel) (by decide +kernel), mpr 21 (by decide +kernel) (by decide +kernel), TX9, 30, rfl⟩
theorem ck_X9_soonAt : Cond.code yX9_soonAt cX9_soonAt 2 (some .int) ∈ tw := mtb 916 (by decide +kernel) (by decide +kernel)
theorem mv_X9_soonAt : MV 9 yX9_soonAt := ⟨mtb 915 (by decide +kernel) (by decide +kernel), mpr 38 (by decide +kernel) (by decide +kernel), TX9, 30, rfl⟩
theorem ck_X9_soonBy : Cond.code yX9_soonBy cX9_soonBy 7 (some .int) ∈ tw := mtb 925 (by decide +kernel) (by decide +kernel)
theorem mv_X9_soonBy : MV 9 yX9_soonBy := ⟨mtb 924 (by decide +kernel) (by decide +kernel), mpr 40 (by decide +kernel) (by decide +kernel), TX9, 30, rfl⟩
theorem ck_X9_soonest : Cond.code yX9_soonest cX9_soonest 9 (some .int) ∈ tw := mtb 912 (by decide +kernel) (by decide +kernel)
theorem mv_X9_soonest : MV 9 yX9_soonest := ⟨mtb 910 (by decide +kernel) (by decide +kernel), mtb 911 (by decide +kernel) (by decide +kernel), TX9, 30, rfl⟩
theorem ck_X9_suspect : Cond.code yX9_suspect cX9_suspect 2 (some .int) ∈ tw := mtb 864 (by decide +kernel) (by decide +kernel)
theorem mv_X9_suspect : MV 9 yX9_suspect := ⟨mtb 862 (by decide +kernel) (by decide +kernel), mtb 863 (by decide +kernel) (by decide +kernel), TX9, 30, rfl⟩
theorem ck_X9_takes : Cond.code yX9_takes cX9_takes 3 (some .int) ∈ tw := mtb 831 (by decide +kernel) (by decide +kernel)
theorem mv_X9_takes : MV 9 yX9_takes := ⟨mtb 830 (by decide +kernel) (by decide +kernel), mpr 26 (by decide +kernel) (by decide +kernel), TX9, 30, rfl⟩
theorem ck_X9_tempers : Cond.code yX9_tempers cX9_tempers 5 (some .int) ∈ tw := mtb 972 (by decide +kernel) (by decide +kernel)
theorem mv_X9_tempers : MV 9 yX9_tempers := ⟨mtb 970 (by decide +kernel) (by decide +kernel), mtb 971 (by decide +kernel) (by decide +kernel), TX9, 30, rfl⟩
theorem ck_X9_trace : Cond.code yX9_trace cX9_trace 1 (some .long) ∈ tw := mtb 1011 (by decide +kernel) (by decide +kernel)
theorem mv_X9_trace : MV 9 yX9_trace := ⟨mtb 1009 (by decide +kernel) (by decide +kernel), mtb 1010 (by decide +kernel) (by decide +kernel), TX9, 30, rfl⟩
theorem ck_X9_type : Cond.code yX9_type cX9_type 2 (some .int) ∈ tw := mtb 794 (by decide +kernel) (by decide +kernel)
theorem mv_X9_type : MV 9 yX9_type := ⟨mtb 792 (by decide +kernel) (by decide +kernel), mtb 793 (by decide +kernel) (by decide +kernel), TX9, 30, rfl⟩
theorem ck_X9_undo : Cond.code yX9_undo cX9_undo 2 (some .int) ∈ tw := mtb 908 (by decide +kernel) (by decide +kernel)
theorem mv_X9_undo : MV 9 yX9_undo := ⟨mtb 906 (by decide +kernel) (by decide +kernel), mtb 907 (by decide +kernel) (by decide +kernel), TX9, 30, rfl⟩
theorem ck_X9_walk : Cond.code yX9_walk cX9_walk 4 (some .int) ∈ tw := mtb 884 (by decide +kernel) (by decide +kernel)
theorem mv_X9_walk : MV 9 yX9_walk := ⟨mtb 883 (by decide +kernel) (by decide +kernel), mpr 34 (by decide +kernel) (by decide +kernel), TX9, 30, rfl⟩
theorem ck_X9_which : Cond.code yX9_which cX9_which 5 (some .int) ∈ tw := mtb 976 (by decide +kernel) (by decide +kernel)
theorem mv_X9_which : MV 9 yX9_which := ⟨mtb 974 (by decide +kernel) (by decide +kernel), mtb 975 (by decide +kernel) (by decide +kernel), TX9, 30, rfl⟩
theorem twMax : ∀ w ∈ tMax, w ∈ tw := by
  intro w hw
  rcases List.mem_cons.mp hw with rfl | hw
  · exact mtb 508 (by decide +kernel) (by decide +kernel)
  rcases List.mem_cons.mp hw with rfl | hw
  · exact mtb 11 (by decide +kernel) (by decide +kernel)
  rcases List.mem_cons.mp hw with rfl | hw
  · exact mtb 509 (by decide +kernel) (by decide +kernel)
  · cases hw
theorem twMin : ∀ w ∈ tMin, w ∈ tw := by
  intro w hw
  rcases List.mem_cons.mp hw with rfl | hw
  · exact mtb 373 (by decide +kernel) (by decide +kernel)
  rcases List.mem_cons.mp hw with rfl | hw
  · exact mtb 11 (by decide +kernel) (by decide +kernel)
  rcases List.mem_cons.mp hw with rfl | hw
  · exact mtb 374 (by decide +kernel) (by decide +kernel)
  · cases hw
theorem twAbs : ∀ w ∈ tAbs, w ∈ tw := by
  intro w hw
  rcases List.mem_cons.mp hw with rfl | hw
  · exact mtb 459 (by decide +kernel) (by decide +kernel)
  rcases List.mem_cons.mp hw with rfl | hw
  · exact mtb 11 (by decide +kernel) (by decide +kernel)
  rcases List.mem_cons.mp hw with rfl | hw
  · exact mtb 460 (by decide +kernel) (by decide +kernel)
  · cases hw
theorem twCpy : ∀ w ∈ tCpy, w ∈ tw := by
  intro w hw
  rcases List.mem_cons.mp hw with rfl | hw
  · exact mtb 405 (by decide +kernel) (by decide +kernel)
  rcases List.mem_cons.mp hw with rfl | hw
  · exact mtb 404 (by decide +kernel) (by decide +kernel)
  rcases List.mem_cons.mp hw with rfl | hw
  · exact mtb 12 (by decide +kernel) (by decide +kernel)
  · cases hw
theorem mk_X0_21 : Cond.methodLink RX0 21 arraycopyName ∈ tw := mtb 569 (by decide +kernel) (by decide +kernel)
theorem mk_X1_41 : Cond.methodLink RX1 41 Lib.Math.min.name ∈ tw := mtb 506 (by decide +kernel) (by decide +kernel)
theorem mk_X1_46 : Cond.methodLink RX1 46 Lib.Math.max.name ∈ tw := mtb 507 (by decide +kernel) (by decide +kernel)
theorem mk_X2_52 : Cond.methodLink RX2 52 Lib.Math.abs.name ∈ tw := mtb 458 (by decide +kernel) (by decide +kernel)
theorem mk_X3_43 : Cond.methodLink RX3 43 Lib.Math.max.name ∈ tw := mtb 605 (by decide +kernel) (by decide +kernel)
theorem mk_X3_52 : Cond.methodLink RX3 52 Lib.Math.min.name ∈ tw := mtb 618 (by decide +kernel) (by decide +kernel)
theorem mk_X5_29 : Cond.methodLink RX5 29 Lib.Math.min.name ∈ tw := mtb 469 (by decide +kernel) (by decide +kernel)
theorem mk_X6_116 : Cond.methodLink RX6 116 Lib.Math.min.name ∈ tw := mtb 372 (by decide +kernel) (by decide +kernel)
theorem mk_X7_37 : Cond.methodLink RX7 37 arraycopyName ∈ tw := mtb 403 (by decide +kernel) (by decide +kernel)
theorem kk_X8_112 : Cond.constant RX8 112 (-1000000) ∈ tw := mtb 421 (by decide +kernel) (by decide +kernel)
theorem kk_X1_57 : Cond.constant RX1 57 1000000000 ∈ tw := mtb 510 (by decide +kernel) (by decide +kernel)
theorem kk_X9_145 : Cond.constant RX9 145 (-1000000) ∈ tw := mtb 848 (by decide +kernel) (by decide +kernel)
theorem kk_X9_172 : Cond.constant RX9 172 100000000 ∈ tw := mtb 921 (by decide +kernel) (by decide +kernel)
theorem kk_X9_205 : Cond.constantLong RX9 205 11 ∈ tw := mtb 991 (by decide +kernel) (by decide +kernel)
theorem kk_X9_207 : Cond.constantLong RX9 207 101 ∈ tw := mtb 992 (by decide +kernel) (by decide +kernel)
theorem kk_X9_209 : Cond.constantLong RX9 209 1011 ∈ tw := mtb 993 (by decide +kernel) (by decide +kernel)
theorem kk_X9_211 : Cond.constantLong RX9 211 10101 ∈ tw := mtb 994 (by decide +kernel) (by decide +kernel)
theorem kk_X9_213 : Cond.constantLong RX9 213 100001 ∈ tw := mtb 995 (by decide +kernel) (by decide +kernel)
theorem kk_J6_265 : Cond.constant RJ6 265 1431655765 ∈ tw := mtb 586 (by decide +kernel) (by decide +kernel)
theorem kk_J6_266 : Cond.constant RJ6 266 858993459 ∈ tw := mtb 587 (by decide +kernel) (by decide +kernel)
theorem kk_J6_267 : Cond.constant RJ6 267 252645135 ∈ tw := mtb 588 (by decide +kernel) (by decide +kernel)
theorem fs_KIND_MARK : Cond.fieldLink RX8 274 "DoorCases" "KIND_MARK" "[I" ∈ tw := mtb 664 (by decide +kernel) (by decide +kernel)
theorem fs_KIND_ABOVE : Cond.fieldLink RX8 277 "DoorCases" "KIND_ABOVE" "[I" ∈ tw := mtb 666 (by decide +kernel) (by decide +kernel)
theorem sh_0 : shp 0 = (11, 13) := rfl
theorem sh_1 : shp 1 = (9, 7) := rfl
theorem sh_2 : shp 2 = (0, 200) := rfl
theorem sh_3 : shp 3 = (5, 12) := rfl
theorem sh_4 : shp 4 = (0, 5) := rfl
theorem sh_5 : shp 5 = (0, 5) := rfl
theorem sh_6 : shp 6 = (0, 5) := rfl
theorem sh_7 : shp 7 = (0, 5) := rfl
theorem sh_8 : shp 8 = (0, 5) := rfl
theorem sh_9 : shp 9 = (0, 6) := rfl
theorem sh_10 : shp 10 = (5, 12) := rfl
theorem sh_11 : shp 11 = (0, 5) := rfl
theorem sh_12 : shp 12 = (0, 5) := rfl
theorem sh_13 : shp 13 = (0, 5) := rfl
theorem sh_14 : shp 14 = (0, 5) := rfl
theorem sh_15 : shp 15 = (0, 5) := rfl
theorem sh_16 : shp 16 = (0, 6) := rfl
theorem sh_17 : shp 17 = (10, 7) := rfl
theorem sh_18 : shp 18 = (0, 5) := rfl
theorem sh_19 : shp 19 = (0, 5) := rfl
theorem sh_20 : shp 20 = (8, 3) := rfl
theorem sh_21 : shp 21 = (2, 10) := rfl
theorem sh_22 : shp 22 = (10, 7) := rfl
theorem sh_23 : shp 23 = (0, 5) := rfl
theorem sh_24 : shp 24 = (0, 5) := rfl
theorem sh_25 : shp 25 = (10, 7) := rfl
theorem sh_26 : shp 26 = (0, 5) := rfl
theorem sh_27 : shp 27 = (0, 5) := rfl
theorem sh_28 : shp 28 = (10, 7) := rfl
theorem sh_29 : shp 29 = (0, 5) := rfl
theorem sh_30 : shp 30 = (0, 5) := rfl
theorem sh_31 : shp 31 = (10, 7) := rfl
theorem sh_32 : shp 32 = (0, 5) := rfl
theorem sh_33 : shp 33 = (0, 5) := rfl
theorem sh_34 : shp 34 = (10, 7) := rfl
theorem sh_35 : shp 35 = (0, 5) := rfl
theorem sh_36 : shp 36 = (0, 5) := rfl
theorem sh_37 : shp 37 = (10, 7) := rfl
theorem sh_38 : shp 38 = (0, 5) := rfl
theorem sh_39 : shp 39 = (0, 5) := rfl
theorem sh_40 : shp 40 = (10, 7) := rfl
theorem sh_41 : shp 41 = (0, 5) := rfl
theorem sh_42 : shp 42 = (0, 5) := rfl
theorem sh_43 : shp 43 = (10, 7) := rfl
theorem sh_44 : shp 44 = (0, 5) := rfl
theorem sh_45 : shp 45 = (0, 5) := rfl
theorem sh_46 : shp 46 = (10, 7) := rfl
theorem sh_47 : shp 47 = (0, 5) := rfl
theorem sh_48 : shp 48 = (0, 5) := rfl
theorem sh_49 : shp 49 = (10, 7) := rfl
theorem sh_50 : shp 50 = (0, 5) := rfl
theorem sh_51 : shp 51 = (0, 5) := rfl
theorem sh_52 : shp 52 = (2, 2) := rfl
theorem sh_53 : shp 53 = (10, 7) := rfl
theorem sh_54 : shp 54 = (0, 5) := rfl
theorem sh_55 : shp 55 = (0, 5) := rfl
theorem sh_56 : shp 56 = (10, 7) := rfl
theorem sh_57 : shp 57 = (0, 5) := rfl
theorem sh_58 : shp 58 = (0, 5) := rfl
theorem sh_59 : shp 59 = (4, 7) := rfl
theorem sh_60 : shp 60 = (0, 186) := rfl
theorem sh_61 : shp 61 = (0, 5) := rfl
theorem sh_62 : shp 62 = (0, 5) := rfl
theorem sh_63 : shp 63 = (0, 5) := rfl
theorem sh_64 : shp 64 = (3, 7) := rfl
theorem sh_65 : shp 65 = (0, 5) := rfl
theorem sh_66 : shp 66 = (0, 5) := rfl
theorem sh_67 : shp 67 = (0, 5) := rfl
theorem sh_68 : shp 68 = (6, 2) := rfl
theorem sh_69 : shp 69 = (0, 64) := rfl
theorem sh_70 : shp 70 = (0, 5) := rfl
theorem sh_71 : shp 71 = (7, 3) := rfl
theorem sh_72 : shp 72 = (0, 5) := rfl
theorem sh_73 : shp 73 = (0, 5) := rfl
theorem sh_74 : shp 74 = (0, 7) := rfl
theorem sh_75 : shp 75 = (12, 30) := rfl
theorem sh_76 : shp 76 = (0, 200) := rfl
theorem sh_77 : shp 77 = (0, 12) := rfl
theorem sh_78 : shp 78 = (0, 5) := rfl
theorem sh_79 : shp 79 = (0, 10) := rfl
theorem sh_80 : shp 80 = (0, 10) := rfl
theorem sh_81 : shp 81 = (0, 10) := rfl
theorem sh_82 : shp 82 = (0, 10) := rfl
theorem sh_83 : shp 83 = (0, 12) := rfl
theorem sh_84 : shp 84 = (0, 15) := rfl
theorem sh_85 : shp 85 = (0, 30) := rfl
theorem sh_86 : shp 86 = (1, 2) := rfl
theorem sh_87 : shp 87 = (0, 150) := rfl
theorem sh_88 : shp 88 = (0, 5) := rfl
theorem sh_89 : shp 89 = (0, 5) := rfl
theorem sh_90 : shp 90 = (0, 186) := rfl
theorem sh_91 : shp 91 = (0, 5) := rfl
theorem sh_92 : shp 92 = (0, 5) := rfl
theorem sh_93 : shp 93 = (0, 5) := rfl
theorem sh_94 : shp 94 = (0, 64) := rfl


/-! links and words of the tables, by their places (by program) -/
theorem gd_r (ws : List Cond) (ps : List Nat) (hp : ws = ps.filterMap (fun i => tables_1[i]?)) (h : ws.all goodWord = true) : ∀ w ∈ ws, w ∈ lw_gd := by
  intro w hw
  have h1 := List.all_eq_true.mp h w hw
  rw [hp] at hw
  obtain ⟨i, -, hi⟩ := List.mem_filterMap.mp hw
  exact gd_t i hi h1
theorem inX0 : ∀ w ∈ u_ws RX0 TX0 8, w ∈ lw_gd := gd_r _ [129, 131, 133, 135, 137, 139, 141, 143] (by decide +kernel) (by decide +kernel)
theorem inX1 : ∀ w ∈ u_ws RX1 TX1 2, w ∈ lw_gd := gd_r _ [34, 36] (by decide +kernel) (by decide +kernel)
theorem inX2 : ∀ w ∈ u_ws RX2 TX2 6, w ∈ lw_gd := gd_r _ [197, 199, 201, 203, 205, 207] (by decide +kernel) (by decide +kernel)
theorem inX3 : ∀ w ∈ u_ws RX3 TX3 11, w ∈ lw_gd := gd_r _ [76, 78, 80, 82, 84, 86, 88, 90, 92, 94, 96] (by decide +kernel) (by decide +kernel)
theorem inX4 : ∀ w ∈ u_ws RX4 TX4 3, w ∈ lw_gd := gd_r _ [225, 227, 229] (by decide +kernel) (by decide +kernel)
theorem inX5 : ∀ w ∈ u_ws RX5 TX5 1, w ∈ lw_gd := gd_r _ [107] (by decide +kernel) (by decide +kernel)
theorem inX6 : ∀ w ∈ u_ws RX6 TX6 7, w ∈ lw_gd := gd_r _ [173, 175, 177, 179, 181, 183, 185] (by decide +kernel) (by decide +kernel)
theorem inX7 : ∀ w ∈ u_ws RX7 TX7 10, w ∈ lw_gd := gd_r _ [380, 382, 384, 386, 388, 390, 392, 394, 396, 398] (by decide +kernel) (by decide +kernel)
theorem inX8 : ∀ w ∈ u_ws RX8 TX8 26, w ∈ lw_gd := gd_r _ [668, 670, 672, 674, 676, 678, 680, 682, 684, 686, 688, 690, 692, 694, 696, 698, 700, 702, 704, 706, 708, 710, 712, 714, 716, 718] (by decide +kernel) (by decide +kernel)
theorem iniX7 : Cond.initialized RX7 ∈ lw_gd := gd_t 1 (by decide +kernel) (by decide +kernel)
theorem iniX1 : Cond.initialized RX1 ∈ lw_gd := gd_t 2 (by decide +kernel) (by decide +kernel)
theorem iniX3 : Cond.initialized RX3 ∈ lw_gd := gd_t 3 (by decide +kernel) (by decide +kernel)
theorem iniX5 : Cond.initialized RX5 ∈ lw_gd := gd_t 4 (by decide +kernel) (by decide +kernel)
theorem iniX0 : Cond.initialized RX0 ∈ lw_gd := gd_t 5 (by decide +kernel) (by decide +kernel)
theorem iniX2 : Cond.initialized RX2 ∈ lw_gd := gd_t 6 (by decide +kernel) (by decide +kernel)
theorem iniX6 : Cond.initialized RX6 ∈ lw_gd := gd_t 7 (by decide +kernel) (by decide +kernel)
theorem iniX4 : Cond.initialized RX4 ∈ lw_gd := gd_t 8 (by decide +kernel) (by decide +kernel)
theorem iniX8 : Cond.initialized RX8 ∈ lw_gd := gd_t 14 (by decide +kernel) (by decide +kernel)
theorem flX7_10 : jfl RX7 10 7 0 := ⟨RX7, TX7, 10, rfl, by decide, inX7, gd_t 370 (by decide +kernel) (by decide +kernel)⟩
theorem flX7_19 : jfl RX7 19 7 1 := ⟨RX7, TX7, 10, rfl, by decide, inX7, gd_t 371 (by decide +kernel) (by decide +kernel)⟩
theorem flX7_23 : jfl RX7 23 7 2 := ⟨RX7, TX7, 10, rfl, by decide, inX7, gd_t 372 (by decide +kernel) (by decide +kernel)⟩
theorem flX7_29 : jfl RX7 29 7 3 := ⟨RX7, TX7, 10, rfl, by decide, inX7, gd_t 373 (by decide +kernel) (by decide +kernel)⟩
theorem flX7_38 : jfl RX7 38 7 4 := ⟨RX7, TX7, 10, rfl, by decide, inX7, gd_t 374 (by decide +kernel) (by decide +kernel)⟩
theorem flX7_47 : jfl RX7 47 7 5 := ⟨RX7, TX7, 10, rfl, by decide, inX7, gd_t 375 (by decide +kernel) (by decide +kernel)⟩
theorem flX7_54 : jfl RX7 54 7 6 := ⟨RX7, TX7, 10, rfl, by decide, inX7, gd_t 376 (by decide +kernel) (by decide +kernel)⟩
theorem flX7_58 : jfl RX7 58 7 7 := ⟨RX7, TX7, 10, rfl, by decide, inX7, gd_t 377 (by decide +kernel) (by decide +kernel)⟩
theorem flX7_64 : jfl RX7 64 7 8 := ⟨RX7, TX7, 10, rfl, by decide, inX7, gd_t 378 (by decide +kernel) (by decide +kernel)⟩
theorem flX7_68 : jfl RX7 68 7 9 := ⟨RX7, TX7, 10, rfl, by decide, inX7, gd_t 379 (by decide +kernel) (by decide +kernel)⟩
theorem flX7_92 : jfl RX7 92 1 1 := ⟨RX1, TX1, 2, rfl, by decide, inX1, gd_t 31 (by decide +kernel) (by decide +kernel)⟩
theorem fpX7_92 : jfp RX7 92 1 1 .int := ⟨RX1, TX1, 2, tyX1, rfl, by decide, inX1, gd_t 31 (by decide +kernel) (by decide +kernel), tyX1_ok, nmX1, rfl, by decide +kernel⟩
theorem flX7_99 : jfl RX7 99 3 1 := ⟨RX3, TX3, 11, rfl, by decide, inX3, gd_t 53 (by decide +kernel) (by decide +kernel)⟩
theorem flX7_108 : jfl RX7 108 6 1 := ⟨RX6, TX6, 7, rfl, by decide, inX6, gd_t 162 (by decide +kernel) (by decide +kernel)⟩
theorem flX7_140 : jfl RX7 140 2 3 := ⟨RX2, TX2, 6, rfl, by decide, inX2, gd_t 192 (by decide +kernel) (by decide +kernel)⟩
theorem flX7_143 : jfl RX7 143 2 4 := ⟨RX2, TX2, 6, rfl, by decide, inX2, gd_t 194 (by decide +kernel) (by decide +kernel)⟩
theorem flX7_145 : jfl RX7 145 2 5 := ⟨RX2, TX2, 6, rfl, by decide, inX2, gd_t 196 (by decide +kernel) (by decide +kernel)⟩
theorem flX7_148 : jfl RX7 148 6 2 := ⟨RX6, TX6, 7, rfl, by decide, inX6, gd_t 165 (by decide +kernel) (by decide +kernel)⟩
theorem flX7_156 : jfl RX7 156 4 2 := ⟨RX4, TX4, 3, rfl, by decide, inX4, gd_t 224 (by decide +kernel) (by decide +kernel)⟩
theorem fpX7_156 : jfp RX7 156 4 2 .int := ⟨RX4, TX4, 3, tyX4, rfl, by decide, inX4, gd_t 224 (by decide +kernel) (by decide +kernel), tyX4_ok, nmX4, rfl, by decide +kernel⟩
theorem flX7_159 : jfl RX7 159 3 3 := ⟨RX3, TX3, 11, rfl, by decide, inX3, gd_t 59 (by decide +kernel) (by decide +kernel)⟩
theorem flX7_162 : jfl RX7 162 3 4 := ⟨RX3, TX3, 11, rfl, by decide, inX3, gd_t 62 (by decide +kernel) (by decide +kernel)⟩
theorem flX7_165 : jfl RX7 165 3 5 := ⟨RX3, TX3, 11, rfl, by decide, inX3, gd_t 65 (by decide +kernel) (by decide +kernel)⟩
theorem flX7_168 : jfl RX7 168 0 3 := ⟨RX0, TX0, 8, rfl, by decide, inX0, gd_t 124 (by decide +kernel) (by decide +kernel)⟩
theorem flX7_183 : jfl RX7 183 0 1 := ⟨RX0, TX0, 8, rfl, by decide, inX0, gd_t 120 (by decide +kernel) (by decide +kernel)⟩
theorem flX7_190 : jfl RX7 190 0 2 := ⟨RX0, TX0, 8, rfl, by decide, inX0, gd_t 122 (by decide +kernel) (by decide +kernel)⟩
theorem flX7_205 : jfl RX7 205 3 0 := ⟨RX3, TX3, 11, rfl, by decide, inX3, gd_t 48 (by decide +kernel) (by decide +kernel)⟩
theorem flX7_208 : jfl RX7 208 3 2 := ⟨RX3, TX3, 11, rfl, by decide, inX3, gd_t 56 (by decide +kernel) (by decide +kernel)⟩
theorem flX7_220 : jfl RX7 220 6 6 := ⟨RX6, TX6, 7, rfl, by decide, inX6, gd_t 172 (by decide +kernel) (by decide +kernel)⟩
theorem fpX7_220 : jfp RX7 220 6 6 .int := ⟨RX6, TX6, 7, tyX6, rfl, by decide, inX6, gd_t 172 (by decide +kernel) (by decide +kernel), tyX6_ok, nmX6, rfl, by decide +kernel⟩
theorem flX7_223 : jfl RX7 223 6 4 := ⟨RX6, TX6, 7, rfl, by decide, inX6, gd_t 168 (by decide +kernel) (by decide +kernel)⟩
theorem flX0_11 : jfl RX0 11 0 1 := ⟨RX0, TX0, 8, rfl, by decide, inX0, gd_t 119 (by decide +kernel) (by decide +kernel)⟩
theorem flX0_16 : jfl RX0 16 0 2 := ⟨RX0, TX0, 8, rfl, by decide, inX0, gd_t 121 (by decide +kernel) (by decide +kernel)⟩
theorem flX0_19 : jfl RX0 19 0 3 := ⟨RX0, TX0, 8, rfl, by decide, inX0, gd_t 123 (by decide +kernel) (by decide +kernel)⟩
theorem flX0_23 : jfl RX0 23 0 4 := ⟨RX0, TX0, 8, rfl, by decide, inX0, gd_t 125 (by decide +kernel) (by decide +kernel)⟩
theorem flX0_27 : jfl RX0 27 0 5 := ⟨RX0, TX0, 8, rfl, by decide, inX0, gd_t 126 (by decide +kernel) (by decide +kernel)⟩
theorem flX0_30 : jfl RX0 30 0 6 := ⟨RX0, TX0, 8, rfl, by decide, inX0, gd_t 127 (by decide +kernel) (by decide +kernel)⟩
theorem flX0_33 : jfl RX0 33 0 7 := ⟨RX0, TX0, 8, rfl, by decide, inX0, gd_t 128 (by decide +kernel) (by decide +kernel)⟩
theorem flX0_36 : jfl RX0 36 0 0 := ⟨RX0, TX0, 8, rfl, by decide, inX0, gd_t 118 (by decide +kernel) (by decide +kernel)⟩
theorem flX0_40 : jfl RX0 40 3 0 := ⟨RX3, TX3, 11, rfl, by decide, inX3, gd_t 47 (by decide +kernel) (by decide +kernel)⟩
theorem flX0_46 : jfl RX0 46 3 10 := ⟨RX3, TX3, 11, rfl, by decide, inX3, gd_t 75 (by decide +kernel) (by decide +kernel)⟩
theorem flX0_53 : jfl RX0 53 3 1 := ⟨RX3, TX3, 11, rfl, by decide, inX3, gd_t 52 (by decide +kernel) (by decide +kernel)⟩
theorem flX0_56 : jfl RX0 56 3 2 := ⟨RX3, TX3, 11, rfl, by decide, inX3, gd_t 55 (by decide +kernel) (by decide +kernel)⟩
theorem flX0_62 : jfl RX0 62 3 9 := ⟨RX3, TX3, 11, rfl, by decide, inX3, gd_t 73 (by decide +kernel) (by decide +kernel)⟩
theorem flX0_69 : jfl RX0 69 6 2 := ⟨RX6, TX6, 7, rfl, by decide, inX6, gd_t 164 (by decide +kernel) (by decide +kernel)⟩
theorem flX0_74 : jfl RX0 74 3 4 := ⟨RX3, TX3, 11, rfl, by decide, inX3, gd_t 61 (by decide +kernel) (by decide +kernel)⟩
theorem flX0_77 : jfl RX0 77 6 1 := ⟨RX6, TX6, 7, rfl, by decide, inX6, gd_t 161 (by decide +kernel) (by decide +kernel)⟩
theorem flX0_80 : jfl RX0 80 3 3 := ⟨RX3, TX3, 11, rfl, by decide, inX3, gd_t 58 (by decide +kernel) (by decide +kernel)⟩
theorem flX0_87 : jfl RX0 87 3 8 := ⟨RX3, TX3, 11, rfl, by decide, inX3, gd_t 71 (by decide +kernel) (by decide +kernel)⟩
theorem flX0_90 : jfl RX0 90 3 5 := ⟨RX3, TX3, 11, rfl, by decide, inX3, gd_t 64 (by decide +kernel) (by decide +kernel)⟩
theorem flX0_105 : jfl RX0 105 3 7 := ⟨RX3, TX3, 11, rfl, by decide, inX3, gd_t 69 (by decide +kernel) (by decide +kernel)⟩
theorem flX1_9 : jfl RX1 9 1 0 := ⟨RX1, TX1, 2, rfl, by decide, inX1, gd_t 29 (by decide +kernel) (by decide +kernel)⟩
theorem flX1_15 : jfl RX1 15 1 1 := ⟨RX1, TX1, 2, rfl, by decide, inX1, gd_t 32 (by decide +kernel) (by decide +kernel)⟩
theorem fpX1_15 : jfp RX1 15 1 1 .int := ⟨RX1, TX1, 2, tyX1, rfl, by decide, inX1, gd_t 32 (by decide +kernel) (by decide +kernel), tyX1_ok, nmX1, rfl, by decide +kernel⟩
theorem flX2_12 : jfl RX2 12 2 2 := ⟨RX2, TX2, 6, rfl, by decide, inX2, gd_t 190 (by decide +kernel) (by decide +kernel)⟩
theorem flX2_18 : jfl RX2 18 2 0 := ⟨RX2, TX2, 6, rfl, by decide, inX2, gd_t 188 (by decide +kernel) (by decide +kernel)⟩
theorem flX2_22 : jfl RX2 22 2 1 := ⟨RX2, TX2, 6, rfl, by decide, inX2, gd_t 189 (by decide +kernel) (by decide +kernel)⟩
theorem flX2_26 : jfl RX2 26 2 3 := ⟨RX2, TX2, 6, rfl, by decide, inX2, gd_t 191 (by decide +kernel) (by decide +kernel)⟩
theorem fpX2_26 : jfp RX2 26 2 3 .int := ⟨RX2, TX2, 6, tyX2, rfl, by decide, inX2, gd_t 191 (by decide +kernel) (by decide +kernel), tyX2_ok, nmX2, rfl, by decide +kernel⟩
theorem flX2_34 : jfl RX2 34 3 1 := ⟨RX3, TX3, 11, rfl, by decide, inX3, gd_t 51 (by decide +kernel) (by decide +kernel)⟩
theorem flX2_43 : jfl RX2 43 6 1 := ⟨RX6, TX6, 7, rfl, by decide, inX6, gd_t 160 (by decide +kernel) (by decide +kernel)⟩
theorem flX2_47 : jfl RX2 47 2 4 := ⟨RX2, TX2, 6, rfl, by decide, inX2, gd_t 193 (by decide +kernel) (by decide +kernel)⟩
theorem fpX2_47 : jfp RX2 47 2 4 .int := ⟨RX2, TX2, 6, tyX2, rfl, by decide, inX2, gd_t 193 (by decide +kernel) (by decide +kernel), tyX2_ok, nmX2, rfl, by decide +kernel⟩
theorem flX2_49 : jfl RX2 49 2 5 := ⟨RX2, TX2, 6, rfl, by decide, inX2, gd_t 195 (by decide +kernel) (by decide +kernel)⟩
theorem fpX2_49 : jfp RX2 49 2 5 .int := ⟨RX2, TX2, 6, tyX2, rfl, by decide, inX2, gd_t 195 (by decide +kernel) (by decide +kernel), tyX2_ok, nmX2, rfl, by decide +kernel⟩
theorem flX2_66 : jfl RX2 66 6 6 := ⟨RX6, TX6, 7, rfl, by decide, inX6, gd_t 171 (by decide +kernel) (by decide +kernel)⟩
theorem flX3_9 : jfl RX3 9 3 3 := ⟨RX3, TX3, 11, rfl, by decide, inX3, gd_t 57 (by decide +kernel) (by decide +kernel)⟩
theorem flX3_15 : jfl RX3 15 3 4 := ⟨RX3, TX3, 11, rfl, by decide, inX3, gd_t 60 (by decide +kernel) (by decide +kernel)⟩
theorem flX3_18 : jfl RX3 18 3 5 := ⟨RX3, TX3, 11, rfl, by decide, inX3, gd_t 63 (by decide +kernel) (by decide +kernel)⟩
theorem flX3_21 : jfl RX3 21 3 6 := ⟨RX3, TX3, 11, rfl, by decide, inX3, gd_t 66 (by decide +kernel) (by decide +kernel)⟩
theorem flX3_24 : jfl RX3 24 3 7 := ⟨RX3, TX3, 11, rfl, by decide, inX3, gd_t 68 (by decide +kernel) (by decide +kernel)⟩
theorem flX3_27 : jfl RX3 27 3 8 := ⟨RX3, TX3, 11, rfl, by decide, inX3, gd_t 70 (by decide +kernel) (by decide +kernel)⟩
theorem flX3_30 : jfl RX3 30 3 9 := ⟨RX3, TX3, 11, rfl, by decide, inX3, gd_t 72 (by decide +kernel) (by decide +kernel)⟩
theorem flX3_33 : jfl RX3 33 3 10 := ⟨RX3, TX3, 11, rfl, by decide, inX3, gd_t 74 (by decide +kernel) (by decide +kernel)⟩
theorem flX3_37 : jfl RX3 37 3 0 := ⟨RX3, TX3, 11, rfl, by decide, inX3, gd_t 46 (by decide +kernel) (by decide +kernel)⟩
theorem fpX3_37 : jfp RX3 37 3 0 .int := ⟨RX3, TX3, 11, tyX3, rfl, by decide, inX3, gd_t 46 (by decide +kernel) (by decide +kernel), tyX3_ok, nmX3, rfl, by decide +kernel⟩
theorem flX3_41 : jfl RX3 41 3 1 := ⟨RX3, TX3, 11, rfl, by decide, inX3, gd_t 50 (by decide +kernel) (by decide +kernel)⟩
theorem fpX3_41 : jfp RX3 41 3 1 .int := ⟨RX3, TX3, 11, tyX3, rfl, by decide, inX3, gd_t 50 (by decide +kernel) (by decide +kernel), tyX3_ok, nmX3, rfl, by decide +kernel⟩
theorem flX3_44 : jfl RX3 44 3 2 := ⟨RX3, TX3, 11, rfl, by decide, inX3, gd_t 54 (by decide +kernel) (by decide +kernel)⟩
theorem fpX3_44 : jfp RX3 44 3 2 .int := ⟨RX3, TX3, 11, tyX3, rfl, by decide, inX3, gd_t 54 (by decide +kernel) (by decide +kernel), tyX3_ok, nmX3, rfl, by decide +kernel⟩
theorem flX4_11 : jfl RX4 11 4 0 := ⟨RX4, TX4, 3, rfl, by decide, inX4, gd_t 221 (by decide +kernel) (by decide +kernel)⟩
theorem flX4_18 : jfl RX4 18 4 1 := ⟨RX4, TX4, 3, rfl, by decide, inX4, gd_t 222 (by decide +kernel) (by decide +kernel)⟩
theorem fpX4_18 : jfp RX4 18 4 1 .int := ⟨RX4, TX4, 3, tyX4, rfl, by decide, inX4, gd_t 222 (by decide +kernel) (by decide +kernel), tyX4_ok, nmX4, rfl, by decide +kernel⟩
theorem flX4_26 : jfl RX4 26 4 2 := ⟨RX4, TX4, 3, rfl, by decide, inX4, gd_t 223 (by decide +kernel) (by decide +kernel)⟩
theorem fpX4_26 : jfp RX4 26 4 2 .int := ⟨RX4, TX4, 3, tyX4, rfl, by decide, inX4, gd_t 223 (by decide +kernel) (by decide +kernel), tyX4_ok, nmX4, rfl, by decide +kernel⟩
theorem flX5_11 : jfl RX5 11 5 0 := ⟨RX5, TX5, 1, rfl, by decide, inX5, gd_t 106 (by decide +kernel) (by decide +kernel)⟩
theorem flX5_20 : jfl RX5 20 1 1 := ⟨RX1, TX1, 2, rfl, by decide, inX1, gd_t 33 (by decide +kernel) (by decide +kernel)⟩
theorem flX5_26 : jfl RX5 26 1 0 := ⟨RX1, TX1, 2, rfl, by decide, inX1, gd_t 30 (by decide +kernel) (by decide +kernel)⟩
theorem flX6_9 : jfl RX6 9 6 1 := ⟨RX6, TX6, 7, rfl, by decide, inX6, gd_t 159 (by decide +kernel) (by decide +kernel)⟩
theorem flX6_15 : jfl RX6 15 6 2 := ⟨RX6, TX6, 7, rfl, by decide, inX6, gd_t 163 (by decide +kernel) (by decide +kernel)⟩
theorem flX6_19 : jfl RX6 19 6 3 := ⟨RX6, TX6, 7, rfl, by decide, inX6, gd_t 166 (by decide +kernel) (by decide +kernel)⟩
theorem flX6_22 : jfl RX6 22 3 1 := ⟨RX3, TX3, 11, rfl, by decide, inX3, gd_t 49 (by decide +kernel) (by decide +kernel)⟩
theorem flX6_28 : jfl RX6 28 6 0 := ⟨RX6, TX6, 7, rfl, by decide, inX6, gd_t 158 (by decide +kernel) (by decide +kernel)⟩
theorem fpX6_28 : jfp RX6 28 6 0 .int := ⟨RX6, TX6, 7, tyX6, rfl, by decide, inX6, gd_t 158 (by decide +kernel) (by decide +kernel), tyX6_ok, nmX6, rfl, by decide +kernel⟩
theorem flX6_29 : jfl RX6 29 3 6 := ⟨RX3, TX3, 11, rfl, by decide, inX3, gd_t 67 (by decide +kernel) (by decide +kernel)⟩
theorem flX6_32 : jfl RX6 32 6 4 := ⟨RX6, TX6, 7, rfl, by decide, inX6, gd_t 167 (by decide +kernel) (by decide +kernel)⟩
theorem fpX6_32 : jfp RX6 32 6 4 .int := ⟨RX6, TX6, 7, tyX6, rfl, by decide, inX6, gd_t 167 (by decide +kernel) (by decide +kernel), tyX6_ok, nmX6, rfl, by decide +kernel⟩
theorem flX6_35 : jfl RX6 35 6 5 := ⟨RX6, TX6, 7, rfl, by decide, inX6, gd_t 169 (by decide +kernel) (by decide +kernel)⟩
theorem fpX6_35 : jfp RX6 35 6 5 .int := ⟨RX6, TX6, 7, tyX6, rfl, by decide, inX6, gd_t 169 (by decide +kernel) (by decide +kernel), tyX6_ok, nmX6, rfl, by decide +kernel⟩
theorem flX6_38 : jfl RX6 38 6 6 := ⟨RX6, TX6, 7, rfl, by decide, inX6, gd_t 170 (by decide +kernel) (by decide +kernel)⟩
theorem fpX6_38 : jfp RX6 38 6 6 .int := ⟨RX6, TX6, 7, tyX6, rfl, by decide, inX6, gd_t 170 (by decide +kernel) (by decide +kernel), tyX6_ok, nmX6, rfl, by decide +kernel⟩
theorem flX8_7 : jfl RX8 7 8 0 := ⟨RX8, TX8, 26, rfl, by decide, inX8, gd_t 642 (by decide +kernel) (by decide +kernel)⟩
theorem flX8_13 : jfl RX8 13 8 3 := ⟨RX8, TX8, 26, rfl, by decide, inX8, gd_t 645 (by decide +kernel) (by decide +kernel)⟩
theorem flX8_16 : jfl RX8 16 8 4 := ⟨RX8, TX8, 26, rfl, by decide, inX8, gd_t 646 (by decide +kernel) (by decide +kernel)⟩
theorem flX8_19 : jfl RX8 19 8 8 := ⟨RX8, TX8, 26, rfl, by decide, inX8, gd_t 650 (by decide +kernel) (by decide +kernel)⟩
theorem flX8_22 : jfl RX8 22 8 9 := ⟨RX8, TX8, 26, rfl, by decide, inX8, gd_t 651 (by decide +kernel) (by decide +kernel)⟩
theorem flX8_25 : jfl RX8 25 8 13 := ⟨RX8, TX8, 26, rfl, by decide, inX8, gd_t 655 (by decide +kernel) (by decide +kernel)⟩
theorem flX8_28 : jfl RX8 28 8 14 := ⟨RX8, TX8, 26, rfl, by decide, inX8, gd_t 656 (by decide +kernel) (by decide +kernel)⟩
theorem flX8_31 : jfl RX8 31 8 17 := ⟨RX8, TX8, 26, rfl, by decide, inX8, gd_t 659 (by decide +kernel) (by decide +kernel)⟩
theorem flX8_34 : jfl RX8 34 8 18 := ⟨RX8, TX8, 26, rfl, by decide, inX8, gd_t 660 (by decide +kernel) (by decide +kernel)⟩
theorem flX8_37 : jfl RX8 37 8 19 := ⟨RX8, TX8, 26, rfl, by decide, inX8, gd_t 661 (by decide +kernel) (by decide +kernel)⟩
theorem flX8_40 : jfl RX8 40 8 20 := ⟨RX8, TX8, 26, rfl, by decide, inX8, gd_t 662 (by decide +kernel) (by decide +kernel)⟩
theorem flX8_43 : jfl RX8 43 8 21 := ⟨RX8, TX8, 26, rfl, by decide, inX8, gd_t 663 (by decide +kernel) (by decide +kernel)⟩
theorem flX8_49 : jfl RX8 49 8 5 := ⟨RX8, TX8, 26, rfl, by decide, inX8, gd_t 647 (by decide +kernel) (by decide +kernel)⟩
theorem fpX8_49 : jfp RX8 49 8 5 .int := ⟨RX8, TX8, 26, tyX8, rfl, by decide, inX8, gd_t 647 (by decide +kernel) (by decide +kernel), tyX8_ok, nmX8, rfl, by decide +kernel⟩
theorem flX8_64 : jfl RX8 64 8 6 := ⟨RX8, TX8, 26, rfl, by decide, inX8, gd_t 648 (by decide +kernel) (by decide +kernel)⟩
theorem fpX8_64 : jfp RX8 64 8 6 .int := ⟨RX8, TX8, 26, tyX8, rfl, by decide, inX8, gd_t 648 (by decide +kernel) (by decide +kernel), tyX8_ok, nmX8, rfl, by decide +kernel⟩
theorem flX8_67 : jfl RX8 67 8 7 := ⟨RX8, TX8, 26, rfl, by decide, inX8, gd_t 649 (by decide +kernel) (by decide +kernel)⟩
theorem fpX8_67 : jfp RX8 67 8 7 .int := ⟨RX8, TX8, 26, tyX8, rfl, by decide, inX8, gd_t 649 (by decide +kernel) (by decide +kernel), tyX8_ok, nmX8, rfl, by decide +kernel⟩
theorem flX8_70 : jfl RX8 70 8 16 := ⟨RX8, TX8, 26, rfl, by decide, inX8, gd_t 658 (by decide +kernel) (by decide +kernel)⟩
theorem fpX8_70 : jfp RX8 70 8 16 .boolean := ⟨RX8, TX8, 26, tyX8, rfl, by decide, inX8, gd_t 658 (by decide +kernel) (by decide +kernel), tyX8_ok, nmX8, rfl, by decide +kernel⟩
theorem flX8_74 : jfl RX8 74 8 10 := ⟨RX8, TX8, 26, rfl, by decide, inX8, gd_t 652 (by decide +kernel) (by decide +kernel)⟩
theorem fpX8_74 : jfp RX8 74 8 10 .int := ⟨RX8, TX8, 26, tyX8, rfl, by decide, inX8, gd_t 652 (by decide +kernel) (by decide +kernel), tyX8_ok, nmX8, rfl, by decide +kernel⟩
theorem flX8_77 : jfl RX8 77 8 11 := ⟨RX8, TX8, 26, rfl, by decide, inX8, gd_t 653 (by decide +kernel) (by decide +kernel)⟩
theorem fpX8_77 : jfp RX8 77 8 11 .int := ⟨RX8, TX8, 26, tyX8, rfl, by decide, inX8, gd_t 653 (by decide +kernel) (by decide +kernel), tyX8_ok, nmX8, rfl, by decide +kernel⟩
theorem flX8_80 : jfl RX8 80 8 12 := ⟨RX8, TX8, 26, rfl, by decide, inX8, gd_t 654 (by decide +kernel) (by decide +kernel)⟩
theorem fpX8_80 : jfp RX8 80 8 12 .int := ⟨RX8, TX8, 26, tyX8, rfl, by decide, inX8, gd_t 654 (by decide +kernel) (by decide +kernel), tyX8_ok, nmX8, rfl, by decide +kernel⟩
theorem flX8_87 : jfl RX8 87 8 15 := ⟨RX8, TX8, 26, rfl, by decide, inX8, gd_t 657 (by decide +kernel) (by decide +kernel)⟩
theorem fpX8_87 : jfp RX8 87 8 15 .int := ⟨RX8, TX8, 26, tyX8, rfl, by decide, inX8, gd_t 657 (by decide +kernel) (by decide +kernel), tyX8_ok, nmX8, rfl, by decide +kernel⟩
theorem flX8_90 : jfl RX8 90 8 2 := ⟨RX8, TX8, 26, rfl, by decide, inX8, gd_t 644 (by decide +kernel) (by decide +kernel)⟩
theorem fpX8_90 : jfp RX8 90 8 2 .int := ⟨RX8, TX8, 26, tyX8, rfl, by decide, inX8, gd_t 644 (by decide +kernel) (by decide +kernel), tyX8_ok, nmX8, rfl, by decide +kernel⟩
theorem flX8_93 : jfl RX8 93 8 1 := ⟨RX8, TX8, 26, rfl, by decide, inX8, gd_t 643 (by decide +kernel) (by decide +kernel)⟩
theorem fpX8_93 : jfp RX8 93 8 1 .int := ⟨RX8, TX8, 26, tyX8, rfl, by decide, inX8, gd_t 643 (by decide +kernel) (by decide +kernel), tyX8_ok, nmX8, rfl, by decide +kernel⟩
theorem flX8_140 : jfl RX8 140 8 22 := ⟨RX8, TX8, 26, rfl, by decide, inX8, gd_t 664 (by decide +kernel) (by decide +kernel)⟩
theorem fpX8_140 : jfp RX8 140 8 22 .int := ⟨RX8, TX8, 26, tyX8, rfl, by decide, inX8, gd_t 664 (by decide +kernel) (by decide +kernel), tyX8_ok, nmX8, rfl, by decide +kernel⟩
theorem flX8_163 : jfl RX8 163 8 23 := ⟨RX8, TX8, 26, rfl, by decide, inX8, gd_t 665 (by decide +kernel) (by decide +kernel)⟩
theorem fpX8_163 : jfp RX8 163 8 23 .int := ⟨RX8, TX8, 26, tyX8, rfl, by decide, inX8, gd_t 665 (by decide +kernel) (by decide +kernel), tyX8_ok, nmX8, rfl, by decide +kernel⟩
theorem flX8_166 : jfl RX8 166 8 25 := ⟨RX8, TX8, 26, rfl, by decide, inX8, gd_t 667 (by decide +kernel) (by decide +kernel)⟩
theorem fpX8_166 : jfp RX8 166 8 25 .int := ⟨RX8, TX8, 26, tyX8, rfl, by decide, inX8, gd_t 667 (by decide +kernel) (by decide +kernel), tyX8_ok, nmX8, rfl, by decide +kernel⟩
theorem flX8_177 : jfl RX8 177 8 24 := ⟨RX8, TX8, 26, rfl, by decide, inX8, gd_t 666 (by decide +kernel) (by decide +kernel)⟩
theorem fpX8_177 : jfp RX8 177 8 24 .int := ⟨RX8, TX8, 26, tyX8, rfl, by decide, inX8, gd_t 666 (by decide +kernel) (by decide +kernel), tyX8_ok, nmX8, rfl, by decide +kernel⟩
theorem cdX0_init : Cond.code yX0_init cX0_init 2 none ∈ lw_gd := gd_t 114 (by decide +kernel) (by decide +kernel)
theorem cdX0_measure : Cond.code yX0_measure cX0_measure 9 none ∈ lw_gd := gd_t 342 (by decide +kernel) (by decide +kernel)
def rmX0_measure : Room := { frames := 0, cells := 0, slots := 0, locals := 0 }
theorem cdX0_orderFarthestFirst : Cond.code yX0_orderFarthestFirst cX0_orderFarthestFirst 4 none ∈ lw_gd := gd_t 350 (by decide +kernel) (by decide +kernel)
def rmX0_orderFarthestFirst : Room := { frames := 0, cells := 0, slots := 0, locals := 0 }
theorem cdX0_isShort : Cond.code yX0_isShort cX0_isShort 5 (some .boolean) ∈ lw_gd := gd_t 358 (by decide +kernel) (by decide +kernel)
def rmX0_isShort : Room := { frames := 0, cells := 0, slots := 0, locals := 0 }
theorem cdX0_sendOn : Cond.code yX0_sendOn cX0_sendOn 10 none ∈ lw_gd := gd_t 354 (by decide +kernel) (by decide +kernel)
def rmX0_sendOn : Room := { frames := 1, cells := 0, slots := 0, locals := 24 }
theorem cdX0_send : Cond.code yX0_send cX0_send 5 none ∈ lw_gd := gd_t 346 (by decide +kernel) (by decide +kernel)
def rmX0_send : Room := { frames := 2, cells := 0, slots := 0, locals := 53 }
theorem cdX0_linkCost : Cond.code yX0_linkCost cX0_linkCost 6 (some .int) ∈ lw_gd := gd_t 362 (by decide +kernel) (by decide +kernel)
def rmX0_linkCost : Room := { frames := 1, cells := 0, slots := 0, locals := 21 }
theorem cdX0_costOf : Cond.code yX0_costOf cX0_costOf 4 (some .int) ∈ lw_gd := gd_t 338 (by decide +kernel) (by decide +kernel)
def rmX0_costOf : Room := { frames := 3, cells := 0, slots := 0, locals := 77 }
theorem cdX0_isShortForAGoal : Cond.code yX0_isShortForAGoal cX0_isShortForAGoal 4 (some .boolean) ∈ lw_gd := gd_t 475 (by decide +kernel) (by decide +kernel)
def rmX0_isShortForAGoal : Room := { frames := 1, cells := 0, slots := 0, locals := 24 }
theorem cdX0_shortDemands : Cond.code yX0_shortDemands cX0_shortDemands 5 (some .int) ∈ lw_gd := gd_t 516 (by decide +kernel) (by decide +kernel)
def rmX0_shortDemands : Room := { frames := 1, cells := 0, slots := 0, locals := 24 }
theorem cdX0_lostDemands : Cond.code yX0_lostDemands cX0_lostDemands 3 (some .int) ∈ lw_gd := gd_t 571 (by decide +kernel) (by decide +kernel)
def rmX0_lostDemands : Room := { frames := 0, cells := 0, slots := 0, locals := 0 }
theorem cdX0_overfullLinks : Cond.code yX0_overfullLinks cX0_overfullLinks 3 (some .int) ∈ lw_gd := gd_t 575 (by decide +kernel) (by decide +kernel)
def rmX0_overfullLinks : Room := { frames := 0, cells := 0, slots := 0, locals := 0 }
theorem cdX1_init : Cond.code yX1_init cX1_init 1 none ∈ lw_gd := gd_t 27 (by decide +kernel) (by decide +kernel)
theorem cdX1_put : Cond.code yX1_put cX1_put 2 (some .boolean) ∈ lw_gd := gd_t 284 (by decide +kernel) (by decide +kernel)
def rmX1_put : Room := { frames := 0, cells := 0, slots := 0, locals := 0 }
theorem cdX6_init : Cond.code yX6_init cX6_init 1 none ∈ lw_gd := gd_t 156 (by decide +kernel) (by decide +kernel)
theorem cdX2_init : Cond.code yX2_init cX2_init 3 none ∈ lw_gd := gd_t 150 (by decide +kernel) (by decide +kernel)
theorem cdX6_copyFrom : Cond.code yX6_copyFrom cX6_copyFrom 3 none ∈ lw_gd := gd_t 434 (by decide +kernel) (by decide +kernel)
def rmX6_copyFrom : Room := { frames := 0, cells := 0, slots := 0, locals := 0 }
theorem cdX6_markWith : Cond.code yX6_markWith cX6_markWith 5 (some .int) ∈ lw_gd := gd_t 482 (by decide +kernel) (by decide +kernel)
def rmX6_markWith : Room := { frames := 0, cells := 0, slots := 0, locals := 0 }
theorem cdX6_isTabu : Cond.code yX6_isTabu cX6_isTabu 3 (some .boolean) ∈ lw_gd := gd_t 486 (by decide +kernel) (by decide +kernel)
def rmX6_isTabu : Room := { frames := 0, cells := 0, slots := 0, locals := 0 }
theorem cdX2_isFree : Cond.code yX2_isFree cX2_isFree 4 (some .boolean) ∈ lw_gd := gd_t 478 (by decide +kernel) (by decide +kernel)
def rmX2_isFree : Room := { frames := 1, cells := 0, slots := 0, locals := 24 }
theorem cdX2_tryWeights : Cond.code yX2_tryWeights cX2_tryWeights 8 none ∈ lw_gd := gd_t 470 (by decide +kernel) (by decide +kernel)
def rmX2_tryWeights : Room := { frames := 4, cells := 0, slots := 0, locals := 100 }
theorem cdX2_find : Cond.code yX2_find cX2_find 5 (some .boolean) ∈ lw_gd := gd_t 465 (by decide +kernel) (by decide +kernel)
def rmX2_find : Room := { frames := 5, cells := 0, slots := 0, locals := 127 }
theorem cdX2_found : Cond.code yX2_found cX2_found 2 (some .int) ∈ lw_gd := gd_t 546 (by decide +kernel) (by decide +kernel)
def rmX2_found : Room := { frames := 0, cells := 0, slots := 0, locals := 0 }
theorem cdX3_init : Cond.code yX3_init cX3_init 1 none ∈ lw_gd := gd_t 44 (by decide +kernel) (by decide +kernel)
theorem cdX3_clear : Cond.code yX3_clear cX3_clear 2 none ∈ lw_gd := gd_t 296 (by decide +kernel) (by decide +kernel)
def rmX3_clear : Room := { frames := 0, cells := 0, slots := 0, locals := 0 }
theorem cdX3_hasNode : Cond.code yX3_hasNode cX3_hasNode 2 (some .boolean) ∈ lw_gd := gd_t 320 (by decide +kernel) (by decide +kernel)
def rmX3_hasNode : Room := { frames := 0, cells := 0, slots := 0, locals := 0 }
theorem cdX3_hasLink : Cond.code yX3_hasLink cX3_hasLink 2 (some .boolean) ∈ lw_gd := gd_t 425 (by decide +kernel) (by decide +kernel)
def rmX3_hasLink : Room := { frames := 0, cells := 0, slots := 0, locals := 0 }
theorem cdX3_hasDemand : Cond.code yX3_hasDemand cX3_hasDemand 2 (some .boolean) ∈ lw_gd := gd_t 528 (by decide +kernel) (by decide +kernel)
def rmX3_hasDemand : Room := { frames := 0, cells := 0, slots := 0, locals := 0 }
theorem cdX3_takeNodes : Cond.code yX3_takeNodes cX3_takeNodes 2 (some .boolean) ∈ lw_gd := gd_t 308 (by decide +kernel) (by decide +kernel)
def rmX3_takeNodes : Room := { frames := 0, cells := 0, slots := 0, locals := 0 }
theorem cdX3_areTwoNodes : Cond.code yX3_areTwoNodes cX3_areTwoNodes 3 (some .boolean) ∈ lw_gd := gd_t 316 (by decide +kernel) (by decide +kernel)
def rmX3_areTwoNodes : Room := { frames := 1, cells := 0, slots := 0, locals := 21 }
theorem cdX3_isSize : Cond.code yX3_isSize cX3_isSize 1 (some .boolean) ∈ lw_gd := gd_t 323 (by decide +kernel) (by decide +kernel)
def rmX3_isSize : Room := { frames := 0, cells := 0, slots := 0, locals := 0 }
theorem cdX7_isWeight : Cond.code yX7_isWeight cX7_isWeight 1 (some .boolean) ∈ lw_gd := gd_t 326 (by decide +kernel) (by decide +kernel)
def rmX7_isWeight : Room := { frames := 0, cells := 0, slots := 0, locals := 0 }
theorem cdX3_takeLink : Cond.code yX3_takeLink cX3_takeLink 5 (some .boolean) ∈ lw_gd := gd_t 312 (by decide +kernel) (by decide +kernel)
def rmX3_takeLink : Room := { frames := 2, cells := 0, slots := 0, locals := 43 }
theorem cdX3_takeDemand : Cond.code yX3_takeDemand cX3_takeDemand 4 (some .boolean) ∈ lw_gd := gd_t 330 (by decide +kernel) (by decide +kernel)
def rmX3_takeDemand : Room := { frames := 2, cells := 0, slots := 0, locals := 43 }
theorem cdX4_init : Cond.code yX4_init cX4_init 2 none ∈ lw_gd := gd_t 216 (by decide +kernel) (by decide +kernel)
theorem cdX4_keep : Cond.code yX4_keep cX4_keep 2 none ∈ lw_gd := gd_t 430 (by decide +kernel) (by decide +kernel)
def rmX4_keep : Room := { frames := 1, cells := 0, slots := 0, locals := 22 }
theorem cdX4_giveBack : Cond.code yX4_giveBack cX4_giveBack 2 (some .boolean) ∈ lw_gd := gd_t 507 (by decide +kernel) (by decide +kernel)
def rmX4_giveBack : Room := { frames := 1, cells := 0, slots := 0, locals := 22 }
theorem cdX5_init : Cond.code yX5_init cX5_init 1 none ∈ lw_gd := gd_t 104 (by decide +kernel) (by decide +kernel)
theorem cdX5_takeNumbers : Cond.code yX5_takeNumbers cX5_takeNumbers 9 (some .int) ∈ lw_gd := gd_t 304 (by decide +kernel) (by decide +kernel)
def rmX5_takeNumbers : Room := { frames := 0, cells := 0, slots := 0, locals := 0 }
theorem cdX5_takeItem : Cond.code yX5_takeItem cX5_takeItem 6 (some .boolean) ∈ lw_gd := gd_t 300 (by decide +kernel) (by decide +kernel)
def rmX5_takeItem : Room := { frames := 3, cells := 0, slots := 0, locals := 67 }
theorem cdX5_read : Cond.code yX5_read cX5_read 5 (some .int) ∈ lw_gd := gd_t 292 (by decide +kernel) (by decide +kernel)
def rmX5_read : Room := { frames := 4, cells := 0, slots := 0, locals := 92 }
theorem cdX6_begin : Cond.code yX6_begin cX6_begin 3 none ∈ lw_gd := gd_t 334 (by decide +kernel) (by decide +kernel)
def rmX6_begin : Room := { frames := 0, cells := 0, slots := 0, locals := 0 }
theorem cdX6_noteCost : Cond.code yX6_noteCost cX6_noteCost 2 none ∈ lw_gd := gd_t 439 (by decide +kernel) (by decide +kernel)
def rmX6_noteCost : Room := { frames := 1, cells := 0, slots := 0, locals := 21 }
theorem cdX6_mark : Cond.code yX6_mark cX6_mark 1 (some .int) ∈ lw_gd := gd_t 490 (by decide +kernel) (by decide +kernel)
def rmX6_mark : Room := { frames := 1, cells := 0, slots := 0, locals := 24 }
theorem cdX6_addTabu : Cond.code yX6_addTabu cX6_addTabu 2 none ∈ lw_gd := gd_t 495 (by decide +kernel) (by decide +kernel)
def rmX6_addTabu : Room := { frames := 1, cells := 0, slots := 0, locals := 21 }
theorem cdX6_linksDown : Cond.code yX6_linksDown cX6_linksDown 3 (some .int) ∈ lw_gd := gd_t 567 (by decide +kernel) (by decide +kernel)
def rmX6_linksDown : Room := { frames := 0, cells := 0, slots := 0, locals := 0 }
theorem cdX7_layText : Cond.code yX7_layText cX7_layText 1 (some .boolean) ∈ lw_gd := gd_t 288 (by decide +kernel) (by decide +kernel)
def rmX7_layText : Room := { frames := 5, cells := 0, slots := 0, locals := 116 }
theorem cdX7_init : Cond.code yX7_init cX7_init 2 none ∈ lw_gd := gd_t 19 (by decide +kernel) (by decide +kernel)
theorem cdX7_write : Cond.code yX7_write cX7_write 2 (some .int) ∈ lw_gd := gd_t 405 (by decide +kernel) (by decide +kernel)
def rmX7_write : Room := { frames := 1, cells := 0, slots := 0, locals := 21 }
theorem cdX7_wipe : Cond.code yX7_wipe cX7_wipe 2 (some .int) ∈ lw_gd := gd_t 409 (by decide +kernel) (by decide +kernel)
def rmX7_wipe : Room := { frames := 0, cells := 0, slots := 0, locals := 0 }
theorem cdX7_fault : Cond.code yX7_fault cX7_fault 1 (some .int) ∈ lw_gd := gd_t 413 (by decide +kernel) (by decide +kernel)
def rmX7_fault : Room := { frames := 5, cells := 0, slots := 0, locals := 116 }
theorem cdX7_lay : Cond.code yX7_lay cX7_lay 1 (some .int) ∈ lw_gd := gd_t 417 (by decide +kernel) (by decide +kernel)
def rmX7_lay : Room := { frames := 6, cells := 0, slots := 0, locals := 136 }
theorem cdX7_move : Cond.code yX7_move cX7_move 4 (some .int) ∈ lw_gd := gd_t 421 (by decide +kernel) (by decide +kernel)
def rmX7_move : Room := { frames := 4, cells := 0, slots := 0, locals := 100 }
theorem cdX7_leadsOn : Cond.code yX7_leadsOn cX7_leadsOn 4 (some .boolean) ∈ lw_gd := gd_t 454 (by decide +kernel) (by decide +kernel)
def rmX7_leadsOn : Room := { frames := 0, cells := 0, slots := 0, locals := 0 }
theorem cdX7_planEvening : Cond.code yX7_planEvening cX7_planEvening 8 (some .int) ∈ lw_gd := gd_t 449 (by decide +kernel) (by decide +kernel)
def rmX7_planEvening : Room := { frames := 1, cells := 0, slots := 0, locals := 28 }
theorem cdX7_even : Cond.code yX7_even cX7_even 5 (some .int) ∈ lw_gd := gd_t 444 (by decide +kernel) (by decide +kernel)
def rmX7_even : Room := { frames := 4, cells := 0, slots := 0, locals := 100 }
theorem cdX7_step : Cond.code yX7_step cX7_step 4 (some .int) ∈ lw_gd := gd_t 461 (by decide +kernel) (by decide +kernel)
def rmX7_step : Room := { frames := 6, cells := 0, slots := 0, locals := 151 }
theorem cdX7_turn : Cond.code yX7_turn cX7_turn 4 (some .int) ∈ lw_gd := gd_t 499 (by decide +kernel) (by decide +kernel)
def rmX7_turn : Room := { frames := 4, cells := 0, slots := 0, locals := 100 }
theorem cdX7_undo : Cond.code yX7_undo cX7_undo 1 (some .int) ∈ lw_gd := gd_t 503 (by decide +kernel) (by decide +kernel)
def rmX7_undo : Room := { frames := 2, cells := 0, slots := 0, locals := 43 }
theorem cdX7_link : Cond.code yX7_link cX7_link 3 (some .int) ∈ lw_gd := gd_t 511 (by decide +kernel) (by decide +kernel)
def rmX7_link : Room := { frames := 4, cells := 0, slots := 0, locals := 100 }
theorem cdX7_far : Cond.code yX7_far cX7_far 4 (some .int) ∈ lw_gd := gd_t 520 (by decide +kernel) (by decide +kernel)
def rmX7_far : Room := { frames := 1, cells := 0, slots := 0, locals := 28 }
theorem cdX7_share : Cond.code yX7_share cX7_share 3 (some .int) ∈ lw_gd := gd_t 524 (by decide +kernel) (by decide +kernel)
def rmX7_share : Room := { frames := 4, cells := 0, slots := 0, locals := 100 }
theorem cdX7_cost : Cond.code yX7_cost cX7_cost 1 (some .int) ∈ lw_gd := gd_t 532 (by decide +kernel) (by decide +kernel)
def rmX7_cost : Room := { frames := 4, cells := 0, slots := 0, locals := 100 }
theorem cdX7_tabu : Cond.code yX7_tabu cX7_tabu 3 (some .int) ∈ lw_gd := gd_t 536 (by decide +kernel) (by decide +kernel)
def rmX7_tabu : Room := { frames := 1, cells := 0, slots := 0, locals := 24 }
theorem cdX7_best : Cond.code yX7_best cX7_best 2 (some .int) ∈ lw_gd := gd_t 542 (by decide +kernel) (by decide +kernel)
def rmX7_best : Room := { frames := 6, cells := 0, slots := 0, locals := 151 }
theorem cdX7_costWithout : Cond.code yX7_costWithout cX7_costWithout 2 (some .int) ∈ lw_gd := gd_t 554 (by decide +kernel) (by decide +kernel)
def rmX7_costWithout : Room := { frames := 4, cells := 0, slots := 0, locals := 100 }
theorem cdX7_worst : Cond.code yX7_worst cX7_worst 6 (some .int) ∈ lw_gd := gd_t 550 (by decide +kernel) (by decide +kernel)
def rmX7_worst : Room := { frames := 5, cells := 0, slots := 0, locals := 121 }
theorem cdX7_rescue : Cond.code yX7_rescue cX7_rescue 4 (some .int) ∈ lw_gd := gd_t 559 (by decide +kernel) (by decide +kernel)
def rmX7_rescue : Room := { frames := 6, cells := 0, slots := 0, locals := 151 }
theorem cdX7_count : Cond.code yX7_count cX7_count 2 (some .int) ∈ lw_gd := gd_t 563 (by decide +kernel) (by decide +kernel)
def rmX7_count : Room := { frames := 4, cells := 0, slots := 0, locals := 100 }
theorem cdX8_beginRead : Cond.code yX8_beginRead cX8_beginRead 1 none ∈ lw_gd := gd_t 585 (by decide +kernel) (by decide +kernel)
def rmX8_beginRead : Room := { frames := 0, cells := 0, slots := 0, locals := 0 }
theorem cdX8_putLink : Cond.code yX8_putLink cX8_putLink 5 none ∈ lw_gd := gd_t 589 (by decide +kernel) (by decide +kernel)
def rmX8_putLink : Room := { frames := 0, cells := 0, slots := 0, locals := 0 }
theorem cdX8_putDemand : Cond.code yX8_putDemand cX8_putDemand 4 none ∈ lw_gd := gd_t 593 (by decide +kernel) (by decide +kernel)
def rmX8_putDemand : Room := { frames := 0, cells := 0, slots := 0, locals := 0 }
theorem cdX8_end : Cond.code yX8_end cX8_end 2 (some .int) ∈ lw_gd := gd_t 617 (by decide +kernel) (by decide +kernel)
def rmX8_end : Room := { frames := 0, cells := 0, slots := 0, locals := 0 }
theorem cdX8_isUp : Cond.code yX8_isUp cX8_isUp 2 (some .boolean) ∈ lw_gd := gd_t 621 (by decide +kernel) (by decide +kernel)
def rmX8_isUp : Room := { frames := 0, cells := 0, slots := 0, locals := 0 }
theorem cdX8_begin : Cond.code yX8_begin cX8_begin 2 (some .int) ∈ lw_gd := gd_t 625 (by decide +kernel) (by decide +kernel)
def rmX8_begin : Room := { frames := 0, cells := 0, slots := 0, locals := 0 }
theorem cdX8_findFar : Cond.code yX8_findFar cX8_findFar 6 none ∈ lw_gd := gd_t 613 (by decide +kernel) (by decide +kernel)
def rmX8_findFar : Room := { frames := 1, cells := 0, slots := 0, locals := 21 }
theorem cdX8_isShort : Cond.code yX8_isShort cX8_isShort 2 (some .boolean) ∈ lw_gd := gd_t 633 (by decide +kernel) (by decide +kernel)
def rmX8_isShort : Room := { frames := 1, cells := 0, slots := 0, locals := 21 }
theorem cdX8_goOn : Cond.code yX8_goOn cX8_goOn 6 none ∈ lw_gd := gd_t 629 (by decide +kernel) (by decide +kernel)
def rmX8_goOn : Room := { frames := 2, cells := 0, slots := 0, locals := 42 }
theorem cdX8_layShares : Cond.code yX8_layShares cX8_layShares 9 (some .boolean) ∈ lw_gd := gd_t 609 (by decide +kernel) (by decide +kernel)
def rmX8_layShares : Room := { frames := 3, cells := 0, slots := 0, locals := 67 }
theorem cdX8_layLoads : Cond.code yX8_layLoads cX8_layLoads 3 none ∈ lw_gd := gd_t 605 (by decide +kernel) (by decide +kernel)
def rmX8_layLoads : Room := { frames := 4, cells := 0, slots := 0, locals := 95 }
theorem cdX8_piece : Cond.code yX8_piece cX8_piece 3 (some .int) ∈ lw_gd := gd_t 640 (by decide +kernel) (by decide +kernel)
def rmX8_piece : Room := { frames := 0, cells := 0, slots := 0, locals := 0 }
theorem cdX8_costOf : Cond.code yX8_costOf cX8_costOf 5 (some .int) ∈ lw_gd := gd_t 637 (by decide +kernel) (by decide +kernel)
def rmX8_costOf : Room := { frames := 1, cells := 0, slots := 0, locals := 22 }
theorem cdX8_costNow : Cond.code yX8_costNow cX8_costNow 3 (some .int) ∈ lw_gd := gd_t 601 (by decide +kernel) (by decide +kernel)
def rmX8_costNow : Room := { frames := 5, cells := 0, slots := 0, locals := 117 }
theorem cdX8_takeRead : Cond.code yX8_takeRead cX8_takeRead 2 none ∈ lw_gd := gd_t 597 (by decide +kernel) (by decide +kernel)
def rmX8_takeRead : Room := { frames := 6, cells := 0, slots := 0, locals := 139 }
theorem cdX8_init : Cond.code yX8_init cX8_init 1 none ∈ lw_gd := gd_t 580 (by decide +kernel) (by decide +kernel)
theorem cdX8_in : Cond.code yX8_in cX8_in 3 (some .boolean) ∈ lw_gd := gd_t 727 (by decide +kernel) (by decide +kernel)
def rmX8_in : Room := { frames := 0, cells := 0, slots := 0, locals := 0 }
theorem cdX8_isFigure : Cond.code yX8_isFigure cX8_isFigure 1 (some .boolean) ∈ lw_gd := gd_t 751 (by decide +kernel) (by decide +kernel)
def rmX8_isFigure : Room := { frames := 1, cells := 0, slots := 0, locals := 22 }
theorem cdX8_readNumbers : Cond.code yX8_readNumbers cX8_readNumbers 5 (some .boolean) ∈ lw_gd := gd_t 747 (by decide +kernel) (by decide +kernel)
def rmX8_readNumbers : Room := { frames := 2, cells := 0, slots := 0, locals := 42 }
theorem cdX8_isNumber : Cond.code yX8_isNumber cX8_isNumber 4 (some .boolean) ∈ lw_gd := gd_t 755 (by decide +kernel) (by decide +kernel)
def rmX8_isNumber : Room := { frames := 1, cells := 0, slots := 0, locals := 22 }
theorem cdX8_areEnds : Cond.code yX8_areEnds cX8_areEnds 1 (some .boolean) ∈ lw_gd := gd_t 759 (by decide +kernel) (by decide +kernel)
def rmX8_areEnds : Room := { frames := 2, cells := 0, slots := 0, locals := 45 }
theorem cdX8_readItem : Cond.code yX8_readItem cX8_readItem 3 (some .boolean) ∈ lw_gd := gd_t 743 (by decide +kernel) (by decide +kernel)
def rmX8_readItem : Room := { frames := 3, cells := 0, slots := 0, locals := 66 }
theorem cdX8_readText : Cond.code yX8_readText cX8_readText 3 (some .int) ∈ lw_gd := gd_t 739 (by decide +kernel) (by decide +kernel)
def rmX8_readText : Room := { frames := 4, cells := 0, slots := 0, locals := 88 }
theorem cdX8_write : Cond.code yX8_write cX8_write 2 (some .int) ∈ lw_gd := gd_t 724 (by decide +kernel) (by decide +kernel)
def rmX8_write : Room := { frames := 1, cells := 0, slots := 0, locals := 22 }
theorem cdX8_wipe : Cond.code yX8_wipe cX8_wipe 2 (some .int) ∈ lw_gd := gd_t 731 (by decide +kernel) (by decide +kernel)
def rmX8_wipe : Room := { frames := 0, cells := 0, slots := 0, locals := 0 }
theorem cdX8_fault : Cond.code yX8_fault cX8_fault 1 (some .int) ∈ lw_gd := gd_t 735 (by decide +kernel) (by decide +kernel)
def rmX8_fault : Room := { frames := 5, cells := 0, slots := 0, locals := 110 }
theorem cdX8_lay : Cond.code yX8_lay cX8_lay 1 (some .int) ∈ lw_gd := gd_t 763 (by decide +kernel) (by decide +kernel)
def rmX8_lay : Room := { frames := 7, cells := 0, slots := 0, locals := 160 }
theorem cdX8_isLink : Cond.code yX8_isLink cX8_isLink 2 (some .boolean) ∈ lw_gd := gd_t 775 (by decide +kernel) (by decide +kernel)
def rmX8_isLink : Room := { frames := 1, cells := 0, slots := 0, locals := 22 }
theorem cdX8_isNode : Cond.code yX8_isNode cX8_isNode 2 (some .boolean) ∈ lw_gd := gd_t 791 (by decide +kernel) (by decide +kernel)
def rmX8_isNode : Room := { frames := 1, cells := 0, slots := 0, locals := 22 }
theorem cdX8_costBy : Cond.code yX8_costBy cX8_costBy 5 (some .int) ∈ lw_gd := gd_t 807 (by decide +kernel) (by decide +kernel)
def rmX8_costBy : Room := { frames := 6, cells := 0, slots := 0, locals := 139 }
theorem cdX8_costTurned : Cond.code yX8_costTurned cX8_costTurned 3 (some .int) ∈ lw_gd := gd_t 871 (by decide +kernel) (by decide +kernel)
def rmX8_costTurned : Room := { frames := 6, cells := 0, slots := 0, locals := 139 }
theorem cdX8_markNow : Cond.code yX8_markNow cX8_markNow 3 (some .int) ∈ lw_gd := gd_t 815 (by decide +kernel) (by decide +kernel)
def rmX8_markNow : Room := { frames := 0, cells := 0, slots := 0, locals := 0 }
theorem cdX8_isTabu : Cond.code yX8_isTabu cX8_isTabu 4 (some .boolean) ∈ lw_gd := gd_t 819 (by decide +kernel) (by decide +kernel)
def rmX8_isTabu : Room := { frames := 0, cells := 0, slots := 0, locals := 0 }
theorem cdX8_isTabuBy : Cond.code yX8_isTabuBy cX8_isTabuBy 5 (some .boolean) ∈ lw_gd := gd_t 811 (by decide +kernel) (by decide +kernel)
def rmX8_isTabuBy : Room := { frames := 1, cells := 0, slots := 0, locals := 23 }
theorem cdX8_becomesTabu : Cond.code yX8_becomesTabu cX8_becomesTabu 3 none ∈ lw_gd := gd_t 827 (by decide +kernel) (by decide +kernel)
def rmX8_becomesTabu : Room := { frames := 0, cells := 0, slots := 0, locals := 0 }
theorem cdX8_findMove : Cond.code yX8_findMove cX8_findMove 8 (some .boolean) ∈ lw_gd := gd_t 803 (by decide +kernel) (by decide +kernel)
def rmX8_findMove : Room := { frames := 7, cells := 0, slots := 0, locals := 163 }
theorem cdX8_note : Cond.code yX8_note cX8_note 2 none ∈ lw_gd := gd_t 779 (by decide +kernel) (by decide +kernel)
def rmX8_note : Room := { frames := 0, cells := 0, slots := 0, locals := 0 }
theorem cdX8_tellLeast : Cond.code yX8_tellLeast cX8_tellLeast 2 none ∈ lw_gd := gd_t 783 (by decide +kernel) (by decide +kernel)
def rmX8_tellLeast : Room := { frames := 6, cells := 0, slots := 0, locals := 139 }
theorem cdX8_undo : Cond.code yX8_undo cX8_undo 2 (some .int) ∈ lw_gd := gd_t 767 (by decide +kernel) (by decide +kernel)
def rmX8_undo : Room := { frames := 0, cells := 0, slots := 0, locals := 0 }
theorem cdX8_move : Cond.code yX8_move cX8_move 4 (some .int) ∈ lw_gd := gd_t 771 (by decide +kernel) (by decide +kernel)
def rmX8_move : Room := { frames := 7, cells := 0, slots := 0, locals := 160 }
theorem cdX8_isEvened : Cond.code yX8_isEvened cX8_isEvened 3 (some .boolean) ∈ lw_gd := gd_t 795 (by decide +kernel) (by decide +kernel)
def rmX8_isEvened : Room := { frames := 1, cells := 0, slots := 0, locals := 21 }
theorem cdX8_even : Cond.code yX8_even cX8_even 9 (some .int) ∈ lw_gd := gd_t 787 (by decide +kernel) (by decide +kernel)
def rmX8_even : Room := { frames := 7, cells := 0, slots := 0, locals := 160 }
theorem cdX8_stepOnce : Cond.code yX8_stepOnce cX8_stepOnce 1 (some .boolean) ∈ lw_gd := gd_t 823 (by decide +kernel) (by decide +kernel)
def rmX8_stepOnce : Room := { frames := 8, cells := 0, slots := 0, locals := 190 }
theorem cdX8_step : Cond.code yX8_step cX8_step 4 (some .int) ∈ lw_gd := gd_t 799 (by decide +kernel) (by decide +kernel)
def rmX8_step : Room := { frames := 9, cells := 0, slots := 0, locals := 210 }
theorem cdX8_turn : Cond.code yX8_turn cX8_turn 3 (some .int) ∈ lw_gd := gd_t 831 (by decide +kernel) (by decide +kernel)
def rmX8_turn : Room := { frames := 6, cells := 0, slots := 0, locals := 139 }
theorem cdX8_shortFor : Cond.code yX8_shortFor cX8_shortFor 4 (some .int) ∈ lw_gd := gd_t 839 (by decide +kernel) (by decide +kernel)
def rmX8_shortFor : Room := { frames := 2, cells := 0, slots := 0, locals := 46 }
theorem cdX8_link : Cond.code yX8_link cX8_link 3 (some .int) ∈ lw_gd := gd_t 835 (by decide +kernel) (by decide +kernel)
def rmX8_link : Room := { frames := 5, cells := 0, slots := 0, locals := 117 }
theorem cdX8_far : Cond.code yX8_far cX8_far 3 (some .int) ∈ lw_gd := gd_t 843 (by decide +kernel) (by decide +kernel)
def rmX8_far : Room := { frames := 2, cells := 0, slots := 0, locals := 46 }
theorem cdX8_share : Cond.code yX8_share cX8_share 3 (some .int) ∈ lw_gd := gd_t 847 (by decide +kernel) (by decide +kernel)
def rmX8_share : Room := { frames := 4, cells := 0, slots := 0, locals := 95 }
theorem cdX8_cost : Cond.code yX8_cost cX8_cost 1 (some .int) ∈ lw_gd := gd_t 851 (by decide +kernel) (by decide +kernel)
def rmX8_cost : Room := { frames := 6, cells := 0, slots := 0, locals := 139 }
theorem cdX8_tabu : Cond.code yX8_tabu cX8_tabu 3 (some .int) ∈ lw_gd := gd_t 855 (by decide +kernel) (by decide +kernel)
def rmX8_tabu : Room := { frames := 2, cells := 0, slots := 0, locals := 47 }
theorem cdX8_bestOf : Cond.code yX8_bestOf cX8_bestOf 2 (some .int) ∈ lw_gd := gd_t 863 (by decide +kernel) (by decide +kernel)
def rmX8_bestOf : Room := { frames := 0, cells := 0, slots := 0, locals := 0 }
theorem cdX8_best : Cond.code yX8_best cX8_best 3 (some .int) ∈ lw_gd := gd_t 859 (by decide +kernel) (by decide +kernel)
def rmX8_best : Room := { frames := 8, cells := 0, slots := 0, locals := 190 }
theorem cdX8_worst : Cond.code yX8_worst cX8_worst 6 (some .int) ∈ lw_gd := gd_t 867 (by decide +kernel) (by decide +kernel)
def rmX8_worst : Room := { frames := 7, cells := 0, slots := 0, locals := 161 }
theorem cdX8_rescue : Cond.code yX8_rescue cX8_rescue 5 (some .int) ∈ lw_gd := gd_t 875 (by decide +kernel) (by decide +kernel)
def rmX8_rescue : Room := { frames := 8, cells := 0, slots := 0, locals := 190 }
theorem cdX8_moreThanFull : Cond.code yX8_moreThanFull cX8_moreThanFull 3 (some .int) ∈ lw_gd := gd_t 886 (by decide +kernel) (by decide +kernel)
def rmX8_moreThanFull : Room := { frames := 5, cells := 0, slots := 0, locals := 117 }
theorem cdX8_ones : Cond.code yX8_ones cX8_ones 3 (some .int) ∈ lw_gd := gd_t 882 (by decide +kernel) (by decide +kernel)
def rmX8_ones : Room := { frames := 0, cells := 0, slots := 0, locals := 0 }
theorem cdX8_count : Cond.code yX8_count cX8_count 2 (some .int) ∈ lw_gd := gd_t 879 (by decide +kernel) (by decide +kernel)
def rmX8_count : Room := { frames := 6, cells := 0, slots := 0, locals := 139 }
theorem mlX7_84 : jml RX7 84 yX1_put 1 := ⟨gd_t 281 (by decide +kernel) (by decide +kernel), gd_t 282 (by decide +kernel) (by decide +kernel), gd_t 283 (by decide +kernel) (by decide +kernel), gd_t 2 (by decide +kernel) (by decide +kernel), (by decide +kernel), (by decide +kernel), (by decide +kernel)⟩
theorem mlX7_88 : jml RX7 88 yX7_layText 0 := ⟨gd_t 285 (by decide +kernel) (by decide +kernel), gd_t 287 (by decide +kernel) (by decide +kernel), gd_s 0 (by decide +kernel) (by decide +kernel), gd_t 1 (by decide +kernel) (by decide +kernel), (by decide +kernel), (by decide +kernel), (by decide +kernel)⟩
theorem mlX7_95 : jml RX7 95 yX5_read 2 := ⟨gd_t 289 (by decide +kernel) (by decide +kernel), gd_t 290 (by decide +kernel) (by decide +kernel), gd_t 291 (by decide +kernel) (by decide +kernel), gd_t 4 (by decide +kernel) (by decide +kernel), (by decide +kernel), (by decide +kernel), (by decide +kernel)⟩
theorem mlX7_102 : jml RX7 102 yX3_hasLink 1 := ⟨gd_t 422 (by decide +kernel) (by decide +kernel), gd_t 423 (by decide +kernel) (by decide +kernel), gd_t 424 (by decide +kernel) (by decide +kernel), gd_t 3 (by decide +kernel) (by decide +kernel), (by decide +kernel), (by decide +kernel), (by decide +kernel)⟩
theorem msX7_105 : jms RX7 105 yX7_isWeight 1 := ⟨gd_t 426 (by decide +kernel) (by decide +kernel), gd_t 325 (by decide +kernel) (by decide +kernel), gd_t 1 (by decide +kernel) (by decide +kernel), (by decide +kernel), (by decide +kernel), (by decide +kernel)⟩
theorem mlX7_111 : jml RX7 111 yX4_keep 1 := ⟨gd_t 427 (by decide +kernel) (by decide +kernel), gd_t 428 (by decide +kernel) (by decide +kernel), gd_t 429 (by decide +kernel) (by decide +kernel), gd_t 8 (by decide +kernel) (by decide +kernel), (by decide +kernel), (by decide +kernel), (by decide +kernel)⟩
theorem mlX7_115 : jml RX7 115 yX0_costOf 1 := ⟨gd_t 335 (by decide +kernel) (by decide +kernel), gd_t 336 (by decide +kernel) (by decide +kernel), gd_t 337 (by decide +kernel) (by decide +kernel), gd_t 5 (by decide +kernel) (by decide +kernel), (by decide +kernel), (by decide +kernel), (by decide +kernel)⟩
theorem mlX7_119 : jml RX7 119 yX6_noteCost 1 := ⟨gd_t 436 (by decide +kernel) (by decide +kernel), gd_t 437 (by decide +kernel) (by decide +kernel), gd_t 438 (by decide +kernel) (by decide +kernel), gd_t 7 (by decide +kernel) (by decide +kernel), (by decide +kernel), (by decide +kernel), (by decide +kernel)⟩
theorem mlX7_123 : jml RX7 123 yX3_hasNode 1 := ⟨gd_t 445 (by decide +kernel) (by decide +kernel), gd_t 318 (by decide +kernel) (by decide +kernel), gd_t 319 (by decide +kernel) (by decide +kernel), gd_t 3 (by decide +kernel) (by decide +kernel), (by decide +kernel), (by decide +kernel), (by decide +kernel)⟩
theorem mlX7_126 : jml RX7 126 yX7_planEvening 2 := ⟨gd_t 446 (by decide +kernel) (by decide +kernel), gd_t 448 (by decide +kernel) (by decide +kernel), gd_s 7 (by decide +kernel) (by decide +kernel), gd_t 1 (by decide +kernel) (by decide +kernel), (by decide +kernel), (by decide +kernel), (by decide +kernel)⟩
theorem mlX7_130 : jml RX7 130 yX2_find 3 := ⟨gd_t 462 (by decide +kernel) (by decide +kernel), gd_t 463 (by decide +kernel) (by decide +kernel), gd_t 464 (by decide +kernel) (by decide +kernel), gd_t 6 (by decide +kernel) (by decide +kernel), (by decide +kernel), (by decide +kernel), (by decide +kernel)⟩
theorem mlX7_134 : jml RX7 134 yX6_mark 0 := ⟨gd_t 487 (by decide +kernel) (by decide +kernel), gd_t 488 (by decide +kernel) (by decide +kernel), gd_t 489 (by decide +kernel) (by decide +kernel), gd_t 7 (by decide +kernel) (by decide +kernel), (by decide +kernel), (by decide +kernel), (by decide +kernel)⟩
theorem mlX7_137 : jml RX7 137 yX6_addTabu 1 := ⟨gd_t 492 (by decide +kernel) (by decide +kernel), gd_t 493 (by decide +kernel) (by decide +kernel), gd_t 494 (by decide +kernel) (by decide +kernel), gd_t 7 (by decide +kernel) (by decide +kernel), (by decide +kernel), (by decide +kernel), (by decide +kernel)⟩
theorem mlX7_152 : jml RX7 152 yX4_giveBack 1 := ⟨gd_t 504 (by decide +kernel) (by decide +kernel), gd_t 505 (by decide +kernel) (by decide +kernel), gd_t 506 (by decide +kernel) (by decide +kernel), gd_t 8 (by decide +kernel) (by decide +kernel), (by decide +kernel), (by decide +kernel), (by decide +kernel)⟩
theorem mlX7_171 : jml RX7 171 yX0_linkCost 1 := ⟨gd_t 512 (by decide +kernel) (by decide +kernel), gd_t 360 (by decide +kernel) (by decide +kernel), gd_t 361 (by decide +kernel) (by decide +kernel), gd_t 5 (by decide +kernel) (by decide +kernel), (by decide +kernel), (by decide +kernel), (by decide +kernel)⟩
theorem mlX7_175 : jml RX7 175 yX0_shortDemands 2 := ⟨gd_t 513 (by decide +kernel) (by decide +kernel), gd_t 514 (by decide +kernel) (by decide +kernel), gd_t 515 (by decide +kernel) (by decide +kernel), gd_t 5 (by decide +kernel) (by decide +kernel), (by decide +kernel), (by decide +kernel), (by decide +kernel)⟩
theorem mlX7_179 : jml RX7 179 yX0_measure 2 := ⟨gd_t 450 (by decide +kernel) (by decide +kernel), gd_t 340 (by decide +kernel) (by decide +kernel), gd_t 341 (by decide +kernel) (by decide +kernel), gd_t 5 (by decide +kernel) (by decide +kernel), (by decide +kernel), (by decide +kernel), (by decide +kernel)⟩
theorem mlX7_187 : jml RX7 187 yX3_hasDemand 1 := ⟨gd_t 525 (by decide +kernel) (by decide +kernel), gd_t 526 (by decide +kernel) (by decide +kernel), gd_t 527 (by decide +kernel) (by decide +kernel), gd_t 3 (by decide +kernel) (by decide +kernel), (by decide +kernel), (by decide +kernel), (by decide +kernel)⟩
theorem mlX7_193 : jml RX7 193 yX6_markWith 2 := ⟨gd_t 537 (by decide +kernel) (by decide +kernel), gd_t 480 (by decide +kernel) (by decide +kernel), gd_t 481 (by decide +kernel) (by decide +kernel), gd_t 7 (by decide +kernel) (by decide +kernel), (by decide +kernel), (by decide +kernel), (by decide +kernel)⟩
theorem mlX7_196 : jml RX7 196 yX6_isTabu 1 := ⟨gd_t 538 (by decide +kernel) (by decide +kernel), gd_t 484 (by decide +kernel) (by decide +kernel), gd_t 485 (by decide +kernel) (by decide +kernel), gd_t 7 (by decide +kernel) (by decide +kernel), (by decide +kernel), (by decide +kernel), (by decide +kernel)⟩
theorem mlX7_199 : jml RX7 199 yX2_found 1 := ⟨gd_t 543 (by decide +kernel) (by decide +kernel), gd_t 544 (by decide +kernel) (by decide +kernel), gd_t 545 (by decide +kernel) (by decide +kernel), gd_t 6 (by decide +kernel) (by decide +kernel), (by decide +kernel), (by decide +kernel), (by decide +kernel)⟩
theorem mlX7_202 : jml RX7 202 yX7_costWithout 1 := ⟨gd_t 551 (by decide +kernel) (by decide +kernel), gd_t 553 (by decide +kernel) (by decide +kernel), gd_s 10 (by decide +kernel) (by decide +kernel), gd_t 1 (by decide +kernel) (by decide +kernel), (by decide +kernel), (by decide +kernel), (by decide +kernel)⟩
theorem mlX7_211 : jml RX7 211 yX6_linksDown 0 := ⟨gd_t 564 (by decide +kernel) (by decide +kernel), gd_t 565 (by decide +kernel) (by decide +kernel), gd_t 566 (by decide +kernel) (by decide +kernel), gd_t 7 (by decide +kernel) (by decide +kernel), (by decide +kernel), (by decide +kernel), (by decide +kernel)⟩
theorem mlX7_214 : jml RX7 214 yX0_lostDemands 0 := ⟨gd_t 568 (by decide +kernel) (by decide +kernel), gd_t 569 (by decide +kernel) (by decide +kernel), gd_t 570 (by decide +kernel) (by decide +kernel), gd_t 5 (by decide +kernel) (by decide +kernel), (by decide +kernel), (by decide +kernel), (by decide +kernel)⟩
theorem mlX7_217 : jml RX7 217 yX0_overfullLinks 0 := ⟨gd_t 572 (by decide +kernel) (by decide +kernel), gd_t 573 (by decide +kernel) (by decide +kernel), gd_t 574 (by decide +kernel) (by decide +kernel), gd_t 5 (by decide +kernel) (by decide +kernel), (by decide +kernel), (by decide +kernel), (by decide +kernel)⟩
theorem mlX7_226 : jml RX7 226 yX6_begin 1 := ⟨gd_t 331 (by decide +kernel) (by decide +kernel), gd_t 332 (by decide +kernel) (by decide +kernel), gd_t 333 (by decide +kernel) (by decide +kernel), gd_t 7 (by decide +kernel) (by decide +kernel), (by decide +kernel), (by decide +kernel), (by decide +kernel)⟩
theorem mlX7_229 : jml RX7 229 yX7_leadsOn 3 := ⟨gd_t 451 (by decide +kernel) (by decide +kernel), gd_t 453 (by decide +kernel) (by decide +kernel), gd_s 8 (by decide +kernel) (by decide +kernel), gd_t 1 (by decide +kernel) (by decide +kernel), (by decide +kernel), (by decide +kernel), (by decide +kernel)⟩
theorem mlX7_238 : jml RX7 238 yX6_copyFrom 1 := ⟨gd_t 555 (by decide +kernel) (by decide +kernel), gd_t 432 (by decide +kernel) (by decide +kernel), gd_t 433 (by decide +kernel) (by decide +kernel), gd_t 7 (by decide +kernel) (by decide +kernel), (by decide +kernel), (by decide +kernel), (by decide +kernel)⟩
theorem mlX0_49 : jml RX0 49 yX0_measure 2 := ⟨gd_t 339 (by decide +kernel) (by decide +kernel), gd_t 340 (by decide +kernel) (by decide +kernel), gd_t 341 (by decide +kernel) (by decide +kernel), gd_t 5 (by decide +kernel) (by decide +kernel), (by decide +kernel), (by decide +kernel), (by decide +kernel)⟩
theorem mlX0_59 : jml RX0 59 yX0_send 2 := ⟨gd_t 343 (by decide +kernel) (by decide +kernel), gd_t 345 (by decide +kernel) (by decide +kernel), gd_s 4 (by decide +kernel) (by decide +kernel), gd_t 5 (by decide +kernel) (by decide +kernel), (by decide +kernel), (by decide +kernel), (by decide +kernel)⟩
theorem mlX0_65 : jml RX0 65 yX0_linkCost 1 := ⟨gd_t 359 (by decide +kernel) (by decide +kernel), gd_t 360 (by decide +kernel) (by decide +kernel), gd_t 361 (by decide +kernel) (by decide +kernel), gd_t 5 (by decide +kernel) (by decide +kernel), (by decide +kernel), (by decide +kernel), (by decide +kernel)⟩
theorem mlX0_83 : jml RX0 83 yX0_isShort 3 := ⟨gd_t 355 (by decide +kernel) (by decide +kernel), gd_t 356 (by decide +kernel) (by decide +kernel), gd_t 357 (by decide +kernel) (by decide +kernel), gd_t 5 (by decide +kernel) (by decide +kernel), (by decide +kernel), (by decide +kernel), (by decide +kernel)⟩
theorem mlX0_108 : jml RX0 108 yX0_orderFarthestFirst 1 := ⟨gd_t 347 (by decide +kernel) (by decide +kernel), gd_t 349 (by decide +kernel) (by decide +kernel), gd_s 5 (by decide +kernel) (by decide +kernel), gd_t 5 (by decide +kernel) (by decide +kernel), (by decide +kernel), (by decide +kernel), (by decide +kernel)⟩
theorem mlX0_112 : jml RX0 112 yX0_sendOn 3 := ⟨gd_t 351 (by decide +kernel) (by decide +kernel), gd_t 353 (by decide +kernel) (by decide +kernel), gd_s 6 (by decide +kernel) (by decide +kernel), gd_t 5 (by decide +kernel) (by decide +kernel), (by decide +kernel), (by decide +kernel), (by decide +kernel)⟩
theorem mlX2_30 : jml RX2 30 yX6_copyFrom 1 := ⟨gd_t 466 (by decide +kernel) (by decide +kernel), gd_t 432 (by decide +kernel) (by decide +kernel), gd_t 433 (by decide +kernel) (by decide +kernel), gd_t 7 (by decide +kernel) (by decide +kernel), (by decide +kernel), (by decide +kernel), (by decide +kernel)⟩
theorem mlX2_39 : jml RX2 39 yX2_tryWeights 3 := ⟨gd_t 467 (by decide +kernel) (by decide +kernel), gd_t 469 (by decide +kernel) (by decide +kernel), gd_s 9 (by decide +kernel) (by decide +kernel), gd_t 6 (by decide +kernel) (by decide +kernel), (by decide +kernel), (by decide +kernel), (by decide +kernel)⟩
theorem mlX2_52 : jml RX2 52 yX0_costOf 1 := ⟨gd_t 471 (by decide +kernel) (by decide +kernel), gd_t 336 (by decide +kernel) (by decide +kernel), gd_t 337 (by decide +kernel) (by decide +kernel), gd_t 5 (by decide +kernel) (by decide +kernel), (by decide +kernel), (by decide +kernel), (by decide +kernel)⟩
theorem mlX2_58 : jml RX2 58 yX0_isShortForAGoal 2 := ⟨gd_t 472 (by decide +kernel) (by decide +kernel), gd_t 473 (by decide +kernel) (by decide +kernel), gd_t 474 (by decide +kernel) (by decide +kernel), gd_t 5 (by decide +kernel) (by decide +kernel), (by decide +kernel), (by decide +kernel), (by decide +kernel)⟩
theorem msX2_62 : jms RX2 62 yX2_isFree 4 := ⟨gd_t 476 (by decide +kernel) (by decide +kernel), gd_t 477 (by decide +kernel) (by decide +kernel), gd_t 6 (by decide +kernel) (by decide +kernel), (by decide +kernel), (by decide +kernel), (by decide +kernel)⟩
theorem mlX2_69 : jml RX2 69 yX6_markWith 2 := ⟨gd_t 479 (by decide +kernel) (by decide +kernel), gd_t 480 (by decide +kernel) (by decide +kernel), gd_t 481 (by decide +kernel) (by decide +kernel), gd_t 7 (by decide +kernel) (by decide +kernel), (by decide +kernel), (by decide +kernel), (by decide +kernel)⟩
theorem mlX2_73 : jml RX2 73 yX6_isTabu 1 := ⟨gd_t 483 (by decide +kernel) (by decide +kernel), gd_t 484 (by decide +kernel) (by decide +kernel), gd_t 485 (by decide +kernel) (by decide +kernel), gd_t 7 (by decide +kernel) (by decide +kernel), (by decide +kernel), (by decide +kernel), (by decide +kernel)⟩
theorem mlX3_47 : jml RX3 47 yX3_areTwoNodes 2 := ⟨gd_t 313 (by decide +kernel) (by decide +kernel), gd_t 315 (by decide +kernel) (by decide +kernel), gd_s 3 (by decide +kernel) (by decide +kernel), gd_t 3 (by decide +kernel) (by decide +kernel), (by decide +kernel), (by decide +kernel), (by decide +kernel)⟩
theorem msX3_51 : jms RX3 51 yX3_isSize 1 := ⟨gd_t 321 (by decide +kernel) (by decide +kernel), gd_t 322 (by decide +kernel) (by decide +kernel), gd_t 3 (by decide +kernel) (by decide +kernel), (by decide +kernel), (by decide +kernel), (by decide +kernel)⟩
theorem mlX3_58 : jml RX3 58 yX3_hasNode 1 := ⟨gd_t 317 (by decide +kernel) (by decide +kernel), gd_t 318 (by decide +kernel) (by decide +kernel), gd_t 319 (by decide +kernel) (by decide +kernel), gd_t 3 (by decide +kernel) (by decide +kernel), (by decide +kernel), (by decide +kernel), (by decide +kernel)⟩
theorem mlX4_22 : jml RX4 22 yX6_copyFrom 1 := ⟨gd_t 431 (by decide +kernel) (by decide +kernel), gd_t 432 (by decide +kernel) (by decide +kernel), gd_t 433 (by decide +kernel) (by decide +kernel), gd_t 7 (by decide +kernel) (by decide +kernel), (by decide +kernel), (by decide +kernel), (by decide +kernel)⟩
theorem mlX5_15 : jml RX5 15 yX3_clear 0 := ⟨gd_t 293 (by decide +kernel) (by decide +kernel), gd_t 294 (by decide +kernel) (by decide +kernel), gd_t 295 (by decide +kernel) (by decide +kernel), gd_t 3 (by decide +kernel) (by decide +kernel), (by decide +kernel), (by decide +kernel), (by decide +kernel)⟩
theorem mlX5_29 : jml RX5 29 yX5_takeItem 4 := ⟨gd_t 297 (by decide +kernel) (by decide +kernel), gd_t 299 (by decide +kernel) (by decide +kernel), gd_s 1 (by decide +kernel) (by decide +kernel), gd_t 4 (by decide +kernel) (by decide +kernel), (by decide +kernel), (by decide +kernel), (by decide +kernel)⟩
theorem mlX5_33 : jml RX5 33 yX5_takeNumbers 3 := ⟨gd_t 301 (by decide +kernel) (by decide +kernel), gd_t 303 (by decide +kernel) (by decide +kernel), gd_s 2 (by decide +kernel) (by decide +kernel), gd_t 4 (by decide +kernel) (by decide +kernel), (by decide +kernel), (by decide +kernel), (by decide +kernel)⟩
theorem mlX5_37 : jml RX5 37 yX3_takeNodes 1 := ⟨gd_t 305 (by decide +kernel) (by decide +kernel), gd_t 306 (by decide +kernel) (by decide +kernel), gd_t 307 (by decide +kernel) (by decide +kernel), gd_t 3 (by decide +kernel) (by decide +kernel), (by decide +kernel), (by decide +kernel), (by decide +kernel)⟩
theorem mlX5_41 : jml RX5 41 yX3_takeLink 4 := ⟨gd_t 309 (by decide +kernel) (by decide +kernel), gd_t 310 (by decide +kernel) (by decide +kernel), gd_t 311 (by decide +kernel) (by decide +kernel), gd_t 3 (by decide +kernel) (by decide +kernel), (by decide +kernel), (by decide +kernel), (by decide +kernel)⟩
theorem mlX5_45 : jml RX5 45 yX3_takeDemand 3 := ⟨gd_t 327 (by decide +kernel) (by decide +kernel), gd_t 328 (by decide +kernel) (by decide +kernel), gd_t 329 (by decide +kernel) (by decide +kernel), gd_t 3 (by decide +kernel) (by decide +kernel), (by decide +kernel), (by decide +kernel), (by decide +kernel)⟩
theorem mlX6_47 : jml RX6 47 yX6_markWith 2 := ⟨gd_t 491 (by decide +kernel) (by decide +kernel), gd_t 480 (by decide +kernel) (by decide +kernel), gd_t 481 (by decide +kernel) (by decide +kernel), gd_t 7 (by decide +kernel) (by decide +kernel), (by decide +kernel), (by decide +kernel), (by decide +kernel)⟩
theorem mlL_13 : jml RL 13 yX7_write 1 := ⟨gd_t 402 (by decide +kernel) (by decide +kernel), gd_t 403 (by decide +kernel) (by decide +kernel), gd_t 404 (by decide +kernel) (by decide +kernel), gd_t 1 (by decide +kernel) (by decide +kernel), (by decide +kernel), (by decide +kernel), (by decide +kernel)⟩
theorem mlL_17 : jml RL 17 yX8_write 1 := ⟨gd_t 721 (by decide +kernel) (by decide +kernel), gd_t 722 (by decide +kernel) (by decide +kernel), gd_t 723 (by decide +kernel) (by decide +kernel), gd_t 14 (by decide +kernel) (by decide +kernel), (by decide +kernel), (by decide +kernel), (by decide +kernel)⟩
theorem mlL_18 : jml RL 18 yX7_wipe 0 := ⟨gd_t 406 (by decide +kernel) (by decide +kernel), gd_t 407 (by decide +kernel) (by decide +kernel), gd_t 408 (by decide +kernel) (by decide +kernel), gd_t 1 (by decide +kernel) (by decide +kernel), (by decide +kernel), (by decide +kernel), (by decide +kernel)⟩
theorem mlL_22 : jml RL 22 yX8_wipe 0 := ⟨gd_t 728 (by decide +kernel) (by decide +kernel), gd_t 729 (by decide +kernel) (by decide +kernel), gd_t 730 (by decide +kernel) (by decide +kernel), gd_t 14 (by decide +kernel) (by decide +kernel), (by decide +kernel), (by decide +kernel), (by decide +kernel)⟩
theorem mlL_23 : jml RL 23 yX7_fault 0 := ⟨gd_t 410 (by decide +kernel) (by decide +kernel), gd_t 411 (by decide +kernel) (by decide +kernel), gd_t 412 (by decide +kernel) (by decide +kernel), gd_t 1 (by decide +kernel) (by decide +kernel), (by decide +kernel), (by decide +kernel), (by decide +kernel)⟩
theorem mlL_26 : jml RL 26 yX8_fault 0 := ⟨gd_t 732 (by decide +kernel) (by decide +kernel), gd_t 733 (by decide +kernel) (by decide +kernel), gd_t 734 (by decide +kernel) (by decide +kernel), gd_t 14 (by decide +kernel) (by decide +kernel), (by decide +kernel), (by decide +kernel), (by decide +kernel)⟩
theorem mlL_27 : jml RL 27 yX7_lay 0 := ⟨gd_t 414 (by decide +kernel) (by decide +kernel), gd_t 415 (by decide +kernel) (by decide +kernel), gd_t 416 (by decide +kernel) (by decide +kernel), gd_t 1 (by decide +kernel) (by decide +kernel), (by decide +kernel), (by decide +kernel), (by decide +kernel)⟩
theorem mlL_30 : jml RL 30 yX8_lay 0 := ⟨gd_t 760 (by decide +kernel) (by decide +kernel), gd_t 761 (by decide +kernel) (by decide +kernel), gd_t 762 (by decide +kernel) (by decide +kernel), gd_t 14 (by decide +kernel) (by decide +kernel), (by decide +kernel), (by decide +kernel), (by decide +kernel)⟩
theorem mlL_31 : jml RL 31 yX7_move 2 := ⟨gd_t 418 (by decide +kernel) (by decide +kernel), gd_t 419 (by decide +kernel) (by decide +kernel), gd_t 420 (by decide +kernel) (by decide +kernel), gd_t 1 (by decide +kernel) (by decide +kernel), (by decide +kernel), (by decide +kernel), (by decide +kernel)⟩
theorem mlL_35 : jml RL 35 yX8_move 2 := ⟨gd_t 768 (by decide +kernel) (by decide +kernel), gd_t 769 (by decide +kernel) (by decide +kernel), gd_t 770 (by decide +kernel) (by decide +kernel), gd_t 14 (by decide +kernel) (by decide +kernel), (by decide +kernel), (by decide +kernel), (by decide +kernel)⟩
theorem mlL_36 : jml RL 36 yX7_even 2 := ⟨gd_t 441 (by decide +kernel) (by decide +kernel), gd_t 442 (by decide +kernel) (by decide +kernel), gd_t 443 (by decide +kernel) (by decide +kernel), gd_t 1 (by decide +kernel) (by decide +kernel), (by decide +kernel), (by decide +kernel), (by decide +kernel)⟩
theorem mlL_39 : jml RL 39 yX8_even 2 := ⟨gd_t 784 (by decide +kernel) (by decide +kernel), gd_t 785 (by decide +kernel) (by decide +kernel), gd_t 786 (by decide +kernel) (by decide +kernel), gd_t 14 (by decide +kernel) (by decide +kernel), (by decide +kernel), (by decide +kernel), (by decide +kernel)⟩
theorem mlL_40 : jml RL 40 yX7_step 1 := ⟨gd_t 458 (by decide +kernel) (by decide +kernel), gd_t 459 (by decide +kernel) (by decide +kernel), gd_t 460 (by decide +kernel) (by decide +kernel), gd_t 1 (by decide +kernel) (by decide +kernel), (by decide +kernel), (by decide +kernel), (by decide +kernel)⟩
theorem mlL_43 : jml RL 43 yX8_step 1 := ⟨gd_t 796 (by decide +kernel) (by decide +kernel), gd_t 797 (by decide +kernel) (by decide +kernel), gd_t 798 (by decide +kernel) (by decide +kernel), gd_t 14 (by decide +kernel) (by decide +kernel), (by decide +kernel), (by decide +kernel), (by decide +kernel)⟩
theorem mlL_44 : jml RL 44 yX7_turn 2 := ⟨gd_t 496 (by decide +kernel) (by decide +kernel), gd_t 497 (by decide +kernel) (by decide +kernel), gd_t 498 (by decide +kernel) (by decide +kernel), gd_t 1 (by decide +kernel) (by decide +kernel), (by decide +kernel), (by decide +kernel), (by decide +kernel)⟩
theorem mlL_47 : jml RL 47 yX8_turn 2 := ⟨gd_t 828 (by decide +kernel) (by decide +kernel), gd_t 829 (by decide +kernel) (by decide +kernel), gd_t 830 (by decide +kernel) (by decide +kernel), gd_t 14 (by decide +kernel) (by decide +kernel), (by decide +kernel), (by decide +kernel), (by decide +kernel)⟩
theorem mlL_48 : jml RL 48 yX7_undo 0 := ⟨gd_t 500 (by decide +kernel) (by decide +kernel), gd_t 501 (by decide +kernel) (by decide +kernel), gd_t 502 (by decide +kernel) (by decide +kernel), gd_t 1 (by decide +kernel) (by decide +kernel), (by decide +kernel), (by decide +kernel), (by decide +kernel)⟩
theorem mlL_51 : jml RL 51 yX8_undo 0 := ⟨gd_t 764 (by decide +kernel) (by decide +kernel), gd_t 765 (by decide +kernel) (by decide +kernel), gd_t 766 (by decide +kernel) (by decide +kernel), gd_t 14 (by decide +kernel) (by decide +kernel), (by decide +kernel), (by decide +kernel), (by decide +kernel)⟩
theorem mlL_52 : jml RL 52 yX7_link 2 := ⟨gd_t 508 (by decide +kernel) (by decide +kernel), gd_t 509 (by decide +kernel) (by decide +kernel), gd_t 510 (by decide +kernel) (by decide +kernel), gd_t 1 (by decide +kernel) (by decide +kernel), (by decide +kernel), (by decide +kernel), (by decide +kernel)⟩
theorem mlL_55 : jml RL 55 yX8_link 2 := ⟨gd_t 832 (by decide +kernel) (by decide +kernel), gd_t 833 (by decide +kernel) (by decide +kernel), gd_t 834 (by decide +kernel) (by decide +kernel), gd_t 14 (by decide +kernel) (by decide +kernel), (by decide +kernel), (by decide +kernel), (by decide +kernel)⟩
theorem mlL_56 : jml RL 56 yX7_far 2 := ⟨gd_t 517 (by decide +kernel) (by decide +kernel), gd_t 518 (by decide +kernel) (by decide +kernel), gd_t 519 (by decide +kernel) (by decide +kernel), gd_t 1 (by decide +kernel) (by decide +kernel), (by decide +kernel), (by decide +kernel), (by decide +kernel)⟩
theorem mlL_59 : jml RL 59 yX8_far 2 := ⟨gd_t 840 (by decide +kernel) (by decide +kernel), gd_t 841 (by decide +kernel) (by decide +kernel), gd_t 842 (by decide +kernel) (by decide +kernel), gd_t 14 (by decide +kernel) (by decide +kernel), (by decide +kernel), (by decide +kernel), (by decide +kernel)⟩
theorem mlL_60 : jml RL 60 yX7_share 2 := ⟨gd_t 521 (by decide +kernel) (by decide +kernel), gd_t 522 (by decide +kernel) (by decide +kernel), gd_t 523 (by decide +kernel) (by decide +kernel), gd_t 1 (by decide +kernel) (by decide +kernel), (by decide +kernel), (by decide +kernel), (by decide +kernel)⟩
theorem mlL_63 : jml RL 63 yX8_share 2 := ⟨gd_t 844 (by decide +kernel) (by decide +kernel), gd_t 845 (by decide +kernel) (by decide +kernel), gd_t 846 (by decide +kernel) (by decide +kernel), gd_t 14 (by decide +kernel) (by decide +kernel), (by decide +kernel), (by decide +kernel), (by decide +kernel)⟩
theorem mlL_64 : jml RL 64 yX7_cost 0 := ⟨gd_t 529 (by decide +kernel) (by decide +kernel), gd_t 530 (by decide +kernel) (by decide +kernel), gd_t 531 (by decide +kernel) (by decide +kernel), gd_t 1 (by decide +kernel) (by decide +kernel), (by decide +kernel), (by decide +kernel), (by decide +kernel)⟩
theorem mlL_67 : jml RL 67 yX8_cost 0 := ⟨gd_t 848 (by decide +kernel) (by decide +kernel), gd_t 849 (by decide +kernel) (by decide +kernel), gd_t 850 (by decide +kernel) (by decide +kernel), gd_t 14 (by decide +kernel) (by decide +kernel), (by decide +kernel), (by decide +kernel), (by decide +kernel)⟩
theorem mlL_68 : jml RL 68 yX7_tabu 2 := ⟨gd_t 533 (by decide +kernel) (by decide +kernel), gd_t 534 (by decide +kernel) (by decide +kernel), gd_t 535 (by decide +kernel) (by decide +kernel), gd_t 1 (by decide +kernel) (by decide +kernel), (by decide +kernel), (by decide +kernel), (by decide +kernel)⟩
theorem mlL_71 : jml RL 71 yX8_tabu 2 := ⟨gd_t 852 (by decide +kernel) (by decide +kernel), gd_t 853 (by decide +kernel) (by decide +kernel), gd_t 854 (by decide +kernel) (by decide +kernel), gd_t 14 (by decide +kernel) (by decide +kernel), (by decide +kernel), (by decide +kernel), (by decide +kernel)⟩
theorem mlL_72 : jml RL 72 yX7_best 1 := ⟨gd_t 539 (by decide +kernel) (by decide +kernel), gd_t 540 (by decide +kernel) (by decide +kernel), gd_t 541 (by decide +kernel) (by decide +kernel), gd_t 1 (by decide +kernel) (by decide +kernel), (by decide +kernel), (by decide +kernel), (by decide +kernel)⟩
theorem mlL_75 : jml RL 75 yX8_best 1 := ⟨gd_t 856 (by decide +kernel) (by decide +kernel), gd_t 857 (by decide +kernel) (by decide +kernel), gd_t 858 (by decide +kernel) (by decide +kernel), gd_t 14 (by decide +kernel) (by decide +kernel), (by decide +kernel), (by decide +kernel), (by decide +kernel)⟩
theorem mlL_76 : jml RL 76 yX7_worst 1 := ⟨gd_t 547 (by decide +kernel) (by decide +kernel), gd_t 548 (by decide +kernel) (by decide +kernel), gd_t 549 (by decide +kernel) (by decide +kernel), gd_t 1 (by decide +kernel) (by decide +kernel), (by decide +kernel), (by decide +kernel), (by decide +kernel)⟩
theorem mlL_79 : jml RL 79 yX8_worst 1 := ⟨gd_t 864 (by decide +kernel) (by decide +kernel), gd_t 865 (by decide +kernel) (by decide +kernel), gd_t 866 (by decide +kernel) (by decide +kernel), gd_t 14 (by decide +kernel) (by decide +kernel), (by decide +kernel), (by decide +kernel), (by decide +kernel)⟩
theorem mlL_80 : jml RL 80 yX7_rescue 2 := ⟨gd_t 556 (by decide +kernel) (by decide +kernel), gd_t 557 (by decide +kernel) (by decide +kernel), gd_t 558 (by decide +kernel) (by decide +kernel), gd_t 1 (by decide +kernel) (by decide +kernel), (by decide +kernel), (by decide +kernel), (by decide +kernel)⟩
theorem mlL_83 : jml RL 83 yX8_rescue 2 := ⟨gd_t 872 (by decide +kernel) (by decide +kernel), gd_t 873 (by decide +kernel) (by decide +kernel), gd_t 874 (by decide +kernel) (by decide +kernel), gd_t 14 (by decide +kernel) (by decide +kernel), (by decide +kernel), (by decide +kernel), (by decide +kernel)⟩
theorem mlL_84 : jml RL 84 yX7_count 1 := ⟨gd_t 560 (by decide +kernel) (by decide +kernel), gd_t 561 (by decide +kernel) (by decide +kernel), gd_t 562 (by decide +kernel) (by decide +kernel), gd_t 1 (by decide +kernel) (by decide +kernel), (by decide +kernel), (by decide +kernel), (by decide +kernel)⟩
theorem mlL_87 : jml RL 87 yX8_count 1 := ⟨gd_t 876 (by decide +kernel) (by decide +kernel), gd_t 877 (by decide +kernel) (by decide +kernel), gd_t 878 (by decide +kernel) (by decide +kernel), gd_t 14 (by decide +kernel) (by decide +kernel), (by decide +kernel), (by decide +kernel), (by decide +kernel)⟩
theorem mlX8_46 : jml RX8 46 yX8_beginRead 0 := ⟨gd_t 582 (by decide +kernel) (by decide +kernel), gd_t 584 (by decide +kernel) (by decide +kernel), gd_s 11 (by decide +kernel) (by decide +kernel), gd_t 14 (by decide +kernel) (by decide +kernel), (by decide +kernel), (by decide +kernel), (by decide +kernel)⟩
theorem mlX8_53 : jml RX8 53 yX8_putLink 4 := ⟨gd_t 586 (by decide +kernel) (by decide +kernel), gd_t 588 (by decide +kernel) (by decide +kernel), gd_s 12 (by decide +kernel) (by decide +kernel), gd_t 14 (by decide +kernel) (by decide +kernel), (by decide +kernel), (by decide +kernel), (by decide +kernel)⟩
theorem mlX8_57 : jml RX8 57 yX8_putDemand 3 := ⟨gd_t 590 (by decide +kernel) (by decide +kernel), gd_t 592 (by decide +kernel) (by decide +kernel), gd_s 13 (by decide +kernel) (by decide +kernel), gd_t 14 (by decide +kernel) (by decide +kernel), (by decide +kernel), (by decide +kernel), (by decide +kernel)⟩
theorem mlX8_61 : jml RX8 61 yX8_takeRead 0 := ⟨gd_t 594 (by decide +kernel) (by decide +kernel), gd_t 596 (by decide +kernel) (by decide +kernel), gd_s 14 (by decide +kernel) (by decide +kernel), gd_t 14 (by decide +kernel) (by decide +kernel), (by decide +kernel), (by decide +kernel), (by decide +kernel)⟩
theorem mlX8_83 : jml RX8 83 yX8_costNow 0 := ⟨gd_t 598 (by decide +kernel) (by decide +kernel), gd_t 600 (by decide +kernel) (by decide +kernel), gd_s 15 (by decide +kernel) (by decide +kernel), gd_t 14 (by decide +kernel) (by decide +kernel), (by decide +kernel), (by decide +kernel), (by decide +kernel)⟩
theorem msX8_96 : jms RX8 96 yX8_in 3 := ⟨gd_t 725 (by decide +kernel) (by decide +kernel), gd_t 726 (by decide +kernel) (by decide +kernel), gd_t 14 (by decide +kernel) (by decide +kernel), (by decide +kernel), (by decide +kernel), (by decide +kernel)⟩
theorem mlX8_100 : jml RX8 100 yX8_isFigure 0 := ⟨gd_t 748 (by decide +kernel) (by decide +kernel), gd_t 750 (by decide +kernel) (by decide +kernel), gd_s 28 (by decide +kernel) (by decide +kernel), gd_t 14 (by decide +kernel) (by decide +kernel), (by decide +kernel), (by decide +kernel), (by decide +kernel)⟩
theorem mlX8_104 : jml RX8 104 yX8_isNumber 3 := ⟨gd_t 752 (by decide +kernel) (by decide +kernel), gd_t 754 (by decide +kernel) (by decide +kernel), gd_s 29 (by decide +kernel) (by decide +kernel), gd_t 14 (by decide +kernel) (by decide +kernel), (by decide +kernel), (by decide +kernel), (by decide +kernel)⟩
theorem mlX8_107 : jml RX8 107 yX8_readNumbers 1 := ⟨gd_t 744 (by decide +kernel) (by decide +kernel), gd_t 746 (by decide +kernel) (by decide +kernel), gd_s 27 (by decide +kernel) (by decide +kernel), gd_t 14 (by decide +kernel) (by decide +kernel), (by decide +kernel), (by decide +kernel), (by decide +kernel)⟩
theorem mlX8_111 : jml RX8 111 yX8_areEnds 0 := ⟨gd_t 756 (by decide +kernel) (by decide +kernel), gd_t 758 (by decide +kernel) (by decide +kernel), gd_s 30 (by decide +kernel) (by decide +kernel), gd_t 14 (by decide +kernel) (by decide +kernel), (by decide +kernel), (by decide +kernel), (by decide +kernel)⟩
theorem mlX8_114 : jml RX8 114 yX8_readItem 1 := ⟨gd_t 740 (by decide +kernel) (by decide +kernel), gd_t 742 (by decide +kernel) (by decide +kernel), gd_s 26 (by decide +kernel) (by decide +kernel), gd_t 14 (by decide +kernel) (by decide +kernel), (by decide +kernel), (by decide +kernel), (by decide +kernel)⟩
theorem mlX8_117 : jml RX8 117 yX8_readText 0 := ⟨gd_t 736 (by decide +kernel) (by decide +kernel), gd_t 738 (by decide +kernel) (by decide +kernel), gd_s 25 (by decide +kernel) (by decide +kernel), gd_t 14 (by decide +kernel) (by decide +kernel), (by decide +kernel), (by decide +kernel), (by decide +kernel)⟩
theorem mlX8_120 : jml RX8 120 yX8_end 1 := ⟨gd_t 614 (by decide +kernel) (by decide +kernel), gd_t 616 (by decide +kernel) (by decide +kernel), gd_s 19 (by decide +kernel) (by decide +kernel), gd_t 14 (by decide +kernel) (by decide +kernel), (by decide +kernel), (by decide +kernel), (by decide +kernel)⟩
theorem mlX8_124 : jml RX8 124 yX8_isUp 1 := ⟨gd_t 618 (by decide +kernel) (by decide +kernel), gd_t 620 (by decide +kernel) (by decide +kernel), gd_s 20 (by decide +kernel) (by decide +kernel), gd_t 14 (by decide +kernel) (by decide +kernel), (by decide +kernel), (by decide +kernel), (by decide +kernel)⟩
theorem mlX8_127 : jml RX8 127 yX8_begin 1 := ⟨gd_t 622 (by decide +kernel) (by decide +kernel), gd_t 624 (by decide +kernel) (by decide +kernel), gd_s 21 (by decide +kernel) (by decide +kernel), gd_t 14 (by decide +kernel) (by decide +kernel), (by decide +kernel), (by decide +kernel), (by decide +kernel)⟩
theorem mlX8_130 : jml RX8 130 yX8_isShort 1 := ⟨gd_t 630 (by decide +kernel) (by decide +kernel), gd_t 632 (by decide +kernel) (by decide +kernel), gd_s 23 (by decide +kernel) (by decide +kernel), gd_t 14 (by decide +kernel) (by decide +kernel), (by decide +kernel), (by decide +kernel), (by decide +kernel)⟩
theorem mlX8_133 : jml RX8 133 yX8_findFar 1 := ⟨gd_t 610 (by decide +kernel) (by decide +kernel), gd_t 612 (by decide +kernel) (by decide +kernel), gd_s 18 (by decide +kernel) (by decide +kernel), gd_t 14 (by decide +kernel) (by decide +kernel), (by decide +kernel), (by decide +kernel), (by decide +kernel)⟩
theorem mlX8_137 : jml RX8 137 yX8_goOn 1 := ⟨gd_t 626 (by decide +kernel) (by decide +kernel), gd_t 628 (by decide +kernel) (by decide +kernel), gd_s 22 (by decide +kernel) (by decide +kernel), gd_t 14 (by decide +kernel) (by decide +kernel), (by decide +kernel), (by decide +kernel), (by decide +kernel)⟩
theorem mlX8_143 : jml RX8 143 yX8_layShares 1 := ⟨gd_t 606 (by decide +kernel) (by decide +kernel), gd_t 608 (by decide +kernel) (by decide +kernel), gd_s 17 (by decide +kernel) (by decide +kernel), gd_t 14 (by decide +kernel) (by decide +kernel), (by decide +kernel), (by decide +kernel), (by decide +kernel)⟩
theorem msX8_146 : jms RX8 146 yX8_piece 3 := ⟨gd_t 638 (by decide +kernel) (by decide +kernel), gd_t 639 (by decide +kernel) (by decide +kernel), gd_t 14 (by decide +kernel) (by decide +kernel), (by decide +kernel), (by decide +kernel), (by decide +kernel)⟩
theorem mlX8_151 : jml RX8 151 yX8_layLoads 0 := ⟨gd_t 602 (by decide +kernel) (by decide +kernel), gd_t 604 (by decide +kernel) (by decide +kernel), gd_s 16 (by decide +kernel) (by decide +kernel), gd_t 14 (by decide +kernel) (by decide +kernel), (by decide +kernel), (by decide +kernel), (by decide +kernel)⟩
theorem mlX8_154 : jml RX8 154 yX8_costOf 1 := ⟨gd_t 634 (by decide +kernel) (by decide +kernel), gd_t 636 (by decide +kernel) (by decide +kernel), gd_s 24 (by decide +kernel) (by decide +kernel), gd_t 14 (by decide +kernel) (by decide +kernel), (by decide +kernel), (by decide +kernel), (by decide +kernel)⟩
theorem mlX8_157 : jml RX8 157 yX8_markNow 0 := ⟨gd_t 812 (by decide +kernel) (by decide +kernel), gd_t 814 (by decide +kernel) (by decide +kernel), gd_s 39 (by decide +kernel) (by decide +kernel), gd_t 14 (by decide +kernel) (by decide +kernel), (by decide +kernel), (by decide +kernel), (by decide +kernel)⟩
theorem mlX8_160 : jml RX8 160 yX8_isTabu 1 := ⟨gd_t 816 (by decide +kernel) (by decide +kernel), gd_t 818 (by decide +kernel) (by decide +kernel), gd_s 40 (by decide +kernel) (by decide +kernel), gd_t 14 (by decide +kernel) (by decide +kernel), (by decide +kernel), (by decide +kernel), (by decide +kernel)⟩
theorem mlX8_169 : jml RX8 169 yX8_costBy 2 := ⟨gd_t 804 (by decide +kernel) (by decide +kernel), gd_t 806 (by decide +kernel) (by decide +kernel), gd_s 37 (by decide +kernel) (by decide +kernel), gd_t 14 (by decide +kernel) (by decide +kernel), (by decide +kernel), (by decide +kernel), (by decide +kernel)⟩
theorem mlX8_173 : jml RX8 173 yX8_isTabuBy 2 := ⟨gd_t 808 (by decide +kernel) (by decide +kernel), gd_t 810 (by decide +kernel) (by decide +kernel), gd_s 38 (by decide +kernel) (by decide +kernel), gd_t 14 (by decide +kernel) (by decide +kernel), (by decide +kernel), (by decide +kernel), (by decide +kernel)⟩
theorem mlX8_180 : jml RX8 180 yX8_isLink 1 := ⟨gd_t 772 (by decide +kernel) (by decide +kernel), gd_t 774 (by decide +kernel) (by decide +kernel), gd_s 31 (by decide +kernel) (by decide +kernel), gd_t 14 (by decide +kernel) (by decide +kernel), (by decide +kernel), (by decide +kernel), (by decide +kernel)⟩
theorem mlX8_183 : jml RX8 183 yX8_note 0 := ⟨gd_t 776 (by decide +kernel) (by decide +kernel), gd_t 778 (by decide +kernel) (by decide +kernel), gd_s 32 (by decide +kernel) (by decide +kernel), gd_t 14 (by decide +kernel) (by decide +kernel), (by decide +kernel), (by decide +kernel), (by decide +kernel)⟩
theorem mlX8_186 : jml RX8 186 yX8_tellLeast 0 := ⟨gd_t 780 (by decide +kernel) (by decide +kernel), gd_t 782 (by decide +kernel) (by decide +kernel), gd_s 33 (by decide +kernel) (by decide +kernel), gd_t 14 (by decide +kernel) (by decide +kernel), (by decide +kernel), (by decide +kernel), (by decide +kernel)⟩
theorem mlX8_189 : jml RX8 189 yX8_isNode 1 := ⟨gd_t 788 (by decide +kernel) (by decide +kernel), gd_t 790 (by decide +kernel) (by decide +kernel), gd_s 34 (by decide +kernel) (by decide +kernel), gd_t 14 (by decide +kernel) (by decide +kernel), (by decide +kernel), (by decide +kernel), (by decide +kernel)⟩
theorem mlX8_192 : jml RX8 192 yX8_isEvened 2 := ⟨gd_t 792 (by decide +kernel) (by decide +kernel), gd_t 794 (by decide +kernel) (by decide +kernel), gd_s 35 (by decide +kernel) (by decide +kernel), gd_t 14 (by decide +kernel) (by decide +kernel), (by decide +kernel), (by decide +kernel), (by decide +kernel)⟩
theorem mlX8_195 : jml RX8 195 yX8_findMove 2 := ⟨gd_t 800 (by decide +kernel) (by decide +kernel), gd_t 802 (by decide +kernel) (by decide +kernel), gd_s 36 (by decide +kernel) (by decide +kernel), gd_t 14 (by decide +kernel) (by decide +kernel), (by decide +kernel), (by decide +kernel), (by decide +kernel)⟩
theorem mlX8_199 : jml RX8 199 yX8_becomesTabu 1 := ⟨gd_t 824 (by decide +kernel) (by decide +kernel), gd_t 826 (by decide +kernel) (by decide +kernel), gd_s 42 (by decide +kernel) (by decide +kernel), gd_t 14 (by decide +kernel) (by decide +kernel), (by decide +kernel), (by decide +kernel), (by decide +kernel)⟩
theorem mlX8_202 : jml RX8 202 yX8_stepOnce 0 := ⟨gd_t 820 (by decide +kernel) (by decide +kernel), gd_t 822 (by decide +kernel) (by decide +kernel), gd_s 41 (by decide +kernel) (by decide +kernel), gd_t 14 (by decide +kernel) (by decide +kernel), (by decide +kernel), (by decide +kernel), (by decide +kernel)⟩
theorem mlX8_205 : jml RX8 205 yX8_shortFor 1 := ⟨gd_t 836 (by decide +kernel) (by decide +kernel), gd_t 838 (by decide +kernel) (by decide +kernel), gd_s 43 (by decide +kernel) (by decide +kernel), gd_t 14 (by decide +kernel) (by decide +kernel), (by decide +kernel), (by decide +kernel), (by decide +kernel)⟩
theorem mlX8_208 : jml RX8 208 yX8_bestOf 1 := ⟨gd_t 860 (by decide +kernel) (by decide +kernel), gd_t 862 (by decide +kernel) (by decide +kernel), gd_s 44 (by decide +kernel) (by decide +kernel), gd_t 14 (by decide +kernel) (by decide +kernel), (by decide +kernel), (by decide +kernel), (by decide +kernel)⟩
theorem mlX8_211 : jml RX8 211 yX8_costTurned 1 := ⟨gd_t 868 (by decide +kernel) (by decide +kernel), gd_t 870 (by decide +kernel) (by decide +kernel), gd_s 45 (by decide +kernel) (by decide +kernel), gd_t 14 (by decide +kernel) (by decide +kernel), (by decide +kernel), (by decide +kernel), (by decide +kernel)⟩
theorem msX8_214 : jms RX8 214 yX8_ones 1 := ⟨gd_t 880 (by decide +kernel) (by decide +kernel), gd_t 881 (by decide +kernel) (by decide +kernel), gd_t 14 (by decide +kernel) (by decide +kernel), (by decide +kernel), (by decide +kernel), (by decide +kernel)⟩
theorem mlX8_217 : jml RX8 217 yX8_moreThanFull 0 := ⟨gd_t 883 (by decide +kernel) (by decide +kernel), gd_t 885 (by decide +kernel) (by decide +kernel), gd_s 46 (by decide +kernel) (by decide +kernel), gd_t 14 (by decide +kernel) (by decide +kernel), (by decide +kernel), (by decide +kernel), (by decide +kernel)⟩
theorem st_isWeight : Cond.static yX7_isWeight ∈ lw_gd := gd_t 325 (by decide +kernel) (by decide +kernel)
-- Jvm.Cond.constant "LoadWeightsModel" (150 : Nat) (2000000000 : Int32)

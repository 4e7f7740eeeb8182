/-! what the tables say, one row a fact (printed by wip/whole/gen_facts.py) -/
theorem cls_X0 : CLS 0 RX0 TX0 2 := ⟨rfl, by decide +kernel, ⟨tyX0, tyX0_ok⟩, nmX0⟩
theorem cls_X1 : CLS 1 RX1 TX1 4 := ⟨rfl, by decide +kernel, ⟨tyX1, tyX1_ok⟩, nmX1⟩
theorem cls_X2 : CLS 2 RX2 TX2 15 := ⟨rfl, by decide +kernel, ⟨tyX2, tyX2_ok⟩, nmX2⟩
theorem cls_X4 : CLS 3 RX4 TX4 6 := ⟨rfl, by decide +kernel, ⟨tyX4, tyX4_ok⟩, nmX4⟩
theorem cls_X5 : CLS 4 RX5 TX5 3 := ⟨rfl, by decide +kernel, ⟨tyX5, tyX5_ok⟩, nmX5⟩
theorem cls_X6 : CLS 5 RX6 TX6 6 := ⟨rfl, by decide +kernel, ⟨tyX6, tyX6_ok⟩, nmX6⟩
theorem cls_X7 : CLS 6 RX7 TX7 2 := ⟨rfl, by decide +kernel, ⟨tyX7, tyX7_ok⟩, nmX7⟩
theorem cls_X8 : CLS 7 RX8 TX8 10 := ⟨rfl, by decide +kernel, ⟨tyX8, tyX8_ok⟩, nmX8⟩
theorem cls_X9 : CLS 8 RX9 TX9 15 := ⟨rfl, by decide +kernel, ⟨tyX9, tyX9_ok⟩, nmX9⟩
theorem fg_X8_10 : FG RX8 10 7 0 := ⟨RX8, TX8, 10, cls_X8, by decide, tbl_t 230 (by decide +kernel) rfl⟩
theorem fg_X8_16 : FG RX8 16 7 1 := ⟨RX8, TX8, 10, cls_X8, by decide, tbl_t 231 (by decide +kernel) rfl⟩
theorem fg_X8_19 : FG RX8 19 7 2 := ⟨RX8, TX8, 10, cls_X8, by decide, tbl_t 232 (by decide +kernel) rfl⟩
theorem fg_X8_22 : FG RX8 22 7 3 := ⟨RX8, TX8, 10, cls_X8, by decide, tbl_t 233 (by decide +kernel) rfl⟩
theorem fg_X8_28 : FG RX8 28 7 4 := ⟨RX8, TX8, 10, cls_X8, by decide, tbl_t 234 (by decide +kernel) rfl⟩
theorem fg_X8_35 : FG RX8 35 7 5 := ⟨RX8, TX8, 10, cls_X8, by decide, tbl_t 235 (by decide +kernel) rfl⟩
theorem fg_X8_44 : FG RX8 44 7 6 := ⟨RX8, TX8, 10, cls_X8, by decide, tbl_t 236 (by decide +kernel) rfl⟩
theorem fg_X8_51 : FG RX8 51 7 7 := ⟨RX8, TX8, 10, cls_X8, by decide, tbl_t 237 (by decide +kernel) rfl⟩
theorem fg_X8_55 : FG RX8 55 7 8 := ⟨RX8, TX8, 10, cls_X8, by decide, tbl_t 238 (by decide +kernel) rfl⟩
theorem fg_X8_59 : FG RX8 59 7 9 := ⟨RX8, TX8, 10, cls_X8, by decide, tbl_t 239 (by decide +kernel) rfl⟩
theorem fp_X8_59 : FP RX8 59 7 9 .boolean := ⟨RX8, TX8, 10, cls_X8, by decide, tbl_t 239 (by decide +kernel) rfl, rfl, by decide +kernel⟩
theorem fg_X8_71 : FG RX8 71 2 0 := ⟨RX2, TX2, 15, cls_X2, by decide, tbl_t 95 (by decide +kernel) rfl⟩
theorem fg_X8_88 : FG RX8 88 3 0 := ⟨RX4, TX4, 6, cls_X4, by decide, tbl_t 39 (by decide +kernel) rfl⟩
theorem fg_X8_91 : FG RX8 91 3 1 := ⟨RX4, TX4, 6, cls_X4, by decide, tbl_t 42 (by decide +kernel) rfl⟩
theorem fg_X8_94 : FG RX8 94 3 2 := ⟨RX4, TX4, 6, cls_X4, by decide, tbl_t 45 (by decide +kernel) rfl⟩
theorem fg_X8_97 : FG RX8 97 3 3 := ⟨RX4, TX4, 6, cls_X4, by decide, tbl_t 48 (by decide +kernel) rfl⟩
theorem fg_X8_100 : FG RX8 100 3 4 := ⟨RX4, TX4, 6, cls_X4, by decide, tbl_t 50 (by decide +kernel) rfl⟩
theorem fg_X8_111 : FG RX8 111 2 5 := ⟨RX2, TX2, 15, cls_X2, by decide, tbl_t 106 (by decide +kernel) rfl⟩
theorem fp_X8_111 : FP RX8 111 2 5 .int := ⟨RX2, TX2, 15, cls_X2, by decide, tbl_t 106 (by decide +kernel) rfl, rfl, by decide +kernel⟩
theorem fg_X8_126 : FG RX8 126 2 12 := ⟨RX2, TX2, 15, cls_X2, by decide, tbl_t 120 (by decide +kernel) rfl⟩
theorem fp_X8_126 : FP RX8 126 2 12 .int := ⟨RX2, TX2, 15, cls_X2, by decide, tbl_t 120 (by decide +kernel) rfl, rfl, by decide +kernel⟩
theorem fg_X8_165 : FG RX8 165 2 10 := ⟨RX2, TX2, 15, cls_X2, by decide, tbl_t 116 (by decide +kernel) rfl⟩
theorem fp_X8_165 : FP RX8 165 2 10 .int := ⟨RX2, TX2, 15, cls_X2, by decide, tbl_t 116 (by decide +kernel) rfl, rfl, by decide +kernel⟩
theorem fg_X8_171 : FG RX8 171 2 1 := ⟨RX2, TX2, 15, cls_X2, by decide, tbl_t 99 (by decide +kernel) rfl⟩
theorem fg_X8_184 : FG RX8 184 1 0 := ⟨RX1, TX1, 4, cls_X1, by decide, tbl_t 74 (by decide +kernel) rfl⟩
theorem fg_X8_187 : FG RX8 187 1 1 := ⟨RX1, TX1, 4, cls_X1, by decide, tbl_t 77 (by decide +kernel) rfl⟩
theorem fg_X8_190 : FG RX8 190 1 2 := ⟨RX1, TX1, 4, cls_X1, by decide, tbl_t 81 (by decide +kernel) rfl⟩
theorem fg_X8_202 : FG RX8 202 2 11 := ⟨RX2, TX2, 15, cls_X2, by decide, tbl_t 118 (by decide +kernel) rfl⟩
theorem fp_X8_202 : FP RX8 202 2 11 .int := ⟨RX2, TX2, 15, cls_X2, by decide, tbl_t 118 (by decide +kernel) rfl, rfl, by decide +kernel⟩
theorem fg_X8_208 : FG RX8 208 2 7 := ⟨RX2, TX2, 15, cls_X2, by decide, tbl_t 110 (by decide +kernel) rfl⟩
theorem fp_X8_208 : FP RX8 208 2 7 .int := ⟨RX2, TX2, 15, cls_X2, by decide, tbl_t 110 (by decide +kernel) rfl, rfl, by decide +kernel⟩
theorem fg_X8_210 : FG RX8 210 2 8 := ⟨RX2, TX2, 15, cls_X2, by decide, tbl_t 112 (by decide +kernel) rfl⟩
theorem fp_X8_210 : FP RX8 210 2 8 .int := ⟨RX2, TX2, 15, cls_X2, by decide, tbl_t 112 (by decide +kernel) rfl, rfl, by decide +kernel⟩
theorem fg_X8_213 : FG RX8 213 2 4 := ⟨RX2, TX2, 15, cls_X2, by decide, tbl_t 104 (by decide +kernel) rfl⟩
theorem fp_X8_213 : FP RX8 213 2 4 .int := ⟨RX2, TX2, 15, cls_X2, by decide, tbl_t 104 (by decide +kernel) rfl, rfl, by decide +kernel⟩
theorem fg_X8_216 : FG RX8 216 2 9 := ⟨RX2, TX2, 15, cls_X2, by decide, tbl_t 114 (by decide +kernel) rfl⟩
theorem fp_X8_216 : FP RX8 216 2 9 .int := ⟨RX2, TX2, 15, cls_X2, by decide, tbl_t 114 (by decide +kernel) rfl, rfl, by decide +kernel⟩
theorem fg_X8_218 : FG RX8 218 2 13 := ⟨RX2, TX2, 15, cls_X2, by decide, tbl_t 122 (by decide +kernel) rfl⟩
theorem fp_X8_218 : FP RX8 218 2 13 .int := ⟨RX2, TX2, 15, cls_X2, by decide, tbl_t 122 (by decide +kernel) rfl, rfl, by decide +kernel⟩
theorem fg_X8_224 : FG RX8 224 3 5 := ⟨RX4, TX4, 6, cls_X4, by decide, tbl_t 52 (by decide +kernel) rfl⟩
theorem fp_X8_224 : FP RX8 224 3 5 .int := ⟨RX4, TX4, 6, cls_X4, by decide, tbl_t 52 (by decide +kernel) rfl, rfl, by decide +kernel⟩
theorem fg_X8_261 : FG RX8 261 0 0 := ⟨RX0, TX0, 2, cls_X0, by decide, tbl_t 163 (by decide +kernel) rfl⟩
theorem fp_X8_261 : FP RX8 261 0 0 .int := ⟨RX0, TX0, 2, cls_X0, by decide, tbl_t 163 (by decide +kernel) rfl, rfl, by decide +kernel⟩
theorem fg_X8_270 : FG RX8 270 1 3 := ⟨RX1, TX1, 4, cls_X1, by decide, tbl_t 84 (by decide +kernel) rfl⟩
theorem fp_X8_270 : FP RX8 270 1 3 .int := ⟨RX1, TX1, 4, cls_X1, by decide, tbl_t 84 (by decide +kernel) rfl, rfl, by decide +kernel⟩
theorem fg_X8_274 : FG RX8 274 2 14 := ⟨RX2, TX2, 15, cls_X2, by decide, tbl_t 124 (by decide +kernel) rfl⟩
theorem fp_X8_274 : FP RX8 274 2 14 .int := ⟨RX2, TX2, 15, cls_X2, by decide, tbl_t 124 (by decide +kernel) rfl, rfl, by decide +kernel⟩
theorem fg_X8_281 : FG RX8 281 5 1 := ⟨RX6, TX6, 6, cls_X6, by decide, tbl_t 178 (by decide +kernel) rfl⟩
theorem fp_X8_281 : FP RX8 281 5 1 .int := ⟨RX6, TX6, 6, cls_X6, by decide, tbl_t 178 (by decide +kernel) rfl, rfl, by decide +kernel⟩
theorem fg_X8_290 : FG RX8 290 2 3 := ⟨RX2, TX2, 15, cls_X2, by decide, tbl_t 102 (by decide +kernel) rfl⟩
theorem fg_X8_302 : FG RX8 302 4 1 := ⟨RX5, TX5, 3, cls_X5, by decide, tbl_t 221 (by decide +kernel) rfl⟩
theorem fg_X8_311 : FG RX8 311 4 0 := ⟨RX5, TX5, 3, cls_X5, by decide, tbl_t 219 (by decide +kernel) rfl⟩
theorem fg_X8_330 : FG RX8 330 2 6 := ⟨RX2, TX2, 15, cls_X2, by decide, tbl_t 108 (by decide +kernel) rfl⟩
theorem fp_X8_330 : FP RX8 330 2 6 .int := ⟨RX2, TX2, 15, cls_X2, by decide, tbl_t 108 (by decide +kernel) rfl, rfl, by decide +kernel⟩
theorem fg_X0_7 : FG RX0 7 0 0 := ⟨RX0, TX0, 2, cls_X0, by decide, tbl_t 162 (by decide +kernel) rfl⟩
theorem fp_X0_7 : FP RX0 7 0 0 .int := ⟨RX0, TX0, 2, cls_X0, by decide, tbl_t 162 (by decide +kernel) rfl, rfl, by decide +kernel⟩
theorem fg_X0_13 : FG RX0 13 0 1 := ⟨RX0, TX0, 2, cls_X0, by decide, tbl_t 164 (by decide +kernel) rfl⟩
theorem fp_X0_13 : FP RX0 13 0 1 .int := ⟨RX0, TX0, 2, cls_X0, by decide, tbl_t 164 (by decide +kernel) rfl, rfl, by decide +kernel⟩
theorem fg_X1_9 : FG RX1 9 1 0 := ⟨RX1, TX1, 4, cls_X1, by decide, tbl_t 73 (by decide +kernel) rfl⟩
theorem fg_X1_15 : FG RX1 15 1 1 := ⟨RX1, TX1, 4, cls_X1, by decide, tbl_t 76 (by decide +kernel) rfl⟩
theorem fg_X1_18 : FG RX1 18 1 2 := ⟨RX1, TX1, 4, cls_X1, by decide, tbl_t 79 (by decide +kernel) rfl⟩
theorem fg_X1_21 : FG RX1 21 1 3 := ⟨RX1, TX1, 4, cls_X1, by decide, tbl_t 82 (by decide +kernel) rfl⟩
theorem fp_X1_21 : FP RX1 21 1 3 .int := ⟨RX1, TX1, 4, cls_X1, by decide, tbl_t 82 (by decide +kernel) rfl, rfl, by decide +kernel⟩
theorem fg_X2_12 : FG RX2 12 2 0 := ⟨RX2, TX2, 15, cls_X2, by decide, tbl_t 94 (by decide +kernel) rfl⟩
theorem fg_X2_21 : FG RX2 21 2 1 := ⟨RX2, TX2, 15, cls_X2, by decide, tbl_t 97 (by decide +kernel) rfl⟩
theorem fg_X2_25 : FG RX2 25 2 2 := ⟨RX2, TX2, 15, cls_X2, by decide, tbl_t 100 (by decide +kernel) rfl⟩
theorem fg_X2_29 : FG RX2 29 2 3 := ⟨RX2, TX2, 15, cls_X2, by decide, tbl_t 101 (by decide +kernel) rfl⟩
theorem fg_X2_32 : FG RX2 32 2 4 := ⟨RX2, TX2, 15, cls_X2, by decide, tbl_t 103 (by decide +kernel) rfl⟩
theorem fp_X2_32 : FP RX2 32 2 4 .int := ⟨RX2, TX2, 15, cls_X2, by decide, tbl_t 103 (by decide +kernel) rfl, rfl, by decide +kernel⟩
theorem fg_X2_36 : FG RX2 36 2 5 := ⟨RX2, TX2, 15, cls_X2, by decide, tbl_t 105 (by decide +kernel) rfl⟩
theorem fp_X2_36 : FP RX2 36 2 5 .int := ⟨RX2, TX2, 15, cls_X2, by decide, tbl_t 105 (by decide +kernel) rfl, rfl, by decide +kernel⟩
theorem fg_X2_39 : FG RX2 39 2 6 := ⟨RX2, TX2, 15, cls_X2, by decide, tbl_t 107 (by decide +kernel) rfl⟩
theorem fp_X2_39 : FP RX2 39 2 6 .int := ⟨RX2, TX2, 15, cls_X2, by decide, tbl_t 107 (by decide +kernel) rfl, rfl, by decide +kernel⟩
theorem fg_X2_42 : FG RX2 42 2 7 := ⟨RX2, TX2, 15, cls_X2, by decide, tbl_t 109 (by decide +kernel) rfl⟩
theorem fp_X2_42 : FP RX2 42 2 7 .int := ⟨RX2, TX2, 15, cls_X2, by decide, tbl_t 109 (by decide +kernel) rfl, rfl, by decide +kernel⟩
theorem fg_X2_45 : FG RX2 45 2 8 := ⟨RX2, TX2, 15, cls_X2, by decide, tbl_t 111 (by decide +kernel) rfl⟩
theorem fp_X2_45 : FP RX2 45 2 8 .int := ⟨RX2, TX2, 15, cls_X2, by decide, tbl_t 111 (by decide +kernel) rfl, rfl, by decide +kernel⟩
theorem fg_X2_48 : FG RX2 48 2 9 := ⟨RX2, TX2, 15, cls_X2, by decide, tbl_t 113 (by decide +kernel) rfl⟩
theorem fp_X2_48 : FP RX2 48 2 9 .int := ⟨RX2, TX2, 15, cls_X2, by decide, tbl_t 113 (by decide +kernel) rfl, rfl, by decide +kernel⟩
theorem fg_X2_51 : FG RX2 51 2 10 := ⟨RX2, TX2, 15, cls_X2, by decide, tbl_t 115 (by decide +kernel) rfl⟩
theorem fp_X2_51 : FP RX2 51 2 10 .int := ⟨RX2, TX2, 15, cls_X2, by decide, tbl_t 115 (by decide +kernel) rfl, rfl, by decide +kernel⟩
theorem fg_X2_54 : FG RX2 54 2 11 := ⟨RX2, TX2, 15, cls_X2, by decide, tbl_t 117 (by decide +kernel) rfl⟩
theorem fp_X2_54 : FP RX2 54 2 11 .int := ⟨RX2, TX2, 15, cls_X2, by decide, tbl_t 117 (by decide +kernel) rfl, rfl, by decide +kernel⟩
theorem fg_X2_57 : FG RX2 57 2 12 := ⟨RX2, TX2, 15, cls_X2, by decide, tbl_t 119 (by decide +kernel) rfl⟩
theorem fp_X2_57 : FP RX2 57 2 12 .int := ⟨RX2, TX2, 15, cls_X2, by decide, tbl_t 119 (by decide +kernel) rfl, rfl, by decide +kernel⟩
theorem fg_X2_60 : FG RX2 60 2 13 := ⟨RX2, TX2, 15, cls_X2, by decide, tbl_t 121 (by decide +kernel) rfl⟩
theorem fp_X2_60 : FP RX2 60 2 13 .int := ⟨RX2, TX2, 15, cls_X2, by decide, tbl_t 121 (by decide +kernel) rfl, rfl, by decide +kernel⟩
theorem fg_X2_63 : FG RX2 63 2 14 := ⟨RX2, TX2, 15, cls_X2, by decide, tbl_t 123 (by decide +kernel) rfl⟩
theorem fp_X2_63 : FP RX2 63 2 14 .int := ⟨RX2, TX2, 15, cls_X2, by decide, tbl_t 123 (by decide +kernel) rfl, rfl, by decide +kernel⟩
theorem fg_X2_85 : FG RX2 85 1 2 := ⟨RX1, TX1, 4, cls_X1, by decide, tbl_t 80 (by decide +kernel) rfl⟩
theorem fg_X2_108 : FG RX2 108 1 3 := ⟨RX1, TX1, 4, cls_X1, by decide, tbl_t 83 (by decide +kernel) rfl⟩
theorem fp_X2_108 : FP RX2 108 1 3 .int := ⟨RX1, TX1, 4, cls_X1, by decide, tbl_t 83 (by decide +kernel) rfl, rfl, by decide +kernel⟩
theorem fg_X2_111 : FG RX2 111 1 0 := ⟨RX1, TX1, 4, cls_X1, by decide, tbl_t 75 (by decide +kernel) rfl⟩
theorem fg_X2_113 : FG RX2 113 1 1 := ⟨RX1, TX1, 4, cls_X1, by decide, tbl_t 78 (by decide +kernel) rfl⟩
theorem fg_X2_125 : FG RX2 125 3 1 := ⟨RX4, TX4, 6, cls_X4, by decide, tbl_t 43 (by decide +kernel) rfl⟩
theorem fg_X2_128 : FG RX2 128 3 0 := ⟨RX4, TX4, 6, cls_X4, by decide, tbl_t 40 (by decide +kernel) rfl⟩
theorem fg_X4_9 : FG RX4 9 3 0 := ⟨RX4, TX4, 6, cls_X4, by decide, tbl_t 38 (by decide +kernel) rfl⟩
theorem fg_X4_15 : FG RX4 15 3 1 := ⟨RX4, TX4, 6, cls_X4, by decide, tbl_t 41 (by decide +kernel) rfl⟩
theorem fg_X4_18 : FG RX4 18 3 2 := ⟨RX4, TX4, 6, cls_X4, by decide, tbl_t 44 (by decide +kernel) rfl⟩
theorem fg_X4_21 : FG RX4 21 3 3 := ⟨RX4, TX4, 6, cls_X4, by decide, tbl_t 47 (by decide +kernel) rfl⟩
theorem fg_X4_24 : FG RX4 24 3 4 := ⟨RX4, TX4, 6, cls_X4, by decide, tbl_t 49 (by decide +kernel) rfl⟩
theorem fg_X4_27 : FG RX4 27 3 5 := ⟨RX4, TX4, 6, cls_X4, by decide, tbl_t 51 (by decide +kernel) rfl⟩
theorem fp_X4_27 : FP RX4 27 3 5 .int := ⟨RX4, TX4, 6, cls_X4, by decide, tbl_t 51 (by decide +kernel) rfl, rfl, by decide +kernel⟩
theorem fg_X5_9 : FG RX5 9 4 0 := ⟨RX5, TX5, 3, cls_X5, by decide, tbl_t 218 (by decide +kernel) rfl⟩
theorem fg_X5_13 : FG RX5 13 4 1 := ⟨RX5, TX5, 3, cls_X5, by decide, tbl_t 220 (by decide +kernel) rfl⟩
theorem fg_X5_16 : FG RX5 16 4 2 := ⟨RX5, TX5, 3, cls_X5, by decide, tbl_t 222 (by decide +kernel) rfl⟩
theorem fg_X6_9 : FG RX6 9 5 0 := ⟨RX6, TX6, 6, cls_X6, by decide, tbl_t 176 (by decide +kernel) rfl⟩
theorem fg_X6_13 : FG RX6 13 5 1 := ⟨RX6, TX6, 6, cls_X6, by decide, tbl_t 177 (by decide +kernel) rfl⟩
theorem fp_X6_13 : FP RX6 13 5 1 .int := ⟨RX6, TX6, 6, cls_X6, by decide, tbl_t 177 (by decide +kernel) rfl, rfl, by decide +kernel⟩
theorem fg_X6_17 : FG RX6 17 5 2 := ⟨RX6, TX6, 6, cls_X6, by decide, tbl_t 179 (by decide +kernel) rfl⟩
theorem fp_X6_17 : FP RX6 17 5 2 .int := ⟨RX6, TX6, 6, cls_X6, by decide, tbl_t 179 (by decide +kernel) rfl, rfl, by decide +kernel⟩
theorem fg_X6_20 : FG RX6 20 5 3 := ⟨RX6, TX6, 6, cls_X6, by decide, tbl_t 181 (by decide +kernel) rfl⟩
theorem fp_X6_20 : FP RX6 20 5 3 .int := ⟨RX6, TX6, 6, cls_X6, by decide, tbl_t 181 (by decide +kernel) rfl, rfl, by decide +kernel⟩
theorem fg_X6_23 : FG RX6 23 5 4 := ⟨RX6, TX6, 6, cls_X6, by decide, tbl_t 182 (by decide +kernel) rfl⟩
theorem fp_X6_23 : FP RX6 23 5 4 .int := ⟨RX6, TX6, 6, cls_X6, by decide, tbl_t 182 (by decide +kernel) rfl, rfl, by decide +kernel⟩
theorem fg_X6_26 : FG RX6 26 5 5 := ⟨RX6, TX6, 6, cls_X6, by decide, tbl_t 184 (by decide +kernel) rfl⟩
theorem fp_X6_26 : FP RX6 26 5 5 .int := ⟨RX6, TX6, 6, cls_X6, by decide, tbl_t 184 (by decide +kernel) rfl, rfl, by decide +kernel⟩
theorem fg_X7_9 : FG RX7 9 6 0 := ⟨RX7, TX7, 2, cls_X7, by decide, tbl_t 205 (by decide +kernel) rfl⟩
theorem fg_X7_15 : FG RX7 15 6 1 := ⟨RX7, TX7, 2, cls_X7, by decide, tbl_t 206 (by decide +kernel) rfl⟩
theorem fg_X7_28 : FG RX7 28 5 4 := ⟨RX6, TX6, 6, cls_X6, by decide, tbl_t 183 (by decide +kernel) rfl⟩
theorem fp_X7_28 : FP RX7 28 5 4 .int := ⟨RX6, TX6, 6, cls_X6, by decide, tbl_t 183 (by decide +kernel) rfl, rfl, by decide +kernel⟩
theorem fg_X7_35 : FG RX7 35 5 2 := ⟨RX6, TX6, 6, cls_X6, by decide, tbl_t 180 (by decide +kernel) rfl⟩
theorem fp_X7_35 : FP RX7 35 5 2 .int := ⟨RX6, TX6, 6, cls_X6, by decide, tbl_t 180 (by decide +kernel) rfl, rfl, by decide +kernel⟩
theorem fg_X7_64 : FG RX7 64 2 0 := ⟨RX2, TX2, 15, cls_X2, by decide, tbl_t 96 (by decide +kernel) rfl⟩
theorem fg_X7_84 : FG RX7 84 3 2 := ⟨RX4, TX4, 6, cls_X4, by decide, tbl_t 46 (by decide +kernel) rfl⟩
theorem fg_X7_97 : FG RX7 97 2 1 := ⟨RX2, TX2, 15, cls_X2, by decide, tbl_t 98 (by decide +kernel) rfl⟩
theorem fg_X7_118 : FG RX7 118 5 5 := ⟨RX6, TX6, 6, cls_X6, by decide, tbl_t 185 (by decide +kernel) rfl⟩
theorem fp_X7_118 : FP RX7 118 5 5 .int := ⟨RX6, TX6, 6, cls_X6, by decide, tbl_t 185 (by decide +kernel) rfl, rfl, by decide +kernel⟩
theorem fg_X9_7 : FG RX9 7 8 0 := ⟨RX9, TX9, 15, cls_X9, by decide, tbl_t 878 (by decide +kernel) rfl⟩
theorem fg_X9_13 : FG RX9 13 8 1 := ⟨RX9, TX9, 15, cls_X9, by decide, tbl_t 879 (by decide +kernel) rfl⟩
theorem fg_X9_16 : FG RX9 16 8 2 := ⟨RX9, TX9, 15, cls_X9, by decide, tbl_t 880 (by decide +kernel) rfl⟩
theorem fg_X9_19 : FG RX9 19 8 3 := ⟨RX9, TX9, 15, cls_X9, by decide, tbl_t 881 (by decide +kernel) rfl⟩
theorem fg_X9_22 : FG RX9 22 8 5 := ⟨RX9, TX9, 15, cls_X9, by decide, tbl_t 883 (by decide +kernel) rfl⟩
theorem fg_X9_25 : FG RX9 25 8 11 := ⟨RX9, TX9, 15, cls_X9, by decide, tbl_t 889 (by decide +kernel) rfl⟩
theorem fg_X9_28 : FG RX9 28 8 12 := ⟨RX9, TX9, 15, cls_X9, by decide, tbl_t 890 (by decide +kernel) rfl⟩
theorem fg_X9_31 : FG RX9 31 8 13 := ⟨RX9, TX9, 15, cls_X9, by decide, tbl_t 891 (by decide +kernel) rfl⟩
theorem fg_X9_34 : FG RX9 34 8 14 := ⟨RX9, TX9, 15, cls_X9, by decide, tbl_t 892 (by decide +kernel) rfl⟩
theorem fg_X9_218 : FG RX9 218 8 6 := ⟨RX9, TX9, 15, cls_X9, by decide, tbl_t 884 (by decide +kernel) rfl⟩
theorem fp_X9_218 : FP RX9 218 8 6 .int := ⟨RX9, TX9, 15, cls_X9, by decide, tbl_t 884 (by decide +kernel) rfl, rfl, by decide +kernel⟩
theorem fg_X9_230 : FG RX9 230 8 8 := ⟨RX9, TX9, 15, cls_X9, by decide, tbl_t 886 (by decide +kernel) rfl⟩
theorem fp_X9_230 : FP RX9 230 8 8 .int := ⟨RX9, TX9, 15, cls_X9, by decide, tbl_t 886 (by decide +kernel) rfl, rfl, by decide +kernel⟩
theorem fg_X9_233 : FG RX9 233 8 7 := ⟨RX9, TX9, 15, cls_X9, by decide, tbl_t 885 (by decide +kernel) rfl⟩
theorem fp_X9_233 : FP RX9 233 8 7 .int := ⟨RX9, TX9, 15, cls_X9, by decide, tbl_t 885 (by decide +kernel) rfl, rfl, by decide +kernel⟩
theorem fg_X9_245 : FG RX9 245 8 10 := ⟨RX9, TX9, 15, cls_X9, by decide, tbl_t 888 (by decide +kernel) rfl⟩
theorem fp_X9_245 : FP RX9 245 8 10 .boolean := ⟨RX9, TX9, 15, cls_X9, by decide, tbl_t 888 (by decide +kernel) rfl, rfl, by decide +kernel⟩
theorem fg_X9_256 : FG RX9 256 8 9 := ⟨RX9, TX9, 15, cls_X9, by decide, tbl_t 887 (by decide +kernel) rfl⟩
theorem fp_X9_256 : FP RX9 256 8 9 .int := ⟨RX9, TX9, 15, cls_X9, by decide, tbl_t 887 (by decide +kernel) rfl, rfl, by decide +kernel⟩
theorem fg_X9_337 : FG RX9 337 8 4 := ⟨RX9, TX9, 15, cls_X9, by decide, tbl_t 882 (by decide +kernel) rfl⟩
theorem fp_X9_337 : FP RX9 337 8 4 .boolean := ⟨RX9, TX9, 15, cls_X9, by decide, tbl_t 882 (by decide +kernel) rfl, rfl, by decide +kernel⟩
theorem fl_J0_9 : Cond.fieldLink RJ0 9 "java/lang/String" "value" "[B" ∈ TBL := tbl_t 1406 (by decide +kernel) rfl
theorem fl_J0_15 : Cond.fieldLink RJ0 15 "java/lang/String" "coder" "B" ∈ TBL := tbl_t 1407 (by decide +kernel) rfl
theorem fl_J0_38 : Cond.fieldLink RJ0 38 "java/lang/String" "COMPACT_STRINGS" "Z" ∈ TBL := tbl_t 684 (by decide +kernel) rfl
theorem fl_J0_1053 : Cond.fieldLink RJ0 1053 "jdk/internal/util/Preconditions" "SIOOBE_FORMATTER" "Ljava/util/function/BiFunction;" ∈ TBL := tbl_t 700 (by decide +kernel) rfl
theorem fl_J2_44 : Cond.fieldLink RJ2 44 "java/lang/StringUTF16" "$assertionsDisabled" "Z" ∈ TBL := tbl_t 718 (by decide +kernel) rfl
theorem fl_J2_59 : Cond.fieldLink RJ2 59 "java/lang/StringUTF16" "HI_BYTE_SHIFT" "I" ∈ TBL := tbl_t 720 (by decide +kernel) rfl
theorem fl_J2_63 : Cond.fieldLink RJ2 63 "java/lang/StringUTF16" "LO_BYTE_SHIFT" "I" ∈ TBL := tbl_t 722 (by decide +kernel) rfl
def m_X0_clear : MD := (yX0_clear, cX0_clear, 1, none, { frames := 0, cells := 0, slots := 0, locals := 0 }, none)
theorem mo_X0_clear : MOV m_X0_clear 0 := ⟨⟨rfl, by decide +kernel, rfl, rfl, tbl_t 553 (by decide +kernel) rfl, tbl_t 5 (by decide +kernel) rfl, ⟨by decide +kernel, by decide +kernel⟩, by decide +kernel⟩, tbl_t 551 (by decide +kernel) rfl, tbl_t 552 (by decide +kernel) rfl⟩
def m_X0_offer : MD := (yX0_offer, cX0_offer, 3, none, { frames := 0, cells := 0, slots := 0, locals := 0 }, none)
theorem mo_X0_offer : MOV m_X0_offer 2 := ⟨⟨rfl, by decide +kernel, rfl, rfl, tbl_t 562 (by decide +kernel) rfl, tbl_t 5 (by decide +kernel) rfl, ⟨by decide +kernel, by decide +kernel⟩, by decide +kernel⟩, tbl_t 560 (by decide +kernel) rfl, tbl_t 561 (by decide +kernel) rfl⟩
def m_X1_become : MD := (yX1_become, cX1_become, 2, none, { frames := 1, cells := 0, slots := 0, locals := 26 }, none)
theorem mo_X1_become : MOV m_X1_become 1 := ⟨⟨rfl, by decide +kernel, rfl, rfl, tbl_t 507 (by decide +kernel) rfl, tbl_t 4 (by decide +kernel) rfl, ⟨by decide +kernel, by decide +kernel⟩, by decide +kernel⟩, tbl_t 505 (by decide +kernel) rfl, tbl_t 506 (by decide +kernel) rfl⟩
def m_X1_isFull : MD := (yX1_isFull, cX1_isFull, 1, (some .boolean), { frames := 0, cells := 0, slots := 0, locals := 0 }, none)
theorem mo_X1_isFull : MOV m_X1_isFull 0 := ⟨⟨rfl, by decide +kernel, rfl, rfl, tbl_t 404 (by decide +kernel) rfl, tbl_t 4 (by decide +kernel) rfl, ⟨by decide +kernel, by decide +kernel⟩, by decide +kernel⟩, tbl_t 402 (by decide +kernel) rfl, tbl_t 403 (by decide +kernel) rfl⟩
def m_X1_add : MD := (yX1_add, cX1_add, 5, (some .int), { frames := 0, cells := 0, slots := 0, locals := 0 }, none)
theorem mo_X1_add : MOV m_X1_add 3 := ⟨⟨rfl, by decide +kernel, rfl, rfl, tbl_t 408 (by decide +kernel) rfl, tbl_t 4 (by decide +kernel) rfl, ⟨by decide +kernel, by decide +kernel⟩, by decide +kernel⟩, tbl_t 406 (by decide +kernel) rfl, tbl_t 407 (by decide +kernel) rfl⟩
def m_X1_manyOfAll : MD := (yX1_manyOfAll, cX1_manyOfAll, 3, (some .int), { frames := 0, cells := 0, slots := 0, locals := 0 }, none)
theorem mo_X1_manyOfAll : MOV m_X1_manyOfAll 0 := ⟨⟨rfl, by decide +kernel, rfl, rfl, tbl_t 863 (by decide +kernel) rfl, tbl_t 4 (by decide +kernel) rfl, ⟨by decide +kernel, by decide +kernel⟩, by decide +kernel⟩, tbl_t 861 (by decide +kernel) rfl, tbl_t 862 (by decide +kernel) rfl⟩
def m_X2_become : MD := (yX2_become, cX2_become, 2, none, { frames := 2, cells := 0, slots := 0, locals := 47 }, none)
theorem mo_X2_become : MOV m_X2_become 1 := ⟨⟨rfl, by decide +kernel, rfl, rfl, tbl_t 496 (by decide +kernel) rfl, tbl_t 2 (by decide +kernel) rfl, ⟨by decide +kernel, by decide +kernel⟩, by decide +kernel⟩, tbl_t 494 (by decide +kernel) rfl, tbl_t 495 (by decide +kernel) rfl⟩
def m_X2_ruled : MD := (yX2_ruled, cX2_ruled, 2, (some .int), { frames := 0, cells := 0, slots := 0, locals := 0 }, none)
theorem mo_X2_ruled : MOV m_X2_ruled 1 := ⟨⟨rfl, by decide +kernel, rfl, rfl, tbl_t 378 (by decide +kernel) rfl, tbl_t 2 (by decide +kernel) rfl, ⟨by decide +kernel, by decide +kernel⟩, by decide +kernel⟩, tbl_t 376 (by decide +kernel) rfl, tbl_t 377 (by decide +kernel) rfl⟩
def m_X2_setRule : MD := (yX2_setRule, cX2_setRule, 3, none, { frames := 0, cells := 0, slots := 0, locals := 0 }, none)
theorem mo_X2_setRule : MOV m_X2_setRule 2 := ⟨⟨rfl, by decide +kernel, rfl, rfl, tbl_t 382 (by decide +kernel) rfl, tbl_t 2 (by decide +kernel) rfl, ⟨by decide +kernel, by decide +kernel⟩, by decide +kernel⟩, tbl_t 380 (by decide +kernel) rfl, tbl_t 381 (by decide +kernel) rfl⟩
def m_X2_addShovels : MD := (yX2_addShovels, cX2_addShovels, 2, none, { frames := 0, cells := 0, slots := 0, locals := 0 }, none)
theorem mo_X2_addShovels : MOV m_X2_addShovels 1 := ⟨⟨rfl, by decide +kernel, rfl, rfl, tbl_t 363 (by decide +kernel) rfl, tbl_t 2 (by decide +kernel) rfl, ⟨by decide +kernel, by decide +kernel⟩, by decide +kernel⟩, tbl_t 361 (by decide +kernel) rfl, tbl_t 362 (by decide +kernel) rfl⟩
def m_X2_shovelsDue : MD := (yX2_shovelsDue, cX2_shovelsDue, 3, (some .int), { frames := 0, cells := 0, slots := 0, locals := 0 }, none)
theorem mo_X2_shovelsDue : MOV m_X2_shovelsDue 0 := ⟨⟨rfl, by decide +kernel, rfl, rfl, tbl_t 367 (by decide +kernel) rfl, tbl_t 2 (by decide +kernel) rfl, ⟨by decide +kernel, by decide +kernel⟩, by decide +kernel⟩, tbl_t 365 (by decide +kernel) rfl, tbl_t 366 (by decide +kernel) rfl⟩
def m_X2_setOut : MD := (yX2_setOut, cX2_setOut, 2, none, { frames := 1, cells := 0, slots := 0, locals := 21 }, none)
theorem mo_X2_setOut : MOV m_X2_setOut 1 := ⟨⟨rfl, by decide +kernel, rfl, rfl, tbl_t 393 (by decide +kernel) rfl, tbl_t 2 (by decide +kernel) rfl, ⟨by decide +kernel, by decide +kernel⟩, by decide +kernel⟩, tbl_t 391 (by decide +kernel) rfl, tbl_t 392 (by decide +kernel) rfl⟩
def m_X2_coming : MD := (yX2_coming, cX2_coming, 3, (some .int), { frames := 0, cells := 0, slots := 0, locals := 0 }, none)
theorem mo_X2_coming : MOV m_X2_coming 1 := ⟨⟨rfl, by decide +kernel, rfl, rfl, tbl_t 420 (by decide +kernel) rfl, tbl_t 2 (by decide +kernel) rfl, ⟨by decide +kernel, by decide +kernel⟩, by decide +kernel⟩, tbl_t 418 (by decide +kernel) rfl, tbl_t 419 (by decide +kernel) rfl⟩
def m_X2_draw : MD := (yX2_draw, cX2_draw, 1, (some .int), { frames := 0, cells := 0, slots := 0, locals := 0 }, none)
theorem mo_X2_draw : MOV m_X2_draw 0 := ⟨⟨rfl, by decide +kernel, rfl, rfl, tbl_t 614 (by decide +kernel) rfl, tbl_t 2 (by decide +kernel) rfl, ⟨by decide +kernel, by decide +kernel⟩, by decide +kernel⟩, tbl_t 612 (by decide +kernel) rfl, tbl_t 613 (by decide +kernel) rfl⟩
def m_X2_spotsHolding : MD := (yX2_spotsHolding, cX2_spotsHolding, 3, (some .int), { frames := 0, cells := 0, slots := 0, locals := 0 }, none)
theorem mo_X2_spotsHolding : MOV m_X2_spotsHolding 0 := ⟨⟨rfl, by decide +kernel, rfl, rfl, tbl_t 867 (by decide +kernel) rfl, tbl_t 2 (by decide +kernel) rfl, ⟨by decide +kernel, by decide +kernel⟩, by decide +kernel⟩, tbl_t 865 (by decide +kernel) rfl, tbl_t 866 (by decide +kernel) rfl⟩
def m_X2_pass : MD := (yX2_pass, cX2_pass, 4, (some .int), { frames := 4, cells := 0, slots := 0, locals := 96 }, none)
theorem mo_X2_pass : MOV m_X2_pass 1 := ⟨⟨rfl, by decide +kernel, rfl, rfl, tbl_t 439 (by decide +kernel) rfl, tbl_t 2 (by decide +kernel) rfl, ⟨by decide +kernel, by decide +kernel⟩, by decide +kernel⟩, tbl_t 437 (by decide +kernel) rfl, tbl_t 438 (by decide +kernel) rfl⟩
def m_X2_warm : MD := (yX2_warm, cX2_warm, 2, none, { frames := 1, cells := 0, slots := 0, locals := 21 }, none)
theorem mo_X2_warm : MOV m_X2_warm 0 := ⟨⟨rfl, by decide +kernel, rfl, rfl, tbl_t 443 (by decide +kernel) rfl, tbl_t 2 (by decide +kernel) rfl, ⟨by decide +kernel, by decide +kernel⟩, by decide +kernel⟩, tbl_t 442 (by decide +kernel) rfl, tbl_in (List.mem_append_left _ (List.mem_of_getElem? (i := 5) (by decide +kernel))) rfl⟩
def m_X2_serve : MD := (yX2_serve, cX2_serve, 3, none, { frames := 3, cells := 0, slots := 0, locals := 74 }, none)
theorem mo_X2_serve : MOV m_X2_serve 0 := ⟨⟨rfl, by decide +kernel, rfl, rfl, tbl_t 469 (by decide +kernel) rfl, tbl_t 2 (by decide +kernel) rfl, ⟨by decide +kernel, by decide +kernel⟩, by decide +kernel⟩, tbl_t 468 (by decide +kernel) rfl, tbl_in (List.mem_append_left _ (List.mem_of_getElem? (i := 7) (by decide +kernel))) rfl⟩
def m_X2_sell : MD := (yX2_sell, cX2_sell, 10, (some .int), { frames := 2, cells := 0, slots := 0, locals := 45 }, none)
theorem mo_X2_sell : MOV m_X2_sell 4 := ⟨⟨rfl, by decide +kernel, rfl, rfl, tbl_t 474 (by decide +kernel) rfl, tbl_t 2 (by decide +kernel) rfl, ⟨by decide +kernel, by decide +kernel⟩, by decide +kernel⟩, tbl_t 473 (by decide +kernel) rfl, tbl_in (List.mem_append_left _ (List.mem_of_getElem? (i := 8) (by decide +kernel))) rfl⟩
def m_X3_above : MD := (yX3_above, cX3_above, 1, (some .int), { frames := 0, cells := 0, slots := 0, locals := 0 }, none)
theorem mo_X3_above : MOS m_X3_above 1 := ⟨⟨rfl, by decide +kernel, rfl, rfl, tbl_t 790 (by decide +kernel) rfl, tbl_t 10 (by decide +kernel) rfl, ⟨by decide +kernel, by decide +kernel⟩, by decide +kernel⟩, tbl_t 789 (by decide +kernel) rfl⟩
def m_X3_isUnder : MD := (yX3_isUnder, cX3_isUnder, 4, (some .boolean), { frames := 1, cells := 0, slots := 0, locals := 20 }, none)
theorem mo_X3_isUnder : MOS m_X3_isUnder 2 := ⟨⟨rfl, by decide +kernel, rfl, rfl, tbl_t 787 (by decide +kernel) rfl, tbl_t 10 (by decide +kernel) rfl, ⟨by decide +kernel, by decide +kernel⟩, by decide +kernel⟩, tbl_t 786 (by decide +kernel) rfl⟩
def m_X3_heatsOf : MD := (yX3_heatsOf, cX3_heatsOf, 2, (some .int), { frames := 1, cells := 0, slots := 0, locals := 21 }, none)
theorem mo_X3_heatsOf : MOS m_X3_heatsOf 2 := ⟨⟨rfl, by decide +kernel, rfl, rfl, tbl_t 337 (by decide +kernel) rfl, tbl_t 10 (by decide +kernel) rfl, ⟨by decide +kernel, by decide +kernel⟩, by decide +kernel⟩, tbl_t 336 (by decide +kernel) rfl⟩
def m_X3_readyFrom : MD := (yX3_readyFrom, cX3_readyFrom, 1, (some .int), { frames := 0, cells := 0, slots := 0, locals := 0 }, none)
theorem mo_X3_readyFrom : MOS m_X3_readyFrom 1 := ⟨⟨rfl, by decide +kernel, rfl, rfl, tbl_t 291 (by decide +kernel) rfl, tbl_t 10 (by decide +kernel) rfl, ⟨by decide +kernel, by decide +kernel⟩, by decide +kernel⟩, tbl_t 290 (by decide +kernel) rfl⟩
def m_X3_burntFrom : MD := (yX3_burntFrom, cX3_burntFrom, 1, (some .int), { frames := 0, cells := 0, slots := 0, locals := 0 }, none)
theorem mo_X3_burntFrom : MOS m_X3_burntFrom 1 := ⟨⟨rfl, by decide +kernel, rfl, rfl, tbl_t 294 (by decide +kernel) rfl, tbl_t 10 (by decide +kernel) rfl, ⟨by decide +kernel, by decide +kernel⟩, by decide +kernel⟩, tbl_t 293 (by decide +kernel) rfl⟩
def m_X3_bursts : MD := (yX3_bursts, cX3_bursts, 3, (some .boolean), { frames := 0, cells := 0, slots := 0, locals := 0 }, none)
theorem mo_X3_bursts : MOS m_X3_bursts 3 := ⟨⟨rfl, by decide +kernel, rfl, rfl, tbl_t 460 (by decide +kernel) rfl, tbl_t 10 (by decide +kernel) rfl, ⟨by decide +kernel, by decide +kernel⟩, by decide +kernel⟩, tbl_t 459 (by decide +kernel) rfl⟩
def m_X3_worthOf : MD := (yX3_worthOf, cX3_worthOf, 2, (some .int), { frames := 1, cells := 0, slots := 0, locals := 21 }, none)
theorem mo_X3_worthOf : MOS m_X3_worthOf 2 := ⟨⟨rfl, by decide +kernel, rfl, rfl, tbl_t 297 (by decide +kernel) rfl, tbl_t 10 (by decide +kernel) rfl, ⟨by decide +kernel, by decide +kernel⟩, by decide +kernel⟩, tbl_t 296 (by decide +kernel) rfl⟩
def m_X4_become : MD := (yX4_become, cX4_become, 2, none, { frames := 1, cells := 0, slots := 0, locals := 26 }, none)
theorem mo_X4_become : MOV m_X4_become 1 := ⟨⟨rfl, by decide +kernel, rfl, rfl, tbl_t 500 (by decide +kernel) rfl, tbl_t 3 (by decide +kernel) rfl, ⟨by decide +kernel, by decide +kernel⟩, by decide +kernel⟩, tbl_t 498 (by decide +kernel) rfl, tbl_t 499 (by decide +kernel) rfl⟩
def m_X4_isFull : MD := (yX4_isFull, cX4_isFull, 1, (some .boolean), { frames := 0, cells := 0, slots := 0, locals := 0 }, none)
theorem mo_X4_isFull : MOV m_X4_isFull 0 := ⟨⟨rfl, by decide +kernel, rfl, rfl, tbl_t 276 (by decide +kernel) rfl, tbl_t 3 (by decide +kernel) rfl, ⟨by decide +kernel, by decide +kernel⟩, by decide +kernel⟩, tbl_t 274 (by decide +kernel) rfl, tbl_t 275 (by decide +kernel) rfl⟩
def m_X4_add : MD := (yX4_add, cX4_add, 3, (some .int), { frames := 0, cells := 0, slots := 0, locals := 0 }, none)
theorem mo_X4_add : MOV m_X4_add 1 := ⟨⟨rfl, by decide +kernel, rfl, rfl, tbl_t 280 (by decide +kernel) rfl, tbl_t 3 (by decide +kernel) rfl, ⟨by decide +kernel, by decide +kernel⟩, by decide +kernel⟩, tbl_t 278 (by decide +kernel) rfl, tbl_t 279 (by decide +kernel) rfl⟩
def m_X4_isGone : MD := (yX4_isGone, cX4_isGone, 2, (some .boolean), { frames := 0, cells := 0, slots := 0, locals := 0 }, none)
theorem mo_X4_isGone : MOV m_X4_isGone 1 := ⟨⟨rfl, by decide +kernel, rfl, rfl, tbl_t 345 (by decide +kernel) rfl, tbl_t 3 (by decide +kernel) rfl, ⟨by decide +kernel, by decide +kernel⟩, by decide +kernel⟩, tbl_t 343 (by decide +kernel) rfl, tbl_t 344 (by decide +kernel) rfl⟩
def m_X4_isOverFire : MD := (yX4_isOverFire, cX4_isOverFire, 2, (some .boolean), { frames := 0, cells := 0, slots := 0, locals := 0 }, none)
theorem mo_X4_isOverFire : MOV m_X4_isOverFire 1 := ⟨⟨rfl, by decide +kernel, rfl, rfl, tbl_t 517 (by decide +kernel) rfl, tbl_t 3 (by decide +kernel) rfl, ⟨by decide +kernel, by decide +kernel⟩, by decide +kernel⟩, tbl_t 515 (by decide +kernel) rfl, tbl_t 516 (by decide +kernel) rfl⟩
def m_X4_isReady : MD := (yX4_isReady, cX4_isReady, 2, (some .boolean), { frames := 1, cells := 0, slots := 0, locals := 20 }, none)
theorem mo_X4_isReady : MOV m_X4_isReady 1 := ⟨⟨rfl, by decide +kernel, rfl, rfl, tbl_t 354 (by decide +kernel) rfl, tbl_t 3 (by decide +kernel) rfl, ⟨by decide +kernel, by decide +kernel⟩, by decide +kernel⟩, tbl_t 352 (by decide +kernel) rfl, tbl_t 353 (by decide +kernel) rfl⟩
def m_X4_isBurnt : MD := (yX4_isBurnt, cX4_isBurnt, 2, (some .boolean), { frames := 1, cells := 0, slots := 0, locals := 20 }, none)
theorem mo_X4_isBurnt : MOV m_X4_isBurnt 1 := ⟨⟨rfl, by decide +kernel, rfl, rfl, tbl_t 349 (by decide +kernel) rfl, tbl_t 3 (by decide +kernel) rfl, ⟨by decide +kernel, by decide +kernel⟩, by decide +kernel⟩, tbl_t 347 (by decide +kernel) rfl, tbl_t 348 (by decide +kernel) rfl⟩
def m_X4_hasRoom : MD := (yX4_hasRoom, cX4_hasRoom, 3, (some .boolean), { frames := 1, cells := 0, slots := 0, locals := 23 }, none)
theorem mo_X4_hasRoom : MOV m_X4_hasRoom 1 := ⟨⟨rfl, by decide +kernel, rfl, rfl, tbl_t 316 (by decide +kernel) rfl, tbl_t 3 (by decide +kernel) rfl, ⟨by decide +kernel, by decide +kernel⟩, by decide +kernel⟩, tbl_t 314 (by decide +kernel) rfl, tbl_t 315 (by decide +kernel) rfl⟩
def m_X4_lay : MD := (yX4_lay, cX4_lay, 4, (some .int), { frames := 0, cells := 0, slots := 0, locals := 0 }, none)
theorem mo_X4_lay : MOV m_X4_lay 2 := ⟨⟨rfl, by decide +kernel, rfl, rfl, tbl_t 330 (by decide +kernel) rfl, tbl_t 3 (by decide +kernel) rfl, ⟨by decide +kernel, by decide +kernel⟩, by decide +kernel⟩, tbl_t 328 (by decide +kernel) rfl, tbl_t 329 (by decide +kernel) rfl⟩
def m_X4_roastAll : MD := (yX4_roastAll, cX4_roastAll, 4, (some .int), { frames := 2, cells := 0, slots := 0, locals := 43 }, none)
theorem mo_X4_roastAll : MOV m_X4_roastAll 1 := ⟨⟨rfl, by decide +kernel, rfl, rfl, tbl_t 451 (by decide +kernel) rfl, tbl_t 3 (by decide +kernel) rfl, ⟨by decide +kernel, by decide +kernel⟩, by decide +kernel⟩, tbl_t 449 (by decide +kernel) rfl, tbl_t 450 (by decide +kernel) rfl⟩
def m_X4_roastBy : MD := (yX4_roastBy, cX4_roastBy, 3, none, { frames := 1, cells := 0, slots := 0, locals := 21 }, none)
theorem mo_X4_roastBy : MOV m_X4_roastBy 2 := ⟨⟨rfl, by decide +kernel, rfl, rfl, tbl_t 456 (by decide +kernel) rfl, tbl_t 3 (by decide +kernel) rfl, ⟨by decide +kernel, by decide +kernel⟩, by decide +kernel⟩, tbl_t 455 (by decide +kernel) rfl, tbl_in (List.mem_append_left _ (List.mem_of_getElem? (i := 6) (by decide +kernel))) rfl⟩
def m_X4_ageHeap : MD := (yX4_ageHeap, cX4_ageHeap, 2, none, { frames := 0, cells := 0, slots := 0, locals := 0 }, none)
theorem mo_X4_ageHeap : MOV m_X4_ageHeap 0 := ⟨⟨rfl, by decide +kernel, rfl, rfl, tbl_t 465 (by decide +kernel) rfl, tbl_t 3 (by decide +kernel) rfl, ⟨by decide +kernel, by decide +kernel⟩, by decide +kernel⟩, tbl_t 463 (by decide +kernel) rfl, tbl_t 464 (by decide +kernel) rfl⟩
def m_X4_youngest : MD := (yX4_youngest, cX4_youngest, 6, (some .int), { frames := 1, cells := 0, slots := 0, locals := 20 }, none)
theorem mo_X4_youngest : MOV m_X4_youngest 2 := ⟨⟨rfl, by decide +kernel, rfl, rfl, tbl_t 478 (by decide +kernel) rfl, tbl_t 3 (by decide +kernel) rfl, ⟨by decide +kernel, by decide +kernel⟩, by decide +kernel⟩, tbl_t 476 (by decide +kernel) rfl, tbl_t 477 (by decide +kernel) rfl⟩
def m_X4_setAt : MD := (yX4_setAt, cX4_setAt, 4, (some .int), { frames := 0, cells := 0, slots := 0, locals := 0 }, none)
theorem mo_X4_setAt : MOV m_X4_setAt 1 := ⟨⟨rfl, by decide +kernel, rfl, rfl, tbl_t 320 (by decide +kernel) rfl, tbl_t 3 (by decide +kernel) rfl, ⟨by decide +kernel, by decide +kernel⟩, by decide +kernel⟩, tbl_t 318 (by decide +kernel) rfl, tbl_t 319 (by decide +kernel) rfl⟩
def m_X4_setDoneOverFire : MD := (yX4_setDoneOverFire, cX4_setDoneOverFire, 3, (some .int), { frames := 2, cells := 0, slots := 0, locals := 41 }, none)
theorem mo_X4_setDoneOverFire : MOV m_X4_setDoneOverFire 0 := ⟨⟨rfl, by decide +kernel, rfl, rfl, tbl_t 513 (by decide +kernel) rfl, tbl_t 3 (by decide +kernel) rfl, ⟨by decide +kernel, by decide +kernel⟩, by decide +kernel⟩, tbl_t 511 (by decide +kernel) rfl, tbl_t 512 (by decide +kernel) rfl⟩
def m_X4_bagsNotGone : MD := (yX4_bagsNotGone, cX4_bagsNotGone, 3, (some .int), { frames := 1, cells := 0, slots := 0, locals := 21 }, none)
theorem mo_X4_bagsNotGone : MOV m_X4_bagsNotGone 0 := ⟨⟨rfl, by decide +kernel, rfl, rfl, tbl_t 523 (by decide +kernel) rfl, tbl_t 3 (by decide +kernel) rfl, ⟨by decide +kernel, by decide +kernel⟩, by decide +kernel⟩, tbl_t 521 (by decide +kernel) rfl, tbl_t 522 (by decide +kernel) rfl⟩
def m_X4_bagsOfAll : MD := (yX4_bagsOfAll, cX4_bagsOfAll, 3, (some .int), { frames := 0, cells := 0, slots := 0, locals := 0 }, none)
theorem mo_X4_bagsOfAll : MOV m_X4_bagsOfAll 0 := ⟨⟨rfl, by decide +kernel, rfl, rfl, tbl_t 859 (by decide +kernel) rfl, tbl_t 3 (by decide +kernel) rfl, ⟨by decide +kernel, by decide +kernel⟩, by decide +kernel⟩, tbl_t 857 (by decide +kernel) rfl, tbl_t 858 (by decide +kernel) rfl⟩
def m_X5_isSheet : MD := (yX5_isSheet, cX5_isSheet, 2, (some .boolean), { frames := 0, cells := 0, slots := 0, locals := 0 }, none)
theorem mo_X5_isSheet : MOV m_X5_isSheet 1 := ⟨⟨rfl, by decide +kernel, rfl, rfl, tbl_t 798 (by decide +kernel) rfl, tbl_t 8 (by decide +kernel) rfl, ⟨by decide +kernel, by decide +kernel⟩, by decide +kernel⟩, tbl_t 796 (by decide +kernel) rfl, tbl_t 797 (by decide +kernel) rfl⟩
def m_X5_isMissing : MD := (yX5_isMissing, cX5_isMissing, 2, (some .boolean), { frames := 0, cells := 0, slots := 0, locals := 0 }, none)
theorem mo_X5_isMissing : MOV m_X5_isMissing 1 := ⟨⟨rfl, by decide +kernel, rfl, rfl, tbl_t 810 (by decide +kernel) rfl, tbl_t 8 (by decide +kernel) rfl, ⟨by decide +kernel, by decide +kernel⟩, by decide +kernel⟩, tbl_t 808 (by decide +kernel) rfl, tbl_t 809 (by decide +kernel) rfl⟩
def m_X5_lay : MD := (yX5_lay, cX5_lay, 5, none, { frames := 0, cells := 0, slots := 0, locals := 0 }, none)
theorem mo_X5_lay : MOV m_X5_lay 3 := ⟨⟨rfl, by decide +kernel, rfl, rfl, tbl_t 802 (by decide +kernel) rfl, tbl_t 8 (by decide +kernel) rfl, ⟨by decide +kernel, by decide +kernel⟩, by decide +kernel⟩, tbl_t 800 (by decide +kernel) rfl, tbl_t 801 (by decide +kernel) rfl⟩
def m_X5_hasNumbers : MD := (yX5_hasNumbers, cX5_hasNumbers, 4, (some .boolean), { frames := 0, cells := 0, slots := 0, locals := 0 }, none)
theorem mo_X5_hasNumbers : MOV m_X5_hasNumbers 3 := ⟨⟨rfl, by decide +kernel, rfl, rfl, tbl_t 822 (by decide +kernel) rfl, tbl_t 8 (by decide +kernel) rfl, ⟨by decide +kernel, by decide +kernel⟩, by decide +kernel⟩, tbl_t 820 (by decide +kernel) rfl, tbl_t 821 (by decide +kernel) rfl⟩
def m_X5_numberAt : MD := (yX5_numberAt, cX5_numberAt, 3, (some .int), { frames := 0, cells := 0, slots := 0, locals := 0 }, none)
theorem mo_X5_numberAt : MOV m_X5_numberAt 2 := ⟨⟨rfl, by decide +kernel, rfl, rfl, tbl_t 835 (by decide +kernel) rfl, tbl_t 8 (by decide +kernel) rfl, ⟨by decide +kernel, by decide +kernel⟩, by decide +kernel⟩, tbl_t 833 (by decide +kernel) rfl, tbl_t 834 (by decide +kernel) rfl⟩
def m_X5_setNumber : MD := (yX5_setNumber, cX5_setNumber, 5, none, { frames := 0, cells := 0, slots := 0, locals := 0 }, none)
theorem mo_X5_setNumber : MOV m_X5_setNumber 3 := ⟨⟨rfl, by decide +kernel, rfl, rfl, tbl_t 814 (by decide +kernel) rfl, tbl_t 8 (by decide +kernel) rfl, ⟨by decide +kernel, by decide +kernel⟩, by decide +kernel⟩, tbl_t 812 (by decide +kernel) rfl, tbl_t 813 (by decide +kernel) rfl⟩
def m_X5_move : MD := (yX5_move, cX5_move, 6, none, { frames := 1, cells := 0, slots := 0, locals := 26 }, none)
theorem mo_X5_move : MOV m_X5_move 5 := ⟨⟨rfl, by decide +kernel, rfl, rfl, tbl_t 826 (by decide +kernel) rfl, tbl_t 8 (by decide +kernel) rfl, ⟨by decide +kernel, by decide +kernel⟩, by decide +kernel⟩, tbl_t 824 (by decide +kernel) rfl, tbl_t 825 (by decide +kernel) rfl⟩
def m_X6_hasRoom : MD := (yX6_hasRoom, cX6_hasRoom, 2, (some .boolean), { frames := 0, cells := 0, slots := 0, locals := 0 }, none)
theorem mo_X6_hasRoom : MOV m_X6_hasRoom 1 := ⟨⟨rfl, by decide +kernel, rfl, rfl, tbl_t 627 (by decide +kernel) rfl, tbl_t 6 (by decide +kernel) rfl, ⟨by decide +kernel, by decide +kernel⟩, by decide +kernel⟩, tbl_t 625 (by decide +kernel) rfl, tbl_t 626 (by decide +kernel) rfl⟩
def m_X6_append : MD := (yX6_append, cX6_append, 4, none, { frames := 0, cells := 0, slots := 0, locals := 0 }, none)
theorem mo_X6_append : MOV m_X6_append 2 := ⟨⟨rfl, by decide +kernel, rfl, rfl, tbl_t 631 (by decide +kernel) rfl, tbl_t 6 (by decide +kernel) rfl, ⟨by decide +kernel, by decide +kernel⟩, by decide +kernel⟩, tbl_t 629 (by decide +kernel) rfl, tbl_t 630 (by decide +kernel) rfl⟩
def m_X6_rewind : MD := (yX6_rewind, cX6_rewind, 1, none, { frames := 3, cells := 0, slots := 0, locals := 61 }, none)
theorem mo_X6_rewind : MOV m_X6_rewind 0 := ⟨⟨rfl, by decide +kernel, rfl, rfl, tbl_t 647 (by decide +kernel) rfl, tbl_t 6 (by decide +kernel) rfl, ⟨by decide +kernel, by decide +kernel⟩, by decide +kernel⟩, tbl_t 645 (by decide +kernel) rfl, tbl_t 646 (by decide +kernel) rfl⟩
def m_X6_step : MD := (yX6_step, cX6_step, 1, none, { frames := 2, cells := 0, slots := 0, locals := 41 }, none)
theorem mo_X6_step : MOV m_X6_step 0 := ⟨⟨rfl, by decide +kernel, rfl, rfl, tbl_t 651 (by decide +kernel) rfl, tbl_t 6 (by decide +kernel) rfl, ⟨by decide +kernel, by decide +kernel⟩, by decide +kernel⟩, tbl_t 649 (by decide +kernel) rfl, tbl_t 650 (by decide +kernel) rfl⟩
def m_X6_readWord : MD := (yX6_readWord, cX6_readWord, 1, none, { frames := 1, cells := 0, slots := 0, locals := 20 }, none)
theorem mo_X6_readWord : MOV m_X6_readWord 0 := ⟨⟨rfl, by decide +kernel, rfl, rfl, tbl_t 658 (by decide +kernel) rfl, tbl_t 6 (by decide +kernel) rfl, ⟨by decide +kernel, by decide +kernel⟩, by decide +kernel⟩, tbl_t 657 (by decide +kernel) rfl, tbl_in (List.mem_append_left _ (List.mem_of_getElem? (i := 14) (by decide +kernel))) rfl⟩
def m_X6_readNumber : MD := (yX6_readNumber, cX6_readNumber, 1, none, { frames := 1, cells := 0, slots := 0, locals := 21 }, none)
theorem mo_X6_readNumber : MOV m_X6_readNumber 0 := ⟨⟨rfl, by decide +kernel, rfl, rfl, tbl_t 665 (by decide +kernel) rfl, tbl_t 6 (by decide +kernel) rfl, ⟨by decide +kernel, by decide +kernel⟩, by decide +kernel⟩, tbl_t 664 (by decide +kernel) rfl, tbl_in (List.mem_append_left _ (List.mem_of_getElem? (i := 15) (by decide +kernel))) rfl⟩
def m_X6_isLetter : MD := (yX6_isLetter, cX6_isLetter, 1, (some .boolean), { frames := 0, cells := 0, slots := 0, locals := 0 }, none)
theorem mo_X6_isLetter : MOS m_X6_isLetter 1 := ⟨⟨rfl, by decide +kernel, rfl, rfl, tbl_t 654 (by decide +kernel) rfl, tbl_t 6 (by decide +kernel) rfl, ⟨by decide +kernel, by decide +kernel⟩, by decide +kernel⟩, tbl_t 653 (by decide +kernel) rfl⟩
def m_X6_isDigit : MD := (yX6_isDigit, cX6_isDigit, 1, (some .boolean), { frames := 0, cells := 0, slots := 0, locals := 0 }, none)
theorem mo_X6_isDigit : MOS m_X6_isDigit 1 := ⟨⟨rfl, by decide +kernel, rfl, rfl, tbl_t 661 (by decide +kernel) rfl, tbl_t 6 (by decide +kernel) rfl, ⟨by decide +kernel, by decide +kernel⟩, by decide +kernel⟩, tbl_t 660 (by decide +kernel) rfl⟩
def m_X6_isWord : MD := (yX6_isWord, cX6_isWord, 4, (some .boolean), { frames := 5, cells := 0, slots := 0, locals := 106 }, none)
theorem mo_X6_isWord : MOV m_X6_isWord 1 := ⟨⟨rfl, by decide +kernel, rfl, rfl, tbl_t 675 (by decide +kernel) rfl, tbl_t 6 (by decide +kernel) rfl, ⟨by decide +kernel, by decide +kernel⟩, by decide +kernel⟩, tbl_t 673 (by decide +kernel) rfl, tbl_t 674 (by decide +kernel) rfl⟩
def m_X7_readText : MD := (yX7_readText, cX7_readText, 2, (some .int), { frames := 9, cells := 0, slots := 0, locals := 192 }, none)
theorem mo_X7_readText : MOV m_X7_readText 0 := ⟨⟨rfl, by decide +kernel, rfl, rfl, tbl_t 643 (by decide +kernel) rfl, tbl_t 7 (by decide +kernel) rfl, ⟨by decide +kernel, by decide +kernel⟩, by decide +kernel⟩, tbl_t 641 (by decide +kernel) rfl, tbl_t 642 (by decide +kernel) rfl⟩
def m_X7_readItem : MD := (yX7_readItem, cX7_readItem, 1, (some .boolean), { frames := 8, cells := 0, slots := 0, locals := 172 }, none)
theorem mo_X7_readItem : MOV m_X7_readItem 0 := ⟨⟨rfl, by decide +kernel, rfl, rfl, tbl_t 670 (by decide +kernel) rfl, tbl_t 7 (by decide +kernel) rfl, ⟨by decide +kernel, by decide +kernel⟩, by decide +kernel⟩, tbl_t 669 (by decide +kernel) rfl, tbl_in (List.mem_append_left _ (List.mem_of_getElem? (i := 16) (by decide +kernel))) rfl⟩
def m_X7_readBatch : MD := (yX7_readBatch, cX7_readBatch, 4, (some .boolean), { frames := 7, cells := 0, slots := 0, locals := 149 }, none)
theorem mo_X7_readBatch : MOV m_X7_readBatch 0 := ⟨⟨rfl, by decide +kernel, rfl, rfl, tbl_t 749 (by decide +kernel) rfl, tbl_t 7 (by decide +kernel) rfl, ⟨by decide +kernel, by decide +kernel⟩, by decide +kernel⟩, tbl_t 748 (by decide +kernel) rfl, tbl_in (List.mem_append_left _ (List.mem_of_getElem? (i := 20) (by decide +kernel))) rfl⟩
def m_X7_readCrowd : MD := (yX7_readCrowd, cX7_readCrowd, 4, (some .boolean), { frames := 6, cells := 0, slots := 0, locals := 129 }, none)
theorem mo_X7_readCrowd : MOV m_X7_readCrowd 0 := ⟨⟨rfl, by decide +kernel, rfl, rfl, tbl_t 727 (by decide +kernel) rfl, tbl_t 7 (by decide +kernel) rfl, ⟨by decide +kernel, by decide +kernel⟩, by decide +kernel⟩, tbl_t 726 (by decide +kernel) rfl, tbl_in (List.mem_append_left _ (List.mem_of_getElem? (i := 17) (by decide +kernel))) rfl⟩
def m_X7_readRule : MD := (yX7_readRule, cX7_readRule, 3, (some .boolean), { frames := 4, cells := 0, slots := 0, locals := 83 }, none)
theorem mo_X7_readRule : MOV m_X7_readRule 1 := ⟨⟨rfl, by decide +kernel, rfl, rfl, tbl_t 741 (by decide +kernel) rfl, tbl_t 7 (by decide +kernel) rfl, ⟨by decide +kernel, by decide +kernel⟩, by decide +kernel⟩, tbl_t 740 (by decide +kernel) rfl, tbl_in (List.mem_append_left _ (List.mem_of_getElem? (i := 19) (by decide +kernel))) rfl⟩
def m_X7_readNumberBehind : MD := (yX7_readNumberBehind, cX7_readNumberBehind, 3, (some .int), { frames := 3, cells := 0, slots := 0, locals := 61 }, none)
theorem mo_X7_readNumberBehind : MOV m_X7_readNumberBehind 1 := ⟨⟨rfl, by decide +kernel, rfl, rfl, tbl_t 732 (by decide +kernel) rfl, tbl_t 7 (by decide +kernel) rfl, ⟨by decide +kernel, by decide +kernel⟩, by decide +kernel⟩, tbl_t 731 (by decide +kernel) rfl, tbl_in (List.mem_append_left _ (List.mem_of_getElem? (i := 18) (by decide +kernel))) rfl⟩
def m_X7_kindTold : MD := (yX7_kindTold, cX7_kindTold, 1, (some .int), { frames := 6, cells := 0, slots := 0, locals := 129 }, none)
theorem mo_X7_kindTold : MOV m_X7_kindTold 0 := ⟨⟨rfl, by decide +kernel, rfl, rfl, tbl_t 753 (by decide +kernel) rfl, tbl_t 7 (by decide +kernel) rfl, ⟨by decide +kernel, by decide +kernel⟩, by decide +kernel⟩, tbl_t 752 (by decide +kernel) rfl, tbl_in (List.mem_append_left _ (List.mem_of_getElem? (i := 21) (by decide +kernel))) rfl⟩
def m_X7_placeTold : MD := (yX7_placeTold, cX7_placeTold, 1, (some .int), { frames := 6, cells := 0, slots := 0, locals := 129 }, none)
theorem mo_X7_placeTold : MOV m_X7_placeTold 0 := ⟨⟨rfl, by decide +kernel, rfl, rfl, tbl_t 767 (by decide +kernel) rfl, tbl_t 7 (by decide +kernel) rfl, ⟨by decide +kernel, by decide +kernel⟩, by decide +kernel⟩, tbl_t 766 (by decide +kernel) rfl, tbl_in (List.mem_append_left _ (List.mem_of_getElem? (i := 22) (by decide +kernel))) rfl⟩
def m_X8_batch : MD := (yX8_batch, cX8_batch, 2, (some .int), { frames := 1, cells := 0, slots := 0, locals := 22 }, none)
theorem mo_X8_batch : MOV m_X8_batch 1 := ⟨⟨rfl, by decide +kernel, rfl, rfl, tbl_t 264 (by decide +kernel) rfl, tbl_t 1 (by decide +kernel) rfl, ⟨by decide +kernel, by decide +kernel⟩, by decide +kernel⟩, tbl_t 262 (by decide +kernel) rfl, tbl_t 263 (by decide +kernel) rfl⟩
def m_X8_of : MD := (yX8_of, cX8_of, 4, (some .int), { frames := 2, cells := 0, slots := 0, locals := 42 }, none)
theorem mo_X8_of : MOV m_X8_of 2 := ⟨⟨rfl, by decide +kernel, rfl, rfl, tbl_t 284 (by decide +kernel) rfl, tbl_t 1 (by decide +kernel) rfl, ⟨by decide +kernel, by decide +kernel⟩, by decide +kernel⟩, tbl_t 282 (by decide +kernel) rfl, tbl_t 283 (by decide +kernel) rfl⟩
def m_X8_change : MD := (yX8_change, cX8_change, 4, (some .int), { frames := 2, cells := 0, slots := 0, locals := 47 }, none)
theorem mo_X8_change : MOV m_X8_change 3 := ⟨⟨rfl, by decide +kernel, rfl, rfl, tbl_t 304 (by decide +kernel) rfl, tbl_t 1 (by decide +kernel) rfl, ⟨by decide +kernel, by decide +kernel⟩, by decide +kernel⟩, tbl_t 302 (by decide +kernel) rfl, tbl_t 303 (by decide +kernel) rfl⟩
def m_X8_put : MD := (yX8_put, cX8_put, 4, (some .int), { frames := 2, cells := 0, slots := 0, locals := 45 }, none)
theorem mo_X8_put : MOV m_X8_put 2 := ⟨⟨rfl, by decide +kernel, rfl, rfl, tbl_t 312 (by decide +kernel) rfl, tbl_t 1 (by decide +kernel) rfl, ⟨by decide +kernel, by decide +kernel⟩, by decide +kernel⟩, tbl_t 310 (by decide +kernel) rfl, tbl_t 311 (by decide +kernel) rfl⟩
def m_X8_heats : MD := (yX8_heats, cX8_heats, 3, (some .int), { frames := 2, cells := 0, slots := 0, locals := 42 }, none)
theorem mo_X8_heats : MOV m_X8_heats 2 := ⟨⟨rfl, by decide +kernel, rfl, rfl, tbl_t 334 (by decide +kernel) rfl, tbl_t 1 (by decide +kernel) rfl, ⟨by decide +kernel, by decide +kernel⟩, by decide +kernel⟩, tbl_t 332 (by decide +kernel) rfl, tbl_t 333 (by decide +kernel) rfl⟩
def m_X8_how : MD := (yX8_how, cX8_how, 3, (some .int), { frames := 2, cells := 0, slots := 0, locals := 41 }, none)
theorem mo_X8_how : MOV m_X8_how 1 := ⟨⟨rfl, by decide +kernel, rfl, rfl, tbl_t 341 (by decide +kernel) rfl, tbl_t 1 (by decide +kernel) rfl, ⟨by decide +kernel, by decide +kernel⟩, by decide +kernel⟩, tbl_t 339 (by decide +kernel) rfl, tbl_t 340 (by decide +kernel) rfl⟩
def m_X8_shovel : MD := (yX8_shovel, cX8_shovel, 2, (some .int), { frames := 1, cells := 0, slots := 0, locals := 22 }, none)
theorem mo_X8_shovel : MOV m_X8_shovel 1 := ⟨⟨rfl, by decide +kernel, rfl, rfl, tbl_t 359 (by decide +kernel) rfl, tbl_t 1 (by decide +kernel) rfl, ⟨by decide +kernel, by decide +kernel⟩, by decide +kernel⟩, tbl_t 357 (by decide +kernel) rfl, tbl_t 358 (by decide +kernel) rfl⟩
def m_X8_rule : MD := (yX8_rule, cX8_rule, 4, (some .int), { frames := 1, cells := 0, slots := 0, locals := 22 }, none)
theorem mo_X8_rule : MOV m_X8_rule 2 := ⟨⟨rfl, by decide +kernel, rfl, rfl, tbl_t 371 (by decide +kernel) rfl, tbl_t 1 (by decide +kernel) rfl, ⟨by decide +kernel, by decide +kernel⟩, by decide +kernel⟩, tbl_t 369 (by decide +kernel) rfl, tbl_t 370 (by decide +kernel) rfl⟩
def m_X8_walk : MD := (yX8_walk, cX8_walk, 2, (some .int), { frames := 2, cells := 0, slots := 0, locals := 42 }, none)
theorem mo_X8_walk : MOV m_X8_walk 1 := ⟨⟨rfl, by decide +kernel, rfl, rfl, tbl_t 386 (by decide +kernel) rfl, tbl_t 1 (by decide +kernel) rfl, ⟨by decide +kernel, by decide +kernel⟩, by decide +kernel⟩, tbl_t 384 (by decide +kernel) rfl, tbl_t 385 (by decide +kernel) rfl⟩
def m_X8_crowd : MD := (yX8_crowd, cX8_crowd, 4, (some .int), { frames := 2, cells := 0, slots := 0, locals := 42 }, none)
theorem mo_X8_crowd : MOV m_X8_crowd 3 := ⟨⟨rfl, by decide +kernel, rfl, rfl, tbl_t 400 (by decide +kernel) rfl, tbl_t 1 (by decide +kernel) rfl, ⟨by decide +kernel, by decide +kernel⟩, by decide +kernel⟩, tbl_t 398 (by decide +kernel) rfl, tbl_t 399 (by decide +kernel) rfl⟩
def m_X8_crowdOf : MD := (yX8_crowdOf, cX8_crowdOf, 3, (some .int), { frames := 1, cells := 0, slots := 0, locals := 22 }, none)
theorem mo_X8_crowdOf : MOV m_X8_crowdOf 2 := ⟨⟨rfl, by decide +kernel, rfl, rfl, tbl_t 412 (by decide +kernel) rfl, tbl_t 1 (by decide +kernel) rfl, ⟨by decide +kernel, by decide +kernel⟩, by decide +kernel⟩, tbl_t 410 (by decide +kernel) rfl, tbl_t 411 (by decide +kernel) rfl⟩
def m_X8_late : MD := (yX8_late, cX8_late, 4, (some .int), { frames := 2, cells := 0, slots := 0, locals := 47 }, none)
theorem mo_X8_late : MOV m_X8_late 3 := ⟨⟨rfl, by decide +kernel, rfl, rfl, tbl_t 424 (by decide +kernel) rfl, tbl_t 1 (by decide +kernel) rfl, ⟨by decide +kernel, by decide +kernel⟩, by decide +kernel⟩, tbl_t 422 (by decide +kernel) rfl, tbl_t 423 (by decide +kernel) rfl⟩
def m_X8_minutes : MD := (yX8_minutes, cX8_minutes, 3, (some .int), { frames := 5, cells := 0, slots := 0, locals := 119 }, none)
theorem mo_X8_minutes : MOV m_X8_minutes 1 := ⟨⟨rfl, by decide +kernel, rfl, rfl, tbl_t 428 (by decide +kernel) rfl, tbl_t 1 (by decide +kernel) rfl, ⟨by decide +kernel, by decide +kernel⟩, by decide +kernel⟩, tbl_t 426 (by decide +kernel) rfl, tbl_t 427 (by decide +kernel) rfl⟩
def m_X8_now : MD := (yX8_now, cX8_now, 2, (some .int), { frames := 1, cells := 0, slots := 0, locals := 22 }, none)
theorem mo_X8_now : MOV m_X8_now 1 := ⟨⟨rfl, by decide +kernel, rfl, rfl, tbl_t 483 (by decide +kernel) rfl, tbl_t 1 (by decide +kernel) rfl, ⟨by decide +kernel, by decide +kernel⟩, by decide +kernel⟩, tbl_t 481 (by decide +kernel) rfl, tbl_t 482 (by decide +kernel) rfl⟩
def m_X8_at : MD := (yX8_at, cX8_at, 2, (some .int), { frames := 1, cells := 0, slots := 0, locals := 23 }, none)
theorem mo_X8_at : MOV m_X8_at 1 := ⟨⟨rfl, by decide +kernel, rfl, rfl, tbl_t 487 (by decide +kernel) rfl, tbl_t 1 (by decide +kernel) rfl, ⟨by decide +kernel, by decide +kernel⟩, by decide +kernel⟩, tbl_t 485 (by decide +kernel) rfl, tbl_t 486 (by decide +kernel) rfl⟩
def m_X8_ahead : MD := (yX8_ahead, cX8_ahead, 4, (some .int), { frames := 5, cells := 0, slots := 0, locals := 119 }, none)
theorem mo_X8_ahead : MOV m_X8_ahead 2 := ⟨⟨rfl, by decide +kernel, rfl, rfl, tbl_t 492 (by decide +kernel) rfl, tbl_t 1 (by decide +kernel) rfl, ⟨by decide +kernel, by decide +kernel⟩, by decide +kernel⟩, tbl_t 490 (by decide +kernel) rfl, tbl_t 491 (by decide +kernel) rfl⟩
def m_X8_ready : MD := (yX8_ready, cX8_ready, 3, (some .int), { frames := 6, cells := 0, slots := 0, locals := 142 }, none)
theorem mo_X8_ready : MOV m_X8_ready 1 := ⟨⟨rfl, by decide +kernel, rfl, rfl, tbl_t 528 (by decide +kernel) rfl, tbl_t 1 (by decide +kernel) rfl, ⟨by decide +kernel, by decide +kernel⟩, by decide +kernel⟩, tbl_t 526 (by decide +kernel) rfl, tbl_t 527 (by decide +kernel) rfl⟩
def m_X8_burnt : MD := (yX8_burnt, cX8_burnt, 3, (some .int), { frames := 5, cells := 0, slots := 0, locals := 119 }, none)
theorem mo_X8_burnt : MOV m_X8_burnt 1 := ⟨⟨rfl, by decide +kernel, rfl, rfl, tbl_t 536 (by decide +kernel) rfl, tbl_t 1 (by decide +kernel) rfl, ⟨by decide +kernel, by decide +kernel⟩, by decide +kernel⟩, tbl_t 534 (by decide +kernel) rfl, tbl_t 535 (by decide +kernel) rfl⟩
def m_X8_putOn : MD := (yX8_putOn, cX8_putOn, 5, (some .int), { frames := 7, cells := 0, slots := 0, locals := 165 }, none)
theorem mo_X8_putOn : MOV m_X8_putOn 2 := ⟨⟨rfl, by decide +kernel, rfl, rfl, tbl_t 540 (by decide +kernel) rfl, tbl_t 1 (by decide +kernel) rfl, ⟨by decide +kernel, by decide +kernel⟩, by decide +kernel⟩, tbl_t 538 (by decide +kernel) rfl, tbl_t 539 (by decide +kernel) rfl⟩
def m_X8_takeOff : MD := (yX8_takeOff, cX8_takeOff, 5, (some .int), { frames := 6, cells := 0, slots := 0, locals := 141 }, none)
theorem mo_X8_takeOff : MOV m_X8_takeOff 2 := ⟨⟨rfl, by decide +kernel, rfl, rfl, tbl_t 548 (by decide +kernel) rfl, tbl_t 1 (by decide +kernel) rfl, ⟨by decide +kernel, by decide +kernel⟩, by decide +kernel⟩, tbl_t 546 (by decide +kernel) rfl, tbl_t 547 (by decide +kernel) rfl⟩
def m_X8_shovels : MD := (yX8_shovels, cX8_shovels, 3, (some .int), { frames := 5, cells := 0, slots := 0, locals := 119 }, none)
theorem mo_X8_shovels : MOV m_X8_shovels 1 := ⟨⟨rfl, by decide +kernel, rfl, rfl, tbl_t 566 (by decide +kernel) rfl, tbl_t 1 (by decide +kernel) rfl, ⟨by decide +kernel, by decide +kernel⟩, by decide +kernel⟩, tbl_t 564 (by decide +kernel) rfl, tbl_t 565 (by decide +kernel) rfl⟩
def m_X8_corner : MD := (yX8_corner, cX8_corner, 3, (some .int), { frames := 5, cells := 0, slots := 0, locals := 119 }, none)
theorem mo_X8_corner : MOV m_X8_corner 1 := ⟨⟨rfl, by decide +kernel, rfl, rfl, tbl_t 570 (by decide +kernel) rfl, tbl_t 1 (by decide +kernel) rfl, ⟨by decide +kernel, by decide +kernel⟩, by decide +kernel⟩, tbl_t 568 (by decide +kernel) rfl, tbl_t 569 (by decide +kernel) rfl⟩
def m_X8_two : MD := (yX8_two, cX8_two, 6, (some .int), { frames := 6, cells := 0, slots := 0, locals := 141 }, none)
theorem mo_X8_two : MOV m_X8_two 2 := ⟨⟨rfl, by decide +kernel, rfl, rfl, tbl_t 574 (by decide +kernel) rfl, tbl_t 1 (by decide +kernel) rfl, ⟨by decide +kernel, by decide +kernel⟩, by decide +kernel⟩, tbl_t 572 (by decide +kernel) rfl, tbl_t 573 (by decide +kernel) rfl⟩
def m_X8_price : MD := (yX8_price, cX8_price, 3, (some .int), { frames := 5, cells := 0, slots := 0, locals := 119 }, none)
theorem mo_X8_price : MOV m_X8_price 1 := ⟨⟨rfl, by decide +kernel, rfl, rfl, tbl_t 582 (by decide +kernel) rfl, tbl_t 1 (by decide +kernel) rfl, ⟨by decide +kernel, by decide +kernel⟩, by decide +kernel⟩, tbl_t 580 (by decide +kernel) rfl, tbl_t 581 (by decide +kernel) rfl⟩
def m_X8_kindFor : MD := (yX8_kindFor, cX8_kindFor, 4, (some .int), { frames := 5, cells := 0, slots := 0, locals := 119 }, none)
theorem mo_X8_kindFor : MOV m_X8_kindFor 2 := ⟨⟨rfl, by decide +kernel, rfl, rfl, tbl_t 586 (by decide +kernel) rfl, tbl_t 1 (by decide +kernel) rfl, ⟨by decide +kernel, by decide +kernel⟩, by decide +kernel⟩, tbl_t 584 (by decide +kernel) rfl, tbl_t 585 (by decide +kernel) rfl⟩
def m_X8_heatFor : MD := (yX8_heatFor, cX8_heatFor, 4, (some .int), { frames := 6, cells := 0, slots := 0, locals := 142 }, none)
theorem mo_X8_heatFor : MOV m_X8_heatFor 2 := ⟨⟨rfl, by decide +kernel, rfl, rfl, tbl_t 590 (by decide +kernel) rfl, tbl_t 1 (by decide +kernel) rfl, ⟨by decide +kernel, by decide +kernel⟩, by decide +kernel⟩, tbl_t 588 (by decide +kernel) rfl, tbl_t 589 (by decide +kernel) rfl⟩
def m_X8_brings : MD := (yX8_brings, cX8_brings, 4, (some .int), { frames := 6, cells := 0, slots := 0, locals := 141 }, none)
theorem mo_X8_brings : MOV m_X8_brings 2 := ⟨⟨rfl, by decide +kernel, rfl, rfl, tbl_t 594 (by decide +kernel) rfl, tbl_t 1 (by decide +kernel) rfl, ⟨by decide +kernel, by decide +kernel⟩, by decide +kernel⟩, tbl_t 592 (by decide +kernel) rfl, tbl_t 593 (by decide +kernel) rfl⟩
def m_X8_best : MD := (yX8_best, cX8_best, 3, (some .int), { frames := 6, cells := 0, slots := 0, locals := 141 }, none)
theorem mo_X8_best : MOV m_X8_best 1 := ⟨⟨rfl, by decide +kernel, rfl, rfl, tbl_t 602 (by decide +kernel) rfl, tbl_t 1 (by decide +kernel) rfl, ⟨by decide +kernel, by decide +kernel⟩, by decide +kernel⟩, tbl_t 600 (by decide +kernel) rfl, tbl_t 601 (by decide +kernel) rfl⟩
def m_X8_left : MD := (yX8_left, cX8_left, 3, (some .int), { frames := 5, cells := 0, slots := 0, locals := 119 }, none)
theorem mo_X8_left : MOV m_X8_left 1 := ⟨⟨rfl, by decide +kernel, rfl, rfl, tbl_t 606 (by decide +kernel) rfl, tbl_t 1 (by decide +kernel) rfl, ⟨by decide +kernel, by decide +kernel⟩, by decide +kernel⟩, tbl_t 604 (by decide +kernel) rfl, tbl_t 605 (by decide +kernel) rfl⟩
def m_X8_boys : MD := (yX8_boys, cX8_boys, 6, (some .int), { frames := 1, cells := 0, slots := 0, locals := 22 }, none)
theorem mo_X8_boys : MOV m_X8_boys 1 := ⟨⟨rfl, by decide +kernel, rfl, rfl, tbl_t 610 (by decide +kernel) rfl, tbl_t 1 (by decide +kernel) rfl, ⟨by decide +kernel, by decide +kernel⟩, by decide +kernel⟩, tbl_t 608 (by decide +kernel) rfl, tbl_t 609 (by decide +kernel) rfl⟩
def m_X8_seed : MD := (yX8_seed, cX8_seed, 3, (some .int), { frames := 0, cells := 0, slots := 0, locals := 0 }, none)
theorem mo_X8_seed : MOV m_X8_seed 1 := ⟨⟨rfl, by decide +kernel, rfl, rfl, tbl_t 619 (by decide +kernel) rfl, tbl_t 1 (by decide +kernel) rfl, ⟨by decide +kernel, by decide +kernel⟩, by decide +kernel⟩, tbl_t 617 (by decide +kernel) rfl, tbl_t 618 (by decide +kernel) rfl⟩
def m_X8_feed : MD := (yX8_feed, cX8_feed, 3, (some .int), { frames := 1, cells := 0, slots := 0, locals := 23 }, none)
theorem mo_X8_feed : MOV m_X8_feed 2 := ⟨⟨rfl, by decide +kernel, rfl, rfl, tbl_t 623 (by decide +kernel) rfl, tbl_t 1 (by decide +kernel) rfl, ⟨by decide +kernel, by decide +kernel⟩, by decide +kernel⟩, tbl_t 621 (by decide +kernel) rfl, tbl_t 622 (by decide +kernel) rfl⟩
def m_X8_wipe : MD := (yX8_wipe, cX8_wipe, 2, (some .int), { frames := 0, cells := 0, slots := 0, locals := 0 }, none)
theorem mo_X8_wipe : MOV m_X8_wipe 0 := ⟨⟨rfl, by decide +kernel, rfl, rfl, tbl_t 635 (by decide +kernel) rfl, tbl_t 1 (by decide +kernel) rfl, ⟨by decide +kernel, by decide +kernel⟩, by decide +kernel⟩, tbl_t 633 (by decide +kernel) rfl, tbl_t 634 (by decide +kernel) rfl⟩
def m_X8_text : MD := (yX8_text, cX8_text, 2, (some .int), { frames := 10, cells := 0, slots := 0, locals := 213 }, none)
theorem mo_X8_text : MOV m_X8_text 0 := ⟨⟨rfl, by decide +kernel, rfl, rfl, tbl_t 639 (by decide +kernel) rfl, tbl_t 1 (by decide +kernel) rfl, ⟨by decide +kernel, by decide +kernel⟩, by decide +kernel⟩, tbl_t 637 (by decide +kernel) rfl, tbl_t 638 (by decide +kernel) rfl⟩
def m_X8_hold : MD := (yX8_hold, cX8_hold, 3, (some .int), { frames := 2, cells := 0, slots := 0, locals := 42 }, none)
theorem mo_X8_hold : MOV m_X8_hold 2 := ⟨⟨rfl, by decide +kernel, rfl, rfl, tbl_t 777 (by decide +kernel) rfl, tbl_t 1 (by decide +kernel) rfl, ⟨by decide +kernel, by decide +kernel⟩, by decide +kernel⟩, tbl_t 775 (by decide +kernel) rfl, tbl_t 776 (by decide +kernel) rfl⟩
def m_X8_as : MD := (yX8_as, cX8_as, 4, (some .int), { frames := 2, cells := 0, slots := 0, locals := 43 }, none)
theorem mo_X8_as : MOV m_X8_as 2 := ⟨⟨rfl, by decide +kernel, rfl, rfl, tbl_t 784 (by decide +kernel) rfl, tbl_t 1 (by decide +kernel) rfl, ⟨by decide +kernel, by decide +kernel⟩, by decide +kernel⟩, tbl_t 782 (by decide +kernel) rfl, tbl_t 783 (by decide +kernel) rfl⟩
def m_X8_sheet : MD := (yX8_sheet, cX8_sheet, 4, (some .int), { frames := 1, cells := 0, slots := 0, locals := 24 }, none)
theorem mo_X8_sheet : MOV m_X8_sheet 3 := ⟨⟨rfl, by decide +kernel, rfl, rfl, tbl_t 794 (by decide +kernel) rfl, tbl_t 1 (by decide +kernel) rfl, ⟨by decide +kernel, by decide +kernel⟩, by decide +kernel⟩, tbl_t 792 (by decide +kernel) rfl, tbl_t 793 (by decide +kernel) rfl⟩
def m_X8_write : MD := (yX8_write, cX8_write, 4, (some .int), { frames := 1, cells := 0, slots := 0, locals := 24 }, none)
theorem mo_X8_write : MOV m_X8_write 3 := ⟨⟨rfl, by decide +kernel, rfl, rfl, tbl_t 806 (by decide +kernel) rfl, tbl_t 1 (by decide +kernel) rfl, ⟨by decide +kernel, by decide +kernel⟩, by decide +kernel⟩, tbl_t 804 (by decide +kernel) rfl, tbl_t 805 (by decide +kernel) rfl⟩
def m_X8_copy : MD := (yX8_copy, cX8_copy, 6, (some .int), { frames := 2, cells := 0, slots := 0, locals := 51 }, none)
theorem mo_X8_copy : MOV m_X8_copy 5 := ⟨⟨rfl, by decide +kernel, rfl, rfl, tbl_t 818 (by decide +kernel) rfl, tbl_t 1 (by decide +kernel) rfl, ⟨by decide +kernel, by decide +kernel⟩, by decide +kernel⟩, tbl_t 816 (by decide +kernel) rfl, tbl_t 817 (by decide +kernel) rfl⟩
def m_X8_load : MD := (yX8_load, cX8_load, 5, (some .int), { frames := 1, cells := 0, slots := 0, locals := 22 }, none)
theorem mo_X8_load : MOV m_X8_load 1 := ⟨⟨rfl, by decide +kernel, rfl, rfl, tbl_t 831 (by decide +kernel) rfl, tbl_t 1 (by decide +kernel) rfl, ⟨by decide +kernel, by decide +kernel⟩, by decide +kernel⟩, tbl_t 829 (by decide +kernel) rfl, tbl_t 830 (by decide +kernel) rfl⟩
def m_X8_judge : MD := (yX8_judge, cX8_judge, 4, (some .int), { frames := 5, cells := 0, slots := 0, locals := 119 }, none)
theorem mo_X8_judge : MOV m_X8_judge 1 := ⟨⟨rfl, by decide +kernel, rfl, rfl, tbl_t 839 (by decide +kernel) rfl, tbl_t 1 (by decide +kernel) rfl, ⟨by decide +kernel, by decide +kernel⟩, by decide +kernel⟩, tbl_t 837 (by decide +kernel) rfl, tbl_t 838 (by decide +kernel) rfl⟩
def m_X8_image : MD := (yX8_image, cX8_image, 1, (some .int), { frames := 3, cells := 0, slots := 0, locals := 68 }, none)
theorem mo_X8_image : MOV m_X8_image 0 := ⟨⟨rfl, by decide +kernel, rfl, rfl, tbl_t 843 (by decide +kernel) rfl, tbl_t 1 (by decide +kernel) rfl, ⟨by decide +kernel, by decide +kernel⟩, by decide +kernel⟩, tbl_t 841 (by decide +kernel) rfl, tbl_t 842 (by decide +kernel) rfl⟩
def m_X8_undo : MD := (yX8_undo, cX8_undo, 1, (some .int), { frames := 3, cells := 0, slots := 0, locals := 68 }, none)
theorem mo_X8_undo : MOV m_X8_undo 0 := ⟨⟨rfl, by decide +kernel, rfl, rfl, tbl_t 847 (by decide +kernel) rfl, tbl_t 1 (by decide +kernel) rfl, ⟨by decide +kernel, by decide +kernel⟩, by decide +kernel⟩, tbl_t 845 (by decide +kernel) rfl, tbl_t 846 (by decide +kernel) rfl⟩
def m_X8_tear : MD := (yX8_tear, cX8_tear, 2, (some .int), { frames := 0, cells := 0, slots := 0, locals := 0 }, none)
theorem mo_X8_tear : MOV m_X8_tear 0 := ⟨⟨rfl, by decide +kernel, rfl, rfl, tbl_t 851 (by decide +kernel) rfl, tbl_t 1 (by decide +kernel) rfl, ⟨by decide +kernel, by decide +kernel⟩, by decide +kernel⟩, tbl_t 849 (by decide +kernel) rfl, tbl_t 850 (by decide +kernel) rfl⟩
def m_X8_count : MD := (yX8_count, cX8_count, 2, (some .int), { frames := 1, cells := 0, slots := 0, locals := 22 }, none)
theorem mo_X8_count : MOV m_X8_count 1 := ⟨⟨rfl, by decide +kernel, rfl, rfl, tbl_t 855 (by decide +kernel) rfl, tbl_t 1 (by decide +kernel) rfl, ⟨by decide +kernel, by decide +kernel⟩, by decide +kernel⟩, tbl_t 853 (by decide +kernel) rfl, tbl_t 854 (by decide +kernel) rfl⟩
def m_X8_status : MD := (yX8_status, cX8_status, 4, (some .int), { frames := 1, cells := 0, slots := 0, locals := 22 }, none)
theorem mo_X8_status : MOV m_X8_status 1 := ⟨⟨rfl, by decide +kernel, rfl, rfl, tbl_t 871 (by decide +kernel) rfl, tbl_t 1 (by decide +kernel) rfl, ⟨by decide +kernel, by decide +kernel⟩, by decide +kernel⟩, tbl_t 869 (by decide +kernel) rfl, tbl_t 870 (by decide +kernel) rfl⟩
def m_X8_finding : MD := (yX8_finding, cX8_finding, 2, (some .int), { frames := 0, cells := 0, slots := 0, locals := 0 }, none)
theorem mo_X8_finding : MOV m_X8_finding 1 := ⟨⟨rfl, by decide +kernel, rfl, rfl, tbl_t 271 (by decide +kernel) rfl, tbl_t 1 (by decide +kernel) rfl, ⟨by decide +kernel, by decide +kernel⟩, by decide +kernel⟩, tbl_t 270 (by decide +kernel) rfl, tbl_in (List.mem_append_left _ (List.mem_of_getElem? (i := 0) (by decide +kernel))) rfl⟩
def m_X8_within : MD := (yX8_within, cX8_within, 3, (some .boolean), { frames := 0, cells := 0, slots := 0, locals := 0 }, none)
theorem mo_X8_within : MOS m_X8_within 3 := ⟨⟨rfl, by decide +kernel, rfl, rfl, tbl_t 267 (by decide +kernel) rfl, tbl_t 1 (by decide +kernel) rfl, ⟨by decide +kernel, by decide +kernel⟩, by decide +kernel⟩, tbl_t 266 (by decide +kernel) rfl⟩
def m_X8_isBatch : MD := (yX8_isBatch, cX8_isBatch, 2, (some .boolean), { frames := 0, cells := 0, slots := 0, locals := 0 }, none)
theorem mo_X8_isBatch : MOV m_X8_isBatch 1 := ⟨⟨rfl, by decide +kernel, rfl, rfl, tbl_t 288 (by decide +kernel) rfl, tbl_t 1 (by decide +kernel) rfl, ⟨by decide +kernel, by decide +kernel⟩, by decide +kernel⟩, tbl_t 287 (by decide +kernel) rfl, tbl_in (List.mem_append_left _ (List.mem_of_getElem? (i := 1) (by decide +kernel))) rfl⟩
def m_X8_isCrowd : MD := (yX8_isCrowd, cX8_isCrowd, 2, (some .boolean), { frames := 0, cells := 0, slots := 0, locals := 0 }, none)
theorem mo_X8_isCrowd : MOV m_X8_isCrowd 1 := ⟨⟨rfl, by decide +kernel, rfl, rfl, tbl_t 416 (by decide +kernel) rfl, tbl_t 1 (by decide +kernel) rfl, ⟨by decide +kernel, by decide +kernel⟩, by decide +kernel⟩, tbl_t 415 (by decide +kernel) rfl, tbl_in (List.mem_append_left _ (List.mem_of_getElem? (i := 3) (by decide +kernel))) rfl⟩
def m_X8_isCorner : MD := (yX8_isCorner, cX8_isCorner, 1, (some .boolean), { frames := 1, cells := 0, slots := 0, locals := 22 }, none)
theorem mo_X8_isCorner : MOS m_X8_isCorner 1 := ⟨⟨rfl, by decide +kernel, rfl, rfl, tbl_t 389 (by decide +kernel) rfl, tbl_t 1 (by decide +kernel) rfl, ⟨by decide +kernel, by decide +kernel⟩, by decide +kernel⟩, tbl_t 388 (by decide +kernel) rfl⟩
def m_X8_isSpot : MD := (yX8_isSpot, cX8_isSpot, 1, (some .boolean), { frames := 1, cells := 0, slots := 0, locals := 22 }, none)
theorem mo_X8_isSpot : MOS m_X8_isSpot 1 := ⟨⟨rfl, by decide +kernel, rfl, rfl, tbl_t 780 (by decide +kernel) rfl, tbl_t 1 (by decide +kernel) rfl, ⟨by decide +kernel, by decide +kernel⟩, by decide +kernel⟩, tbl_t 779 (by decide +kernel) rfl⟩
def m_X8_isPlan : MD := (yX8_isPlan, cX8_isPlan, 1, (some .boolean), { frames := 1, cells := 0, slots := 0, locals := 22 }, none)
theorem mo_X8_isPlan : MOS m_X8_isPlan 1 := ⟨⟨rfl, by decide +kernel, rfl, rfl, tbl_t 431 (by decide +kernel) rfl, tbl_t 1 (by decide +kernel) rfl, ⟨by decide +kernel, by decide +kernel⟩, by decide +kernel⟩, tbl_t 430 (by decide +kernel) rfl⟩
def m_X8_isTooLate : MD := (yX8_isTooLate, cX8_isTooLate, 2, (some .boolean), { frames := 0, cells := 0, slots := 0, locals := 0 }, none)
theorem mo_X8_isTooLate : MOV m_X8_isTooLate 1 := ⟨⟨rfl, by decide +kernel, rfl, rfl, tbl_t 435 (by decide +kernel) rfl, tbl_t 1 (by decide +kernel) rfl, ⟨by decide +kernel, by decide +kernel⟩, by decide +kernel⟩, tbl_t 434 (by decide +kernel) rfl, tbl_in (List.mem_append_left _ (List.mem_of_getElem? (i := 4) (by decide +kernel))) rfl⟩
def m_X8_mostOfRule : MD := (yX8_mostOfRule, cX8_mostOfRule, 1, (some .int), { frames := 0, cells := 0, slots := 0, locals := 0 }, none)
theorem mo_X8_mostOfRule : MOS m_X8_mostOfRule 1 := ⟨⟨rfl, by decide +kernel, rfl, rfl, tbl_t 374 (by decide +kernel) rfl, tbl_t 1 (by decide +kernel) rfl, ⟨by decide +kernel, by decide +kernel⟩, by decide +kernel⟩, tbl_t 373 (by decide +kernel) rfl⟩
def m_X8_exchange : MD := (yX8_exchange, cX8_exchange, 6, (some .int), { frames := 1, cells := 0, slots := 0, locals := 22 }, none)
theorem mo_X8_exchange : MOV m_X8_exchange 4 := ⟨⟨rfl, by decide +kernel, rfl, rfl, tbl_t 308 (by decide +kernel) rfl, tbl_t 1 (by decide +kernel) rfl, ⟨by decide +kernel, by decide +kernel⟩, by decide +kernel⟩, tbl_t 307 (by decide +kernel) rfl, tbl_in (List.mem_append_left _ (List.mem_of_getElem? (i := 2) (by decide +kernel))) rfl⟩
def m_X8_minutesToReady : MD := (yX8_minutesToReady, cX8_minutesToReady, 4, (some .int), { frames := 5, cells := 0, slots := 0, locals := 119 }, none)
theorem mo_X8_minutesToReady : MOV m_X8_minutesToReady 2 := ⟨⟨rfl, by decide +kernel, rfl, rfl, tbl_t 532 (by decide +kernel) rfl, tbl_t 1 (by decide +kernel) rfl, ⟨by decide +kernel, by decide +kernel⟩, by decide +kernel⟩, tbl_t 531 (by decide +kernel) rfl, tbl_in (List.mem_append_left _ (List.mem_of_getElem? (i := 9) (by decide +kernel))) rfl⟩
def m_X8_isReadyJustAt : MD := (yX8_isReadyJustAt, cX8_isReadyJustAt, 4, (some .boolean), { frames := 6, cells := 0, slots := 0, locals := 142 }, none)
theorem mo_X8_isReadyJustAt : MOV m_X8_isReadyJustAt 2 := ⟨⟨rfl, by decide +kernel, rfl, rfl, tbl_t 544 (by decide +kernel) rfl, tbl_t 1 (by decide +kernel) rfl, ⟨by decide +kernel, by decide +kernel⟩, by decide +kernel⟩, tbl_t 543 (by decide +kernel) rfl, tbl_in (List.mem_append_left _ (List.mem_of_getElem? (i := 10) (by decide +kernel))) rfl⟩
def m_X8_coinTakenOff : MD := (yX8_coinTakenOff, cX8_coinTakenOff, 3, (some .int), { frames := 5, cells := 0, slots := 0, locals := 119 }, none)
theorem mo_X8_coinTakenOff : MOV m_X8_coinTakenOff 2 := ⟨⟨rfl, by decide +kernel, rfl, rfl, tbl_t 558 (by decide +kernel) rfl, tbl_t 1 (by decide +kernel) rfl, ⟨by decide +kernel, by decide +kernel⟩, by decide +kernel⟩, tbl_t 557 (by decide +kernel) rfl, tbl_in (List.mem_append_left _ (List.mem_of_getElem? (i := 11) (by decide +kernel))) rfl⟩
def m_X8_coinFromCorner : MD := (yX8_coinFromCorner, cX8_coinFromCorner, 3, (some .int), { frames := 5, cells := 0, slots := 0, locals := 119 }, none)
theorem mo_X8_coinFromCorner : MOV m_X8_coinFromCorner 2 := ⟨⟨rfl, by decide +kernel, rfl, rfl, tbl_t 578 (by decide +kernel) rfl, tbl_t 1 (by decide +kernel) rfl, ⟨by decide +kernel, by decide +kernel⟩, by decide +kernel⟩, tbl_t 577 (by decide +kernel) rfl, tbl_in (List.mem_append_left _ (List.mem_of_getElem? (i := 12) (by decide +kernel))) rfl⟩
def m_X8_coinWithout : MD := (yX8_coinWithout, cX8_coinWithout, 3, (some .int), { frames := 5, cells := 0, slots := 0, locals := 119 }, none)
theorem mo_X8_coinWithout : MOV m_X8_coinWithout 2 := ⟨⟨rfl, by decide +kernel, rfl, rfl, tbl_t 598 (by decide +kernel) rfl, tbl_t 1 (by decide +kernel) rfl, ⟨by decide +kernel, by decide +kernel⟩, by decide +kernel⟩, tbl_t 597 (by decide +kernel) rfl, tbl_in (List.mem_append_left _ (List.mem_of_getElem? (i := 13) (by decide +kernel))) rfl⟩
def m_X9_in : MD := (yX9_in, cX9_in, 6, (some .boolean), { frames := 0, cells := 0, slots := 0, locals := 0 }, none)
theorem mo_X9_in : MOS m_X9_in 3 := ⟨⟨rfl, by decide +kernel, rfl, rfl, tbl_t 931 (by decide +kernel) rfl, tbl_t 9 (by decide +kernel) rfl, ⟨by decide +kernel, by decide +kernel⟩, by decide +kernel⟩, tbl_t 930 (by decide +kernel) rfl⟩
def m_X9_finds : MD := (yX9_finds, cX9_finds, 2, (some .int), { frames := 0, cells := 0, slots := 0, locals := 0 }, none)
theorem mo_X9_finds : MOV m_X9_finds 1 := ⟨⟨rfl, by decide +kernel, rfl, rfl, tbl_t 936 (by decide +kernel) rfl, tbl_t 9 (by decide +kernel) rfl, ⟨by decide +kernel, by decide +kernel⟩, by decide +kernel⟩, tbl_t 935 (by decide +kernel) rfl, tbl_in (List.mem_append_left _ (List.mem_of_getElem? (i := 23) (by decide +kernel))) rfl⟩
def m_X9_isBatch : MD := (yX9_isBatch, cX9_isBatch, 2, (some .boolean), { frames := 1, cells := 0, slots := 0, locals := 25 }, none)
theorem mo_X9_isBatch : MOV m_X9_isBatch 1 := ⟨⟨rfl, by decide +kernel, rfl, rfl, tbl_t 952 (by decide +kernel) rfl, tbl_t 9 (by decide +kernel) rfl, ⟨by decide +kernel, by decide +kernel⟩, by decide +kernel⟩, tbl_t 951 (by decide +kernel) rfl, tbl_in (List.mem_append_left _ (List.mem_of_getElem? (i := 25) (by decide +kernel))) rfl⟩
def m_X9_isCrowd : MD := (yX9_isCrowd, cX9_isCrowd, 2, (some .boolean), { frames := 1, cells := 0, slots := 0, locals := 25 }, none)
theorem mo_X9_isCrowd : MOV m_X9_isCrowd 1 := ⟨⟨rfl, by decide +kernel, rfl, rfl, tbl_t 1077 (by decide +kernel) rfl, tbl_t 9 (by decide +kernel) rfl, ⟨by decide +kernel, by decide +kernel⟩, by decide +kernel⟩, tbl_t 1076 (by decide +kernel) rfl, tbl_in (List.mem_append_left _ (List.mem_of_getElem? (i := 41) (by decide +kernel))) rfl⟩
def m_X9_isCorner : MD := (yX9_isCorner, cX9_isCorner, 1, (some .boolean), { frames := 1, cells := 0, slots := 0, locals := 25 }, none)
theorem mo_X9_isCorner : MOS m_X9_isCorner 1 := ⟨⟨rfl, by decide +kernel, rfl, rfl, tbl_t 1049 (by decide +kernel) rfl, tbl_t 9 (by decide +kernel) rfl, ⟨by decide +kernel, by decide +kernel⟩, by decide +kernel⟩, tbl_t 1048 (by decide +kernel) rfl⟩
def m_X9_draw : MD := (yX9_draw, cX9_draw, 1, (some .int), { frames := 0, cells := 0, slots := 0, locals := 0 }, none)
theorem mo_X9_draw : MOV m_X9_draw 0 := ⟨⟨rfl, by decide +kernel, rfl, rfl, tbl_t 1237 (by decide +kernel) rfl, tbl_t 9 (by decide +kernel) rfl, ⟨by decide +kernel, by decide +kernel⟩, by decide +kernel⟩, tbl_t 1236 (by decide +kernel) rfl, tbl_in (List.mem_append_left _ (List.mem_of_getElem? (i := 60) (by decide +kernel))) rfl⟩
def m_X9_saves : MD := (yX9_saves, cX9_saves, 2, none, { frames := 0, cells := 0, slots := 0, locals := 0 }, none)
theorem mo_X9_saves : MOV m_X9_saves 0 := ⟨⟨rfl, by decide +kernel, rfl, rfl, tbl_t 1139 (by decide +kernel) rfl, tbl_t 9 (by decide +kernel) rfl, ⟨by decide +kernel, by decide +kernel⟩, by decide +kernel⟩, tbl_t 1138 (by decide +kernel) rfl, tbl_in (List.mem_append_left _ (List.mem_of_getElem? (i := 51) (by decide +kernel))) rfl⟩
def m_X9_putsBack : MD := (yX9_putsBack, cX9_putsBack, 2, none, { frames := 0, cells := 0, slots := 0, locals := 0 }, none)
theorem mo_X9_putsBack : MOV m_X9_putsBack 0 := ⟨⟨rfl, by decide +kernel, rfl, rfl, tbl_t 1151 (by decide +kernel) rfl, tbl_t 9 (by decide +kernel) rfl, ⟨by decide +kernel, by decide +kernel⟩, by decide +kernel⟩, tbl_t 1150 (by decide +kernel) rfl, tbl_in (List.mem_append_left _ (List.mem_of_getElem? (i := 54) (by decide +kernel))) rfl⟩
def m_X9_where : MD := (yX9_where, cX9_where, 2, (some .int), { frames := 0, cells := 0, slots := 0, locals := 0 }, none)
theorem mo_X9_where : MOS m_X9_where 2 := ⟨⟨rfl, by decide +kernel, rfl, rfl, tbl_t 944 (by decide +kernel) rfl, tbl_t 9 (by decide +kernel) rfl, ⟨by decide +kernel, by decide +kernel⟩, by decide +kernel⟩, tbl_t 943 (by decide +kernel) rfl⟩
def m_X9_its : MD := (yX9_its, cX9_its, 3, (some .int), { frames := 1, cells := 0, slots := 0, locals := 21 }, none)
theorem mo_X9_its : MOV m_X9_its 2 := ⟨⟨rfl, by decide +kernel, rfl, rfl, tbl_t 957 (by decide +kernel) rfl, tbl_t 9 (by decide +kernel) rfl, ⟨by decide +kernel, by decide +kernel⟩, by decide +kernel⟩, tbl_t 956 (by decide +kernel) rfl, tbl_in (List.mem_append_left _ (List.mem_of_getElem? (i := 26) (by decide +kernel))) rfl⟩
def m_X9_newBatch : MD := (yX9_newBatch, cX9_newBatch, 5, (some .int), { frames := 1, cells := 0, slots := 0, locals := 21 }, none)
theorem mo_X9_newBatch : MOV m_X9_newBatch 3 := ⟨⟨rfl, by decide +kernel, rfl, rfl, tbl_t 941 (by decide +kernel) rfl, tbl_t 9 (by decide +kernel) rfl, ⟨by decide +kernel, by decide +kernel⟩, by decide +kernel⟩, tbl_t 940 (by decide +kernel) rfl, tbl_in (List.mem_append_left _ (List.mem_of_getElem? (i := 24) (by decide +kernel))) rfl⟩
def m_X9_batch : MD := (yX9_batch, cX9_batch, 2, (some .int), { frames := 2, cells := 0, slots := 0, locals := 45 }, none)
theorem mo_X9_batch : MOV m_X9_batch 1 := ⟨⟨rfl, by decide +kernel, rfl, rfl, tbl_t 927 (by decide +kernel) rfl, tbl_t 9 (by decide +kernel) rfl, ⟨by decide +kernel, by decide +kernel⟩, by decide +kernel⟩, tbl_t 925 (by decide +kernel) rfl, tbl_t 926 (by decide +kernel) rfl⟩
def m_X9_heatsOf : MD := (yX9_heatsOf, cX9_heatsOf, 3, (some .int), { frames := 2, cells := 0, slots := 0, locals := 43 }, none)
theorem mo_X9_heatsOf : MOV m_X9_heatsOf 2 := ⟨⟨rfl, by decide +kernel, rfl, rfl, tbl_t 1012 (by decide +kernel) rfl, tbl_t 9 (by decide +kernel) rfl, ⟨by decide +kernel, by decide +kernel⟩, by decide +kernel⟩, tbl_t 1011 (by decide +kernel) rfl, tbl_in (List.mem_append_left _ (List.mem_of_getElem? (i := 34) (by decide +kernel))) rfl⟩
def m_X9_readyAt : MD := (yX9_readyAt, cX9_readyAt, 3, (some .int), { frames := 2, cells := 0, slots := 0, locals := 43 }, none)
theorem mo_X9_readyAt : MOV m_X9_readyAt 1 := ⟨⟨rfl, by decide +kernel, rfl, rfl, tbl_t 961 (by decide +kernel) rfl, tbl_t 9 (by decide +kernel) rfl, ⟨by decide +kernel, by decide +kernel⟩, by decide +kernel⟩, tbl_t 960 (by decide +kernel) rfl, tbl_in (List.mem_append_left _ (List.mem_of_getElem? (i := 27) (by decide +kernel))) rfl⟩
def m_X9_burntAt : MD := (yX9_burntAt, cX9_burntAt, 3, (some .int), { frames := 3, cells := 0, slots := 0, locals := 65 }, none)
theorem mo_X9_burntAt : MOV m_X9_burntAt 1 := ⟨⟨rfl, by decide +kernel, rfl, rfl, tbl_t 965 (by decide +kernel) rfl, tbl_t 9 (by decide +kernel) rfl, ⟨by decide +kernel, by decide +kernel⟩, by decide +kernel⟩, tbl_t 964 (by decide +kernel) rfl, tbl_in (List.mem_append_left _ (List.mem_of_getElem? (i := 28) (by decide +kernel))) rfl⟩
def m_X9_worth : MD := (yX9_worth, cX9_worth, 4, (some .int), { frames := 2, cells := 0, slots := 0, locals := 43 }, none)
theorem mo_X9_worth : MOV m_X9_worth 1 := ⟨⟨rfl, by decide +kernel, rfl, rfl, tbl_t 969 (by decide +kernel) rfl, tbl_t 9 (by decide +kernel) rfl, ⟨by decide +kernel, by decide +kernel⟩, by decide +kernel⟩, tbl_t 968 (by decide +kernel) rfl, tbl_in (List.mem_append_left _ (List.mem_of_getElem? (i := 29) (by decide +kernel))) rfl⟩
def m_X9_of : MD := (yX9_of, cX9_of, 3, (some .int), { frames := 4, cells := 0, slots := 0, locals := 87 }, none)
theorem mo_X9_of : MOV m_X9_of 2 := ⟨⟨rfl, by decide +kernel, rfl, rfl, tbl_t 948 (by decide +kernel) rfl, tbl_t 9 (by decide +kernel) rfl, ⟨by decide +kernel, by decide +kernel⟩, by decide +kernel⟩, tbl_t 946 (by decide +kernel) rfl, tbl_t 947 (by decide +kernel) rfl⟩
def m_X9_isPart : MD := (yX9_isPart, cX9_isPart, 2, (some .boolean), { frames := 1, cells := 0, slots := 0, locals := 25 }, none)
theorem mo_X9_isPart : MOS m_X9_isPart 2 := ⟨⟨rfl, by decide +kernel, rfl, rfl, tbl_t 976 (by decide +kernel) rfl, tbl_t 9 (by decide +kernel) rfl, ⟨by decide +kernel, by decide +kernel⟩, by decide +kernel⟩, tbl_t 975 (by decide +kernel) rfl⟩
def m_X9_change : MD := (yX9_change, cX9_change, 5, (some .int), { frames := 2, cells := 0, slots := 0, locals := 46 }, none)
theorem mo_X9_change : MOV m_X9_change 3 := ⟨⟨rfl, by decide +kernel, rfl, rfl, tbl_t 973 (by decide +kernel) rfl, tbl_t 9 (by decide +kernel) rfl, ⟨by decide +kernel, by decide +kernel⟩, by decide +kernel⟩, tbl_t 971 (by decide +kernel) rfl, tbl_t 972 (by decide +kernel) rfl⟩
def m_X9_placed : MD := (yX9_placed, cX9_placed, 4, (some .int), { frames := 2, cells := 0, slots := 0, locals := 43 }, none)
theorem mo_X9_placed : MOV m_X9_placed 1 := ⟨⟨rfl, by decide +kernel, rfl, rfl, tbl_t 992 (by decide +kernel) rfl, tbl_t 9 (by decide +kernel) rfl, ⟨by decide +kernel, by decide +kernel⟩, by decide +kernel⟩, tbl_t 991 (by decide +kernel) rfl, tbl_in (List.mem_append_left _ (List.mem_of_getElem? (i := 31) (by decide +kernel))) rfl⟩
def m_X9_ones : MD := (yX9_ones, cX9_ones, 3, (some .int), { frames := 0, cells := 0, slots := 0, locals := 0 }, none)
theorem mo_X9_ones : MOS m_X9_ones 1 := ⟨⟨rfl, by decide +kernel, rfl, rfl, tbl_t 995 (by decide +kernel) rfl, tbl_t 9 (by decide +kernel) rfl, ⟨by decide +kernel, by decide +kernel⟩, by decide +kernel⟩, tbl_t 994 (by decide +kernel) rfl⟩
def m_X9_isRoom : MD := (yX9_isRoom, cX9_isRoom, 2, (some .boolean), { frames := 3, cells := 0, slots := 0, locals := 66 }, none)
theorem mo_X9_isRoom : MOV m_X9_isRoom 1 := ⟨⟨rfl, by decide +kernel, rfl, rfl, tbl_t 988 (by decide +kernel) rfl, tbl_t 9 (by decide +kernel) rfl, ⟨by decide +kernel, by decide +kernel⟩, by decide +kernel⟩, tbl_t 987 (by decide +kernel) rfl, tbl_in (List.mem_append_left _ (List.mem_of_getElem? (i := 30) (by decide +kernel))) rfl⟩
def m_X9_goes : MD := (yX9_goes, cX9_goes, 2, none, { frames := 2, cells := 0, slots := 0, locals := 43 }, none)
theorem mo_X9_goes : MOV m_X9_goes 1 := ⟨⟨rfl, by decide +kernel, rfl, rfl, tbl_t 1003 (by decide +kernel) rfl, tbl_t 9 (by decide +kernel) rfl, ⟨by decide +kernel, by decide +kernel⟩, by decide +kernel⟩, tbl_t 1002 (by decide +kernel) rfl, tbl_in (List.mem_append_left _ (List.mem_of_getElem? (i := 33) (by decide +kernel))) rfl⟩
def m_X9_putsAt : MD := (yX9_putsAt, cX9_putsAt, 3, none, { frames := 3, cells := 0, slots := 0, locals := 64 }, none)
theorem mo_X9_putsAt : MOV m_X9_putsAt 2 := ⟨⟨rfl, by decide +kernel, rfl, rfl, tbl_t 999 (by decide +kernel) rfl, tbl_t 9 (by decide +kernel) rfl, ⟨by decide +kernel, by decide +kernel⟩, by decide +kernel⟩, tbl_t 998 (by decide +kernel) rfl, tbl_in (List.mem_append_left _ (List.mem_of_getElem? (i := 32) (by decide +kernel))) rfl⟩
def m_X9_put : MD := (yX9_put, cX9_put, 4, (some .int), { frames := 4, cells := 0, slots := 0, locals := 87 }, none)
theorem mo_X9_put : MOV m_X9_put 2 := ⟨⟨rfl, by decide +kernel, rfl, rfl, tbl_t 982 (by decide +kernel) rfl, tbl_t 9 (by decide +kernel) rfl, ⟨by decide +kernel, by decide +kernel⟩, by decide +kernel⟩, tbl_t 980 (by decide +kernel) rfl, tbl_t 981 (by decide +kernel) rfl⟩
def m_X9_heats : MD := (yX9_heats, cX9_heats, 3, (some .int), { frames := 3, cells := 0, slots := 0, locals := 65 }, none)
theorem mo_X9_heats : MOV m_X9_heats 2 := ⟨⟨rfl, by decide +kernel, rfl, rfl, tbl_t 1007 (by decide +kernel) rfl, tbl_t 9 (by decide +kernel) rfl, ⟨by decide +kernel, by decide +kernel⟩, by decide +kernel⟩, tbl_t 1005 (by decide +kernel) rfl, tbl_t 1006 (by decide +kernel) rfl⟩
def m_X9_isReady : MD := (yX9_isReady, cX9_isReady, 2, (some .boolean), { frames := 3, cells := 0, slots := 0, locals := 65 }, none)
theorem mo_X9_isReady : MOV m_X9_isReady 1 := ⟨⟨rfl, by decide +kernel, rfl, rfl, tbl_t 1028 (by decide +kernel) rfl, tbl_t 9 (by decide +kernel) rfl, ⟨by decide +kernel, by decide +kernel⟩, by decide +kernel⟩, tbl_t 1027 (by decide +kernel) rfl, tbl_in (List.mem_append_left _ (List.mem_of_getElem? (i := 37) (by decide +kernel))) rfl⟩
def m_X9_isBurnt : MD := (yX9_isBurnt, cX9_isBurnt, 2, (some .boolean), { frames := 4, cells := 0, slots := 0, locals := 87 }, none)
theorem mo_X9_isBurnt : MOV m_X9_isBurnt 1 := ⟨⟨rfl, by decide +kernel, rfl, rfl, tbl_t 1024 (by decide +kernel) rfl, tbl_t 9 (by decide +kernel) rfl, ⟨by decide +kernel, by decide +kernel⟩, by decide +kernel⟩, tbl_t 1023 (by decide +kernel) rfl, tbl_in (List.mem_append_left _ (List.mem_of_getElem? (i := 36) (by decide +kernel))) rfl⟩
def m_X9_howIs : MD := (yX9_howIs, cX9_howIs, 3, (some .int), { frames := 5, cells := 0, slots := 0, locals := 108 }, none)
theorem mo_X9_howIs : MOV m_X9_howIs 1 := ⟨⟨rfl, by decide +kernel, rfl, rfl, tbl_t 1020 (by decide +kernel) rfl, tbl_t 9 (by decide +kernel) rfl, ⟨by decide +kernel, by decide +kernel⟩, by decide +kernel⟩, tbl_t 1019 (by decide +kernel) rfl, tbl_in (List.mem_append_left _ (List.mem_of_getElem? (i := 35) (by decide +kernel))) rfl⟩
def m_X9_how : MD := (yX9_how, cX9_how, 2, (some .int), { frames := 6, cells := 0, slots := 0, locals := 130 }, none)
theorem mo_X9_how : MOV m_X9_how 1 := ⟨⟨rfl, by decide +kernel, rfl, rfl, tbl_t 1016 (by decide +kernel) rfl, tbl_t 9 (by decide +kernel) rfl, ⟨by decide +kernel, by decide +kernel⟩, by decide +kernel⟩, tbl_t 1014 (by decide +kernel) rfl, tbl_t 1015 (by decide +kernel) rfl⟩
def m_X9_dueAll : MD := (yX9_dueAll, cX9_dueAll, 3, (some .int), { frames := 0, cells := 0, slots := 0, locals := 0 }, none)
theorem mo_X9_dueAll : MOV m_X9_dueAll 0 := ⟨⟨rfl, by decide +kernel, rfl, rfl, tbl_t 1036 (by decide +kernel) rfl, tbl_t 9 (by decide +kernel) rfl, ⟨by decide +kernel, by decide +kernel⟩, by decide +kernel⟩, tbl_t 1035 (by decide +kernel) rfl, tbl_in (List.mem_append_left _ (List.mem_of_getElem? (i := 38) (by decide +kernel))) rfl⟩
def m_X9_shovel : MD := (yX9_shovel, cX9_shovel, 2, (some .int), { frames := 1, cells := 0, slots := 0, locals := 25 }, none)
theorem mo_X9_shovel : MOV m_X9_shovel 1 := ⟨⟨rfl, by decide +kernel, rfl, rfl, tbl_t 1032 (by decide +kernel) rfl, tbl_t 9 (by decide +kernel) rfl, ⟨by decide +kernel, by decide +kernel⟩, by decide +kernel⟩, tbl_t 1030 (by decide +kernel) rfl, tbl_t 1031 (by decide +kernel) rfl⟩
def m_X9_rule : MD := (yX9_rule, cX9_rule, 4, (some .int), { frames := 1, cells := 0, slots := 0, locals := 25 }, none)
theorem mo_X9_rule : MOV m_X9_rule 2 := ⟨⟨rfl, by decide +kernel, rfl, rfl, tbl_t 1040 (by decide +kernel) rfl, tbl_t 9 (by decide +kernel) rfl, ⟨by decide +kernel, by decide +kernel⟩, by decide +kernel⟩, tbl_t 1038 (by decide +kernel) rfl, tbl_t 1039 (by decide +kernel) rfl⟩
def m_X9_walks : MD := (yX9_walks, cX9_walks, 3, none, { frames := 0, cells := 0, slots := 0, locals := 0 }, none)
theorem mo_X9_walks : MOV m_X9_walks 1 := ⟨⟨rfl, by decide +kernel, rfl, rfl, tbl_t 1054 (by decide +kernel) rfl, tbl_t 9 (by decide +kernel) rfl, ⟨by decide +kernel, by decide +kernel⟩, by decide +kernel⟩, tbl_t 1053 (by decide +kernel) rfl, tbl_in (List.mem_append_left _ (List.mem_of_getElem? (i := 39) (by decide +kernel))) rfl⟩
def m_X9_walk : MD := (yX9_walk, cX9_walk, 2, (some .int), { frames := 2, cells := 0, slots := 0, locals := 45 }, none)
theorem mo_X9_walk : MOV m_X9_walk 1 := ⟨⟨rfl, by decide +kernel, rfl, rfl, tbl_t 1046 (by decide +kernel) rfl, tbl_t 9 (by decide +kernel) rfl, ⟨by decide +kernel, by decide +kernel⟩, by decide +kernel⟩, tbl_t 1044 (by decide +kernel) rfl, tbl_t 1045 (by decide +kernel) rfl⟩
def m_X9_who : MD := (yX9_who, cX9_who, 2, (some .int), { frames := 0, cells := 0, slots := 0, locals := 0 }, none)
theorem mo_X9_who : MOS m_X9_who 2 := ⟨⟨rfl, by decide +kernel, rfl, rfl, tbl_t 1069 (by decide +kernel) rfl, tbl_t 9 (by decide +kernel) rfl, ⟨by decide +kernel, by decide +kernel⟩, by decide +kernel⟩, tbl_t 1068 (by decide +kernel) rfl⟩
def m_X9_told : MD := (yX9_told, cX9_told, 3, (some .int), { frames := 1, cells := 0, slots := 0, locals := 21 }, none)
theorem mo_X9_told : MOV m_X9_told 2 := ⟨⟨rfl, by decide +kernel, rfl, rfl, tbl_t 1081 (by decide +kernel) rfl, tbl_t 9 (by decide +kernel) rfl, ⟨by decide +kernel, by decide +kernel⟩, by decide +kernel⟩, tbl_t 1080 (by decide +kernel) rfl, tbl_in (List.mem_append_left _ (List.mem_of_getElem? (i := 42) (by decide +kernel))) rfl⟩
def m_X9_isFigure : MD := (yX9_isFigure, cX9_isFigure, 2, (some .boolean), { frames := 2, cells := 0, slots := 0, locals := 45 }, none)
theorem mo_X9_isFigure : MOS m_X9_isFigure 2 := ⟨⟨rfl, by decide +kernel, rfl, rfl, tbl_t 1061 (by decide +kernel) rfl, tbl_t 9 (by decide +kernel) rfl, ⟨by decide +kernel, by decide +kernel⟩, by decide +kernel⟩, tbl_t 1060 (by decide +kernel) rfl⟩
def m_X9_newCrowd : MD := (yX9_newCrowd, cX9_newCrowd, 5, (some .int), { frames := 1, cells := 0, slots := 0, locals := 21 }, none)
theorem mo_X9_newCrowd : MOV m_X9_newCrowd 3 := ⟨⟨rfl, by decide +kernel, rfl, rfl, tbl_t 1066 (by decide +kernel) rfl, tbl_t 9 (by decide +kernel) rfl, ⟨by decide +kernel, by decide +kernel⟩, by decide +kernel⟩, tbl_t 1065 (by decide +kernel) rfl, tbl_in (List.mem_append_left _ (List.mem_of_getElem? (i := 40) (by decide +kernel))) rfl⟩
def m_X9_crowd : MD := (yX9_crowd, cX9_crowd, 4, (some .int), { frames := 3, cells := 0, slots := 0, locals := 66 }, none)
theorem mo_X9_crowd : MOV m_X9_crowd 3 := ⟨⟨rfl, by decide +kernel, rfl, rfl, tbl_t 1058 (by decide +kernel) rfl, tbl_t 9 (by decide +kernel) rfl, ⟨by decide +kernel, by decide +kernel⟩, by decide +kernel⟩, tbl_t 1056 (by decide +kernel) rfl, tbl_t 1057 (by decide +kernel) rfl⟩
def m_X9_come : MD := (yX9_come, cX9_come, 3, (some .int), { frames := 2, cells := 0, slots := 0, locals := 43 }, none)
theorem mo_X9_come : MOV m_X9_come 1 := ⟨⟨rfl, by decide +kernel, rfl, rfl, tbl_t 1085 (by decide +kernel) rfl, tbl_t 9 (by decide +kernel) rfl, ⟨by decide +kernel, by decide +kernel⟩, by decide +kernel⟩, tbl_t 1084 (by decide +kernel) rfl, tbl_in (List.mem_append_left _ (List.mem_of_getElem? (i := 43) (by decide +kernel))) rfl⟩
def m_X9_crowdOf : MD := (yX9_crowdOf, cX9_crowdOf, 3, (some .int), { frames := 3, cells := 0, slots := 0, locals := 65 }, none)
theorem mo_X9_crowdOf : MOV m_X9_crowdOf 2 := ⟨⟨rfl, by decide +kernel, rfl, rfl, tbl_t 1073 (by decide +kernel) rfl, tbl_t 9 (by decide +kernel) rfl, ⟨by decide +kernel, by decide +kernel⟩, by decide +kernel⟩, tbl_t 1071 (by decide +kernel) rfl, tbl_t 1072 (by decide +kernel) rfl⟩
def m_X9_late : MD := (yX9_late, cX9_late, 5, (some .int), { frames := 3, cells := 0, slots := 0, locals := 66 }, none)
theorem mo_X9_late : MOV m_X9_late 3 := ⟨⟨rfl, by decide +kernel, rfl, rfl, tbl_t 1089 (by decide +kernel) rfl, tbl_t 9 (by decide +kernel) rfl, ⟨by decide +kernel, by decide +kernel⟩, by decide +kernel⟩, tbl_t 1087 (by decide +kernel) rfl, tbl_t 1088 (by decide +kernel) rfl⟩
def m_X9_warms : MD := (yX9_warms, cX9_warms, 3, none, { frames := 0, cells := 0, slots := 0, locals := 0 }, none)
theorem mo_X9_warms : MOV m_X9_warms 0 := ⟨⟨rfl, by decide +kernel, rfl, rfl, tbl_t 1110 (by decide +kernel) rfl, tbl_t 9 (by decide +kernel) rfl, ⟨by decide +kernel, by decide +kernel⟩, by decide +kernel⟩, tbl_t 1109 (by decide +kernel) rfl, tbl_in (List.mem_append_left _ (List.mem_of_getElem? (i := 47) (by decide +kernel))) rfl⟩
def m_X9_roasts : MD := (yX9_roasts, cX9_roasts, 4, none, { frames := 3, cells := 0, slots := 0, locals := 65 }, none)
theorem mo_X9_roasts : MOV m_X9_roasts 0 := ⟨⟨rfl, by decide +kernel, rfl, rfl, tbl_t 1114 (by decide +kernel) rfl, tbl_t 9 (by decide +kernel) rfl, ⟨by decide +kernel, by decide +kernel⟩, by decide +kernel⟩, tbl_t 1113 (by decide +kernel) rfl, tbl_in (List.mem_append_left _ (List.mem_of_getElem? (i := 48) (by decide +kernel))) rfl⟩
def m_X9_bought : MD := (yX9_bought, cX9_bought, 5, (some .int), { frames := 6, cells := 0, slots := 0, locals := 130 }, none)
theorem mo_X9_bought : MOV m_X9_bought 1 := ⟨⟨rfl, by decide +kernel, rfl, rfl, tbl_t 1122 (by decide +kernel) rfl, tbl_t 9 (by decide +kernel) rfl, ⟨by decide +kernel, by decide +kernel⟩, by decide +kernel⟩, tbl_t 1121 (by decide +kernel) rfl, tbl_in (List.mem_append_left _ (List.mem_of_getElem? (i := 50) (by decide +kernel))) rfl⟩
def m_X9_buys : MD := (yX9_buys, cX9_buys, 5, none, { frames := 7, cells := 0, slots := 0, locals := 154 }, none)
theorem mo_X9_buys : MOV m_X9_buys 1 := ⟨⟨rfl, by decide +kernel, rfl, rfl, tbl_t 1118 (by decide +kernel) rfl, tbl_t 9 (by decide +kernel) rfl, ⟨by decide +kernel, by decide +kernel⟩, by decide +kernel⟩, tbl_t 1117 (by decide +kernel) rfl, tbl_in (List.mem_append_left _ (List.mem_of_getElem? (i := 49) (by decide +kernel))) rfl⟩
def m_X9_minute : MD := (yX9_minute, cX9_minute, 2, none, { frames := 8, cells := 0, slots := 0, locals := 178 }, none)
theorem mo_X9_minute : MOV m_X9_minute 0 := ⟨⟨rfl, by decide +kernel, rfl, rfl, tbl_t 1106 (by decide +kernel) rfl, tbl_t 9 (by decide +kernel) rfl, ⟨by decide +kernel, by decide +kernel⟩, by decide +kernel⟩, tbl_t 1105 (by decide +kernel) rfl, tbl_in (List.mem_append_left _ (List.mem_of_getElem? (i := 46) (by decide +kernel))) rfl⟩
def m_X9_minutesGo : MD := (yX9_minutesGo, cX9_minutesGo, 3, none, { frames := 9, cells := 0, slots := 0, locals := 199 }, none)
theorem mo_X9_minutesGo : MOV m_X9_minutesGo 1 := ⟨⟨rfl, by decide +kernel, rfl, rfl, tbl_t 1102 (by decide +kernel) rfl, tbl_t 9 (by decide +kernel) rfl, ⟨by decide +kernel, by decide +kernel⟩, by decide +kernel⟩, tbl_t 1101 (by decide +kernel) rfl, tbl_in (List.mem_append_left _ (List.mem_of_getElem? (i := 45) (by decide +kernel))) rfl⟩
def m_X9_isTooLate : MD := (yX9_isTooLate, cX9_isTooLate, 2, (some .boolean), { frames := 0, cells := 0, slots := 0, locals := 0 }, none)
theorem mo_X9_isTooLate : MOV m_X9_isTooLate 1 := ⟨⟨rfl, by decide +kernel, rfl, rfl, tbl_t 1098 (by decide +kernel) rfl, tbl_t 9 (by decide +kernel) rfl, ⟨by decide +kernel, by decide +kernel⟩, by decide +kernel⟩, tbl_t 1097 (by decide +kernel) rfl, tbl_in (List.mem_append_left _ (List.mem_of_getElem? (i := 44) (by decide +kernel))) rfl⟩
def m_X9_minutes : MD := (yX9_minutes, cX9_minutes, 3, (some .int), { frames := 10, cells := 0, slots := 0, locals := 221 }, none)
theorem mo_X9_minutes : MOV m_X9_minutes 1 := ⟨⟨rfl, by decide +kernel, rfl, rfl, tbl_t 1093 (by decide +kernel) rfl, tbl_t 9 (by decide +kernel) rfl, ⟨by decide +kernel, by decide +kernel⟩, by decide +kernel⟩, tbl_t 1091 (by decide +kernel) rfl, tbl_t 1092 (by decide +kernel) rfl⟩
def m_X9_now : MD := (yX9_now, cX9_now, 2, (some .int), { frames := 1, cells := 0, slots := 0, locals := 22 }, none)
theorem mo_X9_now : MOV m_X9_now 1 := ⟨⟨rfl, by decide +kernel, rfl, rfl, tbl_t 1126 (by decide +kernel) rfl, tbl_t 9 (by decide +kernel) rfl, ⟨by decide +kernel, by decide +kernel⟩, by decide +kernel⟩, tbl_t 1124 (by decide +kernel) rfl, tbl_t 1125 (by decide +kernel) rfl⟩
def m_X9_at : MD := (yX9_at, cX9_at, 2, (some .int), { frames := 3, cells := 0, slots := 0, locals := 66 }, none)
theorem mo_X9_at : MOV m_X9_at 1 := ⟨⟨rfl, by decide +kernel, rfl, rfl, tbl_t 1130 (by decide +kernel) rfl, tbl_t 9 (by decide +kernel) rfl, ⟨by decide +kernel, by decide +kernel⟩, by decide +kernel⟩, tbl_t 1128 (by decide +kernel) rfl, tbl_t 1129 (by decide +kernel) rfl⟩
def m_X9_doneSet : MD := (yX9_doneSet, cX9_doneSet, 4, (some .int), { frames := 5, cells := 0, slots := 0, locals := 108 }, none)
theorem mo_X9_doneSet : MOV m_X9_doneSet 0 := ⟨⟨rfl, by decide +kernel, rfl, rfl, tbl_t 1143 (by decide +kernel) rfl, tbl_t 9 (by decide +kernel) rfl, ⟨by decide +kernel, by decide +kernel⟩, by decide +kernel⟩, tbl_t 1142 (by decide +kernel) rfl, tbl_in (List.mem_append_left _ (List.mem_of_getElem? (i := 52) (by decide +kernel))) rfl⟩
def m_X9_bagsLeft : MD := (yX9_bagsLeft, cX9_bagsLeft, 3, (some .int), { frames := 2, cells := 0, slots := 0, locals := 43 }, none)
theorem mo_X9_bagsLeft : MOV m_X9_bagsLeft 0 := ⟨⟨rfl, by decide +kernel, rfl, rfl, tbl_t 1147 (by decide +kernel) rfl, tbl_t 9 (by decide +kernel) rfl, ⟨by decide +kernel, by decide +kernel⟩, by decide +kernel⟩, tbl_t 1146 (by decide +kernel) rfl, tbl_in (List.mem_append_left _ (List.mem_of_getElem? (i := 53) (by decide +kernel))) rfl⟩
def m_X9_ahead : MD := (yX9_ahead, cX9_ahead, 4, (some .int), { frames := 10, cells := 0, slots := 0, locals := 221 }, none)
theorem mo_X9_ahead : MOV m_X9_ahead 2 := ⟨⟨rfl, by decide +kernel, rfl, rfl, tbl_t 1134 (by decide +kernel) rfl, tbl_t 9 (by decide +kernel) rfl, ⟨by decide +kernel, by decide +kernel⟩, by decide +kernel⟩, tbl_t 1132 (by decide +kernel) rfl, tbl_t 1133 (by decide +kernel) rfl⟩
def m_X9_doneIn : MD := (yX9_doneIn, cX9_doneIn, 4, (some .int), { frames := 9, cells := 0, slots := 0, locals := 199 }, none)
theorem mo_X9_doneIn : MOV m_X9_doneIn 2 := ⟨⟨rfl, by decide +kernel, rfl, rfl, tbl_t 1163 (by decide +kernel) rfl, tbl_t 9 (by decide +kernel) rfl, ⟨by decide +kernel, by decide +kernel⟩, by decide +kernel⟩, tbl_t 1162 (by decide +kernel) rfl, tbl_in (List.mem_append_left _ (List.mem_of_getElem? (i := 56) (by decide +kernel))) rfl⟩
def m_X9_doneFrom : MD := (yX9_doneFrom, cX9_doneFrom, 4, (some .int), { frames := 10, cells := 0, slots := 0, locals := 222 }, none)
theorem mo_X9_doneFrom : MOV m_X9_doneFrom 2 := ⟨⟨rfl, by decide +kernel, rfl, rfl, tbl_t 1159 (by decide +kernel) rfl, tbl_t 9 (by decide +kernel) rfl, ⟨by decide +kernel, by decide +kernel⟩, by decide +kernel⟩, tbl_t 1158 (by decide +kernel) rfl, tbl_in (List.mem_append_left _ (List.mem_of_getElem? (i := 55) (by decide +kernel))) rfl⟩
def m_X9_ready : MD := (yX9_ready, cX9_ready, 2, (some .int), { frames := 11, cells := 0, slots := 0, locals := 245 }, none)
theorem mo_X9_ready : MOV m_X9_ready 1 := ⟨⟨rfl, by decide +kernel, rfl, rfl, tbl_t 1155 (by decide +kernel) rfl, tbl_t 9 (by decide +kernel) rfl, ⟨by decide +kernel, by decide +kernel⟩, by decide +kernel⟩, tbl_t 1153 (by decide +kernel) rfl, tbl_t 1154 (by decide +kernel) rfl⟩
def m_X9_burnt : MD := (yX9_burnt, cX9_burnt, 2, (some .int), { frames := 11, cells := 0, slots := 0, locals := 245 }, none)
theorem mo_X9_burnt : MOV m_X9_burnt 1 := ⟨⟨rfl, by decide +kernel, rfl, rfl, tbl_t 1168 (by decide +kernel) rfl, tbl_t 9 (by decide +kernel) rfl, ⟨by decide +kernel, by decide +kernel⟩, by decide +kernel⟩, tbl_t 1166 (by decide +kernel) rfl, tbl_t 1167 (by decide +kernel) rfl⟩
def m_X9_putOn : MD := (yX9_putOn, cX9_putOn, 6, (some .int), { frames := 10, cells := 0, slots := 0, locals := 222 }, none)
theorem mo_X9_putOn : MOV m_X9_putOn 2 := ⟨⟨rfl, by decide +kernel, rfl, rfl, tbl_t 1172 (by decide +kernel) rfl, tbl_t 9 (by decide +kernel) rfl, ⟨by decide +kernel, by decide +kernel⟩, by decide +kernel⟩, tbl_t 1170 (by decide +kernel) rfl, tbl_t 1171 (by decide +kernel) rfl⟩
def m_X9_coinIn : MD := (yX9_coinIn, cX9_coinIn, 3, (some .int), { frames := 10, cells := 0, slots := 0, locals := 221 }, none)
theorem mo_X9_coinIn : MOV m_X9_coinIn 1 := ⟨⟨rfl, by decide +kernel, rfl, rfl, tbl_t 1187 (by decide +kernel) rfl, tbl_t 9 (by decide +kernel) rfl, ⟨by decide +kernel, by decide +kernel⟩, by decide +kernel⟩, tbl_t 1186 (by decide +kernel) rfl, tbl_in (List.mem_append_left _ (List.mem_of_getElem? (i := 58) (by decide +kernel))) rfl⟩
def m_X9_isSpan : MD := (yX9_isSpan, cX9_isSpan, 1, (some .boolean), { frames := 1, cells := 0, slots := 0, locals := 25 }, none)
theorem mo_X9_isSpan : MOS m_X9_isSpan 1 := ⟨⟨rfl, by decide +kernel, rfl, rfl, tbl_t 1179 (by decide +kernel) rfl, tbl_t 9 (by decide +kernel) rfl, ⟨by decide +kernel, by decide +kernel⟩, by decide +kernel⟩, tbl_t 1178 (by decide +kernel) rfl⟩
def m_X9_isRoasting : MD := (yX9_isRoasting, cX9_isRoasting, 2, (some .boolean), { frames := 2, cells := 0, slots := 0, locals := 43 }, none)
theorem mo_X9_isRoasting : MOV m_X9_isRoasting 1 := ⟨⟨rfl, by decide +kernel, rfl, rfl, tbl_t 1183 (by decide +kernel) rfl, tbl_t 9 (by decide +kernel) rfl, ⟨by decide +kernel, by decide +kernel⟩, by decide +kernel⟩, tbl_t 1182 (by decide +kernel) rfl, tbl_in (List.mem_append_left _ (List.mem_of_getElem? (i := 57) (by decide +kernel))) rfl⟩
def m_X9_takeOff : MD := (yX9_takeOff, cX9_takeOff, 8, (some .int), { frames := 11, cells := 0, slots := 0, locals := 243 }, none)
theorem mo_X9_takeOff : MOV m_X9_takeOff 2 := ⟨⟨rfl, by decide +kernel, rfl, rfl, tbl_t 1176 (by decide +kernel) rfl, tbl_t 9 (by decide +kernel) rfl, ⟨by decide +kernel, by decide +kernel⟩, by decide +kernel⟩, tbl_t 1174 (by decide +kernel) rfl, tbl_t 1175 (by decide +kernel) rfl⟩
def m_X9_shovels : MD := (yX9_shovels, cX9_shovels, 6, (some .int), { frames := 11, cells := 0, slots := 0, locals := 243 }, none)
theorem mo_X9_shovels : MOV m_X9_shovels 1 := ⟨⟨rfl, by decide +kernel, rfl, rfl, tbl_t 1191 (by decide +kernel) rfl, tbl_t 9 (by decide +kernel) rfl, ⟨by decide +kernel, by decide +kernel⟩, by decide +kernel⟩, tbl_t 1189 (by decide +kernel) rfl, tbl_t 1190 (by decide +kernel) rfl⟩
def m_X9_corner : MD := (yX9_corner, cX9_corner, 6, (some .int), { frames := 11, cells := 0, slots := 0, locals := 243 }, none)
theorem mo_X9_corner : MOV m_X9_corner 1 := ⟨⟨rfl, by decide +kernel, rfl, rfl, tbl_t 1195 (by decide +kernel) rfl, tbl_t 9 (by decide +kernel) rfl, ⟨by decide +kernel, by decide +kernel⟩, by decide +kernel⟩, tbl_t 1193 (by decide +kernel) rfl, tbl_t 1194 (by decide +kernel) rfl⟩
def m_X9_two : MD := (yX9_two, cX9_two, 7, (some .int), { frames := 11, cells := 0, slots := 0, locals := 243 }, none)
theorem mo_X9_two : MOV m_X9_two 2 := ⟨⟨rfl, by decide +kernel, rfl, rfl, tbl_t 1199 (by decide +kernel) rfl, tbl_t 9 (by decide +kernel) rfl, ⟨by decide +kernel, by decide +kernel⟩, by decide +kernel⟩, tbl_t 1197 (by decide +kernel) rfl, tbl_t 1198 (by decide +kernel) rfl⟩
def m_X9_price : MD := (yX9_price, cX9_price, 6, (some .int), { frames := 11, cells := 0, slots := 0, locals := 243 }, none)
theorem mo_X9_price : MOV m_X9_price 1 := ⟨⟨rfl, by decide +kernel, rfl, rfl, tbl_t 1204 (by decide +kernel) rfl, tbl_t 9 (by decide +kernel) rfl, ⟨by decide +kernel, by decide +kernel⟩, by decide +kernel⟩, tbl_t 1202 (by decide +kernel) rfl, tbl_t 1203 (by decide +kernel) rfl⟩
def m_X9_kindFor : MD := (yX9_kindFor, cX9_kindFor, 7, (some .int), { frames := 11, cells := 0, slots := 0, locals := 243 }, none)
theorem mo_X9_kindFor : MOV m_X9_kindFor 2 := ⟨⟨rfl, by decide +kernel, rfl, rfl, tbl_t 1208 (by decide +kernel) rfl, tbl_t 9 (by decide +kernel) rfl, ⟨by decide +kernel, by decide +kernel⟩, by decide +kernel⟩, tbl_t 1206 (by decide +kernel) rfl, tbl_t 1207 (by decide +kernel) rfl⟩
def m_X9_heatFor : MD := (yX9_heatFor, cX9_heatFor, 7, (some .int), { frames := 9, cells := 0, slots := 0, locals := 199 }, none)
theorem mo_X9_heatFor : MOV m_X9_heatFor 2 := ⟨⟨rfl, by decide +kernel, rfl, rfl, tbl_t 1212 (by decide +kernel) rfl, tbl_t 9 (by decide +kernel) rfl, ⟨by decide +kernel, by decide +kernel⟩, by decide +kernel⟩, tbl_t 1210 (by decide +kernel) rfl, tbl_t 1211 (by decide +kernel) rfl⟩
def m_X9_bringsIn : MD := (yX9_bringsIn, cX9_bringsIn, 4, (some .int), { frames := 11, cells := 0, slots := 0, locals := 243 }, none)
theorem mo_X9_bringsIn : MOV m_X9_bringsIn 2 := ⟨⟨rfl, by decide +kernel, rfl, rfl, tbl_t 1220 (by decide +kernel) rfl, tbl_t 9 (by decide +kernel) rfl, ⟨by decide +kernel, by decide +kernel⟩, by decide +kernel⟩, tbl_t 1219 (by decide +kernel) rfl, tbl_in (List.mem_append_left _ (List.mem_of_getElem? (i := 59) (by decide +kernel))) rfl⟩
def m_X9_brings : MD := (yX9_brings, cX9_brings, 3, (some .int), { frames := 12, cells := 0, slots := 0, locals := 266 }, none)
theorem mo_X9_brings : MOV m_X9_brings 2 := ⟨⟨rfl, by decide +kernel, rfl, rfl, tbl_t 1216 (by decide +kernel) rfl, tbl_t 9 (by decide +kernel) rfl, ⟨by decide +kernel, by decide +kernel⟩, by decide +kernel⟩, tbl_t 1214 (by decide +kernel) rfl, tbl_t 1215 (by decide +kernel) rfl⟩
def m_X9_best : MD := (yX9_best, cX9_best, 6, (some .int), { frames := 12, cells := 0, slots := 0, locals := 266 }, none)
theorem mo_X9_best : MOV m_X9_best 1 := ⟨⟨rfl, by decide +kernel, rfl, rfl, tbl_t 1224 (by decide +kernel) rfl, tbl_t 9 (by decide +kernel) rfl, ⟨by decide +kernel, by decide +kernel⟩, by decide +kernel⟩, tbl_t 1222 (by decide +kernel) rfl, tbl_t 1223 (by decide +kernel) rfl⟩
def m_X9_left : MD := (yX9_left, cX9_left, 4, (some .int), { frames := 10, cells := 0, slots := 0, locals := 221 }, none)
theorem mo_X9_left : MOV m_X9_left 1 := ⟨⟨rfl, by decide +kernel, rfl, rfl, tbl_t 1228 (by decide +kernel) rfl, tbl_t 9 (by decide +kernel) rfl, ⟨by decide +kernel, by decide +kernel⟩, by decide +kernel⟩, tbl_t 1226 (by decide +kernel) rfl, tbl_t 1227 (by decide +kernel) rfl⟩
def m_X9_boys : MD := (yX9_boys, cX9_boys, 5, (some .int), { frames := 2, cells := 0, slots := 0, locals := 43 }, none)
theorem mo_X9_boys : MOV m_X9_boys 1 := ⟨⟨rfl, by decide +kernel, rfl, rfl, tbl_t 1232 (by decide +kernel) rfl, tbl_t 9 (by decide +kernel) rfl, ⟨by decide +kernel, by decide +kernel⟩, by decide +kernel⟩, tbl_t 1230 (by decide +kernel) rfl, tbl_t 1231 (by decide +kernel) rfl⟩
def m_X9_seed : MD := (yX9_seed, cX9_seed, 3, (some .int), { frames := 0, cells := 0, slots := 0, locals := 0 }, none)
theorem mo_X9_seed : MOV m_X9_seed 1 := ⟨⟨rfl, by decide +kernel, rfl, rfl, tbl_t 1242 (by decide +kernel) rfl, tbl_t 9 (by decide +kernel) rfl, ⟨by decide +kernel, by decide +kernel⟩, by decide +kernel⟩, tbl_t 1240 (by decide +kernel) rfl, tbl_t 1241 (by decide +kernel) rfl⟩
def m_X9_feed : MD := (yX9_feed, cX9_feed, 4, (some .int), { frames := 1, cells := 0, slots := 0, locals := 25 }, none)
theorem mo_X9_feed : MOV m_X9_feed 2 := ⟨⟨rfl, by decide +kernel, rfl, rfl, tbl_t 1246 (by decide +kernel) rfl, tbl_t 9 (by decide +kernel) rfl, ⟨by decide +kernel, by decide +kernel⟩, by decide +kernel⟩, tbl_t 1244 (by decide +kernel) rfl, tbl_t 1245 (by decide +kernel) rfl⟩
def m_X9_wipe : MD := (yX9_wipe, cX9_wipe, 2, (some .int), { frames := 0, cells := 0, slots := 0, locals := 0 }, none)
theorem mo_X9_wipe : MOV m_X9_wipe 0 := ⟨⟨rfl, by decide +kernel, rfl, rfl, tbl_t 1250 (by decide +kernel) rfl, tbl_t 9 (by decide +kernel) rfl, ⟨by decide +kernel, by decide +kernel⟩, by decide +kernel⟩, tbl_t 1248 (by decide +kernel) rfl, tbl_t 1249 (by decide +kernel) rfl⟩
def m_X9_byteAt : MD := (yX9_byteAt, cX9_byteAt, 2, (some .int), { frames := 0, cells := 0, slots := 0, locals := 0 }, none)
theorem mo_X9_byteAt : MOV m_X9_byteAt 1 := ⟨⟨rfl, by decide +kernel, rfl, rfl, tbl_t 1262 (by decide +kernel) rfl, tbl_t 9 (by decide +kernel) rfl, ⟨by decide +kernel, by decide +kernel⟩, by decide +kernel⟩, tbl_t 1261 (by decide +kernel) rfl, tbl_in (List.mem_append_left _ (List.mem_of_getElem? (i := 62) (by decide +kernel))) rfl⟩
def m_X9_isLetter : MD := (yX9_isLetter, cX9_isLetter, 1, (some .boolean), { frames := 1, cells := 0, slots := 0, locals := 25 }, none)
theorem mo_X9_isLetter : MOS m_X9_isLetter 1 := ⟨⟨rfl, by decide +kernel, rfl, rfl, tbl_t 1265 (by decide +kernel) rfl, tbl_t 9 (by decide +kernel) rfl, ⟨by decide +kernel, by decide +kernel⟩, by decide +kernel⟩, tbl_t 1264 (by decide +kernel) rfl⟩
def m_X9_isDigit : MD := (yX9_isDigit, cX9_isDigit, 1, (some .boolean), { frames := 1, cells := 0, slots := 0, locals := 25 }, none)
theorem mo_X9_isDigit : MOS m_X9_isDigit 1 := ⟨⟨rfl, by decide +kernel, rfl, rfl, tbl_t 1270 (by decide +kernel) rfl, tbl_t 9 (by decide +kernel) rfl, ⟨by decide +kernel, by decide +kernel⟩, by decide +kernel⟩, tbl_t 1269 (by decide +kernel) rfl⟩
def m_X9_token : MD := (yX9_token, cX9_token, 3, none, { frames := 2, cells := 0, slots := 0, locals := 45 }, none)
theorem mo_X9_token : MOV m_X9_token 0 := ⟨⟨rfl, by decide +kernel, rfl, rfl, tbl_t 1258 (by decide +kernel) rfl, tbl_t 9 (by decide +kernel) rfl, ⟨by decide +kernel, by decide +kernel⟩, by decide +kernel⟩, tbl_t 1257 (by decide +kernel) rfl, tbl_in (List.mem_append_left _ (List.mem_of_getElem? (i := 61) (by decide +kernel))) rfl⟩
def m_X9_needs : MD := (yX9_needs, cX9_needs, 2, none, { frames := 3, cells := 0, slots := 0, locals := 67 }, none)
theorem mo_X9_needs : MOV m_X9_needs 1 := ⟨⟨rfl, by decide +kernel, rfl, rfl, tbl_t 1301 (by decide +kernel) rfl, tbl_t 9 (by decide +kernel) rfl, ⟨by decide +kernel, by decide +kernel⟩, by decide +kernel⟩, tbl_t 1300 (by decide +kernel) rfl, tbl_in (List.mem_append_left _ (List.mem_of_getElem? (i := 67) (by decide +kernel))) rfl⟩
def m_X9_word : MD := (yX9_word, cX9_word, 4, (some .long), { frames := 2, cells := 0, slots := 0, locals := 45 }, none)
theorem mo_X9_word : MOV m_X9_word 0 := ⟨⟨rfl, by decide +kernel, rfl, rfl, tbl_t 1284 (by decide +kernel) rfl, tbl_t 9 (by decide +kernel) rfl, ⟨by decide +kernel, by decide +kernel⟩, by decide +kernel⟩, tbl_t 1283 (by decide +kernel) rfl, tbl_in (List.mem_append_left _ (List.mem_of_getElem? (i := 65) (by decide +kernel))) rfl⟩
def m_X9_number : MD := (yX9_number, cX9_number, 6, none, { frames := 4, cells := 0, slots := 0, locals := 88 }, none)
theorem mo_X9_number : MOV m_X9_number 2 := ⟨⟨rfl, by decide +kernel, rfl, rfl, tbl_t 1310 (by decide +kernel) rfl, tbl_t 9 (by decide +kernel) rfl, ⟨by decide +kernel, by decide +kernel⟩, by decide +kernel⟩, tbl_t 1309 (by decide +kernel) rfl, tbl_in (List.mem_append_left _ (List.mem_of_getElem? (i := 69) (by decide +kernel))) rfl⟩
def m_X9_kindHere : MD := (yX9_kindHere, cX9_kindHere, 3, (some .int), { frames := 3, cells := 0, slots := 0, locals := 68 }, none)
theorem mo_X9_kindHere : MOV m_X9_kindHere 0 := ⟨⟨rfl, by decide +kernel, rfl, rfl, tbl_t 1280 (by decide +kernel) rfl, tbl_t 9 (by decide +kernel) rfl, ⟨by decide +kernel, by decide +kernel⟩, by decide +kernel⟩, tbl_t 1279 (by decide +kernel) rfl, tbl_in (List.mem_append_left _ (List.mem_of_getElem? (i := 64) (by decide +kernel))) rfl⟩
def m_X9_placeHere : MD := (yX9_placeHere, cX9_placeHere, 3, (some .int), { frames := 3, cells := 0, slots := 0, locals := 68 }, none)
theorem mo_X9_placeHere : MOV m_X9_placeHere 0 := ⟨⟨rfl, by decide +kernel, rfl, rfl, tbl_t 1314 (by decide +kernel) rfl, tbl_t 9 (by decide +kernel) rfl, ⟨by decide +kernel, by decide +kernel⟩, by decide +kernel⟩, tbl_t 1313 (by decide +kernel) rfl, tbl_in (List.mem_append_left _ (List.mem_of_getElem? (i := 70) (by decide +kernel))) rfl⟩
def m_X9_perhaps : MD := (yX9_perhaps, cX9_perhaps, 4, (some .int), { frames := 5, cells := 0, slots := 0, locals := 113 }, none)
theorem mo_X9_perhaps : MOV m_X9_perhaps 3 := ⟨⟨rfl, by decide +kernel, rfl, rfl, tbl_t 1306 (by decide +kernel) rfl, tbl_t 9 (by decide +kernel) rfl, ⟨by decide +kernel, by decide +kernel⟩, by decide +kernel⟩, tbl_t 1305 (by decide +kernel) rfl, tbl_in (List.mem_append_left _ (List.mem_of_getElem? (i := 68) (by decide +kernel))) rfl⟩
def m_X9_batchItem : MD := (yX9_batchItem, cX9_batchItem, 5, none, { frames := 6, cells := 0, slots := 0, locals := 136 }, none)
theorem mo_X9_batchItem : MOV m_X9_batchItem 1 := ⟨⟨rfl, by decide +kernel, rfl, rfl, tbl_t 1297 (by decide +kernel) rfl, tbl_t 9 (by decide +kernel) rfl, ⟨by decide +kernel, by decide +kernel⟩, by decide +kernel⟩, tbl_t 1296 (by decide +kernel) rfl, tbl_in (List.mem_append_left _ (List.mem_of_getElem? (i := 66) (by decide +kernel))) rfl⟩
def m_X9_crowdItem : MD := (yX9_crowdItem, cX9_crowdItem, 4, none, { frames := 5, cells := 0, slots := 0, locals := 113 }, none)
theorem mo_X9_crowdItem : MOV m_X9_crowdItem 0 := ⟨⟨rfl, by decide +kernel, rfl, rfl, tbl_t 1322 (by decide +kernel) rfl, tbl_t 9 (by decide +kernel) rfl, ⟨by decide +kernel, by decide +kernel⟩, by decide +kernel⟩, tbl_t 1321 (by decide +kernel) rfl, tbl_in (List.mem_append_left _ (List.mem_of_getElem? (i := 71) (by decide +kernel))) rfl⟩
def m_X9_ruleItem : MD := (yX9_ruleItem, cX9_ruleItem, 4, none, { frames := 6, cells := 0, slots := 0, locals := 136 }, none)
theorem mo_X9_ruleItem : MOV m_X9_ruleItem 2 := ⟨⟨rfl, by decide +kernel, rfl, rfl, tbl_t 1329 (by decide +kernel) rfl, tbl_t 9 (by decide +kernel) rfl, ⟨by decide +kernel, by decide +kernel⟩, by decide +kernel⟩, tbl_t 1328 (by decide +kernel) rfl, tbl_in (List.mem_append_left _ (List.mem_of_getElem? (i := 72) (by decide +kernel))) rfl⟩
def m_X9_item : MD := (yX9_item, cX9_item, 2, none, { frames := 7, cells := 0, slots := 0, locals := 160 }, none)
theorem mo_X9_item : MOV m_X9_item 0 := ⟨⟨rfl, by decide +kernel, rfl, rfl, tbl_t 1276 (by decide +kernel) rfl, tbl_t 9 (by decide +kernel) rfl, ⟨by decide +kernel, by decide +kernel⟩, by decide +kernel⟩, tbl_t 1275 (by decide +kernel) rfl, tbl_in (List.mem_append_left _ (List.mem_of_getElem? (i := 63) (by decide +kernel))) rfl⟩
def m_X9_text : MD := (yX9_text, cX9_text, 2, (some .int), { frames := 8, cells := 0, slots := 0, locals := 181 }, none)
theorem mo_X9_text : MOV m_X9_text 0 := ⟨⟨rfl, by decide +kernel, rfl, rfl, tbl_t 1254 (by decide +kernel) rfl, tbl_t 9 (by decide +kernel) rfl, ⟨by decide +kernel, by decide +kernel⟩, by decide +kernel⟩, tbl_t 1252 (by decide +kernel) rfl, tbl_t 1253 (by decide +kernel) rfl⟩
def m_X9_hold : MD := (yX9_hold, cX9_hold, 3, (some .int), { frames := 2, cells := 0, slots := 0, locals := 46 }, none)
theorem mo_X9_hold : MOV m_X9_hold 2 := ⟨⟨rfl, by decide +kernel, rfl, rfl, tbl_t 1335 (by decide +kernel) rfl, tbl_t 9 (by decide +kernel) rfl, ⟨by decide +kernel, by decide +kernel⟩, by decide +kernel⟩, tbl_t 1333 (by decide +kernel) rfl, tbl_t 1334 (by decide +kernel) rfl⟩
def m_X9_as : MD := (yX9_as, cX9_as, 6, (some .int), { frames := 2, cells := 0, slots := 0, locals := 43 }, none)
theorem mo_X9_as : MOV m_X9_as 2 := ⟨⟨rfl, by decide +kernel, rfl, rfl, tbl_t 1339 (by decide +kernel) rfl, tbl_t 9 (by decide +kernel) rfl, ⟨by decide +kernel, by decide +kernel⟩, by decide +kernel⟩, tbl_t 1337 (by decide +kernel) rfl, tbl_t 1338 (by decide +kernel) rfl⟩
def m_X9_isOne : MD := (yX9_isOne, cX9_isOne, 1, (some .boolean), { frames := 1, cells := 0, slots := 0, locals := 25 }, none)
theorem mo_X9_isOne : MOS m_X9_isOne 1 := ⟨⟨rfl, by decide +kernel, rfl, rfl, tbl_t 1348 (by decide +kernel) rfl, tbl_t 9 (by decide +kernel) rfl, ⟨by decide +kernel, by decide +kernel⟩, by decide +kernel⟩, tbl_t 1347 (by decide +kernel) rfl⟩
def m_X9_sheet : MD := (yX9_sheet, cX9_sheet, 5, (some .int), { frames := 2, cells := 0, slots := 0, locals := 45 }, none)
theorem mo_X9_sheet : MOV m_X9_sheet 3 := ⟨⟨rfl, by decide +kernel, rfl, rfl, tbl_t 1345 (by decide +kernel) rfl, tbl_t 9 (by decide +kernel) rfl, ⟨by decide +kernel, by decide +kernel⟩, by decide +kernel⟩, tbl_t 1343 (by decide +kernel) rfl, tbl_t 1344 (by decide +kernel) rfl⟩
def m_X9_narrowed : MD := (yX9_narrowed, cX9_narrowed, 2, (some .int), { frames := 0, cells := 0, slots := 0, locals := 0 }, none)
theorem mo_X9_narrowed : MOS m_X9_narrowed 2 := ⟨⟨rfl, by decide +kernel, rfl, rfl, tbl_t 1360 (by decide +kernel) rfl, tbl_t 9 (by decide +kernel) rfl, ⟨by decide +kernel, by decide +kernel⟩, by decide +kernel⟩, tbl_t 1359 (by decide +kernel) rfl⟩
def m_X9_wrong : MD := (yX9_wrong, cX9_wrong, 2, (some .int), { frames := 2, cells := 0, slots := 0, locals := 45 }, none)
theorem mo_X9_wrong : MOV m_X9_wrong 1 := ⟨⟨rfl, by decide +kernel, rfl, rfl, tbl_t 1357 (by decide +kernel) rfl, tbl_t 9 (by decide +kernel) rfl, ⟨by decide +kernel, by decide +kernel⟩, by decide +kernel⟩, tbl_t 1356 (by decide +kernel) rfl, tbl_in (List.mem_append_left _ (List.mem_of_getElem? (i := 73) (by decide +kernel))) rfl⟩
def m_X9_write : MD := (yX9_write, cX9_write, 5, (some .int), { frames := 3, cells := 0, slots := 0, locals := 66 }, none)
theorem mo_X9_write : MOV m_X9_write 3 := ⟨⟨rfl, by decide +kernel, rfl, rfl, tbl_t 1353 (by decide +kernel) rfl, tbl_t 9 (by decide +kernel) rfl, ⟨by decide +kernel, by decide +kernel⟩, by decide +kernel⟩, tbl_t 1351 (by decide +kernel) rfl, tbl_t 1352 (by decide +kernel) rfl⟩
def m_X9_copy : MD := (yX9_copy, cX9_copy, 7, (some .int), { frames := 2, cells := 0, slots := 0, locals := 45 }, none)
theorem mo_X9_copy : MOV m_X9_copy 5 := ⟨⟨rfl, by decide +kernel, rfl, rfl, tbl_t 1364 (by decide +kernel) rfl, tbl_t 9 (by decide +kernel) rfl, ⟨by decide +kernel, by decide +kernel⟩, by decide +kernel⟩, tbl_t 1362 (by decide +kernel) rfl, tbl_t 1363 (by decide +kernel) rfl⟩
def m_X9_load : MD := (yX9_load, cX9_load, 4, (some .int), { frames := 3, cells := 0, slots := 0, locals := 66 }, none)
theorem mo_X9_load : MOV m_X9_load 1 := ⟨⟨rfl, by decide +kernel, rfl, rfl, tbl_t 1368 (by decide +kernel) rfl, tbl_t 9 (by decide +kernel) rfl, ⟨by decide +kernel, by decide +kernel⟩, by decide +kernel⟩, tbl_t 1366 (by decide +kernel) rfl, tbl_t 1367 (by decide +kernel) rfl⟩
def m_X9_judge : MD := (yX9_judge, cX9_judge, 6, (some .int), { frames := 9, cells := 0, slots := 0, locals := 199 }, none)
theorem mo_X9_judge : MOV m_X9_judge 1 := ⟨⟨rfl, by decide +kernel, rfl, rfl, tbl_t 1372 (by decide +kernel) rfl, tbl_t 9 (by decide +kernel) rfl, ⟨by decide +kernel, by decide +kernel⟩, by decide +kernel⟩, tbl_t 1370 (by decide +kernel) rfl, tbl_t 1371 (by decide +kernel) rfl⟩
def m_X9_image : MD := (yX9_image, cX9_image, 2, (some .int), { frames := 0, cells := 0, slots := 0, locals := 0 }, none)
theorem mo_X9_image : MOV m_X9_image 0 := ⟨⟨rfl, by decide +kernel, rfl, rfl, tbl_t 1376 (by decide +kernel) rfl, tbl_t 9 (by decide +kernel) rfl, ⟨by decide +kernel, by decide +kernel⟩, by decide +kernel⟩, tbl_t 1374 (by decide +kernel) rfl, tbl_t 1375 (by decide +kernel) rfl⟩
def m_X9_undo : MD := (yX9_undo, cX9_undo, 2, (some .int), { frames := 1, cells := 0, slots := 0, locals := 21 }, none)
theorem mo_X9_undo : MOV m_X9_undo 0 := ⟨⟨rfl, by decide +kernel, rfl, rfl, tbl_t 1380 (by decide +kernel) rfl, tbl_t 9 (by decide +kernel) rfl, ⟨by decide +kernel, by decide +kernel⟩, by decide +kernel⟩, tbl_t 1378 (by decide +kernel) rfl, tbl_t 1379 (by decide +kernel) rfl⟩
def m_X9_tear : MD := (yX9_tear, cX9_tear, 2, (some .int), { frames := 0, cells := 0, slots := 0, locals := 0 }, none)
theorem mo_X9_tear : MOV m_X9_tear 0 := ⟨⟨rfl, by decide +kernel, rfl, rfl, tbl_t 1384 (by decide +kernel) rfl, tbl_t 9 (by decide +kernel) rfl, ⟨by decide +kernel, by decide +kernel⟩, by decide +kernel⟩, tbl_t 1382 (by decide +kernel) rfl, tbl_t 1383 (by decide +kernel) rfl⟩
def m_X9_held : MD := (yX9_held, cX9_held, 3, (some .int), { frames := 0, cells := 0, slots := 0, locals := 0 }, none)
theorem mo_X9_held : MOV m_X9_held 0 := ⟨⟨rfl, by decide +kernel, rfl, rfl, tbl_t 1400 (by decide +kernel) rfl, tbl_t 9 (by decide +kernel) rfl, ⟨by decide +kernel, by decide +kernel⟩, by decide +kernel⟩, tbl_t 1399 (by decide +kernel) rfl, tbl_in (List.mem_append_left _ (List.mem_of_getElem? (i := 76) (by decide +kernel))) rfl⟩
def m_X9_bagsOfAll : MD := (yX9_bagsOfAll, cX9_bagsOfAll, 3, (some .int), { frames := 2, cells := 0, slots := 0, locals := 43 }, none)
theorem mo_X9_bagsOfAll : MOV m_X9_bagsOfAll 0 := ⟨⟨rfl, by decide +kernel, rfl, rfl, tbl_t 1392 (by decide +kernel) rfl, tbl_t 9 (by decide +kernel) rfl, ⟨by decide +kernel, by decide +kernel⟩, by decide +kernel⟩, tbl_t 1391 (by decide +kernel) rfl, tbl_in (List.mem_append_left _ (List.mem_of_getElem? (i := 74) (by decide +kernel))) rfl⟩
def m_X9_peopleOfAll : MD := (yX9_peopleOfAll, cX9_peopleOfAll, 3, (some .int), { frames := 2, cells := 0, slots := 0, locals := 43 }, none)
theorem mo_X9_peopleOfAll : MOV m_X9_peopleOfAll 0 := ⟨⟨rfl, by decide +kernel, rfl, rfl, tbl_t 1396 (by decide +kernel) rfl, tbl_t 9 (by decide +kernel) rfl, ⟨by decide +kernel, by decide +kernel⟩, by decide +kernel⟩, tbl_t 1395 (by decide +kernel) rfl, tbl_in (List.mem_append_left _ (List.mem_of_getElem? (i := 75) (by decide +kernel))) rfl⟩
def m_X9_count : MD := (yX9_count, cX9_count, 2, (some .int), { frames := 3, cells := 0, slots := 0, locals := 65 }, none)
theorem mo_X9_count : MOV m_X9_count 1 := ⟨⟨rfl, by decide +kernel, rfl, rfl, tbl_t 1388 (by decide +kernel) rfl, tbl_t 9 (by decide +kernel) rfl, ⟨by decide +kernel, by decide +kernel⟩, by decide +kernel⟩, tbl_t 1386 (by decide +kernel) rfl, tbl_t 1387 (by decide +kernel) rfl⟩
def m_X9_status : MD := (yX9_status, cX9_status, 4, (some .int), { frames := 1, cells := 0, slots := 0, locals := 25 }, none)
theorem mo_X9_status : MOV m_X9_status 1 := ⟨⟨rfl, by decide +kernel, rfl, rfl, tbl_t 1404 (by decide +kernel) rfl, tbl_t 9 (by decide +kernel) rfl, ⟨by decide +kernel, by decide +kernel⟩, by decide +kernel⟩, tbl_t 1402 (by decide +kernel) rfl, tbl_t 1403 (by decide +kernel) rfl⟩
def m_J6_bitCount_0f7a4 : MD := (yJ6_bitCount_0f7a4, cJ6_bitCount_0f7a4, 1, (some .int), { frames := 0, cells := 0, slots := 0, locals := 0 }, none)
theorem mo_J6_bitCount_0f7a4 : MOS m_J6_bitCount_0f7a4 1 := ⟨⟨rfl, by decide +kernel, rfl, rfl, tbl_t 323 (by decide +kernel) rfl, tbl_t 12 (by decide +kernel) rfl, ⟨by decide +kernel, by decide +kernel⟩, by decide +kernel⟩, tbl_t 322 (by decide +kernel) rfl⟩
def m_J9_abs_0f7a4 : MD := (yJ9_abs_0f7a4, cJ9_abs_0f7a4, 1, (some .int), { frames := 0, cells := 0, slots := 0, locals := 0 }, none)
def m_J9_max_7cf53 : MD := (yJ9_max_7cf53, cJ9_max_7cf53, 2, (some .int), { frames := 0, cells := 0, slots := 0, locals := 0 }, none)
def m_J9_min_7cf53 : MD := (yJ9_min_7cf53, cJ9_min_7cf53, 2, (some .int), { frames := 0, cells := 0, slots := 0, locals := 0 }, none)
def m_J0_length_8abf5 : MD := (yJ0_length_8abf5, cJ0_length_8abf5, 1, (some .int), { frames := 1, cells := 0, slots := 0, locals := 20 }, none)
theorem mo_J0_length_8abf5 : MOV m_J0_length_8abf5 0 := ⟨⟨rfl, by decide +kernel, rfl, rfl, tbl_t 679 (by decide +kernel) rfl, tbl_t 14 (by decide +kernel) rfl, ⟨by decide +kernel, by decide +kernel⟩, by decide +kernel⟩, tbl_t 677 (by decide +kernel) rfl, tbl_t 678 (by decide +kernel) rfl⟩
def m_J0_charAt_5068e : MD := (yJ0_charAt_5068e, cJ0_charAt_5068e, 2, (some .char), { frames := 4, cells := 0, slots := 0, locals := 85 }, none)
theorem mo_J0_charAt_5068e : MOV m_J0_charAt_5068e 1 := ⟨⟨rfl, by decide +kernel, rfl, rfl, tbl_t 689 (by decide +kernel) rfl, tbl_t 14 (by decide +kernel) rfl, ⟨by decide +kernel, by decide +kernel⟩, by decide +kernel⟩, tbl_t 687 (by decide +kernel) rfl, tbl_t 688 (by decide +kernel) rfl⟩
def m_J0_coder_7d493 : MD := (yJ0_coder_7d493, cJ0_coder_7d493, 1, (some .byte), { frames := 0, cells := 0, slots := 0, locals := 0 }, none)
theorem mo_J0_coder_7d493 : MOV m_J0_coder_7d493 0 := ⟨⟨rfl, by decide +kernel, rfl, rfl, tbl_t 683 (by decide +kernel) rfl, tbl_t 14 (by decide +kernel) rfl, ⟨by decide +kernel, by decide +kernel⟩, by decide +kernel⟩, tbl_t 681 (by decide +kernel) rfl, tbl_t 682 (by decide +kernel) rfl⟩
def m_J0_isLatin1_aae02 : MD := (yJ0_isLatin1_aae02, cJ0_isLatin1_aae02, 1, (some .boolean), { frames := 0, cells := 0, slots := 0, locals := 0 }, none)
theorem mo_J0_isLatin1_aae02 : MOV m_J0_isLatin1_aae02 0 := ⟨⟨rfl, by decide +kernel, rfl, rfl, tbl_t 693 (by decide +kernel) rfl, tbl_t 14 (by decide +kernel) rfl, ⟨by decide +kernel, by decide +kernel⟩, by decide +kernel⟩, tbl_t 691 (by decide +kernel) rfl, tbl_t 692 (by decide +kernel) rfl⟩
def m_J0_checkIndex_df160 : MD := (yJ0_checkIndex_df160, cJ0_checkIndex_df160, 2, none, { frames := 1, cells := 0, slots := 0, locals := 22 }, none)
theorem mo_J0_checkIndex_df160 : MOS m_J0_checkIndex_df160 2 := ⟨⟨rfl, by decide +kernel, rfl, rfl, tbl_t 699 (by decide +kernel) rfl, tbl_t 14 (by decide +kernel) rfl, ⟨by decide +kernel, by decide +kernel⟩, by decide +kernel⟩, tbl_t 698 (by decide +kernel) rfl⟩
def m_J1_charAt_3b067 : MD := (yJ1_charAt_3b067, cJ1_charAt_3b067, 2, (some .char), { frames := 2, cells := 0, slots := 0, locals := 43 }, none)
theorem mo_J1_charAt_3b067 : MOS m_J1_charAt_3b067 2 := ⟨⟨rfl, by decide +kernel, rfl, rfl, tbl_t 696 (by decide +kernel) rfl, tbl_t 15 (by decide +kernel) rfl, ⟨by decide +kernel, by decide +kernel⟩, by decide +kernel⟩, tbl_t 695 (by decide +kernel) rfl⟩
def m_J2_getChar_3b067 : MD := (yJ2_getChar_3b067, cJ2_getChar_3b067, 2, (some .char), { frames := 1, cells := 0, slots := 0, locals := 20 }, none)
theorem mo_J2_getChar_3b067 : MOS m_J2_getChar_3b067 2 := ⟨⟨rfl, by decide +kernel, rfl, rfl, tbl_t 717 (by decide +kernel) rfl, tbl_t 17 (by decide +kernel) rfl, ⟨by decide +kernel, by decide +kernel⟩, by decide +kernel⟩, tbl_t 716 (by decide +kernel) rfl⟩
def m_J2_length_9d52b : MD := (yJ2_length_9d52b, cJ2_length_9d52b, 1, (some .int), { frames := 0, cells := 0, slots := 0, locals := 0 }, none)
theorem mo_J2_length_9d52b : MOS m_J2_length_9d52b 1 := ⟨⟨rfl, by decide +kernel, rfl, rfl, tbl_t 713 (by decide +kernel) rfl, tbl_t 17 (by decide +kernel) rfl, ⟨by decide +kernel, by decide +kernel⟩, by decide +kernel⟩, tbl_t 712 (by decide +kernel) rfl⟩
def m_J2_charAt_3b067 : MD := (yJ2_charAt_3b067, cJ2_charAt_3b067, 2, (some .char), { frames := 3, cells := 0, slots := 0, locals := 64 }, none)
theorem mo_J2_charAt_3b067 : MOS m_J2_charAt_3b067 2 := ⟨⟨rfl, by decide +kernel, rfl, rfl, tbl_t 707 (by decide +kernel) rfl, tbl_t 17 (by decide +kernel) rfl, ⟨by decide +kernel, by decide +kernel⟩, by decide +kernel⟩, tbl_t 706 (by decide +kernel) rfl⟩
def m_J2_checkIndex_2214a : MD := (yJ2_checkIndex_2214a, cJ2_checkIndex_2214a, 2, none, { frames := 2, cells := 0, slots := 0, locals := 43 }, none)
theorem mo_J2_checkIndex_2214a : MOS m_J2_checkIndex_2214a 2 := ⟨⟨rfl, by decide +kernel, rfl, rfl, tbl_t 710 (by decide +kernel) rfl, tbl_t 17 (by decide +kernel) rfl, ⟨by decide +kernel, by decide +kernel⟩, by decide +kernel⟩, tbl_t 709 (by decide +kernel) rfl⟩
def m_J3_checkIndex_8e157 : MD := (yJ3_checkIndex_8e157, cJ3_checkIndex_8e157, 3, (some .int), { frames := 0, cells := 0, slots := 0, locals := 0 }, none)
theorem mo_J3_checkIndex_8e157 : MOS m_J3_checkIndex_8e157 3 := ⟨⟨rfl, by decide +kernel, rfl, rfl, tbl_t 704 (by decide +kernel) rfl, tbl_t 16 (by decide +kernel) rfl, ⟨by decide +kernel, by decide +kernel⟩, by decide +kernel⟩, tbl_t 703 (by decide +kernel) rfl⟩
theorem ml_X8_63 : Cond.methodLink RX8 63 yX8_within ∈ TBL := tbl_t 265 (by decide +kernel) rfl
theorem ml_X8_67 : Cond.methodLink RX8 67 yX8_finding ∈ TBL := tbl_t 268 (by decide +kernel) rfl
theorem ml_X8_75 : Cond.methodLink RX8 75 yX4_isFull ∈ TBL := tbl_t 273 (by decide +kernel) rfl
theorem ml_X8_81 : Cond.methodLink RX8 81 yX4_add ∈ TBL := tbl_t 277 (by decide +kernel) rfl
theorem ml_X8_84 : Cond.methodLink RX8 84 yX8_isBatch ∈ TBL := tbl_t 285 (by decide +kernel) rfl
theorem ml_X8_103 : Cond.methodLink RX8 103 yX3_readyFrom ∈ TBL := tbl_t 289 (by decide +kernel) rfl
theorem ml_X8_108 : Cond.methodLink RX8 108 yX3_burntFrom ∈ TBL := tbl_t 292 (by decide +kernel) rfl
theorem ml_X8_115 : Cond.methodLink RX8 115 yX3_worthOf ∈ TBL := tbl_t 295 (by decide +kernel) rfl
theorem ml_X8_119 : Cond.methodLink RX8 119 yX8_exchange ∈ TBL := tbl_t 305 (by decide +kernel) rfl
theorem ml_X8_123 : Cond.methodLink RX8 123 yX4_hasRoom ∈ TBL := tbl_t 313 (by decide +kernel) rfl
theorem ml_X8_129 : Cond.methodLink RX8 129 yX4_lay ∈ TBL := tbl_t 327 (by decide +kernel) rfl
theorem ml_X8_132 : Cond.methodLink RX8 132 yX3_heatsOf ∈ TBL := tbl_t 335 (by decide +kernel) rfl
theorem ml_X8_135 : Cond.methodLink RX8 135 yX4_isGone ∈ TBL := tbl_t 342 (by decide +kernel) rfl
theorem ml_X8_138 : Cond.methodLink RX8 138 yX4_isBurnt ∈ TBL := tbl_t 346 (by decide +kernel) rfl
theorem ml_X8_141 : Cond.methodLink RX8 141 yX4_isReady ∈ TBL := tbl_t 351 (by decide +kernel) rfl
theorem ml_X8_144 : Cond.methodLink RX8 144 yX2_addShovels ∈ TBL := tbl_t 360 (by decide +kernel) rfl
theorem ml_X8_148 : Cond.methodLink RX8 148 yX2_shovelsDue ∈ TBL := tbl_t 364 (by decide +kernel) rfl
theorem ml_X8_152 : Cond.methodLink RX8 152 yX8_mostOfRule ∈ TBL := tbl_t 372 (by decide +kernel) rfl
theorem ml_X8_155 : Cond.methodLink RX8 155 yX2_ruled ∈ TBL := tbl_t 375 (by decide +kernel) rfl
theorem ml_X8_158 : Cond.methodLink RX8 158 yX2_setRule ∈ TBL := tbl_t 379 (by decide +kernel) rfl
theorem ml_X8_162 : Cond.methodLink RX8 162 yX8_isCorner ∈ TBL := tbl_t 387 (by decide +kernel) rfl
theorem ml_X8_168 : Cond.methodLink RX8 168 yX2_setOut ∈ TBL := tbl_t 390 (by decide +kernel) rfl
theorem ml_X8_175 : Cond.methodLink RX8 175 yX1_isFull ∈ TBL := tbl_t 401 (by decide +kernel) rfl
theorem ml_X8_178 : Cond.methodLink RX8 178 yX1_add ∈ TBL := tbl_t 405 (by decide +kernel) rfl
theorem ml_X8_181 : Cond.methodLink RX8 181 yX8_isCrowd ∈ TBL := tbl_t 413 (by decide +kernel) rfl
theorem ml_X8_193 : Cond.methodLink RX8 193 yX2_coming ∈ TBL := tbl_t 417 (by decide +kernel) rfl
theorem ml_X8_196 : Cond.methodLink RX8 196 yX8_isPlan ∈ TBL := tbl_t 429 (by decide +kernel) rfl
theorem ml_X8_199 : Cond.methodLink RX8 199 yX8_isTooLate ∈ TBL := tbl_t 432 (by decide +kernel) rfl
theorem ml_X8_205 : Cond.methodLink RX8 205 yX2_pass ∈ TBL := tbl_t 436 (by decide +kernel) rfl
theorem ml_X8_221 : Cond.methodLink RX8 221 yX4_setAt ∈ TBL := tbl_t 488 (by decide +kernel) rfl
theorem ml_X8_227 : Cond.methodLink RX8 227 yX2_become ∈ TBL := tbl_t 493 (by decide +kernel) rfl
theorem ml_X8_231 : Cond.methodLink RX8 231 yX4_setDoneOverFire ∈ TBL := tbl_t 510 (by decide +kernel) rfl
theorem ml_X8_234 : Cond.methodLink RX8 234 yX4_bagsNotGone ∈ TBL := tbl_t 520 (by decide +kernel) rfl
theorem ml_X8_237 : Cond.methodLink RX8 237 yX8_minutesToReady ∈ TBL := tbl_t 529 (by decide +kernel) rfl
theorem ml_X8_240 : Cond.methodLink RX8 240 yX8_isReadyJustAt ∈ TBL := tbl_t 541 (by decide +kernel) rfl
theorem ml_X8_244 : Cond.methodLink RX8 244 yX4_isOverFire ∈ TBL := tbl_t 549 (by decide +kernel) rfl
theorem ml_X8_247 : Cond.methodLink RX8 247 yX0_clear ∈ TBL := tbl_t 550 (by decide +kernel) rfl
theorem ml_X8_250 : Cond.methodLink RX8 250 yJ9_min_7cf53 ∈ TBL := tbl_t 554 (by decide +kernel) rfl
theorem ml_X8_255 : Cond.methodLink RX8 255 yX8_coinTakenOff ∈ TBL := tbl_t 555 (by decide +kernel) rfl
theorem ml_X8_258 : Cond.methodLink RX8 258 yX0_offer ∈ TBL := tbl_t 559 (by decide +kernel) rfl
theorem ml_X8_264 : Cond.methodLink RX8 264 yX8_coinFromCorner ∈ TBL := tbl_t 575 (by decide +kernel) rfl
theorem ml_X8_267 : Cond.methodLink RX8 267 yX8_coinWithout ∈ TBL := tbl_t 595 (by decide +kernel) rfl
theorem ml_X8_271 : Cond.methodLink RX8 271 yX2_draw ∈ TBL := tbl_t 611 (by decide +kernel) rfl
theorem ml_X8_277 : Cond.methodLink RX8 277 yX6_hasRoom ∈ TBL := tbl_t 624 (by decide +kernel) rfl
theorem ml_X8_278 : Cond.methodLink RX8 278 yX6_append ∈ TBL := tbl_t 628 (by decide +kernel) rfl
theorem ml_X8_284 : Cond.methodLink RX8 284 yX7_readText ∈ TBL := tbl_t 640 (by decide +kernel) rfl
theorem ml_X8_287 : Cond.methodLink RX8 287 yX8_isSpot ∈ TBL := tbl_t 778 (by decide +kernel) rfl
theorem ml_X8_293 : Cond.methodLink RX8 293 yX3_isUnder ∈ TBL := tbl_t 785 (by decide +kernel) rfl
theorem ml_X8_296 : Cond.methodLink RX8 296 yX5_isSheet ∈ TBL := tbl_t 795 (by decide +kernel) rfl
theorem ml_X8_299 : Cond.methodLink RX8 299 yX5_lay ∈ TBL := tbl_t 799 (by decide +kernel) rfl
theorem ml_X8_305 : Cond.methodLink RX8 305 yX5_isMissing ∈ TBL := tbl_t 807 (by decide +kernel) rfl
theorem ml_X8_308 : Cond.methodLink RX8 308 yX5_setNumber ∈ TBL := tbl_t 811 (by decide +kernel) rfl
theorem ml_X8_314 : Cond.methodLink RX8 314 yX5_hasNumbers ∈ TBL := tbl_t 819 (by decide +kernel) rfl
theorem ml_X8_317 : Cond.methodLink RX8 317 yX5_move ∈ TBL := tbl_t 823 (by decide +kernel) rfl
theorem ml_X8_321 : Cond.methodLink RX8 321 yX5_numberAt ∈ TBL := tbl_t 832 (by decide +kernel) rfl
theorem ml_X8_324 : Cond.methodLink RX8 324 yX4_bagsOfAll ∈ TBL := tbl_t 856 (by decide +kernel) rfl
theorem ml_X8_327 : Cond.methodLink RX8 327 yX1_manyOfAll ∈ TBL := tbl_t 860 (by decide +kernel) rfl
theorem ml_X8_333 : Cond.methodLink RX8 333 yX2_spotsHolding ∈ TBL := tbl_t 864 (by decide +kernel) rfl
theorem ml_X2_66 : Cond.methodLink RX2 66 yX4_become ∈ TBL := tbl_t 497 (by decide +kernel) rfl
theorem ml_X2_70 : Cond.methodLink RX2 70 yX1_become ∈ TBL := tbl_t 504 (by decide +kernel) rfl
theorem ml_X2_79 : Cond.methodLink RX2 79 yJ9_abs_0f7a4 ∈ TBL := tbl_t 394 (by decide +kernel) rfl
theorem ml_X2_89 : Cond.methodLink RX2 89 yX2_warm ∈ TBL := tbl_t 440 (by decide +kernel) rfl
theorem ml_X2_92 : Cond.methodLink RX2 92 yX4_roastAll ∈ TBL := tbl_t 448 (by decide +kernel) rfl
theorem ml_X2_95 : Cond.methodLink RX2 95 yX4_ageHeap ∈ TBL := tbl_t 462 (by decide +kernel) rfl
theorem ml_X2_98 : Cond.methodLink RX2 98 yX2_serve ∈ TBL := tbl_t 466 (by decide +kernel) rfl
theorem ml_X2_101 : Cond.methodLink RX2 101 yJ9_min_7cf53 ∈ TBL := tbl_t 444 (by decide +kernel) rfl
theorem ml_X2_105 : Cond.methodLink RX2 105 yJ9_max_7cf53 ∈ TBL := tbl_t 447 (by decide +kernel) rfl
theorem ml_X2_115 : Cond.methodLink RX2 115 yX2_coming ∈ TBL := tbl_t 470 (by decide +kernel) rfl
theorem ml_X2_118 : Cond.methodLink RX2 118 yX2_sell ∈ TBL := tbl_t 471 (by decide +kernel) rfl
theorem ml_X2_122 : Cond.methodLink RX2 122 yX4_youngest ∈ TBL := tbl_t 475 (by decide +kernel) rfl
theorem ml_X2_131 : Cond.methodLink RX2 131 yX3_worthOf ∈ TBL := tbl_t 479 (by decide +kernel) rfl
theorem ml_X3_11 : Cond.methodLink RX3 11 yX3_above ∈ TBL := tbl_t 788 (by decide +kernel) rfl
theorem ml_X3_15 : Cond.methodLink RX3 15 yJ9_max_7cf53 ∈ TBL := tbl_t 298 (by decide +kernel) rfl
theorem ml_X4_37 : Cond.methodLink RX4 37 yX3_readyFrom ∈ TBL := tbl_t 355 (by decide +kernel) rfl
theorem ml_X4_43 : Cond.methodLink RX4 43 yX3_burntFrom ∈ TBL := tbl_t 350 (by decide +kernel) rfl
theorem ml_X4_46 : Cond.methodLink RX4 46 yX4_setAt ∈ TBL := tbl_t 317 (by decide +kernel) rfl
theorem ml_X4_49 : Cond.methodLink RX4 49 yJ6_bitCount_0f7a4 ∈ TBL := tbl_t 321 (by decide +kernel) rfl
theorem ml_X4_54 : Cond.methodLink RX4 54 yX3_heatsOf ∈ TBL := tbl_t 452 (by decide +kernel) rfl
theorem ml_X4_58 : Cond.methodLink RX4 58 yX4_roastBy ∈ TBL := tbl_t 453 (by decide +kernel) rfl
theorem ml_X4_62 : Cond.methodLink RX4 62 yX3_bursts ∈ TBL := tbl_t 458 (by decide +kernel) rfl
theorem ml_X4_66 : Cond.methodLink RX4 66 yX4_lay ∈ TBL := tbl_t 461 (by decide +kernel) rfl
theorem ml_X4_69 : Cond.methodLink RX4 69 yJ9_min_7cf53 ∈ TBL := tbl_t 457 (by decide +kernel) rfl
theorem ml_X4_74 : Cond.methodLink RX4 74 yX4_isOverFire ∈ TBL := tbl_t 514 (by decide +kernel) rfl
theorem ml_X4_78 : Cond.methodLink RX4 78 yX4_isReady ∈ TBL := tbl_t 518 (by decide +kernel) rfl
theorem ml_X4_81 : Cond.methodLink RX4 81 yX4_isBurnt ∈ TBL := tbl_t 519 (by decide +kernel) rfl
theorem ml_X4_84 : Cond.methodLink RX4 84 yX4_isGone ∈ TBL := tbl_t 524 (by decide +kernel) rfl
theorem ml_X6_29 : Cond.methodLink RX6 29 yX6_step ∈ TBL := tbl_t 648 (by decide +kernel) rfl
theorem ml_X6_32 : Cond.methodLink RX6 32 yX6_isLetter ∈ TBL := tbl_t 652 (by decide +kernel) rfl
theorem ml_X6_36 : Cond.methodLink RX6 36 yX6_readWord ∈ TBL := tbl_t 655 (by decide +kernel) rfl
theorem ml_X6_39 : Cond.methodLink RX6 39 yX6_isDigit ∈ TBL := tbl_t 659 (by decide +kernel) rfl
theorem ml_X6_42 : Cond.methodLink RX6 42 yX6_readNumber ∈ TBL := tbl_t 662 (by decide +kernel) rfl
theorem ml_X6_45 : Cond.methodLink RX6 45 yJ9_min_7cf53 ∈ TBL := tbl_t 666 (by decide +kernel) rfl
theorem ml_X6_51 : Cond.methodLink RX6 51 yJ0_length_8abf5 ∈ TBL := tbl_t 676 (by decide +kernel) rfl
theorem ml_X6_56 : Cond.methodLink RX6 56 yJ0_charAt_5068e ∈ TBL := tbl_t 686 (by decide +kernel) rfl
theorem ml_X7_19 : Cond.methodLink RX7 19 yX6_rewind ∈ TBL := tbl_t 644 (by decide +kernel) rfl
theorem ml_X7_24 : Cond.methodLink RX7 24 yX7_readItem ∈ TBL := tbl_t 667 (by decide +kernel) rfl
theorem ml_X7_32 : Cond.methodLink RX7 32 yX6_step ∈ TBL := tbl_t 733 (by decide +kernel) rfl
theorem ml_X7_40 : Cond.methodLink RX7 40 yX6_isWord ∈ TBL := tbl_t 672 (by decide +kernel) rfl
theorem ml_X7_44 : Cond.methodLink RX7 44 yX7_readCrowd ∈ TBL := tbl_t 724 (by decide +kernel) rfl
theorem ml_X7_49 : Cond.methodLink RX7 49 yX7_readRule ∈ TBL := tbl_t 738 (by decide +kernel) rfl
theorem ml_X7_57 : Cond.methodLink RX7 57 yX7_readBatch ∈ TBL := tbl_t 746 (by decide +kernel) rfl
theorem ml_X7_60 : Cond.methodLink RX7 60 yX7_kindTold ∈ TBL := tbl_t 750 (by decide +kernel) rfl
theorem ml_X7_70 : Cond.methodLink RX7 70 yX4_isFull ∈ TBL := tbl_t 761 (by decide +kernel) rfl
theorem ml_X7_75 : Cond.methodLink RX7 75 yX4_add ∈ TBL := tbl_t 762 (by decide +kernel) rfl
theorem ml_X7_81 : Cond.methodLink RX7 81 yX7_readNumberBehind ∈ TBL := tbl_t 729 (by decide +kernel) rfl
theorem ml_X7_87 : Cond.methodLink RX7 87 yX7_placeTold ∈ TBL := tbl_t 764 (by decide +kernel) rfl
theorem ml_X7_90 : Cond.methodLink RX7 90 yX4_hasRoom ∈ TBL := tbl_t 771 (by decide +kernel) rfl
theorem ml_X7_93 : Cond.methodLink RX7 93 yX4_lay ∈ TBL := tbl_t 772 (by decide +kernel) rfl
theorem ml_X7_101 : Cond.methodLink RX7 101 yX1_isFull ∈ TBL := tbl_t 728 (by decide +kernel) rfl
theorem ml_X7_108 : Cond.methodLink RX7 108 yX1_add ∈ TBL := tbl_t 736 (by decide +kernel) rfl
theorem ml_X7_114 : Cond.methodLink RX7 114 yX2_setRule ∈ TBL := tbl_t 743 (by decide +kernel) rfl
theorem ml_L_13 : Cond.methodLink RL 13 yX8_batch ∈ TBL := tbl_t 261 (by decide +kernel) rfl
theorem ml_L_17 : Cond.methodLink RL 17 yX9_batch ∈ TBL := tbl_t 924 (by decide +kernel) rfl
theorem ml_L_18 : Cond.methodLink RL 18 yX8_of ∈ TBL := tbl_t 281 (by decide +kernel) rfl
theorem ml_L_22 : Cond.methodLink RL 22 yX9_of ∈ TBL := tbl_t 945 (by decide +kernel) rfl
theorem ml_L_23 : Cond.methodLink RL 23 yX8_change ∈ TBL := tbl_t 301 (by decide +kernel) rfl
theorem ml_L_27 : Cond.methodLink RL 27 yX9_change ∈ TBL := tbl_t 970 (by decide +kernel) rfl
theorem ml_L_28 : Cond.methodLink RL 28 yX8_put ∈ TBL := tbl_t 309 (by decide +kernel) rfl
theorem ml_L_31 : Cond.methodLink RL 31 yX9_put ∈ TBL := tbl_t 979 (by decide +kernel) rfl
theorem ml_L_32 : Cond.methodLink RL 32 yX8_heats ∈ TBL := tbl_t 331 (by decide +kernel) rfl
theorem ml_L_35 : Cond.methodLink RL 35 yX9_heats ∈ TBL := tbl_t 1004 (by decide +kernel) rfl
theorem ml_L_36 : Cond.methodLink RL 36 yX8_how ∈ TBL := tbl_t 338 (by decide +kernel) rfl
theorem ml_L_39 : Cond.methodLink RL 39 yX9_how ∈ TBL := tbl_t 1013 (by decide +kernel) rfl
theorem ml_L_40 : Cond.methodLink RL 40 yX8_shovel ∈ TBL := tbl_t 356 (by decide +kernel) rfl
theorem ml_L_43 : Cond.methodLink RL 43 yX9_shovel ∈ TBL := tbl_t 1029 (by decide +kernel) rfl
theorem ml_L_44 : Cond.methodLink RL 44 yX8_rule ∈ TBL := tbl_t 368 (by decide +kernel) rfl
theorem ml_L_47 : Cond.methodLink RL 47 yX9_rule ∈ TBL := tbl_t 1037 (by decide +kernel) rfl
theorem ml_L_48 : Cond.methodLink RL 48 yX8_walk ∈ TBL := tbl_t 383 (by decide +kernel) rfl
theorem ml_L_51 : Cond.methodLink RL 51 yX9_walk ∈ TBL := tbl_t 1043 (by decide +kernel) rfl
theorem ml_L_52 : Cond.methodLink RL 52 yX8_crowd ∈ TBL := tbl_t 397 (by decide +kernel) rfl
theorem ml_L_55 : Cond.methodLink RL 55 yX9_crowd ∈ TBL := tbl_t 1055 (by decide +kernel) rfl
theorem ml_L_56 : Cond.methodLink RL 56 yX8_crowdOf ∈ TBL := tbl_t 409 (by decide +kernel) rfl
theorem ml_L_59 : Cond.methodLink RL 59 yX9_crowdOf ∈ TBL := tbl_t 1070 (by decide +kernel) rfl
theorem ml_L_60 : Cond.methodLink RL 60 yX8_late ∈ TBL := tbl_t 421 (by decide +kernel) rfl
theorem ml_L_63 : Cond.methodLink RL 63 yX9_late ∈ TBL := tbl_t 1086 (by decide +kernel) rfl
theorem ml_L_64 : Cond.methodLink RL 64 yX8_minutes ∈ TBL := tbl_t 425 (by decide +kernel) rfl
theorem ml_L_67 : Cond.methodLink RL 67 yX9_minutes ∈ TBL := tbl_t 1090 (by decide +kernel) rfl
theorem ml_L_68 : Cond.methodLink RL 68 yX8_now ∈ TBL := tbl_t 480 (by decide +kernel) rfl
theorem ml_L_71 : Cond.methodLink RL 71 yX9_now ∈ TBL := tbl_t 1123 (by decide +kernel) rfl
theorem ml_L_72 : Cond.methodLink RL 72 yX8_at ∈ TBL := tbl_t 484 (by decide +kernel) rfl
theorem ml_L_75 : Cond.methodLink RL 75 yX9_at ∈ TBL := tbl_t 1127 (by decide +kernel) rfl
theorem ml_L_76 : Cond.methodLink RL 76 yX8_ahead ∈ TBL := tbl_t 489 (by decide +kernel) rfl
theorem ml_L_79 : Cond.methodLink RL 79 yX9_ahead ∈ TBL := tbl_t 1131 (by decide +kernel) rfl
theorem ml_L_80 : Cond.methodLink RL 80 yX8_ready ∈ TBL := tbl_t 525 (by decide +kernel) rfl
theorem ml_L_83 : Cond.methodLink RL 83 yX9_ready ∈ TBL := tbl_t 1152 (by decide +kernel) rfl
theorem ml_L_84 : Cond.methodLink RL 84 yX8_burnt ∈ TBL := tbl_t 533 (by decide +kernel) rfl
theorem ml_L_87 : Cond.methodLink RL 87 yX9_burnt ∈ TBL := tbl_t 1165 (by decide +kernel) rfl
theorem ml_L_88 : Cond.methodLink RL 88 yX8_putOn ∈ TBL := tbl_t 537 (by decide +kernel) rfl
theorem ml_L_91 : Cond.methodLink RL 91 yX9_putOn ∈ TBL := tbl_t 1169 (by decide +kernel) rfl
theorem ml_L_92 : Cond.methodLink RL 92 yX8_takeOff ∈ TBL := tbl_t 545 (by decide +kernel) rfl
theorem ml_L_95 : Cond.methodLink RL 95 yX9_takeOff ∈ TBL := tbl_t 1173 (by decide +kernel) rfl
theorem ml_L_96 : Cond.methodLink RL 96 yX8_shovels ∈ TBL := tbl_t 563 (by decide +kernel) rfl
theorem ml_L_99 : Cond.methodLink RL 99 yX9_shovels ∈ TBL := tbl_t 1188 (by decide +kernel) rfl
theorem ml_L_100 : Cond.methodLink RL 100 yX8_corner ∈ TBL := tbl_t 567 (by decide +kernel) rfl
theorem ml_L_103 : Cond.methodLink RL 103 yX9_corner ∈ TBL := tbl_t 1192 (by decide +kernel) rfl
theorem ml_L_104 : Cond.methodLink RL 104 yX8_two ∈ TBL := tbl_t 571 (by decide +kernel) rfl
theorem ml_L_107 : Cond.methodLink RL 107 yX9_two ∈ TBL := tbl_t 1196 (by decide +kernel) rfl
theorem ml_L_108 : Cond.methodLink RL 108 yX8_price ∈ TBL := tbl_t 579 (by decide +kernel) rfl
theorem ml_L_111 : Cond.methodLink RL 111 yX9_price ∈ TBL := tbl_t 1201 (by decide +kernel) rfl
theorem ml_L_112 : Cond.methodLink RL 112 yX8_kindFor ∈ TBL := tbl_t 583 (by decide +kernel) rfl
theorem ml_L_115 : Cond.methodLink RL 115 yX9_kindFor ∈ TBL := tbl_t 1205 (by decide +kernel) rfl
theorem ml_L_116 : Cond.methodLink RL 116 yX8_heatFor ∈ TBL := tbl_t 587 (by decide +kernel) rfl
theorem ml_L_119 : Cond.methodLink RL 119 yX9_heatFor ∈ TBL := tbl_t 1209 (by decide +kernel) rfl
theorem ml_L_120 : Cond.methodLink RL 120 yX8_brings ∈ TBL := tbl_t 591 (by decide +kernel) rfl
theorem ml_L_123 : Cond.methodLink RL 123 yX9_brings ∈ TBL := tbl_t 1213 (by decide +kernel) rfl
theorem ml_L_124 : Cond.methodLink RL 124 yX8_best ∈ TBL := tbl_t 599 (by decide +kernel) rfl
theorem ml_L_127 : Cond.methodLink RL 127 yX9_best ∈ TBL := tbl_t 1221 (by decide +kernel) rfl
theorem ml_L_128 : Cond.methodLink RL 128 yX8_left ∈ TBL := tbl_t 603 (by decide +kernel) rfl
theorem ml_L_131 : Cond.methodLink RL 131 yX9_left ∈ TBL := tbl_t 1225 (by decide +kernel) rfl
theorem ml_L_132 : Cond.methodLink RL 132 yX8_boys ∈ TBL := tbl_t 607 (by decide +kernel) rfl
theorem ml_L_135 : Cond.methodLink RL 135 yX9_boys ∈ TBL := tbl_t 1229 (by decide +kernel) rfl
theorem ml_L_136 : Cond.methodLink RL 136 yX8_seed ∈ TBL := tbl_t 616 (by decide +kernel) rfl
theorem ml_L_139 : Cond.methodLink RL 139 yX9_seed ∈ TBL := tbl_t 1239 (by decide +kernel) rfl
theorem ml_L_140 : Cond.methodLink RL 140 yX8_feed ∈ TBL := tbl_t 620 (by decide +kernel) rfl
theorem ml_L_143 : Cond.methodLink RL 143 yX9_feed ∈ TBL := tbl_t 1243 (by decide +kernel) rfl
theorem ml_L_144 : Cond.methodLink RL 144 yX8_wipe ∈ TBL := tbl_t 632 (by decide +kernel) rfl
theorem ml_L_148 : Cond.methodLink RL 148 yX9_wipe ∈ TBL := tbl_t 1247 (by decide +kernel) rfl
theorem ml_L_149 : Cond.methodLink RL 149 yX8_text ∈ TBL := tbl_t 636 (by decide +kernel) rfl
theorem ml_L_152 : Cond.methodLink RL 152 yX9_text ∈ TBL := tbl_t 1251 (by decide +kernel) rfl
theorem ml_L_153 : Cond.methodLink RL 153 yX8_hold ∈ TBL := tbl_t 774 (by decide +kernel) rfl
theorem ml_L_156 : Cond.methodLink RL 156 yX9_hold ∈ TBL := tbl_t 1332 (by decide +kernel) rfl
theorem ml_L_157 : Cond.methodLink RL 157 yX8_as ∈ TBL := tbl_t 781 (by decide +kernel) rfl
theorem ml_L_160 : Cond.methodLink RL 160 yX9_as ∈ TBL := tbl_t 1336 (by decide +kernel) rfl
theorem ml_L_161 : Cond.methodLink RL 161 yX8_sheet ∈ TBL := tbl_t 791 (by decide +kernel) rfl
theorem ml_L_164 : Cond.methodLink RL 164 yX9_sheet ∈ TBL := tbl_t 1342 (by decide +kernel) rfl
theorem ml_L_165 : Cond.methodLink RL 165 yX8_write ∈ TBL := tbl_t 803 (by decide +kernel) rfl
theorem ml_L_168 : Cond.methodLink RL 168 yX9_write ∈ TBL := tbl_t 1350 (by decide +kernel) rfl
theorem ml_L_169 : Cond.methodLink RL 169 yX8_copy ∈ TBL := tbl_t 815 (by decide +kernel) rfl
theorem ml_L_173 : Cond.methodLink RL 173 yX9_copy ∈ TBL := tbl_t 1361 (by decide +kernel) rfl
theorem ml_L_174 : Cond.methodLink RL 174 yX8_load ∈ TBL := tbl_t 828 (by decide +kernel) rfl
theorem ml_L_177 : Cond.methodLink RL 177 yX9_load ∈ TBL := tbl_t 1365 (by decide +kernel) rfl
theorem ml_L_178 : Cond.methodLink RL 178 yX8_judge ∈ TBL := tbl_t 836 (by decide +kernel) rfl
theorem ml_L_181 : Cond.methodLink RL 181 yX9_judge ∈ TBL := tbl_t 1369 (by decide +kernel) rfl
theorem ml_L_182 : Cond.methodLink RL 182 yX8_image ∈ TBL := tbl_t 840 (by decide +kernel) rfl
theorem ml_L_185 : Cond.methodLink RL 185 yX9_image ∈ TBL := tbl_t 1373 (by decide +kernel) rfl
theorem ml_L_186 : Cond.methodLink RL 186 yX8_undo ∈ TBL := tbl_t 844 (by decide +kernel) rfl
theorem ml_L_189 : Cond.methodLink RL 189 yX9_undo ∈ TBL := tbl_t 1377 (by decide +kernel) rfl
theorem ml_L_190 : Cond.methodLink RL 190 yX8_tear ∈ TBL := tbl_t 848 (by decide +kernel) rfl
theorem ml_L_193 : Cond.methodLink RL 193 yX9_tear ∈ TBL := tbl_t 1381 (by decide +kernel) rfl
theorem ml_L_194 : Cond.methodLink RL 194 yX8_count ∈ TBL := tbl_t 852 (by decide +kernel) rfl
theorem ml_L_197 : Cond.methodLink RL 197 yX9_count ∈ TBL := tbl_t 1385 (by decide +kernel) rfl
theorem ml_L_198 : Cond.methodLink RL 198 yX8_status ∈ TBL := tbl_t 868 (by decide +kernel) rfl
theorem ml_L_201 : Cond.methodLink RL 201 yX9_status ∈ TBL := tbl_t 1401 (by decide +kernel) rfl
theorem ml_X9_38 : Cond.methodLink RX9 38 yX9_in ∈ TBL := tbl_t 929 (by decide +kernel) rfl
theorem ml_X9_45 : Cond.methodLink RX9 45 yX9_where ∈ TBL := tbl_t 942 (by decide +kernel) rfl
theorem ml_X9_51 : Cond.methodLink RX9 51 yX9_finds ∈ TBL := tbl_t 933 (by decide +kernel) rfl
theorem ml_X9_56 : Cond.methodLink RX9 56 yX9_newBatch ∈ TBL := tbl_t 938 (by decide +kernel) rfl
theorem ml_X9_60 : Cond.methodLink RX9 60 yX9_its ∈ TBL := tbl_t 954 (by decide +kernel) rfl
theorem ml_X9_63 : Cond.methodLink RX9 63 yX9_readyAt ∈ TBL := tbl_t 958 (by decide +kernel) rfl
theorem ml_X9_66 : Cond.methodLink RX9 66 yX9_isBatch ∈ TBL := tbl_t 949 (by decide +kernel) rfl
theorem ml_X9_72 : Cond.methodLink RX9 72 yX9_burntAt ∈ TBL := tbl_t 962 (by decide +kernel) rfl
theorem ml_X9_75 : Cond.methodLink RX9 75 yX9_worth ∈ TBL := tbl_t 966 (by decide +kernel) rfl
theorem ml_X9_82 : Cond.methodLink RX9 82 yX9_isPart ∈ TBL := tbl_t 974 (by decide +kernel) rfl
theorem ml_X9_86 : Cond.methodLink RX9 86 yX9_placed ∈ TBL := tbl_t 989 (by decide +kernel) rfl
theorem ml_X9_89 : Cond.methodLink RX9 89 yX9_ones ∈ TBL := tbl_t 993 (by decide +kernel) rfl
theorem ml_X9_92 : Cond.methodLink RX9 92 yX9_goes ∈ TBL := tbl_t 1000 (by decide +kernel) rfl
theorem ml_X9_99 : Cond.methodLink RX9 99 yX9_isRoom ∈ TBL := tbl_t 985 (by decide +kernel) rfl
theorem ml_X9_102 : Cond.methodLink RX9 102 yX9_putsAt ∈ TBL := tbl_t 996 (by decide +kernel) rfl
theorem ml_X9_108 : Cond.methodLink RX9 108 yX9_heatsOf ∈ TBL := tbl_t 1009 (by decide +kernel) rfl
theorem ml_X9_111 : Cond.methodLink RX9 111 yX9_isBurnt ∈ TBL := tbl_t 1021 (by decide +kernel) rfl
theorem ml_X9_114 : Cond.methodLink RX9 114 yX9_isReady ∈ TBL := tbl_t 1025 (by decide +kernel) rfl
theorem ml_X9_117 : Cond.methodLink RX9 117 yX9_howIs ∈ TBL := tbl_t 1017 (by decide +kernel) rfl
theorem ml_X9_120 : Cond.methodLink RX9 120 yX9_dueAll ∈ TBL := tbl_t 1033 (by decide +kernel) rfl
theorem ml_X9_128 : Cond.methodLink RX9 128 yX9_isCorner ∈ TBL := tbl_t 1047 (by decide +kernel) rfl
theorem ml_X9_131 : Cond.methodLink RX9 131 yX9_walks ∈ TBL := tbl_t 1051 (by decide +kernel) rfl
theorem ml_X9_134 : Cond.methodLink RX9 134 yX9_who ∈ TBL := tbl_t 1067 (by decide +kernel) rfl
theorem ml_X9_139 : Cond.methodLink RX9 139 yX9_isFigure ∈ TBL := tbl_t 1059 (by decide +kernel) rfl
theorem ml_X9_142 : Cond.methodLink RX9 142 yX9_newCrowd ∈ TBL := tbl_t 1063 (by decide +kernel) rfl
theorem ml_X9_145 : Cond.methodLink RX9 145 yX9_told ∈ TBL := tbl_t 1078 (by decide +kernel) rfl
theorem ml_X9_148 : Cond.methodLink RX9 148 yX9_isCrowd ∈ TBL := tbl_t 1074 (by decide +kernel) rfl
theorem ml_X9_151 : Cond.methodLink RX9 151 yX9_come ∈ TBL := tbl_t 1082 (by decide +kernel) rfl
theorem ml_X9_154 : Cond.methodLink RX9 154 yX9_bought ∈ TBL := tbl_t 1119 (by decide +kernel) rfl
theorem ml_X9_157 : Cond.methodLink RX9 157 yX9_warms ∈ TBL := tbl_t 1107 (by decide +kernel) rfl
theorem ml_X9_160 : Cond.methodLink RX9 160 yX9_roasts ∈ TBL := tbl_t 1111 (by decide +kernel) rfl
theorem ml_X9_163 : Cond.methodLink RX9 163 yX9_buys ∈ TBL := tbl_t 1115 (by decide +kernel) rfl
theorem ml_X9_166 : Cond.methodLink RX9 166 yX9_minute ∈ TBL := tbl_t 1103 (by decide +kernel) rfl
theorem ml_X9_171 : Cond.methodLink RX9 171 yX9_isTooLate ∈ TBL := tbl_t 1095 (by decide +kernel) rfl
theorem ml_X9_174 : Cond.methodLink RX9 174 yX9_minutesGo ∈ TBL := tbl_t 1099 (by decide +kernel) rfl
theorem ml_X9_179 : Cond.methodLink RX9 179 yX9_saves ∈ TBL := tbl_t 1136 (by decide +kernel) rfl
theorem ml_X9_182 : Cond.methodLink RX9 182 yX9_doneSet ∈ TBL := tbl_t 1140 (by decide +kernel) rfl
theorem ml_X9_185 : Cond.methodLink RX9 185 yX9_bagsLeft ∈ TBL := tbl_t 1144 (by decide +kernel) rfl
theorem ml_X9_188 : Cond.methodLink RX9 188 yX9_putsBack ∈ TBL := tbl_t 1148 (by decide +kernel) rfl
theorem ml_X9_191 : Cond.methodLink RX9 191 yX9_doneIn ∈ TBL := tbl_t 1160 (by decide +kernel) rfl
theorem ml_X9_196 : Cond.methodLink RX9 196 yX9_doneFrom ∈ TBL := tbl_t 1156 (by decide +kernel) rfl
theorem ml_X9_199 : Cond.methodLink RX9 199 yX9_isSpan ∈ TBL := tbl_t 1177 (by decide +kernel) rfl
theorem ml_X9_202 : Cond.methodLink RX9 202 yX9_isRoasting ∈ TBL := tbl_t 1180 (by decide +kernel) rfl
theorem ml_X9_205 : Cond.methodLink RX9 205 yX9_coinIn ∈ TBL := tbl_t 1184 (by decide +kernel) rfl
theorem ml_X9_210 : Cond.methodLink RX9 210 yX9_bringsIn ∈ TBL := tbl_t 1217 (by decide +kernel) rfl
theorem ml_X9_215 : Cond.methodLink RX9 215 yX9_draw ∈ TBL := tbl_t 1234 (by decide +kernel) rfl
theorem ml_X9_236 : Cond.methodLink RX9 236 yX9_byteAt ∈ TBL := tbl_t 1259 (by decide +kernel) rfl
theorem ml_X9_239 : Cond.methodLink RX9 239 yX9_isLetter ∈ TBL := tbl_t 1263 (by decide +kernel) rfl
theorem ml_X9_242 : Cond.methodLink RX9 242 yX9_isDigit ∈ TBL := tbl_t 1268 (by decide +kernel) rfl
theorem ml_X9_249 : Cond.methodLink RX9 249 yX9_token ∈ TBL := tbl_t 1255 (by decide +kernel) rfl
theorem ml_X9_259 : Cond.methodLink RX9 259 yX9_needs ∈ TBL := tbl_t 1298 (by decide +kernel) rfl
theorem ml_X9_263 : Cond.methodLink RX9 263 yX9_word ∈ TBL := tbl_t 1281 (by decide +kernel) rfl
theorem ml_X9_287 : Cond.methodLink RX9 287 yX9_number ∈ TBL := tbl_t 1307 (by decide +kernel) rfl
theorem ml_X9_291 : Cond.methodLink RX9 291 yX9_perhaps ∈ TBL := tbl_t 1303 (by decide +kernel) rfl
theorem ml_X9_295 : Cond.methodLink RX9 295 yX9_placeHere ∈ TBL := tbl_t 1311 (by decide +kernel) rfl
theorem ml_X9_302 : Cond.methodLink RX9 302 yX9_kindHere ∈ TBL := tbl_t 1277 (by decide +kernel) rfl
theorem ml_X9_305 : Cond.methodLink RX9 305 yX9_batchItem ∈ TBL := tbl_t 1294 (by decide +kernel) rfl
theorem ml_X9_310 : Cond.methodLink RX9 310 yX9_crowdItem ∈ TBL := tbl_t 1319 (by decide +kernel) rfl
theorem ml_X9_315 : Cond.methodLink RX9 315 yX9_ruleItem ∈ TBL := tbl_t 1326 (by decide +kernel) rfl
theorem ml_X9_322 : Cond.methodLink RX9 322 yX9_item ∈ TBL := tbl_t 1273 (by decide +kernel) rfl
theorem ml_X9_327 : Cond.methodLink RX9 327 yX9_isOne ∈ TBL := tbl_t 1346 (by decide +kernel) rfl
theorem ml_X9_331 : Cond.methodLink RX9 331 yX9_wrong ∈ TBL := tbl_t 1354 (by decide +kernel) rfl
theorem ml_X9_334 : Cond.methodLink RX9 334 yX9_narrowed ∈ TBL := tbl_t 1358 (by decide +kernel) rfl
theorem ml_X9_340 : Cond.methodLink RX9 340 yX9_bagsOfAll ∈ TBL := tbl_t 1389 (by decide +kernel) rfl
theorem ml_X9_343 : Cond.methodLink RX9 343 yX9_peopleOfAll ∈ TBL := tbl_t 1393 (by decide +kernel) rfl
theorem ml_X9_346 : Cond.methodLink RX9 346 yX9_held ∈ TBL := tbl_t 1397 (by decide +kernel) rfl
theorem ml_J0_335 : Cond.methodLink RJ0 335 yJ0_coder_7d493 ∈ TBL := tbl_t 680 (by decide +kernel) rfl
theorem ml_J0_492 : Cond.methodLink RJ0 492 yJ0_isLatin1_aae02 ∈ TBL := tbl_t 690 (by decide +kernel) rfl
theorem ml_J0_495 : Cond.methodLink RJ0 495 yJ1_charAt_3b067 ∈ TBL := tbl_t 694 (by decide +kernel) rfl
theorem ml_J0_498 : Cond.methodLink RJ0 498 yJ2_charAt_3b067 ∈ TBL := tbl_t 705 (by decide +kernel) rfl
theorem ml_J0_1059 : Cond.methodLink RJ0 1059 yJ3_checkIndex_8e157 ∈ TBL := tbl_t 702 (by decide +kernel) rfl
theorem ml_J1_9 : Cond.methodLink RJ1 9 yJ0_checkIndex_df160 ∈ TBL := tbl_t 697 (by decide +kernel) rfl
theorem ml_J2_48 : Cond.methodLink RJ2 48 yJ2_length_9d52b ∈ TBL := tbl_t 711 (by decide +kernel) rfl
theorem ml_J2_67 : Cond.methodLink RJ2 67 yJ2_checkIndex_2214a ∈ TBL := tbl_t 708 (by decide +kernel) rfl
theorem ml_J2_71 : Cond.methodLink RJ2 71 yJ2_getChar_3b067 ∈ TBL := tbl_t 715 (by decide +kernel) rfl
theorem ml_J2_414 : Cond.methodLink RJ2 414 yJ0_checkIndex_df160 ∈ TBL := tbl_t 714 (by decide +kernel) rfl
theorem cn_X8_336 : Cond.constant RX8 336 (-1000001) ∈ TBL := tbl_t 272 (by decide +kernel) rfl
theorem cn_X2_88 : Cond.constant RX2 88 (1103515245) ∈ TBL := tbl_t 615 (by decide +kernel) rfl
theorem cn_X9_37 : Cond.constant RX9 37 (-1000001) ∈ TBL := tbl_t 932 (by decide +kernel) rfl
theorem cn_X9_44 : Cond.constant RX9 44 (1103515245) ∈ TBL := tbl_t 1238 (by decide +kernel) rfl
theorem cn_X9_55 : Cond.constant RX9 55 (-1000002) ∈ TBL := tbl_t 937 (by decide +kernel) rfl
theorem cn_X9_98 : Cond.constant RX9 98 (-1000005) ∈ TBL := tbl_t 984 (by decide +kernel) rfl
theorem cn_X9_195 : Cond.constant RX9 195 (-1000004) ∈ TBL := tbl_t 1164 (by decide +kernel) rfl
theorem cn_X9_325 : Cond.constant RX9 325 (-1000006) ∈ TBL := tbl_t 1340 (by decide +kernel) rfl
theorem cn_X9_326 : Cond.constant RX9 326 (-1000003) ∈ TBL := tbl_t 1341 (by decide +kernel) rfl
theorem cn_X9_330 : Cond.constant RX9 330 (-1000007) ∈ TBL := tbl_t 1349 (by decide +kernel) rfl
theorem cn_J6_265 : Cond.constant RJ6 265 (1431655765) ∈ TBL := tbl_t 324 (by decide +kernel) rfl
theorem cn_J6_266 : Cond.constant RJ6 266 (858993459) ∈ TBL := tbl_t 325 (by decide +kernel) rfl
theorem cn_J6_267 : Cond.constant RJ6 267 (252645135) ∈ TBL := tbl_t 326 (by decide +kernel) rfl
theorem cl_X9_42 : Cond.constantLong RX9 42 (3) ∈ TBL := tbl_t 1050 (by decide +kernel) rfl
theorem cl_X9_49 : Cond.constantLong RX9 49 (6) ∈ TBL := tbl_t 928 (by decide +kernel) rfl
theorem cl_X9_70 : Cond.constantLong RX9 70 (7) ∈ TBL := tbl_t 953 (by decide +kernel) rfl
theorem cl_X9_78 : Cond.constantLong RX9 78 (9) ∈ TBL := tbl_t 977 (by decide +kernel) rfl
theorem cl_X9_80 : Cond.constantLong RX9 80 (999) ∈ TBL := tbl_t 978 (by decide +kernel) rfl
theorem cl_X9_96 : Cond.constantLong RX9 96 (4) ∈ TBL := tbl_t 983 (by decide +kernel) rfl
theorem cl_X9_106 : Cond.constantLong RX9 106 (20) ∈ TBL := tbl_t 1008 (by decide +kernel) rfl
theorem cl_X9_124 : Cond.constantLong RX9 124 (2) ∈ TBL := tbl_t 1041 (by decide +kernel) rfl
theorem cl_X9_126 : Cond.constantLong RX9 126 (99) ∈ TBL := tbl_t 1042 (by decide +kernel) rfl
theorem cl_X9_137 : Cond.constantLong RX9 137 (400) ∈ TBL := tbl_t 1062 (by decide +kernel) rfl
theorem cl_X9_169 : Cond.constantLong RX9 169 (120) ∈ TBL := tbl_t 1094 (by decide +kernel) rfl
theorem cl_X9_177 : Cond.constantLong RX9 177 (200) ∈ TBL := tbl_t 1135 (by decide +kernel) rfl
theorem cl_X9_208 : Cond.constantLong RX9 208 (60) ∈ TBL := tbl_t 1200 (by decide +kernel) rfl
theorem cl_X9_213 : Cond.constantLong RX9 213 (12) ∈ TBL := tbl_t 1233 (by decide +kernel) rfl
theorem cl_X9_222 : Cond.constantLong RX9 222 (97) ∈ TBL := tbl_t 1266 (by decide +kernel) rfl
theorem cl_X9_224 : Cond.constantLong RX9 224 (122) ∈ TBL := tbl_t 1267 (by decide +kernel) rfl
theorem cl_X9_226 : Cond.constantLong RX9 226 (48) ∈ TBL := tbl_t 1271 (by decide +kernel) rfl
theorem cl_X9_228 : Cond.constantLong RX9 228 (57) ∈ TBL := tbl_t 1272 (by decide +kernel) rfl
theorem cl_X9_252 : Cond.constantLong RX9 252 (36028797018963967) ∈ TBL := tbl_t 1285 (by decide +kernel) rfl
theorem cl_X9_254 : Cond.constantLong RX9 254 (32) ∈ TBL := tbl_t 1286 (by decide +kernel) rfl
theorem cl_X9_267 : Cond.constantLong RX9 267 (15028) ∈ TBL := tbl_t 1287 (by decide +kernel) rfl
theorem cl_X9_269 : Cond.constantLong RX9 269 (12634341) ∈ TBL := tbl_t 1288 (by decide +kernel) rfl
theorem cl_X9_271 : Cond.constantLong RX9 271 (20350348) ∈ TBL := tbl_t 1289 (by decide +kernel) rfl
theorem cl_X9_273 : Cond.constantLong RX9 273 (20681908) ∈ TBL := tbl_t 1290 (by decide +kernel) rfl
theorem cl_X9_275 : Cond.constantLong RX9 275 (18487) ∈ TBL := tbl_t 1291 (by decide +kernel) rfl
theorem cl_X9_277 : Cond.constantLong RX9 277 (788083876) ∈ TBL := tbl_t 1292 (by decide +kernel) rfl
theorem cl_X9_279 : Cond.constantLong RX9 279 (15748) ∈ TBL := tbl_t 1293 (by decide +kernel) rfl
theorem cl_X9_281 : Cond.constantLong RX9 281 (16430) ∈ TBL := tbl_t 1315 (by decide +kernel) rfl
theorem cl_X9_283 : Cond.constantLong RX9 283 (18733) ∈ TBL := tbl_t 1316 (by decide +kernel) rfl
theorem cl_X9_285 : Cond.constantLong RX9 285 (267312) ∈ TBL := tbl_t 1317 (by decide +kernel) rfl
theorem cl_X9_289 : Cond.constantLong RX9 289 (19367540) ∈ TBL := tbl_t 1302 (by decide +kernel) rfl
theorem cl_X9_298 : Cond.constantLong RX9 298 (52) ∈ TBL := tbl_t 1323 (by decide +kernel) rfl
theorem cl_X9_300 : Cond.constantLong RX9 300 (446125701) ∈ TBL := tbl_t 1324 (by decide +kernel) rfl
theorem cl_X9_308 : Cond.constantLong RX9 308 (3751652) ∈ TBL := tbl_t 1318 (by decide +kernel) rfl
theorem cl_X9_313 : Cond.constantLong RX9 313 (267316) ∈ TBL := tbl_t 1325 (by decide +kernel) rfl
theorem cl_X9_318 : Cond.constantLong RX9 318 (17376357) ∈ TBL := tbl_t 1330 (by decide +kernel) rfl
theorem cl_X9_320 : Cond.constantLong RX9 320 (114052) ∈ TBL := tbl_t 1331 (by decide +kernel) rfl
theorem cl_X9_349 : Cond.constantLong RX9 349 (-1) ∈ TBL := tbl_t 1405 (by decide +kernel) rfl
theorem mm_X8_250 : Cond.methodLink RX8 250 Lib.Math.min.name ∈ TBL := tbl_t 554 (by decide +kernel) rfl
theorem ac_X1_25 : Cond.methodLink RX1 25 arraycopyName ∈ TBL := tbl_t 508 (by decide +kernel) rfl
theorem ac_X2_73 : Cond.methodLink RX2 73 arraycopyName ∈ TBL := tbl_t 509 (by decide +kernel) rfl
theorem mm_X2_79 : Cond.methodLink RX2 79 Lib.Math.abs.name ∈ TBL := tbl_t 394 (by decide +kernel) rfl
theorem mm_X2_101 : Cond.methodLink RX2 101 Lib.Math.min.name ∈ TBL := tbl_t 444 (by decide +kernel) rfl
theorem mm_X2_105 : Cond.methodLink RX2 105 Lib.Math.max.name ∈ TBL := tbl_t 447 (by decide +kernel) rfl
theorem mm_X3_15 : Cond.methodLink RX3 15 Lib.Math.max.name ∈ TBL := tbl_t 298 (by decide +kernel) rfl
theorem ac_X4_31 : Cond.methodLink RX4 31 arraycopyName ∈ TBL := tbl_t 501 (by decide +kernel) rfl
theorem mm_X4_69 : Cond.methodLink RX4 69 Lib.Math.min.name ∈ TBL := tbl_t 457 (by decide +kernel) rfl
theorem ac_X5_19 : Cond.methodLink RX5 19 arraycopyName ∈ TBL := tbl_t 827 (by decide +kernel) rfl
theorem mm_X6_45 : Cond.methodLink RX6 45 Lib.Math.min.name ∈ TBL := tbl_t 666 (by decide +kernel) rfl
theorem mms_max : Cond.static Lib.Math.max.name ∈ TBL := tbl_t 299 (by decide +kernel) rfl
theorem mmc_max : Cond.code Lib.Math.max.name Lib.Math.max.code 2 (some .int) ∈ TBL := tbl_t 300 (by decide +kernel) rfl
theorem mms_min : Cond.static Lib.Math.min.name ∈ TBL := tbl_t 445 (by decide +kernel) rfl
theorem mmc_min : Cond.code Lib.Math.min.name Lib.Math.min.code 2 (some .int) ∈ TBL := tbl_t 446 (by decide +kernel) rfl
theorem mms_abs : Cond.static Lib.Math.abs.name ∈ TBL := tbl_t 395 (by decide +kernel) rfl
theorem mmc_abs : Cond.code Lib.Math.abs.name Lib.Math.abs.code 1 (some .int) ∈ TBL := tbl_t 396 (by decide +kernel) rfl
theorem mmi : Cond.initialized "java/lang/Math" ∈ TBL := tbl_t 11 (by decide +kernel) rfl
theorem aci : Cond.initialized "java/lang/System" ∈ TBL := tbl_t 13 (by decide +kernel) rfl
theorem acs : Cond.static arraycopyName ∈ TBL := tbl_t 502 (by decide +kernel) rfl
theorem acn : Cond.native arraycopyName ∈ TBL := tbl_t 503 (by decide +kernel) rfl
section VM
variable {md : MD} {pc pc' : Nat} {L : List (Nat × Value)} {rest : List Value} {M M' : Mem} {Q : Option Value → Mem → Prop}
def RM1 (md : MD) (n : Nat) : Prop := 1 ≤ md.2.2.2.2.1.frames ∧ n ≤ md.2.2.2.2.1.locals
theorem V.mmax {idx : Nat} {x y v : Int32} (hd : decode md.2.1 pc = .ok (.invokestatic idx, 3)) (hlink : Cond.methodLink md.1.cls idx Lib.Math.max.name ∈ TBL) (hR : RM1 md ((rest.map fun v => v.category).sum + 13)) (hv : (if x < y then y else x) = v) (hp : pc + 3 = pc') (k : V md pc' L (.int v :: rest) M Q) : V md pc L (.int y :: .int x :: rest) M Q := by
  subst hp
  subst hv
  intro p l e s m args below meth c cells slots Z ad D cI hC hE H locs ls hP hS hl
  have ht := hC.2.2.2.2.1
  exact va_mmax hC.1 hC.2.1 (hC.2.2.1.trans hl.1.symm) hC.2.2.2.1 (ht _ hlink) (ht _ mms_max) (ht _ mmi) (ht _ mmc_max) hR.1 (by rw [tr_sum]; exact hR.2) hC.2.2.2.2.2.1 hC.2.2.2.2.2.2.1 hd (k p l e s m args below meth c cells slots Z ad D cI hC hE H locs ls hP hS hl)
theorem V.mmin {idx : Nat} {x y v : Int32} (hd : decode md.2.1 pc = .ok (.invokestatic idx, 3)) (hlink : Cond.methodLink md.1.cls idx Lib.Math.min.name ∈ TBL) (hR : RM1 md ((rest.map fun v => v.category).sum + 13)) (hv : (if y < x then y else x) = v) (hp : pc + 3 = pc') (k : V md pc' L (.int v :: rest) M Q) : V md pc L (.int y :: .int x :: rest) M Q := by
  subst hp
  subst hv
  intro p l e s m args below meth c cells slots Z ad D cI hC hE H locs ls hP hS hl
  have ht := hC.2.2.2.2.1
  exact va_mmin hC.1 hC.2.1 (hC.2.2.1.trans hl.1.symm) hC.2.2.2.1 (ht _ hlink) (ht _ mms_min) (ht _ mmi) (ht _ mmc_min) hR.1 (by rw [tr_sum]; exact hR.2) hC.2.2.2.2.2.1 hC.2.2.2.2.2.2.1 hd (k p l e s m args below meth c cells slots Z ad D cI hC hE H locs ls hP hS hl)
theorem V.mabs {idx : Nat} {x v : Int32} (hd : decode md.2.1 pc = .ok (.invokestatic idx, 3)) (hlink : Cond.methodLink md.1.cls idx Lib.Math.abs.name ∈ TBL) (hR : RM1 md ((rest.map fun v => v.category).sum + 13)) (hv : (if 0 ≤ x then x else 0 - x) = v) (hp : pc + 3 = pc') (k : V md pc' L (.int v :: rest) M Q) : V md pc L (.int x :: rest) M Q := by
  subst hp
  subst hv
  intro p l e s m args below meth c cells slots Z ad D cI hC hE H locs ls hP hS hl
  have ht := hC.2.2.2.2.1
  exact va_mabs hC.1 hC.2.1 (hC.2.2.1.trans hl.1.symm) hC.2.2.2.1 (ht _ hlink) (ht _ mms_abs) (ht _ mmi) (ht _ mmc_abs) hR.1 (by rw [tr_sum]; exact hR.2) hC.2.2.2.2.2.1 hC.2.2.2.2.2.2.1 hd (k p l e s m args below meth c cells slots Z ad D cI hC hE H locs ls hP hS hl)
theorem V.copy {idx k0 k1 n0 n1 : Nat} {sp dp n : Int32} (hd : decode md.2.1 pc = .ok (.invokestatic idx, 3)) (hlink : Cond.methodLink md.1.cls idx arraycopyName ∈ TBL) (hs0 : sh k0 = .inl n0) (hn0 : 0 < n0) (hs1 : sh k1 = .inl n1) (hn1 : 0 < n1) (h1 : ¬ sp < 0) (h2 : ¬ dp < 0) (h3 : ¬ n < 0) (h4 : sp.toNatClampNeg + n.toNatClampNeg ≤ n0) (h5 : dp.toNatClampNeg + n.toNatClampNeg ≤ n1) (hR : RM1 md ((rest.map fun v => v.category).sum + (nativeFrameWords "java/lang/System" "arraycopy" 5 + 11)))
    (hM : mr M k1 (va_cpy (M k0) (M k1) sp.toNatClampNeg dp.toNatClampNeg n.toNatClampNeg) = M') (hp : pc + 3 = pc') (k : V md pc' L rest M' Q) : V md pc L (.int n :: .int dp :: .ref k1 :: .int sp :: .ref k0 :: rest) M Q := by
  subst hp
  subst hM
  intro p l e s m args below meth c cells slots Z ad D cI hC hE H locs ls hP hS hl
  have ht := hC.2.2.2.2.1
  refine va_copyi (ty := .int) hC.1 hC.2.1 (hC.2.2.1.trans hl.1.symm) hC.2.2.2.1 (ht _ hlink) (ht _ acn) (ht _ acs) (ht _ aci) hC.2.2.2.2.2.2.2.1 hP (ws_D cI M hC.2.2.2.2.2.2.2.2.1) hS k0 k1 0 0 (ws_arr ad cI M hs0 hn0) (ws_arr ad cI M hs1 hn1) rfl rfl rfl h1 h2 h3 h4 h5 (fun i _ => rfl) hR.1 (by rw [tr_sum]; exact hR.2) hd (fun H1 locs1 hP1 hD1 hS1 => ?_)
  rw [ws_setR ad cI M hs1 hn1] at hP1
  exact k p l e s m args below meth c cells slots Z ad D cI hC hE H1 locs1 ls hP1 hS1 hl
end VM

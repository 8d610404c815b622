theorem vl_RX5_151 : VLk RX5 151 71 := ⟨Or.inl (gw3 (i := 37) rfl rfl), mk_71, gw3 (i := 39) rfl rfl, List.mem_filter.mpr ⟨List.mem_append_left _ (List.mem_of_getElem? (i := 30) rfl), rfl⟩⟩
theorem vl_RL_46 : VLk RL 46 62 := ⟨Or.inl (gw3 (i := 41) rfl rfl), mk_62, gw3 (i := 42) rfl rfl, gw3 (i := 43) rfl rfl⟩
theorem vl_RL_51 : VLk RL 51 63 := ⟨Or.inl (gw3 (i := 45) rfl rfl), mk_63, gw3 (i := 46) rfl rfl, gw3 (i := 47) rfl rfl⟩
theorem vl_RL_56 : VLk RL 56 64 := ⟨Or.inl (gw3 (i := 49) rfl rfl), mk_64, gw3 (i := 50) rfl rfl, gw3 (i := 51) rfl rfl⟩
theorem vl_RL_60 : VLk RL 60 65 := ⟨Or.inl (gw3 (i := 53) rfl rfl), mk_65, gw3 (i := 54) rfl rfl, gw3 (i := 55) rfl rfl⟩
theorem vl_RX5_171 : VLk RX5 171 131 := ⟨Or.inl (gw3 (i := 57) rfl rfl), mk_131, gw3 (i := 59) rfl rfl, List.mem_filter.mpr ⟨List.mem_append_left _ (List.mem_of_getElem? (i := 31) rfl), rfl⟩⟩
theorem vl_RL_64 : VLk RL 64 66 := ⟨Or.inl (gw3 (i := 61) rfl rfl), mk_66, gw3 (i := 62) rfl rfl, gw3 (i := 63) rfl rfl⟩
theorem vl_RL_69 : VLk RL 69 72 := ⟨Or.inl (gw3 (i := 65) rfl rfl), mk_72, gw3 (i := 66) rfl rfl, gw3 (i := 67) rfl rfl⟩
theorem vl_RL_73 : VLk RL 73 73 := ⟨Or.inl (gw3 (i := 69) rfl rfl), mk_73, gw3 (i := 70) rfl rfl, gw3 (i := 71) rfl rfl⟩
theorem vl_RX5_248 : VLk RX5 248 130 := ⟨Or.inl (gw3 (i := 73) rfl rfl), mk_130, gw3 (i := 75) rfl rfl, List.mem_filter.mpr ⟨List.mem_append_left _ (List.mem_of_getElem? (i := 32) rfl), rfl⟩⟩
theorem vl_RX5_266 : VLk RX5 266 28 := ⟨Or.inl (gw3 (i := 77) rfl rfl), mk_28, gw3 (i := 78) rfl rfl, gw3 (i := 79) rfl rfl⟩
theorem sl_RX2_82 : SLk RX2 82 := Or.inr ⟨_, nw3 (i := 81) (w := Cond.fieldLinkNest RX2 82 RX5 "NUMBERS" "[I" "SlideFold") rfl rfl⟩
theorem tl_RX2_85 : TLk RX2 85 124 := ⟨Or.inr ⟨"SlideFold", nw3 (i := 82) rfl rfl⟩, mk_124, gw2 (i := 11) rfl rfl⟩
theorem vl_RL_77 : VLk RL 77 74 := ⟨Or.inl (gw3 (i := 83) rfl rfl), mk_74, gw3 (i := 84) rfl rfl, gw3 (i := 85) rfl rfl⟩
theorem vl_RL_81 : VLk RL 81 75 := ⟨Or.inl (gw3 (i := 87) rfl rfl), mk_75, gw3 (i := 88) rfl rfl, gw3 (i := 89) rfl rfl⟩
theorem vl_RL_85 : VLk RL 85 76 := ⟨Or.inl (gw3 (i := 91) rfl rfl), mk_76, gw3 (i := 92) rfl rfl, gw3 (i := 93) rfl rfl⟩
theorem vl_RL_89 : VLk RL 89 77 := ⟨Or.inl (gw3 (i := 95) rfl rfl), mk_77, gw3 (i := 96) rfl rfl, gw3 (i := 97) rfl rfl⟩
theorem vl_RL_93 : VLk RL 93 78 := ⟨Or.inl (gw3 (i := 99) rfl rfl), mk_78, gw3 (i := 100) rfl rfl, gw3 (i := 101) rfl rfl⟩
theorem vl_RL_97 : VLk RL 97 79 := ⟨Or.inl (gw3 (i := 103) rfl rfl), mk_79, gw3 (i := 104) rfl rfl, gw3 (i := 105) rfl rfl⟩
theorem vl_RX5_262 : VLk RX5 262 80 := ⟨Or.inl (gw3 (i := 107) rfl rfl), mk_80, gw3 (i := 108) rfl rfl, gw3 (i := 109) rfl rfl⟩
theorem vl_RL_101 : VLk RL 101 80 := ⟨Or.inl (gw3 (i := 111) rfl rfl), mk_80, gw3 (i := 108) rfl rfl, gw3 (i := 109) rfl rfl⟩
theorem vl_RL_105 : VLk RL 105 81 := ⟨Or.inl (gw3 (i := 112) rfl rfl), mk_81, gw3 (i := 113) rfl rfl, gw3 (i := 114) rfl rfl⟩
theorem vl_RX5_269 : VLk RX5 269 133 := ⟨Or.inl (gw3 (i := 116) rfl rfl), mk_133, gw3 (i := 118) rfl rfl, List.mem_filter.mpr ⟨List.mem_append_left _ (List.mem_of_getElem? (i := 33) rfl), rfl⟩⟩
theorem vl_RL_109 : VLk RL 109 82 := ⟨Or.inl (gw3 (i := 120) rfl rfl), mk_82, gw3 (i := 121) rfl rfl, gw3 (i := 122) rfl rfl⟩
theorem vl_RL_113 : VLk RL 113 83 := ⟨Or.inl (gw3 (i := 124) rfl rfl), mk_83, gw3 (i := 125) rfl rfl, gw3 (i := 126) rfl rfl⟩
theorem vl_RL_117 : VLk RL 117 84 := ⟨Or.inl (gw3 (i := 128) rfl rfl), mk_84, gw3 (i := 129) rfl rfl, gw3 (i := 130) rfl rfl⟩
theorem vl_RX5_275 : VLk RX5 275 12 := ⟨Or.inl (gw3 (i := 132) rfl rfl), mk_12, gw3 (i := 133) rfl rfl, gw3 (i := 134) rfl rfl⟩
theorem ac_RX1_48 : Cond.methodLink RX1 48 arraycopyName ∈ gT ∧ Cond.native arraycopyName ∈ gT ∧ Cond.static arraycopyName ∈ gT ∧ Cond.initialized "java/lang/System" ∈ gT := ⟨gw3 (i := 136) rfl rfl, gw2 (i := 224) rfl rfl, gw2 (i := 223) rfl rfl, gw1 (i := 11) rfl rfl⟩
theorem vl_RX5_278 : VLk RX5 278 13 := ⟨Or.inl (gw3 (i := 137) rfl rfl), mk_13, gw3 (i := 138) rfl rfl, gw3 (i := 139) rfl rfl⟩
theorem vl_RL_153 : VLk RL 153 85 := ⟨Or.inl (gw3 (i := 141) rfl rfl), mk_85, gw3 (i := 142) rfl rfl, gw3 (i := 143) rfl rfl⟩
theorem vl_RX5_281 : VLk RX5 281 73 := ⟨Or.inl (gw3 (i := 145) rfl rfl), mk_73, gw3 (i := 70) rfl rfl, gw3 (i := 71) rfl rfl⟩
theorem vl_RL_121 : VLk RL 121 86 := ⟨Or.inl (gw3 (i := 146) rfl rfl), mk_86, gw3 (i := 147) rfl rfl, gw3 (i := 148) rfl rfl⟩
theorem vl_RL_125 : VLk RL 125 87 := ⟨Or.inl (gw3 (i := 150) rfl rfl), mk_87, gw3 (i := 151) rfl rfl, gw3 (i := 152) rfl rfl⟩
theorem vl_RL_129 : VLk RL 129 88 := ⟨Or.inl (gw3 (i := 154) rfl rfl), mk_88, gw3 (i := 155) rfl rfl, gw3 (i := 156) rfl rfl⟩
theorem vl_RL_133 : VLk RL 133 89 := ⟨Or.inl (gw3 (i := 158) rfl rfl), mk_89, gw3 (i := 159) rfl rfl, gw3 (i := 160) rfl rfl⟩
theorem vl_RL_137 : VLk RL 137 90 := ⟨Or.inl (gw3 (i := 162) rfl rfl), mk_90, gw3 (i := 163) rfl rfl, gw3 (i := 164) rfl rfl⟩
theorem vl_RL_141 : VLk RL 141 91 := ⟨Or.inl (gw3 (i := 166) rfl rfl), mk_91, gw3 (i := 167) rfl rfl, gw3 (i := 168) rfl rfl⟩
theorem tl_RX5_285 : TLk RX5 285 128 := ⟨Or.inl (gw3 (i := 170) rfl rfl), mk_128, gw3 (i := 171) rfl rfl⟩
theorem vl_RL_145 : VLk RL 145 92 := ⟨Or.inl (gw3 (i := 173) rfl rfl), mk_92, gw3 (i := 174) rfl rfl, gw3 (i := 175) rfl rfl⟩
theorem vl_RL_149 : VLk RL 149 93 := ⟨Or.inl (gw3 (i := 177) rfl rfl), mk_93, gw3 (i := 178) rfl rfl, gw3 (i := 179) rfl rfl⟩
theorem vl_RL_157 : VLk RL 157 94 := ⟨Or.inl (gw3 (i := 181) rfl rfl), mk_94, gw3 (i := 182) rfl rfl, gw3 (i := 183) rfl rfl⟩
theorem vl_RX5_288 : VLk RX5 288 7 := ⟨Or.inl (gw3 (i := 185) rfl rfl), mk_7, gw3 (i := 186) rfl rfl, gw3 (i := 187) rfl rfl⟩
theorem vl_RL_161 : VLk RL 161 95 := ⟨Or.inl (gw3 (i := 189) rfl rfl), mk_95, gw3 (i := 190) rfl rfl, gw3 (i := 191) rfl rfl⟩
theorem vl_RL_206 : VLk RL 206 96 := ⟨Or.inl (gw3 (i := 193) rfl rfl), mk_96, gw3 (i := 194) rfl rfl, gw3 (i := 195) rfl rfl⟩
theorem vl_RX5_300 : VLk RX5 300 2 := ⟨Or.inl (gw3 (i := 197) rfl rfl), mk_2, gw3 (i := 198) rfl rfl, gw3 (i := 199) rfl rfl⟩
theorem vl_RL_165 : VLk RL 165 97 := ⟨Or.inl (gw3 (i := 201) rfl rfl), mk_97, gw3 (i := 202) rfl rfl, gw3 (i := 203) rfl rfl⟩
theorem vl_RX5_308 : VLk RX5 308 37 := ⟨Or.inl (gw3 (i := 205) rfl rfl), mk_37, gw3 (i := 206) rfl rfl, gw3 (i := 207) rfl rfl⟩
theorem vl_RL_169 : VLk RL 169 98 := ⟨Or.inl (gw3 (i := 209) rfl rfl), mk_98, gw3 (i := 210) rfl rfl, gw3 (i := 211) rfl rfl⟩
theorem vl_RX5_309 : VLk RX5 309 43 := ⟨Or.inl (gw3 (i := 213) rfl rfl), mk_43, gw3 (i := 214) rfl rfl, gw3 (i := 215) rfl rfl⟩
theorem vl_RL_173 : VLk RL 173 99 := ⟨Or.inl (gw3 (i := 217) rfl rfl), mk_99, gw3 (i := 218) rfl rfl, gw3 (i := 219) rfl rfl⟩
theorem vl_RX5_312 : VLk RX5 312 101 := ⟨Or.inl (gw3 (i := 221) rfl rfl), mk_101, gw3 (i := 223) rfl rfl, List.mem_filter.mpr ⟨List.mem_append_left _ (List.mem_of_getElem? (i := 34) rfl), rfl⟩⟩
theorem vl_RL_177 : VLk RL 177 100 := ⟨Or.inl (gw3 (i := 225) rfl rfl), mk_100, gw3 (i := 226) rfl rfl, gw3 (i := 227) rfl rfl⟩
theorem vl_RL_181 : VLk RL 181 104 := ⟨Or.inl (gw3 (i := 229) rfl rfl), mk_104, gw3 (i := 230) rfl rfl, gw3 (i := 231) rfl rfl⟩
theorem vl_RX5_335 : VLk RX5 335 107 := ⟨Or.inl (gw3 (i := 233) rfl rfl), mk_107, gw3 (i := 235) rfl rfl, List.mem_filter.mpr ⟨List.mem_append_left _ (List.mem_of_getElem? (i := 35) rfl), rfl⟩⟩
theorem vl_RX5_338 : VLk RX5 338 39 := ⟨Or.inl (gw3 (i := 237) rfl rfl), mk_39, gw3 (i := 238) rfl rfl, gw3 (i := 239) rfl rfl⟩
theorem vl_RL_186 : VLk RL 186 105 := ⟨Or.inl (gw4 (i := 1) rfl rfl), mk_105, gw4 (i := 2) rfl rfl, gw4 (i := 3) rfl rfl⟩
theorem vl_RL_190 : VLk RL 190 106 := ⟨Or.inl (gw4 (i := 5) rfl rfl), mk_106, gw4 (i := 6) rfl rfl, gw4 (i := 7) rfl rfl⟩
theorem vl_RX5_343 : VLk RX5 343 41 := ⟨Or.inl (gw4 (i := 9) rfl rfl), mk_41, gw4 (i := 10) rfl rfl, gw4 (i := 11) rfl rfl⟩
theorem vl_RL_194 : VLk RL 194 109 := ⟨Or.inl (gw4 (i := 13) rfl rfl), mk_109, gw4 (i := 14) rfl rfl, gw4 (i := 15) rfl rfl⟩
theorem vl_RL_198 : VLk RL 198 110 := ⟨Or.inl (gw4 (i := 17) rfl rfl), mk_110, gw4 (i := 18) rfl rfl, gw4 (i := 19) rfl rfl⟩
theorem vl_RL_202 : VLk RL 202 111 := ⟨Or.inl (gw4 (i := 21) rfl rfl), mk_111, gw4 (i := 22) rfl rfl, gw4 (i := 23) rfl rfl⟩
theorem vl_RL_210 : VLk RL 210 112 := ⟨Or.inl (gw4 (i := 25) rfl rfl), mk_112, gw4 (i := 26) rfl rfl, gw4 (i := 27) rfl rfl⟩
theorem vl_RX5_345 : VLk RX5 345 113 := ⟨Or.inl (gw4 (i := 29) rfl rfl), mk_113, gw4 (i := 31) rfl rfl, List.mem_filter.mpr ⟨List.mem_append_left _ (List.mem_of_getElem? (i := 36) rfl), rfl⟩⟩
theorem vl_RL_214 : VLk RL 214 114 := ⟨Or.inl (gw4 (i := 33) rfl rfl), mk_114, gw4 (i := 34) rfl rfl, gw4 (i := 35) rfl rfl⟩
theorem vl_RX5_349 : VLk RX5 349 27 := ⟨Or.inl (gw4 (i := 37) rfl rfl), mk_27, gw4 (i := 38) rfl rfl, gw4 (i := 39) rfl rfl⟩
theorem vl_RX2_78 : VLk RX2 78 2 := ⟨Or.inl (gw4 (i := 41) rfl rfl), mk_2, gw3 (i := 198) rfl rfl, gw3 (i := 199) rfl rfl⟩
theorem vl_RL_218 : VLk RL 218 115 := ⟨Or.inl (gw4 (i := 42) rfl rfl), mk_115, gw4 (i := 43) rfl rfl, gw4 (i := 44) rfl rfl⟩
theorem vl_RL_222 : VLk RL 222 116 := ⟨Or.inl (gw4 (i := 46) rfl rfl), mk_116, gw4 (i := 47) rfl rfl, gw4 (i := 48) rfl rfl⟩
theorem vl_RX5_351 : VLk RX5 351 118 := ⟨Or.inl (gw4 (i := 50) rfl rfl), mk_118, gw4 (i := 52) rfl rfl, List.mem_filter.mpr ⟨List.mem_append_left _ (List.mem_of_getElem? (i := 37) rfl), rfl⟩⟩
theorem vl_RX5_354 : VLk RX5 354 119 := ⟨Or.inl (gw4 (i := 54) rfl rfl), mk_119, gw4 (i := 56) rfl rfl, List.mem_filter.mpr ⟨List.mem_append_left _ (List.mem_of_getElem? (i := 38) rfl), rfl⟩⟩
theorem vl_RX5_357 : VLk RX5 357 120 := ⟨Or.inl (gw4 (i := 58) rfl rfl), mk_120, gw4 (i := 60) rfl rfl, List.mem_filter.mpr ⟨List.mem_append_left _ (List.mem_of_getElem? (i := 39) rfl), rfl⟩⟩
theorem vl_RX5_360 : VLk RX5 360 121 := ⟨Or.inl (gw4 (i := 62) rfl rfl), mk_121, gw4 (i := 64) rfl rfl, List.mem_filter.mpr ⟨List.mem_append_left _ (List.mem_of_getElem? (i := 40) rfl), rfl⟩⟩
theorem vl_RX5_363 : VLk RX5 363 122 := ⟨Or.inl (gw4 (i := 66) rfl rfl), mk_122, gw4 (i := 68) rfl rfl, List.mem_filter.mpr ⟨List.mem_append_left _ (List.mem_of_getElem? (i := 41) rfl), rfl⟩⟩
theorem vl_RX5_366 : VLk RX5 366 123 := ⟨Or.inl (gw4 (i := 70) rfl rfl), mk_123, gw4 (i := 72) rfl rfl, List.mem_filter.mpr ⟨List.mem_append_left _ (List.mem_of_getElem? (i := 42) rfl), rfl⟩⟩
theorem il_RL_12 : ILk RL 12 135 := ⟨Or.inl (gw4 (i := 76) rfl rfl), mk_135, gw4 (i := 77) rfl rfl, rfl, rfl⟩
theorem fl_RX6_7 : FLk RX6 7 6 0 (.array .int) := ⟨RX6, TX6, 23, tyX6, rfl, rfl, by decide, inG6, tyX6_ok, nmX6, rfl, rfl, Or.inl (gw4 (i := 80) rfl rfl)⟩
theorem fl_RX6_13 : FLk RX6 13 6 1 (.array .int) := ⟨RX6, TX6, 23, tyX6, rfl, rfl, by decide, inG6, tyX6_ok, nmX6, rfl, rfl, Or.inl (gw4 (i := 81) rfl rfl)⟩
theorem fl_RX6_16 : FLk RX6 16 6 2 (.array .int) := ⟨RX6, TX6, 23, tyX6, rfl, rfl, by decide, inG6, tyX6_ok, nmX6, rfl, rfl, Or.inl (gw4 (i := 82) rfl rfl)⟩
theorem fl_RX6_19 : FLk RX6 19 6 3 (.array .int) := ⟨RX6, TX6, 23, tyX6, rfl, rfl, by decide, inG6, tyX6_ok, nmX6, rfl, rfl, Or.inl (gw4 (i := 83) rfl rfl)⟩
theorem fl_RX6_22 : FLk RX6 22 6 4 (.array .int) := ⟨RX6, TX6, 23, tyX6, rfl, rfl, by decide, inG6, tyX6_ok, nmX6, rfl, rfl, Or.inl (gw4 (i := 84) rfl rfl)⟩
theorem fl_RX6_25 : FLk RX6 25 6 5 (.array .int) := ⟨RX6, TX6, 23, tyX6, rfl, rfl, by decide, inG6, tyX6_ok, nmX6, rfl, rfl, Or.inl (gw4 (i := 85) rfl rfl)⟩
theorem fl_RX6_28 : FLk RX6 28 6 6 (.array .int) := ⟨RX6, TX6, 23, tyX6, rfl, rfl, by decide, inG6, tyX6_ok, nmX6, rfl, rfl, Or.inl (gw4 (i := 86) rfl rfl)⟩
theorem fl_RX6_31 : FLk RX6 31 6 7 (.array .int) := ⟨RX6, TX6, 23, tyX6, rfl, rfl, by decide, inG6, tyX6_ok, nmX6, rfl, rfl, Or.inl (gw4 (i := 87) rfl rfl)⟩
theorem fl_RX6_105 : FLk RX6 105 6 8 .int := ⟨RX6, TX6, 23, tyX6, rfl, rfl, by decide, inG6, tyX6_ok, nmX6, rfl, rfl, Or.inl (gw4 (i := 88) rfl rfl)⟩
theorem fw_RX6_105 : FLw RX6 105 6 8 .int := ⟨fl_RX6_105, fun C T N h => by cases h; rfl⟩
theorem fl_RX6_34 : FLk RX6 34 6 9 (.array .int) := ⟨RX6, TX6, 23, tyX6, rfl, rfl, by decide, inG6, tyX6_ok, nmX6, rfl, rfl, Or.inl (gw4 (i := 89) rfl rfl)⟩
theorem fl_RX6_37 : FLk RX6 37 6 10 (.array .int) := ⟨RX6, TX6, 23, tyX6, rfl, rfl, by decide, inG6, tyX6_ok, nmX6, rfl, rfl, Or.inl (gw4 (i := 90) rfl rfl)⟩
theorem fl_RX6_40 : FLk RX6 40 6 11 (.array .int) := ⟨RX6, TX6, 23, tyX6, rfl, rfl, by decide, inG6, tyX6_ok, nmX6, rfl, rfl, Or.inl (gw4 (i := 91) rfl rfl)⟩
theorem fl_RX6_43 : FLk RX6 43 6 12 (.array .int) := ⟨RX6, TX6, 23, tyX6, rfl, rfl, by decide, inG6, tyX6_ok, nmX6, rfl, rfl, Or.inl (gw4 (i := 92) rfl rfl)⟩
theorem fl_RX6_46 : FLk RX6 46 6 13 (.array .int) := ⟨RX6, TX6, 23, tyX6, rfl, rfl, by decide, inG6, tyX6_ok, nmX6, rfl, rfl, Or.inl (gw4 (i := 93) rfl rfl)⟩
theorem fl_RX6_49 : FLk RX6 49 6 14 (.array .int) := ⟨RX6, TX6, 23, tyX6, rfl, rfl, by decide, inG6, tyX6_ok, nmX6, rfl, rfl, Or.inl (gw4 (i := 94) rfl rfl)⟩
theorem fl_RX6_52 : FLk RX6 52 6 15 (.array .int) := ⟨RX6, TX6, 23, tyX6, rfl, rfl, by decide, inG6, tyX6_ok, nmX6, rfl, rfl, Or.inl (gw4 (i := 95) rfl rfl)⟩
theorem fl_RX6_55 : FLk RX6 55 6 16 (.array .int) := ⟨RX6, TX6, 23, tyX6, rfl, rfl, by decide, inG6, tyX6_ok, nmX6, rfl, rfl, Or.inl (gw4 (i := 96) rfl rfl)⟩
theorem fl_RX6_58 : FLk RX6 58 6 17 (.array .int) := ⟨RX6, TX6, 23, tyX6, rfl, rfl, by decide, inG6, tyX6_ok, nmX6, rfl, rfl, Or.inl (gw4 (i := 97) rfl rfl)⟩
theorem fl_RX6_61 : FLk RX6 61 6 18 (.array .int) := ⟨RX6, TX6, 23, tyX6, rfl, rfl, by decide, inG6, tyX6_ok, nmX6, rfl, rfl, Or.inl (gw4 (i := 98) rfl rfl)⟩
theorem fl_RX6_64 : FLk RX6 64 6 19 (.array .int) := ⟨RX6, TX6, 23, tyX6, rfl, rfl, by decide, inG6, tyX6_ok, nmX6, rfl, rfl, Or.inl (gw4 (i := 99) rfl rfl)⟩
theorem fl_RX6_67 : FLk RX6 67 6 20 (.array .int) := ⟨RX6, TX6, 23, tyX6, rfl, rfl, by decide, inG6, tyX6_ok, nmX6, rfl, rfl, Or.inl (gw4 (i := 100) rfl rfl)⟩
theorem fl_RX6_70 : FLk RX6 70 6 21 (.array .int) := ⟨RX6, TX6, 23, tyX6, rfl, rfl, by decide, inG6, tyX6_ok, nmX6, rfl, rfl, Or.inl (gw4 (i := 101) rfl rfl)⟩
theorem fl_RX6_73 : FLk RX6 73 6 22 (.array .int) := ⟨RX6, TX6, 23, tyX6, rfl, rfl, by decide, inG6, tyX6_ok, nmX6, rfl, rfl, Or.inl (gw4 (i := 102) rfl rfl)⟩
theorem vl_RL_17 : VLk RL 17 143 := ⟨Or.inl (gw4 (i := 150) rfl rfl), mk_143, gw4 (i := 151) rfl rfl, gw4 (i := 152) rfl rfl⟩
theorem tl_RX6_76 : TLk RX6 76 136 := ⟨Or.inl (gw4 (i := 154) rfl rfl), mk_136, gw4 (i := 155) rfl rfl⟩
theorem vl_RX6_84 : VLk RX6 84 142 := ⟨Or.inl (gw4 (i := 157) rfl rfl), mk_142, gw4 (i := 159) rfl rfl, List.mem_filter.mpr ⟨List.mem_append_left _ (List.mem_of_getElem? (i := 43) rfl), rfl⟩⟩
theorem vl_RX6_80 : VLk RX6 80 138 := ⟨Or.inl (gw4 (i := 161) rfl rfl), mk_138, gw4 (i := 163) rfl rfl, List.mem_filter.mpr ⟨List.mem_append_left _ (List.mem_of_getElem? (i := 44) rfl), rfl⟩⟩
theorem vl_RL_21 : VLk RL 21 144 := ⟨Or.inl (gw4 (i := 165) rfl rfl), mk_144, gw4 (i := 166) rfl rfl, gw4 (i := 167) rfl rfl⟩
theorem vl_RL_26 : VLk RL 26 148 := ⟨Or.inl (gw4 (i := 169) rfl rfl), mk_148, gw4 (i := 170) rfl rfl, gw4 (i := 171) rfl rfl⟩
theorem vl_RX6_94 : VLk RX6 94 149 := ⟨Or.inl (gw4 (i := 173) rfl rfl), mk_149, gw4 (i := 175) rfl rfl, List.mem_filter.mpr ⟨List.mem_append_left _ (List.mem_of_getElem? (i := 45) rfl), rfl⟩⟩
theorem vl_RX6_91 : VLk RX6 91 146 := ⟨Or.inl (gw4 (i := 177) rfl rfl), mk_146, gw4 (i := 179) rfl rfl, List.mem_filter.mpr ⟨List.mem_append_left _ (List.mem_of_getElem? (i := 46) rfl), rfl⟩⟩
theorem vl_RX6_88 : VLk RX6 88 145 := ⟨Or.inl (gw4 (i := 181) rfl rfl), mk_145, gw4 (i := 183) rfl rfl, List.mem_filter.mpr ⟨List.mem_append_left _ (List.mem_of_getElem? (i := 47) rfl), rfl⟩⟩
theorem vl_RX6_98 : VLk RX6 98 147 := ⟨Or.inl (gw4 (i := 185) rfl rfl), mk_147, gw4 (i := 187) rfl rfl, List.mem_filter.mpr ⟨List.mem_append_left _ (List.mem_of_getElem? (i := 48) rfl), rfl⟩⟩
theorem vl_RL_30 : VLk RL 30 151 := ⟨Or.inl (gw4 (i := 189) rfl rfl), mk_151, gw4 (i := 190) rfl rfl, gw4 (i := 191) rfl rfl⟩
theorem vl_RX6_101 : VLk RX6 101 150 := ⟨Or.inl (gw4 (i := 193) rfl rfl), mk_150, gw4 (i := 195) rfl rfl, List.mem_filter.mpr ⟨List.mem_append_left _ (List.mem_of_getElem? (i := 49) rfl), rfl⟩⟩
theorem vl_RL_35 : VLk RL 35 174 := ⟨Or.inl (gw4 (i := 197) rfl rfl), mk_174, gw4 (i := 198) rfl rfl, gw4 (i := 199) rfl rfl⟩
theorem vl_RX6_173 : VLk RX6 173 139 := ⟨Or.inl (gw4 (i := 201) rfl rfl), mk_139, gw4 (i := 203) rfl rfl, List.mem_filter.mpr ⟨List.mem_append_left _ (List.mem_of_getElem? (i := 50) rfl), rfl⟩⟩
theorem vl_RX6_176 : VLk RX6 176 182 := ⟨Or.inl (gw4 (i := 205) rfl rfl), mk_182, gw4 (i := 207) rfl rfl, List.mem_filter.mpr ⟨List.mem_append_left _ (List.mem_of_getElem? (i := 51) rfl), rfl⟩⟩
theorem vl_RX6_179 : VLk RX6 179 198 := ⟨Or.inl (gw4 (i := 209) rfl rfl), mk_198, gw4 (i := 211) rfl rfl, List.mem_filter.mpr ⟨List.mem_append_left _ (List.mem_of_getElem? (i := 52) rfl), rfl⟩⟩
theorem vl_RX6_182 : VLk RX6 182 175 := ⟨Or.inl (gw4 (i := 213) rfl rfl), mk_175, gw4 (i := 215) rfl rfl, List.mem_filter.mpr ⟨List.mem_append_left _ (List.mem_of_getElem? (i := 53) rfl), rfl⟩⟩
theorem vl_RL_40 : VLk RL 40 176 := ⟨Or.inl (gw4 (i := 217) rfl rfl), mk_176, gw4 (i := 218) rfl rfl, gw4 (i := 219) rfl rfl⟩
theorem vl_RX6_124 : VLk RX6 124 137 := ⟨Or.inl (gw4 (i := 221) rfl rfl), mk_137, gw4 (i := 223) rfl rfl, List.mem_filter.mpr ⟨List.mem_append_left _ (List.mem_of_getElem? (i := 54) rfl), rfl⟩⟩
theorem vl_RL_160 : VLk RL 160 180 := ⟨Or.inl (gw4 (i := 225) rfl rfl), mk_180, gw4 (i := 226) rfl rfl, gw4 (i := 227) rfl rfl⟩
theorem vl_RL_164 : VLk RL 164 181 := ⟨Or.inl (gw4 (i := 229) rfl rfl), mk_181, gw4 (i := 230) rfl rfl, gw4 (i := 231) rfl rfl⟩
theorem vl_RL_172 : VLk RL 172 186 := ⟨Or.inl (gw4 (i := 233) rfl rfl), mk_186, gw4 (i := 234) rfl rfl, gw4 (i := 235) rfl rfl⟩
theorem vl_RX6_207 : VLk RX6 207 157 := ⟨Or.inl (gw4 (i := 237) rfl rfl), mk_157, gw4 (i := 239) rfl rfl, List.mem_filter.mpr ⟨List.mem_append_left _ (List.mem_of_getElem? (i := 55) rfl), rfl⟩⟩
theorem tl_RX6_127 : TLk RX6 127 156 := ⟨Or.inl (gw5 (i := 1) rfl rfl), mk_156, gw5 (i := 2) rfl rfl⟩
theorem vl_RX6_203 : VLk RX6 203 184 := ⟨Or.inl (gw5 (i := 4) rfl rfl), mk_184, gw5 (i := 6) rfl rfl, List.mem_filter.mpr ⟨List.mem_append_left _ (List.mem_of_getElem? (i := 56) rfl), rfl⟩⟩
theorem vl_RX6_194 : VLk RX6 194 155 := ⟨Or.inl (gw5 (i := 8) rfl rfl), mk_155, gw5 (i := 10) rfl rfl, List.mem_filter.mpr ⟨List.mem_append_left _ (List.mem_of_getElem? (i := 57) rfl), rfl⟩⟩
theorem vl_RX6_113 : VLk RX6 113 152 := ⟨Or.inl (gw5 (i := 12) rfl rfl), mk_152, gw5 (i := 14) rfl rfl, List.mem_filter.mpr ⟨List.mem_append_left _ (List.mem_of_getElem? (i := 58) rfl), rfl⟩⟩
theorem vl_RX6_116 : VLk RX6 116 141 := ⟨Or.inl (gw5 (i := 16) rfl rfl), mk_141, gw5 (i := 18) rfl rfl, List.mem_filter.mpr ⟨List.mem_append_left _ (List.mem_of_getElem? (i := 59) rfl), rfl⟩⟩
theorem vl_RX6_120 : VLk RX6 120 154 := ⟨Or.inl (gw5 (i := 20) rfl rfl), mk_154, gw5 (i := 22) rfl rfl, List.mem_filter.mpr ⟨List.mem_append_left _ (List.mem_of_getElem? (i := 60) rfl), rfl⟩⟩
theorem vl_RX6_109 : VLk RX6 109 153 := ⟨Or.inl (gw5 (i := 24) rfl rfl), mk_153, gw5 (i := 26) rfl rfl, List.mem_filter.mpr ⟨List.mem_append_left _ (List.mem_of_getElem? (i := 61) rfl), rfl⟩⟩
theorem vl_RX6_197 : VLk RX6 197 159 := ⟨Or.inl (gw5 (i := 28) rfl rfl), mk_159, gw5 (i := 30) rfl rfl, List.mem_filter.mpr ⟨List.mem_append_left _ (List.mem_of_getElem? (i := 62) rfl), rfl⟩⟩
theorem co_RX6_160 : Cond.constant RX6 160 (i3 (-2147483648)) ∈ gT := gw5 (i := 32) rfl rfl
theorem vl_RX6_161 : VLk RX6 161 158 := ⟨Or.inl (gw5 (i := 33) rfl rfl), mk_158, gw5 (i := 35) rfl rfl, List.mem_filter.mpr ⟨List.mem_append_left _ (List.mem_of_getElem? (i := 63) rfl), rfl⟩⟩
theorem vl_RX6_130 : VLk RX6 130 160 := ⟨Or.inl (gw5 (i := 37) rfl rfl), mk_160, gw5 (i := 39) rfl rfl, List.mem_filter.mpr ⟨List.mem_append_left _ (List.mem_of_getElem? (i := 64) rfl), rfl⟩⟩
theorem vl_RX6_133 : VLk RX6 133 161 := ⟨Or.inl (gw5 (i := 41) rfl rfl), mk_161, gw5 (i := 43) rfl rfl, List.mem_filter.mpr ⟨List.mem_append_left _ (List.mem_of_getElem? (i := 65) rfl), rfl⟩⟩
theorem vl_RX6_136 : VLk RX6 136 163 := ⟨Or.inl (gw5 (i := 45) rfl rfl), mk_163, gw5 (i := 47) rfl rfl, List.mem_filter.mpr ⟨List.mem_append_left _ (List.mem_of_getElem? (i := 66) rfl), rfl⟩⟩
theorem tl_RX6_164 : TLk RX6 164 162 := ⟨Or.inl (gw5 (i := 49) rfl rfl), mk_162, gw5 (i := 50) rfl rfl⟩
theorem vl_RX6_139 : VLk RX6 139 164 := ⟨Or.inl (gw5 (i := 52) rfl rfl), mk_164, gw5 (i := 54) rfl rfl, List.mem_filter.mpr ⟨List.mem_append_left _ (List.mem_of_getElem? (i := 67) rfl), rfl⟩⟩
theorem vl_RX6_142 : VLk RX6 142 165 := ⟨Or.inl (gw5 (i := 56) rfl rfl), mk_165, gw5 (i := 58) rfl rfl, List.mem_filter.mpr ⟨List.mem_append_left _ (List.mem_of_getElem? (i := 68) rfl), rfl⟩⟩
theorem tl_RX6_167 : TLk RX6 167 166 := ⟨Or.inl (gw5 (i := 60) rfl rfl), mk_166, gw5 (i := 61) rfl rfl⟩
theorem vl_RX6_145 : VLk RX6 145 167 := ⟨Or.inl (gw5 (i := 63) rfl rfl), mk_167, gw5 (i := 65) rfl rfl, List.mem_filter.mpr ⟨List.mem_append_left _ (List.mem_of_getElem? (i := 69) rfl), rfl⟩⟩
theorem vl_RX6_148 : VLk RX6 148 169 := ⟨Or.inl (gw5 (i := 67) rfl rfl), mk_169, gw5 (i := 69) rfl rfl, List.mem_filter.mpr ⟨List.mem_append_left _ (List.mem_of_getElem? (i := 70) rfl), rfl⟩⟩
theorem vl_RX6_170 : VLk RX6 170 168 := ⟨Or.inl (gw5 (i := 71) rfl rfl), mk_168, gw5 (i := 73) rfl rfl, List.mem_filter.mpr ⟨List.mem_append_left _ (List.mem_of_getElem? (i := 71) rfl), rfl⟩⟩
theorem vl_RX6_151 : VLk RX6 151 170 := ⟨Or.inl (gw5 (i := 75) rfl rfl), mk_170, gw5 (i := 77) rfl rfl, List.mem_filter.mpr ⟨List.mem_append_left _ (List.mem_of_getElem? (i := 72) rfl), rfl⟩⟩
theorem vl_RX6_154 : VLk RX6 154 171 := ⟨Or.inl (gw5 (i := 79) rfl rfl), mk_171, gw5 (i := 81) rfl rfl, List.mem_filter.mpr ⟨List.mem_append_left _ (List.mem_of_getElem? (i := 73) rfl), rfl⟩⟩
theorem vl_RX6_157 : VLk RX6 157 172 := ⟨Or.inl (gw5 (i := 83) rfl rfl), mk_172, gw5 (i := 85) rfl rfl, List.mem_filter.mpr ⟨List.mem_append_left _ (List.mem_of_getElem? (i := 74) rfl), rfl⟩⟩
theorem tl_RX6_200 : TLk RX6 200 173 := ⟨Or.inl (gw5 (i := 87) rfl rfl), mk_173, gw5 (i := 88) rfl rfl⟩
theorem vl_RL_176 : VLk RL 176 187 := ⟨Or.inl (gw5 (i := 90) rfl rfl), mk_187, gw5 (i := 91) rfl rfl, gw5 (i := 92) rfl rfl⟩
theorem vl_RX6_210 : VLk RX6 210 183 := ⟨Or.inl (gw5 (i := 94) rfl rfl), mk_183, gw5 (i := 96) rfl rfl, List.mem_filter.mpr ⟨List.mem_append_left _ (List.mem_of_getElem? (i := 75) rfl), rfl⟩⟩
theorem vl_RL_180 : VLk RL 180 188 := ⟨Or.inl (gw5 (i := 98) rfl rfl), mk_188, gw5 (i := 99) rfl rfl, gw5 (i := 100) rfl rfl⟩
theorem vl_RL_185 : VLk RL 185 199 := ⟨Or.inl (gw5 (i := 102) rfl rfl), mk_199, gw5 (i := 103) rfl rfl, gw5 (i := 104) rfl rfl⟩
theorem co_RX6_239 : Cond.constant RX6 239 (i3 (100000)) ∈ gT := gw5 (i := 106) rfl rfl
theorem vl_RX6_240 : VLk RX6 240 197 := ⟨Or.inl (gw5 (i := 107) rfl rfl), mk_197, gw5 (i := 109) rfl rfl, List.mem_filter.mpr ⟨List.mem_append_left _ (List.mem_of_getElem? (i := 76) rfl), rfl⟩⟩
theorem vl_RL_189 : VLk RL 189 200 := ⟨Or.inl (gw5 (i := 111) rfl rfl), mk_200, gw5 (i := 112) rfl rfl, gw5 (i := 113) rfl rfl⟩
theorem vl_RL_193 : VLk RL 193 201 := ⟨Or.inl (gw5 (i := 115) rfl rfl), mk_201, gw5 (i := 116) rfl rfl, gw5 (i := 117) rfl rfl⟩
theorem vl_RL_45 : VLk RL 45 205 := ⟨Or.inl (gw5 (i := 119) rfl rfl), mk_205, gw5 (i := 120) rfl rfl, gw5 (i := 121) rfl rfl⟩
theorem vl_RX6_247 : VLk RX6 247 202 := ⟨Or.inl (gw5 (i := 123) rfl rfl), mk_202, gw5 (i := 125) rfl rfl, List.mem_filter.mpr ⟨List.mem_append_left _ (List.mem_of_getElem? (i := 77) rfl), rfl⟩⟩
theorem vl_RX6_188 : VLk RX6 188 140 := ⟨Or.inl (gw5 (i := 127) rfl rfl), mk_140, gw5 (i := 129) rfl rfl, List.mem_filter.mpr ⟨List.mem_append_left _ (List.mem_of_getElem? (i := 78) rfl), rfl⟩⟩
theorem vl_RX6_250 : VLk RX6 250 203 := ⟨Or.inl (gw5 (i := 131) rfl rfl), mk_203, gw5 (i := 133) rfl rfl, List.mem_filter.mpr ⟨List.mem_append_left _ (List.mem_of_getElem? (i := 79) rfl), rfl⟩⟩
theorem vl_RX6_256 : VLk RX6 256 204 := ⟨Or.inl (gw5 (i := 135) rfl rfl), mk_204, gw5 (i := 137) rfl rfl, List.mem_filter.mpr ⟨List.mem_append_left _ (List.mem_of_getElem? (i := 80) rfl), rfl⟩⟩
theorem vl_RX6_243 : VLk RX6 243 213 := ⟨Or.inl (gw5 (i := 139) rfl rfl), mk_213, gw5 (i := 141) rfl rfl, List.mem_filter.mpr ⟨List.mem_append_left _ (List.mem_of_getElem? (i := 81) rfl), rfl⟩⟩
theorem vl_RX6_253 : VLk RX6 253 194 := ⟨Or.inl (gw5 (i := 143) rfl rfl), mk_194, gw5 (i := 145) rfl rfl, List.mem_filter.mpr ⟨List.mem_append_left _ (List.mem_of_getElem? (i := 82) rfl), rfl⟩⟩
theorem vl_RX6_224 : VLk RX6 224 191 := ⟨Or.inl (gw5 (i := 147) rfl rfl), mk_191, gw5 (i := 149) rfl rfl, List.mem_filter.mpr ⟨List.mem_append_left _ (List.mem_of_getElem? (i := 83) rfl), rfl⟩⟩
theorem vl_RX6_217 : VLk RX6 217 189 := ⟨Or.inl (gw5 (i := 151) rfl rfl), mk_189, gw5 (i := 153) rfl rfl, List.mem_filter.mpr ⟨List.mem_append_left _ (List.mem_of_getElem? (i := 84) rfl), rfl⟩⟩
theorem vl_RX6_213 : VLk RX6 213 190 := ⟨Or.inl (gw5 (i := 155) rfl rfl), mk_190, gw5 (i := 157) rfl rfl, List.mem_filter.mpr ⟨List.mem_append_left _ (List.mem_of_getElem? (i := 85) rfl), rfl⟩⟩
theorem vl_RX6_221 : VLk RX6 221 177 := ⟨Or.inl (gw5 (i := 159) rfl rfl), mk_177, gw5 (i := 161) rfl rfl, List.mem_filter.mpr ⟨List.mem_append_left _ (List.mem_of_getElem? (i := 86) rfl), rfl⟩⟩
theorem vl_RX6_185 : VLk RX6 185 178 := ⟨Or.inl (gw5 (i := 163) rfl rfl), mk_178, gw5 (i := 165) rfl rfl, List.mem_filter.mpr ⟨List.mem_append_left _ (List.mem_of_getElem? (i := 87) rfl), rfl⟩⟩
theorem vl_RX6_191 : VLk RX6 191 185 := ⟨Or.inl (gw5 (i := 167) rfl rfl), mk_185, gw5 (i := 169) rfl rfl, List.mem_filter.mpr ⟨List.mem_append_left _ (List.mem_of_getElem? (i := 88) rfl), rfl⟩⟩
theorem vl_RX6_227 : VLk RX6 227 179 := ⟨Or.inl (gw5 (i := 171) rfl rfl), mk_179, gw5 (i := 173) rfl rfl, List.mem_filter.mpr ⟨List.mem_append_left _ (List.mem_of_getElem? (i := 89) rfl), rfl⟩⟩
theorem vl_RX6_230 : VLk RX6 230 193 := ⟨Or.inl (gw5 (i := 175) rfl rfl), mk_193, gw5 (i := 177) rfl rfl, List.mem_filter.mpr ⟨List.mem_append_left _ (List.mem_of_getElem? (i := 90) rfl), rfl⟩⟩
theorem vl_RX6_233 : VLk RX6 233 192 := ⟨Or.inl (gw5 (i := 179) rfl rfl), mk_192, gw5 (i := 181) rfl rfl, List.mem_filter.mpr ⟨List.mem_append_left _ (List.mem_of_getElem? (i := 91) rfl), rfl⟩⟩
theorem vl_RX6_259 : VLk RX6 259 196 := ⟨Or.inl (gw5 (i := 183) rfl rfl), mk_196, gw5 (i := 185) rfl rfl, List.mem_filter.mpr ⟨List.mem_append_left _ (List.mem_of_getElem? (i := 92) rfl), rfl⟩⟩
theorem vl_RX6_236 : VLk RX6 236 195 := ⟨Or.inl (gw5 (i := 187) rfl rfl), mk_195, gw5 (i := 189) rfl rfl, List.mem_filter.mpr ⟨List.mem_append_left _ (List.mem_of_getElem? (i := 93) rfl), rfl⟩⟩
theorem vl_RL_50 : VLk RL 50 206 := ⟨Or.inl (gw5 (i := 191) rfl rfl), mk_206, gw5 (i := 192) rfl rfl, gw5 (i := 193) rfl rfl⟩
theorem vl_RL_55 : VLk RL 55 207 := ⟨Or.inl (gw5 (i := 195) rfl rfl), mk_207, gw5 (i := 196) rfl rfl, gw5 (i := 197) rfl rfl⟩
theorem vl_RL_59 : VLk RL 59 208 := ⟨Or.inl (gw5 (i := 199) rfl rfl), mk_208, gw5 (i := 200) rfl rfl, gw5 (i := 201) rfl rfl⟩
theorem vl_RL_63 : VLk RL 63 210 := ⟨Or.inl (gw5 (i := 203) rfl rfl), mk_210, gw5 (i := 204) rfl rfl, gw5 (i := 205) rfl rfl⟩
theorem vl_RX6_262 : VLk RX6 262 209 := ⟨Or.inl (gw5 (i := 207) rfl rfl), mk_209, gw5 (i := 209) rfl rfl, List.mem_filter.mpr ⟨List.mem_append_left _ (List.mem_of_getElem? (i := 94) rfl), rfl⟩⟩
theorem vl_RL_68 : VLk RL 68 211 := ⟨Or.inl (gw5 (i := 211) rfl rfl), mk_211, gw5 (i := 212) rfl rfl, gw5 (i := 213) rfl rfl⟩
theorem vl_RL_72 : VLk RL 72 212 := ⟨Or.inl (gw5 (i := 215) rfl rfl), mk_212, gw5 (i := 216) rfl rfl, gw5 (i := 217) rfl rfl⟩
theorem vl_RL_76 : VLk RL 76 214 := ⟨Or.inl (gw5 (i := 219) rfl rfl), mk_214, gw5 (i := 220) rfl rfl, gw5 (i := 221) rfl rfl⟩
theorem vl_RL_80 : VLk RL 80 215 := ⟨Or.inl (gw5 (i := 223) rfl rfl), mk_215, gw5 (i := 224) rfl rfl, gw5 (i := 225) rfl rfl⟩
theorem vl_RL_84 : VLk RL 84 217 := ⟨Or.inl (gw5 (i := 227) rfl rfl), mk_217, gw5 (i := 228) rfl rfl, gw5 (i := 229) rfl rfl⟩
theorem vl_RX6_265 : VLk RX6 265 216 := ⟨Or.inl (gw5 (i := 231) rfl rfl), mk_216, gw5 (i := 233) rfl rfl, List.mem_filter.mpr ⟨List.mem_append_left _ (List.mem_of_getElem? (i := 95) rfl), rfl⟩⟩
theorem vl_RL_88 : VLk RL 88 218 := ⟨Or.inl (gw5 (i := 235) rfl rfl), mk_218, gw5 (i := 236) rfl rfl, gw5 (i := 237) rfl rfl⟩
theorem vl_RL_92 : VLk RL 92 219 := ⟨Or.inl (gw5 (i := 239) rfl rfl), mk_219, gw6 (i := 0) rfl rfl, gw6 (i := 1) rfl rfl⟩
theorem vl_RL_96 : VLk RL 96 220 := ⟨Or.inl (gw6 (i := 3) rfl rfl), mk_220, gw6 (i := 4) rfl rfl, gw6 (i := 5) rfl rfl⟩
theorem vl_RL_104 : VLk RL 104 222 := ⟨Or.inl (gw6 (i := 7) rfl rfl), mk_222, gw6 (i := 8) rfl rfl, gw6 (i := 9) rfl rfl⟩
theorem vl_RX6_268 : VLk RX6 268 221 := ⟨Or.inl (gw6 (i := 11) rfl rfl), mk_221, gw6 (i := 13) rfl rfl, List.mem_filter.mpr ⟨List.mem_append_left _ (List.mem_of_getElem? (i := 96) rfl), rfl⟩⟩
theorem vl_RL_100 : VLk RL 100 223 := ⟨Or.inl (gw6 (i := 15) rfl rfl), mk_223, gw6 (i := 16) rfl rfl, gw6 (i := 17) rfl rfl⟩
theorem vl_RL_108 : VLk RL 108 225 := ⟨Or.inl (gw6 (i := 19) rfl rfl), mk_225, gw6 (i := 20) rfl rfl, gw6 (i := 21) rfl rfl⟩
theorem vl_RX6_271 : VLk RX6 271 224 := ⟨Or.inl (gw6 (i := 23) rfl rfl), mk_224, gw6 (i := 25) rfl rfl, List.mem_filter.mpr ⟨List.mem_append_left _ (List.mem_of_getElem? (i := 97) rfl), rfl⟩⟩
theorem vl_RL_112 : VLk RL 112 226 := ⟨Or.inl (gw6 (i := 27) rfl rfl), mk_226, gw6 (i := 28) rfl rfl, gw6 (i := 29) rfl rfl⟩
theorem vl_RL_116 : VLk RL 116 227 := ⟨Or.inl (gw6 (i := 31) rfl rfl), mk_227, gw6 (i := 32) rfl rfl, gw6 (i := 33) rfl rfl⟩
theorem vl_RL_120 : VLk RL 120 230 := ⟨Or.inl (gw6 (i := 35) rfl rfl), mk_230, gw6 (i := 36) rfl rfl, gw6 (i := 37) rfl rfl⟩
theorem vl_RX6_274 : VLk RX6 274 228 := ⟨Or.inl (gw6 (i := 39) rfl rfl), mk_228, gw6 (i := 41) rfl rfl, List.mem_filter.mpr ⟨List.mem_append_left _ (List.mem_of_getElem? (i := 98) rfl), rfl⟩⟩
theorem vl_RX6_277 : VLk RX6 277 229 := ⟨Or.inl (gw6 (i := 43) rfl rfl), mk_229, gw6 (i := 45) rfl rfl, List.mem_filter.mpr ⟨List.mem_append_left _ (List.mem_of_getElem? (i := 99) rfl), rfl⟩⟩
theorem vl_RL_124 : VLk RL 124 232 := ⟨Or.inl (gw6 (i := 47) rfl rfl), mk_232, gw6 (i := 48) rfl rfl, gw6 (i := 49) rfl rfl⟩
theorem vl_RX6_280 : VLk RX6 280 231 := ⟨Or.inl (gw6 (i := 51) rfl rfl), mk_231, gw6 (i := 53) rfl rfl, List.mem_filter.mpr ⟨List.mem_append_left _ (List.mem_of_getElem? (i := 100) rfl), rfl⟩⟩
theorem vl_RL_128 : VLk RL 128 233 := ⟨Or.inl (gw6 (i := 55) rfl rfl), mk_233, gw6 (i := 56) rfl rfl, gw6 (i := 57) rfl rfl⟩
theorem vl_RL_132 : VLk RL 132 234 := ⟨Or.inl (gw6 (i := 59) rfl rfl), mk_234, gw6 (i := 60) rfl rfl, gw6 (i := 61) rfl rfl⟩
theorem vl_RL_156 : VLk RL 156 235 := ⟨Or.inl (gw6 (i := 63) rfl rfl), mk_235, gw6 (i := 64) rfl rfl, gw6 (i := 65) rfl rfl⟩
theorem vl_RX6_283 : VLk RX6 283 214 := ⟨Or.inl (gw6 (i := 67) rfl rfl), mk_214, gw5 (i := 220) rfl rfl, gw5 (i := 221) rfl rfl⟩
theorem vl_RL_197 : VLk RL 197 237 := ⟨Or.inl (gw6 (i := 68) rfl rfl), mk_237, gw6 (i := 69) rfl rfl, gw6 (i := 70) rfl rfl⟩
theorem vl_RX6_286 : VLk RX6 286 236 := ⟨Or.inl (gw6 (i := 72) rfl rfl), mk_236, gw6 (i := 74) rfl rfl, List.mem_filter.mpr ⟨List.mem_append_left _ (List.mem_of_getElem? (i := 101) rfl), rfl⟩⟩
theorem vl_RL_201 : VLk RL 201 238 := ⟨Or.inl (gw6 (i := 76) rfl rfl), mk_238, gw6 (i := 77) rfl rfl, gw6 (i := 78) rfl rfl⟩
theorem vl_RL_213 : VLk RL 213 240 := ⟨Or.inl (gw6 (i := 80) rfl rfl), mk_240, gw6 (i := 81) rfl rfl, gw6 (i := 82) rfl rfl⟩
theorem vl_RX6_289 : VLk RX6 289 239 := ⟨Or.inl (gw6 (i := 84) rfl rfl), mk_239, gw6 (i := 86) rfl rfl, List.mem_filter.mpr ⟨List.mem_append_left _ (List.mem_of_getElem? (i := 102) rfl), rfl⟩⟩
theorem vl_RL_205 : VLk RL 205 241 := ⟨Or.inl (gw6 (i := 88) rfl rfl), mk_241, gw6 (i := 89) rfl rfl, gw6 (i := 90) rfl rfl⟩
theorem vl_RX6_292 : VLk RX6 292 253 := ⟨Or.inl (gw6 (i := 92) rfl rfl), mk_253, gw6 (i := 94) rfl rfl, List.mem_filter.mpr ⟨List.mem_append_left _ (List.mem_of_getElem? (i := 103) rfl), rfl⟩⟩
theorem vl_RL_209 : VLk RL 209 242 := ⟨Or.inl (gw6 (i := 96) rfl rfl), mk_242, gw6 (i := 97) rfl rfl, gw6 (i := 98) rfl rfl⟩
theorem vl_RL_136 : VLk RL 136 245 := ⟨Or.inl (gw6 (i := 100) rfl rfl), mk_245, gw6 (i := 101) rfl rfl, gw6 (i := 102) rfl rfl⟩
theorem vl_RX6_295 : VLk RX6 295 243 := ⟨Or.inl (gw6 (i := 104) rfl rfl), mk_243, gw6 (i := 106) rfl rfl, List.mem_filter.mpr ⟨List.mem_append_left _ (List.mem_of_getElem? (i := 104) rfl), rfl⟩⟩
theorem vl_RX6_298 : VLk RX6 298 244 := ⟨Or.inl (gw6 (i := 108) rfl rfl), mk_244, gw6 (i := 110) rfl rfl, List.mem_filter.mpr ⟨List.mem_append_left _ (List.mem_of_getElem? (i := 105) rfl), rfl⟩⟩
theorem vl_RL_140 : VLk RL 140 246 := ⟨Or.inl (gw6 (i := 112) rfl rfl), mk_246, gw6 (i := 113) rfl rfl, gw6 (i := 114) rfl rfl⟩
theorem vl_RL_144 : VLk RL 144 249 := ⟨Or.inl (gw6 (i := 116) rfl rfl), mk_249, gw6 (i := 117) rfl rfl, gw6 (i := 118) rfl rfl⟩
theorem vl_RX6_301 : VLk RX6 301 247 := ⟨Or.inl (gw6 (i := 120) rfl rfl), mk_247, gw6 (i := 122) rfl rfl, List.mem_filter.mpr ⟨List.mem_append_left _ (List.mem_of_getElem? (i := 106) rfl), rfl⟩⟩
theorem vl_RX6_304 : VLk RX6 304 248 := ⟨Or.inl (gw6 (i := 124) rfl rfl), mk_248, gw6 (i := 126) rfl rfl, List.mem_filter.mpr ⟨List.mem_append_left _ (List.mem_of_getElem? (i := 107) rfl), rfl⟩⟩
theorem vl_RL_148 : VLk RL 148 250 := ⟨Or.inl (gw6 (i := 128) rfl rfl), mk_250, gw6 (i := 129) rfl rfl, gw6 (i := 130) rfl rfl⟩
theorem vl_RL_152 : VLk RL 152 251 := ⟨Or.inl (gw6 (i := 132) rfl rfl), mk_251, gw6 (i := 133) rfl rfl, gw6 (i := 134) rfl rfl⟩
theorem vl_RL_168 : VLk RL 168 252 := ⟨Or.inl (gw6 (i := 136) rfl rfl), mk_252, gw6 (i := 137) rfl rfl, gw6 (i := 138) rfl rfl⟩
theorem vl_RL_217 : VLk RL 217 254 := ⟨Or.inl (gw6 (i := 140) rfl rfl), mk_254, gw6 (i := 141) rfl rfl, gw6 (i := 142) rfl rfl⟩
theorem vl_RL_221 : VLk RL 221 255 := ⟨Or.inl (gw6 (i := 144) rfl rfl), mk_255, gw6 (i := 145) rfl rfl, gw6 (i := 146) rfl rfl⟩
theorem vl_RL_225 : VLk RL 225 260 := ⟨Or.inl (gw6 (i := 148) rfl rfl), mk_260, gw6 (i := 149) rfl rfl, gw6 (i := 150) rfl rfl⟩
theorem vl_RX6_307 : VLk RX6 307 256 := ⟨Or.inl (gw6 (i := 152) rfl rfl), mk_256, gw6 (i := 154) rfl rfl, List.mem_filter.mpr ⟨List.mem_append_left _ (List.mem_of_getElem? (i := 108) rfl), rfl⟩⟩
theorem vl_RX6_310 : VLk RX6 310 258 := ⟨Or.inl (gw6 (i := 156) rfl rfl), mk_258, gw6 (i := 158) rfl rfl, List.mem_filter.mpr ⟨List.mem_append_left _ (List.mem_of_getElem? (i := 109) rfl), rfl⟩⟩
theorem vl_RX6_314 : VLk RX6 314 257 := ⟨Or.inl (gw6 (i := 160) rfl rfl), mk_257, gw6 (i := 162) rfl rfl, List.mem_filter.mpr ⟨List.mem_append_left _ (List.mem_of_getElem? (i := 110) rfl), rfl⟩⟩
theorem vl_RX6_317 : VLk RX6 317 259 := ⟨Or.inl (gw6 (i := 164) rfl rfl), mk_259, gw6 (i := 166) rfl rfl, List.mem_filter.mpr ⟨List.mem_append_left _ (List.mem_of_getElem? (i := 111) rfl), rfl⟩⟩

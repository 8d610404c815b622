theorem il_RL_9 : ILk RL 9 46 := ⟨Or.inl (gw1 (i := 14) rfl rfl), mk_46, gw1 (i := 15) rfl rfl, rfl, rfl⟩
theorem il_RX5_23 : ILk RX5 23 25 := ⟨Or.inl (gw1 (i := 25) rfl rfl), mk_25, gw1 (i := 26) rfl rfl, rfl, rfl⟩
theorem il_RX2_27 : ILk RX2 27 0 := ⟨Or.inr ⟨"SlideFold", nw1 (i := 31) rfl rfl⟩, mk_0, gw1 (i := 32) rfl rfl, rfl, rfl⟩
theorem fl_RX0_9 : FLk RX0 9 0 0 .int := ⟨RX0, TX0, 7, tyX0, rfl, rfl, by decide, inG0, tyX0_ok, nmX0, rfl, rfl, Or.inl (gw1 (i := 35) rfl rfl)⟩
theorem fw_RX0_9 : FLw RX0 9 0 0 .int := ⟨fl_RX0_9, fun C T N h => by cases h; rfl⟩
theorem fl_RX5_294 : FLk RX5 294 0 0 .int := ⟨RX0, TX0, 7, tyX0, rfl, rfl, by decide, inG0, tyX0_ok, nmX0, rfl, rfl, Or.inr ⟨"SlideFold", nw1 (i := 36) rfl rfl⟩⟩
theorem fw_RX5_294 : FLw RX5 294 0 0 .int := ⟨fl_RX5_294, fun C T N h => by cases h; rfl⟩
theorem fl_RX0_15 : FLk RX0 15 0 1 .int := ⟨RX0, TX0, 7, tyX0, rfl, rfl, by decide, inG0, tyX0_ok, nmX0, rfl, rfl, Or.inl (gw1 (i := 37) rfl rfl)⟩
theorem fw_RX0_15 : FLw RX0 15 0 1 .int := ⟨fl_RX0_15, fun C T N h => by cases h; rfl⟩
theorem fl_RX0_18 : FLk RX0 18 0 2 .int := ⟨RX0, TX0, 7, tyX0, rfl, rfl, by decide, inG0, tyX0_ok, nmX0, rfl, rfl, Or.inl (gw1 (i := 38) rfl rfl)⟩
theorem fw_RX0_18 : FLw RX0 18 0 2 .int := ⟨fl_RX0_18, fun C T N h => by cases h; rfl⟩
theorem fl_RX5_297 : FLk RX5 297 0 2 .int := ⟨RX0, TX0, 7, tyX0, rfl, rfl, by decide, inG0, tyX0_ok, nmX0, rfl, rfl, Or.inr ⟨"SlideFold", nw1 (i := 39) rfl rfl⟩⟩
theorem fw_RX5_297 : FLw RX5 297 0 2 .int := ⟨fl_RX5_297, fun C T N h => by cases h; rfl⟩
theorem fl_RX0_21 : FLk RX0 21 0 3 .int := ⟨RX0, TX0, 7, tyX0, rfl, rfl, by decide, inG0, tyX0_ok, nmX0, rfl, rfl, Or.inl (gw1 (i := 40) rfl rfl)⟩
theorem fw_RX0_21 : FLw RX0 21 0 3 .int := ⟨fl_RX0_21, fun C T N h => by cases h; rfl⟩
theorem fl_RX5_291 : FLk RX5 291 0 3 .int := ⟨RX0, TX0, 7, tyX0, rfl, rfl, by decide, inG0, tyX0_ok, nmX0, rfl, rfl, Or.inr ⟨"SlideFold", nw1 (i := 41) rfl rfl⟩⟩
theorem fw_RX5_291 : FLw RX5 291 0 3 .int := ⟨fl_RX5_291, fun C T N h => by cases h; rfl⟩
theorem fl_RX0_24 : FLk RX0 24 0 4 .int := ⟨RX0, TX0, 7, tyX0, rfl, rfl, by decide, inG0, tyX0_ok, nmX0, rfl, rfl, Or.inl (gw1 (i := 42) rfl rfl)⟩
theorem fw_RX0_24 : FLw RX0 24 0 4 .int := ⟨fl_RX0_24, fun C T N h => by cases h; rfl⟩
theorem fl_RX0_27 : FLk RX0 27 0 5 .int := ⟨RX0, TX0, 7, tyX0, rfl, rfl, by decide, inG0, tyX0_ok, nmX0, rfl, rfl, Or.inl (gw1 (i := 43) rfl rfl)⟩
theorem fw_RX0_27 : FLw RX0 27 0 5 .int := ⟨fl_RX0_27, fun C T N h => by cases h; rfl⟩
theorem fl_RX5_304 : FLk RX5 304 0 5 .int := ⟨RX0, TX0, 7, tyX0, rfl, rfl, by decide, inG0, tyX0_ok, nmX0, rfl, rfl, Or.inr ⟨"SlideFold", nw1 (i := 44) rfl rfl⟩⟩
theorem fw_RX5_304 : FLw RX5 304 0 5 .int := ⟨fl_RX5_304, fun C T N h => by cases h; rfl⟩
theorem fl_RX0_30 : FLk RX0 30 0 6 .int := ⟨RX0, TX0, 7, tyX0, rfl, rfl, by decide, inG0, tyX0_ok, nmX0, rfl, rfl, Or.inl (gw1 (i := 45) rfl rfl)⟩
theorem fw_RX0_30 : FLw RX0 30 0 6 .int := ⟨fl_RX0_30, fun C T N h => by cases h; rfl⟩
theorem fl_RX5_307 : FLk RX5 307 0 6 .int := ⟨RX0, TX0, 7, tyX0, rfl, rfl, by decide, inG0, tyX0_ok, nmX0, rfl, rfl, Or.inr ⟨"SlideFold", nw1 (i := 46) rfl rfl⟩⟩
theorem fw_RX5_307 : FLw RX5 307 0 6 .int := ⟨fl_RX5_307, fun C T N h => by cases h; rfl⟩
theorem fl_RX2_9 : FLk RX2 9 2 0 .int := ⟨RX2, TX2, 17, tyX2, rfl, rfl, by decide, inG2, tyX2_ok, nmX2, rfl, rfl, Or.inl (gw1 (i := 63) rfl rfl)⟩
theorem fw_RX2_9 : FLw RX2 9 2 0 .int := ⟨fl_RX2_9, fun C T N h => by cases h; rfl⟩
theorem fl_RX5_212 : FLk RX5 212 2 0 .int := ⟨RX2, TX2, 17, tyX2, rfl, rfl, by decide, inG2, tyX2_ok, nmX2, rfl, rfl, Or.inr ⟨"SlideFold", nw1 (i := 64) rfl rfl⟩⟩
theorem fw_RX5_212 : FLw RX5 212 2 0 .int := ⟨fl_RX5_212, fun C T N h => by cases h; rfl⟩
theorem fl_RX2_32 : FLk RX2 32 2 1 .boolean := ⟨RX2, TX2, 17, tyX2, rfl, rfl, by decide, inG2, tyX2_ok, nmX2, rfl, rfl, Or.inl (gw1 (i := 65) rfl rfl)⟩
theorem fw_RX2_32 : FLw RX2 32 2 1 .boolean := ⟨fl_RX2_32, fun C T N h => by cases h; rfl⟩
theorem fl_RX5_94 : FLk RX5 94 2 1 .boolean := ⟨RX2, TX2, 17, tyX2, rfl, rfl, by decide, inG2, tyX2_ok, nmX2, rfl, rfl, Or.inr ⟨"SlideFold", nw1 (i := 66) rfl rfl⟩⟩
theorem fw_RX5_94 : FLw RX5 94 2 1 .boolean := ⟨fl_RX5_94, fun C T N h => by cases h; rfl⟩
theorem fl_RX2_36 : FLk RX2 36 2 2 .int := ⟨RX2, TX2, 17, tyX2, rfl, rfl, by decide, inG2, tyX2_ok, nmX2, rfl, rfl, Or.inl (gw1 (i := 67) rfl rfl)⟩
theorem fw_RX2_36 : FLw RX2 36 2 2 .int := ⟨fl_RX2_36, fun C T N h => by cases h; rfl⟩
theorem fl_RX5_98 : FLk RX5 98 2 2 .int := ⟨RX2, TX2, 17, tyX2, rfl, rfl, by decide, inG2, tyX2_ok, nmX2, rfl, rfl, Or.inr ⟨"SlideFold", nw1 (i := 68) rfl rfl⟩⟩
theorem fw_RX5_98 : FLw RX5 98 2 2 .int := ⟨fl_RX5_98, fun C T N h => by cases h; rfl⟩
theorem fl_RX2_39 : FLk RX2 39 2 3 .int := ⟨RX2, TX2, 17, tyX2, rfl, rfl, by decide, inG2, tyX2_ok, nmX2, rfl, rfl, Or.inl (gw1 (i := 69) rfl rfl)⟩
theorem fw_RX2_39 : FLw RX2 39 2 3 .int := ⟨fl_RX2_39, fun C T N h => by cases h; rfl⟩
theorem fl_RX5_160 : FLk RX5 160 2 3 .int := ⟨RX2, TX2, 17, tyX2, rfl, rfl, by decide, inG2, tyX2_ok, nmX2, rfl, rfl, Or.inr ⟨"SlideFold", nw1 (i := 70) rfl rfl⟩⟩
theorem fw_RX5_160 : FLw RX5 160 2 3 .int := ⟨fl_RX5_160, fun C T N h => by cases h; rfl⟩
theorem fl_RX2_42 : FLk RX2 42 2 4 .int := ⟨RX2, TX2, 17, tyX2, rfl, rfl, by decide, inG2, tyX2_ok, nmX2, rfl, rfl, Or.inl (gw1 (i := 71) rfl rfl)⟩
theorem fw_RX2_42 : FLw RX2 42 2 4 .int := ⟨fl_RX2_42, fun C T N h => by cases h; rfl⟩
theorem fl_RX2_45 : FLk RX2 45 2 5 .int := ⟨RX2, TX2, 17, tyX2, rfl, rfl, by decide, inG2, tyX2_ok, nmX2, rfl, rfl, Or.inl (gw1 (i := 72) rfl rfl)⟩
theorem fw_RX2_45 : FLw RX2 45 2 5 .int := ⟨fl_RX2_45, fun C T N h => by cases h; rfl⟩
theorem fl_RX2_48 : FLk RX2 48 2 6 .int := ⟨RX2, TX2, 17, tyX2, rfl, rfl, by decide, inG2, tyX2_ok, nmX2, rfl, rfl, Or.inl (gw1 (i := 73) rfl rfl)⟩
theorem fw_RX2_48 : FLw RX2 48 2 6 .int := ⟨fl_RX2_48, fun C T N h => by cases h; rfl⟩
theorem fl_RX5_154 : FLk RX5 154 2 6 .int := ⟨RX2, TX2, 17, tyX2, rfl, rfl, by decide, inG2, tyX2_ok, nmX2, rfl, rfl, Or.inr ⟨"SlideFold", nw1 (i := 74) rfl rfl⟩⟩
theorem fw_RX5_154 : FLw RX5 154 2 6 .int := ⟨fl_RX5_154, fun C T N h => by cases h; rfl⟩
theorem fl_RX2_15 : FLk RX2 15 2 7 (.array .int) := ⟨RX2, TX2, 17, tyX2, rfl, rfl, by decide, inG2, tyX2_ok, nmX2, rfl, rfl, Or.inl (gw1 (i := 75) rfl rfl)⟩
theorem fl_RX5_198 : FLk RX5 198 2 7 (.array .int) := ⟨RX2, TX2, 17, tyX2, rfl, rfl, by decide, inG2, tyX2_ok, nmX2, rfl, rfl, Or.inr ⟨"SlideFold", nw1 (i := 76) rfl rfl⟩⟩
theorem fl_RX2_19 : FLk RX2 19 2 8 (.array .int) := ⟨RX2, TX2, 17, tyX2, rfl, rfl, by decide, inG2, tyX2_ok, nmX2, rfl, rfl, Or.inl (gw1 (i := 77) rfl rfl)⟩
theorem fl_RX5_176 : FLk RX5 176 2 8 (.array .int) := ⟨RX2, TX2, 17, tyX2, rfl, rfl, by decide, inG2, tyX2_ok, nmX2, rfl, rfl, Or.inr ⟨"SlideFold", nw1 (i := 78) rfl rfl⟩⟩
theorem fl_RX2_22 : FLk RX2 22 2 9 (.array .int) := ⟨RX2, TX2, 17, tyX2, rfl, rfl, by decide, inG2, tyX2_ok, nmX2, rfl, rfl, Or.inl (gw1 (i := 79) rfl rfl)⟩
theorem fl_RX5_245 : FLk RX5 245 2 9 (.array .int) := ⟨RX2, TX2, 17, tyX2, rfl, rfl, by decide, inG2, tyX2_ok, nmX2, rfl, rfl, Or.inr ⟨"SlideFold", nw1 (i := 80) rfl rfl⟩⟩
theorem fl_RX2_51 : FLk RX2 51 2 10 .int := ⟨RX2, TX2, 17, tyX2, rfl, rfl, by decide, inG2, tyX2_ok, nmX2, rfl, rfl, Or.inl (gw1 (i := 81) rfl rfl)⟩
theorem fw_RX2_51 : FLw RX2 51 2 10 .int := ⟨fl_RX2_51, fun C T N h => by cases h; rfl⟩
theorem fl_RX5_157 : FLk RX5 157 2 10 .int := ⟨RX2, TX2, 17, tyX2, rfl, rfl, by decide, inG2, tyX2_ok, nmX2, rfl, rfl, Or.inr ⟨"SlideFold", nw1 (i := 82) rfl rfl⟩⟩
theorem fw_RX5_157 : FLw RX5 157 2 10 .int := ⟨fl_RX5_157, fun C T N h => by cases h; rfl⟩
theorem fl_RX2_54 : FLk RX2 54 2 11 .int := ⟨RX2, TX2, 17, tyX2, rfl, rfl, by decide, inG2, tyX2_ok, nmX2, rfl, rfl, Or.inl (gw1 (i := 83) rfl rfl)⟩
theorem fw_RX2_54 : FLw RX2 54 2 11 .int := ⟨fl_RX2_54, fun C T N h => by cases h; rfl⟩
theorem fl_RX5_136 : FLk RX5 136 2 11 .int := ⟨RX2, TX2, 17, tyX2, rfl, rfl, by decide, inG2, tyX2_ok, nmX2, rfl, rfl, Or.inr ⟨"SlideFold", nw1 (i := 84) rfl rfl⟩⟩
theorem fw_RX5_136 : FLw RX5 136 2 11 .int := ⟨fl_RX5_136, fun C T N h => by cases h; rfl⟩
theorem fl_RX2_57 : FLk RX2 57 2 12 .int := ⟨RX2, TX2, 17, tyX2, rfl, rfl, by decide, inG2, tyX2_ok, nmX2, rfl, rfl, Or.inl (gw1 (i := 85) rfl rfl)⟩
theorem fw_RX2_57 : FLw RX2 57 2 12 .int := ⟨fl_RX2_57, fun C T N h => by cases h; rfl⟩
theorem fl_RX2_60 : FLk RX2 60 2 13 .int := ⟨RX2, TX2, 17, tyX2, rfl, rfl, by decide, inG2, tyX2_ok, nmX2, rfl, rfl, Or.inl (gw1 (i := 86) rfl rfl)⟩
theorem fw_RX2_60 : FLw RX2 60 2 13 .int := ⟨fl_RX2_60, fun C T N h => by cases h; rfl⟩
theorem fl_RX5_204 : FLk RX5 204 2 13 .int := ⟨RX2, TX2, 17, tyX2, rfl, rfl, by decide, inG2, tyX2_ok, nmX2, rfl, rfl, Or.inr ⟨"SlideFold", nw1 (i := 87) rfl rfl⟩⟩
theorem fw_RX5_204 : FLw RX5 204 2 13 .int := ⟨fl_RX5_204, fun C T N h => by cases h; rfl⟩
theorem fl_RX2_63 : FLk RX2 63 2 14 .int := ⟨RX2, TX2, 17, tyX2, rfl, rfl, by decide, inG2, tyX2_ok, nmX2, rfl, rfl, Or.inl (gw1 (i := 88) rfl rfl)⟩
theorem fw_RX2_63 : FLw RX2 63 2 14 .int := ⟨fl_RX2_63, fun C T N h => by cases h; rfl⟩
theorem fl_RX2_66 : FLk RX2 66 2 15 .int := ⟨RX2, TX2, 17, tyX2, rfl, rfl, by decide, inG2, tyX2_ok, nmX2, rfl, rfl, Or.inl (gw1 (i := 89) rfl rfl)⟩
theorem fw_RX2_66 : FLw RX2 66 2 15 .int := ⟨fl_RX2_66, fun C T N h => by cases h; rfl⟩
theorem fl_RX5_242 : FLk RX5 242 2 15 .int := ⟨RX2, TX2, 17, tyX2, rfl, rfl, by decide, inG2, tyX2_ok, nmX2, rfl, rfl, Or.inr ⟨"SlideFold", nw1 (i := 90) rfl rfl⟩⟩
theorem fw_RX5_242 : FLw RX5 242 2 15 .int := ⟨fl_RX5_242, fun C T N h => by cases h; rfl⟩
theorem fl_RX2_28 : FLk RX2 28 2 16 (.object "SlideFold$Flip") := ⟨RX2, TX2, 17, tyX2, rfl, rfl, by decide, inG2, tyX2_ok, nmX2, rfl, rfl, Or.inl (gw1 (i := 91) rfl rfl)⟩
theorem fl_RX5_189 : FLk RX5 189 2 16 (.object "SlideFold$Flip") := ⟨RX2, TX2, 17, tyX2, rfl, rfl, by decide, inG2, tyX2_ok, nmX2, rfl, rfl, Or.inr ⟨"SlideFold", nw1 (i := 92) rfl rfl⟩⟩
theorem il_RX5_26 : ILk RX5 26 38 := ⟨Or.inr ⟨"SlideFold", nw1 (i := 129) rfl rfl⟩, mk_38, gw1 (i := 130) rfl rfl, rfl, rfl⟩
theorem fl_RX3_9 : FLk RX3 9 3 0 .int := ⟨RX3, TX3, 4, tyX3, rfl, rfl, by decide, inG3, tyX3_ok, nmX3, rfl, rfl, Or.inl (gw1 (i := 133) rfl rfl)⟩
theorem fw_RX3_9 : FLw RX3 9 3 0 .int := ⟨fl_RX3_9, fun C T N h => by cases h; rfl⟩
theorem fl_RX5_215 : FLk RX5 215 3 0 .int := ⟨RX3, TX3, 4, tyX3, rfl, rfl, by decide, inG3, tyX3_ok, nmX3, rfl, rfl, Or.inr ⟨"SlideFold", nw1 (i := 134) rfl rfl⟩⟩
theorem fw_RX5_215 : FLw RX5 215 3 0 .int := ⟨fl_RX5_215, fun C T N h => by cases h; rfl⟩
theorem fl_RX3_15 : FLk RX3 15 3 1 .int := ⟨RX3, TX3, 4, tyX3, rfl, rfl, by decide, inG3, tyX3_ok, nmX3, rfl, rfl, Or.inl (gw1 (i := 135) rfl rfl)⟩
theorem fw_RX3_15 : FLw RX3 15 3 1 .int := ⟨fl_RX3_15, fun C T N h => by cases h; rfl⟩
theorem fl_RX5_218 : FLk RX5 218 3 1 .int := ⟨RX3, TX3, 4, tyX3, rfl, rfl, by decide, inG3, tyX3_ok, nmX3, rfl, rfl, Or.inr ⟨"SlideFold", nw1 (i := 136) rfl rfl⟩⟩
theorem fw_RX5_218 : FLw RX5 218 3 1 .int := ⟨fl_RX5_218, fun C T N h => by cases h; rfl⟩
theorem fl_RX3_18 : FLk RX3 18 3 2 .int := ⟨RX3, TX3, 4, tyX3, rfl, rfl, by decide, inG3, tyX3_ok, nmX3, rfl, rfl, Or.inl (gw1 (i := 137) rfl rfl)⟩
theorem fw_RX3_18 : FLw RX3 18 3 2 .int := ⟨fl_RX3_18, fun C T N h => by cases h; rfl⟩
theorem fl_RX5_224 : FLk RX5 224 3 2 .int := ⟨RX3, TX3, 4, tyX3, rfl, rfl, by decide, inG3, tyX3_ok, nmX3, rfl, rfl, Or.inr ⟨"SlideFold", nw1 (i := 138) rfl rfl⟩⟩
theorem fw_RX5_224 : FLw RX5 224 3 2 .int := ⟨fl_RX5_224, fun C T N h => by cases h; rfl⟩
theorem fl_RX3_21 : FLk RX3 21 3 3 .int := ⟨RX3, TX3, 4, tyX3, rfl, rfl, by decide, inG3, tyX3_ok, nmX3, rfl, rfl, Or.inl (gw1 (i := 139) rfl rfl)⟩
theorem fw_RX3_21 : FLw RX3 21 3 3 .int := ⟨fl_RX3_21, fun C T N h => by cases h; rfl⟩
theorem fl_RX5_231 : FLk RX5 231 3 3 .int := ⟨RX3, TX3, 4, tyX3, rfl, rfl, by decide, inG3, tyX3_ok, nmX3, rfl, rfl, Or.inr ⟨"SlideFold", nw1 (i := 140) rfl rfl⟩⟩
theorem fw_RX5_231 : FLw RX5 231 3 3 .int := ⟨fl_RX5_231, fun C T N h => by cases h; rfl⟩
theorem il_RX5_36 : ILk RX5 36 42 := ⟨Or.inr ⟨"SlideFold", nw1 (i := 153) rfl rfl⟩, mk_42, gw1 (i := 154) rfl rfl, rfl, rfl⟩
theorem fl_RX4_9 : FLk RX4 9 4 0 .int := ⟨RX4, TX4, 6, tyX4, rfl, rfl, by decide, inG4, tyX4_ok, nmX4, rfl, rfl, Or.inl (gw1 (i := 157) rfl rfl)⟩
theorem fw_RX4_9 : FLw RX4 9 4 0 .int := ⟨fl_RX4_9, fun C T N h => by cases h; rfl⟩
theorem fl_RX5_321 : FLk RX5 321 4 0 .int := ⟨RX4, TX4, 6, tyX4, rfl, rfl, by decide, inG4, tyX4_ok, nmX4, rfl, rfl, Or.inr ⟨"SlideFold", nw1 (i := 158) rfl rfl⟩⟩
theorem fw_RX5_321 : FLw RX5 321 4 0 .int := ⟨fl_RX5_321, fun C T N h => by cases h; rfl⟩
theorem fl_RX4_15 : FLk RX4 15 4 1 .int := ⟨RX4, TX4, 6, tyX4, rfl, rfl, by decide, inG4, tyX4_ok, nmX4, rfl, rfl, Or.inl (gw1 (i := 159) rfl rfl)⟩
theorem fw_RX4_15 : FLw RX4 15 4 1 .int := ⟨fl_RX4_15, fun C T N h => by cases h; rfl⟩
theorem fl_RX5_327 : FLk RX5 327 4 1 .int := ⟨RX4, TX4, 6, tyX4, rfl, rfl, by decide, inG4, tyX4_ok, nmX4, rfl, rfl, Or.inr ⟨"SlideFold", nw1 (i := 160) rfl rfl⟩⟩
theorem fw_RX5_327 : FLw RX5 327 4 1 .int := ⟨fl_RX5_327, fun C T N h => by cases h; rfl⟩
theorem fl_RX4_18 : FLk RX4 18 4 2 .int := ⟨RX4, TX4, 6, tyX4, rfl, rfl, by decide, inG4, tyX4_ok, nmX4, rfl, rfl, Or.inl (gw1 (i := 161) rfl rfl)⟩
theorem fw_RX4_18 : FLw RX4 18 4 2 .int := ⟨fl_RX4_18, fun C T N h => by cases h; rfl⟩
theorem fl_RX5_328 : FLk RX5 328 4 2 .int := ⟨RX4, TX4, 6, tyX4, rfl, rfl, by decide, inG4, tyX4_ok, nmX4, rfl, rfl, Or.inr ⟨"SlideFold", nw1 (i := 162) rfl rfl⟩⟩
theorem fw_RX5_328 : FLw RX5 328 4 2 .int := ⟨fl_RX5_328, fun C T N h => by cases h; rfl⟩
theorem fl_RX4_21 : FLk RX4 21 4 3 .boolean := ⟨RX4, TX4, 6, tyX4, rfl, rfl, by decide, inG4, tyX4_ok, nmX4, rfl, rfl, Or.inl (gw1 (i := 163) rfl rfl)⟩
theorem fw_RX4_21 : FLw RX4 21 4 3 .boolean := ⟨fl_RX4_21, fun C T N h => by cases h; rfl⟩
theorem fl_RX4_25 : FLk RX4 25 4 4 .int := ⟨RX4, TX4, 6, tyX4, rfl, rfl, by decide, inG4, tyX4_ok, nmX4, rfl, rfl, Or.inl (gw1 (i := 164) rfl rfl)⟩
theorem fw_RX4_25 : FLw RX4 25 4 4 .int := ⟨fl_RX4_25, fun C T N h => by cases h; rfl⟩
theorem fl_RX5_315 : FLk RX5 315 4 4 .int := ⟨RX4, TX4, 6, tyX4, rfl, rfl, by decide, inG4, tyX4_ok, nmX4, rfl, rfl, Or.inr ⟨"SlideFold", nw1 (i := 165) rfl rfl⟩⟩
theorem fw_RX5_315 : FLw RX5 315 4 4 .int := ⟨fl_RX5_315, fun C T N h => by cases h; rfl⟩
theorem fl_RX4_28 : FLk RX4 28 4 5 .int := ⟨RX4, TX4, 6, tyX4, rfl, rfl, by decide, inG4, tyX4_ok, nmX4, rfl, rfl, Or.inl (gw1 (i := 166) rfl rfl)⟩
theorem fw_RX4_28 : FLw RX4 28 4 5 .int := ⟨fl_RX4_28, fun C T N h => by cases h; rfl⟩
theorem fl_RX5_318 : FLk RX5 318 4 5 .int := ⟨RX4, TX4, 6, tyX4, rfl, rfl, by decide, inG4, tyX4_ok, nmX4, rfl, rfl, Or.inr ⟨"SlideFold", nw1 (i := 167) rfl rfl⟩⟩
theorem fw_RX5_318 : FLw RX5 318 4 5 .int := ⟨fl_RX5_318, fun C T N h => by cases h; rfl⟩
theorem il_RX5_39 : ILk RX5 39 8 := ⟨Or.inl (gw1 (i := 183) rfl rfl), mk_8, gw1 (i := 184) rfl rfl, rfl, rfl⟩
theorem tl_RX1_18 : TLk RX1 18 266 := ⟨Or.inl (gw1 (i := 187) rfl rfl), mk_266, gw1 (i := 188) rfl rfl⟩
theorem fl_RX1_9 : FLk RX1 9 1 0 (.array .int) := ⟨RX1, TX1, 8, tyX1, rfl, rfl, by decide, inG1, tyX1_ok, nmX1, rfl, rfl, Or.inl (gw1 (i := 190) rfl rfl)⟩
theorem fl_RX5_67 : FLk RX5 67 1 0 (.array .int) := ⟨RX1, TX1, 8, tyX1, rfl, rfl, by decide, inG1, tyX1_ok, nmX1, rfl, rfl, Or.inr ⟨"SlideFold", nw1 (i := 191) rfl rfl⟩⟩
theorem fl_RX1_15 : FLk RX1 15 1 1 (.array .int) := ⟨RX1, TX1, 8, tyX1, rfl, rfl, by decide, inG1, tyX1_ok, nmX1, rfl, rfl, Or.inl (gw1 (i := 192) rfl rfl)⟩
theorem fl_RX5_71 : FLk RX5 71 1 1 (.array .int) := ⟨RX1, TX1, 8, tyX1, rfl, rfl, by decide, inG1, tyX1_ok, nmX1, rfl, rfl, Or.inr ⟨"SlideFold", nw1 (i := 193) rfl rfl⟩⟩
theorem fl_RX1_24 : FLk RX1 24 1 2 (.array .int) := ⟨RX1, TX1, 8, tyX1, rfl, rfl, by decide, inG1, tyX1_ok, nmX1, rfl, rfl, Or.inl (gw1 (i := 194) rfl rfl)⟩
theorem fl_RX1_27 : FLk RX1 27 1 3 (.array .int) := ⟨RX1, TX1, 8, tyX1, rfl, rfl, by decide, inG1, tyX1_ok, nmX1, rfl, rfl, Or.inl (gw1 (i := 195) rfl rfl)⟩
theorem fl_RX1_54 : FLk RX1 54 1 4 .int := ⟨RX1, TX1, 8, tyX1, rfl, rfl, by decide, inG1, tyX1_ok, nmX1, rfl, rfl, Or.inl (gw1 (i := 196) rfl rfl)⟩
theorem fw_RX1_54 : FLw RX1 54 1 4 .int := ⟨fl_RX1_54, fun C T N h => by cases h; rfl⟩
theorem fl_RX1_30 : FLk RX1 30 1 5 .int := ⟨RX1, TX1, 8, tyX1, rfl, rfl, by decide, inG1, tyX1_ok, nmX1, rfl, rfl, Or.inl (gw1 (i := 197) rfl rfl)⟩
theorem fw_RX1_30 : FLw RX1 30 1 5 .int := ⟨fl_RX1_30, fun C T N h => by cases h; rfl⟩
theorem fl_RX1_34 : FLk RX1 34 1 6 .int := ⟨RX1, TX1, 8, tyX1, rfl, rfl, by decide, inG1, tyX1_ok, nmX1, rfl, rfl, Or.inl (gw1 (i := 198) rfl rfl)⟩
theorem fw_RX1_34 : FLw RX1 34 1 6 .int := ⟨fl_RX1_34, fun C T N h => by cases h; rfl⟩
theorem fl_RX1_37 : FLk RX1 37 1 7 .int := ⟨RX1, TX1, 8, tyX1, rfl, rfl, by decide, inG1, tyX1_ok, nmX1, rfl, rfl, Or.inl (gw1 (i := 199) rfl rfl)⟩
theorem fw_RX1_37 : FLw RX1 37 1 7 .int := ⟨fl_RX1_37, fun C T N h => by cases h; rfl⟩
theorem il_RX5_46 : ILk RX5 46 0 := ⟨Or.inr ⟨"SlideFold", nw1 (i := 218) rfl rfl⟩, mk_0, gw1 (i := 32) rfl rfl, rfl, rfl⟩
theorem fl_RX5_13 : FLk RX5 13 5 0 (.array (.object "SlideFold$Lane")) := ⟨RX5, TX5, 8, tyX5, rfl, rfl, by decide, inG5, tyX5_ok, nmX5, rfl, rfl, Or.inl (gw1 (i := 221) rfl rfl)⟩
theorem fl_RX5_27 : FLk RX5 27 5 1 (.array (.object "SlideFold$Lane")) := ⟨RX5, TX5, 8, tyX5, rfl, rfl, by decide, inG5, tyX5_ok, nmX5, rfl, rfl, Or.inl (gw1 (i := 222) rfl rfl)⟩
theorem fl_RX5_32 : FLk RX5 32 5 2 (.array (.object "SlideFold$Watch")) := ⟨RX5, TX5, 8, tyX5, rfl, rfl, by decide, inG5, tyX5_ok, nmX5, rfl, rfl, Or.inl (gw1 (i := 223) rfl rfl)⟩
theorem fl_RX5_19 : FLk RX5 19 5 3 (.array (.object "SlideFold$Link")) := ⟨RX5, TX5, 8, tyX5, rfl, rfl, by decide, inG5, tyX5_ok, nmX5, rfl, rfl, Or.inl (gw1 (i := 224) rfl rfl)⟩
theorem fl_RX5_40 : FLk RX5 40 5 4 (.object "SlideFold$Fold") := ⟨RX5, TX5, 8, tyX5, rfl, rfl, by decide, inG5, tyX5_ok, nmX5, rfl, rfl, Or.inl (gw1 (i := 225) rfl rfl)⟩
theorem fl_RX5_47 : FLk RX5 47 5 5 (.object "SlideFold$Flip") := ⟨RX5, TX5, 8, tyX5, rfl, rfl, by decide, inG5, tyX5_ok, nmX5, rfl, rfl, Or.inl (gw1 (i := 226) rfl rfl)⟩
theorem fl_RX5_53 : FLk RX5 53 5 6 (.array (.array .int)) := ⟨RX5, TX5, 8, tyX5, rfl, rfl, by decide, inG5, tyX5_ok, nmX5, rfl, rfl, Or.inl (gw1 (i := 227) rfl rfl)⟩
theorem fl_RX5_56 : FLk RX5 56 5 7 (.array (.array .int)) := ⟨RX5, TX5, 8, tyX5, rfl, rfl, by decide, inG5, tyX5_ok, nmX5, rfl, rfl, Or.inl (gw1 (i := 228) rfl rfl)⟩
theorem vl_RL_13 : VLk RL 13 47 := ⟨Or.inl (gw2 (i := 6) rfl rfl), mk_47, gw2 (i := 7) rfl rfl, gw2 (i := 8) rfl rfl⟩
theorem tl_RX5_59 : TLk RX5 59 124 := ⟨Or.inl (gw2 (i := 10) rfl rfl), mk_124, gw2 (i := 11) rfl rfl⟩
theorem vl_RX5_63 : VLk RX5 63 57 := ⟨Or.inl (gw2 (i := 13) rfl rfl), mk_57, gw2 (i := 15) rfl rfl, List.mem_filter.mpr ⟨List.mem_append_left _ (List.mem_of_getElem? (i := 0) rfl), rfl⟩⟩
theorem vl_RL_18 : VLk RL 18 48 := ⟨Or.inl (gw2 (i := 17) rfl rfl), mk_48, gw2 (i := 18) rfl rfl, gw2 (i := 19) rfl rfl⟩
theorem vl_RL_22 : VLk RL 22 49 := ⟨Or.inl (gw2 (i := 21) rfl rfl), mk_49, gw2 (i := 22) rfl rfl, gw2 (i := 23) rfl rfl⟩
theorem vl_RX5_74 : VLk RX5 74 52 := ⟨Or.inl (gw2 (i := 25) rfl rfl), mk_52, gw2 (i := 27) rfl rfl, List.mem_filter.mpr ⟨List.mem_append_left _ (List.mem_of_getElem? (i := 1) rfl), rfl⟩⟩
theorem vl_RX5_90 : VLk RX5 90 51 := ⟨Or.inl (gw2 (i := 29) rfl rfl), mk_51, gw2 (i := 31) rfl rfl, List.mem_filter.mpr ⟨List.mem_append_left _ (List.mem_of_getElem? (i := 2) rfl), rfl⟩⟩
theorem vl_RL_27 : VLk RL 27 50 := ⟨Or.inl (gw2 (i := 33) rfl rfl), mk_50, gw2 (i := 34) rfl rfl, gw2 (i := 35) rfl rfl⟩
theorem vl_RX5_77 : VLk RX5 77 53 := ⟨Or.inl (gw2 (i := 37) rfl rfl), mk_53, gw2 (i := 39) rfl rfl, List.mem_filter.mpr ⟨List.mem_append_left _ (List.mem_of_getElem? (i := 3) rfl), rfl⟩⟩
theorem vl_RX5_81 : VLk RX5 81 54 := ⟨Or.inl (gw2 (i := 41) rfl rfl), mk_54, gw2 (i := 43) rfl rfl, List.mem_filter.mpr ⟨List.mem_append_left _ (List.mem_of_getElem? (i := 4) rfl), rfl⟩⟩
theorem vl_RX5_84 : VLk RX5 84 55 := ⟨Or.inl (gw2 (i := 45) rfl rfl), mk_55, gw2 (i := 47) rfl rfl, List.mem_filter.mpr ⟨List.mem_append_left _ (List.mem_of_getElem? (i := 5) rfl), rfl⟩⟩
theorem vl_RX5_87 : VLk RX5 87 56 := ⟨Or.inl (gw2 (i := 49) rfl rfl), mk_56, gw2 (i := 51) rfl rfl, List.mem_filter.mpr ⟨List.mem_append_left _ (List.mem_of_getElem? (i := 6) rfl), rfl⟩⟩
theorem vl_RL_31 : VLk RL 31 58 := ⟨Or.inl (gw2 (i := 53) rfl rfl), mk_58, gw2 (i := 54) rfl rfl, gw2 (i := 55) rfl rfl⟩
theorem tl_RX5_102 : TLk RX5 102 125 := ⟨Or.inl (gw2 (i := 57) rfl rfl), mk_125, gw2 (i := 58) rfl rfl⟩
theorem tl_RX5_105 : TLk RX5 105 59 := ⟨Or.inl (gw2 (i := 60) rfl rfl), mk_59, gw2 (i := 61) rfl rfl⟩
theorem vl_RX5_109 : VLk RX5 109 49 := ⟨Or.inl (gw2 (i := 63) rfl rfl), mk_49, gw2 (i := 22) rfl rfl, gw2 (i := 23) rfl rfl⟩
theorem vl_RX5_113 : VLk RX5 113 26 := ⟨Or.inl (gw2 (i := 64) rfl rfl), mk_26, gw2 (i := 65) rfl rfl, gw2 (i := 66) rfl rfl⟩
theorem vl_RX2_69 : VLk RX2 69 1 := ⟨Or.inl (gw2 (i := 68) rfl rfl), mk_1, gw2 (i := 69) rfl rfl, gw2 (i := 70) rfl rfl⟩
theorem vl_RX5_117 : VLk RX5 117 108 := ⟨Or.inl (gw2 (i := 72) rfl rfl), mk_108, gw2 (i := 74) rfl rfl, List.mem_filter.mpr ⟨List.mem_append_left _ (List.mem_of_getElem? (i := 7) rfl), rfl⟩⟩
theorem vl_RX5_344 : VLk RX5 344 45 := ⟨Or.inl (gw2 (i := 76) rfl rfl), mk_45, gw2 (i := 77) rfl rfl, gw2 (i := 78) rfl rfl⟩
theorem vl_RX5_340 : VLk RX5 340 40 := ⟨Or.inl (gw2 (i := 80) rfl rfl), mk_40, gw2 (i := 81) rfl rfl, gw2 (i := 82) rfl rfl⟩
theorem vl_RX5_120 : VLk RX5 120 117 := ⟨Or.inl (gw2 (i := 84) rfl rfl), mk_117, gw2 (i := 86) rfl rfl, List.mem_filter.mpr ⟨List.mem_append_left _ (List.mem_of_getElem? (i := 8) rfl), rfl⟩⟩
theorem vl_RL_36 : VLk RL 36 60 := ⟨Or.inl (gw2 (i := 88) rfl rfl), mk_60, gw2 (i := 89) rfl rfl, gw2 (i := 90) rfl rfl⟩
theorem vl_RX5_123 : VLk RX5 123 129 := ⟨Or.inl (gw2 (i := 92) rfl rfl), mk_129, gw2 (i := 94) rfl rfl, List.mem_filter.mpr ⟨List.mem_append_left _ (List.mem_of_getElem? (i := 9) rfl), rfl⟩⟩
theorem vl_RL_41 : VLk RL 41 61 := ⟨Or.inl (gw2 (i := 96) rfl rfl), mk_61, gw2 (i := 97) rfl rfl, gw2 (i := 98) rfl rfl⟩
theorem tl_RX5_127 : TLk RX5 127 126 := ⟨Or.inl (gw2 (i := 100) rfl rfl), mk_126, gw2 (i := 101) rfl rfl⟩
theorem co_RX5_284 : Cond.constant RX5 284 (i3 (100000)) ∈ gT := gw2 (i := 103) rfl rfl
theorem tl_RX5_130 : TLk RX5 130 127 := ⟨Or.inl (gw2 (i := 104) rfl rfl), mk_127, gw2 (i := 105) rfl rfl⟩
theorem vl_RX5_133 : VLk RX5 133 30 := ⟨Or.inl (gw2 (i := 107) rfl rfl), mk_30, gw2 (i := 108) rfl rfl, gw2 (i := 109) rfl rfl⟩
theorem vl_RX5_139 : VLk RX5 139 29 := ⟨Or.inl (gw2 (i := 111) rfl rfl), mk_29, gw2 (i := 112) rfl rfl, gw2 (i := 113) rfl rfl⟩
theorem vl_RX5_143 : VLk RX5 143 70 := ⟨Or.inl (gw2 (i := 115) rfl rfl), mk_70, gw2 (i := 117) rfl rfl, List.mem_filter.mpr ⟨List.mem_append_left _ (List.mem_of_getElem? (i := 10) rfl), rfl⟩⟩
theorem vl_RX5_221 : VLk RX5 221 32 := ⟨Or.inl (gw2 (i := 119) rfl rfl), mk_32, gw2 (i := 120) rfl rfl, gw2 (i := 121) rfl rfl⟩
theorem vl_RX5_227 : VLk RX5 227 132 := ⟨Or.inl (gw2 (i := 123) rfl rfl), mk_132, gw2 (i := 125) rfl rfl, List.mem_filter.mpr ⟨List.mem_append_left _ (List.mem_of_getElem? (i := 11) rfl), rfl⟩⟩
theorem vl_RX5_259 : VLk RX5 259 134 := ⟨Or.inl (gw2 (i := 127) rfl rfl), mk_134, gw2 (i := 129) rfl rfl, List.mem_filter.mpr ⟨List.mem_append_left _ (List.mem_of_getElem? (i := 12) rfl), rfl⟩⟩
theorem vl_RX5_251 : VLk RX5 251 9 := ⟨Or.inl (gw2 (i := 131) rfl rfl), mk_9, gw2 (i := 132) rfl rfl, gw2 (i := 133) rfl rfl⟩
theorem co_RX1_40 : Cond.constant RX1 40 (i3 (-2147483648)) ∈ gT := gw2 (i := 135) rfl rfl
theorem vl_RX5_253 : VLk RX5 253 14 := ⟨Or.inl (gw2 (i := 136) rfl rfl), mk_14, gw2 (i := 137) rfl rfl, gw2 (i := 138) rfl rfl⟩
theorem vl_RX1_57 : VLk RX1 57 15 := ⟨Or.inl (gw2 (i := 140) rfl rfl), mk_15, gw2 (i := 142) rfl rfl, List.mem_filter.mpr ⟨List.mem_append_left _ (List.mem_of_getElem? (i := 13) rfl), rfl⟩⟩
theorem vl_RX1_61 : VLk RX1 61 16 := ⟨Or.inl (gw2 (i := 144) rfl rfl), mk_16, gw2 (i := 146) rfl rfl, List.mem_filter.mpr ⟨List.mem_append_left _ (List.mem_of_getElem? (i := 14) rfl), rfl⟩⟩
theorem tl_RX1_88 : TLk RX1 88 263 := ⟨Or.inl (gw2 (i := 148) rfl rfl), mk_263, gw2 (i := 149) rfl rfl⟩
theorem vl_RX1_64 : VLk RX1 64 17 := ⟨Or.inl (gw2 (i := 151) rfl rfl), mk_17, gw2 (i := 153) rfl rfl, List.mem_filter.mpr ⟨List.mem_append_left _ (List.mem_of_getElem? (i := 15) rfl), rfl⟩⟩
theorem tl_RX1_93 : TLk RX1 93 262 := ⟨Or.inl (gw2 (i := 155) rfl rfl), mk_262, gw2 (i := 156) rfl rfl⟩
theorem vl_RX1_67 : VLk RX1 67 18 := ⟨Or.inl (gw2 (i := 158) rfl rfl), mk_18, gw2 (i := 160) rfl rfl, List.mem_filter.mpr ⟨List.mem_append_left _ (List.mem_of_getElem? (i := 16) rfl), rfl⟩⟩
theorem tl_RX1_97 : TLk RX1 97 264 := ⟨Or.inl (gw2 (i := 162) rfl rfl), mk_264, gw2 (i := 163) rfl rfl⟩
theorem vl_RX1_70 : VLk RX1 70 19 := ⟨Or.inl (gw2 (i := 165) rfl rfl), mk_19, gw2 (i := 167) rfl rfl, List.mem_filter.mpr ⟨List.mem_append_left _ (List.mem_of_getElem? (i := 17) rfl), rfl⟩⟩
theorem tl_RX1_100 : TLk RX1 100 261 := ⟨Or.inl (gw2 (i := 169) rfl rfl), mk_261, gw2 (i := 170) rfl rfl⟩
theorem co_RJ6_265 : Cond.constant RJ6 265 (i3 (1431655765)) ∈ gT := gw2 (i := 172) rfl rfl
theorem co_RJ6_266 : Cond.constant RJ6 266 (i3 (858993459)) ∈ gT := gw2 (i := 173) rfl rfl
theorem co_RJ6_267 : Cond.constant RJ6 267 (i3 (252645135)) ∈ gT := gw2 (i := 174) rfl rfl
theorem vl_RX1_73 : VLk RX1 73 20 := ⟨Or.inl (gw2 (i := 175) rfl rfl), mk_20, gw2 (i := 177) rfl rfl, List.mem_filter.mpr ⟨List.mem_append_left _ (List.mem_of_getElem? (i := 18) rfl), rfl⟩⟩
theorem vl_RX1_76 : VLk RX1 76 21 := ⟨Or.inl (gw2 (i := 179) rfl rfl), mk_21, gw2 (i := 181) rfl rfl, List.mem_filter.mpr ⟨List.mem_append_left _ (List.mem_of_getElem? (i := 19) rfl), rfl⟩⟩
theorem vl_RX1_79 : VLk RX1 79 22 := ⟨Or.inl (gw2 (i := 183) rfl rfl), mk_22, gw2 (i := 185) rfl rfl, List.mem_filter.mpr ⟨List.mem_append_left _ (List.mem_of_getElem? (i := 20) rfl), rfl⟩⟩
theorem vl_RX1_82 : VLk RX1 82 23 := ⟨Or.inl (gw2 (i := 187) rfl rfl), mk_23, gw2 (i := 189) rfl rfl, List.mem_filter.mpr ⟨List.mem_append_left _ (List.mem_of_getElem? (i := 21) rfl), rfl⟩⟩
theorem vl_RX1_85 : VLk RX1 85 24 := ⟨Or.inl (gw2 (i := 191) rfl rfl), mk_24, gw2 (i := 193) rfl rfl, List.mem_filter.mpr ⟨List.mem_append_left _ (List.mem_of_getElem? (i := 22) rfl), rfl⟩⟩
theorem vl_RX5_273 : VLk RX5 273 10 := ⟨Or.inl (gw2 (i := 195) rfl rfl), mk_10, gw2 (i := 196) rfl rfl, gw2 (i := 197) rfl rfl⟩
theorem sl_RX1_41 : SLk RX1 41 := Or.inr ⟨_, nw2 (i := 199) (w := Cond.fieldLinkNest RX1 41 RX5 "NUMBERS" "[I" "SlideFold") rfl rfl⟩
theorem co_RX5_175 : Cond.constant RX5 175 (i3 (-2147483648)) ∈ gT := gw2 (i := 201) rfl rfl
theorem tl_RX5_234 : TLk RX5 234 265 := ⟨Or.inl (gw2 (i := 202) rfl rfl), mk_265, gw2 (i := 203) rfl rfl⟩
theorem tl_RX5_239 : TLk RX5 239 264 := ⟨Or.inl (gw2 (i := 205) rfl rfl), mk_264, gw2 (i := 163) rfl rfl⟩
theorem vl_RX5_147 : VLk RX5 147 67 := ⟨Or.inl (gw2 (i := 206) rfl rfl), mk_67, gw2 (i := 208) rfl rfl, List.mem_filter.mpr ⟨List.mem_append_left _ (List.mem_of_getElem? (i := 23) rfl), rfl⟩⟩
theorem vl_RX5_167 : VLk RX5 167 31 := ⟨Or.inl (gw2 (i := 210) rfl rfl), mk_31, gw2 (i := 211) rfl rfl, gw2 (i := 212) rfl rfl⟩
theorem vl_RX5_185 : VLk RX5 185 34 := ⟨Or.inl (gw2 (i := 214) rfl rfl), mk_34, gw2 (i := 215) rfl rfl, gw2 (i := 216) rfl rfl⟩
theorem vl_RX2_89 : VLk RX2 89 36 := ⟨Or.inl (gw2 (i := 218) rfl rfl), mk_36, gw2 (i := 220) rfl rfl, List.mem_filter.mpr ⟨List.mem_append_left _ (List.mem_of_getElem? (i := 24) rfl), rfl⟩⟩
theorem ac_RX2_72 : Cond.methodLink RX2 72 arraycopyName ∈ gT ∧ Cond.native arraycopyName ∈ gT ∧ Cond.static arraycopyName ∈ gT ∧ Cond.initialized "java/lang/System" ∈ gT := ⟨gw2 (i := 222) rfl rfl, gw2 (i := 224) rfl rfl, gw2 (i := 223) rfl rfl, gw1 (i := 11) rfl rfl⟩
theorem tl_RX2_93 : TLk RX2 93 264 := ⟨Or.inl (gw2 (i := 225) rfl rfl), mk_264, gw2 (i := 163) rfl rfl⟩
theorem vl_RX5_192 : VLk RX5 192 3 := ⟨Or.inl (gw2 (i := 226) rfl rfl), mk_3, gw2 (i := 227) rfl rfl, gw2 (i := 228) rfl rfl⟩
theorem vl_RX0_33 : VLk RX0 33 6 := ⟨Or.inl (gw2 (i := 230) rfl rfl), mk_6, gw2 (i := 232) rfl rfl, List.mem_filter.mpr ⟨List.mem_append_left _ (List.mem_of_getElem? (i := 25) rfl), rfl⟩⟩
theorem tl_RX0_43 : TLk RX0 43 265 := ⟨Or.inl (gw2 (i := 234) rfl rfl), mk_265, gw2 (i := 203) rfl rfl⟩
theorem tl_RX0_37 : TLk RX0 37 264 := ⟨Or.inl (gw2 (i := 235) rfl rfl), mk_264, gw2 (i := 163) rfl rfl⟩
theorem vl_RX5_195 : VLk RX5 195 102 := ⟨Or.inl (gw2 (i := 236) rfl rfl), mk_102, gw2 (i := 238) rfl rfl, List.mem_filter.mpr ⟨List.mem_append_left _ (List.mem_of_getElem? (i := 26) rfl), rfl⟩⟩
theorem vl_RX5_324 : VLk RX5 324 103 := ⟨Or.inl (gw3 (i := 0) rfl rfl), mk_103, gw3 (i := 2) rfl rfl, List.mem_filter.mpr ⟨List.mem_append_left _ (List.mem_of_getElem? (i := 27) rfl), rfl⟩⟩
theorem vl_RX5_256 : VLk RX5 256 11 := ⟨Or.inl (gw3 (i := 4) rfl rfl), mk_11, gw3 (i := 5) rfl rfl, gw3 (i := 6) rfl rfl⟩
theorem vl_RX1_44 : VLk RX1 44 10 := ⟨Or.inl (gw3 (i := 8) rfl rfl), mk_10, gw2 (i := 196) rfl rfl, gw2 (i := 197) rfl rfl⟩
theorem vl_RX5_331 : VLk RX5 331 44 := ⟨Or.inl (gw3 (i := 9) rfl rfl), mk_44, gw3 (i := 10) rfl rfl, gw3 (i := 11) rfl rfl⟩
theorem vl_RX5_182 : VLk RX5 182 69 := ⟨Or.inl (gw3 (i := 13) rfl rfl), mk_69, gw3 (i := 15) rfl rfl, List.mem_filter.mpr ⟨List.mem_append_left _ (List.mem_of_getElem? (i := 28) rfl), rfl⟩⟩
theorem vl_RX5_210 : VLk RX5 210 5 := ⟨Or.inl (gw3 (i := 17) rfl rfl), mk_5, gw3 (i := 18) rfl rfl, gw3 (i := 19) rfl rfl⟩
theorem vl_RX5_201 : VLk RX5 201 33 := ⟨Or.inl (gw3 (i := 21) rfl rfl), mk_33, gw3 (i := 22) rfl rfl, gw3 (i := 23) rfl rfl⟩
theorem vl_RX5_163 : VLk RX5 163 68 := ⟨Or.inl (gw3 (i := 25) rfl rfl), mk_68, gw3 (i := 27) rfl rfl, List.mem_filter.mpr ⟨List.mem_append_left _ (List.mem_of_getElem? (i := 29) rfl), rfl⟩⟩
theorem vl_RX5_179 : VLk RX5 179 35 := ⟨Or.inl (gw3 (i := 29) rfl rfl), mk_35, gw3 (i := 30) rfl rfl, gw3 (i := 31) rfl rfl⟩
theorem vl_RX5_207 : VLk RX5 207 4 := ⟨Or.inl (gw3 (i := 33) rfl rfl), mk_4, gw3 (i := 34) rfl rfl, gw3 (i := 35) rfl rfl⟩

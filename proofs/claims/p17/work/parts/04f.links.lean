theorem il_RL_9 : ILk RL 9 46 := ⟨Or.inl (gw1 (i := 14) rfl (gk_methodLink _ _ _)), mk_46, gw1 (i := 15) rfl (gk_instanceMethod _), rfl, rfl⟩
theorem il_RX5_23 : ILk RX5 23 25 := ⟨Or.inl (gw1 (i := 25) rfl (gk_methodLink _ _ _)), mk_25, gw1 (i := 26) rfl (gk_instanceMethod _), rfl, rfl⟩
theorem il_RX2_27 : ILk RX2 27 0 := ⟨Or.inr ⟨"SlideFold", nw1 (i := 31) rfl rfl⟩, mk_0, gw1 (i := 32) rfl (gk_instanceMethod _), rfl, rfl⟩
theorem fl_RX0_9 : FLk RX0 9 0 0 .int := ⟨RX0, TX0, 7, tyX0, rfl, rfl, by decide, inG0, tyX0_ok, nmX0, rfl, rfl, Or.inl (gw1 (i := 35) rfl (gk_fieldLink _ _ _ _ _))⟩
theorem fw_RX0_9 : FLw RX0 9 0 0 .int := ⟨fl_RX0_9, fun C T N h => by cases h; rfl⟩
theorem fl_RX5_294 : FLk RX5 294 0 0 .int := ⟨RX0, TX0, 7, tyX0, rfl, rfl, by decide, inG0, tyX0_ok, nmX0, rfl, rfl, Or.inr ⟨"SlideFold", nw1 (i := 36) rfl rfl⟩⟩
theorem fw_RX5_294 : FLw RX5 294 0 0 .int := ⟨fl_RX5_294, fun C T N h => by cases h; rfl⟩
theorem fl_RX0_15 : FLk RX0 15 0 1 .int := ⟨RX0, TX0, 7, tyX0, rfl, rfl, by decide, inG0, tyX0_ok, nmX0, rfl, rfl, Or.inl (gw1 (i := 37) rfl (gk_fieldLink _ _ _ _ _))⟩
theorem fw_RX0_15 : FLw RX0 15 0 1 .int := ⟨fl_RX0_15, fun C T N h => by cases h; rfl⟩
theorem fl_RX0_18 : FLk RX0 18 0 2 .int := ⟨RX0, TX0, 7, tyX0, rfl, rfl, by decide, inG0, tyX0_ok, nmX0, rfl, rfl, Or.inl (gw1 (i := 38) rfl (gk_fieldLink _ _ _ _ _))⟩
theorem fw_RX0_18 : FLw RX0 18 0 2 .int := ⟨fl_RX0_18, fun C T N h => by cases h; rfl⟩
theorem fl_RX5_297 : FLk RX5 297 0 2 .int := ⟨RX0, TX0, 7, tyX0, rfl, rfl, by decide, inG0, tyX0_ok, nmX0, rfl, rfl, Or.inr ⟨"SlideFold", nw1 (i := 39) rfl rfl⟩⟩
theorem fw_RX5_297 : FLw RX5 297 0 2 .int := ⟨fl_RX5_297, fun C T N h => by cases h; rfl⟩
theorem fl_RX0_21 : FLk RX0 21 0 3 .int := ⟨RX0, TX0, 7, tyX0, rfl, rfl, by decide, inG0, tyX0_ok, nmX0, rfl, rfl, Or.inl (gw1 (i := 40) rfl (gk_fieldLink _ _ _ _ _))⟩
theorem fw_RX0_21 : FLw RX0 21 0 3 .int := ⟨fl_RX0_21, fun C T N h => by cases h; rfl⟩
theorem fl_RX5_291 : FLk RX5 291 0 3 .int := ⟨RX0, TX0, 7, tyX0, rfl, rfl, by decide, inG0, tyX0_ok, nmX0, rfl, rfl, Or.inr ⟨"SlideFold", nw1 (i := 41) rfl rfl⟩⟩
theorem fw_RX5_291 : FLw RX5 291 0 3 .int := ⟨fl_RX5_291, fun C T N h => by cases h; rfl⟩
theorem fl_RX0_24 : FLk RX0 24 0 4 .int := ⟨RX0, TX0, 7, tyX0, rfl, rfl, by decide, inG0, tyX0_ok, nmX0, rfl, rfl, Or.inl (gw1 (i := 42) rfl (gk_fieldLink _ _ _ _ _))⟩
theorem fw_RX0_24 : FLw RX0 24 0 4 .int := ⟨fl_RX0_24, fun C T N h => by cases h; rfl⟩
theorem fl_RX0_27 : FLk RX0 27 0 5 .int := ⟨RX0, TX0, 7, tyX0, rfl, rfl, by decide, inG0, tyX0_ok, nmX0, rfl, rfl, Or.inl (gw1 (i := 43) rfl (gk_fieldLink _ _ _ _ _))⟩
theorem fw_RX0_27 : FLw RX0 27 0 5 .int := ⟨fl_RX0_27, fun C T N h => by cases h; rfl⟩
theorem fl_RX5_304 : FLk RX5 304 0 5 .int := ⟨RX0, TX0, 7, tyX0, rfl, rfl, by decide, inG0, tyX0_ok, nmX0, rfl, rfl, Or.inr ⟨"SlideFold", nw1 (i := 44) rfl rfl⟩⟩
theorem fw_RX5_304 : FLw RX5 304 0 5 .int := ⟨fl_RX5_304, fun C T N h => by cases h; rfl⟩
theorem fl_RX0_30 : FLk RX0 30 0 6 .int := ⟨RX0, TX0, 7, tyX0, rfl, rfl, by decide, inG0, tyX0_ok, nmX0, rfl, rfl, Or.inl (gw1 (i := 45) rfl (gk_fieldLink _ _ _ _ _))⟩
theorem fw_RX0_30 : FLw RX0 30 0 6 .int := ⟨fl_RX0_30, fun C T N h => by cases h; rfl⟩
theorem fl_RX5_307 : FLk RX5 307 0 6 .int := ⟨RX0, TX0, 7, tyX0, rfl, rfl, by decide, inG0, tyX0_ok, nmX0, rfl, rfl, Or.inr ⟨"SlideFold", nw1 (i := 46) rfl rfl⟩⟩
theorem fw_RX5_307 : FLw RX5 307 0 6 .int := ⟨fl_RX5_307, fun C T N h => by cases h; rfl⟩
theorem fl_RX2_9 : FLk RX2 9 2 0 .int := ⟨RX2, TX2, 17, tyX2, rfl, rfl, by decide, inG2, tyX2_ok, nmX2, rfl, rfl, Or.inl (gw1 (i := 63) rfl (gk_fieldLink _ _ _ _ _))⟩
theorem fw_RX2_9 : FLw RX2 9 2 0 .int := ⟨fl_RX2_9, fun C T N h => by cases h; rfl⟩
theorem fl_RX5_212 : FLk RX5 212 2 0 .int := ⟨RX2, TX2, 17, tyX2, rfl, rfl, by decide, inG2, tyX2_ok, nmX2, rfl, rfl, Or.inr ⟨"SlideFold", nw1 (i := 64) rfl rfl⟩⟩
theorem fw_RX5_212 : FLw RX5 212 2 0 .int := ⟨fl_RX5_212, fun C T N h => by cases h; rfl⟩
theorem fl_RX2_32 : FLk RX2 32 2 1 .boolean := ⟨RX2, TX2, 17, tyX2, rfl, rfl, by decide, inG2, tyX2_ok, nmX2, rfl, rfl, Or.inl (gw1 (i := 65) rfl (gk_fieldLink _ _ _ _ _))⟩
theorem fw_RX2_32 : FLw RX2 32 2 1 .boolean := ⟨fl_RX2_32, fun C T N h => by cases h; rfl⟩
theorem fl_RX5_94 : FLk RX5 94 2 1 .boolean := ⟨RX2, TX2, 17, tyX2, rfl, rfl, by decide, inG2, tyX2_ok, nmX2, rfl, rfl, Or.inr ⟨"SlideFold", nw1 (i := 66) rfl rfl⟩⟩
theorem fw_RX5_94 : FLw RX5 94 2 1 .boolean := ⟨fl_RX5_94, fun C T N h => by cases h; rfl⟩
theorem fl_RX2_36 : FLk RX2 36 2 2 .int := ⟨RX2, TX2, 17, tyX2, rfl, rfl, by decide, inG2, tyX2_ok, nmX2, rfl, rfl, Or.inl (gw1 (i := 67) rfl (gk_fieldLink _ _ _ _ _))⟩
theorem fw_RX2_36 : FLw RX2 36 2 2 .int := ⟨fl_RX2_36, fun C T N h => by cases h; rfl⟩
theorem fl_RX5_98 : FLk RX5 98 2 2 .int := ⟨RX2, TX2, 17, tyX2, rfl, rfl, by decide, inG2, tyX2_ok, nmX2, rfl, rfl, Or.inr ⟨"SlideFold", nw1 (i := 68) rfl rfl⟩⟩
theorem fw_RX5_98 : FLw RX5 98 2 2 .int := ⟨fl_RX5_98, fun C T N h => by cases h; rfl⟩
theorem fl_RX2_39 : FLk RX2 39 2 3 .int := ⟨RX2, TX2, 17, tyX2, rfl, rfl, by decide, inG2, tyX2_ok, nmX2, rfl, rfl, Or.inl (gw1 (i := 69) rfl (gk_fieldLink _ _ _ _ _))⟩
theorem fw_RX2_39 : FLw RX2 39 2 3 .int := ⟨fl_RX2_39, fun C T N h => by cases h; rfl⟩
theorem fl_RX5_160 : FLk RX5 160 2 3 .int := ⟨RX2, TX2, 17, tyX2, rfl, rfl, by decide, inG2, tyX2_ok, nmX2, rfl, rfl, Or.inr ⟨"SlideFold", nw1 (i := 70) rfl rfl⟩⟩
theorem fw_RX5_160 : FLw RX5 160 2 3 .int := ⟨fl_RX5_160, fun C T N h => by cases h; rfl⟩
theorem fl_RX2_42 : FLk RX2 42 2 4 .int := ⟨RX2, TX2, 17, tyX2, rfl, rfl, by decide, inG2, tyX2_ok, nmX2, rfl, rfl, Or.inl (gw1 (i := 71) rfl (gk_fieldLink _ _ _ _ _))⟩
theorem fw_RX2_42 : FLw RX2 42 2 4 .int := ⟨fl_RX2_42, fun C T N h => by cases h; rfl⟩
theorem fl_RX2_45 : FLk RX2 45 2 5 .int := ⟨RX2, TX2, 17, tyX2, rfl, rfl, by decide, inG2, tyX2_ok, nmX2, rfl, rfl, Or.inl (gw1 (i := 72) rfl (gk_fieldLink _ _ _ _ _))⟩
theorem fw_RX2_45 : FLw RX2 45 2 5 .int := ⟨fl_RX2_45, fun C T N h => by cases h; rfl⟩
theorem fl_RX2_48 : FLk RX2 48 2 6 .int := ⟨RX2, TX2, 17, tyX2, rfl, rfl, by decide, inG2, tyX2_ok, nmX2, rfl, rfl, Or.inl (gw1 (i := 73) rfl (gk_fieldLink _ _ _ _ _))⟩
theorem fw_RX2_48 : FLw RX2 48 2 6 .int := ⟨fl_RX2_48, fun C T N h => by cases h; rfl⟩
theorem fl_RX5_154 : FLk RX5 154 2 6 .int := ⟨RX2, TX2, 17, tyX2, rfl, rfl, by decide, inG2, tyX2_ok, nmX2, rfl, rfl, Or.inr ⟨"SlideFold", nw1 (i := 74) rfl rfl⟩⟩
theorem fw_RX5_154 : FLw RX5 154 2 6 .int := ⟨fl_RX5_154, fun C T N h => by cases h; rfl⟩
theorem fl_RX2_15 : FLk RX2 15 2 7 (.array .int) := ⟨RX2, TX2, 17, tyX2, rfl, rfl, by decide, inG2, tyX2_ok, nmX2, rfl, rfl, Or.inl (gw1 (i := 75) rfl (gk_fieldLink _ _ _ _ _))⟩
theorem fl_RX5_198 : FLk RX5 198 2 7 (.array .int) := ⟨RX2, TX2, 17, tyX2, rfl, rfl, by decide, inG2, tyX2_ok, nmX2, rfl, rfl, Or.inr ⟨"SlideFold", nw1 (i := 76) rfl rfl⟩⟩
theorem fl_RX2_19 : FLk RX2 19 2 8 (.array .int) := ⟨RX2, TX2, 17, tyX2, rfl, rfl, by decide, inG2, tyX2_ok, nmX2, rfl, rfl, Or.inl (gw1 (i := 77) rfl (gk_fieldLink _ _ _ _ _))⟩
theorem fl_RX5_176 : FLk RX5 176 2 8 (.array .int) := ⟨RX2, TX2, 17, tyX2, rfl, rfl, by decide, inG2, tyX2_ok, nmX2, rfl, rfl, Or.inr ⟨"SlideFold", nw1 (i := 78) rfl rfl⟩⟩
theorem fl_RX2_22 : FLk RX2 22 2 9 (.array .int) := ⟨RX2, TX2, 17, tyX2, rfl, rfl, by decide, inG2, tyX2_ok, nmX2, rfl, rfl, Or.inl (gw1 (i := 79) rfl (gk_fieldLink _ _ _ _ _))⟩
theorem fl_RX5_245 : FLk RX5 245 2 9 (.array .int) := ⟨RX2, TX2, 17, tyX2, rfl, rfl, by decide, inG2, tyX2_ok, nmX2, rfl, rfl, Or.inr ⟨"SlideFold", nw1 (i := 80) rfl rfl⟩⟩
theorem fl_RX2_51 : FLk RX2 51 2 10 .int := ⟨RX2, TX2, 17, tyX2, rfl, rfl, by decide, inG2, tyX2_ok, nmX2, rfl, rfl, Or.inl (gw1 (i := 81) rfl (gk_fieldLink _ _ _ _ _))⟩
theorem fw_RX2_51 : FLw RX2 51 2 10 .int := ⟨fl_RX2_51, fun C T N h => by cases h; rfl⟩
theorem fl_RX5_157 : FLk RX5 157 2 10 .int := ⟨RX2, TX2, 17, tyX2, rfl, rfl, by decide, inG2, tyX2_ok, nmX2, rfl, rfl, Or.inr ⟨"SlideFold", nw1 (i := 82) rfl rfl⟩⟩
theorem fw_RX5_157 : FLw RX5 157 2 10 .int := ⟨fl_RX5_157, fun C T N h => by cases h; rfl⟩
theorem fl_RX2_54 : FLk RX2 54 2 11 .int := ⟨RX2, TX2, 17, tyX2, rfl, rfl, by decide, inG2, tyX2_ok, nmX2, rfl, rfl, Or.inl (gw1 (i := 83) rfl (gk_fieldLink _ _ _ _ _))⟩
theorem fw_RX2_54 : FLw RX2 54 2 11 .int := ⟨fl_RX2_54, fun C T N h => by cases h; rfl⟩
theorem fl_RX5_136 : FLk RX5 136 2 11 .int := ⟨RX2, TX2, 17, tyX2, rfl, rfl, by decide, inG2, tyX2_ok, nmX2, rfl, rfl, Or.inr ⟨"SlideFold", nw1 (i := 84) rfl rfl⟩⟩
theorem fw_RX5_136 : FLw RX5 136 2 11 .int := ⟨fl_RX5_136, fun C T N h => by cases h; rfl⟩
theorem fl_RX2_57 : FLk RX2 57 2 12 .int := ⟨RX2, TX2, 17, tyX2, rfl, rfl, by decide, inG2, tyX2_ok, nmX2, rfl, rfl, Or.inl (gw1 (i := 85) rfl (gk_fieldLink _ _ _ _ _))⟩
theorem fw_RX2_57 : FLw RX2 57 2 12 .int := ⟨fl_RX2_57, fun C T N h => by cases h; rfl⟩
theorem fl_RX2_60 : FLk RX2 60 2 13 .int := ⟨RX2, TX2, 17, tyX2, rfl, rfl, by decide, inG2, tyX2_ok, nmX2, rfl, rfl, Or.inl (gw1 (i := 86) rfl (gk_fieldLink _ _ _ _ _))⟩
theorem fw_RX2_60 : FLw RX2 60 2 13 .int := ⟨fl_RX2_60, fun C T N h => by cases h; rfl⟩
theorem fl_RX5_204 : FLk RX5 204 2 13 .int := ⟨RX2, TX2, 17, tyX2, rfl, rfl, by decide, inG2, tyX2_ok, nmX2, rfl, rfl, Or.inr ⟨"SlideFold", nw1 (i := 87) rfl rfl⟩⟩
theorem fw_RX5_204 : FLw RX5 204 2 13 .int := ⟨fl_RX5_204, fun C T N h => by cases h; rfl⟩
theorem fl_RX2_63 : FLk RX2 63 2 14 .int := ⟨RX2, TX2, 17, tyX2, rfl, rfl, by decide, inG2, tyX2_ok, nmX2, rfl, rfl, Or.inl (gw1 (i := 88) rfl (gk_fieldLink _ _ _ _ _))⟩
theorem fw_RX2_63 : FLw RX2 63 2 14 .int := ⟨fl_RX2_63, fun C T N h => by cases h; rfl⟩
theorem fl_RX2_66 : FLk RX2 66 2 15 .int := ⟨RX2, TX2, 17, tyX2, rfl, rfl, by decide, inG2, tyX2_ok, nmX2, rfl, rfl, Or.inl (gw1 (i := 89) rfl (gk_fieldLink _ _ _ _ _))⟩
theorem fw_RX2_66 : FLw RX2 66 2 15 .int := ⟨fl_RX2_66, fun C T N h => by cases h; rfl⟩
theorem fl_RX5_242 : FLk RX5 242 2 15 .int := ⟨RX2, TX2, 17, tyX2, rfl, rfl, by decide, inG2, tyX2_ok, nmX2, rfl, rfl, Or.inr ⟨"SlideFold", nw1 (i := 90) rfl rfl⟩⟩
theorem fw_RX5_242 : FLw RX5 242 2 15 .int := ⟨fl_RX5_242, fun C T N h => by cases h; rfl⟩
theorem fl_RX2_28 : FLk RX2 28 2 16 (.object "SlideFold$Flip") := ⟨RX2, TX2, 17, tyX2, rfl, rfl, by decide, inG2, tyX2_ok, nmX2, rfl, rfl, Or.inl (gw1 (i := 91) rfl (gk_fieldLink _ _ _ _ _))⟩
theorem fl_RX5_189 : FLk RX5 189 2 16 (.object "SlideFold$Flip") := ⟨RX2, TX2, 17, tyX2, rfl, rfl, by decide, inG2, tyX2_ok, nmX2, rfl, rfl, Or.inr ⟨"SlideFold", nw1 (i := 92) rfl rfl⟩⟩
theorem il_RX5_26 : ILk RX5 26 38 := ⟨Or.inr ⟨"SlideFold", nw1 (i := 129) rfl rfl⟩, mk_38, gw1 (i := 130) rfl (gk_instanceMethod _), rfl, rfl⟩
theorem fl_RX3_9 : FLk RX3 9 3 0 .int := ⟨RX3, TX3, 4, tyX3, rfl, rfl, by decide, inG3, tyX3_ok, nmX3, rfl, rfl, Or.inl (gw1 (i := 133) rfl (gk_fieldLink _ _ _ _ _))⟩
theorem fw_RX3_9 : FLw RX3 9 3 0 .int := ⟨fl_RX3_9, fun C T N h => by cases h; rfl⟩
theorem fl_RX5_215 : FLk RX5 215 3 0 .int := ⟨RX3, TX3, 4, tyX3, rfl, rfl, by decide, inG3, tyX3_ok, nmX3, rfl, rfl, Or.inr ⟨"SlideFold", nw1 (i := 134) rfl rfl⟩⟩
theorem fw_RX5_215 : FLw RX5 215 3 0 .int := ⟨fl_RX5_215, fun C T N h => by cases h; rfl⟩
theorem fl_RX3_15 : FLk RX3 15 3 1 .int := ⟨RX3, TX3, 4, tyX3, rfl, rfl, by decide, inG3, tyX3_ok, nmX3, rfl, rfl, Or.inl (gw1 (i := 135) rfl (gk_fieldLink _ _ _ _ _))⟩
theorem fw_RX3_15 : FLw RX3 15 3 1 .int := ⟨fl_RX3_15, fun C T N h => by cases h; rfl⟩
theorem fl_RX5_218 : FLk RX5 218 3 1 .int := ⟨RX3, TX3, 4, tyX3, rfl, rfl, by decide, inG3, tyX3_ok, nmX3, rfl, rfl, Or.inr ⟨"SlideFold", nw1 (i := 136) rfl rfl⟩⟩
theorem fw_RX5_218 : FLw RX5 218 3 1 .int := ⟨fl_RX5_218, fun C T N h => by cases h; rfl⟩
theorem fl_RX3_18 : FLk RX3 18 3 2 .int := ⟨RX3, TX3, 4, tyX3, rfl, rfl, by decide, inG3, tyX3_ok, nmX3, rfl, rfl, Or.inl (gw1 (i := 137) rfl (gk_fieldLink _ _ _ _ _))⟩
theorem fw_RX3_18 : FLw RX3 18 3 2 .int := ⟨fl_RX3_18, fun C T N h => by cases h; rfl⟩
theorem fl_RX5_224 : FLk RX5 224 3 2 .int := ⟨RX3, TX3, 4, tyX3, rfl, rfl, by decide, inG3, tyX3_ok, nmX3, rfl, rfl, Or.inr ⟨"SlideFold", nw1 (i := 138) rfl rfl⟩⟩
theorem fw_RX5_224 : FLw RX5 224 3 2 .int := ⟨fl_RX5_224, fun C T N h => by cases h; rfl⟩
theorem fl_RX3_21 : FLk RX3 21 3 3 .int := ⟨RX3, TX3, 4, tyX3, rfl, rfl, by decide, inG3, tyX3_ok, nmX3, rfl, rfl, Or.inl (gw1 (i := 139) rfl (gk_fieldLink _ _ _ _ _))⟩
theorem fw_RX3_21 : FLw RX3 21 3 3 .int := ⟨fl_RX3_21, fun C T N h => by cases h; rfl⟩
theorem fl_RX5_231 : FLk RX5 231 3 3 .int := ⟨RX3, TX3, 4, tyX3, rfl, rfl, by decide, inG3, tyX3_ok, nmX3, rfl, rfl, Or.inr ⟨"SlideFold", nw1 (i := 140) rfl rfl⟩⟩
theorem fw_RX5_231 : FLw RX5 231 3 3 .int := ⟨fl_RX5_231, fun C T N h => by cases h; rfl⟩
theorem il_RX5_36 : ILk RX5 36 42 := ⟨Or.inr ⟨"SlideFold", nw1 (i := 153) rfl rfl⟩, mk_42, gw1 (i := 154) rfl (gk_instanceMethod _), rfl, rfl⟩
theorem fl_RX4_9 : FLk RX4 9 4 0 .int := ⟨RX4, TX4, 6, tyX4, rfl, rfl, by decide, inG4, tyX4_ok, nmX4, rfl, rfl, Or.inl (gw1 (i := 157) rfl (gk_fieldLink _ _ _ _ _))⟩
theorem fw_RX4_9 : FLw RX4 9 4 0 .int := ⟨fl_RX4_9, fun C T N h => by cases h; rfl⟩
theorem fl_RX5_321 : FLk RX5 321 4 0 .int := ⟨RX4, TX4, 6, tyX4, rfl, rfl, by decide, inG4, tyX4_ok, nmX4, rfl, rfl, Or.inr ⟨"SlideFold", nw1 (i := 158) rfl rfl⟩⟩
theorem fw_RX5_321 : FLw RX5 321 4 0 .int := ⟨fl_RX5_321, fun C T N h => by cases h; rfl⟩
theorem fl_RX4_15 : FLk RX4 15 4 1 .int := ⟨RX4, TX4, 6, tyX4, rfl, rfl, by decide, inG4, tyX4_ok, nmX4, rfl, rfl, Or.inl (gw1 (i := 159) rfl (gk_fieldLink _ _ _ _ _))⟩
theorem fw_RX4_15 : FLw RX4 15 4 1 .int := ⟨fl_RX4_15, fun C T N h => by cases h; rfl⟩
theorem fl_RX5_327 : FLk RX5 327 4 1 .int := ⟨RX4, TX4, 6, tyX4, rfl, rfl, by decide, inG4, tyX4_ok, nmX4, rfl, rfl, Or.inr ⟨"SlideFold", nw1 (i := 160) rfl rfl⟩⟩
theorem fw_RX5_327 : FLw RX5 327 4 1 .int := ⟨fl_RX5_327, fun C T N h => by cases h; rfl⟩
theorem fl_RX4_18 : FLk RX4 18 4 2 .int := ⟨RX4, TX4, 6, tyX4, rfl, rfl, by decide, inG4, tyX4_ok, nmX4, rfl, rfl, Or.inl (gw1 (i := 161) rfl (gk_fieldLink _ _ _ _ _))⟩
theorem fw_RX4_18 : FLw RX4 18 4 2 .int := ⟨fl_RX4_18, fun C T N h => by cases h; rfl⟩
theorem fl_RX5_328 : FLk RX5 328 4 2 .int := ⟨RX4, TX4, 6, tyX4, rfl, rfl, by decide, inG4, tyX4_ok, nmX4, rfl, rfl, Or.inr ⟨"SlideFold", nw1 (i := 162) rfl rfl⟩⟩
theorem fw_RX5_328 : FLw RX5 328 4 2 .int := ⟨fl_RX5_328, fun C T N h => by cases h; rfl⟩
theorem fl_RX4_21 : FLk RX4 21 4 3 .boolean := ⟨RX4, TX4, 6, tyX4, rfl, rfl, by decide, inG4, tyX4_ok, nmX4, rfl, rfl, Or.inl (gw1 (i := 163) rfl (gk_fieldLink _ _ _ _ _))⟩
theorem fw_RX4_21 : FLw RX4 21 4 3 .boolean := ⟨fl_RX4_21, fun C T N h => by cases h; rfl⟩
theorem fl_RX4_25 : FLk RX4 25 4 4 .int := ⟨RX4, TX4, 6, tyX4, rfl, rfl, by decide, inG4, tyX4_ok, nmX4, rfl, rfl, Or.inl (gw1 (i := 164) rfl (gk_fieldLink _ _ _ _ _))⟩
theorem fw_RX4_25 : FLw RX4 25 4 4 .int := ⟨fl_RX4_25, fun C T N h => by cases h; rfl⟩
theorem fl_RX5_315 : FLk RX5 315 4 4 .int := ⟨RX4, TX4, 6, tyX4, rfl, rfl, by decide, inG4, tyX4_ok, nmX4, rfl, rfl, Or.inr ⟨"SlideFold", nw1 (i := 165) rfl rfl⟩⟩
theorem fw_RX5_315 : FLw RX5 315 4 4 .int := ⟨fl_RX5_315, fun C T N h => by cases h; rfl⟩
theorem fl_RX4_28 : FLk RX4 28 4 5 .int := ⟨RX4, TX4, 6, tyX4, rfl, rfl, by decide, inG4, tyX4_ok, nmX4, rfl, rfl, Or.inl (gw1 (i := 166) rfl (gk_fieldLink _ _ _ _ _))⟩
theorem fw_RX4_28 : FLw RX4 28 4 5 .int := ⟨fl_RX4_28, fun C T N h => by cases h; rfl⟩
theorem fl_RX5_318 : FLk RX5 318 4 5 .int := ⟨RX4, TX4, 6, tyX4, rfl, rfl, by decide, inG4, tyX4_ok, nmX4, rfl, rfl, Or.inr ⟨"SlideFold", nw1 (i := 167) rfl rfl⟩⟩
theorem fw_RX5_318 : FLw RX5 318 4 5 .int := ⟨fl_RX5_318, fun C T N h => by cases h; rfl⟩
theorem il_RX5_39 : ILk RX5 39 8 := ⟨Or.inl (gw1 (i := 183) rfl (gk_methodLink _ _ _)), mk_8, gw1 (i := 184) rfl (gk_instanceMethod _), rfl, rfl⟩
theorem tl_RX1_18 : TLk RX1 18 266 := ⟨Or.inl (gw1 (i := 187) rfl (gk_methodLink _ _ _)), mk_266, gw1 (i := 188) rfl (gk_static _)⟩
theorem fl_RX1_9 : FLk RX1 9 1 0 (.array .int) := ⟨RX1, TX1, 8, tyX1, rfl, rfl, by decide, inG1, tyX1_ok, nmX1, rfl, rfl, Or.inl (gw1 (i := 190) rfl (gk_fieldLink _ _ _ _ _))⟩
theorem fl_RX5_67 : FLk RX5 67 1 0 (.array .int) := ⟨RX1, TX1, 8, tyX1, rfl, rfl, by decide, inG1, tyX1_ok, nmX1, rfl, rfl, Or.inr ⟨"SlideFold", nw1 (i := 191) rfl rfl⟩⟩
theorem fl_RX1_15 : FLk RX1 15 1 1 (.array .int) := ⟨RX1, TX1, 8, tyX1, rfl, rfl, by decide, inG1, tyX1_ok, nmX1, rfl, rfl, Or.inl (gw1 (i := 192) rfl (gk_fieldLink _ _ _ _ _))⟩
theorem fl_RX5_71 : FLk RX5 71 1 1 (.array .int) := ⟨RX1, TX1, 8, tyX1, rfl, rfl, by decide, inG1, tyX1_ok, nmX1, rfl, rfl, Or.inr ⟨"SlideFold", nw1 (i := 193) rfl rfl⟩⟩
theorem fl_RX1_24 : FLk RX1 24 1 2 (.array .int) := ⟨RX1, TX1, 8, tyX1, rfl, rfl, by decide, inG1, tyX1_ok, nmX1, rfl, rfl, Or.inl (gw1 (i := 194) rfl (gk_fieldLink _ _ _ _ _))⟩
theorem fl_RX1_27 : FLk RX1 27 1 3 (.array .int) := ⟨RX1, TX1, 8, tyX1, rfl, rfl, by decide, inG1, tyX1_ok, nmX1, rfl, rfl, Or.inl (gw1 (i := 195) rfl (gk_fieldLink _ _ _ _ _))⟩
theorem fl_RX1_54 : FLk RX1 54 1 4 .int := ⟨RX1, TX1, 8, tyX1, rfl, rfl, by decide, inG1, tyX1_ok, nmX1, rfl, rfl, Or.inl (gw1 (i := 196) rfl (gk_fieldLink _ _ _ _ _))⟩
theorem fw_RX1_54 : FLw RX1 54 1 4 .int := ⟨fl_RX1_54, fun C T N h => by cases h; rfl⟩
theorem fl_RX1_30 : FLk RX1 30 1 5 .int := ⟨RX1, TX1, 8, tyX1, rfl, rfl, by decide, inG1, tyX1_ok, nmX1, rfl, rfl, Or.inl (gw1 (i := 197) rfl (gk_fieldLink _ _ _ _ _))⟩
theorem fw_RX1_30 : FLw RX1 30 1 5 .int := ⟨fl_RX1_30, fun C T N h => by cases h; rfl⟩
theorem fl_RX1_34 : FLk RX1 34 1 6 .int := ⟨RX1, TX1, 8, tyX1, rfl, rfl, by decide, inG1, tyX1_ok, nmX1, rfl, rfl, Or.inl (gw1 (i := 198) rfl (gk_fieldLink _ _ _ _ _))⟩
theorem fw_RX1_34 : FLw RX1 34 1 6 .int := ⟨fl_RX1_34, fun C T N h => by cases h; rfl⟩
theorem fl_RX1_37 : FLk RX1 37 1 7 .int := ⟨RX1, TX1, 8, tyX1, rfl, rfl, by decide, inG1, tyX1_ok, nmX1, rfl, rfl, Or.inl (gw1 (i := 199) rfl (gk_fieldLink _ _ _ _ _))⟩
theorem fw_RX1_37 : FLw RX1 37 1 7 .int := ⟨fl_RX1_37, fun C T N h => by cases h; rfl⟩
theorem il_RX5_46 : ILk RX5 46 0 := ⟨Or.inr ⟨"SlideFold", nw1 (i := 218) rfl rfl⟩, mk_0, gw1 (i := 32) rfl (gk_instanceMethod _), rfl, rfl⟩
theorem fl_RX5_13 : FLk RX5 13 5 0 (.array (.object "SlideFold$Lane")) := ⟨RX5, TX5, 8, tyX5, rfl, rfl, by decide, inG5, tyX5_ok, nmX5, rfl, rfl, Or.inl (gw1 (i := 221) rfl (gk_fieldLink _ _ _ _ _))⟩
theorem fl_RX5_27 : FLk RX5 27 5 1 (.array (.object "SlideFold$Lane")) := ⟨RX5, TX5, 8, tyX5, rfl, rfl, by decide, inG5, tyX5_ok, nmX5, rfl, rfl, Or.inl (gw1 (i := 222) rfl (gk_fieldLink _ _ _ _ _))⟩
theorem fl_RX5_32 : FLk RX5 32 5 2 (.array (.object "SlideFold$Watch")) := ⟨RX5, TX5, 8, tyX5, rfl, rfl, by decide, inG5, tyX5_ok, nmX5, rfl, rfl, Or.inl (gw1 (i := 223) rfl (gk_fieldLink _ _ _ _ _))⟩
theorem fl_RX5_19 : FLk RX5 19 5 3 (.array (.object "SlideFold$Link")) := ⟨RX5, TX5, 8, tyX5, rfl, rfl, by decide, inG5, tyX5_ok, nmX5, rfl, rfl, Or.inl (gw1 (i := 224) rfl (gk_fieldLink _ _ _ _ _))⟩
theorem fl_RX5_40 : FLk RX5 40 5 4 (.object "SlideFold$Fold") := ⟨RX5, TX5, 8, tyX5, rfl, rfl, by decide, inG5, tyX5_ok, nmX5, rfl, rfl, Or.inl (gw1 (i := 225) rfl (gk_fieldLink _ _ _ _ _))⟩
theorem fl_RX5_47 : FLk RX5 47 5 5 (.object "SlideFold$Flip") := ⟨RX5, TX5, 8, tyX5, rfl, rfl, by decide, inG5, tyX5_ok, nmX5, rfl, rfl, Or.inl (gw1 (i := 226) rfl (gk_fieldLink _ _ _ _ _))⟩
theorem fl_RX5_53 : FLk RX5 53 5 6 (.array (.array .int)) := ⟨RX5, TX5, 8, tyX5, rfl, rfl, by decide, inG5, tyX5_ok, nmX5, rfl, rfl, Or.inl (gw1 (i := 227) rfl (gk_fieldLink _ _ _ _ _))⟩
theorem fl_RX5_56 : FLk RX5 56 5 7 (.array (.array .int)) := ⟨RX5, TX5, 8, tyX5, rfl, rfl, by decide, inG5, tyX5_ok, nmX5, rfl, rfl, Or.inl (gw1 (i := 228) rfl (gk_fieldLink _ _ _ _ _))⟩
theorem vl_RL_13 : VLk RL 13 47 := ⟨Or.inl (gw2 (i := 6) rfl (gk_methodLink _ _ _)), mk_47, gw2 (i := 7) rfl (gk_instanceMethod _), gw2 (i := 8) rfl (gk_selects _ _ _)⟩
theorem tl_RX5_59 : TLk RX5 59 124 := ⟨Or.inl (gw2 (i := 10) rfl (gk_methodLink _ _ _)), mk_124, gw2 (i := 11) rfl (gk_static _)⟩
theorem vl_RX5_63 : VLk RX5 63 57 := ⟨Or.inl (gw2 (i := 13) rfl (gk_methodLink _ _ _)), mk_57, gw2 (i := 15) rfl (gk_instanceMethod _), List.mem_filter.mpr ⟨List.mem_append_left _ (List.mem_of_getElem? (i := 0) rfl), gk_selects _ _ _⟩⟩
theorem vl_RL_18 : VLk RL 18 48 := ⟨Or.inl (gw2 (i := 17) rfl (gk_methodLink _ _ _)), mk_48, gw2 (i := 18) rfl (gk_instanceMethod _), gw2 (i := 19) rfl (gk_selects _ _ _)⟩
theorem vl_RL_22 : VLk RL 22 49 := ⟨Or.inl (gw2 (i := 21) rfl (gk_methodLink _ _ _)), mk_49, gw2 (i := 22) rfl (gk_instanceMethod _), gw2 (i := 23) rfl (gk_selects _ _ _)⟩
theorem vl_RX5_74 : VLk RX5 74 52 := ⟨Or.inl (gw2 (i := 25) rfl (gk_methodLink _ _ _)), mk_52, gw2 (i := 27) rfl (gk_instanceMethod _), List.mem_filter.mpr ⟨List.mem_append_left _ (List.mem_of_getElem? (i := 1) rfl), gk_selects _ _ _⟩⟩
theorem vl_RX5_90 : VLk RX5 90 51 := ⟨Or.inl (gw2 (i := 29) rfl (gk_methodLink _ _ _)), mk_51, gw2 (i := 31) rfl (gk_instanceMethod _), List.mem_filter.mpr ⟨List.mem_append_left _ (List.mem_of_getElem? (i := 2) rfl), gk_selects _ _ _⟩⟩
theorem vl_RL_27 : VLk RL 27 50 := ⟨Or.inl (gw2 (i := 33) rfl (gk_methodLink _ _ _)), mk_50, gw2 (i := 34) rfl (gk_instanceMethod _), gw2 (i := 35) rfl (gk_selects _ _ _)⟩
theorem vl_RX5_77 : VLk RX5 77 53 := ⟨Or.inl (gw2 (i := 37) rfl (gk_methodLink _ _ _)), mk_53, gw2 (i := 39) rfl (gk_instanceMethod _), List.mem_filter.mpr ⟨List.mem_append_left _ (List.mem_of_getElem? (i := 3) rfl), gk_selects _ _ _⟩⟩
theorem vl_RX5_81 : VLk RX5 81 54 := ⟨Or.inl (gw2 (i := 41) rfl (gk_methodLink _ _ _)), mk_54, gw2 (i := 43) rfl (gk_instanceMethod _), List.mem_filter.mpr ⟨List.mem_append_left _ (List.mem_of_getElem? (i := 4) rfl), gk_selects _ _ _⟩⟩
theorem vl_RX5_84 : VLk RX5 84 55 := ⟨Or.inl (gw2 (i := 45) rfl (gk_methodLink _ _ _)), mk_55, gw2 (i := 47) rfl (gk_instanceMethod _), List.mem_filter.mpr ⟨List.mem_append_left _ (List.mem_of_getElem? (i := 5) rfl), gk_selects _ _ _⟩⟩
theorem vl_RX5_87 : VLk RX5 87 56 := ⟨Or.inl (gw2 (i := 49) rfl (gk_methodLink _ _ _)), mk_56, gw2 (i := 51) rfl (gk_instanceMethod _), List.mem_filter.mpr ⟨List.mem_append_left _ (List.mem_of_getElem? (i := 6) rfl), gk_selects _ _ _⟩⟩
theorem vl_RL_31 : VLk RL 31 58 := ⟨Or.inl (gw2 (i := 53) rfl (gk_methodLink _ _ _)), mk_58, gw2 (i := 54) rfl (gk_instanceMethod _), gw2 (i := 55) rfl (gk_selects _ _ _)⟩
theorem tl_RX5_102 : TLk RX5 102 125 := ⟨Or.inl (gw2 (i := 57) rfl (gk_methodLink _ _ _)), mk_125, gw2 (i := 58) rfl (gk_static _)⟩
theorem tl_RX5_105 : TLk RX5 105 59 := ⟨Or.inl (gw2 (i := 60) rfl (gk_methodLink _ _ _)), mk_59, gw2 (i := 61) rfl (gk_static _)⟩
theorem vl_RX5_109 : VLk RX5 109 49 := ⟨Or.inl (gw2 (i := 63) rfl (gk_methodLink _ _ _)), mk_49, gw2 (i := 22) rfl (gk_instanceMethod _), gw2 (i := 23) rfl (gk_selects _ _ _)⟩
theorem vl_RX5_113 : VLk RX5 113 26 := ⟨Or.inl (gw2 (i := 64) rfl (gk_methodLink _ _ _)), mk_26, gw2 (i := 65) rfl (gk_instanceMethod _), gw2 (i := 66) rfl (gk_selects _ _ _)⟩
theorem vl_RX2_69 : VLk RX2 69 1 := ⟨Or.inl (gw2 (i := 68) rfl (gk_methodLink _ _ _)), mk_1, gw2 (i := 69) rfl (gk_instanceMethod _), gw2 (i := 70) rfl (gk_selects _ _ _)⟩
theorem vl_RX5_117 : VLk RX5 117 108 := ⟨Or.inl (gw2 (i := 72) rfl (gk_methodLink _ _ _)), mk_108, gw2 (i := 74) rfl (gk_instanceMethod _), List.mem_filter.mpr ⟨List.mem_append_left _ (List.mem_of_getElem? (i := 7) rfl), gk_selects _ _ _⟩⟩
theorem vl_RX5_344 : VLk RX5 344 45 := ⟨Or.inl (gw2 (i := 76) rfl (gk_methodLink _ _ _)), mk_45, gw2 (i := 77) rfl (gk_instanceMethod _), gw2 (i := 78) rfl (gk_selects _ _ _)⟩
theorem vl_RX5_340 : VLk RX5 340 40 := ⟨Or.inl (gw2 (i := 80) rfl (gk_methodLink _ _ _)), mk_40, gw2 (i := 81) rfl (gk_instanceMethod _), gw2 (i := 82) rfl (gk_selects _ _ _)⟩
theorem vl_RX5_120 : VLk RX5 120 117 := ⟨Or.inl (gw2 (i := 84) rfl (gk_methodLink _ _ _)), mk_117, gw2 (i := 86) rfl (gk_instanceMethod _), List.mem_filter.mpr ⟨List.mem_append_left _ (List.mem_of_getElem? (i := 8) rfl), gk_selects _ _ _⟩⟩
theorem vl_RL_36 : VLk RL 36 60 := ⟨Or.inl (gw2 (i := 88) rfl (gk_methodLink _ _ _)), mk_60, gw2 (i := 89) rfl (gk_instanceMethod _), gw2 (i := 90) rfl (gk_selects _ _ _)⟩
theorem vl_RX5_123 : VLk RX5 123 129 := ⟨Or.inl (gw2 (i := 92) rfl (gk_methodLink _ _ _)), mk_129, gw2 (i := 94) rfl (gk_instanceMethod _), List.mem_filter.mpr ⟨List.mem_append_left _ (List.mem_of_getElem? (i := 9) rfl), gk_selects _ _ _⟩⟩
theorem vl_RL_41 : VLk RL 41 61 := ⟨Or.inl (gw2 (i := 96) rfl (gk_methodLink _ _ _)), mk_61, gw2 (i := 97) rfl (gk_instanceMethod _), gw2 (i := 98) rfl (gk_selects _ _ _)⟩
theorem tl_RX5_127 : TLk RX5 127 126 := ⟨Or.inl (gw2 (i := 100) rfl (gk_methodLink _ _ _)), mk_126, gw2 (i := 101) rfl (gk_static _)⟩
theorem co_RX5_284 : Cond.constant RX5 284 (i3 (100000)) ∈ gT := gw2 (i := 103) rfl (gk_constant _ _ _)
theorem tl_RX5_130 : TLk RX5 130 127 := ⟨Or.inl (gw2 (i := 104) rfl (gk_methodLink _ _ _)), mk_127, gw2 (i := 105) rfl (gk_static _)⟩
theorem vl_RX5_133 : VLk RX5 133 30 := ⟨Or.inl (gw2 (i := 107) rfl (gk_methodLink _ _ _)), mk_30, gw2 (i := 108) rfl (gk_instanceMethod _), gw2 (i := 109) rfl (gk_selects _ _ _)⟩
theorem vl_RX5_139 : VLk RX5 139 29 := ⟨Or.inl (gw2 (i := 111) rfl (gk_methodLink _ _ _)), mk_29, gw2 (i := 112) rfl (gk_instanceMethod _), gw2 (i := 113) rfl (gk_selects _ _ _)⟩
theorem vl_RX5_143 : VLk RX5 143 70 := ⟨Or.inl (gw2 (i := 115) rfl (gk_methodLink _ _ _)), mk_70, gw2 (i := 117) rfl (gk_instanceMethod _), List.mem_filter.mpr ⟨List.mem_append_left _ (List.mem_of_getElem? (i := 10) rfl), gk_selects _ _ _⟩⟩
theorem vl_RX5_221 : VLk RX5 221 32 := ⟨Or.inl (gw2 (i := 119) rfl (gk_methodLink _ _ _)), mk_32, gw2 (i := 120) rfl (gk_instanceMethod _), gw2 (i := 121) rfl (gk_selects _ _ _)⟩
theorem vl_RX5_227 : VLk RX5 227 132 := ⟨Or.inl (gw2 (i := 123) rfl (gk_methodLink _ _ _)), mk_132, gw2 (i := 125) rfl (gk_instanceMethod _), List.mem_filter.mpr ⟨List.mem_append_left _ (List.mem_of_getElem? (i := 11) rfl), gk_selects _ _ _⟩⟩
theorem vl_RX5_259 : VLk RX5 259 134 := ⟨Or.inl (gw2 (i := 127) rfl (gk_methodLink _ _ _)), mk_134, gw2 (i := 129) rfl (gk_instanceMethod _), List.mem_filter.mpr ⟨List.mem_append_left _ (List.mem_of_getElem? (i := 12) rfl), gk_selects _ _ _⟩⟩
theorem vl_RX5_251 : VLk RX5 251 9 := ⟨Or.inl (gw2 (i := 131) rfl (gk_methodLink _ _ _)), mk_9, gw2 (i := 132) rfl (gk_instanceMethod _), gw2 (i := 133) rfl (gk_selects _ _ _)⟩
theorem co_RX1_40 : Cond.constant RX1 40 (i3 (-2147483648)) ∈ gT := gw2 (i := 135) rfl (gk_constant _ _ _)
theorem vl_RX5_253 : VLk RX5 253 14 := ⟨Or.inl (gw2 (i := 136) rfl (gk_methodLink _ _ _)), mk_14, gw2 (i := 137) rfl (gk_instanceMethod _), gw2 (i := 138) rfl (gk_selects _ _ _)⟩
theorem vl_RX1_57 : VLk RX1 57 15 := ⟨Or.inl (gw2 (i := 140) rfl (gk_methodLink _ _ _)), mk_15, gw2 (i := 142) rfl (gk_instanceMethod _), List.mem_filter.mpr ⟨List.mem_append_left _ (List.mem_of_getElem? (i := 13) rfl), gk_selects _ _ _⟩⟩
theorem vl_RX1_61 : VLk RX1 61 16 := ⟨Or.inl (gw2 (i := 144) rfl (gk_methodLink _ _ _)), mk_16, gw2 (i := 146) rfl (gk_instanceMethod _), List.mem_filter.mpr ⟨List.mem_append_left _ (List.mem_of_getElem? (i := 14) rfl), gk_selects _ _ _⟩⟩
theorem tl_RX1_88 : TLk RX1 88 263 := ⟨Or.inl (gw2 (i := 148) rfl (gk_methodLink _ _ _)), mk_263, gw2 (i := 149) rfl (gk_static _)⟩
theorem vl_RX1_64 : VLk RX1 64 17 := ⟨Or.inl (gw2 (i := 151) rfl (gk_methodLink _ _ _)), mk_17, gw2 (i := 153) rfl (gk_instanceMethod _), List.mem_filter.mpr ⟨List.mem_append_left _ (List.mem_of_getElem? (i := 15) rfl), gk_selects _ _ _⟩⟩
theorem tl_RX1_93 : TLk RX1 93 262 := ⟨Or.inl (gw2 (i := 155) rfl (gk_methodLink _ _ _)), mk_262, gw2 (i := 156) rfl (gk_static _)⟩
theorem vl_RX1_67 : VLk RX1 67 18 := ⟨Or.inl (gw2 (i := 158) rfl (gk_methodLink _ _ _)), mk_18, gw2 (i := 160) rfl (gk_instanceMethod _), List.mem_filter.mpr ⟨List.mem_append_left _ (List.mem_of_getElem? (i := 16) rfl), gk_selects _ _ _⟩⟩
theorem tl_RX1_97 : TLk RX1 97 264 := ⟨Or.inl (gw2 (i := 162) rfl (gk_methodLink _ _ _)), mk_264, gw2 (i := 163) rfl (gk_static _)⟩
theorem vl_RX1_70 : VLk RX1 70 19 := ⟨Or.inl (gw2 (i := 165) rfl (gk_methodLink _ _ _)), mk_19, gw2 (i := 167) rfl (gk_instanceMethod _), List.mem_filter.mpr ⟨List.mem_append_left _ (List.mem_of_getElem? (i := 17) rfl), gk_selects _ _ _⟩⟩
theorem tl_RX1_100 : TLk RX1 100 261 := ⟨Or.inl (gw2 (i := 169) rfl (gk_methodLink _ _ _)), mk_261, gw2 (i := 170) rfl (gk_static _)⟩
theorem co_RJ6_265 : Cond.constant RJ6 265 (i3 (1431655765)) ∈ gT := gw2 (i := 172) rfl (gk_constant _ _ _)
theorem co_RJ6_266 : Cond.constant RJ6 266 (i3 (858993459)) ∈ gT := gw2 (i := 173) rfl (gk_constant _ _ _)
theorem co_RJ6_267 : Cond.constant RJ6 267 (i3 (252645135)) ∈ gT := gw2 (i := 174) rfl (gk_constant _ _ _)
theorem vl_RX1_73 : VLk RX1 73 20 := ⟨Or.inl (gw2 (i := 175) rfl (gk_methodLink _ _ _)), mk_20, gw2 (i := 177) rfl (gk_instanceMethod _), List.mem_filter.mpr ⟨List.mem_append_left _ (List.mem_of_getElem? (i := 18) rfl), gk_selects _ _ _⟩⟩
theorem vl_RX1_76 : VLk RX1 76 21 := ⟨Or.inl (gw2 (i := 179) rfl (gk_methodLink _ _ _)), mk_21, gw2 (i := 181) rfl (gk_instanceMethod _), List.mem_filter.mpr ⟨List.mem_append_left _ (List.mem_of_getElem? (i := 19) rfl), gk_selects _ _ _⟩⟩
theorem vl_RX1_79 : VLk RX1 79 22 := ⟨Or.inl (gw2 (i := 183) rfl (gk_methodLink _ _ _)), mk_22, gw2 (i := 185) rfl (gk_instanceMethod _), List.mem_filter.mpr ⟨List.mem_append_left _ (List.mem_of_getElem? (i := 20) rfl), gk_selects _ _ _⟩⟩
theorem vl_RX1_82 : VLk RX1 82 23 := ⟨Or.inl (gw2 (i := 187) rfl (gk_methodLink _ _ _)), mk_23, gw2 (i := 189) rfl (gk_instanceMethod _), List.mem_filter.mpr ⟨List.mem_append_left _ (List.mem_of_getElem? (i := 21) rfl), gk_selects _ _ _⟩⟩
theorem vl_RX1_85 : VLk RX1 85 24 := ⟨Or.inl (gw2 (i := 191) rfl (gk_methodLink _ _ _)), mk_24, gw2 (i := 193) rfl (gk_instanceMethod _), List.mem_filter.mpr ⟨List.mem_append_left _ (List.mem_of_getElem? (i := 22) rfl), gk_selects _ _ _⟩⟩
theorem vl_RX5_273 : VLk RX5 273 10 := ⟨Or.inl (gw2 (i := 195) rfl (gk_methodLink _ _ _)), mk_10, gw2 (i := 196) rfl (gk_instanceMethod _), gw2 (i := 197) rfl (gk_selects _ _ _)⟩
theorem sl_RX1_41 : SLk RX1 41 := Or.inr ⟨_, nw2 (i := 199) (w := Cond.fieldLinkNest RX1 41 RX5 "NUMBERS" "[I" "SlideFold") rfl rfl⟩
theorem co_RX5_175 : Cond.constant RX5 175 (i3 (-2147483648)) ∈ gT := gw2 (i := 201) rfl (gk_constant _ _ _)
theorem tl_RX5_234 : TLk RX5 234 265 := ⟨Or.inl (gw2 (i := 202) rfl (gk_methodLink _ _ _)), mk_265, gw2 (i := 203) rfl (gk_static _)⟩
theorem tl_RX5_239 : TLk RX5 239 264 := ⟨Or.inl (gw2 (i := 205) rfl (gk_methodLink _ _ _)), mk_264, gw2 (i := 163) rfl (gk_static _)⟩
theorem vl_RX5_147 : VLk RX5 147 67 := ⟨Or.inl (gw2 (i := 206) rfl (gk_methodLink _ _ _)), mk_67, gw2 (i := 208) rfl (gk_instanceMethod _), List.mem_filter.mpr ⟨List.mem_append_left _ (List.mem_of_getElem? (i := 23) rfl), gk_selects _ _ _⟩⟩
theorem vl_RX5_167 : VLk RX5 167 31 := ⟨Or.inl (gw2 (i := 210) rfl (gk_methodLink _ _ _)), mk_31, gw2 (i := 211) rfl (gk_instanceMethod _), gw2 (i := 212) rfl (gk_selects _ _ _)⟩
theorem vl_RX5_185 : VLk RX5 185 34 := ⟨Or.inl (gw2 (i := 214) rfl (gk_methodLink _ _ _)), mk_34, gw2 (i := 215) rfl (gk_instanceMethod _), gw2 (i := 216) rfl (gk_selects _ _ _)⟩
theorem vl_RX2_89 : VLk RX2 89 36 := ⟨Or.inl (gw2 (i := 218) rfl (gk_methodLink _ _ _)), mk_36, gw2 (i := 220) rfl (gk_instanceMethod _), List.mem_filter.mpr ⟨List.mem_append_left _ (List.mem_of_getElem? (i := 24) rfl), gk_selects _ _ _⟩⟩
theorem ac_RX2_72 : Cond.methodLink RX2 72 arraycopyName ∈ gT ∧ Cond.native arraycopyName ∈ gT ∧ Cond.static arraycopyName ∈ gT ∧ Cond.initialized "java/lang/System" ∈ gT := ⟨gw2 (i := 222) rfl (gk_methodLink _ _ _), gw2 (i := 224) rfl (gk_native _), gw2 (i := 223) rfl (gk_static _), gw1 (i := 11) rfl (gk_initialized _)⟩
theorem tl_RX2_93 : TLk RX2 93 264 := ⟨Or.inl (gw2 (i := 225) rfl (gk_methodLink _ _ _)), mk_264, gw2 (i := 163) rfl (gk_static _)⟩
theorem vl_RX5_192 : VLk RX5 192 3 := ⟨Or.inl (gw2 (i := 226) rfl (gk_methodLink _ _ _)), mk_3, gw2 (i := 227) rfl (gk_instanceMethod _), gw2 (i := 228) rfl (gk_selects _ _ _)⟩
theorem vl_RX0_33 : VLk RX0 33 6 := ⟨Or.inl (gw2 (i := 230) rfl (gk_methodLink _ _ _)), mk_6, gw2 (i := 232) rfl (gk_instanceMethod _), List.mem_filter.mpr ⟨List.mem_append_left _ (List.mem_of_getElem? (i := 25) rfl), gk_selects _ _ _⟩⟩
theorem tl_RX0_43 : TLk RX0 43 265 := ⟨Or.inl (gw2 (i := 234) rfl (gk_methodLink _ _ _)), mk_265, gw2 (i := 203) rfl (gk_static _)⟩
theorem tl_RX0_37 : TLk RX0 37 264 := ⟨Or.inl (gw2 (i := 235) rfl (gk_methodLink _ _ _)), mk_264, gw2 (i := 163) rfl (gk_static _)⟩
theorem vl_RX5_195 : VLk RX5 195 102 := ⟨Or.inl (gw2 (i := 236) rfl (gk_methodLink _ _ _)), mk_102, gw2 (i := 238) rfl (gk_instanceMethod _), List.mem_filter.mpr ⟨List.mem_append_left _ (List.mem_of_getElem? (i := 26) rfl), gk_selects _ _ _⟩⟩
theorem vl_RX5_324 : VLk RX5 324 103 := ⟨Or.inl (gw3 (i := 0) rfl (gk_methodLink _ _ _)), mk_103, gw3 (i := 2) rfl (gk_instanceMethod _), List.mem_filter.mpr ⟨List.mem_append_left _ (List.mem_of_getElem? (i := 27) rfl), gk_selects _ _ _⟩⟩
theorem vl_RX5_256 : VLk RX5 256 11 := ⟨Or.inl (gw3 (i := 4) rfl (gk_methodLink _ _ _)), mk_11, gw3 (i := 5) rfl (gk_instanceMethod _), gw3 (i := 6) rfl (gk_selects _ _ _)⟩
theorem vl_RX1_44 : VLk RX1 44 10 := ⟨Or.inl (gw3 (i := 8) rfl (gk_methodLink _ _ _)), mk_10, gw2 (i := 196) rfl (gk_instanceMethod _), gw2 (i := 197) rfl (gk_selects _ _ _)⟩
theorem vl_RX5_331 : VLk RX5 331 44 := ⟨Or.inl (gw3 (i := 9) rfl (gk_methodLink _ _ _)), mk_44, gw3 (i := 10) rfl (gk_instanceMethod _), gw3 (i := 11) rfl (gk_selects _ _ _)⟩
theorem vl_RX5_182 : VLk RX5 182 69 := ⟨Or.inl (gw3 (i := 13) rfl (gk_methodLink _ _ _)), mk_69, gw3 (i := 15) rfl (gk_instanceMethod _), List.mem_filter.mpr ⟨List.mem_append_left _ (List.mem_of_getElem? (i := 28) rfl), gk_selects _ _ _⟩⟩
theorem vl_RX5_210 : VLk RX5 210 5 := ⟨Or.inl (gw3 (i := 17) rfl (gk_methodLink _ _ _)), mk_5, gw3 (i := 18) rfl (gk_instanceMethod _), gw3 (i := 19) rfl (gk_selects _ _ _)⟩
theorem vl_RX5_201 : VLk RX5 201 33 := ⟨Or.inl (gw3 (i := 21) rfl (gk_methodLink _ _ _)), mk_33, gw3 (i := 22) rfl (gk_instanceMethod _), gw3 (i := 23) rfl (gk_selects _ _ _)⟩
theorem vl_RX5_163 : VLk RX5 163 68 := ⟨Or.inl (gw3 (i := 25) rfl (gk_methodLink _ _ _)), mk_68, gw3 (i := 27) rfl (gk_instanceMethod _), List.mem_filter.mpr ⟨List.mem_append_left _ (List.mem_of_getElem? (i := 29) rfl), gk_selects _ _ _⟩⟩
theorem vl_RX5_179 : VLk RX5 179 35 := ⟨Or.inl (gw3 (i := 29) rfl (gk_methodLink _ _ _)), mk_35, gw3 (i := 30) rfl (gk_instanceMethod _), gw3 (i := 31) rfl (gk_selects _ _ _)⟩
theorem vl_RX5_207 : VLk RX5 207 4 := ⟨Or.inl (gw3 (i := 33) rfl (gk_methodLink _ _ _)), mk_4, gw3 (i := 34) rfl (gk_instanceMethod _), gw3 (i := 35) rfl (gk_selects _ _ _)⟩
theorem vl_RX5_151 : VLk RX5 151 71 := ⟨Or.inl (gw3 (i := 37) rfl (gk_methodLink _ _ _)), mk_71, gw3 (i := 39) rfl (gk_instanceMethod _), List.mem_filter.mpr ⟨List.mem_append_left _ (List.mem_of_getElem? (i := 30) rfl), gk_selects _ _ _⟩⟩
theorem vl_RL_46 : VLk RL 46 62 := ⟨Or.inl (gw3 (i := 41) rfl (gk_methodLink _ _ _)), mk_62, gw3 (i := 42) rfl (gk_instanceMethod _), gw3 (i := 43) rfl (gk_selects _ _ _)⟩
theorem vl_RL_51 : VLk RL 51 63 := ⟨Or.inl (gw3 (i := 45) rfl (gk_methodLink _ _ _)), mk_63, gw3 (i := 46) rfl (gk_instanceMethod _), gw3 (i := 47) rfl (gk_selects _ _ _)⟩
theorem vl_RL_56 : VLk RL 56 64 := ⟨Or.inl (gw3 (i := 49) rfl (gk_methodLink _ _ _)), mk_64, gw3 (i := 50) rfl (gk_instanceMethod _), gw3 (i := 51) rfl (gk_selects _ _ _)⟩
theorem vl_RL_60 : VLk RL 60 65 := ⟨Or.inl (gw3 (i := 53) rfl (gk_methodLink _ _ _)), mk_65, gw3 (i := 54) rfl (gk_instanceMethod _), gw3 (i := 55) rfl (gk_selects _ _ _)⟩
theorem vl_RX5_171 : VLk RX5 171 131 := ⟨Or.inl (gw3 (i := 57) rfl (gk_methodLink _ _ _)), mk_131, gw3 (i := 59) rfl (gk_instanceMethod _), List.mem_filter.mpr ⟨List.mem_append_left _ (List.mem_of_getElem? (i := 31) rfl), gk_selects _ _ _⟩⟩
theorem vl_RL_64 : VLk RL 64 66 := ⟨Or.inl (gw3 (i := 61) rfl (gk_methodLink _ _ _)), mk_66, gw3 (i := 62) rfl (gk_instanceMethod _), gw3 (i := 63) rfl (gk_selects _ _ _)⟩
theorem vl_RL_69 : VLk RL 69 72 := ⟨Or.inl (gw3 (i := 65) rfl (gk_methodLink _ _ _)), mk_72, gw3 (i := 66) rfl (gk_instanceMethod _), gw3 (i := 67) rfl (gk_selects _ _ _)⟩
theorem vl_RL_73 : VLk RL 73 73 := ⟨Or.inl (gw3 (i := 69) rfl (gk_methodLink _ _ _)), mk_73, gw3 (i := 70) rfl (gk_instanceMethod _), gw3 (i := 71) rfl (gk_selects _ _ _)⟩
theorem vl_RX5_248 : VLk RX5 248 130 := ⟨Or.inl (gw3 (i := 73) rfl (gk_methodLink _ _ _)), mk_130, gw3 (i := 75) rfl (gk_instanceMethod _), List.mem_filter.mpr ⟨List.mem_append_left _ (List.mem_of_getElem? (i := 32) rfl), gk_selects _ _ _⟩⟩
theorem vl_RX5_266 : VLk RX5 266 28 := ⟨Or.inl (gw3 (i := 77) rfl (gk_methodLink _ _ _)), mk_28, gw3 (i := 78) rfl (gk_instanceMethod _), gw3 (i := 79) rfl (gk_selects _ _ _)⟩
theorem sl_RX2_82 : SLk RX2 82 := Or.inr ⟨_, nw3 (i := 81) (w := Cond.fieldLinkNest RX2 82 RX5 "NUMBERS" "[I" "SlideFold") rfl rfl⟩
theorem tl_RX2_85 : TLk RX2 85 124 := ⟨Or.inr ⟨"SlideFold", nw3 (i := 82) rfl rfl⟩, mk_124, gw2 (i := 11) rfl (gk_static _)⟩
theorem vl_RL_77 : VLk RL 77 74 := ⟨Or.inl (gw3 (i := 83) rfl (gk_methodLink _ _ _)), mk_74, gw3 (i := 84) rfl (gk_instanceMethod _), gw3 (i := 85) rfl (gk_selects _ _ _)⟩
theorem vl_RL_81 : VLk RL 81 75 := ⟨Or.inl (gw3 (i := 87) rfl (gk_methodLink _ _ _)), mk_75, gw3 (i := 88) rfl (gk_instanceMethod _), gw3 (i := 89) rfl (gk_selects _ _ _)⟩
theorem vl_RL_85 : VLk RL 85 76 := ⟨Or.inl (gw3 (i := 91) rfl (gk_methodLink _ _ _)), mk_76, gw3 (i := 92) rfl (gk_instanceMethod _), gw3 (i := 93) rfl (gk_selects _ _ _)⟩
theorem vl_RL_89 : VLk RL 89 77 := ⟨Or.inl (gw3 (i := 95) rfl (gk_methodLink _ _ _)), mk_77, gw3 (i := 96) rfl (gk_instanceMethod _), gw3 (i := 97) rfl (gk_selects _ _ _)⟩
theorem vl_RL_93 : VLk RL 93 78 := ⟨Or.inl (gw3 (i := 99) rfl (gk_methodLink _ _ _)), mk_78, gw3 (i := 100) rfl (gk_instanceMethod _), gw3 (i := 101) rfl (gk_selects _ _ _)⟩
theorem vl_RL_97 : VLk RL 97 79 := ⟨Or.inl (gw3 (i := 103) rfl (gk_methodLink _ _ _)), mk_79, gw3 (i := 104) rfl (gk_instanceMethod _), gw3 (i := 105) rfl (gk_selects _ _ _)⟩
theorem vl_RX5_262 : VLk RX5 262 80 := ⟨Or.inl (gw3 (i := 107) rfl (gk_methodLink _ _ _)), mk_80, gw3 (i := 108) rfl (gk_instanceMethod _), gw3 (i := 109) rfl (gk_selects _ _ _)⟩
theorem vl_RL_101 : VLk RL 101 80 := ⟨Or.inl (gw3 (i := 111) rfl (gk_methodLink _ _ _)), mk_80, gw3 (i := 108) rfl (gk_instanceMethod _), gw3 (i := 109) rfl (gk_selects _ _ _)⟩
theorem vl_RL_105 : VLk RL 105 81 := ⟨Or.inl (gw3 (i := 112) rfl (gk_methodLink _ _ _)), mk_81, gw3 (i := 113) rfl (gk_instanceMethod _), gw3 (i := 114) rfl (gk_selects _ _ _)⟩
theorem vl_RX5_269 : VLk RX5 269 133 := ⟨Or.inl (gw3 (i := 116) rfl (gk_methodLink _ _ _)), mk_133, gw3 (i := 118) rfl (gk_instanceMethod _), List.mem_filter.mpr ⟨List.mem_append_left _ (List.mem_of_getElem? (i := 33) rfl), gk_selects _ _ _⟩⟩
theorem vl_RL_109 : VLk RL 109 82 := ⟨Or.inl (gw3 (i := 120) rfl (gk_methodLink _ _ _)), mk_82, gw3 (i := 121) rfl (gk_instanceMethod _), gw3 (i := 122) rfl (gk_selects _ _ _)⟩
theorem vl_RL_113 : VLk RL 113 83 := ⟨Or.inl (gw3 (i := 124) rfl (gk_methodLink _ _ _)), mk_83, gw3 (i := 125) rfl (gk_instanceMethod _), gw3 (i := 126) rfl (gk_selects _ _ _)⟩
theorem vl_RL_117 : VLk RL 117 84 := ⟨Or.inl (gw3 (i := 128) rfl (gk_methodLink _ _ _)), mk_84, gw3 (i := 129) rfl (gk_instanceMethod _), gw3 (i := 130) rfl (gk_selects _ _ _)⟩
theorem vl_RX5_275 : VLk RX5 275 12 := ⟨Or.inl (gw3 (i := 132) rfl (gk_methodLink _ _ _)), mk_12, gw3 (i := 133) rfl (gk_instanceMethod _), gw3 (i := 134) rfl (gk_selects _ _ _)⟩
theorem ac_RX1_48 : Cond.methodLink RX1 48 arraycopyName ∈ gT ∧ Cond.native arraycopyName ∈ gT ∧ Cond.static arraycopyName ∈ gT ∧ Cond.initialized "java/lang/System" ∈ gT := ⟨gw3 (i := 136) rfl (gk_methodLink _ _ _), gw2 (i := 224) rfl (gk_native _), gw2 (i := 223) rfl (gk_static _), gw1 (i := 11) rfl (gk_initialized _)⟩
theorem vl_RX5_278 : VLk RX5 278 13 := ⟨Or.inl (gw3 (i := 137) rfl (gk_methodLink _ _ _)), mk_13, gw3 (i := 138) rfl (gk_instanceMethod _), gw3 (i := 139) rfl (gk_selects _ _ _)⟩
theorem vl_RL_153 : VLk RL 153 85 := ⟨Or.inl (gw3 (i := 141) rfl (gk_methodLink _ _ _)), mk_85, gw3 (i := 142) rfl (gk_instanceMethod _), gw3 (i := 143) rfl (gk_selects _ _ _)⟩
theorem vl_RX5_281 : VLk RX5 281 73 := ⟨Or.inl (gw3 (i := 145) rfl (gk_methodLink _ _ _)), mk_73, gw3 (i := 70) rfl (gk_instanceMethod _), gw3 (i := 71) rfl (gk_selects _ _ _)⟩
theorem vl_RL_121 : VLk RL 121 86 := ⟨Or.inl (gw3 (i := 146) rfl (gk_methodLink _ _ _)), mk_86, gw3 (i := 147) rfl (gk_instanceMethod _), gw3 (i := 148) rfl (gk_selects _ _ _)⟩
theorem vl_RL_125 : VLk RL 125 87 := ⟨Or.inl (gw3 (i := 150) rfl (gk_methodLink _ _ _)), mk_87, gw3 (i := 151) rfl (gk_instanceMethod _), gw3 (i := 152) rfl (gk_selects _ _ _)⟩
theorem vl_RL_129 : VLk RL 129 88 := ⟨Or.inl (gw3 (i := 154) rfl (gk_methodLink _ _ _)), mk_88, gw3 (i := 155) rfl (gk_instanceMethod _), gw3 (i := 156) rfl (gk_selects _ _ _)⟩
theorem vl_RL_133 : VLk RL 133 89 := ⟨Or.inl (gw3 (i := 158) rfl (gk_methodLink _ _ _)), mk_89, gw3 (i := 159) rfl (gk_instanceMethod _), gw3 (i := 160) rfl (gk_selects _ _ _)⟩
theorem vl_RL_137 : VLk RL 137 90 := ⟨Or.inl (gw3 (i := 162) rfl (gk_methodLink _ _ _)), mk_90, gw3 (i := 163) rfl (gk_instanceMethod _), gw3 (i := 164) rfl (gk_selects _ _ _)⟩
theorem vl_RL_141 : VLk RL 141 91 := ⟨Or.inl (gw3 (i := 166) rfl (gk_methodLink _ _ _)), mk_91, gw3 (i := 167) rfl (gk_instanceMethod _), gw3 (i := 168) rfl (gk_selects _ _ _)⟩
theorem tl_RX5_285 : TLk RX5 285 128 := ⟨Or.inl (gw3 (i := 170) rfl (gk_methodLink _ _ _)), mk_128, gw3 (i := 171) rfl (gk_static _)⟩
theorem vl_RL_145 : VLk RL 145 92 := ⟨Or.inl (gw3 (i := 173) rfl (gk_methodLink _ _ _)), mk_92, gw3 (i := 174) rfl (gk_instanceMethod _), gw3 (i := 175) rfl (gk_selects _ _ _)⟩
theorem vl_RL_149 : VLk RL 149 93 := ⟨Or.inl (gw3 (i := 177) rfl (gk_methodLink _ _ _)), mk_93, gw3 (i := 178) rfl (gk_instanceMethod _), gw3 (i := 179) rfl (gk_selects _ _ _)⟩
theorem vl_RL_157 : VLk RL 157 94 := ⟨Or.inl (gw3 (i := 181) rfl (gk_methodLink _ _ _)), mk_94, gw3 (i := 182) rfl (gk_instanceMethod _), gw3 (i := 183) rfl (gk_selects _ _ _)⟩
theorem vl_RX5_288 : VLk RX5 288 7 := ⟨Or.inl (gw3 (i := 185) rfl (gk_methodLink _ _ _)), mk_7, gw3 (i := 186) rfl (gk_instanceMethod _), gw3 (i := 187) rfl (gk_selects _ _ _)⟩
theorem vl_RL_161 : VLk RL 161 95 := ⟨Or.inl (gw3 (i := 189) rfl (gk_methodLink _ _ _)), mk_95, gw3 (i := 190) rfl (gk_instanceMethod _), gw3 (i := 191) rfl (gk_selects _ _ _)⟩
theorem vl_RL_206 : VLk RL 206 96 := ⟨Or.inl (gw3 (i := 193) rfl (gk_methodLink _ _ _)), mk_96, gw3 (i := 194) rfl (gk_instanceMethod _), gw3 (i := 195) rfl (gk_selects _ _ _)⟩
theorem vl_RX5_300 : VLk RX5 300 2 := ⟨Or.inl (gw3 (i := 197) rfl (gk_methodLink _ _ _)), mk_2, gw3 (i := 198) rfl (gk_instanceMethod _), gw3 (i := 199) rfl (gk_selects _ _ _)⟩
theorem vl_RL_165 : VLk RL 165 97 := ⟨Or.inl (gw3 (i := 201) rfl (gk_methodLink _ _ _)), mk_97, gw3 (i := 202) rfl (gk_instanceMethod _), gw3 (i := 203) rfl (gk_selects _ _ _)⟩
theorem vl_RX5_308 : VLk RX5 308 37 := ⟨Or.inl (gw3 (i := 205) rfl (gk_methodLink _ _ _)), mk_37, gw3 (i := 206) rfl (gk_instanceMethod _), gw3 (i := 207) rfl (gk_selects _ _ _)⟩
theorem vl_RL_169 : VLk RL 169 98 := ⟨Or.inl (gw3 (i := 209) rfl (gk_methodLink _ _ _)), mk_98, gw3 (i := 210) rfl (gk_instanceMethod _), gw3 (i := 211) rfl (gk_selects _ _ _)⟩
theorem vl_RX5_309 : VLk RX5 309 43 := ⟨Or.inl (gw3 (i := 213) rfl (gk_methodLink _ _ _)), mk_43, gw3 (i := 214) rfl (gk_instanceMethod _), gw3 (i := 215) rfl (gk_selects _ _ _)⟩
theorem vl_RL_173 : VLk RL 173 99 := ⟨Or.inl (gw3 (i := 217) rfl (gk_methodLink _ _ _)), mk_99, gw3 (i := 218) rfl (gk_instanceMethod _), gw3 (i := 219) rfl (gk_selects _ _ _)⟩
theorem vl_RX5_312 : VLk RX5 312 101 := ⟨Or.inl (gw3 (i := 221) rfl (gk_methodLink _ _ _)), mk_101, gw3 (i := 223) rfl (gk_instanceMethod _), List.mem_filter.mpr ⟨List.mem_append_left _ (List.mem_of_getElem? (i := 34) rfl), gk_selects _ _ _⟩⟩
theorem vl_RL_177 : VLk RL 177 100 := ⟨Or.inl (gw3 (i := 225) rfl (gk_methodLink _ _ _)), mk_100, gw3 (i := 226) rfl (gk_instanceMethod _), gw3 (i := 227) rfl (gk_selects _ _ _)⟩
theorem vl_RL_181 : VLk RL 181 104 := ⟨Or.inl (gw3 (i := 229) rfl (gk_methodLink _ _ _)), mk_104, gw3 (i := 230) rfl (gk_instanceMethod _), gw3 (i := 231) rfl (gk_selects _ _ _)⟩
theorem vl_RX5_335 : VLk RX5 335 107 := ⟨Or.inl (gw3 (i := 233) rfl (gk_methodLink _ _ _)), mk_107, gw3 (i := 235) rfl (gk_instanceMethod _), List.mem_filter.mpr ⟨List.mem_append_left _ (List.mem_of_getElem? (i := 35) rfl), gk_selects _ _ _⟩⟩
theorem vl_RX5_338 : VLk RX5 338 39 := ⟨Or.inl (gw3 (i := 237) rfl (gk_methodLink _ _ _)), mk_39, gw3 (i := 238) rfl (gk_instanceMethod _), gw3 (i := 239) rfl (gk_selects _ _ _)⟩
theorem vl_RL_186 : VLk RL 186 105 := ⟨Or.inl (gw4 (i := 1) rfl (gk_methodLink _ _ _)), mk_105, gw4 (i := 2) rfl (gk_instanceMethod _), gw4 (i := 3) rfl (gk_selects _ _ _)⟩
theorem vl_RL_190 : VLk RL 190 106 := ⟨Or.inl (gw4 (i := 5) rfl (gk_methodLink _ _ _)), mk_106, gw4 (i := 6) rfl (gk_instanceMethod _), gw4 (i := 7) rfl (gk_selects _ _ _)⟩
theorem vl_RX5_343 : VLk RX5 343 41 := ⟨Or.inl (gw4 (i := 9) rfl (gk_methodLink _ _ _)), mk_41, gw4 (i := 10) rfl (gk_instanceMethod _), gw4 (i := 11) rfl (gk_selects _ _ _)⟩
theorem vl_RL_194 : VLk RL 194 109 := ⟨Or.inl (gw4 (i := 13) rfl (gk_methodLink _ _ _)), mk_109, gw4 (i := 14) rfl (gk_instanceMethod _), gw4 (i := 15) rfl (gk_selects _ _ _)⟩
theorem vl_RL_198 : VLk RL 198 110 := ⟨Or.inl (gw4 (i := 17) rfl (gk_methodLink _ _ _)), mk_110, gw4 (i := 18) rfl (gk_instanceMethod _), gw4 (i := 19) rfl (gk_selects _ _ _)⟩
theorem vl_RL_202 : VLk RL 202 111 := ⟨Or.inl (gw4 (i := 21) rfl (gk_methodLink _ _ _)), mk_111, gw4 (i := 22) rfl (gk_instanceMethod _), gw4 (i := 23) rfl (gk_selects _ _ _)⟩
theorem vl_RL_210 : VLk RL 210 112 := ⟨Or.inl (gw4 (i := 25) rfl (gk_methodLink _ _ _)), mk_112, gw4 (i := 26) rfl (gk_instanceMethod _), gw4 (i := 27) rfl (gk_selects _ _ _)⟩
theorem vl_RX5_345 : VLk RX5 345 113 := ⟨Or.inl (gw4 (i := 29) rfl (gk_methodLink _ _ _)), mk_113, gw4 (i := 31) rfl (gk_instanceMethod _), List.mem_filter.mpr ⟨List.mem_append_left _ (List.mem_of_getElem? (i := 36) rfl), gk_selects _ _ _⟩⟩
theorem vl_RL_214 : VLk RL 214 114 := ⟨Or.inl (gw4 (i := 33) rfl (gk_methodLink _ _ _)), mk_114, gw4 (i := 34) rfl (gk_instanceMethod _), gw4 (i := 35) rfl (gk_selects _ _ _)⟩
theorem vl_RX5_349 : VLk RX5 349 27 := ⟨Or.inl (gw4 (i := 37) rfl (gk_methodLink _ _ _)), mk_27, gw4 (i := 38) rfl (gk_instanceMethod _), gw4 (i := 39) rfl (gk_selects _ _ _)⟩
theorem vl_RX2_78 : VLk RX2 78 2 := ⟨Or.inl (gw4 (i := 41) rfl (gk_methodLink _ _ _)), mk_2, gw3 (i := 198) rfl (gk_instanceMethod _), gw3 (i := 199) rfl (gk_selects _ _ _)⟩
theorem vl_RL_218 : VLk RL 218 115 := ⟨Or.inl (gw4 (i := 42) rfl (gk_methodLink _ _ _)), mk_115, gw4 (i := 43) rfl (gk_instanceMethod _), gw4 (i := 44) rfl (gk_selects _ _ _)⟩
theorem vl_RL_222 : VLk RL 222 116 := ⟨Or.inl (gw4 (i := 46) rfl (gk_methodLink _ _ _)), mk_116, gw4 (i := 47) rfl (gk_instanceMethod _), gw4 (i := 48) rfl (gk_selects _ _ _)⟩
theorem vl_RX5_351 : VLk RX5 351 118 := ⟨Or.inl (gw4 (i := 50) rfl (gk_methodLink _ _ _)), mk_118, gw4 (i := 52) rfl (gk_instanceMethod _), List.mem_filter.mpr ⟨List.mem_append_left _ (List.mem_of_getElem? (i := 37) rfl), gk_selects _ _ _⟩⟩
theorem vl_RX5_354 : VLk RX5 354 119 := ⟨Or.inl (gw4 (i := 54) rfl (gk_methodLink _ _ _)), mk_119, gw4 (i := 56) rfl (gk_instanceMethod _), List.mem_filter.mpr ⟨List.mem_append_left _ (List.mem_of_getElem? (i := 38) rfl), gk_selects _ _ _⟩⟩
theorem vl_RX5_357 : VLk RX5 357 120 := ⟨Or.inl (gw4 (i := 58) rfl (gk_methodLink _ _ _)), mk_120, gw4 (i := 60) rfl (gk_instanceMethod _), List.mem_filter.mpr ⟨List.mem_append_left _ (List.mem_of_getElem? (i := 39) rfl), gk_selects _ _ _⟩⟩
theorem vl_RX5_360 : VLk RX5 360 121 := ⟨Or.inl (gw4 (i := 62) rfl (gk_methodLink _ _ _)), mk_121, gw4 (i := 64) rfl (gk_instanceMethod _), List.mem_filter.mpr ⟨List.mem_append_left _ (List.mem_of_getElem? (i := 40) rfl), gk_selects _ _ _⟩⟩
theorem vl_RX5_363 : VLk RX5 363 122 := ⟨Or.inl (gw4 (i := 66) rfl (gk_methodLink _ _ _)), mk_122, gw4 (i := 68) rfl (gk_instanceMethod _), List.mem_filter.mpr ⟨List.mem_append_left _ (List.mem_of_getElem? (i := 41) rfl), gk_selects _ _ _⟩⟩
theorem vl_RX5_366 : VLk RX5 366 123 := ⟨Or.inl (gw4 (i := 70) rfl (gk_methodLink _ _ _)), mk_123, gw4 (i := 72) rfl (gk_instanceMethod _), List.mem_filter.mpr ⟨List.mem_append_left _ (List.mem_of_getElem? (i := 42) rfl), gk_selects _ _ _⟩⟩
theorem il_RL_12 : ILk RL 12 135 := ⟨Or.inl (gw4 (i := 76) rfl (gk_methodLink _ _ _)), mk_135, gw4 (i := 77) rfl (gk_instanceMethod _), rfl, rfl⟩
theorem fl_RX6_7 : FLk RX6 7 6 0 (.array .int) := ⟨RX6, TX6, 23, tyX6, rfl, rfl, by decide, inG6, tyX6_ok, nmX6, rfl, rfl, Or.inl (gw4 (i := 80) rfl (gk_fieldLink _ _ _ _ _))⟩
theorem fl_RX6_13 : FLk RX6 13 6 1 (.array .int) := ⟨RX6, TX6, 23, tyX6, rfl, rfl, by decide, inG6, tyX6_ok, nmX6, rfl, rfl, Or.inl (gw4 (i := 81) rfl (gk_fieldLink _ _ _ _ _))⟩
theorem fl_RX6_16 : FLk RX6 16 6 2 (.array .int) := ⟨RX6, TX6, 23, tyX6, rfl, rfl, by decide, inG6, tyX6_ok, nmX6, rfl, rfl, Or.inl (gw4 (i := 82) rfl (gk_fieldLink _ _ _ _ _))⟩
theorem fl_RX6_19 : FLk RX6 19 6 3 (.array .int) := ⟨RX6, TX6, 23, tyX6, rfl, rfl, by decide, inG6, tyX6_ok, nmX6, rfl, rfl, Or.inl (gw4 (i := 83) rfl (gk_fieldLink _ _ _ _ _))⟩
theorem fl_RX6_22 : FLk RX6 22 6 4 (.array .int) := ⟨RX6, TX6, 23, tyX6, rfl, rfl, by decide, inG6, tyX6_ok, nmX6, rfl, rfl, Or.inl (gw4 (i := 84) rfl (gk_fieldLink _ _ _ _ _))⟩
theorem fl_RX6_25 : FLk RX6 25 6 5 (.array .int) := ⟨RX6, TX6, 23, tyX6, rfl, rfl, by decide, inG6, tyX6_ok, nmX6, rfl, rfl, Or.inl (gw4 (i := 85) rfl (gk_fieldLink _ _ _ _ _))⟩
theorem fl_RX6_28 : FLk RX6 28 6 6 (.array .int) := ⟨RX6, TX6, 23, tyX6, rfl, rfl, by decide, inG6, tyX6_ok, nmX6, rfl, rfl, Or.inl (gw4 (i := 86) rfl (gk_fieldLink _ _ _ _ _))⟩
theorem fl_RX6_31 : FLk RX6 31 6 7 (.array .int) := ⟨RX6, TX6, 23, tyX6, rfl, rfl, by decide, inG6, tyX6_ok, nmX6, rfl, rfl, Or.inl (gw4 (i := 87) rfl (gk_fieldLink _ _ _ _ _))⟩
theorem fl_RX6_105 : FLk RX6 105 6 8 .int := ⟨RX6, TX6, 23, tyX6, rfl, rfl, by decide, inG6, tyX6_ok, nmX6, rfl, rfl, Or.inl (gw4 (i := 88) rfl (gk_fieldLink _ _ _ _ _))⟩
theorem fw_RX6_105 : FLw RX6 105 6 8 .int := ⟨fl_RX6_105, fun C T N h => by cases h; rfl⟩
theorem fl_RX6_34 : FLk RX6 34 6 9 (.array .int) := ⟨RX6, TX6, 23, tyX6, rfl, rfl, by decide, inG6, tyX6_ok, nmX6, rfl, rfl, Or.inl (gw4 (i := 89) rfl (gk_fieldLink _ _ _ _ _))⟩
theorem fl_RX6_37 : FLk RX6 37 6 10 (.array .int) := ⟨RX6, TX6, 23, tyX6, rfl, rfl, by decide, inG6, tyX6_ok, nmX6, rfl, rfl, Or.inl (gw4 (i := 90) rfl (gk_fieldLink _ _ _ _ _))⟩
theorem fl_RX6_40 : FLk RX6 40 6 11 (.array .int) := ⟨RX6, TX6, 23, tyX6, rfl, rfl, by decide, inG6, tyX6_ok, nmX6, rfl, rfl, Or.inl (gw4 (i := 91) rfl (gk_fieldLink _ _ _ _ _))⟩
theorem fl_RX6_43 : FLk RX6 43 6 12 (.array .int) := ⟨RX6, TX6, 23, tyX6, rfl, rfl, by decide, inG6, tyX6_ok, nmX6, rfl, rfl, Or.inl (gw4 (i := 92) rfl (gk_fieldLink _ _ _ _ _))⟩
theorem fl_RX6_46 : FLk RX6 46 6 13 (.array .int) := ⟨RX6, TX6, 23, tyX6, rfl, rfl, by decide, inG6, tyX6_ok, nmX6, rfl, rfl, Or.inl (gw4 (i := 93) rfl (gk_fieldLink _ _ _ _ _))⟩
theorem fl_RX6_49 : FLk RX6 49 6 14 (.array .int) := ⟨RX6, TX6, 23, tyX6, rfl, rfl, by decide, inG6, tyX6_ok, nmX6, rfl, rfl, Or.inl (gw4 (i := 94) rfl (gk_fieldLink _ _ _ _ _))⟩
theorem fl_RX6_52 : FLk RX6 52 6 15 (.array .int) := ⟨RX6, TX6, 23, tyX6, rfl, rfl, by decide, inG6, tyX6_ok, nmX6, rfl, rfl, Or.inl (gw4 (i := 95) rfl (gk_fieldLink _ _ _ _ _))⟩
theorem fl_RX6_55 : FLk RX6 55 6 16 (.array .int) := ⟨RX6, TX6, 23, tyX6, rfl, rfl, by decide, inG6, tyX6_ok, nmX6, rfl, rfl, Or.inl (gw4 (i := 96) rfl (gk_fieldLink _ _ _ _ _))⟩
theorem fl_RX6_58 : FLk RX6 58 6 17 (.array .int) := ⟨RX6, TX6, 23, tyX6, rfl, rfl, by decide, inG6, tyX6_ok, nmX6, rfl, rfl, Or.inl (gw4 (i := 97) rfl (gk_fieldLink _ _ _ _ _))⟩
theorem fl_RX6_61 : FLk RX6 61 6 18 (.array .int) := ⟨RX6, TX6, 23, tyX6, rfl, rfl, by decide, inG6, tyX6_ok, nmX6, rfl, rfl, Or.inl (gw4 (i := 98) rfl (gk_fieldLink _ _ _ _ _))⟩
theorem fl_RX6_64 : FLk RX6 64 6 19 (.array .int) := ⟨RX6, TX6, 23, tyX6, rfl, rfl, by decide, inG6, tyX6_ok, nmX6, rfl, rfl, Or.inl (gw4 (i := 99) rfl (gk_fieldLink _ _ _ _ _))⟩
theorem fl_RX6_67 : FLk RX6 67 6 20 (.array .int) := ⟨RX6, TX6, 23, tyX6, rfl, rfl, by decide, inG6, tyX6_ok, nmX6, rfl, rfl, Or.inl (gw4 (i := 100) rfl (gk_fieldLink _ _ _ _ _))⟩
theorem fl_RX6_70 : FLk RX6 70 6 21 (.array .int) := ⟨RX6, TX6, 23, tyX6, rfl, rfl, by decide, inG6, tyX6_ok, nmX6, rfl, rfl, Or.inl (gw4 (i := 101) rfl (gk_fieldLink _ _ _ _ _))⟩
theorem fl_RX6_73 : FLk RX6 73 6 22 (.array .int) := ⟨RX6, TX6, 23, tyX6, rfl, rfl, by decide, inG6, tyX6_ok, nmX6, rfl, rfl, Or.inl (gw4 (i := 102) rfl (gk_fieldLink _ _ _ _ _))⟩
theorem vl_RL_17 : VLk RL 17 143 := ⟨Or.inl (gw4 (i := 150) rfl (gk_methodLink _ _ _)), mk_143, gw4 (i := 151) rfl (gk_instanceMethod _), gw4 (i := 152) rfl (gk_selects _ _ _)⟩
theorem tl_RX6_76 : TLk RX6 76 136 := ⟨Or.inl (gw4 (i := 154) rfl (gk_methodLink _ _ _)), mk_136, gw4 (i := 155) rfl (gk_static _)⟩
theorem vl_RX6_84 : VLk RX6 84 142 := ⟨Or.inl (gw4 (i := 157) rfl (gk_methodLink _ _ _)), mk_142, gw4 (i := 159) rfl (gk_instanceMethod _), List.mem_filter.mpr ⟨List.mem_append_left _ (List.mem_of_getElem? (i := 43) rfl), gk_selects _ _ _⟩⟩
theorem vl_RX6_80 : VLk RX6 80 138 := ⟨Or.inl (gw4 (i := 161) rfl (gk_methodLink _ _ _)), mk_138, gw4 (i := 163) rfl (gk_instanceMethod _), List.mem_filter.mpr ⟨List.mem_append_left _ (List.mem_of_getElem? (i := 44) rfl), gk_selects _ _ _⟩⟩
theorem vl_RL_21 : VLk RL 21 144 := ⟨Or.inl (gw4 (i := 165) rfl (gk_methodLink _ _ _)), mk_144, gw4 (i := 166) rfl (gk_instanceMethod _), gw4 (i := 167) rfl (gk_selects _ _ _)⟩
theorem vl_RL_26 : VLk RL 26 148 := ⟨Or.inl (gw4 (i := 169) rfl (gk_methodLink _ _ _)), mk_148, gw4 (i := 170) rfl (gk_instanceMethod _), gw4 (i := 171) rfl (gk_selects _ _ _)⟩
theorem vl_RX6_94 : VLk RX6 94 149 := ⟨Or.inl (gw4 (i := 173) rfl (gk_methodLink _ _ _)), mk_149, gw4 (i := 175) rfl (gk_instanceMethod _), List.mem_filter.mpr ⟨List.mem_append_left _ (List.mem_of_getElem? (i := 45) rfl), gk_selects _ _ _⟩⟩
theorem vl_RX6_91 : VLk RX6 91 146 := ⟨Or.inl (gw4 (i := 177) rfl (gk_methodLink _ _ _)), mk_146, gw4 (i := 179) rfl (gk_instanceMethod _), List.mem_filter.mpr ⟨List.mem_append_left _ (List.mem_of_getElem? (i := 46) rfl), gk_selects _ _ _⟩⟩
theorem vl_RX6_88 : VLk RX6 88 145 := ⟨Or.inl (gw4 (i := 181) rfl (gk_methodLink _ _ _)), mk_145, gw4 (i := 183) rfl (gk_instanceMethod _), List.mem_filter.mpr ⟨List.mem_append_left _ (List.mem_of_getElem? (i := 47) rfl), gk_selects _ _ _⟩⟩
theorem vl_RX6_98 : VLk RX6 98 147 := ⟨Or.inl (gw4 (i := 185) rfl (gk_methodLink _ _ _)), mk_147, gw4 (i := 187) rfl (gk_instanceMethod _), List.mem_filter.mpr ⟨List.mem_append_left _ (List.mem_of_getElem? (i := 48) rfl), gk_selects _ _ _⟩⟩
theorem vl_RL_30 : VLk RL 30 151 := ⟨Or.inl (gw4 (i := 189) rfl (gk_methodLink _ _ _)), mk_151, gw4 (i := 190) rfl (gk_instanceMethod _), gw4 (i := 191) rfl (gk_selects _ _ _)⟩
theorem vl_RX6_101 : VLk RX6 101 150 := ⟨Or.inl (gw4 (i := 193) rfl (gk_methodLink _ _ _)), mk_150, gw4 (i := 195) rfl (gk_instanceMethod _), List.mem_filter.mpr ⟨List.mem_append_left _ (List.mem_of_getElem? (i := 49) rfl), gk_selects _ _ _⟩⟩
theorem vl_RL_35 : VLk RL 35 174 := ⟨Or.inl (gw4 (i := 197) rfl (gk_methodLink _ _ _)), mk_174, gw4 (i := 198) rfl (gk_instanceMethod _), gw4 (i := 199) rfl (gk_selects _ _ _)⟩
theorem vl_RX6_173 : VLk RX6 173 139 := ⟨Or.inl (gw4 (i := 201) rfl (gk_methodLink _ _ _)), mk_139, gw4 (i := 203) rfl (gk_instanceMethod _), List.mem_filter.mpr ⟨List.mem_append_left _ (List.mem_of_getElem? (i := 50) rfl), gk_selects _ _ _⟩⟩
theorem vl_RX6_176 : VLk RX6 176 182 := ⟨Or.inl (gw4 (i := 205) rfl (gk_methodLink _ _ _)), mk_182, gw4 (i := 207) rfl (gk_instanceMethod _), List.mem_filter.mpr ⟨List.mem_append_left _ (List.mem_of_getElem? (i := 51) rfl), gk_selects _ _ _⟩⟩
theorem vl_RX6_179 : VLk RX6 179 198 := ⟨Or.inl (gw4 (i := 209) rfl (gk_methodLink _ _ _)), mk_198, gw4 (i := 211) rfl (gk_instanceMethod _), List.mem_filter.mpr ⟨List.mem_append_left _ (List.mem_of_getElem? (i := 52) rfl), gk_selects _ _ _⟩⟩
theorem vl_RX6_182 : VLk RX6 182 175 := ⟨Or.inl (gw4 (i := 213) rfl (gk_methodLink _ _ _)), mk_175, gw4 (i := 215) rfl (gk_instanceMethod _), List.mem_filter.mpr ⟨List.mem_append_left _ (List.mem_of_getElem? (i := 53) rfl), gk_selects _ _ _⟩⟩
theorem vl_RL_40 : VLk RL 40 176 := ⟨Or.inl (gw4 (i := 217) rfl (gk_methodLink _ _ _)), mk_176, gw4 (i := 218) rfl (gk_instanceMethod _), gw4 (i := 219) rfl (gk_selects _ _ _)⟩
theorem vl_RX6_124 : VLk RX6 124 137 := ⟨Or.inl (gw4 (i := 221) rfl (gk_methodLink _ _ _)), mk_137, gw4 (i := 223) rfl (gk_instanceMethod _), List.mem_filter.mpr ⟨List.mem_append_left _ (List.mem_of_getElem? (i := 54) rfl), gk_selects _ _ _⟩⟩
theorem vl_RL_160 : VLk RL 160 180 := ⟨Or.inl (gw4 (i := 225) rfl (gk_methodLink _ _ _)), mk_180, gw4 (i := 226) rfl (gk_instanceMethod _), gw4 (i := 227) rfl (gk_selects _ _ _)⟩
theorem vl_RL_164 : VLk RL 164 181 := ⟨Or.inl (gw4 (i := 229) rfl (gk_methodLink _ _ _)), mk_181, gw4 (i := 230) rfl (gk_instanceMethod _), gw4 (i := 231) rfl (gk_selects _ _ _)⟩
theorem vl_RL_172 : VLk RL 172 186 := ⟨Or.inl (gw4 (i := 233) rfl (gk_methodLink _ _ _)), mk_186, gw4 (i := 234) rfl (gk_instanceMethod _), gw4 (i := 235) rfl (gk_selects _ _ _)⟩
theorem vl_RX6_207 : VLk RX6 207 157 := ⟨Or.inl (gw4 (i := 237) rfl (gk_methodLink _ _ _)), mk_157, gw4 (i := 239) rfl (gk_instanceMethod _), List.mem_filter.mpr ⟨List.mem_append_left _ (List.mem_of_getElem? (i := 55) rfl), gk_selects _ _ _⟩⟩
theorem tl_RX6_127 : TLk RX6 127 156 := ⟨Or.inl (gw5 (i := 1) rfl (gk_methodLink _ _ _)), mk_156, gw5 (i := 2) rfl (gk_static _)⟩
theorem vl_RX6_203 : VLk RX6 203 184 := ⟨Or.inl (gw5 (i := 4) rfl (gk_methodLink _ _ _)), mk_184, gw5 (i := 6) rfl (gk_instanceMethod _), List.mem_filter.mpr ⟨List.mem_append_left _ (List.mem_of_getElem? (i := 56) rfl), gk_selects _ _ _⟩⟩
theorem vl_RX6_194 : VLk RX6 194 155 := ⟨Or.inl (gw5 (i := 8) rfl (gk_methodLink _ _ _)), mk_155, gw5 (i := 10) rfl (gk_instanceMethod _), List.mem_filter.mpr ⟨List.mem_append_left _ (List.mem_of_getElem? (i := 57) rfl), gk_selects _ _ _⟩⟩
theorem vl_RX6_113 : VLk RX6 113 152 := ⟨Or.inl (gw5 (i := 12) rfl (gk_methodLink _ _ _)), mk_152, gw5 (i := 14) rfl (gk_instanceMethod _), List.mem_filter.mpr ⟨List.mem_append_left _ (List.mem_of_getElem? (i := 58) rfl), gk_selects _ _ _⟩⟩
theorem vl_RX6_116 : VLk RX6 116 141 := ⟨Or.inl (gw5 (i := 16) rfl (gk_methodLink _ _ _)), mk_141, gw5 (i := 18) rfl (gk_instanceMethod _), List.mem_filter.mpr ⟨List.mem_append_left _ (List.mem_of_getElem? (i := 59) rfl), gk_selects _ _ _⟩⟩
theorem vl_RX6_120 : VLk RX6 120 154 := ⟨Or.inl (gw5 (i := 20) rfl (gk_methodLink _ _ _)), mk_154, gw5 (i := 22) rfl (gk_instanceMethod _), List.mem_filter.mpr ⟨List.mem_append_left _ (List.mem_of_getElem? (i := 60) rfl), gk_selects _ _ _⟩⟩
theorem vl_RX6_109 : VLk RX6 109 153 := ⟨Or.inl (gw5 (i := 24) rfl (gk_methodLink _ _ _)), mk_153, gw5 (i := 26) rfl (gk_instanceMethod _), List.mem_filter.mpr ⟨List.mem_append_left _ (List.mem_of_getElem? (i := 61) rfl), gk_selects _ _ _⟩⟩
theorem vl_RX6_197 : VLk RX6 197 159 := ⟨Or.inl (gw5 (i := 28) rfl (gk_methodLink _ _ _)), mk_159, gw5 (i := 30) rfl (gk_instanceMethod _), List.mem_filter.mpr ⟨List.mem_append_left _ (List.mem_of_getElem? (i := 62) rfl), gk_selects _ _ _⟩⟩
theorem co_RX6_160 : Cond.constant RX6 160 (i3 (-2147483648)) ∈ gT := gw5 (i := 32) rfl (gk_constant _ _ _)
theorem vl_RX6_161 : VLk RX6 161 158 := ⟨Or.inl (gw5 (i := 33) rfl (gk_methodLink _ _ _)), mk_158, gw5 (i := 35) rfl (gk_instanceMethod _), List.mem_filter.mpr ⟨List.mem_append_left _ (List.mem_of_getElem? (i := 63) rfl), gk_selects _ _ _⟩⟩
theorem vl_RX6_130 : VLk RX6 130 160 := ⟨Or.inl (gw5 (i := 37) rfl (gk_methodLink _ _ _)), mk_160, gw5 (i := 39) rfl (gk_instanceMethod _), List.mem_filter.mpr ⟨List.mem_append_left _ (List.mem_of_getElem? (i := 64) rfl), gk_selects _ _ _⟩⟩
theorem vl_RX6_133 : VLk RX6 133 161 := ⟨Or.inl (gw5 (i := 41) rfl (gk_methodLink _ _ _)), mk_161, gw5 (i := 43) rfl (gk_instanceMethod _), List.mem_filter.mpr ⟨List.mem_append_left _ (List.mem_of_getElem? (i := 65) rfl), gk_selects _ _ _⟩⟩
theorem vl_RX6_136 : VLk RX6 136 163 := ⟨Or.inl (gw5 (i := 45) rfl (gk_methodLink _ _ _)), mk_163, gw5 (i := 47) rfl (gk_instanceMethod _), List.mem_filter.mpr ⟨List.mem_append_left _ (List.mem_of_getElem? (i := 66) rfl), gk_selects _ _ _⟩⟩
theorem tl_RX6_164 : TLk RX6 164 162 := ⟨Or.inl (gw5 (i := 49) rfl (gk_methodLink _ _ _)), mk_162, gw5 (i := 50) rfl (gk_static _)⟩
theorem vl_RX6_139 : VLk RX6 139 164 := ⟨Or.inl (gw5 (i := 52) rfl (gk_methodLink _ _ _)), mk_164, gw5 (i := 54) rfl (gk_instanceMethod _), List.mem_filter.mpr ⟨List.mem_append_left _ (List.mem_of_getElem? (i := 67) rfl), gk_selects _ _ _⟩⟩
theorem vl_RX6_142 : VLk RX6 142 165 := ⟨Or.inl (gw5 (i := 56) rfl (gk_methodLink _ _ _)), mk_165, gw5 (i := 58) rfl (gk_instanceMethod _), List.mem_filter.mpr ⟨List.mem_append_left _ (List.mem_of_getElem? (i := 68) rfl), gk_selects _ _ _⟩⟩
theorem tl_RX6_167 : TLk RX6 167 166 := ⟨Or.inl (gw5 (i := 60) rfl (gk_methodLink _ _ _)), mk_166, gw5 (i := 61) rfl (gk_static _)⟩
theorem vl_RX6_145 : VLk RX6 145 167 := ⟨Or.inl (gw5 (i := 63) rfl (gk_methodLink _ _ _)), mk_167, gw5 (i := 65) rfl (gk_instanceMethod _), List.mem_filter.mpr ⟨List.mem_append_left _ (List.mem_of_getElem? (i := 69) rfl), gk_selects _ _ _⟩⟩
theorem vl_RX6_148 : VLk RX6 148 169 := ⟨Or.inl (gw5 (i := 67) rfl (gk_methodLink _ _ _)), mk_169, gw5 (i := 69) rfl (gk_instanceMethod _), List.mem_filter.mpr ⟨List.mem_append_left _ (List.mem_of_getElem? (i := 70) rfl), gk_selects _ _ _⟩⟩
theorem vl_RX6_170 : VLk RX6 170 168 := ⟨Or.inl (gw5 (i := 71) rfl (gk_methodLink _ _ _)), mk_168, gw5 (i := 73) rfl (gk_instanceMethod _), List.mem_filter.mpr ⟨List.mem_append_left _ (List.mem_of_getElem? (i := 71) rfl), gk_selects _ _ _⟩⟩
theorem vl_RX6_151 : VLk RX6 151 170 := ⟨Or.inl (gw5 (i := 75) rfl (gk_methodLink _ _ _)), mk_170, gw5 (i := 77) rfl (gk_instanceMethod _), List.mem_filter.mpr ⟨List.mem_append_left _ (List.mem_of_getElem? (i := 72) rfl), gk_selects _ _ _⟩⟩
theorem vl_RX6_154 : VLk RX6 154 171 := ⟨Or.inl (gw5 (i := 79) rfl (gk_methodLink _ _ _)), mk_171, gw5 (i := 81) rfl (gk_instanceMethod _), List.mem_filter.mpr ⟨List.mem_append_left _ (List.mem_of_getElem? (i := 73) rfl), gk_selects _ _ _⟩⟩
theorem vl_RX6_157 : VLk RX6 157 172 := ⟨Or.inl (gw5 (i := 83) rfl (gk_methodLink _ _ _)), mk_172, gw5 (i := 85) rfl (gk_instanceMethod _), List.mem_filter.mpr ⟨List.mem_append_left _ (List.mem_of_getElem? (i := 74) rfl), gk_selects _ _ _⟩⟩
theorem tl_RX6_200 : TLk RX6 200 173 := ⟨Or.inl (gw5 (i := 87) rfl (gk_methodLink _ _ _)), mk_173, gw5 (i := 88) rfl (gk_static _)⟩
theorem vl_RL_176 : VLk RL 176 187 := ⟨Or.inl (gw5 (i := 90) rfl (gk_methodLink _ _ _)), mk_187, gw5 (i := 91) rfl (gk_instanceMethod _), gw5 (i := 92) rfl (gk_selects _ _ _)⟩
theorem vl_RX6_210 : VLk RX6 210 183 := ⟨Or.inl (gw5 (i := 94) rfl (gk_methodLink _ _ _)), mk_183, gw5 (i := 96) rfl (gk_instanceMethod _), List.mem_filter.mpr ⟨List.mem_append_left _ (List.mem_of_getElem? (i := 75) rfl), gk_selects _ _ _⟩⟩
theorem vl_RL_180 : VLk RL 180 188 := ⟨Or.inl (gw5 (i := 98) rfl (gk_methodLink _ _ _)), mk_188, gw5 (i := 99) rfl (gk_instanceMethod _), gw5 (i := 100) rfl (gk_selects _ _ _)⟩
theorem vl_RL_185 : VLk RL 185 199 := ⟨Or.inl (gw5 (i := 102) rfl (gk_methodLink _ _ _)), mk_199, gw5 (i := 103) rfl (gk_instanceMethod _), gw5 (i := 104) rfl (gk_selects _ _ _)⟩
theorem co_RX6_239 : Cond.constant RX6 239 (i3 (100000)) ∈ gT := gw5 (i := 106) rfl (gk_constant _ _ _)
theorem vl_RX6_240 : VLk RX6 240 197 := ⟨Or.inl (gw5 (i := 107) rfl (gk_methodLink _ _ _)), mk_197, gw5 (i := 109) rfl (gk_instanceMethod _), List.mem_filter.mpr ⟨List.mem_append_left _ (List.mem_of_getElem? (i := 76) rfl), gk_selects _ _ _⟩⟩
theorem vl_RL_189 : VLk RL 189 200 := ⟨Or.inl (gw5 (i := 111) rfl (gk_methodLink _ _ _)), mk_200, gw5 (i := 112) rfl (gk_instanceMethod _), gw5 (i := 113) rfl (gk_selects _ _ _)⟩
theorem vl_RL_193 : VLk RL 193 201 := ⟨Or.inl (gw5 (i := 115) rfl (gk_methodLink _ _ _)), mk_201, gw5 (i := 116) rfl (gk_instanceMethod _), gw5 (i := 117) rfl (gk_selects _ _ _)⟩
theorem vl_RL_45 : VLk RL 45 205 := ⟨Or.inl (gw5 (i := 119) rfl (gk_methodLink _ _ _)), mk_205, gw5 (i := 120) rfl (gk_instanceMethod _), gw5 (i := 121) rfl (gk_selects _ _ _)⟩
theorem vl_RX6_247 : VLk RX6 247 202 := ⟨Or.inl (gw5 (i := 123) rfl (gk_methodLink _ _ _)), mk_202, gw5 (i := 125) rfl (gk_instanceMethod _), List.mem_filter.mpr ⟨List.mem_append_left _ (List.mem_of_getElem? (i := 77) rfl), gk_selects _ _ _⟩⟩
theorem vl_RX6_188 : VLk RX6 188 140 := ⟨Or.inl (gw5 (i := 127) rfl (gk_methodLink _ _ _)), mk_140, gw5 (i := 129) rfl (gk_instanceMethod _), List.mem_filter.mpr ⟨List.mem_append_left _ (List.mem_of_getElem? (i := 78) rfl), gk_selects _ _ _⟩⟩
theorem vl_RX6_250 : VLk RX6 250 203 := ⟨Or.inl (gw5 (i := 131) rfl (gk_methodLink _ _ _)), mk_203, gw5 (i := 133) rfl (gk_instanceMethod _), List.mem_filter.mpr ⟨List.mem_append_left _ (List.mem_of_getElem? (i := 79) rfl), gk_selects _ _ _⟩⟩
theorem vl_RX6_256 : VLk RX6 256 204 := ⟨Or.inl (gw5 (i := 135) rfl (gk_methodLink _ _ _)), mk_204, gw5 (i := 137) rfl (gk_instanceMethod _), List.mem_filter.mpr ⟨List.mem_append_left _ (List.mem_of_getElem? (i := 80) rfl), gk_selects _ _ _⟩⟩
theorem vl_RX6_243 : VLk RX6 243 213 := ⟨Or.inl (gw5 (i := 139) rfl (gk_methodLink _ _ _)), mk_213, gw5 (i := 141) rfl (gk_instanceMethod _), List.mem_filter.mpr ⟨List.mem_append_left _ (List.mem_of_getElem? (i := 81) rfl), gk_selects _ _ _⟩⟩
theorem vl_RX6_253 : VLk RX6 253 194 := ⟨Or.inl (gw5 (i := 143) rfl (gk_methodLink _ _ _)), mk_194, gw5 (i := 145) rfl (gk_instanceMethod _), List.mem_filter.mpr ⟨List.mem_append_left _ (List.mem_of_getElem? (i := 82) rfl), gk_selects _ _ _⟩⟩
theorem vl_RX6_224 : VLk RX6 224 191 := ⟨Or.inl (gw5 (i := 147) rfl (gk_methodLink _ _ _)), mk_191, gw5 (i := 149) rfl (gk_instanceMethod _), List.mem_filter.mpr ⟨List.mem_append_left _ (List.mem_of_getElem? (i := 83) rfl), gk_selects _ _ _⟩⟩
theorem vl_RX6_217 : VLk RX6 217 189 := ⟨Or.inl (gw5 (i := 151) rfl (gk_methodLink _ _ _)), mk_189, gw5 (i := 153) rfl (gk_instanceMethod _), List.mem_filter.mpr ⟨List.mem_append_left _ (List.mem_of_getElem? (i := 84) rfl), gk_selects _ _ _⟩⟩
theorem vl_RX6_213 : VLk RX6 213 190 := ⟨Or.inl (gw5 (i := 155) rfl (gk_methodLink _ _ _)), mk_190, gw5 (i := 157) rfl (gk_instanceMethod _), List.mem_filter.mpr ⟨List.mem_append_left _ (List.mem_of_getElem? (i := 85) rfl), gk_selects _ _ _⟩⟩
theorem vl_RX6_221 : VLk RX6 221 177 := ⟨Or.inl (gw5 (i := 159) rfl (gk_methodLink _ _ _)), mk_177, gw5 (i := 161) rfl (gk_instanceMethod _), List.mem_filter.mpr ⟨List.mem_append_left _ (List.mem_of_getElem? (i := 86) rfl), gk_selects _ _ _⟩⟩
theorem vl_RX6_185 : VLk RX6 185 178 := ⟨Or.inl (gw5 (i := 163) rfl (gk_methodLink _ _ _)), mk_178, gw5 (i := 165) rfl (gk_instanceMethod _), List.mem_filter.mpr ⟨List.mem_append_left _ (List.mem_of_getElem? (i := 87) rfl), gk_selects _ _ _⟩⟩
theorem vl_RX6_191 : VLk RX6 191 185 := ⟨Or.inl (gw5 (i := 167) rfl (gk_methodLink _ _ _)), mk_185, gw5 (i := 169) rfl (gk_instanceMethod _), List.mem_filter.mpr ⟨List.mem_append_left _ (List.mem_of_getElem? (i := 88) rfl), gk_selects _ _ _⟩⟩
theorem vl_RX6_227 : VLk RX6 227 179 := ⟨Or.inl (gw5 (i := 171) rfl (gk_methodLink _ _ _)), mk_179, gw5 (i := 173) rfl (gk_instanceMethod _), List.mem_filter.mpr ⟨List.mem_append_left _ (List.mem_of_getElem? (i := 89) rfl), gk_selects _ _ _⟩⟩
theorem vl_RX6_230 : VLk RX6 230 193 := ⟨Or.inl (gw5 (i := 175) rfl (gk_methodLink _ _ _)), mk_193, gw5 (i := 177) rfl (gk_instanceMethod _), List.mem_filter.mpr ⟨List.mem_append_left _ (List.mem_of_getElem? (i := 90) rfl), gk_selects _ _ _⟩⟩
theorem vl_RX6_233 : VLk RX6 233 192 := ⟨Or.inl (gw5 (i := 179) rfl (gk_methodLink _ _ _)), mk_192, gw5 (i := 181) rfl (gk_instanceMethod _), List.mem_filter.mpr ⟨List.mem_append_left _ (List.mem_of_getElem? (i := 91) rfl), gk_selects _ _ _⟩⟩
theorem vl_RX6_259 : VLk RX6 259 196 := ⟨Or.inl (gw5 (i := 183) rfl (gk_methodLink _ _ _)), mk_196, gw5 (i := 185) rfl (gk_instanceMethod _), List.mem_filter.mpr ⟨List.mem_append_left _ (List.mem_of_getElem? (i := 92) rfl), gk_selects _ _ _⟩⟩
theorem vl_RX6_236 : VLk RX6 236 195 := ⟨Or.inl (gw5 (i := 187) rfl (gk_methodLink _ _ _)), mk_195, gw5 (i := 189) rfl (gk_instanceMethod _), List.mem_filter.mpr ⟨List.mem_append_left _ (List.mem_of_getElem? (i := 93) rfl), gk_selects _ _ _⟩⟩
theorem vl_RL_50 : VLk RL 50 206 := ⟨Or.inl (gw5 (i := 191) rfl (gk_methodLink _ _ _)), mk_206, gw5 (i := 192) rfl (gk_instanceMethod _), gw5 (i := 193) rfl (gk_selects _ _ _)⟩
theorem vl_RL_55 : VLk RL 55 207 := ⟨Or.inl (gw5 (i := 195) rfl (gk_methodLink _ _ _)), mk_207, gw5 (i := 196) rfl (gk_instanceMethod _), gw5 (i := 197) rfl (gk_selects _ _ _)⟩
theorem vl_RL_59 : VLk RL 59 208 := ⟨Or.inl (gw5 (i := 199) rfl (gk_methodLink _ _ _)), mk_208, gw5 (i := 200) rfl (gk_instanceMethod _), gw5 (i := 201) rfl (gk_selects _ _ _)⟩
theorem vl_RL_63 : VLk RL 63 210 := ⟨Or.inl (gw5 (i := 203) rfl (gk_methodLink _ _ _)), mk_210, gw5 (i := 204) rfl (gk_instanceMethod _), gw5 (i := 205) rfl (gk_selects _ _ _)⟩
theorem vl_RX6_262 : VLk RX6 262 209 := ⟨Or.inl (gw5 (i := 207) rfl (gk_methodLink _ _ _)), mk_209, gw5 (i := 209) rfl (gk_instanceMethod _), List.mem_filter.mpr ⟨List.mem_append_left _ (List.mem_of_getElem? (i := 94) rfl), gk_selects _ _ _⟩⟩
theorem vl_RL_68 : VLk RL 68 211 := ⟨Or.inl (gw5 (i := 211) rfl (gk_methodLink _ _ _)), mk_211, gw5 (i := 212) rfl (gk_instanceMethod _), gw5 (i := 213) rfl (gk_selects _ _ _)⟩
theorem vl_RL_72 : VLk RL 72 212 := ⟨Or.inl (gw5 (i := 215) rfl (gk_methodLink _ _ _)), mk_212, gw5 (i := 216) rfl (gk_instanceMethod _), gw5 (i := 217) rfl (gk_selects _ _ _)⟩
theorem vl_RL_76 : VLk RL 76 214 := ⟨Or.inl (gw5 (i := 219) rfl (gk_methodLink _ _ _)), mk_214, gw5 (i := 220) rfl (gk_instanceMethod _), gw5 (i := 221) rfl (gk_selects _ _ _)⟩
theorem vl_RL_80 : VLk RL 80 215 := ⟨Or.inl (gw5 (i := 223) rfl (gk_methodLink _ _ _)), mk_215, gw5 (i := 224) rfl (gk_instanceMethod _), gw5 (i := 225) rfl (gk_selects _ _ _)⟩
theorem vl_RL_84 : VLk RL 84 217 := ⟨Or.inl (gw5 (i := 227) rfl (gk_methodLink _ _ _)), mk_217, gw5 (i := 228) rfl (gk_instanceMethod _), gw5 (i := 229) rfl (gk_selects _ _ _)⟩
theorem vl_RX6_265 : VLk RX6 265 216 := ⟨Or.inl (gw5 (i := 231) rfl (gk_methodLink _ _ _)), mk_216, gw5 (i := 233) rfl (gk_instanceMethod _), List.mem_filter.mpr ⟨List.mem_append_left _ (List.mem_of_getElem? (i := 95) rfl), gk_selects _ _ _⟩⟩
theorem vl_RL_88 : VLk RL 88 218 := ⟨Or.inl (gw5 (i := 235) rfl (gk_methodLink _ _ _)), mk_218, gw5 (i := 236) rfl (gk_instanceMethod _), gw5 (i := 237) rfl (gk_selects _ _ _)⟩
theorem vl_RL_92 : VLk RL 92 219 := ⟨Or.inl (gw5 (i := 239) rfl (gk_methodLink _ _ _)), mk_219, gw6 (i := 0) rfl (gk_instanceMethod _), gw6 (i := 1) rfl (gk_selects _ _ _)⟩
theorem vl_RL_96 : VLk RL 96 220 := ⟨Or.inl (gw6 (i := 3) rfl (gk_methodLink _ _ _)), mk_220, gw6 (i := 4) rfl (gk_instanceMethod _), gw6 (i := 5) rfl (gk_selects _ _ _)⟩
theorem vl_RL_104 : VLk RL 104 222 := ⟨Or.inl (gw6 (i := 7) rfl (gk_methodLink _ _ _)), mk_222, gw6 (i := 8) rfl (gk_instanceMethod _), gw6 (i := 9) rfl (gk_selects _ _ _)⟩
theorem vl_RX6_268 : VLk RX6 268 221 := ⟨Or.inl (gw6 (i := 11) rfl (gk_methodLink _ _ _)), mk_221, gw6 (i := 13) rfl (gk_instanceMethod _), List.mem_filter.mpr ⟨List.mem_append_left _ (List.mem_of_getElem? (i := 96) rfl), gk_selects _ _ _⟩⟩
theorem vl_RL_100 : VLk RL 100 223 := ⟨Or.inl (gw6 (i := 15) rfl (gk_methodLink _ _ _)), mk_223, gw6 (i := 16) rfl (gk_instanceMethod _), gw6 (i := 17) rfl (gk_selects _ _ _)⟩
theorem vl_RL_108 : VLk RL 108 225 := ⟨Or.inl (gw6 (i := 19) rfl (gk_methodLink _ _ _)), mk_225, gw6 (i := 20) rfl (gk_instanceMethod _), gw6 (i := 21) rfl (gk_selects _ _ _)⟩
theorem vl_RX6_271 : VLk RX6 271 224 := ⟨Or.inl (gw6 (i := 23) rfl (gk_methodLink _ _ _)), mk_224, gw6 (i := 25) rfl (gk_instanceMethod _), List.mem_filter.mpr ⟨List.mem_append_left _ (List.mem_of_getElem? (i := 97) rfl), gk_selects _ _ _⟩⟩
theorem vl_RL_112 : VLk RL 112 226 := ⟨Or.inl (gw6 (i := 27) rfl (gk_methodLink _ _ _)), mk_226, gw6 (i := 28) rfl (gk_instanceMethod _), gw6 (i := 29) rfl (gk_selects _ _ _)⟩
theorem vl_RL_116 : VLk RL 116 227 := ⟨Or.inl (gw6 (i := 31) rfl (gk_methodLink _ _ _)), mk_227, gw6 (i := 32) rfl (gk_instanceMethod _), gw6 (i := 33) rfl (gk_selects _ _ _)⟩
theorem vl_RL_120 : VLk RL 120 230 := ⟨Or.inl (gw6 (i := 35) rfl (gk_methodLink _ _ _)), mk_230, gw6 (i := 36) rfl (gk_instanceMethod _), gw6 (i := 37) rfl (gk_selects _ _ _)⟩
theorem vl_RX6_274 : VLk RX6 274 228 := ⟨Or.inl (gw6 (i := 39) rfl (gk_methodLink _ _ _)), mk_228, gw6 (i := 41) rfl (gk_instanceMethod _), List.mem_filter.mpr ⟨List.mem_append_left _ (List.mem_of_getElem? (i := 98) rfl), gk_selects _ _ _⟩⟩
theorem vl_RX6_277 : VLk RX6 277 229 := ⟨Or.inl (gw6 (i := 43) rfl (gk_methodLink _ _ _)), mk_229, gw6 (i := 45) rfl (gk_instanceMethod _), List.mem_filter.mpr ⟨List.mem_append_left _ (List.mem_of_getElem? (i := 99) rfl), gk_selects _ _ _⟩⟩
theorem vl_RL_124 : VLk RL 124 232 := ⟨Or.inl (gw6 (i := 47) rfl (gk_methodLink _ _ _)), mk_232, gw6 (i := 48) rfl (gk_instanceMethod _), gw6 (i := 49) rfl (gk_selects _ _ _)⟩
theorem vl_RX6_280 : VLk RX6 280 231 := ⟨Or.inl (gw6 (i := 51) rfl (gk_methodLink _ _ _)), mk_231, gw6 (i := 53) rfl (gk_instanceMethod _), List.mem_filter.mpr ⟨List.mem_append_left _ (List.mem_of_getElem? (i := 100) rfl), gk_selects _ _ _⟩⟩
theorem vl_RL_128 : VLk RL 128 233 := ⟨Or.inl (gw6 (i := 55) rfl (gk_methodLink _ _ _)), mk_233, gw6 (i := 56) rfl (gk_instanceMethod _), gw6 (i := 57) rfl (gk_selects _ _ _)⟩
theorem vl_RL_132 : VLk RL 132 234 := ⟨Or.inl (gw6 (i := 59) rfl (gk_methodLink _ _ _)), mk_234, gw6 (i := 60) rfl (gk_instanceMethod _), gw6 (i := 61) rfl (gk_selects _ _ _)⟩
theorem vl_RL_156 : VLk RL 156 235 := ⟨Or.inl (gw6 (i := 63) rfl (gk_methodLink _ _ _)), mk_235, gw6 (i := 64) rfl (gk_instanceMethod _), gw6 (i := 65) rfl (gk_selects _ _ _)⟩
theorem vl_RX6_283 : VLk RX6 283 214 := ⟨Or.inl (gw6 (i := 67) rfl (gk_methodLink _ _ _)), mk_214, gw5 (i := 220) rfl (gk_instanceMethod _), gw5 (i := 221) rfl (gk_selects _ _ _)⟩
theorem vl_RL_197 : VLk RL 197 237 := ⟨Or.inl (gw6 (i := 68) rfl (gk_methodLink _ _ _)), mk_237, gw6 (i := 69) rfl (gk_instanceMethod _), gw6 (i := 70) rfl (gk_selects _ _ _)⟩
theorem vl_RX6_286 : VLk RX6 286 236 := ⟨Or.inl (gw6 (i := 72) rfl (gk_methodLink _ _ _)), mk_236, gw6 (i := 74) rfl (gk_instanceMethod _), List.mem_filter.mpr ⟨List.mem_append_left _ (List.mem_of_getElem? (i := 101) rfl), gk_selects _ _ _⟩⟩
theorem vl_RL_201 : VLk RL 201 238 := ⟨Or.inl (gw6 (i := 76) rfl (gk_methodLink _ _ _)), mk_238, gw6 (i := 77) rfl (gk_instanceMethod _), gw6 (i := 78) rfl (gk_selects _ _ _)⟩
theorem vl_RL_213 : VLk RL 213 240 := ⟨Or.inl (gw6 (i := 80) rfl (gk_methodLink _ _ _)), mk_240, gw6 (i := 81) rfl (gk_instanceMethod _), gw6 (i := 82) rfl (gk_selects _ _ _)⟩
theorem vl_RX6_289 : VLk RX6 289 239 := ⟨Or.inl (gw6 (i := 84) rfl (gk_methodLink _ _ _)), mk_239, gw6 (i := 86) rfl (gk_instanceMethod _), List.mem_filter.mpr ⟨List.mem_append_left _ (List.mem_of_getElem? (i := 102) rfl), gk_selects _ _ _⟩⟩
theorem vl_RL_205 : VLk RL 205 241 := ⟨Or.inl (gw6 (i := 88) rfl (gk_methodLink _ _ _)), mk_241, gw6 (i := 89) rfl (gk_instanceMethod _), gw6 (i := 90) rfl (gk_selects _ _ _)⟩
theorem vl_RX6_292 : VLk RX6 292 253 := ⟨Or.inl (gw6 (i := 92) rfl (gk_methodLink _ _ _)), mk_253, gw6 (i := 94) rfl (gk_instanceMethod _), List.mem_filter.mpr ⟨List.mem_append_left _ (List.mem_of_getElem? (i := 103) rfl), gk_selects _ _ _⟩⟩
theorem vl_RL_209 : VLk RL 209 242 := ⟨Or.inl (gw6 (i := 96) rfl (gk_methodLink _ _ _)), mk_242, gw6 (i := 97) rfl (gk_instanceMethod _), gw6 (i := 98) rfl (gk_selects _ _ _)⟩
theorem vl_RL_136 : VLk RL 136 245 := ⟨Or.inl (gw6 (i := 100) rfl (gk_methodLink _ _ _)), mk_245, gw6 (i := 101) rfl (gk_instanceMethod _), gw6 (i := 102) rfl (gk_selects _ _ _)⟩
theorem vl_RX6_295 : VLk RX6 295 243 := ⟨Or.inl (gw6 (i := 104) rfl (gk_methodLink _ _ _)), mk_243, gw6 (i := 106) rfl (gk_instanceMethod _), List.mem_filter.mpr ⟨List.mem_append_left _ (List.mem_of_getElem? (i := 104) rfl), gk_selects _ _ _⟩⟩
theorem vl_RX6_298 : VLk RX6 298 244 := ⟨Or.inl (gw6 (i := 108) rfl (gk_methodLink _ _ _)), mk_244, gw6 (i := 110) rfl (gk_instanceMethod _), List.mem_filter.mpr ⟨List.mem_append_left _ (List.mem_of_getElem? (i := 105) rfl), gk_selects _ _ _⟩⟩
theorem vl_RL_140 : VLk RL 140 246 := ⟨Or.inl (gw6 (i := 112) rfl (gk_methodLink _ _ _)), mk_246, gw6 (i := 113) rfl (gk_instanceMethod _), gw6 (i := 114) rfl (gk_selects _ _ _)⟩
theorem vl_RL_144 : VLk RL 144 249 := ⟨Or.inl (gw6 (i := 116) rfl (gk_methodLink _ _ _)), mk_249, gw6 (i := 117) rfl (gk_instanceMethod _), gw6 (i := 118) rfl (gk_selects _ _ _)⟩
theorem vl_RX6_301 : VLk RX6 301 247 := ⟨Or.inl (gw6 (i := 120) rfl (gk_methodLink _ _ _)), mk_247, gw6 (i := 122) rfl (gk_instanceMethod _), List.mem_filter.mpr ⟨List.mem_append_left _ (List.mem_of_getElem? (i := 106) rfl), gk_selects _ _ _⟩⟩
theorem vl_RX6_304 : VLk RX6 304 248 := ⟨Or.inl (gw6 (i := 124) rfl (gk_methodLink _ _ _)), mk_248, gw6 (i := 126) rfl (gk_instanceMethod _), List.mem_filter.mpr ⟨List.mem_append_left _ (List.mem_of_getElem? (i := 107) rfl), gk_selects _ _ _⟩⟩
theorem vl_RL_148 : VLk RL 148 250 := ⟨Or.inl (gw6 (i := 128) rfl (gk_methodLink _ _ _)), mk_250, gw6 (i := 129) rfl (gk_instanceMethod _), gw6 (i := 130) rfl (gk_selects _ _ _)⟩
theorem vl_RL_152 : VLk RL 152 251 := ⟨Or.inl (gw6 (i := 132) rfl (gk_methodLink _ _ _)), mk_251, gw6 (i := 133) rfl (gk_instanceMethod _), gw6 (i := 134) rfl (gk_selects _ _ _)⟩
theorem vl_RL_168 : VLk RL 168 252 := ⟨Or.inl (gw6 (i := 136) rfl (gk_methodLink _ _ _)), mk_252, gw6 (i := 137) rfl (gk_instanceMethod _), gw6 (i := 138) rfl (gk_selects _ _ _)⟩
theorem vl_RL_217 : VLk RL 217 254 := ⟨Or.inl (gw6 (i := 140) rfl (gk_methodLink _ _ _)), mk_254, gw6 (i := 141) rfl (gk_instanceMethod _), gw6 (i := 142) rfl (gk_selects _ _ _)⟩
theorem vl_RL_221 : VLk RL 221 255 := ⟨Or.inl (gw6 (i := 144) rfl (gk_methodLink _ _ _)), mk_255, gw6 (i := 145) rfl (gk_instanceMethod _), gw6 (i := 146) rfl (gk_selects _ _ _)⟩
theorem vl_RL_225 : VLk RL 225 260 := ⟨Or.inl (gw6 (i := 148) rfl (gk_methodLink _ _ _)), mk_260, gw6 (i := 149) rfl (gk_instanceMethod _), gw6 (i := 150) rfl (gk_selects _ _ _)⟩
theorem vl_RX6_307 : VLk RX6 307 256 := ⟨Or.inl (gw6 (i := 152) rfl (gk_methodLink _ _ _)), mk_256, gw6 (i := 154) rfl (gk_instanceMethod _), List.mem_filter.mpr ⟨List.mem_append_left _ (List.mem_of_getElem? (i := 108) rfl), gk_selects _ _ _⟩⟩
theorem vl_RX6_310 : VLk RX6 310 258 := ⟨Or.inl (gw6 (i := 156) rfl (gk_methodLink _ _ _)), mk_258, gw6 (i := 158) rfl (gk_instanceMethod _), List.mem_filter.mpr ⟨List.mem_append_left _ (List.mem_of_getElem? (i := 109) rfl), gk_selects _ _ _⟩⟩
theorem vl_RX6_314 : VLk RX6 314 257 := ⟨Or.inl (gw6 (i := 160) rfl (gk_methodLink _ _ _)), mk_257, gw6 (i := 162) rfl (gk_instanceMethod _), List.mem_filter.mpr ⟨List.mem_append_left _ (List.mem_of_getElem? (i := 110) rfl), gk_selects _ _ _⟩⟩
theorem vl_RX6_317 : VLk RX6 317 259 := ⟨Or.inl (gw6 (i := 164) rfl (gk_methodLink _ _ _)), mk_259, gw6 (i := 166) rfl (gk_instanceMethod _), List.mem_filter.mpr ⟨List.mem_append_left _ (List.mem_of_getElem? (i := 111) rfl), gk_selects _ _ _⟩⟩

theorem f_J0_15 : kx_F RJ0 15 9 1 .byte true := ⟨RJ0, TJ0, 4, tyJ0, rfl, wi_wsJ00, tyJ0_ok, nmJ0, by decide, w_239, fun _ => rfl, rfl, rfl⟩
theorem f_J0_9 : kx_F RJ0 9 9 0 (.array .byte) true := ⟨RJ0, TJ0, 4, tyJ0, rfl, wi_wsJ00, tyJ0_ok, nmJ0, by decide, w_233, fun _ => rfl, rfl, rfl⟩
theorem c_J0_335 : kx_MV RJ0 335 yJ0_coder_7d493 cJ0_coder_7d493 1 (some .byte) 9 0 := ⟨rfl, w_234, w_235, w_236, w_217, w_237, by decide +kernel, by decide +kernel⟩
theorem c_J0_495 : kx_MS RJ0 495 yJ1_charAt_3b067 cJ1_charAt_3b067 2 (some .char) 2 := ⟨w_397, w_398, w_255, w_399, by decide +kernel, by decide +kernel⟩
theorem c_J0_492 : kx_MV RJ0 492 yJ0_isLatin1_aae02 cJ0_isLatin1_aae02 1 (some .boolean) 9 0 := ⟨rfl, w_393, w_394, w_395, w_217, w_396, by decide +kernel, by decide +kernel⟩
theorem f_X7_13 : kx_F RX7 13 7 1 (.array .int) true := ⟨RX7, TX7, 4, tyX7, rfl, wi_wsX70, tyX7_ok, nmX7, by decide, w_143, fun _ => rfl, rfl, rfl⟩
theorem f_X7_16 : kx_F RX7 16 7 2 (.array .boolean) true := ⟨RX7, TX7, 4, tyX7, rfl, wi_wsX70, tyX7_ok, nmX7, by decide, w_144, fun _ => rfl, rfl, rfl⟩
theorem f_X7_20 : kx_F RX7 20 7 3 (.array .boolean) true := ⟨RX7, TX7, 4, tyX7, rfl, wi_wsX70, tyX7_ok, nmX7, by decide, w_145, fun _ => rfl, rfl, rfl⟩
theorem f_X7_7 : kx_F RX7 7 7 0 (.array .int) true := ⟨RX7, TX7, 4, tyX7, rfl, wi_wsX70, tyX7_ok, nmX7, by decide, w_142, fun _ => rfl, rfl, rfl⟩
theorem c_X7_23 : kx_MI RX7 23 yX7_init cX7_init 1 0 := ⟨w_803, w_139, rfl, w_134, w_140, by decide +kernel, by decide +kernel⟩
theorem n_X7_8 : kx_New RX7 8 7 4 [.null, .null, .null, .null] := ⟨RX7, TX7, tyX7, rfl, wi_wsX70, tyX7_ok, w_801, w_133, w_134, fun j hj => by rcases (show j = 0 ∨ j = 1 ∨ j = 2 ∨ j = 3 by omega) with rfl | rfl | rfl | rfl <;> rfl⟩
theorem c_X7_30 : kx_MV RX7 30 yX7_put cX7_put 5 none 7 4 := ⟨rfl, w_559, w_560, w_561, w_134, w_562, by decide +kernel, by decide +kernel⟩
theorem c_X7_34 : kx_MV RX7 34 yX7_copy cX7_copy 3 (some (.object "FaultBenchLaw$Plan")) 7 0 := ⟨rfl, w_797, w_798, w_799, w_134, w_800, by decide +kernel, by decide +kernel⟩
theorem c_X7_38 : kx_MV RX7 38 yX7_many cX7_many 3 (some .int) 7 0 := ⟨rfl, w_804, w_535, w_536, w_134, w_537, by decide +kernel, by decide +kernel⟩
theorem c_X7_42 : kx_MV RX7 42 yX7_fault cX7_fault 6 (some .int) 7 1 := ⟨rfl, w_805, w_552, w_553, w_134, w_554, by decide +kernel, by decide +kernel⟩
theorem c_X7_46 : kx_MV RX7 46 yX7_take cX7_take 4 none 7 1 := ⟨rfl, w_806, w_556, w_557, w_134, w_558, by decide +kernel, by decide +kernel⟩
theorem f_X8_13 : kx_F RX8 13 8 2 (.array .int) true := ⟨RX8, TX8, 18, tyX8, rfl, wi_wsX80, tyX8_ok, nmX8, by decide, w_327, fun _ => rfl, rfl, rfl⟩
theorem f_X8_16 : kx_F RX8 16 8 3 (.array .int) true := ⟨RX8, TX8, 18, tyX8, rfl, wi_wsX80, tyX8_ok, nmX8, by decide, w_328, fun _ => rfl, rfl, rfl⟩
theorem f_X8_19 : kx_F RX8 19 8 4 (.array .int) true := ⟨RX8, TX8, 18, tyX8, rfl, wi_wsX80, tyX8_ok, nmX8, by decide, w_329, fun _ => rfl, rfl, rfl⟩
theorem f_X8_22 : kx_F RX8 22 8 5 (.array .int) true := ⟨RX8, TX8, 18, tyX8, rfl, wi_wsX80, tyX8_ok, nmX8, by decide, w_330, fun _ => rfl, rfl, rfl⟩
theorem f_X8_25 : kx_F RX8 25 8 6 (.array .int) true := ⟨RX8, TX8, 18, tyX8, rfl, wi_wsX80, tyX8_ok, nmX8, by decide, w_331, fun _ => rfl, rfl, rfl⟩
theorem f_X8_28 : kx_F RX8 28 8 7 (.array .boolean) true := ⟨RX8, TX8, 18, tyX8, rfl, wi_wsX80, tyX8_ok, nmX8, by decide, w_332, fun _ => rfl, rfl, rfl⟩
theorem f_X8_32 : kx_F RX8 32 8 8 (.array .boolean) true := ⟨RX8, TX8, 18, tyX8, rfl, wi_wsX80, tyX8_ok, nmX8, by decide, w_333, fun _ => rfl, rfl, rfl⟩
theorem f_X8_7 : kx_F RX8 7 8 1 (.array .int) true := ⟨RX8, TX8, 18, tyX8, rfl, wi_wsX80, tyX8_ok, nmX8, by decide, w_326, fun _ => rfl, rfl, rfl⟩
theorem f_X8_35 : kx_F RX8 35 8 0 (.object "FaultBenchLaw$Plan") false := ⟨RX8, TX8, 18, tyX8, rfl, wi_wsX80, tyX8_ok, nmX8, by decide, w_592, fun _ => rfl, rfl, rfl⟩
theorem f_X8_43 : kx_F RX8 43 8 10 .int false := ⟨RX8, TX8, 18, tyX8, rfl, wi_wsX80, tyX8_ok, nmX8, by decide, w_594, fun _ => rfl, rfl, rfl⟩
theorem fn_X8_68 : kx_FN RX8 68 7 0 1 (.array .int) := ⟨by decide, RX7, TX7, 4, tyX7, rfl, wi_wsX70, tyX7_ok, by decide, rfl, rfl, rfl⟩
theorem c_X8_109 : kx_MS RX8 109 yJ6_bitCount_0f7a4 cJ6_bitCount_0f7a4 1 (some .int) 1 := ⟨w_615, w_616, w_308, w_617, by decide +kernel, by decide +kernel⟩
theorem f_X8_39 : kx_F RX8 39 8 9 .int false := ⟨RX8, TX8, 18, tyX8, rfl, wi_wsX80, tyX8_ok, nmX8, by decide, w_593, fun _ => rfl, rfl, rfl⟩
theorem f_X8_46 : kx_F RX8 46 8 11 .int false := ⟨RX8, TX8, 18, tyX8, rfl, wi_wsX80, tyX8_ok, nmX8, by decide, w_595, fun _ => rfl, rfl, rfl⟩
theorem fn_X8_82 : kx_FN RX8 82 7 2 5 (.array .boolean) := ⟨by decide, RX7, TX7, 4, tyX7, rfl, wi_wsX70, tyX7_ok, by decide, rfl, rfl, rfl⟩
theorem fn_X8_85 : kx_FN RX8 85 7 1 3 (.array .int) := ⟨by decide, RX7, TX7, 4, tyX7, rfl, wi_wsX70, tyX7_ok, by decide, rfl, rfl, rfl⟩
theorem fn_X8_88 : kx_FN RX8 88 7 3 7 (.array .boolean) := ⟨by decide, RX7, TX7, 4, tyX7, rfl, wi_wsX70, tyX7_ok, by decide, rfl, rfl, rfl⟩
theorem f_X8_49 : kx_F RX8 49 8 12 .int false := ⟨RX8, TX8, 18, tyX8, rfl, wi_wsX80, tyX8_ok, nmX8, by decide, w_596, fun _ => rfl, rfl, rfl⟩
theorem f_X8_61 : kx_F RX8 61 8 16 .int false := ⟨RX8, TX8, 18, tyX8, rfl, wi_wsX80, tyX8_ok, nmX8, by decide, w_600, fun _ => rfl, rfl, rfl⟩
theorem c_X8_105 : kx_MV RX8 105 yX8_hasAll cX8_hasAll 3 (some .boolean) 8 0 := ⟨rfl, w_611, w_612, w_613, w_108, w_614, by decide +kernel, by decide +kernel⟩
theorem c_X8_98 : kx_MV RX8 98 yX8_send cX8_send 3 none 8 2 := ⟨rfl, w_621, w_622, w_623, w_108, w_624, by decide +kernel, by decide +kernel⟩
theorem f_X8_52 : kx_F RX8 52 8 13 .int false := ⟨RX8, TX8, 18, tyX8, rfl, wi_wsX80, tyX8_ok, nmX8, by decide, w_597, fun _ => rfl, rfl, rfl⟩
theorem f_X8_55 : kx_F RX8 55 8 14 .int false := ⟨RX8, TX8, 18, tyX8, rfl, wi_wsX80, tyX8_ok, nmX8, by decide, w_598, fun _ => rfl, rfl, rfl⟩
theorem f_X8_58 : kx_F RX8 58 8 15 .int false := ⟨RX8, TX8, 18, tyX8, rfl, wi_wsX80, tyX8_ok, nmX8, by decide, w_599, fun _ => rfl, rfl, rfl⟩
theorem f_X8_64 : kx_F RX8 64 8 17 .boolean false := ⟨RX8, TX8, 18, tyX8, rfl, wi_wsX80, tyX8_ok, nmX8, by decide, w_601, fun _ => rfl, rfl, rfl⟩
theorem c_X8_102 : kx_MV RX8 102 yX8_window cX8_window 1 none 8 0 := ⟨rfl, w_629, w_630, w_631, w_108, w_632, by decide +kernel, by decide +kernel⟩
theorem c_X8_91 : kx_MV RX8 91 yX8_data cX8_data 3 none 8 1 := ⟨rfl, w_607, w_608, w_609, w_108, w_610, by decide +kernel, by decide +kernel⟩
theorem c_X8_95 : kx_MV RX8 95 yX8_answer cX8_answer 3 none 8 1 := ⟨rfl, w_625, w_626, w_627, w_108, w_628, by decide +kernel, by decide +kernel⟩
theorem c_X8_73 : kx_MV RX8 73 yX8_tick cX8_tick 3 none 8 0 := ⟨rfl, w_603, w_604, w_605, w_108, w_606, by decide +kernel, by decide +kernel⟩
theorem c_L_13 : kx_MV RL 13 yJ0_charAt_5068e cJ0_charAt_5068e 2 (some .char) 9 1 := ⟨rfl, w_389, w_390, w_391, w_217, w_392, by decide +kernel, by decide +kernel⟩
theorem c_L_17 : kx_MV RL 17 yX6_append cX6_append 6 (some .int) 6 5 := ⟨rfl, w_404, w_405, w_406, w_2, w_407, by decide +kernel, by decide +kernel⟩
theorem c_L_7 : kx_MV RL 7 yJ0_length_8abf5 cJ0_length_8abf5 1 (some .int) 9 0 := ⟨rfl, w_388, w_230, w_231, w_217, w_232, by decide +kernel, by decide +kernel⟩
theorem f_J5_15 : kx_F RJ5 15 10 0 (.array .byte) false := ⟨RJ4, TJ4, 4, tyJ4, rfl, wi_wsJ40, tyJ4_ok, nmJ4, by decide, w_119, fun h => absurd h (by decide), rfl, rfl⟩
theorem f_J5_22 : kx_F RJ5 22 10 1 .byte false := ⟨RJ4, TJ4, 4, tyJ4, rfl, wi_wsJ40, tyJ4_ok, nmJ4, by decide, w_120, fun h => absurd h (by decide), rfl, rfl⟩
theorem c_J5_114 : kx_MS RJ5 114 yJ8_newLength_cabcc cJ8_newLength_cabcc 4 (some .int) 3 := ⟨w_174, w_175, w_176, w_177, by decide +kernel, by decide +kernel⟩
theorem c_J5_108 : kx_MS RJ5 108 yJ7_copyOf_9075b cJ7_copyOf_9075b 3 (some (.array .byte)) 2 := ⟨w_186, w_187, w_188, w_189, by decide +kernel, by decide +kernel⟩
theorem c_J5_104 : kx_MU RJ5 104 ⟨"java/lang/AbstractStringBuilder", "newCapacity", "(I)I"⟩ yJ5_newCapacity_0f7a4 cJ5_newCapacity_0f7a4 6 (some .int) 1 := ⟨w_169, w_170, w_983, w_171, w_114, w_172, by decide +kernel, .inl rfl⟩
theorem c_J5_397 : kx_MU RJ5 397 ⟨"java/lang/AbstractStringBuilder", "inflateIfNeededFor", "(Ljava/lang/String;)V"⟩ yJ5_inflateIfNeededFor_a7421 cJ5_inflateIfNeededFor_a7421 2 none 1 := ⟨w_244, w_245, w_985, w_246, w_114, w_247, by decide +kernel, .inl rfl⟩
theorem f_J5_79 : kx_F RJ5 79 10 3 .int false := ⟨RJ4, TJ4, 4, tyJ4, rfl, wi_wsJ40, tyJ4_ok, nmJ4, by decide, w_160, fun h => absurd h (by decide), rfl, rfl⟩
theorem c_J5_100 : kx_MU RJ5 100 ⟨"java/lang/AbstractStringBuilder", "ensureCapacityInternal", "(I)V"⟩ yJ5_ensureCapacityInternal_d00df cJ5_ensureCapacityInternal_d00df 3 none 1 := ⟨w_165, w_166, w_982, w_167, w_114, w_168, by decide +kernel, .inl rfl⟩
theorem c_J5_208 : kx_MU RJ5 208 ⟨"java/lang/AbstractStringBuilder", "putStringAt", "(ILjava/lang/String;)V"⟩ yJ5_putStringAt_47b60 cJ5_putStringAt_47b60 3 none 2 := ⟨w_240, w_241, w_984, w_242, w_114, w_243, by decide +kernel, .inl rfl⟩
theorem c_J4_29 : kx_MG 29 yJ5_append_cf1ce cJ5_append_cf1ce 3 (some (.object "java/lang/AbstractStringBuilder")) 1 := ⟨w_155, w_156, w_157, w_158, w_114, w_159, by decide +kernel⟩
theorem c_J5_191 : kx_MS RJ5 191 yJ1_canEncode_fc78d cJ1_canEncode_fc78d 1 (some .boolean) 1 := ⟨w_283, w_284, w_255, w_285, by decide +kernel, by decide +kernel⟩
theorem c_J5_83 : kx_MU RJ5 83 ⟨"java/lang/AbstractStringBuilder", "isLatin1", "()Z"⟩ yJ5_isLatin1_aae02 cJ5_isLatin1_aae02 1 (some .boolean) 0 := ⟨w_200, w_201, w_202, w_203, w_114, w_204, by decide +kernel, .inl rfl⟩
theorem c_J4_50 : kx_MG 50 yJ5_append_3fe6f cJ5_append_3fe6f 2 (some (.object "java/lang/AbstractStringBuilder")) 1 := ⟨w_279, w_280, w_157, w_281, w_114, w_282, by decide +kernel⟩
theorem c_J5_245 : kx_MS RJ5 245 yJ6_stringSize_0f7a4 cJ6_stringSize_0f7a4 4 (some .int) 1 := ⟨w_306, w_307, w_308, w_309, by decide +kernel, by decide +kernel⟩
theorem c_J5_248 : kx_MS RJ5 248 yJ6_getChars_ba4f3 cJ6_getChars_ba4f3 7 (some .int) 3 := ⟨w_310, w_311, w_308, w_312, by decide +kernel, by decide +kernel⟩
theorem c_J4_53 : kx_MG 53 yJ5_append_c97b9 cJ5_append_c97b9 4 (some (.object "java/lang/AbstractStringBuilder")) 1 := ⟨w_302, w_303, w_157, w_304, w_114, w_305, by decide +kernel⟩
theorem fn_L_39 : kx_FN RL 39 7 0 2 (.array .int) := ⟨by decide, RX7, TX7, 4, tyX7, rfl, wi_wsX70, tyX7_ok, by decide, rfl, rfl, rfl⟩
theorem fn_L_76 : kx_FN RL 76 7 2 6 (.array .boolean) := ⟨by decide, RX7, TX7, 4, tyX7, rfl, wi_wsX70, tyX7_ok, by decide, rfl, rfl, rfl⟩
theorem fn_L_82 : kx_FN RL 82 7 3 8 (.array .boolean) := ⟨by decide, RX7, TX7, 4, tyX7, rfl, wi_wsX70, tyX7_ok, by decide, rfl, rfl, rfl⟩
theorem fn_L_87 : kx_FN RL 87 7 1 4 (.array .int) := ⟨by decide, RX7, TX7, 4, tyX7, rfl, wi_wsX70, tyX7_ok, by decide, rfl, rfl, rfl⟩
theorem c_L_34 : kx_MN RL 34 yX7_init cX7_init 1 0 22 := ⟨by decide, rfl, w_139, rfl, w_134, w_140, by decide +kernel⟩
theorem n_L_32 : kx_New RL 32 7 4 [.null, .null, .null, .null] := ⟨RX7, TX7, tyX7, rfl, wi_wsX70, tyX7_ok, w_132, w_133, w_134, fun j hj => by rcases (show j = 0 ∨ j = 1 ∨ j = 2 ∨ j = 3 by omega) with rfl | rfl | rfl | rfl <;> rfl⟩
theorem c_L_35 : kx_MS RL 35 yL_draw cL_draw 2 (some .int) 2 := ⟨w_146, w_147, w_101, w_148, by decide +kernel, by decide +kernel⟩
theorem c_L_51 : kx_MV RL 51 yJ4_append_15ec4 cJ4_append_15ec4 2 (some (.object "java/lang/StringBuilder")) 10 1 := ⟨rfl, w_151, w_152, w_153, w_105, w_154, by decide +kernel, by decide +kernel⟩
theorem c_L_62 : kx_MV RL 62 yJ4_append_cf468 cJ4_append_cf468 2 (some (.object "java/lang/StringBuilder")) 10 1 := ⟨rfl, w_275, w_276, w_277, w_105, w_278, by decide +kernel, by decide +kernel⟩
theorem c_L_65 : kx_MV RL 65 yJ4_append_bf812 cJ4_append_bf812 2 (some (.object "java/lang/StringBuilder")) 10 1 := ⟨rfl, w_298, w_299, w_300, w_105, w_301, by decide +kernel, by decide +kernel⟩
theorem c_J4_1 : kx_MI RJ4 1 yJ5_init_d00df cJ5_init_d00df 2 1 := ⟨w_112, w_113, rfl, w_114, w_115, by decide +kernel, by decide +kernel⟩
theorem c_J4_343 : kx_MG 343 yJ5_length_8abf5 cJ5_length_8abf5 1 (some .int) 0 := ⟨w_359, w_354, w_157, w_360, w_114, w_361, by decide +kernel⟩
theorem c_J7_343 : kx_MS RJ7 343 yJ7_checkLength_df160 cJ7_checkLength_df160 2 none 2 := ⟨w_369, w_370, w_188, w_371, by decide +kernel, by decide +kernel⟩
theorem c_J7_339 : kx_MS RJ7 339 yJ7_copyOfRangeByte_39247 cJ7_copyOfRangeByte_39247 5 (some (.array .byte)) 3 := ⟨w_366, w_367, w_188, w_368, by decide +kernel, by decide +kernel⟩
theorem f_J0_1048 : kx_F RJ0 1048 10 2 .boolean false := ⟨RJ4, TJ4, 4, tyJ4, rfl, wi_wsJ40, tyJ4_ok, nmJ4, by decide, w_347, fun h => absurd h (by decide), rfl, rfl⟩
theorem c_J0_54 : kx_MS RJ0 54 yJ7_copyOfRange_39247 cJ7_copyOfRange_39247 3 (some (.array .byte)) 3 := ⟨w_363, w_364, w_188, w_365, by decide +kernel, by decide +kernel⟩
theorem c_J0_1047 : kx_MU RJ0 1047 ⟨"java/lang/AbstractStringBuilder", "isLatin1", "()Z"⟩ yJ5_isLatin1_aae02 cJ5_isLatin1_aae02 1 (some .boolean) 0 := ⟨w_362, w_201, w_202, w_203, w_114, w_204, by decide +kernel, .inl rfl⟩
theorem c_J0_549 : kx_MU RJ0 549 ⟨"java/lang/AbstractStringBuilder", "length", "()I"⟩ yJ4_length_8abf5 cJ4_length_8abf5 1 (some .int) 0 := ⟨w_353, w_354, w_356, w_357, w_105, w_358, by decide +kernel, .inr ⟨w_355, _, _, _, w_361⟩⟩
theorem c_J0_552 : kx_MU RJ0 552 ⟨"java/lang/AbstractStringBuilder", "getValue", "()[B"⟩ yJ5_getValue_6d5f1 cJ5_getValue_6d5f1 1 (some (.array .byte)) 0 := ⟨w_348, w_349, w_350, w_351, w_114, w_352, by decide +kernel, .inl rfl⟩
theorem c_J0_489 : kx_MI RJ0 489 yJ0_init_db425 cJ0_init_db425 5 2 := ⟨w_343, w_344, rfl, w_217, w_345, by decide +kernel, by decide +kernel⟩
theorem c_J4_137 : kx_MI RJ4 137 yJ0_init_81219 cJ0_init_81219 2 1 := ⟨w_340, w_341, rfl, w_217, w_342, by decide +kernel, by decide +kernel⟩
theorem n_J4_18 : kx_New RJ4 18 9 4 [.null, .int 0, .int 0, .int 0] := ⟨RJ0, TJ0, tyJ0, rfl, wi_wsJ00, tyJ0_ok, w_338, w_339, w_217, fun j hj => by rcases (show j = 0 ∨ j = 1 ∨ j = 2 ∨ j = 3 by omega) with rfl | rfl | rfl | rfl <;> rfl⟩
theorem c_J6_268 : kx_MS RJ6 268 yJ6_reverseBytes_0f7a4 cJ6_reverseBytes_0f7a4 1 (some .int) 1 := ⟨w_789, w_790, w_308, w_791, by decide +kernel, by decide +kernel⟩
theorem c_L_194 : kx_MS RL 194 yJ6_bitCount_0f7a4 cJ6_bitCount_0f7a4 1 (some .int) 1 := ⟨w_785, w_616, w_308, w_617, by decide +kernel, by decide +kernel⟩
theorem c_L_199 : kx_MS RL 199 yJ6_reverse_0f7a4 cJ6_reverse_0f7a4 1 (some .int) 1 := ⟨w_786, w_787, w_308, w_788, by decide +kernel, by decide +kernel⟩
theorem c_L_124 : kx_MV RL 124 yX8_go cX8_go 4 (some (.object "FaultBenchLaw$Run")) 8 1 := ⟨rfl, w_588, w_589, w_590, w_108, w_591, by decide +kernel, by decide +kernel⟩
theorem c_L_131 : kx_MV RL 131 yX7_many cX7_many 3 (some .int) 7 0 := ⟨rfl, w_534, w_535, w_536, w_134, w_537, by decide +kernel, by decide +kernel⟩
theorem c_L_153 : kx_MV RL 153 yX8_breaks cX8_breaks 4 (some .boolean) 8 1 := ⟨rfl, w_807, w_808, w_809, w_108, w_810, by decide +kernel, by decide +kernel⟩
theorem c_L_202 : kx_MV RL 202 yX7_part cX7_part 4 (some (.object "FaultBenchLaw$Plan")) 7 1 := ⟨rfl, w_793, w_794, w_795, w_134, w_796, by decide +kernel, by decide +kernel⟩
theorem c_L_134 : kx_MV RL 134 yX7_fault cX7_fault 6 (some .int) 7 1 := ⟨rfl, w_551, w_552, w_553, w_134, w_554, by decide +kernel, by decide +kernel⟩
theorem c_L_190 : kx_MV RL 190 yX7_copy cX7_copy 3 (some (.object "FaultBenchLaw$Plan")) 7 0 := ⟨rfl, w_815, w_798, w_799, w_134, w_800, by decide +kernel, by decide +kernel⟩
theorem fn_L_150 : kx_FN RL 150 8 8 15 (.array .boolean) := ⟨by decide, RX8, TX8, 18, tyX8, rfl, wi_wsX80, tyX8_ok, by decide, rfl, rfl, rfl⟩
theorem c_L_206 : kx_MS RL 206 yL_core cL_core 5 (some .int) 3 := ⟨w_782, w_783, w_101, w_784, by decide +kernel, by decide +kernel⟩
theorem c_L_226 : kx_MS RL 226 yL_least cL_least 7 (some .int) 4 := ⟨w_812, w_813, w_101, w_814, by decide +kernel, by decide +kernel⟩
theorem c_L_216 : kx_MV RL 216 yX7_take cX7_take 4 none 7 1 := ⟨rfl, w_555, w_556, w_557, w_134, w_558, by decide +kernel, by decide +kernel⟩
theorem c_L_246 : kx_MV RL 246 yX6_clearFaults cX6_clearFaults 2 (some .int) 6 0 := ⟨rfl, w_538, w_539, w_540, w_2, w_541, by decide +kernel, by decide +kernel⟩
theorem c_L_249 : kx_MV RL 249 yX6_removeFault cX6_removeFault 2 (some .int) 6 1 := ⟨rfl, w_563, w_564, w_565, w_2, w_566, by decide +kernel, by decide +kernel⟩
theorem c_L_252 : kx_MV RL 252 yX6_set cX6_set 4 (some .int) 6 2 := ⟨rfl, w_577, w_578, w_579, w_2, w_580, by decide +kernel, by decide +kernel⟩
theorem c_L_255 : kx_MV RL 255 yX6_record cX6_record 1 (some .int) 6 0 := ⟨rfl, w_633, w_634, w_635, w_2, w_636, by decide +kernel, by decide +kernel⟩
theorem c_L_258 : kx_MV RL 258 yX7_put cX7_put 5 none 7 4 := ⟨rfl, w_811, w_560, w_561, w_134, w_562, by decide +kernel, by decide +kernel⟩
theorem c_L_262 : kx_MV RL 262 yX6_shrink cX6_shrink 6 (some .int) 6 1 := ⟨rfl, w_816, w_817, w_818, w_2, w_819, by decide +kernel, by decide +kernel⟩
theorem c_L_265 : kx_MV RL 265 yX6_addFault cX6_addFault 4 (some .int) 6 3 := ⟨rfl, w_851, w_852, w_853, w_2, w_854, by decide +kernel, by decide +kernel⟩
theorem fn_L_140 : kx_FN RL 140 8 9 16 .int := ⟨by decide, RX8, TX8, 18, tyX8, rfl, wi_wsX80, tyX8_ok, by decide, rfl, rfl, rfl⟩
theorem fn_L_144 : kx_FN RL 144 8 2 10 (.array .int) := ⟨by decide, RX8, TX8, 18, tyX8, rfl, wi_wsX80, tyX8_ok, by decide, rfl, rfl, rfl⟩
theorem fn_L_147 : kx_FN RL 147 8 3 11 (.array .int) := ⟨by decide, RX8, TX8, 18, tyX8, rfl, wi_wsX80, tyX8_ok, by decide, rfl, rfl, rfl⟩
theorem fn_L_157 : kx_FN RL 157 8 11 18 .int := ⟨by decide, RX8, TX8, 18, tyX8, rfl, wi_wsX80, tyX8_ok, by decide, rfl, rfl, rfl⟩
theorem fn_L_160 : kx_FN RL 160 8 10 17 .int := ⟨by decide, RX8, TX8, 18, tyX8, rfl, wi_wsX80, tyX8_ok, by decide, rfl, rfl, rfl⟩
theorem fn_L_163 : kx_FN RL 163 8 12 19 .int := ⟨by decide, RX8, TX8, 18, tyX8, rfl, wi_wsX80, tyX8_ok, by decide, rfl, rfl, rfl⟩
theorem fn_L_171 : kx_FN RL 171 8 1 9 (.array .int) := ⟨by decide, RX8, TX8, 18, tyX8, rfl, wi_wsX80, tyX8_ok, by decide, rfl, rfl, rfl⟩
theorem fn_L_174 : kx_FN RL 174 8 4 12 (.array .int) := ⟨by decide, RX8, TX8, 18, tyX8, rfl, wi_wsX80, tyX8_ok, by decide, rfl, rfl, rfl⟩
theorem fn_L_177 : kx_FN RL 177 8 5 13 (.array .int) := ⟨by decide, RX8, TX8, 18, tyX8, rfl, wi_wsX80, tyX8_ok, by decide, rfl, rfl, rfl⟩
theorem fn_L_183 : kx_FN RL 183 8 6 14 (.array .int) := ⟨by decide, RX8, TX8, 18, tyX8, rfl, wi_wsX80, tyX8_ok, by decide, rfl, rfl, rfl⟩
theorem c_L_128 : kx_MV RL 128 yX6_size cX6_size 2 (some .int) 6 1 := ⟨rfl, w_863, w_864, w_865, w_2, w_866, by decide +kernel, by decide +kernel⟩
theorem c_L_137 : kx_MV RL 137 yX6_fault cX6_fault 3 (some .int) 6 2 := ⟨rfl, w_868, w_869, w_870, w_2, w_871, by decide +kernel, by decide +kernel⟩
theorem c_L_166 : kx_MV RL 166 yX6_result cX6_result 3 (some .int) 6 1 := ⟨rfl, w_872, w_873, w_874, w_2, w_875, by decide +kernel, by decide +kernel⟩
theorem c_L_169 : kx_MV RL 169 yX6_sent cX6_sent 3 (some .int) 6 2 := ⟨rfl, w_905, w_906, w_907, w_2, w_908, by decide +kernel, by decide +kernel⟩
theorem c_L_180 : kx_MV RL 180 yX6_delivered cX6_delivered 2 (some .int) 6 1 := ⟨rfl, w_910, w_911, w_912, w_2, w_913, by decide +kernel, by decide +kernel⟩
theorem c_L_186 : kx_MV RL 186 yX6_reaches cX6_reaches 3 (some .boolean) 6 2 := ⟨rfl, w_918, w_919, w_920, w_2, w_921, by decide +kernel, by decide +kernel⟩
theorem c_L_240 : kx_MV RL 240 yX6_weakPoints cX6_weakPoints 5 (some .int) 6 1 := ⟨rfl, w_960, w_961, w_962, w_2, w_963, by decide +kernel, by decide +kernel⟩
theorem c_L_243 : kx_MV RL 243 yX6_attack cX6_attack 3 (some .int) 6 2 := ⟨rfl, w_973, w_974, w_975, w_2, w_976, by decide +kernel, by decide +kernel⟩
theorem c_L_236 : kx_MS RL 236 yL_single cL_single 12 (some .boolean) 4 := ⟨w_957, w_958, w_101, w_959, by decide +kernel, by decide +kernel⟩
theorem c_L_210 : kx_MV RL 210 yX6_breaks cX6_breaks 2 (some .boolean) 6 1 := ⟨rfl, w_929, w_930, w_931, w_2, w_932, by decide +kernel, by decide +kernel⟩
theorem c_L_211 : kx_MV RL 211 yX6_core cX6_core 2 (some .int) 6 1 := ⟨rfl, w_933, w_934, w_935, w_2, w_936, by decide +kernel, by decide +kernel⟩
theorem c_L_213 : kx_MV RL 213 yX6_smallest cX6_smallest 3 (some .int) 6 1 := ⟨rfl, w_937, w_938, w_939, w_2, w_940, by decide +kernel, by decide +kernel⟩
theorem c_L_220 : kx_MV RL 220 yX6_matters cX6_matters 3 (some .boolean) 6 2 := ⟨rfl, w_941, w_942, w_943, w_2, w_944, by decide +kernel, by decide +kernel⟩
theorem c_L_223 : kx_MV RL 223 yX6_leastAmount cX6_leastAmount 3 (some .int) 6 2 := ⟨rfl, w_945, w_946, w_947, w_2, w_948, by decide +kernel, by decide +kernel⟩
theorem c_L_230 : kx_MV RL 230 yX6_timerFor cX6_timerFor 3 (some .int) 6 1 := ⟨rfl, w_949, w_950, w_951, w_2, w_952, by decide +kernel, by decide +kernel⟩
theorem c_L_233 : kx_MV RL 233 yX6_isRecorded cX6_isRecorded 3 (some .boolean) 6 2 := ⟨rfl, w_953, w_954, w_955, w_2, w_956, by decide +kernel, by decide +kernel⟩
theorem c_L_92 : kx_MI RL 92 yJ4_init_da8c8 cJ4_init_da8c8 1 0 := ⟨w_109, w_110, rfl, w_105, w_111, by decide +kernel, by decide +kernel⟩
theorem c_L_99 : kx_MN RL 99 yX8_init cX8_init 1 0 23 := ⟨by decide, rfl, w_323, rfl, w_108, w_324, by decide +kernel⟩
theorem n_L_52 : kx_New RL 52 10 4 [.null, .int 0, .int 0, .int 0] := ⟨RJ4, TJ4, tyJ4, rfl, wi_wsJ40, tyJ4_ok, w_103, w_104, w_105, fun j hj => by rcases (show j = 0 ∨ j = 1 ∨ j = 2 ∨ j = 3 by omega) with rfl | rfl | rfl | rfl <;> rfl⟩
theorem n_L_97 : kx_New RL 97 8 18 [.null, .null, .null, .null, .null, .null, .null, .null, .null, .int 0, .int 0, .int 0, .int 0, .int 0, .int 0, .int 0, .int 0, .int 0] := ⟨RX8, TX8, tyX8, rfl, wi_wsX80, tyX8_ok, w_106, w_107, w_108, fun j hj => by rcases (show j = 0 ∨ j = 1 ∨ j = 2 ∨ j = 3 ∨ j = 4 ∨ j = 5 ∨ j = 6 ∨ j = 7 ∨ j = 8 ∨ j = 9 ∨ j = 10 ∨ j = 11 ∨ j = 12 ∨ j = 13 ∨ j = 14 ∨ j = 15 ∨ j = 16 ∨ j = 17 by omega) with rfl | rfl | rfl | rfl | rfl | rfl | rfl | rfl | rfl | rfl | rfl | rfl | rfl | rfl | rfl | rfl | rfl | rfl <;> rfl⟩
theorem c_L_104 : kx_MS RL 104 yL_feeds cL_feeds 6 (some .boolean) 2 := ⟨w_385, w_386, w_101, w_387, by decide +kernel, by decide +kernel⟩
theorem c_L_113 : kx_MS RL 113 yL_changes cL_changes 10 (some .boolean) 5 := ⟨w_531, w_532, w_101, w_533, by decide +kernel, by decide +kernel⟩
theorem c_L_117 : kx_MS RL 117 yL_run cL_run 16 (some .boolean) 4 := ⟨w_860, w_861, w_101, w_862, by decide +kernel, by decide +kernel⟩
theorem c_L_121 : kx_MS RL 121 yL_asks cL_asks 13 (some .boolean) 5 := ⟨w_926, w_927, w_101, w_928, by decide +kernel, by decide +kernel⟩
theorem c_L_93 : kx_MS RL 93 yL_bench cL_bench 7 (some (.object "FaultBenchLaw$Plan")) 2 := ⟨w_129, w_130, w_101, w_131, by decide +kernel, by decide +kernel⟩
theorem c_L_100 : kx_MV RL 100 yJ4_toString_0e30d cJ4_toString_0e30d 1 (some (.object "java/lang/String")) 10 0 := ⟨rfl, w_334, w_335, w_336, w_105, w_337, by decide +kernel, by decide +kernel⟩
theorem c_L_108 : kx_MV RL 108 yJ4_length_8abf5 cJ4_length_8abf5 1 (some .int) 10 0 := ⟨rfl, w_417, w_357, w_418, w_105, w_358, by decide +kernel, by decide +kernel⟩
theorem c_L_109 : kx_MV RL 109 yX6_parse cX6_parse 4 (some .int) 6 1 := ⟨rfl, w_419, w_420, w_421, w_2, w_422, by decide +kernel, by decide +kernel⟩
theorem c_L_25 : kx_MI RL 25 yX6_init cX6_init 2 0 := ⟨w_4, w_5, rfl, w_2, w_6, by decide +kernel, by decide +kernel⟩
theorem n_L_18 : kx_New RL 18 6 8 [.null, .null, .null, .null, .null, .int 0, .null, .null] := ⟨RX6, TX6, tyX6, rfl, wi_wsX60, tyX6_ok, w_0, w_1, w_2, fun j hj => by rcases (show j = 0 ∨ j = 1 ∨ j = 2 ∨ j = 3 ∨ j = 4 ∨ j = 5 ∨ j = 6 ∨ j = 7 by omega) with rfl | rfl | rfl | rfl | rfl | rfl | rfl | rfl <;> rfl⟩
theorem c_L_26 : kx_MS RL 26 yL_plays cL_plays 7 (some .boolean) 2 := ⟨w_99, w_100, w_101, w_102, by decide +kernel, by decide +kernel⟩
def m_J0_coder_7d493 (σ : ac_H) (a0 : Nat) : Option (Int32 × ac_H) :=
  if (1 : Int32) = 0 then
  (mo_nt .byte (1 : Int32) (some ((1 : Int32), σ)))
  else
  (mo_gi σ a0 9 1 fun x1 =>
  mo_nt .byte x1 (some (x1, σ)))
set_option maxRecDepth 100000 in
set_option maxHeartbeats 4000000 in
theorem k_J0_coder_7d493 {Λ : ex_L} {q : Nat} {σ σ' : ac_H} {a0 : Nat} {v : Int32} (hf : m_J0_coder_7d493 σ a0 = some (v, σ')) : kx_C Λ yJ0_coder_7d493 (.code yJ0_coder_7d493 cJ0_coder_7d493 1 (some .byte)) ({ frames := 0, cells := 0, slots := 0, locals := 0 } : Room) [.ref a0] q σ (.inr (some (.int v))) σ' (fun z => z = q) := by
  refine kx_in (by decide +kernel) (Nat.le_of_ble_eq_true rfl) ?_
  intro Γ K hnm hsz hQ
  refine kx_lv (lv' := [(0, .ref a0)]) rfl ?_
  unfold m_J0_coder_7d493 at hf
  refine kx_scmpG K w_238 dJ0_coder_7d493_0 ?_
  refine kx_if_eq K 13 hf dJ0_coder_7d493_3 (by decide) (fun hf => ?_) (fun hf => ?_)
  · refine kx_iconst (v := 1) K dJ0_coder_7d493_13 (by decide) ?_
    exact kx_tretM K hQ (by decide) (by decide) (fun _ h => h) dJ0_coder_7d493_14 hf
  · refine kx_aload_n K dJ0_coder_7d493_6 rfl 0 rfl ?_
    refine kx_gi K f_J0_15 dJ0_coder_7d493_7 hf (fun x1 hf => ?_)
    refine kx_goto K 14 dJ0_coder_7d493_10 (by decide) ?_
    exact kx_tretM K hQ (by decide) (by decide) (fun _ h => h) dJ0_coder_7d493_14 hf
def m_J0_length_8abf5 (σ : ac_H) (a0 : Nat) : Option (Int32 × ac_H) :=
  mo_gr σ a0 9 0 fun x1 =>
  mo_ln σ x1 fun x2 =>
  mo_cv σ a0 9 (m_J0_coder_7d493 σ a0) fun x4 σ3 =>
  some ((x2 >>> (x4 &&& 31)), σ3)
set_option maxRecDepth 100000 in
set_option maxHeartbeats 4000000 in
theorem k_J0_length_8abf5 {Λ : ex_L} {q : Nat} {σ σ' : ac_H} {a0 : Nat} {v : Int32} (hf : m_J0_length_8abf5 σ a0 = some (v, σ')) : kx_C Λ yJ0_length_8abf5 (.code yJ0_length_8abf5 cJ0_length_8abf5 1 (some .int)) ({ frames := 1, cells := 0, slots := 0, locals := 20 } : Room) [.ref a0] q σ (.inr (some (.int v))) σ' (fun z => z = q) := by
  refine kx_in (by decide +kernel) (Nat.le_of_ble_eq_true rfl) ?_
  intro Γ K hnm hsz hQ
  refine kx_lv (lv' := [(0, .ref a0)]) rfl ?_
  unfold m_J0_length_8abf5 at hf
  refine kx_aload_n K dJ0_length_8abf5_0 rfl 0 rfl ?_
  refine kx_gr K f_J0_9 dJ0_length_8abf5_1 hf (fun x1 hf => ?_)
  refine kx_ln K dJ0_length_8abf5_4 hf (fun x2 hf => ?_)
  refine kx_aload_n K dJ0_length_8abf5_5 rfl 0 rfl ?_
  refine kx_cv0i K c_J0_335 ⟨by decide, by decide, rfl, rfl, (by decide), (by decide)⟩ (Nat.le_of_ble_eq_true rfl) dJ0_length_8abf5_6 hf (fun _ _ _ h => k_J0_coder_7d493 h) (fun x4 σ3 hf => ?_)
  refine kx_ishr K dJ0_length_8abf5_9 ?_
  exact kx_iret K hQ (by decide) (by decide) (fun _ h => h) dJ0_length_8abf5_10 hf
def m_J0_isLatin1_aae02 (σ : ac_H) (a0 : Nat) : Option (Int32 × ac_H) :=
  if (1 : Int32) = 0 then
  (mo_z (0 : Int32) (some ((0 : Int32), σ)))
  else
  (mo_gi σ a0 9 1 fun x1 =>
  if x1 = 0 then
  (mo_z (1 : Int32) (some ((1 : Int32), σ)))
  else
  (mo_z (0 : Int32) (some ((0 : Int32), σ))))
set_option maxRecDepth 100000 in
set_option maxHeartbeats 4000000 in
theorem k_J0_isLatin1_aae02 {Λ : ex_L} {q : Nat} {σ σ' : ac_H} {a0 : Nat} {v : Int32} (hf : m_J0_isLatin1_aae02 σ a0 = some (v, σ')) : kx_C Λ yJ0_isLatin1_aae02 (.code yJ0_isLatin1_aae02 cJ0_isLatin1_aae02 1 (some .boolean)) ({ frames := 0, cells := 0, slots := 0, locals := 0 } : Room) [.ref a0] q σ (.inr (some (.int v))) σ' (fun z => z = q) := by
  refine kx_in (by decide +kernel) (Nat.le_of_ble_eq_true rfl) ?_
  intro Γ K hnm hsz hQ
  refine kx_lv (lv' := [(0, .ref a0)]) rfl ?_
  unfold m_J0_isLatin1_aae02 at hf
  refine kx_scmpG K w_238 dJ0_isLatin1_aae02_0 ?_
  refine kx_if_eq K 17 hf dJ0_isLatin1_aae02_3 (by decide) (fun hf => ?_) (fun hf => ?_)
  · refine kx_iconst (v := 0) K dJ0_isLatin1_aae02_17 (by decide) ?_
    exact kx_zret K hQ (by decide) (by decide) (fun _ h => h) dJ0_isLatin1_aae02_18 hf
  · refine kx_aload_n K dJ0_isLatin1_aae02_6 rfl 0 rfl ?_
    refine kx_gi K f_J0_15 dJ0_isLatin1_aae02_7 hf (fun x1 hf => ?_)
    refine kx_if_ne K 17 hf dJ0_isLatin1_aae02_10 (by decide) (fun hf => ?_) (fun hf => ?_)
    · refine kx_iconst (v := 0) K dJ0_isLatin1_aae02_17 (by decide) ?_
      exact kx_zret K hQ (by decide) (by decide) (fun _ h => h) dJ0_isLatin1_aae02_18 hf
    · refine kx_iconst (v := 1) K dJ0_isLatin1_aae02_13 (by decide) ?_
      refine kx_goto K 18 dJ0_isLatin1_aae02_14 (by decide) ?_
      exact kx_zret K hQ (by decide) (by decide) (fun _ h => h) dJ0_isLatin1_aae02_18 hf
def m_J1_charAt_3b067 (σ : ac_H) (a0 : Nat) (a1 : Int32) : Option (Int32 × ac_H) :=
  mo_ln σ a0 fun x1 =>
  mo_ck a1 x1 <|
  mo_ai σ a0 1 a1 fun x2 =>
  mo_nt .char ((((x2 &&& (255 : Int32))).toUInt32 % 65536).toInt32) (some ((((x2 &&& (255 : Int32))).toUInt32 % 65536).toInt32, σ))
set_option maxRecDepth 100000 in
set_option maxHeartbeats 4000000 in
theorem k_J1_charAt_3b067 {Λ : ex_L} {q : Nat} {σ σ' : ac_H} {a0 : Nat} {a1 : Int32} {v : Int32} (hf : m_J1_charAt_3b067 σ a0 a1 = some (v, σ')) : kx_C Λ yJ1_charAt_3b067 (.code yJ1_charAt_3b067 cJ1_charAt_3b067 2 (some .char)) ({ frames := 2, cells := 0, slots := 0, locals := 44 } : Room) [.ref a0, .int a1] q σ (.inr (some (.int v))) σ' (fun z => z = q) := by
  refine kx_in (by decide +kernel) (Nat.le_of_ble_eq_true rfl) ?_
  intro Γ K hnm hsz hQ
  refine kx_lv (lv' := [(0, .ref a0), (1, .int a1)]) rfl ?_
  unfold m_J1_charAt_3b067 at hf
  refine kx_iload_n K dJ1_charAt_3b067_0 rfl 1 rfl ?_
  refine kx_aload_n K dJ1_charAt_3b067_1 rfl 0 rfl ?_
  refine kx_ln K dJ1_charAt_3b067_2 hf (fun x1 hf => ?_)
  refine kx_ck K w_400 ⟨by decide, by decide, (by decide), (by decide)⟩ (Nat.le_of_ble_eq_true rfl) dJ1_charAt_3b067_3 hf (fun hf => ?_)
  refine kx_aload_n K dJ1_charAt_3b067_6 rfl 0 rfl ?_
  refine kx_iload_n K dJ1_charAt_3b067_7 rfl 1 rfl ?_
  refine kx_ab K dJ1_charAt_3b067_8 hf (fun x2 hf => ?_)
  refine kx_sipush (v := 255) K dJ1_charAt_3b067_9 (by decide) ?_
  refine kx_iand K dJ1_charAt_3b067_12 ?_
  refine kx_i2c K dJ1_charAt_3b067_13 ?_
  exact kx_tretM K hQ (by decide) (by decide) (fun _ h => h) dJ1_charAt_3b067_14 hf
def m_J0_charAt_5068e (σ : ac_H) (a0 : Nat) (a1 : Int32) : Option (Int32 × ac_H) :=
  mo_cv σ a0 9 (m_J0_isLatin1_aae02 σ a0) fun x2 σ1 =>
  if x2 = 0 then
  (mo_gr σ1 a0 9 0 fun x3 =>
  none)
  else
  (mo_gr σ1 a0 9 0 fun x4 =>
  mo_cs (m_J1_charAt_3b067 σ1 x4 a1) fun x6 σ5 =>
  mo_nt .char x6 (some (x6, σ5)))
set_option maxRecDepth 100000 in
set_option maxHeartbeats 4000000 in
theorem k_J0_charAt_5068e {Λ : ex_L} {q : Nat} {σ σ' : ac_H} {a0 : Nat} {a1 : Int32} {v : Int32} (hf : m_J0_charAt_5068e σ a0 a1 = some (v, σ')) : kx_C Λ yJ0_charAt_5068e (.code yJ0_charAt_5068e cJ0_charAt_5068e 2 (some .char)) ({ frames := 3, cells := 0, slots := 0, locals := 65 } : Room) [.ref a0, .int a1] q σ (.inr (some (.int v))) σ' (fun z => z = q) := by
  refine kx_in (by decide +kernel) (Nat.le_of_ble_eq_true rfl) ?_
  intro Γ K hnm hsz hQ
  refine kx_lv (lv' := [(0, .ref a0), (1, .int a1)]) rfl ?_
  unfold m_J0_charAt_5068e at hf
  refine kx_aload_n K dJ0_charAt_5068e_0 rfl 0 rfl ?_
  refine kx_cv0i K c_J0_492 ⟨by decide, by decide, rfl, rfl, (by decide), (by decide)⟩ (Nat.le_of_ble_eq_true rfl) dJ0_charAt_5068e_1 hf (fun _ _ _ h => k_J0_isLatin1_aae02 h) (fun x2 σ1 hf => ?_)
  refine kx_if_eq K 16 hf dJ0_charAt_5068e_4 (by decide) (fun hf => ?_) (fun hf => ?_)
  · refine kx_aload_n K dJ0_charAt_5068e_16 rfl 0 rfl ?_
    refine kx_gr K f_J0_9 dJ0_charAt_5068e_17 hf (fun x3 hf => ?_)
    refine kx_iload_n K dJ0_charAt_5068e_20 rfl 1 rfl ?_
    cases hf
  · refine kx_aload_n K dJ0_charAt_5068e_7 rfl 0 rfl ?_
    refine kx_gr K f_J0_9 dJ0_charAt_5068e_8 hf (fun x4 hf => ?_)
    refine kx_iload_n K dJ0_charAt_5068e_11 rfl 1 rfl ?_
    refine kx_cs2i K c_J0_495 ⟨by decide, by decide, rfl, rfl, (by decide), (by decide)⟩ (Nat.le_of_ble_eq_true rfl) dJ0_charAt_5068e_12 hf (fun _ _ _ h => k_J1_charAt_3b067 h) (fun x6 σ5 hf => ?_)
    exact kx_tretM K hQ (by decide) (by decide) (fun _ h => h) dJ0_charAt_5068e_15 hf
def m_J8_newLength_cabcc (σ : ac_H) (a0 : Int32) (a1 : Int32) (a2 : Int32) : Option (Int32 × ac_H) :=
  if (0 : Int32) < (a0 + (if a1 < a2 then a2 else a1)) then
  (if (2147483639 : Int32) < (a0 + (if a1 < a2 then a2 else a1)) then
  (none)
  else
  (some ((a0 + (if a1 < a2 then a2 else a1)), σ)))
  else
  (none)
set_option maxRecDepth 100000 in
set_option maxHeartbeats 4000000 in
theorem k_J8_newLength_cabcc {Λ : ex_L} {q : Nat} {σ σ' : ac_H} {a0 : Int32} {a1 : Int32} {a2 : Int32} {v : Int32} (hf : m_J8_newLength_cabcc σ a0 a1 a2 = some (v, σ')) : kx_C Λ yJ8_newLength_cabcc (.code yJ8_newLength_cabcc cJ8_newLength_cabcc 4 (some .int)) ({ frames := 1, cells := 0, slots := 0, locals := 21 } : Room) [.int a0, .int a1, .int a2] q σ (.inr (some (.int v))) σ' (fun z => z = q) := by
  refine kx_in (by decide +kernel) (Nat.le_of_ble_eq_true rfl) ?_
  intro Γ K hnm hsz hQ
  refine kx_lv (lv' := [(0, .int a0), (1, .int a1), (2, .int a2)]) rfl ?_
  unfold m_J8_newLength_cabcc at hf
  refine kx_iload_n K dJ8_newLength_cabcc_0 rfl 0 rfl ?_
  refine kx_iload_n K dJ8_newLength_cabcc_1 rfl 1 rfl ?_
  refine kx_iload_n K dJ8_newLength_cabcc_2 rfl 2 rfl ?_
  refine kx_mmax K w_178 w_179 w_180 w_181 (by decide) (Nat.le_of_ble_eq_true rfl) (by decide) (by decide) dJ8_newLength_cabcc_3 ?_
  refine kx_iadd K dJ8_newLength_cabcc_6 ?_
  refine kx_istore_n K [(3, .int (a0 + (if a1 < a2 then a2 else a1))), (0, .int a0), (1, .int a1), (2, .int a2)] dJ8_newLength_cabcc_7 rfl (by decide) rfl ?_
  refine kx_iconst (v := 0) K dJ8_newLength_cabcc_8 (by decide) ?_
  refine kx_iload_n K dJ8_newLength_cabcc_9 rfl 0 rfl ?_
  refine kx_icmp_ge K 21 hf dJ8_newLength_cabcc_10 (by decide) (fun hf => ?_) (fun hf => ?_)
  · refine kx_iload_n K dJ8_newLength_cabcc_21 rfl 1 rfl ?_
    refine kx_iload_n K dJ8_newLength_cabcc_22 rfl 2 rfl ?_
    cases hf
  · refine kx_iload_n K dJ8_newLength_cabcc_13 rfl 0 rfl ?_
    refine kx_ldc (v := 2147483639) K dJ8_newLength_cabcc_14 w_182 ?_
    refine kx_icmp_gt K 21 hf dJ8_newLength_cabcc_16 (by decide) (fun hf => ?_) (fun hf => ?_)
    · refine kx_iload_n K dJ8_newLength_cabcc_21 rfl 1 rfl ?_
      refine kx_iload_n K dJ8_newLength_cabcc_22 rfl 2 rfl ?_
      cases hf
    · refine kx_iload_n K dJ8_newLength_cabcc_19 rfl 0 rfl ?_
      exact kx_iret K hQ (by decide) (by decide) (fun _ h => h) dJ8_newLength_cabcc_20 hf
def m_J5_newCapacity_0f7a4 (σ : ac_H) (a0 : Nat) (a1 : Int32) : Option (Int32 × ac_H) :=
  mo_gr σ a0 10 0 fun x1 =>
  mo_ln σ x1 fun x2 =>
  mo_gi σ a0 10 1 fun x3 =>
  mo_gi σ a0 10 1 fun x4 =>
  mo_cs (m_J8_newLength_cabcc σ x2 ((a1 <<< (x3 &&& 31)) - x2) (x2 + ((2 : Int32) <<< (x4 &&& 31)))) fun x6 σ5 =>
  if x6 = (2147483647 : Int32) then
  (none)
  else
  (mo_gi σ5 a0 10 1 fun x7 =>
  some ((x6 >>> (x7 &&& 31)), σ5))
set_option maxRecDepth 100000 in
set_option maxHeartbeats 4000000 in
theorem k_J5_newCapacity_0f7a4 {Λ : ex_L} {q : Nat} {σ σ' : ac_H} {a0 : Nat} {a1 : Int32} {v : Int32} (hf : m_J5_newCapacity_0f7a4 σ a0 a1 = some (v, σ')) : kx_C Λ yJ5_newCapacity_0f7a4 (.code yJ5_newCapacity_0f7a4 cJ5_newCapacity_0f7a4 6 (some .int)) ({ frames := 2, cells := 0, slots := 0, locals := 44 } : Room) [.ref a0, .int a1] q σ (.inr (some (.int v))) σ' (fun z => z = q) := by
  refine kx_in (by decide +kernel) (Nat.le_of_ble_eq_true rfl) ?_
  intro Γ K hnm hsz hQ
  refine kx_lv (lv' := [(0, .ref a0), (1, .int a1)]) rfl ?_
  unfold m_J5_newCapacity_0f7a4 at hf
  refine kx_aload_n K dJ5_newCapacity_0f7a4_0 rfl 0 rfl ?_
  refine kx_gr K f_J5_15 dJ5_newCapacity_0f7a4_1 hf (fun x1 hf => ?_)
  refine kx_ln K dJ5_newCapacity_0f7a4_4 hf (fun x2 hf => ?_)
  refine kx_istore_n K [(2, .int x2), (0, .ref a0), (1, .int a1)] dJ5_newCapacity_0f7a4_5 rfl (by decide) rfl ?_
  refine kx_iload_n K dJ5_newCapacity_0f7a4_6 rfl 2 rfl ?_
  refine kx_aload_n K dJ5_newCapacity_0f7a4_7 rfl 1 rfl ?_
  refine kx_gi K f_J5_22 dJ5_newCapacity_0f7a4_8 hf (fun x3 hf => ?_)
  refine kx_ishl K dJ5_newCapacity_0f7a4_11 ?_
  refine kx_istore_n K [(3, .int (a1 <<< (x3 &&& 31))), (2, .int x2), (0, .ref a0), (1, .int a1)] dJ5_newCapacity_0f7a4_12 rfl (by decide) rfl ?_
  refine kx_iload_n K dJ5_newCapacity_0f7a4_13 rfl 0 rfl ?_
  refine kx_iload_n K dJ5_newCapacity_0f7a4_14 rfl 1 rfl ?_
  refine kx_isub K dJ5_newCapacity_0f7a4_15 ?_
  refine kx_istore K [(4, .int ((a1 <<< (x3 &&& 31)) - x2)), (3, .int (a1 <<< (x3 &&& 31))), (2, .int x2), (0, .ref a0), (1, .int a1)] dJ5_newCapacity_0f7a4_16 (by decide) rfl ?_
  refine kx_iload_n K dJ5_newCapacity_0f7a4_18 rfl 2 rfl ?_
  refine kx_iload K dJ5_newCapacity_0f7a4_19 0 rfl ?_
  refine kx_iload_n K dJ5_newCapacity_0f7a4_21 rfl 2 rfl ?_
  refine kx_iconst (v := 2) K dJ5_newCapacity_0f7a4_22 (by decide) ?_
  refine kx_aload_n K dJ5_newCapacity_0f7a4_23 rfl 3 rfl ?_
  refine kx_gi K f_J5_22 dJ5_newCapacity_0f7a4_24 hf (fun x4 hf => ?_)
  refine kx_ishl K dJ5_newCapacity_0f7a4_27 ?_
  refine kx_iadd K dJ5_newCapacity_0f7a4_28 ?_
  refine kx_cs3i K c_J5_114 ⟨by decide, by decide, rfl, rfl, (by decide), (by decide)⟩ (Nat.le_of_ble_eq_true rfl) dJ5_newCapacity_0f7a4_29 hf (fun _ _ _ h => k_J8_newLength_cabcc h) (fun x6 σ5 hf => ?_)
  refine kx_istore K [(5, .int x6), (4, .int ((a1 <<< (x3 &&& 31)) - x2)), (3, .int (a1 <<< (x3 &&& 31))), (2, .int x2), (0, .ref a0), (1, .int a1)] dJ5_newCapacity_0f7a4_32 (by decide) rfl ?_
  refine kx_iload K dJ5_newCapacity_0f7a4_34 0 rfl ?_
  refine kx_ldc (v := 2147483647) K dJ5_newCapacity_0f7a4_36 w_173 ?_
  refine kx_icmp_ne K 51 hf dJ5_newCapacity_0f7a4_38 (by decide) (fun hf => ?_) (fun hf => ?_)
  · refine kx_iload K dJ5_newCapacity_0f7a4_51 0 rfl ?_
    refine kx_aload_n K dJ5_newCapacity_0f7a4_53 rfl 4 rfl ?_
    refine kx_gi K f_J5_22 dJ5_newCapacity_0f7a4_54 hf (fun x7 hf => ?_)
    refine kx_ishr K dJ5_newCapacity_0f7a4_57 ?_
    exact kx_iret K hQ (by decide) (by decide) (fun _ h => h) dJ5_newCapacity_0f7a4_58 hf
  · cases hf
def m_J7_copyOf_9075b (σ : ac_H) (a0 : Nat) (a1 : Int32) (q : Nat) : Option ((Nat × Nat) × ac_H) :=
  mo_ln σ a0 fun x1 =>
  if a1 = x1 then
  (mo_cl σ a0 q 300 fun σ5 =>
  mo_ct σ5 q <|
  some ((q, (q + 1)), σ5))
  else
  (mo_nw a1 300 fun m2 =>
  mo_ln (ac_up σ q (.inl (1, kx_ar 1 m2))) a0 fun x3 =>
  mo_cp (ac_up σ q (.inl (1, kx_ar 1 m2))) a0 q 1 (0 : Int32) (0 : Int32) (if a1 < x3 then a1 else x3) fun σ4 =>
  some ((q, (q + 1)), σ4))
set_option maxRecDepth 100000 in
set_option maxHeartbeats 4000000 in
theorem k_J7_copyOf_9075b {Λ : ex_L} {q : Nat} {σ σ' : ac_H} {a0 : Nat} {a1 : Int32} {v : (Nat × Nat)} (hf : m_J7_copyOf_9075b σ a0 a1 q = some (v, σ')) : kx_C Λ yJ7_copyOf_9075b (.code yJ7_copyOf_9075b cJ7_copyOf_9075b 3 (some (.array .byte))) ({ frames := 1, cells := 1, slots := 300, locals := 40 } : Room) [.ref a0, .int a1] q σ (.inr (some (.ref v.1))) σ' (fun z => z = v.2) := by
  refine kx_in (by decide +kernel) (Nat.le_of_ble_eq_true rfl) ?_
  intro Γ K hnm hsz hQ
  refine kx_lv (lv' := [(0, .ref a0), (1, .int a1)]) rfl ?_
  unfold m_J7_copyOf_9075b at hf
  refine kx_iload_n K dJ7_copyOf_9075b_0 rfl 1 rfl ?_
  refine kx_aload_n K dJ7_copyOf_9075b_1 rfl 0 rfl ?_
  refine kx_ln K dJ7_copyOf_9075b_2 hf (fun x1 hf => ?_)
  refine kx_icmp_ne K 14 hf dJ7_copyOf_9075b_3 (by decide) (fun hf => ?_) (fun hf => ?_)
  · refine kx_iload_n K dJ7_copyOf_9075b_14 rfl 1 rfl ?_
    refine kx_newd (kd := 1) (at9 := .byte) K 300 (by decide) rfl w_118 (by decide) (by decide) (by decide) dJ7_copyOf_9075b_15 hf (fun m2 hm2 hf => ?_)
    refine kx_astore_n K [(2, .ref q), (0, .ref a0), (1, .int a1)] dJ7_copyOf_9075b_17 rfl (by decide) rfl ?_
    refine kx_aload_n K dJ7_copyOf_9075b_18 rfl 1 rfl ?_
    refine kx_iconst (v := 0) K dJ7_copyOf_9075b_19 (by decide) ?_
    refine kx_aload_n K dJ7_copyOf_9075b_20 rfl 0 rfl ?_
    refine kx_iconst (v := 0) K dJ7_copyOf_9075b_21 (by decide) ?_
    refine kx_aload_n K dJ7_copyOf_9075b_22 rfl 1 rfl ?_
    refine kx_ln K dJ7_copyOf_9075b_23 hf (fun x3 hf => ?_)
    refine kx_iload_n K dJ7_copyOf_9075b_24 rfl 2 rfl ?_
    refine kx_mmin K w_196 w_197 w_180 w_198 (by decide) (Nat.le_of_ble_eq_true rfl) (by decide) (by decide) dJ7_copyOf_9075b_25 ?_
    refine kx_acp (kd := 1) K w_199 w_136 w_137 w_138 (by decide) (Nat.le_of_ble_eq_true rfl) (by decide) dJ7_copyOf_9075b_28 hf (fun σ4 hf => ?_)
    refine kx_aload_n K dJ7_copyOf_9075b_31 rfl 0 rfl ?_
    exact kx_aretB K hQ (by decide) (by decide) dJ7_copyOf_9075b_32 hf
  · refine kx_aload_n K dJ7_copyOf_9075b_6 rfl 0 rfl ?_
    refine kx_cln K w_190 w_191 w_192 w_193 w_194 (by decide) (Nat.le_of_ble_eq_true rfl) (by decide) (by decide) dJ7_copyOf_9075b_7 hf (fun σ5 hf => ?_)
    refine kx_castM K w_195 dJ7_copyOf_9075b_10 hf (fun hf => ?_)
    exact kx_aretB K hQ (by decide) (by decide) dJ7_copyOf_9075b_13 hf
def m_J5_ensureCapacityInternal_d00df (σ : ac_H) (a0 : Nat) (a1 : Int32) (q : Nat) : Option (Nat × ac_H) :=
  mo_gr σ a0 10 0 fun x1 =>
  mo_ln σ x1 fun x2 =>
  mo_gi σ a0 10 1 fun x3 =>
  if 0 < (a1 - (x2 >>> (x3 &&& 31))) then
  (mo_gr σ a0 10 0 fun x4 =>
  mo_cv σ a0 10 (m_J5_newCapacity_0f7a4 σ a0 a1) fun x6 σ5 =>
  mo_gi σ5 a0 10 1 fun x7 =>
  mo_cs (m_J7_copyOf_9075b σ5 x4 (x6 <<< (x7 &&& 31)) q) fun x9 σ8 =>
  mo_pv σ8 a0 10 0 (.ref x9.1) fun σ11 =>
  some (x9.2, σ11))
  else
  (some (q, σ))
set_option maxRecDepth 100000 in
set_option maxHeartbeats 4000000 in
theorem k_J5_ensureCapacityInternal_d00df {Λ : ex_L} {q : Nat} {σ σ' : ac_H} {a0 : Nat} {a1 : Int32} {v : Nat} (hf : m_J5_ensureCapacityInternal_d00df σ a0 a1 q = some (v, σ')) : kx_C Λ yJ5_ensureCapacityInternal_d00df (.code yJ5_ensureCapacityInternal_d00df cJ5_ensureCapacityInternal_d00df 3 none) ({ frames := 3, cells := 1, slots := 300, locals := 69 } : Room) [.ref a0, .int a1] q σ (.inr none) σ' (fun z => z = v) := by
  refine kx_in (by decide +kernel) (Nat.le_of_ble_eq_true rfl) ?_
  intro Γ K hnm hsz hQ
  refine kx_lv (lv' := [(0, .ref a0), (1, .int a1)]) rfl ?_
  unfold m_J5_ensureCapacityInternal_d00df at hf
  refine kx_aload_n K dJ5_ensureCapacityInternal_d00df_0 rfl 0 rfl ?_
  refine kx_gr K f_J5_15 dJ5_ensureCapacityInternal_d00df_1 hf (fun x1 hf => ?_)
  refine kx_ln K dJ5_ensureCapacityInternal_d00df_4 hf (fun x2 hf => ?_)
  refine kx_aload_n K dJ5_ensureCapacityInternal_d00df_5 rfl 0 rfl ?_
  refine kx_gi K f_J5_22 dJ5_ensureCapacityInternal_d00df_6 hf (fun x3 hf => ?_)
  refine kx_ishr K dJ5_ensureCapacityInternal_d00df_9 ?_
  refine kx_istore_n K [(2, .int (x2 >>> (x3 &&& 31))), (0, .ref a0), (1, .int a1)] dJ5_ensureCapacityInternal_d00df_10 rfl (by decide) rfl ?_
  refine kx_iload_n K dJ5_ensureCapacityInternal_d00df_11 rfl 2 rfl ?_
  refine kx_iload_n K dJ5_ensureCapacityInternal_d00df_12 rfl 0 rfl ?_
  refine kx_isub K dJ5_ensureCapacityInternal_d00df_13 ?_
  refine kx_if_le K 38 hf dJ5_ensureCapacityInternal_d00df_14 (by decide) (fun hf => ?_) (fun hf => ?_)
  · exact kx_vretZ K hQ (by decide) (by decide) dJ5_ensureCapacityInternal_d00df_38 hf
  · refine kx_aload_n K dJ5_ensureCapacityInternal_d00df_17 rfl 1 rfl ?_
    refine kx_aload_n K dJ5_ensureCapacityInternal_d00df_18 rfl 1 rfl ?_
    refine kx_gr K f_J5_15 dJ5_ensureCapacityInternal_d00df_19 hf (fun x4 hf => ?_)
    refine kx_aload_n K dJ5_ensureCapacityInternal_d00df_22 rfl 1 rfl ?_
    refine kx_iload_n K dJ5_ensureCapacityInternal_d00df_23 rfl 2 rfl ?_
    refine kx_cu (ρ := Int32) K [.int a1] (fun x => some (.int x)) c_J5_104 ⟨by decide, by decide, rfl, rfl, (by decide), (by decide)⟩ rfl rfl (Nat.le_of_ble_eq_true rfl) dJ5_ensureCapacityInternal_d00df_24 hf (fun _ _ _ h => k_J5_newCapacity_0f7a4 h) (fun x6 σ5 hf => ?_)
    refine kx_aload_n K dJ5_ensureCapacityInternal_d00df_27 rfl 1 rfl ?_
    refine kx_gi K f_J5_22 dJ5_ensureCapacityInternal_d00df_28 hf (fun x7 hf => ?_)
    refine kx_ishl K dJ5_ensureCapacityInternal_d00df_31 ?_
    refine kx_as (rmy := { frames := 1, cells := 1, slots := 300, locals := 40 }) (k' := 1) (n' := 300) (ρ := Nat × Nat) K [.ref x4, .int (x6 <<< (x7 &&& 31))] (fun x => some (.ref x.1)) (fun x => x.2) c_J5_108 ⟨by decide, by decide, by show 0 + 1 = 1; omega, by show 0 + 300 = 300; omega, (by decide), (by decide)⟩ rfl rfl (Nat.le_of_ble_eq_true rfl) dJ5_ensureCapacityInternal_d00df_32 hf (fun _ _ h => k_J7_copyOf_9075b h) (fun x9 σ8 hf => ?_)
    refine kx_pa K f_J5_15 dJ5_ensureCapacityInternal_d00df_35 hf (fun σ11 hf => ?_)
    exact kx_vretZ K hQ (by decide) (by decide) dJ5_ensureCapacityInternal_d00df_38 hf
def m_J5_inflateIfNeededFor_a7421 (σ : ac_H) (a0 : Nat) (a1 : Nat) : Option (Unit × ac_H) :=
  if (1 : Int32) = 0 then
  (some ((), σ))
  else
  (mo_gi σ a0 10 1 fun x1 =>
  mo_w a1 <|
  if x1 = (0 : Int32) then
  (some ((), σ))
  else
  (none))
set_option maxRecDepth 100000 in
set_option maxHeartbeats 4000000 in
theorem k_J5_inflateIfNeededFor_a7421 {Λ : ex_L} {q : Nat} {σ σ' : ac_H} {a0 : Nat} {a1 : Nat} {v : Unit} (hf : m_J5_inflateIfNeededFor_a7421 σ a0 a1 = some (v, σ')) : kx_C Λ yJ5_inflateIfNeededFor_a7421 (.code yJ5_inflateIfNeededFor_a7421 cJ5_inflateIfNeededFor_a7421 2 none) ({ frames := 1, cells := 0, slots := 0, locals := 20 } : Room) [.ref a0, .ref (ex_k Λ a1)] q σ (.inr none) σ' (fun z => z = q) := by
  refine kx_in (by decide +kernel) (Nat.le_of_ble_eq_true rfl) ?_
  intro Γ K hnm hsz hQ
  refine kx_lv (lv' := [(0, .ref a0), (1, .ref (ex_k Λ a1))]) rfl ?_
  unfold m_J5_inflateIfNeededFor_a7421 at hf
  refine kx_scmpG K w_117 dJ5_inflateIfNeededFor_a7421_0 ?_
  refine kx_if_eq K 21 hf dJ5_inflateIfNeededFor_a7421_3 (by decide) (fun hf => ?_) (fun hf => ?_)
  · exact kx_vret K hQ (by decide) (by decide) (fun _ h => h) dJ5_inflateIfNeededFor_a7421_21 hf
  · refine kx_aload_n K dJ5_inflateIfNeededFor_a7421_6 rfl 0 rfl ?_
    refine kx_gi K f_J5_22 dJ5_inflateIfNeededFor_a7421_7 hf (fun x1 hf => ?_)
    refine kx_aload_n K dJ5_inflateIfNeededFor_a7421_10 rfl 1 rfl ?_
    refine kx_wcdM K w_248 ⟨by decide, by decide, (by decide), (by decide)⟩ (Nat.le_of_ble_eq_true rfl) dJ5_inflateIfNeededFor_a7421_11 hf (fun hf => ?_)
    refine kx_icmp_eq K 21 hf dJ5_inflateIfNeededFor_a7421_14 (by decide) (fun hf => ?_) (fun hf => ?_)
    · exact kx_vret K hQ (by decide) (by decide) (fun _ h => h) dJ5_inflateIfNeededFor_a7421_21 hf
    · refine kx_aload_n K dJ5_inflateIfNeededFor_a7421_17 rfl 0 rfl ?_
      cases hf
def m_J0_getBytes_840e7 (σ : ac_H) (a0 : Nat) (a1 : Nat) (a2 : Int32) (a3 : Int32) : Option (Unit × ac_H) :=
  mo_w a0 <|
  if (0 : Int32) = a3 then
  (mo_w a0 <|
  mo_w a0 <|
  mo_w a0 <|
  mo_cw a0 σ a1 (0 : Int32) (a2 <<< (a3 &&& 31)) (nI (ac_B a0).length) fun σ3 =>
  some ((), σ3))
  else
  (mo_w a0 <|
  mo_w a0 <|
  mo_w a0 <|
  none)
set_option maxRecDepth 100000 in
set_option maxHeartbeats 4000000 in
theorem k_J0_getBytes_840e7 {Λ : ex_L} {q : Nat} {σ σ' : ac_H} {a0 : Nat} {a1 : Nat} {a2 : Int32} {a3 : Int32} {v : Unit} (hf : m_J0_getBytes_840e7 σ a0 a1 a2 a3 = some (v, σ')) : kx_C Λ yJ0_getBytes_840e7 (.code yJ0_getBytes_840e7 cJ0_getBytes_840e7 4 none) ({ frames := 1, cells := 0, slots := 0, locals := 40 } : Room) [.ref (ex_k Λ a0), .ref a1, .int a2, .int a3] q σ (.inr none) σ' (fun z => z = q) := by
  refine kx_in (by decide +kernel) (Nat.le_of_ble_eq_true rfl) ?_
  intro Γ K hnm hsz hQ
  refine kx_lv (lv' := [(0, .ref (ex_k Λ a0)), (1, .ref a1), (2, .int a2), (3, .int a3)]) rfl ?_
  unfold m_J0_getBytes_840e7 at hf
  refine kx_aload_n K dJ0_getBytes_840e7_0 rfl 0 rfl ?_
  refine kx_wcdM K w_234 ⟨by decide, by decide, (by decide), (by decide)⟩ (Nat.le_of_ble_eq_true rfl) dJ0_getBytes_840e7_1 hf (fun hf => ?_)
  refine kx_iload_n K dJ0_getBytes_840e7_4 rfl 3 rfl ?_
  refine kx_icmp_ne K 28 hf dJ0_getBytes_840e7_5 (by decide) (fun hf => ?_) (fun hf => ?_)
  · refine kx_aload_n K dJ0_getBytes_840e7_28 rfl 0 rfl ?_
    refine kx_svalM K dJ0_getBytes_840e7_29 hf (fun hf => ?_)
    refine kx_iconst (v := 0) K dJ0_getBytes_840e7_32 (by decide) ?_
    refine kx_aload_n K dJ0_getBytes_840e7_33 rfl 1 rfl ?_
    refine kx_iload_n K dJ0_getBytes_840e7_34 rfl 2 rfl ?_
    refine kx_aload_n K dJ0_getBytes_840e7_35 rfl 0 rfl ?_
    refine kx_svalM K dJ0_getBytes_840e7_36 hf (fun hf => ?_)
    refine kx_slenM K dJ0_getBytes_840e7_39 hf (fun hf => ?_)
    cases hf
  · refine kx_aload_n K dJ0_getBytes_840e7_8 rfl 0 rfl ?_
    refine kx_svalM K dJ0_getBytes_840e7_9 hf (fun hf => ?_)
    refine kx_iconst (v := 0) K dJ0_getBytes_840e7_12 (by decide) ?_
    refine kx_aload_n K dJ0_getBytes_840e7_13 rfl 1 rfl ?_
    refine kx_iload_n K dJ0_getBytes_840e7_14 rfl 2 rfl ?_
    refine kx_iload_n K dJ0_getBytes_840e7_15 rfl 3 rfl ?_
    refine kx_ishl K dJ0_getBytes_840e7_16 ?_
    refine kx_aload_n K dJ0_getBytes_840e7_17 rfl 0 rfl ?_
    refine kx_svalM K dJ0_getBytes_840e7_18 hf (fun hf => ?_)
    refine kx_slenM K dJ0_getBytes_840e7_21 hf (fun hf => ?_)
    refine kx_acw K w_273 w_136 w_137 w_138 (by decide) (Nat.le_of_ble_eq_true rfl) dJ0_getBytes_840e7_22 hf (fun σ3 hf => ?_)
    refine kx_goto K 43 dJ0_getBytes_840e7_25 (by decide) ?_
    exact kx_vret K hQ (by decide) (by decide) (fun _ h => h) dJ0_getBytes_840e7_43 hf
def m_J5_putStringAt_47b60 (σ : ac_H) (a0 : Nat) (a1 : Int32) (a2 : Nat) : Option (Unit × ac_H) :=
  mo_cv σ a0 10 (m_J5_inflateIfNeededFor_a7421 σ a0 a2) fun _ σ1 =>
  mo_gr σ1 a0 10 0 fun x2 =>
  mo_gi σ1 a0 10 1 fun x3 =>
  mo_w a2 <| mo_cs (m_J0_getBytes_840e7 σ1 a2 x2 a1 x3) fun _ σ4 =>
  some ((), σ4)
set_option maxRecDepth 100000 in
set_option maxHeartbeats 4000000 in
theorem k_J5_putStringAt_47b60 {Λ : ex_L} {q : Nat} {σ σ' : ac_H} {a0 : Nat} {a1 : Int32} {a2 : Nat} {v : Unit} (hf : m_J5_putStringAt_47b60 σ a0 a1 a2 = some (v, σ')) : kx_C Λ yJ5_putStringAt_47b60 (.code yJ5_putStringAt_47b60 cJ5_putStringAt_47b60 3 none) ({ frames := 2, cells := 0, slots := 0, locals := 63 } : Room) [.ref a0, .int a1, .ref (ex_k Λ a2)] q σ (.inr none) σ' (fun z => z = q) := by
  refine kx_in (by decide +kernel) (Nat.le_of_ble_eq_true rfl) ?_
  intro Γ K hnm hsz hQ
  refine kx_lv (lv' := [(0, .ref a0), (1, .int a1), (2, .ref (ex_k Λ a2))]) rfl ?_
  unfold m_J5_putStringAt_47b60 at hf
  refine kx_aload_n K dJ5_putStringAt_47b60_0 rfl 0 rfl ?_
  refine kx_aload_n K dJ5_putStringAt_47b60_1 rfl 2 rfl ?_
  refine kx_cu (ρ := Unit) K [.ref (ex_k Λ a2)] (fun _ => none) c_J5_397 ⟨by decide, by decide, rfl, rfl, (by decide), (by decide)⟩ rfl rfl (Nat.le_of_ble_eq_true rfl) dJ5_putStringAt_47b60_2 hf (fun _ _ _ h => k_J5_inflateIfNeededFor_a7421 h) (fun _ σ1 hf => ?_)
  refine kx_aload_n K dJ5_putStringAt_47b60_5 rfl 2 rfl ?_
  refine kx_aload_n K dJ5_putStringAt_47b60_6 rfl 0 rfl ?_
  refine kx_gr K f_J5_15 dJ5_putStringAt_47b60_7 hf (fun x2 hf => ?_)
  refine kx_iload_n K dJ5_putStringAt_47b60_10 rfl 1 rfl ?_
  refine kx_aload_n K dJ5_putStringAt_47b60_11 rfl 0 rfl ?_
  refine kx_gi K f_J5_22 dJ5_putStringAt_47b60_12 hf (fun x3 hf => ?_)
  refine kx_svvM (np := 3) K [.ref x2, .int a1, .int x3] rfl ⟨w_269, w_270, w_271, w_217, w_272, by decide +kernel, by decide +kernel⟩ ⟨by decide, by decide, rfl, rfl, (by decide), (by decide)⟩ rfl rfl (Nat.le_of_ble_eq_true rfl) dJ5_putStringAt_47b60_15 hf (fun _ _ _ h => k_J0_getBytes_840e7 h) (fun _ σ4 hf => ?_)
  exact kx_vret K hQ (by decide) (by decide) (fun _ h => h) dJ5_putStringAt_47b60_18 hf
def m_J5_append_cf1ce (σ : ac_H) (a0 : Nat) (a1 : Nat) (q : Nat) : Option ((Nat × Nat) × ac_H) :=
  mo_sl a1 fun x1 =>
  mo_gi σ a0 10 3 fun x2 =>
  mo_cv σ a0 10 (m_J5_ensureCapacityInternal_d00df σ a0 (x2 + x1) q) fun z4 σ3 =>
  mo_gi σ3 a0 10 3 fun x5 =>
  mo_cv σ3 a0 10 (m_J5_putStringAt_47b60 σ3 a0 x5 a1) fun _ σ6 =>
  mo_gi σ6 a0 10 3 fun x7 =>
  mo_pv σ6 a0 10 3 (.int (x7 + x1)) fun σ8 =>
  some ((a0, z4), σ8)
set_option maxRecDepth 100000 in
set_option maxHeartbeats 4000000 in
theorem k_J5_append_cf1ce {Λ : ex_L} {q : Nat} {σ σ' : ac_H} {a0 : Nat} {a1 : Nat} {v : (Nat × Nat)} (hf : m_J5_append_cf1ce σ a0 a1 q = some (v, σ')) : kx_C Λ yJ5_append_cf1ce (.code yJ5_append_cf1ce cJ5_append_cf1ce 3 (some (.object "java/lang/AbstractStringBuilder"))) ({ frames := 4, cells := 1, slots := 300, locals := 91 } : Room) [.ref a0, .ref (ex_k Λ a1)] q σ (.inr (some (.ref v.1))) σ' (fun z => z = v.2) := by
  refine kx_in (by decide +kernel) (Nat.le_of_ble_eq_true rfl) ?_
  intro Γ K hnm hsz hQ
  refine kx_lv (lv' := [(0, .ref a0), (1, .ref (ex_k Λ a1))]) rfl ?_
  unfold m_J5_append_cf1ce at hf
  refine kx_aload_n K dJ5_append_cf1ce_0 rfl 1 rfl ?_
  refine kx_ifnn K 9 dJ5_append_cf1ce_1 (by decide) ?_
  refine kx_aload_n K dJ5_append_cf1ce_9 rfl 1 rfl ?_
  refine kx_wl K w_229 ⟨by decide, by decide, (by decide), (by decide)⟩ (Nat.le_of_ble_eq_true rfl) dJ5_append_cf1ce_10 hf (fun x1 hf => ?_)
  refine kx_istore_n K [(2, .int x1), (0, .ref a0), (1, .ref (ex_k Λ a1))] dJ5_append_cf1ce_13 rfl (by decide) rfl ?_
  refine kx_aload_n K dJ5_append_cf1ce_14 rfl 1 rfl ?_
  refine kx_aload_n K dJ5_append_cf1ce_15 rfl 1 rfl ?_
  refine kx_gi K f_J5_79 dJ5_append_cf1ce_16 hf (fun x2 hf => ?_)
  refine kx_iload_n K dJ5_append_cf1ce_19 rfl 0 rfl ?_
  refine kx_iadd K dJ5_append_cf1ce_20 ?_
  refine kx_au (rmy := { frames := 3, cells := 1, slots := 300, locals := 69 }) (k' := 1) (n' := 300) (ρ := Nat) K [.int (x2 + x1)] (fun _ => none) (fun x => x) c_J5_100 ⟨by decide, by decide, by show 0 + 1 = 1; omega, by show 0 + 300 = 300; omega, (by decide), (by decide)⟩ rfl rfl (Nat.le_of_ble_eq_true rfl) dJ5_append_cf1ce_21 hf (fun _ _ h => k_J5_ensureCapacityInternal_d00df h) (fun z4 σ3 hf => ?_)
  refine kx_aload_n K dJ5_append_cf1ce_24 rfl 1 rfl ?_
  refine kx_aload_n K dJ5_append_cf1ce_25 rfl 1 rfl ?_
  refine kx_gi K f_J5_79 dJ5_append_cf1ce_26 hf (fun x5 hf => ?_)
  refine kx_aload_n K dJ5_append_cf1ce_29 rfl 2 rfl ?_
  refine kx_cu (ρ := Unit) K [.int x5, .ref (ex_k Λ a1)] (fun _ => none) c_J5_208 ⟨by decide, by decide, rfl, rfl, (by decide), (by decide)⟩ rfl rfl (Nat.le_of_ble_eq_true rfl) dJ5_append_cf1ce_30 hf (fun _ _ _ h => k_J5_putStringAt_47b60 h) (fun _ σ6 hf => ?_)
  refine kx_aload_n K dJ5_append_cf1ce_33 rfl 1 rfl ?_
  refine kx_dup K dJ5_append_cf1ce_34 rfl ?_
  refine kx_gi K f_J5_79 dJ5_append_cf1ce_35 hf (fun x7 hf => ?_)
  refine kx_iload_n K dJ5_append_cf1ce_38 rfl 0 rfl ?_
  refine kx_iadd K dJ5_append_cf1ce_39 ?_
  refine kx_pi K f_J5_79 dJ5_append_cf1ce_40 hf (fun σ8 hf => ?_)
  refine kx_aload_n K dJ5_append_cf1ce_43 rfl 1 rfl ?_
  exact kx_aretZ K hQ (by decide) (by decide) dJ5_append_cf1ce_44 hf
def m_J4_append_15ec4 (σ : ac_H) (a0 : Nat) (a1 : Nat) (q : Nat) : Option ((Nat × Nat) × ac_H) :=
  mo_cv σ a0 10 (m_J5_append_cf1ce σ a0 a1 q) fun x2 σ1 =>
  some ((a0, x2.2), σ1)
set_option maxRecDepth 100000 in
set_option maxHeartbeats 4000000 in
theorem k_J4_append_15ec4 {Λ : ex_L} {q : Nat} {σ σ' : ac_H} {a0 : Nat} {a1 : Nat} {v : (Nat × Nat)} (hf : m_J4_append_15ec4 σ a0 a1 q = some (v, σ')) : kx_C Λ yJ4_append_15ec4 (.code yJ4_append_15ec4 cJ4_append_15ec4 2 (some (.object "java/lang/StringBuilder"))) ({ frames := 5, cells := 1, slots := 300, locals := 113 } : Room) [.ref a0, .ref (ex_k Λ a1)] q σ (.inr (some (.ref v.1))) σ' (fun z => z = v.2) := by
  refine kx_in (by decide +kernel) (Nat.le_of_ble_eq_true rfl) ?_
  intro Γ K hnm hsz hQ
  refine kx_lv (lv' := [(0, .ref a0), (1, .ref (ex_k Λ a1))]) rfl ?_
  unfold m_J4_append_15ec4 at hf
  refine kx_aload_n K dJ4_append_15ec4_0 rfl 0 rfl ?_
  refine kx_aload_n K dJ4_append_15ec4_1 rfl 1 rfl ?_
  refine kx_ag (rmy := { frames := 4, cells := 1, slots := 300, locals := 91 }) (k' := 1) (n' := 300) (ρ := Nat × Nat) K [.ref (ex_k Λ a1)] (fun x => some (.ref x.1)) (fun x => x.2) c_J4_29 ⟨by decide, by decide, by show 0 + 1 = 1; omega, by show 0 + 300 = 300; omega, (by decide), (by decide)⟩ rfl rfl (Nat.le_of_ble_eq_true rfl) dJ4_append_15ec4_2 hf (fun _ _ h => k_J5_append_cf1ce h) (fun x2 σ1 hf => ?_)
  refine kx_pop K dJ4_append_15ec4_5 rfl ?_
  refine kx_aload_n K dJ4_append_15ec4_6 rfl 0 rfl ?_
  exact kx_aretZ K hQ (by decide) (by decide) dJ4_append_15ec4_7 hf
def m_J5_isLatin1_aae02 (σ : ac_H) (a0 : Nat) : Option (Int32 × ac_H) :=
  if (1 : Int32) = 0 then
  (mo_z (0 : Int32) (some ((0 : Int32), σ)))
  else
  (mo_gi σ a0 10 1 fun x1 =>
  if x1 = 0 then
  (mo_z (1 : Int32) (some ((1 : Int32), σ)))
  else
  (mo_z (0 : Int32) (some ((0 : Int32), σ))))
set_option maxRecDepth 100000 in
set_option maxHeartbeats 4000000 in
theorem k_J5_isLatin1_aae02 {Λ : ex_L} {q : Nat} {σ σ' : ac_H} {a0 : Nat} {v : Int32} (hf : m_J5_isLatin1_aae02 σ a0 = some (v, σ')) : kx_C Λ yJ5_isLatin1_aae02 (.code yJ5_isLatin1_aae02 cJ5_isLatin1_aae02 1 (some .boolean)) ({ frames := 0, cells := 0, slots := 0, locals := 0 } : Room) [.ref a0] q σ (.inr (some (.int v))) σ' (fun z => z = q) := by
  refine kx_in (by decide +kernel) (Nat.le_of_ble_eq_true rfl) ?_
  intro Γ K hnm hsz hQ
  refine kx_lv (lv' := [(0, .ref a0)]) rfl ?_
  unfold m_J5_isLatin1_aae02 at hf
  refine kx_scmpG K w_117 dJ5_isLatin1_aae02_0 ?_
  refine kx_if_eq K 17 hf dJ5_isLatin1_aae02_3 (by decide) (fun hf => ?_) (fun hf => ?_)
  · refine kx_iconst (v := 0) K dJ5_isLatin1_aae02_17 (by decide) ?_
    exact kx_zret K hQ (by decide) (by decide) (fun _ h => h) dJ5_isLatin1_aae02_18 hf
  · refine kx_aload_n K dJ5_isLatin1_aae02_6 rfl 0 rfl ?_
    refine kx_gi K f_J5_22 dJ5_isLatin1_aae02_7 hf (fun x1 hf => ?_)
    refine kx_if_ne K 17 hf dJ5_isLatin1_aae02_10 (by decide) (fun hf => ?_) (fun hf => ?_)
    · refine kx_iconst (v := 0) K dJ5_isLatin1_aae02_17 (by decide) ?_
      exact kx_zret K hQ (by decide) (by decide) (fun _ h => h) dJ5_isLatin1_aae02_18 hf
    · refine kx_iconst (v := 1) K dJ5_isLatin1_aae02_13 (by decide) ?_
      refine kx_goto K 18 dJ5_isLatin1_aae02_14 (by decide) ?_
      exact kx_zret K hQ (by decide) (by decide) (fun _ h => h) dJ5_isLatin1_aae02_18 hf
def m_J1_canEncode_fc78d (σ : ac_H) (a0 : Int32) : Option (Int32 × ac_H) :=
  if (255 : Int32) < a0 then
  (mo_z (0 : Int32) (some ((0 : Int32), σ)))
  else
  (mo_z (1 : Int32) (some ((1 : Int32), σ)))
set_option maxRecDepth 100000 in
set_option maxHeartbeats 4000000 in
theorem k_J1_canEncode_fc78d {Λ : ex_L} {q : Nat} {σ σ' : ac_H} {a0 : Int32} {v : Int32} (hf : m_J1_canEncode_fc78d σ a0 = some (v, σ')) : kx_C Λ yJ1_canEncode_fc78d (.code yJ1_canEncode_fc78d cJ1_canEncode_fc78d 1 (some .boolean)) ({ frames := 0, cells := 0, slots := 0, locals := 0 } : Room) [.int a0] q σ (.inr (some (.int v))) σ' (fun z => z = q) := by
  refine kx_in (by decide +kernel) (Nat.le_of_ble_eq_true rfl) ?_
  intro Γ K hnm hsz hQ
  refine kx_lv (lv' := [(0, .int a0)]) rfl ?_
  unfold m_J1_canEncode_fc78d at hf
  refine kx_iload_n K dJ1_canEncode_fc78d_0 rfl 0 rfl ?_
  refine kx_sipush (v := 255) K dJ1_canEncode_fc78d_1 (by decide) ?_
  refine kx_icmp_gt K 11 hf dJ1_canEncode_fc78d_4 (by decide) (fun hf => ?_) (fun hf => ?_)
  · refine kx_iconst (v := 0) K dJ1_canEncode_fc78d_11 (by decide) ?_
    exact kx_zret K hQ (by decide) (by decide) (fun _ h => h) dJ1_canEncode_fc78d_12 hf
  · refine kx_iconst (v := 1) K dJ1_canEncode_fc78d_7 (by decide) ?_
    refine kx_goto K 12 dJ1_canEncode_fc78d_8 (by decide) ?_
    exact kx_zret K hQ (by decide) (by decide) (fun _ h => h) dJ1_canEncode_fc78d_12 hf
def m_J5_append_3fe6f_j45  (a0 : Nat) (a1 : Int32) (σ13 : ac_H) (z12 : Nat) : Option ((Nat × Nat) × ac_H) :=
  mo_cv σ13 a0 10 (m_J5_isLatin1_aae02 σ13 a0) fun x15 σ14 =>
  if x15 = 0 then
  (mo_gr σ14 a0 10 0 fun x16 =>
  mo_gi σ14 a0 10 3 fun x17 =>
  mo_pv σ14 a0 10 3 (.int (x17 + (1 : Int32))) fun σ18 =>
  none)
  else
  (none)
def m_J5_append_3fe6f (σ : ac_H) (a0 : Nat) (a1 : Int32) (q : Nat) : Option ((Nat × Nat) × ac_H) :=
  mo_gi σ a0 10 3 fun x1 =>
  mo_cv σ a0 10 (m_J5_ensureCapacityInternal_d00df σ a0 (x1 + (1 : Int32)) q) fun z3 σ2 =>
  mo_cv σ2 a0 10 (m_J5_isLatin1_aae02 σ2 a0) fun x5 σ4 =>
  if x5 = 0 then
  (m_J5_append_3fe6f_j45 a0 a1 σ4 z3)
  else
  (mo_cs (m_J1_canEncode_fc78d σ4 a1) fun x7 σ6 =>
  if x7 = 0 then
  (m_J5_append_3fe6f_j45 a0 a1 σ6 z3)
  else
  (mo_gr σ6 a0 10 0 fun x8 =>
  mo_gi σ6 a0 10 3 fun x9 =>
  mo_pv σ6 a0 10 3 (.int (x9 + (1 : Int32))) fun σ10 =>
  mo_ui σ10 x8 1 x9 (vp_nar .byte ((a1).toInt8.toInt32)) fun σ11 =>
  some ((a0, z3), σ11)))
set_option maxRecDepth 100000 in
set_option maxHeartbeats 4000000 in
theorem k_J5_append_3fe6f {Λ : ex_L} {q : Nat} {σ σ' : ac_H} {a0 : Nat} {a1 : Int32} {v : (Nat × Nat)} (hf : m_J5_append_3fe6f σ a0 a1 q = some (v, σ')) : kx_C Λ yJ5_append_3fe6f (.code yJ5_append_3fe6f cJ5_append_3fe6f 2 (some (.object "java/lang/AbstractStringBuilder"))) ({ frames := 4, cells := 1, slots := 300, locals := 91 } : Room) [.ref a0, .int a1] q σ (.inr (some (.ref v.1))) σ' (fun z => z = v.2) := by
  refine kx_in (by decide +kernel) (Nat.le_of_ble_eq_true rfl) ?_
  intro Γ K hnm hsz hQ
  refine kx_lv (lv' := [(0, .ref a0), (1, .int a1)]) rfl ?_
  have B45 : ∀ (k0 n0 : Nat) (σ13 : ac_H) (z12 : Nat), k0 ≤ 1 → n0 ≤ 300 → m_J5_append_3fe6f_j45 a0 a1 σ13 z12 = some (v, σ') → kx_S Λ Γ 2 (fun z => z = z12) σ13 (k0) (n0) 45 [(0, .ref a0), (1, .int a1)] [] := by
    intro k0 n0 σ13 z12 hk0 hn0 hf
    unfold m_J5_append_3fe6f_j45 at hf
    refine kx_aload_n K dJ5_append_3fe6f_45 rfl 0 rfl ?_
    refine kx_cu (ρ := Int32) K [] (fun x => some (.int x)) c_J5_83 ⟨by decide, by decide, rfl, rfl, (show k0 ≤ 1 by omega), (show n0 ≤ 300 by omega)⟩ rfl rfl (Nat.le_of_ble_eq_true rfl) dJ5_append_3fe6f_46 hf (fun _ _ _ h => k_J5_isLatin1_aae02 h) (fun x15 σ14 hf => ?_)
    refine kx_if_eq K 56 hf dJ5_append_3fe6f_49 (by decide) (fun hf => ?_) (fun hf => ?_)
    · refine kx_aload_n K dJ5_append_3fe6f_56 rfl 0 rfl ?_
      refine kx_gr K f_J5_15 dJ5_append_3fe6f_57 hf (fun x16 hf => ?_)
      refine kx_aload_n K dJ5_append_3fe6f_60 rfl 0 rfl ?_
      refine kx_dup K dJ5_append_3fe6f_61 rfl ?_
      refine kx_gi K f_J5_79 dJ5_append_3fe6f_62 hf (fun x17 hf => ?_)
      refine kx_dup_x1 K dJ5_append_3fe6f_65 rfl rfl ?_
      refine kx_iconst (v := 1) K dJ5_append_3fe6f_66 (by decide) ?_
      refine kx_iadd K dJ5_append_3fe6f_67 ?_
      refine kx_pi K f_J5_79 dJ5_append_3fe6f_68 hf (fun σ18 hf => ?_)
      refine kx_iload_n K dJ5_append_3fe6f_71 rfl 1 rfl ?_
      cases hf
    · refine kx_aload_n K dJ5_append_3fe6f_52 rfl 0 rfl ?_
      cases hf
  unfold m_J5_append_3fe6f at hf
  refine kx_aload_n K dJ5_append_3fe6f_0 rfl 0 rfl ?_
  refine kx_aload_n K dJ5_append_3fe6f_1 rfl 0 rfl ?_
  refine kx_gi K f_J5_79 dJ5_append_3fe6f_2 hf (fun x1 hf => ?_)
  refine kx_iconst (v := 1) K dJ5_append_3fe6f_5 (by decide) ?_
  refine kx_iadd K dJ5_append_3fe6f_6 ?_
  refine kx_au (rmy := { frames := 3, cells := 1, slots := 300, locals := 69 }) (k' := 1) (n' := 300) (ρ := Nat) K [.int (x1 + (1 : Int32))] (fun _ => none) (fun x => x) c_J5_100 ⟨by decide, by decide, by show 0 + 1 = 1; omega, by show 0 + 300 = 300; omega, (by decide), (by decide)⟩ rfl rfl (Nat.le_of_ble_eq_true rfl) dJ5_append_3fe6f_7 hf (fun _ _ h => k_J5_ensureCapacityInternal_d00df h) (fun z3 σ2 hf => ?_)
  refine kx_aload_n K dJ5_append_3fe6f_10 rfl 0 rfl ?_
  refine kx_cu (ρ := Int32) K [] (fun x => some (.int x)) c_J5_83 ⟨by decide, by decide, rfl, rfl, (by decide), (by decide)⟩ rfl rfl (Nat.le_of_ble_eq_true rfl) dJ5_append_3fe6f_11 hf (fun _ _ _ h => k_J5_isLatin1_aae02 h) (fun x5 σ4 hf => ?_)
  refine kx_if_eq K 45 hf dJ5_append_3fe6f_14 (by decide) (fun hf => ?_) (fun hf => ?_)
  · refine kx_sub [(0, .ref a0), (1, .int a1)] [0, 1] rfl ?_
    exact B45 (1) (300) _ _ (by omega) (by omega) hf
  · refine kx_iload_n K dJ5_append_3fe6f_17 rfl 1 rfl ?_
    refine kx_cs1i K c_J5_191 ⟨by decide, by decide, rfl, rfl, (by decide), (by decide)⟩ (Nat.le_of_ble_eq_true rfl) dJ5_append_3fe6f_18 hf (fun _ _ _ h => k_J1_canEncode_fc78d h) (fun x7 σ6 hf => ?_)
    refine kx_if_eq K 45 hf dJ5_append_3fe6f_21 (by decide) (fun hf => ?_) (fun hf => ?_)
    · refine kx_sub [(0, .ref a0), (1, .int a1)] [0, 1] rfl ?_
      exact B45 (1) (300) _ _ (by omega) (by omega) hf
    · refine kx_aload_n K dJ5_append_3fe6f_24 rfl 0 rfl ?_
      refine kx_gr K f_J5_15 dJ5_append_3fe6f_25 hf (fun x8 hf => ?_)
      refine kx_aload_n K dJ5_append_3fe6f_28 rfl 0 rfl ?_
      refine kx_dup K dJ5_append_3fe6f_29 rfl ?_
      refine kx_gi K f_J5_79 dJ5_append_3fe6f_30 hf (fun x9 hf => ?_)
      refine kx_dup_x1 K dJ5_append_3fe6f_33 rfl rfl ?_
      refine kx_iconst (v := 1) K dJ5_append_3fe6f_34 (by decide) ?_
      refine kx_iadd K dJ5_append_3fe6f_35 ?_
      refine kx_pi K f_J5_79 dJ5_append_3fe6f_36 hf (fun σ10 hf => ?_)
      refine kx_iload_n K dJ5_append_3fe6f_39 rfl 1 rfl ?_
      refine kx_i2b K dJ5_append_3fe6f_40 ?_
      refine kx_ub K dJ5_append_3fe6f_41 hf (fun σ11 hf => ?_)
      refine kx_goto K 75 dJ5_append_3fe6f_42 (by decide) ?_
      refine kx_aload_n K dJ5_append_3fe6f_75 rfl 0 rfl ?_
      exact kx_aretZ K hQ (by decide) (by decide) dJ5_append_3fe6f_76 hf
def m_J4_append_cf468 (σ : ac_H) (a0 : Nat) (a1 : Int32) (q : Nat) : Option ((Nat × Nat) × ac_H) :=
  mo_cv σ a0 10 (m_J5_append_3fe6f σ a0 a1 q) fun x2 σ1 =>
  some ((a0, x2.2), σ1)
set_option maxRecDepth 100000 in
set_option maxHeartbeats 4000000 in
theorem k_J4_append_cf468 {Λ : ex_L} {q : Nat} {σ σ' : ac_H} {a0 : Nat} {a1 : Int32} {v : (Nat × Nat)} (hf : m_J4_append_cf468 σ a0 a1 q = some (v, σ')) : kx_C Λ yJ4_append_cf468 (.code yJ4_append_cf468 cJ4_append_cf468 2 (some (.object "java/lang/StringBuilder"))) ({ frames := 5, cells := 1, slots := 300, locals := 112 } : Room) [.ref a0, .int a1] q σ (.inr (some (.ref v.1))) σ' (fun z => z = v.2) := by
  refine kx_in (by decide +kernel) (Nat.le_of_ble_eq_true rfl) ?_
  intro Γ K hnm hsz hQ
  refine kx_lv (lv' := [(0, .ref a0), (1, .int a1)]) rfl ?_
  unfold m_J4_append_cf468 at hf
  refine kx_aload_n K dJ4_append_cf468_0 rfl 0 rfl ?_
  refine kx_iload_n K dJ4_append_cf468_1 rfl 1 rfl ?_
  refine kx_ag (rmy := { frames := 4, cells := 1, slots := 300, locals := 91 }) (k' := 1) (n' := 300) (ρ := Nat × Nat) K [.int a1] (fun x => some (.ref x.1)) (fun x => x.2) c_J4_50 ⟨by decide, by decide, by show 0 + 1 = 1; omega, by show 0 + 300 = 300; omega, (by decide), (by decide)⟩ rfl rfl (Nat.le_of_ble_eq_true rfl) dJ4_append_cf468_2 hf (fun _ _ h => k_J5_append_3fe6f h) (fun x2 σ1 hf => ?_)
  refine kx_pop K dJ4_append_cf468_5 rfl ?_
  refine kx_aload_n K dJ4_append_cf468_6 rfl 0 rfl ?_
  exact kx_aretZ K hQ (by decide) (by decide) dJ4_append_cf468_7 hf
def m_J6_stringSize_0f7a4_l16   : Nat → ac_H → Int32 → Int32 → Int32 → Int32 → Option (Int32 × ac_H)
  | 0, _, _, _, _, _ => none
  | n + 1, σ5, v1, v2, v3, v4 =>
    if v4 < (10 : Int32) then
    (if v3 < v1 then
    (some ((v4 + v2), σ5))
    else
    (m_J6_stringSize_0f7a4_l16 n σ5 v1 v2 ((10 : Int32) * v3) (v4 + 1)))
    else
    (some (((10 : Int32) + v2), σ5))
def m_J6_stringSize_0f7a4 (σ : ac_H) (a0 : Int32) : Option (Int32 × ac_H) :=
  if a0 < 0 then
  (m_J6_stringSize_0f7a4_l16 hN_f σ a0 (1 : Int32) (-10 : Int32) (1 : Int32))
  else
  (m_J6_stringSize_0f7a4_l16 hN_f σ (-a0) (0 : Int32) (-10 : Int32) (1 : Int32))
set_option maxRecDepth 100000 in
set_option maxHeartbeats 4000000 in
theorem k_J6_stringSize_0f7a4 {Λ : ex_L} {q : Nat} {σ σ' : ac_H} {a0 : Int32} {v : Int32} (hf : m_J6_stringSize_0f7a4 σ a0 = some (v, σ')) : kx_C Λ yJ6_stringSize_0f7a4 (.code yJ6_stringSize_0f7a4 cJ6_stringSize_0f7a4 4 (some .int)) ({ frames := 0, cells := 0, slots := 0, locals := 0 } : Room) [.int a0] q σ (.inr (some (.int v))) σ' (fun z => z = q) := by
  refine kx_in (by decide +kernel) (Nat.le_of_ble_eq_true rfl) ?_
  intro Γ K hnm hsz hQ
  refine kx_lv (lv' := [(0, .int a0)]) rfl ?_
  have B16 : ∀ (n16 : Nat) (σ5 : ac_H) (v1 : Int32) (v2 : Int32) (v3 : Int32) (v4 : Int32), m_J6_stringSize_0f7a4_l16 n16 σ5 v1 v2 v3 v4 = some (v, σ') → kx_S Λ Γ 4 (fun z => z = q) σ5 (0) (0) 16 [(0, .int v1), (1, .int v2), (2, .int v3), (3, .int v4)] [] := by
    intro n16
    induction n16 with
    | zero =>
      intro σ5 v1 v2 v3 v4 hf
      rw [m_J6_stringSize_0f7a4_l16] at hf
      cases hf
    | succ n16 ih16 =>
      intro σ5 v1 v2 v3 v4 hf
      rw [m_J6_stringSize_0f7a4_l16] at hf
      refine kx_iload_n K dJ6_stringSize_0f7a4_16 rfl 3 rfl ?_
      refine kx_bipush (v := 10) K dJ6_stringSize_0f7a4_17 (by decide) ?_
      refine kx_icmp_ge K 42 hf dJ6_stringSize_0f7a4_19 (by decide) (fun hf => ?_) (fun hf => ?_)
      · refine kx_bipush (v := 10) K dJ6_stringSize_0f7a4_42 (by decide) ?_
        refine kx_iload_n K dJ6_stringSize_0f7a4_44 rfl 1 rfl ?_
        refine kx_iadd K dJ6_stringSize_0f7a4_45 ?_
        exact kx_iret K hQ (by decide) (by decide) (fun _ h => h) dJ6_stringSize_0f7a4_46 hf
      · refine kx_iload_n K dJ6_stringSize_0f7a4_22 rfl 0 rfl ?_
        refine kx_iload_n K dJ6_stringSize_0f7a4_23 rfl 2 rfl ?_
        refine kx_icmp_le K 31 hf dJ6_stringSize_0f7a4_24 (by decide) (fun hf => ?_) (fun hf => ?_)
        · refine kx_bipush (v := 10) K dJ6_stringSize_0f7a4_31 (by decide) ?_
          refine kx_iload_n K dJ6_stringSize_0f7a4_33 rfl 2 rfl ?_
          refine kx_imul K dJ6_stringSize_0f7a4_34 ?_
          refine kx_istore_n K [(2, .int ((10 : Int32) * v3)), (0, .int v1), (1, .int v2), (3, .int v4)] dJ6_stringSize_0f7a4_35 rfl (by decide) rfl ?_
          refine kx_iinc (v := (v4 + 1)) K [(3, .int (v4 + 1)), (2, .int ((10 : Int32) * v3)), (0, .int v1), (1, .int v2)] dJ6_stringSize_0f7a4_36 3 rfl rfl (by decide) rfl ?_
          refine kx_goto K 16 dJ6_stringSize_0f7a4_39 (by decide) ?_
          refine kx_sub [(0, .int v1), (1, .int v2), (2, .int ((10 : Int32) * v3)), (3, .int (v4 + 1))] [2, 3, 1, 0] rfl ?_
          exact ih16 _ _ _ _ _ hf
        · refine kx_iload_n K dJ6_stringSize_0f7a4_27 rfl 3 rfl ?_
          refine kx_iload_n K dJ6_stringSize_0f7a4_28 rfl 1 rfl ?_
          refine kx_iadd K dJ6_stringSize_0f7a4_29 ?_
          exact kx_iret K hQ (by decide) (by decide) (fun _ h => h) dJ6_stringSize_0f7a4_30 hf
  unfold m_J6_stringSize_0f7a4 at hf
  refine kx_iconst (v := 1) K dJ6_stringSize_0f7a4_0 (by decide) ?_
  refine kx_istore_n K [(1, .int (1 : Int32)), (0, .int a0)] dJ6_stringSize_0f7a4_1 rfl (by decide) rfl ?_
  refine kx_iload_n K dJ6_stringSize_0f7a4_2 rfl 1 rfl ?_
  refine kx_if_lt K 11 hf dJ6_stringSize_0f7a4_3 (by decide) (fun hf => ?_) (fun hf => ?_)
  · refine kx_bipush (v := -10) K dJ6_stringSize_0f7a4_11 (by decide) ?_
    refine kx_istore_n K [(2, .int (-10 : Int32)), (1, .int (1 : Int32)), (0, .int a0)] dJ6_stringSize_0f7a4_13 rfl (by decide) rfl ?_
    refine kx_iconst (v := 1) K dJ6_stringSize_0f7a4_14 (by decide) ?_
    refine kx_istore_n K [(3, .int (1 : Int32)), (2, .int (-10 : Int32)), (1, .int (1 : Int32)), (0, .int a0)] dJ6_stringSize_0f7a4_15 rfl (by decide) rfl ?_
    refine kx_sub [(0, .int a0), (1, .int (1 : Int32)), (2, .int (-10 : Int32)), (3, .int (1 : Int32))] [3, 2, 1, 0] rfl ?_
    exact B16 hN_f _ _ _ _ _ hf
  · refine kx_iconst (v := 0) K dJ6_stringSize_0f7a4_6 (by decide) ?_
    refine kx_istore_n K [(1, .int (0 : Int32)), (0, .int a0)] dJ6_stringSize_0f7a4_7 rfl (by decide) rfl ?_
    refine kx_iload_n K dJ6_stringSize_0f7a4_8 rfl 1 rfl ?_
    refine kx_ineg K dJ6_stringSize_0f7a4_9 ?_
    refine kx_istore_n K [(0, .int (-a0)), (1, .int (0 : Int32))] dJ6_stringSize_0f7a4_10 rfl (by decide) rfl ?_
    refine kx_bipush (v := -10) K dJ6_stringSize_0f7a4_11 (by decide) ?_
    refine kx_istore_n K [(2, .int (-10 : Int32)), (0, .int (-a0)), (1, .int (0 : Int32))] dJ6_stringSize_0f7a4_13 rfl (by decide) rfl ?_
    refine kx_iconst (v := 1) K dJ6_stringSize_0f7a4_14 (by decide) ?_
    refine kx_istore_n K [(3, .int (1 : Int32)), (2, .int (-10 : Int32)), (0, .int (-a0)), (1, .int (0 : Int32))] dJ6_stringSize_0f7a4_15 rfl (by decide) rfl ?_
    refine kx_sub [(0, .int (-a0)), (1, .int (0 : Int32)), (2, .int (-10 : Int32)), (3, .int (1 : Int32))] [2, 3, 1, 0] rfl ?_
    exact B16 hN_f _ _ _ _ _ hf
def m_J6_getChars_ba4f3_j104  (a2 : Nat) (σ20 : ac_H) (v18 : Int32) (v19 : Int32) : Option (Int32 × ac_H) :=
  if v19 = 0 then
  (some (v18, σ20))
  else
  (mo_ui σ20 a2 1 (v18 + (-1)) (vp_nar .byte (45 : Int32)) fun σ21 =>
  some ((v18 + (-1)), σ21))
def m_J6_getChars_ba4f3_l22  (a2 : Nat) : Nat → ac_H → Int32 → Int32 → Int32 → Option (Int32 × ac_H)
  | 0, _, _, _, _ => none
  | n + 1, σ8, v5, v6, v7 =>
    if (-100 : Int32) < v5 then
    (mo_d 0 (-v5) fun x9 =>
    mo_ui σ8 a2 1 (v6 + (-1)) (vp_nar .byte x9) fun σ10 =>
    if v5 < (-9 : Int32) then
    (mo_d 1 (-v5) fun x11 =>
    mo_ui σ10 a2 1 ((v6 + (-1)) + (-1)) (vp_nar .byte x11) fun σ12 =>
    m_J6_getChars_ba4f3_j104 a2 σ12 ((v6 + (-1)) + (-1)) v7)
    else
    (m_J6_getChars_ba4f3_j104 a2 σ10 (v6 + (-1)) v7))
    else
    (mo_dv v5 (100 : Int32) fun x13 =>
    mo_d 0 ((x13 * (100 : Int32)) - v5) fun x14 =>
    mo_ui σ8 a2 1 (v6 + (-1)) (vp_nar .byte x14) fun σ15 =>
    mo_d 1 ((x13 * (100 : Int32)) - v5) fun x16 =>
    mo_ui σ15 a2 1 ((v6 + (-1)) + (-1)) (vp_nar .byte x16) fun σ17 =>
    m_J6_getChars_ba4f3_l22 a2 n σ17 x13 ((v6 + (-1)) + (-1)) v7)
def m_J6_getChars_ba4f3_j12  (a2 : Nat) (σ4 : ac_H) (v1 : Int32) (v2 : Int32) (w3 : Int32) : Option (Int32 × ac_H) :=
  if w3 = 0 then
  (m_J6_getChars_ba4f3_l22 a2 hN_f σ4 (-v1) v2 w3)
  else
  (m_J6_getChars_ba4f3_l22 a2 hN_f σ4 v1 v2 w3)
def m_J6_getChars_ba4f3 (σ : ac_H) (a0 : Int32) (a1 : Int32) (a2 : Nat) : Option (Int32 × ac_H) :=
  if a0 < 0 then
  (m_J6_getChars_ba4f3_j12 a2 σ a0 a1 (1 : Int32))
  else
  (m_J6_getChars_ba4f3_j12 a2 σ a0 a1 (0 : Int32))
set_option maxRecDepth 100000 in
set_option maxHeartbeats 4000000 in
theorem k_J6_getChars_ba4f3 {Λ : ex_L} {q : Nat} {σ σ' : ac_H} {a0 : Int32} {a1 : Int32} {a2 : Nat} {v : Int32} (hf : m_J6_getChars_ba4f3 σ a0 a1 a2 = some (v, σ')) : kx_C Λ yJ6_getChars_ba4f3 (.code yJ6_getChars_ba4f3 cJ6_getChars_ba4f3 7 (some .int)) ({ frames := 0, cells := 0, slots := 0, locals := 0 } : Room) [.int a0, .int a1, .ref a2] q σ (.inr (some (.int v))) σ' (fun z => z = q) := by
  refine kx_in (by decide +kernel) (Nat.le_of_ble_eq_true rfl) ?_
  intro Γ K hnm hsz hQ
  refine kx_lv (lv' := [(0, .int a0), (1, .int a1), (2, .ref a2)]) rfl ?_
  have B104 : ∀ (σ20 : ac_H) (v18 : Int32) (v19 : Int32), m_J6_getChars_ba4f3_j104 a2 σ20 v18 v19 = some (v, σ') → kx_S Λ Γ 7 (fun z => z = q) σ20 (0) (0) 104 [(2, .ref a2), (5, .int v18), (6, .int v19)] [] := by
    intro σ20 v18 v19 hf
    unfold m_J6_getChars_ba4f3_j104 at hf
    refine kx_iload K dJ6_getChars_ba4f3_104 2 rfl ?_
    refine kx_if_eq K 118 hf dJ6_getChars_ba4f3_106 (by decide) (fun hf => ?_) (fun hf => ?_)
    · refine kx_iload K dJ6_getChars_ba4f3_118 1 rfl ?_
      exact kx_iret K hQ (by decide) (by decide) (fun _ h => h) dJ6_getChars_ba4f3_120 hf
    · refine kx_aload_n K dJ6_getChars_ba4f3_109 rfl 0 rfl ?_
      refine kx_iinc (v := (v18 + (-1))) K [(5, .int (v18 + (-1))), (2, .ref a2), (6, .int v19)] dJ6_getChars_ba4f3_110 1 rfl rfl (by decide) rfl ?_
      refine kx_iload K dJ6_getChars_ba4f3_113 0 rfl ?_
      refine kx_bipush (v := 45) K dJ6_getChars_ba4f3_115 (by decide) ?_
      refine kx_ub K dJ6_getChars_ba4f3_117 hf (fun σ21 hf => ?_)
      refine kx_iload K dJ6_getChars_ba4f3_118 0 rfl ?_
      exact kx_iret K hQ (by decide) (by decide) (fun _ h => h) dJ6_getChars_ba4f3_120 hf
  have B22 : ∀ (n22 : Nat) (σ8 : ac_H) (v5 : Int32) (v6 : Int32) (v7 : Int32), m_J6_getChars_ba4f3_l22 a2 n22 σ8 v5 v6 v7 = some (v, σ') → kx_S Λ Γ 7 (fun z => z = q) σ8 (0) (0) 22 [(0, .int v5), (2, .ref a2), (5, .int v6), (6, .int v7)] [] := by
    intro n22
    induction n22 with
    | zero =>
      intro σ8 v5 v6 v7 hf
      rw [m_J6_getChars_ba4f3_l22] at hf
      cases hf
    | succ n22 ih22 =>
      intro σ8 v5 v6 v7 hf
      rw [m_J6_getChars_ba4f3_l22] at hf
      refine kx_iload_n K dJ6_getChars_ba4f3_22 rfl 0 rfl ?_
      refine kx_bipush (v := -100) K dJ6_getChars_ba4f3_23 (by decide) ?_
      refine kx_icmp_gt K 72 hf dJ6_getChars_ba4f3_25 (by decide) (fun hf => ?_) (fun hf => ?_)
      · refine kx_aload_n K dJ6_getChars_ba4f3_72 rfl 1 rfl ?_
        refine kx_iinc (v := (v6 + (-1))) K [(5, .int (v6 + (-1))), (0, .int v5), (2, .ref a2), (6, .int v7)] dJ6_getChars_ba4f3_73 2 rfl rfl (by decide) rfl ?_
        refine kx_iload K dJ6_getChars_ba4f3_76 0 rfl ?_
        refine kx_gsD K 0 (by decide) w_313 dJ6_getChars_ba4f3_78 ?_
        refine kx_iload_n K dJ6_getChars_ba4f3_81 rfl 1 rfl ?_
        refine kx_ineg K dJ6_getChars_ba4f3_82 ?_
        refine kx_td K 0 (by decide) dJ6_getChars_ba4f3_83 hf (fun x9 hf => ?_)
        refine kx_ub K dJ6_getChars_ba4f3_84 hf (fun σ10 hf => ?_)
        refine kx_iload_n K dJ6_getChars_ba4f3_85 rfl 1 rfl ?_
        refine kx_bipush (v := -9) K dJ6_getChars_ba4f3_86 (by decide) ?_
        refine kx_icmp_ge K 104 hf dJ6_getChars_ba4f3_88 (by decide) (fun hf => ?_) (fun hf => ?_)
        · refine kx_sub [(2, .ref a2), (5, .int (v6 + (-1))), (6, .int v7)] [2, 0, 3] rfl ?_
          exact B104 _ _ _ hf
        · refine kx_aload_n K dJ6_getChars_ba4f3_91 rfl 2 rfl ?_
          refine kx_iinc (v := ((v6 + (-1)) + (-1))) K [(5, .int ((v6 + (-1)) + (-1))), (0, .int v5), (2, .ref a2), (6, .int v7)] dJ6_getChars_ba4f3_92 0 rfl rfl (by decide) rfl ?_
          refine kx_iload K dJ6_getChars_ba4f3_95 0 rfl ?_
          refine kx_gsD K 1 (by decide) w_314 dJ6_getChars_ba4f3_97 ?_
          refine kx_iload_n K dJ6_getChars_ba4f3_100 rfl 1 rfl ?_
          refine kx_ineg K dJ6_getChars_ba4f3_101 ?_
          refine kx_td K 1 (by decide) dJ6_getChars_ba4f3_102 hf (fun x11 hf => ?_)
          refine kx_ub K dJ6_getChars_ba4f3_103 hf (fun σ12 hf => ?_)
          refine kx_sub [(2, .ref a2), (5, .int ((v6 + (-1)) + (-1))), (6, .int v7)] [2, 0, 3] rfl ?_
          exact B104 _ _ _ hf
      · refine kx_iload_n K dJ6_getChars_ba4f3_28 rfl 0 rfl ?_
        refine kx_bipush (v := 100) K dJ6_getChars_ba4f3_29 (by decide) ?_
        refine kx_idiv K dJ6_getChars_ba4f3_31 hf (fun x13 hf => ?_)
        refine kx_istore_n K [(3, .int x13), (0, .int v5), (2, .ref a2), (5, .int v6), (6, .int v7)] dJ6_getChars_ba4f3_32 rfl (by decide) rfl ?_
        refine kx_iload_n K dJ6_getChars_ba4f3_33 rfl 0 rfl ?_
        refine kx_bipush (v := 100) K dJ6_getChars_ba4f3_34 (by decide) ?_
        refine kx_imul K dJ6_getChars_ba4f3_36 ?_
        refine kx_iload_n K dJ6_getChars_ba4f3_37 rfl 1 rfl ?_
        refine kx_isub K dJ6_getChars_ba4f3_38 ?_
        refine kx_istore K [(4, .int ((x13 * (100 : Int32)) - v5)), (3, .int x13), (0, .int v5), (2, .ref a2), (5, .int v6), (6, .int v7)] dJ6_getChars_ba4f3_39 (by decide) rfl ?_
        refine kx_iload_n K dJ6_getChars_ba4f3_41 rfl 1 rfl ?_
        refine kx_istore_n K [(0, .int x13), (4, .int ((x13 * (100 : Int32)) - v5)), (3, .int x13), (2, .ref a2), (5, .int v6), (6, .int v7)] dJ6_getChars_ba4f3_42 rfl (by decide) rfl ?_
        refine kx_aload_n K dJ6_getChars_ba4f3_43 rfl 3 rfl ?_
        refine kx_iinc (v := (v6 + (-1))) K [(5, .int (v6 + (-1))), (0, .int x13), (4, .int ((x13 * (100 : Int32)) - v5)), (3, .int x13), (2, .ref a2), (6, .int v7)] dJ6_getChars_ba4f3_44 4 rfl rfl (by decide) rfl ?_
        refine kx_iload K dJ6_getChars_ba4f3_47 0 rfl ?_
        refine kx_gsD K 0 (by decide) w_313 dJ6_getChars_ba4f3_49 ?_
        refine kx_iload K dJ6_getChars_ba4f3_52 2 rfl ?_
        refine kx_td K 0 (by decide) dJ6_getChars_ba4f3_54 hf (fun x14 hf => ?_)
        refine kx_ub K dJ6_getChars_ba4f3_55 hf (fun σ15 hf => ?_)
        refine kx_aload_n K dJ6_getChars_ba4f3_56 rfl 4 rfl ?_
        refine kx_iinc (v := ((v6 + (-1)) + (-1))) K [(5, .int ((v6 + (-1)) + (-1))), (0, .int x13), (4, .int ((x13 * (100 : Int32)) - v5)), (3, .int x13), (2, .ref a2), (6, .int v7)] dJ6_getChars_ba4f3_57 0 rfl rfl (by decide) rfl ?_
        refine kx_iload K dJ6_getChars_ba4f3_60 0 rfl ?_
        refine kx_gsD K 1 (by decide) w_314 dJ6_getChars_ba4f3_62 ?_
        refine kx_iload K dJ6_getChars_ba4f3_65 2 rfl ?_
        refine kx_td K 1 (by decide) dJ6_getChars_ba4f3_67 hf (fun x16 hf => ?_)
        refine kx_ub K dJ6_getChars_ba4f3_68 hf (fun σ17 hf => ?_)
        refine kx_goto K 22 dJ6_getChars_ba4f3_69 (by decide) ?_
        refine kx_sub [(0, .int x13), (2, .ref a2), (5, .int ((v6 + (-1)) + (-1))), (6, .int v7)] [1, 4, 0, 5] rfl ?_
        exact ih22 _ _ _ _ hf
  have B12 : ∀ (σ4 : ac_H) (v1 : Int32) (v2 : Int32) (w3 : Int32), m_J6_getChars_ba4f3_j12 a2 σ4 v1 v2 w3 = some (v, σ') → kx_S Λ Γ 7 (fun z => z = q) σ4 (0) (0) 12 [(0, .int v1), (2, .ref a2), (5, .int v2)] [.int w3] := by
    intro σ4 v1 v2 w3 hf
    unfold m_J6_getChars_ba4f3_j12 at hf
    refine kx_istore K [(6, .int w3), (0, .int v1), (2, .ref a2), (5, .int v2)] dJ6_getChars_ba4f3_12 (by decide) rfl ?_
    refine kx_iload K dJ6_getChars_ba4f3_14 0 rfl ?_
    refine kx_if_ne K 22 hf dJ6_getChars_ba4f3_16 (by decide) (fun hf => ?_) (fun hf => ?_)
    · refine kx_sub [(0, .int v1), (2, .ref a2), (5, .int v2), (6, .int w3)] [1, 2, 3, 0] rfl ?_
      exact B22 hN_f _ _ _ _ hf
    · refine kx_iload_n K dJ6_getChars_ba4f3_19 rfl 1 rfl ?_
      refine kx_ineg K dJ6_getChars_ba4f3_20 ?_
      refine kx_istore_n K [(0, .int (-v1)), (6, .int w3), (2, .ref a2), (5, .int v2)] dJ6_getChars_ba4f3_21 rfl (by decide) rfl ?_
      refine kx_sub [(0, .int (-v1)), (2, .ref a2), (5, .int v2), (6, .int w3)] [0, 2, 3, 1] rfl ?_
      exact B22 hN_f _ _ _ _ hf
  unfold m_J6_getChars_ba4f3 at hf
  refine kx_iload_n K dJ6_getChars_ba4f3_0 rfl 1 rfl ?_
  refine kx_istore K [(5, .int a1), (0, .int a0), (1, .int a1), (2, .ref a2)] dJ6_getChars_ba4f3_1 (by decide) rfl ?_
  refine kx_iload_n K dJ6_getChars_ba4f3_3 rfl 1 rfl ?_
  refine kx_if_ge K 11 hf dJ6_getChars_ba4f3_4 (by decide) (fun hf => ?_) (fun hf => ?_)
  · refine kx_iconst (v := 0) K dJ6_getChars_ba4f3_11 (by decide) ?_
    refine kx_sub [(0, .int a0), (2, .ref a2), (5, .int a1)] [1, 3, 0] rfl ?_
    exact B12 _ _ _ _ hf
  · refine kx_iconst (v := 1) K dJ6_getChars_ba4f3_7 (by decide) ?_
    refine kx_goto K 12 dJ6_getChars_ba4f3_8 (by decide) ?_
    refine kx_sub [(0, .int a0), (2, .ref a2), (5, .int a1)] [1, 3, 0] rfl ?_
    exact B12 _ _ _ _ hf
def m_J5_append_c97b9 (σ : ac_H) (a0 : Nat) (a1 : Int32) (q : Nat) : Option ((Nat × Nat) × ac_H) :=
  mo_gi σ a0 10 3 fun x1 =>
  mo_cs (m_J6_stringSize_0f7a4 σ a1) fun x3 σ2 =>
  mo_cv σ2 a0 10 (m_J5_ensureCapacityInternal_d00df σ2 a0 (x1 + x3) q) fun z5 σ4 =>
  mo_cv σ4 a0 10 (m_J5_isLatin1_aae02 σ4 a0) fun x7 σ6 =>
  if x7 = 0 then
  (mo_gr σ6 a0 10 0 fun x8 =>
  none)
  else
  (mo_gr σ6 a0 10 0 fun x9 =>
  mo_cs (m_J6_getChars_ba4f3 σ6 a1 (x1 + x3) x9) fun x11 σ10 =>
  mo_pv σ10 a0 10 3 (.int (x1 + x3)) fun σ12 =>
  some ((a0, z5), σ12))
set_option maxRecDepth 100000 in
set_option maxHeartbeats 4000000 in
theorem k_J5_append_c97b9 {Λ : ex_L} {q : Nat} {σ σ' : ac_H} {a0 : Nat} {a1 : Int32} {v : (Nat × Nat)} (hf : m_J5_append_c97b9 σ a0 a1 q = some (v, σ')) : kx_C Λ yJ5_append_c97b9 (.code yJ5_append_c97b9 cJ5_append_c97b9 4 (some (.object "java/lang/AbstractStringBuilder"))) ({ frames := 4, cells := 1, slots := 300, locals := 91 } : Room) [.ref a0, .int a1] q σ (.inr (some (.ref v.1))) σ' (fun z => z = v.2) := by
  refine kx_in (by decide +kernel) (Nat.le_of_ble_eq_true rfl) ?_
  intro Γ K hnm hsz hQ
  refine kx_lv (lv' := [(0, .ref a0), (1, .int a1)]) rfl ?_
  unfold m_J5_append_c97b9 at hf
  refine kx_aload_n K dJ5_append_c97b9_0 rfl 0 rfl ?_
  refine kx_gi K f_J5_79 dJ5_append_c97b9_1 hf (fun x1 hf => ?_)
  refine kx_istore_n K [(2, .int x1), (0, .ref a0), (1, .int a1)] dJ5_append_c97b9_4 rfl (by decide) rfl ?_
  refine kx_iload_n K dJ5_append_c97b9_5 rfl 0 rfl ?_
  refine kx_iload_n K dJ5_append_c97b9_6 rfl 2 rfl ?_
  refine kx_cs1i K c_J5_245 ⟨by decide, by decide, rfl, rfl, (by decide), (by decide)⟩ (Nat.le_of_ble_eq_true rfl) dJ5_append_c97b9_7 hf (fun _ _ _ h => k_J6_stringSize_0f7a4 h) (fun x3 σ2 hf => ?_)
  refine kx_iadd K dJ5_append_c97b9_10 ?_
  refine kx_istore_n K [(3, .int (x1 + x3)), (2, .int x1), (0, .ref a0), (1, .int a1)] dJ5_append_c97b9_11 rfl (by decide) rfl ?_
  refine kx_aload_n K dJ5_append_c97b9_12 rfl 2 rfl ?_
  refine kx_iload_n K dJ5_append_c97b9_13 rfl 0 rfl ?_
  refine kx_au (rmy := { frames := 3, cells := 1, slots := 300, locals := 69 }) (k' := 1) (n' := 300) (ρ := Nat) K [.int (x1 + x3)] (fun _ => none) (fun x => x) c_J5_100 ⟨by decide, by decide, by show 0 + 1 = 1; omega, by show 0 + 300 = 300; omega, (by decide), (by decide)⟩ rfl rfl (Nat.le_of_ble_eq_true rfl) dJ5_append_c97b9_14 hf (fun _ _ h => k_J5_ensureCapacityInternal_d00df h) (fun z5 σ4 hf => ?_)
  refine kx_aload_n K dJ5_append_c97b9_17 rfl 2 rfl ?_
  refine kx_cu (ρ := Int32) K [] (fun x => some (.int x)) c_J5_83 ⟨by decide, by decide, rfl, rfl, (by decide), (by decide)⟩ rfl rfl (Nat.le_of_ble_eq_true rfl) dJ5_append_c97b9_18 hf (fun _ _ _ h => k_J5_isLatin1_aae02 h) (fun x7 σ6 hf => ?_)
  refine kx_if_eq K 37 hf dJ5_append_c97b9_21 (by decide) (fun hf => ?_) (fun hf => ?_)
  · refine kx_iload_n K dJ5_append_c97b9_37 rfl 3 rfl ?_
    refine kx_iload_n K dJ5_append_c97b9_38 rfl 1 rfl ?_
    refine kx_iload_n K dJ5_append_c97b9_39 rfl 0 rfl ?_
    refine kx_aload_n K dJ5_append_c97b9_40 rfl 2 rfl ?_
    refine kx_gr K f_J5_15 dJ5_append_c97b9_41 hf (fun x8 hf => ?_)
    cases hf
  · refine kx_iload_n K dJ5_append_c97b9_24 rfl 3 rfl ?_
    refine kx_iload_n K dJ5_append_c97b9_25 rfl 0 rfl ?_
    refine kx_aload_n K dJ5_append_c97b9_26 rfl 2 rfl ?_
    refine kx_gr K f_J5_15 dJ5_append_c97b9_27 hf (fun x9 hf => ?_)
    refine kx_cs3i K c_J5_248 ⟨by decide, by decide, rfl, rfl, (by decide), (by decide)⟩ (Nat.le_of_ble_eq_true rfl) dJ5_append_c97b9_30 hf (fun _ _ _ h => k_J6_getChars_ba4f3 h) (fun x11 σ10 hf => ?_)
    refine kx_pop K dJ5_append_c97b9_33 rfl ?_
    refine kx_goto K 48 dJ5_append_c97b9_34 (by decide) ?_
    refine kx_aload_n K dJ5_append_c97b9_48 rfl 2 rfl ?_
    refine kx_iload_n K dJ5_append_c97b9_49 rfl 0 rfl ?_
    refine kx_pi K f_J5_79 dJ5_append_c97b9_50 hf (fun σ12 hf => ?_)
    refine kx_aload_n K dJ5_append_c97b9_53 rfl 2 rfl ?_
    exact kx_aretZ K hQ (by decide) (by decide) dJ5_append_c97b9_54 hf
def m_J4_append_bf812 (σ : ac_H) (a0 : Nat) (a1 : Int32) (q : Nat) : Option ((Nat × Nat) × ac_H) :=
  mo_cv σ a0 10 (m_J5_append_c97b9 σ a0 a1 q) fun x2 σ1 =>
  some ((a0, x2.2), σ1)
set_option maxRecDepth 100000 in
set_option maxHeartbeats 4000000 in
theorem k_J4_append_bf812 {Λ : ex_L} {q : Nat} {σ σ' : ac_H} {a0 : Nat} {a1 : Int32} {v : (Nat × Nat)} (hf : m_J4_append_bf812 σ a0 a1 q = some (v, σ')) : kx_C Λ yJ4_append_bf812 (.code yJ4_append_bf812 cJ4_append_bf812 2 (some (.object "java/lang/StringBuilder"))) ({ frames := 5, cells := 1, slots := 300, locals := 114 } : Room) [.ref a0, .int a1] q σ (.inr (some (.ref v.1))) σ' (fun z => z = v.2) := by
  refine kx_in (by decide +kernel) (Nat.le_of_ble_eq_true rfl) ?_
  intro Γ K hnm hsz hQ
  refine kx_lv (lv' := [(0, .ref a0), (1, .int a1)]) rfl ?_
  unfold m_J4_append_bf812 at hf
  refine kx_aload_n K dJ4_append_bf812_0 rfl 0 rfl ?_
  refine kx_iload_n K dJ4_append_bf812_1 rfl 1 rfl ?_
  refine kx_ag (rmy := { frames := 4, cells := 1, slots := 300, locals := 91 }) (k' := 1) (n' := 300) (ρ := Nat × Nat) K [.int a1] (fun x => some (.ref x.1)) (fun x => x.2) c_J4_53 ⟨by decide, by decide, by show 0 + 1 = 1; omega, by show 0 + 300 = 300; omega, (by decide), (by decide)⟩ rfl rfl (Nat.le_of_ble_eq_true rfl) dJ4_append_bf812_2 hf (fun _ _ h => k_J5_append_c97b9 h) (fun x2 σ1 hf => ?_)
  refine kx_pop K dJ4_append_bf812_5 rfl ?_
  refine kx_aload_n K dJ4_append_bf812_6 rfl 0 rfl ?_
  exact kx_aretZ K hQ (by decide) (by decide) dJ4_append_bf812_7 hf
def m_J5_init_d00df (σ : ac_H) (a0 : Nat) (a1 : Int32) (q : Nat) : Option (Nat × ac_H) :=
  if (1 : Int32) = 0 then
  (none)
  else
  (mo_nw a1 300 fun m1 =>
  mo_pv (ac_up σ q (.inl (1, kx_ar 1 m1))) a0 10 0 (.ref q) fun σ2 =>
  mo_pv σ2 a0 10 1 (.int (0 : Int32)) fun σ3 =>
  some ((q + 1), σ3))
set_option maxRecDepth 100000 in
set_option maxHeartbeats 4000000 in
theorem k_J5_init_d00df {Λ : ex_L} {q : Nat} {σ σ' : ac_H} {a0 : Nat} {a1 : Int32} {v : Nat} (hf : m_J5_init_d00df σ a0 a1 q = some (v, σ')) : kx_C Λ yJ5_init_d00df (.code yJ5_init_d00df cJ5_init_d00df 2 none) ({ frames := 1, cells := 1, slots := 300, locals := 20 } : Room) [.ref a0, .int a1] q σ (.inr none) σ' (fun z => z = v) := by
  refine kx_in (by decide +kernel) (Nat.le_of_ble_eq_true rfl) ?_
  intro Γ K hnm hsz hQ
  refine kx_lv (lv' := [(0, .ref a0), (1, .int a1)]) rfl ?_
  unfold m_J5_init_d00df at hf
  refine kx_aload_n K dJ5_init_d00df_0 rfl 0 rfl ?_
  refine kx_oinit K w_116 w_8 w_9 (by decide) (by decide) dJ5_init_d00df_1 ?_
  refine kx_scmpG K w_117 dJ5_init_d00df_4 ?_
  refine kx_if_eq K 25 hf dJ5_init_d00df_7 (by decide) (fun hf => ?_) (fun hf => ?_)
  · refine kx_aload_n K dJ5_init_d00df_25 rfl 0 rfl ?_
    refine kx_iload_n K dJ5_init_d00df_26 rfl 1 rfl ?_
    cases hf
  · refine kx_aload_n K dJ5_init_d00df_10 rfl 0 rfl ?_
    refine kx_iload_n K dJ5_init_d00df_11 rfl 1 rfl ?_
    refine kx_newd (kd := 1) (at9 := .byte) K 300 (by decide) rfl w_118 (by decide) (by decide) (by decide) dJ5_init_d00df_12 hf (fun m1 hm1 hf => ?_)
    refine kx_pa K f_J5_15 dJ5_init_d00df_14 hf (fun σ2 hf => ?_)
    refine kx_aload_n K dJ5_init_d00df_17 rfl 0 rfl ?_
    refine kx_iconst (v := 0) K dJ5_init_d00df_18 (by decide) ?_
    refine kx_pb K f_J5_22 dJ5_init_d00df_19 (by decide) (by decide) hf (fun σ3 hf => ?_)
    refine kx_goto K 38 dJ5_init_d00df_22 (by decide) ?_
    exact kx_vretZ K hQ (by decide) (by decide) dJ5_init_d00df_38 hf
def m_J4_init_da8c8 (σ : ac_H) (a0 : Nat) (q : Nat) : Option (Nat × ac_H) :=
  mo_cs (m_J5_init_d00df σ a0 (16 : Int32) q) fun z2 σ1 =>
  some (z2, σ1)
set_option maxRecDepth 100000 in
set_option maxHeartbeats 4000000 in
theorem k_J4_init_da8c8 {Λ : ex_L} {q : Nat} {σ σ' : ac_H} {a0 : Nat} {v : Nat} (hf : m_J4_init_da8c8 σ a0 q = some (v, σ')) : kx_C Λ yJ4_init_da8c8 (.code yJ4_init_da8c8 cJ4_init_da8c8 1 none) ({ frames := 2, cells := 1, slots := 300, locals := 41 } : Room) [.ref a0] q σ (.inr none) σ' (fun z => z = v) := by
  refine kx_in (by decide +kernel) (Nat.le_of_ble_eq_true rfl) ?_
  intro Γ K hnm hsz hQ
  refine kx_lv (lv' := [(0, .ref a0)]) rfl ?_
  unfold m_J4_init_da8c8 at hf
  refine kx_aload_n K dJ4_init_da8c8_0 rfl 0 rfl ?_
  refine kx_bipush (v := 16) K dJ4_init_da8c8_1 (by decide) ?_
  refine kx_ci (rmy := { frames := 1, cells := 1, slots := 300, locals := 20 }) (k' := 1) (n' := 300) (As := [.int (16 : Int32)]) K c_J4_1 ⟨by decide, by decide, by show 0 + 1 = 1; omega, by show 0 + 300 = 300; omega, (by decide), (by decide)⟩ rfl rfl (Nat.le_of_ble_eq_true rfl) dJ4_init_da8c8_3 hf (fun _ _ h => k_J5_init_d00df h) (fun z2 σ1 hf => ?_)
  exact kx_vretZ K hQ (by decide) (by decide) dJ4_init_da8c8_6 hf
def m_J5_getValue_6d5f1 (σ : ac_H) (a0 : Nat) : Option (Nat × ac_H) :=
  mo_gr σ a0 10 0 fun x1 =>
  some (x1, σ)
set_option maxRecDepth 100000 in
set_option maxHeartbeats 4000000 in
theorem k_J5_getValue_6d5f1 {Λ : ex_L} {q : Nat} {σ σ' : ac_H} {a0 : Nat} {v : Nat} (hf : m_J5_getValue_6d5f1 σ a0 = some (v, σ')) : kx_C Λ yJ5_getValue_6d5f1 (.code yJ5_getValue_6d5f1 cJ5_getValue_6d5f1 1 (some (.array .byte))) ({ frames := 0, cells := 0, slots := 0, locals := 0 } : Room) [.ref a0] q σ (.inr (some (.ref v))) σ' (fun z => z = q) := by
  refine kx_in (by decide +kernel) (Nat.le_of_ble_eq_true rfl) ?_
  intro Γ K hnm hsz hQ
  refine kx_lv (lv' := [(0, .ref a0)]) rfl ?_
  unfold m_J5_getValue_6d5f1 at hf
  refine kx_aload_n K dJ5_getValue_6d5f1_0 rfl 0 rfl ?_
  refine kx_gr K f_J5_15 dJ5_getValue_6d5f1_1 hf (fun x1 hf => ?_)
  cases hf
  exact kx_aretA K hQ (by decide) (by decide) (fun _ h => h) dJ5_getValue_6d5f1_4
def m_J5_length_8abf5 (σ : ac_H) (a0 : Nat) : Option (Int32 × ac_H) :=
  mo_gi σ a0 10 3 fun x1 =>
  some (x1, σ)
set_option maxRecDepth 100000 in
set_option maxHeartbeats 4000000 in
theorem k_J5_length_8abf5 {Λ : ex_L} {q : Nat} {σ σ' : ac_H} {a0 : Nat} {v : Int32} (hf : m_J5_length_8abf5 σ a0 = some (v, σ')) : kx_C Λ yJ5_length_8abf5 (.code yJ5_length_8abf5 cJ5_length_8abf5 1 (some .int)) ({ frames := 0, cells := 0, slots := 0, locals := 0 } : Room) [.ref a0] q σ (.inr (some (.int v))) σ' (fun z => z = q) := by
  refine kx_in (by decide +kernel) (Nat.le_of_ble_eq_true rfl) ?_
  intro Γ K hnm hsz hQ
  refine kx_lv (lv' := [(0, .ref a0)]) rfl ?_
  unfold m_J5_length_8abf5 at hf
  refine kx_aload_n K dJ5_length_8abf5_0 rfl 0 rfl ?_
  refine kx_gi K f_J5_79 dJ5_length_8abf5_1 hf (fun x1 hf => ?_)
  exact kx_iret K hQ (by decide) (by decide) (fun _ h => h) dJ5_length_8abf5_4 hf
def m_J4_length_8abf5 (σ : ac_H) (a0 : Nat) : Option (Int32 × ac_H) :=
  mo_cv σ a0 10 (m_J5_length_8abf5 σ a0) fun x2 σ1 =>
  some (x2, σ1)
set_option maxRecDepth 100000 in
set_option maxHeartbeats 4000000 in
theorem k_J4_length_8abf5 {Λ : ex_L} {q : Nat} {σ σ' : ac_H} {a0 : Nat} {v : Int32} (hf : m_J4_length_8abf5 σ a0 = some (v, σ')) : kx_C Λ yJ4_length_8abf5 (.code yJ4_length_8abf5 cJ4_length_8abf5 1 (some .int)) ({ frames := 1, cells := 0, slots := 0, locals := 20 } : Room) [.ref a0] q σ (.inr (some (.int v))) σ' (fun z => z = q) := by
  refine kx_in (by decide +kernel) (Nat.le_of_ble_eq_true rfl) ?_
  intro Γ K hnm hsz hQ
  refine kx_lv (lv' := [(0, .ref a0)]) rfl ?_
  unfold m_J4_length_8abf5 at hf
  refine kx_aload_n K dJ4_length_8abf5_0 rfl 0 rfl ?_
  refine kx_cg (ρ := Int32) K [] (fun x => some (.int x)) c_J4_343 ⟨by decide, by decide, rfl, rfl, (by decide), (by decide)⟩ rfl rfl (Nat.le_of_ble_eq_true rfl) dJ4_length_8abf5_1 hf (fun _ _ _ h => k_J5_length_8abf5 h) (fun x2 σ1 hf => ?_)
  exact kx_iret K hQ (by decide) (by decide) (fun _ h => h) dJ4_length_8abf5_4 hf
def m_J7_checkLength_df160 (σ : ac_H) (a0 : Int32) (a1 : Int32) : Option (Unit × ac_H) :=
  if a1 < a0 then
  (none)
  else
  (some ((), σ))
set_option maxRecDepth 100000 in
set_option maxHeartbeats 4000000 in
theorem k_J7_checkLength_df160 {Λ : ex_L} {q : Nat} {σ σ' : ac_H} {a0 : Int32} {a1 : Int32} {v : Unit} (hf : m_J7_checkLength_df160 σ a0 a1 = some (v, σ')) : kx_C Λ yJ7_checkLength_df160 (.code yJ7_checkLength_df160 cJ7_checkLength_df160 2 none) ({ frames := 0, cells := 0, slots := 0, locals := 0 } : Room) [.int a0, .int a1] q σ (.inr none) σ' (fun z => z = q) := by
  refine kx_in (by decide +kernel) (Nat.le_of_ble_eq_true rfl) ?_
  intro Γ K hnm hsz hQ
  refine kx_lv (lv' := [(0, .int a0), (1, .int a1)]) rfl ?_
  unfold m_J7_checkLength_df160 at hf
  refine kx_iload_n K dJ7_checkLength_df160_0 rfl 1 rfl ?_
  refine kx_iload_n K dJ7_checkLength_df160_1 rfl 0 rfl ?_
  refine kx_icmp_ge K 37 hf dJ7_checkLength_df160_2 (by decide) (fun hf => ?_) (fun hf => ?_)
  · exact kx_vret K hQ (by decide) (by decide) (fun _ h => h) dJ7_checkLength_df160_37 hf
  · cases hf
def m_J7_copyOfRangeByte_39247 (σ : ac_H) (a0 : Nat) (a1 : Int32) (a2 : Int32) (q : Nat) : Option ((Nat × Nat) × ac_H) :=
  mo_cs (m_J7_checkLength_df160 σ a1 a2) fun _ σ1 =>
  mo_nw (a2 - a1) 300 fun m2 =>
  mo_ln (ac_up σ1 q (.inl (1, kx_ar 1 m2))) a0 fun x3 =>
  mo_cp (ac_up σ1 q (.inl (1, kx_ar 1 m2))) a0 q 1 a1 (0 : Int32) (if (a2 - a1) < (x3 - a1) then (a2 - a1) else (x3 - a1)) fun σ4 =>
  some ((q, (q + 1)), σ4)
set_option maxRecDepth 100000 in
set_option maxHeartbeats 4000000 in
theorem k_J7_copyOfRangeByte_39247 {Λ : ex_L} {q : Nat} {σ σ' : ac_H} {a0 : Nat} {a1 : Int32} {a2 : Int32} {v : (Nat × Nat)} (hf : m_J7_copyOfRangeByte_39247 σ a0 a1 a2 q = some (v, σ')) : kx_C Λ yJ7_copyOfRangeByte_39247 (.code yJ7_copyOfRangeByte_39247 cJ7_copyOfRangeByte_39247 5 (some (.array .byte))) ({ frames := 1, cells := 1, slots := 300, locals := 40 } : Room) [.ref a0, .int a1, .int a2] q σ (.inr (some (.ref v.1))) σ' (fun z => z = v.2) := by
  refine kx_in (by decide +kernel) (Nat.le_of_ble_eq_true rfl) ?_
  intro Γ K hnm hsz hQ
  refine kx_lv (lv' := [(0, .ref a0), (1, .int a1), (2, .int a2)]) rfl ?_
  unfold m_J7_copyOfRangeByte_39247 at hf
  refine kx_iload_n K dJ7_copyOfRangeByte_39247_0 rfl 1 rfl ?_
  refine kx_iload_n K dJ7_copyOfRangeByte_39247_1 rfl 2 rfl ?_
  refine kx_cs2v K c_J7_343 ⟨by decide, by decide, rfl, rfl, (by decide), (by decide)⟩ (Nat.le_of_ble_eq_true rfl) dJ7_copyOfRangeByte_39247_2 hf (fun _ _ _ h => k_J7_checkLength_df160 h) (fun _ σ1 hf => ?_)
  refine kx_iload_n K dJ7_copyOfRangeByte_39247_5 rfl 2 rfl ?_
  refine kx_iload_n K dJ7_copyOfRangeByte_39247_6 rfl 1 rfl ?_
  refine kx_isub K dJ7_copyOfRangeByte_39247_7 ?_
  refine kx_istore_n K [(3, .int (a2 - a1)), (0, .ref a0), (1, .int a1), (2, .int a2)] dJ7_copyOfRangeByte_39247_8 rfl (by decide) rfl ?_
  refine kx_iload_n K dJ7_copyOfRangeByte_39247_9 rfl 0 rfl ?_
  refine kx_newd (kd := 1) (at9 := .byte) K 300 (by decide) rfl w_118 (by decide) (by decide) (by decide) dJ7_copyOfRangeByte_39247_10 hf (fun m2 hm2 hf => ?_)
  refine kx_astore K [(4, .ref q), (3, .int (a2 - a1)), (0, .ref a0), (1, .int a1), (2, .int a2)] dJ7_copyOfRangeByte_39247_12 (by decide) rfl ?_
  refine kx_aload_n K dJ7_copyOfRangeByte_39247_14 rfl 2 rfl ?_
  refine kx_iload_n K dJ7_copyOfRangeByte_39247_15 rfl 3 rfl ?_
  refine kx_aload K dJ7_copyOfRangeByte_39247_16 0 rfl ?_
  refine kx_iconst (v := 0) K dJ7_copyOfRangeByte_39247_18 (by decide) ?_
  refine kx_aload_n K dJ7_copyOfRangeByte_39247_19 rfl 2 rfl ?_
  refine kx_ln K dJ7_copyOfRangeByte_39247_20 hf (fun x3 hf => ?_)
  refine kx_iload_n K dJ7_copyOfRangeByte_39247_21 rfl 3 rfl ?_
  refine kx_isub K dJ7_copyOfRangeByte_39247_22 ?_
  refine kx_iload_n K dJ7_copyOfRangeByte_39247_23 rfl 1 rfl ?_
  refine kx_mmin K w_196 w_197 w_180 w_198 (by decide) (Nat.le_of_ble_eq_true rfl) (by decide) (by decide) dJ7_copyOfRangeByte_39247_24 ?_
  refine kx_acp (kd := 1) K w_199 w_136 w_137 w_138 (by decide) (Nat.le_of_ble_eq_true rfl) (by decide) dJ7_copyOfRangeByte_39247_27 hf (fun σ4 hf => ?_)
  refine kx_aload K dJ7_copyOfRangeByte_39247_30 0 rfl ?_
  exact kx_aretB K hQ (by decide) (by decide) dJ7_copyOfRangeByte_39247_32 hf
def m_J7_copyOfRange_39247 (σ : ac_H) (a0 : Nat) (a1 : Int32) (a2 : Int32) (q : Nat) : Option ((Nat × Nat) × ac_H) :=
  if a1 = 0 then
  (mo_ln σ a0 fun x4 =>
  if a2 = x4 then
  (mo_cl σ a0 q 300 fun σ5 =>
  mo_ct σ5 q <|
  some ((q, (q + 1)), σ5))
  else
  (mo_cs (m_J7_copyOfRangeByte_39247 σ a0 a1 a2 q) fun x7 σ6 =>
  some ((x7.1, x7.2), σ6)))
  else
  (mo_cs (m_J7_copyOfRangeByte_39247 σ a0 a1 a2 q) fun x2 σ1 =>
  some ((x2.1, x2.2), σ1))
set_option maxRecDepth 100000 in
set_option maxHeartbeats 4000000 in
theorem k_J7_copyOfRange_39247 {Λ : ex_L} {q : Nat} {σ σ' : ac_H} {a0 : Nat} {a1 : Int32} {a2 : Int32} {v : (Nat × Nat)} (hf : m_J7_copyOfRange_39247 σ a0 a1 a2 q = some (v, σ')) : kx_C Λ yJ7_copyOfRange_39247 (.code yJ7_copyOfRange_39247 cJ7_copyOfRange_39247 3 (some (.array .byte))) ({ frames := 2, cells := 1, slots := 300, locals := 64 } : Room) [.ref a0, .int a1, .int a2] q σ (.inr (some (.ref v.1))) σ' (fun z => z = v.2) := by
  refine kx_in (by decide +kernel) (Nat.le_of_ble_eq_true rfl) ?_
  intro Γ K hnm hsz hQ
  refine kx_lv (lv' := [(0, .ref a0), (1, .int a1), (2, .int a2)]) rfl ?_
  unfold m_J7_copyOfRange_39247 at hf
  refine kx_iload_n K dJ7_copyOfRange_39247_0 rfl 1 rfl ?_
  refine kx_if_ne K 10 hf dJ7_copyOfRange_39247_1 (by decide) (fun hf => ?_) (fun hf => ?_)
  · refine kx_aload_n K dJ7_copyOfRange_39247_10 rfl 0 rfl ?_
    refine kx_iload_n K dJ7_copyOfRange_39247_11 rfl 1 rfl ?_
    refine kx_iload_n K dJ7_copyOfRange_39247_12 rfl 2 rfl ?_
    refine kx_as (rmy := { frames := 1, cells := 1, slots := 300, locals := 40 }) (k' := 1) (n' := 300) (ρ := Nat × Nat) K [.ref a0, .int a1, .int a2] (fun x => some (.ref x.1)) (fun x => x.2) c_J7_339 ⟨by decide, by decide, by show 0 + 1 = 1; omega, by show 0 + 300 = 300; omega, (by decide), (by decide)⟩ rfl rfl (Nat.le_of_ble_eq_true rfl) dJ7_copyOfRange_39247_13 hf (fun _ _ h => k_J7_copyOfRangeByte_39247 h) (fun x2 σ1 hf => ?_)
    exact kx_aretB K hQ (by decide) (by decide) dJ7_copyOfRange_39247_16 hf
  · refine kx_iload_n K dJ7_copyOfRange_39247_4 rfl 2 rfl ?_
    refine kx_aload_n K dJ7_copyOfRange_39247_5 rfl 0 rfl ?_
    refine kx_ln K dJ7_copyOfRange_39247_6 hf (fun x4 hf => ?_)
    refine kx_icmp_eq K 17 hf dJ7_copyOfRange_39247_7 (by decide) (fun hf => ?_) (fun hf => ?_)
    · refine kx_aload_n K dJ7_copyOfRange_39247_17 rfl 0 rfl ?_
      refine kx_cln K w_190 w_191 w_192 w_193 w_194 (by decide) (Nat.le_of_ble_eq_true rfl) (by decide) (by decide) dJ7_copyOfRange_39247_18 hf (fun σ5 hf => ?_)
      refine kx_castM K w_195 dJ7_copyOfRange_39247_21 hf (fun hf => ?_)
      exact kx_aretB K hQ (by decide) (by decide) dJ7_copyOfRange_39247_24 hf
    · refine kx_aload_n K dJ7_copyOfRange_39247_10 rfl 0 rfl ?_
      refine kx_iload_n K dJ7_copyOfRange_39247_11 rfl 1 rfl ?_
      refine kx_iload_n K dJ7_copyOfRange_39247_12 rfl 2 rfl ?_
      refine kx_as (rmy := { frames := 1, cells := 1, slots := 300, locals := 40 }) (k' := 1) (n' := 300) (ρ := Nat × Nat) K [.ref a0, .int a1, .int a2] (fun x => some (.ref x.1)) (fun x => x.2) c_J7_339 ⟨by decide, by decide, by show 0 + 1 = 1; omega, by show 0 + 300 = 300; omega, (by decide), (by decide)⟩ rfl rfl (Nat.le_of_ble_eq_true rfl) dJ7_copyOfRange_39247_13 hf (fun _ _ h => k_J7_copyOfRangeByte_39247 h) (fun x7 σ6 hf => ?_)
      exact kx_aretB K hQ (by decide) (by decide) dJ7_copyOfRange_39247_16 hf
def m_J0_init_db425_j79  (a0 : Nat) (σ16 : ac_H) (z13 : Nat) (v14 : Nat) (v15 : Int32) : Option (Nat × ac_H) :=
  mo_pv σ16 a0 9 1 (.int (1 : Int32)) fun σ17 =>
  mo_cs (m_J7_copyOfRange_39247 σ17 v14 (0 : Int32) (v15 <<< ((1 : Int32) &&& 31)) z13) fun x19 σ18 =>
  mo_pv σ18 a0 9 0 (.ref x19.1) fun σ21 =>
  some (x19.2, σ21)
def m_J0_init_db425 (σ : ac_H) (a0 : Nat) (a1 : Nat) (q : Nat) : Option (Nat × ac_H) :=
  mo_cv σ a1 10 (m_J5_getValue_6d5f1 σ a1) fun x2 σ1 =>
  mo_cv σ1 a1 10 (m_J4_length_8abf5 σ1 a1) fun x4 σ3 =>
  mo_cv σ3 a1 10 (m_J5_isLatin1_aae02 σ3 a1) fun x6 σ5 =>
  if x6 = 0 then
  (if (1 : Int32) = 0 then
  (m_J0_init_db425_j79 a0 σ5 q x2 x4)
  else
  (mo_gi σ5 a1 10 2 fun x7 =>
  if x7 = 0 then
  (m_J0_init_db425_j79 a0 σ5 q x2 x4)
  else
  (none)))
  else
  (mo_pv σ5 a0 9 1 (.int (0 : Int32)) fun σ8 =>
  mo_cs (m_J7_copyOfRange_39247 σ8 x2 (0 : Int32) x4 q) fun x10 σ9 =>
  mo_pv σ9 a0 9 0 (.ref x10.1) fun σ12 =>
  some (x10.2, σ12))
set_option maxRecDepth 100000 in
set_option maxHeartbeats 4000000 in
theorem k_J0_init_db425 {Λ : ex_L} {q : Nat} {σ σ' : ac_H} {a0 : Nat} {a1 : Nat} {v : Nat} (hf : m_J0_init_db425 σ a0 a1 q = some (v, σ')) : kx_C Λ yJ0_init_db425 (.code yJ0_init_db425 cJ0_init_db425 5 none) ({ frames := 3, cells := 1, slots := 300, locals := 86 } : Room) [.ref a0, .ref a1, .null] q σ (.inr none) σ' (fun z => z = v) := by
  refine kx_in (by decide +kernel) (Nat.le_of_ble_eq_true rfl) ?_
  intro Γ K hnm hsz hQ
  refine kx_lv (lv' := [(0, .ref a0), (1, .ref a1), (2, .null)]) rfl ?_
  have B79 : ∀ (σ16 : ac_H) (z13 : Nat) (v14 : Nat) (v15 : Int32), m_J0_init_db425_j79 a0 σ16 z13 v14 v15 = some (v, σ') → kx_S Λ Γ 5 (fun z => z = z13) σ16 (0) (0) 79 [(0, .ref a0), (3, .ref v14), (4, .int v15)] [] := by
    intro σ16 z13 v14 v15 hf
    unfold m_J0_init_db425_j79 at hf
    refine kx_aload_n K dJ0_init_db425_79 rfl 0 rfl ?_
    refine kx_iconst (v := 1) K dJ0_init_db425_80 (by decide) ?_
    refine kx_putF K f_J0_15 hnm rfl dJ0_init_db425_81 (by decide) (by decide) hf (fun σ17 hf => ?_)
    refine kx_aload_n K dJ0_init_db425_84 rfl 0 rfl ?_
    refine kx_aload_n K dJ0_init_db425_85 rfl 1 rfl ?_
    refine kx_iconst (v := 0) K dJ0_init_db425_86 (by decide) ?_
    refine kx_iload K dJ0_init_db425_87 2 rfl ?_
    refine kx_iconst (v := 1) K dJ0_init_db425_89 (by decide) ?_
    refine kx_ishl K dJ0_init_db425_90 ?_
    refine kx_as (rmy := { frames := 2, cells := 1, slots := 300, locals := 64 }) (k' := 1) (n' := 300) (ρ := Nat × Nat) K [.ref v14, .int (0 : Int32), .int (v15 <<< ((1 : Int32) &&& 31))] (fun x => some (.ref x.1)) (fun x => x.2) c_J0_54 ⟨by decide, by decide, by show 0 + 1 = 1; omega, by show 0 + 300 = 300; omega, (by decide), (by decide)⟩ rfl rfl (Nat.le_of_ble_eq_true rfl) dJ0_init_db425_91 hf (fun _ _ h => k_J7_copyOfRange_39247 h) (fun x19 σ18 hf => ?_)
    refine kx_putF K f_J0_9 hnm rfl dJ0_init_db425_94 rfl rfl hf (fun σ21 hf => ?_)
    exact kx_vretZ K hQ (by decide) (by decide) dJ0_init_db425_97 hf
  unfold m_J0_init_db425 at hf
  refine kx_aload_n K dJ0_init_db425_0 rfl 0 rfl ?_
  refine kx_oinit K w_346 w_8 w_9 (by decide) (by decide) dJ0_init_db425_1 ?_
  refine kx_aload_n K dJ0_init_db425_4 rfl 1 rfl ?_
  refine kx_cu (ρ := Nat) K [] (fun x => some (.ref x)) c_J0_552 ⟨by decide, by decide, rfl, rfl, (by decide), (by decide)⟩ rfl rfl (Nat.le_of_ble_eq_true rfl) dJ0_init_db425_5 hf (fun _ _ _ h => k_J5_getValue_6d5f1 h) (fun x2 σ1 hf => ?_)
  refine kx_astore_n K [(3, .ref x2), (0, .ref a0), (1, .ref a1), (2, .null)] dJ0_init_db425_8 rfl (by decide) rfl ?_
  refine kx_aload_n K dJ0_init_db425_9 rfl 2 rfl ?_
  refine kx_cu (ρ := Int32) K [] (fun x => some (.int x)) c_J0_549 ⟨by decide, by decide, rfl, rfl, (by decide), (by decide)⟩ rfl rfl (Nat.le_of_ble_eq_true rfl) dJ0_init_db425_10 hf (fun _ _ _ h => k_J4_length_8abf5 h) (fun x4 σ3 hf => ?_)
  refine kx_istore K [(4, .int x4), (3, .ref x2), (0, .ref a0), (1, .ref a1), (2, .null)] dJ0_init_db425_13 (by decide) rfl ?_
  refine kx_aload_n K dJ0_init_db425_15 rfl 3 rfl ?_
  refine kx_cu (ρ := Int32) K [] (fun x => some (.int x)) c_J0_1047 ⟨by decide, by decide, rfl, rfl, (by decide), (by decide)⟩ rfl rfl (Nat.le_of_ble_eq_true rfl) dJ0_init_db425_16 hf (fun _ _ _ h => k_J5_isLatin1_aae02 h) (fun x6 σ5 hf => ?_)
  refine kx_if_eq K 41 hf dJ0_init_db425_19 (by decide) (fun hf => ?_) (fun hf => ?_)
  · refine kx_scmpG K w_238 dJ0_init_db425_41 ?_
    refine kx_if_eq K 79 hf dJ0_init_db425_44 (by decide) (fun hf => ?_) (fun hf => ?_)
    · refine kx_sub [(0, .ref a0), (3, .ref x2), (4, .int x4)] [2, 1, 0] rfl ?_
      exact B79 _ _ _ _ hf
    · refine kx_aload_n K dJ0_init_db425_47 rfl 3 rfl ?_
      refine kx_gi K f_J0_1048 dJ0_init_db425_48 hf (fun x7 hf => ?_)
      refine kx_if_eq K 79 hf dJ0_init_db425_51 (by decide) (fun hf => ?_) (fun hf => ?_)
      · refine kx_sub [(0, .ref a0), (3, .ref x2), (4, .int x4)] [2, 1, 0] rfl ?_
        exact B79 _ _ _ _ hf
      · refine kx_aload_n K dJ0_init_db425_54 rfl 2 rfl ?_
        refine kx_aload_n K dJ0_init_db425_55 rfl 1 rfl ?_
        refine kx_iconst (v := 0) K dJ0_init_db425_56 (by decide) ?_
        refine kx_iload K dJ0_init_db425_57 0 rfl ?_
        cases hf
  · refine kx_aload_n K dJ0_init_db425_22 rfl 2 rfl ?_
    refine kx_iconst (v := 0) K dJ0_init_db425_23 (by decide) ?_
    refine kx_putF K f_J0_15 hnm rfl dJ0_init_db425_24 (by decide) (by decide) hf (fun σ8 hf => ?_)
    refine kx_aload_n K dJ0_init_db425_27 rfl 2 rfl ?_
    refine kx_aload_n K dJ0_init_db425_28 rfl 1 rfl ?_
    refine kx_iconst (v := 0) K dJ0_init_db425_29 (by decide) ?_
    refine kx_iload K dJ0_init_db425_30 0 rfl ?_
    refine kx_as (rmy := { frames := 2, cells := 1, slots := 300, locals := 64 }) (k' := 1) (n' := 300) (ρ := Nat × Nat) K [.ref x2, .int (0 : Int32), .int x4] (fun x => some (.ref x.1)) (fun x => x.2) c_J0_54 ⟨by decide, by decide, by show 0 + 1 = 1; omega, by show 0 + 300 = 300; omega, (by decide), (by decide)⟩ rfl rfl (Nat.le_of_ble_eq_true rfl) dJ0_init_db425_32 hf (fun _ _ h => k_J7_copyOfRange_39247 h) (fun x10 σ9 hf => ?_)
    refine kx_putF K f_J0_9 hnm rfl dJ0_init_db425_35 rfl rfl hf (fun σ12 hf => ?_)
    refine kx_goto K 97 dJ0_init_db425_38 (by decide) ?_
    exact kx_vretZ K hQ (by decide) (by decide) dJ0_init_db425_97 hf
def m_J0_init_81219 (σ : ac_H) (a0 : Nat) (a1 : Nat) (q : Nat) : Option (Nat × ac_H) :=
  mo_cs (m_J0_init_db425 σ a0 a1 q) fun z2 σ1 =>
  some (z2, σ1)
set_option maxRecDepth 100000 in
set_option maxHeartbeats 4000000 in
theorem k_J0_init_81219 {Λ : ex_L} {q : Nat} {σ σ' : ac_H} {a0 : Nat} {a1 : Nat} {v : Nat} (hf : m_J0_init_81219 σ a0 a1 q = some (v, σ')) : kx_C Λ yJ0_init_81219 (.code yJ0_init_81219 cJ0_init_81219 2 none) ({ frames := 4, cells := 1, slots := 300, locals := 110 } : Room) [.ref a0, .ref a1] q σ (.inr none) σ' (fun z => z = v) := by
  refine kx_in (by decide +kernel) (Nat.le_of_ble_eq_true rfl) ?_
  intro Γ K hnm hsz hQ
  refine kx_lv (lv' := [(0, .ref a0), (1, .ref a1)]) rfl ?_
  unfold m_J0_init_81219 at hf
  refine kx_aload_n K dJ0_init_81219_0 rfl 0 rfl ?_
  refine kx_aload_n K dJ0_init_81219_1 rfl 1 rfl ?_
  refine kx_null K dJ0_init_81219_2 ?_
  refine kx_ci (rmy := { frames := 3, cells := 1, slots := 300, locals := 86 }) (k' := 1) (n' := 300) (As := [.ref a1, .null]) K c_J0_489 ⟨by decide, by decide, by show 0 + 1 = 1; omega, by show 0 + 300 = 300; omega, (by decide), (by decide)⟩ rfl rfl (Nat.le_of_ble_eq_true rfl) dJ0_init_81219_3 hf (fun _ _ h => k_J0_init_db425 h) (fun z2 σ1 hf => ?_)
  exact kx_vretZ K hQ (by decide) (by decide) dJ0_init_81219_6 hf
def m_J4_toString_0e30d (σ : ac_H) (a0 : Nat) (q : Nat) : Option ((Nat × Nat) × ac_H) :=
  mo_cs (m_J0_init_81219 (ac_up σ q (.inr (9, [.null, .int 0, .int 0, .int 0]))) q a0 (q + 1)) fun z3 σ2 =>
  some ((q, z3), σ2)
set_option maxRecDepth 100000 in
set_option maxHeartbeats 4000000 in
theorem k_J4_toString_0e30d {Λ : ex_L} {q : Nat} {σ σ' : ac_H} {a0 : Nat} {v : (Nat × Nat)} (hf : m_J4_toString_0e30d σ a0 q = some (v, σ')) : kx_C Λ yJ4_toString_0e30d (.code yJ4_toString_0e30d cJ4_toString_0e30d 1 (some (.object "java/lang/String"))) ({ frames := 5, cells := 2, slots := 304, locals := 131 } : Room) [.ref a0] q σ (.inr (some (.ref v.1))) σ' (fun z => z = v.2) := by
  refine kx_in (by decide +kernel) (Nat.le_of_ble_eq_true rfl) ?_
  intro Γ K hnm hsz hQ
  refine kx_lv (lv' := [(0, .ref a0)]) rfl ?_
  unfold m_J4_toString_0e30d at hf
  refine kx_new K n_J4_18 (by decide) (by decide) dJ4_toString_0e30d_0 ?_
  refine kx_dup K dJ4_toString_0e30d_3 rfl ?_
  refine kx_aload_n K dJ4_toString_0e30d_4 rfl 0 rfl ?_
  refine kx_ci (rmy := { frames := 4, cells := 1, slots := 300, locals := 110 }) (k' := 2) (n' := 304) (As := [.ref a0]) K c_J4_137 ⟨by decide, by decide, by show 1 + 1 = 2; omega, by show 4 + 300 = 304; omega, (by decide), (by decide)⟩ rfl rfl (Nat.le_of_ble_eq_true rfl) dJ4_toString_0e30d_5 hf (fun _ _ h => k_J0_init_81219 h) (fun z3 σ2 hf => ?_)
  exact kx_aretZ K hQ (by decide) (by decide) dJ4_toString_0e30d_8 hf
def m_J6_reverseBytes_0f7a4 (σ : ac_H) (a0 : Int32) : Option (Int32 × ac_H) :=
  some (((((a0 <<< ((24 : Int32) &&& 31)) ||| ((a0 &&& (65280 : Int32)) <<< ((8 : Int32) &&& 31))) ||| (((a0).toUInt32 >>> (((8 : Int32)).toUInt32 &&& Int32.toUInt32 31)).toInt32 &&& (65280 : Int32))) ||| ((a0).toUInt32 >>> (((24 : Int32)).toUInt32 &&& Int32.toUInt32 31)).toInt32), σ)
set_option maxRecDepth 100000 in
set_option maxHeartbeats 4000000 in
theorem k_J6_reverseBytes_0f7a4 {Λ : ex_L} {q : Nat} {σ σ' : ac_H} {a0 : Int32} {v : Int32} (hf : m_J6_reverseBytes_0f7a4 σ a0 = some (v, σ')) : kx_C Λ yJ6_reverseBytes_0f7a4 (.code yJ6_reverseBytes_0f7a4 cJ6_reverseBytes_0f7a4 1 (some .int)) ({ frames := 0, cells := 0, slots := 0, locals := 0 } : Room) [.int a0] q σ (.inr (some (.int v))) σ' (fun z => z = q) := by
  refine kx_in (by decide +kernel) (Nat.le_of_ble_eq_true rfl) ?_
  intro Γ K hnm hsz hQ
  refine kx_lv (lv' := [(0, .int a0)]) rfl ?_
  unfold m_J6_reverseBytes_0f7a4 at hf
  refine kx_iload_n K dJ6_reverseBytes_0f7a4_0 rfl 0 rfl ?_
  refine kx_bipush (v := 24) K dJ6_reverseBytes_0f7a4_1 (by decide) ?_
  refine kx_ishl K dJ6_reverseBytes_0f7a4_3 ?_
  refine kx_iload_n K dJ6_reverseBytes_0f7a4_4 rfl 0 rfl ?_
  refine kx_ldcw (v := 65280) K dJ6_reverseBytes_0f7a4_5 w_792 ?_
  refine kx_iand K dJ6_reverseBytes_0f7a4_8 ?_
  refine kx_bipush (v := 8) K dJ6_reverseBytes_0f7a4_9 (by decide) ?_
  refine kx_ishl K dJ6_reverseBytes_0f7a4_11 ?_
  refine kx_ior K dJ6_reverseBytes_0f7a4_12 ?_
  refine kx_iload_n K dJ6_reverseBytes_0f7a4_13 rfl 0 rfl ?_
  refine kx_bipush (v := 8) K dJ6_reverseBytes_0f7a4_14 (by decide) ?_
  refine kx_iushr K dJ6_reverseBytes_0f7a4_16 ?_
  refine kx_ldcw (v := 65280) K dJ6_reverseBytes_0f7a4_17 w_792 ?_
  refine kx_iand K dJ6_reverseBytes_0f7a4_20 ?_
  refine kx_ior K dJ6_reverseBytes_0f7a4_21 ?_
  refine kx_iload_n K dJ6_reverseBytes_0f7a4_22 rfl 0 rfl ?_
  refine kx_bipush (v := 24) K dJ6_reverseBytes_0f7a4_23 (by decide) ?_
  refine kx_iushr K dJ6_reverseBytes_0f7a4_25 ?_
  refine kx_ior K dJ6_reverseBytes_0f7a4_26 ?_
  exact kx_iret K hQ (by decide) (by decide) (fun _ h => h) dJ6_reverseBytes_0f7a4_27 hf
def m_J6_reverse_0f7a4 (σ : ac_H) (a0 : Int32) : Option (Int32 × ac_H) :=
  mo_cs (m_J6_reverseBytes_0f7a4 σ (((((((((a0 &&& (1431655765 : Int32)) <<< ((1 : Int32) &&& 31)) ||| (((a0).toUInt32 >>> (((1 : Int32)).toUInt32 &&& Int32.toUInt32 31)).toInt32 &&& (1431655765 : Int32))) &&& (858993459 : Int32)) <<< ((2 : Int32) &&& 31)) ||| ((((((a0 &&& (1431655765 : Int32)) <<< ((1 : Int32) &&& 31)) ||| (((a0).toUInt32 >>> (((1 : Int32)).toUInt32 &&& Int32.toUInt32 31)).toInt32 &&& (1431655765 : Int32)))).toUInt32 >>> (((2 : Int32)).toUInt32 &&& Int32.toUInt32 31)).toInt32 &&& (858993459 : Int32))) &&& (252645135 : Int32)) <<< ((4 : Int32) &&& 31)) ||| (((((((((a0 &&& (1431655765 : Int32)) <<< ((1 : Int32) &&& 31)) ||| (((a0).toUInt32 >>> (((1 : Int32)).toUInt32 &&& Int32.toUInt32 31)).toInt32 &&& (1431655765 : Int32))) &&& (858993459 : Int32)) <<< ((2 : Int32) &&& 31)) ||| ((((((a0 &&& (1431655765 : Int32)) <<< ((1 : Int32) &&& 31)) ||| (((a0).toUInt32 >>> (((1 : Int32)).toUInt32 &&& Int32.toUInt32 31)).toInt32 &&& (1431655765 : Int32)))).toUInt32 >>> (((2 : Int32)).toUInt32 &&& Int32.toUInt32 31)).toInt32 &&& (858993459 : Int32)))).toUInt32 >>> (((4 : Int32)).toUInt32 &&& Int32.toUInt32 31)).toInt32 &&& (252645135 : Int32)))) fun x2 σ1 =>
  some (x2, σ1)
set_option maxRecDepth 100000 in
set_option maxHeartbeats 4000000 in
theorem k_J6_reverse_0f7a4 {Λ : ex_L} {q : Nat} {σ σ' : ac_H} {a0 : Int32} {v : Int32} (hf : m_J6_reverse_0f7a4 σ a0 = some (v, σ')) : kx_C Λ yJ6_reverse_0f7a4 (.code yJ6_reverse_0f7a4 cJ6_reverse_0f7a4 1 (some .int)) ({ frames := 1, cells := 0, slots := 0, locals := 20 } : Room) [.int a0] q σ (.inr (some (.int v))) σ' (fun z => z = q) := by
  refine kx_in (by decide +kernel) (Nat.le_of_ble_eq_true rfl) ?_
  intro Γ K hnm hsz hQ
  refine kx_lv (lv' := [(0, .int a0)]) rfl ?_
  unfold m_J6_reverse_0f7a4 at hf
  refine kx_iload_n K dJ6_reverse_0f7a4_0 rfl 0 rfl ?_
  refine kx_ldcw (v := 1431655765) K dJ6_reverse_0f7a4_1 w_618 ?_
  refine kx_iand K dJ6_reverse_0f7a4_4 ?_
  refine kx_iconst (v := 1) K dJ6_reverse_0f7a4_5 (by decide) ?_
  refine kx_ishl K dJ6_reverse_0f7a4_6 ?_
  refine kx_iload_n K dJ6_reverse_0f7a4_7 rfl 0 rfl ?_
  refine kx_iconst (v := 1) K dJ6_reverse_0f7a4_8 (by decide) ?_
  refine kx_iushr K dJ6_reverse_0f7a4_9 ?_
  refine kx_ldcw (v := 1431655765) K dJ6_reverse_0f7a4_10 w_618 ?_
  refine kx_iand K dJ6_reverse_0f7a4_13 ?_
  refine kx_ior K dJ6_reverse_0f7a4_14 ?_
  refine kx_istore_n K [(0, .int (((a0 &&& (1431655765 : Int32)) <<< ((1 : Int32) &&& 31)) ||| (((a0).toUInt32 >>> (((1 : Int32)).toUInt32 &&& Int32.toUInt32 31)).toInt32 &&& (1431655765 : Int32))))] dJ6_reverse_0f7a4_15 rfl (by decide) rfl ?_
  refine kx_iload_n K dJ6_reverse_0f7a4_16 rfl 0 rfl ?_
  refine kx_ldcw (v := 858993459) K dJ6_reverse_0f7a4_17 w_619 ?_
  refine kx_iand K dJ6_reverse_0f7a4_20 ?_
  refine kx_iconst (v := 2) K dJ6_reverse_0f7a4_21 (by decide) ?_
  refine kx_ishl K dJ6_reverse_0f7a4_22 ?_
  refine kx_iload_n K dJ6_reverse_0f7a4_23 rfl 0 rfl ?_
  refine kx_iconst (v := 2) K dJ6_reverse_0f7a4_24 (by decide) ?_
  refine kx_iushr K dJ6_reverse_0f7a4_25 ?_
  refine kx_ldcw (v := 858993459) K dJ6_reverse_0f7a4_26 w_619 ?_
  refine kx_iand K dJ6_reverse_0f7a4_29 ?_
  refine kx_ior K dJ6_reverse_0f7a4_30 ?_
  refine kx_istore_n K [(0, .int ((((((a0 &&& (1431655765 : Int32)) <<< ((1 : Int32) &&& 31)) ||| (((a0).toUInt32 >>> (((1 : Int32)).toUInt32 &&& Int32.toUInt32 31)).toInt32 &&& (1431655765 : Int32))) &&& (858993459 : Int32)) <<< ((2 : Int32) &&& 31)) ||| ((((((a0 &&& (1431655765 : Int32)) <<< ((1 : Int32) &&& 31)) ||| (((a0).toUInt32 >>> (((1 : Int32)).toUInt32 &&& Int32.toUInt32 31)).toInt32 &&& (1431655765 : Int32)))).toUInt32 >>> (((2 : Int32)).toUInt32 &&& Int32.toUInt32 31)).toInt32 &&& (858993459 : Int32))))] dJ6_reverse_0f7a4_31 rfl (by decide) rfl ?_
  refine kx_iload_n K dJ6_reverse_0f7a4_32 rfl 0 rfl ?_
  refine kx_ldcw (v := 252645135) K dJ6_reverse_0f7a4_33 w_620 ?_
  refine kx_iand K dJ6_reverse_0f7a4_36 ?_
  refine kx_iconst (v := 4) K dJ6_reverse_0f7a4_37 (by decide) ?_
  refine kx_ishl K dJ6_reverse_0f7a4_38 ?_
  refine kx_iload_n K dJ6_reverse_0f7a4_39 rfl 0 rfl ?_
  refine kx_iconst (v := 4) K dJ6_reverse_0f7a4_40 (by decide) ?_
  refine kx_iushr K dJ6_reverse_0f7a4_41 ?_
  refine kx_ldcw (v := 252645135) K dJ6_reverse_0f7a4_42 w_620 ?_
  refine kx_iand K dJ6_reverse_0f7a4_45 ?_
  refine kx_ior K dJ6_reverse_0f7a4_46 ?_
  refine kx_istore_n K [(0, .int (((((((((a0 &&& (1431655765 : Int32)) <<< ((1 : Int32) &&& 31)) ||| (((a0).toUInt32 >>> (((1 : Int32)).toUInt32 &&& Int32.toUInt32 31)).toInt32 &&& (1431655765 : Int32))) &&& (858993459 : Int32)) <<< ((2 : Int32) &&& 31)) ||| ((((((a0 &&& (1431655765 : Int32)) <<< ((1 : Int32) &&& 31)) ||| (((a0).toUInt32 >>> (((1 : Int32)).toUInt32 &&& Int32.toUInt32 31)).toInt32 &&& (1431655765 : Int32)))).toUInt32 >>> (((2 : Int32)).toUInt32 &&& Int32.toUInt32 31)).toInt32 &&& (858993459 : Int32))) &&& (252645135 : Int32)) <<< ((4 : Int32) &&& 31)) ||| (((((((((a0 &&& (1431655765 : Int32)) <<< ((1 : Int32) &&& 31)) ||| (((a0).toUInt32 >>> (((1 : Int32)).toUInt32 &&& Int32.toUInt32 31)).toInt32 &&& (1431655765 : Int32))) &&& (858993459 : Int32)) <<< ((2 : Int32) &&& 31)) ||| ((((((a0 &&& (1431655765 : Int32)) <<< ((1 : Int32) &&& 31)) ||| (((a0).toUInt32 >>> (((1 : Int32)).toUInt32 &&& Int32.toUInt32 31)).toInt32 &&& (1431655765 : Int32)))).toUInt32 >>> (((2 : Int32)).toUInt32 &&& Int32.toUInt32 31)).toInt32 &&& (858993459 : Int32)))).toUInt32 >>> (((4 : Int32)).toUInt32 &&& Int32.toUInt32 31)).toInt32 &&& (252645135 : Int32))))] dJ6_reverse_0f7a4_47 rfl (by decide) rfl ?_
  refine kx_iload_n K dJ6_reverse_0f7a4_48 rfl 0 rfl ?_
  refine kx_cs1i K c_J6_268 ⟨by decide, by decide, rfl, rfl, (by decide), (by decide)⟩ (Nat.le_of_ble_eq_true rfl) dJ6_reverse_0f7a4_49 hf (fun _ _ _ h => k_J6_reverseBytes_0f7a4 h) (fun x2 σ1 hf => ?_)
  exact kx_iret K hQ (by decide) (by decide) (fun _ h => h) dJ6_reverse_0f7a4_52 hf

def hN_f : Nat := 100000
theorem f_X5_9 : kx_F RX5 9 5 0 (.array .int) true := ⟨RX5, TX5, 1, tyX5, rfl, wi_wsX50, tyX5_ok, nmX5, by decide, w_45, fun _ => rfl, rfl, rfl⟩
theorem f_X0_15 : kx_F RX0 15 0 1 (.array .int) true := ⟨RX0, TX0, 6, tyX0, rfl, wi_wsX00, tyX0_ok, nmX0, by decide, w_33, fun _ => rfl, rfl, rfl⟩
theorem f_X0_18 : kx_F RX0 18 0 2 (.array .int) true := ⟨RX0, TX0, 6, tyX0, rfl, wi_wsX00, tyX0_ok, nmX0, by decide, w_34, fun _ => rfl, rfl, rfl⟩
theorem f_X0_21 : kx_F RX0 21 0 3 (.array .int) true := ⟨RX0, TX0, 6, tyX0, rfl, wi_wsX00, tyX0_ok, nmX0, by decide, w_35, fun _ => rfl, rfl, rfl⟩
theorem f_X0_24 : kx_F RX0 24 0 4 .int false := ⟨RX0, TX0, 6, tyX0, rfl, wi_wsX00, tyX0_ok, nmX0, by decide, w_36, fun _ => rfl, rfl, rfl⟩
theorem f_X0_31 : kx_F RX0 31 0 5 (.object "FaultBench$States") true := ⟨RX0, TX0, 6, tyX0, rfl, wi_wsX00, tyX0_ok, nmX0, by decide, w_40, fun _ => rfl, rfl, rfl⟩
theorem f_X0_9 : kx_F RX0 9 0 0 (.array .int) true := ⟨RX0, TX0, 6, tyX0, rfl, wi_wsX00, tyX0_ok, nmX0, by decide, w_32, fun _ => rfl, rfl, rfl⟩
theorem c_X0_30 : kx_MI RX0 30 yX5_init cX5_init 1 0 := ⟨w_41, w_42, rfl, w_39, w_43, by decide +kernel, by decide +kernel⟩
theorem n_X0_28 : kx_New RX0 28 5 1 [.null] := ⟨RX5, TX5, tyX5, rfl, wi_wsX50, tyX5_ok, w_37, w_38, w_39, fun j hj => by rcases (show j = 0 by omega) with rfl <;> rfl⟩
theorem c_X0_38 : kx_MV RX0 38 yX5_removeAll cX5_removeAll 2 none 5 0 := ⟨rfl, w_50, w_51, w_52, w_39, w_53, by decide +kernel, by decide +kernel⟩
theorem c_X0_41 : kx_MV RX0 41 yX0_takePart cX0_takePart 5 none 0 2 := ⟨rfl, w_523, w_524, w_525, w_12, w_526, by decide +kernel, by decide +kernel⟩
theorem c_X0_45 : kx_MV RX0 45 yX5_takeAll cX5_takeAll 3 none 5 1 := ⟨rfl, w_527, w_528, w_529, w_39, w_530, by decide +kernel, by decide +kernel⟩
theorem c_X0_49 : kx_MV RX0 49 yX0_insert cX0_insert 6 (some .int) 0 3 := ⟨rfl, w_972, w_512, w_513, w_12, w_514, by decide +kernel, by decide +kernel⟩
theorem f_X1_9 : kx_F RX1 9 1 0 (.array .int) true := ⟨RX1, TX1, 8, tyX1, rfl, wi_wsX10, tyX1_ok, nmX1, by decide, w_87, fun _ => rfl, rfl, rfl⟩
theorem f_X1_15 : kx_F RX1 15 1 1 .int false := ⟨RX1, TX1, 8, tyX1, rfl, wi_wsX10, tyX1_ok, nmX1, by decide, w_668, fun _ => rfl, rfl, rfl⟩
theorem f_X1_19 : kx_F RX1 19 1 2 .int false := ⟨RX1, TX1, 8, tyX1, rfl, wi_wsX10, tyX1_ok, nmX1, by decide, w_669, fun _ => rfl, rfl, rfl⟩
theorem f_X1_22 : kx_F RX1 22 1 3 .int false := ⟨RX1, TX1, 8, tyX1, rfl, wi_wsX10, tyX1_ok, nmX1, by decide, w_670, fun _ => rfl, rfl, rfl⟩
theorem f_X1_25 : kx_F RX1 25 1 4 .int false := ⟨RX1, TX1, 8, tyX1, rfl, wi_wsX10, tyX1_ok, nmX1, by decide, w_671, fun _ => rfl, rfl, rfl⟩
theorem f_X1_28 : kx_F RX1 28 1 5 .boolean false := ⟨RX1, TX1, 8, tyX1, rfl, wi_wsX10, tyX1_ok, nmX1, by decide, w_672, fun _ => rfl, rfl, rfl⟩
theorem f_X1_32 : kx_F RX1 32 1 6 .boolean false := ⟨RX1, TX1, 8, tyX1, rfl, wi_wsX10, tyX1_ok, nmX1, by decide, w_673, fun _ => rfl, rfl, rfl⟩
theorem f_X1_35 : kx_F RX1 35 1 7 .int false := ⟨RX1, TX1, 8, tyX1, rfl, wi_wsX10, tyX1_ok, nmX1, by decide, w_674, fun _ => rfl, rfl, rfl⟩
theorem f_X2_15 : kx_F RX2 15 2 1 (.array .int) true := ⟨RX2, TX2, 11, tyX2, rfl, wi_wsX20, tyX2_ok, nmX2, by decide, w_75, fun _ => rfl, rfl, rfl⟩
theorem f_X2_18 : kx_F RX2 18 2 2 (.array .int) true := ⟨RX2, TX2, 11, tyX2, rfl, wi_wsX20, tyX2_ok, nmX2, by decide, w_76, fun _ => rfl, rfl, rfl⟩
theorem f_X2_21 : kx_F RX2 21 2 3 (.array .int) true := ⟨RX2, TX2, 11, tyX2, rfl, wi_wsX20, tyX2_ok, nmX2, by decide, w_77, fun _ => rfl, rfl, rfl⟩
theorem f_X2_24 : kx_F RX2 24 2 4 (.array .int) true := ⟨RX2, TX2, 11, tyX2, rfl, wi_wsX20, tyX2_ok, nmX2, by decide, w_78, fun _ => rfl, rfl, rfl⟩
theorem f_X2_27 : kx_F RX2 27 2 6 (.array .int) true := ⟨RX2, TX2, 11, tyX2, rfl, wi_wsX20, tyX2_ok, nmX2, by decide, w_79, fun _ => rfl, rfl, rfl⟩
theorem f_X2_30 : kx_F RX2 30 2 7 (.array .int) true := ⟨RX2, TX2, 11, tyX2, rfl, wi_wsX20, tyX2_ok, nmX2, by decide, w_80, fun _ => rfl, rfl, rfl⟩
theorem f_X2_33 : kx_F RX2 33 2 8 (.array .int) true := ⟨RX2, TX2, 11, tyX2, rfl, wi_wsX20, tyX2_ok, nmX2, by decide, w_81, fun _ => rfl, rfl, rfl⟩
theorem f_X2_36 : kx_F RX2 36 2 9 (.array .int) true := ⟨RX2, TX2, 11, tyX2, rfl, wi_wsX20, tyX2_ok, nmX2, by decide, w_82, fun _ => rfl, rfl, rfl⟩
theorem f_X2_9 : kx_F RX2 9 2 0 (.array .int) true := ⟨RX2, TX2, 11, tyX2, rfl, wi_wsX20, tyX2_ok, nmX2, by decide, w_74, fun _ => rfl, rfl, rfl⟩
theorem f_X2_39 : kx_F RX2 39 2 5 .int false := ⟨RX2, TX2, 11, tyX2, rfl, wi_wsX20, tyX2_ok, nmX2, by decide, w_662, fun _ => rfl, rfl, rfl⟩
theorem f_X2_43 : kx_F RX2 43 2 10 .int false := ⟨RX2, TX2, 11, tyX2, rfl, wi_wsX20, tyX2_ok, nmX2, by decide, w_663, fun _ => rfl, rfl, rfl⟩
theorem c_X2_46 : kx_MV RX2 46 yX0_findFault cX0_findFault 4 (some .int) 0 2 := ⟨rfl, w_716, w_508, w_509, w_12, w_510, by decide +kernel, by decide +kernel⟩
theorem c_X2_52 : kx_MV RX2 52 yX0_setting cX0_setting 2 (some .int) 0 1 := ⟨rfl, w_717, w_584, w_585, w_12, w_586, by decide +kernel, by decide +kernel⟩
theorem c_X2_56 : kx_MV RX2 56 yX0_faultPart cX0_faultPart 3 (some .int) 0 2 := ⟨rfl, w_718, w_719, w_720, w_12, w_721, by decide +kernel, by decide +kernel⟩
theorem c_X2_59 : kx_MV RX2 59 yX2_queue cX2_queue 4 none 2 2 := ⟨rfl, w_722, w_723, w_724, w_60, w_725, by decide +kernel, by decide +kernel⟩
theorem f_X3_15 : kx_F RX3 15 3 8 .int false := ⟨RX3, TX3, 10, tyX3, rfl, wi_wsX30, tyX3_ok, nmX3, by decide, w_95, fun _ => rfl, rfl, rfl⟩
theorem f_X3_22 : kx_F RX3 22 3 9 (.object "FaultBench$Bench") true := ⟨RX3, TX3, 10, tyX3, rfl, wi_wsX30, tyX3_ok, nmX3, by decide, w_97, fun _ => rfl, rfl, rfl⟩
theorem f_X3_9 : kx_F RX3 9 3 0 (.array .int) true := ⟨RX3, TX3, 10, tyX3, rfl, wi_wsX30, tyX3_ok, nmX3, by decide, w_94, fun _ => rfl, rfl, rfl⟩
theorem c_X3_21 : kx_MI RX3 21 yX0_init cX0_init 1 0 := ⟨w_98, w_29, rfl, w_12, w_30, by decide +kernel, by decide +kernel⟩
theorem n_X3_19 : kx_New RX3 19 0 6 [.null, .null, .null, .null, .int 0, .null] := ⟨RX0, TX0, tyX0, rfl, wi_wsX00, tyX0_ok, w_96, w_11, w_12, fun j hj => by rcases (show j = 0 ∨ j = 1 ∨ j = 2 ∨ j = 3 ∨ j = 4 ∨ j = 5 by omega) with rfl | rfl | rfl | rfl | rfl | rfl <;> rfl⟩
theorem f_X3_26 : kx_F RX3 26 3 1 .int false := ⟨RX3, TX3, 10, tyX3, rfl, wi_wsX30, tyX3_ok, nmX3, by decide, w_412, fun _ => rfl, rfl, rfl⟩
theorem f_X3_29 : kx_F RX3 29 3 2 .int false := ⟨RX3, TX3, 10, tyX3, rfl, wi_wsX30, tyX3_ok, nmX3, by decide, w_429, fun _ => rfl, rfl, rfl⟩
theorem f_X3_110 : kx_F RX3 110 3 3 .int false := ⟨RX3, TX3, 10, tyX3, rfl, wi_wsX30, tyX3_ok, nmX3, by decide, w_443, fun _ => rfl, rfl, rfl⟩
theorem f_X3_32 : kx_F RX3 32 3 4 .int false := ⟨RX3, TX3, 10, tyX3, rfl, wi_wsX30, tyX3_ok, nmX3, by decide, w_430, fun _ => rfl, rfl, rfl⟩
theorem f_X3_51 : kx_F RX3 51 3 5 .int false := ⟨RX3, TX3, 10, tyX3, rfl, wi_wsX30, tyX3_ok, nmX3, by decide, w_433, fun _ => rfl, rfl, rfl⟩
theorem c_X3_146 : kx_MS RX3 146 yX3_isGap cX3_isGap 1 (some .boolean) 1 := ⟨w_448, w_449, w_21, w_450, by decide +kernel, by decide +kernel⟩
theorem c_X3_149 : kx_MS RX3 149 yX3_isLetter cX3_isLetter 1 (some .boolean) 1 := ⟨w_451, w_452, w_21, w_453, by decide +kernel, by decide +kernel⟩
theorem c_X3_152 : kx_MS RX3 152 yX3_isDigit cX3_isDigit 1 (some .boolean) 1 := ⟨w_454, w_455, w_21, w_456, by decide +kernel, by decide +kernel⟩
theorem c_X3_113 : kx_MV RX3 113 yX3_byteAt cX3_byteAt 2 (some .int) 3 1 := ⟨rfl, w_444, w_445, w_446, w_21, w_447, by decide +kernel, by decide +kernel⟩
theorem f_X3_38 : kx_F RX3 38 3 7 .int false := ⟨RX3, TX3, 10, tyX3, rfl, wi_wsX30, tyX3_ok, nmX3, by decide, w_432, fun _ => rfl, rfl, rfl⟩
theorem c_X3_59 : kx_MV RX3 59 yX3_isWord cX3_isWord 3 (some .boolean) 3 1 := ⟨rfl, w_457, w_458, w_459, w_21, w_460, by decide +kernel, by decide +kernel⟩
theorem c_X3_48 : kx_MV RX3 48 yX3_advance cX3_advance 2 none 3 0 := ⟨rfl, w_439, w_440, w_441, w_21, w_442, by decide +kernel, by decide +kernel⟩
theorem c_X3_63 : kx_MV RX3 63 yX3_fail cX3_fail 2 (some .boolean) 3 1 := ⟨rfl, w_463, w_464, w_465, w_21, w_466, by decide +kernel, by decide +kernel⟩
theorem c_X3_71 : kx_MV RX3 71 yX0_changeSetting cX0_changeSetting 3 none 0 2 := ⟨rfl, w_471, w_472, w_473, w_12, w_474, by decide +kernel, by decide +kernel⟩
theorem c_X3_93 : kx_MV RX3 93 yX3_readNumber cX3_readNumber 5 (some .int) 3 2 := ⟨rfl, w_479, w_480, w_481, w_21, w_482, by decide +kernel, by decide +kernel⟩
theorem c_X3_67 : kx_MV RX3 67 yX3_protocolOfWord cX3_protocolOfWord 1 (some .int) 3 0 := ⟨rfl, w_467, w_468, w_469, w_21, w_470, by decide +kernel, by decide +kernel⟩
theorem c_X3_75 : kx_MV RX3 75 yX3_readSetting cX3_readSetting 3 (some .boolean) 3 1 := ⟨rfl, w_475, w_476, w_477, w_21, w_478, by decide +kernel, by decide +kernel⟩
theorem c_X3_78 : kx_MV RX3 78 yX3_readSemicolon cX3_readSemicolon 1 (some .boolean) 3 0 := ⟨rfl, w_483, w_484, w_485, w_21, w_486, by decide +kernel, by decide +kernel⟩
theorem c_X3_100 : kx_MV RX3 100 yX0_insert cX0_insert 6 (some .int) 0 3 := ⟨rfl, w_511, w_512, w_513, w_12, w_514, by decide +kernel, by decide +kernel⟩
theorem c_X3_87 : kx_MV RX3 87 yX3_kindOfWord cX3_kindOfWord 1 (some .int) 3 0 := ⟨rfl, w_499, w_500, w_501, w_21, w_502, by decide +kernel, by decide +kernel⟩
theorem c_X3_90 : kx_MV RX3 90 yX0_faultCount cX0_faultCount 1 (some .int) 0 0 := ⟨rfl, w_503, w_504, w_505, w_12, w_506, by decide +kernel, by decide +kernel⟩
theorem c_X3_97 : kx_MV RX3 97 yX0_findFault cX0_findFault 4 (some .int) 0 2 := ⟨rfl, w_507, w_508, w_509, w_12, w_510, by decide +kernel, by decide +kernel⟩
theorem f_X3_35 : kx_F RX3 35 3 6 .int false := ⟨RX3, TX3, 10, tyX3, rfl, wi_wsX30, tyX3_ok, nmX3, by decide, w_431, fun _ => rfl, rfl, rfl⟩
theorem c_X3_81 : kx_MV RX3 81 yX3_settingOfWord cX3_settingOfWord 1 (some .int) 3 0 := ⟨rfl, w_491, w_492, w_493, w_21, w_494, by decide +kernel, by decide +kernel⟩
theorem c_X3_84 : kx_MV RX3 84 yX3_readFault cX3_readFault 4 (some .boolean) 3 0 := ⟨rfl, w_495, w_496, w_497, w_21, w_498, by decide +kernel, by decide +kernel⟩
theorem c_X3_41 : kx_MV RX3 41 yX0_begin cX0_begin 2 none 0 0 := ⟨rfl, w_434, w_47, w_48, w_12, w_49, by decide +kernel, by decide +kernel⟩
theorem c_X3_44 : kx_MV RX3 44 yX3_readHead cX3_readHead 2 (some .boolean) 3 0 := ⟨rfl, w_435, w_436, w_437, w_21, w_438, by decide +kernel, by decide +kernel⟩
theorem c_X3_54 : kx_MV RX3 54 yX3_readStatement cX3_readStatement 2 (some .boolean) 3 0 := ⟨rfl, w_487, w_488, w_489, w_21, w_490, by decide +kernel, by decide +kernel⟩
theorem f_X4_12 : kx_F RX4 12 4 0 (.object "FaultBench$Line") true := ⟨RX4, TX4, 15, tyX4, rfl, wi_wsX40, tyX4_ok, nmX4, by decide, w_61, fun _ => rfl, rfl, rfl⟩
theorem f_X4_21 : kx_F RX4 21 4 1 (.object "FaultBench$Deliveries") true := ⟨RX4, TX4, 15, tyX4, rfl, wi_wsX40, tyX4_ok, nmX4, by decide, w_65, fun _ => rfl, rfl, rfl⟩
theorem f_X4_28 : kx_F RX4 28 4 2 (.object "FaultBench$States") true := ⟨RX4, TX4, 15, tyX4, rfl, wi_wsX40, tyX4_ok, nmX4, by decide, w_67, fun _ => rfl, rfl, rfl⟩
theorem f_X4_35 : kx_F RX4 35 4 3 (.object "FaultBench$Bench") false := ⟨RX4, TX4, 15, tyX4, rfl, wi_wsX40, tyX4_ok, nmX4, by decide, w_69, fun _ => rfl, rfl, rfl⟩
theorem c_X4_11 : kx_MI RX4 11 yX2_init cX2_init 1 0 := ⟨w_70, w_71, rfl, w_60, w_72, by decide +kernel, by decide +kernel⟩
theorem c_X4_20 : kx_MI RX4 20 yX1_init cX1_init 1 0 := ⟨w_83, w_84, rfl, w_64, w_85, by decide +kernel, by decide +kernel⟩
theorem c_X4_27 : kx_MI RX4 27 yX5_init cX5_init 1 0 := ⟨w_88, w_42, rfl, w_39, w_43, by decide +kernel, by decide +kernel⟩
theorem c_X4_34 : kx_MI RX4 34 yX0_init cX0_init 1 0 := ⟨w_89, w_29, rfl, w_12, w_30, by decide +kernel, by decide +kernel⟩
theorem n_X4_18 : kx_New RX4 18 1 8 [.null, .int 0, .int 0, .int 0, .int 0, .int 0, .int 0, .int 0] := ⟨RX1, TX1, tyX1, rfl, wi_wsX10, tyX1_ok, w_62, w_63, w_64, fun j hj => by rcases (show j = 0 ∨ j = 1 ∨ j = 2 ∨ j = 3 ∨ j = 4 ∨ j = 5 ∨ j = 6 ∨ j = 7 by omega) with rfl | rfl | rfl | rfl | rfl | rfl | rfl | rfl <;> rfl⟩
theorem n_X4_25 : kx_New RX4 25 5 1 [.null] := ⟨RX5, TX5, tyX5, rfl, wi_wsX50, tyX5_ok, w_66, w_38, w_39, fun j hj => by rcases (show j = 0 by omega) with rfl <;> rfl⟩
theorem n_X4_32 : kx_New RX4 32 0 6 [.null, .null, .null, .null, .int 0, .null] := ⟨RX0, TX0, tyX0, rfl, wi_wsX00, tyX0_ok, w_68, w_11, w_12, fun j hj => by rcases (show j = 0 ∨ j = 1 ∨ j = 2 ∨ j = 3 ∨ j = 4 ∨ j = 5 by omega) with rfl | rfl | rfl | rfl | rfl | rfl <;> rfl⟩
theorem n_X4_9 : kx_New RX4 9 2 11 [.null, .null, .null, .null, .null, .int 0, .null, .null, .null, .null, .int 0] := ⟨RX2, TX2, tyX2, rfl, wi_wsX20, tyX2_ok, w_58, w_59, w_60, fun j hj => by rcases (show j = 0 ∨ j = 1 ∨ j = 2 ∨ j = 3 ∨ j = 4 ∨ j = 5 ∨ j = 6 ∨ j = 7 ∨ j = 8 ∨ j = 9 ∨ j = 10 by omega) with rfl | rfl | rfl | rfl | rfl | rfl | rfl | rfl | rfl | rfl | rfl <;> rfl⟩
theorem f_X4_39 : kx_F RX4 39 4 14 .int false := ⟨RX4, TX4, 15, tyX4, rfl, wi_wsX40, tyX4_ok, nmX4, by decide, w_643, fun _ => rfl, rfl, rfl⟩
theorem f_X4_101 : kx_F RX4 101 4 10 .int false := ⟨RX4, TX4, 15, tyX4, rfl, wi_wsX40, tyX4_ok, nmX4, by decide, w_653, fun _ => rfl, rfl, rfl⟩
theorem f_X4_104 : kx_F RX4 104 4 11 .boolean false := ⟨RX4, TX4, 15, tyX4, rfl, wi_wsX40, tyX4_ok, nmX4, by decide, w_654, fun _ => rfl, rfl, rfl⟩
theorem f_X4_108 : kx_F RX4 108 4 12 .int false := ⟨RX4, TX4, 15, tyX4, rfl, wi_wsX40, tyX4_ok, nmX4, by decide, w_655, fun _ => rfl, rfl, rfl⟩
theorem f_X4_111 : kx_F RX4 111 4 13 .int false := ⟨RX4, TX4, 15, tyX4, rfl, wi_wsX40, tyX4_ok, nmX4, by decide, w_656, fun _ => rfl, rfl, rfl⟩
theorem f_X4_62 : kx_F RX4 62 4 9 .int false := ⟨RX4, TX4, 15, tyX4, rfl, wi_wsX40, tyX4_ok, nmX4, by decide, w_641, fun _ => rfl, rfl, rfl⟩
theorem f_X4_79 : kx_F RX4 79 4 5 .int false := ⟨RX4, TX4, 15, tyX4, rfl, wi_wsX40, tyX4_ok, nmX4, by decide, w_644, fun _ => rfl, rfl, rfl⟩
theorem f_X4_89 : kx_F RX4 89 4 4 .int false := ⟨RX4, TX4, 15, tyX4, rfl, wi_wsX40, tyX4_ok, nmX4, by decide, w_649, fun _ => rfl, rfl, rfl⟩
theorem f_X4_92 : kx_F RX4 92 4 6 .int false := ⟨RX4, TX4, 15, tyX4, rfl, wi_wsX40, tyX4_ok, nmX4, by decide, w_650, fun _ => rfl, rfl, rfl⟩
theorem f_X4_95 : kx_F RX4 95 4 7 .int false := ⟨RX4, TX4, 15, tyX4, rfl, wi_wsX40, tyX4_ok, nmX4, by decide, w_651, fun _ => rfl, rfl, rfl⟩
theorem f_X4_98 : kx_F RX4 98 4 8 .int false := ⟨RX4, TX4, 15, tyX4, rfl, wi_wsX40, tyX4_ok, nmX4, by decide, w_652, fun _ => rfl, rfl, rfl⟩
theorem c_X4_114 : kx_MV RX4 114 yX2_begin cX2_begin 2 none 2 0 := ⟨rfl, w_658, w_659, w_660, w_60, w_661, by decide +kernel, by decide +kernel⟩
theorem c_X4_116 : kx_MV RX4 116 yX1_begin cX1_begin 2 none 1 1 := ⟨rfl, w_664, w_665, w_666, w_64, w_667, by decide +kernel, by decide +kernel⟩
theorem c_X4_118 : kx_MV RX4 118 yX5_removeAll cX5_removeAll 2 none 5 0 := ⟨rfl, w_675, w_51, w_52, w_39, w_53, by decide +kernel, by decide +kernel⟩
theorem c_X4_47 : kx_MV RX4 47 yX0_setting cX0_setting 2 (some .int) 0 1 := ⟨rfl, w_657, w_584, w_585, w_12, w_586, by decide +kernel, by decide +kernel⟩
theorem c_X4_143 : kx_MV RX4 143 yX4_signOf cX4_signOf 2 (some .int) 4 1 := ⟨rfl, w_700, w_701, w_702, w_17, w_703, by decide +kernel, by decide +kernel⟩
theorem c_X4_142 : kx_MV RX4 142 yX1_put cX1_put 3 none 1 2 := ⟨rfl, w_708, w_709, w_710, w_64, w_711, by decide +kernel, by decide +kernel⟩
theorem c_X4_121 : kx_MV RX4 121 yX2_arrivalsIn cX2_arrivalsIn 2 (some .int) 2 1 := ⟨rfl, w_680, w_681, w_682, w_60, w_683, by decide +kernel, by decide +kernel⟩
theorem c_X4_124 : kx_MV RX4 124 yX2_firstArrivalIn cX2_firstArrivalIn 2 (some .int) 2 1 := ⟨rfl, w_684, w_685, w_686, w_60, w_687, by decide +kernel, by decide +kernel⟩
theorem c_X4_127 : kx_MV RX4 127 yX2_arrive cX2_arrive 1 none 2 0 := ⟨rfl, w_688, w_689, w_690, w_60, w_691, by decide +kernel, by decide +kernel⟩
theorem c_X4_130 : kx_MV RX4 130 yX2_sentPart cX2_sentPart 3 (some .int) 2 2 := ⟨rfl, w_692, w_693, w_694, w_60, w_695, by decide +kernel, by decide +kernel⟩
theorem c_X4_133 : kx_MV RX4 133 yX4_receiveAnswer cX4_receiveAnswer 4 none 4 2 := ⟨rfl, w_696, w_697, w_698, w_17, w_699, by decide +kernel, by decide +kernel⟩
theorem c_X4_136 : kx_MV RX4 136 yX4_receiveData cX4_receiveData 4 (some .int) 4 2 := ⟨rfl, w_704, w_705, w_706, w_17, w_707, by decide +kernel, by decide +kernel⟩
theorem c_X4_139 : kx_MV RX4 139 yX2_arrivalBehind cX2_arrivalBehind 2 (some .int) 2 1 := ⟨rfl, w_726, w_727, w_728, w_60, w_729, by decide +kernel, by decide +kernel⟩
theorem c_X4_58 : kx_MV RX4 58 yX2_send cX2_send 8 none 2 4 := ⟨rfl, w_712, w_713, w_714, w_60, w_715, by decide +kernel, by decide +kernel⟩
theorem c_X4_146 : kx_MV RX4 146 yX4_takePresentItem cX4_takePresentItem 2 (some .int) 4 1 := ⟨rfl, w_734, w_735, w_736, w_17, w_737, by decide +kernel, by decide +kernel⟩
theorem c_X4_149 : kx_MV RX4 149 yX4_takeItemInWindow cX4_takeItemInWindow 2 (some .int) 4 1 := ⟨rfl, w_738, w_739, w_740, w_17, w_741, by decide +kernel, by decide +kernel⟩
theorem c_X4_152 : kx_MV RX4 152 yX4_takeNextItem cX4_takeNextItem 1 (some .int) 4 0 := ⟨rfl, w_742, w_743, w_744, w_17, w_745, by decide +kernel, by decide +kernel⟩
theorem c_X5_15 : kx_MS RX5 15 yX5_isState cX5_isState 2 (some .boolean) 2 := ⟨w_754, w_755, w_39, w_756, by decide +kernel, by decide +kernel⟩
theorem c_X4_43 : kx_MV RX4 43 yX4_begin cX4_begin 2 none 4 1 := ⟨rfl, w_645, w_646, w_647, w_17, w_648, by decide +kernel, by decide +kernel⟩
theorem c_X4_51 : kx_MV RX4 51 yX4_handleArrivals cX4_handleArrivals 8 none 4 1 := ⟨rfl, w_676, w_677, w_678, w_17, w_679, by decide +kernel, by decide +kernel⟩
theorem c_X4_55 : kx_MV RX4 55 yX4_takeSendersTurn cX4_takeSendersTurn 2 (some .int) 4 1 := ⟨rfl, w_730, w_731, w_732, w_17, w_733, by decide +kernel, by decide +kernel⟩
theorem c_X4_65 : kx_MV RX4 65 yX1_howMany cX1_howMany 1 (some .int) 1 0 := ⟨rfl, w_746, w_747, w_748, w_64, w_749, by decide +kernel, by decide +kernel⟩
theorem c_X4_75 : kx_MV RX4 75 yX5_put cX5_put 3 none 5 2 := ⟨rfl, w_750, w_751, w_752, w_39, w_753, by decide +kernel, by decide +kernel⟩
theorem c_X4_82 : kx_MV RX4 82 yX2_isEmpty cX2_isEmpty 1 (some .boolean) 2 0 := ⟨rfl, w_757, w_758, w_759, w_60, w_760, by decide +kernel, by decide +kernel⟩
theorem c_X4_86 : kx_MV RX4 86 yX1_broken cX1_broken 3 (some .int) 1 1 := ⟨rfl, w_761, w_762, w_763, w_64, w_764, by decide +kernel, by decide +kernel⟩
theorem c_X5_23 : kx_MS RX5 23 yJ6_bitCount_0f7a4 cJ6_bitCount_0f7a4 1 (some .int) 1 := ⟨w_781, w_616, w_308, w_617, by decide +kernel, by decide +kernel⟩
theorem c_X5_19 : kx_MV RX5 19 yX5_howMany cX5_howMany 3 (some .int) 5 0 := ⟨rfl, w_777, w_778, w_779, w_39, w_780, by decide +kernel, by decide +kernel⟩
theorem f_X6_10 : kx_F RX6 10 6 0 (.object "FaultBench$Bench") true := ⟨RX6, TX6, 8, tyX6, rfl, wi_wsX60, tyX6_ok, nmX6, by decide, w_13, fun _ => rfl, rfl, rfl⟩
theorem f_X6_19 : kx_F RX6 19 6 1 (.object "FaultBench$Bench") true := ⟨RX6, TX6, 8, tyX6, rfl, wi_wsX60, tyX6_ok, nmX6, by decide, w_14, fun _ => rfl, rfl, rfl⟩
theorem f_X6_25 : kx_F RX6 25 6 2 (.object "FaultBench$Run") true := ⟨RX6, TX6, 8, tyX6, rfl, wi_wsX60, tyX6_ok, nmX6, by decide, w_18, fun _ => rfl, rfl, rfl⟩
theorem f_X6_32 : kx_F RX6 32 6 3 (.object "FaultBench$Reader") true := ⟨RX6, TX6, 8, tyX6, rfl, wi_wsX60, tyX6_ok, nmX6, by decide, w_22, fun _ => rfl, rfl, rfl⟩
theorem f_X6_36 : kx_F RX6 36 6 4 (.array (.object "FaultBench$Bench")) true := ⟨RX6, TX6, 8, tyX6, rfl, wi_wsX60, tyX6_ok, nmX6, by decide, w_23, fun _ => rfl, rfl, rfl⟩
theorem f_X6_40 : kx_F RX6 40 6 5 .int false := ⟨RX6, TX6, 8, tyX6, rfl, wi_wsX60, tyX6_ok, nmX6, by decide, w_24, fun _ => rfl, rfl, rfl⟩
theorem f_X6_44 : kx_F RX6 44 6 6 (.array (.object "FaultBench$Bench")) true := ⟨RX6, TX6, 8, tyX6, rfl, wi_wsX60, tyX6_ok, nmX6, by decide, w_25, fun _ => rfl, rfl, rfl⟩
theorem f_X6_47 : kx_F RX6 47 6 7 (.array .boolean) true := ⟨RX6, TX6, 8, tyX6, rfl, wi_wsX60, tyX6_ok, nmX6, by decide, w_27, fun _ => rfl, rfl, rfl⟩
theorem c_X6_24 : kx_MI RX6 24 yX4_init cX4_init 1 0 := ⟨w_54, w_55, rfl, w_17, w_56, by decide +kernel, by decide +kernel⟩
theorem c_X6_31 : kx_MI RX6 31 yX3_init cX3_init 1 0 := ⟨w_90, w_91, rfl, w_21, w_92, by decide +kernel, by decide +kernel⟩
theorem c_X6_9 : kx_MI RX6 9 yX0_init cX0_init 1 0 := ⟨w_28, w_29, rfl, w_12, w_30, by decide +kernel, by decide +kernel⟩
theorem n_X6_22 : kx_New RX6 22 4 15 [.null, .null, .null, .null, .int 0, .int 0, .int 0, .int 0, .int 0, .int 0, .int 0, .int 0, .int 0, .int 0, .int 0] := ⟨RX4, TX4, tyX4, rfl, wi_wsX40, tyX4_ok, w_15, w_16, w_17, fun j hj => by rcases (show j = 0 ∨ j = 1 ∨ j = 2 ∨ j = 3 ∨ j = 4 ∨ j = 5 ∨ j = 6 ∨ j = 7 ∨ j = 8 ∨ j = 9 ∨ j = 10 ∨ j = 11 ∨ j = 12 ∨ j = 13 ∨ j = 14 by omega) with rfl | rfl | rfl | rfl | rfl | rfl | rfl | rfl | rfl | rfl | rfl | rfl | rfl | rfl | rfl <;> rfl⟩
theorem n_X6_29 : kx_New RX6 29 3 10 [.null, .int 0, .int 0, .int 0, .int 0, .int 0, .int 0, .int 0, .int 0, .null] := ⟨RX3, TX3, tyX3, rfl, wi_wsX30, tyX3_ok, w_19, w_20, w_21, fun j hj => by rcases (show j = 0 ∨ j = 1 ∨ j = 2 ∨ j = 3 ∨ j = 4 ∨ j = 5 ∨ j = 6 ∨ j = 7 ∨ j = 8 ∨ j = 9 by omega) with rfl | rfl | rfl | rfl | rfl | rfl | rfl | rfl | rfl | rfl <;> rfl⟩
theorem n_X6_7 : kx_New RX6 7 0 6 [.null, .null, .null, .null, .int 0, .null] := ⟨RX0, TX0, tyX0, rfl, wi_wsX00, tyX0_ok, w_10, w_11, w_12, fun j hj => by rcases (show j = 0 ∨ j = 1 ∨ j = 2 ∨ j = 3 ∨ j = 4 ∨ j = 5 by omega) with rfl | rfl | rfl | rfl | rfl | rfl <;> rfl⟩
theorem c_X6_16 : kx_MV RX6 16 yX0_begin cX0_begin 2 none 0 0 := ⟨rfl, w_46, w_47, w_48, w_12, w_49, by decide +kernel, by decide +kernel⟩
theorem c_X6_51 : kx_MV RX6 51 yX3_heldBytes cX3_heldBytes 1 (some .int) 3 0 := ⟨rfl, w_408, w_409, w_410, w_21, w_411, by decide +kernel, by decide +kernel⟩
theorem c_X6_55 : kx_MV RX6 55 yX3_hold cX3_hold 3 none 3 1 := ⟨rfl, w_413, w_414, w_415, w_21, w_416, by decide +kernel, by decide +kernel⟩
theorem c_X6_66 : kx_MV RX6 66 yX3_read cX3_read 4 (some .int) 3 1 := ⟨rfl, w_425, w_426, w_427, w_21, w_428, by decide +kernel, by decide +kernel⟩
theorem c_X6_70 : kx_MV RX6 70 yX3_described cX3_described 1 (some (.object "FaultBench$Bench")) 3 0 := ⟨rfl, w_515, w_516, w_517, w_21, w_518, by decide +kernel, by decide +kernel⟩
theorem c_X6_74 : kx_MV RX6 74 yX0_takeAll cX0_takeAll 2 none 0 1 := ⟨rfl, w_519, w_520, w_521, w_12, w_522, by decide +kernel, by decide +kernel⟩
theorem c_X6_81 : kx_MV RX6 81 yX0_setting cX0_setting 2 (some .int) 0 1 := ⟨rfl, w_583, w_584, w_585, w_12, w_586, by decide +kernel, by decide +kernel⟩
theorem c_X6_84 : kx_MV RX6 84 yX0_faultCount cX0_faultCount 1 (some .int) 0 0 := ⟨rfl, w_546, w_504, w_505, w_12, w_506, by decide +kernel, by decide +kernel⟩
theorem c_X6_87 : kx_MV RX6 87 yX0_recordedStates cX0_recordedStates 1 (some (.object "FaultBench$States")) 0 0 := ⟨rfl, w_765, w_766, w_767, w_12, w_768, by decide +kernel, by decide +kernel⟩
theorem c_X6_91 : kx_MV RX6 91 yX5_howMany cX5_howMany 3 (some .int) 5 0 := ⟨rfl, w_867, w_778, w_779, w_39, w_780, by decide +kernel, by decide +kernel⟩
theorem c_X6_103 : kx_MV RX6 103 yX0_faultPart cX0_faultPart 3 (some .int) 0 2 := ⟨rfl, w_846, w_719, w_720, w_12, w_721, by decide +kernel, by decide +kernel⟩
theorem c_X6_98 : kx_MV RX6 98 yX6_checkFault cX6_checkFault 2 none 6 1 := ⟨rfl, w_567, w_568, w_569, w_2, w_570, by decide +kernel, by decide +kernel⟩
theorem c_X6_109 : kx_MV RX6 109 yX4_play cX4_play 5 (some .int) 4 1 := ⟨rfl, w_637, w_638, w_639, w_17, w_640, by decide +kernel, by decide +kernel⟩
theorem c_X6_113 : kx_MV RX6 113 yX4_tickCount cX4_tickCount 1 (some .int) 4 0 := ⟨rfl, w_876, w_877, w_878, w_17, w_879, by decide +kernel, by decide +kernel⟩
theorem c_X6_116 : kx_MV RX6 116 yX4_line cX4_line 1 (some (.object "FaultBench$Line")) 4 0 := ⟨rfl, w_880, w_881, w_882, w_17, w_883, by decide +kernel, by decide +kernel⟩
theorem c_X6_120 : kx_MV RX6 120 yX2_sentCount cX2_sentCount 1 (some .int) 2 0 := ⟨rfl, w_884, w_885, w_886, w_60, w_887, by decide +kernel, by decide +kernel⟩
theorem c_X6_125 : kx_MV RX6 125 yX4_deliveries cX4_deliveries 1 (some (.object "FaultBench$Deliveries")) 4 0 := ⟨rfl, w_888, w_889, w_890, w_17, w_891, by decide +kernel, by decide +kernel⟩
theorem c_X6_129 : kx_MV RX6 129 yX1_howMany cX1_howMany 1 (some .int) 1 0 := ⟨rfl, w_892, w_747, w_748, w_64, w_749, by decide +kernel, by decide +kernel⟩
theorem c_X6_132 : kx_MV RX6 132 yX1_completeTick cX1_completeTick 1 (some .int) 1 0 := ⟨rfl, w_893, w_894, w_895, w_64, w_896, by decide +kernel, by decide +kernel⟩
theorem c_X6_135 : kx_MV RX6 135 yX2_repeatedData cX2_repeatedData 4 (some .int) 2 0 := ⟨rfl, w_897, w_898, w_899, w_60, w_900, by decide +kernel, by decide +kernel⟩
theorem c_X6_138 : kx_MV RX6 138 yX2_answers cX2_answers 3 (some .int) 2 0 := ⟨rfl, w_901, w_902, w_903, w_60, w_904, by decide +kernel, by decide +kernel⟩
theorem c_X6_141 : kx_MV RX6 141 yX4_states cX4_states 1 (some (.object "FaultBench$States")) 4 0 := ⟨rfl, w_769, w_770, w_771, w_17, w_772, by decide +kernel, by decide +kernel⟩
theorem c_X6_144 : kx_MV RX6 144 yX1_itemAt cX1_itemAt 2 (some .int) 1 1 := ⟨rfl, w_914, w_915, w_916, w_64, w_917, by decide +kernel, by decide +kernel⟩
theorem c_X6_149 : kx_MV RX6 149 yX2_sentPart cX2_sentPart 3 (some .int) 2 2 := ⟨rfl, w_909, w_693, w_694, w_60, w_695, by decide +kernel, by decide +kernel⟩
theorem c_X6_152 : kx_MS RX6 152 yX6_checkPromise cX6_checkPromise 1 none 1 := ⟨w_822, w_823, w_2, w_824, by decide +kernel, by decide +kernel⟩
theorem c_X6_155 : kx_MV RX6 155 yX6_isBroken cX6_isBroken 3 (some .boolean) 6 2 := ⟨rfl, w_834, w_835, w_836, w_2, w_837, by decide +kernel, by decide +kernel⟩
theorem c_X6_159 : kx_MV RX6 159 yX5_holds cX5_holds 3 (some .boolean) 5 2 := ⟨rfl, w_922, w_923, w_924, w_39, w_925, by decide +kernel, by decide +kernel⟩
theorem c_X6_163 : kx_MV RX6 163 yX0_delete cX0_delete 3 none 0 1 := ⟨rfl, w_573, w_574, w_575, w_12, w_576, by decide +kernel, by decide +kernel⟩
theorem c_X6_169 : kx_MS RX6 169 yJ6_bitCount_0f7a4 cJ6_bitCount_0f7a4 1 (some .int) 1 := ⟨w_829, w_616, w_308, w_617, by decide +kernel, by decide +kernel⟩
theorem c_X6_255 : kx_MS RX6 255 yX6_mirror cX6_mirror 4 (some .int) 2 := ⟨w_830, w_831, w_2, w_832, by decide +kernel, by decide +kernel⟩
theorem c_X6_251 : kx_MV RX6 251 yX0_takePart cX0_takePart 5 none 0 2 := ⟨rfl, w_833, w_524, w_525, w_12, w_526, by decide +kernel, by decide +kernel⟩
theorem c_X6_166 : kx_MV RX6 166 yX6_findCore cX6_findCore 7 (some .int) 6 1 := ⟨rfl, w_825, w_826, w_827, w_2, w_828, by decide +kernel, by decide +kernel⟩
theorem c_X6_230 : kx_MV RX6 230 yX0_changeAmount cX0_changeAmount 3 none 0 2 := ⟨rfl, w_847, w_848, w_849, w_12, w_850, by decide +kernel, by decide +kernel⟩
theorem c_X6_174 : kx_MV RX6 174 yX6_findLeastAmount cX6_findLeastAmount 5 (some .int) 6 2 := ⟨rfl, w_842, w_843, w_844, w_2, w_845, by decide +kernel, by decide +kernel⟩
theorem c_X6_184 : kx_MV RX6 184 yX0_takeOnlyFault cX0_takeOnlyFault 4 none 0 3 := ⟨rfl, w_968, w_969, w_970, w_12, w_971, by decide +kernel, by decide +kernel⟩
theorem c_X6_177 : kx_MV RX6 177 yX6_breaksWithoutFaults cX6_breaksWithoutFaults 2 (some .boolean) 6 1 := ⟨rfl, w_964, w_965, w_966, w_2, w_967, by decide +kernel, by decide +kernel⟩
theorem c_X6_181 : kx_MV RX6 181 yX6_findAttack cX6_findAttack 8 (some .boolean) 6 2 := ⟨rfl, w_977, w_978, w_979, w_2, w_980, by decide +kernel, by decide +kernel⟩
theorem c_X6_195 : kx_MV RX6 195 yX0_changeSetting cX0_changeSetting 3 none 0 2 := ⟨rfl, w_587, w_472, w_473, w_12, w_474, by decide +kernel, by decide +kernel⟩
theorem c_X6_199 : kx_MS RX6 199 yX6_isFault cX6_isFault 3 (some .boolean) 3 := ⟨w_855, w_856, w_2, w_857, by decide +kernel, by decide +kernel⟩
theorem c_X6_205 : kx_MV RX6 205 yX0_findFault cX0_findFault 4 (some .int) 0 2 := ⟨rfl, w_858, w_508, w_509, w_12, w_510, by decide +kernel, by decide +kernel⟩
theorem c_X6_213 : kx_MV RX6 213 yX6_remember cX6_remember 3 none 6 0 := ⟨rfl, w_542, w_543, w_544, w_2, w_545, by decide +kernel, by decide +kernel⟩
theorem c_X6_216 : kx_MV RX6 216 yX0_insert cX0_insert 6 (some .int) 0 3 := ⟨rfl, w_859, w_512, w_513, w_12, w_514, by decide +kernel, by decide +kernel⟩
theorem c_X6_220 : kx_MV RX6 220 yX0_deleteAll cX0_deleteAll 1 none 0 0 := ⟨rfl, w_547, w_548, w_549, w_12, w_550, by decide +kernel, by decide +kernel⟩
theorem c_X6_227 : kx_MV RX6 227 yX0_keepPart cX0_keepPart 2 none 0 1 := ⟨rfl, w_838, w_839, w_840, w_12, w_841, by decide +kernel, by decide +kernel⟩
theorem c_X6_233 : kx_MV RX6 233 yX5_addAll cX5_addAll 4 (some .int) 5 1 := ⟨rfl, w_773, w_774, w_775, w_39, w_776, by decide +kernel, by decide +kernel⟩
theorem th_0 : kx_Th 59 63 "java/lang/IllegalArgumentException" := ⟨by decide +kernel, w_423, w_424, wi_we_0, by decide +kernel, by decide +kernel, ⟨0, by decide, rfl⟩⟩
theorem th_1 : kx_Th 242 246 "java/lang/IndexOutOfBoundsException" := ⟨by decide +kernel, w_571, w_572, wi_we_1, by decide +kernel, by decide +kernel, ⟨2, by decide, rfl⟩⟩
theorem th_2 : kx_Th 208 212 "java/lang/IllegalStateException" := ⟨by decide +kernel, w_820, w_821, wi_we_2, by decide +kernel, by decide +kernel, ⟨1, by decide, rfl⟩⟩

theorem c_L_7 : kx_MV RL 7 yX6_parse cX6_parse 4 (some .int) 6 1 := ⟨rfl, w_155, w_156, w_157, w_2, w_158, by decide +kernel, by decide +kernel⟩
theorem c_L_15 : kx_MV RL 15 yX6_size cX6_size 2 (some .int) 6 1 := ⟨rfl, w_421, w_422, w_423, w_2, w_424, by decide +kernel, by decide +kernel⟩
theorem c_L_18 : kx_MV RL 18 yX6_fault cX6_fault 3 (some .int) 6 2 := ⟨rfl, w_457, w_458, w_459, w_2, w_460, by decide +kernel, by decide +kernel⟩
theorem c_L_24 : kx_MV RL 24 yX6_result cX6_result 3 (some .int) 6 1 := ⟨rfl, w_482, w_483, w_484, w_2, w_485, by decide +kernel, by decide +kernel⟩
theorem c_L_27 : kx_MV RL 27 yX6_sent cX6_sent 3 (some .int) 6 2 := ⟨rfl, w_728, w_729, w_730, w_2, w_731, by decide +kernel, by decide +kernel⟩
theorem c_L_30 : kx_MV RL 30 yX6_breaks cX6_breaks 2 (some .boolean) 6 1 := ⟨rfl, w_740, w_741, w_742, w_2, w_743, by decide +kernel, by decide +kernel⟩
theorem c_L_34 : kx_MV RL 34 yX6_matters cX6_matters 3 (some .boolean) 6 2 := ⟨rfl, w_781, w_782, w_783, w_2, w_784, by decide +kernel, by decide +kernel⟩
theorem c_L_38 : kx_MV RL 38 yX6_smallest cX6_smallest 3 (some .int) 6 1 := ⟨rfl, w_803, w_804, w_805, w_2, w_806, by decide +kernel, by decide +kernel⟩
theorem c_L_41 : kx_MV RL 41 yX6_core cX6_core 2 (some .int) 6 1 := ⟨rfl, w_837, w_838, w_839, w_2, w_840, by decide +kernel, by decide +kernel⟩
theorem c_L_44 : kx_MV RL 44 yX6_leastAmount cX6_leastAmount 3 (some .int) 6 2 := ⟨rfl, w_848, w_849, w_850, w_2, w_851, by decide +kernel, by decide +kernel⟩
theorem c_L_47 : kx_MV RL 47 yX6_attack cX6_attack 3 (some .int) 6 2 := ⟨rfl, w_871, w_872, w_873, w_2, w_874, by decide +kernel, by decide +kernel⟩
theorem c_L_50 : kx_MV RL 50 yX6_weakPoints cX6_weakPoints 5 (some .int) 6 1 := ⟨rfl, w_914, w_915, w_916, w_2, w_917, by decide +kernel, by decide +kernel⟩
theorem c_L_53 : kx_MV RL 53 yX6_timerFor cX6_timerFor 3 (some .int) 6 1 := ⟨rfl, w_925, w_926, w_927, w_2, w_928, by decide +kernel, by decide +kernel⟩
theorem c_L_56 : kx_MV RL 56 yX6_addFault cX6_addFault 4 (some .int) 6 3 := ⟨rfl, w_948, w_949, w_950, w_2, w_951, by decide +kernel, by decide +kernel⟩
theorem c_L_62 : kx_MV RL 62 yX6_removeFault cX6_removeFault 2 (some .int) 6 1 := ⟨rfl, w_974, w_975, w_976, w_2, w_977, by decide +kernel, by decide +kernel⟩
theorem c_L_65 : kx_MV RL 65 yX6_set cX6_set 4 (some .int) 6 2 := ⟨rfl, w_997, w_998, w_999, w_2, w_1000, by decide +kernel, by decide +kernel⟩
theorem c_L_68 : kx_MV RL 68 yX6_shrink cX6_shrink 6 (some .int) 6 1 := ⟨rfl, w_1008, w_1009, w_1010, w_2, w_1011, by decide +kernel, by decide +kernel⟩
theorem c_L_71 : kx_MV RL 71 yX6_saveSnapshot cX6_saveSnapshot 4 (some .boolean) 6 1 := ⟨rfl, w_1044, w_1045, w_1046, w_2, w_1047, by decide +kernel, by decide +kernel⟩
theorem c_L_74 : kx_MV RL 74 yX6_restoreSnapshot cX6_restoreSnapshot 3 (some .int) 6 1 := ⟨rfl, w_1062, w_1063, w_1064, w_2, w_1065, by decide +kernel, by decide +kernel⟩
theorem c_L_77 : kx_MI RL 77 yX6_init cX6_init 2 0 := ⟨w_7, w_8, rfl, w_2, w_9, by decide +kernel, by decide +kernel⟩
theorem c_L_80 : kx_MI RL 80 yX7_init cX7_init 1 0 := ⟨w_103, w_104, rfl, w_5, w_105, by decide +kernel, by decide +kernel⟩
theorem n_L_78 : kx_New RL 78 7 40 [.int 0, .null, .null, .int 0, .int 0, .int 0, .int 0, .int 0, .int 0, .int 0, .int 0, .int 0, .int 0, .null, .null, .null, .null, .null, .null, .null, .null, .int 0, .null, .int 0, .int 0, .int 0, .int 0, .int 0, .null, .int 0, .int 0, .int 0, .int 0, .int 0, .int 0, .int 0, .int 0, .null, .null, .null] := ⟨RX7, TX7, tyX7, rfl, wi_wsX70, tyX7_ok, w_3, w_4, w_5, fun j hj => by rcases (show j = 0 ∨ j = 1 ∨ j = 2 ∨ j = 3 ∨ j = 4 ∨ j = 5 ∨ j = 6 ∨ j = 7 ∨ j = 8 ∨ j = 9 ∨ j = 10 ∨ j = 11 ∨ j = 12 ∨ j = 13 ∨ j = 14 ∨ j = 15 ∨ j = 16 ∨ j = 17 ∨ j = 18 ∨ j = 19 ∨ j = 20 ∨ j = 21 ∨ j = 22 ∨ j = 23 ∨ j = 24 ∨ j = 25 ∨ j = 26 ∨ j = 27 ∨ j = 28 ∨ j = 29 ∨ j = 30 ∨ j = 31 ∨ j = 32 ∨ j = 33 ∨ j = 34 ∨ j = 35 ∨ j = 36 ∨ j = 37 ∨ j = 38 ∨ j = 39 by omega) with rfl | rfl | rfl | rfl | rfl | rfl | rfl | rfl | rfl | rfl | rfl | rfl | rfl | rfl | rfl | rfl | rfl | rfl | rfl | rfl | rfl | rfl | rfl | rfl | rfl | rfl | rfl | rfl | rfl | rfl | rfl | rfl | rfl | rfl | rfl | rfl | rfl | rfl | rfl | rfl <;> rfl⟩
theorem n_L_8 : kx_New RL 8 6 8 [.null, .null, .null, .null, .null, .int 0, .null, .null] := ⟨RX6, TX6, tyX6, rfl, wi_wsX60, tyX6_ok, w_0, w_1, w_2, fun j hj => by rcases (show j = 0 ∨ j = 1 ∨ j = 2 ∨ j = 3 ∨ j = 4 ∨ j = 5 ∨ j = 6 ∨ j = 7 by omega) with rfl | rfl | rfl | rfl | rfl | rfl | rfl | rfl <;> rfl⟩
theorem c_L_100 : kx_MSW RL 100 yL_size cL_size 4 (some .int) [(0, 9, 12, 13)] 3 := ⟨w_418, w_419, w_152, w_420, by decide +kernel, by decide +kernel⟩
theorem c_L_103 : kx_MSW RL 103 yL_fault cL_fault 5 (some .int) [(0, 10, 13, 22), (0, 10, 17, 13)] 4 := ⟨w_453, w_454, w_152, w_455, by decide +kernel, by decide +kernel⟩
theorem c_L_107 : kx_MSW RL 107 yL_result cL_result 4 (some .int) [(0, 9, 12, 13)] 3 := ⟨w_479, w_480, w_152, w_481, by decide +kernel, by decide +kernel⟩
theorem c_L_114 : kx_MSW RL 114 yL_sent cL_sent 5 (some .int) [(0, 10, 13, 13)] 4 := ⟨w_725, w_726, w_152, w_727, by decide +kernel, by decide +kernel⟩
theorem c_L_117 : kx_MSW RL 117 yL_breaks cL_breaks 4 (some .int) [(0, 16, 19, 13)] 3 := ⟨w_737, w_738, w_152, w_739, by decide +kernel, by decide +kernel⟩
theorem c_L_124 : kx_MSW RL 124 yL_matters cL_matters 5 (some .int) [(0, 17, 20, 22), (0, 17, 24, 13)] 4 := ⟨w_778, w_779, w_152, w_780, by decide +kernel, by decide +kernel⟩
theorem c_L_127 : kx_MSW RL 127 yL_smallest cL_smallest 4 (some .int) [(0, 9, 12, 13)] 3 := ⟨w_800, w_801, w_152, w_802, by decide +kernel, by decide +kernel⟩
theorem c_L_130 : kx_MSW RL 130 yL_core cL_core 4 (some .int) [(0, 9, 12, 13)] 3 := ⟨w_834, w_835, w_152, w_836, by decide +kernel, by decide +kernel⟩
theorem c_L_133 : kx_MSW RL 133 yL_leastAmount cL_leastAmount 5 (some .int) [(0, 10, 13, 22), (0, 10, 17, 13)] 4 := ⟨w_845, w_846, w_152, w_847, by decide +kernel, by decide +kernel⟩
theorem c_L_136 : kx_MSW RL 136 yL_attack cL_attack 5 (some .int) [(0, 10, 13, 13)] 4 := ⟨w_868, w_869, w_152, w_870, by decide +kernel, by decide +kernel⟩
theorem c_L_139 : kx_MSW RL 139 yL_weakPoints cL_weakPoints 4 (some .int) [(0, 9, 12, 13)] 3 := ⟨w_911, w_912, w_152, w_913, by decide +kernel, by decide +kernel⟩
theorem c_L_142 : kx_MSW RL 142 yL_timerFor cL_timerFor 4 (some .int) [(0, 9, 12, 13)] 3 := ⟨w_922, w_923, w_152, w_924, by decide +kernel, by decide +kernel⟩
theorem c_L_149 : kx_MSW RL 149 yL_addFault cL_addFault 6 (some .int) [(0, 12, 15, 13), (0, 12, 19, 60)] 5 := ⟨w_944, w_945, w_152, w_946, by decide +kernel, by decide +kernel⟩
theorem c_L_153 : kx_MSW RL 153 yL_removeFault cL_removeFault 4 (some .int) [(0, 9, 12, 22)] 3 := ⟨w_971, w_972, w_152, w_973, by decide +kernel, by decide +kernel⟩
theorem c_L_160 : kx_MSW RL 160 yL_set cL_set 5 (some .int) [(0, 10, 13, 13)] 4 := ⟨w_994, w_995, w_152, w_996, by decide +kernel, by decide +kernel⟩
theorem c_L_163 : kx_MSW RL 163 yL_shrink cL_shrink 4 (some .int) [(0, 9, 12, 13), (0, 9, 15, 60)] 3 := ⟨w_1005, w_1006, w_152, w_1007, by decide +kernel, by decide +kernel⟩
theorem c_L_174 : kx_MSW RL 174 yL_saveSnapshot cL_saveSnapshot 4 (some .int) [(0, 16, 19, 22)] 3 := ⟨w_1041, w_1042, w_152, w_1043, by decide +kernel, by decide +kernel⟩
theorem c_L_177 : kx_MSW RL 177 yL_restoreSnapshot cL_restoreSnapshot 4 (some .int) [(0, 9, 12, 22), (0, 9, 15, 60)] 3 := ⟨w_1059, w_1060, w_152, w_1061, by decide +kernel, by decide +kernel⟩
theorem c_L_86 : kx_MSW RL 86 yL_parse cL_parse 4 (some .int) [(0, 9, 12, 13)] 3 := ⟨w_150, w_151, w_152, w_153, by decide +kernel, by decide +kernel⟩
theorem c_L_102 : kx_MV RL 102 yX7_size cX7_size 2 (some .int) 7 1 := ⟨rfl, w_445, w_446, w_447, w_5, w_448, by decide +kernel, by decide +kernel⟩
theorem c_L_106 : kx_MV RL 106 yX7_fault cX7_fault 3 (some .int) 7 2 := ⟨rfl, w_471, w_472, w_473, w_5, w_474, by decide +kernel, by decide +kernel⟩
theorem c_L_109 : kx_MV RL 109 yX7_result cX7_result 2 (some .int) 7 1 := ⟨rfl, w_647, w_648, w_649, w_5, w_650, by decide +kernel, by decide +kernel⟩
theorem c_L_110 : kx_MV RL 110 yX6_delivered cX6_delivered 2 (some .int) 6 1 := ⟨rfl, w_713, w_714, w_715, w_2, w_716, by decide +kernel, by decide +kernel⟩
theorem c_L_113 : kx_MV RL 113 yX7_delivered cX7_delivered 2 (some .int) 7 1 := ⟨rfl, w_721, w_722, w_723, w_5, w_724, by decide +kernel, by decide +kernel⟩
theorem c_L_116 : kx_MV RL 116 yX7_sent cX7_sent 3 (some .int) 7 2 := ⟨rfl, w_733, w_734, w_735, w_5, w_736, by decide +kernel, by decide +kernel⟩
theorem c_L_119 : kx_MV RL 119 yX7_breaks cX7_breaks 2 (some .boolean) 7 1 := ⟨rfl, w_751, w_752, w_753, w_5, w_754, by decide +kernel, by decide +kernel⟩
theorem c_L_120 : kx_MV RL 120 yX6_reaches cX6_reaches 3 (some .boolean) 6 2 := ⟨rfl, w_763, w_764, w_765, w_2, w_766, by decide +kernel, by decide +kernel⟩
theorem c_L_123 : kx_MV RL 123 yX7_reaches cX7_reaches 3 (some .boolean) 7 2 := ⟨rfl, w_771, w_772, w_773, w_5, w_774, by decide +kernel, by decide +kernel⟩
theorem c_L_126 : kx_MV RL 126 yX7_matters cX7_matters 3 (some .boolean) 7 2 := ⟨rfl, w_789, w_790, w_791, w_5, w_792, by decide +kernel, by decide +kernel⟩
theorem c_L_129 : kx_MV RL 129 yX7_smallest cX7_smallest 3 (some .int) 7 1 := ⟨rfl, w_816, w_817, w_818, w_5, w_819, by decide +kernel, by decide +kernel⟩
theorem c_L_132 : kx_MV RL 132 yX7_core cX7_core 2 (some .int) 7 1 := ⟨rfl, w_841, w_842, w_843, w_5, w_844, by decide +kernel, by decide +kernel⟩
theorem c_L_135 : kx_MV RL 135 yX7_leastAmount cX7_leastAmount 3 (some .int) 7 2 := ⟨rfl, w_860, w_861, w_862, w_5, w_863, by decide +kernel, by decide +kernel⟩
theorem c_L_138 : kx_MV RL 138 yX7_attack cX7_attack 3 (some .int) 7 2 := ⟨rfl, w_888, w_889, w_890, w_5, w_891, by decide +kernel, by decide +kernel⟩
theorem c_L_141 : kx_MV RL 141 yX7_weakPoints cX7_weakPoints 4 (some .int) 7 1 := ⟨rfl, w_918, w_919, w_920, w_5, w_921, by decide +kernel, by decide +kernel⟩
theorem c_L_144 : kx_MV RL 144 yX7_timerFor cX7_timerFor 3 (some .int) 7 1 := ⟨rfl, w_932, w_933, w_934, w_5, w_935, by decide +kernel, by decide +kernel⟩
theorem c_L_145 : kx_MV RL 145 yX6_isRecorded cX6_isRecorded 3 (some .boolean) 6 2 := ⟨rfl, w_936, w_937, w_938, w_2, w_939, by decide +kernel, by decide +kernel⟩
theorem c_L_148 : kx_MV RL 148 yX7_isRecorded cX7_isRecorded 3 (some .boolean) 7 2 := ⟨rfl, w_940, w_941, w_942, w_5, w_943, by decide +kernel, by decide +kernel⟩
theorem c_L_152 : kx_MV RL 152 yX7_addFault cX7_addFault 5 (some .int) 7 3 := ⟨rfl, w_963, w_964, w_965, w_5, w_966, by decide +kernel, by decide +kernel⟩
theorem c_L_155 : kx_MV RL 155 yX7_removeFault cX7_removeFault 2 (some .int) 7 1 := ⟨rfl, w_978, w_979, w_980, w_5, w_981, by decide +kernel, by decide +kernel⟩
theorem c_L_156 : kx_MV RL 156 yX6_clearFaults cX6_clearFaults 2 (some .int) 6 0 := ⟨rfl, w_982, w_983, w_984, w_2, w_985, by decide +kernel, by decide +kernel⟩
theorem c_L_159 : kx_MV RL 159 yX7_clearFaults cX7_clearFaults 2 (some .int) 7 0 := ⟨rfl, w_990, w_991, w_992, w_5, w_993, by decide +kernel, by decide +kernel⟩
theorem c_L_162 : kx_MV RL 162 yX7_set cX7_set 4 (some .int) 7 2 := ⟨rfl, w_1001, w_1002, w_1003, w_5, w_1004, by decide +kernel, by decide +kernel⟩
theorem c_L_165 : kx_MV RL 165 yX7_shrink cX7_shrink 5 (some .int) 7 1 := ⟨rfl, w_1016, w_1017, w_1018, w_5, w_1019, by decide +kernel, by decide +kernel⟩
theorem c_L_166 : kx_MV RL 166 yX6_record cX6_record 1 (some .int) 6 0 := ⟨rfl, w_1020, w_1021, w_1022, w_2, w_1023, by decide +kernel, by decide +kernel⟩
theorem c_L_169 : kx_MV RL 169 yX7_record cX7_record 3 (some .int) 7 0 := ⟨rfl, w_1029, w_1030, w_1031, w_5, w_1032, by decide +kernel, by decide +kernel⟩
theorem c_L_170 : kx_MV RL 170 yX6_undo cX6_undo 2 (some .int) 6 0 := ⟨rfl, w_1033, w_1034, w_1035, w_2, w_1036, by decide +kernel, by decide +kernel⟩
theorem c_L_173 : kx_MV RL 173 yX7_undo cX7_undo 1 (some .int) 7 0 := ⟨rfl, w_1037, w_1038, w_1039, w_5, w_1040, by decide +kernel, by decide +kernel⟩
theorem c_L_176 : kx_MV RL 176 yX7_saveSnapshot cX7_saveSnapshot 3 (some .boolean) 7 1 := ⟨rfl, w_1051, w_1052, w_1053, w_5, w_1054, by decide +kernel, by decide +kernel⟩
theorem c_L_179 : kx_MV RL 179 yX7_restoreSnapshot cX7_restoreSnapshot 2 (some .int) 7 1 := ⟨rfl, w_1066, w_1067, w_1068, w_5, w_1069, by decide +kernel, by decide +kernel⟩
theorem c_L_81 : kx_MV RL 81 yX6_append cX6_append 6 (some .int) 6 5 := ⟨rfl, w_127, w_128, w_129, w_2, w_130, by decide +kernel, by decide +kernel⟩
theorem c_L_85 : kx_MV RL 85 yX7_append cX7_append 6 (some .int) 7 5 := ⟨rfl, w_140, w_141, w_142, w_5, w_143, by decide +kernel, by decide +kernel⟩
theorem c_L_91 : kx_MV RL 91 yX7_parse cX7_parse 3 (some .int) 7 1 := ⟨rfl, w_314, w_315, w_316, w_5, w_317, by decide +kernel, by decide +kernel⟩
theorem c_L_92 : kx_MV RL 92 yX7_thrown cX7_thrown 1 (some .int) 7 0 := ⟨rfl, w_402, w_403, w_404, w_5, w_405, by decide +kernel, by decide +kernel⟩
theorem c_L_96 : kx_MV RL 96 yX6_errorPosition cX6_errorPosition 1 (some .int) 6 0 := ⟨rfl, w_406, w_407, w_408, w_2, w_409, by decide +kernel, by decide +kernel⟩
theorem c_L_99 : kx_MV RL 99 yX7_errorPosition cX7_errorPosition 1 (some .int) 7 0 := ⟨rfl, w_414, w_415, w_416, w_5, w_417, by decide +kernel, by decide +kernel⟩
def m_L_parse (σ : ac_H) (a0 : Nat) (a1 : Int32) (a2 : Nat) : Option (Int32 × ac_H) :=
  mo_xh σ a0 6 (m_X6_parse σ a0 a1) (fun E σ8 =>
  if E = "java/lang/IllegalArgumentException" then
  (some ((1 : Int32), σ8))
  else
  (none)) fun x2 σ1 =>
  mo_ul σ1 a2 (0 : Int32) ((x2).toInt64) fun σ3 =>
  some ((0 : Int32), σ3)
set_option maxRecDepth 100000 in
set_option maxHeartbeats 4000000 in
theorem k_L_parse {Λ : ex_L} {q : Nat} {σ σ' : ac_H} {a0 : Nat} {a1 : Int32} {a2 : Nat} {v : Int32} (hf : m_L_parse σ a0 a1 a2 = some (v, σ')) : kx_C Λ yL_parse (.codeWith yL_parse cL_parse 4 (some .int) [(0, 9, 12, 13)]) ({ frames := 10, cells := 1, slots := 6, locals := 217 } : Room) [.ref a0, .int a1, .ref a2] q σ (.inr (some (.int v))) σ' (fun z => q ≤ z) := by
  refine kx_inH (by decide +kernel) (Nat.le_of_ble_eq_true rfl) ?_
  intro Γ K hsz hQ
  refine kx_lv (lv' := [(0, .ref a0), (1, .int a1), (2, .ref a2)]) rfl ?_
  refine kx_N (M := fun z => q ≤ z) (fun _ h => Nat.le_of_eq h.symm) ?_
  unfold m_L_parse at hf
  refine kx_aload_n K dL_parse_0 rfl 2 rfl ?_
  refine kx_iconst (v := 0) K dL_parse_1 (by decide) ?_
  refine kx_aload_n K dL_parse_2 rfl 0 rfl ?_
  refine kx_iload_n K dL_parse_3 rfl 1 rfl ?_
  refine kx_xh (As := [.int a1]) (k' := 1) (n' := 6) K c_L_7 (by decide) rfl rfl (Nat.le_of_ble_eq_true rfl) dL_parse_4 (fun _ _ h1 h2 => Nat.le_trans h1 h2) hf (fun _ _ _ h => k_X6_parse h) ?_ (fun x2 σ1 hf => ?_)
  · intro E σ8 hf
    split at hf
    · rename_i hE; subst hE
      refine kx_h1 K rfl (by decide) w_154 0 (by decide) rfl (fun q9 => ?_)
      refine kx_astore_n K [(3, .ref q9), (0, .ref a0), (1, .int a1), (2, .ref a2)] dL_parse_12 rfl (by decide) rfl ?_
      refine kx_iconst (v := 1) K dL_parse_13 (by decide) ?_
      exact kx_iret K hQ (by decide) (by decide) (fun _ h => h) dL_parse_14 hf
    · cases hf
  · refine kx_i2l K dL_parse_7 ?_
    refine kx_ul K dL_parse_8 hf (fun σ3 hf => ?_)
    refine kx_goto K 15 dL_parse_9 (by decide) ?_
    refine kx_iconst (v := 0) K dL_parse_15 (by decide) ?_
    exact kx_iret K hQ (by decide) (by decide) (fun _ h => h) dL_parse_16 hf
def m_L_size (σ : ac_H) (a0 : Nat) (a1 : Int32) (a2 : Nat) : Option (Int32 × ac_H) :=
  mo_xh σ a0 6 (m_X6_size σ a0 a1) (fun E σ8 =>
  if E = "java/lang/IllegalArgumentException" then
  (some ((1 : Int32), σ8))
  else
  (none)) fun x2 σ1 =>
  mo_ul σ1 a2 (0 : Int32) ((x2).toInt64) fun σ3 =>
  some ((0 : Int32), σ3)
set_option maxRecDepth 100000 in
set_option maxHeartbeats 4000000 in
theorem k_L_size {Λ : ex_L} {q : Nat} {σ σ' : ac_H} {a0 : Nat} {a1 : Int32} {a2 : Nat} {v : Int32} (hf : m_L_size σ a0 a1 a2 = some (v, σ')) : kx_C Λ yL_size (.codeWith yL_size cL_size 4 (some .int) [(0, 9, 12, 13)]) ({ frames := 7, cells := 1, slots := 6, locals := 111 } : Room) [.ref a0, .int a1, .ref a2] q σ (.inr (some (.int v))) σ' (fun z => q ≤ z) := by
  refine kx_inH (by decide +kernel) (Nat.le_of_ble_eq_true rfl) ?_
  intro Γ K hsz hQ
  refine kx_lv (lv' := [(0, .ref a0), (1, .int a1), (2, .ref a2)]) rfl ?_
  refine kx_N (M := fun z => q ≤ z) (fun _ h => Nat.le_of_eq h.symm) ?_
  unfold m_L_size at hf
  refine kx_aload_n K dL_size_0 rfl 2 rfl ?_
  refine kx_iconst (v := 0) K dL_size_1 (by decide) ?_
  refine kx_aload_n K dL_size_2 rfl 0 rfl ?_
  refine kx_iload_n K dL_size_3 rfl 1 rfl ?_
  refine kx_xh (As := [.int a1]) (k' := 1) (n' := 6) K c_L_15 (by decide) rfl rfl (Nat.le_of_ble_eq_true rfl) dL_size_4 (fun _ _ h1 h2 => Nat.le_trans h1 h2) hf (fun _ _ _ h => k_X6_size h) ?_ (fun x2 σ1 hf => ?_)
  · intro E σ8 hf
    split at hf
    · rename_i hE; subst hE
      refine kx_h1 K rfl (by decide) w_154 0 (by decide) rfl (fun q9 => ?_)
      refine kx_astore_n K [(3, .ref q9), (0, .ref a0), (1, .int a1), (2, .ref a2)] dL_size_12 rfl (by decide) rfl ?_
      refine kx_iconst (v := 1) K dL_size_13 (by decide) ?_
      exact kx_iret K hQ (by decide) (by decide) (fun _ h => h) dL_size_14 hf
    · cases hf
  · refine kx_i2l K dL_size_7 ?_
    refine kx_ul K dL_size_8 hf (fun σ3 hf => ?_)
    refine kx_goto K 15 dL_size_9 (by decide) ?_
    refine kx_iconst (v := 0) K dL_size_15 (by decide) ?_
    exact kx_iret K hQ (by decide) (by decide) (fun _ h => h) dL_size_16 hf
def m_L_fault (σ : ac_H) (a0 : Nat) (a1 : Int32) (a2 : Int32) (a3 : Nat) : Option (Int32 × ac_H) :=
  mo_xh σ a0 6 (m_X6_fault σ a0 a1 a2) (fun E σ8 =>
  if E = "java/lang/IndexOutOfBoundsException" then
  (some ((1 : Int32), σ8))
  else
  (if E = "java/lang/IllegalArgumentException" then
  (some ((2 : Int32), σ8))
  else
  (none))) fun x2 σ1 =>
  mo_ul σ1 a3 (0 : Int32) ((x2).toInt64) fun σ3 =>
  some ((0 : Int32), σ3)
set_option maxRecDepth 100000 in
set_option maxHeartbeats 4000000 in
theorem k_L_fault {Λ : ex_L} {q : Nat} {σ σ' : ac_H} {a0 : Nat} {a1 : Int32} {a2 : Int32} {a3 : Nat} {v : Int32} (hf : m_L_fault σ a0 a1 a2 a3 = some (v, σ')) : kx_C Λ yL_fault (.codeWith yL_fault cL_fault 5 (some .int) [(0, 10, 13, 22), (0, 10, 17, 13)]) ({ frames := 8, cells := 2, slots := 12, locals := 133 } : Room) [.ref a0, .int a1, .int a2, .ref a3] q σ (.inr (some (.int v))) σ' (fun z => q ≤ z) := by
  refine kx_inH (by decide +kernel) (Nat.le_of_ble_eq_true rfl) ?_
  intro Γ K hsz hQ
  refine kx_lv (lv' := [(0, .ref a0), (1, .int a1), (2, .int a2), (3, .ref a3)]) rfl ?_
  refine kx_N (M := fun z => q ≤ z) (fun _ h => Nat.le_of_eq h.symm) ?_
  unfold m_L_fault at hf
  refine kx_aload_n K dL_fault_0 rfl 3 rfl ?_
  refine kx_iconst (v := 0) K dL_fault_1 (by decide) ?_
  refine kx_aload_n K dL_fault_2 rfl 0 rfl ?_
  refine kx_iload_n K dL_fault_3 rfl 1 rfl ?_
  refine kx_iload_n K dL_fault_4 rfl 2 rfl ?_
  refine kx_xh (As := [.int a1, .int a2]) (k' := 2) (n' := 12) K c_L_18 (by decide) rfl rfl (Nat.le_of_ble_eq_true rfl) dL_fault_5 (fun _ _ h1 h2 => Nat.le_trans h1 h2) hf (fun _ _ _ h => k_X6_fault h) ?_ (fun x2 σ1 hf => ?_)
  · intro E σ8 hf
    split at hf
    · rename_i hE; subst hE
      refine kx_h1 K rfl (by decide) w_456 2 (by decide) rfl (fun q9 => ?_)
      refine kx_astore K [(4, .ref q9), (0, .ref a0), (1, .int a1), (2, .int a2), (3, .ref a3)] dL_fault_13 (by decide) rfl ?_
      refine kx_iconst (v := 1) K dL_fault_15 (by decide) ?_
      exact kx_iret K hQ (by decide) (by decide) (fun _ h => h) dL_fault_16 hf
    · skip
      split at hf
      · rename_i hE; subst hE
        refine kx_h2 K (by decide) w_456 K.2.2.2.2.2.1.1.2.2.2.2.2.2.2.2.2.1 rfl (by decide) w_154 0 (by decide) rfl (fun q9 => ?_)
        refine kx_astore K [(4, .ref q9), (0, .ref a0), (1, .int a1), (2, .int a2), (3, .ref a3)] dL_fault_17 (by decide) rfl ?_
        refine kx_iconst (v := 2) K dL_fault_19 (by decide) ?_
        exact kx_iret K hQ (by decide) (by decide) (fun _ h => h) dL_fault_20 hf
      · cases hf
  · refine kx_i2l K dL_fault_8 ?_
    refine kx_ul K dL_fault_9 hf (fun σ3 hf => ?_)
    refine kx_goto K 21 dL_fault_10 (by decide) ?_
    refine kx_iconst (v := 0) K dL_fault_21 (by decide) ?_
    exact kx_iret K hQ (by decide) (by decide) (fun _ h => h) dL_fault_22 hf
def m_L_result (σ : ac_H) (a0 : Nat) (a1 : Int32) (a2 : Nat) : Option (Int32 × ac_H) :=
  mo_xh σ a0 6 (m_X6_result σ a0 a1) (fun E σ8 =>
  if E = "java/lang/IllegalArgumentException" then
  (some ((1 : Int32), σ8))
  else
  (none)) fun x2 σ1 =>
  mo_ul σ1 a2 (0 : Int32) ((x2).toInt64) fun σ3 =>
  some ((0 : Int32), σ3)
set_option maxRecDepth 100000 in
set_option maxHeartbeats 4000000 in
theorem k_L_result {Λ : ex_L} {q : Nat} {σ σ' : ac_H} {a0 : Nat} {a1 : Int32} {a2 : Nat} {v : Int32} (hf : m_L_result σ a0 a1 a2 = some (v, σ')) : kx_C Λ yL_result (.codeWith yL_result cL_result 4 (some .int) [(0, 9, 12, 13)]) ({ frames := 7, cells := 1, slots := 6, locals := 123 } : Room) [.ref a0, .int a1, .ref a2] q σ (.inr (some (.int v))) σ' (fun z => q ≤ z) := by
  refine kx_inH (by decide +kernel) (Nat.le_of_ble_eq_true rfl) ?_
  intro Γ K hsz hQ
  refine kx_lv (lv' := [(0, .ref a0), (1, .int a1), (2, .ref a2)]) rfl ?_
  refine kx_N (M := fun z => q ≤ z) (fun _ h => Nat.le_of_eq h.symm) ?_
  unfold m_L_result at hf
  refine kx_aload_n K dL_result_0 rfl 2 rfl ?_
  refine kx_iconst (v := 0) K dL_result_1 (by decide) ?_
  refine kx_aload_n K dL_result_2 rfl 0 rfl ?_
  refine kx_iload_n K dL_result_3 rfl 1 rfl ?_
  refine kx_xh (As := [.int a1]) (k' := 1) (n' := 6) K c_L_24 (by decide) rfl rfl (Nat.le_of_ble_eq_true rfl) dL_result_4 (fun _ _ h1 h2 => Nat.le_trans h1 h2) hf (fun _ _ _ h => k_X6_result h) ?_ (fun x2 σ1 hf => ?_)
  · intro E σ8 hf
    split at hf
    · rename_i hE; subst hE
      refine kx_h1 K rfl (by decide) w_154 0 (by decide) rfl (fun q9 => ?_)
      refine kx_astore_n K [(3, .ref q9), (0, .ref a0), (1, .int a1), (2, .ref a2)] dL_result_12 rfl (by decide) rfl ?_
      refine kx_iconst (v := 1) K dL_result_13 (by decide) ?_
      exact kx_iret K hQ (by decide) (by decide) (fun _ h => h) dL_result_14 hf
    · cases hf
  · refine kx_i2l K dL_result_7 ?_
    refine kx_ul K dL_result_8 hf (fun σ3 hf => ?_)
    refine kx_goto K 15 dL_result_9 (by decide) ?_
    refine kx_iconst (v := 0) K dL_result_15 (by decide) ?_
    exact kx_iret K hQ (by decide) (by decide) (fun _ h => h) dL_result_16 hf
def m_L_sent (σ : ac_H) (a0 : Nat) (a1 : Int32) (a2 : Int32) (a3 : Nat) : Option (Int32 × ac_H) :=
  mo_xh σ a0 6 (m_X6_sent σ a0 a1 a2) (fun E σ8 =>
  if E = "java/lang/IllegalArgumentException" then
  (some ((1 : Int32), σ8))
  else
  (none)) fun x2 σ1 =>
  mo_ul σ1 a3 (0 : Int32) ((x2).toInt64) fun σ3 =>
  some ((0 : Int32), σ3)
set_option maxRecDepth 100000 in
set_option maxHeartbeats 4000000 in
theorem k_L_sent {Λ : ex_L} {q : Nat} {σ σ' : ac_H} {a0 : Nat} {a1 : Int32} {a2 : Int32} {a3 : Nat} {v : Int32} (hf : m_L_sent σ a0 a1 a2 a3 = some (v, σ')) : kx_C Λ yL_sent (.codeWith yL_sent cL_sent 5 (some .int) [(0, 10, 13, 13)]) ({ frames := 7, cells := 1, slots := 6, locals := 123 } : Room) [.ref a0, .int a1, .int a2, .ref a3] q σ (.inr (some (.int v))) σ' (fun z => q ≤ z) := by
  refine kx_inH (by decide +kernel) (Nat.le_of_ble_eq_true rfl) ?_
  intro Γ K hsz hQ
  refine kx_lv (lv' := [(0, .ref a0), (1, .int a1), (2, .int a2), (3, .ref a3)]) rfl ?_
  refine kx_N (M := fun z => q ≤ z) (fun _ h => Nat.le_of_eq h.symm) ?_
  unfold m_L_sent at hf
  refine kx_aload_n K dL_sent_0 rfl 3 rfl ?_
  refine kx_iconst (v := 0) K dL_sent_1 (by decide) ?_
  refine kx_aload_n K dL_sent_2 rfl 0 rfl ?_
  refine kx_iload_n K dL_sent_3 rfl 1 rfl ?_
  refine kx_iload_n K dL_sent_4 rfl 2 rfl ?_
  refine kx_xh (As := [.int a1, .int a2]) (k' := 1) (n' := 6) K c_L_27 (by decide) rfl rfl (Nat.le_of_ble_eq_true rfl) dL_sent_5 (fun _ _ h1 h2 => Nat.le_trans h1 h2) hf (fun _ _ _ h => k_X6_sent h) ?_ (fun x2 σ1 hf => ?_)
  · intro E σ8 hf
    split at hf
    · rename_i hE; subst hE
      refine kx_h1 K rfl (by decide) w_154 0 (by decide) rfl (fun q9 => ?_)
      refine kx_astore K [(4, .ref q9), (0, .ref a0), (1, .int a1), (2, .int a2), (3, .ref a3)] dL_sent_13 (by decide) rfl ?_
      refine kx_iconst (v := 1) K dL_sent_15 (by decide) ?_
      exact kx_iret K hQ (by decide) (by decide) (fun _ h => h) dL_sent_16 hf
    · cases hf
  · refine kx_i2l K dL_sent_8 ?_
    refine kx_ul K dL_sent_9 hf (fun σ3 hf => ?_)
    refine kx_goto K 17 dL_sent_10 (by decide) ?_
    refine kx_iconst (v := 0) K dL_sent_17 (by decide) ?_
    exact kx_iret K hQ (by decide) (by decide) (fun _ h => h) dL_sent_18 hf
def m_L_breaks (σ : ac_H) (a0 : Nat) (a1 : Int32) (a2 : Nat) : Option (Int32 × ac_H) :=
  mo_xh σ a0 6 (m_X6_breaks σ a0 a1) (fun E σ8 =>
  if E = "java/lang/IllegalArgumentException" then
  (some ((1 : Int32), σ8))
  else
  (none)) fun x2 σ1 =>
  if x2 = 0 then
  (mo_ul σ1 a2 (0 : Int32) (0 : Int64) fun σ3 =>
  some ((0 : Int32), σ3))
  else
  (mo_ul σ1 a2 (0 : Int32) (1 : Int64) fun σ4 =>
  some ((0 : Int32), σ4))
set_option maxRecDepth 100000 in
set_option maxHeartbeats 4000000 in
theorem k_L_breaks {Λ : ex_L} {q : Nat} {σ σ' : ac_H} {a0 : Nat} {a1 : Int32} {a2 : Nat} {v : Int32} (hf : m_L_breaks σ a0 a1 a2 = some (v, σ')) : kx_C Λ yL_breaks (.codeWith yL_breaks cL_breaks 4 (some .int) [(0, 16, 19, 13)]) ({ frames := 8, cells := 1, slots := 6, locals := 144 } : Room) [.ref a0, .int a1, .ref a2] q σ (.inr (some (.int v))) σ' (fun z => q ≤ z) := by
  refine kx_inH (by decide +kernel) (Nat.le_of_ble_eq_true rfl) ?_
  intro Γ K hsz hQ
  refine kx_lv (lv' := [(0, .ref a0), (1, .int a1), (2, .ref a2)]) rfl ?_
  refine kx_N (M := fun z => q ≤ z) (fun _ h => Nat.le_of_eq h.symm) ?_
  unfold m_L_breaks at hf
  refine kx_aload_n K dL_breaks_0 rfl 2 rfl ?_
  refine kx_iconst (v := 0) K dL_breaks_1 (by decide) ?_
  refine kx_aload_n K dL_breaks_2 rfl 0 rfl ?_
  refine kx_iload_n K dL_breaks_3 rfl 1 rfl ?_
  refine kx_xh (As := [.int a1]) (k' := 1) (n' := 6) K c_L_30 (by decide) rfl rfl (Nat.le_of_ble_eq_true rfl) dL_breaks_4 (fun _ _ h1 h2 => Nat.le_trans h1 h2) hf (fun _ _ _ h => k_X6_breaks h) ?_ (fun x2 σ1 hf => ?_)
  · intro E σ8 hf
    split at hf
    · rename_i hE; subst hE
      refine kx_h1 K rfl (by decide) w_154 0 (by decide) rfl (fun q9 => ?_)
      refine kx_astore_n K [(3, .ref q9), (0, .ref a0), (1, .int a1), (2, .ref a2)] dL_breaks_19 rfl (by decide) rfl ?_
      refine kx_iconst (v := 1) K dL_breaks_20 (by decide) ?_
      exact kx_iret K hQ (by decide) (by decide) (fun _ h => h) dL_breaks_21 hf
    · cases hf
  · refine kx_if_eq K 14 hf dL_breaks_7 (by decide) (fun hf => ?_) (fun hf => ?_)
    · refine kx_lconst (v := 0) K dL_breaks_14 (by decide) ?_
      refine kx_ul K dL_breaks_15 hf (fun σ3 hf => ?_)
      refine kx_goto K 22 dL_breaks_16 (by decide) ?_
      refine kx_iconst (v := 0) K dL_breaks_22 (by decide) ?_
      exact kx_iret K hQ (by decide) (by decide) (fun _ h => h) dL_breaks_23 hf
    · refine kx_lconst (v := 1) K dL_breaks_10 (by decide) ?_
      refine kx_goto K 15 dL_breaks_11 (by decide) ?_
      refine kx_ul K dL_breaks_15 hf (fun σ4 hf => ?_)
      refine kx_goto K 22 dL_breaks_16 (by decide) ?_
      refine kx_iconst (v := 0) K dL_breaks_22 (by decide) ?_
      exact kx_iret K hQ (by decide) (by decide) (fun _ h => h) dL_breaks_23 hf
def m_L_matters (σ : ac_H) (a0 : Nat) (a1 : Int32) (a2 : Int32) (a3 : Nat) : Option (Int32 × ac_H) :=
  mo_xh σ a0 6 (m_X6_matters σ a0 a1 a2) (fun E σ8 =>
  if E = "java/lang/IndexOutOfBoundsException" then
  (some ((1 : Int32), σ8))
  else
  (if E = "java/lang/IllegalArgumentException" then
  (some ((2 : Int32), σ8))
  else
  (none))) fun x2 σ1 =>
  if x2 = 0 then
  (mo_ul σ1 a3 (0 : Int32) (0 : Int64) fun σ3 =>
  some ((0 : Int32), σ3))
  else
  (mo_ul σ1 a3 (0 : Int32) (1 : Int64) fun σ4 =>
  some ((0 : Int32), σ4))
set_option maxRecDepth 100000 in
set_option maxHeartbeats 4000000 in
theorem k_L_matters {Λ : ex_L} {q : Nat} {σ σ' : ac_H} {a0 : Nat} {a1 : Int32} {a2 : Int32} {a3 : Nat} {v : Int32} (hf : m_L_matters σ a0 a1 a2 a3 = some (v, σ')) : kx_C Λ yL_matters (.codeWith yL_matters cL_matters 5 (some .int) [(0, 17, 20, 22), (0, 17, 24, 13)]) ({ frames := 8, cells := 2, slots := 12, locals := 145 } : Room) [.ref a0, .int a1, .int a2, .ref a3] q σ (.inr (some (.int v))) σ' (fun z => q ≤ z) := by
  refine kx_inH (by decide +kernel) (Nat.le_of_ble_eq_true rfl) ?_
  intro Γ K hsz hQ
  refine kx_lv (lv' := [(0, .ref a0), (1, .int a1), (2, .int a2), (3, .ref a3)]) rfl ?_
  refine kx_N (M := fun z => q ≤ z) (fun _ h => Nat.le_of_eq h.symm) ?_
  unfold m_L_matters at hf
  refine kx_aload_n K dL_matters_0 rfl 3 rfl ?_
  refine kx_iconst (v := 0) K dL_matters_1 (by decide) ?_
  refine kx_aload_n K dL_matters_2 rfl 0 rfl ?_
  refine kx_iload_n K dL_matters_3 rfl 1 rfl ?_
  refine kx_iload_n K dL_matters_4 rfl 2 rfl ?_
  refine kx_xh (As := [.int a1, .int a2]) (k' := 2) (n' := 12) K c_L_34 (by decide) rfl rfl (Nat.le_of_ble_eq_true rfl) dL_matters_5 (fun _ _ h1 h2 => Nat.le_trans h1 h2) hf (fun _ _ _ h => k_X6_matters h) ?_ (fun x2 σ1 hf => ?_)
  · intro E σ8 hf
    split at hf
    · rename_i hE; subst hE
      refine kx_h1 K rfl (by decide) w_456 2 (by decide) rfl (fun q9 => ?_)
      refine kx_astore K [(4, .ref q9), (0, .ref a0), (1, .int a1), (2, .int a2), (3, .ref a3)] dL_matters_20 (by decide) rfl ?_
      refine kx_iconst (v := 1) K dL_matters_22 (by decide) ?_
      exact kx_iret K hQ (by decide) (by decide) (fun _ h => h) dL_matters_23 hf
    · skip
      split at hf
      · rename_i hE; subst hE
        refine kx_h2 K (by decide) w_456 K.2.2.2.2.2.1.1.2.2.2.2.2.2.2.2.2.1 rfl (by decide) w_154 0 (by decide) rfl (fun q9 => ?_)
        refine kx_astore K [(4, .ref q9), (0, .ref a0), (1, .int a1), (2, .int a2), (3, .ref a3)] dL_matters_24 (by decide) rfl ?_
        refine kx_iconst (v := 2) K dL_matters_26 (by decide) ?_
        exact kx_iret K hQ (by decide) (by decide) (fun _ h => h) dL_matters_27 hf
      · cases hf
  · refine kx_if_eq K 15 hf dL_matters_8 (by decide) (fun hf => ?_) (fun hf => ?_)
    · refine kx_lconst (v := 0) K dL_matters_15 (by decide) ?_
      refine kx_ul K dL_matters_16 hf (fun σ3 hf => ?_)
      refine kx_goto K 28 dL_matters_17 (by decide) ?_
      refine kx_iconst (v := 0) K dL_matters_28 (by decide) ?_
      exact kx_iret K hQ (by decide) (by decide) (fun _ h => h) dL_matters_29 hf
    · refine kx_lconst (v := 1) K dL_matters_11 (by decide) ?_
      refine kx_goto K 16 dL_matters_12 (by decide) ?_
      refine kx_ul K dL_matters_16 hf (fun σ4 hf => ?_)
      refine kx_goto K 28 dL_matters_17 (by decide) ?_
      refine kx_iconst (v := 0) K dL_matters_28 (by decide) ?_
      exact kx_iret K hQ (by decide) (by decide) (fun _ h => h) dL_matters_29 hf
def m_L_smallest (σ : ac_H) (a0 : Nat) (a1 : Int32) (a2 : Nat) : Option (Int32 × ac_H) :=
  mo_xh σ a0 6 (m_X6_smallest σ a0 a1) (fun E σ8 =>
  if E = "java/lang/IllegalArgumentException" then
  (some ((1 : Int32), σ8))
  else
  (none)) fun x2 σ1 =>
  mo_ul σ1 a2 (0 : Int32) ((x2).toInt64) fun σ3 =>
  some ((0 : Int32), σ3)
set_option maxRecDepth 100000 in
set_option maxHeartbeats 4000000 in
theorem k_L_smallest {Λ : ex_L} {q : Nat} {σ σ' : ac_H} {a0 : Nat} {a1 : Int32} {a2 : Nat} {v : Int32} (hf : m_L_smallest σ a0 a1 a2 = some (v, σ')) : kx_C Λ yL_smallest (.codeWith yL_smallest cL_smallest 4 (some .int) [(0, 9, 12, 13)]) ({ frames := 8, cells := 1, slots := 6, locals := 171 } : Room) [.ref a0, .int a1, .ref a2] q σ (.inr (some (.int v))) σ' (fun z => q ≤ z) := by
  refine kx_inH (by decide +kernel) (Nat.le_of_ble_eq_true rfl) ?_
  intro Γ K hsz hQ
  refine kx_lv (lv' := [(0, .ref a0), (1, .int a1), (2, .ref a2)]) rfl ?_
  refine kx_N (M := fun z => q ≤ z) (fun _ h => Nat.le_of_eq h.symm) ?_
  unfold m_L_smallest at hf
  refine kx_aload_n K dL_smallest_0 rfl 2 rfl ?_
  refine kx_iconst (v := 0) K dL_smallest_1 (by decide) ?_
  refine kx_aload_n K dL_smallest_2 rfl 0 rfl ?_
  refine kx_iload_n K dL_smallest_3 rfl 1 rfl ?_
  refine kx_xh (As := [.int a1]) (k' := 1) (n' := 6) K c_L_38 (by decide) rfl rfl (Nat.le_of_ble_eq_true rfl) dL_smallest_4 (fun _ _ h1 h2 => Nat.le_trans h1 h2) hf (fun _ _ _ h => k_X6_smallest h) ?_ (fun x2 σ1 hf => ?_)
  · intro E σ8 hf
    split at hf
    · rename_i hE; subst hE
      refine kx_h1 K rfl (by decide) w_154 0 (by decide) rfl (fun q9 => ?_)
      refine kx_astore_n K [(3, .ref q9), (0, .ref a0), (1, .int a1), (2, .ref a2)] dL_smallest_12 rfl (by decide) rfl ?_
      refine kx_iconst (v := 1) K dL_smallest_13 (by decide) ?_
      exact kx_iret K hQ (by decide) (by decide) (fun _ h => h) dL_smallest_14 hf
    · cases hf
  · refine kx_i2l K dL_smallest_7 ?_
    refine kx_ul K dL_smallest_8 hf (fun σ3 hf => ?_)
    refine kx_goto K 15 dL_smallest_9 (by decide) ?_
    refine kx_iconst (v := 0) K dL_smallest_15 (by decide) ?_
    exact kx_iret K hQ (by decide) (by decide) (fun _ h => h) dL_smallest_16 hf
def m_L_core (σ : ac_H) (a0 : Nat) (a1 : Int32) (a2 : Nat) : Option (Int32 × ac_H) :=
  mo_xh σ a0 6 (m_X6_core σ a0 a1) (fun E σ8 =>
  if E = "java/lang/IllegalArgumentException" then
  (some ((1 : Int32), σ8))
  else
  (none)) fun x2 σ1 =>
  mo_ul σ1 a2 (0 : Int32) ((x2).toInt64) fun σ3 =>
  some ((0 : Int32), σ3)
set_option maxRecDepth 100000 in
set_option maxHeartbeats 4000000 in
theorem k_L_core {Λ : ex_L} {q : Nat} {σ σ' : ac_H} {a0 : Nat} {a1 : Int32} {a2 : Nat} {v : Int32} (hf : m_L_core σ a0 a1 a2 = some (v, σ')) : kx_C Λ yL_core (.codeWith yL_core cL_core 4 (some .int) [(0, 9, 12, 13)]) ({ frames := 8, cells := 1, slots := 6, locals := 170 } : Room) [.ref a0, .int a1, .ref a2] q σ (.inr (some (.int v))) σ' (fun z => q ≤ z) := by
  refine kx_inH (by decide +kernel) (Nat.le_of_ble_eq_true rfl) ?_
  intro Γ K hsz hQ
  refine kx_lv (lv' := [(0, .ref a0), (1, .int a1), (2, .ref a2)]) rfl ?_
  refine kx_N (M := fun z => q ≤ z) (fun _ h => Nat.le_of_eq h.symm) ?_
  unfold m_L_core at hf
  refine kx_aload_n K dL_core_0 rfl 2 rfl ?_
  refine kx_iconst (v := 0) K dL_core_1 (by decide) ?_
  refine kx_aload_n K dL_core_2 rfl 0 rfl ?_
  refine kx_iload_n K dL_core_3 rfl 1 rfl ?_
  refine kx_xh (As := [.int a1]) (k' := 1) (n' := 6) K c_L_41 (by decide) rfl rfl (Nat.le_of_ble_eq_true rfl) dL_core_4 (fun _ _ h1 h2 => Nat.le_trans h1 h2) hf (fun _ _ _ h => k_X6_core h) ?_ (fun x2 σ1 hf => ?_)
  · intro E σ8 hf
    split at hf
    · rename_i hE; subst hE
      refine kx_h1 K rfl (by decide) w_154 0 (by decide) rfl (fun q9 => ?_)
      refine kx_astore_n K [(3, .ref q9), (0, .ref a0), (1, .int a1), (2, .ref a2)] dL_core_12 rfl (by decide) rfl ?_
      refine kx_iconst (v := 1) K dL_core_13 (by decide) ?_
      exact kx_iret K hQ (by decide) (by decide) (fun _ h => h) dL_core_14 hf
    · cases hf
  · refine kx_i2l K dL_core_7 ?_
    refine kx_ul K dL_core_8 hf (fun σ3 hf => ?_)
    refine kx_goto K 15 dL_core_9 (by decide) ?_
    refine kx_iconst (v := 0) K dL_core_15 (by decide) ?_
    exact kx_iret K hQ (by decide) (by decide) (fun _ h => h) dL_core_16 hf
def m_L_leastAmount (σ : ac_H) (a0 : Nat) (a1 : Int32) (a2 : Int32) (a3 : Nat) : Option (Int32 × ac_H) :=
  mo_xh σ a0 6 (m_X6_leastAmount σ a0 a1 a2) (fun E σ8 =>
  if E = "java/lang/IndexOutOfBoundsException" then
  (some ((1 : Int32), σ8))
  else
  (if E = "java/lang/IllegalArgumentException" then
  (some ((2 : Int32), σ8))
  else
  (none))) fun x2 σ1 =>
  mo_ul σ1 a3 (0 : Int32) ((x2).toInt64) fun σ3 =>
  some ((0 : Int32), σ3)
set_option maxRecDepth 100000 in
set_option maxHeartbeats 4000000 in
theorem k_L_leastAmount {Λ : ex_L} {q : Nat} {σ σ' : ac_H} {a0 : Nat} {a1 : Int32} {a2 : Int32} {a3 : Nat} {v : Int32} (hf : m_L_leastAmount σ a0 a1 a2 a3 = some (v, σ')) : kx_C Λ yL_leastAmount (.codeWith yL_leastAmount cL_leastAmount 5 (some .int) [(0, 10, 13, 22), (0, 10, 17, 13)]) ({ frames := 8, cells := 2, slots := 12, locals := 169 } : Room) [.ref a0, .int a1, .int a2, .ref a3] q σ (.inr (some (.int v))) σ' (fun z => q ≤ z) := by
  refine kx_inH (by decide +kernel) (Nat.le_of_ble_eq_true rfl) ?_
  intro Γ K hsz hQ
  refine kx_lv (lv' := [(0, .ref a0), (1, .int a1), (2, .int a2), (3, .ref a3)]) rfl ?_
  refine kx_N (M := fun z => q ≤ z) (fun _ h => Nat.le_of_eq h.symm) ?_
  unfold m_L_leastAmount at hf
  refine kx_aload_n K dL_leastAmount_0 rfl 3 rfl ?_
  refine kx_iconst (v := 0) K dL_leastAmount_1 (by decide) ?_
  refine kx_aload_n K dL_leastAmount_2 rfl 0 rfl ?_
  refine kx_iload_n K dL_leastAmount_3 rfl 1 rfl ?_
  refine kx_iload_n K dL_leastAmount_4 rfl 2 rfl ?_
  refine kx_xh (As := [.int a1, .int a2]) (k' := 2) (n' := 12) K c_L_44 (by decide) rfl rfl (Nat.le_of_ble_eq_true rfl) dL_leastAmount_5 (fun _ _ h1 h2 => Nat.le_trans h1 h2) hf (fun _ _ _ h => k_X6_leastAmount h) ?_ (fun x2 σ1 hf => ?_)
  · intro E σ8 hf
    split at hf
    · rename_i hE; subst hE
      refine kx_h1 K rfl (by decide) w_456 2 (by decide) rfl (fun q9 => ?_)
      refine kx_astore K [(4, .ref q9), (0, .ref a0), (1, .int a1), (2, .int a2), (3, .ref a3)] dL_leastAmount_13 (by decide) rfl ?_
      refine kx_iconst (v := 1) K dL_leastAmount_15 (by decide) ?_
      exact kx_iret K hQ (by decide) (by decide) (fun _ h => h) dL_leastAmount_16 hf
    · skip
      split at hf
      · rename_i hE; subst hE
        refine kx_h2 K (by decide) w_456 K.2.2.2.2.2.1.1.2.2.2.2.2.2.2.2.2.1 rfl (by decide) w_154 0 (by decide) rfl (fun q9 => ?_)
        refine kx_astore K [(4, .ref q9), (0, .ref a0), (1, .int a1), (2, .int a2), (3, .ref a3)] dL_leastAmount_17 (by decide) rfl ?_
        refine kx_iconst (v := 2) K dL_leastAmount_19 (by decide) ?_
        exact kx_iret K hQ (by decide) (by decide) (fun _ h => h) dL_leastAmount_20 hf
      · cases hf
  · refine kx_i2l K dL_leastAmount_8 ?_
    refine kx_ul K dL_leastAmount_9 hf (fun σ3 hf => ?_)
    refine kx_goto K 21 dL_leastAmount_10 (by decide) ?_
    refine kx_iconst (v := 0) K dL_leastAmount_21 (by decide) ?_
    exact kx_iret K hQ (by decide) (by decide) (fun _ h => h) dL_leastAmount_22 hf
def m_L_attack (σ : ac_H) (a0 : Nat) (a1 : Int32) (a2 : Int32) (a3 : Nat) : Option (Int32 × ac_H) :=
  mo_xh σ a0 6 (m_X6_attack σ a0 a1 a2) (fun E σ8 =>
  if E = "java/lang/IllegalArgumentException" then
  (some ((1 : Int32), σ8))
  else
  (none)) fun x2 σ1 =>
  mo_ul σ1 a3 (0 : Int32) ((x2).toInt64) fun σ3 =>
  some ((0 : Int32), σ3)
set_option maxRecDepth 100000 in
set_option maxHeartbeats 4000000 in
theorem k_L_attack {Λ : ex_L} {q : Nat} {σ σ' : ac_H} {a0 : Nat} {a1 : Int32} {a2 : Int32} {a3 : Nat} {v : Int32} (hf : m_L_attack σ a0 a1 a2 a3 = some (v, σ')) : kx_C Λ yL_attack (.codeWith yL_attack cL_attack 5 (some .int) [(0, 10, 13, 13)]) ({ frames := 8, cells := 2, slots := 12, locals := 172 } : Room) [.ref a0, .int a1, .int a2, .ref a3] q σ (.inr (some (.int v))) σ' (fun z => q ≤ z) := by
  refine kx_inH (by decide +kernel) (Nat.le_of_ble_eq_true rfl) ?_
  intro Γ K hsz hQ
  refine kx_lv (lv' := [(0, .ref a0), (1, .int a1), (2, .int a2), (3, .ref a3)]) rfl ?_
  refine kx_N (M := fun z => q ≤ z) (fun _ h => Nat.le_of_eq h.symm) ?_
  unfold m_L_attack at hf
  refine kx_aload_n K dL_attack_0 rfl 3 rfl ?_
  refine kx_iconst (v := 0) K dL_attack_1 (by decide) ?_
  refine kx_aload_n K dL_attack_2 rfl 0 rfl ?_
  refine kx_iload_n K dL_attack_3 rfl 1 rfl ?_
  refine kx_iload_n K dL_attack_4 rfl 2 rfl ?_
  refine kx_xh (As := [.int a1, .int a2]) (k' := 2) (n' := 12) K c_L_47 (by decide) rfl rfl (Nat.le_of_ble_eq_true rfl) dL_attack_5 (fun _ _ h1 h2 => Nat.le_trans h1 h2) hf (fun _ _ _ h => k_X6_attack h) ?_ (fun x2 σ1 hf => ?_)
  · intro E σ8 hf
    split at hf
    · rename_i hE; subst hE
      refine kx_h1 K rfl (by decide) w_154 0 (by decide) rfl (fun q9 => ?_)
      refine kx_astore K [(4, .ref q9), (0, .ref a0), (1, .int a1), (2, .int a2), (3, .ref a3)] dL_attack_13 (by decide) rfl ?_
      refine kx_iconst (v := 1) K dL_attack_15 (by decide) ?_
      exact kx_iret K hQ (by decide) (by decide) (fun _ h => h) dL_attack_16 hf
    · cases hf
  · refine kx_i2l K dL_attack_8 ?_
    refine kx_ul K dL_attack_9 hf (fun σ3 hf => ?_)
    refine kx_goto K 17 dL_attack_10 (by decide) ?_
    refine kx_iconst (v := 0) K dL_attack_17 (by decide) ?_
    exact kx_iret K hQ (by decide) (by decide) (fun _ h => h) dL_attack_18 hf
def m_L_weakPoints (σ : ac_H) (a0 : Nat) (a1 : Int32) (a2 : Nat) : Option (Int32 × ac_H) :=
  mo_xh σ a0 6 (m_X6_weakPoints σ a0 a1) (fun E σ8 =>
  if E = "java/lang/IllegalArgumentException" then
  (some ((1 : Int32), σ8))
  else
  (none)) fun x2 σ1 =>
  mo_ul σ1 a2 (0 : Int32) ((x2).toInt64) fun σ3 =>
  some ((0 : Int32), σ3)
set_option maxRecDepth 100000 in
set_option maxHeartbeats 4000000 in
theorem k_L_weakPoints {Λ : ex_L} {q : Nat} {σ σ' : ac_H} {a0 : Nat} {a1 : Int32} {a2 : Nat} {v : Int32} (hf : m_L_weakPoints σ a0 a1 a2 = some (v, σ')) : kx_C Λ yL_weakPoints (.codeWith yL_weakPoints cL_weakPoints 4 (some .int) [(0, 9, 12, 13)]) ({ frames := 8, cells := 1, slots := 6, locals := 168 } : Room) [.ref a0, .int a1, .ref a2] q σ (.inr (some (.int v))) σ' (fun z => q ≤ z) := by
  refine kx_inH (by decide +kernel) (Nat.le_of_ble_eq_true rfl) ?_
  intro Γ K hsz hQ
  refine kx_lv (lv' := [(0, .ref a0), (1, .int a1), (2, .ref a2)]) rfl ?_
  refine kx_N (M := fun z => q ≤ z) (fun _ h => Nat.le_of_eq h.symm) ?_
  unfold m_L_weakPoints at hf
  refine kx_aload_n K dL_weakPoints_0 rfl 2 rfl ?_
  refine kx_iconst (v := 0) K dL_weakPoints_1 (by decide) ?_
  refine kx_aload_n K dL_weakPoints_2 rfl 0 rfl ?_
  refine kx_iload_n K dL_weakPoints_3 rfl 1 rfl ?_
  refine kx_xh (As := [.int a1]) (k' := 1) (n' := 6) K c_L_50 (by decide) rfl rfl (Nat.le_of_ble_eq_true rfl) dL_weakPoints_4 (fun _ _ h1 h2 => Nat.le_trans h1 h2) hf (fun _ _ _ h => k_X6_weakPoints h) ?_ (fun x2 σ1 hf => ?_)
  · intro E σ8 hf
    split at hf
    · rename_i hE; subst hE
      refine kx_h1 K rfl (by decide) w_154 0 (by decide) rfl (fun q9 => ?_)
      refine kx_astore_n K [(3, .ref q9), (0, .ref a0), (1, .int a1), (2, .ref a2)] dL_weakPoints_12 rfl (by decide) rfl ?_
      refine kx_iconst (v := 1) K dL_weakPoints_13 (by decide) ?_
      exact kx_iret K hQ (by decide) (by decide) (fun _ h => h) dL_weakPoints_14 hf
    · cases hf
  · refine kx_i2l K dL_weakPoints_7 ?_
    refine kx_ul K dL_weakPoints_8 hf (fun σ3 hf => ?_)
    refine kx_goto K 15 dL_weakPoints_9 (by decide) ?_
    refine kx_iconst (v := 0) K dL_weakPoints_15 (by decide) ?_
    exact kx_iret K hQ (by decide) (by decide) (fun _ h => h) dL_weakPoints_16 hf
def m_L_timerFor (σ : ac_H) (a0 : Nat) (a1 : Int32) (a2 : Nat) : Option (Int32 × ac_H) :=
  mo_xh σ a0 6 (m_X6_timerFor σ a0 a1) (fun E σ8 =>
  if E = "java/lang/IllegalArgumentException" then
  (some ((1 : Int32), σ8))
  else
  (none)) fun x2 σ1 =>
  mo_ul σ1 a2 (0 : Int32) ((x2).toInt64) fun σ3 =>
  some ((0 : Int32), σ3)
set_option maxRecDepth 100000 in
set_option maxHeartbeats 4000000 in
theorem k_L_timerFor {Λ : ex_L} {q : Nat} {σ σ' : ac_H} {a0 : Nat} {a1 : Int32} {a2 : Nat} {v : Int32} (hf : m_L_timerFor σ a0 a1 a2 = some (v, σ')) : kx_C Λ yL_timerFor (.codeWith yL_timerFor cL_timerFor 4 (some .int) [(0, 9, 12, 13)]) ({ frames := 8, cells := 1, slots := 6, locals := 145 } : Room) [.ref a0, .int a1, .ref a2] q σ (.inr (some (.int v))) σ' (fun z => q ≤ z) := by
  refine kx_inH (by decide +kernel) (Nat.le_of_ble_eq_true rfl) ?_
  intro Γ K hsz hQ
  refine kx_lv (lv' := [(0, .ref a0), (1, .int a1), (2, .ref a2)]) rfl ?_
  refine kx_N (M := fun z => q ≤ z) (fun _ h => Nat.le_of_eq h.symm) ?_
  unfold m_L_timerFor at hf
  refine kx_aload_n K dL_timerFor_0 rfl 2 rfl ?_
  refine kx_iconst (v := 0) K dL_timerFor_1 (by decide) ?_
  refine kx_aload_n K dL_timerFor_2 rfl 0 rfl ?_
  refine kx_iload_n K dL_timerFor_3 rfl 1 rfl ?_
  refine kx_xh (As := [.int a1]) (k' := 1) (n' := 6) K c_L_53 (by decide) rfl rfl (Nat.le_of_ble_eq_true rfl) dL_timerFor_4 (fun _ _ h1 h2 => Nat.le_trans h1 h2) hf (fun _ _ _ h => k_X6_timerFor h) ?_ (fun x2 σ1 hf => ?_)
  · intro E σ8 hf
    split at hf
    · rename_i hE; subst hE
      refine kx_h1 K rfl (by decide) w_154 0 (by decide) rfl (fun q9 => ?_)
      refine kx_astore_n K [(3, .ref q9), (0, .ref a0), (1, .int a1), (2, .ref a2)] dL_timerFor_12 rfl (by decide) rfl ?_
      refine kx_iconst (v := 1) K dL_timerFor_13 (by decide) ?_
      exact kx_iret K hQ (by decide) (by decide) (fun _ h => h) dL_timerFor_14 hf
    · cases hf
  · refine kx_i2l K dL_timerFor_7 ?_
    refine kx_ul K dL_timerFor_8 hf (fun σ3 hf => ?_)
    refine kx_goto K 15 dL_timerFor_9 (by decide) ?_
    refine kx_iconst (v := 0) K dL_timerFor_15 (by decide) ?_
    exact kx_iret K hQ (by decide) (by decide) (fun _ h => h) dL_timerFor_16 hf
def m_L_addFault (σ : ac_H) (a0 : Nat) (a1 : Int32) (a2 : Int32) (a3 : Int32) (a4 : Nat) : Option (Int32 × ac_H) :=
  mo_xh σ a0 6 (m_X6_addFault σ a0 a1 a2 a3) (fun E σ8 =>
  if E = "java/lang/IllegalArgumentException" then
  (some ((1 : Int32), σ8))
  else
  (if E = "java/lang/IllegalStateException" then
  (some ((2 : Int32), σ8))
  else
  (none))) fun x2 σ1 =>
  mo_ul σ1 a4 (0 : Int32) ((x2).toInt64) fun σ3 =>
  some ((0 : Int32), σ3)
set_option maxRecDepth 100000 in
set_option maxHeartbeats 4000000 in
theorem k_L_addFault {Λ : ex_L} {q : Nat} {σ σ' : ac_H} {a0 : Nat} {a1 : Int32} {a2 : Int32} {a3 : Int32} {a4 : Nat} {v : Int32} (hf : m_L_addFault σ a0 a1 a2 a3 a4 = some (v, σ')) : kx_C Λ yL_addFault (.codeWith yL_addFault cL_addFault 6 (some .int) [(0, 12, 15, 13), (0, 12, 19, 60)]) ({ frames := 7, cells := 1, slots := 6, locals := 113 } : Room) [.ref a0, .int a1, .int a2, .int a3, .ref a4] q σ (.inr (some (.int v))) σ' (fun z => q ≤ z) := by
  refine kx_inH (by decide +kernel) (Nat.le_of_ble_eq_true rfl) ?_
  intro Γ K hsz hQ
  refine kx_lv (lv' := [(0, .ref a0), (1, .int a1), (2, .int a2), (3, .int a3), (4, .ref a4)]) rfl ?_
  refine kx_N (M := fun z => q ≤ z) (fun _ h => Nat.le_of_eq h.symm) ?_
  unfold m_L_addFault at hf
  refine kx_aload K dL_addFault_0 4 rfl ?_
  refine kx_iconst (v := 0) K dL_addFault_2 (by decide) ?_
  refine kx_aload_n K dL_addFault_3 rfl 0 rfl ?_
  refine kx_iload_n K dL_addFault_4 rfl 1 rfl ?_
  refine kx_iload_n K dL_addFault_5 rfl 2 rfl ?_
  refine kx_iload_n K dL_addFault_6 rfl 3 rfl ?_
  refine kx_xh (As := [.int a1, .int a2, .int a3]) (k' := 1) (n' := 6) K c_L_56 (by decide) rfl rfl (Nat.le_of_ble_eq_true rfl) dL_addFault_7 (fun _ _ h1 h2 => Nat.le_trans h1 h2) hf (fun _ _ _ h => k_X6_addFault h) ?_ (fun x2 σ1 hf => ?_)
  · intro E σ8 hf
    split at hf
    · rename_i hE; subst hE
      refine kx_h1 K rfl (by decide) w_154 0 (by decide) rfl (fun q9 => ?_)
      refine kx_astore K [(5, .ref q9), (0, .ref a0), (1, .int a1), (2, .int a2), (3, .int a3), (4, .ref a4)] dL_addFault_15 (by decide) rfl ?_
      refine kx_iconst (v := 1) K dL_addFault_17 (by decide) ?_
      exact kx_iret K hQ (by decide) (by decide) (fun _ h => h) dL_addFault_18 hf
    · skip
      split at hf
      · rename_i hE; subst hE
        refine kx_h2 K (by decide) w_154 K.2.2.2.2.2.1.1.2.2.2.2.2.2.2.2.2.2.1 rfl (by decide) w_947 1 (by decide) rfl (fun q9 => ?_)
        refine kx_astore K [(5, .ref q9), (0, .ref a0), (1, .int a1), (2, .int a2), (3, .int a3), (4, .ref a4)] dL_addFault_19 (by decide) rfl ?_
        refine kx_iconst (v := 2) K dL_addFault_21 (by decide) ?_
        exact kx_iret K hQ (by decide) (by decide) (fun _ h => h) dL_addFault_22 hf
      · cases hf
  · refine kx_i2l K dL_addFault_10 ?_
    refine kx_ul K dL_addFault_11 hf (fun σ3 hf => ?_)
    refine kx_goto K 23 dL_addFault_12 (by decide) ?_
    refine kx_iconst (v := 0) K dL_addFault_23 (by decide) ?_
    exact kx_iret K hQ (by decide) (by decide) (fun _ h => h) dL_addFault_24 hf
def m_L_removeFault (σ : ac_H) (a0 : Nat) (a1 : Int32) (a2 : Nat) : Option (Int32 × ac_H) :=
  mo_xh σ a0 6 (m_X6_removeFault σ a0 a1) (fun E σ8 =>
  if E = "java/lang/IndexOutOfBoundsException" then
  (some ((1 : Int32), σ8))
  else
  (none)) fun x2 σ1 =>
  mo_ul σ1 a2 (0 : Int32) ((x2).toInt64) fun σ3 =>
  some ((0 : Int32), σ3)
set_option maxRecDepth 100000 in
set_option maxHeartbeats 4000000 in
theorem k_L_removeFault {Λ : ex_L} {q : Nat} {σ σ' : ac_H} {a0 : Nat} {a1 : Int32} {a2 : Nat} {v : Int32} (hf : m_L_removeFault σ a0 a1 a2 = some (v, σ')) : kx_C Λ yL_removeFault (.codeWith yL_removeFault cL_removeFault 4 (some .int) [(0, 9, 12, 22)]) ({ frames := 8, cells := 1, slots := 6, locals := 132 } : Room) [.ref a0, .int a1, .ref a2] q σ (.inr (some (.int v))) σ' (fun z => q ≤ z) := by
  refine kx_inH (by decide +kernel) (Nat.le_of_ble_eq_true rfl) ?_
  intro Γ K hsz hQ
  refine kx_lv (lv' := [(0, .ref a0), (1, .int a1), (2, .ref a2)]) rfl ?_
  refine kx_N (M := fun z => q ≤ z) (fun _ h => Nat.le_of_eq h.symm) ?_
  unfold m_L_removeFault at hf
  refine kx_aload_n K dL_removeFault_0 rfl 2 rfl ?_
  refine kx_iconst (v := 0) K dL_removeFault_1 (by decide) ?_
  refine kx_aload_n K dL_removeFault_2 rfl 0 rfl ?_
  refine kx_iload_n K dL_removeFault_3 rfl 1 rfl ?_
  refine kx_xh (As := [.int a1]) (k' := 1) (n' := 6) K c_L_62 (by decide) rfl rfl (Nat.le_of_ble_eq_true rfl) dL_removeFault_4 (fun _ _ h1 h2 => Nat.le_trans h1 h2) hf (fun _ _ _ h => k_X6_removeFault h) ?_ (fun x2 σ1 hf => ?_)
  · intro E σ8 hf
    split at hf
    · rename_i hE; subst hE
      refine kx_h1 K rfl (by decide) w_456 2 (by decide) rfl (fun q9 => ?_)
      refine kx_astore_n K [(3, .ref q9), (0, .ref a0), (1, .int a1), (2, .ref a2)] dL_removeFault_12 rfl (by decide) rfl ?_
      refine kx_iconst (v := 1) K dL_removeFault_13 (by decide) ?_
      exact kx_iret K hQ (by decide) (by decide) (fun _ h => h) dL_removeFault_14 hf
    · cases hf
  · refine kx_i2l K dL_removeFault_7 ?_
    refine kx_ul K dL_removeFault_8 hf (fun σ3 hf => ?_)
    refine kx_goto K 15 dL_removeFault_9 (by decide) ?_
    refine kx_iconst (v := 0) K dL_removeFault_15 (by decide) ?_
    exact kx_iret K hQ (by decide) (by decide) (fun _ h => h) dL_removeFault_16 hf
def m_L_set (σ : ac_H) (a0 : Nat) (a1 : Int32) (a2 : Int32) (a3 : Nat) : Option (Int32 × ac_H) :=
  mo_xh σ a0 6 (m_X6_set σ a0 a1 a2) (fun E σ8 =>
  if E = "java/lang/IllegalArgumentException" then
  (some ((1 : Int32), σ8))
  else
  (none)) fun x2 σ1 =>
  mo_ul σ1 a3 (0 : Int32) ((x2).toInt64) fun σ3 =>
  some ((0 : Int32), σ3)
set_option maxRecDepth 100000 in
set_option maxHeartbeats 4000000 in
theorem k_L_set {Λ : ex_L} {q : Nat} {σ σ' : ac_H} {a0 : Nat} {a1 : Int32} {a2 : Int32} {a3 : Nat} {v : Int32} (hf : m_L_set σ a0 a1 a2 a3 = some (v, σ')) : kx_C Λ yL_set (.codeWith yL_set cL_set 5 (some .int) [(0, 10, 13, 13)]) ({ frames := 7, cells := 1, slots := 6, locals := 113 } : Room) [.ref a0, .int a1, .int a2, .ref a3] q σ (.inr (some (.int v))) σ' (fun z => q ≤ z) := by
  refine kx_inH (by decide +kernel) (Nat.le_of_ble_eq_true rfl) ?_
  intro Γ K hsz hQ
  refine kx_lv (lv' := [(0, .ref a0), (1, .int a1), (2, .int a2), (3, .ref a3)]) rfl ?_
  refine kx_N (M := fun z => q ≤ z) (fun _ h => Nat.le_of_eq h.symm) ?_
  unfold m_L_set at hf
  refine kx_aload_n K dL_set_0 rfl 3 rfl ?_
  refine kx_iconst (v := 0) K dL_set_1 (by decide) ?_
  refine kx_aload_n K dL_set_2 rfl 0 rfl ?_
  refine kx_iload_n K dL_set_3 rfl 1 rfl ?_
  refine kx_iload_n K dL_set_4 rfl 2 rfl ?_
  refine kx_xh (As := [.int a1, .int a2]) (k' := 1) (n' := 6) K c_L_65 (by decide) rfl rfl (Nat.le_of_ble_eq_true rfl) dL_set_5 (fun _ _ h1 h2 => Nat.le_trans h1 h2) hf (fun _ _ _ h => k_X6_set h) ?_ (fun x2 σ1 hf => ?_)
  · intro E σ8 hf
    split at hf
    · rename_i hE; subst hE
      refine kx_h1 K rfl (by decide) w_154 0 (by decide) rfl (fun q9 => ?_)
      refine kx_astore K [(4, .ref q9), (0, .ref a0), (1, .int a1), (2, .int a2), (3, .ref a3)] dL_set_13 (by decide) rfl ?_
      refine kx_iconst (v := 1) K dL_set_15 (by decide) ?_
      exact kx_iret K hQ (by decide) (by decide) (fun _ h => h) dL_set_16 hf
    · cases hf
  · refine kx_i2l K dL_set_8 ?_
    refine kx_ul K dL_set_9 hf (fun σ3 hf => ?_)
    refine kx_goto K 17 dL_set_10 (by decide) ?_
    refine kx_iconst (v := 0) K dL_set_17 (by decide) ?_
    exact kx_iret K hQ (by decide) (by decide) (fun _ h => h) dL_set_18 hf
def m_L_shrink (σ : ac_H) (a0 : Nat) (a1 : Int32) (a2 : Nat) : Option (Int32 × ac_H) :=
  mo_xh σ a0 6 (m_X6_shrink σ a0 a1) (fun E σ8 =>
  if E = "java/lang/IllegalArgumentException" then
  (some ((1 : Int32), σ8))
  else
  (if E = "java/lang/IllegalStateException" then
  (some ((2 : Int32), σ8))
  else
  (none))) fun x2 σ1 =>
  mo_ul σ1 a2 (0 : Int32) ((x2).toInt64) fun σ3 =>
  some ((0 : Int32), σ3)
set_option maxRecDepth 100000 in
set_option maxHeartbeats 4000000 in
theorem k_L_shrink {Λ : ex_L} {q : Nat} {σ σ' : ac_H} {a0 : Nat} {a1 : Int32} {a2 : Nat} {v : Int32} (hf : m_L_shrink σ a0 a1 a2 = some (v, σ')) : kx_C Λ yL_shrink (.codeWith yL_shrink cL_shrink 4 (some .int) [(0, 9, 12, 13), (0, 9, 15, 60)]) ({ frames := 8, cells := 2, slots := 12, locals := 174 } : Room) [.ref a0, .int a1, .ref a2] q σ (.inr (some (.int v))) σ' (fun z => q ≤ z) := by
  refine kx_inH (by decide +kernel) (Nat.le_of_ble_eq_true rfl) ?_
  intro Γ K hsz hQ
  refine kx_lv (lv' := [(0, .ref a0), (1, .int a1), (2, .ref a2)]) rfl ?_
  refine kx_N (M := fun z => q ≤ z) (fun _ h => Nat.le_of_eq h.symm) ?_
  unfold m_L_shrink at hf
  refine kx_aload_n K dL_shrink_0 rfl 2 rfl ?_
  refine kx_iconst (v := 0) K dL_shrink_1 (by decide) ?_
  refine kx_aload_n K dL_shrink_2 rfl 0 rfl ?_
  refine kx_iload_n K dL_shrink_3 rfl 1 rfl ?_
  refine kx_xh (As := [.int a1]) (k' := 2) (n' := 12) K c_L_68 (by decide) rfl rfl (Nat.le_of_ble_eq_true rfl) dL_shrink_4 (fun _ _ h1 h2 => Nat.le_trans h1 h2) hf (fun _ _ _ h => k_X6_shrink h) ?_ (fun x2 σ1 hf => ?_)
  · intro E σ8 hf
    split at hf
    · rename_i hE; subst hE
      refine kx_h1 K rfl (by decide) w_154 0 (by decide) rfl (fun q9 => ?_)
      refine kx_astore_n K [(3, .ref q9), (0, .ref a0), (1, .int a1), (2, .ref a2)] dL_shrink_12 rfl (by decide) rfl ?_
      refine kx_iconst (v := 1) K dL_shrink_13 (by decide) ?_
      exact kx_iret K hQ (by decide) (by decide) (fun _ h => h) dL_shrink_14 hf
    · skip
      split at hf
      · rename_i hE; subst hE
        refine kx_h2 K (by decide) w_154 K.2.2.2.2.2.1.1.2.2.2.2.2.2.2.2.2.2.1 rfl (by decide) w_947 1 (by decide) rfl (fun q9 => ?_)
        refine kx_astore_n K [(3, .ref q9), (0, .ref a0), (1, .int a1), (2, .ref a2)] dL_shrink_15 rfl (by decide) rfl ?_
        refine kx_iconst (v := 2) K dL_shrink_16 (by decide) ?_
        exact kx_iret K hQ (by decide) (by decide) (fun _ h => h) dL_shrink_17 hf
      · cases hf
  · refine kx_i2l K dL_shrink_7 ?_
    refine kx_ul K dL_shrink_8 hf (fun σ3 hf => ?_)
    refine kx_goto K 18 dL_shrink_9 (by decide) ?_
    refine kx_iconst (v := 0) K dL_shrink_18 (by decide) ?_
    exact kx_iret K hQ (by decide) (by decide) (fun _ h => h) dL_shrink_19 hf
def m_L_saveSnapshot (σ : ac_H) (a0 : Nat) (a1 : Int32) (a2 : Nat) : Option (Int32 × ac_H) :=
  mo_xh σ a0 6 (m_X6_saveSnapshot σ a0 a1) (fun E σ8 =>
  if E = "java/lang/IndexOutOfBoundsException" then
  (some ((1 : Int32), σ8))
  else
  (none)) fun x2 σ1 =>
  if x2 = 0 then
  (mo_ul σ1 a2 (0 : Int32) (0 : Int64) fun σ3 =>
  some ((0 : Int32), σ3))
  else
  (mo_ul σ1 a2 (0 : Int32) (1 : Int64) fun σ4 =>
  some ((0 : Int32), σ4))
set_option maxRecDepth 100000 in
set_option maxHeartbeats 4000000 in
theorem k_L_saveSnapshot {Λ : ex_L} {q : Nat} {σ σ' : ac_H} {a0 : Nat} {a1 : Int32} {a2 : Nat} {v : Int32} (hf : m_L_saveSnapshot σ a0 a1 a2 = some (v, σ')) : kx_C Λ yL_saveSnapshot (.codeWith yL_saveSnapshot cL_saveSnapshot 4 (some .int) [(0, 16, 19, 22)]) ({ frames := 8, cells := 1, slots := 6, locals := 133 } : Room) [.ref a0, .int a1, .ref a2] q σ (.inr (some (.int v))) σ' (fun z => q ≤ z) := by
  refine kx_inH (by decide +kernel) (Nat.le_of_ble_eq_true rfl) ?_
  intro Γ K hsz hQ
  refine kx_lv (lv' := [(0, .ref a0), (1, .int a1), (2, .ref a2)]) rfl ?_
  refine kx_N (M := fun z => q ≤ z) (fun _ h => Nat.le_of_eq h.symm) ?_
  unfold m_L_saveSnapshot at hf
  refine kx_aload_n K dL_saveSnapshot_0 rfl 2 rfl ?_
  refine kx_iconst (v := 0) K dL_saveSnapshot_1 (by decide) ?_
  refine kx_aload_n K dL_saveSnapshot_2 rfl 0 rfl ?_
  refine kx_iload_n K dL_saveSnapshot_3 rfl 1 rfl ?_
  refine kx_xh (As := [.int a1]) (k' := 1) (n' := 6) K c_L_71 (by decide) rfl rfl (Nat.le_of_ble_eq_true rfl) dL_saveSnapshot_4 (fun _ _ h1 h2 => Nat.le_trans h1 h2) hf (fun _ _ _ h => k_X6_saveSnapshot h) ?_ (fun x2 σ1 hf => ?_)
  · intro E σ8 hf
    split at hf
    · rename_i hE; subst hE
      refine kx_h1 K rfl (by decide) w_456 2 (by decide) rfl (fun q9 => ?_)
      refine kx_astore_n K [(3, .ref q9), (0, .ref a0), (1, .int a1), (2, .ref a2)] dL_saveSnapshot_19 rfl (by decide) rfl ?_
      refine kx_iconst (v := 1) K dL_saveSnapshot_20 (by decide) ?_
      exact kx_iret K hQ (by decide) (by decide) (fun _ h => h) dL_saveSnapshot_21 hf
    · cases hf
  · refine kx_if_eq K 14 hf dL_saveSnapshot_7 (by decide) (fun hf => ?_) (fun hf => ?_)
    · refine kx_lconst (v := 0) K dL_saveSnapshot_14 (by decide) ?_
      refine kx_ul K dL_saveSnapshot_15 hf (fun σ3 hf => ?_)
      refine kx_goto K 22 dL_saveSnapshot_16 (by decide) ?_
      refine kx_iconst (v := 0) K dL_saveSnapshot_22 (by decide) ?_
      exact kx_iret K hQ (by decide) (by decide) (fun _ h => h) dL_saveSnapshot_23 hf
    · refine kx_lconst (v := 1) K dL_saveSnapshot_10 (by decide) ?_
      refine kx_goto K 15 dL_saveSnapshot_11 (by decide) ?_
      refine kx_ul K dL_saveSnapshot_15 hf (fun σ4 hf => ?_)
      refine kx_goto K 22 dL_saveSnapshot_16 (by decide) ?_
      refine kx_iconst (v := 0) K dL_saveSnapshot_22 (by decide) ?_
      exact kx_iret K hQ (by decide) (by decide) (fun _ h => h) dL_saveSnapshot_23 hf
def m_L_restoreSnapshot (σ : ac_H) (a0 : Nat) (a1 : Int32) (a2 : Nat) : Option (Int32 × ac_H) :=
  mo_xh σ a0 6 (m_X6_restoreSnapshot σ a0 a1) (fun E σ8 =>
  if E = "java/lang/IndexOutOfBoundsException" then
  (some ((1 : Int32), σ8))
  else
  (if E = "java/lang/IllegalStateException" then
  (some ((2 : Int32), σ8))
  else
  (none))) fun x2 σ1 =>
  mo_ul σ1 a2 (0 : Int32) ((x2).toInt64) fun σ3 =>
  some ((0 : Int32), σ3)
set_option maxRecDepth 100000 in
set_option maxHeartbeats 4000000 in
theorem k_L_restoreSnapshot {Λ : ex_L} {q : Nat} {σ σ' : ac_H} {a0 : Nat} {a1 : Int32} {a2 : Nat} {v : Int32} (hf : m_L_restoreSnapshot σ a0 a1 a2 = some (v, σ')) : kx_C Λ yL_restoreSnapshot (.codeWith yL_restoreSnapshot cL_restoreSnapshot 4 (some .int) [(0, 9, 12, 22), (0, 9, 15, 60)]) ({ frames := 8, cells := 2, slots := 12, locals := 132 } : Room) [.ref a0, .int a1, .ref a2] q σ (.inr (some (.int v))) σ' (fun z => q ≤ z) := by
  refine kx_inH (by decide +kernel) (Nat.le_of_ble_eq_true rfl) ?_
  intro Γ K hsz hQ
  refine kx_lv (lv' := [(0, .ref a0), (1, .int a1), (2, .ref a2)]) rfl ?_
  refine kx_N (M := fun z => q ≤ z) (fun _ h => Nat.le_of_eq h.symm) ?_
  unfold m_L_restoreSnapshot at hf
  refine kx_aload_n K dL_restoreSnapshot_0 rfl 2 rfl ?_
  refine kx_iconst (v := 0) K dL_restoreSnapshot_1 (by decide) ?_
  refine kx_aload_n K dL_restoreSnapshot_2 rfl 0 rfl ?_
  refine kx_iload_n K dL_restoreSnapshot_3 rfl 1 rfl ?_
  refine kx_xh (As := [.int a1]) (k' := 2) (n' := 12) K c_L_74 (by decide) rfl rfl (Nat.le_of_ble_eq_true rfl) dL_restoreSnapshot_4 (fun _ _ h1 h2 => Nat.le_trans h1 h2) hf (fun _ _ _ h => k_X6_restoreSnapshot h) ?_ (fun x2 σ1 hf => ?_)
  · intro E σ8 hf
    split at hf
    · rename_i hE; subst hE
      refine kx_h1 K rfl (by decide) w_456 2 (by decide) rfl (fun q9 => ?_)
      refine kx_astore_n K [(3, .ref q9), (0, .ref a0), (1, .int a1), (2, .ref a2)] dL_restoreSnapshot_12 rfl (by decide) rfl ?_
      refine kx_iconst (v := 1) K dL_restoreSnapshot_13 (by decide) ?_
      exact kx_iret K hQ (by decide) (by decide) (fun _ h => h) dL_restoreSnapshot_14 hf
    · skip
      split at hf
      · rename_i hE; subst hE
        refine kx_h2 K (by decide) w_456 K.2.2.2.2.2.1.1.2.2.2.2.2.2.2.2.2.2.2 rfl (by decide) w_947 1 (by decide) rfl (fun q9 => ?_)
        refine kx_astore_n K [(3, .ref q9), (0, .ref a0), (1, .int a1), (2, .ref a2)] dL_restoreSnapshot_15 rfl (by decide) rfl ?_
        refine kx_iconst (v := 2) K dL_restoreSnapshot_16 (by decide) ?_
        exact kx_iret K hQ (by decide) (by decide) (fun _ h => h) dL_restoreSnapshot_17 hf
      · cases hf
  · refine kx_i2l K dL_restoreSnapshot_7 ?_
    refine kx_ul K dL_restoreSnapshot_8 hf (fun σ3 hf => ?_)
    refine kx_goto K 18 dL_restoreSnapshot_9 (by decide) ?_
    refine kx_iconst (v := 0) K dL_restoreSnapshot_18 (by decide) ?_
    exact kx_iret K hQ (by decide) (by decide) (fun _ h => h) dL_restoreSnapshot_19 hf

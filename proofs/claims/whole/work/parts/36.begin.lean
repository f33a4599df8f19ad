def m_X6_init (σ : ac_H) (a0 : Nat) (q : Nat) : Option (Nat × ac_H) :=
  mo_cs (m_X0_init (ac_up σ q (.inr (0, [.null, .null, .null, .null, .int 0, .null]))) q (q + 1)) fun z3 σ2 =>
  mo_pv σ2 a0 6 0 (.ref q) fun σ4 =>
  mo_gr σ4 a0 6 0 fun x5 =>
  mo_cv σ4 x5 0 (m_X0_begin σ4 x5) fun _ σ6 =>
  mo_cs (m_X0_init (ac_up σ6 z3 (.inr (0, [.null, .null, .null, .null, .int 0, .null]))) z3 (z3 + 1)) fun z9 σ8 =>
  mo_pv σ8 a0 6 1 (.ref z3) fun σ10 =>
  mo_cs (m_X4_init (ac_up σ10 z9 (.inr (4, [.null, .null, .null, .null, .int 0, .int 0, .int 0, .int 0, .int 0, .int 0, .int 0, .int 0, .int 0, .int 0, .int 0]))) z9 (z9 + 1)) fun z13 σ12 =>
  mo_pv σ12 a0 6 2 (.ref z9) fun σ14 =>
  mo_cs (m_X3_init (ac_up σ14 z13 (.inr (3, [.null, .int 0, .int 0, .int 0, .int 0, .int 0, .int 0, .int 0, .int 0, .null]))) z13 (z13 + 1)) fun z17 σ16 =>
  mo_pv σ16 a0 6 3 (.ref z13) fun σ18 =>
  mo_pv (ac_up σ18 z17 (.inl (4, 10, .inr (.inr (.inr (.inr (fun _ => none))))))) a0 6 4 (.ref z17) fun σ19 =>
  if (0 : Int32) < (10 : Int32) then
  (mo_gr σ19 a0 6 4 fun x20 =>
  mo_cs (m_X0_init (ac_up σ19 (z17 + 1) (.inr (0, [.null, .null, .null, .null, .int 0, .null]))) (z17 + 1) ((z17 + 1) + 1)) fun z23 σ22 =>
  mo_uq σ22 x20 (0 : Int32) (z17 + 1) fun σ24 =>
  if (1 : Int32) < (10 : Int32) then
  (mo_gr σ24 a0 6 4 fun x25 =>
  mo_cs (m_X0_init (ac_up σ24 z23 (.inr (0, [.null, .null, .null, .null, .int 0, .null]))) z23 (z23 + 1)) fun z28 σ27 =>
  mo_uq σ27 x25 (1 : Int32) z23 fun σ29 =>
  if (2 : Int32) < (10 : Int32) then
  (mo_gr σ29 a0 6 4 fun x30 =>
  mo_cs (m_X0_init (ac_up σ29 z28 (.inr (0, [.null, .null, .null, .null, .int 0, .null]))) z28 (z28 + 1)) fun z33 σ32 =>
  mo_uq σ32 x30 (2 : Int32) z28 fun σ34 =>
  if (3 : Int32) < (10 : Int32) then
  (mo_gr σ34 a0 6 4 fun x35 =>
  mo_cs (m_X0_init (ac_up σ34 z33 (.inr (0, [.null, .null, .null, .null, .int 0, .null]))) z33 (z33 + 1)) fun z38 σ37 =>
  mo_uq σ37 x35 (3 : Int32) z33 fun σ39 =>
  if (4 : Int32) < (10 : Int32) then
  (mo_gr σ39 a0 6 4 fun x40 =>
  mo_cs (m_X0_init (ac_up σ39 z38 (.inr (0, [.null, .null, .null, .null, .int 0, .null]))) z38 (z38 + 1)) fun z43 σ42 =>
  mo_uq σ42 x40 (4 : Int32) z38 fun σ44 =>
  if (5 : Int32) < (10 : Int32) then
  (mo_gr σ44 a0 6 4 fun x45 =>
  mo_cs (m_X0_init (ac_up σ44 z43 (.inr (0, [.null, .null, .null, .null, .int 0, .null]))) z43 (z43 + 1)) fun z48 σ47 =>
  mo_uq σ47 x45 (5 : Int32) z43 fun σ49 =>
  if (6 : Int32) < (10 : Int32) then
  (mo_gr σ49 a0 6 4 fun x50 =>
  mo_cs (m_X0_init (ac_up σ49 z48 (.inr (0, [.null, .null, .null, .null, .int 0, .null]))) z48 (z48 + 1)) fun z53 σ52 =>
  mo_uq σ52 x50 (6 : Int32) z48 fun σ54 =>
  if (7 : Int32) < (10 : Int32) then
  (mo_gr σ54 a0 6 4 fun x55 =>
  mo_cs (m_X0_init (ac_up σ54 z53 (.inr (0, [.null, .null, .null, .null, .int 0, .null]))) z53 (z53 + 1)) fun z58 σ57 =>
  mo_uq σ57 x55 (7 : Int32) z53 fun σ59 =>
  if (8 : Int32) < (10 : Int32) then
  (mo_gr σ59 a0 6 4 fun x60 =>
  mo_cs (m_X0_init (ac_up σ59 z58 (.inr (0, [.null, .null, .null, .null, .int 0, .null]))) z58 (z58 + 1)) fun z63 σ62 =>
  mo_uq σ62 x60 (8 : Int32) z58 fun σ64 =>
  if (9 : Int32) < (10 : Int32) then
  (mo_gr σ64 a0 6 4 fun x65 =>
  mo_cs (m_X0_init (ac_up σ64 z63 (.inr (0, [.null, .null, .null, .null, .int 0, .null]))) z63 (z63 + 1)) fun z68 σ67 =>
  mo_uq σ67 x65 (9 : Int32) z63 fun σ69 =>
  if (10 : Int32) < (10 : Int32) then
  (none)
  else
  (mo_pv σ69 a0 6 5 (.int (0 : Int32)) fun σ70 =>
  mo_pv (ac_up σ70 z68 (.inl (4, 2, .inr (.inr (.inr (.inr (fun _ => none))))))) a0 6 6 (.ref z68) fun σ71 =>
  if (0 : Int32) < (2 : Int32) then
  (mo_gr σ71 a0 6 6 fun x72 =>
  mo_cs (m_X0_init (ac_up σ71 (z68 + 1) (.inr (0, [.null, .null, .null, .null, .int 0, .null]))) (z68 + 1) ((z68 + 1) + 1)) fun z75 σ74 =>
  mo_uq σ74 x72 (0 : Int32) (z68 + 1) fun σ76 =>
  if (1 : Int32) < (2 : Int32) then
  (mo_gr σ76 a0 6 6 fun x77 =>
  mo_cs (m_X0_init (ac_up σ76 z75 (.inr (0, [.null, .null, .null, .null, .int 0, .null]))) z75 (z75 + 1)) fun z80 σ79 =>
  mo_uq σ79 x77 (1 : Int32) z75 fun σ81 =>
  if (2 : Int32) < (2 : Int32) then
  (none)
  else
  (mo_pv (ac_up σ81 z80 (.inl (2, kx_ar 2 2))) a0 6 7 (.ref z80) fun σ82 =>
  some ((z80 + 1), σ82)))
  else
  (none))
  else
  (none)))
  else
  (none))
  else
  (none))
  else
  (none))
  else
  (none))
  else
  (none))
  else
  (none))
  else
  (none))
  else
  (none))
  else
  (none))
  else
  (none)
set_option maxRecDepth 100000 in
set_option maxHeartbeats 4000000 in
theorem k_X6_init {Λ : ex_L} {q : Nat} {σ σ' : ac_H} {a0 : Nat} {v : Nat} (hf : m_X6_init σ a0 q = some (v, σ')) : kx_C Λ yX6_init (.code yX6_init cX6_init 2 none) ({ frames := 4, cells := 132, slots := 3190, locals := 80 } : Room) [.ref a0] q σ (.inr none) σ' (fun z => z = v) := by
  refine kx_in (by decide +kernel) (Nat.le_of_ble_eq_true rfl) ?_
  intro Γ K hnm hsz hQ
  refine kx_lv (lv' := [(0, .ref a0)]) rfl ?_
  unfold m_X6_init at hf
  refine kx_aload_n K dX6_init_0 rfl 0 rfl ?_
  refine kx_oinit K w_10 w_11 w_12 (by decide) (by decide) dX6_init_1 ?_
  refine kx_aload_n K dX6_init_4 rfl 0 rfl ?_
  refine kx_new K n_X6_7 (by decide) (by decide) dX6_init_5 ?_
  refine kx_dup K dX6_init_8 rfl ?_
  refine kx_ci (As := []) (k' := 7) (n' := 54) K c_X6_9 (by decide) rfl rfl (Nat.le_of_ble_eq_true rfl) dX6_init_9 hf (fun _ _ h => k_X0_init h) (fun z3 σ2 hf => ?_)
  refine kx_putF K f_X6_10 hnm rfl dX6_init_12 rfl rfl hf (fun σ4 hf => ?_)
  refine kx_aload_n K dX6_init_15 rfl 0 rfl ?_
  refine kx_gr K f_X6_10 dX6_init_16 hf (fun x5 hf => ?_)
  refine kx_cv0v K c_X6_16 (by decide) (Nat.le_of_ble_eq_true rfl) dX6_init_19 hf (fun _ _ _ h => k_X0_begin h) (fun _ σ6 hf => ?_)
  refine kx_aload_n K dX6_init_22 rfl 0 rfl ?_
  refine kx_new K n_X6_7 (by decide) (by decide) dX6_init_23 ?_
  refine kx_dup K dX6_init_26 rfl ?_
  refine kx_ci (As := []) (k' := 14) (n' := 108) K c_X6_9 (by decide) rfl rfl (Nat.le_of_ble_eq_true rfl) dX6_init_27 hf (fun _ _ h => k_X0_init h) (fun z9 σ8 hf => ?_)
  refine kx_putF K f_X6_19 hnm rfl dX6_init_30 rfl rfl hf (fun σ10 hf => ?_)
  refine kx_aload_n K dX6_init_33 rfl 0 rfl ?_
  refine kx_new K n_X6_22 (by decide) (by decide) dX6_init_34 ?_
  refine kx_dup K dX6_init_37 rfl ?_
  refine kx_ci (As := []) (k' := 36) (n' := 1964) K c_X6_24 (by decide) rfl rfl (Nat.le_of_ble_eq_true rfl) dX6_init_38 hf (fun _ _ h => k_X4_init h) (fun z13 σ12 hf => ?_)
  refine kx_putF K f_X6_25 hnm rfl dX6_init_41 rfl rfl hf (fun σ14 hf => ?_)
  refine kx_aload_n K dX6_init_44 rfl 0 rfl ?_
  refine kx_new K n_X6_29 (by decide) (by decide) dX6_init_45 ?_
  refine kx_dup K dX6_init_48 rfl ?_
  refine kx_ci (As := []) (k' := 45) (n' := 2528) K c_X6_31 (by decide) rfl rfl (Nat.le_of_ble_eq_true rfl) dX6_init_49 hf (fun _ _ h => k_X3_init h) (fun z17 σ16 hf => ?_)
  refine kx_putF K f_X6_32 hnm rfl dX6_init_52 rfl rfl hf (fun σ18 hf => ?_)
  refine kx_aload_n K dX6_init_55 rfl 0 rfl ?_
  refine kx_bipush (v := 10) K dX6_init_56 (by decide) ?_
  refine kx_newq (M := 10) K w_13 (by decide) (by decide) (by decide) (by decide) dX6_init_58 ?_
  refine kx_putF K f_X6_36 hnm rfl dX6_init_61 rfl rfl hf (fun σ19 hf => ?_)
  refine kx_iconst (v := 0) K dX6_init_64 (by decide) ?_
  refine kx_istore_n K [(1, .int (0 : Int32)), (0, .ref a0)] dX6_init_65 rfl (by decide) rfl ?_
  refine kx_iload_n K dX6_init_66 rfl 0 rfl ?_
  refine kx_bipush (v := 10) K dX6_init_67 (by decide) ?_
  refine kx_icmp_ge K 91 hf dX6_init_69 (by decide) (fun hf => by cases hf) (fun hf => ?_)
  refine kx_aload_n K dX6_init_72 rfl 1 rfl ?_
  refine kx_gr K f_X6_36 dX6_init_73 hf (fun x20 hf => ?_)
  refine kx_iload_n K dX6_init_76 rfl 0 rfl ?_
  refine kx_new K n_X6_7 (by decide) (by decide) dX6_init_77 ?_
  refine kx_dup K dX6_init_80 rfl ?_
  refine kx_ci (As := []) (k' := 53) (n' := 2592) K c_X6_9 (by decide) rfl rfl (Nat.le_of_ble_eq_true rfl) dX6_init_81 hf (fun _ _ h => k_X0_init h) (fun z23 σ22 hf => ?_)
  refine kx_uq K dX6_init_84 hf (fun σ24 hf => ?_)
  refine kx_iinc (v := (1 : Int32)) K [(1, .int (1 : Int32)), (0, .ref a0)] dX6_init_85 0 rfl (by decide) (by decide) rfl ?_
  refine kx_goto K 66 dX6_init_88 (by decide) ?_
  refine kx_iload_n K dX6_init_66 rfl 0 rfl ?_
  refine kx_bipush (v := 10) K dX6_init_67 (by decide) ?_
  refine kx_icmp_ge K 91 hf dX6_init_69 (by decide) (fun hf => by cases hf) (fun hf => ?_)
  refine kx_aload_n K dX6_init_72 rfl 1 rfl ?_
  refine kx_gr K f_X6_36 dX6_init_73 hf (fun x25 hf => ?_)
  refine kx_iload_n K dX6_init_76 rfl 0 rfl ?_
  refine kx_new K n_X6_7 (by decide) (by decide) dX6_init_77 ?_
  refine kx_dup K dX6_init_80 rfl ?_
  refine kx_ci (As := []) (k' := 60) (n' := 2646) K c_X6_9 (by decide) rfl rfl (Nat.le_of_ble_eq_true rfl) dX6_init_81 hf (fun _ _ h => k_X0_init h) (fun z28 σ27 hf => ?_)
  refine kx_uq K dX6_init_84 hf (fun σ29 hf => ?_)
  refine kx_iinc (v := (2 : Int32)) K [(1, .int (2 : Int32)), (0, .ref a0)] dX6_init_85 0 rfl (by decide) (by decide) rfl ?_
  refine kx_goto K 66 dX6_init_88 (by decide) ?_
  refine kx_iload_n K dX6_init_66 rfl 0 rfl ?_
  refine kx_bipush (v := 10) K dX6_init_67 (by decide) ?_
  refine kx_icmp_ge K 91 hf dX6_init_69 (by decide) (fun hf => by cases hf) (fun hf => ?_)
  refine kx_aload_n K dX6_init_72 rfl 1 rfl ?_
  refine kx_gr K f_X6_36 dX6_init_73 hf (fun x30 hf => ?_)
  refine kx_iload_n K dX6_init_76 rfl 0 rfl ?_
  refine kx_new K n_X6_7 (by decide) (by decide) dX6_init_77 ?_
  refine kx_dup K dX6_init_80 rfl ?_
  refine kx_ci (As := []) (k' := 67) (n' := 2700) K c_X6_9 (by decide) rfl rfl (Nat.le_of_ble_eq_true rfl) dX6_init_81 hf (fun _ _ h => k_X0_init h) (fun z33 σ32 hf => ?_)
  refine kx_uq K dX6_init_84 hf (fun σ34 hf => ?_)
  refine kx_iinc (v := (3 : Int32)) K [(1, .int (3 : Int32)), (0, .ref a0)] dX6_init_85 0 rfl (by decide) (by decide) rfl ?_
  refine kx_goto K 66 dX6_init_88 (by decide) ?_
  refine kx_iload_n K dX6_init_66 rfl 0 rfl ?_
  refine kx_bipush (v := 10) K dX6_init_67 (by decide) ?_
  refine kx_icmp_ge K 91 hf dX6_init_69 (by decide) (fun hf => by cases hf) (fun hf => ?_)
  refine kx_aload_n K dX6_init_72 rfl 1 rfl ?_
  refine kx_gr K f_X6_36 dX6_init_73 hf (fun x35 hf => ?_)
  refine kx_iload_n K dX6_init_76 rfl 0 rfl ?_
  refine kx_new K n_X6_7 (by decide) (by decide) dX6_init_77 ?_
  refine kx_dup K dX6_init_80 rfl ?_
  refine kx_ci (As := []) (k' := 74) (n' := 2754) K c_X6_9 (by decide) rfl rfl (Nat.le_of_ble_eq_true rfl) dX6_init_81 hf (fun _ _ h => k_X0_init h) (fun z38 σ37 hf => ?_)
  refine kx_uq K dX6_init_84 hf (fun σ39 hf => ?_)
  refine kx_iinc (v := (4 : Int32)) K [(1, .int (4 : Int32)), (0, .ref a0)] dX6_init_85 0 rfl (by decide) (by decide) rfl ?_
  refine kx_goto K 66 dX6_init_88 (by decide) ?_
  refine kx_iload_n K dX6_init_66 rfl 0 rfl ?_
  refine kx_bipush (v := 10) K dX6_init_67 (by decide) ?_
  refine kx_icmp_ge K 91 hf dX6_init_69 (by decide) (fun hf => by cases hf) (fun hf => ?_)
  refine kx_aload_n K dX6_init_72 rfl 1 rfl ?_
  refine kx_gr K f_X6_36 dX6_init_73 hf (fun x40 hf => ?_)
  refine kx_iload_n K dX6_init_76 rfl 0 rfl ?_
  refine kx_new K n_X6_7 (by decide) (by decide) dX6_init_77 ?_
  refine kx_dup K dX6_init_80 rfl ?_
  refine kx_ci (As := []) (k' := 81) (n' := 2808) K c_X6_9 (by decide) rfl rfl (Nat.le_of_ble_eq_true rfl) dX6_init_81 hf (fun _ _ h => k_X0_init h) (fun z43 σ42 hf => ?_)
  refine kx_uq K dX6_init_84 hf (fun σ44 hf => ?_)
  refine kx_iinc (v := (5 : Int32)) K [(1, .int (5 : Int32)), (0, .ref a0)] dX6_init_85 0 rfl (by decide) (by decide) rfl ?_
  refine kx_goto K 66 dX6_init_88 (by decide) ?_
  refine kx_iload_n K dX6_init_66 rfl 0 rfl ?_
  refine kx_bipush (v := 10) K dX6_init_67 (by decide) ?_
  refine kx_icmp_ge K 91 hf dX6_init_69 (by decide) (fun hf => by cases hf) (fun hf => ?_)
  refine kx_aload_n K dX6_init_72 rfl 1 rfl ?_
  refine kx_gr K f_X6_36 dX6_init_73 hf (fun x45 hf => ?_)
  refine kx_iload_n K dX6_init_76 rfl 0 rfl ?_
  refine kx_new K n_X6_7 (by decide) (by decide) dX6_init_77 ?_
  refine kx_dup K dX6_init_80 rfl ?_
  refine kx_ci (As := []) (k' := 88) (n' := 2862) K c_X6_9 (by decide) rfl rfl (Nat.le_of_ble_eq_true rfl) dX6_init_81 hf (fun _ _ h => k_X0_init h) (fun z48 σ47 hf => ?_)
  refine kx_uq K dX6_init_84 hf (fun σ49 hf => ?_)
  refine kx_iinc (v := (6 : Int32)) K [(1, .int (6 : Int32)), (0, .ref a0)] dX6_init_85 0 rfl (by decide) (by decide) rfl ?_
  refine kx_goto K 66 dX6_init_88 (by decide) ?_
  refine kx_iload_n K dX6_init_66 rfl 0 rfl ?_
  refine kx_bipush (v := 10) K dX6_init_67 (by decide) ?_
  refine kx_icmp_ge K 91 hf dX6_init_69 (by decide) (fun hf => by cases hf) (fun hf => ?_)
  refine kx_aload_n K dX6_init_72 rfl 1 rfl ?_
  refine kx_gr K f_X6_36 dX6_init_73 hf (fun x50 hf => ?_)
  refine kx_iload_n K dX6_init_76 rfl 0 rfl ?_
  refine kx_new K n_X6_7 (by decide) (by decide) dX6_init_77 ?_
  refine kx_dup K dX6_init_80 rfl ?_
  refine kx_ci (As := []) (k' := 95) (n' := 2916) K c_X6_9 (by decide) rfl rfl (Nat.le_of_ble_eq_true rfl) dX6_init_81 hf (fun _ _ h => k_X0_init h) (fun z53 σ52 hf => ?_)
  refine kx_uq K dX6_init_84 hf (fun σ54 hf => ?_)
  refine kx_iinc (v := (7 : Int32)) K [(1, .int (7 : Int32)), (0, .ref a0)] dX6_init_85 0 rfl (by decide) (by decide) rfl ?_
  refine kx_goto K 66 dX6_init_88 (by decide) ?_
  refine kx_iload_n K dX6_init_66 rfl 0 rfl ?_
  refine kx_bipush (v := 10) K dX6_init_67 (by decide) ?_
  refine kx_icmp_ge K 91 hf dX6_init_69 (by decide) (fun hf => by cases hf) (fun hf => ?_)
  refine kx_aload_n K dX6_init_72 rfl 1 rfl ?_
  refine kx_gr K f_X6_36 dX6_init_73 hf (fun x55 hf => ?_)
  refine kx_iload_n K dX6_init_76 rfl 0 rfl ?_
  refine kx_new K n_X6_7 (by decide) (by decide) dX6_init_77 ?_
  refine kx_dup K dX6_init_80 rfl ?_
  refine kx_ci (As := []) (k' := 102) (n' := 2970) K c_X6_9 (by decide) rfl rfl (Nat.le_of_ble_eq_true rfl) dX6_init_81 hf (fun _ _ h => k_X0_init h) (fun z58 σ57 hf => ?_)
  refine kx_uq K dX6_init_84 hf (fun σ59 hf => ?_)
  refine kx_iinc (v := (8 : Int32)) K [(1, .int (8 : Int32)), (0, .ref a0)] dX6_init_85 0 rfl (by decide) (by decide) rfl ?_
  refine kx_goto K 66 dX6_init_88 (by decide) ?_
  refine kx_iload_n K dX6_init_66 rfl 0 rfl ?_
  refine kx_bipush (v := 10) K dX6_init_67 (by decide) ?_
  refine kx_icmp_ge K 91 hf dX6_init_69 (by decide) (fun hf => by cases hf) (fun hf => ?_)
  refine kx_aload_n K dX6_init_72 rfl 1 rfl ?_
  refine kx_gr K f_X6_36 dX6_init_73 hf (fun x60 hf => ?_)
  refine kx_iload_n K dX6_init_76 rfl 0 rfl ?_
  refine kx_new K n_X6_7 (by decide) (by decide) dX6_init_77 ?_
  refine kx_dup K dX6_init_80 rfl ?_
  refine kx_ci (As := []) (k' := 109) (n' := 3024) K c_X6_9 (by decide) rfl rfl (Nat.le_of_ble_eq_true rfl) dX6_init_81 hf (fun _ _ h => k_X0_init h) (fun z63 σ62 hf => ?_)
  refine kx_uq K dX6_init_84 hf (fun σ64 hf => ?_)
  refine kx_iinc (v := (9 : Int32)) K [(1, .int (9 : Int32)), (0, .ref a0)] dX6_init_85 0 rfl (by decide) (by decide) rfl ?_
  refine kx_goto K 66 dX6_init_88 (by decide) ?_
  refine kx_iload_n K dX6_init_66 rfl 0 rfl ?_
  refine kx_bipush (v := 10) K dX6_init_67 (by decide) ?_
  refine kx_icmp_ge K 91 hf dX6_init_69 (by decide) (fun hf => by cases hf) (fun hf => ?_)
  refine kx_aload_n K dX6_init_72 rfl 1 rfl ?_
  refine kx_gr K f_X6_36 dX6_init_73 hf (fun x65 hf => ?_)
  refine kx_iload_n K dX6_init_76 rfl 0 rfl ?_
  refine kx_new K n_X6_7 (by decide) (by decide) dX6_init_77 ?_
  refine kx_dup K dX6_init_80 rfl ?_
  refine kx_ci (As := []) (k' := 116) (n' := 3078) K c_X6_9 (by decide) rfl rfl (Nat.le_of_ble_eq_true rfl) dX6_init_81 hf (fun _ _ h => k_X0_init h) (fun z68 σ67 hf => ?_)
  refine kx_uq K dX6_init_84 hf (fun σ69 hf => ?_)
  refine kx_iinc (v := (10 : Int32)) K [(1, .int (10 : Int32)), (0, .ref a0)] dX6_init_85 0 rfl (by decide) (by decide) rfl ?_
  refine kx_goto K 66 dX6_init_88 (by decide) ?_
  refine kx_iload_n K dX6_init_66 rfl 0 rfl ?_
  refine kx_bipush (v := 10) K dX6_init_67 (by decide) ?_
  refine kx_icmp_ge K 91 hf dX6_init_69 (by decide) (fun hf => ?_) (fun hf => by cases hf)
  refine kx_aload_n K dX6_init_91 rfl 1 rfl ?_
  refine kx_iconst (v := 0) K dX6_init_92 (by decide) ?_
  refine kx_pi K f_X6_40 dX6_init_93 hf (fun σ70 hf => ?_)
  refine kx_aload_n K dX6_init_96 rfl 1 rfl ?_
  refine kx_iconst (v := 2) K dX6_init_97 (by decide) ?_
  refine kx_newq (M := 2) K w_13 (by decide) (by decide) (by decide) (by decide) dX6_init_98 ?_
  refine kx_putF K f_X6_44 hnm rfl dX6_init_101 rfl rfl hf (fun σ71 hf => ?_)
  refine kx_iconst (v := 0) K dX6_init_104 (by decide) ?_
  refine kx_istore_n K [(1, .int (0 : Int32)), (0, .ref a0)] dX6_init_105 rfl (by decide) rfl ?_
  refine kx_iload_n K dX6_init_106 rfl 0 rfl ?_
  refine kx_iconst (v := 2) K dX6_init_107 (by decide) ?_
  refine kx_icmp_ge K 130 hf dX6_init_108 (by decide) (fun hf => by cases hf) (fun hf => ?_)
  refine kx_aload_n K dX6_init_111 rfl 1 rfl ?_
  refine kx_gr K f_X6_44 dX6_init_112 hf (fun x72 hf => ?_)
  refine kx_iload_n K dX6_init_115 rfl 0 rfl ?_
  refine kx_new K n_X6_7 (by decide) (by decide) dX6_init_116 ?_
  refine kx_dup K dX6_init_119 rfl ?_
  refine kx_ci (As := []) (k' := 124) (n' := 3134) K c_X6_9 (by decide) rfl rfl (Nat.le_of_ble_eq_true rfl) dX6_init_120 hf (fun _ _ h => k_X0_init h) (fun z75 σ74 hf => ?_)
  refine kx_uq K dX6_init_123 hf (fun σ76 hf => ?_)
  refine kx_iinc (v := (1 : Int32)) K [(1, .int (1 : Int32)), (0, .ref a0)] dX6_init_124 0 rfl (by decide) (by decide) rfl ?_
  refine kx_goto K 106 dX6_init_127 (by decide) ?_
  refine kx_iload_n K dX6_init_106 rfl 0 rfl ?_
  refine kx_iconst (v := 2) K dX6_init_107 (by decide) ?_
  refine kx_icmp_ge K 130 hf dX6_init_108 (by decide) (fun hf => by cases hf) (fun hf => ?_)
  refine kx_aload_n K dX6_init_111 rfl 1 rfl ?_
  refine kx_gr K f_X6_44 dX6_init_112 hf (fun x77 hf => ?_)
  refine kx_iload_n K dX6_init_115 rfl 0 rfl ?_
  refine kx_new K n_X6_7 (by decide) (by decide) dX6_init_116 ?_
  refine kx_dup K dX6_init_119 rfl ?_
  refine kx_ci (As := []) (k' := 131) (n' := 3188) K c_X6_9 (by decide) rfl rfl (Nat.le_of_ble_eq_true rfl) dX6_init_120 hf (fun _ _ h => k_X0_init h) (fun z80 σ79 hf => ?_)
  refine kx_uq K dX6_init_123 hf (fun σ81 hf => ?_)
  refine kx_iinc (v := (2 : Int32)) K [(1, .int (2 : Int32)), (0, .ref a0)] dX6_init_124 0 rfl (by decide) (by decide) rfl ?_
  refine kx_goto K 106 dX6_init_127 (by decide) ?_
  refine kx_iload_n K dX6_init_106 rfl 0 rfl ?_
  refine kx_iconst (v := 2) K dX6_init_107 (by decide) ?_
  refine kx_icmp_ge K 130 hf dX6_init_108 (by decide) (fun hf => ?_) (fun hf => by cases hf)
  refine kx_aload_n K dX6_init_130 rfl 1 rfl ?_
  refine kx_iconst (v := 2) K dX6_init_131 (by decide) ?_
  refine kx_newa (kd := 2) (M := 2) (at9 := .boolean) K (by decide) rfl w_29 (by decide) (by decide) (by decide) (by decide) dX6_init_132 ?_
  refine kx_putF K f_X6_47 hnm rfl dX6_init_134 rfl rfl hf (fun σ82 hf => ?_)
  cases hf
  exact kx_vret (v := ()) K hQ (by decide) (by decide) (fun _ h => h) dX6_init_137 rfl
def m_X7_init (σ : ac_H) (a0 : Nat) (q : Nat) : Option (Nat × ac_H) :=
  mo_pv (ac_up σ q (.inl (0, kx_ar 0 183))) a0 7 1 (.ref q) fun σ1 =>
  mo_pv (ac_up σ1 (q + 1) (.inl (1, kx_ar 1 500))) a0 7 2 (.ref (q + 1)) fun σ2 =>
  mo_pv σ2 a0 7 10 (.int (-1 : Int32)) fun σ3 =>
  mo_pv (ac_up σ3 ((q + 1) + 1) (.inl (0, kx_ar 0 183))) a0 7 13 (.ref ((q + 1) + 1)) fun σ4 =>
  mo_gr σ4 a0 7 1 fun x5 =>
  mo_pv σ4 a0 7 14 (.ref x5) fun σ6 =>
  mo_pv (ac_up σ6 (((q + 1) + 1) + 1) (.inl (0, kx_ar 0 183))) a0 7 15 (.ref (((q + 1) + 1) + 1)) fun σ7 =>
  mo_pv (ac_up σ7 ((((q + 1) + 1) + 1) + 1) (.inl (0, kx_ar 0 120))) a0 7 16 (.ref ((((q + 1) + 1) + 1) + 1)) fun σ8 =>
  mo_pv (ac_up σ8 (((((q + 1) + 1) + 1) + 1) + 1) (.inl (0, kx_ar 0 120))) a0 7 17 (.ref (((((q + 1) + 1) + 1) + 1) + 1)) fun σ9 =>
  mo_pv (ac_up σ9 ((((((q + 1) + 1) + 1) + 1) + 1) + 1) (.inl (0, kx_ar 0 120))) a0 7 18 (.ref ((((((q + 1) + 1) + 1) + 1) + 1) + 1)) fun σ10 =>
  mo_pv (ac_up σ10 (((((((q + 1) + 1) + 1) + 1) + 1) + 1) + 1) (.inl (0, kx_ar 0 120))) a0 7 19 (.ref (((((((q + 1) + 1) + 1) + 1) + 1) + 1) + 1)) fun σ11 =>
  mo_pv (ac_up σ11 ((((((((q + 1) + 1) + 1) + 1) + 1) + 1) + 1) + 1) (.inl (0, kx_ar 0 120))) a0 7 20 (.ref ((((((((q + 1) + 1) + 1) + 1) + 1) + 1) + 1) + 1)) fun σ12 =>
  mo_pv (ac_up σ12 (((((((((q + 1) + 1) + 1) + 1) + 1) + 1) + 1) + 1) + 1) (.inl (0, kx_ar 0 240))) a0 7 22 (.ref (((((((((q + 1) + 1) + 1) + 1) + 1) + 1) + 1) + 1) + 1)) fun σ13 =>
  mo_pv (ac_up σ13 ((((((((((q + 1) + 1) + 1) + 1) + 1) + 1) + 1) + 1) + 1) + 1) (.inl (2, kx_ar 2 144))) a0 7 28 (.ref ((((((((((q + 1) + 1) + 1) + 1) + 1) + 1) + 1) + 1) + 1) + 1)) fun σ14 =>
  mo_pv (ac_up σ14 (((((((((((q + 1) + 1) + 1) + 1) + 1) + 1) + 1) + 1) + 1) + 1) + 1) (.inl (0, kx_ar 0 1830))) a0 7 37 (.ref (((((((((((q + 1) + 1) + 1) + 1) + 1) + 1) + 1) + 1) + 1) + 1) + 1)) fun σ15 =>
  mo_pv (ac_up σ15 ((((((((((((q + 1) + 1) + 1) + 1) + 1) + 1) + 1) + 1) + 1) + 1) + 1) + 1) (.inl (0, kx_ar 0 366))) a0 7 38 (.ref ((((((((((((q + 1) + 1) + 1) + 1) + 1) + 1) + 1) + 1) + 1) + 1) + 1) + 1)) fun σ16 =>
  mo_pv (ac_up σ16 (((((((((((((q + 1) + 1) + 1) + 1) + 1) + 1) + 1) + 1) + 1) + 1) + 1) + 1) + 1) (.inl (2, kx_ar 2 2))) a0 7 39 (.ref (((((((((((((q + 1) + 1) + 1) + 1) + 1) + 1) + 1) + 1) + 1) + 1) + 1) + 1) + 1)) fun σ17 =>
  mo_gr σ17 a0 7 1 fun x18 =>
  mo_cs (m_X7_begins σ17 x18 (0 : Int32) (1 : Int32) (10 : Int32)) fun _ σ19 =>
  some (((((((((((((((q + 1) + 1) + 1) + 1) + 1) + 1) + 1) + 1) + 1) + 1) + 1) + 1) + 1) + 1), σ19)
set_option maxRecDepth 100000 in
set_option maxHeartbeats 4000000 in
theorem k_X7_init {Λ : ex_L} {q : Nat} {σ σ' : ac_H} {a0 : Nat} {v : Nat} (hf : m_X7_init σ a0 q = some (v, σ')) : kx_C Λ yX7_init (.code yX7_init cX7_init 1 none) ({ frames := 1, cells := 14, slots := 4231, locals := 24 } : Room) [.ref a0] q σ (.inr none) σ' (fun z => z = v) := by
  refine kx_in (by decide +kernel) (Nat.le_of_ble_eq_true rfl) ?_
  intro Γ K hnm hsz hQ
  refine kx_lv (lv' := [(0, .ref a0)]) rfl ?_
  unfold m_X7_init at hf
  refine kx_aload_n K dX7_init_0 rfl 0 rfl ?_
  refine kx_oinit K w_106 w_11 w_12 (by decide) (by decide) dX7_init_1 ?_
  refine kx_aload_n K dX7_init_4 rfl 0 rfl ?_
  refine kx_sipush (v := 183) K dX7_init_5 (by decide) ?_
  refine kx_newa (kd := 0) (M := 183) (at9 := .int) K (by decide) rfl w_35 (by decide) (by decide) (by decide) (by decide) dX7_init_8 ?_
  refine kx_putF K f_X7_7 hnm rfl dX7_init_10 rfl rfl hf (fun σ1 hf => ?_)
  refine kx_aload_n K dX7_init_13 rfl 0 rfl ?_
  refine kx_sipush (v := 500) K dX7_init_14 (by decide) ?_
  refine kx_newa (kd := 1) (M := 500) (at9 := .byte) K (by decide) rfl w_108 (by decide) (by decide) (by decide) (by decide) dX7_init_17 ?_
  refine kx_putF K f_X7_13 hnm rfl dX7_init_19 rfl rfl hf (fun σ2 hf => ?_)
  refine kx_aload_n K dX7_init_22 rfl 0 rfl ?_
  refine kx_iconst (v := -1) K dX7_init_23 (by decide) ?_
  refine kx_pi K f_X7_17 dX7_init_24 hf (fun σ3 hf => ?_)
  refine kx_aload_n K dX7_init_27 rfl 0 rfl ?_
  refine kx_sipush (v := 183) K dX7_init_28 (by decide) ?_
  refine kx_newa (kd := 0) (M := 183) (at9 := .int) K (by decide) rfl w_35 (by decide) (by decide) (by decide) (by decide) dX7_init_31 ?_
  refine kx_putF K f_X7_21 hnm rfl dX7_init_33 rfl rfl hf (fun σ4 hf => ?_)
  refine kx_aload_n K dX7_init_36 rfl 0 rfl ?_
  refine kx_aload_n K dX7_init_37 rfl 0 rfl ?_
  refine kx_gr K f_X7_7 dX7_init_38 hf (fun x5 hf => ?_)
  refine kx_pa K f_X7_24 dX7_init_41 hf (fun σ6 hf => ?_)
  refine kx_aload_n K dX7_init_44 rfl 0 rfl ?_
  refine kx_sipush (v := 183) K dX7_init_45 (by decide) ?_
  refine kx_newa (kd := 0) (M := 183) (at9 := .int) K (by decide) rfl w_35 (by decide) (by decide) (by decide) (by decide) dX7_init_48 ?_
  refine kx_putF K f_X7_27 hnm rfl dX7_init_50 rfl rfl hf (fun σ7 hf => ?_)
  refine kx_aload_n K dX7_init_53 rfl 0 rfl ?_
  refine kx_bipush (v := 120) K dX7_init_54 (by decide) ?_
  refine kx_newa (kd := 0) (M := 120) (at9 := .int) K (by decide) rfl w_35 (by decide) (by decide) (by decide) (by decide) dX7_init_56 ?_
  refine kx_putF K f_X7_30 hnm rfl dX7_init_58 rfl rfl hf (fun σ8 hf => ?_)
  refine kx_aload_n K dX7_init_61 rfl 0 rfl ?_
  refine kx_bipush (v := 120) K dX7_init_62 (by decide) ?_
  refine kx_newa (kd := 0) (M := 120) (at9 := .int) K (by decide) rfl w_35 (by decide) (by decide) (by decide) (by decide) dX7_init_64 ?_
  refine kx_putF K f_X7_33 hnm rfl dX7_init_66 rfl rfl hf (fun σ9 hf => ?_)
  refine kx_aload_n K dX7_init_69 rfl 0 rfl ?_
  refine kx_bipush (v := 120) K dX7_init_70 (by decide) ?_
  refine kx_newa (kd := 0) (M := 120) (at9 := .int) K (by decide) rfl w_35 (by decide) (by decide) (by decide) (by decide) dX7_init_72 ?_
  refine kx_putF K f_X7_36 hnm rfl dX7_init_74 rfl rfl hf (fun σ10 hf => ?_)
  refine kx_aload_n K dX7_init_77 rfl 0 rfl ?_
  refine kx_bipush (v := 120) K dX7_init_78 (by decide) ?_
  refine kx_newa (kd := 0) (M := 120) (at9 := .int) K (by decide) rfl w_35 (by decide) (by decide) (by decide) (by decide) dX7_init_80 ?_
  refine kx_putF K f_X7_39 hnm rfl dX7_init_82 rfl rfl hf (fun σ11 hf => ?_)
  refine kx_aload_n K dX7_init_85 rfl 0 rfl ?_
  refine kx_bipush (v := 120) K dX7_init_86 (by decide) ?_
  refine kx_newa (kd := 0) (M := 120) (at9 := .int) K (by decide) rfl w_35 (by decide) (by decide) (by decide) (by decide) dX7_init_88 ?_
  refine kx_putF K f_X7_42 hnm rfl dX7_init_90 rfl rfl hf (fun σ12 hf => ?_)
  refine kx_aload_n K dX7_init_93 rfl 0 rfl ?_
  refine kx_sipush (v := 240) K dX7_init_94 (by decide) ?_
  refine kx_newa (kd := 0) (M := 240) (at9 := .int) K (by decide) rfl w_35 (by decide) (by decide) (by decide) (by decide) dX7_init_97 ?_
  refine kx_putF K f_X7_45 hnm rfl dX7_init_99 rfl rfl hf (fun σ13 hf => ?_)
  refine kx_aload_n K dX7_init_102 rfl 0 rfl ?_
  refine kx_sipush (v := 144) K dX7_init_103 (by decide) ?_
  refine kx_newa (kd := 2) (M := 144) (at9 := .boolean) K (by decide) rfl w_29 (by decide) (by decide) (by decide) (by decide) dX7_init_106 ?_
  refine kx_putF K f_X7_48 hnm rfl dX7_init_108 rfl rfl hf (fun σ14 hf => ?_)
  refine kx_aload_n K dX7_init_111 rfl 0 rfl ?_
  refine kx_sipush (v := 1830) K dX7_init_112 (by decide) ?_
  refine kx_newa (kd := 0) (M := 1830) (at9 := .int) K (by decide) rfl w_35 (by decide) (by decide) (by decide) (by decide) dX7_init_115 ?_
  refine kx_putF K f_X7_52 hnm rfl dX7_init_117 rfl rfl hf (fun σ15 hf => ?_)
  refine kx_aload_n K dX7_init_120 rfl 0 rfl ?_
  refine kx_sipush (v := 366) K dX7_init_121 (by decide) ?_
  refine kx_newa (kd := 0) (M := 366) (at9 := .int) K (by decide) rfl w_35 (by decide) (by decide) (by decide) (by decide) dX7_init_124 ?_
  refine kx_putF K f_X7_55 hnm rfl dX7_init_126 rfl rfl hf (fun σ16 hf => ?_)
  refine kx_aload_n K dX7_init_129 rfl 0 rfl ?_
  refine kx_iconst (v := 2) K dX7_init_130 (by decide) ?_
  refine kx_newa (kd := 2) (M := 2) (at9 := .boolean) K (by decide) rfl w_29 (by decide) (by decide) (by decide) (by decide) dX7_init_131 ?_
  refine kx_putF K f_X7_58 hnm rfl dX7_init_133 rfl rfl hf (fun σ17 hf => ?_)
  refine kx_aload_n K dX7_init_136 rfl 0 rfl ?_
  refine kx_gr K f_X7_7 dX7_init_137 hf (fun x18 hf => ?_)
  refine kx_iconst (v := 0) K dX7_init_140 (by decide) ?_
  refine kx_iconst (v := 1) K dX7_init_141 (by decide) ?_
  refine kx_bipush (v := 10) K dX7_init_142 (by decide) ?_
  refine kx_cs4v K c_X7_61 (by decide) (Nat.le_of_ble_eq_true rfl) dX7_init_144 hf (fun _ _ _ h => k_X7_begins h) (fun _ σ19 hf => ?_)
  cases hf
  exact kx_vret (v := ()) K hQ (by decide) (by decide) (fun _ h => h) dX7_init_147 rfl

def m_X6_init (σ : ac_H) (a0 : Nat) (q : Nat) : Option (Nat × ac_H) :=
  mo_cs (m_X0_init (ac_up σ q (.inr (0, [.null, .null, .null, .null, .int 0, .null]))) q (q + 1)) fun z3 σ2 =>
  mo_pv σ2 a0 6 0 (.ref q) fun σ4 =>
  mo_gr σ4 a0 6 0 fun x5 =>
  mo_cv σ4 x5 0 (m_X0_begin σ4 x5) fun _ σ6 =>
  mo_cs (m_X0_init (ac_up σ6 z3 (.inr (0, [.null, .null, .null, .null, .int 0, .null]))) z3 (z3 + 1)) fun z9 σ8 =>
  mo_pv σ8 a0 6 1 (.ref z3) fun σ10 =>
  mo_cs (m_X4_init (ac_up σ10 z9 (.inr (4, [.null, .null, .null, .null, .int 0, .int 0, .int 0, .int 0, .int 0, .int 0, .int 0, .int 0, .int 0, .int 0, .int 0]))) z9 (z9 + 1)) fun z13 σ12 =>
  mo_pv σ12 a0 6 2 (.ref z9) fun σ14 =>
  mo_cs (m_X3_init (ac_up σ14 z13 (.inr (3, [.null, .int 0, .int 0, .int 0, .int 0, .int 0, .int 0, .int 0, .int 0, .null]))) z13 (z13 + 1)) fun z17 σ16 =>
  mo_pv σ16 a0 6 3 (.ref z13) fun σ18 =>
  mo_pv (ac_up σ18 z17 (.inl (4, 10, .inr (.inr (.inr (.inr (fun _ => none))))))) a0 6 4 (.ref z17) fun σ19 =>
  if (0 : Int32) < (10 : Int32) then
  (mo_gr σ19 a0 6 4 fun x20 =>
  mo_cs (m_X0_init (ac_up σ19 (z17 + 1) (.inr (0, [.null, .null, .null, .null, .int 0, .null]))) (z17 + 1) ((z17 + 1) + 1)) fun z23 σ22 =>
  mo_uq σ22 x20 (0 : Int32) (z17 + 1) fun σ24 =>
  if (1 : Int32) < (10 : Int32) then
  (mo_gr σ24 a0 6 4 fun x25 =>
  mo_cs (m_X0_init (ac_up σ24 z23 (.inr (0, [.null, .null, .null, .null, .int 0, .null]))) z23 (z23 + 1)) fun z28 σ27 =>
  mo_uq σ27 x25 (1 : Int32) z23 fun σ29 =>
  if (2 : Int32) < (10 : Int32) then
  (mo_gr σ29 a0 6 4 fun x30 =>
  mo_cs (m_X0_init (ac_up σ29 z28 (.inr (0, [.null, .null, .null, .null, .int 0, .null]))) z28 (z28 + 1)) fun z33 σ32 =>
  mo_uq σ32 x30 (2 : Int32) z28 fun σ34 =>
  if (3 : Int32) < (10 : Int32) then
  (mo_gr σ34 a0 6 4 fun x35 =>
  mo_cs (m_X0_init (ac_up σ34 z33 (.inr (0, [.null, .null, .null, .null, .int 0, .null]))) z33 (z33 + 1)) fun z38 σ37 =>
  mo_uq σ37 x35 (3 : Int32) z33 fun σ39 =>
  if (4 : Int32) < (10 : Int32) then
  (mo_gr σ39 a0 6 4 fun x40 =>
  mo_cs (m_X0_init (ac_up σ39 z38 (.inr (0, [.null, .null, .null, .null, .int 0, .null]))) z38 (z38 + 1)) fun z43 σ42 =>
  mo_uq σ42 x40 (4 : Int32) z38 fun σ44 =>
  if (5 : Int32) < (10 : Int32) then
  (mo_gr σ44 a0 6 4 fun x45 =>
  mo_cs (m_X0_init (ac_up σ44 z43 (.inr (0, [.null, .null, .null, .null, .int 0, .null]))) z43 (z43 + 1)) fun z48 σ47 =>
  mo_uq σ47 x45 (5 : Int32) z43 fun σ49 =>
  if (6 : Int32) < (10 : Int32) then
  (mo_gr σ49 a0 6 4 fun x50 =>
  mo_cs (m_X0_init (ac_up σ49 z48 (.inr (0, [.null, .null, .null, .null, .int 0, .null]))) z48 (z48 + 1)) fun z53 σ52 =>
  mo_uq σ52 x50 (6 : Int32) z48 fun σ54 =>
  if (7 : Int32) < (10 : Int32) then
  (mo_gr σ54 a0 6 4 fun x55 =>
  mo_cs (m_X0_init (ac_up σ54 z53 (.inr (0, [.null, .null, .null, .null, .int 0, .null]))) z53 (z53 + 1)) fun z58 σ57 =>
  mo_uq σ57 x55 (7 : Int32) z53 fun σ59 =>
  if (8 : Int32) < (10 : Int32) then
  (mo_gr σ59 a0 6 4 fun x60 =>
  mo_cs (m_X0_init (ac_up σ59 z58 (.inr (0, [.null, .null, .null, .null, .int 0, .null]))) z58 (z58 + 1)) fun z63 σ62 =>
  mo_uq σ62 x60 (8 : Int32) z58 fun σ64 =>
  if (9 : Int32) < (10 : Int32) then
  (mo_gr σ64 a0 6 4 fun x65 =>
  mo_cs (m_X0_init (ac_up σ64 z63 (.inr (0, [.null, .null, .null, .null, .int 0, .null]))) z63 (z63 + 1)) fun z68 σ67 =>
  mo_uq σ67 x65 (9 : Int32) z63 fun σ69 =>
  if (10 : Int32) < (10 : Int32) then
  (none)
  else
  (mo_pv σ69 a0 6 5 (.int (0 : Int32)) fun σ70 =>
  mo_pv (ac_up σ70 z68 (.inl (4, 2, .inr (.inr (.inr (.inr (fun _ => none))))))) a0 6 6 (.ref z68) fun σ71 =>
  if (0 : Int32) < (2 : Int32) then
  (mo_gr σ71 a0 6 6 fun x72 =>
  mo_cs (m_X0_init (ac_up σ71 (z68 + 1) (.inr (0, [.null, .null, .null, .null, .int 0, .null]))) (z68 + 1) ((z68 + 1) + 1)) fun z75 σ74 =>
  mo_uq σ74 x72 (0 : Int32) (z68 + 1) fun σ76 =>
  if (1 : Int32) < (2 : Int32) then
  (mo_gr σ76 a0 6 6 fun x77 =>
  mo_cs (m_X0_init (ac_up σ76 z75 (.inr (0, [.null, .null, .null, .null, .int 0, .null]))) z75 (z75 + 1)) fun z80 σ79 =>
  mo_uq σ79 x77 (1 : Int32) z75 fun σ81 =>
  if (2 : Int32) < (2 : Int32) then
  (none)
  else
  (mo_pv (ac_up σ81 z80 (.inl (2, kx_ar 2 2))) a0 6 7 (.ref z80) fun σ82 =>
  some ((z80 + 1), σ82)))
  else
  (none))
  else
  (none)))
  else
  (none))
  else
  (none))
  else
  (none))
  else
  (none))
  else
  (none))
  else
  (none))
  else
  (none))
  else
  (none))
  else
  (none))
  else
  (none)
set_option maxRecDepth 100000 in
set_option maxHeartbeats 4000000 in
theorem k_X6_init {Λ : ex_L} {q : Nat} {σ σ' : ac_H} {a0 : Nat} {v : Nat} (hf : m_X6_init σ a0 q = some (v, σ')) : kx_C Λ yX6_init (.code yX6_init cX6_init 2 none) ({ frames := 4, cells := 132, slots := 3190, locals := 80 } : Room) [.ref a0] q σ (.inr none) σ' (fun z => z = v) := by
  refine kx_in (by decide +kernel) (Nat.le_of_ble_eq_true rfl) ?_
  intro Γ K hnm hsz hQ
  refine kx_lv (lv' := [(0, .ref a0)]) rfl ?_
  unfold m_X6_init at hf
  refine kx_aload_n K dX6_init_0 rfl 0 rfl ?_
  refine kx_oinit K w_7 w_8 w_9 (by decide) (by decide) dX6_init_1 ?_
  refine kx_aload_n K dX6_init_4 rfl 0 rfl ?_
  refine kx_new K n_X6_7 (by decide) (by decide) dX6_init_5 ?_
  refine kx_dup K dX6_init_8 rfl ?_
  refine kx_ci (rmy := { frames := 2, cells := 6, slots := 48, locals := 40 }) (k' := 7) (n' := 54) (As := []) K c_X6_9 ⟨by decide, by decide, by show 1 + 6 = 7; omega, by show 6 + 48 = 54; omega, (by decide), (by decide)⟩ rfl rfl (Nat.le_of_ble_eq_true rfl) dX6_init_9 hf (fun _ _ h => k_X0_init h) (fun z3 σ2 hf => ?_)
  refine kx_putF K f_X6_10 hnm rfl dX6_init_12 rfl rfl hf (fun σ4 hf => ?_)
  refine kx_aload_n K dX6_init_15 rfl 0 rfl ?_
  refine kx_gr K f_X6_10 dX6_init_16 hf (fun x5 hf => ?_)
  refine kx_cv0v K c_X6_16 ⟨by decide, by decide, rfl, rfl, (by decide), (by decide)⟩ (Nat.le_of_ble_eq_true rfl) dX6_init_19 hf (fun _ _ _ h => k_X0_begin h) (fun _ σ6 hf => ?_)
  refine kx_aload_n K dX6_init_22 rfl 0 rfl ?_
  refine kx_new K n_X6_7 (by decide) (by decide) dX6_init_23 ?_
  refine kx_dup K dX6_init_26 rfl ?_
  refine kx_ci (rmy := { frames := 2, cells := 6, slots := 48, locals := 40 }) (k' := 14) (n' := 108) (As := []) K c_X6_9 ⟨by decide, by decide, by show 8 + 6 = 14; omega, by show 60 + 48 = 108; omega, (by decide), (by decide)⟩ rfl rfl (Nat.le_of_ble_eq_true rfl) dX6_init_27 hf (fun _ _ h => k_X0_init h) (fun z9 σ8 hf => ?_)
  refine kx_putF K f_X6_19 hnm rfl dX6_init_30 rfl rfl hf (fun σ10 hf => ?_)
  refine kx_aload_n K dX6_init_33 rfl 0 rfl ?_
  refine kx_new K n_X6_22 (by decide) (by decide) dX6_init_34 ?_
  refine kx_dup K dX6_init_37 rfl ?_
  refine kx_ci (rmy := { frames := 3, cells := 21, slots := 1841, locals := 60 }) (k' := 36) (n' := 1964) (As := []) K c_X6_24 ⟨by decide, by decide, by show 15 + 21 = 36; omega, by show 123 + 1841 = 1964; omega, (by decide), (by decide)⟩ rfl rfl (Nat.le_of_ble_eq_true rfl) dX6_init_38 hf (fun _ _ h => k_X4_init h) (fun z13 σ12 hf => ?_)
  refine kx_putF K f_X6_25 hnm rfl dX6_init_41 rfl rfl hf (fun σ14 hf => ?_)
  refine kx_aload_n K dX6_init_44 rfl 0 rfl ?_
  refine kx_new K n_X6_29 (by decide) (by decide) dX6_init_45 ?_
  refine kx_dup K dX6_init_48 rfl ?_
  refine kx_ci (rmy := { frames := 3, cells := 8, slots := 554, locals := 60 }) (k' := 45) (n' := 2528) (As := []) K c_X6_31 ⟨by decide, by decide, by show 37 + 8 = 45; omega, by show 1974 + 554 = 2528; omega, (by decide), (by decide)⟩ rfl rfl (Nat.le_of_ble_eq_true rfl) dX6_init_49 hf (fun _ _ h => k_X3_init h) (fun z17 σ16 hf => ?_)
  refine kx_putF K f_X6_32 hnm rfl dX6_init_52 rfl rfl hf (fun σ18 hf => ?_)
  refine kx_aload_n K dX6_init_55 rfl 0 rfl ?_
  refine kx_bipush (v := 10) K dX6_init_56 (by decide) ?_
  refine kx_newq (M := 10) K w_10 (by decide) (by decide) (by decide) (by decide) dX6_init_58 ?_
  refine kx_putF K f_X6_36 hnm rfl dX6_init_61 rfl rfl hf (fun σ19 hf => ?_)
  refine kx_iconst (v := 0) K dX6_init_64 (by decide) ?_
  refine kx_istore_n K [(1, .int (0 : Int32)), (0, .ref a0)] dX6_init_65 rfl (by decide) rfl ?_
  refine kx_iload_n K dX6_init_66 rfl 0 rfl ?_
  refine kx_bipush (v := 10) K dX6_init_67 (by decide) ?_
  refine kx_icmp_ge K 91 hf dX6_init_69 (by decide) (fun hf => by cases hf) (fun hf => ?_)
  refine kx_aload_n K dX6_init_72 rfl 1 rfl ?_
  refine kx_gr K f_X6_36 dX6_init_73 hf (fun x20 hf => ?_)
  refine kx_iload_n K dX6_init_76 rfl 0 rfl ?_
  refine kx_new K n_X6_7 (by decide) (by decide) dX6_init_77 ?_
  refine kx_dup K dX6_init_80 rfl ?_
  refine kx_ci (rmy := { frames := 2, cells := 6, slots := 48, locals := 40 }) (k' := 53) (n' := 2592) (As := []) K c_X6_9 ⟨by decide, by decide, by show 47 + 6 = 53; omega, by show 2544 + 48 = 2592; omega, (by decide), (by decide)⟩ rfl rfl (Nat.le_of_ble_eq_true rfl) dX6_init_81 hf (fun _ _ h => k_X0_init h) (fun z23 σ22 hf => ?_)
  refine kx_uq K dX6_init_84 hf (fun σ24 hf => ?_)
  refine kx_iinc (v := (1 : Int32)) K [(1, .int (1 : Int32)), (0, .ref a0)] dX6_init_85 0 rfl (by decide) (by decide) rfl ?_
  refine kx_goto K 66 dX6_init_88 (by decide) ?_
  refine kx_iload_n K dX6_init_66 rfl 0 rfl ?_
  refine kx_bipush (v := 10) K dX6_init_67 (by decide) ?_
  refine kx_icmp_ge K 91 hf dX6_init_69 (by decide) (fun hf => by cases hf) (fun hf => ?_)
  refine kx_aload_n K dX6_init_72 rfl 1 rfl ?_
  refine kx_gr K f_X6_36 dX6_init_73 hf (fun x25 hf => ?_)
  refine kx_iload_n K dX6_init_76 rfl 0 rfl ?_
  refine kx_new K n_X6_7 (by decide) (by decide) dX6_init_77 ?_
  refine kx_dup K dX6_init_80 rfl ?_
  refine kx_ci (rmy := { frames := 2, cells := 6, slots := 48, locals := 40 }) (k' := 60) (n' := 2646) (As := []) K c_X6_9 ⟨by decide, by decide, by show 54 + 6 = 60; omega, by show 2598 + 48 = 2646; omega, (by decide), (by decide)⟩ rfl rfl (Nat.le_of_ble_eq_true rfl) dX6_init_81 hf (fun _ _ h => k_X0_init h) (fun z28 σ27 hf => ?_)
  refine kx_uq K dX6_init_84 hf (fun σ29 hf => ?_)
  refine kx_iinc (v := (2 : Int32)) K [(1, .int (2 : Int32)), (0, .ref a0)] dX6_init_85 0 rfl (by decide) (by decide) rfl ?_
  refine kx_goto K 66 dX6_init_88 (by decide) ?_
  refine kx_iload_n K dX6_init_66 rfl 0 rfl ?_
  refine kx_bipush (v := 10) K dX6_init_67 (by decide) ?_
  refine kx_icmp_ge K 91 hf dX6_init_69 (by decide) (fun hf => by cases hf) (fun hf => ?_)
  refine kx_aload_n K dX6_init_72 rfl 1 rfl ?_
  refine kx_gr K f_X6_36 dX6_init_73 hf (fun x30 hf => ?_)
  refine kx_iload_n K dX6_init_76 rfl 0 rfl ?_
  refine kx_new K n_X6_7 (by decide) (by decide) dX6_init_77 ?_
  refine kx_dup K dX6_init_80 rfl ?_
  refine kx_ci (rmy := { frames := 2, cells := 6, slots := 48, locals := 40 }) (k' := 67) (n' := 2700) (As := []) K c_X6_9 ⟨by decide, by decide, by show 61 + 6 = 67; omega, by show 2652 + 48 = 2700; omega, (by decide), (by decide)⟩ rfl rfl (Nat.le_of_ble_eq_true rfl) dX6_init_81 hf (fun _ _ h => k_X0_init h) (fun z33 σ32 hf => ?_)
  refine kx_uq K dX6_init_84 hf (fun σ34 hf => ?_)
  refine kx_iinc (v := (3 : Int32)) K [(1, .int (3 : Int32)), (0, .ref a0)] dX6_init_85 0 rfl (by decide) (by decide) rfl ?_
  refine kx_goto K 66 dX6_init_88 (by decide) ?_
  refine kx_iload_n K dX6_init_66 rfl 0 rfl ?_
  refine kx_bipush (v := 10) K dX6_init_67 (by decide) ?_
  refine kx_icmp_ge K 91 hf dX6_init_69 (by decide) (fun hf => by cases hf) (fun hf => ?_)
  refine kx_aload_n K dX6_init_72 rfl 1 rfl ?_
  refine kx_gr K f_X6_36 dX6_init_73 hf (fun x35 hf => ?_)
  refine kx_iload_n K dX6_init_76 rfl 0 rfl ?_
  refine kx_new K n_X6_7 (by decide) (by decide) dX6_init_77 ?_
  refine kx_dup K dX6_init_80 rfl ?_
  refine kx_ci (rmy := { frames := 2, cells := 6, slots := 48, locals := 40 }) (k' := 74) (n' := 2754) (As := []) K c_X6_9 ⟨by decide, by decide, by show 68 + 6 = 74; omega, by show 2706 + 48 = 2754; omega, (by decide), (by decide)⟩ rfl rfl (Nat.le_of_ble_eq_true rfl) dX6_init_81 hf (fun _ _ h => k_X0_init h) (fun z38 σ37 hf => ?_)
  refine kx_uq K dX6_init_84 hf (fun σ39 hf => ?_)
  refine kx_iinc (v := (4 : Int32)) K [(1, .int (4 : Int32)), (0, .ref a0)] dX6_init_85 0 rfl (by decide) (by decide) rfl ?_
  refine kx_goto K 66 dX6_init_88 (by decide) ?_
  refine kx_iload_n K dX6_init_66 rfl 0 rfl ?_
  refine kx_bipush (v := 10) K dX6_init_67 (by decide) ?_
  refine kx_icmp_ge K 91 hf dX6_init_69 (by decide) (fun hf => by cases hf) (fun hf => ?_)
  refine kx_aload_n K dX6_init_72 rfl 1 rfl ?_
  refine kx_gr K f_X6_36 dX6_init_73 hf (fun x40 hf => ?_)
  refine kx_iload_n K dX6_init_76 rfl 0 rfl ?_
  refine kx_new K n_X6_7 (by decide) (by decide) dX6_init_77 ?_
  refine kx_dup K dX6_init_80 rfl ?_
  refine kx_ci (rmy := { frames := 2, cells := 6, slots := 48, locals := 40 }) (k' := 81) (n' := 2808) (As := []) K c_X6_9 ⟨by decide, by decide, by show 75 + 6 = 81; omega, by show 2760 + 48 = 2808; omega, (by decide), (by decide)⟩ rfl rfl (Nat.le_of_ble_eq_true rfl) dX6_init_81 hf (fun _ _ h => k_X0_init h) (fun z43 σ42 hf => ?_)
  refine kx_uq K dX6_init_84 hf (fun σ44 hf => ?_)
  refine kx_iinc (v := (5 : Int32)) K [(1, .int (5 : Int32)), (0, .ref a0)] dX6_init_85 0 rfl (by decide) (by decide) rfl ?_
  refine kx_goto K 66 dX6_init_88 (by decide) ?_
  refine kx_iload_n K dX6_init_66 rfl 0 rfl ?_
  refine kx_bipush (v := 10) K dX6_init_67 (by decide) ?_
  refine kx_icmp_ge K 91 hf dX6_init_69 (by decide) (fun hf => by cases hf) (fun hf => ?_)
  refine kx_aload_n K dX6_init_72 rfl 1 rfl ?_
  refine kx_gr K f_X6_36 dX6_init_73 hf (fun x45 hf => ?_)
  refine kx_iload_n K dX6_init_76 rfl 0 rfl ?_
  refine kx_new K n_X6_7 (by decide) (by decide) dX6_init_77 ?_
  refine kx_dup K dX6_init_80 rfl ?_
  refine kx_ci (rmy := { frames := 2, cells := 6, slots := 48, locals := 40 }) (k' := 88) (n' := 2862) (As := []) K c_X6_9 ⟨by decide, by decide, by show 82 + 6 = 88; omega, by show 2814 + 48 = 2862; omega, (by decide), (by decide)⟩ rfl rfl (Nat.le_of_ble_eq_true rfl) dX6_init_81 hf (fun _ _ h => k_X0_init h) (fun z48 σ47 hf => ?_)
  refine kx_uq K dX6_init_84 hf (fun σ49 hf => ?_)
  refine kx_iinc (v := (6 : Int32)) K [(1, .int (6 : Int32)), (0, .ref a0)] dX6_init_85 0 rfl (by decide) (by decide) rfl ?_
  refine kx_goto K 66 dX6_init_88 (by decide) ?_
  refine kx_iload_n K dX6_init_66 rfl 0 rfl ?_
  refine kx_bipush (v := 10) K dX6_init_67 (by decide) ?_
  refine kx_icmp_ge K 91 hf dX6_init_69 (by decide) (fun hf => by cases hf) (fun hf => ?_)
  refine kx_aload_n K dX6_init_72 rfl 1 rfl ?_
  refine kx_gr K f_X6_36 dX6_init_73 hf (fun x50 hf => ?_)
  refine kx_iload_n K dX6_init_76 rfl 0 rfl ?_
  refine kx_new K n_X6_7 (by decide) (by decide) dX6_init_77 ?_
  refine kx_dup K dX6_init_80 rfl ?_
  refine kx_ci (rmy := { frames := 2, cells := 6, slots := 48, locals := 40 }) (k' := 95) (n' := 2916) (As := []) K c_X6_9 ⟨by decide, by decide, by show 89 + 6 = 95; omega, by show 2868 + 48 = 2916; omega, (by decide), (by decide)⟩ rfl rfl (Nat.le_of_ble_eq_true rfl) dX6_init_81 hf (fun _ _ h => k_X0_init h) (fun z53 σ52 hf => ?_)
  refine kx_uq K dX6_init_84 hf (fun σ54 hf => ?_)
  refine kx_iinc (v := (7 : Int32)) K [(1, .int (7 : Int32)), (0, .ref a0)] dX6_init_85 0 rfl (by decide) (by decide) rfl ?_
  refine kx_goto K 66 dX6_init_88 (by decide) ?_
  refine kx_iload_n K dX6_init_66 rfl 0 rfl ?_
  refine kx_bipush (v := 10) K dX6_init_67 (by decide) ?_
  refine kx_icmp_ge K 91 hf dX6_init_69 (by decide) (fun hf => by cases hf) (fun hf => ?_)
  refine kx_aload_n K dX6_init_72 rfl 1 rfl ?_
  refine kx_gr K f_X6_36 dX6_init_73 hf (fun x55 hf => ?_)
  refine kx_iload_n K dX6_init_76 rfl 0 rfl ?_
  refine kx_new K n_X6_7 (by decide) (by decide) dX6_init_77 ?_
  refine kx_dup K dX6_init_80 rfl ?_
  refine kx_ci (rmy := { frames := 2, cells := 6, slots := 48, locals := 40 }) (k' := 102) (n' := 2970) (As := []) K c_X6_9 ⟨by decide, by decide, by show 96 + 6 = 102; omega, by show 2922 + 48 = 2970; omega, (by decide), (by decide)⟩ rfl rfl (Nat.le_of_ble_eq_true rfl) dX6_init_81 hf (fun _ _ h => k_X0_init h) (fun z58 σ57 hf => ?_)
  refine kx_uq K dX6_init_84 hf (fun σ59 hf => ?_)
  refine kx_iinc (v := (8 : Int32)) K [(1, .int (8 : Int32)), (0, .ref a0)] dX6_init_85 0 rfl (by decide) (by decide) rfl ?_
  refine kx_goto K 66 dX6_init_88 (by decide) ?_
  refine kx_iload_n K dX6_init_66 rfl 0 rfl ?_
  refine kx_bipush (v := 10) K dX6_init_67 (by decide) ?_
  refine kx_icmp_ge K 91 hf dX6_init_69 (by decide) (fun hf => by cases hf) (fun hf => ?_)
  refine kx_aload_n K dX6_init_72 rfl 1 rfl ?_
  refine kx_gr K f_X6_36 dX6_init_73 hf (fun x60 hf => ?_)
  refine kx_iload_n K dX6_init_76 rfl 0 rfl ?_
  refine kx_new K n_X6_7 (by decide) (by decide) dX6_init_77 ?_
  refine kx_dup K dX6_init_80 rfl ?_
  refine kx_ci (rmy := { frames := 2, cells := 6, slots := 48, locals := 40 }) (k' := 109) (n' := 3024) (As := []) K c_X6_9 ⟨by decide, by decide, by show 103 + 6 = 109; omega, by show 2976 + 48 = 3024; omega, (by decide), (by decide)⟩ rfl rfl (Nat.le_of_ble_eq_true rfl) dX6_init_81 hf (fun _ _ h => k_X0_init h) (fun z63 σ62 hf => ?_)
  refine kx_uq K dX6_init_84 hf (fun σ64 hf => ?_)
  refine kx_iinc (v := (9 : Int32)) K [(1, .int (9 : Int32)), (0, .ref a0)] dX6_init_85 0 rfl (by decide) (by decide) rfl ?_
  refine kx_goto K 66 dX6_init_88 (by decide) ?_
  refine kx_iload_n K dX6_init_66 rfl 0 rfl ?_
  refine kx_bipush (v := 10) K dX6_init_67 (by decide) ?_
  refine kx_icmp_ge K 91 hf dX6_init_69 (by decide) (fun hf => by cases hf) (fun hf => ?_)
  refine kx_aload_n K dX6_init_72 rfl 1 rfl ?_
  refine kx_gr K f_X6_36 dX6_init_73 hf (fun x65 hf => ?_)
  refine kx_iload_n K dX6_init_76 rfl 0 rfl ?_
  refine kx_new K n_X6_7 (by decide) (by decide) dX6_init_77 ?_
  refine kx_dup K dX6_init_80 rfl ?_
  refine kx_ci (rmy := { frames := 2, cells := 6, slots := 48, locals := 40 }) (k' := 116) (n' := 3078) (As := []) K c_X6_9 ⟨by decide, by decide, by show 110 + 6 = 116; omega, by show 3030 + 48 = 3078; omega, (by decide), (by decide)⟩ rfl rfl (Nat.le_of_ble_eq_true rfl) dX6_init_81 hf (fun _ _ h => k_X0_init h) (fun z68 σ67 hf => ?_)
  refine kx_uq K dX6_init_84 hf (fun σ69 hf => ?_)
  refine kx_iinc (v := (10 : Int32)) K [(1, .int (10 : Int32)), (0, .ref a0)] dX6_init_85 0 rfl (by decide) (by decide) rfl ?_
  refine kx_goto K 66 dX6_init_88 (by decide) ?_
  refine kx_iload_n K dX6_init_66 rfl 0 rfl ?_
  refine kx_bipush (v := 10) K dX6_init_67 (by decide) ?_
  refine kx_icmp_ge K 91 hf dX6_init_69 (by decide) (fun hf => ?_) (fun hf => by cases hf)
  refine kx_aload_n K dX6_init_91 rfl 1 rfl ?_
  refine kx_iconst (v := 0) K dX6_init_92 (by decide) ?_
  refine kx_pi K f_X6_40 dX6_init_93 hf (fun σ70 hf => ?_)
  refine kx_aload_n K dX6_init_96 rfl 1 rfl ?_
  refine kx_iconst (v := 2) K dX6_init_97 (by decide) ?_
  refine kx_newq (M := 2) K w_10 (by decide) (by decide) (by decide) (by decide) dX6_init_98 ?_
  refine kx_putF K f_X6_44 hnm rfl dX6_init_101 rfl rfl hf (fun σ71 hf => ?_)
  refine kx_iconst (v := 0) K dX6_init_104 (by decide) ?_
  refine kx_istore_n K [(1, .int (0 : Int32)), (0, .ref a0)] dX6_init_105 rfl (by decide) rfl ?_
  refine kx_iload_n K dX6_init_106 rfl 0 rfl ?_
  refine kx_iconst (v := 2) K dX6_init_107 (by decide) ?_
  refine kx_icmp_ge K 130 hf dX6_init_108 (by decide) (fun hf => by cases hf) (fun hf => ?_)
  refine kx_aload_n K dX6_init_111 rfl 1 rfl ?_
  refine kx_gr K f_X6_44 dX6_init_112 hf (fun x72 hf => ?_)
  refine kx_iload_n K dX6_init_115 rfl 0 rfl ?_
  refine kx_new K n_X6_7 (by decide) (by decide) dX6_init_116 ?_
  refine kx_dup K dX6_init_119 rfl ?_
  refine kx_ci (rmy := { frames := 2, cells := 6, slots := 48, locals := 40 }) (k' := 124) (n' := 3134) (As := []) K c_X6_9 ⟨by decide, by decide, by show 118 + 6 = 124; omega, by show 3086 + 48 = 3134; omega, (by decide), (by decide)⟩ rfl rfl (Nat.le_of_ble_eq_true rfl) dX6_init_120 hf (fun _ _ h => k_X0_init h) (fun z75 σ74 hf => ?_)
  refine kx_uq K dX6_init_123 hf (fun σ76 hf => ?_)
  refine kx_iinc (v := (1 : Int32)) K [(1, .int (1 : Int32)), (0, .ref a0)] dX6_init_124 0 rfl (by decide) (by decide) rfl ?_
  refine kx_goto K 106 dX6_init_127 (by decide) ?_
  refine kx_iload_n K dX6_init_106 rfl 0 rfl ?_
  refine kx_iconst (v := 2) K dX6_init_107 (by decide) ?_
  refine kx_icmp_ge K 130 hf dX6_init_108 (by decide) (fun hf => by cases hf) (fun hf => ?_)
  refine kx_aload_n K dX6_init_111 rfl 1 rfl ?_
  refine kx_gr K f_X6_44 dX6_init_112 hf (fun x77 hf => ?_)
  refine kx_iload_n K dX6_init_115 rfl 0 rfl ?_
  refine kx_new K n_X6_7 (by decide) (by decide) dX6_init_116 ?_
  refine kx_dup K dX6_init_119 rfl ?_
  refine kx_ci (rmy := { frames := 2, cells := 6, slots := 48, locals := 40 }) (k' := 131) (n' := 3188) (As := []) K c_X6_9 ⟨by decide, by decide, by show 125 + 6 = 131; omega, by show 3140 + 48 = 3188; omega, (by decide), (by decide)⟩ rfl rfl (Nat.le_of_ble_eq_true rfl) dX6_init_120 hf (fun _ _ h => k_X0_init h) (fun z80 σ79 hf => ?_)
  refine kx_uq K dX6_init_123 hf (fun σ81 hf => ?_)
  refine kx_iinc (v := (2 : Int32)) K [(1, .int (2 : Int32)), (0, .ref a0)] dX6_init_124 0 rfl (by decide) (by decide) rfl ?_
  refine kx_goto K 106 dX6_init_127 (by decide) ?_
  refine kx_iload_n K dX6_init_106 rfl 0 rfl ?_
  refine kx_iconst (v := 2) K dX6_init_107 (by decide) ?_
  refine kx_icmp_ge K 130 hf dX6_init_108 (by decide) (fun hf => ?_) (fun hf => by cases hf)
  refine kx_aload_n K dX6_init_130 rfl 1 rfl ?_
  refine kx_iconst (v := 2) K dX6_init_131 (by decide) ?_
  refine kx_newa (kd := 2) (M := 2) (at9 := .boolean) K (by decide) rfl w_26 (by decide) (by decide) (by decide) (by decide) dX6_init_132 ?_
  refine kx_putF K f_X6_47 hnm rfl dX6_init_134 rfl rfl hf (fun σ82 hf => ?_)
  exact kx_vretZ K hQ (by decide) (by decide) dX6_init_137 hf

def m_X6_append (σ : ac_H) (a0 : Nat) (a1 : Int32) (a2 : Int32) (a3 : Int32) (a4 : Int32) (a5 : Int32) : Option (Int32 × ac_H) :=
  mo_gr σ a0 6 3 fun x1 =>
  mo_cv σ x1 3 (m_X3_heldBytes σ x1) fun x3 σ2 =>
  if (500 : Int32) < (x3 + (20 : Int32)) then
  (some ((-1 : Int32), σ2))
  else
  (mo_gr σ2 a0 6 3 fun x4 =>
  mo_cv σ2 x4 3 (m_X3_hold σ2 x4 a1) fun _ σ5 =>
  mo_gr σ5 a0 6 3 fun x6 =>
  mo_cv σ5 x6 3 (m_X3_hold σ5 x6 a2) fun _ σ7 =>
  mo_gr σ7 a0 6 3 fun x8 =>
  mo_cv σ7 x8 3 (m_X3_hold σ7 x8 a3) fun _ σ9 =>
  mo_gr σ9 a0 6 3 fun x10 =>
  mo_cv σ9 x10 3 (m_X3_hold σ9 x10 a4) fun _ σ11 =>
  mo_gr σ11 a0 6 3 fun x12 =>
  mo_cv σ11 x12 3 (m_X3_hold σ11 x12 a5) fun _ σ13 =>
  mo_gr σ13 a0 6 3 fun x14 =>
  mo_cv σ13 x14 3 (m_X3_heldBytes σ13 x14) fun x16 σ15 =>
  some (x16, σ15))
set_option maxRecDepth 100000 in
set_option maxHeartbeats 4000000 in
theorem k_X6_append {Λ : ex_L} {q : Nat} {σ σ' : ac_H} {a0 : Nat} {a1 : Int32} {a2 : Int32} {a3 : Int32} {a4 : Int32} {a5 : Int32} {v : Int32} (hf : m_X6_append σ a0 a1 a2 a3 a4 a5 = some (v, σ')) : kx_C Λ yX6_append (.code yX6_append cX6_append 6 (some .int)) ({ frames := 1, cells := 0, slots := 0, locals := 22 } : Room) [.ref a0, .int a1, .int a2, .int a3, .int a4, .int a5] q σ (.inr (some (.int v))) σ' (fun z => z = q) := by
  refine kx_in (by decide +kernel) (Nat.le_of_ble_eq_true rfl) ?_
  intro Γ K hnm hsz hQ
  refine kx_lv (lv' := [(0, .ref a0), (1, .int a1), (2, .int a2), (3, .int a3), (4, .int a4), (5, .int a5)]) rfl ?_
  unfold m_X6_append at hf
  refine kx_aload_n K dX6_append_0 rfl 0 rfl ?_
  refine kx_gr K f_X6_32 dX6_append_1 hf (fun x1 hf => ?_)
  refine kx_cv0i K c_X6_51 ⟨by decide, by decide, rfl, rfl, (by decide), (by decide)⟩ (Nat.le_of_ble_eq_true rfl) dX6_append_4 hf (fun _ _ _ h => k_X3_heldBytes h) (fun x3 σ2 hf => ?_)
  refine kx_bipush (v := 20) K dX6_append_7 (by decide) ?_
  refine kx_iadd K dX6_append_9 ?_
  refine kx_sipush (v := 500) K dX6_append_10 (by decide) ?_
  refine kx_icmp_le K 18 hf dX6_append_13 (by decide) (fun hf => ?_) (fun hf => ?_)
  · refine kx_aload_n K dX6_append_18 rfl 0 rfl ?_
    refine kx_gr K f_X6_32 dX6_append_19 hf (fun x4 hf => ?_)
    refine kx_iload_n K dX6_append_22 rfl 1 rfl ?_
    refine kx_cv1v K c_X6_55 ⟨by decide, by decide, rfl, rfl, (by decide), (by decide)⟩ (Nat.le_of_ble_eq_true rfl) dX6_append_23 hf (fun _ _ _ h => k_X3_hold h) (fun _ σ5 hf => ?_)
    refine kx_aload_n K dX6_append_26 rfl 0 rfl ?_
    refine kx_gr K f_X6_32 dX6_append_27 hf (fun x6 hf => ?_)
    refine kx_iload_n K dX6_append_30 rfl 2 rfl ?_
    refine kx_cv1v K c_X6_55 ⟨by decide, by decide, rfl, rfl, (by decide), (by decide)⟩ (Nat.le_of_ble_eq_true rfl) dX6_append_31 hf (fun _ _ _ h => k_X3_hold h) (fun _ σ7 hf => ?_)
    refine kx_aload_n K dX6_append_34 rfl 0 rfl ?_
    refine kx_gr K f_X6_32 dX6_append_35 hf (fun x8 hf => ?_)
    refine kx_iload_n K dX6_append_38 rfl 3 rfl ?_
    refine kx_cv1v K c_X6_55 ⟨by decide, by decide, rfl, rfl, (by decide), (by decide)⟩ (Nat.le_of_ble_eq_true rfl) dX6_append_39 hf (fun _ _ _ h => k_X3_hold h) (fun _ σ9 hf => ?_)
    refine kx_aload_n K dX6_append_42 rfl 0 rfl ?_
    refine kx_gr K f_X6_32 dX6_append_43 hf (fun x10 hf => ?_)
    refine kx_iload K dX6_append_46 4 rfl ?_
    refine kx_cv1v K c_X6_55 ⟨by decide, by decide, rfl, rfl, (by decide), (by decide)⟩ (Nat.le_of_ble_eq_true rfl) dX6_append_48 hf (fun _ _ _ h => k_X3_hold h) (fun _ σ11 hf => ?_)
    refine kx_aload_n K dX6_append_51 rfl 0 rfl ?_
    refine kx_gr K f_X6_32 dX6_append_52 hf (fun x12 hf => ?_)
    refine kx_iload K dX6_append_55 5 rfl ?_
    refine kx_cv1v K c_X6_55 ⟨by decide, by decide, rfl, rfl, (by decide), (by decide)⟩ (Nat.le_of_ble_eq_true rfl) dX6_append_57 hf (fun _ _ _ h => k_X3_hold h) (fun _ σ13 hf => ?_)
    refine kx_aload_n K dX6_append_60 rfl 0 rfl ?_
    refine kx_gr K f_X6_32 dX6_append_61 hf (fun x14 hf => ?_)
    refine kx_cv0i K c_X6_51 ⟨by decide, by decide, rfl, rfl, (by decide), (by decide)⟩ (Nat.le_of_ble_eq_true rfl) dX6_append_64 hf (fun _ _ _ h => k_X3_heldBytes h) (fun x16 σ15 hf => ?_)
    exact kx_iret K hQ (by decide) (by decide) (fun _ h => h) dX6_append_67 hf
  · refine kx_iconst (v := -1) K dX6_append_16 (by decide) ?_
    exact kx_iret K hQ (by decide) (by decide) (fun _ h => h) dX6_append_17 hf
def m_X6_parse_l59  (a0 : Nat) : Nat → ac_H → Int32 → Int32 → Option ((String ⊕ Int32) × ac_H)
  | 0, _, _, _ => none
  | n + 1, σ15, v13, v14 =>
    if v14 < (2 : Int32) then
    (mo_gr σ15 a0 6 7 fun x16 =>
    mo_ui σ15 x16 2 v14 (vp_nar .boolean (0 : Int32)) fun σ17 =>
    m_X6_parse_l59 a0 n σ17 v13 (v14 + 1))
    else
    (some (.inr v13, σ15))
def m_X6_parse (σ : ac_H) (a0 : Nat) (a1 : Int32) : Option ((String ⊕ Int32) × ac_H) :=
  if a1 < 0 then
  (some (.inl "java/lang/IllegalArgumentException", σ))
  else
  (mo_gr σ a0 6 3 fun x1 =>
  mo_cv σ x1 3 (m_X3_heldBytes σ x1) fun x3 σ2 =>
  if x3 < a1 then
  (some (.inl "java/lang/IllegalArgumentException", σ2))
  else
  (mo_gr σ2 a0 6 3 fun x4 =>
  mo_cv σ2 x4 3 (m_X3_read σ2 x4 a1) fun x6 σ5 =>
  if x6 = 0 then
  (mo_gr σ5 a0 6 0 fun x7 =>
  mo_gr σ5 a0 6 3 fun x8 =>
  mo_cv σ5 x8 3 (m_X3_described σ5 x8) fun x10 σ9 =>
  mo_cv σ9 x7 0 (m_X0_takeAll σ9 x7 x10) fun _ σ11 =>
  mo_pv σ11 a0 6 5 (.int (0 : Int32)) fun σ12 =>
  m_X6_parse_l59 a0 hN_f σ12 x6 (0 : Int32))
  else
  (some (.inr x6, σ5))))
set_option maxRecDepth 100000 in
set_option maxHeartbeats 4000000 in
theorem k_X6_parse {Λ : ex_L} {q : Nat} {σ σ' : ac_H} {a0 : Nat} {a1 : Int32} {v : Int32} (hf : m_X6_parse σ a0 a1 = some (.inr v, σ')) : kx_C Λ yX6_parse (.code yX6_parse cX6_parse 4 (some .int)) ({ frames := 9, cells := 0, slots := 0, locals := 194 } : Room) [.ref a0, .int a1] q σ (.inr (some (.int v))) σ' (fun z => z = q) := by
  refine kx_in (by decide +kernel) (Nat.le_of_ble_eq_true rfl) ?_
  intro Γ K hnm hsz hQ
  refine kx_lv (lv' := [(0, .ref a0), (1, .int a1)]) rfl ?_
  have B59 : ∀ (n59 : Nat) (σ15 : ac_H) (v13 : Int32) (v14 : Int32), m_X6_parse_l59 a0 n59 σ15 v13 v14 = some (.inr v, σ') → kx_S Λ Γ 4 (fun z => z = q) σ15 (0) (0) 59 [(0, .ref a0), (2, .int v13), (3, .int v14)] [] := by
    intro n59
    induction n59 with
    | zero =>
      intro σ15 v13 v14 hf
      rw [m_X6_parse_l59] at hf
      cases hf
    | succ n59 ih59 =>
      intro σ15 v13 v14 hf
      rw [m_X6_parse_l59] at hf
      refine kx_iload_n K dX6_parse_59 rfl 2 rfl ?_
      refine kx_iconst (v := 2) K dX6_parse_60 (by decide) ?_
      refine kx_icmp_ge K 77 hf dX6_parse_61 (by decide) (fun hf => ?_) (fun hf => ?_)
      · refine kx_iload_n K dX6_parse_77 rfl 1 rfl ?_
        exact kx_iretR K hQ (by decide) (by decide) (fun _ h => h) dX6_parse_78 hf
      · refine kx_aload_n K dX6_parse_64 rfl 0 rfl ?_
        refine kx_gr K f_X6_47 dX6_parse_65 hf (fun x16 hf => ?_)
        refine kx_iload_n K dX6_parse_68 rfl 2 rfl ?_
        refine kx_iconst (v := 0) K dX6_parse_69 (by decide) ?_
        refine kx_uz K dX6_parse_70 hf (fun σ17 hf => ?_)
        refine kx_iinc (v := (v14 + 1)) K [(3, .int (v14 + 1)), (0, .ref a0), (2, .int v13)] dX6_parse_71 2 rfl rfl (by decide) rfl ?_
        refine kx_goto K 59 dX6_parse_74 (by decide) ?_
        refine kx_sub [(0, .ref a0), (2, .int v13), (3, .int (v14 + 1))] [1, 2, 0] rfl ?_
        exact ih59 _ _ _ hf
  unfold m_X6_parse at hf
  refine kx_iload_n K dX6_parse_0 rfl 1 rfl ?_
  refine kx_if_lt K 15 hf dX6_parse_1 (by decide) (fun hf => ?_) (fun hf => ?_)
  · cases hf
  · refine kx_iload_n K dX6_parse_4 rfl 1 rfl ?_
    refine kx_aload_n K dX6_parse_5 rfl 0 rfl ?_
    refine kx_gr K f_X6_32 dX6_parse_6 hf (fun x1 hf => ?_)
    refine kx_cv0i K c_X6_51 ⟨by decide, by decide, rfl, rfl, (by decide), (by decide)⟩ (Nat.le_of_ble_eq_true rfl) dX6_parse_9 hf (fun _ _ _ h => k_X3_heldBytes h) (fun x3 σ2 hf => ?_)
    refine kx_icmp_le K 25 hf dX6_parse_12 (by decide) (fun hf => ?_) (fun hf => ?_)
    · refine kx_aload_n K dX6_parse_25 rfl 0 rfl ?_
      refine kx_gr K f_X6_32 dX6_parse_26 hf (fun x4 hf => ?_)
      refine kx_iload_n K dX6_parse_29 rfl 1 rfl ?_
      refine kx_cv1i K c_X6_66 ⟨by decide, by decide, rfl, rfl, (by decide), (by decide)⟩ (Nat.le_of_ble_eq_true rfl) dX6_parse_30 hf (fun _ _ _ h => k_X3_read h) (fun x6 σ5 hf => ?_)
      refine kx_istore_n K [(2, .int x6), (0, .ref a0), (1, .int a1)] dX6_parse_33 rfl (by decide) rfl ?_
      refine kx_iload_n K dX6_parse_34 rfl 0 rfl ?_
      refine kx_if_ne K 77 hf dX6_parse_35 (by decide) (fun hf => ?_) (fun hf => ?_)
      · refine kx_iload_n K dX6_parse_77 rfl 0 rfl ?_
        exact kx_iretR K hQ (by decide) (by decide) (fun _ h => h) dX6_parse_78 hf
      · refine kx_aload_n K dX6_parse_38 rfl 1 rfl ?_
        refine kx_gr K f_X6_10 dX6_parse_39 hf (fun x7 hf => ?_)
        refine kx_aload_n K dX6_parse_42 rfl 1 rfl ?_
        refine kx_gr K f_X6_32 dX6_parse_43 hf (fun x8 hf => ?_)
        refine kx_cv0r K c_X6_70 ⟨by decide, by decide, rfl, rfl, (by decide), (by decide)⟩ (Nat.le_of_ble_eq_true rfl) dX6_parse_46 hf (fun _ _ _ h => k_X3_described h) (fun x10 σ9 hf => ?_)
        refine kx_cv1v K c_X6_74 ⟨by decide, by decide, rfl, rfl, (by decide), (by decide)⟩ (Nat.le_of_ble_eq_true rfl) dX6_parse_49 hf (fun _ _ _ h => k_X0_takeAll h) (fun _ σ11 hf => ?_)
        refine kx_aload_n K dX6_parse_52 rfl 1 rfl ?_
        refine kx_iconst (v := 0) K dX6_parse_53 (by decide) ?_
        refine kx_pi K f_X6_40 dX6_parse_54 hf (fun σ12 hf => ?_)
        refine kx_iconst (v := 0) K dX6_parse_57 (by decide) ?_
        refine kx_istore_n K [(3, .int (0 : Int32)), (2, .int x6), (0, .ref a0), (1, .int a1)] dX6_parse_58 rfl (by decide) rfl ?_
        refine kx_sub [(0, .ref a0), (2, .int x6), (3, .int (0 : Int32))] [2, 1, 0] rfl ?_
        exact B59 hN_f _ _ _ hf
    · cases hf
def m_X6_size_j19  (a0 : Nat) (a1 : Int32) (σ4 : ac_H) : Option ((String ⊕ Int32) × ac_H) :=
  if a1 = (8 : Int32) then
  (mo_gr σ4 a0 6 0 fun x5 =>
  mo_cv σ4 x5 0 (m_X0_faultCount σ4 x5) fun x7 σ6 =>
  some (.inr x7, σ6))
  else
  if a1 = (9 : Int32) then
  (mo_gi σ4 a0 6 5 fun x9 =>
  some (.inr x9, σ4))
  else
  if a1 = (10 : Int32) then
  (mo_gr σ4 a0 6 0 fun x11 =>
  mo_cv σ4 x11 0 (m_X0_recordedStates σ4 x11) fun x13 σ12 =>
  mo_cv σ12 x13 5 (m_X5_howMany σ12 x13) fun x15 σ14 =>
  some (.inr x15, σ14))
  else
  (some (.inl "java/lang/IllegalArgumentException", σ4))
def m_X6_size (σ : ac_H) (a0 : Nat) (a1 : Int32) : Option ((String ⊕ Int32) × ac_H) :=
  if a1 < 0 then
  (m_X6_size_j19 a0 a1 σ)
  else
  (if a1 < (8 : Int32) then
  (mo_gr σ a0 6 0 fun x1 =>
  mo_cv σ x1 0 (m_X0_setting σ x1 a1) fun x3 σ2 =>
  some (.inr x3, σ2))
  else
  (m_X6_size_j19 a0 a1 σ))
set_option maxRecDepth 100000 in
set_option maxHeartbeats 4000000 in
theorem k_X6_size {Λ : ex_L} {q : Nat} {σ σ' : ac_H} {a0 : Nat} {a1 : Int32} {v : Int32} (hf : m_X6_size σ a0 a1 = some (.inr v, σ')) : kx_C Λ yX6_size (.code yX6_size cX6_size 2 (some .int)) ({ frames := 2, cells := 0, slots := 0, locals := 42 } : Room) [.ref a0, .int a1] q σ (.inr (some (.int v))) σ' (fun z => z = q) := by
  refine kx_in (by decide +kernel) (Nat.le_of_ble_eq_true rfl) ?_
  intro Γ K hnm hsz hQ
  refine kx_lv (lv' := [(0, .ref a0), (1, .int a1)]) rfl ?_
  have B19 : ∀ (σ4 : ac_H), m_X6_size_j19 a0 a1 σ4 = some (.inr v, σ') → kx_S Λ Γ 2 (fun z => z = q) σ4 (0) (0) 19 [(0, .ref a0), (1, .int a1)] [] := by
    intro σ4 hf
    unfold m_X6_size_j19 at hf
    refine kx_iload_n K dX6_size_19 rfl 1 rfl ?_
    refine kx_swI (c := 8) K 48 dX6_size_20 (by decide) (by decide) rfl (by decide) hf (fun hf => ?_) (fun h8 hf => ?_)
    · refine kx_aload_n K dX6_size_48 rfl 0 rfl ?_
      refine kx_gr K f_X6_10 dX6_size_49 hf (fun x5 hf => ?_)
      refine kx_cv0i K c_X6_84 ⟨by decide, by decide, rfl, rfl, (by decide), (by decide)⟩ (Nat.le_of_ble_eq_true rfl) dX6_size_52 hf (fun _ _ _ h => k_X0_faultCount h) (fun x7 σ6 hf => ?_)
      exact kx_iretR K hQ (by decide) (by decide) (fun _ h => h) dX6_size_55 hf
    refine kx_swI (c := 9) K 56 dX6_size_20 (by decide) (by decide) rfl (by decide) hf (fun hf => ?_) (fun h10 hf => ?_)
    · refine kx_aload_n K dX6_size_56 rfl 0 rfl ?_
      refine kx_gi K f_X6_40 dX6_size_57 hf (fun x9 hf => ?_)
      exact kx_iretR K hQ (by decide) (by decide) (fun _ h => h) dX6_size_60 hf
    refine kx_swI (c := 10) K 61 dX6_size_20 (by decide) (by decide) rfl (by decide) hf (fun hf => ?_) (fun h16 hf => ?_)
    · refine kx_aload_n K dX6_size_61 rfl 0 rfl ?_
      refine kx_gr K f_X6_10 dX6_size_62 hf (fun x11 hf => ?_)
      refine kx_cv0r K c_X6_87 ⟨by decide, by decide, rfl, rfl, (by decide), (by decide)⟩ (Nat.le_of_ble_eq_true rfl) dX6_size_65 hf (fun _ _ _ h => k_X0_recordedStates h) (fun x13 σ12 hf => ?_)
      refine kx_cv0i K c_X6_91 ⟨by decide, by decide, rfl, rfl, (by decide), (by decide)⟩ (Nat.le_of_ble_eq_true rfl) dX6_size_68 hf (fun _ _ _ h => k_X5_howMany h) (fun x15 σ14 hf => ?_)
      exact kx_iretR K hQ (by decide) (by decide) (fun _ h => h) dX6_size_71 hf
    refine kx_swD K 72 dX6_size_20 (by have := lv_neT h8 (show (8 : Int32).toInt = 8 by decide); have := lv_neT h10 (show (9 : Int32).toInt = 9 by decide); have := lv_neT h16 (show (10 : Int32).toInt = 10 by decide); omega) (by decide) ?_
    cases hf
  unfold m_X6_size at hf
  refine kx_iload_n K dX6_size_0 rfl 1 rfl ?_
  refine kx_if_lt K 19 hf dX6_size_1 (by decide) (fun hf => ?_) (fun hf => ?_)
  · refine kx_sub [(0, .ref a0), (1, .int a1)] [0, 1] rfl ?_
    exact B19 _ hf
  · refine kx_iload_n K dX6_size_4 rfl 1 rfl ?_
    refine kx_bipush (v := 8) K dX6_size_5 (by decide) ?_
    refine kx_icmp_ge K 19 hf dX6_size_7 (by decide) (fun hf => ?_) (fun hf => ?_)
    · refine kx_sub [(0, .ref a0), (1, .int a1)] [0, 1] rfl ?_
      exact B19 _ hf
    · refine kx_aload_n K dX6_size_10 rfl 0 rfl ?_
      refine kx_gr K f_X6_10 dX6_size_11 hf (fun x1 hf => ?_)
      refine kx_iload_n K dX6_size_14 rfl 1 rfl ?_
      refine kx_cv1i K c_X6_81 ⟨by decide, by decide, rfl, rfl, (by decide), (by decide)⟩ (Nat.le_of_ble_eq_true rfl) dX6_size_15 hf (fun _ _ _ h => k_X0_setting h) (fun x3 σ2 hf => ?_)
      exact kx_iretR K hQ (by decide) (by decide) (fun _ h => h) dX6_size_18 hf
def m_X6_checkFault (σ : ac_H) (a0 : Nat) (a1 : Int32) : Option ((String ⊕ Unit) × ac_H) :=
  if a1 < 0 then
  (some (.inl "java/lang/IndexOutOfBoundsException", σ))
  else
  (mo_gr σ a0 6 0 fun x1 =>
  mo_cv σ x1 0 (m_X0_faultCount σ x1) fun x3 σ2 =>
  if a1 < x3 then
  (some (.inr (), σ2))
  else
  (some (.inl "java/lang/IndexOutOfBoundsException", σ2)))
set_option maxRecDepth 100000 in
set_option maxHeartbeats 4000000 in
theorem k_X6_checkFault {Λ : ex_L} {q : Nat} {σ σ' : ac_H} {a0 : Nat} {a1 : Int32} {v : Unit} (hf : m_X6_checkFault σ a0 a1 = some (.inr v, σ')) : kx_C Λ yX6_checkFault (.code yX6_checkFault cX6_checkFault 2 none) ({ frames := 1, cells := 0, slots := 0, locals := 20 } : Room) [.ref a0, .int a1] q σ (.inr none) σ' (fun z => z = q) := by
  refine kx_in (by decide +kernel) (Nat.le_of_ble_eq_true rfl) ?_
  intro Γ K hnm hsz hQ
  refine kx_lv (lv' := [(0, .ref a0), (1, .int a1)]) rfl ?_
  unfold m_X6_checkFault at hf
  refine kx_iload_n K dX6_checkFault_0 rfl 1 rfl ?_
  refine kx_if_lt K 15 hf dX6_checkFault_1 (by decide) (fun hf => ?_) (fun hf => ?_)
  · cases hf
  · refine kx_iload_n K dX6_checkFault_4 rfl 1 rfl ?_
    refine kx_aload_n K dX6_checkFault_5 rfl 0 rfl ?_
    refine kx_gr K f_X6_10 dX6_checkFault_6 hf (fun x1 hf => ?_)
    refine kx_cv0i K c_X6_84 ⟨by decide, by decide, rfl, rfl, (by decide), (by decide)⟩ (Nat.le_of_ble_eq_true rfl) dX6_checkFault_9 hf (fun _ _ _ h => k_X0_faultCount h) (fun x3 σ2 hf => ?_)
    refine kx_icmp_lt K 25 hf dX6_checkFault_12 (by decide) (fun hf => ?_) (fun hf => ?_)
    · exact kx_vretR K hQ (by decide) (by decide) (fun _ h => h) dX6_checkFault_25 hf
    · cases hf
def m_X6_fault (σ : ac_H) (a0 : Nat) (a1 : Int32) (a2 : Int32) : Option ((String ⊕ Int32) × ac_H) :=
  mo_xv σ a0 6 (m_X6_checkFault σ a0 a1) fun _ σ1 =>
  if a2 < 0 then
  (some (.inl "java/lang/IllegalArgumentException", σ1))
  else
  (if (2 : Int32) < a2 then
  (some (.inl "java/lang/IllegalArgumentException", σ1))
  else
  (mo_gr σ1 a0 6 0 fun x2 =>
  mo_cv σ1 x2 0 (m_X0_faultPart σ1 x2 a1 a2) fun x4 σ3 =>
  some (.inr x4, σ3)))
set_option maxRecDepth 100000 in
set_option maxHeartbeats 4000000 in
theorem k_X6_fault {Λ : ex_L} {q : Nat} {σ σ' : ac_H} {a0 : Nat} {a1 : Int32} {a2 : Int32} {v : Int32} (hf : m_X6_fault σ a0 a1 a2 = some (.inr v, σ')) : kx_C Λ yX6_fault (.code yX6_fault cX6_fault 3 (some .int)) ({ frames := 2, cells := 0, slots := 0, locals := 41 } : Room) [.ref a0, .int a1, .int a2] q σ (.inr (some (.int v))) σ' (fun z => z = q) := by
  refine kx_in (by decide +kernel) (Nat.le_of_ble_eq_true rfl) ?_
  intro Γ K hnm hsz hQ
  refine kx_lv (lv' := [(0, .ref a0), (1, .int a1), (2, .int a2)]) rfl ?_
  unfold m_X6_fault at hf
  refine kx_aload_n K dX6_fault_0 rfl 0 rfl ?_
  refine kx_iload_n K dX6_fault_1 rfl 1 rfl ?_
  refine kx_xvR (ρ := Unit) K [.int a1] (fun _ => none) c_X6_98 ⟨by decide, by decide, rfl, rfl, (by decide), (by decide)⟩ rfl rfl (Nat.le_of_ble_eq_true rfl) dX6_fault_2 hf (fun _ _ _ h => k_X6_checkFault h) (fun _ σ1 hf => ?_)
  refine kx_iload_n K dX6_fault_5 rfl 2 rfl ?_
  refine kx_if_lt K 14 hf dX6_fault_6 (by decide) (fun hf => ?_) (fun hf => ?_)
  · cases hf
  · refine kx_iload_n K dX6_fault_9 rfl 2 rfl ?_
    refine kx_iconst (v := 2) K dX6_fault_10 (by decide) ?_
    refine kx_icmp_le K 24 hf dX6_fault_11 (by decide) (fun hf => ?_) (fun hf => ?_)
    · refine kx_aload_n K dX6_fault_24 rfl 0 rfl ?_
      refine kx_gr K f_X6_10 dX6_fault_25 hf (fun x2 hf => ?_)
      refine kx_iload_n K dX6_fault_28 rfl 1 rfl ?_
      refine kx_iload_n K dX6_fault_29 rfl 2 rfl ?_
      refine kx_cv2i K c_X6_103 ⟨by decide, by decide, rfl, rfl, (by decide), (by decide)⟩ (Nat.le_of_ble_eq_true rfl) dX6_fault_30 hf (fun _ _ _ h => k_X0_faultPart h) (fun x4 σ3 hf => ?_)
      exact kx_iretR K hQ (by decide) (by decide) (fun _ h => h) dX6_fault_33 hf
    · cases hf
def m_X6_result (σ : ac_H) (a0 : Nat) (a1 : Int32) : Option ((String ⊕ Int32) × ac_H) :=
  if a1 < 0 then
  (some (.inl "java/lang/IllegalArgumentException", σ))
  else
  (if (7 : Int32) < a1 then
  (some (.inl "java/lang/IllegalArgumentException", σ))
  else
  (mo_gr σ a0 6 2 fun x1 =>
  mo_gr σ a0 6 0 fun x2 =>
  mo_cv σ x1 4 (m_X4_play σ x1 x2) fun x4 σ3 =>
  if a1 = (0 : Int32) then
  (mo_gr σ3 a0 6 2 fun x5 =>
  mo_cv σ3 x5 4 (m_X4_tickCount σ3 x5) fun x7 σ6 =>
  some (.inr x7, σ6))
  else
  if a1 = (1 : Int32) then
  (mo_gr σ3 a0 6 2 fun x9 =>
  mo_cv σ3 x9 4 (m_X4_line σ3 x9) fun x11 σ10 =>
  mo_cv σ10 x11 2 (m_X2_sentCount σ10 x11) fun x13 σ12 =>
  some (.inr x13, σ12))
  else
  if a1 = (2 : Int32) then
  (mo_gr σ3 a0 6 2 fun x15 =>
  mo_cv σ3 x15 4 (m_X4_deliveries σ3 x15) fun x17 σ16 =>
  mo_cv σ16 x17 1 (m_X1_howMany σ16 x17) fun x19 σ18 =>
  some (.inr x19, σ18))
  else
  if a1 = (3 : Int32) then
  (mo_gr σ3 a0 6 2 fun x21 =>
  mo_cv σ3 x21 4 (m_X4_deliveries σ3 x21) fun x23 σ22 =>
  mo_cv σ22 x23 1 (m_X1_completeTick σ22 x23) fun x25 σ24 =>
  some (.inr x25, σ24))
  else
  if a1 = (4 : Int32) then
  (mo_gr σ3 a0 6 2 fun x27 =>
  mo_cv σ3 x27 4 (m_X4_line σ3 x27) fun x29 σ28 =>
  mo_cv σ28 x29 2 (m_X2_repeatedData σ28 x29) fun x31 σ30 =>
  some (.inr x31, σ30))
  else
  if a1 = (5 : Int32) then
  (mo_gr σ3 a0 6 2 fun x33 =>
  mo_cv σ3 x33 4 (m_X4_line σ3 x33) fun x35 σ34 =>
  mo_cv σ34 x35 2 (m_X2_answers σ34 x35) fun x37 σ36 =>
  some (.inr x37, σ36))
  else
  if a1 = (6 : Int32) then
  (mo_gr σ3 a0 6 2 fun x39 =>
  mo_cv σ3 x39 4 (m_X4_states σ3 x39) fun x41 σ40 =>
  mo_cv σ40 x41 5 (m_X5_howMany σ40 x41) fun x43 σ42 =>
  some (.inr x43, σ42))
  else
  (some (.inr x4, σ3))))
set_option maxRecDepth 100000 in
set_option maxHeartbeats 4000000 in
theorem k_X6_result {Λ : ex_L} {q : Nat} {σ σ' : ac_H} {a0 : Nat} {a1 : Int32} {v : Int32} (hf : m_X6_result σ a0 a1 = some (.inr v, σ')) : kx_C Λ yX6_result (.code yX6_result cX6_result 3 (some .int)) ({ frames := 4, cells := 0, slots := 0, locals := 101 } : Room) [.ref a0, .int a1] q σ (.inr (some (.int v))) σ' (fun z => z = q) := by
  refine kx_in (by decide +kernel) (Nat.le_of_ble_eq_true rfl) ?_
  intro Γ K hnm hsz hQ
  refine kx_lv (lv' := [(0, .ref a0), (1, .int a1)]) rfl ?_
  unfold m_X6_result at hf
  refine kx_iload_n K dX6_result_0 rfl 1 rfl ?_
  refine kx_if_lt K 10 hf dX6_result_1 (by decide) (fun hf => ?_) (fun hf => ?_)
  · cases hf
  · refine kx_iload_n K dX6_result_4 rfl 1 rfl ?_
    refine kx_bipush (v := 7) K dX6_result_5 (by decide) ?_
    refine kx_icmp_le K 20 hf dX6_result_7 (by decide) (fun hf => ?_) (fun hf => ?_)
    · refine kx_aload_n K dX6_result_20 rfl 0 rfl ?_
      refine kx_gr K f_X6_25 dX6_result_21 hf (fun x1 hf => ?_)
      refine kx_aload_n K dX6_result_24 rfl 0 rfl ?_
      refine kx_gr K f_X6_10 dX6_result_25 hf (fun x2 hf => ?_)
      refine kx_cv1i K c_X6_109 ⟨by decide, by decide, rfl, rfl, (by decide), (by decide)⟩ (Nat.le_of_ble_eq_true rfl) dX6_result_28 hf (fun _ _ _ h => k_X4_play h) (fun x4 σ3 hf => ?_)
      refine kx_istore_n K [(2, .int x4), (0, .ref a0), (1, .int a1)] dX6_result_31 rfl (by decide) rfl ?_
      refine kx_iload_n K dX6_result_32 rfl 2 rfl ?_
      refine kx_swI (c := 0) K 76 dX6_result_33 (by decide) (by decide) rfl (by decide) hf (fun hf => ?_) (fun h8 hf => ?_)
      · refine kx_aload_n K dX6_result_76 rfl 1 rfl ?_
        refine kx_gr K f_X6_25 dX6_result_77 hf (fun x5 hf => ?_)
        refine kx_cv0i K c_X6_113 ⟨by decide, by decide, rfl, rfl, (by decide), (by decide)⟩ (Nat.le_of_ble_eq_true rfl) dX6_result_80 hf (fun _ _ _ h => k_X4_tickCount h) (fun x7 σ6 hf => ?_)
        exact kx_iretR K hQ (by decide) (by decide) (fun _ h => h) dX6_result_83 hf
      refine kx_swI (c := 1) K 84 dX6_result_33 (by decide) (by decide) rfl (by decide) hf (fun hf => ?_) (fun h14 hf => ?_)
      · refine kx_aload_n K dX6_result_84 rfl 1 rfl ?_
        refine kx_gr K f_X6_25 dX6_result_85 hf (fun x9 hf => ?_)
        refine kx_cv0r K c_X6_116 ⟨by decide, by decide, rfl, rfl, (by decide), (by decide)⟩ (Nat.le_of_ble_eq_true rfl) dX6_result_88 hf (fun _ _ _ h => k_X4_line h) (fun x11 σ10 hf => ?_)
        refine kx_cv0i K c_X6_120 ⟨by decide, by decide, rfl, rfl, (by decide), (by decide)⟩ (Nat.le_of_ble_eq_true rfl) dX6_result_91 hf (fun _ _ _ h => k_X2_sentCount h) (fun x13 σ12 hf => ?_)
        exact kx_iretR K hQ (by decide) (by decide) (fun _ h => h) dX6_result_94 hf
      refine kx_swI (c := 2) K 95 dX6_result_33 (by decide) (by decide) rfl (by decide) hf (fun hf => ?_) (fun h20 hf => ?_)
      · refine kx_aload_n K dX6_result_95 rfl 1 rfl ?_
        refine kx_gr K f_X6_25 dX6_result_96 hf (fun x15 hf => ?_)
        refine kx_cv0r K c_X6_125 ⟨by decide, by decide, rfl, rfl, (by decide), (by decide)⟩ (Nat.le_of_ble_eq_true rfl) dX6_result_99 hf (fun _ _ _ h => k_X4_deliveries h) (fun x17 σ16 hf => ?_)
        refine kx_cv0i K c_X6_129 ⟨by decide, by decide, rfl, rfl, (by decide), (by decide)⟩ (Nat.le_of_ble_eq_true rfl) dX6_result_102 hf (fun _ _ _ h => k_X1_howMany h) (fun x19 σ18 hf => ?_)
        exact kx_iretR K hQ (by decide) (by decide) (fun _ h => h) dX6_result_105 hf
      refine kx_swI (c := 3) K 106 dX6_result_33 (by decide) (by decide) rfl (by decide) hf (fun hf => ?_) (fun h26 hf => ?_)
      · refine kx_aload_n K dX6_result_106 rfl 1 rfl ?_
        refine kx_gr K f_X6_25 dX6_result_107 hf (fun x21 hf => ?_)
        refine kx_cv0r K c_X6_125 ⟨by decide, by decide, rfl, rfl, (by decide), (by decide)⟩ (Nat.le_of_ble_eq_true rfl) dX6_result_110 hf (fun _ _ _ h => k_X4_deliveries h) (fun x23 σ22 hf => ?_)
        refine kx_cv0i K c_X6_132 ⟨by decide, by decide, rfl, rfl, (by decide), (by decide)⟩ (Nat.le_of_ble_eq_true rfl) dX6_result_113 hf (fun _ _ _ h => k_X1_completeTick h) (fun x25 σ24 hf => ?_)
        exact kx_iretR K hQ (by decide) (by decide) (fun _ h => h) dX6_result_116 hf
      refine kx_swI (c := 4) K 117 dX6_result_33 (by decide) (by decide) rfl (by decide) hf (fun hf => ?_) (fun h32 hf => ?_)
      · refine kx_aload_n K dX6_result_117 rfl 1 rfl ?_
        refine kx_gr K f_X6_25 dX6_result_118 hf (fun x27 hf => ?_)
        refine kx_cv0r K c_X6_116 ⟨by decide, by decide, rfl, rfl, (by decide), (by decide)⟩ (Nat.le_of_ble_eq_true rfl) dX6_result_121 hf (fun _ _ _ h => k_X4_line h) (fun x29 σ28 hf => ?_)
        refine kx_cv0i K c_X6_135 ⟨by decide, by decide, rfl, rfl, (by decide), (by decide)⟩ (Nat.le_of_ble_eq_true rfl) dX6_result_124 hf (fun _ _ _ h => k_X2_repeatedData h) (fun x31 σ30 hf => ?_)
        exact kx_iretR K hQ (by decide) (by decide) (fun _ h => h) dX6_result_127 hf
      refine kx_swI (c := 5) K 128 dX6_result_33 (by decide) (by decide) rfl (by decide) hf (fun hf => ?_) (fun h38 hf => ?_)
      · refine kx_aload_n K dX6_result_128 rfl 1 rfl ?_
        refine kx_gr K f_X6_25 dX6_result_129 hf (fun x33 hf => ?_)
        refine kx_cv0r K c_X6_116 ⟨by decide, by decide, rfl, rfl, (by decide), (by decide)⟩ (Nat.le_of_ble_eq_true rfl) dX6_result_132 hf (fun _ _ _ h => k_X4_line h) (fun x35 σ34 hf => ?_)
        refine kx_cv0i K c_X6_138 ⟨by decide, by decide, rfl, rfl, (by decide), (by decide)⟩ (Nat.le_of_ble_eq_true rfl) dX6_result_135 hf (fun _ _ _ h => k_X2_answers h) (fun x37 σ36 hf => ?_)
        exact kx_iretR K hQ (by decide) (by decide) (fun _ h => h) dX6_result_138 hf
      refine kx_swI (c := 6) K 139 dX6_result_33 (by decide) (by decide) rfl (by decide) hf (fun hf => ?_) (fun h44 hf => ?_)
      · refine kx_aload_n K dX6_result_139 rfl 1 rfl ?_
        refine kx_gr K f_X6_25 dX6_result_140 hf (fun x39 hf => ?_)
        refine kx_cv0r K c_X6_141 ⟨by decide, by decide, rfl, rfl, (by decide), (by decide)⟩ (Nat.le_of_ble_eq_true rfl) dX6_result_143 hf (fun _ _ _ h => k_X4_states h) (fun x41 σ40 hf => ?_)
        refine kx_cv0i K c_X6_91 ⟨by decide, by decide, rfl, rfl, (by decide), (by decide)⟩ (Nat.le_of_ble_eq_true rfl) dX6_result_146 hf (fun _ _ _ h => k_X5_howMany h) (fun x43 σ42 hf => ?_)
        exact kx_iretR K hQ (by decide) (by decide) (fun _ h => h) dX6_result_149 hf
      refine kx_swD K 150 dX6_result_33 (by have := lv_neT h8 (show (0 : Int32).toInt = 0 by decide); have := lv_neT h14 (show (1 : Int32).toInt = 1 by decide); have := lv_neT h20 (show (2 : Int32).toInt = 2 by decide); have := lv_neT h26 (show (3 : Int32).toInt = 3 by decide); have := lv_neT h32 (show (4 : Int32).toInt = 4 by decide); have := lv_neT h38 (show (5 : Int32).toInt = 5 by decide); have := lv_neT h44 (show (6 : Int32).toInt = 6 by decide); omega) (by decide) ?_
      refine kx_iload_n K dX6_result_150 rfl 0 rfl ?_
      exact kx_iretR K hQ (by decide) (by decide) (fun _ h => h) dX6_result_151 hf
    · cases hf
def m_X6_delivered (σ : ac_H) (a0 : Nat) (a1 : Int32) : Option (Int32 × ac_H) :=
  mo_gr σ a0 6 2 fun x1 =>
  mo_gr σ a0 6 0 fun x2 =>
  mo_cv σ x1 4 (m_X4_play σ x1 x2) fun x4 σ3 =>
  mo_gr σ3 a0 6 2 fun x5 =>
  mo_cv σ3 x5 4 (m_X4_deliveries σ3 x5) fun x7 σ6 =>
  mo_cv σ6 x7 1 (m_X1_itemAt σ6 x7 a1) fun x9 σ8 =>
  some (x9, σ8)
set_option maxRecDepth 100000 in
set_option maxHeartbeats 4000000 in
theorem k_X6_delivered {Λ : ex_L} {q : Nat} {σ σ' : ac_H} {a0 : Nat} {a1 : Int32} {v : Int32} (hf : m_X6_delivered σ a0 a1 = some (v, σ')) : kx_C Λ yX6_delivered (.code yX6_delivered cX6_delivered 2 (some .int)) ({ frames := 4, cells := 0, slots := 0, locals := 101 } : Room) [.ref a0, .int a1] q σ (.inr (some (.int v))) σ' (fun z => z = q) := by
  refine kx_in (by decide +kernel) (Nat.le_of_ble_eq_true rfl) ?_
  intro Γ K hnm hsz hQ
  refine kx_lv (lv' := [(0, .ref a0), (1, .int a1)]) rfl ?_
  unfold m_X6_delivered at hf
  refine kx_aload_n K dX6_delivered_0 rfl 0 rfl ?_
  refine kx_gr K f_X6_25 dX6_delivered_1 hf (fun x1 hf => ?_)
  refine kx_aload_n K dX6_delivered_4 rfl 0 rfl ?_
  refine kx_gr K f_X6_10 dX6_delivered_5 hf (fun x2 hf => ?_)
  refine kx_cv1i K c_X6_109 ⟨by decide, by decide, rfl, rfl, (by decide), (by decide)⟩ (Nat.le_of_ble_eq_true rfl) dX6_delivered_8 hf (fun _ _ _ h => k_X4_play h) (fun x4 σ3 hf => ?_)
  refine kx_pop K dX6_delivered_11 rfl ?_
  refine kx_aload_n K dX6_delivered_12 rfl 0 rfl ?_
  refine kx_gr K f_X6_25 dX6_delivered_13 hf (fun x5 hf => ?_)
  refine kx_cv0r K c_X6_125 ⟨by decide, by decide, rfl, rfl, (by decide), (by decide)⟩ (Nat.le_of_ble_eq_true rfl) dX6_delivered_16 hf (fun _ _ _ h => k_X4_deliveries h) (fun x7 σ6 hf => ?_)
  refine kx_iload_n K dX6_delivered_19 rfl 1 rfl ?_
  refine kx_cv1i K c_X6_144 ⟨by decide, by decide, rfl, rfl, (by decide), (by decide)⟩ (Nat.le_of_ble_eq_true rfl) dX6_delivered_20 hf (fun _ _ _ h => k_X1_itemAt h) (fun x9 σ8 hf => ?_)
  exact kx_iret K hQ (by decide) (by decide) (fun _ h => h) dX6_delivered_23 hf
def m_X6_sent (σ : ac_H) (a0 : Nat) (a1 : Int32) (a2 : Int32) : Option ((String ⊕ Int32) × ac_H) :=
  if a2 < 0 then
  (some (.inl "java/lang/IllegalArgumentException", σ))
  else
  (if (4 : Int32) < a2 then
  (some (.inl "java/lang/IllegalArgumentException", σ))
  else
  (mo_gr σ a0 6 2 fun x1 =>
  mo_gr σ a0 6 0 fun x2 =>
  mo_cv σ x1 4 (m_X4_play σ x1 x2) fun x4 σ3 =>
  mo_gr σ3 a0 6 2 fun x5 =>
  mo_cv σ3 x5 4 (m_X4_line σ3 x5) fun x7 σ6 =>
  mo_cv σ6 x7 2 (m_X2_sentPart σ6 x7 a1 a2) fun x9 σ8 =>
  some (.inr x9, σ8)))
set_option maxRecDepth 100000 in
set_option maxHeartbeats 4000000 in
theorem k_X6_sent {Λ : ex_L} {q : Nat} {σ σ' : ac_H} {a0 : Nat} {a1 : Int32} {a2 : Int32} {v : Int32} (hf : m_X6_sent σ a0 a1 a2 = some (.inr v, σ')) : kx_C Λ yX6_sent (.code yX6_sent cX6_sent 3 (some .int)) ({ frames := 4, cells := 0, slots := 0, locals := 101 } : Room) [.ref a0, .int a1, .int a2] q σ (.inr (some (.int v))) σ' (fun z => z = q) := by
  refine kx_in (by decide +kernel) (Nat.le_of_ble_eq_true rfl) ?_
  intro Γ K hnm hsz hQ
  refine kx_lv (lv' := [(0, .ref a0), (1, .int a1), (2, .int a2)]) rfl ?_
  unfold m_X6_sent at hf
  refine kx_iload_n K dX6_sent_0 rfl 2 rfl ?_
  refine kx_if_lt K 9 hf dX6_sent_1 (by decide) (fun hf => ?_) (fun hf => ?_)
  · cases hf
  · refine kx_iload_n K dX6_sent_4 rfl 2 rfl ?_
    refine kx_iconst (v := 4) K dX6_sent_5 (by decide) ?_
    refine kx_icmp_le K 19 hf dX6_sent_6 (by decide) (fun hf => ?_) (fun hf => ?_)
    · refine kx_aload_n K dX6_sent_19 rfl 0 rfl ?_
      refine kx_gr K f_X6_25 dX6_sent_20 hf (fun x1 hf => ?_)
      refine kx_aload_n K dX6_sent_23 rfl 0 rfl ?_
      refine kx_gr K f_X6_10 dX6_sent_24 hf (fun x2 hf => ?_)
      refine kx_cv1i K c_X6_109 ⟨by decide, by decide, rfl, rfl, (by decide), (by decide)⟩ (Nat.le_of_ble_eq_true rfl) dX6_sent_27 hf (fun _ _ _ h => k_X4_play h) (fun x4 σ3 hf => ?_)
      refine kx_pop K dX6_sent_30 rfl ?_
      refine kx_aload_n K dX6_sent_31 rfl 0 rfl ?_
      refine kx_gr K f_X6_25 dX6_sent_32 hf (fun x5 hf => ?_)
      refine kx_cv0r K c_X6_116 ⟨by decide, by decide, rfl, rfl, (by decide), (by decide)⟩ (Nat.le_of_ble_eq_true rfl) dX6_sent_35 hf (fun _ _ _ h => k_X4_line h) (fun x7 σ6 hf => ?_)
      refine kx_iload_n K dX6_sent_38 rfl 1 rfl ?_
      refine kx_iload_n K dX6_sent_39 rfl 2 rfl ?_
      refine kx_cv2i K c_X6_149 ⟨by decide, by decide, rfl, rfl, (by decide), (by decide)⟩ (Nat.le_of_ble_eq_true rfl) dX6_sent_40 hf (fun _ _ _ h => k_X2_sentPart h) (fun x9 σ8 hf => ?_)
      exact kx_iretR K hQ (by decide) (by decide) (fun _ h => h) dX6_sent_43 hf
    · cases hf
def m_X6_checkPromise (σ : ac_H) (a0 : Int32) : Option ((String ⊕ Unit) × ac_H) :=
  if a0 < 0 then
  (some (.inl "java/lang/IllegalArgumentException", σ))
  else
  (if a0 < (4 : Int32) then
  (some (.inr (), σ))
  else
  (some (.inl "java/lang/IllegalArgumentException", σ)))
set_option maxRecDepth 100000 in
set_option maxHeartbeats 4000000 in
theorem k_X6_checkPromise {Λ : ex_L} {q : Nat} {σ σ' : ac_H} {a0 : Int32} {v : Unit} (hf : m_X6_checkPromise σ a0 = some (.inr v, σ')) : kx_C Λ yX6_checkPromise (.code yX6_checkPromise cX6_checkPromise 1 none) ({ frames := 0, cells := 0, slots := 0, locals := 0 } : Room) [.int a0] q σ (.inr none) σ' (fun z => z = q) := by
  refine kx_in (by decide +kernel) (Nat.le_of_ble_eq_true rfl) ?_
  intro Γ K hnm hsz hQ
  refine kx_lv (lv' := [(0, .int a0)]) rfl ?_
  unfold m_X6_checkPromise at hf
  refine kx_iload_n K dX6_checkPromise_0 rfl 0 rfl ?_
  refine kx_if_lt K 9 hf dX6_checkPromise_1 (by decide) (fun hf => ?_) (fun hf => ?_)
  · cases hf
  · refine kx_iload_n K dX6_checkPromise_4 rfl 0 rfl ?_
    refine kx_iconst (v := 4) K dX6_checkPromise_5 (by decide) ?_
    refine kx_icmp_lt K 19 hf dX6_checkPromise_6 (by decide) (fun hf => ?_) (fun hf => ?_)
    · exact kx_vretR K hQ (by decide) (by decide) (fun _ h => h) dX6_checkPromise_19 hf
    · cases hf
def m_X6_isBroken (σ : ac_H) (a0 : Nat) (a1 : Nat) (a2 : Int32) : Option (Int32 × ac_H) :=
  mo_gr σ a0 6 2 fun x1 =>
  mo_cv σ x1 4 (m_X4_play σ x1 a1) fun x3 σ2 =>
  if ((x3 >>> (a2 &&& 31)) &&& (1 : Int32)) = 0 then
  (mo_z (0 : Int32) (some ((0 : Int32), σ2)))
  else
  (mo_z (1 : Int32) (some ((1 : Int32), σ2)))
set_option maxRecDepth 100000 in
set_option maxHeartbeats 4000000 in
theorem k_X6_isBroken {Λ : ex_L} {q : Nat} {σ σ' : ac_H} {a0 : Nat} {a1 : Nat} {a2 : Int32} {v : Int32} (hf : m_X6_isBroken σ a0 a1 a2 = some (v, σ')) : kx_C Λ yX6_isBroken (.code yX6_isBroken cX6_isBroken 3 (some .boolean)) ({ frames := 4, cells := 0, slots := 0, locals := 101 } : Room) [.ref a0, .ref a1, .int a2] q σ (.inr (some (.int v))) σ' (fun z => z = q) := by
  refine kx_in (by decide +kernel) (Nat.le_of_ble_eq_true rfl) ?_
  intro Γ K hnm hsz hQ
  refine kx_lv (lv' := [(0, .ref a0), (1, .ref a1), (2, .int a2)]) rfl ?_
  unfold m_X6_isBroken at hf
  refine kx_aload_n K dX6_isBroken_0 rfl 0 rfl ?_
  refine kx_gr K f_X6_25 dX6_isBroken_1 hf (fun x1 hf => ?_)
  refine kx_aload_n K dX6_isBroken_4 rfl 1 rfl ?_
  refine kx_cv1i K c_X6_109 ⟨by decide, by decide, rfl, rfl, (by decide), (by decide)⟩ (Nat.le_of_ble_eq_true rfl) dX6_isBroken_5 hf (fun _ _ _ h => k_X4_play h) (fun x3 σ2 hf => ?_)
  refine kx_iload_n K dX6_isBroken_8 rfl 2 rfl ?_
  refine kx_ishr K dX6_isBroken_9 ?_
  refine kx_iconst (v := 1) K dX6_isBroken_10 (by decide) ?_
  refine kx_iand K dX6_isBroken_11 ?_
  refine kx_if_eq K 19 hf dX6_isBroken_12 (by decide) (fun hf => ?_) (fun hf => ?_)
  · refine kx_iconst (v := 0) K dX6_isBroken_19 (by decide) ?_
    exact kx_zret K hQ (by decide) (by decide) (fun _ h => h) dX6_isBroken_20 hf
  · refine kx_iconst (v := 1) K dX6_isBroken_15 (by decide) ?_
    refine kx_goto K 20 dX6_isBroken_16 (by decide) ?_
    exact kx_zret K hQ (by decide) (by decide) (fun _ h => h) dX6_isBroken_20 hf
def m_X6_breaks (σ : ac_H) (a0 : Nat) (a1 : Int32) : Option ((String ⊕ Int32) × ac_H) :=
  mo_xs (m_X6_checkPromise σ a1) fun _ σ1 =>
  mo_gr σ1 a0 6 0 fun x2 =>
  mo_cv σ1 a0 6 (m_X6_isBroken σ1 a0 x2 a1) fun x4 σ3 =>
  mo_z x4 (some (.inr x4, σ3))
set_option maxRecDepth 100000 in
set_option maxHeartbeats 4000000 in
theorem k_X6_breaks {Λ : ex_L} {q : Nat} {σ σ' : ac_H} {a0 : Nat} {a1 : Int32} {v : Int32} (hf : m_X6_breaks σ a0 a1 = some (.inr v, σ')) : kx_C Λ yX6_breaks (.code yX6_breaks cX6_breaks 2 (some .boolean)) ({ frames := 5, cells := 0, slots := 0, locals := 123 } : Room) [.ref a0, .int a1] q σ (.inr (some (.int v))) σ' (fun z => z = q) := by
  refine kx_in (by decide +kernel) (Nat.le_of_ble_eq_true rfl) ?_
  intro Γ K hnm hsz hQ
  refine kx_lv (lv' := [(0, .ref a0), (1, .int a1)]) rfl ?_
  unfold m_X6_breaks at hf
  refine kx_iload_n K dX6_breaks_0 rfl 1 rfl ?_
  refine kx_xsR (ρ := Unit) K [.int a1] (fun _ => none) c_X6_152 ⟨by decide, by decide, rfl, rfl, (by decide), (by decide)⟩ rfl rfl (Nat.le_of_ble_eq_true rfl) dX6_breaks_1 hf (fun _ _ _ h => k_X6_checkPromise h) (fun _ σ1 hf => ?_)
  refine kx_aload_n K dX6_breaks_4 rfl 0 rfl ?_
  refine kx_aload_n K dX6_breaks_5 rfl 0 rfl ?_
  refine kx_gr K f_X6_10 dX6_breaks_6 hf (fun x2 hf => ?_)
  refine kx_iload_n K dX6_breaks_9 rfl 1 rfl ?_
  refine kx_cv2i K c_X6_155 ⟨by decide, by decide, rfl, rfl, (by decide), (by decide)⟩ (Nat.le_of_ble_eq_true rfl) dX6_breaks_10 hf (fun _ _ _ h => k_X6_isBroken h) (fun x4 σ3 hf => ?_)
  exact kx_zretR K hQ (by decide) (by decide) (fun _ h => h) dX6_breaks_13 hf
def m_X6_reaches (σ : ac_H) (a0 : Nat) (a1 : Int32) (a2 : Int32) : Option (Int32 × ac_H) :=
  mo_gr σ a0 6 2 fun x1 =>
  mo_gr σ a0 6 0 fun x2 =>
  mo_cv σ x1 4 (m_X4_play σ x1 x2) fun x4 σ3 =>
  mo_gr σ3 a0 6 2 fun x5 =>
  mo_cv σ3 x5 4 (m_X4_states σ3 x5) fun x7 σ6 =>
  mo_cv σ6 x7 5 (m_X5_holds σ6 x7 a1 a2) fun x9 σ8 =>
  mo_z x9 (some (x9, σ8))
set_option maxRecDepth 100000 in
set_option maxHeartbeats 4000000 in
theorem k_X6_reaches {Λ : ex_L} {q : Nat} {σ σ' : ac_H} {a0 : Nat} {a1 : Int32} {a2 : Int32} {v : Int32} (hf : m_X6_reaches σ a0 a1 a2 = some (v, σ')) : kx_C Λ yX6_reaches (.code yX6_reaches cX6_reaches 3 (some .boolean)) ({ frames := 4, cells := 0, slots := 0, locals := 101 } : Room) [.ref a0, .int a1, .int a2] q σ (.inr (some (.int v))) σ' (fun z => z = q) := by
  refine kx_in (by decide +kernel) (Nat.le_of_ble_eq_true rfl) ?_
  intro Γ K hnm hsz hQ
  refine kx_lv (lv' := [(0, .ref a0), (1, .int a1), (2, .int a2)]) rfl ?_
  unfold m_X6_reaches at hf
  refine kx_aload_n K dX6_reaches_0 rfl 0 rfl ?_
  refine kx_gr K f_X6_25 dX6_reaches_1 hf (fun x1 hf => ?_)
  refine kx_aload_n K dX6_reaches_4 rfl 0 rfl ?_
  refine kx_gr K f_X6_10 dX6_reaches_5 hf (fun x2 hf => ?_)
  refine kx_cv1i K c_X6_109 ⟨by decide, by decide, rfl, rfl, (by decide), (by decide)⟩ (Nat.le_of_ble_eq_true rfl) dX6_reaches_8 hf (fun _ _ _ h => k_X4_play h) (fun x4 σ3 hf => ?_)
  refine kx_pop K dX6_reaches_11 rfl ?_
  refine kx_aload_n K dX6_reaches_12 rfl 0 rfl ?_
  refine kx_gr K f_X6_25 dX6_reaches_13 hf (fun x5 hf => ?_)
  refine kx_cv0r K c_X6_141 ⟨by decide, by decide, rfl, rfl, (by decide), (by decide)⟩ (Nat.le_of_ble_eq_true rfl) dX6_reaches_16 hf (fun _ _ _ h => k_X4_states h) (fun x7 σ6 hf => ?_)
  refine kx_iload_n K dX6_reaches_19 rfl 1 rfl ?_
  refine kx_iload_n K dX6_reaches_20 rfl 2 rfl ?_
  refine kx_cv2i K c_X6_159 ⟨by decide, by decide, rfl, rfl, (by decide), (by decide)⟩ (Nat.le_of_ble_eq_true rfl) dX6_reaches_21 hf (fun _ _ _ h => k_X5_holds h) (fun x9 σ8 hf => ?_)
  exact kx_zret K hQ (by decide) (by decide) (fun _ h => h) dX6_reaches_24 hf
def m_X6_matters (σ : ac_H) (a0 : Nat) (a1 : Int32) (a2 : Int32) : Option ((String ⊕ Int32) × ac_H) :=
  mo_xv σ a0 6 (m_X6_checkFault σ a0 a1) fun _ σ1 =>
  mo_xs (m_X6_checkPromise σ1 a2) fun _ σ2 =>
  mo_gr σ2 a0 6 0 fun x3 =>
  mo_cv σ2 a0 6 (m_X6_isBroken σ2 a0 x3 a2) fun x5 σ4 =>
  if x5 = 0 then
  (mo_z (0 : Int32) (some (.inr (0 : Int32), σ4)))
  else
  (mo_gr σ4 a0 6 1 fun x6 =>
  mo_gr σ4 a0 6 0 fun x7 =>
  mo_cv σ4 x6 0 (m_X0_takeAll σ4 x6 x7) fun _ σ8 =>
  mo_gr σ8 a0 6 1 fun x9 =>
  mo_cv σ8 x9 0 (m_X0_delete σ8 x9 a1) fun _ σ10 =>
  mo_gr σ10 a0 6 1 fun x11 =>
  mo_cv σ10 a0 6 (m_X6_isBroken σ10 a0 x11 a2) fun x13 σ12 =>
  if x13 = 0 then
  (mo_z (1 : Int32) (some (.inr (1 : Int32), σ12)))
  else
  (mo_z (0 : Int32) (some (.inr (0 : Int32), σ12))))
set_option maxRecDepth 100000 in
set_option maxHeartbeats 4000000 in
theorem k_X6_matters {Λ : ex_L} {q : Nat} {σ σ' : ac_H} {a0 : Nat} {a1 : Int32} {a2 : Int32} {v : Int32} (hf : m_X6_matters σ a0 a1 a2 = some (.inr v, σ')) : kx_C Λ yX6_matters (.code yX6_matters cX6_matters 3 (some .boolean)) ({ frames := 5, cells := 0, slots := 0, locals := 123 } : Room) [.ref a0, .int a1, .int a2] q σ (.inr (some (.int v))) σ' (fun z => z = q) := by
  refine kx_in (by decide +kernel) (Nat.le_of_ble_eq_true rfl) ?_
  intro Γ K hnm hsz hQ
  refine kx_lv (lv' := [(0, .ref a0), (1, .int a1), (2, .int a2)]) rfl ?_
  unfold m_X6_matters at hf
  refine kx_aload_n K dX6_matters_0 rfl 0 rfl ?_
  refine kx_iload_n K dX6_matters_1 rfl 1 rfl ?_
  refine kx_xvR (ρ := Unit) K [.int a1] (fun _ => none) c_X6_98 ⟨by decide, by decide, rfl, rfl, (by decide), (by decide)⟩ rfl rfl (Nat.le_of_ble_eq_true rfl) dX6_matters_2 hf (fun _ _ _ h => k_X6_checkFault h) (fun _ σ1 hf => ?_)
  refine kx_iload_n K dX6_matters_5 rfl 2 rfl ?_
  refine kx_xsR (ρ := Unit) K [.int a2] (fun _ => none) c_X6_152 ⟨by decide, by decide, rfl, rfl, (by decide), (by decide)⟩ rfl rfl (Nat.le_of_ble_eq_true rfl) dX6_matters_6 hf (fun _ _ _ h => k_X6_checkPromise h) (fun _ σ2 hf => ?_)
  refine kx_aload_n K dX6_matters_9 rfl 0 rfl ?_
  refine kx_aload_n K dX6_matters_10 rfl 0 rfl ?_
  refine kx_gr K f_X6_10 dX6_matters_11 hf (fun x3 hf => ?_)
  refine kx_iload_n K dX6_matters_14 rfl 2 rfl ?_
  refine kx_cv2i K c_X6_155 ⟨by decide, by decide, rfl, rfl, (by decide), (by decide)⟩ (Nat.le_of_ble_eq_true rfl) dX6_matters_15 hf (fun _ _ _ h => k_X6_isBroken h) (fun x5 σ4 hf => ?_)
  refine kx_if_ne K 23 hf dX6_matters_18 (by decide) (fun hf => ?_) (fun hf => ?_)
  · refine kx_aload_n K dX6_matters_23 rfl 0 rfl ?_
    refine kx_gr K f_X6_19 dX6_matters_24 hf (fun x6 hf => ?_)
    refine kx_aload_n K dX6_matters_27 rfl 0 rfl ?_
    refine kx_gr K f_X6_10 dX6_matters_28 hf (fun x7 hf => ?_)
    refine kx_cv1v K c_X6_74 ⟨by decide, by decide, rfl, rfl, (by decide), (by decide)⟩ (Nat.le_of_ble_eq_true rfl) dX6_matters_31 hf (fun _ _ _ h => k_X0_takeAll h) (fun _ σ8 hf => ?_)
    refine kx_aload_n K dX6_matters_34 rfl 0 rfl ?_
    refine kx_gr K f_X6_19 dX6_matters_35 hf (fun x9 hf => ?_)
    refine kx_iload_n K dX6_matters_38 rfl 1 rfl ?_
    refine kx_cv1v K c_X6_163 ⟨by decide, by decide, rfl, rfl, (by decide), (by decide)⟩ (Nat.le_of_ble_eq_true rfl) dX6_matters_39 hf (fun _ _ _ h => k_X0_delete h) (fun _ σ10 hf => ?_)
    refine kx_aload_n K dX6_matters_42 rfl 0 rfl ?_
    refine kx_aload_n K dX6_matters_43 rfl 0 rfl ?_
    refine kx_gr K f_X6_19 dX6_matters_44 hf (fun x11 hf => ?_)
    refine kx_iload_n K dX6_matters_47 rfl 2 rfl ?_
    refine kx_cv2i K c_X6_155 ⟨by decide, by decide, rfl, rfl, (by decide), (by decide)⟩ (Nat.le_of_ble_eq_true rfl) dX6_matters_48 hf (fun _ _ _ h => k_X6_isBroken h) (fun x13 σ12 hf => ?_)
    refine kx_if_ne K 58 hf dX6_matters_51 (by decide) (fun hf => ?_) (fun hf => ?_)
    · refine kx_iconst (v := 0) K dX6_matters_58 (by decide) ?_
      exact kx_zretR K hQ (by decide) (by decide) (fun _ h => h) dX6_matters_59 hf
    · refine kx_iconst (v := 1) K dX6_matters_54 (by decide) ?_
      refine kx_goto K 59 dX6_matters_55 (by decide) ?_
      exact kx_zretR K hQ (by decide) (by decide) (fun _ h => h) dX6_matters_59 hf
  · refine kx_iconst (v := 0) K dX6_matters_21 (by decide) ?_
    exact kx_zretR K hQ (by decide) (by decide) (fun _ h => h) dX6_matters_22 hf
def m_X6_mirror_l4  (a0 : Int32) (a1 : Int32) : Nat → ac_H → Int32 → Int32 → Option (Int32 × ac_H)
  | 0, _, _, _ => none
  | n + 1, σ3, v1, v2 =>
    if v2 < a1 then
    (m_X6_mirror_l4 a0 a1 n σ3 ((v1 <<< ((1 : Int32) &&& 31)) ||| ((a0 >>> (v2 &&& 31)) &&& (1 : Int32))) (v2 + 1))
    else
    (some (v1, σ3))
def m_X6_mirror (σ : ac_H) (a0 : Int32) (a1 : Int32) : Option (Int32 × ac_H) :=
  m_X6_mirror_l4 a0 a1 hN_f σ (0 : Int32) (0 : Int32)
set_option maxRecDepth 100000 in
set_option maxHeartbeats 4000000 in
theorem k_X6_mirror {Λ : ex_L} {q : Nat} {σ σ' : ac_H} {a0 : Int32} {a1 : Int32} {v : Int32} (hf : m_X6_mirror σ a0 a1 = some (v, σ')) : kx_C Λ yX6_mirror (.code yX6_mirror cX6_mirror 4 (some .int)) ({ frames := 0, cells := 0, slots := 0, locals := 0 } : Room) [.int a0, .int a1] q σ (.inr (some (.int v))) σ' (fun z => z = q) := by
  refine kx_in (by decide +kernel) (Nat.le_of_ble_eq_true rfl) ?_
  intro Γ K hnm hsz hQ
  refine kx_lv (lv' := [(0, .int a0), (1, .int a1)]) rfl ?_
  have B4 : ∀ (n4 : Nat) (σ3 : ac_H) (v1 : Int32) (v2 : Int32), m_X6_mirror_l4 a0 a1 n4 σ3 v1 v2 = some (v, σ') → kx_S Λ Γ 4 (fun z => z = q) σ3 (0) (0) 4 [(0, .int a0), (1, .int a1), (2, .int v1), (3, .int v2)] [] := by
    intro n4
    induction n4 with
    | zero =>
      intro σ3 v1 v2 hf
      rw [m_X6_mirror_l4] at hf
      cases hf
    | succ n4 ih4 =>
      intro σ3 v1 v2 hf
      rw [m_X6_mirror_l4] at hf
      refine kx_iload_n K dX6_mirror_4 rfl 3 rfl ?_
      refine kx_iload_n K dX6_mirror_5 rfl 1 rfl ?_
      refine kx_icmp_ge K 25 hf dX6_mirror_6 (by decide) (fun hf => ?_) (fun hf => ?_)
      · refine kx_iload_n K dX6_mirror_25 rfl 2 rfl ?_
        exact kx_iret K hQ (by decide) (by decide) (fun _ h => h) dX6_mirror_26 hf
      · refine kx_iload_n K dX6_mirror_9 rfl 2 rfl ?_
        refine kx_iconst (v := 1) K dX6_mirror_10 (by decide) ?_
        refine kx_ishl K dX6_mirror_11 ?_
        refine kx_iload_n K dX6_mirror_12 rfl 0 rfl ?_
        refine kx_iload_n K dX6_mirror_13 rfl 3 rfl ?_
        refine kx_ishr K dX6_mirror_14 ?_
        refine kx_iconst (v := 1) K dX6_mirror_15 (by decide) ?_
        refine kx_iand K dX6_mirror_16 ?_
        refine kx_ior K dX6_mirror_17 ?_
        refine kx_istore_n K [(2, .int ((v1 <<< ((1 : Int32) &&& 31)) ||| ((a0 >>> (v2 &&& 31)) &&& (1 : Int32)))), (0, .int a0), (1, .int a1), (3, .int v2)] dX6_mirror_18 rfl (by decide) rfl ?_
        refine kx_iinc (v := (v2 + 1)) K [(3, .int (v2 + 1)), (2, .int ((v1 <<< ((1 : Int32) &&& 31)) ||| ((a0 >>> (v2 &&& 31)) &&& (1 : Int32)))), (0, .int a0), (1, .int a1)] dX6_mirror_19 3 rfl rfl (by decide) rfl ?_
        refine kx_goto K 4 dX6_mirror_22 (by decide) ?_
        refine kx_sub [(0, .int a0), (1, .int a1), (2, .int ((v1 <<< ((1 : Int32) &&& 31)) ||| ((a0 >>> (v2 &&& 31)) &&& (1 : Int32)))), (3, .int (v2 + 1))] [2, 3, 1, 0] rfl ?_
        exact ih4 _ _ _ hf
  unfold m_X6_mirror at hf
  refine kx_iconst (v := 0) K dX6_mirror_0 (by decide) ?_
  refine kx_istore_n K [(2, .int (0 : Int32)), (0, .int a0), (1, .int a1)] dX6_mirror_1 rfl (by decide) rfl ?_
  refine kx_iconst (v := 0) K dX6_mirror_2 (by decide) ?_
  refine kx_istore_n K [(3, .int (0 : Int32)), (2, .int (0 : Int32)), (0, .int a0), (1, .int a1)] dX6_mirror_3 rfl (by decide) rfl ?_
  refine kx_sub [(0, .int a0), (1, .int a1), (2, .int (0 : Int32)), (3, .int (0 : Int32))] [2, 3, 1, 0] rfl ?_
  exact B4 hN_f _ _ _ hf
def m_X6_findCore_l26 (K15 : ac_H → Int32 → Int32 → Int32 → Option (Int32 × ac_H)) (a0 : Nat) (a1 : Int32) : Nat → ac_H → Int32 → Int32 → Int32 → Int32 → Option (Int32 × ac_H)
  | 0, _, _, _, _, _ => none
  | n + 1, σ12, v8, v9, v10, v11 =>
    if v11 < 0 then
    (K15 σ12 v8 v9 (v10 + 1))
    else
    (mo_cs (m_J6_bitCount_0f7a4 σ12 v11) fun x14 σ13 =>
    if x14 = v10 then
    (mo_cs (m_X6_mirror σ13 v11 v8) fun x16 σ15 =>
    mo_gr σ15 a0 6 1 fun x17 =>
    mo_gr σ15 a0 6 0 fun x18 =>
    mo_cv σ15 x17 0 (m_X0_takePart σ15 x17 x18 x16) fun _ σ19 =>
    mo_gr σ19 a0 6 1 fun x20 =>
    mo_cv σ19 a0 6 (m_X6_isBroken σ19 a0 x20 a1) fun x22 σ21 =>
    if x22 = 0 then
    (m_X6_findCore_l26 K15 a0 a1 n σ21 v8 v9 v10 (v11 + (-1)))
    else
    (some (x16, σ21)))
    else
    (m_X6_findCore_l26 K15 a0 a1 n σ13 v8 v9 v10 (v11 + (-1))))
def m_X6_findCore_l15  (a0 : Nat) (a1 : Int32) : Nat → ac_H → Int32 → Int32 → Int32 → Option (Int32 × ac_H)
  | 0, _, _, _, _ => none
  | n + 1, σ7, v4, v5, v6 =>
    if v4 < v6 then
    (some ((-1 : Int32), σ7))
    else
    (m_X6_findCore_l26 (fun ρ y0 y1 y2 => m_X6_findCore_l15 a0 a1 n ρ y0 y1 y2) a0 a1 hN_f σ7 v4 v5 v6 (v5 - (1 : Int32)))
def m_X6_findCore (σ : ac_H) (a0 : Nat) (a1 : Int32) : Option (Int32 × ac_H) :=
  mo_gr σ a0 6 0 fun x1 =>
  mo_cv σ x1 0 (m_X0_faultCount σ x1) fun x3 σ2 =>
  m_X6_findCore_l15 a0 a1 hN_f σ2 x3 ((1 : Int32) <<< (x3 &&& 31)) (0 : Int32)
set_option maxRecDepth 100000 in
set_option maxHeartbeats 4000000 in
theorem k_X6_findCore {Λ : ex_L} {q : Nat} {σ σ' : ac_H} {a0 : Nat} {a1 : Int32} {v : Int32} (hf : m_X6_findCore σ a0 a1 = some (v, σ')) : kx_C Λ yX6_findCore (.code yX6_findCore cX6_findCore 7 (some .int)) ({ frames := 5, cells := 0, slots := 0, locals := 123 } : Room) [.ref a0, .int a1] q σ (.inr (some (.int v))) σ' (fun z => z = q) := by
  refine kx_in (by decide +kernel) (Nat.le_of_ble_eq_true rfl) ?_
  intro Γ K hnm hsz hQ
  refine kx_lv (lv' := [(0, .ref a0), (1, .int a1)]) rfl ?_
  have B15 : ∀ (n15 : Nat) (σ7 : ac_H) (v4 : Int32) (v5 : Int32) (v6 : Int32), m_X6_findCore_l15 a0 a1 n15 σ7 v4 v5 v6 = some (v, σ') → kx_S Λ Γ 7 (fun z => z = q) σ7 (0) (0) 15 [(0, .ref a0), (1, .int a1), (2, .int v4), (3, .int v5), (4, .int v6)] [] := by
    intro n15
    induction n15 with
    | zero =>
      intro σ7 v4 v5 v6 hf
      rw [m_X6_findCore_l15] at hf
      cases hf
    | succ n15 ih15 =>
      have B26 : ∀ (n26 : Nat) (σ12 : ac_H) (v8 : Int32) (v9 : Int32) (v10 : Int32) (v11 : Int32), m_X6_findCore_l26 (fun ρ y0 y1 y2 => m_X6_findCore_l15 a0 a1 n15 ρ y0 y1 y2) a0 a1 n26 σ12 v8 v9 v10 v11 = some (v, σ') → kx_S Λ Γ 7 (fun z => z = q) σ12 (0) (0) 26 [(0, .ref a0), (1, .int a1), (2, .int v8), (3, .int v9), (4, .int v10), (5, .int v11)] [] := by
        intro n26
        induction n26 with
        | zero =>
          intro σ12 v8 v9 v10 v11 hf
          rw [m_X6_findCore_l26] at hf
          cases hf
        | succ n26 ih26 =>
          intro σ12 v8 v9 v10 v11 hf
          rw [m_X6_findCore_l26] at hf
          refine kx_iload K dX6_findCore_26 5 rfl ?_
          refine kx_if_lt K 86 hf dX6_findCore_28 (by decide) (fun hf => ?_) (fun hf => ?_)
          · refine kx_iinc (v := (v10 + 1)) K [(4, .int (v10 + 1)), (0, .ref a0), (1, .int a1), (2, .int v8), (3, .int v9), (5, .int v11)] dX6_findCore_86 4 rfl rfl (by decide) rfl ?_
            refine kx_goto K 15 dX6_findCore_89 (by decide) ?_
            refine kx_sub [(0, .ref a0), (1, .int a1), (2, .int v8), (3, .int v9), (4, .int (v10 + 1))] [1, 2, 3, 4, 0] rfl ?_
            exact ih15 _ _ _ _ hf
          · refine kx_iload K dX6_findCore_31 5 rfl ?_
            refine kx_cs1i K c_X6_169 ⟨by decide, by decide, rfl, rfl, (by decide), (by decide)⟩ (Nat.le_of_ble_eq_true rfl) dX6_findCore_33 hf (fun _ _ _ h => k_J6_bitCount_0f7a4 h) (fun x14 σ13 hf => ?_)
            refine kx_iload K dX6_findCore_36 4 rfl ?_
            refine kx_icmp_eq K 44 hf dX6_findCore_38 (by decide) (fun hf => ?_) (fun hf => ?_)
            · refine kx_iload K dX6_findCore_44 5 rfl ?_
              refine kx_iload_n K dX6_findCore_46 rfl 2 rfl ?_
              refine kx_cs2i K c_X6_255 ⟨by decide, by decide, rfl, rfl, (by decide), (by decide)⟩ (Nat.le_of_ble_eq_true rfl) dX6_findCore_47 hf (fun _ _ _ h => k_X6_mirror h) (fun x16 σ15 hf => ?_)
              refine kx_istore K [(6, .int x16), (0, .ref a0), (1, .int a1), (2, .int v8), (3, .int v9), (4, .int v10), (5, .int v11)] dX6_findCore_50 (by decide) rfl ?_
              refine kx_aload_n K dX6_findCore_52 rfl 1 rfl ?_
              refine kx_gr K f_X6_19 dX6_findCore_53 hf (fun x17 hf => ?_)
              refine kx_aload_n K dX6_findCore_56 rfl 1 rfl ?_
              refine kx_gr K f_X6_10 dX6_findCore_57 hf (fun x18 hf => ?_)
              refine kx_iload K dX6_findCore_60 0 rfl ?_
              refine kx_cv2v K c_X6_251 ⟨by decide, by decide, rfl, rfl, (by decide), (by decide)⟩ (Nat.le_of_ble_eq_true rfl) dX6_findCore_62 hf (fun _ _ _ h => k_X0_takePart h) (fun _ σ19 hf => ?_)
              refine kx_aload_n K dX6_findCore_65 rfl 1 rfl ?_
              refine kx_aload_n K dX6_findCore_66 rfl 1 rfl ?_
              refine kx_gr K f_X6_19 dX6_findCore_67 hf (fun x20 hf => ?_)
              refine kx_iload_n K dX6_findCore_70 rfl 2 rfl ?_
              refine kx_cv2i K c_X6_155 ⟨by decide, by decide, rfl, rfl, (by decide), (by decide)⟩ (Nat.le_of_ble_eq_true rfl) dX6_findCore_71 hf (fun _ _ _ h => k_X6_isBroken h) (fun x22 σ21 hf => ?_)
              refine kx_if_eq K 80 hf dX6_findCore_74 (by decide) (fun hf => ?_) (fun hf => ?_)
              · refine kx_iinc (v := (v11 + (-1))) K [(5, .int (v11 + (-1))), (6, .int x16), (0, .ref a0), (1, .int a1), (2, .int v8), (3, .int v9), (4, .int v10)] dX6_findCore_80 6 rfl rfl (by decide) rfl ?_
                refine kx_goto K 26 dX6_findCore_83 (by decide) ?_
                refine kx_sub [(0, .ref a0), (1, .int a1), (2, .int v8), (3, .int v9), (4, .int v10), (5, .int (v11 + (-1)))] [2, 3, 4, 5, 6, 0] rfl ?_
                exact ih26 _ _ _ _ _ hf
              · refine kx_iload K dX6_findCore_77 0 rfl ?_
                exact kx_iret K hQ (by decide) (by decide) (fun _ h => h) dX6_findCore_79 hf
            · refine kx_goto K 80 dX6_findCore_41 (by decide) ?_
              refine kx_iinc (v := (v11 + (-1))) K [(5, .int (v11 + (-1))), (0, .ref a0), (1, .int a1), (2, .int v8), (3, .int v9), (4, .int v10)] dX6_findCore_80 5 rfl rfl (by decide) rfl ?_
              refine kx_goto K 26 dX6_findCore_83 (by decide) ?_
              refine kx_sub [(0, .ref a0), (1, .int a1), (2, .int v8), (3, .int v9), (4, .int v10), (5, .int (v11 + (-1)))] [1, 2, 3, 4, 5, 0] rfl ?_
              exact ih26 _ _ _ _ _ hf
      intro σ7 v4 v5 v6 hf
      rw [m_X6_findCore_l15] at hf
      refine kx_iload K dX6_findCore_15 4 rfl ?_
      refine kx_iload_n K dX6_findCore_17 rfl 2 rfl ?_
      refine kx_icmp_gt K 92 hf dX6_findCore_18 (by decide) (fun hf => ?_) (fun hf => ?_)
      · refine kx_iconst (v := -1) K dX6_findCore_92 (by decide) ?_
        exact kx_iret K hQ (by decide) (by decide) (fun _ h => h) dX6_findCore_93 hf
      · refine kx_iload_n K dX6_findCore_21 rfl 3 rfl ?_
        refine kx_iconst (v := 1) K dX6_findCore_22 (by decide) ?_
        refine kx_isub K dX6_findCore_23 ?_
        refine kx_istore K [(5, .int (v5 - (1 : Int32))), (0, .ref a0), (1, .int a1), (2, .int v4), (3, .int v5), (4, .int v6)] dX6_findCore_24 (by decide) rfl ?_
        refine kx_sub [(0, .ref a0), (1, .int a1), (2, .int v4), (3, .int v5), (4, .int v6), (5, .int (v5 - (1 : Int32)))] [1, 2, 3, 4, 5, 0] rfl ?_
        exact B26 hN_f _ _ _ _ _ hf
  unfold m_X6_findCore at hf
  refine kx_aload_n K dX6_findCore_0 rfl 0 rfl ?_
  refine kx_gr K f_X6_10 dX6_findCore_1 hf (fun x1 hf => ?_)
  refine kx_cv0i K c_X6_84 ⟨by decide, by decide, rfl, rfl, (by decide), (by decide)⟩ (Nat.le_of_ble_eq_true rfl) dX6_findCore_4 hf (fun _ _ _ h => k_X0_faultCount h) (fun x3 σ2 hf => ?_)
  refine kx_istore_n K [(2, .int x3), (0, .ref a0), (1, .int a1)] dX6_findCore_7 rfl (by decide) rfl ?_
  refine kx_iconst (v := 1) K dX6_findCore_8 (by decide) ?_
  refine kx_iload_n K dX6_findCore_9 rfl 0 rfl ?_
  refine kx_ishl K dX6_findCore_10 ?_
  refine kx_istore_n K [(3, .int ((1 : Int32) <<< (x3 &&& 31))), (2, .int x3), (0, .ref a0), (1, .int a1)] dX6_findCore_11 rfl (by decide) rfl ?_
  refine kx_iconst (v := 0) K dX6_findCore_12 (by decide) ?_
  refine kx_istore K [(4, .int (0 : Int32)), (3, .int ((1 : Int32) <<< (x3 &&& 31))), (2, .int x3), (0, .ref a0), (1, .int a1)] dX6_findCore_13 (by decide) rfl ?_
  refine kx_sub [(0, .ref a0), (1, .int a1), (2, .int x3), (3, .int ((1 : Int32) <<< (x3 &&& 31))), (4, .int (0 : Int32))] [3, 4, 2, 1, 0] rfl ?_
  exact B15 hN_f _ _ _ _ hf
def m_X6_smallest (σ : ac_H) (a0 : Nat) (a1 : Int32) : Option ((String ⊕ Int32) × ac_H) :=
  mo_xs (m_X6_checkPromise σ a1) fun _ σ1 =>
  mo_cv σ1 a0 6 (m_X6_findCore σ1 a0 a1) fun x3 σ2 =>
  if x3 = (-1 : Int32) then
  (some (.inr (-1 : Int32), σ2))
  else
  (mo_cs (m_J6_bitCount_0f7a4 σ2 x3) fun x5 σ4 =>
  some (.inr x5, σ4))
set_option maxRecDepth 100000 in
set_option maxHeartbeats 4000000 in
theorem k_X6_smallest {Λ : ex_L} {q : Nat} {σ σ' : ac_H} {a0 : Nat} {a1 : Int32} {v : Int32} (hf : m_X6_smallest σ a0 a1 = some (.inr v, σ')) : kx_C Λ yX6_smallest (.code yX6_smallest cX6_smallest 3 (some .int)) ({ frames := 6, cells := 0, slots := 0, locals := 149 } : Room) [.ref a0, .int a1] q σ (.inr (some (.int v))) σ' (fun z => z = q) := by
  refine kx_in (by decide +kernel) (Nat.le_of_ble_eq_true rfl) ?_
  intro Γ K hnm hsz hQ
  refine kx_lv (lv' := [(0, .ref a0), (1, .int a1)]) rfl ?_
  unfold m_X6_smallest at hf
  refine kx_iload_n K dX6_smallest_0 rfl 1 rfl ?_
  refine kx_xsR (ρ := Unit) K [.int a1] (fun _ => none) c_X6_152 ⟨by decide, by decide, rfl, rfl, (by decide), (by decide)⟩ rfl rfl (Nat.le_of_ble_eq_true rfl) dX6_smallest_1 hf (fun _ _ _ h => k_X6_checkPromise h) (fun _ σ1 hf => ?_)
  refine kx_aload_n K dX6_smallest_4 rfl 0 rfl ?_
  refine kx_iload_n K dX6_smallest_5 rfl 1 rfl ?_
  refine kx_cv1i K c_X6_166 ⟨by decide, by decide, rfl, rfl, (by decide), (by decide)⟩ (Nat.le_of_ble_eq_true rfl) dX6_smallest_6 hf (fun _ _ _ h => k_X6_findCore h) (fun x3 σ2 hf => ?_)
  refine kx_istore_n K [(2, .int x3), (0, .ref a0), (1, .int a1)] dX6_smallest_9 rfl (by decide) rfl ?_
  refine kx_iload_n K dX6_smallest_10 rfl 0 rfl ?_
  refine kx_iconst (v := -1) K dX6_smallest_11 (by decide) ?_
  refine kx_icmp_ne K 19 hf dX6_smallest_12 (by decide) (fun hf => ?_) (fun hf => ?_)
  · refine kx_iload_n K dX6_smallest_19 rfl 0 rfl ?_
    refine kx_cs1i K c_X6_169 ⟨by decide, by decide, rfl, rfl, (by decide), (by decide)⟩ (Nat.le_of_ble_eq_true rfl) dX6_smallest_20 hf (fun _ _ _ h => k_J6_bitCount_0f7a4 h) (fun x5 σ4 hf => ?_)
    exact kx_iretR K hQ (by decide) (by decide) (fun _ h => h) dX6_smallest_23 hf
  · refine kx_iconst (v := -1) K dX6_smallest_15 (by decide) ?_
    refine kx_goto K 23 dX6_smallest_16 (by decide) ?_
    exact kx_iretR K hQ (by decide) (by decide) (fun _ h => h) dX6_smallest_23 hf
def m_X6_core (σ : ac_H) (a0 : Nat) (a1 : Int32) : Option ((String ⊕ Int32) × ac_H) :=
  mo_xs (m_X6_checkPromise σ a1) fun _ σ1 =>
  mo_cv σ1 a0 6 (m_X6_findCore σ1 a0 a1) fun x3 σ2 =>
  some (.inr x3, σ2)
set_option maxRecDepth 100000 in
set_option maxHeartbeats 4000000 in
theorem k_X6_core {Λ : ex_L} {q : Nat} {σ σ' : ac_H} {a0 : Nat} {a1 : Int32} {v : Int32} (hf : m_X6_core σ a0 a1 = some (.inr v, σ')) : kx_C Λ yX6_core (.code yX6_core cX6_core 2 (some .int)) ({ frames := 6, cells := 0, slots := 0, locals := 149 } : Room) [.ref a0, .int a1] q σ (.inr (some (.int v))) σ' (fun z => z = q) := by
  refine kx_in (by decide +kernel) (Nat.le_of_ble_eq_true rfl) ?_
  intro Γ K hnm hsz hQ
  refine kx_lv (lv' := [(0, .ref a0), (1, .int a1)]) rfl ?_
  unfold m_X6_core at hf
  refine kx_iload_n K dX6_core_0 rfl 1 rfl ?_
  refine kx_xsR (ρ := Unit) K [.int a1] (fun _ => none) c_X6_152 ⟨by decide, by decide, rfl, rfl, (by decide), (by decide)⟩ rfl rfl (Nat.le_of_ble_eq_true rfl) dX6_core_1 hf (fun _ _ _ h => k_X6_checkPromise h) (fun _ σ1 hf => ?_)
  refine kx_aload_n K dX6_core_4 rfl 0 rfl ?_
  refine kx_iload_n K dX6_core_5 rfl 1 rfl ?_
  refine kx_cv1i K c_X6_166 ⟨by decide, by decide, rfl, rfl, (by decide), (by decide)⟩ (Nat.le_of_ble_eq_true rfl) dX6_core_6 hf (fun _ _ _ h => k_X6_findCore h) (fun x3 σ2 hf => ?_)
  exact kx_iretR K hQ (by decide) (by decide) (fun _ h => h) dX6_core_9 hf
def m_X6_findLeastAmount_l39  (a0 : Nat) (a1 : Int32) (a2 : Int32) : Nat → ac_H → Int32 → Int32 → Option (Int32 × ac_H)
  | 0, _, _, _ => none
  | n + 1, σ12, v10, v11 =>
    if v10 < v11 then
    (some ((-1 : Int32), σ12))
    else
    (mo_gr σ12 a0 6 1 fun x13 =>
    mo_cv σ12 x13 0 (m_X0_changeAmount σ12 x13 a1 v11) fun _ σ14 =>
    mo_gr σ14 a0 6 1 fun x15 =>
    mo_cv σ14 a0 6 (m_X6_isBroken σ14 a0 x15 a2) fun x17 σ16 =>
    if x17 = 0 then
    (m_X6_findLeastAmount_l39 a0 a1 a2 n σ16 v10 (v11 + 1))
    else
    (some (v11, σ16)))
def m_X6_findLeastAmount (σ : ac_H) (a0 : Nat) (a1 : Int32) (a2 : Int32) : Option (Int32 × ac_H) :=
  mo_gr σ a0 6 0 fun x1 =>
  mo_cv σ x1 0 (m_X0_faultPart σ x1 a1 (0 : Int32)) fun x3 σ2 =>
  if x3 = (2 : Int32) then
  (mo_gr σ2 a0 6 1 fun x4 =>
  mo_gr σ2 a0 6 0 fun x5 =>
  mo_cv σ2 x4 0 (m_X0_takeAll σ2 x4 x5) fun _ σ6 =>
  mo_gr σ6 a0 6 0 fun x7 =>
  mo_cv σ6 x7 0 (m_X0_faultPart σ6 x7 a1 (2 : Int32)) fun x9 σ8 =>
  m_X6_findLeastAmount_l39 a0 a1 a2 hN_f σ8 x9 (1 : Int32))
  else
  (some ((-1 : Int32), σ2))
set_option maxRecDepth 100000 in
set_option maxHeartbeats 4000000 in
theorem k_X6_findLeastAmount {Λ : ex_L} {q : Nat} {σ σ' : ac_H} {a0 : Nat} {a1 : Int32} {a2 : Int32} {v : Int32} (hf : m_X6_findLeastAmount σ a0 a1 a2 = some (v, σ')) : kx_C Λ yX6_findLeastAmount (.code yX6_findLeastAmount cX6_findLeastAmount 5 (some .int)) ({ frames := 5, cells := 0, slots := 0, locals := 123 } : Room) [.ref a0, .int a1, .int a2] q σ (.inr (some (.int v))) σ' (fun z => z = q) := by
  refine kx_in (by decide +kernel) (Nat.le_of_ble_eq_true rfl) ?_
  intro Γ K hnm hsz hQ
  refine kx_lv (lv' := [(0, .ref a0), (1, .int a1), (2, .int a2)]) rfl ?_
  have B39 : ∀ (n39 : Nat) (σ12 : ac_H) (v10 : Int32) (v11 : Int32), m_X6_findLeastAmount_l39 a0 a1 a2 n39 σ12 v10 v11 = some (v, σ') → kx_S Λ Γ 5 (fun z => z = q) σ12 (0) (0) 39 [(0, .ref a0), (1, .int a1), (2, .int a2), (3, .int v10), (4, .int v11)] [] := by
    intro n39
    induction n39 with
    | zero =>
      intro σ12 v10 v11 hf
      rw [m_X6_findLeastAmount_l39] at hf
      cases hf
    | succ n39 ih39 =>
      intro σ12 v10 v11 hf
      rw [m_X6_findLeastAmount_l39] at hf
      refine kx_iload K dX6_findLeastAmount_39 4 rfl ?_
      refine kx_iload_n K dX6_findLeastAmount_41 rfl 3 rfl ?_
      refine kx_icmp_gt K 76 hf dX6_findLeastAmount_42 (by decide) (fun hf => ?_) (fun hf => ?_)
      · refine kx_iconst (v := -1) K dX6_findLeastAmount_76 (by decide) ?_
        exact kx_iret K hQ (by decide) (by decide) (fun _ h => h) dX6_findLeastAmount_77 hf
      · refine kx_aload_n K dX6_findLeastAmount_45 rfl 0 rfl ?_
        refine kx_gr K f_X6_19 dX6_findLeastAmount_46 hf (fun x13 hf => ?_)
        refine kx_iload_n K dX6_findLeastAmount_49 rfl 1 rfl ?_
        refine kx_iload K dX6_findLeastAmount_50 4 rfl ?_
        refine kx_cv2v K c_X6_230 ⟨by decide, by decide, rfl, rfl, (by decide), (by decide)⟩ (Nat.le_of_ble_eq_true rfl) dX6_findLeastAmount_52 hf (fun _ _ _ h => k_X0_changeAmount h) (fun _ σ14 hf => ?_)
        refine kx_aload_n K dX6_findLeastAmount_55 rfl 0 rfl ?_
        refine kx_aload_n K dX6_findLeastAmount_56 rfl 0 rfl ?_
        refine kx_gr K f_X6_19 dX6_findLeastAmount_57 hf (fun x15 hf => ?_)
        refine kx_iload_n K dX6_findLeastAmount_60 rfl 2 rfl ?_
        refine kx_cv2i K c_X6_155 ⟨by decide, by decide, rfl, rfl, (by decide), (by decide)⟩ (Nat.le_of_ble_eq_true rfl) dX6_findLeastAmount_61 hf (fun _ _ _ h => k_X6_isBroken h) (fun x17 σ16 hf => ?_)
        refine kx_if_eq K 70 hf dX6_findLeastAmount_64 (by decide) (fun hf => ?_) (fun hf => ?_)
        · refine kx_iinc (v := (v11 + 1)) K [(4, .int (v11 + 1)), (0, .ref a0), (1, .int a1), (2, .int a2), (3, .int v10)] dX6_findLeastAmount_70 4 rfl rfl (by decide) rfl ?_
          refine kx_goto K 39 dX6_findLeastAmount_73 (by decide) ?_
          refine kx_sub [(0, .ref a0), (1, .int a1), (2, .int a2), (3, .int v10), (4, .int (v11 + 1))] [1, 2, 3, 4, 0] rfl ?_
          exact ih39 _ _ _ hf
        · refine kx_iload K dX6_findLeastAmount_67 4 rfl ?_
          exact kx_iret K hQ (by decide) (by decide) (fun _ h => h) dX6_findLeastAmount_69 hf
  unfold m_X6_findLeastAmount at hf
  refine kx_aload_n K dX6_findLeastAmount_0 rfl 0 rfl ?_
  refine kx_gr K f_X6_10 dX6_findLeastAmount_1 hf (fun x1 hf => ?_)
  refine kx_iload_n K dX6_findLeastAmount_4 rfl 1 rfl ?_
  refine kx_iconst (v := 0) K dX6_findLeastAmount_5 (by decide) ?_
  refine kx_cv2i K c_X6_103 ⟨by decide, by decide, rfl, rfl, (by decide), (by decide)⟩ (Nat.le_of_ble_eq_true rfl) dX6_findLeastAmount_6 hf (fun _ _ _ h => k_X0_faultPart h) (fun x3 σ2 hf => ?_)
  refine kx_iconst (v := 2) K dX6_findLeastAmount_9 (by decide) ?_
  refine kx_icmp_eq K 15 hf dX6_findLeastAmount_10 (by decide) (fun hf => ?_) (fun hf => ?_)
  · refine kx_aload_n K dX6_findLeastAmount_15 rfl 0 rfl ?_
    refine kx_gr K f_X6_19 dX6_findLeastAmount_16 hf (fun x4 hf => ?_)
    refine kx_aload_n K dX6_findLeastAmount_19 rfl 0 rfl ?_
    refine kx_gr K f_X6_10 dX6_findLeastAmount_20 hf (fun x5 hf => ?_)
    refine kx_cv1v K c_X6_74 ⟨by decide, by decide, rfl, rfl, (by decide), (by decide)⟩ (Nat.le_of_ble_eq_true rfl) dX6_findLeastAmount_23 hf (fun _ _ _ h => k_X0_takeAll h) (fun _ σ6 hf => ?_)
    refine kx_aload_n K dX6_findLeastAmount_26 rfl 0 rfl ?_
    refine kx_gr K f_X6_10 dX6_findLeastAmount_27 hf (fun x7 hf => ?_)
    refine kx_iload_n K dX6_findLeastAmount_30 rfl 1 rfl ?_
    refine kx_iconst (v := 2) K dX6_findLeastAmount_31 (by decide) ?_
    refine kx_cv2i K c_X6_103 ⟨by decide, by decide, rfl, rfl, (by decide), (by decide)⟩ (Nat.le_of_ble_eq_true rfl) dX6_findLeastAmount_32 hf (fun _ _ _ h => k_X0_faultPart h) (fun x9 σ8 hf => ?_)
    refine kx_istore_n K [(3, .int x9), (0, .ref a0), (1, .int a1), (2, .int a2)] dX6_findLeastAmount_35 rfl (by decide) rfl ?_
    refine kx_iconst (v := 1) K dX6_findLeastAmount_36 (by decide) ?_
    refine kx_istore K [(4, .int (1 : Int32)), (3, .int x9), (0, .ref a0), (1, .int a1), (2, .int a2)] dX6_findLeastAmount_37 (by decide) rfl ?_
    refine kx_sub [(0, .ref a0), (1, .int a1), (2, .int a2), (3, .int x9), (4, .int (1 : Int32))] [2, 3, 4, 1, 0] rfl ?_
    exact B39 hN_f _ _ _ hf
  · refine kx_iconst (v := -1) K dX6_findLeastAmount_13 (by decide) ?_
    exact kx_iret K hQ (by decide) (by decide) (fun _ h => h) dX6_findLeastAmount_14 hf
def m_X6_leastAmount (σ : ac_H) (a0 : Nat) (a1 : Int32) (a2 : Int32) : Option ((String ⊕ Int32) × ac_H) :=
  mo_xv σ a0 6 (m_X6_checkFault σ a0 a1) fun _ σ1 =>
  mo_xs (m_X6_checkPromise σ1 a2) fun _ σ2 =>
  mo_cv σ2 a0 6 (m_X6_findLeastAmount σ2 a0 a1 a2) fun x4 σ3 =>
  some (.inr x4, σ3)
set_option maxRecDepth 100000 in
set_option maxHeartbeats 4000000 in
theorem k_X6_leastAmount {Λ : ex_L} {q : Nat} {σ σ' : ac_H} {a0 : Nat} {a1 : Int32} {a2 : Int32} {v : Int32} (hf : m_X6_leastAmount σ a0 a1 a2 = some (.inr v, σ')) : kx_C Λ yX6_leastAmount (.code yX6_leastAmount cX6_leastAmount 3 (some .int)) ({ frames := 6, cells := 0, slots := 0, locals := 147 } : Room) [.ref a0, .int a1, .int a2] q σ (.inr (some (.int v))) σ' (fun z => z = q) := by
  refine kx_in (by decide +kernel) (Nat.le_of_ble_eq_true rfl) ?_
  intro Γ K hnm hsz hQ
  refine kx_lv (lv' := [(0, .ref a0), (1, .int a1), (2, .int a2)]) rfl ?_
  unfold m_X6_leastAmount at hf
  refine kx_aload_n K dX6_leastAmount_0 rfl 0 rfl ?_
  refine kx_iload_n K dX6_leastAmount_1 rfl 1 rfl ?_
  refine kx_xvR (ρ := Unit) K [.int a1] (fun _ => none) c_X6_98 ⟨by decide, by decide, rfl, rfl, (by decide), (by decide)⟩ rfl rfl (Nat.le_of_ble_eq_true rfl) dX6_leastAmount_2 hf (fun _ _ _ h => k_X6_checkFault h) (fun _ σ1 hf => ?_)
  refine kx_iload_n K dX6_leastAmount_5 rfl 2 rfl ?_
  refine kx_xsR (ρ := Unit) K [.int a2] (fun _ => none) c_X6_152 ⟨by decide, by decide, rfl, rfl, (by decide), (by decide)⟩ rfl rfl (Nat.le_of_ble_eq_true rfl) dX6_leastAmount_6 hf (fun _ _ _ h => k_X6_checkPromise h) (fun _ σ2 hf => ?_)
  refine kx_aload_n K dX6_leastAmount_9 rfl 0 rfl ?_
  refine kx_iload_n K dX6_leastAmount_10 rfl 1 rfl ?_
  refine kx_iload_n K dX6_leastAmount_11 rfl 2 rfl ?_
  refine kx_cv2i K c_X6_174 ⟨by decide, by decide, rfl, rfl, (by decide), (by decide)⟩ (Nat.le_of_ble_eq_true rfl) dX6_leastAmount_12 hf (fun _ _ _ h => k_X6_findLeastAmount h) (fun x4 σ3 hf => ?_)
  exact kx_iretR K hQ (by decide) (by decide) (fun _ h => h) dX6_leastAmount_15 hf
def m_X6_breaksWithoutFaults (σ : ac_H) (a0 : Nat) (a1 : Int32) : Option (Int32 × ac_H) :=
  mo_gr σ a0 6 1 fun x1 =>
  mo_gr σ a0 6 0 fun x2 =>
  mo_cv σ x1 0 (m_X0_takePart σ x1 x2 (0 : Int32)) fun _ σ3 =>
  mo_gr σ3 a0 6 1 fun x4 =>
  mo_cv σ3 a0 6 (m_X6_isBroken σ3 a0 x4 a1) fun x6 σ5 =>
  mo_z x6 (some (x6, σ5))
set_option maxRecDepth 100000 in
set_option maxHeartbeats 4000000 in
theorem k_X6_breaksWithoutFaults {Λ : ex_L} {q : Nat} {σ σ' : ac_H} {a0 : Nat} {a1 : Int32} {v : Int32} (hf : m_X6_breaksWithoutFaults σ a0 a1 = some (v, σ')) : kx_C Λ yX6_breaksWithoutFaults (.code yX6_breaksWithoutFaults cX6_breaksWithoutFaults 2 (some .boolean)) ({ frames := 5, cells := 0, slots := 0, locals := 123 } : Room) [.ref a0, .int a1] q σ (.inr (some (.int v))) σ' (fun z => z = q) := by
  refine kx_in (by decide +kernel) (Nat.le_of_ble_eq_true rfl) ?_
  intro Γ K hnm hsz hQ
  refine kx_lv (lv' := [(0, .ref a0), (1, .int a1)]) rfl ?_
  unfold m_X6_breaksWithoutFaults at hf
  refine kx_aload_n K dX6_breaksWithoutFaults_0 rfl 0 rfl ?_
  refine kx_gr K f_X6_19 dX6_breaksWithoutFaults_1 hf (fun x1 hf => ?_)
  refine kx_aload_n K dX6_breaksWithoutFaults_4 rfl 0 rfl ?_
  refine kx_gr K f_X6_10 dX6_breaksWithoutFaults_5 hf (fun x2 hf => ?_)
  refine kx_iconst (v := 0) K dX6_breaksWithoutFaults_8 (by decide) ?_
  refine kx_cv2v K c_X6_251 ⟨by decide, by decide, rfl, rfl, (by decide), (by decide)⟩ (Nat.le_of_ble_eq_true rfl) dX6_breaksWithoutFaults_9 hf (fun _ _ _ h => k_X0_takePart h) (fun _ σ3 hf => ?_)
  refine kx_aload_n K dX6_breaksWithoutFaults_12 rfl 0 rfl ?_
  refine kx_aload_n K dX6_breaksWithoutFaults_13 rfl 0 rfl ?_
  refine kx_gr K f_X6_19 dX6_breaksWithoutFaults_14 hf (fun x4 hf => ?_)
  refine kx_iload_n K dX6_breaksWithoutFaults_17 rfl 1 rfl ?_
  refine kx_cv2i K c_X6_155 ⟨by decide, by decide, rfl, rfl, (by decide), (by decide)⟩ (Nat.le_of_ble_eq_true rfl) dX6_breaksWithoutFaults_18 hf (fun _ _ _ h => k_X6_isBroken h) (fun x6 σ5 hf => ?_)
  exact kx_zret K hQ (by decide) (by decide) (fun _ h => h) dX6_breaksWithoutFaults_21 hf
def m_X6_findAttack_l47 (K2 : ac_H → Int32 → Option (Int32 × ac_H)) (K10 : ac_H → Int32 → Int32 → Option (Int32 × ac_H)) (a0 : Nat) (a1 : Int32) (a2 : Int32) : Nat → ac_H → Int32 → Int32 → Int32 → Int32 → Option (Int32 × ac_H)
  | 0, _, _, _, _, _ => none
  | n + 1, σ14, v10, v11, v12, v13 =>
    if v12 < v13 then
    (K10 σ14 v10 (v11 + 1))
    else
    (mo_gr σ14 a0 6 1 fun x15 =>
    mo_cv σ14 x15 0 (m_X0_takeOnlyFault σ14 x15 v11 v10 v13) fun _ σ16 =>
    mo_gr σ16 a0 6 1 fun x17 =>
    mo_cv σ16 a0 6 (m_X6_isBroken σ16 a0 x17 a1) fun x19 σ18 =>
    if x19 = 0 then
    (m_X6_findAttack_l47 K2 K10 a0 a1 a2 n σ18 v10 v11 v12 (v13 + 1))
    else
    (mo_z (1 : Int32) (some ((1 : Int32), σ18))))
def m_X6_findAttack_j27 (K2 : ac_H → Int32 → Option (Int32 × ac_H)) (K10 : ac_H → Int32 → Int32 → Option (Int32 × ac_H)) (a0 : Nat) (a1 : Int32) (a2 : Int32) (σ9 : ac_H) (v6 : Int32) (v7 : Int32) (w8 : Int32) : Option (Int32 × ac_H) :=
  if v7 = (2 : Int32) then
  (m_X6_findAttack_l47 K2 K10 a0 a1 a2 hN_f σ9 v6 v7 (20 : Int32) w8)
  else
  (m_X6_findAttack_l47 K2 K10 a0 a1 a2 hN_f σ9 v6 v7 (0 : Int32) w8)
def m_X6_findAttack_l10 (K2 : ac_H → Int32 → Option (Int32 × ac_H)) (a0 : Nat) (a1 : Int32) (a2 : Int32) : Nat → ac_H → Int32 → Int32 → Option (Int32 × ac_H)
  | 0, _, _, _ => none
  | n + 1, σ5, v3, v4 =>
    if (2 : Int32) < v4 then
    (K2 σ5 (v3 + 1))
    else
    (if v4 = (2 : Int32) then
    (m_X6_findAttack_j27 K2 (fun ρ y0 y1 => m_X6_findAttack_l10 K2 a0 a1 a2 n ρ y0 y1) a0 a1 a2 σ5 v3 v4 (1 : Int32))
    else
    (m_X6_findAttack_j27 K2 (fun ρ y0 y1 => m_X6_findAttack_l10 K2 a0 a1 a2 n ρ y0 y1) a0 a1 a2 σ5 v3 v4 (0 : Int32)))
def m_X6_findAttack_l2  (a0 : Nat) (a1 : Int32) (a2 : Int32) : Nat → ac_H → Int32 → Option (Int32 × ac_H)
  | 0, _, _ => none
  | n + 1, σ2, v1 =>
    if v1 < a2 then
    (m_X6_findAttack_l10 (fun ρ y0 => m_X6_findAttack_l2 a0 a1 a2 n ρ y0) a0 a1 a2 hN_f σ2 v1 (0 : Int32))
    else
    (mo_z (0 : Int32) (some ((0 : Int32), σ2)))
def m_X6_findAttack (σ : ac_H) (a0 : Nat) (a1 : Int32) (a2 : Int32) : Option (Int32 × ac_H) :=
  m_X6_findAttack_l2 a0 a1 a2 hN_f σ (0 : Int32)
set_option maxRecDepth 100000 in
set_option maxHeartbeats 4000000 in
theorem k_X6_findAttack {Λ : ex_L} {q : Nat} {σ σ' : ac_H} {a0 : Nat} {a1 : Int32} {a2 : Int32} {v : Int32} (hf : m_X6_findAttack σ a0 a1 a2 = some (v, σ')) : kx_C Λ yX6_findAttack (.code yX6_findAttack cX6_findAttack 8 (some .boolean)) ({ frames := 5, cells := 0, slots := 0, locals := 123 } : Room) [.ref a0, .int a1, .int a2] q σ (.inr (some (.int v))) σ' (fun z => z = q) := by
  refine kx_in (by decide +kernel) (Nat.le_of_ble_eq_true rfl) ?_
  intro Γ K hnm hsz hQ
  refine kx_lv (lv' := [(0, .ref a0), (1, .int a1), (2, .int a2)]) rfl ?_
  have B2 : ∀ (n2 : Nat) (σ2 : ac_H) (v1 : Int32), m_X6_findAttack_l2 a0 a1 a2 n2 σ2 v1 = some (v, σ') → kx_S Λ Γ 8 (fun z => z = q) σ2 (0) (0) 2 [(0, .ref a0), (1, .int a1), (2, .int a2), (3, .int v1)] [] := by
    intro n2
    induction n2 with
    | zero =>
      intro σ2 v1 hf
      rw [m_X6_findAttack_l2] at hf
      cases hf
    | succ n2 ih2 =>
      have B10 : ∀ (n10 : Nat) (σ5 : ac_H) (v3 : Int32) (v4 : Int32), m_X6_findAttack_l10 (fun ρ y0 => m_X6_findAttack_l2 a0 a1 a2 n2 ρ y0) a0 a1 a2 n10 σ5 v3 v4 = some (v, σ') → kx_S Λ Γ 8 (fun z => z = q) σ5 (0) (0) 10 [(0, .ref a0), (1, .int a1), (2, .int a2), (3, .int v3), (4, .int v4)] [] := by
        intro n10
        induction n10 with
        | zero =>
          intro σ5 v3 v4 hf
          rw [m_X6_findAttack_l10] at hf
          cases hf
        | succ n10 ih10 =>
          have B47 : ∀ (n47 : Nat) (σ14 : ac_H) (v10 : Int32) (v11 : Int32) (v12 : Int32) (v13 : Int32), m_X6_findAttack_l47 (fun ρ y0 => m_X6_findAttack_l2 a0 a1 a2 n2 ρ y0) (fun ρ y0 y1 => m_X6_findAttack_l10 (fun ρ y0 => m_X6_findAttack_l2 a0 a1 a2 n2 ρ y0) a0 a1 a2 n10 ρ y0 y1) a0 a1 a2 n47 σ14 v10 v11 v12 v13 = some (v, σ') → kx_S Λ Γ 8 (fun z => z = q) σ14 (0) (0) 47 [(0, .ref a0), (1, .int a1), (2, .int a2), (3, .int v10), (4, .int v11), (6, .int v12), (7, .int v13)] [] := by
            intro n47
            induction n47 with
            | zero =>
              intro σ14 v10 v11 v12 v13 hf
              rw [m_X6_findAttack_l47] at hf
              cases hf
            | succ n47 ih47 =>
              intro σ14 v10 v11 v12 v13 hf
              rw [m_X6_findAttack_l47] at hf
              refine kx_iload K dX6_findAttack_47 6 rfl ?_
              refine kx_iload K dX6_findAttack_49 5 rfl ?_
              refine kx_icmp_gt K 86 hf dX6_findAttack_51 (by decide) (fun hf => ?_) (fun hf => ?_)
              · refine kx_iinc (v := (v11 + 1)) K [(4, .int (v11 + 1)), (0, .ref a0), (1, .int a1), (2, .int a2), (3, .int v10), (6, .int v12), (7, .int v13)] dX6_findAttack_86 4 rfl rfl (by decide) rfl ?_
                refine kx_goto K 10 dX6_findAttack_89 (by decide) ?_
                refine kx_sub [(0, .ref a0), (1, .int a1), (2, .int a2), (3, .int v10), (4, .int (v11 + 1))] [1, 2, 3, 4, 0] rfl ?_
                exact ih10 _ _ _ hf
              · refine kx_aload_n K dX6_findAttack_54 rfl 0 rfl ?_
                refine kx_gr K f_X6_19 dX6_findAttack_55 hf (fun x15 hf => ?_)
                refine kx_iload K dX6_findAttack_58 4 rfl ?_
                refine kx_iload_n K dX6_findAttack_60 rfl 3 rfl ?_
                refine kx_iload K dX6_findAttack_61 6 rfl ?_
                refine kx_cv3v K c_X6_184 ⟨by decide, by decide, rfl, rfl, (by decide), (by decide)⟩ (Nat.le_of_ble_eq_true rfl) dX6_findAttack_63 hf (fun _ _ _ h => k_X0_takeOnlyFault h) (fun _ σ16 hf => ?_)
                refine kx_aload_n K dX6_findAttack_66 rfl 0 rfl ?_
                refine kx_aload_n K dX6_findAttack_67 rfl 0 rfl ?_
                refine kx_gr K f_X6_19 dX6_findAttack_68 hf (fun x17 hf => ?_)
                refine kx_iload_n K dX6_findAttack_71 rfl 1 rfl ?_
                refine kx_cv2i K c_X6_155 ⟨by decide, by decide, rfl, rfl, (by decide), (by decide)⟩ (Nat.le_of_ble_eq_true rfl) dX6_findAttack_72 hf (fun _ _ _ h => k_X6_isBroken h) (fun x19 σ18 hf => ?_)
                refine kx_if_eq K 80 hf dX6_findAttack_75 (by decide) (fun hf => ?_) (fun hf => ?_)
                · refine kx_iinc (v := (v13 + 1)) K [(7, .int (v13 + 1)), (0, .ref a0), (1, .int a1), (2, .int a2), (3, .int v10), (4, .int v11), (6, .int v12)] dX6_findAttack_80 6 rfl rfl (by decide) rfl ?_
                  refine kx_goto K 47 dX6_findAttack_83 (by decide) ?_
                  refine kx_sub [(0, .ref a0), (1, .int a1), (2, .int a2), (3, .int v10), (4, .int v11), (6, .int v12), (7, .int (v13 + 1))] [1, 2, 3, 4, 5, 6, 0] rfl ?_
                  exact ih47 _ _ _ _ _ hf
                · refine kx_iconst (v := 1) K dX6_findAttack_78 (by decide) ?_
                  exact kx_zret K hQ (by decide) (by decide) (fun _ h => h) dX6_findAttack_79 hf
          have B27 : ∀ (σ9 : ac_H) (v6 : Int32) (v7 : Int32) (w8 : Int32), m_X6_findAttack_j27 (fun ρ y0 => m_X6_findAttack_l2 a0 a1 a2 n2 ρ y0) (fun ρ y0 y1 => m_X6_findAttack_l10 (fun ρ y0 => m_X6_findAttack_l2 a0 a1 a2 n2 ρ y0) a0 a1 a2 n10 ρ y0 y1) a0 a1 a2 σ9 v6 v7 w8 = some (v, σ') → kx_S Λ Γ 8 (fun z => z = q) σ9 (0) (0) 27 [(0, .ref a0), (1, .int a1), (2, .int a2), (3, .int v6), (4, .int v7)] [.int w8] := by
            intro σ9 v6 v7 w8 hf
            unfold m_X6_findAttack_j27 at hf
            refine kx_istore K [(5, .int w8), (0, .ref a0), (1, .int a1), (2, .int a2), (3, .int v6), (4, .int v7)] dX6_findAttack_27 (by decide) rfl ?_
            refine kx_iload K dX6_findAttack_29 5 rfl ?_
            refine kx_iconst (v := 2) K dX6_findAttack_31 (by decide) ?_
            refine kx_icmp_ne K 40 hf dX6_findAttack_32 (by decide) (fun hf => ?_) (fun hf => ?_)
            · refine kx_iconst (v := 0) K dX6_findAttack_40 (by decide) ?_
              refine kx_istore K [(6, .int (0 : Int32)), (5, .int w8), (0, .ref a0), (1, .int a1), (2, .int a2), (3, .int v6), (4, .int v7)] dX6_findAttack_41 (by decide) rfl ?_
              refine kx_iload K dX6_findAttack_43 1 rfl ?_
              refine kx_istore K [(7, .int w8), (6, .int (0 : Int32)), (5, .int w8), (0, .ref a0), (1, .int a1), (2, .int a2), (3, .int v6), (4, .int v7)] dX6_findAttack_45 (by decide) rfl ?_
              refine kx_sub [(0, .ref a0), (1, .int a1), (2, .int a2), (3, .int v6), (4, .int v7), (6, .int (0 : Int32)), (7, .int w8)] [3, 4, 5, 6, 7, 1, 0] rfl ?_
              exact B47 hN_f _ _ _ _ _ hf
            · refine kx_bipush (v := 20) K dX6_findAttack_35 (by decide) ?_
              refine kx_goto K 41 dX6_findAttack_37 (by decide) ?_
              refine kx_istore K [(6, .int (20 : Int32)), (5, .int w8), (0, .ref a0), (1, .int a1), (2, .int a2), (3, .int v6), (4, .int v7)] dX6_findAttack_41 (by decide) rfl ?_
              refine kx_iload K dX6_findAttack_43 1 rfl ?_
              refine kx_istore K [(7, .int w8), (6, .int (20 : Int32)), (5, .int w8), (0, .ref a0), (1, .int a1), (2, .int a2), (3, .int v6), (4, .int v7)] dX6_findAttack_45 (by decide) rfl ?_
              refine kx_sub [(0, .ref a0), (1, .int a1), (2, .int a2), (3, .int v6), (4, .int v7), (6, .int (20 : Int32)), (7, .int w8)] [3, 4, 5, 6, 7, 1, 0] rfl ?_
              exact B47 hN_f _ _ _ _ _ hf
          intro σ5 v3 v4 hf
          rw [m_X6_findAttack_l10] at hf
          refine kx_iload K dX6_findAttack_10 4 rfl ?_
          refine kx_iconst (v := 2) K dX6_findAttack_12 (by decide) ?_
          refine kx_icmp_gt K 92 hf dX6_findAttack_13 (by decide) (fun hf => ?_) (fun hf => ?_)
          · refine kx_iinc (v := (v3 + 1)) K [(3, .int (v3 + 1)), (0, .ref a0), (1, .int a1), (2, .int a2), (4, .int v4)] dX6_findAttack_92 3 rfl rfl (by decide) rfl ?_
            refine kx_goto K 2 dX6_findAttack_95 (by decide) ?_
            refine kx_sub [(0, .ref a0), (1, .int a1), (2, .int a2), (3, .int (v3 + 1))] [1, 2, 3, 0] rfl ?_
            exact ih2 _ _ hf
          · refine kx_iload K dX6_findAttack_16 4 rfl ?_
            refine kx_iconst (v := 2) K dX6_findAttack_18 (by decide) ?_
            refine kx_icmp_ne K 26 hf dX6_findAttack_19 (by decide) (fun hf => ?_) (fun hf => ?_)
            · refine kx_iconst (v := 0) K dX6_findAttack_26 (by decide) ?_
              refine kx_sub [(0, .ref a0), (1, .int a1), (2, .int a2), (3, .int v3), (4, .int v4)] [0, 1, 2, 3, 4] rfl ?_
              exact B27 _ _ _ _ hf
            · refine kx_iconst (v := 1) K dX6_findAttack_22 (by decide) ?_
              refine kx_goto K 27 dX6_findAttack_23 (by decide) ?_
              refine kx_sub [(0, .ref a0), (1, .int a1), (2, .int a2), (3, .int v3), (4, .int v4)] [0, 1, 2, 3, 4] rfl ?_
              exact B27 _ _ _ _ hf
      intro σ2 v1 hf
      rw [m_X6_findAttack_l2] at hf
      refine kx_iload_n K dX6_findAttack_2 rfl 3 rfl ?_
      refine kx_iload_n K dX6_findAttack_3 rfl 2 rfl ?_
      refine kx_icmp_ge K 98 hf dX6_findAttack_4 (by decide) (fun hf => ?_) (fun hf => ?_)
      · refine kx_iconst (v := 0) K dX6_findAttack_98 (by decide) ?_
        exact kx_zret K hQ (by decide) (by decide) (fun _ h => h) dX6_findAttack_99 hf
      · refine kx_iconst (v := 0) K dX6_findAttack_7 (by decide) ?_
        refine kx_istore K [(4, .int (0 : Int32)), (0, .ref a0), (1, .int a1), (2, .int a2), (3, .int v1)] dX6_findAttack_8 (by decide) rfl ?_
        refine kx_sub [(0, .ref a0), (1, .int a1), (2, .int a2), (3, .int v1), (4, .int (0 : Int32))] [1, 2, 3, 4, 0] rfl ?_
        exact B10 hN_f _ _ _ hf
  unfold m_X6_findAttack at hf
  refine kx_iconst (v := 0) K dX6_findAttack_0 (by decide) ?_
  refine kx_istore_n K [(3, .int (0 : Int32)), (0, .ref a0), (1, .int a1), (2, .int a2)] dX6_findAttack_1 rfl (by decide) rfl ?_
  refine kx_sub [(0, .ref a0), (1, .int a1), (2, .int a2), (3, .int (0 : Int32))] [1, 2, 3, 0] rfl ?_
  exact B2 hN_f _ _ hf
def m_X6_attack (σ : ac_H) (a0 : Nat) (a1 : Int32) (a2 : Int32) : Option ((String ⊕ Int32) × ac_H) :=
  mo_xs (m_X6_checkPromise σ a1) fun _ σ1 =>
  if a2 < 0 then
  (some (.inl "java/lang/IllegalArgumentException", σ1))
  else
  (if (2 : Int32) < a2 then
  (some (.inl "java/lang/IllegalArgumentException", σ1))
  else
  (mo_cv σ1 a0 6 (m_X6_breaksWithoutFaults σ1 a0 a1) fun x3 σ2 =>
  if x3 = 0 then
  (mo_gr σ2 a0 6 2 fun x4 =>
  mo_cv σ2 x4 4 (m_X4_line σ2 x4) fun x6 σ5 =>
  mo_cv σ5 x6 2 (m_X2_sentCount σ5 x6) fun x8 σ7 =>
  mo_cv σ7 a0 6 (m_X6_findAttack σ7 a0 a1 x8) fun x10 σ9 =>
  if x10 = 0 then
  (some (.inr (-1 : Int32), σ9))
  else
  (mo_gr σ9 a0 6 1 fun x11 =>
  mo_cv σ9 x11 0 (m_X0_faultPart σ9 x11 (0 : Int32) a2) fun x13 σ12 =>
  some (.inr x13, σ12)))
  else
  (some (.inr (-1 : Int32), σ2))))
set_option maxRecDepth 100000 in
set_option maxHeartbeats 4000000 in
theorem k_X6_attack {Λ : ex_L} {q : Nat} {σ σ' : ac_H} {a0 : Nat} {a1 : Int32} {a2 : Int32} {v : Int32} (hf : m_X6_attack σ a0 a1 a2 = some (.inr v, σ')) : kx_C Λ yX6_attack (.code yX6_attack cX6_attack 3 (some .int)) ({ frames := 6, cells := 0, slots := 0, locals := 150 } : Room) [.ref a0, .int a1, .int a2] q σ (.inr (some (.int v))) σ' (fun z => z = q) := by
  refine kx_in (by decide +kernel) (Nat.le_of_ble_eq_true rfl) ?_
  intro Γ K hnm hsz hQ
  refine kx_lv (lv' := [(0, .ref a0), (1, .int a1), (2, .int a2)]) rfl ?_
  unfold m_X6_attack at hf
  refine kx_iload_n K dX6_attack_0 rfl 1 rfl ?_
  refine kx_xsR (ρ := Unit) K [.int a1] (fun _ => none) c_X6_152 ⟨by decide, by decide, rfl, rfl, (by decide), (by decide)⟩ rfl rfl (Nat.le_of_ble_eq_true rfl) dX6_attack_1 hf (fun _ _ _ h => k_X6_checkPromise h) (fun _ σ1 hf => ?_)
  refine kx_iload_n K dX6_attack_4 rfl 2 rfl ?_
  refine kx_if_lt K 13 hf dX6_attack_5 (by decide) (fun hf => ?_) (fun hf => ?_)
  · cases hf
  · refine kx_iload_n K dX6_attack_8 rfl 2 rfl ?_
    refine kx_iconst (v := 2) K dX6_attack_9 (by decide) ?_
    refine kx_icmp_le K 23 hf dX6_attack_10 (by decide) (fun hf => ?_) (fun hf => ?_)
    · refine kx_aload_n K dX6_attack_23 rfl 0 rfl ?_
      refine kx_iload_n K dX6_attack_24 rfl 1 rfl ?_
      refine kx_cv1i K c_X6_177 ⟨by decide, by decide, rfl, rfl, (by decide), (by decide)⟩ (Nat.le_of_ble_eq_true rfl) dX6_attack_25 hf (fun _ _ _ h => k_X6_breaksWithoutFaults h) (fun x3 σ2 hf => ?_)
      refine kx_if_eq K 33 hf dX6_attack_28 (by decide) (fun hf => ?_) (fun hf => ?_)
      · refine kx_aload_n K dX6_attack_33 rfl 0 rfl ?_
        refine kx_iload_n K dX6_attack_34 rfl 1 rfl ?_
        refine kx_aload_n K dX6_attack_35 rfl 0 rfl ?_
        refine kx_gr K f_X6_25 dX6_attack_36 hf (fun x4 hf => ?_)
        refine kx_cv0r K c_X6_116 ⟨by decide, by decide, rfl, rfl, (by decide), (by decide)⟩ (Nat.le_of_ble_eq_true rfl) dX6_attack_39 hf (fun _ _ _ h => k_X4_line h) (fun x6 σ5 hf => ?_)
        refine kx_cv0i K c_X6_120 ⟨by decide, by decide, rfl, rfl, (by decide), (by decide)⟩ (Nat.le_of_ble_eq_true rfl) dX6_attack_42 hf (fun _ _ _ h => k_X2_sentCount h) (fun x8 σ7 hf => ?_)
        refine kx_cv2i K c_X6_181 ⟨by decide, by decide, rfl, rfl, (by decide), (by decide)⟩ (Nat.le_of_ble_eq_true rfl) dX6_attack_45 hf (fun _ _ _ h => k_X6_findAttack h) (fun x10 σ9 hf => ?_)
        refine kx_if_eq K 63 hf dX6_attack_48 (by decide) (fun hf => ?_) (fun hf => ?_)
        · refine kx_iconst (v := -1) K dX6_attack_63 (by decide) ?_
          exact kx_iretR K hQ (by decide) (by decide) (fun _ h => h) dX6_attack_64 hf
        · refine kx_aload_n K dX6_attack_51 rfl 0 rfl ?_
          refine kx_gr K f_X6_19 dX6_attack_52 hf (fun x11 hf => ?_)
          refine kx_iconst (v := 0) K dX6_attack_55 (by decide) ?_
          refine kx_iload_n K dX6_attack_56 rfl 2 rfl ?_
          refine kx_cv2i K c_X6_103 ⟨by decide, by decide, rfl, rfl, (by decide), (by decide)⟩ (Nat.le_of_ble_eq_true rfl) dX6_attack_57 hf (fun _ _ _ h => k_X0_faultPart h) (fun x13 σ12 hf => ?_)
          refine kx_goto K 64 dX6_attack_60 (by decide) ?_
          exact kx_iretR K hQ (by decide) (by decide) (fun _ h => h) dX6_attack_64 hf
      · refine kx_iconst (v := -1) K dX6_attack_31 (by decide) ?_
        exact kx_iretR K hQ (by decide) (by decide) (fun _ h => h) dX6_attack_32 hf
    · cases hf
def m_X6_weakPoints_l30  (a0 : Nat) (a1 : Int32) : Nat → ac_H → Int32 → Int32 → Int32 → Option ((String ⊕ Int32) × ac_H)
  | 0, _, _, _, _ => none
  | n + 1, σ12, v9, v10, v11 =>
    if v11 < v9 then
    (mo_gr σ12 a0 6 1 fun x13 =>
    mo_cv σ12 x13 0 (m_X0_takeOnlyFault σ12 x13 (0 : Int32) v11 (0 : Int32)) fun _ σ14 =>
    mo_gr σ14 a0 6 1 fun x15 =>
    mo_cv σ14 a0 6 (m_X6_isBroken σ14 a0 x15 a1) fun x17 σ16 =>
    if x17 = 0 then
    (m_X6_weakPoints_l30 a0 a1 n σ16 v9 v10 (v11 + 1))
    else
    (m_X6_weakPoints_l30 a0 a1 n σ16 v9 (v10 + 1) (v11 + 1)))
    else
    (some (.inr v10, σ12))
def m_X6_weakPoints (σ : ac_H) (a0 : Nat) (a1 : Int32) : Option ((String ⊕ Int32) × ac_H) :=
  mo_xs (m_X6_checkPromise σ a1) fun _ σ1 =>
  mo_cv σ1 a0 6 (m_X6_breaksWithoutFaults σ1 a0 a1) fun x3 σ2 =>
  if x3 = 0 then
  (mo_gr σ2 a0 6 2 fun x4 =>
  mo_cv σ2 x4 4 (m_X4_line σ2 x4) fun x6 σ5 =>
  mo_cv σ5 x6 2 (m_X2_sentCount σ5 x6) fun x8 σ7 =>
  m_X6_weakPoints_l30 a0 a1 hN_f σ7 x8 (0 : Int32) (0 : Int32))
  else
  (some (.inr (0 : Int32), σ2))
set_option maxRecDepth 100000 in
set_option maxHeartbeats 4000000 in
theorem k_X6_weakPoints {Λ : ex_L} {q : Nat} {σ σ' : ac_H} {a0 : Nat} {a1 : Int32} {v : Int32} (hf : m_X6_weakPoints σ a0 a1 = some (.inr v, σ')) : kx_C Λ yX6_weakPoints (.code yX6_weakPoints cX6_weakPoints 5 (some .int)) ({ frames := 6, cells := 0, slots := 0, locals := 144 } : Room) [.ref a0, .int a1] q σ (.inr (some (.int v))) σ' (fun z => z = q) := by
  refine kx_in (by decide +kernel) (Nat.le_of_ble_eq_true rfl) ?_
  intro Γ K hnm hsz hQ
  refine kx_lv (lv' := [(0, .ref a0), (1, .int a1)]) rfl ?_
  have B30 : ∀ (n30 : Nat) (σ12 : ac_H) (v9 : Int32) (v10 : Int32) (v11 : Int32), m_X6_weakPoints_l30 a0 a1 n30 σ12 v9 v10 v11 = some (.inr v, σ') → kx_S Λ Γ 5 (fun z => z = q) σ12 (0) (0) 30 [(0, .ref a0), (1, .int a1), (2, .int v9), (3, .int v10), (4, .int v11)] [] := by
    intro n30
    induction n30 with
    | zero =>
      intro σ12 v9 v10 v11 hf
      rw [m_X6_weakPoints_l30] at hf
      cases hf
    | succ n30 ih30 =>
      intro σ12 v9 v10 v11 hf
      rw [m_X6_weakPoints_l30] at hf
      refine kx_iload K dX6_weakPoints_30 4 rfl ?_
      refine kx_iload_n K dX6_weakPoints_32 rfl 2 rfl ?_
      refine kx_icmp_ge K 68 hf dX6_weakPoints_33 (by decide) (fun hf => ?_) (fun hf => ?_)
      · refine kx_iload_n K dX6_weakPoints_68 rfl 3 rfl ?_
        exact kx_iretR K hQ (by decide) (by decide) (fun _ h => h) dX6_weakPoints_69 hf
      · refine kx_aload_n K dX6_weakPoints_36 rfl 0 rfl ?_
        refine kx_gr K f_X6_19 dX6_weakPoints_37 hf (fun x13 hf => ?_)
        refine kx_iconst (v := 0) K dX6_weakPoints_40 (by decide) ?_
        refine kx_iload K dX6_weakPoints_41 4 rfl ?_
        refine kx_iconst (v := 0) K dX6_weakPoints_43 (by decide) ?_
        refine kx_cv3v K c_X6_184 ⟨by decide, by decide, rfl, rfl, (by decide), (by decide)⟩ (Nat.le_of_ble_eq_true rfl) dX6_weakPoints_44 hf (fun _ _ _ h => k_X0_takeOnlyFault h) (fun _ σ14 hf => ?_)
        refine kx_aload_n K dX6_weakPoints_47 rfl 0 rfl ?_
        refine kx_aload_n K dX6_weakPoints_48 rfl 0 rfl ?_
        refine kx_gr K f_X6_19 dX6_weakPoints_49 hf (fun x15 hf => ?_)
        refine kx_iload_n K dX6_weakPoints_52 rfl 1 rfl ?_
        refine kx_cv2i K c_X6_155 ⟨by decide, by decide, rfl, rfl, (by decide), (by decide)⟩ (Nat.le_of_ble_eq_true rfl) dX6_weakPoints_53 hf (fun _ _ _ h => k_X6_isBroken h) (fun x17 σ16 hf => ?_)
        refine kx_if_eq K 62 hf dX6_weakPoints_56 (by decide) (fun hf => ?_) (fun hf => ?_)
        · refine kx_iinc (v := (v11 + 1)) K [(4, .int (v11 + 1)), (0, .ref a0), (1, .int a1), (2, .int v9), (3, .int v10)] dX6_weakPoints_62 4 rfl rfl (by decide) rfl ?_
          refine kx_goto K 30 dX6_weakPoints_65 (by decide) ?_
          refine kx_sub [(0, .ref a0), (1, .int a1), (2, .int v9), (3, .int v10), (4, .int (v11 + 1))] [1, 2, 3, 4, 0] rfl ?_
          exact ih30 _ _ _ _ hf
        · refine kx_iinc (v := (v10 + 1)) K [(3, .int (v10 + 1)), (0, .ref a0), (1, .int a1), (2, .int v9), (4, .int v11)] dX6_weakPoints_59 3 rfl rfl (by decide) rfl ?_
          refine kx_iinc (v := (v11 + 1)) K [(4, .int (v11 + 1)), (3, .int (v10 + 1)), (0, .ref a0), (1, .int a1), (2, .int v9)] dX6_weakPoints_62 4 rfl rfl (by decide) rfl ?_
          refine kx_goto K 30 dX6_weakPoints_65 (by decide) ?_
          refine kx_sub [(0, .ref a0), (1, .int a1), (2, .int v9), (3, .int (v10 + 1)), (4, .int (v11 + 1))] [2, 3, 4, 1, 0] rfl ?_
          exact ih30 _ _ _ _ hf
  unfold m_X6_weakPoints at hf
  refine kx_iload_n K dX6_weakPoints_0 rfl 1 rfl ?_
  refine kx_xsR (ρ := Unit) K [.int a1] (fun _ => none) c_X6_152 ⟨by decide, by decide, rfl, rfl, (by decide), (by decide)⟩ rfl rfl (Nat.le_of_ble_eq_true rfl) dX6_weakPoints_1 hf (fun _ _ _ h => k_X6_checkPromise h) (fun _ σ1 hf => ?_)
  refine kx_aload_n K dX6_weakPoints_4 rfl 0 rfl ?_
  refine kx_iload_n K dX6_weakPoints_5 rfl 1 rfl ?_
  refine kx_cv1i K c_X6_177 ⟨by decide, by decide, rfl, rfl, (by decide), (by decide)⟩ (Nat.le_of_ble_eq_true rfl) dX6_weakPoints_6 hf (fun _ _ _ h => k_X6_breaksWithoutFaults h) (fun x3 σ2 hf => ?_)
  refine kx_if_eq K 14 hf dX6_weakPoints_9 (by decide) (fun hf => ?_) (fun hf => ?_)
  · refine kx_aload_n K dX6_weakPoints_14 rfl 0 rfl ?_
    refine kx_gr K f_X6_25 dX6_weakPoints_15 hf (fun x4 hf => ?_)
    refine kx_cv0r K c_X6_116 ⟨by decide, by decide, rfl, rfl, (by decide), (by decide)⟩ (Nat.le_of_ble_eq_true rfl) dX6_weakPoints_18 hf (fun _ _ _ h => k_X4_line h) (fun x6 σ5 hf => ?_)
    refine kx_cv0i K c_X6_120 ⟨by decide, by decide, rfl, rfl, (by decide), (by decide)⟩ (Nat.le_of_ble_eq_true rfl) dX6_weakPoints_21 hf (fun _ _ _ h => k_X2_sentCount h) (fun x8 σ7 hf => ?_)
    refine kx_istore_n K [(2, .int x8), (0, .ref a0), (1, .int a1)] dX6_weakPoints_24 rfl (by decide) rfl ?_
    refine kx_iconst (v := 0) K dX6_weakPoints_25 (by decide) ?_
    refine kx_istore_n K [(3, .int (0 : Int32)), (2, .int x8), (0, .ref a0), (1, .int a1)] dX6_weakPoints_26 rfl (by decide) rfl ?_
    refine kx_iconst (v := 0) K dX6_weakPoints_27 (by decide) ?_
    refine kx_istore K [(4, .int (0 : Int32)), (3, .int (0 : Int32)), (2, .int x8), (0, .ref a0), (1, .int a1)] dX6_weakPoints_28 (by decide) rfl ?_
    refine kx_sub [(0, .ref a0), (1, .int a1), (2, .int x8), (3, .int (0 : Int32)), (4, .int (0 : Int32))] [3, 4, 2, 1, 0] rfl ?_
    exact B30 hN_f _ _ _ _ hf
  · refine kx_iconst (v := 0) K dX6_weakPoints_12 (by decide) ?_
    exact kx_iretR K hQ (by decide) (by decide) (fun _ h => h) dX6_weakPoints_13 hf
def m_X6_timerFor_l21  (a0 : Nat) (a1 : Int32) : Nat → ac_H → Int32 → Option ((String ⊕ Int32) × ac_H)
  | 0, _, _ => none
  | n + 1, σ7, v6 =>
    mo_t 2 (4 : Int32) fun x8 =>
    if x8 < v6 then
    (some (.inr (-1 : Int32), σ7))
    else
    (mo_gr σ7 a0 6 1 fun x9 =>
    mo_cv σ7 x9 0 (m_X0_changeSetting σ7 x9 (4 : Int32) v6) fun _ σ10 =>
    mo_gr σ10 a0 6 1 fun x11 =>
    mo_cv σ10 a0 6 (m_X6_isBroken σ10 a0 x11 a1) fun x13 σ12 =>
    if x13 = 0 then
    (some (.inr v6, σ12))
    else
    (m_X6_timerFor_l21 a0 a1 n σ12 (v6 + 1)))
def m_X6_timerFor (σ : ac_H) (a0 : Nat) (a1 : Int32) : Option ((String ⊕ Int32) × ac_H) :=
  mo_xs (m_X6_checkPromise σ a1) fun _ σ1 =>
  mo_gr σ1 a0 6 1 fun x2 =>
  mo_gr σ1 a0 6 0 fun x3 =>
  mo_cv σ1 x2 0 (m_X0_takeAll σ1 x2 x3) fun _ σ4 =>
  mo_t 1 (4 : Int32) fun x5 =>
  m_X6_timerFor_l21 a0 a1 hN_f σ4 x5
set_option maxRecDepth 100000 in
set_option maxHeartbeats 4000000 in
theorem k_X6_timerFor {Λ : ex_L} {q : Nat} {σ σ' : ac_H} {a0 : Nat} {a1 : Int32} {v : Int32} (hf : m_X6_timerFor σ a0 a1 = some (.inr v, σ')) : kx_C Λ yX6_timerFor (.code yX6_timerFor cX6_timerFor 3 (some .int)) ({ frames := 5, cells := 0, slots := 0, locals := 123 } : Room) [.ref a0, .int a1] q σ (.inr (some (.int v))) σ' (fun z => z = q) := by
  refine kx_in (by decide +kernel) (Nat.le_of_ble_eq_true rfl) ?_
  intro Γ K hnm hsz hQ
  refine kx_lv (lv' := [(0, .ref a0), (1, .int a1)]) rfl ?_
  have B21 : ∀ (n21 : Nat) (σ7 : ac_H) (v6 : Int32), m_X6_timerFor_l21 a0 a1 n21 σ7 v6 = some (.inr v, σ') → kx_S Λ Γ 3 (fun z => z = q) σ7 (0) (0) 21 [(0, .ref a0), (1, .int a1), (2, .int v6)] [] := by
    intro n21
    induction n21 with
    | zero =>
      intro σ7 v6 hf
      rw [m_X6_timerFor_l21] at hf
      cases hf
    | succ n21 ih21 =>
      intro σ7 v6 hf
      rw [m_X6_timerFor_l21] at hf
      refine kx_iload_n K dX6_timerFor_21 rfl 2 rfl ?_
      refine kx_gs K 2 (by decide) w_582 dX6_timerFor_22 ?_
      refine kx_iconst (v := 4) K dX6_timerFor_25 (by decide) ?_
      refine kx_ti K 2 (by decide) dX6_timerFor_26 hf (fun x8 hf => ?_)
      refine kx_icmp_gt K 59 hf dX6_timerFor_27 (by decide) (fun hf => ?_) (fun hf => ?_)
      · refine kx_iconst (v := -1) K dX6_timerFor_59 (by decide) ?_
        exact kx_iretR K hQ (by decide) (by decide) (fun _ h => h) dX6_timerFor_60 hf
      · refine kx_aload_n K dX6_timerFor_30 rfl 0 rfl ?_
        refine kx_gr K f_X6_19 dX6_timerFor_31 hf (fun x9 hf => ?_)
        refine kx_iconst (v := 4) K dX6_timerFor_34 (by decide) ?_
        refine kx_iload_n K dX6_timerFor_35 rfl 2 rfl ?_
        refine kx_cv2v K c_X6_195 ⟨by decide, by decide, rfl, rfl, (by decide), (by decide)⟩ (Nat.le_of_ble_eq_true rfl) dX6_timerFor_36 hf (fun _ _ _ h => k_X0_changeSetting h) (fun _ σ10 hf => ?_)
        refine kx_aload_n K dX6_timerFor_39 rfl 0 rfl ?_
        refine kx_aload_n K dX6_timerFor_40 rfl 0 rfl ?_
        refine kx_gr K f_X6_19 dX6_timerFor_41 hf (fun x11 hf => ?_)
        refine kx_iload_n K dX6_timerFor_44 rfl 1 rfl ?_
        refine kx_cv2i K c_X6_155 ⟨by decide, by decide, rfl, rfl, (by decide), (by decide)⟩ (Nat.le_of_ble_eq_true rfl) dX6_timerFor_45 hf (fun _ _ _ h => k_X6_isBroken h) (fun x13 σ12 hf => ?_)
        refine kx_if_ne K 53 hf dX6_timerFor_48 (by decide) (fun hf => ?_) (fun hf => ?_)
        · refine kx_iinc (v := (v6 + 1)) K [(2, .int (v6 + 1)), (0, .ref a0), (1, .int a1)] dX6_timerFor_53 2 rfl rfl (by decide) rfl ?_
          refine kx_goto K 21 dX6_timerFor_56 (by decide) ?_
          refine kx_sub [(0, .ref a0), (1, .int a1), (2, .int (v6 + 1))] [1, 2, 0] rfl ?_
          exact ih21 _ _ hf
        · refine kx_iload_n K dX6_timerFor_51 rfl 2 rfl ?_
          exact kx_iretR K hQ (by decide) (by decide) (fun _ h => h) dX6_timerFor_52 hf
  unfold m_X6_timerFor at hf
  refine kx_iload_n K dX6_timerFor_0 rfl 1 rfl ?_
  refine kx_xsR (ρ := Unit) K [.int a1] (fun _ => none) c_X6_152 ⟨by decide, by decide, rfl, rfl, (by decide), (by decide)⟩ rfl rfl (Nat.le_of_ble_eq_true rfl) dX6_timerFor_1 hf (fun _ _ _ h => k_X6_checkPromise h) (fun _ σ1 hf => ?_)
  refine kx_aload_n K dX6_timerFor_4 rfl 0 rfl ?_
  refine kx_gr K f_X6_19 dX6_timerFor_5 hf (fun x2 hf => ?_)
  refine kx_aload_n K dX6_timerFor_8 rfl 0 rfl ?_
  refine kx_gr K f_X6_10 dX6_timerFor_9 hf (fun x3 hf => ?_)
  refine kx_cv1v K c_X6_74 ⟨by decide, by decide, rfl, rfl, (by decide), (by decide)⟩ (Nat.le_of_ble_eq_true rfl) dX6_timerFor_12 hf (fun _ _ _ h => k_X0_takeAll h) (fun _ σ4 hf => ?_)
  refine kx_gs K 1 (by decide) w_581 dX6_timerFor_15 ?_
  refine kx_iconst (v := 4) K dX6_timerFor_18 (by decide) ?_
  refine kx_ti K 1 (by decide) dX6_timerFor_19 hf (fun x5 hf => ?_)
  refine kx_istore_n K [(2, .int x5), (0, .ref a0), (1, .int a1)] dX6_timerFor_20 rfl (by decide) rfl ?_
  refine kx_sub [(0, .ref a0), (1, .int a1), (2, .int x5)] [1, 2, 0] rfl ?_
  exact B21 hN_f _ _ hf
def m_X6_isRecorded (σ : ac_H) (a0 : Nat) (a1 : Int32) (a2 : Int32) : Option (Int32 × ac_H) :=
  mo_gr σ a0 6 0 fun x1 =>
  mo_cv σ x1 0 (m_X0_recordedStates σ x1) fun x3 σ2 =>
  mo_cv σ2 x3 5 (m_X5_holds σ2 x3 a1 a2) fun x5 σ4 =>
  mo_z x5 (some (x5, σ4))
set_option maxRecDepth 100000 in
set_option maxHeartbeats 4000000 in
theorem k_X6_isRecorded {Λ : ex_L} {q : Nat} {σ σ' : ac_H} {a0 : Nat} {a1 : Int32} {a2 : Int32} {v : Int32} (hf : m_X6_isRecorded σ a0 a1 a2 = some (v, σ')) : kx_C Λ yX6_isRecorded (.code yX6_isRecorded cX6_isRecorded 3 (some .boolean)) ({ frames := 2, cells := 0, slots := 0, locals := 43 } : Room) [.ref a0, .int a1, .int a2] q σ (.inr (some (.int v))) σ' (fun z => z = q) := by
  refine kx_in (by decide +kernel) (Nat.le_of_ble_eq_true rfl) ?_
  intro Γ K hnm hsz hQ
  refine kx_lv (lv' := [(0, .ref a0), (1, .int a1), (2, .int a2)]) rfl ?_
  unfold m_X6_isRecorded at hf
  refine kx_aload_n K dX6_isRecorded_0 rfl 0 rfl ?_
  refine kx_gr K f_X6_10 dX6_isRecorded_1 hf (fun x1 hf => ?_)
  refine kx_cv0r K c_X6_87 ⟨by decide, by decide, rfl, rfl, (by decide), (by decide)⟩ (Nat.le_of_ble_eq_true rfl) dX6_isRecorded_4 hf (fun _ _ _ h => k_X0_recordedStates h) (fun x3 σ2 hf => ?_)
  refine kx_iload_n K dX6_isRecorded_7 rfl 1 rfl ?_
  refine kx_iload_n K dX6_isRecorded_8 rfl 2 rfl ?_
  refine kx_cv2i K c_X6_159 ⟨by decide, by decide, rfl, rfl, (by decide), (by decide)⟩ (Nat.le_of_ble_eq_true rfl) dX6_isRecorded_9 hf (fun _ _ _ h => k_X5_holds h) (fun x5 σ4 hf => ?_)
  exact kx_zret K hQ (by decide) (by decide) (fun _ h => h) dX6_isRecorded_12 hf
def m_X6_isFault_j43  (a2 : Int32) (σ1 : ac_H) : Option (Int32 × ac_H) :=
  if a2 = 0 then
  (mo_z (1 : Int32) (some ((1 : Int32), σ1)))
  else
  (mo_z (0 : Int32) (some ((0 : Int32), σ1)))
def m_X6_isFault (σ : ac_H) (a0 : Int32) (a1 : Int32) (a2 : Int32) : Option (Int32 × ac_H) :=
  if a1 < 0 then
  (mo_z (0 : Int32) (some ((0 : Int32), σ)))
  else
  (if a1 < (120 : Int32) then
  (if a0 = (2 : Int32) then
  (if a2 < (1 : Int32) then
  (mo_z (0 : Int32) (some ((0 : Int32), σ)))
  else
  (if (20 : Int32) < a2 then
  (mo_z (0 : Int32) (some ((0 : Int32), σ)))
  else
  (mo_z (1 : Int32) (some ((1 : Int32), σ)))))
  else
  (if a0 = 0 then
  (m_X6_isFault_j43 a2 σ)
  else
  (if a0 = (1 : Int32) then
  (m_X6_isFault_j43 a2 σ)
  else
  (mo_z (0 : Int32) (some ((0 : Int32), σ))))))
  else
  (mo_z (0 : Int32) (some ((0 : Int32), σ))))
set_option maxRecDepth 100000 in
set_option maxHeartbeats 4000000 in
theorem k_X6_isFault {Λ : ex_L} {q : Nat} {σ σ' : ac_H} {a0 : Int32} {a1 : Int32} {a2 : Int32} {v : Int32} (hf : m_X6_isFault σ a0 a1 a2 = some (v, σ')) : kx_C Λ yX6_isFault (.code yX6_isFault cX6_isFault 3 (some .boolean)) ({ frames := 0, cells := 0, slots := 0, locals := 0 } : Room) [.int a0, .int a1, .int a2] q σ (.inr (some (.int v))) σ' (fun z => z = q) := by
  refine kx_in (by decide +kernel) (Nat.le_of_ble_eq_true rfl) ?_
  intro Γ K hnm hsz hQ
  refine kx_lv (lv' := [(0, .int a0), (1, .int a1), (2, .int a2)]) rfl ?_
  have B43 : ∀ (σ1 : ac_H), m_X6_isFault_j43 a2 σ1 = some (v, σ') → kx_S Λ Γ 3 (fun z => z = q) σ1 (0) (0) 43 [(2, .int a2)] [] := by
    intro σ1 hf
    unfold m_X6_isFault_j43 at hf
    refine kx_iload_n K dX6_isFault_43 rfl 0 rfl ?_
    refine kx_if_ne K 51 hf dX6_isFault_44 (by decide) (fun hf => ?_) (fun hf => ?_)
    · refine kx_iconst (v := 0) K dX6_isFault_51 (by decide) ?_
      exact kx_zret K hQ (by decide) (by decide) (fun _ h => h) dX6_isFault_52 hf
    · refine kx_iconst (v := 1) K dX6_isFault_47 (by decide) ?_
      refine kx_goto K 52 dX6_isFault_48 (by decide) ?_
      exact kx_zret K hQ (by decide) (by decide) (fun _ h => h) dX6_isFault_52 hf
  unfold m_X6_isFault at hf
  refine kx_iload_n K dX6_isFault_0 rfl 1 rfl ?_
  refine kx_if_lt K 10 hf dX6_isFault_1 (by decide) (fun hf => ?_) (fun hf => ?_)
  · refine kx_iconst (v := 0) K dX6_isFault_10 (by decide) ?_
    exact kx_zret K hQ (by decide) (by decide) (fun _ h => h) dX6_isFault_11 hf
  · refine kx_iload_n K dX6_isFault_4 rfl 1 rfl ?_
    refine kx_bipush (v := 120) K dX6_isFault_5 (by decide) ?_
    refine kx_icmp_lt K 12 hf dX6_isFault_7 (by decide) (fun hf => ?_) (fun hf => ?_)
    · refine kx_iload_n K dX6_isFault_12 rfl 0 rfl ?_
      refine kx_iconst (v := 2) K dX6_isFault_13 (by decide) ?_
      refine kx_icmp_ne K 34 hf dX6_isFault_14 (by decide) (fun hf => ?_) (fun hf => ?_)
      · refine kx_iload_n K dX6_isFault_34 rfl 0 rfl ?_
        refine kx_if_eq K 43 hf dX6_isFault_35 (by decide) (fun hf => ?_) (fun hf => ?_)
        · refine kx_sub [(2, .int a2)] [2] rfl ?_
          exact B43 _ hf
        · refine kx_iload_n K dX6_isFault_38 rfl 0 rfl ?_
          refine kx_iconst (v := 1) K dX6_isFault_39 (by decide) ?_
          refine kx_icmp_ne K 51 hf dX6_isFault_40 (by decide) (fun hf => ?_) (fun hf => ?_)
          · refine kx_iconst (v := 0) K dX6_isFault_51 (by decide) ?_
            exact kx_zret K hQ (by decide) (by decide) (fun _ h => h) dX6_isFault_52 hf
          · refine kx_sub [(2, .int a2)] [2] rfl ?_
            exact B43 _ hf
      · refine kx_iload_n K dX6_isFault_17 rfl 2 rfl ?_
        refine kx_iconst (v := 1) K dX6_isFault_18 (by decide) ?_
        refine kx_icmp_lt K 32 hf dX6_isFault_19 (by decide) (fun hf => ?_) (fun hf => ?_)
        · refine kx_iconst (v := 0) K dX6_isFault_32 (by decide) ?_
          exact kx_zret K hQ (by decide) (by decide) (fun _ h => h) dX6_isFault_33 hf
        · refine kx_iload_n K dX6_isFault_22 rfl 2 rfl ?_
          refine kx_bipush (v := 20) K dX6_isFault_23 (by decide) ?_
          refine kx_icmp_gt K 32 hf dX6_isFault_25 (by decide) (fun hf => ?_) (fun hf => ?_)
          · refine kx_iconst (v := 0) K dX6_isFault_32 (by decide) ?_
            exact kx_zret K hQ (by decide) (by decide) (fun _ h => h) dX6_isFault_33 hf
          · refine kx_iconst (v := 1) K dX6_isFault_28 (by decide) ?_
            refine kx_goto K 33 dX6_isFault_29 (by decide) ?_
            exact kx_zret K hQ (by decide) (by decide) (fun _ h => h) dX6_isFault_33 hf
    · refine kx_iconst (v := 0) K dX6_isFault_10 (by decide) ?_
      exact kx_zret K hQ (by decide) (by decide) (fun _ h => h) dX6_isFault_11 hf
def m_X6_remember_j58  (a0 : Nat) (σ16 : ac_H) : Option (Unit × ac_H) :=
  mo_gi σ16 a0 6 5 fun x17 =>
  if x17 < 0 then
  (some ((), σ16))
  else
  (mo_gr σ16 a0 6 4 fun x18 =>
  mo_gi σ16 a0 6 5 fun x19 =>
  mo_aq σ16 x18 x19 fun o20 =>
  mo_nl o20 (some ((), σ16)) fun b21 =>
  mo_gr σ16 a0 6 0 fun x22 =>
  mo_cv σ16 b21 0 (m_X0_takeAll σ16 b21 x22) fun _ σ23 =>
  mo_gi σ23 a0 6 5 fun x24 =>
  mo_pv σ23 a0 6 5 (.int (x24 + (1 : Int32))) fun σ25 =>
  some ((), σ25))
def m_X6_remember_l18  (a0 : Nat) : Nat → ac_H → Option Nat → Int32 → Option (Unit × ac_H)
  | 0, _, _, _ => none
  | n + 1, σ6, v4, v5 =>
    if v5 < (10 : Int32) then
    (mo_gr σ6 a0 6 4 fun x11 =>
    mo_gr σ6 a0 6 4 fun x12 =>
    mo_aq σ6 x12 v5 fun o13 =>
    mo_nl o13 none fun b15 =>
    mo_uq σ6 x11 (v5 - (1 : Int32)) b15 fun σ14 =>
    m_X6_remember_l18 a0 n σ14 v4 (v5 + 1))
    else
    (mo_gr σ6 a0 6 4 fun x7 =>
    mo_nl v4 none fun b9 =>
    mo_uq σ6 x7 (9 : Int32) b9 fun σ8 =>
    mo_pv σ8 a0 6 5 (.int (9 : Int32)) fun σ10 =>
    m_X6_remember_j58 a0 σ10)
def m_X6_remember (σ : ac_H) (a0 : Nat) : Option (Unit × ac_H) :=
  mo_gi σ a0 6 5 fun x1 =>
  if x1 < (10 : Int32) then
  (m_X6_remember_j58 a0 σ)
  else
  (mo_gr σ a0 6 4 fun x2 =>
  mo_aq σ x2 (0 : Int32) fun o3 =>
  m_X6_remember_l18 a0 hN_f σ o3 (1 : Int32))
set_option maxRecDepth 100000 in
set_option maxHeartbeats 4000000 in
theorem k_X6_remember {Λ : ex_L} {q : Nat} {σ σ' : ac_H} {a0 : Nat} {v : Unit} (hf : m_X6_remember σ a0 = some (v, σ')) : kx_C Λ yX6_remember (.code yX6_remember cX6_remember 3 none) ({ frames := 2, cells := 0, slots := 0, locals := 45 } : Room) [.ref a0] q σ (.inr none) σ' (fun z => z = q) := by
  refine kx_in (by decide +kernel) (Nat.le_of_ble_eq_true rfl) ?_
  intro Γ K hnm hsz hQ
  refine kx_lv (lv' := [(0, .ref a0)]) rfl ?_
  have B58 : ∀ (σ16 : ac_H), m_X6_remember_j58 a0 σ16 = some (v, σ') → kx_S Λ Γ 3 (fun z => z = q) σ16 (0) (0) 58 [(0, .ref a0)] [] := by
    intro σ16 hf
    unfold m_X6_remember_j58 at hf
    refine kx_aload_n K dX6_remember_58 rfl 0 rfl ?_
    refine kx_gi K f_X6_40 dX6_remember_59 hf (fun x17 hf => ?_)
    refine kx_if_ge K 66 hf dX6_remember_62 (by decide) (fun hf => ?_) (fun hf => ?_)
    · refine kx_aload_n K dX6_remember_66 rfl 0 rfl ?_
      refine kx_gr K f_X6_36 dX6_remember_67 hf (fun x18 hf => ?_)
      refine kx_aload_n K dX6_remember_70 rfl 0 rfl ?_
      refine kx_gi K f_X6_40 dX6_remember_71 hf (fun x19 hf => ?_)
      refine kx_aq K dX6_remember_74 hf (fun o20 hf => ?_)
      refine kx_qstore_n K [(1, va_rf o20), (0, .ref a0)] dX6_remember_75 rfl (by decide) rfl ?_
      refine kx_qload_n K dX6_remember_76 rfl 0 rfl ?_
      cases o20 with
      | none =>
        dsimp only [mo_nl] at hf
        refine kx_ifnullN K 98 dX6_remember_77 (by decide) ?_
        refine kx_sub [(0, .ref a0)] [1] rfl ?_
        exact kx_vret K hQ (by decide) (by decide) (fun _ h => h) dX6_remember_98 hf
      | some b21 =>
        dsimp only [mo_nl] at hf
        refine kx_ifnullS K dX6_remember_77 ?_
        refine kx_lv (lv' := [(1, .ref b21), (0, .ref a0)]) rfl ?_
        refine kx_aload_n K dX6_remember_80 rfl 0 rfl ?_
        refine kx_aload_n K dX6_remember_81 rfl 1 rfl ?_
        refine kx_gr K f_X6_10 dX6_remember_82 hf (fun x22 hf => ?_)
        refine kx_cv1v K c_X6_74 ⟨by decide, by decide, rfl, rfl, (by decide), (by decide)⟩ (Nat.le_of_ble_eq_true rfl) dX6_remember_85 hf (fun _ _ _ h => k_X0_takeAll h) (fun _ σ23 hf => ?_)
        refine kx_aload_n K dX6_remember_88 rfl 1 rfl ?_
        refine kx_dup K dX6_remember_89 rfl ?_
        refine kx_gi K f_X6_40 dX6_remember_90 hf (fun x24 hf => ?_)
        refine kx_iconst (v := 1) K dX6_remember_93 (by decide) ?_
        refine kx_iadd K dX6_remember_94 ?_
        refine kx_pi K f_X6_40 dX6_remember_95 hf (fun σ25 hf => ?_)
        exact kx_vret K hQ (by decide) (by decide) (fun _ h => h) dX6_remember_98 hf
    · exact kx_vret K hQ (by decide) (by decide) (fun _ h => h) dX6_remember_65 hf
  have B18 : ∀ (n18 : Nat) (σ6 : ac_H) (v4 : Option Nat) (v5 : Int32), m_X6_remember_l18 a0 n18 σ6 v4 v5 = some (v, σ') → kx_S Λ Γ 3 (fun z => z = q) σ6 (0) (0) 18 [(0, .ref a0), (1, va_rf v4), (2, .int v5)] [] := by
    intro n18
    induction n18 with
    | zero =>
      intro σ6 v4 v5 hf
      rw [m_X6_remember_l18] at hf
      cases hf
    | succ n18 ih18 =>
      intro σ6 v4 v5 hf
      rw [m_X6_remember_l18] at hf
      refine kx_iload_n K dX6_remember_18 rfl 2 rfl ?_
      refine kx_bipush (v := 10) K dX6_remember_19 (by decide) ?_
      refine kx_icmp_ge K 44 hf dX6_remember_21 (by decide) (fun hf => ?_) (fun hf => ?_)
      · refine kx_aload_n K dX6_remember_44 rfl 0 rfl ?_
        refine kx_gr K f_X6_36 dX6_remember_45 hf (fun x7 hf => ?_)
        refine kx_bipush (v := 9) K dX6_remember_48 (by decide) ?_
        refine kx_qload_n K dX6_remember_50 rfl 1 rfl ?_
        cases v4 with
        | none => cases hf
        | some b9 =>
          dsimp only [mo_nl] at hf
          refine kx_lv (lv' := [(0, .ref a0), (1, .ref b9), (2, .int v5)]) rfl ?_
          refine kx_uq (b := b9) K dX6_remember_51 hf (fun σ8 hf => ?_)
          refine kx_aload_n K dX6_remember_52 rfl 0 rfl ?_
          refine kx_bipush (v := 9) K dX6_remember_53 (by decide) ?_
          refine kx_pi K f_X6_40 dX6_remember_55 hf (fun σ10 hf => ?_)
          refine kx_sub [(0, .ref a0)] [0] rfl ?_
          exact B58 _ hf
      · refine kx_aload_n K dX6_remember_24 rfl 0 rfl ?_
        refine kx_gr K f_X6_36 dX6_remember_25 hf (fun x11 hf => ?_)
        refine kx_iload_n K dX6_remember_28 rfl 2 rfl ?_
        refine kx_iconst (v := 1) K dX6_remember_29 (by decide) ?_
        refine kx_isub K dX6_remember_30 ?_
        refine kx_aload_n K dX6_remember_31 rfl 0 rfl ?_
        refine kx_gr K f_X6_36 dX6_remember_32 hf (fun x12 hf => ?_)
        refine kx_iload_n K dX6_remember_35 rfl 2 rfl ?_
        refine kx_aq K dX6_remember_36 hf (fun o13 hf => ?_)
        cases o13 with
        | none => cases hf
        | some b15 =>
          dsimp only [mo_nl] at hf
          refine kx_lv (lv' := [(0, .ref a0), (1, va_rf v4), (2, .int v5)]) rfl ?_
          refine kx_uq (b := b15) K dX6_remember_37 hf (fun σ14 hf => ?_)
          refine kx_iinc (v := (v5 + 1)) K [(2, .int (v5 + 1)), (0, .ref a0), (1, va_rf v4)] dX6_remember_38 2 rfl rfl (by decide) (by cases v4 <;> rfl) ?_
          refine kx_goto K 18 dX6_remember_41 (by decide) ?_
          refine kx_sub [(0, .ref a0), (1, va_rf v4), (2, .int (v5 + 1))] [1, 2, 0] rfl ?_
          exact ih18 _ _ _ hf
  unfold m_X6_remember at hf
  refine kx_aload_n K dX6_remember_0 rfl 0 rfl ?_
  refine kx_gi K f_X6_40 dX6_remember_1 hf (fun x1 hf => ?_)
  refine kx_bipush (v := 10) K dX6_remember_4 (by decide) ?_
  refine kx_icmp_lt K 58 hf dX6_remember_6 (by decide) (fun hf => ?_) (fun hf => ?_)
  · refine kx_sub [(0, .ref a0)] [0] rfl ?_
    exact B58 _ hf
  · refine kx_aload_n K dX6_remember_9 rfl 0 rfl ?_
    refine kx_gr K f_X6_36 dX6_remember_10 hf (fun x2 hf => ?_)
    refine kx_iconst (v := 0) K dX6_remember_13 (by decide) ?_
    refine kx_aq K dX6_remember_14 hf (fun o3 hf => ?_)
    refine kx_qstore_n K [(1, va_rf o3), (0, .ref a0)] dX6_remember_15 rfl (by decide) rfl ?_
    refine kx_iconst (v := 1) K dX6_remember_16 (by decide) ?_
    refine kx_istore_n K [(2, .int (1 : Int32)), (1, va_rf o3), (0, .ref a0)] dX6_remember_17 rfl (by decide) (by cases o3 <;> rfl) ?_
    refine kx_sub [(0, .ref a0), (1, va_rf o3), (2, .int (1 : Int32))] [2, 1, 0] rfl ?_
    exact B18 hN_f _ _ _ hf
def m_X6_addFault (σ : ac_H) (a0 : Nat) (a1 : Int32) (a2 : Int32) (a3 : Int32) : Option ((String ⊕ Int32) × ac_H) :=
  mo_cs (m_X6_isFault σ a1 a2 a3) fun x2 σ1 =>
  if x2 = 0 then
  (some (.inl "java/lang/IllegalArgumentException", σ1))
  else
  (mo_gr σ1 a0 6 0 fun x3 =>
  mo_cv σ1 x3 0 (m_X0_faultCount σ1 x3) fun x5 σ4 =>
  if x5 < (10 : Int32) then
  (mo_gr σ4 a0 6 0 fun x6 =>
  mo_cv σ4 x6 0 (m_X0_findFault σ4 x6 a1 a2) fun x8 σ7 =>
  if x8 = (-1 : Int32) then
  (mo_cv σ7 a0 6 (m_X6_remember σ7 a0) fun _ σ9 =>
  mo_gr σ9 a0 6 0 fun x10 =>
  mo_cv σ9 x10 0 (m_X0_insert σ9 x10 a1 a2 a3) fun x12 σ11 =>
  some (.inr x12, σ11))
  else
  (some (.inl "java/lang/IllegalStateException", σ7)))
  else
  (some (.inl "java/lang/IllegalStateException", σ4)))
set_option maxRecDepth 100000 in
set_option maxHeartbeats 4000000 in
theorem k_X6_addFault {Λ : ex_L} {q : Nat} {σ σ' : ac_H} {a0 : Nat} {a1 : Int32} {a2 : Int32} {a3 : Int32} {v : Int32} (hf : m_X6_addFault σ a0 a1 a2 a3 = some (.inr v, σ')) : kx_C Λ yX6_addFault (.code yX6_addFault cX6_addFault 4 (some .int)) ({ frames := 3, cells := 0, slots := 0, locals := 67 } : Room) [.ref a0, .int a1, .int a2, .int a3] q σ (.inr (some (.int v))) σ' (fun z => z = q) := by
  refine kx_in (by decide +kernel) (Nat.le_of_ble_eq_true rfl) ?_
  intro Γ K hnm hsz hQ
  refine kx_lv (lv' := [(0, .ref a0), (1, .int a1), (2, .int a2), (3, .int a3)]) rfl ?_
  unfold m_X6_addFault at hf
  refine kx_iload_n K dX6_addFault_0 rfl 1 rfl ?_
  refine kx_iload_n K dX6_addFault_1 rfl 2 rfl ?_
  refine kx_iload_n K dX6_addFault_2 rfl 3 rfl ?_
  refine kx_cs3i K c_X6_199 ⟨by decide, by decide, rfl, rfl, (by decide), (by decide)⟩ (Nat.le_of_ble_eq_true rfl) dX6_addFault_3 hf (fun _ _ _ h => k_X6_isFault h) (fun x2 σ1 hf => ?_)
  refine kx_if_ne K 19 hf dX6_addFault_6 (by decide) (fun hf => ?_) (fun hf => ?_)
  · refine kx_aload_n K dX6_addFault_19 rfl 0 rfl ?_
    refine kx_gr K f_X6_10 dX6_addFault_20 hf (fun x3 hf => ?_)
    refine kx_cv0i K c_X6_84 ⟨by decide, by decide, rfl, rfl, (by decide), (by decide)⟩ (Nat.le_of_ble_eq_true rfl) dX6_addFault_23 hf (fun _ _ _ h => k_X0_faultCount h) (fun x5 σ4 hf => ?_)
    refine kx_bipush (v := 10) K dX6_addFault_26 (by decide) ?_
    refine kx_icmp_ge K 44 hf dX6_addFault_28 (by decide) (fun hf => ?_) (fun hf => ?_)
    · cases hf
    · refine kx_aload_n K dX6_addFault_31 rfl 0 rfl ?_
      refine kx_gr K f_X6_10 dX6_addFault_32 hf (fun x6 hf => ?_)
      refine kx_iload_n K dX6_addFault_35 rfl 1 rfl ?_
      refine kx_iload_n K dX6_addFault_36 rfl 2 rfl ?_
      refine kx_cv2i K c_X6_205 ⟨by decide, by decide, rfl, rfl, (by decide), (by decide)⟩ (Nat.le_of_ble_eq_true rfl) dX6_addFault_37 hf (fun _ _ _ h => k_X0_findFault h) (fun x8 σ7 hf => ?_)
      refine kx_iconst (v := -1) K dX6_addFault_40 (by decide) ?_
      refine kx_icmp_eq K 54 hf dX6_addFault_41 (by decide) (fun hf => ?_) (fun hf => ?_)
      · refine kx_aload_n K dX6_addFault_54 rfl 0 rfl ?_
        refine kx_cv0v K c_X6_213 ⟨by decide, by decide, rfl, rfl, (by decide), (by decide)⟩ (Nat.le_of_ble_eq_true rfl) dX6_addFault_55 hf (fun _ _ _ h => k_X6_remember h) (fun _ σ9 hf => ?_)
        refine kx_aload_n K dX6_addFault_58 rfl 0 rfl ?_
        refine kx_gr K f_X6_10 dX6_addFault_59 hf (fun x10 hf => ?_)
        refine kx_iload_n K dX6_addFault_62 rfl 1 rfl ?_
        refine kx_iload_n K dX6_addFault_63 rfl 2 rfl ?_
        refine kx_iload_n K dX6_addFault_64 rfl 3 rfl ?_
        refine kx_cv3i K c_X6_216 ⟨by decide, by decide, rfl, rfl, (by decide), (by decide)⟩ (Nat.le_of_ble_eq_true rfl) dX6_addFault_65 hf (fun _ _ _ h => k_X0_insert h) (fun x12 σ11 hf => ?_)
        exact kx_iretR K hQ (by decide) (by decide) (fun _ h => h) dX6_addFault_68 hf
      · cases hf
  · cases hf
def m_X6_removeFault (σ : ac_H) (a0 : Nat) (a1 : Int32) : Option ((String ⊕ Int32) × ac_H) :=
  mo_xv σ a0 6 (m_X6_checkFault σ a0 a1) fun _ σ1 =>
  mo_cv σ1 a0 6 (m_X6_remember σ1 a0) fun _ σ2 =>
  mo_gr σ2 a0 6 0 fun x3 =>
  mo_cv σ2 x3 0 (m_X0_delete σ2 x3 a1) fun _ σ4 =>
  mo_gr σ4 a0 6 0 fun x5 =>
  mo_cv σ4 x5 0 (m_X0_faultCount σ4 x5) fun x7 σ6 =>
  some (.inr x7, σ6)
set_option maxRecDepth 100000 in
set_option maxHeartbeats 4000000 in
theorem k_X6_removeFault {Λ : ex_L} {q : Nat} {σ σ' : ac_H} {a0 : Nat} {a1 : Int32} {v : Int32} (hf : m_X6_removeFault σ a0 a1 = some (.inr v, σ')) : kx_C Λ yX6_removeFault (.code yX6_removeFault cX6_removeFault 2 (some .int)) ({ frames := 3, cells := 0, slots := 0, locals := 67 } : Room) [.ref a0, .int a1] q σ (.inr (some (.int v))) σ' (fun z => z = q) := by
  refine kx_in (by decide +kernel) (Nat.le_of_ble_eq_true rfl) ?_
  intro Γ K hnm hsz hQ
  refine kx_lv (lv' := [(0, .ref a0), (1, .int a1)]) rfl ?_
  unfold m_X6_removeFault at hf
  refine kx_aload_n K dX6_removeFault_0 rfl 0 rfl ?_
  refine kx_iload_n K dX6_removeFault_1 rfl 1 rfl ?_
  refine kx_xvR (ρ := Unit) K [.int a1] (fun _ => none) c_X6_98 ⟨by decide, by decide, rfl, rfl, (by decide), (by decide)⟩ rfl rfl (Nat.le_of_ble_eq_true rfl) dX6_removeFault_2 hf (fun _ _ _ h => k_X6_checkFault h) (fun _ σ1 hf => ?_)
  refine kx_aload_n K dX6_removeFault_5 rfl 0 rfl ?_
  refine kx_cv0v K c_X6_213 ⟨by decide, by decide, rfl, rfl, (by decide), (by decide)⟩ (Nat.le_of_ble_eq_true rfl) dX6_removeFault_6 hf (fun _ _ _ h => k_X6_remember h) (fun _ σ2 hf => ?_)
  refine kx_aload_n K dX6_removeFault_9 rfl 0 rfl ?_
  refine kx_gr K f_X6_10 dX6_removeFault_10 hf (fun x3 hf => ?_)
  refine kx_iload_n K dX6_removeFault_13 rfl 1 rfl ?_
  refine kx_cv1v K c_X6_163 ⟨by decide, by decide, rfl, rfl, (by decide), (by decide)⟩ (Nat.le_of_ble_eq_true rfl) dX6_removeFault_14 hf (fun _ _ _ h => k_X0_delete h) (fun _ σ4 hf => ?_)
  refine kx_aload_n K dX6_removeFault_17 rfl 0 rfl ?_
  refine kx_gr K f_X6_10 dX6_removeFault_18 hf (fun x5 hf => ?_)
  refine kx_cv0i K c_X6_84 ⟨by decide, by decide, rfl, rfl, (by decide), (by decide)⟩ (Nat.le_of_ble_eq_true rfl) dX6_removeFault_21 hf (fun _ _ _ h => k_X0_faultCount h) (fun x7 σ6 hf => ?_)
  exact kx_iretR K hQ (by decide) (by decide) (fun _ h => h) dX6_removeFault_24 hf
def m_X6_clearFaults (σ : ac_H) (a0 : Nat) : Option (Int32 × ac_H) :=
  mo_cv σ a0 6 (m_X6_remember σ a0) fun _ σ1 =>
  mo_gr σ1 a0 6 0 fun x2 =>
  mo_cv σ1 x2 0 (m_X0_faultCount σ1 x2) fun x4 σ3 =>
  mo_gr σ3 a0 6 0 fun x5 =>
  mo_cv σ3 x5 0 (m_X0_deleteAll σ3 x5) fun _ σ6 =>
  some (x4, σ6)
set_option maxRecDepth 100000 in
set_option maxHeartbeats 4000000 in
theorem k_X6_clearFaults {Λ : ex_L} {q : Nat} {σ σ' : ac_H} {a0 : Nat} {v : Int32} (hf : m_X6_clearFaults σ a0 = some (v, σ')) : kx_C Λ yX6_clearFaults (.code yX6_clearFaults cX6_clearFaults 2 (some .int)) ({ frames := 3, cells := 0, slots := 0, locals := 67 } : Room) [.ref a0] q σ (.inr (some (.int v))) σ' (fun z => z = q) := by
  refine kx_in (by decide +kernel) (Nat.le_of_ble_eq_true rfl) ?_
  intro Γ K hnm hsz hQ
  refine kx_lv (lv' := [(0, .ref a0)]) rfl ?_
  unfold m_X6_clearFaults at hf
  refine kx_aload_n K dX6_clearFaults_0 rfl 0 rfl ?_
  refine kx_cv0v K c_X6_213 ⟨by decide, by decide, rfl, rfl, (by decide), (by decide)⟩ (Nat.le_of_ble_eq_true rfl) dX6_clearFaults_1 hf (fun _ _ _ h => k_X6_remember h) (fun _ σ1 hf => ?_)
  refine kx_aload_n K dX6_clearFaults_4 rfl 0 rfl ?_
  refine kx_gr K f_X6_10 dX6_clearFaults_5 hf (fun x2 hf => ?_)
  refine kx_cv0i K c_X6_84 ⟨by decide, by decide, rfl, rfl, (by decide), (by decide)⟩ (Nat.le_of_ble_eq_true rfl) dX6_clearFaults_8 hf (fun _ _ _ h => k_X0_faultCount h) (fun x4 σ3 hf => ?_)
  refine kx_istore_n K [(1, .int x4), (0, .ref a0)] dX6_clearFaults_11 rfl (by decide) rfl ?_
  refine kx_aload_n K dX6_clearFaults_12 rfl 1 rfl ?_
  refine kx_gr K f_X6_10 dX6_clearFaults_13 hf (fun x5 hf => ?_)
  refine kx_cv0v K c_X6_220 ⟨by decide, by decide, rfl, rfl, (by decide), (by decide)⟩ (Nat.le_of_ble_eq_true rfl) dX6_clearFaults_16 hf (fun _ _ _ h => k_X0_deleteAll h) (fun _ σ6 hf => ?_)
  refine kx_iload_n K dX6_clearFaults_19 rfl 0 rfl ?_
  exact kx_iret K hQ (by decide) (by decide) (fun _ h => h) dX6_clearFaults_20 hf
def m_X6_set (σ : ac_H) (a0 : Nat) (a1 : Int32) (a2 : Int32) : Option ((String ⊕ Int32) × ac_H) :=
  if a1 < 0 then
  (some (.inl "java/lang/IllegalArgumentException", σ))
  else
  (if a1 < (8 : Int32) then
  (mo_t 1 a1 fun x1 =>
  if a2 < x1 then
  (some (.inl "java/lang/IllegalArgumentException", σ))
  else
  (mo_t 2 a1 fun x2 =>
  if x2 < a2 then
  (some (.inl "java/lang/IllegalArgumentException", σ))
  else
  (mo_cv σ a0 6 (m_X6_remember σ a0) fun _ σ3 =>
  mo_gr σ3 a0 6 0 fun x4 =>
  mo_cv σ3 x4 0 (m_X0_setting σ3 x4 a1) fun x6 σ5 =>
  mo_gr σ5 a0 6 0 fun x7 =>
  mo_cv σ5 x7 0 (m_X0_changeSetting σ5 x7 a1 a2) fun _ σ8 =>
  some (.inr x6, σ8))))
  else
  (some (.inl "java/lang/IllegalArgumentException", σ)))
set_option maxRecDepth 100000 in
set_option maxHeartbeats 4000000 in
theorem k_X6_set {Λ : ex_L} {q : Nat} {σ σ' : ac_H} {a0 : Nat} {a1 : Int32} {a2 : Int32} {v : Int32} (hf : m_X6_set σ a0 a1 a2 = some (.inr v, σ')) : kx_C Λ yX6_set (.code yX6_set cX6_set 4 (some .int)) ({ frames := 3, cells := 0, slots := 0, locals := 67 } : Room) [.ref a0, .int a1, .int a2] q σ (.inr (some (.int v))) σ' (fun z => z = q) := by
  refine kx_in (by decide +kernel) (Nat.le_of_ble_eq_true rfl) ?_
  intro Γ K hnm hsz hQ
  refine kx_lv (lv' := [(0, .ref a0), (1, .int a1), (2, .int a2)]) rfl ?_
  unfold m_X6_set at hf
  refine kx_iload_n K dX6_set_0 rfl 1 rfl ?_
  refine kx_if_lt K 10 hf dX6_set_1 (by decide) (fun hf => ?_) (fun hf => ?_)
  · cases hf
  · refine kx_iload_n K dX6_set_4 rfl 1 rfl ?_
    refine kx_bipush (v := 8) K dX6_set_5 (by decide) ?_
    refine kx_icmp_lt K 20 hf dX6_set_7 (by decide) (fun hf => ?_) (fun hf => ?_)
    · refine kx_iload_n K dX6_set_20 rfl 2 rfl ?_
      refine kx_gs K 1 (by decide) w_581 dX6_set_21 ?_
      refine kx_iload_n K dX6_set_24 rfl 1 rfl ?_
      refine kx_ti K 1 (by decide) dX6_set_25 hf (fun x1 hf => ?_)
      refine kx_icmp_lt K 38 hf dX6_set_26 (by decide) (fun hf => ?_) (fun hf => ?_)
      · cases hf
      · refine kx_iload_n K dX6_set_29 rfl 2 rfl ?_
        refine kx_gs K 2 (by decide) w_582 dX6_set_30 ?_
        refine kx_iload_n K dX6_set_33 rfl 1 rfl ?_
        refine kx_ti K 2 (by decide) dX6_set_34 hf (fun x2 hf => ?_)
        refine kx_icmp_le K 48 hf dX6_set_35 (by decide) (fun hf => ?_) (fun hf => ?_)
        · refine kx_aload_n K dX6_set_48 rfl 0 rfl ?_
          refine kx_cv0v K c_X6_213 ⟨by decide, by decide, rfl, rfl, (by decide), (by decide)⟩ (Nat.le_of_ble_eq_true rfl) dX6_set_49 hf (fun _ _ _ h => k_X6_remember h) (fun _ σ3 hf => ?_)
          refine kx_aload_n K dX6_set_52 rfl 0 rfl ?_
          refine kx_gr K f_X6_10 dX6_set_53 hf (fun x4 hf => ?_)
          refine kx_iload_n K dX6_set_56 rfl 1 rfl ?_
          refine kx_cv1i K c_X6_81 ⟨by decide, by decide, rfl, rfl, (by decide), (by decide)⟩ (Nat.le_of_ble_eq_true rfl) dX6_set_57 hf (fun _ _ _ h => k_X0_setting h) (fun x6 σ5 hf => ?_)
          refine kx_istore_n K [(3, .int x6), (0, .ref a0), (1, .int a1), (2, .int a2)] dX6_set_60 rfl (by decide) rfl ?_
          refine kx_aload_n K dX6_set_61 rfl 1 rfl ?_
          refine kx_gr K f_X6_10 dX6_set_62 hf (fun x7 hf => ?_)
          refine kx_iload_n K dX6_set_65 rfl 2 rfl ?_
          refine kx_iload_n K dX6_set_66 rfl 3 rfl ?_
          refine kx_cv2v K c_X6_195 ⟨by decide, by decide, rfl, rfl, (by decide), (by decide)⟩ (Nat.le_of_ble_eq_true rfl) dX6_set_67 hf (fun _ _ _ h => k_X0_changeSetting h) (fun _ σ8 hf => ?_)
          refine kx_iload_n K dX6_set_70 rfl 0 rfl ?_
          exact kx_iretR K hQ (by decide) (by decide) (fun _ h => h) dX6_set_71 hf
        · cases hf
    · cases hf
def m_X6_shrink_l48  (a0 : Nat) (a1 : Int32) : Nat → ac_H → Int32 → Int32 → Option ((String ⊕ Int32) × ac_H)
  | 0, _, _, _ => none
  | n + 1, σ12, v10, v11 =>
    if v11 < v10 then
    (mo_cv σ12 a0 6 (m_X6_findLeastAmount σ12 a0 v11 a1) fun x14 σ13 =>
    if x14 = (-1 : Int32) then
    (m_X6_shrink_l48 a0 a1 n σ13 v10 (v11 + 1))
    else
    (mo_gr σ13 a0 6 0 fun x15 =>
    mo_cv σ13 x15 0 (m_X0_changeAmount σ13 x15 v11 x14) fun _ σ16 =>
    m_X6_shrink_l48 a0 a1 n σ16 v10 (v11 + 1)))
    else
    (some (.inr v10, σ12))
def m_X6_shrink (σ : ac_H) (a0 : Nat) (a1 : Int32) : Option ((String ⊕ Int32) × ac_H) :=
  mo_xs (m_X6_checkPromise σ a1) fun _ σ1 =>
  mo_cv σ1 a0 6 (m_X6_findCore σ1 a0 a1) fun x3 σ2 =>
  if x3 = (-1 : Int32) then
  (some (.inl "java/lang/IllegalStateException", σ2))
  else
  (mo_cv σ2 a0 6 (m_X6_remember σ2 a0) fun _ σ4 =>
  mo_gr σ4 a0 6 0 fun x5 =>
  mo_cv σ4 x5 0 (m_X0_keepPart σ4 x5 x3) fun _ σ6 =>
  mo_gr σ6 a0 6 0 fun x7 =>
  mo_cv σ6 x7 0 (m_X0_faultCount σ6 x7) fun x9 σ8 =>
  m_X6_shrink_l48 a0 a1 hN_f σ8 x9 (0 : Int32))
set_option maxRecDepth 100000 in
set_option maxHeartbeats 4000000 in
theorem k_X6_shrink {Λ : ex_L} {q : Nat} {σ σ' : ac_H} {a0 : Nat} {a1 : Int32} {v : Int32} (hf : m_X6_shrink σ a0 a1 = some (.inr v, σ')) : kx_C Λ yX6_shrink (.code yX6_shrink cX6_shrink 6 (some .int)) ({ frames := 6, cells := 0, slots := 0, locals := 149 } : Room) [.ref a0, .int a1] q σ (.inr (some (.int v))) σ' (fun z => z = q) := by
  refine kx_in (by decide +kernel) (Nat.le_of_ble_eq_true rfl) ?_
  intro Γ K hnm hsz hQ
  refine kx_lv (lv' := [(0, .ref a0), (1, .int a1)]) rfl ?_
  have B48 : ∀ (n48 : Nat) (σ12 : ac_H) (v10 : Int32) (v11 : Int32), m_X6_shrink_l48 a0 a1 n48 σ12 v10 v11 = some (.inr v, σ') → kx_S Λ Γ 6 (fun z => z = q) σ12 (0) (0) 48 [(0, .ref a0), (1, .int a1), (3, .int v10), (4, .int v11)] [] := by
    intro n48
    induction n48 with
    | zero =>
      intro σ12 v10 v11 hf
      rw [m_X6_shrink_l48] at hf
      cases hf
    | succ n48 ih48 =>
      intro σ12 v10 v11 hf
      rw [m_X6_shrink_l48] at hf
      refine kx_iload K dX6_shrink_48 3 rfl ?_
      refine kx_iload_n K dX6_shrink_50 rfl 2 rfl ?_
      refine kx_icmp_ge K 86 hf dX6_shrink_51 (by decide) (fun hf => ?_) (fun hf => ?_)
      · refine kx_iload_n K dX6_shrink_86 rfl 2 rfl ?_
        exact kx_iretR K hQ (by decide) (by decide) (fun _ h => h) dX6_shrink_87 hf
      · refine kx_aload_n K dX6_shrink_54 rfl 0 rfl ?_
        refine kx_iload K dX6_shrink_55 3 rfl ?_
        refine kx_iload_n K dX6_shrink_57 rfl 1 rfl ?_
        refine kx_cv2i K c_X6_174 ⟨by decide, by decide, rfl, rfl, (by decide), (by decide)⟩ (Nat.le_of_ble_eq_true rfl) dX6_shrink_58 hf (fun _ _ _ h => k_X6_findLeastAmount h) (fun x14 σ13 hf => ?_)
        refine kx_istore K [(5, .int x14), (0, .ref a0), (1, .int a1), (3, .int v10), (4, .int v11)] dX6_shrink_61 (by decide) rfl ?_
        refine kx_iload K dX6_shrink_63 0 rfl ?_
        refine kx_iconst (v := -1) K dX6_shrink_65 (by decide) ?_
        refine kx_icmp_eq K 80 hf dX6_shrink_66 (by decide) (fun hf => ?_) (fun hf => ?_)
        · refine kx_iinc (v := (v11 + 1)) K [(4, .int (v11 + 1)), (5, .int x14), (0, .ref a0), (1, .int a1), (3, .int v10)] dX6_shrink_80 4 rfl rfl (by decide) rfl ?_
          refine kx_goto K 48 dX6_shrink_83 (by decide) ?_
          refine kx_sub [(0, .ref a0), (1, .int a1), (3, .int v10), (4, .int (v11 + 1))] [2, 3, 4, 0] rfl ?_
          exact ih48 _ _ _ hf
        · refine kx_aload_n K dX6_shrink_69 rfl 1 rfl ?_
          refine kx_gr K f_X6_10 dX6_shrink_70 hf (fun x15 hf => ?_)
          refine kx_iload K dX6_shrink_73 4 rfl ?_
          refine kx_iload K dX6_shrink_75 0 rfl ?_
          refine kx_cv2v K c_X6_230 ⟨by decide, by decide, rfl, rfl, (by decide), (by decide)⟩ (Nat.le_of_ble_eq_true rfl) dX6_shrink_77 hf (fun _ _ _ h => k_X0_changeAmount h) (fun _ σ16 hf => ?_)
          refine kx_iinc (v := (v11 + 1)) K [(4, .int (v11 + 1)), (5, .int x14), (0, .ref a0), (1, .int a1), (3, .int v10)] dX6_shrink_80 4 rfl rfl (by decide) rfl ?_
          refine kx_goto K 48 dX6_shrink_83 (by decide) ?_
          refine kx_sub [(0, .ref a0), (1, .int a1), (3, .int v10), (4, .int (v11 + 1))] [2, 3, 4, 0] rfl ?_
          exact ih48 _ _ _ hf
  unfold m_X6_shrink at hf
  refine kx_iload_n K dX6_shrink_0 rfl 1 rfl ?_
  refine kx_xsR (ρ := Unit) K [.int a1] (fun _ => none) c_X6_152 ⟨by decide, by decide, rfl, rfl, (by decide), (by decide)⟩ rfl rfl (Nat.le_of_ble_eq_true rfl) dX6_shrink_1 hf (fun _ _ _ h => k_X6_checkPromise h) (fun _ σ1 hf => ?_)
  refine kx_aload_n K dX6_shrink_4 rfl 0 rfl ?_
  refine kx_iload_n K dX6_shrink_5 rfl 1 rfl ?_
  refine kx_cv1i K c_X6_166 ⟨by decide, by decide, rfl, rfl, (by decide), (by decide)⟩ (Nat.le_of_ble_eq_true rfl) dX6_shrink_6 hf (fun _ _ _ h => k_X6_findCore h) (fun x3 σ2 hf => ?_)
  refine kx_istore_n K [(2, .int x3), (0, .ref a0), (1, .int a1)] dX6_shrink_9 rfl (by decide) rfl ?_
  refine kx_iload_n K dX6_shrink_10 rfl 0 rfl ?_
  refine kx_iconst (v := -1) K dX6_shrink_11 (by decide) ?_
  refine kx_icmp_ne K 25 hf dX6_shrink_12 (by decide) (fun hf => ?_) (fun hf => ?_)
  · refine kx_aload_n K dX6_shrink_25 rfl 1 rfl ?_
    refine kx_cv0v K c_X6_213 ⟨by decide, by decide, rfl, rfl, (by decide), (by decide)⟩ (Nat.le_of_ble_eq_true rfl) dX6_shrink_26 hf (fun _ _ _ h => k_X6_remember h) (fun _ σ4 hf => ?_)
    refine kx_aload_n K dX6_shrink_29 rfl 1 rfl ?_
    refine kx_gr K f_X6_10 dX6_shrink_30 hf (fun x5 hf => ?_)
    refine kx_iload_n K dX6_shrink_33 rfl 0 rfl ?_
    refine kx_cv1v K c_X6_227 ⟨by decide, by decide, rfl, rfl, (by decide), (by decide)⟩ (Nat.le_of_ble_eq_true rfl) dX6_shrink_34 hf (fun _ _ _ h => k_X0_keepPart h) (fun _ σ6 hf => ?_)
    refine kx_aload_n K dX6_shrink_37 rfl 1 rfl ?_
    refine kx_gr K f_X6_10 dX6_shrink_38 hf (fun x7 hf => ?_)
    refine kx_cv0i K c_X6_84 ⟨by decide, by decide, rfl, rfl, (by decide), (by decide)⟩ (Nat.le_of_ble_eq_true rfl) dX6_shrink_41 hf (fun _ _ _ h => k_X0_faultCount h) (fun x9 σ8 hf => ?_)
    refine kx_istore_n K [(3, .int x9), (2, .int x3), (0, .ref a0), (1, .int a1)] dX6_shrink_44 rfl (by decide) rfl ?_
    refine kx_iconst (v := 0) K dX6_shrink_45 (by decide) ?_
    refine kx_istore K [(4, .int (0 : Int32)), (3, .int x9), (2, .int x3), (0, .ref a0), (1, .int a1)] dX6_shrink_46 (by decide) rfl ?_
    refine kx_sub [(0, .ref a0), (1, .int a1), (3, .int x9), (4, .int (0 : Int32))] [3, 4, 1, 0] rfl ?_
    exact B48 hN_f _ _ _ hf
  · cases hf
def m_X6_record (σ : ac_H) (a0 : Nat) : Option (Int32 × ac_H) :=
  mo_gr σ a0 6 2 fun x1 =>
  mo_gr σ a0 6 0 fun x2 =>
  mo_cv σ x1 4 (m_X4_play σ x1 x2) fun x4 σ3 =>
  mo_cv σ3 a0 6 (m_X6_remember σ3 a0) fun _ σ5 =>
  mo_gr σ5 a0 6 0 fun x6 =>
  mo_cv σ5 x6 0 (m_X0_recordedStates σ5 x6) fun x8 σ7 =>
  mo_gr σ7 a0 6 2 fun x9 =>
  mo_cv σ7 x9 4 (m_X4_states σ7 x9) fun x11 σ10 =>
  mo_cv σ10 x8 5 (m_X5_addAll σ10 x8 x11) fun x13 σ12 =>
  some (x13, σ12)
set_option maxRecDepth 100000 in
set_option maxHeartbeats 4000000 in
theorem k_X6_record {Λ : ex_L} {q : Nat} {σ σ' : ac_H} {a0 : Nat} {v : Int32} (hf : m_X6_record σ a0 = some (v, σ')) : kx_C Λ yX6_record (.code yX6_record cX6_record 1 (some .int)) ({ frames := 4, cells := 0, slots := 0, locals := 101 } : Room) [.ref a0] q σ (.inr (some (.int v))) σ' (fun z => z = q) := by
  refine kx_in (by decide +kernel) (Nat.le_of_ble_eq_true rfl) ?_
  intro Γ K hnm hsz hQ
  refine kx_lv (lv' := [(0, .ref a0)]) rfl ?_
  unfold m_X6_record at hf
  refine kx_aload_n K dX6_record_0 rfl 0 rfl ?_
  refine kx_gr K f_X6_25 dX6_record_1 hf (fun x1 hf => ?_)
  refine kx_aload_n K dX6_record_4 rfl 0 rfl ?_
  refine kx_gr K f_X6_10 dX6_record_5 hf (fun x2 hf => ?_)
  refine kx_cv1i K c_X6_109 ⟨by decide, by decide, rfl, rfl, (by decide), (by decide)⟩ (Nat.le_of_ble_eq_true rfl) dX6_record_8 hf (fun _ _ _ h => k_X4_play h) (fun x4 σ3 hf => ?_)
  refine kx_pop K dX6_record_11 rfl ?_
  refine kx_aload_n K dX6_record_12 rfl 0 rfl ?_
  refine kx_cv0v K c_X6_213 ⟨by decide, by decide, rfl, rfl, (by decide), (by decide)⟩ (Nat.le_of_ble_eq_true rfl) dX6_record_13 hf (fun _ _ _ h => k_X6_remember h) (fun _ σ5 hf => ?_)
  refine kx_aload_n K dX6_record_16 rfl 0 rfl ?_
  refine kx_gr K f_X6_10 dX6_record_17 hf (fun x6 hf => ?_)
  refine kx_cv0r K c_X6_87 ⟨by decide, by decide, rfl, rfl, (by decide), (by decide)⟩ (Nat.le_of_ble_eq_true rfl) dX6_record_20 hf (fun _ _ _ h => k_X0_recordedStates h) (fun x8 σ7 hf => ?_)
  refine kx_aload_n K dX6_record_23 rfl 0 rfl ?_
  refine kx_gr K f_X6_25 dX6_record_24 hf (fun x9 hf => ?_)
  refine kx_cv0r K c_X6_141 ⟨by decide, by decide, rfl, rfl, (by decide), (by decide)⟩ (Nat.le_of_ble_eq_true rfl) dX6_record_27 hf (fun _ _ _ h => k_X4_states h) (fun x11 σ10 hf => ?_)
  refine kx_cv1i K c_X6_233 ⟨by decide, by decide, rfl, rfl, (by decide), (by decide)⟩ (Nat.le_of_ble_eq_true rfl) dX6_record_30 hf (fun _ _ _ h => k_X5_addAll h) (fun x13 σ12 hf => ?_)
  exact kx_iret K hQ (by decide) (by decide) (fun _ h => h) dX6_record_33 hf

def m_X5_init (σ : ac_H) (a0 : Nat) (q : Nat) : Option (Nat × ac_H) :=
  mo_pv (ac_up σ q (.inl (0, kx_ar 0 9))) a0 5 0 (.ref q) fun σ1 =>
  some ((q + 1), σ1)
set_option maxRecDepth 100000 in
set_option maxHeartbeats 4000000 in
theorem k_X5_init {Λ : ex_L} {q : Nat} {σ σ' : ac_H} {a0 : Nat} {v : Nat} (hf : m_X5_init σ a0 q = some (v, σ')) : kx_C Λ yX5_init (.code yX5_init cX5_init 1 none) ({ frames := 1, cells := 1, slots := 9, locals := 20 } : Room) [.ref a0] q σ (.inr none) σ' (fun z => z = v) := by
  refine kx_in (by decide +kernel) (Nat.le_of_ble_eq_true rfl) ?_
  intro Γ K hnm hsz hQ
  refine kx_lv (lv' := [(0, .ref a0)]) rfl ?_
  unfold m_X5_init at hf
  refine kx_aload_n K dX5_init_0 rfl 0 rfl ?_
  refine kx_oinit K w_44 w_8 w_9 (by decide) (by decide) dX5_init_1 ?_
  refine kx_aload_n K dX5_init_4 rfl 0 rfl ?_
  refine kx_bipush (v := 9) K dX5_init_5 (by decide) ?_
  refine kx_newa (kd := 0) (M := 9) (at9 := .int) K (by decide) rfl w_3 (by decide) (by decide) (by decide) (by decide) dX5_init_7 ?_
  refine kx_putF K f_X5_9 hnm rfl dX5_init_9 rfl rfl hf (fun σ1 hf => ?_)
  exact kx_vretZ K hQ (by decide) (by decide) dX5_init_12 hf
def m_X0_init (σ : ac_H) (a0 : Nat) (q : Nat) : Option (Nat × ac_H) :=
  mo_pv (ac_up σ q (.inl (0, kx_ar 0 8))) a0 0 0 (.ref q) fun σ1 =>
  mo_pv (ac_up σ1 (q + 1) (.inl (0, kx_ar 0 10))) a0 0 1 (.ref (q + 1)) fun σ2 =>
  mo_pv (ac_up σ2 ((q + 1) + 1) (.inl (0, kx_ar 0 10))) a0 0 2 (.ref ((q + 1) + 1)) fun σ3 =>
  mo_pv (ac_up σ3 (((q + 1) + 1) + 1) (.inl (0, kx_ar 0 10))) a0 0 3 (.ref (((q + 1) + 1) + 1)) fun σ4 =>
  mo_pv σ4 a0 0 4 (.int (0 : Int32)) fun σ5 =>
  mo_cs (m_X5_init (ac_up σ5 ((((q + 1) + 1) + 1) + 1) (.inr (5, [.null]))) ((((q + 1) + 1) + 1) + 1) (((((q + 1) + 1) + 1) + 1) + 1)) fun z8 σ7 =>
  mo_pv σ7 a0 0 5 (.ref ((((q + 1) + 1) + 1) + 1)) fun σ9 =>
  some (z8, σ9)
set_option maxRecDepth 100000 in
set_option maxHeartbeats 4000000 in
theorem k_X0_init {Λ : ex_L} {q : Nat} {σ σ' : ac_H} {a0 : Nat} {v : Nat} (hf : m_X0_init σ a0 q = some (v, σ')) : kx_C Λ yX0_init (.code yX0_init cX0_init 1 none) ({ frames := 2, cells := 6, slots := 48, locals := 40 } : Room) [.ref a0] q σ (.inr none) σ' (fun z => z = v) := by
  refine kx_in (by decide +kernel) (Nat.le_of_ble_eq_true rfl) ?_
  intro Γ K hnm hsz hQ
  refine kx_lv (lv' := [(0, .ref a0)]) rfl ?_
  unfold m_X0_init at hf
  refine kx_aload_n K dX0_init_0 rfl 0 rfl ?_
  refine kx_oinit K w_31 w_8 w_9 (by decide) (by decide) dX0_init_1 ?_
  refine kx_aload_n K dX0_init_4 rfl 0 rfl ?_
  refine kx_bipush (v := 8) K dX0_init_5 (by decide) ?_
  refine kx_newa (kd := 0) (M := 8) (at9 := .int) K (by decide) rfl w_3 (by decide) (by decide) (by decide) (by decide) dX0_init_7 ?_
  refine kx_putF K f_X0_9 hnm rfl dX0_init_9 rfl rfl hf (fun σ1 hf => ?_)
  refine kx_aload_n K dX0_init_12 rfl 0 rfl ?_
  refine kx_bipush (v := 10) K dX0_init_13 (by decide) ?_
  refine kx_newa (kd := 0) (M := 10) (at9 := .int) K (by decide) rfl w_3 (by decide) (by decide) (by decide) (by decide) dX0_init_15 ?_
  refine kx_putF K f_X0_15 hnm rfl dX0_init_17 rfl rfl hf (fun σ2 hf => ?_)
  refine kx_aload_n K dX0_init_20 rfl 0 rfl ?_
  refine kx_bipush (v := 10) K dX0_init_21 (by decide) ?_
  refine kx_newa (kd := 0) (M := 10) (at9 := .int) K (by decide) rfl w_3 (by decide) (by decide) (by decide) (by decide) dX0_init_23 ?_
  refine kx_putF K f_X0_18 hnm rfl dX0_init_25 rfl rfl hf (fun σ3 hf => ?_)
  refine kx_aload_n K dX0_init_28 rfl 0 rfl ?_
  refine kx_bipush (v := 10) K dX0_init_29 (by decide) ?_
  refine kx_newa (kd := 0) (M := 10) (at9 := .int) K (by decide) rfl w_3 (by decide) (by decide) (by decide) (by decide) dX0_init_31 ?_
  refine kx_putF K f_X0_21 hnm rfl dX0_init_33 rfl rfl hf (fun σ4 hf => ?_)
  refine kx_aload_n K dX0_init_36 rfl 0 rfl ?_
  refine kx_iconst (v := 0) K dX0_init_37 (by decide) ?_
  refine kx_pi K f_X0_24 dX0_init_38 hf (fun σ5 hf => ?_)
  refine kx_aload_n K dX0_init_41 rfl 0 rfl ?_
  refine kx_new K n_X0_28 (by decide) (by decide) dX0_init_42 ?_
  refine kx_dup K dX0_init_45 rfl ?_
  refine kx_ci (rmy := { frames := 1, cells := 1, slots := 9, locals := 20 }) (k' := 6) (n' := 48) (As := []) K c_X0_30 ⟨by decide, by decide, by show 5 + 1 = 6; omega, by show 39 + 9 = 48; omega, (by decide), (by decide)⟩ rfl rfl (Nat.le_of_ble_eq_true rfl) dX0_init_46 hf (fun _ _ h => k_X5_init h) (fun z8 σ7 hf => ?_)
  refine kx_putF K f_X0_31 hnm rfl dX0_init_49 rfl rfl hf (fun σ9 hf => ?_)
  exact kx_vretZ K hQ (by decide) (by decide) dX0_init_52 hf
def m_X5_removeAll_l2  (a0 : Nat) : Nat → ac_H → Int32 → Option (Unit × ac_H)
  | 0, _, _ => none
  | n + 1, σ2, v1 =>
    if v1 < (9 : Int32) then
    (mo_gr σ2 a0 5 0 fun x3 =>
    mo_ui σ2 x3 0 v1 (0 : Int32) fun σ4 =>
    m_X5_removeAll_l2 a0 n σ4 (v1 + 1))
    else
    (some ((), σ2))
def m_X5_removeAll (σ : ac_H) (a0 : Nat) : Option (Unit × ac_H) :=
  m_X5_removeAll_l2 a0 hN_f σ (0 : Int32)
set_option maxRecDepth 100000 in
set_option maxHeartbeats 4000000 in
theorem k_X5_removeAll {Λ : ex_L} {q : Nat} {σ σ' : ac_H} {a0 : Nat} {v : Unit} (hf : m_X5_removeAll σ a0 = some (v, σ')) : kx_C Λ yX5_removeAll (.code yX5_removeAll cX5_removeAll 2 none) ({ frames := 0, cells := 0, slots := 0, locals := 0 } : Room) [.ref a0] q σ (.inr none) σ' (fun z => z = q) := by
  refine kx_in (by decide +kernel) (Nat.le_of_ble_eq_true rfl) ?_
  intro Γ K hnm hsz hQ
  refine kx_lv (lv' := [(0, .ref a0)]) rfl ?_
  have B2 : ∀ (n2 : Nat) (σ2 : ac_H) (v1 : Int32), m_X5_removeAll_l2 a0 n2 σ2 v1 = some (v, σ') → kx_S Λ Γ 2 (fun z => z = q) σ2 (0) (0) 2 [(0, .ref a0), (1, .int v1)] [] := by
    intro n2
    induction n2 with
    | zero =>
      intro σ2 v1 hf
      rw [m_X5_removeAll_l2] at hf
      cases hf
    | succ n2 ih2 =>
      intro σ2 v1 hf
      rw [m_X5_removeAll_l2] at hf
      refine kx_iload_n K dX5_removeAll_2 rfl 1 rfl ?_
      refine kx_bipush (v := 9) K dX5_removeAll_3 (by decide) ?_
      refine kx_icmp_ge K 21 hf dX5_removeAll_5 (by decide) (fun hf => ?_) (fun hf => ?_)
      · exact kx_vret K hQ (by decide) (by decide) (fun _ h => h) dX5_removeAll_21 hf
      · refine kx_aload_n K dX5_removeAll_8 rfl 0 rfl ?_
        refine kx_gr K f_X5_9 dX5_removeAll_9 hf (fun x3 hf => ?_)
        refine kx_iload_n K dX5_removeAll_12 rfl 1 rfl ?_
        refine kx_iconst (v := 0) K dX5_removeAll_13 (by decide) ?_
        refine kx_ui K dX5_removeAll_14 hf (fun σ4 hf => ?_)
        refine kx_iinc (v := (v1 + 1)) K [(1, .int (v1 + 1)), (0, .ref a0)] dX5_removeAll_15 1 rfl rfl (by decide) rfl ?_
        refine kx_goto K 2 dX5_removeAll_18 (by decide) ?_
        refine kx_sub [(0, .ref a0), (1, .int (v1 + 1))] [1, 0] rfl ?_
        exact ih2 _ _ hf
  unfold m_X5_removeAll at hf
  refine kx_iconst (v := 0) K dX5_removeAll_0 (by decide) ?_
  refine kx_istore_n K [(1, .int (0 : Int32)), (0, .ref a0)] dX5_removeAll_1 rfl (by decide) rfl ?_
  refine kx_sub [(0, .ref a0), (1, .int (0 : Int32))] [1, 0] rfl ?_
  exact B2 hN_f _ _ hf
def m_X0_begin_l2  (a0 : Nat) : Nat → ac_H → Int32 → Option (Unit × ac_H)
  | 0, _, _ => none
  | n + 1, σ2, v1 =>
    if v1 < (8 : Int32) then
    (mo_gr σ2 a0 0 0 fun x6 =>
    mo_t 0 v1 fun x7 =>
    mo_ui σ2 x6 0 v1 x7 fun σ8 =>
    m_X0_begin_l2 a0 n σ8 (v1 + 1))
    else
    (mo_pv σ2 a0 0 4 (.int (0 : Int32)) fun σ3 =>
    mo_gr σ3 a0 0 5 fun x4 =>
    mo_cv σ3 x4 5 (m_X5_removeAll σ3 x4) fun _ σ5 =>
    some ((), σ5))
def m_X0_begin (σ : ac_H) (a0 : Nat) : Option (Unit × ac_H) :=
  m_X0_begin_l2 a0 hN_f σ (0 : Int32)
set_option maxRecDepth 100000 in
set_option maxHeartbeats 4000000 in
theorem k_X0_begin {Λ : ex_L} {q : Nat} {σ σ' : ac_H} {a0 : Nat} {v : Unit} (hf : m_X0_begin σ a0 = some (v, σ')) : kx_C Λ yX0_begin (.code yX0_begin cX0_begin 2 none) ({ frames := 1, cells := 0, slots := 0, locals := 21 } : Room) [.ref a0] q σ (.inr none) σ' (fun z => z = q) := by
  refine kx_in (by decide +kernel) (Nat.le_of_ble_eq_true rfl) ?_
  intro Γ K hnm hsz hQ
  refine kx_lv (lv' := [(0, .ref a0)]) rfl ?_
  have B2 : ∀ (n2 : Nat) (σ2 : ac_H) (v1 : Int32), m_X0_begin_l2 a0 n2 σ2 v1 = some (v, σ') → kx_S Λ Γ 2 (fun z => z = q) σ2 (0) (0) 2 [(0, .ref a0), (1, .int v1)] [] := by
    intro n2
    induction n2 with
    | zero =>
      intro σ2 v1 hf
      rw [m_X0_begin_l2] at hf
      cases hf
    | succ n2 ih2 =>
      intro σ2 v1 hf
      rw [m_X0_begin_l2] at hf
      refine kx_iload_n K dX0_begin_2 rfl 1 rfl ?_
      refine kx_bipush (v := 8) K dX0_begin_3 (by decide) ?_
      refine kx_icmp_ge K 25 hf dX0_begin_5 (by decide) (fun hf => ?_) (fun hf => ?_)
      · refine kx_aload_n K dX0_begin_25 rfl 0 rfl ?_
        refine kx_iconst (v := 0) K dX0_begin_26 (by decide) ?_
        refine kx_pi K f_X0_24 dX0_begin_27 hf (fun σ3 hf => ?_)
        refine kx_aload_n K dX0_begin_30 rfl 0 rfl ?_
        refine kx_gr K f_X0_31 dX0_begin_31 hf (fun x4 hf => ?_)
        refine kx_cv0v K c_X0_38 ⟨by decide, by decide, rfl, rfl, (by decide), (by decide)⟩ (Nat.le_of_ble_eq_true rfl) dX0_begin_34 hf (fun _ _ _ h => k_X5_removeAll h) (fun _ σ5 hf => ?_)
        exact kx_vret K hQ (by decide) (by decide) (fun _ h => h) dX0_begin_37 hf
      · refine kx_aload_n K dX0_begin_8 rfl 0 rfl ?_
        refine kx_gr K f_X0_9 dX0_begin_9 hf (fun x6 hf => ?_)
        refine kx_iload_n K dX0_begin_12 rfl 1 rfl ?_
        refine kx_gsN K 0 (by decide) (K.2.2.2.2.2.1.1.2.2.2.2.1 0 (by decide)) dX0_begin_13 ?_
        refine kx_iload_n K dX0_begin_16 rfl 1 rfl ?_
        refine kx_ti K 0 (by decide) dX0_begin_17 hf (fun x7 hf => ?_)
        refine kx_ui K dX0_begin_18 hf (fun σ8 hf => ?_)
        refine kx_iinc (v := (v1 + 1)) K [(1, .int (v1 + 1)), (0, .ref a0)] dX0_begin_19 1 rfl rfl (by decide) rfl ?_
        refine kx_goto K 2 dX0_begin_22 (by decide) ?_
        refine kx_sub [(0, .ref a0), (1, .int (v1 + 1))] [1, 0] rfl ?_
        exact ih2 _ _ hf
  unfold m_X0_begin at hf
  refine kx_iconst (v := 0) K dX0_begin_0 (by decide) ?_
  refine kx_istore_n K [(1, .int (0 : Int32)), (0, .ref a0)] dX0_begin_1 rfl (by decide) rfl ?_
  refine kx_sub [(0, .ref a0), (1, .int (0 : Int32))] [1, 0] rfl ?_
  exact B2 hN_f _ _ hf
def m_X0_takePart_l31  (a0 : Nat) (a1 : Nat) (a2 : Int32) : Nat → ac_H → Int32 → Int32 → Option (Unit × ac_H)
  | 0, _, _, _ => none
  | n + 1, σ9, v7, v8 =>
    if v8 < (10 : Int32) then
    (mo_gi σ9 a1 0 4 fun x11 =>
    if v8 < x11 then
    (if ((a2 >>> (v8 &&& 31)) &&& (1 : Int32)) = 0 then
    (m_X0_takePart_l31 a0 a1 a2 n σ9 v7 (v8 + 1))
    else
    (if v7 < (10 : Int32) then
    (mo_gr σ9 a0 0 1 fun x13 =>
    mo_gr σ9 a1 0 1 fun x14 =>
    mo_ai σ9 x14 0 v8 fun x15 =>
    mo_ui σ9 x13 0 v7 x15 fun σ16 =>
    mo_gr σ16 a0 0 2 fun x17 =>
    mo_gr σ16 a1 0 2 fun x18 =>
    mo_ai σ16 x18 0 v8 fun x19 =>
    mo_ui σ16 x17 0 v7 x19 fun σ20 =>
    mo_gr σ20 a0 0 3 fun x21 =>
    mo_gr σ20 a1 0 3 fun x22 =>
    mo_ai σ20 x22 0 v8 fun x23 =>
    mo_ui σ20 x21 0 v7 x23 fun σ24 =>
    m_X0_takePart_l31 a0 a1 a2 n σ24 (v7 + 1) (v8 + 1))
    else
    (m_X0_takePart_l31 a0 a1 a2 n σ9 v7 (v8 + 1))))
    else
    (mo_pv σ9 a0 0 4 (.int v7) fun σ12 =>
    some ((), σ12)))
    else
    (mo_pv σ9 a0 0 4 (.int v7) fun σ10 =>
    some ((), σ10))
def m_X0_takePart_l2  (a0 : Nat) (a1 : Nat) (a2 : Int32) : Nat → ac_H → Int32 → Option (Unit × ac_H)
  | 0, _, _ => none
  | n + 1, σ2, v1 =>
    if v1 < (8 : Int32) then
    (mo_gr σ2 a0 0 0 fun x3 =>
    mo_gr σ2 a1 0 0 fun x4 =>
    mo_ai σ2 x4 0 v1 fun x5 =>
    mo_ui σ2 x3 0 v1 x5 fun σ6 =>
    m_X0_takePart_l2 a0 a1 a2 n σ6 (v1 + 1))
    else
    (m_X0_takePart_l31 a0 a1 a2 hN_f σ2 (0 : Int32) (0 : Int32))
def m_X0_takePart (σ : ac_H) (a0 : Nat) (a1 : Nat) (a2 : Int32) : Option (Unit × ac_H) :=
  m_X0_takePart_l2 a0 a1 a2 hN_f σ (0 : Int32)
set_option maxRecDepth 100000 in
set_option maxHeartbeats 4000000 in
theorem k_X0_takePart {Λ : ex_L} {q : Nat} {σ σ' : ac_H} {a0 : Nat} {a1 : Nat} {a2 : Int32} {v : Unit} (hf : m_X0_takePart σ a0 a1 a2 = some (v, σ')) : kx_C Λ yX0_takePart (.code yX0_takePart cX0_takePart 5 none) ({ frames := 0, cells := 0, slots := 0, locals := 0 } : Room) [.ref a0, .ref a1, .int a2] q σ (.inr none) σ' (fun z => z = q) := by
  refine kx_in (by decide +kernel) (Nat.le_of_ble_eq_true rfl) ?_
  intro Γ K hnm hsz hQ
  refine kx_lv (lv' := [(0, .ref a0), (1, .ref a1), (2, .int a2)]) rfl ?_
  have B31 : ∀ (n31 : Nat) (σ9 : ac_H) (v7 : Int32) (v8 : Int32), m_X0_takePart_l31 a0 a1 a2 n31 σ9 v7 v8 = some (v, σ') → kx_S Λ Γ 5 (fun z => z = q) σ9 (0) (0) 31 [(0, .ref a0), (1, .ref a1), (2, .int a2), (3, .int v7), (4, .int v8)] [] := by
    intro n31
    induction n31 with
    | zero =>
      intro σ9 v7 v8 hf
      rw [m_X0_takePart_l31] at hf
      cases hf
    | succ n31 ih31 =>
      intro σ9 v7 v8 hf
      rw [m_X0_takePart_l31] at hf
      refine kx_iload K dX0_takePart_31 4 rfl ?_
      refine kx_bipush (v := 10) K dX0_takePart_33 (by decide) ?_
      refine kx_icmp_ge K 110 hf dX0_takePart_35 (by decide) (fun hf => ?_) (fun hf => ?_)
      · refine kx_aload_n K dX0_takePart_110 rfl 0 rfl ?_
        refine kx_iload_n K dX0_takePart_111 rfl 3 rfl ?_
        refine kx_pi K f_X0_24 dX0_takePart_112 hf (fun σ10 hf => ?_)
        exact kx_vret K hQ (by decide) (by decide) (fun _ h => h) dX0_takePart_115 hf
      · refine kx_iload K dX0_takePart_38 4 rfl ?_
        refine kx_aload_n K dX0_takePart_40 rfl 1 rfl ?_
        refine kx_gi K f_X0_24 dX0_takePart_41 hf (fun x11 hf => ?_)
        refine kx_icmp_ge K 110 hf dX0_takePart_44 (by decide) (fun hf => ?_) (fun hf => ?_)
        · refine kx_aload_n K dX0_takePart_110 rfl 0 rfl ?_
          refine kx_iload_n K dX0_takePart_111 rfl 3 rfl ?_
          refine kx_pi K f_X0_24 dX0_takePart_112 hf (fun σ12 hf => ?_)
          exact kx_vret K hQ (by decide) (by decide) (fun _ h => h) dX0_takePart_115 hf
        · refine kx_iload_n K dX0_takePart_47 rfl 2 rfl ?_
          refine kx_iload K dX0_takePart_48 4 rfl ?_
          refine kx_ishr K dX0_takePart_50 ?_
          refine kx_iconst (v := 1) K dX0_takePart_51 (by decide) ?_
          refine kx_iand K dX0_takePart_52 ?_
          refine kx_if_eq K 104 hf dX0_takePart_53 (by decide) (fun hf => ?_) (fun hf => ?_)
          · refine kx_iinc (v := (v8 + 1)) K [(4, .int (v8 + 1)), (0, .ref a0), (1, .ref a1), (2, .int a2), (3, .int v7)] dX0_takePart_104 4 rfl rfl (by decide) rfl ?_
            refine kx_goto K 31 dX0_takePart_107 (by decide) ?_
            refine kx_sub [(0, .ref a0), (1, .ref a1), (2, .int a2), (3, .int v7), (4, .int (v8 + 1))] [1, 2, 3, 4, 0] rfl ?_
            exact ih31 _ _ _ hf
          · refine kx_iload_n K dX0_takePart_56 rfl 3 rfl ?_
            refine kx_bipush (v := 10) K dX0_takePart_57 (by decide) ?_
            refine kx_icmp_ge K 104 hf dX0_takePart_59 (by decide) (fun hf => ?_) (fun hf => ?_)
            · refine kx_iinc (v := (v8 + 1)) K [(4, .int (v8 + 1)), (0, .ref a0), (1, .ref a1), (2, .int a2), (3, .int v7)] dX0_takePart_104 4 rfl rfl (by decide) rfl ?_
              refine kx_goto K 31 dX0_takePart_107 (by decide) ?_
              refine kx_sub [(0, .ref a0), (1, .ref a1), (2, .int a2), (3, .int v7), (4, .int (v8 + 1))] [1, 2, 3, 4, 0] rfl ?_
              exact ih31 _ _ _ hf
            · refine kx_aload_n K dX0_takePart_62 rfl 0 rfl ?_
              refine kx_gr K f_X0_15 dX0_takePart_63 hf (fun x13 hf => ?_)
              refine kx_iload_n K dX0_takePart_66 rfl 3 rfl ?_
              refine kx_aload_n K dX0_takePart_67 rfl 1 rfl ?_
              refine kx_gr K f_X0_15 dX0_takePart_68 hf (fun x14 hf => ?_)
              refine kx_iload K dX0_takePart_71 4 rfl ?_
              refine kx_ai K dX0_takePart_73 hf (fun x15 hf => ?_)
              refine kx_ui K dX0_takePart_74 hf (fun σ16 hf => ?_)
              refine kx_aload_n K dX0_takePart_75 rfl 0 rfl ?_
              refine kx_gr K f_X0_18 dX0_takePart_76 hf (fun x17 hf => ?_)
              refine kx_iload_n K dX0_takePart_79 rfl 3 rfl ?_
              refine kx_aload_n K dX0_takePart_80 rfl 1 rfl ?_
              refine kx_gr K f_X0_18 dX0_takePart_81 hf (fun x18 hf => ?_)
              refine kx_iload K dX0_takePart_84 4 rfl ?_
              refine kx_ai K dX0_takePart_86 hf (fun x19 hf => ?_)
              refine kx_ui K dX0_takePart_87 hf (fun σ20 hf => ?_)
              refine kx_aload_n K dX0_takePart_88 rfl 0 rfl ?_
              refine kx_gr K f_X0_21 dX0_takePart_89 hf (fun x21 hf => ?_)
              refine kx_iload_n K dX0_takePart_92 rfl 3 rfl ?_
              refine kx_aload_n K dX0_takePart_93 rfl 1 rfl ?_
              refine kx_gr K f_X0_21 dX0_takePart_94 hf (fun x22 hf => ?_)
              refine kx_iload K dX0_takePart_97 4 rfl ?_
              refine kx_ai K dX0_takePart_99 hf (fun x23 hf => ?_)
              refine kx_ui K dX0_takePart_100 hf (fun σ24 hf => ?_)
              refine kx_iinc (v := (v7 + 1)) K [(3, .int (v7 + 1)), (0, .ref a0), (1, .ref a1), (2, .int a2), (4, .int v8)] dX0_takePart_101 3 rfl rfl (by decide) rfl ?_
              refine kx_iinc (v := (v8 + 1)) K [(4, .int (v8 + 1)), (3, .int (v7 + 1)), (0, .ref a0), (1, .ref a1), (2, .int a2)] dX0_takePart_104 4 rfl rfl (by decide) rfl ?_
              refine kx_goto K 31 dX0_takePart_107 (by decide) ?_
              refine kx_sub [(0, .ref a0), (1, .ref a1), (2, .int a2), (3, .int (v7 + 1)), (4, .int (v8 + 1))] [2, 3, 4, 1, 0] rfl ?_
              exact ih31 _ _ _ hf
  have B2 : ∀ (n2 : Nat) (σ2 : ac_H) (v1 : Int32), m_X0_takePart_l2 a0 a1 a2 n2 σ2 v1 = some (v, σ') → kx_S Λ Γ 5 (fun z => z = q) σ2 (0) (0) 2 [(0, .ref a0), (1, .ref a1), (2, .int a2), (3, .int v1)] [] := by
    intro n2
    induction n2 with
    | zero =>
      intro σ2 v1 hf
      rw [m_X0_takePart_l2] at hf
      cases hf
    | succ n2 ih2 =>
      intro σ2 v1 hf
      rw [m_X0_takePart_l2] at hf
      refine kx_iload_n K dX0_takePart_2 rfl 3 rfl ?_
      refine kx_bipush (v := 8) K dX0_takePart_3 (by decide) ?_
      refine kx_icmp_ge K 26 hf dX0_takePart_5 (by decide) (fun hf => ?_) (fun hf => ?_)
      · refine kx_iconst (v := 0) K dX0_takePart_26 (by decide) ?_
        refine kx_istore_n K [(3, .int (0 : Int32)), (0, .ref a0), (1, .ref a1), (2, .int a2)] dX0_takePart_27 rfl (by decide) rfl ?_
        refine kx_iconst (v := 0) K dX0_takePart_28 (by decide) ?_
        refine kx_istore K [(4, .int (0 : Int32)), (3, .int (0 : Int32)), (0, .ref a0), (1, .ref a1), (2, .int a2)] dX0_takePart_29 (by decide) rfl ?_
        refine kx_sub [(0, .ref a0), (1, .ref a1), (2, .int a2), (3, .int (0 : Int32)), (4, .int (0 : Int32))] [2, 3, 4, 1, 0] rfl ?_
        exact B31 hN_f _ _ _ hf
      · refine kx_aload_n K dX0_takePart_8 rfl 0 rfl ?_
        refine kx_gr K f_X0_9 dX0_takePart_9 hf (fun x3 hf => ?_)
        refine kx_iload_n K dX0_takePart_12 rfl 3 rfl ?_
        refine kx_aload_n K dX0_takePart_13 rfl 1 rfl ?_
        refine kx_gr K f_X0_9 dX0_takePart_14 hf (fun x4 hf => ?_)
        refine kx_iload_n K dX0_takePart_17 rfl 3 rfl ?_
        refine kx_ai K dX0_takePart_18 hf (fun x5 hf => ?_)
        refine kx_ui K dX0_takePart_19 hf (fun σ6 hf => ?_)
        refine kx_iinc (v := (v1 + 1)) K [(3, .int (v1 + 1)), (0, .ref a0), (1, .ref a1), (2, .int a2)] dX0_takePart_20 3 rfl rfl (by decide) rfl ?_
        refine kx_goto K 2 dX0_takePart_23 (by decide) ?_
        refine kx_sub [(0, .ref a0), (1, .ref a1), (2, .int a2), (3, .int (v1 + 1))] [1, 2, 3, 0] rfl ?_
        exact ih2 _ _ hf
  unfold m_X0_takePart at hf
  refine kx_iconst (v := 0) K dX0_takePart_0 (by decide) ?_
  refine kx_istore_n K [(3, .int (0 : Int32)), (0, .ref a0), (1, .ref a1), (2, .int a2)] dX0_takePart_1 rfl (by decide) rfl ?_
  refine kx_sub [(0, .ref a0), (1, .ref a1), (2, .int a2), (3, .int (0 : Int32))] [1, 2, 3, 0] rfl ?_
  exact B2 hN_f _ _ hf
def m_X5_takeAll_l2  (a0 : Nat) (a1 : Nat) : Nat → ac_H → Int32 → Option (Unit × ac_H)
  | 0, _, _ => none
  | n + 1, σ2, v1 =>
    if v1 < (9 : Int32) then
    (mo_gr σ2 a0 5 0 fun x3 =>
    mo_gr σ2 a1 5 0 fun x4 =>
    mo_ai σ2 x4 0 v1 fun x5 =>
    mo_ui σ2 x3 0 v1 x5 fun σ6 =>
    m_X5_takeAll_l2 a0 a1 n σ6 (v1 + 1))
    else
    (some ((), σ2))
def m_X5_takeAll (σ : ac_H) (a0 : Nat) (a1 : Nat) : Option (Unit × ac_H) :=
  m_X5_takeAll_l2 a0 a1 hN_f σ (0 : Int32)
set_option maxRecDepth 100000 in
set_option maxHeartbeats 4000000 in
theorem k_X5_takeAll {Λ : ex_L} {q : Nat} {σ σ' : ac_H} {a0 : Nat} {a1 : Nat} {v : Unit} (hf : m_X5_takeAll σ a0 a1 = some (v, σ')) : kx_C Λ yX5_takeAll (.code yX5_takeAll cX5_takeAll 3 none) ({ frames := 0, cells := 0, slots := 0, locals := 0 } : Room) [.ref a0, .ref a1] q σ (.inr none) σ' (fun z => z = q) := by
  refine kx_in (by decide +kernel) (Nat.le_of_ble_eq_true rfl) ?_
  intro Γ K hnm hsz hQ
  refine kx_lv (lv' := [(0, .ref a0), (1, .ref a1)]) rfl ?_
  have B2 : ∀ (n2 : Nat) (σ2 : ac_H) (v1 : Int32), m_X5_takeAll_l2 a0 a1 n2 σ2 v1 = some (v, σ') → kx_S Λ Γ 3 (fun z => z = q) σ2 (0) (0) 2 [(0, .ref a0), (1, .ref a1), (2, .int v1)] [] := by
    intro n2
    induction n2 with
    | zero =>
      intro σ2 v1 hf
      rw [m_X5_takeAll_l2] at hf
      cases hf
    | succ n2 ih2 =>
      intro σ2 v1 hf
      rw [m_X5_takeAll_l2] at hf
      refine kx_iload_n K dX5_takeAll_2 rfl 2 rfl ?_
      refine kx_bipush (v := 9) K dX5_takeAll_3 (by decide) ?_
      refine kx_icmp_ge K 26 hf dX5_takeAll_5 (by decide) (fun hf => ?_) (fun hf => ?_)
      · exact kx_vret K hQ (by decide) (by decide) (fun _ h => h) dX5_takeAll_26 hf
      · refine kx_aload_n K dX5_takeAll_8 rfl 0 rfl ?_
        refine kx_gr K f_X5_9 dX5_takeAll_9 hf (fun x3 hf => ?_)
        refine kx_iload_n K dX5_takeAll_12 rfl 2 rfl ?_
        refine kx_aload_n K dX5_takeAll_13 rfl 1 rfl ?_
        refine kx_gr K f_X5_9 dX5_takeAll_14 hf (fun x4 hf => ?_)
        refine kx_iload_n K dX5_takeAll_17 rfl 2 rfl ?_
        refine kx_ai K dX5_takeAll_18 hf (fun x5 hf => ?_)
        refine kx_ui K dX5_takeAll_19 hf (fun σ6 hf => ?_)
        refine kx_iinc (v := (v1 + 1)) K [(2, .int (v1 + 1)), (0, .ref a0), (1, .ref a1)] dX5_takeAll_20 2 rfl rfl (by decide) rfl ?_
        refine kx_goto K 2 dX5_takeAll_23 (by decide) ?_
        refine kx_sub [(0, .ref a0), (1, .ref a1), (2, .int (v1 + 1))] [1, 2, 0] rfl ?_
        exact ih2 _ _ hf
  unfold m_X5_takeAll at hf
  refine kx_iconst (v := 0) K dX5_takeAll_0 (by decide) ?_
  refine kx_istore_n K [(2, .int (0 : Int32)), (0, .ref a0), (1, .ref a1)] dX5_takeAll_1 rfl (by decide) rfl ?_
  refine kx_sub [(0, .ref a0), (1, .ref a1), (2, .int (0 : Int32))] [1, 2, 0] rfl ?_
  exact B2 hN_f _ _ hf
def m_X0_takeAll (σ : ac_H) (a0 : Nat) (a1 : Nat) : Option (Unit × ac_H) :=
  mo_cv σ a0 0 (m_X0_takePart σ a0 a1 (-1 : Int32)) fun _ σ1 =>
  mo_gr σ1 a0 0 5 fun x2 =>
  mo_gr σ1 a1 0 5 fun x3 =>
  mo_cv σ1 x2 5 (m_X5_takeAll σ1 x2 x3) fun _ σ4 =>
  some ((), σ4)
set_option maxRecDepth 100000 in
set_option maxHeartbeats 4000000 in
theorem k_X0_takeAll {Λ : ex_L} {q : Nat} {σ σ' : ac_H} {a0 : Nat} {a1 : Nat} {v : Unit} (hf : m_X0_takeAll σ a0 a1 = some (v, σ')) : kx_C Λ yX0_takeAll (.code yX0_takeAll cX0_takeAll 2 none) ({ frames := 1, cells := 0, slots := 0, locals := 24 } : Room) [.ref a0, .ref a1] q σ (.inr none) σ' (fun z => z = q) := by
  refine kx_in (by decide +kernel) (Nat.le_of_ble_eq_true rfl) ?_
  intro Γ K hnm hsz hQ
  refine kx_lv (lv' := [(0, .ref a0), (1, .ref a1)]) rfl ?_
  unfold m_X0_takeAll at hf
  refine kx_aload_n K dX0_takeAll_0 rfl 0 rfl ?_
  refine kx_aload_n K dX0_takeAll_1 rfl 1 rfl ?_
  refine kx_iconst (v := -1) K dX0_takeAll_2 (by decide) ?_
  refine kx_cv2v K c_X0_41 ⟨by decide, by decide, rfl, rfl, (by decide), (by decide)⟩ (Nat.le_of_ble_eq_true rfl) dX0_takeAll_3 hf (fun _ _ _ h => k_X0_takePart h) (fun _ σ1 hf => ?_)
  refine kx_aload_n K dX0_takeAll_6 rfl 0 rfl ?_
  refine kx_gr K f_X0_31 dX0_takeAll_7 hf (fun x2 hf => ?_)
  refine kx_aload_n K dX0_takeAll_10 rfl 1 rfl ?_
  refine kx_gr K f_X0_31 dX0_takeAll_11 hf (fun x3 hf => ?_)
  refine kx_cv1v K c_X0_45 ⟨by decide, by decide, rfl, rfl, (by decide), (by decide)⟩ (Nat.le_of_ble_eq_true rfl) dX0_takeAll_14 hf (fun _ _ _ h => k_X5_takeAll h) (fun _ σ4 hf => ?_)
  exact kx_vret K hQ (by decide) (by decide) (fun _ h => h) dX0_takeAll_17 hf
def m_X0_keepPart (σ : ac_H) (a0 : Nat) (a1 : Int32) : Option (Unit × ac_H) :=
  mo_cv σ a0 0 (m_X0_takePart σ a0 a0 a1) fun _ σ1 =>
  some ((), σ1)
set_option maxRecDepth 100000 in
set_option maxHeartbeats 4000000 in
theorem k_X0_keepPart {Λ : ex_L} {q : Nat} {σ σ' : ac_H} {a0 : Nat} {a1 : Int32} {v : Unit} (hf : m_X0_keepPart σ a0 a1 = some (v, σ')) : kx_C Λ yX0_keepPart (.code yX0_keepPart cX0_keepPart 2 none) ({ frames := 1, cells := 0, slots := 0, locals := 24 } : Room) [.ref a0, .int a1] q σ (.inr none) σ' (fun z => z = q) := by
  refine kx_in (by decide +kernel) (Nat.le_of_ble_eq_true rfl) ?_
  intro Γ K hnm hsz hQ
  refine kx_lv (lv' := [(0, .ref a0), (1, .int a1)]) rfl ?_
  unfold m_X0_keepPart at hf
  refine kx_aload_n K dX0_keepPart_0 rfl 0 rfl ?_
  refine kx_aload_n K dX0_keepPart_1 rfl 0 rfl ?_
  refine kx_iload_n K dX0_keepPart_2 rfl 1 rfl ?_
  refine kx_cv2v K c_X0_41 ⟨by decide, by decide, rfl, rfl, (by decide), (by decide)⟩ (Nat.le_of_ble_eq_true rfl) dX0_keepPart_3 hf (fun _ _ _ h => k_X0_takePart h) (fun _ σ1 hf => ?_)
  exact kx_vret K hQ (by decide) (by decide) (fun _ h => h) dX0_keepPart_6 hf
def m_X0_insert_l84  (a0 : Nat) (a1 : Int32) (a2 : Int32) (a3 : Int32) : Nat → ac_H → Int32 → Int32 → Option (Int32 × ac_H)
  | 0, _, _, _ => none
  | n + 1, σ16, v14, v15 =>
    if v14 < v15 then
    (mo_gr σ16 a0 0 1 fun x25 =>
    mo_gr σ16 a0 0 1 fun x26 =>
    mo_ai σ16 x26 0 (v15 - (1 : Int32)) fun x27 =>
    mo_ui σ16 x25 0 v15 x27 fun σ28 =>
    mo_gr σ28 a0 0 2 fun x29 =>
    mo_gr σ28 a0 0 2 fun x30 =>
    mo_ai σ28 x30 0 (v15 - (1 : Int32)) fun x31 =>
    mo_ui σ28 x29 0 v15 x31 fun σ32 =>
    mo_gr σ32 a0 0 3 fun x33 =>
    mo_gr σ32 a0 0 3 fun x34 =>
    mo_ai σ32 x34 0 (v15 - (1 : Int32)) fun x35 =>
    mo_ui σ32 x33 0 v15 x35 fun σ36 =>
    m_X0_insert_l84 a0 a1 a2 a3 n σ36 v14 (v15 + (-1)))
    else
    (mo_gr σ16 a0 0 1 fun x17 =>
    mo_ui σ16 x17 0 v14 a1 fun σ18 =>
    mo_gr σ18 a0 0 2 fun x19 =>
    mo_ui σ18 x19 0 v14 a2 fun σ20 =>
    mo_gr σ20 a0 0 3 fun x21 =>
    mo_ui σ20 x21 0 v14 a3 fun σ22 =>
    mo_gi σ22 a0 0 4 fun x23 =>
    mo_pv σ22 a0 0 4 (.int (x23 + (1 : Int32))) fun σ24 =>
    some (v14, σ24))
def m_X0_insert_l24  (a0 : Nat) (a1 : Int32) (a2 : Int32) (a3 : Int32) : Nat → ac_H → Int32 → Int32 → Option (Int32 × ac_H)
  | 0, _, _, _ => none
  | n + 1, σ5, v3, v4 =>
    mo_gi σ5 a0 0 4 fun x6 =>
    if v4 < x6 then
    (mo_gr σ5 a0 0 2 fun x8 =>
    mo_ai σ5 x8 0 v4 fun x9 =>
    if x9 < a2 then
    (m_X0_insert_l24 a0 a1 a2 a3 n σ5 (v4 + (1 : Int32)) (v4 + 1))
    else
    (mo_gr σ5 a0 0 2 fun x10 =>
    mo_ai σ5 x10 0 v4 fun x11 =>
    if x11 = a2 then
    (mo_gr σ5 a0 0 1 fun x12 =>
    mo_ai σ5 x12 0 v4 fun x13 =>
    if x13 < a1 then
    (m_X0_insert_l24 a0 a1 a2 a3 n σ5 (v4 + (1 : Int32)) (v4 + 1))
    else
    (m_X0_insert_l24 a0 a1 a2 a3 n σ5 v3 (v4 + 1)))
    else
    (m_X0_insert_l24 a0 a1 a2 a3 n σ5 v3 (v4 + 1))))
    else
    (mo_gi σ5 a0 0 4 fun x7 =>
    m_X0_insert_l84 a0 a1 a2 a3 hN_f σ5 v3 x7)
def m_X0_insert (σ : ac_H) (a0 : Nat) (a1 : Int32) (a2 : Int32) (a3 : Int32) : Option (Int32 × ac_H) :=
  mo_gi σ a0 0 4 fun x1 =>
  if x1 < 0 then
  (some ((-1 : Int32), σ))
  else
  (mo_gi σ a0 0 4 fun x2 =>
  if x2 < (10 : Int32) then
  (m_X0_insert_l24 a0 a1 a2 a3 hN_f σ (0 : Int32) (0 : Int32))
  else
  (some ((-1 : Int32), σ)))
set_option maxRecDepth 100000 in
set_option maxHeartbeats 4000000 in
theorem k_X0_insert {Λ : ex_L} {q : Nat} {σ σ' : ac_H} {a0 : Nat} {a1 : Int32} {a2 : Int32} {a3 : Int32} {v : Int32} (hf : m_X0_insert σ a0 a1 a2 a3 = some (v, σ')) : kx_C Λ yX0_insert (.code yX0_insert cX0_insert 6 (some .int)) ({ frames := 0, cells := 0, slots := 0, locals := 0 } : Room) [.ref a0, .int a1, .int a2, .int a3] q σ (.inr (some (.int v))) σ' (fun z => z = q) := by
  refine kx_in (by decide +kernel) (Nat.le_of_ble_eq_true rfl) ?_
  intro Γ K hnm hsz hQ
  refine kx_lv (lv' := [(0, .ref a0), (1, .int a1), (2, .int a2), (3, .int a3)]) rfl ?_
  have B84 : ∀ (n84 : Nat) (σ16 : ac_H) (v14 : Int32) (v15 : Int32), m_X0_insert_l84 a0 a1 a2 a3 n84 σ16 v14 v15 = some (v, σ') → kx_S Λ Γ 6 (fun z => z = q) σ16 (0) (0) 84 [(0, .ref a0), (1, .int a1), (2, .int a2), (3, .int a3), (4, .int v14), (5, .int v15)] [] := by
    intro n84
    induction n84 with
    | zero =>
      intro σ16 v14 v15 hf
      rw [m_X0_insert_l84] at hf
      cases hf
    | succ n84 ih84 =>
      intro σ16 v14 v15 hf
      rw [m_X0_insert_l84] at hf
      refine kx_iload K dX0_insert_84 5 rfl ?_
      refine kx_iload K dX0_insert_86 4 rfl ?_
      refine kx_icmp_le K 145 hf dX0_insert_88 (by decide) (fun hf => ?_) (fun hf => ?_)
      · refine kx_aload_n K dX0_insert_145 rfl 0 rfl ?_
        refine kx_gr K f_X0_15 dX0_insert_146 hf (fun x17 hf => ?_)
        refine kx_iload K dX0_insert_149 4 rfl ?_
        refine kx_iload_n K dX0_insert_151 rfl 1 rfl ?_
        refine kx_ui K dX0_insert_152 hf (fun σ18 hf => ?_)
        refine kx_aload_n K dX0_insert_153 rfl 0 rfl ?_
        refine kx_gr K f_X0_18 dX0_insert_154 hf (fun x19 hf => ?_)
        refine kx_iload K dX0_insert_157 4 rfl ?_
        refine kx_iload_n K dX0_insert_159 rfl 2 rfl ?_
        refine kx_ui K dX0_insert_160 hf (fun σ20 hf => ?_)
        refine kx_aload_n K dX0_insert_161 rfl 0 rfl ?_
        refine kx_gr K f_X0_21 dX0_insert_162 hf (fun x21 hf => ?_)
        refine kx_iload K dX0_insert_165 4 rfl ?_
        refine kx_iload_n K dX0_insert_167 rfl 3 rfl ?_
        refine kx_ui K dX0_insert_168 hf (fun σ22 hf => ?_)
        refine kx_aload_n K dX0_insert_169 rfl 0 rfl ?_
        refine kx_dup K dX0_insert_170 rfl ?_
        refine kx_gi K f_X0_24 dX0_insert_171 hf (fun x23 hf => ?_)
        refine kx_iconst (v := 1) K dX0_insert_174 (by decide) ?_
        refine kx_iadd K dX0_insert_175 ?_
        refine kx_pi K f_X0_24 dX0_insert_176 hf (fun σ24 hf => ?_)
        refine kx_iload K dX0_insert_179 4 rfl ?_
        exact kx_iret K hQ (by decide) (by decide) (fun _ h => h) dX0_insert_181 hf
      · refine kx_aload_n K dX0_insert_91 rfl 0 rfl ?_
        refine kx_gr K f_X0_15 dX0_insert_92 hf (fun x25 hf => ?_)
        refine kx_iload K dX0_insert_95 5 rfl ?_
        refine kx_aload_n K dX0_insert_97 rfl 0 rfl ?_
        refine kx_gr K f_X0_15 dX0_insert_98 hf (fun x26 hf => ?_)
        refine kx_iload K dX0_insert_101 5 rfl ?_
        refine kx_iconst (v := 1) K dX0_insert_103 (by decide) ?_
        refine kx_isub K dX0_insert_104 ?_
        refine kx_ai K dX0_insert_105 hf (fun x27 hf => ?_)
        refine kx_ui K dX0_insert_106 hf (fun σ28 hf => ?_)
        refine kx_aload_n K dX0_insert_107 rfl 0 rfl ?_
        refine kx_gr K f_X0_18 dX0_insert_108 hf (fun x29 hf => ?_)
        refine kx_iload K dX0_insert_111 5 rfl ?_
        refine kx_aload_n K dX0_insert_113 rfl 0 rfl ?_
        refine kx_gr K f_X0_18 dX0_insert_114 hf (fun x30 hf => ?_)
        refine kx_iload K dX0_insert_117 5 rfl ?_
        refine kx_iconst (v := 1) K dX0_insert_119 (by decide) ?_
        refine kx_isub K dX0_insert_120 ?_
        refine kx_ai K dX0_insert_121 hf (fun x31 hf => ?_)
        refine kx_ui K dX0_insert_122 hf (fun σ32 hf => ?_)
        refine kx_aload_n K dX0_insert_123 rfl 0 rfl ?_
        refine kx_gr K f_X0_21 dX0_insert_124 hf (fun x33 hf => ?_)
        refine kx_iload K dX0_insert_127 5 rfl ?_
        refine kx_aload_n K dX0_insert_129 rfl 0 rfl ?_
        refine kx_gr K f_X0_21 dX0_insert_130 hf (fun x34 hf => ?_)
        refine kx_iload K dX0_insert_133 5 rfl ?_
        refine kx_iconst (v := 1) K dX0_insert_135 (by decide) ?_
        refine kx_isub K dX0_insert_136 ?_
        refine kx_ai K dX0_insert_137 hf (fun x35 hf => ?_)
        refine kx_ui K dX0_insert_138 hf (fun σ36 hf => ?_)
        refine kx_iinc (v := (v15 + (-1))) K [(5, .int (v15 + (-1))), (0, .ref a0), (1, .int a1), (2, .int a2), (3, .int a3), (4, .int v14)] dX0_insert_139 5 rfl rfl (by decide) rfl ?_
        refine kx_goto K 84 dX0_insert_142 (by decide) ?_
        refine kx_sub [(0, .ref a0), (1, .int a1), (2, .int a2), (3, .int a3), (4, .int v14), (5, .int (v15 + (-1)))] [1, 2, 3, 4, 5, 0] rfl ?_
        exact ih84 _ _ _ hf
  have B24 : ∀ (n24 : Nat) (σ5 : ac_H) (v3 : Int32) (v4 : Int32), m_X0_insert_l24 a0 a1 a2 a3 n24 σ5 v3 v4 = some (v, σ') → kx_S Λ Γ 6 (fun z => z = q) σ5 (0) (0) 24 [(0, .ref a0), (1, .int a1), (2, .int a2), (3, .int a3), (4, .int v3), (5, .int v4)] [] := by
    intro n24
    induction n24 with
    | zero =>
      intro σ5 v3 v4 hf
      rw [m_X0_insert_l24] at hf
      cases hf
    | succ n24 ih24 =>
      intro σ5 v3 v4 hf
      rw [m_X0_insert_l24] at hf
      refine kx_iload K dX0_insert_24 5 rfl ?_
      refine kx_aload_n K dX0_insert_26 rfl 0 rfl ?_
      refine kx_gi K f_X0_24 dX0_insert_27 hf (fun x6 hf => ?_)
      refine kx_icmp_ge K 78 hf dX0_insert_30 (by decide) (fun hf => ?_) (fun hf => ?_)
      · refine kx_aload_n K dX0_insert_78 rfl 0 rfl ?_
        refine kx_gi K f_X0_24 dX0_insert_79 hf (fun x7 hf => ?_)
        refine kx_istore K [(5, .int x7), (0, .ref a0), (1, .int a1), (2, .int a2), (3, .int a3), (4, .int v3)] dX0_insert_82 (by decide) rfl ?_
        refine kx_sub [(0, .ref a0), (1, .int a1), (2, .int a2), (3, .int a3), (4, .int v3), (5, .int x7)] [1, 2, 3, 4, 5, 0] rfl ?_
        exact B84 hN_f _ _ _ hf
      · refine kx_aload_n K dX0_insert_33 rfl 0 rfl ?_
        refine kx_gr K f_X0_18 dX0_insert_34 hf (fun x8 hf => ?_)
        refine kx_iload K dX0_insert_37 5 rfl ?_
        refine kx_ai K dX0_insert_39 hf (fun x9 hf => ?_)
        refine kx_iload_n K dX0_insert_40 rfl 2 rfl ?_
        refine kx_icmp_lt K 66 hf dX0_insert_41 (by decide) (fun hf => ?_) (fun hf => ?_)
        · refine kx_iload K dX0_insert_66 5 rfl ?_
          refine kx_iconst (v := 1) K dX0_insert_68 (by decide) ?_
          refine kx_iadd K dX0_insert_69 ?_
          refine kx_istore K [(4, .int (v4 + (1 : Int32))), (0, .ref a0), (1, .int a1), (2, .int a2), (3, .int a3), (5, .int v4)] dX0_insert_70 (by decide) rfl ?_
          refine kx_iinc (v := (v4 + 1)) K [(5, .int (v4 + 1)), (4, .int (v4 + (1 : Int32))), (0, .ref a0), (1, .int a1), (2, .int a2), (3, .int a3)] dX0_insert_72 5 rfl rfl (by decide) rfl ?_
          refine kx_goto K 24 dX0_insert_75 (by decide) ?_
          refine kx_sub [(0, .ref a0), (1, .int a1), (2, .int a2), (3, .int a3), (4, .int (v4 + (1 : Int32))), (5, .int (v4 + 1))] [2, 3, 4, 5, 1, 0] rfl ?_
          exact ih24 _ _ _ hf
        · refine kx_aload_n K dX0_insert_44 rfl 0 rfl ?_
          refine kx_gr K f_X0_18 dX0_insert_45 hf (fun x10 hf => ?_)
          refine kx_iload K dX0_insert_48 5 rfl ?_
          refine kx_ai K dX0_insert_50 hf (fun x11 hf => ?_)
          refine kx_iload_n K dX0_insert_51 rfl 2 rfl ?_
          refine kx_icmp_ne K 72 hf dX0_insert_52 (by decide) (fun hf => ?_) (fun hf => ?_)
          · refine kx_iinc (v := (v4 + 1)) K [(5, .int (v4 + 1)), (0, .ref a0), (1, .int a1), (2, .int a2), (3, .int a3), (4, .int v3)] dX0_insert_72 5 rfl rfl (by decide) rfl ?_
            refine kx_goto K 24 dX0_insert_75 (by decide) ?_
            refine kx_sub [(0, .ref a0), (1, .int a1), (2, .int a2), (3, .int a3), (4, .int v3), (5, .int (v4 + 1))] [1, 2, 3, 4, 5, 0] rfl ?_
            exact ih24 _ _ _ hf
          · refine kx_aload_n K dX0_insert_55 rfl 0 rfl ?_
            refine kx_gr K f_X0_15 dX0_insert_56 hf (fun x12 hf => ?_)
            refine kx_iload K dX0_insert_59 5 rfl ?_
            refine kx_ai K dX0_insert_61 hf (fun x13 hf => ?_)
            refine kx_iload_n K dX0_insert_62 rfl 1 rfl ?_
            refine kx_icmp_ge K 72 hf dX0_insert_63 (by decide) (fun hf => ?_) (fun hf => ?_)
            · refine kx_iinc (v := (v4 + 1)) K [(5, .int (v4 + 1)), (0, .ref a0), (1, .int a1), (2, .int a2), (3, .int a3), (4, .int v3)] dX0_insert_72 5 rfl rfl (by decide) rfl ?_
              refine kx_goto K 24 dX0_insert_75 (by decide) ?_
              refine kx_sub [(0, .ref a0), (1, .int a1), (2, .int a2), (3, .int a3), (4, .int v3), (5, .int (v4 + 1))] [1, 2, 3, 4, 5, 0] rfl ?_
              exact ih24 _ _ _ hf
            · refine kx_iload K dX0_insert_66 5 rfl ?_
              refine kx_iconst (v := 1) K dX0_insert_68 (by decide) ?_
              refine kx_iadd K dX0_insert_69 ?_
              refine kx_istore K [(4, .int (v4 + (1 : Int32))), (0, .ref a0), (1, .int a1), (2, .int a2), (3, .int a3), (5, .int v4)] dX0_insert_70 (by decide) rfl ?_
              refine kx_iinc (v := (v4 + 1)) K [(5, .int (v4 + 1)), (4, .int (v4 + (1 : Int32))), (0, .ref a0), (1, .int a1), (2, .int a2), (3, .int a3)] dX0_insert_72 5 rfl rfl (by decide) rfl ?_
              refine kx_goto K 24 dX0_insert_75 (by decide) ?_
              refine kx_sub [(0, .ref a0), (1, .int a1), (2, .int a2), (3, .int a3), (4, .int (v4 + (1 : Int32))), (5, .int (v4 + 1))] [2, 3, 4, 5, 1, 0] rfl ?_
              exact ih24 _ _ _ hf
  unfold m_X0_insert at hf
  refine kx_aload_n K dX0_insert_0 rfl 0 rfl ?_
  refine kx_gi K f_X0_24 dX0_insert_1 hf (fun x1 hf => ?_)
  refine kx_if_lt K 16 hf dX0_insert_4 (by decide) (fun hf => ?_) (fun hf => ?_)
  · refine kx_iconst (v := -1) K dX0_insert_16 (by decide) ?_
    exact kx_iret K hQ (by decide) (by decide) (fun _ h => h) dX0_insert_17 hf
  · refine kx_aload_n K dX0_insert_7 rfl 0 rfl ?_
    refine kx_gi K f_X0_24 dX0_insert_8 hf (fun x2 hf => ?_)
    refine kx_bipush (v := 10) K dX0_insert_11 (by decide) ?_
    refine kx_icmp_lt K 18 hf dX0_insert_13 (by decide) (fun hf => ?_) (fun hf => ?_)
    · refine kx_iconst (v := 0) K dX0_insert_18 (by decide) ?_
      refine kx_istore K [(4, .int (0 : Int32)), (0, .ref a0), (1, .int a1), (2, .int a2), (3, .int a3)] dX0_insert_19 (by decide) rfl ?_
      refine kx_iconst (v := 0) K dX0_insert_21 (by decide) ?_
      refine kx_istore K [(5, .int (0 : Int32)), (4, .int (0 : Int32)), (0, .ref a0), (1, .int a1), (2, .int a2), (3, .int a3)] dX0_insert_22 (by decide) rfl ?_
      refine kx_sub [(0, .ref a0), (1, .int a1), (2, .int a2), (3, .int a3), (4, .int (0 : Int32)), (5, .int (0 : Int32))] [2, 3, 4, 5, 1, 0] rfl ?_
      exact B24 hN_f _ _ _ hf
    · refine kx_iconst (v := -1) K dX0_insert_16 (by decide) ?_
      exact kx_iret K hQ (by decide) (by decide) (fun _ h => h) dX0_insert_17 hf
def m_X0_takeOnlyFault (σ : ac_H) (a0 : Nat) (a1 : Int32) (a2 : Int32) (a3 : Int32) : Option (Unit × ac_H) :=
  mo_pv σ a0 0 4 (.int (0 : Int32)) fun σ1 =>
  mo_cv σ1 a0 0 (m_X0_insert σ1 a0 a1 a2 a3) fun x3 σ2 =>
  some ((), σ2)
set_option maxRecDepth 100000 in
set_option maxHeartbeats 4000000 in
theorem k_X0_takeOnlyFault {Λ : ex_L} {q : Nat} {σ σ' : ac_H} {a0 : Nat} {a1 : Int32} {a2 : Int32} {a3 : Int32} {v : Unit} (hf : m_X0_takeOnlyFault σ a0 a1 a2 a3 = some (v, σ')) : kx_C Λ yX0_takeOnlyFault (.code yX0_takeOnlyFault cX0_takeOnlyFault 4 none) ({ frames := 1, cells := 0, slots := 0, locals := 25 } : Room) [.ref a0, .int a1, .int a2, .int a3] q σ (.inr none) σ' (fun z => z = q) := by
  refine kx_in (by decide +kernel) (Nat.le_of_ble_eq_true rfl) ?_
  intro Γ K hnm hsz hQ
  refine kx_lv (lv' := [(0, .ref a0), (1, .int a1), (2, .int a2), (3, .int a3)]) rfl ?_
  unfold m_X0_takeOnlyFault at hf
  refine kx_aload_n K dX0_takeOnlyFault_0 rfl 0 rfl ?_
  refine kx_iconst (v := 0) K dX0_takeOnlyFault_1 (by decide) ?_
  refine kx_pi K f_X0_24 dX0_takeOnlyFault_2 hf (fun σ1 hf => ?_)
  refine kx_aload_n K dX0_takeOnlyFault_5 rfl 0 rfl ?_
  refine kx_iload_n K dX0_takeOnlyFault_6 rfl 1 rfl ?_
  refine kx_iload_n K dX0_takeOnlyFault_7 rfl 2 rfl ?_
  refine kx_iload_n K dX0_takeOnlyFault_8 rfl 3 rfl ?_
  refine kx_cv3i K c_X0_49 ⟨by decide, by decide, rfl, rfl, (by decide), (by decide)⟩ (Nat.le_of_ble_eq_true rfl) dX0_takeOnlyFault_9 hf (fun _ _ _ h => k_X0_insert h) (fun x3 σ2 hf => ?_)
  refine kx_pop K dX0_takeOnlyFault_12 rfl ?_
  exact kx_vret K hQ (by decide) (by decide) (fun _ h => h) dX0_takeOnlyFault_13 hf
def m_X0_setting (σ : ac_H) (a0 : Nat) (a1 : Int32) : Option (Int32 × ac_H) :=
  if a1 < 0 then
  (some ((0 : Int32), σ))
  else
  (if a1 < (8 : Int32) then
  (mo_gr σ a0 0 0 fun x1 =>
  mo_ai σ x1 0 a1 fun x2 =>
  some (x2, σ))
  else
  (some ((0 : Int32), σ)))
set_option maxRecDepth 100000 in
set_option maxHeartbeats 4000000 in
theorem k_X0_setting {Λ : ex_L} {q : Nat} {σ σ' : ac_H} {a0 : Nat} {a1 : Int32} {v : Int32} (hf : m_X0_setting σ a0 a1 = some (v, σ')) : kx_C Λ yX0_setting (.code yX0_setting cX0_setting 2 (some .int)) ({ frames := 0, cells := 0, slots := 0, locals := 0 } : Room) [.ref a0, .int a1] q σ (.inr (some (.int v))) σ' (fun z => z = q) := by
  refine kx_in (by decide +kernel) (Nat.le_of_ble_eq_true rfl) ?_
  intro Γ K hnm hsz hQ
  refine kx_lv (lv' := [(0, .ref a0), (1, .int a1)]) rfl ?_
  unfold m_X0_setting at hf
  refine kx_iload_n K dX0_setting_0 rfl 1 rfl ?_
  refine kx_if_lt K 19 hf dX0_setting_1 (by decide) (fun hf => ?_) (fun hf => ?_)
  · refine kx_iconst (v := 0) K dX0_setting_19 (by decide) ?_
    exact kx_iret K hQ (by decide) (by decide) (fun _ h => h) dX0_setting_20 hf
  · refine kx_iload_n K dX0_setting_4 rfl 1 rfl ?_
    refine kx_bipush (v := 8) K dX0_setting_5 (by decide) ?_
    refine kx_icmp_ge K 19 hf dX0_setting_7 (by decide) (fun hf => ?_) (fun hf => ?_)
    · refine kx_iconst (v := 0) K dX0_setting_19 (by decide) ?_
      exact kx_iret K hQ (by decide) (by decide) (fun _ h => h) dX0_setting_20 hf
    · refine kx_aload_n K dX0_setting_10 rfl 0 rfl ?_
      refine kx_gr K f_X0_9 dX0_setting_11 hf (fun x1 hf => ?_)
      refine kx_iload_n K dX0_setting_14 rfl 1 rfl ?_
      refine kx_ai K dX0_setting_15 hf (fun x2 hf => ?_)
      refine kx_goto K 20 dX0_setting_16 (by decide) ?_
      exact kx_iret K hQ (by decide) (by decide) (fun _ h => h) dX0_setting_20 hf
def m_X0_changeSetting (σ : ac_H) (a0 : Nat) (a1 : Int32) (a2 : Int32) : Option (Unit × ac_H) :=
  if a1 < 0 then
  (some ((), σ))
  else
  (if a1 < (8 : Int32) then
  (mo_gr σ a0 0 0 fun x1 =>
  mo_ui σ x1 0 a1 a2 fun σ2 =>
  some ((), σ2))
  else
  (some ((), σ)))
set_option maxRecDepth 100000 in
set_option maxHeartbeats 4000000 in
theorem k_X0_changeSetting {Λ : ex_L} {q : Nat} {σ σ' : ac_H} {a0 : Nat} {a1 : Int32} {a2 : Int32} {v : Unit} (hf : m_X0_changeSetting σ a0 a1 a2 = some (v, σ')) : kx_C Λ yX0_changeSetting (.code yX0_changeSetting cX0_changeSetting 3 none) ({ frames := 0, cells := 0, slots := 0, locals := 0 } : Room) [.ref a0, .int a1, .int a2] q σ (.inr none) σ' (fun z => z = q) := by
  refine kx_in (by decide +kernel) (Nat.le_of_ble_eq_true rfl) ?_
  intro Γ K hnm hsz hQ
  refine kx_lv (lv' := [(0, .ref a0), (1, .int a1), (2, .int a2)]) rfl ?_
  unfold m_X0_changeSetting at hf
  refine kx_iload_n K dX0_changeSetting_0 rfl 1 rfl ?_
  refine kx_if_lt K 17 hf dX0_changeSetting_1 (by decide) (fun hf => ?_) (fun hf => ?_)
  · exact kx_vret K hQ (by decide) (by decide) (fun _ h => h) dX0_changeSetting_17 hf
  · refine kx_iload_n K dX0_changeSetting_4 rfl 1 rfl ?_
    refine kx_bipush (v := 8) K dX0_changeSetting_5 (by decide) ?_
    refine kx_icmp_ge K 17 hf dX0_changeSetting_7 (by decide) (fun hf => ?_) (fun hf => ?_)
    · exact kx_vret K hQ (by decide) (by decide) (fun _ h => h) dX0_changeSetting_17 hf
    · refine kx_aload_n K dX0_changeSetting_10 rfl 0 rfl ?_
      refine kx_gr K f_X0_9 dX0_changeSetting_11 hf (fun x1 hf => ?_)
      refine kx_iload_n K dX0_changeSetting_14 rfl 1 rfl ?_
      refine kx_iload_n K dX0_changeSetting_15 rfl 2 rfl ?_
      refine kx_ui K dX0_changeSetting_16 hf (fun σ2 hf => ?_)
      exact kx_vret K hQ (by decide) (by decide) (fun _ h => h) dX0_changeSetting_17 hf
def m_X0_recordedStates (σ : ac_H) (a0 : Nat) : Option (Nat × ac_H) :=
  mo_gr σ a0 0 5 fun x1 =>
  some (x1, σ)
set_option maxRecDepth 100000 in
set_option maxHeartbeats 4000000 in
theorem k_X0_recordedStates {Λ : ex_L} {q : Nat} {σ σ' : ac_H} {a0 : Nat} {v : Nat} (hf : m_X0_recordedStates σ a0 = some (v, σ')) : kx_C Λ yX0_recordedStates (.code yX0_recordedStates cX0_recordedStates 1 (some (.object "FaultBench$States"))) ({ frames := 0, cells := 0, slots := 0, locals := 0 } : Room) [.ref a0] q σ (.inr (some (.ref v))) σ' (fun z => z = q) := by
  refine kx_in (by decide +kernel) (Nat.le_of_ble_eq_true rfl) ?_
  intro Γ K hnm hsz hQ
  refine kx_lv (lv' := [(0, .ref a0)]) rfl ?_
  unfold m_X0_recordedStates at hf
  refine kx_aload_n K dX0_recordedStates_0 rfl 0 rfl ?_
  refine kx_gr K f_X0_31 dX0_recordedStates_1 hf (fun x1 hf => ?_)
  exact kx_aret K hQ (by decide) (by decide) (fun _ h => h) dX0_recordedStates_4 hf
def m_X0_faultCount (σ : ac_H) (a0 : Nat) : Option (Int32 × ac_H) :=
  mo_gi σ a0 0 4 fun x1 =>
  some (x1, σ)
set_option maxRecDepth 100000 in
set_option maxHeartbeats 4000000 in
theorem k_X0_faultCount {Λ : ex_L} {q : Nat} {σ σ' : ac_H} {a0 : Nat} {v : Int32} (hf : m_X0_faultCount σ a0 = some (v, σ')) : kx_C Λ yX0_faultCount (.code yX0_faultCount cX0_faultCount 1 (some .int)) ({ frames := 0, cells := 0, slots := 0, locals := 0 } : Room) [.ref a0] q σ (.inr (some (.int v))) σ' (fun z => z = q) := by
  refine kx_in (by decide +kernel) (Nat.le_of_ble_eq_true rfl) ?_
  intro Γ K hnm hsz hQ
  refine kx_lv (lv' := [(0, .ref a0)]) rfl ?_
  unfold m_X0_faultCount at hf
  refine kx_aload_n K dX0_faultCount_0 rfl 0 rfl ?_
  refine kx_gi K f_X0_24 dX0_faultCount_1 hf (fun x1 hf => ?_)
  exact kx_iret K hQ (by decide) (by decide) (fun _ h => h) dX0_faultCount_4 hf
def m_X0_faultPart (σ : ac_H) (a0 : Nat) (a1 : Int32) (a2 : Int32) : Option (Int32 × ac_H) :=
  if a1 < 0 then
  (some ((-1 : Int32), σ))
  else
  (mo_gi σ a0 0 4 fun x1 =>
  if a1 < x1 then
  (if a1 < (10 : Int32) then
  (if a2 = (0 : Int32) then
  (mo_gr σ a0 0 1 fun x2 =>
  mo_ai σ x2 0 a1 fun x3 =>
  some (x3, σ))
  else
  if a2 = (1 : Int32) then
  (mo_gr σ a0 0 2 fun x5 =>
  mo_ai σ x5 0 a1 fun x6 =>
  some (x6, σ))
  else
  (mo_gr σ a0 0 3 fun x8 =>
  mo_ai σ x8 0 a1 fun x9 =>
  some (x9, σ)))
  else
  (some ((-1 : Int32), σ)))
  else
  (some ((-1 : Int32), σ)))
set_option maxRecDepth 100000 in
set_option maxHeartbeats 4000000 in
theorem k_X0_faultPart {Λ : ex_L} {q : Nat} {σ σ' : ac_H} {a0 : Nat} {a1 : Int32} {a2 : Int32} {v : Int32} (hf : m_X0_faultPart σ a0 a1 a2 = some (v, σ')) : kx_C Λ yX0_faultPart (.code yX0_faultPart cX0_faultPart 3 (some .int)) ({ frames := 0, cells := 0, slots := 0, locals := 0 } : Room) [.ref a0, .int a1, .int a2] q σ (.inr (some (.int v))) σ' (fun z => z = q) := by
  refine kx_in (by decide +kernel) (Nat.le_of_ble_eq_true rfl) ?_
  intro Γ K hnm hsz hQ
  refine kx_lv (lv' := [(0, .ref a0), (1, .int a1), (2, .int a2)]) rfl ?_
  unfold m_X0_faultPart at hf
  refine kx_iload_n K dX0_faultPart_0 rfl 1 rfl ?_
  refine kx_if_lt K 18 hf dX0_faultPart_1 (by decide) (fun hf => ?_) (fun hf => ?_)
  · refine kx_iconst (v := -1) K dX0_faultPart_18 (by decide) ?_
    exact kx_iret K hQ (by decide) (by decide) (fun _ h => h) dX0_faultPart_19 hf
  · refine kx_iload_n K dX0_faultPart_4 rfl 1 rfl ?_
    refine kx_aload_n K dX0_faultPart_5 rfl 0 rfl ?_
    refine kx_gi K f_X0_24 dX0_faultPart_6 hf (fun x1 hf => ?_)
    refine kx_icmp_ge K 18 hf dX0_faultPart_9 (by decide) (fun hf => ?_) (fun hf => ?_)
    · refine kx_iconst (v := -1) K dX0_faultPart_18 (by decide) ?_
      exact kx_iret K hQ (by decide) (by decide) (fun _ h => h) dX0_faultPart_19 hf
    · refine kx_iload_n K dX0_faultPart_12 rfl 1 rfl ?_
      refine kx_bipush (v := 10) K dX0_faultPart_13 (by decide) ?_
      refine kx_icmp_lt K 20 hf dX0_faultPart_15 (by decide) (fun hf => ?_) (fun hf => ?_)
      · refine kx_iload_n K dX0_faultPart_20 rfl 2 rfl ?_
        refine kx_lwI (c := 0) (off := 27) K 48 dX0_faultPart_21 (by decide) (by decide) (by decide) hf (fun hf => ?_) (fun h4 hf => ?_)
        · refine kx_aload_n K dX0_faultPart_48 rfl 0 rfl ?_
          refine kx_gr K f_X0_15 dX0_faultPart_49 hf (fun x2 hf => ?_)
          refine kx_iload_n K dX0_faultPart_52 rfl 1 rfl ?_
          refine kx_ai K dX0_faultPart_53 hf (fun x3 hf => ?_)
          exact kx_iret K hQ (by decide) (by decide) (fun _ h => h) dX0_faultPart_54 hf
        refine kx_lwI (c := 1) (off := 34) K 55 dX0_faultPart_21 (by decide) (by decide) (by decide) hf (fun hf => ?_) (fun h7 hf => ?_)
        · refine kx_aload_n K dX0_faultPart_55 rfl 0 rfl ?_
          refine kx_gr K f_X0_18 dX0_faultPart_56 hf (fun x5 hf => ?_)
          refine kx_iload_n K dX0_faultPart_59 rfl 1 rfl ?_
          refine kx_ai K dX0_faultPart_60 hf (fun x6 hf => ?_)
          exact kx_iret K hQ (by decide) (by decide) (fun _ h => h) dX0_faultPart_61 hf
        refine kx_lwD K 62 dX0_faultPart_21 (by decide) (by show Op.lookupswitch.offset [(0, 27), (1, 34)] 41 (a2).toInt = 41; rw [lv_osw h4 (show (0 : Int32).toInt = 0 by decide), lv_osw h7 (show (1 : Int32).toInt = 1 by decide)]; rfl) (by decide) ?_
        refine kx_aload_n K dX0_faultPart_62 rfl 0 rfl ?_
        refine kx_gr K f_X0_21 dX0_faultPart_63 hf (fun x8 hf => ?_)
        refine kx_iload_n K dX0_faultPart_66 rfl 1 rfl ?_
        refine kx_ai K dX0_faultPart_67 hf (fun x9 hf => ?_)
        exact kx_iret K hQ (by decide) (by decide) (fun _ h => h) dX0_faultPart_68 hf
      · refine kx_iconst (v := -1) K dX0_faultPart_18 (by decide) ?_
        exact kx_iret K hQ (by decide) (by decide) (fun _ h => h) dX0_faultPart_19 hf
def m_X0_findFault_l2  (a0 : Nat) (a1 : Int32) (a2 : Int32) : Nat → ac_H → Int32 → Option (Int32 × ac_H)
  | 0, _, _ => none
  | n + 1, σ2, v1 =>
    if v1 < (10 : Int32) then
    (mo_gi σ2 a0 0 4 fun x3 =>
    if v1 < x3 then
    (mo_gr σ2 a0 0 2 fun x4 =>
    mo_ai σ2 x4 0 v1 fun x5 =>
    if x5 = a2 then
    (mo_gr σ2 a0 0 1 fun x6 =>
    mo_ai σ2 x6 0 v1 fun x7 =>
    if x7 = a1 then
    (some (v1, σ2))
    else
    (m_X0_findFault_l2 a0 a1 a2 n σ2 (v1 + 1)))
    else
    (m_X0_findFault_l2 a0 a1 a2 n σ2 (v1 + 1)))
    else
    (some ((-1 : Int32), σ2)))
    else
    (some ((-1 : Int32), σ2))
def m_X0_findFault (σ : ac_H) (a0 : Nat) (a1 : Int32) (a2 : Int32) : Option (Int32 × ac_H) :=
  m_X0_findFault_l2 a0 a1 a2 hN_f σ (0 : Int32)
set_option maxRecDepth 100000 in
set_option maxHeartbeats 4000000 in
theorem k_X0_findFault {Λ : ex_L} {q : Nat} {σ σ' : ac_H} {a0 : Nat} {a1 : Int32} {a2 : Int32} {v : Int32} (hf : m_X0_findFault σ a0 a1 a2 = some (v, σ')) : kx_C Λ yX0_findFault (.code yX0_findFault cX0_findFault 4 (some .int)) ({ frames := 0, cells := 0, slots := 0, locals := 0 } : Room) [.ref a0, .int a1, .int a2] q σ (.inr (some (.int v))) σ' (fun z => z = q) := by
  refine kx_in (by decide +kernel) (Nat.le_of_ble_eq_true rfl) ?_
  intro Γ K hnm hsz hQ
  refine kx_lv (lv' := [(0, .ref a0), (1, .int a1), (2, .int a2)]) rfl ?_
  have B2 : ∀ (n2 : Nat) (σ2 : ac_H) (v1 : Int32), m_X0_findFault_l2 a0 a1 a2 n2 σ2 v1 = some (v, σ') → kx_S Λ Γ 4 (fun z => z = q) σ2 (0) (0) 2 [(0, .ref a0), (1, .int a1), (2, .int a2), (3, .int v1)] [] := by
    intro n2
    induction n2 with
    | zero =>
      intro σ2 v1 hf
      rw [m_X0_findFault_l2] at hf
      cases hf
    | succ n2 ih2 =>
      intro σ2 v1 hf
      rw [m_X0_findFault_l2] at hf
      refine kx_iload_n K dX0_findFault_2 rfl 3 rfl ?_
      refine kx_bipush (v := 10) K dX0_findFault_3 (by decide) ?_
      refine kx_icmp_ge K 44 hf dX0_findFault_5 (by decide) (fun hf => ?_) (fun hf => ?_)
      · refine kx_iconst (v := -1) K dX0_findFault_44 (by decide) ?_
        exact kx_iret K hQ (by decide) (by decide) (fun _ h => h) dX0_findFault_45 hf
      · refine kx_iload_n K dX0_findFault_8 rfl 3 rfl ?_
        refine kx_aload_n K dX0_findFault_9 rfl 0 rfl ?_
        refine kx_gi K f_X0_24 dX0_findFault_10 hf (fun x3 hf => ?_)
        refine kx_icmp_ge K 44 hf dX0_findFault_13 (by decide) (fun hf => ?_) (fun hf => ?_)
        · refine kx_iconst (v := -1) K dX0_findFault_44 (by decide) ?_
          exact kx_iret K hQ (by decide) (by decide) (fun _ h => h) dX0_findFault_45 hf
        · refine kx_aload_n K dX0_findFault_16 rfl 0 rfl ?_
          refine kx_gr K f_X0_18 dX0_findFault_17 hf (fun x4 hf => ?_)
          refine kx_iload_n K dX0_findFault_20 rfl 3 rfl ?_
          refine kx_ai K dX0_findFault_21 hf (fun x5 hf => ?_)
          refine kx_iload_n K dX0_findFault_22 rfl 2 rfl ?_
          refine kx_icmp_ne K 38 hf dX0_findFault_23 (by decide) (fun hf => ?_) (fun hf => ?_)
          · refine kx_iinc (v := (v1 + 1)) K [(3, .int (v1 + 1)), (0, .ref a0), (1, .int a1), (2, .int a2)] dX0_findFault_38 3 rfl rfl (by decide) rfl ?_
            refine kx_goto K 2 dX0_findFault_41 (by decide) ?_
            refine kx_sub [(0, .ref a0), (1, .int a1), (2, .int a2), (3, .int (v1 + 1))] [1, 2, 3, 0] rfl ?_
            exact ih2 _ _ hf
          · refine kx_aload_n K dX0_findFault_26 rfl 0 rfl ?_
            refine kx_gr K f_X0_15 dX0_findFault_27 hf (fun x6 hf => ?_)
            refine kx_iload_n K dX0_findFault_30 rfl 3 rfl ?_
            refine kx_ai K dX0_findFault_31 hf (fun x7 hf => ?_)
            refine kx_iload_n K dX0_findFault_32 rfl 1 rfl ?_
            refine kx_icmp_ne K 38 hf dX0_findFault_33 (by decide) (fun hf => ?_) (fun hf => ?_)
            · refine kx_iinc (v := (v1 + 1)) K [(3, .int (v1 + 1)), (0, .ref a0), (1, .int a1), (2, .int a2)] dX0_findFault_38 3 rfl rfl (by decide) rfl ?_
              refine kx_goto K 2 dX0_findFault_41 (by decide) ?_
              refine kx_sub [(0, .ref a0), (1, .int a1), (2, .int a2), (3, .int (v1 + 1))] [1, 2, 3, 0] rfl ?_
              exact ih2 _ _ hf
            · refine kx_iload_n K dX0_findFault_36 rfl 3 rfl ?_
              exact kx_iret K hQ (by decide) (by decide) (fun _ h => h) dX0_findFault_37 hf
  unfold m_X0_findFault at hf
  refine kx_iconst (v := 0) K dX0_findFault_0 (by decide) ?_
  refine kx_istore_n K [(3, .int (0 : Int32)), (0, .ref a0), (1, .int a1), (2, .int a2)] dX0_findFault_1 rfl (by decide) rfl ?_
  refine kx_sub [(0, .ref a0), (1, .int a1), (2, .int a2), (3, .int (0 : Int32))] [1, 2, 3, 0] rfl ?_
  exact B2 hN_f _ _ hf
def m_X0_delete_l17  (a0 : Nat) : Nat → ac_H → Int32 → Option (Unit × ac_H)
  | 0, _, _ => none
  | n + 1, σ3, v2 =>
    if v2 < (10 : Int32) then
    (mo_gi σ3 a0 0 4 fun x6 =>
    if v2 < x6 then
    (mo_gr σ3 a0 0 1 fun x9 =>
    mo_gr σ3 a0 0 1 fun x10 =>
    mo_ai σ3 x10 0 v2 fun x11 =>
    mo_ui σ3 x9 0 (v2 - (1 : Int32)) x11 fun σ12 =>
    mo_gr σ12 a0 0 2 fun x13 =>
    mo_gr σ12 a0 0 2 fun x14 =>
    mo_ai σ12 x14 0 v2 fun x15 =>
    mo_ui σ12 x13 0 (v2 - (1 : Int32)) x15 fun σ16 =>
    mo_gr σ16 a0 0 3 fun x17 =>
    mo_gr σ16 a0 0 3 fun x18 =>
    mo_ai σ16 x18 0 v2 fun x19 =>
    mo_ui σ16 x17 0 (v2 - (1 : Int32)) x19 fun σ20 =>
    m_X0_delete_l17 a0 n σ20 (v2 + 1))
    else
    (mo_gi σ3 a0 0 4 fun x7 =>
    mo_pv σ3 a0 0 4 (.int (x7 - (1 : Int32))) fun σ8 =>
    some ((), σ8)))
    else
    (mo_gi σ3 a0 0 4 fun x4 =>
    mo_pv σ3 a0 0 4 (.int (x4 - (1 : Int32))) fun σ5 =>
    some ((), σ5))
def m_X0_delete (σ : ac_H) (a0 : Nat) (a1 : Int32) : Option (Unit × ac_H) :=
  if a1 < 0 then
  (some ((), σ))
  else
  (mo_gi σ a0 0 4 fun x1 =>
  if a1 < x1 then
  (m_X0_delete_l17 a0 hN_f σ (a1 + (1 : Int32)))
  else
  (some ((), σ)))
set_option maxRecDepth 100000 in
set_option maxHeartbeats 4000000 in
theorem k_X0_delete {Λ : ex_L} {q : Nat} {σ σ' : ac_H} {a0 : Nat} {a1 : Int32} {v : Unit} (hf : m_X0_delete σ a0 a1 = some (v, σ')) : kx_C Λ yX0_delete (.code yX0_delete cX0_delete 3 none) ({ frames := 0, cells := 0, slots := 0, locals := 0 } : Room) [.ref a0, .int a1] q σ (.inr none) σ' (fun z => z = q) := by
  refine kx_in (by decide +kernel) (Nat.le_of_ble_eq_true rfl) ?_
  intro Γ K hnm hsz hQ
  refine kx_lv (lv' := [(0, .ref a0), (1, .int a1)]) rfl ?_
  have B17 : ∀ (n17 : Nat) (σ3 : ac_H) (v2 : Int32), m_X0_delete_l17 a0 n17 σ3 v2 = some (v, σ') → kx_S Λ Γ 3 (fun z => z = q) σ3 (0) (0) 17 [(0, .ref a0), (2, .int v2)] [] := by
    intro n17
    induction n17 with
    | zero =>
      intro σ3 v2 hf
      rw [m_X0_delete_l17] at hf
      cases hf
    | succ n17 ih17 =>
      intro σ3 v2 hf
      rw [m_X0_delete_l17] at hf
      refine kx_iload_n K dX0_delete_17 rfl 1 rfl ?_
      refine kx_bipush (v := 10) K dX0_delete_18 (by decide) ?_
      refine kx_icmp_ge K 79 hf dX0_delete_20 (by decide) (fun hf => ?_) (fun hf => ?_)
      · refine kx_aload_n K dX0_delete_79 rfl 0 rfl ?_
        refine kx_dup K dX0_delete_80 rfl ?_
        refine kx_gi K f_X0_24 dX0_delete_81 hf (fun x4 hf => ?_)
        refine kx_iconst (v := 1) K dX0_delete_84 (by decide) ?_
        refine kx_isub K dX0_delete_85 ?_
        refine kx_pi K f_X0_24 dX0_delete_86 hf (fun σ5 hf => ?_)
        exact kx_vret K hQ (by decide) (by decide) (fun _ h => h) dX0_delete_89 hf
      · refine kx_iload_n K dX0_delete_23 rfl 1 rfl ?_
        refine kx_aload_n K dX0_delete_24 rfl 0 rfl ?_
        refine kx_gi K f_X0_24 dX0_delete_25 hf (fun x6 hf => ?_)
        refine kx_icmp_ge K 79 hf dX0_delete_28 (by decide) (fun hf => ?_) (fun hf => ?_)
        · refine kx_aload_n K dX0_delete_79 rfl 0 rfl ?_
          refine kx_dup K dX0_delete_80 rfl ?_
          refine kx_gi K f_X0_24 dX0_delete_81 hf (fun x7 hf => ?_)
          refine kx_iconst (v := 1) K dX0_delete_84 (by decide) ?_
          refine kx_isub K dX0_delete_85 ?_
          refine kx_pi K f_X0_24 dX0_delete_86 hf (fun σ8 hf => ?_)
          exact kx_vret K hQ (by decide) (by decide) (fun _ h => h) dX0_delete_89 hf
        · refine kx_aload_n K dX0_delete_31 rfl 0 rfl ?_
          refine kx_gr K f_X0_15 dX0_delete_32 hf (fun x9 hf => ?_)
          refine kx_iload_n K dX0_delete_35 rfl 1 rfl ?_
          refine kx_iconst (v := 1) K dX0_delete_36 (by decide) ?_
          refine kx_isub K dX0_delete_37 ?_
          refine kx_aload_n K dX0_delete_38 rfl 0 rfl ?_
          refine kx_gr K f_X0_15 dX0_delete_39 hf (fun x10 hf => ?_)
          refine kx_iload_n K dX0_delete_42 rfl 1 rfl ?_
          refine kx_ai K dX0_delete_43 hf (fun x11 hf => ?_)
          refine kx_ui K dX0_delete_44 hf (fun σ12 hf => ?_)
          refine kx_aload_n K dX0_delete_45 rfl 0 rfl ?_
          refine kx_gr K f_X0_18 dX0_delete_46 hf (fun x13 hf => ?_)
          refine kx_iload_n K dX0_delete_49 rfl 1 rfl ?_
          refine kx_iconst (v := 1) K dX0_delete_50 (by decide) ?_
          refine kx_isub K dX0_delete_51 ?_
          refine kx_aload_n K dX0_delete_52 rfl 0 rfl ?_
          refine kx_gr K f_X0_18 dX0_delete_53 hf (fun x14 hf => ?_)
          refine kx_iload_n K dX0_delete_56 rfl 1 rfl ?_
          refine kx_ai K dX0_delete_57 hf (fun x15 hf => ?_)
          refine kx_ui K dX0_delete_58 hf (fun σ16 hf => ?_)
          refine kx_aload_n K dX0_delete_59 rfl 0 rfl ?_
          refine kx_gr K f_X0_21 dX0_delete_60 hf (fun x17 hf => ?_)
          refine kx_iload_n K dX0_delete_63 rfl 1 rfl ?_
          refine kx_iconst (v := 1) K dX0_delete_64 (by decide) ?_
          refine kx_isub K dX0_delete_65 ?_
          refine kx_aload_n K dX0_delete_66 rfl 0 rfl ?_
          refine kx_gr K f_X0_21 dX0_delete_67 hf (fun x18 hf => ?_)
          refine kx_iload_n K dX0_delete_70 rfl 1 rfl ?_
          refine kx_ai K dX0_delete_71 hf (fun x19 hf => ?_)
          refine kx_ui K dX0_delete_72 hf (fun σ20 hf => ?_)
          refine kx_iinc (v := (v2 + 1)) K [(2, .int (v2 + 1)), (0, .ref a0)] dX0_delete_73 1 rfl rfl (by decide) rfl ?_
          refine kx_goto K 17 dX0_delete_76 (by decide) ?_
          refine kx_sub [(0, .ref a0), (2, .int (v2 + 1))] [1, 0] rfl ?_
          exact ih17 _ _ hf
  unfold m_X0_delete at hf
  refine kx_iload_n K dX0_delete_0 rfl 1 rfl ?_
  refine kx_if_lt K 12 hf dX0_delete_1 (by decide) (fun hf => ?_) (fun hf => ?_)
  · exact kx_vret K hQ (by decide) (by decide) (fun _ h => h) dX0_delete_12 hf
  · refine kx_iload_n K dX0_delete_4 rfl 1 rfl ?_
    refine kx_aload_n K dX0_delete_5 rfl 0 rfl ?_
    refine kx_gi K f_X0_24 dX0_delete_6 hf (fun x1 hf => ?_)
    refine kx_icmp_lt K 13 hf dX0_delete_9 (by decide) (fun hf => ?_) (fun hf => ?_)
    · refine kx_iload_n K dX0_delete_13 rfl 1 rfl ?_
      refine kx_iconst (v := 1) K dX0_delete_14 (by decide) ?_
      refine kx_iadd K dX0_delete_15 ?_
      refine kx_istore_n K [(2, .int (a1 + (1 : Int32))), (0, .ref a0), (1, .int a1)] dX0_delete_16 rfl (by decide) rfl ?_
      refine kx_sub [(0, .ref a0), (2, .int (a1 + (1 : Int32)))] [1, 0] rfl ?_
      exact B17 hN_f _ _ hf
    · exact kx_vret K hQ (by decide) (by decide) (fun _ h => h) dX0_delete_12 hf
def m_X0_deleteAll (σ : ac_H) (a0 : Nat) : Option (Unit × ac_H) :=
  mo_pv σ a0 0 4 (.int (0 : Int32)) fun σ1 =>
  some ((), σ1)
set_option maxRecDepth 100000 in
set_option maxHeartbeats 4000000 in
theorem k_X0_deleteAll {Λ : ex_L} {q : Nat} {σ σ' : ac_H} {a0 : Nat} {v : Unit} (hf : m_X0_deleteAll σ a0 = some (v, σ')) : kx_C Λ yX0_deleteAll (.code yX0_deleteAll cX0_deleteAll 1 none) ({ frames := 0, cells := 0, slots := 0, locals := 0 } : Room) [.ref a0] q σ (.inr none) σ' (fun z => z = q) := by
  refine kx_in (by decide +kernel) (Nat.le_of_ble_eq_true rfl) ?_
  intro Γ K hnm hsz hQ
  refine kx_lv (lv' := [(0, .ref a0)]) rfl ?_
  unfold m_X0_deleteAll at hf
  refine kx_aload_n K dX0_deleteAll_0 rfl 0 rfl ?_
  refine kx_iconst (v := 0) K dX0_deleteAll_1 (by decide) ?_
  refine kx_pi K f_X0_24 dX0_deleteAll_2 hf (fun σ1 hf => ?_)
  exact kx_vret K hQ (by decide) (by decide) (fun _ h => h) dX0_deleteAll_5 hf
def m_X0_changeAmount (σ : ac_H) (a0 : Nat) (a1 : Int32) (a2 : Int32) : Option (Unit × ac_H) :=
  if a1 < 0 then
  (some ((), σ))
  else
  (mo_gi σ a0 0 4 fun x1 =>
  if a1 < x1 then
  (if a1 < (10 : Int32) then
  (mo_gr σ a0 0 3 fun x2 =>
  mo_ui σ x2 0 a1 a2 fun σ3 =>
  some ((), σ3))
  else
  (some ((), σ)))
  else
  (some ((), σ)))
set_option maxRecDepth 100000 in
set_option maxHeartbeats 4000000 in
theorem k_X0_changeAmount {Λ : ex_L} {q : Nat} {σ σ' : ac_H} {a0 : Nat} {a1 : Int32} {a2 : Int32} {v : Unit} (hf : m_X0_changeAmount σ a0 a1 a2 = some (v, σ')) : kx_C Λ yX0_changeAmount (.code yX0_changeAmount cX0_changeAmount 3 none) ({ frames := 0, cells := 0, slots := 0, locals := 0 } : Room) [.ref a0, .int a1, .int a2] q σ (.inr none) σ' (fun z => z = q) := by
  refine kx_in (by decide +kernel) (Nat.le_of_ble_eq_true rfl) ?_
  intro Γ K hnm hsz hQ
  refine kx_lv (lv' := [(0, .ref a0), (1, .int a1), (2, .int a2)]) rfl ?_
  unfold m_X0_changeAmount at hf
  refine kx_iload_n K dX0_changeAmount_0 rfl 1 rfl ?_
  refine kx_if_lt K 25 hf dX0_changeAmount_1 (by decide) (fun hf => ?_) (fun hf => ?_)
  · exact kx_vret K hQ (by decide) (by decide) (fun _ h => h) dX0_changeAmount_25 hf
  · refine kx_iload_n K dX0_changeAmount_4 rfl 1 rfl ?_
    refine kx_aload_n K dX0_changeAmount_5 rfl 0 rfl ?_
    refine kx_gi K f_X0_24 dX0_changeAmount_6 hf (fun x1 hf => ?_)
    refine kx_icmp_ge K 25 hf dX0_changeAmount_9 (by decide) (fun hf => ?_) (fun hf => ?_)
    · exact kx_vret K hQ (by decide) (by decide) (fun _ h => h) dX0_changeAmount_25 hf
    · refine kx_iload_n K dX0_changeAmount_12 rfl 1 rfl ?_
      refine kx_bipush (v := 10) K dX0_changeAmount_13 (by decide) ?_
      refine kx_icmp_ge K 25 hf dX0_changeAmount_15 (by decide) (fun hf => ?_) (fun hf => ?_)
      · exact kx_vret K hQ (by decide) (by decide) (fun _ h => h) dX0_changeAmount_25 hf
      · refine kx_aload_n K dX0_changeAmount_18 rfl 0 rfl ?_
        refine kx_gr K f_X0_21 dX0_changeAmount_19 hf (fun x2 hf => ?_)
        refine kx_iload_n K dX0_changeAmount_22 rfl 1 rfl ?_
        refine kx_iload_n K dX0_changeAmount_23 rfl 2 rfl ?_
        refine kx_ui K dX0_changeAmount_24 hf (fun σ3 hf => ?_)
        exact kx_vret K hQ (by decide) (by decide) (fun _ h => h) dX0_changeAmount_25 hf
def m_X5_isState (σ : ac_H) (a0 : Int32) (a1 : Int32) : Option (Int32 × ac_H) :=
  if a0 < 0 then
  (mo_z (0 : Int32) (some ((0 : Int32), σ)))
  else
  (if a0 < (9 : Int32) then
  (if a1 < 0 then
  (mo_z (0 : Int32) (some ((0 : Int32), σ)))
  else
  (if (15 : Int32) < a1 then
  (mo_z (0 : Int32) (some ((0 : Int32), σ)))
  else
  (mo_z (1 : Int32) (some ((1 : Int32), σ)))))
  else
  (mo_z (0 : Int32) (some ((0 : Int32), σ))))
set_option maxRecDepth 100000 in
set_option maxHeartbeats 4000000 in
theorem k_X5_isState {Λ : ex_L} {q : Nat} {σ σ' : ac_H} {a0 : Int32} {a1 : Int32} {v : Int32} (hf : m_X5_isState σ a0 a1 = some (v, σ')) : kx_C Λ yX5_isState (.code yX5_isState cX5_isState 2 (some .boolean)) ({ frames := 0, cells := 0, slots := 0, locals := 0 } : Room) [.int a0, .int a1] q σ (.inr (some (.int v))) σ' (fun z => z = q) := by
  refine kx_in (by decide +kernel) (Nat.le_of_ble_eq_true rfl) ?_
  intro Γ K hnm hsz hQ
  refine kx_lv (lv' := [(0, .int a0), (1, .int a1)]) rfl ?_
  unfold m_X5_isState at hf
  refine kx_iload_n K dX5_isState_0 rfl 0 rfl ?_
  refine kx_if_lt K 24 hf dX5_isState_1 (by decide) (fun hf => ?_) (fun hf => ?_)
  · refine kx_iconst (v := 0) K dX5_isState_24 (by decide) ?_
    exact kx_zret K hQ (by decide) (by decide) (fun _ h => h) dX5_isState_25 hf
  · refine kx_iload_n K dX5_isState_4 rfl 0 rfl ?_
    refine kx_bipush (v := 9) K dX5_isState_5 (by decide) ?_
    refine kx_icmp_ge K 24 hf dX5_isState_7 (by decide) (fun hf => ?_) (fun hf => ?_)
    · refine kx_iconst (v := 0) K dX5_isState_24 (by decide) ?_
      exact kx_zret K hQ (by decide) (by decide) (fun _ h => h) dX5_isState_25 hf
    · refine kx_iload_n K dX5_isState_10 rfl 1 rfl ?_
      refine kx_if_lt K 24 hf dX5_isState_11 (by decide) (fun hf => ?_) (fun hf => ?_)
      · refine kx_iconst (v := 0) K dX5_isState_24 (by decide) ?_
        exact kx_zret K hQ (by decide) (by decide) (fun _ h => h) dX5_isState_25 hf
      · refine kx_iload_n K dX5_isState_14 rfl 1 rfl ?_
        refine kx_bipush (v := 15) K dX5_isState_15 (by decide) ?_
        refine kx_icmp_gt K 24 hf dX5_isState_17 (by decide) (fun hf => ?_) (fun hf => ?_)
        · refine kx_iconst (v := 0) K dX5_isState_24 (by decide) ?_
          exact kx_zret K hQ (by decide) (by decide) (fun _ h => h) dX5_isState_25 hf
        · refine kx_iconst (v := 1) K dX5_isState_20 (by decide) ?_
          refine kx_goto K 25 dX5_isState_21 (by decide) ?_
          exact kx_zret K hQ (by decide) (by decide) (fun _ h => h) dX5_isState_25 hf
def m_X5_put (σ : ac_H) (a0 : Nat) (a1 : Int32) (a2 : Int32) : Option (Unit × ac_H) :=
  mo_cs (m_X5_isState σ a1 a2) fun x2 σ1 =>
  if x2 = 0 then
  (some ((), σ1))
  else
  (mo_gr σ1 a0 5 0 fun x3 =>
  mo_ai σ1 x3 0 a1 fun x4 =>
  mo_ui σ1 x3 0 a1 (x4 ||| ((1 : Int32) <<< (a2 &&& 31))) fun σ5 =>
  some ((), σ5))
set_option maxRecDepth 100000 in
set_option maxHeartbeats 4000000 in
theorem k_X5_put {Λ : ex_L} {q : Nat} {σ σ' : ac_H} {a0 : Nat} {a1 : Int32} {a2 : Int32} {v : Unit} (hf : m_X5_put σ a0 a1 a2 = some (v, σ')) : kx_C Λ yX5_put (.code yX5_put cX5_put 3 none) ({ frames := 1, cells := 0, slots := 0, locals := 21 } : Room) [.ref a0, .int a1, .int a2] q σ (.inr none) σ' (fun z => z = q) := by
  refine kx_in (by decide +kernel) (Nat.le_of_ble_eq_true rfl) ?_
  intro Γ K hnm hsz hQ
  refine kx_lv (lv' := [(0, .ref a0), (1, .int a1), (2, .int a2)]) rfl ?_
  unfold m_X5_put at hf
  refine kx_iload_n K dX5_put_0 rfl 1 rfl ?_
  refine kx_iload_n K dX5_put_1 rfl 2 rfl ?_
  refine kx_cs2i K c_X5_15 ⟨by decide, by decide, rfl, rfl, (by decide), (by decide)⟩ (Nat.le_of_ble_eq_true rfl) dX5_put_2 hf (fun _ _ _ h => k_X5_isState h) (fun x2 σ1 hf => ?_)
  refine kx_if_eq K 20 hf dX5_put_5 (by decide) (fun hf => ?_) (fun hf => ?_)
  · exact kx_vret K hQ (by decide) (by decide) (fun _ h => h) dX5_put_20 hf
  · refine kx_aload_n K dX5_put_8 rfl 0 rfl ?_
    refine kx_gr K f_X5_9 dX5_put_9 hf (fun x3 hf => ?_)
    refine kx_iload_n K dX5_put_12 rfl 1 rfl ?_
    refine kx_dup2 K dX5_put_13 rfl rfl ?_
    refine kx_ai K dX5_put_14 hf (fun x4 hf => ?_)
    refine kx_iconst (v := 1) K dX5_put_15 (by decide) ?_
    refine kx_iload_n K dX5_put_16 rfl 2 rfl ?_
    refine kx_ishl K dX5_put_17 ?_
    refine kx_ior K dX5_put_18 ?_
    refine kx_ui K dX5_put_19 hf (fun σ5 hf => ?_)
    exact kx_vret K hQ (by decide) (by decide) (fun _ h => h) dX5_put_20 hf
def m_X5_holds (σ : ac_H) (a0 : Nat) (a1 : Int32) (a2 : Int32) : Option (Int32 × ac_H) :=
  mo_cs (m_X5_isState σ a1 a2) fun x2 σ1 =>
  if x2 = 0 then
  (mo_z (0 : Int32) (some ((0 : Int32), σ1)))
  else
  (mo_gr σ1 a0 5 0 fun x3 =>
  mo_ai σ1 x3 0 a1 fun x4 =>
  if ((x4 >>> (a2 &&& 31)) &&& (1 : Int32)) = 0 then
  (mo_z (0 : Int32) (some ((0 : Int32), σ1)))
  else
  (mo_z (1 : Int32) (some ((1 : Int32), σ1))))
set_option maxRecDepth 100000 in
set_option maxHeartbeats 4000000 in
theorem k_X5_holds {Λ : ex_L} {q : Nat} {σ σ' : ac_H} {a0 : Nat} {a1 : Int32} {a2 : Int32} {v : Int32} (hf : m_X5_holds σ a0 a1 a2 = some (v, σ')) : kx_C Λ yX5_holds (.code yX5_holds cX5_holds 3 (some .boolean)) ({ frames := 1, cells := 0, slots := 0, locals := 21 } : Room) [.ref a0, .int a1, .int a2] q σ (.inr (some (.int v))) σ' (fun z => z = q) := by
  refine kx_in (by decide +kernel) (Nat.le_of_ble_eq_true rfl) ?_
  intro Γ K hnm hsz hQ
  refine kx_lv (lv' := [(0, .ref a0), (1, .int a1), (2, .int a2)]) rfl ?_
  unfold m_X5_holds at hf
  refine kx_iload_n K dX5_holds_0 rfl 1 rfl ?_
  refine kx_iload_n K dX5_holds_1 rfl 2 rfl ?_
  refine kx_cs2i K c_X5_15 ⟨by decide, by decide, rfl, rfl, (by decide), (by decide)⟩ (Nat.le_of_ble_eq_true rfl) dX5_holds_2 hf (fun _ _ _ h => k_X5_isState h) (fun x2 σ1 hf => ?_)
  refine kx_if_eq K 25 hf dX5_holds_5 (by decide) (fun hf => ?_) (fun hf => ?_)
  · refine kx_iconst (v := 0) K dX5_holds_25 (by decide) ?_
    exact kx_zret K hQ (by decide) (by decide) (fun _ h => h) dX5_holds_26 hf
  · refine kx_aload_n K dX5_holds_8 rfl 0 rfl ?_
    refine kx_gr K f_X5_9 dX5_holds_9 hf (fun x3 hf => ?_)
    refine kx_iload_n K dX5_holds_12 rfl 1 rfl ?_
    refine kx_ai K dX5_holds_13 hf (fun x4 hf => ?_)
    refine kx_iload_n K dX5_holds_14 rfl 2 rfl ?_
    refine kx_ishr K dX5_holds_15 ?_
    refine kx_iconst (v := 1) K dX5_holds_16 (by decide) ?_
    refine kx_iand K dX5_holds_17 ?_
    refine kx_if_eq K 25 hf dX5_holds_18 (by decide) (fun hf => ?_) (fun hf => ?_)
    · refine kx_iconst (v := 0) K dX5_holds_25 (by decide) ?_
      exact kx_zret K hQ (by decide) (by decide) (fun _ h => h) dX5_holds_26 hf
    · refine kx_iconst (v := 1) K dX5_holds_21 (by decide) ?_
      refine kx_goto K 26 dX5_holds_22 (by decide) ?_
      exact kx_zret K hQ (by decide) (by decide) (fun _ h => h) dX5_holds_26 hf
def m_J6_bitCount_0f7a4 (σ : ac_H) (a0 : Int32) : Option (Int32 × ac_H) :=
  some (((((((((a0 - (((a0).toUInt32 >>> (((1 : Int32)).toUInt32 &&& Int32.toUInt32 31)).toInt32 &&& (1431655765 : Int32))) &&& (858993459 : Int32)) + ((((a0 - (((a0).toUInt32 >>> (((1 : Int32)).toUInt32 &&& Int32.toUInt32 31)).toInt32 &&& (1431655765 : Int32)))).toUInt32 >>> (((2 : Int32)).toUInt32 &&& Int32.toUInt32 31)).toInt32 &&& (858993459 : Int32))) + (((((a0 - (((a0).toUInt32 >>> (((1 : Int32)).toUInt32 &&& Int32.toUInt32 31)).toInt32 &&& (1431655765 : Int32))) &&& (858993459 : Int32)) + ((((a0 - (((a0).toUInt32 >>> (((1 : Int32)).toUInt32 &&& Int32.toUInt32 31)).toInt32 &&& (1431655765 : Int32)))).toUInt32 >>> (((2 : Int32)).toUInt32 &&& Int32.toUInt32 31)).toInt32 &&& (858993459 : Int32)))).toUInt32 >>> (((4 : Int32)).toUInt32 &&& Int32.toUInt32 31)).toInt32) &&& (252645135 : Int32)) + (((((((a0 - (((a0).toUInt32 >>> (((1 : Int32)).toUInt32 &&& Int32.toUInt32 31)).toInt32 &&& (1431655765 : Int32))) &&& (858993459 : Int32)) + ((((a0 - (((a0).toUInt32 >>> (((1 : Int32)).toUInt32 &&& Int32.toUInt32 31)).toInt32 &&& (1431655765 : Int32)))).toUInt32 >>> (((2 : Int32)).toUInt32 &&& Int32.toUInt32 31)).toInt32 &&& (858993459 : Int32))) + (((((a0 - (((a0).toUInt32 >>> (((1 : Int32)).toUInt32 &&& Int32.toUInt32 31)).toInt32 &&& (1431655765 : Int32))) &&& (858993459 : Int32)) + ((((a0 - (((a0).toUInt32 >>> (((1 : Int32)).toUInt32 &&& Int32.toUInt32 31)).toInt32 &&& (1431655765 : Int32)))).toUInt32 >>> (((2 : Int32)).toUInt32 &&& Int32.toUInt32 31)).toInt32 &&& (858993459 : Int32)))).toUInt32 >>> (((4 : Int32)).toUInt32 &&& Int32.toUInt32 31)).toInt32) &&& (252645135 : Int32))).toUInt32 >>> (((8 : Int32)).toUInt32 &&& Int32.toUInt32 31)).toInt32) + ((((((((a0 - (((a0).toUInt32 >>> (((1 : Int32)).toUInt32 &&& Int32.toUInt32 31)).toInt32 &&& (1431655765 : Int32))) &&& (858993459 : Int32)) + ((((a0 - (((a0).toUInt32 >>> (((1 : Int32)).toUInt32 &&& Int32.toUInt32 31)).toInt32 &&& (1431655765 : Int32)))).toUInt32 >>> (((2 : Int32)).toUInt32 &&& Int32.toUInt32 31)).toInt32 &&& (858993459 : Int32))) + (((((a0 - (((a0).toUInt32 >>> (((1 : Int32)).toUInt32 &&& Int32.toUInt32 31)).toInt32 &&& (1431655765 : Int32))) &&& (858993459 : Int32)) + ((((a0 - (((a0).toUInt32 >>> (((1 : Int32)).toUInt32 &&& Int32.toUInt32 31)).toInt32 &&& (1431655765 : Int32)))).toUInt32 >>> (((2 : Int32)).toUInt32 &&& Int32.toUInt32 31)).toInt32 &&& (858993459 : Int32)))).toUInt32 >>> (((4 : Int32)).toUInt32 &&& Int32.toUInt32 31)).toInt32) &&& (252645135 : Int32)) + (((((((a0 - (((a0).toUInt32 >>> (((1 : Int32)).toUInt32 &&& Int32.toUInt32 31)).toInt32 &&& (1431655765 : Int32))) &&& (858993459 : Int32)) + ((((a0 - (((a0).toUInt32 >>> (((1 : Int32)).toUInt32 &&& Int32.toUInt32 31)).toInt32 &&& (1431655765 : Int32)))).toUInt32 >>> (((2 : Int32)).toUInt32 &&& Int32.toUInt32 31)).toInt32 &&& (858993459 : Int32))) + (((((a0 - (((a0).toUInt32 >>> (((1 : Int32)).toUInt32 &&& Int32.toUInt32 31)).toInt32 &&& (1431655765 : Int32))) &&& (858993459 : Int32)) + ((((a0 - (((a0).toUInt32 >>> (((1 : Int32)).toUInt32 &&& Int32.toUInt32 31)).toInt32 &&& (1431655765 : Int32)))).toUInt32 >>> (((2 : Int32)).toUInt32 &&& Int32.toUInt32 31)).toInt32 &&& (858993459 : Int32)))).toUInt32 >>> (((4 : Int32)).toUInt32 &&& Int32.toUInt32 31)).toInt32) &&& (252645135 : Int32))).toUInt32 >>> (((8 : Int32)).toUInt32 &&& Int32.toUInt32 31)).toInt32)).toUInt32 >>> (((16 : Int32)).toUInt32 &&& Int32.toUInt32 31)).toInt32) &&& (63 : Int32)), σ)
set_option maxRecDepth 100000 in
set_option maxHeartbeats 4000000 in
theorem k_J6_bitCount_0f7a4 {Λ : ex_L} {q : Nat} {σ σ' : ac_H} {a0 : Int32} {v : Int32} (hf : m_J6_bitCount_0f7a4 σ a0 = some (v, σ')) : kx_C Λ yJ6_bitCount_0f7a4 (.code yJ6_bitCount_0f7a4 cJ6_bitCount_0f7a4 1 (some .int)) ({ frames := 0, cells := 0, slots := 0, locals := 0 } : Room) [.int a0] q σ (.inr (some (.int v))) σ' (fun z => z = q) := by
  refine kx_in (by decide +kernel) (Nat.le_of_ble_eq_true rfl) ?_
  intro Γ K hnm hsz hQ
  refine kx_lv (lv' := [(0, .int a0)]) rfl ?_
  unfold m_J6_bitCount_0f7a4 at hf
  refine kx_iload_n K dJ6_bitCount_0f7a4_0 rfl 0 rfl ?_
  refine kx_iload_n K dJ6_bitCount_0f7a4_1 rfl 0 rfl ?_
  refine kx_iconst (v := 1) K dJ6_bitCount_0f7a4_2 (by decide) ?_
  refine kx_iushr K dJ6_bitCount_0f7a4_3 ?_
  refine kx_ldcw (v := 1431655765) K dJ6_bitCount_0f7a4_4 w_618 ?_
  refine kx_iand K dJ6_bitCount_0f7a4_7 ?_
  refine kx_isub K dJ6_bitCount_0f7a4_8 ?_
  refine kx_istore_n K [(0, .int (a0 - (((a0).toUInt32 >>> (((1 : Int32)).toUInt32 &&& Int32.toUInt32 31)).toInt32 &&& (1431655765 : Int32))))] dJ6_bitCount_0f7a4_9 rfl (by decide) rfl ?_
  refine kx_iload_n K dJ6_bitCount_0f7a4_10 rfl 0 rfl ?_
  refine kx_ldcw (v := 858993459) K dJ6_bitCount_0f7a4_11 w_619 ?_
  refine kx_iand K dJ6_bitCount_0f7a4_14 ?_
  refine kx_iload_n K dJ6_bitCount_0f7a4_15 rfl 0 rfl ?_
  refine kx_iconst (v := 2) K dJ6_bitCount_0f7a4_16 (by decide) ?_
  refine kx_iushr K dJ6_bitCount_0f7a4_17 ?_
  refine kx_ldcw (v := 858993459) K dJ6_bitCount_0f7a4_18 w_619 ?_
  refine kx_iand K dJ6_bitCount_0f7a4_21 ?_
  refine kx_iadd K dJ6_bitCount_0f7a4_22 ?_
  refine kx_istore_n K [(0, .int (((a0 - (((a0).toUInt32 >>> (((1 : Int32)).toUInt32 &&& Int32.toUInt32 31)).toInt32 &&& (1431655765 : Int32))) &&& (858993459 : Int32)) + ((((a0 - (((a0).toUInt32 >>> (((1 : Int32)).toUInt32 &&& Int32.toUInt32 31)).toInt32 &&& (1431655765 : Int32)))).toUInt32 >>> (((2 : Int32)).toUInt32 &&& Int32.toUInt32 31)).toInt32 &&& (858993459 : Int32))))] dJ6_bitCount_0f7a4_23 rfl (by decide) rfl ?_
  refine kx_iload_n K dJ6_bitCount_0f7a4_24 rfl 0 rfl ?_
  refine kx_iload_n K dJ6_bitCount_0f7a4_25 rfl 0 rfl ?_
  refine kx_iconst (v := 4) K dJ6_bitCount_0f7a4_26 (by decide) ?_
  refine kx_iushr K dJ6_bitCount_0f7a4_27 ?_
  refine kx_iadd K dJ6_bitCount_0f7a4_28 ?_
  refine kx_ldcw (v := 252645135) K dJ6_bitCount_0f7a4_29 w_620 ?_
  refine kx_iand K dJ6_bitCount_0f7a4_32 ?_
  refine kx_istore_n K [(0, .int (((((a0 - (((a0).toUInt32 >>> (((1 : Int32)).toUInt32 &&& Int32.toUInt32 31)).toInt32 &&& (1431655765 : Int32))) &&& (858993459 : Int32)) + ((((a0 - (((a0).toUInt32 >>> (((1 : Int32)).toUInt32 &&& Int32.toUInt32 31)).toInt32 &&& (1431655765 : Int32)))).toUInt32 >>> (((2 : Int32)).toUInt32 &&& Int32.toUInt32 31)).toInt32 &&& (858993459 : Int32))) + (((((a0 - (((a0).toUInt32 >>> (((1 : Int32)).toUInt32 &&& Int32.toUInt32 31)).toInt32 &&& (1431655765 : Int32))) &&& (858993459 : Int32)) + ((((a0 - (((a0).toUInt32 >>> (((1 : Int32)).toUInt32 &&& Int32.toUInt32 31)).toInt32 &&& (1431655765 : Int32)))).toUInt32 >>> (((2 : Int32)).toUInt32 &&& Int32.toUInt32 31)).toInt32 &&& (858993459 : Int32)))).toUInt32 >>> (((4 : Int32)).toUInt32 &&& Int32.toUInt32 31)).toInt32) &&& (252645135 : Int32)))] dJ6_bitCount_0f7a4_33 rfl (by decide) rfl ?_
  refine kx_iload_n K dJ6_bitCount_0f7a4_34 rfl 0 rfl ?_
  refine kx_iload_n K dJ6_bitCount_0f7a4_35 rfl 0 rfl ?_
  refine kx_bipush (v := 8) K dJ6_bitCount_0f7a4_36 (by decide) ?_
  refine kx_iushr K dJ6_bitCount_0f7a4_38 ?_
  refine kx_iadd K dJ6_bitCount_0f7a4_39 ?_
  refine kx_istore_n K [(0, .int ((((((a0 - (((a0).toUInt32 >>> (((1 : Int32)).toUInt32 &&& Int32.toUInt32 31)).toInt32 &&& (1431655765 : Int32))) &&& (858993459 : Int32)) + ((((a0 - (((a0).toUInt32 >>> (((1 : Int32)).toUInt32 &&& Int32.toUInt32 31)).toInt32 &&& (1431655765 : Int32)))).toUInt32 >>> (((2 : Int32)).toUInt32 &&& Int32.toUInt32 31)).toInt32 &&& (858993459 : Int32))) + (((((a0 - (((a0).toUInt32 >>> (((1 : Int32)).toUInt32 &&& Int32.toUInt32 31)).toInt32 &&& (1431655765 : Int32))) &&& (858993459 : Int32)) + ((((a0 - (((a0).toUInt32 >>> (((1 : Int32)).toUInt32 &&& Int32.toUInt32 31)).toInt32 &&& (1431655765 : Int32)))).toUInt32 >>> (((2 : Int32)).toUInt32 &&& Int32.toUInt32 31)).toInt32 &&& (858993459 : Int32)))).toUInt32 >>> (((4 : Int32)).toUInt32 &&& Int32.toUInt32 31)).toInt32) &&& (252645135 : Int32)) + (((((((a0 - (((a0).toUInt32 >>> (((1 : Int32)).toUInt32 &&& Int32.toUInt32 31)).toInt32 &&& (1431655765 : Int32))) &&& (858993459 : Int32)) + ((((a0 - (((a0).toUInt32 >>> (((1 : Int32)).toUInt32 &&& Int32.toUInt32 31)).toInt32 &&& (1431655765 : Int32)))).toUInt32 >>> (((2 : Int32)).toUInt32 &&& Int32.toUInt32 31)).toInt32 &&& (858993459 : Int32))) + (((((a0 - (((a0).toUInt32 >>> (((1 : Int32)).toUInt32 &&& Int32.toUInt32 31)).toInt32 &&& (1431655765 : Int32))) &&& (858993459 : Int32)) + ((((a0 - (((a0).toUInt32 >>> (((1 : Int32)).toUInt32 &&& Int32.toUInt32 31)).toInt32 &&& (1431655765 : Int32)))).toUInt32 >>> (((2 : Int32)).toUInt32 &&& Int32.toUInt32 31)).toInt32 &&& (858993459 : Int32)))).toUInt32 >>> (((4 : Int32)).toUInt32 &&& Int32.toUInt32 31)).toInt32) &&& (252645135 : Int32))).toUInt32 >>> (((8 : Int32)).toUInt32 &&& Int32.toUInt32 31)).toInt32))] dJ6_bitCount_0f7a4_40 rfl (by decide) rfl ?_
  refine kx_iload_n K dJ6_bitCount_0f7a4_41 rfl 0 rfl ?_
  refine kx_iload_n K dJ6_bitCount_0f7a4_42 rfl 0 rfl ?_
  refine kx_bipush (v := 16) K dJ6_bitCount_0f7a4_43 (by decide) ?_
  refine kx_iushr K dJ6_bitCount_0f7a4_45 ?_
  refine kx_iadd K dJ6_bitCount_0f7a4_46 ?_
  refine kx_istore_n K [(0, .int (((((((a0 - (((a0).toUInt32 >>> (((1 : Int32)).toUInt32 &&& Int32.toUInt32 31)).toInt32 &&& (1431655765 : Int32))) &&& (858993459 : Int32)) + ((((a0 - (((a0).toUInt32 >>> (((1 : Int32)).toUInt32 &&& Int32.toUInt32 31)).toInt32 &&& (1431655765 : Int32)))).toUInt32 >>> (((2 : Int32)).toUInt32 &&& Int32.toUInt32 31)).toInt32 &&& (858993459 : Int32))) + (((((a0 - (((a0).toUInt32 >>> (((1 : Int32)).toUInt32 &&& Int32.toUInt32 31)).toInt32 &&& (1431655765 : Int32))) &&& (858993459 : Int32)) + ((((a0 - (((a0).toUInt32 >>> (((1 : Int32)).toUInt32 &&& Int32.toUInt32 31)).toInt32 &&& (1431655765 : Int32)))).toUInt32 >>> (((2 : Int32)).toUInt32 &&& Int32.toUInt32 31)).toInt32 &&& (858993459 : Int32)))).toUInt32 >>> (((4 : Int32)).toUInt32 &&& Int32.toUInt32 31)).toInt32) &&& (252645135 : Int32)) + (((((((a0 - (((a0).toUInt32 >>> (((1 : Int32)).toUInt32 &&& Int32.toUInt32 31)).toInt32 &&& (1431655765 : Int32))) &&& (858993459 : Int32)) + ((((a0 - (((a0).toUInt32 >>> (((1 : Int32)).toUInt32 &&& Int32.toUInt32 31)).toInt32 &&& (1431655765 : Int32)))).toUInt32 >>> (((2 : Int32)).toUInt32 &&& Int32.toUInt32 31)).toInt32 &&& (858993459 : Int32))) + (((((a0 - (((a0).toUInt32 >>> (((1 : Int32)).toUInt32 &&& Int32.toUInt32 31)).toInt32 &&& (1431655765 : Int32))) &&& (858993459 : Int32)) + ((((a0 - (((a0).toUInt32 >>> (((1 : Int32)).toUInt32 &&& Int32.toUInt32 31)).toInt32 &&& (1431655765 : Int32)))).toUInt32 >>> (((2 : Int32)).toUInt32 &&& Int32.toUInt32 31)).toInt32 &&& (858993459 : Int32)))).toUInt32 >>> (((4 : Int32)).toUInt32 &&& Int32.toUInt32 31)).toInt32) &&& (252645135 : Int32))).toUInt32 >>> (((8 : Int32)).toUInt32 &&& Int32.toUInt32 31)).toInt32) + ((((((((a0 - (((a0).toUInt32 >>> (((1 : Int32)).toUInt32 &&& Int32.toUInt32 31)).toInt32 &&& (1431655765 : Int32))) &&& (858993459 : Int32)) + ((((a0 - (((a0).toUInt32 >>> (((1 : Int32)).toUInt32 &&& Int32.toUInt32 31)).toInt32 &&& (1431655765 : Int32)))).toUInt32 >>> (((2 : Int32)).toUInt32 &&& Int32.toUInt32 31)).toInt32 &&& (858993459 : Int32))) + (((((a0 - (((a0).toUInt32 >>> (((1 : Int32)).toUInt32 &&& Int32.toUInt32 31)).toInt32 &&& (1431655765 : Int32))) &&& (858993459 : Int32)) + ((((a0 - (((a0).toUInt32 >>> (((1 : Int32)).toUInt32 &&& Int32.toUInt32 31)).toInt32 &&& (1431655765 : Int32)))).toUInt32 >>> (((2 : Int32)).toUInt32 &&& Int32.toUInt32 31)).toInt32 &&& (858993459 : Int32)))).toUInt32 >>> (((4 : Int32)).toUInt32 &&& Int32.toUInt32 31)).toInt32) &&& (252645135 : Int32)) + (((((((a0 - (((a0).toUInt32 >>> (((1 : Int32)).toUInt32 &&& Int32.toUInt32 31)).toInt32 &&& (1431655765 : Int32))) &&& (858993459 : Int32)) + ((((a0 - (((a0).toUInt32 >>> (((1 : Int32)).toUInt32 &&& Int32.toUInt32 31)).toInt32 &&& (1431655765 : Int32)))).toUInt32 >>> (((2 : Int32)).toUInt32 &&& Int32.toUInt32 31)).toInt32 &&& (858993459 : Int32))) + (((((a0 - (((a0).toUInt32 >>> (((1 : Int32)).toUInt32 &&& Int32.toUInt32 31)).toInt32 &&& (1431655765 : Int32))) &&& (858993459 : Int32)) + ((((a0 - (((a0).toUInt32 >>> (((1 : Int32)).toUInt32 &&& Int32.toUInt32 31)).toInt32 &&& (1431655765 : Int32)))).toUInt32 >>> (((2 : Int32)).toUInt32 &&& Int32.toUInt32 31)).toInt32 &&& (858993459 : Int32)))).toUInt32 >>> (((4 : Int32)).toUInt32 &&& Int32.toUInt32 31)).toInt32) &&& (252645135 : Int32))).toUInt32 >>> (((8 : Int32)).toUInt32 &&& Int32.toUInt32 31)).toInt32)).toUInt32 >>> (((16 : Int32)).toUInt32 &&& Int32.toUInt32 31)).toInt32))] dJ6_bitCount_0f7a4_47 rfl (by decide) rfl ?_
  refine kx_iload_n K dJ6_bitCount_0f7a4_48 rfl 0 rfl ?_
  refine kx_bipush (v := 63) K dJ6_bitCount_0f7a4_49 (by decide) ?_
  refine kx_iand K dJ6_bitCount_0f7a4_51 ?_
  exact kx_iret K hQ (by decide) (by decide) (fun _ h => h) dJ6_bitCount_0f7a4_52 hf
def m_X5_howMany_l4  (a0 : Nat) : Nat → ac_H → Int32 → Int32 → Option (Int32 × ac_H)
  | 0, _, _, _ => none
  | n + 1, σ3, v1, v2 =>
    if v2 < (9 : Int32) then
    (mo_gr σ3 a0 5 0 fun x4 =>
    mo_ai σ3 x4 0 v2 fun x5 =>
    mo_cs (m_J6_bitCount_0f7a4 σ3 x5) fun x7 σ6 =>
    m_X5_howMany_l4 a0 n σ6 (v1 + x7) (v2 + 1))
    else
    (some (v1, σ3))
def m_X5_howMany (σ : ac_H) (a0 : Nat) : Option (Int32 × ac_H) :=
  m_X5_howMany_l4 a0 hN_f σ (0 : Int32) (0 : Int32)
set_option maxRecDepth 100000 in
set_option maxHeartbeats 4000000 in
theorem k_X5_howMany {Λ : ex_L} {q : Nat} {σ σ' : ac_H} {a0 : Nat} {v : Int32} (hf : m_X5_howMany σ a0 = some (v, σ')) : kx_C Λ yX5_howMany (.code yX5_howMany cX5_howMany 3 (some .int)) ({ frames := 1, cells := 0, slots := 0, locals := 20 } : Room) [.ref a0] q σ (.inr (some (.int v))) σ' (fun z => z = q) := by
  refine kx_in (by decide +kernel) (Nat.le_of_ble_eq_true rfl) ?_
  intro Γ K hnm hsz hQ
  refine kx_lv (lv' := [(0, .ref a0)]) rfl ?_
  have B4 : ∀ (n4 : Nat) (σ3 : ac_H) (v1 : Int32) (v2 : Int32), m_X5_howMany_l4 a0 n4 σ3 v1 v2 = some (v, σ') → kx_S Λ Γ 3 (fun z => z = q) σ3 (0) (0) 4 [(0, .ref a0), (1, .int v1), (2, .int v2)] [] := by
    intro n4
    induction n4 with
    | zero =>
      intro σ3 v1 v2 hf
      rw [m_X5_howMany_l4] at hf
      cases hf
    | succ n4 ih4 =>
      intro σ3 v1 v2 hf
      rw [m_X5_howMany_l4] at hf
      refine kx_iload_n K dX5_howMany_4 rfl 2 rfl ?_
      refine kx_bipush (v := 9) K dX5_howMany_5 (by decide) ?_
      refine kx_icmp_ge K 28 hf dX5_howMany_7 (by decide) (fun hf => ?_) (fun hf => ?_)
      · refine kx_iload_n K dX5_howMany_28 rfl 1 rfl ?_
        exact kx_iret K hQ (by decide) (by decide) (fun _ h => h) dX5_howMany_29 hf
      · refine kx_iload_n K dX5_howMany_10 rfl 1 rfl ?_
        refine kx_aload_n K dX5_howMany_11 rfl 0 rfl ?_
        refine kx_gr K f_X5_9 dX5_howMany_12 hf (fun x4 hf => ?_)
        refine kx_iload_n K dX5_howMany_15 rfl 2 rfl ?_
        refine kx_ai K dX5_howMany_16 hf (fun x5 hf => ?_)
        refine kx_cs1i K c_X5_23 ⟨by decide, by decide, rfl, rfl, (by decide), (by decide)⟩ (Nat.le_of_ble_eq_true rfl) dX5_howMany_17 hf (fun _ _ _ h => k_J6_bitCount_0f7a4 h) (fun x7 σ6 hf => ?_)
        refine kx_iadd K dX5_howMany_20 ?_
        refine kx_istore_n K [(1, .int (v1 + x7)), (0, .ref a0), (2, .int v2)] dX5_howMany_21 rfl (by decide) rfl ?_
        refine kx_iinc (v := (v2 + 1)) K [(2, .int (v2 + 1)), (1, .int (v1 + x7)), (0, .ref a0)] dX5_howMany_22 2 rfl rfl (by decide) rfl ?_
        refine kx_goto K 4 dX5_howMany_25 (by decide) ?_
        refine kx_sub [(0, .ref a0), (1, .int (v1 + x7)), (2, .int (v2 + 1))] [2, 1, 0] rfl ?_
        exact ih4 _ _ _ hf
  unfold m_X5_howMany at hf
  refine kx_iconst (v := 0) K dX5_howMany_0 (by decide) ?_
  refine kx_istore_n K [(1, .int (0 : Int32)), (0, .ref a0)] dX5_howMany_1 rfl (by decide) rfl ?_
  refine kx_iconst (v := 0) K dX5_howMany_2 (by decide) ?_
  refine kx_istore_n K [(2, .int (0 : Int32)), (1, .int (0 : Int32)), (0, .ref a0)] dX5_howMany_3 rfl (by decide) rfl ?_
  refine kx_sub [(0, .ref a0), (1, .int (0 : Int32)), (2, .int (0 : Int32))] [2, 1, 0] rfl ?_
  exact B4 hN_f _ _ _ hf
def m_X5_addAll_l7  (a0 : Nat) (a1 : Nat) : Nat → ac_H → Int32 → Int32 → Option (Int32 × ac_H)
  | 0, _, _, _ => none
  | n + 1, σ5, v3, v4 =>
    if v4 < (9 : Int32) then
    (mo_gr σ5 a0 5 0 fun x8 =>
    mo_ai σ5 x8 0 v4 fun x9 =>
    mo_gr σ5 a1 5 0 fun x10 =>
    mo_ai σ5 x10 0 v4 fun x11 =>
    mo_ui σ5 x8 0 v4 (x9 ||| x11) fun σ12 =>
    m_X5_addAll_l7 a0 a1 n σ12 v3 (v4 + 1))
    else
    (mo_cv σ5 a0 5 (m_X5_howMany σ5 a0) fun x7 σ6 =>
    some ((x7 - v3), σ6))
def m_X5_addAll (σ : ac_H) (a0 : Nat) (a1 : Nat) : Option (Int32 × ac_H) :=
  mo_cv σ a0 5 (m_X5_howMany σ a0) fun x2 σ1 =>
  m_X5_addAll_l7 a0 a1 hN_f σ1 x2 (0 : Int32)
set_option maxRecDepth 100000 in
set_option maxHeartbeats 4000000 in
theorem k_X5_addAll {Λ : ex_L} {q : Nat} {σ σ' : ac_H} {a0 : Nat} {a1 : Nat} {v : Int32} (hf : m_X5_addAll σ a0 a1 = some (v, σ')) : kx_C Λ yX5_addAll (.code yX5_addAll cX5_addAll 4 (some .int)) ({ frames := 2, cells := 0, slots := 0, locals := 42 } : Room) [.ref a0, .ref a1] q σ (.inr (some (.int v))) σ' (fun z => z = q) := by
  refine kx_in (by decide +kernel) (Nat.le_of_ble_eq_true rfl) ?_
  intro Γ K hnm hsz hQ
  refine kx_lv (lv' := [(0, .ref a0), (1, .ref a1)]) rfl ?_
  have B7 : ∀ (n7 : Nat) (σ5 : ac_H) (v3 : Int32) (v4 : Int32), m_X5_addAll_l7 a0 a1 n7 σ5 v3 v4 = some (v, σ') → kx_S Λ Γ 4 (fun z => z = q) σ5 (0) (0) 7 [(0, .ref a0), (1, .ref a1), (2, .int v3), (3, .int v4)] [] := by
    intro n7
    induction n7 with
    | zero =>
      intro σ5 v3 v4 hf
      rw [m_X5_addAll_l7] at hf
      cases hf
    | succ n7 ih7 =>
      intro σ5 v3 v4 hf
      rw [m_X5_addAll_l7] at hf
      refine kx_iload_n K dX5_addAll_7 rfl 3 rfl ?_
      refine kx_bipush (v := 9) K dX5_addAll_8 (by decide) ?_
      refine kx_icmp_ge K 34 hf dX5_addAll_10 (by decide) (fun hf => ?_) (fun hf => ?_)
      · refine kx_aload_n K dX5_addAll_34 rfl 0 rfl ?_
        refine kx_cv0i K c_X5_19 ⟨by decide, by decide, rfl, rfl, (by decide), (by decide)⟩ (Nat.le_of_ble_eq_true rfl) dX5_addAll_35 hf (fun _ _ _ h => k_X5_howMany h) (fun x7 σ6 hf => ?_)
        refine kx_iload_n K dX5_addAll_38 rfl 2 rfl ?_
        refine kx_isub K dX5_addAll_39 ?_
        exact kx_iret K hQ (by decide) (by decide) (fun _ h => h) dX5_addAll_40 hf
      · refine kx_aload_n K dX5_addAll_13 rfl 0 rfl ?_
        refine kx_gr K f_X5_9 dX5_addAll_14 hf (fun x8 hf => ?_)
        refine kx_iload_n K dX5_addAll_17 rfl 3 rfl ?_
        refine kx_dup2 K dX5_addAll_18 rfl rfl ?_
        refine kx_ai K dX5_addAll_19 hf (fun x9 hf => ?_)
        refine kx_aload_n K dX5_addAll_20 rfl 1 rfl ?_
        refine kx_gr K f_X5_9 dX5_addAll_21 hf (fun x10 hf => ?_)
        refine kx_iload_n K dX5_addAll_24 rfl 3 rfl ?_
        refine kx_ai K dX5_addAll_25 hf (fun x11 hf => ?_)
        refine kx_ior K dX5_addAll_26 ?_
        refine kx_ui K dX5_addAll_27 hf (fun σ12 hf => ?_)
        refine kx_iinc (v := (v4 + 1)) K [(3, .int (v4 + 1)), (0, .ref a0), (1, .ref a1), (2, .int v3)] dX5_addAll_28 3 rfl rfl (by decide) rfl ?_
        refine kx_goto K 7 dX5_addAll_31 (by decide) ?_
        refine kx_sub [(0, .ref a0), (1, .ref a1), (2, .int v3), (3, .int (v4 + 1))] [1, 2, 3, 0] rfl ?_
        exact ih7 _ _ _ hf
  unfold m_X5_addAll at hf
  refine kx_aload_n K dX5_addAll_0 rfl 0 rfl ?_
  refine kx_cv0i K c_X5_19 ⟨by decide, by decide, rfl, rfl, (by decide), (by decide)⟩ (Nat.le_of_ble_eq_true rfl) dX5_addAll_1 hf (fun _ _ _ h => k_X5_howMany h) (fun x2 σ1 hf => ?_)
  refine kx_istore_n K [(2, .int x2), (0, .ref a0), (1, .ref a1)] dX5_addAll_4 rfl (by decide) rfl ?_
  refine kx_iconst (v := 0) K dX5_addAll_5 (by decide) ?_
  refine kx_istore_n K [(3, .int (0 : Int32)), (2, .int x2), (0, .ref a0), (1, .ref a1)] dX5_addAll_6 rfl (by decide) rfl ?_
  refine kx_sub [(0, .ref a0), (1, .ref a1), (2, .int x2), (3, .int (0 : Int32))] [2, 3, 1, 0] rfl ?_
  exact B7 hN_f _ _ _ hf

def m_X7_begins_l3  (a0 : Nat) (a1 : Int32) (a2 : Int32) (a3 : Int32) : Nat → ac_H → Int32 → Option (Unit × ac_H)
  | 0, _, _ => none
  | n + 1, σ2, v1 =>
    if v1 < (183 : Int32) then
    (mo_ui σ2 a0 0 v1 (0 : Int32) fun σ11 =>
    m_X7_begins_l3 a0 a1 a2 a3 n σ11 (v1 + 1))
    else
    (mo_ui σ2 a0 0 (0 : Int32) a1 fun σ3 =>
    mo_ui σ3 a0 0 (1 : Int32) a2 fun σ4 =>
    mo_ui σ4 a0 0 (2 : Int32) a3 fun σ5 =>
    mo_ui σ5 a0 0 (3 : Int32) (1 : Int32) fun σ6 =>
    mo_ui σ6 a0 0 (4 : Int32) (8 : Int32) fun σ7 =>
    mo_ui σ7 a0 0 (5 : Int32) (2 : Int32) fun σ8 =>
    mo_ui σ8 a0 0 (6 : Int32) (4 : Int32) fun σ9 =>
    mo_ui σ9 a0 0 (7 : Int32) (50 : Int32) fun σ10 =>
    some ((), σ10))
def m_X7_begins (σ : ac_H) (a0 : Nat) (a1 : Int32) (a2 : Int32) (a3 : Int32) : Option (Unit × ac_H) :=
  m_X7_begins_l3 a0 a1 a2 a3 hN_f σ (0 : Int32)
set_option maxRecDepth 100000 in
set_option maxHeartbeats 4000000 in
theorem k_X7_begins {Λ : ex_L} {q : Nat} {σ σ' : ac_H} {a0 : Nat} {a1 : Int32} {a2 : Int32} {a3 : Int32} {v : Unit} (hf : m_X7_begins σ a0 a1 a2 a3 = some (v, σ')) : kx_C Λ yX7_begins (.code yX7_begins cX7_begins 5 none) ({ frames := 0, cells := 0, slots := 0, locals := 0 } : Room) [.ref a0, .int a1, .int a2, .int a3] q σ (.inr none) σ' (fun z => z = q) := by
  refine kx_in (by decide +kernel) (Nat.le_of_ble_eq_true rfl) ?_
  intro Γ K hnm hsz hQ
  refine kx_lv (lv' := [(0, .ref a0), (1, .int a1), (2, .int a2), (3, .int a3)]) rfl ?_
  have B3 : ∀ (n3 : Nat) (σ2 : ac_H) (v1 : Int32), m_X7_begins_l3 a0 a1 a2 a3 n3 σ2 v1 = some (v, σ') → kx_S Λ Γ 5 (fun z => z = q) σ2 (0) (0) 3 [(0, .ref a0), (1, .int a1), (2, .int a2), (3, .int a3), (4, .int v1)] [] := by
    intro n3
    induction n3 with
    | zero =>
      intro σ2 v1 hf
      rw [m_X7_begins_l3] at hf
      cases hf
    | succ n3 ih3 =>
      intro σ2 v1 hf
      rw [m_X7_begins_l3] at hf
      refine kx_iload K dX7_begins_3 4 rfl ?_
      refine kx_sipush (v := 183) K dX7_begins_5 (by decide) ?_
      refine kx_icmp_ge K 22 hf dX7_begins_8 (by decide) (fun hf => ?_) (fun hf => ?_)
      · refine kx_aload_n K dX7_begins_22 rfl 0 rfl ?_
        refine kx_iconst (v := 0) K dX7_begins_23 (by decide) ?_
        refine kx_iload_n K dX7_begins_24 rfl 1 rfl ?_
        refine kx_ui K dX7_begins_25 hf (fun σ3 hf => ?_)
        refine kx_aload_n K dX7_begins_26 rfl 0 rfl ?_
        refine kx_iconst (v := 1) K dX7_begins_27 (by decide) ?_
        refine kx_iload_n K dX7_begins_28 rfl 2 rfl ?_
        refine kx_ui K dX7_begins_29 hf (fun σ4 hf => ?_)
        refine kx_aload_n K dX7_begins_30 rfl 0 rfl ?_
        refine kx_iconst (v := 2) K dX7_begins_31 (by decide) ?_
        refine kx_iload_n K dX7_begins_32 rfl 3 rfl ?_
        refine kx_ui K dX7_begins_33 hf (fun σ5 hf => ?_)
        refine kx_aload_n K dX7_begins_34 rfl 0 rfl ?_
        refine kx_iconst (v := 3) K dX7_begins_35 (by decide) ?_
        refine kx_iconst (v := 1) K dX7_begins_36 (by decide) ?_
        refine kx_ui K dX7_begins_37 hf (fun σ6 hf => ?_)
        refine kx_aload_n K dX7_begins_38 rfl 0 rfl ?_
        refine kx_iconst (v := 4) K dX7_begins_39 (by decide) ?_
        refine kx_bipush (v := 8) K dX7_begins_40 (by decide) ?_
        refine kx_ui K dX7_begins_42 hf (fun σ7 hf => ?_)
        refine kx_aload_n K dX7_begins_43 rfl 0 rfl ?_
        refine kx_iconst (v := 5) K dX7_begins_44 (by decide) ?_
        refine kx_iconst (v := 2) K dX7_begins_45 (by decide) ?_
        refine kx_ui K dX7_begins_46 hf (fun σ8 hf => ?_)
        refine kx_aload_n K dX7_begins_47 rfl 0 rfl ?_
        refine kx_bipush (v := 6) K dX7_begins_48 (by decide) ?_
        refine kx_iconst (v := 4) K dX7_begins_50 (by decide) ?_
        refine kx_ui K dX7_begins_51 hf (fun σ9 hf => ?_)
        refine kx_aload_n K dX7_begins_52 rfl 0 rfl ?_
        refine kx_bipush (v := 7) K dX7_begins_53 (by decide) ?_
        refine kx_bipush (v := 50) K dX7_begins_55 (by decide) ?_
        refine kx_ui K dX7_begins_57 hf (fun σ10 hf => ?_)
        exact kx_vret K hQ (by decide) (by decide) (fun _ h => h) dX7_begins_58 hf
      · refine kx_aload_n K dX7_begins_11 rfl 0 rfl ?_
        refine kx_iload K dX7_begins_12 4 rfl ?_
        refine kx_iconst (v := 0) K dX7_begins_14 (by decide) ?_
        refine kx_ui K dX7_begins_15 hf (fun σ11 hf => ?_)
        refine kx_iinc (v := (v1 + 1)) K [(4, .int (v1 + 1)), (0, .ref a0), (1, .int a1), (2, .int a2), (3, .int a3)] dX7_begins_16 4 rfl rfl (by decide) rfl ?_
        refine kx_goto K 3 dX7_begins_19 (by decide) ?_
        refine kx_sub [(0, .ref a0), (1, .int a1), (2, .int a2), (3, .int a3), (4, .int (v1 + 1))] [1, 2, 3, 4, 0] rfl ?_
        exact ih3 _ _ hf
  unfold m_X7_begins at hf
  refine kx_iconst (v := 0) K dX7_begins_0 (by decide) ?_
  refine kx_istore K [(4, .int (0 : Int32)), (0, .ref a0), (1, .int a1), (2, .int a2), (3, .int a3)] dX7_begins_1 (by decide) rfl ?_
  refine kx_sub [(0, .ref a0), (1, .int a1), (2, .int a2), (3, .int a3), (4, .int (0 : Int32))] [1, 2, 3, 4, 0] rfl ?_
  exact B3 hN_f _ _ hf
def m_X7_thrown (σ : ac_H) (a0 : Nat) : Option (Int32 × ac_H) :=
  mo_gi σ a0 7 0 fun x1 =>
  some (x1, σ)
set_option maxRecDepth 100000 in
set_option maxHeartbeats 4000000 in
theorem k_X7_thrown {Λ : ex_L} {q : Nat} {σ σ' : ac_H} {a0 : Nat} {v : Int32} (hf : m_X7_thrown σ a0 = some (v, σ')) : kx_C Λ yX7_thrown (.code yX7_thrown cX7_thrown 1 (some .int)) ({ frames := 0, cells := 0, slots := 0, locals := 0 } : Room) [.ref a0] q σ (.inr (some (.int v))) σ' (fun z => z = q) := by
  refine kx_in (by decide +kernel) (Nat.le_of_ble_eq_true rfl) ?_
  intro Γ K hnm hsz hQ
  refine kx_lv (lv' := [(0, .ref a0)]) rfl ?_
  unfold m_X7_thrown at hf
  refine kx_aload_n K dX7_thrown_0 rfl 0 rfl ?_
  refine kx_gi K f_X7_65 dX7_thrown_1 hf (fun x1 hf => ?_)
  exact kx_iret K hQ (by decide) (by decide) (fun _ h => h) dX7_thrown_4 hf
def m_X7_within (σ : ac_H) (a0 : Int32) (a1 : Int32) (a2 : Int32) : Option (Int32 × ac_H) :=
  if a0 < a1 then
  (mo_z (0 : Int32) (some ((0 : Int32), σ)))
  else
  (if a2 < a0 then
  (mo_z (0 : Int32) (some ((0 : Int32), σ)))
  else
  (mo_z (1 : Int32) (some ((1 : Int32), σ))))
set_option maxRecDepth 100000 in
set_option maxHeartbeats 4000000 in
theorem k_X7_within {Λ : ex_L} {q : Nat} {σ σ' : ac_H} {a0 : Int32} {a1 : Int32} {a2 : Int32} {v : Int32} (hf : m_X7_within σ a0 a1 a2 = some (v, σ')) : kx_C Λ yX7_within (.code yX7_within cX7_within 3 (some .boolean)) ({ frames := 0, cells := 0, slots := 0, locals := 0 } : Room) [.int a0, .int a1, .int a2] q σ (.inr (some (.int v))) σ' (fun z => z = q) := by
  refine kx_in (by decide +kernel) (Nat.le_of_ble_eq_true rfl) ?_
  intro Γ K hnm hsz hQ
  refine kx_lv (lv' := [(0, .int a0), (1, .int a1), (2, .int a2)]) rfl ?_
  unfold m_X7_within at hf
  refine kx_iload_n K dX7_within_0 rfl 0 rfl ?_
  refine kx_iload_n K dX7_within_1 rfl 1 rfl ?_
  refine kx_icmp_lt K 14 hf dX7_within_2 (by decide) (fun hf => ?_) (fun hf => ?_)
  · refine kx_iconst (v := 0) K dX7_within_14 (by decide) ?_
    exact kx_zret K hQ (by decide) (by decide) (fun _ h => h) dX7_within_15 hf
  · refine kx_iload_n K dX7_within_5 rfl 0 rfl ?_
    refine kx_iload_n K dX7_within_6 rfl 2 rfl ?_
    refine kx_icmp_gt K 14 hf dX7_within_7 (by decide) (fun hf => ?_) (fun hf => ?_)
    · refine kx_iconst (v := 0) K dX7_within_14 (by decide) ?_
      exact kx_zret K hQ (by decide) (by decide) (fun _ h => h) dX7_within_15 hf
    · refine kx_iconst (v := 1) K dX7_within_10 (by decide) ?_
      refine kx_goto K 15 dX7_within_11 (by decide) ?_
      exact kx_zret K hQ (by decide) (by decide) (fun _ h => h) dX7_within_15 hf
def m_X7_throwsIf_j16  (a0 : Nat) (σ3 : ac_H) : Option (Int32 × ac_H) :=
  mo_gi σ3 a0 7 0 fun x4 =>
  if 0 < x4 then
  (mo_z (1 : Int32) (some ((1 : Int32), σ3)))
  else
  (mo_z (0 : Int32) (some ((0 : Int32), σ3)))
def m_X7_throwsIf (σ : ac_H) (a0 : Nat) (a1 : Int32) (a2 : Int32) : Option (Int32 × ac_H) :=
  mo_gi σ a0 7 0 fun x1 =>
  if x1 = 0 then
  (if a1 = 0 then
  (m_X7_throwsIf_j16 a0 σ)
  else
  (mo_pv σ a0 7 0 (.int a2) fun σ2 =>
  m_X7_throwsIf_j16 a0 σ2))
  else
  (m_X7_throwsIf_j16 a0 σ)
set_option maxRecDepth 100000 in
set_option maxHeartbeats 4000000 in
theorem k_X7_throwsIf {Λ : ex_L} {q : Nat} {σ σ' : ac_H} {a0 : Nat} {a1 : Int32} {a2 : Int32} {v : Int32} (hf : m_X7_throwsIf σ a0 a1 a2 = some (v, σ')) : kx_C Λ yX7_throwsIf (.code yX7_throwsIf cX7_throwsIf 3 (some .boolean)) ({ frames := 0, cells := 0, slots := 0, locals := 0 } : Room) [.ref a0, .int a1, .int a2] q σ (.inr (some (.int v))) σ' (fun z => z = q) := by
  refine kx_in (by decide +kernel) (Nat.le_of_ble_eq_true rfl) ?_
  intro Γ K hnm hsz hQ
  refine kx_lv (lv' := [(0, .ref a0), (1, .int a1), (2, .int a2)]) rfl ?_
  have B16 : ∀ (σ3 : ac_H), m_X7_throwsIf_j16 a0 σ3 = some (v, σ') → kx_S Λ Γ 3 (fun z => z = q) σ3 (0) (0) 16 [(0, .ref a0)] [] := by
    intro σ3 hf
    unfold m_X7_throwsIf_j16 at hf
    refine kx_aload_n K dX7_throwsIf_16 rfl 0 rfl ?_
    refine kx_gi K f_X7_65 dX7_throwsIf_17 hf (fun x4 hf => ?_)
    refine kx_if_le K 27 hf dX7_throwsIf_20 (by decide) (fun hf => ?_) (fun hf => ?_)
    · refine kx_iconst (v := 0) K dX7_throwsIf_27 (by decide) ?_
      exact kx_zret K hQ (by decide) (by decide) (fun _ h => h) dX7_throwsIf_28 hf
    · refine kx_iconst (v := 1) K dX7_throwsIf_23 (by decide) ?_
      refine kx_goto K 28 dX7_throwsIf_24 (by decide) ?_
      exact kx_zret K hQ (by decide) (by decide) (fun _ h => h) dX7_throwsIf_28 hf
  unfold m_X7_throwsIf at hf
  refine kx_aload_n K dX7_throwsIf_0 rfl 0 rfl ?_
  refine kx_gi K f_X7_65 dX7_throwsIf_1 hf (fun x1 hf => ?_)
  refine kx_if_ne K 16 hf dX7_throwsIf_4 (by decide) (fun hf => ?_) (fun hf => ?_)
  · refine kx_sub [(0, .ref a0)] [0] rfl ?_
    exact B16 _ hf
  · refine kx_iload_n K dX7_throwsIf_7 rfl 1 rfl ?_
    refine kx_if_eq K 16 hf dX7_throwsIf_8 (by decide) (fun hf => ?_) (fun hf => ?_)
    · refine kx_sub [(0, .ref a0)] [0] rfl ?_
      exact B16 _ hf
    · refine kx_aload_n K dX7_throwsIf_11 rfl 0 rfl ?_
      refine kx_iload_n K dX7_throwsIf_12 rfl 2 rfl ?_
      refine kx_pi K f_X7_65 dX7_throwsIf_13 hf (fun σ2 hf => ?_)
      refine kx_sub [(0, .ref a0)] [0] rfl ?_
      exact B16 _ hf
def m_X7_lowOf (σ : ac_H) (a0 : Int32) : Option (Int32 × ac_H) :=
  if a0 = 0 then
  (some ((0 : Int32), σ))
  else
  (if a0 = (2 : Int32) then
  (some ((10 : Int32), σ))
  else
  (if a0 = (6 : Int32) then
  (some ((2 : Int32), σ))
  else
  (some ((1 : Int32), σ))))
set_option maxRecDepth 100000 in
set_option maxHeartbeats 4000000 in
theorem k_X7_lowOf {Λ : ex_L} {q : Nat} {σ σ' : ac_H} {a0 : Int32} {v : Int32} (hf : m_X7_lowOf σ a0 = some (v, σ')) : kx_C Λ yX7_lowOf (.code yX7_lowOf cX7_lowOf 1 (some .int)) ({ frames := 0, cells := 0, slots := 0, locals := 0 } : Room) [.int a0] q σ (.inr (some (.int v))) σ' (fun z => z = q) := by
  refine kx_in (by decide +kernel) (Nat.le_of_ble_eq_true rfl) ?_
  intro Γ K hnm hsz hQ
  refine kx_lv (lv' := [(0, .int a0)]) rfl ?_
  unfold m_X7_lowOf at hf
  refine kx_iload_n K dX7_lowOf_0 rfl 0 rfl ?_
  refine kx_if_ne K 8 hf dX7_lowOf_1 (by decide) (fun hf => ?_) (fun hf => ?_)
  · refine kx_iload_n K dX7_lowOf_8 rfl 0 rfl ?_
    refine kx_iconst (v := 2) K dX7_lowOf_9 (by decide) ?_
    refine kx_icmp_ne K 18 hf dX7_lowOf_10 (by decide) (fun hf => ?_) (fun hf => ?_)
    · refine kx_iload_n K dX7_lowOf_18 rfl 0 rfl ?_
      refine kx_bipush (v := 6) K dX7_lowOf_19 (by decide) ?_
      refine kx_icmp_ne K 28 hf dX7_lowOf_21 (by decide) (fun hf => ?_) (fun hf => ?_)
      · refine kx_iconst (v := 1) K dX7_lowOf_28 (by decide) ?_
        exact kx_iret K hQ (by decide) (by decide) (fun _ h => h) dX7_lowOf_29 hf
      · refine kx_iconst (v := 2) K dX7_lowOf_24 (by decide) ?_
        refine kx_goto K 29 dX7_lowOf_25 (by decide) ?_
        exact kx_iret K hQ (by decide) (by decide) (fun _ h => h) dX7_lowOf_29 hf
    · refine kx_bipush (v := 10) K dX7_lowOf_13 (by decide) ?_
      refine kx_goto K 29 dX7_lowOf_15 (by decide) ?_
      exact kx_iret K hQ (by decide) (by decide) (fun _ h => h) dX7_lowOf_29 hf
  · refine kx_iconst (v := 0) K dX7_lowOf_4 (by decide) ?_
    refine kx_goto K 29 dX7_lowOf_5 (by decide) ?_
    exact kx_iret K hQ (by decide) (by decide) (fun _ h => h) dX7_lowOf_29 hf
def m_X7_highOf (σ : ac_H) (a0 : Int32) : Option (Int32 × ac_H) :=
  if a0 = (0 : Int32) then
  (some ((2 : Int32), σ))
  else
  if a0 = (1 : Int32) then
  (some ((8 : Int32), σ))
  else
  if a0 = (2 : Int32) then
  (some ((200 : Int32), σ))
  else
  if a0 = (3 : Int32) then
  (some ((5 : Int32), σ))
  else
  if a0 = (4 : Int32) then
  (some ((20 : Int32), σ))
  else
  if a0 = (5 : Int32) then
  (some ((4 : Int32), σ))
  else
  if a0 = (6 : Int32) then
  (some ((8 : Int32), σ))
  else
  (some ((200 : Int32), σ))
set_option maxRecDepth 100000 in
set_option maxHeartbeats 4000000 in
theorem k_X7_highOf {Λ : ex_L} {q : Nat} {σ σ' : ac_H} {a0 : Int32} {v : Int32} (hf : m_X7_highOf σ a0 = some (v, σ')) : kx_C Λ yX7_highOf (.code yX7_highOf cX7_highOf 1 (some .int)) ({ frames := 0, cells := 0, slots := 0, locals := 0 } : Room) [.int a0] q σ (.inr (some (.int v))) σ' (fun z => z = q) := by
  refine kx_in (by decide +kernel) (Nat.le_of_ble_eq_true rfl) ?_
  intro Γ K hnm hsz hQ
  refine kx_lv (lv' := [(0, .int a0)]) rfl ?_
  unfold m_X7_highOf at hf
  refine kx_iload_n K dX7_highOf_0 rfl 0 rfl ?_
  refine kx_swI (c := 0) K 44 dX7_highOf_1 (by decide) (by decide) rfl (by decide) hf (fun hf => ?_) (fun h1 hf => ?_)
  · refine kx_iconst (v := 2) K dX7_highOf_44 (by decide) ?_
    exact kx_iret K hQ (by decide) (by decide) (fun _ h => h) dX7_highOf_45 hf
  refine kx_swI (c := 1) K 46 dX7_highOf_1 (by decide) (by decide) rfl (by decide) hf (fun hf => ?_) (fun h2 hf => ?_)
  · refine kx_bipush (v := 8) K dX7_highOf_46 (by decide) ?_
    exact kx_iret K hQ (by decide) (by decide) (fun _ h => h) dX7_highOf_48 hf
  refine kx_swI (c := 2) K 59 dX7_highOf_1 (by decide) (by decide) rfl (by decide) hf (fun hf => ?_) (fun h3 hf => ?_)
  · refine kx_sipush (v := 200) K dX7_highOf_59 (by decide) ?_
    exact kx_iret K hQ (by decide) (by decide) (fun _ h => h) dX7_highOf_62 hf
  refine kx_swI (c := 3) K 49 dX7_highOf_1 (by decide) (by decide) rfl (by decide) hf (fun hf => ?_) (fun h4 hf => ?_)
  · refine kx_iconst (v := 5) K dX7_highOf_49 (by decide) ?_
    exact kx_iret K hQ (by decide) (by decide) (fun _ h => h) dX7_highOf_50 hf
  refine kx_swI (c := 4) K 51 dX7_highOf_1 (by decide) (by decide) rfl (by decide) hf (fun hf => ?_) (fun h5 hf => ?_)
  · refine kx_bipush (v := 20) K dX7_highOf_51 (by decide) ?_
    exact kx_iret K hQ (by decide) (by decide) (fun _ h => h) dX7_highOf_53 hf
  refine kx_swI (c := 5) K 54 dX7_highOf_1 (by decide) (by decide) rfl (by decide) hf (fun hf => ?_) (fun h6 hf => ?_)
  · refine kx_iconst (v := 4) K dX7_highOf_54 (by decide) ?_
    exact kx_iret K hQ (by decide) (by decide) (fun _ h => h) dX7_highOf_55 hf
  refine kx_swI (c := 6) K 56 dX7_highOf_1 (by decide) (by decide) rfl (by decide) hf (fun hf => ?_) (fun h7 hf => ?_)
  · refine kx_bipush (v := 8) K dX7_highOf_56 (by decide) ?_
    exact kx_iret K hQ (by decide) (by decide) (fun _ h => h) dX7_highOf_58 hf
  refine kx_swD K 59 dX7_highOf_1 (by have := lv_neT h1 (show (0 : Int32).toInt = 0 by decide); have := lv_neT h2 (show (1 : Int32).toInt = 1 by decide); have := lv_neT h3 (show (2 : Int32).toInt = 2 by decide); have := lv_neT h4 (show (3 : Int32).toInt = 3 by decide); have := lv_neT h5 (show (4 : Int32).toInt = 4 by decide); have := lv_neT h6 (show (5 : Int32).toInt = 5 by decide); have := lv_neT h7 (show (6 : Int32).toInt = 6 by decide); omega) (by decide) ?_
  refine kx_sipush (v := 200) K dX7_highOf_59 (by decide) ?_
  exact kx_iret K hQ (by decide) (by decide) (fun _ h => h) dX7_highOf_62 hf
def m_X7_bytesOf_l3  (a0 : Nat) (a1 : Int32) : Nat → ac_H → Int32 → Option (Unit × ac_H)
  | 0, _, _ => none
  | n + 1, σ2, v1 =>
    if v1 < 0 then
    (some ((), σ2))
    else
    (mo_gr σ2 a0 7 2 fun x3 =>
    mo_gi σ2 a0 7 3 fun x4 =>
    mo_ui σ2 x3 1 x4 (vp_nar .byte (((a1 >>> (v1 &&& 31))).toInt8.toInt32)) fun σ5 =>
    mo_gi σ5 a0 7 3 fun x6 =>
    mo_pv σ5 a0 7 3 (.int (x6 + (1 : Int32))) fun σ7 =>
    m_X7_bytesOf_l3 a0 a1 n σ7 (v1 + (-8)))
def m_X7_bytesOf (σ : ac_H) (a0 : Nat) (a1 : Int32) : Option (Unit × ac_H) :=
  m_X7_bytesOf_l3 a0 a1 hN_f σ (24 : Int32)
set_option maxRecDepth 100000 in
set_option maxHeartbeats 4000000 in
theorem k_X7_bytesOf {Λ : ex_L} {q : Nat} {σ σ' : ac_H} {a0 : Nat} {a1 : Int32} {v : Unit} (hf : m_X7_bytesOf σ a0 a1 = some (v, σ')) : kx_C Λ yX7_bytesOf (.code yX7_bytesOf cX7_bytesOf 3 none) ({ frames := 0, cells := 0, slots := 0, locals := 0 } : Room) [.ref a0, .int a1] q σ (.inr none) σ' (fun z => z = q) := by
  refine kx_in (by decide +kernel) (Nat.le_of_ble_eq_true rfl) ?_
  intro Γ K hnm hsz hQ
  refine kx_lv (lv' := [(0, .ref a0), (1, .int a1)]) rfl ?_
  have B3 : ∀ (n3 : Nat) (σ2 : ac_H) (v1 : Int32), m_X7_bytesOf_l3 a0 a1 n3 σ2 v1 = some (v, σ') → kx_S Λ Γ 3 (fun z => z = q) σ2 (0) (0) 3 [(0, .ref a0), (1, .int a1), (2, .int v1)] [] := by
    intro n3
    induction n3 with
    | zero =>
      intro σ2 v1 hf
      rw [m_X7_bytesOf_l3] at hf
      cases hf
    | succ n3 ih3 =>
      intro σ2 v1 hf
      rw [m_X7_bytesOf_l3] at hf
      refine kx_iload_n K dX7_bytesOf_3 rfl 2 rfl ?_
      refine kx_if_lt K 36 hf dX7_bytesOf_4 (by decide) (fun hf => ?_) (fun hf => ?_)
      · exact kx_vret K hQ (by decide) (by decide) (fun _ h => h) dX7_bytesOf_36 hf
      · refine kx_aload_n K dX7_bytesOf_7 rfl 0 rfl ?_
        refine kx_gr K f_X7_13 dX7_bytesOf_8 hf (fun x3 hf => ?_)
        refine kx_aload_n K dX7_bytesOf_11 rfl 0 rfl ?_
        refine kx_gi K f_X7_68 dX7_bytesOf_12 hf (fun x4 hf => ?_)
        refine kx_iload_n K dX7_bytesOf_15 rfl 1 rfl ?_
        refine kx_iload_n K dX7_bytesOf_16 rfl 2 rfl ?_
        refine kx_ishr K dX7_bytesOf_17 ?_
        refine kx_i2b K dX7_bytesOf_18 ?_
        refine kx_ub K dX7_bytesOf_19 hf (fun σ5 hf => ?_)
        refine kx_aload_n K dX7_bytesOf_20 rfl 0 rfl ?_
        refine kx_dup K dX7_bytesOf_21 rfl ?_
        refine kx_gi K f_X7_68 dX7_bytesOf_22 hf (fun x6 hf => ?_)
        refine kx_iconst (v := 1) K dX7_bytesOf_25 (by decide) ?_
        refine kx_iadd K dX7_bytesOf_26 ?_
        refine kx_pi K f_X7_68 dX7_bytesOf_27 hf (fun σ7 hf => ?_)
        refine kx_iinc (v := (v1 + (-8))) K [(2, .int (v1 + (-8))), (0, .ref a0), (1, .int a1)] dX7_bytesOf_30 2 rfl rfl (by decide) rfl ?_
        refine kx_goto K 3 dX7_bytesOf_33 (by decide) ?_
        refine kx_sub [(0, .ref a0), (1, .int a1), (2, .int (v1 + (-8)))] [1, 2, 0] rfl ?_
        exact ih3 _ _ hf
  unfold m_X7_bytesOf at hf
  refine kx_bipush (v := 24) K dX7_bytesOf_0 (by decide) ?_
  refine kx_istore_n K [(2, .int (24 : Int32)), (0, .ref a0), (1, .int a1)] dX7_bytesOf_2 rfl (by decide) rfl ?_
  refine kx_sub [(0, .ref a0), (1, .int a1), (2, .int (24 : Int32))] [1, 2, 0] rfl ?_
  exact B3 hN_f _ _ hf
def m_X7_append (σ : ac_H) (a0 : Nat) (a1 : Int32) (a2 : Int32) (a3 : Int32) (a4 : Int32) (a5 : Int32) : Option (Int32 × ac_H) :=
  mo_pv σ a0 7 0 (.int (0 : Int32)) fun σ1 =>
  mo_gi σ1 a0 7 3 fun x2 =>
  if (500 : Int32) < (x2 + (20 : Int32)) then
  (some ((-1 : Int32), σ1))
  else
  (mo_cv σ1 a0 7 (m_X7_bytesOf σ1 a0 a1) fun _ σ3 =>
  mo_cv σ3 a0 7 (m_X7_bytesOf σ3 a0 a2) fun _ σ4 =>
  mo_cv σ4 a0 7 (m_X7_bytesOf σ4 a0 a3) fun _ σ5 =>
  mo_cv σ5 a0 7 (m_X7_bytesOf σ5 a0 a4) fun _ σ6 =>
  mo_cv σ6 a0 7 (m_X7_bytesOf σ6 a0 a5) fun _ σ7 =>
  mo_gi σ7 a0 7 3 fun x8 =>
  some (x8, σ7))
set_option maxRecDepth 100000 in
set_option maxHeartbeats 4000000 in
theorem k_X7_append {Λ : ex_L} {q : Nat} {σ σ' : ac_H} {a0 : Nat} {a1 : Int32} {a2 : Int32} {a3 : Int32} {a4 : Int32} {a5 : Int32} {v : Int32} (hf : m_X7_append σ a0 a1 a2 a3 a4 a5 = some (v, σ')) : kx_C Λ yX7_append (.code yX7_append cX7_append 6 (some .int)) ({ frames := 1, cells := 0, slots := 0, locals := 22 } : Room) [.ref a0, .int a1, .int a2, .int a3, .int a4, .int a5] q σ (.inr (some (.int v))) σ' (fun z => z = q) := by
  refine kx_in (by decide +kernel) (Nat.le_of_ble_eq_true rfl) ?_
  intro Γ K hnm hsz hQ
  refine kx_lv (lv' := [(0, .ref a0), (1, .int a1), (2, .int a2), (3, .int a3), (4, .int a4), (5, .int a5)]) rfl ?_
  unfold m_X7_append at hf
  refine kx_aload_n K dX7_append_0 rfl 0 rfl ?_
  refine kx_iconst (v := 0) K dX7_append_1 (by decide) ?_
  refine kx_pi K f_X7_65 dX7_append_2 hf (fun σ1 hf => ?_)
  refine kx_aload_n K dX7_append_5 rfl 0 rfl ?_
  refine kx_gi K f_X7_68 dX7_append_6 hf (fun x2 hf => ?_)
  refine kx_bipush (v := 20) K dX7_append_9 (by decide) ?_
  refine kx_iadd K dX7_append_11 ?_
  refine kx_sipush (v := 500) K dX7_append_12 (by decide) ?_
  refine kx_icmp_le K 20 hf dX7_append_15 (by decide) (fun hf => ?_) (fun hf => ?_)
  · refine kx_aload_n K dX7_append_20 rfl 0 rfl ?_
    refine kx_iload_n K dX7_append_21 rfl 1 rfl ?_
    refine kx_cv1v K c_X7_71 (by decide) (Nat.le_of_ble_eq_true rfl) dX7_append_22 hf (fun _ _ _ h => k_X7_bytesOf h) (fun _ σ3 hf => ?_)
    refine kx_aload_n K dX7_append_25 rfl 0 rfl ?_
    refine kx_iload_n K dX7_append_26 rfl 2 rfl ?_
    refine kx_cv1v K c_X7_71 (by decide) (Nat.le_of_ble_eq_true rfl) dX7_append_27 hf (fun _ _ _ h => k_X7_bytesOf h) (fun _ σ4 hf => ?_)
    refine kx_aload_n K dX7_append_30 rfl 0 rfl ?_
    refine kx_iload_n K dX7_append_31 rfl 3 rfl ?_
    refine kx_cv1v K c_X7_71 (by decide) (Nat.le_of_ble_eq_true rfl) dX7_append_32 hf (fun _ _ _ h => k_X7_bytesOf h) (fun _ σ5 hf => ?_)
    refine kx_aload_n K dX7_append_35 rfl 0 rfl ?_
    refine kx_iload K dX7_append_36 4 rfl ?_
    refine kx_cv1v K c_X7_71 (by decide) (Nat.le_of_ble_eq_true rfl) dX7_append_38 hf (fun _ _ _ h => k_X7_bytesOf h) (fun _ σ6 hf => ?_)
    refine kx_aload_n K dX7_append_41 rfl 0 rfl ?_
    refine kx_iload K dX7_append_42 5 rfl ?_
    refine kx_cv1v K c_X7_71 (by decide) (Nat.le_of_ble_eq_true rfl) dX7_append_44 hf (fun _ _ _ h => k_X7_bytesOf h) (fun _ σ7 hf => ?_)
    refine kx_aload_n K dX7_append_47 rfl 0 rfl ?_
    refine kx_gi K f_X7_68 dX7_append_48 hf (fun x8 hf => ?_)
    exact kx_iret K hQ (by decide) (by decide) (fun _ h => h) dX7_append_51 hf
  · refine kx_iconst (v := -1) K dX7_append_18 (by decide) ?_
    exact kx_iret K hQ (by decide) (by decide) (fun _ h => h) dX7_append_19 hf
def m_X7_byteAt (σ : ac_H) (a0 : Nat) (a1 : Int32) : Option (Int32 × ac_H) :=
  mo_gi σ a0 7 4 fun x1 =>
  if a1 < x1 then
  (mo_gr σ a0 7 2 fun x2 =>
  mo_ai σ x2 1 a1 fun x3 =>
  some ((x3 &&& (255 : Int32)), σ))
  else
  (some ((-1 : Int32), σ))
set_option maxRecDepth 100000 in
set_option maxHeartbeats 4000000 in
theorem k_X7_byteAt {Λ : ex_L} {q : Nat} {σ σ' : ac_H} {a0 : Nat} {a1 : Int32} {v : Int32} (hf : m_X7_byteAt σ a0 a1 = some (v, σ')) : kx_C Λ yX7_byteAt (.code yX7_byteAt cX7_byteAt 2 (some .int)) ({ frames := 0, cells := 0, slots := 0, locals := 0 } : Room) [.ref a0, .int a1] q σ (.inr (some (.int v))) σ' (fun z => z = q) := by
  refine kx_in (by decide +kernel) (Nat.le_of_ble_eq_true rfl) ?_
  intro Γ K hnm hsz hQ
  refine kx_lv (lv' := [(0, .ref a0), (1, .int a1)]) rfl ?_
  unfold m_X7_byteAt at hf
  refine kx_iload_n K dX7_byteAt_0 rfl 1 rfl ?_
  refine kx_aload_n K dX7_byteAt_1 rfl 0 rfl ?_
  refine kx_gi K f_X7_75 dX7_byteAt_2 hf (fun x1 hf => ?_)
  refine kx_icmp_ge K 21 hf dX7_byteAt_5 (by decide) (fun hf => ?_) (fun hf => ?_)
  · refine kx_iconst (v := -1) K dX7_byteAt_21 (by decide) ?_
    exact kx_iret K hQ (by decide) (by decide) (fun _ h => h) dX7_byteAt_22 hf
  · refine kx_aload_n K dX7_byteAt_8 rfl 0 rfl ?_
    refine kx_gr K f_X7_13 dX7_byteAt_9 hf (fun x2 hf => ?_)
    refine kx_iload_n K dX7_byteAt_12 rfl 1 rfl ?_
    refine kx_ab K dX7_byteAt_13 hf (fun x3 hf => ?_)
    refine kx_sipush (v := 255) K dX7_byteAt_14 (by decide) ?_
    refine kx_iand K dX7_byteAt_17 ?_
    refine kx_goto K 22 dX7_byteAt_18 (by decide) ?_
    exact kx_iret K hQ (by decide) (by decide) (fun _ h => h) dX7_byteAt_22 hf
def m_X7_advance_l153  (a0 : Nat) : Nat → ac_H → Option (Unit × ac_H)
  | 0, _ => none
  | n + 1, σ39 =>
    mo_gi σ39 a0 7 6 fun x40 =>
    mo_cv σ39 a0 7 (m_X7_byteAt σ39 a0 x40) fun x42 σ41 =>
    mo_cs (m_X7_within σ41 x42 (48 : Int32) (57 : Int32)) fun x44 σ43 =>
    if x44 = 0 then
    (mo_gi σ43 a0 7 6 fun x45 =>
    mo_gi σ43 a0 7 5 fun x46 =>
    if (3 : Int32) < (x45 - x46) then
    (mo_pv σ43 a0 7 7 (.int (4 : Int32)) fun σ48 =>
    some ((), σ48))
    else
    (mo_pv σ43 a0 7 7 (.int (2 : Int32)) fun σ47 =>
    some ((), σ47)))
    else
    (mo_gi σ43 a0 7 6 fun x49 =>
    mo_gi σ43 a0 7 5 fun x50 =>
    if (x49 - x50) < (3 : Int32) then
    (mo_gi σ43 a0 7 8 fun x55 =>
    mo_gi σ43 a0 7 6 fun x56 =>
    mo_cv σ43 a0 7 (m_X7_byteAt σ43 a0 x56) fun x58 σ57 =>
    mo_pv σ57 a0 7 8 (.int ((((10 : Int32) * x55) + x58) - (48 : Int32))) fun σ59 =>
    mo_gi σ59 a0 7 6 fun x60 =>
    mo_pv σ59 a0 7 6 (.int (x60 + (1 : Int32))) fun σ61 =>
    m_X7_advance_l153 a0 n σ61)
    else
    (mo_gi σ43 a0 7 8 fun x51 =>
    mo_pv σ43 a0 7 8 (.int x51) fun σ52 =>
    mo_gi σ52 a0 7 6 fun x53 =>
    mo_pv σ52 a0 7 6 (.int (x53 + (1 : Int32))) fun σ54 =>
    m_X7_advance_l153 a0 n σ54))
def m_X7_advance_l85  (a0 : Nat) : Nat → ac_H → Option (Unit × ac_H)
  | 0, _ => none
  | n + 1, σ27 =>
    mo_gi σ27 a0 7 6 fun x28 =>
    mo_cv σ27 a0 7 (m_X7_byteAt σ27 a0 x28) fun x30 σ29 =>
    mo_cs (m_X7_within σ29 x30 (97 : Int32) (122 : Int32)) fun x32 σ31 =>
    if x32 = 0 then
    (mo_gi σ31 a0 7 6 fun x33 =>
    mo_gi σ31 a0 7 5 fun x34 =>
    if (9 : Int32) < (x33 - x34) then
    (mo_pv σ31 a0 7 7 (.int (4 : Int32)) fun σ36 =>
    some ((), σ36))
    else
    (mo_pv σ31 a0 7 7 (.int (1 : Int32)) fun σ35 =>
    some ((), σ35)))
    else
    (mo_gi σ31 a0 7 6 fun x37 =>
    mo_pv σ31 a0 7 6 (.int (x37 + (1 : Int32))) fun σ38 =>
    m_X7_advance_l85 a0 n σ38)
def m_X7_advance_l0  (a0 : Nat) : Nat → ac_H → Option (Unit × ac_H)
  | 0, _ => none
  | n + 1, σ1 =>
    mo_gi σ1 a0 7 6 fun x2 =>
    mo_cv σ1 a0 7 (m_X7_byteAt σ1 a0 x2) fun x4 σ3 =>
    if x4 = (32 : Int32) then
    (mo_gi σ3 a0 7 6 fun x5 =>
    mo_pv σ3 a0 7 6 (.int (x5 + (1 : Int32))) fun σ6 =>
    m_X7_advance_l0 a0 n σ6)
    else
    (mo_gi σ3 a0 7 6 fun x7 =>
    mo_cv σ3 a0 7 (m_X7_byteAt σ3 a0 x7) fun x9 σ8 =>
    if x9 = (10 : Int32) then
    (mo_gi σ8 a0 7 6 fun x25 =>
    mo_pv σ8 a0 7 6 (.int (x25 + (1 : Int32))) fun σ26 =>
    m_X7_advance_l0 a0 n σ26)
    else
    (mo_gi σ8 a0 7 6 fun x10 =>
    mo_pv σ8 a0 7 5 (.int x10) fun σ11 =>
    mo_pv σ11 a0 7 8 (.int (0 : Int32)) fun σ12 =>
    mo_gi σ12 a0 7 6 fun x13 =>
    mo_cv σ12 a0 7 (m_X7_byteAt σ12 a0 x13) fun x15 σ14 =>
    if x15 = (-1 : Int32) then
    (mo_pv σ14 a0 7 7 (.int (0 : Int32)) fun σ24 =>
    some ((), σ24))
    else
    (mo_cs (m_X7_within σ14 x15 (97 : Int32) (122 : Int32)) fun x17 σ16 =>
    if x17 = 0 then
    (mo_cs (m_X7_within σ16 x15 (48 : Int32) (57 : Int32)) fun x19 σ18 =>
    if x19 = 0 then
    (mo_gi σ18 a0 7 6 fun x20 =>
    mo_pv σ18 a0 7 6 (.int (x20 + (1 : Int32))) fun σ21 =>
    if x15 = (59 : Int32) then
    (mo_pv σ21 a0 7 7 (.int (3 : Int32)) fun σ23 =>
    some ((), σ23))
    else
    (mo_pv σ21 a0 7 7 (.int (4 : Int32)) fun σ22 =>
    some ((), σ22)))
    else
    (m_X7_advance_l153 a0 hN_f σ18))
    else
    (m_X7_advance_l85 a0 hN_f σ16))))
def m_X7_advance (σ : ac_H) (a0 : Nat) : Option (Unit × ac_H) :=
  m_X7_advance_l0 a0 hN_f σ
set_option maxRecDepth 100000 in
set_option maxHeartbeats 4000000 in
theorem k_X7_advance {Λ : ex_L} {q : Nat} {σ σ' : ac_H} {a0 : Nat} {v : Unit} (hf : m_X7_advance σ a0 = some (v, σ')) : kx_C Λ yX7_advance (.code yX7_advance cX7_advance 2 none) ({ frames := 1, cells := 0, slots := 0, locals := 22 } : Room) [.ref a0] q σ (.inr none) σ' (fun z => z = q) := by
  refine kx_in (by decide +kernel) (Nat.le_of_ble_eq_true rfl) ?_
  intro Γ K hnm hsz hQ
  refine kx_lv (lv' := [(0, .ref a0)]) rfl ?_
  have B153 : ∀ (n153 : Nat) (σ39 : ac_H), m_X7_advance_l153 a0 n153 σ39 = some (v, σ') → kx_S Λ Γ 2 (fun z => z = q) σ39 (0) (0) 153 [(0, .ref a0)] [] := by
    intro n153
    induction n153 with
    | zero =>
      intro σ39 hf
      rw [m_X7_advance_l153] at hf
      cases hf
    | succ n153 ih153 =>
      intro σ39 hf
      rw [m_X7_advance_l153] at hf
      refine kx_aload_n K dX7_advance_153 rfl 0 rfl ?_
      refine kx_aload_n K dX7_advance_154 rfl 0 rfl ?_
      refine kx_gi K f_X7_78 dX7_advance_155 hf (fun x40 hf => ?_)
      refine kx_cv1i K c_X7_81 (by decide) (Nat.le_of_ble_eq_true rfl) dX7_advance_158 hf (fun _ _ _ h => k_X7_byteAt h) (fun x42 σ41 hf => ?_)
      refine kx_bipush (v := 48) K dX7_advance_161 (by decide) ?_
      refine kx_bipush (v := 57) K dX7_advance_163 (by decide) ?_
      refine kx_cs3i K c_X7_94 (by decide) (Nat.le_of_ble_eq_true rfl) dX7_advance_165 hf (fun _ _ _ h => k_X7_within h) (fun x44 σ43 hf => ?_)
      refine kx_if_eq K 227 hf dX7_advance_168 (by decide) (fun hf => ?_) (fun hf => ?_)
      · refine kx_aload_n K dX7_advance_227 rfl 0 rfl ?_
        refine kx_aload_n K dX7_advance_228 rfl 0 rfl ?_
        refine kx_gi K f_X7_78 dX7_advance_229 hf (fun x45 hf => ?_)
        refine kx_aload_n K dX7_advance_232 rfl 0 rfl ?_
        refine kx_gi K f_X7_85 dX7_advance_233 hf (fun x46 hf => ?_)
        refine kx_isub K dX7_advance_236 ?_
        refine kx_iconst (v := 3) K dX7_advance_237 (by decide) ?_
        refine kx_icmp_le K 245 hf dX7_advance_238 (by decide) (fun hf => ?_) (fun hf => ?_)
        · refine kx_iconst (v := 2) K dX7_advance_245 (by decide) ?_
          refine kx_pi K f_X7_91 dX7_advance_246 hf (fun σ47 hf => ?_)
          refine kx_goto K 277 dX7_advance_249 (by decide) ?_
          exact kx_vret K hQ (by decide) (by decide) (fun _ h => h) dX7_advance_277 hf
        · refine kx_iconst (v := 4) K dX7_advance_241 (by decide) ?_
          refine kx_goto K 246 dX7_advance_242 (by decide) ?_
          refine kx_pi K f_X7_91 dX7_advance_246 hf (fun σ48 hf => ?_)
          refine kx_goto K 277 dX7_advance_249 (by decide) ?_
          exact kx_vret K hQ (by decide) (by decide) (fun _ h => h) dX7_advance_277 hf
      · refine kx_aload_n K dX7_advance_171 rfl 0 rfl ?_
        refine kx_aload_n K dX7_advance_172 rfl 0 rfl ?_
        refine kx_gi K f_X7_78 dX7_advance_173 hf (fun x49 hf => ?_)
        refine kx_aload_n K dX7_advance_176 rfl 0 rfl ?_
        refine kx_gi K f_X7_85 dX7_advance_177 hf (fun x50 hf => ?_)
        refine kx_isub K dX7_advance_180 ?_
        refine kx_iconst (v := 3) K dX7_advance_181 (by decide) ?_
        refine kx_icmp_ge K 207 hf dX7_advance_182 (by decide) (fun hf => ?_) (fun hf => ?_)
        · refine kx_aload_n K dX7_advance_207 rfl 0 rfl ?_
          refine kx_gi K f_X7_88 dX7_advance_208 hf (fun x51 hf => ?_)
          refine kx_pi K f_X7_88 dX7_advance_211 hf (fun σ52 hf => ?_)
          refine kx_aload_n K dX7_advance_214 rfl 0 rfl ?_
          refine kx_dup K dX7_advance_215 rfl ?_
          refine kx_gi K f_X7_78 dX7_advance_216 hf (fun x53 hf => ?_)
          refine kx_iconst (v := 1) K dX7_advance_219 (by decide) ?_
          refine kx_iadd K dX7_advance_220 ?_
          refine kx_pi K f_X7_78 dX7_advance_221 hf (fun σ54 hf => ?_)
          refine kx_goto K 153 dX7_advance_224 (by decide) ?_
          refine kx_sub [(0, .ref a0)] [0] rfl ?_
          exact ih153 _ hf
        · refine kx_bipush (v := 10) K dX7_advance_185 (by decide) ?_
          refine kx_aload_n K dX7_advance_187 rfl 0 rfl ?_
          refine kx_gi K f_X7_88 dX7_advance_188 hf (fun x55 hf => ?_)
          refine kx_imul K dX7_advance_191 ?_
          refine kx_aload_n K dX7_advance_192 rfl 0 rfl ?_
          refine kx_aload_n K dX7_advance_193 rfl 0 rfl ?_
          refine kx_gi K f_X7_78 dX7_advance_194 hf (fun x56 hf => ?_)
          refine kx_cv1i K c_X7_81 (by decide) (Nat.le_of_ble_eq_true rfl) dX7_advance_197 hf (fun _ _ _ h => k_X7_byteAt h) (fun x58 σ57 hf => ?_)
          refine kx_iadd K dX7_advance_200 ?_
          refine kx_bipush (v := 48) K dX7_advance_201 (by decide) ?_
          refine kx_isub K dX7_advance_203 ?_
          refine kx_goto K 211 dX7_advance_204 (by decide) ?_
          refine kx_pi K f_X7_88 dX7_advance_211 hf (fun σ59 hf => ?_)
          refine kx_aload_n K dX7_advance_214 rfl 0 rfl ?_
          refine kx_dup K dX7_advance_215 rfl ?_
          refine kx_gi K f_X7_78 dX7_advance_216 hf (fun x60 hf => ?_)
          refine kx_iconst (v := 1) K dX7_advance_219 (by decide) ?_
          refine kx_iadd K dX7_advance_220 ?_
          refine kx_pi K f_X7_78 dX7_advance_221 hf (fun σ61 hf => ?_)
          refine kx_goto K 153 dX7_advance_224 (by decide) ?_
          refine kx_sub [(0, .ref a0)] [0] rfl ?_
          exact ih153 _ hf
  have B85 : ∀ (n85 : Nat) (σ27 : ac_H), m_X7_advance_l85 a0 n85 σ27 = some (v, σ') → kx_S Λ Γ 2 (fun z => z = q) σ27 (0) (0) 85 [(0, .ref a0)] [] := by
    intro n85
    induction n85 with
    | zero =>
      intro σ27 hf
      rw [m_X7_advance_l85] at hf
      cases hf
    | succ n85 ih85 =>
      intro σ27 hf
      rw [m_X7_advance_l85] at hf
      refine kx_aload_n K dX7_advance_85 rfl 0 rfl ?_
      refine kx_aload_n K dX7_advance_86 rfl 0 rfl ?_
      refine kx_gi K f_X7_78 dX7_advance_87 hf (fun x28 hf => ?_)
      refine kx_cv1i K c_X7_81 (by decide) (Nat.le_of_ble_eq_true rfl) dX7_advance_90 hf (fun _ _ _ h => k_X7_byteAt h) (fun x30 σ29 hf => ?_)
      refine kx_bipush (v := 97) K dX7_advance_93 (by decide) ?_
      refine kx_bipush (v := 122) K dX7_advance_95 (by decide) ?_
      refine kx_cs3i K c_X7_94 (by decide) (Nat.le_of_ble_eq_true rfl) dX7_advance_97 hf (fun _ _ _ h => k_X7_within h) (fun x32 σ31 hf => ?_)
      refine kx_if_eq K 116 hf dX7_advance_100 (by decide) (fun hf => ?_) (fun hf => ?_)
      · refine kx_aload_n K dX7_advance_116 rfl 0 rfl ?_
        refine kx_aload_n K dX7_advance_117 rfl 0 rfl ?_
        refine kx_gi K f_X7_78 dX7_advance_118 hf (fun x33 hf => ?_)
        refine kx_aload_n K dX7_advance_121 rfl 0 rfl ?_
        refine kx_gi K f_X7_85 dX7_advance_122 hf (fun x34 hf => ?_)
        refine kx_isub K dX7_advance_125 ?_
        refine kx_bipush (v := 9) K dX7_advance_126 (by decide) ?_
        refine kx_icmp_le K 135 hf dX7_advance_128 (by decide) (fun hf => ?_) (fun hf => ?_)
        · refine kx_iconst (v := 1) K dX7_advance_135 (by decide) ?_
          refine kx_pi K f_X7_91 dX7_advance_136 hf (fun σ35 hf => ?_)
          refine kx_goto K 277 dX7_advance_139 (by decide) ?_
          exact kx_vret K hQ (by decide) (by decide) (fun _ h => h) dX7_advance_277 hf
        · refine kx_iconst (v := 4) K dX7_advance_131 (by decide) ?_
          refine kx_goto K 136 dX7_advance_132 (by decide) ?_
          refine kx_pi K f_X7_91 dX7_advance_136 hf (fun σ36 hf => ?_)
          refine kx_goto K 277 dX7_advance_139 (by decide) ?_
          exact kx_vret K hQ (by decide) (by decide) (fun _ h => h) dX7_advance_277 hf
      · refine kx_aload_n K dX7_advance_103 rfl 0 rfl ?_
        refine kx_dup K dX7_advance_104 rfl ?_
        refine kx_gi K f_X7_78 dX7_advance_105 hf (fun x37 hf => ?_)
        refine kx_iconst (v := 1) K dX7_advance_108 (by decide) ?_
        refine kx_iadd K dX7_advance_109 ?_
        refine kx_pi K f_X7_78 dX7_advance_110 hf (fun σ38 hf => ?_)
        refine kx_goto K 85 dX7_advance_113 (by decide) ?_
        refine kx_sub [(0, .ref a0)] [0] rfl ?_
        exact ih85 _ hf
  have B0 : ∀ (n0 : Nat) (σ1 : ac_H), m_X7_advance_l0 a0 n0 σ1 = some (v, σ') → kx_S Λ Γ 2 (fun z => z = q) σ1 (0) (0) 0 [(0, .ref a0)] [] := by
    intro n0
    induction n0 with
    | zero =>
      intro σ1 hf
      rw [m_X7_advance_l0] at hf
      cases hf
    | succ n0 ih0 =>
      intro σ1 hf
      rw [m_X7_advance_l0] at hf
      refine kx_aload_n K dX7_advance_0 rfl 0 rfl ?_
      refine kx_aload_n K dX7_advance_1 rfl 0 rfl ?_
      refine kx_gi K f_X7_78 dX7_advance_2 hf (fun x2 hf => ?_)
      refine kx_cv1i K c_X7_81 (by decide) (Nat.le_of_ble_eq_true rfl) dX7_advance_5 hf (fun _ _ _ h => k_X7_byteAt h) (fun x4 σ3 hf => ?_)
      refine kx_bipush (v := 32) K dX7_advance_8 (by decide) ?_
      refine kx_icmp_eq K 26 hf dX7_advance_10 (by decide) (fun hf => ?_) (fun hf => ?_)
      · refine kx_aload_n K dX7_advance_26 rfl 0 rfl ?_
        refine kx_dup K dX7_advance_27 rfl ?_
        refine kx_gi K f_X7_78 dX7_advance_28 hf (fun x5 hf => ?_)
        refine kx_iconst (v := 1) K dX7_advance_31 (by decide) ?_
        refine kx_iadd K dX7_advance_32 ?_
        refine kx_pi K f_X7_78 dX7_advance_33 hf (fun σ6 hf => ?_)
        refine kx_goto K 0 dX7_advance_36 (by decide) ?_
        refine kx_sub [(0, .ref a0)] [0] rfl ?_
        exact ih0 _ hf
      · refine kx_aload_n K dX7_advance_13 rfl 0 rfl ?_
        refine kx_aload_n K dX7_advance_14 rfl 0 rfl ?_
        refine kx_gi K f_X7_78 dX7_advance_15 hf (fun x7 hf => ?_)
        refine kx_cv1i K c_X7_81 (by decide) (Nat.le_of_ble_eq_true rfl) dX7_advance_18 hf (fun _ _ _ h => k_X7_byteAt h) (fun x9 σ8 hf => ?_)
        refine kx_bipush (v := 10) K dX7_advance_21 (by decide) ?_
        refine kx_icmp_ne K 39 hf dX7_advance_23 (by decide) (fun hf => ?_) (fun hf => ?_)
        · refine kx_aload_n K dX7_advance_39 rfl 0 rfl ?_
          refine kx_aload_n K dX7_advance_40 rfl 0 rfl ?_
          refine kx_gi K f_X7_78 dX7_advance_41 hf (fun x10 hf => ?_)
          refine kx_pi K f_X7_85 dX7_advance_44 hf (fun σ11 hf => ?_)
          refine kx_aload_n K dX7_advance_47 rfl 0 rfl ?_
          refine kx_iconst (v := 0) K dX7_advance_48 (by decide) ?_
          refine kx_pi K f_X7_88 dX7_advance_49 hf (fun σ12 hf => ?_)
          refine kx_aload_n K dX7_advance_52 rfl 0 rfl ?_
          refine kx_aload_n K dX7_advance_53 rfl 0 rfl ?_
          refine kx_gi K f_X7_78 dX7_advance_54 hf (fun x13 hf => ?_)
          refine kx_cv1i K c_X7_81 (by decide) (Nat.le_of_ble_eq_true rfl) dX7_advance_57 hf (fun _ _ _ h => k_X7_byteAt h) (fun x15 σ14 hf => ?_)
          refine kx_istore_n K [(1, .int x15), (0, .ref a0)] dX7_advance_60 rfl (by decide) rfl ?_
          refine kx_iload_n K dX7_advance_61 rfl 0 rfl ?_
          refine kx_iconst (v := -1) K dX7_advance_62 (by decide) ?_
          refine kx_icmp_ne K 74 hf dX7_advance_63 (by decide) (fun hf => ?_) (fun hf => ?_)
          · refine kx_iload_n K dX7_advance_74 rfl 0 rfl ?_
            refine kx_bipush (v := 97) K dX7_advance_75 (by decide) ?_
            refine kx_bipush (v := 122) K dX7_advance_77 (by decide) ?_
            refine kx_cs3i K c_X7_94 (by decide) (Nat.le_of_ble_eq_true rfl) dX7_advance_79 hf (fun _ _ _ h => k_X7_within h) (fun x17 σ16 hf => ?_)
            refine kx_if_eq K 142 hf dX7_advance_82 (by decide) (fun hf => ?_) (fun hf => ?_)
            · refine kx_iload_n K dX7_advance_142 rfl 0 rfl ?_
              refine kx_bipush (v := 48) K dX7_advance_143 (by decide) ?_
              refine kx_bipush (v := 57) K dX7_advance_145 (by decide) ?_
              refine kx_cs3i K c_X7_94 (by decide) (Nat.le_of_ble_eq_true rfl) dX7_advance_147 hf (fun _ _ _ h => k_X7_within h) (fun x19 σ18 hf => ?_)
              refine kx_if_eq K 252 hf dX7_advance_150 (by decide) (fun hf => ?_) (fun hf => ?_)
              · refine kx_aload_n K dX7_advance_252 rfl 1 rfl ?_
                refine kx_dup K dX7_advance_253 rfl ?_
                refine kx_gi K f_X7_78 dX7_advance_254 hf (fun x20 hf => ?_)
                refine kx_iconst (v := 1) K dX7_advance_257 (by decide) ?_
                refine kx_iadd K dX7_advance_258 ?_
                refine kx_pi K f_X7_78 dX7_advance_259 hf (fun σ21 hf => ?_)
                refine kx_aload_n K dX7_advance_262 rfl 1 rfl ?_
                refine kx_iload_n K dX7_advance_263 rfl 0 rfl ?_
                refine kx_bipush (v := 59) K dX7_advance_264 (by decide) ?_
                refine kx_icmp_ne K 273 hf dX7_advance_266 (by decide) (fun hf => ?_) (fun hf => ?_)
                · refine kx_iconst (v := 4) K dX7_advance_273 (by decide) ?_
                  refine kx_pi K f_X7_91 dX7_advance_274 hf (fun σ22 hf => ?_)
                  exact kx_vret K hQ (by decide) (by decide) (fun _ h => h) dX7_advance_277 hf
                · refine kx_iconst (v := 3) K dX7_advance_269 (by decide) ?_
                  refine kx_goto K 274 dX7_advance_270 (by decide) ?_
                  refine kx_pi K f_X7_91 dX7_advance_274 hf (fun σ23 hf => ?_)
                  exact kx_vret K hQ (by decide) (by decide) (fun _ h => h) dX7_advance_277 hf
              · refine kx_sub [(0, .ref a0)] [1] rfl ?_
                exact B153 hN_f _ hf
            · refine kx_sub [(0, .ref a0)] [1] rfl ?_
              exact B85 hN_f _ hf
          · refine kx_aload_n K dX7_advance_66 rfl 1 rfl ?_
            refine kx_iconst (v := 0) K dX7_advance_67 (by decide) ?_
            refine kx_pi K f_X7_91 dX7_advance_68 hf (fun σ24 hf => ?_)
            refine kx_goto K 277 dX7_advance_71 (by decide) ?_
            exact kx_vret K hQ (by decide) (by decide) (fun _ h => h) dX7_advance_277 hf
        · refine kx_aload_n K dX7_advance_26 rfl 0 rfl ?_
          refine kx_dup K dX7_advance_27 rfl ?_
          refine kx_gi K f_X7_78 dX7_advance_28 hf (fun x25 hf => ?_)
          refine kx_iconst (v := 1) K dX7_advance_31 (by decide) ?_
          refine kx_iadd K dX7_advance_32 ?_
          refine kx_pi K f_X7_78 dX7_advance_33 hf (fun σ26 hf => ?_)
          refine kx_goto K 0 dX7_advance_36 (by decide) ?_
          refine kx_sub [(0, .ref a0)] [0] rfl ?_
          exact ih0 _ hf
  unfold m_X7_advance at hf
  refine kx_sub [(0, .ref a0)] [0] rfl ?_
  exact B0 hN_f _ hf
def m_X7_isWord_l32  (a0 : Nat) (a1 : Nat) : Nat → ac_H → Int32 → Int32 → Option (Int32 × ac_H)
  | 0, _, _, _ => none
  | n + 1, σ7, v5, v6 =>
    mo_sl a1 fun x8 =>
    if v6 < x8 then
    (if v5 = 0 then
    (mo_z v5 (some (v5, σ7)))
    else
    (mo_gr σ7 a0 7 2 fun x9 =>
    mo_gi σ7 a0 7 5 fun x10 =>
    mo_ai σ7 x9 1 (x10 + v6) fun x11 =>
    mo_sc a1 v6 fun x12 =>
    if x11 = x12 then
    (m_X7_isWord_l32 a0 a1 n σ7 (1 : Int32) (v6 + 1))
    else
    (m_X7_isWord_l32 a0 a1 n σ7 (0 : Int32) (v6 + 1))))
    else
    (mo_z v5 (some (v5, σ7)))
def m_X7_isWord (σ : ac_H) (a0 : Nat) (a1 : Nat) : Option (Int32 × ac_H) :=
  mo_gi σ a0 7 7 fun x1 =>
  if x1 = (1 : Int32) then
  (mo_gi σ a0 7 6 fun x2 =>
  mo_gi σ a0 7 5 fun x3 =>
  mo_sl a1 fun x4 =>
  if (x2 - x3) = x4 then
  (m_X7_isWord_l32 a0 a1 hN_f σ (1 : Int32) (0 : Int32))
  else
  (m_X7_isWord_l32 a0 a1 hN_f σ (0 : Int32) (0 : Int32)))
  else
  (m_X7_isWord_l32 a0 a1 hN_f σ (0 : Int32) (0 : Int32))
set_option maxRecDepth 100000 in
set_option maxHeartbeats 4000000 in
theorem k_X7_isWord {Λ : ex_L} {q : Nat} {σ σ' : ac_H} {a0 : Nat} {a1 : Nat} {v : Int32} (hf : m_X7_isWord σ a0 a1 = some (v, σ')) : kx_C Λ yX7_isWord (.code yX7_isWord cX7_isWord 4 (some .boolean)) ({ frames := 4, cells := 0, slots := 0, locals := 85 } : Room) [.ref a0, .ref (ex_k Λ a1)] q σ (.inr (some (.int v))) σ' (fun z => z = q) := by
  refine kx_in (by decide +kernel) (Nat.le_of_ble_eq_true rfl) ?_
  intro Γ K hnm hsz hQ
  refine kx_lv (lv' := [(0, .ref a0), (1, .ref (ex_k Λ a1))]) rfl ?_
  have B32 : ∀ (n32 : Nat) (σ7 : ac_H) (v5 : Int32) (v6 : Int32), m_X7_isWord_l32 a0 a1 n32 σ7 v5 v6 = some (v, σ') → kx_S Λ Γ 4 (fun z => z = q) σ7 (0) (0) 32 [(0, .ref a0), (1, .ref (ex_k Λ a1)), (2, .int v5), (3, .int v6)] [] := by
    intro n32
    induction n32 with
    | zero =>
      intro σ7 v5 v6 hf
      rw [m_X7_isWord_l32] at hf
      cases hf
    | succ n32 ih32 =>
      intro σ7 v5 v6 hf
      rw [m_X7_isWord_l32] at hf
      refine kx_iload_n K dX7_isWord_32 rfl 3 rfl ?_
      refine kx_aload_n K dX7_isWord_33 rfl 1 rfl ?_
      refine kx_wl K w_349 (by decide) (Nat.le_of_ble_eq_true rfl) dX7_isWord_34 hf (fun x8 hf => ?_)
      refine kx_icmp_ge K 75 hf dX7_isWord_37 (by decide) (fun hf => ?_) (fun hf => ?_)
      · refine kx_iload_n K dX7_isWord_75 rfl 2 rfl ?_
        exact kx_zret K hQ (by decide) (by decide) (fun _ h => h) dX7_isWord_76 hf
      · refine kx_iload_n K dX7_isWord_40 rfl 2 rfl ?_
        refine kx_if_eq K 75 hf dX7_isWord_41 (by decide) (fun hf => ?_) (fun hf => ?_)
        · refine kx_iload_n K dX7_isWord_75 rfl 2 rfl ?_
          exact kx_zret K hQ (by decide) (by decide) (fun _ h => h) dX7_isWord_76 hf
        · refine kx_aload_n K dX7_isWord_44 rfl 0 rfl ?_
          refine kx_gr K f_X7_13 dX7_isWord_45 hf (fun x9 hf => ?_)
          refine kx_aload_n K dX7_isWord_48 rfl 0 rfl ?_
          refine kx_gi K f_X7_85 dX7_isWord_49 hf (fun x10 hf => ?_)
          refine kx_iload_n K dX7_isWord_52 rfl 3 rfl ?_
          refine kx_iadd K dX7_isWord_53 ?_
          refine kx_ab K dX7_isWord_54 hf (fun x11 hf => ?_)
          refine kx_aload_n K dX7_isWord_55 rfl 1 rfl ?_
          refine kx_iload_n K dX7_isWord_56 rfl 3 rfl ?_
          refine kx_wc K w_350 (by decide) (Nat.le_of_ble_eq_true rfl) dX7_isWord_57 hf (fun x12 hf => ?_)
          refine kx_icmp_ne K 67 hf dX7_isWord_60 (by decide) (fun hf => ?_) (fun hf => ?_)
          · refine kx_iconst (v := 0) K dX7_isWord_67 (by decide) ?_
            refine kx_istore_n K [(2, .int (0 : Int32)), (0, .ref a0), (1, .ref (ex_k Λ a1)), (3, .int v6)] dX7_isWord_68 rfl (by decide) rfl ?_
            refine kx_iinc (v := (v6 + 1)) K [(3, .int (v6 + 1)), (2, .int (0 : Int32)), (0, .ref a0), (1, .ref (ex_k Λ a1))] dX7_isWord_69 3 rfl rfl (by decide) rfl ?_
            refine kx_goto K 32 dX7_isWord_72 (by decide) ?_
            refine kx_sub [(0, .ref a0), (1, .ref (ex_k Λ a1)), (2, .int (0 : Int32)), (3, .int (v6 + 1))] [2, 3, 1, 0] rfl ?_
            exact ih32 _ _ _ hf
          · refine kx_iconst (v := 1) K dX7_isWord_63 (by decide) ?_
            refine kx_goto K 68 dX7_isWord_64 (by decide) ?_
            refine kx_istore_n K [(2, .int (1 : Int32)), (0, .ref a0), (1, .ref (ex_k Λ a1)), (3, .int v6)] dX7_isWord_68 rfl (by decide) rfl ?_
            refine kx_iinc (v := (v6 + 1)) K [(3, .int (v6 + 1)), (2, .int (1 : Int32)), (0, .ref a0), (1, .ref (ex_k Λ a1))] dX7_isWord_69 3 rfl rfl (by decide) rfl ?_
            refine kx_goto K 32 dX7_isWord_72 (by decide) ?_
            refine kx_sub [(0, .ref a0), (1, .ref (ex_k Λ a1)), (2, .int (1 : Int32)), (3, .int (v6 + 1))] [2, 3, 1, 0] rfl ?_
            exact ih32 _ _ _ hf
  unfold m_X7_isWord at hf
  refine kx_aload_n K dX7_isWord_0 rfl 0 rfl ?_
  refine kx_gi K f_X7_91 dX7_isWord_1 hf (fun x1 hf => ?_)
  refine kx_iconst (v := 1) K dX7_isWord_4 (by decide) ?_
  refine kx_icmp_ne K 28 hf dX7_isWord_5 (by decide) (fun hf => ?_) (fun hf => ?_)
  · refine kx_iconst (v := 0) K dX7_isWord_28 (by decide) ?_
    refine kx_istore_n K [(2, .int (0 : Int32)), (0, .ref a0), (1, .ref (ex_k Λ a1))] dX7_isWord_29 rfl (by decide) rfl ?_
    refine kx_iconst (v := 0) K dX7_isWord_30 (by decide) ?_
    refine kx_istore_n K [(3, .int (0 : Int32)), (2, .int (0 : Int32)), (0, .ref a0), (1, .ref (ex_k Λ a1))] dX7_isWord_31 rfl (by decide) rfl ?_
    refine kx_sub [(0, .ref a0), (1, .ref (ex_k Λ a1)), (2, .int (0 : Int32)), (3, .int (0 : Int32))] [2, 3, 1, 0] rfl ?_
    exact B32 hN_f _ _ _ hf
  · refine kx_aload_n K dX7_isWord_8 rfl 0 rfl ?_
    refine kx_gi K f_X7_78 dX7_isWord_9 hf (fun x2 hf => ?_)
    refine kx_aload_n K dX7_isWord_12 rfl 0 rfl ?_
    refine kx_gi K f_X7_85 dX7_isWord_13 hf (fun x3 hf => ?_)
    refine kx_isub K dX7_isWord_16 ?_
    refine kx_aload_n K dX7_isWord_17 rfl 1 rfl ?_
    refine kx_wl K w_349 (by decide) (Nat.le_of_ble_eq_true rfl) dX7_isWord_18 hf (fun x4 hf => ?_)
    refine kx_icmp_ne K 28 hf dX7_isWord_21 (by decide) (fun hf => ?_) (fun hf => ?_)
    · refine kx_iconst (v := 0) K dX7_isWord_28 (by decide) ?_
      refine kx_istore_n K [(2, .int (0 : Int32)), (0, .ref a0), (1, .ref (ex_k Λ a1))] dX7_isWord_29 rfl (by decide) rfl ?_
      refine kx_iconst (v := 0) K dX7_isWord_30 (by decide) ?_
      refine kx_istore_n K [(3, .int (0 : Int32)), (2, .int (0 : Int32)), (0, .ref a0), (1, .ref (ex_k Λ a1))] dX7_isWord_31 rfl (by decide) rfl ?_
      refine kx_sub [(0, .ref a0), (1, .ref (ex_k Λ a1)), (2, .int (0 : Int32)), (3, .int (0 : Int32))] [2, 3, 1, 0] rfl ?_
      exact B32 hN_f _ _ _ hf
    · refine kx_iconst (v := 1) K dX7_isWord_24 (by decide) ?_
      refine kx_goto K 29 dX7_isWord_25 (by decide) ?_
      refine kx_istore_n K [(2, .int (1 : Int32)), (0, .ref a0), (1, .ref (ex_k Λ a1))] dX7_isWord_29 rfl (by decide) rfl ?_
      refine kx_iconst (v := 0) K dX7_isWord_30 (by decide) ?_
      refine kx_istore_n K [(3, .int (0 : Int32)), (2, .int (1 : Int32)), (0, .ref a0), (1, .ref (ex_k Λ a1))] dX7_isWord_31 rfl (by decide) rfl ?_
      refine kx_sub [(0, .ref a0), (1, .ref (ex_k Λ a1)), (2, .int (1 : Int32)), (3, .int (0 : Int32))] [2, 3, 1, 0] rfl ?_
      exact B32 hN_f _ _ _ hf
def m_X7_fails (σ : ac_H) (a0 : Nat) (a1 : Int32) : Option (Int32 × ac_H) :=
  mo_gi σ a0 7 9 fun x1 =>
  if x1 = 0 then
  (mo_pv σ a0 7 9 (.int a1) fun σ2 =>
  mo_gi σ2 a0 7 5 fun x3 =>
  mo_pv σ2 a0 7 10 (.int x3) fun σ4 =>
  mo_z (0 : Int32) (some ((0 : Int32), σ4)))
  else
  (mo_z (0 : Int32) (some ((0 : Int32), σ)))
set_option maxRecDepth 100000 in
set_option maxHeartbeats 4000000 in
theorem k_X7_fails {Λ : ex_L} {q : Nat} {σ σ' : ac_H} {a0 : Nat} {a1 : Int32} {v : Int32} (hf : m_X7_fails σ a0 a1 = some (v, σ')) : kx_C Λ yX7_fails (.code yX7_fails cX7_fails 2 (some .boolean)) ({ frames := 0, cells := 0, slots := 0, locals := 0 } : Room) [.ref a0, .int a1] q σ (.inr (some (.int v))) σ' (fun z => z = q) := by
  refine kx_in (by decide +kernel) (Nat.le_of_ble_eq_true rfl) ?_
  intro Γ K hnm hsz hQ
  refine kx_lv (lv' := [(0, .ref a0), (1, .int a1)]) rfl ?_
  unfold m_X7_fails at hf
  refine kx_aload_n K dX7_fails_0 rfl 0 rfl ?_
  refine kx_gi K f_X7_107 dX7_fails_1 hf (fun x1 hf => ?_)
  refine kx_if_ne K 20 hf dX7_fails_4 (by decide) (fun hf => ?_) (fun hf => ?_)
  · refine kx_iconst (v := 0) K dX7_fails_20 (by decide) ?_
    exact kx_zret K hQ (by decide) (by decide) (fun _ h => h) dX7_fails_21 hf
  · refine kx_aload_n K dX7_fails_7 rfl 0 rfl ?_
    refine kx_iload_n K dX7_fails_8 rfl 1 rfl ?_
    refine kx_pi K f_X7_107 dX7_fails_9 hf (fun σ2 hf => ?_)
    refine kx_aload_n K dX7_fails_12 rfl 0 rfl ?_
    refine kx_aload_n K dX7_fails_13 rfl 0 rfl ?_
    refine kx_gi K f_X7_85 dX7_fails_14 hf (fun x3 hf => ?_)
    refine kx_pi K f_X7_17 dX7_fails_17 hf (fun σ4 hf => ?_)
    refine kx_iconst (v := 0) K dX7_fails_20 (by decide) ?_
    exact kx_zret K hQ (by decide) (by decide) (fun _ h => h) dX7_fails_21 hf
def m_X7_starts (σ : ac_H) (a0 : Nat) (a1 : Int32) (a2 : Int32) : Option (Int32 × ac_H) :=
  if a2 = 0 then
  (mo_cv σ a0 7 (m_X7_fails σ a0 a1) fun x3 σ2 =>
  mo_z x3 (some (x3, σ2)))
  else
  (mo_cv σ a0 7 (m_X7_advance σ a0) fun _ σ1 =>
  mo_z (1 : Int32) (some ((1 : Int32), σ1)))
set_option maxRecDepth 100000 in
set_option maxHeartbeats 4000000 in
theorem k_X7_starts {Λ : ex_L} {q : Nat} {σ σ' : ac_H} {a0 : Nat} {a1 : Int32} {a2 : Int32} {v : Int32} (hf : m_X7_starts σ a0 a1 a2 = some (v, σ')) : kx_C Λ yX7_starts (.code yX7_starts cX7_starts 3 (some .boolean)) ({ frames := 2, cells := 0, slots := 0, locals := 43 } : Room) [.ref a0, .int a1, .int a2] q σ (.inr (some (.int v))) σ' (fun z => z = q) := by
  refine kx_in (by decide +kernel) (Nat.le_of_ble_eq_true rfl) ?_
  intro Γ K hnm hsz hQ
  refine kx_lv (lv' := [(0, .ref a0), (1, .int a1), (2, .int a2)]) rfl ?_
  unfold m_X7_starts at hf
  refine kx_iload_n K dX7_starts_0 rfl 2 rfl ?_
  refine kx_if_ne K 10 hf dX7_starts_1 (by decide) (fun hf => ?_) (fun hf => ?_)
  · refine kx_aload_n K dX7_starts_10 rfl 0 rfl ?_
    refine kx_cv0v K c_X7_114 (by decide) (Nat.le_of_ble_eq_true rfl) dX7_starts_11 hf (fun _ _ _ h => k_X7_advance h) (fun _ σ1 hf => ?_)
    refine kx_iconst (v := 1) K dX7_starts_14 (by decide) ?_
    exact kx_zret K hQ (by decide) (by decide) (fun _ h => h) dX7_starts_15 hf
  · refine kx_aload_n K dX7_starts_4 rfl 0 rfl ?_
    refine kx_iload_n K dX7_starts_5 rfl 1 rfl ?_
    refine kx_cv1i K c_X7_110 (by decide) (Nat.le_of_ble_eq_true rfl) dX7_starts_6 hf (fun _ _ _ h => k_X7_fails h) (fun x3 σ2 hf => ?_)
    exact kx_zret K hQ (by decide) (by decide) (fun _ h => h) dX7_starts_9 hf
def m_X7_takes (σ : ac_H) (a0 : Nat) (a1 : Int32) (a2 : Int32) : Option (Int32 × ac_H) :=
  mo_gi σ a0 7 7 fun x1 =>
  if x1 = (2 : Int32) then
  (mo_gi σ a0 7 8 fun x2 =>
  mo_cs (m_X7_within σ x2 a1 a2) fun x4 σ3 =>
  if x4 = 0 then
  (mo_cv σ3 a0 7 (m_X7_fails σ3 a0 (3 : Int32)) fun x9 σ8 =>
  mo_z x9 (some (x9, σ8)))
  else
  (mo_gi σ3 a0 7 8 fun x5 =>
  mo_pv σ3 a0 7 11 (.int x5) fun σ6 =>
  mo_cv σ6 a0 7 (m_X7_advance σ6 a0) fun _ σ7 =>
  mo_z (1 : Int32) (some ((1 : Int32), σ7))))
  else
  (mo_cv σ a0 7 (m_X7_fails σ a0 (1 : Int32)) fun x11 σ10 =>
  mo_z x11 (some (x11, σ10)))
set_option maxRecDepth 100000 in
set_option maxHeartbeats 4000000 in
theorem k_X7_takes {Λ : ex_L} {q : Nat} {σ σ' : ac_H} {a0 : Nat} {a1 : Int32} {a2 : Int32} {v : Int32} (hf : m_X7_takes σ a0 a1 a2 = some (v, σ')) : kx_C Λ yX7_takes (.code yX7_takes cX7_takes 3 (some .boolean)) ({ frames := 2, cells := 0, slots := 0, locals := 43 } : Room) [.ref a0, .int a1, .int a2] q σ (.inr (some (.int v))) σ' (fun z => z = q) := by
  refine kx_in (by decide +kernel) (Nat.le_of_ble_eq_true rfl) ?_
  intro Γ K hnm hsz hQ
  refine kx_lv (lv' := [(0, .ref a0), (1, .int a1), (2, .int a2)]) rfl ?_
  unfold m_X7_takes at hf
  refine kx_aload_n K dX7_takes_0 rfl 0 rfl ?_
  refine kx_gi K f_X7_91 dX7_takes_1 hf (fun x1 hf => ?_)
  refine kx_iconst (v := 2) K dX7_takes_4 (by decide) ?_
  refine kx_icmp_eq K 14 hf dX7_takes_5 (by decide) (fun hf => ?_) (fun hf => ?_)
  · refine kx_aload_n K dX7_takes_14 rfl 0 rfl ?_
    refine kx_gi K f_X7_88 dX7_takes_15 hf (fun x2 hf => ?_)
    refine kx_iload_n K dX7_takes_18 rfl 1 rfl ?_
    refine kx_iload_n K dX7_takes_19 rfl 2 rfl ?_
    refine kx_cs3i K c_X7_94 (by decide) (Nat.le_of_ble_eq_true rfl) dX7_takes_20 hf (fun _ _ _ h => k_X7_within h) (fun x4 σ3 hf => ?_)
    refine kx_if_ne K 32 hf dX7_takes_23 (by decide) (fun hf => ?_) (fun hf => ?_)
    · refine kx_aload_n K dX7_takes_32 rfl 0 rfl ?_
      refine kx_aload_n K dX7_takes_33 rfl 0 rfl ?_
      refine kx_gi K f_X7_88 dX7_takes_34 hf (fun x5 hf => ?_)
      refine kx_pi K f_X7_117 dX7_takes_37 hf (fun σ6 hf => ?_)
      refine kx_aload_n K dX7_takes_40 rfl 0 rfl ?_
      refine kx_cv0v K c_X7_114 (by decide) (Nat.le_of_ble_eq_true rfl) dX7_takes_41 hf (fun _ _ _ h => k_X7_advance h) (fun _ σ7 hf => ?_)
      refine kx_iconst (v := 1) K dX7_takes_44 (by decide) ?_
      exact kx_zret K hQ (by decide) (by decide) (fun _ h => h) dX7_takes_45 hf
    · refine kx_aload_n K dX7_takes_26 rfl 0 rfl ?_
      refine kx_iconst (v := 3) K dX7_takes_27 (by decide) ?_
      refine kx_cv1i K c_X7_110 (by decide) (Nat.le_of_ble_eq_true rfl) dX7_takes_28 hf (fun _ _ _ h => k_X7_fails h) (fun x9 σ8 hf => ?_)
      exact kx_zret K hQ (by decide) (by decide) (fun _ h => h) dX7_takes_31 hf
  · refine kx_aload_n K dX7_takes_8 rfl 0 rfl ?_
    refine kx_iconst (v := 1) K dX7_takes_9 (by decide) ?_
    refine kx_cv1i K c_X7_110 (by decide) (Nat.le_of_ble_eq_true rfl) dX7_takes_10 hf (fun _ _ _ h => k_X7_fails h) (fun x11 σ10 hf => ?_)
    exact kx_zret K hQ (by decide) (by decide) (fun _ h => h) dX7_takes_13 hf
def m_X7_lays (σ : ac_H) (a0 : Nat) (a1 : Int32) : Option (Int32 × ac_H) :=
  mo_cs (m_X7_lowOf σ a1) fun x2 σ1 =>
  mo_cs (m_X7_highOf σ1 a1) fun x4 σ3 =>
  mo_cv σ3 a0 7 (m_X7_takes σ3 a0 x2 x4) fun x6 σ5 =>
  if x6 = 0 then
  (mo_z (0 : Int32) (some ((0 : Int32), σ5)))
  else
  (mo_gr σ5 a0 7 13 fun x7 =>
  mo_gi σ5 a0 7 11 fun x8 =>
  mo_ui σ5 x7 0 a1 x8 fun σ9 =>
  mo_z (1 : Int32) (some ((1 : Int32), σ9)))
set_option maxRecDepth 100000 in
set_option maxHeartbeats 4000000 in
theorem k_X7_lays {Λ : ex_L} {q : Nat} {σ σ' : ac_H} {a0 : Nat} {a1 : Int32} {v : Int32} (hf : m_X7_lays σ a0 a1 = some (v, σ')) : kx_C Λ yX7_lays (.code yX7_lays cX7_lays 2 (some .boolean)) ({ frames := 3, cells := 0, slots := 0, locals := 65 } : Room) [.ref a0, .int a1] q σ (.inr (some (.int v))) σ' (fun z => z = q) := by
  refine kx_in (by decide +kernel) (Nat.le_of_ble_eq_true rfl) ?_
  intro Γ K hnm hsz hQ
  refine kx_lv (lv' := [(0, .ref a0), (1, .int a1)]) rfl ?_
  unfold m_X7_lays at hf
  refine kx_aload_n K dX7_lays_0 rfl 0 rfl ?_
  refine kx_iload_n K dX7_lays_1 rfl 1 rfl ?_
  refine kx_cs1i K c_X7_120 (by decide) (Nat.le_of_ble_eq_true rfl) dX7_lays_2 hf (fun _ _ _ h => k_X7_lowOf h) (fun x2 σ1 hf => ?_)
  refine kx_iload_n K dX7_lays_5 rfl 1 rfl ?_
  refine kx_cs1i K c_X7_123 (by decide) (Nat.le_of_ble_eq_true rfl) dX7_lays_6 hf (fun _ _ _ h => k_X7_highOf h) (fun x4 σ3 hf => ?_)
  refine kx_cv2i K c_X7_126 (by decide) (Nat.le_of_ble_eq_true rfl) dX7_lays_9 hf (fun _ _ _ h => k_X7_takes h) (fun x6 σ5 hf => ?_)
  refine kx_if_ne K 17 hf dX7_lays_12 (by decide) (fun hf => ?_) (fun hf => ?_)
  · refine kx_aload_n K dX7_lays_17 rfl 0 rfl ?_
    refine kx_gr K f_X7_21 dX7_lays_18 hf (fun x7 hf => ?_)
    refine kx_iload_n K dX7_lays_21 rfl 1 rfl ?_
    refine kx_aload_n K dX7_lays_22 rfl 0 rfl ?_
    refine kx_gi K f_X7_117 dX7_lays_23 hf (fun x8 hf => ?_)
    refine kx_ui K dX7_lays_26 hf (fun σ9 hf => ?_)
    refine kx_iconst (v := 1) K dX7_lays_27 (by decide) ?_
    exact kx_zret K hQ (by decide) (by decide) (fun _ h => h) dX7_lays_28 hf
  · refine kx_iconst (v := 0) K dX7_lays_15 (by decide) ?_
    exact kx_zret K hQ (by decide) (by decide) (fun _ h => h) dX7_lays_16 hf
def m_X7_closes (σ : ac_H) (a0 : Nat) : Option (Int32 × ac_H) :=
  mo_gi σ a0 7 7 fun x1 =>
  if x1 = (3 : Int32) then
  (mo_cv σ a0 7 (m_X7_starts σ a0 (1 : Int32) (1 : Int32)) fun x5 σ4 =>
  mo_z x5 (some (x5, σ4)))
  else
  (mo_cv σ a0 7 (m_X7_starts σ a0 (1 : Int32) (0 : Int32)) fun x3 σ2 =>
  mo_z x3 (some (x3, σ2)))
set_option maxRecDepth 100000 in
set_option maxHeartbeats 4000000 in
theorem k_X7_closes {Λ : ex_L} {q : Nat} {σ σ' : ac_H} {a0 : Nat} {v : Int32} (hf : m_X7_closes σ a0 = some (v, σ')) : kx_C Λ yX7_closes (.code yX7_closes cX7_closes 1 (some .boolean)) ({ frames := 3, cells := 0, slots := 0, locals := 65 } : Room) [.ref a0] q σ (.inr (some (.int v))) σ' (fun z => z = q) := by
  refine kx_in (by decide +kernel) (Nat.le_of_ble_eq_true rfl) ?_
  intro Γ K hnm hsz hQ
  refine kx_lv (lv' := [(0, .ref a0)]) rfl ?_
  unfold m_X7_closes at hf
  refine kx_aload_n K dX7_closes_0 rfl 0 rfl ?_
  refine kx_iconst (v := 1) K dX7_closes_1 (by decide) ?_
  refine kx_aload_n K dX7_closes_2 rfl 0 rfl ?_
  refine kx_gi K f_X7_91 dX7_closes_3 hf (fun x1 hf => ?_)
  refine kx_iconst (v := 3) K dX7_closes_6 (by decide) ?_
  refine kx_icmp_ne K 14 hf dX7_closes_7 (by decide) (fun hf => ?_) (fun hf => ?_)
  · refine kx_iconst (v := 0) K dX7_closes_14 (by decide) ?_
    refine kx_cv2i K c_X7_130 (by decide) (Nat.le_of_ble_eq_true rfl) dX7_closes_15 hf (fun _ _ _ h => k_X7_starts h) (fun x3 σ2 hf => ?_)
    exact kx_zret K hQ (by decide) (by decide) (fun _ h => h) dX7_closes_18 hf
  · refine kx_iconst (v := 1) K dX7_closes_10 (by decide) ?_
    refine kx_goto K 15 dX7_closes_11 (by decide) ?_
    refine kx_cv2i K c_X7_130 (by decide) (Nat.le_of_ble_eq_true rfl) dX7_closes_15 hf (fun _ _ _ h => k_X7_starts h) (fun x5 σ4 hf => ?_)
    exact kx_zret K hQ (by decide) (by decide) (fun _ h => h) dX7_closes_18 hf
def m_X7_once_j16  (a0 : Nat) (a1 : Int32) (σ3 : ac_H) (w2 : Int32) : Option (Int32 × ac_H) :=
  mo_gi σ3 a0 7 12 fun x4 =>
  mo_pv σ3 a0 7 12 (.int (x4 ||| ((1 : Int32) <<< (a1 &&& 31)))) fun σ5 =>
  mo_cv σ5 a0 7 (m_X7_starts σ5 a0 (2 : Int32) w2) fun x7 σ6 =>
  mo_z x7 (some (x7, σ6))
def m_X7_once (σ : ac_H) (a0 : Nat) (a1 : Int32) : Option (Int32 × ac_H) :=
  mo_gi σ a0 7 12 fun x1 =>
  if ((x1 >>> (a1 &&& 31)) &&& (1 : Int32)) = 0 then
  (m_X7_once_j16 a0 a1 σ (1 : Int32))
  else
  (m_X7_once_j16 a0 a1 σ (0 : Int32))
set_option maxRecDepth 100000 in
set_option maxHeartbeats 4000000 in
theorem k_X7_once {Λ : ex_L} {q : Nat} {σ σ' : ac_H} {a0 : Nat} {a1 : Int32} {v : Int32} (hf : m_X7_once σ a0 a1 = some (v, σ')) : kx_C Λ yX7_once (.code yX7_once cX7_once 3 (some .boolean)) ({ frames := 3, cells := 0, slots := 0, locals := 65 } : Room) [.ref a0, .int a1] q σ (.inr (some (.int v))) σ' (fun z => z = q) := by
  refine kx_in (by decide +kernel) (Nat.le_of_ble_eq_true rfl) ?_
  intro Γ K hnm hsz hQ
  refine kx_lv (lv' := [(0, .ref a0), (1, .int a1)]) rfl ?_
  have B16 : ∀ (σ3 : ac_H) (w2 : Int32), m_X7_once_j16 a0 a1 σ3 w2 = some (v, σ') → kx_S Λ Γ 3 (fun z => z = q) σ3 (0) (0) 16 [(0, .ref a0), (1, .int a1)] [.int w2] := by
    intro σ3 w2 hf
    unfold m_X7_once_j16 at hf
    refine kx_istore_n K [(2, .int w2), (0, .ref a0), (1, .int a1)] dX7_once_16 rfl (by decide) rfl ?_
    refine kx_aload_n K dX7_once_17 rfl 1 rfl ?_
    refine kx_dup K dX7_once_18 rfl ?_
    refine kx_gi K f_X7_134 dX7_once_19 hf (fun x4 hf => ?_)
    refine kx_iconst (v := 1) K dX7_once_22 (by decide) ?_
    refine kx_iload_n K dX7_once_23 rfl 2 rfl ?_
    refine kx_ishl K dX7_once_24 ?_
    refine kx_ior K dX7_once_25 ?_
    refine kx_pi K f_X7_134 dX7_once_26 hf (fun σ5 hf => ?_)
    refine kx_aload_n K dX7_once_29 rfl 1 rfl ?_
    refine kx_iconst (v := 2) K dX7_once_30 (by decide) ?_
    refine kx_iload_n K dX7_once_31 rfl 0 rfl ?_
    refine kx_cv2i K c_X7_130 (by decide) (Nat.le_of_ble_eq_true rfl) dX7_once_32 hf (fun _ _ _ h => k_X7_starts h) (fun x7 σ6 hf => ?_)
    exact kx_zret K hQ (by decide) (by decide) (fun _ h => h) dX7_once_35 hf
  unfold m_X7_once at hf
  refine kx_aload_n K dX7_once_0 rfl 0 rfl ?_
  refine kx_gi K f_X7_134 dX7_once_1 hf (fun x1 hf => ?_)
  refine kx_iload_n K dX7_once_4 rfl 1 rfl ?_
  refine kx_ishr K dX7_once_5 ?_
  refine kx_iconst (v := 1) K dX7_once_6 (by decide) ?_
  refine kx_iand K dX7_once_7 ?_
  refine kx_if_ne K 15 hf dX7_once_8 (by decide) (fun hf => ?_) (fun hf => ?_)
  · refine kx_iconst (v := 0) K dX7_once_15 (by decide) ?_
    refine kx_sub [(0, .ref a0), (1, .int a1)] [0, 1] rfl ?_
    exact B16 _ _ hf
  · refine kx_iconst (v := 1) K dX7_once_11 (by decide) ?_
    refine kx_goto K 16 dX7_once_12 (by decide) ?_
    refine kx_sub [(0, .ref a0), (1, .int a1)] [0, 1] rfl ?_
    exact B16 _ _ hf
def m_X7_ofFault (σ : ac_H) (a0 : Nat) (a1 : Int32) (a2 : Int32) : Option (Int32 × ac_H) :=
  mo_ai σ a0 0 (((9 : Int32) + ((3 : Int32) * a1)) + a2) fun x1 =>
  some (x1, σ)
set_option maxRecDepth 100000 in
set_option maxHeartbeats 4000000 in
theorem k_X7_ofFault {Λ : ex_L} {q : Nat} {σ σ' : ac_H} {a0 : Nat} {a1 : Int32} {a2 : Int32} {v : Int32} (hf : m_X7_ofFault σ a0 a1 a2 = some (v, σ')) : kx_C Λ yX7_ofFault (.code yX7_ofFault cX7_ofFault 3 (some .int)) ({ frames := 0, cells := 0, slots := 0, locals := 0 } : Room) [.ref a0, .int a1, .int a2] q σ (.inr (some (.int v))) σ' (fun z => z = q) := by
  refine kx_in (by decide +kernel) (Nat.le_of_ble_eq_true rfl) ?_
  intro Γ K hnm hsz hQ
  refine kx_lv (lv' := [(0, .ref a0), (1, .int a1), (2, .int a2)]) rfl ?_
  unfold m_X7_ofFault at hf
  refine kx_aload_n K dX7_ofFault_0 rfl 0 rfl ?_
  refine kx_bipush (v := 9) K dX7_ofFault_1 (by decide) ?_
  refine kx_iconst (v := 3) K dX7_ofFault_3 (by decide) ?_
  refine kx_iload_n K dX7_ofFault_4 rfl 1 rfl ?_
  refine kx_imul K dX7_ofFault_5 ?_
  refine kx_iadd K dX7_ofFault_6 ?_
  refine kx_iload_n K dX7_ofFault_7 rfl 2 rfl ?_
  refine kx_iadd K dX7_ofFault_8 ?_
  refine kx_ai K dX7_ofFault_9 hf (fun x1 hf => ?_)
  exact kx_iret K hQ (by decide) (by decide) (fun _ h => h) dX7_ofFault_10 hf
def m_X7_placeOf_l2  (a0 : Nat) (a1 : Int32) (a2 : Int32) : Nat → ac_H → Int32 → Option (Int32 × ac_H)
  | 0, _, _ => none
  | n + 1, σ2, v1 =>
    mo_ai σ2 a0 0 (8 : Int32) fun x3 =>
    if v1 < x3 then
    (mo_cs (m_X7_ofFault σ2 a0 v1 (0 : Int32)) fun x5 σ4 =>
    if x5 = a1 then
    (mo_cs (m_X7_ofFault σ4 a0 v1 (1 : Int32)) fun x7 σ6 =>
    if x7 = a2 then
    (some (v1, σ6))
    else
    (m_X7_placeOf_l2 a0 a1 a2 n σ6 (v1 + 1)))
    else
    (m_X7_placeOf_l2 a0 a1 a2 n σ4 (v1 + 1)))
    else
    (some ((-1 : Int32), σ2))
def m_X7_placeOf (σ : ac_H) (a0 : Nat) (a1 : Int32) (a2 : Int32) : Option (Int32 × ac_H) :=
  m_X7_placeOf_l2 a0 a1 a2 hN_f σ (0 : Int32)
set_option maxRecDepth 100000 in
set_option maxHeartbeats 4000000 in
theorem k_X7_placeOf {Λ : ex_L} {q : Nat} {σ σ' : ac_H} {a0 : Nat} {a1 : Int32} {a2 : Int32} {v : Int32} (hf : m_X7_placeOf σ a0 a1 a2 = some (v, σ')) : kx_C Λ yX7_placeOf (.code yX7_placeOf cX7_placeOf 4 (some .int)) ({ frames := 1, cells := 0, slots := 0, locals := 22 } : Room) [.ref a0, .int a1, .int a2] q σ (.inr (some (.int v))) σ' (fun z => z = q) := by
  refine kx_in (by decide +kernel) (Nat.le_of_ble_eq_true rfl) ?_
  intro Γ K hnm hsz hQ
  refine kx_lv (lv' := [(0, .ref a0), (1, .int a1), (2, .int a2)]) rfl ?_
  have B2 : ∀ (n2 : Nat) (σ2 : ac_H) (v1 : Int32), m_X7_placeOf_l2 a0 a1 a2 n2 σ2 v1 = some (v, σ') → kx_S Λ Γ 4 (fun z => z = q) σ2 (0) (0) 2 [(0, .ref a0), (1, .int a1), (2, .int a2), (3, .int v1)] [] := by
    intro n2
    induction n2 with
    | zero =>
      intro σ2 v1 hf
      rw [m_X7_placeOf_l2] at hf
      cases hf
    | succ n2 ih2 =>
      intro σ2 v1 hf
      rw [m_X7_placeOf_l2] at hf
      refine kx_iload_n K dX7_placeOf_2 rfl 3 rfl ?_
      refine kx_aload_n K dX7_placeOf_3 rfl 0 rfl ?_
      refine kx_bipush (v := 8) K dX7_placeOf_4 (by decide) ?_
      refine kx_ai K dX7_placeOf_6 hf (fun x3 hf => ?_)
      refine kx_icmp_ge K 38 hf dX7_placeOf_7 (by decide) (fun hf => ?_) (fun hf => ?_)
      · refine kx_iconst (v := -1) K dX7_placeOf_38 (by decide) ?_
        exact kx_iret K hQ (by decide) (by decide) (fun _ h => h) dX7_placeOf_39 hf
      · refine kx_aload_n K dX7_placeOf_10 rfl 0 rfl ?_
        refine kx_iload_n K dX7_placeOf_11 rfl 3 rfl ?_
        refine kx_iconst (v := 0) K dX7_placeOf_12 (by decide) ?_
        refine kx_cs3i K c_X7_201 (by decide) (Nat.le_of_ble_eq_true rfl) dX7_placeOf_13 hf (fun _ _ _ h => k_X7_ofFault h) (fun x5 σ4 hf => ?_)
        refine kx_iload_n K dX7_placeOf_16 rfl 1 rfl ?_
        refine kx_icmp_ne K 32 hf dX7_placeOf_17 (by decide) (fun hf => ?_) (fun hf => ?_)
        · refine kx_iinc (v := (v1 + 1)) K [(3, .int (v1 + 1)), (0, .ref a0), (1, .int a1), (2, .int a2)] dX7_placeOf_32 3 rfl rfl (by decide) rfl ?_
          refine kx_goto K 2 dX7_placeOf_35 (by decide) ?_
          refine kx_sub [(0, .ref a0), (1, .int a1), (2, .int a2), (3, .int (v1 + 1))] [1, 2, 3, 0] rfl ?_
          exact ih2 _ _ hf
        · refine kx_aload_n K dX7_placeOf_20 rfl 0 rfl ?_
          refine kx_iload_n K dX7_placeOf_21 rfl 3 rfl ?_
          refine kx_iconst (v := 1) K dX7_placeOf_22 (by decide) ?_
          refine kx_cs3i K c_X7_201 (by decide) (Nat.le_of_ble_eq_true rfl) dX7_placeOf_23 hf (fun _ _ _ h => k_X7_ofFault h) (fun x7 σ6 hf => ?_)
          refine kx_iload_n K dX7_placeOf_26 rfl 2 rfl ?_
          refine kx_icmp_ne K 32 hf dX7_placeOf_27 (by decide) (fun hf => ?_) (fun hf => ?_)
          · refine kx_iinc (v := (v1 + 1)) K [(3, .int (v1 + 1)), (0, .ref a0), (1, .int a1), (2, .int a2)] dX7_placeOf_32 3 rfl rfl (by decide) rfl ?_
            refine kx_goto K 2 dX7_placeOf_35 (by decide) ?_
            refine kx_sub [(0, .ref a0), (1, .int a1), (2, .int a2), (3, .int (v1 + 1))] [1, 2, 3, 0] rfl ?_
            exact ih2 _ _ hf
          · refine kx_iload_n K dX7_placeOf_30 rfl 3 rfl ?_
            exact kx_iret K hQ (by decide) (by decide) (fun _ h => h) dX7_placeOf_31 hf
  unfold m_X7_placeOf at hf
  refine kx_iconst (v := 0) K dX7_placeOf_0 (by decide) ?_
  refine kx_istore_n K [(3, .int (0 : Int32)), (0, .ref a0), (1, .int a1), (2, .int a2)] dX7_placeOf_1 rfl (by decide) rfl ?_
  refine kx_sub [(0, .ref a0), (1, .int a1), (2, .int a2), (3, .int (0 : Int32))] [1, 2, 3, 0] rfl ?_
  exact B2 hN_f _ _ hf
def m_X7_comes_j83  (a0 : Nat) (a1 : Int32) (a2 : Int32) (a3 : Int32) (σ15 : ac_H) (v14 : Int32) : Option (Int32 × ac_H) :=
  mo_ui σ15 a0 0 ((9 : Int32) + ((3 : Int32) * v14)) a1 fun σ16 =>
  mo_ui σ16 a0 0 (((9 : Int32) + ((3 : Int32) * v14)) + (1 : Int32)) a2 fun σ17 =>
  mo_ui σ17 a0 0 (((9 : Int32) + ((3 : Int32) * v14)) + (2 : Int32)) a3 fun σ18 =>
  mo_ai σ18 a0 0 (8 : Int32) fun x19 =>
  mo_ui σ18 a0 0 (8 : Int32) (x19 + (1 : Int32)) fun σ20 =>
  some (v14, σ20)
def m_X7_comes_l43 (K6 : ac_H → Int32 → Option (Int32 × ac_H)) (a0 : Nat) (a1 : Int32) (a2 : Int32) (a3 : Int32) : Nat → ac_H → Int32 → Int32 → Option (Int32 × ac_H)
  | 0, _, _, _ => none
  | n + 1, σ10, v8, v9 =>
    if v9 < (3 : Int32) then
    (mo_cs (m_X7_ofFault σ10 a0 (v8 - (1 : Int32)) v9) fun x12 σ11 =>
    mo_ui σ11 a0 0 (((9 : Int32) + ((3 : Int32) * v8)) + v9) x12 fun σ13 =>
    m_X7_comes_l43 K6 a0 a1 a2 a3 n σ13 v8 (v9 + 1))
    else
    (K6 σ10 (v8 + (-1)))
def m_X7_comes_l6  (a0 : Nat) (a1 : Int32) (a2 : Int32) (a3 : Int32) : Nat → ac_H → Int32 → Option (Int32 × ac_H)
  | 0, _, _ => none
  | n + 1, σ3, v2 =>
    if 0 < v2 then
    (mo_cs (m_X7_ofFault σ3 a0 (v2 - (1 : Int32)) (1 : Int32)) fun x5 σ4 =>
    mo_cs (m_X7_ofFault σ4 a0 (v2 - (1 : Int32)) (0 : Int32)) fun x7 σ6 =>
    if (((3 : Int32) * a2) + a1) < (((3 : Int32) * x5) + x7) then
    (m_X7_comes_l43 (fun ρ y0 => m_X7_comes_l6 a0 a1 a2 a3 n ρ y0) a0 a1 a2 a3 hN_f σ6 v2 (0 : Int32))
    else
    (m_X7_comes_j83 a0 a1 a2 a3 σ6 v2))
    else
    (m_X7_comes_j83 a0 a1 a2 a3 σ3 v2)
def m_X7_comes (σ : ac_H) (a0 : Nat) (a1 : Int32) (a2 : Int32) (a3 : Int32) : Option (Int32 × ac_H) :=
  mo_ai σ a0 0 (8 : Int32) fun x1 =>
  m_X7_comes_l6 a0 a1 a2 a3 hN_f σ x1
set_option maxRecDepth 100000 in
set_option maxHeartbeats 4000000 in
theorem k_X7_comes {Λ : ex_L} {q : Nat} {σ σ' : ac_H} {a0 : Nat} {a1 : Int32} {a2 : Int32} {a3 : Int32} {v : Int32} (hf : m_X7_comes σ a0 a1 a2 a3 = some (v, σ')) : kx_C Λ yX7_comes (.code yX7_comes cX7_comes 6 (some .int)) ({ frames := 1, cells := 0, slots := 0, locals := 22 } : Room) [.ref a0, .int a1, .int a2, .int a3] q σ (.inr (some (.int v))) σ' (fun z => z = q) := by
  refine kx_in (by decide +kernel) (Nat.le_of_ble_eq_true rfl) ?_
  intro Γ K hnm hsz hQ
  refine kx_lv (lv' := [(0, .ref a0), (1, .int a1), (2, .int a2), (3, .int a3)]) rfl ?_
  have B83 : ∀ (σ15 : ac_H) (v14 : Int32), m_X7_comes_j83 a0 a1 a2 a3 σ15 v14 = some (v, σ') → kx_S Λ Γ 6 (fun z => z = q) σ15 (0) (0) 83 [(0, .ref a0), (1, .int a1), (2, .int a2), (3, .int a3), (4, .int v14)] [] := by
    intro σ15 v14 hf
    unfold m_X7_comes_j83 at hf
    refine kx_aload_n K dX7_comes_83 rfl 0 rfl ?_
    refine kx_bipush (v := 9) K dX7_comes_84 (by decide) ?_
    refine kx_iconst (v := 3) K dX7_comes_86 (by decide) ?_
    refine kx_iload K dX7_comes_87 4 rfl ?_
    refine kx_imul K dX7_comes_89 ?_
    refine kx_iadd K dX7_comes_90 ?_
    refine kx_iload_n K dX7_comes_91 rfl 1 rfl ?_
    refine kx_ui K dX7_comes_92 hf (fun σ16 hf => ?_)
    refine kx_aload_n K dX7_comes_93 rfl 0 rfl ?_
    refine kx_bipush (v := 9) K dX7_comes_94 (by decide) ?_
    refine kx_iconst (v := 3) K dX7_comes_96 (by decide) ?_
    refine kx_iload K dX7_comes_97 4 rfl ?_
    refine kx_imul K dX7_comes_99 ?_
    refine kx_iadd K dX7_comes_100 ?_
    refine kx_iconst (v := 1) K dX7_comes_101 (by decide) ?_
    refine kx_iadd K dX7_comes_102 ?_
    refine kx_iload_n K dX7_comes_103 rfl 2 rfl ?_
    refine kx_ui K dX7_comes_104 hf (fun σ17 hf => ?_)
    refine kx_aload_n K dX7_comes_105 rfl 0 rfl ?_
    refine kx_bipush (v := 9) K dX7_comes_106 (by decide) ?_
    refine kx_iconst (v := 3) K dX7_comes_108 (by decide) ?_
    refine kx_iload K dX7_comes_109 4 rfl ?_
    refine kx_imul K dX7_comes_111 ?_
    refine kx_iadd K dX7_comes_112 ?_
    refine kx_iconst (v := 2) K dX7_comes_113 (by decide) ?_
    refine kx_iadd K dX7_comes_114 ?_
    refine kx_iload_n K dX7_comes_115 rfl 3 rfl ?_
    refine kx_ui K dX7_comes_116 hf (fun σ18 hf => ?_)
    refine kx_aload_n K dX7_comes_117 rfl 0 rfl ?_
    refine kx_bipush (v := 8) K dX7_comes_118 (by decide) ?_
    refine kx_dup2 K dX7_comes_120 rfl rfl ?_
    refine kx_ai K dX7_comes_121 hf (fun x19 hf => ?_)
    refine kx_iconst (v := 1) K dX7_comes_122 (by decide) ?_
    refine kx_iadd K dX7_comes_123 ?_
    refine kx_ui K dX7_comes_124 hf (fun σ20 hf => ?_)
    refine kx_iload K dX7_comes_125 4 rfl ?_
    exact kx_iret K hQ (by decide) (by decide) (fun _ h => h) dX7_comes_127 hf
  have B6 : ∀ (n6 : Nat) (σ3 : ac_H) (v2 : Int32), m_X7_comes_l6 a0 a1 a2 a3 n6 σ3 v2 = some (v, σ') → kx_S Λ Γ 6 (fun z => z = q) σ3 (0) (0) 6 [(0, .ref a0), (1, .int a1), (2, .int a2), (3, .int a3), (4, .int v2)] [] := by
    intro n6
    induction n6 with
    | zero =>
      intro σ3 v2 hf
      rw [m_X7_comes_l6] at hf
      cases hf
    | succ n6 ih6 =>
      have B43 : ∀ (n43 : Nat) (σ10 : ac_H) (v8 : Int32) (v9 : Int32), m_X7_comes_l43 (fun ρ y0 => m_X7_comes_l6 a0 a1 a2 a3 n6 ρ y0) a0 a1 a2 a3 n43 σ10 v8 v9 = some (v, σ') → kx_S Λ Γ 6 (fun z => z = q) σ10 (0) (0) 43 [(0, .ref a0), (1, .int a1), (2, .int a2), (3, .int a3), (4, .int v8), (5, .int v9)] [] := by
        intro n43
        induction n43 with
        | zero =>
          intro σ10 v8 v9 hf
          rw [m_X7_comes_l43] at hf
          cases hf
        | succ n43 ih43 =>
          intro σ10 v8 v9 hf
          rw [m_X7_comes_l43] at hf
          refine kx_iload K dX7_comes_43 5 rfl ?_
          refine kx_iconst (v := 3) K dX7_comes_45 (by decide) ?_
          refine kx_icmp_ge K 77 hf dX7_comes_46 (by decide) (fun hf => ?_) (fun hf => ?_)
          · refine kx_iinc (v := (v8 + (-1))) K [(4, .int (v8 + (-1))), (0, .ref a0), (1, .int a1), (2, .int a2), (3, .int a3), (5, .int v9)] dX7_comes_77 4 rfl rfl (by decide) rfl ?_
            refine kx_goto K 6 dX7_comes_80 (by decide) ?_
            refine kx_sub [(0, .ref a0), (1, .int a1), (2, .int a2), (3, .int a3), (4, .int (v8 + (-1)))] [1, 2, 3, 4, 0] rfl ?_
            exact ih6 _ _ hf
          · refine kx_aload_n K dX7_comes_49 rfl 0 rfl ?_
            refine kx_bipush (v := 9) K dX7_comes_50 (by decide) ?_
            refine kx_iconst (v := 3) K dX7_comes_52 (by decide) ?_
            refine kx_iload K dX7_comes_53 4 rfl ?_
            refine kx_imul K dX7_comes_55 ?_
            refine kx_iadd K dX7_comes_56 ?_
            refine kx_iload K dX7_comes_57 5 rfl ?_
            refine kx_iadd K dX7_comes_59 ?_
            refine kx_aload_n K dX7_comes_60 rfl 0 rfl ?_
            refine kx_iload K dX7_comes_61 4 rfl ?_
            refine kx_iconst (v := 1) K dX7_comes_63 (by decide) ?_
            refine kx_isub K dX7_comes_64 ?_
            refine kx_iload K dX7_comes_65 5 rfl ?_
            refine kx_cs3i K c_X7_201 (by decide) (Nat.le_of_ble_eq_true rfl) dX7_comes_67 hf (fun _ _ _ h => k_X7_ofFault h) (fun x12 σ11 hf => ?_)
            refine kx_ui K dX7_comes_70 hf (fun σ13 hf => ?_)
            refine kx_iinc (v := (v9 + 1)) K [(5, .int (v9 + 1)), (0, .ref a0), (1, .int a1), (2, .int a2), (3, .int a3), (4, .int v8)] dX7_comes_71 5 rfl rfl (by decide) rfl ?_
            refine kx_goto K 43 dX7_comes_74 (by decide) ?_
            refine kx_sub [(0, .ref a0), (1, .int a1), (2, .int a2), (3, .int a3), (4, .int v8), (5, .int (v9 + 1))] [1, 2, 3, 4, 5, 0] rfl ?_
            exact ih43 _ _ _ hf
      intro σ3 v2 hf
      rw [m_X7_comes_l6] at hf
      refine kx_iload K dX7_comes_6 4 rfl ?_
      refine kx_if_le K 83 hf dX7_comes_8 (by decide) (fun hf => ?_) (fun hf => ?_)
      · refine kx_sub [(0, .ref a0), (1, .int a1), (2, .int a2), (3, .int a3), (4, .int v2)] [0, 1, 2, 3, 4] rfl ?_
        exact B83 _ _ hf
      · refine kx_iconst (v := 3) K dX7_comes_11 (by decide) ?_
        refine kx_aload_n K dX7_comes_12 rfl 0 rfl ?_
        refine kx_iload K dX7_comes_13 4 rfl ?_
        refine kx_iconst (v := 1) K dX7_comes_15 (by decide) ?_
        refine kx_isub K dX7_comes_16 ?_
        refine kx_iconst (v := 1) K dX7_comes_17 (by decide) ?_
        refine kx_cs3i K c_X7_201 (by decide) (Nat.le_of_ble_eq_true rfl) dX7_comes_18 hf (fun _ _ _ h => k_X7_ofFault h) (fun x5 σ4 hf => ?_)
        refine kx_imul K dX7_comes_21 ?_
        refine kx_aload_n K dX7_comes_22 rfl 0 rfl ?_
        refine kx_iload K dX7_comes_23 4 rfl ?_
        refine kx_iconst (v := 1) K dX7_comes_25 (by decide) ?_
        refine kx_isub K dX7_comes_26 ?_
        refine kx_iconst (v := 0) K dX7_comes_27 (by decide) ?_
        refine kx_cs3i K c_X7_201 (by decide) (Nat.le_of_ble_eq_true rfl) dX7_comes_28 hf (fun _ _ _ h => k_X7_ofFault h) (fun x7 σ6 hf => ?_)
        refine kx_iadd K dX7_comes_31 ?_
        refine kx_iconst (v := 3) K dX7_comes_32 (by decide) ?_
        refine kx_iload_n K dX7_comes_33 rfl 2 rfl ?_
        refine kx_imul K dX7_comes_34 ?_
        refine kx_iload_n K dX7_comes_35 rfl 1 rfl ?_
        refine kx_iadd K dX7_comes_36 ?_
        refine kx_icmp_le K 83 hf dX7_comes_37 (by decide) (fun hf => ?_) (fun hf => ?_)
        · refine kx_sub [(0, .ref a0), (1, .int a1), (2, .int a2), (3, .int a3), (4, .int v2)] [0, 1, 2, 3, 4] rfl ?_
          exact B83 _ _ hf
        · refine kx_iconst (v := 0) K dX7_comes_40 (by decide) ?_
          refine kx_istore K [(5, .int (0 : Int32)), (0, .ref a0), (1, .int a1), (2, .int a2), (3, .int a3), (4, .int v2)] dX7_comes_41 (by decide) rfl ?_
          refine kx_sub [(0, .ref a0), (1, .int a1), (2, .int a2), (3, .int a3), (4, .int v2), (5, .int (0 : Int32))] [1, 2, 3, 4, 5, 0] rfl ?_
          exact B43 hN_f _ _ _ hf
  unfold m_X7_comes at hf
  refine kx_aload_n K dX7_comes_0 rfl 0 rfl ?_
  refine kx_bipush (v := 8) K dX7_comes_1 (by decide) ?_
  refine kx_ai K dX7_comes_3 hf (fun x1 hf => ?_)
  refine kx_istore K [(4, .int x1), (0, .ref a0), (1, .int a1), (2, .int a2), (3, .int a3)] dX7_comes_4 (by decide) rfl ?_
  refine kx_sub [(0, .ref a0), (1, .int a1), (2, .int a2), (3, .int a3), (4, .int x1)] [1, 2, 3, 4, 0] rfl ?_
  exact B6 hN_f _ _ hf
def m_X7_faultLine_j91  (a0 : Nat) (a1 : Int32) (σ23 : ac_H) (v22 : Int32) : Option (Int32 × ac_H) :=
  mo_gr σ23 a0 7 13 fun x24 =>
  if a1 = (2 : Int32) then
  (mo_gi σ23 a0 7 11 fun x27 =>
  mo_cs (m_X7_comes σ23 x24 a1 v22 x27) fun x29 σ28 =>
  mo_z (1 : Int32) (some ((1 : Int32), σ28)))
  else
  (mo_cs (m_X7_comes σ23 x24 a1 v22 (0 : Int32)) fun x26 σ25 =>
  mo_z (1 : Int32) (some ((1 : Int32), σ25)))
def m_X7_faultLine_j57  (a0 : Nat) (a1 : Int32) (σ16 : ac_H) : Option (Int32 × ac_H) :=
  mo_cv σ16 a0 7 (m_X7_takes σ16 a0 (0 : Int32) (119 : Int32)) fun x18 σ17 =>
  if x18 = 0 then
  (mo_z (0 : Int32) (some ((0 : Int32), σ17)))
  else
  (mo_gi σ17 a0 7 11 fun x19 =>
  if a1 = (2 : Int32) then
  (mo_cv σ17 a0 7 (m_X7_takes σ17 a0 (1 : Int32) (20 : Int32)) fun x21 σ20 =>
  if x21 = 0 then
  (mo_z (0 : Int32) (some ((0 : Int32), σ20)))
  else
  (m_X7_faultLine_j91 a0 a1 σ20 x19))
  else
  (m_X7_faultLine_j91 a0 a1 σ17 x19))
def m_X7_faultLine_j19  (a0 : Nat) (a1 : Int32) (σ6 : ac_H) (w3 : Int32) (w4 : Int32) (w5 : Nat) : Option (Int32 × ac_H) :=
  mo_cv σ6 w5 7 (m_X7_starts σ6 w5 w4 w3) fun x8 σ7 =>
  if x8 = 0 then
  (mo_z (0 : Int32) (some ((0 : Int32), σ7)))
  else
  (mo_gi σ7 a0 7 7 fun x9 =>
  if x9 = (2 : Int32) then
  (mo_gr σ7 a0 7 13 fun x10 =>
  mo_gi σ7 a0 7 8 fun x11 =>
  mo_cs (m_X7_placeOf σ7 x10 a1 x11) fun x13 σ12 =>
  if x13 = (-1 : Int32) then
  (m_X7_faultLine_j57 a0 a1 σ12)
  else
  (mo_cv σ12 a0 7 (m_X7_fails σ12 a0 (2 : Int32)) fun x15 σ14 =>
  mo_z x15 (some (x15, σ14))))
  else
  (m_X7_faultLine_j57 a0 a1 σ7))
def m_X7_faultLine (σ : ac_H) (a0 : Nat) (a1 : Int32) : Option (Int32 × ac_H) :=
  mo_gr σ a0 7 13 fun x1 =>
  mo_ai σ x1 0 (8 : Int32) fun x2 =>
  if x2 < (10 : Int32) then
  (m_X7_faultLine_j19 a0 a1 σ (1 : Int32) (4 : Int32) a0)
  else
  (m_X7_faultLine_j19 a0 a1 σ (0 : Int32) (4 : Int32) a0)
set_option maxRecDepth 100000 in
set_option maxHeartbeats 4000000 in
theorem k_X7_faultLine {Λ : ex_L} {q : Nat} {σ σ' : ac_H} {a0 : Nat} {a1 : Int32} {v : Int32} (hf : m_X7_faultLine σ a0 a1 = some (v, σ')) : kx_C Λ yX7_faultLine (.code yX7_faultLine cX7_faultLine 4 (some .boolean)) ({ frames := 3, cells := 0, slots := 0, locals := 65 } : Room) [.ref a0, .int a1] q σ (.inr (some (.int v))) σ' (fun z => z = q) := by
  refine kx_in (by decide +kernel) (Nat.le_of_ble_eq_true rfl) ?_
  intro Γ K hnm hsz hQ
  refine kx_lv (lv' := [(0, .ref a0), (1, .int a1)]) rfl ?_
  have B91 : ∀ (σ23 : ac_H) (v22 : Int32), m_X7_faultLine_j91 a0 a1 σ23 v22 = some (v, σ') → kx_S Λ Γ 4 (fun z => z = q) σ23 (0) (0) 91 [(0, .ref a0), (1, .int a1), (2, .int v22)] [] := by
    intro σ23 v22 hf
    unfold m_X7_faultLine_j91 at hf
    refine kx_aload_n K dX7_faultLine_91 rfl 0 rfl ?_
    refine kx_gr K f_X7_21 dX7_faultLine_92 hf (fun x24 hf => ?_)
    refine kx_iload_n K dX7_faultLine_95 rfl 1 rfl ?_
    refine kx_iload_n K dX7_faultLine_96 rfl 2 rfl ?_
    refine kx_iload_n K dX7_faultLine_97 rfl 1 rfl ?_
    refine kx_iconst (v := 2) K dX7_faultLine_98 (by decide) ?_
    refine kx_icmp_ne K 109 hf dX7_faultLine_99 (by decide) (fun hf => ?_) (fun hf => ?_)
    · refine kx_iconst (v := 0) K dX7_faultLine_109 (by decide) ?_
      refine kx_cs4i K c_X7_141 (by decide) (Nat.le_of_ble_eq_true rfl) dX7_faultLine_110 hf (fun _ _ _ h => k_X7_comes h) (fun x26 σ25 hf => ?_)
      refine kx_istore_n K [(3, .int x26), (0, .ref a0), (1, .int a1), (2, .int v22)] dX7_faultLine_113 rfl (by decide) rfl ?_
      refine kx_iconst (v := 1) K dX7_faultLine_114 (by decide) ?_
      exact kx_zret K hQ (by decide) (by decide) (fun _ h => h) dX7_faultLine_115 hf
    · refine kx_aload_n K dX7_faultLine_102 rfl 0 rfl ?_
      refine kx_gi K f_X7_117 dX7_faultLine_103 hf (fun x27 hf => ?_)
      refine kx_goto K 110 dX7_faultLine_106 (by decide) ?_
      refine kx_cs4i K c_X7_141 (by decide) (Nat.le_of_ble_eq_true rfl) dX7_faultLine_110 hf (fun _ _ _ h => k_X7_comes h) (fun x29 σ28 hf => ?_)
      refine kx_istore_n K [(3, .int x29), (0, .ref a0), (1, .int a1), (2, .int v22)] dX7_faultLine_113 rfl (by decide) rfl ?_
      refine kx_iconst (v := 1) K dX7_faultLine_114 (by decide) ?_
      exact kx_zret K hQ (by decide) (by decide) (fun _ h => h) dX7_faultLine_115 hf
  have B57 : ∀ (σ16 : ac_H), m_X7_faultLine_j57 a0 a1 σ16 = some (v, σ') → kx_S Λ Γ 4 (fun z => z = q) σ16 (0) (0) 57 [(0, .ref a0), (1, .int a1)] [] := by
    intro σ16 hf
    unfold m_X7_faultLine_j57 at hf
    refine kx_aload_n K dX7_faultLine_57 rfl 0 rfl ?_
    refine kx_iconst (v := 0) K dX7_faultLine_58 (by decide) ?_
    refine kx_bipush (v := 119) K dX7_faultLine_59 (by decide) ?_
    refine kx_cv2i K c_X7_126 (by decide) (Nat.le_of_ble_eq_true rfl) dX7_faultLine_61 hf (fun _ _ _ h => k_X7_takes h) (fun x18 σ17 hf => ?_)
    refine kx_if_ne K 69 hf dX7_faultLine_64 (by decide) (fun hf => ?_) (fun hf => ?_)
    · refine kx_aload_n K dX7_faultLine_69 rfl 0 rfl ?_
      refine kx_gi K f_X7_117 dX7_faultLine_70 hf (fun x19 hf => ?_)
      refine kx_istore_n K [(2, .int x19), (0, .ref a0), (1, .int a1)] dX7_faultLine_73 rfl (by decide) rfl ?_
      refine kx_iload_n K dX7_faultLine_74 rfl 2 rfl ?_
      refine kx_iconst (v := 2) K dX7_faultLine_75 (by decide) ?_
      refine kx_icmp_ne K 91 hf dX7_faultLine_76 (by decide) (fun hf => ?_) (fun hf => ?_)
      · refine kx_sub [(0, .ref a0), (1, .int a1), (2, .int x19)] [1, 2, 0] rfl ?_
        exact B91 _ _ hf
      · refine kx_aload_n K dX7_faultLine_79 rfl 1 rfl ?_
        refine kx_iconst (v := 1) K dX7_faultLine_80 (by decide) ?_
        refine kx_bipush (v := 20) K dX7_faultLine_81 (by decide) ?_
        refine kx_cv2i K c_X7_126 (by decide) (Nat.le_of_ble_eq_true rfl) dX7_faultLine_83 hf (fun _ _ _ h => k_X7_takes h) (fun x21 σ20 hf => ?_)
        refine kx_if_ne K 91 hf dX7_faultLine_86 (by decide) (fun hf => ?_) (fun hf => ?_)
        · refine kx_sub [(0, .ref a0), (1, .int a1), (2, .int x19)] [1, 2, 0] rfl ?_
          exact B91 _ _ hf
        · refine kx_iconst (v := 0) K dX7_faultLine_89 (by decide) ?_
          exact kx_zret K hQ (by decide) (by decide) (fun _ h => h) dX7_faultLine_90 hf
    · refine kx_iconst (v := 0) K dX7_faultLine_67 (by decide) ?_
      exact kx_zret K hQ (by decide) (by decide) (fun _ h => h) dX7_faultLine_68 hf
  have B19 : ∀ (σ6 : ac_H) (w3 : Int32) (w4 : Int32) (w5 : Nat), m_X7_faultLine_j19 a0 a1 σ6 w3 w4 w5 = some (v, σ') → kx_S Λ Γ 4 (fun z => z = q) σ6 (0) (0) 19 [(0, .ref a0), (1, .int a1)] [.int w3, .int w4, .ref w5] := by
    intro σ6 w3 w4 w5 hf
    unfold m_X7_faultLine_j19 at hf
    refine kx_cv2i K c_X7_130 (by decide) (Nat.le_of_ble_eq_true rfl) dX7_faultLine_19 hf (fun _ _ _ h => k_X7_starts h) (fun x8 σ7 hf => ?_)
    refine kx_if_ne K 27 hf dX7_faultLine_22 (by decide) (fun hf => ?_) (fun hf => ?_)
    · refine kx_aload_n K dX7_faultLine_27 rfl 0 rfl ?_
      refine kx_gi K f_X7_91 dX7_faultLine_28 hf (fun x9 hf => ?_)
      refine kx_iconst (v := 2) K dX7_faultLine_31 (by decide) ?_
      refine kx_icmp_ne K 57 hf dX7_faultLine_32 (by decide) (fun hf => ?_) (fun hf => ?_)
      · refine kx_sub [(0, .ref a0), (1, .int a1)] [0, 1] rfl ?_
        exact B57 _ hf
      · refine kx_aload_n K dX7_faultLine_35 rfl 0 rfl ?_
        refine kx_gr K f_X7_21 dX7_faultLine_36 hf (fun x10 hf => ?_)
        refine kx_iload_n K dX7_faultLine_39 rfl 1 rfl ?_
        refine kx_aload_n K dX7_faultLine_40 rfl 0 rfl ?_
        refine kx_gi K f_X7_88 dX7_faultLine_41 hf (fun x11 hf => ?_)
        refine kx_cs3i K c_X7_137 (by decide) (Nat.le_of_ble_eq_true rfl) dX7_faultLine_44 hf (fun _ _ _ h => k_X7_placeOf h) (fun x13 σ12 hf => ?_)
        refine kx_iconst (v := -1) K dX7_faultLine_47 (by decide) ?_
        refine kx_icmp_eq K 57 hf dX7_faultLine_48 (by decide) (fun hf => ?_) (fun hf => ?_)
        · refine kx_sub [(0, .ref a0), (1, .int a1)] [0, 1] rfl ?_
          exact B57 _ hf
        · refine kx_aload_n K dX7_faultLine_51 rfl 0 rfl ?_
          refine kx_iconst (v := 2) K dX7_faultLine_52 (by decide) ?_
          refine kx_cv1i K c_X7_110 (by decide) (Nat.le_of_ble_eq_true rfl) dX7_faultLine_53 hf (fun _ _ _ h => k_X7_fails h) (fun x15 σ14 hf => ?_)
          exact kx_zret K hQ (by decide) (by decide) (fun _ h => h) dX7_faultLine_56 hf
    · refine kx_iconst (v := 0) K dX7_faultLine_25 (by decide) ?_
      exact kx_zret K hQ (by decide) (by decide) (fun _ h => h) dX7_faultLine_26 hf
  unfold m_X7_faultLine at hf
  refine kx_aload_n K dX7_faultLine_0 rfl 0 rfl ?_
  refine kx_iconst (v := 4) K dX7_faultLine_1 (by decide) ?_
  refine kx_aload_n K dX7_faultLine_2 rfl 0 rfl ?_
  refine kx_gr K f_X7_21 dX7_faultLine_3 hf (fun x1 hf => ?_)
  refine kx_bipush (v := 8) K dX7_faultLine_6 (by decide) ?_
  refine kx_ai K dX7_faultLine_8 hf (fun x2 hf => ?_)
  refine kx_bipush (v := 10) K dX7_faultLine_9 (by decide) ?_
  refine kx_icmp_ge K 18 hf dX7_faultLine_11 (by decide) (fun hf => ?_) (fun hf => ?_)
  · refine kx_iconst (v := 0) K dX7_faultLine_18 (by decide) ?_
    refine kx_sub [(0, .ref a0), (1, .int a1)] [0, 1] rfl ?_
    exact B19 _ _ _ _ hf
  · refine kx_iconst (v := 1) K dX7_faultLine_14 (by decide) ?_
    refine kx_goto K 19 dX7_faultLine_15 (by decide) ?_
    refine kx_sub [(0, .ref a0), (1, .int a1)] [0, 1] rfl ?_
    exact B19 _ _ _ _ hf
def m_X7_statement (σ : ac_H) (a0 : Nat) : Option (Int32 × ac_H) :=
  mo_cv σ a0 7 (m_X7_isWord σ a0 4) fun x2 σ1 =>
  if x2 = 0 then
  (mo_cv σ1 a0 7 (m_X7_isWord σ1 a0 5) fun x4 σ3 =>
  if x4 = 0 then
  (mo_cv σ3 a0 7 (m_X7_isWord σ3 a0 6) fun x6 σ5 =>
  if x6 = 0 then
  (mo_cv σ5 a0 7 (m_X7_isWord σ5 a0 7) fun x8 σ7 =>
  if x8 = 0 then
  (mo_cv σ7 a0 7 (m_X7_isWord σ7 a0 8) fun x10 σ9 =>
  if x10 = 0 then
  (mo_cv σ9 a0 7 (m_X7_isWord σ9 a0 9) fun x12 σ11 =>
  if x12 = 0 then
  (mo_cv σ11 a0 7 (m_X7_isWord σ11 a0 10) fun x14 σ13 =>
  if x14 = 0 then
  (mo_cv σ13 a0 7 (m_X7_fails σ13 a0 (1 : Int32)) fun x16 σ15 =>
  mo_z x16 (some (x16, σ15)))
  else
  (mo_cv σ13 a0 7 (m_X7_faultLine σ13 a0 (2 : Int32)) fun x18 σ17 =>
  mo_z x18 (some (x18, σ17))))
  else
  (mo_cv σ11 a0 7 (m_X7_faultLine σ11 a0 (1 : Int32)) fun x20 σ19 =>
  mo_z x20 (some (x20, σ19))))
  else
  (mo_cv σ9 a0 7 (m_X7_faultLine σ9 a0 (0 : Int32)) fun x22 σ21 =>
  mo_z x22 (some (x22, σ21))))
  else
  (mo_cv σ7 a0 7 (m_X7_once σ7 a0 (3 : Int32)) fun x24 σ23 =>
  if x24 = 0 then
  (mo_z (0 : Int32) (some ((0 : Int32), σ23)))
  else
  (mo_cv σ23 a0 7 (m_X7_lays σ23 a0 (7 : Int32)) fun x26 σ25 =>
  if x26 = 0 then
  (mo_z (0 : Int32) (some ((0 : Int32), σ25)))
  else
  (mo_z (1 : Int32) (some ((1 : Int32), σ25))))))
  else
  (mo_cv σ5 a0 7 (m_X7_once σ5 a0 (2 : Int32)) fun x28 σ27 =>
  if x28 = 0 then
  (mo_z (0 : Int32) (some ((0 : Int32), σ27)))
  else
  (mo_cv σ27 a0 7 (m_X7_lays σ27 a0 (5 : Int32)) fun x30 σ29 =>
  if x30 = 0 then
  (mo_z (0 : Int32) (some ((0 : Int32), σ29)))
  else
  (mo_cv σ29 a0 7 (m_X7_lays σ29 a0 (6 : Int32)) fun x32 σ31 =>
  if x32 = 0 then
  (mo_z (0 : Int32) (some ((0 : Int32), σ31)))
  else
  (mo_z (1 : Int32) (some ((1 : Int32), σ31)))))))
  else
  (mo_cv σ3 a0 7 (m_X7_once σ3 a0 (1 : Int32)) fun x34 σ33 =>
  if x34 = 0 then
  (mo_z (0 : Int32) (some ((0 : Int32), σ33)))
  else
  (mo_cv σ33 a0 7 (m_X7_lays σ33 a0 (4 : Int32)) fun x36 σ35 =>
  if x36 = 0 then
  (mo_z (0 : Int32) (some ((0 : Int32), σ35)))
  else
  (mo_z (1 : Int32) (some ((1 : Int32), σ35))))))
  else
  (mo_cv σ1 a0 7 (m_X7_once σ1 a0 (0 : Int32)) fun x38 σ37 =>
  if x38 = 0 then
  (mo_z (0 : Int32) (some ((0 : Int32), σ37)))
  else
  (mo_cv σ37 a0 7 (m_X7_lays σ37 a0 (3 : Int32)) fun x40 σ39 =>
  if x40 = 0 then
  (mo_z (0 : Int32) (some ((0 : Int32), σ39)))
  else
  (mo_z (1 : Int32) (some ((1 : Int32), σ39)))))
set_option maxRecDepth 100000 in
set_option maxHeartbeats 4000000 in
theorem k_X7_statement {Λ : ex_L} {q : Nat} {σ σ' : ac_H} {a0 : Nat} {v : Int32} (hf : m_X7_statement σ a0 = some (v, σ')) : kx_C Λ yX7_statement (.code yX7_statement cX7_statement 1 (some .boolean)) ({ frames := 5, cells := 0, slots := 0, locals := 108 } : Room) [.ref a0] q σ (.inr (some (.int v))) σ' (fun z => z = q) := by
  refine kx_in (by decide +kernel) (Nat.le_of_ble_eq_true rfl) ?_
  intro Γ K hnm hsz hQ
  refine kx_lv (lv' := [(0, .ref a0)]) rfl ?_
  unfold m_X7_statement at hf
  refine kx_aload_n K dX7_statement_0 rfl 0 rfl ?_
  refine kx_ldcS K 11 (by decide) rfl rfl dX7_statement_1 ?_
  refine kx_cv1i K c_X7_147 (by decide) (Nat.le_of_ble_eq_true rfl) dX7_statement_3 hf (fun _ _ _ h => k_X7_isWord h) (fun x2 σ1 hf => ?_)
  refine kx_if_eq K 31 hf dX7_statement_6 (by decide) (fun hf => ?_) (fun hf => ?_)
  · refine kx_aload_n K dX7_statement_31 rfl 0 rfl ?_
    refine kx_ldcS K 12 (by decide) rfl rfl dX7_statement_32 ?_
    refine kx_cv1i K c_X7_147 (by decide) (Nat.le_of_ble_eq_true rfl) dX7_statement_34 hf (fun _ _ _ h => k_X7_isWord h) (fun x4 σ3 hf => ?_)
    refine kx_if_eq K 62 hf dX7_statement_37 (by decide) (fun hf => ?_) (fun hf => ?_)
    · refine kx_aload_n K dX7_statement_62 rfl 0 rfl ?_
      refine kx_ldcS K 13 (by decide) rfl rfl dX7_statement_63 ?_
      refine kx_cv1i K c_X7_147 (by decide) (Nat.le_of_ble_eq_true rfl) dX7_statement_65 hf (fun _ _ _ h => k_X7_isWord h) (fun x6 σ5 hf => ?_)
      refine kx_if_eq K 102 hf dX7_statement_68 (by decide) (fun hf => ?_) (fun hf => ?_)
      · refine kx_aload_n K dX7_statement_102 rfl 0 rfl ?_
        refine kx_ldcS K 14 (by decide) rfl rfl dX7_statement_103 ?_
        refine kx_cv1i K c_X7_147 (by decide) (Nat.le_of_ble_eq_true rfl) dX7_statement_105 hf (fun _ _ _ h => k_X7_isWord h) (fun x8 σ7 hf => ?_)
        refine kx_if_eq K 134 hf dX7_statement_108 (by decide) (fun hf => ?_) (fun hf => ?_)
        · refine kx_aload_n K dX7_statement_134 rfl 0 rfl ?_
          refine kx_ldcS K 15 (by decide) rfl rfl dX7_statement_135 ?_
          refine kx_cv1i K c_X7_147 (by decide) (Nat.le_of_ble_eq_true rfl) dX7_statement_137 hf (fun _ _ _ h => k_X7_isWord h) (fun x10 σ9 hf => ?_)
          refine kx_if_eq K 149 hf dX7_statement_140 (by decide) (fun hf => ?_) (fun hf => ?_)
          · refine kx_aload_n K dX7_statement_149 rfl 0 rfl ?_
            refine kx_ldcS K 16 (by decide) rfl rfl dX7_statement_150 ?_
            refine kx_cv1i K c_X7_147 (by decide) (Nat.le_of_ble_eq_true rfl) dX7_statement_152 hf (fun _ _ _ h => k_X7_isWord h) (fun x12 σ11 hf => ?_)
            refine kx_if_eq K 166 hf dX7_statement_155 (by decide) (fun hf => ?_) (fun hf => ?_)
            · refine kx_aload_n K dX7_statement_166 rfl 0 rfl ?_
              refine kx_ldcS K 17 (by decide) rfl rfl dX7_statement_167 ?_
              refine kx_cv1i K c_X7_147 (by decide) (Nat.le_of_ble_eq_true rfl) dX7_statement_169 hf (fun _ _ _ h => k_X7_isWord h) (fun x14 σ13 hf => ?_)
              refine kx_if_eq K 183 hf dX7_statement_172 (by decide) (fun hf => ?_) (fun hf => ?_)
              · refine kx_aload_n K dX7_statement_183 rfl 0 rfl ?_
                refine kx_iconst (v := 1) K dX7_statement_184 (by decide) ?_
                refine kx_cv1i K c_X7_110 (by decide) (Nat.le_of_ble_eq_true rfl) dX7_statement_185 hf (fun _ _ _ h => k_X7_fails h) (fun x16 σ15 hf => ?_)
                exact kx_zret K hQ (by decide) (by decide) (fun _ h => h) dX7_statement_188 hf
              · refine kx_aload_n K dX7_statement_175 rfl 0 rfl ?_
                refine kx_iconst (v := 2) K dX7_statement_176 (by decide) ?_
                refine kx_cv1i K c_X7_165 (by decide) (Nat.le_of_ble_eq_true rfl) dX7_statement_177 hf (fun _ _ _ h => k_X7_faultLine h) (fun x18 σ17 hf => ?_)
                refine kx_goto K 188 dX7_statement_180 (by decide) ?_
                exact kx_zret K hQ (by decide) (by decide) (fun _ h => h) dX7_statement_188 hf
            · refine kx_aload_n K dX7_statement_158 rfl 0 rfl ?_
              refine kx_iconst (v := 1) K dX7_statement_159 (by decide) ?_
              refine kx_cv1i K c_X7_165 (by decide) (Nat.le_of_ble_eq_true rfl) dX7_statement_160 hf (fun _ _ _ h => k_X7_faultLine h) (fun x20 σ19 hf => ?_)
              refine kx_goto K 188 dX7_statement_163 (by decide) ?_
              exact kx_zret K hQ (by decide) (by decide) (fun _ h => h) dX7_statement_188 hf
          · refine kx_aload_n K dX7_statement_143 rfl 0 rfl ?_
            refine kx_iconst (v := 0) K dX7_statement_144 (by decide) ?_
            refine kx_cv1i K c_X7_165 (by decide) (Nat.le_of_ble_eq_true rfl) dX7_statement_145 hf (fun _ _ _ h => k_X7_faultLine h) (fun x22 σ21 hf => ?_)
            exact kx_zret K hQ (by decide) (by decide) (fun _ h => h) dX7_statement_148 hf
        · refine kx_aload_n K dX7_statement_111 rfl 0 rfl ?_
          refine kx_iconst (v := 3) K dX7_statement_112 (by decide) ?_
          refine kx_cv1i K c_X7_151 (by decide) (Nat.le_of_ble_eq_true rfl) dX7_statement_113 hf (fun _ _ _ h => k_X7_once h) (fun x24 σ23 hf => ?_)
          refine kx_if_eq K 132 hf dX7_statement_116 (by decide) (fun hf => ?_) (fun hf => ?_)
          · refine kx_iconst (v := 0) K dX7_statement_132 (by decide) ?_
            exact kx_zret K hQ (by decide) (by decide) (fun _ h => h) dX7_statement_133 hf
          · refine kx_aload_n K dX7_statement_119 rfl 0 rfl ?_
            refine kx_bipush (v := 7) K dX7_statement_120 (by decide) ?_
            refine kx_cv1i K c_X7_154 (by decide) (Nat.le_of_ble_eq_true rfl) dX7_statement_122 hf (fun _ _ _ h => k_X7_lays h) (fun x26 σ25 hf => ?_)
            refine kx_if_eq K 132 hf dX7_statement_125 (by decide) (fun hf => ?_) (fun hf => ?_)
            · refine kx_iconst (v := 0) K dX7_statement_132 (by decide) ?_
              exact kx_zret K hQ (by decide) (by decide) (fun _ h => h) dX7_statement_133 hf
            · refine kx_iconst (v := 1) K dX7_statement_128 (by decide) ?_
              refine kx_goto K 133 dX7_statement_129 (by decide) ?_
              exact kx_zret K hQ (by decide) (by decide) (fun _ h => h) dX7_statement_133 hf
      · refine kx_aload_n K dX7_statement_71 rfl 0 rfl ?_
        refine kx_iconst (v := 2) K dX7_statement_72 (by decide) ?_
        refine kx_cv1i K c_X7_151 (by decide) (Nat.le_of_ble_eq_true rfl) dX7_statement_73 hf (fun _ _ _ h => k_X7_once h) (fun x28 σ27 hf => ?_)
        refine kx_if_eq K 100 hf dX7_statement_76 (by decide) (fun hf => ?_) (fun hf => ?_)
        · refine kx_iconst (v := 0) K dX7_statement_100 (by decide) ?_
          exact kx_zret K hQ (by decide) (by decide) (fun _ h => h) dX7_statement_101 hf
        · refine kx_aload_n K dX7_statement_79 rfl 0 rfl ?_
          refine kx_iconst (v := 5) K dX7_statement_80 (by decide) ?_
          refine kx_cv1i K c_X7_154 (by decide) (Nat.le_of_ble_eq_true rfl) dX7_statement_81 hf (fun _ _ _ h => k_X7_lays h) (fun x30 σ29 hf => ?_)
          refine kx_if_eq K 100 hf dX7_statement_84 (by decide) (fun hf => ?_) (fun hf => ?_)
          · refine kx_iconst (v := 0) K dX7_statement_100 (by decide) ?_
            exact kx_zret K hQ (by decide) (by decide) (fun _ h => h) dX7_statement_101 hf
          · refine kx_aload_n K dX7_statement_87 rfl 0 rfl ?_
            refine kx_bipush (v := 6) K dX7_statement_88 (by decide) ?_
            refine kx_cv1i K c_X7_154 (by decide) (Nat.le_of_ble_eq_true rfl) dX7_statement_90 hf (fun _ _ _ h => k_X7_lays h) (fun x32 σ31 hf => ?_)
            refine kx_if_eq K 100 hf dX7_statement_93 (by decide) (fun hf => ?_) (fun hf => ?_)
            · refine kx_iconst (v := 0) K dX7_statement_100 (by decide) ?_
              exact kx_zret K hQ (by decide) (by decide) (fun _ h => h) dX7_statement_101 hf
            · refine kx_iconst (v := 1) K dX7_statement_96 (by decide) ?_
              refine kx_goto K 101 dX7_statement_97 (by decide) ?_
              exact kx_zret K hQ (by decide) (by decide) (fun _ h => h) dX7_statement_101 hf
    · refine kx_aload_n K dX7_statement_40 rfl 0 rfl ?_
      refine kx_iconst (v := 1) K dX7_statement_41 (by decide) ?_
      refine kx_cv1i K c_X7_151 (by decide) (Nat.le_of_ble_eq_true rfl) dX7_statement_42 hf (fun _ _ _ h => k_X7_once h) (fun x34 σ33 hf => ?_)
      refine kx_if_eq K 60 hf dX7_statement_45 (by decide) (fun hf => ?_) (fun hf => ?_)
      · refine kx_iconst (v := 0) K dX7_statement_60 (by decide) ?_
        exact kx_zret K hQ (by decide) (by decide) (fun _ h => h) dX7_statement_61 hf
      · refine kx_aload_n K dX7_statement_48 rfl 0 rfl ?_
        refine kx_iconst (v := 4) K dX7_statement_49 (by decide) ?_
        refine kx_cv1i K c_X7_154 (by decide) (Nat.le_of_ble_eq_true rfl) dX7_statement_50 hf (fun _ _ _ h => k_X7_lays h) (fun x36 σ35 hf => ?_)
        refine kx_if_eq K 60 hf dX7_statement_53 (by decide) (fun hf => ?_) (fun hf => ?_)
        · refine kx_iconst (v := 0) K dX7_statement_60 (by decide) ?_
          exact kx_zret K hQ (by decide) (by decide) (fun _ h => h) dX7_statement_61 hf
        · refine kx_iconst (v := 1) K dX7_statement_56 (by decide) ?_
          refine kx_goto K 61 dX7_statement_57 (by decide) ?_
          exact kx_zret K hQ (by decide) (by decide) (fun _ h => h) dX7_statement_61 hf
  · refine kx_aload_n K dX7_statement_9 rfl 0 rfl ?_
    refine kx_iconst (v := 0) K dX7_statement_10 (by decide) ?_
    refine kx_cv1i K c_X7_151 (by decide) (Nat.le_of_ble_eq_true rfl) dX7_statement_11 hf (fun _ _ _ h => k_X7_once h) (fun x38 σ37 hf => ?_)
    refine kx_if_eq K 29 hf dX7_statement_14 (by decide) (fun hf => ?_) (fun hf => ?_)
    · refine kx_iconst (v := 0) K dX7_statement_29 (by decide) ?_
      exact kx_zret K hQ (by decide) (by decide) (fun _ h => h) dX7_statement_30 hf
    · refine kx_aload_n K dX7_statement_17 rfl 0 rfl ?_
      refine kx_iconst (v := 3) K dX7_statement_18 (by decide) ?_
      refine kx_cv1i K c_X7_154 (by decide) (Nat.le_of_ble_eq_true rfl) dX7_statement_19 hf (fun _ _ _ h => k_X7_lays h) (fun x40 σ39 hf => ?_)
      refine kx_if_eq K 29 hf dX7_statement_22 (by decide) (fun hf => ?_) (fun hf => ?_)
      · refine kx_iconst (v := 0) K dX7_statement_29 (by decide) ?_
        exact kx_zret K hQ (by decide) (by decide) (fun _ h => h) dX7_statement_30 hf
      · refine kx_iconst (v := 1) K dX7_statement_25 (by decide) ?_
        refine kx_goto K 30 dX7_statement_26 (by decide) ?_
        exact kx_zret K hQ (by decide) (by decide) (fun _ h => h) dX7_statement_30 hf
def m_X7_head_j76  (a0 : Nat) (σ18 : ac_H) (w15 : Int32) (w16 : Int32) (w17 : Nat) : Option (Int32 × ac_H) :=
  mo_cv σ18 w17 7 (m_X7_starts σ18 w17 w16 w15) fun x20 σ19 =>
  if x20 = 0 then
  (mo_z (0 : Int32) (some ((0 : Int32), σ19)))
  else
  (mo_cv σ19 a0 7 (m_X7_lays σ19 a0 (1 : Int32)) fun x22 σ21 =>
  if x22 = 0 then
  (mo_z (0 : Int32) (some ((0 : Int32), σ21)))
  else
  (mo_cv σ21 a0 7 (m_X7_lays σ21 a0 (2 : Int32)) fun x24 σ23 =>
  if x24 = 0 then
  (mo_z (0 : Int32) (some ((0 : Int32), σ23)))
  else
  (mo_cv σ23 a0 7 (m_X7_closes σ23 a0) fun x26 σ25 =>
  if x26 = 0 then
  (mo_z (0 : Int32) (some ((0 : Int32), σ25)))
  else
  (mo_z (1 : Int32) (some ((1 : Int32), σ25))))))
def m_X7_head_j56  (a0 : Nat) (σ12 : ac_H) (w11 : Int32) : Option (Int32 × ac_H) :=
  mo_gr σ12 a0 7 13 fun x13 =>
  mo_ui σ12 x13 0 (0 : Int32) w11 fun σ14 =>
  if w11 = (-1 : Int32) then
  (m_X7_head_j76 a0 σ14 (0 : Int32) (1 : Int32) a0)
  else
  (m_X7_head_j76 a0 σ14 (1 : Int32) (1 : Int32) a0)
def m_X7_head (σ : ac_H) (a0 : Nat) : Option (Int32 × ac_H) :=
  mo_cv σ a0 7 (m_X7_isWord σ a0 0) fun x2 σ1 =>
  mo_cv σ1 a0 7 (m_X7_starts σ1 a0 (1 : Int32) x2) fun x4 σ3 =>
  if x4 = 0 then
  (mo_z (0 : Int32) (some ((0 : Int32), σ3)))
  else
  (mo_cv σ3 a0 7 (m_X7_isWord σ3 a0 1) fun x6 σ5 =>
  if x6 = 0 then
  (mo_cv σ5 a0 7 (m_X7_isWord σ5 a0 2) fun x8 σ7 =>
  if x8 = 0 then
  (mo_cv σ7 a0 7 (m_X7_isWord σ7 a0 3) fun x10 σ9 =>
  if x10 = 0 then
  (m_X7_head_j56 a0 σ9 (-1 : Int32))
  else
  (m_X7_head_j56 a0 σ9 (2 : Int32)))
  else
  (m_X7_head_j56 a0 σ7 (1 : Int32)))
  else
  (m_X7_head_j56 a0 σ5 (0 : Int32)))
set_option maxRecDepth 100000 in
set_option maxHeartbeats 4000000 in
theorem k_X7_head {Λ : ex_L} {q : Nat} {σ σ' : ac_H} {a0 : Nat} {v : Int32} (hf : m_X7_head σ a0 = some (v, σ')) : kx_C Λ yX7_head (.code yX7_head cX7_head 2 (some .boolean)) ({ frames := 5, cells := 0, slots := 0, locals := 108 } : Room) [.ref a0] q σ (.inr (some (.int v))) σ' (fun z => z = q) := by
  refine kx_in (by decide +kernel) (Nat.le_of_ble_eq_true rfl) ?_
  intro Γ K hnm hsz hQ
  refine kx_lv (lv' := [(0, .ref a0)]) rfl ?_
  have B76 : ∀ (σ18 : ac_H) (w15 : Int32) (w16 : Int32) (w17 : Nat), m_X7_head_j76 a0 σ18 w15 w16 w17 = some (v, σ') → kx_S Λ Γ 2 (fun z => z = q) σ18 (0) (0) 76 [(0, .ref a0)] [.int w15, .int w16, .ref w17] := by
    intro σ18 w15 w16 w17 hf
    unfold m_X7_head_j76 at hf
    refine kx_cv2i K c_X7_130 (by decide) (Nat.le_of_ble_eq_true rfl) dX7_head_76 hf (fun _ _ _ h => k_X7_starts h) (fun x20 σ19 hf => ?_)
    refine kx_if_eq K 109 hf dX7_head_79 (by decide) (fun hf => ?_) (fun hf => ?_)
    · refine kx_iconst (v := 0) K dX7_head_109 (by decide) ?_
      exact kx_zret K hQ (by decide) (by decide) (fun _ h => h) dX7_head_110 hf
    · refine kx_aload_n K dX7_head_82 rfl 0 rfl ?_
      refine kx_iconst (v := 1) K dX7_head_83 (by decide) ?_
      refine kx_cv1i K c_X7_154 (by decide) (Nat.le_of_ble_eq_true rfl) dX7_head_84 hf (fun _ _ _ h => k_X7_lays h) (fun x22 σ21 hf => ?_)
      refine kx_if_eq K 109 hf dX7_head_87 (by decide) (fun hf => ?_) (fun hf => ?_)
      · refine kx_iconst (v := 0) K dX7_head_109 (by decide) ?_
        exact kx_zret K hQ (by decide) (by decide) (fun _ h => h) dX7_head_110 hf
      · refine kx_aload_n K dX7_head_90 rfl 0 rfl ?_
        refine kx_iconst (v := 2) K dX7_head_91 (by decide) ?_
        refine kx_cv1i K c_X7_154 (by decide) (Nat.le_of_ble_eq_true rfl) dX7_head_92 hf (fun _ _ _ h => k_X7_lays h) (fun x24 σ23 hf => ?_)
        refine kx_if_eq K 109 hf dX7_head_95 (by decide) (fun hf => ?_) (fun hf => ?_)
        · refine kx_iconst (v := 0) K dX7_head_109 (by decide) ?_
          exact kx_zret K hQ (by decide) (by decide) (fun _ h => h) dX7_head_110 hf
        · refine kx_aload_n K dX7_head_98 rfl 0 rfl ?_
          refine kx_cv0i K c_X7_180 (by decide) (Nat.le_of_ble_eq_true rfl) dX7_head_99 hf (fun _ _ _ h => k_X7_closes h) (fun x26 σ25 hf => ?_)
          refine kx_if_eq K 109 hf dX7_head_102 (by decide) (fun hf => ?_) (fun hf => ?_)
          · refine kx_iconst (v := 0) K dX7_head_109 (by decide) ?_
            exact kx_zret K hQ (by decide) (by decide) (fun _ h => h) dX7_head_110 hf
          · refine kx_iconst (v := 1) K dX7_head_105 (by decide) ?_
            refine kx_goto K 110 dX7_head_106 (by decide) ?_
            exact kx_zret K hQ (by decide) (by decide) (fun _ h => h) dX7_head_110 hf
  have B56 : ∀ (σ12 : ac_H) (w11 : Int32), m_X7_head_j56 a0 σ12 w11 = some (v, σ') → kx_S Λ Γ 2 (fun z => z = q) σ12 (0) (0) 56 [(0, .ref a0)] [.int w11] := by
    intro σ12 w11 hf
    unfold m_X7_head_j56 at hf
    refine kx_istore_n K [(1, .int w11), (0, .ref a0)] dX7_head_56 rfl (by decide) rfl ?_
    refine kx_aload_n K dX7_head_57 rfl 1 rfl ?_
    refine kx_gr K f_X7_21 dX7_head_58 hf (fun x13 hf => ?_)
    refine kx_iconst (v := 0) K dX7_head_61 (by decide) ?_
    refine kx_iload_n K dX7_head_62 rfl 0 rfl ?_
    refine kx_ui K dX7_head_63 hf (fun σ14 hf => ?_)
    refine kx_aload_n K dX7_head_64 rfl 1 rfl ?_
    refine kx_iconst (v := 1) K dX7_head_65 (by decide) ?_
    refine kx_iload_n K dX7_head_66 rfl 0 rfl ?_
    refine kx_iconst (v := -1) K dX7_head_67 (by decide) ?_
    refine kx_icmp_eq K 75 hf dX7_head_68 (by decide) (fun hf => ?_) (fun hf => ?_)
    · refine kx_iconst (v := 0) K dX7_head_75 (by decide) ?_
      refine kx_sub [(0, .ref a0)] [1] rfl ?_
      exact B76 _ _ _ _ hf
    · refine kx_iconst (v := 1) K dX7_head_71 (by decide) ?_
      refine kx_goto K 76 dX7_head_72 (by decide) ?_
      refine kx_sub [(0, .ref a0)] [1] rfl ?_
      exact B76 _ _ _ _ hf
  unfold m_X7_head at hf
  refine kx_aload_n K dX7_head_0 rfl 0 rfl ?_
  refine kx_iconst (v := 1) K dX7_head_1 (by decide) ?_
  refine kx_aload_n K dX7_head_2 rfl 0 rfl ?_
  refine kx_ldcS K 18 (by decide) rfl rfl dX7_head_3 ?_
  refine kx_cv1i K c_X7_147 (by decide) (Nat.le_of_ble_eq_true rfl) dX7_head_5 hf (fun _ _ _ h => k_X7_isWord h) (fun x2 σ1 hf => ?_)
  refine kx_cv2i K c_X7_130 (by decide) (Nat.le_of_ble_eq_true rfl) dX7_head_8 hf (fun _ _ _ h => k_X7_starts h) (fun x4 σ3 hf => ?_)
  refine kx_if_ne K 16 hf dX7_head_11 (by decide) (fun hf => ?_) (fun hf => ?_)
  · refine kx_aload_n K dX7_head_16 rfl 0 rfl ?_
    refine kx_ldcS K 19 (by decide) rfl rfl dX7_head_17 ?_
    refine kx_cv1i K c_X7_147 (by decide) (Nat.le_of_ble_eq_true rfl) dX7_head_19 hf (fun _ _ _ h => k_X7_isWord h) (fun x6 σ5 hf => ?_)
    refine kx_if_eq K 29 hf dX7_head_22 (by decide) (fun hf => ?_) (fun hf => ?_)
    · refine kx_aload_n K dX7_head_29 rfl 0 rfl ?_
      refine kx_ldcS K 20 (by decide) rfl rfl dX7_head_30 ?_
      refine kx_cv1i K c_X7_147 (by decide) (Nat.le_of_ble_eq_true rfl) dX7_head_32 hf (fun _ _ _ h => k_X7_isWord h) (fun x8 σ7 hf => ?_)
      refine kx_if_eq K 42 hf dX7_head_35 (by decide) (fun hf => ?_) (fun hf => ?_)
      · refine kx_aload_n K dX7_head_42 rfl 0 rfl ?_
        refine kx_ldcS K 21 (by decide) rfl rfl dX7_head_43 ?_
        refine kx_cv1i K c_X7_147 (by decide) (Nat.le_of_ble_eq_true rfl) dX7_head_45 hf (fun _ _ _ h => k_X7_isWord h) (fun x10 σ9 hf => ?_)
        refine kx_if_eq K 55 hf dX7_head_48 (by decide) (fun hf => ?_) (fun hf => ?_)
        · refine kx_iconst (v := -1) K dX7_head_55 (by decide) ?_
          refine kx_sub [(0, .ref a0)] [0] rfl ?_
          exact B56 _ _ hf
        · refine kx_iconst (v := 2) K dX7_head_51 (by decide) ?_
          refine kx_goto K 56 dX7_head_52 (by decide) ?_
          refine kx_sub [(0, .ref a0)] [0] rfl ?_
          exact B56 _ _ hf
      · refine kx_iconst (v := 1) K dX7_head_38 (by decide) ?_
        refine kx_goto K 56 dX7_head_39 (by decide) ?_
        refine kx_sub [(0, .ref a0)] [0] rfl ?_
        exact B56 _ _ hf
    · refine kx_iconst (v := 0) K dX7_head_25 (by decide) ?_
      refine kx_goto K 56 dX7_head_26 (by decide) ?_
      refine kx_sub [(0, .ref a0)] [0] rfl ?_
      exact B56 _ _ hf
  · refine kx_iconst (v := 0) K dX7_head_14 (by decide) ?_
    exact kx_zret K hQ (by decide) (by decide) (fun _ h => h) dX7_head_15 hf
def m_X7_copies_l3  (a0 : Nat) (a1 : Int32) (a2 : Nat) (a3 : Int32) : Nat → ac_H → Int32 → Option (Unit × ac_H)
  | 0, _, _ => none
  | n + 1, σ2, v1 =>
    if v1 < (183 : Int32) then
    (mo_ai σ2 a0 0 (a1 + v1) fun x3 =>
    mo_ui σ2 a2 0 (a3 + v1) x3 fun σ4 =>
    m_X7_copies_l3 a0 a1 a2 a3 n σ4 (v1 + 1))
    else
    (some ((), σ2))
def m_X7_copies (σ : ac_H) (a0 : Nat) (a1 : Int32) (a2 : Nat) (a3 : Int32) : Option (Unit × ac_H) :=
  m_X7_copies_l3 a0 a1 a2 a3 hN_f σ (0 : Int32)
set_option maxRecDepth 100000 in
set_option maxHeartbeats 4000000 in
theorem k_X7_copies {Λ : ex_L} {q : Nat} {σ σ' : ac_H} {a0 : Nat} {a1 : Int32} {a2 : Nat} {a3 : Int32} {v : Unit} (hf : m_X7_copies σ a0 a1 a2 a3 = some (v, σ')) : kx_C Λ yX7_copies (.code yX7_copies cX7_copies 5 none) ({ frames := 0, cells := 0, slots := 0, locals := 0 } : Room) [.ref a0, .int a1, .ref a2, .int a3] q σ (.inr none) σ' (fun z => z = q) := by
  refine kx_in (by decide +kernel) (Nat.le_of_ble_eq_true rfl) ?_
  intro Γ K hnm hsz hQ
  refine kx_lv (lv' := [(0, .ref a0), (1, .int a1), (2, .ref a2), (3, .int a3)]) rfl ?_
  have B3 : ∀ (n3 : Nat) (σ2 : ac_H) (v1 : Int32), m_X7_copies_l3 a0 a1 a2 a3 n3 σ2 v1 = some (v, σ') → kx_S Λ Γ 5 (fun z => z = q) σ2 (0) (0) 3 [(0, .ref a0), (1, .int a1), (2, .ref a2), (3, .int a3), (4, .int v1)] [] := by
    intro n3
    induction n3 with
    | zero =>
      intro σ2 v1 hf
      rw [m_X7_copies_l3] at hf
      cases hf
    | succ n3 ih3 =>
      intro σ2 v1 hf
      rw [m_X7_copies_l3] at hf
      refine kx_iload K dX7_copies_3 4 rfl ?_
      refine kx_sipush (v := 183) K dX7_copies_5 (by decide) ?_
      refine kx_icmp_ge K 29 hf dX7_copies_8 (by decide) (fun hf => ?_) (fun hf => ?_)
      · exact kx_vret K hQ (by decide) (by decide) (fun _ h => h) dX7_copies_29 hf
      · refine kx_aload_n K dX7_copies_11 rfl 2 rfl ?_
        refine kx_iload_n K dX7_copies_12 rfl 3 rfl ?_
        refine kx_iload K dX7_copies_13 4 rfl ?_
        refine kx_iadd K dX7_copies_15 ?_
        refine kx_aload_n K dX7_copies_16 rfl 0 rfl ?_
        refine kx_iload_n K dX7_copies_17 rfl 1 rfl ?_
        refine kx_iload K dX7_copies_18 4 rfl ?_
        refine kx_iadd K dX7_copies_20 ?_
        refine kx_ai K dX7_copies_21 hf (fun x3 hf => ?_)
        refine kx_ui K dX7_copies_22 hf (fun σ4 hf => ?_)
        refine kx_iinc (v := (v1 + 1)) K [(4, .int (v1 + 1)), (0, .ref a0), (1, .int a1), (2, .ref a2), (3, .int a3)] dX7_copies_23 4 rfl rfl (by decide) rfl ?_
        refine kx_goto K 3 dX7_copies_26 (by decide) ?_
        refine kx_sub [(0, .ref a0), (1, .int a1), (2, .ref a2), (3, .int a3), (4, .int (v1 + 1))] [1, 2, 3, 4, 0] rfl ?_
        exact ih3 _ _ hf
  unfold m_X7_copies at hf
  refine kx_iconst (v := 0) K dX7_copies_0 (by decide) ?_
  refine kx_istore K [(4, .int (0 : Int32)), (0, .ref a0), (1, .int a1), (2, .ref a2), (3, .int a3)] dX7_copies_1 (by decide) rfl ?_
  refine kx_sub [(0, .ref a0), (1, .int a1), (2, .ref a2), (3, .int a3), (4, .int (0 : Int32))] [1, 2, 3, 4, 0] rfl ?_
  exact B3 hN_f _ _ hf
def m_X7_parse_j116  (a0 : Nat) (σ29 : ac_H) (v28 : Int32) : Option (Int32 × ac_H) :=
  if v28 = 0 then
  (mo_gi σ29 a0 7 9 fun x38 =>
  some (x38, σ29))
  else
  (mo_gr σ29 a0 7 13 fun x30 =>
  mo_gr σ29 a0 7 1 fun x31 =>
  mo_cs (m_X7_copies σ29 x30 (0 : Int32) x31 (0 : Int32)) fun _ σ32 =>
  mo_pv σ32 a0 7 36 (.int (0 : Int32)) fun σ33 =>
  mo_gr σ33 a0 7 39 fun x34 =>
  mo_ui σ33 x34 2 (0 : Int32) (vp_nar .boolean (0 : Int32)) fun σ35 =>
  mo_gr σ35 a0 7 39 fun x36 =>
  mo_ui σ35 x36 2 (1 : Int32) (vp_nar .boolean (0 : Int32)) fun σ37 =>
  some ((0 : Int32), σ37))
def m_X7_parse_l82  (a0 : Nat) : Nat → ac_H → Int32 → Option (Int32 × ac_H)
  | 0, _, _ => none
  | n + 1, σ22, v21 =>
    if v21 = 0 then
    (m_X7_parse_j116 a0 σ22 v21)
    else
    (mo_gi σ22 a0 7 7 fun x23 =>
    if x23 = 0 then
    (m_X7_parse_j116 a0 σ22 v21)
    else
    (mo_cv σ22 a0 7 (m_X7_statement σ22 a0) fun x25 σ24 =>
    if x25 = 0 then
    (m_X7_parse_l82 a0 n σ24 (0 : Int32))
    else
    (mo_cv σ24 a0 7 (m_X7_closes σ24 a0) fun x27 σ26 =>
    if x27 = 0 then
    (m_X7_parse_l82 a0 n σ26 (0 : Int32))
    else
    (m_X7_parse_l82 a0 n σ26 (1 : Int32)))))
def m_X7_parse_j23  (a0 : Nat) (a1 : Int32) (σ7 : ac_H) (w5 : Int32) (w6 : Nat) : Option (Int32 × ac_H) :=
  mo_cv σ7 w6 7 (m_X7_throwsIf σ7 w6 w5 (1 : Int32)) fun x9 σ8 =>
  if x9 = 0 then
  (mo_pv σ8 a0 7 4 (.int a1) fun σ10 =>
  mo_pv σ10 a0 7 3 (.int (0 : Int32)) fun σ11 =>
  mo_pv σ11 a0 7 6 (.int (0 : Int32)) fun σ12 =>
  mo_pv σ12 a0 7 9 (.int (0 : Int32)) fun σ13 =>
  mo_pv σ13 a0 7 10 (.int (-1 : Int32)) fun σ14 =>
  mo_pv σ14 a0 7 12 (.int (0 : Int32)) fun σ15 =>
  mo_gr σ15 a0 7 13 fun x16 =>
  mo_cs (m_X7_begins σ15 x16 (0 : Int32) (1 : Int32) (10 : Int32)) fun _ σ17 =>
  mo_cv σ17 a0 7 (m_X7_advance σ17 a0) fun _ σ18 =>
  mo_cv σ18 a0 7 (m_X7_head σ18 a0) fun x20 σ19 =>
  m_X7_parse_l82 a0 hN_f σ19 x20)
  else
  (some ((0 : Int32), σ8))
def m_X7_parse (σ : ac_H) (a0 : Nat) (a1 : Int32) : Option (Int32 × ac_H) :=
  mo_pv σ a0 7 0 (.int (0 : Int32)) fun σ1 =>
  mo_gi σ1 a0 7 3 fun x2 =>
  mo_cs (m_X7_within σ1 a1 (0 : Int32) x2) fun x4 σ3 =>
  if x4 = 0 then
  (m_X7_parse_j23 a0 a1 σ3 (1 : Int32) a0)
  else
  (m_X7_parse_j23 a0 a1 σ3 (0 : Int32) a0)
set_option maxRecDepth 100000 in
set_option maxHeartbeats 4000000 in
theorem k_X7_parse {Λ : ex_L} {q : Nat} {σ σ' : ac_H} {a0 : Nat} {a1 : Int32} {v : Int32} (hf : m_X7_parse σ a0 a1 = some (v, σ')) : kx_C Λ yX7_parse (.code yX7_parse cX7_parse 3 (some .int)) ({ frames := 6, cells := 0, slots := 0, locals := 129 } : Room) [.ref a0, .int a1] q σ (.inr (some (.int v))) σ' (fun z => z = q) := by
  refine kx_in (by decide +kernel) (Nat.le_of_ble_eq_true rfl) ?_
  intro Γ K hnm hsz hQ
  refine kx_lv (lv' := [(0, .ref a0), (1, .int a1)]) rfl ?_
  have B116 : ∀ (σ29 : ac_H) (v28 : Int32), m_X7_parse_j116 a0 σ29 v28 = some (v, σ') → kx_S Λ Γ 3 (fun z => z = q) σ29 (0) (0) 116 [(0, .ref a0), (2, .int v28)] [] := by
    intro σ29 v28 hf
    unfold m_X7_parse_j116 at hf
    refine kx_iload_n K dX7_parse_116 rfl 1 rfl ?_
    refine kx_if_ne K 125 hf dX7_parse_117 (by decide) (fun hf => ?_) (fun hf => ?_)
    · refine kx_aload_n K dX7_parse_125 rfl 0 rfl ?_
      refine kx_gr K f_X7_21 dX7_parse_126 hf (fun x30 hf => ?_)
      refine kx_iconst (v := 0) K dX7_parse_129 (by decide) ?_
      refine kx_aload_n K dX7_parse_130 rfl 0 rfl ?_
      refine kx_gr K f_X7_7 dX7_parse_131 hf (fun x31 hf => ?_)
      refine kx_iconst (v := 0) K dX7_parse_134 (by decide) ?_
      refine kx_cs4v K c_X7_194 (by decide) (Nat.le_of_ble_eq_true rfl) dX7_parse_135 hf (fun _ _ _ h => k_X7_copies h) (fun _ σ32 hf => ?_)
      refine kx_aload_n K dX7_parse_138 rfl 0 rfl ?_
      refine kx_iconst (v := 0) K dX7_parse_139 (by decide) ?_
      refine kx_pi K f_X7_198 dX7_parse_140 hf (fun σ33 hf => ?_)
      refine kx_aload_n K dX7_parse_143 rfl 0 rfl ?_
      refine kx_gr K f_X7_58 dX7_parse_144 hf (fun x34 hf => ?_)
      refine kx_iconst (v := 0) K dX7_parse_147 (by decide) ?_
      refine kx_iconst (v := 0) K dX7_parse_148 (by decide) ?_
      refine kx_uz K dX7_parse_149 hf (fun σ35 hf => ?_)
      refine kx_aload_n K dX7_parse_150 rfl 0 rfl ?_
      refine kx_gr K f_X7_58 dX7_parse_151 hf (fun x36 hf => ?_)
      refine kx_iconst (v := 1) K dX7_parse_154 (by decide) ?_
      refine kx_iconst (v := 0) K dX7_parse_155 (by decide) ?_
      refine kx_uz K dX7_parse_156 hf (fun σ37 hf => ?_)
      refine kx_iconst (v := 0) K dX7_parse_157 (by decide) ?_
      exact kx_iret K hQ (by decide) (by decide) (fun _ h => h) dX7_parse_158 hf
    · refine kx_aload_n K dX7_parse_120 rfl 0 rfl ?_
      refine kx_gi K f_X7_107 dX7_parse_121 hf (fun x38 hf => ?_)
      exact kx_iret K hQ (by decide) (by decide) (fun _ h => h) dX7_parse_124 hf
  have B82 : ∀ (n82 : Nat) (σ22 : ac_H) (v21 : Int32), m_X7_parse_l82 a0 n82 σ22 v21 = some (v, σ') → kx_S Λ Γ 3 (fun z => z = q) σ22 (0) (0) 82 [(0, .ref a0), (2, .int v21)] [] := by
    intro n82
    induction n82 with
    | zero =>
      intro σ22 v21 hf
      rw [m_X7_parse_l82] at hf
      cases hf
    | succ n82 ih82 =>
      intro σ22 v21 hf
      rw [m_X7_parse_l82] at hf
      refine kx_iload_n K dX7_parse_82 rfl 1 rfl ?_
      refine kx_if_eq K 116 hf dX7_parse_83 (by decide) (fun hf => ?_) (fun hf => ?_)
      · refine kx_sub [(0, .ref a0), (2, .int v21)] [0, 1] rfl ?_
        exact B116 _ _ hf
      · refine kx_aload_n K dX7_parse_86 rfl 0 rfl ?_
        refine kx_gi K f_X7_91 dX7_parse_87 hf (fun x23 hf => ?_)
        refine kx_if_eq K 116 hf dX7_parse_90 (by decide) (fun hf => ?_) (fun hf => ?_)
        · refine kx_sub [(0, .ref a0), (2, .int v21)] [0, 1] rfl ?_
          exact B116 _ _ hf
        · refine kx_aload_n K dX7_parse_93 rfl 0 rfl ?_
          refine kx_cv0i K c_X7_191 (by decide) (Nat.le_of_ble_eq_true rfl) dX7_parse_94 hf (fun _ _ _ h => k_X7_statement h) (fun x25 σ24 hf => ?_)
          refine kx_if_eq K 111 hf dX7_parse_97 (by decide) (fun hf => ?_) (fun hf => ?_)
          · refine kx_iconst (v := 0) K dX7_parse_111 (by decide) ?_
            refine kx_istore_n K [(2, .int (0 : Int32)), (0, .ref a0)] dX7_parse_112 rfl (by decide) rfl ?_
            refine kx_goto K 82 dX7_parse_113 (by decide) ?_
            refine kx_sub [(0, .ref a0), (2, .int (0 : Int32))] [1, 0] rfl ?_
            exact ih82 _ _ hf
          · refine kx_aload_n K dX7_parse_100 rfl 0 rfl ?_
            refine kx_cv0i K c_X7_180 (by decide) (Nat.le_of_ble_eq_true rfl) dX7_parse_101 hf (fun _ _ _ h => k_X7_closes h) (fun x27 σ26 hf => ?_)
            refine kx_if_eq K 111 hf dX7_parse_104 (by decide) (fun hf => ?_) (fun hf => ?_)
            · refine kx_iconst (v := 0) K dX7_parse_111 (by decide) ?_
              refine kx_istore_n K [(2, .int (0 : Int32)), (0, .ref a0)] dX7_parse_112 rfl (by decide) rfl ?_
              refine kx_goto K 82 dX7_parse_113 (by decide) ?_
              refine kx_sub [(0, .ref a0), (2, .int (0 : Int32))] [1, 0] rfl ?_
              exact ih82 _ _ hf
            · refine kx_iconst (v := 1) K dX7_parse_107 (by decide) ?_
              refine kx_goto K 112 dX7_parse_108 (by decide) ?_
              refine kx_istore_n K [(2, .int (1 : Int32)), (0, .ref a0)] dX7_parse_112 rfl (by decide) rfl ?_
              refine kx_goto K 82 dX7_parse_113 (by decide) ?_
              refine kx_sub [(0, .ref a0), (2, .int (1 : Int32))] [1, 0] rfl ?_
              exact ih82 _ _ hf
  have B23 : ∀ (σ7 : ac_H) (w5 : Int32) (w6 : Nat), m_X7_parse_j23 a0 a1 σ7 w5 w6 = some (v, σ') → kx_S Λ Γ 3 (fun z => z = q) σ7 (0) (0) 23 [(0, .ref a0), (1, .int a1)] [.int w5, .ref w6] := by
    intro σ7 w5 w6 hf
    unfold m_X7_parse_j23 at hf
    refine kx_iconst (v := 1) K dX7_parse_23 (by decide) ?_
    refine kx_cv2i K c_X7_184 (by decide) (Nat.le_of_ble_eq_true rfl) dX7_parse_24 hf (fun _ _ _ h => k_X7_throwsIf h) (fun x9 σ8 hf => ?_)
    refine kx_if_eq K 32 hf dX7_parse_27 (by decide) (fun hf => ?_) (fun hf => ?_)
    · refine kx_aload_n K dX7_parse_32 rfl 0 rfl ?_
      refine kx_iload_n K dX7_parse_33 rfl 1 rfl ?_
      refine kx_pi K f_X7_75 dX7_parse_34 hf (fun σ10 hf => ?_)
      refine kx_aload_n K dX7_parse_37 rfl 0 rfl ?_
      refine kx_iconst (v := 0) K dX7_parse_38 (by decide) ?_
      refine kx_pi K f_X7_68 dX7_parse_39 hf (fun σ11 hf => ?_)
      refine kx_aload_n K dX7_parse_42 rfl 0 rfl ?_
      refine kx_iconst (v := 0) K dX7_parse_43 (by decide) ?_
      refine kx_pi K f_X7_78 dX7_parse_44 hf (fun σ12 hf => ?_)
      refine kx_aload_n K dX7_parse_47 rfl 0 rfl ?_
      refine kx_iconst (v := 0) K dX7_parse_48 (by decide) ?_
      refine kx_pi K f_X7_107 dX7_parse_49 hf (fun σ13 hf => ?_)
      refine kx_aload_n K dX7_parse_52 rfl 0 rfl ?_
      refine kx_iconst (v := -1) K dX7_parse_53 (by decide) ?_
      refine kx_pi K f_X7_17 dX7_parse_54 hf (fun σ14 hf => ?_)
      refine kx_aload_n K dX7_parse_57 rfl 0 rfl ?_
      refine kx_iconst (v := 0) K dX7_parse_58 (by decide) ?_
      refine kx_pi K f_X7_134 dX7_parse_59 hf (fun σ15 hf => ?_)
      refine kx_aload_n K dX7_parse_62 rfl 0 rfl ?_
      refine kx_gr K f_X7_21 dX7_parse_63 hf (fun x16 hf => ?_)
      refine kx_iconst (v := 0) K dX7_parse_66 (by decide) ?_
      refine kx_iconst (v := 1) K dX7_parse_67 (by decide) ?_
      refine kx_bipush (v := 10) K dX7_parse_68 (by decide) ?_
      refine kx_cs4v K c_X7_61 (by decide) (Nat.le_of_ble_eq_true rfl) dX7_parse_70 hf (fun _ _ _ h => k_X7_begins h) (fun _ σ17 hf => ?_)
      refine kx_aload_n K dX7_parse_73 rfl 0 rfl ?_
      refine kx_cv0v K c_X7_114 (by decide) (Nat.le_of_ble_eq_true rfl) dX7_parse_74 hf (fun _ _ _ h => k_X7_advance h) (fun _ σ18 hf => ?_)
      refine kx_aload_n K dX7_parse_77 rfl 0 rfl ?_
      refine kx_cv0i K c_X7_188 (by decide) (Nat.le_of_ble_eq_true rfl) dX7_parse_78 hf (fun _ _ _ h => k_X7_head h) (fun x20 σ19 hf => ?_)
      refine kx_istore_n K [(2, .int x20), (0, .ref a0), (1, .int a1)] dX7_parse_81 rfl (by decide) rfl ?_
      refine kx_sub [(0, .ref a0), (2, .int x20)] [1, 0] rfl ?_
      exact B82 hN_f _ _ hf
    · refine kx_iconst (v := 0) K dX7_parse_30 (by decide) ?_
      exact kx_iret K hQ (by decide) (by decide) (fun _ h => h) dX7_parse_31 hf
  unfold m_X7_parse at hf
  refine kx_aload_n K dX7_parse_0 rfl 0 rfl ?_
  refine kx_iconst (v := 0) K dX7_parse_1 (by decide) ?_
  refine kx_pi K f_X7_65 dX7_parse_2 hf (fun σ1 hf => ?_)
  refine kx_aload_n K dX7_parse_5 rfl 0 rfl ?_
  refine kx_iload_n K dX7_parse_6 rfl 1 rfl ?_
  refine kx_iconst (v := 0) K dX7_parse_7 (by decide) ?_
  refine kx_aload_n K dX7_parse_8 rfl 0 rfl ?_
  refine kx_gi K f_X7_68 dX7_parse_9 hf (fun x2 hf => ?_)
  refine kx_cs3i K c_X7_94 (by decide) (Nat.le_of_ble_eq_true rfl) dX7_parse_12 hf (fun _ _ _ h => k_X7_within h) (fun x4 σ3 hf => ?_)
  refine kx_if_ne K 22 hf dX7_parse_15 (by decide) (fun hf => ?_) (fun hf => ?_)
  · refine kx_iconst (v := 0) K dX7_parse_22 (by decide) ?_
    refine kx_sub [(0, .ref a0), (1, .int a1)] [0, 1] rfl ?_
    exact B23 _ _ _ hf
  · refine kx_iconst (v := 1) K dX7_parse_18 (by decide) ?_
    refine kx_goto K 23 dX7_parse_19 (by decide) ?_
    refine kx_sub [(0, .ref a0), (1, .int a1)] [0, 1] rfl ?_
    exact B23 _ _ _ hf
def m_X7_errorPosition (σ : ac_H) (a0 : Nat) : Option (Int32 × ac_H) :=
  mo_pv σ a0 7 0 (.int (0 : Int32)) fun σ1 =>
  mo_gi σ1 a0 7 10 fun x2 =>
  some (x2, σ1)
set_option maxRecDepth 100000 in
set_option maxHeartbeats 4000000 in
theorem k_X7_errorPosition {Λ : ex_L} {q : Nat} {σ σ' : ac_H} {a0 : Nat} {v : Int32} (hf : m_X7_errorPosition σ a0 = some (v, σ')) : kx_C Λ yX7_errorPosition (.code yX7_errorPosition cX7_errorPosition 1 (some .int)) ({ frames := 0, cells := 0, slots := 0, locals := 0 } : Room) [.ref a0] q σ (.inr (some (.int v))) σ' (fun z => z = q) := by
  refine kx_in (by decide +kernel) (Nat.le_of_ble_eq_true rfl) ?_
  intro Γ K hnm hsz hQ
  refine kx_lv (lv' := [(0, .ref a0)]) rfl ?_
  unfold m_X7_errorPosition at hf
  refine kx_aload_n K dX7_errorPosition_0 rfl 0 rfl ?_
  refine kx_iconst (v := 0) K dX7_errorPosition_1 (by decide) ?_
  refine kx_pi K f_X7_65 dX7_errorPosition_2 hf (fun σ1 hf => ?_)
  refine kx_aload_n K dX7_errorPosition_5 rfl 0 rfl ?_
  refine kx_gi K f_X7_17 dX7_errorPosition_6 hf (fun x2 hf => ?_)
  exact kx_iret K hQ (by decide) (by decide) (fun _ h => h) dX7_errorPosition_9 hf
def m_X7_goes_l15  (a0 : Nat) : Nat → ac_H → Int32 → Option (Unit × ac_H)
  | 0, _, _ => none
  | n + 1, σ4, v3 =>
    mo_ai σ4 a0 0 (8 : Int32) fun x5 =>
    if v3 < ((9 : Int32) + ((3 : Int32) * x5)) then
    (mo_ai σ4 a0 0 (v3 + (3 : Int32)) fun x6 =>
    mo_ui σ4 a0 0 v3 x6 fun σ7 =>
    m_X7_goes_l15 a0 n σ7 (v3 + 1))
    else
    (some ((), σ4))
def m_X7_goes (σ : ac_H) (a0 : Nat) (a1 : Int32) : Option (Unit × ac_H) :=
  mo_ai σ a0 0 (8 : Int32) fun x1 =>
  mo_ui σ a0 0 (8 : Int32) (x1 - (1 : Int32)) fun σ2 =>
  m_X7_goes_l15 a0 hN_f σ2 ((9 : Int32) + ((3 : Int32) * a1))
set_option maxRecDepth 100000 in
set_option maxHeartbeats 4000000 in
theorem k_X7_goes {Λ : ex_L} {q : Nat} {σ σ' : ac_H} {a0 : Nat} {a1 : Int32} {v : Unit} (hf : m_X7_goes σ a0 a1 = some (v, σ')) : kx_C Λ yX7_goes (.code yX7_goes cX7_goes 3 none) ({ frames := 0, cells := 0, slots := 0, locals := 0 } : Room) [.ref a0, .int a1] q σ (.inr none) σ' (fun z => z = q) := by
  refine kx_in (by decide +kernel) (Nat.le_of_ble_eq_true rfl) ?_
  intro Γ K hnm hsz hQ
  refine kx_lv (lv' := [(0, .ref a0), (1, .int a1)]) rfl ?_
  have B15 : ∀ (n15 : Nat) (σ4 : ac_H) (v3 : Int32), m_X7_goes_l15 a0 n15 σ4 v3 = some (v, σ') → kx_S Λ Γ 3 (fun z => z = q) σ4 (0) (0) 15 [(0, .ref a0), (2, .int v3)] [] := by
    intro n15
    induction n15 with
    | zero =>
      intro σ4 v3 hf
      rw [m_X7_goes_l15] at hf
      cases hf
    | succ n15 ih15 =>
      intro σ4 v3 hf
      rw [m_X7_goes_l15] at hf
      refine kx_iload_n K dX7_goes_15 rfl 1 rfl ?_
      refine kx_bipush (v := 9) K dX7_goes_16 (by decide) ?_
      refine kx_iconst (v := 3) K dX7_goes_18 (by decide) ?_
      refine kx_aload_n K dX7_goes_19 rfl 0 rfl ?_
      refine kx_bipush (v := 8) K dX7_goes_20 (by decide) ?_
      refine kx_ai K dX7_goes_22 hf (fun x5 hf => ?_)
      refine kx_imul K dX7_goes_23 ?_
      refine kx_iadd K dX7_goes_24 ?_
      refine kx_icmp_ge K 42 hf dX7_goes_25 (by decide) (fun hf => ?_) (fun hf => ?_)
      · exact kx_vret K hQ (by decide) (by decide) (fun _ h => h) dX7_goes_42 hf
      · refine kx_aload_n K dX7_goes_28 rfl 0 rfl ?_
        refine kx_iload_n K dX7_goes_29 rfl 1 rfl ?_
        refine kx_aload_n K dX7_goes_30 rfl 0 rfl ?_
        refine kx_iload_n K dX7_goes_31 rfl 1 rfl ?_
        refine kx_iconst (v := 3) K dX7_goes_32 (by decide) ?_
        refine kx_iadd K dX7_goes_33 ?_
        refine kx_ai K dX7_goes_34 hf (fun x6 hf => ?_)
        refine kx_ui K dX7_goes_35 hf (fun σ7 hf => ?_)
        refine kx_iinc (v := (v3 + 1)) K [(2, .int (v3 + 1)), (0, .ref a0)] dX7_goes_36 1 rfl rfl (by decide) rfl ?_
        refine kx_goto K 15 dX7_goes_39 (by decide) ?_
        refine kx_sub [(0, .ref a0), (2, .int (v3 + 1))] [1, 0] rfl ?_
        exact ih15 _ _ hf
  unfold m_X7_goes at hf
  refine kx_aload_n K dX7_goes_0 rfl 0 rfl ?_
  refine kx_bipush (v := 8) K dX7_goes_1 (by decide) ?_
  refine kx_dup2 K dX7_goes_3 rfl rfl ?_
  refine kx_ai K dX7_goes_4 hf (fun x1 hf => ?_)
  refine kx_iconst (v := 1) K dX7_goes_5 (by decide) ?_
  refine kx_isub K dX7_goes_6 ?_
  refine kx_ui K dX7_goes_7 hf (fun σ2 hf => ?_)
  refine kx_bipush (v := 9) K dX7_goes_8 (by decide) ?_
  refine kx_iconst (v := 3) K dX7_goes_10 (by decide) ?_
  refine kx_iload_n K dX7_goes_11 rfl 1 rfl ?_
  refine kx_imul K dX7_goes_12 ?_
  refine kx_iadd K dX7_goes_13 ?_
  refine kx_istore_n K [(2, .int ((9 : Int32) + ((3 : Int32) * a1))), (0, .ref a0), (1, .int a1)] dX7_goes_14 rfl (by decide) rfl ?_
  refine kx_sub [(0, .ref a0), (2, .int ((9 : Int32) + ((3 : Int32) * a1)))] [1, 0] rfl ?_
  exact B15 hN_f _ _ hf
def m_X7_sends_j136  (a0 : Nat) (σ42 : ac_H) (v38 : Int32) (w39 : Int32) (w40 : Int32) (w41 : Nat) : Option (Unit × ac_H) :=
  mo_ui σ42 w41 0 w40 w39 fun σ43 =>
  mo_gr σ43 a0 7 14 fun x44 =>
  mo_cs (m_X7_placeOf σ43 x44 (0 : Int32) v38) fun x46 σ45 =>
  if x46 = (-1 : Int32) then
  (some ((), σ45))
  else
  (mo_gr σ45 a0 7 19 fun x47 =>
  mo_ui σ45 x47 0 v38 (-1 : Int32) fun σ48 =>
  mo_gr σ48 a0 7 20 fun x49 =>
  mo_ui σ48 x49 0 v38 (-1 : Int32) fun σ50 =>
  some ((), σ50))
def m_X7_sends_j104  (a0 : Nat) (σ30 : ac_H) (v25 : Int32) (w26 : Int32) (w27 : Int32) (w28 : Int32) (w29 : Nat) : Option (Unit × ac_H) :=
  mo_ui σ30 w29 0 w28 (w27 + w26) fun σ31 =>
  mo_gr σ31 a0 7 20 fun x32 =>
  mo_gr σ31 a0 7 14 fun x33 =>
  mo_cs (m_X7_placeOf σ31 x33 (1 : Int32) v25) fun x35 σ34 =>
  if x35 = (-1 : Int32) then
  (m_X7_sends_j136 a0 σ34 v25 (-1 : Int32) v25 x32)
  else
  (mo_gr σ34 a0 7 19 fun x36 =>
  mo_ai σ34 x36 0 v25 fun x37 =>
  m_X7_sends_j136 a0 σ34 v25 (x37 + (1 : Int32)) v25 x32)
def m_X7_sends (σ : ac_H) (a0 : Nat) (a1 : Int32) (a2 : Int32) : Option (Unit × ac_H) :=
  mo_gi σ a0 7 21 fun x1 =>
  if x1 = (120 : Int32) then
  (some ((), σ))
  else
  (mo_gi σ a0 7 21 fun x2 =>
  mo_gi σ a0 7 21 fun x3 =>
  mo_pv σ a0 7 21 (.int (x3 + (1 : Int32))) fun σ4 =>
  mo_gr σ4 a0 7 16 fun x5 =>
  mo_gi σ4 a0 7 26 fun x6 =>
  mo_ui σ4 x5 0 x2 x6 fun σ7 =>
  mo_gr σ7 a0 7 17 fun x8 =>
  mo_ui σ7 x8 0 x2 a1 fun σ9 =>
  mo_gr σ9 a0 7 18 fun x10 =>
  mo_ui σ9 x10 0 x2 a2 fun σ11 =>
  mo_gr σ11 a0 7 19 fun x12 =>
  mo_gi σ11 a0 7 26 fun x13 =>
  mo_gr σ11 a0 7 14 fun x14 =>
  mo_ai σ11 x14 0 (3 : Int32) fun x15 =>
  mo_ui σ11 x12 0 x2 (x13 + x15) fun σ16 =>
  mo_gr σ16 a0 7 14 fun x17 =>
  mo_cs (m_X7_placeOf σ16 x17 (2 : Int32) x2) fun x19 σ18 =>
  mo_gr σ18 a0 7 19 fun x20 =>
  mo_ai σ18 x20 0 x2 fun x21 =>
  if x19 = (-1 : Int32) then
  (m_X7_sends_j104 a0 σ18 x2 (0 : Int32) x21 x2 x20)
  else
  (mo_gr σ18 a0 7 14 fun x22 =>
  mo_cs (m_X7_ofFault σ18 x22 x19 (2 : Int32)) fun x24 σ23 =>
  m_X7_sends_j104 a0 σ23 x2 x24 x21 x2 x20))
set_option maxRecDepth 100000 in
set_option maxHeartbeats 4000000 in
theorem k_X7_sends {Λ : ex_L} {q : Nat} {σ σ' : ac_H} {a0 : Nat} {a1 : Int32} {a2 : Int32} {v : Unit} (hf : m_X7_sends σ a0 a1 a2 = some (v, σ')) : kx_C Λ yX7_sends (.code yX7_sends cX7_sends 5 none) ({ frames := 2, cells := 0, slots := 0, locals := 45 } : Room) [.ref a0, .int a1, .int a2] q σ (.inr none) σ' (fun z => z = q) := by
  refine kx_in (by decide +kernel) (Nat.le_of_ble_eq_true rfl) ?_
  intro Γ K hnm hsz hQ
  refine kx_lv (lv' := [(0, .ref a0), (1, .int a1), (2, .int a2)]) rfl ?_
  have B136 : ∀ (σ42 : ac_H) (v38 : Int32) (w39 : Int32) (w40 : Int32) (w41 : Nat), m_X7_sends_j136 a0 σ42 v38 w39 w40 w41 = some (v, σ') → kx_S Λ Γ 5 (fun z => z = q) σ42 (0) (0) 136 [(0, .ref a0), (3, .int v38)] [.int w39, .int w40, .ref w41] := by
    intro σ42 v38 w39 w40 w41 hf
    unfold m_X7_sends_j136 at hf
    refine kx_ui K dX7_sends_136 hf (fun σ43 hf => ?_)
    refine kx_aload_n K dX7_sends_137 rfl 0 rfl ?_
    refine kx_gr K f_X7_24 dX7_sends_138 hf (fun x44 hf => ?_)
    refine kx_iconst (v := 0) K dX7_sends_141 (by decide) ?_
    refine kx_iload_n K dX7_sends_142 rfl 1 rfl ?_
    refine kx_cs3i K c_X7_137 (by decide) (Nat.le_of_ble_eq_true rfl) dX7_sends_143 hf (fun _ _ _ h => k_X7_placeOf h) (fun x46 σ45 hf => ?_)
    refine kx_iconst (v := -1) K dX7_sends_146 (by decide) ?_
    refine kx_icmp_eq K 164 hf dX7_sends_147 (by decide) (fun hf => ?_) (fun hf => ?_)
    · exact kx_vret K hQ (by decide) (by decide) (fun _ h => h) dX7_sends_164 hf
    · refine kx_aload_n K dX7_sends_150 rfl 0 rfl ?_
      refine kx_gr K f_X7_39 dX7_sends_151 hf (fun x47 hf => ?_)
      refine kx_iload_n K dX7_sends_154 rfl 1 rfl ?_
      refine kx_iconst (v := -1) K dX7_sends_155 (by decide) ?_
      refine kx_ui K dX7_sends_156 hf (fun σ48 hf => ?_)
      refine kx_aload_n K dX7_sends_157 rfl 0 rfl ?_
      refine kx_gr K f_X7_42 dX7_sends_158 hf (fun x49 hf => ?_)
      refine kx_iload_n K dX7_sends_161 rfl 1 rfl ?_
      refine kx_iconst (v := -1) K dX7_sends_162 (by decide) ?_
      refine kx_ui K dX7_sends_163 hf (fun σ50 hf => ?_)
      exact kx_vret K hQ (by decide) (by decide) (fun _ h => h) dX7_sends_164 hf
  have B104 : ∀ (σ30 : ac_H) (v25 : Int32) (w26 : Int32) (w27 : Int32) (w28 : Int32) (w29 : Nat), m_X7_sends_j104 a0 σ30 v25 w26 w27 w28 w29 = some (v, σ') → kx_S Λ Γ 5 (fun z => z = q) σ30 (0) (0) 104 [(0, .ref a0), (3, .int v25)] [.int w26, .int w27, .int w28, .ref w29] := by
    intro σ30 v25 w26 w27 w28 w29 hf
    unfold m_X7_sends_j104 at hf
    refine kx_iadd K dX7_sends_104 ?_
    refine kx_ui K dX7_sends_105 hf (fun σ31 hf => ?_)
    refine kx_aload_n K dX7_sends_106 rfl 0 rfl ?_
    refine kx_gr K f_X7_42 dX7_sends_107 hf (fun x32 hf => ?_)
    refine kx_iload_n K dX7_sends_110 rfl 1 rfl ?_
    refine kx_aload_n K dX7_sends_111 rfl 0 rfl ?_
    refine kx_gr K f_X7_24 dX7_sends_112 hf (fun x33 hf => ?_)
    refine kx_iconst (v := 1) K dX7_sends_115 (by decide) ?_
    refine kx_iload_n K dX7_sends_116 rfl 1 rfl ?_
    refine kx_cs3i K c_X7_137 (by decide) (Nat.le_of_ble_eq_true rfl) dX7_sends_117 hf (fun _ _ _ h => k_X7_placeOf h) (fun x35 σ34 hf => ?_)
    refine kx_iconst (v := -1) K dX7_sends_120 (by decide) ?_
    refine kx_icmp_ne K 128 hf dX7_sends_121 (by decide) (fun hf => ?_) (fun hf => ?_)
    · refine kx_aload_n K dX7_sends_128 rfl 0 rfl ?_
      refine kx_gr K f_X7_39 dX7_sends_129 hf (fun x36 hf => ?_)
      refine kx_iload_n K dX7_sends_132 rfl 1 rfl ?_
      refine kx_ai K dX7_sends_133 hf (fun x37 hf => ?_)
      refine kx_iconst (v := 1) K dX7_sends_134 (by decide) ?_
      refine kx_iadd K dX7_sends_135 ?_
      refine kx_sub [(0, .ref a0), (3, .int v25)] [0, 1] rfl ?_
      exact B136 _ _ _ _ _ hf
    · refine kx_iconst (v := -1) K dX7_sends_124 (by decide) ?_
      refine kx_goto K 136 dX7_sends_125 (by decide) ?_
      refine kx_sub [(0, .ref a0), (3, .int v25)] [0, 1] rfl ?_
      exact B136 _ _ _ _ _ hf
  unfold m_X7_sends at hf
  refine kx_aload_n K dX7_sends_0 rfl 0 rfl ?_
  refine kx_gi K f_X7_204 dX7_sends_1 hf (fun x1 hf => ?_)
  refine kx_bipush (v := 120) K dX7_sends_4 (by decide) ?_
  refine kx_icmp_ne K 10 hf dX7_sends_6 (by decide) (fun hf => ?_) (fun hf => ?_)
  · refine kx_aload_n K dX7_sends_10 rfl 0 rfl ?_
    refine kx_gi K f_X7_204 dX7_sends_11 hf (fun x2 hf => ?_)
    refine kx_istore_n K [(3, .int x2), (0, .ref a0), (1, .int a1), (2, .int a2)] dX7_sends_14 rfl (by decide) rfl ?_
    refine kx_aload_n K dX7_sends_15 rfl 1 rfl ?_
    refine kx_dup K dX7_sends_16 rfl ?_
    refine kx_gi K f_X7_204 dX7_sends_17 hf (fun x3 hf => ?_)
    refine kx_iconst (v := 1) K dX7_sends_20 (by decide) ?_
    refine kx_iadd K dX7_sends_21 ?_
    refine kx_pi K f_X7_204 dX7_sends_22 hf (fun σ4 hf => ?_)
    refine kx_aload_n K dX7_sends_25 rfl 1 rfl ?_
    refine kx_gr K f_X7_30 dX7_sends_26 hf (fun x5 hf => ?_)
    refine kx_iload_n K dX7_sends_29 rfl 0 rfl ?_
    refine kx_aload_n K dX7_sends_30 rfl 1 rfl ?_
    refine kx_gi K f_X7_207 dX7_sends_31 hf (fun x6 hf => ?_)
    refine kx_ui K dX7_sends_34 hf (fun σ7 hf => ?_)
    refine kx_aload_n K dX7_sends_35 rfl 1 rfl ?_
    refine kx_gr K f_X7_33 dX7_sends_36 hf (fun x8 hf => ?_)
    refine kx_iload_n K dX7_sends_39 rfl 0 rfl ?_
    refine kx_iload_n K dX7_sends_40 rfl 2 rfl ?_
    refine kx_ui K dX7_sends_41 hf (fun σ9 hf => ?_)
    refine kx_aload_n K dX7_sends_42 rfl 1 rfl ?_
    refine kx_gr K f_X7_36 dX7_sends_43 hf (fun x10 hf => ?_)
    refine kx_iload_n K dX7_sends_46 rfl 0 rfl ?_
    refine kx_iload_n K dX7_sends_47 rfl 3 rfl ?_
    refine kx_ui K dX7_sends_48 hf (fun σ11 hf => ?_)
    refine kx_aload_n K dX7_sends_49 rfl 1 rfl ?_
    refine kx_gr K f_X7_39 dX7_sends_50 hf (fun x12 hf => ?_)
    refine kx_iload_n K dX7_sends_53 rfl 0 rfl ?_
    refine kx_aload_n K dX7_sends_54 rfl 1 rfl ?_
    refine kx_gi K f_X7_207 dX7_sends_55 hf (fun x13 hf => ?_)
    refine kx_aload_n K dX7_sends_58 rfl 1 rfl ?_
    refine kx_gr K f_X7_24 dX7_sends_59 hf (fun x14 hf => ?_)
    refine kx_iconst (v := 3) K dX7_sends_62 (by decide) ?_
    refine kx_ai K dX7_sends_63 hf (fun x15 hf => ?_)
    refine kx_iadd K dX7_sends_64 ?_
    refine kx_ui K dX7_sends_65 hf (fun σ16 hf => ?_)
    refine kx_aload_n K dX7_sends_66 rfl 1 rfl ?_
    refine kx_gr K f_X7_24 dX7_sends_67 hf (fun x17 hf => ?_)
    refine kx_iconst (v := 2) K dX7_sends_70 (by decide) ?_
    refine kx_iload_n K dX7_sends_71 rfl 0 rfl ?_
    refine kx_cs3i K c_X7_137 (by decide) (Nat.le_of_ble_eq_true rfl) dX7_sends_72 hf (fun _ _ _ h => k_X7_placeOf h) (fun x19 σ18 hf => ?_)
    refine kx_istore K [(4, .int x19), (3, .int x2), (0, .ref a0), (1, .int a1), (2, .int a2)] dX7_sends_75 (by decide) rfl ?_
    refine kx_aload_n K dX7_sends_77 rfl 2 rfl ?_
    refine kx_gr K f_X7_39 dX7_sends_78 hf (fun x20 hf => ?_)
    refine kx_iload_n K dX7_sends_81 rfl 1 rfl ?_
    refine kx_dup2 K dX7_sends_82 rfl rfl ?_
    refine kx_ai K dX7_sends_83 hf (fun x21 hf => ?_)
    refine kx_iload K dX7_sends_84 0 rfl ?_
    refine kx_iconst (v := -1) K dX7_sends_86 (by decide) ?_
    refine kx_icmp_ne K 94 hf dX7_sends_87 (by decide) (fun hf => ?_) (fun hf => ?_)
    · refine kx_aload_n K dX7_sends_94 rfl 2 rfl ?_
      refine kx_gr K f_X7_24 dX7_sends_95 hf (fun x22 hf => ?_)
      refine kx_iload K dX7_sends_98 0 rfl ?_
      refine kx_iconst (v := 2) K dX7_sends_100 (by decide) ?_
      refine kx_cs3i K c_X7_201 (by decide) (Nat.le_of_ble_eq_true rfl) dX7_sends_101 hf (fun _ _ _ h => k_X7_ofFault h) (fun x24 σ23 hf => ?_)
      refine kx_sub [(0, .ref a0), (3, .int x2)] [2, 1] rfl ?_
      exact B104 _ _ _ _ _ _ hf
    · refine kx_iconst (v := 0) K dX7_sends_90 (by decide) ?_
      refine kx_goto K 104 dX7_sends_91 (by decide) ?_
      refine kx_sub [(0, .ref a0), (3, .int x2)] [2, 1] rfl ?_
      exact B104 _ _ _ _ _ _ hf
  · exact kx_vret K hQ (by decide) (by decide) (fun _ h => h) dX7_sends_9 hf
def m_X7_delivers (σ : ac_H) (a0 : Nat) (a1 : Int32) : Option (Unit × ac_H) :=
  mo_gr σ a0 7 22 fun x1 =>
  mo_gi σ a0 7 23 fun x2 =>
  mo_ui σ x1 0 x2 a1 fun σ3 =>
  mo_gi σ3 a0 7 23 fun x4 =>
  mo_pv σ3 a0 7 23 (.int (x4 + (1 : Int32))) fun σ5 =>
  mo_gi σ5 a0 7 24 fun x6 =>
  mo_pv σ5 a0 7 24 (.int (x6 ||| ((1 : Int32) <<< (a1 &&& 31)))) fun σ7 =>
  mo_gi σ7 a0 7 25 fun x8 =>
  if x8 = (-1 : Int32) then
  (mo_gi σ7 a0 7 24 fun x9 =>
  mo_gr σ7 a0 7 14 fun x10 =>
  mo_ai σ7 x10 0 (1 : Int32) fun x11 =>
  if x9 = (((1 : Int32) <<< (x11 &&& 31)) - (1 : Int32)) then
  (mo_gi σ7 a0 7 26 fun x12 =>
  mo_pv σ7 a0 7 25 (.int x12) fun σ13 =>
  some ((), σ13))
  else
  (some ((), σ7)))
  else
  (some ((), σ7))
set_option maxRecDepth 100000 in
set_option maxHeartbeats 4000000 in
theorem k_X7_delivers {Λ : ex_L} {q : Nat} {σ σ' : ac_H} {a0 : Nat} {a1 : Int32} {v : Unit} (hf : m_X7_delivers σ a0 a1 = some (v, σ')) : kx_C Λ yX7_delivers (.code yX7_delivers cX7_delivers 2 none) ({ frames := 0, cells := 0, slots := 0, locals := 0 } : Room) [.ref a0, .int a1] q σ (.inr none) σ' (fun z => z = q) := by
  refine kx_in (by decide +kernel) (Nat.le_of_ble_eq_true rfl) ?_
  intro Γ K hnm hsz hQ
  refine kx_lv (lv' := [(0, .ref a0), (1, .int a1)]) rfl ?_
  unfold m_X7_delivers at hf
  refine kx_aload_n K dX7_delivers_0 rfl 0 rfl ?_
  refine kx_gr K f_X7_45 dX7_delivers_1 hf (fun x1 hf => ?_)
  refine kx_aload_n K dX7_delivers_4 rfl 0 rfl ?_
  refine kx_gi K f_X7_210 dX7_delivers_5 hf (fun x2 hf => ?_)
  refine kx_iload_n K dX7_delivers_8 rfl 1 rfl ?_
  refine kx_ui K dX7_delivers_9 hf (fun σ3 hf => ?_)
  refine kx_aload_n K dX7_delivers_10 rfl 0 rfl ?_
  refine kx_dup K dX7_delivers_11 rfl ?_
  refine kx_gi K f_X7_210 dX7_delivers_12 hf (fun x4 hf => ?_)
  refine kx_iconst (v := 1) K dX7_delivers_15 (by decide) ?_
  refine kx_iadd K dX7_delivers_16 ?_
  refine kx_pi K f_X7_210 dX7_delivers_17 hf (fun σ5 hf => ?_)
  refine kx_aload_n K dX7_delivers_20 rfl 0 rfl ?_
  refine kx_dup K dX7_delivers_21 rfl ?_
  refine kx_gi K f_X7_213 dX7_delivers_22 hf (fun x6 hf => ?_)
  refine kx_iconst (v := 1) K dX7_delivers_25 (by decide) ?_
  refine kx_iload_n K dX7_delivers_26 rfl 1 rfl ?_
  refine kx_ishl K dX7_delivers_27 ?_
  refine kx_ior K dX7_delivers_28 ?_
  refine kx_pi K f_X7_213 dX7_delivers_29 hf (fun σ7 hf => ?_)
  refine kx_aload_n K dX7_delivers_32 rfl 0 rfl ?_
  refine kx_gi K f_X7_216 dX7_delivers_33 hf (fun x8 hf => ?_)
  refine kx_iconst (v := -1) K dX7_delivers_36 (by decide) ?_
  refine kx_icmp_ne K 65 hf dX7_delivers_37 (by decide) (fun hf => ?_) (fun hf => ?_)
  · exact kx_vret K hQ (by decide) (by decide) (fun _ h => h) dX7_delivers_65 hf
  · refine kx_aload_n K dX7_delivers_40 rfl 0 rfl ?_
    refine kx_gi K f_X7_213 dX7_delivers_41 hf (fun x9 hf => ?_)
    refine kx_iconst (v := 1) K dX7_delivers_44 (by decide) ?_
    refine kx_aload_n K dX7_delivers_45 rfl 0 rfl ?_
    refine kx_gr K f_X7_24 dX7_delivers_46 hf (fun x10 hf => ?_)
    refine kx_iconst (v := 1) K dX7_delivers_49 (by decide) ?_
    refine kx_ai K dX7_delivers_50 hf (fun x11 hf => ?_)
    refine kx_ishl K dX7_delivers_51 ?_
    refine kx_iconst (v := 1) K dX7_delivers_52 (by decide) ?_
    refine kx_isub K dX7_delivers_53 ?_
    refine kx_icmp_ne K 65 hf dX7_delivers_54 (by decide) (fun hf => ?_) (fun hf => ?_)
    · exact kx_vret K hQ (by decide) (by decide) (fun _ h => h) dX7_delivers_65 hf
    · refine kx_aload_n K dX7_delivers_57 rfl 0 rfl ?_
      refine kx_aload_n K dX7_delivers_58 rfl 0 rfl ?_
      refine kx_gi K f_X7_207 dX7_delivers_59 hf (fun x12 hf => ?_)
      refine kx_pi K f_X7_216 dX7_delivers_62 hf (fun σ13 hf => ?_)
      exact kx_vret K hQ (by decide) (by decide) (fun _ h => h) dX7_delivers_65 hf
def m_X7_dataComes_j74  (a0 : Nat) (a1 : Int32) (σ20 : ac_H) (v19 : Int32) : Option (Unit × ac_H) :=
  mo_gr σ20 a0 7 14 fun x21 =>
  mo_ai σ20 x21 0 (0 : Int32) fun x22 =>
  if x22 = (1 : Int32) then
  (mo_rm a1 (2 : Int32) fun x26 =>
  mo_cv σ20 a0 7 (m_X7_sends σ20 a0 (1 : Int32) x26) fun _ σ27 =>
  some ((), σ27))
  else
  (mo_gi σ20 a0 7 32 fun x23 =>
  mo_rm x23 v19 fun x24 =>
  mo_cv σ20 a0 7 (m_X7_sends σ20 a0 (1 : Int32) x24) fun _ σ25 =>
  some ((), σ25))
def m_X7_dataComes_j54  (a0 : Nat) (a1 : Int32) (σ15 : ac_H) (v13 : Int32) (w14 : Int32) : Option (Unit × ac_H) :=
  if w14 = 0 then
  (m_X7_dataComes_j74 a0 a1 σ15 v13)
  else
  (mo_cv σ15 a0 7 (m_X7_delivers σ15 a0 a1) fun _ σ16 =>
  mo_gi σ16 a0 7 32 fun x17 =>
  mo_pv σ16 a0 7 32 (.int (x17 + (1 : Int32))) fun σ18 =>
  m_X7_dataComes_j74 a0 a1 σ18 v13)
def m_X7_dataComes_j36  (a0 : Nat) (a1 : Int32) (σ9 : ac_H) (w8 : Int32) : Option (Unit × ac_H) :=
  mo_rm a1 w8 fun x10 =>
  mo_gi σ9 a0 7 32 fun x11 =>
  mo_rm x11 w8 fun x12 =>
  if x10 = x12 then
  (m_X7_dataComes_j54 a0 a1 σ9 w8 (1 : Int32))
  else
  (m_X7_dataComes_j54 a0 a1 σ9 w8 (0 : Int32))
def m_X7_dataComes (σ : ac_H) (a0 : Nat) (a1 : Int32) : Option (Unit × ac_H) :=
  mo_gr σ a0 7 14 fun x1 =>
  mo_ai σ x1 0 (0 : Int32) fun x2 =>
  if x2 = 0 then
  (mo_cv σ a0 7 (m_X7_delivers σ a0 a1) fun _ σ7 =>
  some ((), σ7))
  else
  (mo_gr σ a0 7 14 fun x3 =>
  mo_ai σ x3 0 (0 : Int32) fun x4 =>
  if x4 = (1 : Int32) then
  (m_X7_dataComes_j36 a0 a1 σ (2 : Int32))
  else
  (mo_gr σ a0 7 14 fun x5 =>
  mo_ai σ x5 0 (6 : Int32) fun x6 =>
  m_X7_dataComes_j36 a0 a1 σ x6))
set_option maxRecDepth 100000 in
set_option maxHeartbeats 4000000 in
theorem k_X7_dataComes {Λ : ex_L} {q : Nat} {σ σ' : ac_H} {a0 : Nat} {a1 : Int32} {v : Unit} (hf : m_X7_dataComes σ a0 a1 = some (v, σ')) : kx_C Λ yX7_dataComes (.code yX7_dataComes cX7_dataComes 4 none) ({ frames := 3, cells := 0, slots := 0, locals := 69 } : Room) [.ref a0, .int a1] q σ (.inr none) σ' (fun z => z = q) := by
  refine kx_in (by decide +kernel) (Nat.le_of_ble_eq_true rfl) ?_
  intro Γ K hnm hsz hQ
  refine kx_lv (lv' := [(0, .ref a0), (1, .int a1)]) rfl ?_
  have B74 : ∀ (σ20 : ac_H) (v19 : Int32), m_X7_dataComes_j74 a0 a1 σ20 v19 = some (v, σ') → kx_S Λ Γ 4 (fun z => z = q) σ20 (0) (0) 74 [(0, .ref a0), (1, .int a1), (2, .int v19)] [] := by
    intro σ20 v19 hf
    unfold m_X7_dataComes_j74 at hf
    refine kx_aload_n K dX7_dataComes_74 rfl 0 rfl ?_
    refine kx_iconst (v := 1) K dX7_dataComes_75 (by decide) ?_
    refine kx_aload_n K dX7_dataComes_76 rfl 0 rfl ?_
    refine kx_gr K f_X7_24 dX7_dataComes_77 hf (fun x21 hf => ?_)
    refine kx_iconst (v := 0) K dX7_dataComes_80 (by decide) ?_
    refine kx_ai K dX7_dataComes_81 hf (fun x22 hf => ?_)
    refine kx_iconst (v := 1) K dX7_dataComes_82 (by decide) ?_
    refine kx_icmp_ne K 92 hf dX7_dataComes_83 (by decide) (fun hf => ?_) (fun hf => ?_)
    · refine kx_aload_n K dX7_dataComes_92 rfl 0 rfl ?_
      refine kx_gi K f_X7_222 dX7_dataComes_93 hf (fun x23 hf => ?_)
      refine kx_iload_n K dX7_dataComes_96 rfl 2 rfl ?_
      refine kx_irem K dX7_dataComes_97 hf (fun x24 hf => ?_)
      refine kx_cv2v K c_X7_225 (by decide) (Nat.le_of_ble_eq_true rfl) dX7_dataComes_98 hf (fun _ _ _ h => k_X7_sends h) (fun _ σ25 hf => ?_)
      exact kx_vret K hQ (by decide) (by decide) (fun _ h => h) dX7_dataComes_101 hf
    · refine kx_iload_n K dX7_dataComes_86 rfl 1 rfl ?_
      refine kx_iconst (v := 2) K dX7_dataComes_87 (by decide) ?_
      refine kx_irem K dX7_dataComes_88 hf (fun x26 hf => ?_)
      refine kx_goto K 98 dX7_dataComes_89 (by decide) ?_
      refine kx_cv2v K c_X7_225 (by decide) (Nat.le_of_ble_eq_true rfl) dX7_dataComes_98 hf (fun _ _ _ h => k_X7_sends h) (fun _ σ27 hf => ?_)
      exact kx_vret K hQ (by decide) (by decide) (fun _ h => h) dX7_dataComes_101 hf
  have B54 : ∀ (σ15 : ac_H) (v13 : Int32) (w14 : Int32), m_X7_dataComes_j54 a0 a1 σ15 v13 w14 = some (v, σ') → kx_S Λ Γ 4 (fun z => z = q) σ15 (0) (0) 54 [(0, .ref a0), (1, .int a1), (2, .int v13)] [.int w14] := by
    intro σ15 v13 w14 hf
    unfold m_X7_dataComes_j54 at hf
    refine kx_istore_n K [(3, .int w14), (0, .ref a0), (1, .int a1), (2, .int v13)] dX7_dataComes_54 rfl (by decide) rfl ?_
    refine kx_iload_n K dX7_dataComes_55 rfl 0 rfl ?_
    refine kx_if_eq K 74 hf dX7_dataComes_56 (by decide) (fun hf => ?_) (fun hf => ?_)
    · refine kx_sub [(0, .ref a0), (1, .int a1), (2, .int v13)] [1, 2, 3] rfl ?_
      exact B74 _ _ hf
    · refine kx_aload_n K dX7_dataComes_59 rfl 1 rfl ?_
      refine kx_iload_n K dX7_dataComes_60 rfl 2 rfl ?_
      refine kx_cv1v K c_X7_219 (by decide) (Nat.le_of_ble_eq_true rfl) dX7_dataComes_61 hf (fun _ _ _ h => k_X7_delivers h) (fun _ σ16 hf => ?_)
      refine kx_aload_n K dX7_dataComes_64 rfl 1 rfl ?_
      refine kx_dup K dX7_dataComes_65 rfl ?_
      refine kx_gi K f_X7_222 dX7_dataComes_66 hf (fun x17 hf => ?_)
      refine kx_iconst (v := 1) K dX7_dataComes_69 (by decide) ?_
      refine kx_iadd K dX7_dataComes_70 ?_
      refine kx_pi K f_X7_222 dX7_dataComes_71 hf (fun σ18 hf => ?_)
      refine kx_sub [(0, .ref a0), (1, .int a1), (2, .int v13)] [1, 2, 3] rfl ?_
      exact B74 _ _ hf
  have B36 : ∀ (σ9 : ac_H) (w8 : Int32), m_X7_dataComes_j36 a0 a1 σ9 w8 = some (v, σ') → kx_S Λ Γ 4 (fun z => z = q) σ9 (0) (0) 36 [(0, .ref a0), (1, .int a1)] [.int w8] := by
    intro σ9 w8 hf
    unfold m_X7_dataComes_j36 at hf
    refine kx_istore_n K [(2, .int w8), (0, .ref a0), (1, .int a1)] dX7_dataComes_36 rfl (by decide) rfl ?_
    refine kx_iload_n K dX7_dataComes_37 rfl 2 rfl ?_
    refine kx_iload_n K dX7_dataComes_38 rfl 0 rfl ?_
    refine kx_irem K dX7_dataComes_39 hf (fun x10 hf => ?_)
    refine kx_aload_n K dX7_dataComes_40 rfl 1 rfl ?_
    refine kx_gi K f_X7_222 dX7_dataComes_41 hf (fun x11 hf => ?_)
    refine kx_iload_n K dX7_dataComes_44 rfl 0 rfl ?_
    refine kx_irem K dX7_dataComes_45 hf (fun x12 hf => ?_)
    refine kx_icmp_ne K 53 hf dX7_dataComes_46 (by decide) (fun hf => ?_) (fun hf => ?_)
    · refine kx_iconst (v := 0) K dX7_dataComes_53 (by decide) ?_
      refine kx_sub [(0, .ref a0), (1, .int a1), (2, .int w8)] [1, 2, 0] rfl ?_
      exact B54 _ _ _ hf
    · refine kx_iconst (v := 1) K dX7_dataComes_49 (by decide) ?_
      refine kx_goto K 54 dX7_dataComes_50 (by decide) ?_
      refine kx_sub [(0, .ref a0), (1, .int a1), (2, .int w8)] [1, 2, 0] rfl ?_
      exact B54 _ _ _ hf
  unfold m_X7_dataComes at hf
  refine kx_aload_n K dX7_dataComes_0 rfl 0 rfl ?_
  refine kx_gr K f_X7_24 dX7_dataComes_1 hf (fun x1 hf => ?_)
  refine kx_iconst (v := 0) K dX7_dataComes_4 (by decide) ?_
  refine kx_ai K dX7_dataComes_5 hf (fun x2 hf => ?_)
  refine kx_if_ne K 15 hf dX7_dataComes_6 (by decide) (fun hf => ?_) (fun hf => ?_)
  · refine kx_aload_n K dX7_dataComes_15 rfl 0 rfl ?_
    refine kx_gr K f_X7_24 dX7_dataComes_16 hf (fun x3 hf => ?_)
    refine kx_iconst (v := 0) K dX7_dataComes_19 (by decide) ?_
    refine kx_ai K dX7_dataComes_20 hf (fun x4 hf => ?_)
    refine kx_iconst (v := 1) K dX7_dataComes_21 (by decide) ?_
    refine kx_icmp_ne K 29 hf dX7_dataComes_22 (by decide) (fun hf => ?_) (fun hf => ?_)
    · refine kx_aload_n K dX7_dataComes_29 rfl 0 rfl ?_
      refine kx_gr K f_X7_24 dX7_dataComes_30 hf (fun x5 hf => ?_)
      refine kx_bipush (v := 6) K dX7_dataComes_33 (by decide) ?_
      refine kx_ai K dX7_dataComes_35 hf (fun x6 hf => ?_)
      refine kx_sub [(0, .ref a0), (1, .int a1)] [0, 1] rfl ?_
      exact B36 _ _ hf
    · refine kx_iconst (v := 2) K dX7_dataComes_25 (by decide) ?_
      refine kx_goto K 36 dX7_dataComes_26 (by decide) ?_
      refine kx_sub [(0, .ref a0), (1, .int a1)] [0, 1] rfl ?_
      exact B36 _ _ hf
  · refine kx_aload_n K dX7_dataComes_9 rfl 0 rfl ?_
    refine kx_iload_n K dX7_dataComes_10 rfl 1 rfl ?_
    refine kx_cv1v K c_X7_219 (by decide) (Nat.le_of_ble_eq_true rfl) dX7_dataComes_11 hf (fun _ _ _ h => k_X7_delivers h) (fun _ σ7 hf => ?_)
    exact kx_vret K hQ (by decide) (by decide) (fun _ h => h) dX7_dataComes_14 hf
def m_X7_answerComes_l51  (a0 : Nat) (a1 : Int32) : Nat → ac_H → Int32 → Option (Unit × ac_H)
  | 0, _, _ => none
  | n + 1, σ12, v11 =>
    mo_gi σ12 a0 7 30 fun x13 =>
    mo_gi σ12 a0 7 29 fun x14 =>
    if (x13 - x14) < v11 then
    (some ((), σ12))
    else
    (mo_gi σ12 a0 7 29 fun x15 =>
    mo_gr σ12 a0 7 14 fun x16 =>
    mo_ai σ12 x16 0 (6 : Int32) fun x17 =>
    mo_rm (x15 + v11) x17 fun x18 =>
    if x18 = a1 then
    (mo_gi σ12 a0 7 29 fun x19 =>
    mo_pv σ12 a0 7 29 (.int (x19 + v11)) fun σ20 =>
    mo_gi σ20 a0 7 26 fun x21 =>
    mo_pv σ20 a0 7 31 (.int x21) fun σ22 =>
    some ((), σ22))
    else
    (m_X7_answerComes_l51 a0 a1 n σ12 (v11 + 1)))
def m_X7_answerComes (σ : ac_H) (a0 : Nat) (a1 : Int32) : Option (Unit × ac_H) :=
  mo_gr σ a0 7 14 fun x1 =>
  mo_ai σ x1 0 (0 : Int32) fun x2 =>
  if x2 = (1 : Int32) then
  (mo_gi σ a0 7 29 fun x3 =>
  mo_gr σ a0 7 14 fun x4 =>
  mo_ai σ x4 0 (1 : Int32) fun x5 =>
  if x3 < x5 then
  (mo_gi σ a0 7 29 fun x6 =>
  mo_rm x6 (2 : Int32) fun x7 =>
  if a1 = x7 then
  (mo_gi σ a0 7 29 fun x8 =>
  mo_pv σ a0 7 29 (.int (x8 + (1 : Int32))) fun σ9 =>
  mo_pv σ9 a0 7 31 (.int (-1 : Int32)) fun σ10 =>
  some ((), σ10))
  else
  (some ((), σ)))
  else
  (some ((), σ)))
  else
  (m_X7_answerComes_l51 a0 a1 hN_f σ (1 : Int32))
set_option maxRecDepth 100000 in
set_option maxHeartbeats 4000000 in
theorem k_X7_answerComes {Λ : ex_L} {q : Nat} {σ σ' : ac_H} {a0 : Nat} {a1 : Int32} {v : Unit} (hf : m_X7_answerComes σ a0 a1 = some (v, σ')) : kx_C Λ yX7_answerComes (.code yX7_answerComes cX7_answerComes 3 none) ({ frames := 0, cells := 0, slots := 0, locals := 0 } : Room) [.ref a0, .int a1] q σ (.inr none) σ' (fun z => z = q) := by
  refine kx_in (by decide +kernel) (Nat.le_of_ble_eq_true rfl) ?_
  intro Γ K hnm hsz hQ
  refine kx_lv (lv' := [(0, .ref a0), (1, .int a1)]) rfl ?_
  have B51 : ∀ (n51 : Nat) (σ12 : ac_H) (v11 : Int32), m_X7_answerComes_l51 a0 a1 n51 σ12 v11 = some (v, σ') → kx_S Λ Γ 3 (fun z => z = q) σ12 (0) (0) 51 [(0, .ref a0), (1, .int a1), (2, .int v11)] [] := by
    intro n51
    induction n51 with
    | zero =>
      intro σ12 v11 hf
      rw [m_X7_answerComes_l51] at hf
      cases hf
    | succ n51 ih51 =>
      intro σ12 v11 hf
      rw [m_X7_answerComes_l51] at hf
      refine kx_iload_n K dX7_answerComes_51 rfl 2 rfl ?_
      refine kx_aload_n K dX7_answerComes_52 rfl 0 rfl ?_
      refine kx_gi K f_X7_235 dX7_answerComes_53 hf (fun x13 hf => ?_)
      refine kx_aload_n K dX7_answerComes_56 rfl 0 rfl ?_
      refine kx_gi K f_X7_229 dX7_answerComes_57 hf (fun x14 hf => ?_)
      refine kx_isub K dX7_answerComes_60 ?_
      refine kx_icmp_gt K 107 hf dX7_answerComes_61 (by decide) (fun hf => ?_) (fun hf => ?_)
      · exact kx_vret K hQ (by decide) (by decide) (fun _ h => h) dX7_answerComes_107 hf
      · refine kx_aload_n K dX7_answerComes_64 rfl 0 rfl ?_
        refine kx_gi K f_X7_229 dX7_answerComes_65 hf (fun x15 hf => ?_)
        refine kx_iload_n K dX7_answerComes_68 rfl 2 rfl ?_
        refine kx_iadd K dX7_answerComes_69 ?_
        refine kx_aload_n K dX7_answerComes_70 rfl 0 rfl ?_
        refine kx_gr K f_X7_24 dX7_answerComes_71 hf (fun x16 hf => ?_)
        refine kx_bipush (v := 6) K dX7_answerComes_74 (by decide) ?_
        refine kx_ai K dX7_answerComes_76 hf (fun x17 hf => ?_)
        refine kx_irem K dX7_answerComes_77 hf (fun x18 hf => ?_)
        refine kx_iload_n K dX7_answerComes_78 rfl 1 rfl ?_
        refine kx_icmp_ne K 101 hf dX7_answerComes_79 (by decide) (fun hf => ?_) (fun hf => ?_)
        · refine kx_iinc (v := (v11 + 1)) K [(2, .int (v11 + 1)), (0, .ref a0), (1, .int a1)] dX7_answerComes_101 2 rfl rfl (by decide) rfl ?_
          refine kx_goto K 51 dX7_answerComes_104 (by decide) ?_
          refine kx_sub [(0, .ref a0), (1, .int a1), (2, .int (v11 + 1))] [1, 2, 0] rfl ?_
          exact ih51 _ _ hf
        · refine kx_aload_n K dX7_answerComes_82 rfl 0 rfl ?_
          refine kx_dup K dX7_answerComes_83 rfl ?_
          refine kx_gi K f_X7_229 dX7_answerComes_84 hf (fun x19 hf => ?_)
          refine kx_iload_n K dX7_answerComes_87 rfl 2 rfl ?_
          refine kx_iadd K dX7_answerComes_88 ?_
          refine kx_pi K f_X7_229 dX7_answerComes_89 hf (fun σ20 hf => ?_)
          refine kx_aload_n K dX7_answerComes_92 rfl 0 rfl ?_
          refine kx_aload_n K dX7_answerComes_93 rfl 0 rfl ?_
          refine kx_gi K f_X7_207 dX7_answerComes_94 hf (fun x21 hf => ?_)
          refine kx_pi K f_X7_232 dX7_answerComes_97 hf (fun σ22 hf => ?_)
          exact kx_vret K hQ (by decide) (by decide) (fun _ h => h) dX7_answerComes_100 hf
  unfold m_X7_answerComes at hf
  refine kx_aload_n K dX7_answerComes_0 rfl 0 rfl ?_
  refine kx_gr K f_X7_24 dX7_answerComes_1 hf (fun x1 hf => ?_)
  refine kx_iconst (v := 0) K dX7_answerComes_4 (by decide) ?_
  refine kx_ai K dX7_answerComes_5 hf (fun x2 hf => ?_)
  refine kx_iconst (v := 1) K dX7_answerComes_6 (by decide) ?_
  refine kx_icmp_ne K 49 hf dX7_answerComes_7 (by decide) (fun hf => ?_) (fun hf => ?_)
  · refine kx_iconst (v := 1) K dX7_answerComes_49 (by decide) ?_
    refine kx_istore_n K [(2, .int (1 : Int32)), (0, .ref a0), (1, .int a1)] dX7_answerComes_50 rfl (by decide) rfl ?_
    refine kx_sub [(0, .ref a0), (1, .int a1), (2, .int (1 : Int32))] [1, 2, 0] rfl ?_
    exact B51 hN_f _ _ hf
  · refine kx_aload_n K dX7_answerComes_10 rfl 0 rfl ?_
    refine kx_gi K f_X7_229 dX7_answerComes_11 hf (fun x3 hf => ?_)
    refine kx_aload_n K dX7_answerComes_14 rfl 0 rfl ?_
    refine kx_gr K f_X7_24 dX7_answerComes_15 hf (fun x4 hf => ?_)
    refine kx_iconst (v := 1) K dX7_answerComes_18 (by decide) ?_
    refine kx_ai K dX7_answerComes_19 hf (fun x5 hf => ?_)
    refine kx_icmp_ge K 48 hf dX7_answerComes_20 (by decide) (fun hf => ?_) (fun hf => ?_)
    · exact kx_vret K hQ (by decide) (by decide) (fun _ h => h) dX7_answerComes_48 hf
    · refine kx_iload_n K dX7_answerComes_23 rfl 1 rfl ?_
      refine kx_aload_n K dX7_answerComes_24 rfl 0 rfl ?_
      refine kx_gi K f_X7_229 dX7_answerComes_25 hf (fun x6 hf => ?_)
      refine kx_iconst (v := 2) K dX7_answerComes_28 (by decide) ?_
      refine kx_irem K dX7_answerComes_29 hf (fun x7 hf => ?_)
      refine kx_icmp_ne K 48 hf dX7_answerComes_30 (by decide) (fun hf => ?_) (fun hf => ?_)
      · exact kx_vret K hQ (by decide) (by decide) (fun _ h => h) dX7_answerComes_48 hf
      · refine kx_aload_n K dX7_answerComes_33 rfl 0 rfl ?_
        refine kx_dup K dX7_answerComes_34 rfl ?_
        refine kx_gi K f_X7_229 dX7_answerComes_35 hf (fun x8 hf => ?_)
        refine kx_iconst (v := 1) K dX7_answerComes_38 (by decide) ?_
        refine kx_iadd K dX7_answerComes_39 ?_
        refine kx_pi K f_X7_229 dX7_answerComes_40 hf (fun σ9 hf => ?_)
        refine kx_aload_n K dX7_answerComes_43 rfl 0 rfl ?_
        refine kx_iconst (v := -1) K dX7_answerComes_44 (by decide) ?_
        refine kx_pi K f_X7_232 dX7_answerComes_45 hf (fun σ10 hf => ?_)
        exact kx_vret K hQ (by decide) (by decide) (fun _ h => h) dX7_answerComes_48 hf
def m_X7_senderGoes_j154  (a0 : Nat) (σ35 : ac_H) : Option (Unit × ac_H) :=
  mo_gi σ35 a0 7 30 fun x36 =>
  mo_gi σ35 a0 7 29 fun x37 =>
  mo_gr σ35 a0 7 14 fun x38 =>
  mo_ai σ35 x38 0 (5 : Int32) fun x39 =>
  if x36 < (x37 + x39) then
  (mo_gi σ35 a0 7 30 fun x40 =>
  mo_gr σ35 a0 7 14 fun x41 =>
  mo_ai σ35 x41 0 (1 : Int32) fun x42 =>
  if x40 < x42 then
  (mo_gi σ35 a0 7 30 fun x43 =>
  mo_cv σ35 a0 7 (m_X7_sends σ35 a0 (0 : Int32) x43) fun _ σ44 =>
  mo_gi σ44 a0 7 29 fun x45 =>
  mo_gi σ44 a0 7 30 fun x46 =>
  if x45 = x46 then
  (mo_gi σ44 a0 7 26 fun x51 =>
  mo_pv σ44 a0 7 31 (.int x51) fun σ52 =>
  mo_gi σ52 a0 7 30 fun x53 =>
  mo_pv σ52 a0 7 30 (.int (x53 + (1 : Int32))) fun σ54 =>
  some ((), σ54))
  else
  (mo_gi σ44 a0 7 31 fun x47 =>
  mo_pv σ44 a0 7 31 (.int x47) fun σ48 =>
  mo_gi σ48 a0 7 30 fun x49 =>
  mo_pv σ48 a0 7 30 (.int (x49 + (1 : Int32))) fun σ50 =>
  some ((), σ50)))
  else
  (some ((), σ35)))
  else
  (some ((), σ35))
def m_X7_senderGoes_j91  (a0 : Nat) (σ30 : ac_H) : Option (Unit × ac_H) :=
  mo_gi σ30 a0 7 29 fun x31 =>
  mo_cv σ30 a0 7 (m_X7_sends σ30 a0 (0 : Int32) x31) fun _ σ32 =>
  mo_gi σ32 a0 7 26 fun x33 =>
  mo_pv σ32 a0 7 31 (.int x33) fun σ34 =>
  some ((), σ34)
def m_X7_senderGoes (σ : ac_H) (a0 : Nat) : Option (Unit × ac_H) :=
  mo_gr σ a0 7 14 fun x1 =>
  mo_ai σ x1 0 (0 : Int32) fun x2 =>
  if x2 = 0 then
  (mo_gi σ a0 7 29 fun x23 =>
  mo_gr σ a0 7 14 fun x24 =>
  mo_ai σ x24 0 (1 : Int32) fun x25 =>
  if x23 < x25 then
  (mo_gi σ a0 7 29 fun x26 =>
  mo_cv σ a0 7 (m_X7_sends σ a0 (0 : Int32) x26) fun _ σ27 =>
  mo_gi σ27 a0 7 29 fun x28 =>
  mo_pv σ27 a0 7 29 (.int (x28 + (1 : Int32))) fun σ29 =>
  some ((), σ29))
  else
  (some ((), σ)))
  else
  (mo_gr σ a0 7 14 fun x3 =>
  mo_ai σ x3 0 (0 : Int32) fun x4 =>
  if x4 = (1 : Int32) then
  (mo_gi σ a0 7 29 fun x15 =>
  mo_gr σ a0 7 14 fun x16 =>
  mo_ai σ x16 0 (1 : Int32) fun x17 =>
  if x15 < x17 then
  (mo_gi σ a0 7 31 fun x18 =>
  if x18 = (-1 : Int32) then
  (m_X7_senderGoes_j91 a0 σ)
  else
  (mo_gi σ a0 7 26 fun x19 =>
  mo_gi σ a0 7 31 fun x20 =>
  mo_gr σ a0 7 14 fun x21 =>
  mo_ai σ x21 0 (4 : Int32) fun x22 =>
  if (x19 - x20) < x22 then
  (some ((), σ))
  else
  (m_X7_senderGoes_j91 a0 σ)))
  else
  (some ((), σ)))
  else
  (mo_gi σ a0 7 29 fun x5 =>
  mo_gi σ a0 7 30 fun x6 =>
  if x5 < x6 then
  (mo_gi σ a0 7 26 fun x7 =>
  mo_gi σ a0 7 31 fun x8 =>
  mo_gr σ a0 7 14 fun x9 =>
  mo_ai σ x9 0 (4 : Int32) fun x10 =>
  if (x7 - x8) < x10 then
  (m_X7_senderGoes_j154 a0 σ)
  else
  (mo_gi σ a0 7 26 fun x11 =>
  mo_pv σ a0 7 31 (.int x11) fun σ12 =>
  mo_gi σ12 a0 7 29 fun x13 =>
  mo_pv σ12 a0 7 30 (.int x13) fun σ14 =>
  m_X7_senderGoes_j154 a0 σ14))
  else
  (m_X7_senderGoes_j154 a0 σ)))
set_option maxRecDepth 100000 in
set_option maxHeartbeats 4000000 in
theorem k_X7_senderGoes {Λ : ex_L} {q : Nat} {σ σ' : ac_H} {a0 : Nat} {v : Unit} (hf : m_X7_senderGoes σ a0 = some (v, σ')) : kx_C Λ yX7_senderGoes (.code yX7_senderGoes cX7_senderGoes 1 none) ({ frames := 3, cells := 0, slots := 0, locals := 69 } : Room) [.ref a0] q σ (.inr none) σ' (fun z => z = q) := by
  refine kx_in (by decide +kernel) (Nat.le_of_ble_eq_true rfl) ?_
  intro Γ K hnm hsz hQ
  refine kx_lv (lv' := [(0, .ref a0)]) rfl ?_
  have B154 : ∀ (σ35 : ac_H), m_X7_senderGoes_j154 a0 σ35 = some (v, σ') → kx_S Λ Γ 1 (fun z => z = q) σ35 (0) (0) 154 [(0, .ref a0)] [] := by
    intro σ35 hf
    unfold m_X7_senderGoes_j154 at hf
    refine kx_aload_n K dX7_senderGoes_154 rfl 0 rfl ?_
    refine kx_gi K f_X7_235 dX7_senderGoes_155 hf (fun x36 hf => ?_)
    refine kx_aload_n K dX7_senderGoes_158 rfl 0 rfl ?_
    refine kx_gi K f_X7_229 dX7_senderGoes_159 hf (fun x37 hf => ?_)
    refine kx_aload_n K dX7_senderGoes_162 rfl 0 rfl ?_
    refine kx_gr K f_X7_24 dX7_senderGoes_163 hf (fun x38 hf => ?_)
    refine kx_iconst (v := 5) K dX7_senderGoes_166 (by decide) ?_
    refine kx_ai K dX7_senderGoes_167 hf (fun x39 hf => ?_)
    refine kx_iadd K dX7_senderGoes_168 ?_
    refine kx_icmp_ge K 230 hf dX7_senderGoes_169 (by decide) (fun hf => ?_) (fun hf => ?_)
    · exact kx_vret K hQ (by decide) (by decide) (fun _ h => h) dX7_senderGoes_230 hf
    · refine kx_aload_n K dX7_senderGoes_172 rfl 0 rfl ?_
      refine kx_gi K f_X7_235 dX7_senderGoes_173 hf (fun x40 hf => ?_)
      refine kx_aload_n K dX7_senderGoes_176 rfl 0 rfl ?_
      refine kx_gr K f_X7_24 dX7_senderGoes_177 hf (fun x41 hf => ?_)
      refine kx_iconst (v := 1) K dX7_senderGoes_180 (by decide) ?_
      refine kx_ai K dX7_senderGoes_181 hf (fun x42 hf => ?_)
      refine kx_icmp_ge K 230 hf dX7_senderGoes_182 (by decide) (fun hf => ?_) (fun hf => ?_)
      · exact kx_vret K hQ (by decide) (by decide) (fun _ h => h) dX7_senderGoes_230 hf
      · refine kx_aload_n K dX7_senderGoes_185 rfl 0 rfl ?_
        refine kx_iconst (v := 0) K dX7_senderGoes_186 (by decide) ?_
        refine kx_aload_n K dX7_senderGoes_187 rfl 0 rfl ?_
        refine kx_gi K f_X7_235 dX7_senderGoes_188 hf (fun x43 hf => ?_)
        refine kx_cv2v K c_X7_225 (by decide) (Nat.le_of_ble_eq_true rfl) dX7_senderGoes_191 hf (fun _ _ _ h => k_X7_sends h) (fun _ σ44 hf => ?_)
        refine kx_aload_n K dX7_senderGoes_194 rfl 0 rfl ?_
        refine kx_aload_n K dX7_senderGoes_195 rfl 0 rfl ?_
        refine kx_gi K f_X7_229 dX7_senderGoes_196 hf (fun x45 hf => ?_)
        refine kx_aload_n K dX7_senderGoes_199 rfl 0 rfl ?_
        refine kx_gi K f_X7_235 dX7_senderGoes_200 hf (fun x46 hf => ?_)
        refine kx_icmp_ne K 213 hf dX7_senderGoes_203 (by decide) (fun hf => ?_) (fun hf => ?_)
        · refine kx_aload_n K dX7_senderGoes_213 rfl 0 rfl ?_
          refine kx_gi K f_X7_232 dX7_senderGoes_214 hf (fun x47 hf => ?_)
          refine kx_pi K f_X7_232 dX7_senderGoes_217 hf (fun σ48 hf => ?_)
          refine kx_aload_n K dX7_senderGoes_220 rfl 0 rfl ?_
          refine kx_dup K dX7_senderGoes_221 rfl ?_
          refine kx_gi K f_X7_235 dX7_senderGoes_222 hf (fun x49 hf => ?_)
          refine kx_iconst (v := 1) K dX7_senderGoes_225 (by decide) ?_
          refine kx_iadd K dX7_senderGoes_226 ?_
          refine kx_pi K f_X7_235 dX7_senderGoes_227 hf (fun σ50 hf => ?_)
          exact kx_vret K hQ (by decide) (by decide) (fun _ h => h) dX7_senderGoes_230 hf
        · refine kx_aload_n K dX7_senderGoes_206 rfl 0 rfl ?_
          refine kx_gi K f_X7_207 dX7_senderGoes_207 hf (fun x51 hf => ?_)
          refine kx_goto K 217 dX7_senderGoes_210 (by decide) ?_
          refine kx_pi K f_X7_232 dX7_senderGoes_217 hf (fun σ52 hf => ?_)
          refine kx_aload_n K dX7_senderGoes_220 rfl 0 rfl ?_
          refine kx_dup K dX7_senderGoes_221 rfl ?_
          refine kx_gi K f_X7_235 dX7_senderGoes_222 hf (fun x53 hf => ?_)
          refine kx_iconst (v := 1) K dX7_senderGoes_225 (by decide) ?_
          refine kx_iadd K dX7_senderGoes_226 ?_
          refine kx_pi K f_X7_235 dX7_senderGoes_227 hf (fun σ54 hf => ?_)
          exact kx_vret K hQ (by decide) (by decide) (fun _ h => h) dX7_senderGoes_230 hf
  have B91 : ∀ (σ30 : ac_H), m_X7_senderGoes_j91 a0 σ30 = some (v, σ') → kx_S Λ Γ 1 (fun z => z = q) σ30 (0) (0) 91 [(0, .ref a0)] [] := by
    intro σ30 hf
    unfold m_X7_senderGoes_j91 at hf
    refine kx_aload_n K dX7_senderGoes_91 rfl 0 rfl ?_
    refine kx_iconst (v := 0) K dX7_senderGoes_92 (by decide) ?_
    refine kx_aload_n K dX7_senderGoes_93 rfl 0 rfl ?_
    refine kx_gi K f_X7_229 dX7_senderGoes_94 hf (fun x31 hf => ?_)
    refine kx_cv2v K c_X7_225 (by decide) (Nat.le_of_ble_eq_true rfl) dX7_senderGoes_97 hf (fun _ _ _ h => k_X7_sends h) (fun _ σ32 hf => ?_)
    refine kx_aload_n K dX7_senderGoes_100 rfl 0 rfl ?_
    refine kx_aload_n K dX7_senderGoes_101 rfl 0 rfl ?_
    refine kx_gi K f_X7_207 dX7_senderGoes_102 hf (fun x33 hf => ?_)
    refine kx_pi K f_X7_232 dX7_senderGoes_105 hf (fun σ34 hf => ?_)
    exact kx_vret K hQ (by decide) (by decide) (fun _ h => h) dX7_senderGoes_108 hf
  unfold m_X7_senderGoes at hf
  refine kx_aload_n K dX7_senderGoes_0 rfl 0 rfl ?_
  refine kx_gr K f_X7_24 dX7_senderGoes_1 hf (fun x1 hf => ?_)
  refine kx_iconst (v := 0) K dX7_senderGoes_4 (by decide) ?_
  refine kx_ai K dX7_senderGoes_5 hf (fun x2 hf => ?_)
  refine kx_if_ne K 42 hf dX7_senderGoes_6 (by decide) (fun hf => ?_) (fun hf => ?_)
  · refine kx_aload_n K dX7_senderGoes_42 rfl 0 rfl ?_
    refine kx_gr K f_X7_24 dX7_senderGoes_43 hf (fun x3 hf => ?_)
    refine kx_iconst (v := 0) K dX7_senderGoes_46 (by decide) ?_
    refine kx_ai K dX7_senderGoes_47 hf (fun x4 hf => ?_)
    refine kx_iconst (v := 1) K dX7_senderGoes_48 (by decide) ?_
    refine kx_icmp_ne K 109 hf dX7_senderGoes_49 (by decide) (fun hf => ?_) (fun hf => ?_)
    · refine kx_aload_n K dX7_senderGoes_109 rfl 0 rfl ?_
      refine kx_gi K f_X7_229 dX7_senderGoes_110 hf (fun x5 hf => ?_)
      refine kx_aload_n K dX7_senderGoes_113 rfl 0 rfl ?_
      refine kx_gi K f_X7_235 dX7_senderGoes_114 hf (fun x6 hf => ?_)
      refine kx_icmp_ge K 154 hf dX7_senderGoes_117 (by decide) (fun hf => ?_) (fun hf => ?_)
      · refine kx_sub [(0, .ref a0)] [0] rfl ?_
        exact B154 _ hf
      · refine kx_aload_n K dX7_senderGoes_120 rfl 0 rfl ?_
        refine kx_gi K f_X7_207 dX7_senderGoes_121 hf (fun x7 hf => ?_)
        refine kx_aload_n K dX7_senderGoes_124 rfl 0 rfl ?_
        refine kx_gi K f_X7_232 dX7_senderGoes_125 hf (fun x8 hf => ?_)
        refine kx_isub K dX7_senderGoes_128 ?_
        refine kx_aload_n K dX7_senderGoes_129 rfl 0 rfl ?_
        refine kx_gr K f_X7_24 dX7_senderGoes_130 hf (fun x9 hf => ?_)
        refine kx_iconst (v := 4) K dX7_senderGoes_133 (by decide) ?_
        refine kx_ai K dX7_senderGoes_134 hf (fun x10 hf => ?_)
        refine kx_icmp_lt K 154 hf dX7_senderGoes_135 (by decide) (fun hf => ?_) (fun hf => ?_)
        · refine kx_sub [(0, .ref a0)] [0] rfl ?_
          exact B154 _ hf
        · refine kx_aload_n K dX7_senderGoes_138 rfl 0 rfl ?_
          refine kx_aload_n K dX7_senderGoes_139 rfl 0 rfl ?_
          refine kx_gi K f_X7_207 dX7_senderGoes_140 hf (fun x11 hf => ?_)
          refine kx_pi K f_X7_232 dX7_senderGoes_143 hf (fun σ12 hf => ?_)
          refine kx_aload_n K dX7_senderGoes_146 rfl 0 rfl ?_
          refine kx_aload_n K dX7_senderGoes_147 rfl 0 rfl ?_
          refine kx_gi K f_X7_229 dX7_senderGoes_148 hf (fun x13 hf => ?_)
          refine kx_pi K f_X7_235 dX7_senderGoes_151 hf (fun σ14 hf => ?_)
          refine kx_sub [(0, .ref a0)] [0] rfl ?_
          exact B154 _ hf
    · refine kx_aload_n K dX7_senderGoes_52 rfl 0 rfl ?_
      refine kx_gi K f_X7_229 dX7_senderGoes_53 hf (fun x15 hf => ?_)
      refine kx_aload_n K dX7_senderGoes_56 rfl 0 rfl ?_
      refine kx_gr K f_X7_24 dX7_senderGoes_57 hf (fun x16 hf => ?_)
      refine kx_iconst (v := 1) K dX7_senderGoes_60 (by decide) ?_
      refine kx_ai K dX7_senderGoes_61 hf (fun x17 hf => ?_)
      refine kx_icmp_ge K 108 hf dX7_senderGoes_62 (by decide) (fun hf => ?_) (fun hf => ?_)
      · exact kx_vret K hQ (by decide) (by decide) (fun _ h => h) dX7_senderGoes_108 hf
      · refine kx_aload_n K dX7_senderGoes_65 rfl 0 rfl ?_
        refine kx_gi K f_X7_232 dX7_senderGoes_66 hf (fun x18 hf => ?_)
        refine kx_iconst (v := -1) K dX7_senderGoes_69 (by decide) ?_
        refine kx_icmp_eq K 91 hf dX7_senderGoes_70 (by decide) (fun hf => ?_) (fun hf => ?_)
        · refine kx_sub [(0, .ref a0)] [0] rfl ?_
          exact B91 _ hf
        · refine kx_aload_n K dX7_senderGoes_73 rfl 0 rfl ?_
          refine kx_gi K f_X7_207 dX7_senderGoes_74 hf (fun x19 hf => ?_)
          refine kx_aload_n K dX7_senderGoes_77 rfl 0 rfl ?_
          refine kx_gi K f_X7_232 dX7_senderGoes_78 hf (fun x20 hf => ?_)
          refine kx_isub K dX7_senderGoes_81 ?_
          refine kx_aload_n K dX7_senderGoes_82 rfl 0 rfl ?_
          refine kx_gr K f_X7_24 dX7_senderGoes_83 hf (fun x21 hf => ?_)
          refine kx_iconst (v := 4) K dX7_senderGoes_86 (by decide) ?_
          refine kx_ai K dX7_senderGoes_87 hf (fun x22 hf => ?_)
          refine kx_icmp_lt K 108 hf dX7_senderGoes_88 (by decide) (fun hf => ?_) (fun hf => ?_)
          · exact kx_vret K hQ (by decide) (by decide) (fun _ h => h) dX7_senderGoes_108 hf
          · refine kx_sub [(0, .ref a0)] [0] rfl ?_
            exact B91 _ hf
  · refine kx_aload_n K dX7_senderGoes_9 rfl 0 rfl ?_
    refine kx_gi K f_X7_229 dX7_senderGoes_10 hf (fun x23 hf => ?_)
    refine kx_aload_n K dX7_senderGoes_13 rfl 0 rfl ?_
    refine kx_gr K f_X7_24 dX7_senderGoes_14 hf (fun x24 hf => ?_)
    refine kx_iconst (v := 1) K dX7_senderGoes_17 (by decide) ?_
    refine kx_ai K dX7_senderGoes_18 hf (fun x25 hf => ?_)
    refine kx_icmp_ge K 41 hf dX7_senderGoes_19 (by decide) (fun hf => ?_) (fun hf => ?_)
    · exact kx_vret K hQ (by decide) (by decide) (fun _ h => h) dX7_senderGoes_41 hf
    · refine kx_aload_n K dX7_senderGoes_22 rfl 0 rfl ?_
      refine kx_iconst (v := 0) K dX7_senderGoes_23 (by decide) ?_
      refine kx_aload_n K dX7_senderGoes_24 rfl 0 rfl ?_
      refine kx_gi K f_X7_229 dX7_senderGoes_25 hf (fun x26 hf => ?_)
      refine kx_cv2v K c_X7_225 (by decide) (Nat.le_of_ble_eq_true rfl) dX7_senderGoes_28 hf (fun _ _ _ h => k_X7_sends h) (fun _ σ27 hf => ?_)
      refine kx_aload_n K dX7_senderGoes_31 rfl 0 rfl ?_
      refine kx_dup K dX7_senderGoes_32 rfl ?_
      refine kx_gi K f_X7_229 dX7_senderGoes_33 hf (fun x28 hf => ?_)
      refine kx_iconst (v := 1) K dX7_senderGoes_36 (by decide) ?_
      refine kx_iadd K dX7_senderGoes_37 ?_
      refine kx_pi K f_X7_229 dX7_senderGoes_38 hf (fun σ29 hf => ?_)
      exact kx_vret K hQ (by decide) (by decide) (fun _ h => h) dX7_senderGoes_41 hf
def m_X7_isQuiet_l21  (a0 : Nat) : Nat → ac_H → Int32 → Int32 → Option (Int32 × ac_H)
  | 0, _, _, _ => none
  | n + 1, σ6, v4, v5 =>
    mo_gi σ6 a0 7 21 fun x7 =>
    if v5 < x7 then
    (if v4 = 0 then
    (m_X7_isQuiet_l21 a0 n σ6 (0 : Int32) (v5 + 1))
    else
    (mo_gr σ6 a0 7 19 fun x8 =>
    mo_ai σ6 x8 0 v5 fun x9 =>
    mo_gi σ6 a0 7 26 fun x10 =>
    if x10 < x9 then
    (m_X7_isQuiet_l21 a0 n σ6 (0 : Int32) (v5 + 1))
    else
    (mo_gr σ6 a0 7 20 fun x11 =>
    mo_ai σ6 x11 0 v5 fun x12 =>
    mo_gi σ6 a0 7 26 fun x13 =>
    if x13 < x12 then
    (m_X7_isQuiet_l21 a0 n σ6 (0 : Int32) (v5 + 1))
    else
    (m_X7_isQuiet_l21 a0 n σ6 (1 : Int32) (v5 + 1)))))
    else
    (mo_z v4 (some (v4, σ6)))
def m_X7_isQuiet (σ : ac_H) (a0 : Nat) : Option (Int32 × ac_H) :=
  mo_gi σ a0 7 29 fun x1 =>
  mo_gr σ a0 7 14 fun x2 =>
  mo_ai σ x2 0 (1 : Int32) fun x3 =>
  if x1 = x3 then
  (m_X7_isQuiet_l21 a0 hN_f σ (1 : Int32) (0 : Int32))
  else
  (m_X7_isQuiet_l21 a0 hN_f σ (0 : Int32) (0 : Int32))
set_option maxRecDepth 100000 in
set_option maxHeartbeats 4000000 in
theorem k_X7_isQuiet {Λ : ex_L} {q : Nat} {σ σ' : ac_H} {a0 : Nat} {v : Int32} (hf : m_X7_isQuiet σ a0 = some (v, σ')) : kx_C Λ yX7_isQuiet (.code yX7_isQuiet cX7_isQuiet 3 (some .boolean)) ({ frames := 0, cells := 0, slots := 0, locals := 0 } : Room) [.ref a0] q σ (.inr (some (.int v))) σ' (fun z => z = q) := by
  refine kx_in (by decide +kernel) (Nat.le_of_ble_eq_true rfl) ?_
  intro Γ K hnm hsz hQ
  refine kx_lv (lv' := [(0, .ref a0)]) rfl ?_
  have B21 : ∀ (n21 : Nat) (σ6 : ac_H) (v4 : Int32) (v5 : Int32), m_X7_isQuiet_l21 a0 n21 σ6 v4 v5 = some (v, σ') → kx_S Λ Γ 3 (fun z => z = q) σ6 (0) (0) 21 [(0, .ref a0), (1, .int v4), (2, .int v5)] [] := by
    intro n21
    induction n21 with
    | zero =>
      intro σ6 v4 v5 hf
      rw [m_X7_isQuiet_l21] at hf
      cases hf
    | succ n21 ih21 =>
      intro σ6 v4 v5 hf
      rw [m_X7_isQuiet_l21] at hf
      refine kx_iload_n K dX7_isQuiet_21 rfl 2 rfl ?_
      refine kx_aload_n K dX7_isQuiet_22 rfl 0 rfl ?_
      refine kx_gi K f_X7_204 dX7_isQuiet_23 hf (fun x7 hf => ?_)
      refine kx_icmp_ge K 71 hf dX7_isQuiet_26 (by decide) (fun hf => ?_) (fun hf => ?_)
      · refine kx_iload_n K dX7_isQuiet_71 rfl 1 rfl ?_
        exact kx_zret K hQ (by decide) (by decide) (fun _ h => h) dX7_isQuiet_72 hf
      · refine kx_iload_n K dX7_isQuiet_29 rfl 1 rfl ?_
        refine kx_if_eq K 63 hf dX7_isQuiet_30 (by decide) (fun hf => ?_) (fun hf => ?_)
        · refine kx_iconst (v := 0) K dX7_isQuiet_63 (by decide) ?_
          refine kx_istore_n K [(1, .int (0 : Int32)), (0, .ref a0), (2, .int v5)] dX7_isQuiet_64 rfl (by decide) rfl ?_
          refine kx_iinc (v := (v5 + 1)) K [(2, .int (v5 + 1)), (1, .int (0 : Int32)), (0, .ref a0)] dX7_isQuiet_65 2 rfl rfl (by decide) rfl ?_
          refine kx_goto K 21 dX7_isQuiet_68 (by decide) ?_
          refine kx_sub [(0, .ref a0), (1, .int (0 : Int32)), (2, .int (v5 + 1))] [2, 1, 0] rfl ?_
          exact ih21 _ _ _ hf
        · refine kx_aload_n K dX7_isQuiet_33 rfl 0 rfl ?_
          refine kx_gr K f_X7_39 dX7_isQuiet_34 hf (fun x8 hf => ?_)
          refine kx_iload_n K dX7_isQuiet_37 rfl 2 rfl ?_
          refine kx_ai K dX7_isQuiet_38 hf (fun x9 hf => ?_)
          refine kx_aload_n K dX7_isQuiet_39 rfl 0 rfl ?_
          refine kx_gi K f_X7_207 dX7_isQuiet_40 hf (fun x10 hf => ?_)
          refine kx_icmp_gt K 63 hf dX7_isQuiet_43 (by decide) (fun hf => ?_) (fun hf => ?_)
          · refine kx_iconst (v := 0) K dX7_isQuiet_63 (by decide) ?_
            refine kx_istore_n K [(1, .int (0 : Int32)), (0, .ref a0), (2, .int v5)] dX7_isQuiet_64 rfl (by decide) rfl ?_
            refine kx_iinc (v := (v5 + 1)) K [(2, .int (v5 + 1)), (1, .int (0 : Int32)), (0, .ref a0)] dX7_isQuiet_65 2 rfl rfl (by decide) rfl ?_
            refine kx_goto K 21 dX7_isQuiet_68 (by decide) ?_
            refine kx_sub [(0, .ref a0), (1, .int (0 : Int32)), (2, .int (v5 + 1))] [2, 1, 0] rfl ?_
            exact ih21 _ _ _ hf
          · refine kx_aload_n K dX7_isQuiet_46 rfl 0 rfl ?_
            refine kx_gr K f_X7_42 dX7_isQuiet_47 hf (fun x11 hf => ?_)
            refine kx_iload_n K dX7_isQuiet_50 rfl 2 rfl ?_
            refine kx_ai K dX7_isQuiet_51 hf (fun x12 hf => ?_)
            refine kx_aload_n K dX7_isQuiet_52 rfl 0 rfl ?_
            refine kx_gi K f_X7_207 dX7_isQuiet_53 hf (fun x13 hf => ?_)
            refine kx_icmp_gt K 63 hf dX7_isQuiet_56 (by decide) (fun hf => ?_) (fun hf => ?_)
            · refine kx_iconst (v := 0) K dX7_isQuiet_63 (by decide) ?_
              refine kx_istore_n K [(1, .int (0 : Int32)), (0, .ref a0), (2, .int v5)] dX7_isQuiet_64 rfl (by decide) rfl ?_
              refine kx_iinc (v := (v5 + 1)) K [(2, .int (v5 + 1)), (1, .int (0 : Int32)), (0, .ref a0)] dX7_isQuiet_65 2 rfl rfl (by decide) rfl ?_
              refine kx_goto K 21 dX7_isQuiet_68 (by decide) ?_
              refine kx_sub [(0, .ref a0), (1, .int (0 : Int32)), (2, .int (v5 + 1))] [2, 1, 0] rfl ?_
              exact ih21 _ _ _ hf
            · refine kx_iconst (v := 1) K dX7_isQuiet_59 (by decide) ?_
              refine kx_goto K 64 dX7_isQuiet_60 (by decide) ?_
              refine kx_istore_n K [(1, .int (1 : Int32)), (0, .ref a0), (2, .int v5)] dX7_isQuiet_64 rfl (by decide) rfl ?_
              refine kx_iinc (v := (v5 + 1)) K [(2, .int (v5 + 1)), (1, .int (1 : Int32)), (0, .ref a0)] dX7_isQuiet_65 2 rfl rfl (by decide) rfl ?_
              refine kx_goto K 21 dX7_isQuiet_68 (by decide) ?_
              refine kx_sub [(0, .ref a0), (1, .int (1 : Int32)), (2, .int (v5 + 1))] [2, 1, 0] rfl ?_
              exact ih21 _ _ _ hf
  unfold m_X7_isQuiet at hf
  refine kx_aload_n K dX7_isQuiet_0 rfl 0 rfl ?_
  refine kx_gi K f_X7_229 dX7_isQuiet_1 hf (fun x1 hf => ?_)
  refine kx_aload_n K dX7_isQuiet_4 rfl 0 rfl ?_
  refine kx_gr K f_X7_24 dX7_isQuiet_5 hf (fun x2 hf => ?_)
  refine kx_iconst (v := 1) K dX7_isQuiet_8 (by decide) ?_
  refine kx_ai K dX7_isQuiet_9 hf (fun x3 hf => ?_)
  refine kx_icmp_ne K 17 hf dX7_isQuiet_10 (by decide) (fun hf => ?_) (fun hf => ?_)
  · refine kx_iconst (v := 0) K dX7_isQuiet_17 (by decide) ?_
    refine kx_istore_n K [(1, .int (0 : Int32)), (0, .ref a0)] dX7_isQuiet_18 rfl (by decide) rfl ?_
    refine kx_iconst (v := 0) K dX7_isQuiet_19 (by decide) ?_
    refine kx_istore_n K [(2, .int (0 : Int32)), (1, .int (0 : Int32)), (0, .ref a0)] dX7_isQuiet_20 rfl (by decide) rfl ?_
    refine kx_sub [(0, .ref a0), (1, .int (0 : Int32)), (2, .int (0 : Int32))] [2, 1, 0] rfl ?_
    exact B21 hN_f _ _ _ hf
  · refine kx_iconst (v := 1) K dX7_isQuiet_13 (by decide) ?_
    refine kx_goto K 18 dX7_isQuiet_14 (by decide) ?_
    refine kx_istore_n K [(1, .int (1 : Int32)), (0, .ref a0)] dX7_isQuiet_18 rfl (by decide) rfl ?_
    refine kx_iconst (v := 0) K dX7_isQuiet_19 (by decide) ?_
    refine kx_istore_n K [(2, .int (0 : Int32)), (1, .int (1 : Int32)), (0, .ref a0)] dX7_isQuiet_20 rfl (by decide) rfl ?_
    refine kx_sub [(0, .ref a0), (1, .int (1 : Int32)), (2, .int (0 : Int32))] [2, 1, 0] rfl ?_
    exact B21 hN_f _ _ _ hf
def m_X7_handles (σ : ac_H) (a0 : Nat) (a1 : Int32) : Option (Unit × ac_H) :=
  mo_gr σ a0 7 17 fun x1 =>
  mo_ai σ x1 0 a1 fun x2 =>
  if x2 = 0 then
  (mo_gr σ a0 7 18 fun x6 =>
  mo_ai σ x6 0 a1 fun x7 =>
  mo_cv σ a0 7 (m_X7_dataComes σ a0 x7) fun _ σ8 =>
  some ((), σ8))
  else
  (mo_gr σ a0 7 18 fun x3 =>
  mo_ai σ x3 0 a1 fun x4 =>
  mo_cv σ a0 7 (m_X7_answerComes σ a0 x4) fun _ σ5 =>
  some ((), σ5))
set_option maxRecDepth 100000 in
set_option maxHeartbeats 4000000 in
theorem k_X7_handles {Λ : ex_L} {q : Nat} {σ σ' : ac_H} {a0 : Nat} {a1 : Int32} {v : Unit} (hf : m_X7_handles σ a0 a1 = some (v, σ')) : kx_C Λ yX7_handles (.code yX7_handles cX7_handles 2 none) ({ frames := 4, cells := 0, slots := 0, locals := 92 } : Room) [.ref a0, .int a1] q σ (.inr none) σ' (fun z => z = q) := by
  refine kx_in (by decide +kernel) (Nat.le_of_ble_eq_true rfl) ?_
  intro Γ K hnm hsz hQ
  refine kx_lv (lv' := [(0, .ref a0), (1, .int a1)]) rfl ?_
  unfold m_X7_handles at hf
  refine kx_aload_n K dX7_handles_0 rfl 0 rfl ?_
  refine kx_gr K f_X7_33 dX7_handles_1 hf (fun x1 hf => ?_)
  refine kx_iload_n K dX7_handles_4 rfl 1 rfl ?_
  refine kx_ai K dX7_handles_5 hf (fun x2 hf => ?_)
  refine kx_if_ne K 22 hf dX7_handles_6 (by decide) (fun hf => ?_) (fun hf => ?_)
  · refine kx_aload_n K dX7_handles_22 rfl 0 rfl ?_
    refine kx_aload_n K dX7_handles_23 rfl 0 rfl ?_
    refine kx_gr K f_X7_36 dX7_handles_24 hf (fun x3 hf => ?_)
    refine kx_iload_n K dX7_handles_27 rfl 1 rfl ?_
    refine kx_ai K dX7_handles_28 hf (fun x4 hf => ?_)
    refine kx_cv1v K c_X7_254 (by decide) (Nat.le_of_ble_eq_true rfl) dX7_handles_29 hf (fun _ _ _ h => k_X7_answerComes h) (fun _ σ5 hf => ?_)
    exact kx_vret K hQ (by decide) (by decide) (fun _ h => h) dX7_handles_32 hf
  · refine kx_aload_n K dX7_handles_9 rfl 0 rfl ?_
    refine kx_aload_n K dX7_handles_10 rfl 0 rfl ?_
    refine kx_gr K f_X7_36 dX7_handles_11 hf (fun x6 hf => ?_)
    refine kx_iload_n K dX7_handles_14 rfl 1 rfl ?_
    refine kx_ai K dX7_handles_15 hf (fun x7 hf => ?_)
    refine kx_cv1v K c_X7_251 (by decide) (Nat.le_of_ble_eq_true rfl) dX7_handles_16 hf (fun _ _ _ h => k_X7_dataComes h) (fun _ σ8 hf => ?_)
    refine kx_goto K 32 dX7_handles_19 (by decide) ?_
    exact kx_vret K hQ (by decide) (by decide) (fun _ h => h) dX7_handles_32 hf
def m_X7_runs_j176 (K77 : ac_H → Option (Unit × ac_H)) (a0 : Nat) (a1 : Nat) (σ40 : ac_H) (w37 : Int32) (w38 : Int32) (w39 : Nat) : Option (Unit × ac_H) :=
  mo_ui σ40 w39 2 (w38 + w37) (vp_nar .boolean (1 : Int32)) fun σ41 =>
  mo_cv σ41 a0 7 (m_X7_isQuiet σ41 a0) fun x43 σ42 =>
  mo_z x43 <| mo_pv σ42 a0 7 27 (.int x43) fun σ44 =>
  mo_gi σ44 a0 7 26 fun x45 =>
  mo_pv σ44 a0 7 26 (.int (x45 + (1 : Int32))) fun σ46 =>
  K77 σ46
def m_X7_runs_l101 (K77 : ac_H → Option (Unit × ac_H)) (a0 : Nat) (a1 : Nat) : Nat → ac_H → Int32 → Int32 → Option (Unit × ac_H)
  | 0, _, _, _ => none
  | n + 1, σ23, v21, v22 =>
    if v22 < v21 then
    (mo_gr σ23 a0 7 19 fun x29 =>
    mo_ai σ23 x29 0 v22 fun x30 =>
    mo_gi σ23 a0 7 26 fun x31 =>
    if x30 = x31 then
    (mo_cv σ23 a0 7 (m_X7_handles σ23 a0 v22) fun _ σ32 =>
    m_X7_runs_l101 K77 a0 a1 n σ32 v21 (v22 + 1))
    else
    (mo_gr σ23 a0 7 20 fun x33 =>
    mo_ai σ23 x33 0 v22 fun x34 =>
    mo_gi σ23 a0 7 26 fun x35 =>
    if x34 = x35 then
    (mo_cv σ23 a0 7 (m_X7_handles σ23 a0 v22) fun _ σ36 =>
    m_X7_runs_l101 K77 a0 a1 n σ36 v21 (v22 + 1))
    else
    (m_X7_runs_l101 K77 a0 a1 n σ23 v21 (v22 + 1))))
    else
    (mo_cv σ23 a0 7 (m_X7_senderGoes σ23 a0) fun _ σ24 =>
    mo_gr σ24 a0 7 28 fun x25 =>
    mo_gi σ24 a0 7 29 fun x26 =>
    mo_gi σ24 a0 7 23 fun x27 =>
    if (15 : Int32) < x27 then
    (m_X7_runs_j176 K77 a0 a1 σ24 (15 : Int32) ((16 : Int32) * x26) x25)
    else
    (mo_gi σ24 a0 7 23 fun x28 =>
    m_X7_runs_j176 K77 a0 a1 σ24 x28 ((16 : Int32) * x26) x25))
def m_X7_runs_l77  (a0 : Nat) (a1 : Nat) : Nat → ac_H → Option (Unit × ac_H)
  | 0, _ => none
  | n + 1, σ16 =>
    mo_gi σ16 a0 7 26 fun x17 =>
    mo_ai σ16 a1 0 (2 : Int32) fun x18 =>
    if x17 < x18 then
    (mo_gi σ16 a0 7 27 fun x19 =>
    if x19 = 0 then
    (mo_gi σ16 a0 7 21 fun x20 =>
    m_X7_runs_l101 (fun ρ => m_X7_runs_l77 a0 a1 n ρ) a0 a1 hN_f σ16 x20 (0 : Int32))
    else
    (some ((), σ16)))
    else
    (some ((), σ16))
def m_X7_runs_l47  (a0 : Nat) (a1 : Nat) : Nat → ac_H → Int32 → Option (Unit × ac_H)
  | 0, _, _ => none
  | n + 1, σ11, v10 =>
    if v10 < (144 : Int32) then
    (mo_gr σ11 a0 7 28 fun x14 =>
    mo_ui σ11 x14 2 v10 (vp_nar .boolean (0 : Int32)) fun σ15 =>
    m_X7_runs_l47 a0 a1 n σ15 (v10 + 1))
    else
    (mo_z (0 : Int32) <| mo_pv σ11 a0 7 27 (.int (0 : Int32)) fun σ12 =>
    mo_pv σ12 a0 7 26 (.int (0 : Int32)) fun σ13 =>
    m_X7_runs_l77 a0 a1 hN_f σ13)
def m_X7_runs (σ : ac_H) (a0 : Nat) (a1 : Nat) : Option (Unit × ac_H) :=
  mo_pv σ a0 7 14 (.ref a1) fun σ1 =>
  mo_pv σ1 a0 7 21 (.int (0 : Int32)) fun σ2 =>
  mo_pv σ2 a0 7 23 (.int (0 : Int32)) fun σ3 =>
  mo_pv σ3 a0 7 24 (.int (0 : Int32)) fun σ4 =>
  mo_pv σ4 a0 7 25 (.int (-1 : Int32)) fun σ5 =>
  mo_pv σ5 a0 7 29 (.int (0 : Int32)) fun σ6 =>
  mo_pv σ6 a0 7 30 (.int (0 : Int32)) fun σ7 =>
  mo_pv σ7 a0 7 31 (.int (-1 : Int32)) fun σ8 =>
  mo_pv σ8 a0 7 32 (.int (0 : Int32)) fun σ9 =>
  m_X7_runs_l47 a0 a1 hN_f σ9 (0 : Int32)
set_option maxRecDepth 100000 in
set_option maxHeartbeats 4000000 in
theorem k_X7_runs {Λ : ex_L} {q : Nat} {σ σ' : ac_H} {a0 : Nat} {a1 : Nat} {v : Unit} (hf : m_X7_runs σ a0 a1 = some (v, σ')) : kx_C Λ yX7_runs (.code yX7_runs cX7_runs 4 none) ({ frames := 5, cells := 0, slots := 0, locals := 113 } : Room) [.ref a0, .ref a1] q σ (.inr none) σ' (fun z => z = q) := by
  refine kx_in (by decide +kernel) (Nat.le_of_ble_eq_true rfl) ?_
  intro Γ K hnm hsz hQ
  refine kx_lv (lv' := [(0, .ref a0), (1, .ref a1)]) rfl ?_
  have B77 : ∀ (n77 : Nat) (σ16 : ac_H), m_X7_runs_l77 a0 a1 n77 σ16 = some (v, σ') → kx_S Λ Γ 4 (fun z => z = q) σ16 (0) (0) 77 [(0, .ref a0), (1, .ref a1)] [] := by
    intro n77
    induction n77 with
    | zero =>
      intro σ16 hf
      rw [m_X7_runs_l77] at hf
      cases hf
    | succ n77 ih77 =>
      have B176 : ∀ (σ40 : ac_H) (w37 : Int32) (w38 : Int32) (w39 : Nat), m_X7_runs_j176 (fun ρ => m_X7_runs_l77 a0 a1 n77 ρ) a0 a1 σ40 w37 w38 w39 = some (v, σ') → kx_S Λ Γ 4 (fun z => z = q) σ40 (0) (0) 176 [(0, .ref a0), (1, .ref a1)] [.int w37, .int w38, .ref w39] := by
        intro σ40 w37 w38 w39 hf
        unfold m_X7_runs_j176 at hf
        refine kx_iadd K dX7_runs_176 ?_
        refine kx_iconst (v := 1) K dX7_runs_177 (by decide) ?_
        refine kx_uz K dX7_runs_178 hf (fun σ41 hf => ?_)
        refine kx_aload_n K dX7_runs_179 rfl 0 rfl ?_
        refine kx_aload_n K dX7_runs_180 rfl 0 rfl ?_
        refine kx_cv0i K c_X7_248 (by decide) (Nat.le_of_ble_eq_true rfl) dX7_runs_181 hf (fun _ _ _ h => k_X7_isQuiet h) (fun x43 σ42 hf => ?_)
        refine kx_pz K f_X7_238 dX7_runs_184 hf (fun σ44 hf => ?_)
        refine kx_aload_n K dX7_runs_187 rfl 0 rfl ?_
        refine kx_dup K dX7_runs_188 rfl ?_
        refine kx_gi K f_X7_207 dX7_runs_189 hf (fun x45 hf => ?_)
        refine kx_iconst (v := 1) K dX7_runs_192 (by decide) ?_
        refine kx_iadd K dX7_runs_193 ?_
        refine kx_pi K f_X7_207 dX7_runs_194 hf (fun σ46 hf => ?_)
        refine kx_goto K 77 dX7_runs_197 (by decide) ?_
        refine kx_sub [(0, .ref a0), (1, .ref a1)] [0, 1] rfl ?_
        exact ih77 _ hf
      have B101 : ∀ (n101 : Nat) (σ23 : ac_H) (v21 : Int32) (v22 : Int32), m_X7_runs_l101 (fun ρ => m_X7_runs_l77 a0 a1 n77 ρ) a0 a1 n101 σ23 v21 v22 = some (v, σ') → kx_S Λ Γ 4 (fun z => z = q) σ23 (0) (0) 101 [(0, .ref a0), (1, .ref a1), (2, .int v21), (3, .int v22)] [] := by
        intro n101
        induction n101 with
        | zero =>
          intro σ23 v21 v22 hf
          rw [m_X7_runs_l101] at hf
          cases hf
        | succ n101 ih101 =>
          intro σ23 v21 v22 hf
          rw [m_X7_runs_l101] at hf
          refine kx_iload_n K dX7_runs_101 rfl 3 rfl ?_
          refine kx_iload_n K dX7_runs_102 rfl 2 rfl ?_
          refine kx_icmp_ge K 143 hf dX7_runs_103 (by decide) (fun hf => ?_) (fun hf => ?_)
          · refine kx_aload_n K dX7_runs_143 rfl 0 rfl ?_
            refine kx_cv0v K c_X7_245 (by decide) (Nat.le_of_ble_eq_true rfl) dX7_runs_144 hf (fun _ _ _ h => k_X7_senderGoes h) (fun _ σ24 hf => ?_)
            refine kx_aload_n K dX7_runs_147 rfl 0 rfl ?_
            refine kx_gr K f_X7_48 dX7_runs_148 hf (fun x25 hf => ?_)
            refine kx_bipush (v := 16) K dX7_runs_151 (by decide) ?_
            refine kx_aload_n K dX7_runs_153 rfl 0 rfl ?_
            refine kx_gi K f_X7_229 dX7_runs_154 hf (fun x26 hf => ?_)
            refine kx_imul K dX7_runs_157 ?_
            refine kx_aload_n K dX7_runs_158 rfl 0 rfl ?_
            refine kx_gi K f_X7_210 dX7_runs_159 hf (fun x27 hf => ?_)
            refine kx_bipush (v := 15) K dX7_runs_162 (by decide) ?_
            refine kx_icmp_le K 172 hf dX7_runs_164 (by decide) (fun hf => ?_) (fun hf => ?_)
            · refine kx_aload_n K dX7_runs_172 rfl 0 rfl ?_
              refine kx_gi K f_X7_210 dX7_runs_173 hf (fun x28 hf => ?_)
              refine kx_sub [(0, .ref a0), (1, .ref a1)] [0, 1] rfl ?_
              exact B176 _ _ _ _ hf
            · refine kx_bipush (v := 15) K dX7_runs_167 (by decide) ?_
              refine kx_goto K 176 dX7_runs_169 (by decide) ?_
              refine kx_sub [(0, .ref a0), (1, .ref a1)] [0, 1] rfl ?_
              exact B176 _ _ _ _ hf
          · refine kx_aload_n K dX7_runs_106 rfl 0 rfl ?_
            refine kx_gr K f_X7_39 dX7_runs_107 hf (fun x29 hf => ?_)
            refine kx_iload_n K dX7_runs_110 rfl 3 rfl ?_
            refine kx_ai K dX7_runs_111 hf (fun x30 hf => ?_)
            refine kx_aload_n K dX7_runs_112 rfl 0 rfl ?_
            refine kx_gi K f_X7_207 dX7_runs_113 hf (fun x31 hf => ?_)
            refine kx_icmp_eq K 132 hf dX7_runs_116 (by decide) (fun hf => ?_) (fun hf => ?_)
            · refine kx_aload_n K dX7_runs_132 rfl 0 rfl ?_
              refine kx_iload_n K dX7_runs_133 rfl 3 rfl ?_
              refine kx_cv1v K c_X7_242 (by decide) (Nat.le_of_ble_eq_true rfl) dX7_runs_134 hf (fun _ _ _ h => k_X7_handles h) (fun _ σ32 hf => ?_)
              refine kx_iinc (v := (v22 + 1)) K [(3, .int (v22 + 1)), (0, .ref a0), (1, .ref a1), (2, .int v21)] dX7_runs_137 3 rfl rfl (by decide) rfl ?_
              refine kx_goto K 101 dX7_runs_140 (by decide) ?_
              refine kx_sub [(0, .ref a0), (1, .ref a1), (2, .int v21), (3, .int (v22 + 1))] [1, 2, 3, 0] rfl ?_
              exact ih101 _ _ _ hf
            · refine kx_aload_n K dX7_runs_119 rfl 0 rfl ?_
              refine kx_gr K f_X7_42 dX7_runs_120 hf (fun x33 hf => ?_)
              refine kx_iload_n K dX7_runs_123 rfl 3 rfl ?_
              refine kx_ai K dX7_runs_124 hf (fun x34 hf => ?_)
              refine kx_aload_n K dX7_runs_125 rfl 0 rfl ?_
              refine kx_gi K f_X7_207 dX7_runs_126 hf (fun x35 hf => ?_)
              refine kx_icmp_ne K 137 hf dX7_runs_129 (by decide) (fun hf => ?_) (fun hf => ?_)
              · refine kx_iinc (v := (v22 + 1)) K [(3, .int (v22 + 1)), (0, .ref a0), (1, .ref a1), (2, .int v21)] dX7_runs_137 3 rfl rfl (by decide) rfl ?_
                refine kx_goto K 101 dX7_runs_140 (by decide) ?_
                refine kx_sub [(0, .ref a0), (1, .ref a1), (2, .int v21), (3, .int (v22 + 1))] [1, 2, 3, 0] rfl ?_
                exact ih101 _ _ _ hf
              · refine kx_aload_n K dX7_runs_132 rfl 0 rfl ?_
                refine kx_iload_n K dX7_runs_133 rfl 3 rfl ?_
                refine kx_cv1v K c_X7_242 (by decide) (Nat.le_of_ble_eq_true rfl) dX7_runs_134 hf (fun _ _ _ h => k_X7_handles h) (fun _ σ36 hf => ?_)
                refine kx_iinc (v := (v22 + 1)) K [(3, .int (v22 + 1)), (0, .ref a0), (1, .ref a1), (2, .int v21)] dX7_runs_137 3 rfl rfl (by decide) rfl ?_
                refine kx_goto K 101 dX7_runs_140 (by decide) ?_
                refine kx_sub [(0, .ref a0), (1, .ref a1), (2, .int v21), (3, .int (v22 + 1))] [1, 2, 3, 0] rfl ?_
                exact ih101 _ _ _ hf
      intro σ16 hf
      rw [m_X7_runs_l77] at hf
      refine kx_aload_n K dX7_runs_77 rfl 0 rfl ?_
      refine kx_gi K f_X7_207 dX7_runs_78 hf (fun x17 hf => ?_)
      refine kx_aload_n K dX7_runs_81 rfl 1 rfl ?_
      refine kx_iconst (v := 2) K dX7_runs_82 (by decide) ?_
      refine kx_ai K dX7_runs_83 hf (fun x18 hf => ?_)
      refine kx_icmp_ge K 200 hf dX7_runs_84 (by decide) (fun hf => ?_) (fun hf => ?_)
      · exact kx_vret K hQ (by decide) (by decide) (fun _ h => h) dX7_runs_200 hf
      · refine kx_aload_n K dX7_runs_87 rfl 0 rfl ?_
        refine kx_gi K f_X7_238 dX7_runs_88 hf (fun x19 hf => ?_)
        refine kx_if_ne K 200 hf dX7_runs_91 (by decide) (fun hf => ?_) (fun hf => ?_)
        · exact kx_vret K hQ (by decide) (by decide) (fun _ h => h) dX7_runs_200 hf
        · refine kx_aload_n K dX7_runs_94 rfl 0 rfl ?_
          refine kx_gi K f_X7_204 dX7_runs_95 hf (fun x20 hf => ?_)
          refine kx_istore_n K [(2, .int x20), (0, .ref a0), (1, .ref a1)] dX7_runs_98 rfl (by decide) rfl ?_
          refine kx_iconst (v := 0) K dX7_runs_99 (by decide) ?_
          refine kx_istore_n K [(3, .int (0 : Int32)), (2, .int x20), (0, .ref a0), (1, .ref a1)] dX7_runs_100 rfl (by decide) rfl ?_
          refine kx_sub [(0, .ref a0), (1, .ref a1), (2, .int x20), (3, .int (0 : Int32))] [2, 3, 1, 0] rfl ?_
          exact B101 hN_f _ _ _ hf
  have B47 : ∀ (n47 : Nat) (σ11 : ac_H) (v10 : Int32), m_X7_runs_l47 a0 a1 n47 σ11 v10 = some (v, σ') → kx_S Λ Γ 4 (fun z => z = q) σ11 (0) (0) 47 [(0, .ref a0), (1, .ref a1), (2, .int v10)] [] := by
    intro n47
    induction n47 with
    | zero =>
      intro σ11 v10 hf
      rw [m_X7_runs_l47] at hf
      cases hf
    | succ n47 ih47 =>
      intro σ11 v10 hf
      rw [m_X7_runs_l47] at hf
      refine kx_iload_n K dX7_runs_47 rfl 2 rfl ?_
      refine kx_sipush (v := 144) K dX7_runs_48 (by decide) ?_
      refine kx_icmp_ge K 67 hf dX7_runs_51 (by decide) (fun hf => ?_) (fun hf => ?_)
      · refine kx_aload_n K dX7_runs_67 rfl 0 rfl ?_
        refine kx_iconst (v := 0) K dX7_runs_68 (by decide) ?_
        refine kx_pz K f_X7_238 dX7_runs_69 hf (fun σ12 hf => ?_)
        refine kx_aload_n K dX7_runs_72 rfl 0 rfl ?_
        refine kx_iconst (v := 0) K dX7_runs_73 (by decide) ?_
        refine kx_pi K f_X7_207 dX7_runs_74 hf (fun σ13 hf => ?_)
        refine kx_sub [(0, .ref a0), (1, .ref a1)] [0, 1] rfl ?_
        exact B77 hN_f _ hf
      · refine kx_aload_n K dX7_runs_54 rfl 0 rfl ?_
        refine kx_gr K f_X7_48 dX7_runs_55 hf (fun x14 hf => ?_)
        refine kx_iload_n K dX7_runs_58 rfl 2 rfl ?_
        refine kx_iconst (v := 0) K dX7_runs_59 (by decide) ?_
        refine kx_uz K dX7_runs_60 hf (fun σ15 hf => ?_)
        refine kx_iinc (v := (v10 + 1)) K [(2, .int (v10 + 1)), (0, .ref a0), (1, .ref a1)] dX7_runs_61 2 rfl rfl (by decide) rfl ?_
        refine kx_goto K 47 dX7_runs_64 (by decide) ?_
        refine kx_sub [(0, .ref a0), (1, .ref a1), (2, .int (v10 + 1))] [1, 2, 0] rfl ?_
        exact ih47 _ _ hf
  unfold m_X7_runs at hf
  refine kx_aload_n K dX7_runs_0 rfl 0 rfl ?_
  refine kx_aload_n K dX7_runs_1 rfl 1 rfl ?_
  refine kx_pa K f_X7_24 dX7_runs_2 hf (fun σ1 hf => ?_)
  refine kx_aload_n K dX7_runs_5 rfl 0 rfl ?_
  refine kx_iconst (v := 0) K dX7_runs_6 (by decide) ?_
  refine kx_pi K f_X7_204 dX7_runs_7 hf (fun σ2 hf => ?_)
  refine kx_aload_n K dX7_runs_10 rfl 0 rfl ?_
  refine kx_iconst (v := 0) K dX7_runs_11 (by decide) ?_
  refine kx_pi K f_X7_210 dX7_runs_12 hf (fun σ3 hf => ?_)
  refine kx_aload_n K dX7_runs_15 rfl 0 rfl ?_
  refine kx_iconst (v := 0) K dX7_runs_16 (by decide) ?_
  refine kx_pi K f_X7_213 dX7_runs_17 hf (fun σ4 hf => ?_)
  refine kx_aload_n K dX7_runs_20 rfl 0 rfl ?_
  refine kx_iconst (v := -1) K dX7_runs_21 (by decide) ?_
  refine kx_pi K f_X7_216 dX7_runs_22 hf (fun σ5 hf => ?_)
  refine kx_aload_n K dX7_runs_25 rfl 0 rfl ?_
  refine kx_iconst (v := 0) K dX7_runs_26 (by decide) ?_
  refine kx_pi K f_X7_229 dX7_runs_27 hf (fun σ6 hf => ?_)
  refine kx_aload_n K dX7_runs_30 rfl 0 rfl ?_
  refine kx_iconst (v := 0) K dX7_runs_31 (by decide) ?_
  refine kx_pi K f_X7_235 dX7_runs_32 hf (fun σ7 hf => ?_)
  refine kx_aload_n K dX7_runs_35 rfl 0 rfl ?_
  refine kx_iconst (v := -1) K dX7_runs_36 (by decide) ?_
  refine kx_pi K f_X7_232 dX7_runs_37 hf (fun σ8 hf => ?_)
  refine kx_aload_n K dX7_runs_40 rfl 0 rfl ?_
  refine kx_iconst (v := 0) K dX7_runs_41 (by decide) ?_
  refine kx_pi K f_X7_222 dX7_runs_42 hf (fun σ9 hf => ?_)
  refine kx_iconst (v := 0) K dX7_runs_45 (by decide) ?_
  refine kx_istore_n K [(2, .int (0 : Int32)), (0, .ref a0), (1, .ref a1)] dX7_runs_46 rfl (by decide) rfl ?_
  refine kx_sub [(0, .ref a0), (1, .ref a1), (2, .int (0 : Int32))] [1, 2, 0] rfl ?_
  exact B47 hN_f _ _ hf
def m_X7_isBroken_j114 (K61 : ac_H → Int32 → Int32 → Int32 → Int32 → Option (Int32 × ac_H)) (a0 : Nat) (a1 : Int32) (σ20 : ac_H) (v16 : Int32) (v17 : Int32) (v18 : Int32) (w19 : Int32) : Option (Int32 × ac_H) :=
  mo_gr σ20 a0 7 22 fun x21 =>
  mo_ai σ20 x21 0 v18 fun x22 =>
  mo_gr σ20 a0 7 22 fun x23 =>
  mo_ai σ20 x23 0 v18 fun x24 =>
  if v17 < x24 then
  (mo_gr σ20 a0 7 22 fun x25 =>
  mo_ai σ20 x25 0 v18 fun x26 =>
  K61 σ20 (v16 ||| ((1 : Int32) <<< (x22 &&& 31))) x26 w19 (v18 + 1))
  else
  (K61 σ20 (v16 ||| ((1 : Int32) <<< (x22 &&& 31))) v17 w19 (v18 + 1))
def m_X7_isBroken_l61  (a0 : Nat) (a1 : Int32) : Nat → ac_H → Int32 → Int32 → Int32 → Int32 → Option (Int32 × ac_H)
  | 0, _, _, _, _, _ => none
  | n + 1, σ10, v6, v7, v8, v9 =>
    mo_gi σ10 a0 7 23 fun x11 =>
    if v9 < x11 then
    (if v8 = 0 then
    (if a1 = (1 : Int32) then
    (mo_gr σ10 a0 7 22 fun x14 =>
    mo_ai σ10 x14 0 v9 fun x15 =>
    if ((v6 >>> (x15 &&& 31)) &&& (1 : Int32)) = (1 : Int32) then
    (m_X7_isBroken_j114 (fun ρ y0 y1 y2 y3 => m_X7_isBroken_l61 a0 a1 n ρ y0 y1 y2 y3) a0 a1 σ10 v6 v7 v9 (1 : Int32))
    else
    (m_X7_isBroken_j114 (fun ρ y0 y1 y2 y3 => m_X7_isBroken_l61 a0 a1 n ρ y0 y1 y2 y3) a0 a1 σ10 v6 v7 v9 (0 : Int32)))
    else
    (mo_gr σ10 a0 7 22 fun x12 =>
    mo_ai σ10 x12 0 v9 fun x13 =>
    if x13 < v7 then
    (m_X7_isBroken_j114 (fun ρ y0 y1 y2 y3 => m_X7_isBroken_l61 a0 a1 n ρ y0 y1 y2 y3) a0 a1 σ10 v6 v7 v9 (1 : Int32))
    else
    (m_X7_isBroken_j114 (fun ρ y0 y1 y2 y3 => m_X7_isBroken_l61 a0 a1 n ρ y0 y1 y2 y3) a0 a1 σ10 v6 v7 v9 (0 : Int32))))
    else
    (m_X7_isBroken_j114 (fun ρ y0 y1 y2 y3 => m_X7_isBroken_l61 a0 a1 n ρ y0 y1 y2 y3) a0 a1 σ10 v6 v7 v9 (1 : Int32)))
    else
    (mo_z v8 (some (v8, σ10)))
def m_X7_isBroken (σ : ac_H) (a0 : Nat) (a1 : Int32) : Option (Int32 × ac_H) :=
  if a1 = 0 then
  (mo_gi σ a0 7 25 fun x5 =>
  if x5 = (-1 : Int32) then
  (mo_z (1 : Int32) (some ((1 : Int32), σ)))
  else
  (mo_z (0 : Int32) (some ((0 : Int32), σ))))
  else
  (if a1 = (3 : Int32) then
  (mo_gi σ a0 7 25 fun x1 =>
  if x1 = (-1 : Int32) then
  (mo_z (1 : Int32) (some ((1 : Int32), σ)))
  else
  (mo_gi σ a0 7 25 fun x2 =>
  mo_gr σ a0 7 14 fun x3 =>
  mo_ai σ x3 0 (7 : Int32) fun x4 =>
  if x4 < x2 then
  (mo_z (1 : Int32) (some ((1 : Int32), σ)))
  else
  (mo_z (0 : Int32) (some ((0 : Int32), σ)))))
  else
  (m_X7_isBroken_l61 a0 a1 hN_f σ (0 : Int32) (-1 : Int32) (0 : Int32) (0 : Int32)))
set_option maxRecDepth 100000 in
set_option maxHeartbeats 4000000 in
theorem k_X7_isBroken {Λ : ex_L} {q : Nat} {σ σ' : ac_H} {a0 : Nat} {a1 : Int32} {v : Int32} (hf : m_X7_isBroken σ a0 a1 = some (v, σ')) : kx_C Λ yX7_isBroken (.code yX7_isBroken cX7_isBroken 6 (some .boolean)) ({ frames := 0, cells := 0, slots := 0, locals := 0 } : Room) [.ref a0, .int a1] q σ (.inr (some (.int v))) σ' (fun z => z = q) := by
  refine kx_in (by decide +kernel) (Nat.le_of_ble_eq_true rfl) ?_
  intro Γ K hnm hsz hQ
  refine kx_lv (lv' := [(0, .ref a0), (1, .int a1)]) rfl ?_
  have B61 : ∀ (n61 : Nat) (σ10 : ac_H) (v6 : Int32) (v7 : Int32) (v8 : Int32) (v9 : Int32), m_X7_isBroken_l61 a0 a1 n61 σ10 v6 v7 v8 v9 = some (v, σ') → kx_S Λ Γ 6 (fun z => z = q) σ10 (0) (0) 61 [(0, .ref a0), (1, .int a1), (2, .int v6), (3, .int v7), (4, .int v8), (5, .int v9)] [] := by
    intro n61
    induction n61 with
    | zero =>
      intro σ10 v6 v7 v8 v9 hf
      rw [m_X7_isBroken_l61] at hf
      cases hf
    | succ n61 ih61 =>
      have B114 : ∀ (σ20 : ac_H) (v16 : Int32) (v17 : Int32) (v18 : Int32) (w19 : Int32), m_X7_isBroken_j114 (fun ρ y0 y1 y2 y3 => m_X7_isBroken_l61 a0 a1 n61 ρ y0 y1 y2 y3) a0 a1 σ20 v16 v17 v18 w19 = some (v, σ') → kx_S Λ Γ 6 (fun z => z = q) σ20 (0) (0) 114 [(0, .ref a0), (1, .int a1), (2, .int v16), (3, .int v17), (5, .int v18)] [.int w19] := by
        intro σ20 v16 v17 v18 w19 hf
        unfold m_X7_isBroken_j114 at hf
        refine kx_istore K [(4, .int w19), (0, .ref a0), (1, .int a1), (2, .int v16), (3, .int v17), (5, .int v18)] dX7_isBroken_114 (by decide) rfl ?_
        refine kx_iload_n K dX7_isBroken_116 rfl 3 rfl ?_
        refine kx_iconst (v := 1) K dX7_isBroken_117 (by decide) ?_
        refine kx_aload_n K dX7_isBroken_118 rfl 1 rfl ?_
        refine kx_gr K f_X7_45 dX7_isBroken_119 hf (fun x21 hf => ?_)
        refine kx_iload K dX7_isBroken_122 5 rfl ?_
        refine kx_ai K dX7_isBroken_124 hf (fun x22 hf => ?_)
        refine kx_ishl K dX7_isBroken_125 ?_
        refine kx_ior K dX7_isBroken_126 ?_
        refine kx_istore_n K [(2, .int (v16 ||| ((1 : Int32) <<< (x22 &&& 31)))), (4, .int w19), (0, .ref a0), (1, .int a1), (3, .int v17), (5, .int v18)] dX7_isBroken_127 rfl (by decide) rfl ?_
        refine kx_aload_n K dX7_isBroken_128 rfl 2 rfl ?_
        refine kx_gr K f_X7_45 dX7_isBroken_129 hf (fun x23 hf => ?_)
        refine kx_iload K dX7_isBroken_132 5 rfl ?_
        refine kx_ai K dX7_isBroken_134 hf (fun x24 hf => ?_)
        refine kx_iload_n K dX7_isBroken_135 rfl 4 rfl ?_
        refine kx_icmp_le K 149 hf dX7_isBroken_136 (by decide) (fun hf => ?_) (fun hf => ?_)
        · refine kx_iload_n K dX7_isBroken_149 rfl 4 rfl ?_
          refine kx_istore_n K [(3, .int v17), (2, .int (v16 ||| ((1 : Int32) <<< (x22 &&& 31)))), (4, .int w19), (0, .ref a0), (1, .int a1), (5, .int v18)] dX7_isBroken_150 rfl (by decide) rfl ?_
          refine kx_iinc (v := (v18 + 1)) K [(5, .int (v18 + 1)), (3, .int v17), (2, .int (v16 ||| ((1 : Int32) <<< (x22 &&& 31)))), (4, .int w19), (0, .ref a0), (1, .int a1)] dX7_isBroken_151 5 rfl rfl (by decide) rfl ?_
          refine kx_goto K 61 dX7_isBroken_154 (by decide) ?_
          refine kx_sub [(0, .ref a0), (1, .int a1), (2, .int (v16 ||| ((1 : Int32) <<< (x22 &&& 31)))), (3, .int v17), (4, .int w19), (5, .int (v18 + 1))] [4, 5, 2, 1, 3, 0] rfl ?_
          exact ih61 _ _ _ _ _ hf
        · refine kx_aload_n K dX7_isBroken_139 rfl 2 rfl ?_
          refine kx_gr K f_X7_45 dX7_isBroken_140 hf (fun x25 hf => ?_)
          refine kx_iload K dX7_isBroken_143 5 rfl ?_
          refine kx_ai K dX7_isBroken_145 hf (fun x26 hf => ?_)
          refine kx_goto K 150 dX7_isBroken_146 (by decide) ?_
          refine kx_istore_n K [(3, .int x26), (2, .int (v16 ||| ((1 : Int32) <<< (x22 &&& 31)))), (4, .int w19), (0, .ref a0), (1, .int a1), (5, .int v18)] dX7_isBroken_150 rfl (by decide) rfl ?_
          refine kx_iinc (v := (v18 + 1)) K [(5, .int (v18 + 1)), (3, .int x26), (2, .int (v16 ||| ((1 : Int32) <<< (x22 &&& 31)))), (4, .int w19), (0, .ref a0), (1, .int a1)] dX7_isBroken_151 5 rfl rfl (by decide) rfl ?_
          refine kx_goto K 61 dX7_isBroken_154 (by decide) ?_
          refine kx_sub [(0, .ref a0), (1, .int a1), (2, .int (v16 ||| ((1 : Int32) <<< (x22 &&& 31)))), (3, .int x26), (4, .int w19), (5, .int (v18 + 1))] [4, 5, 2, 1, 3, 0] rfl ?_
          exact ih61 _ _ _ _ _ hf
      intro σ10 v6 v7 v8 v9 hf
      rw [m_X7_isBroken_l61] at hf
      refine kx_iload K dX7_isBroken_61 5 rfl ?_
      refine kx_aload_n K dX7_isBroken_63 rfl 0 rfl ?_
      refine kx_gi K f_X7_210 dX7_isBroken_64 hf (fun x11 hf => ?_)
      refine kx_icmp_ge K 157 hf dX7_isBroken_67 (by decide) (fun hf => ?_) (fun hf => ?_)
      · refine kx_iload K dX7_isBroken_157 4 rfl ?_
        exact kx_zret K hQ (by decide) (by decide) (fun _ h => h) dX7_isBroken_159 hf
      · refine kx_iload K dX7_isBroken_70 4 rfl ?_
        refine kx_if_ne K 109 hf dX7_isBroken_72 (by decide) (fun hf => ?_) (fun hf => ?_)
        · refine kx_iconst (v := 1) K dX7_isBroken_109 (by decide) ?_
          refine kx_goto K 114 dX7_isBroken_110 (by decide) ?_
          refine kx_sub [(0, .ref a0), (1, .int a1), (2, .int v6), (3, .int v7), (5, .int v9)] [0, 1, 2, 3, 5] rfl ?_
          exact B114 _ _ _ _ _ hf
        · refine kx_iload_n K dX7_isBroken_75 rfl 1 rfl ?_
          refine kx_iconst (v := 1) K dX7_isBroken_76 (by decide) ?_
          refine kx_icmp_ne K 98 hf dX7_isBroken_77 (by decide) (fun hf => ?_) (fun hf => ?_)
          · refine kx_aload_n K dX7_isBroken_98 rfl 0 rfl ?_
            refine kx_gr K f_X7_45 dX7_isBroken_99 hf (fun x12 hf => ?_)
            refine kx_iload K dX7_isBroken_102 5 rfl ?_
            refine kx_ai K dX7_isBroken_104 hf (fun x13 hf => ?_)
            refine kx_iload_n K dX7_isBroken_105 rfl 3 rfl ?_
            refine kx_icmp_ge K 113 hf dX7_isBroken_106 (by decide) (fun hf => ?_) (fun hf => ?_)
            · refine kx_iconst (v := 0) K dX7_isBroken_113 (by decide) ?_
              refine kx_sub [(0, .ref a0), (1, .int a1), (2, .int v6), (3, .int v7), (5, .int v9)] [0, 1, 2, 3, 5] rfl ?_
              exact B114 _ _ _ _ _ hf
            · refine kx_iconst (v := 1) K dX7_isBroken_109 (by decide) ?_
              refine kx_goto K 114 dX7_isBroken_110 (by decide) ?_
              refine kx_sub [(0, .ref a0), (1, .int a1), (2, .int v6), (3, .int v7), (5, .int v9)] [0, 1, 2, 3, 5] rfl ?_
              exact B114 _ _ _ _ _ hf
          · refine kx_iload_n K dX7_isBroken_80 rfl 2 rfl ?_
            refine kx_aload_n K dX7_isBroken_81 rfl 0 rfl ?_
            refine kx_gr K f_X7_45 dX7_isBroken_82 hf (fun x14 hf => ?_)
            refine kx_iload K dX7_isBroken_85 5 rfl ?_
            refine kx_ai K dX7_isBroken_87 hf (fun x15 hf => ?_)
            refine kx_ishr K dX7_isBroken_88 ?_
            refine kx_iconst (v := 1) K dX7_isBroken_89 (by decide) ?_
            refine kx_iand K dX7_isBroken_90 ?_
            refine kx_iconst (v := 1) K dX7_isBroken_91 (by decide) ?_
            refine kx_icmp_ne K 113 hf dX7_isBroken_92 (by decide) (fun hf => ?_) (fun hf => ?_)
            · refine kx_iconst (v := 0) K dX7_isBroken_113 (by decide) ?_
              refine kx_sub [(0, .ref a0), (1, .int a1), (2, .int v6), (3, .int v7), (5, .int v9)] [0, 1, 2, 3, 5] rfl ?_
              exact B114 _ _ _ _ _ hf
            · refine kx_goto K 109 dX7_isBroken_95 (by decide) ?_
              refine kx_iconst (v := 1) K dX7_isBroken_109 (by decide) ?_
              refine kx_goto K 114 dX7_isBroken_110 (by decide) ?_
              refine kx_sub [(0, .ref a0), (1, .int a1), (2, .int v6), (3, .int v7), (5, .int v9)] [0, 1, 2, 3, 5] rfl ?_
              exact B114 _ _ _ _ _ hf
  unfold m_X7_isBroken at hf
  refine kx_iload_n K dX7_isBroken_0 rfl 1 rfl ?_
  refine kx_if_ne K 18 hf dX7_isBroken_1 (by decide) (fun hf => ?_) (fun hf => ?_)
  · refine kx_iload_n K dX7_isBroken_18 rfl 1 rfl ?_
    refine kx_iconst (v := 3) K dX7_isBroken_19 (by decide) ?_
    refine kx_icmp_ne K 51 hf dX7_isBroken_20 (by decide) (fun hf => ?_) (fun hf => ?_)
    · refine kx_iconst (v := 0) K dX7_isBroken_51 (by decide) ?_
      refine kx_istore_n K [(2, .int (0 : Int32)), (0, .ref a0), (1, .int a1)] dX7_isBroken_52 rfl (by decide) rfl ?_
      refine kx_iconst (v := -1) K dX7_isBroken_53 (by decide) ?_
      refine kx_istore_n K [(3, .int (-1 : Int32)), (2, .int (0 : Int32)), (0, .ref a0), (1, .int a1)] dX7_isBroken_54 rfl (by decide) rfl ?_
      refine kx_iconst (v := 0) K dX7_isBroken_55 (by decide) ?_
      refine kx_istore K [(4, .int (0 : Int32)), (3, .int (-1 : Int32)), (2, .int (0 : Int32)), (0, .ref a0), (1, .int a1)] dX7_isBroken_56 (by decide) rfl ?_
      refine kx_iconst (v := 0) K dX7_isBroken_58 (by decide) ?_
      refine kx_istore K [(5, .int (0 : Int32)), (4, .int (0 : Int32)), (3, .int (-1 : Int32)), (2, .int (0 : Int32)), (0, .ref a0), (1, .int a1)] dX7_isBroken_59 (by decide) rfl ?_
      refine kx_sub [(0, .ref a0), (1, .int a1), (2, .int (0 : Int32)), (3, .int (-1 : Int32)), (4, .int (0 : Int32)), (5, .int (0 : Int32))] [4, 5, 3, 2, 1, 0] rfl ?_
      exact B61 hN_f _ _ _ _ _ hf
    · refine kx_aload_n K dX7_isBroken_23 rfl 0 rfl ?_
      refine kx_gi K f_X7_216 dX7_isBroken_24 hf (fun x1 hf => ?_)
      refine kx_iconst (v := -1) K dX7_isBroken_27 (by decide) ?_
      refine kx_icmp_eq K 45 hf dX7_isBroken_28 (by decide) (fun hf => ?_) (fun hf => ?_)
      · refine kx_iconst (v := 1) K dX7_isBroken_45 (by decide) ?_
        refine kx_goto K 50 dX7_isBroken_46 (by decide) ?_
        exact kx_zret K hQ (by decide) (by decide) (fun _ h => h) dX7_isBroken_50 hf
      · refine kx_aload_n K dX7_isBroken_31 rfl 0 rfl ?_
        refine kx_gi K f_X7_216 dX7_isBroken_32 hf (fun x2 hf => ?_)
        refine kx_aload_n K dX7_isBroken_35 rfl 0 rfl ?_
        refine kx_gr K f_X7_24 dX7_isBroken_36 hf (fun x3 hf => ?_)
        refine kx_bipush (v := 7) K dX7_isBroken_39 (by decide) ?_
        refine kx_ai K dX7_isBroken_41 hf (fun x4 hf => ?_)
        refine kx_icmp_le K 49 hf dX7_isBroken_42 (by decide) (fun hf => ?_) (fun hf => ?_)
        · refine kx_iconst (v := 0) K dX7_isBroken_49 (by decide) ?_
          exact kx_zret K hQ (by decide) (by decide) (fun _ h => h) dX7_isBroken_50 hf
        · refine kx_iconst (v := 1) K dX7_isBroken_45 (by decide) ?_
          refine kx_goto K 50 dX7_isBroken_46 (by decide) ?_
          exact kx_zret K hQ (by decide) (by decide) (fun _ h => h) dX7_isBroken_50 hf
  · refine kx_aload_n K dX7_isBroken_4 rfl 0 rfl ?_
    refine kx_gi K f_X7_216 dX7_isBroken_5 hf (fun x5 hf => ?_)
    refine kx_iconst (v := -1) K dX7_isBroken_8 (by decide) ?_
    refine kx_icmp_ne K 16 hf dX7_isBroken_9 (by decide) (fun hf => ?_) (fun hf => ?_)
    · refine kx_iconst (v := 0) K dX7_isBroken_16 (by decide) ?_
      exact kx_zret K hQ (by decide) (by decide) (fun _ h => h) dX7_isBroken_17 hf
    · refine kx_iconst (v := 1) K dX7_isBroken_12 (by decide) ?_
      refine kx_goto K 17 dX7_isBroken_13 (by decide) ?_
      exact kx_zret K hQ (by decide) (by decide) (fun _ h => h) dX7_isBroken_17 hf
def m_X7_breaksBy (σ : ac_H) (a0 : Nat) (a1 : Nat) (a2 : Int32) : Option (Int32 × ac_H) :=
  mo_cv σ a0 7 (m_X7_runs σ a0 a1) fun _ σ1 =>
  mo_cv σ1 a0 7 (m_X7_isBroken σ1 a0 a2) fun x3 σ2 =>
  mo_z x3 (some (x3, σ2))
set_option maxRecDepth 100000 in
set_option maxHeartbeats 4000000 in
theorem k_X7_breaksBy {Λ : ex_L} {q : Nat} {σ σ' : ac_H} {a0 : Nat} {a1 : Nat} {a2 : Int32} {v : Int32} (hf : m_X7_breaksBy σ a0 a1 a2 = some (v, σ')) : kx_C Λ yX7_breaksBy (.code yX7_breaksBy cX7_breaksBy 3 (some .boolean)) ({ frames := 6, cells := 0, slots := 0, locals := 136 } : Room) [.ref a0, .ref a1, .int a2] q σ (.inr (some (.int v))) σ' (fun z => z = q) := by
  refine kx_in (by decide +kernel) (Nat.le_of_ble_eq_true rfl) ?_
  intro Γ K hnm hsz hQ
  refine kx_lv (lv' := [(0, .ref a0), (1, .ref a1), (2, .int a2)]) rfl ?_
  unfold m_X7_breaksBy at hf
  refine kx_aload_n K dX7_breaksBy_0 rfl 0 rfl ?_
  refine kx_aload_n K dX7_breaksBy_1 rfl 1 rfl ?_
  refine kx_cv1v K c_X7_257 (by decide) (Nat.le_of_ble_eq_true rfl) dX7_breaksBy_2 hf (fun _ _ _ h => k_X7_runs h) (fun _ σ1 hf => ?_)
  refine kx_aload_n K dX7_breaksBy_5 rfl 0 rfl ?_
  refine kx_iload_n K dX7_breaksBy_6 rfl 2 rfl ?_
  refine kx_cv1i K c_X7_261 (by decide) (Nat.le_of_ble_eq_true rfl) dX7_breaksBy_7 hf (fun _ _ _ h => k_X7_isBroken h) (fun x3 σ2 hf => ?_)
  exact kx_zret K hQ (by decide) (by decide) (fun _ h => h) dX7_breaksBy_10 hf
def m_X7_brokenOnes_l4  (a0 : Nat) : Nat → ac_H → Int32 → Int32 → Option (Int32 × ac_H)
  | 0, _, _, _ => none
  | n + 1, σ3, v1, v2 =>
    if v2 < (4 : Int32) then
    (mo_cv σ3 a0 7 (m_X7_isBroken σ3 a0 v2) fun x5 σ4 =>
    if x5 = 0 then
    (m_X7_brokenOnes_l4 a0 n σ4 (v1 ||| (0 : Int32)) (v2 + 1))
    else
    (m_X7_brokenOnes_l4 a0 n σ4 (v1 ||| ((1 : Int32) <<< (v2 &&& 31))) (v2 + 1)))
    else
    (some (v1, σ3))
def m_X7_brokenOnes (σ : ac_H) (a0 : Nat) : Option (Int32 × ac_H) :=
  m_X7_brokenOnes_l4 a0 hN_f σ (0 : Int32) (0 : Int32)
set_option maxRecDepth 100000 in
set_option maxHeartbeats 4000000 in
theorem k_X7_brokenOnes {Λ : ex_L} {q : Nat} {σ σ' : ac_H} {a0 : Nat} {v : Int32} (hf : m_X7_brokenOnes σ a0 = some (v, σ')) : kx_C Λ yX7_brokenOnes (.code yX7_brokenOnes cX7_brokenOnes 3 (some .int)) ({ frames := 1, cells := 0, slots := 0, locals := 25 } : Room) [.ref a0] q σ (.inr (some (.int v))) σ' (fun z => z = q) := by
  refine kx_in (by decide +kernel) (Nat.le_of_ble_eq_true rfl) ?_
  intro Γ K hnm hsz hQ
  refine kx_lv (lv' := [(0, .ref a0)]) rfl ?_
  have B4 : ∀ (n4 : Nat) (σ3 : ac_H) (v1 : Int32) (v2 : Int32), m_X7_brokenOnes_l4 a0 n4 σ3 v1 v2 = some (v, σ') → kx_S Λ Γ 3 (fun z => z = q) σ3 (0) (0) 4 [(0, .ref a0), (1, .int v1), (2, .int v2)] [] := by
    intro n4
    induction n4 with
    | zero =>
      intro σ3 v1 v2 hf
      rw [m_X7_brokenOnes_l4] at hf
      cases hf
    | succ n4 ih4 =>
      intro σ3 v1 v2 hf
      rw [m_X7_brokenOnes_l4] at hf
      refine kx_iload_n K dX7_brokenOnes_4 rfl 2 rfl ?_
      refine kx_iconst (v := 4) K dX7_brokenOnes_5 (by decide) ?_
      refine kx_icmp_ge K 33 hf dX7_brokenOnes_6 (by decide) (fun hf => ?_) (fun hf => ?_)
      · refine kx_iload_n K dX7_brokenOnes_33 rfl 1 rfl ?_
        exact kx_iret K hQ (by decide) (by decide) (fun _ h => h) dX7_brokenOnes_34 hf
      · refine kx_iload_n K dX7_brokenOnes_9 rfl 1 rfl ?_
        refine kx_aload_n K dX7_brokenOnes_10 rfl 0 rfl ?_
        refine kx_iload_n K dX7_brokenOnes_11 rfl 2 rfl ?_
        refine kx_cv1i K c_X7_261 (by decide) (Nat.le_of_ble_eq_true rfl) dX7_brokenOnes_12 hf (fun _ _ _ h => k_X7_isBroken h) (fun x5 σ4 hf => ?_)
        refine kx_if_eq K 24 hf dX7_brokenOnes_15 (by decide) (fun hf => ?_) (fun hf => ?_)
        · refine kx_iconst (v := 0) K dX7_brokenOnes_24 (by decide) ?_
          refine kx_ior K dX7_brokenOnes_25 ?_
          refine kx_istore_n K [(1, .int (v1 ||| (0 : Int32))), (0, .ref a0), (2, .int v2)] dX7_brokenOnes_26 rfl (by decide) rfl ?_
          refine kx_iinc (v := (v2 + 1)) K [(2, .int (v2 + 1)), (1, .int (v1 ||| (0 : Int32))), (0, .ref a0)] dX7_brokenOnes_27 2 rfl rfl (by decide) rfl ?_
          refine kx_goto K 4 dX7_brokenOnes_30 (by decide) ?_
          refine kx_sub [(0, .ref a0), (1, .int (v1 ||| (0 : Int32))), (2, .int (v2 + 1))] [2, 1, 0] rfl ?_
          exact ih4 _ _ _ hf
        · refine kx_iconst (v := 1) K dX7_brokenOnes_18 (by decide) ?_
          refine kx_iload_n K dX7_brokenOnes_19 rfl 2 rfl ?_
          refine kx_ishl K dX7_brokenOnes_20 ?_
          refine kx_goto K 25 dX7_brokenOnes_21 (by decide) ?_
          refine kx_ior K dX7_brokenOnes_25 ?_
          refine kx_istore_n K [(1, .int (v1 ||| ((1 : Int32) <<< (v2 &&& 31)))), (0, .ref a0), (2, .int v2)] dX7_brokenOnes_26 rfl (by decide) rfl ?_
          refine kx_iinc (v := (v2 + 1)) K [(2, .int (v2 + 1)), (1, .int (v1 ||| ((1 : Int32) <<< (v2 &&& 31)))), (0, .ref a0)] dX7_brokenOnes_27 2 rfl rfl (by decide) rfl ?_
          refine kx_goto K 4 dX7_brokenOnes_30 (by decide) ?_
          refine kx_sub [(0, .ref a0), (1, .int (v1 ||| ((1 : Int32) <<< (v2 &&& 31)))), (2, .int (v2 + 1))] [2, 1, 0] rfl ?_
          exact ih4 _ _ _ hf
  unfold m_X7_brokenOnes at hf
  refine kx_iconst (v := 0) K dX7_brokenOnes_0 (by decide) ?_
  refine kx_istore_n K [(1, .int (0 : Int32)), (0, .ref a0)] dX7_brokenOnes_1 rfl (by decide) rfl ?_
  refine kx_iconst (v := 0) K dX7_brokenOnes_2 (by decide) ?_
  refine kx_istore_n K [(2, .int (0 : Int32)), (1, .int (0 : Int32)), (0, .ref a0)] dX7_brokenOnes_3 rfl (by decide) rfl ?_
  refine kx_sub [(0, .ref a0), (1, .int (0 : Int32)), (2, .int (0 : Int32))] [2, 1, 0] rfl ?_
  exact B4 hN_f _ _ _ hf
def m_X7_recordedMany_l4  (a0 : Nat) : Nat → ac_H → Int32 → Int32 → Option (Int32 × ac_H)
  | 0, _, _, _ => none
  | n + 1, σ3, v1, v2 =>
    if v2 < (144 : Int32) then
    (mo_gr σ3 a0 7 1 fun x4 =>
    mo_ai σ3 x4 0 ((39 : Int32) + v2) fun x5 =>
    m_X7_recordedMany_l4 a0 n σ3 (v1 + x5) (v2 + 1))
    else
    (some (v1, σ3))
def m_X7_recordedMany (σ : ac_H) (a0 : Nat) : Option (Int32 × ac_H) :=
  m_X7_recordedMany_l4 a0 hN_f σ (0 : Int32) (0 : Int32)
set_option maxRecDepth 100000 in
set_option maxHeartbeats 4000000 in
theorem k_X7_recordedMany {Λ : ex_L} {q : Nat} {σ σ' : ac_H} {a0 : Nat} {v : Int32} (hf : m_X7_recordedMany σ a0 = some (v, σ')) : kx_C Λ yX7_recordedMany (.code yX7_recordedMany cX7_recordedMany 3 (some .int)) ({ frames := 0, cells := 0, slots := 0, locals := 0 } : Room) [.ref a0] q σ (.inr (some (.int v))) σ' (fun z => z = q) := by
  refine kx_in (by decide +kernel) (Nat.le_of_ble_eq_true rfl) ?_
  intro Γ K hnm hsz hQ
  refine kx_lv (lv' := [(0, .ref a0)]) rfl ?_
  have B4 : ∀ (n4 : Nat) (σ3 : ac_H) (v1 : Int32) (v2 : Int32), m_X7_recordedMany_l4 a0 n4 σ3 v1 v2 = some (v, σ') → kx_S Λ Γ 3 (fun z => z = q) σ3 (0) (0) 4 [(0, .ref a0), (1, .int v1), (2, .int v2)] [] := by
    intro n4
    induction n4 with
    | zero =>
      intro σ3 v1 v2 hf
      rw [m_X7_recordedMany_l4] at hf
      cases hf
    | succ n4 ih4 =>
      intro σ3 v1 v2 hf
      rw [m_X7_recordedMany_l4] at hf
      refine kx_iload_n K dX7_recordedMany_4 rfl 2 rfl ?_
      refine kx_sipush (v := 144) K dX7_recordedMany_5 (by decide) ?_
      refine kx_icmp_ge K 29 hf dX7_recordedMany_8 (by decide) (fun hf => ?_) (fun hf => ?_)
      · refine kx_iload_n K dX7_recordedMany_29 rfl 1 rfl ?_
        exact kx_iret K hQ (by decide) (by decide) (fun _ h => h) dX7_recordedMany_30 hf
      · refine kx_iload_n K dX7_recordedMany_11 rfl 1 rfl ?_
        refine kx_aload_n K dX7_recordedMany_12 rfl 0 rfl ?_
        refine kx_gr K f_X7_7 dX7_recordedMany_13 hf (fun x4 hf => ?_)
        refine kx_bipush (v := 39) K dX7_recordedMany_16 (by decide) ?_
        refine kx_iload_n K dX7_recordedMany_18 rfl 2 rfl ?_
        refine kx_iadd K dX7_recordedMany_19 ?_
        refine kx_ai K dX7_recordedMany_20 hf (fun x5 hf => ?_)
        refine kx_iadd K dX7_recordedMany_21 ?_
        refine kx_istore_n K [(1, .int (v1 + x5)), (0, .ref a0), (2, .int v2)] dX7_recordedMany_22 rfl (by decide) rfl ?_
        refine kx_iinc (v := (v2 + 1)) K [(2, .int (v2 + 1)), (1, .int (v1 + x5)), (0, .ref a0)] dX7_recordedMany_23 2 rfl rfl (by decide) rfl ?_
        refine kx_goto K 4 dX7_recordedMany_26 (by decide) ?_
        refine kx_sub [(0, .ref a0), (1, .int (v1 + x5)), (2, .int (v2 + 1))] [2, 1, 0] rfl ?_
        exact ih4 _ _ _ hf
  unfold m_X7_recordedMany at hf
  refine kx_iconst (v := 0) K dX7_recordedMany_0 (by decide) ?_
  refine kx_istore_n K [(1, .int (0 : Int32)), (0, .ref a0)] dX7_recordedMany_1 rfl (by decide) rfl ?_
  refine kx_iconst (v := 0) K dX7_recordedMany_2 (by decide) ?_
  refine kx_istore_n K [(2, .int (0 : Int32)), (1, .int (0 : Int32)), (0, .ref a0)] dX7_recordedMany_3 rfl (by decide) rfl ?_
  refine kx_sub [(0, .ref a0), (1, .int (0 : Int32)), (2, .int (0 : Int32))] [2, 1, 0] rfl ?_
  exact B4 hN_f _ _ _ hf
def m_X7_size_j21  (a0 : Nat) (a1 : Int32) (σ6 : ac_H) (w4 : Int32) (w5 : Nat) : Option (Int32 × ac_H) :=
  mo_cv σ6 w5 7 (m_X7_throwsIf σ6 w5 w4 (1 : Int32)) fun x8 σ7 =>
  if x8 = 0 then
  (if a1 < (9 : Int32) then
  (mo_gr σ7 a0 7 1 fun x12 =>
  mo_ai σ7 x12 0 a1 fun x13 =>
  some (x13, σ7))
  else
  (if a1 = (9 : Int32) then
  (mo_gi σ7 a0 7 36 fun x11 =>
  some (x11, σ7))
  else
  (mo_cv σ7 a0 7 (m_X7_recordedMany σ7 a0) fun x10 σ9 =>
  some (x10, σ9))))
  else
  (some ((0 : Int32), σ7))
def m_X7_size (σ : ac_H) (a0 : Nat) (a1 : Int32) : Option (Int32 × ac_H) :=
  mo_pv σ a0 7 0 (.int (0 : Int32)) fun σ1 =>
  mo_cs (m_X7_within σ1 a1 (0 : Int32) (10 : Int32)) fun x3 σ2 =>
  if x3 = 0 then
  (m_X7_size_j21 a0 a1 σ2 (1 : Int32) a0)
  else
  (m_X7_size_j21 a0 a1 σ2 (0 : Int32) a0)
set_option maxRecDepth 100000 in
set_option maxHeartbeats 4000000 in
theorem k_X7_size {Λ : ex_L} {q : Nat} {σ σ' : ac_H} {a0 : Nat} {a1 : Int32} {v : Int32} (hf : m_X7_size σ a0 a1 = some (v, σ')) : kx_C Λ yX7_size (.code yX7_size cX7_size 2 (some .int)) ({ frames := 1, cells := 0, slots := 0, locals := 22 } : Room) [.ref a0, .int a1] q σ (.inr (some (.int v))) σ' (fun z => z = q) := by
  refine kx_in (by decide +kernel) (Nat.le_of_ble_eq_true rfl) ?_
  intro Γ K hnm hsz hQ
  refine kx_lv (lv' := [(0, .ref a0), (1, .int a1)]) rfl ?_
  have B21 : ∀ (σ6 : ac_H) (w4 : Int32) (w5 : Nat), m_X7_size_j21 a0 a1 σ6 w4 w5 = some (v, σ') → kx_S Λ Γ 2 (fun z => z = q) σ6 (0) (0) 21 [(0, .ref a0), (1, .int a1)] [.int w4, .ref w5] := by
    intro σ6 w4 w5 hf
    unfold m_X7_size_j21 at hf
    refine kx_iconst (v := 1) K dX7_size_21 (by decide) ?_
    refine kx_cv2i K c_X7_184 (by decide) (Nat.le_of_ble_eq_true rfl) dX7_size_22 hf (fun _ _ _ h => k_X7_throwsIf h) (fun x8 σ7 hf => ?_)
    refine kx_if_eq K 30 hf dX7_size_25 (by decide) (fun hf => ?_) (fun hf => ?_)
    · refine kx_iload_n K dX7_size_30 rfl 1 rfl ?_
      refine kx_bipush (v := 9) K dX7_size_31 (by decide) ?_
      refine kx_icmp_ge K 45 hf dX7_size_33 (by decide) (fun hf => ?_) (fun hf => ?_)
      · refine kx_iload_n K dX7_size_45 rfl 1 rfl ?_
        refine kx_bipush (v := 9) K dX7_size_46 (by decide) ?_
        refine kx_icmp_ne K 58 hf dX7_size_48 (by decide) (fun hf => ?_) (fun hf => ?_)
        · refine kx_aload_n K dX7_size_58 rfl 0 rfl ?_
          refine kx_cv0i K c_X7_264 (by decide) (Nat.le_of_ble_eq_true rfl) dX7_size_59 hf (fun _ _ _ h => k_X7_recordedMany h) (fun x10 σ9 hf => ?_)
          exact kx_iret K hQ (by decide) (by decide) (fun _ h => h) dX7_size_62 hf
        · refine kx_aload_n K dX7_size_51 rfl 0 rfl ?_
          refine kx_gi K f_X7_198 dX7_size_52 hf (fun x11 hf => ?_)
          refine kx_goto K 62 dX7_size_55 (by decide) ?_
          exact kx_iret K hQ (by decide) (by decide) (fun _ h => h) dX7_size_62 hf
      · refine kx_aload_n K dX7_size_36 rfl 0 rfl ?_
        refine kx_gr K f_X7_7 dX7_size_37 hf (fun x12 hf => ?_)
        refine kx_iload_n K dX7_size_40 rfl 1 rfl ?_
        refine kx_ai K dX7_size_41 hf (fun x13 hf => ?_)
        refine kx_goto K 62 dX7_size_42 (by decide) ?_
        exact kx_iret K hQ (by decide) (by decide) (fun _ h => h) dX7_size_62 hf
    · refine kx_iconst (v := 0) K dX7_size_28 (by decide) ?_
      exact kx_iret K hQ (by decide) (by decide) (fun _ h => h) dX7_size_29 hf
  unfold m_X7_size at hf
  refine kx_aload_n K dX7_size_0 rfl 0 rfl ?_
  refine kx_iconst (v := 0) K dX7_size_1 (by decide) ?_
  refine kx_pi K f_X7_65 dX7_size_2 hf (fun σ1 hf => ?_)
  refine kx_aload_n K dX7_size_5 rfl 0 rfl ?_
  refine kx_iload_n K dX7_size_6 rfl 1 rfl ?_
  refine kx_iconst (v := 0) K dX7_size_7 (by decide) ?_
  refine kx_bipush (v := 10) K dX7_size_8 (by decide) ?_
  refine kx_cs3i K c_X7_94 (by decide) (Nat.le_of_ble_eq_true rfl) dX7_size_10 hf (fun _ _ _ h => k_X7_within h) (fun x3 σ2 hf => ?_)
  refine kx_if_ne K 20 hf dX7_size_13 (by decide) (fun hf => ?_) (fun hf => ?_)
  · refine kx_iconst (v := 0) K dX7_size_20 (by decide) ?_
    refine kx_sub [(0, .ref a0), (1, .int a1)] [0, 1] rfl ?_
    exact B21 _ _ _ hf
  · refine kx_iconst (v := 1) K dX7_size_16 (by decide) ?_
    refine kx_goto K 21 dX7_size_17 (by decide) ?_
    refine kx_sub [(0, .ref a0), (1, .int a1)] [0, 1] rfl ?_
    exact B21 _ _ _ hf
def m_X7_noFault (σ : ac_H) (a0 : Nat) (a1 : Int32) : Option (Int32 × ac_H) :=
  mo_pv σ a0 7 0 (.int (0 : Int32)) fun σ1 =>
  mo_gr σ1 a0 7 1 fun x2 =>
  mo_ai σ1 x2 0 (8 : Int32) fun x3 =>
  mo_cs (m_X7_within σ1 a1 (0 : Int32) (x3 - (1 : Int32))) fun x5 σ4 =>
  if x5 = 0 then
  (mo_cv σ4 a0 7 (m_X7_throwsIf σ4 a0 (1 : Int32) (1 : Int32)) fun x9 σ8 =>
  mo_z x9 (some (x9, σ8)))
  else
  (mo_cv σ4 a0 7 (m_X7_throwsIf σ4 a0 (0 : Int32) (1 : Int32)) fun x7 σ6 =>
  mo_z x7 (some (x7, σ6)))
set_option maxRecDepth 100000 in
set_option maxHeartbeats 4000000 in
theorem k_X7_noFault {Λ : ex_L} {q : Nat} {σ σ' : ac_H} {a0 : Nat} {a1 : Int32} {v : Int32} (hf : m_X7_noFault σ a0 a1 = some (v, σ')) : kx_C Λ yX7_noFault (.code yX7_noFault cX7_noFault 2 (some .boolean)) ({ frames := 1, cells := 0, slots := 0, locals := 22 } : Room) [.ref a0, .int a1] q σ (.inr (some (.int v))) σ' (fun z => z = q) := by
  refine kx_in (by decide +kernel) (Nat.le_of_ble_eq_true rfl) ?_
  intro Γ K hnm hsz hQ
  refine kx_lv (lv' := [(0, .ref a0), (1, .int a1)]) rfl ?_
  unfold m_X7_noFault at hf
  refine kx_aload_n K dX7_noFault_0 rfl 0 rfl ?_
  refine kx_iconst (v := 0) K dX7_noFault_1 (by decide) ?_
  refine kx_pi K f_X7_65 dX7_noFault_2 hf (fun σ1 hf => ?_)
  refine kx_aload_n K dX7_noFault_5 rfl 0 rfl ?_
  refine kx_iload_n K dX7_noFault_6 rfl 1 rfl ?_
  refine kx_iconst (v := 0) K dX7_noFault_7 (by decide) ?_
  refine kx_aload_n K dX7_noFault_8 rfl 0 rfl ?_
  refine kx_gr K f_X7_7 dX7_noFault_9 hf (fun x2 hf => ?_)
  refine kx_bipush (v := 8) K dX7_noFault_12 (by decide) ?_
  refine kx_ai K dX7_noFault_14 hf (fun x3 hf => ?_)
  refine kx_iconst (v := 1) K dX7_noFault_15 (by decide) ?_
  refine kx_isub K dX7_noFault_16 ?_
  refine kx_cs3i K c_X7_94 (by decide) (Nat.le_of_ble_eq_true rfl) dX7_noFault_17 hf (fun _ _ _ h => k_X7_within h) (fun x5 σ4 hf => ?_)
  refine kx_if_ne K 27 hf dX7_noFault_20 (by decide) (fun hf => ?_) (fun hf => ?_)
  · refine kx_iconst (v := 0) K dX7_noFault_27 (by decide) ?_
    refine kx_iconst (v := 1) K dX7_noFault_28 (by decide) ?_
    refine kx_cv2i K c_X7_184 (by decide) (Nat.le_of_ble_eq_true rfl) dX7_noFault_29 hf (fun _ _ _ h => k_X7_throwsIf h) (fun x7 σ6 hf => ?_)
    exact kx_zret K hQ (by decide) (by decide) (fun _ h => h) dX7_noFault_32 hf
  · refine kx_iconst (v := 1) K dX7_noFault_23 (by decide) ?_
    refine kx_goto K 28 dX7_noFault_24 (by decide) ?_
    refine kx_iconst (v := 1) K dX7_noFault_28 (by decide) ?_
    refine kx_cv2i K c_X7_184 (by decide) (Nat.le_of_ble_eq_true rfl) dX7_noFault_29 hf (fun _ _ _ h => k_X7_throwsIf h) (fun x9 σ8 hf => ?_)
    exact kx_zret K hQ (by decide) (by decide) (fun _ h => h) dX7_noFault_32 hf
def m_X7_noPromise (σ : ac_H) (a0 : Nat) (a1 : Int32) (a2 : Int32) : Option (Int32 × ac_H) :=
  mo_cs (m_X7_within σ a1 (0 : Int32) (3 : Int32)) fun x2 σ1 =>
  if x2 = 0 then
  (mo_cv σ1 a0 7 (m_X7_throwsIf σ1 a0 (1 : Int32) a2) fun x6 σ5 =>
  mo_z x6 (some (x6, σ5)))
  else
  (mo_cv σ1 a0 7 (m_X7_throwsIf σ1 a0 (0 : Int32) a2) fun x4 σ3 =>
  mo_z x4 (some (x4, σ3)))
set_option maxRecDepth 100000 in
set_option maxHeartbeats 4000000 in
theorem k_X7_noPromise {Λ : ex_L} {q : Nat} {σ σ' : ac_H} {a0 : Nat} {a1 : Int32} {a2 : Int32} {v : Int32} (hf : m_X7_noPromise σ a0 a1 a2 = some (v, σ')) : kx_C Λ yX7_noPromise (.code yX7_noPromise cX7_noPromise 3 (some .boolean)) ({ frames := 1, cells := 0, slots := 0, locals := 22 } : Room) [.ref a0, .int a1, .int a2] q σ (.inr (some (.int v))) σ' (fun z => z = q) := by
  refine kx_in (by decide +kernel) (Nat.le_of_ble_eq_true rfl) ?_
  intro Γ K hnm hsz hQ
  refine kx_lv (lv' := [(0, .ref a0), (1, .int a1), (2, .int a2)]) rfl ?_
  unfold m_X7_noPromise at hf
  refine kx_aload_n K dX7_noPromise_0 rfl 0 rfl ?_
  refine kx_iload_n K dX7_noPromise_1 rfl 1 rfl ?_
  refine kx_iconst (v := 0) K dX7_noPromise_2 (by decide) ?_
  refine kx_iconst (v := 3) K dX7_noPromise_3 (by decide) ?_
  refine kx_cs3i K c_X7_94 (by decide) (Nat.le_of_ble_eq_true rfl) dX7_noPromise_4 hf (fun _ _ _ h => k_X7_within h) (fun x2 σ1 hf => ?_)
  refine kx_if_ne K 14 hf dX7_noPromise_7 (by decide) (fun hf => ?_) (fun hf => ?_)
  · refine kx_iconst (v := 0) K dX7_noPromise_14 (by decide) ?_
    refine kx_iload_n K dX7_noPromise_15 rfl 2 rfl ?_
    refine kx_cv2i K c_X7_184 (by decide) (Nat.le_of_ble_eq_true rfl) dX7_noPromise_16 hf (fun _ _ _ h => k_X7_throwsIf h) (fun x4 σ3 hf => ?_)
    exact kx_zret K hQ (by decide) (by decide) (fun _ h => h) dX7_noPromise_19 hf
  · refine kx_iconst (v := 1) K dX7_noPromise_10 (by decide) ?_
    refine kx_goto K 15 dX7_noPromise_11 (by decide) ?_
    refine kx_iload_n K dX7_noPromise_15 rfl 2 rfl ?_
    refine kx_cv2i K c_X7_184 (by decide) (Nat.le_of_ble_eq_true rfl) dX7_noPromise_16 hf (fun _ _ _ h => k_X7_throwsIf h) (fun x6 σ5 hf => ?_)
    exact kx_zret K hQ (by decide) (by decide) (fun _ h => h) dX7_noPromise_19 hf
def m_X7_fault_j23  (a0 : Nat) (a1 : Int32) (a2 : Int32) (σ7 : ac_H) (w5 : Int32) (w6 : Nat) : Option (Int32 × ac_H) :=
  mo_cv σ7 w6 7 (m_X7_throwsIf σ7 w6 w5 (2 : Int32)) fun x9 σ8 =>
  if x9 = 0 then
  (mo_gr σ8 a0 7 1 fun x10 =>
  mo_cs (m_X7_ofFault σ8 x10 a1 a2) fun x12 σ11 =>
  some (x12, σ11))
  else
  (some ((0 : Int32), σ8))
def m_X7_fault (σ : ac_H) (a0 : Nat) (a1 : Int32) (a2 : Int32) : Option (Int32 × ac_H) :=
  mo_cv σ a0 7 (m_X7_noFault σ a0 a1) fun x2 σ1 =>
  if x2 = 0 then
  (mo_cs (m_X7_within σ1 a2 (0 : Int32) (2 : Int32)) fun x4 σ3 =>
  if x4 = 0 then
  (m_X7_fault_j23 a0 a1 a2 σ3 (1 : Int32) a0)
  else
  (m_X7_fault_j23 a0 a1 a2 σ3 (0 : Int32) a0))
  else
  (some ((0 : Int32), σ1))
set_option maxRecDepth 100000 in
set_option maxHeartbeats 4000000 in
theorem k_X7_fault {Λ : ex_L} {q : Nat} {σ σ' : ac_H} {a0 : Nat} {a1 : Int32} {a2 : Int32} {v : Int32} (hf : m_X7_fault σ a0 a1 a2 = some (v, σ')) : kx_C Λ yX7_fault (.code yX7_fault cX7_fault 3 (some .int)) ({ frames := 2, cells := 0, slots := 0, locals := 43 } : Room) [.ref a0, .int a1, .int a2] q σ (.inr (some (.int v))) σ' (fun z => z = q) := by
  refine kx_in (by decide +kernel) (Nat.le_of_ble_eq_true rfl) ?_
  intro Γ K hnm hsz hQ
  refine kx_lv (lv' := [(0, .ref a0), (1, .int a1), (2, .int a2)]) rfl ?_
  have B23 : ∀ (σ7 : ac_H) (w5 : Int32) (w6 : Nat), m_X7_fault_j23 a0 a1 a2 σ7 w5 w6 = some (v, σ') → kx_S Λ Γ 3 (fun z => z = q) σ7 (0) (0) 23 [(0, .ref a0), (1, .int a1), (2, .int a2)] [.int w5, .ref w6] := by
    intro σ7 w5 w6 hf
    unfold m_X7_fault_j23 at hf
    refine kx_iconst (v := 2) K dX7_fault_23 (by decide) ?_
    refine kx_cv2i K c_X7_184 (by decide) (Nat.le_of_ble_eq_true rfl) dX7_fault_24 hf (fun _ _ _ h => k_X7_throwsIf h) (fun x9 σ8 hf => ?_)
    refine kx_if_eq K 34 hf dX7_fault_27 (by decide) (fun hf => ?_) (fun hf => ?_)
    · refine kx_aload_n K dX7_fault_34 rfl 0 rfl ?_
      refine kx_gr K f_X7_7 dX7_fault_35 hf (fun x10 hf => ?_)
      refine kx_iload_n K dX7_fault_38 rfl 1 rfl ?_
      refine kx_iload_n K dX7_fault_39 rfl 2 rfl ?_
      refine kx_cs3i K c_X7_201 (by decide) (Nat.le_of_ble_eq_true rfl) dX7_fault_40 hf (fun _ _ _ h => k_X7_ofFault h) (fun x12 σ11 hf => ?_)
      exact kx_iret K hQ (by decide) (by decide) (fun _ h => h) dX7_fault_43 hf
    · refine kx_iconst (v := 0) K dX7_fault_30 (by decide) ?_
      refine kx_goto K 43 dX7_fault_31 (by decide) ?_
      exact kx_iret K hQ (by decide) (by decide) (fun _ h => h) dX7_fault_43 hf
  unfold m_X7_fault at hf
  refine kx_aload_n K dX7_fault_0 rfl 0 rfl ?_
  refine kx_iload_n K dX7_fault_1 rfl 1 rfl ?_
  refine kx_cv1i K c_X7_267 (by decide) (Nat.le_of_ble_eq_true rfl) dX7_fault_2 hf (fun _ _ _ h => k_X7_noFault h) (fun x2 σ1 hf => ?_)
  refine kx_if_ne K 30 hf dX7_fault_5 (by decide) (fun hf => ?_) (fun hf => ?_)
  · refine kx_iconst (v := 0) K dX7_fault_30 (by decide) ?_
    refine kx_goto K 43 dX7_fault_31 (by decide) ?_
    exact kx_iret K hQ (by decide) (by decide) (fun _ h => h) dX7_fault_43 hf
  · refine kx_aload_n K dX7_fault_8 rfl 0 rfl ?_
    refine kx_iload_n K dX7_fault_9 rfl 2 rfl ?_
    refine kx_iconst (v := 0) K dX7_fault_10 (by decide) ?_
    refine kx_iconst (v := 2) K dX7_fault_11 (by decide) ?_
    refine kx_cs3i K c_X7_94 (by decide) (Nat.le_of_ble_eq_true rfl) dX7_fault_12 hf (fun _ _ _ h => k_X7_within h) (fun x4 σ3 hf => ?_)
    refine kx_if_ne K 22 hf dX7_fault_15 (by decide) (fun hf => ?_) (fun hf => ?_)
    · refine kx_iconst (v := 0) K dX7_fault_22 (by decide) ?_
      refine kx_sub [(0, .ref a0), (1, .int a1), (2, .int a2)] [0, 1, 2] rfl ?_
      exact B23 _ _ _ hf
    · refine kx_iconst (v := 1) K dX7_fault_18 (by decide) ?_
      refine kx_goto K 23 dX7_fault_19 (by decide) ?_
      refine kx_sub [(0, .ref a0), (1, .int a1), (2, .int a2)] [0, 1, 2] rfl ?_
      exact B23 _ _ _ hf
def m_X7_repeated_l6  (a0 : Nat) : Nat → ac_H → Int32 → Int32 → Int32 → Option (Int32 × ac_H)
  | 0, _, _, _, _ => none
  | n + 1, σ4, v1, v2, v3 =>
    mo_gi σ4 a0 7 21 fun x5 =>
    if v3 < x5 then
    (mo_gr σ4 a0 7 17 fun x6 =>
    mo_ai σ4 x6 0 v3 fun x7 =>
    if x7 = 0 then
    (mo_gr σ4 a0 7 18 fun x8 =>
    mo_ai σ4 x8 0 v3 fun x9 =>
    mo_gr σ4 a0 7 18 fun x10 =>
    mo_ai σ4 x10 0 v3 fun x11 =>
    m_X7_repeated_l6 a0 n σ4 (v1 + ((v2 >>> (x9 &&& 31)) &&& (1 : Int32))) (v2 ||| ((1 : Int32) <<< (x11 &&& 31))) (v3 + 1))
    else
    (m_X7_repeated_l6 a0 n σ4 v1 v2 (v3 + 1)))
    else
    (some (v1, σ4))
def m_X7_repeated (σ : ac_H) (a0 : Nat) : Option (Int32 × ac_H) :=
  m_X7_repeated_l6 a0 hN_f σ (0 : Int32) (0 : Int32) (0 : Int32)
set_option maxRecDepth 100000 in
set_option maxHeartbeats 4000000 in
theorem k_X7_repeated {Λ : ex_L} {q : Nat} {σ σ' : ac_H} {a0 : Nat} {v : Int32} (hf : m_X7_repeated σ a0 = some (v, σ')) : kx_C Λ yX7_repeated (.code yX7_repeated cX7_repeated 4 (some .int)) ({ frames := 0, cells := 0, slots := 0, locals := 0 } : Room) [.ref a0] q σ (.inr (some (.int v))) σ' (fun z => z = q) := by
  refine kx_in (by decide +kernel) (Nat.le_of_ble_eq_true rfl) ?_
  intro Γ K hnm hsz hQ
  refine kx_lv (lv' := [(0, .ref a0)]) rfl ?_
  have B6 : ∀ (n6 : Nat) (σ4 : ac_H) (v1 : Int32) (v2 : Int32) (v3 : Int32), m_X7_repeated_l6 a0 n6 σ4 v1 v2 v3 = some (v, σ') → kx_S Λ Γ 4 (fun z => z = q) σ4 (0) (0) 6 [(0, .ref a0), (1, .int v1), (2, .int v2), (3, .int v3)] [] := by
    intro n6
    induction n6 with
    | zero =>
      intro σ4 v1 v2 v3 hf
      rw [m_X7_repeated_l6] at hf
      cases hf
    | succ n6 ih6 =>
      intro σ4 v1 v2 v3 hf
      rw [m_X7_repeated_l6] at hf
      refine kx_iload_n K dX7_repeated_6 rfl 3 rfl ?_
      refine kx_aload_n K dX7_repeated_7 rfl 0 rfl ?_
      refine kx_gi K f_X7_204 dX7_repeated_8 hf (fun x5 hf => ?_)
      refine kx_icmp_ge K 53 hf dX7_repeated_11 (by decide) (fun hf => ?_) (fun hf => ?_)
      · refine kx_iload_n K dX7_repeated_53 rfl 1 rfl ?_
        exact kx_iret K hQ (by decide) (by decide) (fun _ h => h) dX7_repeated_54 hf
      · refine kx_aload_n K dX7_repeated_14 rfl 0 rfl ?_
        refine kx_gr K f_X7_33 dX7_repeated_15 hf (fun x6 hf => ?_)
        refine kx_iload_n K dX7_repeated_18 rfl 3 rfl ?_
        refine kx_ai K dX7_repeated_19 hf (fun x7 hf => ?_)
        refine kx_if_ne K 47 hf dX7_repeated_20 (by decide) (fun hf => ?_) (fun hf => ?_)
        · refine kx_iinc (v := (v3 + 1)) K [(3, .int (v3 + 1)), (0, .ref a0), (1, .int v1), (2, .int v2)] dX7_repeated_47 3 rfl rfl (by decide) rfl ?_
          refine kx_goto K 6 dX7_repeated_50 (by decide) ?_
          refine kx_sub [(0, .ref a0), (1, .int v1), (2, .int v2), (3, .int (v3 + 1))] [1, 2, 3, 0] rfl ?_
          exact ih6 _ _ _ _ hf
        · refine kx_iload_n K dX7_repeated_23 rfl 1 rfl ?_
          refine kx_iload_n K dX7_repeated_24 rfl 2 rfl ?_
          refine kx_aload_n K dX7_repeated_25 rfl 0 rfl ?_
          refine kx_gr K f_X7_36 dX7_repeated_26 hf (fun x8 hf => ?_)
          refine kx_iload_n K dX7_repeated_29 rfl 3 rfl ?_
          refine kx_ai K dX7_repeated_30 hf (fun x9 hf => ?_)
          refine kx_ishr K dX7_repeated_31 ?_
          refine kx_iconst (v := 1) K dX7_repeated_32 (by decide) ?_
          refine kx_iand K dX7_repeated_33 ?_
          refine kx_iadd K dX7_repeated_34 ?_
          refine kx_istore_n K [(1, .int (v1 + ((v2 >>> (x9 &&& 31)) &&& (1 : Int32)))), (0, .ref a0), (2, .int v2), (3, .int v3)] dX7_repeated_35 rfl (by decide) rfl ?_
          refine kx_iload_n K dX7_repeated_36 rfl 2 rfl ?_
          refine kx_iconst (v := 1) K dX7_repeated_37 (by decide) ?_
          refine kx_aload_n K dX7_repeated_38 rfl 1 rfl ?_
          refine kx_gr K f_X7_36 dX7_repeated_39 hf (fun x10 hf => ?_)
          refine kx_iload_n K dX7_repeated_42 rfl 3 rfl ?_
          refine kx_ai K dX7_repeated_43 hf (fun x11 hf => ?_)
          refine kx_ishl K dX7_repeated_44 ?_
          refine kx_ior K dX7_repeated_45 ?_
          refine kx_istore_n K [(2, .int (v2 ||| ((1 : Int32) <<< (x11 &&& 31)))), (1, .int (v1 + ((v2 >>> (x9 &&& 31)) &&& (1 : Int32)))), (0, .ref a0), (3, .int v3)] dX7_repeated_46 rfl (by decide) rfl ?_
          refine kx_iinc (v := (v3 + 1)) K [(3, .int (v3 + 1)), (2, .int (v2 ||| ((1 : Int32) <<< (x11 &&& 31)))), (1, .int (v1 + ((v2 >>> (x9 &&& 31)) &&& (1 : Int32)))), (0, .ref a0)] dX7_repeated_47 3 rfl rfl (by decide) rfl ?_
          refine kx_goto K 6 dX7_repeated_50 (by decide) ?_
          refine kx_sub [(0, .ref a0), (1, .int (v1 + ((v2 >>> (x9 &&& 31)) &&& (1 : Int32)))), (2, .int (v2 ||| ((1 : Int32) <<< (x11 &&& 31)))), (3, .int (v3 + 1))] [3, 2, 1, 0] rfl ?_
          exact ih6 _ _ _ _ hf
  unfold m_X7_repeated at hf
  refine kx_iconst (v := 0) K dX7_repeated_0 (by decide) ?_
  refine kx_istore_n K [(1, .int (0 : Int32)), (0, .ref a0)] dX7_repeated_1 rfl (by decide) rfl ?_
  refine kx_iconst (v := 0) K dX7_repeated_2 (by decide) ?_
  refine kx_istore_n K [(2, .int (0 : Int32)), (1, .int (0 : Int32)), (0, .ref a0)] dX7_repeated_3 rfl (by decide) rfl ?_
  refine kx_iconst (v := 0) K dX7_repeated_4 (by decide) ?_
  refine kx_istore_n K [(3, .int (0 : Int32)), (2, .int (0 : Int32)), (1, .int (0 : Int32)), (0, .ref a0)] dX7_repeated_5 rfl (by decide) rfl ?_
  refine kx_sub [(0, .ref a0), (1, .int (0 : Int32)), (2, .int (0 : Int32)), (3, .int (0 : Int32))] [3, 2, 1, 0] rfl ?_
  exact B6 hN_f _ _ _ _ hf
def m_X7_answers_l4  (a0 : Nat) : Nat → ac_H → Int32 → Int32 → Option (Int32 × ac_H)
  | 0, _, _, _ => none
  | n + 1, σ3, v1, v2 =>
    mo_gi σ3 a0 7 21 fun x4 =>
    if v2 < x4 then
    (mo_gr σ3 a0 7 17 fun x5 =>
    mo_ai σ3 x5 0 v2 fun x6 =>
    m_X7_answers_l4 a0 n σ3 (v1 + x6) (v2 + 1))
    else
    (some (v1, σ3))
def m_X7_answers (σ : ac_H) (a0 : Nat) : Option (Int32 × ac_H) :=
  m_X7_answers_l4 a0 hN_f σ (0 : Int32) (0 : Int32)
set_option maxRecDepth 100000 in
set_option maxHeartbeats 4000000 in
theorem k_X7_answers {Λ : ex_L} {q : Nat} {σ σ' : ac_H} {a0 : Nat} {v : Int32} (hf : m_X7_answers σ a0 = some (v, σ')) : kx_C Λ yX7_answers (.code yX7_answers cX7_answers 3 (some .int)) ({ frames := 0, cells := 0, slots := 0, locals := 0 } : Room) [.ref a0] q σ (.inr (some (.int v))) σ' (fun z => z = q) := by
  refine kx_in (by decide +kernel) (Nat.le_of_ble_eq_true rfl) ?_
  intro Γ K hnm hsz hQ
  refine kx_lv (lv' := [(0, .ref a0)]) rfl ?_
  have B4 : ∀ (n4 : Nat) (σ3 : ac_H) (v1 : Int32) (v2 : Int32), m_X7_answers_l4 a0 n4 σ3 v1 v2 = some (v, σ') → kx_S Λ Γ 3 (fun z => z = q) σ3 (0) (0) 4 [(0, .ref a0), (1, .int v1), (2, .int v2)] [] := by
    intro n4
    induction n4 with
    | zero =>
      intro σ3 v1 v2 hf
      rw [m_X7_answers_l4] at hf
      cases hf
    | succ n4 ih4 =>
      intro σ3 v1 v2 hf
      rw [m_X7_answers_l4] at hf
      refine kx_iload_n K dX7_answers_4 rfl 2 rfl ?_
      refine kx_aload_n K dX7_answers_5 rfl 0 rfl ?_
      refine kx_gi K f_X7_204 dX7_answers_6 hf (fun x4 hf => ?_)
      refine kx_icmp_ge K 27 hf dX7_answers_9 (by decide) (fun hf => ?_) (fun hf => ?_)
      · refine kx_iload_n K dX7_answers_27 rfl 1 rfl ?_
        exact kx_iret K hQ (by decide) (by decide) (fun _ h => h) dX7_answers_28 hf
      · refine kx_iload_n K dX7_answers_12 rfl 1 rfl ?_
        refine kx_aload_n K dX7_answers_13 rfl 0 rfl ?_
        refine kx_gr K f_X7_33 dX7_answers_14 hf (fun x5 hf => ?_)
        refine kx_iload_n K dX7_answers_17 rfl 2 rfl ?_
        refine kx_ai K dX7_answers_18 hf (fun x6 hf => ?_)
        refine kx_iadd K dX7_answers_19 ?_
        refine kx_istore_n K [(1, .int (v1 + x6)), (0, .ref a0), (2, .int v2)] dX7_answers_20 rfl (by decide) rfl ?_
        refine kx_iinc (v := (v2 + 1)) K [(2, .int (v2 + 1)), (1, .int (v1 + x6)), (0, .ref a0)] dX7_answers_21 2 rfl rfl (by decide) rfl ?_
        refine kx_goto K 4 dX7_answers_24 (by decide) ?_
        refine kx_sub [(0, .ref a0), (1, .int (v1 + x6)), (2, .int (v2 + 1))] [2, 1, 0] rfl ?_
        exact ih4 _ _ _ hf
  unfold m_X7_answers at hf
  refine kx_iconst (v := 0) K dX7_answers_0 (by decide) ?_
  refine kx_istore_n K [(1, .int (0 : Int32)), (0, .ref a0)] dX7_answers_1 rfl (by decide) rfl ?_
  refine kx_iconst (v := 0) K dX7_answers_2 (by decide) ?_
  refine kx_istore_n K [(2, .int (0 : Int32)), (1, .int (0 : Int32)), (0, .ref a0)] dX7_answers_3 rfl (by decide) rfl ?_
  refine kx_sub [(0, .ref a0), (1, .int (0 : Int32)), (2, .int (0 : Int32))] [2, 1, 0] rfl ?_
  exact B4 hN_f _ _ _ hf
def m_X7_statesMany_l4  (a0 : Nat) : Nat → ac_H → Int32 → Int32 → Option (Int32 × ac_H)
  | 0, _, _, _ => none
  | n + 1, σ3, v1, v2 =>
    if v2 < (144 : Int32) then
    (mo_gr σ3 a0 7 28 fun x4 =>
    mo_ai σ3 x4 2 v2 fun x5 =>
    if x5 = 0 then
    (m_X7_statesMany_l4 a0 n σ3 (v1 + (0 : Int32)) (v2 + 1))
    else
    (m_X7_statesMany_l4 a0 n σ3 (v1 + (1 : Int32)) (v2 + 1)))
    else
    (some (v1, σ3))
def m_X7_statesMany (σ : ac_H) (a0 : Nat) : Option (Int32 × ac_H) :=
  m_X7_statesMany_l4 a0 hN_f σ (0 : Int32) (0 : Int32)
set_option maxRecDepth 100000 in
set_option maxHeartbeats 4000000 in
theorem k_X7_statesMany {Λ : ex_L} {q : Nat} {σ σ' : ac_H} {a0 : Nat} {v : Int32} (hf : m_X7_statesMany σ a0 = some (v, σ')) : kx_C Λ yX7_statesMany (.code yX7_statesMany cX7_statesMany 3 (some .int)) ({ frames := 0, cells := 0, slots := 0, locals := 0 } : Room) [.ref a0] q σ (.inr (some (.int v))) σ' (fun z => z = q) := by
  refine kx_in (by decide +kernel) (Nat.le_of_ble_eq_true rfl) ?_
  intro Γ K hnm hsz hQ
  refine kx_lv (lv' := [(0, .ref a0)]) rfl ?_
  have B4 : ∀ (n4 : Nat) (σ3 : ac_H) (v1 : Int32) (v2 : Int32), m_X7_statesMany_l4 a0 n4 σ3 v1 v2 = some (v, σ') → kx_S Λ Γ 3 (fun z => z = q) σ3 (0) (0) 4 [(0, .ref a0), (1, .int v1), (2, .int v2)] [] := by
    intro n4
    induction n4 with
    | zero =>
      intro σ3 v1 v2 hf
      rw [m_X7_statesMany_l4] at hf
      cases hf
    | succ n4 ih4 =>
      intro σ3 v1 v2 hf
      rw [m_X7_statesMany_l4] at hf
      refine kx_iload_n K dX7_statesMany_4 rfl 2 rfl ?_
      refine kx_sipush (v := 144) K dX7_statesMany_5 (by decide) ?_
      refine kx_icmp_ge K 34 hf dX7_statesMany_8 (by decide) (fun hf => ?_) (fun hf => ?_)
      · refine kx_iload_n K dX7_statesMany_34 rfl 1 rfl ?_
        exact kx_iret K hQ (by decide) (by decide) (fun _ h => h) dX7_statesMany_35 hf
      · refine kx_iload_n K dX7_statesMany_11 rfl 1 rfl ?_
        refine kx_aload_n K dX7_statesMany_12 rfl 0 rfl ?_
        refine kx_gr K f_X7_48 dX7_statesMany_13 hf (fun x4 hf => ?_)
        refine kx_iload_n K dX7_statesMany_16 rfl 2 rfl ?_
        refine kx_az K dX7_statesMany_17 hf (fun x5 hf => ?_)
        refine kx_if_eq K 25 hf dX7_statesMany_18 (by decide) (fun hf => ?_) (fun hf => ?_)
        · refine kx_iconst (v := 0) K dX7_statesMany_25 (by decide) ?_
          refine kx_iadd K dX7_statesMany_26 ?_
          refine kx_istore_n K [(1, .int (v1 + (0 : Int32))), (0, .ref a0), (2, .int v2)] dX7_statesMany_27 rfl (by decide) rfl ?_
          refine kx_iinc (v := (v2 + 1)) K [(2, .int (v2 + 1)), (1, .int (v1 + (0 : Int32))), (0, .ref a0)] dX7_statesMany_28 2 rfl rfl (by decide) rfl ?_
          refine kx_goto K 4 dX7_statesMany_31 (by decide) ?_
          refine kx_sub [(0, .ref a0), (1, .int (v1 + (0 : Int32))), (2, .int (v2 + 1))] [2, 1, 0] rfl ?_
          exact ih4 _ _ _ hf
        · refine kx_iconst (v := 1) K dX7_statesMany_21 (by decide) ?_
          refine kx_goto K 26 dX7_statesMany_22 (by decide) ?_
          refine kx_iadd K dX7_statesMany_26 ?_
          refine kx_istore_n K [(1, .int (v1 + (1 : Int32))), (0, .ref a0), (2, .int v2)] dX7_statesMany_27 rfl (by decide) rfl ?_
          refine kx_iinc (v := (v2 + 1)) K [(2, .int (v2 + 1)), (1, .int (v1 + (1 : Int32))), (0, .ref a0)] dX7_statesMany_28 2 rfl rfl (by decide) rfl ?_
          refine kx_goto K 4 dX7_statesMany_31 (by decide) ?_
          refine kx_sub [(0, .ref a0), (1, .int (v1 + (1 : Int32))), (2, .int (v2 + 1))] [2, 1, 0] rfl ?_
          exact ih4 _ _ _ hf
  unfold m_X7_statesMany at hf
  refine kx_iconst (v := 0) K dX7_statesMany_0 (by decide) ?_
  refine kx_istore_n K [(1, .int (0 : Int32)), (0, .ref a0)] dX7_statesMany_1 rfl (by decide) rfl ?_
  refine kx_iconst (v := 0) K dX7_statesMany_2 (by decide) ?_
  refine kx_istore_n K [(2, .int (0 : Int32)), (1, .int (0 : Int32)), (0, .ref a0)] dX7_statesMany_3 rfl (by decide) rfl ?_
  refine kx_sub [(0, .ref a0), (1, .int (0 : Int32)), (2, .int (0 : Int32))] [2, 1, 0] rfl ?_
  exact B4 hN_f _ _ _ hf
def m_X7_result_j21  (a0 : Nat) (a1 : Int32) (σ6 : ac_H) (w4 : Int32) (w5 : Nat) : Option (Int32 × ac_H) :=
  mo_cv σ6 w5 7 (m_X7_throwsIf σ6 w5 w4 (1 : Int32)) fun x8 σ7 =>
  if x8 = 0 then
  (mo_gr σ7 a0 7 1 fun x9 =>
  mo_cv σ7 a0 7 (m_X7_runs σ7 a0 x9) fun _ σ10 =>
  if a1 = (0 : Int32) then
  (mo_gi σ10 a0 7 26 fun x11 =>
  some (x11, σ10))
  else
  if a1 = (1 : Int32) then
  (mo_gi σ10 a0 7 21 fun x13 =>
  some (x13, σ10))
  else
  if a1 = (2 : Int32) then
  (mo_gi σ10 a0 7 23 fun x15 =>
  some (x15, σ10))
  else
  if a1 = (3 : Int32) then
  (mo_gi σ10 a0 7 25 fun x17 =>
  some (x17, σ10))
  else
  if a1 = (4 : Int32) then
  (mo_cv σ10 a0 7 (m_X7_repeated σ10 a0) fun x20 σ19 =>
  some (x20, σ19))
  else
  if a1 = (5 : Int32) then
  (mo_cv σ10 a0 7 (m_X7_answers σ10 a0) fun x23 σ22 =>
  some (x23, σ22))
  else
  if a1 = (6 : Int32) then
  (mo_cv σ10 a0 7 (m_X7_statesMany σ10 a0) fun x26 σ25 =>
  some (x26, σ25))
  else
  (mo_cv σ10 a0 7 (m_X7_brokenOnes σ10 a0) fun x29 σ28 =>
  some (x29, σ28)))
  else
  (some ((0 : Int32), σ7))
def m_X7_result (σ : ac_H) (a0 : Nat) (a1 : Int32) : Option (Int32 × ac_H) :=
  mo_pv σ a0 7 0 (.int (0 : Int32)) fun σ1 =>
  mo_cs (m_X7_within σ1 a1 (0 : Int32) (7 : Int32)) fun x3 σ2 =>
  if x3 = 0 then
  (m_X7_result_j21 a0 a1 σ2 (1 : Int32) a0)
  else
  (m_X7_result_j21 a0 a1 σ2 (0 : Int32) a0)
set_option maxRecDepth 100000 in
set_option maxHeartbeats 4000000 in
theorem k_X7_result {Λ : ex_L} {q : Nat} {σ σ' : ac_H} {a0 : Nat} {a1 : Int32} {v : Int32} (hf : m_X7_result σ a0 a1 = some (v, σ')) : kx_C Λ yX7_result (.code yX7_result cX7_result 2 (some .int)) ({ frames := 6, cells := 0, slots := 0, locals := 136 } : Room) [.ref a0, .int a1] q σ (.inr (some (.int v))) σ' (fun z => z = q) := by
  refine kx_in (by decide +kernel) (Nat.le_of_ble_eq_true rfl) ?_
  intro Γ K hnm hsz hQ
  refine kx_lv (lv' := [(0, .ref a0), (1, .int a1)]) rfl ?_
  have B21 : ∀ (σ6 : ac_H) (w4 : Int32) (w5 : Nat), m_X7_result_j21 a0 a1 σ6 w4 w5 = some (v, σ') → kx_S Λ Γ 2 (fun z => z = q) σ6 (0) (0) 21 [(0, .ref a0), (1, .int a1)] [.int w4, .ref w5] := by
    intro σ6 w4 w5 hf
    unfold m_X7_result_j21 at hf
    refine kx_iconst (v := 1) K dX7_result_21 (by decide) ?_
    refine kx_cv2i K c_X7_184 (by decide) (Nat.le_of_ble_eq_true rfl) dX7_result_22 hf (fun _ _ _ h => k_X7_throwsIf h) (fun x8 σ7 hf => ?_)
    refine kx_if_eq K 30 hf dX7_result_25 (by decide) (fun hf => ?_) (fun hf => ?_)
    · refine kx_aload_n K dX7_result_30 rfl 0 rfl ?_
      refine kx_aload_n K dX7_result_31 rfl 0 rfl ?_
      refine kx_gr K f_X7_7 dX7_result_32 hf (fun x9 hf => ?_)
      refine kx_cv1v K c_X7_257 (by decide) (Nat.le_of_ble_eq_true rfl) dX7_result_35 hf (fun _ _ _ h => k_X7_runs h) (fun _ σ10 hf => ?_)
      refine kx_iload_n K dX7_result_38 rfl 1 rfl ?_
      refine kx_swI (c := 0) K 80 dX7_result_39 (by decide) (by decide) rfl (by decide) hf (fun hf => ?_) (fun h12 hf => ?_)
      · refine kx_aload_n K dX7_result_80 rfl 0 rfl ?_
        refine kx_gi K f_X7_207 dX7_result_81 hf (fun x11 hf => ?_)
        exact kx_iret K hQ (by decide) (by decide) (fun _ h => h) dX7_result_84 hf
      refine kx_swI (c := 1) K 85 dX7_result_39 (by decide) (by decide) rfl (by decide) hf (fun hf => ?_) (fun h14 hf => ?_)
      · refine kx_aload_n K dX7_result_85 rfl 0 rfl ?_
        refine kx_gi K f_X7_204 dX7_result_86 hf (fun x13 hf => ?_)
        exact kx_iret K hQ (by decide) (by decide) (fun _ h => h) dX7_result_89 hf
      refine kx_swI (c := 2) K 90 dX7_result_39 (by decide) (by decide) rfl (by decide) hf (fun hf => ?_) (fun h16 hf => ?_)
      · refine kx_aload_n K dX7_result_90 rfl 0 rfl ?_
        refine kx_gi K f_X7_210 dX7_result_91 hf (fun x15 hf => ?_)
        exact kx_iret K hQ (by decide) (by decide) (fun _ h => h) dX7_result_94 hf
      refine kx_swI (c := 3) K 95 dX7_result_39 (by decide) (by decide) rfl (by decide) hf (fun hf => ?_) (fun h18 hf => ?_)
      · refine kx_aload_n K dX7_result_95 rfl 0 rfl ?_
        refine kx_gi K f_X7_216 dX7_result_96 hf (fun x17 hf => ?_)
        exact kx_iret K hQ (by decide) (by decide) (fun _ h => h) dX7_result_99 hf
      refine kx_swI (c := 4) K 100 dX7_result_39 (by decide) (by decide) rfl (by decide) hf (fun hf => ?_) (fun h21 hf => ?_)
      · refine kx_aload_n K dX7_result_100 rfl 0 rfl ?_
        refine kx_cv0i K c_X7_270 (by decide) (Nat.le_of_ble_eq_true rfl) dX7_result_101 hf (fun _ _ _ h => k_X7_repeated h) (fun x20 σ19 hf => ?_)
        exact kx_iret K hQ (by decide) (by decide) (fun _ h => h) dX7_result_104 hf
      refine kx_swI (c := 5) K 105 dX7_result_39 (by decide) (by decide) rfl (by decide) hf (fun hf => ?_) (fun h24 hf => ?_)
      · refine kx_aload_n K dX7_result_105 rfl 0 rfl ?_
        refine kx_cv0i K c_X7_273 (by decide) (Nat.le_of_ble_eq_true rfl) dX7_result_106 hf (fun _ _ _ h => k_X7_answers h) (fun x23 σ22 hf => ?_)
        exact kx_iret K hQ (by decide) (by decide) (fun _ h => h) dX7_result_109 hf
      refine kx_swI (c := 6) K 110 dX7_result_39 (by decide) (by decide) rfl (by decide) hf (fun hf => ?_) (fun h27 hf => ?_)
      · refine kx_aload_n K dX7_result_110 rfl 0 rfl ?_
        refine kx_cv0i K c_X7_276 (by decide) (Nat.le_of_ble_eq_true rfl) dX7_result_111 hf (fun _ _ _ h => k_X7_statesMany h) (fun x26 σ25 hf => ?_)
        exact kx_iret K hQ (by decide) (by decide) (fun _ h => h) dX7_result_114 hf
      refine kx_swD K 115 dX7_result_39 (by have := lv_neT h12 (show (0 : Int32).toInt = 0 by decide); have := lv_neT h14 (show (1 : Int32).toInt = 1 by decide); have := lv_neT h16 (show (2 : Int32).toInt = 2 by decide); have := lv_neT h18 (show (3 : Int32).toInt = 3 by decide); have := lv_neT h21 (show (4 : Int32).toInt = 4 by decide); have := lv_neT h24 (show (5 : Int32).toInt = 5 by decide); have := lv_neT h27 (show (6 : Int32).toInt = 6 by decide); omega) (by decide) ?_
      refine kx_aload_n K dX7_result_115 rfl 0 rfl ?_
      refine kx_cv0i K c_X7_279 (by decide) (Nat.le_of_ble_eq_true rfl) dX7_result_116 hf (fun _ _ _ h => k_X7_brokenOnes h) (fun x29 σ28 hf => ?_)
      exact kx_iret K hQ (by decide) (by decide) (fun _ h => h) dX7_result_119 hf
    · refine kx_iconst (v := 0) K dX7_result_28 (by decide) ?_
      exact kx_iret K hQ (by decide) (by decide) (fun _ h => h) dX7_result_29 hf
  unfold m_X7_result at hf
  refine kx_aload_n K dX7_result_0 rfl 0 rfl ?_
  refine kx_iconst (v := 0) K dX7_result_1 (by decide) ?_
  refine kx_pi K f_X7_65 dX7_result_2 hf (fun σ1 hf => ?_)
  refine kx_aload_n K dX7_result_5 rfl 0 rfl ?_
  refine kx_iload_n K dX7_result_6 rfl 1 rfl ?_
  refine kx_iconst (v := 0) K dX7_result_7 (by decide) ?_
  refine kx_bipush (v := 7) K dX7_result_8 (by decide) ?_
  refine kx_cs3i K c_X7_94 (by decide) (Nat.le_of_ble_eq_true rfl) dX7_result_10 hf (fun _ _ _ h => k_X7_within h) (fun x3 σ2 hf => ?_)
  refine kx_if_ne K 20 hf dX7_result_13 (by decide) (fun hf => ?_) (fun hf => ?_)
  · refine kx_iconst (v := 0) K dX7_result_20 (by decide) ?_
    refine kx_sub [(0, .ref a0), (1, .int a1)] [0, 1] rfl ?_
    exact B21 _ _ _ hf
  · refine kx_iconst (v := 1) K dX7_result_16 (by decide) ?_
    refine kx_goto K 21 dX7_result_17 (by decide) ?_
    refine kx_sub [(0, .ref a0), (1, .int a1)] [0, 1] rfl ?_
    exact B21 _ _ _ hf
def m_X7_delivered (σ : ac_H) (a0 : Nat) (a1 : Int32) : Option (Int32 × ac_H) :=
  mo_pv σ a0 7 0 (.int (0 : Int32)) fun σ1 =>
  mo_gr σ1 a0 7 1 fun x2 =>
  mo_cv σ1 a0 7 (m_X7_runs σ1 a0 x2) fun _ σ3 =>
  mo_gi σ3 a0 7 23 fun x4 =>
  mo_cs (m_X7_within σ3 a1 (0 : Int32) (x4 - (1 : Int32))) fun x6 σ5 =>
  if x6 = 0 then
  (some ((-1 : Int32), σ5))
  else
  (mo_gr σ5 a0 7 22 fun x7 =>
  mo_ai σ5 x7 0 a1 fun x8 =>
  some (x8, σ5))
set_option maxRecDepth 100000 in
set_option maxHeartbeats 4000000 in
theorem k_X7_delivered {Λ : ex_L} {q : Nat} {σ σ' : ac_H} {a0 : Nat} {a1 : Int32} {v : Int32} (hf : m_X7_delivered σ a0 a1 = some (v, σ')) : kx_C Λ yX7_delivered (.code yX7_delivered cX7_delivered 2 (some .int)) ({ frames := 6, cells := 0, slots := 0, locals := 136 } : Room) [.ref a0, .int a1] q σ (.inr (some (.int v))) σ' (fun z => z = q) := by
  refine kx_in (by decide +kernel) (Nat.le_of_ble_eq_true rfl) ?_
  intro Γ K hnm hsz hQ
  refine kx_lv (lv' := [(0, .ref a0), (1, .int a1)]) rfl ?_
  unfold m_X7_delivered at hf
  refine kx_aload_n K dX7_delivered_0 rfl 0 rfl ?_
  refine kx_iconst (v := 0) K dX7_delivered_1 (by decide) ?_
  refine kx_pi K f_X7_65 dX7_delivered_2 hf (fun σ1 hf => ?_)
  refine kx_aload_n K dX7_delivered_5 rfl 0 rfl ?_
  refine kx_aload_n K dX7_delivered_6 rfl 0 rfl ?_
  refine kx_gr K f_X7_7 dX7_delivered_7 hf (fun x2 hf => ?_)
  refine kx_cv1v K c_X7_257 (by decide) (Nat.le_of_ble_eq_true rfl) dX7_delivered_10 hf (fun _ _ _ h => k_X7_runs h) (fun _ σ3 hf => ?_)
  refine kx_iload_n K dX7_delivered_13 rfl 1 rfl ?_
  refine kx_iconst (v := 0) K dX7_delivered_14 (by decide) ?_
  refine kx_aload_n K dX7_delivered_15 rfl 0 rfl ?_
  refine kx_gi K f_X7_210 dX7_delivered_16 hf (fun x4 hf => ?_)
  refine kx_iconst (v := 1) K dX7_delivered_19 (by decide) ?_
  refine kx_isub K dX7_delivered_20 ?_
  refine kx_cs3i K c_X7_94 (by decide) (Nat.le_of_ble_eq_true rfl) dX7_delivered_21 hf (fun _ _ _ h => k_X7_within h) (fun x6 σ5 hf => ?_)
  refine kx_if_eq K 36 hf dX7_delivered_24 (by decide) (fun hf => ?_) (fun hf => ?_)
  · refine kx_iconst (v := -1) K dX7_delivered_36 (by decide) ?_
    exact kx_iret K hQ (by decide) (by decide) (fun _ h => h) dX7_delivered_37 hf
  · refine kx_aload_n K dX7_delivered_27 rfl 0 rfl ?_
    refine kx_gr K f_X7_45 dX7_delivered_28 hf (fun x7 hf => ?_)
    refine kx_iload_n K dX7_delivered_31 rfl 1 rfl ?_
    refine kx_ai K dX7_delivered_32 hf (fun x8 hf => ?_)
    refine kx_goto K 37 dX7_delivered_33 (by decide) ?_
    exact kx_iret K hQ (by decide) (by decide) (fun _ h => h) dX7_delivered_37 hf
def m_X7_sent_j20  (a0 : Nat) (a1 : Int32) (a2 : Int32) (σ6 : ac_H) (w4 : Int32) (w5 : Nat) : Option (Int32 × ac_H) :=
  mo_cv σ6 w5 7 (m_X7_throwsIf σ6 w5 w4 (1 : Int32)) fun x8 σ7 =>
  if x8 = 0 then
  (mo_gr σ7 a0 7 1 fun x9 =>
  mo_cv σ7 a0 7 (m_X7_runs σ7 a0 x9) fun _ σ10 =>
  mo_gi σ10 a0 7 21 fun x11 =>
  mo_cs (m_X7_within σ10 a1 (0 : Int32) (x11 - (1 : Int32))) fun x13 σ12 =>
  if x13 = 0 then
  (some ((-1 : Int32), σ12))
  else
  (if a2 = 0 then
  (mo_gr σ12 a0 7 16 fun x22 =>
  mo_ai σ12 x22 0 a1 fun x23 =>
  some (x23, σ12))
  else
  (if a2 = (1 : Int32) then
  (mo_gr σ12 a0 7 17 fun x20 =>
  mo_ai σ12 x20 0 a1 fun x21 =>
  some (x21, σ12))
  else
  (if a2 = (2 : Int32) then
  (mo_gr σ12 a0 7 18 fun x18 =>
  mo_ai σ12 x18 0 a1 fun x19 =>
  some (x19, σ12))
  else
  (if a2 = (3 : Int32) then
  (mo_gr σ12 a0 7 19 fun x16 =>
  mo_ai σ12 x16 0 a1 fun x17 =>
  some (x17, σ12))
  else
  (mo_gr σ12 a0 7 20 fun x14 =>
  mo_ai σ12 x14 0 a1 fun x15 =>
  some (x15, σ12)))))))
  else
  (some ((0 : Int32), σ7))
def m_X7_sent (σ : ac_H) (a0 : Nat) (a1 : Int32) (a2 : Int32) : Option (Int32 × ac_H) :=
  mo_pv σ a0 7 0 (.int (0 : Int32)) fun σ1 =>
  mo_cs (m_X7_within σ1 a2 (0 : Int32) (4 : Int32)) fun x3 σ2 =>
  if x3 = 0 then
  (m_X7_sent_j20 a0 a1 a2 σ2 (1 : Int32) a0)
  else
  (m_X7_sent_j20 a0 a1 a2 σ2 (0 : Int32) a0)
set_option maxRecDepth 100000 in
set_option maxHeartbeats 4000000 in
theorem k_X7_sent {Λ : ex_L} {q : Nat} {σ σ' : ac_H} {a0 : Nat} {a1 : Int32} {a2 : Int32} {v : Int32} (hf : m_X7_sent σ a0 a1 a2 = some (v, σ')) : kx_C Λ yX7_sent (.code yX7_sent cX7_sent 3 (some .int)) ({ frames := 6, cells := 0, slots := 0, locals := 136 } : Room) [.ref a0, .int a1, .int a2] q σ (.inr (some (.int v))) σ' (fun z => z = q) := by
  refine kx_in (by decide +kernel) (Nat.le_of_ble_eq_true rfl) ?_
  intro Γ K hnm hsz hQ
  refine kx_lv (lv' := [(0, .ref a0), (1, .int a1), (2, .int a2)]) rfl ?_
  have B20 : ∀ (σ6 : ac_H) (w4 : Int32) (w5 : Nat), m_X7_sent_j20 a0 a1 a2 σ6 w4 w5 = some (v, σ') → kx_S Λ Γ 3 (fun z => z = q) σ6 (0) (0) 20 [(0, .ref a0), (1, .int a1), (2, .int a2)] [.int w4, .ref w5] := by
    intro σ6 w4 w5 hf
    unfold m_X7_sent_j20 at hf
    refine kx_iconst (v := 1) K dX7_sent_20 (by decide) ?_
    refine kx_cv2i K c_X7_184 (by decide) (Nat.le_of_ble_eq_true rfl) dX7_sent_21 hf (fun _ _ _ h => k_X7_throwsIf h) (fun x8 σ7 hf => ?_)
    refine kx_if_eq K 29 hf dX7_sent_24 (by decide) (fun hf => ?_) (fun hf => ?_)
    · refine kx_aload_n K dX7_sent_29 rfl 0 rfl ?_
      refine kx_aload_n K dX7_sent_30 rfl 0 rfl ?_
      refine kx_gr K f_X7_7 dX7_sent_31 hf (fun x9 hf => ?_)
      refine kx_cv1v K c_X7_257 (by decide) (Nat.le_of_ble_eq_true rfl) dX7_sent_34 hf (fun _ _ _ h => k_X7_runs h) (fun _ σ10 hf => ?_)
      refine kx_iload_n K dX7_sent_37 rfl 1 rfl ?_
      refine kx_iconst (v := 0) K dX7_sent_38 (by decide) ?_
      refine kx_aload_n K dX7_sent_39 rfl 0 rfl ?_
      refine kx_gi K f_X7_204 dX7_sent_40 hf (fun x11 hf => ?_)
      refine kx_iconst (v := 1) K dX7_sent_43 (by decide) ?_
      refine kx_isub K dX7_sent_44 ?_
      refine kx_cs3i K c_X7_94 (by decide) (Nat.le_of_ble_eq_true rfl) dX7_sent_45 hf (fun _ _ _ h => k_X7_within h) (fun x13 σ12 hf => ?_)
      refine kx_if_ne K 53 hf dX7_sent_48 (by decide) (fun hf => ?_) (fun hf => ?_)
      · refine kx_iload_n K dX7_sent_53 rfl 2 rfl ?_
        refine kx_if_ne K 66 hf dX7_sent_54 (by decide) (fun hf => ?_) (fun hf => ?_)
        · refine kx_iload_n K dX7_sent_66 rfl 2 rfl ?_
          refine kx_iconst (v := 1) K dX7_sent_67 (by decide) ?_
          refine kx_icmp_ne K 80 hf dX7_sent_68 (by decide) (fun hf => ?_) (fun hf => ?_)
          · refine kx_iload_n K dX7_sent_80 rfl 2 rfl ?_
            refine kx_iconst (v := 2) K dX7_sent_81 (by decide) ?_
            refine kx_icmp_ne K 94 hf dX7_sent_82 (by decide) (fun hf => ?_) (fun hf => ?_)
            · refine kx_iload_n K dX7_sent_94 rfl 2 rfl ?_
              refine kx_iconst (v := 3) K dX7_sent_95 (by decide) ?_
              refine kx_icmp_ne K 108 hf dX7_sent_96 (by decide) (fun hf => ?_) (fun hf => ?_)
              · refine kx_aload_n K dX7_sent_108 rfl 0 rfl ?_
                refine kx_gr K f_X7_42 dX7_sent_109 hf (fun x14 hf => ?_)
                refine kx_iload_n K dX7_sent_112 rfl 1 rfl ?_
                refine kx_ai K dX7_sent_113 hf (fun x15 hf => ?_)
                exact kx_iret K hQ (by decide) (by decide) (fun _ h => h) dX7_sent_114 hf
              · refine kx_aload_n K dX7_sent_99 rfl 0 rfl ?_
                refine kx_gr K f_X7_39 dX7_sent_100 hf (fun x16 hf => ?_)
                refine kx_iload_n K dX7_sent_103 rfl 1 rfl ?_
                refine kx_ai K dX7_sent_104 hf (fun x17 hf => ?_)
                refine kx_goto K 114 dX7_sent_105 (by decide) ?_
                exact kx_iret K hQ (by decide) (by decide) (fun _ h => h) dX7_sent_114 hf
            · refine kx_aload_n K dX7_sent_85 rfl 0 rfl ?_
              refine kx_gr K f_X7_36 dX7_sent_86 hf (fun x18 hf => ?_)
              refine kx_iload_n K dX7_sent_89 rfl 1 rfl ?_
              refine kx_ai K dX7_sent_90 hf (fun x19 hf => ?_)
              refine kx_goto K 114 dX7_sent_91 (by decide) ?_
              exact kx_iret K hQ (by decide) (by decide) (fun _ h => h) dX7_sent_114 hf
          · refine kx_aload_n K dX7_sent_71 rfl 0 rfl ?_
            refine kx_gr K f_X7_33 dX7_sent_72 hf (fun x20 hf => ?_)
            refine kx_iload_n K dX7_sent_75 rfl 1 rfl ?_
            refine kx_ai K dX7_sent_76 hf (fun x21 hf => ?_)
            refine kx_goto K 114 dX7_sent_77 (by decide) ?_
            exact kx_iret K hQ (by decide) (by decide) (fun _ h => h) dX7_sent_114 hf
        · refine kx_aload_n K dX7_sent_57 rfl 0 rfl ?_
          refine kx_gr K f_X7_30 dX7_sent_58 hf (fun x22 hf => ?_)
          refine kx_iload_n K dX7_sent_61 rfl 1 rfl ?_
          refine kx_ai K dX7_sent_62 hf (fun x23 hf => ?_)
          refine kx_goto K 114 dX7_sent_63 (by decide) ?_
          exact kx_iret K hQ (by decide) (by decide) (fun _ h => h) dX7_sent_114 hf
      · refine kx_iconst (v := -1) K dX7_sent_51 (by decide) ?_
        exact kx_iret K hQ (by decide) (by decide) (fun _ h => h) dX7_sent_52 hf
    · refine kx_iconst (v := 0) K dX7_sent_27 (by decide) ?_
      exact kx_iret K hQ (by decide) (by decide) (fun _ h => h) dX7_sent_28 hf
  unfold m_X7_sent at hf
  refine kx_aload_n K dX7_sent_0 rfl 0 rfl ?_
  refine kx_iconst (v := 0) K dX7_sent_1 (by decide) ?_
  refine kx_pi K f_X7_65 dX7_sent_2 hf (fun σ1 hf => ?_)
  refine kx_aload_n K dX7_sent_5 rfl 0 rfl ?_
  refine kx_iload_n K dX7_sent_6 rfl 2 rfl ?_
  refine kx_iconst (v := 0) K dX7_sent_7 (by decide) ?_
  refine kx_iconst (v := 4) K dX7_sent_8 (by decide) ?_
  refine kx_cs3i K c_X7_94 (by decide) (Nat.le_of_ble_eq_true rfl) dX7_sent_9 hf (fun _ _ _ h => k_X7_within h) (fun x3 σ2 hf => ?_)
  refine kx_if_ne K 19 hf dX7_sent_12 (by decide) (fun hf => ?_) (fun hf => ?_)
  · refine kx_iconst (v := 0) K dX7_sent_19 (by decide) ?_
    refine kx_sub [(0, .ref a0), (1, .int a1), (2, .int a2)] [0, 1, 2] rfl ?_
    exact B20 _ _ _ hf
  · refine kx_iconst (v := 1) K dX7_sent_15 (by decide) ?_
    refine kx_goto K 20 dX7_sent_16 (by decide) ?_
    refine kx_sub [(0, .ref a0), (1, .int a1), (2, .int a2)] [0, 1, 2] rfl ?_
    exact B20 _ _ _ hf
def m_X7_breaks (σ : ac_H) (a0 : Nat) (a1 : Int32) : Option (Int32 × ac_H) :=
  mo_pv σ a0 7 0 (.int (0 : Int32)) fun σ1 =>
  mo_cv σ1 a0 7 (m_X7_noPromise σ1 a0 a1 (1 : Int32)) fun x3 σ2 =>
  if x3 = 0 then
  (mo_gr σ2 a0 7 1 fun x4 =>
  mo_cv σ2 a0 7 (m_X7_breaksBy σ2 a0 x4 a1) fun x6 σ5 =>
  if x6 = 0 then
  (mo_z (0 : Int32) (some ((0 : Int32), σ5)))
  else
  (mo_z (1 : Int32) (some ((1 : Int32), σ5))))
  else
  (mo_z (0 : Int32) (some ((0 : Int32), σ2)))
set_option maxRecDepth 100000 in
set_option maxHeartbeats 4000000 in
theorem k_X7_breaks {Λ : ex_L} {q : Nat} {σ σ' : ac_H} {a0 : Nat} {a1 : Int32} {v : Int32} (hf : m_X7_breaks σ a0 a1 = some (v, σ')) : kx_C Λ yX7_breaks (.code yX7_breaks cX7_breaks 2 (some .boolean)) ({ frames := 7, cells := 0, slots := 0, locals := 158 } : Room) [.ref a0, .int a1] q σ (.inr (some (.int v))) σ' (fun z => z = q) := by
  refine kx_in (by decide +kernel) (Nat.le_of_ble_eq_true rfl) ?_
  intro Γ K hnm hsz hQ
  refine kx_lv (lv' := [(0, .ref a0), (1, .int a1)]) rfl ?_
  unfold m_X7_breaks at hf
  refine kx_aload_n K dX7_breaks_0 rfl 0 rfl ?_
  refine kx_iconst (v := 0) K dX7_breaks_1 (by decide) ?_
  refine kx_pi K f_X7_65 dX7_breaks_2 hf (fun σ1 hf => ?_)
  refine kx_aload_n K dX7_breaks_5 rfl 0 rfl ?_
  refine kx_iload_n K dX7_breaks_6 rfl 1 rfl ?_
  refine kx_iconst (v := 1) K dX7_breaks_7 (by decide) ?_
  refine kx_cv2i K c_X7_282 (by decide) (Nat.le_of_ble_eq_true rfl) dX7_breaks_8 hf (fun _ _ _ h => k_X7_noPromise h) (fun x3 σ2 hf => ?_)
  refine kx_if_ne K 30 hf dX7_breaks_11 (by decide) (fun hf => ?_) (fun hf => ?_)
  · refine kx_iconst (v := 0) K dX7_breaks_30 (by decide) ?_
    exact kx_zret K hQ (by decide) (by decide) (fun _ h => h) dX7_breaks_31 hf
  · refine kx_aload_n K dX7_breaks_14 rfl 0 rfl ?_
    refine kx_aload_n K dX7_breaks_15 rfl 0 rfl ?_
    refine kx_gr K f_X7_7 dX7_breaks_16 hf (fun x4 hf => ?_)
    refine kx_iload_n K dX7_breaks_19 rfl 1 rfl ?_
    refine kx_cv2i K c_X7_285 (by decide) (Nat.le_of_ble_eq_true rfl) dX7_breaks_20 hf (fun _ _ _ h => k_X7_breaksBy h) (fun x6 σ5 hf => ?_)
    refine kx_if_eq K 30 hf dX7_breaks_23 (by decide) (fun hf => ?_) (fun hf => ?_)
    · refine kx_iconst (v := 0) K dX7_breaks_30 (by decide) ?_
      exact kx_zret K hQ (by decide) (by decide) (fun _ h => h) dX7_breaks_31 hf
    · refine kx_iconst (v := 1) K dX7_breaks_26 (by decide) ?_
      refine kx_goto K 31 dX7_breaks_27 (by decide) ?_
      exact kx_zret K hQ (by decide) (by decide) (fun _ h => h) dX7_breaks_31 hf
def m_X7_isState (σ : ac_H) (a0 : Int32) (a1 : Int32) : Option (Int32 × ac_H) :=
  mo_cs (m_X7_within σ a0 (0 : Int32) (8 : Int32)) fun x2 σ1 =>
  if x2 = 0 then
  (mo_z (0 : Int32) (some ((0 : Int32), σ1)))
  else
  (mo_cs (m_X7_within σ1 a1 (0 : Int32) (15 : Int32)) fun x4 σ3 =>
  if x4 = 0 then
  (mo_z (0 : Int32) (some ((0 : Int32), σ3)))
  else
  (mo_z (1 : Int32) (some ((1 : Int32), σ3))))
set_option maxRecDepth 100000 in
set_option maxHeartbeats 4000000 in
theorem k_X7_isState {Λ : ex_L} {q : Nat} {σ σ' : ac_H} {a0 : Int32} {a1 : Int32} {v : Int32} (hf : m_X7_isState σ a0 a1 = some (v, σ')) : kx_C Λ yX7_isState (.code yX7_isState cX7_isState 2 (some .boolean)) ({ frames := 1, cells := 0, slots := 0, locals := 22 } : Room) [.int a0, .int a1] q σ (.inr (some (.int v))) σ' (fun z => z = q) := by
  refine kx_in (by decide +kernel) (Nat.le_of_ble_eq_true rfl) ?_
  intro Γ K hnm hsz hQ
  refine kx_lv (lv' := [(0, .int a0), (1, .int a1)]) rfl ?_
  unfold m_X7_isState at hf
  refine kx_iload_n K dX7_isState_0 rfl 0 rfl ?_
  refine kx_iconst (v := 0) K dX7_isState_1 (by decide) ?_
  refine kx_bipush (v := 8) K dX7_isState_2 (by decide) ?_
  refine kx_cs3i K c_X7_94 (by decide) (Nat.le_of_ble_eq_true rfl) dX7_isState_4 hf (fun _ _ _ h => k_X7_within h) (fun x2 σ1 hf => ?_)
  refine kx_if_eq K 24 hf dX7_isState_7 (by decide) (fun hf => ?_) (fun hf => ?_)
  · refine kx_iconst (v := 0) K dX7_isState_24 (by decide) ?_
    exact kx_zret K hQ (by decide) (by decide) (fun _ h => h) dX7_isState_25 hf
  · refine kx_iload_n K dX7_isState_10 rfl 1 rfl ?_
    refine kx_iconst (v := 0) K dX7_isState_11 (by decide) ?_
    refine kx_bipush (v := 15) K dX7_isState_12 (by decide) ?_
    refine kx_cs3i K c_X7_94 (by decide) (Nat.le_of_ble_eq_true rfl) dX7_isState_14 hf (fun _ _ _ h => k_X7_within h) (fun x4 σ3 hf => ?_)
    refine kx_if_eq K 24 hf dX7_isState_17 (by decide) (fun hf => ?_) (fun hf => ?_)
    · refine kx_iconst (v := 0) K dX7_isState_24 (by decide) ?_
      exact kx_zret K hQ (by decide) (by decide) (fun _ h => h) dX7_isState_25 hf
    · refine kx_iconst (v := 1) K dX7_isState_20 (by decide) ?_
      refine kx_goto K 25 dX7_isState_21 (by decide) ?_
      exact kx_zret K hQ (by decide) (by decide) (fun _ h => h) dX7_isState_25 hf
def m_X7_reaches (σ : ac_H) (a0 : Nat) (a1 : Int32) (a2 : Int32) : Option (Int32 × ac_H) :=
  mo_pv σ a0 7 0 (.int (0 : Int32)) fun σ1 =>
  mo_gr σ1 a0 7 1 fun x2 =>
  mo_cv σ1 a0 7 (m_X7_runs σ1 a0 x2) fun _ σ3 =>
  mo_cs (m_X7_isState σ3 a1 a2) fun x5 σ4 =>
  if x5 = 0 then
  (mo_z (0 : Int32) (some ((0 : Int32), σ4)))
  else
  (mo_gr σ4 a0 7 28 fun x6 =>
  mo_ai σ4 x6 2 (((16 : Int32) * a1) + a2) fun x7 =>
  if x7 = 0 then
  (mo_z (0 : Int32) (some ((0 : Int32), σ4)))
  else
  (mo_z (1 : Int32) (some ((1 : Int32), σ4))))
set_option maxRecDepth 100000 in
set_option maxHeartbeats 4000000 in
theorem k_X7_reaches {Λ : ex_L} {q : Nat} {σ σ' : ac_H} {a0 : Nat} {a1 : Int32} {a2 : Int32} {v : Int32} (hf : m_X7_reaches σ a0 a1 a2 = some (v, σ')) : kx_C Λ yX7_reaches (.code yX7_reaches cX7_reaches 3 (some .boolean)) ({ frames := 6, cells := 0, slots := 0, locals := 136 } : Room) [.ref a0, .int a1, .int a2] q σ (.inr (some (.int v))) σ' (fun z => z = q) := by
  refine kx_in (by decide +kernel) (Nat.le_of_ble_eq_true rfl) ?_
  intro Γ K hnm hsz hQ
  refine kx_lv (lv' := [(0, .ref a0), (1, .int a1), (2, .int a2)]) rfl ?_
  unfold m_X7_reaches at hf
  refine kx_aload_n K dX7_reaches_0 rfl 0 rfl ?_
  refine kx_iconst (v := 0) K dX7_reaches_1 (by decide) ?_
  refine kx_pi K f_X7_65 dX7_reaches_2 hf (fun σ1 hf => ?_)
  refine kx_aload_n K dX7_reaches_5 rfl 0 rfl ?_
  refine kx_aload_n K dX7_reaches_6 rfl 0 rfl ?_
  refine kx_gr K f_X7_7 dX7_reaches_7 hf (fun x2 hf => ?_)
  refine kx_cv1v K c_X7_257 (by decide) (Nat.le_of_ble_eq_true rfl) dX7_reaches_10 hf (fun _ _ _ h => k_X7_runs h) (fun _ σ3 hf => ?_)
  refine kx_iload_n K dX7_reaches_13 rfl 1 rfl ?_
  refine kx_iload_n K dX7_reaches_14 rfl 2 rfl ?_
  refine kx_cs2i K c_X7_289 (by decide) (Nat.le_of_ble_eq_true rfl) dX7_reaches_15 hf (fun _ _ _ h => k_X7_isState h) (fun x5 σ4 hf => ?_)
  refine kx_if_eq K 39 hf dX7_reaches_18 (by decide) (fun hf => ?_) (fun hf => ?_)
  · refine kx_iconst (v := 0) K dX7_reaches_39 (by decide) ?_
    exact kx_zret K hQ (by decide) (by decide) (fun _ h => h) dX7_reaches_40 hf
  · refine kx_aload_n K dX7_reaches_21 rfl 0 rfl ?_
    refine kx_gr K f_X7_48 dX7_reaches_22 hf (fun x6 hf => ?_)
    refine kx_bipush (v := 16) K dX7_reaches_25 (by decide) ?_
    refine kx_iload_n K dX7_reaches_27 rfl 1 rfl ?_
    refine kx_imul K dX7_reaches_28 ?_
    refine kx_iload_n K dX7_reaches_29 rfl 2 rfl ?_
    refine kx_iadd K dX7_reaches_30 ?_
    refine kx_az K dX7_reaches_31 hf (fun x7 hf => ?_)
    refine kx_if_eq K 39 hf dX7_reaches_32 (by decide) (fun hf => ?_) (fun hf => ?_)
    · refine kx_iconst (v := 0) K dX7_reaches_39 (by decide) ?_
      exact kx_zret K hQ (by decide) (by decide) (fun _ h => h) dX7_reaches_40 hf
    · refine kx_iconst (v := 1) K dX7_reaches_35 (by decide) ?_
      refine kx_goto K 40 dX7_reaches_36 (by decide) ?_
      exact kx_zret K hQ (by decide) (by decide) (fun _ h => h) dX7_reaches_40 hf
def m_X7_triesWithout (σ : ac_H) (a0 : Nat) (a1 : Int32) : Option (Unit × ac_H) :=
  mo_gr σ a0 7 1 fun x1 =>
  mo_gr σ a0 7 15 fun x2 =>
  mo_cs (m_X7_copies σ x1 (0 : Int32) x2 (0 : Int32)) fun _ σ3 =>
  mo_gr σ3 a0 7 15 fun x4 =>
  mo_cs (m_X7_goes σ3 x4 a1) fun _ σ5 =>
  some ((), σ5)
set_option maxRecDepth 100000 in
set_option maxHeartbeats 4000000 in
theorem k_X7_triesWithout {Λ : ex_L} {q : Nat} {σ σ' : ac_H} {a0 : Nat} {a1 : Int32} {v : Unit} (hf : m_X7_triesWithout σ a0 a1 = some (v, σ')) : kx_C Λ yX7_triesWithout (.code yX7_triesWithout cX7_triesWithout 2 none) ({ frames := 1, cells := 0, slots := 0, locals := 24 } : Room) [.ref a0, .int a1] q σ (.inr none) σ' (fun z => z = q) := by
  refine kx_in (by decide +kernel) (Nat.le_of_ble_eq_true rfl) ?_
  intro Γ K hnm hsz hQ
  refine kx_lv (lv' := [(0, .ref a0), (1, .int a1)]) rfl ?_
  unfold m_X7_triesWithout at hf
  refine kx_aload_n K dX7_triesWithout_0 rfl 0 rfl ?_
  refine kx_gr K f_X7_7 dX7_triesWithout_1 hf (fun x1 hf => ?_)
  refine kx_iconst (v := 0) K dX7_triesWithout_4 (by decide) ?_
  refine kx_aload_n K dX7_triesWithout_5 rfl 0 rfl ?_
  refine kx_gr K f_X7_27 dX7_triesWithout_6 hf (fun x2 hf => ?_)
  refine kx_iconst (v := 0) K dX7_triesWithout_9 (by decide) ?_
  refine kx_cs4v K c_X7_194 (by decide) (Nat.le_of_ble_eq_true rfl) dX7_triesWithout_10 hf (fun _ _ _ h => k_X7_copies h) (fun _ σ3 hf => ?_)
  refine kx_aload_n K dX7_triesWithout_13 rfl 0 rfl ?_
  refine kx_gr K f_X7_27 dX7_triesWithout_14 hf (fun x4 hf => ?_)
  refine kx_iload_n K dX7_triesWithout_17 rfl 1 rfl ?_
  refine kx_cs2v K c_X7_292 (by decide) (Nat.le_of_ble_eq_true rfl) dX7_triesWithout_18 hf (fun _ _ _ h => k_X7_goes h) (fun _ σ5 hf => ?_)
  exact kx_vret K hQ (by decide) (by decide) (fun _ h => h) dX7_triesWithout_21 hf
def m_X7_matters (σ : ac_H) (a0 : Nat) (a1 : Int32) (a2 : Int32) : Option (Int32 × ac_H) :=
  mo_cv σ a0 7 (m_X7_noFault σ a0 a1) fun x2 σ1 =>
  if x2 = 0 then
  (mo_cv σ1 a0 7 (m_X7_noPromise σ1 a0 a2 (2 : Int32)) fun x4 σ3 =>
  if x4 = 0 then
  (mo_gr σ3 a0 7 1 fun x5 =>
  mo_cv σ3 a0 7 (m_X7_breaksBy σ3 a0 x5 a2) fun x7 σ6 =>
  if x7 = 0 then
  (mo_z (0 : Int32) (some ((0 : Int32), σ6)))
  else
  (mo_cv σ6 a0 7 (m_X7_triesWithout σ6 a0 a1) fun _ σ8 =>
  mo_gr σ8 a0 7 15 fun x9 =>
  mo_cv σ8 a0 7 (m_X7_breaksBy σ8 a0 x9 a2) fun x11 σ10 =>
  if x11 = 0 then
  (mo_z (1 : Int32) (some ((1 : Int32), σ10)))
  else
  (mo_z (0 : Int32) (some ((0 : Int32), σ10)))))
  else
  (mo_z (0 : Int32) (some ((0 : Int32), σ3))))
  else
  (mo_z (0 : Int32) (some ((0 : Int32), σ1)))
set_option maxRecDepth 100000 in
set_option maxHeartbeats 4000000 in
theorem k_X7_matters {Λ : ex_L} {q : Nat} {σ σ' : ac_H} {a0 : Nat} {a1 : Int32} {a2 : Int32} {v : Int32} (hf : m_X7_matters σ a0 a1 a2 = some (v, σ')) : kx_C Λ yX7_matters (.code yX7_matters cX7_matters 3 (some .boolean)) ({ frames := 7, cells := 0, slots := 0, locals := 158 } : Room) [.ref a0, .int a1, .int a2] q σ (.inr (some (.int v))) σ' (fun z => z = q) := by
  refine kx_in (by decide +kernel) (Nat.le_of_ble_eq_true rfl) ?_
  intro Γ K hnm hsz hQ
  refine kx_lv (lv' := [(0, .ref a0), (1, .int a1), (2, .int a2)]) rfl ?_
  unfold m_X7_matters at hf
  refine kx_aload_n K dX7_matters_0 rfl 0 rfl ?_
  refine kx_iload_n K dX7_matters_1 rfl 1 rfl ?_
  refine kx_cv1i K c_X7_267 (by decide) (Nat.le_of_ble_eq_true rfl) dX7_matters_2 hf (fun _ _ _ h => k_X7_noFault h) (fun x2 σ1 hf => ?_)
  refine kx_if_ne K 29 hf dX7_matters_5 (by decide) (fun hf => ?_) (fun hf => ?_)
  · refine kx_iconst (v := 0) K dX7_matters_29 (by decide) ?_
    exact kx_zret K hQ (by decide) (by decide) (fun _ h => h) dX7_matters_30 hf
  · refine kx_aload_n K dX7_matters_8 rfl 0 rfl ?_
    refine kx_iload_n K dX7_matters_9 rfl 2 rfl ?_
    refine kx_iconst (v := 2) K dX7_matters_10 (by decide) ?_
    refine kx_cv2i K c_X7_282 (by decide) (Nat.le_of_ble_eq_true rfl) dX7_matters_11 hf (fun _ _ _ h => k_X7_noPromise h) (fun x4 σ3 hf => ?_)
    refine kx_if_ne K 29 hf dX7_matters_14 (by decide) (fun hf => ?_) (fun hf => ?_)
    · refine kx_iconst (v := 0) K dX7_matters_29 (by decide) ?_
      exact kx_zret K hQ (by decide) (by decide) (fun _ h => h) dX7_matters_30 hf
    · refine kx_aload_n K dX7_matters_17 rfl 0 rfl ?_
      refine kx_aload_n K dX7_matters_18 rfl 0 rfl ?_
      refine kx_gr K f_X7_7 dX7_matters_19 hf (fun x5 hf => ?_)
      refine kx_iload_n K dX7_matters_22 rfl 2 rfl ?_
      refine kx_cv2i K c_X7_285 (by decide) (Nat.le_of_ble_eq_true rfl) dX7_matters_23 hf (fun _ _ _ h => k_X7_breaksBy h) (fun x7 σ6 hf => ?_)
      refine kx_if_ne K 31 hf dX7_matters_26 (by decide) (fun hf => ?_) (fun hf => ?_)
      · refine kx_aload_n K dX7_matters_31 rfl 0 rfl ?_
        refine kx_iload_n K dX7_matters_32 rfl 1 rfl ?_
        refine kx_cv1v K c_X7_296 (by decide) (Nat.le_of_ble_eq_true rfl) dX7_matters_33 hf (fun _ _ _ h => k_X7_triesWithout h) (fun _ σ8 hf => ?_)
        refine kx_aload_n K dX7_matters_36 rfl 0 rfl ?_
        refine kx_aload_n K dX7_matters_37 rfl 0 rfl ?_
        refine kx_gr K f_X7_27 dX7_matters_38 hf (fun x9 hf => ?_)
        refine kx_iload_n K dX7_matters_41 rfl 2 rfl ?_
        refine kx_cv2i K c_X7_285 (by decide) (Nat.le_of_ble_eq_true rfl) dX7_matters_42 hf (fun _ _ _ h => k_X7_breaksBy h) (fun x11 σ10 hf => ?_)
        refine kx_if_ne K 52 hf dX7_matters_45 (by decide) (fun hf => ?_) (fun hf => ?_)
        · refine kx_iconst (v := 0) K dX7_matters_52 (by decide) ?_
          exact kx_zret K hQ (by decide) (by decide) (fun _ h => h) dX7_matters_53 hf
        · refine kx_iconst (v := 1) K dX7_matters_48 (by decide) ?_
          refine kx_goto K 53 dX7_matters_49 (by decide) ?_
          exact kx_zret K hQ (by decide) (by decide) (fun _ h => h) dX7_matters_53 hf
      · refine kx_iconst (v := 0) K dX7_matters_29 (by decide) ?_
        exact kx_zret K hQ (by decide) (by decide) (fun _ h => h) dX7_matters_30 hf
def m_X7_ones_l4   : Nat → ac_H → Int32 → Int32 → Option (Int32 × ac_H)
  | 0, _, _, _ => none
  | n + 1, σ3, v1, v2 =>
    if v2 = 0 then
    (some (v1, σ3))
    else
    (m_X7_ones_l4 n σ3 (v1 + 1) (v2 &&& (v2 - (1 : Int32))))
def m_X7_ones (σ : ac_H) (a0 : Int32) : Option (Int32 × ac_H) :=
  m_X7_ones_l4 hN_f σ (0 : Int32) a0
set_option maxRecDepth 100000 in
set_option maxHeartbeats 4000000 in
theorem k_X7_ones {Λ : ex_L} {q : Nat} {σ σ' : ac_H} {a0 : Int32} {v : Int32} (hf : m_X7_ones σ a0 = some (v, σ')) : kx_C Λ yX7_ones (.code yX7_ones cX7_ones 3 (some .int)) ({ frames := 0, cells := 0, slots := 0, locals := 0 } : Room) [.int a0] q σ (.inr (some (.int v))) σ' (fun z => z = q) := by
  refine kx_in (by decide +kernel) (Nat.le_of_ble_eq_true rfl) ?_
  intro Γ K hnm hsz hQ
  refine kx_lv (lv' := [(0, .int a0)]) rfl ?_
  have B4 : ∀ (n4 : Nat) (σ3 : ac_H) (v1 : Int32) (v2 : Int32), m_X7_ones_l4 n4 σ3 v1 v2 = some (v, σ') → kx_S Λ Γ 3 (fun z => z = q) σ3 (0) (0) 4 [(1, .int v1), (2, .int v2)] [] := by
    intro n4
    induction n4 with
    | zero =>
      intro σ3 v1 v2 hf
      rw [m_X7_ones_l4] at hf
      cases hf
    | succ n4 ih4 =>
      intro σ3 v1 v2 hf
      rw [m_X7_ones_l4] at hf
      refine kx_iload_n K dX7_ones_4 rfl 1 rfl ?_
      refine kx_if_eq K 20 hf dX7_ones_5 (by decide) (fun hf => ?_) (fun hf => ?_)
      · refine kx_iload_n K dX7_ones_20 rfl 0 rfl ?_
        exact kx_iret K hQ (by decide) (by decide) (fun _ h => h) dX7_ones_21 hf
      · refine kx_iinc (v := (v1 + 1)) K [(1, .int (v1 + 1)), (2, .int v2)] dX7_ones_8 0 rfl rfl (by decide) rfl ?_
        refine kx_iload_n K dX7_ones_11 rfl 1 rfl ?_
        refine kx_iload_n K dX7_ones_12 rfl 1 rfl ?_
        refine kx_iconst (v := 1) K dX7_ones_13 (by decide) ?_
        refine kx_isub K dX7_ones_14 ?_
        refine kx_iand K dX7_ones_15 ?_
        refine kx_istore_n K [(2, .int (v2 &&& (v2 - (1 : Int32)))), (1, .int (v1 + 1))] dX7_ones_16 rfl (by decide) rfl ?_
        refine kx_goto K 4 dX7_ones_17 (by decide) ?_
        refine kx_sub [(1, .int (v1 + 1)), (2, .int (v2 &&& (v2 - (1 : Int32))))] [1, 0] rfl ?_
        exact ih4 _ _ _ hf
  unfold m_X7_ones at hf
  refine kx_iconst (v := 0) K dX7_ones_0 (by decide) ?_
  refine kx_istore_n K [(1, .int (0 : Int32)), (0, .int a0)] dX7_ones_1 rfl (by decide) rfl ?_
  refine kx_iload_n K dX7_ones_2 rfl 1 rfl ?_
  refine kx_istore_n K [(2, .int a0), (1, .int (0 : Int32)), (0, .int a0)] dX7_ones_3 rfl (by decide) rfl ?_
  refine kx_sub [(1, .int (0 : Int32)), (2, .int a0)] [1, 0] rfl ?_
  exact B4 hN_f _ _ _ hf
def m_X7_triesPart_l23  (a0 : Nat) (a1 : Int32) : Nat → ac_H → Int32 → Option (Unit × ac_H)
  | 0, _, _ => none
  | n + 1, σ7, v6 =>
    if v6 < 0 then
    (some ((), σ7))
    else
    (if ((a1 >>> (v6 &&& 31)) &&& (1 : Int32)) = 0 then
    (mo_gr σ7 a0 7 15 fun x8 =>
    mo_cs (m_X7_goes σ7 x8 v6) fun _ σ9 =>
    m_X7_triesPart_l23 a0 a1 n σ9 (v6 + (-1)))
    else
    (m_X7_triesPart_l23 a0 a1 n σ7 (v6 + (-1))))
def m_X7_triesPart (σ : ac_H) (a0 : Nat) (a1 : Int32) : Option (Unit × ac_H) :=
  mo_gr σ a0 7 1 fun x1 =>
  mo_gr σ a0 7 15 fun x2 =>
  mo_cs (m_X7_copies σ x1 (0 : Int32) x2 (0 : Int32)) fun _ σ3 =>
  mo_gr σ3 a0 7 1 fun x4 =>
  mo_ai σ3 x4 0 (8 : Int32) fun x5 =>
  m_X7_triesPart_l23 a0 a1 hN_f σ3 (x5 - (1 : Int32))
set_option maxRecDepth 100000 in
set_option maxHeartbeats 4000000 in
theorem k_X7_triesPart {Λ : ex_L} {q : Nat} {σ σ' : ac_H} {a0 : Nat} {a1 : Int32} {v : Unit} (hf : m_X7_triesPart σ a0 a1 = some (v, σ')) : kx_C Λ yX7_triesPart (.code yX7_triesPart cX7_triesPart 3 none) ({ frames := 1, cells := 0, slots := 0, locals := 24 } : Room) [.ref a0, .int a1] q σ (.inr none) σ' (fun z => z = q) := by
  refine kx_in (by decide +kernel) (Nat.le_of_ble_eq_true rfl) ?_
  intro Γ K hnm hsz hQ
  refine kx_lv (lv' := [(0, .ref a0), (1, .int a1)]) rfl ?_
  have B23 : ∀ (n23 : Nat) (σ7 : ac_H) (v6 : Int32), m_X7_triesPart_l23 a0 a1 n23 σ7 v6 = some (v, σ') → kx_S Λ Γ 3 (fun z => z = q) σ7 (0) (0) 23 [(0, .ref a0), (1, .int a1), (2, .int v6)] [] := by
    intro n23
    induction n23 with
    | zero =>
      intro σ7 v6 hf
      rw [m_X7_triesPart_l23] at hf
      cases hf
    | succ n23 ih23 =>
      intro σ7 v6 hf
      rw [m_X7_triesPart_l23] at hf
      refine kx_iload_n K dX7_triesPart_23 rfl 2 rfl ?_
      refine kx_if_lt K 49 hf dX7_triesPart_24 (by decide) (fun hf => ?_) (fun hf => ?_)
      · exact kx_vret K hQ (by decide) (by decide) (fun _ h => h) dX7_triesPart_49 hf
      · refine kx_iload_n K dX7_triesPart_27 rfl 1 rfl ?_
        refine kx_iload_n K dX7_triesPart_28 rfl 2 rfl ?_
        refine kx_ishr K dX7_triesPart_29 ?_
        refine kx_iconst (v := 1) K dX7_triesPart_30 (by decide) ?_
        refine kx_iand K dX7_triesPart_31 ?_
        refine kx_if_ne K 43 hf dX7_triesPart_32 (by decide) (fun hf => ?_) (fun hf => ?_)
        · refine kx_iinc (v := (v6 + (-1))) K [(2, .int (v6 + (-1))), (0, .ref a0), (1, .int a1)] dX7_triesPart_43 2 rfl rfl (by decide) rfl ?_
          refine kx_goto K 23 dX7_triesPart_46 (by decide) ?_
          refine kx_sub [(0, .ref a0), (1, .int a1), (2, .int (v6 + (-1)))] [1, 2, 0] rfl ?_
          exact ih23 _ _ hf
        · refine kx_aload_n K dX7_triesPart_35 rfl 0 rfl ?_
          refine kx_gr K f_X7_27 dX7_triesPart_36 hf (fun x8 hf => ?_)
          refine kx_iload_n K dX7_triesPart_39 rfl 2 rfl ?_
          refine kx_cs2v K c_X7_292 (by decide) (Nat.le_of_ble_eq_true rfl) dX7_triesPart_40 hf (fun _ _ _ h => k_X7_goes h) (fun _ σ9 hf => ?_)
          refine kx_iinc (v := (v6 + (-1))) K [(2, .int (v6 + (-1))), (0, .ref a0), (1, .int a1)] dX7_triesPart_43 2 rfl rfl (by decide) rfl ?_
          refine kx_goto K 23 dX7_triesPart_46 (by decide) ?_
          refine kx_sub [(0, .ref a0), (1, .int a1), (2, .int (v6 + (-1)))] [1, 2, 0] rfl ?_
          exact ih23 _ _ hf
  unfold m_X7_triesPart at hf
  refine kx_aload_n K dX7_triesPart_0 rfl 0 rfl ?_
  refine kx_gr K f_X7_7 dX7_triesPart_1 hf (fun x1 hf => ?_)
  refine kx_iconst (v := 0) K dX7_triesPart_4 (by decide) ?_
  refine kx_aload_n K dX7_triesPart_5 rfl 0 rfl ?_
  refine kx_gr K f_X7_27 dX7_triesPart_6 hf (fun x2 hf => ?_)
  refine kx_iconst (v := 0) K dX7_triesPart_9 (by decide) ?_
  refine kx_cs4v K c_X7_194 (by decide) (Nat.le_of_ble_eq_true rfl) dX7_triesPart_10 hf (fun _ _ _ h => k_X7_copies h) (fun _ σ3 hf => ?_)
  refine kx_aload_n K dX7_triesPart_13 rfl 0 rfl ?_
  refine kx_gr K f_X7_7 dX7_triesPart_14 hf (fun x4 hf => ?_)
  refine kx_bipush (v := 8) K dX7_triesPart_17 (by decide) ?_
  refine kx_ai K dX7_triesPart_19 hf (fun x5 hf => ?_)
  refine kx_iconst (v := 1) K dX7_triesPart_20 (by decide) ?_
  refine kx_isub K dX7_triesPart_21 ?_
  refine kx_istore_n K [(2, .int (x5 - (1 : Int32))), (0, .ref a0), (1, .int a1)] dX7_triesPart_22 rfl (by decide) rfl ?_
  refine kx_sub [(0, .ref a0), (1, .int a1), (2, .int (x5 - (1 : Int32)))] [1, 2, 0] rfl ?_
  exact B23 hN_f _ _ hf
def m_X7_comesAhead (σ : ac_H) (a0 : Int32) (a1 : Int32) : Option (Int32 × ac_H) :=
  if ((a0 &&& (a0 ^^^ a1)) &&& (-(a0 ^^^ a1))) = 0 then
  (mo_z (0 : Int32) (some ((0 : Int32), σ)))
  else
  (mo_z (1 : Int32) (some ((1 : Int32), σ)))
set_option maxRecDepth 100000 in
set_option maxHeartbeats 4000000 in
theorem k_X7_comesAhead {Λ : ex_L} {q : Nat} {σ σ' : ac_H} {a0 : Int32} {a1 : Int32} {v : Int32} (hf : m_X7_comesAhead σ a0 a1 = some (v, σ')) : kx_C Λ yX7_comesAhead (.code yX7_comesAhead cX7_comesAhead 3 (some .boolean)) ({ frames := 0, cells := 0, slots := 0, locals := 0 } : Room) [.int a0, .int a1] q σ (.inr (some (.int v))) σ' (fun z => z = q) := by
  refine kx_in (by decide +kernel) (Nat.le_of_ble_eq_true rfl) ?_
  intro Γ K hnm hsz hQ
  refine kx_lv (lv' := [(0, .int a0), (1, .int a1)]) rfl ?_
  unfold m_X7_comesAhead at hf
  refine kx_iload_n K dX7_comesAhead_0 rfl 0 rfl ?_
  refine kx_iload_n K dX7_comesAhead_1 rfl 1 rfl ?_
  refine kx_ixor K dX7_comesAhead_2 ?_
  refine kx_istore_n K [(2, .int (a0 ^^^ a1)), (0, .int a0), (1, .int a1)] dX7_comesAhead_3 rfl (by decide) rfl ?_
  refine kx_iload_n K dX7_comesAhead_4 rfl 1 rfl ?_
  refine kx_iload_n K dX7_comesAhead_5 rfl 0 rfl ?_
  refine kx_iand K dX7_comesAhead_6 ?_
  refine kx_iload_n K dX7_comesAhead_7 rfl 0 rfl ?_
  refine kx_ineg K dX7_comesAhead_8 ?_
  refine kx_iand K dX7_comesAhead_9 ?_
  refine kx_if_eq K 17 hf dX7_comesAhead_10 (by decide) (fun hf => ?_) (fun hf => ?_)
  · refine kx_iconst (v := 0) K dX7_comesAhead_17 (by decide) ?_
    exact kx_zret K hQ (by decide) (by decide) (fun _ h => h) dX7_comesAhead_18 hf
  · refine kx_iconst (v := 1) K dX7_comesAhead_13 (by decide) ?_
    refine kx_goto K 18 dX7_comesAhead_14 (by decide) ?_
    exact kx_zret K hQ (by decide) (by decide) (fun _ h => h) dX7_comesAhead_18 hf
def m_X7_coreOf_j57 (K4 : ac_H → Int32 → Int32 → Option (Int32 × ac_H)) (a0 : Nat) (a1 : Int32) (σ19 : ac_H) (v16 : Int32) (v17 : Int32) (w18 : Int32) : Option (Int32 × ac_H) :=
  if w18 = 0 then
  (K4 σ19 v16 (v17 + 1))
  else
  (mo_cv σ19 a0 7 (m_X7_triesPart σ19 a0 v17) fun _ σ20 =>
  mo_gr σ20 a0 7 15 fun x21 =>
  mo_cv σ20 a0 7 (m_X7_breaksBy σ20 a0 x21 a1) fun x23 σ22 =>
  if x23 = 0 then
  (K4 σ22 v16 (v17 + 1))
  else
  (K4 σ22 v17 (v17 + 1)))
def m_X7_coreOf_l4  (a0 : Nat) (a1 : Int32) : Nat → ac_H → Int32 → Int32 → Option (Int32 × ac_H)
  | 0, _, _, _ => none
  | n + 1, σ3, v1, v2 =>
    mo_gr σ3 a0 7 1 fun x4 =>
    mo_ai σ3 x4 0 (8 : Int32) fun x5 =>
    if v2 < ((1 : Int32) <<< (x5 &&& 31)) then
    (if v1 = (-1 : Int32) then
    (m_X7_coreOf_j57 (fun ρ y0 y1 => m_X7_coreOf_l4 a0 a1 n ρ y0 y1) a0 a1 σ3 v1 v2 (1 : Int32))
    else
    (mo_cs (m_X7_ones σ3 v2) fun x7 σ6 =>
    mo_cs (m_X7_ones σ6 v1) fun x9 σ8 =>
    if x7 < x9 then
    (m_X7_coreOf_j57 (fun ρ y0 y1 => m_X7_coreOf_l4 a0 a1 n ρ y0 y1) a0 a1 σ8 v1 v2 (1 : Int32))
    else
    (mo_cs (m_X7_ones σ8 v2) fun x11 σ10 =>
    mo_cs (m_X7_ones σ10 v1) fun x13 σ12 =>
    if x11 = x13 then
    (mo_cs (m_X7_comesAhead σ12 v2 v1) fun x15 σ14 =>
    if x15 = 0 then
    (m_X7_coreOf_j57 (fun ρ y0 y1 => m_X7_coreOf_l4 a0 a1 n ρ y0 y1) a0 a1 σ14 v1 v2 (0 : Int32))
    else
    (m_X7_coreOf_j57 (fun ρ y0 y1 => m_X7_coreOf_l4 a0 a1 n ρ y0 y1) a0 a1 σ14 v1 v2 (1 : Int32)))
    else
    (m_X7_coreOf_j57 (fun ρ y0 y1 => m_X7_coreOf_l4 a0 a1 n ρ y0 y1) a0 a1 σ12 v1 v2 (0 : Int32)))))
    else
    (some (v1, σ3))
def m_X7_coreOf (σ : ac_H) (a0 : Nat) (a1 : Int32) : Option (Int32 × ac_H) :=
  m_X7_coreOf_l4 a0 a1 hN_f σ (-1 : Int32) (0 : Int32)
set_option maxRecDepth 100000 in
set_option maxHeartbeats 4000000 in
theorem k_X7_coreOf {Λ : ex_L} {q : Nat} {σ σ' : ac_H} {a0 : Nat} {a1 : Int32} {v : Int32} (hf : m_X7_coreOf σ a0 a1 = some (v, σ')) : kx_C Λ yX7_coreOf (.code yX7_coreOf cX7_coreOf 5 (some .int)) ({ frames := 7, cells := 0, slots := 0, locals := 158 } : Room) [.ref a0, .int a1] q σ (.inr (some (.int v))) σ' (fun z => z = q) := by
  refine kx_in (by decide +kernel) (Nat.le_of_ble_eq_true rfl) ?_
  intro Γ K hnm hsz hQ
  refine kx_lv (lv' := [(0, .ref a0), (1, .int a1)]) rfl ?_
  have B4 : ∀ (n4 : Nat) (σ3 : ac_H) (v1 : Int32) (v2 : Int32), m_X7_coreOf_l4 a0 a1 n4 σ3 v1 v2 = some (v, σ') → kx_S Λ Γ 5 (fun z => z = q) σ3 (0) (0) 4 [(0, .ref a0), (1, .int a1), (2, .int v1), (3, .int v2)] [] := by
    intro n4
    induction n4 with
    | zero =>
      intro σ3 v1 v2 hf
      rw [m_X7_coreOf_l4] at hf
      cases hf
    | succ n4 ih4 =>
      have B57 : ∀ (σ19 : ac_H) (v16 : Int32) (v17 : Int32) (w18 : Int32), m_X7_coreOf_j57 (fun ρ y0 y1 => m_X7_coreOf_l4 a0 a1 n4 ρ y0 y1) a0 a1 σ19 v16 v17 w18 = some (v, σ') → kx_S Λ Γ 5 (fun z => z = q) σ19 (0) (0) 57 [(0, .ref a0), (1, .int a1), (2, .int v16), (3, .int v17)] [.int w18] := by
        intro σ19 v16 v17 w18 hf
        unfold m_X7_coreOf_j57 at hf
        refine kx_istore K [(4, .int w18), (0, .ref a0), (1, .int a1), (2, .int v16), (3, .int v17)] dX7_coreOf_57 (by decide) rfl ?_
        refine kx_iload K dX7_coreOf_59 0 rfl ?_
        refine kx_if_ne K 67 hf dX7_coreOf_61 (by decide) (fun hf => ?_) (fun hf => ?_)
        · refine kx_aload_n K dX7_coreOf_67 rfl 1 rfl ?_
          refine kx_iload_n K dX7_coreOf_68 rfl 4 rfl ?_
          refine kx_cv1v K c_X7_305 (by decide) (Nat.le_of_ble_eq_true rfl) dX7_coreOf_69 hf (fun _ _ _ h => k_X7_triesPart h) (fun _ σ20 hf => ?_)
          refine kx_aload_n K dX7_coreOf_72 rfl 1 rfl ?_
          refine kx_aload_n K dX7_coreOf_73 rfl 1 rfl ?_
          refine kx_gr K f_X7_27 dX7_coreOf_74 hf (fun x21 hf => ?_)
          refine kx_iload_n K dX7_coreOf_77 rfl 2 rfl ?_
          refine kx_cv2i K c_X7_285 (by decide) (Nat.le_of_ble_eq_true rfl) dX7_coreOf_78 hf (fun _ _ _ h => k_X7_breaksBy h) (fun x23 σ22 hf => ?_)
          refine kx_if_eq K 88 hf dX7_coreOf_81 (by decide) (fun hf => ?_) (fun hf => ?_)
          · refine kx_iload_n K dX7_coreOf_88 rfl 3 rfl ?_
            refine kx_istore_n K [(2, .int v16), (4, .int w18), (0, .ref a0), (1, .int a1), (3, .int v17)] dX7_coreOf_89 rfl (by decide) rfl ?_
            refine kx_iinc (v := (v17 + 1)) K [(3, .int (v17 + 1)), (2, .int v16), (4, .int w18), (0, .ref a0), (1, .int a1)] dX7_coreOf_90 4 rfl rfl (by decide) rfl ?_
            refine kx_goto K 4 dX7_coreOf_93 (by decide) ?_
            refine kx_sub [(0, .ref a0), (1, .int a1), (2, .int v16), (3, .int (v17 + 1))] [3, 4, 1, 0] rfl ?_
            exact ih4 _ _ _ hf
          · refine kx_iload_n K dX7_coreOf_84 rfl 4 rfl ?_
            refine kx_goto K 89 dX7_coreOf_85 (by decide) ?_
            refine kx_istore_n K [(2, .int v17), (4, .int w18), (0, .ref a0), (1, .int a1), (3, .int v17)] dX7_coreOf_89 rfl (by decide) rfl ?_
            refine kx_iinc (v := (v17 + 1)) K [(3, .int (v17 + 1)), (2, .int v17), (4, .int w18), (0, .ref a0), (1, .int a1)] dX7_coreOf_90 4 rfl rfl (by decide) rfl ?_
            refine kx_goto K 4 dX7_coreOf_93 (by decide) ?_
            refine kx_sub [(0, .ref a0), (1, .int a1), (2, .int v17), (3, .int (v17 + 1))] [3, 4, 1, 0] rfl ?_
            exact ih4 _ _ _ hf
        · refine kx_goto K 90 dX7_coreOf_64 (by decide) ?_
          refine kx_iinc (v := (v17 + 1)) K [(3, .int (v17 + 1)), (4, .int w18), (0, .ref a0), (1, .int a1), (2, .int v16)] dX7_coreOf_90 4 rfl rfl (by decide) rfl ?_
          refine kx_goto K 4 dX7_coreOf_93 (by decide) ?_
          refine kx_sub [(0, .ref a0), (1, .int a1), (2, .int v16), (3, .int (v17 + 1))] [2, 3, 4, 0] rfl ?_
          exact ih4 _ _ _ hf
      intro σ3 v1 v2 hf
      rw [m_X7_coreOf_l4] at hf
      refine kx_iload_n K dX7_coreOf_4 rfl 3 rfl ?_
      refine kx_iconst (v := 1) K dX7_coreOf_5 (by decide) ?_
      refine kx_aload_n K dX7_coreOf_6 rfl 0 rfl ?_
      refine kx_gr K f_X7_7 dX7_coreOf_7 hf (fun x4 hf => ?_)
      refine kx_bipush (v := 8) K dX7_coreOf_10 (by decide) ?_
      refine kx_ai K dX7_coreOf_12 hf (fun x5 hf => ?_)
      refine kx_ishl K dX7_coreOf_13 ?_
      refine kx_icmp_ge K 96 hf dX7_coreOf_14 (by decide) (fun hf => ?_) (fun hf => ?_)
      · refine kx_iload_n K dX7_coreOf_96 rfl 2 rfl ?_
        exact kx_iret K hQ (by decide) (by decide) (fun _ h => h) dX7_coreOf_97 hf
      · refine kx_iload_n K dX7_coreOf_17 rfl 2 rfl ?_
        refine kx_iconst (v := -1) K dX7_coreOf_18 (by decide) ?_
        refine kx_icmp_eq K 52 hf dX7_coreOf_19 (by decide) (fun hf => ?_) (fun hf => ?_)
        · refine kx_iconst (v := 1) K dX7_coreOf_52 (by decide) ?_
          refine kx_goto K 57 dX7_coreOf_53 (by decide) ?_
          refine kx_sub [(0, .ref a0), (1, .int a1), (2, .int v1), (3, .int v2)] [0, 1, 2, 3] rfl ?_
          exact B57 _ _ _ _ hf
        · refine kx_iload_n K dX7_coreOf_22 rfl 3 rfl ?_
          refine kx_cs1i K c_X7_299 (by decide) (Nat.le_of_ble_eq_true rfl) dX7_coreOf_23 hf (fun _ _ _ h => k_X7_ones h) (fun x7 σ6 hf => ?_)
          refine kx_iload_n K dX7_coreOf_26 rfl 2 rfl ?_
          refine kx_cs1i K c_X7_299 (by decide) (Nat.le_of_ble_eq_true rfl) dX7_coreOf_27 hf (fun _ _ _ h => k_X7_ones h) (fun x9 σ8 hf => ?_)
          refine kx_icmp_lt K 52 hf dX7_coreOf_30 (by decide) (fun hf => ?_) (fun hf => ?_)
          · refine kx_iconst (v := 1) K dX7_coreOf_52 (by decide) ?_
            refine kx_goto K 57 dX7_coreOf_53 (by decide) ?_
            refine kx_sub [(0, .ref a0), (1, .int a1), (2, .int v1), (3, .int v2)] [0, 1, 2, 3] rfl ?_
            exact B57 _ _ _ _ hf
          · refine kx_iload_n K dX7_coreOf_33 rfl 3 rfl ?_
            refine kx_cs1i K c_X7_299 (by decide) (Nat.le_of_ble_eq_true rfl) dX7_coreOf_34 hf (fun _ _ _ h => k_X7_ones h) (fun x11 σ10 hf => ?_)
            refine kx_iload_n K dX7_coreOf_37 rfl 2 rfl ?_
            refine kx_cs1i K c_X7_299 (by decide) (Nat.le_of_ble_eq_true rfl) dX7_coreOf_38 hf (fun _ _ _ h => k_X7_ones h) (fun x13 σ12 hf => ?_)
            refine kx_icmp_ne K 56 hf dX7_coreOf_41 (by decide) (fun hf => ?_) (fun hf => ?_)
            · refine kx_iconst (v := 0) K dX7_coreOf_56 (by decide) ?_
              refine kx_sub [(0, .ref a0), (1, .int a1), (2, .int v1), (3, .int v2)] [0, 1, 2, 3] rfl ?_
              exact B57 _ _ _ _ hf
            · refine kx_iload_n K dX7_coreOf_44 rfl 3 rfl ?_
              refine kx_iload_n K dX7_coreOf_45 rfl 2 rfl ?_
              refine kx_cs2i K c_X7_302 (by decide) (Nat.le_of_ble_eq_true rfl) dX7_coreOf_46 hf (fun _ _ _ h => k_X7_comesAhead h) (fun x15 σ14 hf => ?_)
              refine kx_if_eq K 56 hf dX7_coreOf_49 (by decide) (fun hf => ?_) (fun hf => ?_)
              · refine kx_iconst (v := 0) K dX7_coreOf_56 (by decide) ?_
                refine kx_sub [(0, .ref a0), (1, .int a1), (2, .int v1), (3, .int v2)] [0, 1, 2, 3] rfl ?_
                exact B57 _ _ _ _ hf
              · refine kx_iconst (v := 1) K dX7_coreOf_52 (by decide) ?_
                refine kx_goto K 57 dX7_coreOf_53 (by decide) ?_
                refine kx_sub [(0, .ref a0), (1, .int a1), (2, .int v1), (3, .int v2)] [0, 1, 2, 3] rfl ?_
                exact B57 _ _ _ _ hf
  unfold m_X7_coreOf at hf
  refine kx_iconst (v := -1) K dX7_coreOf_0 (by decide) ?_
  refine kx_istore_n K [(2, .int (-1 : Int32)), (0, .ref a0), (1, .int a1)] dX7_coreOf_1 rfl (by decide) rfl ?_
  refine kx_iconst (v := 0) K dX7_coreOf_2 (by decide) ?_
  refine kx_istore_n K [(3, .int (0 : Int32)), (2, .int (-1 : Int32)), (0, .ref a0), (1, .int a1)] dX7_coreOf_3 rfl (by decide) rfl ?_
  refine kx_sub [(0, .ref a0), (1, .int a1), (2, .int (-1 : Int32)), (3, .int (0 : Int32))] [2, 3, 1, 0] rfl ?_
  exact B4 hN_f _ _ _ hf
def m_X7_smallest (σ : ac_H) (a0 : Nat) (a1 : Int32) : Option (Int32 × ac_H) :=
  mo_pv σ a0 7 0 (.int (0 : Int32)) fun σ1 =>
  mo_cv σ1 a0 7 (m_X7_noPromise σ1 a0 a1 (1 : Int32)) fun x3 σ2 =>
  if x3 = 0 then
  (mo_cv σ2 a0 7 (m_X7_coreOf σ2 a0 a1) fun x5 σ4 =>
  if x5 = (-1 : Int32) then
  (some ((-1 : Int32), σ4))
  else
  (mo_cs (m_X7_ones σ4 x5) fun x7 σ6 =>
  some (x7, σ6)))
  else
  (some ((0 : Int32), σ2))
set_option maxRecDepth 100000 in
set_option maxHeartbeats 4000000 in
theorem k_X7_smallest {Λ : ex_L} {q : Nat} {σ σ' : ac_H} {a0 : Nat} {a1 : Int32} {v : Int32} (hf : m_X7_smallest σ a0 a1 = some (v, σ')) : kx_C Λ yX7_smallest (.code yX7_smallest cX7_smallest 3 (some .int)) ({ frames := 8, cells := 0, slots := 0, locals := 182 } : Room) [.ref a0, .int a1] q σ (.inr (some (.int v))) σ' (fun z => z = q) := by
  refine kx_in (by decide +kernel) (Nat.le_of_ble_eq_true rfl) ?_
  intro Γ K hnm hsz hQ
  refine kx_lv (lv' := [(0, .ref a0), (1, .int a1)]) rfl ?_
  unfold m_X7_smallest at hf
  refine kx_aload_n K dX7_smallest_0 rfl 0 rfl ?_
  refine kx_iconst (v := 0) K dX7_smallest_1 (by decide) ?_
  refine kx_pi K f_X7_65 dX7_smallest_2 hf (fun σ1 hf => ?_)
  refine kx_aload_n K dX7_smallest_5 rfl 0 rfl ?_
  refine kx_iload_n K dX7_smallest_6 rfl 1 rfl ?_
  refine kx_iconst (v := 1) K dX7_smallest_7 (by decide) ?_
  refine kx_cv2i K c_X7_282 (by decide) (Nat.le_of_ble_eq_true rfl) dX7_smallest_8 hf (fun _ _ _ h => k_X7_noPromise h) (fun x3 σ2 hf => ?_)
  refine kx_if_eq K 16 hf dX7_smallest_11 (by decide) (fun hf => ?_) (fun hf => ?_)
  · refine kx_aload_n K dX7_smallest_16 rfl 0 rfl ?_
    refine kx_iload_n K dX7_smallest_17 rfl 1 rfl ?_
    refine kx_cv1i K c_X7_308 (by decide) (Nat.le_of_ble_eq_true rfl) dX7_smallest_18 hf (fun _ _ _ h => k_X7_coreOf h) (fun x5 σ4 hf => ?_)
    refine kx_istore_n K [(2, .int x5), (0, .ref a0), (1, .int a1)] dX7_smallest_21 rfl (by decide) rfl ?_
    refine kx_iload_n K dX7_smallest_22 rfl 0 rfl ?_
    refine kx_iconst (v := -1) K dX7_smallest_23 (by decide) ?_
    refine kx_icmp_ne K 31 hf dX7_smallest_24 (by decide) (fun hf => ?_) (fun hf => ?_)
    · refine kx_iload_n K dX7_smallest_31 rfl 0 rfl ?_
      refine kx_cs1i K c_X7_299 (by decide) (Nat.le_of_ble_eq_true rfl) dX7_smallest_32 hf (fun _ _ _ h => k_X7_ones h) (fun x7 σ6 hf => ?_)
      exact kx_iret K hQ (by decide) (by decide) (fun _ h => h) dX7_smallest_35 hf
    · refine kx_iconst (v := -1) K dX7_smallest_27 (by decide) ?_
      refine kx_goto K 35 dX7_smallest_28 (by decide) ?_
      exact kx_iret K hQ (by decide) (by decide) (fun _ h => h) dX7_smallest_35 hf
  · refine kx_iconst (v := 0) K dX7_smallest_14 (by decide) ?_
    exact kx_iret K hQ (by decide) (by decide) (fun _ h => h) dX7_smallest_15 hf
def m_X7_core (σ : ac_H) (a0 : Nat) (a1 : Int32) : Option (Int32 × ac_H) :=
  mo_pv σ a0 7 0 (.int (0 : Int32)) fun σ1 =>
  mo_cv σ1 a0 7 (m_X7_noPromise σ1 a0 a1 (1 : Int32)) fun x3 σ2 =>
  if x3 = 0 then
  (mo_cv σ2 a0 7 (m_X7_coreOf σ2 a0 a1) fun x5 σ4 =>
  some (x5, σ4))
  else
  (some ((0 : Int32), σ2))
set_option maxRecDepth 100000 in
set_option maxHeartbeats 4000000 in
theorem k_X7_core {Λ : ex_L} {q : Nat} {σ σ' : ac_H} {a0 : Nat} {a1 : Int32} {v : Int32} (hf : m_X7_core σ a0 a1 = some (v, σ')) : kx_C Λ yX7_core (.code yX7_core cX7_core 2 (some .int)) ({ frames := 8, cells := 0, slots := 0, locals := 182 } : Room) [.ref a0, .int a1] q σ (.inr (some (.int v))) σ' (fun z => z = q) := by
  refine kx_in (by decide +kernel) (Nat.le_of_ble_eq_true rfl) ?_
  intro Γ K hnm hsz hQ
  refine kx_lv (lv' := [(0, .ref a0), (1, .int a1)]) rfl ?_
  unfold m_X7_core at hf
  refine kx_aload_n K dX7_core_0 rfl 0 rfl ?_
  refine kx_iconst (v := 0) K dX7_core_1 (by decide) ?_
  refine kx_pi K f_X7_65 dX7_core_2 hf (fun σ1 hf => ?_)
  refine kx_aload_n K dX7_core_5 rfl 0 rfl ?_
  refine kx_iload_n K dX7_core_6 rfl 1 rfl ?_
  refine kx_iconst (v := 1) K dX7_core_7 (by decide) ?_
  refine kx_cv2i K c_X7_282 (by decide) (Nat.le_of_ble_eq_true rfl) dX7_core_8 hf (fun _ _ _ h => k_X7_noPromise h) (fun x3 σ2 hf => ?_)
  refine kx_if_eq K 18 hf dX7_core_11 (by decide) (fun hf => ?_) (fun hf => ?_)
  · refine kx_aload_n K dX7_core_18 rfl 0 rfl ?_
    refine kx_iload_n K dX7_core_19 rfl 1 rfl ?_
    refine kx_cv1i K c_X7_308 (by decide) (Nat.le_of_ble_eq_true rfl) dX7_core_20 hf (fun _ _ _ h => k_X7_coreOf h) (fun x5 σ4 hf => ?_)
    exact kx_iret K hQ (by decide) (by decide) (fun _ h => h) dX7_core_23 hf
  · refine kx_iconst (v := 0) K dX7_core_14 (by decide) ?_
    refine kx_goto K 23 dX7_core_15 (by decide) ?_
    exact kx_iret K hQ (by decide) (by decide) (fun _ h => h) dX7_core_23 hf
def m_X7_leastOf_l30  (a0 : Nat) (a1 : Int32) (a2 : Int32) : Nat → ac_H → Int32 → Option (Int32 × ac_H)
  | 0, _, _ => none
  | n + 1, σ8, v7 =>
    mo_gr σ8 a0 7 1 fun x9 =>
    mo_cs (m_X7_ofFault σ8 x9 a1 (2 : Int32)) fun x11 σ10 =>
    if x11 < v7 then
    (some ((-1 : Int32), σ10))
    else
    (mo_gr σ10 a0 7 15 fun x12 =>
    mo_ui σ10 x12 0 (((9 : Int32) + ((3 : Int32) * a1)) + (2 : Int32)) v7 fun σ13 =>
    mo_gr σ13 a0 7 15 fun x14 =>
    mo_cv σ13 a0 7 (m_X7_breaksBy σ13 a0 x14 a2) fun x16 σ15 =>
    if x16 = 0 then
    (m_X7_leastOf_l30 a0 a1 a2 n σ15 (v7 + 1))
    else
    (some (v7, σ15)))
def m_X7_leastOf (σ : ac_H) (a0 : Nat) (a1 : Int32) (a2 : Int32) : Option (Int32 × ac_H) :=
  mo_gr σ a0 7 1 fun x1 =>
  mo_cs (m_X7_ofFault σ x1 a1 (0 : Int32)) fun x3 σ2 =>
  if x3 = (2 : Int32) then
  (mo_gr σ2 a0 7 1 fun x4 =>
  mo_gr σ2 a0 7 15 fun x5 =>
  mo_cs (m_X7_copies σ2 x4 (0 : Int32) x5 (0 : Int32)) fun _ σ6 =>
  m_X7_leastOf_l30 a0 a1 a2 hN_f σ6 (1 : Int32))
  else
  (some ((-1 : Int32), σ2))
set_option maxRecDepth 100000 in
set_option maxHeartbeats 4000000 in
theorem k_X7_leastOf {Λ : ex_L} {q : Nat} {σ σ' : ac_H} {a0 : Nat} {a1 : Int32} {a2 : Int32} {v : Int32} (hf : m_X7_leastOf σ a0 a1 a2 = some (v, σ')) : kx_C Λ yX7_leastOf (.code yX7_leastOf cX7_leastOf 4 (some .int)) ({ frames := 7, cells := 0, slots := 0, locals := 158 } : Room) [.ref a0, .int a1, .int a2] q σ (.inr (some (.int v))) σ' (fun z => z = q) := by
  refine kx_in (by decide +kernel) (Nat.le_of_ble_eq_true rfl) ?_
  intro Γ K hnm hsz hQ
  refine kx_lv (lv' := [(0, .ref a0), (1, .int a1), (2, .int a2)]) rfl ?_
  have B30 : ∀ (n30 : Nat) (σ8 : ac_H) (v7 : Int32), m_X7_leastOf_l30 a0 a1 a2 n30 σ8 v7 = some (v, σ') → kx_S Λ Γ 4 (fun z => z = q) σ8 (0) (0) 30 [(0, .ref a0), (1, .int a1), (2, .int a2), (3, .int v7)] [] := by
    intro n30
    induction n30 with
    | zero =>
      intro σ8 v7 hf
      rw [m_X7_leastOf_l30] at hf
      cases hf
    | succ n30 ih30 =>
      intro σ8 v7 hf
      rw [m_X7_leastOf_l30] at hf
      refine kx_iload_n K dX7_leastOf_30 rfl 3 rfl ?_
      refine kx_aload_n K dX7_leastOf_31 rfl 0 rfl ?_
      refine kx_gr K f_X7_7 dX7_leastOf_32 hf (fun x9 hf => ?_)
      refine kx_iload_n K dX7_leastOf_35 rfl 1 rfl ?_
      refine kx_iconst (v := 2) K dX7_leastOf_36 (by decide) ?_
      refine kx_cs3i K c_X7_201 (by decide) (Nat.le_of_ble_eq_true rfl) dX7_leastOf_37 hf (fun _ _ _ h => k_X7_ofFault h) (fun x11 σ10 hf => ?_)
      refine kx_icmp_gt K 77 hf dX7_leastOf_40 (by decide) (fun hf => ?_) (fun hf => ?_)
      · refine kx_iconst (v := -1) K dX7_leastOf_77 (by decide) ?_
        exact kx_iret K hQ (by decide) (by decide) (fun _ h => h) dX7_leastOf_78 hf
      · refine kx_aload_n K dX7_leastOf_43 rfl 0 rfl ?_
        refine kx_gr K f_X7_27 dX7_leastOf_44 hf (fun x12 hf => ?_)
        refine kx_bipush (v := 9) K dX7_leastOf_47 (by decide) ?_
        refine kx_iconst (v := 3) K dX7_leastOf_49 (by decide) ?_
        refine kx_iload_n K dX7_leastOf_50 rfl 1 rfl ?_
        refine kx_imul K dX7_leastOf_51 ?_
        refine kx_iadd K dX7_leastOf_52 ?_
        refine kx_iconst (v := 2) K dX7_leastOf_53 (by decide) ?_
        refine kx_iadd K dX7_leastOf_54 ?_
        refine kx_iload_n K dX7_leastOf_55 rfl 3 rfl ?_
        refine kx_ui K dX7_leastOf_56 hf (fun σ13 hf => ?_)
        refine kx_aload_n K dX7_leastOf_57 rfl 0 rfl ?_
        refine kx_aload_n K dX7_leastOf_58 rfl 0 rfl ?_
        refine kx_gr K f_X7_27 dX7_leastOf_59 hf (fun x14 hf => ?_)
        refine kx_iload_n K dX7_leastOf_62 rfl 2 rfl ?_
        refine kx_cv2i K c_X7_285 (by decide) (Nat.le_of_ble_eq_true rfl) dX7_leastOf_63 hf (fun _ _ _ h => k_X7_breaksBy h) (fun x16 σ15 hf => ?_)
        refine kx_if_eq K 71 hf dX7_leastOf_66 (by decide) (fun hf => ?_) (fun hf => ?_)
        · refine kx_iinc (v := (v7 + 1)) K [(3, .int (v7 + 1)), (0, .ref a0), (1, .int a1), (2, .int a2)] dX7_leastOf_71 3 rfl rfl (by decide) rfl ?_
          refine kx_goto K 30 dX7_leastOf_74 (by decide) ?_
          refine kx_sub [(0, .ref a0), (1, .int a1), (2, .int a2), (3, .int (v7 + 1))] [1, 2, 3, 0] rfl ?_
          exact ih30 _ _ hf
        · refine kx_iload_n K dX7_leastOf_69 rfl 3 rfl ?_
          exact kx_iret K hQ (by decide) (by decide) (fun _ h => h) dX7_leastOf_70 hf
  unfold m_X7_leastOf at hf
  refine kx_aload_n K dX7_leastOf_0 rfl 0 rfl ?_
  refine kx_gr K f_X7_7 dX7_leastOf_1 hf (fun x1 hf => ?_)
  refine kx_iload_n K dX7_leastOf_4 rfl 1 rfl ?_
  refine kx_iconst (v := 0) K dX7_leastOf_5 (by decide) ?_
  refine kx_cs3i K c_X7_201 (by decide) (Nat.le_of_ble_eq_true rfl) dX7_leastOf_6 hf (fun _ _ _ h => k_X7_ofFault h) (fun x3 σ2 hf => ?_)
  refine kx_iconst (v := 2) K dX7_leastOf_9 (by decide) ?_
  refine kx_icmp_eq K 15 hf dX7_leastOf_10 (by decide) (fun hf => ?_) (fun hf => ?_)
  · refine kx_aload_n K dX7_leastOf_15 rfl 0 rfl ?_
    refine kx_gr K f_X7_7 dX7_leastOf_16 hf (fun x4 hf => ?_)
    refine kx_iconst (v := 0) K dX7_leastOf_19 (by decide) ?_
    refine kx_aload_n K dX7_leastOf_20 rfl 0 rfl ?_
    refine kx_gr K f_X7_27 dX7_leastOf_21 hf (fun x5 hf => ?_)
    refine kx_iconst (v := 0) K dX7_leastOf_24 (by decide) ?_
    refine kx_cs4v K c_X7_194 (by decide) (Nat.le_of_ble_eq_true rfl) dX7_leastOf_25 hf (fun _ _ _ h => k_X7_copies h) (fun _ σ6 hf => ?_)
    refine kx_iconst (v := 1) K dX7_leastOf_28 (by decide) ?_
    refine kx_istore_n K [(3, .int (1 : Int32)), (0, .ref a0), (1, .int a1), (2, .int a2)] dX7_leastOf_29 rfl (by decide) rfl ?_
    refine kx_sub [(0, .ref a0), (1, .int a1), (2, .int a2), (3, .int (1 : Int32))] [1, 2, 3, 0] rfl ?_
    exact B30 hN_f _ _ hf
  · refine kx_iconst (v := -1) K dX7_leastOf_13 (by decide) ?_
    exact kx_iret K hQ (by decide) (by decide) (fun _ h => h) dX7_leastOf_14 hf
def m_X7_leastAmount (σ : ac_H) (a0 : Nat) (a1 : Int32) (a2 : Int32) : Option (Int32 × ac_H) :=
  mo_cv σ a0 7 (m_X7_noFault σ a0 a1) fun x2 σ1 =>
  if x2 = 0 then
  (mo_cv σ1 a0 7 (m_X7_noPromise σ1 a0 a2 (2 : Int32)) fun x4 σ3 =>
  if x4 = 0 then
  (mo_cv σ3 a0 7 (m_X7_leastOf σ3 a0 a1 a2) fun x6 σ5 =>
  some (x6, σ5))
  else
  (some ((0 : Int32), σ3)))
  else
  (some ((0 : Int32), σ1))
set_option maxRecDepth 100000 in
set_option maxHeartbeats 4000000 in
theorem k_X7_leastAmount {Λ : ex_L} {q : Nat} {σ σ' : ac_H} {a0 : Nat} {a1 : Int32} {a2 : Int32} {v : Int32} (hf : m_X7_leastAmount σ a0 a1 a2 = some (v, σ')) : kx_C Λ yX7_leastAmount (.code yX7_leastAmount cX7_leastAmount 3 (some .int)) ({ frames := 8, cells := 0, slots := 0, locals := 181 } : Room) [.ref a0, .int a1, .int a2] q σ (.inr (some (.int v))) σ' (fun z => z = q) := by
  refine kx_in (by decide +kernel) (Nat.le_of_ble_eq_true rfl) ?_
  intro Γ K hnm hsz hQ
  refine kx_lv (lv' := [(0, .ref a0), (1, .int a1), (2, .int a2)]) rfl ?_
  unfold m_X7_leastAmount at hf
  refine kx_aload_n K dX7_leastAmount_0 rfl 0 rfl ?_
  refine kx_iload_n K dX7_leastAmount_1 rfl 1 rfl ?_
  refine kx_cv1i K c_X7_267 (by decide) (Nat.le_of_ble_eq_true rfl) dX7_leastAmount_2 hf (fun _ _ _ h => k_X7_noFault h) (fun x2 σ1 hf => ?_)
  refine kx_if_ne K 17 hf dX7_leastAmount_5 (by decide) (fun hf => ?_) (fun hf => ?_)
  · refine kx_iconst (v := 0) K dX7_leastAmount_17 (by decide) ?_
    refine kx_goto K 27 dX7_leastAmount_18 (by decide) ?_
    exact kx_iret K hQ (by decide) (by decide) (fun _ h => h) dX7_leastAmount_27 hf
  · refine kx_aload_n K dX7_leastAmount_8 rfl 0 rfl ?_
    refine kx_iload_n K dX7_leastAmount_9 rfl 2 rfl ?_
    refine kx_iconst (v := 2) K dX7_leastAmount_10 (by decide) ?_
    refine kx_cv2i K c_X7_282 (by decide) (Nat.le_of_ble_eq_true rfl) dX7_leastAmount_11 hf (fun _ _ _ h => k_X7_noPromise h) (fun x4 σ3 hf => ?_)
    refine kx_if_eq K 21 hf dX7_leastAmount_14 (by decide) (fun hf => ?_) (fun hf => ?_)
    · refine kx_aload_n K dX7_leastAmount_21 rfl 0 rfl ?_
      refine kx_iload_n K dX7_leastAmount_22 rfl 1 rfl ?_
      refine kx_iload_n K dX7_leastAmount_23 rfl 2 rfl ?_
      refine kx_cv2i K c_X7_311 (by decide) (Nat.le_of_ble_eq_true rfl) dX7_leastAmount_24 hf (fun _ _ _ h => k_X7_leastOf h) (fun x6 σ5 hf => ?_)
      exact kx_iret K hQ (by decide) (by decide) (fun _ h => h) dX7_leastAmount_27 hf
    · refine kx_iconst (v := 0) K dX7_leastAmount_17 (by decide) ?_
      refine kx_goto K 27 dX7_leastAmount_18 (by decide) ?_
      exact kx_iret K hQ (by decide) (by decide) (fun _ h => h) dX7_leastAmount_27 hf
def m_X7_triesSingle (σ : ac_H) (a0 : Nat) (a1 : Int32) (a2 : Int32) (a3 : Int32) : Option (Unit × ac_H) :=
  mo_gr σ a0 7 1 fun x1 =>
  mo_gr σ a0 7 15 fun x2 =>
  mo_cs (m_X7_copies σ x1 (0 : Int32) x2 (0 : Int32)) fun _ σ3 =>
  mo_gr σ3 a0 7 15 fun x4 =>
  mo_ui σ3 x4 0 (8 : Int32) (0 : Int32) fun σ5 =>
  if a1 = (-1 : Int32) then
  (some ((), σ5))
  else
  (mo_gr σ5 a0 7 15 fun x6 =>
  mo_cs (m_X7_comes σ5 x6 a1 a2 a3) fun x8 σ7 =>
  some ((), σ7))
set_option maxRecDepth 100000 in
set_option maxHeartbeats 4000000 in
theorem k_X7_triesSingle {Λ : ex_L} {q : Nat} {σ σ' : ac_H} {a0 : Nat} {a1 : Int32} {a2 : Int32} {a3 : Int32} {v : Unit} (hf : m_X7_triesSingle σ a0 a1 a2 a3 = some (v, σ')) : kx_C Λ yX7_triesSingle (.code yX7_triesSingle cX7_triesSingle 5 none) ({ frames := 2, cells := 0, slots := 0, locals := 47 } : Room) [.ref a0, .int a1, .int a2, .int a3] q σ (.inr none) σ' (fun z => z = q) := by
  refine kx_in (by decide +kernel) (Nat.le_of_ble_eq_true rfl) ?_
  intro Γ K hnm hsz hQ
  refine kx_lv (lv' := [(0, .ref a0), (1, .int a1), (2, .int a2), (3, .int a3)]) rfl ?_
  unfold m_X7_triesSingle at hf
  refine kx_aload_n K dX7_triesSingle_0 rfl 0 rfl ?_
  refine kx_gr K f_X7_7 dX7_triesSingle_1 hf (fun x1 hf => ?_)
  refine kx_iconst (v := 0) K dX7_triesSingle_4 (by decide) ?_
  refine kx_aload_n K dX7_triesSingle_5 rfl 0 rfl ?_
  refine kx_gr K f_X7_27 dX7_triesSingle_6 hf (fun x2 hf => ?_)
  refine kx_iconst (v := 0) K dX7_triesSingle_9 (by decide) ?_
  refine kx_cs4v K c_X7_194 (by decide) (Nat.le_of_ble_eq_true rfl) dX7_triesSingle_10 hf (fun _ _ _ h => k_X7_copies h) (fun _ σ3 hf => ?_)
  refine kx_aload_n K dX7_triesSingle_13 rfl 0 rfl ?_
  refine kx_gr K f_X7_27 dX7_triesSingle_14 hf (fun x4 hf => ?_)
  refine kx_bipush (v := 8) K dX7_triesSingle_17 (by decide) ?_
  refine kx_iconst (v := 0) K dX7_triesSingle_19 (by decide) ?_
  refine kx_ui K dX7_triesSingle_20 hf (fun σ5 hf => ?_)
  refine kx_iload_n K dX7_triesSingle_21 rfl 1 rfl ?_
  refine kx_iconst (v := -1) K dX7_triesSingle_22 (by decide) ?_
  refine kx_icmp_ne K 30 hf dX7_triesSingle_23 (by decide) (fun hf => ?_) (fun hf => ?_)
  · refine kx_aload_n K dX7_triesSingle_30 rfl 0 rfl ?_
    refine kx_gr K f_X7_27 dX7_triesSingle_31 hf (fun x6 hf => ?_)
    refine kx_iload_n K dX7_triesSingle_34 rfl 1 rfl ?_
    refine kx_iload_n K dX7_triesSingle_35 rfl 2 rfl ?_
    refine kx_iload_n K dX7_triesSingle_36 rfl 3 rfl ?_
    refine kx_cs4i K c_X7_141 (by decide) (Nat.le_of_ble_eq_true rfl) dX7_triesSingle_37 hf (fun _ _ _ h => k_X7_comes h) (fun x8 σ7 hf => ?_)
    refine kx_istore K [(4, .int x8), (0, .ref a0), (1, .int a1), (2, .int a2), (3, .int a3)] dX7_triesSingle_40 (by decide) rfl ?_
    exact kx_vret K hQ (by decide) (by decide) (fun _ h => h) dX7_triesSingle_42 hf
  · refine kx_iconst (v := 0) K dX7_triesSingle_26 (by decide) ?_
    refine kx_goto K 40 dX7_triesSingle_27 (by decide) ?_
    refine kx_istore K [(4, .int (0 : Int32)), (0, .ref a0), (1, .int a1), (2, .int a2), (3, .int a3)] dX7_triesSingle_40 (by decide) rfl ?_
    exact kx_vret K hQ (by decide) (by decide) (fun _ h => h) dX7_triesSingle_42 hf
def m_X7_breaksAlone (σ : ac_H) (a0 : Nat) (a1 : Int32) : Option (Int32 × ac_H) :=
  mo_cv σ a0 7 (m_X7_triesSingle σ a0 (-1 : Int32) (0 : Int32) (0 : Int32)) fun _ σ1 =>
  mo_gr σ1 a0 7 15 fun x2 =>
  mo_cv σ1 a0 7 (m_X7_breaksBy σ1 a0 x2 a1) fun x4 σ3 =>
  mo_z x4 (some (x4, σ3))
set_option maxRecDepth 100000 in
set_option maxHeartbeats 4000000 in
theorem k_X7_breaksAlone {Λ : ex_L} {q : Nat} {σ σ' : ac_H} {a0 : Nat} {a1 : Int32} {v : Int32} (hf : m_X7_breaksAlone σ a0 a1 = some (v, σ')) : kx_C Λ yX7_breaksAlone (.code yX7_breaksAlone cX7_breaksAlone 2 (some .boolean)) ({ frames := 7, cells := 0, slots := 0, locals := 158 } : Room) [.ref a0, .int a1] q σ (.inr (some (.int v))) σ' (fun z => z = q) := by
  refine kx_in (by decide +kernel) (Nat.le_of_ble_eq_true rfl) ?_
  intro Γ K hnm hsz hQ
  refine kx_lv (lv' := [(0, .ref a0), (1, .int a1)]) rfl ?_
  unfold m_X7_breaksAlone at hf
  refine kx_aload_n K dX7_breaksAlone_0 rfl 0 rfl ?_
  refine kx_iconst (v := -1) K dX7_breaksAlone_1 (by decide) ?_
  refine kx_iconst (v := 0) K dX7_breaksAlone_2 (by decide) ?_
  refine kx_iconst (v := 0) K dX7_breaksAlone_3 (by decide) ?_
  refine kx_cv3v K c_X7_315 (by decide) (Nat.le_of_ble_eq_true rfl) dX7_breaksAlone_4 hf (fun _ _ _ h => k_X7_triesSingle h) (fun _ σ1 hf => ?_)
  refine kx_aload_n K dX7_breaksAlone_7 rfl 0 rfl ?_
  refine kx_aload_n K dX7_breaksAlone_8 rfl 0 rfl ?_
  refine kx_gr K f_X7_27 dX7_breaksAlone_9 hf (fun x2 hf => ?_)
  refine kx_iload_n K dX7_breaksAlone_12 rfl 1 rfl ?_
  refine kx_cv2i K c_X7_285 (by decide) (Nat.le_of_ble_eq_true rfl) dX7_breaksAlone_13 hf (fun _ _ _ h => k_X7_breaksBy h) (fun x4 σ3 hf => ?_)
  exact kx_zret K hQ (by decide) (by decide) (fun _ h => h) dX7_breaksAlone_16 hf
def m_X7_attacks (σ : ac_H) (a0 : Nat) (a1 : Int32) (a2 : Int32) (a3 : Int32) (a4 : Int32) : Option (Int32 × ac_H) :=
  mo_pv σ a0 7 33 (.int a2) fun σ1 =>
  mo_pv σ1 a0 7 34 (.int a3) fun σ2 =>
  mo_pv σ2 a0 7 35 (.int a4) fun σ3 =>
  mo_cv σ3 a0 7 (m_X7_triesSingle σ3 a0 a2 a3 a4) fun _ σ4 =>
  mo_gr σ4 a0 7 15 fun x5 =>
  mo_cv σ4 a0 7 (m_X7_breaksBy σ4 a0 x5 a1) fun x7 σ6 =>
  mo_z x7 (some (x7, σ6))
set_option maxRecDepth 100000 in
set_option maxHeartbeats 4000000 in
theorem k_X7_attacks {Λ : ex_L} {q : Nat} {σ σ' : ac_H} {a0 : Nat} {a1 : Int32} {a2 : Int32} {a3 : Int32} {a4 : Int32} {v : Int32} (hf : m_X7_attacks σ a0 a1 a2 a3 a4 = some (v, σ')) : kx_C Λ yX7_attacks (.code yX7_attacks cX7_attacks 5 (some .boolean)) ({ frames := 7, cells := 0, slots := 0, locals := 158 } : Room) [.ref a0, .int a1, .int a2, .int a3, .int a4] q σ (.inr (some (.int v))) σ' (fun z => z = q) := by
  refine kx_in (by decide +kernel) (Nat.le_of_ble_eq_true rfl) ?_
  intro Γ K hnm hsz hQ
  refine kx_lv (lv' := [(0, .ref a0), (1, .int a1), (2, .int a2), (3, .int a3), (4, .int a4)]) rfl ?_
  unfold m_X7_attacks at hf
  refine kx_aload_n K dX7_attacks_0 rfl 0 rfl ?_
  refine kx_iload_n K dX7_attacks_1 rfl 2 rfl ?_
  refine kx_pi K f_X7_319 dX7_attacks_2 hf (fun σ1 hf => ?_)
  refine kx_aload_n K dX7_attacks_5 rfl 0 rfl ?_
  refine kx_iload_n K dX7_attacks_6 rfl 3 rfl ?_
  refine kx_pi K f_X7_322 dX7_attacks_7 hf (fun σ2 hf => ?_)
  refine kx_aload_n K dX7_attacks_10 rfl 0 rfl ?_
  refine kx_iload K dX7_attacks_11 4 rfl ?_
  refine kx_pi K f_X7_325 dX7_attacks_13 hf (fun σ3 hf => ?_)
  refine kx_aload_n K dX7_attacks_16 rfl 0 rfl ?_
  refine kx_iload_n K dX7_attacks_17 rfl 2 rfl ?_
  refine kx_iload_n K dX7_attacks_18 rfl 3 rfl ?_
  refine kx_iload K dX7_attacks_19 4 rfl ?_
  refine kx_cv3v K c_X7_315 (by decide) (Nat.le_of_ble_eq_true rfl) dX7_attacks_21 hf (fun _ _ _ h => k_X7_triesSingle h) (fun _ σ4 hf => ?_)
  refine kx_aload_n K dX7_attacks_24 rfl 0 rfl ?_
  refine kx_aload_n K dX7_attacks_25 rfl 0 rfl ?_
  refine kx_gr K f_X7_27 dX7_attacks_26 hf (fun x5 hf => ?_)
  refine kx_iload_n K dX7_attacks_29 rfl 1 rfl ?_
  refine kx_cv2i K c_X7_285 (by decide) (Nat.le_of_ble_eq_true rfl) dX7_attacks_30 hf (fun _ _ _ h => k_X7_breaksBy h) (fun x7 σ6 hf => ?_)
  exact kx_zret K hQ (by decide) (by decide) (fun _ h => h) dX7_attacks_33 hf
def m_X7_findsAttack_l49 (K17 : ac_H → Int32 → Int32 → Option (Int32 × ac_H)) (a0 : Nat) (a1 : Int32) : Nat → ac_H → Int32 → Int32 → Int32 → Option (Int32 × ac_H)
  | 0, _, _, _, _ => none
  | n + 1, σ14, v11, v12, v13 =>
    if (20 : Int32) < v13 then
    (K17 σ14 v11 (v12 + 1))
    else
    (mo_cv σ14 a0 7 (m_X7_attacks σ14 a0 a1 (2 : Int32) v12 v13) fun x16 σ15 =>
    if x16 = 0 then
    (m_X7_findsAttack_l49 K17 a0 a1 n σ15 v11 v12 (v13 + 1))
    else
    (mo_z (1 : Int32) (some ((1 : Int32), σ15))))
def m_X7_findsAttack_l17  (a0 : Nat) (a1 : Int32) : Nat → ac_H → Int32 → Int32 → Option (Int32 × ac_H)
  | 0, _, _, _ => none
  | n + 1, σ6, v4, v5 =>
    if v5 < v4 then
    (mo_cv σ6 a0 7 (m_X7_attacks σ6 a0 a1 (0 : Int32) v5 (0 : Int32)) fun x8 σ7 =>
    if x8 = 0 then
    (mo_cv σ7 a0 7 (m_X7_attacks σ7 a0 a1 (1 : Int32) v5 (0 : Int32)) fun x10 σ9 =>
    if x10 = 0 then
    (m_X7_findsAttack_l49 (fun ρ y0 y1 => m_X7_findsAttack_l17 a0 a1 n ρ y0 y1) a0 a1 hN_f σ9 v4 v5 (1 : Int32))
    else
    (mo_z (1 : Int32) (some ((1 : Int32), σ9))))
    else
    (mo_z (1 : Int32) (some ((1 : Int32), σ7))))
    else
    (mo_z (0 : Int32) (some ((0 : Int32), σ6)))
def m_X7_findsAttack (σ : ac_H) (a0 : Nat) (a1 : Int32) : Option (Int32 × ac_H) :=
  mo_cv σ a0 7 (m_X7_breaksAlone σ a0 a1) fun x2 σ1 =>
  if x2 = 0 then
  (mo_gi σ1 a0 7 21 fun x3 =>
  m_X7_findsAttack_l17 a0 a1 hN_f σ1 x3 (0 : Int32))
  else
  (mo_z (0 : Int32) (some ((0 : Int32), σ1)))
set_option maxRecDepth 100000 in
set_option maxHeartbeats 4000000 in
theorem k_X7_findsAttack {Λ : ex_L} {q : Nat} {σ σ' : ac_H} {a0 : Nat} {a1 : Int32} {v : Int32} (hf : m_X7_findsAttack σ a0 a1 = some (v, σ')) : kx_C Λ yX7_findsAttack (.code yX7_findsAttack cX7_findsAttack 5 (some .boolean)) ({ frames := 8, cells := 0, slots := 0, locals := 182 } : Room) [.ref a0, .int a1] q σ (.inr (some (.int v))) σ' (fun z => z = q) := by
  refine kx_in (by decide +kernel) (Nat.le_of_ble_eq_true rfl) ?_
  intro Γ K hnm hsz hQ
  refine kx_lv (lv' := [(0, .ref a0), (1, .int a1)]) rfl ?_
  have B17 : ∀ (n17 : Nat) (σ6 : ac_H) (v4 : Int32) (v5 : Int32), m_X7_findsAttack_l17 a0 a1 n17 σ6 v4 v5 = some (v, σ') → kx_S Λ Γ 5 (fun z => z = q) σ6 (0) (0) 17 [(0, .ref a0), (1, .int a1), (2, .int v4), (3, .int v5)] [] := by
    intro n17
    induction n17 with
    | zero =>
      intro σ6 v4 v5 hf
      rw [m_X7_findsAttack_l17] at hf
      cases hf
    | succ n17 ih17 =>
      have B49 : ∀ (n49 : Nat) (σ14 : ac_H) (v11 : Int32) (v12 : Int32) (v13 : Int32), m_X7_findsAttack_l49 (fun ρ y0 y1 => m_X7_findsAttack_l17 a0 a1 n17 ρ y0 y1) a0 a1 n49 σ14 v11 v12 v13 = some (v, σ') → kx_S Λ Γ 5 (fun z => z = q) σ14 (0) (0) 49 [(0, .ref a0), (1, .int a1), (2, .int v11), (3, .int v12), (4, .int v13)] [] := by
        intro n49
        induction n49 with
        | zero =>
          intro σ14 v11 v12 v13 hf
          rw [m_X7_findsAttack_l49] at hf
          cases hf
        | succ n49 ih49 =>
          intro σ14 v11 v12 v13 hf
          rw [m_X7_findsAttack_l49] at hf
          refine kx_iload K dX7_findsAttack_49 4 rfl ?_
          refine kx_bipush (v := 20) K dX7_findsAttack_51 (by decide) ?_
          refine kx_icmp_gt K 76 hf dX7_findsAttack_53 (by decide) (fun hf => ?_) (fun hf => ?_)
          · refine kx_iinc (v := (v12 + 1)) K [(3, .int (v12 + 1)), (0, .ref a0), (1, .int a1), (2, .int v11), (4, .int v13)] dX7_findsAttack_76 3 rfl rfl (by decide) rfl ?_
            refine kx_goto K 17 dX7_findsAttack_79 (by decide) ?_
            refine kx_sub [(0, .ref a0), (1, .int a1), (2, .int v11), (3, .int (v12 + 1))] [1, 2, 3, 0] rfl ?_
            exact ih17 _ _ _ hf
          · refine kx_aload_n K dX7_findsAttack_56 rfl 0 rfl ?_
            refine kx_iload_n K dX7_findsAttack_57 rfl 1 rfl ?_
            refine kx_iconst (v := 2) K dX7_findsAttack_58 (by decide) ?_
            refine kx_iload_n K dX7_findsAttack_59 rfl 3 rfl ?_
            refine kx_iload K dX7_findsAttack_60 4 rfl ?_
            refine kx_cv4i K c_X7_331 (by decide) (Nat.le_of_ble_eq_true rfl) dX7_findsAttack_62 hf (fun _ _ _ h => k_X7_attacks h) (fun x16 σ15 hf => ?_)
            refine kx_if_eq K 70 hf dX7_findsAttack_65 (by decide) (fun hf => ?_) (fun hf => ?_)
            · refine kx_iinc (v := (v13 + 1)) K [(4, .int (v13 + 1)), (0, .ref a0), (1, .int a1), (2, .int v11), (3, .int v12)] dX7_findsAttack_70 4 rfl rfl (by decide) rfl ?_
              refine kx_goto K 49 dX7_findsAttack_73 (by decide) ?_
              refine kx_sub [(0, .ref a0), (1, .int a1), (2, .int v11), (3, .int v12), (4, .int (v13 + 1))] [1, 2, 3, 4, 0] rfl ?_
              exact ih49 _ _ _ _ hf
            · refine kx_iconst (v := 1) K dX7_findsAttack_68 (by decide) ?_
              exact kx_zret K hQ (by decide) (by decide) (fun _ h => h) dX7_findsAttack_69 hf
      intro σ6 v4 v5 hf
      rw [m_X7_findsAttack_l17] at hf
      refine kx_iload_n K dX7_findsAttack_17 rfl 3 rfl ?_
      refine kx_iload_n K dX7_findsAttack_18 rfl 2 rfl ?_
      refine kx_icmp_ge K 82 hf dX7_findsAttack_19 (by decide) (fun hf => ?_) (fun hf => ?_)
      · refine kx_iconst (v := 0) K dX7_findsAttack_82 (by decide) ?_
        exact kx_zret K hQ (by decide) (by decide) (fun _ h => h) dX7_findsAttack_83 hf
      · refine kx_aload_n K dX7_findsAttack_22 rfl 0 rfl ?_
        refine kx_iload_n K dX7_findsAttack_23 rfl 1 rfl ?_
        refine kx_iconst (v := 0) K dX7_findsAttack_24 (by decide) ?_
        refine kx_iload_n K dX7_findsAttack_25 rfl 3 rfl ?_
        refine kx_iconst (v := 0) K dX7_findsAttack_26 (by decide) ?_
        refine kx_cv4i K c_X7_331 (by decide) (Nat.le_of_ble_eq_true rfl) dX7_findsAttack_27 hf (fun _ _ _ h => k_X7_attacks h) (fun x8 σ7 hf => ?_)
        refine kx_if_ne K 44 hf dX7_findsAttack_30 (by decide) (fun hf => ?_) (fun hf => ?_)
        · refine kx_iconst (v := 1) K dX7_findsAttack_44 (by decide) ?_
          exact kx_zret K hQ (by decide) (by decide) (fun _ h => h) dX7_findsAttack_45 hf
        · refine kx_aload_n K dX7_findsAttack_33 rfl 0 rfl ?_
          refine kx_iload_n K dX7_findsAttack_34 rfl 1 rfl ?_
          refine kx_iconst (v := 1) K dX7_findsAttack_35 (by decide) ?_
          refine kx_iload_n K dX7_findsAttack_36 rfl 3 rfl ?_
          refine kx_iconst (v := 0) K dX7_findsAttack_37 (by decide) ?_
          refine kx_cv4i K c_X7_331 (by decide) (Nat.le_of_ble_eq_true rfl) dX7_findsAttack_38 hf (fun _ _ _ h => k_X7_attacks h) (fun x10 σ9 hf => ?_)
          refine kx_if_eq K 46 hf dX7_findsAttack_41 (by decide) (fun hf => ?_) (fun hf => ?_)
          · refine kx_iconst (v := 1) K dX7_findsAttack_46 (by decide) ?_
            refine kx_istore K [(4, .int (1 : Int32)), (0, .ref a0), (1, .int a1), (2, .int v4), (3, .int v5)] dX7_findsAttack_47 (by decide) rfl ?_
            refine kx_sub [(0, .ref a0), (1, .int a1), (2, .int v4), (3, .int v5), (4, .int (1 : Int32))] [1, 2, 3, 4, 0] rfl ?_
            exact B49 hN_f _ _ _ _ hf
          · refine kx_iconst (v := 1) K dX7_findsAttack_44 (by decide) ?_
            exact kx_zret K hQ (by decide) (by decide) (fun _ h => h) dX7_findsAttack_45 hf
  unfold m_X7_findsAttack at hf
  refine kx_aload_n K dX7_findsAttack_0 rfl 0 rfl ?_
  refine kx_iload_n K dX7_findsAttack_1 rfl 1 rfl ?_
  refine kx_cv1i K c_X7_328 (by decide) (Nat.le_of_ble_eq_true rfl) dX7_findsAttack_2 hf (fun _ _ _ h => k_X7_breaksAlone h) (fun x2 σ1 hf => ?_)
  refine kx_if_eq K 10 hf dX7_findsAttack_5 (by decide) (fun hf => ?_) (fun hf => ?_)
  · refine kx_aload_n K dX7_findsAttack_10 rfl 0 rfl ?_
    refine kx_gi K f_X7_204 dX7_findsAttack_11 hf (fun x3 hf => ?_)
    refine kx_istore_n K [(2, .int x3), (0, .ref a0), (1, .int a1)] dX7_findsAttack_14 rfl (by decide) rfl ?_
    refine kx_iconst (v := 0) K dX7_findsAttack_15 (by decide) ?_
    refine kx_istore_n K [(3, .int (0 : Int32)), (2, .int x3), (0, .ref a0), (1, .int a1)] dX7_findsAttack_16 rfl (by decide) rfl ?_
    refine kx_sub [(0, .ref a0), (1, .int a1), (2, .int x3), (3, .int (0 : Int32))] [2, 3, 1, 0] rfl ?_
    exact B17 hN_f _ _ _ hf
  · refine kx_iconst (v := 0) K dX7_findsAttack_8 (by decide) ?_
    exact kx_zret K hQ (by decide) (by decide) (fun _ h => h) dX7_findsAttack_9 hf
def m_X7_attack_j29  (a0 : Nat) (a1 : Int32) (a2 : Int32) (σ8 : ac_H) (w6 : Int32) (w7 : Nat) : Option (Int32 × ac_H) :=
  mo_cv σ8 w7 7 (m_X7_throwsIf σ8 w7 w6 (1 : Int32)) fun x10 σ9 =>
  if x10 = 0 then
  (mo_cv σ9 a0 7 (m_X7_findsAttack σ9 a0 a1) fun x12 σ11 =>
  if x12 = 0 then
  (some ((-1 : Int32), σ11))
  else
  (if a2 = 0 then
  (mo_gi σ11 a0 7 33 fun x15 =>
  some (x15, σ11))
  else
  (if a2 = (1 : Int32) then
  (mo_gi σ11 a0 7 34 fun x14 =>
  some (x14, σ11))
  else
  (mo_gi σ11 a0 7 35 fun x13 =>
  some (x13, σ11)))))
  else
  (some ((0 : Int32), σ9))
def m_X7_attack (σ : ac_H) (a0 : Nat) (a1 : Int32) (a2 : Int32) : Option (Int32 × ac_H) :=
  mo_pv σ a0 7 0 (.int (0 : Int32)) fun σ1 =>
  mo_cv σ1 a0 7 (m_X7_noPromise σ1 a0 a1 (1 : Int32)) fun x3 σ2 =>
  if x3 = 0 then
  (mo_cs (m_X7_within σ2 a2 (0 : Int32) (2 : Int32)) fun x5 σ4 =>
  if x5 = 0 then
  (m_X7_attack_j29 a0 a1 a2 σ4 (1 : Int32) a0)
  else
  (m_X7_attack_j29 a0 a1 a2 σ4 (0 : Int32) a0))
  else
  (some ((0 : Int32), σ2))
set_option maxRecDepth 100000 in
set_option maxHeartbeats 4000000 in
theorem k_X7_attack {Λ : ex_L} {q : Nat} {σ σ' : ac_H} {a0 : Nat} {a1 : Int32} {a2 : Int32} {v : Int32} (hf : m_X7_attack σ a0 a1 a2 = some (v, σ')) : kx_C Λ yX7_attack (.code yX7_attack cX7_attack 3 (some .int)) ({ frames := 9, cells := 0, slots := 0, locals := 206 } : Room) [.ref a0, .int a1, .int a2] q σ (.inr (some (.int v))) σ' (fun z => z = q) := by
  refine kx_in (by decide +kernel) (Nat.le_of_ble_eq_true rfl) ?_
  intro Γ K hnm hsz hQ
  refine kx_lv (lv' := [(0, .ref a0), (1, .int a1), (2, .int a2)]) rfl ?_
  have B29 : ∀ (σ8 : ac_H) (w6 : Int32) (w7 : Nat), m_X7_attack_j29 a0 a1 a2 σ8 w6 w7 = some (v, σ') → kx_S Λ Γ 3 (fun z => z = q) σ8 (0) (0) 29 [(0, .ref a0), (1, .int a1), (2, .int a2)] [.int w6, .ref w7] := by
    intro σ8 w6 w7 hf
    unfold m_X7_attack_j29 at hf
    refine kx_iconst (v := 1) K dX7_attack_29 (by decide) ?_
    refine kx_cv2i K c_X7_184 (by decide) (Nat.le_of_ble_eq_true rfl) dX7_attack_30 hf (fun _ _ _ h => k_X7_throwsIf h) (fun x10 σ9 hf => ?_)
    refine kx_if_eq K 38 hf dX7_attack_33 (by decide) (fun hf => ?_) (fun hf => ?_)
    · refine kx_aload_n K dX7_attack_38 rfl 0 rfl ?_
      refine kx_iload_n K dX7_attack_39 rfl 1 rfl ?_
      refine kx_cv1i K c_X7_335 (by decide) (Nat.le_of_ble_eq_true rfl) dX7_attack_40 hf (fun _ _ _ h => k_X7_findsAttack h) (fun x12 σ11 hf => ?_)
      refine kx_if_ne K 48 hf dX7_attack_43 (by decide) (fun hf => ?_) (fun hf => ?_)
      · refine kx_iload_n K dX7_attack_48 rfl 2 rfl ?_
        refine kx_if_ne K 59 hf dX7_attack_49 (by decide) (fun hf => ?_) (fun hf => ?_)
        · refine kx_iload_n K dX7_attack_59 rfl 2 rfl ?_
          refine kx_iconst (v := 1) K dX7_attack_60 (by decide) ?_
          refine kx_icmp_ne K 71 hf dX7_attack_61 (by decide) (fun hf => ?_) (fun hf => ?_)
          · refine kx_aload_n K dX7_attack_71 rfl 0 rfl ?_
            refine kx_gi K f_X7_325 dX7_attack_72 hf (fun x13 hf => ?_)
            exact kx_iret K hQ (by decide) (by decide) (fun _ h => h) dX7_attack_75 hf
          · refine kx_aload_n K dX7_attack_64 rfl 0 rfl ?_
            refine kx_gi K f_X7_322 dX7_attack_65 hf (fun x14 hf => ?_)
            refine kx_goto K 75 dX7_attack_68 (by decide) ?_
            exact kx_iret K hQ (by decide) (by decide) (fun _ h => h) dX7_attack_75 hf
        · refine kx_aload_n K dX7_attack_52 rfl 0 rfl ?_
          refine kx_gi K f_X7_319 dX7_attack_53 hf (fun x15 hf => ?_)
          refine kx_goto K 75 dX7_attack_56 (by decide) ?_
          exact kx_iret K hQ (by decide) (by decide) (fun _ h => h) dX7_attack_75 hf
      · refine kx_iconst (v := -1) K dX7_attack_46 (by decide) ?_
        exact kx_iret K hQ (by decide) (by decide) (fun _ h => h) dX7_attack_47 hf
    · refine kx_iconst (v := 0) K dX7_attack_36 (by decide) ?_
      exact kx_iret K hQ (by decide) (by decide) (fun _ h => h) dX7_attack_37 hf
  unfold m_X7_attack at hf
  refine kx_aload_n K dX7_attack_0 rfl 0 rfl ?_
  refine kx_iconst (v := 0) K dX7_attack_1 (by decide) ?_
  refine kx_pi K f_X7_65 dX7_attack_2 hf (fun σ1 hf => ?_)
  refine kx_aload_n K dX7_attack_5 rfl 0 rfl ?_
  refine kx_iload_n K dX7_attack_6 rfl 1 rfl ?_
  refine kx_iconst (v := 1) K dX7_attack_7 (by decide) ?_
  refine kx_cv2i K c_X7_282 (by decide) (Nat.le_of_ble_eq_true rfl) dX7_attack_8 hf (fun _ _ _ h => k_X7_noPromise h) (fun x3 σ2 hf => ?_)
  refine kx_if_ne K 36 hf dX7_attack_11 (by decide) (fun hf => ?_) (fun hf => ?_)
  · refine kx_iconst (v := 0) K dX7_attack_36 (by decide) ?_
    exact kx_iret K hQ (by decide) (by decide) (fun _ h => h) dX7_attack_37 hf
  · refine kx_aload_n K dX7_attack_14 rfl 0 rfl ?_
    refine kx_iload_n K dX7_attack_15 rfl 2 rfl ?_
    refine kx_iconst (v := 0) K dX7_attack_16 (by decide) ?_
    refine kx_iconst (v := 2) K dX7_attack_17 (by decide) ?_
    refine kx_cs3i K c_X7_94 (by decide) (Nat.le_of_ble_eq_true rfl) dX7_attack_18 hf (fun _ _ _ h => k_X7_within h) (fun x5 σ4 hf => ?_)
    refine kx_if_ne K 28 hf dX7_attack_21 (by decide) (fun hf => ?_) (fun hf => ?_)
    · refine kx_iconst (v := 0) K dX7_attack_28 (by decide) ?_
      refine kx_sub [(0, .ref a0), (1, .int a1), (2, .int a2)] [0, 1, 2] rfl ?_
      exact B29 _ _ _ hf
    · refine kx_iconst (v := 1) K dX7_attack_24 (by decide) ?_
      refine kx_goto K 29 dX7_attack_25 (by decide) ?_
      refine kx_sub [(0, .ref a0), (1, .int a1), (2, .int a2)] [0, 1, 2] rfl ?_
      exact B29 _ _ _ hf
def m_X7_weakPoints_l28  (a0 : Nat) (a1 : Int32) : Nat → ac_H → Int32 → Int32 → Option (Int32 × ac_H)
  | 0, _, _, _ => none
  | n + 1, σ8, v6, v7 =>
    if v7 < (120 : Int32) then
    (mo_cv σ8 a0 7 (m_X7_triesSingle σ8 a0 (0 : Int32) v7 (0 : Int32)) fun _ σ9 =>
    mo_gr σ9 a0 7 15 fun x10 =>
    mo_cv σ9 a0 7 (m_X7_breaksBy σ9 a0 x10 a1) fun x12 σ11 =>
    if x12 = 0 then
    (m_X7_weakPoints_l28 a0 a1 n σ11 (v6 + (0 : Int32)) (v7 + 1))
    else
    (m_X7_weakPoints_l28 a0 a1 n σ11 (v6 + (1 : Int32)) (v7 + 1)))
    else
    (some (v6, σ8))
def m_X7_weakPoints (σ : ac_H) (a0 : Nat) (a1 : Int32) : Option (Int32 × ac_H) :=
  mo_pv σ a0 7 0 (.int (0 : Int32)) fun σ1 =>
  mo_cv σ1 a0 7 (m_X7_noPromise σ1 a0 a1 (1 : Int32)) fun x3 σ2 =>
  if x3 = 0 then
  (mo_cv σ2 a0 7 (m_X7_breaksAlone σ2 a0 a1) fun x5 σ4 =>
  if x5 = 0 then
  (m_X7_weakPoints_l28 a0 a1 hN_f σ4 (0 : Int32) (0 : Int32))
  else
  (some ((0 : Int32), σ4)))
  else
  (some ((0 : Int32), σ2))
set_option maxRecDepth 100000 in
set_option maxHeartbeats 4000000 in
theorem k_X7_weakPoints {Λ : ex_L} {q : Nat} {σ σ' : ac_H} {a0 : Nat} {a1 : Int32} {v : Int32} (hf : m_X7_weakPoints σ a0 a1 = some (v, σ')) : kx_C Λ yX7_weakPoints (.code yX7_weakPoints cX7_weakPoints 4 (some .int)) ({ frames := 8, cells := 0, slots := 0, locals := 179 } : Room) [.ref a0, .int a1] q σ (.inr (some (.int v))) σ' (fun z => z = q) := by
  refine kx_in (by decide +kernel) (Nat.le_of_ble_eq_true rfl) ?_
  intro Γ K hnm hsz hQ
  refine kx_lv (lv' := [(0, .ref a0), (1, .int a1)]) rfl ?_
  have B28 : ∀ (n28 : Nat) (σ8 : ac_H) (v6 : Int32) (v7 : Int32), m_X7_weakPoints_l28 a0 a1 n28 σ8 v6 v7 = some (v, σ') → kx_S Λ Γ 4 (fun z => z = q) σ8 (0) (0) 28 [(0, .ref a0), (1, .int a1), (2, .int v6), (3, .int v7)] [] := by
    intro n28
    induction n28 with
    | zero =>
      intro σ8 v6 v7 hf
      rw [m_X7_weakPoints_l28] at hf
      cases hf
    | succ n28 ih28 =>
      intro σ8 v6 v7 hf
      rw [m_X7_weakPoints_l28] at hf
      refine kx_iload_n K dX7_weakPoints_28 rfl 3 rfl ?_
      refine kx_bipush (v := 120) K dX7_weakPoints_29 (by decide) ?_
      refine kx_icmp_ge K 67 hf dX7_weakPoints_31 (by decide) (fun hf => ?_) (fun hf => ?_)
      · refine kx_iload_n K dX7_weakPoints_67 rfl 2 rfl ?_
        exact kx_iret K hQ (by decide) (by decide) (fun _ h => h) dX7_weakPoints_68 hf
      · refine kx_aload_n K dX7_weakPoints_34 rfl 0 rfl ?_
        refine kx_iconst (v := 0) K dX7_weakPoints_35 (by decide) ?_
        refine kx_iload_n K dX7_weakPoints_36 rfl 3 rfl ?_
        refine kx_iconst (v := 0) K dX7_weakPoints_37 (by decide) ?_
        refine kx_cv3v K c_X7_315 (by decide) (Nat.le_of_ble_eq_true rfl) dX7_weakPoints_38 hf (fun _ _ _ h => k_X7_triesSingle h) (fun _ σ9 hf => ?_)
        refine kx_iload_n K dX7_weakPoints_41 rfl 2 rfl ?_
        refine kx_aload_n K dX7_weakPoints_42 rfl 0 rfl ?_
        refine kx_aload_n K dX7_weakPoints_43 rfl 0 rfl ?_
        refine kx_gr K f_X7_27 dX7_weakPoints_44 hf (fun x10 hf => ?_)
        refine kx_iload_n K dX7_weakPoints_47 rfl 1 rfl ?_
        refine kx_cv2i K c_X7_285 (by decide) (Nat.le_of_ble_eq_true rfl) dX7_weakPoints_48 hf (fun _ _ _ h => k_X7_breaksBy h) (fun x12 σ11 hf => ?_)
        refine kx_if_eq K 58 hf dX7_weakPoints_51 (by decide) (fun hf => ?_) (fun hf => ?_)
        · refine kx_iconst (v := 0) K dX7_weakPoints_58 (by decide) ?_
          refine kx_iadd K dX7_weakPoints_59 ?_
          refine kx_istore_n K [(2, .int (v6 + (0 : Int32))), (0, .ref a0), (1, .int a1), (3, .int v7)] dX7_weakPoints_60 rfl (by decide) rfl ?_
          refine kx_iinc (v := (v7 + 1)) K [(3, .int (v7 + 1)), (2, .int (v6 + (0 : Int32))), (0, .ref a0), (1, .int a1)] dX7_weakPoints_61 3 rfl rfl (by decide) rfl ?_
          refine kx_goto K 28 dX7_weakPoints_64 (by decide) ?_
          refine kx_sub [(0, .ref a0), (1, .int a1), (2, .int (v6 + (0 : Int32))), (3, .int (v7 + 1))] [2, 3, 1, 0] rfl ?_
          exact ih28 _ _ _ hf
        · refine kx_iconst (v := 1) K dX7_weakPoints_54 (by decide) ?_
          refine kx_goto K 59 dX7_weakPoints_55 (by decide) ?_
          refine kx_iadd K dX7_weakPoints_59 ?_
          refine kx_istore_n K [(2, .int (v6 + (1 : Int32))), (0, .ref a0), (1, .int a1), (3, .int v7)] dX7_weakPoints_60 rfl (by decide) rfl ?_
          refine kx_iinc (v := (v7 + 1)) K [(3, .int (v7 + 1)), (2, .int (v6 + (1 : Int32))), (0, .ref a0), (1, .int a1)] dX7_weakPoints_61 3 rfl rfl (by decide) rfl ?_
          refine kx_goto K 28 dX7_weakPoints_64 (by decide) ?_
          refine kx_sub [(0, .ref a0), (1, .int a1), (2, .int (v6 + (1 : Int32))), (3, .int (v7 + 1))] [2, 3, 1, 0] rfl ?_
          exact ih28 _ _ _ hf
  unfold m_X7_weakPoints at hf
  refine kx_aload_n K dX7_weakPoints_0 rfl 0 rfl ?_
  refine kx_iconst (v := 0) K dX7_weakPoints_1 (by decide) ?_
  refine kx_pi K f_X7_65 dX7_weakPoints_2 hf (fun σ1 hf => ?_)
  refine kx_aload_n K dX7_weakPoints_5 rfl 0 rfl ?_
  refine kx_iload_n K dX7_weakPoints_6 rfl 1 rfl ?_
  refine kx_iconst (v := 1) K dX7_weakPoints_7 (by decide) ?_
  refine kx_cv2i K c_X7_282 (by decide) (Nat.le_of_ble_eq_true rfl) dX7_weakPoints_8 hf (fun _ _ _ h => k_X7_noPromise h) (fun x3 σ2 hf => ?_)
  refine kx_if_ne K 22 hf dX7_weakPoints_11 (by decide) (fun hf => ?_) (fun hf => ?_)
  · refine kx_iconst (v := 0) K dX7_weakPoints_22 (by decide) ?_
    exact kx_iret K hQ (by decide) (by decide) (fun _ h => h) dX7_weakPoints_23 hf
  · refine kx_aload_n K dX7_weakPoints_14 rfl 0 rfl ?_
    refine kx_iload_n K dX7_weakPoints_15 rfl 1 rfl ?_
    refine kx_cv1i K c_X7_328 (by decide) (Nat.le_of_ble_eq_true rfl) dX7_weakPoints_16 hf (fun _ _ _ h => k_X7_breaksAlone h) (fun x5 σ4 hf => ?_)
    refine kx_if_eq K 24 hf dX7_weakPoints_19 (by decide) (fun hf => ?_) (fun hf => ?_)
    · refine kx_iconst (v := 0) K dX7_weakPoints_24 (by decide) ?_
      refine kx_istore_n K [(2, .int (0 : Int32)), (0, .ref a0), (1, .int a1)] dX7_weakPoints_25 rfl (by decide) rfl ?_
      refine kx_iconst (v := 0) K dX7_weakPoints_26 (by decide) ?_
      refine kx_istore_n K [(3, .int (0 : Int32)), (2, .int (0 : Int32)), (0, .ref a0), (1, .int a1)] dX7_weakPoints_27 rfl (by decide) rfl ?_
      refine kx_sub [(0, .ref a0), (1, .int a1), (2, .int (0 : Int32)), (3, .int (0 : Int32))] [2, 3, 1, 0] rfl ?_
      exact B28 hN_f _ _ _ hf
    · refine kx_iconst (v := 0) K dX7_weakPoints_22 (by decide) ?_
      exact kx_iret K hQ (by decide) (by decide) (fun _ h => h) dX7_weakPoints_23 hf
def m_X7_timerFor_l31  (a0 : Nat) (a1 : Int32) : Nat → ac_H → Int32 → Option (Int32 × ac_H)
  | 0, _, _ => none
  | n + 1, σ8, v7 =>
    if (20 : Int32) < v7 then
    (some ((-1 : Int32), σ8))
    else
    (mo_gr σ8 a0 7 15 fun x9 =>
    mo_ui σ8 x9 0 (4 : Int32) v7 fun σ10 =>
    mo_gr σ10 a0 7 15 fun x11 =>
    mo_cv σ10 a0 7 (m_X7_breaksBy σ10 a0 x11 a1) fun x13 σ12 =>
    if x13 = 0 then
    (some (v7, σ12))
    else
    (m_X7_timerFor_l31 a0 a1 n σ12 (v7 + 1)))
def m_X7_timerFor (σ : ac_H) (a0 : Nat) (a1 : Int32) : Option (Int32 × ac_H) :=
  mo_pv σ a0 7 0 (.int (0 : Int32)) fun σ1 =>
  mo_cv σ1 a0 7 (m_X7_noPromise σ1 a0 a1 (1 : Int32)) fun x3 σ2 =>
  if x3 = 0 then
  (mo_gr σ2 a0 7 1 fun x4 =>
  mo_gr σ2 a0 7 15 fun x5 =>
  mo_cs (m_X7_copies σ2 x4 (0 : Int32) x5 (0 : Int32)) fun _ σ6 =>
  m_X7_timerFor_l31 a0 a1 hN_f σ6 (1 : Int32))
  else
  (some ((0 : Int32), σ2))
set_option maxRecDepth 100000 in
set_option maxHeartbeats 4000000 in
theorem k_X7_timerFor {Λ : ex_L} {q : Nat} {σ σ' : ac_H} {a0 : Nat} {a1 : Int32} {v : Int32} (hf : m_X7_timerFor σ a0 a1 = some (v, σ')) : kx_C Λ yX7_timerFor (.code yX7_timerFor cX7_timerFor 3 (some .int)) ({ frames := 7, cells := 0, slots := 0, locals := 158 } : Room) [.ref a0, .int a1] q σ (.inr (some (.int v))) σ' (fun z => z = q) := by
  refine kx_in (by decide +kernel) (Nat.le_of_ble_eq_true rfl) ?_
  intro Γ K hnm hsz hQ
  refine kx_lv (lv' := [(0, .ref a0), (1, .int a1)]) rfl ?_
  have B31 : ∀ (n31 : Nat) (σ8 : ac_H) (v7 : Int32), m_X7_timerFor_l31 a0 a1 n31 σ8 v7 = some (v, σ') → kx_S Λ Γ 3 (fun z => z = q) σ8 (0) (0) 31 [(0, .ref a0), (1, .int a1), (2, .int v7)] [] := by
    intro n31
    induction n31 with
    | zero =>
      intro σ8 v7 hf
      rw [m_X7_timerFor_l31] at hf
      cases hf
    | succ n31 ih31 =>
      intro σ8 v7 hf
      rw [m_X7_timerFor_l31] at hf
      refine kx_iload_n K dX7_timerFor_31 rfl 2 rfl ?_
      refine kx_bipush (v := 20) K dX7_timerFor_32 (by decide) ?_
      refine kx_icmp_gt K 64 hf dX7_timerFor_34 (by decide) (fun hf => ?_) (fun hf => ?_)
      · refine kx_iconst (v := -1) K dX7_timerFor_64 (by decide) ?_
        exact kx_iret K hQ (by decide) (by decide) (fun _ h => h) dX7_timerFor_65 hf
      · refine kx_aload_n K dX7_timerFor_37 rfl 0 rfl ?_
        refine kx_gr K f_X7_27 dX7_timerFor_38 hf (fun x9 hf => ?_)
        refine kx_iconst (v := 4) K dX7_timerFor_41 (by decide) ?_
        refine kx_iload_n K dX7_timerFor_42 rfl 2 rfl ?_
        refine kx_ui K dX7_timerFor_43 hf (fun σ10 hf => ?_)
        refine kx_aload_n K dX7_timerFor_44 rfl 0 rfl ?_
        refine kx_aload_n K dX7_timerFor_45 rfl 0 rfl ?_
        refine kx_gr K f_X7_27 dX7_timerFor_46 hf (fun x11 hf => ?_)
        refine kx_iload_n K dX7_timerFor_49 rfl 1 rfl ?_
        refine kx_cv2i K c_X7_285 (by decide) (Nat.le_of_ble_eq_true rfl) dX7_timerFor_50 hf (fun _ _ _ h => k_X7_breaksBy h) (fun x13 σ12 hf => ?_)
        refine kx_if_ne K 58 hf dX7_timerFor_53 (by decide) (fun hf => ?_) (fun hf => ?_)
        · refine kx_iinc (v := (v7 + 1)) K [(2, .int (v7 + 1)), (0, .ref a0), (1, .int a1)] dX7_timerFor_58 2 rfl rfl (by decide) rfl ?_
          refine kx_goto K 31 dX7_timerFor_61 (by decide) ?_
          refine kx_sub [(0, .ref a0), (1, .int a1), (2, .int (v7 + 1))] [1, 2, 0] rfl ?_
          exact ih31 _ _ hf
        · refine kx_iload_n K dX7_timerFor_56 rfl 2 rfl ?_
          exact kx_iret K hQ (by decide) (by decide) (fun _ h => h) dX7_timerFor_57 hf
  unfold m_X7_timerFor at hf
  refine kx_aload_n K dX7_timerFor_0 rfl 0 rfl ?_
  refine kx_iconst (v := 0) K dX7_timerFor_1 (by decide) ?_
  refine kx_pi K f_X7_65 dX7_timerFor_2 hf (fun σ1 hf => ?_)
  refine kx_aload_n K dX7_timerFor_5 rfl 0 rfl ?_
  refine kx_iload_n K dX7_timerFor_6 rfl 1 rfl ?_
  refine kx_iconst (v := 1) K dX7_timerFor_7 (by decide) ?_
  refine kx_cv2i K c_X7_282 (by decide) (Nat.le_of_ble_eq_true rfl) dX7_timerFor_8 hf (fun _ _ _ h => k_X7_noPromise h) (fun x3 σ2 hf => ?_)
  refine kx_if_eq K 16 hf dX7_timerFor_11 (by decide) (fun hf => ?_) (fun hf => ?_)
  · refine kx_aload_n K dX7_timerFor_16 rfl 0 rfl ?_
    refine kx_gr K f_X7_7 dX7_timerFor_17 hf (fun x4 hf => ?_)
    refine kx_iconst (v := 0) K dX7_timerFor_20 (by decide) ?_
    refine kx_aload_n K dX7_timerFor_21 rfl 0 rfl ?_
    refine kx_gr K f_X7_27 dX7_timerFor_22 hf (fun x5 hf => ?_)
    refine kx_iconst (v := 0) K dX7_timerFor_25 (by decide) ?_
    refine kx_cs4v K c_X7_194 (by decide) (Nat.le_of_ble_eq_true rfl) dX7_timerFor_26 hf (fun _ _ _ h => k_X7_copies h) (fun _ σ6 hf => ?_)
    refine kx_iconst (v := 1) K dX7_timerFor_29 (by decide) ?_
    refine kx_istore_n K [(2, .int (1 : Int32)), (0, .ref a0), (1, .int a1)] dX7_timerFor_30 rfl (by decide) rfl ?_
    refine kx_sub [(0, .ref a0), (1, .int a1), (2, .int (1 : Int32))] [1, 2, 0] rfl ?_
    exact B31 hN_f _ _ hf
  · refine kx_iconst (v := 0) K dX7_timerFor_14 (by decide) ?_
    exact kx_iret K hQ (by decide) (by decide) (fun _ h => h) dX7_timerFor_15 hf
def m_X7_isRecorded (σ : ac_H) (a0 : Nat) (a1 : Int32) (a2 : Int32) : Option (Int32 × ac_H) :=
  mo_pv σ a0 7 0 (.int (0 : Int32)) fun σ1 =>
  mo_cs (m_X7_isState σ1 a1 a2) fun x3 σ2 =>
  if x3 = 0 then
  (mo_z (0 : Int32) (some ((0 : Int32), σ2)))
  else
  (mo_gr σ2 a0 7 1 fun x4 =>
  mo_ai σ2 x4 0 (((39 : Int32) + ((16 : Int32) * a1)) + a2) fun x5 =>
  if x5 = (1 : Int32) then
  (mo_z (1 : Int32) (some ((1 : Int32), σ2)))
  else
  (mo_z (0 : Int32) (some ((0 : Int32), σ2))))
set_option maxRecDepth 100000 in
set_option maxHeartbeats 4000000 in
theorem k_X7_isRecorded {Λ : ex_L} {q : Nat} {σ σ' : ac_H} {a0 : Nat} {a1 : Int32} {a2 : Int32} {v : Int32} (hf : m_X7_isRecorded σ a0 a1 a2 = some (v, σ')) : kx_C Λ yX7_isRecorded (.code yX7_isRecorded cX7_isRecorded 3 (some .boolean)) ({ frames := 2, cells := 0, slots := 0, locals := 43 } : Room) [.ref a0, .int a1, .int a2] q σ (.inr (some (.int v))) σ' (fun z => z = q) := by
  refine kx_in (by decide +kernel) (Nat.le_of_ble_eq_true rfl) ?_
  intro Γ K hnm hsz hQ
  refine kx_lv (lv' := [(0, .ref a0), (1, .int a1), (2, .int a2)]) rfl ?_
  unfold m_X7_isRecorded at hf
  refine kx_aload_n K dX7_isRecorded_0 rfl 0 rfl ?_
  refine kx_iconst (v := 0) K dX7_isRecorded_1 (by decide) ?_
  refine kx_pi K f_X7_65 dX7_isRecorded_2 hf (fun σ1 hf => ?_)
  refine kx_iload_n K dX7_isRecorded_5 rfl 1 rfl ?_
  refine kx_iload_n K dX7_isRecorded_6 rfl 2 rfl ?_
  refine kx_cs2i K c_X7_289 (by decide) (Nat.le_of_ble_eq_true rfl) dX7_isRecorded_7 hf (fun _ _ _ h => k_X7_isState h) (fun x3 σ2 hf => ?_)
  refine kx_if_eq K 35 hf dX7_isRecorded_10 (by decide) (fun hf => ?_) (fun hf => ?_)
  · refine kx_iconst (v := 0) K dX7_isRecorded_35 (by decide) ?_
    exact kx_zret K hQ (by decide) (by decide) (fun _ h => h) dX7_isRecorded_36 hf
  · refine kx_aload_n K dX7_isRecorded_13 rfl 0 rfl ?_
    refine kx_gr K f_X7_7 dX7_isRecorded_14 hf (fun x4 hf => ?_)
    refine kx_bipush (v := 39) K dX7_isRecorded_17 (by decide) ?_
    refine kx_bipush (v := 16) K dX7_isRecorded_19 (by decide) ?_
    refine kx_iload_n K dX7_isRecorded_21 rfl 1 rfl ?_
    refine kx_imul K dX7_isRecorded_22 ?_
    refine kx_iadd K dX7_isRecorded_23 ?_
    refine kx_iload_n K dX7_isRecorded_24 rfl 2 rfl ?_
    refine kx_iadd K dX7_isRecorded_25 ?_
    refine kx_ai K dX7_isRecorded_26 hf (fun x5 hf => ?_)
    refine kx_iconst (v := 1) K dX7_isRecorded_27 (by decide) ?_
    refine kx_icmp_ne K 35 hf dX7_isRecorded_28 (by decide) (fun hf => ?_) (fun hf => ?_)
    · refine kx_iconst (v := 0) K dX7_isRecorded_35 (by decide) ?_
      exact kx_zret K hQ (by decide) (by decide) (fun _ h => h) dX7_isRecorded_36 hf
    · refine kx_iconst (v := 1) K dX7_isRecorded_31 (by decide) ?_
      refine kx_goto K 36 dX7_isRecorded_32 (by decide) ?_
      exact kx_zret K hQ (by decide) (by decide) (fun _ h => h) dX7_isRecorded_36 hf
def m_X7_keeps_j58  (a0 : Nat) (σ10 : ac_H) : Option (Unit × ac_H) :=
  mo_gr σ10 a0 7 1 fun x11 =>
  mo_gr σ10 a0 7 37 fun x12 =>
  mo_gi σ10 a0 7 36 fun x13 =>
  mo_cs (m_X7_copies σ10 x11 (0 : Int32) x12 ((183 : Int32) * x13)) fun _ σ14 =>
  mo_gi σ14 a0 7 36 fun x15 =>
  mo_pv σ14 a0 7 36 (.int (x15 + (1 : Int32))) fun σ16 =>
  some ((), σ16)
def m_X7_keeps_l21  (a0 : Nat) : Nat → ac_H → Int32 → Option (Unit × ac_H)
  | 0, _, _ => none
  | n + 1, σ5, v4 =>
    mo_gi σ5 a0 7 36 fun x6 =>
    if v4 < x6 then
    (mo_gr σ5 a0 7 37 fun x7 =>
    mo_gr σ5 a0 7 37 fun x8 =>
    mo_cs (m_X7_copies σ5 x7 ((183 : Int32) * (v4 + (1 : Int32))) x8 ((183 : Int32) * v4)) fun _ σ9 =>
    m_X7_keeps_l21 a0 n σ9 (v4 + 1))
    else
    (m_X7_keeps_j58 a0 σ5)
def m_X7_keeps (σ : ac_H) (a0 : Nat) : Option (Unit × ac_H) :=
  mo_gi σ a0 7 36 fun x1 =>
  if x1 = (10 : Int32) then
  (mo_gi σ a0 7 36 fun x2 =>
  mo_pv σ a0 7 36 (.int (x2 - (1 : Int32))) fun σ3 =>
  m_X7_keeps_l21 a0 hN_f σ3 (0 : Int32))
  else
  (m_X7_keeps_j58 a0 σ)
set_option maxRecDepth 100000 in
set_option maxHeartbeats 4000000 in
theorem k_X7_keeps {Λ : ex_L} {q : Nat} {σ σ' : ac_H} {a0 : Nat} {v : Unit} (hf : m_X7_keeps σ a0 = some (v, σ')) : kx_C Λ yX7_keeps (.code yX7_keeps cX7_keeps 2 none) ({ frames := 1, cells := 0, slots := 0, locals := 24 } : Room) [.ref a0] q σ (.inr none) σ' (fun z => z = q) := by
  refine kx_in (by decide +kernel) (Nat.le_of_ble_eq_true rfl) ?_
  intro Γ K hnm hsz hQ
  refine kx_lv (lv' := [(0, .ref a0)]) rfl ?_
  have B58 : ∀ (σ10 : ac_H), m_X7_keeps_j58 a0 σ10 = some (v, σ') → kx_S Λ Γ 2 (fun z => z = q) σ10 (0) (0) 58 [(0, .ref a0)] [] := by
    intro σ10 hf
    unfold m_X7_keeps_j58 at hf
    refine kx_aload_n K dX7_keeps_58 rfl 0 rfl ?_
    refine kx_gr K f_X7_7 dX7_keeps_59 hf (fun x11 hf => ?_)
    refine kx_iconst (v := 0) K dX7_keeps_62 (by decide) ?_
    refine kx_aload_n K dX7_keeps_63 rfl 0 rfl ?_
    refine kx_gr K f_X7_52 dX7_keeps_64 hf (fun x12 hf => ?_)
    refine kx_sipush (v := 183) K dX7_keeps_67 (by decide) ?_
    refine kx_aload_n K dX7_keeps_70 rfl 0 rfl ?_
    refine kx_gi K f_X7_198 dX7_keeps_71 hf (fun x13 hf => ?_)
    refine kx_imul K dX7_keeps_74 ?_
    refine kx_cs4v K c_X7_194 (by decide) (Nat.le_of_ble_eq_true rfl) dX7_keeps_75 hf (fun _ _ _ h => k_X7_copies h) (fun _ σ14 hf => ?_)
    refine kx_aload_n K dX7_keeps_78 rfl 0 rfl ?_
    refine kx_dup K dX7_keeps_79 rfl ?_
    refine kx_gi K f_X7_198 dX7_keeps_80 hf (fun x15 hf => ?_)
    refine kx_iconst (v := 1) K dX7_keeps_83 (by decide) ?_
    refine kx_iadd K dX7_keeps_84 ?_
    refine kx_pi K f_X7_198 dX7_keeps_85 hf (fun σ16 hf => ?_)
    exact kx_vret K hQ (by decide) (by decide) (fun _ h => h) dX7_keeps_88 hf
  have B21 : ∀ (n21 : Nat) (σ5 : ac_H) (v4 : Int32), m_X7_keeps_l21 a0 n21 σ5 v4 = some (v, σ') → kx_S Λ Γ 2 (fun z => z = q) σ5 (0) (0) 21 [(0, .ref a0), (1, .int v4)] [] := by
    intro n21
    induction n21 with
    | zero =>
      intro σ5 v4 hf
      rw [m_X7_keeps_l21] at hf
      cases hf
    | succ n21 ih21 =>
      intro σ5 v4 hf
      rw [m_X7_keeps_l21] at hf
      refine kx_iload_n K dX7_keeps_21 rfl 1 rfl ?_
      refine kx_aload_n K dX7_keeps_22 rfl 0 rfl ?_
      refine kx_gi K f_X7_198 dX7_keeps_23 hf (fun x6 hf => ?_)
      refine kx_icmp_ge K 58 hf dX7_keeps_26 (by decide) (fun hf => ?_) (fun hf => ?_)
      · refine kx_sub [(0, .ref a0)] [0] rfl ?_
        exact B58 _ hf
      · refine kx_aload_n K dX7_keeps_29 rfl 0 rfl ?_
        refine kx_gr K f_X7_52 dX7_keeps_30 hf (fun x7 hf => ?_)
        refine kx_sipush (v := 183) K dX7_keeps_33 (by decide) ?_
        refine kx_iload_n K dX7_keeps_36 rfl 1 rfl ?_
        refine kx_iconst (v := 1) K dX7_keeps_37 (by decide) ?_
        refine kx_iadd K dX7_keeps_38 ?_
        refine kx_imul K dX7_keeps_39 ?_
        refine kx_aload_n K dX7_keeps_40 rfl 0 rfl ?_
        refine kx_gr K f_X7_52 dX7_keeps_41 hf (fun x8 hf => ?_)
        refine kx_sipush (v := 183) K dX7_keeps_44 (by decide) ?_
        refine kx_iload_n K dX7_keeps_47 rfl 1 rfl ?_
        refine kx_imul K dX7_keeps_48 ?_
        refine kx_cs4v K c_X7_194 (by decide) (Nat.le_of_ble_eq_true rfl) dX7_keeps_49 hf (fun _ _ _ h => k_X7_copies h) (fun _ σ9 hf => ?_)
        refine kx_iinc (v := (v4 + 1)) K [(1, .int (v4 + 1)), (0, .ref a0)] dX7_keeps_52 1 rfl rfl (by decide) rfl ?_
        refine kx_goto K 21 dX7_keeps_55 (by decide) ?_
        refine kx_sub [(0, .ref a0), (1, .int (v4 + 1))] [1, 0] rfl ?_
        exact ih21 _ _ hf
  unfold m_X7_keeps at hf
  refine kx_aload_n K dX7_keeps_0 rfl 0 rfl ?_
  refine kx_gi K f_X7_198 dX7_keeps_1 hf (fun x1 hf => ?_)
  refine kx_bipush (v := 10) K dX7_keeps_4 (by decide) ?_
  refine kx_icmp_ne K 58 hf dX7_keeps_6 (by decide) (fun hf => ?_) (fun hf => ?_)
  · refine kx_sub [(0, .ref a0)] [0] rfl ?_
    exact B58 _ hf
  · refine kx_aload_n K dX7_keeps_9 rfl 0 rfl ?_
    refine kx_dup K dX7_keeps_10 rfl ?_
    refine kx_gi K f_X7_198 dX7_keeps_11 hf (fun x2 hf => ?_)
    refine kx_iconst (v := 1) K dX7_keeps_14 (by decide) ?_
    refine kx_isub K dX7_keeps_15 ?_
    refine kx_pi K f_X7_198 dX7_keeps_16 hf (fun σ3 hf => ?_)
    refine kx_iconst (v := 0) K dX7_keeps_19 (by decide) ?_
    refine kx_istore_n K [(1, .int (0 : Int32)), (0, .ref a0)] dX7_keeps_20 rfl (by decide) rfl ?_
    refine kx_sub [(0, .ref a0), (1, .int (0 : Int32))] [1, 0] rfl ?_
    exact B21 hN_f _ _ hf
def m_X7_addFault_j102  (a0 : Nat) (a1 : Int32) (a2 : Int32) (a3 : Int32) (σ22 : ac_H) (w20 : Int32) (w21 : Nat) : Option (Int32 × ac_H) :=
  mo_cv σ22 w21 7 (m_X7_throwsIf σ22 w21 w20 (2 : Int32)) fun x24 σ23 =>
  if x24 = 0 then
  (mo_cv σ23 a0 7 (m_X7_keeps σ23 a0) fun _ σ25 =>
  mo_gr σ25 a0 7 1 fun x26 =>
  mo_cs (m_X7_comes σ25 x26 a1 a2 a3) fun x28 σ27 =>
  some (x28, σ27))
  else
  (some ((0 : Int32), σ23))
def m_X7_addFault_j64  (a0 : Nat) (a1 : Int32) (a2 : Int32) (a3 : Int32) (σ12 : ac_H) (w10 : Int32) (w11 : Nat) : Option (Int32 × ac_H) :=
  mo_cv σ12 w11 7 (m_X7_throwsIf σ12 w11 w10 (1 : Int32)) fun x14 σ13 =>
  if x14 = 0 then
  (mo_gr σ13 a0 7 1 fun x15 =>
  mo_cs (m_X7_placeOf σ13 x15 a1 a2) fun x17 σ16 =>
  if x17 = (-1 : Int32) then
  (mo_gr σ16 a0 7 1 fun x18 =>
  mo_ai σ16 x18 0 (8 : Int32) fun x19 =>
  if x19 = (10 : Int32) then
  (m_X7_addFault_j102 a0 a1 a2 a3 σ16 (1 : Int32) a0)
  else
  (m_X7_addFault_j102 a0 a1 a2 a3 σ16 (0 : Int32) a0))
  else
  (m_X7_addFault_j102 a0 a1 a2 a3 σ16 (1 : Int32) a0))
  else
  (some ((0 : Int32), σ13))
def m_X7_addFault_j51  (a0 : Nat) (a1 : Int32) (a2 : Int32) (a3 : Int32) (σ9 : ac_H) (w8 : Int32) : Option (Int32 × ac_H) :=
  if w8 = 0 then
  (m_X7_addFault_j64 a0 a1 a2 a3 σ9 (1 : Int32) a0)
  else
  (m_X7_addFault_j64 a0 a1 a2 a3 σ9 (0 : Int32) a0)
def m_X7_addFault (σ : ac_H) (a0 : Nat) (a1 : Int32) (a2 : Int32) (a3 : Int32) : Option (Int32 × ac_H) :=
  mo_pv σ a0 7 0 (.int (0 : Int32)) fun σ1 =>
  mo_cs (m_X7_within σ1 a1 (0 : Int32) (2 : Int32)) fun x3 σ2 =>
  if x3 = 0 then
  (m_X7_addFault_j51 a0 a1 a2 a3 σ2 (0 : Int32))
  else
  (mo_cs (m_X7_within σ2 a2 (0 : Int32) (119 : Int32)) fun x5 σ4 =>
  if x5 = 0 then
  (m_X7_addFault_j51 a0 a1 a2 a3 σ4 (0 : Int32))
  else
  (if a1 = (2 : Int32) then
  (mo_cs (m_X7_within σ4 a3 (1 : Int32) (20 : Int32)) fun x7 σ6 =>
  if x7 = 0 then
  (m_X7_addFault_j51 a0 a1 a2 a3 σ6 (0 : Int32))
  else
  (m_X7_addFault_j51 a0 a1 a2 a3 σ6 (1 : Int32)))
  else
  (if a3 = 0 then
  (m_X7_addFault_j51 a0 a1 a2 a3 σ4 (1 : Int32))
  else
  (m_X7_addFault_j51 a0 a1 a2 a3 σ4 (0 : Int32)))))
set_option maxRecDepth 100000 in
set_option maxHeartbeats 4000000 in
theorem k_X7_addFault {Λ : ex_L} {q : Nat} {σ σ' : ac_H} {a0 : Nat} {a1 : Int32} {a2 : Int32} {a3 : Int32} {v : Int32} (hf : m_X7_addFault σ a0 a1 a2 a3 = some (v, σ')) : kx_C Λ yX7_addFault (.code yX7_addFault cX7_addFault 5 (some .int)) ({ frames := 2, cells := 0, slots := 0, locals := 47 } : Room) [.ref a0, .int a1, .int a2, .int a3] q σ (.inr (some (.int v))) σ' (fun z => z = q) := by
  refine kx_in (by decide +kernel) (Nat.le_of_ble_eq_true rfl) ?_
  intro Γ K hnm hsz hQ
  refine kx_lv (lv' := [(0, .ref a0), (1, .int a1), (2, .int a2), (3, .int a3)]) rfl ?_
  have B102 : ∀ (σ22 : ac_H) (w20 : Int32) (w21 : Nat), m_X7_addFault_j102 a0 a1 a2 a3 σ22 w20 w21 = some (v, σ') → kx_S Λ Γ 5 (fun z => z = q) σ22 (0) (0) 102 [(0, .ref a0), (1, .int a1), (2, .int a2), (3, .int a3)] [.int w20, .ref w21] := by
    intro σ22 w20 w21 hf
    unfold m_X7_addFault_j102 at hf
    refine kx_iconst (v := 2) K dX7_addFault_102 (by decide) ?_
    refine kx_cv2i K c_X7_184 (by decide) (Nat.le_of_ble_eq_true rfl) dX7_addFault_103 hf (fun _ _ _ h => k_X7_throwsIf h) (fun x24 σ23 hf => ?_)
    refine kx_if_eq K 111 hf dX7_addFault_106 (by decide) (fun hf => ?_) (fun hf => ?_)
    · refine kx_aload_n K dX7_addFault_111 rfl 0 rfl ?_
      refine kx_cv0v K c_X7_338 (by decide) (Nat.le_of_ble_eq_true rfl) dX7_addFault_112 hf (fun _ _ _ h => k_X7_keeps h) (fun _ σ25 hf => ?_)
      refine kx_aload_n K dX7_addFault_115 rfl 0 rfl ?_
      refine kx_gr K f_X7_7 dX7_addFault_116 hf (fun x26 hf => ?_)
      refine kx_iload_n K dX7_addFault_119 rfl 1 rfl ?_
      refine kx_iload_n K dX7_addFault_120 rfl 2 rfl ?_
      refine kx_iload_n K dX7_addFault_121 rfl 3 rfl ?_
      refine kx_cs4i K c_X7_141 (by decide) (Nat.le_of_ble_eq_true rfl) dX7_addFault_122 hf (fun _ _ _ h => k_X7_comes h) (fun x28 σ27 hf => ?_)
      exact kx_iret K hQ (by decide) (by decide) (fun _ h => h) dX7_addFault_125 hf
    · refine kx_iconst (v := 0) K dX7_addFault_109 (by decide) ?_
      exact kx_iret K hQ (by decide) (by decide) (fun _ h => h) dX7_addFault_110 hf
  have B64 : ∀ (σ12 : ac_H) (w10 : Int32) (w11 : Nat), m_X7_addFault_j64 a0 a1 a2 a3 σ12 w10 w11 = some (v, σ') → kx_S Λ Γ 5 (fun z => z = q) σ12 (0) (0) 64 [(0, .ref a0), (1, .int a1), (2, .int a2), (3, .int a3)] [.int w10, .ref w11] := by
    intro σ12 w10 w11 hf
    unfold m_X7_addFault_j64 at hf
    refine kx_iconst (v := 1) K dX7_addFault_64 (by decide) ?_
    refine kx_cv2i K c_X7_184 (by decide) (Nat.le_of_ble_eq_true rfl) dX7_addFault_65 hf (fun _ _ _ h => k_X7_throwsIf h) (fun x14 σ13 hf => ?_)
    refine kx_if_ne K 109 hf dX7_addFault_68 (by decide) (fun hf => ?_) (fun hf => ?_)
    · refine kx_iconst (v := 0) K dX7_addFault_109 (by decide) ?_
      exact kx_iret K hQ (by decide) (by decide) (fun _ h => h) dX7_addFault_110 hf
    · refine kx_aload_n K dX7_addFault_71 rfl 0 rfl ?_
      refine kx_aload_n K dX7_addFault_72 rfl 0 rfl ?_
      refine kx_gr K f_X7_7 dX7_addFault_73 hf (fun x15 hf => ?_)
      refine kx_iload_n K dX7_addFault_76 rfl 1 rfl ?_
      refine kx_iload_n K dX7_addFault_77 rfl 2 rfl ?_
      refine kx_cs3i K c_X7_137 (by decide) (Nat.le_of_ble_eq_true rfl) dX7_addFault_78 hf (fun _ _ _ h => k_X7_placeOf h) (fun x17 σ16 hf => ?_)
      refine kx_iconst (v := -1) K dX7_addFault_81 (by decide) ?_
      refine kx_icmp_ne K 97 hf dX7_addFault_82 (by decide) (fun hf => ?_) (fun hf => ?_)
      · refine kx_iconst (v := 1) K dX7_addFault_97 (by decide) ?_
        refine kx_goto K 102 dX7_addFault_98 (by decide) ?_
        refine kx_sub [(0, .ref a0), (1, .int a1), (2, .int a2), (3, .int a3)] [0, 1, 2, 3] rfl ?_
        exact B102 _ _ _ hf
      · refine kx_aload_n K dX7_addFault_85 rfl 0 rfl ?_
        refine kx_gr K f_X7_7 dX7_addFault_86 hf (fun x18 hf => ?_)
        refine kx_bipush (v := 8) K dX7_addFault_89 (by decide) ?_
        refine kx_ai K dX7_addFault_91 hf (fun x19 hf => ?_)
        refine kx_bipush (v := 10) K dX7_addFault_92 (by decide) ?_
        refine kx_icmp_ne K 101 hf dX7_addFault_94 (by decide) (fun hf => ?_) (fun hf => ?_)
        · refine kx_iconst (v := 0) K dX7_addFault_101 (by decide) ?_
          refine kx_sub [(0, .ref a0), (1, .int a1), (2, .int a2), (3, .int a3)] [0, 1, 2, 3] rfl ?_
          exact B102 _ _ _ hf
        · refine kx_iconst (v := 1) K dX7_addFault_97 (by decide) ?_
          refine kx_goto K 102 dX7_addFault_98 (by decide) ?_
          refine kx_sub [(0, .ref a0), (1, .int a1), (2, .int a2), (3, .int a3)] [0, 1, 2, 3] rfl ?_
          exact B102 _ _ _ hf
  have B51 : ∀ (σ9 : ac_H) (w8 : Int32), m_X7_addFault_j51 a0 a1 a2 a3 σ9 w8 = some (v, σ') → kx_S Λ Γ 5 (fun z => z = q) σ9 (0) (0) 51 [(0, .ref a0), (1, .int a1), (2, .int a2), (3, .int a3)] [.int w8] := by
    intro σ9 w8 hf
    unfold m_X7_addFault_j51 at hf
    refine kx_istore K [(4, .int w8), (0, .ref a0), (1, .int a1), (2, .int a2), (3, .int a3)] dX7_addFault_51 (by decide) rfl ?_
    refine kx_aload_n K dX7_addFault_53 rfl 1 rfl ?_
    refine kx_iload K dX7_addFault_54 0 rfl ?_
    refine kx_if_ne K 63 hf dX7_addFault_56 (by decide) (fun hf => ?_) (fun hf => ?_)
    · refine kx_iconst (v := 0) K dX7_addFault_63 (by decide) ?_
      refine kx_sub [(0, .ref a0), (1, .int a1), (2, .int a2), (3, .int a3)] [1, 2, 3, 4] rfl ?_
      exact B64 _ _ _ hf
    · refine kx_iconst (v := 1) K dX7_addFault_59 (by decide) ?_
      refine kx_goto K 64 dX7_addFault_60 (by decide) ?_
      refine kx_sub [(0, .ref a0), (1, .int a1), (2, .int a2), (3, .int a3)] [1, 2, 3, 4] rfl ?_
      exact B64 _ _ _ hf
  unfold m_X7_addFault at hf
  refine kx_aload_n K dX7_addFault_0 rfl 0 rfl ?_
  refine kx_iconst (v := 0) K dX7_addFault_1 (by decide) ?_
  refine kx_pi K f_X7_65 dX7_addFault_2 hf (fun σ1 hf => ?_)
  refine kx_iload_n K dX7_addFault_5 rfl 1 rfl ?_
  refine kx_iconst (v := 0) K dX7_addFault_6 (by decide) ?_
  refine kx_iconst (v := 2) K dX7_addFault_7 (by decide) ?_
  refine kx_cs3i K c_X7_94 (by decide) (Nat.le_of_ble_eq_true rfl) dX7_addFault_8 hf (fun _ _ _ h => k_X7_within h) (fun x3 σ2 hf => ?_)
  refine kx_if_eq K 50 hf dX7_addFault_11 (by decide) (fun hf => ?_) (fun hf => ?_)
  · refine kx_iconst (v := 0) K dX7_addFault_50 (by decide) ?_
    refine kx_sub [(0, .ref a0), (1, .int a1), (2, .int a2), (3, .int a3)] [0, 1, 2, 3] rfl ?_
    exact B51 _ _ hf
  · refine kx_iload_n K dX7_addFault_14 rfl 2 rfl ?_
    refine kx_iconst (v := 0) K dX7_addFault_15 (by decide) ?_
    refine kx_bipush (v := 119) K dX7_addFault_16 (by decide) ?_
    refine kx_cs3i K c_X7_94 (by decide) (Nat.le_of_ble_eq_true rfl) dX7_addFault_18 hf (fun _ _ _ h => k_X7_within h) (fun x5 σ4 hf => ?_)
    refine kx_if_eq K 50 hf dX7_addFault_21 (by decide) (fun hf => ?_) (fun hf => ?_)
    · refine kx_iconst (v := 0) K dX7_addFault_50 (by decide) ?_
      refine kx_sub [(0, .ref a0), (1, .int a1), (2, .int a2), (3, .int a3)] [0, 1, 2, 3] rfl ?_
      exact B51 _ _ hf
    · refine kx_iload_n K dX7_addFault_24 rfl 1 rfl ?_
      refine kx_iconst (v := 2) K dX7_addFault_25 (by decide) ?_
      refine kx_icmp_ne K 42 hf dX7_addFault_26 (by decide) (fun hf => ?_) (fun hf => ?_)
      · refine kx_iload_n K dX7_addFault_42 rfl 3 rfl ?_
        refine kx_if_ne K 50 hf dX7_addFault_43 (by decide) (fun hf => ?_) (fun hf => ?_)
        · refine kx_iconst (v := 0) K dX7_addFault_50 (by decide) ?_
          refine kx_sub [(0, .ref a0), (1, .int a1), (2, .int a2), (3, .int a3)] [0, 1, 2, 3] rfl ?_
          exact B51 _ _ hf
        · refine kx_iconst (v := 1) K dX7_addFault_46 (by decide) ?_
          refine kx_goto K 51 dX7_addFault_47 (by decide) ?_
          refine kx_sub [(0, .ref a0), (1, .int a1), (2, .int a2), (3, .int a3)] [0, 1, 2, 3] rfl ?_
          exact B51 _ _ hf
      · refine kx_iload_n K dX7_addFault_29 rfl 3 rfl ?_
        refine kx_iconst (v := 1) K dX7_addFault_30 (by decide) ?_
        refine kx_bipush (v := 20) K dX7_addFault_31 (by decide) ?_
        refine kx_cs3i K c_X7_94 (by decide) (Nat.le_of_ble_eq_true rfl) dX7_addFault_33 hf (fun _ _ _ h => k_X7_within h) (fun x7 σ6 hf => ?_)
        refine kx_if_eq K 50 hf dX7_addFault_36 (by decide) (fun hf => ?_) (fun hf => ?_)
        · refine kx_iconst (v := 0) K dX7_addFault_50 (by decide) ?_
          refine kx_sub [(0, .ref a0), (1, .int a1), (2, .int a2), (3, .int a3)] [0, 1, 2, 3] rfl ?_
          exact B51 _ _ hf
        · refine kx_goto K 46 dX7_addFault_39 (by decide) ?_
          refine kx_iconst (v := 1) K dX7_addFault_46 (by decide) ?_
          refine kx_goto K 51 dX7_addFault_47 (by decide) ?_
          refine kx_sub [(0, .ref a0), (1, .int a1), (2, .int a2), (3, .int a3)] [0, 1, 2, 3] rfl ?_
          exact B51 _ _ hf
def m_X7_removeFault (σ : ac_H) (a0 : Nat) (a1 : Int32) : Option (Int32 × ac_H) :=
  mo_cv σ a0 7 (m_X7_noFault σ a0 a1) fun x2 σ1 =>
  if x2 = 0 then
  (mo_cv σ1 a0 7 (m_X7_keeps σ1 a0) fun _ σ3 =>
  mo_gr σ3 a0 7 1 fun x4 =>
  mo_cs (m_X7_goes σ3 x4 a1) fun _ σ5 =>
  mo_gr σ5 a0 7 1 fun x6 =>
  mo_ai σ5 x6 0 (8 : Int32) fun x7 =>
  some (x7, σ5))
  else
  (some ((0 : Int32), σ1))
set_option maxRecDepth 100000 in
set_option maxHeartbeats 4000000 in
theorem k_X7_removeFault {Λ : ex_L} {q : Nat} {σ σ' : ac_H} {a0 : Nat} {a1 : Int32} {v : Int32} (hf : m_X7_removeFault σ a0 a1 = some (v, σ')) : kx_C Λ yX7_removeFault (.code yX7_removeFault cX7_removeFault 2 (some .int)) ({ frames := 2, cells := 0, slots := 0, locals := 45 } : Room) [.ref a0, .int a1] q σ (.inr (some (.int v))) σ' (fun z => z = q) := by
  refine kx_in (by decide +kernel) (Nat.le_of_ble_eq_true rfl) ?_
  intro Γ K hnm hsz hQ
  refine kx_lv (lv' := [(0, .ref a0), (1, .int a1)]) rfl ?_
  unfold m_X7_removeFault at hf
  refine kx_aload_n K dX7_removeFault_0 rfl 0 rfl ?_
  refine kx_iload_n K dX7_removeFault_1 rfl 1 rfl ?_
  refine kx_cv1i K c_X7_267 (by decide) (Nat.le_of_ble_eq_true rfl) dX7_removeFault_2 hf (fun _ _ _ h => k_X7_noFault h) (fun x2 σ1 hf => ?_)
  refine kx_if_eq K 10 hf dX7_removeFault_5 (by decide) (fun hf => ?_) (fun hf => ?_)
  · refine kx_aload_n K dX7_removeFault_10 rfl 0 rfl ?_
    refine kx_cv0v K c_X7_338 (by decide) (Nat.le_of_ble_eq_true rfl) dX7_removeFault_11 hf (fun _ _ _ h => k_X7_keeps h) (fun _ σ3 hf => ?_)
    refine kx_aload_n K dX7_removeFault_14 rfl 0 rfl ?_
    refine kx_gr K f_X7_7 dX7_removeFault_15 hf (fun x4 hf => ?_)
    refine kx_iload_n K dX7_removeFault_18 rfl 1 rfl ?_
    refine kx_cs2v K c_X7_292 (by decide) (Nat.le_of_ble_eq_true rfl) dX7_removeFault_19 hf (fun _ _ _ h => k_X7_goes h) (fun _ σ5 hf => ?_)
    refine kx_aload_n K dX7_removeFault_22 rfl 0 rfl ?_
    refine kx_gr K f_X7_7 dX7_removeFault_23 hf (fun x6 hf => ?_)
    refine kx_bipush (v := 8) K dX7_removeFault_26 (by decide) ?_
    refine kx_ai K dX7_removeFault_28 hf (fun x7 hf => ?_)
    exact kx_iret K hQ (by decide) (by decide) (fun _ h => h) dX7_removeFault_29 hf
  · refine kx_iconst (v := 0) K dX7_removeFault_8 (by decide) ?_
    exact kx_iret K hQ (by decide) (by decide) (fun _ h => h) dX7_removeFault_9 hf
def m_X7_clearFaults (σ : ac_H) (a0 : Nat) : Option (Int32 × ac_H) :=
  mo_pv σ a0 7 0 (.int (0 : Int32)) fun σ1 =>
  mo_cv σ1 a0 7 (m_X7_keeps σ1 a0) fun _ σ2 =>
  mo_gr σ2 a0 7 1 fun x3 =>
  mo_ai σ2 x3 0 (8 : Int32) fun x4 =>
  mo_gr σ2 a0 7 1 fun x5 =>
  mo_ui σ2 x5 0 (8 : Int32) (0 : Int32) fun σ6 =>
  some (x4, σ6)
set_option maxRecDepth 100000 in
set_option maxHeartbeats 4000000 in
theorem k_X7_clearFaults {Λ : ex_L} {q : Nat} {σ σ' : ac_H} {a0 : Nat} {v : Int32} (hf : m_X7_clearFaults σ a0 = some (v, σ')) : kx_C Λ yX7_clearFaults (.code yX7_clearFaults cX7_clearFaults 2 (some .int)) ({ frames := 2, cells := 0, slots := 0, locals := 45 } : Room) [.ref a0] q σ (.inr (some (.int v))) σ' (fun z => z = q) := by
  refine kx_in (by decide +kernel) (Nat.le_of_ble_eq_true rfl) ?_
  intro Γ K hnm hsz hQ
  refine kx_lv (lv' := [(0, .ref a0)]) rfl ?_
  unfold m_X7_clearFaults at hf
  refine kx_aload_n K dX7_clearFaults_0 rfl 0 rfl ?_
  refine kx_iconst (v := 0) K dX7_clearFaults_1 (by decide) ?_
  refine kx_pi K f_X7_65 dX7_clearFaults_2 hf (fun σ1 hf => ?_)
  refine kx_aload_n K dX7_clearFaults_5 rfl 0 rfl ?_
  refine kx_cv0v K c_X7_338 (by decide) (Nat.le_of_ble_eq_true rfl) dX7_clearFaults_6 hf (fun _ _ _ h => k_X7_keeps h) (fun _ σ2 hf => ?_)
  refine kx_aload_n K dX7_clearFaults_9 rfl 0 rfl ?_
  refine kx_gr K f_X7_7 dX7_clearFaults_10 hf (fun x3 hf => ?_)
  refine kx_bipush (v := 8) K dX7_clearFaults_13 (by decide) ?_
  refine kx_ai K dX7_clearFaults_15 hf (fun x4 hf => ?_)
  refine kx_istore_n K [(1, .int x4), (0, .ref a0)] dX7_clearFaults_16 rfl (by decide) rfl ?_
  refine kx_aload_n K dX7_clearFaults_17 rfl 1 rfl ?_
  refine kx_gr K f_X7_7 dX7_clearFaults_18 hf (fun x5 hf => ?_)
  refine kx_bipush (v := 8) K dX7_clearFaults_21 (by decide) ?_
  refine kx_iconst (v := 0) K dX7_clearFaults_23 (by decide) ?_
  refine kx_ui K dX7_clearFaults_24 hf (fun σ6 hf => ?_)
  refine kx_iload_n K dX7_clearFaults_25 rfl 0 rfl ?_
  exact kx_iret K hQ (by decide) (by decide) (fun _ h => h) dX7_clearFaults_26 hf
def m_X7_set_j36  (a0 : Nat) (a1 : Int32) (a2 : Int32) (σ12 : ac_H) (w10 : Int32) (w11 : Nat) : Option (Int32 × ac_H) :=
  mo_cv σ12 w11 7 (m_X7_throwsIf σ12 w11 w10 (1 : Int32)) fun x14 σ13 =>
  if x14 = 0 then
  (mo_cv σ13 a0 7 (m_X7_keeps σ13 a0) fun _ σ15 =>
  mo_gr σ15 a0 7 1 fun x16 =>
  mo_ai σ15 x16 0 a1 fun x17 =>
  mo_gr σ15 a0 7 1 fun x18 =>
  mo_ui σ15 x18 0 a1 a2 fun σ19 =>
  some (x17, σ19))
  else
  (some ((0 : Int32), σ13))
def m_X7_set (σ : ac_H) (a0 : Nat) (a1 : Int32) (a2 : Int32) : Option (Int32 × ac_H) :=
  mo_pv σ a0 7 0 (.int (0 : Int32)) fun σ1 =>
  mo_cs (m_X7_within σ1 a1 (0 : Int32) (7 : Int32)) fun x3 σ2 =>
  if x3 = 0 then
  (m_X7_set_j36 a0 a1 a2 σ2 (1 : Int32) a0)
  else
  (mo_cs (m_X7_lowOf σ2 a1) fun x5 σ4 =>
  mo_cs (m_X7_highOf σ4 a1) fun x7 σ6 =>
  mo_cs (m_X7_within σ6 a2 x5 x7) fun x9 σ8 =>
  if x9 = 0 then
  (m_X7_set_j36 a0 a1 a2 σ8 (1 : Int32) a0)
  else
  (m_X7_set_j36 a0 a1 a2 σ8 (0 : Int32) a0))
set_option maxRecDepth 100000 in
set_option maxHeartbeats 4000000 in
theorem k_X7_set {Λ : ex_L} {q : Nat} {σ σ' : ac_H} {a0 : Nat} {a1 : Int32} {a2 : Int32} {v : Int32} (hf : m_X7_set σ a0 a1 a2 = some (v, σ')) : kx_C Λ yX7_set (.code yX7_set cX7_set 4 (some .int)) ({ frames := 2, cells := 0, slots := 0, locals := 45 } : Room) [.ref a0, .int a1, .int a2] q σ (.inr (some (.int v))) σ' (fun z => z = q) := by
  refine kx_in (by decide +kernel) (Nat.le_of_ble_eq_true rfl) ?_
  intro Γ K hnm hsz hQ
  refine kx_lv (lv' := [(0, .ref a0), (1, .int a1), (2, .int a2)]) rfl ?_
  have B36 : ∀ (σ12 : ac_H) (w10 : Int32) (w11 : Nat), m_X7_set_j36 a0 a1 a2 σ12 w10 w11 = some (v, σ') → kx_S Λ Γ 4 (fun z => z = q) σ12 (0) (0) 36 [(0, .ref a0), (1, .int a1), (2, .int a2)] [.int w10, .ref w11] := by
    intro σ12 w10 w11 hf
    unfold m_X7_set_j36 at hf
    refine kx_iconst (v := 1) K dX7_set_36 (by decide) ?_
    refine kx_cv2i K c_X7_184 (by decide) (Nat.le_of_ble_eq_true rfl) dX7_set_37 hf (fun _ _ _ h => k_X7_throwsIf h) (fun x14 σ13 hf => ?_)
    refine kx_if_eq K 45 hf dX7_set_40 (by decide) (fun hf => ?_) (fun hf => ?_)
    · refine kx_aload_n K dX7_set_45 rfl 0 rfl ?_
      refine kx_cv0v K c_X7_338 (by decide) (Nat.le_of_ble_eq_true rfl) dX7_set_46 hf (fun _ _ _ h => k_X7_keeps h) (fun _ σ15 hf => ?_)
      refine kx_aload_n K dX7_set_49 rfl 0 rfl ?_
      refine kx_gr K f_X7_7 dX7_set_50 hf (fun x16 hf => ?_)
      refine kx_iload_n K dX7_set_53 rfl 1 rfl ?_
      refine kx_ai K dX7_set_54 hf (fun x17 hf => ?_)
      refine kx_istore_n K [(3, .int x17), (0, .ref a0), (1, .int a1), (2, .int a2)] dX7_set_55 rfl (by decide) rfl ?_
      refine kx_aload_n K dX7_set_56 rfl 1 rfl ?_
      refine kx_gr K f_X7_7 dX7_set_57 hf (fun x18 hf => ?_)
      refine kx_iload_n K dX7_set_60 rfl 2 rfl ?_
      refine kx_iload_n K dX7_set_61 rfl 3 rfl ?_
      refine kx_ui K dX7_set_62 hf (fun σ19 hf => ?_)
      refine kx_iload_n K dX7_set_63 rfl 0 rfl ?_
      exact kx_iret K hQ (by decide) (by decide) (fun _ h => h) dX7_set_64 hf
    · refine kx_iconst (v := 0) K dX7_set_43 (by decide) ?_
      exact kx_iret K hQ (by decide) (by decide) (fun _ h => h) dX7_set_44 hf
  unfold m_X7_set at hf
  refine kx_aload_n K dX7_set_0 rfl 0 rfl ?_
  refine kx_iconst (v := 0) K dX7_set_1 (by decide) ?_
  refine kx_pi K f_X7_65 dX7_set_2 hf (fun σ1 hf => ?_)
  refine kx_aload_n K dX7_set_5 rfl 0 rfl ?_
  refine kx_iload_n K dX7_set_6 rfl 1 rfl ?_
  refine kx_iconst (v := 0) K dX7_set_7 (by decide) ?_
  refine kx_bipush (v := 7) K dX7_set_8 (by decide) ?_
  refine kx_cs3i K c_X7_94 (by decide) (Nat.le_of_ble_eq_true rfl) dX7_set_10 hf (fun _ _ _ h => k_X7_within h) (fun x3 σ2 hf => ?_)
  refine kx_if_eq K 31 hf dX7_set_13 (by decide) (fun hf => ?_) (fun hf => ?_)
  · refine kx_iconst (v := 1) K dX7_set_31 (by decide) ?_
    refine kx_goto K 36 dX7_set_32 (by decide) ?_
    refine kx_sub [(0, .ref a0), (1, .int a1), (2, .int a2)] [0, 1, 2] rfl ?_
    exact B36 _ _ _ hf
  · refine kx_iload_n K dX7_set_16 rfl 2 rfl ?_
    refine kx_iload_n K dX7_set_17 rfl 1 rfl ?_
    refine kx_cs1i K c_X7_120 (by decide) (Nat.le_of_ble_eq_true rfl) dX7_set_18 hf (fun _ _ _ h => k_X7_lowOf h) (fun x5 σ4 hf => ?_)
    refine kx_iload_n K dX7_set_21 rfl 1 rfl ?_
    refine kx_cs1i K c_X7_123 (by decide) (Nat.le_of_ble_eq_true rfl) dX7_set_22 hf (fun _ _ _ h => k_X7_highOf h) (fun x7 σ6 hf => ?_)
    refine kx_cs3i K c_X7_94 (by decide) (Nat.le_of_ble_eq_true rfl) dX7_set_25 hf (fun _ _ _ h => k_X7_within h) (fun x9 σ8 hf => ?_)
    refine kx_if_ne K 35 hf dX7_set_28 (by decide) (fun hf => ?_) (fun hf => ?_)
    · refine kx_iconst (v := 0) K dX7_set_35 (by decide) ?_
      refine kx_sub [(0, .ref a0), (1, .int a1), (2, .int a2)] [0, 1, 2] rfl ?_
      exact B36 _ _ _ hf
    · refine kx_iconst (v := 1) K dX7_set_31 (by decide) ?_
      refine kx_goto K 36 dX7_set_32 (by decide) ?_
      refine kx_sub [(0, .ref a0), (1, .int a1), (2, .int a2)] [0, 1, 2] rfl ?_
      exact B36 _ _ _ hf
def m_X7_shrink_l66  (a0 : Nat) (a1 : Int32) : Nat → ac_H → Int32 → Option (Int32 × ac_H)
  | 0, _, _ => none
  | n + 1, σ18, v17 =>
    mo_gr σ18 a0 7 1 fun x19 =>
    mo_ai σ18 x19 0 (8 : Int32) fun x20 =>
    if v17 < x20 then
    (mo_cv σ18 a0 7 (m_X7_leastOf σ18 a0 v17 a1) fun x24 σ23 =>
    mo_gr σ23 a0 7 1 fun x25 =>
    if x24 = (-1 : Int32) then
    (mo_gr σ23 a0 7 1 fun x27 =>
    mo_cs (m_X7_ofFault σ23 x27 v17 (2 : Int32)) fun x29 σ28 =>
    mo_ui σ28 x25 0 (((9 : Int32) + ((3 : Int32) * v17)) + (2 : Int32)) x29 fun σ30 =>
    m_X7_shrink_l66 a0 a1 n σ30 (v17 + 1))
    else
    (mo_ui σ23 x25 0 (((9 : Int32) + ((3 : Int32) * v17)) + (2 : Int32)) x24 fun σ26 =>
    m_X7_shrink_l66 a0 a1 n σ26 (v17 + 1)))
    else
    (mo_gr σ18 a0 7 1 fun x21 =>
    mo_ai σ18 x21 0 (8 : Int32) fun x22 =>
    some (x22, σ18))
def m_X7_shrink_j33  (a0 : Nat) (a1 : Int32) (σ9 : ac_H) (v6 : Int32) (w7 : Int32) (w8 : Nat) : Option (Int32 × ac_H) :=
  mo_cv σ9 w8 7 (m_X7_throwsIf σ9 w8 w7 (2 : Int32)) fun x11 σ10 =>
  if x11 = 0 then
  (mo_cv σ10 a0 7 (m_X7_keeps σ10 a0) fun _ σ12 =>
  mo_cv σ12 a0 7 (m_X7_triesPart σ12 a0 v6) fun _ σ13 =>
  mo_gr σ13 a0 7 15 fun x14 =>
  mo_gr σ13 a0 7 1 fun x15 =>
  mo_cs (m_X7_copies σ13 x14 (0 : Int32) x15 (0 : Int32)) fun _ σ16 =>
  m_X7_shrink_l66 a0 a1 hN_f σ16 (0 : Int32))
  else
  (some ((0 : Int32), σ10))
def m_X7_shrink (σ : ac_H) (a0 : Nat) (a1 : Int32) : Option (Int32 × ac_H) :=
  mo_pv σ a0 7 0 (.int (0 : Int32)) fun σ1 =>
  mo_cv σ1 a0 7 (m_X7_noPromise σ1 a0 a1 (1 : Int32)) fun x3 σ2 =>
  if x3 = 0 then
  (mo_cv σ2 a0 7 (m_X7_coreOf σ2 a0 a1) fun x5 σ4 =>
  if x5 = (-1 : Int32) then
  (m_X7_shrink_j33 a0 a1 σ4 x5 (1 : Int32) a0)
  else
  (m_X7_shrink_j33 a0 a1 σ4 x5 (0 : Int32) a0))
  else
  (some ((0 : Int32), σ2))
set_option maxRecDepth 100000 in
set_option maxHeartbeats 4000000 in
theorem k_X7_shrink {Λ : ex_L} {q : Nat} {σ σ' : ac_H} {a0 : Nat} {a1 : Int32} {v : Int32} (hf : m_X7_shrink σ a0 a1 = some (v, σ')) : kx_C Λ yX7_shrink (.code yX7_shrink cX7_shrink 5 (some .int)) ({ frames := 8, cells := 0, slots := 0, locals := 182 } : Room) [.ref a0, .int a1] q σ (.inr (some (.int v))) σ' (fun z => z = q) := by
  refine kx_in (by decide +kernel) (Nat.le_of_ble_eq_true rfl) ?_
  intro Γ K hnm hsz hQ
  refine kx_lv (lv' := [(0, .ref a0), (1, .int a1)]) rfl ?_
  have B66 : ∀ (n66 : Nat) (σ18 : ac_H) (v17 : Int32), m_X7_shrink_l66 a0 a1 n66 σ18 v17 = some (v, σ') → kx_S Λ Γ 5 (fun z => z = q) σ18 (0) (0) 66 [(0, .ref a0), (1, .int a1), (3, .int v17)] [] := by
    intro n66
    induction n66 with
    | zero =>
      intro σ18 v17 hf
      rw [m_X7_shrink_l66] at hf
      cases hf
    | succ n66 ih66 =>
      intro σ18 v17 hf
      rw [m_X7_shrink_l66] at hf
      refine kx_iload_n K dX7_shrink_66 rfl 2 rfl ?_
      refine kx_aload_n K dX7_shrink_67 rfl 0 rfl ?_
      refine kx_gr K f_X7_7 dX7_shrink_68 hf (fun x19 hf => ?_)
      refine kx_bipush (v := 8) K dX7_shrink_71 (by decide) ?_
      refine kx_ai K dX7_shrink_73 hf (fun x20 hf => ?_)
      refine kx_icmp_ge K 124 hf dX7_shrink_74 (by decide) (fun hf => ?_) (fun hf => ?_)
      · refine kx_aload_n K dX7_shrink_124 rfl 0 rfl ?_
        refine kx_gr K f_X7_7 dX7_shrink_125 hf (fun x21 hf => ?_)
        refine kx_bipush (v := 8) K dX7_shrink_128 (by decide) ?_
        refine kx_ai K dX7_shrink_130 hf (fun x22 hf => ?_)
        exact kx_iret K hQ (by decide) (by decide) (fun _ h => h) dX7_shrink_131 hf
      · refine kx_aload_n K dX7_shrink_77 rfl 0 rfl ?_
        refine kx_iload_n K dX7_shrink_78 rfl 2 rfl ?_
        refine kx_iload_n K dX7_shrink_79 rfl 1 rfl ?_
        refine kx_cv2i K c_X7_311 (by decide) (Nat.le_of_ble_eq_true rfl) dX7_shrink_80 hf (fun _ _ _ h => k_X7_leastOf h) (fun x24 σ23 hf => ?_)
        refine kx_istore K [(4, .int x24), (0, .ref a0), (1, .int a1), (3, .int v17)] dX7_shrink_83 (by decide) rfl ?_
        refine kx_aload_n K dX7_shrink_85 rfl 1 rfl ?_
        refine kx_gr K f_X7_7 dX7_shrink_86 hf (fun x25 hf => ?_)
        refine kx_bipush (v := 9) K dX7_shrink_89 (by decide) ?_
        refine kx_iconst (v := 3) K dX7_shrink_91 (by decide) ?_
        refine kx_iload_n K dX7_shrink_92 rfl 3 rfl ?_
        refine kx_imul K dX7_shrink_93 ?_
        refine kx_iadd K dX7_shrink_94 ?_
        refine kx_iconst (v := 2) K dX7_shrink_95 (by decide) ?_
        refine kx_iadd K dX7_shrink_96 ?_
        refine kx_iload K dX7_shrink_97 0 rfl ?_
        refine kx_iconst (v := -1) K dX7_shrink_99 (by decide) ?_
        refine kx_icmp_ne K 115 hf dX7_shrink_100 (by decide) (fun hf => ?_) (fun hf => ?_)
        · refine kx_iload K dX7_shrink_115 0 rfl ?_
          refine kx_ui K dX7_shrink_117 hf (fun σ26 hf => ?_)
          refine kx_iinc (v := (v17 + 1)) K [(3, .int (v17 + 1)), (4, .int x24), (0, .ref a0), (1, .int a1)] dX7_shrink_118 3 rfl rfl (by decide) rfl ?_
          refine kx_goto K 66 dX7_shrink_121 (by decide) ?_
          refine kx_sub [(0, .ref a0), (1, .int a1), (3, .int (v17 + 1))] [2, 3, 0] rfl ?_
          exact ih66 _ _ hf
        · refine kx_aload_n K dX7_shrink_103 rfl 1 rfl ?_
          refine kx_gr K f_X7_7 dX7_shrink_104 hf (fun x27 hf => ?_)
          refine kx_iload_n K dX7_shrink_107 rfl 3 rfl ?_
          refine kx_iconst (v := 2) K dX7_shrink_108 (by decide) ?_
          refine kx_cs3i K c_X7_201 (by decide) (Nat.le_of_ble_eq_true rfl) dX7_shrink_109 hf (fun _ _ _ h => k_X7_ofFault h) (fun x29 σ28 hf => ?_)
          refine kx_goto K 117 dX7_shrink_112 (by decide) ?_
          refine kx_ui K dX7_shrink_117 hf (fun σ30 hf => ?_)
          refine kx_iinc (v := (v17 + 1)) K [(3, .int (v17 + 1)), (4, .int x24), (0, .ref a0), (1, .int a1)] dX7_shrink_118 3 rfl rfl (by decide) rfl ?_
          refine kx_goto K 66 dX7_shrink_121 (by decide) ?_
          refine kx_sub [(0, .ref a0), (1, .int a1), (3, .int (v17 + 1))] [2, 3, 0] rfl ?_
          exact ih66 _ _ hf
  have B33 : ∀ (σ9 : ac_H) (v6 : Int32) (w7 : Int32) (w8 : Nat), m_X7_shrink_j33 a0 a1 σ9 v6 w7 w8 = some (v, σ') → kx_S Λ Γ 5 (fun z => z = q) σ9 (0) (0) 33 [(0, .ref a0), (1, .int a1), (2, .int v6)] [.int w7, .ref w8] := by
    intro σ9 v6 w7 w8 hf
    unfold m_X7_shrink_j33 at hf
    refine kx_iconst (v := 2) K dX7_shrink_33 (by decide) ?_
    refine kx_cv2i K c_X7_184 (by decide) (Nat.le_of_ble_eq_true rfl) dX7_shrink_34 hf (fun _ _ _ h => k_X7_throwsIf h) (fun x11 σ10 hf => ?_)
    refine kx_if_eq K 42 hf dX7_shrink_37 (by decide) (fun hf => ?_) (fun hf => ?_)
    · refine kx_aload_n K dX7_shrink_42 rfl 0 rfl ?_
      refine kx_cv0v K c_X7_338 (by decide) (Nat.le_of_ble_eq_true rfl) dX7_shrink_43 hf (fun _ _ _ h => k_X7_keeps h) (fun _ σ12 hf => ?_)
      refine kx_aload_n K dX7_shrink_46 rfl 0 rfl ?_
      refine kx_iload_n K dX7_shrink_47 rfl 2 rfl ?_
      refine kx_cv1v K c_X7_305 (by decide) (Nat.le_of_ble_eq_true rfl) dX7_shrink_48 hf (fun _ _ _ h => k_X7_triesPart h) (fun _ σ13 hf => ?_)
      refine kx_aload_n K dX7_shrink_51 rfl 0 rfl ?_
      refine kx_gr K f_X7_27 dX7_shrink_52 hf (fun x14 hf => ?_)
      refine kx_iconst (v := 0) K dX7_shrink_55 (by decide) ?_
      refine kx_aload_n K dX7_shrink_56 rfl 0 rfl ?_
      refine kx_gr K f_X7_7 dX7_shrink_57 hf (fun x15 hf => ?_)
      refine kx_iconst (v := 0) K dX7_shrink_60 (by decide) ?_
      refine kx_cs4v K c_X7_194 (by decide) (Nat.le_of_ble_eq_true rfl) dX7_shrink_61 hf (fun _ _ _ h => k_X7_copies h) (fun _ σ16 hf => ?_)
      refine kx_iconst (v := 0) K dX7_shrink_64 (by decide) ?_
      refine kx_istore_n K [(3, .int (0 : Int32)), (0, .ref a0), (1, .int a1), (2, .int v6)] dX7_shrink_65 rfl (by decide) rfl ?_
      refine kx_sub [(0, .ref a0), (1, .int a1), (3, .int (0 : Int32))] [1, 2, 0] rfl ?_
      exact B66 hN_f _ _ hf
    · refine kx_iconst (v := 0) K dX7_shrink_40 (by decide) ?_
      exact kx_iret K hQ (by decide) (by decide) (fun _ h => h) dX7_shrink_41 hf
  unfold m_X7_shrink at hf
  refine kx_aload_n K dX7_shrink_0 rfl 0 rfl ?_
  refine kx_iconst (v := 0) K dX7_shrink_1 (by decide) ?_
  refine kx_pi K f_X7_65 dX7_shrink_2 hf (fun σ1 hf => ?_)
  refine kx_aload_n K dX7_shrink_5 rfl 0 rfl ?_
  refine kx_iload_n K dX7_shrink_6 rfl 1 rfl ?_
  refine kx_iconst (v := 1) K dX7_shrink_7 (by decide) ?_
  refine kx_cv2i K c_X7_282 (by decide) (Nat.le_of_ble_eq_true rfl) dX7_shrink_8 hf (fun _ _ _ h => k_X7_noPromise h) (fun x3 σ2 hf => ?_)
  refine kx_if_eq K 16 hf dX7_shrink_11 (by decide) (fun hf => ?_) (fun hf => ?_)
  · refine kx_aload_n K dX7_shrink_16 rfl 0 rfl ?_
    refine kx_iload_n K dX7_shrink_17 rfl 1 rfl ?_
    refine kx_cv1i K c_X7_308 (by decide) (Nat.le_of_ble_eq_true rfl) dX7_shrink_18 hf (fun _ _ _ h => k_X7_coreOf h) (fun x5 σ4 hf => ?_)
    refine kx_istore_n K [(2, .int x5), (0, .ref a0), (1, .int a1)] dX7_shrink_21 rfl (by decide) rfl ?_
    refine kx_aload_n K dX7_shrink_22 rfl 1 rfl ?_
    refine kx_iload_n K dX7_shrink_23 rfl 0 rfl ?_
    refine kx_iconst (v := -1) K dX7_shrink_24 (by decide) ?_
    refine kx_icmp_ne K 32 hf dX7_shrink_25 (by decide) (fun hf => ?_) (fun hf => ?_)
    · refine kx_iconst (v := 0) K dX7_shrink_32 (by decide) ?_
      refine kx_sub [(0, .ref a0), (1, .int a1), (2, .int x5)] [1, 2, 0] rfl ?_
      exact B33 _ _ _ _ hf
    · refine kx_iconst (v := 1) K dX7_shrink_28 (by decide) ?_
      refine kx_goto K 33 dX7_shrink_29 (by decide) ?_
      refine kx_sub [(0, .ref a0), (1, .int a1), (2, .int x5)] [1, 2, 0] rfl ?_
      exact B33 _ _ _ _ hf
  · refine kx_iconst (v := 0) K dX7_shrink_14 (by decide) ?_
    exact kx_iret K hQ (by decide) (by decide) (fun _ h => h) dX7_shrink_15 hf
def m_X7_record_l24  (a0 : Nat) : Nat → ac_H → Int32 → Int32 → Option (Int32 × ac_H)
  | 0, _, _, _ => none
  | n + 1, σ9, v7, v8 =>
    if v8 < (144 : Int32) then
    (mo_gr σ9 a0 7 1 fun x12 =>
    mo_gr σ9 a0 7 28 fun x13 =>
    mo_ai σ9 x13 2 v8 fun x14 =>
    if x14 = 0 then
    (mo_gr σ9 a0 7 1 fun x15 =>
    mo_ai σ9 x15 0 ((39 : Int32) + v8) fun x16 =>
    mo_ui σ9 x12 0 ((39 : Int32) + v8) x16 fun σ17 =>
    m_X7_record_l24 a0 n σ17 v7 (v8 + 1))
    else
    (mo_ui σ9 x12 0 ((39 : Int32) + v8) (1 : Int32) fun σ18 =>
    m_X7_record_l24 a0 n σ18 v7 (v8 + 1)))
    else
    (mo_cv σ9 a0 7 (m_X7_recordedMany σ9 a0) fun x11 σ10 =>
    some ((x11 - v7), σ10))
def m_X7_record (σ : ac_H) (a0 : Nat) : Option (Int32 × ac_H) :=
  mo_pv σ a0 7 0 (.int (0 : Int32)) fun σ1 =>
  mo_cv σ1 a0 7 (m_X7_keeps σ1 a0) fun _ σ2 =>
  mo_cv σ2 a0 7 (m_X7_recordedMany σ2 a0) fun x4 σ3 =>
  mo_gr σ3 a0 7 1 fun x5 =>
  mo_cv σ3 a0 7 (m_X7_runs σ3 a0 x5) fun _ σ6 =>
  m_X7_record_l24 a0 hN_f σ6 x4 (0 : Int32)
set_option maxRecDepth 100000 in
set_option maxHeartbeats 4000000 in
theorem k_X7_record {Λ : ex_L} {q : Nat} {σ σ' : ac_H} {a0 : Nat} {v : Int32} (hf : m_X7_record σ a0 = some (v, σ')) : kx_C Λ yX7_record (.code yX7_record cX7_record 3 (some .int)) ({ frames := 6, cells := 0, slots := 0, locals := 136 } : Room) [.ref a0] q σ (.inr (some (.int v))) σ' (fun z => z = q) := by
  refine kx_in (by decide +kernel) (Nat.le_of_ble_eq_true rfl) ?_
  intro Γ K hnm hsz hQ
  refine kx_lv (lv' := [(0, .ref a0)]) rfl ?_
  have B24 : ∀ (n24 : Nat) (σ9 : ac_H) (v7 : Int32) (v8 : Int32), m_X7_record_l24 a0 n24 σ9 v7 v8 = some (v, σ') → kx_S Λ Γ 3 (fun z => z = q) σ9 (0) (0) 24 [(0, .ref a0), (1, .int v7), (2, .int v8)] [] := by
    intro n24
    induction n24 with
    | zero =>
      intro σ9 v7 v8 hf
      rw [m_X7_record_l24] at hf
      cases hf
    | succ n24 ih24 =>
      intro σ9 v7 v8 hf
      rw [m_X7_record_l24] at hf
      refine kx_iload_n K dX7_record_24 rfl 2 rfl ?_
      refine kx_sipush (v := 144) K dX7_record_25 (by decide) ?_
      refine kx_icmp_ge K 68 hf dX7_record_28 (by decide) (fun hf => ?_) (fun hf => ?_)
      · refine kx_aload_n K dX7_record_68 rfl 0 rfl ?_
        refine kx_cv0i K c_X7_264 (by decide) (Nat.le_of_ble_eq_true rfl) dX7_record_69 hf (fun _ _ _ h => k_X7_recordedMany h) (fun x11 σ10 hf => ?_)
        refine kx_iload_n K dX7_record_72 rfl 1 rfl ?_
        refine kx_isub K dX7_record_73 ?_
        exact kx_iret K hQ (by decide) (by decide) (fun _ h => h) dX7_record_74 hf
      · refine kx_aload_n K dX7_record_31 rfl 0 rfl ?_
        refine kx_gr K f_X7_7 dX7_record_32 hf (fun x12 hf => ?_)
        refine kx_bipush (v := 39) K dX7_record_35 (by decide) ?_
        refine kx_iload_n K dX7_record_37 rfl 2 rfl ?_
        refine kx_iadd K dX7_record_38 ?_
        refine kx_aload_n K dX7_record_39 rfl 0 rfl ?_
        refine kx_gr K f_X7_48 dX7_record_40 hf (fun x13 hf => ?_)
        refine kx_iload_n K dX7_record_43 rfl 2 rfl ?_
        refine kx_az K dX7_record_44 hf (fun x14 hf => ?_)
        refine kx_if_eq K 52 hf dX7_record_45 (by decide) (fun hf => ?_) (fun hf => ?_)
        · refine kx_aload_n K dX7_record_52 rfl 0 rfl ?_
          refine kx_gr K f_X7_7 dX7_record_53 hf (fun x15 hf => ?_)
          refine kx_bipush (v := 39) K dX7_record_56 (by decide) ?_
          refine kx_iload_n K dX7_record_58 rfl 2 rfl ?_
          refine kx_iadd K dX7_record_59 ?_
          refine kx_ai K dX7_record_60 hf (fun x16 hf => ?_)
          refine kx_ui K dX7_record_61 hf (fun σ17 hf => ?_)
          refine kx_iinc (v := (v8 + 1)) K [(2, .int (v8 + 1)), (0, .ref a0), (1, .int v7)] dX7_record_62 2 rfl rfl (by decide) rfl ?_
          refine kx_goto K 24 dX7_record_65 (by decide) ?_
          refine kx_sub [(0, .ref a0), (1, .int v7), (2, .int (v8 + 1))] [1, 2, 0] rfl ?_
          exact ih24 _ _ _ hf
        · refine kx_iconst (v := 1) K dX7_record_48 (by decide) ?_
          refine kx_goto K 61 dX7_record_49 (by decide) ?_
          refine kx_ui K dX7_record_61 hf (fun σ18 hf => ?_)
          refine kx_iinc (v := (v8 + 1)) K [(2, .int (v8 + 1)), (0, .ref a0), (1, .int v7)] dX7_record_62 2 rfl rfl (by decide) rfl ?_
          refine kx_goto K 24 dX7_record_65 (by decide) ?_
          refine kx_sub [(0, .ref a0), (1, .int v7), (2, .int (v8 + 1))] [1, 2, 0] rfl ?_
          exact ih24 _ _ _ hf
  unfold m_X7_record at hf
  refine kx_aload_n K dX7_record_0 rfl 0 rfl ?_
  refine kx_iconst (v := 0) K dX7_record_1 (by decide) ?_
  refine kx_pi K f_X7_65 dX7_record_2 hf (fun σ1 hf => ?_)
  refine kx_aload_n K dX7_record_5 rfl 0 rfl ?_
  refine kx_cv0v K c_X7_338 (by decide) (Nat.le_of_ble_eq_true rfl) dX7_record_6 hf (fun _ _ _ h => k_X7_keeps h) (fun _ σ2 hf => ?_)
  refine kx_aload_n K dX7_record_9 rfl 0 rfl ?_
  refine kx_cv0i K c_X7_264 (by decide) (Nat.le_of_ble_eq_true rfl) dX7_record_10 hf (fun _ _ _ h => k_X7_recordedMany h) (fun x4 σ3 hf => ?_)
  refine kx_istore_n K [(1, .int x4), (0, .ref a0)] dX7_record_13 rfl (by decide) rfl ?_
  refine kx_aload_n K dX7_record_14 rfl 1 rfl ?_
  refine kx_aload_n K dX7_record_15 rfl 1 rfl ?_
  refine kx_gr K f_X7_7 dX7_record_16 hf (fun x5 hf => ?_)
  refine kx_cv1v K c_X7_257 (by decide) (Nat.le_of_ble_eq_true rfl) dX7_record_19 hf (fun _ _ _ h => k_X7_runs h) (fun _ σ6 hf => ?_)
  refine kx_iconst (v := 0) K dX7_record_22 (by decide) ?_
  refine kx_istore_n K [(2, .int (0 : Int32)), (1, .int x4), (0, .ref a0)] dX7_record_23 rfl (by decide) rfl ?_
  refine kx_sub [(0, .ref a0), (1, .int x4), (2, .int (0 : Int32))] [2, 1, 0] rfl ?_
  exact B24 hN_f _ _ _ hf
def m_X7_undo (σ : ac_H) (a0 : Nat) : Option (Int32 × ac_H) :=
  mo_pv σ a0 7 0 (.int (0 : Int32)) fun σ1 =>
  mo_gi σ1 a0 7 36 fun x2 =>
  if x2 = 0 then
  (some ((-1 : Int32), σ1))
  else
  (mo_gi σ1 a0 7 36 fun x3 =>
  mo_pv σ1 a0 7 36 (.int (x3 - (1 : Int32))) fun σ4 =>
  mo_gr σ4 a0 7 37 fun x5 =>
  mo_gi σ4 a0 7 36 fun x6 =>
  mo_gr σ4 a0 7 1 fun x7 =>
  mo_cs (m_X7_copies σ4 x5 ((183 : Int32) * x6) x7 (0 : Int32)) fun _ σ8 =>
  mo_gi σ8 a0 7 36 fun x9 =>
  some (x9, σ8))
set_option maxRecDepth 100000 in
set_option maxHeartbeats 4000000 in
theorem k_X7_undo {Λ : ex_L} {q : Nat} {σ σ' : ac_H} {a0 : Nat} {v : Int32} (hf : m_X7_undo σ a0 = some (v, σ')) : kx_C Λ yX7_undo (.code yX7_undo cX7_undo 1 (some .int)) ({ frames := 1, cells := 0, slots := 0, locals := 24 } : Room) [.ref a0] q σ (.inr (some (.int v))) σ' (fun z => z = q) := by
  refine kx_in (by decide +kernel) (Nat.le_of_ble_eq_true rfl) ?_
  intro Γ K hnm hsz hQ
  refine kx_lv (lv' := [(0, .ref a0)]) rfl ?_
  unfold m_X7_undo at hf
  refine kx_aload_n K dX7_undo_0 rfl 0 rfl ?_
  refine kx_iconst (v := 0) K dX7_undo_1 (by decide) ?_
  refine kx_pi K f_X7_65 dX7_undo_2 hf (fun σ1 hf => ?_)
  refine kx_aload_n K dX7_undo_5 rfl 0 rfl ?_
  refine kx_gi K f_X7_198 dX7_undo_6 hf (fun x2 hf => ?_)
  refine kx_if_ne K 14 hf dX7_undo_9 (by decide) (fun hf => ?_) (fun hf => ?_)
  · refine kx_aload_n K dX7_undo_14 rfl 0 rfl ?_
    refine kx_dup K dX7_undo_15 rfl ?_
    refine kx_gi K f_X7_198 dX7_undo_16 hf (fun x3 hf => ?_)
    refine kx_iconst (v := 1) K dX7_undo_19 (by decide) ?_
    refine kx_isub K dX7_undo_20 ?_
    refine kx_pi K f_X7_198 dX7_undo_21 hf (fun σ4 hf => ?_)
    refine kx_aload_n K dX7_undo_24 rfl 0 rfl ?_
    refine kx_gr K f_X7_52 dX7_undo_25 hf (fun x5 hf => ?_)
    refine kx_sipush (v := 183) K dX7_undo_28 (by decide) ?_
    refine kx_aload_n K dX7_undo_31 rfl 0 rfl ?_
    refine kx_gi K f_X7_198 dX7_undo_32 hf (fun x6 hf => ?_)
    refine kx_imul K dX7_undo_35 ?_
    refine kx_aload_n K dX7_undo_36 rfl 0 rfl ?_
    refine kx_gr K f_X7_7 dX7_undo_37 hf (fun x7 hf => ?_)
    refine kx_iconst (v := 0) K dX7_undo_40 (by decide) ?_
    refine kx_cs4v K c_X7_194 (by decide) (Nat.le_of_ble_eq_true rfl) dX7_undo_41 hf (fun _ _ _ h => k_X7_copies h) (fun _ σ8 hf => ?_)
    refine kx_aload_n K dX7_undo_44 rfl 0 rfl ?_
    refine kx_gi K f_X7_198 dX7_undo_45 hf (fun x9 hf => ?_)
    exact kx_iret K hQ (by decide) (by decide) (fun _ h => h) dX7_undo_48 hf
  · refine kx_iconst (v := -1) K dX7_undo_12 (by decide) ?_
    exact kx_iret K hQ (by decide) (by decide) (fun _ h => h) dX7_undo_13 hf
def m_X7_noSlot (σ : ac_H) (a0 : Nat) (a1 : Int32) : Option (Int32 × ac_H) :=
  mo_pv σ a0 7 0 (.int (0 : Int32)) fun σ1 =>
  mo_cs (m_X7_within σ1 a1 (0 : Int32) (1 : Int32)) fun x3 σ2 =>
  if x3 = 0 then
  (mo_cv σ2 a0 7 (m_X7_throwsIf σ2 a0 (1 : Int32) (1 : Int32)) fun x7 σ6 =>
  mo_z x7 (some (x7, σ6)))
  else
  (mo_cv σ2 a0 7 (m_X7_throwsIf σ2 a0 (0 : Int32) (1 : Int32)) fun x5 σ4 =>
  mo_z x5 (some (x5, σ4)))
set_option maxRecDepth 100000 in
set_option maxHeartbeats 4000000 in
theorem k_X7_noSlot {Λ : ex_L} {q : Nat} {σ σ' : ac_H} {a0 : Nat} {a1 : Int32} {v : Int32} (hf : m_X7_noSlot σ a0 a1 = some (v, σ')) : kx_C Λ yX7_noSlot (.code yX7_noSlot cX7_noSlot 2 (some .boolean)) ({ frames := 1, cells := 0, slots := 0, locals := 22 } : Room) [.ref a0, .int a1] q σ (.inr (some (.int v))) σ' (fun z => z = q) := by
  refine kx_in (by decide +kernel) (Nat.le_of_ble_eq_true rfl) ?_
  intro Γ K hnm hsz hQ
  refine kx_lv (lv' := [(0, .ref a0), (1, .int a1)]) rfl ?_
  unfold m_X7_noSlot at hf
  refine kx_aload_n K dX7_noSlot_0 rfl 0 rfl ?_
  refine kx_iconst (v := 0) K dX7_noSlot_1 (by decide) ?_
  refine kx_pi K f_X7_65 dX7_noSlot_2 hf (fun σ1 hf => ?_)
  refine kx_aload_n K dX7_noSlot_5 rfl 0 rfl ?_
  refine kx_iload_n K dX7_noSlot_6 rfl 1 rfl ?_
  refine kx_iconst (v := 0) K dX7_noSlot_7 (by decide) ?_
  refine kx_iconst (v := 1) K dX7_noSlot_8 (by decide) ?_
  refine kx_cs3i K c_X7_94 (by decide) (Nat.le_of_ble_eq_true rfl) dX7_noSlot_9 hf (fun _ _ _ h => k_X7_within h) (fun x3 σ2 hf => ?_)
  refine kx_if_ne K 19 hf dX7_noSlot_12 (by decide) (fun hf => ?_) (fun hf => ?_)
  · refine kx_iconst (v := 0) K dX7_noSlot_19 (by decide) ?_
    refine kx_iconst (v := 1) K dX7_noSlot_20 (by decide) ?_
    refine kx_cv2i K c_X7_184 (by decide) (Nat.le_of_ble_eq_true rfl) dX7_noSlot_21 hf (fun _ _ _ h => k_X7_throwsIf h) (fun x5 σ4 hf => ?_)
    exact kx_zret K hQ (by decide) (by decide) (fun _ h => h) dX7_noSlot_24 hf
  · refine kx_iconst (v := 1) K dX7_noSlot_15 (by decide) ?_
    refine kx_goto K 20 dX7_noSlot_16 (by decide) ?_
    refine kx_iconst (v := 1) K dX7_noSlot_20 (by decide) ?_
    refine kx_cv2i K c_X7_184 (by decide) (Nat.le_of_ble_eq_true rfl) dX7_noSlot_21 hf (fun _ _ _ h => k_X7_throwsIf h) (fun x7 σ6 hf => ?_)
    exact kx_zret K hQ (by decide) (by decide) (fun _ h => h) dX7_noSlot_24 hf
def m_X7_saveSnapshot (σ : ac_H) (a0 : Nat) (a1 : Int32) : Option (Int32 × ac_H) :=
  mo_cv σ a0 7 (m_X7_noSlot σ a0 a1) fun x2 σ1 =>
  if x2 = 0 then
  (mo_gr σ1 a0 7 39 fun x3 =>
  mo_ai σ1 x3 2 a1 fun x4 =>
  mo_gr σ1 a0 7 1 fun x5 =>
  mo_gr σ1 a0 7 38 fun x6 =>
  mo_cs (m_X7_copies σ1 x5 (0 : Int32) x6 ((183 : Int32) * a1)) fun _ σ7 =>
  mo_gr σ7 a0 7 39 fun x8 =>
  mo_ui σ7 x8 2 a1 (vp_nar .boolean (1 : Int32)) fun σ9 =>
  mo_z x4 (some (x4, σ9)))
  else
  (mo_z (0 : Int32) (some ((0 : Int32), σ1)))
set_option maxRecDepth 100000 in
set_option maxHeartbeats 4000000 in
theorem k_X7_saveSnapshot {Λ : ex_L} {q : Nat} {σ σ' : ac_H} {a0 : Nat} {a1 : Int32} {v : Int32} (hf : m_X7_saveSnapshot σ a0 a1 = some (v, σ')) : kx_C Λ yX7_saveSnapshot (.code yX7_saveSnapshot cX7_saveSnapshot 3 (some .boolean)) ({ frames := 2, cells := 0, slots := 0, locals := 43 } : Room) [.ref a0, .int a1] q σ (.inr (some (.int v))) σ' (fun z => z = q) := by
  refine kx_in (by decide +kernel) (Nat.le_of_ble_eq_true rfl) ?_
  intro Γ K hnm hsz hQ
  refine kx_lv (lv' := [(0, .ref a0), (1, .int a1)]) rfl ?_
  unfold m_X7_saveSnapshot at hf
  refine kx_aload_n K dX7_saveSnapshot_0 rfl 0 rfl ?_
  refine kx_iload_n K dX7_saveSnapshot_1 rfl 1 rfl ?_
  refine kx_cv1i K c_X7_341 (by decide) (Nat.le_of_ble_eq_true rfl) dX7_saveSnapshot_2 hf (fun _ _ _ h => k_X7_noSlot h) (fun x2 σ1 hf => ?_)
  refine kx_if_eq K 10 hf dX7_saveSnapshot_5 (by decide) (fun hf => ?_) (fun hf => ?_)
  · refine kx_aload_n K dX7_saveSnapshot_10 rfl 0 rfl ?_
    refine kx_gr K f_X7_58 dX7_saveSnapshot_11 hf (fun x3 hf => ?_)
    refine kx_iload_n K dX7_saveSnapshot_14 rfl 1 rfl ?_
    refine kx_az K dX7_saveSnapshot_15 hf (fun x4 hf => ?_)
    refine kx_istore_n K [(2, .int x4), (0, .ref a0), (1, .int a1)] dX7_saveSnapshot_16 rfl (by decide) rfl ?_
    refine kx_aload_n K dX7_saveSnapshot_17 rfl 1 rfl ?_
    refine kx_gr K f_X7_7 dX7_saveSnapshot_18 hf (fun x5 hf => ?_)
    refine kx_iconst (v := 0) K dX7_saveSnapshot_21 (by decide) ?_
    refine kx_aload_n K dX7_saveSnapshot_22 rfl 1 rfl ?_
    refine kx_gr K f_X7_55 dX7_saveSnapshot_23 hf (fun x6 hf => ?_)
    refine kx_sipush (v := 183) K dX7_saveSnapshot_26 (by decide) ?_
    refine kx_iload_n K dX7_saveSnapshot_29 rfl 2 rfl ?_
    refine kx_imul K dX7_saveSnapshot_30 ?_
    refine kx_cs4v K c_X7_194 (by decide) (Nat.le_of_ble_eq_true rfl) dX7_saveSnapshot_31 hf (fun _ _ _ h => k_X7_copies h) (fun _ σ7 hf => ?_)
    refine kx_aload_n K dX7_saveSnapshot_34 rfl 1 rfl ?_
    refine kx_gr K f_X7_58 dX7_saveSnapshot_35 hf (fun x8 hf => ?_)
    refine kx_iload_n K dX7_saveSnapshot_38 rfl 2 rfl ?_
    refine kx_iconst (v := 1) K dX7_saveSnapshot_39 (by decide) ?_
    refine kx_uz K dX7_saveSnapshot_40 hf (fun σ9 hf => ?_)
    refine kx_iload_n K dX7_saveSnapshot_41 rfl 0 rfl ?_
    exact kx_zret K hQ (by decide) (by decide) (fun _ h => h) dX7_saveSnapshot_42 hf
  · refine kx_iconst (v := 0) K dX7_saveSnapshot_8 (by decide) ?_
    exact kx_zret K hQ (by decide) (by decide) (fun _ h => h) dX7_saveSnapshot_9 hf
def m_X7_restoreSnapshot_j23  (a0 : Nat) (a1 : Int32) (σ7 : ac_H) (w5 : Int32) (w6 : Nat) : Option (Int32 × ac_H) :=
  mo_cv σ7 w6 7 (m_X7_throwsIf σ7 w6 w5 (2 : Int32)) fun x9 σ8 =>
  if x9 = 0 then
  (mo_gr σ8 a0 7 38 fun x10 =>
  mo_gr σ8 a0 7 1 fun x11 =>
  mo_cs (m_X7_copies σ8 x10 ((183 : Int32) * a1) x11 (0 : Int32)) fun _ σ12 =>
  mo_pv σ12 a0 7 36 (.int (0 : Int32)) fun σ13 =>
  mo_gr σ13 a0 7 1 fun x14 =>
  mo_ai σ13 x14 0 (8 : Int32) fun x15 =>
  some (x15, σ13))
  else
  (some ((0 : Int32), σ8))
def m_X7_restoreSnapshot (σ : ac_H) (a0 : Nat) (a1 : Int32) : Option (Int32 × ac_H) :=
  mo_cv σ a0 7 (m_X7_noSlot σ a0 a1) fun x2 σ1 =>
  if x2 = 0 then
  (mo_gr σ1 a0 7 39 fun x3 =>
  mo_ai σ1 x3 2 a1 fun x4 =>
  if x4 = 0 then
  (m_X7_restoreSnapshot_j23 a0 a1 σ1 (1 : Int32) a0)
  else
  (m_X7_restoreSnapshot_j23 a0 a1 σ1 (0 : Int32) a0))
  else
  (some ((0 : Int32), σ1))
set_option maxRecDepth 100000 in
set_option maxHeartbeats 4000000 in
theorem k_X7_restoreSnapshot {Λ : ex_L} {q : Nat} {σ σ' : ac_H} {a0 : Nat} {a1 : Int32} {v : Int32} (hf : m_X7_restoreSnapshot σ a0 a1 = some (v, σ')) : kx_C Λ yX7_restoreSnapshot (.code yX7_restoreSnapshot cX7_restoreSnapshot 2 (some .int)) ({ frames := 2, cells := 0, slots := 0, locals := 43 } : Room) [.ref a0, .int a1] q σ (.inr (some (.int v))) σ' (fun z => z = q) := by
  refine kx_in (by decide +kernel) (Nat.le_of_ble_eq_true rfl) ?_
  intro Γ K hnm hsz hQ
  refine kx_lv (lv' := [(0, .ref a0), (1, .int a1)]) rfl ?_
  have B23 : ∀ (σ7 : ac_H) (w5 : Int32) (w6 : Nat), m_X7_restoreSnapshot_j23 a0 a1 σ7 w5 w6 = some (v, σ') → kx_S Λ Γ 2 (fun z => z = q) σ7 (0) (0) 23 [(0, .ref a0), (1, .int a1)] [.int w5, .ref w6] := by
    intro σ7 w5 w6 hf
    unfold m_X7_restoreSnapshot_j23 at hf
    refine kx_iconst (v := 2) K dX7_restoreSnapshot_23 (by decide) ?_
    refine kx_cv2i K c_X7_184 (by decide) (Nat.le_of_ble_eq_true rfl) dX7_restoreSnapshot_24 hf (fun _ _ _ h => k_X7_throwsIf h) (fun x9 σ8 hf => ?_)
    refine kx_if_eq K 32 hf dX7_restoreSnapshot_27 (by decide) (fun hf => ?_) (fun hf => ?_)
    · refine kx_aload_n K dX7_restoreSnapshot_32 rfl 0 rfl ?_
      refine kx_gr K f_X7_55 dX7_restoreSnapshot_33 hf (fun x10 hf => ?_)
      refine kx_sipush (v := 183) K dX7_restoreSnapshot_36 (by decide) ?_
      refine kx_iload_n K dX7_restoreSnapshot_39 rfl 1 rfl ?_
      refine kx_imul K dX7_restoreSnapshot_40 ?_
      refine kx_aload_n K dX7_restoreSnapshot_41 rfl 0 rfl ?_
      refine kx_gr K f_X7_7 dX7_restoreSnapshot_42 hf (fun x11 hf => ?_)
      refine kx_iconst (v := 0) K dX7_restoreSnapshot_45 (by decide) ?_
      refine kx_cs4v K c_X7_194 (by decide) (Nat.le_of_ble_eq_true rfl) dX7_restoreSnapshot_46 hf (fun _ _ _ h => k_X7_copies h) (fun _ σ12 hf => ?_)
      refine kx_aload_n K dX7_restoreSnapshot_49 rfl 0 rfl ?_
      refine kx_iconst (v := 0) K dX7_restoreSnapshot_50 (by decide) ?_
      refine kx_pi K f_X7_198 dX7_restoreSnapshot_51 hf (fun σ13 hf => ?_)
      refine kx_aload_n K dX7_restoreSnapshot_54 rfl 0 rfl ?_
      refine kx_gr K f_X7_7 dX7_restoreSnapshot_55 hf (fun x14 hf => ?_)
      refine kx_bipush (v := 8) K dX7_restoreSnapshot_58 (by decide) ?_
      refine kx_ai K dX7_restoreSnapshot_60 hf (fun x15 hf => ?_)
      exact kx_iret K hQ (by decide) (by decide) (fun _ h => h) dX7_restoreSnapshot_61 hf
    · refine kx_iconst (v := 0) K dX7_restoreSnapshot_30 (by decide) ?_
      exact kx_iret K hQ (by decide) (by decide) (fun _ h => h) dX7_restoreSnapshot_31 hf
  unfold m_X7_restoreSnapshot at hf
  refine kx_aload_n K dX7_restoreSnapshot_0 rfl 0 rfl ?_
  refine kx_iload_n K dX7_restoreSnapshot_1 rfl 1 rfl ?_
  refine kx_cv1i K c_X7_341 (by decide) (Nat.le_of_ble_eq_true rfl) dX7_restoreSnapshot_2 hf (fun _ _ _ h => k_X7_noSlot h) (fun x2 σ1 hf => ?_)
  refine kx_if_ne K 30 hf dX7_restoreSnapshot_5 (by decide) (fun hf => ?_) (fun hf => ?_)
  · refine kx_iconst (v := 0) K dX7_restoreSnapshot_30 (by decide) ?_
    exact kx_iret K hQ (by decide) (by decide) (fun _ h => h) dX7_restoreSnapshot_31 hf
  · refine kx_aload_n K dX7_restoreSnapshot_8 rfl 0 rfl ?_
    refine kx_aload_n K dX7_restoreSnapshot_9 rfl 0 rfl ?_
    refine kx_gr K f_X7_58 dX7_restoreSnapshot_10 hf (fun x3 hf => ?_)
    refine kx_iload_n K dX7_restoreSnapshot_13 rfl 1 rfl ?_
    refine kx_az K dX7_restoreSnapshot_14 hf (fun x4 hf => ?_)
    refine kx_if_ne K 22 hf dX7_restoreSnapshot_15 (by decide) (fun hf => ?_) (fun hf => ?_)
    · refine kx_iconst (v := 0) K dX7_restoreSnapshot_22 (by decide) ?_
      refine kx_sub [(0, .ref a0), (1, .int a1)] [0, 1] rfl ?_
      exact B23 _ _ _ hf
    · refine kx_iconst (v := 1) K dX7_restoreSnapshot_18 (by decide) ?_
      refine kx_goto K 23 dX7_restoreSnapshot_19 (by decide) ?_
      refine kx_sub [(0, .ref a0), (1, .int a1)] [0, 1] rfl ?_
      exact B23 _ _ _ hf

def m_X7_init (σ : ac_H) (a0 : Nat) (q : Nat) : Option (Nat × ac_H) :=
  mo_pv (ac_up σ q (.inl (0, kx_ar 0 8))) a0 7 0 (.ref q) fun σ1 =>
  mo_pv (ac_up σ1 (q + 1) (.inl (0, kx_ar 0 120))) a0 7 1 (.ref (q + 1)) fun σ2 =>
  mo_pv (ac_up σ2 ((q + 1) + 1) (.inl (2, kx_ar 2 120))) a0 7 2 (.ref ((q + 1) + 1)) fun σ3 =>
  mo_pv (ac_up σ3 (((q + 1) + 1) + 1) (.inl (2, kx_ar 2 120))) a0 7 3 (.ref (((q + 1) + 1) + 1)) fun σ4 =>
  some (((((q + 1) + 1) + 1) + 1), σ4)
set_option maxRecDepth 100000 in
set_option maxHeartbeats 4000000 in
theorem k_X7_init {Λ : ex_L} {q : Nat} {σ σ' : ac_H} {a0 : Nat} {v : Nat} (hf : m_X7_init σ a0 q = some (v, σ')) : kx_C Λ yX7_init (.code yX7_init cX7_init 1 none) ({ frames := 1, cells := 4, slots := 368, locals := 20 } : Room) [.ref a0] q σ (.inr none) σ' (fun z => z = v) := by
  refine kx_in (by decide +kernel) (Nat.le_of_ble_eq_true rfl) ?_
  intro Γ K hnm hsz hQ
  refine kx_lv (lv' := [(0, .ref a0)]) rfl ?_
  unfold m_X7_init at hf
  refine kx_aload_n K dX7_init_0 rfl 0 rfl ?_
  refine kx_oinit K w_141 w_8 w_9 (by decide) (by decide) dX7_init_1 ?_
  refine kx_aload_n K dX7_init_4 rfl 0 rfl ?_
  refine kx_bipush (v := 8) K dX7_init_5 (by decide) ?_
  refine kx_newa (kd := 0) (M := 8) (at9 := .int) K (by decide) rfl w_3 (by decide) (by decide) (by decide) (by decide) dX7_init_7 ?_
  refine kx_putF K f_X7_7 hnm rfl dX7_init_9 rfl rfl hf (fun σ1 hf => ?_)
  refine kx_aload_n K dX7_init_12 rfl 0 rfl ?_
  refine kx_bipush (v := 120) K dX7_init_13 (by decide) ?_
  refine kx_newa (kd := 0) (M := 120) (at9 := .int) K (by decide) rfl w_3 (by decide) (by decide) (by decide) (by decide) dX7_init_15 ?_
  refine kx_putF K f_X7_13 hnm rfl dX7_init_17 rfl rfl hf (fun σ2 hf => ?_)
  refine kx_aload_n K dX7_init_20 rfl 0 rfl ?_
  refine kx_bipush (v := 120) K dX7_init_21 (by decide) ?_
  refine kx_newa (kd := 2) (M := 120) (at9 := .boolean) K (by decide) rfl w_26 (by decide) (by decide) (by decide) (by decide) dX7_init_23 ?_
  refine kx_putF K f_X7_16 hnm rfl dX7_init_25 rfl rfl hf (fun σ3 hf => ?_)
  refine kx_aload_n K dX7_init_28 rfl 0 rfl ?_
  refine kx_bipush (v := 120) K dX7_init_29 (by decide) ?_
  refine kx_newa (kd := 2) (M := 120) (at9 := .boolean) K (by decide) rfl w_26 (by decide) (by decide) (by decide) (by decide) dX7_init_31 ?_
  refine kx_putF K f_X7_20 hnm rfl dX7_init_33 rfl rfl hf (fun σ4 hf => ?_)
  exact kx_vretZ K hQ (by decide) (by decide) dX7_init_36 hf
def m_X7_put (σ : ac_H) (a0 : Nat) (a1 : Int32) (a2 : Int32) (a3 : Int32) (a4 : Int32) : Option (Unit × ac_H) :=
  mo_gr σ a0 7 2 fun x1 =>
  mo_ui σ x1 2 a1 (vp_nar .boolean a2) fun σ2 =>
  mo_gr σ2 a0 7 3 fun x3 =>
  mo_ui σ2 x3 2 a1 (vp_nar .boolean a3) fun σ4 =>
  mo_gr σ4 a0 7 1 fun x5 =>
  mo_ui σ4 x5 0 a1 a4 fun σ6 =>
  some ((), σ6)
set_option maxRecDepth 100000 in
set_option maxHeartbeats 4000000 in
theorem k_X7_put {Λ : ex_L} {q : Nat} {σ σ' : ac_H} {a0 : Nat} {a1 : Int32} {a2 : Int32} {a3 : Int32} {a4 : Int32} {v : Unit} (hf : m_X7_put σ a0 a1 a2 a3 a4 = some (v, σ')) : kx_C Λ yX7_put (.code yX7_put cX7_put 5 none) ({ frames := 0, cells := 0, slots := 0, locals := 0 } : Room) [.ref a0, .int a1, .int a2, .int a3, .int a4] q σ (.inr none) σ' (fun z => z = q) := by
  refine kx_in (by decide +kernel) (Nat.le_of_ble_eq_true rfl) ?_
  intro Γ K hnm hsz hQ
  refine kx_lv (lv' := [(0, .ref a0), (1, .int a1), (2, .int a2), (3, .int a3), (4, .int a4)]) rfl ?_
  unfold m_X7_put at hf
  refine kx_aload_n K dX7_put_0 rfl 0 rfl ?_
  refine kx_gr K f_X7_16 dX7_put_1 hf (fun x1 hf => ?_)
  refine kx_iload_n K dX7_put_4 rfl 1 rfl ?_
  refine kx_iload_n K dX7_put_5 rfl 2 rfl ?_
  refine kx_uz K dX7_put_6 hf (fun σ2 hf => ?_)
  refine kx_aload_n K dX7_put_7 rfl 0 rfl ?_
  refine kx_gr K f_X7_20 dX7_put_8 hf (fun x3 hf => ?_)
  refine kx_iload_n K dX7_put_11 rfl 1 rfl ?_
  refine kx_iload_n K dX7_put_12 rfl 3 rfl ?_
  refine kx_uz K dX7_put_13 hf (fun σ4 hf => ?_)
  refine kx_aload_n K dX7_put_14 rfl 0 rfl ?_
  refine kx_gr K f_X7_13 dX7_put_15 hf (fun x5 hf => ?_)
  refine kx_iload_n K dX7_put_18 rfl 1 rfl ?_
  refine kx_iload K dX7_put_19 4 rfl ?_
  refine kx_ui K dX7_put_21 hf (fun σ6 hf => ?_)
  exact kx_vret K hQ (by decide) (by decide) (fun _ h => h) dX7_put_22 hf
def m_X7_copy_l25  (a0 : Nat) : Nat → ac_H → Nat → Nat → Int32 → Option ((Nat × Nat) × ac_H)
  | 0, _, _, _, _ => none
  | n + 1, σ10, z7, v8, v9 =>
    if v9 < (120 : Int32) then
    (mo_gr σ10 a0 7 2 fun x11 =>
    mo_ai σ10 x11 2 v9 fun x12 =>
    mo_gr σ10 a0 7 3 fun x13 =>
    mo_ai σ10 x13 2 v9 fun x14 =>
    mo_gr σ10 a0 7 1 fun x15 =>
    mo_ai σ10 x15 0 v9 fun x16 =>
    mo_cv σ10 v8 7 (m_X7_put σ10 v8 v9 x12 x14 x16) fun _ σ17 =>
    m_X7_copy_l25 a0 n σ17 z7 v8 (v9 + 1))
    else
    (some ((v8, z7), σ10))
def m_X7_copy (σ : ac_H) (a0 : Nat) (q : Nat) : Option ((Nat × Nat) × ac_H) :=
  mo_cs (m_X7_init (ac_up σ q (.inr (7, [.null, .null, .null, .null]))) q (q + 1)) fun z3 σ2 =>
  mo_gr σ2 a0 7 0 fun x4 =>
  mo_gr σ2 q 7 0 fun x5 =>
  mo_cp σ2 x4 x5 0 (0 : Int32) (0 : Int32) (8 : Int32) fun σ6 =>
  m_X7_copy_l25 a0 hN_f σ6 z3 q (0 : Int32)
set_option maxRecDepth 100000 in
set_option maxHeartbeats 4000000 in
theorem k_X7_copy {Λ : ex_L} {q : Nat} {σ σ' : ac_H} {a0 : Nat} {v : (Nat × Nat)} (hf : m_X7_copy σ a0 q = some (v, σ')) : kx_C Λ yX7_copy (.code yX7_copy cX7_copy 3 (some (.object "FaultBenchLaw$Plan"))) ({ frames := 2, cells := 5, slots := 372, locals := 40 } : Room) [.ref a0] q σ (.inr (some (.ref v.1))) σ' (fun z => z = v.2) := by
  refine kx_in (by decide +kernel) (Nat.le_of_ble_eq_true rfl) ?_
  intro Γ K hnm hsz hQ
  refine kx_lv (lv' := [(0, .ref a0)]) rfl ?_
  have B25 : ∀ (n25 : Nat) (k0 n0 : Nat) (σ10 : ac_H) (z7 : Nat) (v8 : Nat) (v9 : Int32), k0 ≤ 5 → n0 ≤ 372 → m_X7_copy_l25 a0 n25 σ10 z7 v8 v9 = some (v, σ') → kx_S Λ Γ 3 (fun z => z = z7) σ10 (k0) (n0) 25 [(0, .ref a0), (1, .ref v8), (2, .int v9)] [] := by
    intro n25
    induction n25 with
    | zero =>
      intro k0 n0 σ10 z7 v8 v9 hk0 hn0 hf
      rw [m_X7_copy_l25] at hf
      cases hf
    | succ n25 ih25 =>
      intro k0 n0 σ10 z7 v8 v9 hk0 hn0 hf
      rw [m_X7_copy_l25] at hf
      refine kx_iload_n K dX7_copy_25 rfl 2 rfl ?_
      refine kx_bipush (v := 120) K dX7_copy_26 (by decide) ?_
      refine kx_icmp_ge K 60 hf dX7_copy_28 (by decide) (fun hf => ?_) (fun hf => ?_)
      · refine kx_aload_n K dX7_copy_60 rfl 1 rfl ?_
        exact kx_aretZ K hQ (show k0 ≤ 5 by omega) (show n0 ≤ 372 by omega) dX7_copy_61 hf
      · refine kx_aload_n K dX7_copy_31 rfl 1 rfl ?_
        refine kx_iload_n K dX7_copy_32 rfl 2 rfl ?_
        refine kx_aload_n K dX7_copy_33 rfl 0 rfl ?_
        refine kx_gr K f_X7_16 dX7_copy_34 hf (fun x11 hf => ?_)
        refine kx_iload_n K dX7_copy_37 rfl 2 rfl ?_
        refine kx_az K dX7_copy_38 hf (fun x12 hf => ?_)
        refine kx_aload_n K dX7_copy_39 rfl 0 rfl ?_
        refine kx_gr K f_X7_20 dX7_copy_40 hf (fun x13 hf => ?_)
        refine kx_iload_n K dX7_copy_43 rfl 2 rfl ?_
        refine kx_az K dX7_copy_44 hf (fun x14 hf => ?_)
        refine kx_aload_n K dX7_copy_45 rfl 0 rfl ?_
        refine kx_gr K f_X7_13 dX7_copy_46 hf (fun x15 hf => ?_)
        refine kx_iload_n K dX7_copy_49 rfl 2 rfl ?_
        refine kx_ai K dX7_copy_50 hf (fun x16 hf => ?_)
        refine kx_cv4v K c_X7_30 ⟨by decide, by decide, rfl, rfl, (show k0 ≤ 5 by omega), (show n0 ≤ 372 by omega)⟩ (Nat.le_of_ble_eq_true rfl) dX7_copy_51 hf (fun _ _ _ h => k_X7_put h) (fun _ σ17 hf => ?_)
        refine kx_iinc (v := (v9 + 1)) K [(2, .int (v9 + 1)), (0, .ref a0), (1, .ref v8)] dX7_copy_54 2 rfl rfl (by decide) rfl ?_
        refine kx_goto K 25 dX7_copy_57 (by decide) ?_
        refine kx_sub [(0, .ref a0), (1, .ref v8), (2, .int (v9 + 1))] [1, 2, 0] rfl ?_
        exact ih25 (k0) (n0) _ _ _ _ (by omega) (by omega) hf
  unfold m_X7_copy at hf
  refine kx_new K n_X7_8 (by decide) (by decide) dX7_copy_0 ?_
  refine kx_dup K dX7_copy_3 rfl ?_
  refine kx_ci (rmy := { frames := 1, cells := 4, slots := 368, locals := 20 }) (k' := 5) (n' := 372) (As := []) K c_X7_23 ⟨by decide, by decide, by show 1 + 4 = 5; omega, by show 4 + 368 = 372; omega, (by decide), (by decide)⟩ rfl rfl (Nat.le_of_ble_eq_true rfl) dX7_copy_4 hf (fun _ _ h => k_X7_init h) (fun z3 σ2 hf => ?_)
  refine kx_astore_n K [(1, .ref q), (0, .ref a0)] dX7_copy_7 rfl (by decide) rfl ?_
  refine kx_aload_n K dX7_copy_8 rfl 1 rfl ?_
  refine kx_gr K f_X7_7 dX7_copy_9 hf (fun x4 hf => ?_)
  refine kx_iconst (v := 0) K dX7_copy_12 (by decide) ?_
  refine kx_aload_n K dX7_copy_13 rfl 0 rfl ?_
  refine kx_gr K f_X7_7 dX7_copy_14 hf (fun x5 hf => ?_)
  refine kx_iconst (v := 0) K dX7_copy_17 (by decide) ?_
  refine kx_bipush (v := 8) K dX7_copy_18 (by decide) ?_
  refine kx_acp (kd := 0) K w_802 w_136 w_137 w_138 (by decide) (Nat.le_of_ble_eq_true rfl) (by decide) dX7_copy_20 hf (fun σ6 hf => ?_)
  refine kx_iconst (v := 0) K dX7_copy_23 (by decide) ?_
  refine kx_istore_n K [(2, .int (0 : Int32)), (1, .ref q), (0, .ref a0)] dX7_copy_24 rfl (by decide) rfl ?_
  refine kx_sub [(0, .ref a0), (1, .ref q), (2, .int (0 : Int32))] [2, 1, 0] rfl ?_
  exact B25 hN_f (5) (372) _ _ _ _ (by omega) (by omega) hf
def m_X7_many_j39 (K4 : ac_H → Int32 → Int32 → Option (Int32 × ac_H)) (a0 : Nat) (σ16 : ac_H) (v12 : Int32) (w13 : Int32) (w14 : Int32) (w15 : Int32) : Option (Int32 × ac_H) :=
  mo_gr σ16 a0 7 1 fun x17 =>
  mo_ai σ16 x17 0 v12 fun x18 =>
  if 0 < x18 then
  (K4 σ16 (w15 + ((w14 + w13) + (1 : Int32))) (v12 + 1))
  else
  (K4 σ16 (w15 + ((w14 + w13) + (0 : Int32))) (v12 + 1))
def m_X7_many_j25 (K4 : ac_H → Int32 → Int32 → Option (Int32 × ac_H)) (a0 : Nat) (σ9 : ac_H) (v6 : Int32) (w7 : Int32) (w8 : Int32) : Option (Int32 × ac_H) :=
  mo_gr σ9 a0 7 3 fun x10 =>
  mo_ai σ9 x10 2 v6 fun x11 =>
  if x11 = 0 then
  (m_X7_many_j39 K4 a0 σ9 v6 (0 : Int32) w7 w8)
  else
  (m_X7_many_j39 K4 a0 σ9 v6 (1 : Int32) w7 w8)
def m_X7_many_l4  (a0 : Nat) : Nat → ac_H → Int32 → Int32 → Option (Int32 × ac_H)
  | 0, _, _, _ => none
  | n + 1, σ3, v1, v2 =>
    if v2 < (120 : Int32) then
    (mo_gr σ3 a0 7 2 fun x4 =>
    mo_ai σ3 x4 2 v2 fun x5 =>
    if x5 = 0 then
    (m_X7_many_j25 (fun ρ y0 y1 => m_X7_many_l4 a0 n ρ y0 y1) a0 σ3 v2 (0 : Int32) v1)
    else
    (m_X7_many_j25 (fun ρ y0 y1 => m_X7_many_l4 a0 n ρ y0 y1) a0 σ3 v2 (1 : Int32) v1))
    else
    (some (v1, σ3))
def m_X7_many (σ : ac_H) (a0 : Nat) : Option (Int32 × ac_H) :=
  m_X7_many_l4 a0 hN_f σ (0 : Int32) (0 : Int32)
set_option maxRecDepth 100000 in
set_option maxHeartbeats 4000000 in
theorem k_X7_many {Λ : ex_L} {q : Nat} {σ σ' : ac_H} {a0 : Nat} {v : Int32} (hf : m_X7_many σ a0 = some (v, σ')) : kx_C Λ yX7_many (.code yX7_many cX7_many 3 (some .int)) ({ frames := 0, cells := 0, slots := 0, locals := 0 } : Room) [.ref a0] q σ (.inr (some (.int v))) σ' (fun z => z = q) := by
  refine kx_in (by decide +kernel) (Nat.le_of_ble_eq_true rfl) ?_
  intro Γ K hnm hsz hQ
  refine kx_lv (lv' := [(0, .ref a0)]) rfl ?_
  have B4 : ∀ (n4 : Nat) (σ3 : ac_H) (v1 : Int32) (v2 : Int32), m_X7_many_l4 a0 n4 σ3 v1 v2 = some (v, σ') → kx_S Λ Γ 3 (fun z => z = q) σ3 (0) (0) 4 [(0, .ref a0), (1, .int v1), (2, .int v2)] [] := by
    intro n4
    induction n4 with
    | zero =>
      intro σ3 v1 v2 hf
      rw [m_X7_many_l4] at hf
      cases hf
    | succ n4 ih4 =>
      have B39 : ∀ (σ16 : ac_H) (v12 : Int32) (w13 : Int32) (w14 : Int32) (w15 : Int32), m_X7_many_j39 (fun ρ y0 y1 => m_X7_many_l4 a0 n4 ρ y0 y1) a0 σ16 v12 w13 w14 w15 = some (v, σ') → kx_S Λ Γ 3 (fun z => z = q) σ16 (0) (0) 39 [(0, .ref a0), (2, .int v12)] [.int w13, .int w14, .int w15] := by
        intro σ16 v12 w13 w14 w15 hf
        unfold m_X7_many_j39 at hf
        refine kx_iadd K dX7_many_39 ?_
        refine kx_aload_n K dX7_many_40 rfl 0 rfl ?_
        refine kx_gr K f_X7_13 dX7_many_41 hf (fun x17 hf => ?_)
        refine kx_iload_n K dX7_many_44 rfl 1 rfl ?_
        refine kx_ai K dX7_many_45 hf (fun x18 hf => ?_)
        refine kx_if_le K 53 hf dX7_many_46 (by decide) (fun hf => ?_) (fun hf => ?_)
        · refine kx_iconst (v := 0) K dX7_many_53 (by decide) ?_
          refine kx_iadd K dX7_many_54 ?_
          refine kx_iadd K dX7_many_55 ?_
          refine kx_istore_n K [(1, .int (w15 + ((w14 + w13) + (0 : Int32)))), (0, .ref a0), (2, .int v12)] dX7_many_56 rfl (by decide) rfl ?_
          refine kx_iinc (v := (v12 + 1)) K [(2, .int (v12 + 1)), (1, .int (w15 + ((w14 + w13) + (0 : Int32)))), (0, .ref a0)] dX7_many_57 2 rfl rfl (by decide) rfl ?_
          refine kx_goto K 4 dX7_many_60 (by decide) ?_
          refine kx_sub [(0, .ref a0), (1, .int (w15 + ((w14 + w13) + (0 : Int32)))), (2, .int (v12 + 1))] [2, 1, 0] rfl ?_
          exact ih4 _ _ _ hf
        · refine kx_iconst (v := 1) K dX7_many_49 (by decide) ?_
          refine kx_goto K 54 dX7_many_50 (by decide) ?_
          refine kx_iadd K dX7_many_54 ?_
          refine kx_iadd K dX7_many_55 ?_
          refine kx_istore_n K [(1, .int (w15 + ((w14 + w13) + (1 : Int32)))), (0, .ref a0), (2, .int v12)] dX7_many_56 rfl (by decide) rfl ?_
          refine kx_iinc (v := (v12 + 1)) K [(2, .int (v12 + 1)), (1, .int (w15 + ((w14 + w13) + (1 : Int32)))), (0, .ref a0)] dX7_many_57 2 rfl rfl (by decide) rfl ?_
          refine kx_goto K 4 dX7_many_60 (by decide) ?_
          refine kx_sub [(0, .ref a0), (1, .int (w15 + ((w14 + w13) + (1 : Int32)))), (2, .int (v12 + 1))] [2, 1, 0] rfl ?_
          exact ih4 _ _ _ hf
      have B25 : ∀ (σ9 : ac_H) (v6 : Int32) (w7 : Int32) (w8 : Int32), m_X7_many_j25 (fun ρ y0 y1 => m_X7_many_l4 a0 n4 ρ y0 y1) a0 σ9 v6 w7 w8 = some (v, σ') → kx_S Λ Γ 3 (fun z => z = q) σ9 (0) (0) 25 [(0, .ref a0), (2, .int v6)] [.int w7, .int w8] := by
        intro σ9 v6 w7 w8 hf
        unfold m_X7_many_j25 at hf
        refine kx_aload_n K dX7_many_25 rfl 0 rfl ?_
        refine kx_gr K f_X7_20 dX7_many_26 hf (fun x10 hf => ?_)
        refine kx_iload_n K dX7_many_29 rfl 1 rfl ?_
        refine kx_az K dX7_many_30 hf (fun x11 hf => ?_)
        refine kx_if_eq K 38 hf dX7_many_31 (by decide) (fun hf => ?_) (fun hf => ?_)
        · refine kx_iconst (v := 0) K dX7_many_38 (by decide) ?_
          refine kx_sub [(0, .ref a0), (2, .int v6)] [0, 1] rfl ?_
          exact B39 _ _ _ _ _ hf
        · refine kx_iconst (v := 1) K dX7_many_34 (by decide) ?_
          refine kx_goto K 39 dX7_many_35 (by decide) ?_
          refine kx_sub [(0, .ref a0), (2, .int v6)] [0, 1] rfl ?_
          exact B39 _ _ _ _ _ hf
      intro σ3 v1 v2 hf
      rw [m_X7_many_l4] at hf
      refine kx_iload_n K dX7_many_4 rfl 2 rfl ?_
      refine kx_bipush (v := 120) K dX7_many_5 (by decide) ?_
      refine kx_icmp_ge K 63 hf dX7_many_7 (by decide) (fun hf => ?_) (fun hf => ?_)
      · refine kx_iload_n K dX7_many_63 rfl 1 rfl ?_
        exact kx_iret K hQ (by decide) (by decide) (fun _ h => h) dX7_many_64 hf
      · refine kx_iload_n K dX7_many_10 rfl 1 rfl ?_
        refine kx_aload_n K dX7_many_11 rfl 0 rfl ?_
        refine kx_gr K f_X7_16 dX7_many_12 hf (fun x4 hf => ?_)
        refine kx_iload_n K dX7_many_15 rfl 2 rfl ?_
        refine kx_az K dX7_many_16 hf (fun x5 hf => ?_)
        refine kx_if_eq K 24 hf dX7_many_17 (by decide) (fun hf => ?_) (fun hf => ?_)
        · refine kx_iconst (v := 0) K dX7_many_24 (by decide) ?_
          refine kx_sub [(0, .ref a0), (2, .int v2)] [0, 2] rfl ?_
          exact B25 _ _ _ _ hf
        · refine kx_iconst (v := 1) K dX7_many_20 (by decide) ?_
          refine kx_goto K 25 dX7_many_21 (by decide) ?_
          refine kx_sub [(0, .ref a0), (2, .int v2)] [0, 2] rfl ?_
          exact B25 _ _ _ _ hf
  unfold m_X7_many at hf
  refine kx_iconst (v := 0) K dX7_many_0 (by decide) ?_
  refine kx_istore_n K [(1, .int (0 : Int32)), (0, .ref a0)] dX7_many_1 rfl (by decide) rfl ?_
  refine kx_iconst (v := 0) K dX7_many_2 (by decide) ?_
  refine kx_istore_n K [(2, .int (0 : Int32)), (1, .int (0 : Int32)), (0, .ref a0)] dX7_many_3 rfl (by decide) rfl ?_
  refine kx_sub [(0, .ref a0), (1, .int (0 : Int32)), (2, .int (0 : Int32))] [2, 1, 0] rfl ?_
  exact B4 hN_f _ _ _ hf
def m_X7_fault_j62 (K4 : ac_H → Int32 → Int32 → Option (Int32 × ac_H)) (K13 : ac_H → Int32 → Int32 → Int32 → Option (Int32 × ac_H)) (a0 : Nat) (σ18 : ac_H) (v14 : Int32) (v15 : Int32) (v16 : Int32) (w17 : Int32) : Option (Int32 × ac_H) :=
  if w17 = 0 then
  (K13 σ18 v14 v15 (v16 + 1))
  else
  (if v14 = 0 then
  (some ((((1000 : Int32) * v15) + v16), σ18))
  else
  (K13 σ18 (v14 + (-1)) v15 (v16 + 1)))
def m_X7_fault_l13 (K4 : ac_H → Int32 → Int32 → Option (Int32 × ac_H)) (a0 : Nat) : Nat → ac_H → Int32 → Int32 → Int32 → Option (Int32 × ac_H)
  | 0, _, _, _, _ => none
  | n + 1, σ7, v4, v5, v6 =>
    if v6 < (3 : Int32) then
    (if v6 = 0 then
    (mo_gr σ7 a0 7 2 fun x12 =>
    mo_ai σ7 x12 2 v5 fun x13 =>
    m_X7_fault_j62 K4 (fun ρ y0 y1 y2 => m_X7_fault_l13 K4 a0 n ρ y0 y1 y2) a0 σ7 v4 v5 v6 x13)
    else
    (if v6 = (1 : Int32) then
    (mo_gr σ7 a0 7 3 fun x10 =>
    mo_ai σ7 x10 2 v5 fun x11 =>
    m_X7_fault_j62 K4 (fun ρ y0 y1 y2 => m_X7_fault_l13 K4 a0 n ρ y0 y1 y2) a0 σ7 v4 v5 v6 x11)
    else
    (mo_gr σ7 a0 7 1 fun x8 =>
    mo_ai σ7 x8 0 v5 fun x9 =>
    if 0 < x9 then
    (m_X7_fault_j62 K4 (fun ρ y0 y1 y2 => m_X7_fault_l13 K4 a0 n ρ y0 y1 y2) a0 σ7 v4 v5 v6 (1 : Int32))
    else
    (m_X7_fault_j62 K4 (fun ρ y0 y1 y2 => m_X7_fault_l13 K4 a0 n ρ y0 y1 y2) a0 σ7 v4 v5 v6 (0 : Int32)))))
    else
    (K4 σ7 v4 (v5 + 1))
def m_X7_fault_l4  (a0 : Nat) : Nat → ac_H → Int32 → Int32 → Option (Int32 × ac_H)
  | 0, _, _, _ => none
  | n + 1, σ3, v1, v2 =>
    if v2 < (120 : Int32) then
    (m_X7_fault_l13 (fun ρ y0 y1 => m_X7_fault_l4 a0 n ρ y0 y1) a0 hN_f σ3 v1 v2 (0 : Int32))
    else
    (some ((-1 : Int32), σ3))
def m_X7_fault (σ : ac_H) (a0 : Nat) (a1 : Int32) : Option (Int32 × ac_H) :=
  m_X7_fault_l4 a0 hN_f σ a1 (0 : Int32)
set_option maxRecDepth 100000 in
set_option maxHeartbeats 4000000 in
theorem k_X7_fault {Λ : ex_L} {q : Nat} {σ σ' : ac_H} {a0 : Nat} {a1 : Int32} {v : Int32} (hf : m_X7_fault σ a0 a1 = some (v, σ')) : kx_C Λ yX7_fault (.code yX7_fault cX7_fault 6 (some .int)) ({ frames := 0, cells := 0, slots := 0, locals := 0 } : Room) [.ref a0, .int a1] q σ (.inr (some (.int v))) σ' (fun z => z = q) := by
  refine kx_in (by decide +kernel) (Nat.le_of_ble_eq_true rfl) ?_
  intro Γ K hnm hsz hQ
  refine kx_lv (lv' := [(0, .ref a0), (1, .int a1)]) rfl ?_
  have B4 : ∀ (n4 : Nat) (σ3 : ac_H) (v1 : Int32) (v2 : Int32), m_X7_fault_l4 a0 n4 σ3 v1 v2 = some (v, σ') → kx_S Λ Γ 6 (fun z => z = q) σ3 (0) (0) 4 [(0, .ref a0), (2, .int v1), (3, .int v2)] [] := by
    intro n4
    induction n4 with
    | zero =>
      intro σ3 v1 v2 hf
      rw [m_X7_fault_l4] at hf
      cases hf
    | succ n4 ih4 =>
      have B13 : ∀ (n13 : Nat) (σ7 : ac_H) (v4 : Int32) (v5 : Int32) (v6 : Int32), m_X7_fault_l13 (fun ρ y0 y1 => m_X7_fault_l4 a0 n4 ρ y0 y1) a0 n13 σ7 v4 v5 v6 = some (v, σ') → kx_S Λ Γ 6 (fun z => z = q) σ7 (0) (0) 13 [(0, .ref a0), (2, .int v4), (3, .int v5), (4, .int v6)] [] := by
        intro n13
        induction n13 with
        | zero =>
          intro σ7 v4 v5 v6 hf
          rw [m_X7_fault_l13] at hf
          cases hf
        | succ n13 ih13 =>
          have B62 : ∀ (σ18 : ac_H) (v14 : Int32) (v15 : Int32) (v16 : Int32) (w17 : Int32), m_X7_fault_j62 (fun ρ y0 y1 => m_X7_fault_l4 a0 n4 ρ y0 y1) (fun ρ y0 y1 y2 => m_X7_fault_l13 (fun ρ y0 y1 => m_X7_fault_l4 a0 n4 ρ y0 y1) a0 n13 ρ y0 y1 y2) a0 σ18 v14 v15 v16 w17 = some (v, σ') → kx_S Λ Γ 6 (fun z => z = q) σ18 (0) (0) 62 [(0, .ref a0), (2, .int v14), (3, .int v15), (4, .int v16)] [.int w17] := by
            intro σ18 v14 v15 v16 w17 hf
            unfold m_X7_fault_j62 at hf
            refine kx_istore K [(5, .int w17), (0, .ref a0), (2, .int v14), (3, .int v15), (4, .int v16)] dX7_fault_62 (by decide) rfl ?_
            refine kx_iload K dX7_fault_64 0 rfl ?_
            refine kx_if_ne K 72 hf dX7_fault_66 (by decide) (fun hf => ?_) (fun hf => ?_)
            · refine kx_iload_n K dX7_fault_72 rfl 2 rfl ?_
              refine kx_if_ne K 85 hf dX7_fault_73 (by decide) (fun hf => ?_) (fun hf => ?_)
              · refine kx_iinc (v := (v14 + (-1))) K [(2, .int (v14 + (-1))), (5, .int w17), (0, .ref a0), (3, .int v15), (4, .int v16)] dX7_fault_85 2 rfl rfl (by decide) rfl ?_
                refine kx_iinc (v := (v16 + 1)) K [(4, .int (v16 + 1)), (2, .int (v14 + (-1))), (5, .int w17), (0, .ref a0), (3, .int v15)] dX7_fault_88 4 rfl rfl (by decide) rfl ?_
                refine kx_goto K 13 dX7_fault_91 (by decide) ?_
                refine kx_sub [(0, .ref a0), (2, .int (v14 + (-1))), (3, .int v15), (4, .int (v16 + 1))] [3, 1, 4, 0] rfl ?_
                exact ih13 _ _ _ _ hf
              · refine kx_sipush (v := 1000) K dX7_fault_76 (by decide) ?_
                refine kx_iload_n K dX7_fault_79 rfl 3 rfl ?_
                refine kx_imul K dX7_fault_80 ?_
                refine kx_iload K dX7_fault_81 4 rfl ?_
                refine kx_iadd K dX7_fault_83 ?_
                exact kx_iret K hQ (by decide) (by decide) (fun _ h => h) dX7_fault_84 hf
            · refine kx_goto K 88 dX7_fault_69 (by decide) ?_
              refine kx_iinc (v := (v16 + 1)) K [(4, .int (v16 + 1)), (5, .int w17), (0, .ref a0), (2, .int v14), (3, .int v15)] dX7_fault_88 4 rfl rfl (by decide) rfl ?_
              refine kx_goto K 13 dX7_fault_91 (by decide) ?_
              refine kx_sub [(0, .ref a0), (2, .int v14), (3, .int v15), (4, .int (v16 + 1))] [2, 3, 4, 0] rfl ?_
              exact ih13 _ _ _ _ hf
          intro σ7 v4 v5 v6 hf
          rw [m_X7_fault_l13] at hf
          refine kx_iload K dX7_fault_13 3 rfl ?_
          refine kx_iconst (v := 3) K dX7_fault_15 (by decide) ?_
          refine kx_icmp_ge K 94 hf dX7_fault_16 (by decide) (fun hf => ?_) (fun hf => ?_)
          · refine kx_iinc (v := (v5 + 1)) K [(3, .int (v5 + 1)), (0, .ref a0), (2, .int v4), (4, .int v6)] dX7_fault_94 2 rfl rfl (by decide) rfl ?_
            refine kx_goto K 4 dX7_fault_97 (by decide) ?_
            refine kx_sub [(0, .ref a0), (2, .int v4), (3, .int (v5 + 1))] [1, 2, 0] rfl ?_
            exact ih4 _ _ _ hf
          · refine kx_iload K dX7_fault_19 3 rfl ?_
            refine kx_if_ne K 33 hf dX7_fault_21 (by decide) (fun hf => ?_) (fun hf => ?_)
            · refine kx_iload K dX7_fault_33 3 rfl ?_
              refine kx_iconst (v := 1) K dX7_fault_35 (by decide) ?_
              refine kx_icmp_ne K 48 hf dX7_fault_36 (by decide) (fun hf => ?_) (fun hf => ?_)
              · refine kx_aload_n K dX7_fault_48 rfl 0 rfl ?_
                refine kx_gr K f_X7_13 dX7_fault_49 hf (fun x8 hf => ?_)
                refine kx_iload_n K dX7_fault_52 rfl 2 rfl ?_
                refine kx_ai K dX7_fault_53 hf (fun x9 hf => ?_)
                refine kx_if_le K 61 hf dX7_fault_54 (by decide) (fun hf => ?_) (fun hf => ?_)
                · refine kx_iconst (v := 0) K dX7_fault_61 (by decide) ?_
                  refine kx_sub [(0, .ref a0), (2, .int v4), (3, .int v5), (4, .int v6)] [0, 1, 2, 3] rfl ?_
                  exact B62 _ _ _ _ _ hf
                · refine kx_iconst (v := 1) K dX7_fault_57 (by decide) ?_
                  refine kx_goto K 62 dX7_fault_58 (by decide) ?_
                  refine kx_sub [(0, .ref a0), (2, .int v4), (3, .int v5), (4, .int v6)] [0, 1, 2, 3] rfl ?_
                  exact B62 _ _ _ _ _ hf
              · refine kx_aload_n K dX7_fault_39 rfl 0 rfl ?_
                refine kx_gr K f_X7_20 dX7_fault_40 hf (fun x10 hf => ?_)
                refine kx_iload_n K dX7_fault_43 rfl 2 rfl ?_
                refine kx_az K dX7_fault_44 hf (fun x11 hf => ?_)
                refine kx_goto K 62 dX7_fault_45 (by decide) ?_
                refine kx_sub [(0, .ref a0), (2, .int v4), (3, .int v5), (4, .int v6)] [0, 1, 2, 3] rfl ?_
                exact B62 _ _ _ _ _ hf
            · refine kx_aload_n K dX7_fault_24 rfl 0 rfl ?_
              refine kx_gr K f_X7_16 dX7_fault_25 hf (fun x12 hf => ?_)
              refine kx_iload_n K dX7_fault_28 rfl 2 rfl ?_
              refine kx_az K dX7_fault_29 hf (fun x13 hf => ?_)
              refine kx_goto K 62 dX7_fault_30 (by decide) ?_
              refine kx_sub [(0, .ref a0), (2, .int v4), (3, .int v5), (4, .int v6)] [0, 1, 2, 3] rfl ?_
              exact B62 _ _ _ _ _ hf
      intro σ3 v1 v2 hf
      rw [m_X7_fault_l4] at hf
      refine kx_iload_n K dX7_fault_4 rfl 2 rfl ?_
      refine kx_bipush (v := 120) K dX7_fault_5 (by decide) ?_
      refine kx_icmp_ge K 100 hf dX7_fault_7 (by decide) (fun hf => ?_) (fun hf => ?_)
      · refine kx_iconst (v := -1) K dX7_fault_100 (by decide) ?_
        exact kx_iret K hQ (by decide) (by decide) (fun _ h => h) dX7_fault_101 hf
      · refine kx_iconst (v := 0) K dX7_fault_10 (by decide) ?_
        refine kx_istore K [(4, .int (0 : Int32)), (0, .ref a0), (2, .int v1), (3, .int v2)] dX7_fault_11 (by decide) rfl ?_
        refine kx_sub [(0, .ref a0), (2, .int v1), (3, .int v2), (4, .int (0 : Int32))] [1, 2, 3, 0] rfl ?_
        exact B13 hN_f _ _ _ _ hf
  unfold m_X7_fault at hf
  refine kx_iload_n K dX7_fault_0 rfl 1 rfl ?_
  refine kx_istore_n K [(2, .int a1), (0, .ref a0), (1, .int a1)] dX7_fault_1 rfl (by decide) rfl ?_
  refine kx_iconst (v := 0) K dX7_fault_2 (by decide) ?_
  refine kx_istore_n K [(3, .int (0 : Int32)), (2, .int a1), (0, .ref a0), (1, .int a1)] dX7_fault_3 rfl (by decide) rfl ?_
  refine kx_sub [(0, .ref a0), (2, .int a1), (3, .int (0 : Int32))] [2, 1, 0] rfl ?_
  exact B4 hN_f _ _ _ hf
def m_X7_take_j51  (a0 : Nat) (σ19 : ac_H) (v13 : Int32) (v14 : Int32) (w15 : Int32) (w16 : Int32) (w17 : Int32) (w18 : Nat) : Option (Unit × ac_H) :=
  if v14 = (2 : Int32) then
  (mo_cv σ19 w18 7 (m_X7_put σ19 w18 w17 w16 w15 (0 : Int32)) fun _ σ20 =>
  some ((), σ20))
  else
  (mo_gr σ19 a0 7 1 fun x21 =>
  mo_ai σ19 x21 0 v13 fun x22 =>
  mo_cv σ19 w18 7 (m_X7_put σ19 w18 w17 w16 w15 x22) fun _ σ23 =>
  some ((), σ23))
def m_X7_take_j32  (a0 : Nat) (σ10 : ac_H) (v5 : Int32) (v6 : Int32) (w7 : Int32) (w8 : Int32) (w9 : Nat) : Option (Unit × ac_H) :=
  if v6 = (1 : Int32) then
  (m_X7_take_j51 a0 σ10 v5 v6 (0 : Int32) w7 w8 w9)
  else
  (mo_gr σ10 a0 7 3 fun x11 =>
  mo_ai σ10 x11 2 v5 fun x12 =>
  if x12 = 0 then
  (m_X7_take_j51 a0 σ10 v5 v6 (0 : Int32) w7 w8 w9)
  else
  (m_X7_take_j51 a0 σ10 v5 v6 (1 : Int32) w7 w8 w9))
def m_X7_take (σ : ac_H) (a0 : Nat) (a1 : Int32) : Option (Unit × ac_H) :=
  mo_dv a1 (1000 : Int32) fun x1 =>
  mo_rm a1 (1000 : Int32) fun x2 =>
  if x2 = 0 then
  (m_X7_take_j32 a0 σ x1 x2 (0 : Int32) x1 a0)
  else
  (mo_gr σ a0 7 2 fun x3 =>
  mo_ai σ x3 2 x1 fun x4 =>
  if x4 = 0 then
  (m_X7_take_j32 a0 σ x1 x2 (0 : Int32) x1 a0)
  else
  (m_X7_take_j32 a0 σ x1 x2 (1 : Int32) x1 a0))
set_option maxRecDepth 100000 in
set_option maxHeartbeats 4000000 in
theorem k_X7_take {Λ : ex_L} {q : Nat} {σ σ' : ac_H} {a0 : Nat} {a1 : Int32} {v : Unit} (hf : m_X7_take σ a0 a1 = some (v, σ')) : kx_C Λ yX7_take (.code yX7_take cX7_take 4 none) ({ frames := 1, cells := 0, slots := 0, locals := 24 } : Room) [.ref a0, .int a1] q σ (.inr none) σ' (fun z => z = q) := by
  refine kx_in (by decide +kernel) (Nat.le_of_ble_eq_true rfl) ?_
  intro Γ K hnm hsz hQ
  refine kx_lv (lv' := [(0, .ref a0), (1, .int a1)]) rfl ?_
  have B51 : ∀ (σ19 : ac_H) (v13 : Int32) (v14 : Int32) (w15 : Int32) (w16 : Int32) (w17 : Int32) (w18 : Nat), m_X7_take_j51 a0 σ19 v13 v14 w15 w16 w17 w18 = some (v, σ') → kx_S Λ Γ 4 (fun z => z = q) σ19 (0) (0) 51 [(0, .ref a0), (2, .int v13), (3, .int v14)] [.int w15, .int w16, .int w17, .ref w18] := by
    intro σ19 v13 v14 w15 w16 w17 w18 hf
    unfold m_X7_take_j51 at hf
    refine kx_iload_n K dX7_take_51 rfl 2 rfl ?_
    refine kx_iconst (v := 2) K dX7_take_52 (by decide) ?_
    refine kx_icmp_eq K 65 hf dX7_take_53 (by decide) (fun hf => ?_) (fun hf => ?_)
    · refine kx_iconst (v := 0) K dX7_take_65 (by decide) ?_
      refine kx_cv4v K c_X7_30 ⟨by decide, by decide, rfl, rfl, (by decide), (by decide)⟩ (Nat.le_of_ble_eq_true rfl) dX7_take_66 hf (fun _ _ _ h => k_X7_put h) (fun _ σ20 hf => ?_)
      exact kx_vret K hQ (by decide) (by decide) (fun _ h => h) dX7_take_69 hf
    · refine kx_aload_n K dX7_take_56 rfl 0 rfl ?_
      refine kx_gr K f_X7_13 dX7_take_57 hf (fun x21 hf => ?_)
      refine kx_iload_n K dX7_take_60 rfl 1 rfl ?_
      refine kx_ai K dX7_take_61 hf (fun x22 hf => ?_)
      refine kx_goto K 66 dX7_take_62 (by decide) ?_
      refine kx_cv4v K c_X7_30 ⟨by decide, by decide, rfl, rfl, (by decide), (by decide)⟩ (Nat.le_of_ble_eq_true rfl) dX7_take_66 hf (fun _ _ _ h => k_X7_put h) (fun _ σ23 hf => ?_)
      exact kx_vret K hQ (by decide) (by decide) (fun _ h => h) dX7_take_69 hf
  have B32 : ∀ (σ10 : ac_H) (v5 : Int32) (v6 : Int32) (w7 : Int32) (w8 : Int32) (w9 : Nat), m_X7_take_j32 a0 σ10 v5 v6 w7 w8 w9 = some (v, σ') → kx_S Λ Γ 4 (fun z => z = q) σ10 (0) (0) 32 [(0, .ref a0), (2, .int v5), (3, .int v6)] [.int w7, .int w8, .ref w9] := by
    intro σ10 v5 v6 w7 w8 w9 hf
    unfold m_X7_take_j32 at hf
    refine kx_iload_n K dX7_take_32 rfl 2 rfl ?_
    refine kx_iconst (v := 1) K dX7_take_33 (by decide) ?_
    refine kx_icmp_eq K 50 hf dX7_take_34 (by decide) (fun hf => ?_) (fun hf => ?_)
    · refine kx_iconst (v := 0) K dX7_take_50 (by decide) ?_
      refine kx_sub [(0, .ref a0), (2, .int v5), (3, .int v6)] [0, 1, 2] rfl ?_
      exact B51 _ _ _ _ _ _ _ hf
    · refine kx_aload_n K dX7_take_37 rfl 0 rfl ?_
      refine kx_gr K f_X7_20 dX7_take_38 hf (fun x11 hf => ?_)
      refine kx_iload_n K dX7_take_41 rfl 1 rfl ?_
      refine kx_az K dX7_take_42 hf (fun x12 hf => ?_)
      refine kx_if_eq K 50 hf dX7_take_43 (by decide) (fun hf => ?_) (fun hf => ?_)
      · refine kx_iconst (v := 0) K dX7_take_50 (by decide) ?_
        refine kx_sub [(0, .ref a0), (2, .int v5), (3, .int v6)] [0, 1, 2] rfl ?_
        exact B51 _ _ _ _ _ _ _ hf
      · refine kx_iconst (v := 1) K dX7_take_46 (by decide) ?_
        refine kx_goto K 51 dX7_take_47 (by decide) ?_
        refine kx_sub [(0, .ref a0), (2, .int v5), (3, .int v6)] [0, 1, 2] rfl ?_
        exact B51 _ _ _ _ _ _ _ hf
  unfold m_X7_take at hf
  refine kx_iload_n K dX7_take_0 rfl 1 rfl ?_
  refine kx_sipush (v := 1000) K dX7_take_1 (by decide) ?_
  refine kx_idiv K dX7_take_4 hf (fun x1 hf => ?_)
  refine kx_istore_n K [(2, .int x1), (0, .ref a0), (1, .int a1)] dX7_take_5 rfl (by decide) rfl ?_
  refine kx_iload_n K dX7_take_6 rfl 2 rfl ?_
  refine kx_sipush (v := 1000) K dX7_take_7 (by decide) ?_
  refine kx_irem K dX7_take_10 hf (fun x2 hf => ?_)
  refine kx_istore_n K [(3, .int x2), (2, .int x1), (0, .ref a0), (1, .int a1)] dX7_take_11 rfl (by decide) rfl ?_
  refine kx_aload_n K dX7_take_12 rfl 2 rfl ?_
  refine kx_iload_n K dX7_take_13 rfl 1 rfl ?_
  refine kx_iload_n K dX7_take_14 rfl 0 rfl ?_
  refine kx_if_eq K 31 hf dX7_take_15 (by decide) (fun hf => ?_) (fun hf => ?_)
  · refine kx_iconst (v := 0) K dX7_take_31 (by decide) ?_
    refine kx_sub [(0, .ref a0), (2, .int x1), (3, .int x2)] [2, 1, 0] rfl ?_
    exact B32 _ _ _ _ _ _ hf
  · refine kx_aload_n K dX7_take_18 rfl 2 rfl ?_
    refine kx_gr K f_X7_16 dX7_take_19 hf (fun x3 hf => ?_)
    refine kx_iload_n K dX7_take_22 rfl 1 rfl ?_
    refine kx_az K dX7_take_23 hf (fun x4 hf => ?_)
    refine kx_if_eq K 31 hf dX7_take_24 (by decide) (fun hf => ?_) (fun hf => ?_)
    · refine kx_iconst (v := 0) K dX7_take_31 (by decide) ?_
      refine kx_sub [(0, .ref a0), (2, .int x1), (3, .int x2)] [2, 1, 0] rfl ?_
      exact B32 _ _ _ _ _ _ hf
    · refine kx_iconst (v := 1) K dX7_take_27 (by decide) ?_
      refine kx_goto K 32 dX7_take_28 (by decide) ?_
      refine kx_sub [(0, .ref a0), (2, .int x1), (3, .int x2)] [2, 1, 0] rfl ?_
      exact B32 _ _ _ _ _ _ hf
def m_X7_part_l12  (a0 : Nat) (a1 : Int32) : Nat → ac_H → Nat → Nat → Int32 → Option ((Nat × Nat) × ac_H)
  | 0, _, _, _, _ => none
  | n + 1, σ9, z6, v7, v8 =>
    if v8 < 0 then
    (some ((v7, z6), σ9))
    else
    (if ((a1 >>> (v8 &&& 31)) &&& (1 : Int32)) = 0 then
    (mo_cv σ9 a0 7 (m_X7_fault σ9 a0 v8) fun x11 σ10 =>
    mo_cv σ10 v7 7 (m_X7_take σ10 v7 x11) fun _ σ12 =>
    m_X7_part_l12 a0 a1 n σ12 z6 v7 (v8 + (-1)))
    else
    (m_X7_part_l12 a0 a1 n σ9 z6 v7 (v8 + (-1))))
def m_X7_part (σ : ac_H) (a0 : Nat) (a1 : Int32) (q : Nat) : Option ((Nat × Nat) × ac_H) :=
  mo_cv σ a0 7 (m_X7_copy σ a0 q) fun x2 σ1 =>
  mo_cv σ1 a0 7 (m_X7_many σ1 a0) fun x5 σ4 =>
  m_X7_part_l12 a0 a1 hN_f σ4 x2.2 x2.1 (x5 - (1 : Int32))
set_option maxRecDepth 100000 in
set_option maxHeartbeats 4000000 in
theorem k_X7_part {Λ : ex_L} {q : Nat} {σ σ' : ac_H} {a0 : Nat} {a1 : Int32} {v : (Nat × Nat)} (hf : m_X7_part σ a0 a1 q = some (v, σ')) : kx_C Λ yX7_part (.code yX7_part cX7_part 4 (some (.object "FaultBenchLaw$Plan"))) ({ frames := 3, cells := 5, slots := 372, locals := 62 } : Room) [.ref a0, .int a1] q σ (.inr (some (.ref v.1))) σ' (fun z => z = v.2) := by
  refine kx_in (by decide +kernel) (Nat.le_of_ble_eq_true rfl) ?_
  intro Γ K hnm hsz hQ
  refine kx_lv (lv' := [(0, .ref a0), (1, .int a1)]) rfl ?_
  have B12 : ∀ (n12 : Nat) (k0 n0 : Nat) (σ9 : ac_H) (z6 : Nat) (v7 : Nat) (v8 : Int32), k0 ≤ 5 → n0 ≤ 372 → m_X7_part_l12 a0 a1 n12 σ9 z6 v7 v8 = some (v, σ') → kx_S Λ Γ 4 (fun z => z = z6) σ9 (k0) (n0) 12 [(0, .ref a0), (1, .int a1), (2, .ref v7), (3, .int v8)] [] := by
    intro n12
    induction n12 with
    | zero =>
      intro k0 n0 σ9 z6 v7 v8 hk0 hn0 hf
      rw [m_X7_part_l12] at hf
      cases hf
    | succ n12 ih12 =>
      intro k0 n0 σ9 z6 v7 v8 hk0 hn0 hf
      rw [m_X7_part_l12] at hf
      refine kx_iload_n K dX7_part_12 rfl 3 rfl ?_
      refine kx_if_lt K 39 hf dX7_part_13 (by decide) (fun hf => ?_) (fun hf => ?_)
      · refine kx_aload_n K dX7_part_39 rfl 2 rfl ?_
        exact kx_aretZ K hQ (show k0 ≤ 5 by omega) (show n0 ≤ 372 by omega) dX7_part_40 hf
      · refine kx_iload_n K dX7_part_16 rfl 1 rfl ?_
        refine kx_iload_n K dX7_part_17 rfl 3 rfl ?_
        refine kx_ishr K dX7_part_18 ?_
        refine kx_iconst (v := 1) K dX7_part_19 (by decide) ?_
        refine kx_iand K dX7_part_20 ?_
        refine kx_if_ne K 33 hf dX7_part_21 (by decide) (fun hf => ?_) (fun hf => ?_)
        · refine kx_iinc (v := (v8 + (-1))) K [(3, .int (v8 + (-1))), (0, .ref a0), (1, .int a1), (2, .ref v7)] dX7_part_33 3 rfl rfl (by decide) rfl ?_
          refine kx_goto K 12 dX7_part_36 (by decide) ?_
          refine kx_sub [(0, .ref a0), (1, .int a1), (2, .ref v7), (3, .int (v8 + (-1)))] [1, 2, 3, 0] rfl ?_
          exact ih12 (k0) (n0) _ _ _ _ (by omega) (by omega) hf
        · refine kx_aload_n K dX7_part_24 rfl 2 rfl ?_
          refine kx_aload_n K dX7_part_25 rfl 0 rfl ?_
          refine kx_iload_n K dX7_part_26 rfl 3 rfl ?_
          refine kx_cv1i K c_X7_42 ⟨by decide, by decide, rfl, rfl, (show k0 ≤ 5 by omega), (show n0 ≤ 372 by omega)⟩ (Nat.le_of_ble_eq_true rfl) dX7_part_27 hf (fun _ _ _ h => k_X7_fault h) (fun x11 σ10 hf => ?_)
          refine kx_cv1v K c_X7_46 ⟨by decide, by decide, rfl, rfl, (show k0 ≤ 5 by omega), (show n0 ≤ 372 by omega)⟩ (Nat.le_of_ble_eq_true rfl) dX7_part_30 hf (fun _ _ _ h => k_X7_take h) (fun _ σ12 hf => ?_)
          refine kx_iinc (v := (v8 + (-1))) K [(3, .int (v8 + (-1))), (0, .ref a0), (1, .int a1), (2, .ref v7)] dX7_part_33 3 rfl rfl (by decide) rfl ?_
          refine kx_goto K 12 dX7_part_36 (by decide) ?_
          refine kx_sub [(0, .ref a0), (1, .int a1), (2, .ref v7), (3, .int (v8 + (-1)))] [1, 2, 3, 0] rfl ?_
          exact ih12 (k0) (n0) _ _ _ _ (by omega) (by omega) hf
  unfold m_X7_part at hf
  refine kx_aload_n K dX7_part_0 rfl 0 rfl ?_
  refine kx_av (rmy := { frames := 2, cells := 5, slots := 372, locals := 40 }) (k' := 5) (n' := 372) (ρ := Nat × Nat) K [] (fun x => some (.ref x.1)) (fun x => x.2) c_X7_34 ⟨by decide, by decide, by show 0 + 5 = 5; omega, by show 0 + 372 = 372; omega, (by decide), (by decide)⟩ rfl rfl (Nat.le_of_ble_eq_true rfl) dX7_part_1 hf (fun _ _ h => k_X7_copy h) (fun x2 σ1 hf => ?_)
  refine kx_astore_n K [(2, .ref x2.1), (0, .ref a0), (1, .int a1)] dX7_part_4 rfl (by decide) rfl ?_
  refine kx_aload_n K dX7_part_5 rfl 1 rfl ?_
  refine kx_cv0i K c_X7_38 ⟨by decide, by decide, rfl, rfl, (by decide), (by decide)⟩ (Nat.le_of_ble_eq_true rfl) dX7_part_6 hf (fun _ _ _ h => k_X7_many h) (fun x5 σ4 hf => ?_)
  refine kx_iconst (v := 1) K dX7_part_9 (by decide) ?_
  refine kx_isub K dX7_part_10 ?_
  refine kx_istore_n K [(3, .int (x5 - (1 : Int32))), (2, .ref x2.1), (0, .ref a0), (1, .int a1)] dX7_part_11 rfl (by decide) rfl ?_
  refine kx_sub [(0, .ref a0), (1, .int a1), (2, .ref x2.1), (3, .int (x5 - (1 : Int32)))] [2, 3, 1, 0] rfl ?_
  exact B12 hN_f (5) (372) _ _ _ _ (by omega) (by omega) hf
def m_X8_init (σ : ac_H) (a0 : Nat) (q : Nat) : Option (Nat × ac_H) :=
  mo_pv (ac_up σ q (.inl (0, kx_ar 0 120))) a0 8 1 (.ref q) fun σ1 =>
  mo_pv (ac_up σ1 (q + 1) (.inl (0, kx_ar 0 120))) a0 8 2 (.ref (q + 1)) fun σ2 =>
  mo_pv (ac_up σ2 ((q + 1) + 1) (.inl (0, kx_ar 0 120))) a0 8 3 (.ref ((q + 1) + 1)) fun σ3 =>
  mo_pv (ac_up σ3 (((q + 1) + 1) + 1) (.inl (0, kx_ar 0 120))) a0 8 4 (.ref (((q + 1) + 1) + 1)) fun σ4 =>
  mo_pv (ac_up σ4 ((((q + 1) + 1) + 1) + 1) (.inl (0, kx_ar 0 120))) a0 8 5 (.ref ((((q + 1) + 1) + 1) + 1)) fun σ5 =>
  mo_pv (ac_up σ5 (((((q + 1) + 1) + 1) + 1) + 1) (.inl (0, kx_ar 0 240))) a0 8 6 (.ref (((((q + 1) + 1) + 1) + 1) + 1)) fun σ6 =>
  mo_pv (ac_up σ6 ((((((q + 1) + 1) + 1) + 1) + 1) + 1) (.inl (2, kx_ar 2 400))) a0 8 7 (.ref ((((((q + 1) + 1) + 1) + 1) + 1) + 1)) fun σ7 =>
  mo_pv (ac_up σ7 (((((((q + 1) + 1) + 1) + 1) + 1) + 1) + 1) (.inl (2, kx_ar 2 144))) a0 8 8 (.ref (((((((q + 1) + 1) + 1) + 1) + 1) + 1) + 1)) fun σ8 =>
  some (((((((((q + 1) + 1) + 1) + 1) + 1) + 1) + 1) + 1), σ8)
set_option maxRecDepth 100000 in
set_option maxHeartbeats 4000000 in
theorem k_X8_init {Λ : ex_L} {q : Nat} {σ σ' : ac_H} {a0 : Nat} {v : Nat} (hf : m_X8_init σ a0 q = some (v, σ')) : kx_C Λ yX8_init (.code yX8_init cX8_init 1 none) ({ frames := 1, cells := 8, slots := 1384, locals := 20 } : Room) [.ref a0] q σ (.inr none) σ' (fun z => z = v) := by
  refine kx_in (by decide +kernel) (Nat.le_of_ble_eq_true rfl) ?_
  intro Γ K hnm hsz hQ
  refine kx_lv (lv' := [(0, .ref a0)]) rfl ?_
  unfold m_X8_init at hf
  refine kx_aload_n K dX8_init_0 rfl 0 rfl ?_
  refine kx_oinit K w_325 w_8 w_9 (by decide) (by decide) dX8_init_1 ?_
  refine kx_aload_n K dX8_init_4 rfl 0 rfl ?_
  refine kx_bipush (v := 120) K dX8_init_5 (by decide) ?_
  refine kx_newa (kd := 0) (M := 120) (at9 := .int) K (by decide) rfl w_3 (by decide) (by decide) (by decide) (by decide) dX8_init_7 ?_
  refine kx_putF K f_X8_7 hnm rfl dX8_init_9 rfl rfl hf (fun σ1 hf => ?_)
  refine kx_aload_n K dX8_init_12 rfl 0 rfl ?_
  refine kx_bipush (v := 120) K dX8_init_13 (by decide) ?_
  refine kx_newa (kd := 0) (M := 120) (at9 := .int) K (by decide) rfl w_3 (by decide) (by decide) (by decide) (by decide) dX8_init_15 ?_
  refine kx_putF K f_X8_13 hnm rfl dX8_init_17 rfl rfl hf (fun σ2 hf => ?_)
  refine kx_aload_n K dX8_init_20 rfl 0 rfl ?_
  refine kx_bipush (v := 120) K dX8_init_21 (by decide) ?_
  refine kx_newa (kd := 0) (M := 120) (at9 := .int) K (by decide) rfl w_3 (by decide) (by decide) (by decide) (by decide) dX8_init_23 ?_
  refine kx_putF K f_X8_16 hnm rfl dX8_init_25 rfl rfl hf (fun σ3 hf => ?_)
  refine kx_aload_n K dX8_init_28 rfl 0 rfl ?_
  refine kx_bipush (v := 120) K dX8_init_29 (by decide) ?_
  refine kx_newa (kd := 0) (M := 120) (at9 := .int) K (by decide) rfl w_3 (by decide) (by decide) (by decide) (by decide) dX8_init_31 ?_
  refine kx_putF K f_X8_19 hnm rfl dX8_init_33 rfl rfl hf (fun σ4 hf => ?_)
  refine kx_aload_n K dX8_init_36 rfl 0 rfl ?_
  refine kx_bipush (v := 120) K dX8_init_37 (by decide) ?_
  refine kx_newa (kd := 0) (M := 120) (at9 := .int) K (by decide) rfl w_3 (by decide) (by decide) (by decide) (by decide) dX8_init_39 ?_
  refine kx_putF K f_X8_22 hnm rfl dX8_init_41 rfl rfl hf (fun σ5 hf => ?_)
  refine kx_aload_n K dX8_init_44 rfl 0 rfl ?_
  refine kx_sipush (v := 240) K dX8_init_45 (by decide) ?_
  refine kx_newa (kd := 0) (M := 240) (at9 := .int) K (by decide) rfl w_3 (by decide) (by decide) (by decide) (by decide) dX8_init_48 ?_
  refine kx_putF K f_X8_25 hnm rfl dX8_init_50 rfl rfl hf (fun σ6 hf => ?_)
  refine kx_aload_n K dX8_init_53 rfl 0 rfl ?_
  refine kx_sipush (v := 400) K dX8_init_54 (by decide) ?_
  refine kx_newa (kd := 2) (M := 400) (at9 := .boolean) K (by decide) rfl w_26 (by decide) (by decide) (by decide) (by decide) dX8_init_57 ?_
  refine kx_putF K f_X8_28 hnm rfl dX8_init_59 rfl rfl hf (fun σ7 hf => ?_)
  refine kx_aload_n K dX8_init_62 rfl 0 rfl ?_
  refine kx_sipush (v := 144) K dX8_init_63 (by decide) ?_
  refine kx_newa (kd := 2) (M := 144) (at9 := .boolean) K (by decide) rfl w_26 (by decide) (by decide) (by decide) (by decide) dX8_init_66 ?_
  refine kx_putF K f_X8_32 hnm rfl dX8_init_68 rfl rfl hf (fun σ8 hf => ?_)
  exact kx_vretZ K hQ (by decide) (by decide) dX8_init_71 hf
def m_X8_hasAll_l4  (a0 : Nat) : Nat → ac_H → Int32 → Int32 → Option (Int32 × ac_H)
  | 0, _, _, _ => none
  | n + 1, σ3, v1, v2 =>
    mo_gi σ3 a0 8 10 fun x4 =>
    if v2 < x4 then
    (mo_gr σ3 a0 8 6 fun x10 =>
    mo_ai σ3 x10 0 v2 fun x11 =>
    m_X8_hasAll_l4 a0 n σ3 (v1 ||| ((1 : Int32) <<< (x11 &&& 31))) (v2 + 1))
    else
    (mo_cs (m_J6_bitCount_0f7a4 σ3 v1) fun x6 σ5 =>
    mo_gr σ5 a0 8 0 fun x7 =>
    mo_gr σ5 x7 7 0 fun x8 =>
    mo_ai σ5 x8 0 (1 : Int32) fun x9 =>
    if x6 = x9 then
    (mo_z (1 : Int32) (some ((1 : Int32), σ5)))
    else
    (mo_z (0 : Int32) (some ((0 : Int32), σ5))))
def m_X8_hasAll (σ : ac_H) (a0 : Nat) : Option (Int32 × ac_H) :=
  m_X8_hasAll_l4 a0 hN_f σ (0 : Int32) (0 : Int32)
set_option maxRecDepth 100000 in
set_option maxHeartbeats 4000000 in
theorem k_X8_hasAll {Λ : ex_L} {q : Nat} {σ σ' : ac_H} {a0 : Nat} {v : Int32} (hf : m_X8_hasAll σ a0 = some (v, σ')) : kx_C Λ yX8_hasAll (.code yX8_hasAll cX8_hasAll 3 (some .boolean)) ({ frames := 1, cells := 0, slots := 0, locals := 20 } : Room) [.ref a0] q σ (.inr (some (.int v))) σ' (fun z => z = q) := by
  refine kx_in (by decide +kernel) (Nat.le_of_ble_eq_true rfl) ?_
  intro Γ K hnm hsz hQ
  refine kx_lv (lv' := [(0, .ref a0)]) rfl ?_
  have B4 : ∀ (n4 : Nat) (σ3 : ac_H) (v1 : Int32) (v2 : Int32), m_X8_hasAll_l4 a0 n4 σ3 v1 v2 = some (v, σ') → kx_S Λ Γ 3 (fun z => z = q) σ3 (0) (0) 4 [(0, .ref a0), (1, .int v1), (2, .int v2)] [] := by
    intro n4
    induction n4 with
    | zero =>
      intro σ3 v1 v2 hf
      rw [m_X8_hasAll_l4] at hf
      cases hf
    | succ n4 ih4 =>
      intro σ3 v1 v2 hf
      rw [m_X8_hasAll_l4] at hf
      refine kx_iload_n K dX8_hasAll_4 rfl 2 rfl ?_
      refine kx_aload_n K dX8_hasAll_5 rfl 0 rfl ?_
      refine kx_gi K f_X8_43 dX8_hasAll_6 hf (fun x4 hf => ?_)
      refine kx_icmp_ge K 29 hf dX8_hasAll_9 (by decide) (fun hf => ?_) (fun hf => ?_)
      · refine kx_iload_n K dX8_hasAll_29 rfl 1 rfl ?_
        refine kx_cs1i K c_X8_109 ⟨by decide, by decide, rfl, rfl, (by decide), (by decide)⟩ (Nat.le_of_ble_eq_true rfl) dX8_hasAll_30 hf (fun _ _ _ h => k_J6_bitCount_0f7a4 h) (fun x6 σ5 hf => ?_)
        refine kx_aload_n K dX8_hasAll_33 rfl 0 rfl ?_
        refine kx_gr K f_X8_35 dX8_hasAll_34 hf (fun x7 hf => ?_)
        refine kx_grN K fn_X8_68 dX8_hasAll_37 hf (fun x8 hf => ?_)
        refine kx_iconst (v := 1) K dX8_hasAll_40 (by decide) ?_
        refine kx_ai K dX8_hasAll_41 hf (fun x9 hf => ?_)
        refine kx_icmp_ne K 49 hf dX8_hasAll_42 (by decide) (fun hf => ?_) (fun hf => ?_)
        · refine kx_iconst (v := 0) K dX8_hasAll_49 (by decide) ?_
          exact kx_zret K hQ (by decide) (by decide) (fun _ h => h) dX8_hasAll_50 hf
        · refine kx_iconst (v := 1) K dX8_hasAll_45 (by decide) ?_
          refine kx_goto K 50 dX8_hasAll_46 (by decide) ?_
          exact kx_zret K hQ (by decide) (by decide) (fun _ h => h) dX8_hasAll_50 hf
      · refine kx_iload_n K dX8_hasAll_12 rfl 1 rfl ?_
        refine kx_iconst (v := 1) K dX8_hasAll_13 (by decide) ?_
        refine kx_aload_n K dX8_hasAll_14 rfl 0 rfl ?_
        refine kx_gr K f_X8_25 dX8_hasAll_15 hf (fun x10 hf => ?_)
        refine kx_iload_n K dX8_hasAll_18 rfl 2 rfl ?_
        refine kx_ai K dX8_hasAll_19 hf (fun x11 hf => ?_)
        refine kx_ishl K dX8_hasAll_20 ?_
        refine kx_ior K dX8_hasAll_21 ?_
        refine kx_istore_n K [(1, .int (v1 ||| ((1 : Int32) <<< (x11 &&& 31)))), (0, .ref a0), (2, .int v2)] dX8_hasAll_22 rfl (by decide) rfl ?_
        refine kx_iinc (v := (v2 + 1)) K [(2, .int (v2 + 1)), (1, .int (v1 ||| ((1 : Int32) <<< (x11 &&& 31)))), (0, .ref a0)] dX8_hasAll_23 2 rfl rfl (by decide) rfl ?_
        refine kx_goto K 4 dX8_hasAll_26 (by decide) ?_
        refine kx_sub [(0, .ref a0), (1, .int (v1 ||| ((1 : Int32) <<< (x11 &&& 31)))), (2, .int (v2 + 1))] [2, 1, 0] rfl ?_
        exact ih4 _ _ _ hf
  unfold m_X8_hasAll at hf
  refine kx_iconst (v := 0) K dX8_hasAll_0 (by decide) ?_
  refine kx_istore_n K [(1, .int (0 : Int32)), (0, .ref a0)] dX8_hasAll_1 rfl (by decide) rfl ?_
  refine kx_iconst (v := 0) K dX8_hasAll_2 (by decide) ?_
  refine kx_istore_n K [(2, .int (0 : Int32)), (1, .int (0 : Int32)), (0, .ref a0)] dX8_hasAll_3 rfl (by decide) rfl ?_
  refine kx_sub [(0, .ref a0), (1, .int (0 : Int32)), (2, .int (0 : Int32))] [2, 1, 0] rfl ?_
  exact B4 hN_f _ _ _ hf
def m_X8_send_j179  (a0 : Nat) (σ57 : ac_H) : Option (Unit × ac_H) :=
  mo_gr σ57 a0 8 5 fun x58 =>
  mo_gi σ57 a0 8 9 fun x59 =>
  mo_ai σ57 x58 0 x59 fun x60 =>
  if x60 < 0 then
  (mo_gi σ57 a0 8 9 fun x61 =>
  mo_pv σ57 a0 8 9 (.int (x61 + (1 : Int32))) fun σ62 =>
  some ((), σ62))
  else
  (mo_gr σ57 a0 8 7 fun x63 =>
  mo_gr σ57 a0 8 5 fun x64 =>
  mo_gi σ57 a0 8 9 fun x65 =>
  mo_ai σ57 x64 0 x65 fun x66 =>
  mo_ui σ57 x63 2 x66 (vp_nar .boolean (1 : Int32)) fun σ67 =>
  mo_gi σ67 a0 8 9 fun x68 =>
  mo_pv σ67 a0 8 9 (.int (x68 + (1 : Int32))) fun σ69 =>
  some ((), σ69))
def m_X8_send_j151  (a0 : Nat) (σ47 : ac_H) (w44 : Int32) (w45 : Int32) (w46 : Nat) : Option (Unit × ac_H) :=
  mo_ui σ47 w46 0 w45 w44 fun σ48 =>
  mo_gr σ48 a0 8 4 fun x49 =>
  mo_gi σ48 a0 8 9 fun x50 =>
  mo_ai σ48 x49 0 x50 fun x51 =>
  if x51 < 0 then
  (m_X8_send_j179 a0 σ48)
  else
  (mo_gr σ48 a0 8 7 fun x52 =>
  mo_gr σ48 a0 8 4 fun x53 =>
  mo_gi σ48 a0 8 9 fun x54 =>
  mo_ai σ48 x53 0 x54 fun x55 =>
  mo_ui σ48 x52 2 x55 (vp_nar .boolean (1 : Int32)) fun σ56 =>
  m_X8_send_j179 a0 σ56)
def m_X8_send_j97  (a0 : Nat) (σ29 : ac_H) (w26 : Int32) (w27 : Int32) (w28 : Nat) : Option (Unit × ac_H) :=
  mo_ui σ29 w28 0 w27 w26 fun σ30 =>
  mo_gr σ30 a0 8 5 fun x31 =>
  mo_gi σ30 a0 8 9 fun x32 =>
  mo_gr σ30 a0 8 0 fun x33 =>
  mo_gr σ30 x33 7 3 fun x34 =>
  mo_gi σ30 a0 8 9 fun x35 =>
  mo_ai σ30 x34 2 x35 fun x36 =>
  if x36 = 0 then
  (m_X8_send_j151 a0 σ30 (-1 : Int32) x32 x31)
  else
  (mo_gr σ30 a0 8 0 fun x37 =>
  mo_gr σ30 x37 7 2 fun x38 =>
  mo_gi σ30 a0 8 9 fun x39 =>
  mo_ai σ30 x38 2 x39 fun x40 =>
  if x40 = 0 then
  (mo_gr σ30 a0 8 4 fun x41 =>
  mo_gi σ30 a0 8 9 fun x42 =>
  mo_ai σ30 x41 0 x42 fun x43 =>
  m_X8_send_j151 a0 σ30 (x43 + (1 : Int32)) x32 x31)
  else
  (m_X8_send_j151 a0 σ30 (-1 : Int32) x32 x31))
def m_X8_send (σ : ac_H) (a0 : Nat) (a1 : Int32) (a2 : Int32) : Option (Unit × ac_H) :=
  mo_gi σ a0 8 9 fun x1 =>
  if x1 = (120 : Int32) then
  (some ((), σ))
  else
  (mo_gr σ a0 8 1 fun x2 =>
  mo_gi σ a0 8 9 fun x3 =>
  mo_gi σ a0 8 11 fun x4 =>
  mo_ui σ x2 0 x3 x4 fun σ5 =>
  mo_gr σ5 a0 8 2 fun x6 =>
  mo_gi σ5 a0 8 9 fun x7 =>
  mo_ui σ5 x6 0 x7 a1 fun σ8 =>
  mo_gr σ8 a0 8 3 fun x9 =>
  mo_gi σ8 a0 8 9 fun x10 =>
  mo_ui σ8 x9 0 x10 a2 fun σ11 =>
  mo_gr σ11 a0 8 4 fun x12 =>
  mo_gi σ11 a0 8 9 fun x13 =>
  mo_gr σ11 a0 8 0 fun x14 =>
  mo_gr σ11 x14 7 2 fun x15 =>
  mo_gi σ11 a0 8 9 fun x16 =>
  mo_ai σ11 x15 2 x16 fun x17 =>
  if x17 = 0 then
  (mo_gi σ11 a0 8 11 fun x18 =>
  mo_gr σ11 a0 8 0 fun x19 =>
  mo_gr σ11 x19 7 0 fun x20 =>
  mo_ai σ11 x20 0 (3 : Int32) fun x21 =>
  mo_gr σ11 a0 8 0 fun x22 =>
  mo_gr σ11 x22 7 1 fun x23 =>
  mo_gi σ11 a0 8 9 fun x24 =>
  mo_ai σ11 x23 0 x24 fun x25 =>
  m_X8_send_j97 a0 σ11 ((x18 + x21) + x25) x13 x12)
  else
  (m_X8_send_j97 a0 σ11 (-1 : Int32) x13 x12))
set_option maxRecDepth 100000 in
set_option maxHeartbeats 4000000 in
theorem k_X8_send {Λ : ex_L} {q : Nat} {σ σ' : ac_H} {a0 : Nat} {a1 : Int32} {a2 : Int32} {v : Unit} (hf : m_X8_send σ a0 a1 a2 = some (v, σ')) : kx_C Λ yX8_send (.code yX8_send cX8_send 3 none) ({ frames := 0, cells := 0, slots := 0, locals := 0 } : Room) [.ref a0, .int a1, .int a2] q σ (.inr none) σ' (fun z => z = q) := by
  refine kx_in (by decide +kernel) (Nat.le_of_ble_eq_true rfl) ?_
  intro Γ K hnm hsz hQ
  refine kx_lv (lv' := [(0, .ref a0), (1, .int a1), (2, .int a2)]) rfl ?_
  have B179 : ∀ (σ57 : ac_H), m_X8_send_j179 a0 σ57 = some (v, σ') → kx_S Λ Γ 3 (fun z => z = q) σ57 (0) (0) 179 [(0, .ref a0)] [] := by
    intro σ57 hf
    unfold m_X8_send_j179 at hf
    refine kx_aload_n K dX8_send_179 rfl 0 rfl ?_
    refine kx_gr K f_X8_22 dX8_send_180 hf (fun x58 hf => ?_)
    refine kx_aload_n K dX8_send_183 rfl 0 rfl ?_
    refine kx_gi K f_X8_39 dX8_send_184 hf (fun x59 hf => ?_)
    refine kx_ai K dX8_send_187 hf (fun x60 hf => ?_)
    refine kx_if_lt K 206 hf dX8_send_188 (by decide) (fun hf => ?_) (fun hf => ?_)
    · refine kx_aload_n K dX8_send_206 rfl 0 rfl ?_
      refine kx_dup K dX8_send_207 rfl ?_
      refine kx_gi K f_X8_39 dX8_send_208 hf (fun x61 hf => ?_)
      refine kx_iconst (v := 1) K dX8_send_211 (by decide) ?_
      refine kx_iadd K dX8_send_212 ?_
      refine kx_pi K f_X8_39 dX8_send_213 hf (fun σ62 hf => ?_)
      exact kx_vret K hQ (by decide) (by decide) (fun _ h => h) dX8_send_216 hf
    · refine kx_aload_n K dX8_send_191 rfl 0 rfl ?_
      refine kx_gr K f_X8_28 dX8_send_192 hf (fun x63 hf => ?_)
      refine kx_aload_n K dX8_send_195 rfl 0 rfl ?_
      refine kx_gr K f_X8_22 dX8_send_196 hf (fun x64 hf => ?_)
      refine kx_aload_n K dX8_send_199 rfl 0 rfl ?_
      refine kx_gi K f_X8_39 dX8_send_200 hf (fun x65 hf => ?_)
      refine kx_ai K dX8_send_203 hf (fun x66 hf => ?_)
      refine kx_iconst (v := 1) K dX8_send_204 (by decide) ?_
      refine kx_uz K dX8_send_205 hf (fun σ67 hf => ?_)
      refine kx_aload_n K dX8_send_206 rfl 0 rfl ?_
      refine kx_dup K dX8_send_207 rfl ?_
      refine kx_gi K f_X8_39 dX8_send_208 hf (fun x68 hf => ?_)
      refine kx_iconst (v := 1) K dX8_send_211 (by decide) ?_
      refine kx_iadd K dX8_send_212 ?_
      refine kx_pi K f_X8_39 dX8_send_213 hf (fun σ69 hf => ?_)
      exact kx_vret K hQ (by decide) (by decide) (fun _ h => h) dX8_send_216 hf
  have B151 : ∀ (σ47 : ac_H) (w44 : Int32) (w45 : Int32) (w46 : Nat), m_X8_send_j151 a0 σ47 w44 w45 w46 = some (v, σ') → kx_S Λ Γ 3 (fun z => z = q) σ47 (0) (0) 151 [(0, .ref a0)] [.int w44, .int w45, .ref w46] := by
    intro σ47 w44 w45 w46 hf
    unfold m_X8_send_j151 at hf
    refine kx_ui K dX8_send_151 hf (fun σ48 hf => ?_)
    refine kx_aload_n K dX8_send_152 rfl 0 rfl ?_
    refine kx_gr K f_X8_19 dX8_send_153 hf (fun x49 hf => ?_)
    refine kx_aload_n K dX8_send_156 rfl 0 rfl ?_
    refine kx_gi K f_X8_39 dX8_send_157 hf (fun x50 hf => ?_)
    refine kx_ai K dX8_send_160 hf (fun x51 hf => ?_)
    refine kx_if_lt K 179 hf dX8_send_161 (by decide) (fun hf => ?_) (fun hf => ?_)
    · refine kx_sub [(0, .ref a0)] [0] rfl ?_
      exact B179 _ hf
    · refine kx_aload_n K dX8_send_164 rfl 0 rfl ?_
      refine kx_gr K f_X8_28 dX8_send_165 hf (fun x52 hf => ?_)
      refine kx_aload_n K dX8_send_168 rfl 0 rfl ?_
      refine kx_gr K f_X8_19 dX8_send_169 hf (fun x53 hf => ?_)
      refine kx_aload_n K dX8_send_172 rfl 0 rfl ?_
      refine kx_gi K f_X8_39 dX8_send_173 hf (fun x54 hf => ?_)
      refine kx_ai K dX8_send_176 hf (fun x55 hf => ?_)
      refine kx_iconst (v := 1) K dX8_send_177 (by decide) ?_
      refine kx_uz K dX8_send_178 hf (fun σ56 hf => ?_)
      refine kx_sub [(0, .ref a0)] [0] rfl ?_
      exact B179 _ hf
  have B97 : ∀ (σ29 : ac_H) (w26 : Int32) (w27 : Int32) (w28 : Nat), m_X8_send_j97 a0 σ29 w26 w27 w28 = some (v, σ') → kx_S Λ Γ 3 (fun z => z = q) σ29 (0) (0) 97 [(0, .ref a0)] [.int w26, .int w27, .ref w28] := by
    intro σ29 w26 w27 w28 hf
    unfold m_X8_send_j97 at hf
    refine kx_ui K dX8_send_97 hf (fun σ30 hf => ?_)
    refine kx_aload_n K dX8_send_98 rfl 0 rfl ?_
    refine kx_gr K f_X8_22 dX8_send_99 hf (fun x31 hf => ?_)
    refine kx_aload_n K dX8_send_102 rfl 0 rfl ?_
    refine kx_gi K f_X8_39 dX8_send_103 hf (fun x32 hf => ?_)
    refine kx_aload_n K dX8_send_106 rfl 0 rfl ?_
    refine kx_gr K f_X8_35 dX8_send_107 hf (fun x33 hf => ?_)
    refine kx_grN K fn_X8_88 dX8_send_110 hf (fun x34 hf => ?_)
    refine kx_aload_n K dX8_send_113 rfl 0 rfl ?_
    refine kx_gi K f_X8_39 dX8_send_114 hf (fun x35 hf => ?_)
    refine kx_az K dX8_send_117 hf (fun x36 hf => ?_)
    refine kx_if_eq K 150 hf dX8_send_118 (by decide) (fun hf => ?_) (fun hf => ?_)
    · refine kx_iconst (v := -1) K dX8_send_150 (by decide) ?_
      refine kx_sub [(0, .ref a0)] [0] rfl ?_
      exact B151 _ _ _ _ hf
    · refine kx_aload_n K dX8_send_121 rfl 0 rfl ?_
      refine kx_gr K f_X8_35 dX8_send_122 hf (fun x37 hf => ?_)
      refine kx_grN K fn_X8_82 dX8_send_125 hf (fun x38 hf => ?_)
      refine kx_aload_n K dX8_send_128 rfl 0 rfl ?_
      refine kx_gi K f_X8_39 dX8_send_129 hf (fun x39 hf => ?_)
      refine kx_az K dX8_send_132 hf (fun x40 hf => ?_)
      refine kx_if_ne K 150 hf dX8_send_133 (by decide) (fun hf => ?_) (fun hf => ?_)
      · refine kx_iconst (v := -1) K dX8_send_150 (by decide) ?_
        refine kx_sub [(0, .ref a0)] [0] rfl ?_
        exact B151 _ _ _ _ hf
      · refine kx_aload_n K dX8_send_136 rfl 0 rfl ?_
        refine kx_gr K f_X8_19 dX8_send_137 hf (fun x41 hf => ?_)
        refine kx_aload_n K dX8_send_140 rfl 0 rfl ?_
        refine kx_gi K f_X8_39 dX8_send_141 hf (fun x42 hf => ?_)
        refine kx_ai K dX8_send_144 hf (fun x43 hf => ?_)
        refine kx_iconst (v := 1) K dX8_send_145 (by decide) ?_
        refine kx_iadd K dX8_send_146 ?_
        refine kx_goto K 151 dX8_send_147 (by decide) ?_
        refine kx_sub [(0, .ref a0)] [0] rfl ?_
        exact B151 _ _ _ _ hf
  unfold m_X8_send at hf
  refine kx_aload_n K dX8_send_0 rfl 0 rfl ?_
  refine kx_gi K f_X8_39 dX8_send_1 hf (fun x1 hf => ?_)
  refine kx_bipush (v := 120) K dX8_send_4 (by decide) ?_
  refine kx_icmp_ne K 10 hf dX8_send_6 (by decide) (fun hf => ?_) (fun hf => ?_)
  · refine kx_aload_n K dX8_send_10 rfl 0 rfl ?_
    refine kx_gr K f_X8_7 dX8_send_11 hf (fun x2 hf => ?_)
    refine kx_aload_n K dX8_send_14 rfl 0 rfl ?_
    refine kx_gi K f_X8_39 dX8_send_15 hf (fun x3 hf => ?_)
    refine kx_aload_n K dX8_send_18 rfl 0 rfl ?_
    refine kx_gi K f_X8_46 dX8_send_19 hf (fun x4 hf => ?_)
    refine kx_ui K dX8_send_22 hf (fun σ5 hf => ?_)
    refine kx_aload_n K dX8_send_23 rfl 0 rfl ?_
    refine kx_gr K f_X8_13 dX8_send_24 hf (fun x6 hf => ?_)
    refine kx_aload_n K dX8_send_27 rfl 0 rfl ?_
    refine kx_gi K f_X8_39 dX8_send_28 hf (fun x7 hf => ?_)
    refine kx_iload_n K dX8_send_31 rfl 1 rfl ?_
    refine kx_ui K dX8_send_32 hf (fun σ8 hf => ?_)
    refine kx_aload_n K dX8_send_33 rfl 0 rfl ?_
    refine kx_gr K f_X8_16 dX8_send_34 hf (fun x9 hf => ?_)
    refine kx_aload_n K dX8_send_37 rfl 0 rfl ?_
    refine kx_gi K f_X8_39 dX8_send_38 hf (fun x10 hf => ?_)
    refine kx_iload_n K dX8_send_41 rfl 2 rfl ?_
    refine kx_ui K dX8_send_42 hf (fun σ11 hf => ?_)
    refine kx_aload_n K dX8_send_43 rfl 0 rfl ?_
    refine kx_gr K f_X8_19 dX8_send_44 hf (fun x12 hf => ?_)
    refine kx_aload_n K dX8_send_47 rfl 0 rfl ?_
    refine kx_gi K f_X8_39 dX8_send_48 hf (fun x13 hf => ?_)
    refine kx_aload_n K dX8_send_51 rfl 0 rfl ?_
    refine kx_gr K f_X8_35 dX8_send_52 hf (fun x14 hf => ?_)
    refine kx_grN K fn_X8_82 dX8_send_55 hf (fun x15 hf => ?_)
    refine kx_aload_n K dX8_send_58 rfl 0 rfl ?_
    refine kx_gi K f_X8_39 dX8_send_59 hf (fun x16 hf => ?_)
    refine kx_az K dX8_send_62 hf (fun x17 hf => ?_)
    refine kx_if_eq K 70 hf dX8_send_63 (by decide) (fun hf => ?_) (fun hf => ?_)
    · refine kx_aload_n K dX8_send_70 rfl 0 rfl ?_
      refine kx_gi K f_X8_46 dX8_send_71 hf (fun x18 hf => ?_)
      refine kx_aload_n K dX8_send_74 rfl 0 rfl ?_
      refine kx_gr K f_X8_35 dX8_send_75 hf (fun x19 hf => ?_)
      refine kx_grN K fn_X8_68 dX8_send_78 hf (fun x20 hf => ?_)
      refine kx_iconst (v := 3) K dX8_send_81 (by decide) ?_
      refine kx_ai K dX8_send_82 hf (fun x21 hf => ?_)
      refine kx_iadd K dX8_send_83 ?_
      refine kx_aload_n K dX8_send_84 rfl 0 rfl ?_
      refine kx_gr K f_X8_35 dX8_send_85 hf (fun x22 hf => ?_)
      refine kx_grN K fn_X8_85 dX8_send_88 hf (fun x23 hf => ?_)
      refine kx_aload_n K dX8_send_91 rfl 0 rfl ?_
      refine kx_gi K f_X8_39 dX8_send_92 hf (fun x24 hf => ?_)
      refine kx_ai K dX8_send_95 hf (fun x25 hf => ?_)
      refine kx_iadd K dX8_send_96 ?_
      refine kx_sub [(0, .ref a0)] [0] rfl ?_
      exact B97 _ _ _ _ hf
    · refine kx_iconst (v := -1) K dX8_send_66 (by decide) ?_
      refine kx_goto K 97 dX8_send_67 (by decide) ?_
      refine kx_sub [(0, .ref a0)] [0] rfl ?_
      exact B97 _ _ _ _ hf
  · exact kx_vret K hQ (by decide) (by decide) (fun _ h => h) dX8_send_9 hf
def m_X8_data_j113  (a0 : Nat) (a1 : Int32) (σ34 : ac_H) (v33 : Int32) : Option (Unit × ac_H) :=
  mo_gr σ34 a0 8 0 fun x35 =>
  mo_gr σ34 x35 7 0 fun x36 =>
  mo_ai σ34 x36 0 (0 : Int32) fun x37 =>
  if 0 < x37 then
  (mo_gr σ34 a0 8 0 fun x38 =>
  mo_gr σ34 x38 7 0 fun x39 =>
  mo_ai σ34 x39 0 (0 : Int32) fun x40 =>
  if x40 = (1 : Int32) then
  (mo_rm a1 (2 : Int32) fun x44 =>
  mo_cv σ34 a0 8 (m_X8_send σ34 a0 (1 : Int32) x44) fun _ σ45 =>
  some ((), σ45))
  else
  (mo_gi σ34 a0 8 16 fun x41 =>
  mo_rm x41 v33 fun x42 =>
  mo_cv σ34 a0 8 (m_X8_send σ34 a0 (1 : Int32) x42) fun _ σ43 =>
  some ((), σ43)))
  else
  (some ((), σ34))
def m_X8_data_j91  (a0 : Nat) (a1 : Int32) (σ27 : ac_H) (v26 : Int32) : Option (Unit × ac_H) :=
  mo_gi σ27 a0 8 12 fun x28 =>
  if x28 < 0 then
  (mo_cv σ27 a0 8 (m_X8_hasAll σ27 a0) fun x30 σ29 =>
  if x30 = 0 then
  (m_X8_data_j113 a0 a1 σ29 v26)
  else
  (mo_gi σ29 a0 8 11 fun x31 =>
  mo_pv σ29 a0 8 12 (.int x31) fun σ32 =>
  m_X8_data_j113 a0 a1 σ32 v26))
  else
  (m_X8_data_j113 a0 a1 σ27 v26)
def m_X8_data_j52  (a0 : Nat) (a1 : Int32) (σ16 : ac_H) (v15 : Int32) : Option (Unit × ac_H) :=
  mo_gr σ16 a0 8 6 fun x17 =>
  mo_gi σ16 a0 8 10 fun x18 =>
  mo_pv σ16 a0 8 10 (.int (x18 + (1 : Int32))) fun σ19 =>
  mo_ui σ19 x17 0 x18 a1 fun σ20 =>
  mo_gr σ20 a0 8 0 fun x21 =>
  mo_gr σ20 x21 7 0 fun x22 =>
  mo_ai σ20 x22 0 (0 : Int32) fun x23 =>
  if 0 < x23 then
  (mo_gi σ20 a0 8 16 fun x24 =>
  mo_pv σ20 a0 8 16 (.int (x24 + (1 : Int32))) fun σ25 =>
  m_X8_data_j91 a0 a1 σ25 v15)
  else
  (m_X8_data_j91 a0 a1 σ20 v15)
def m_X8_data_j27  (a0 : Nat) (a1 : Int32) (σ8 : ac_H) (w7 : Int32) : Option (Unit × ac_H) :=
  mo_gr σ8 a0 8 0 fun x9 =>
  mo_gr σ8 x9 7 0 fun x10 =>
  mo_ai σ8 x10 0 (0 : Int32) fun x11 =>
  if x11 = 0 then
  (m_X8_data_j52 a0 a1 σ8 w7)
  else
  (mo_rm a1 w7 fun x12 =>
  mo_gi σ8 a0 8 16 fun x13 =>
  mo_rm x13 w7 fun x14 =>
  if x12 = x14 then
  (m_X8_data_j52 a0 a1 σ8 w7)
  else
  (m_X8_data_j113 a0 a1 σ8 w7))
def m_X8_data (σ : ac_H) (a0 : Nat) (a1 : Int32) : Option (Unit × ac_H) :=
  mo_gr σ a0 8 0 fun x1 =>
  mo_gr σ x1 7 0 fun x2 =>
  mo_ai σ x2 0 (0 : Int32) fun x3 =>
  if x3 = (1 : Int32) then
  (m_X8_data_j27 a0 a1 σ (2 : Int32))
  else
  (mo_gr σ a0 8 0 fun x4 =>
  mo_gr σ x4 7 0 fun x5 =>
  mo_ai σ x5 0 (6 : Int32) fun x6 =>
  m_X8_data_j27 a0 a1 σ x6)
set_option maxRecDepth 100000 in
set_option maxHeartbeats 4000000 in
theorem k_X8_data {Λ : ex_L} {q : Nat} {σ σ' : ac_H} {a0 : Nat} {a1 : Int32} {v : Unit} (hf : m_X8_data σ a0 a1 = some (v, σ')) : kx_C Λ yX8_data (.code yX8_data cX8_data 3 none) ({ frames := 2, cells := 0, slots := 0, locals := 42 } : Room) [.ref a0, .int a1] q σ (.inr none) σ' (fun z => z = q) := by
  refine kx_in (by decide +kernel) (Nat.le_of_ble_eq_true rfl) ?_
  intro Γ K hnm hsz hQ
  refine kx_lv (lv' := [(0, .ref a0), (1, .int a1)]) rfl ?_
  have B113 : ∀ (σ34 : ac_H) (v33 : Int32), m_X8_data_j113 a0 a1 σ34 v33 = some (v, σ') → kx_S Λ Γ 3 (fun z => z = q) σ34 (0) (0) 113 [(0, .ref a0), (1, .int a1), (2, .int v33)] [] := by
    intro σ34 v33 hf
    unfold m_X8_data_j113 at hf
    refine kx_aload_n K dX8_data_113 rfl 0 rfl ?_
    refine kx_gr K f_X8_35 dX8_data_114 hf (fun x35 hf => ?_)
    refine kx_grN K fn_X8_68 dX8_data_117 hf (fun x36 hf => ?_)
    refine kx_iconst (v := 0) K dX8_data_120 (by decide) ?_
    refine kx_ai K dX8_data_121 hf (fun x37 hf => ?_)
    refine kx_if_le K 155 hf dX8_data_122 (by decide) (fun hf => ?_) (fun hf => ?_)
    · exact kx_vret K hQ (by decide) (by decide) (fun _ h => h) dX8_data_155 hf
    · refine kx_aload_n K dX8_data_125 rfl 0 rfl ?_
      refine kx_iconst (v := 1) K dX8_data_126 (by decide) ?_
      refine kx_aload_n K dX8_data_127 rfl 0 rfl ?_
      refine kx_gr K f_X8_35 dX8_data_128 hf (fun x38 hf => ?_)
      refine kx_grN K fn_X8_68 dX8_data_131 hf (fun x39 hf => ?_)
      refine kx_iconst (v := 0) K dX8_data_134 (by decide) ?_
      refine kx_ai K dX8_data_135 hf (fun x40 hf => ?_)
      refine kx_iconst (v := 1) K dX8_data_136 (by decide) ?_
      refine kx_icmp_ne K 146 hf dX8_data_137 (by decide) (fun hf => ?_) (fun hf => ?_)
      · refine kx_aload_n K dX8_data_146 rfl 0 rfl ?_
        refine kx_gi K f_X8_61 dX8_data_147 hf (fun x41 hf => ?_)
        refine kx_iload_n K dX8_data_150 rfl 2 rfl ?_
        refine kx_irem K dX8_data_151 hf (fun x42 hf => ?_)
        refine kx_cv2v K c_X8_98 ⟨by decide, by decide, rfl, rfl, (by decide), (by decide)⟩ (Nat.le_of_ble_eq_true rfl) dX8_data_152 hf (fun _ _ _ h => k_X8_send h) (fun _ σ43 hf => ?_)
        exact kx_vret K hQ (by decide) (by decide) (fun _ h => h) dX8_data_155 hf
      · refine kx_iload_n K dX8_data_140 rfl 1 rfl ?_
        refine kx_iconst (v := 2) K dX8_data_141 (by decide) ?_
        refine kx_irem K dX8_data_142 hf (fun x44 hf => ?_)
        refine kx_goto K 152 dX8_data_143 (by decide) ?_
        refine kx_cv2v K c_X8_98 ⟨by decide, by decide, rfl, rfl, (by decide), (by decide)⟩ (Nat.le_of_ble_eq_true rfl) dX8_data_152 hf (fun _ _ _ h => k_X8_send h) (fun _ σ45 hf => ?_)
        exact kx_vret K hQ (by decide) (by decide) (fun _ h => h) dX8_data_155 hf
  have B91 : ∀ (σ27 : ac_H) (v26 : Int32), m_X8_data_j91 a0 a1 σ27 v26 = some (v, σ') → kx_S Λ Γ 3 (fun z => z = q) σ27 (0) (0) 91 [(0, .ref a0), (1, .int a1), (2, .int v26)] [] := by
    intro σ27 v26 hf
    unfold m_X8_data_j91 at hf
    refine kx_aload_n K dX8_data_91 rfl 0 rfl ?_
    refine kx_gi K f_X8_49 dX8_data_92 hf (fun x28 hf => ?_)
    refine kx_if_ge K 113 hf dX8_data_95 (by decide) (fun hf => ?_) (fun hf => ?_)
    · refine kx_sub [(0, .ref a0), (1, .int a1), (2, .int v26)] [0, 1, 2] rfl ?_
      exact B113 _ _ hf
    · refine kx_aload_n K dX8_data_98 rfl 0 rfl ?_
      refine kx_cv0i K c_X8_105 ⟨by decide, by decide, rfl, rfl, (by decide), (by decide)⟩ (Nat.le_of_ble_eq_true rfl) dX8_data_99 hf (fun _ _ _ h => k_X8_hasAll h) (fun x30 σ29 hf => ?_)
      refine kx_if_eq K 113 hf dX8_data_102 (by decide) (fun hf => ?_) (fun hf => ?_)
      · refine kx_sub [(0, .ref a0), (1, .int a1), (2, .int v26)] [0, 1, 2] rfl ?_
        exact B113 _ _ hf
      · refine kx_aload_n K dX8_data_105 rfl 0 rfl ?_
        refine kx_aload_n K dX8_data_106 rfl 0 rfl ?_
        refine kx_gi K f_X8_46 dX8_data_107 hf (fun x31 hf => ?_)
        refine kx_pi K f_X8_49 dX8_data_110 hf (fun σ32 hf => ?_)
        refine kx_sub [(0, .ref a0), (1, .int a1), (2, .int v26)] [0, 1, 2] rfl ?_
        exact B113 _ _ hf
  have B52 : ∀ (σ16 : ac_H) (v15 : Int32), m_X8_data_j52 a0 a1 σ16 v15 = some (v, σ') → kx_S Λ Γ 3 (fun z => z = q) σ16 (0) (0) 52 [(0, .ref a0), (1, .int a1), (2, .int v15)] [] := by
    intro σ16 v15 hf
    unfold m_X8_data_j52 at hf
    refine kx_aload_n K dX8_data_52 rfl 0 rfl ?_
    refine kx_gr K f_X8_25 dX8_data_53 hf (fun x17 hf => ?_)
    refine kx_aload_n K dX8_data_56 rfl 0 rfl ?_
    refine kx_dup K dX8_data_57 rfl ?_
    refine kx_gi K f_X8_43 dX8_data_58 hf (fun x18 hf => ?_)
    refine kx_dup_x1 K dX8_data_61 rfl rfl ?_
    refine kx_iconst (v := 1) K dX8_data_62 (by decide) ?_
    refine kx_iadd K dX8_data_63 ?_
    refine kx_pi K f_X8_43 dX8_data_64 hf (fun σ19 hf => ?_)
    refine kx_iload_n K dX8_data_67 rfl 1 rfl ?_
    refine kx_ui K dX8_data_68 hf (fun σ20 hf => ?_)
    refine kx_aload_n K dX8_data_69 rfl 0 rfl ?_
    refine kx_gr K f_X8_35 dX8_data_70 hf (fun x21 hf => ?_)
    refine kx_grN K fn_X8_68 dX8_data_73 hf (fun x22 hf => ?_)
    refine kx_iconst (v := 0) K dX8_data_76 (by decide) ?_
    refine kx_ai K dX8_data_77 hf (fun x23 hf => ?_)
    refine kx_if_le K 91 hf dX8_data_78 (by decide) (fun hf => ?_) (fun hf => ?_)
    · refine kx_sub [(0, .ref a0), (1, .int a1), (2, .int v15)] [0, 1, 2] rfl ?_
      exact B91 _ _ hf
    · refine kx_aload_n K dX8_data_81 rfl 0 rfl ?_
      refine kx_dup K dX8_data_82 rfl ?_
      refine kx_gi K f_X8_61 dX8_data_83 hf (fun x24 hf => ?_)
      refine kx_iconst (v := 1) K dX8_data_86 (by decide) ?_
      refine kx_iadd K dX8_data_87 ?_
      refine kx_pi K f_X8_61 dX8_data_88 hf (fun σ25 hf => ?_)
      refine kx_sub [(0, .ref a0), (1, .int a1), (2, .int v15)] [0, 1, 2] rfl ?_
      exact B91 _ _ hf
  have B27 : ∀ (σ8 : ac_H) (w7 : Int32), m_X8_data_j27 a0 a1 σ8 w7 = some (v, σ') → kx_S Λ Γ 3 (fun z => z = q) σ8 (0) (0) 27 [(0, .ref a0), (1, .int a1)] [.int w7] := by
    intro σ8 w7 hf
    unfold m_X8_data_j27 at hf
    refine kx_istore_n K [(2, .int w7), (0, .ref a0), (1, .int a1)] dX8_data_27 rfl (by decide) rfl ?_
    refine kx_aload_n K dX8_data_28 rfl 1 rfl ?_
    refine kx_gr K f_X8_35 dX8_data_29 hf (fun x9 hf => ?_)
    refine kx_grN K fn_X8_68 dX8_data_32 hf (fun x10 hf => ?_)
    refine kx_iconst (v := 0) K dX8_data_35 (by decide) ?_
    refine kx_ai K dX8_data_36 hf (fun x11 hf => ?_)
    refine kx_if_eq K 52 hf dX8_data_37 (by decide) (fun hf => ?_) (fun hf => ?_)
    · refine kx_sub [(0, .ref a0), (1, .int a1), (2, .int w7)] [1, 2, 0] rfl ?_
      exact B52 _ _ hf
    · refine kx_iload_n K dX8_data_40 rfl 2 rfl ?_
      refine kx_iload_n K dX8_data_41 rfl 0 rfl ?_
      refine kx_irem K dX8_data_42 hf (fun x12 hf => ?_)
      refine kx_aload_n K dX8_data_43 rfl 1 rfl ?_
      refine kx_gi K f_X8_61 dX8_data_44 hf (fun x13 hf => ?_)
      refine kx_iload_n K dX8_data_47 rfl 0 rfl ?_
      refine kx_irem K dX8_data_48 hf (fun x14 hf => ?_)
      refine kx_icmp_ne K 113 hf dX8_data_49 (by decide) (fun hf => ?_) (fun hf => ?_)
      · refine kx_sub [(0, .ref a0), (1, .int a1), (2, .int w7)] [1, 2, 0] rfl ?_
        exact B113 _ _ hf
      · refine kx_sub [(0, .ref a0), (1, .int a1), (2, .int w7)] [1, 2, 0] rfl ?_
        exact B52 _ _ hf
  unfold m_X8_data at hf
  refine kx_aload_n K dX8_data_0 rfl 0 rfl ?_
  refine kx_gr K f_X8_35 dX8_data_1 hf (fun x1 hf => ?_)
  refine kx_grN K fn_X8_68 dX8_data_4 hf (fun x2 hf => ?_)
  refine kx_iconst (v := 0) K dX8_data_7 (by decide) ?_
  refine kx_ai K dX8_data_8 hf (fun x3 hf => ?_)
  refine kx_iconst (v := 1) K dX8_data_9 (by decide) ?_
  refine kx_icmp_ne K 17 hf dX8_data_10 (by decide) (fun hf => ?_) (fun hf => ?_)
  · refine kx_aload_n K dX8_data_17 rfl 0 rfl ?_
    refine kx_gr K f_X8_35 dX8_data_18 hf (fun x4 hf => ?_)
    refine kx_grN K fn_X8_68 dX8_data_21 hf (fun x5 hf => ?_)
    refine kx_bipush (v := 6) K dX8_data_24 (by decide) ?_
    refine kx_ai K dX8_data_26 hf (fun x6 hf => ?_)
    refine kx_sub [(0, .ref a0), (1, .int a1)] [0, 1] rfl ?_
    exact B27 _ _ hf
  · refine kx_iconst (v := 2) K dX8_data_13 (by decide) ?_
    refine kx_goto K 27 dX8_data_14 (by decide) ?_
    refine kx_sub [(0, .ref a0), (1, .int a1)] [0, 1] rfl ?_
    exact B27 _ _ hf
def m_X8_answer_j98  (a0 : Nat) (σ22 : ac_H) (v21 : Int32) : Option (Unit × ac_H) :=
  mo_gi σ22 a0 8 14 fun x23 =>
  mo_gi σ22 a0 8 13 fun x24 =>
  if (x23 - x24) < v21 then
  (some ((), σ22))
  else
  (mo_gi σ22 a0 8 13 fun x25 =>
  mo_pv σ22 a0 8 13 (.int (x25 + v21)) fun σ26 =>
  mo_gi σ26 a0 8 11 fun x27 =>
  mo_pv σ26 a0 8 15 (.int x27) fun σ28 =>
  some ((), σ28))
def m_X8_answer_l58  (a0 : Nat) (a1 : Int32) : Nat → ac_H → Int32 → Option (Unit × ac_H)
  | 0, _, _ => none
  | n + 1, σ13, v12 =>
    mo_gi σ13 a0 8 14 fun x14 =>
    mo_gi σ13 a0 8 13 fun x15 =>
    if (x14 - x15) < v12 then
    (m_X8_answer_j98 a0 σ13 v12)
    else
    (mo_gi σ13 a0 8 13 fun x16 =>
    mo_gr σ13 a0 8 0 fun x17 =>
    mo_gr σ13 x17 7 0 fun x18 =>
    mo_ai σ13 x18 0 (6 : Int32) fun x19 =>
    mo_rm (x16 + v12) x19 fun x20 =>
    if x20 = a1 then
    (m_X8_answer_j98 a0 σ13 v12)
    else
    (m_X8_answer_l58 a0 a1 n σ13 (v12 + 1)))
def m_X8_answer (σ : ac_H) (a0 : Nat) (a1 : Int32) : Option (Unit × ac_H) :=
  mo_gr σ a0 8 0 fun x1 =>
  mo_gr σ x1 7 0 fun x2 =>
  mo_ai σ x2 0 (0 : Int32) fun x3 =>
  if x3 = (1 : Int32) then
  (mo_gi σ a0 8 13 fun x4 =>
  mo_gr σ a0 8 0 fun x5 =>
  mo_gr σ x5 7 0 fun x6 =>
  mo_ai σ x6 0 (1 : Int32) fun x7 =>
  if x4 = x7 then
  (some ((), σ))
  else
  (mo_gi σ a0 8 13 fun x8 =>
  if a1 = (x8 &&& (1 : Int32)) then
  (mo_gi σ a0 8 13 fun x9 =>
  mo_pv σ a0 8 13 (.int (x9 + (1 : Int32))) fun σ10 =>
  mo_z (1 : Int32) <| mo_pv σ10 a0 8 17 (.int (1 : Int32)) fun σ11 =>
  some ((), σ11))
  else
  (some ((), σ))))
  else
  (m_X8_answer_l58 a0 a1 hN_f σ (1 : Int32))
set_option maxRecDepth 100000 in
set_option maxHeartbeats 4000000 in
theorem k_X8_answer {Λ : ex_L} {q : Nat} {σ σ' : ac_H} {a0 : Nat} {a1 : Int32} {v : Unit} (hf : m_X8_answer σ a0 a1 = some (v, σ')) : kx_C Λ yX8_answer (.code yX8_answer cX8_answer 3 none) ({ frames := 0, cells := 0, slots := 0, locals := 0 } : Room) [.ref a0, .int a1] q σ (.inr none) σ' (fun z => z = q) := by
  refine kx_in (by decide +kernel) (Nat.le_of_ble_eq_true rfl) ?_
  intro Γ K hnm hsz hQ
  refine kx_lv (lv' := [(0, .ref a0), (1, .int a1)]) rfl ?_
  have B98 : ∀ (σ22 : ac_H) (v21 : Int32), m_X8_answer_j98 a0 σ22 v21 = some (v, σ') → kx_S Λ Γ 3 (fun z => z = q) σ22 (0) (0) 98 [(0, .ref a0), (2, .int v21)] [] := by
    intro σ22 v21 hf
    unfold m_X8_answer_j98 at hf
    refine kx_iload_n K dX8_answer_98 rfl 1 rfl ?_
    refine kx_aload_n K dX8_answer_99 rfl 0 rfl ?_
    refine kx_gi K f_X8_55 dX8_answer_100 hf (fun x23 hf => ?_)
    refine kx_aload_n K dX8_answer_103 rfl 0 rfl ?_
    refine kx_gi K f_X8_52 dX8_answer_104 hf (fun x24 hf => ?_)
    refine kx_isub K dX8_answer_107 ?_
    refine kx_icmp_le K 112 hf dX8_answer_108 (by decide) (fun hf => ?_) (fun hf => ?_)
    · refine kx_aload_n K dX8_answer_112 rfl 0 rfl ?_
      refine kx_dup K dX8_answer_113 rfl ?_
      refine kx_gi K f_X8_52 dX8_answer_114 hf (fun x25 hf => ?_)
      refine kx_iload_n K dX8_answer_117 rfl 1 rfl ?_
      refine kx_iadd K dX8_answer_118 ?_
      refine kx_pi K f_X8_52 dX8_answer_119 hf (fun σ26 hf => ?_)
      refine kx_aload_n K dX8_answer_122 rfl 0 rfl ?_
      refine kx_aload_n K dX8_answer_123 rfl 0 rfl ?_
      refine kx_gi K f_X8_46 dX8_answer_124 hf (fun x27 hf => ?_)
      refine kx_pi K f_X8_58 dX8_answer_127 hf (fun σ28 hf => ?_)
      exact kx_vret K hQ (by decide) (by decide) (fun _ h => h) dX8_answer_130 hf
    · exact kx_vret K hQ (by decide) (by decide) (fun _ h => h) dX8_answer_111 hf
  have B58 : ∀ (n58 : Nat) (σ13 : ac_H) (v12 : Int32), m_X8_answer_l58 a0 a1 n58 σ13 v12 = some (v, σ') → kx_S Λ Γ 3 (fun z => z = q) σ13 (0) (0) 58 [(0, .ref a0), (1, .int a1), (2, .int v12)] [] := by
    intro n58
    induction n58 with
    | zero =>
      intro σ13 v12 hf
      rw [m_X8_answer_l58] at hf
      cases hf
    | succ n58 ih58 =>
      intro σ13 v12 hf
      rw [m_X8_answer_l58] at hf
      refine kx_iload_n K dX8_answer_58 rfl 2 rfl ?_
      refine kx_aload_n K dX8_answer_59 rfl 0 rfl ?_
      refine kx_gi K f_X8_55 dX8_answer_60 hf (fun x14 hf => ?_)
      refine kx_aload_n K dX8_answer_63 rfl 0 rfl ?_
      refine kx_gi K f_X8_52 dX8_answer_64 hf (fun x15 hf => ?_)
      refine kx_isub K dX8_answer_67 ?_
      refine kx_icmp_gt K 98 hf dX8_answer_68 (by decide) (fun hf => ?_) (fun hf => ?_)
      · refine kx_sub [(0, .ref a0), (2, .int v12)] [0, 2] rfl ?_
        exact B98 _ _ hf
      · refine kx_aload_n K dX8_answer_71 rfl 0 rfl ?_
        refine kx_gi K f_X8_52 dX8_answer_72 hf (fun x16 hf => ?_)
        refine kx_iload_n K dX8_answer_75 rfl 2 rfl ?_
        refine kx_iadd K dX8_answer_76 ?_
        refine kx_aload_n K dX8_answer_77 rfl 0 rfl ?_
        refine kx_gr K f_X8_35 dX8_answer_78 hf (fun x17 hf => ?_)
        refine kx_grN K fn_X8_68 dX8_answer_81 hf (fun x18 hf => ?_)
        refine kx_bipush (v := 6) K dX8_answer_84 (by decide) ?_
        refine kx_ai K dX8_answer_86 hf (fun x19 hf => ?_)
        refine kx_irem K dX8_answer_87 hf (fun x20 hf => ?_)
        refine kx_iload_n K dX8_answer_88 rfl 1 rfl ?_
        refine kx_icmp_eq K 98 hf dX8_answer_89 (by decide) (fun hf => ?_) (fun hf => ?_)
        · refine kx_sub [(0, .ref a0), (2, .int v12)] [0, 2] rfl ?_
          exact B98 _ _ hf
        · refine kx_iinc (v := (v12 + 1)) K [(2, .int (v12 + 1)), (0, .ref a0), (1, .int a1)] dX8_answer_92 2 rfl rfl (by decide) rfl ?_
          refine kx_goto K 58 dX8_answer_95 (by decide) ?_
          refine kx_sub [(0, .ref a0), (1, .int a1), (2, .int (v12 + 1))] [1, 2, 0] rfl ?_
          exact ih58 _ _ hf
  unfold m_X8_answer at hf
  refine kx_aload_n K dX8_answer_0 rfl 0 rfl ?_
  refine kx_gr K f_X8_35 dX8_answer_1 hf (fun x1 hf => ?_)
  refine kx_grN K fn_X8_68 dX8_answer_4 hf (fun x2 hf => ?_)
  refine kx_iconst (v := 0) K dX8_answer_7 (by decide) ?_
  refine kx_ai K dX8_answer_8 hf (fun x3 hf => ?_)
  refine kx_iconst (v := 1) K dX8_answer_9 (by decide) ?_
  refine kx_icmp_ne K 56 hf dX8_answer_10 (by decide) (fun hf => ?_) (fun hf => ?_)
  · refine kx_iconst (v := 1) K dX8_answer_56 (by decide) ?_
    refine kx_istore_n K [(2, .int (1 : Int32)), (0, .ref a0), (1, .int a1)] dX8_answer_57 rfl (by decide) rfl ?_
    refine kx_sub [(0, .ref a0), (1, .int a1), (2, .int (1 : Int32))] [1, 2, 0] rfl ?_
    exact B58 hN_f _ _ hf
  · refine kx_aload_n K dX8_answer_13 rfl 0 rfl ?_
    refine kx_gi K f_X8_52 dX8_answer_14 hf (fun x4 hf => ?_)
    refine kx_aload_n K dX8_answer_17 rfl 0 rfl ?_
    refine kx_gr K f_X8_35 dX8_answer_18 hf (fun x5 hf => ?_)
    refine kx_grN K fn_X8_68 dX8_answer_21 hf (fun x6 hf => ?_)
    refine kx_iconst (v := 1) K dX8_answer_24 (by decide) ?_
    refine kx_ai K dX8_answer_25 hf (fun x7 hf => ?_)
    refine kx_icmp_eq K 39 hf dX8_answer_26 (by decide) (fun hf => ?_) (fun hf => ?_)
    · exact kx_vret K hQ (by decide) (by decide) (fun _ h => h) dX8_answer_39 hf
    · refine kx_iload_n K dX8_answer_29 rfl 1 rfl ?_
      refine kx_aload_n K dX8_answer_30 rfl 0 rfl ?_
      refine kx_gi K f_X8_52 dX8_answer_31 hf (fun x8 hf => ?_)
      refine kx_iconst (v := 1) K dX8_answer_34 (by decide) ?_
      refine kx_iand K dX8_answer_35 ?_
      refine kx_icmp_eq K 40 hf dX8_answer_36 (by decide) (fun hf => ?_) (fun hf => ?_)
      · refine kx_aload_n K dX8_answer_40 rfl 0 rfl ?_
        refine kx_dup K dX8_answer_41 rfl ?_
        refine kx_gi K f_X8_52 dX8_answer_42 hf (fun x9 hf => ?_)
        refine kx_iconst (v := 1) K dX8_answer_45 (by decide) ?_
        refine kx_iadd K dX8_answer_46 ?_
        refine kx_pi K f_X8_52 dX8_answer_47 hf (fun σ10 hf => ?_)
        refine kx_aload_n K dX8_answer_50 rfl 0 rfl ?_
        refine kx_iconst (v := 1) K dX8_answer_51 (by decide) ?_
        refine kx_pz K f_X8_64 dX8_answer_52 hf (fun σ11 hf => ?_)
        exact kx_vret K hQ (by decide) (by decide) (fun _ h => h) dX8_answer_55 hf
      · exact kx_vret K hQ (by decide) (by decide) (fun _ h => h) dX8_answer_39 hf
def m_X8_window_j48  (a0 : Nat) (σ12 : ac_H) : Option (Unit × ac_H) :=
  mo_gi σ12 a0 8 14 fun x13 =>
  mo_gi σ12 a0 8 13 fun x14 =>
  mo_gr σ12 a0 8 0 fun x15 =>
  mo_gr σ12 x15 7 0 fun x16 =>
  mo_ai σ12 x16 0 (5 : Int32) fun x17 =>
  if x13 < (x14 + x17) then
  (mo_gi σ12 a0 8 14 fun x18 =>
  mo_gr σ12 a0 8 0 fun x19 =>
  mo_gr σ12 x19 7 0 fun x20 =>
  mo_ai σ12 x20 0 (1 : Int32) fun x21 =>
  if x18 < x21 then
  (mo_gi σ12 a0 8 14 fun x22 =>
  mo_cv σ12 a0 8 (m_X8_send σ12 a0 (0 : Int32) x22) fun _ σ23 =>
  mo_gi σ23 a0 8 14 fun x24 =>
  mo_gi σ23 a0 8 13 fun x25 =>
  if x24 = x25 then
  (mo_gi σ23 a0 8 11 fun x28 =>
  mo_pv σ23 a0 8 15 (.int x28) fun σ29 =>
  mo_gi σ29 a0 8 14 fun x30 =>
  mo_pv σ29 a0 8 14 (.int (x30 + (1 : Int32))) fun σ31 =>
  some ((), σ31))
  else
  (mo_gi σ23 a0 8 14 fun x26 =>
  mo_pv σ23 a0 8 14 (.int (x26 + (1 : Int32))) fun σ27 =>
  some ((), σ27)))
  else
  (some ((), σ12)))
  else
  (some ((), σ12))
def m_X8_window (σ : ac_H) (a0 : Nat) : Option (Unit × ac_H) :=
  mo_gi σ a0 8 13 fun x1 =>
  mo_gi σ a0 8 14 fun x2 =>
  if x1 < x2 then
  (mo_gi σ a0 8 11 fun x3 =>
  mo_gi σ a0 8 15 fun x4 =>
  mo_gr σ a0 8 0 fun x5 =>
  mo_gr σ x5 7 0 fun x6 =>
  mo_ai σ x6 0 (4 : Int32) fun x7 =>
  if (x3 - x4) < x7 then
  (m_X8_window_j48 a0 σ)
  else
  (mo_gi σ a0 8 11 fun x8 =>
  mo_pv σ a0 8 15 (.int x8) fun σ9 =>
  mo_gi σ9 a0 8 13 fun x10 =>
  mo_pv σ9 a0 8 14 (.int x10) fun σ11 =>
  m_X8_window_j48 a0 σ11))
  else
  (m_X8_window_j48 a0 σ)
set_option maxRecDepth 100000 in
set_option maxHeartbeats 4000000 in
theorem k_X8_window {Λ : ex_L} {q : Nat} {σ σ' : ac_H} {a0 : Nat} {v : Unit} (hf : m_X8_window σ a0 = some (v, σ')) : kx_C Λ yX8_window (.code yX8_window cX8_window 1 none) ({ frames := 1, cells := 0, slots := 0, locals := 22 } : Room) [.ref a0] q σ (.inr none) σ' (fun z => z = q) := by
  refine kx_in (by decide +kernel) (Nat.le_of_ble_eq_true rfl) ?_
  intro Γ K hnm hsz hQ
  refine kx_lv (lv' := [(0, .ref a0)]) rfl ?_
  have B48 : ∀ (σ12 : ac_H), m_X8_window_j48 a0 σ12 = some (v, σ') → kx_S Λ Γ 1 (fun z => z = q) σ12 (0) (0) 48 [(0, .ref a0)] [] := by
    intro σ12 hf
    unfold m_X8_window_j48 at hf
    refine kx_aload_n K dX8_window_48 rfl 0 rfl ?_
    refine kx_gi K f_X8_55 dX8_window_49 hf (fun x13 hf => ?_)
    refine kx_aload_n K dX8_window_52 rfl 0 rfl ?_
    refine kx_gi K f_X8_52 dX8_window_53 hf (fun x14 hf => ?_)
    refine kx_aload_n K dX8_window_56 rfl 0 rfl ?_
    refine kx_gr K f_X8_35 dX8_window_57 hf (fun x15 hf => ?_)
    refine kx_grN K fn_X8_68 dX8_window_60 hf (fun x16 hf => ?_)
    refine kx_iconst (v := 5) K dX8_window_63 (by decide) ?_
    refine kx_ai K dX8_window_64 hf (fun x17 hf => ?_)
    refine kx_iadd K dX8_window_65 ?_
    refine kx_icmp_ge K 85 hf dX8_window_66 (by decide) (fun hf => ?_) (fun hf => ?_)
    · exact kx_vret K hQ (by decide) (by decide) (fun _ h => h) dX8_window_85 hf
    · refine kx_aload_n K dX8_window_69 rfl 0 rfl ?_
      refine kx_gi K f_X8_55 dX8_window_70 hf (fun x18 hf => ?_)
      refine kx_aload_n K dX8_window_73 rfl 0 rfl ?_
      refine kx_gr K f_X8_35 dX8_window_74 hf (fun x19 hf => ?_)
      refine kx_grN K fn_X8_68 dX8_window_77 hf (fun x20 hf => ?_)
      refine kx_iconst (v := 1) K dX8_window_80 (by decide) ?_
      refine kx_ai K dX8_window_81 hf (fun x21 hf => ?_)
      refine kx_icmp_lt K 86 hf dX8_window_82 (by decide) (fun hf => ?_) (fun hf => ?_)
      · refine kx_aload_n K dX8_window_86 rfl 0 rfl ?_
        refine kx_iconst (v := 0) K dX8_window_87 (by decide) ?_
        refine kx_aload_n K dX8_window_88 rfl 0 rfl ?_
        refine kx_gi K f_X8_55 dX8_window_89 hf (fun x22 hf => ?_)
        refine kx_cv2v K c_X8_98 ⟨by decide, by decide, rfl, rfl, (by decide), (by decide)⟩ (Nat.le_of_ble_eq_true rfl) dX8_window_92 hf (fun _ _ _ h => k_X8_send h) (fun _ σ23 hf => ?_)
        refine kx_aload_n K dX8_window_95 rfl 0 rfl ?_
        refine kx_gi K f_X8_55 dX8_window_96 hf (fun x24 hf => ?_)
        refine kx_aload_n K dX8_window_99 rfl 0 rfl ?_
        refine kx_gi K f_X8_52 dX8_window_100 hf (fun x25 hf => ?_)
        refine kx_icmp_ne K 114 hf dX8_window_103 (by decide) (fun hf => ?_) (fun hf => ?_)
        · refine kx_aload_n K dX8_window_114 rfl 0 rfl ?_
          refine kx_dup K dX8_window_115 rfl ?_
          refine kx_gi K f_X8_55 dX8_window_116 hf (fun x26 hf => ?_)
          refine kx_iconst (v := 1) K dX8_window_119 (by decide) ?_
          refine kx_iadd K dX8_window_120 ?_
          refine kx_pi K f_X8_55 dX8_window_121 hf (fun σ27 hf => ?_)
          exact kx_vret K hQ (by decide) (by decide) (fun _ h => h) dX8_window_124 hf
        · refine kx_aload_n K dX8_window_106 rfl 0 rfl ?_
          refine kx_aload_n K dX8_window_107 rfl 0 rfl ?_
          refine kx_gi K f_X8_46 dX8_window_108 hf (fun x28 hf => ?_)
          refine kx_pi K f_X8_58 dX8_window_111 hf (fun σ29 hf => ?_)
          refine kx_aload_n K dX8_window_114 rfl 0 rfl ?_
          refine kx_dup K dX8_window_115 rfl ?_
          refine kx_gi K f_X8_55 dX8_window_116 hf (fun x30 hf => ?_)
          refine kx_iconst (v := 1) K dX8_window_119 (by decide) ?_
          refine kx_iadd K dX8_window_120 ?_
          refine kx_pi K f_X8_55 dX8_window_121 hf (fun σ31 hf => ?_)
          exact kx_vret K hQ (by decide) (by decide) (fun _ h => h) dX8_window_124 hf
      · exact kx_vret K hQ (by decide) (by decide) (fun _ h => h) dX8_window_85 hf
  unfold m_X8_window at hf
  refine kx_aload_n K dX8_window_0 rfl 0 rfl ?_
  refine kx_gi K f_X8_52 dX8_window_1 hf (fun x1 hf => ?_)
  refine kx_aload_n K dX8_window_4 rfl 0 rfl ?_
  refine kx_gi K f_X8_55 dX8_window_5 hf (fun x2 hf => ?_)
  refine kx_icmp_ge K 48 hf dX8_window_8 (by decide) (fun hf => ?_) (fun hf => ?_)
  · refine kx_sub [(0, .ref a0)] [0] rfl ?_
    exact B48 _ hf
  · refine kx_aload_n K dX8_window_11 rfl 0 rfl ?_
    refine kx_gi K f_X8_46 dX8_window_12 hf (fun x3 hf => ?_)
    refine kx_aload_n K dX8_window_15 rfl 0 rfl ?_
    refine kx_gi K f_X8_58 dX8_window_16 hf (fun x4 hf => ?_)
    refine kx_isub K dX8_window_19 ?_
    refine kx_aload_n K dX8_window_20 rfl 0 rfl ?_
    refine kx_gr K f_X8_35 dX8_window_21 hf (fun x5 hf => ?_)
    refine kx_grN K fn_X8_68 dX8_window_24 hf (fun x6 hf => ?_)
    refine kx_iconst (v := 4) K dX8_window_27 (by decide) ?_
    refine kx_ai K dX8_window_28 hf (fun x7 hf => ?_)
    refine kx_icmp_lt K 48 hf dX8_window_29 (by decide) (fun hf => ?_) (fun hf => ?_)
    · refine kx_sub [(0, .ref a0)] [0] rfl ?_
      exact B48 _ hf
    · refine kx_aload_n K dX8_window_32 rfl 0 rfl ?_
      refine kx_aload_n K dX8_window_33 rfl 0 rfl ?_
      refine kx_gi K f_X8_46 dX8_window_34 hf (fun x8 hf => ?_)
      refine kx_pi K f_X8_58 dX8_window_37 hf (fun σ9 hf => ?_)
      refine kx_aload_n K dX8_window_40 rfl 0 rfl ?_
      refine kx_aload_n K dX8_window_41 rfl 0 rfl ?_
      refine kx_gi K f_X8_52 dX8_window_42 hf (fun x10 hf => ?_)
      refine kx_pi K f_X8_55 dX8_window_45 hf (fun σ11 hf => ?_)
      refine kx_sub [(0, .ref a0)] [0] rfl ?_
      exact B48 _ hf
def m_X8_tick_j214  (a0 : Nat) (σ56 : ac_H) : Option (Unit × ac_H) :=
  mo_gr σ56 a0 8 0 fun x57 =>
  mo_gr σ56 x57 7 0 fun x58 =>
  mo_ai σ56 x58 0 (0 : Int32) fun x59 =>
  if x59 = (2 : Int32) then
  (mo_cv σ56 a0 8 (m_X8_window σ56 a0) fun _ σ60 =>
  some ((), σ60))
  else
  (some ((), σ56))
def m_X8_tick_j192  (a0 : Nat) (σ50 : ac_H) : Option (Unit × ac_H) :=
  mo_gi σ50 a0 8 13 fun x51 =>
  mo_cv σ50 a0 8 (m_X8_send σ50 a0 (0 : Int32) x51) fun _ σ52 =>
  mo_gi σ52 a0 8 11 fun x53 =>
  mo_pv σ52 a0 8 15 (.int x53) fun σ54 =>
  mo_z (0 : Int32) <| mo_pv σ54 a0 8 17 (.int (0 : Int32)) fun σ55 =>
  m_X8_tick_j214 a0 σ55
def m_X8_tick_j135  (a0 : Nat) (σ36 : ac_H) : Option (Unit × ac_H) :=
  mo_gr σ36 a0 8 0 fun x37 =>
  mo_gr σ36 x37 7 0 fun x38 =>
  mo_ai σ36 x38 0 (0 : Int32) fun x39 =>
  if x39 = (1 : Int32) then
  (mo_gi σ36 a0 8 13 fun x40 =>
  mo_gr σ36 a0 8 0 fun x41 =>
  mo_gr σ36 x41 7 0 fun x42 =>
  mo_ai σ36 x42 0 (1 : Int32) fun x43 =>
  if x40 < x43 then
  (mo_gi σ36 a0 8 17 fun x44 =>
  if x44 = 0 then
  (mo_gi σ36 a0 8 11 fun x45 =>
  mo_gi σ36 a0 8 15 fun x46 =>
  mo_gr σ36 a0 8 0 fun x47 =>
  mo_gr σ36 x47 7 0 fun x48 =>
  mo_ai σ36 x48 0 (4 : Int32) fun x49 =>
  if (x45 - x46) < x49 then
  (m_X8_tick_j214 a0 σ36)
  else
  (m_X8_tick_j192 a0 σ36))
  else
  (m_X8_tick_j192 a0 σ36))
  else
  (m_X8_tick_j214 a0 σ36))
  else
  (m_X8_tick_j214 a0 σ36)
def m_X8_tick_j91  (a0 : Nat) (σ25 : ac_H) : Option (Unit × ac_H) :=
  mo_gr σ25 a0 8 0 fun x26 =>
  mo_gr σ25 x26 7 0 fun x27 =>
  mo_ai σ25 x27 0 (0 : Int32) fun x28 =>
  if x28 = 0 then
  (mo_gi σ25 a0 8 13 fun x29 =>
  mo_gr σ25 a0 8 0 fun x30 =>
  mo_gr σ25 x30 7 0 fun x31 =>
  mo_ai σ25 x31 0 (1 : Int32) fun x32 =>
  if x29 < x32 then
  (mo_gi σ25 a0 8 13 fun x33 =>
  mo_pv σ25 a0 8 13 (.int (x33 + (1 : Int32))) fun σ34 =>
  mo_cv σ34 a0 8 (m_X8_send σ34 a0 (0 : Int32) x33) fun _ σ35 =>
  m_X8_tick_j135 a0 σ35)
  else
  (m_X8_tick_j135 a0 σ25))
  else
  (m_X8_tick_j135 a0 σ25)
def m_X8_tick_j53 (K7 : ac_H → Int32 → Int32 → Option (Unit × ac_H)) (a0 : Nat) (σ16 : ac_H) (v14 : Int32) (v15 : Int32) : Option (Unit × ac_H) :=
  mo_gr σ16 a0 8 2 fun x17 =>
  mo_ai σ16 x17 0 v15 fun x18 =>
  if x18 = 0 then
  (mo_gr σ16 a0 8 3 fun x22 =>
  mo_ai σ16 x22 0 v15 fun x23 =>
  mo_cv σ16 a0 8 (m_X8_data σ16 a0 x23) fun _ σ24 =>
  K7 σ24 v14 (v15 + 1))
  else
  (mo_gr σ16 a0 8 3 fun x19 =>
  mo_ai σ16 x19 0 v15 fun x20 =>
  mo_cv σ16 a0 8 (m_X8_answer σ16 a0 x20) fun _ σ21 =>
  K7 σ21 v14 (v15 + 1))
def m_X8_tick_l7  (a0 : Nat) : Nat → ac_H → Int32 → Int32 → Option (Unit × ac_H)
  | 0, _, _, _ => none
  | n + 1, σ4, v2, v3 =>
    if v3 < v2 then
    (mo_gr σ4 a0 8 7 fun x5 =>
    mo_gi σ4 a0 8 11 fun x6 =>
    mo_ai σ4 x5 2 x6 fun x7 =>
    if x7 = 0 then
    (m_X8_tick_j91 a0 σ4)
    else
    (mo_gr σ4 a0 8 4 fun x8 =>
    mo_ai σ4 x8 0 v3 fun x9 =>
    mo_gi σ4 a0 8 11 fun x10 =>
    if x9 = x10 then
    (m_X8_tick_j53 (fun ρ y0 y1 => m_X8_tick_l7 a0 n ρ y0 y1) a0 σ4 v2 v3)
    else
    (mo_gr σ4 a0 8 5 fun x11 =>
    mo_ai σ4 x11 0 v3 fun x12 =>
    mo_gi σ4 a0 8 11 fun x13 =>
    if x12 = x13 then
    (m_X8_tick_j53 (fun ρ y0 y1 => m_X8_tick_l7 a0 n ρ y0 y1) a0 σ4 v2 v3)
    else
    (m_X8_tick_l7 a0 n σ4 v2 (v3 + 1)))))
    else
    (m_X8_tick_j91 a0 σ4)
def m_X8_tick (σ : ac_H) (a0 : Nat) : Option (Unit × ac_H) :=
  mo_gi σ a0 8 9 fun x1 =>
  m_X8_tick_l7 a0 hN_f σ x1 (0 : Int32)
set_option maxRecDepth 100000 in
set_option maxHeartbeats 4000000 in
theorem k_X8_tick {Λ : ex_L} {q : Nat} {σ σ' : ac_H} {a0 : Nat} {v : Unit} (hf : m_X8_tick σ a0 = some (v, σ')) : kx_C Λ yX8_tick (.code yX8_tick cX8_tick 3 none) ({ frames := 3, cells := 0, slots := 0, locals := 64 } : Room) [.ref a0] q σ (.inr none) σ' (fun z => z = q) := by
  refine kx_in (by decide +kernel) (Nat.le_of_ble_eq_true rfl) ?_
  intro Γ K hnm hsz hQ
  refine kx_lv (lv' := [(0, .ref a0)]) rfl ?_
  have B214 : ∀ (σ56 : ac_H), m_X8_tick_j214 a0 σ56 = some (v, σ') → kx_S Λ Γ 3 (fun z => z = q) σ56 (0) (0) 214 [(0, .ref a0)] [] := by
    intro σ56 hf
    unfold m_X8_tick_j214 at hf
    refine kx_aload_n K dX8_tick_214 rfl 0 rfl ?_
    refine kx_gr K f_X8_35 dX8_tick_215 hf (fun x57 hf => ?_)
    refine kx_grN K fn_X8_68 dX8_tick_218 hf (fun x58 hf => ?_)
    refine kx_iconst (v := 0) K dX8_tick_221 (by decide) ?_
    refine kx_ai K dX8_tick_222 hf (fun x59 hf => ?_)
    refine kx_iconst (v := 2) K dX8_tick_223 (by decide) ?_
    refine kx_icmp_ne K 231 hf dX8_tick_224 (by decide) (fun hf => ?_) (fun hf => ?_)
    · exact kx_vret K hQ (by decide) (by decide) (fun _ h => h) dX8_tick_231 hf
    · refine kx_aload_n K dX8_tick_227 rfl 0 rfl ?_
      refine kx_cv0v K c_X8_102 ⟨by decide, by decide, rfl, rfl, (by decide), (by decide)⟩ (Nat.le_of_ble_eq_true rfl) dX8_tick_228 hf (fun _ _ _ h => k_X8_window h) (fun _ σ60 hf => ?_)
      exact kx_vret K hQ (by decide) (by decide) (fun _ h => h) dX8_tick_231 hf
  have B192 : ∀ (σ50 : ac_H), m_X8_tick_j192 a0 σ50 = some (v, σ') → kx_S Λ Γ 3 (fun z => z = q) σ50 (0) (0) 192 [(0, .ref a0)] [] := by
    intro σ50 hf
    unfold m_X8_tick_j192 at hf
    refine kx_aload_n K dX8_tick_192 rfl 0 rfl ?_
    refine kx_iconst (v := 0) K dX8_tick_193 (by decide) ?_
    refine kx_aload_n K dX8_tick_194 rfl 0 rfl ?_
    refine kx_gi K f_X8_52 dX8_tick_195 hf (fun x51 hf => ?_)
    refine kx_cv2v K c_X8_98 ⟨by decide, by decide, rfl, rfl, (by decide), (by decide)⟩ (Nat.le_of_ble_eq_true rfl) dX8_tick_198 hf (fun _ _ _ h => k_X8_send h) (fun _ σ52 hf => ?_)
    refine kx_aload_n K dX8_tick_201 rfl 0 rfl ?_
    refine kx_aload_n K dX8_tick_202 rfl 0 rfl ?_
    refine kx_gi K f_X8_46 dX8_tick_203 hf (fun x53 hf => ?_)
    refine kx_pi K f_X8_58 dX8_tick_206 hf (fun σ54 hf => ?_)
    refine kx_aload_n K dX8_tick_209 rfl 0 rfl ?_
    refine kx_iconst (v := 0) K dX8_tick_210 (by decide) ?_
    refine kx_pz K f_X8_64 dX8_tick_211 hf (fun σ55 hf => ?_)
    refine kx_sub [(0, .ref a0)] [0] rfl ?_
    exact B214 _ hf
  have B135 : ∀ (σ36 : ac_H), m_X8_tick_j135 a0 σ36 = some (v, σ') → kx_S Λ Γ 3 (fun z => z = q) σ36 (0) (0) 135 [(0, .ref a0)] [] := by
    intro σ36 hf
    unfold m_X8_tick_j135 at hf
    refine kx_aload_n K dX8_tick_135 rfl 0 rfl ?_
    refine kx_gr K f_X8_35 dX8_tick_136 hf (fun x37 hf => ?_)
    refine kx_grN K fn_X8_68 dX8_tick_139 hf (fun x38 hf => ?_)
    refine kx_iconst (v := 0) K dX8_tick_142 (by decide) ?_
    refine kx_ai K dX8_tick_143 hf (fun x39 hf => ?_)
    refine kx_iconst (v := 1) K dX8_tick_144 (by decide) ?_
    refine kx_icmp_ne K 214 hf dX8_tick_145 (by decide) (fun hf => ?_) (fun hf => ?_)
    · refine kx_sub [(0, .ref a0)] [0] rfl ?_
      exact B214 _ hf
    · refine kx_aload_n K dX8_tick_148 rfl 0 rfl ?_
      refine kx_gi K f_X8_52 dX8_tick_149 hf (fun x40 hf => ?_)
      refine kx_aload_n K dX8_tick_152 rfl 0 rfl ?_
      refine kx_gr K f_X8_35 dX8_tick_153 hf (fun x41 hf => ?_)
      refine kx_grN K fn_X8_68 dX8_tick_156 hf (fun x42 hf => ?_)
      refine kx_iconst (v := 1) K dX8_tick_159 (by decide) ?_
      refine kx_ai K dX8_tick_160 hf (fun x43 hf => ?_)
      refine kx_icmp_ge K 214 hf dX8_tick_161 (by decide) (fun hf => ?_) (fun hf => ?_)
      · refine kx_sub [(0, .ref a0)] [0] rfl ?_
        exact B214 _ hf
      · refine kx_aload_n K dX8_tick_164 rfl 0 rfl ?_
        refine kx_gi K f_X8_64 dX8_tick_165 hf (fun x44 hf => ?_)
        refine kx_if_ne K 192 hf dX8_tick_168 (by decide) (fun hf => ?_) (fun hf => ?_)
        · refine kx_sub [(0, .ref a0)] [0] rfl ?_
          exact B192 _ hf
        · refine kx_aload_n K dX8_tick_171 rfl 0 rfl ?_
          refine kx_gi K f_X8_46 dX8_tick_172 hf (fun x45 hf => ?_)
          refine kx_aload_n K dX8_tick_175 rfl 0 rfl ?_
          refine kx_gi K f_X8_58 dX8_tick_176 hf (fun x46 hf => ?_)
          refine kx_isub K dX8_tick_179 ?_
          refine kx_aload_n K dX8_tick_180 rfl 0 rfl ?_
          refine kx_gr K f_X8_35 dX8_tick_181 hf (fun x47 hf => ?_)
          refine kx_grN K fn_X8_68 dX8_tick_184 hf (fun x48 hf => ?_)
          refine kx_iconst (v := 4) K dX8_tick_187 (by decide) ?_
          refine kx_ai K dX8_tick_188 hf (fun x49 hf => ?_)
          refine kx_icmp_lt K 214 hf dX8_tick_189 (by decide) (fun hf => ?_) (fun hf => ?_)
          · refine kx_sub [(0, .ref a0)] [0] rfl ?_
            exact B214 _ hf
          · refine kx_sub [(0, .ref a0)] [0] rfl ?_
            exact B192 _ hf
  have B91 : ∀ (σ25 : ac_H), m_X8_tick_j91 a0 σ25 = some (v, σ') → kx_S Λ Γ 3 (fun z => z = q) σ25 (0) (0) 91 [(0, .ref a0)] [] := by
    intro σ25 hf
    unfold m_X8_tick_j91 at hf
    refine kx_aload_n K dX8_tick_91 rfl 0 rfl ?_
    refine kx_gr K f_X8_35 dX8_tick_92 hf (fun x26 hf => ?_)
    refine kx_grN K fn_X8_68 dX8_tick_95 hf (fun x27 hf => ?_)
    refine kx_iconst (v := 0) K dX8_tick_98 (by decide) ?_
    refine kx_ai K dX8_tick_99 hf (fun x28 hf => ?_)
    refine kx_if_ne K 135 hf dX8_tick_100 (by decide) (fun hf => ?_) (fun hf => ?_)
    · refine kx_sub [(0, .ref a0)] [0] rfl ?_
      exact B135 _ hf
    · refine kx_aload_n K dX8_tick_103 rfl 0 rfl ?_
      refine kx_gi K f_X8_52 dX8_tick_104 hf (fun x29 hf => ?_)
      refine kx_aload_n K dX8_tick_107 rfl 0 rfl ?_
      refine kx_gr K f_X8_35 dX8_tick_108 hf (fun x30 hf => ?_)
      refine kx_grN K fn_X8_68 dX8_tick_111 hf (fun x31 hf => ?_)
      refine kx_iconst (v := 1) K dX8_tick_114 (by decide) ?_
      refine kx_ai K dX8_tick_115 hf (fun x32 hf => ?_)
      refine kx_icmp_ge K 135 hf dX8_tick_116 (by decide) (fun hf => ?_) (fun hf => ?_)
      · refine kx_sub [(0, .ref a0)] [0] rfl ?_
        exact B135 _ hf
      · refine kx_aload_n K dX8_tick_119 rfl 0 rfl ?_
        refine kx_iconst (v := 0) K dX8_tick_120 (by decide) ?_
        refine kx_aload_n K dX8_tick_121 rfl 0 rfl ?_
        refine kx_dup K dX8_tick_122 rfl ?_
        refine kx_gi K f_X8_52 dX8_tick_123 hf (fun x33 hf => ?_)
        refine kx_dup_x1 K dX8_tick_126 rfl rfl ?_
        refine kx_iconst (v := 1) K dX8_tick_127 (by decide) ?_
        refine kx_iadd K dX8_tick_128 ?_
        refine kx_pi K f_X8_52 dX8_tick_129 hf (fun σ34 hf => ?_)
        refine kx_cv2v K c_X8_98 ⟨by decide, by decide, rfl, rfl, (by decide), (by decide)⟩ (Nat.le_of_ble_eq_true rfl) dX8_tick_132 hf (fun _ _ _ h => k_X8_send h) (fun _ σ35 hf => ?_)
        refine kx_sub [(0, .ref a0)] [0] rfl ?_
        exact B135 _ hf
  have B7 : ∀ (n7 : Nat) (σ4 : ac_H) (v2 : Int32) (v3 : Int32), m_X8_tick_l7 a0 n7 σ4 v2 v3 = some (v, σ') → kx_S Λ Γ 3 (fun z => z = q) σ4 (0) (0) 7 [(0, .ref a0), (1, .int v2), (2, .int v3)] [] := by
    intro n7
    induction n7 with
    | zero =>
      intro σ4 v2 v3 hf
      rw [m_X8_tick_l7] at hf
      cases hf
    | succ n7 ih7 =>
      have B53 : ∀ (σ16 : ac_H) (v14 : Int32) (v15 : Int32), m_X8_tick_j53 (fun ρ y0 y1 => m_X8_tick_l7 a0 n7 ρ y0 y1) a0 σ16 v14 v15 = some (v, σ') → kx_S Λ Γ 3 (fun z => z = q) σ16 (0) (0) 53 [(0, .ref a0), (1, .int v14), (2, .int v15)] [] := by
        intro σ16 v14 v15 hf
        unfold m_X8_tick_j53 at hf
        refine kx_aload_n K dX8_tick_53 rfl 0 rfl ?_
        refine kx_gr K f_X8_13 dX8_tick_54 hf (fun x17 hf => ?_)
        refine kx_iload_n K dX8_tick_57 rfl 2 rfl ?_
        refine kx_ai K dX8_tick_58 hf (fun x18 hf => ?_)
        refine kx_if_ne K 75 hf dX8_tick_59 (by decide) (fun hf => ?_) (fun hf => ?_)
        · refine kx_aload_n K dX8_tick_75 rfl 0 rfl ?_
          refine kx_aload_n K dX8_tick_76 rfl 0 rfl ?_
          refine kx_gr K f_X8_16 dX8_tick_77 hf (fun x19 hf => ?_)
          refine kx_iload_n K dX8_tick_80 rfl 2 rfl ?_
          refine kx_ai K dX8_tick_81 hf (fun x20 hf => ?_)
          refine kx_cv1v K c_X8_95 ⟨by decide, by decide, rfl, rfl, (by decide), (by decide)⟩ (Nat.le_of_ble_eq_true rfl) dX8_tick_82 hf (fun _ _ _ h => k_X8_answer h) (fun _ σ21 hf => ?_)
          refine kx_iinc (v := (v15 + 1)) K [(2, .int (v15 + 1)), (0, .ref a0), (1, .int v14)] dX8_tick_85 2 rfl rfl (by decide) rfl ?_
          refine kx_goto K 7 dX8_tick_88 (by decide) ?_
          refine kx_sub [(0, .ref a0), (1, .int v14), (2, .int (v15 + 1))] [1, 2, 0] rfl ?_
          exact ih7 _ _ _ hf
        · refine kx_aload_n K dX8_tick_62 rfl 0 rfl ?_
          refine kx_aload_n K dX8_tick_63 rfl 0 rfl ?_
          refine kx_gr K f_X8_16 dX8_tick_64 hf (fun x22 hf => ?_)
          refine kx_iload_n K dX8_tick_67 rfl 2 rfl ?_
          refine kx_ai K dX8_tick_68 hf (fun x23 hf => ?_)
          refine kx_cv1v K c_X8_91 ⟨by decide, by decide, rfl, rfl, (by decide), (by decide)⟩ (Nat.le_of_ble_eq_true rfl) dX8_tick_69 hf (fun _ _ _ h => k_X8_data h) (fun _ σ24 hf => ?_)
          refine kx_goto K 85 dX8_tick_72 (by decide) ?_
          refine kx_iinc (v := (v15 + 1)) K [(2, .int (v15 + 1)), (0, .ref a0), (1, .int v14)] dX8_tick_85 2 rfl rfl (by decide) rfl ?_
          refine kx_goto K 7 dX8_tick_88 (by decide) ?_
          refine kx_sub [(0, .ref a0), (1, .int v14), (2, .int (v15 + 1))] [1, 2, 0] rfl ?_
          exact ih7 _ _ _ hf
      intro σ4 v2 v3 hf
      rw [m_X8_tick_l7] at hf
      refine kx_iload_n K dX8_tick_7 rfl 2 rfl ?_
      refine kx_iload_n K dX8_tick_8 rfl 1 rfl ?_
      refine kx_icmp_ge K 91 hf dX8_tick_9 (by decide) (fun hf => ?_) (fun hf => ?_)
      · refine kx_sub [(0, .ref a0)] [0] rfl ?_
        exact B91 _ hf
      · refine kx_aload_n K dX8_tick_12 rfl 0 rfl ?_
        refine kx_gr K f_X8_28 dX8_tick_13 hf (fun x5 hf => ?_)
        refine kx_aload_n K dX8_tick_16 rfl 0 rfl ?_
        refine kx_gi K f_X8_46 dX8_tick_17 hf (fun x6 hf => ?_)
        refine kx_az K dX8_tick_20 hf (fun x7 hf => ?_)
        refine kx_if_eq K 91 hf dX8_tick_21 (by decide) (fun hf => ?_) (fun hf => ?_)
        · refine kx_sub [(0, .ref a0)] [0] rfl ?_
          exact B91 _ hf
        · refine kx_aload_n K dX8_tick_24 rfl 0 rfl ?_
          refine kx_gr K f_X8_19 dX8_tick_25 hf (fun x8 hf => ?_)
          refine kx_iload_n K dX8_tick_28 rfl 2 rfl ?_
          refine kx_ai K dX8_tick_29 hf (fun x9 hf => ?_)
          refine kx_aload_n K dX8_tick_30 rfl 0 rfl ?_
          refine kx_gi K f_X8_46 dX8_tick_31 hf (fun x10 hf => ?_)
          refine kx_icmp_eq K 53 hf dX8_tick_34 (by decide) (fun hf => ?_) (fun hf => ?_)
          · refine kx_sub [(0, .ref a0), (1, .int v2), (2, .int v3)] [0, 1, 2] rfl ?_
            exact B53 _ _ _ hf
          · refine kx_aload_n K dX8_tick_37 rfl 0 rfl ?_
            refine kx_gr K f_X8_22 dX8_tick_38 hf (fun x11 hf => ?_)
            refine kx_iload_n K dX8_tick_41 rfl 2 rfl ?_
            refine kx_ai K dX8_tick_42 hf (fun x12 hf => ?_)
            refine kx_aload_n K dX8_tick_43 rfl 0 rfl ?_
            refine kx_gi K f_X8_46 dX8_tick_44 hf (fun x13 hf => ?_)
            refine kx_icmp_eq K 53 hf dX8_tick_47 (by decide) (fun hf => ?_) (fun hf => ?_)
            · refine kx_sub [(0, .ref a0), (1, .int v2), (2, .int v3)] [0, 1, 2] rfl ?_
              exact B53 _ _ _ hf
            · refine kx_goto K 85 dX8_tick_50 (by decide) ?_
              refine kx_iinc (v := (v3 + 1)) K [(2, .int (v3 + 1)), (0, .ref a0), (1, .int v2)] dX8_tick_85 2 rfl rfl (by decide) rfl ?_
              refine kx_goto K 7 dX8_tick_88 (by decide) ?_
              refine kx_sub [(0, .ref a0), (1, .int v2), (2, .int (v3 + 1))] [1, 2, 0] rfl ?_
              exact ih7 _ _ _ hf
  unfold m_X8_tick at hf
  refine kx_aload_n K dX8_tick_0 rfl 0 rfl ?_
  refine kx_gi K f_X8_39 dX8_tick_1 hf (fun x1 hf => ?_)
  refine kx_istore_n K [(1, .int x1), (0, .ref a0)] dX8_tick_4 rfl (by decide) rfl ?_
  refine kx_iconst (v := 0) K dX8_tick_5 (by decide) ?_
  refine kx_istore_n K [(2, .int (0 : Int32)), (1, .int x1), (0, .ref a0)] dX8_tick_6 rfl (by decide) rfl ?_
  refine kx_sub [(0, .ref a0), (1, .int x1), (2, .int (0 : Int32))] [2, 1, 0] rfl ?_
  exact B7 hN_f _ _ _ hf
def m_X8_go_l151 (K98 : ac_H → Int32 → Option (Nat × ac_H)) (a0 : Nat) : Nat → ac_H → Int32 → Int32 → Option (Nat × ac_H)
  | 0, _, _, _ => none
  | n + 1, σ34, v32, v33 =>
    if v33 < (400 : Int32) then
    (if v32 = 0 then
    (m_X8_go_l151 K98 a0 n σ34 (0 : Int32) (v33 + 1))
    else
    (mo_gr σ34 a0 8 7 fun x41 =>
    mo_ai σ34 x41 2 v33 fun x42 =>
    if x42 = 0 then
    (m_X8_go_l151 K98 a0 n σ34 (1 : Int32) (v33 + 1))
    else
    (m_X8_go_l151 K98 a0 n σ34 (0 : Int32) (v33 + 1))))
    else
    (mo_gr σ34 a0 8 8 fun x35 =>
    mo_gi σ34 a0 8 13 fun x36 =>
    mo_gi σ34 a0 8 10 fun x37 =>
    mo_ui σ34 x35 2 (((16 : Int32) * x36) + (if x37 < (15 : Int32) then x37 else (15 : Int32))) (vp_nar .boolean (1 : Int32)) fun σ38 =>
    mo_gi σ38 a0 8 11 fun x39 =>
    mo_pv σ38 a0 8 11 (.int (x39 + (1 : Int32))) fun σ40 =>
    K98 σ40 v32)
def m_X8_go_l98  (a0 : Nat) : Nat → ac_H → Int32 → Option (Nat × ac_H)
  | 0, _, _ => none
  | n + 1, σ20, v19 =>
    mo_gi σ20 a0 8 11 fun x21 =>
    mo_gr σ20 a0 8 0 fun x22 =>
    mo_gr σ20 x22 7 0 fun x23 =>
    mo_ai σ20 x23 0 (2 : Int32) fun x24 =>
    if x21 < x24 then
    (if v19 = 0 then
    (mo_cv σ20 a0 8 (m_X8_tick σ20 a0) fun _ σ25 =>
    mo_gi σ25 a0 8 13 fun x26 =>
    mo_gr σ25 a0 8 0 fun x27 =>
    mo_gr σ25 x27 7 0 fun x28 =>
    mo_ai σ25 x28 0 (1 : Int32) fun x29 =>
    if x26 = x29 then
    (mo_gi σ25 a0 8 11 fun x31 =>
    m_X8_go_l151 (fun ρ y0 => m_X8_go_l98 a0 n ρ y0) a0 hN_f σ25 (1 : Int32) (x31 + (1 : Int32)))
    else
    (mo_gi σ25 a0 8 11 fun x30 =>
    m_X8_go_l151 (fun ρ y0 => m_X8_go_l98 a0 n ρ y0) a0 hN_f σ25 (0 : Int32) (x30 + (1 : Int32))))
    else
    (some (a0, σ20)))
    else
    (some (a0, σ20))
def m_X8_go_l76  (a0 : Nat) : Nat → ac_H → Int32 → Option (Nat × ac_H)
  | 0, _, _ => none
  | n + 1, σ16, v15 =>
    if v15 < (144 : Int32) then
    (mo_gr σ16 a0 8 8 fun x17 =>
    mo_ui σ16 x17 2 v15 (vp_nar .boolean (0 : Int32)) fun σ18 =>
    m_X8_go_l76 a0 n σ18 (v15 + 1))
    else
    (m_X8_go_l98 a0 hN_f σ16 (0 : Int32))
def m_X8_go_l54  (a0 : Nat) : Nat → ac_H → Int32 → Option (Nat × ac_H)
  | 0, _, _ => none
  | n + 1, σ12, v11 =>
    if v11 < (400 : Int32) then
    (mo_gr σ12 a0 8 7 fun x13 =>
    mo_ui σ12 x13 2 v11 (vp_nar .boolean (0 : Int32)) fun σ14 =>
    m_X8_go_l54 a0 n σ14 (v11 + 1))
    else
    (m_X8_go_l76 a0 hN_f σ12 (0 : Int32))
def m_X8_go (σ : ac_H) (a0 : Nat) (a1 : Nat) : Option (Nat × ac_H) :=
  mo_pv σ a0 8 0 (.ref a1) fun σ1 =>
  mo_pv σ1 a0 8 9 (.int (0 : Int32)) fun σ2 =>
  mo_pv σ2 a0 8 10 (.int (0 : Int32)) fun σ3 =>
  mo_pv σ3 a0 8 11 (.int (0 : Int32)) fun σ4 =>
  mo_pv σ4 a0 8 12 (.int (-1 : Int32)) fun σ5 =>
  mo_pv σ5 a0 8 13 (.int (0 : Int32)) fun σ6 =>
  mo_pv σ6 a0 8 14 (.int (0 : Int32)) fun σ7 =>
  mo_pv σ7 a0 8 15 (.int (-1000 : Int32)) fun σ8 =>
  mo_pv σ8 a0 8 16 (.int (0 : Int32)) fun σ9 =>
  mo_z (1 : Int32) <| mo_pv σ9 a0 8 17 (.int (1 : Int32)) fun σ10 =>
  m_X8_go_l54 a0 hN_f σ10 (0 : Int32)
set_option maxRecDepth 100000 in
set_option maxHeartbeats 4000000 in
theorem k_X8_go {Λ : ex_L} {q : Nat} {σ σ' : ac_H} {a0 : Nat} {a1 : Nat} {v : Nat} (hf : m_X8_go σ a0 a1 = some (v, σ')) : kx_C Λ yX8_go (.code yX8_go cX8_go 4 (some (.object "FaultBenchLaw$Run"))) ({ frames := 4, cells := 0, slots := 0, locals := 86 } : Room) [.ref a0, .ref a1] q σ (.inr (some (.ref v))) σ' (fun z => z = q) := by
  refine kx_in (by decide +kernel) (Nat.le_of_ble_eq_true rfl) ?_
  intro Γ K hnm hsz hQ
  refine kx_lv (lv' := [(0, .ref a0), (1, .ref a1)]) rfl ?_
  have B98 : ∀ (n98 : Nat) (σ20 : ac_H) (v19 : Int32), m_X8_go_l98 a0 n98 σ20 v19 = some (v, σ') → kx_S Λ Γ 4 (fun z => z = q) σ20 (0) (0) 98 [(0, .ref a0), (2, .int v19)] [] := by
    intro n98
    induction n98 with
    | zero =>
      intro σ20 v19 hf
      rw [m_X8_go_l98] at hf
      cases hf
    | succ n98 ih98 =>
      have B151 : ∀ (n151 : Nat) (σ34 : ac_H) (v32 : Int32) (v33 : Int32), m_X8_go_l151 (fun ρ y0 => m_X8_go_l98 a0 n98 ρ y0) a0 n151 σ34 v32 v33 = some (v, σ') → kx_S Λ Γ 4 (fun z => z = q) σ34 (0) (0) 151 [(0, .ref a0), (2, .int v32), (3, .int v33)] [] := by
        intro n151
        induction n151 with
        | zero =>
          intro σ34 v32 v33 hf
          rw [m_X8_go_l151] at hf
          cases hf
        | succ n151 ih151 =>
          intro σ34 v32 v33 hf
          rw [m_X8_go_l151] at hf
          refine kx_iload_n K dX8_go_151 rfl 2 rfl ?_
          refine kx_sipush (v := 400) K dX8_go_152 (by decide) ?_
          refine kx_icmp_ge K 183 hf dX8_go_155 (by decide) (fun hf => ?_) (fun hf => ?_)
          · refine kx_aload_n K dX8_go_183 rfl 0 rfl ?_
            refine kx_gr K f_X8_32 dX8_go_184 hf (fun x35 hf => ?_)
            refine kx_bipush (v := 16) K dX8_go_187 (by decide) ?_
            refine kx_aload_n K dX8_go_189 rfl 0 rfl ?_
            refine kx_gi K f_X8_52 dX8_go_190 hf (fun x36 hf => ?_)
            refine kx_imul K dX8_go_193 ?_
            refine kx_bipush (v := 15) K dX8_go_194 (by decide) ?_
            refine kx_aload_n K dX8_go_196 rfl 0 rfl ?_
            refine kx_gi K f_X8_43 dX8_go_197 hf (fun x37 hf => ?_)
            refine kx_mmin K w_602 w_197 w_180 w_198 (by decide) (Nat.le_of_ble_eq_true rfl) (by decide) (by decide) dX8_go_200 ?_
            refine kx_iadd K dX8_go_203 ?_
            refine kx_iconst (v := 1) K dX8_go_204 (by decide) ?_
            refine kx_uz K dX8_go_205 hf (fun σ38 hf => ?_)
            refine kx_aload_n K dX8_go_206 rfl 0 rfl ?_
            refine kx_dup K dX8_go_207 rfl ?_
            refine kx_gi K f_X8_46 dX8_go_208 hf (fun x39 hf => ?_)
            refine kx_iconst (v := 1) K dX8_go_211 (by decide) ?_
            refine kx_iadd K dX8_go_212 ?_
            refine kx_pi K f_X8_46 dX8_go_213 hf (fun σ40 hf => ?_)
            refine kx_goto K 98 dX8_go_216 (by decide) ?_
            refine kx_sub [(0, .ref a0), (2, .int v32)] [0, 1] rfl ?_
            exact ih98 _ _ hf
          · refine kx_iload_n K dX8_go_158 rfl 1 rfl ?_
            refine kx_if_eq K 175 hf dX8_go_159 (by decide) (fun hf => ?_) (fun hf => ?_)
            · refine kx_iconst (v := 0) K dX8_go_175 (by decide) ?_
              refine kx_istore_n K [(2, .int (0 : Int32)), (0, .ref a0), (3, .int v33)] dX8_go_176 rfl (by decide) rfl ?_
              refine kx_iinc (v := (v33 + 1)) K [(3, .int (v33 + 1)), (2, .int (0 : Int32)), (0, .ref a0)] dX8_go_177 2 rfl rfl (by decide) rfl ?_
              refine kx_goto K 151 dX8_go_180 (by decide) ?_
              refine kx_sub [(0, .ref a0), (2, .int (0 : Int32)), (3, .int (v33 + 1))] [2, 1, 0] rfl ?_
              exact ih151 _ _ _ hf
            · refine kx_aload_n K dX8_go_162 rfl 0 rfl ?_
              refine kx_gr K f_X8_28 dX8_go_163 hf (fun x41 hf => ?_)
              refine kx_iload_n K dX8_go_166 rfl 2 rfl ?_
              refine kx_az K dX8_go_167 hf (fun x42 hf => ?_)
              refine kx_if_ne K 175 hf dX8_go_168 (by decide) (fun hf => ?_) (fun hf => ?_)
              · refine kx_iconst (v := 0) K dX8_go_175 (by decide) ?_
                refine kx_istore_n K [(2, .int (0 : Int32)), (0, .ref a0), (3, .int v33)] dX8_go_176 rfl (by decide) rfl ?_
                refine kx_iinc (v := (v33 + 1)) K [(3, .int (v33 + 1)), (2, .int (0 : Int32)), (0, .ref a0)] dX8_go_177 2 rfl rfl (by decide) rfl ?_
                refine kx_goto K 151 dX8_go_180 (by decide) ?_
                refine kx_sub [(0, .ref a0), (2, .int (0 : Int32)), (3, .int (v33 + 1))] [2, 1, 0] rfl ?_
                exact ih151 _ _ _ hf
              · refine kx_iconst (v := 1) K dX8_go_171 (by decide) ?_
                refine kx_goto K 176 dX8_go_172 (by decide) ?_
                refine kx_istore_n K [(2, .int (1 : Int32)), (0, .ref a0), (3, .int v33)] dX8_go_176 rfl (by decide) rfl ?_
                refine kx_iinc (v := (v33 + 1)) K [(3, .int (v33 + 1)), (2, .int (1 : Int32)), (0, .ref a0)] dX8_go_177 2 rfl rfl (by decide) rfl ?_
                refine kx_goto K 151 dX8_go_180 (by decide) ?_
                refine kx_sub [(0, .ref a0), (2, .int (1 : Int32)), (3, .int (v33 + 1))] [2, 1, 0] rfl ?_
                exact ih151 _ _ _ hf
      intro σ20 v19 hf
      rw [m_X8_go_l98] at hf
      refine kx_aload_n K dX8_go_98 rfl 0 rfl ?_
      refine kx_gi K f_X8_46 dX8_go_99 hf (fun x21 hf => ?_)
      refine kx_aload_n K dX8_go_102 rfl 0 rfl ?_
      refine kx_gr K f_X8_35 dX8_go_103 hf (fun x22 hf => ?_)
      refine kx_grN K fn_X8_68 dX8_go_106 hf (fun x23 hf => ?_)
      refine kx_iconst (v := 2) K dX8_go_109 (by decide) ?_
      refine kx_ai K dX8_go_110 hf (fun x24 hf => ?_)
      refine kx_icmp_ge K 219 hf dX8_go_111 (by decide) (fun hf => ?_) (fun hf => ?_)
      · refine kx_aload_n K dX8_go_219 rfl 0 rfl ?_
        exact kx_aret K hQ (by decide) (by decide) (fun _ h => h) dX8_go_220 hf
      · refine kx_iload_n K dX8_go_114 rfl 1 rfl ?_
        refine kx_if_ne K 219 hf dX8_go_115 (by decide) (fun hf => ?_) (fun hf => ?_)
        · refine kx_aload_n K dX8_go_219 rfl 0 rfl ?_
          exact kx_aret K hQ (by decide) (by decide) (fun _ h => h) dX8_go_220 hf
        · refine kx_aload_n K dX8_go_118 rfl 0 rfl ?_
          refine kx_cv0v K c_X8_73 ⟨by decide, by decide, rfl, rfl, (by decide), (by decide)⟩ (Nat.le_of_ble_eq_true rfl) dX8_go_119 hf (fun _ _ _ h => k_X8_tick h) (fun _ σ25 hf => ?_)
          refine kx_aload_n K dX8_go_122 rfl 0 rfl ?_
          refine kx_gi K f_X8_52 dX8_go_123 hf (fun x26 hf => ?_)
          refine kx_aload_n K dX8_go_126 rfl 0 rfl ?_
          refine kx_gr K f_X8_35 dX8_go_127 hf (fun x27 hf => ?_)
          refine kx_grN K fn_X8_68 dX8_go_130 hf (fun x28 hf => ?_)
          refine kx_iconst (v := 1) K dX8_go_133 (by decide) ?_
          refine kx_ai K dX8_go_134 hf (fun x29 hf => ?_)
          refine kx_icmp_ne K 142 hf dX8_go_135 (by decide) (fun hf => ?_) (fun hf => ?_)
          · refine kx_iconst (v := 0) K dX8_go_142 (by decide) ?_
            refine kx_istore_n K [(2, .int (0 : Int32)), (0, .ref a0)] dX8_go_143 rfl (by decide) rfl ?_
            refine kx_aload_n K dX8_go_144 rfl 1 rfl ?_
            refine kx_gi K f_X8_46 dX8_go_145 hf (fun x30 hf => ?_)
            refine kx_iconst (v := 1) K dX8_go_148 (by decide) ?_
            refine kx_iadd K dX8_go_149 ?_
            refine kx_istore_n K [(3, .int (x30 + (1 : Int32))), (2, .int (0 : Int32)), (0, .ref a0)] dX8_go_150 rfl (by decide) rfl ?_
            refine kx_sub [(0, .ref a0), (2, .int (0 : Int32)), (3, .int (x30 + (1 : Int32)))] [2, 1, 0] rfl ?_
            exact B151 hN_f _ _ _ hf
          · refine kx_iconst (v := 1) K dX8_go_138 (by decide) ?_
            refine kx_goto K 143 dX8_go_139 (by decide) ?_
            refine kx_istore_n K [(2, .int (1 : Int32)), (0, .ref a0)] dX8_go_143 rfl (by decide) rfl ?_
            refine kx_aload_n K dX8_go_144 rfl 1 rfl ?_
            refine kx_gi K f_X8_46 dX8_go_145 hf (fun x31 hf => ?_)
            refine kx_iconst (v := 1) K dX8_go_148 (by decide) ?_
            refine kx_iadd K dX8_go_149 ?_
            refine kx_istore_n K [(3, .int (x31 + (1 : Int32))), (2, .int (1 : Int32)), (0, .ref a0)] dX8_go_150 rfl (by decide) rfl ?_
            refine kx_sub [(0, .ref a0), (2, .int (1 : Int32)), (3, .int (x31 + (1 : Int32)))] [2, 1, 0] rfl ?_
            exact B151 hN_f _ _ _ hf
  have B76 : ∀ (n76 : Nat) (σ16 : ac_H) (v15 : Int32), m_X8_go_l76 a0 n76 σ16 v15 = some (v, σ') → kx_S Λ Γ 4 (fun z => z = q) σ16 (0) (0) 76 [(0, .ref a0), (2, .int v15)] [] := by
    intro n76
    induction n76 with
    | zero =>
      intro σ16 v15 hf
      rw [m_X8_go_l76] at hf
      cases hf
    | succ n76 ih76 =>
      intro σ16 v15 hf
      rw [m_X8_go_l76] at hf
      refine kx_iload_n K dX8_go_76 rfl 1 rfl ?_
      refine kx_sipush (v := 144) K dX8_go_77 (by decide) ?_
      refine kx_icmp_ge K 96 hf dX8_go_80 (by decide) (fun hf => ?_) (fun hf => ?_)
      · refine kx_iconst (v := 0) K dX8_go_96 (by decide) ?_
        refine kx_istore_n K [(2, .int (0 : Int32)), (0, .ref a0)] dX8_go_97 rfl (by decide) rfl ?_
        refine kx_sub [(0, .ref a0), (2, .int (0 : Int32))] [1, 0] rfl ?_
        exact B98 hN_f _ _ hf
      · refine kx_aload_n K dX8_go_83 rfl 0 rfl ?_
        refine kx_gr K f_X8_32 dX8_go_84 hf (fun x17 hf => ?_)
        refine kx_iload_n K dX8_go_87 rfl 1 rfl ?_
        refine kx_iconst (v := 0) K dX8_go_88 (by decide) ?_
        refine kx_uz K dX8_go_89 hf (fun σ18 hf => ?_)
        refine kx_iinc (v := (v15 + 1)) K [(2, .int (v15 + 1)), (0, .ref a0)] dX8_go_90 1 rfl rfl (by decide) rfl ?_
        refine kx_goto K 76 dX8_go_93 (by decide) ?_
        refine kx_sub [(0, .ref a0), (2, .int (v15 + 1))] [1, 0] rfl ?_
        exact ih76 _ _ hf
  have B54 : ∀ (n54 : Nat) (σ12 : ac_H) (v11 : Int32), m_X8_go_l54 a0 n54 σ12 v11 = some (v, σ') → kx_S Λ Γ 4 (fun z => z = q) σ12 (0) (0) 54 [(0, .ref a0), (2, .int v11)] [] := by
    intro n54
    induction n54 with
    | zero =>
      intro σ12 v11 hf
      rw [m_X8_go_l54] at hf
      cases hf
    | succ n54 ih54 =>
      intro σ12 v11 hf
      rw [m_X8_go_l54] at hf
      refine kx_iload_n K dX8_go_54 rfl 1 rfl ?_
      refine kx_sipush (v := 400) K dX8_go_55 (by decide) ?_
      refine kx_icmp_ge K 74 hf dX8_go_58 (by decide) (fun hf => ?_) (fun hf => ?_)
      · refine kx_iconst (v := 0) K dX8_go_74 (by decide) ?_
        refine kx_istore_n K [(2, .int (0 : Int32)), (0, .ref a0)] dX8_go_75 rfl (by decide) rfl ?_
        refine kx_sub [(0, .ref a0), (2, .int (0 : Int32))] [1, 0] rfl ?_
        exact B76 hN_f _ _ hf
      · refine kx_aload_n K dX8_go_61 rfl 0 rfl ?_
        refine kx_gr K f_X8_28 dX8_go_62 hf (fun x13 hf => ?_)
        refine kx_iload_n K dX8_go_65 rfl 1 rfl ?_
        refine kx_iconst (v := 0) K dX8_go_66 (by decide) ?_
        refine kx_uz K dX8_go_67 hf (fun σ14 hf => ?_)
        refine kx_iinc (v := (v11 + 1)) K [(2, .int (v11 + 1)), (0, .ref a0)] dX8_go_68 1 rfl rfl (by decide) rfl ?_
        refine kx_goto K 54 dX8_go_71 (by decide) ?_
        refine kx_sub [(0, .ref a0), (2, .int (v11 + 1))] [1, 0] rfl ?_
        exact ih54 _ _ hf
  unfold m_X8_go at hf
  refine kx_aload_n K dX8_go_0 rfl 0 rfl ?_
  refine kx_aload_n K dX8_go_1 rfl 1 rfl ?_
  refine kx_pr K f_X8_35 dX8_go_2 hf (fun σ1 hf => ?_)
  refine kx_aload_n K dX8_go_5 rfl 0 rfl ?_
  refine kx_iconst (v := 0) K dX8_go_6 (by decide) ?_
  refine kx_pi K f_X8_39 dX8_go_7 hf (fun σ2 hf => ?_)
  refine kx_aload_n K dX8_go_10 rfl 0 rfl ?_
  refine kx_iconst (v := 0) K dX8_go_11 (by decide) ?_
  refine kx_pi K f_X8_43 dX8_go_12 hf (fun σ3 hf => ?_)
  refine kx_aload_n K dX8_go_15 rfl 0 rfl ?_
  refine kx_iconst (v := 0) K dX8_go_16 (by decide) ?_
  refine kx_pi K f_X8_46 dX8_go_17 hf (fun σ4 hf => ?_)
  refine kx_aload_n K dX8_go_20 rfl 0 rfl ?_
  refine kx_iconst (v := -1) K dX8_go_21 (by decide) ?_
  refine kx_pi K f_X8_49 dX8_go_22 hf (fun σ5 hf => ?_)
  refine kx_aload_n K dX8_go_25 rfl 0 rfl ?_
  refine kx_iconst (v := 0) K dX8_go_26 (by decide) ?_
  refine kx_pi K f_X8_52 dX8_go_27 hf (fun σ6 hf => ?_)
  refine kx_aload_n K dX8_go_30 rfl 0 rfl ?_
  refine kx_iconst (v := 0) K dX8_go_31 (by decide) ?_
  refine kx_pi K f_X8_55 dX8_go_32 hf (fun σ7 hf => ?_)
  refine kx_aload_n K dX8_go_35 rfl 0 rfl ?_
  refine kx_sipush (v := -1000) K dX8_go_36 (by decide) ?_
  refine kx_pi K f_X8_58 dX8_go_39 hf (fun σ8 hf => ?_)
  refine kx_aload_n K dX8_go_42 rfl 0 rfl ?_
  refine kx_iconst (v := 0) K dX8_go_43 (by decide) ?_
  refine kx_pi K f_X8_61 dX8_go_44 hf (fun σ9 hf => ?_)
  refine kx_aload_n K dX8_go_47 rfl 0 rfl ?_
  refine kx_iconst (v := 1) K dX8_go_48 (by decide) ?_
  refine kx_pz K f_X8_64 dX8_go_49 hf (fun σ10 hf => ?_)
  refine kx_iconst (v := 0) K dX8_go_52 (by decide) ?_
  refine kx_istore_n K [(2, .int (0 : Int32)), (0, .ref a0), (1, .ref a1)] dX8_go_53 rfl (by decide) rfl ?_
  refine kx_sub [(0, .ref a0), (2, .int (0 : Int32))] [1, 0] rfl ?_
  exact B54 hN_f _ _ hf
def m_X8_breaks_l64 (K54 : ac_H → Int32 → Option (Int32 × ac_H)) (a0 : Nat) (a1 : Int32) : Nat → ac_H → Int32 → Int32 → Option (Int32 × ac_H)
  | 0, _, _, _ => none
  | n + 1, σ12, v10, v11 =>
    if v11 < v10 then
    (if a1 = (1 : Int32) then
    (mo_gr σ12 a0 8 6 fun x17 =>
    mo_ai σ12 x17 0 v11 fun x18 =>
    mo_gr σ12 a0 8 6 fun x19 =>
    mo_ai σ12 x19 0 v10 fun x20 =>
    if x18 = x20 then
    (mo_z (1 : Int32) (some ((1 : Int32), σ12)))
    else
    (m_X8_breaks_l64 K54 a0 a1 n σ12 v10 (v11 + 1)))
    else
    (mo_gr σ12 a0 8 6 fun x13 =>
    mo_ai σ12 x13 0 v11 fun x14 =>
    mo_gr σ12 a0 8 6 fun x15 =>
    mo_ai σ12 x15 0 v10 fun x16 =>
    if x16 < x14 then
    (mo_z (1 : Int32) (some ((1 : Int32), σ12)))
    else
    (m_X8_breaks_l64 K54 a0 a1 n σ12 v10 (v11 + 1))))
    else
    (K54 σ12 (v10 + 1))
def m_X8_breaks_l54  (a0 : Nat) (a1 : Int32) : Nat → ac_H → Int32 → Option (Int32 × ac_H)
  | 0, _, _ => none
  | n + 1, σ8, v7 =>
    mo_gi σ8 a0 8 10 fun x9 =>
    if v7 < x9 then
    (m_X8_breaks_l64 (fun ρ y0 => m_X8_breaks_l54 a0 a1 n ρ y0) a0 a1 hN_f σ8 v7 (0 : Int32))
    else
    (mo_z (0 : Int32) (some ((0 : Int32), σ8)))
def m_X8_breaks (σ : ac_H) (a0 : Nat) (a1 : Int32) : Option (Int32 × ac_H) :=
  if a1 = 0 then
  (mo_gi σ a0 8 12 fun x6 =>
  if x6 < 0 then
  (mo_z (1 : Int32) (some ((1 : Int32), σ)))
  else
  (mo_z (0 : Int32) (some ((0 : Int32), σ))))
  else
  (if a1 = (3 : Int32) then
  (mo_gi σ a0 8 12 fun x1 =>
  if x1 < 0 then
  (mo_z (1 : Int32) (some ((1 : Int32), σ)))
  else
  (mo_gi σ a0 8 12 fun x2 =>
  mo_gr σ a0 8 0 fun x3 =>
  mo_gr σ x3 7 0 fun x4 =>
  mo_ai σ x4 0 (7 : Int32) fun x5 =>
  if x5 < x2 then
  (mo_z (1 : Int32) (some ((1 : Int32), σ)))
  else
  (mo_z (0 : Int32) (some ((0 : Int32), σ)))))
  else
  (m_X8_breaks_l54 a0 a1 hN_f σ (0 : Int32)))
set_option maxRecDepth 100000 in
set_option maxHeartbeats 4000000 in
theorem k_X8_breaks {Λ : ex_L} {q : Nat} {σ σ' : ac_H} {a0 : Nat} {a1 : Int32} {v : Int32} (hf : m_X8_breaks σ a0 a1 = some (v, σ')) : kx_C Λ yX8_breaks (.code yX8_breaks cX8_breaks 4 (some .boolean)) ({ frames := 0, cells := 0, slots := 0, locals := 0 } : Room) [.ref a0, .int a1] q σ (.inr (some (.int v))) σ' (fun z => z = q) := by
  refine kx_in (by decide +kernel) (Nat.le_of_ble_eq_true rfl) ?_
  intro Γ K hnm hsz hQ
  refine kx_lv (lv' := [(0, .ref a0), (1, .int a1)]) rfl ?_
  have B54 : ∀ (n54 : Nat) (σ8 : ac_H) (v7 : Int32), m_X8_breaks_l54 a0 a1 n54 σ8 v7 = some (v, σ') → kx_S Λ Γ 4 (fun z => z = q) σ8 (0) (0) 54 [(0, .ref a0), (1, .int a1), (2, .int v7)] [] := by
    intro n54
    induction n54 with
    | zero =>
      intro σ8 v7 hf
      rw [m_X8_breaks_l54] at hf
      cases hf
    | succ n54 ih54 =>
      have B64 : ∀ (n64 : Nat) (σ12 : ac_H) (v10 : Int32) (v11 : Int32), m_X8_breaks_l64 (fun ρ y0 => m_X8_breaks_l54 a0 a1 n54 ρ y0) a0 a1 n64 σ12 v10 v11 = some (v, σ') → kx_S Λ Γ 4 (fun z => z = q) σ12 (0) (0) 64 [(0, .ref a0), (1, .int a1), (2, .int v10), (3, .int v11)] [] := by
        intro n64
        induction n64 with
        | zero =>
          intro σ12 v10 v11 hf
          rw [m_X8_breaks_l64] at hf
          cases hf
        | succ n64 ih64 =>
          intro σ12 v10 v11 hf
          rw [m_X8_breaks_l64] at hf
          refine kx_iload_n K dX8_breaks_64 rfl 3 rfl ?_
          refine kx_iload_n K dX8_breaks_65 rfl 2 rfl ?_
          refine kx_icmp_ge K 115 hf dX8_breaks_66 (by decide) (fun hf => ?_) (fun hf => ?_)
          · refine kx_iinc (v := (v10 + 1)) K [(2, .int (v10 + 1)), (0, .ref a0), (1, .int a1), (3, .int v11)] dX8_breaks_115 2 rfl rfl (by decide) rfl ?_
            refine kx_goto K 54 dX8_breaks_118 (by decide) ?_
            refine kx_sub [(0, .ref a0), (1, .int a1), (2, .int (v10 + 1))] [1, 2, 0] rfl ?_
            exact ih54 _ _ hf
          · refine kx_iload_n K dX8_breaks_69 rfl 1 rfl ?_
            refine kx_iconst (v := 1) K dX8_breaks_70 (by decide) ?_
            refine kx_icmp_ne K 92 hf dX8_breaks_71 (by decide) (fun hf => ?_) (fun hf => ?_)
            · refine kx_aload_n K dX8_breaks_92 rfl 0 rfl ?_
              refine kx_gr K f_X8_25 dX8_breaks_93 hf (fun x13 hf => ?_)
              refine kx_iload_n K dX8_breaks_96 rfl 3 rfl ?_
              refine kx_ai K dX8_breaks_97 hf (fun x14 hf => ?_)
              refine kx_aload_n K dX8_breaks_98 rfl 0 rfl ?_
              refine kx_gr K f_X8_25 dX8_breaks_99 hf (fun x15 hf => ?_)
              refine kx_iload_n K dX8_breaks_102 rfl 2 rfl ?_
              refine kx_ai K dX8_breaks_103 hf (fun x16 hf => ?_)
              refine kx_icmp_le K 109 hf dX8_breaks_104 (by decide) (fun hf => ?_) (fun hf => ?_)
              · refine kx_iinc (v := (v11 + 1)) K [(3, .int (v11 + 1)), (0, .ref a0), (1, .int a1), (2, .int v10)] dX8_breaks_109 3 rfl rfl (by decide) rfl ?_
                refine kx_goto K 64 dX8_breaks_112 (by decide) ?_
                refine kx_sub [(0, .ref a0), (1, .int a1), (2, .int v10), (3, .int (v11 + 1))] [1, 2, 3, 0] rfl ?_
                exact ih64 _ _ _ hf
              · refine kx_iconst (v := 1) K dX8_breaks_107 (by decide) ?_
                exact kx_zret K hQ (by decide) (by decide) (fun _ h => h) dX8_breaks_108 hf
            · refine kx_aload_n K dX8_breaks_74 rfl 0 rfl ?_
              refine kx_gr K f_X8_25 dX8_breaks_75 hf (fun x17 hf => ?_)
              refine kx_iload_n K dX8_breaks_78 rfl 3 rfl ?_
              refine kx_ai K dX8_breaks_79 hf (fun x18 hf => ?_)
              refine kx_aload_n K dX8_breaks_80 rfl 0 rfl ?_
              refine kx_gr K f_X8_25 dX8_breaks_81 hf (fun x19 hf => ?_)
              refine kx_iload_n K dX8_breaks_84 rfl 2 rfl ?_
              refine kx_ai K dX8_breaks_85 hf (fun x20 hf => ?_)
              refine kx_icmp_ne K 109 hf dX8_breaks_86 (by decide) (fun hf => ?_) (fun hf => ?_)
              · refine kx_iinc (v := (v11 + 1)) K [(3, .int (v11 + 1)), (0, .ref a0), (1, .int a1), (2, .int v10)] dX8_breaks_109 3 rfl rfl (by decide) rfl ?_
                refine kx_goto K 64 dX8_breaks_112 (by decide) ?_
                refine kx_sub [(0, .ref a0), (1, .int a1), (2, .int v10), (3, .int (v11 + 1))] [1, 2, 3, 0] rfl ?_
                exact ih64 _ _ _ hf
              · refine kx_goto K 107 dX8_breaks_89 (by decide) ?_
                refine kx_iconst (v := 1) K dX8_breaks_107 (by decide) ?_
                exact kx_zret K hQ (by decide) (by decide) (fun _ h => h) dX8_breaks_108 hf
      intro σ8 v7 hf
      rw [m_X8_breaks_l54] at hf
      refine kx_iload_n K dX8_breaks_54 rfl 2 rfl ?_
      refine kx_aload_n K dX8_breaks_55 rfl 0 rfl ?_
      refine kx_gi K f_X8_43 dX8_breaks_56 hf (fun x9 hf => ?_)
      refine kx_icmp_ge K 121 hf dX8_breaks_59 (by decide) (fun hf => ?_) (fun hf => ?_)
      · refine kx_iconst (v := 0) K dX8_breaks_121 (by decide) ?_
        exact kx_zret K hQ (by decide) (by decide) (fun _ h => h) dX8_breaks_122 hf
      · refine kx_iconst (v := 0) K dX8_breaks_62 (by decide) ?_
        refine kx_istore_n K [(3, .int (0 : Int32)), (0, .ref a0), (1, .int a1), (2, .int v7)] dX8_breaks_63 rfl (by decide) rfl ?_
        refine kx_sub [(0, .ref a0), (1, .int a1), (2, .int v7), (3, .int (0 : Int32))] [1, 2, 3, 0] rfl ?_
        exact B64 hN_f _ _ _ hf
  unfold m_X8_breaks at hf
  refine kx_iload_n K dX8_breaks_0 rfl 1 rfl ?_
  refine kx_if_ne K 17 hf dX8_breaks_1 (by decide) (fun hf => ?_) (fun hf => ?_)
  · refine kx_iload_n K dX8_breaks_17 rfl 1 rfl ?_
    refine kx_iconst (v := 3) K dX8_breaks_18 (by decide) ?_
    refine kx_icmp_ne K 52 hf dX8_breaks_19 (by decide) (fun hf => ?_) (fun hf => ?_)
    · refine kx_iconst (v := 0) K dX8_breaks_52 (by decide) ?_
      refine kx_istore_n K [(2, .int (0 : Int32)), (0, .ref a0), (1, .int a1)] dX8_breaks_53 rfl (by decide) rfl ?_
      refine kx_sub [(0, .ref a0), (1, .int a1), (2, .int (0 : Int32))] [1, 2, 0] rfl ?_
      exact B54 hN_f _ _ hf
    · refine kx_aload_n K dX8_breaks_22 rfl 0 rfl ?_
      refine kx_gi K f_X8_49 dX8_breaks_23 hf (fun x1 hf => ?_)
      refine kx_if_lt K 46 hf dX8_breaks_26 (by decide) (fun hf => ?_) (fun hf => ?_)
      · refine kx_iconst (v := 1) K dX8_breaks_46 (by decide) ?_
        refine kx_goto K 51 dX8_breaks_47 (by decide) ?_
        exact kx_zret K hQ (by decide) (by decide) (fun _ h => h) dX8_breaks_51 hf
      · refine kx_aload_n K dX8_breaks_29 rfl 0 rfl ?_
        refine kx_gi K f_X8_49 dX8_breaks_30 hf (fun x2 hf => ?_)
        refine kx_aload_n K dX8_breaks_33 rfl 0 rfl ?_
        refine kx_gr K f_X8_35 dX8_breaks_34 hf (fun x3 hf => ?_)
        refine kx_grN K fn_X8_68 dX8_breaks_37 hf (fun x4 hf => ?_)
        refine kx_bipush (v := 7) K dX8_breaks_40 (by decide) ?_
        refine kx_ai K dX8_breaks_42 hf (fun x5 hf => ?_)
        refine kx_icmp_le K 50 hf dX8_breaks_43 (by decide) (fun hf => ?_) (fun hf => ?_)
        · refine kx_iconst (v := 0) K dX8_breaks_50 (by decide) ?_
          exact kx_zret K hQ (by decide) (by decide) (fun _ h => h) dX8_breaks_51 hf
        · refine kx_iconst (v := 1) K dX8_breaks_46 (by decide) ?_
          refine kx_goto K 51 dX8_breaks_47 (by decide) ?_
          exact kx_zret K hQ (by decide) (by decide) (fun _ h => h) dX8_breaks_51 hf
  · refine kx_aload_n K dX8_breaks_4 rfl 0 rfl ?_
    refine kx_gi K f_X8_49 dX8_breaks_5 hf (fun x6 hf => ?_)
    refine kx_if_ge K 15 hf dX8_breaks_8 (by decide) (fun hf => ?_) (fun hf => ?_)
    · refine kx_iconst (v := 0) K dX8_breaks_15 (by decide) ?_
      exact kx_zret K hQ (by decide) (by decide) (fun _ h => h) dX8_breaks_16 hf
    · refine kx_iconst (v := 1) K dX8_breaks_11 (by decide) ?_
      refine kx_goto K 16 dX8_breaks_12 (by decide) ?_
      exact kx_zret K hQ (by decide) (by decide) (fun _ h => h) dX8_breaks_16 hf

def m_L_feeds_l20 (K4 : ac_H → Nat → Int32 → Int32 → Option ((Int32 × Nat) × ac_H)) (a0 : Nat) (a1 : Nat) : Nat → ac_H → Nat → Int32 → Int32 → Nat → Int32 → Option ((Int32 × Nat) × ac_H)
  | 0, _, _, _, _, _, _ => none
  | n + 1, σ12, z7, v8, v9, v10, v11 =>
    if v11 < (20 : Int32) then
    (mo_dv v11 (4 : Int32) fun x20 =>
    mo_dv v11 (4 : Int32) fun x21 =>
    mo_ai σ12 v10 0 x21 fun x22 =>
    mo_cv σ12 a1 9 (m_J0_length_8abf5 σ12 a1) fun x24 σ23 =>
    if (v9 + v11) < x24 then
    (mo_cv σ23 a1 9 (m_J0_charAt_5068e σ23 a1 (v9 + v11)) fun x27 σ26 =>
    mo_ui σ26 v10 0 x20 ((x22 <<< ((8 : Int32) &&& 31)) ||| x27) fun σ28 =>
    m_L_feeds_l20 K4 a0 a1 n σ28 z7 v8 v9 v10 (v11 + 1))
    else
    (mo_ui σ23 v10 0 x20 ((x22 <<< ((8 : Int32) &&& 31)) ||| (32 : Int32)) fun σ25 =>
    m_L_feeds_l20 K4 a0 a1 n σ25 z7 v8 v9 v10 (v11 + 1)))
    else
    (mo_ai σ12 v10 0 (0 : Int32) fun x13 =>
    mo_ai σ12 v10 0 (1 : Int32) fun x14 =>
    mo_ai σ12 v10 0 (2 : Int32) fun x15 =>
    mo_ai σ12 v10 0 (3 : Int32) fun x16 =>
    mo_ai σ12 v10 0 (4 : Int32) fun x17 =>
    mo_cv σ12 a0 6 (m_X6_append σ12 a0 x13 x14 x15 x16 x17) fun x19 σ18 =>
    if x19 = (v8 + 20) then
    (K4 σ18 z7 (v8 + 20) (v9 + 20))
    else
    (mo_z (0 : Int32) (some (((0 : Int32), z7), σ18))))
def m_L_feeds_l4  (a0 : Nat) (a1 : Nat) : Nat → ac_H → Nat → Int32 → Int32 → Option ((Int32 × Nat) × ac_H)
  | 0, _, _, _, _ => none
  | n + 1, σ4, z1, v2, v3 =>
    mo_cv σ4 a1 9 (m_J0_length_8abf5 σ4 a1) fun x6 σ5 =>
    if v3 < x6 then
    (m_L_feeds_l20 (fun ρ y0 y1 y2 => m_L_feeds_l4 a0 a1 n ρ y0 y1 y2) a0 a1 hN_f (ac_up σ5 z1 (.inl (0, kx_ar 0 5))) (z1 + 1) v2 v3 z1 (0 : Int32))
    else
    (mo_z (1 : Int32) (some (((1 : Int32), z1), σ5)))
def m_L_feeds (σ : ac_H) (a0 : Nat) (a1 : Nat) (q : Nat) : Option ((Int32 × Nat) × ac_H) :=
  m_L_feeds_l4 a0 a1 12 σ q (0 : Int32) (0 : Int32)
set_option maxRecDepth 100000 in
set_option maxHeartbeats 4000000 in
theorem k_L_feeds {Λ : ex_L} {q : Nat} {σ σ' : ac_H} {a0 : Nat} {a1 : Nat} {v : (Int32 × Nat)} (hf : m_L_feeds σ a0 a1 q = some (v, σ')) : kx_C Λ yL_feeds (.code yL_feeds cL_feeds 6 (some .boolean)) ({ frames := 4, cells := 12, slots := 60, locals := 86 } : Room) [.ref a0, .ref a1] q σ (.inr (some (.int v.1))) σ' (fun z => z = v.2) := by
  refine kx_in (by decide +kernel) (Nat.le_of_ble_eq_true rfl) ?_
  intro Γ K hnm hsz hQ
  refine kx_lv (lv' := [(0, .ref a0), (1, .ref a1)]) rfl ?_
  have B4 : ∀ (n4 : Nat) (k0 n0 : Nat) (σ4 : ac_H) (z1 : Nat) (v2 : Int32) (v3 : Int32), k0 + 1 * n4 ≤ 12 → n0 + 5 * n4 ≤ 60 → m_L_feeds_l4 a0 a1 n4 σ4 z1 v2 v3 = some (v, σ') → kx_S Λ Γ 6 (fun z => z = z1) σ4 (k0) (n0) 4 [(0, .ref a0), (1, .ref a1), (2, .int v2), (3, .int v3)] [] := by
    intro n4
    induction n4 with
    | zero =>
      intro k0 n0 σ4 z1 v2 v3 hk0 hn0 hf
      rw [m_L_feeds_l4] at hf
      cases hf
    | succ n4 ih4 =>
      have B20 : ∀ (n20 : Nat) (k0 n0 : Nat) (σ12 : ac_H) (z7 : Nat) (v8 : Int32) (v9 : Int32) (v10 : Nat) (v11 : Int32), k0 + 1 * n4 ≤ 12 → n0 + 5 * n4 ≤ 60 → m_L_feeds_l20 (fun ρ y0 y1 y2 => m_L_feeds_l4 a0 a1 n4 ρ y0 y1 y2) a0 a1 n20 σ12 z7 v8 v9 v10 v11 = some (v, σ') → kx_S Λ Γ 6 (fun z => z = z7) σ12 (k0) (n0) 20 [(0, .ref a0), (1, .ref a1), (2, .int v8), (3, .int v9), (4, .ref v10), (5, .int v11)] [] := by
        intro n20
        induction n20 with
        | zero =>
          intro k0 n0 σ12 z7 v8 v9 v10 v11 hk0 hn0 hf
          rw [m_L_feeds_l20] at hf
          cases hf
        | succ n20 ih20 =>
          intro k0 n0 σ12 z7 v8 v9 v10 v11 hk0 hn0 hf
          rw [m_L_feeds_l20] at hf
          refine kx_iload K dL_feeds_20 5 rfl ?_
          refine kx_bipush (v := 20) K dL_feeds_22 (by decide) ?_
          refine kx_icmp_ge K 75 hf dL_feeds_24 (by decide) (fun hf => ?_) (fun hf => ?_)
          · refine kx_iinc (v := (v8 + 20)) K [(2, .int (v8 + 20)), (0, .ref a0), (1, .ref a1), (3, .int v9), (4, .ref v10), (5, .int v11)] dL_feeds_75 2 rfl rfl (by decide) rfl ?_
            refine kx_aload_n K dL_feeds_78 rfl 1 rfl ?_
            refine kx_aload K dL_feeds_79 4 rfl ?_
            refine kx_iconst (v := 0) K dL_feeds_81 (by decide) ?_
            refine kx_ai K dL_feeds_82 hf (fun x13 hf => ?_)
            refine kx_aload K dL_feeds_83 4 rfl ?_
            refine kx_iconst (v := 1) K dL_feeds_85 (by decide) ?_
            refine kx_ai K dL_feeds_86 hf (fun x14 hf => ?_)
            refine kx_aload K dL_feeds_87 4 rfl ?_
            refine kx_iconst (v := 2) K dL_feeds_89 (by decide) ?_
            refine kx_ai K dL_feeds_90 hf (fun x15 hf => ?_)
            refine kx_aload K dL_feeds_91 4 rfl ?_
            refine kx_iconst (v := 3) K dL_feeds_93 (by decide) ?_
            refine kx_ai K dL_feeds_94 hf (fun x16 hf => ?_)
            refine kx_aload K dL_feeds_95 4 rfl ?_
            refine kx_iconst (v := 4) K dL_feeds_97 (by decide) ?_
            refine kx_ai K dL_feeds_98 hf (fun x17 hf => ?_)
            refine kx_cv5i K c_L_17 ⟨by decide, by decide, rfl, rfl, (show k0 ≤ 12 by omega), (show n0 ≤ 60 by omega)⟩ (Nat.le_of_ble_eq_true rfl) dL_feeds_99 hf (fun _ _ _ h => k_X6_append h) (fun x19 σ18 hf => ?_)
            refine kx_iload_n K dL_feeds_102 rfl 0 rfl ?_
            refine kx_icmp_eq K 108 hf dL_feeds_103 (by decide) (fun hf => ?_) (fun hf => ?_)
            · refine kx_iinc (v := (v9 + 20)) K [(3, .int (v9 + 20)), (2, .int (v8 + 20)), (0, .ref a0), (1, .ref a1), (4, .ref v10), (5, .int v11)] dL_feeds_108 3 rfl rfl (by decide) rfl ?_
              refine kx_goto K 4 dL_feeds_111 (by decide) ?_
              refine kx_sub [(0, .ref a0), (1, .ref a1), (2, .int (v8 + 20)), (3, .int (v9 + 20))] [2, 3, 1, 0] rfl ?_
              exact ih4 (k0) (n0) _ _ _ _ (by omega) (by omega) hf
            · refine kx_iconst (v := 0) K dL_feeds_106 (by decide) ?_
              exact kx_zretZ K hQ (show k0 ≤ 12 by omega) (show n0 ≤ 60 by omega) dL_feeds_107 hf
          · refine kx_aload K dL_feeds_27 4 rfl ?_
            refine kx_iload K dL_feeds_29 5 rfl ?_
            refine kx_iconst (v := 4) K dL_feeds_31 (by decide) ?_
            refine kx_idiv K dL_feeds_32 hf (fun x20 hf => ?_)
            refine kx_aload K dL_feeds_33 4 rfl ?_
            refine kx_iload K dL_feeds_35 5 rfl ?_
            refine kx_iconst (v := 4) K dL_feeds_37 (by decide) ?_
            refine kx_idiv K dL_feeds_38 hf (fun x21 hf => ?_)
            refine kx_ai K dL_feeds_39 hf (fun x22 hf => ?_)
            refine kx_bipush (v := 8) K dL_feeds_40 (by decide) ?_
            refine kx_ishl K dL_feeds_42 ?_
            refine kx_iload_n K dL_feeds_43 rfl 3 rfl ?_
            refine kx_iload K dL_feeds_44 5 rfl ?_
            refine kx_iadd K dL_feeds_46 ?_
            refine kx_aload_n K dL_feeds_47 rfl 1 rfl ?_
            refine kx_cv0i K c_L_7 ⟨by decide, by decide, rfl, rfl, (show k0 ≤ 12 by omega), (show n0 ≤ 60 by omega)⟩ (Nat.le_of_ble_eq_true rfl) dL_feeds_48 hf (fun _ _ _ h => k_J0_length_8abf5 h) (fun x24 σ23 hf => ?_)
            refine kx_icmp_ge K 65 hf dL_feeds_51 (by decide) (fun hf => ?_) (fun hf => ?_)
            · refine kx_bipush (v := 32) K dL_feeds_65 (by decide) ?_
              refine kx_ior K dL_feeds_67 ?_
              refine kx_ui K dL_feeds_68 hf (fun σ25 hf => ?_)
              refine kx_iinc (v := (v11 + 1)) K [(5, .int (v11 + 1)), (0, .ref a0), (1, .ref a1), (2, .int v8), (3, .int v9), (4, .ref v10)] dL_feeds_69 5 rfl rfl (by decide) rfl ?_
              refine kx_goto K 20 dL_feeds_72 (by decide) ?_
              refine kx_sub [(0, .ref a0), (1, .ref a1), (2, .int v8), (3, .int v9), (4, .ref v10), (5, .int (v11 + 1))] [1, 2, 3, 4, 5, 0] rfl ?_
              exact ih20 (k0) (n0) _ _ _ _ _ _ (by omega) (by omega) hf
            · refine kx_aload_n K dL_feeds_54 rfl 1 rfl ?_
              refine kx_iload_n K dL_feeds_55 rfl 3 rfl ?_
              refine kx_iload K dL_feeds_56 5 rfl ?_
              refine kx_iadd K dL_feeds_58 ?_
              refine kx_cv1i K c_L_13 ⟨by decide, by decide, rfl, rfl, (show k0 ≤ 12 by omega), (show n0 ≤ 60 by omega)⟩ (Nat.le_of_ble_eq_true rfl) dL_feeds_59 hf (fun _ _ _ h => k_J0_charAt_5068e h) (fun x27 σ26 hf => ?_)
              refine kx_goto K 67 dL_feeds_62 (by decide) ?_
              refine kx_ior K dL_feeds_67 ?_
              refine kx_ui K dL_feeds_68 hf (fun σ28 hf => ?_)
              refine kx_iinc (v := (v11 + 1)) K [(5, .int (v11 + 1)), (0, .ref a0), (1, .ref a1), (2, .int v8), (3, .int v9), (4, .ref v10)] dL_feeds_69 5 rfl rfl (by decide) rfl ?_
              refine kx_goto K 20 dL_feeds_72 (by decide) ?_
              refine kx_sub [(0, .ref a0), (1, .ref a1), (2, .int v8), (3, .int v9), (4, .ref v10), (5, .int (v11 + 1))] [1, 2, 3, 4, 5, 0] rfl ?_
              exact ih20 (k0) (n0) _ _ _ _ _ _ (by omega) (by omega) hf
      intro k0 n0 σ4 z1 v2 v3 hk0 hn0 hf
      rw [m_L_feeds_l4] at hf
      refine kx_iload_n K dL_feeds_4 rfl 3 rfl ?_
      refine kx_aload_n K dL_feeds_5 rfl 1 rfl ?_
      refine kx_cv0i K c_L_7 ⟨by decide, by decide, rfl, rfl, (show k0 ≤ 12 by omega), (show n0 ≤ 60 by omega)⟩ (Nat.le_of_ble_eq_true rfl) dL_feeds_6 hf (fun _ _ _ h => k_J0_length_8abf5 h) (fun x6 σ5 hf => ?_)
      refine kx_icmp_ge K 114 hf dL_feeds_9 (by decide) (fun hf => ?_) (fun hf => ?_)
      · refine kx_iconst (v := 1) K dL_feeds_114 (by decide) ?_
        exact kx_zretZ K hQ (show k0 ≤ 12 by omega) (show n0 ≤ 60 by omega) dL_feeds_115 hf
      · refine kx_iconst (v := 5) K dL_feeds_12 (by decide) ?_
        refine kx_newa (kd := 0) (M := 5) (at9 := .int) K (by decide) rfl w_3 (by decide) (by decide) (show k0 + 1 ≤ 12 by omega) (show n0 + 5 ≤ 60 by omega) dL_feeds_13 ?_
        refine kx_wd (k' := k0 + 1) (n' := n0 + 5) (by omega) (by omega) ?_
        refine kx_astore K [(4, .ref z1), (0, .ref a0), (1, .ref a1), (2, .int v2), (3, .int v3)] dL_feeds_15 (by decide) rfl ?_
        refine kx_iconst (v := 0) K dL_feeds_17 (by decide) ?_
        refine kx_istore K [(5, .int (0 : Int32)), (4, .ref z1), (0, .ref a0), (1, .ref a1), (2, .int v2), (3, .int v3)] dL_feeds_18 (by decide) rfl ?_
        refine kx_sub [(0, .ref a0), (1, .ref a1), (2, .int v2), (3, .int v3), (4, .ref z1), (5, .int (0 : Int32))] [2, 3, 4, 5, 1, 0] rfl ?_
        exact B20 hN_f (k0 + 1) (n0 + 5) _ _ _ _ _ _ (by omega) (by omega) hf
  unfold m_L_feeds at hf
  refine kx_iconst (v := 0) K dL_feeds_0 (by decide) ?_
  refine kx_istore_n K [(2, .int (0 : Int32)), (0, .ref a0), (1, .ref a1)] dL_feeds_1 rfl (by decide) rfl ?_
  refine kx_iconst (v := 0) K dL_feeds_2 (by decide) ?_
  refine kx_istore_n K [(3, .int (0 : Int32)), (2, .int (0 : Int32)), (0, .ref a0), (1, .ref a1)] dL_feeds_3 rfl (by decide) rfl ?_
  refine kx_sub [(0, .ref a0), (1, .ref a1), (2, .int (0 : Int32)), (3, .int (0 : Int32))] [2, 3, 1, 0] rfl ?_
  exact B4 12 (0) (0) _ _ _ _ (by omega) (by omega) hf
def m_L_draw (σ : ac_H) (a0 : Nat) (a1 : Int32) : Option (Int32 × ac_H) :=
  mo_ai σ a0 0 (0 : Int32) fun x1 =>
  mo_ui σ a0 0 (0 : Int32) ((x1 * (1664525 : Int32)) + (1013904223 : Int32)) fun σ2 =>
  mo_ai σ2 a0 0 (0 : Int32) fun x3 =>
  mo_rm (((x3).toUInt32 >>> (((8 : Int32)).toUInt32 &&& Int32.toUInt32 31)).toInt32) a1 fun x4 =>
  some (x4, σ2)
set_option maxRecDepth 100000 in
set_option maxHeartbeats 4000000 in
theorem k_L_draw {Λ : ex_L} {q : Nat} {σ σ' : ac_H} {a0 : Nat} {a1 : Int32} {v : Int32} (hf : m_L_draw σ a0 a1 = some (v, σ')) : kx_C Λ yL_draw (.code yL_draw cL_draw 2 (some .int)) ({ frames := 0, cells := 0, slots := 0, locals := 0 } : Room) [.ref a0, .int a1] q σ (.inr (some (.int v))) σ' (fun z => z = q) := by
  refine kx_in (by decide +kernel) (Nat.le_of_ble_eq_true rfl) ?_
  intro Γ K hnm hsz hQ
  refine kx_lv (lv' := [(0, .ref a0), (1, .int a1)]) rfl ?_
  unfold m_L_draw at hf
  refine kx_aload_n K dL_draw_0 rfl 0 rfl ?_
  refine kx_iconst (v := 0) K dL_draw_1 (by decide) ?_
  refine kx_aload_n K dL_draw_2 rfl 0 rfl ?_
  refine kx_iconst (v := 0) K dL_draw_3 (by decide) ?_
  refine kx_ai K dL_draw_4 hf (fun x1 hf => ?_)
  refine kx_ldc (v := 1664525) K dL_draw_5 w_149 ?_
  refine kx_imul K dL_draw_7 ?_
  refine kx_ldc (v := 1013904223) K dL_draw_8 w_150 ?_
  refine kx_iadd K dL_draw_10 ?_
  refine kx_ui K dL_draw_11 hf (fun σ2 hf => ?_)
  refine kx_aload_n K dL_draw_12 rfl 0 rfl ?_
  refine kx_iconst (v := 0) K dL_draw_13 (by decide) ?_
  refine kx_ai K dL_draw_14 hf (fun x3 hf => ?_)
  refine kx_bipush (v := 8) K dL_draw_15 (by decide) ?_
  refine kx_iushr K dL_draw_17 ?_
  refine kx_iload_n K dL_draw_18 rfl 1 rfl ?_
  refine kx_irem K dL_draw_19 hf (fun x4 hf => ?_)
  exact kx_iret K hQ (by decide) (by decide) (fun _ h => h) dL_draw_20 hf
def m_L_bench_j337 (K236 : ac_H → Nat → Nat → Int32 → Option ((Nat × Nat) × ac_H)) (a0 : Nat) (a1 : Nat) (σ143 : ac_H) (z138 : Nat) (v139 : Nat) (v140 : Int32) (v141 : Int32) (v142 : Int32) : Option ((Nat × Nat) × ac_H) :=
  if v142 = (2 : Int32) then
  (mo_gr σ143 v139 7 1 fun x144 =>
  mo_ai σ143 x144 0 v141 fun x145 =>
  if x145 = 0 then
  (mo_gr σ143 v139 7 1 fun x146 =>
  mo_cs (m_L_draw σ143 a1 (20 : Int32)) fun x148 σ147 =>
  mo_ui σ147 x146 0 v141 ((1 : Int32) + x148) fun σ149 =>
  mo_cv σ149 a0 10 (m_J4_append_15ec4 σ149 a0 18 z138) fun x151 σ150 =>
  mo_cv σ150 x151.1 10 (m_J4_append_bf812 σ150 x151.1 v141 x151.2) fun x154 σ153 =>
  mo_cv σ153 x154.1 10 (m_J4_append_cf468 σ153 x154.1 (32 : Int32) x154.2) fun x157 σ156 =>
  mo_gr σ156 v139 7 1 fun x159 =>
  mo_ai σ156 x159 0 v141 fun x160 =>
  mo_cv σ156 x157.1 10 (m_J4_append_bf812 σ156 x157.1 x160 x157.2) fun x162 σ161 =>
  mo_cv σ161 x162.1 10 (m_J4_append_cf468 σ161 x162.1 (59 : Int32) x162.2) fun x165 σ164 =>
  K236 σ164 x165.2 v139 (v140 + (-1)))
  else
  (K236 σ143 z138 v139 (v140 + (-1))))
  else
  (K236 σ143 z138 v139 (v140 + (-1)))
def m_L_bench_j296 (K236 : ac_H → Nat → Nat → Int32 → Option ((Nat × Nat) × ac_H)) (a0 : Nat) (a1 : Nat) (σ124 : ac_H) (z119 : Nat) (v120 : Nat) (v121 : Int32) (v122 : Int32) (v123 : Int32) : Option ((Nat × Nat) × ac_H) :=
  if v123 = (1 : Int32) then
  (mo_gr σ124 v120 7 3 fun x125 =>
  mo_ai σ124 x125 2 v122 fun x126 =>
  if x126 = 0 then
  (mo_gr σ124 v120 7 3 fun x127 =>
  mo_ui σ124 x127 2 v122 (vp_nar .boolean (1 : Int32)) fun σ128 =>
  mo_cv σ128 a0 10 (m_J4_append_15ec4 σ128 a0 17 z119) fun x130 σ129 =>
  mo_cv σ129 x130.1 10 (m_J4_append_bf812 σ129 x130.1 v122 x130.2) fun x133 σ132 =>
  mo_cv σ132 x133.1 10 (m_J4_append_cf468 σ132 x133.1 (59 : Int32) x133.2) fun x136 σ135 =>
  m_L_bench_j337 K236 a0 a1 σ135 x136.2 v120 v121 v122 v123)
  else
  (m_L_bench_j337 K236 a0 a1 σ124 z119 v120 v121 v122 v123))
  else
  (m_L_bench_j337 K236 a0 a1 σ124 z119 v120 v121 v122 v123)
def m_L_bench_l236  (a0 : Nat) (a1 : Nat) : Nat → ac_H → Nat → Nat → Int32 → Option ((Nat × Nat) × ac_H)
  | 0, _, _, _, _ => none
  | n + 1, σ101, z98, v99, v100 =>
    if 0 < v100 then
    (mo_cs (m_L_draw σ101 a1 (16 : Int32)) fun x103 σ102 =>
    mo_cs (m_L_draw σ102 a1 (3 : Int32)) fun x105 σ104 =>
    if x105 = 0 then
    (mo_gr σ104 v99 7 2 fun x106 =>
    mo_ai σ104 x106 2 x103 fun x107 =>
    if x107 = 0 then
    (mo_gr σ104 v99 7 2 fun x108 =>
    mo_ui σ104 x108 2 x103 (vp_nar .boolean (1 : Int32)) fun σ109 =>
    mo_cv σ109 a0 10 (m_J4_append_15ec4 σ109 a0 16 z98) fun x111 σ110 =>
    mo_cv σ110 x111.1 10 (m_J4_append_bf812 σ110 x111.1 x103 x111.2) fun x114 σ113 =>
    mo_cv σ113 x114.1 10 (m_J4_append_cf468 σ113 x114.1 (59 : Int32) x114.2) fun x117 σ116 =>
    m_L_bench_j296 (fun ρ y0 y1 y2 => m_L_bench_l236 a0 a1 n ρ y0 y1 y2) a0 a1 σ116 x117.2 v99 v100 x103 x105)
    else
    (m_L_bench_j296 (fun ρ y0 y1 y2 => m_L_bench_l236 a0 a1 n ρ y0 y1 y2) a0 a1 σ104 z98 v99 v100 x103 x105))
    else
    (m_L_bench_j296 (fun ρ y0 y1 y2 => m_L_bench_l236 a0 a1 n ρ y0 y1 y2) a0 a1 σ104 z98 v99 v100 x103 x105))
    else
    (some ((v99, z98), σ101))
def m_L_bench_j141  (a0 : Nat) (a1 : Nat) (σ40 : ac_H) (z35 : Nat) (v36 : Nat) (v37 : Nat) (w38 : Nat) (w39 : Nat) : Option ((Nat × Nat) × ac_H) :=
  mo_cv σ40 w39 10 (m_J4_append_15ec4 σ40 w39 w38 z35) fun x42 σ41 =>
  mo_cv σ41 x42.1 10 (m_J4_append_cf468 σ41 x42.1 (32 : Int32) x42.2) fun x45 σ44 =>
  mo_ai σ44 v37 0 (1 : Int32) fun x47 =>
  mo_cv σ44 x45.1 10 (m_J4_append_bf812 σ44 x45.1 x47 x45.2) fun x49 σ48 =>
  mo_cv σ48 x49.1 10 (m_J4_append_cf468 σ48 x49.1 (32 : Int32) x49.2) fun x52 σ51 =>
  mo_ai σ51 v37 0 (2 : Int32) fun x54 =>
  mo_cv σ51 x52.1 10 (m_J4_append_bf812 σ51 x52.1 x54 x52.2) fun x56 σ55 =>
  mo_cv σ55 x56.1 10 (m_J4_append_15ec4 σ55 x56.1 12 x56.2) fun x59 σ58 =>
  mo_ai σ58 v37 0 (3 : Int32) fun x61 =>
  mo_cv σ58 x59.1 10 (m_J4_append_bf812 σ58 x59.1 x61 x59.2) fun x63 σ62 =>
  mo_cv σ62 x63.1 10 (m_J4_append_15ec4 σ62 x63.1 13 x63.2) fun x66 σ65 =>
  mo_ai σ65 v37 0 (4 : Int32) fun x68 =>
  mo_cv σ65 x66.1 10 (m_J4_append_bf812 σ65 x66.1 x68 x66.2) fun x70 σ69 =>
  mo_cv σ69 x70.1 10 (m_J4_append_15ec4 σ69 x70.1 14 x70.2) fun x73 σ72 =>
  mo_ai σ72 v37 0 (5 : Int32) fun x75 =>
  mo_cv σ72 x73.1 10 (m_J4_append_bf812 σ72 x73.1 x75 x73.2) fun x77 σ76 =>
  mo_cv σ76 x77.1 10 (m_J4_append_cf468 σ76 x77.1 (32 : Int32) x77.2) fun x80 σ79 =>
  mo_ai σ79 v37 0 (6 : Int32) fun x82 =>
  mo_cv σ79 x80.1 10 (m_J4_append_bf812 σ79 x80.1 x82 x80.2) fun x84 σ83 =>
  mo_cv σ83 x84.1 10 (m_J4_append_15ec4 σ83 x84.1 15 x84.2) fun x87 σ86 =>
  mo_ai σ86 v37 0 (7 : Int32) fun x89 =>
  mo_cv σ86 x87.1 10 (m_J4_append_bf812 σ86 x87.1 x89 x87.2) fun x91 σ90 =>
  mo_cv σ90 x91.1 10 (m_J4_append_cf468 σ90 x91.1 (59 : Int32) x91.2) fun x94 σ93 =>
  mo_cs (m_L_draw σ93 a1 (5 : Int32)) fun x97 σ96 =>
  m_L_bench_l236 a0 a1 8 σ96 x94.2 v36 x97
def m_L_bench (σ : ac_H) (a0 : Nat) (a1 : Nat) (q : Nat) : Option ((Nat × Nat) × ac_H) :=
  mo_cs (m_X7_init (ac_up σ q (.inr (7, [.null, .null, .null, .null]))) q (q + 1)) fun z3 σ2 =>
  mo_cs (m_L_draw (ac_up σ2 z3 (.inl (0, kx_ar 0 8))) a1 (3 : Int32)) fun x5 σ4 =>
  mo_ui σ4 z3 0 (0 : Int32) x5 fun σ6 =>
  mo_cs (m_L_draw σ6 a1 (5 : Int32)) fun x8 σ7 =>
  mo_ui σ7 z3 0 (1 : Int32) ((1 : Int32) + x8) fun σ9 =>
  mo_cs (m_L_draw σ9 a1 (50 : Int32)) fun x11 σ10 =>
  mo_ui σ10 z3 0 (2 : Int32) ((10 : Int32) + x11) fun σ12 =>
  mo_cs (m_L_draw σ12 a1 (3 : Int32)) fun x14 σ13 =>
  mo_ui σ13 z3 0 (3 : Int32) ((1 : Int32) + x14) fun σ15 =>
  mo_cs (m_L_draw σ15 a1 (12 : Int32)) fun x17 σ16 =>
  mo_ui σ16 z3 0 (4 : Int32) ((1 : Int32) + x17) fun σ18 =>
  mo_cs (m_L_draw σ18 a1 (4 : Int32)) fun x20 σ19 =>
  mo_ui σ19 z3 0 (5 : Int32) ((1 : Int32) + x20) fun σ21 =>
  mo_cs (m_L_draw σ21 a1 (7 : Int32)) fun x23 σ22 =>
  mo_ui σ22 z3 0 (6 : Int32) ((2 : Int32) + x23) fun σ24 =>
  mo_cs (m_L_draw σ24 a1 (60 : Int32)) fun x26 σ25 =>
  mo_ui σ25 z3 0 (7 : Int32) ((1 : Int32) + x26) fun σ27 =>
  mo_gr σ27 q 7 0 fun x28 =>
  mo_cp σ27 z3 x28 0 (0 : Int32) (0 : Int32) (8 : Int32) fun σ29 =>
  mo_cv σ29 a0 10 (m_J4_append_15ec4 σ29 a0 11 (z3 + 1)) fun x31 σ30 =>
  mo_ai σ30 z3 0 (0 : Int32) fun x33 =>
  if x33 = 0 then
  (m_L_bench_j141 a0 a1 σ30 x31.2 q z3 1 x31.1)
  else
  (mo_ai σ30 z3 0 (0 : Int32) fun x34 =>
  if x34 = (1 : Int32) then
  (m_L_bench_j141 a0 a1 σ30 x31.2 q z3 2 x31.1)
  else
  (m_L_bench_j141 a0 a1 σ30 x31.2 q z3 3 x31.1))
set_option maxRecDepth 100000 in
set_option maxHeartbeats 4000000 in
theorem k_L_bench {Λ : ex_L} {q : Nat} {σ σ' : ac_H} {a0 : Nat} {a1 : Nat} {v : (Nat × Nat)} (hf : m_L_bench σ a0 a1 q = some (v, σ')) : kx_C Λ yL_bench (.code yL_bench cL_bench 7 (some (.object "FaultBenchLaw$Plan"))) ({ frames := 6, cells := 111, slots := 31880, locals := 135 } : Room) [.ref a0, .ref a1] q σ (.inr (some (.ref v.1))) σ' (fun z => z = v.2) := by
  refine kx_in (by decide +kernel) (Nat.le_of_ble_eq_true rfl) ?_
  intro Γ K hnm hsz hQ
  refine kx_lv (lv' := [(0, .ref a0), (1, .ref a1)]) rfl ?_
  have B236 : ∀ (n236 : Nat) (k0 n0 : Nat) (σ101 : ac_H) (z98 : Nat) (v99 : Nat) (v100 : Int32), k0 + 11 * n236 ≤ 111 → n0 + 3300 * n236 ≤ 31880 → m_L_bench_l236 a0 a1 n236 σ101 z98 v99 v100 = some (v, σ') → kx_S Λ Γ 7 (fun z => z = z98) σ101 (k0) (n0) 236 [(0, .ref a0), (1, .ref a1), (2, .ref v99), (4, .int v100)] [] := by
    intro n236
    induction n236 with
    | zero =>
      intro k0 n0 σ101 z98 v99 v100 hk0 hn0 hf
      rw [m_L_bench_l236] at hf
      cases hf
    | succ n236 ih236 =>
      have B337 : ∀ (k0 n0 : Nat) (σ143 : ac_H) (z138 : Nat) (v139 : Nat) (v140 : Int32) (v141 : Int32) (v142 : Int32), k0 + 5 + 11 * n236 ≤ 111 → n0 + 1500 + 3300 * n236 ≤ 31880 → m_L_bench_j337 (fun ρ y0 y1 y2 => m_L_bench_l236 a0 a1 n236 ρ y0 y1 y2) a0 a1 σ143 z138 v139 v140 v141 v142 = some (v, σ') → kx_S Λ Γ 7 (fun z => z = z138) σ143 (k0) (n0) 337 [(0, .ref a0), (1, .ref a1), (2, .ref v139), (4, .int v140), (5, .int v141), (6, .int v142)] [] := by
        intro k0 n0 σ143 z138 v139 v140 v141 v142 hk0 hn0 hf
        unfold m_L_bench_j337 at hf
        refine kx_iload K dL_bench_337 5 rfl ?_
        refine kx_iconst (v := 2) K dL_bench_339 (by decide) ?_
        refine kx_icmp_ne K 400 hf dL_bench_340 (by decide) (fun hf => ?_) (fun hf => ?_)
        · refine kx_iinc (v := (v140 + (-1))) K [(4, .int (v140 + (-1))), (0, .ref a0), (1, .ref a1), (2, .ref v139), (5, .int v141), (6, .int v142)] dL_bench_400 3 rfl rfl (by decide) rfl ?_
          refine kx_goto K 236 dL_bench_403 (by decide) ?_
          refine kx_sub [(0, .ref a0), (1, .ref a1), (2, .ref v139), (4, .int (v140 + (-1)))] [1, 2, 3, 0] rfl ?_
          exact ih236 (k0) (n0) _ _ _ _ (by omega) (by omega) hf
        · refine kx_aload_n K dL_bench_343 rfl 2 rfl ?_
          refine kx_grN K fn_L_87 dL_bench_344 hf (fun x144 hf => ?_)
          refine kx_iload K dL_bench_347 4 rfl ?_
          refine kx_ai K dL_bench_349 hf (fun x145 hf => ?_)
          refine kx_if_ne K 400 hf dL_bench_350 (by decide) (fun hf => ?_) (fun hf => ?_)
          · refine kx_iinc (v := (v140 + (-1))) K [(4, .int (v140 + (-1))), (0, .ref a0), (1, .ref a1), (2, .ref v139), (5, .int v141), (6, .int v142)] dL_bench_400 3 rfl rfl (by decide) rfl ?_
            refine kx_goto K 236 dL_bench_403 (by decide) ?_
            refine kx_sub [(0, .ref a0), (1, .ref a1), (2, .ref v139), (4, .int (v140 + (-1)))] [1, 2, 3, 0] rfl ?_
            exact ih236 (k0) (n0) _ _ _ _ (by omega) (by omega) hf
          · refine kx_aload_n K dL_bench_353 rfl 2 rfl ?_
            refine kx_grN K fn_L_87 dL_bench_354 hf (fun x146 hf => ?_)
            refine kx_iload K dL_bench_357 4 rfl ?_
            refine kx_iconst (v := 1) K dL_bench_359 (by decide) ?_
            refine kx_aload_n K dL_bench_360 rfl 1 rfl ?_
            refine kx_bipush (v := 20) K dL_bench_361 (by decide) ?_
            refine kx_cs2i K c_L_35 ⟨by decide, by decide, rfl, rfl, (show k0 ≤ 111 by omega), (show n0 ≤ 31880 by omega)⟩ (Nat.le_of_ble_eq_true rfl) dL_bench_363 hf (fun _ _ _ h => k_L_draw h) (fun x148 σ147 hf => ?_)
            refine kx_iadd K dL_bench_366 ?_
            refine kx_ui K dL_bench_367 hf (fun σ149 hf => ?_)
            refine kx_aload_n K dL_bench_368 rfl 0 rfl ?_
            refine kx_ldcS K 21 (by decide) rfl rfl dL_bench_369 ?_
            refine kx_av (rmy := { frames := 5, cells := 1, slots := 300, locals := 113 }) (k' := k0 + 1) (n' := n0 + 300) (ρ := Nat × Nat) K [.ref (ex_k Λ 18)] (fun x => some (.ref x.1)) (fun x => x.2) c_L_51 ⟨by decide, by decide, by show k0 + 1 = k0 + 1; omega, by show n0 + 300 = n0 + 300; omega, (show k0 + 1 ≤ 111 by omega), (show n0 + 300 ≤ 31880 by omega)⟩ rfl rfl (Nat.le_of_ble_eq_true rfl) dL_bench_371 hf (fun _ _ h => k_J4_append_15ec4 h) (fun x151 σ150 hf => ?_)
            refine kx_wd (k' := k0 + 1) (n' := n0 + 300) (by omega) (by omega) ?_
            refine kx_iload K dL_bench_374 4 rfl ?_
            refine kx_av (rmy := { frames := 5, cells := 1, slots := 300, locals := 114 }) (k' := k0 + 2) (n' := n0 + 600) (ρ := Nat × Nat) K [.int v141] (fun x => some (.ref x.1)) (fun x => x.2) c_L_65 ⟨by decide, by decide, by show k0 + 1 + 1 = k0 + 2; omega, by show n0 + 300 + 300 = n0 + 600; omega, (show k0 + 2 ≤ 111 by omega), (show n0 + 600 ≤ 31880 by omega)⟩ rfl rfl (Nat.le_of_ble_eq_true rfl) dL_bench_376 hf (fun _ _ h => k_J4_append_bf812 h) (fun x154 σ153 hf => ?_)
            refine kx_wd (k' := k0 + 2) (n' := n0 + 600) (by omega) (by omega) ?_
            refine kx_bipush (v := 32) K dL_bench_379 (by decide) ?_
            refine kx_av (rmy := { frames := 5, cells := 1, slots := 300, locals := 112 }) (k' := k0 + 3) (n' := n0 + 900) (ρ := Nat × Nat) K [.int (32 : Int32)] (fun x => some (.ref x.1)) (fun x => x.2) c_L_62 ⟨by decide, by decide, by show k0 + 2 + 1 = k0 + 3; omega, by show n0 + 600 + 300 = n0 + 900; omega, (show k0 + 3 ≤ 111 by omega), (show n0 + 900 ≤ 31880 by omega)⟩ rfl rfl (Nat.le_of_ble_eq_true rfl) dL_bench_381 hf (fun _ _ h => k_J4_append_cf468 h) (fun x157 σ156 hf => ?_)
            refine kx_wd (k' := k0 + 3) (n' := n0 + 900) (by omega) (by omega) ?_
            refine kx_aload_n K dL_bench_384 rfl 2 rfl ?_
            refine kx_grN K fn_L_87 dL_bench_385 hf (fun x159 hf => ?_)
            refine kx_iload K dL_bench_388 4 rfl ?_
            refine kx_ai K dL_bench_390 hf (fun x160 hf => ?_)
            refine kx_av (rmy := { frames := 5, cells := 1, slots := 300, locals := 114 }) (k' := k0 + 4) (n' := n0 + 1200) (ρ := Nat × Nat) K [.int x160] (fun x => some (.ref x.1)) (fun x => x.2) c_L_65 ⟨by decide, by decide, by show k0 + 3 + 1 = k0 + 4; omega, by show n0 + 900 + 300 = n0 + 1200; omega, (show k0 + 4 ≤ 111 by omega), (show n0 + 1200 ≤ 31880 by omega)⟩ rfl rfl (Nat.le_of_ble_eq_true rfl) dL_bench_391 hf (fun _ _ h => k_J4_append_bf812 h) (fun x162 σ161 hf => ?_)
            refine kx_wd (k' := k0 + 4) (n' := n0 + 1200) (by omega) (by omega) ?_
            refine kx_bipush (v := 59) K dL_bench_394 (by decide) ?_
            refine kx_av (rmy := { frames := 5, cells := 1, slots := 300, locals := 112 }) (k' := k0 + 5) (n' := n0 + 1500) (ρ := Nat × Nat) K [.int (59 : Int32)] (fun x => some (.ref x.1)) (fun x => x.2) c_L_62 ⟨by decide, by decide, by show k0 + 4 + 1 = k0 + 5; omega, by show n0 + 1200 + 300 = n0 + 1500; omega, (show k0 + 5 ≤ 111 by omega), (show n0 + 1500 ≤ 31880 by omega)⟩ rfl rfl (Nat.le_of_ble_eq_true rfl) dL_bench_396 hf (fun _ _ h => k_J4_append_cf468 h) (fun x165 σ164 hf => ?_)
            refine kx_wd (k' := k0 + 5) (n' := n0 + 1500) (by omega) (by omega) ?_
            refine kx_pop K dL_bench_399 rfl ?_
            refine kx_iinc (v := (v140 + (-1))) K [(4, .int (v140 + (-1))), (0, .ref a0), (1, .ref a1), (2, .ref v139), (5, .int v141), (6, .int v142)] dL_bench_400 3 rfl rfl (by decide) rfl ?_
            refine kx_goto K 236 dL_bench_403 (by decide) ?_
            refine kx_sub [(0, .ref a0), (1, .ref a1), (2, .ref v139), (4, .int (v140 + (-1)))] [1, 2, 3, 0] rfl ?_
            exact ih236 (k0 + 5) (n0 + 1500) _ _ _ _ (by omega) (by omega) hf
      have B296 : ∀ (k0 n0 : Nat) (σ124 : ac_H) (z119 : Nat) (v120 : Nat) (v121 : Int32) (v122 : Int32) (v123 : Int32), k0 + 8 + 11 * n236 ≤ 111 → n0 + 2400 + 3300 * n236 ≤ 31880 → m_L_bench_j296 (fun ρ y0 y1 y2 => m_L_bench_l236 a0 a1 n236 ρ y0 y1 y2) a0 a1 σ124 z119 v120 v121 v122 v123 = some (v, σ') → kx_S Λ Γ 7 (fun z => z = z119) σ124 (k0) (n0) 296 [(0, .ref a0), (1, .ref a1), (2, .ref v120), (4, .int v121), (5, .int v122), (6, .int v123)] [] := by
        intro k0 n0 σ124 z119 v120 v121 v122 v123 hk0 hn0 hf
        unfold m_L_bench_j296 at hf
        refine kx_iload K dL_bench_296 5 rfl ?_
        refine kx_iconst (v := 1) K dL_bench_298 (by decide) ?_
        refine kx_icmp_ne K 337 hf dL_bench_299 (by decide) (fun hf => ?_) (fun hf => ?_)
        · refine kx_sub [(0, .ref a0), (1, .ref a1), (2, .ref v120), (4, .int v121), (5, .int v122), (6, .int v123)] [0, 1, 2, 3, 4, 5] rfl ?_
          exact B337 (k0) (n0) _ _ _ _ _ _ (by omega) (by omega) hf
        · refine kx_aload_n K dL_bench_302 rfl 2 rfl ?_
          refine kx_grN K fn_L_82 dL_bench_303 hf (fun x125 hf => ?_)
          refine kx_iload K dL_bench_306 4 rfl ?_
          refine kx_az K dL_bench_308 hf (fun x126 hf => ?_)
          refine kx_if_ne K 337 hf dL_bench_309 (by decide) (fun hf => ?_) (fun hf => ?_)
          · refine kx_sub [(0, .ref a0), (1, .ref a1), (2, .ref v120), (4, .int v121), (5, .int v122), (6, .int v123)] [0, 1, 2, 3, 4, 5] rfl ?_
            exact B337 (k0) (n0) _ _ _ _ _ _ (by omega) (by omega) hf
          · refine kx_aload_n K dL_bench_312 rfl 2 rfl ?_
            refine kx_grN K fn_L_82 dL_bench_313 hf (fun x127 hf => ?_)
            refine kx_iload K dL_bench_316 4 rfl ?_
            refine kx_iconst (v := 1) K dL_bench_318 (by decide) ?_
            refine kx_uz K dL_bench_319 hf (fun σ128 hf => ?_)
            refine kx_aload_n K dL_bench_320 rfl 0 rfl ?_
            refine kx_ldcS K 20 (by decide) rfl rfl dL_bench_321 ?_
            refine kx_av (rmy := { frames := 5, cells := 1, slots := 300, locals := 113 }) (k' := k0 + 1) (n' := n0 + 300) (ρ := Nat × Nat) K [.ref (ex_k Λ 17)] (fun x => some (.ref x.1)) (fun x => x.2) c_L_51 ⟨by decide, by decide, by show k0 + 1 = k0 + 1; omega, by show n0 + 300 = n0 + 300; omega, (show k0 + 1 ≤ 111 by omega), (show n0 + 300 ≤ 31880 by omega)⟩ rfl rfl (Nat.le_of_ble_eq_true rfl) dL_bench_323 hf (fun _ _ h => k_J4_append_15ec4 h) (fun x130 σ129 hf => ?_)
            refine kx_wd (k' := k0 + 1) (n' := n0 + 300) (by omega) (by omega) ?_
            refine kx_iload K dL_bench_326 4 rfl ?_
            refine kx_av (rmy := { frames := 5, cells := 1, slots := 300, locals := 114 }) (k' := k0 + 2) (n' := n0 + 600) (ρ := Nat × Nat) K [.int v122] (fun x => some (.ref x.1)) (fun x => x.2) c_L_65 ⟨by decide, by decide, by show k0 + 1 + 1 = k0 + 2; omega, by show n0 + 300 + 300 = n0 + 600; omega, (show k0 + 2 ≤ 111 by omega), (show n0 + 600 ≤ 31880 by omega)⟩ rfl rfl (Nat.le_of_ble_eq_true rfl) dL_bench_328 hf (fun _ _ h => k_J4_append_bf812 h) (fun x133 σ132 hf => ?_)
            refine kx_wd (k' := k0 + 2) (n' := n0 + 600) (by omega) (by omega) ?_
            refine kx_bipush (v := 59) K dL_bench_331 (by decide) ?_
            refine kx_av (rmy := { frames := 5, cells := 1, slots := 300, locals := 112 }) (k' := k0 + 3) (n' := n0 + 900) (ρ := Nat × Nat) K [.int (59 : Int32)] (fun x => some (.ref x.1)) (fun x => x.2) c_L_62 ⟨by decide, by decide, by show k0 + 2 + 1 = k0 + 3; omega, by show n0 + 600 + 300 = n0 + 900; omega, (show k0 + 3 ≤ 111 by omega), (show n0 + 900 ≤ 31880 by omega)⟩ rfl rfl (Nat.le_of_ble_eq_true rfl) dL_bench_333 hf (fun _ _ h => k_J4_append_cf468 h) (fun x136 σ135 hf => ?_)
            refine kx_wd (k' := k0 + 3) (n' := n0 + 900) (by omega) (by omega) ?_
            refine kx_pop K dL_bench_336 rfl ?_
            refine kx_sub [(0, .ref a0), (1, .ref a1), (2, .ref v120), (4, .int v121), (5, .int v122), (6, .int v123)] [0, 1, 2, 3, 4, 5] rfl ?_
            exact B337 (k0 + 3) (n0 + 900) _ _ _ _ _ _ (by omega) (by omega) hf
      intro k0 n0 σ101 z98 v99 v100 hk0 hn0 hf
      rw [m_L_bench_l236] at hf
      refine kx_iload K dL_bench_236 3 rfl ?_
      refine kx_if_le K 406 hf dL_bench_238 (by decide) (fun hf => ?_) (fun hf => ?_)
      · refine kx_aload_n K dL_bench_406 rfl 2 rfl ?_
        exact kx_aretZ K hQ (show k0 ≤ 111 by omega) (show n0 ≤ 31880 by omega) dL_bench_407 hf
      · refine kx_aload_n K dL_bench_241 rfl 1 rfl ?_
        refine kx_bipush (v := 16) K dL_bench_242 (by decide) ?_
        refine kx_cs2i K c_L_35 ⟨by decide, by decide, rfl, rfl, (show k0 ≤ 111 by omega), (show n0 ≤ 31880 by omega)⟩ (Nat.le_of_ble_eq_true rfl) dL_bench_244 hf (fun _ _ _ h => k_L_draw h) (fun x103 σ102 hf => ?_)
        refine kx_istore K [(5, .int x103), (0, .ref a0), (1, .ref a1), (2, .ref v99), (4, .int v100)] dL_bench_247 (by decide) rfl ?_
        refine kx_aload_n K dL_bench_249 rfl 2 rfl ?_
        refine kx_iconst (v := 3) K dL_bench_250 (by decide) ?_
        refine kx_cs2i K c_L_35 ⟨by decide, by decide, rfl, rfl, (show k0 ≤ 111 by omega), (show n0 ≤ 31880 by omega)⟩ (Nat.le_of_ble_eq_true rfl) dL_bench_251 hf (fun _ _ _ h => k_L_draw h) (fun x105 σ104 hf => ?_)
        refine kx_istore K [(6, .int x105), (5, .int x103), (0, .ref a0), (1, .ref a1), (2, .ref v99), (4, .int v100)] dL_bench_254 (by decide) rfl ?_
        refine kx_iload K dL_bench_256 0 rfl ?_
        refine kx_if_ne K 296 hf dL_bench_258 (by decide) (fun hf => ?_) (fun hf => ?_)
        · refine kx_sub [(0, .ref a0), (1, .ref a1), (2, .ref v99), (4, .int v100), (5, .int x103), (6, .int x105)] [2, 3, 4, 5, 1, 0] rfl ?_
          exact B296 (k0) (n0) _ _ _ _ _ _ (by omega) (by omega) hf
        · refine kx_aload_n K dL_bench_261 rfl 4 rfl ?_
          refine kx_grN K fn_L_76 dL_bench_262 hf (fun x106 hf => ?_)
          refine kx_iload K dL_bench_265 1 rfl ?_
          refine kx_az K dL_bench_267 hf (fun x107 hf => ?_)
          refine kx_if_ne K 296 hf dL_bench_268 (by decide) (fun hf => ?_) (fun hf => ?_)
          · refine kx_sub [(0, .ref a0), (1, .ref a1), (2, .ref v99), (4, .int v100), (5, .int x103), (6, .int x105)] [2, 3, 4, 5, 1, 0] rfl ?_
            exact B296 (k0) (n0) _ _ _ _ _ _ (by omega) (by omega) hf
          · refine kx_aload_n K dL_bench_271 rfl 4 rfl ?_
            refine kx_grN K fn_L_76 dL_bench_272 hf (fun x108 hf => ?_)
            refine kx_iload K dL_bench_275 1 rfl ?_
            refine kx_iconst (v := 1) K dL_bench_277 (by decide) ?_
            refine kx_uz K dL_bench_278 hf (fun σ109 hf => ?_)
            refine kx_aload_n K dL_bench_279 rfl 2 rfl ?_
            refine kx_ldcS K 19 (by decide) rfl rfl dL_bench_280 ?_
            refine kx_av (rmy := { frames := 5, cells := 1, slots := 300, locals := 113 }) (k' := k0 + 1) (n' := n0 + 300) (ρ := Nat × Nat) K [.ref (ex_k Λ 16)] (fun x => some (.ref x.1)) (fun x => x.2) c_L_51 ⟨by decide, by decide, by show k0 + 1 = k0 + 1; omega, by show n0 + 300 = n0 + 300; omega, (show k0 + 1 ≤ 111 by omega), (show n0 + 300 ≤ 31880 by omega)⟩ rfl rfl (Nat.le_of_ble_eq_true rfl) dL_bench_282 hf (fun _ _ h => k_J4_append_15ec4 h) (fun x111 σ110 hf => ?_)
            refine kx_wd (k' := k0 + 1) (n' := n0 + 300) (by omega) (by omega) ?_
            refine kx_iload K dL_bench_285 1 rfl ?_
            refine kx_av (rmy := { frames := 5, cells := 1, slots := 300, locals := 114 }) (k' := k0 + 2) (n' := n0 + 600) (ρ := Nat × Nat) K [.int x103] (fun x => some (.ref x.1)) (fun x => x.2) c_L_65 ⟨by decide, by decide, by show k0 + 1 + 1 = k0 + 2; omega, by show n0 + 300 + 300 = n0 + 600; omega, (show k0 + 2 ≤ 111 by omega), (show n0 + 600 ≤ 31880 by omega)⟩ rfl rfl (Nat.le_of_ble_eq_true rfl) dL_bench_287 hf (fun _ _ h => k_J4_append_bf812 h) (fun x114 σ113 hf => ?_)
            refine kx_wd (k' := k0 + 2) (n' := n0 + 600) (by omega) (by omega) ?_
            refine kx_bipush (v := 59) K dL_bench_290 (by decide) ?_
            refine kx_av (rmy := { frames := 5, cells := 1, slots := 300, locals := 112 }) (k' := k0 + 3) (n' := n0 + 900) (ρ := Nat × Nat) K [.int (59 : Int32)] (fun x => some (.ref x.1)) (fun x => x.2) c_L_62 ⟨by decide, by decide, by show k0 + 2 + 1 = k0 + 3; omega, by show n0 + 600 + 300 = n0 + 900; omega, (show k0 + 3 ≤ 111 by omega), (show n0 + 900 ≤ 31880 by omega)⟩ rfl rfl (Nat.le_of_ble_eq_true rfl) dL_bench_292 hf (fun _ _ h => k_J4_append_cf468 h) (fun x117 σ116 hf => ?_)
            refine kx_wd (k' := k0 + 3) (n' := n0 + 900) (by omega) (by omega) ?_
            refine kx_pop K dL_bench_295 rfl ?_
            refine kx_sub [(0, .ref a0), (1, .ref a1), (2, .ref v99), (4, .int v100), (5, .int x103), (6, .int x105)] [2, 3, 4, 5, 1, 0] rfl ?_
            exact B296 (k0 + 3) (n0 + 900) _ _ _ _ _ _ (by omega) (by omega) hf
  have B141 : ∀ (k0 n0 : Nat) (σ40 : ac_H) (z35 : Nat) (v36 : Nat) (v37 : Nat) (w38 : Nat) (w39 : Nat), k0 + 104 ≤ 111 → n0 + 31200 ≤ 31880 → m_L_bench_j141 a0 a1 σ40 z35 v36 v37 w38 w39 = some (v, σ') → kx_S Λ Γ 7 (fun z => z = z35) σ40 (k0) (n0) 141 [(0, .ref a0), (1, .ref a1), (2, .ref v36), (3, .ref v37)] [.ref (ex_k Λ w38), .ref w39] := by
    intro k0 n0 σ40 z35 v36 v37 w38 w39 hk0 hn0 hf
    unfold m_L_bench_j141 at hf
    refine kx_av (rmy := { frames := 5, cells := 1, slots := 300, locals := 113 }) (k' := k0 + 1) (n' := n0 + 300) (ρ := Nat × Nat) K [.ref (ex_k Λ w38)] (fun x => some (.ref x.1)) (fun x => x.2) c_L_51 ⟨by decide, by decide, by show k0 + 1 = k0 + 1; omega, by show n0 + 300 = n0 + 300; omega, (show k0 + 1 ≤ 111 by omega), (show n0 + 300 ≤ 31880 by omega)⟩ rfl rfl (Nat.le_of_ble_eq_true rfl) dL_bench_141 hf (fun _ _ h => k_J4_append_15ec4 h) (fun x42 σ41 hf => ?_)
    refine kx_wd (k' := k0 + 1) (n' := n0 + 300) (by omega) (by omega) ?_
    refine kx_bipush (v := 32) K dL_bench_144 (by decide) ?_
    refine kx_av (rmy := { frames := 5, cells := 1, slots := 300, locals := 112 }) (k' := k0 + 2) (n' := n0 + 600) (ρ := Nat × Nat) K [.int (32 : Int32)] (fun x => some (.ref x.1)) (fun x => x.2) c_L_62 ⟨by decide, by decide, by show k0 + 1 + 1 = k0 + 2; omega, by show n0 + 300 + 300 = n0 + 600; omega, (show k0 + 2 ≤ 111 by omega), (show n0 + 600 ≤ 31880 by omega)⟩ rfl rfl (Nat.le_of_ble_eq_true rfl) dL_bench_146 hf (fun _ _ h => k_J4_append_cf468 h) (fun x45 σ44 hf => ?_)
    refine kx_wd (k' := k0 + 2) (n' := n0 + 600) (by omega) (by omega) ?_
    refine kx_aload_n K dL_bench_149 rfl 3 rfl ?_
    refine kx_iconst (v := 1) K dL_bench_150 (by decide) ?_
    refine kx_ai K dL_bench_151 hf (fun x47 hf => ?_)
    refine kx_av (rmy := { frames := 5, cells := 1, slots := 300, locals := 114 }) (k' := k0 + 3) (n' := n0 + 900) (ρ := Nat × Nat) K [.int x47] (fun x => some (.ref x.1)) (fun x => x.2) c_L_65 ⟨by decide, by decide, by show k0 + 2 + 1 = k0 + 3; omega, by show n0 + 600 + 300 = n0 + 900; omega, (show k0 + 3 ≤ 111 by omega), (show n0 + 900 ≤ 31880 by omega)⟩ rfl rfl (Nat.le_of_ble_eq_true rfl) dL_bench_152 hf (fun _ _ h => k_J4_append_bf812 h) (fun x49 σ48 hf => ?_)
    refine kx_wd (k' := k0 + 3) (n' := n0 + 900) (by omega) (by omega) ?_
    refine kx_bipush (v := 32) K dL_bench_155 (by decide) ?_
    refine kx_av (rmy := { frames := 5, cells := 1, slots := 300, locals := 112 }) (k' := k0 + 4) (n' := n0 + 1200) (ρ := Nat × Nat) K [.int (32 : Int32)] (fun x => some (.ref x.1)) (fun x => x.2) c_L_62 ⟨by decide, by decide, by show k0 + 3 + 1 = k0 + 4; omega, by show n0 + 900 + 300 = n0 + 1200; omega, (show k0 + 4 ≤ 111 by omega), (show n0 + 1200 ≤ 31880 by omega)⟩ rfl rfl (Nat.le_of_ble_eq_true rfl) dL_bench_157 hf (fun _ _ h => k_J4_append_cf468 h) (fun x52 σ51 hf => ?_)
    refine kx_wd (k' := k0 + 4) (n' := n0 + 1200) (by omega) (by omega) ?_
    refine kx_aload_n K dL_bench_160 rfl 3 rfl ?_
    refine kx_iconst (v := 2) K dL_bench_161 (by decide) ?_
    refine kx_ai K dL_bench_162 hf (fun x54 hf => ?_)
    refine kx_av (rmy := { frames := 5, cells := 1, slots := 300, locals := 114 }) (k' := k0 + 5) (n' := n0 + 1500) (ρ := Nat × Nat) K [.int x54] (fun x => some (.ref x.1)) (fun x => x.2) c_L_65 ⟨by decide, by decide, by show k0 + 4 + 1 = k0 + 5; omega, by show n0 + 1200 + 300 = n0 + 1500; omega, (show k0 + 5 ≤ 111 by omega), (show n0 + 1500 ≤ 31880 by omega)⟩ rfl rfl (Nat.le_of_ble_eq_true rfl) dL_bench_163 hf (fun _ _ h => k_J4_append_bf812 h) (fun x56 σ55 hf => ?_)
    refine kx_wd (k' := k0 + 5) (n' := n0 + 1500) (by omega) (by omega) ?_
    refine kx_ldcS K 15 (by decide) rfl rfl dL_bench_166 ?_
    refine kx_av (rmy := { frames := 5, cells := 1, slots := 300, locals := 113 }) (k' := k0 + 6) (n' := n0 + 1800) (ρ := Nat × Nat) K [.ref (ex_k Λ 12)] (fun x => some (.ref x.1)) (fun x => x.2) c_L_51 ⟨by decide, by decide, by show k0 + 5 + 1 = k0 + 6; omega, by show n0 + 1500 + 300 = n0 + 1800; omega, (show k0 + 6 ≤ 111 by omega), (show n0 + 1800 ≤ 31880 by omega)⟩ rfl rfl (Nat.le_of_ble_eq_true rfl) dL_bench_168 hf (fun _ _ h => k_J4_append_15ec4 h) (fun x59 σ58 hf => ?_)
    refine kx_wd (k' := k0 + 6) (n' := n0 + 1800) (by omega) (by omega) ?_
    refine kx_aload_n K dL_bench_171 rfl 3 rfl ?_
    refine kx_iconst (v := 3) K dL_bench_172 (by decide) ?_
    refine kx_ai K dL_bench_173 hf (fun x61 hf => ?_)
    refine kx_av (rmy := { frames := 5, cells := 1, slots := 300, locals := 114 }) (k' := k0 + 7) (n' := n0 + 2100) (ρ := Nat × Nat) K [.int x61] (fun x => some (.ref x.1)) (fun x => x.2) c_L_65 ⟨by decide, by decide, by show k0 + 6 + 1 = k0 + 7; omega, by show n0 + 1800 + 300 = n0 + 2100; omega, (show k0 + 7 ≤ 111 by omega), (show n0 + 2100 ≤ 31880 by omega)⟩ rfl rfl (Nat.le_of_ble_eq_true rfl) dL_bench_174 hf (fun _ _ h => k_J4_append_bf812 h) (fun x63 σ62 hf => ?_)
    refine kx_wd (k' := k0 + 7) (n' := n0 + 2100) (by omega) (by omega) ?_
    refine kx_ldcS K 16 (by decide) rfl rfl dL_bench_177 ?_
    refine kx_av (rmy := { frames := 5, cells := 1, slots := 300, locals := 113 }) (k' := k0 + 8) (n' := n0 + 2400) (ρ := Nat × Nat) K [.ref (ex_k Λ 13)] (fun x => some (.ref x.1)) (fun x => x.2) c_L_51 ⟨by decide, by decide, by show k0 + 7 + 1 = k0 + 8; omega, by show n0 + 2100 + 300 = n0 + 2400; omega, (show k0 + 8 ≤ 111 by omega), (show n0 + 2400 ≤ 31880 by omega)⟩ rfl rfl (Nat.le_of_ble_eq_true rfl) dL_bench_179 hf (fun _ _ h => k_J4_append_15ec4 h) (fun x66 σ65 hf => ?_)
    refine kx_wd (k' := k0 + 8) (n' := n0 + 2400) (by omega) (by omega) ?_
    refine kx_aload_n K dL_bench_182 rfl 3 rfl ?_
    refine kx_iconst (v := 4) K dL_bench_183 (by decide) ?_
    refine kx_ai K dL_bench_184 hf (fun x68 hf => ?_)
    refine kx_av (rmy := { frames := 5, cells := 1, slots := 300, locals := 114 }) (k' := k0 + 9) (n' := n0 + 2700) (ρ := Nat × Nat) K [.int x68] (fun x => some (.ref x.1)) (fun x => x.2) c_L_65 ⟨by decide, by decide, by show k0 + 8 + 1 = k0 + 9; omega, by show n0 + 2400 + 300 = n0 + 2700; omega, (show k0 + 9 ≤ 111 by omega), (show n0 + 2700 ≤ 31880 by omega)⟩ rfl rfl (Nat.le_of_ble_eq_true rfl) dL_bench_185 hf (fun _ _ h => k_J4_append_bf812 h) (fun x70 σ69 hf => ?_)
    refine kx_wd (k' := k0 + 9) (n' := n0 + 2700) (by omega) (by omega) ?_
    refine kx_ldcS K 17 (by decide) rfl rfl dL_bench_188 ?_
    refine kx_av (rmy := { frames := 5, cells := 1, slots := 300, locals := 113 }) (k' := k0 + 10) (n' := n0 + 3000) (ρ := Nat × Nat) K [.ref (ex_k Λ 14)] (fun x => some (.ref x.1)) (fun x => x.2) c_L_51 ⟨by decide, by decide, by show k0 + 9 + 1 = k0 + 10; omega, by show n0 + 2700 + 300 = n0 + 3000; omega, (show k0 + 10 ≤ 111 by omega), (show n0 + 3000 ≤ 31880 by omega)⟩ rfl rfl (Nat.le_of_ble_eq_true rfl) dL_bench_190 hf (fun _ _ h => k_J4_append_15ec4 h) (fun x73 σ72 hf => ?_)
    refine kx_wd (k' := k0 + 10) (n' := n0 + 3000) (by omega) (by omega) ?_
    refine kx_aload_n K dL_bench_193 rfl 3 rfl ?_
    refine kx_iconst (v := 5) K dL_bench_194 (by decide) ?_
    refine kx_ai K dL_bench_195 hf (fun x75 hf => ?_)
    refine kx_av (rmy := { frames := 5, cells := 1, slots := 300, locals := 114 }) (k' := k0 + 11) (n' := n0 + 3300) (ρ := Nat × Nat) K [.int x75] (fun x => some (.ref x.1)) (fun x => x.2) c_L_65 ⟨by decide, by decide, by show k0 + 10 + 1 = k0 + 11; omega, by show n0 + 3000 + 300 = n0 + 3300; omega, (show k0 + 11 ≤ 111 by omega), (show n0 + 3300 ≤ 31880 by omega)⟩ rfl rfl (Nat.le_of_ble_eq_true rfl) dL_bench_196 hf (fun _ _ h => k_J4_append_bf812 h) (fun x77 σ76 hf => ?_)
    refine kx_wd (k' := k0 + 11) (n' := n0 + 3300) (by omega) (by omega) ?_
    refine kx_bipush (v := 32) K dL_bench_199 (by decide) ?_
    refine kx_av (rmy := { frames := 5, cells := 1, slots := 300, locals := 112 }) (k' := k0 + 12) (n' := n0 + 3600) (ρ := Nat × Nat) K [.int (32 : Int32)] (fun x => some (.ref x.1)) (fun x => x.2) c_L_62 ⟨by decide, by decide, by show k0 + 11 + 1 = k0 + 12; omega, by show n0 + 3300 + 300 = n0 + 3600; omega, (show k0 + 12 ≤ 111 by omega), (show n0 + 3600 ≤ 31880 by omega)⟩ rfl rfl (Nat.le_of_ble_eq_true rfl) dL_bench_201 hf (fun _ _ h => k_J4_append_cf468 h) (fun x80 σ79 hf => ?_)
    refine kx_wd (k' := k0 + 12) (n' := n0 + 3600) (by omega) (by omega) ?_
    refine kx_aload_n K dL_bench_204 rfl 3 rfl ?_
    refine kx_bipush (v := 6) K dL_bench_205 (by decide) ?_
    refine kx_ai K dL_bench_207 hf (fun x82 hf => ?_)
    refine kx_av (rmy := { frames := 5, cells := 1, slots := 300, locals := 114 }) (k' := k0 + 13) (n' := n0 + 3900) (ρ := Nat × Nat) K [.int x82] (fun x => some (.ref x.1)) (fun x => x.2) c_L_65 ⟨by decide, by decide, by show k0 + 12 + 1 = k0 + 13; omega, by show n0 + 3600 + 300 = n0 + 3900; omega, (show k0 + 13 ≤ 111 by omega), (show n0 + 3900 ≤ 31880 by omega)⟩ rfl rfl (Nat.le_of_ble_eq_true rfl) dL_bench_208 hf (fun _ _ h => k_J4_append_bf812 h) (fun x84 σ83 hf => ?_)
    refine kx_wd (k' := k0 + 13) (n' := n0 + 3900) (by omega) (by omega) ?_
    refine kx_ldcS K 18 (by decide) rfl rfl dL_bench_211 ?_
    refine kx_av (rmy := { frames := 5, cells := 1, slots := 300, locals := 113 }) (k' := k0 + 14) (n' := n0 + 4200) (ρ := Nat × Nat) K [.ref (ex_k Λ 15)] (fun x => some (.ref x.1)) (fun x => x.2) c_L_51 ⟨by decide, by decide, by show k0 + 13 + 1 = k0 + 14; omega, by show n0 + 3900 + 300 = n0 + 4200; omega, (show k0 + 14 ≤ 111 by omega), (show n0 + 4200 ≤ 31880 by omega)⟩ rfl rfl (Nat.le_of_ble_eq_true rfl) dL_bench_213 hf (fun _ _ h => k_J4_append_15ec4 h) (fun x87 σ86 hf => ?_)
    refine kx_wd (k' := k0 + 14) (n' := n0 + 4200) (by omega) (by omega) ?_
    refine kx_aload_n K dL_bench_216 rfl 3 rfl ?_
    refine kx_bipush (v := 7) K dL_bench_217 (by decide) ?_
    refine kx_ai K dL_bench_219 hf (fun x89 hf => ?_)
    refine kx_av (rmy := { frames := 5, cells := 1, slots := 300, locals := 114 }) (k' := k0 + 15) (n' := n0 + 4500) (ρ := Nat × Nat) K [.int x89] (fun x => some (.ref x.1)) (fun x => x.2) c_L_65 ⟨by decide, by decide, by show k0 + 14 + 1 = k0 + 15; omega, by show n0 + 4200 + 300 = n0 + 4500; omega, (show k0 + 15 ≤ 111 by omega), (show n0 + 4500 ≤ 31880 by omega)⟩ rfl rfl (Nat.le_of_ble_eq_true rfl) dL_bench_220 hf (fun _ _ h => k_J4_append_bf812 h) (fun x91 σ90 hf => ?_)
    refine kx_wd (k' := k0 + 15) (n' := n0 + 4500) (by omega) (by omega) ?_
    refine kx_bipush (v := 59) K dL_bench_223 (by decide) ?_
    refine kx_av (rmy := { frames := 5, cells := 1, slots := 300, locals := 112 }) (k' := k0 + 16) (n' := n0 + 4800) (ρ := Nat × Nat) K [.int (59 : Int32)] (fun x => some (.ref x.1)) (fun x => x.2) c_L_62 ⟨by decide, by decide, by show k0 + 15 + 1 = k0 + 16; omega, by show n0 + 4500 + 300 = n0 + 4800; omega, (show k0 + 16 ≤ 111 by omega), (show n0 + 4800 ≤ 31880 by omega)⟩ rfl rfl (Nat.le_of_ble_eq_true rfl) dL_bench_225 hf (fun _ _ h => k_J4_append_cf468 h) (fun x94 σ93 hf => ?_)
    refine kx_wd (k' := k0 + 16) (n' := n0 + 4800) (by omega) (by omega) ?_
    refine kx_pop K dL_bench_228 rfl ?_
    refine kx_aload_n K dL_bench_229 rfl 1 rfl ?_
    refine kx_iconst (v := 5) K dL_bench_230 (by decide) ?_
    refine kx_cs2i K c_L_35 ⟨by decide, by decide, rfl, rfl, (show k0 + 16 ≤ 111 by omega), (show n0 + 4800 ≤ 31880 by omega)⟩ (Nat.le_of_ble_eq_true rfl) dL_bench_231 hf (fun _ _ _ h => k_L_draw h) (fun x97 σ96 hf => ?_)
    refine kx_istore K [(4, .int x97), (0, .ref a0), (1, .ref a1), (2, .ref v36), (3, .ref v37)] dL_bench_234 (by decide) rfl ?_
    refine kx_sub [(0, .ref a0), (1, .ref a1), (2, .ref v36), (4, .int x97)] [1, 2, 3, 0] rfl ?_
    exact B236 8 (k0 + 16) (n0 + 4800) _ _ _ _ (by omega) (by omega) hf
  unfold m_L_bench at hf
  refine kx_new K n_L_32 (by decide) (by decide) dL_bench_0 ?_
  refine kx_dup K dL_bench_3 rfl ?_
  refine kx_cin (rmy := { frames := 1, cells := 4, slots := 368, locals := 20 }) (k' := 5) (n' := 372) K [] c_L_34 ⟨by decide, by decide, by show 1 + 4 = 5; omega, by show 4 + 368 = 372; omega, (by decide), (by decide)⟩ rfl rfl (Nat.le_of_ble_eq_true rfl) dL_bench_4 hf (fun _ _ h => k_X7_init h) (fun z3 σ2 hf => ?_)
  refine kx_astore_n K [(2, .ref q), (0, .ref a0), (1, .ref a1)] dL_bench_7 rfl (by decide) rfl ?_
  refine kx_bipush (v := 8) K dL_bench_8 (by decide) ?_
  refine kx_newa (kd := 0) (M := 8) (at9 := .int) K (by decide) rfl w_3 (by decide) (by decide) (by decide) (by decide) dL_bench_10 ?_
  refine kx_dup K dL_bench_12 rfl ?_
  refine kx_iconst (v := 0) K dL_bench_13 (by decide) ?_
  refine kx_aload_n K dL_bench_14 rfl 2 rfl ?_
  refine kx_iconst (v := 3) K dL_bench_15 (by decide) ?_
  refine kx_cs2i K c_L_35 ⟨by decide, by decide, rfl, rfl, (by decide), (by decide)⟩ (Nat.le_of_ble_eq_true rfl) dL_bench_16 hf (fun _ _ _ h => k_L_draw h) (fun x5 σ4 hf => ?_)
  refine kx_ui K dL_bench_19 hf (fun σ6 hf => ?_)
  refine kx_dup K dL_bench_20 rfl ?_
  refine kx_iconst (v := 1) K dL_bench_21 (by decide) ?_
  refine kx_iconst (v := 1) K dL_bench_22 (by decide) ?_
  refine kx_aload_n K dL_bench_23 rfl 2 rfl ?_
  refine kx_iconst (v := 5) K dL_bench_24 (by decide) ?_
  refine kx_cs2i K c_L_35 ⟨by decide, by decide, rfl, rfl, (by decide), (by decide)⟩ (Nat.le_of_ble_eq_true rfl) dL_bench_25 hf (fun _ _ _ h => k_L_draw h) (fun x8 σ7 hf => ?_)
  refine kx_iadd K dL_bench_28 ?_
  refine kx_ui K dL_bench_29 hf (fun σ9 hf => ?_)
  refine kx_dup K dL_bench_30 rfl ?_
  refine kx_iconst (v := 2) K dL_bench_31 (by decide) ?_
  refine kx_bipush (v := 10) K dL_bench_32 (by decide) ?_
  refine kx_aload_n K dL_bench_34 rfl 2 rfl ?_
  refine kx_bipush (v := 50) K dL_bench_35 (by decide) ?_
  refine kx_cs2i K c_L_35 ⟨by decide, by decide, rfl, rfl, (by decide), (by decide)⟩ (Nat.le_of_ble_eq_true rfl) dL_bench_37 hf (fun _ _ _ h => k_L_draw h) (fun x11 σ10 hf => ?_)
  refine kx_iadd K dL_bench_40 ?_
  refine kx_ui K dL_bench_41 hf (fun σ12 hf => ?_)
  refine kx_dup K dL_bench_42 rfl ?_
  refine kx_iconst (v := 3) K dL_bench_43 (by decide) ?_
  refine kx_iconst (v := 1) K dL_bench_44 (by decide) ?_
  refine kx_aload_n K dL_bench_45 rfl 2 rfl ?_
  refine kx_iconst (v := 3) K dL_bench_46 (by decide) ?_
  refine kx_cs2i K c_L_35 ⟨by decide, by decide, rfl, rfl, (by decide), (by decide)⟩ (Nat.le_of_ble_eq_true rfl) dL_bench_47 hf (fun _ _ _ h => k_L_draw h) (fun x14 σ13 hf => ?_)
  refine kx_iadd K dL_bench_50 ?_
  refine kx_ui K dL_bench_51 hf (fun σ15 hf => ?_)
  refine kx_dup K dL_bench_52 rfl ?_
  refine kx_iconst (v := 4) K dL_bench_53 (by decide) ?_
  refine kx_iconst (v := 1) K dL_bench_54 (by decide) ?_
  refine kx_aload_n K dL_bench_55 rfl 2 rfl ?_
  refine kx_bipush (v := 12) K dL_bench_56 (by decide) ?_
  refine kx_cs2i K c_L_35 ⟨by decide, by decide, rfl, rfl, (by decide), (by decide)⟩ (Nat.le_of_ble_eq_true rfl) dL_bench_58 hf (fun _ _ _ h => k_L_draw h) (fun x17 σ16 hf => ?_)
  refine kx_iadd K dL_bench_61 ?_
  refine kx_ui K dL_bench_62 hf (fun σ18 hf => ?_)
  refine kx_dup K dL_bench_63 rfl ?_
  refine kx_iconst (v := 5) K dL_bench_64 (by decide) ?_
  refine kx_iconst (v := 1) K dL_bench_65 (by decide) ?_
  refine kx_aload_n K dL_bench_66 rfl 2 rfl ?_
  refine kx_iconst (v := 4) K dL_bench_67 (by decide) ?_
  refine kx_cs2i K c_L_35 ⟨by decide, by decide, rfl, rfl, (by decide), (by decide)⟩ (Nat.le_of_ble_eq_true rfl) dL_bench_68 hf (fun _ _ _ h => k_L_draw h) (fun x20 σ19 hf => ?_)
  refine kx_iadd K dL_bench_71 ?_
  refine kx_ui K dL_bench_72 hf (fun σ21 hf => ?_)
  refine kx_dup K dL_bench_73 rfl ?_
  refine kx_bipush (v := 6) K dL_bench_74 (by decide) ?_
  refine kx_iconst (v := 2) K dL_bench_76 (by decide) ?_
  refine kx_aload_n K dL_bench_77 rfl 2 rfl ?_
  refine kx_bipush (v := 7) K dL_bench_78 (by decide) ?_
  refine kx_cs2i K c_L_35 ⟨by decide, by decide, rfl, rfl, (by decide), (by decide)⟩ (Nat.le_of_ble_eq_true rfl) dL_bench_80 hf (fun _ _ _ h => k_L_draw h) (fun x23 σ22 hf => ?_)
  refine kx_iadd K dL_bench_83 ?_
  refine kx_ui K dL_bench_84 hf (fun σ24 hf => ?_)
  refine kx_dup K dL_bench_85 rfl ?_
  refine kx_bipush (v := 7) K dL_bench_86 (by decide) ?_
  refine kx_iconst (v := 1) K dL_bench_88 (by decide) ?_
  refine kx_aload_n K dL_bench_89 rfl 2 rfl ?_
  refine kx_bipush (v := 60) K dL_bench_90 (by decide) ?_
  refine kx_cs2i K c_L_35 ⟨by decide, by decide, rfl, rfl, (by decide), (by decide)⟩ (Nat.le_of_ble_eq_true rfl) dL_bench_92 hf (fun _ _ _ h => k_L_draw h) (fun x26 σ25 hf => ?_)
  refine kx_iadd K dL_bench_95 ?_
  refine kx_ui K dL_bench_96 hf (fun σ27 hf => ?_)
  refine kx_astore_n K [(3, .ref z3), (2, .ref q), (0, .ref a0), (1, .ref a1)] dL_bench_97 rfl (by decide) rfl ?_
  refine kx_aload_n K dL_bench_98 rfl 0 rfl ?_
  refine kx_iconst (v := 0) K dL_bench_99 (by decide) ?_
  refine kx_aload_n K dL_bench_100 rfl 1 rfl ?_
  refine kx_grN K fn_L_39 dL_bench_101 hf (fun x28 hf => ?_)
  refine kx_iconst (v := 0) K dL_bench_104 (by decide) ?_
  refine kx_bipush (v := 8) K dL_bench_105 (by decide) ?_
  refine kx_acp (kd := 0) K w_135 w_136 w_137 w_138 (by decide) (Nat.le_of_ble_eq_true rfl) (by decide) dL_bench_107 hf (fun σ29 hf => ?_)
  refine kx_aload_n K dL_bench_110 rfl 2 rfl ?_
  refine kx_ldcS K 11 (by decide) rfl rfl dL_bench_111 ?_
  refine kx_av (rmy := { frames := 5, cells := 1, slots := 300, locals := 113 }) (k' := 7) (n' := 680) (ρ := Nat × Nat) K [.ref (ex_k Λ 11)] (fun x => some (.ref x.1)) (fun x => x.2) c_L_51 ⟨by decide, by decide, by show 6 + 1 = 7; omega, by show 380 + 300 = 680; omega, (by decide), (by decide)⟩ rfl rfl (Nat.le_of_ble_eq_true rfl) dL_bench_113 hf (fun _ _ h => k_J4_append_15ec4 h) (fun x31 σ30 hf => ?_)
  refine kx_aload_n K dL_bench_116 rfl 0 rfl ?_
  refine kx_iconst (v := 0) K dL_bench_117 (by decide) ?_
  refine kx_ai K dL_bench_118 hf (fun x33 hf => ?_)
  refine kx_if_ne K 127 hf dL_bench_119 (by decide) (fun hf => ?_) (fun hf => ?_)
  · refine kx_aload_n K dL_bench_127 rfl 0 rfl ?_
    refine kx_iconst (v := 0) K dL_bench_128 (by decide) ?_
    refine kx_ai K dL_bench_129 hf (fun x34 hf => ?_)
    refine kx_iconst (v := 1) K dL_bench_130 (by decide) ?_
    refine kx_icmp_ne K 139 hf dL_bench_131 (by decide) (fun hf => ?_) (fun hf => ?_)
    · refine kx_ldcS K 14 (by decide) rfl rfl dL_bench_139 ?_
      refine kx_sub [(0, .ref a0), (1, .ref a1), (2, .ref q), (3, .ref z3)] [2, 3, 1, 0] rfl ?_
      exact B141 (7) (680) _ _ _ _ _ _ (by omega) (by omega) hf
    · refine kx_ldcS K 13 (by decide) rfl rfl dL_bench_134 ?_
      refine kx_goto K 141 dL_bench_136 (by decide) ?_
      refine kx_sub [(0, .ref a0), (1, .ref a1), (2, .ref q), (3, .ref z3)] [2, 3, 1, 0] rfl ?_
      exact B141 (7) (680) _ _ _ _ _ _ (by omega) (by omega) hf
  · refine kx_ldcS K 12 (by decide) rfl rfl dL_bench_122 ?_
    refine kx_goto K 141 dL_bench_124 (by decide) ?_
    refine kx_sub [(0, .ref a0), (1, .ref a1), (2, .ref q), (3, .ref z3)] [2, 3, 1, 0] rfl ?_
    exact B141 (7) (680) _ _ _ _ _ _ (by omega) (by omega) hf
def m_L_core_j63 (K5 : ac_H → Nat → Int32 → Int32 → Option ((Int32 × Nat) × ac_H)) (a0 : Nat) (a1 : Nat) (a2 : Int32) (σ22 : ac_H) (z19 : Nat) (v20 : Int32) (v21 : Int32) : Option ((Int32 × Nat) × ac_H) :=
  mo_cv σ22 a0 7 (m_X7_part σ22 a0 v21 z19) fun x24 σ23 =>
  mo_cv σ23 a1 8 (m_X8_go σ23 a1 x24.1) fun x27 σ26 =>
  mo_cv σ26 x27 8 (m_X8_breaks σ26 x27 a2) fun x29 σ28 =>
  if x29 = 0 then
  (K5 σ28 x24.2 v20 (v21 + 1))
  else
  (K5 σ28 x24.2 v21 (v21 + 1))
def m_L_core_l5  (a0 : Nat) (a1 : Nat) (a2 : Int32) : Nat → ac_H → Nat → Int32 → Int32 → Option ((Int32 × Nat) × ac_H)
  | 0, _, _, _, _ => none
  | n + 1, σ4, z1, v2, v3 =>
    mo_cv σ4 a0 7 (m_X7_many σ4 a0) fun x6 σ5 =>
    if v3 < ((1 : Int32) <<< (x6 &&& 31)) then
    (if v2 < 0 then
    (m_L_core_j63 (fun ρ y0 y1 y2 => m_L_core_l5 a0 a1 a2 n ρ y0 y1 y2) a0 a1 a2 σ5 z1 v2 v3)
    else
    (mo_cs (m_J6_bitCount_0f7a4 σ5 v3) fun x8 σ7 =>
    mo_cs (m_J6_bitCount_0f7a4 σ7 v2) fun x10 σ9 =>
    if x10 < x8 then
    (m_L_core_l5 a0 a1 a2 n σ9 z1 v2 (v3 + 1))
    else
    (mo_cs (m_J6_bitCount_0f7a4 σ9 v3) fun x12 σ11 =>
    mo_cs (m_J6_bitCount_0f7a4 σ11 v2) fun x14 σ13 =>
    if x12 = x14 then
    (mo_cs (m_J6_reverse_0f7a4 σ13 v3) fun x16 σ15 =>
    mo_cs (m_J6_reverse_0f7a4 σ15 v2) fun x18 σ17 =>
    if ((x18).toUInt32 >>> (((1 : Int32)).toUInt32 &&& Int32.toUInt32 31)).toInt32 < ((x16).toUInt32 >>> (((1 : Int32)).toUInt32 &&& Int32.toUInt32 31)).toInt32 then
    (m_L_core_j63 (fun ρ y0 y1 y2 => m_L_core_l5 a0 a1 a2 n ρ y0 y1 y2) a0 a1 a2 σ17 z1 v2 v3)
    else
    (m_L_core_l5 a0 a1 a2 n σ17 z1 v2 (v3 + 1)))
    else
    (m_L_core_j63 (fun ρ y0 y1 y2 => m_L_core_l5 a0 a1 a2 n ρ y0 y1 y2) a0 a1 a2 σ13 z1 v2 v3))))
    else
    (some ((v2, z1), σ5))
def m_L_core (σ : ac_H) (a0 : Nat) (a1 : Nat) (a2 : Int32) (q : Nat) : Option ((Int32 × Nat) × ac_H) :=
  m_L_core_l5 a0 a1 a2 66 σ q (-1 : Int32) (0 : Int32)
set_option maxRecDepth 100000 in
set_option maxHeartbeats 4000000 in
theorem k_L_core {Λ : ex_L} {q : Nat} {σ σ' : ac_H} {a0 : Nat} {a1 : Nat} {a2 : Int32} {v : (Int32 × Nat)} (hf : m_L_core σ a0 a1 a2 q = some (v, σ')) : kx_C Λ yL_core (.code yL_core cL_core 5 (some .int)) ({ frames := 5, cells := 330, slots := 24552, locals := 109 } : Room) [.ref a0, .ref a1, .int a2] q σ (.inr (some (.int v.1))) σ' (fun z => z = v.2) := by
  refine kx_in (by decide +kernel) (Nat.le_of_ble_eq_true rfl) ?_
  intro Γ K hnm hsz hQ
  refine kx_lv (lv' := [(0, .ref a0), (1, .ref a1), (2, .int a2)]) rfl ?_
  have B5 : ∀ (n5 : Nat) (k0 n0 : Nat) (σ4 : ac_H) (z1 : Nat) (v2 : Int32) (v3 : Int32), k0 + 5 * n5 ≤ 330 → n0 + 372 * n5 ≤ 24552 → m_L_core_l5 a0 a1 a2 n5 σ4 z1 v2 v3 = some (v, σ') → kx_S Λ Γ 5 (fun z => z = z1) σ4 (k0) (n0) 5 [(0, .ref a0), (1, .ref a1), (2, .int a2), (3, .int v2), (4, .int v3)] [] := by
    intro n5
    induction n5 with
    | zero =>
      intro k0 n0 σ4 z1 v2 v3 hk0 hn0 hf
      rw [m_L_core_l5] at hf
      cases hf
    | succ n5 ih5 =>
      have B63 : ∀ (k0 n0 : Nat) (σ22 : ac_H) (z19 : Nat) (v20 : Int32) (v21 : Int32), k0 + 5 + 5 * n5 ≤ 330 → n0 + 372 + 372 * n5 ≤ 24552 → m_L_core_j63 (fun ρ y0 y1 y2 => m_L_core_l5 a0 a1 a2 n5 ρ y0 y1 y2) a0 a1 a2 σ22 z19 v20 v21 = some (v, σ') → kx_S Λ Γ 5 (fun z => z = z19) σ22 (k0) (n0) 63 [(0, .ref a0), (1, .ref a1), (2, .int a2), (3, .int v20), (4, .int v21)] [] := by
        intro k0 n0 σ22 z19 v20 v21 hk0 hn0 hf
        unfold m_L_core_j63 at hf
        refine kx_aload_n K dL_core_63 rfl 1 rfl ?_
        refine kx_aload_n K dL_core_64 rfl 0 rfl ?_
        refine kx_iload K dL_core_65 4 rfl ?_
        refine kx_av (rmy := { frames := 3, cells := 5, slots := 372, locals := 62 }) (k' := k0 + 5) (n' := n0 + 372) (ρ := Nat × Nat) K [.int v21] (fun x => some (.ref x.1)) (fun x => x.2) c_L_202 ⟨by decide, by decide, by show k0 + 5 = k0 + 5; omega, by show n0 + 372 = n0 + 372; omega, (show k0 + 5 ≤ 330 by omega), (show n0 + 372 ≤ 24552 by omega)⟩ rfl rfl (Nat.le_of_ble_eq_true rfl) dL_core_67 hf (fun _ _ h => k_X7_part h) (fun x24 σ23 hf => ?_)
        refine kx_wd (k' := k0 + 5) (n' := n0 + 372) (by omega) (by omega) ?_
        refine kx_cv1r K c_L_124 ⟨by decide, by decide, rfl, rfl, (show k0 + 5 ≤ 330 by omega), (show n0 + 372 ≤ 24552 by omega)⟩ (Nat.le_of_ble_eq_true rfl) dL_core_70 hf (fun _ _ _ h => k_X8_go h) (fun x27 σ26 hf => ?_)
        refine kx_iload_n K dL_core_73 rfl 2 rfl ?_
        refine kx_cv1i K c_L_153 ⟨by decide, by decide, rfl, rfl, (show k0 + 5 ≤ 330 by omega), (show n0 + 372 ≤ 24552 by omega)⟩ (Nat.le_of_ble_eq_true rfl) dL_core_74 hf (fun _ _ _ h => k_X8_breaks h) (fun x29 σ28 hf => ?_)
        refine kx_if_eq K 83 hf dL_core_77 (by decide) (fun hf => ?_) (fun hf => ?_)
        · refine kx_iinc (v := (v21 + 1)) K [(4, .int (v21 + 1)), (0, .ref a0), (1, .ref a1), (2, .int a2), (3, .int v20)] dL_core_83 4 rfl rfl (by decide) rfl ?_
          refine kx_goto K 5 dL_core_86 (by decide) ?_
          refine kx_sub [(0, .ref a0), (1, .ref a1), (2, .int a2), (3, .int v20), (4, .int (v21 + 1))] [1, 2, 3, 4, 0] rfl ?_
          exact ih5 (k0 + 5) (n0 + 372) _ _ _ _ (by omega) (by omega) hf
        · refine kx_iload K dL_core_80 4 rfl ?_
          refine kx_istore_n K [(3, .int v21), (0, .ref a0), (1, .ref a1), (2, .int a2), (4, .int v21)] dL_core_82 rfl (by decide) rfl ?_
          refine kx_iinc (v := (v21 + 1)) K [(4, .int (v21 + 1)), (3, .int v21), (0, .ref a0), (1, .ref a1), (2, .int a2)] dL_core_83 4 rfl rfl (by decide) rfl ?_
          refine kx_goto K 5 dL_core_86 (by decide) ?_
          refine kx_sub [(0, .ref a0), (1, .ref a1), (2, .int a2), (3, .int v21), (4, .int (v21 + 1))] [2, 3, 4, 1, 0] rfl ?_
          exact ih5 (k0 + 5) (n0 + 372) _ _ _ _ (by omega) (by omega) hf
      intro k0 n0 σ4 z1 v2 v3 hk0 hn0 hf
      rw [m_L_core_l5] at hf
      refine kx_iload K dL_core_5 4 rfl ?_
      refine kx_iconst (v := 1) K dL_core_7 (by decide) ?_
      refine kx_aload_n K dL_core_8 rfl 0 rfl ?_
      refine kx_cv0i K c_L_131 ⟨by decide, by decide, rfl, rfl, (show k0 ≤ 330 by omega), (show n0 ≤ 24552 by omega)⟩ (Nat.le_of_ble_eq_true rfl) dL_core_9 hf (fun _ _ _ h => k_X7_many h) (fun x6 σ5 hf => ?_)
      refine kx_ishl K dL_core_12 ?_
      refine kx_icmp_ge K 89 hf dL_core_13 (by decide) (fun hf => ?_) (fun hf => ?_)
      · refine kx_iload_n K dL_core_89 rfl 3 rfl ?_
        exact kx_iretZ K hQ (show k0 ≤ 330 by omega) (show n0 ≤ 24552 by omega) dL_core_90 hf
      · refine kx_iload_n K dL_core_16 rfl 3 rfl ?_
        refine kx_if_lt K 63 hf dL_core_17 (by decide) (fun hf => ?_) (fun hf => ?_)
        · refine kx_sub [(0, .ref a0), (1, .ref a1), (2, .int a2), (3, .int v2), (4, .int v3)] [0, 1, 2, 3, 4] rfl ?_
          exact B63 (k0) (n0) _ _ _ _ (by omega) (by omega) hf
        · refine kx_iload K dL_core_20 4 rfl ?_
          refine kx_cs1i K c_L_194 ⟨by decide, by decide, rfl, rfl, (show k0 ≤ 330 by omega), (show n0 ≤ 24552 by omega)⟩ (Nat.le_of_ble_eq_true rfl) dL_core_22 hf (fun _ _ _ h => k_J6_bitCount_0f7a4 h) (fun x8 σ7 hf => ?_)
          refine kx_iload_n K dL_core_25 rfl 3 rfl ?_
          refine kx_cs1i K c_L_194 ⟨by decide, by decide, rfl, rfl, (show k0 ≤ 330 by omega), (show n0 ≤ 24552 by omega)⟩ (Nat.le_of_ble_eq_true rfl) dL_core_26 hf (fun _ _ _ h => k_J6_bitCount_0f7a4 h) (fun x10 σ9 hf => ?_)
          refine kx_icmp_gt K 83 hf dL_core_29 (by decide) (fun hf => ?_) (fun hf => ?_)
          · refine kx_iinc (v := (v3 + 1)) K [(4, .int (v3 + 1)), (0, .ref a0), (1, .ref a1), (2, .int a2), (3, .int v2)] dL_core_83 4 rfl rfl (by decide) rfl ?_
            refine kx_goto K 5 dL_core_86 (by decide) ?_
            refine kx_sub [(0, .ref a0), (1, .ref a1), (2, .int a2), (3, .int v2), (4, .int (v3 + 1))] [1, 2, 3, 4, 0] rfl ?_
            exact ih5 (k0) (n0) _ _ _ _ (by omega) (by omega) hf
          · refine kx_iload K dL_core_32 4 rfl ?_
            refine kx_cs1i K c_L_194 ⟨by decide, by decide, rfl, rfl, (show k0 ≤ 330 by omega), (show n0 ≤ 24552 by omega)⟩ (Nat.le_of_ble_eq_true rfl) dL_core_34 hf (fun _ _ _ h => k_J6_bitCount_0f7a4 h) (fun x12 σ11 hf => ?_)
            refine kx_iload_n K dL_core_37 rfl 3 rfl ?_
            refine kx_cs1i K c_L_194 ⟨by decide, by decide, rfl, rfl, (show k0 ≤ 330 by omega), (show n0 ≤ 24552 by omega)⟩ (Nat.le_of_ble_eq_true rfl) dL_core_38 hf (fun _ _ _ h => k_J6_bitCount_0f7a4 h) (fun x14 σ13 hf => ?_)
            refine kx_icmp_ne K 63 hf dL_core_41 (by decide) (fun hf => ?_) (fun hf => ?_)
            · refine kx_sub [(0, .ref a0), (1, .ref a1), (2, .int a2), (3, .int v2), (4, .int v3)] [0, 1, 2, 3, 4] rfl ?_
              exact B63 (k0) (n0) _ _ _ _ (by omega) (by omega) hf
            · refine kx_iload K dL_core_44 4 rfl ?_
              refine kx_cs1i K c_L_199 ⟨by decide, by decide, rfl, rfl, (show k0 ≤ 330 by omega), (show n0 ≤ 24552 by omega)⟩ (Nat.le_of_ble_eq_true rfl) dL_core_46 hf (fun _ _ _ h => k_J6_reverse_0f7a4 h) (fun x16 σ15 hf => ?_)
              refine kx_iconst (v := 1) K dL_core_49 (by decide) ?_
              refine kx_iushr K dL_core_50 ?_
              refine kx_iload_n K dL_core_51 rfl 3 rfl ?_
              refine kx_cs1i K c_L_199 ⟨by decide, by decide, rfl, rfl, (show k0 ≤ 330 by omega), (show n0 ≤ 24552 by omega)⟩ (Nat.le_of_ble_eq_true rfl) dL_core_52 hf (fun _ _ _ h => k_J6_reverse_0f7a4 h) (fun x18 σ17 hf => ?_)
              refine kx_iconst (v := 1) K dL_core_55 (by decide) ?_
              refine kx_iushr K dL_core_56 ?_
              refine kx_icmp_gt K 63 hf dL_core_57 (by decide) (fun hf => ?_) (fun hf => ?_)
              · refine kx_sub [(0, .ref a0), (1, .ref a1), (2, .int a2), (3, .int v2), (4, .int v3)] [0, 1, 2, 3, 4] rfl ?_
                exact B63 (k0) (n0) _ _ _ _ (by omega) (by omega) hf
              · refine kx_goto K 83 dL_core_60 (by decide) ?_
                refine kx_iinc (v := (v3 + 1)) K [(4, .int (v3 + 1)), (0, .ref a0), (1, .ref a1), (2, .int a2), (3, .int v2)] dL_core_83 4 rfl rfl (by decide) rfl ?_
                refine kx_goto K 5 dL_core_86 (by decide) ?_
                refine kx_sub [(0, .ref a0), (1, .ref a1), (2, .int a2), (3, .int v2), (4, .int (v3 + 1))] [1, 2, 3, 4, 0] rfl ?_
                exact ih5 (k0) (n0) _ _ _ _ (by omega) (by omega) hf
  unfold m_L_core at hf
  refine kx_iconst (v := -1) K dL_core_0 (by decide) ?_
  refine kx_istore_n K [(3, .int (-1 : Int32)), (0, .ref a0), (1, .ref a1), (2, .int a2)] dL_core_1 rfl (by decide) rfl ?_
  refine kx_iconst (v := 0) K dL_core_2 (by decide) ?_
  refine kx_istore K [(4, .int (0 : Int32)), (3, .int (-1 : Int32)), (0, .ref a0), (1, .ref a1), (2, .int a2)] dL_core_3 (by decide) rfl ?_
  refine kx_sub [(0, .ref a0), (1, .ref a1), (2, .int a2), (3, .int (-1 : Int32)), (4, .int (0 : Int32))] [2, 3, 4, 1, 0] rfl ?_
  exact B5 66 (0) (0) _ _ _ _ (by omega) (by omega) hf
def m_L_least_l28  (a0 : Nat) (a1 : Nat) (a3 : Int32) : Nat → ac_H → Nat → Int32 → Nat → Int32 → Option ((Int32 × Nat) × ac_H)
  | 0, _, _, _, _, _ => none
  | n + 1, σ11, z7, v8, v9, v10 =>
    mo_gr σ11 a0 7 1 fun x12 =>
    mo_dv v8 (1000 : Int32) fun x13 =>
    mo_ai σ11 x12 0 x13 fun x14 =>
    if x14 < v10 then
    (some (((-1 : Int32), z7), σ11))
    else
    (mo_gr σ11 v9 7 1 fun x15 =>
    mo_dv v8 (1000 : Int32) fun x16 =>
    mo_ui σ11 x15 0 x16 v10 fun σ17 =>
    mo_cv σ17 a1 8 (m_X8_go σ17 a1 v9) fun x19 σ18 =>
    mo_cv σ18 x19 8 (m_X8_breaks σ18 x19 a3) fun x21 σ20 =>
    if x21 = 0 then
    (m_L_least_l28 a0 a1 a3 n σ20 z7 v8 v9 (v10 + 1))
    else
    (some ((v10, z7), σ20)))
def m_L_least (σ : ac_H) (a0 : Nat) (a1 : Nat) (a2 : Int32) (a3 : Int32) (q : Nat) : Option ((Int32 × Nat) × ac_H) :=
  mo_cv σ a0 7 (m_X7_fault σ a0 a2) fun x2 σ1 =>
  mo_rm x2 (1000 : Int32) fun x3 =>
  if x3 = (2 : Int32) then
  (mo_cv σ1 a0 7 (m_X7_copy σ1 a0 q) fun x5 σ4 =>
  m_L_least_l28 a0 a1 a3 hN_f σ4 x5.2 x2 x5.1 (1 : Int32))
  else
  (some (((-1 : Int32), q), σ1))
set_option maxRecDepth 100000 in
set_option maxHeartbeats 4000000 in
theorem k_L_least {Λ : ex_L} {q : Nat} {σ σ' : ac_H} {a0 : Nat} {a1 : Nat} {a2 : Int32} {a3 : Int32} {v : (Int32 × Nat)} (hf : m_L_least σ a0 a1 a2 a3 q = some (v, σ')) : kx_C Λ yL_least (.code yL_least cL_least 7 (some .int)) ({ frames := 5, cells := 5, slots := 372, locals := 109 } : Room) [.ref a0, .ref a1, .int a2, .int a3] q σ (.inr (some (.int v.1))) σ' (fun z => z = v.2) := by
  refine kx_in (by decide +kernel) (Nat.le_of_ble_eq_true rfl) ?_
  intro Γ K hnm hsz hQ
  refine kx_lv (lv' := [(0, .ref a0), (1, .ref a1), (2, .int a2), (3, .int a3)]) rfl ?_
  have B28 : ∀ (n28 : Nat) (k0 n0 : Nat) (σ11 : ac_H) (z7 : Nat) (v8 : Int32) (v9 : Nat) (v10 : Int32), k0 ≤ 5 → n0 ≤ 372 → m_L_least_l28 a0 a1 a3 n28 σ11 z7 v8 v9 v10 = some (v, σ') → kx_S Λ Γ 7 (fun z => z = z7) σ11 (k0) (n0) 28 [(0, .ref a0), (1, .ref a1), (3, .int a3), (4, .int v8), (5, .ref v9), (6, .int v10)] [] := by
    intro n28
    induction n28 with
    | zero =>
      intro k0 n0 σ11 z7 v8 v9 v10 hk0 hn0 hf
      rw [m_L_least_l28] at hf
      cases hf
    | succ n28 ih28 =>
      intro k0 n0 σ11 z7 v8 v9 v10 hk0 hn0 hf
      rw [m_L_least_l28] at hf
      refine kx_iload K dL_least_28 5 rfl ?_
      refine kx_aload_n K dL_least_30 rfl 0 rfl ?_
      refine kx_grN K fn_L_87 dL_least_31 hf (fun x12 hf => ?_)
      refine kx_iload K dL_least_34 3 rfl ?_
      refine kx_sipush (v := 1000) K dL_least_36 (by decide) ?_
      refine kx_idiv K dL_least_39 hf (fun x13 hf => ?_)
      refine kx_ai K dL_least_40 hf (fun x14 hf => ?_)
      refine kx_icmp_gt K 80 hf dL_least_41 (by decide) (fun hf => ?_) (fun hf => ?_)
      · refine kx_iconst (v := -1) K dL_least_80 (by decide) ?_
        exact kx_iretZ K hQ (show k0 ≤ 5 by omega) (show n0 ≤ 372 by omega) dL_least_81 hf
      · refine kx_aload K dL_least_44 4 rfl ?_
        refine kx_grN K fn_L_87 dL_least_46 hf (fun x15 hf => ?_)
        refine kx_iload K dL_least_49 3 rfl ?_
        refine kx_sipush (v := 1000) K dL_least_51 (by decide) ?_
        refine kx_idiv K dL_least_54 hf (fun x16 hf => ?_)
        refine kx_iload K dL_least_55 5 rfl ?_
        refine kx_ui K dL_least_57 hf (fun σ17 hf => ?_)
        refine kx_aload_n K dL_least_58 rfl 1 rfl ?_
        refine kx_aload K dL_least_59 4 rfl ?_
        refine kx_cv1r K c_L_124 ⟨by decide, by decide, rfl, rfl, (show k0 ≤ 5 by omega), (show n0 ≤ 372 by omega)⟩ (Nat.le_of_ble_eq_true rfl) dL_least_61 hf (fun _ _ _ h => k_X8_go h) (fun x19 σ18 hf => ?_)
        refine kx_iload_n K dL_least_64 rfl 2 rfl ?_
        refine kx_cv1i K c_L_153 ⟨by decide, by decide, rfl, rfl, (show k0 ≤ 5 by omega), (show n0 ≤ 372 by omega)⟩ (Nat.le_of_ble_eq_true rfl) dL_least_65 hf (fun _ _ _ h => k_X8_breaks h) (fun x21 σ20 hf => ?_)
        refine kx_if_eq K 74 hf dL_least_68 (by decide) (fun hf => ?_) (fun hf => ?_)
        · refine kx_iinc (v := (v10 + 1)) K [(6, .int (v10 + 1)), (0, .ref a0), (1, .ref a1), (3, .int a3), (4, .int v8), (5, .ref v9)] dL_least_74 5 rfl rfl (by decide) rfl ?_
          refine kx_goto K 28 dL_least_77 (by decide) ?_
          refine kx_sub [(0, .ref a0), (1, .ref a1), (3, .int a3), (4, .int v8), (5, .ref v9), (6, .int (v10 + 1))] [1, 2, 3, 4, 5, 0] rfl ?_
          exact ih28 (k0) (n0) _ _ _ _ _ (by omega) (by omega) hf
        · refine kx_iload K dL_least_71 5 rfl ?_
          exact kx_iretZ K hQ (show k0 ≤ 5 by omega) (show n0 ≤ 372 by omega) dL_least_73 hf
  unfold m_L_least at hf
  refine kx_aload_n K dL_least_0 rfl 0 rfl ?_
  refine kx_iload_n K dL_least_1 rfl 2 rfl ?_
  refine kx_cv1i K c_L_134 ⟨by decide, by decide, rfl, rfl, (by decide), (by decide)⟩ (Nat.le_of_ble_eq_true rfl) dL_least_2 hf (fun _ _ _ h => k_X7_fault h) (fun x2 σ1 hf => ?_)
  refine kx_istore K [(4, .int x2), (0, .ref a0), (1, .ref a1), (2, .int a2), (3, .int a3)] dL_least_5 (by decide) rfl ?_
  refine kx_iload K dL_least_7 0 rfl ?_
  refine kx_sipush (v := 1000) K dL_least_9 (by decide) ?_
  refine kx_irem K dL_least_12 hf (fun x3 hf => ?_)
  refine kx_iconst (v := 2) K dL_least_13 (by decide) ?_
  refine kx_icmp_eq K 19 hf dL_least_14 (by decide) (fun hf => ?_) (fun hf => ?_)
  · refine kx_aload_n K dL_least_19 rfl 1 rfl ?_
    refine kx_av (rmy := { frames := 2, cells := 5, slots := 372, locals := 40 }) (k' := 5) (n' := 372) (ρ := Nat × Nat) K [] (fun x => some (.ref x.1)) (fun x => x.2) c_L_190 ⟨by decide, by decide, by show 0 + 5 = 5; omega, by show 0 + 372 = 372; omega, (by decide), (by decide)⟩ rfl rfl (Nat.le_of_ble_eq_true rfl) dL_least_20 hf (fun _ _ h => k_X7_copy h) (fun x5 σ4 hf => ?_)
    refine kx_astore K [(5, .ref x5.1), (4, .int x2), (0, .ref a0), (1, .ref a1), (2, .int a2), (3, .int a3)] dL_least_23 (by decide) rfl ?_
    refine kx_iconst (v := 1) K dL_least_25 (by decide) ?_
    refine kx_istore K [(6, .int (1 : Int32)), (5, .ref x5.1), (4, .int x2), (0, .ref a0), (1, .ref a1), (2, .int a2), (3, .int a3)] dL_least_26 (by decide) rfl ?_
    refine kx_sub [(0, .ref a0), (1, .ref a1), (3, .int a3), (4, .int x2), (5, .ref x5.1), (6, .int (1 : Int32))] [3, 4, 6, 2, 1, 0] rfl ?_
    exact B28 hN_f (5) (372) _ _ _ _ _ (by omega) (by omega) hf
  · refine kx_iconst (v := -1) K dL_least_17 (by decide) ?_
    exact kx_iretZ K hQ (by decide) (by decide) dL_least_18 hf
def m_L_changes_j302 (K269 : ac_H → Nat → Nat → Int32 → Int32 → Option ((Int32 × Nat) × ac_H)) (a0 : Nat) (a3 : Nat) (σ90 : ac_H) (z85 : Nat) (v86 : Nat) (v87 : Int32) (w88 : Int32) (w89 : Int32) : Option ((Int32 × Nat) × ac_H) :=
  mo_ai σ90 a3 2 v87 fun x91 =>
  if x91 = 0 then
  (mo_gr σ90 v86 8 8 fun x93 =>
  mo_ai σ90 x93 2 v87 fun x94 =>
  if x94 = 0 then
  (mo_ui σ90 a3 2 v87 (vp_nar .boolean (0 : Int32)) fun σ95 =>
  K269 σ95 z85 v86 (w89 + w88) (v87 + 1))
  else
  (mo_ui σ90 a3 2 v87 (vp_nar .boolean (1 : Int32)) fun σ96 =>
  K269 σ96 z85 v86 (w89 + w88) (v87 + 1)))
  else
  (mo_ui σ90 a3 2 v87 (vp_nar .boolean (1 : Int32)) fun σ92 =>
  K269 σ92 z85 v86 (w89 + w88) (v87 + 1))
def m_L_changes_l269  (a0 : Nat) (a3 : Nat) : Nat → ac_H → Nat → Nat → Int32 → Int32 → Option ((Int32 × Nat) × ac_H)
  | 0, _, _, _, _, _ => none
  | n + 1, σ79, z75, v76, v77, v78 =>
    if v78 < (144 : Int32) then
    (mo_gr σ79 v76 8 8 fun x82 =>
    mo_ai σ79 x82 2 v78 fun x83 =>
    if x83 = 0 then
    (m_L_changes_j302 (fun ρ y0 y1 y2 y3 => m_L_changes_l269 a0 a3 n ρ y0 y1 y2 y3) a0 a3 σ79 z75 v76 v78 (0 : Int32) v77)
    else
    (mo_ai σ79 a3 2 v78 fun x84 =>
    if x84 = 0 then
    (m_L_changes_j302 (fun ρ y0 y1 y2 y3 => m_L_changes_l269 a0 a3 n ρ y0 y1 y2 y3) a0 a3 σ79 z75 v76 v78 (1 : Int32) v77)
    else
    (m_L_changes_j302 (fun ρ y0 y1 y2 y3 => m_L_changes_l269 a0 a3 n ρ y0 y1 y2 y3) a0 a3 σ79 z75 v76 v78 (0 : Int32) v77)))
    else
    (mo_cv σ79 a0 6 (m_X6_record σ79 a0) fun x81 σ80 =>
    if x81 = v77 then
    (mo_z (1 : Int32) (some (((1 : Int32), z75), σ80)))
    else
    (mo_z (0 : Int32) (some (((0 : Int32), z75), σ80))))
def m_L_changes_l434  (a0 : Nat) (a1 : Nat) (a2 : Nat) : Nat → ac_H → Nat → Int32 → Int32 → Option ((Int32 × Nat) × ac_H)
  | 0, _, _, _, _ => none
  | n + 1, σ112, z109, v110, v111 =>
    mo_cv σ112 a1 7 (m_X7_many σ112 a1) fun x114 σ113 =>
    if v111 < x114 then
    (mo_cv σ113 a1 7 (m_X7_fault σ113 a1 v111) fun x120 σ119 =>
    mo_rm x120 (1000 : Int32) fun x121 =>
    if x121 = (2 : Int32) then
    (mo_gr σ119 a1 7 1 fun x122 =>
    mo_dv x120 (1000 : Int32) fun x123 =>
    mo_cs (m_L_least σ119 a1 a2 v111 v110 z109) fun x125 σ124 =>
    mo_ui σ124 x122 0 x123 x125.1 fun σ127 =>
    m_L_changes_l434 a0 a1 a2 n σ127 x125.2 v110 (v111 + 1))
    else
    (m_L_changes_l434 a0 a1 a2 n σ119 z109 v110 (v111 + 1)))
    else
    (mo_nv σ113 a0 6 (m_X6_shrink σ113 a0 v110) fun x116 σ115 =>
    mo_cv σ115 a1 7 (m_X7_many σ115 a1) fun x118 σ117 =>
    if x116 = x118 then
    (mo_z (1 : Int32) (some (((1 : Int32), z109), σ117)))
    else
    (mo_z (0 : Int32) (some (((0 : Int32), z109), σ117))))
def m_L_changes_l388  (a0 : Nat) (a1 : Nat) (a2 : Nat) : Nat → ac_H → Nat → Int32 → Nat → Int32 → Option ((Int32 × Nat) × ac_H)
  | 0, _, _, _, _, _ => none
  | n + 1, σ101, z97, v98, v99, v100 =>
    if v100 < (120 : Int32) then
    (mo_gr σ101 v99 7 2 fun x102 =>
    mo_ai σ101 x102 2 v100 fun x103 =>
    mo_gr σ101 v99 7 3 fun x104 =>
    mo_ai σ101 x104 2 v100 fun x105 =>
    mo_gr σ101 v99 7 1 fun x106 =>
    mo_ai σ101 x106 0 v100 fun x107 =>
    mo_cv σ101 a1 7 (m_X7_put σ101 a1 v100 x103 x105 x107) fun _ σ108 =>
    m_L_changes_l388 a0 a1 a2 n σ108 z97 v98 v99 (v100 + 1))
    else
    (m_L_changes_l434 a0 a1 a2 8 σ101 z97 v98 (0 : Int32))
def m_L_changes_l676  (a0 : Nat) (a1 : Nat) : Nat → ac_H → Nat → Int32 → Int32 → Int32 → Int32 → Option ((Int32 × Nat) × ac_H)
  | 0, _, _, _, _, _, _ => none
  | n + 1, σ167, z162, v163, v164, v165, v166 =>
    mo_cv σ167 a1 7 (m_X7_fault σ167 a1 v166) fun x169 σ168 =>
    if x169 = (((1000 : Int32) * v163) + v164) then
    (mo_nv σ168 a0 6 (m_X6_addFault σ168 a0 v164 v163 v165) fun x171 σ170 =>
    if x171 = v166 then
    (mo_z (1 : Int32) (some (((1 : Int32), z162), σ170)))
    else
    (mo_z (0 : Int32) (some (((0 : Int32), z162), σ170))))
    else
    (m_L_changes_l676 a0 a1 n σ168 z162 v163 v164 v165 (v166 + 1))
def m_L_changes_j642  (a0 : Nat) (a1 : Nat) (σ150 : ac_H) (z143 : Nat) (v144 : Int32) (v145 : Int32) (v146 : Int32) (w147 : Int32) (w148 : Int32) (w149 : Nat) : Option ((Int32 × Nat) × ac_H) :=
  mo_gr σ150 a1 7 3 fun x151 =>
  mo_ai σ150 x151 2 v144 fun x152 =>
  if x152 = 0 then
  (if v145 = (1 : Int32) then
  (mo_gr σ150 a1 7 1 fun x159 =>
  mo_ai σ150 x159 0 v144 fun x160 =>
  mo_cv σ150 w149 7 (m_X7_put σ150 w149 w148 w147 (1 : Int32) x160) fun _ σ161 =>
  m_L_changes_l676 a0 a1 hN_f σ161 z143 v144 v145 v146 (0 : Int32))
  else
  (mo_gr σ150 a1 7 1 fun x156 =>
  mo_ai σ150 x156 0 v144 fun x157 =>
  mo_cv σ150 w149 7 (m_X7_put σ150 w149 w148 w147 (0 : Int32) x157) fun _ σ158 =>
  m_L_changes_l676 a0 a1 hN_f σ158 z143 v144 v145 v146 (0 : Int32)))
  else
  (mo_gr σ150 a1 7 1 fun x153 =>
  mo_ai σ150 x153 0 v144 fun x154 =>
  mo_cv σ150 w149 7 (m_X7_put σ150 w149 w148 w147 (1 : Int32) x154) fun _ σ155 =>
  m_L_changes_l676 a0 a1 hN_f σ155 z143 v144 v145 v146 (0 : Int32))
def m_L_changes_j599  (a0 : Nat) (a1 : Nat) (σ138 : ac_H) (z134 : Nat) (v135 : Int32) (v136 : Int32) (w137 : Int32) : Option ((Int32 × Nat) × ac_H) :=
  if v136 = (2 : Int32) then
  (mo_gr σ138 a1 7 1 fun x141 =>
  mo_ui σ138 x141 0 v135 w137 fun σ142 =>
  m_L_changes_l676 a0 a1 hN_f σ142 z134 v135 v136 w137 (0 : Int32))
  else
  (mo_gr σ138 a1 7 2 fun x139 =>
  mo_ai σ138 x139 2 v135 fun x140 =>
  if x140 = 0 then
  (if v136 = 0 then
  (m_L_changes_j642 a0 a1 σ138 z134 v135 v136 w137 (1 : Int32) v135 a1)
  else
  (m_L_changes_j642 a0 a1 σ138 z134 v135 v136 w137 (0 : Int32) v135 a1))
  else
  (m_L_changes_j642 a0 a1 σ138 z134 v135 v136 w137 (1 : Int32) v135 a1))
def m_L_changes_j580  (a0 : Nat) (a1 : Nat) (a4 : Nat) (σ131 : ac_H) (z128 : Nat) (v129 : Int32) (v130 : Int32) : Option ((Int32 × Nat) × ac_H) :=
  if v130 = (2 : Int32) then
  (mo_cs (m_L_draw σ131 a4 (20 : Int32)) fun x133 σ132 =>
  m_L_changes_j599 a0 a1 σ132 z128 v129 v130 ((1 : Int32) + x133))
  else
  (m_L_changes_j599 a0 a1 σ131 z128 v129 v130 (0 : Int32))
def m_L_changes (σ : ac_H) (a0 : Nat) (a1 : Nat) (a2 : Nat) (a3 : Nat) (a4 : Nat) (q : Nat) : Option ((Int32 × Nat) × ac_H) :=
  mo_cs (m_L_draw σ a4 (6 : Int32)) fun x2 σ1 =>
  if x2 = (0 : Int32) then
  (mo_cv σ1 a1 7 (m_X7_many σ1 a1) fun x4 σ3 =>
  if x4 = 0 then
  (mo_cv σ3 a0 6 (m_X6_clearFaults σ3 a0) fun x17 σ16 =>
  if x17 = 0 then
  (mo_z (1 : Int32) (some (((1 : Int32), q), σ16)))
  else
  (mo_z (0 : Int32) (some (((0 : Int32), q), σ16))))
  else
  (mo_cv σ3 a1 7 (m_X7_many σ3 a1) fun x6 σ5 =>
  mo_cs (m_L_draw σ5 a4 x6) fun x8 σ7 =>
  mo_cv σ7 a1 7 (m_X7_fault σ7 a1 x8) fun x10 σ9 =>
  mo_cv σ9 a1 7 (m_X7_take σ9 a1 x10) fun _ σ11 =>
  mo_nv σ11 a0 6 (m_X6_removeFault σ11 a0 x8) fun x13 σ12 =>
  mo_cv σ12 a1 7 (m_X7_many σ12 a1) fun x15 σ14 =>
  if x13 = x15 then
  (mo_z (1 : Int32) (some (((1 : Int32), q), σ14)))
  else
  (mo_z (0 : Int32) (some (((0 : Int32), q), σ14)))))
  else
  if x2 = (1 : Int32) then
  (mo_cs (m_L_draw σ1 a4 (8 : Int32)) fun x20 σ19 =>
  mo_ui (ac_up σ19 q (.inl (0, kx_ar 0 8))) q 0 (0 : Int32) (0 : Int32) fun σ21 =>
  mo_ui σ21 q 0 (1 : Int32) (1 : Int32) fun σ22 =>
  mo_ui σ22 q 0 (2 : Int32) (10 : Int32) fun σ23 =>
  mo_ui σ23 q 0 (3 : Int32) (1 : Int32) fun σ24 =>
  mo_ui σ24 q 0 (4 : Int32) (1 : Int32) fun σ25 =>
  mo_ui σ25 q 0 (5 : Int32) (1 : Int32) fun σ26 =>
  mo_ui σ26 q 0 (6 : Int32) (2 : Int32) fun σ27 =>
  mo_ui σ27 q 0 (7 : Int32) (1 : Int32) fun σ28 =>
  mo_ui (ac_up σ28 (q + 1) (.inl (0, kx_ar 0 8))) (q + 1) 0 (0 : Int32) (2 : Int32) fun σ29 =>
  mo_ui σ29 (q + 1) 0 (1 : Int32) (8 : Int32) fun σ30 =>
  mo_ui σ30 (q + 1) 0 (2 : Int32) (60 : Int32) fun σ31 =>
  mo_ui σ31 (q + 1) 0 (3 : Int32) (5 : Int32) fun σ32 =>
  mo_ui σ32 (q + 1) 0 (4 : Int32) (20 : Int32) fun σ33 =>
  mo_ui σ33 (q + 1) 0 (5 : Int32) (4 : Int32) fun σ34 =>
  mo_ui σ34 (q + 1) 0 (6 : Int32) (8 : Int32) fun σ35 =>
  mo_ui σ35 (q + 1) 0 (7 : Int32) (200 : Int32) fun σ36 =>
  mo_gr σ36 a1 7 0 fun x37 =>
  mo_ai σ36 x37 0 x20 fun x38 =>
  mo_gr σ36 a1 7 0 fun x39 =>
  mo_ai σ36 q 0 x20 fun x40 =>
  mo_ai σ36 (q + 1) 0 x20 fun x41 =>
  mo_ai σ36 q 0 x20 fun x42 =>
  mo_cs (m_L_draw σ36 a4 ((x41 - x42) + (1 : Int32))) fun x44 σ43 =>
  mo_ui σ43 x39 0 x20 (x40 + x44) fun σ45 =>
  mo_gr σ45 a1 7 0 fun x46 =>
  mo_ai σ45 x46 0 x20 fun x47 =>
  mo_nv σ45 a0 6 (m_X6_set σ45 a0 x20 x47) fun x49 σ48 =>
  if x49 = x38 then
  (mo_z (1 : Int32) (some (((1 : Int32), ((q + 1) + 1)), σ48)))
  else
  (mo_z (0 : Int32) (some (((0 : Int32), ((q + 1) + 1)), σ48))))
  else
  if x2 = (2 : Int32) then
  (mo_cv σ1 a2 8 (m_X8_go σ1 a2 a1) fun x52 σ51 =>
  m_L_changes_l269 a0 a3 hN_f σ51 q x52 (0 : Int32) (0 : Int32))
  else
  if x2 = (3 : Int32) then
  (mo_cs (m_L_draw σ1 a4 (4 : Int32)) fun x55 σ54 =>
  mo_cs (m_L_core σ54 a1 a2 x55 q) fun x57 σ56 =>
  if x57.1 < 0 then
  (mo_z (1 : Int32) (some (((1 : Int32), x57.2), σ56)))
  else
  (mo_cv σ56 a1 7 (m_X7_part σ56 a1 x57.1 x57.2) fun x60 σ59 =>
  m_L_changes_l388 a0 a1 a2 hN_f σ59 x60.2 x55 x60.1 (0 : Int32)))
  else
  (mo_cs (m_L_draw σ1 a4 (20 : Int32)) fun x64 σ63 =>
  mo_cs (m_L_draw σ63 a4 (3 : Int32)) fun x66 σ65 =>
  mo_cv σ65 a1 7 (m_X7_many σ65 a1) fun x68 σ67 =>
  if (5 : Int32) < x68 then
  (mo_z (1 : Int32) (some (((1 : Int32), q), σ67)))
  else
  (if x66 = 0 then
  (mo_gr σ67 a1 7 2 fun x73 =>
  mo_ai σ67 x73 2 x64 fun x74 =>
  if x74 = 0 then
  (m_L_changes_j580 a0 a1 a4 σ67 q x64 x66)
  else
  (mo_z (1 : Int32) (some (((1 : Int32), q), σ67))))
  else
  (if x66 = (1 : Int32) then
  (mo_gr σ67 a1 7 3 fun x71 =>
  mo_ai σ67 x71 2 x64 fun x72 =>
  if x72 = 0 then
  (m_L_changes_j580 a0 a1 a4 σ67 q x64 x66)
  else
  (mo_z (1 : Int32) (some (((1 : Int32), q), σ67))))
  else
  (mo_gr σ67 a1 7 1 fun x69 =>
  mo_ai σ67 x69 0 x64 fun x70 =>
  if 0 < x70 then
  (mo_z (1 : Int32) (some (((1 : Int32), q), σ67)))
  else
  (m_L_changes_j580 a0 a1 a4 σ67 q x64 x66)))))
set_option maxRecDepth 100000 in
set_option maxHeartbeats 4000000 in
theorem k_L_changes {Λ : ex_L} {q : Nat} {σ σ' : ac_H} {a0 : Nat} {a1 : Nat} {a2 : Nat} {a3 : Nat} {a4 : Nat} {v : (Int32 × Nat)} (hf : m_L_changes σ a0 a1 a2 a3 a4 q = some (v, σ')) : kx_C Λ yL_changes (.code yL_changes cL_changes 10 (some .boolean)) ({ frames := 7, cells := 375, slots := 27900, locals := 174 } : Room) [.ref a0, .ref a1, .ref a2, .ref a3, .ref a4] q σ (.inr (some (.int v.1))) σ' (fun z => z = v.2) := by
  refine kx_in (by decide +kernel) (Nat.le_of_ble_eq_true rfl) ?_
  intro Γ K hnm hsz hQ
  refine kx_lv (lv' := [(0, .ref a0), (1, .ref a1), (2, .ref a2), (3, .ref a3), (4, .ref a4)]) rfl ?_
  have B269 : ∀ (n269 : Nat) (k0 n0 : Nat) (σ79 : ac_H) (z75 : Nat) (v76 : Nat) (v77 : Int32) (v78 : Int32), k0 ≤ 375 → n0 ≤ 27900 → m_L_changes_l269 a0 a3 n269 σ79 z75 v76 v77 v78 = some (v, σ') → kx_S Λ Γ 10 (fun z => z = z75) σ79 (k0) (n0) 269 [(0, .ref a0), (3, .ref a3), (5, .ref v76), (6, .int v77), (7, .int v78)] [] := by
    intro n269
    induction n269 with
    | zero =>
      intro k0 n0 σ79 z75 v76 v77 v78 hk0 hn0 hf
      rw [m_L_changes_l269] at hf
      cases hf
    | succ n269 ih269 =>
      have B302 : ∀ (k0 n0 : Nat) (σ90 : ac_H) (z85 : Nat) (v86 : Nat) (v87 : Int32) (w88 : Int32) (w89 : Int32), k0 ≤ 375 → n0 ≤ 27900 → m_L_changes_j302 (fun ρ y0 y1 y2 y3 => m_L_changes_l269 a0 a3 n269 ρ y0 y1 y2 y3) a0 a3 σ90 z85 v86 v87 w88 w89 = some (v, σ') → kx_S Λ Γ 10 (fun z => z = z85) σ90 (k0) (n0) 302 [(0, .ref a0), (3, .ref a3), (5, .ref v86), (7, .int v87)] [.int w88, .int w89] := by
        intro k0 n0 σ90 z85 v86 v87 w88 w89 hk0 hn0 hf
        unfold m_L_changes_j302 at hf
        refine kx_iadd K dL_changes_302 ?_
        refine kx_istore K [(6, .int (w89 + w88)), (0, .ref a0), (3, .ref a3), (5, .ref v86), (7, .int v87)] dL_changes_303 (by decide) rfl ?_
        refine kx_aload_n K dL_changes_305 rfl 2 rfl ?_
        refine kx_iload K dL_changes_306 4 rfl ?_
        refine kx_aload_n K dL_changes_308 rfl 2 rfl ?_
        refine kx_iload K dL_changes_309 4 rfl ?_
        refine kx_az K dL_changes_311 hf (fun x91 hf => ?_)
        refine kx_if_ne K 326 hf dL_changes_312 (by decide) (fun hf => ?_) (fun hf => ?_)
        · refine kx_iconst (v := 1) K dL_changes_326 (by decide) ?_
          refine kx_goto K 331 dL_changes_327 (by decide) ?_
          refine kx_uz K dL_changes_331 hf (fun σ92 hf => ?_)
          refine kx_iinc (v := (v87 + 1)) K [(7, .int (v87 + 1)), (6, .int (w89 + w88)), (0, .ref a0), (3, .ref a3), (5, .ref v86)] dL_changes_332 4 rfl rfl (by decide) rfl ?_
          refine kx_goto K 269 dL_changes_335 (by decide) ?_
          refine kx_sub [(0, .ref a0), (3, .ref a3), (5, .ref v86), (6, .int (w89 + w88)), (7, .int (v87 + 1))] [2, 3, 4, 1, 0] rfl ?_
          exact ih269 (k0) (n0) _ _ _ _ _ (by omega) (by omega) hf
        · refine kx_aload K dL_changes_315 3 rfl ?_
          refine kx_grN K fn_L_150 dL_changes_317 hf (fun x93 hf => ?_)
          refine kx_iload K dL_changes_320 4 rfl ?_
          refine kx_az K dL_changes_322 hf (fun x94 hf => ?_)
          refine kx_if_eq K 330 hf dL_changes_323 (by decide) (fun hf => ?_) (fun hf => ?_)
          · refine kx_iconst (v := 0) K dL_changes_330 (by decide) ?_
            refine kx_uz K dL_changes_331 hf (fun σ95 hf => ?_)
            refine kx_iinc (v := (v87 + 1)) K [(7, .int (v87 + 1)), (6, .int (w89 + w88)), (0, .ref a0), (3, .ref a3), (5, .ref v86)] dL_changes_332 4 rfl rfl (by decide) rfl ?_
            refine kx_goto K 269 dL_changes_335 (by decide) ?_
            refine kx_sub [(0, .ref a0), (3, .ref a3), (5, .ref v86), (6, .int (w89 + w88)), (7, .int (v87 + 1))] [2, 3, 4, 1, 0] rfl ?_
            exact ih269 (k0) (n0) _ _ _ _ _ (by omega) (by omega) hf
          · refine kx_iconst (v := 1) K dL_changes_326 (by decide) ?_
            refine kx_goto K 331 dL_changes_327 (by decide) ?_
            refine kx_uz K dL_changes_331 hf (fun σ96 hf => ?_)
            refine kx_iinc (v := (v87 + 1)) K [(7, .int (v87 + 1)), (6, .int (w89 + w88)), (0, .ref a0), (3, .ref a3), (5, .ref v86)] dL_changes_332 4 rfl rfl (by decide) rfl ?_
            refine kx_goto K 269 dL_changes_335 (by decide) ?_
            refine kx_sub [(0, .ref a0), (3, .ref a3), (5, .ref v86), (6, .int (w89 + w88)), (7, .int (v87 + 1))] [2, 3, 4, 1, 0] rfl ?_
            exact ih269 (k0) (n0) _ _ _ _ _ (by omega) (by omega) hf
      intro k0 n0 σ79 z75 v76 v77 v78 hk0 hn0 hf
      rw [m_L_changes_l269] at hf
      refine kx_iload K dL_changes_269 4 rfl ?_
      refine kx_sipush (v := 144) K dL_changes_271 (by decide) ?_
      refine kx_icmp_ge K 338 hf dL_changes_274 (by decide) (fun hf => ?_) (fun hf => ?_)
      · refine kx_aload_n K dL_changes_338 rfl 0 rfl ?_
        refine kx_cv0i K c_L_255 ⟨by decide, by decide, rfl, rfl, (show k0 ≤ 375 by omega), (show n0 ≤ 27900 by omega)⟩ (Nat.le_of_ble_eq_true rfl) dL_changes_339 hf (fun _ _ _ h => k_X6_record h) (fun x81 σ80 hf => ?_)
        refine kx_iload K dL_changes_342 3 rfl ?_
        refine kx_icmp_ne K 351 hf dL_changes_344 (by decide) (fun hf => ?_) (fun hf => ?_)
        · refine kx_iconst (v := 0) K dL_changes_351 (by decide) ?_
          exact kx_zretZ K hQ (show k0 ≤ 375 by omega) (show n0 ≤ 27900 by omega) dL_changes_352 hf
        · refine kx_iconst (v := 1) K dL_changes_347 (by decide) ?_
          refine kx_goto K 352 dL_changes_348 (by decide) ?_
          exact kx_zretZ K hQ (show k0 ≤ 375 by omega) (show n0 ≤ 27900 by omega) dL_changes_352 hf
      · refine kx_iload K dL_changes_277 3 rfl ?_
        refine kx_aload K dL_changes_279 2 rfl ?_
        refine kx_grN K fn_L_150 dL_changes_281 hf (fun x82 hf => ?_)
        refine kx_iload K dL_changes_284 4 rfl ?_
        refine kx_az K dL_changes_286 hf (fun x83 hf => ?_)
        refine kx_if_eq K 301 hf dL_changes_287 (by decide) (fun hf => ?_) (fun hf => ?_)
        · refine kx_iconst (v := 0) K dL_changes_301 (by decide) ?_
          refine kx_sub [(0, .ref a0), (3, .ref a3), (5, .ref v76), (7, .int v78)] [0, 1, 2, 4] rfl ?_
          exact B302 (k0) (n0) _ _ _ _ _ _ (by omega) (by omega) hf
        · refine kx_aload_n K dL_changes_290 rfl 1 rfl ?_
          refine kx_iload K dL_changes_291 4 rfl ?_
          refine kx_az K dL_changes_293 hf (fun x84 hf => ?_)
          refine kx_if_ne K 301 hf dL_changes_294 (by decide) (fun hf => ?_) (fun hf => ?_)
          · refine kx_iconst (v := 0) K dL_changes_301 (by decide) ?_
            refine kx_sub [(0, .ref a0), (3, .ref a3), (5, .ref v76), (7, .int v78)] [0, 1, 2, 4] rfl ?_
            exact B302 (k0) (n0) _ _ _ _ _ _ (by omega) (by omega) hf
          · refine kx_iconst (v := 1) K dL_changes_297 (by decide) ?_
            refine kx_goto K 302 dL_changes_298 (by decide) ?_
            refine kx_sub [(0, .ref a0), (3, .ref a3), (5, .ref v76), (7, .int v78)] [0, 1, 2, 4] rfl ?_
            exact B302 (k0) (n0) _ _ _ _ _ _ (by omega) (by omega) hf
  have B434 : ∀ (n434 : Nat) (k0 n0 : Nat) (σ112 : ac_H) (z109 : Nat) (v110 : Int32) (v111 : Int32), k0 + 5 * n434 ≤ 375 → n0 + 372 * n434 ≤ 27900 → m_L_changes_l434 a0 a1 a2 n434 σ112 z109 v110 v111 = some (v, σ') → kx_S Λ Γ 10 (fun z => z = z109) σ112 (k0) (n0) 434 [(0, .ref a0), (1, .ref a1), (2, .ref a2), (5, .int v110), (8, .int v111)] [] := by
    intro n434
    induction n434 with
    | zero =>
      intro k0 n0 σ112 z109 v110 v111 hk0 hn0 hf
      rw [m_L_changes_l434] at hf
      cases hf
    | succ n434 ih434 =>
      intro k0 n0 σ112 z109 v110 v111 hk0 hn0 hf
      rw [m_L_changes_l434] at hf
      refine kx_iload K dL_changes_434 4 rfl ?_
      refine kx_aload_n K dL_changes_436 rfl 1 rfl ?_
      refine kx_cv0i K c_L_131 ⟨by decide, by decide, rfl, rfl, (show k0 ≤ 375 by omega), (show n0 ≤ 27900 by omega)⟩ (Nat.le_of_ble_eq_true rfl) dL_changes_437 hf (fun _ _ _ h => k_X7_many h) (fun x114 σ113 hf => ?_)
      refine kx_icmp_ge K 487 hf dL_changes_440 (by decide) (fun hf => ?_) (fun hf => ?_)
      · refine kx_aload_n K dL_changes_487 rfl 0 rfl ?_
        refine kx_iload K dL_changes_488 3 rfl ?_
        refine kx_nv (ρ := Int32) K [.int v110] (fun x => some (.int x)) c_L_262 ⟨by decide, by decide, rfl, rfl, (show k0 ≤ 375 by omega), (show n0 ≤ 27900 by omega)⟩ rfl rfl (Nat.le_of_ble_eq_true rfl) dL_changes_490 hf (fun _ _ _ h => k_X6_shrink h) (fun x116 σ115 hf => ?_)
        refine kx_aload_n K dL_changes_493 rfl 1 rfl ?_
        refine kx_cv0i K c_L_131 ⟨by decide, by decide, rfl, rfl, (show k0 ≤ 375 by omega), (show n0 ≤ 27900 by omega)⟩ (Nat.le_of_ble_eq_true rfl) dL_changes_494 hf (fun _ _ _ h => k_X7_many h) (fun x118 σ117 hf => ?_)
        refine kx_icmp_ne K 504 hf dL_changes_497 (by decide) (fun hf => ?_) (fun hf => ?_)
        · refine kx_iconst (v := 0) K dL_changes_504 (by decide) ?_
          exact kx_zretZ K hQ (show k0 ≤ 375 by omega) (show n0 ≤ 27900 by omega) dL_changes_505 hf
        · refine kx_iconst (v := 1) K dL_changes_500 (by decide) ?_
          refine kx_goto K 505 dL_changes_501 (by decide) ?_
          exact kx_zretZ K hQ (show k0 ≤ 375 by omega) (show n0 ≤ 27900 by omega) dL_changes_505 hf
      · refine kx_aload_n K dL_changes_443 rfl 1 rfl ?_
        refine kx_iload K dL_changes_444 4 rfl ?_
        refine kx_cv1i K c_L_134 ⟨by decide, by decide, rfl, rfl, (show k0 ≤ 375 by omega), (show n0 ≤ 27900 by omega)⟩ (Nat.le_of_ble_eq_true rfl) dL_changes_446 hf (fun _ _ _ h => k_X7_fault h) (fun x120 σ119 hf => ?_)
        refine kx_istore K [(9, .int x120), (0, .ref a0), (1, .ref a1), (2, .ref a2), (5, .int v110), (8, .int v111)] dL_changes_449 (by decide) rfl ?_
        refine kx_iload K dL_changes_451 0 rfl ?_
        refine kx_sipush (v := 1000) K dL_changes_453 (by decide) ?_
        refine kx_irem K dL_changes_456 hf (fun x121 hf => ?_)
        refine kx_iconst (v := 2) K dL_changes_457 (by decide) ?_
        refine kx_icmp_ne K 481 hf dL_changes_458 (by decide) (fun hf => ?_) (fun hf => ?_)
        · refine kx_iinc (v := (v111 + 1)) K [(8, .int (v111 + 1)), (9, .int x120), (0, .ref a0), (1, .ref a1), (2, .ref a2), (5, .int v110)] dL_changes_481 5 rfl rfl (by decide) rfl ?_
          refine kx_goto K 434 dL_changes_484 (by decide) ?_
          refine kx_sub [(0, .ref a0), (1, .ref a1), (2, .ref a2), (5, .int v110), (8, .int (v111 + 1))] [2, 3, 4, 5, 0] rfl ?_
          exact ih434 (k0) (n0) _ _ _ _ (by omega) (by omega) hf
        · refine kx_aload_n K dL_changes_461 rfl 2 rfl ?_
          refine kx_grN K fn_L_87 dL_changes_462 hf (fun x122 hf => ?_)
          refine kx_iload K dL_changes_465 0 rfl ?_
          refine kx_sipush (v := 1000) K dL_changes_467 (by decide) ?_
          refine kx_idiv K dL_changes_470 hf (fun x123 hf => ?_)
          refine kx_aload_n K dL_changes_471 rfl 2 rfl ?_
          refine kx_aload_n K dL_changes_472 rfl 3 rfl ?_
          refine kx_iload K dL_changes_473 5 rfl ?_
          refine kx_iload K dL_changes_475 4 rfl ?_
          refine kx_as (rmy := { frames := 5, cells := 5, slots := 372, locals := 109 }) (k' := k0 + 5) (n' := n0 + 372) (ρ := Int32 × Nat) K [.ref a1, .ref a2, .int v111, .int v110] (fun x => some (.int x.1)) (fun x => x.2) c_L_226 ⟨by decide, by decide, by show k0 + 5 = k0 + 5; omega, by show n0 + 372 = n0 + 372; omega, (show k0 + 5 ≤ 375 by omega), (show n0 + 372 ≤ 27900 by omega)⟩ rfl rfl (Nat.le_of_ble_eq_true rfl) dL_changes_477 hf (fun _ _ h => k_L_least h) (fun x125 σ124 hf => ?_)
          refine kx_wd (k' := k0 + 5) (n' := n0 + 372) (by omega) (by omega) ?_
          refine kx_ui K dL_changes_480 hf (fun σ127 hf => ?_)
          refine kx_iinc (v := (v111 + 1)) K [(8, .int (v111 + 1)), (9, .int x120), (0, .ref a0), (1, .ref a1), (2, .ref a2), (5, .int v110)] dL_changes_481 5 rfl rfl (by decide) rfl ?_
          refine kx_goto K 434 dL_changes_484 (by decide) ?_
          refine kx_sub [(0, .ref a0), (1, .ref a1), (2, .ref a2), (5, .int v110), (8, .int (v111 + 1))] [2, 3, 4, 5, 0] rfl ?_
          exact ih434 (k0 + 5) (n0 + 372) _ _ _ _ (by omega) (by omega) hf
  have B388 : ∀ (n388 : Nat) (k0 n0 : Nat) (σ101 : ac_H) (z97 : Nat) (v98 : Int32) (v99 : Nat) (v100 : Int32), k0 + 40 ≤ 375 → n0 + 2976 ≤ 27900 → m_L_changes_l388 a0 a1 a2 n388 σ101 z97 v98 v99 v100 = some (v, σ') → kx_S Λ Γ 10 (fun z => z = z97) σ101 (k0) (n0) 388 [(0, .ref a0), (1, .ref a1), (2, .ref a2), (5, .int v98), (7, .ref v99), (8, .int v100)] [] := by
    intro n388
    induction n388 with
    | zero =>
      intro k0 n0 σ101 z97 v98 v99 v100 hk0 hn0 hf
      rw [m_L_changes_l388] at hf
      cases hf
    | succ n388 ih388 =>
      intro k0 n0 σ101 z97 v98 v99 v100 hk0 hn0 hf
      rw [m_L_changes_l388] at hf
      refine kx_iload K dL_changes_388 5 rfl ?_
      refine kx_bipush (v := 120) K dL_changes_390 (by decide) ?_
      refine kx_icmp_ge K 431 hf dL_changes_392 (by decide) (fun hf => ?_) (fun hf => ?_)
      · refine kx_iconst (v := 0) K dL_changes_431 (by decide) ?_
        refine kx_istore K [(8, .int (0 : Int32)), (0, .ref a0), (1, .ref a1), (2, .ref a2), (5, .int v98), (7, .ref v99)] dL_changes_432 (by decide) rfl ?_
        refine kx_sub [(0, .ref a0), (1, .ref a1), (2, .ref a2), (5, .int v98), (8, .int (0 : Int32))] [1, 2, 3, 4, 0] rfl ?_
        exact B434 8 (k0) (n0) _ _ _ _ (by omega) (by omega) hf
      · refine kx_aload_n K dL_changes_395 rfl 1 rfl ?_
        refine kx_iload K dL_changes_396 5 rfl ?_
        refine kx_aload K dL_changes_398 4 rfl ?_
        refine kx_grN K fn_L_76 dL_changes_400 hf (fun x102 hf => ?_)
        refine kx_iload K dL_changes_403 5 rfl ?_
        refine kx_az K dL_changes_405 hf (fun x103 hf => ?_)
        refine kx_aload K dL_changes_406 4 rfl ?_
        refine kx_grN K fn_L_82 dL_changes_408 hf (fun x104 hf => ?_)
        refine kx_iload K dL_changes_411 5 rfl ?_
        refine kx_az K dL_changes_413 hf (fun x105 hf => ?_)
        refine kx_aload K dL_changes_414 4 rfl ?_
        refine kx_grN K fn_L_87 dL_changes_416 hf (fun x106 hf => ?_)
        refine kx_iload K dL_changes_419 5 rfl ?_
        refine kx_ai K dL_changes_421 hf (fun x107 hf => ?_)
        refine kx_cv4v K c_L_258 ⟨by decide, by decide, rfl, rfl, (show k0 ≤ 375 by omega), (show n0 ≤ 27900 by omega)⟩ (Nat.le_of_ble_eq_true rfl) dL_changes_422 hf (fun _ _ _ h => k_X7_put h) (fun _ σ108 hf => ?_)
        refine kx_iinc (v := (v100 + 1)) K [(8, .int (v100 + 1)), (0, .ref a0), (1, .ref a1), (2, .ref a2), (5, .int v98), (7, .ref v99)] dL_changes_425 5 rfl rfl (by decide) rfl ?_
        refine kx_goto K 388 dL_changes_428 (by decide) ?_
        refine kx_sub [(0, .ref a0), (1, .ref a1), (2, .ref a2), (5, .int v98), (7, .ref v99), (8, .int (v100 + 1))] [1, 2, 3, 4, 5, 0] rfl ?_
        exact ih388 (k0) (n0) _ _ _ _ _ (by omega) (by omega) hf
  have B676 : ∀ (n676 : Nat) (k0 n0 : Nat) (σ167 : ac_H) (z162 : Nat) (v163 : Int32) (v164 : Int32) (v165 : Int32) (v166 : Int32), k0 ≤ 375 → n0 ≤ 27900 → m_L_changes_l676 a0 a1 n676 σ167 z162 v163 v164 v165 v166 = some (v, σ') → kx_S Λ Γ 10 (fun z => z = z162) σ167 (k0) (n0) 676 [(0, .ref a0), (1, .ref a1), (5, .int v163), (6, .int v164), (7, .int v165), (8, .int v166)] [] := by
    intro n676
    induction n676 with
    | zero =>
      intro k0 n0 σ167 z162 v163 v164 v165 v166 hk0 hn0 hf
      rw [m_L_changes_l676] at hf
      cases hf
    | succ n676 ih676 =>
      intro k0 n0 σ167 z162 v163 v164 v165 v166 hk0 hn0 hf
      rw [m_L_changes_l676] at hf
      refine kx_aload_n K dL_changes_676 rfl 1 rfl ?_
      refine kx_iload K dL_changes_677 5 rfl ?_
      refine kx_cv1i K c_L_134 ⟨by decide, by decide, rfl, rfl, (show k0 ≤ 375 by omega), (show n0 ≤ 27900 by omega)⟩ (Nat.le_of_ble_eq_true rfl) dL_changes_679 hf (fun _ _ _ h => k_X7_fault h) (fun x169 σ168 hf => ?_)
      refine kx_sipush (v := 1000) K dL_changes_682 (by decide) ?_
      refine kx_iload K dL_changes_685 2 rfl ?_
      refine kx_imul K dL_changes_687 ?_
      refine kx_iload K dL_changes_688 3 rfl ?_
      refine kx_iadd K dL_changes_690 ?_
      refine kx_icmp_eq K 700 hf dL_changes_691 (by decide) (fun hf => ?_) (fun hf => ?_)
      · refine kx_aload_n K dL_changes_700 rfl 0 rfl ?_
        refine kx_iload K dL_changes_701 3 rfl ?_
        refine kx_iload K dL_changes_703 2 rfl ?_
        refine kx_iload K dL_changes_705 4 rfl ?_
        refine kx_nv (ρ := Int32) K [.int v164, .int v163, .int v165] (fun x => some (.int x)) c_L_265 ⟨by decide, by decide, rfl, rfl, (show k0 ≤ 375 by omega), (show n0 ≤ 27900 by omega)⟩ rfl rfl (Nat.le_of_ble_eq_true rfl) dL_changes_707 hf (fun _ _ _ h => k_X6_addFault h) (fun x171 σ170 hf => ?_)
        refine kx_iload K dL_changes_710 5 rfl ?_
        refine kx_icmp_ne K 719 hf dL_changes_712 (by decide) (fun hf => ?_) (fun hf => ?_)
        · refine kx_iconst (v := 0) K dL_changes_719 (by decide) ?_
          exact kx_zretZ K hQ (show k0 ≤ 375 by omega) (show n0 ≤ 27900 by omega) dL_changes_720 hf
        · refine kx_iconst (v := 1) K dL_changes_715 (by decide) ?_
          refine kx_goto K 720 dL_changes_716 (by decide) ?_
          exact kx_zretZ K hQ (show k0 ≤ 375 by omega) (show n0 ≤ 27900 by omega) dL_changes_720 hf
      · refine kx_iinc (v := (v166 + 1)) K [(8, .int (v166 + 1)), (0, .ref a0), (1, .ref a1), (5, .int v163), (6, .int v164), (7, .int v165)] dL_changes_694 5 rfl rfl (by decide) rfl ?_
        refine kx_goto K 676 dL_changes_697 (by decide) ?_
        refine kx_sub [(0, .ref a0), (1, .ref a1), (5, .int v163), (6, .int v164), (7, .int v165), (8, .int (v166 + 1))] [1, 2, 3, 4, 5, 0] rfl ?_
        exact ih676 (k0) (n0) _ _ _ _ _ _ (by omega) (by omega) hf
  have B642 : ∀ (k0 n0 : Nat) (σ150 : ac_H) (z143 : Nat) (v144 : Int32) (v145 : Int32) (v146 : Int32) (w147 : Int32) (w148 : Int32) (w149 : Nat), k0 ≤ 375 → n0 ≤ 27900 → m_L_changes_j642 a0 a1 σ150 z143 v144 v145 v146 w147 w148 w149 = some (v, σ') → kx_S Λ Γ 10 (fun z => z = z143) σ150 (k0) (n0) 642 [(0, .ref a0), (1, .ref a1), (5, .int v144), (6, .int v145), (7, .int v146)] [.int w147, .int w148, .ref w149] := by
    intro k0 n0 σ150 z143 v144 v145 v146 w147 w148 w149 hk0 hn0 hf
    unfold m_L_changes_j642 at hf
    refine kx_aload_n K dL_changes_642 rfl 1 rfl ?_
    refine kx_grN K fn_L_82 dL_changes_643 hf (fun x151 hf => ?_)
    refine kx_iload K dL_changes_646 2 rfl ?_
    refine kx_az K dL_changes_648 hf (fun x152 hf => ?_)
    refine kx_if_ne K 658 hf dL_changes_649 (by decide) (fun hf => ?_) (fun hf => ?_)
    · refine kx_iconst (v := 1) K dL_changes_658 (by decide) ?_
      refine kx_goto K 663 dL_changes_659 (by decide) ?_
      refine kx_aload_n K dL_changes_663 rfl 1 rfl ?_
      refine kx_grN K fn_L_87 dL_changes_664 hf (fun x153 hf => ?_)
      refine kx_iload K dL_changes_667 2 rfl ?_
      refine kx_ai K dL_changes_669 hf (fun x154 hf => ?_)
      refine kx_cv4v K c_L_258 ⟨by decide, by decide, rfl, rfl, (show k0 ≤ 375 by omega), (show n0 ≤ 27900 by omega)⟩ (Nat.le_of_ble_eq_true rfl) dL_changes_670 hf (fun _ _ _ h => k_X7_put h) (fun _ σ155 hf => ?_)
      refine kx_iconst (v := 0) K dL_changes_673 (by decide) ?_
      refine kx_istore K [(8, .int (0 : Int32)), (0, .ref a0), (1, .ref a1), (5, .int v144), (6, .int v145), (7, .int v146)] dL_changes_674 (by decide) rfl ?_
      refine kx_sub [(0, .ref a0), (1, .ref a1), (5, .int v144), (6, .int v145), (7, .int v146), (8, .int (0 : Int32))] [1, 2, 3, 4, 5, 0] rfl ?_
      exact B676 hN_f (k0) (n0) _ _ _ _ _ _ (by omega) (by omega) hf
    · refine kx_iload K dL_changes_652 3 rfl ?_
      refine kx_iconst (v := 1) K dL_changes_654 (by decide) ?_
      refine kx_icmp_ne K 662 hf dL_changes_655 (by decide) (fun hf => ?_) (fun hf => ?_)
      · refine kx_iconst (v := 0) K dL_changes_662 (by decide) ?_
        refine kx_aload_n K dL_changes_663 rfl 1 rfl ?_
        refine kx_grN K fn_L_87 dL_changes_664 hf (fun x156 hf => ?_)
        refine kx_iload K dL_changes_667 2 rfl ?_
        refine kx_ai K dL_changes_669 hf (fun x157 hf => ?_)
        refine kx_cv4v K c_L_258 ⟨by decide, by decide, rfl, rfl, (show k0 ≤ 375 by omega), (show n0 ≤ 27900 by omega)⟩ (Nat.le_of_ble_eq_true rfl) dL_changes_670 hf (fun _ _ _ h => k_X7_put h) (fun _ σ158 hf => ?_)
        refine kx_iconst (v := 0) K dL_changes_673 (by decide) ?_
        refine kx_istore K [(8, .int (0 : Int32)), (0, .ref a0), (1, .ref a1), (5, .int v144), (6, .int v145), (7, .int v146)] dL_changes_674 (by decide) rfl ?_
        refine kx_sub [(0, .ref a0), (1, .ref a1), (5, .int v144), (6, .int v145), (7, .int v146), (8, .int (0 : Int32))] [1, 2, 3, 4, 5, 0] rfl ?_
        exact B676 hN_f (k0) (n0) _ _ _ _ _ _ (by omega) (by omega) hf
      · refine kx_iconst (v := 1) K dL_changes_658 (by decide) ?_
        refine kx_goto K 663 dL_changes_659 (by decide) ?_
        refine kx_aload_n K dL_changes_663 rfl 1 rfl ?_
        refine kx_grN K fn_L_87 dL_changes_664 hf (fun x159 hf => ?_)
        refine kx_iload K dL_changes_667 2 rfl ?_
        refine kx_ai K dL_changes_669 hf (fun x160 hf => ?_)
        refine kx_cv4v K c_L_258 ⟨by decide, by decide, rfl, rfl, (show k0 ≤ 375 by omega), (show n0 ≤ 27900 by omega)⟩ (Nat.le_of_ble_eq_true rfl) dL_changes_670 hf (fun _ _ _ h => k_X7_put h) (fun _ σ161 hf => ?_)
        refine kx_iconst (v := 0) K dL_changes_673 (by decide) ?_
        refine kx_istore K [(8, .int (0 : Int32)), (0, .ref a0), (1, .ref a1), (5, .int v144), (6, .int v145), (7, .int v146)] dL_changes_674 (by decide) rfl ?_
        refine kx_sub [(0, .ref a0), (1, .ref a1), (5, .int v144), (6, .int v145), (7, .int v146), (8, .int (0 : Int32))] [1, 2, 3, 4, 5, 0] rfl ?_
        exact B676 hN_f (k0) (n0) _ _ _ _ _ _ (by omega) (by omega) hf
  have B599 : ∀ (k0 n0 : Nat) (σ138 : ac_H) (z134 : Nat) (v135 : Int32) (v136 : Int32) (w137 : Int32), k0 ≤ 375 → n0 ≤ 27900 → m_L_changes_j599 a0 a1 σ138 z134 v135 v136 w137 = some (v, σ') → kx_S Λ Γ 10 (fun z => z = z134) σ138 (k0) (n0) 599 [(0, .ref a0), (1, .ref a1), (5, .int v135), (6, .int v136)] [.int w137] := by
    intro k0 n0 σ138 z134 v135 v136 w137 hk0 hn0 hf
    unfold m_L_changes_j599 at hf
    refine kx_istore K [(7, .int w137), (0, .ref a0), (1, .ref a1), (5, .int v135), (6, .int v136)] dL_changes_599 (by decide) rfl ?_
    refine kx_iload K dL_changes_601 4 rfl ?_
    refine kx_iconst (v := 2) K dL_changes_603 (by decide) ?_
    refine kx_icmp_ne K 619 hf dL_changes_604 (by decide) (fun hf => ?_) (fun hf => ?_)
    · refine kx_aload_n K dL_changes_619 rfl 2 rfl ?_
      refine kx_iload K dL_changes_620 3 rfl ?_
      refine kx_aload_n K dL_changes_622 rfl 2 rfl ?_
      refine kx_grN K fn_L_76 dL_changes_623 hf (fun x139 hf => ?_)
      refine kx_iload K dL_changes_626 3 rfl ?_
      refine kx_az K dL_changes_628 hf (fun x140 hf => ?_)
      refine kx_if_ne K 637 hf dL_changes_629 (by decide) (fun hf => ?_) (fun hf => ?_)
      · refine kx_iconst (v := 1) K dL_changes_637 (by decide) ?_
        refine kx_goto K 642 dL_changes_638 (by decide) ?_
        refine kx_sub [(0, .ref a0), (1, .ref a1), (5, .int v135), (6, .int v136), (7, .int w137)] [1, 2, 3, 4, 0] rfl ?_
        exact B642 (k0) (n0) _ _ _ _ _ _ _ _ (by omega) (by omega) hf
      · refine kx_iload K dL_changes_632 4 rfl ?_
        refine kx_if_ne K 641 hf dL_changes_634 (by decide) (fun hf => ?_) (fun hf => ?_)
        · refine kx_iconst (v := 0) K dL_changes_641 (by decide) ?_
          refine kx_sub [(0, .ref a0), (1, .ref a1), (5, .int v135), (6, .int v136), (7, .int w137)] [1, 2, 3, 4, 0] rfl ?_
          exact B642 (k0) (n0) _ _ _ _ _ _ _ _ (by omega) (by omega) hf
        · refine kx_iconst (v := 1) K dL_changes_637 (by decide) ?_
          refine kx_goto K 642 dL_changes_638 (by decide) ?_
          refine kx_sub [(0, .ref a0), (1, .ref a1), (5, .int v135), (6, .int v136), (7, .int w137)] [1, 2, 3, 4, 0] rfl ?_
          exact B642 (k0) (n0) _ _ _ _ _ _ _ _ (by omega) (by omega) hf
    · refine kx_aload_n K dL_changes_607 rfl 2 rfl ?_
      refine kx_grN K fn_L_87 dL_changes_608 hf (fun x141 hf => ?_)
      refine kx_iload K dL_changes_611 3 rfl ?_
      refine kx_iload K dL_changes_613 0 rfl ?_
      refine kx_ui K dL_changes_615 hf (fun σ142 hf => ?_)
      refine kx_goto K 673 dL_changes_616 (by decide) ?_
      refine kx_iconst (v := 0) K dL_changes_673 (by decide) ?_
      refine kx_istore K [(8, .int (0 : Int32)), (7, .int w137), (0, .ref a0), (1, .ref a1), (5, .int v135), (6, .int v136)] dL_changes_674 (by decide) rfl ?_
      refine kx_sub [(0, .ref a0), (1, .ref a1), (5, .int v135), (6, .int v136), (7, .int w137), (8, .int (0 : Int32))] [2, 3, 4, 5, 1, 0] rfl ?_
      exact B676 hN_f (k0) (n0) _ _ _ _ _ _ (by omega) (by omega) hf
  have B580 : ∀ (k0 n0 : Nat) (σ131 : ac_H) (z128 : Nat) (v129 : Int32) (v130 : Int32), k0 ≤ 375 → n0 ≤ 27900 → m_L_changes_j580 a0 a1 a4 σ131 z128 v129 v130 = some (v, σ') → kx_S Λ Γ 10 (fun z => z = z128) σ131 (k0) (n0) 580 [(0, .ref a0), (1, .ref a1), (4, .ref a4), (5, .int v129), (6, .int v130)] [] := by
    intro k0 n0 σ131 z128 v129 v130 hk0 hn0 hf
    unfold m_L_changes_j580 at hf
    refine kx_iload K dL_changes_580 4 rfl ?_
    refine kx_iconst (v := 2) K dL_changes_582 (by decide) ?_
    refine kx_icmp_ne K 598 hf dL_changes_583 (by decide) (fun hf => ?_) (fun hf => ?_)
    · refine kx_iconst (v := 0) K dL_changes_598 (by decide) ?_
      refine kx_sub [(0, .ref a0), (1, .ref a1), (5, .int v129), (6, .int v130)] [0, 1, 3, 4] rfl ?_
      exact B599 (k0) (n0) _ _ _ _ _ (by omega) (by omega) hf
    · refine kx_iconst (v := 1) K dL_changes_586 (by decide) ?_
      refine kx_aload K dL_changes_587 2 rfl ?_
      refine kx_bipush (v := 20) K dL_changes_589 (by decide) ?_
      refine kx_cs2i K c_L_35 ⟨by decide, by decide, rfl, rfl, (show k0 ≤ 375 by omega), (show n0 ≤ 27900 by omega)⟩ (Nat.le_of_ble_eq_true rfl) dL_changes_591 hf (fun _ _ _ h => k_L_draw h) (fun x133 σ132 hf => ?_)
      refine kx_iadd K dL_changes_594 ?_
      refine kx_goto K 599 dL_changes_595 (by decide) ?_
      refine kx_sub [(0, .ref a0), (1, .ref a1), (5, .int v129), (6, .int v130)] [0, 1, 3, 4] rfl ?_
      exact B599 (k0) (n0) _ _ _ _ _ (by omega) (by omega) hf
  unfold m_L_changes at hf
  refine kx_aload K dL_changes_0 4 rfl ?_
  refine kx_bipush (v := 6) K dL_changes_2 (by decide) ?_
  refine kx_cs2i K c_L_35 ⟨by decide, by decide, rfl, rfl, (by decide), (by decide)⟩ (Nat.le_of_ble_eq_true rfl) dL_changes_4 hf (fun _ _ _ h => k_L_draw h) (fun x2 σ1 hf => ?_)
  refine kx_swI (c := 0) K 36 dL_changes_7 (by decide) (by decide) rfl (by decide) hf (fun hf => ?_) (fun h18 hf => ?_)
  · refine kx_aload_n K dL_changes_36 rfl 1 rfl ?_
    refine kx_cv0i K c_L_131 ⟨by decide, by decide, rfl, rfl, (by decide), (by decide)⟩ (Nat.le_of_ble_eq_true rfl) dL_changes_37 hf (fun _ _ _ h => k_X7_many h) (fun x4 σ3 hf => ?_)
    refine kx_if_ne K 56 hf dL_changes_40 (by decide) (fun hf => ?_) (fun hf => ?_)
    · refine kx_aload K dL_changes_56 4 rfl ?_
      refine kx_aload_n K dL_changes_58 rfl 1 rfl ?_
      refine kx_cv0i K c_L_131 ⟨by decide, by decide, rfl, rfl, (by decide), (by decide)⟩ (Nat.le_of_ble_eq_true rfl) dL_changes_59 hf (fun _ _ _ h => k_X7_many h) (fun x6 σ5 hf => ?_)
      refine kx_cs2i K c_L_35 ⟨by decide, by decide, rfl, rfl, (by decide), (by decide)⟩ (Nat.le_of_ble_eq_true rfl) dL_changes_62 hf (fun _ _ _ h => k_L_draw h) (fun x8 σ7 hf => ?_)
      refine kx_istore K [(5, .int x8), (0, .ref a0), (1, .ref a1), (2, .ref a2), (3, .ref a3), (4, .ref a4)] dL_changes_65 (by decide) rfl ?_
      refine kx_aload_n K dL_changes_67 rfl 2 rfl ?_
      refine kx_aload_n K dL_changes_68 rfl 2 rfl ?_
      refine kx_iload K dL_changes_69 0 rfl ?_
      refine kx_cv1i K c_L_134 ⟨by decide, by decide, rfl, rfl, (by decide), (by decide)⟩ (Nat.le_of_ble_eq_true rfl) dL_changes_71 hf (fun _ _ _ h => k_X7_fault h) (fun x10 σ9 hf => ?_)
      refine kx_cv1v K c_L_216 ⟨by decide, by decide, rfl, rfl, (by decide), (by decide)⟩ (Nat.le_of_ble_eq_true rfl) dL_changes_74 hf (fun _ _ _ h => k_X7_take h) (fun _ σ11 hf => ?_)
      refine kx_aload_n K dL_changes_77 rfl 1 rfl ?_
      refine kx_iload K dL_changes_78 0 rfl ?_
      refine kx_nv (ρ := Int32) K [.int x8] (fun x => some (.int x)) c_L_249 ⟨by decide, by decide, rfl, rfl, (by decide), (by decide)⟩ rfl rfl (Nat.le_of_ble_eq_true rfl) dL_changes_80 hf (fun _ _ _ h => k_X6_removeFault h) (fun x13 σ12 hf => ?_)
      refine kx_aload_n K dL_changes_83 rfl 2 rfl ?_
      refine kx_cv0i K c_L_131 ⟨by decide, by decide, rfl, rfl, (by decide), (by decide)⟩ (Nat.le_of_ble_eq_true rfl) dL_changes_84 hf (fun _ _ _ h => k_X7_many h) (fun x15 σ14 hf => ?_)
      refine kx_icmp_ne K 94 hf dL_changes_87 (by decide) (fun hf => ?_) (fun hf => ?_)
      · refine kx_iconst (v := 0) K dL_changes_94 (by decide) ?_
        exact kx_zretZ K hQ (by decide) (by decide) dL_changes_95 hf
      · refine kx_iconst (v := 1) K dL_changes_90 (by decide) ?_
        refine kx_goto K 95 dL_changes_91 (by decide) ?_
        exact kx_zretZ K hQ (by decide) (by decide) dL_changes_95 hf
    · refine kx_aload_n K dL_changes_43 rfl 0 rfl ?_
      refine kx_cv0i K c_L_246 ⟨by decide, by decide, rfl, rfl, (by decide), (by decide)⟩ (Nat.le_of_ble_eq_true rfl) dL_changes_44 hf (fun _ _ _ h => k_X6_clearFaults h) (fun x17 σ16 hf => ?_)
      refine kx_if_ne K 54 hf dL_changes_47 (by decide) (fun hf => ?_) (fun hf => ?_)
      · refine kx_iconst (v := 0) K dL_changes_54 (by decide) ?_
        exact kx_zretZ K hQ (by decide) (by decide) dL_changes_55 hf
      · refine kx_iconst (v := 1) K dL_changes_50 (by decide) ?_
        refine kx_goto K 55 dL_changes_51 (by decide) ?_
        exact kx_zretZ K hQ (by decide) (by decide) dL_changes_55 hf
  refine kx_swI (c := 1) K 96 dL_changes_7 (by decide) (by decide) rfl (by decide) hf (fun hf => ?_) (fun h50 hf => ?_)
  · refine kx_aload K dL_changes_96 4 rfl ?_
    refine kx_bipush (v := 8) K dL_changes_98 (by decide) ?_
    refine kx_cs2i K c_L_35 ⟨by decide, by decide, rfl, rfl, (by decide), (by decide)⟩ (Nat.le_of_ble_eq_true rfl) dL_changes_100 hf (fun _ _ _ h => k_L_draw h) (fun x20 σ19 hf => ?_)
    refine kx_istore K [(5, .int x20), (0, .ref a0), (1, .ref a1), (2, .ref a2), (3, .ref a3), (4, .ref a4)] dL_changes_103 (by decide) rfl ?_
    refine kx_bipush (v := 8) K dL_changes_105 (by decide) ?_
    refine kx_newa (kd := 0) (M := 8) (at9 := .int) K (by decide) rfl w_3 (by decide) (by decide) (by decide) (by decide) dL_changes_107 ?_
    refine kx_dup K dL_changes_109 rfl ?_
    refine kx_iconst (v := 0) K dL_changes_110 (by decide) ?_
    refine kx_iconst (v := 0) K dL_changes_111 (by decide) ?_
    refine kx_ui K dL_changes_112 hf (fun σ21 hf => ?_)
    refine kx_dup K dL_changes_113 rfl ?_
    refine kx_iconst (v := 1) K dL_changes_114 (by decide) ?_
    refine kx_iconst (v := 1) K dL_changes_115 (by decide) ?_
    refine kx_ui K dL_changes_116 hf (fun σ22 hf => ?_)
    refine kx_dup K dL_changes_117 rfl ?_
    refine kx_iconst (v := 2) K dL_changes_118 (by decide) ?_
    refine kx_bipush (v := 10) K dL_changes_119 (by decide) ?_
    refine kx_ui K dL_changes_121 hf (fun σ23 hf => ?_)
    refine kx_dup K dL_changes_122 rfl ?_
    refine kx_iconst (v := 3) K dL_changes_123 (by decide) ?_
    refine kx_iconst (v := 1) K dL_changes_124 (by decide) ?_
    refine kx_ui K dL_changes_125 hf (fun σ24 hf => ?_)
    refine kx_dup K dL_changes_126 rfl ?_
    refine kx_iconst (v := 4) K dL_changes_127 (by decide) ?_
    refine kx_iconst (v := 1) K dL_changes_128 (by decide) ?_
    refine kx_ui K dL_changes_129 hf (fun σ25 hf => ?_)
    refine kx_dup K dL_changes_130 rfl ?_
    refine kx_iconst (v := 5) K dL_changes_131 (by decide) ?_
    refine kx_iconst (v := 1) K dL_changes_132 (by decide) ?_
    refine kx_ui K dL_changes_133 hf (fun σ26 hf => ?_)
    refine kx_dup K dL_changes_134 rfl ?_
    refine kx_bipush (v := 6) K dL_changes_135 (by decide) ?_
    refine kx_iconst (v := 2) K dL_changes_137 (by decide) ?_
    refine kx_ui K dL_changes_138 hf (fun σ27 hf => ?_)
    refine kx_dup K dL_changes_139 rfl ?_
    refine kx_bipush (v := 7) K dL_changes_140 (by decide) ?_
    refine kx_iconst (v := 1) K dL_changes_142 (by decide) ?_
    refine kx_ui K dL_changes_143 hf (fun σ28 hf => ?_)
    refine kx_astore K [(6, .ref q), (5, .int x20), (0, .ref a0), (1, .ref a1), (2, .ref a2), (3, .ref a3), (4, .ref a4)] dL_changes_144 (by decide) rfl ?_
    refine kx_bipush (v := 8) K dL_changes_146 (by decide) ?_
    refine kx_newa (kd := 0) (M := 8) (at9 := .int) K (by decide) rfl w_3 (by decide) (by decide) (by decide) (by decide) dL_changes_148 ?_
    refine kx_dup K dL_changes_150 rfl ?_
    refine kx_iconst (v := 0) K dL_changes_151 (by decide) ?_
    refine kx_iconst (v := 2) K dL_changes_152 (by decide) ?_
    refine kx_ui K dL_changes_153 hf (fun σ29 hf => ?_)
    refine kx_dup K dL_changes_154 rfl ?_
    refine kx_iconst (v := 1) K dL_changes_155 (by decide) ?_
    refine kx_bipush (v := 8) K dL_changes_156 (by decide) ?_
    refine kx_ui K dL_changes_158 hf (fun σ30 hf => ?_)
    refine kx_dup K dL_changes_159 rfl ?_
    refine kx_iconst (v := 2) K dL_changes_160 (by decide) ?_
    refine kx_bipush (v := 60) K dL_changes_161 (by decide) ?_
    refine kx_ui K dL_changes_163 hf (fun σ31 hf => ?_)
    refine kx_dup K dL_changes_164 rfl ?_
    refine kx_iconst (v := 3) K dL_changes_165 (by decide) ?_
    refine kx_iconst (v := 5) K dL_changes_166 (by decide) ?_
    refine kx_ui K dL_changes_167 hf (fun σ32 hf => ?_)
    refine kx_dup K dL_changes_168 rfl ?_
    refine kx_iconst (v := 4) K dL_changes_169 (by decide) ?_
    refine kx_bipush (v := 20) K dL_changes_170 (by decide) ?_
    refine kx_ui K dL_changes_172 hf (fun σ33 hf => ?_)
    refine kx_dup K dL_changes_173 rfl ?_
    refine kx_iconst (v := 5) K dL_changes_174 (by decide) ?_
    refine kx_iconst (v := 4) K dL_changes_175 (by decide) ?_
    refine kx_ui K dL_changes_176 hf (fun σ34 hf => ?_)
    refine kx_dup K dL_changes_177 rfl ?_
    refine kx_bipush (v := 6) K dL_changes_178 (by decide) ?_
    refine kx_bipush (v := 8) K dL_changes_180 (by decide) ?_
    refine kx_ui K dL_changes_182 hf (fun σ35 hf => ?_)
    refine kx_dup K dL_changes_183 rfl ?_
    refine kx_bipush (v := 7) K dL_changes_184 (by decide) ?_
    refine kx_sipush (v := 200) K dL_changes_186 (by decide) ?_
    refine kx_ui K dL_changes_189 hf (fun σ36 hf => ?_)
    refine kx_astore K [(7, .ref (q + 1)), (6, .ref q), (5, .int x20), (0, .ref a0), (1, .ref a1), (2, .ref a2), (3, .ref a3), (4, .ref a4)] dL_changes_190 (by decide) rfl ?_
    refine kx_aload_n K dL_changes_192 rfl 4 rfl ?_
    refine kx_grN K fn_L_39 dL_changes_193 hf (fun x37 hf => ?_)
    refine kx_iload K dL_changes_196 2 rfl ?_
    refine kx_ai K dL_changes_198 hf (fun x38 hf => ?_)
    refine kx_istore K [(8, .int x38), (7, .ref (q + 1)), (6, .ref q), (5, .int x20), (0, .ref a0), (1, .ref a1), (2, .ref a2), (3, .ref a3), (4, .ref a4)] dL_changes_199 (by decide) rfl ?_
    refine kx_aload_n K dL_changes_201 rfl 5 rfl ?_
    refine kx_grN K fn_L_39 dL_changes_202 hf (fun x39 hf => ?_)
    refine kx_iload K dL_changes_205 3 rfl ?_
    refine kx_aload K dL_changes_207 2 rfl ?_
    refine kx_iload K dL_changes_209 3 rfl ?_
    refine kx_ai K dL_changes_211 hf (fun x40 hf => ?_)
    refine kx_aload K dL_changes_212 8 rfl ?_
    refine kx_aload K dL_changes_214 1 rfl ?_
    refine kx_iload K dL_changes_216 3 rfl ?_
    refine kx_ai K dL_changes_218 hf (fun x41 hf => ?_)
    refine kx_aload K dL_changes_219 2 rfl ?_
    refine kx_iload K dL_changes_221 3 rfl ?_
    refine kx_ai K dL_changes_223 hf (fun x42 hf => ?_)
    refine kx_isub K dL_changes_224 ?_
    refine kx_iconst (v := 1) K dL_changes_225 (by decide) ?_
    refine kx_iadd K dL_changes_226 ?_
    refine kx_cs2i K c_L_35 ⟨by decide, by decide, rfl, rfl, (by decide), (by decide)⟩ (Nat.le_of_ble_eq_true rfl) dL_changes_227 hf (fun _ _ _ h => k_L_draw h) (fun x44 σ43 hf => ?_)
    refine kx_iadd K dL_changes_230 ?_
    refine kx_ui K dL_changes_231 hf (fun σ45 hf => ?_)
    refine kx_aload_n K dL_changes_232 rfl 4 rfl ?_
    refine kx_iload K dL_changes_233 3 rfl ?_
    refine kx_aload_n K dL_changes_235 rfl 5 rfl ?_
    refine kx_grN K fn_L_39 dL_changes_236 hf (fun x46 hf => ?_)
    refine kx_iload K dL_changes_239 3 rfl ?_
    refine kx_ai K dL_changes_241 hf (fun x47 hf => ?_)
    refine kx_nv (ρ := Int32) K [.int x20, .int x47] (fun x => some (.int x)) c_L_252 ⟨by decide, by decide, rfl, rfl, (by decide), (by decide)⟩ rfl rfl (Nat.le_of_ble_eq_true rfl) dL_changes_242 hf (fun _ _ _ h => k_X6_set h) (fun x49 σ48 hf => ?_)
    refine kx_iload K dL_changes_245 0 rfl ?_
    refine kx_icmp_ne K 254 hf dL_changes_247 (by decide) (fun hf => ?_) (fun hf => ?_)
    · refine kx_iconst (v := 0) K dL_changes_254 (by decide) ?_
      exact kx_zretZ K hQ (by decide) (by decide) dL_changes_255 hf
    · refine kx_iconst (v := 1) K dL_changes_250 (by decide) ?_
      refine kx_goto K 255 dL_changes_251 (by decide) ?_
      exact kx_zretZ K hQ (by decide) (by decide) dL_changes_255 hf
  refine kx_swI (c := 2) K 256 dL_changes_7 (by decide) (by decide) rfl (by decide) hf (fun hf => ?_) (fun h53 hf => ?_)
  · refine kx_aload_n K dL_changes_256 rfl 2 rfl ?_
    refine kx_aload_n K dL_changes_257 rfl 1 rfl ?_
    refine kx_cv1r K c_L_124 ⟨by decide, by decide, rfl, rfl, (by decide), (by decide)⟩ (Nat.le_of_ble_eq_true rfl) dL_changes_258 hf (fun _ _ _ h => k_X8_go h) (fun x52 σ51 hf => ?_)
    refine kx_astore K [(5, .ref x52), (0, .ref a0), (1, .ref a1), (2, .ref a2), (3, .ref a3), (4, .ref a4)] dL_changes_261 (by decide) rfl ?_
    refine kx_iconst (v := 0) K dL_changes_263 (by decide) ?_
    refine kx_istore K [(6, .int (0 : Int32)), (5, .ref x52), (0, .ref a0), (1, .ref a1), (2, .ref a2), (3, .ref a3), (4, .ref a4)] dL_changes_264 (by decide) rfl ?_
    refine kx_iconst (v := 0) K dL_changes_266 (by decide) ?_
    refine kx_istore K [(7, .int (0 : Int32)), (6, .int (0 : Int32)), (5, .ref x52), (0, .ref a0), (1, .ref a1), (2, .ref a2), (3, .ref a3), (4, .ref a4)] dL_changes_267 (by decide) rfl ?_
    refine kx_sub [(0, .ref a0), (3, .ref a3), (5, .ref x52), (6, .int (0 : Int32)), (7, .int (0 : Int32))] [3, 6, 2, 1, 0] rfl ?_
    exact B269 hN_f (0) (0) _ _ _ _ _ (by omega) (by omega) hf
  refine kx_swI (c := 3) K 353 dL_changes_7 (by decide) (by decide) rfl (by decide) hf (fun hf => ?_) (fun h62 hf => ?_)
  · refine kx_aload K dL_changes_353 4 rfl ?_
    refine kx_iconst (v := 4) K dL_changes_355 (by decide) ?_
    refine kx_cs2i K c_L_35 ⟨by decide, by decide, rfl, rfl, (by decide), (by decide)⟩ (Nat.le_of_ble_eq_true rfl) dL_changes_356 hf (fun _ _ _ h => k_L_draw h) (fun x55 σ54 hf => ?_)
    refine kx_istore K [(5, .int x55), (0, .ref a0), (1, .ref a1), (2, .ref a2), (3, .ref a3), (4, .ref a4)] dL_changes_359 (by decide) rfl ?_
    refine kx_aload_n K dL_changes_361 rfl 2 rfl ?_
    refine kx_aload_n K dL_changes_362 rfl 3 rfl ?_
    refine kx_iload K dL_changes_363 0 rfl ?_
    refine kx_as (rmy := { frames := 5, cells := 330, slots := 24552, locals := 109 }) (k' := 330) (n' := 24552) (ρ := Int32 × Nat) K [.ref a1, .ref a2, .int x55] (fun x => some (.int x.1)) (fun x => x.2) c_L_206 ⟨by decide, by decide, by show 0 + 330 = 330; omega, by show 0 + 24552 = 24552; omega, (by decide), (by decide)⟩ rfl rfl (Nat.le_of_ble_eq_true rfl) dL_changes_365 hf (fun _ _ h => k_L_core h) (fun x57 σ56 hf => ?_)
    refine kx_istore K [(6, .int x57.1), (5, .int x55), (0, .ref a0), (1, .ref a1), (2, .ref a2), (3, .ref a3), (4, .ref a4)] dL_changes_368 (by decide) rfl ?_
    refine kx_iload K dL_changes_370 0 rfl ?_
    refine kx_if_ge K 377 hf dL_changes_372 (by decide) (fun hf => ?_) (fun hf => ?_)
    · refine kx_aload_n K dL_changes_377 rfl 3 rfl ?_
      refine kx_iload K dL_changes_378 0 rfl ?_
      refine kx_av (rmy := { frames := 3, cells := 5, slots := 372, locals := 62 }) (k' := 335) (n' := 24924) (ρ := Nat × Nat) K [.int x57.1] (fun x => some (.ref x.1)) (fun x => x.2) c_L_202 ⟨by decide, by decide, by show 330 + 5 = 335; omega, by show 24552 + 372 = 24924; omega, (by decide), (by decide)⟩ rfl rfl (Nat.le_of_ble_eq_true rfl) dL_changes_380 hf (fun _ _ h => k_X7_part h) (fun x60 σ59 hf => ?_)
      refine kx_astore K [(7, .ref x60.1), (6, .int x57.1), (5, .int x55), (0, .ref a0), (1, .ref a1), (2, .ref a2), (3, .ref a3), (4, .ref a4)] dL_changes_383 (by decide) rfl ?_
      refine kx_iconst (v := 0) K dL_changes_385 (by decide) ?_
      refine kx_istore K [(8, .int (0 : Int32)), (7, .ref x60.1), (6, .int x57.1), (5, .int x55), (0, .ref a0), (1, .ref a1), (2, .ref a2), (3, .ref a3), (4, .ref a4)] dL_changes_386 (by decide) rfl ?_
      refine kx_sub [(0, .ref a0), (1, .ref a1), (2, .ref a2), (5, .int x55), (7, .ref x60.1), (8, .int (0 : Int32))] [4, 5, 6, 3, 1, 0] rfl ?_
      exact B388 hN_f (335) (24924) _ _ _ _ _ (by omega) (by omega) hf
    · refine kx_iconst (v := 1) K dL_changes_375 (by decide) ?_
      exact kx_zretZ K hQ (by decide) (by decide) dL_changes_376 hf
  refine kx_swD K 506 dL_changes_7 (by have := lv_neT h18 (show (0 : Int32).toInt = 0 by decide); have := lv_neT h50 (show (1 : Int32).toInt = 1 by decide); have := lv_neT h53 (show (2 : Int32).toInt = 2 by decide); have := lv_neT h62 (show (3 : Int32).toInt = 3 by decide); omega) (by decide) ?_
  refine kx_aload K dL_changes_506 4 rfl ?_
  refine kx_bipush (v := 20) K dL_changes_508 (by decide) ?_
  refine kx_cs2i K c_L_35 ⟨by decide, by decide, rfl, rfl, (by decide), (by decide)⟩ (Nat.le_of_ble_eq_true rfl) dL_changes_510 hf (fun _ _ _ h => k_L_draw h) (fun x64 σ63 hf => ?_)
  refine kx_istore K [(5, .int x64), (0, .ref a0), (1, .ref a1), (2, .ref a2), (3, .ref a3), (4, .ref a4)] dL_changes_513 (by decide) rfl ?_
  refine kx_aload K dL_changes_515 5 rfl ?_
  refine kx_iconst (v := 3) K dL_changes_517 (by decide) ?_
  refine kx_cs2i K c_L_35 ⟨by decide, by decide, rfl, rfl, (by decide), (by decide)⟩ (Nat.le_of_ble_eq_true rfl) dL_changes_518 hf (fun _ _ _ h => k_L_draw h) (fun x66 σ65 hf => ?_)
  refine kx_istore K [(6, .int x66), (5, .int x64), (0, .ref a0), (1, .ref a1), (2, .ref a2), (3, .ref a3), (4, .ref a4)] dL_changes_521 (by decide) rfl ?_
  refine kx_aload_n K dL_changes_523 rfl 3 rfl ?_
  refine kx_cv0i K c_L_131 ⟨by decide, by decide, rfl, rfl, (by decide), (by decide)⟩ (Nat.le_of_ble_eq_true rfl) dL_changes_524 hf (fun _ _ _ h => k_X7_many h) (fun x68 σ67 hf => ?_)
  refine kx_iconst (v := 5) K dL_changes_527 (by decide) ?_
  refine kx_icmp_gt K 578 hf dL_changes_528 (by decide) (fun hf => ?_) (fun hf => ?_)
  · refine kx_iconst (v := 1) K dL_changes_578 (by decide) ?_
    exact kx_zretZ K hQ (by decide) (by decide) dL_changes_579 hf
  · refine kx_iload K dL_changes_531 0 rfl ?_
    refine kx_if_ne K 549 hf dL_changes_533 (by decide) (fun hf => ?_) (fun hf => ?_)
    · refine kx_iload K dL_changes_549 0 rfl ?_
      refine kx_iconst (v := 1) K dL_changes_551 (by decide) ?_
      refine kx_icmp_ne K 568 hf dL_changes_552 (by decide) (fun hf => ?_) (fun hf => ?_)
      · refine kx_aload_n K dL_changes_568 rfl 3 rfl ?_
        refine kx_grN K fn_L_87 dL_changes_569 hf (fun x69 hf => ?_)
        refine kx_iload K dL_changes_572 1 rfl ?_
        refine kx_ai K dL_changes_574 hf (fun x70 hf => ?_)
        refine kx_if_le K 580 hf dL_changes_575 (by decide) (fun hf => ?_) (fun hf => ?_)
        · refine kx_sub [(0, .ref a0), (1, .ref a1), (4, .ref a4), (5, .int x64), (6, .int x66)] [2, 3, 6, 1, 0] rfl ?_
          exact B580 (0) (0) _ _ _ _ (by omega) (by omega) hf
        · refine kx_iconst (v := 1) K dL_changes_578 (by decide) ?_
          exact kx_zretZ K hQ (by decide) (by decide) dL_changes_579 hf
      · refine kx_aload_n K dL_changes_555 rfl 3 rfl ?_
        refine kx_grN K fn_L_82 dL_changes_556 hf (fun x71 hf => ?_)
        refine kx_iload K dL_changes_559 1 rfl ?_
        refine kx_az K dL_changes_561 hf (fun x72 hf => ?_)
        refine kx_if_eq K 580 hf dL_changes_562 (by decide) (fun hf => ?_) (fun hf => ?_)
        · refine kx_sub [(0, .ref a0), (1, .ref a1), (4, .ref a4), (5, .int x64), (6, .int x66)] [2, 3, 6, 1, 0] rfl ?_
          exact B580 (0) (0) _ _ _ _ (by omega) (by omega) hf
        · refine kx_goto K 578 dL_changes_565 (by decide) ?_
          refine kx_iconst (v := 1) K dL_changes_578 (by decide) ?_
          exact kx_zretZ K hQ (by decide) (by decide) dL_changes_579 hf
    · refine kx_aload_n K dL_changes_536 rfl 3 rfl ?_
      refine kx_grN K fn_L_76 dL_changes_537 hf (fun x73 hf => ?_)
      refine kx_iload K dL_changes_540 1 rfl ?_
      refine kx_az K dL_changes_542 hf (fun x74 hf => ?_)
      refine kx_if_eq K 580 hf dL_changes_543 (by decide) (fun hf => ?_) (fun hf => ?_)
      · refine kx_sub [(0, .ref a0), (1, .ref a1), (4, .ref a4), (5, .int x64), (6, .int x66)] [2, 3, 6, 1, 0] rfl ?_
        exact B580 (0) (0) _ _ _ _ (by omega) (by omega) hf
      · refine kx_goto K 578 dL_changes_546 (by decide) ?_
        refine kx_iconst (v := 1) K dL_changes_578 (by decide) ?_
        exact kx_zretZ K hQ (by decide) (by decide) dL_changes_579 hf
def m_L_run_j683 (K453 : ac_H → Nat → Nat → Int32 → Option ((Int32 × Nat) × ac_H)) (a0 : Nat) (a3 : Nat) (σ196 : ac_H) (z189 : Nat) (v190 : Nat) (v191 : Int32) (v192 : Int32) (v193 : Int32) (w194 : Int32) (w195 : Int32) : Option ((Int32 × Nat) × ac_H) :=
  if w195 = w194 then
  (mo_cv σ196 a0 6 (m_X6_reaches σ196 a0 v192 v193) fun x198 σ197 =>
  mo_gr σ197 v190 8 8 fun x199 =>
  mo_ai σ197 x199 2 (((16 : Int32) * v192) + v193) fun x200 =>
  if x198 = x200 then
  (K453 σ197 z189 v190 (v191 + 1))
  else
  (mo_z (0 : Int32) (some (((0 : Int32), z189), σ197))))
  else
  (mo_z (0 : Int32) (some (((0 : Int32), z189), σ196)))
def m_L_run_j621 (K453 : ac_H → Nat → Nat → Int32 → Option ((Int32 × Nat) × ac_H)) (a0 : Nat) (a3 : Nat) (σ176 : ac_H) (z171 : Nat) (v172 : Nat) (v173 : Int32) (w174 : Int32) (w175 : Int32) : Option ((Int32 × Nat) × ac_H) :=
  if w175 = w174 then
  (mo_gi σ176 v172 8 10 fun x177 =>
  mo_cs (m_L_draw σ176 a3 (x177 + (2 : Int32))) fun x179 σ178 =>
  mo_cs (m_L_draw σ178 a3 (9 : Int32)) fun x181 σ180 =>
  mo_cs (m_L_draw σ180 a3 (16 : Int32)) fun x183 σ182 =>
  mo_cv σ182 a0 6 (m_X6_delivered σ182 a0 x179) fun x185 σ184 =>
  mo_gi σ184 v172 8 10 fun x186 =>
  if x179 < x186 then
  (mo_gr σ184 v172 8 6 fun x187 =>
  mo_ai σ184 x187 0 x179 fun x188 =>
  m_L_run_j683 K453 a0 a3 σ184 z171 v172 v173 x181 x183 x188 x185)
  else
  (m_L_run_j683 K453 a0 a3 σ184 z171 v172 v173 x181 x183 (-1 : Int32) x185))
  else
  (mo_z (0 : Int32) (some (((0 : Int32), z171), σ176)))
def m_L_run_j594 (K453 : ac_H → Nat → Nat → Int32 → Option ((Int32 × Nat) × ac_H)) (a0 : Nat) (a3 : Nat) (σ166 : ac_H) (z159 : Nat) (v160 : Nat) (v161 : Int32) (v162 : Int32) (v163 : Int32) (w164 : Int32) (w165 : Int32) : Option ((Int32 × Nat) × ac_H) :=
  if w165 = w164 then
  (mo_nv σ166 a0 6 (m_X6_sent σ166 a0 v162 (4 : Int32)) fun x168 σ167 =>
  if v163 = 0 then
  (m_L_run_j621 K453 a0 a3 σ167 z159 v160 v161 (-1 : Int32) x168)
  else
  (mo_gr σ167 v160 8 5 fun x169 =>
  mo_ai σ167 x169 0 v162 fun x170 =>
  m_L_run_j621 K453 a0 a3 σ167 z159 v160 v161 x170 x168))
  else
  (mo_z (0 : Int32) (some (((0 : Int32), z159), σ166)))
def m_L_run_j567 (K453 : ac_H → Nat → Nat → Int32 → Option ((Int32 × Nat) × ac_H)) (a0 : Nat) (a3 : Nat) (σ154 : ac_H) (z147 : Nat) (v148 : Nat) (v149 : Int32) (v150 : Int32) (v151 : Int32) (w152 : Int32) (w153 : Int32) : Option ((Int32 × Nat) × ac_H) :=
  if w153 = w152 then
  (mo_nv σ154 a0 6 (m_X6_sent σ154 a0 v150 (3 : Int32)) fun x156 σ155 =>
  if v151 = 0 then
  (m_L_run_j594 K453 a0 a3 σ155 z147 v148 v149 v150 v151 (-1 : Int32) x156)
  else
  (mo_gr σ155 v148 8 4 fun x157 =>
  mo_ai σ155 x157 0 v150 fun x158 =>
  m_L_run_j594 K453 a0 a3 σ155 z147 v148 v149 v150 v151 x158 x156))
  else
  (mo_z (0 : Int32) (some (((0 : Int32), z147), σ154)))
def m_L_run_j540 (K453 : ac_H → Nat → Nat → Int32 → Option ((Int32 × Nat) × ac_H)) (a0 : Nat) (a3 : Nat) (σ142 : ac_H) (z135 : Nat) (v136 : Nat) (v137 : Int32) (v138 : Int32) (v139 : Int32) (w140 : Int32) (w141 : Int32) : Option ((Int32 × Nat) × ac_H) :=
  if w141 = w140 then
  (mo_nv σ142 a0 6 (m_X6_sent σ142 a0 v138 (2 : Int32)) fun x144 σ143 =>
  if v139 = 0 then
  (m_L_run_j567 K453 a0 a3 σ143 z135 v136 v137 v138 v139 (-1 : Int32) x144)
  else
  (mo_gr σ143 v136 8 3 fun x145 =>
  mo_ai σ143 x145 0 v138 fun x146 =>
  m_L_run_j567 K453 a0 a3 σ143 z135 v136 v137 v138 v139 x146 x144))
  else
  (mo_z (0 : Int32) (some (((0 : Int32), z135), σ142)))
def m_L_run_j513 (K453 : ac_H → Nat → Nat → Int32 → Option ((Int32 × Nat) × ac_H)) (a0 : Nat) (a3 : Nat) (σ130 : ac_H) (z123 : Nat) (v124 : Nat) (v125 : Int32) (v126 : Int32) (v127 : Int32) (w128 : Int32) (w129 : Int32) : Option ((Int32 × Nat) × ac_H) :=
  if w129 = w128 then
  (mo_nv σ130 a0 6 (m_X6_sent σ130 a0 v126 (1 : Int32)) fun x132 σ131 =>
  if v127 = 0 then
  (m_L_run_j540 K453 a0 a3 σ131 z123 v124 v125 v126 v127 (-1 : Int32) x132)
  else
  (mo_gr σ131 v124 8 2 fun x133 =>
  mo_ai σ131 x133 0 v126 fun x134 =>
  m_L_run_j540 K453 a0 a3 σ131 z123 v124 v125 v126 v127 x134 x132))
  else
  (mo_z (0 : Int32) (some (((0 : Int32), z123), σ130)))
def m_L_run_j487 (K453 : ac_H → Nat → Nat → Int32 → Option ((Int32 × Nat) × ac_H)) (a0 : Nat) (a3 : Nat) (σ118 : ac_H) (z113 : Nat) (v114 : Nat) (v115 : Int32) (v116 : Int32) (w117 : Int32) : Option ((Int32 × Nat) × ac_H) :=
  mo_nv σ118 a0 6 (m_X6_sent σ118 a0 v116 (0 : Int32)) fun x120 σ119 =>
  if w117 = 0 then
  (m_L_run_j513 K453 a0 a3 σ119 z113 v114 v115 v116 w117 (-1 : Int32) x120)
  else
  (mo_gr σ119 v114 8 1 fun x121 =>
  mo_ai σ119 x121 0 v116 fun x122 =>
  m_L_run_j513 K453 a0 a3 σ119 z113 v114 v115 v116 w117 x122 x120)
def m_L_run_l453  (a0 : Nat) (a3 : Nat) : Nat → ac_H → Nat → Nat → Int32 → Option ((Int32 × Nat) × ac_H)
  | 0, _, _, _, _ => none
  | n + 1, σ108, z105, v106, v107 =>
    if v107 < (5 : Int32) then
    (mo_gi σ108 v106 8 9 fun x109 =>
    mo_cs (m_L_draw σ108 a3 (x109 + (2 : Int32))) fun x111 σ110 =>
    mo_gi σ110 v106 8 9 fun x112 =>
    if x111 < x112 then
    (m_L_run_j487 (fun ρ y0 y1 y2 => m_L_run_l453 a0 a3 n ρ y0 y1 y2) a0 a3 σ110 z105 v106 v107 x111 (1 : Int32))
    else
    (m_L_run_j487 (fun ρ y0 y1 y2 => m_L_run_l453 a0 a3 n ρ y0 y1 y2) a0 a3 σ110 z105 v106 v107 x111 (0 : Int32)))
    else
    (mo_z (1 : Int32) (some (((1 : Int32), z105), σ108)))
def m_L_run_l421  (a0 : Nat) (a3 : Nat) : Nat → ac_H → Nat → Nat → Nat → Int32 → Option ((Int32 × Nat) × ac_H)
  | 0, _, _, _, _, _ => none
  | n + 1, σ101, z97, v98, v99, v100 =>
    if v100 < (8 : Int32) then
    (mo_nv σ101 a0 6 (m_X6_result σ101 a0 v100) fun x103 σ102 =>
    mo_ai σ102 v99 0 v100 fun x104 =>
    if x103 = x104 then
    (m_L_run_l421 a0 a3 n σ102 z97 v98 v99 (v100 + 1))
    else
    (mo_z (0 : Int32) (some (((0 : Int32), z97), σ102))))
    else
    (m_L_run_l453 a0 a3 hN_f σ101 z97 v98 (0 : Int32))
def m_L_run_l323  (a0 : Nat) (a3 : Nat) : Nat → ac_H → Nat → Nat → Int32 → Int32 → Int32 → Int32 → Int32 → Option ((Int32 × Nat) × ac_H)
  | 0, _, _, _, _, _, _, _, _ => none
  | n + 1, σ82, z75, v76, v77, v78, v79, v80, v81 =>
    if v81 < (4 : Int32) then
    (mo_cv σ82 v76 8 (m_X8_breaks σ82 v76 v81) fun x96 σ95 =>
    if x96 = 0 then
    (m_L_run_l323 a0 a3 n σ95 z75 v76 v77 v78 v79 (v80 ||| (0 : Int32)) (v81 + 1))
    else
    (m_L_run_l323 a0 a3 n σ95 z75 v76 v77 v78 v79 (v80 ||| ((1 : Int32) <<< (v81 &&& 31))) (v81 + 1)))
    else
    (mo_gi (ac_up σ82 z75 (.inl (0, kx_ar 0 8))) v76 8 11 fun x83 =>
    mo_ui (ac_up σ82 z75 (.inl (0, kx_ar 0 8))) z75 0 (0 : Int32) x83 fun σ84 =>
    mo_gi σ84 v76 8 9 fun x85 =>
    mo_ui σ84 z75 0 (1 : Int32) x85 fun σ86 =>
    mo_gi σ86 v76 8 10 fun x87 =>
    mo_ui σ86 z75 0 (2 : Int32) x87 fun σ88 =>
    mo_gi σ88 v76 8 12 fun x89 =>
    mo_ui σ88 z75 0 (3 : Int32) x89 fun σ90 =>
    mo_ui σ90 z75 0 (4 : Int32) v77 fun σ91 =>
    mo_ui σ91 z75 0 (5 : Int32) v78 fun σ92 =>
    mo_ui σ92 z75 0 (6 : Int32) v79 fun σ93 =>
    mo_ui σ93 z75 0 (7 : Int32) v80 fun σ94 =>
    m_L_run_l421 a0 a3 hN_f σ94 (z75 + 1) v76 z75 (0 : Int32))
def m_L_run_l282  (a0 : Nat) (a3 : Nat) : Nat → ac_H → Nat → Nat → Int32 → Int32 → Int32 → Int32 → Option ((Int32 × Nat) × ac_H)
  | 0, _, _, _, _, _, _, _ => none
  | n + 1, σ72, z66, v67, v68, v69, v70, v71 =>
    if v71 < (144 : Int32) then
    (mo_gr σ72 v67 8 8 fun x73 =>
    mo_ai σ72 x73 2 v71 fun x74 =>
    if x74 = 0 then
    (m_L_run_l282 a0 a3 n σ72 z66 v67 v68 v69 (v70 + (0 : Int32)) (v71 + 1))
    else
    (m_L_run_l282 a0 a3 n σ72 z66 v67 v68 v69 (v70 + (1 : Int32)) (v71 + 1)))
    else
    (m_L_run_l323 a0 a3 hN_f σ72 z66 v67 v68 v69 v70 (0 : Int32) (0 : Int32))
def m_L_run_l189 (K160 : ac_H → Nat → Nat → Int32 → Int32 → Int32 → Option ((Int32 × Nat) × ac_H)) (a0 : Nat) (a3 : Nat) : Nat → ac_H → Nat → Nat → Int32 → Int32 → Int32 → Int32 → Int32 → Option ((Int32 × Nat) × ac_H)
  | 0, _, _, _, _, _, _, _, _ => none
  | n + 1, σ57, z50, v51, v52, v53, v54, v55, v56 =>
    if v56 < v54 then
    (if v55 = 0 then
    (mo_gr σ57 v51 8 2 fun x58 =>
    mo_ai σ57 x58 0 v56 fun x59 =>
    if x59 = 0 then
    (mo_gr σ57 v51 8 2 fun x60 =>
    mo_ai σ57 x60 0 v54 fun x61 =>
    if x61 = 0 then
    (mo_gr σ57 v51 8 3 fun x62 =>
    mo_ai σ57 x62 0 v56 fun x63 =>
    mo_gr σ57 v51 8 3 fun x64 =>
    mo_ai σ57 x64 0 v54 fun x65 =>
    if x63 = x65 then
    (m_L_run_l189 K160 a0 a3 n σ57 z50 v51 v52 v53 v54 (1 : Int32) (v56 + 1))
    else
    (m_L_run_l189 K160 a0 a3 n σ57 z50 v51 v52 v53 v54 (0 : Int32) (v56 + 1)))
    else
    (m_L_run_l189 K160 a0 a3 n σ57 z50 v51 v52 v53 v54 (0 : Int32) (v56 + 1)))
    else
    (m_L_run_l189 K160 a0 a3 n σ57 z50 v51 v52 v53 v54 (0 : Int32) (v56 + 1)))
    else
    (m_L_run_l189 K160 a0 a3 n σ57 z50 v51 v52 v53 v54 (1 : Int32) (v56 + 1)))
    else
    (if v55 = 0 then
    (K160 σ57 z50 v51 (v52 + (0 : Int32)) v53 (v54 + 1))
    else
    (K160 σ57 z50 v51 (v52 + (1 : Int32)) v53 (v54 + 1)))
def m_L_run_l160  (a0 : Nat) (a3 : Nat) : Nat → ac_H → Nat → Nat → Int32 → Int32 → Int32 → Option ((Int32 × Nat) × ac_H)
  | 0, _, _, _, _, _, _ => none
  | n + 1, σ46, z41, v42, v43, v44, v45 =>
    mo_gi σ46 v42 8 9 fun x47 =>
    if v45 < x47 then
    (mo_gr σ46 v42 8 2 fun x48 =>
    mo_ai σ46 x48 0 v45 fun x49 =>
    m_L_run_l189 (fun ρ y0 y1 y2 y3 y4 => m_L_run_l160 a0 a3 n ρ y0 y1 y2 y3 y4) a0 a3 hN_f σ46 z41 v42 v43 (v44 + x49) v45 (0 : Int32) (0 : Int32))
    else
    (m_L_run_l282 a0 a3 hN_f σ46 z41 v42 v43 v44 (0 : Int32) (0 : Int32))
def m_L_run_j140 (K59 : ac_H → Nat → Nat → Int32 → Option ((Int32 × Nat) × ac_H)) (a0 : Nat) (a1 : Nat) (a3 : Nat) (σ40 : ac_H) (z35 : Nat) (v36 : Nat) (v37 : Int32) (w38 : Int32) (w39 : Int32) : Option ((Int32 × Nat) × ac_H) :=
  if w39 = w38 then
  (K59 σ40 z35 v36 (v37 + 1))
  else
  (mo_z (0 : Int32) (some (((0 : Int32), z35), σ40)))
def m_L_run_l59  (a0 : Nat) (a1 : Nat) (a3 : Nat) : Nat → ac_H → Nat → Nat → Int32 → Option ((Int32 × Nat) × ac_H)
  | 0, _, _, _, _ => none
  | n + 1, σ18, z15, v16, v17 =>
    mo_cv σ18 a1 7 (m_X7_many σ18 a1) fun x20 σ19 =>
    if v17 < x20 then
    (mo_cv σ19 a1 7 (m_X7_fault σ19 a1 v17) fun x22 σ21 =>
    mo_nv σ21 a0 6 (m_X6_fault σ21 a0 v17 (0 : Int32)) fun x24 σ23 =>
    mo_rm x22 (1000 : Int32) fun x25 =>
    if x24 = x25 then
    (mo_nv σ23 a0 6 (m_X6_fault σ23 a0 v17 (1 : Int32)) fun x27 σ26 =>
    mo_dv x22 (1000 : Int32) fun x28 =>
    if x27 = x28 then
    (mo_nv σ26 a0 6 (m_X6_fault σ26 a0 v17 (2 : Int32)) fun x30 σ29 =>
    mo_rm x22 (1000 : Int32) fun x31 =>
    if x31 = (2 : Int32) then
    (mo_gr σ29 a1 7 1 fun x32 =>
    mo_dv x22 (1000 : Int32) fun x33 =>
    mo_ai σ29 x32 0 x33 fun x34 =>
    m_L_run_j140 (fun ρ y0 y1 y2 => m_L_run_l59 a0 a1 a3 n ρ y0 y1 y2) a0 a1 a3 σ29 z15 v16 v17 x34 x30)
    else
    (m_L_run_j140 (fun ρ y0 y1 y2 => m_L_run_l59 a0 a1 a3 n ρ y0 y1 y2) a0 a1 a3 σ29 z15 v16 v17 (0 : Int32) x30))
    else
    (mo_z (0 : Int32) (some (((0 : Int32), z15), σ26))))
    else
    (mo_z (0 : Int32) (some (((0 : Int32), z15), σ23))))
    else
    (m_L_run_l160 a0 a3 hN_f σ19 z15 v16 (0 : Int32) (0 : Int32) (0 : Int32))
def m_L_run_l10  (a0 : Nat) (a1 : Nat) (a3 : Nat) : Nat → ac_H → Nat → Nat → Int32 → Option ((Int32 × Nat) × ac_H)
  | 0, _, _, _, _ => none
  | n + 1, σ6, z3, v4, v5 =>
    if v5 < (8 : Int32) then
    (mo_nv σ6 a0 6 (m_X6_size σ6 a0 v5) fun x12 σ11 =>
    mo_gr σ11 a1 7 0 fun x13 =>
    mo_ai σ11 x13 0 v5 fun x14 =>
    if x12 = x14 then
    (m_L_run_l10 a0 a1 a3 n σ11 z3 v4 (v5 + 1))
    else
    (mo_z (0 : Int32) (some (((0 : Int32), z3), σ11))))
    else
    (mo_nv σ6 a0 6 (m_X6_size σ6 a0 (8 : Int32)) fun x8 σ7 =>
    mo_cv σ7 a1 7 (m_X7_many σ7 a1) fun x10 σ9 =>
    if x8 = x10 then
    (m_L_run_l59 a0 a1 a3 hN_f σ9 z3 v4 (0 : Int32))
    else
    (mo_z (0 : Int32) (some (((0 : Int32), z3), σ9))))
def m_L_run (σ : ac_H) (a0 : Nat) (a1 : Nat) (a2 : Nat) (a3 : Nat) (q : Nat) : Option ((Int32 × Nat) × ac_H) :=
  mo_cv σ a2 8 (m_X8_go σ a2 a1) fun x2 σ1 =>
  m_L_run_l10 a0 a1 a3 hN_f σ1 q x2 (0 : Int32)
set_option maxRecDepth 100000 in
set_option maxHeartbeats 4000000 in
theorem k_L_run {Λ : ex_L} {q : Nat} {σ σ' : ac_H} {a0 : Nat} {a1 : Nat} {a2 : Nat} {a3 : Nat} {v : (Int32 × Nat)} (hf : m_L_run σ a0 a1 a2 a3 q = some (v, σ')) : kx_C Λ yL_run (.code yL_run cL_run 16 (some .boolean)) ({ frames := 5, cells := 1, slots := 8, locals := 123 } : Room) [.ref a0, .ref a1, .ref a2, .ref a3] q σ (.inr (some (.int v.1))) σ' (fun z => z = v.2) := by
  refine kx_in (by decide +kernel) (Nat.le_of_ble_eq_true rfl) ?_
  intro Γ K hnm hsz hQ
  refine kx_lv (lv' := [(0, .ref a0), (1, .ref a1), (2, .ref a2), (3, .ref a3)]) rfl ?_
  have B453 : ∀ (n453 : Nat) (k0 n0 : Nat) (σ108 : ac_H) (z105 : Nat) (v106 : Nat) (v107 : Int32), k0 ≤ 1 → n0 ≤ 8 → m_L_run_l453 a0 a3 n453 σ108 z105 v106 v107 = some (v, σ') → kx_S Λ Γ 16 (fun z => z = z105) σ108 (k0) (n0) 453 [(0, .ref a0), (3, .ref a3), (4, .ref v106), (10, .int v107)] [] := by
    intro n453
    induction n453 with
    | zero =>
      intro k0 n0 σ108 z105 v106 v107 hk0 hn0 hf
      rw [m_L_run_l453] at hf
      cases hf
    | succ n453 ih453 =>
      have B683 : ∀ (k0 n0 : Nat) (σ196 : ac_H) (z189 : Nat) (v190 : Nat) (v191 : Int32) (v192 : Int32) (v193 : Int32) (w194 : Int32) (w195 : Int32), k0 ≤ 1 → n0 ≤ 8 → m_L_run_j683 (fun ρ y0 y1 y2 => m_L_run_l453 a0 a3 n453 ρ y0 y1 y2) a0 a3 σ196 z189 v190 v191 v192 v193 w194 w195 = some (v, σ') → kx_S Λ Γ 16 (fun z => z = z189) σ196 (k0) (n0) 683 [(0, .ref a0), (3, .ref a3), (4, .ref v190), (10, .int v191), (14, .int v192), (15, .int v193)] [.int w194, .int w195] := by
        intro k0 n0 σ196 z189 v190 v191 v192 v193 w194 w195 hk0 hn0 hf
        unfold m_L_run_j683 at hf
        refine kx_icmp_ne K 711 hf dL_run_683 (by decide) (fun hf => ?_) (fun hf => ?_)
        · refine kx_iconst (v := 0) K dL_run_711 (by decide) ?_
          exact kx_zretZ K hQ (show k0 ≤ 1 by omega) (show n0 ≤ 8 by omega) dL_run_712 hf
        · refine kx_aload_n K dL_run_686 rfl 0 rfl ?_
          refine kx_iload K dL_run_687 4 rfl ?_
          refine kx_iload K dL_run_689 5 rfl ?_
          refine kx_cv2i K c_L_186 ⟨by decide, by decide, rfl, rfl, (show k0 ≤ 1 by omega), (show n0 ≤ 8 by omega)⟩ (Nat.le_of_ble_eq_true rfl) dL_run_691 hf (fun _ _ _ h => k_X6_reaches h) (fun x198 σ197 hf => ?_)
          refine kx_aload K dL_run_694 2 rfl ?_
          refine kx_grN K fn_L_150 dL_run_696 hf (fun x199 hf => ?_)
          refine kx_bipush (v := 16) K dL_run_699 (by decide) ?_
          refine kx_iload K dL_run_701 4 rfl ?_
          refine kx_imul K dL_run_703 ?_
          refine kx_iload K dL_run_704 5 rfl ?_
          refine kx_iadd K dL_run_706 ?_
          refine kx_az K dL_run_707 hf (fun x200 hf => ?_)
          refine kx_icmp_eq K 713 hf dL_run_708 (by decide) (fun hf => ?_) (fun hf => ?_)
          · refine kx_iinc (v := (v191 + 1)) K [(10, .int (v191 + 1)), (0, .ref a0), (3, .ref a3), (4, .ref v190), (14, .int v192), (15, .int v193)] dL_run_713 3 rfl rfl (by decide) rfl ?_
            refine kx_goto K 453 dL_run_716 (by decide) ?_
            refine kx_sub [(0, .ref a0), (3, .ref a3), (4, .ref v190), (10, .int (v191 + 1))] [1, 2, 3, 0] rfl ?_
            exact ih453 (k0) (n0) _ _ _ _ (by omega) (by omega) hf
          · refine kx_iconst (v := 0) K dL_run_711 (by decide) ?_
            exact kx_zretZ K hQ (show k0 ≤ 1 by omega) (show n0 ≤ 8 by omega) dL_run_712 hf
      have B621 : ∀ (k0 n0 : Nat) (σ176 : ac_H) (z171 : Nat) (v172 : Nat) (v173 : Int32) (w174 : Int32) (w175 : Int32), k0 ≤ 1 → n0 ≤ 8 → m_L_run_j621 (fun ρ y0 y1 y2 => m_L_run_l453 a0 a3 n453 ρ y0 y1 y2) a0 a3 σ176 z171 v172 v173 w174 w175 = some (v, σ') → kx_S Λ Γ 16 (fun z => z = z171) σ176 (k0) (n0) 621 [(0, .ref a0), (3, .ref a3), (4, .ref v172), (10, .int v173)] [.int w174, .int w175] := by
        intro k0 n0 σ176 z171 v172 v173 w174 w175 hk0 hn0 hf
        unfold m_L_run_j621 at hf
        refine kx_icmp_eq K 626 hf dL_run_621 (by decide) (fun hf => ?_) (fun hf => ?_)
        · refine kx_aload_n K dL_run_626 rfl 1 rfl ?_
          refine kx_aload K dL_run_627 2 rfl ?_
          refine kx_giN K fn_L_160 dL_run_629 hf (fun x177 hf => ?_)
          refine kx_iconst (v := 2) K dL_run_632 (by decide) ?_
          refine kx_iadd K dL_run_633 ?_
          refine kx_cs2i K c_L_35 ⟨by decide, by decide, rfl, rfl, (show k0 ≤ 1 by omega), (show n0 ≤ 8 by omega)⟩ (Nat.le_of_ble_eq_true rfl) dL_run_634 hf (fun _ _ _ h => k_L_draw h) (fun x179 σ178 hf => ?_)
          refine kx_istore K [(13, .int x179), (0, .ref a0), (3, .ref a3), (4, .ref v172), (10, .int v173)] dL_run_637 (by decide) rfl ?_
          refine kx_aload_n K dL_run_639 rfl 2 rfl ?_
          refine kx_bipush (v := 9) K dL_run_640 (by decide) ?_
          refine kx_cs2i K c_L_35 ⟨by decide, by decide, rfl, rfl, (show k0 ≤ 1 by omega), (show n0 ≤ 8 by omega)⟩ (Nat.le_of_ble_eq_true rfl) dL_run_642 hf (fun _ _ _ h => k_L_draw h) (fun x181 σ180 hf => ?_)
          refine kx_istore K [(14, .int x181), (13, .int x179), (0, .ref a0), (3, .ref a3), (4, .ref v172), (10, .int v173)] dL_run_645 (by decide) rfl ?_
          refine kx_aload_n K dL_run_647 rfl 3 rfl ?_
          refine kx_bipush (v := 16) K dL_run_648 (by decide) ?_
          refine kx_cs2i K c_L_35 ⟨by decide, by decide, rfl, rfl, (show k0 ≤ 1 by omega), (show n0 ≤ 8 by omega)⟩ (Nat.le_of_ble_eq_true rfl) dL_run_650 hf (fun _ _ _ h => k_L_draw h) (fun x183 σ182 hf => ?_)
          refine kx_istore K [(15, .int x183), (14, .int x181), (13, .int x179), (0, .ref a0), (3, .ref a3), (4, .ref v172), (10, .int v173)] dL_run_653 (by decide) rfl ?_
          refine kx_aload_n K dL_run_655 rfl 3 rfl ?_
          refine kx_iload K dL_run_656 2 rfl ?_
          refine kx_cv1i K c_L_180 ⟨by decide, by decide, rfl, rfl, (show k0 ≤ 1 by omega), (show n0 ≤ 8 by omega)⟩ (Nat.le_of_ble_eq_true rfl) dL_run_658 hf (fun _ _ _ h => k_X6_delivered h) (fun x185 σ184 hf => ?_)
          refine kx_iload K dL_run_661 2 rfl ?_
          refine kx_aload K dL_run_663 5 rfl ?_
          refine kx_giN K fn_L_160 dL_run_665 hf (fun x186 hf => ?_)
          refine kx_icmp_ge K 682 hf dL_run_668 (by decide) (fun hf => ?_) (fun hf => ?_)
          · refine kx_iconst (v := -1) K dL_run_682 (by decide) ?_
            refine kx_sub [(0, .ref a0), (3, .ref a3), (4, .ref v172), (10, .int v173), (14, .int x181), (15, .int x183)] [3, 4, 5, 6, 1, 0] rfl ?_
            exact B683 (k0) (n0) _ _ _ _ _ _ _ _ (by omega) (by omega) hf
          · refine kx_aload K dL_run_671 5 rfl ?_
            refine kx_grN K fn_L_183 dL_run_673 hf (fun x187 hf => ?_)
            refine kx_iload K dL_run_676 2 rfl ?_
            refine kx_ai K dL_run_678 hf (fun x188 hf => ?_)
            refine kx_goto K 683 dL_run_679 (by decide) ?_
            refine kx_sub [(0, .ref a0), (3, .ref a3), (4, .ref v172), (10, .int v173), (14, .int x181), (15, .int x183)] [3, 4, 5, 6, 1, 0] rfl ?_
            exact B683 (k0) (n0) _ _ _ _ _ _ _ _ (by omega) (by omega) hf
        · refine kx_iconst (v := 0) K dL_run_624 (by decide) ?_
          exact kx_zretZ K hQ (show k0 ≤ 1 by omega) (show n0 ≤ 8 by omega) dL_run_625 hf
      have B594 : ∀ (k0 n0 : Nat) (σ166 : ac_H) (z159 : Nat) (v160 : Nat) (v161 : Int32) (v162 : Int32) (v163 : Int32) (w164 : Int32) (w165 : Int32), k0 ≤ 1 → n0 ≤ 8 → m_L_run_j594 (fun ρ y0 y1 y2 => m_L_run_l453 a0 a3 n453 ρ y0 y1 y2) a0 a3 σ166 z159 v160 v161 v162 v163 w164 w165 = some (v, σ') → kx_S Λ Γ 16 (fun z => z = z159) σ166 (k0) (n0) 594 [(0, .ref a0), (3, .ref a3), (4, .ref v160), (10, .int v161), (11, .int v162), (12, .int v163)] [.int w164, .int w165] := by
        intro k0 n0 σ166 z159 v160 v161 v162 v163 w164 w165 hk0 hn0 hf
        unfold m_L_run_j594 at hf
        refine kx_icmp_ne K 624 hf dL_run_594 (by decide) (fun hf => ?_) (fun hf => ?_)
        · refine kx_iconst (v := 0) K dL_run_624 (by decide) ?_
          exact kx_zretZ K hQ (show k0 ≤ 1 by omega) (show n0 ≤ 8 by omega) dL_run_625 hf
        · refine kx_aload_n K dL_run_597 rfl 0 rfl ?_
          refine kx_iload K dL_run_598 4 rfl ?_
          refine kx_iconst (v := 4) K dL_run_600 (by decide) ?_
          refine kx_nv (ρ := Int32) K [.int v162, .int (4 : Int32)] (fun x => some (.int x)) c_L_169 ⟨by decide, by decide, rfl, rfl, (show k0 ≤ 1 by omega), (show n0 ≤ 8 by omega)⟩ rfl rfl (Nat.le_of_ble_eq_true rfl) dL_run_601 hf (fun _ _ _ h => k_X6_sent h) (fun x168 σ167 hf => ?_)
          refine kx_iload K dL_run_604 5 rfl ?_
          refine kx_if_eq K 620 hf dL_run_606 (by decide) (fun hf => ?_) (fun hf => ?_)
          · refine kx_iconst (v := -1) K dL_run_620 (by decide) ?_
            refine kx_sub [(0, .ref a0), (3, .ref a3), (4, .ref v160), (10, .int v161)] [0, 1, 2, 3] rfl ?_
            exact B621 (k0) (n0) _ _ _ _ _ _ (by omega) (by omega) hf
          · refine kx_aload K dL_run_609 2 rfl ?_
            refine kx_grN K fn_L_177 dL_run_611 hf (fun x169 hf => ?_)
            refine kx_iload K dL_run_614 4 rfl ?_
            refine kx_ai K dL_run_616 hf (fun x170 hf => ?_)
            refine kx_goto K 621 dL_run_617 (by decide) ?_
            refine kx_sub [(0, .ref a0), (3, .ref a3), (4, .ref v160), (10, .int v161)] [0, 1, 2, 3] rfl ?_
            exact B621 (k0) (n0) _ _ _ _ _ _ (by omega) (by omega) hf
      have B567 : ∀ (k0 n0 : Nat) (σ154 : ac_H) (z147 : Nat) (v148 : Nat) (v149 : Int32) (v150 : Int32) (v151 : Int32) (w152 : Int32) (w153 : Int32), k0 ≤ 1 → n0 ≤ 8 → m_L_run_j567 (fun ρ y0 y1 y2 => m_L_run_l453 a0 a3 n453 ρ y0 y1 y2) a0 a3 σ154 z147 v148 v149 v150 v151 w152 w153 = some (v, σ') → kx_S Λ Γ 16 (fun z => z = z147) σ154 (k0) (n0) 567 [(0, .ref a0), (3, .ref a3), (4, .ref v148), (10, .int v149), (11, .int v150), (12, .int v151)] [.int w152, .int w153] := by
        intro k0 n0 σ154 z147 v148 v149 v150 v151 w152 w153 hk0 hn0 hf
        unfold m_L_run_j567 at hf
        refine kx_icmp_ne K 624 hf dL_run_567 (by decide) (fun hf => ?_) (fun hf => ?_)
        · refine kx_iconst (v := 0) K dL_run_624 (by decide) ?_
          exact kx_zretZ K hQ (show k0 ≤ 1 by omega) (show n0 ≤ 8 by omega) dL_run_625 hf
        · refine kx_aload_n K dL_run_570 rfl 0 rfl ?_
          refine kx_iload K dL_run_571 4 rfl ?_
          refine kx_iconst (v := 3) K dL_run_573 (by decide) ?_
          refine kx_nv (ρ := Int32) K [.int v150, .int (3 : Int32)] (fun x => some (.int x)) c_L_169 ⟨by decide, by decide, rfl, rfl, (show k0 ≤ 1 by omega), (show n0 ≤ 8 by omega)⟩ rfl rfl (Nat.le_of_ble_eq_true rfl) dL_run_574 hf (fun _ _ _ h => k_X6_sent h) (fun x156 σ155 hf => ?_)
          refine kx_iload K dL_run_577 5 rfl ?_
          refine kx_if_eq K 593 hf dL_run_579 (by decide) (fun hf => ?_) (fun hf => ?_)
          · refine kx_iconst (v := -1) K dL_run_593 (by decide) ?_
            refine kx_sub [(0, .ref a0), (3, .ref a3), (4, .ref v148), (10, .int v149), (11, .int v150), (12, .int v151)] [0, 1, 2, 3, 4, 5] rfl ?_
            exact B594 (k0) (n0) _ _ _ _ _ _ _ _ (by omega) (by omega) hf
          · refine kx_aload K dL_run_582 2 rfl ?_
            refine kx_grN K fn_L_174 dL_run_584 hf (fun x157 hf => ?_)
            refine kx_iload K dL_run_587 4 rfl ?_
            refine kx_ai K dL_run_589 hf (fun x158 hf => ?_)
            refine kx_goto K 594 dL_run_590 (by decide) ?_
            refine kx_sub [(0, .ref a0), (3, .ref a3), (4, .ref v148), (10, .int v149), (11, .int v150), (12, .int v151)] [0, 1, 2, 3, 4, 5] rfl ?_
            exact B594 (k0) (n0) _ _ _ _ _ _ _ _ (by omega) (by omega) hf
      have B540 : ∀ (k0 n0 : Nat) (σ142 : ac_H) (z135 : Nat) (v136 : Nat) (v137 : Int32) (v138 : Int32) (v139 : Int32) (w140 : Int32) (w141 : Int32), k0 ≤ 1 → n0 ≤ 8 → m_L_run_j540 (fun ρ y0 y1 y2 => m_L_run_l453 a0 a3 n453 ρ y0 y1 y2) a0 a3 σ142 z135 v136 v137 v138 v139 w140 w141 = some (v, σ') → kx_S Λ Γ 16 (fun z => z = z135) σ142 (k0) (n0) 540 [(0, .ref a0), (3, .ref a3), (4, .ref v136), (10, .int v137), (11, .int v138), (12, .int v139)] [.int w140, .int w141] := by
        intro k0 n0 σ142 z135 v136 v137 v138 v139 w140 w141 hk0 hn0 hf
        unfold m_L_run_j540 at hf
        refine kx_icmp_ne K 624 hf dL_run_540 (by decide) (fun hf => ?_) (fun hf => ?_)
        · refine kx_iconst (v := 0) K dL_run_624 (by decide) ?_
          exact kx_zretZ K hQ (show k0 ≤ 1 by omega) (show n0 ≤ 8 by omega) dL_run_625 hf
        · refine kx_aload_n K dL_run_543 rfl 0 rfl ?_
          refine kx_iload K dL_run_544 4 rfl ?_
          refine kx_iconst (v := 2) K dL_run_546 (by decide) ?_
          refine kx_nv (ρ := Int32) K [.int v138, .int (2 : Int32)] (fun x => some (.int x)) c_L_169 ⟨by decide, by decide, rfl, rfl, (show k0 ≤ 1 by omega), (show n0 ≤ 8 by omega)⟩ rfl rfl (Nat.le_of_ble_eq_true rfl) dL_run_547 hf (fun _ _ _ h => k_X6_sent h) (fun x144 σ143 hf => ?_)
          refine kx_iload K dL_run_550 5 rfl ?_
          refine kx_if_eq K 566 hf dL_run_552 (by decide) (fun hf => ?_) (fun hf => ?_)
          · refine kx_iconst (v := -1) K dL_run_566 (by decide) ?_
            refine kx_sub [(0, .ref a0), (3, .ref a3), (4, .ref v136), (10, .int v137), (11, .int v138), (12, .int v139)] [0, 1, 2, 3, 4, 5] rfl ?_
            exact B567 (k0) (n0) _ _ _ _ _ _ _ _ (by omega) (by omega) hf
          · refine kx_aload K dL_run_555 2 rfl ?_
            refine kx_grN K fn_L_147 dL_run_557 hf (fun x145 hf => ?_)
            refine kx_iload K dL_run_560 4 rfl ?_
            refine kx_ai K dL_run_562 hf (fun x146 hf => ?_)
            refine kx_goto K 567 dL_run_563 (by decide) ?_
            refine kx_sub [(0, .ref a0), (3, .ref a3), (4, .ref v136), (10, .int v137), (11, .int v138), (12, .int v139)] [0, 1, 2, 3, 4, 5] rfl ?_
            exact B567 (k0) (n0) _ _ _ _ _ _ _ _ (by omega) (by omega) hf
      have B513 : ∀ (k0 n0 : Nat) (σ130 : ac_H) (z123 : Nat) (v124 : Nat) (v125 : Int32) (v126 : Int32) (v127 : Int32) (w128 : Int32) (w129 : Int32), k0 ≤ 1 → n0 ≤ 8 → m_L_run_j513 (fun ρ y0 y1 y2 => m_L_run_l453 a0 a3 n453 ρ y0 y1 y2) a0 a3 σ130 z123 v124 v125 v126 v127 w128 w129 = some (v, σ') → kx_S Λ Γ 16 (fun z => z = z123) σ130 (k0) (n0) 513 [(0, .ref a0), (3, .ref a3), (4, .ref v124), (10, .int v125), (11, .int v126), (12, .int v127)] [.int w128, .int w129] := by
        intro k0 n0 σ130 z123 v124 v125 v126 v127 w128 w129 hk0 hn0 hf
        unfold m_L_run_j513 at hf
        refine kx_icmp_ne K 624 hf dL_run_513 (by decide) (fun hf => ?_) (fun hf => ?_)
        · refine kx_iconst (v := 0) K dL_run_624 (by decide) ?_
          exact kx_zretZ K hQ (show k0 ≤ 1 by omega) (show n0 ≤ 8 by omega) dL_run_625 hf
        · refine kx_aload_n K dL_run_516 rfl 0 rfl ?_
          refine kx_iload K dL_run_517 4 rfl ?_
          refine kx_iconst (v := 1) K dL_run_519 (by decide) ?_
          refine kx_nv (ρ := Int32) K [.int v126, .int (1 : Int32)] (fun x => some (.int x)) c_L_169 ⟨by decide, by decide, rfl, rfl, (show k0 ≤ 1 by omega), (show n0 ≤ 8 by omega)⟩ rfl rfl (Nat.le_of_ble_eq_true rfl) dL_run_520 hf (fun _ _ _ h => k_X6_sent h) (fun x132 σ131 hf => ?_)
          refine kx_iload K dL_run_523 5 rfl ?_
          refine kx_if_eq K 539 hf dL_run_525 (by decide) (fun hf => ?_) (fun hf => ?_)
          · refine kx_iconst (v := -1) K dL_run_539 (by decide) ?_
            refine kx_sub [(0, .ref a0), (3, .ref a3), (4, .ref v124), (10, .int v125), (11, .int v126), (12, .int v127)] [0, 1, 2, 3, 4, 5] rfl ?_
            exact B540 (k0) (n0) _ _ _ _ _ _ _ _ (by omega) (by omega) hf
          · refine kx_aload K dL_run_528 2 rfl ?_
            refine kx_grN K fn_L_144 dL_run_530 hf (fun x133 hf => ?_)
            refine kx_iload K dL_run_533 4 rfl ?_
            refine kx_ai K dL_run_535 hf (fun x134 hf => ?_)
            refine kx_goto K 540 dL_run_536 (by decide) ?_
            refine kx_sub [(0, .ref a0), (3, .ref a3), (4, .ref v124), (10, .int v125), (11, .int v126), (12, .int v127)] [0, 1, 2, 3, 4, 5] rfl ?_
            exact B540 (k0) (n0) _ _ _ _ _ _ _ _ (by omega) (by omega) hf
      have B487 : ∀ (k0 n0 : Nat) (σ118 : ac_H) (z113 : Nat) (v114 : Nat) (v115 : Int32) (v116 : Int32) (w117 : Int32), k0 ≤ 1 → n0 ≤ 8 → m_L_run_j487 (fun ρ y0 y1 y2 => m_L_run_l453 a0 a3 n453 ρ y0 y1 y2) a0 a3 σ118 z113 v114 v115 v116 w117 = some (v, σ') → kx_S Λ Γ 16 (fun z => z = z113) σ118 (k0) (n0) 487 [(0, .ref a0), (3, .ref a3), (4, .ref v114), (10, .int v115), (11, .int v116)] [.int w117] := by
        intro k0 n0 σ118 z113 v114 v115 v116 w117 hk0 hn0 hf
        unfold m_L_run_j487 at hf
        refine kx_istore K [(12, .int w117), (0, .ref a0), (3, .ref a3), (4, .ref v114), (10, .int v115), (11, .int v116)] dL_run_487 (by decide) rfl ?_
        refine kx_aload_n K dL_run_489 rfl 1 rfl ?_
        refine kx_iload K dL_run_490 5 rfl ?_
        refine kx_iconst (v := 0) K dL_run_492 (by decide) ?_
        refine kx_nv (ρ := Int32) K [.int v116, .int (0 : Int32)] (fun x => some (.int x)) c_L_169 ⟨by decide, by decide, rfl, rfl, (show k0 ≤ 1 by omega), (show n0 ≤ 8 by omega)⟩ rfl rfl (Nat.le_of_ble_eq_true rfl) dL_run_493 hf (fun _ _ _ h => k_X6_sent h) (fun x120 σ119 hf => ?_)
        refine kx_iload K dL_run_496 0 rfl ?_
        refine kx_if_eq K 512 hf dL_run_498 (by decide) (fun hf => ?_) (fun hf => ?_)
        · refine kx_iconst (v := -1) K dL_run_512 (by decide) ?_
          refine kx_sub [(0, .ref a0), (3, .ref a3), (4, .ref v114), (10, .int v115), (11, .int v116), (12, .int w117)] [1, 2, 3, 4, 5, 0] rfl ?_
          exact B513 (k0) (n0) _ _ _ _ _ _ _ _ (by omega) (by omega) hf
        · refine kx_aload K dL_run_501 3 rfl ?_
          refine kx_grN K fn_L_171 dL_run_503 hf (fun x121 hf => ?_)
          refine kx_iload K dL_run_506 5 rfl ?_
          refine kx_ai K dL_run_508 hf (fun x122 hf => ?_)
          refine kx_goto K 513 dL_run_509 (by decide) ?_
          refine kx_sub [(0, .ref a0), (3, .ref a3), (4, .ref v114), (10, .int v115), (11, .int v116), (12, .int w117)] [1, 2, 3, 4, 5, 0] rfl ?_
          exact B513 (k0) (n0) _ _ _ _ _ _ _ _ (by omega) (by omega) hf
      intro k0 n0 σ108 z105 v106 v107 hk0 hn0 hf
      rw [m_L_run_l453] at hf
      refine kx_iload K dL_run_453 3 rfl ?_
      refine kx_iconst (v := 5) K dL_run_455 (by decide) ?_
      refine kx_icmp_ge K 719 hf dL_run_456 (by decide) (fun hf => ?_) (fun hf => ?_)
      · refine kx_iconst (v := 1) K dL_run_719 (by decide) ?_
        exact kx_zretZ K hQ (show k0 ≤ 1 by omega) (show n0 ≤ 8 by omega) dL_run_720 hf
      · refine kx_aload_n K dL_run_459 rfl 1 rfl ?_
        refine kx_aload K dL_run_460 2 rfl ?_
        refine kx_giN K fn_L_140 dL_run_462 hf (fun x109 hf => ?_)
        refine kx_iconst (v := 2) K dL_run_465 (by decide) ?_
        refine kx_iadd K dL_run_466 ?_
        refine kx_cs2i K c_L_35 ⟨by decide, by decide, rfl, rfl, (show k0 ≤ 1 by omega), (show n0 ≤ 8 by omega)⟩ (Nat.le_of_ble_eq_true rfl) dL_run_467 hf (fun _ _ _ h => k_L_draw h) (fun x111 σ110 hf => ?_)
        refine kx_istore K [(11, .int x111), (0, .ref a0), (3, .ref a3), (4, .ref v106), (10, .int v107)] dL_run_470 (by decide) rfl ?_
        refine kx_iload K dL_run_472 0 rfl ?_
        refine kx_aload K dL_run_474 3 rfl ?_
        refine kx_giN K fn_L_140 dL_run_476 hf (fun x112 hf => ?_)
        refine kx_icmp_ge K 486 hf dL_run_479 (by decide) (fun hf => ?_) (fun hf => ?_)
        · refine kx_iconst (v := 0) K dL_run_486 (by decide) ?_
          refine kx_sub [(0, .ref a0), (3, .ref a3), (4, .ref v106), (10, .int v107), (11, .int x111)] [1, 2, 3, 4, 0] rfl ?_
          exact B487 (k0) (n0) _ _ _ _ _ _ (by omega) (by omega) hf
        · refine kx_iconst (v := 1) K dL_run_482 (by decide) ?_
          refine kx_goto K 487 dL_run_483 (by decide) ?_
          refine kx_sub [(0, .ref a0), (3, .ref a3), (4, .ref v106), (10, .int v107), (11, .int x111)] [1, 2, 3, 4, 0] rfl ?_
          exact B487 (k0) (n0) _ _ _ _ _ _ (by omega) (by omega) hf
  have B421 : ∀ (n421 : Nat) (k0 n0 : Nat) (σ101 : ac_H) (z97 : Nat) (v98 : Nat) (v99 : Nat) (v100 : Int32), k0 ≤ 1 → n0 ≤ 8 → m_L_run_l421 a0 a3 n421 σ101 z97 v98 v99 v100 = some (v, σ') → kx_S Λ Γ 16 (fun z => z = z97) σ101 (k0) (n0) 421 [(0, .ref a0), (3, .ref a3), (4, .ref v98), (9, .ref v99), (10, .int v100)] [] := by
    intro n421
    induction n421 with
    | zero =>
      intro k0 n0 σ101 z97 v98 v99 v100 hk0 hn0 hf
      rw [m_L_run_l421] at hf
      cases hf
    | succ n421 ih421 =>
      intro k0 n0 σ101 z97 v98 v99 v100 hk0 hn0 hf
      rw [m_L_run_l421] at hf
      refine kx_iload K dL_run_421 4 rfl ?_
      refine kx_bipush (v := 8) K dL_run_423 (by decide) ?_
      refine kx_icmp_ge K 450 hf dL_run_425 (by decide) (fun hf => ?_) (fun hf => ?_)
      · refine kx_iconst (v := 0) K dL_run_450 (by decide) ?_
        refine kx_istore K [(10, .int (0 : Int32)), (0, .ref a0), (3, .ref a3), (4, .ref v98), (9, .ref v99)] dL_run_451 (by decide) rfl ?_
        refine kx_sub [(0, .ref a0), (3, .ref a3), (4, .ref v98), (10, .int (0 : Int32))] [1, 2, 3, 0] rfl ?_
        exact B453 hN_f (k0) (n0) _ _ _ _ (by omega) (by omega) hf
      · refine kx_aload_n K dL_run_428 rfl 0 rfl ?_
        refine kx_iload K dL_run_429 4 rfl ?_
        refine kx_nv (ρ := Int32) K [.int v100] (fun x => some (.int x)) c_L_166 ⟨by decide, by decide, rfl, rfl, (show k0 ≤ 1 by omega), (show n0 ≤ 8 by omega)⟩ rfl rfl (Nat.le_of_ble_eq_true rfl) dL_run_431 hf (fun _ _ _ h => k_X6_result h) (fun x103 σ102 hf => ?_)
        refine kx_aload K dL_run_434 3 rfl ?_
        refine kx_iload K dL_run_436 4 rfl ?_
        refine kx_ai K dL_run_438 hf (fun x104 hf => ?_)
        refine kx_icmp_eq K 444 hf dL_run_439 (by decide) (fun hf => ?_) (fun hf => ?_)
        · refine kx_iinc (v := (v100 + 1)) K [(10, .int (v100 + 1)), (0, .ref a0), (3, .ref a3), (4, .ref v98), (9, .ref v99)] dL_run_444 4 rfl rfl (by decide) rfl ?_
          refine kx_goto K 421 dL_run_447 (by decide) ?_
          refine kx_sub [(0, .ref a0), (3, .ref a3), (4, .ref v98), (9, .ref v99), (10, .int (v100 + 1))] [1, 2, 3, 4, 0] rfl ?_
          exact ih421 (k0) (n0) _ _ _ _ _ (by omega) (by omega) hf
        · refine kx_iconst (v := 0) K dL_run_442 (by decide) ?_
          exact kx_zretZ K hQ (show k0 ≤ 1 by omega) (show n0 ≤ 8 by omega) dL_run_443 hf
  have B323 : ∀ (n323 : Nat) (k0 n0 : Nat) (σ82 : ac_H) (z75 : Nat) (v76 : Nat) (v77 : Int32) (v78 : Int32) (v79 : Int32) (v80 : Int32) (v81 : Int32), k0 + 1 ≤ 1 → n0 + 8 ≤ 8 → m_L_run_l323 a0 a3 n323 σ82 z75 v76 v77 v78 v79 v80 v81 = some (v, σ') → kx_S Λ Γ 16 (fun z => z = z75) σ82 (k0) (n0) 323 [(0, .ref a0), (3, .ref a3), (4, .ref v76), (5, .int v77), (6, .int v78), (7, .int v79), (8, .int v80), (9, .int v81)] [] := by
    intro n323
    induction n323 with
    | zero =>
      intro k0 n0 σ82 z75 v76 v77 v78 v79 v80 v81 hk0 hn0 hf
      rw [m_L_run_l323] at hf
      cases hf
    | succ n323 ih323 =>
      intro k0 n0 σ82 z75 v76 v77 v78 v79 v80 v81 hk0 hn0 hf
      rw [m_L_run_l323] at hf
      refine kx_iload K dL_run_323 7 rfl ?_
      refine kx_iconst (v := 4) K dL_run_325 (by decide) ?_
      refine kx_icmp_ge K 358 hf dL_run_326 (by decide) (fun hf => ?_) (fun hf => ?_)
      · refine kx_bipush (v := 8) K dL_run_358 (by decide) ?_
        refine kx_newa (kd := 0) (M := 8) (at9 := .int) K (by decide) rfl w_3 (by decide) (by decide) (show k0 + 1 ≤ 1 by omega) (show n0 + 8 ≤ 8 by omega) dL_run_360 ?_
        refine kx_wd (k' := k0 + 1) (n' := n0 + 8) (by omega) (by omega) ?_
        refine kx_dup K dL_run_362 rfl ?_
        refine kx_iconst (v := 0) K dL_run_363 (by decide) ?_
        refine kx_aload K dL_run_364 2 rfl ?_
        refine kx_giN K fn_L_157 dL_run_366 hf (fun x83 hf => ?_)
        refine kx_ui K dL_run_369 hf (fun σ84 hf => ?_)
        refine kx_dup K dL_run_370 rfl ?_
        refine kx_iconst (v := 1) K dL_run_371 (by decide) ?_
        refine kx_aload K dL_run_372 2 rfl ?_
        refine kx_giN K fn_L_140 dL_run_374 hf (fun x85 hf => ?_)
        refine kx_ui K dL_run_377 hf (fun σ86 hf => ?_)
        refine kx_dup K dL_run_378 rfl ?_
        refine kx_iconst (v := 2) K dL_run_379 (by decide) ?_
        refine kx_aload K dL_run_380 2 rfl ?_
        refine kx_giN K fn_L_160 dL_run_382 hf (fun x87 hf => ?_)
        refine kx_ui K dL_run_385 hf (fun σ88 hf => ?_)
        refine kx_dup K dL_run_386 rfl ?_
        refine kx_iconst (v := 3) K dL_run_387 (by decide) ?_
        refine kx_aload K dL_run_388 2 rfl ?_
        refine kx_giN K fn_L_163 dL_run_390 hf (fun x89 hf => ?_)
        refine kx_ui K dL_run_393 hf (fun σ90 hf => ?_)
        refine kx_dup K dL_run_394 rfl ?_
        refine kx_iconst (v := 4) K dL_run_395 (by decide) ?_
        refine kx_iload K dL_run_396 3 rfl ?_
        refine kx_ui K dL_run_398 hf (fun σ91 hf => ?_)
        refine kx_dup K dL_run_399 rfl ?_
        refine kx_iconst (v := 5) K dL_run_400 (by decide) ?_
        refine kx_iload K dL_run_401 4 rfl ?_
        refine kx_ui K dL_run_403 hf (fun σ92 hf => ?_)
        refine kx_dup K dL_run_404 rfl ?_
        refine kx_bipush (v := 6) K dL_run_405 (by decide) ?_
        refine kx_iload K dL_run_407 5 rfl ?_
        refine kx_ui K dL_run_409 hf (fun σ93 hf => ?_)
        refine kx_dup K dL_run_410 rfl ?_
        refine kx_bipush (v := 7) K dL_run_411 (by decide) ?_
        refine kx_iload K dL_run_413 6 rfl ?_
        refine kx_ui K dL_run_415 hf (fun σ94 hf => ?_)
        refine kx_astore K [(9, .ref z75), (0, .ref a0), (3, .ref a3), (4, .ref v76), (5, .int v77), (6, .int v78), (7, .int v79), (8, .int v80)] dL_run_416 (by decide) rfl ?_
        refine kx_iconst (v := 0) K dL_run_418 (by decide) ?_
        refine kx_istore K [(10, .int (0 : Int32)), (9, .ref z75), (0, .ref a0), (3, .ref a3), (4, .ref v76), (5, .int v77), (6, .int v78), (7, .int v79), (8, .int v80)] dL_run_419 (by decide) rfl ?_
        refine kx_sub [(0, .ref a0), (3, .ref a3), (4, .ref v76), (9, .ref z75), (10, .int (0 : Int32))] [2, 3, 4, 1, 0] rfl ?_
        exact B421 hN_f (k0 + 1) (n0 + 8) _ _ _ _ _ (by omega) (by omega) hf
      · refine kx_iload K dL_run_329 6 rfl ?_
        refine kx_aload K dL_run_331 2 rfl ?_
        refine kx_iload K dL_run_333 7 rfl ?_
        refine kx_cv1i K c_L_153 ⟨by decide, by decide, rfl, rfl, (show k0 ≤ 1 by omega), (show n0 ≤ 8 by omega)⟩ (Nat.le_of_ble_eq_true rfl) dL_run_335 hf (fun _ _ _ h => k_X8_breaks h) (fun x96 σ95 hf => ?_)
        refine kx_if_eq K 348 hf dL_run_338 (by decide) (fun hf => ?_) (fun hf => ?_)
        · refine kx_iconst (v := 0) K dL_run_348 (by decide) ?_
          refine kx_ior K dL_run_349 ?_
          refine kx_istore K [(8, .int (v80 ||| (0 : Int32))), (0, .ref a0), (3, .ref a3), (4, .ref v76), (5, .int v77), (6, .int v78), (7, .int v79), (9, .int v81)] dL_run_350 (by decide) rfl ?_
          refine kx_iinc (v := (v81 + 1)) K [(9, .int (v81 + 1)), (8, .int (v80 ||| (0 : Int32))), (0, .ref a0), (3, .ref a3), (4, .ref v76), (5, .int v77), (6, .int v78), (7, .int v79)] dL_run_352 7 rfl rfl (by decide) rfl ?_
          refine kx_goto K 323 dL_run_355 (by decide) ?_
          refine kx_sub [(0, .ref a0), (3, .ref a3), (4, .ref v76), (5, .int v77), (6, .int v78), (7, .int v79), (8, .int (v80 ||| (0 : Int32))), (9, .int (v81 + 1))] [2, 3, 4, 5, 6, 7, 1, 0] rfl ?_
          exact ih323 (k0) (n0) _ _ _ _ _ _ _ _ (by omega) (by omega) hf
        · refine kx_iconst (v := 1) K dL_run_341 (by decide) ?_
          refine kx_iload K dL_run_342 7 rfl ?_
          refine kx_ishl K dL_run_344 ?_
          refine kx_goto K 349 dL_run_345 (by decide) ?_
          refine kx_ior K dL_run_349 ?_
          refine kx_istore K [(8, .int (v80 ||| ((1 : Int32) <<< (v81 &&& 31)))), (0, .ref a0), (3, .ref a3), (4, .ref v76), (5, .int v77), (6, .int v78), (7, .int v79), (9, .int v81)] dL_run_350 (by decide) rfl ?_
          refine kx_iinc (v := (v81 + 1)) K [(9, .int (v81 + 1)), (8, .int (v80 ||| ((1 : Int32) <<< (v81 &&& 31)))), (0, .ref a0), (3, .ref a3), (4, .ref v76), (5, .int v77), (6, .int v78), (7, .int v79)] dL_run_352 7 rfl rfl (by decide) rfl ?_
          refine kx_goto K 323 dL_run_355 (by decide) ?_
          refine kx_sub [(0, .ref a0), (3, .ref a3), (4, .ref v76), (5, .int v77), (6, .int v78), (7, .int v79), (8, .int (v80 ||| ((1 : Int32) <<< (v81 &&& 31)))), (9, .int (v81 + 1))] [2, 3, 4, 5, 6, 7, 1, 0] rfl ?_
          exact ih323 (k0) (n0) _ _ _ _ _ _ _ _ (by omega) (by omega) hf
  have B282 : ∀ (n282 : Nat) (k0 n0 : Nat) (σ72 : ac_H) (z66 : Nat) (v67 : Nat) (v68 : Int32) (v69 : Int32) (v70 : Int32) (v71 : Int32), k0 + 1 ≤ 1 → n0 + 8 ≤ 8 → m_L_run_l282 a0 a3 n282 σ72 z66 v67 v68 v69 v70 v71 = some (v, σ') → kx_S Λ Γ 16 (fun z => z = z66) σ72 (k0) (n0) 282 [(0, .ref a0), (3, .ref a3), (4, .ref v67), (5, .int v68), (6, .int v69), (7, .int v70), (8, .int v71)] [] := by
    intro n282
    induction n282 with
    | zero =>
      intro k0 n0 σ72 z66 v67 v68 v69 v70 v71 hk0 hn0 hf
      rw [m_L_run_l282] at hf
      cases hf
    | succ n282 ih282 =>
      intro k0 n0 σ72 z66 v67 v68 v69 v70 v71 hk0 hn0 hf
      rw [m_L_run_l282] at hf
      refine kx_iload K dL_run_282 6 rfl ?_
      refine kx_sipush (v := 144) K dL_run_284 (by decide) ?_
      refine kx_icmp_ge K 317 hf dL_run_287 (by decide) (fun hf => ?_) (fun hf => ?_)
      · refine kx_iconst (v := 0) K dL_run_317 (by decide) ?_
        refine kx_istore K [(8, .int (0 : Int32)), (0, .ref a0), (3, .ref a3), (4, .ref v67), (5, .int v68), (6, .int v69), (7, .int v70)] dL_run_318 (by decide) rfl ?_
        refine kx_iconst (v := 0) K dL_run_320 (by decide) ?_
        refine kx_istore K [(9, .int (0 : Int32)), (8, .int (0 : Int32)), (0, .ref a0), (3, .ref a3), (4, .ref v67), (5, .int v68), (6, .int v69), (7, .int v70)] dL_run_321 (by decide) rfl ?_
        refine kx_sub [(0, .ref a0), (3, .ref a3), (4, .ref v67), (5, .int v68), (6, .int v69), (7, .int v70), (8, .int (0 : Int32)), (9, .int (0 : Int32))] [2, 3, 4, 5, 6, 7, 1, 0] rfl ?_
        exact B323 hN_f (k0) (n0) _ _ _ _ _ _ _ _ (by omega) (by omega) hf
      · refine kx_iload K dL_run_290 5 rfl ?_
        refine kx_aload K dL_run_292 2 rfl ?_
        refine kx_grN K fn_L_150 dL_run_294 hf (fun x73 hf => ?_)
        refine kx_iload K dL_run_297 6 rfl ?_
        refine kx_az K dL_run_299 hf (fun x74 hf => ?_)
        refine kx_if_eq K 307 hf dL_run_300 (by decide) (fun hf => ?_) (fun hf => ?_)
        · refine kx_iconst (v := 0) K dL_run_307 (by decide) ?_
          refine kx_iadd K dL_run_308 ?_
          refine kx_istore K [(7, .int (v70 + (0 : Int32))), (0, .ref a0), (3, .ref a3), (4, .ref v67), (5, .int v68), (6, .int v69), (8, .int v71)] dL_run_309 (by decide) rfl ?_
          refine kx_iinc (v := (v71 + 1)) K [(8, .int (v71 + 1)), (7, .int (v70 + (0 : Int32))), (0, .ref a0), (3, .ref a3), (4, .ref v67), (5, .int v68), (6, .int v69)] dL_run_311 6 rfl rfl (by decide) rfl ?_
          refine kx_goto K 282 dL_run_314 (by decide) ?_
          refine kx_sub [(0, .ref a0), (3, .ref a3), (4, .ref v67), (5, .int v68), (6, .int v69), (7, .int (v70 + (0 : Int32))), (8, .int (v71 + 1))] [2, 3, 4, 5, 6, 1, 0] rfl ?_
          exact ih282 (k0) (n0) _ _ _ _ _ _ _ (by omega) (by omega) hf
        · refine kx_iconst (v := 1) K dL_run_303 (by decide) ?_
          refine kx_goto K 308 dL_run_304 (by decide) ?_
          refine kx_iadd K dL_run_308 ?_
          refine kx_istore K [(7, .int (v70 + (1 : Int32))), (0, .ref a0), (3, .ref a3), (4, .ref v67), (5, .int v68), (6, .int v69), (8, .int v71)] dL_run_309 (by decide) rfl ?_
          refine kx_iinc (v := (v71 + 1)) K [(8, .int (v71 + 1)), (7, .int (v70 + (1 : Int32))), (0, .ref a0), (3, .ref a3), (4, .ref v67), (5, .int v68), (6, .int v69)] dL_run_311 6 rfl rfl (by decide) rfl ?_
          refine kx_goto K 282 dL_run_314 (by decide) ?_
          refine kx_sub [(0, .ref a0), (3, .ref a3), (4, .ref v67), (5, .int v68), (6, .int v69), (7, .int (v70 + (1 : Int32))), (8, .int (v71 + 1))] [2, 3, 4, 5, 6, 1, 0] rfl ?_
          exact ih282 (k0) (n0) _ _ _ _ _ _ _ (by omega) (by omega) hf
  have B160 : ∀ (n160 : Nat) (k0 n0 : Nat) (σ46 : ac_H) (z41 : Nat) (v42 : Nat) (v43 : Int32) (v44 : Int32) (v45 : Int32), k0 + 1 ≤ 1 → n0 + 8 ≤ 8 → m_L_run_l160 a0 a3 n160 σ46 z41 v42 v43 v44 v45 = some (v, σ') → kx_S Λ Γ 16 (fun z => z = z41) σ46 (k0) (n0) 160 [(0, .ref a0), (3, .ref a3), (4, .ref v42), (5, .int v43), (6, .int v44), (7, .int v45)] [] := by
    intro n160
    induction n160 with
    | zero =>
      intro k0 n0 σ46 z41 v42 v43 v44 v45 hk0 hn0 hf
      rw [m_L_run_l160] at hf
      cases hf
    | succ n160 ih160 =>
      have B189 : ∀ (n189 : Nat) (k0 n0 : Nat) (σ57 : ac_H) (z50 : Nat) (v51 : Nat) (v52 : Int32) (v53 : Int32) (v54 : Int32) (v55 : Int32) (v56 : Int32), k0 + 1 ≤ 1 → n0 + 8 ≤ 8 → m_L_run_l189 (fun ρ y0 y1 y2 y3 y4 => m_L_run_l160 a0 a3 n160 ρ y0 y1 y2 y3 y4) a0 a3 n189 σ57 z50 v51 v52 v53 v54 v55 v56 = some (v, σ') → kx_S Λ Γ 16 (fun z => z = z50) σ57 (k0) (n0) 189 [(0, .ref a0), (3, .ref a3), (4, .ref v51), (5, .int v52), (6, .int v53), (7, .int v54), (8, .int v55), (9, .int v56)] [] := by
        intro n189
        induction n189 with
        | zero =>
          intro k0 n0 σ57 z50 v51 v52 v53 v54 v55 v56 hk0 hn0 hf
          rw [m_L_run_l189] at hf
          cases hf
        | succ n189 ih189 =>
          intro k0 n0 σ57 z50 v51 v52 v53 v54 v55 v56 hk0 hn0 hf
          rw [m_L_run_l189] at hf
          refine kx_iload K dL_run_189 7 rfl ?_
          refine kx_iload K dL_run_191 5 rfl ?_
          refine kx_icmp_ge K 255 hf dL_run_193 (by decide) (fun hf => ?_) (fun hf => ?_)
          · refine kx_iload K dL_run_255 3 rfl ?_
            refine kx_iload K dL_run_257 6 rfl ?_
            refine kx_if_eq K 266 hf dL_run_259 (by decide) (fun hf => ?_) (fun hf => ?_)
            · refine kx_iconst (v := 0) K dL_run_266 (by decide) ?_
              refine kx_iadd K dL_run_267 ?_
              refine kx_istore K [(5, .int (v52 + (0 : Int32))), (0, .ref a0), (3, .ref a3), (4, .ref v51), (6, .int v53), (7, .int v54), (8, .int v55), (9, .int v56)] dL_run_268 (by decide) rfl ?_
              refine kx_iinc (v := (v54 + 1)) K [(7, .int (v54 + 1)), (5, .int (v52 + (0 : Int32))), (0, .ref a0), (3, .ref a3), (4, .ref v51), (6, .int v53), (8, .int v55), (9, .int v56)] dL_run_270 5 rfl rfl (by decide) rfl ?_
              refine kx_goto K 160 dL_run_273 (by decide) ?_
              refine kx_sub [(0, .ref a0), (3, .ref a3), (4, .ref v51), (5, .int (v52 + (0 : Int32))), (6, .int v53), (7, .int (v54 + 1))] [2, 3, 4, 1, 5, 0] rfl ?_
              exact ih160 (k0) (n0) _ _ _ _ _ _ (by omega) (by omega) hf
            · refine kx_iconst (v := 1) K dL_run_262 (by decide) ?_
              refine kx_goto K 267 dL_run_263 (by decide) ?_
              refine kx_iadd K dL_run_267 ?_
              refine kx_istore K [(5, .int (v52 + (1 : Int32))), (0, .ref a0), (3, .ref a3), (4, .ref v51), (6, .int v53), (7, .int v54), (8, .int v55), (9, .int v56)] dL_run_268 (by decide) rfl ?_
              refine kx_iinc (v := (v54 + 1)) K [(7, .int (v54 + 1)), (5, .int (v52 + (1 : Int32))), (0, .ref a0), (3, .ref a3), (4, .ref v51), (6, .int v53), (8, .int v55), (9, .int v56)] dL_run_270 5 rfl rfl (by decide) rfl ?_
              refine kx_goto K 160 dL_run_273 (by decide) ?_
              refine kx_sub [(0, .ref a0), (3, .ref a3), (4, .ref v51), (5, .int (v52 + (1 : Int32))), (6, .int v53), (7, .int (v54 + 1))] [2, 3, 4, 1, 5, 0] rfl ?_
              exact ih160 (k0) (n0) _ _ _ _ _ _ (by omega) (by omega) hf
          · refine kx_iload K dL_run_196 6 rfl ?_
            refine kx_if_ne K 242 hf dL_run_198 (by decide) (fun hf => ?_) (fun hf => ?_)
            · refine kx_iconst (v := 1) K dL_run_242 (by decide) ?_
              refine kx_goto K 247 dL_run_243 (by decide) ?_
              refine kx_istore K [(8, .int (1 : Int32)), (0, .ref a0), (3, .ref a3), (4, .ref v51), (5, .int v52), (6, .int v53), (7, .int v54), (9, .int v56)] dL_run_247 (by decide) rfl ?_
              refine kx_iinc (v := (v56 + 1)) K [(9, .int (v56 + 1)), (8, .int (1 : Int32)), (0, .ref a0), (3, .ref a3), (4, .ref v51), (5, .int v52), (6, .int v53), (7, .int v54)] dL_run_249 7 rfl rfl (by decide) rfl ?_
              refine kx_goto K 189 dL_run_252 (by decide) ?_
              refine kx_sub [(0, .ref a0), (3, .ref a3), (4, .ref v51), (5, .int v52), (6, .int v53), (7, .int v54), (8, .int (1 : Int32)), (9, .int (v56 + 1))] [2, 3, 4, 5, 6, 7, 1, 0] rfl ?_
              exact ih189 (k0) (n0) _ _ _ _ _ _ _ _ (by omega) (by omega) hf
            · refine kx_aload K dL_run_201 2 rfl ?_
              refine kx_grN K fn_L_144 dL_run_203 hf (fun x58 hf => ?_)
              refine kx_iload K dL_run_206 7 rfl ?_
              refine kx_ai K dL_run_208 hf (fun x59 hf => ?_)
              refine kx_if_ne K 246 hf dL_run_209 (by decide) (fun hf => ?_) (fun hf => ?_)
              · refine kx_iconst (v := 0) K dL_run_246 (by decide) ?_
                refine kx_istore K [(8, .int (0 : Int32)), (0, .ref a0), (3, .ref a3), (4, .ref v51), (5, .int v52), (6, .int v53), (7, .int v54), (9, .int v56)] dL_run_247 (by decide) rfl ?_
                refine kx_iinc (v := (v56 + 1)) K [(9, .int (v56 + 1)), (8, .int (0 : Int32)), (0, .ref a0), (3, .ref a3), (4, .ref v51), (5, .int v52), (6, .int v53), (7, .int v54)] dL_run_249 7 rfl rfl (by decide) rfl ?_
                refine kx_goto K 189 dL_run_252 (by decide) ?_
                refine kx_sub [(0, .ref a0), (3, .ref a3), (4, .ref v51), (5, .int v52), (6, .int v53), (7, .int v54), (8, .int (0 : Int32)), (9, .int (v56 + 1))] [2, 3, 4, 5, 6, 7, 1, 0] rfl ?_
                exact ih189 (k0) (n0) _ _ _ _ _ _ _ _ (by omega) (by omega) hf
              · refine kx_aload K dL_run_212 2 rfl ?_
                refine kx_grN K fn_L_144 dL_run_214 hf (fun x60 hf => ?_)
                refine kx_iload K dL_run_217 5 rfl ?_
                refine kx_ai K dL_run_219 hf (fun x61 hf => ?_)
                refine kx_if_ne K 246 hf dL_run_220 (by decide) (fun hf => ?_) (fun hf => ?_)
                · refine kx_iconst (v := 0) K dL_run_246 (by decide) ?_
                  refine kx_istore K [(8, .int (0 : Int32)), (0, .ref a0), (3, .ref a3), (4, .ref v51), (5, .int v52), (6, .int v53), (7, .int v54), (9, .int v56)] dL_run_247 (by decide) rfl ?_
                  refine kx_iinc (v := (v56 + 1)) K [(9, .int (v56 + 1)), (8, .int (0 : Int32)), (0, .ref a0), (3, .ref a3), (4, .ref v51), (5, .int v52), (6, .int v53), (7, .int v54)] dL_run_249 7 rfl rfl (by decide) rfl ?_
                  refine kx_goto K 189 dL_run_252 (by decide) ?_
                  refine kx_sub [(0, .ref a0), (3, .ref a3), (4, .ref v51), (5, .int v52), (6, .int v53), (7, .int v54), (8, .int (0 : Int32)), (9, .int (v56 + 1))] [2, 3, 4, 5, 6, 7, 1, 0] rfl ?_
                  exact ih189 (k0) (n0) _ _ _ _ _ _ _ _ (by omega) (by omega) hf
                · refine kx_aload K dL_run_223 2 rfl ?_
                  refine kx_grN K fn_L_147 dL_run_225 hf (fun x62 hf => ?_)
                  refine kx_iload K dL_run_228 7 rfl ?_
                  refine kx_ai K dL_run_230 hf (fun x63 hf => ?_)
                  refine kx_aload K dL_run_231 2 rfl ?_
                  refine kx_grN K fn_L_147 dL_run_233 hf (fun x64 hf => ?_)
                  refine kx_iload K dL_run_236 5 rfl ?_
                  refine kx_ai K dL_run_238 hf (fun x65 hf => ?_)
                  refine kx_icmp_ne K 246 hf dL_run_239 (by decide) (fun hf => ?_) (fun hf => ?_)
                  · refine kx_iconst (v := 0) K dL_run_246 (by decide) ?_
                    refine kx_istore K [(8, .int (0 : Int32)), (0, .ref a0), (3, .ref a3), (4, .ref v51), (5, .int v52), (6, .int v53), (7, .int v54), (9, .int v56)] dL_run_247 (by decide) rfl ?_
                    refine kx_iinc (v := (v56 + 1)) K [(9, .int (v56 + 1)), (8, .int (0 : Int32)), (0, .ref a0), (3, .ref a3), (4, .ref v51), (5, .int v52), (6, .int v53), (7, .int v54)] dL_run_249 7 rfl rfl (by decide) rfl ?_
                    refine kx_goto K 189 dL_run_252 (by decide) ?_
                    refine kx_sub [(0, .ref a0), (3, .ref a3), (4, .ref v51), (5, .int v52), (6, .int v53), (7, .int v54), (8, .int (0 : Int32)), (9, .int (v56 + 1))] [2, 3, 4, 5, 6, 7, 1, 0] rfl ?_
                    exact ih189 (k0) (n0) _ _ _ _ _ _ _ _ (by omega) (by omega) hf
                  · refine kx_iconst (v := 1) K dL_run_242 (by decide) ?_
                    refine kx_goto K 247 dL_run_243 (by decide) ?_
                    refine kx_istore K [(8, .int (1 : Int32)), (0, .ref a0), (3, .ref a3), (4, .ref v51), (5, .int v52), (6, .int v53), (7, .int v54), (9, .int v56)] dL_run_247 (by decide) rfl ?_
                    refine kx_iinc (v := (v56 + 1)) K [(9, .int (v56 + 1)), (8, .int (1 : Int32)), (0, .ref a0), (3, .ref a3), (4, .ref v51), (5, .int v52), (6, .int v53), (7, .int v54)] dL_run_249 7 rfl rfl (by decide) rfl ?_
                    refine kx_goto K 189 dL_run_252 (by decide) ?_
                    refine kx_sub [(0, .ref a0), (3, .ref a3), (4, .ref v51), (5, .int v52), (6, .int v53), (7, .int v54), (8, .int (1 : Int32)), (9, .int (v56 + 1))] [2, 3, 4, 5, 6, 7, 1, 0] rfl ?_
                    exact ih189 (k0) (n0) _ _ _ _ _ _ _ _ (by omega) (by omega) hf
      intro k0 n0 σ46 z41 v42 v43 v44 v45 hk0 hn0 hf
      rw [m_L_run_l160] at hf
      refine kx_iload K dL_run_160 5 rfl ?_
      refine kx_aload K dL_run_162 2 rfl ?_
      refine kx_giN K fn_L_140 dL_run_164 hf (fun x47 hf => ?_)
      refine kx_icmp_ge K 276 hf dL_run_167 (by decide) (fun hf => ?_) (fun hf => ?_)
      · refine kx_iconst (v := 0) K dL_run_276 (by decide) ?_
        refine kx_istore K [(7, .int (0 : Int32)), (0, .ref a0), (3, .ref a3), (4, .ref v42), (5, .int v43), (6, .int v44)] dL_run_277 (by decide) rfl ?_
        refine kx_iconst (v := 0) K dL_run_279 (by decide) ?_
        refine kx_istore K [(8, .int (0 : Int32)), (7, .int (0 : Int32)), (0, .ref a0), (3, .ref a3), (4, .ref v42), (5, .int v43), (6, .int v44)] dL_run_280 (by decide) rfl ?_
        refine kx_sub [(0, .ref a0), (3, .ref a3), (4, .ref v42), (5, .int v43), (6, .int v44), (7, .int (0 : Int32)), (8, .int (0 : Int32))] [2, 3, 4, 5, 6, 1, 0] rfl ?_
        exact B282 hN_f (k0) (n0) _ _ _ _ _ _ _ (by omega) (by omega) hf
      · refine kx_iload K dL_run_170 4 rfl ?_
        refine kx_aload K dL_run_172 2 rfl ?_
        refine kx_grN K fn_L_144 dL_run_174 hf (fun x48 hf => ?_)
        refine kx_iload K dL_run_177 5 rfl ?_
        refine kx_ai K dL_run_179 hf (fun x49 hf => ?_)
        refine kx_iadd K dL_run_180 ?_
        refine kx_istore K [(6, .int (v44 + x49)), (0, .ref a0), (3, .ref a3), (4, .ref v42), (5, .int v43), (7, .int v45)] dL_run_181 (by decide) rfl ?_
        refine kx_iconst (v := 0) K dL_run_183 (by decide) ?_
        refine kx_istore K [(8, .int (0 : Int32)), (6, .int (v44 + x49)), (0, .ref a0), (3, .ref a3), (4, .ref v42), (5, .int v43), (7, .int v45)] dL_run_184 (by decide) rfl ?_
        refine kx_iconst (v := 0) K dL_run_186 (by decide) ?_
        refine kx_istore K [(9, .int (0 : Int32)), (8, .int (0 : Int32)), (6, .int (v44 + x49)), (0, .ref a0), (3, .ref a3), (4, .ref v42), (5, .int v43), (7, .int v45)] dL_run_187 (by decide) rfl ?_
        refine kx_sub [(0, .ref a0), (3, .ref a3), (4, .ref v42), (5, .int v43), (6, .int (v44 + x49)), (7, .int v45), (8, .int (0 : Int32)), (9, .int (0 : Int32))] [3, 4, 5, 6, 2, 7, 1, 0] rfl ?_
        exact B189 hN_f (k0) (n0) _ _ _ _ _ _ _ _ (by omega) (by omega) hf
  have B59 : ∀ (n59 : Nat) (k0 n0 : Nat) (σ18 : ac_H) (z15 : Nat) (v16 : Nat) (v17 : Int32), k0 + 1 ≤ 1 → n0 + 8 ≤ 8 → m_L_run_l59 a0 a1 a3 n59 σ18 z15 v16 v17 = some (v, σ') → kx_S Λ Γ 16 (fun z => z = z15) σ18 (k0) (n0) 59 [(0, .ref a0), (1, .ref a1), (3, .ref a3), (4, .ref v16), (5, .int v17)] [] := by
    intro n59
    induction n59 with
    | zero =>
      intro k0 n0 σ18 z15 v16 v17 hk0 hn0 hf
      rw [m_L_run_l59] at hf
      cases hf
    | succ n59 ih59 =>
      have B140 : ∀ (k0 n0 : Nat) (σ40 : ac_H) (z35 : Nat) (v36 : Nat) (v37 : Int32) (w38 : Int32) (w39 : Int32), k0 + 1 ≤ 1 → n0 + 8 ≤ 8 → m_L_run_j140 (fun ρ y0 y1 y2 => m_L_run_l59 a0 a1 a3 n59 ρ y0 y1 y2) a0 a1 a3 σ40 z35 v36 v37 w38 w39 = some (v, σ') → kx_S Λ Γ 16 (fun z => z = z35) σ40 (k0) (n0) 140 [(0, .ref a0), (1, .ref a1), (3, .ref a3), (4, .ref v36), (5, .int v37)] [.int w38, .int w39] := by
        intro k0 n0 σ40 z35 v36 v37 w38 w39 hk0 hn0 hf
        unfold m_L_run_j140 at hf
        refine kx_icmp_eq K 145 hf dL_run_140 (by decide) (fun hf => ?_) (fun hf => ?_)
        · refine kx_iinc (v := (v37 + 1)) K [(5, .int (v37 + 1)), (0, .ref a0), (1, .ref a1), (3, .ref a3), (4, .ref v36)] dL_run_145 4 rfl rfl (by decide) rfl ?_
          refine kx_goto K 59 dL_run_148 (by decide) ?_
          refine kx_sub [(0, .ref a0), (1, .ref a1), (3, .ref a3), (4, .ref v36), (5, .int (v37 + 1))] [1, 2, 3, 4, 0] rfl ?_
          exact ih59 (k0) (n0) _ _ _ _ (by omega) (by omega) hf
        · refine kx_iconst (v := 0) K dL_run_143 (by decide) ?_
          exact kx_zretZ K hQ (show k0 ≤ 1 by omega) (show n0 ≤ 8 by omega) dL_run_144 hf
      intro k0 n0 σ18 z15 v16 v17 hk0 hn0 hf
      rw [m_L_run_l59] at hf
      refine kx_iload K dL_run_59 4 rfl ?_
      refine kx_aload_n K dL_run_61 rfl 1 rfl ?_
      refine kx_cv0i K c_L_131 ⟨by decide, by decide, rfl, rfl, (show k0 ≤ 1 by omega), (show n0 ≤ 8 by omega)⟩ (Nat.le_of_ble_eq_true rfl) dL_run_62 hf (fun _ _ _ h => k_X7_many h) (fun x20 σ19 hf => ?_)
      refine kx_icmp_ge K 151 hf dL_run_65 (by decide) (fun hf => ?_) (fun hf => ?_)
      · refine kx_iconst (v := 0) K dL_run_151 (by decide) ?_
        refine kx_istore K [(5, .int (0 : Int32)), (0, .ref a0), (1, .ref a1), (3, .ref a3), (4, .ref v16)] dL_run_152 (by decide) rfl ?_
        refine kx_iconst (v := 0) K dL_run_154 (by decide) ?_
        refine kx_istore K [(6, .int (0 : Int32)), (5, .int (0 : Int32)), (0, .ref a0), (1, .ref a1), (3, .ref a3), (4, .ref v16)] dL_run_155 (by decide) rfl ?_
        refine kx_iconst (v := 0) K dL_run_157 (by decide) ?_
        refine kx_istore K [(7, .int (0 : Int32)), (6, .int (0 : Int32)), (5, .int (0 : Int32)), (0, .ref a0), (1, .ref a1), (3, .ref a3), (4, .ref v16)] dL_run_158 (by decide) rfl ?_
        refine kx_sub [(0, .ref a0), (3, .ref a3), (4, .ref v16), (5, .int (0 : Int32)), (6, .int (0 : Int32)), (7, .int (0 : Int32))] [3, 5, 6, 2, 1, 0] rfl ?_
        exact B160 hN_f (k0) (n0) _ _ _ _ _ _ (by omega) (by omega) hf
      · refine kx_aload_n K dL_run_68 rfl 1 rfl ?_
        refine kx_iload K dL_run_69 4 rfl ?_
        refine kx_cv1i K c_L_134 ⟨by decide, by decide, rfl, rfl, (show k0 ≤ 1 by omega), (show n0 ≤ 8 by omega)⟩ (Nat.le_of_ble_eq_true rfl) dL_run_71 hf (fun _ _ _ h => k_X7_fault h) (fun x22 σ21 hf => ?_)
        refine kx_istore K [(6, .int x22), (0, .ref a0), (1, .ref a1), (3, .ref a3), (4, .ref v16), (5, .int v17)] dL_run_74 (by decide) rfl ?_
        refine kx_aload_n K dL_run_76 rfl 1 rfl ?_
        refine kx_iload K dL_run_77 5 rfl ?_
        refine kx_iconst (v := 0) K dL_run_79 (by decide) ?_
        refine kx_nv (ρ := Int32) K [.int v17, .int (0 : Int32)] (fun x => some (.int x)) c_L_137 ⟨by decide, by decide, rfl, rfl, (show k0 ≤ 1 by omega), (show n0 ≤ 8 by omega)⟩ rfl rfl (Nat.le_of_ble_eq_true rfl) dL_run_80 hf (fun _ _ _ h => k_X6_fault h) (fun x24 σ23 hf => ?_)
        refine kx_iload K dL_run_83 0 rfl ?_
        refine kx_sipush (v := 1000) K dL_run_85 (by decide) ?_
        refine kx_irem K dL_run_88 hf (fun x25 hf => ?_)
        refine kx_icmp_ne K 143 hf dL_run_89 (by decide) (fun hf => ?_) (fun hf => ?_)
        · refine kx_iconst (v := 0) K dL_run_143 (by decide) ?_
          exact kx_zretZ K hQ (show k0 ≤ 1 by omega) (show n0 ≤ 8 by omega) dL_run_144 hf
        · refine kx_aload_n K dL_run_92 rfl 1 rfl ?_
          refine kx_iload K dL_run_93 5 rfl ?_
          refine kx_iconst (v := 1) K dL_run_95 (by decide) ?_
          refine kx_nv (ρ := Int32) K [.int v17, .int (1 : Int32)] (fun x => some (.int x)) c_L_137 ⟨by decide, by decide, rfl, rfl, (show k0 ≤ 1 by omega), (show n0 ≤ 8 by omega)⟩ rfl rfl (Nat.le_of_ble_eq_true rfl) dL_run_96 hf (fun _ _ _ h => k_X6_fault h) (fun x27 σ26 hf => ?_)
          refine kx_iload K dL_run_99 0 rfl ?_
          refine kx_sipush (v := 1000) K dL_run_101 (by decide) ?_
          refine kx_idiv K dL_run_104 hf (fun x28 hf => ?_)
          refine kx_icmp_ne K 143 hf dL_run_105 (by decide) (fun hf => ?_) (fun hf => ?_)
          · refine kx_iconst (v := 0) K dL_run_143 (by decide) ?_
            exact kx_zretZ K hQ (show k0 ≤ 1 by omega) (show n0 ≤ 8 by omega) dL_run_144 hf
          · refine kx_aload_n K dL_run_108 rfl 1 rfl ?_
            refine kx_iload K dL_run_109 5 rfl ?_
            refine kx_iconst (v := 2) K dL_run_111 (by decide) ?_
            refine kx_nv (ρ := Int32) K [.int v17, .int (2 : Int32)] (fun x => some (.int x)) c_L_137 ⟨by decide, by decide, rfl, rfl, (show k0 ≤ 1 by omega), (show n0 ≤ 8 by omega)⟩ rfl rfl (Nat.le_of_ble_eq_true rfl) dL_run_112 hf (fun _ _ _ h => k_X6_fault h) (fun x30 σ29 hf => ?_)
            refine kx_iload K dL_run_115 0 rfl ?_
            refine kx_sipush (v := 1000) K dL_run_117 (by decide) ?_
            refine kx_irem K dL_run_120 hf (fun x31 hf => ?_)
            refine kx_iconst (v := 2) K dL_run_121 (by decide) ?_
            refine kx_icmp_ne K 139 hf dL_run_122 (by decide) (fun hf => ?_) (fun hf => ?_)
            · refine kx_iconst (v := 0) K dL_run_139 (by decide) ?_
              refine kx_sub [(0, .ref a0), (1, .ref a1), (3, .ref a3), (4, .ref v16), (5, .int v17)] [1, 2, 3, 4, 5] rfl ?_
              exact B140 (k0) (n0) _ _ _ _ _ _ (by omega) (by omega) hf
            · refine kx_aload_n K dL_run_125 rfl 2 rfl ?_
              refine kx_grN K fn_L_87 dL_run_126 hf (fun x32 hf => ?_)
              refine kx_iload K dL_run_129 0 rfl ?_
              refine kx_sipush (v := 1000) K dL_run_131 (by decide) ?_
              refine kx_idiv K dL_run_134 hf (fun x33 hf => ?_)
              refine kx_ai K dL_run_135 hf (fun x34 hf => ?_)
              refine kx_goto K 140 dL_run_136 (by decide) ?_
              refine kx_sub [(0, .ref a0), (1, .ref a1), (3, .ref a3), (4, .ref v16), (5, .int v17)] [1, 2, 3, 4, 5] rfl ?_
              exact B140 (k0) (n0) _ _ _ _ _ _ (by omega) (by omega) hf
  have B10 : ∀ (n10 : Nat) (k0 n0 : Nat) (σ6 : ac_H) (z3 : Nat) (v4 : Nat) (v5 : Int32), k0 + 1 ≤ 1 → n0 + 8 ≤ 8 → m_L_run_l10 a0 a1 a3 n10 σ6 z3 v4 v5 = some (v, σ') → kx_S Λ Γ 16 (fun z => z = z3) σ6 (k0) (n0) 10 [(0, .ref a0), (1, .ref a1), (3, .ref a3), (4, .ref v4), (5, .int v5)] [] := by
    intro n10
    induction n10 with
    | zero =>
      intro k0 n0 σ6 z3 v4 v5 hk0 hn0 hf
      rw [m_L_run_l10] at hf
      cases hf
    | succ n10 ih10 =>
      intro k0 n0 σ6 z3 v4 v5 hk0 hn0 hf
      rw [m_L_run_l10] at hf
      refine kx_iload K dL_run_10 4 rfl ?_
      refine kx_bipush (v := 8) K dL_run_12 (by decide) ?_
      refine kx_icmp_ge K 41 hf dL_run_14 (by decide) (fun hf => ?_) (fun hf => ?_)
      · refine kx_aload_n K dL_run_41 rfl 0 rfl ?_
        refine kx_bipush (v := 8) K dL_run_42 (by decide) ?_
        refine kx_nv (ρ := Int32) K [.int (8 : Int32)] (fun x => some (.int x)) c_L_128 ⟨by decide, by decide, rfl, rfl, (show k0 ≤ 1 by omega), (show n0 ≤ 8 by omega)⟩ rfl rfl (Nat.le_of_ble_eq_true rfl) dL_run_44 hf (fun _ _ _ h => k_X6_size h) (fun x8 σ7 hf => ?_)
        refine kx_aload_n K dL_run_47 rfl 1 rfl ?_
        refine kx_cv0i K c_L_131 ⟨by decide, by decide, rfl, rfl, (show k0 ≤ 1 by omega), (show n0 ≤ 8 by omega)⟩ (Nat.le_of_ble_eq_true rfl) dL_run_48 hf (fun _ _ _ h => k_X7_many h) (fun x10 σ9 hf => ?_)
        refine kx_icmp_eq K 56 hf dL_run_51 (by decide) (fun hf => ?_) (fun hf => ?_)
        · refine kx_iconst (v := 0) K dL_run_56 (by decide) ?_
          refine kx_istore K [(5, .int (0 : Int32)), (0, .ref a0), (1, .ref a1), (3, .ref a3), (4, .ref v4)] dL_run_57 (by decide) rfl ?_
          refine kx_sub [(0, .ref a0), (1, .ref a1), (3, .ref a3), (4, .ref v4), (5, .int (0 : Int32))] [1, 2, 3, 4, 0] rfl ?_
          exact B59 hN_f (k0) (n0) _ _ _ _ (by omega) (by omega) hf
        · refine kx_iconst (v := 0) K dL_run_54 (by decide) ?_
          exact kx_zretZ K hQ (show k0 ≤ 1 by omega) (show n0 ≤ 8 by omega) dL_run_55 hf
      · refine kx_aload_n K dL_run_17 rfl 0 rfl ?_
        refine kx_iload K dL_run_18 4 rfl ?_
        refine kx_nv (ρ := Int32) K [.int v5] (fun x => some (.int x)) c_L_128 ⟨by decide, by decide, rfl, rfl, (show k0 ≤ 1 by omega), (show n0 ≤ 8 by omega)⟩ rfl rfl (Nat.le_of_ble_eq_true rfl) dL_run_20 hf (fun _ _ _ h => k_X6_size h) (fun x12 σ11 hf => ?_)
        refine kx_aload_n K dL_run_23 rfl 1 rfl ?_
        refine kx_grN K fn_L_39 dL_run_24 hf (fun x13 hf => ?_)
        refine kx_iload K dL_run_27 4 rfl ?_
        refine kx_ai K dL_run_29 hf (fun x14 hf => ?_)
        refine kx_icmp_eq K 35 hf dL_run_30 (by decide) (fun hf => ?_) (fun hf => ?_)
        · refine kx_iinc (v := (v5 + 1)) K [(5, .int (v5 + 1)), (0, .ref a0), (1, .ref a1), (3, .ref a3), (4, .ref v4)] dL_run_35 4 rfl rfl (by decide) rfl ?_
          refine kx_goto K 10 dL_run_38 (by decide) ?_
          refine kx_sub [(0, .ref a0), (1, .ref a1), (3, .ref a3), (4, .ref v4), (5, .int (v5 + 1))] [1, 2, 3, 4, 0] rfl ?_
          exact ih10 (k0) (n0) _ _ _ _ (by omega) (by omega) hf
        · refine kx_iconst (v := 0) K dL_run_33 (by decide) ?_
          exact kx_zretZ K hQ (show k0 ≤ 1 by omega) (show n0 ≤ 8 by omega) dL_run_34 hf
  unfold m_L_run at hf
  refine kx_aload_n K dL_run_0 rfl 2 rfl ?_
  refine kx_aload_n K dL_run_1 rfl 1 rfl ?_
  refine kx_cv1r K c_L_124 ⟨by decide, by decide, rfl, rfl, (by decide), (by decide)⟩ (Nat.le_of_ble_eq_true rfl) dL_run_2 hf (fun _ _ _ h => k_X8_go h) (fun x2 σ1 hf => ?_)
  refine kx_astore K [(4, .ref x2), (0, .ref a0), (1, .ref a1), (2, .ref a2), (3, .ref a3)] dL_run_5 (by decide) rfl ?_
  refine kx_iconst (v := 0) K dL_run_7 (by decide) ?_
  refine kx_istore K [(5, .int (0 : Int32)), (4, .ref x2), (0, .ref a0), (1, .ref a1), (2, .ref a2), (3, .ref a3)] dL_run_8 (by decide) rfl ?_
  refine kx_sub [(0, .ref a0), (1, .ref a1), (3, .ref a3), (4, .ref x2), (5, .int (0 : Int32))] [2, 3, 5, 1, 0] rfl ?_
  exact B10 hN_f (0) (0) _ _ _ _ (by omega) (by omega) hf
def m_L_single_j297   (σ93 : ac_H) (z90 : Nat) (w91 : Int32) (w92 : Int32) : Option ((Int32 × Nat) × ac_H) :=
  if w92 = w91 then
  (mo_z (1 : Int32) (some (((1 : Int32), z90), σ93)))
  else
  (mo_z (0 : Int32) (some (((0 : Int32), z90), σ93)))
def m_L_single_j277  (a0 : Nat) (a3 : Int32) (σ87 : ac_H) (z82 : Nat) (v83 : Int32) (v84 : Int32) (w85 : Int32) (w86 : Int32) : Option ((Int32 × Nat) × ac_H) :=
  if w86 = w85 then
  (mo_nv σ87 a0 6 (m_X6_attack σ87 a0 a3 (2 : Int32)) fun x89 σ88 =>
  if v83 < 0 then
  (m_L_single_j297 σ88 z82 (-1 : Int32) x89)
  else
  (m_L_single_j297 σ88 z82 v84 x89))
  else
  (mo_z (0 : Int32) (some (((0 : Int32), z82), σ87)))
def m_L_single_j253  (a0 : Nat) (a3 : Int32) (σ78 : ac_H) (z73 : Nat) (v74 : Int32) (v75 : Int32) (w76 : Int32) (w77 : Int32) : Option ((Int32 × Nat) × ac_H) :=
  if w77 = w76 then
  (mo_nv σ78 a0 6 (m_X6_attack σ78 a0 a3 (1 : Int32)) fun x80 σ79 =>
  if v74 < 0 then
  (m_L_single_j277 a0 a3 σ79 z73 v74 v75 (-1 : Int32) x80)
  else
  (mo_dv v74 (1000 : Int32) fun x81 =>
  m_L_single_j277 a0 a3 σ79 z73 v74 v75 x81 x80))
  else
  (mo_z (0 : Int32) (some (((0 : Int32), z73), σ78)))
def m_L_single_l149 (K42 : ac_H → Nat → Nat → Int32 → Int32 → Int32 → Int32 → Int32 → Option ((Int32 × Nat) × ac_H)) (a0 : Nat) (a2 : Nat) (a3 : Int32) : Nat → ac_H → Nat → Nat → Int32 → Int32 → Int32 → Int32 → Int32 → Int32 → Option ((Int32 × Nat) × ac_H)
  | 0, _, _, _, _, _, _, _, _, _ => none
  | n + 1, σ62, z54, v55, v56, v57, v58, v59, v60, v61 =>
    if (20 : Int32) < v61 then
    (mo_gr σ62 v55 7 1 fun x63 =>
    mo_ui σ62 x63 0 v60 (0 : Int32) fun σ64 =>
    K42 σ64 z54 v55 v56 v57 v58 v59 (v60 + 1))
    else
    (if v58 < 0 then
    (mo_gr σ62 v55 7 1 fun x67 =>
    mo_ui σ62 x67 0 v60 v61 fun σ68 =>
    mo_cv σ68 a2 8 (m_X8_go σ68 a2 v55) fun x70 σ69 =>
    mo_cv σ69 x70 8 (m_X8_breaks σ69 x70 a3) fun x72 σ71 =>
    if x72 = 0 then
    (m_L_single_l149 K42 a0 a2 a3 n σ71 z54 v55 v56 v57 v58 v59 v60 (v61 + 1))
    else
    (m_L_single_l149 K42 a0 a2 a3 n σ71 z54 v55 v56 v57 (((1000 : Int32) * v60) + (2 : Int32)) v61 v60 (v61 + 1)))
    else
    (mo_gr σ62 v55 7 1 fun x65 =>
    mo_ui σ62 x65 0 v60 (0 : Int32) fun σ66 =>
    K42 σ66 z54 v55 v56 v57 v58 v59 (v60 + 1)))
def m_L_single_j100 (K42 : ac_H → Nat → Nat → Int32 → Int32 → Int32 → Int32 → Int32 → Option ((Int32 × Nat) × ac_H)) (a0 : Nat) (a2 : Nat) (a3 : Int32) (σ41 : ac_H) (z34 : Nat) (v35 : Nat) (v36 : Int32) (v37 : Int32) (v38 : Int32) (v39 : Int32) (v40 : Int32) : Option ((Int32 × Nat) × ac_H) :=
  mo_gr σ41 v35 7 3 fun x42 =>
  mo_ui σ41 x42 2 v40 (vp_nar .boolean (1 : Int32)) fun σ43 =>
  if v38 < 0 then
  (mo_cv σ43 a2 8 (m_X8_go σ43 a2 v35) fun x47 σ46 =>
  mo_cv σ46 x47 8 (m_X8_breaks σ46 x47 a3) fun x49 σ48 =>
  if x49 = 0 then
  (mo_gr σ48 v35 7 3 fun x50 =>
  mo_ui σ48 x50 2 v40 (vp_nar .boolean (0 : Int32)) fun σ51 =>
  m_L_single_l149 K42 a0 a2 a3 hN_f σ51 z34 v35 v36 v37 v38 v39 v40 (1 : Int32))
  else
  (mo_gr σ48 v35 7 3 fun x52 =>
  mo_ui σ48 x52 2 v40 (vp_nar .boolean (0 : Int32)) fun σ53 =>
  m_L_single_l149 K42 a0 a2 a3 hN_f σ53 z34 v35 v36 v37 (((1000 : Int32) * v40) + (1 : Int32)) v39 v40 (1 : Int32)))
  else
  (mo_gr σ43 v35 7 3 fun x44 =>
  mo_ui σ43 x44 2 v40 (vp_nar .boolean (0 : Int32)) fun σ45 =>
  m_L_single_l149 K42 a0 a2 a3 hN_f σ45 z34 v35 v36 v37 v38 v39 v40 (1 : Int32))
def m_L_single_l42  (a0 : Nat) (a2 : Nat) (a3 : Int32) : Nat → ac_H → Nat → Nat → Int32 → Int32 → Int32 → Int32 → Int32 → Option ((Int32 × Nat) × ac_H)
  | 0, _, _, _, _, _, _, _, _ => none
  | n + 1, σ20, z13, v14, v15, v16, v17, v18, v19 =>
    if v19 < v15 then
    (mo_gr σ20 v14 7 2 fun x26 =>
    mo_ui σ20 x26 2 v19 (vp_nar .boolean (1 : Int32)) fun σ27 =>
    mo_cv σ27 a2 8 (m_X8_go σ27 a2 v14) fun x29 σ28 =>
    mo_cv σ28 x29 8 (m_X8_breaks σ28 x29 a3) fun x31 σ30 =>
    mo_gr σ30 v14 7 2 fun x32 =>
    mo_ui σ30 x32 2 v19 (vp_nar .boolean (0 : Int32)) fun σ33 =>
    if x31 = 0 then
    (m_L_single_j100 (fun ρ y0 y1 y2 y3 y4 y5 y6 => m_L_single_l42 a0 a2 a3 n ρ y0 y1 y2 y3 y4 y5 y6) a0 a2 a3 σ33 z13 v14 v15 v16 v17 v18 v19)
    else
    (if v17 < 0 then
    (m_L_single_j100 (fun ρ y0 y1 y2 y3 y4 y5 y6 => m_L_single_l42 a0 a2 a3 n ρ y0 y1 y2 y3 y4 y5 y6) a0 a2 a3 σ33 z13 v14 v15 (v16 + 1) ((1000 : Int32) * v19) v18 v19)
    else
    (m_L_single_j100 (fun ρ y0 y1 y2 y3 y4 y5 y6 => m_L_single_l42 a0 a2 a3 n ρ y0 y1 y2 y3 y4 y5 y6) a0 a2 a3 σ33 z13 v14 v15 (v16 + 1) v17 v18 v19)))
    else
    (mo_nv σ20 a0 6 (m_X6_weakPoints σ20 a0 a3) fun x22 σ21 =>
    if x22 = v16 then
    (mo_nv σ21 a0 6 (m_X6_attack σ21 a0 a3 (0 : Int32)) fun x24 σ23 =>
    if v17 < 0 then
    (m_L_single_j253 a0 a3 σ23 z13 v17 v18 (-1 : Int32) x24)
    else
    (mo_rm v17 (1000 : Int32) fun x25 =>
    m_L_single_j253 a0 a3 σ23 z13 v17 v18 x25 x24))
    else
    (mo_z (0 : Int32) (some (((0 : Int32), z13), σ21))))
def m_L_single_j28  (a0 : Nat) (a2 : Nat) (a3 : Int32) (σ12 : ac_H) (z9 : Nat) (v10 : Nat) (w11 : Int32) : Option ((Int32 × Nat) × ac_H) :=
  m_L_single_l42 a0 a2 a3 hN_f σ12 z9 v10 w11 (0 : Int32) (-1 : Int32) (0 : Int32) (0 : Int32)
def m_L_single (σ : ac_H) (a0 : Nat) (a1 : Nat) (a2 : Nat) (a3 : Int32) (q : Nat) : Option ((Int32 × Nat) × ac_H) :=
  mo_cv σ a1 7 (m_X7_part σ a1 (0 : Int32) q) fun x2 σ1 =>
  mo_cv σ1 a2 8 (m_X8_go σ1 a2 x2.1) fun x5 σ4 =>
  mo_cv σ4 x5 8 (m_X8_breaks σ4 x5 a3) fun x7 σ6 =>
  if x7 = 0 then
  (mo_gi σ6 a2 8 9 fun x8 =>
  m_L_single_j28 a0 a2 a3 σ6 x2.2 x2.1 x8)
  else
  (m_L_single_j28 a0 a2 a3 σ6 x2.2 x2.1 (0 : Int32))
set_option maxRecDepth 100000 in
set_option maxHeartbeats 4000000 in
theorem k_L_single {Λ : ex_L} {q : Nat} {σ σ' : ac_H} {a0 : Nat} {a1 : Nat} {a2 : Nat} {a3 : Int32} {v : (Int32 × Nat)} (hf : m_L_single σ a0 a1 a2 a3 q = some (v, σ')) : kx_C Λ yL_single (.code yL_single cL_single 12 (some .boolean)) ({ frames := 7, cells := 5, slots := 372, locals := 172 } : Room) [.ref a0, .ref a1, .ref a2, .int a3] q σ (.inr (some (.int v.1))) σ' (fun z => z = v.2) := by
  refine kx_in (by decide +kernel) (Nat.le_of_ble_eq_true rfl) ?_
  intro Γ K hnm hsz hQ
  refine kx_lv (lv' := [(0, .ref a0), (1, .ref a1), (2, .ref a2), (3, .int a3)]) rfl ?_
  have B297 : ∀ (k0 n0 : Nat) (σ93 : ac_H) (z90 : Nat) (w91 : Int32) (w92 : Int32), k0 ≤ 5 → n0 ≤ 372 → m_L_single_j297 σ93 z90 w91 w92 = some (v, σ') → kx_S Λ Γ 12 (fun z => z = z90) σ93 (k0) (n0) 297 [] [.int w91, .int w92] := by
    intro k0 n0 σ93 z90 w91 w92 hk0 hn0 hf
    unfold m_L_single_j297 at hf
    refine kx_icmp_ne K 304 hf dL_single_297 (by decide) (fun hf => ?_) (fun hf => ?_)
    · refine kx_iconst (v := 0) K dL_single_304 (by decide) ?_
      exact kx_zretZ K hQ (show k0 ≤ 5 by omega) (show n0 ≤ 372 by omega) dL_single_305 hf
    · refine kx_iconst (v := 1) K dL_single_300 (by decide) ?_
      refine kx_goto K 305 dL_single_301 (by decide) ?_
      exact kx_zretZ K hQ (show k0 ≤ 5 by omega) (show n0 ≤ 372 by omega) dL_single_305 hf
  have B277 : ∀ (k0 n0 : Nat) (σ87 : ac_H) (z82 : Nat) (v83 : Int32) (v84 : Int32) (w85 : Int32) (w86 : Int32), k0 ≤ 5 → n0 ≤ 372 → m_L_single_j277 a0 a3 σ87 z82 v83 v84 w85 w86 = some (v, σ') → kx_S Λ Γ 12 (fun z => z = z82) σ87 (k0) (n0) 277 [(0, .ref a0), (3, .int a3), (7, .int v83), (8, .int v84)] [.int w85, .int w86] := by
    intro k0 n0 σ87 z82 v83 v84 w85 w86 hk0 hn0 hf
    unfold m_L_single_j277 at hf
    refine kx_icmp_ne K 304 hf dL_single_277 (by decide) (fun hf => ?_) (fun hf => ?_)
    · refine kx_iconst (v := 0) K dL_single_304 (by decide) ?_
      exact kx_zretZ K hQ (show k0 ≤ 5 by omega) (show n0 ≤ 372 by omega) dL_single_305 hf
    · refine kx_aload_n K dL_single_280 rfl 0 rfl ?_
      refine kx_iload_n K dL_single_281 rfl 1 rfl ?_
      refine kx_iconst (v := 2) K dL_single_282 (by decide) ?_
      refine kx_nv (ρ := Int32) K [.int a3, .int (2 : Int32)] (fun x => some (.int x)) c_L_243 ⟨by decide, by decide, rfl, rfl, (show k0 ≤ 5 by omega), (show n0 ≤ 372 by omega)⟩ rfl rfl (Nat.le_of_ble_eq_true rfl) dL_single_283 hf (fun _ _ _ h => k_X6_attack h) (fun x89 σ88 hf => ?_)
      refine kx_iload K dL_single_286 2 rfl ?_
      refine kx_if_ge K 295 hf dL_single_288 (by decide) (fun hf => ?_) (fun hf => ?_)
      · refine kx_iload K dL_single_295 3 rfl ?_
        refine kx_sub [] [] rfl ?_
        exact B297 (k0) (n0) _ _ _ _ (by omega) (by omega) hf
      · refine kx_iconst (v := -1) K dL_single_291 (by decide) ?_
        refine kx_goto K 297 dL_single_292 (by decide) ?_
        refine kx_sub [] [] rfl ?_
        exact B297 (k0) (n0) _ _ _ _ (by omega) (by omega) hf
  have B253 : ∀ (k0 n0 : Nat) (σ78 : ac_H) (z73 : Nat) (v74 : Int32) (v75 : Int32) (w76 : Int32) (w77 : Int32), k0 ≤ 5 → n0 ≤ 372 → m_L_single_j253 a0 a3 σ78 z73 v74 v75 w76 w77 = some (v, σ') → kx_S Λ Γ 12 (fun z => z = z73) σ78 (k0) (n0) 253 [(0, .ref a0), (3, .int a3), (7, .int v74), (8, .int v75)] [.int w76, .int w77] := by
    intro k0 n0 σ78 z73 v74 v75 w76 w77 hk0 hn0 hf
    unfold m_L_single_j253 at hf
    refine kx_icmp_ne K 304 hf dL_single_253 (by decide) (fun hf => ?_) (fun hf => ?_)
    · refine kx_iconst (v := 0) K dL_single_304 (by decide) ?_
      exact kx_zretZ K hQ (show k0 ≤ 5 by omega) (show n0 ≤ 372 by omega) dL_single_305 hf
    · refine kx_aload_n K dL_single_256 rfl 0 rfl ?_
      refine kx_iload_n K dL_single_257 rfl 1 rfl ?_
      refine kx_iconst (v := 1) K dL_single_258 (by decide) ?_
      refine kx_nv (ρ := Int32) K [.int a3, .int (1 : Int32)] (fun x => some (.int x)) c_L_243 ⟨by decide, by decide, rfl, rfl, (show k0 ≤ 5 by omega), (show n0 ≤ 372 by omega)⟩ rfl rfl (Nat.le_of_ble_eq_true rfl) dL_single_259 hf (fun _ _ _ h => k_X6_attack h) (fun x80 σ79 hf => ?_)
      refine kx_iload K dL_single_262 2 rfl ?_
      refine kx_if_ge K 271 hf dL_single_264 (by decide) (fun hf => ?_) (fun hf => ?_)
      · refine kx_iload K dL_single_271 2 rfl ?_
        refine kx_sipush (v := 1000) K dL_single_273 (by decide) ?_
        refine kx_idiv K dL_single_276 hf (fun x81 hf => ?_)
        refine kx_sub [(0, .ref a0), (3, .int a3), (7, .int v74), (8, .int v75)] [0, 1, 2, 3] rfl ?_
        exact B277 (k0) (n0) _ _ _ _ _ _ (by omega) (by omega) hf
      · refine kx_iconst (v := -1) K dL_single_267 (by decide) ?_
        refine kx_goto K 277 dL_single_268 (by decide) ?_
        refine kx_sub [(0, .ref a0), (3, .int a3), (7, .int v74), (8, .int v75)] [0, 1, 2, 3] rfl ?_
        exact B277 (k0) (n0) _ _ _ _ _ _ (by omega) (by omega) hf
  have B42 : ∀ (n42 : Nat) (k0 n0 : Nat) (σ20 : ac_H) (z13 : Nat) (v14 : Nat) (v15 : Int32) (v16 : Int32) (v17 : Int32) (v18 : Int32) (v19 : Int32), k0 ≤ 5 → n0 ≤ 372 → m_L_single_l42 a0 a2 a3 n42 σ20 z13 v14 v15 v16 v17 v18 v19 = some (v, σ') → kx_S Λ Γ 12 (fun z => z = z13) σ20 (k0) (n0) 42 [(0, .ref a0), (2, .ref a2), (3, .int a3), (4, .ref v14), (5, .int v15), (6, .int v16), (7, .int v17), (8, .int v18), (9, .int v19)] [] := by
    intro n42
    induction n42 with
    | zero =>
      intro k0 n0 σ20 z13 v14 v15 v16 v17 v18 v19 hk0 hn0 hf
      rw [m_L_single_l42] at hf
      cases hf
    | succ n42 ih42 =>
      have B149 : ∀ (n149 : Nat) (k0 n0 : Nat) (σ62 : ac_H) (z54 : Nat) (v55 : Nat) (v56 : Int32) (v57 : Int32) (v58 : Int32) (v59 : Int32) (v60 : Int32) (v61 : Int32), k0 ≤ 5 → n0 ≤ 372 → m_L_single_l149 (fun ρ y0 y1 y2 y3 y4 y5 y6 => m_L_single_l42 a0 a2 a3 n42 ρ y0 y1 y2 y3 y4 y5 y6) a0 a2 a3 n149 σ62 z54 v55 v56 v57 v58 v59 v60 v61 = some (v, σ') → kx_S Λ Γ 12 (fun z => z = z54) σ62 (k0) (n0) 149 [(0, .ref a0), (2, .ref a2), (3, .int a3), (4, .ref v55), (5, .int v56), (6, .int v57), (7, .int v58), (8, .int v59), (9, .int v60), (11, .int v61)] [] := by
        intro n149
        induction n149 with
        | zero =>
          intro k0 n0 σ62 z54 v55 v56 v57 v58 v59 v60 v61 hk0 hn0 hf
          rw [m_L_single_l149] at hf
          cases hf
        | succ n149 ih149 =>
          intro k0 n0 σ62 z54 v55 v56 v57 v58 v59 v60 v61 hk0 hn0 hf
          rw [m_L_single_l149] at hf
          refine kx_iload K dL_single_149 9 rfl ?_
          refine kx_bipush (v := 20) K dL_single_151 (by decide) ?_
          refine kx_icmp_gt K 207 hf dL_single_153 (by decide) (fun hf => ?_) (fun hf => ?_)
          · refine kx_aload K dL_single_207 3 rfl ?_
            refine kx_grN K fn_L_87 dL_single_209 hf (fun x63 hf => ?_)
            refine kx_iload K dL_single_212 8 rfl ?_
            refine kx_iconst (v := 0) K dL_single_214 (by decide) ?_
            refine kx_ui K dL_single_215 hf (fun σ64 hf => ?_)
            refine kx_iinc (v := (v60 + 1)) K [(9, .int (v60 + 1)), (0, .ref a0), (2, .ref a2), (3, .int a3), (4, .ref v55), (5, .int v56), (6, .int v57), (7, .int v58), (8, .int v59), (11, .int v61)] dL_single_216 8 rfl rfl (by decide) rfl ?_
            refine kx_goto K 42 dL_single_219 (by decide) ?_
            refine kx_sub [(0, .ref a0), (2, .ref a2), (3, .int a3), (4, .ref v55), (5, .int v56), (6, .int v57), (7, .int v58), (8, .int v59), (9, .int (v60 + 1))] [1, 2, 3, 4, 5, 6, 7, 8, 0] rfl ?_
            exact ih42 (k0) (n0) _ _ _ _ _ _ _ _ (by omega) (by omega) hf
          · refine kx_iload K dL_single_156 6 rfl ?_
            refine kx_if_ge K 207 hf dL_single_158 (by decide) (fun hf => ?_) (fun hf => ?_)
            · refine kx_aload K dL_single_207 3 rfl ?_
              refine kx_grN K fn_L_87 dL_single_209 hf (fun x65 hf => ?_)
              refine kx_iload K dL_single_212 8 rfl ?_
              refine kx_iconst (v := 0) K dL_single_214 (by decide) ?_
              refine kx_ui K dL_single_215 hf (fun σ66 hf => ?_)
              refine kx_iinc (v := (v60 + 1)) K [(9, .int (v60 + 1)), (0, .ref a0), (2, .ref a2), (3, .int a3), (4, .ref v55), (5, .int v56), (6, .int v57), (7, .int v58), (8, .int v59), (11, .int v61)] dL_single_216 8 rfl rfl (by decide) rfl ?_
              refine kx_goto K 42 dL_single_219 (by decide) ?_
              refine kx_sub [(0, .ref a0), (2, .ref a2), (3, .int a3), (4, .ref v55), (5, .int v56), (6, .int v57), (7, .int v58), (8, .int v59), (9, .int (v60 + 1))] [1, 2, 3, 4, 5, 6, 7, 8, 0] rfl ?_
              exact ih42 (k0) (n0) _ _ _ _ _ _ _ _ (by omega) (by omega) hf
            · refine kx_aload K dL_single_161 3 rfl ?_
              refine kx_grN K fn_L_87 dL_single_163 hf (fun x67 hf => ?_)
              refine kx_iload K dL_single_166 8 rfl ?_
              refine kx_iload K dL_single_168 9 rfl ?_
              refine kx_ui K dL_single_170 hf (fun σ68 hf => ?_)
              refine kx_aload_n K dL_single_171 rfl 1 rfl ?_
              refine kx_aload K dL_single_172 3 rfl ?_
              refine kx_cv1r K c_L_124 ⟨by decide, by decide, rfl, rfl, (show k0 ≤ 5 by omega), (show n0 ≤ 372 by omega)⟩ (Nat.le_of_ble_eq_true rfl) dL_single_174 hf (fun _ _ _ h => k_X8_go h) (fun x70 σ69 hf => ?_)
              refine kx_iload_n K dL_single_177 rfl 2 rfl ?_
              refine kx_cv1i K c_L_153 ⟨by decide, by decide, rfl, rfl, (show k0 ≤ 5 by omega), (show n0 ≤ 372 by omega)⟩ (Nat.le_of_ble_eq_true rfl) dL_single_178 hf (fun _ _ _ h => k_X8_breaks h) (fun x72 σ71 hf => ?_)
              refine kx_if_ne K 187 hf dL_single_181 (by decide) (fun hf => ?_) (fun hf => ?_)
              · refine kx_sipush (v := 1000) K dL_single_187 (by decide) ?_
                refine kx_iload K dL_single_190 8 rfl ?_
                refine kx_imul K dL_single_192 ?_
                refine kx_iconst (v := 2) K dL_single_193 (by decide) ?_
                refine kx_iadd K dL_single_194 ?_
                refine kx_istore K [(7, .int (((1000 : Int32) * v60) + (2 : Int32))), (0, .ref a0), (2, .ref a2), (3, .int a3), (4, .ref v55), (5, .int v56), (6, .int v57), (8, .int v59), (9, .int v60), (11, .int v61)] dL_single_195 (by decide) rfl ?_
                refine kx_iload K dL_single_197 9 rfl ?_
                refine kx_istore K [(8, .int v61), (7, .int (((1000 : Int32) * v60) + (2 : Int32))), (0, .ref a0), (2, .ref a2), (3, .int a3), (4, .ref v55), (5, .int v56), (6, .int v57), (9, .int v60), (11, .int v61)] dL_single_199 (by decide) rfl ?_
                refine kx_iinc (v := (v61 + 1)) K [(11, .int (v61 + 1)), (8, .int v61), (7, .int (((1000 : Int32) * v60) + (2 : Int32))), (0, .ref a0), (2, .ref a2), (3, .int a3), (4, .ref v55), (5, .int v56), (6, .int v57), (9, .int v60)] dL_single_201 9 rfl rfl (by decide) rfl ?_
                refine kx_goto K 149 dL_single_204 (by decide) ?_
                refine kx_sub [(0, .ref a0), (2, .ref a2), (3, .int a3), (4, .ref v55), (5, .int v56), (6, .int v57), (7, .int (((1000 : Int32) * v60) + (2 : Int32))), (8, .int v61), (9, .int v60), (11, .int (v61 + 1))] [3, 4, 5, 6, 7, 8, 2, 1, 9, 0] rfl ?_
                exact ih149 (k0) (n0) _ _ _ _ _ _ _ _ _ (by omega) (by omega) hf
              · refine kx_goto K 201 dL_single_184 (by decide) ?_
                refine kx_iinc (v := (v61 + 1)) K [(11, .int (v61 + 1)), (0, .ref a0), (2, .ref a2), (3, .int a3), (4, .ref v55), (5, .int v56), (6, .int v57), (7, .int v58), (8, .int v59), (9, .int v60)] dL_single_201 9 rfl rfl (by decide) rfl ?_
                refine kx_goto K 149 dL_single_204 (by decide) ?_
                refine kx_sub [(0, .ref a0), (2, .ref a2), (3, .int a3), (4, .ref v55), (5, .int v56), (6, .int v57), (7, .int v58), (8, .int v59), (9, .int v60), (11, .int (v61 + 1))] [1, 2, 3, 4, 5, 6, 7, 8, 9, 0] rfl ?_
                exact ih149 (k0) (n0) _ _ _ _ _ _ _ _ _ (by omega) (by omega) hf
      have B100 : ∀ (k0 n0 : Nat) (σ41 : ac_H) (z34 : Nat) (v35 : Nat) (v36 : Int32) (v37 : Int32) (v38 : Int32) (v39 : Int32) (v40 : Int32), k0 ≤ 5 → n0 ≤ 372 → m_L_single_j100 (fun ρ y0 y1 y2 y3 y4 y5 y6 => m_L_single_l42 a0 a2 a3 n42 ρ y0 y1 y2 y3 y4 y5 y6) a0 a2 a3 σ41 z34 v35 v36 v37 v38 v39 v40 = some (v, σ') → kx_S Λ Γ 12 (fun z => z = z34) σ41 (k0) (n0) 100 [(0, .ref a0), (2, .ref a2), (3, .int a3), (4, .ref v35), (5, .int v36), (6, .int v37), (7, .int v38), (8, .int v39), (9, .int v40)] [] := by
        intro k0 n0 σ41 z34 v35 v36 v37 v38 v39 v40 hk0 hn0 hf
        unfold m_L_single_j100 at hf
        refine kx_aload K dL_single_100 3 rfl ?_
        refine kx_grN K fn_L_82 dL_single_102 hf (fun x42 hf => ?_)
        refine kx_iload K dL_single_105 8 rfl ?_
        refine kx_iconst (v := 1) K dL_single_107 (by decide) ?_
        refine kx_uz K dL_single_108 hf (fun σ43 hf => ?_)
        refine kx_iload K dL_single_109 6 rfl ?_
        refine kx_if_ge K 137 hf dL_single_111 (by decide) (fun hf => ?_) (fun hf => ?_)
        · refine kx_aload K dL_single_137 3 rfl ?_
          refine kx_grN K fn_L_82 dL_single_139 hf (fun x44 hf => ?_)
          refine kx_iload K dL_single_142 8 rfl ?_
          refine kx_iconst (v := 0) K dL_single_144 (by decide) ?_
          refine kx_uz K dL_single_145 hf (fun σ45 hf => ?_)
          refine kx_iconst (v := 1) K dL_single_146 (by decide) ?_
          refine kx_istore K [(11, .int (1 : Int32)), (0, .ref a0), (2, .ref a2), (3, .int a3), (4, .ref v35), (5, .int v36), (6, .int v37), (7, .int v38), (8, .int v39), (9, .int v40)] dL_single_147 (by decide) rfl ?_
          refine kx_sub [(0, .ref a0), (2, .ref a2), (3, .int a3), (4, .ref v35), (5, .int v36), (6, .int v37), (7, .int v38), (8, .int v39), (9, .int v40), (11, .int (1 : Int32))] [1, 2, 3, 4, 5, 6, 7, 8, 9, 0] rfl ?_
          exact B149 hN_f (k0) (n0) _ _ _ _ _ _ _ _ _ (by omega) (by omega) hf
        · refine kx_aload_n K dL_single_114 rfl 1 rfl ?_
          refine kx_aload K dL_single_115 3 rfl ?_
          refine kx_cv1r K c_L_124 ⟨by decide, by decide, rfl, rfl, (show k0 ≤ 5 by omega), (show n0 ≤ 372 by omega)⟩ (Nat.le_of_ble_eq_true rfl) dL_single_117 hf (fun _ _ _ h => k_X8_go h) (fun x47 σ46 hf => ?_)
          refine kx_iload_n K dL_single_120 rfl 2 rfl ?_
          refine kx_cv1i K c_L_153 ⟨by decide, by decide, rfl, rfl, (show k0 ≤ 5 by omega), (show n0 ≤ 372 by omega)⟩ (Nat.le_of_ble_eq_true rfl) dL_single_121 hf (fun _ _ _ h => k_X8_breaks h) (fun x49 σ48 hf => ?_)
          refine kx_if_eq K 137 hf dL_single_124 (by decide) (fun hf => ?_) (fun hf => ?_)
          · refine kx_aload K dL_single_137 3 rfl ?_
            refine kx_grN K fn_L_82 dL_single_139 hf (fun x50 hf => ?_)
            refine kx_iload K dL_single_142 8 rfl ?_
            refine kx_iconst (v := 0) K dL_single_144 (by decide) ?_
            refine kx_uz K dL_single_145 hf (fun σ51 hf => ?_)
            refine kx_iconst (v := 1) K dL_single_146 (by decide) ?_
            refine kx_istore K [(11, .int (1 : Int32)), (0, .ref a0), (2, .ref a2), (3, .int a3), (4, .ref v35), (5, .int v36), (6, .int v37), (7, .int v38), (8, .int v39), (9, .int v40)] dL_single_147 (by decide) rfl ?_
            refine kx_sub [(0, .ref a0), (2, .ref a2), (3, .int a3), (4, .ref v35), (5, .int v36), (6, .int v37), (7, .int v38), (8, .int v39), (9, .int v40), (11, .int (1 : Int32))] [1, 2, 3, 4, 5, 6, 7, 8, 9, 0] rfl ?_
            exact B149 hN_f (k0) (n0) _ _ _ _ _ _ _ _ _ (by omega) (by omega) hf
          · refine kx_sipush (v := 1000) K dL_single_127 (by decide) ?_
            refine kx_iload K dL_single_130 8 rfl ?_
            refine kx_imul K dL_single_132 ?_
            refine kx_iconst (v := 1) K dL_single_133 (by decide) ?_
            refine kx_iadd K dL_single_134 ?_
            refine kx_istore K [(7, .int (((1000 : Int32) * v40) + (1 : Int32))), (0, .ref a0), (2, .ref a2), (3, .int a3), (4, .ref v35), (5, .int v36), (6, .int v37), (8, .int v39), (9, .int v40)] dL_single_135 (by decide) rfl ?_
            refine kx_aload K dL_single_137 4 rfl ?_
            refine kx_grN K fn_L_82 dL_single_139 hf (fun x52 hf => ?_)
            refine kx_iload K dL_single_142 8 rfl ?_
            refine kx_iconst (v := 0) K dL_single_144 (by decide) ?_
            refine kx_uz K dL_single_145 hf (fun σ53 hf => ?_)
            refine kx_iconst (v := 1) K dL_single_146 (by decide) ?_
            refine kx_istore K [(11, .int (1 : Int32)), (7, .int (((1000 : Int32) * v40) + (1 : Int32))), (0, .ref a0), (2, .ref a2), (3, .int a3), (4, .ref v35), (5, .int v36), (6, .int v37), (8, .int v39), (9, .int v40)] dL_single_147 (by decide) rfl ?_
            refine kx_sub [(0, .ref a0), (2, .ref a2), (3, .int a3), (4, .ref v35), (5, .int v36), (6, .int v37), (7, .int (((1000 : Int32) * v40) + (1 : Int32))), (8, .int v39), (9, .int v40), (11, .int (1 : Int32))] [2, 3, 4, 5, 6, 7, 1, 8, 9, 0] rfl ?_
            exact B149 hN_f (k0) (n0) _ _ _ _ _ _ _ _ _ (by omega) (by omega) hf
      intro k0 n0 σ20 z13 v14 v15 v16 v17 v18 v19 hk0 hn0 hf
      rw [m_L_single_l42] at hf
      refine kx_iload K dL_single_42 8 rfl ?_
      refine kx_iload K dL_single_44 4 rfl ?_
      refine kx_icmp_ge K 222 hf dL_single_46 (by decide) (fun hf => ?_) (fun hf => ?_)
      · refine kx_aload_n K dL_single_222 rfl 0 rfl ?_
        refine kx_iload_n K dL_single_223 rfl 2 rfl ?_
        refine kx_nv (ρ := Int32) K [.int a3] (fun x => some (.int x)) c_L_240 ⟨by decide, by decide, rfl, rfl, (show k0 ≤ 5 by omega), (show n0 ≤ 372 by omega)⟩ rfl rfl (Nat.le_of_ble_eq_true rfl) dL_single_224 hf (fun _ _ _ h => k_X6_weakPoints h) (fun x22 σ21 hf => ?_)
        refine kx_iload K dL_single_227 5 rfl ?_
        refine kx_icmp_ne K 304 hf dL_single_229 (by decide) (fun hf => ?_) (fun hf => ?_)
        · refine kx_iconst (v := 0) K dL_single_304 (by decide) ?_
          exact kx_zretZ K hQ (show k0 ≤ 5 by omega) (show n0 ≤ 372 by omega) dL_single_305 hf
        · refine kx_aload_n K dL_single_232 rfl 0 rfl ?_
          refine kx_iload_n K dL_single_233 rfl 2 rfl ?_
          refine kx_iconst (v := 0) K dL_single_234 (by decide) ?_
          refine kx_nv (ρ := Int32) K [.int a3, .int (0 : Int32)] (fun x => some (.int x)) c_L_243 ⟨by decide, by decide, rfl, rfl, (show k0 ≤ 5 by omega), (show n0 ≤ 372 by omega)⟩ rfl rfl (Nat.le_of_ble_eq_true rfl) dL_single_235 hf (fun _ _ _ h => k_X6_attack h) (fun x24 σ23 hf => ?_)
          refine kx_iload K dL_single_238 6 rfl ?_
          refine kx_if_ge K 247 hf dL_single_240 (by decide) (fun hf => ?_) (fun hf => ?_)
          · refine kx_iload K dL_single_247 6 rfl ?_
            refine kx_sipush (v := 1000) K dL_single_249 (by decide) ?_
            refine kx_irem K dL_single_252 hf (fun x25 hf => ?_)
            refine kx_sub [(0, .ref a0), (3, .int a3), (7, .int v17), (8, .int v18)] [0, 2, 6, 7] rfl ?_
            exact B253 (k0) (n0) _ _ _ _ _ _ (by omega) (by omega) hf
          · refine kx_iconst (v := -1) K dL_single_243 (by decide) ?_
            refine kx_goto K 253 dL_single_244 (by decide) ?_
            refine kx_sub [(0, .ref a0), (3, .int a3), (7, .int v17), (8, .int v18)] [0, 2, 6, 7] rfl ?_
            exact B253 (k0) (n0) _ _ _ _ _ _ (by omega) (by omega) hf
      · refine kx_aload K dL_single_49 3 rfl ?_
        refine kx_grN K fn_L_76 dL_single_51 hf (fun x26 hf => ?_)
        refine kx_iload K dL_single_54 8 rfl ?_
        refine kx_iconst (v := 1) K dL_single_56 (by decide) ?_
        refine kx_uz K dL_single_57 hf (fun σ27 hf => ?_)
        refine kx_aload_n K dL_single_58 rfl 1 rfl ?_
        refine kx_aload K dL_single_59 3 rfl ?_
        refine kx_cv1r K c_L_124 ⟨by decide, by decide, rfl, rfl, (show k0 ≤ 5 by omega), (show n0 ≤ 372 by omega)⟩ (Nat.le_of_ble_eq_true rfl) dL_single_61 hf (fun _ _ _ h => k_X8_go h) (fun x29 σ28 hf => ?_)
        refine kx_iload_n K dL_single_64 rfl 2 rfl ?_
        refine kx_cv1i K c_L_153 ⟨by decide, by decide, rfl, rfl, (show k0 ≤ 5 by omega), (show n0 ≤ 372 by omega)⟩ (Nat.le_of_ble_eq_true rfl) dL_single_65 hf (fun _ _ _ h => k_X8_breaks h) (fun x31 σ30 hf => ?_)
        refine kx_istore K [(10, .int x31), (0, .ref a0), (2, .ref a2), (3, .int a3), (4, .ref v14), (5, .int v15), (6, .int v16), (7, .int v17), (8, .int v18), (9, .int v19)] dL_single_68 (by decide) rfl ?_
        refine kx_aload K dL_single_70 4 rfl ?_
        refine kx_grN K fn_L_76 dL_single_72 hf (fun x32 hf => ?_)
        refine kx_iload K dL_single_75 9 rfl ?_
        refine kx_iconst (v := 0) K dL_single_77 (by decide) ?_
        refine kx_uz K dL_single_78 hf (fun σ33 hf => ?_)
        refine kx_iload K dL_single_79 0 rfl ?_
        refine kx_if_eq K 100 hf dL_single_81 (by decide) (fun hf => ?_) (fun hf => ?_)
        · refine kx_sub [(0, .ref a0), (2, .ref a2), (3, .int a3), (4, .ref v14), (5, .int v15), (6, .int v16), (7, .int v17), (8, .int v18), (9, .int v19)] [1, 2, 3, 4, 5, 6, 7, 8, 9] rfl ?_
          exact B100 (k0) (n0) _ _ _ _ _ _ _ _ (by omega) (by omega) hf
        · refine kx_iinc (v := (v16 + 1)) K [(6, .int (v16 + 1)), (10, .int x31), (0, .ref a0), (2, .ref a2), (3, .int a3), (4, .ref v14), (5, .int v15), (7, .int v17), (8, .int v18), (9, .int v19)] dL_single_84 6 rfl rfl (by decide) rfl ?_
          refine kx_iload K dL_single_87 7 rfl ?_
          refine kx_if_ge K 100 hf dL_single_89 (by decide) (fun hf => ?_) (fun hf => ?_)
          · refine kx_sub [(0, .ref a0), (2, .ref a2), (3, .int a3), (4, .ref v14), (5, .int v15), (6, .int (v16 + 1)), (7, .int v17), (8, .int v18), (9, .int v19)] [2, 3, 4, 5, 6, 0, 7, 8, 9] rfl ?_
            exact B100 (k0) (n0) _ _ _ _ _ _ _ _ (by omega) (by omega) hf
          · refine kx_sipush (v := 1000) K dL_single_92 (by decide) ?_
            refine kx_iload K dL_single_95 9 rfl ?_
            refine kx_imul K dL_single_97 ?_
            refine kx_istore K [(7, .int ((1000 : Int32) * v19)), (6, .int (v16 + 1)), (10, .int x31), (0, .ref a0), (2, .ref a2), (3, .int a3), (4, .ref v14), (5, .int v15), (8, .int v18), (9, .int v19)] dL_single_98 (by decide) rfl ?_
            refine kx_sub [(0, .ref a0), (2, .ref a2), (3, .int a3), (4, .ref v14), (5, .int v15), (6, .int (v16 + 1)), (7, .int ((1000 : Int32) * v19)), (8, .int v18), (9, .int v19)] [3, 4, 5, 6, 7, 1, 0, 8, 9] rfl ?_
            exact B100 (k0) (n0) _ _ _ _ _ _ _ _ (by omega) (by omega) hf
  have B28 : ∀ (k0 n0 : Nat) (σ12 : ac_H) (z9 : Nat) (v10 : Nat) (w11 : Int32), k0 ≤ 5 → n0 ≤ 372 → m_L_single_j28 a0 a2 a3 σ12 z9 v10 w11 = some (v, σ') → kx_S Λ Γ 12 (fun z => z = z9) σ12 (k0) (n0) 28 [(0, .ref a0), (2, .ref a2), (3, .int a3), (4, .ref v10)] [.int w11] := by
    intro k0 n0 σ12 z9 v10 w11 hk0 hn0 hf
    unfold m_L_single_j28 at hf
    refine kx_istore K [(5, .int w11), (0, .ref a0), (2, .ref a2), (3, .int a3), (4, .ref v10)] dL_single_28 (by decide) rfl ?_
    refine kx_iconst (v := 0) K dL_single_30 (by decide) ?_
    refine kx_istore K [(6, .int (0 : Int32)), (5, .int w11), (0, .ref a0), (2, .ref a2), (3, .int a3), (4, .ref v10)] dL_single_31 (by decide) rfl ?_
    refine kx_iconst (v := -1) K dL_single_33 (by decide) ?_
    refine kx_istore K [(7, .int (-1 : Int32)), (6, .int (0 : Int32)), (5, .int w11), (0, .ref a0), (2, .ref a2), (3, .int a3), (4, .ref v10)] dL_single_34 (by decide) rfl ?_
    refine kx_iconst (v := 0) K dL_single_36 (by decide) ?_
    refine kx_istore K [(8, .int (0 : Int32)), (7, .int (-1 : Int32)), (6, .int (0 : Int32)), (5, .int w11), (0, .ref a0), (2, .ref a2), (3, .int a3), (4, .ref v10)] dL_single_37 (by decide) rfl ?_
    refine kx_iconst (v := 0) K dL_single_39 (by decide) ?_
    refine kx_istore K [(9, .int (0 : Int32)), (8, .int (0 : Int32)), (7, .int (-1 : Int32)), (6, .int (0 : Int32)), (5, .int w11), (0, .ref a0), (2, .ref a2), (3, .int a3), (4, .ref v10)] dL_single_40 (by decide) rfl ?_
    refine kx_sub [(0, .ref a0), (2, .ref a2), (3, .int a3), (4, .ref v10), (5, .int w11), (6, .int (0 : Int32)), (7, .int (-1 : Int32)), (8, .int (0 : Int32)), (9, .int (0 : Int32))] [5, 6, 7, 8, 4, 3, 2, 1, 0] rfl ?_
    exact B42 hN_f (k0) (n0) _ _ _ _ _ _ _ _ (by omega) (by omega) hf
  unfold m_L_single at hf
  refine kx_aload_n K dL_single_0 rfl 1 rfl ?_
  refine kx_iconst (v := 0) K dL_single_1 (by decide) ?_
  refine kx_av (rmy := { frames := 3, cells := 5, slots := 372, locals := 62 }) (k' := 5) (n' := 372) (ρ := Nat × Nat) K [.int (0 : Int32)] (fun x => some (.ref x.1)) (fun x => x.2) c_L_202 ⟨by decide, by decide, by show 0 + 5 = 5; omega, by show 0 + 372 = 372; omega, (by decide), (by decide)⟩ rfl rfl (Nat.le_of_ble_eq_true rfl) dL_single_2 hf (fun _ _ h => k_X7_part h) (fun x2 σ1 hf => ?_)
  refine kx_astore K [(4, .ref x2.1), (0, .ref a0), (1, .ref a1), (2, .ref a2), (3, .int a3)] dL_single_5 (by decide) rfl ?_
  refine kx_aload_n K dL_single_7 rfl 3 rfl ?_
  refine kx_aload K dL_single_8 0 rfl ?_
  refine kx_cv1r K c_L_124 ⟨by decide, by decide, rfl, rfl, (by decide), (by decide)⟩ (Nat.le_of_ble_eq_true rfl) dL_single_10 hf (fun _ _ _ h => k_X8_go h) (fun x5 σ4 hf => ?_)
  refine kx_iload_n K dL_single_13 rfl 4 rfl ?_
  refine kx_cv1i K c_L_153 ⟨by decide, by decide, rfl, rfl, (by decide), (by decide)⟩ (Nat.le_of_ble_eq_true rfl) dL_single_14 hf (fun _ _ _ h => k_X8_breaks h) (fun x7 σ6 hf => ?_)
  refine kx_if_eq K 24 hf dL_single_17 (by decide) (fun hf => ?_) (fun hf => ?_)
  · refine kx_aload_n K dL_single_24 rfl 3 rfl ?_
    refine kx_giN K fn_L_140 dL_single_25 hf (fun x8 hf => ?_)
    refine kx_sub [(0, .ref a0), (2, .ref a2), (3, .int a3), (4, .ref x2.1)] [1, 3, 4, 0] rfl ?_
    exact B28 (5) (372) _ _ _ _ (by omega) (by omega) hf
  · refine kx_iconst (v := 0) K dL_single_20 (by decide) ?_
    refine kx_goto K 28 dL_single_21 (by decide) ?_
    refine kx_sub [(0, .ref a0), (2, .ref a2), (3, .int a3), (4, .ref x2.1)] [1, 3, 4, 0] rfl ?_
    exact B28 (5) (372) _ _ _ _ (by omega) (by omega) hf
def m_L_asks_l231  (a0 : Nat) (a1 : Nat) (a2 : Nat) (a3 : Nat) (a4 : Nat) : Nat → ac_H → Nat → Int32 → Int32 → Int32 → Int32 → Option ((Int32 × Nat) × ac_H)
  | 0, _, _, _, _, _, _ => none
  | n + 1, σ76, z71, v72, v73, v74, v75 =>
    if v75 < (144 : Int32) then
    (mo_ai σ76 a3 2 v75 fun x93 =>
    if x93 = 0 then
    (m_L_asks_l231 a0 a1 a2 a3 a4 n σ76 z71 v72 v73 (v74 + (0 : Int32)) (v75 + 1))
    else
    (m_L_asks_l231 a0 a1 a2 a3 a4 n σ76 z71 v72 v73 (v74 + (1 : Int32)) (v75 + 1)))
    else
    (mo_cs (m_L_draw σ76 a4 (9 : Int32)) fun x78 σ77 =>
    mo_cs (m_L_draw σ77 a4 (16 : Int32)) fun x80 σ79 =>
    mo_nv σ79 a0 6 (m_X6_timerFor σ79 a0 v72) fun x82 σ81 =>
    if x82 = v73 then
    (mo_nv σ81 a0 6 (m_X6_size σ81 a0 (10 : Int32)) fun x84 σ83 =>
    if x84 = v74 then
    (mo_cv σ83 a0 6 (m_X6_isRecorded σ83 a0 x78 x80) fun x86 σ85 =>
    mo_ai σ85 a3 2 (((16 : Int32) * x78) + x80) fun x87 =>
    if x86 = x87 then
    (mo_cs (m_L_draw σ85 a4 (3 : Int32)) fun x89 σ88 =>
    if 0 < x89 then
    (mo_z (1 : Int32) (some (((1 : Int32), z71), σ88)))
    else
    (mo_cs (m_L_single σ88 a0 a1 a2 v72 z71) fun x91 σ90 =>
    if x91.1 = 0 then
    (mo_z (0 : Int32) (some (((0 : Int32), x91.2), σ90)))
    else
    (mo_z (1 : Int32) (some (((1 : Int32), x91.2), σ90)))))
    else
    (mo_z (0 : Int32) (some (((0 : Int32), z71), σ85))))
    else
    (mo_z (0 : Int32) (some (((0 : Int32), z71), σ83))))
    else
    (mo_z (0 : Int32) (some (((0 : Int32), z71), σ81))))
def m_L_asks_l180  (a0 : Nat) (a1 : Nat) (a2 : Nat) (a3 : Nat) (a4 : Nat) : Nat → ac_H → Nat → Int32 → Nat → Int32 → Int32 → Option ((Int32 × Nat) × ac_H)
  | 0, _, _, _, _, _, _ => none
  | n + 1, σ64, z59, v60, v61, v62, v63 =>
    if (20 : Int32) < v63 then
    (m_L_asks_l231 a0 a1 a2 a3 a4 hN_f σ64 z59 v60 v62 (0 : Int32) (0 : Int32))
    else
    (if v62 < 0 then
    (mo_gr σ64 v61 7 0 fun x65 =>
    mo_ui σ64 x65 0 (4 : Int32) v63 fun σ66 =>
    mo_cv σ66 a2 8 (m_X8_go σ66 a2 v61) fun x68 σ67 =>
    mo_cv σ67 x68 8 (m_X8_breaks σ67 x68 v60) fun x70 σ69 =>
    if x70 = 0 then
    (m_L_asks_l180 a0 a1 a2 a3 a4 n σ69 z59 v60 v61 v63 (v63 + 1))
    else
    (m_L_asks_l180 a0 a1 a2 a3 a4 n σ69 z59 v60 v61 v62 (v63 + 1)))
    else
    (m_L_asks_l231 a0 a1 a2 a3 a4 hN_f σ64 z59 v60 v62 (0 : Int32) (0 : Int32)))
def m_L_asks_j143  (a0 : Nat) (a1 : Nat) (a2 : Nat) (a3 : Nat) (a4 : Nat) (σ50 : ac_H) (z45 : Nat) (v46 : Int32) (v47 : Int32) (w48 : Int32) (w49 : Int32) : Option ((Int32 × Nat) × ac_H) :=
  if w49 = w48 then
  (mo_nv σ50 a0 6 (m_X6_leastAmount σ50 a0 v47 v46) fun x52 σ51 =>
  mo_cs (m_L_least σ51 a1 a2 v47 v46 z45) fun x54 σ53 =>
  if x52 = x54.1 then
  (mo_cv σ53 a1 7 (m_X7_copy σ53 a1 x54.2) fun x57 σ56 =>
  m_L_asks_l180 a0 a1 a2 a3 a4 hN_f σ56 x57.2 v46 x57.1 (-1 : Int32) (1 : Int32))
  else
  (mo_z (0 : Int32) (some (((0 : Int32), x54.2), σ53))))
  else
  (mo_z (0 : Int32) (some (((0 : Int32), z45), σ50)))
def m_L_asks_j71  (a0 : Nat) (a1 : Nat) (a2 : Nat) (a3 : Nat) (a4 : Nat) (σ23 : ac_H) (z18 : Nat) (v19 : Int32) (v20 : Int32) (w21 : Int32) (w22 : Int32) : Option ((Int32 × Nat) × ac_H) :=
  if w22 = w21 then
  (mo_cv σ23 a1 7 (m_X7_many σ23 a1) fun x25 σ24 =>
  if 0 < x25 then
  (mo_cv σ24 a1 7 (m_X7_many σ24 a1) fun x30 σ29 =>
  mo_cs (m_L_draw σ29 a4 x30) fun x32 σ31 =>
  mo_cv σ31 a1 7 (m_X7_copy σ31 a1 z18) fun x34 σ33 =>
  mo_cv σ33 a1 7 (m_X7_fault σ33 a1 x32) fun x37 σ36 =>
  mo_cv σ36 x34.1 7 (m_X7_take σ36 x34.1 x37) fun _ σ38 =>
  mo_nv σ38 a0 6 (m_X6_matters σ38 a0 x32 v19) fun x40 σ39 =>
  if v20 = 0 then
  (m_L_asks_j143 a0 a1 a2 a3 a4 σ39 x34.2 v19 x32 (0 : Int32) x40)
  else
  (mo_cv σ39 a2 8 (m_X8_go σ39 a2 x34.1) fun x42 σ41 =>
  mo_cv σ41 x42 8 (m_X8_breaks σ41 x42 v19) fun x44 σ43 =>
  if x44 = 0 then
  (m_L_asks_j143 a0 a1 a2 a3 a4 σ43 x34.2 v19 x32 (1 : Int32) x40)
  else
  (m_L_asks_j143 a0 a1 a2 a3 a4 σ43 x34.2 v19 x32 (0 : Int32) x40)))
  else
  (mo_cv σ24 a1 7 (m_X7_copy σ24 a1 z18) fun x27 σ26 =>
  m_L_asks_l180 a0 a1 a2 a3 a4 hN_f σ26 x27.2 v19 x27.1 (-1 : Int32) (1 : Int32)))
  else
  (mo_z (0 : Int32) (some (((0 : Int32), z18), σ23)))
def m_L_asks (σ : ac_H) (a0 : Nat) (a1 : Nat) (a2 : Nat) (a3 : Nat) (a4 : Nat) (q : Nat) : Option ((Int32 × Nat) × ac_H) :=
  mo_cs (m_L_draw σ a4 (4 : Int32)) fun x2 σ1 =>
  mo_cv σ1 a2 8 (m_X8_go σ1 a2 a1) fun x4 σ3 =>
  mo_cv σ3 x4 8 (m_X8_breaks σ3 x4 x2) fun x6 σ5 =>
  mo_cs (m_L_core σ5 a1 a2 x2 q) fun x8 σ7 =>
  mo_nv σ7 a0 6 (m_X6_breaks σ7 a0 x2) fun x11 σ10 =>
  if x11 = x6 then
  (mo_nv σ10 a0 6 (m_X6_core σ10 a0 x2) fun x13 σ12 =>
  if x13 = x8.1 then
  (mo_nv σ12 a0 6 (m_X6_smallest σ12 a0 x2) fun x15 σ14 =>
  if x8.1 < 0 then
  (m_L_asks_j71 a0 a1 a2 a3 a4 σ14 x8.2 x2 x6 (-1 : Int32) x15)
  else
  (mo_cs (m_J6_bitCount_0f7a4 σ14 x8.1) fun x17 σ16 =>
  m_L_asks_j71 a0 a1 a2 a3 a4 σ16 x8.2 x2 x6 x17 x15))
  else
  (mo_z (0 : Int32) (some (((0 : Int32), x8.2), σ12))))
  else
  (mo_z (0 : Int32) (some (((0 : Int32), x8.2), σ10)))
set_option maxRecDepth 100000 in
set_option maxHeartbeats 4000000 in
theorem k_L_asks {Λ : ex_L} {q : Nat} {σ σ' : ac_H} {a0 : Nat} {a1 : Nat} {a2 : Nat} {a3 : Nat} {a4 : Nat} {v : (Int32 × Nat)} (hf : m_L_asks σ a0 a1 a2 a3 a4 q = some (v, σ')) : kx_C Λ yL_asks (.code yL_asks cL_asks 13 (some .boolean)) ({ frames := 8, cells := 350, slots := 26040, locals := 203 } : Room) [.ref a0, .ref a1, .ref a2, .ref a3, .ref a4] q σ (.inr (some (.int v.1))) σ' (fun z => z = v.2) := by
  refine kx_in (by decide +kernel) (Nat.le_of_ble_eq_true rfl) ?_
  intro Γ K hnm hsz hQ
  refine kx_lv (lv' := [(0, .ref a0), (1, .ref a1), (2, .ref a2), (3, .ref a3), (4, .ref a4)]) rfl ?_
  have B231 : ∀ (n231 : Nat) (k0 n0 : Nat) (σ76 : ac_H) (z71 : Nat) (v72 : Int32) (v73 : Int32) (v74 : Int32) (v75 : Int32), k0 + 5 ≤ 350 → n0 + 372 ≤ 26040 → m_L_asks_l231 a0 a1 a2 a3 a4 n231 σ76 z71 v72 v73 v74 v75 = some (v, σ') → kx_S Λ Γ 13 (fun z => z = z71) σ76 (k0) (n0) 231 [(0, .ref a0), (1, .ref a1), (2, .ref a2), (3, .ref a3), (4, .ref a4), (5, .int v72), (9, .int v73), (10, .int v74), (11, .int v75)] [] := by
    intro n231
    induction n231 with
    | zero =>
      intro k0 n0 σ76 z71 v72 v73 v74 v75 hk0 hn0 hf
      rw [m_L_asks_l231] at hf
      cases hf
    | succ n231 ih231 =>
      intro k0 n0 σ76 z71 v72 v73 v74 v75 hk0 hn0 hf
      rw [m_L_asks_l231] at hf
      refine kx_iload K dL_asks_231 8 rfl ?_
      refine kx_sipush (v := 144) K dL_asks_233 (by decide) ?_
      refine kx_icmp_ge K 262 hf dL_asks_236 (by decide) (fun hf => ?_) (fun hf => ?_)
      · refine kx_aload K dL_asks_262 4 rfl ?_
        refine kx_bipush (v := 9) K dL_asks_264 (by decide) ?_
        refine kx_cs2i K c_L_35 ⟨by decide, by decide, rfl, rfl, (show k0 ≤ 350 by omega), (show n0 ≤ 26040 by omega)⟩ (Nat.le_of_ble_eq_true rfl) dL_asks_266 hf (fun _ _ _ h => k_L_draw h) (fun x78 σ77 hf => ?_)
        refine kx_istore K [(11, .int x78), (0, .ref a0), (1, .ref a1), (2, .ref a2), (3, .ref a3), (4, .ref a4), (5, .int v72), (9, .int v73), (10, .int v74)] dL_asks_269 (by decide) rfl ?_
        refine kx_aload K dL_asks_271 5 rfl ?_
        refine kx_bipush (v := 16) K dL_asks_273 (by decide) ?_
        refine kx_cs2i K c_L_35 ⟨by decide, by decide, rfl, rfl, (show k0 ≤ 350 by omega), (show n0 ≤ 26040 by omega)⟩ (Nat.le_of_ble_eq_true rfl) dL_asks_275 hf (fun _ _ _ h => k_L_draw h) (fun x80 σ79 hf => ?_)
        refine kx_istore K [(12, .int x80), (11, .int x78), (0, .ref a0), (1, .ref a1), (2, .ref a2), (3, .ref a3), (4, .ref a4), (5, .int v72), (9, .int v73), (10, .int v74)] dL_asks_278 (by decide) rfl ?_
        refine kx_aload_n K dL_asks_280 rfl 2 rfl ?_
        refine kx_iload K dL_asks_281 7 rfl ?_
        refine kx_nv (ρ := Int32) K [.int v72] (fun x => some (.int x)) c_L_230 ⟨by decide, by decide, rfl, rfl, (show k0 ≤ 350 by omega), (show n0 ≤ 26040 by omega)⟩ rfl rfl (Nat.le_of_ble_eq_true rfl) dL_asks_283 hf (fun _ _ _ h => k_X6_timerFor h) (fun x82 σ81 hf => ?_)
        refine kx_iload K dL_asks_286 8 rfl ?_
        refine kx_icmp_ne K 323 hf dL_asks_288 (by decide) (fun hf => ?_) (fun hf => ?_)
        · refine kx_iconst (v := 0) K dL_asks_323 (by decide) ?_
          exact kx_zretZ K hQ (show k0 ≤ 350 by omega) (show n0 ≤ 26040 by omega) dL_asks_324 hf
        · refine kx_aload_n K dL_asks_291 rfl 2 rfl ?_
          refine kx_bipush (v := 10) K dL_asks_292 (by decide) ?_
          refine kx_nv (ρ := Int32) K [.int (10 : Int32)] (fun x => some (.int x)) c_L_128 ⟨by decide, by decide, rfl, rfl, (show k0 ≤ 350 by omega), (show n0 ≤ 26040 by omega)⟩ rfl rfl (Nat.le_of_ble_eq_true rfl) dL_asks_294 hf (fun _ _ _ h => k_X6_size h) (fun x84 σ83 hf => ?_)
          refine kx_iload K dL_asks_297 9 rfl ?_
          refine kx_icmp_ne K 323 hf dL_asks_299 (by decide) (fun hf => ?_) (fun hf => ?_)
          · refine kx_iconst (v := 0) K dL_asks_323 (by decide) ?_
            exact kx_zretZ K hQ (show k0 ≤ 350 by omega) (show n0 ≤ 26040 by omega) dL_asks_324 hf
          · refine kx_aload_n K dL_asks_302 rfl 2 rfl ?_
            refine kx_iload K dL_asks_303 1 rfl ?_
            refine kx_iload K dL_asks_305 0 rfl ?_
            refine kx_cv2i K c_L_233 ⟨by decide, by decide, rfl, rfl, (show k0 ≤ 350 by omega), (show n0 ≤ 26040 by omega)⟩ (Nat.le_of_ble_eq_true rfl) dL_asks_307 hf (fun _ _ _ h => k_X6_isRecorded h) (fun x86 σ85 hf => ?_)
            refine kx_aload_n K dL_asks_310 rfl 5 rfl ?_
            refine kx_bipush (v := 16) K dL_asks_311 (by decide) ?_
            refine kx_iload K dL_asks_313 1 rfl ?_
            refine kx_imul K dL_asks_315 ?_
            refine kx_iload K dL_asks_316 0 rfl ?_
            refine kx_iadd K dL_asks_318 ?_
            refine kx_az K dL_asks_319 hf (fun x87 hf => ?_)
            refine kx_icmp_eq K 325 hf dL_asks_320 (by decide) (fun hf => ?_) (fun hf => ?_)
            · refine kx_aload K dL_asks_325 6 rfl ?_
              refine kx_iconst (v := 3) K dL_asks_327 (by decide) ?_
              refine kx_cs2i K c_L_35 ⟨by decide, by decide, rfl, rfl, (show k0 ≤ 350 by omega), (show n0 ≤ 26040 by omega)⟩ (Nat.le_of_ble_eq_true rfl) dL_asks_328 hf (fun _ _ _ h => k_L_draw h) (fun x89 σ88 hf => ?_)
              refine kx_if_gt K 345 hf dL_asks_331 (by decide) (fun hf => ?_) (fun hf => ?_)
              · refine kx_iconst (v := 1) K dL_asks_345 (by decide) ?_
                refine kx_goto K 350 dL_asks_346 (by decide) ?_
                exact kx_zretZ K hQ (show k0 ≤ 350 by omega) (show n0 ≤ 26040 by omega) dL_asks_350 hf
              · refine kx_aload_n K dL_asks_334 rfl 2 rfl ?_
                refine kx_aload_n K dL_asks_335 rfl 3 rfl ?_
                refine kx_aload_n K dL_asks_336 rfl 4 rfl ?_
                refine kx_iload K dL_asks_337 7 rfl ?_
                refine kx_as (rmy := { frames := 7, cells := 5, slots := 372, locals := 172 }) (k' := k0 + 5) (n' := n0 + 372) (ρ := Int32 × Nat) K [.ref a0, .ref a1, .ref a2, .int v72] (fun x => some (.int x.1)) (fun x => x.2) c_L_236 ⟨by decide, by decide, by show k0 + 5 = k0 + 5; omega, by show n0 + 372 = n0 + 372; omega, (show k0 + 5 ≤ 350 by omega), (show n0 + 372 ≤ 26040 by omega)⟩ rfl rfl (Nat.le_of_ble_eq_true rfl) dL_asks_339 hf (fun _ _ h => k_L_single h) (fun x91 σ90 hf => ?_)
                refine kx_wd (k' := k0 + 5) (n' := n0 + 372) (by omega) (by omega) ?_
                refine kx_if_eq K 349 hf dL_asks_342 (by decide) (fun hf => ?_) (fun hf => ?_)
                · refine kx_iconst (v := 0) K dL_asks_349 (by decide) ?_
                  exact kx_zretZ K hQ (show k0 + 5 ≤ 350 by omega) (show n0 + 372 ≤ 26040 by omega) dL_asks_350 hf
                · refine kx_iconst (v := 1) K dL_asks_345 (by decide) ?_
                  refine kx_goto K 350 dL_asks_346 (by decide) ?_
                  exact kx_zretZ K hQ (show k0 + 5 ≤ 350 by omega) (show n0 + 372 ≤ 26040 by omega) dL_asks_350 hf
            · refine kx_iconst (v := 0) K dL_asks_323 (by decide) ?_
              exact kx_zretZ K hQ (show k0 ≤ 350 by omega) (show n0 ≤ 26040 by omega) dL_asks_324 hf
      · refine kx_iload K dL_asks_239 7 rfl ?_
        refine kx_aload_n K dL_asks_241 rfl 3 rfl ?_
        refine kx_iload K dL_asks_242 8 rfl ?_
        refine kx_az K dL_asks_244 hf (fun x93 hf => ?_)
        refine kx_if_eq K 252 hf dL_asks_245 (by decide) (fun hf => ?_) (fun hf => ?_)
        · refine kx_iconst (v := 0) K dL_asks_252 (by decide) ?_
          refine kx_iadd K dL_asks_253 ?_
          refine kx_istore K [(10, .int (v74 + (0 : Int32))), (0, .ref a0), (1, .ref a1), (2, .ref a2), (3, .ref a3), (4, .ref a4), (5, .int v72), (9, .int v73), (11, .int v75)] dL_asks_254 (by decide) rfl ?_
          refine kx_iinc (v := (v75 + 1)) K [(11, .int (v75 + 1)), (10, .int (v74 + (0 : Int32))), (0, .ref a0), (1, .ref a1), (2, .ref a2), (3, .ref a3), (4, .ref a4), (5, .int v72), (9, .int v73)] dL_asks_256 8 rfl rfl (by decide) rfl ?_
          refine kx_goto K 231 dL_asks_259 (by decide) ?_
          refine kx_sub [(0, .ref a0), (1, .ref a1), (2, .ref a2), (3, .ref a3), (4, .ref a4), (5, .int v72), (9, .int v73), (10, .int (v74 + (0 : Int32))), (11, .int (v75 + 1))] [2, 3, 4, 5, 6, 7, 8, 1, 0] rfl ?_
          exact ih231 (k0) (n0) _ _ _ _ _ _ (by omega) (by omega) hf
        · refine kx_iconst (v := 1) K dL_asks_248 (by decide) ?_
          refine kx_goto K 253 dL_asks_249 (by decide) ?_
          refine kx_iadd K dL_asks_253 ?_
          refine kx_istore K [(10, .int (v74 + (1 : Int32))), (0, .ref a0), (1, .ref a1), (2, .ref a2), (3, .ref a3), (4, .ref a4), (5, .int v72), (9, .int v73), (11, .int v75)] dL_asks_254 (by decide) rfl ?_
          refine kx_iinc (v := (v75 + 1)) K [(11, .int (v75 + 1)), (10, .int (v74 + (1 : Int32))), (0, .ref a0), (1, .ref a1), (2, .ref a2), (3, .ref a3), (4, .ref a4), (5, .int v72), (9, .int v73)] dL_asks_256 8 rfl rfl (by decide) rfl ?_
          refine kx_goto K 231 dL_asks_259 (by decide) ?_
          refine kx_sub [(0, .ref a0), (1, .ref a1), (2, .ref a2), (3, .ref a3), (4, .ref a4), (5, .int v72), (9, .int v73), (10, .int (v74 + (1 : Int32))), (11, .int (v75 + 1))] [2, 3, 4, 5, 6, 7, 8, 1, 0] rfl ?_
          exact ih231 (k0) (n0) _ _ _ _ _ _ (by omega) (by omega) hf
  have B180 : ∀ (n180 : Nat) (k0 n0 : Nat) (σ64 : ac_H) (z59 : Nat) (v60 : Int32) (v61 : Nat) (v62 : Int32) (v63 : Int32), k0 + 5 ≤ 350 → n0 + 372 ≤ 26040 → m_L_asks_l180 a0 a1 a2 a3 a4 n180 σ64 z59 v60 v61 v62 v63 = some (v, σ') → kx_S Λ Γ 13 (fun z => z = z59) σ64 (k0) (n0) 180 [(0, .ref a0), (1, .ref a1), (2, .ref a2), (3, .ref a3), (4, .ref a4), (5, .int v60), (8, .ref v61), (9, .int v62), (10, .int v63)] [] := by
    intro n180
    induction n180 with
    | zero =>
      intro k0 n0 σ64 z59 v60 v61 v62 v63 hk0 hn0 hf
      rw [m_L_asks_l180] at hf
      cases hf
    | succ n180 ih180 =>
      intro k0 n0 σ64 z59 v60 v61 v62 v63 hk0 hn0 hf
      rw [m_L_asks_l180] at hf
      refine kx_iload K dL_asks_180 8 rfl ?_
      refine kx_bipush (v := 20) K dL_asks_182 (by decide) ?_
      refine kx_icmp_gt K 225 hf dL_asks_184 (by decide) (fun hf => ?_) (fun hf => ?_)
      · refine kx_iconst (v := 0) K dL_asks_225 (by decide) ?_
        refine kx_istore K [(10, .int (0 : Int32)), (0, .ref a0), (1, .ref a1), (2, .ref a2), (3, .ref a3), (4, .ref a4), (5, .int v60), (8, .ref v61), (9, .int v62)] dL_asks_226 (by decide) rfl ?_
        refine kx_iconst (v := 0) K dL_asks_228 (by decide) ?_
        refine kx_istore K [(11, .int (0 : Int32)), (10, .int (0 : Int32)), (0, .ref a0), (1, .ref a1), (2, .ref a2), (3, .ref a3), (4, .ref a4), (5, .int v60), (8, .ref v61), (9, .int v62)] dL_asks_229 (by decide) rfl ?_
        refine kx_sub [(0, .ref a0), (1, .ref a1), (2, .ref a2), (3, .ref a3), (4, .ref a4), (5, .int v60), (9, .int v62), (10, .int (0 : Int32)), (11, .int (0 : Int32))] [2, 3, 4, 5, 6, 7, 9, 1, 0] rfl ?_
        exact B231 hN_f (k0) (n0) _ _ _ _ _ _ (by omega) (by omega) hf
      · refine kx_iload K dL_asks_187 7 rfl ?_
        refine kx_if_ge K 225 hf dL_asks_189 (by decide) (fun hf => ?_) (fun hf => ?_)
        · refine kx_iconst (v := 0) K dL_asks_225 (by decide) ?_
          refine kx_istore K [(10, .int (0 : Int32)), (0, .ref a0), (1, .ref a1), (2, .ref a2), (3, .ref a3), (4, .ref a4), (5, .int v60), (8, .ref v61), (9, .int v62)] dL_asks_226 (by decide) rfl ?_
          refine kx_iconst (v := 0) K dL_asks_228 (by decide) ?_
          refine kx_istore K [(11, .int (0 : Int32)), (10, .int (0 : Int32)), (0, .ref a0), (1, .ref a1), (2, .ref a2), (3, .ref a3), (4, .ref a4), (5, .int v60), (8, .ref v61), (9, .int v62)] dL_asks_229 (by decide) rfl ?_
          refine kx_sub [(0, .ref a0), (1, .ref a1), (2, .ref a2), (3, .ref a3), (4, .ref a4), (5, .int v60), (9, .int v62), (10, .int (0 : Int32)), (11, .int (0 : Int32))] [2, 3, 4, 5, 6, 7, 9, 1, 0] rfl ?_
          exact B231 hN_f (k0) (n0) _ _ _ _ _ _ (by omega) (by omega) hf
        · refine kx_aload K dL_asks_192 6 rfl ?_
          refine kx_grN K fn_L_39 dL_asks_194 hf (fun x65 hf => ?_)
          refine kx_iconst (v := 4) K dL_asks_197 (by decide) ?_
          refine kx_iload K dL_asks_198 8 rfl ?_
          refine kx_ui K dL_asks_200 hf (fun σ66 hf => ?_)
          refine kx_aload_n K dL_asks_201 rfl 2 rfl ?_
          refine kx_aload K dL_asks_202 6 rfl ?_
          refine kx_cv1r K c_L_124 ⟨by decide, by decide, rfl, rfl, (show k0 ≤ 350 by omega), (show n0 ≤ 26040 by omega)⟩ (Nat.le_of_ble_eq_true rfl) dL_asks_204 hf (fun _ _ _ h => k_X8_go h) (fun x68 σ67 hf => ?_)
          refine kx_iload K dL_asks_207 5 rfl ?_
          refine kx_cv1i K c_L_153 ⟨by decide, by decide, rfl, rfl, (show k0 ≤ 350 by omega), (show n0 ≤ 26040 by omega)⟩ (Nat.le_of_ble_eq_true rfl) dL_asks_209 hf (fun _ _ _ h => k_X8_breaks h) (fun x70 σ69 hf => ?_)
          refine kx_if_ne K 219 hf dL_asks_212 (by decide) (fun hf => ?_) (fun hf => ?_)
          · refine kx_iinc (v := (v63 + 1)) K [(10, .int (v63 + 1)), (0, .ref a0), (1, .ref a1), (2, .ref a2), (3, .ref a3), (4, .ref a4), (5, .int v60), (8, .ref v61), (9, .int v62)] dL_asks_219 8 rfl rfl (by decide) rfl ?_
            refine kx_goto K 180 dL_asks_222 (by decide) ?_
            refine kx_sub [(0, .ref a0), (1, .ref a1), (2, .ref a2), (3, .ref a3), (4, .ref a4), (5, .int v60), (8, .ref v61), (9, .int v62), (10, .int (v63 + 1))] [1, 2, 3, 4, 5, 6, 7, 8, 0] rfl ?_
            exact ih180 (k0) (n0) _ _ _ _ _ _ (by omega) (by omega) hf
          · refine kx_iload K dL_asks_215 8 rfl ?_
            refine kx_istore K [(9, .int v63), (0, .ref a0), (1, .ref a1), (2, .ref a2), (3, .ref a3), (4, .ref a4), (5, .int v60), (8, .ref v61), (10, .int v63)] dL_asks_217 (by decide) rfl ?_
            refine kx_iinc (v := (v63 + 1)) K [(10, .int (v63 + 1)), (9, .int v63), (0, .ref a0), (1, .ref a1), (2, .ref a2), (3, .ref a3), (4, .ref a4), (5, .int v60), (8, .ref v61)] dL_asks_219 8 rfl rfl (by decide) rfl ?_
            refine kx_goto K 180 dL_asks_222 (by decide) ?_
            refine kx_sub [(0, .ref a0), (1, .ref a1), (2, .ref a2), (3, .ref a3), (4, .ref a4), (5, .int v60), (8, .ref v61), (9, .int v63), (10, .int (v63 + 1))] [2, 3, 4, 5, 6, 7, 8, 1, 0] rfl ?_
            exact ih180 (k0) (n0) _ _ _ _ _ _ (by omega) (by omega) hf
  have B143 : ∀ (k0 n0 : Nat) (σ50 : ac_H) (z45 : Nat) (v46 : Int32) (v47 : Int32) (w48 : Int32) (w49 : Int32), k0 + 15 ≤ 350 → n0 + 1116 ≤ 26040 → m_L_asks_j143 a0 a1 a2 a3 a4 σ50 z45 v46 v47 w48 w49 = some (v, σ') → kx_S Λ Γ 13 (fun z => z = z45) σ50 (k0) (n0) 143 [(0, .ref a0), (1, .ref a1), (2, .ref a2), (3, .ref a3), (4, .ref a4), (5, .int v46), (8, .int v47)] [.int w48, .int w49] := by
    intro k0 n0 σ50 z45 v46 v47 w48 w49 hk0 hn0 hf
    unfold m_L_asks_j143 at hf
    refine kx_icmp_ne K 166 hf dL_asks_143 (by decide) (fun hf => ?_) (fun hf => ?_)
    · refine kx_iconst (v := 0) K dL_asks_166 (by decide) ?_
      exact kx_zretZ K hQ (show k0 ≤ 350 by omega) (show n0 ≤ 26040 by omega) dL_asks_167 hf
    · refine kx_aload_n K dL_asks_146 rfl 0 rfl ?_
      refine kx_iload K dL_asks_147 6 rfl ?_
      refine kx_iload K dL_asks_149 5 rfl ?_
      refine kx_nv (ρ := Int32) K [.int v47, .int v46] (fun x => some (.int x)) c_L_223 ⟨by decide, by decide, rfl, rfl, (show k0 ≤ 350 by omega), (show n0 ≤ 26040 by omega)⟩ rfl rfl (Nat.le_of_ble_eq_true rfl) dL_asks_151 hf (fun _ _ _ h => k_X6_leastAmount h) (fun x52 σ51 hf => ?_)
      refine kx_aload_n K dL_asks_154 rfl 1 rfl ?_
      refine kx_aload_n K dL_asks_155 rfl 2 rfl ?_
      refine kx_iload K dL_asks_156 6 rfl ?_
      refine kx_iload K dL_asks_158 5 rfl ?_
      refine kx_as (rmy := { frames := 5, cells := 5, slots := 372, locals := 109 }) (k' := k0 + 5) (n' := n0 + 372) (ρ := Int32 × Nat) K [.ref a1, .ref a2, .int v47, .int v46] (fun x => some (.int x.1)) (fun x => x.2) c_L_226 ⟨by decide, by decide, by show k0 + 5 = k0 + 5; omega, by show n0 + 372 = n0 + 372; omega, (show k0 + 5 ≤ 350 by omega), (show n0 + 372 ≤ 26040 by omega)⟩ rfl rfl (Nat.le_of_ble_eq_true rfl) dL_asks_160 hf (fun _ _ h => k_L_least h) (fun x54 σ53 hf => ?_)
      refine kx_wd (k' := k0 + 5) (n' := n0 + 372) (by omega) (by omega) ?_
      refine kx_icmp_eq K 168 hf dL_asks_163 (by decide) (fun hf => ?_) (fun hf => ?_)
      · refine kx_aload_n K dL_asks_168 rfl 1 rfl ?_
        refine kx_av (rmy := { frames := 2, cells := 5, slots := 372, locals := 40 }) (k' := k0 + 10) (n' := n0 + 744) (ρ := Nat × Nat) K [] (fun x => some (.ref x.1)) (fun x => x.2) c_L_190 ⟨by decide, by decide, by show k0 + 5 + 5 = k0 + 10; omega, by show n0 + 372 + 372 = n0 + 744; omega, (show k0 + 10 ≤ 350 by omega), (show n0 + 744 ≤ 26040 by omega)⟩ rfl rfl (Nat.le_of_ble_eq_true rfl) dL_asks_169 hf (fun _ _ h => k_X7_copy h) (fun x57 σ56 hf => ?_)
        refine kx_wd (k' := k0 + 10) (n' := n0 + 744) (by omega) (by omega) ?_
        refine kx_astore K [(8, .ref x57.1), (0, .ref a0), (1, .ref a1), (2, .ref a2), (3, .ref a3), (4, .ref a4), (5, .int v46)] dL_asks_172 (by decide) rfl ?_
        refine kx_iconst (v := -1) K dL_asks_174 (by decide) ?_
        refine kx_istore K [(9, .int (-1 : Int32)), (8, .ref x57.1), (0, .ref a0), (1, .ref a1), (2, .ref a2), (3, .ref a3), (4, .ref a4), (5, .int v46)] dL_asks_175 (by decide) rfl ?_
        refine kx_iconst (v := 1) K dL_asks_177 (by decide) ?_
        refine kx_istore K [(10, .int (1 : Int32)), (9, .int (-1 : Int32)), (8, .ref x57.1), (0, .ref a0), (1, .ref a1), (2, .ref a2), (3, .ref a3), (4, .ref a4), (5, .int v46)] dL_asks_178 (by decide) rfl ?_
        refine kx_sub [(0, .ref a0), (1, .ref a1), (2, .ref a2), (3, .ref a3), (4, .ref a4), (5, .int v46), (8, .ref x57.1), (9, .int (-1 : Int32)), (10, .int (1 : Int32))] [3, 4, 5, 6, 7, 8, 2, 1, 0] rfl ?_
        exact B180 hN_f (k0 + 10) (n0 + 744) _ _ _ _ _ _ (by omega) (by omega) hf
      · refine kx_iconst (v := 0) K dL_asks_166 (by decide) ?_
        exact kx_zretZ K hQ (show k0 + 5 ≤ 350 by omega) (show n0 + 372 ≤ 26040 by omega) dL_asks_167 hf
  have B71 : ∀ (k0 n0 : Nat) (σ23 : ac_H) (z18 : Nat) (v19 : Int32) (v20 : Int32) (w21 : Int32) (w22 : Int32), k0 + 20 ≤ 350 → n0 + 1488 ≤ 26040 → m_L_asks_j71 a0 a1 a2 a3 a4 σ23 z18 v19 v20 w21 w22 = some (v, σ') → kx_S Λ Γ 13 (fun z => z = z18) σ23 (k0) (n0) 71 [(0, .ref a0), (1, .ref a1), (2, .ref a2), (3, .ref a3), (4, .ref a4), (5, .int v19), (6, .int v20)] [.int w21, .int w22] := by
    intro k0 n0 σ23 z18 v19 v20 w21 w22 hk0 hn0 hf
    unfold m_L_asks_j71 at hf
    refine kx_icmp_eq K 76 hf dL_asks_71 (by decide) (fun hf => ?_) (fun hf => ?_)
    · refine kx_aload_n K dL_asks_76 rfl 1 rfl ?_
      refine kx_cv0i K c_L_131 ⟨by decide, by decide, rfl, rfl, (show k0 ≤ 350 by omega), (show n0 ≤ 26040 by omega)⟩ (Nat.le_of_ble_eq_true rfl) dL_asks_77 hf (fun _ _ _ h => k_X7_many h) (fun x25 σ24 hf => ?_)
      refine kx_if_le K 168 hf dL_asks_80 (by decide) (fun hf => ?_) (fun hf => ?_)
      · refine kx_aload_n K dL_asks_168 rfl 1 rfl ?_
        refine kx_av (rmy := { frames := 2, cells := 5, slots := 372, locals := 40 }) (k' := k0 + 5) (n' := n0 + 372) (ρ := Nat × Nat) K [] (fun x => some (.ref x.1)) (fun x => x.2) c_L_190 ⟨by decide, by decide, by show k0 + 5 = k0 + 5; omega, by show n0 + 372 = n0 + 372; omega, (show k0 + 5 ≤ 350 by omega), (show n0 + 372 ≤ 26040 by omega)⟩ rfl rfl (Nat.le_of_ble_eq_true rfl) dL_asks_169 hf (fun _ _ h => k_X7_copy h) (fun x27 σ26 hf => ?_)
        refine kx_wd (k' := k0 + 5) (n' := n0 + 372) (by omega) (by omega) ?_
        refine kx_astore K [(8, .ref x27.1), (0, .ref a0), (1, .ref a1), (2, .ref a2), (3, .ref a3), (4, .ref a4), (5, .int v19), (6, .int v20)] dL_asks_172 (by decide) rfl ?_
        refine kx_iconst (v := -1) K dL_asks_174 (by decide) ?_
        refine kx_istore K [(9, .int (-1 : Int32)), (8, .ref x27.1), (0, .ref a0), (1, .ref a1), (2, .ref a2), (3, .ref a3), (4, .ref a4), (5, .int v19), (6, .int v20)] dL_asks_175 (by decide) rfl ?_
        refine kx_iconst (v := 1) K dL_asks_177 (by decide) ?_
        refine kx_istore K [(10, .int (1 : Int32)), (9, .int (-1 : Int32)), (8, .ref x27.1), (0, .ref a0), (1, .ref a1), (2, .ref a2), (3, .ref a3), (4, .ref a4), (5, .int v19), (6, .int v20)] dL_asks_178 (by decide) rfl ?_
        refine kx_sub [(0, .ref a0), (1, .ref a1), (2, .ref a2), (3, .ref a3), (4, .ref a4), (5, .int v19), (8, .ref x27.1), (9, .int (-1 : Int32)), (10, .int (1 : Int32))] [3, 4, 5, 6, 7, 8, 2, 1, 0] rfl ?_
        exact B180 hN_f (k0 + 5) (n0 + 372) _ _ _ _ _ _ (by omega) (by omega) hf
      · refine kx_aload K dL_asks_83 4 rfl ?_
        refine kx_aload_n K dL_asks_85 rfl 1 rfl ?_
        refine kx_cv0i K c_L_131 ⟨by decide, by decide, rfl, rfl, (show k0 ≤ 350 by omega), (show n0 ≤ 26040 by omega)⟩ (Nat.le_of_ble_eq_true rfl) dL_asks_86 hf (fun _ _ _ h => k_X7_many h) (fun x30 σ29 hf => ?_)
        refine kx_cs2i K c_L_35 ⟨by decide, by decide, rfl, rfl, (show k0 ≤ 350 by omega), (show n0 ≤ 26040 by omega)⟩ (Nat.le_of_ble_eq_true rfl) dL_asks_89 hf (fun _ _ _ h => k_L_draw h) (fun x32 σ31 hf => ?_)
        refine kx_istore K [(8, .int x32), (0, .ref a0), (1, .ref a1), (2, .ref a2), (3, .ref a3), (4, .ref a4), (5, .int v19), (6, .int v20)] dL_asks_92 (by decide) rfl ?_
        refine kx_aload_n K dL_asks_94 rfl 2 rfl ?_
        refine kx_av (rmy := { frames := 2, cells := 5, slots := 372, locals := 40 }) (k' := k0 + 5) (n' := n0 + 372) (ρ := Nat × Nat) K [] (fun x => some (.ref x.1)) (fun x => x.2) c_L_190 ⟨by decide, by decide, by show k0 + 5 = k0 + 5; omega, by show n0 + 372 = n0 + 372; omega, (show k0 + 5 ≤ 350 by omega), (show n0 + 372 ≤ 26040 by omega)⟩ rfl rfl (Nat.le_of_ble_eq_true rfl) dL_asks_95 hf (fun _ _ h => k_X7_copy h) (fun x34 σ33 hf => ?_)
        refine kx_wd (k' := k0 + 5) (n' := n0 + 372) (by omega) (by omega) ?_
        refine kx_astore K [(9, .ref x34.1), (8, .int x32), (0, .ref a0), (1, .ref a1), (2, .ref a2), (3, .ref a3), (4, .ref a4), (5, .int v19), (6, .int v20)] dL_asks_98 (by decide) rfl ?_
        refine kx_aload K dL_asks_100 0 rfl ?_
        refine kx_aload_n K dL_asks_102 rfl 3 rfl ?_
        refine kx_iload K dL_asks_103 1 rfl ?_
        refine kx_cv1i K c_L_134 ⟨by decide, by decide, rfl, rfl, (show k0 + 5 ≤ 350 by omega), (show n0 + 372 ≤ 26040 by omega)⟩ (Nat.le_of_ble_eq_true rfl) dL_asks_105 hf (fun _ _ _ h => k_X7_fault h) (fun x37 σ36 hf => ?_)
        refine kx_cv1v K c_L_216 ⟨by decide, by decide, rfl, rfl, (show k0 + 5 ≤ 350 by omega), (show n0 + 372 ≤ 26040 by omega)⟩ (Nat.le_of_ble_eq_true rfl) dL_asks_108 hf (fun _ _ _ h => k_X7_take h) (fun _ σ38 hf => ?_)
        refine kx_aload_n K dL_asks_111 rfl 2 rfl ?_
        refine kx_iload K dL_asks_112 1 rfl ?_
        refine kx_iload K dL_asks_114 7 rfl ?_
        refine kx_nv (ρ := Int32) K [.int x32, .int v19] (fun x => some (.int x)) c_L_220 ⟨by decide, by decide, rfl, rfl, (show k0 + 5 ≤ 350 by omega), (show n0 + 372 ≤ 26040 by omega)⟩ rfl rfl (Nat.le_of_ble_eq_true rfl) dL_asks_116 hf (fun _ _ _ h => k_X6_matters h) (fun x40 σ39 hf => ?_)
        refine kx_iload K dL_asks_119 8 rfl ?_
        refine kx_if_eq K 142 hf dL_asks_121 (by decide) (fun hf => ?_) (fun hf => ?_)
        · refine kx_iconst (v := 0) K dL_asks_142 (by decide) ?_
          refine kx_sub [(0, .ref a0), (1, .ref a1), (2, .ref a2), (3, .ref a3), (4, .ref a4), (5, .int v19), (8, .int x32)] [2, 3, 4, 5, 6, 7, 1] rfl ?_
          exact B143 (k0 + 5) (n0 + 372) _ _ _ _ _ _ (by omega) (by omega) hf
        · refine kx_aload_n K dL_asks_124 rfl 4 rfl ?_
          refine kx_aload K dL_asks_125 0 rfl ?_
          refine kx_cv1r K c_L_124 ⟨by decide, by decide, rfl, rfl, (show k0 + 5 ≤ 350 by omega), (show n0 + 372 ≤ 26040 by omega)⟩ (Nat.le_of_ble_eq_true rfl) dL_asks_127 hf (fun _ _ _ h => k_X8_go h) (fun x42 σ41 hf => ?_)
          refine kx_iload K dL_asks_130 7 rfl ?_
          refine kx_cv1i K c_L_153 ⟨by decide, by decide, rfl, rfl, (show k0 + 5 ≤ 350 by omega), (show n0 + 372 ≤ 26040 by omega)⟩ (Nat.le_of_ble_eq_true rfl) dL_asks_132 hf (fun _ _ _ h => k_X8_breaks h) (fun x44 σ43 hf => ?_)
          refine kx_if_ne K 142 hf dL_asks_135 (by decide) (fun hf => ?_) (fun hf => ?_)
          · refine kx_iconst (v := 0) K dL_asks_142 (by decide) ?_
            refine kx_sub [(0, .ref a0), (1, .ref a1), (2, .ref a2), (3, .ref a3), (4, .ref a4), (5, .int v19), (8, .int x32)] [2, 3, 4, 5, 6, 7, 1] rfl ?_
            exact B143 (k0 + 5) (n0 + 372) _ _ _ _ _ _ (by omega) (by omega) hf
          · refine kx_iconst (v := 1) K dL_asks_138 (by decide) ?_
            refine kx_goto K 143 dL_asks_139 (by decide) ?_
            refine kx_sub [(0, .ref a0), (1, .ref a1), (2, .ref a2), (3, .ref a3), (4, .ref a4), (5, .int v19), (8, .int x32)] [2, 3, 4, 5, 6, 7, 1] rfl ?_
            exact B143 (k0 + 5) (n0 + 372) _ _ _ _ _ _ (by omega) (by omega) hf
    · refine kx_iconst (v := 0) K dL_asks_74 (by decide) ?_
      exact kx_zretZ K hQ (show k0 ≤ 350 by omega) (show n0 ≤ 26040 by omega) dL_asks_75 hf
  unfold m_L_asks at hf
  refine kx_aload K dL_asks_0 4 rfl ?_
  refine kx_iconst (v := 4) K dL_asks_2 (by decide) ?_
  refine kx_cs2i K c_L_35 ⟨by decide, by decide, rfl, rfl, (by decide), (by decide)⟩ (Nat.le_of_ble_eq_true rfl) dL_asks_3 hf (fun _ _ _ h => k_L_draw h) (fun x2 σ1 hf => ?_)
  refine kx_istore K [(5, .int x2), (0, .ref a0), (1, .ref a1), (2, .ref a2), (3, .ref a3), (4, .ref a4)] dL_asks_6 (by decide) rfl ?_
  refine kx_aload_n K dL_asks_8 rfl 3 rfl ?_
  refine kx_aload_n K dL_asks_9 rfl 2 rfl ?_
  refine kx_cv1r K c_L_124 ⟨by decide, by decide, rfl, rfl, (by decide), (by decide)⟩ (Nat.le_of_ble_eq_true rfl) dL_asks_10 hf (fun _ _ _ h => k_X8_go h) (fun x4 σ3 hf => ?_)
  refine kx_iload K dL_asks_13 0 rfl ?_
  refine kx_cv1i K c_L_153 ⟨by decide, by decide, rfl, rfl, (by decide), (by decide)⟩ (Nat.le_of_ble_eq_true rfl) dL_asks_15 hf (fun _ _ _ h => k_X8_breaks h) (fun x6 σ5 hf => ?_)
  refine kx_istore K [(6, .int x6), (5, .int x2), (0, .ref a0), (1, .ref a1), (2, .ref a2), (3, .ref a3), (4, .ref a4)] dL_asks_18 (by decide) rfl ?_
  refine kx_aload_n K dL_asks_20 rfl 3 rfl ?_
  refine kx_aload_n K dL_asks_21 rfl 4 rfl ?_
  refine kx_iload K dL_asks_22 1 rfl ?_
  refine kx_as (rmy := { frames := 5, cells := 330, slots := 24552, locals := 109 }) (k' := 330) (n' := 24552) (ρ := Int32 × Nat) K [.ref a1, .ref a2, .int x2] (fun x => some (.int x.1)) (fun x => x.2) c_L_206 ⟨by decide, by decide, by show 0 + 330 = 330; omega, by show 0 + 24552 = 24552; omega, (by decide), (by decide)⟩ rfl rfl (Nat.le_of_ble_eq_true rfl) dL_asks_24 hf (fun _ _ h => k_L_core h) (fun x8 σ7 hf => ?_)
  refine kx_istore K [(7, .int x8.1), (6, .int x6), (5, .int x2), (0, .ref a0), (1, .ref a1), (2, .ref a2), (3, .ref a3), (4, .ref a4)] dL_asks_27 (by decide) rfl ?_
  refine kx_aload_n K dL_asks_29 rfl 3 rfl ?_
  refine kx_iload K dL_asks_30 2 rfl ?_
  refine kx_nv (ρ := Int32) K [.int x2] (fun x => some (.int x)) c_L_210 ⟨by decide, by decide, rfl, rfl, (by decide), (by decide)⟩ rfl rfl (Nat.le_of_ble_eq_true rfl) dL_asks_32 hf (fun _ _ _ h => k_X6_breaks h) (fun x11 σ10 hf => ?_)
  refine kx_iload K dL_asks_35 1 rfl ?_
  refine kx_icmp_ne K 74 hf dL_asks_37 (by decide) (fun hf => ?_) (fun hf => ?_)
  · refine kx_iconst (v := 0) K dL_asks_74 (by decide) ?_
    exact kx_zretZ K hQ (by decide) (by decide) dL_asks_75 hf
  · refine kx_aload_n K dL_asks_40 rfl 3 rfl ?_
    refine kx_iload K dL_asks_41 2 rfl ?_
    refine kx_nv (ρ := Int32) K [.int x2] (fun x => some (.int x)) c_L_211 ⟨by decide, by decide, rfl, rfl, (by decide), (by decide)⟩ rfl rfl (Nat.le_of_ble_eq_true rfl) dL_asks_43 hf (fun _ _ _ h => k_X6_core h) (fun x13 σ12 hf => ?_)
    refine kx_iload K dL_asks_46 0 rfl ?_
    refine kx_icmp_ne K 74 hf dL_asks_48 (by decide) (fun hf => ?_) (fun hf => ?_)
    · refine kx_iconst (v := 0) K dL_asks_74 (by decide) ?_
      exact kx_zretZ K hQ (by decide) (by decide) dL_asks_75 hf
    · refine kx_aload_n K dL_asks_51 rfl 3 rfl ?_
      refine kx_iload K dL_asks_52 2 rfl ?_
      refine kx_nv (ρ := Int32) K [.int x2] (fun x => some (.int x)) c_L_213 ⟨by decide, by decide, rfl, rfl, (by decide), (by decide)⟩ rfl rfl (Nat.le_of_ble_eq_true rfl) dL_asks_54 hf (fun _ _ _ h => k_X6_smallest h) (fun x15 σ14 hf => ?_)
      refine kx_iload K dL_asks_57 0 rfl ?_
      refine kx_if_ge K 66 hf dL_asks_59 (by decide) (fun hf => ?_) (fun hf => ?_)
      · refine kx_iload K dL_asks_66 0 rfl ?_
        refine kx_cs1i K c_L_194 ⟨by decide, by decide, rfl, rfl, (by decide), (by decide)⟩ (Nat.le_of_ble_eq_true rfl) dL_asks_68 hf (fun _ _ _ h => k_J6_bitCount_0f7a4 h) (fun x17 σ16 hf => ?_)
        refine kx_sub [(0, .ref a0), (1, .ref a1), (2, .ref a2), (3, .ref a3), (4, .ref a4), (5, .int x2), (6, .int x6)] [3, 4, 5, 6, 7, 2, 1] rfl ?_
        exact B71 (330) (24552) _ _ _ _ _ _ (by omega) (by omega) hf
      · refine kx_iconst (v := -1) K dL_asks_62 (by decide) ?_
        refine kx_goto K 71 dL_asks_63 (by decide) ?_
        refine kx_sub [(0, .ref a0), (1, .ref a1), (2, .ref a2), (3, .ref a3), (4, .ref a4), (5, .int x2), (6, .int x6)] [3, 4, 5, 6, 7, 2, 1] rfl ?_
        exact B71 (330) (24552) _ _ _ _ _ _ (by omega) (by omega) hf
def m_L_plays_l57  (a0 : Nat) (a1 : Nat) : Nat → ac_H → Nat → Nat → Nat → Nat → Int32 → Option ((Int32 × Nat) × ac_H)
  | 0, _, _, _, _, _, _ => none
  | n + 1, σ25, z20, v21, v22, v23, v24 =>
    if v24 < (7 : Int32) then
    (mo_cs (m_L_changes σ25 a0 v21 v23 v22 a1 z20) fun x27 σ26 =>
    if x27.1 = 0 then
    (mo_z (0 : Int32) (some (((0 : Int32), x27.2), σ26)))
    else
    (mo_cs (m_L_run σ26 a0 v21 v23 a1 x27.2) fun x30 σ29 =>
    if x30.1 = 0 then
    (mo_z (0 : Int32) (some (((0 : Int32), x30.2), σ29)))
    else
    (mo_cs (m_L_asks σ29 a0 v21 v23 v22 a1 x30.2) fun x33 σ32 =>
    if x33.1 = 0 then
    (mo_z (0 : Int32) (some (((0 : Int32), x33.2), σ32)))
    else
    (m_L_plays_l57 a0 a1 n σ32 x33.2 v21 v22 v23 (v24 + 1)))))
    else
    (mo_z (1 : Int32) (some (((1 : Int32), z20), σ25)))
def m_L_plays (σ : ac_H) (a0 : Nat) (a1 : Nat) (q : Nat) : Option ((Int32 × Nat) × ac_H) :=
  mo_cs (m_J4_init_da8c8 (ac_up σ q (.inr (10, [.null, .int 0, .int 0, .int 0]))) q (q + 1)) fun z3 σ2 =>
  mo_cs (m_L_bench σ2 q a1 z3) fun x5 σ4 =>
  mo_cs (m_X8_init (ac_up (ac_up σ4 x5.2 (.inl (2, kx_ar 2 144))) (x5.2 + 1) (.inr (8, [.null, .null, .null, .null, .null, .null, .null, .null, .null, .int 0, .int 0, .int 0, .int 0, .int 0, .int 0, .int 0, .int 0, .int 0]))) (x5.2 + 1) ((x5.2 + 1) + 1)) fun z9 σ8 =>
  mo_cv σ8 q 10 (m_J4_toString_0e30d σ8 q z9) fun x11 σ10 =>
  mo_cs (m_L_feeds σ10 a0 x11.1 x11.2) fun x14 σ13 =>
  if x14.1 = 0 then
  (mo_z (0 : Int32) (some (((0 : Int32), x14.2), σ13)))
  else
  (mo_cv σ13 q 10 (m_J4_length_8abf5 σ13 q) fun x17 σ16 =>
  mo_nv σ16 a0 6 (m_X6_parse σ16 a0 x17) fun x19 σ18 =>
  if x19 = 0 then
  (m_L_plays_l57 a0 a1 9 σ18 x14.2 x5.1 x5.2 (x5.2 + 1) (0 : Int32))
  else
  (mo_z (0 : Int32) (some (((0 : Int32), x14.2), σ18))))
set_option maxRecDepth 100000 in
set_option maxHeartbeats 4000000 in
theorem k_L_plays {Λ : ex_L} {q : Nat} {σ σ' : ac_H} {a0 : Nat} {a1 : Nat} {v : (Int32 × Nat)} (hf : m_L_plays σ a0 a1 q = some (v, σ')) : kx_C Λ yL_plays (.code yL_plays cL_plays 7 (some .boolean)) ({ frames := 10, cells := 6671, slots := 519626, locals := 235 } : Room) [.ref a0, .ref a1] q σ (.inr (some (.int v.1))) σ' (fun z => z = v.2) := by
  refine kx_in (by decide +kernel) (Nat.le_of_ble_eq_true rfl) ?_
  intro Γ K hnm hsz hQ
  refine kx_lv (lv' := [(0, .ref a0), (1, .ref a1)]) rfl ?_
  have B57 : ∀ (n57 : Nat) (k0 n0 : Nat) (σ25 : ac_H) (z20 : Nat) (v21 : Nat) (v22 : Nat) (v23 : Nat) (v24 : Int32), k0 + 726 * n57 ≤ 6671 → n0 + 53948 * n57 ≤ 519626 → m_L_plays_l57 a0 a1 n57 σ25 z20 v21 v22 v23 v24 = some (v, σ') → kx_S Λ Γ 7 (fun z => z = z20) σ25 (k0) (n0) 57 [(0, .ref a0), (1, .ref a1), (3, .ref v21), (4, .ref v22), (5, .ref v23), (6, .int v24)] [] := by
    intro n57
    induction n57 with
    | zero =>
      intro k0 n0 σ25 z20 v21 v22 v23 v24 hk0 hn0 hf
      rw [m_L_plays_l57] at hf
      cases hf
    | succ n57 ih57 =>
      intro k0 n0 σ25 z20 v21 v22 v23 v24 hk0 hn0 hf
      rw [m_L_plays_l57] at hf
      have hn1 := Nat.le_trans (Nat.add_le_add_left (Nat.le_mul_of_pos_right _ (Nat.succ_pos _)) _) hn0
      refine kx_iload K dL_plays_57 5 rfl ?_
      refine kx_bipush (v := 7) K dL_plays_59 (by decide) ?_
      refine kx_icmp_ge K 109 hf dL_plays_61 (by decide) (fun hf => ?_) (fun hf => ?_)
      · refine kx_iconst (v := 1) K dL_plays_109 (by decide) ?_
        exact kx_zretZ K hQ (show k0 ≤ 6671 by omega) (show n0 ≤ 519626 by omega) dL_plays_110 hf
      · refine kx_aload_n K dL_plays_64 rfl 0 rfl ?_
        refine kx_aload_n K dL_plays_65 rfl 2 rfl ?_
        refine kx_aload K dL_plays_66 4 rfl ?_
        refine kx_aload K dL_plays_68 3 rfl ?_
        refine kx_aload_n K dL_plays_70 rfl 1 rfl ?_
        refine kx_as (rmy := { frames := 7, cells := 375, slots := 27900, locals := 174 }) (k' := k0 + 375) (n' := n0 + 27900) (ρ := Int32 × Nat) K [.ref a0, .ref v21, .ref v23, .ref v22, .ref a1] (fun x => some (.int x.1)) (fun x => x.2) c_L_113 ⟨by decide, by decide, by show k0 + 375 = k0 + 375; omega, by show n0 + 27900 = n0 + 27900; omega, (show k0 + 375 ≤ 6671 by omega), (show n0 + 27900 ≤ 519626 by omega)⟩ rfl rfl (Nat.le_of_ble_eq_true rfl) dL_plays_71 hf (fun _ _ h => k_L_changes h) (fun x27 σ26 hf => ?_)
        refine kx_wd (k' := k0 + 375) (n' := n0 + 27900) (by omega) (by omega) ?_
        refine kx_if_eq K 101 hf dL_plays_74 (by decide) (fun hf => ?_) (fun hf => ?_)
        · refine kx_iconst (v := 0) K dL_plays_101 (by decide) ?_
          exact kx_zretZ K hQ (show k0 + 375 ≤ 6671 by omega) (show n0 + 27900 ≤ 519626 by omega) dL_plays_102 hf
        · refine kx_aload_n K dL_plays_77 rfl 0 rfl ?_
          refine kx_aload_n K dL_plays_78 rfl 2 rfl ?_
          refine kx_aload K dL_plays_79 4 rfl ?_
          refine kx_aload_n K dL_plays_81 rfl 1 rfl ?_
          refine kx_as (rmy := { frames := 5, cells := 1, slots := 8, locals := 123 }) (k' := k0 + 376) (n' := n0 + 27908) (ρ := Int32 × Nat) K [.ref a0, .ref v21, .ref v23, .ref a1] (fun x => some (.int x.1)) (fun x => x.2) c_L_117 ⟨by decide, by decide, by show k0 + 375 + 1 = k0 + 376; omega, by show n0 + 27900 + 8 = n0 + 27908; omega, (show k0 + 376 ≤ 6671 by omega), (show n0 + 27908 ≤ 519626 by omega)⟩ rfl rfl (Nat.le_of_ble_eq_true rfl) dL_plays_82 hf (fun _ _ h => k_L_run h) (fun x30 σ29 hf => ?_)
          refine kx_wd (k' := k0 + 376) (n' := n0 + 27908) (by omega) (by omega) ?_
          refine kx_if_eq K 101 hf dL_plays_85 (by decide) (fun hf => ?_) (fun hf => ?_)
          · refine kx_iconst (v := 0) K dL_plays_101 (by decide) ?_
            exact kx_zretZ K hQ (show k0 + 376 ≤ 6671 by omega) (show n0 + 27908 ≤ 519626 by omega) dL_plays_102 hf
          · refine kx_aload_n K dL_plays_88 rfl 0 rfl ?_
            refine kx_aload_n K dL_plays_89 rfl 2 rfl ?_
            refine kx_aload K dL_plays_90 4 rfl ?_
            refine kx_aload K dL_plays_92 3 rfl ?_
            refine kx_aload_n K dL_plays_94 rfl 1 rfl ?_
            refine kx_as (rmy := { frames := 8, cells := 350, slots := 26040, locals := 203 }) (k' := k0 + 726) (n' := n0 + 53948) (ρ := Int32 × Nat) K [.ref a0, .ref v21, .ref v23, .ref v22, .ref a1] (fun x => some (.int x.1)) (fun x => x.2) c_L_121 ⟨by decide, by decide, by show k0 + 376 + 350 = k0 + 726; omega, by show n0 + 27908 + 26040 = n0 + 53948; omega, (show k0 + 726 ≤ 6671 by omega), (show n0 + 53948 ≤ 519626 by first | exact hn1 | omega)⟩ rfl rfl (Nat.le_of_ble_eq_true rfl) dL_plays_95 hf (fun _ _ h => k_L_asks h) (fun x33 σ32 hf => ?_)
            refine kx_wd (k' := k0 + 726) (n' := n0 + 53948) (Nat.le_refl _) (Nat.le_refl _) ?_
            refine kx_if_ne K 103 hf dL_plays_98 (by decide) (fun hf => ?_) (fun hf => ?_)
            · refine kx_iinc (v := (v24 + 1)) K [(6, .int (v24 + 1)), (0, .ref a0), (1, .ref a1), (3, .ref v21), (4, .ref v22), (5, .ref v23)] dL_plays_103 5 rfl rfl (by decide) rfl ?_
              refine kx_goto K 57 dL_plays_106 (by decide) ?_
              refine kx_sub [(0, .ref a0), (1, .ref a1), (3, .ref v21), (4, .ref v22), (5, .ref v23), (6, .int (v24 + 1))] [1, 2, 3, 4, 5, 0] rfl ?_
              exact ih57 (k0 + 726) (n0 + 53948) _ _ _ _ _ _ (by omega) (by omega) hf
            · refine kx_iconst (v := 0) K dL_plays_101 (by decide) ?_
              exact kx_zretZ K hQ (show k0 + 726 ≤ 6671 by omega) (show n0 + 53948 ≤ 519626 by first | exact hn1 | omega) dL_plays_102 hf
  unfold m_L_plays at hf
  refine kx_new K n_L_52 (by decide) (by decide) dL_plays_0 ?_
  refine kx_dup K dL_plays_3 rfl ?_
  refine kx_ci (rmy := { frames := 2, cells := 1, slots := 300, locals := 41 }) (k' := 2) (n' := 304) (As := []) K c_L_92 ⟨by decide, by decide, by show 1 + 1 = 2; omega, by show 4 + 300 = 304; omega, (by decide), (by decide)⟩ rfl rfl (Nat.le_of_ble_eq_true rfl) dL_plays_4 hf (fun _ _ h => k_J4_init_da8c8 h) (fun z3 σ2 hf => ?_)
  refine kx_astore_n K [(2, .ref q), (0, .ref a0), (1, .ref a1)] dL_plays_7 rfl (by decide) rfl ?_
  refine kx_aload_n K dL_plays_8 rfl 0 rfl ?_
  refine kx_aload_n K dL_plays_9 rfl 2 rfl ?_
  refine kx_as (rmy := { frames := 6, cells := 111, slots := 31880, locals := 135 }) (k' := 113) (n' := 32184) (ρ := Nat × Nat) K [.ref q, .ref a1] (fun x => some (.ref x.1)) (fun x => x.2) c_L_93 ⟨by decide, by decide, by show 2 + 111 = 113; omega, by show 304 + 31880 = 32184; omega, (by decide), (by decide)⟩ rfl rfl (Nat.le_of_ble_eq_true rfl) dL_plays_10 hf (fun _ _ h => k_L_bench h) (fun x5 σ4 hf => ?_)
  refine kx_astore_n K [(3, .ref x5.1), (2, .ref q), (0, .ref a0), (1, .ref a1)] dL_plays_13 rfl (by decide) rfl ?_
  refine kx_sipush (v := 144) K dL_plays_14 (by decide) ?_
  refine kx_newa (kd := 2) (M := 144) (at9 := .boolean) K (by decide) rfl w_26 (by decide) (by decide) (by decide) (by decide) dL_plays_17 ?_
  refine kx_astore K [(4, .ref x5.2), (3, .ref x5.1), (2, .ref q), (0, .ref a0), (1, .ref a1)] dL_plays_19 (by decide) rfl ?_
  refine kx_new K n_L_97 (by decide) (by decide) dL_plays_21 ?_
  refine kx_dup K dL_plays_24 rfl ?_
  refine kx_cin (rmy := { frames := 1, cells := 8, slots := 1384, locals := 20 }) (k' := 123) (n' := 33730) K [] c_L_99 ⟨by decide, by decide, by show 115 + 8 = 123; omega, by show 32346 + 1384 = 33730; omega, (by decide), (by decide)⟩ rfl rfl (Nat.le_of_ble_eq_true rfl) dL_plays_25 hf (fun _ _ h => k_X8_init h) (fun z9 σ8 hf => ?_)
  refine kx_astore K [(5, .ref (x5.2 + 1)), (4, .ref x5.2), (3, .ref x5.1), (2, .ref q), (0, .ref a0), (1, .ref a1)] dL_plays_28 (by decide) rfl ?_
  refine kx_aload_n K dL_plays_30 rfl 4 rfl ?_
  refine kx_aload_n K dL_plays_31 rfl 3 rfl ?_
  refine kx_av (rmy := { frames := 5, cells := 2, slots := 304, locals := 131 }) (k' := 125) (n' := 34034) (ρ := Nat × Nat) K [] (fun x => some (.ref x.1)) (fun x => x.2) c_L_100 ⟨by decide, by decide, by show 123 + 2 = 125; omega, by show 33730 + 304 = 34034; omega, (by decide), (by decide)⟩ rfl rfl (Nat.le_of_ble_eq_true rfl) dL_plays_32 hf (fun _ _ h => k_J4_toString_0e30d h) (fun x11 σ10 hf => ?_)
  refine kx_as (rmy := { frames := 4, cells := 12, slots := 60, locals := 86 }) (k' := 137) (n' := 34094) (ρ := Int32 × Nat) K [.ref a0, .ref x11.1] (fun x => some (.int x.1)) (fun x => x.2) c_L_104 ⟨by decide, by decide, by show 125 + 12 = 137; omega, by show 34034 + 60 = 34094; omega, (by decide), (by decide)⟩ rfl rfl (Nat.le_of_ble_eq_true rfl) dL_plays_35 hf (fun _ _ h => k_L_feeds h) (fun x14 σ13 hf => ?_)
  refine kx_if_eq K 52 hf dL_plays_38 (by decide) (fun hf => ?_) (fun hf => ?_)
  · refine kx_iconst (v := 0) K dL_plays_52 (by decide) ?_
    exact kx_zretZ K hQ (by decide) (by decide) dL_plays_53 hf
  · refine kx_aload_n K dL_plays_41 rfl 4 rfl ?_
    refine kx_aload_n K dL_plays_42 rfl 3 rfl ?_
    refine kx_cv0i K c_L_108 ⟨by decide, by decide, rfl, rfl, (by decide), (by decide)⟩ (Nat.le_of_ble_eq_true rfl) dL_plays_43 hf (fun _ _ _ h => k_J4_length_8abf5 h) (fun x17 σ16 hf => ?_)
    refine kx_nv (ρ := Int32) K [.int x17] (fun x => some (.int x)) c_L_109 ⟨by decide, by decide, rfl, rfl, (by decide), (by decide)⟩ rfl rfl (Nat.le_of_ble_eq_true rfl) dL_plays_46 hf (fun _ _ _ h => k_X6_parse h) (fun x19 σ18 hf => ?_)
    refine kx_if_eq K 54 hf dL_plays_49 (by decide) (fun hf => ?_) (fun hf => ?_)
    · refine kx_iconst (v := 0) K dL_plays_54 (by decide) ?_
      refine kx_istore K [(6, .int (0 : Int32)), (5, .ref (x5.2 + 1)), (4, .ref x5.2), (3, .ref x5.1), (2, .ref q), (0, .ref a0), (1, .ref a1)] dL_plays_55 (by decide) rfl ?_
      refine kx_sub [(0, .ref a0), (1, .ref a1), (3, .ref x5.1), (4, .ref x5.2), (5, .ref (x5.2 + 1)), (6, .int (0 : Int32))] [5, 6, 3, 2, 1, 0] rfl ?_
      exact B57 9 (137) (34094) _ _ _ _ _ _ (by omega) (by omega) hf
    · refine kx_iconst (v := 0) K dL_plays_52 (by decide) ?_
      exact kx_zretZ K hQ (by decide) (by decide) dL_plays_53 hf
def m_L_law_l13  (xs : Nat → Int32) (L : Nat) : Nat → ac_H → Nat → Nat → Int32 → Int32 → Option (Unit × ac_H)
  | 0, _, _, _, _, _ => none
  | n + 1, σ9, z5, v6, v7, v8 =>
    if v8 < v7 then
    (if v8 < (3 : Int32) then
    (mo_s xs L v8 fun x10 =>
    mo_ui (ac_up σ9 z5 (.inl (0, kx_ar 0 1))) z5 0 (0 : Int32) x10 fun σ11 =>
    mo_cs (m_L_plays σ11 v6 z5 (z5 + 1)) fun x13 σ12 =>
    if x13.1 = 0 then
    (none)
    else
    (m_L_law_l13 xs L n σ12 x13.2 v6 v7 (v8 + 1)))
    else
    (some ((), σ9)))
    else
    (some ((), σ9))
def m_L_law (σ : ac_H) (xs : Nat → Int32) (L : Nat) (q : Nat) : Option (Unit × ac_H) :=
  mo_cs (m_X6_init (ac_up σ q (.inr (6, [.null, .null, .null, .null, .null, .int 0, .null, .null]))) q (q + 1)) fun z3 σ2 =>
  m_L_law_l13 xs L 5 σ2 z3 q (Int32.ofNat L) (0 : Int32)
set_option maxRecDepth 100000 in
set_option maxHeartbeats 8000000 in
theorem k_L_law {Λ : ex_L} {Γ : kx_T} {q b L : Nat} {xs : Nat → Int32} {σ σ' : ac_H} {v : Unit} {tb : List ExceptionTableEntry} (K : kx_K Λ Γ RL cL_law 4 (some .boolean) room_1 tb) (hX : kx_X Λ Γ b L xs) (hZ : ∀ (σ1 : ac_H) (N : Nat → Prop) (pc k n : Nat) (lv : List (Nat × Value)), decode cL_law pc = .ok (.ireturn, 1) → k ≤ 600086 → n ≤ 7301442 → kx_S Λ Γ 4 N σ1 k n pc lv [.int 1]) (hf : m_L_law σ xs L q = some (v, σ')) : kx_S Λ Γ 4 (fun z => z = q) σ 0 0 0 [(0, .ref b)] [] := by
  have B13 : ∀ (n13 : Nat) (k0 n0 : Nat) (σ9 : ac_H) (z5 : Nat) (v6 : Nat) (v7 : Int32) (v8 : Int32), k0 + 6672 * n13 ≤ 600086 → n0 + 519627 * n13 ≤ 7301442 → m_L_law_l13 xs L n13 σ9 z5 v6 v7 v8 = some (v, σ') → kx_S Λ Γ 4 (fun z => z = z5) σ9 (k0) (n0) 13 [(0, .ref b), (1, .ref v6), (2, .int v7), (3, .int v8)] [] := by
    intro n13
    induction n13 with
    | zero =>
      intro k0 n0 σ9 z5 v6 v7 v8 hk0 hn0 hf
      rw [m_L_law_l13] at hf
      cases hf
    | succ n13 ih13 =>
      intro k0 n0 σ9 z5 v6 v7 v8 hk0 hn0 hf
      rw [m_L_law_l13] at hf
      have hn1 := Nat.le_trans (Nat.add_le_add_left (Nat.le_mul_of_pos_right _ (Nat.succ_pos _)) _) hn0
      refine kx_iload_n K dL_law_13 rfl 3 rfl ?_
      refine kx_iload_n K dL_law_14 rfl 2 rfl ?_
      refine kx_icmp_ge K 47 hf dL_law_15 (by decide) (fun hf => ?_) (fun hf => ?_)
      · refine kx_iconst (v := 1) K dL_law_47 (by decide) ?_
        exact hZ _ _ _ _ _ _ dL_law_48 (show k0 ≤ 600086 by omega) (show n0 ≤ 7301442 by omega)
      · refine kx_iload_n K dL_law_18 rfl 3 rfl ?_
        refine kx_iconst (v := 3) K dL_law_19 (by decide) ?_
        refine kx_icmp_ge K 47 hf dL_law_20 (by decide) (fun hf => ?_) (fun hf => ?_)
        · refine kx_iconst (v := 1) K dL_law_47 (by decide) ?_
          exact hZ _ _ _ _ _ _ dL_law_48 (show k0 ≤ 600086 by omega) (show n0 ≤ 7301442 by omega)
        · refine kx_aload_n K dL_law_23 rfl 1 rfl ?_
          refine kx_iconst (v := 1) K dL_law_24 (by decide) ?_
          refine kx_newa (kd := 0) (M := 1) (at9 := .int) K (by decide) rfl w_3 (by decide) (by decide) (show k0 + 1 ≤ 600086 by omega) (show n0 + 1 ≤ 7301442 by omega) dL_law_25 ?_
          refine kx_wd (k' := k0 + 1) (n' := n0 + 1) (by omega) (by omega) ?_
          refine kx_dup K dL_law_27 rfl ?_
          refine kx_iconst (v := 0) K dL_law_28 (by decide) ?_
          refine kx_aload_n K dL_law_29 rfl 0 rfl ?_
          refine kx_iload_n K dL_law_30 rfl 3 rfl ?_
          refine kx_sld K hX dL_law_31 hf (fun x10 hf => ?_)
          refine kx_ui K dL_law_32 hf (fun σ11 hf => ?_)
          refine kx_as (rmy := { frames := 10, cells := 6671, slots := 519626, locals := 235 }) (k' := k0 + 6672) (n' := n0 + 519627) (ρ := Int32 × Nat) K [.ref v6, .ref z5] (fun x => some (.int x.1)) (fun x => x.2) c_L_26 ⟨by decide, by decide, by show k0 + 1 + 6671 = k0 + 6672; omega, by show n0 + 1 + 519626 = n0 + 519627; omega, (show k0 + 6672 ≤ 600086 by omega), (show n0 + 519627 ≤ 7301442 by first | exact hn1 | omega)⟩ rfl rfl (Nat.le_of_ble_eq_true rfl) dL_law_33 hf (fun _ _ h => k_L_plays h) (fun x13 σ12 hf => ?_)
          refine kx_wd (k' := k0 + 6672) (n' := n0 + 519627) (Nat.le_refl _) (Nat.le_refl _) ?_
          refine kx_if_ne K 41 hf dL_law_36 (by decide) (fun hf => ?_) (fun hf => ?_)
          · refine kx_iinc (v := (v8 + 1)) K [(3, .int (v8 + 1)), (0, .ref b), (1, .ref v6), (2, .int v7)] dL_law_41 3 rfl rfl (by decide) rfl ?_
            refine kx_goto K 13 dL_law_44 (by decide) ?_
            refine kx_sub [(0, .ref b), (1, .ref v6), (2, .int v7), (3, .int (v8 + 1))] [1, 2, 3, 0] rfl ?_
            exact ih13 (k0 + 6672) (n0 + 519627) _ _ _ _ _ (by omega) (by omega) hf
          · refine kx_iconst (v := 0) K dL_law_39 (by decide) ?_
            cases hf
  unfold m_L_law at hf
  refine kx_new K n_L_18 (show 1 ≤ 600086 by omega) (show 8 ≤ 7301442 by omega) dL_law_0 ?_
  refine kx_dup K dL_law_3 rfl ?_
  refine kx_ci (rmy := { frames := 4, cells := 132, slots := 3190, locals := 80 }) (k' := 133) (n' := 3198) (As := []) K c_L_25 ⟨by decide, by decide, by show 1 + 132 = 133; omega, by show 8 + 3190 = 3198; omega, (show 133 ≤ 600086 by omega), (show 3198 ≤ 7301442 by omega)⟩ rfl rfl (Nat.le_of_ble_eq_true rfl) dL_law_4 hf (fun _ _ h => k_X6_init h) (fun z3 σ2 hf => ?_)
  refine kx_astore_n K [(1, .ref q), (0, .ref b)] dL_law_7 rfl (by decide) rfl ?_
  refine kx_aload_n K dL_law_8 rfl 1 rfl ?_
  refine kx_sln K hX dL_law_9 ?_
  refine kx_istore_n K [(2, .int (Int32.ofNat L)), (1, .ref q), (0, .ref b)] dL_law_10 rfl (by decide) rfl ?_
  refine kx_iconst (v := 0) K dL_law_11 (by decide) ?_
  refine kx_istore_n K [(3, .int (0 : Int32)), (2, .int (Int32.ofNat L)), (1, .ref q), (0, .ref b)] dL_law_12 rfl (by decide) rfl ?_
  refine kx_sub [(0, .ref b), (1, .ref q), (2, .int (Int32.ofNat L)), (3, .int (0 : Int32))] [3, 2, 1, 0] rfl ?_
  exact B13 5 (133) (3198) _ _ _ _ _ (by omega) (by omega) hf

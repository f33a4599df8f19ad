def m_X1_init (σ : ac_H) (a0 : Nat) (q : Nat) : Option (Nat × ac_H) :=
  mo_pv (ac_up σ q (.inl (0, kx_ar 0 240))) a0 1 0 (.ref q) fun σ1 =>
  some ((q + 1), σ1)
set_option maxRecDepth 100000 in
set_option maxHeartbeats 4000000 in
theorem k_X1_init {Λ : ex_L} {q : Nat} {σ σ' : ac_H} {a0 : Nat} {v : Nat} (hf : m_X1_init σ a0 q = some (v, σ')) : kx_C Λ yX1_init (.code yX1_init cX1_init 1 none) ({ frames := 1, cells := 1, slots := 240, locals := 20 } : Room) [.ref a0] q σ (.inr none) σ' (fun z => z = v) := by
  refine kx_in (by decide +kernel) (Nat.le_of_ble_eq_true rfl) ?_
  intro Γ K hnm hsz hQ
  refine kx_lv (lv' := [(0, .ref a0)]) rfl ?_
  unfold m_X1_init at hf
  refine kx_aload_n K dX1_init_0 rfl 0 rfl ?_
  refine kx_oinit K w_86 w_8 w_9 (by decide) (by decide) dX1_init_1 ?_
  refine kx_aload_n K dX1_init_4 rfl 0 rfl ?_
  refine kx_sipush (v := 240) K dX1_init_5 (by decide) ?_
  refine kx_newa (kd := 0) (M := 240) (at9 := .int) K (by decide) rfl w_3 (by decide) (by decide) (by decide) (by decide) dX1_init_8 ?_
  refine kx_putF K f_X1_9 hnm rfl dX1_init_10 rfl rfl hf (fun σ1 hf => ?_)
  exact kx_vretZ K hQ (by decide) (by decide) dX1_init_13 hf
def m_X1_begin (σ : ac_H) (a0 : Nat) (a1 : Int32) : Option (Unit × ac_H) :=
  mo_pv σ a0 1 1 (.int (0 : Int32)) fun σ1 =>
  mo_pv σ1 a0 1 2 (.int (((1 : Int32) <<< (a1 &&& 31)) - (1 : Int32))) fun σ2 =>
  mo_pv σ2 a0 1 3 (.int (0 : Int32)) fun σ3 =>
  mo_pv σ3 a0 1 4 (.int (-1 : Int32)) fun σ4 =>
  mo_z (0 : Int32) <| mo_pv σ4 a0 1 5 (.int (0 : Int32)) fun σ5 =>
  mo_z (0 : Int32) <| mo_pv σ5 a0 1 6 (.int (0 : Int32)) fun σ6 =>
  mo_pv σ6 a0 1 7 (.int (-1 : Int32)) fun σ7 =>
  some ((), σ7)
set_option maxRecDepth 100000 in
set_option maxHeartbeats 4000000 in
theorem k_X1_begin {Λ : ex_L} {q : Nat} {σ σ' : ac_H} {a0 : Nat} {a1 : Int32} {v : Unit} (hf : m_X1_begin σ a0 a1 = some (v, σ')) : kx_C Λ yX1_begin (.code yX1_begin cX1_begin 2 none) ({ frames := 0, cells := 0, slots := 0, locals := 0 } : Room) [.ref a0, .int a1] q σ (.inr none) σ' (fun z => z = q) := by
  refine kx_in (by decide +kernel) (Nat.le_of_ble_eq_true rfl) ?_
  intro Γ K hnm hsz hQ
  refine kx_lv (lv' := [(0, .ref a0), (1, .int a1)]) rfl ?_
  unfold m_X1_begin at hf
  refine kx_aload_n K dX1_begin_0 rfl 0 rfl ?_
  refine kx_iconst (v := 0) K dX1_begin_1 (by decide) ?_
  refine kx_pi K f_X1_15 dX1_begin_2 hf (fun σ1 hf => ?_)
  refine kx_aload_n K dX1_begin_5 rfl 0 rfl ?_
  refine kx_iconst (v := 1) K dX1_begin_6 (by decide) ?_
  refine kx_iload_n K dX1_begin_7 rfl 1 rfl ?_
  refine kx_ishl K dX1_begin_8 ?_
  refine kx_iconst (v := 1) K dX1_begin_9 (by decide) ?_
  refine kx_isub K dX1_begin_10 ?_
  refine kx_pi K f_X1_19 dX1_begin_11 hf (fun σ2 hf => ?_)
  refine kx_aload_n K dX1_begin_14 rfl 0 rfl ?_
  refine kx_iconst (v := 0) K dX1_begin_15 (by decide) ?_
  refine kx_pi K f_X1_22 dX1_begin_16 hf (fun σ3 hf => ?_)
  refine kx_aload_n K dX1_begin_19 rfl 0 rfl ?_
  refine kx_iconst (v := -1) K dX1_begin_20 (by decide) ?_
  refine kx_pi K f_X1_25 dX1_begin_21 hf (fun σ4 hf => ?_)
  refine kx_aload_n K dX1_begin_24 rfl 0 rfl ?_
  refine kx_iconst (v := 0) K dX1_begin_25 (by decide) ?_
  refine kx_pz K f_X1_28 dX1_begin_26 hf (fun σ5 hf => ?_)
  refine kx_aload_n K dX1_begin_29 rfl 0 rfl ?_
  refine kx_iconst (v := 0) K dX1_begin_30 (by decide) ?_
  refine kx_pz K f_X1_32 dX1_begin_31 hf (fun σ6 hf => ?_)
  refine kx_aload_n K dX1_begin_34 rfl 0 rfl ?_
  refine kx_iconst (v := -1) K dX1_begin_35 (by decide) ?_
  refine kx_pi K f_X1_35 dX1_begin_36 hf (fun σ7 hf => ?_)
  exact kx_vret K hQ (by decide) (by decide) (fun _ h => h) dX1_begin_39 hf
def m_X1_put_j77  (a0 : Nat) (a1 : Int32) (a2 : Int32) (σ16 : ac_H) : Option (Unit × ac_H) :=
  mo_gi σ16 a0 1 3 fun x17 =>
  mo_pv σ16 a0 1 3 (.int (x17 ||| ((1 : Int32) <<< (a1 &&& 31)))) fun σ18 =>
  mo_gi σ18 a0 1 7 fun x19 =>
  if x19 = (-1 : Int32) then
  (mo_gi σ18 a0 1 3 fun x20 =>
  mo_gi σ18 a0 1 2 fun x21 =>
  if x20 = x21 then
  (mo_pv σ18 a0 1 7 (.int a2) fun σ22 =>
  some ((), σ22))
  else
  (some ((), σ18)))
  else
  (some ((), σ18))
def m_X1_put_j56  (a0 : Nat) (a1 : Int32) (a2 : Int32) (σ12 : ac_H) : Option (Unit × ac_H) :=
  mo_gi σ12 a0 1 4 fun x13 =>
  if a1 < x13 then
  (mo_z (1 : Int32) <| mo_pv σ12 a0 1 6 (.int (1 : Int32)) fun σ15 =>
  m_X1_put_j77 a0 a1 a2 σ15)
  else
  (mo_pv σ12 a0 1 4 (.int a1) fun σ14 =>
  m_X1_put_j77 a0 a1 a2 σ14)
def m_X1_put (σ : ac_H) (a0 : Nat) (a1 : Int32) (a2 : Int32) : Option (Unit × ac_H) :=
  mo_gi σ a0 1 1 fun x1 =>
  if x1 < 0 then
  (some ((), σ))
  else
  (mo_gi σ a0 1 1 fun x2 =>
  mo_gr σ a0 1 0 fun x3 =>
  mo_ln σ x3 fun x4 =>
  if x2 < x4 then
  (mo_gr σ a0 1 0 fun x5 =>
  mo_gi σ a0 1 1 fun x6 =>
  mo_ui σ x5 0 x6 a1 fun σ7 =>
  mo_gi σ7 a0 1 1 fun x8 =>
  mo_pv σ7 a0 1 1 (.int (x8 + (1 : Int32))) fun σ9 =>
  mo_gi σ9 a0 1 3 fun x10 =>
  if ((x10 >>> (a1 &&& 31)) &&& (1 : Int32)) = 0 then
  (m_X1_put_j56 a0 a1 a2 σ9)
  else
  (mo_z (1 : Int32) <| mo_pv σ9 a0 1 5 (.int (1 : Int32)) fun σ11 =>
  m_X1_put_j56 a0 a1 a2 σ11))
  else
  (some ((), σ)))
set_option maxRecDepth 100000 in
set_option maxHeartbeats 4000000 in
theorem k_X1_put {Λ : ex_L} {q : Nat} {σ σ' : ac_H} {a0 : Nat} {a1 : Int32} {a2 : Int32} {v : Unit} (hf : m_X1_put σ a0 a1 a2 = some (v, σ')) : kx_C Λ yX1_put (.code yX1_put cX1_put 3 none) ({ frames := 0, cells := 0, slots := 0, locals := 0 } : Room) [.ref a0, .int a1, .int a2] q σ (.inr none) σ' (fun z => z = q) := by
  refine kx_in (by decide +kernel) (Nat.le_of_ble_eq_true rfl) ?_
  intro Γ K hnm hsz hQ
  refine kx_lv (lv' := [(0, .ref a0), (1, .int a1), (2, .int a2)]) rfl ?_
  have B77 : ∀ (σ16 : ac_H), m_X1_put_j77 a0 a1 a2 σ16 = some (v, σ') → kx_S Λ Γ 3 (fun z => z = q) σ16 (0) (0) 77 [(0, .ref a0), (1, .int a1), (2, .int a2)] [] := by
    intro σ16 hf
    unfold m_X1_put_j77 at hf
    refine kx_aload_n K dX1_put_77 rfl 0 rfl ?_
    refine kx_dup K dX1_put_78 rfl ?_
    refine kx_gi K f_X1_22 dX1_put_79 hf (fun x17 hf => ?_)
    refine kx_iconst (v := 1) K dX1_put_82 (by decide) ?_
    refine kx_iload_n K dX1_put_83 rfl 1 rfl ?_
    refine kx_ishl K dX1_put_84 ?_
    refine kx_ior K dX1_put_85 ?_
    refine kx_pi K f_X1_22 dX1_put_86 hf (fun σ18 hf => ?_)
    refine kx_aload_n K dX1_put_89 rfl 0 rfl ?_
    refine kx_gi K f_X1_35 dX1_put_90 hf (fun x19 hf => ?_)
    refine kx_iconst (v := -1) K dX1_put_93 (by decide) ?_
    refine kx_icmp_ne K 113 hf dX1_put_94 (by decide) (fun hf => ?_) (fun hf => ?_)
    · exact kx_vret K hQ (by decide) (by decide) (fun _ h => h) dX1_put_113 hf
    · refine kx_aload_n K dX1_put_97 rfl 0 rfl ?_
      refine kx_gi K f_X1_22 dX1_put_98 hf (fun x20 hf => ?_)
      refine kx_aload_n K dX1_put_101 rfl 0 rfl ?_
      refine kx_gi K f_X1_19 dX1_put_102 hf (fun x21 hf => ?_)
      refine kx_icmp_ne K 113 hf dX1_put_105 (by decide) (fun hf => ?_) (fun hf => ?_)
      · exact kx_vret K hQ (by decide) (by decide) (fun _ h => h) dX1_put_113 hf
      · refine kx_aload_n K dX1_put_108 rfl 0 rfl ?_
        refine kx_iload_n K dX1_put_109 rfl 2 rfl ?_
        refine kx_pi K f_X1_35 dX1_put_110 hf (fun σ22 hf => ?_)
        exact kx_vret K hQ (by decide) (by decide) (fun _ h => h) dX1_put_113 hf
  have B56 : ∀ (σ12 : ac_H), m_X1_put_j56 a0 a1 a2 σ12 = some (v, σ') → kx_S Λ Γ 3 (fun z => z = q) σ12 (0) (0) 56 [(0, .ref a0), (1, .int a1), (2, .int a2)] [] := by
    intro σ12 hf
    unfold m_X1_put_j56 at hf
    refine kx_iload_n K dX1_put_56 rfl 1 rfl ?_
    refine kx_aload_n K dX1_put_57 rfl 0 rfl ?_
    refine kx_gi K f_X1_25 dX1_put_58 hf (fun x13 hf => ?_)
    refine kx_icmp_ge K 72 hf dX1_put_61 (by decide) (fun hf => ?_) (fun hf => ?_)
    · refine kx_aload_n K dX1_put_72 rfl 0 rfl ?_
      refine kx_iload_n K dX1_put_73 rfl 1 rfl ?_
      refine kx_pi K f_X1_25 dX1_put_74 hf (fun σ14 hf => ?_)
      refine kx_sub [(0, .ref a0), (1, .int a1), (2, .int a2)] [0, 1, 2] rfl ?_
      exact B77 _ hf
    · refine kx_aload_n K dX1_put_64 rfl 0 rfl ?_
      refine kx_iconst (v := 1) K dX1_put_65 (by decide) ?_
      refine kx_pz K f_X1_32 dX1_put_66 hf (fun σ15 hf => ?_)
      refine kx_goto K 77 dX1_put_69 (by decide) ?_
      refine kx_sub [(0, .ref a0), (1, .int a1), (2, .int a2)] [0, 1, 2] rfl ?_
      exact B77 _ hf
  unfold m_X1_put at hf
  refine kx_aload_n K dX1_put_0 rfl 0 rfl ?_
  refine kx_gi K f_X1_15 dX1_put_1 hf (fun x1 hf => ?_)
  refine kx_if_lt K 19 hf dX1_put_4 (by decide) (fun hf => ?_) (fun hf => ?_)
  · exact kx_vret K hQ (by decide) (by decide) (fun _ h => h) dX1_put_19 hf
  · refine kx_aload_n K dX1_put_7 rfl 0 rfl ?_
    refine kx_gi K f_X1_15 dX1_put_8 hf (fun x2 hf => ?_)
    refine kx_aload_n K dX1_put_11 rfl 0 rfl ?_
    refine kx_gr K f_X1_9 dX1_put_12 hf (fun x3 hf => ?_)
    refine kx_ln K dX1_put_15 hf (fun x4 hf => ?_)
    refine kx_icmp_lt K 20 hf dX1_put_16 (by decide) (fun hf => ?_) (fun hf => ?_)
    · refine kx_aload_n K dX1_put_20 rfl 0 rfl ?_
      refine kx_gr K f_X1_9 dX1_put_21 hf (fun x5 hf => ?_)
      refine kx_aload_n K dX1_put_24 rfl 0 rfl ?_
      refine kx_gi K f_X1_15 dX1_put_25 hf (fun x6 hf => ?_)
      refine kx_iload_n K dX1_put_28 rfl 1 rfl ?_
      refine kx_ui K dX1_put_29 hf (fun σ7 hf => ?_)
      refine kx_aload_n K dX1_put_30 rfl 0 rfl ?_
      refine kx_dup K dX1_put_31 rfl ?_
      refine kx_gi K f_X1_15 dX1_put_32 hf (fun x8 hf => ?_)
      refine kx_iconst (v := 1) K dX1_put_35 (by decide) ?_
      refine kx_iadd K dX1_put_36 ?_
      refine kx_pi K f_X1_15 dX1_put_37 hf (fun σ9 hf => ?_)
      refine kx_aload_n K dX1_put_40 rfl 0 rfl ?_
      refine kx_gi K f_X1_22 dX1_put_41 hf (fun x10 hf => ?_)
      refine kx_iload_n K dX1_put_44 rfl 1 rfl ?_
      refine kx_ishr K dX1_put_45 ?_
      refine kx_iconst (v := 1) K dX1_put_46 (by decide) ?_
      refine kx_iand K dX1_put_47 ?_
      refine kx_if_eq K 56 hf dX1_put_48 (by decide) (fun hf => ?_) (fun hf => ?_)
      · refine kx_sub [(0, .ref a0), (1, .int a1), (2, .int a2)] [0, 1, 2] rfl ?_
        exact B56 _ hf
      · refine kx_aload_n K dX1_put_51 rfl 0 rfl ?_
        refine kx_iconst (v := 1) K dX1_put_52 (by decide) ?_
        refine kx_pz K f_X1_28 dX1_put_53 hf (fun σ11 hf => ?_)
        refine kx_sub [(0, .ref a0), (1, .int a1), (2, .int a2)] [0, 1, 2] rfl ?_
        exact B56 _ hf
    · exact kx_vret K hQ (by decide) (by decide) (fun _ h => h) dX1_put_19 hf
def m_X1_itemAt (σ : ac_H) (a0 : Nat) (a1 : Int32) : Option (Int32 × ac_H) :=
  if a1 < 0 then
  (some ((-1 : Int32), σ))
  else
  (mo_gi σ a0 1 1 fun x1 =>
  if a1 < x1 then
  (mo_gr σ a0 1 0 fun x2 =>
  mo_ln σ x2 fun x3 =>
  if a1 < x3 then
  (mo_gr σ a0 1 0 fun x4 =>
  mo_ai σ x4 0 a1 fun x5 =>
  some (x5, σ))
  else
  (some ((-1 : Int32), σ)))
  else
  (some ((-1 : Int32), σ)))
set_option maxRecDepth 100000 in
set_option maxHeartbeats 4000000 in
theorem k_X1_itemAt {Λ : ex_L} {q : Nat} {σ σ' : ac_H} {a0 : Nat} {a1 : Int32} {v : Int32} (hf : m_X1_itemAt σ a0 a1 = some (v, σ')) : kx_C Λ yX1_itemAt (.code yX1_itemAt cX1_itemAt 2 (some .int)) ({ frames := 0, cells := 0, slots := 0, locals := 0 } : Room) [.ref a0, .int a1] q σ (.inr (some (.int v))) σ' (fun z => z = q) := by
  refine kx_in (by decide +kernel) (Nat.le_of_ble_eq_true rfl) ?_
  intro Γ K hnm hsz hQ
  refine kx_lv (lv' := [(0, .ref a0), (1, .int a1)]) rfl ?_
  unfold m_X1_itemAt at hf
  refine kx_iload_n K dX1_itemAt_0 rfl 1 rfl ?_
  refine kx_if_lt K 30 hf dX1_itemAt_1 (by decide) (fun hf => ?_) (fun hf => ?_)
  · refine kx_iconst (v := -1) K dX1_itemAt_30 (by decide) ?_
    exact kx_iret K hQ (by decide) (by decide) (fun _ h => h) dX1_itemAt_31 hf
  · refine kx_iload_n K dX1_itemAt_4 rfl 1 rfl ?_
    refine kx_aload_n K dX1_itemAt_5 rfl 0 rfl ?_
    refine kx_gi K f_X1_15 dX1_itemAt_6 hf (fun x1 hf => ?_)
    refine kx_icmp_ge K 30 hf dX1_itemAt_9 (by decide) (fun hf => ?_) (fun hf => ?_)
    · refine kx_iconst (v := -1) K dX1_itemAt_30 (by decide) ?_
      exact kx_iret K hQ (by decide) (by decide) (fun _ h => h) dX1_itemAt_31 hf
    · refine kx_iload_n K dX1_itemAt_12 rfl 1 rfl ?_
      refine kx_aload_n K dX1_itemAt_13 rfl 0 rfl ?_
      refine kx_gr K f_X1_9 dX1_itemAt_14 hf (fun x2 hf => ?_)
      refine kx_ln K dX1_itemAt_17 hf (fun x3 hf => ?_)
      refine kx_icmp_ge K 30 hf dX1_itemAt_18 (by decide) (fun hf => ?_) (fun hf => ?_)
      · refine kx_iconst (v := -1) K dX1_itemAt_30 (by decide) ?_
        exact kx_iret K hQ (by decide) (by decide) (fun _ h => h) dX1_itemAt_31 hf
      · refine kx_aload_n K dX1_itemAt_21 rfl 0 rfl ?_
        refine kx_gr K f_X1_9 dX1_itemAt_22 hf (fun x4 hf => ?_)
        refine kx_iload_n K dX1_itemAt_25 rfl 1 rfl ?_
        refine kx_ai K dX1_itemAt_26 hf (fun x5 hf => ?_)
        refine kx_goto K 31 dX1_itemAt_27 (by decide) ?_
        exact kx_iret K hQ (by decide) (by decide) (fun _ h => h) dX1_itemAt_31 hf
def m_X1_howMany (σ : ac_H) (a0 : Nat) : Option (Int32 × ac_H) :=
  mo_gi σ a0 1 1 fun x1 =>
  some (x1, σ)
set_option maxRecDepth 100000 in
set_option maxHeartbeats 4000000 in
theorem k_X1_howMany {Λ : ex_L} {q : Nat} {σ σ' : ac_H} {a0 : Nat} {v : Int32} (hf : m_X1_howMany σ a0 = some (v, σ')) : kx_C Λ yX1_howMany (.code yX1_howMany cX1_howMany 1 (some .int)) ({ frames := 0, cells := 0, slots := 0, locals := 0 } : Room) [.ref a0] q σ (.inr (some (.int v))) σ' (fun z => z = q) := by
  refine kx_in (by decide +kernel) (Nat.le_of_ble_eq_true rfl) ?_
  intro Γ K hnm hsz hQ
  refine kx_lv (lv' := [(0, .ref a0)]) rfl ?_
  unfold m_X1_howMany at hf
  refine kx_aload_n K dX1_howMany_0 rfl 0 rfl ?_
  refine kx_gi K f_X1_15 dX1_howMany_1 hf (fun x1 hf => ?_)
  exact kx_iret K hQ (by decide) (by decide) (fun _ h => h) dX1_howMany_4 hf
def m_X1_completeTick (σ : ac_H) (a0 : Nat) : Option (Int32 × ac_H) :=
  mo_gi σ a0 1 7 fun x1 =>
  some (x1, σ)
set_option maxRecDepth 100000 in
set_option maxHeartbeats 4000000 in
theorem k_X1_completeTick {Λ : ex_L} {q : Nat} {σ σ' : ac_H} {a0 : Nat} {v : Int32} (hf : m_X1_completeTick σ a0 = some (v, σ')) : kx_C Λ yX1_completeTick (.code yX1_completeTick cX1_completeTick 1 (some .int)) ({ frames := 0, cells := 0, slots := 0, locals := 0 } : Room) [.ref a0] q σ (.inr (some (.int v))) σ' (fun z => z = q) := by
  refine kx_in (by decide +kernel) (Nat.le_of_ble_eq_true rfl) ?_
  intro Γ K hnm hsz hQ
  refine kx_lv (lv' := [(0, .ref a0)]) rfl ?_
  unfold m_X1_completeTick at hf
  refine kx_aload_n K dX1_completeTick_0 rfl 0 rfl ?_
  refine kx_gi K f_X1_35 dX1_completeTick_1 hf (fun x1 hf => ?_)
  exact kx_iret K hQ (by decide) (by decide) (fun _ h => h) dX1_completeTick_4 hf
def m_X1_broken_j42  (a0 : Nat) (a1 : Int32) (σ11 : ac_H) (w9 : Int32) (w10 : Int32) : Option (Int32 × ac_H) :=
  mo_gi σ11 a0 1 7 fun x12 =>
  if x12 = (-1 : Int32) then
  (some (((w10 ||| w9) ||| (8 : Int32)), σ11))
  else
  (mo_gi σ11 a0 1 7 fun x13 =>
  if a1 < x13 then
  (some (((w10 ||| w9) ||| (8 : Int32)), σ11))
  else
  (some (((w10 ||| w9) ||| (0 : Int32)), σ11)))
def m_X1_broken_j27  (a0 : Nat) (a1 : Int32) (σ7 : ac_H) (w5 : Int32) (w6 : Int32) : Option (Int32 × ac_H) :=
  mo_gi σ7 a0 1 6 fun x8 =>
  if x8 = 0 then
  (m_X1_broken_j42 a0 a1 σ7 (0 : Int32) (w6 ||| w5))
  else
  (m_X1_broken_j42 a0 a1 σ7 (4 : Int32) (w6 ||| w5))
def m_X1_broken_j13  (a0 : Nat) (a1 : Int32) (σ3 : ac_H) (w2 : Int32) : Option (Int32 × ac_H) :=
  mo_gi σ3 a0 1 5 fun x4 =>
  if x4 = 0 then
  (m_X1_broken_j27 a0 a1 σ3 (0 : Int32) w2)
  else
  (m_X1_broken_j27 a0 a1 σ3 (2 : Int32) w2)
def m_X1_broken (σ : ac_H) (a0 : Nat) (a1 : Int32) : Option (Int32 × ac_H) :=
  mo_gi σ a0 1 7 fun x1 =>
  if x1 = (-1 : Int32) then
  (m_X1_broken_j13 a0 a1 σ (1 : Int32))
  else
  (m_X1_broken_j13 a0 a1 σ (0 : Int32))
set_option maxRecDepth 100000 in
set_option maxHeartbeats 4000000 in
theorem k_X1_broken {Λ : ex_L} {q : Nat} {σ σ' : ac_H} {a0 : Nat} {a1 : Int32} {v : Int32} (hf : m_X1_broken σ a0 a1 = some (v, σ')) : kx_C Λ yX1_broken (.code yX1_broken cX1_broken 3 (some .int)) ({ frames := 0, cells := 0, slots := 0, locals := 0 } : Room) [.ref a0, .int a1] q σ (.inr (some (.int v))) σ' (fun z => z = q) := by
  refine kx_in (by decide +kernel) (Nat.le_of_ble_eq_true rfl) ?_
  intro Γ K hnm hsz hQ
  refine kx_lv (lv' := [(0, .ref a0), (1, .int a1)]) rfl ?_
  have B42 : ∀ (σ11 : ac_H) (w9 : Int32) (w10 : Int32), m_X1_broken_j42 a0 a1 σ11 w9 w10 = some (v, σ') → kx_S Λ Γ 3 (fun z => z = q) σ11 (0) (0) 42 [(0, .ref a0), (1, .int a1)] [.int w9, .int w10] := by
    intro σ11 w9 w10 hf
    unfold m_X1_broken_j42 at hf
    refine kx_ior K dX1_broken_42 ?_
    refine kx_istore_n K [(2, .int (w10 ||| w9)), (0, .ref a0), (1, .int a1)] dX1_broken_43 rfl (by decide) rfl ?_
    refine kx_iload_n K dX1_broken_44 rfl 0 rfl ?_
    refine kx_aload_n K dX1_broken_45 rfl 1 rfl ?_
    refine kx_gi K f_X1_35 dX1_broken_46 hf (fun x12 hf => ?_)
    refine kx_iconst (v := -1) K dX1_broken_49 (by decide) ?_
    refine kx_icmp_eq K 61 hf dX1_broken_50 (by decide) (fun hf => ?_) (fun hf => ?_)
    · refine kx_bipush (v := 8) K dX1_broken_61 (by decide) ?_
      refine kx_goto K 67 dX1_broken_63 (by decide) ?_
      refine kx_ior K dX1_broken_67 ?_
      refine kx_istore_n K [(2, .int ((w10 ||| w9) ||| (8 : Int32))), (0, .ref a0), (1, .int a1)] dX1_broken_68 rfl (by decide) rfl ?_
      refine kx_iload_n K dX1_broken_69 rfl 0 rfl ?_
      exact kx_iret K hQ (by decide) (by decide) (fun _ h => h) dX1_broken_70 hf
    · refine kx_aload_n K dX1_broken_53 rfl 1 rfl ?_
      refine kx_gi K f_X1_35 dX1_broken_54 hf (fun x13 hf => ?_)
      refine kx_iload_n K dX1_broken_57 rfl 2 rfl ?_
      refine kx_icmp_le K 66 hf dX1_broken_58 (by decide) (fun hf => ?_) (fun hf => ?_)
      · refine kx_iconst (v := 0) K dX1_broken_66 (by decide) ?_
        refine kx_ior K dX1_broken_67 ?_
        refine kx_istore_n K [(2, .int ((w10 ||| w9) ||| (0 : Int32))), (0, .ref a0), (1, .int a1)] dX1_broken_68 rfl (by decide) rfl ?_
        refine kx_iload_n K dX1_broken_69 rfl 0 rfl ?_
        exact kx_iret K hQ (by decide) (by decide) (fun _ h => h) dX1_broken_70 hf
      · refine kx_bipush (v := 8) K dX1_broken_61 (by decide) ?_
        refine kx_goto K 67 dX1_broken_63 (by decide) ?_
        refine kx_ior K dX1_broken_67 ?_
        refine kx_istore_n K [(2, .int ((w10 ||| w9) ||| (8 : Int32))), (0, .ref a0), (1, .int a1)] dX1_broken_68 rfl (by decide) rfl ?_
        refine kx_iload_n K dX1_broken_69 rfl 0 rfl ?_
        exact kx_iret K hQ (by decide) (by decide) (fun _ h => h) dX1_broken_70 hf
  have B27 : ∀ (σ7 : ac_H) (w5 : Int32) (w6 : Int32), m_X1_broken_j27 a0 a1 σ7 w5 w6 = some (v, σ') → kx_S Λ Γ 3 (fun z => z = q) σ7 (0) (0) 27 [(0, .ref a0), (1, .int a1)] [.int w5, .int w6] := by
    intro σ7 w5 w6 hf
    unfold m_X1_broken_j27 at hf
    refine kx_ior K dX1_broken_27 ?_
    refine kx_istore_n K [(2, .int (w6 ||| w5)), (0, .ref a0), (1, .int a1)] dX1_broken_28 rfl (by decide) rfl ?_
    refine kx_iload_n K dX1_broken_29 rfl 0 rfl ?_
    refine kx_aload_n K dX1_broken_30 rfl 1 rfl ?_
    refine kx_gi K f_X1_32 dX1_broken_31 hf (fun x8 hf => ?_)
    refine kx_if_eq K 41 hf dX1_broken_34 (by decide) (fun hf => ?_) (fun hf => ?_)
    · refine kx_iconst (v := 0) K dX1_broken_41 (by decide) ?_
      refine kx_sub [(0, .ref a0), (1, .int a1)] [1, 2] rfl ?_
      exact B42 _ _ _ hf
    · refine kx_iconst (v := 4) K dX1_broken_37 (by decide) ?_
      refine kx_goto K 42 dX1_broken_38 (by decide) ?_
      refine kx_sub [(0, .ref a0), (1, .int a1)] [1, 2] rfl ?_
      exact B42 _ _ _ hf
  have B13 : ∀ (σ3 : ac_H) (w2 : Int32), m_X1_broken_j13 a0 a1 σ3 w2 = some (v, σ') → kx_S Λ Γ 3 (fun z => z = q) σ3 (0) (0) 13 [(0, .ref a0), (1, .int a1)] [.int w2] := by
    intro σ3 w2 hf
    unfold m_X1_broken_j13 at hf
    refine kx_istore_n K [(2, .int w2), (0, .ref a0), (1, .int a1)] dX1_broken_13 rfl (by decide) rfl ?_
    refine kx_iload_n K dX1_broken_14 rfl 0 rfl ?_
    refine kx_aload_n K dX1_broken_15 rfl 1 rfl ?_
    refine kx_gi K f_X1_28 dX1_broken_16 hf (fun x4 hf => ?_)
    refine kx_if_eq K 26 hf dX1_broken_19 (by decide) (fun hf => ?_) (fun hf => ?_)
    · refine kx_iconst (v := 0) K dX1_broken_26 (by decide) ?_
      refine kx_sub [(0, .ref a0), (1, .int a1)] [1, 2] rfl ?_
      exact B27 _ _ _ hf
    · refine kx_iconst (v := 2) K dX1_broken_22 (by decide) ?_
      refine kx_goto K 27 dX1_broken_23 (by decide) ?_
      refine kx_sub [(0, .ref a0), (1, .int a1)] [1, 2] rfl ?_
      exact B27 _ _ _ hf
  unfold m_X1_broken at hf
  refine kx_aload_n K dX1_broken_0 rfl 0 rfl ?_
  refine kx_gi K f_X1_35 dX1_broken_1 hf (fun x1 hf => ?_)
  refine kx_iconst (v := -1) K dX1_broken_4 (by decide) ?_
  refine kx_icmp_ne K 12 hf dX1_broken_5 (by decide) (fun hf => ?_) (fun hf => ?_)
  · refine kx_iconst (v := 0) K dX1_broken_12 (by decide) ?_
    refine kx_sub [(0, .ref a0), (1, .int a1)] [0, 1] rfl ?_
    exact B13 _ _ hf
  · refine kx_iconst (v := 1) K dX1_broken_8 (by decide) ?_
    refine kx_goto K 13 dX1_broken_9 (by decide) ?_
    refine kx_sub [(0, .ref a0), (1, .int a1)] [0, 1] rfl ?_
    exact B13 _ _ hf
def m_X2_init (σ : ac_H) (a0 : Nat) (q : Nat) : Option (Nat × ac_H) :=
  mo_pv (ac_up σ q (.inl (0, kx_ar 0 120))) a0 2 0 (.ref q) fun σ1 =>
  mo_pv (ac_up σ1 (q + 1) (.inl (0, kx_ar 0 120))) a0 2 1 (.ref (q + 1)) fun σ2 =>
  mo_pv (ac_up σ2 ((q + 1) + 1) (.inl (0, kx_ar 0 120))) a0 2 2 (.ref ((q + 1) + 1)) fun σ3 =>
  mo_pv (ac_up σ3 (((q + 1) + 1) + 1) (.inl (0, kx_ar 0 120))) a0 2 3 (.ref (((q + 1) + 1) + 1)) fun σ4 =>
  mo_pv (ac_up σ4 ((((q + 1) + 1) + 1) + 1) (.inl (0, kx_ar 0 120))) a0 2 4 (.ref ((((q + 1) + 1) + 1) + 1)) fun σ5 =>
  mo_pv (ac_up σ5 (((((q + 1) + 1) + 1) + 1) + 1) (.inl (0, kx_ar 0 226))) a0 2 6 (.ref (((((q + 1) + 1) + 1) + 1) + 1)) fun σ6 =>
  mo_pv (ac_up σ6 ((((((q + 1) + 1) + 1) + 1) + 1) + 1) (.inl (0, kx_ar 0 226))) a0 2 7 (.ref ((((((q + 1) + 1) + 1) + 1) + 1) + 1)) fun σ7 =>
  mo_pv (ac_up σ7 (((((((q + 1) + 1) + 1) + 1) + 1) + 1) + 1) (.inl (0, kx_ar 0 226))) a0 2 8 (.ref (((((((q + 1) + 1) + 1) + 1) + 1) + 1) + 1)) fun σ8 =>
  mo_pv (ac_up σ8 ((((((((q + 1) + 1) + 1) + 1) + 1) + 1) + 1) + 1) (.inl (0, kx_ar 0 240))) a0 2 9 (.ref ((((((((q + 1) + 1) + 1) + 1) + 1) + 1) + 1) + 1)) fun σ9 =>
  some ((((((((((q + 1) + 1) + 1) + 1) + 1) + 1) + 1) + 1) + 1), σ9)
set_option maxRecDepth 100000 in
set_option maxHeartbeats 4000000 in
theorem k_X2_init {Λ : ex_L} {q : Nat} {σ σ' : ac_H} {a0 : Nat} {v : Nat} (hf : m_X2_init σ a0 q = some (v, σ')) : kx_C Λ yX2_init (.code yX2_init cX2_init 1 none) ({ frames := 1, cells := 9, slots := 1518, locals := 20 } : Room) [.ref a0] q σ (.inr none) σ' (fun z => z = v) := by
  refine kx_in (by decide +kernel) (Nat.le_of_ble_eq_true rfl) ?_
  intro Γ K hnm hsz hQ
  refine kx_lv (lv' := [(0, .ref a0)]) rfl ?_
  unfold m_X2_init at hf
  refine kx_aload_n K dX2_init_0 rfl 0 rfl ?_
  refine kx_oinit K w_73 w_8 w_9 (by decide) (by decide) dX2_init_1 ?_
  refine kx_aload_n K dX2_init_4 rfl 0 rfl ?_
  refine kx_bipush (v := 120) K dX2_init_5 (by decide) ?_
  refine kx_newa (kd := 0) (M := 120) (at9 := .int) K (by decide) rfl w_3 (by decide) (by decide) (by decide) (by decide) dX2_init_7 ?_
  refine kx_putF K f_X2_9 hnm rfl dX2_init_9 rfl rfl hf (fun σ1 hf => ?_)
  refine kx_aload_n K dX2_init_12 rfl 0 rfl ?_
  refine kx_bipush (v := 120) K dX2_init_13 (by decide) ?_
  refine kx_newa (kd := 0) (M := 120) (at9 := .int) K (by decide) rfl w_3 (by decide) (by decide) (by decide) (by decide) dX2_init_15 ?_
  refine kx_putF K f_X2_15 hnm rfl dX2_init_17 rfl rfl hf (fun σ2 hf => ?_)
  refine kx_aload_n K dX2_init_20 rfl 0 rfl ?_
  refine kx_bipush (v := 120) K dX2_init_21 (by decide) ?_
  refine kx_newa (kd := 0) (M := 120) (at9 := .int) K (by decide) rfl w_3 (by decide) (by decide) (by decide) (by decide) dX2_init_23 ?_
  refine kx_putF K f_X2_18 hnm rfl dX2_init_25 rfl rfl hf (fun σ3 hf => ?_)
  refine kx_aload_n K dX2_init_28 rfl 0 rfl ?_
  refine kx_bipush (v := 120) K dX2_init_29 (by decide) ?_
  refine kx_newa (kd := 0) (M := 120) (at9 := .int) K (by decide) rfl w_3 (by decide) (by decide) (by decide) (by decide) dX2_init_31 ?_
  refine kx_putF K f_X2_21 hnm rfl dX2_init_33 rfl rfl hf (fun σ4 hf => ?_)
  refine kx_aload_n K dX2_init_36 rfl 0 rfl ?_
  refine kx_bipush (v := 120) K dX2_init_37 (by decide) ?_
  refine kx_newa (kd := 0) (M := 120) (at9 := .int) K (by decide) rfl w_3 (by decide) (by decide) (by decide) (by decide) dX2_init_39 ?_
  refine kx_putF K f_X2_24 hnm rfl dX2_init_41 rfl rfl hf (fun σ5 hf => ?_)
  refine kx_aload_n K dX2_init_44 rfl 0 rfl ?_
  refine kx_sipush (v := 226) K dX2_init_45 (by decide) ?_
  refine kx_newa (kd := 0) (M := 226) (at9 := .int) K (by decide) rfl w_3 (by decide) (by decide) (by decide) (by decide) dX2_init_48 ?_
  refine kx_putF K f_X2_27 hnm rfl dX2_init_50 rfl rfl hf (fun σ6 hf => ?_)
  refine kx_aload_n K dX2_init_53 rfl 0 rfl ?_
  refine kx_sipush (v := 226) K dX2_init_54 (by decide) ?_
  refine kx_newa (kd := 0) (M := 226) (at9 := .int) K (by decide) rfl w_3 (by decide) (by decide) (by decide) (by decide) dX2_init_57 ?_
  refine kx_putF K f_X2_30 hnm rfl dX2_init_59 rfl rfl hf (fun σ7 hf => ?_)
  refine kx_aload_n K dX2_init_62 rfl 0 rfl ?_
  refine kx_sipush (v := 226) K dX2_init_63 (by decide) ?_
  refine kx_newa (kd := 0) (M := 226) (at9 := .int) K (by decide) rfl w_3 (by decide) (by decide) (by decide) (by decide) dX2_init_66 ?_
  refine kx_putF K f_X2_33 hnm rfl dX2_init_68 rfl rfl hf (fun σ8 hf => ?_)
  refine kx_aload_n K dX2_init_71 rfl 0 rfl ?_
  refine kx_sipush (v := 240) K dX2_init_72 (by decide) ?_
  refine kx_newa (kd := 0) (M := 240) (at9 := .int) K (by decide) rfl w_3 (by decide) (by decide) (by decide) (by decide) dX2_init_75 ?_
  refine kx_putF K f_X2_36 hnm rfl dX2_init_77 rfl rfl hf (fun σ9 hf => ?_)
  exact kx_vretZ K hQ (by decide) (by decide) dX2_init_80 hf
def m_X2_begin_l12  (a0 : Nat) : Nat → ac_H → Int32 → Option (Unit × ac_H)
  | 0, _, _ => none
  | n + 1, σ4, v3 =>
    if v3 < (226 : Int32) then
    (mo_gr σ4 a0 2 8 fun x5 =>
    mo_ui σ4 x5 0 v3 (0 : Int32) fun σ6 =>
    m_X2_begin_l12 a0 n σ6 (v3 + 1))
    else
    (some ((), σ4))
def m_X2_begin (σ : ac_H) (a0 : Nat) : Option (Unit × ac_H) :=
  mo_pv σ a0 2 5 (.int (0 : Int32)) fun σ1 =>
  mo_pv σ1 a0 2 10 (.int (0 : Int32)) fun σ2 =>
  m_X2_begin_l12 a0 hN_f σ2 (0 : Int32)
set_option maxRecDepth 100000 in
set_option maxHeartbeats 4000000 in
theorem k_X2_begin {Λ : ex_L} {q : Nat} {σ σ' : ac_H} {a0 : Nat} {v : Unit} (hf : m_X2_begin σ a0 = some (v, σ')) : kx_C Λ yX2_begin (.code yX2_begin cX2_begin 2 none) ({ frames := 0, cells := 0, slots := 0, locals := 0 } : Room) [.ref a0] q σ (.inr none) σ' (fun z => z = q) := by
  refine kx_in (by decide +kernel) (Nat.le_of_ble_eq_true rfl) ?_
  intro Γ K hnm hsz hQ
  refine kx_lv (lv' := [(0, .ref a0)]) rfl ?_
  have B12 : ∀ (n12 : Nat) (σ4 : ac_H) (v3 : Int32), m_X2_begin_l12 a0 n12 σ4 v3 = some (v, σ') → kx_S Λ Γ 2 (fun z => z = q) σ4 (0) (0) 12 [(0, .ref a0), (1, .int v3)] [] := by
    intro n12
    induction n12 with
    | zero =>
      intro σ4 v3 hf
      rw [m_X2_begin_l12] at hf
      cases hf
    | succ n12 ih12 =>
      intro σ4 v3 hf
      rw [m_X2_begin_l12] at hf
      refine kx_iload_n K dX2_begin_12 rfl 1 rfl ?_
      refine kx_sipush (v := 226) K dX2_begin_13 (by decide) ?_
      refine kx_icmp_ge K 32 hf dX2_begin_16 (by decide) (fun hf => ?_) (fun hf => ?_)
      · exact kx_vret K hQ (by decide) (by decide) (fun _ h => h) dX2_begin_32 hf
      · refine kx_aload_n K dX2_begin_19 rfl 0 rfl ?_
        refine kx_gr K f_X2_33 dX2_begin_20 hf (fun x5 hf => ?_)
        refine kx_iload_n K dX2_begin_23 rfl 1 rfl ?_
        refine kx_iconst (v := 0) K dX2_begin_24 (by decide) ?_
        refine kx_ui K dX2_begin_25 hf (fun σ6 hf => ?_)
        refine kx_iinc (v := (v3 + 1)) K [(1, .int (v3 + 1)), (0, .ref a0)] dX2_begin_26 1 rfl rfl (by decide) rfl ?_
        refine kx_goto K 12 dX2_begin_29 (by decide) ?_
        refine kx_sub [(0, .ref a0), (1, .int (v3 + 1))] [1, 0] rfl ?_
        exact ih12 _ _ hf
  unfold m_X2_begin at hf
  refine kx_aload_n K dX2_begin_0 rfl 0 rfl ?_
  refine kx_iconst (v := 0) K dX2_begin_1 (by decide) ?_
  refine kx_pi K f_X2_39 dX2_begin_2 hf (fun σ1 hf => ?_)
  refine kx_aload_n K dX2_begin_5 rfl 0 rfl ?_
  refine kx_iconst (v := 0) K dX2_begin_6 (by decide) ?_
  refine kx_pi K f_X2_43 dX2_begin_7 hf (fun σ2 hf => ?_)
  refine kx_iconst (v := 0) K dX2_begin_10 (by decide) ?_
  refine kx_istore_n K [(1, .int (0 : Int32)), (0, .ref a0)] dX2_begin_11 rfl (by decide) rfl ?_
  refine kx_sub [(0, .ref a0), (1, .int (0 : Int32))] [1, 0] rfl ?_
  exact B12 hN_f _ _ hf
def m_X2_queue_j71  (a0 : Nat) (a1 : Int32) (a2 : Int32) (σ17 : ac_H) : Option (Unit × ac_H) :=
  mo_gr σ17 a0 2 7 fun x18 =>
  mo_ui σ17 x18 0 a1 a2 fun σ19 =>
  mo_gr σ19 a0 2 8 fun x20 =>
  mo_ai σ19 x20 0 a1 fun x21 =>
  mo_ui σ19 x20 0 a1 (x21 + (1 : Int32)) fun σ22 =>
  mo_gi σ22 a0 2 10 fun x23 =>
  mo_pv σ22 a0 2 10 (.int (x23 + (1 : Int32))) fun σ24 =>
  some ((), σ24)
def m_X2_queue (σ : ac_H) (a0 : Nat) (a1 : Int32) (a2 : Int32) : Option (Unit × ac_H) :=
  if a1 < 0 then
  (some ((), σ))
  else
  (if a1 < (226 : Int32) then
  (if a2 < 0 then
  (some ((), σ))
  else
  (mo_gr σ a0 2 9 fun x1 =>
  mo_ln σ x1 fun x2 =>
  if a2 < x2 then
  (mo_gr σ a0 2 7 fun x3 =>
  mo_ai σ x3 0 a1 fun x4 =>
  mo_gr σ a0 2 8 fun x5 =>
  mo_ai σ x5 0 a1 fun x6 =>
  if 0 < x6 then
  (if x4 < 0 then
  (mo_gr σ a0 2 6 fun x9 =>
  mo_ui σ x9 0 a1 a2 fun σ10 =>
  m_X2_queue_j71 a0 a1 a2 σ10)
  else
  (mo_gr σ a0 2 9 fun x11 =>
  mo_ln σ x11 fun x12 =>
  if x4 < x12 then
  (mo_gr σ a0 2 9 fun x15 =>
  mo_ui σ x15 0 x4 a2 fun σ16 =>
  m_X2_queue_j71 a0 a1 a2 σ16)
  else
  (mo_gr σ a0 2 6 fun x13 =>
  mo_ui σ x13 0 a1 a2 fun σ14 =>
  m_X2_queue_j71 a0 a1 a2 σ14)))
  else
  (mo_gr σ a0 2 6 fun x7 =>
  mo_ui σ x7 0 a1 a2 fun σ8 =>
  m_X2_queue_j71 a0 a1 a2 σ8))
  else
  (some ((), σ))))
  else
  (some ((), σ)))
set_option maxRecDepth 100000 in
set_option maxHeartbeats 4000000 in
theorem k_X2_queue {Λ : ex_L} {q : Nat} {σ σ' : ac_H} {a0 : Nat} {a1 : Int32} {a2 : Int32} {v : Unit} (hf : m_X2_queue σ a0 a1 a2 = some (v, σ')) : kx_C Λ yX2_queue (.code yX2_queue cX2_queue 4 none) ({ frames := 0, cells := 0, slots := 0, locals := 0 } : Room) [.ref a0, .int a1, .int a2] q σ (.inr none) σ' (fun z => z = q) := by
  refine kx_in (by decide +kernel) (Nat.le_of_ble_eq_true rfl) ?_
  intro Γ K hnm hsz hQ
  refine kx_lv (lv' := [(0, .ref a0), (1, .int a1), (2, .int a2)]) rfl ?_
  have B71 : ∀ (σ17 : ac_H), m_X2_queue_j71 a0 a1 a2 σ17 = some (v, σ') → kx_S Λ Γ 4 (fun z => z = q) σ17 (0) (0) 71 [(0, .ref a0), (1, .int a1), (2, .int a2)] [] := by
    intro σ17 hf
    unfold m_X2_queue_j71 at hf
    refine kx_aload_n K dX2_queue_71 rfl 0 rfl ?_
    refine kx_gr K f_X2_30 dX2_queue_72 hf (fun x18 hf => ?_)
    refine kx_iload_n K dX2_queue_75 rfl 1 rfl ?_
    refine kx_iload_n K dX2_queue_76 rfl 2 rfl ?_
    refine kx_ui K dX2_queue_77 hf (fun σ19 hf => ?_)
    refine kx_aload_n K dX2_queue_78 rfl 0 rfl ?_
    refine kx_gr K f_X2_33 dX2_queue_79 hf (fun x20 hf => ?_)
    refine kx_iload_n K dX2_queue_82 rfl 1 rfl ?_
    refine kx_dup2 K dX2_queue_83 rfl rfl ?_
    refine kx_ai K dX2_queue_84 hf (fun x21 hf => ?_)
    refine kx_iconst (v := 1) K dX2_queue_85 (by decide) ?_
    refine kx_iadd K dX2_queue_86 ?_
    refine kx_ui K dX2_queue_87 hf (fun σ22 hf => ?_)
    refine kx_aload_n K dX2_queue_88 rfl 0 rfl ?_
    refine kx_dup K dX2_queue_89 rfl ?_
    refine kx_gi K f_X2_43 dX2_queue_90 hf (fun x23 hf => ?_)
    refine kx_iconst (v := 1) K dX2_queue_93 (by decide) ?_
    refine kx_iadd K dX2_queue_94 ?_
    refine kx_pi K f_X2_43 dX2_queue_95 hf (fun σ24 hf => ?_)
    exact kx_vret K hQ (by decide) (by decide) (fun _ h => h) dX2_queue_98 hf
  unfold m_X2_queue at hf
  refine kx_iload_n K dX2_queue_0 rfl 1 rfl ?_
  refine kx_if_lt K 24 hf dX2_queue_1 (by decide) (fun hf => ?_) (fun hf => ?_)
  · exact kx_vret K hQ (by decide) (by decide) (fun _ h => h) dX2_queue_24 hf
  · refine kx_iload_n K dX2_queue_4 rfl 1 rfl ?_
    refine kx_sipush (v := 226) K dX2_queue_5 (by decide) ?_
    refine kx_icmp_ge K 24 hf dX2_queue_8 (by decide) (fun hf => ?_) (fun hf => ?_)
    · exact kx_vret K hQ (by decide) (by decide) (fun _ h => h) dX2_queue_24 hf
    · refine kx_iload_n K dX2_queue_11 rfl 2 rfl ?_
      refine kx_if_lt K 24 hf dX2_queue_12 (by decide) (fun hf => ?_) (fun hf => ?_)
      · exact kx_vret K hQ (by decide) (by decide) (fun _ h => h) dX2_queue_24 hf
      · refine kx_iload_n K dX2_queue_15 rfl 2 rfl ?_
        refine kx_aload_n K dX2_queue_16 rfl 0 rfl ?_
        refine kx_gr K f_X2_36 dX2_queue_17 hf (fun x1 hf => ?_)
        refine kx_ln K dX2_queue_20 hf (fun x2 hf => ?_)
        refine kx_icmp_lt K 25 hf dX2_queue_21 (by decide) (fun hf => ?_) (fun hf => ?_)
        · refine kx_aload_n K dX2_queue_25 rfl 0 rfl ?_
          refine kx_gr K f_X2_30 dX2_queue_26 hf (fun x3 hf => ?_)
          refine kx_iload_n K dX2_queue_29 rfl 1 rfl ?_
          refine kx_ai K dX2_queue_30 hf (fun x4 hf => ?_)
          refine kx_istore_n K [(3, .int x4), (0, .ref a0), (1, .int a1), (2, .int a2)] dX2_queue_31 rfl (by decide) rfl ?_
          refine kx_aload_n K dX2_queue_32 rfl 1 rfl ?_
          refine kx_gr K f_X2_33 dX2_queue_33 hf (fun x5 hf => ?_)
          refine kx_iload_n K dX2_queue_36 rfl 2 rfl ?_
          refine kx_ai K dX2_queue_37 hf (fun x6 hf => ?_)
          refine kx_if_le K 64 hf dX2_queue_38 (by decide) (fun hf => ?_) (fun hf => ?_)
          · refine kx_aload_n K dX2_queue_64 rfl 1 rfl ?_
            refine kx_gr K f_X2_27 dX2_queue_65 hf (fun x7 hf => ?_)
            refine kx_iload_n K dX2_queue_68 rfl 2 rfl ?_
            refine kx_iload_n K dX2_queue_69 rfl 3 rfl ?_
            refine kx_ui K dX2_queue_70 hf (fun σ8 hf => ?_)
            refine kx_sub [(0, .ref a0), (1, .int a1), (2, .int a2)] [1, 2, 3] rfl ?_
            exact B71 _ hf
          · refine kx_iload_n K dX2_queue_41 rfl 0 rfl ?_
            refine kx_if_lt K 64 hf dX2_queue_42 (by decide) (fun hf => ?_) (fun hf => ?_)
            · refine kx_aload_n K dX2_queue_64 rfl 1 rfl ?_
              refine kx_gr K f_X2_27 dX2_queue_65 hf (fun x9 hf => ?_)
              refine kx_iload_n K dX2_queue_68 rfl 2 rfl ?_
              refine kx_iload_n K dX2_queue_69 rfl 3 rfl ?_
              refine kx_ui K dX2_queue_70 hf (fun σ10 hf => ?_)
              refine kx_sub [(0, .ref a0), (1, .int a1), (2, .int a2)] [1, 2, 3] rfl ?_
              exact B71 _ hf
            · refine kx_iload_n K dX2_queue_45 rfl 0 rfl ?_
              refine kx_aload_n K dX2_queue_46 rfl 1 rfl ?_
              refine kx_gr K f_X2_36 dX2_queue_47 hf (fun x11 hf => ?_)
              refine kx_ln K dX2_queue_50 hf (fun x12 hf => ?_)
              refine kx_icmp_ge K 64 hf dX2_queue_51 (by decide) (fun hf => ?_) (fun hf => ?_)
              · refine kx_aload_n K dX2_queue_64 rfl 1 rfl ?_
                refine kx_gr K f_X2_27 dX2_queue_65 hf (fun x13 hf => ?_)
                refine kx_iload_n K dX2_queue_68 rfl 2 rfl ?_
                refine kx_iload_n K dX2_queue_69 rfl 3 rfl ?_
                refine kx_ui K dX2_queue_70 hf (fun σ14 hf => ?_)
                refine kx_sub [(0, .ref a0), (1, .int a1), (2, .int a2)] [1, 2, 3] rfl ?_
                exact B71 _ hf
              · refine kx_aload_n K dX2_queue_54 rfl 1 rfl ?_
                refine kx_gr K f_X2_36 dX2_queue_55 hf (fun x15 hf => ?_)
                refine kx_iload_n K dX2_queue_58 rfl 0 rfl ?_
                refine kx_iload_n K dX2_queue_59 rfl 3 rfl ?_
                refine kx_ui K dX2_queue_60 hf (fun σ16 hf => ?_)
                refine kx_goto K 71 dX2_queue_61 (by decide) ?_
                refine kx_sub [(0, .ref a0), (1, .int a1), (2, .int a2)] [1, 2, 3] rfl ?_
                exact B71 _ hf
        · exact kx_vret K hQ (by decide) (by decide) (fun _ h => h) dX2_queue_24 hf
def m_X2_send_j118  (a0 : Nat) (a1 : Nat) (σ24 : ac_H) (v22 : Int32) (v23 : Int32) : Option (Unit × ac_H) :=
  mo_gr σ24 a0 2 3 fun x25 =>
  mo_ui σ24 x25 0 v22 v23 fun σ26 =>
  mo_cv σ26 a0 2 (m_X2_queue σ26 a0 v23 ((2 : Int32) * v22)) fun _ σ27 =>
  mo_cv σ27 a1 0 (m_X0_findFault σ27 a1 (1 : Int32) v22) fun x29 σ28 =>
  if x29 = (-1 : Int32) then
  (some ((), σ28))
  else
  (mo_gr σ28 a0 2 4 fun x30 =>
  mo_ui σ28 x30 0 v22 (v23 + (1 : Int32)) fun σ31 =>
  mo_cv σ31 a0 2 (m_X2_queue σ31 a0 (v23 + (1 : Int32)) (((2 : Int32) * v22) + (1 : Int32))) fun _ σ32 =>
  some ((), σ32))
def m_X2_send (σ : ac_H) (a0 : Nat) (a1 : Nat) (a2 : Int32) (a3 : Int32) (a4 : Int32) : Option (Unit × ac_H) :=
  mo_gi σ a0 2 5 fun x1 =>
  if x1 < 0 then
  (some ((), σ))
  else
  (if x1 < (120 : Int32) then
  (mo_gi σ a0 2 5 fun x2 =>
  mo_pv σ a0 2 5 (.int (x2 + (1 : Int32))) fun σ3 =>
  mo_gr σ3 a0 2 0 fun x4 =>
  mo_ui σ3 x4 0 x1 a2 fun σ5 =>
  mo_gr σ5 a0 2 1 fun x6 =>
  mo_ui σ5 x6 0 x1 a3 fun σ7 =>
  mo_gr σ7 a0 2 2 fun x8 =>
  mo_ui σ7 x8 0 x1 a4 fun σ9 =>
  mo_gr σ9 a0 2 3 fun x10 =>
  mo_ui σ9 x10 0 x1 (-1 : Int32) fun σ11 =>
  mo_gr σ11 a0 2 4 fun x12 =>
  mo_ui σ11 x12 0 x1 (-1 : Int32) fun σ13 =>
  mo_cv σ13 a1 0 (m_X0_findFault σ13 a1 (0 : Int32) x1) fun x15 σ14 =>
  if x15 = (-1 : Int32) then
  (mo_cv σ14 a1 0 (m_X0_setting σ14 a1 (3 : Int32)) fun x17 σ16 =>
  mo_cv σ16 a1 0 (m_X0_findFault σ16 a1 (2 : Int32) x1) fun x19 σ18 =>
  if x19 = (-1 : Int32) then
  (m_X2_send_j118 a0 a1 σ18 x1 (a2 + x17))
  else
  (mo_cv σ18 a1 0 (m_X0_faultPart σ18 a1 x19 (2 : Int32)) fun x21 σ20 =>
  m_X2_send_j118 a0 a1 σ20 x1 ((a2 + x17) + x21)))
  else
  (some ((), σ14)))
  else
  (some ((), σ)))
set_option maxRecDepth 100000 in
set_option maxHeartbeats 4000000 in
theorem k_X2_send {Λ : ex_L} {q : Nat} {σ σ' : ac_H} {a0 : Nat} {a1 : Nat} {a2 : Int32} {a3 : Int32} {a4 : Int32} {v : Unit} (hf : m_X2_send σ a0 a1 a2 a3 a4 = some (v, σ')) : kx_C Λ yX2_send (.code yX2_send cX2_send 8 none) ({ frames := 1, cells := 0, slots := 0, locals := 23 } : Room) [.ref a0, .ref a1, .int a2, .int a3, .int a4] q σ (.inr none) σ' (fun z => z = q) := by
  refine kx_in (by decide +kernel) (Nat.le_of_ble_eq_true rfl) ?_
  intro Γ K hnm hsz hQ
  refine kx_lv (lv' := [(0, .ref a0), (1, .ref a1), (2, .int a2), (3, .int a3), (4, .int a4)]) rfl ?_
  have B118 : ∀ (σ24 : ac_H) (v22 : Int32) (v23 : Int32), m_X2_send_j118 a0 a1 σ24 v22 v23 = some (v, σ') → kx_S Λ Γ 8 (fun z => z = q) σ24 (0) (0) 118 [(0, .ref a0), (1, .ref a1), (5, .int v22), (6, .int v23)] [] := by
    intro σ24 v22 v23 hf
    unfold m_X2_send_j118 at hf
    refine kx_aload_n K dX2_send_118 rfl 0 rfl ?_
    refine kx_gr K f_X2_21 dX2_send_119 hf (fun x25 hf => ?_)
    refine kx_iload K dX2_send_122 2 rfl ?_
    refine kx_iload K dX2_send_124 3 rfl ?_
    refine kx_ui K dX2_send_126 hf (fun σ26 hf => ?_)
    refine kx_aload_n K dX2_send_127 rfl 0 rfl ?_
    refine kx_iload K dX2_send_128 3 rfl ?_
    refine kx_iconst (v := 2) K dX2_send_130 (by decide) ?_
    refine kx_iload K dX2_send_131 2 rfl ?_
    refine kx_imul K dX2_send_133 ?_
    refine kx_cv2v K c_X2_59 ⟨by decide, by decide, rfl, rfl, (by decide), (by decide)⟩ (Nat.le_of_ble_eq_true rfl) dX2_send_134 hf (fun _ _ _ h => k_X2_queue h) (fun _ σ27 hf => ?_)
    refine kx_aload_n K dX2_send_137 rfl 1 rfl ?_
    refine kx_iconst (v := 1) K dX2_send_138 (by decide) ?_
    refine kx_iload K dX2_send_139 2 rfl ?_
    refine kx_cv2i K c_X2_46 ⟨by decide, by decide, rfl, rfl, (by decide), (by decide)⟩ (Nat.le_of_ble_eq_true rfl) dX2_send_141 hf (fun _ _ _ h => k_X0_findFault h) (fun x29 σ28 hf => ?_)
    refine kx_iconst (v := -1) K dX2_send_144 (by decide) ?_
    refine kx_icmp_eq K 173 hf dX2_send_145 (by decide) (fun hf => ?_) (fun hf => ?_)
    · exact kx_vret K hQ (by decide) (by decide) (fun _ h => h) dX2_send_173 hf
    · refine kx_aload_n K dX2_send_148 rfl 0 rfl ?_
      refine kx_gr K f_X2_24 dX2_send_149 hf (fun x30 hf => ?_)
      refine kx_iload K dX2_send_152 2 rfl ?_
      refine kx_iload K dX2_send_154 3 rfl ?_
      refine kx_iconst (v := 1) K dX2_send_156 (by decide) ?_
      refine kx_iadd K dX2_send_157 ?_
      refine kx_ui K dX2_send_158 hf (fun σ31 hf => ?_)
      refine kx_aload_n K dX2_send_159 rfl 0 rfl ?_
      refine kx_iload K dX2_send_160 3 rfl ?_
      refine kx_iconst (v := 1) K dX2_send_162 (by decide) ?_
      refine kx_iadd K dX2_send_163 ?_
      refine kx_iconst (v := 2) K dX2_send_164 (by decide) ?_
      refine kx_iload K dX2_send_165 2 rfl ?_
      refine kx_imul K dX2_send_167 ?_
      refine kx_iconst (v := 1) K dX2_send_168 (by decide) ?_
      refine kx_iadd K dX2_send_169 ?_
      refine kx_cv2v K c_X2_59 ⟨by decide, by decide, rfl, rfl, (by decide), (by decide)⟩ (Nat.le_of_ble_eq_true rfl) dX2_send_170 hf (fun _ _ _ h => k_X2_queue h) (fun _ σ32 hf => ?_)
      exact kx_vret K hQ (by decide) (by decide) (fun _ h => h) dX2_send_173 hf
  unfold m_X2_send at hf
  refine kx_aload_n K dX2_send_0 rfl 0 rfl ?_
  refine kx_gi K f_X2_39 dX2_send_1 hf (fun x1 hf => ?_)
  refine kx_istore K [(5, .int x1), (0, .ref a0), (1, .ref a1), (2, .int a2), (3, .int a3), (4, .int a4)] dX2_send_4 (by decide) rfl ?_
  refine kx_iload K dX2_send_6 0 rfl ?_
  refine kx_if_lt K 18 hf dX2_send_8 (by decide) (fun hf => ?_) (fun hf => ?_)
  · exact kx_vret K hQ (by decide) (by decide) (fun _ h => h) dX2_send_18 hf
  · refine kx_iload K dX2_send_11 0 rfl ?_
    refine kx_bipush (v := 120) K dX2_send_13 (by decide) ?_
    refine kx_icmp_lt K 19 hf dX2_send_15 (by decide) (fun hf => ?_) (fun hf => ?_)
    · refine kx_aload_n K dX2_send_19 rfl 1 rfl ?_
      refine kx_dup K dX2_send_20 rfl ?_
      refine kx_gi K f_X2_39 dX2_send_21 hf (fun x2 hf => ?_)
      refine kx_iconst (v := 1) K dX2_send_24 (by decide) ?_
      refine kx_iadd K dX2_send_25 ?_
      refine kx_pi K f_X2_39 dX2_send_26 hf (fun σ3 hf => ?_)
      refine kx_aload_n K dX2_send_29 rfl 1 rfl ?_
      refine kx_gr K f_X2_9 dX2_send_30 hf (fun x4 hf => ?_)
      refine kx_iload K dX2_send_33 0 rfl ?_
      refine kx_iload_n K dX2_send_35 rfl 3 rfl ?_
      refine kx_ui K dX2_send_36 hf (fun σ5 hf => ?_)
      refine kx_aload_n K dX2_send_37 rfl 1 rfl ?_
      refine kx_gr K f_X2_15 dX2_send_38 hf (fun x6 hf => ?_)
      refine kx_iload K dX2_send_41 0 rfl ?_
      refine kx_iload_n K dX2_send_43 rfl 4 rfl ?_
      refine kx_ui K dX2_send_44 hf (fun σ7 hf => ?_)
      refine kx_aload_n K dX2_send_45 rfl 1 rfl ?_
      refine kx_gr K f_X2_18 dX2_send_46 hf (fun x8 hf => ?_)
      refine kx_iload K dX2_send_49 0 rfl ?_
      refine kx_iload K dX2_send_51 5 rfl ?_
      refine kx_ui K dX2_send_53 hf (fun σ9 hf => ?_)
      refine kx_aload_n K dX2_send_54 rfl 1 rfl ?_
      refine kx_gr K f_X2_21 dX2_send_55 hf (fun x10 hf => ?_)
      refine kx_iload K dX2_send_58 0 rfl ?_
      refine kx_iconst (v := -1) K dX2_send_60 (by decide) ?_
      refine kx_ui K dX2_send_61 hf (fun σ11 hf => ?_)
      refine kx_aload_n K dX2_send_62 rfl 1 rfl ?_
      refine kx_gr K f_X2_24 dX2_send_63 hf (fun x12 hf => ?_)
      refine kx_iload K dX2_send_66 0 rfl ?_
      refine kx_iconst (v := -1) K dX2_send_68 (by decide) ?_
      refine kx_ui K dX2_send_69 hf (fun σ13 hf => ?_)
      refine kx_aload_n K dX2_send_70 rfl 2 rfl ?_
      refine kx_iconst (v := 0) K dX2_send_71 (by decide) ?_
      refine kx_iload K dX2_send_72 0 rfl ?_
      refine kx_cv2i K c_X2_46 ⟨by decide, by decide, rfl, rfl, (by decide), (by decide)⟩ (Nat.le_of_ble_eq_true rfl) dX2_send_74 hf (fun _ _ _ h => k_X0_findFault h) (fun x15 σ14 hf => ?_)
      refine kx_iconst (v := -1) K dX2_send_77 (by decide) ?_
      refine kx_icmp_eq K 82 hf dX2_send_78 (by decide) (fun hf => ?_) (fun hf => ?_)
      · refine kx_iload_n K dX2_send_82 rfl 3 rfl ?_
        refine kx_aload_n K dX2_send_83 rfl 2 rfl ?_
        refine kx_iconst (v := 3) K dX2_send_84 (by decide) ?_
        refine kx_cv1i K c_X2_52 ⟨by decide, by decide, rfl, rfl, (by decide), (by decide)⟩ (Nat.le_of_ble_eq_true rfl) dX2_send_85 hf (fun _ _ _ h => k_X0_setting h) (fun x17 σ16 hf => ?_)
        refine kx_iadd K dX2_send_88 ?_
        refine kx_istore K [(6, .int (a2 + x17)), (5, .int x1), (0, .ref a0), (1, .ref a1), (2, .int a2), (3, .int a3), (4, .int a4)] dX2_send_89 (by decide) rfl ?_
        refine kx_aload_n K dX2_send_91 rfl 3 rfl ?_
        refine kx_iconst (v := 2) K dX2_send_92 (by decide) ?_
        refine kx_iload K dX2_send_93 1 rfl ?_
        refine kx_cv2i K c_X2_46 ⟨by decide, by decide, rfl, rfl, (by decide), (by decide)⟩ (Nat.le_of_ble_eq_true rfl) dX2_send_95 hf (fun _ _ _ h => k_X0_findFault h) (fun x19 σ18 hf => ?_)
        refine kx_istore K [(7, .int x19), (6, .int (a2 + x17)), (5, .int x1), (0, .ref a0), (1, .ref a1), (2, .int a2), (3, .int a3), (4, .int a4)] dX2_send_98 (by decide) rfl ?_
        refine kx_iload K dX2_send_100 0 rfl ?_
        refine kx_iconst (v := -1) K dX2_send_102 (by decide) ?_
        refine kx_icmp_eq K 118 hf dX2_send_103 (by decide) (fun hf => ?_) (fun hf => ?_)
        · refine kx_sub [(0, .ref a0), (1, .ref a1), (5, .int x1), (6, .int (a2 + x17))] [3, 4, 2, 1] rfl ?_
          exact B118 _ _ _ hf
        · refine kx_iload K dX2_send_106 1 rfl ?_
          refine kx_aload_n K dX2_send_108 rfl 4 rfl ?_
          refine kx_iload K dX2_send_109 0 rfl ?_
          refine kx_iconst (v := 2) K dX2_send_111 (by decide) ?_
          refine kx_cv2i K c_X2_56 ⟨by decide, by decide, rfl, rfl, (by decide), (by decide)⟩ (Nat.le_of_ble_eq_true rfl) dX2_send_112 hf (fun _ _ _ h => k_X0_faultPart h) (fun x21 σ20 hf => ?_)
          refine kx_iadd K dX2_send_115 ?_
          refine kx_istore K [(6, .int ((a2 + x17) + x21)), (7, .int x19), (5, .int x1), (0, .ref a0), (1, .ref a1), (2, .int a2), (3, .int a3), (4, .int a4)] dX2_send_116 (by decide) rfl ?_
          refine kx_sub [(0, .ref a0), (1, .ref a1), (5, .int x1), (6, .int ((a2 + x17) + x21))] [3, 4, 2, 0] rfl ?_
          exact B118 _ _ _ hf
      · exact kx_vret K hQ (by decide) (by decide) (fun _ h => h) dX2_send_81 hf
    · exact kx_vret K hQ (by decide) (by decide) (fun _ h => h) dX2_send_18 hf
def m_X2_arrivalsIn (σ : ac_H) (a0 : Nat) (a1 : Int32) : Option (Int32 × ac_H) :=
  if a1 < 0 then
  (some ((0 : Int32), σ))
  else
  (if a1 < (226 : Int32) then
  (mo_gr σ a0 2 8 fun x1 =>
  mo_ai σ x1 0 a1 fun x2 =>
  some (x2, σ))
  else
  (some ((0 : Int32), σ)))
set_option maxRecDepth 100000 in
set_option maxHeartbeats 4000000 in
theorem k_X2_arrivalsIn {Λ : ex_L} {q : Nat} {σ σ' : ac_H} {a0 : Nat} {a1 : Int32} {v : Int32} (hf : m_X2_arrivalsIn σ a0 a1 = some (v, σ')) : kx_C Λ yX2_arrivalsIn (.code yX2_arrivalsIn cX2_arrivalsIn 2 (some .int)) ({ frames := 0, cells := 0, slots := 0, locals := 0 } : Room) [.ref a0, .int a1] q σ (.inr (some (.int v))) σ' (fun z => z = q) := by
  refine kx_in (by decide +kernel) (Nat.le_of_ble_eq_true rfl) ?_
  intro Γ K hnm hsz hQ
  refine kx_lv (lv' := [(0, .ref a0), (1, .int a1)]) rfl ?_
  unfold m_X2_arrivalsIn at hf
  refine kx_iload_n K dX2_arrivalsIn_0 rfl 1 rfl ?_
  refine kx_if_lt K 20 hf dX2_arrivalsIn_1 (by decide) (fun hf => ?_) (fun hf => ?_)
  · refine kx_iconst (v := 0) K dX2_arrivalsIn_20 (by decide) ?_
    exact kx_iret K hQ (by decide) (by decide) (fun _ h => h) dX2_arrivalsIn_21 hf
  · refine kx_iload_n K dX2_arrivalsIn_4 rfl 1 rfl ?_
    refine kx_sipush (v := 226) K dX2_arrivalsIn_5 (by decide) ?_
    refine kx_icmp_ge K 20 hf dX2_arrivalsIn_8 (by decide) (fun hf => ?_) (fun hf => ?_)
    · refine kx_iconst (v := 0) K dX2_arrivalsIn_20 (by decide) ?_
      exact kx_iret K hQ (by decide) (by decide) (fun _ h => h) dX2_arrivalsIn_21 hf
    · refine kx_aload_n K dX2_arrivalsIn_11 rfl 0 rfl ?_
      refine kx_gr K f_X2_33 dX2_arrivalsIn_12 hf (fun x1 hf => ?_)
      refine kx_iload_n K dX2_arrivalsIn_15 rfl 1 rfl ?_
      refine kx_ai K dX2_arrivalsIn_16 hf (fun x2 hf => ?_)
      refine kx_goto K 21 dX2_arrivalsIn_17 (by decide) ?_
      exact kx_iret K hQ (by decide) (by decide) (fun _ h => h) dX2_arrivalsIn_21 hf
def m_X2_firstArrivalIn (σ : ac_H) (a0 : Nat) (a1 : Int32) : Option (Int32 × ac_H) :=
  if a1 < 0 then
  (some ((-1 : Int32), σ))
  else
  (if a1 < (226 : Int32) then
  (mo_gr σ a0 2 6 fun x1 =>
  mo_ai σ x1 0 a1 fun x2 =>
  some (x2, σ))
  else
  (some ((-1 : Int32), σ)))
set_option maxRecDepth 100000 in
set_option maxHeartbeats 4000000 in
theorem k_X2_firstArrivalIn {Λ : ex_L} {q : Nat} {σ σ' : ac_H} {a0 : Nat} {a1 : Int32} {v : Int32} (hf : m_X2_firstArrivalIn σ a0 a1 = some (v, σ')) : kx_C Λ yX2_firstArrivalIn (.code yX2_firstArrivalIn cX2_firstArrivalIn 2 (some .int)) ({ frames := 0, cells := 0, slots := 0, locals := 0 } : Room) [.ref a0, .int a1] q σ (.inr (some (.int v))) σ' (fun z => z = q) := by
  refine kx_in (by decide +kernel) (Nat.le_of_ble_eq_true rfl) ?_
  intro Γ K hnm hsz hQ
  refine kx_lv (lv' := [(0, .ref a0), (1, .int a1)]) rfl ?_
  unfold m_X2_firstArrivalIn at hf
  refine kx_iload_n K dX2_firstArrivalIn_0 rfl 1 rfl ?_
  refine kx_if_lt K 20 hf dX2_firstArrivalIn_1 (by decide) (fun hf => ?_) (fun hf => ?_)
  · refine kx_iconst (v := -1) K dX2_firstArrivalIn_20 (by decide) ?_
    exact kx_iret K hQ (by decide) (by decide) (fun _ h => h) dX2_firstArrivalIn_21 hf
  · refine kx_iload_n K dX2_firstArrivalIn_4 rfl 1 rfl ?_
    refine kx_sipush (v := 226) K dX2_firstArrivalIn_5 (by decide) ?_
    refine kx_icmp_ge K 20 hf dX2_firstArrivalIn_8 (by decide) (fun hf => ?_) (fun hf => ?_)
    · refine kx_iconst (v := -1) K dX2_firstArrivalIn_20 (by decide) ?_
      exact kx_iret K hQ (by decide) (by decide) (fun _ h => h) dX2_firstArrivalIn_21 hf
    · refine kx_aload_n K dX2_firstArrivalIn_11 rfl 0 rfl ?_
      refine kx_gr K f_X2_27 dX2_firstArrivalIn_12 hf (fun x1 hf => ?_)
      refine kx_iload_n K dX2_firstArrivalIn_15 rfl 1 rfl ?_
      refine kx_ai K dX2_firstArrivalIn_16 hf (fun x2 hf => ?_)
      refine kx_goto K 21 dX2_firstArrivalIn_17 (by decide) ?_
      exact kx_iret K hQ (by decide) (by decide) (fun _ h => h) dX2_firstArrivalIn_21 hf
def m_X2_arrivalBehind (σ : ac_H) (a0 : Nat) (a1 : Int32) : Option (Int32 × ac_H) :=
  if a1 < 0 then
  (some ((-1 : Int32), σ))
  else
  (mo_gr σ a0 2 9 fun x1 =>
  mo_ln σ x1 fun x2 =>
  if a1 < x2 then
  (mo_gr σ a0 2 9 fun x3 =>
  mo_ai σ x3 0 a1 fun x4 =>
  some (x4, σ))
  else
  (some ((-1 : Int32), σ)))
set_option maxRecDepth 100000 in
set_option maxHeartbeats 4000000 in
theorem k_X2_arrivalBehind {Λ : ex_L} {q : Nat} {σ σ' : ac_H} {a0 : Nat} {a1 : Int32} {v : Int32} (hf : m_X2_arrivalBehind σ a0 a1 = some (v, σ')) : kx_C Λ yX2_arrivalBehind (.code yX2_arrivalBehind cX2_arrivalBehind 2 (some .int)) ({ frames := 0, cells := 0, slots := 0, locals := 0 } : Room) [.ref a0, .int a1] q σ (.inr (some (.int v))) σ' (fun z => z = q) := by
  refine kx_in (by decide +kernel) (Nat.le_of_ble_eq_true rfl) ?_
  intro Γ K hnm hsz hQ
  refine kx_lv (lv' := [(0, .ref a0), (1, .int a1)]) rfl ?_
  unfold m_X2_arrivalBehind at hf
  refine kx_iload_n K dX2_arrivalBehind_0 rfl 1 rfl ?_
  refine kx_if_lt K 22 hf dX2_arrivalBehind_1 (by decide) (fun hf => ?_) (fun hf => ?_)
  · refine kx_iconst (v := -1) K dX2_arrivalBehind_22 (by decide) ?_
    exact kx_iret K hQ (by decide) (by decide) (fun _ h => h) dX2_arrivalBehind_23 hf
  · refine kx_iload_n K dX2_arrivalBehind_4 rfl 1 rfl ?_
    refine kx_aload_n K dX2_arrivalBehind_5 rfl 0 rfl ?_
    refine kx_gr K f_X2_36 dX2_arrivalBehind_6 hf (fun x1 hf => ?_)
    refine kx_ln K dX2_arrivalBehind_9 hf (fun x2 hf => ?_)
    refine kx_icmp_ge K 22 hf dX2_arrivalBehind_10 (by decide) (fun hf => ?_) (fun hf => ?_)
    · refine kx_iconst (v := -1) K dX2_arrivalBehind_22 (by decide) ?_
      exact kx_iret K hQ (by decide) (by decide) (fun _ h => h) dX2_arrivalBehind_23 hf
    · refine kx_aload_n K dX2_arrivalBehind_13 rfl 0 rfl ?_
      refine kx_gr K f_X2_36 dX2_arrivalBehind_14 hf (fun x3 hf => ?_)
      refine kx_iload_n K dX2_arrivalBehind_17 rfl 1 rfl ?_
      refine kx_ai K dX2_arrivalBehind_18 hf (fun x4 hf => ?_)
      refine kx_goto K 23 dX2_arrivalBehind_19 (by decide) ?_
      exact kx_iret K hQ (by decide) (by decide) (fun _ h => h) dX2_arrivalBehind_23 hf
def m_X2_arrive (σ : ac_H) (a0 : Nat) : Option (Unit × ac_H) :=
  mo_gi σ a0 2 10 fun x1 =>
  mo_pv σ a0 2 10 (.int (x1 - (1 : Int32))) fun σ2 =>
  some ((), σ2)
set_option maxRecDepth 100000 in
set_option maxHeartbeats 4000000 in
theorem k_X2_arrive {Λ : ex_L} {q : Nat} {σ σ' : ac_H} {a0 : Nat} {v : Unit} (hf : m_X2_arrive σ a0 = some (v, σ')) : kx_C Λ yX2_arrive (.code yX2_arrive cX2_arrive 1 none) ({ frames := 0, cells := 0, slots := 0, locals := 0 } : Room) [.ref a0] q σ (.inr none) σ' (fun z => z = q) := by
  refine kx_in (by decide +kernel) (Nat.le_of_ble_eq_true rfl) ?_
  intro Γ K hnm hsz hQ
  refine kx_lv (lv' := [(0, .ref a0)]) rfl ?_
  unfold m_X2_arrive at hf
  refine kx_aload_n K dX2_arrive_0 rfl 0 rfl ?_
  refine kx_dup K dX2_arrive_1 rfl ?_
  refine kx_gi K f_X2_43 dX2_arrive_2 hf (fun x1 hf => ?_)
  refine kx_iconst (v := 1) K dX2_arrive_5 (by decide) ?_
  refine kx_isub K dX2_arrive_6 ?_
  refine kx_pi K f_X2_43 dX2_arrive_7 hf (fun σ2 hf => ?_)
  exact kx_vret K hQ (by decide) (by decide) (fun _ h => h) dX2_arrive_10 hf
def m_X2_isEmpty (σ : ac_H) (a0 : Nat) : Option (Int32 × ac_H) :=
  mo_gi σ a0 2 10 fun x1 =>
  if 0 < x1 then
  (mo_z (0 : Int32) (some ((0 : Int32), σ)))
  else
  (mo_z (1 : Int32) (some ((1 : Int32), σ)))
set_option maxRecDepth 100000 in
set_option maxHeartbeats 4000000 in
theorem k_X2_isEmpty {Λ : ex_L} {q : Nat} {σ σ' : ac_H} {a0 : Nat} {v : Int32} (hf : m_X2_isEmpty σ a0 = some (v, σ')) : kx_C Λ yX2_isEmpty (.code yX2_isEmpty cX2_isEmpty 1 (some .boolean)) ({ frames := 0, cells := 0, slots := 0, locals := 0 } : Room) [.ref a0] q σ (.inr (some (.int v))) σ' (fun z => z = q) := by
  refine kx_in (by decide +kernel) (Nat.le_of_ble_eq_true rfl) ?_
  intro Γ K hnm hsz hQ
  refine kx_lv (lv' := [(0, .ref a0)]) rfl ?_
  unfold m_X2_isEmpty at hf
  refine kx_aload_n K dX2_isEmpty_0 rfl 0 rfl ?_
  refine kx_gi K f_X2_43 dX2_isEmpty_1 hf (fun x1 hf => ?_)
  refine kx_if_gt K 11 hf dX2_isEmpty_4 (by decide) (fun hf => ?_) (fun hf => ?_)
  · refine kx_iconst (v := 0) K dX2_isEmpty_11 (by decide) ?_
    exact kx_zret K hQ (by decide) (by decide) (fun _ h => h) dX2_isEmpty_12 hf
  · refine kx_iconst (v := 1) K dX2_isEmpty_7 (by decide) ?_
    refine kx_goto K 12 dX2_isEmpty_8 (by decide) ?_
    exact kx_zret K hQ (by decide) (by decide) (fun _ h => h) dX2_isEmpty_12 hf
def m_X2_sentCount (σ : ac_H) (a0 : Nat) : Option (Int32 × ac_H) :=
  mo_gi σ a0 2 5 fun x1 =>
  some (x1, σ)
set_option maxRecDepth 100000 in
set_option maxHeartbeats 4000000 in
theorem k_X2_sentCount {Λ : ex_L} {q : Nat} {σ σ' : ac_H} {a0 : Nat} {v : Int32} (hf : m_X2_sentCount σ a0 = some (v, σ')) : kx_C Λ yX2_sentCount (.code yX2_sentCount cX2_sentCount 1 (some .int)) ({ frames := 0, cells := 0, slots := 0, locals := 0 } : Room) [.ref a0] q σ (.inr (some (.int v))) σ' (fun z => z = q) := by
  refine kx_in (by decide +kernel) (Nat.le_of_ble_eq_true rfl) ?_
  intro Γ K hnm hsz hQ
  refine kx_lv (lv' := [(0, .ref a0)]) rfl ?_
  unfold m_X2_sentCount at hf
  refine kx_aload_n K dX2_sentCount_0 rfl 0 rfl ?_
  refine kx_gi K f_X2_39 dX2_sentCount_1 hf (fun x1 hf => ?_)
  exact kx_iret K hQ (by decide) (by decide) (fun _ h => h) dX2_sentCount_4 hf
def m_X2_sentPart (σ : ac_H) (a0 : Nat) (a1 : Int32) (a2 : Int32) : Option (Int32 × ac_H) :=
  if a1 < 0 then
  (some ((-1 : Int32), σ))
  else
  (mo_gi σ a0 2 5 fun x1 =>
  if a1 < x1 then
  (if a1 < (120 : Int32) then
  (if a2 = (0 : Int32) then
  (mo_gr σ a0 2 0 fun x2 =>
  mo_ai σ x2 0 a1 fun x3 =>
  some (x3, σ))
  else
  if a2 = (1 : Int32) then
  (mo_gr σ a0 2 1 fun x5 =>
  mo_ai σ x5 0 a1 fun x6 =>
  some (x6, σ))
  else
  if a2 = (2 : Int32) then
  (mo_gr σ a0 2 2 fun x8 =>
  mo_ai σ x8 0 a1 fun x9 =>
  some (x9, σ))
  else
  if a2 = (3 : Int32) then
  (mo_gr σ a0 2 3 fun x11 =>
  mo_ai σ x11 0 a1 fun x12 =>
  some (x12, σ))
  else
  (mo_gr σ a0 2 4 fun x14 =>
  mo_ai σ x14 0 a1 fun x15 =>
  some (x15, σ)))
  else
  (some ((-1 : Int32), σ)))
  else
  (some ((-1 : Int32), σ)))
set_option maxRecDepth 100000 in
set_option maxHeartbeats 4000000 in
theorem k_X2_sentPart {Λ : ex_L} {q : Nat} {σ σ' : ac_H} {a0 : Nat} {a1 : Int32} {a2 : Int32} {v : Int32} (hf : m_X2_sentPart σ a0 a1 a2 = some (v, σ')) : kx_C Λ yX2_sentPart (.code yX2_sentPart cX2_sentPart 3 (some .int)) ({ frames := 0, cells := 0, slots := 0, locals := 0 } : Room) [.ref a0, .int a1, .int a2] q σ (.inr (some (.int v))) σ' (fun z => z = q) := by
  refine kx_in (by decide +kernel) (Nat.le_of_ble_eq_true rfl) ?_
  intro Γ K hnm hsz hQ
  refine kx_lv (lv' := [(0, .ref a0), (1, .int a1), (2, .int a2)]) rfl ?_
  unfold m_X2_sentPart at hf
  refine kx_iload_n K dX2_sentPart_0 rfl 1 rfl ?_
  refine kx_if_lt K 18 hf dX2_sentPart_1 (by decide) (fun hf => ?_) (fun hf => ?_)
  · refine kx_iconst (v := -1) K dX2_sentPart_18 (by decide) ?_
    exact kx_iret K hQ (by decide) (by decide) (fun _ h => h) dX2_sentPart_19 hf
  · refine kx_iload_n K dX2_sentPart_4 rfl 1 rfl ?_
    refine kx_aload_n K dX2_sentPart_5 rfl 0 rfl ?_
    refine kx_gi K f_X2_39 dX2_sentPart_6 hf (fun x1 hf => ?_)
    refine kx_icmp_ge K 18 hf dX2_sentPart_9 (by decide) (fun hf => ?_) (fun hf => ?_)
    · refine kx_iconst (v := -1) K dX2_sentPart_18 (by decide) ?_
      exact kx_iret K hQ (by decide) (by decide) (fun _ h => h) dX2_sentPart_19 hf
    · refine kx_iload_n K dX2_sentPart_12 rfl 1 rfl ?_
      refine kx_bipush (v := 120) K dX2_sentPart_13 (by decide) ?_
      refine kx_icmp_lt K 20 hf dX2_sentPart_15 (by decide) (fun hf => ?_) (fun hf => ?_)
      · refine kx_iload_n K dX2_sentPart_20 rfl 2 rfl ?_
        refine kx_swI (c := 0) K 52 dX2_sentPart_21 (by decide) (by decide) rfl (by decide) hf (fun hf => ?_) (fun h4 hf => ?_)
        · refine kx_aload_n K dX2_sentPart_52 rfl 0 rfl ?_
          refine kx_gr K f_X2_9 dX2_sentPart_53 hf (fun x2 hf => ?_)
          refine kx_iload_n K dX2_sentPart_56 rfl 1 rfl ?_
          refine kx_ai K dX2_sentPart_57 hf (fun x3 hf => ?_)
          exact kx_iret K hQ (by decide) (by decide) (fun _ h => h) dX2_sentPart_58 hf
        refine kx_swI (c := 1) K 59 dX2_sentPart_21 (by decide) (by decide) rfl (by decide) hf (fun hf => ?_) (fun h7 hf => ?_)
        · refine kx_aload_n K dX2_sentPart_59 rfl 0 rfl ?_
          refine kx_gr K f_X2_15 dX2_sentPart_60 hf (fun x5 hf => ?_)
          refine kx_iload_n K dX2_sentPart_63 rfl 1 rfl ?_
          refine kx_ai K dX2_sentPart_64 hf (fun x6 hf => ?_)
          exact kx_iret K hQ (by decide) (by decide) (fun _ h => h) dX2_sentPart_65 hf
        refine kx_swI (c := 2) K 66 dX2_sentPart_21 (by decide) (by decide) rfl (by decide) hf (fun hf => ?_) (fun h10 hf => ?_)
        · refine kx_aload_n K dX2_sentPart_66 rfl 0 rfl ?_
          refine kx_gr K f_X2_18 dX2_sentPart_67 hf (fun x8 hf => ?_)
          refine kx_iload_n K dX2_sentPart_70 rfl 1 rfl ?_
          refine kx_ai K dX2_sentPart_71 hf (fun x9 hf => ?_)
          exact kx_iret K hQ (by decide) (by decide) (fun _ h => h) dX2_sentPart_72 hf
        refine kx_swI (c := 3) K 73 dX2_sentPart_21 (by decide) (by decide) rfl (by decide) hf (fun hf => ?_) (fun h13 hf => ?_)
        · refine kx_aload_n K dX2_sentPart_73 rfl 0 rfl ?_
          refine kx_gr K f_X2_21 dX2_sentPart_74 hf (fun x11 hf => ?_)
          refine kx_iload_n K dX2_sentPart_77 rfl 1 rfl ?_
          refine kx_ai K dX2_sentPart_78 hf (fun x12 hf => ?_)
          exact kx_iret K hQ (by decide) (by decide) (fun _ h => h) dX2_sentPart_79 hf
        refine kx_swD K 80 dX2_sentPart_21 (by have := lv_neT h4 (show (0 : Int32).toInt = 0 by decide); have := lv_neT h7 (show (1 : Int32).toInt = 1 by decide); have := lv_neT h10 (show (2 : Int32).toInt = 2 by decide); have := lv_neT h13 (show (3 : Int32).toInt = 3 by decide); omega) (by decide) ?_
        refine kx_aload_n K dX2_sentPart_80 rfl 0 rfl ?_
        refine kx_gr K f_X2_24 dX2_sentPart_81 hf (fun x14 hf => ?_)
        refine kx_iload_n K dX2_sentPart_84 rfl 1 rfl ?_
        refine kx_ai K dX2_sentPart_85 hf (fun x15 hf => ?_)
        exact kx_iret K hQ (by decide) (by decide) (fun _ h => h) dX2_sentPart_86 hf
      · refine kx_iconst (v := -1) K dX2_sentPart_18 (by decide) ?_
        exact kx_iret K hQ (by decide) (by decide) (fun _ h => h) dX2_sentPart_19 hf
def m_X2_repeatedData_l6  (a0 : Nat) : Nat → ac_H → Int32 → Int32 → Int32 → Option (Int32 × ac_H)
  | 0, _, _, _, _ => none
  | n + 1, σ4, v1, v2, v3 =>
    if v3 < (120 : Int32) then
    (mo_gi σ4 a0 2 5 fun x5 =>
    if v3 < x5 then
    (mo_gr σ4 a0 2 1 fun x6 =>
    mo_ai σ4 x6 0 v3 fun x7 =>
    if x7 = 0 then
    (mo_gr σ4 a0 2 2 fun x8 =>
    mo_ai σ4 x8 0 v3 fun x9 =>
    mo_gr σ4 a0 2 2 fun x10 =>
    mo_ai σ4 x10 0 v3 fun x11 =>
    m_X2_repeatedData_l6 a0 n σ4 (v1 ||| ((1 : Int32) <<< (x11 &&& 31))) (v2 + ((v1 >>> (x9 &&& 31)) &&& (1 : Int32))) (v3 + 1))
    else
    (m_X2_repeatedData_l6 a0 n σ4 v1 v2 (v3 + 1)))
    else
    (some (v2, σ4)))
    else
    (some (v2, σ4))
def m_X2_repeatedData (σ : ac_H) (a0 : Nat) : Option (Int32 × ac_H) :=
  m_X2_repeatedData_l6 a0 hN_f σ (0 : Int32) (0 : Int32) (0 : Int32)
set_option maxRecDepth 100000 in
set_option maxHeartbeats 4000000 in
theorem k_X2_repeatedData {Λ : ex_L} {q : Nat} {σ σ' : ac_H} {a0 : Nat} {v : Int32} (hf : m_X2_repeatedData σ a0 = some (v, σ')) : kx_C Λ yX2_repeatedData (.code yX2_repeatedData cX2_repeatedData 4 (some .int)) ({ frames := 0, cells := 0, slots := 0, locals := 0 } : Room) [.ref a0] q σ (.inr (some (.int v))) σ' (fun z => z = q) := by
  refine kx_in (by decide +kernel) (Nat.le_of_ble_eq_true rfl) ?_
  intro Γ K hnm hsz hQ
  refine kx_lv (lv' := [(0, .ref a0)]) rfl ?_
  have B6 : ∀ (n6 : Nat) (σ4 : ac_H) (v1 : Int32) (v2 : Int32) (v3 : Int32), m_X2_repeatedData_l6 a0 n6 σ4 v1 v2 v3 = some (v, σ') → kx_S Λ Γ 4 (fun z => z = q) σ4 (0) (0) 6 [(0, .ref a0), (1, .int v1), (2, .int v2), (3, .int v3)] [] := by
    intro n6
    induction n6 with
    | zero =>
      intro σ4 v1 v2 v3 hf
      rw [m_X2_repeatedData_l6] at hf
      cases hf
    | succ n6 ih6 =>
      intro σ4 v1 v2 v3 hf
      rw [m_X2_repeatedData_l6] at hf
      refine kx_iload_n K dX2_repeatedData_6 rfl 3 rfl ?_
      refine kx_bipush (v := 120) K dX2_repeatedData_7 (by decide) ?_
      refine kx_icmp_ge K 59 hf dX2_repeatedData_9 (by decide) (fun hf => ?_) (fun hf => ?_)
      · refine kx_iload_n K dX2_repeatedData_59 rfl 2 rfl ?_
        exact kx_iret K hQ (by decide) (by decide) (fun _ h => h) dX2_repeatedData_60 hf
      · refine kx_iload_n K dX2_repeatedData_12 rfl 3 rfl ?_
        refine kx_aload_n K dX2_repeatedData_13 rfl 0 rfl ?_
        refine kx_gi K f_X2_39 dX2_repeatedData_14 hf (fun x5 hf => ?_)
        refine kx_icmp_ge K 59 hf dX2_repeatedData_17 (by decide) (fun hf => ?_) (fun hf => ?_)
        · refine kx_iload_n K dX2_repeatedData_59 rfl 2 rfl ?_
          exact kx_iret K hQ (by decide) (by decide) (fun _ h => h) dX2_repeatedData_60 hf
        · refine kx_aload_n K dX2_repeatedData_20 rfl 0 rfl ?_
          refine kx_gr K f_X2_15 dX2_repeatedData_21 hf (fun x6 hf => ?_)
          refine kx_iload_n K dX2_repeatedData_24 rfl 3 rfl ?_
          refine kx_ai K dX2_repeatedData_25 hf (fun x7 hf => ?_)
          refine kx_if_ne K 53 hf dX2_repeatedData_26 (by decide) (fun hf => ?_) (fun hf => ?_)
          · refine kx_iinc (v := (v3 + 1)) K [(3, .int (v3 + 1)), (0, .ref a0), (1, .int v1), (2, .int v2)] dX2_repeatedData_53 3 rfl rfl (by decide) rfl ?_
            refine kx_goto K 6 dX2_repeatedData_56 (by decide) ?_
            refine kx_sub [(0, .ref a0), (1, .int v1), (2, .int v2), (3, .int (v3 + 1))] [1, 2, 3, 0] rfl ?_
            exact ih6 _ _ _ _ hf
          · refine kx_iload_n K dX2_repeatedData_29 rfl 2 rfl ?_
            refine kx_iload_n K dX2_repeatedData_30 rfl 1 rfl ?_
            refine kx_aload_n K dX2_repeatedData_31 rfl 0 rfl ?_
            refine kx_gr K f_X2_18 dX2_repeatedData_32 hf (fun x8 hf => ?_)
            refine kx_iload_n K dX2_repeatedData_35 rfl 3 rfl ?_
            refine kx_ai K dX2_repeatedData_36 hf (fun x9 hf => ?_)
            refine kx_ishr K dX2_repeatedData_37 ?_
            refine kx_iconst (v := 1) K dX2_repeatedData_38 (by decide) ?_
            refine kx_iand K dX2_repeatedData_39 ?_
            refine kx_iadd K dX2_repeatedData_40 ?_
            refine kx_istore_n K [(2, .int (v2 + ((v1 >>> (x9 &&& 31)) &&& (1 : Int32)))), (0, .ref a0), (1, .int v1), (3, .int v3)] dX2_repeatedData_41 rfl (by decide) rfl ?_
            refine kx_iload_n K dX2_repeatedData_42 rfl 2 rfl ?_
            refine kx_iconst (v := 1) K dX2_repeatedData_43 (by decide) ?_
            refine kx_aload_n K dX2_repeatedData_44 rfl 1 rfl ?_
            refine kx_gr K f_X2_18 dX2_repeatedData_45 hf (fun x10 hf => ?_)
            refine kx_iload_n K dX2_repeatedData_48 rfl 3 rfl ?_
            refine kx_ai K dX2_repeatedData_49 hf (fun x11 hf => ?_)
            refine kx_ishl K dX2_repeatedData_50 ?_
            refine kx_ior K dX2_repeatedData_51 ?_
            refine kx_istore_n K [(1, .int (v1 ||| ((1 : Int32) <<< (x11 &&& 31)))), (2, .int (v2 + ((v1 >>> (x9 &&& 31)) &&& (1 : Int32)))), (0, .ref a0), (3, .int v3)] dX2_repeatedData_52 rfl (by decide) rfl ?_
            refine kx_iinc (v := (v3 + 1)) K [(3, .int (v3 + 1)), (1, .int (v1 ||| ((1 : Int32) <<< (x11 &&& 31)))), (2, .int (v2 + ((v1 >>> (x9 &&& 31)) &&& (1 : Int32)))), (0, .ref a0)] dX2_repeatedData_53 3 rfl rfl (by decide) rfl ?_
            refine kx_goto K 6 dX2_repeatedData_56 (by decide) ?_
            refine kx_sub [(0, .ref a0), (1, .int (v1 ||| ((1 : Int32) <<< (x11 &&& 31)))), (2, .int (v2 + ((v1 >>> (x9 &&& 31)) &&& (1 : Int32)))), (3, .int (v3 + 1))] [3, 1, 2, 0] rfl ?_
            exact ih6 _ _ _ _ hf
  unfold m_X2_repeatedData at hf
  refine kx_iconst (v := 0) K dX2_repeatedData_0 (by decide) ?_
  refine kx_istore_n K [(1, .int (0 : Int32)), (0, .ref a0)] dX2_repeatedData_1 rfl (by decide) rfl ?_
  refine kx_iconst (v := 0) K dX2_repeatedData_2 (by decide) ?_
  refine kx_istore_n K [(2, .int (0 : Int32)), (1, .int (0 : Int32)), (0, .ref a0)] dX2_repeatedData_3 rfl (by decide) rfl ?_
  refine kx_iconst (v := 0) K dX2_repeatedData_4 (by decide) ?_
  refine kx_istore_n K [(3, .int (0 : Int32)), (2, .int (0 : Int32)), (1, .int (0 : Int32)), (0, .ref a0)] dX2_repeatedData_5 rfl (by decide) rfl ?_
  refine kx_sub [(0, .ref a0), (1, .int (0 : Int32)), (2, .int (0 : Int32)), (3, .int (0 : Int32))] [3, 2, 1, 0] rfl ?_
  exact B6 hN_f _ _ _ _ hf
def m_X2_answers_l4  (a0 : Nat) : Nat → ac_H → Int32 → Int32 → Option (Int32 × ac_H)
  | 0, _, _, _ => none
  | n + 1, σ3, v1, v2 =>
    if v2 < (120 : Int32) then
    (mo_gi σ3 a0 2 5 fun x4 =>
    if v2 < x4 then
    (mo_gr σ3 a0 2 1 fun x5 =>
    mo_ai σ3 x5 0 v2 fun x6 =>
    if x6 = (1 : Int32) then
    (m_X2_answers_l4 a0 n σ3 (v1 + 1) (v2 + 1))
    else
    (m_X2_answers_l4 a0 n σ3 v1 (v2 + 1)))
    else
    (some (v1, σ3)))
    else
    (some (v1, σ3))
def m_X2_answers (σ : ac_H) (a0 : Nat) : Option (Int32 × ac_H) :=
  m_X2_answers_l4 a0 hN_f σ (0 : Int32) (0 : Int32)
set_option maxRecDepth 100000 in
set_option maxHeartbeats 4000000 in
theorem k_X2_answers {Λ : ex_L} {q : Nat} {σ σ' : ac_H} {a0 : Nat} {v : Int32} (hf : m_X2_answers σ a0 = some (v, σ')) : kx_C Λ yX2_answers (.code yX2_answers cX2_answers 3 (some .int)) ({ frames := 0, cells := 0, slots := 0, locals := 0 } : Room) [.ref a0] q σ (.inr (some (.int v))) σ' (fun z => z = q) := by
  refine kx_in (by decide +kernel) (Nat.le_of_ble_eq_true rfl) ?_
  intro Γ K hnm hsz hQ
  refine kx_lv (lv' := [(0, .ref a0)]) rfl ?_
  have B4 : ∀ (n4 : Nat) (σ3 : ac_H) (v1 : Int32) (v2 : Int32), m_X2_answers_l4 a0 n4 σ3 v1 v2 = some (v, σ') → kx_S Λ Γ 3 (fun z => z = q) σ3 (0) (0) 4 [(0, .ref a0), (1, .int v1), (2, .int v2)] [] := by
    intro n4
    induction n4 with
    | zero =>
      intro σ3 v1 v2 hf
      rw [m_X2_answers_l4] at hf
      cases hf
    | succ n4 ih4 =>
      intro σ3 v1 v2 hf
      rw [m_X2_answers_l4] at hf
      refine kx_iload_n K dX2_answers_4 rfl 2 rfl ?_
      refine kx_bipush (v := 120) K dX2_answers_5 (by decide) ?_
      refine kx_icmp_ge K 37 hf dX2_answers_7 (by decide) (fun hf => ?_) (fun hf => ?_)
      · refine kx_iload_n K dX2_answers_37 rfl 1 rfl ?_
        exact kx_iret K hQ (by decide) (by decide) (fun _ h => h) dX2_answers_38 hf
      · refine kx_iload_n K dX2_answers_10 rfl 2 rfl ?_
        refine kx_aload_n K dX2_answers_11 rfl 0 rfl ?_
        refine kx_gi K f_X2_39 dX2_answers_12 hf (fun x4 hf => ?_)
        refine kx_icmp_ge K 37 hf dX2_answers_15 (by decide) (fun hf => ?_) (fun hf => ?_)
        · refine kx_iload_n K dX2_answers_37 rfl 1 rfl ?_
          exact kx_iret K hQ (by decide) (by decide) (fun _ h => h) dX2_answers_38 hf
        · refine kx_aload_n K dX2_answers_18 rfl 0 rfl ?_
          refine kx_gr K f_X2_15 dX2_answers_19 hf (fun x5 hf => ?_)
          refine kx_iload_n K dX2_answers_22 rfl 2 rfl ?_
          refine kx_ai K dX2_answers_23 hf (fun x6 hf => ?_)
          refine kx_iconst (v := 1) K dX2_answers_24 (by decide) ?_
          refine kx_icmp_ne K 31 hf dX2_answers_25 (by decide) (fun hf => ?_) (fun hf => ?_)
          · refine kx_iinc (v := (v2 + 1)) K [(2, .int (v2 + 1)), (0, .ref a0), (1, .int v1)] dX2_answers_31 2 rfl rfl (by decide) rfl ?_
            refine kx_goto K 4 dX2_answers_34 (by decide) ?_
            refine kx_sub [(0, .ref a0), (1, .int v1), (2, .int (v2 + 1))] [1, 2, 0] rfl ?_
            exact ih4 _ _ _ hf
          · refine kx_iinc (v := (v1 + 1)) K [(1, .int (v1 + 1)), (0, .ref a0), (2, .int v2)] dX2_answers_28 1 rfl rfl (by decide) rfl ?_
            refine kx_iinc (v := (v2 + 1)) K [(2, .int (v2 + 1)), (1, .int (v1 + 1)), (0, .ref a0)] dX2_answers_31 2 rfl rfl (by decide) rfl ?_
            refine kx_goto K 4 dX2_answers_34 (by decide) ?_
            refine kx_sub [(0, .ref a0), (1, .int (v1 + 1)), (2, .int (v2 + 1))] [2, 1, 0] rfl ?_
            exact ih4 _ _ _ hf
  unfold m_X2_answers at hf
  refine kx_iconst (v := 0) K dX2_answers_0 (by decide) ?_
  refine kx_istore_n K [(1, .int (0 : Int32)), (0, .ref a0)] dX2_answers_1 rfl (by decide) rfl ?_
  refine kx_iconst (v := 0) K dX2_answers_2 (by decide) ?_
  refine kx_istore_n K [(2, .int (0 : Int32)), (1, .int (0 : Int32)), (0, .ref a0)] dX2_answers_3 rfl (by decide) rfl ?_
  refine kx_sub [(0, .ref a0), (1, .int (0 : Int32)), (2, .int (0 : Int32))] [2, 1, 0] rfl ?_
  exact B4 hN_f _ _ _ hf
def m_X4_init (σ : ac_H) (a0 : Nat) (q : Nat) : Option (Nat × ac_H) :=
  mo_cs (m_X2_init (ac_up σ q (.inr (2, [.null, .null, .null, .null, .null, .int 0, .null, .null, .null, .null, .int 0]))) q (q + 1)) fun z3 σ2 =>
  mo_pv σ2 a0 4 0 (.ref q) fun σ4 =>
  mo_cs (m_X1_init (ac_up σ4 z3 (.inr (1, [.null, .int 0, .int 0, .int 0, .int 0, .int 0, .int 0, .int 0]))) z3 (z3 + 1)) fun z7 σ6 =>
  mo_pv σ6 a0 4 1 (.ref z3) fun σ8 =>
  mo_cs (m_X5_init (ac_up σ8 z7 (.inr (5, [.null]))) z7 (z7 + 1)) fun z11 σ10 =>
  mo_pv σ10 a0 4 2 (.ref z7) fun σ12 =>
  mo_cs (m_X0_init (ac_up σ12 z11 (.inr (0, [.null, .null, .null, .null, .int 0, .null]))) z11 (z11 + 1)) fun z15 σ14 =>
  mo_pv σ14 a0 4 3 (.ref z11) fun σ16 =>
  some (z15, σ16)
set_option maxRecDepth 100000 in
set_option maxHeartbeats 4000000 in
theorem k_X4_init {Λ : ex_L} {q : Nat} {σ σ' : ac_H} {a0 : Nat} {v : Nat} (hf : m_X4_init σ a0 q = some (v, σ')) : kx_C Λ yX4_init (.code yX4_init cX4_init 1 none) ({ frames := 3, cells := 21, slots := 1841, locals := 60 } : Room) [.ref a0] q σ (.inr none) σ' (fun z => z = v) := by
  refine kx_in (by decide +kernel) (Nat.le_of_ble_eq_true rfl) ?_
  intro Γ K hnm hsz hQ
  refine kx_lv (lv' := [(0, .ref a0)]) rfl ?_
  unfold m_X4_init at hf
  refine kx_aload_n K dX4_init_0 rfl 0 rfl ?_
  refine kx_oinit K w_57 w_8 w_9 (by decide) (by decide) dX4_init_1 ?_
  refine kx_aload_n K dX4_init_4 rfl 0 rfl ?_
  refine kx_new K n_X4_9 (by decide) (by decide) dX4_init_5 ?_
  refine kx_dup K dX4_init_8 rfl ?_
  refine kx_ci (rmy := { frames := 1, cells := 9, slots := 1518, locals := 20 }) (k' := 10) (n' := 1529) (As := []) K c_X4_11 ⟨by decide, by decide, by show 1 + 9 = 10; omega, by show 11 + 1518 = 1529; omega, (by decide), (by decide)⟩ rfl rfl (Nat.le_of_ble_eq_true rfl) dX4_init_9 hf (fun _ _ h => k_X2_init h) (fun z3 σ2 hf => ?_)
  refine kx_putF K f_X4_12 hnm rfl dX4_init_12 rfl rfl hf (fun σ4 hf => ?_)
  refine kx_aload_n K dX4_init_15 rfl 0 rfl ?_
  refine kx_new K n_X4_18 (by decide) (by decide) dX4_init_16 ?_
  refine kx_dup K dX4_init_19 rfl ?_
  refine kx_ci (rmy := { frames := 1, cells := 1, slots := 240, locals := 20 }) (k' := 12) (n' := 1777) (As := []) K c_X4_20 ⟨by decide, by decide, by show 11 + 1 = 12; omega, by show 1537 + 240 = 1777; omega, (by decide), (by decide)⟩ rfl rfl (Nat.le_of_ble_eq_true rfl) dX4_init_20 hf (fun _ _ h => k_X1_init h) (fun z7 σ6 hf => ?_)
  refine kx_putF K f_X4_21 hnm rfl dX4_init_23 rfl rfl hf (fun σ8 hf => ?_)
  refine kx_aload_n K dX4_init_26 rfl 0 rfl ?_
  refine kx_new K n_X4_25 (by decide) (by decide) dX4_init_27 ?_
  refine kx_dup K dX4_init_30 rfl ?_
  refine kx_ci (rmy := { frames := 1, cells := 1, slots := 9, locals := 20 }) (k' := 14) (n' := 1787) (As := []) K c_X4_27 ⟨by decide, by decide, by show 13 + 1 = 14; omega, by show 1778 + 9 = 1787; omega, (by decide), (by decide)⟩ rfl rfl (Nat.le_of_ble_eq_true rfl) dX4_init_31 hf (fun _ _ h => k_X5_init h) (fun z11 σ10 hf => ?_)
  refine kx_putF K f_X4_28 hnm rfl dX4_init_34 rfl rfl hf (fun σ12 hf => ?_)
  refine kx_aload_n K dX4_init_37 rfl 0 rfl ?_
  refine kx_new K n_X4_32 (by decide) (by decide) dX4_init_38 ?_
  refine kx_dup K dX4_init_41 rfl ?_
  refine kx_ci (rmy := { frames := 2, cells := 6, slots := 48, locals := 40 }) (k' := 21) (n' := 1841) (As := []) K c_X4_34 ⟨by decide, by decide, by show 15 + 6 = 21; omega, by show 1793 + 48 = 1841; omega, (by decide), (by decide)⟩ rfl rfl (Nat.le_of_ble_eq_true rfl) dX4_init_42 hf (fun _ _ h => k_X0_init h) (fun z15 σ14 hf => ?_)
  refine kx_pr K f_X4_35 dX4_init_45 hf (fun σ16 hf => ?_)
  exact kx_vretZ K hQ (by decide) (by decide) dX4_init_48 hf
def m_X4_line (σ : ac_H) (a0 : Nat) : Option (Nat × ac_H) :=
  mo_gr σ a0 4 0 fun x1 =>
  some (x1, σ)
set_option maxRecDepth 100000 in
set_option maxHeartbeats 4000000 in
theorem k_X4_line {Λ : ex_L} {q : Nat} {σ σ' : ac_H} {a0 : Nat} {v : Nat} (hf : m_X4_line σ a0 = some (v, σ')) : kx_C Λ yX4_line (.code yX4_line cX4_line 1 (some (.object "FaultBench$Line"))) ({ frames := 0, cells := 0, slots := 0, locals := 0 } : Room) [.ref a0] q σ (.inr (some (.ref v))) σ' (fun z => z = q) := by
  refine kx_in (by decide +kernel) (Nat.le_of_ble_eq_true rfl) ?_
  intro Γ K hnm hsz hQ
  refine kx_lv (lv' := [(0, .ref a0)]) rfl ?_
  unfold m_X4_line at hf
  refine kx_aload_n K dX4_line_0 rfl 0 rfl ?_
  refine kx_gr K f_X4_12 dX4_line_1 hf (fun x1 hf => ?_)
  exact kx_aret K hQ (by decide) (by decide) (fun _ h => h) dX4_line_4 hf
def m_X4_deliveries (σ : ac_H) (a0 : Nat) : Option (Nat × ac_H) :=
  mo_gr σ a0 4 1 fun x1 =>
  some (x1, σ)
set_option maxRecDepth 100000 in
set_option maxHeartbeats 4000000 in
theorem k_X4_deliveries {Λ : ex_L} {q : Nat} {σ σ' : ac_H} {a0 : Nat} {v : Nat} (hf : m_X4_deliveries σ a0 = some (v, σ')) : kx_C Λ yX4_deliveries (.code yX4_deliveries cX4_deliveries 1 (some (.object "FaultBench$Deliveries"))) ({ frames := 0, cells := 0, slots := 0, locals := 0 } : Room) [.ref a0] q σ (.inr (some (.ref v))) σ' (fun z => z = q) := by
  refine kx_in (by decide +kernel) (Nat.le_of_ble_eq_true rfl) ?_
  intro Γ K hnm hsz hQ
  refine kx_lv (lv' := [(0, .ref a0)]) rfl ?_
  unfold m_X4_deliveries at hf
  refine kx_aload_n K dX4_deliveries_0 rfl 0 rfl ?_
  refine kx_gr K f_X4_21 dX4_deliveries_1 hf (fun x1 hf => ?_)
  exact kx_aret K hQ (by decide) (by decide) (fun _ h => h) dX4_deliveries_4 hf
def m_X4_states (σ : ac_H) (a0 : Nat) : Option (Nat × ac_H) :=
  mo_gr σ a0 4 2 fun x1 =>
  some (x1, σ)
set_option maxRecDepth 100000 in
set_option maxHeartbeats 4000000 in
theorem k_X4_states {Λ : ex_L} {q : Nat} {σ σ' : ac_H} {a0 : Nat} {v : Nat} (hf : m_X4_states σ a0 = some (v, σ')) : kx_C Λ yX4_states (.code yX4_states cX4_states 1 (some (.object "FaultBench$States"))) ({ frames := 0, cells := 0, slots := 0, locals := 0 } : Room) [.ref a0] q σ (.inr (some (.ref v))) σ' (fun z => z = q) := by
  refine kx_in (by decide +kernel) (Nat.le_of_ble_eq_true rfl) ?_
  intro Γ K hnm hsz hQ
  refine kx_lv (lv' := [(0, .ref a0)]) rfl ?_
  unfold m_X4_states at hf
  refine kx_aload_n K dX4_states_0 rfl 0 rfl ?_
  refine kx_gr K f_X4_28 dX4_states_1 hf (fun x1 hf => ?_)
  exact kx_aret K hQ (by decide) (by decide) (fun _ h => h) dX4_states_4 hf
def m_X4_tickCount (σ : ac_H) (a0 : Nat) : Option (Int32 × ac_H) :=
  mo_gi σ a0 4 14 fun x1 =>
  some (x1, σ)
set_option maxRecDepth 100000 in
set_option maxHeartbeats 4000000 in
theorem k_X4_tickCount {Λ : ex_L} {q : Nat} {σ σ' : ac_H} {a0 : Nat} {v : Int32} (hf : m_X4_tickCount σ a0 = some (v, σ')) : kx_C Λ yX4_tickCount (.code yX4_tickCount cX4_tickCount 1 (some .int)) ({ frames := 0, cells := 0, slots := 0, locals := 0 } : Room) [.ref a0] q σ (.inr (some (.int v))) σ' (fun z => z = q) := by
  refine kx_in (by decide +kernel) (Nat.le_of_ble_eq_true rfl) ?_
  intro Γ K hnm hsz hQ
  refine kx_lv (lv' := [(0, .ref a0)]) rfl ?_
  unfold m_X4_tickCount at hf
  refine kx_aload_n K dX4_tickCount_0 rfl 0 rfl ?_
  refine kx_gi K f_X4_39 dX4_tickCount_1 hf (fun x1 hf => ?_)
  exact kx_iret K hQ (by decide) (by decide) (fun _ h => h) dX4_tickCount_4 hf
def m_X4_begin_j60  (a0 : Nat) (σ19 : ac_H) (w17 : Int32) (w18 : Nat) : Option (Unit × ac_H) :=
  mo_pv σ19 w18 4 8 (.int w17) fun σ20 =>
  mo_pv σ20 a0 4 9 (.int (0 : Int32)) fun σ21 =>
  mo_pv σ21 a0 4 10 (.int (0 : Int32)) fun σ22 =>
  mo_z (0 : Int32) <| mo_pv σ22 a0 4 11 (.int (0 : Int32)) fun σ23 =>
  mo_pv σ23 a0 4 12 (.int (0 : Int32)) fun σ24 =>
  mo_pv σ24 a0 4 13 (.int (0 : Int32)) fun σ25 =>
  mo_pv σ25 a0 4 14 (.int (0 : Int32)) fun σ26 =>
  mo_gr σ26 a0 4 0 fun x27 =>
  mo_cv σ26 x27 2 (m_X2_begin σ26 x27) fun _ σ28 =>
  mo_gr σ28 a0 4 1 fun x29 =>
  mo_gi σ28 a0 4 5 fun x30 =>
  mo_cv σ28 x29 1 (m_X1_begin σ28 x29 x30) fun _ σ31 =>
  mo_gr σ31 a0 4 2 fun x32 =>
  mo_cv σ31 x32 5 (m_X5_removeAll σ31 x32) fun _ σ33 =>
  some ((), σ33)
def m_X4_begin (σ : ac_H) (a0 : Nat) (a1 : Nat) : Option (Unit × ac_H) :=
  mo_pv σ a0 4 3 (.ref a1) fun σ1 =>
  mo_cv σ1 a1 0 (m_X0_setting σ1 a1 (0 : Int32)) fun x3 σ2 =>
  mo_pv σ2 a0 4 4 (.int x3) fun σ4 =>
  mo_cv σ4 a1 0 (m_X0_setting σ4 a1 (1 : Int32)) fun x6 σ5 =>
  mo_pv σ5 a0 4 5 (.int x6) fun σ7 =>
  mo_cv σ7 a1 0 (m_X0_setting σ7 a1 (4 : Int32)) fun x9 σ8 =>
  mo_pv σ8 a0 4 6 (.int x9) fun σ10 =>
  mo_cv σ10 a1 0 (m_X0_setting σ10 a1 (5 : Int32)) fun x12 σ11 =>
  mo_pv σ11 a0 4 7 (.int x12) fun σ13 =>
  mo_gi σ13 a0 4 4 fun x14 =>
  if x14 = (2 : Int32) then
  (mo_cv σ13 a1 0 (m_X0_setting σ13 a1 (6 : Int32)) fun x16 σ15 =>
  m_X4_begin_j60 a0 σ15 x16 a0)
  else
  (m_X4_begin_j60 a0 σ13 (2 : Int32) a0)
set_option maxRecDepth 100000 in
set_option maxHeartbeats 4000000 in
theorem k_X4_begin {Λ : ex_L} {q : Nat} {σ σ' : ac_H} {a0 : Nat} {a1 : Nat} {v : Unit} (hf : m_X4_begin σ a0 a1 = some (v, σ')) : kx_C Λ yX4_begin (.code yX4_begin cX4_begin 2 none) ({ frames := 1, cells := 0, slots := 0, locals := 21 } : Room) [.ref a0, .ref a1] q σ (.inr none) σ' (fun z => z = q) := by
  refine kx_in (by decide +kernel) (Nat.le_of_ble_eq_true rfl) ?_
  intro Γ K hnm hsz hQ
  refine kx_lv (lv' := [(0, .ref a0), (1, .ref a1)]) rfl ?_
  have B60 : ∀ (σ19 : ac_H) (w17 : Int32) (w18 : Nat), m_X4_begin_j60 a0 σ19 w17 w18 = some (v, σ') → kx_S Λ Γ 2 (fun z => z = q) σ19 (0) (0) 60 [(0, .ref a0)] [.int w17, .ref w18] := by
    intro σ19 w17 w18 hf
    unfold m_X4_begin_j60 at hf
    refine kx_pi K f_X4_98 dX4_begin_60 hf (fun σ20 hf => ?_)
    refine kx_aload_n K dX4_begin_63 rfl 0 rfl ?_
    refine kx_iconst (v := 0) K dX4_begin_64 (by decide) ?_
    refine kx_pi K f_X4_62 dX4_begin_65 hf (fun σ21 hf => ?_)
    refine kx_aload_n K dX4_begin_68 rfl 0 rfl ?_
    refine kx_iconst (v := 0) K dX4_begin_69 (by decide) ?_
    refine kx_pi K f_X4_101 dX4_begin_70 hf (fun σ22 hf => ?_)
    refine kx_aload_n K dX4_begin_73 rfl 0 rfl ?_
    refine kx_iconst (v := 0) K dX4_begin_74 (by decide) ?_
    refine kx_pz K f_X4_104 dX4_begin_75 hf (fun σ23 hf => ?_)
    refine kx_aload_n K dX4_begin_78 rfl 0 rfl ?_
    refine kx_iconst (v := 0) K dX4_begin_79 (by decide) ?_
    refine kx_pi K f_X4_108 dX4_begin_80 hf (fun σ24 hf => ?_)
    refine kx_aload_n K dX4_begin_83 rfl 0 rfl ?_
    refine kx_iconst (v := 0) K dX4_begin_84 (by decide) ?_
    refine kx_pi K f_X4_111 dX4_begin_85 hf (fun σ25 hf => ?_)
    refine kx_aload_n K dX4_begin_88 rfl 0 rfl ?_
    refine kx_iconst (v := 0) K dX4_begin_89 (by decide) ?_
    refine kx_pi K f_X4_39 dX4_begin_90 hf (fun σ26 hf => ?_)
    refine kx_aload_n K dX4_begin_93 rfl 0 rfl ?_
    refine kx_gr K f_X4_12 dX4_begin_94 hf (fun x27 hf => ?_)
    refine kx_cv0v K c_X4_114 ⟨by decide, by decide, rfl, rfl, (by decide), (by decide)⟩ (Nat.le_of_ble_eq_true rfl) dX4_begin_97 hf (fun _ _ _ h => k_X2_begin h) (fun _ σ28 hf => ?_)
    refine kx_aload_n K dX4_begin_100 rfl 0 rfl ?_
    refine kx_gr K f_X4_21 dX4_begin_101 hf (fun x29 hf => ?_)
    refine kx_aload_n K dX4_begin_104 rfl 0 rfl ?_
    refine kx_gi K f_X4_79 dX4_begin_105 hf (fun x30 hf => ?_)
    refine kx_cv1v K c_X4_116 ⟨by decide, by decide, rfl, rfl, (by decide), (by decide)⟩ (Nat.le_of_ble_eq_true rfl) dX4_begin_108 hf (fun _ _ _ h => k_X1_begin h) (fun _ σ31 hf => ?_)
    refine kx_aload_n K dX4_begin_111 rfl 0 rfl ?_
    refine kx_gr K f_X4_28 dX4_begin_112 hf (fun x32 hf => ?_)
    refine kx_cv0v K c_X4_118 ⟨by decide, by decide, rfl, rfl, (by decide), (by decide)⟩ (Nat.le_of_ble_eq_true rfl) dX4_begin_115 hf (fun _ _ _ h => k_X5_removeAll h) (fun _ σ33 hf => ?_)
    exact kx_vret K hQ (by decide) (by decide) (fun _ h => h) dX4_begin_118 hf
  unfold m_X4_begin at hf
  refine kx_aload_n K dX4_begin_0 rfl 0 rfl ?_
  refine kx_aload_n K dX4_begin_1 rfl 1 rfl ?_
  refine kx_pr K f_X4_35 dX4_begin_2 hf (fun σ1 hf => ?_)
  refine kx_aload_n K dX4_begin_5 rfl 0 rfl ?_
  refine kx_aload_n K dX4_begin_6 rfl 1 rfl ?_
  refine kx_iconst (v := 0) K dX4_begin_7 (by decide) ?_
  refine kx_cv1i K c_X4_47 ⟨by decide, by decide, rfl, rfl, (by decide), (by decide)⟩ (Nat.le_of_ble_eq_true rfl) dX4_begin_8 hf (fun _ _ _ h => k_X0_setting h) (fun x3 σ2 hf => ?_)
  refine kx_pi K f_X4_89 dX4_begin_11 hf (fun σ4 hf => ?_)
  refine kx_aload_n K dX4_begin_14 rfl 0 rfl ?_
  refine kx_aload_n K dX4_begin_15 rfl 1 rfl ?_
  refine kx_iconst (v := 1) K dX4_begin_16 (by decide) ?_
  refine kx_cv1i K c_X4_47 ⟨by decide, by decide, rfl, rfl, (by decide), (by decide)⟩ (Nat.le_of_ble_eq_true rfl) dX4_begin_17 hf (fun _ _ _ h => k_X0_setting h) (fun x6 σ5 hf => ?_)
  refine kx_pi K f_X4_79 dX4_begin_20 hf (fun σ7 hf => ?_)
  refine kx_aload_n K dX4_begin_23 rfl 0 rfl ?_
  refine kx_aload_n K dX4_begin_24 rfl 1 rfl ?_
  refine kx_iconst (v := 4) K dX4_begin_25 (by decide) ?_
  refine kx_cv1i K c_X4_47 ⟨by decide, by decide, rfl, rfl, (by decide), (by decide)⟩ (Nat.le_of_ble_eq_true rfl) dX4_begin_26 hf (fun _ _ _ h => k_X0_setting h) (fun x9 σ8 hf => ?_)
  refine kx_pi K f_X4_92 dX4_begin_29 hf (fun σ10 hf => ?_)
  refine kx_aload_n K dX4_begin_32 rfl 0 rfl ?_
  refine kx_aload_n K dX4_begin_33 rfl 1 rfl ?_
  refine kx_iconst (v := 5) K dX4_begin_34 (by decide) ?_
  refine kx_cv1i K c_X4_47 ⟨by decide, by decide, rfl, rfl, (by decide), (by decide)⟩ (Nat.le_of_ble_eq_true rfl) dX4_begin_35 hf (fun _ _ _ h => k_X0_setting h) (fun x12 σ11 hf => ?_)
  refine kx_pi K f_X4_95 dX4_begin_38 hf (fun σ13 hf => ?_)
  refine kx_aload_n K dX4_begin_41 rfl 0 rfl ?_
  refine kx_aload_n K dX4_begin_42 rfl 0 rfl ?_
  refine kx_gi K f_X4_89 dX4_begin_43 hf (fun x14 hf => ?_)
  refine kx_iconst (v := 2) K dX4_begin_46 (by decide) ?_
  refine kx_icmp_ne K 59 hf dX4_begin_47 (by decide) (fun hf => ?_) (fun hf => ?_)
  · refine kx_iconst (v := 2) K dX4_begin_59 (by decide) ?_
    refine kx_sub [(0, .ref a0)] [0] rfl ?_
    exact B60 _ _ _ hf
  · refine kx_aload_n K dX4_begin_50 rfl 1 rfl ?_
    refine kx_bipush (v := 6) K dX4_begin_51 (by decide) ?_
    refine kx_cv1i K c_X4_47 ⟨by decide, by decide, rfl, rfl, (by decide), (by decide)⟩ (Nat.le_of_ble_eq_true rfl) dX4_begin_53 hf (fun _ _ _ h => k_X0_setting h) (fun x16 σ15 hf => ?_)
    refine kx_goto K 60 dX4_begin_56 (by decide) ?_
    refine kx_sub [(0, .ref a0)] [0] rfl ?_
    exact B60 _ _ _ hf
def m_X4_signOf (σ : ac_H) (a0 : Nat) (a1 : Int32) : Option (Int32 × ac_H) :=
  mo_gi σ a0 4 8 fun x1 =>
  if 0 < x1 then
  (mo_gi σ a0 4 8 fun x2 =>
  mo_rm a1 x2 fun x3 =>
  some (x3, σ))
  else
  (some ((0 : Int32), σ))
set_option maxRecDepth 100000 in
set_option maxHeartbeats 4000000 in
theorem k_X4_signOf {Λ : ex_L} {q : Nat} {σ σ' : ac_H} {a0 : Nat} {a1 : Int32} {v : Int32} (hf : m_X4_signOf σ a0 a1 = some (v, σ')) : kx_C Λ yX4_signOf (.code yX4_signOf cX4_signOf 2 (some .int)) ({ frames := 0, cells := 0, slots := 0, locals := 0 } : Room) [.ref a0, .int a1] q σ (.inr (some (.int v))) σ' (fun z => z = q) := by
  refine kx_in (by decide +kernel) (Nat.le_of_ble_eq_true rfl) ?_
  intro Γ K hnm hsz hQ
  refine kx_lv (lv' := [(0, .ref a0), (1, .int a1)]) rfl ?_
  unfold m_X4_signOf at hf
  refine kx_aload_n K dX4_signOf_0 rfl 0 rfl ?_
  refine kx_gi K f_X4_98 dX4_signOf_1 hf (fun x1 hf => ?_)
  refine kx_if_le K 16 hf dX4_signOf_4 (by decide) (fun hf => ?_) (fun hf => ?_)
  · refine kx_iconst (v := 0) K dX4_signOf_16 (by decide) ?_
    exact kx_iret K hQ (by decide) (by decide) (fun _ h => h) dX4_signOf_17 hf
  · refine kx_iload_n K dX4_signOf_7 rfl 1 rfl ?_
    refine kx_aload_n K dX4_signOf_8 rfl 0 rfl ?_
    refine kx_gi K f_X4_98 dX4_signOf_9 hf (fun x2 hf => ?_)
    refine kx_irem K dX4_signOf_12 hf (fun x3 hf => ?_)
    refine kx_goto K 17 dX4_signOf_13 (by decide) ?_
    exact kx_iret K hQ (by decide) (by decide) (fun _ h => h) dX4_signOf_17 hf
def m_X4_receiveAnswer_l54  (a0 : Nat) (a1 : Int32) (a2 : Int32) : Nat → ac_H → Int32 → Option (Unit × ac_H)
  | 0, _, _ => none
  | n + 1, σ12, v11 =>
    mo_gi σ12 a0 4 10 fun x13 =>
    if x13 < v11 then
    (some ((), σ12))
    else
    (mo_cv σ12 a0 4 (m_X4_signOf σ12 a0 v11) fun x15 σ14 =>
    if x15 = a1 then
    (mo_pv σ14 a0 4 9 (.int v11) fun σ16 =>
    mo_pv σ16 a0 4 12 (.int a2) fun σ17 =>
    some ((), σ17))
    else
    (m_X4_receiveAnswer_l54 a0 a1 a2 n σ14 (v11 + 1)))
def m_X4_receiveAnswer (σ : ac_H) (a0 : Nat) (a1 : Int32) (a2 : Int32) : Option (Unit × ac_H) :=
  mo_gi σ a0 4 4 fun x1 =>
  if x1 = (2 : Int32) then
  (mo_gi σ a0 4 9 fun x2 =>
  m_X4_receiveAnswer_l54 a0 a1 a2 hN_f σ (x2 + (1 : Int32)))
  else
  (mo_gi σ a0 4 9 fun x3 =>
  mo_gi σ a0 4 5 fun x4 =>
  if x3 < x4 then
  (mo_gi σ a0 4 9 fun x5 =>
  mo_cv σ a0 4 (m_X4_signOf σ a0 x5) fun x7 σ6 =>
  if a1 = x7 then
  (mo_gi σ6 a0 4 9 fun x8 =>
  mo_pv σ6 a0 4 9 (.int (x8 + (1 : Int32))) fun σ9 =>
  mo_z (0 : Int32) <| mo_pv σ9 a0 4 11 (.int (0 : Int32)) fun σ10 =>
  some ((), σ10))
  else
  (some ((), σ6)))
  else
  (some ((), σ)))
set_option maxRecDepth 100000 in
set_option maxHeartbeats 4000000 in
theorem k_X4_receiveAnswer {Λ : ex_L} {q : Nat} {σ σ' : ac_H} {a0 : Nat} {a1 : Int32} {a2 : Int32} {v : Unit} (hf : m_X4_receiveAnswer σ a0 a1 a2 = some (v, σ')) : kx_C Λ yX4_receiveAnswer (.code yX4_receiveAnswer cX4_receiveAnswer 4 none) ({ frames := 1, cells := 0, slots := 0, locals := 21 } : Room) [.ref a0, .int a1, .int a2] q σ (.inr none) σ' (fun z => z = q) := by
  refine kx_in (by decide +kernel) (Nat.le_of_ble_eq_true rfl) ?_
  intro Γ K hnm hsz hQ
  refine kx_lv (lv' := [(0, .ref a0), (1, .int a1), (2, .int a2)]) rfl ?_
  have B54 : ∀ (n54 : Nat) (σ12 : ac_H) (v11 : Int32), m_X4_receiveAnswer_l54 a0 a1 a2 n54 σ12 v11 = some (v, σ') → kx_S Λ Γ 4 (fun z => z = q) σ12 (0) (0) 54 [(0, .ref a0), (1, .int a1), (2, .int a2), (3, .int v11)] [] := by
    intro n54
    induction n54 with
    | zero =>
      intro σ12 v11 hf
      rw [m_X4_receiveAnswer_l54] at hf
      cases hf
    | succ n54 ih54 =>
      intro σ12 v11 hf
      rw [m_X4_receiveAnswer_l54] at hf
      refine kx_iload_n K dX4_receiveAnswer_54 rfl 3 rfl ?_
      refine kx_aload_n K dX4_receiveAnswer_55 rfl 0 rfl ?_
      refine kx_gi K f_X4_101 dX4_receiveAnswer_56 hf (fun x13 hf => ?_)
      refine kx_icmp_gt K 88 hf dX4_receiveAnswer_59 (by decide) (fun hf => ?_) (fun hf => ?_)
      · exact kx_vret K hQ (by decide) (by decide) (fun _ h => h) dX4_receiveAnswer_88 hf
      · refine kx_aload_n K dX4_receiveAnswer_62 rfl 0 rfl ?_
        refine kx_iload_n K dX4_receiveAnswer_63 rfl 3 rfl ?_
        refine kx_cv1i K c_X4_143 ⟨by decide, by decide, rfl, rfl, (by decide), (by decide)⟩ (Nat.le_of_ble_eq_true rfl) dX4_receiveAnswer_64 hf (fun _ _ _ h => k_X4_signOf h) (fun x15 σ14 hf => ?_)
        refine kx_iload_n K dX4_receiveAnswer_67 rfl 1 rfl ?_
        refine kx_icmp_ne K 82 hf dX4_receiveAnswer_68 (by decide) (fun hf => ?_) (fun hf => ?_)
        · refine kx_iinc (v := (v11 + 1)) K [(3, .int (v11 + 1)), (0, .ref a0), (1, .int a1), (2, .int a2)] dX4_receiveAnswer_82 3 rfl rfl (by decide) rfl ?_
          refine kx_goto K 54 dX4_receiveAnswer_85 (by decide) ?_
          refine kx_sub [(0, .ref a0), (1, .int a1), (2, .int a2), (3, .int (v11 + 1))] [1, 2, 3, 0] rfl ?_
          exact ih54 _ _ hf
        · refine kx_aload_n K dX4_receiveAnswer_71 rfl 0 rfl ?_
          refine kx_iload_n K dX4_receiveAnswer_72 rfl 3 rfl ?_
          refine kx_pi K f_X4_62 dX4_receiveAnswer_73 hf (fun σ16 hf => ?_)
          refine kx_aload_n K dX4_receiveAnswer_76 rfl 0 rfl ?_
          refine kx_iload_n K dX4_receiveAnswer_77 rfl 2 rfl ?_
          refine kx_pi K f_X4_108 dX4_receiveAnswer_78 hf (fun σ17 hf => ?_)
          exact kx_vret K hQ (by decide) (by decide) (fun _ h => h) dX4_receiveAnswer_81 hf
  unfold m_X4_receiveAnswer at hf
  refine kx_aload_n K dX4_receiveAnswer_0 rfl 0 rfl ?_
  refine kx_gi K f_X4_89 dX4_receiveAnswer_1 hf (fun x1 hf => ?_)
  refine kx_iconst (v := 2) K dX4_receiveAnswer_4 (by decide) ?_
  refine kx_icmp_eq K 47 hf dX4_receiveAnswer_5 (by decide) (fun hf => ?_) (fun hf => ?_)
  · refine kx_aload_n K dX4_receiveAnswer_47 rfl 0 rfl ?_
    refine kx_gi K f_X4_62 dX4_receiveAnswer_48 hf (fun x2 hf => ?_)
    refine kx_iconst (v := 1) K dX4_receiveAnswer_51 (by decide) ?_
    refine kx_iadd K dX4_receiveAnswer_52 ?_
    refine kx_istore_n K [(3, .int (x2 + (1 : Int32))), (0, .ref a0), (1, .int a1), (2, .int a2)] dX4_receiveAnswer_53 rfl (by decide) rfl ?_
    refine kx_sub [(0, .ref a0), (1, .int a1), (2, .int a2), (3, .int (x2 + (1 : Int32)))] [1, 2, 3, 0] rfl ?_
    exact B54 hN_f _ _ hf
  · refine kx_aload_n K dX4_receiveAnswer_8 rfl 0 rfl ?_
    refine kx_gi K f_X4_62 dX4_receiveAnswer_9 hf (fun x3 hf => ?_)
    refine kx_aload_n K dX4_receiveAnswer_12 rfl 0 rfl ?_
    refine kx_gi K f_X4_79 dX4_receiveAnswer_13 hf (fun x4 hf => ?_)
    refine kx_icmp_ge K 46 hf dX4_receiveAnswer_16 (by decide) (fun hf => ?_) (fun hf => ?_)
    · exact kx_vret K hQ (by decide) (by decide) (fun _ h => h) dX4_receiveAnswer_46 hf
    · refine kx_iload_n K dX4_receiveAnswer_19 rfl 1 rfl ?_
      refine kx_aload_n K dX4_receiveAnswer_20 rfl 0 rfl ?_
      refine kx_aload_n K dX4_receiveAnswer_21 rfl 0 rfl ?_
      refine kx_gi K f_X4_62 dX4_receiveAnswer_22 hf (fun x5 hf => ?_)
      refine kx_cv1i K c_X4_143 ⟨by decide, by decide, rfl, rfl, (by decide), (by decide)⟩ (Nat.le_of_ble_eq_true rfl) dX4_receiveAnswer_25 hf (fun _ _ _ h => k_X4_signOf h) (fun x7 σ6 hf => ?_)
      refine kx_icmp_ne K 46 hf dX4_receiveAnswer_28 (by decide) (fun hf => ?_) (fun hf => ?_)
      · exact kx_vret K hQ (by decide) (by decide) (fun _ h => h) dX4_receiveAnswer_46 hf
      · refine kx_aload_n K dX4_receiveAnswer_31 rfl 0 rfl ?_
        refine kx_dup K dX4_receiveAnswer_32 rfl ?_
        refine kx_gi K f_X4_62 dX4_receiveAnswer_33 hf (fun x8 hf => ?_)
        refine kx_iconst (v := 1) K dX4_receiveAnswer_36 (by decide) ?_
        refine kx_iadd K dX4_receiveAnswer_37 ?_
        refine kx_pi K f_X4_62 dX4_receiveAnswer_38 hf (fun σ9 hf => ?_)
        refine kx_aload_n K dX4_receiveAnswer_41 rfl 0 rfl ?_
        refine kx_iconst (v := 0) K dX4_receiveAnswer_42 (by decide) ?_
        refine kx_pz K f_X4_104 dX4_receiveAnswer_43 hf (fun σ10 hf => ?_)
        exact kx_vret K hQ (by decide) (by decide) (fun _ h => h) dX4_receiveAnswer_46 hf
def m_X4_receiveData_j55  (a0 : Nat) (σ14 : ac_H) (v13 : Int32) : Option (Int32 × ac_H) :=
  mo_gi σ14 a0 4 4 fun x15 =>
  if x15 = (2 : Int32) then
  (mo_gi σ14 a0 4 13 fun x16 =>
  mo_cv σ14 a0 4 (m_X4_signOf σ14 a0 x16) fun x18 σ17 =>
  some (x18, σ17))
  else
  (some (v13, σ14))
def m_X4_receiveData (σ : ac_H) (a0 : Nat) (a1 : Int32) (a2 : Int32) : Option (Int32 × ac_H) :=
  mo_gi σ a0 4 4 fun x1 =>
  if x1 = 0 then
  (mo_gr σ a0 4 1 fun x11 =>
  mo_cv σ x11 1 (m_X1_put σ x11 a1 a2) fun _ σ12 =>
  some ((-1 : Int32), σ12))
  else
  (mo_cv σ a0 4 (m_X4_signOf σ a0 a1) fun x3 σ2 =>
  mo_gi σ2 a0 4 13 fun x4 =>
  mo_cv σ2 a0 4 (m_X4_signOf σ2 a0 x4) fun x6 σ5 =>
  if x3 = x6 then
  (mo_gr σ5 a0 4 1 fun x7 =>
  mo_cv σ5 x7 1 (m_X1_put σ5 x7 a1 a2) fun _ σ8 =>
  mo_gi σ8 a0 4 13 fun x9 =>
  mo_pv σ8 a0 4 13 (.int (x9 + (1 : Int32))) fun σ10 =>
  m_X4_receiveData_j55 a0 σ10 x3)
  else
  (m_X4_receiveData_j55 a0 σ5 x3))
set_option maxRecDepth 100000 in
set_option maxHeartbeats 4000000 in
theorem k_X4_receiveData {Λ : ex_L} {q : Nat} {σ σ' : ac_H} {a0 : Nat} {a1 : Int32} {a2 : Int32} {v : Int32} (hf : m_X4_receiveData σ a0 a1 a2 = some (v, σ')) : kx_C Λ yX4_receiveData (.code yX4_receiveData cX4_receiveData 4 (some .int)) ({ frames := 1, cells := 0, slots := 0, locals := 22 } : Room) [.ref a0, .int a1, .int a2] q σ (.inr (some (.int v))) σ' (fun z => z = q) := by
  refine kx_in (by decide +kernel) (Nat.le_of_ble_eq_true rfl) ?_
  intro Γ K hnm hsz hQ
  refine kx_lv (lv' := [(0, .ref a0), (1, .int a1), (2, .int a2)]) rfl ?_
  have B55 : ∀ (σ14 : ac_H) (v13 : Int32), m_X4_receiveData_j55 a0 σ14 v13 = some (v, σ') → kx_S Λ Γ 4 (fun z => z = q) σ14 (0) (0) 55 [(0, .ref a0), (3, .int v13)] [] := by
    intro σ14 v13 hf
    unfold m_X4_receiveData_j55 at hf
    refine kx_aload_n K dX4_receiveData_55 rfl 0 rfl ?_
    refine kx_gi K f_X4_89 dX4_receiveData_56 hf (fun x15 hf => ?_)
    refine kx_iconst (v := 2) K dX4_receiveData_59 (by decide) ?_
    refine kx_icmp_ne K 74 hf dX4_receiveData_60 (by decide) (fun hf => ?_) (fun hf => ?_)
    · refine kx_iload_n K dX4_receiveData_74 rfl 1 rfl ?_
      exact kx_iret K hQ (by decide) (by decide) (fun _ h => h) dX4_receiveData_75 hf
    · refine kx_aload_n K dX4_receiveData_63 rfl 0 rfl ?_
      refine kx_aload_n K dX4_receiveData_64 rfl 0 rfl ?_
      refine kx_gi K f_X4_111 dX4_receiveData_65 hf (fun x16 hf => ?_)
      refine kx_cv1i K c_X4_143 ⟨by decide, by decide, rfl, rfl, (by decide), (by decide)⟩ (Nat.le_of_ble_eq_true rfl) dX4_receiveData_68 hf (fun _ _ _ h => k_X4_signOf h) (fun x18 σ17 hf => ?_)
      refine kx_goto K 75 dX4_receiveData_71 (by decide) ?_
      exact kx_iret K hQ (by decide) (by decide) (fun _ h => h) dX4_receiveData_75 hf
  unfold m_X4_receiveData at hf
  refine kx_aload_n K dX4_receiveData_0 rfl 0 rfl ?_
  refine kx_gi K f_X4_89 dX4_receiveData_1 hf (fun x1 hf => ?_)
  refine kx_if_ne K 18 hf dX4_receiveData_4 (by decide) (fun hf => ?_) (fun hf => ?_)
  · refine kx_aload_n K dX4_receiveData_18 rfl 0 rfl ?_
    refine kx_iload_n K dX4_receiveData_19 rfl 1 rfl ?_
    refine kx_cv1i K c_X4_143 ⟨by decide, by decide, rfl, rfl, (by decide), (by decide)⟩ (Nat.le_of_ble_eq_true rfl) dX4_receiveData_20 hf (fun _ _ _ h => k_X4_signOf h) (fun x3 σ2 hf => ?_)
    refine kx_istore_n K [(3, .int x3), (0, .ref a0), (1, .int a1), (2, .int a2)] dX4_receiveData_23 rfl (by decide) rfl ?_
    refine kx_iload_n K dX4_receiveData_24 rfl 0 rfl ?_
    refine kx_aload_n K dX4_receiveData_25 rfl 1 rfl ?_
    refine kx_aload_n K dX4_receiveData_26 rfl 1 rfl ?_
    refine kx_gi K f_X4_111 dX4_receiveData_27 hf (fun x4 hf => ?_)
    refine kx_cv1i K c_X4_143 ⟨by decide, by decide, rfl, rfl, (by decide), (by decide)⟩ (Nat.le_of_ble_eq_true rfl) dX4_receiveData_30 hf (fun _ _ _ h => k_X4_signOf h) (fun x6 σ5 hf => ?_)
    refine kx_icmp_ne K 55 hf dX4_receiveData_33 (by decide) (fun hf => ?_) (fun hf => ?_)
    · refine kx_sub [(0, .ref a0), (3, .int x3)] [1, 0] rfl ?_
      exact B55 _ _ hf
    · refine kx_aload_n K dX4_receiveData_36 rfl 1 rfl ?_
      refine kx_gr K f_X4_21 dX4_receiveData_37 hf (fun x7 hf => ?_)
      refine kx_iload_n K dX4_receiveData_40 rfl 2 rfl ?_
      refine kx_iload_n K dX4_receiveData_41 rfl 3 rfl ?_
      refine kx_cv2v K c_X4_142 ⟨by decide, by decide, rfl, rfl, (by decide), (by decide)⟩ (Nat.le_of_ble_eq_true rfl) dX4_receiveData_42 hf (fun _ _ _ h => k_X1_put h) (fun _ σ8 hf => ?_)
      refine kx_aload_n K dX4_receiveData_45 rfl 1 rfl ?_
      refine kx_dup K dX4_receiveData_46 rfl ?_
      refine kx_gi K f_X4_111 dX4_receiveData_47 hf (fun x9 hf => ?_)
      refine kx_iconst (v := 1) K dX4_receiveData_50 (by decide) ?_
      refine kx_iadd K dX4_receiveData_51 ?_
      refine kx_pi K f_X4_111 dX4_receiveData_52 hf (fun σ10 hf => ?_)
      refine kx_sub [(0, .ref a0), (3, .int x3)] [1, 0] rfl ?_
      exact B55 _ _ hf
  · refine kx_aload_n K dX4_receiveData_7 rfl 0 rfl ?_
    refine kx_gr K f_X4_21 dX4_receiveData_8 hf (fun x11 hf => ?_)
    refine kx_iload_n K dX4_receiveData_11 rfl 1 rfl ?_
    refine kx_iload_n K dX4_receiveData_12 rfl 2 rfl ?_
    refine kx_cv2v K c_X4_142 ⟨by decide, by decide, rfl, rfl, (by decide), (by decide)⟩ (Nat.le_of_ble_eq_true rfl) dX4_receiveData_13 hf (fun _ _ _ h => k_X1_put h) (fun _ σ12 hf => ?_)
    refine kx_iconst (v := -1) K dX4_receiveData_16 (by decide) ?_
    exact kx_iret K hQ (by decide) (by decide) (fun _ h => h) dX4_receiveData_17 hf
def m_X4_handleArrivals_l21  (a0 : Nat) (a1 : Int32) : Nat → ac_H → Int32 → Int32 → Int32 → Option (Unit × ac_H)
  | 0, _, _, _, _ => none
  | n + 1, σ10, v7, v8, v9 =>
    if v9 < v7 then
    (mo_dv v8 (2 : Int32) fun x11 =>
    mo_gr σ10 a0 4 0 fun x12 =>
    mo_cv σ10 x12 2 (m_X2_arrive σ10 x12) fun _ σ13 =>
    mo_gr σ13 a0 4 0 fun x14 =>
    mo_cv σ13 x14 2 (m_X2_sentPart σ13 x14 x11 (2 : Int32)) fun x16 σ15 =>
    mo_gr σ15 a0 4 0 fun x17 =>
    mo_cv σ15 x17 2 (m_X2_sentPart σ15 x17 x11 (1 : Int32)) fun x19 σ18 =>
    if x19 = (1 : Int32) then
    (mo_cv σ18 a0 4 (m_X4_receiveAnswer σ18 a0 x16 a1) fun _ σ31 =>
    mo_gr σ31 a0 4 0 fun x32 =>
    mo_cv σ31 x32 2 (m_X2_arrivalBehind σ31 x32 v8) fun x34 σ33 =>
    m_X4_handleArrivals_l21 a0 a1 n σ33 v7 x34 (v9 + 1))
    else
    (mo_cv σ18 a0 4 (m_X4_receiveData σ18 a0 x16 a1) fun x21 σ20 =>
    if x21 = (-1 : Int32) then
    (mo_gr σ20 a0 4 0 fun x22 =>
    mo_cv σ20 x22 2 (m_X2_arrivalBehind σ20 x22 v8) fun x24 σ23 =>
    m_X4_handleArrivals_l21 a0 a1 n σ23 v7 x24 (v9 + 1))
    else
    (mo_gr σ20 a0 4 0 fun x25 =>
    mo_gr σ20 a0 4 3 fun x26 =>
    mo_cv σ20 x25 2 (m_X2_send σ20 x25 x26 a1 (1 : Int32) x21) fun _ σ27 =>
    mo_gr σ27 a0 4 0 fun x28 =>
    mo_cv σ27 x28 2 (m_X2_arrivalBehind σ27 x28 v8) fun x30 σ29 =>
    m_X4_handleArrivals_l21 a0 a1 n σ29 v7 x30 (v9 + 1))))
    else
    (some ((), σ10))
def m_X4_handleArrivals (σ : ac_H) (a0 : Nat) (a1 : Int32) : Option (Unit × ac_H) :=
  mo_gr σ a0 4 0 fun x1 =>
  mo_cv σ x1 2 (m_X2_arrivalsIn σ x1 a1) fun x3 σ2 =>
  mo_gr σ2 a0 4 0 fun x4 =>
  mo_cv σ2 x4 2 (m_X2_firstArrivalIn σ2 x4 a1) fun x6 σ5 =>
  m_X4_handleArrivals_l21 a0 a1 hN_f σ5 x3 x6 (0 : Int32)
set_option maxRecDepth 100000 in
set_option maxHeartbeats 4000000 in
theorem k_X4_handleArrivals {Λ : ex_L} {q : Nat} {σ σ' : ac_H} {a0 : Nat} {a1 : Int32} {v : Unit} (hf : m_X4_handleArrivals σ a0 a1 = some (v, σ')) : kx_C Λ yX4_handleArrivals (.code yX4_handleArrivals cX4_handleArrivals 8 none) ({ frames := 2, cells := 0, slots := 0, locals := 50 } : Room) [.ref a0, .int a1] q σ (.inr none) σ' (fun z => z = q) := by
  refine kx_in (by decide +kernel) (Nat.le_of_ble_eq_true rfl) ?_
  intro Γ K hnm hsz hQ
  refine kx_lv (lv' := [(0, .ref a0), (1, .int a1)]) rfl ?_
  have B21 : ∀ (n21 : Nat) (σ10 : ac_H) (v7 : Int32) (v8 : Int32) (v9 : Int32), m_X4_handleArrivals_l21 a0 a1 n21 σ10 v7 v8 v9 = some (v, σ') → kx_S Λ Γ 8 (fun z => z = q) σ10 (0) (0) 21 [(0, .ref a0), (1, .int a1), (2, .int v7), (3, .int v8), (4, .int v9)] [] := by
    intro n21
    induction n21 with
    | zero =>
      intro σ10 v7 v8 v9 hf
      rw [m_X4_handleArrivals_l21] at hf
      cases hf
    | succ n21 ih21 =>
      intro σ10 v7 v8 v9 hf
      rw [m_X4_handleArrivals_l21] at hf
      refine kx_iload K dX4_handleArrivals_21 4 rfl ?_
      refine kx_iload_n K dX4_handleArrivals_23 rfl 2 rfl ?_
      refine kx_icmp_ge K 120 hf dX4_handleArrivals_24 (by decide) (fun hf => ?_) (fun hf => ?_)
      · exact kx_vret K hQ (by decide) (by decide) (fun _ h => h) dX4_handleArrivals_120 hf
      · refine kx_iload_n K dX4_handleArrivals_27 rfl 3 rfl ?_
        refine kx_iconst (v := 2) K dX4_handleArrivals_28 (by decide) ?_
        refine kx_idiv K dX4_handleArrivals_29 hf (fun x11 hf => ?_)
        refine kx_istore K [(5, .int x11), (0, .ref a0), (1, .int a1), (2, .int v7), (3, .int v8), (4, .int v9)] dX4_handleArrivals_30 (by decide) rfl ?_
        refine kx_aload_n K dX4_handleArrivals_32 rfl 1 rfl ?_
        refine kx_gr K f_X4_12 dX4_handleArrivals_33 hf (fun x12 hf => ?_)
        refine kx_cv0v K c_X4_127 ⟨by decide, by decide, rfl, rfl, (by decide), (by decide)⟩ (Nat.le_of_ble_eq_true rfl) dX4_handleArrivals_36 hf (fun _ _ _ h => k_X2_arrive h) (fun _ σ13 hf => ?_)
        refine kx_aload_n K dX4_handleArrivals_39 rfl 1 rfl ?_
        refine kx_gr K f_X4_12 dX4_handleArrivals_40 hf (fun x14 hf => ?_)
        refine kx_iload K dX4_handleArrivals_43 0 rfl ?_
        refine kx_iconst (v := 2) K dX4_handleArrivals_45 (by decide) ?_
        refine kx_cv2i K c_X4_130 ⟨by decide, by decide, rfl, rfl, (by decide), (by decide)⟩ (Nat.le_of_ble_eq_true rfl) dX4_handleArrivals_46 hf (fun _ _ _ h => k_X2_sentPart h) (fun x16 σ15 hf => ?_)
        refine kx_istore K [(6, .int x16), (5, .int x11), (0, .ref a0), (1, .int a1), (2, .int v7), (3, .int v8), (4, .int v9)] dX4_handleArrivals_49 (by decide) rfl ?_
        refine kx_aload_n K dX4_handleArrivals_51 rfl 2 rfl ?_
        refine kx_gr K f_X4_12 dX4_handleArrivals_52 hf (fun x17 hf => ?_)
        refine kx_iload K dX4_handleArrivals_55 1 rfl ?_
        refine kx_iconst (v := 1) K dX4_handleArrivals_57 (by decide) ?_
        refine kx_cv2i K c_X4_130 ⟨by decide, by decide, rfl, rfl, (by decide), (by decide)⟩ (Nat.le_of_ble_eq_true rfl) dX4_handleArrivals_58 hf (fun _ _ _ h => k_X2_sentPart h) (fun x19 σ18 hf => ?_)
        refine kx_iconst (v := 1) K dX4_handleArrivals_61 (by decide) ?_
        refine kx_icmp_ne K 75 hf dX4_handleArrivals_62 (by decide) (fun hf => ?_) (fun hf => ?_)
        · refine kx_aload_n K dX4_handleArrivals_75 rfl 2 rfl ?_
          refine kx_iload K dX4_handleArrivals_76 0 rfl ?_
          refine kx_iload_n K dX4_handleArrivals_78 rfl 3 rfl ?_
          refine kx_cv2i K c_X4_136 ⟨by decide, by decide, rfl, rfl, (by decide), (by decide)⟩ (Nat.le_of_ble_eq_true rfl) dX4_handleArrivals_79 hf (fun _ _ _ h => k_X4_receiveData h) (fun x21 σ20 hf => ?_)
          refine kx_istore K [(7, .int x21), (6, .int x16), (5, .int x11), (0, .ref a0), (1, .int a1), (2, .int v7), (3, .int v8), (4, .int v9)] dX4_handleArrivals_82 (by decide) rfl ?_
          refine kx_iload K dX4_handleArrivals_84 0 rfl ?_
          refine kx_iconst (v := -1) K dX4_handleArrivals_86 (by decide) ?_
          refine kx_icmp_eq K 105 hf dX4_handleArrivals_87 (by decide) (fun hf => ?_) (fun hf => ?_)
          · refine kx_aload_n K dX4_handleArrivals_105 rfl 3 rfl ?_
            refine kx_gr K f_X4_12 dX4_handleArrivals_106 hf (fun x22 hf => ?_)
            refine kx_iload_n K dX4_handleArrivals_109 rfl 6 rfl ?_
            refine kx_cv1i K c_X4_139 ⟨by decide, by decide, rfl, rfl, (by decide), (by decide)⟩ (Nat.le_of_ble_eq_true rfl) dX4_handleArrivals_110 hf (fun _ _ _ h => k_X2_arrivalBehind h) (fun x24 σ23 hf => ?_)
            refine kx_istore_n K [(3, .int x24), (7, .int x21), (6, .int x16), (5, .int x11), (0, .ref a0), (1, .int a1), (2, .int v7), (4, .int v9)] dX4_handleArrivals_113 rfl (by decide) rfl ?_
            refine kx_iinc (v := (v9 + 1)) K [(4, .int (v9 + 1)), (3, .int x24), (7, .int x21), (6, .int x16), (5, .int x11), (0, .ref a0), (1, .int a1), (2, .int v7)] dX4_handleArrivals_114 7 rfl rfl (by decide) rfl ?_
            refine kx_goto K 21 dX4_handleArrivals_117 (by decide) ?_
            refine kx_sub [(0, .ref a0), (1, .int a1), (2, .int v7), (3, .int x24), (4, .int (v9 + 1))] [5, 6, 7, 1, 0] rfl ?_
            exact ih21 _ _ _ _ hf
          · refine kx_aload_n K dX4_handleArrivals_90 rfl 3 rfl ?_
            refine kx_gr K f_X4_12 dX4_handleArrivals_91 hf (fun x25 hf => ?_)
            refine kx_aload_n K dX4_handleArrivals_94 rfl 3 rfl ?_
            refine kx_gr K f_X4_35 dX4_handleArrivals_95 hf (fun x26 hf => ?_)
            refine kx_iload_n K dX4_handleArrivals_98 rfl 4 rfl ?_
            refine kx_iconst (v := 1) K dX4_handleArrivals_99 (by decide) ?_
            refine kx_iload K dX4_handleArrivals_100 0 rfl ?_
            refine kx_cv4v K c_X4_58 ⟨by decide, by decide, rfl, rfl, (by decide), (by decide)⟩ (Nat.le_of_ble_eq_true rfl) dX4_handleArrivals_102 hf (fun _ _ _ h => k_X2_send h) (fun _ σ27 hf => ?_)
            refine kx_aload_n K dX4_handleArrivals_105 rfl 3 rfl ?_
            refine kx_gr K f_X4_12 dX4_handleArrivals_106 hf (fun x28 hf => ?_)
            refine kx_iload_n K dX4_handleArrivals_109 rfl 6 rfl ?_
            refine kx_cv1i K c_X4_139 ⟨by decide, by decide, rfl, rfl, (by decide), (by decide)⟩ (Nat.le_of_ble_eq_true rfl) dX4_handleArrivals_110 hf (fun _ _ _ h => k_X2_arrivalBehind h) (fun x30 σ29 hf => ?_)
            refine kx_istore_n K [(3, .int x30), (7, .int x21), (6, .int x16), (5, .int x11), (0, .ref a0), (1, .int a1), (2, .int v7), (4, .int v9)] dX4_handleArrivals_113 rfl (by decide) rfl ?_
            refine kx_iinc (v := (v9 + 1)) K [(4, .int (v9 + 1)), (3, .int x30), (7, .int x21), (6, .int x16), (5, .int x11), (0, .ref a0), (1, .int a1), (2, .int v7)] dX4_handleArrivals_114 7 rfl rfl (by decide) rfl ?_
            refine kx_goto K 21 dX4_handleArrivals_117 (by decide) ?_
            refine kx_sub [(0, .ref a0), (1, .int a1), (2, .int v7), (3, .int x30), (4, .int (v9 + 1))] [5, 6, 7, 1, 0] rfl ?_
            exact ih21 _ _ _ _ hf
        · refine kx_aload_n K dX4_handleArrivals_65 rfl 2 rfl ?_
          refine kx_iload K dX4_handleArrivals_66 0 rfl ?_
          refine kx_iload_n K dX4_handleArrivals_68 rfl 3 rfl ?_
          refine kx_cv2v K c_X4_133 ⟨by decide, by decide, rfl, rfl, (by decide), (by decide)⟩ (Nat.le_of_ble_eq_true rfl) dX4_handleArrivals_69 hf (fun _ _ _ h => k_X4_receiveAnswer h) (fun _ σ31 hf => ?_)
          refine kx_goto K 105 dX4_handleArrivals_72 (by decide) ?_
          refine kx_aload_n K dX4_handleArrivals_105 rfl 2 rfl ?_
          refine kx_gr K f_X4_12 dX4_handleArrivals_106 hf (fun x32 hf => ?_)
          refine kx_iload_n K dX4_handleArrivals_109 rfl 5 rfl ?_
          refine kx_cv1i K c_X4_139 ⟨by decide, by decide, rfl, rfl, (by decide), (by decide)⟩ (Nat.le_of_ble_eq_true rfl) dX4_handleArrivals_110 hf (fun _ _ _ h => k_X2_arrivalBehind h) (fun x34 σ33 hf => ?_)
          refine kx_istore_n K [(3, .int x34), (6, .int x16), (5, .int x11), (0, .ref a0), (1, .int a1), (2, .int v7), (4, .int v9)] dX4_handleArrivals_113 rfl (by decide) rfl ?_
          refine kx_iinc (v := (v9 + 1)) K [(4, .int (v9 + 1)), (3, .int x34), (6, .int x16), (5, .int x11), (0, .ref a0), (1, .int a1), (2, .int v7)] dX4_handleArrivals_114 6 rfl rfl (by decide) rfl ?_
          refine kx_goto K 21 dX4_handleArrivals_117 (by decide) ?_
          refine kx_sub [(0, .ref a0), (1, .int a1), (2, .int v7), (3, .int x34), (4, .int (v9 + 1))] [4, 5, 6, 1, 0] rfl ?_
          exact ih21 _ _ _ _ hf
  unfold m_X4_handleArrivals at hf
  refine kx_aload_n K dX4_handleArrivals_0 rfl 0 rfl ?_
  refine kx_gr K f_X4_12 dX4_handleArrivals_1 hf (fun x1 hf => ?_)
  refine kx_iload_n K dX4_handleArrivals_4 rfl 1 rfl ?_
  refine kx_cv1i K c_X4_121 ⟨by decide, by decide, rfl, rfl, (by decide), (by decide)⟩ (Nat.le_of_ble_eq_true rfl) dX4_handleArrivals_5 hf (fun _ _ _ h => k_X2_arrivalsIn h) (fun x3 σ2 hf => ?_)
  refine kx_istore_n K [(2, .int x3), (0, .ref a0), (1, .int a1)] dX4_handleArrivals_8 rfl (by decide) rfl ?_
  refine kx_aload_n K dX4_handleArrivals_9 rfl 1 rfl ?_
  refine kx_gr K f_X4_12 dX4_handleArrivals_10 hf (fun x4 hf => ?_)
  refine kx_iload_n K dX4_handleArrivals_13 rfl 2 rfl ?_
  refine kx_cv1i K c_X4_124 ⟨by decide, by decide, rfl, rfl, (by decide), (by decide)⟩ (Nat.le_of_ble_eq_true rfl) dX4_handleArrivals_14 hf (fun _ _ _ h => k_X2_firstArrivalIn h) (fun x6 σ5 hf => ?_)
  refine kx_istore_n K [(3, .int x6), (2, .int x3), (0, .ref a0), (1, .int a1)] dX4_handleArrivals_17 rfl (by decide) rfl ?_
  refine kx_iconst (v := 0) K dX4_handleArrivals_18 (by decide) ?_
  refine kx_istore K [(4, .int (0 : Int32)), (3, .int x6), (2, .int x3), (0, .ref a0), (1, .int a1)] dX4_handleArrivals_19 (by decide) rfl ?_
  refine kx_sub [(0, .ref a0), (1, .int a1), (2, .int x3), (3, .int x6), (4, .int (0 : Int32))] [3, 4, 2, 1, 0] rfl ?_
  exact B21 hN_f _ _ _ _ hf
def m_X4_takePresentItem_j33  (a0 : Nat) (a1 : Int32) (σ6 : ac_H) : Option (Int32 × ac_H) :=
  mo_z (1 : Int32) <| mo_pv σ6 a0 4 11 (.int (1 : Int32)) fun σ7 =>
  mo_pv σ7 a0 4 12 (.int a1) fun σ8 =>
  mo_gi σ8 a0 4 9 fun x9 =>
  some (x9, σ8)
def m_X4_takePresentItem (σ : ac_H) (a0 : Nat) (a1 : Int32) : Option (Int32 × ac_H) :=
  mo_gi σ a0 4 9 fun x1 =>
  mo_gi σ a0 4 5 fun x2 =>
  if x1 < x2 then
  (mo_gi σ a0 4 11 fun x3 =>
  if x3 = 0 then
  (m_X4_takePresentItem_j33 a0 a1 σ)
  else
  (mo_gi σ a0 4 12 fun x4 =>
  mo_gi σ a0 4 6 fun x5 =>
  if (a1 - x4) < x5 then
  (some ((-1 : Int32), σ))
  else
  (m_X4_takePresentItem_j33 a0 a1 σ)))
  else
  (some ((-1 : Int32), σ))
set_option maxRecDepth 100000 in
set_option maxHeartbeats 4000000 in
theorem k_X4_takePresentItem {Λ : ex_L} {q : Nat} {σ σ' : ac_H} {a0 : Nat} {a1 : Int32} {v : Int32} (hf : m_X4_takePresentItem σ a0 a1 = some (v, σ')) : kx_C Λ yX4_takePresentItem (.code yX4_takePresentItem cX4_takePresentItem 2 (some .int)) ({ frames := 0, cells := 0, slots := 0, locals := 0 } : Room) [.ref a0, .int a1] q σ (.inr (some (.int v))) σ' (fun z => z = q) := by
  refine kx_in (by decide +kernel) (Nat.le_of_ble_eq_true rfl) ?_
  intro Γ K hnm hsz hQ
  refine kx_lv (lv' := [(0, .ref a0), (1, .int a1)]) rfl ?_
  have B33 : ∀ (σ6 : ac_H), m_X4_takePresentItem_j33 a0 a1 σ6 = some (v, σ') → kx_S Λ Γ 2 (fun z => z = q) σ6 (0) (0) 33 [(0, .ref a0), (1, .int a1)] [] := by
    intro σ6 hf
    unfold m_X4_takePresentItem_j33 at hf
    refine kx_aload_n K dX4_takePresentItem_33 rfl 0 rfl ?_
    refine kx_iconst (v := 1) K dX4_takePresentItem_34 (by decide) ?_
    refine kx_pz K f_X4_104 dX4_takePresentItem_35 hf (fun σ7 hf => ?_)
    refine kx_aload_n K dX4_takePresentItem_38 rfl 0 rfl ?_
    refine kx_iload_n K dX4_takePresentItem_39 rfl 1 rfl ?_
    refine kx_pi K f_X4_108 dX4_takePresentItem_40 hf (fun σ8 hf => ?_)
    refine kx_aload_n K dX4_takePresentItem_43 rfl 0 rfl ?_
    refine kx_gi K f_X4_62 dX4_takePresentItem_44 hf (fun x9 hf => ?_)
    exact kx_iret K hQ (by decide) (by decide) (fun _ h => h) dX4_takePresentItem_47 hf
  unfold m_X4_takePresentItem at hf
  refine kx_aload_n K dX4_takePresentItem_0 rfl 0 rfl ?_
  refine kx_gi K f_X4_62 dX4_takePresentItem_1 hf (fun x1 hf => ?_)
  refine kx_aload_n K dX4_takePresentItem_4 rfl 0 rfl ?_
  refine kx_gi K f_X4_79 dX4_takePresentItem_5 hf (fun x2 hf => ?_)
  refine kx_icmp_ge K 31 hf dX4_takePresentItem_8 (by decide) (fun hf => ?_) (fun hf => ?_)
  · refine kx_iconst (v := -1) K dX4_takePresentItem_31 (by decide) ?_
    exact kx_iret K hQ (by decide) (by decide) (fun _ h => h) dX4_takePresentItem_32 hf
  · refine kx_aload_n K dX4_takePresentItem_11 rfl 0 rfl ?_
    refine kx_gi K f_X4_104 dX4_takePresentItem_12 hf (fun x3 hf => ?_)
    refine kx_if_eq K 33 hf dX4_takePresentItem_15 (by decide) (fun hf => ?_) (fun hf => ?_)
    · refine kx_sub [(0, .ref a0), (1, .int a1)] [0, 1] rfl ?_
      exact B33 _ hf
    · refine kx_iload_n K dX4_takePresentItem_18 rfl 1 rfl ?_
      refine kx_aload_n K dX4_takePresentItem_19 rfl 0 rfl ?_
      refine kx_gi K f_X4_108 dX4_takePresentItem_20 hf (fun x4 hf => ?_)
      refine kx_isub K dX4_takePresentItem_23 ?_
      refine kx_aload_n K dX4_takePresentItem_24 rfl 0 rfl ?_
      refine kx_gi K f_X4_92 dX4_takePresentItem_25 hf (fun x5 hf => ?_)
      refine kx_icmp_ge K 33 hf dX4_takePresentItem_28 (by decide) (fun hf => ?_) (fun hf => ?_)
      · refine kx_sub [(0, .ref a0), (1, .int a1)] [0, 1] rfl ?_
        exact B33 _ hf
      · refine kx_iconst (v := -1) K dX4_takePresentItem_31 (by decide) ?_
        exact kx_iret K hQ (by decide) (by decide) (fun _ h => h) dX4_takePresentItem_32 hf
def m_X4_takeItemInWindow_j82  (a0 : Nat) (σ17 : ac_H) : Option (Int32 × ac_H) :=
  mo_gi σ17 a0 4 10 fun x18 =>
  mo_pv σ17 a0 4 10 (.int (x18 + (1 : Int32))) fun σ19 =>
  mo_gi σ19 a0 4 10 fun x20 =>
  some ((x20 - (1 : Int32)), σ19)
def m_X4_takeItemInWindow_j37  (a0 : Nat) (a1 : Int32) (σ8 : ac_H) : Option (Int32 × ac_H) :=
  mo_gi σ8 a0 4 10 fun x9 =>
  mo_gi σ8 a0 4 9 fun x10 =>
  mo_gi σ8 a0 4 7 fun x11 =>
  if x9 < (x10 + x11) then
  (mo_gi σ8 a0 4 10 fun x12 =>
  mo_gi σ8 a0 4 5 fun x13 =>
  if x12 < x13 then
  (mo_gi σ8 a0 4 9 fun x14 =>
  mo_gi σ8 a0 4 10 fun x15 =>
  if x14 = x15 then
  (mo_pv σ8 a0 4 12 (.int a1) fun σ16 =>
  m_X4_takeItemInWindow_j82 a0 σ16)
  else
  (m_X4_takeItemInWindow_j82 a0 σ8))
  else
  (some ((-1 : Int32), σ8)))
  else
  (some ((-1 : Int32), σ8))
def m_X4_takeItemInWindow (σ : ac_H) (a0 : Nat) (a1 : Int32) : Option (Int32 × ac_H) :=
  mo_gi σ a0 4 9 fun x1 =>
  mo_gi σ a0 4 10 fun x2 =>
  if x1 < x2 then
  (mo_gi σ a0 4 12 fun x3 =>
  mo_gi σ a0 4 6 fun x4 =>
  if (a1 - x3) < x4 then
  (m_X4_takeItemInWindow_j37 a0 a1 σ)
  else
  (mo_pv σ a0 4 12 (.int a1) fun σ5 =>
  mo_gi σ5 a0 4 9 fun x6 =>
  mo_pv σ5 a0 4 10 (.int x6) fun σ7 =>
  m_X4_takeItemInWindow_j37 a0 a1 σ7))
  else
  (m_X4_takeItemInWindow_j37 a0 a1 σ)
set_option maxRecDepth 100000 in
set_option maxHeartbeats 4000000 in
theorem k_X4_takeItemInWindow {Λ : ex_L} {q : Nat} {σ σ' : ac_H} {a0 : Nat} {a1 : Int32} {v : Int32} (hf : m_X4_takeItemInWindow σ a0 a1 = some (v, σ')) : kx_C Λ yX4_takeItemInWindow (.code yX4_takeItemInWindow cX4_takeItemInWindow 2 (some .int)) ({ frames := 0, cells := 0, slots := 0, locals := 0 } : Room) [.ref a0, .int a1] q σ (.inr (some (.int v))) σ' (fun z => z = q) := by
  refine kx_in (by decide +kernel) (Nat.le_of_ble_eq_true rfl) ?_
  intro Γ K hnm hsz hQ
  refine kx_lv (lv' := [(0, .ref a0), (1, .int a1)]) rfl ?_
  have B82 : ∀ (σ17 : ac_H), m_X4_takeItemInWindow_j82 a0 σ17 = some (v, σ') → kx_S Λ Γ 2 (fun z => z = q) σ17 (0) (0) 82 [(0, .ref a0)] [] := by
    intro σ17 hf
    unfold m_X4_takeItemInWindow_j82 at hf
    refine kx_aload_n K dX4_takeItemInWindow_82 rfl 0 rfl ?_
    refine kx_dup K dX4_takeItemInWindow_83 rfl ?_
    refine kx_gi K f_X4_101 dX4_takeItemInWindow_84 hf (fun x18 hf => ?_)
    refine kx_iconst (v := 1) K dX4_takeItemInWindow_87 (by decide) ?_
    refine kx_iadd K dX4_takeItemInWindow_88 ?_
    refine kx_pi K f_X4_101 dX4_takeItemInWindow_89 hf (fun σ19 hf => ?_)
    refine kx_aload_n K dX4_takeItemInWindow_92 rfl 0 rfl ?_
    refine kx_gi K f_X4_101 dX4_takeItemInWindow_93 hf (fun x20 hf => ?_)
    refine kx_iconst (v := 1) K dX4_takeItemInWindow_96 (by decide) ?_
    refine kx_isub K dX4_takeItemInWindow_97 ?_
    exact kx_iret K hQ (by decide) (by decide) (fun _ h => h) dX4_takeItemInWindow_98 hf
  have B37 : ∀ (σ8 : ac_H), m_X4_takeItemInWindow_j37 a0 a1 σ8 = some (v, σ') → kx_S Λ Γ 2 (fun z => z = q) σ8 (0) (0) 37 [(0, .ref a0), (1, .int a1)] [] := by
    intro σ8 hf
    unfold m_X4_takeItemInWindow_j37 at hf
    refine kx_aload_n K dX4_takeItemInWindow_37 rfl 0 rfl ?_
    refine kx_gi K f_X4_101 dX4_takeItemInWindow_38 hf (fun x9 hf => ?_)
    refine kx_aload_n K dX4_takeItemInWindow_41 rfl 0 rfl ?_
    refine kx_gi K f_X4_62 dX4_takeItemInWindow_42 hf (fun x10 hf => ?_)
    refine kx_aload_n K dX4_takeItemInWindow_45 rfl 0 rfl ?_
    refine kx_gi K f_X4_95 dX4_takeItemInWindow_46 hf (fun x11 hf => ?_)
    refine kx_iadd K dX4_takeItemInWindow_49 ?_
    refine kx_icmp_ge K 64 hf dX4_takeItemInWindow_50 (by decide) (fun hf => ?_) (fun hf => ?_)
    · refine kx_iconst (v := -1) K dX4_takeItemInWindow_64 (by decide) ?_
      exact kx_iret K hQ (by decide) (by decide) (fun _ h => h) dX4_takeItemInWindow_65 hf
    · refine kx_aload_n K dX4_takeItemInWindow_53 rfl 0 rfl ?_
      refine kx_gi K f_X4_101 dX4_takeItemInWindow_54 hf (fun x12 hf => ?_)
      refine kx_aload_n K dX4_takeItemInWindow_57 rfl 0 rfl ?_
      refine kx_gi K f_X4_79 dX4_takeItemInWindow_58 hf (fun x13 hf => ?_)
      refine kx_icmp_lt K 66 hf dX4_takeItemInWindow_61 (by decide) (fun hf => ?_) (fun hf => ?_)
      · refine kx_aload_n K dX4_takeItemInWindow_66 rfl 0 rfl ?_
        refine kx_gi K f_X4_62 dX4_takeItemInWindow_67 hf (fun x14 hf => ?_)
        refine kx_aload_n K dX4_takeItemInWindow_70 rfl 0 rfl ?_
        refine kx_gi K f_X4_101 dX4_takeItemInWindow_71 hf (fun x15 hf => ?_)
        refine kx_icmp_ne K 82 hf dX4_takeItemInWindow_74 (by decide) (fun hf => ?_) (fun hf => ?_)
        · refine kx_sub [(0, .ref a0)] [0] rfl ?_
          exact B82 _ hf
        · refine kx_aload_n K dX4_takeItemInWindow_77 rfl 0 rfl ?_
          refine kx_iload_n K dX4_takeItemInWindow_78 rfl 1 rfl ?_
          refine kx_pi K f_X4_108 dX4_takeItemInWindow_79 hf (fun σ16 hf => ?_)
          refine kx_sub [(0, .ref a0)] [0] rfl ?_
          exact B82 _ hf
      · refine kx_iconst (v := -1) K dX4_takeItemInWindow_64 (by decide) ?_
        exact kx_iret K hQ (by decide) (by decide) (fun _ h => h) dX4_takeItemInWindow_65 hf
  unfold m_X4_takeItemInWindow at hf
  refine kx_aload_n K dX4_takeItemInWindow_0 rfl 0 rfl ?_
  refine kx_gi K f_X4_62 dX4_takeItemInWindow_1 hf (fun x1 hf => ?_)
  refine kx_aload_n K dX4_takeItemInWindow_4 rfl 0 rfl ?_
  refine kx_gi K f_X4_101 dX4_takeItemInWindow_5 hf (fun x2 hf => ?_)
  refine kx_icmp_ge K 37 hf dX4_takeItemInWindow_8 (by decide) (fun hf => ?_) (fun hf => ?_)
  · refine kx_sub [(0, .ref a0), (1, .int a1)] [0, 1] rfl ?_
    exact B37 _ hf
  · refine kx_iload_n K dX4_takeItemInWindow_11 rfl 1 rfl ?_
    refine kx_aload_n K dX4_takeItemInWindow_12 rfl 0 rfl ?_
    refine kx_gi K f_X4_108 dX4_takeItemInWindow_13 hf (fun x3 hf => ?_)
    refine kx_isub K dX4_takeItemInWindow_16 ?_
    refine kx_aload_n K dX4_takeItemInWindow_17 rfl 0 rfl ?_
    refine kx_gi K f_X4_92 dX4_takeItemInWindow_18 hf (fun x4 hf => ?_)
    refine kx_icmp_lt K 37 hf dX4_takeItemInWindow_21 (by decide) (fun hf => ?_) (fun hf => ?_)
    · refine kx_sub [(0, .ref a0), (1, .int a1)] [0, 1] rfl ?_
      exact B37 _ hf
    · refine kx_aload_n K dX4_takeItemInWindow_24 rfl 0 rfl ?_
      refine kx_iload_n K dX4_takeItemInWindow_25 rfl 1 rfl ?_
      refine kx_pi K f_X4_108 dX4_takeItemInWindow_26 hf (fun σ5 hf => ?_)
      refine kx_aload_n K dX4_takeItemInWindow_29 rfl 0 rfl ?_
      refine kx_aload_n K dX4_takeItemInWindow_30 rfl 0 rfl ?_
      refine kx_gi K f_X4_62 dX4_takeItemInWindow_31 hf (fun x6 hf => ?_)
      refine kx_pi K f_X4_101 dX4_takeItemInWindow_34 hf (fun σ7 hf => ?_)
      refine kx_sub [(0, .ref a0), (1, .int a1)] [0, 1] rfl ?_
      exact B37 _ hf
def m_X4_takeNextItem (σ : ac_H) (a0 : Nat) : Option (Int32 × ac_H) :=
  mo_gi σ a0 4 9 fun x1 =>
  mo_gi σ a0 4 5 fun x2 =>
  if x1 < x2 then
  (mo_gi σ a0 4 9 fun x3 =>
  mo_pv σ a0 4 9 (.int (x3 + (1 : Int32))) fun σ4 =>
  mo_gi σ4 a0 4 9 fun x5 =>
  some ((x5 - (1 : Int32)), σ4))
  else
  (some ((-1 : Int32), σ))
set_option maxRecDepth 100000 in
set_option maxHeartbeats 4000000 in
theorem k_X4_takeNextItem {Λ : ex_L} {q : Nat} {σ σ' : ac_H} {a0 : Nat} {v : Int32} (hf : m_X4_takeNextItem σ a0 = some (v, σ')) : kx_C Λ yX4_takeNextItem (.code yX4_takeNextItem cX4_takeNextItem 1 (some .int)) ({ frames := 0, cells := 0, slots := 0, locals := 0 } : Room) [.ref a0] q σ (.inr (some (.int v))) σ' (fun z => z = q) := by
  refine kx_in (by decide +kernel) (Nat.le_of_ble_eq_true rfl) ?_
  intro Γ K hnm hsz hQ
  refine kx_lv (lv' := [(0, .ref a0)]) rfl ?_
  unfold m_X4_takeNextItem at hf
  refine kx_aload_n K dX4_takeNextItem_0 rfl 0 rfl ?_
  refine kx_gi K f_X4_62 dX4_takeNextItem_1 hf (fun x1 hf => ?_)
  refine kx_aload_n K dX4_takeNextItem_4 rfl 0 rfl ?_
  refine kx_gi K f_X4_79 dX4_takeNextItem_5 hf (fun x2 hf => ?_)
  refine kx_icmp_lt K 13 hf dX4_takeNextItem_8 (by decide) (fun hf => ?_) (fun hf => ?_)
  · refine kx_aload_n K dX4_takeNextItem_13 rfl 0 rfl ?_
    refine kx_dup K dX4_takeNextItem_14 rfl ?_
    refine kx_gi K f_X4_62 dX4_takeNextItem_15 hf (fun x3 hf => ?_)
    refine kx_iconst (v := 1) K dX4_takeNextItem_18 (by decide) ?_
    refine kx_iadd K dX4_takeNextItem_19 ?_
    refine kx_pi K f_X4_62 dX4_takeNextItem_20 hf (fun σ4 hf => ?_)
    refine kx_aload_n K dX4_takeNextItem_23 rfl 0 rfl ?_
    refine kx_gi K f_X4_62 dX4_takeNextItem_24 hf (fun x5 hf => ?_)
    refine kx_iconst (v := 1) K dX4_takeNextItem_27 (by decide) ?_
    refine kx_isub K dX4_takeNextItem_28 ?_
    exact kx_iret K hQ (by decide) (by decide) (fun _ h => h) dX4_takeNextItem_29 hf
  · refine kx_iconst (v := -1) K dX4_takeNextItem_11 (by decide) ?_
    exact kx_iret K hQ (by decide) (by decide) (fun _ h => h) dX4_takeNextItem_12 hf
def m_X4_takeSendersTurn (σ : ac_H) (a0 : Nat) (a1 : Int32) : Option (Int32 × ac_H) :=
  mo_gi σ a0 4 4 fun x1 =>
  if x1 = (1 : Int32) then
  (mo_cv σ a0 4 (m_X4_takePresentItem σ a0 a1) fun x3 σ2 =>
  some (x3, σ2))
  else
  if x1 = (2 : Int32) then
  (mo_cv σ a0 4 (m_X4_takeItemInWindow σ a0 a1) fun x6 σ5 =>
  some (x6, σ5))
  else
  (mo_cv σ a0 4 (m_X4_takeNextItem σ a0) fun x9 σ8 =>
  some (x9, σ8))
set_option maxRecDepth 100000 in
set_option maxHeartbeats 4000000 in
theorem k_X4_takeSendersTurn {Λ : ex_L} {q : Nat} {σ σ' : ac_H} {a0 : Nat} {a1 : Int32} {v : Int32} (hf : m_X4_takeSendersTurn σ a0 a1 = some (v, σ')) : kx_C Λ yX4_takeSendersTurn (.code yX4_takeSendersTurn cX4_takeSendersTurn 2 (some .int)) ({ frames := 1, cells := 0, slots := 0, locals := 21 } : Room) [.ref a0, .int a1] q σ (.inr (some (.int v))) σ' (fun z => z = q) := by
  refine kx_in (by decide +kernel) (Nat.le_of_ble_eq_true rfl) ?_
  intro Γ K hnm hsz hQ
  refine kx_lv (lv' := [(0, .ref a0), (1, .int a1)]) rfl ?_
  unfold m_X4_takeSendersTurn at hf
  refine kx_aload_n K dX4_takeSendersTurn_0 rfl 0 rfl ?_
  refine kx_gi K f_X4_89 dX4_takeSendersTurn_1 hf (fun x1 hf => ?_)
  refine kx_lwI (c := 1) (off := 28) K 32 dX4_takeSendersTurn_4 (by decide) (by decide) (by decide) hf (fun hf => ?_) (fun h4 hf => ?_)
  · refine kx_aload_n K dX4_takeSendersTurn_32 rfl 0 rfl ?_
    refine kx_iload_n K dX4_takeSendersTurn_33 rfl 1 rfl ?_
    refine kx_cv1i K c_X4_146 ⟨by decide, by decide, rfl, rfl, (by decide), (by decide)⟩ (Nat.le_of_ble_eq_true rfl) dX4_takeSendersTurn_34 hf (fun _ _ _ h => k_X4_takePresentItem h) (fun x3 σ2 hf => ?_)
    exact kx_iret K hQ (by decide) (by decide) (fun _ h => h) dX4_takeSendersTurn_37 hf
  refine kx_lwI (c := 2) (off := 34) K 38 dX4_takeSendersTurn_4 (by decide) (by decide) (by decide) hf (fun hf => ?_) (fun h7 hf => ?_)
  · refine kx_aload_n K dX4_takeSendersTurn_38 rfl 0 rfl ?_
    refine kx_iload_n K dX4_takeSendersTurn_39 rfl 1 rfl ?_
    refine kx_cv1i K c_X4_149 ⟨by decide, by decide, rfl, rfl, (by decide), (by decide)⟩ (Nat.le_of_ble_eq_true rfl) dX4_takeSendersTurn_40 hf (fun _ _ _ h => k_X4_takeItemInWindow h) (fun x6 σ5 hf => ?_)
    exact kx_iret K hQ (by decide) (by decide) (fun _ h => h) dX4_takeSendersTurn_43 hf
  refine kx_lwD K 44 dX4_takeSendersTurn_4 (by decide) (by show Op.lookupswitch.offset [(1, 28), (2, 34)] 40 (x1).toInt = 40; rw [lv_osw h4 (show (1 : Int32).toInt = 1 by decide), lv_osw h7 (show (2 : Int32).toInt = 2 by decide)]; rfl) (by decide) ?_
  refine kx_aload_n K dX4_takeSendersTurn_44 rfl 0 rfl ?_
  refine kx_cv0i K c_X4_152 ⟨by decide, by decide, rfl, rfl, (by decide), (by decide)⟩ (Nat.le_of_ble_eq_true rfl) dX4_takeSendersTurn_45 hf (fun _ _ _ h => k_X4_takeNextItem h) (fun x9 σ8 hf => ?_)
  exact kx_iret K hQ (by decide) (by decide) (fun _ h => h) dX4_takeSendersTurn_48 hf
def m_X4_play_j51 (K13 : ac_H → Int32 → Int32 → Option (Int32 × ac_H)) (a0 : Nat) (a1 : Nat) (σ20 : ac_H) (v18 : Int32) (v19 : Int32) : Option (Int32 × ac_H) :=
  mo_gr σ20 a0 4 2 fun x21 =>
  mo_gi σ20 a0 4 9 fun x22 =>
  mo_gr σ20 a0 4 1 fun x23 =>
  mo_cv σ20 x23 1 (m_X1_howMany σ20 x23) fun x25 σ24 =>
  mo_cv σ24 x21 5 (m_X5_put σ24 x21 x22 (if (15 : Int32) < x25 then (15 : Int32) else x25)) fun _ σ26 =>
  mo_gi σ26 a0 4 14 fun x27 =>
  mo_pv σ26 a0 4 14 (.int (x27 + (1 : Int32))) fun σ28 =>
  mo_gi σ28 a0 4 9 fun x29 =>
  mo_gi σ28 a0 4 5 fun x30 =>
  if x29 < x30 then
  (K13 σ28 v18 (v19 + 1))
  else
  (mo_gr σ28 a0 4 0 fun x31 =>
  mo_cv σ28 x31 2 (m_X2_isEmpty σ28 x31) fun x33 σ32 =>
  if x33 = 0 then
  (K13 σ32 v18 (v19 + 1))
  else
  (mo_gr σ32 a0 4 1 fun x34 =>
  mo_cv σ32 a1 0 (m_X0_setting σ32 a1 (7 : Int32)) fun x36 σ35 =>
  mo_cv σ35 x34 1 (m_X1_broken σ35 x34 x36) fun x38 σ37 =>
  some (x38, σ37)))
def m_X4_play_l13  (a0 : Nat) (a1 : Nat) : Nat → ac_H → Int32 → Int32 → Option (Int32 × ac_H)
  | 0, _, _, _ => none
  | n + 1, σ6, v4, v5 =>
    if v5 < v4 then
    (mo_cv σ6 a0 4 (m_X4_handleArrivals σ6 a0 v5) fun _ σ12 =>
    mo_cv σ12 a0 4 (m_X4_takeSendersTurn σ12 a0 v5) fun x14 σ13 =>
    if x14 = (-1 : Int32) then
    (m_X4_play_j51 (fun ρ y0 y1 => m_X4_play_l13 a0 a1 n ρ y0 y1) a0 a1 σ13 v4 v5)
    else
    (mo_gr σ13 a0 4 0 fun x15 =>
    mo_gr σ13 a0 4 3 fun x16 =>
    mo_cv σ13 x15 2 (m_X2_send σ13 x15 x16 v5 (0 : Int32) x14) fun _ σ17 =>
    m_X4_play_j51 (fun ρ y0 y1 => m_X4_play_l13 a0 a1 n ρ y0 y1) a0 a1 σ17 v4 v5))
    else
    (mo_gr σ6 a0 4 1 fun x7 =>
    mo_cv σ6 a1 0 (m_X0_setting σ6 a1 (7 : Int32)) fun x9 σ8 =>
    mo_cv σ8 x7 1 (m_X1_broken σ8 x7 x9) fun x11 σ10 =>
    some (x11, σ10))
def m_X4_play (σ : ac_H) (a0 : Nat) (a1 : Nat) : Option (Int32 × ac_H) :=
  mo_cv σ a0 4 (m_X4_begin σ a0 a1) fun _ σ1 =>
  mo_cv σ1 a1 0 (m_X0_setting σ1 a1 (2 : Int32)) fun x3 σ2 =>
  m_X4_play_l13 a0 a1 hN_f σ2 x3 (0 : Int32)
set_option maxRecDepth 100000 in
set_option maxHeartbeats 4000000 in
theorem k_X4_play {Λ : ex_L} {q : Nat} {σ σ' : ac_H} {a0 : Nat} {a1 : Nat} {v : Int32} (hf : m_X4_play σ a0 a1 = some (v, σ')) : kx_C Λ yX4_play (.code yX4_play cX4_play 5 (some .int)) ({ frames := 3, cells := 0, slots := 0, locals := 77 } : Room) [.ref a0, .ref a1] q σ (.inr (some (.int v))) σ' (fun z => z = q) := by
  refine kx_in (by decide +kernel) (Nat.le_of_ble_eq_true rfl) ?_
  intro Γ K hnm hsz hQ
  refine kx_lv (lv' := [(0, .ref a0), (1, .ref a1)]) rfl ?_
  have B13 : ∀ (n13 : Nat) (σ6 : ac_H) (v4 : Int32) (v5 : Int32), m_X4_play_l13 a0 a1 n13 σ6 v4 v5 = some (v, σ') → kx_S Λ Γ 5 (fun z => z = q) σ6 (0) (0) 13 [(0, .ref a0), (1, .ref a1), (2, .int v4), (3, .int v5)] [] := by
    intro n13
    induction n13 with
    | zero =>
      intro σ6 v4 v5 hf
      rw [m_X4_play_l13] at hf
      cases hf
    | succ n13 ih13 =>
      have B51 : ∀ (σ20 : ac_H) (v18 : Int32) (v19 : Int32), m_X4_play_j51 (fun ρ y0 y1 => m_X4_play_l13 a0 a1 n13 ρ y0 y1) a0 a1 σ20 v18 v19 = some (v, σ') → kx_S Λ Γ 5 (fun z => z = q) σ20 (0) (0) 51 [(0, .ref a0), (1, .ref a1), (2, .int v18), (3, .int v19)] [] := by
        intro σ20 v18 v19 hf
        unfold m_X4_play_j51 at hf
        refine kx_aload_n K dX4_play_51 rfl 0 rfl ?_
        refine kx_gr K f_X4_28 dX4_play_52 hf (fun x21 hf => ?_)
        refine kx_aload_n K dX4_play_55 rfl 0 rfl ?_
        refine kx_gi K f_X4_62 dX4_play_56 hf (fun x22 hf => ?_)
        refine kx_aload_n K dX4_play_59 rfl 0 rfl ?_
        refine kx_gr K f_X4_21 dX4_play_60 hf (fun x23 hf => ?_)
        refine kx_cv0i K c_X4_65 ⟨by decide, by decide, rfl, rfl, (by decide), (by decide)⟩ (Nat.le_of_ble_eq_true rfl) dX4_play_63 hf (fun _ _ _ h => k_X1_howMany h) (fun x25 σ24 hf => ?_)
        refine kx_bipush (v := 15) K dX4_play_66 (by decide) ?_
        refine kx_mmin K w_642 w_197 w_180 w_198 (by decide) (Nat.le_of_ble_eq_true rfl) (by decide) (by decide) dX4_play_68 ?_
        refine kx_cv2v K c_X4_75 ⟨by decide, by decide, rfl, rfl, (by decide), (by decide)⟩ (Nat.le_of_ble_eq_true rfl) dX4_play_71 hf (fun _ _ _ h => k_X5_put h) (fun _ σ26 hf => ?_)
        refine kx_aload_n K dX4_play_74 rfl 0 rfl ?_
        refine kx_dup K dX4_play_75 rfl ?_
        refine kx_gi K f_X4_39 dX4_play_76 hf (fun x27 hf => ?_)
        refine kx_iconst (v := 1) K dX4_play_79 (by decide) ?_
        refine kx_iadd K dX4_play_80 ?_
        refine kx_pi K f_X4_39 dX4_play_81 hf (fun σ28 hf => ?_)
        refine kx_aload_n K dX4_play_84 rfl 0 rfl ?_
        refine kx_gi K f_X4_62 dX4_play_85 hf (fun x29 hf => ?_)
        refine kx_aload_n K dX4_play_88 rfl 0 rfl ?_
        refine kx_gi K f_X4_79 dX4_play_89 hf (fun x30 hf => ?_)
        refine kx_icmp_lt K 108 hf dX4_play_92 (by decide) (fun hf => ?_) (fun hf => ?_)
        · refine kx_iinc (v := (v19 + 1)) K [(3, .int (v19 + 1)), (0, .ref a0), (1, .ref a1), (2, .int v18)] dX4_play_108 3 rfl rfl (by decide) rfl ?_
          refine kx_goto K 13 dX4_play_111 (by decide) ?_
          refine kx_sub [(0, .ref a0), (1, .ref a1), (2, .int v18), (3, .int (v19 + 1))] [1, 2, 3, 0] rfl ?_
          exact ih13 _ _ _ hf
        · refine kx_aload_n K dX4_play_95 rfl 0 rfl ?_
          refine kx_gr K f_X4_12 dX4_play_96 hf (fun x31 hf => ?_)
          refine kx_cv0i K c_X4_82 ⟨by decide, by decide, rfl, rfl, (by decide), (by decide)⟩ (Nat.le_of_ble_eq_true rfl) dX4_play_99 hf (fun _ _ _ h => k_X2_isEmpty h) (fun x33 σ32 hf => ?_)
          refine kx_if_eq K 108 hf dX4_play_102 (by decide) (fun hf => ?_) (fun hf => ?_)
          · refine kx_iinc (v := (v19 + 1)) K [(3, .int (v19 + 1)), (0, .ref a0), (1, .ref a1), (2, .int v18)] dX4_play_108 3 rfl rfl (by decide) rfl ?_
            refine kx_goto K 13 dX4_play_111 (by decide) ?_
            refine kx_sub [(0, .ref a0), (1, .ref a1), (2, .int v18), (3, .int (v19 + 1))] [1, 2, 3, 0] rfl ?_
            exact ih13 _ _ _ hf
          · refine kx_goto K 114 dX4_play_105 (by decide) ?_
            refine kx_aload_n K dX4_play_114 rfl 0 rfl ?_
            refine kx_gr K f_X4_21 dX4_play_115 hf (fun x34 hf => ?_)
            refine kx_aload_n K dX4_play_118 rfl 1 rfl ?_
            refine kx_bipush (v := 7) K dX4_play_119 (by decide) ?_
            refine kx_cv1i K c_X4_47 ⟨by decide, by decide, rfl, rfl, (by decide), (by decide)⟩ (Nat.le_of_ble_eq_true rfl) dX4_play_121 hf (fun _ _ _ h => k_X0_setting h) (fun x36 σ35 hf => ?_)
            refine kx_cv1i K c_X4_86 ⟨by decide, by decide, rfl, rfl, (by decide), (by decide)⟩ (Nat.le_of_ble_eq_true rfl) dX4_play_124 hf (fun _ _ _ h => k_X1_broken h) (fun x38 σ37 hf => ?_)
            exact kx_iret K hQ (by decide) (by decide) (fun _ h => h) dX4_play_127 hf
      intro σ6 v4 v5 hf
      rw [m_X4_play_l13] at hf
      refine kx_iload_n K dX4_play_13 rfl 3 rfl ?_
      refine kx_iload_n K dX4_play_14 rfl 2 rfl ?_
      refine kx_icmp_ge K 114 hf dX4_play_15 (by decide) (fun hf => ?_) (fun hf => ?_)
      · refine kx_aload_n K dX4_play_114 rfl 0 rfl ?_
        refine kx_gr K f_X4_21 dX4_play_115 hf (fun x7 hf => ?_)
        refine kx_aload_n K dX4_play_118 rfl 1 rfl ?_
        refine kx_bipush (v := 7) K dX4_play_119 (by decide) ?_
        refine kx_cv1i K c_X4_47 ⟨by decide, by decide, rfl, rfl, (by decide), (by decide)⟩ (Nat.le_of_ble_eq_true rfl) dX4_play_121 hf (fun _ _ _ h => k_X0_setting h) (fun x9 σ8 hf => ?_)
        refine kx_cv1i K c_X4_86 ⟨by decide, by decide, rfl, rfl, (by decide), (by decide)⟩ (Nat.le_of_ble_eq_true rfl) dX4_play_124 hf (fun _ _ _ h => k_X1_broken h) (fun x11 σ10 hf => ?_)
        exact kx_iret K hQ (by decide) (by decide) (fun _ h => h) dX4_play_127 hf
      · refine kx_aload_n K dX4_play_18 rfl 0 rfl ?_
        refine kx_iload_n K dX4_play_19 rfl 3 rfl ?_
        refine kx_cv1v K c_X4_51 ⟨by decide, by decide, rfl, rfl, (by decide), (by decide)⟩ (Nat.le_of_ble_eq_true rfl) dX4_play_20 hf (fun _ _ _ h => k_X4_handleArrivals h) (fun _ σ12 hf => ?_)
        refine kx_aload_n K dX4_play_23 rfl 0 rfl ?_
        refine kx_iload_n K dX4_play_24 rfl 3 rfl ?_
        refine kx_cv1i K c_X4_55 ⟨by decide, by decide, rfl, rfl, (by decide), (by decide)⟩ (Nat.le_of_ble_eq_true rfl) dX4_play_25 hf (fun _ _ _ h => k_X4_takeSendersTurn h) (fun x14 σ13 hf => ?_)
        refine kx_istore K [(4, .int x14), (0, .ref a0), (1, .ref a1), (2, .int v4), (3, .int v5)] dX4_play_28 (by decide) rfl ?_
        refine kx_iload K dX4_play_30 0 rfl ?_
        refine kx_iconst (v := -1) K dX4_play_32 (by decide) ?_
        refine kx_icmp_eq K 51 hf dX4_play_33 (by decide) (fun hf => ?_) (fun hf => ?_)
        · refine kx_sub [(0, .ref a0), (1, .ref a1), (2, .int v4), (3, .int v5)] [1, 2, 3, 4] rfl ?_
          exact B51 _ _ _ hf
        · refine kx_aload_n K dX4_play_36 rfl 1 rfl ?_
          refine kx_gr K f_X4_12 dX4_play_37 hf (fun x15 hf => ?_)
          refine kx_aload_n K dX4_play_40 rfl 1 rfl ?_
          refine kx_gr K f_X4_35 dX4_play_41 hf (fun x16 hf => ?_)
          refine kx_iload_n K dX4_play_44 rfl 4 rfl ?_
          refine kx_iconst (v := 0) K dX4_play_45 (by decide) ?_
          refine kx_iload K dX4_play_46 0 rfl ?_
          refine kx_cv4v K c_X4_58 ⟨by decide, by decide, rfl, rfl, (by decide), (by decide)⟩ (Nat.le_of_ble_eq_true rfl) dX4_play_48 hf (fun _ _ _ h => k_X2_send h) (fun _ σ17 hf => ?_)
          refine kx_sub [(0, .ref a0), (1, .ref a1), (2, .int v4), (3, .int v5)] [1, 2, 3, 4] rfl ?_
          exact B51 _ _ _ hf
  unfold m_X4_play at hf
  refine kx_aload_n K dX4_play_0 rfl 0 rfl ?_
  refine kx_aload_n K dX4_play_1 rfl 1 rfl ?_
  refine kx_cv1v K c_X4_43 ⟨by decide, by decide, rfl, rfl, (by decide), (by decide)⟩ (Nat.le_of_ble_eq_true rfl) dX4_play_2 hf (fun _ _ _ h => k_X4_begin h) (fun _ σ1 hf => ?_)
  refine kx_aload_n K dX4_play_5 rfl 1 rfl ?_
  refine kx_iconst (v := 2) K dX4_play_6 (by decide) ?_
  refine kx_cv1i K c_X4_47 ⟨by decide, by decide, rfl, rfl, (by decide), (by decide)⟩ (Nat.le_of_ble_eq_true rfl) dX4_play_7 hf (fun _ _ _ h => k_X0_setting h) (fun x3 σ2 hf => ?_)
  refine kx_istore_n K [(2, .int x3), (0, .ref a0), (1, .ref a1)] dX4_play_10 rfl (by decide) rfl ?_
  refine kx_iconst (v := 0) K dX4_play_11 (by decide) ?_
  refine kx_istore_n K [(3, .int (0 : Int32)), (2, .int x3), (0, .ref a0), (1, .ref a1)] dX4_play_12 rfl (by decide) rfl ?_
  refine kx_sub [(0, .ref a0), (1, .ref a1), (2, .int x3), (3, .int (0 : Int32))] [2, 3, 1, 0] rfl ?_
  exact B13 hN_f _ _ _ hf

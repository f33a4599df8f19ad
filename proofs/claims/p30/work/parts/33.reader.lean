def m_X3_init (σ : ac_H) (a0 : Nat) (q : Nat) : Option (Nat × ac_H) :=
  mo_pv (ac_up σ q (.inl (0, kx_ar 0 500))) a0 3 0 (.ref q) fun σ1 =>
  mo_pv σ1 a0 3 8 (.int (-1 : Int32)) fun σ2 =>
  mo_cs (m_X0_init (ac_up σ2 (q + 1) (.inr (0, [.null, .null, .null, .null, .int 0, .null]))) (q + 1) ((q + 1) + 1)) fun z5 σ4 =>
  mo_pv σ4 a0 3 9 (.ref (q + 1)) fun σ6 =>
  some (z5, σ6)
set_option maxRecDepth 100000 in
set_option maxHeartbeats 4000000 in
theorem k_X3_init {Λ : ex_L} {q : Nat} {σ σ' : ac_H} {a0 : Nat} {v : Nat} (hf : m_X3_init σ a0 q = some (v, σ')) : kx_C Λ yX3_init (.code yX3_init cX3_init 1 none) ({ frames := 3, cells := 8, slots := 554, locals := 60 } : Room) [.ref a0] q σ (.inr none) σ' (fun z => z = v) := by
  refine kx_in (by decide +kernel) (Nat.le_of_ble_eq_true rfl) ?_
  intro Γ K hnm hsz hQ
  refine kx_lv (lv' := [(0, .ref a0)]) rfl ?_
  unfold m_X3_init at hf
  refine kx_aload_n K dX3_init_0 rfl 0 rfl ?_
  refine kx_oinit K w_93 w_8 w_9 (by decide) (by decide) dX3_init_1 ?_
  refine kx_aload_n K dX3_init_4 rfl 0 rfl ?_
  refine kx_sipush (v := 500) K dX3_init_5 (by decide) ?_
  refine kx_newa (kd := 0) (M := 500) (at9 := .int) K (by decide) rfl w_3 (by decide) (by decide) (by decide) (by decide) dX3_init_8 ?_
  refine kx_putF K f_X3_9 hnm rfl dX3_init_10 rfl rfl hf (fun σ1 hf => ?_)
  refine kx_aload_n K dX3_init_13 rfl 0 rfl ?_
  refine kx_iconst (v := -1) K dX3_init_14 (by decide) ?_
  refine kx_pi K f_X3_15 dX3_init_15 hf (fun σ2 hf => ?_)
  refine kx_aload_n K dX3_init_18 rfl 0 rfl ?_
  refine kx_new K n_X3_19 (by decide) (by decide) dX3_init_19 ?_
  refine kx_dup K dX3_init_22 rfl ?_
  refine kx_ci (rmy := { frames := 2, cells := 6, slots := 48, locals := 40 }) (k' := 8) (n' := 554) (As := []) K c_X3_21 ⟨by decide, by decide, by show 2 + 6 = 8; omega, by show 506 + 48 = 554; omega, (by decide), (by decide)⟩ rfl rfl (Nat.le_of_ble_eq_true rfl) dX3_init_23 hf (fun _ _ h => k_X0_init h) (fun z5 σ4 hf => ?_)
  refine kx_putF K f_X3_22 hnm rfl dX3_init_26 rfl rfl hf (fun σ6 hf => ?_)
  exact kx_vretZ K hQ (by decide) (by decide) dX3_init_29 hf
def m_X3_heldBytes (σ : ac_H) (a0 : Nat) : Option (Int32 × ac_H) :=
  mo_gi σ a0 3 1 fun x1 =>
  some (x1, σ)
set_option maxRecDepth 100000 in
set_option maxHeartbeats 4000000 in
theorem k_X3_heldBytes {Λ : ex_L} {q : Nat} {σ σ' : ac_H} {a0 : Nat} {v : Int32} (hf : m_X3_heldBytes σ a0 = some (v, σ')) : kx_C Λ yX3_heldBytes (.code yX3_heldBytes cX3_heldBytes 1 (some .int)) ({ frames := 0, cells := 0, slots := 0, locals := 0 } : Room) [.ref a0] q σ (.inr (some (.int v))) σ' (fun z => z = q) := by
  refine kx_in (by decide +kernel) (Nat.le_of_ble_eq_true rfl) ?_
  intro Γ K hnm hsz hQ
  refine kx_lv (lv' := [(0, .ref a0)]) rfl ?_
  unfold m_X3_heldBytes at hf
  refine kx_aload_n K dX3_heldBytes_0 rfl 0 rfl ?_
  refine kx_gi K f_X3_26 dX3_heldBytes_1 hf (fun x1 hf => ?_)
  exact kx_iret K hQ (by decide) (by decide) (fun _ h => h) dX3_heldBytes_4 hf
def m_X3_hold_l3  (a0 : Nat) (a1 : Int32) : Nat → ac_H → Int32 → Option (Unit × ac_H)
  | 0, _, _ => none
  | n + 1, σ2, v1 =>
    if v1 < 0 then
    (some ((), σ2))
    else
    (mo_gi σ2 a0 3 1 fun x3 =>
    if x3 < 0 then
    (m_X3_hold_l3 a0 a1 n σ2 (v1 + (-8)))
    else
    (mo_gi σ2 a0 3 1 fun x4 =>
    if x4 < (500 : Int32) then
    (mo_gr σ2 a0 3 0 fun x5 =>
    mo_gi σ2 a0 3 1 fun x6 =>
    mo_ui σ2 x5 0 x6 (((a1).toUInt32 >>> ((v1).toUInt32 &&& Int32.toUInt32 31)).toInt32 &&& (255 : Int32)) fun σ7 =>
    mo_gi σ7 a0 3 1 fun x8 =>
    mo_pv σ7 a0 3 1 (.int (x8 + (1 : Int32))) fun σ9 =>
    m_X3_hold_l3 a0 a1 n σ9 (v1 + (-8)))
    else
    (m_X3_hold_l3 a0 a1 n σ2 (v1 + (-8)))))
def m_X3_hold (σ : ac_H) (a0 : Nat) (a1 : Int32) : Option (Unit × ac_H) :=
  m_X3_hold_l3 a0 a1 hN_f σ (24 : Int32)
set_option maxRecDepth 100000 in
set_option maxHeartbeats 4000000 in
theorem k_X3_hold {Λ : ex_L} {q : Nat} {σ σ' : ac_H} {a0 : Nat} {a1 : Int32} {v : Unit} (hf : m_X3_hold σ a0 a1 = some (v, σ')) : kx_C Λ yX3_hold (.code yX3_hold cX3_hold 3 none) ({ frames := 0, cells := 0, slots := 0, locals := 0 } : Room) [.ref a0, .int a1] q σ (.inr none) σ' (fun z => z = q) := by
  refine kx_in (by decide +kernel) (Nat.le_of_ble_eq_true rfl) ?_
  intro Γ K hnm hsz hQ
  refine kx_lv (lv' := [(0, .ref a0), (1, .int a1)]) rfl ?_
  have B3 : ∀ (n3 : Nat) (σ2 : ac_H) (v1 : Int32), m_X3_hold_l3 a0 a1 n3 σ2 v1 = some (v, σ') → kx_S Λ Γ 3 (fun z => z = q) σ2 (0) (0) 3 [(0, .ref a0), (1, .int a1), (2, .int v1)] [] := by
    intro n3
    induction n3 with
    | zero =>
      intro σ2 v1 hf
      rw [m_X3_hold_l3] at hf
      cases hf
    | succ n3 ih3 =>
      intro σ2 v1 hf
      rw [m_X3_hold_l3] at hf
      refine kx_iload_n K dX3_hold_3 rfl 2 rfl ?_
      refine kx_if_lt K 56 hf dX3_hold_4 (by decide) (fun hf => ?_) (fun hf => ?_)
      · exact kx_vret K hQ (by decide) (by decide) (fun _ h => h) dX3_hold_56 hf
      · refine kx_aload_n K dX3_hold_7 rfl 0 rfl ?_
        refine kx_gi K f_X3_26 dX3_hold_8 hf (fun x3 hf => ?_)
        refine kx_if_lt K 50 hf dX3_hold_11 (by decide) (fun hf => ?_) (fun hf => ?_)
        · refine kx_iinc (v := (v1 + (-8))) K [(2, .int (v1 + (-8))), (0, .ref a0), (1, .int a1)] dX3_hold_50 2 rfl rfl (by decide) rfl ?_
          refine kx_goto K 3 dX3_hold_53 (by decide) ?_
          refine kx_sub [(0, .ref a0), (1, .int a1), (2, .int (v1 + (-8)))] [1, 2, 0] rfl ?_
          exact ih3 _ _ hf
        · refine kx_aload_n K dX3_hold_14 rfl 0 rfl ?_
          refine kx_gi K f_X3_26 dX3_hold_15 hf (fun x4 hf => ?_)
          refine kx_sipush (v := 500) K dX3_hold_18 (by decide) ?_
          refine kx_icmp_ge K 50 hf dX3_hold_21 (by decide) (fun hf => ?_) (fun hf => ?_)
          · refine kx_iinc (v := (v1 + (-8))) K [(2, .int (v1 + (-8))), (0, .ref a0), (1, .int a1)] dX3_hold_50 2 rfl rfl (by decide) rfl ?_
            refine kx_goto K 3 dX3_hold_53 (by decide) ?_
            refine kx_sub [(0, .ref a0), (1, .int a1), (2, .int (v1 + (-8)))] [1, 2, 0] rfl ?_
            exact ih3 _ _ hf
          · refine kx_aload_n K dX3_hold_24 rfl 0 rfl ?_
            refine kx_gr K f_X3_9 dX3_hold_25 hf (fun x5 hf => ?_)
            refine kx_aload_n K dX3_hold_28 rfl 0 rfl ?_
            refine kx_gi K f_X3_26 dX3_hold_29 hf (fun x6 hf => ?_)
            refine kx_iload_n K dX3_hold_32 rfl 1 rfl ?_
            refine kx_iload_n K dX3_hold_33 rfl 2 rfl ?_
            refine kx_iushr K dX3_hold_34 ?_
            refine kx_sipush (v := 255) K dX3_hold_35 (by decide) ?_
            refine kx_iand K dX3_hold_38 ?_
            refine kx_ui K dX3_hold_39 hf (fun σ7 hf => ?_)
            refine kx_aload_n K dX3_hold_40 rfl 0 rfl ?_
            refine kx_dup K dX3_hold_41 rfl ?_
            refine kx_gi K f_X3_26 dX3_hold_42 hf (fun x8 hf => ?_)
            refine kx_iconst (v := 1) K dX3_hold_45 (by decide) ?_
            refine kx_iadd K dX3_hold_46 ?_
            refine kx_pi K f_X3_26 dX3_hold_47 hf (fun σ9 hf => ?_)
            refine kx_iinc (v := (v1 + (-8))) K [(2, .int (v1 + (-8))), (0, .ref a0), (1, .int a1)] dX3_hold_50 2 rfl rfl (by decide) rfl ?_
            refine kx_goto K 3 dX3_hold_53 (by decide) ?_
            refine kx_sub [(0, .ref a0), (1, .int a1), (2, .int (v1 + (-8)))] [1, 2, 0] rfl ?_
            exact ih3 _ _ hf
  unfold m_X3_hold at hf
  refine kx_bipush (v := 24) K dX3_hold_0 (by decide) ?_
  refine kx_istore_n K [(2, .int (24 : Int32)), (0, .ref a0), (1, .int a1)] dX3_hold_2 rfl (by decide) rfl ?_
  refine kx_sub [(0, .ref a0), (1, .int a1), (2, .int (24 : Int32))] [1, 2, 0] rfl ?_
  exact B3 hN_f _ _ hf
def m_X3_described (σ : ac_H) (a0 : Nat) : Option (Nat × ac_H) :=
  mo_gr σ a0 3 9 fun x1 =>
  some (x1, σ)
set_option maxRecDepth 100000 in
set_option maxHeartbeats 4000000 in
theorem k_X3_described {Λ : ex_L} {q : Nat} {σ σ' : ac_H} {a0 : Nat} {v : Nat} (hf : m_X3_described σ a0 = some (v, σ')) : kx_C Λ yX3_described (.code yX3_described cX3_described 1 (some (.object "FaultBench$Bench"))) ({ frames := 0, cells := 0, slots := 0, locals := 0 } : Room) [.ref a0] q σ (.inr (some (.ref v))) σ' (fun z => z = q) := by
  refine kx_in (by decide +kernel) (Nat.le_of_ble_eq_true rfl) ?_
  intro Γ K hnm hsz hQ
  refine kx_lv (lv' := [(0, .ref a0)]) rfl ?_
  unfold m_X3_described at hf
  refine kx_aload_n K dX3_described_0 rfl 0 rfl ?_
  refine kx_gr K f_X3_22 dX3_described_1 hf (fun x1 hf => ?_)
  exact kx_aret K hQ (by decide) (by decide) (fun _ h => h) dX3_described_4 hf
def m_X3_byteAt (σ : ac_H) (a0 : Nat) (a1 : Int32) : Option (Int32 × ac_H) :=
  if a1 < 0 then
  (some ((-1 : Int32), σ))
  else
  (mo_gi σ a0 3 2 fun x1 =>
  if a1 < x1 then
  (if a1 < (500 : Int32) then
  (mo_gr σ a0 3 0 fun x2 =>
  mo_ai σ x2 0 a1 fun x3 =>
  some (x3, σ))
  else
  (some ((-1 : Int32), σ)))
  else
  (some ((-1 : Int32), σ)))
set_option maxRecDepth 100000 in
set_option maxHeartbeats 4000000 in
theorem k_X3_byteAt {Λ : ex_L} {q : Nat} {σ σ' : ac_H} {a0 : Nat} {a1 : Int32} {v : Int32} (hf : m_X3_byteAt σ a0 a1 = some (v, σ')) : kx_C Λ yX3_byteAt (.code yX3_byteAt cX3_byteAt 2 (some .int)) ({ frames := 0, cells := 0, slots := 0, locals := 0 } : Room) [.ref a0, .int a1] q σ (.inr (some (.int v))) σ' (fun z => z = q) := by
  refine kx_in (by decide +kernel) (Nat.le_of_ble_eq_true rfl) ?_
  intro Γ K hnm hsz hQ
  refine kx_lv (lv' := [(0, .ref a0), (1, .int a1)]) rfl ?_
  unfold m_X3_byteAt at hf
  refine kx_iload_n K dX3_byteAt_0 rfl 1 rfl ?_
  refine kx_if_lt K 28 hf dX3_byteAt_1 (by decide) (fun hf => ?_) (fun hf => ?_)
  · refine kx_iconst (v := -1) K dX3_byteAt_28 (by decide) ?_
    exact kx_iret K hQ (by decide) (by decide) (fun _ h => h) dX3_byteAt_29 hf
  · refine kx_iload_n K dX3_byteAt_4 rfl 1 rfl ?_
    refine kx_aload_n K dX3_byteAt_5 rfl 0 rfl ?_
    refine kx_gi K f_X3_29 dX3_byteAt_6 hf (fun x1 hf => ?_)
    refine kx_icmp_ge K 28 hf dX3_byteAt_9 (by decide) (fun hf => ?_) (fun hf => ?_)
    · refine kx_iconst (v := -1) K dX3_byteAt_28 (by decide) ?_
      exact kx_iret K hQ (by decide) (by decide) (fun _ h => h) dX3_byteAt_29 hf
    · refine kx_iload_n K dX3_byteAt_12 rfl 1 rfl ?_
      refine kx_sipush (v := 500) K dX3_byteAt_13 (by decide) ?_
      refine kx_icmp_ge K 28 hf dX3_byteAt_16 (by decide) (fun hf => ?_) (fun hf => ?_)
      · refine kx_iconst (v := -1) K dX3_byteAt_28 (by decide) ?_
        exact kx_iret K hQ (by decide) (by decide) (fun _ h => h) dX3_byteAt_29 hf
      · refine kx_aload_n K dX3_byteAt_19 rfl 0 rfl ?_
        refine kx_gr K f_X3_9 dX3_byteAt_20 hf (fun x2 hf => ?_)
        refine kx_iload_n K dX3_byteAt_23 rfl 1 rfl ?_
        refine kx_ai K dX3_byteAt_24 hf (fun x3 hf => ?_)
        refine kx_goto K 29 dX3_byteAt_25 (by decide) ?_
        exact kx_iret K hQ (by decide) (by decide) (fun _ h => h) dX3_byteAt_29 hf
def m_X3_isGap (σ : ac_H) (a0 : Int32) : Option (Int32 × ac_H) :=
  if a0 = (32 : Int32) then
  (mo_z (1 : Int32) (some ((1 : Int32), σ)))
  else
  (if a0 = (10 : Int32) then
  (mo_z (1 : Int32) (some ((1 : Int32), σ)))
  else
  (mo_z (0 : Int32) (some ((0 : Int32), σ))))
set_option maxRecDepth 100000 in
set_option maxHeartbeats 4000000 in
theorem k_X3_isGap {Λ : ex_L} {q : Nat} {σ σ' : ac_H} {a0 : Int32} {v : Int32} (hf : m_X3_isGap σ a0 = some (v, σ')) : kx_C Λ yX3_isGap (.code yX3_isGap cX3_isGap 1 (some .boolean)) ({ frames := 0, cells := 0, slots := 0, locals := 0 } : Room) [.int a0] q σ (.inr (some (.int v))) σ' (fun z => z = q) := by
  refine kx_in (by decide +kernel) (Nat.le_of_ble_eq_true rfl) ?_
  intro Γ K hnm hsz hQ
  refine kx_lv (lv' := [(0, .int a0)]) rfl ?_
  unfold m_X3_isGap at hf
  refine kx_iload_n K dX3_isGap_0 rfl 0 rfl ?_
  refine kx_bipush (v := 32) K dX3_isGap_1 (by decide) ?_
  refine kx_icmp_eq K 12 hf dX3_isGap_3 (by decide) (fun hf => ?_) (fun hf => ?_)
  · refine kx_iconst (v := 1) K dX3_isGap_12 (by decide) ?_
    refine kx_goto K 17 dX3_isGap_13 (by decide) ?_
    exact kx_zret K hQ (by decide) (by decide) (fun _ h => h) dX3_isGap_17 hf
  · refine kx_iload_n K dX3_isGap_6 rfl 0 rfl ?_
    refine kx_bipush (v := 10) K dX3_isGap_7 (by decide) ?_
    refine kx_icmp_ne K 16 hf dX3_isGap_9 (by decide) (fun hf => ?_) (fun hf => ?_)
    · refine kx_iconst (v := 0) K dX3_isGap_16 (by decide) ?_
      exact kx_zret K hQ (by decide) (by decide) (fun _ h => h) dX3_isGap_17 hf
    · refine kx_iconst (v := 1) K dX3_isGap_12 (by decide) ?_
      refine kx_goto K 17 dX3_isGap_13 (by decide) ?_
      exact kx_zret K hQ (by decide) (by decide) (fun _ h => h) dX3_isGap_17 hf
def m_X3_isLetter (σ : ac_H) (a0 : Int32) : Option (Int32 × ac_H) :=
  if a0 < (97 : Int32) then
  (mo_z (0 : Int32) (some ((0 : Int32), σ)))
  else
  (if (122 : Int32) < a0 then
  (mo_z (0 : Int32) (some ((0 : Int32), σ)))
  else
  (mo_z (1 : Int32) (some ((1 : Int32), σ))))
set_option maxRecDepth 100000 in
set_option maxHeartbeats 4000000 in
theorem k_X3_isLetter {Λ : ex_L} {q : Nat} {σ σ' : ac_H} {a0 : Int32} {v : Int32} (hf : m_X3_isLetter σ a0 = some (v, σ')) : kx_C Λ yX3_isLetter (.code yX3_isLetter cX3_isLetter 1 (some .boolean)) ({ frames := 0, cells := 0, slots := 0, locals := 0 } : Room) [.int a0] q σ (.inr (some (.int v))) σ' (fun z => z = q) := by
  refine kx_in (by decide +kernel) (Nat.le_of_ble_eq_true rfl) ?_
  intro Γ K hnm hsz hQ
  refine kx_lv (lv' := [(0, .int a0)]) rfl ?_
  unfold m_X3_isLetter at hf
  refine kx_iload_n K dX3_isLetter_0 rfl 0 rfl ?_
  refine kx_bipush (v := 97) K dX3_isLetter_1 (by decide) ?_
  refine kx_icmp_lt K 16 hf dX3_isLetter_3 (by decide) (fun hf => ?_) (fun hf => ?_)
  · refine kx_iconst (v := 0) K dX3_isLetter_16 (by decide) ?_
    exact kx_zret K hQ (by decide) (by decide) (fun _ h => h) dX3_isLetter_17 hf
  · refine kx_iload_n K dX3_isLetter_6 rfl 0 rfl ?_
    refine kx_bipush (v := 122) K dX3_isLetter_7 (by decide) ?_
    refine kx_icmp_gt K 16 hf dX3_isLetter_9 (by decide) (fun hf => ?_) (fun hf => ?_)
    · refine kx_iconst (v := 0) K dX3_isLetter_16 (by decide) ?_
      exact kx_zret K hQ (by decide) (by decide) (fun _ h => h) dX3_isLetter_17 hf
    · refine kx_iconst (v := 1) K dX3_isLetter_12 (by decide) ?_
      refine kx_goto K 17 dX3_isLetter_13 (by decide) ?_
      exact kx_zret K hQ (by decide) (by decide) (fun _ h => h) dX3_isLetter_17 hf
def m_X3_isDigit (σ : ac_H) (a0 : Int32) : Option (Int32 × ac_H) :=
  if a0 < (48 : Int32) then
  (mo_z (0 : Int32) (some ((0 : Int32), σ)))
  else
  (if (57 : Int32) < a0 then
  (mo_z (0 : Int32) (some ((0 : Int32), σ)))
  else
  (mo_z (1 : Int32) (some ((1 : Int32), σ))))
set_option maxRecDepth 100000 in
set_option maxHeartbeats 4000000 in
theorem k_X3_isDigit {Λ : ex_L} {q : Nat} {σ σ' : ac_H} {a0 : Int32} {v : Int32} (hf : m_X3_isDigit σ a0 = some (v, σ')) : kx_C Λ yX3_isDigit (.code yX3_isDigit cX3_isDigit 1 (some .boolean)) ({ frames := 0, cells := 0, slots := 0, locals := 0 } : Room) [.int a0] q σ (.inr (some (.int v))) σ' (fun z => z = q) := by
  refine kx_in (by decide +kernel) (Nat.le_of_ble_eq_true rfl) ?_
  intro Γ K hnm hsz hQ
  refine kx_lv (lv' := [(0, .int a0)]) rfl ?_
  unfold m_X3_isDigit at hf
  refine kx_iload_n K dX3_isDigit_0 rfl 0 rfl ?_
  refine kx_bipush (v := 48) K dX3_isDigit_1 (by decide) ?_
  refine kx_icmp_lt K 16 hf dX3_isDigit_3 (by decide) (fun hf => ?_) (fun hf => ?_)
  · refine kx_iconst (v := 0) K dX3_isDigit_16 (by decide) ?_
    exact kx_zret K hQ (by decide) (by decide) (fun _ h => h) dX3_isDigit_17 hf
  · refine kx_iload_n K dX3_isDigit_6 rfl 0 rfl ?_
    refine kx_bipush (v := 57) K dX3_isDigit_7 (by decide) ?_
    refine kx_icmp_gt K 16 hf dX3_isDigit_9 (by decide) (fun hf => ?_) (fun hf => ?_)
    · refine kx_iconst (v := 0) K dX3_isDigit_16 (by decide) ?_
      exact kx_zret K hQ (by decide) (by decide) (fun _ h => h) dX3_isDigit_17 hf
    · refine kx_iconst (v := 1) K dX3_isDigit_12 (by decide) ?_
      refine kx_goto K 17 dX3_isDigit_13 (by decide) ?_
      exact kx_zret K hQ (by decide) (by decide) (fun _ h => h) dX3_isDigit_17 hf
def m_X3_advance_j198  (a0 : Nat) (σ53 : ac_H) : Option (Unit × ac_H) :=
  mo_gi σ53 a0 3 4 fun x54 =>
  mo_gi σ53 a0 3 3 fun x55 =>
  if (3 : Int32) < (x54 - x55) then
  (mo_pv σ53 a0 3 5 (.int (4 : Int32)) fun σ56 =>
  some ((), σ56))
  else
  (mo_pv σ53 a0 3 5 (.int (2 : Int32)) fun σ57 =>
  some ((), σ57))
def m_X3_advance_l160  (a0 : Nat) : Nat → ac_H → Option (Unit × ac_H)
  | 0, _ => none
  | n + 1, σ43 =>
    mo_gi σ43 a0 3 4 fun x44 =>
    mo_gi σ43 a0 3 2 fun x45 =>
    if x44 < x45 then
    (mo_gi σ43 a0 3 4 fun x46 =>
    mo_cv σ43 a0 3 (m_X3_byteAt σ43 a0 x46) fun x48 σ47 =>
    mo_cs (m_X3_isDigit σ47 x48) fun x50 σ49 =>
    if x50 = 0 then
    (m_X3_advance_j198 a0 σ49)
    else
    (mo_gi σ49 a0 3 4 fun x51 =>
    mo_pv σ49 a0 3 4 (.int (x51 + (1 : Int32))) fun σ52 =>
    m_X3_advance_l160 a0 n σ52))
    else
    (m_X3_advance_j198 a0 σ43)
def m_X3_advance_j127  (a0 : Nat) (σ38 : ac_H) : Option (Unit × ac_H) :=
  mo_gi σ38 a0 3 4 fun x39 =>
  mo_gi σ38 a0 3 3 fun x40 =>
  if (9 : Int32) < (x39 - x40) then
  (mo_pv σ38 a0 3 5 (.int (4 : Int32)) fun σ41 =>
  some ((), σ41))
  else
  (mo_pv σ38 a0 3 5 (.int (1 : Int32)) fun σ42 =>
  some ((), σ42))
def m_X3_advance_l89  (a0 : Nat) : Nat → ac_H → Option (Unit × ac_H)
  | 0, _ => none
  | n + 1, σ28 =>
    mo_gi σ28 a0 3 4 fun x29 =>
    mo_gi σ28 a0 3 2 fun x30 =>
    if x29 < x30 then
    (mo_gi σ28 a0 3 4 fun x31 =>
    mo_cv σ28 a0 3 (m_X3_byteAt σ28 a0 x31) fun x33 σ32 =>
    mo_cs (m_X3_isLetter σ32 x33) fun x35 σ34 =>
    if x35 = 0 then
    (m_X3_advance_j127 a0 σ34)
    else
    (mo_gi σ34 a0 3 4 fun x36 =>
    mo_pv σ34 a0 3 4 (.int (x36 + (1 : Int32))) fun σ37 =>
    m_X3_advance_l89 a0 n σ37))
    else
    (m_X3_advance_j127 a0 σ28)
def m_X3_advance_j38  (a0 : Nat) (σ11 : ac_H) : Option (Unit × ac_H) :=
  mo_gi σ11 a0 3 4 fun x12 =>
  mo_pv σ11 a0 3 3 (.int x12) fun σ13 =>
  mo_gi σ13 a0 3 4 fun x14 =>
  mo_gi σ13 a0 3 2 fun x15 =>
  if x14 < x15 then
  (mo_gi σ13 a0 3 4 fun x16 =>
  mo_cv σ13 a0 3 (m_X3_byteAt σ13 a0 x16) fun x18 σ17 =>
  mo_gi σ17 a0 3 4 fun x19 =>
  mo_pv σ17 a0 3 4 (.int (x19 + (1 : Int32))) fun σ20 =>
  mo_cs (m_X3_isLetter σ20 x18) fun x22 σ21 =>
  if x22 = 0 then
  (mo_cs (m_X3_isDigit σ21 x18) fun x24 σ23 =>
  if x24 = 0 then
  (if x18 = (59 : Int32) then
  (mo_pv σ23 a0 3 5 (.int (3 : Int32)) fun σ26 =>
  some ((), σ26))
  else
  (mo_pv σ23 a0 3 5 (.int (4 : Int32)) fun σ25 =>
  some ((), σ25)))
  else
  (m_X3_advance_l160 a0 hN_f σ23))
  else
  (m_X3_advance_l89 a0 hN_f σ21))
  else
  (mo_pv σ13 a0 3 5 (.int (0 : Int32)) fun σ27 =>
  some ((), σ27))
def m_X3_advance_l0  (a0 : Nat) : Nat → ac_H → Option (Unit × ac_H)
  | 0, _ => none
  | n + 1, σ1 =>
    mo_gi σ1 a0 3 4 fun x2 =>
    mo_gi σ1 a0 3 2 fun x3 =>
    if x2 < x3 then
    (mo_gi σ1 a0 3 4 fun x4 =>
    mo_cv σ1 a0 3 (m_X3_byteAt σ1 a0 x4) fun x6 σ5 =>
    mo_cs (m_X3_isGap σ5 x6) fun x8 σ7 =>
    if x8 = 0 then
    (m_X3_advance_j38 a0 σ7)
    else
    (mo_gi σ7 a0 3 4 fun x9 =>
    mo_pv σ7 a0 3 4 (.int (x9 + (1 : Int32))) fun σ10 =>
    m_X3_advance_l0 a0 n σ10))
    else
    (m_X3_advance_j38 a0 σ1)
def m_X3_advance (σ : ac_H) (a0 : Nat) : Option (Unit × ac_H) :=
  m_X3_advance_l0 a0 hN_f σ
set_option maxRecDepth 100000 in
set_option maxHeartbeats 4000000 in
theorem k_X3_advance {Λ : ex_L} {q : Nat} {σ σ' : ac_H} {a0 : Nat} {v : Unit} (hf : m_X3_advance σ a0 = some (v, σ')) : kx_C Λ yX3_advance (.code yX3_advance cX3_advance 2 none) ({ frames := 1, cells := 0, slots := 0, locals := 21 } : Room) [.ref a0] q σ (.inr none) σ' (fun z => z = q) := by
  refine kx_in (by decide +kernel) (Nat.le_of_ble_eq_true rfl) ?_
  intro Γ K hnm hsz hQ
  refine kx_lv (lv' := [(0, .ref a0)]) rfl ?_
  have B198 : ∀ (σ53 : ac_H), m_X3_advance_j198 a0 σ53 = some (v, σ') → kx_S Λ Γ 2 (fun z => z = q) σ53 (0) (0) 198 [(0, .ref a0)] [] := by
    intro σ53 hf
    unfold m_X3_advance_j198 at hf
    refine kx_aload_n K dX3_advance_198 rfl 0 rfl ?_
    refine kx_aload_n K dX3_advance_199 rfl 0 rfl ?_
    refine kx_gi K f_X3_32 dX3_advance_200 hf (fun x54 hf => ?_)
    refine kx_aload_n K dX3_advance_203 rfl 0 rfl ?_
    refine kx_gi K f_X3_110 dX3_advance_204 hf (fun x55 hf => ?_)
    refine kx_isub K dX3_advance_207 ?_
    refine kx_iconst (v := 3) K dX3_advance_208 (by decide) ?_
    refine kx_icmp_gt K 216 hf dX3_advance_209 (by decide) (fun hf => ?_) (fun hf => ?_)
    · refine kx_iconst (v := 4) K dX3_advance_216 (by decide) ?_
      refine kx_pi K f_X3_51 dX3_advance_217 hf (fun σ56 hf => ?_)
      refine kx_goto K 238 dX3_advance_220 (by decide) ?_
      exact kx_vret K hQ (by decide) (by decide) (fun _ h => h) dX3_advance_238 hf
    · refine kx_iconst (v := 2) K dX3_advance_212 (by decide) ?_
      refine kx_goto K 217 dX3_advance_213 (by decide) ?_
      refine kx_pi K f_X3_51 dX3_advance_217 hf (fun σ57 hf => ?_)
      refine kx_goto K 238 dX3_advance_220 (by decide) ?_
      exact kx_vret K hQ (by decide) (by decide) (fun _ h => h) dX3_advance_238 hf
  have B160 : ∀ (n160 : Nat) (σ43 : ac_H), m_X3_advance_l160 a0 n160 σ43 = some (v, σ') → kx_S Λ Γ 2 (fun z => z = q) σ43 (0) (0) 160 [(0, .ref a0)] [] := by
    intro n160
    induction n160 with
    | zero =>
      intro σ43 hf
      rw [m_X3_advance_l160] at hf
      cases hf
    | succ n160 ih160 =>
      intro σ43 hf
      rw [m_X3_advance_l160] at hf
      refine kx_aload_n K dX3_advance_160 rfl 0 rfl ?_
      refine kx_gi K f_X3_32 dX3_advance_161 hf (fun x44 hf => ?_)
      refine kx_aload_n K dX3_advance_164 rfl 0 rfl ?_
      refine kx_gi K f_X3_29 dX3_advance_165 hf (fun x45 hf => ?_)
      refine kx_icmp_ge K 198 hf dX3_advance_168 (by decide) (fun hf => ?_) (fun hf => ?_)
      · refine kx_sub [(0, .ref a0)] [0] rfl ?_
        exact B198 _ hf
      · refine kx_aload_n K dX3_advance_171 rfl 0 rfl ?_
        refine kx_aload_n K dX3_advance_172 rfl 0 rfl ?_
        refine kx_gi K f_X3_32 dX3_advance_173 hf (fun x46 hf => ?_)
        refine kx_cv1i K c_X3_113 ⟨by decide, by decide, rfl, rfl, (by decide), (by decide)⟩ (Nat.le_of_ble_eq_true rfl) dX3_advance_176 hf (fun _ _ _ h => k_X3_byteAt h) (fun x48 σ47 hf => ?_)
        refine kx_cs1i K c_X3_152 ⟨by decide, by decide, rfl, rfl, (by decide), (by decide)⟩ (Nat.le_of_ble_eq_true rfl) dX3_advance_179 hf (fun _ _ _ h => k_X3_isDigit h) (fun x50 σ49 hf => ?_)
        refine kx_if_eq K 198 hf dX3_advance_182 (by decide) (fun hf => ?_) (fun hf => ?_)
        · refine kx_sub [(0, .ref a0)] [0] rfl ?_
          exact B198 _ hf
        · refine kx_aload_n K dX3_advance_185 rfl 0 rfl ?_
          refine kx_dup K dX3_advance_186 rfl ?_
          refine kx_gi K f_X3_32 dX3_advance_187 hf (fun x51 hf => ?_)
          refine kx_iconst (v := 1) K dX3_advance_190 (by decide) ?_
          refine kx_iadd K dX3_advance_191 ?_
          refine kx_pi K f_X3_32 dX3_advance_192 hf (fun σ52 hf => ?_)
          refine kx_goto K 160 dX3_advance_195 (by decide) ?_
          refine kx_sub [(0, .ref a0)] [0] rfl ?_
          exact ih160 _ hf
  have B127 : ∀ (σ38 : ac_H), m_X3_advance_j127 a0 σ38 = some (v, σ') → kx_S Λ Γ 2 (fun z => z = q) σ38 (0) (0) 127 [(0, .ref a0)] [] := by
    intro σ38 hf
    unfold m_X3_advance_j127 at hf
    refine kx_aload_n K dX3_advance_127 rfl 0 rfl ?_
    refine kx_aload_n K dX3_advance_128 rfl 0 rfl ?_
    refine kx_gi K f_X3_32 dX3_advance_129 hf (fun x39 hf => ?_)
    refine kx_aload_n K dX3_advance_132 rfl 0 rfl ?_
    refine kx_gi K f_X3_110 dX3_advance_133 hf (fun x40 hf => ?_)
    refine kx_isub K dX3_advance_136 ?_
    refine kx_bipush (v := 9) K dX3_advance_137 (by decide) ?_
    refine kx_icmp_gt K 146 hf dX3_advance_139 (by decide) (fun hf => ?_) (fun hf => ?_)
    · refine kx_iconst (v := 4) K dX3_advance_146 (by decide) ?_
      refine kx_pi K f_X3_51 dX3_advance_147 hf (fun σ41 hf => ?_)
      refine kx_goto K 238 dX3_advance_150 (by decide) ?_
      exact kx_vret K hQ (by decide) (by decide) (fun _ h => h) dX3_advance_238 hf
    · refine kx_iconst (v := 1) K dX3_advance_142 (by decide) ?_
      refine kx_goto K 147 dX3_advance_143 (by decide) ?_
      refine kx_pi K f_X3_51 dX3_advance_147 hf (fun σ42 hf => ?_)
      refine kx_goto K 238 dX3_advance_150 (by decide) ?_
      exact kx_vret K hQ (by decide) (by decide) (fun _ h => h) dX3_advance_238 hf
  have B89 : ∀ (n89 : Nat) (σ28 : ac_H), m_X3_advance_l89 a0 n89 σ28 = some (v, σ') → kx_S Λ Γ 2 (fun z => z = q) σ28 (0) (0) 89 [(0, .ref a0)] [] := by
    intro n89
    induction n89 with
    | zero =>
      intro σ28 hf
      rw [m_X3_advance_l89] at hf
      cases hf
    | succ n89 ih89 =>
      intro σ28 hf
      rw [m_X3_advance_l89] at hf
      refine kx_aload_n K dX3_advance_89 rfl 0 rfl ?_
      refine kx_gi K f_X3_32 dX3_advance_90 hf (fun x29 hf => ?_)
      refine kx_aload_n K dX3_advance_93 rfl 0 rfl ?_
      refine kx_gi K f_X3_29 dX3_advance_94 hf (fun x30 hf => ?_)
      refine kx_icmp_ge K 127 hf dX3_advance_97 (by decide) (fun hf => ?_) (fun hf => ?_)
      · refine kx_sub [(0, .ref a0)] [0] rfl ?_
        exact B127 _ hf
      · refine kx_aload_n K dX3_advance_100 rfl 0 rfl ?_
        refine kx_aload_n K dX3_advance_101 rfl 0 rfl ?_
        refine kx_gi K f_X3_32 dX3_advance_102 hf (fun x31 hf => ?_)
        refine kx_cv1i K c_X3_113 ⟨by decide, by decide, rfl, rfl, (by decide), (by decide)⟩ (Nat.le_of_ble_eq_true rfl) dX3_advance_105 hf (fun _ _ _ h => k_X3_byteAt h) (fun x33 σ32 hf => ?_)
        refine kx_cs1i K c_X3_149 ⟨by decide, by decide, rfl, rfl, (by decide), (by decide)⟩ (Nat.le_of_ble_eq_true rfl) dX3_advance_108 hf (fun _ _ _ h => k_X3_isLetter h) (fun x35 σ34 hf => ?_)
        refine kx_if_eq K 127 hf dX3_advance_111 (by decide) (fun hf => ?_) (fun hf => ?_)
        · refine kx_sub [(0, .ref a0)] [0] rfl ?_
          exact B127 _ hf
        · refine kx_aload_n K dX3_advance_114 rfl 0 rfl ?_
          refine kx_dup K dX3_advance_115 rfl ?_
          refine kx_gi K f_X3_32 dX3_advance_116 hf (fun x36 hf => ?_)
          refine kx_iconst (v := 1) K dX3_advance_119 (by decide) ?_
          refine kx_iadd K dX3_advance_120 ?_
          refine kx_pi K f_X3_32 dX3_advance_121 hf (fun σ37 hf => ?_)
          refine kx_goto K 89 dX3_advance_124 (by decide) ?_
          refine kx_sub [(0, .ref a0)] [0] rfl ?_
          exact ih89 _ hf
  have B38 : ∀ (σ11 : ac_H), m_X3_advance_j38 a0 σ11 = some (v, σ') → kx_S Λ Γ 2 (fun z => z = q) σ11 (0) (0) 38 [(0, .ref a0)] [] := by
    intro σ11 hf
    unfold m_X3_advance_j38 at hf
    refine kx_aload_n K dX3_advance_38 rfl 0 rfl ?_
    refine kx_aload_n K dX3_advance_39 rfl 0 rfl ?_
    refine kx_gi K f_X3_32 dX3_advance_40 hf (fun x12 hf => ?_)
    refine kx_pi K f_X3_110 dX3_advance_43 hf (fun σ13 hf => ?_)
    refine kx_aload_n K dX3_advance_46 rfl 0 rfl ?_
    refine kx_gi K f_X3_32 dX3_advance_47 hf (fun x14 hf => ?_)
    refine kx_aload_n K dX3_advance_50 rfl 0 rfl ?_
    refine kx_gi K f_X3_29 dX3_advance_51 hf (fun x15 hf => ?_)
    refine kx_icmp_lt K 63 hf dX3_advance_54 (by decide) (fun hf => ?_) (fun hf => ?_)
    · refine kx_aload_n K dX3_advance_63 rfl 0 rfl ?_
      refine kx_aload_n K dX3_advance_64 rfl 0 rfl ?_
      refine kx_gi K f_X3_32 dX3_advance_65 hf (fun x16 hf => ?_)
      refine kx_cv1i K c_X3_113 ⟨by decide, by decide, rfl, rfl, (by decide), (by decide)⟩ (Nat.le_of_ble_eq_true rfl) dX3_advance_68 hf (fun _ _ _ h => k_X3_byteAt h) (fun x18 σ17 hf => ?_)
      refine kx_istore_n K [(1, .int x18), (0, .ref a0)] dX3_advance_71 rfl (by decide) rfl ?_
      refine kx_aload_n K dX3_advance_72 rfl 1 rfl ?_
      refine kx_dup K dX3_advance_73 rfl ?_
      refine kx_gi K f_X3_32 dX3_advance_74 hf (fun x19 hf => ?_)
      refine kx_iconst (v := 1) K dX3_advance_77 (by decide) ?_
      refine kx_iadd K dX3_advance_78 ?_
      refine kx_pi K f_X3_32 dX3_advance_79 hf (fun σ20 hf => ?_)
      refine kx_iload_n K dX3_advance_82 rfl 0 rfl ?_
      refine kx_cs1i K c_X3_149 ⟨by decide, by decide, rfl, rfl, (by decide), (by decide)⟩ (Nat.le_of_ble_eq_true rfl) dX3_advance_83 hf (fun _ _ _ h => k_X3_isLetter h) (fun x22 σ21 hf => ?_)
      refine kx_if_eq K 153 hf dX3_advance_86 (by decide) (fun hf => ?_) (fun hf => ?_)
      · refine kx_iload_n K dX3_advance_153 rfl 0 rfl ?_
        refine kx_cs1i K c_X3_152 ⟨by decide, by decide, rfl, rfl, (by decide), (by decide)⟩ (Nat.le_of_ble_eq_true rfl) dX3_advance_154 hf (fun _ _ _ h => k_X3_isDigit h) (fun x24 σ23 hf => ?_)
        refine kx_if_eq K 223 hf dX3_advance_157 (by decide) (fun hf => ?_) (fun hf => ?_)
        · refine kx_aload_n K dX3_advance_223 rfl 1 rfl ?_
          refine kx_iload_n K dX3_advance_224 rfl 0 rfl ?_
          refine kx_bipush (v := 59) K dX3_advance_225 (by decide) ?_
          refine kx_icmp_ne K 234 hf dX3_advance_227 (by decide) (fun hf => ?_) (fun hf => ?_)
          · refine kx_iconst (v := 4) K dX3_advance_234 (by decide) ?_
            refine kx_pi K f_X3_51 dX3_advance_235 hf (fun σ25 hf => ?_)
            exact kx_vret K hQ (by decide) (by decide) (fun _ h => h) dX3_advance_238 hf
          · refine kx_iconst (v := 3) K dX3_advance_230 (by decide) ?_
            refine kx_goto K 235 dX3_advance_231 (by decide) ?_
            refine kx_pi K f_X3_51 dX3_advance_235 hf (fun σ26 hf => ?_)
            exact kx_vret K hQ (by decide) (by decide) (fun _ h => h) dX3_advance_238 hf
        · refine kx_sub [(0, .ref a0)] [1] rfl ?_
          exact B160 hN_f _ hf
      · refine kx_sub [(0, .ref a0)] [1] rfl ?_
        exact B89 hN_f _ hf
    · refine kx_aload_n K dX3_advance_57 rfl 0 rfl ?_
      refine kx_iconst (v := 0) K dX3_advance_58 (by decide) ?_
      refine kx_pi K f_X3_51 dX3_advance_59 hf (fun σ27 hf => ?_)
      exact kx_vret K hQ (by decide) (by decide) (fun _ h => h) dX3_advance_62 hf
  have B0 : ∀ (n0 : Nat) (σ1 : ac_H), m_X3_advance_l0 a0 n0 σ1 = some (v, σ') → kx_S Λ Γ 2 (fun z => z = q) σ1 (0) (0) 0 [(0, .ref a0)] [] := by
    intro n0
    induction n0 with
    | zero =>
      intro σ1 hf
      rw [m_X3_advance_l0] at hf
      cases hf
    | succ n0 ih0 =>
      intro σ1 hf
      rw [m_X3_advance_l0] at hf
      refine kx_aload_n K dX3_advance_0 rfl 0 rfl ?_
      refine kx_gi K f_X3_32 dX3_advance_1 hf (fun x2 hf => ?_)
      refine kx_aload_n K dX3_advance_4 rfl 0 rfl ?_
      refine kx_gi K f_X3_29 dX3_advance_5 hf (fun x3 hf => ?_)
      refine kx_icmp_ge K 38 hf dX3_advance_8 (by decide) (fun hf => ?_) (fun hf => ?_)
      · refine kx_sub [(0, .ref a0)] [0] rfl ?_
        exact B38 _ hf
      · refine kx_aload_n K dX3_advance_11 rfl 0 rfl ?_
        refine kx_aload_n K dX3_advance_12 rfl 0 rfl ?_
        refine kx_gi K f_X3_32 dX3_advance_13 hf (fun x4 hf => ?_)
        refine kx_cv1i K c_X3_113 ⟨by decide, by decide, rfl, rfl, (by decide), (by decide)⟩ (Nat.le_of_ble_eq_true rfl) dX3_advance_16 hf (fun _ _ _ h => k_X3_byteAt h) (fun x6 σ5 hf => ?_)
        refine kx_cs1i K c_X3_146 ⟨by decide, by decide, rfl, rfl, (by decide), (by decide)⟩ (Nat.le_of_ble_eq_true rfl) dX3_advance_19 hf (fun _ _ _ h => k_X3_isGap h) (fun x8 σ7 hf => ?_)
        refine kx_if_eq K 38 hf dX3_advance_22 (by decide) (fun hf => ?_) (fun hf => ?_)
        · refine kx_sub [(0, .ref a0)] [0] rfl ?_
          exact B38 _ hf
        · refine kx_aload_n K dX3_advance_25 rfl 0 rfl ?_
          refine kx_dup K dX3_advance_26 rfl ?_
          refine kx_gi K f_X3_32 dX3_advance_27 hf (fun x9 hf => ?_)
          refine kx_iconst (v := 1) K dX3_advance_30 (by decide) ?_
          refine kx_iadd K dX3_advance_31 ?_
          refine kx_pi K f_X3_32 dX3_advance_32 hf (fun σ10 hf => ?_)
          refine kx_goto K 0 dX3_advance_35 (by decide) ?_
          refine kx_sub [(0, .ref a0)] [0] rfl ?_
          exact ih0 _ hf
  unfold m_X3_advance at hf
  refine kx_sub [(0, .ref a0)] [0] rfl ?_
  exact B0 hN_f _ hf
def m_X3_isWord_l28  (a0 : Nat) (a1 : Nat) : Nat → ac_H → Int32 → Option (Int32 × ac_H)
  | 0, _, _ => none
  | n + 1, σ6, v5 =>
    mo_sl a1 fun x7 =>
    if v5 < x7 then
    (mo_gi σ6 a0 3 3 fun x8 =>
    mo_cv σ6 a0 3 (m_X3_byteAt σ6 a0 (x8 + v5)) fun x10 σ9 =>
    mo_sc a1 v5 fun x11 =>
    if x10 = x11 then
    (m_X3_isWord_l28 a0 a1 n σ9 (v5 + 1))
    else
    (mo_z (0 : Int32) (some ((0 : Int32), σ9))))
    else
    (mo_z (1 : Int32) (some ((1 : Int32), σ6)))
def m_X3_isWord (σ : ac_H) (a0 : Nat) (a1 : Nat) : Option (Int32 × ac_H) :=
  mo_gi σ a0 3 5 fun x1 =>
  if x1 = (1 : Int32) then
  (mo_gi σ a0 3 4 fun x2 =>
  mo_gi σ a0 3 3 fun x3 =>
  mo_sl a1 fun x4 =>
  if (x2 - x3) = x4 then
  (m_X3_isWord_l28 a0 a1 hN_f σ (0 : Int32))
  else
  (mo_z (0 : Int32) (some ((0 : Int32), σ))))
  else
  (mo_z (0 : Int32) (some ((0 : Int32), σ)))
set_option maxRecDepth 100000 in
set_option maxHeartbeats 4000000 in
theorem k_X3_isWord {Λ : ex_L} {q : Nat} {σ σ' : ac_H} {a0 : Nat} {a1 : Nat} {v : Int32} (hf : m_X3_isWord σ a0 a1 = some (v, σ')) : kx_C Λ yX3_isWord (.code yX3_isWord cX3_isWord 3 (some .boolean)) ({ frames := 4, cells := 0, slots := 0, locals := 85 } : Room) [.ref a0, .ref (ex_k Λ a1)] q σ (.inr (some (.int v))) σ' (fun z => z = q) := by
  refine kx_in (by decide +kernel) (Nat.le_of_ble_eq_true rfl) ?_
  intro Γ K hnm hsz hQ
  refine kx_lv (lv' := [(0, .ref a0), (1, .ref (ex_k Λ a1))]) rfl ?_
  have B28 : ∀ (n28 : Nat) (σ6 : ac_H) (v5 : Int32), m_X3_isWord_l28 a0 a1 n28 σ6 v5 = some (v, σ') → kx_S Λ Γ 3 (fun z => z = q) σ6 (0) (0) 28 [(0, .ref a0), (1, .ref (ex_k Λ a1)), (2, .int v5)] [] := by
    intro n28
    induction n28 with
    | zero =>
      intro σ6 v5 hf
      rw [m_X3_isWord_l28] at hf
      cases hf
    | succ n28 ih28 =>
      intro σ6 v5 hf
      rw [m_X3_isWord_l28] at hf
      refine kx_iload_n K dX3_isWord_28 rfl 2 rfl ?_
      refine kx_aload_n K dX3_isWord_29 rfl 1 rfl ?_
      refine kx_wl K w_461 ⟨by decide, by decide, (by decide), (by decide)⟩ (Nat.le_of_ble_eq_true rfl) dX3_isWord_30 hf (fun x7 hf => ?_)
      refine kx_icmp_ge K 62 hf dX3_isWord_33 (by decide) (fun hf => ?_) (fun hf => ?_)
      · refine kx_iconst (v := 1) K dX3_isWord_62 (by decide) ?_
        exact kx_zret K hQ (by decide) (by decide) (fun _ h => h) dX3_isWord_63 hf
      · refine kx_aload_n K dX3_isWord_36 rfl 0 rfl ?_
        refine kx_aload_n K dX3_isWord_37 rfl 0 rfl ?_
        refine kx_gi K f_X3_110 dX3_isWord_38 hf (fun x8 hf => ?_)
        refine kx_iload_n K dX3_isWord_41 rfl 2 rfl ?_
        refine kx_iadd K dX3_isWord_42 ?_
        refine kx_cv1i K c_X3_113 ⟨by decide, by decide, rfl, rfl, (by decide), (by decide)⟩ (Nat.le_of_ble_eq_true rfl) dX3_isWord_43 hf (fun _ _ _ h => k_X3_byteAt h) (fun x10 σ9 hf => ?_)
        refine kx_aload_n K dX3_isWord_46 rfl 1 rfl ?_
        refine kx_iload_n K dX3_isWord_47 rfl 2 rfl ?_
        refine kx_wc K w_462 ⟨by decide, by decide, (by decide), (by decide)⟩ (Nat.le_of_ble_eq_true rfl) dX3_isWord_48 hf (fun x11 hf => ?_)
        refine kx_icmp_eq K 56 hf dX3_isWord_51 (by decide) (fun hf => ?_) (fun hf => ?_)
        · refine kx_iinc (v := (v5 + 1)) K [(2, .int (v5 + 1)), (0, .ref a0), (1, .ref (ex_k Λ a1))] dX3_isWord_56 2 rfl rfl (by decide) rfl ?_
          refine kx_goto K 28 dX3_isWord_59 (by decide) ?_
          refine kx_sub [(0, .ref a0), (1, .ref (ex_k Λ a1)), (2, .int (v5 + 1))] [1, 2, 0] rfl ?_
          exact ih28 _ _ hf
        · refine kx_iconst (v := 0) K dX3_isWord_54 (by decide) ?_
          exact kx_zret K hQ (by decide) (by decide) (fun _ h => h) dX3_isWord_55 hf
  unfold m_X3_isWord at hf
  refine kx_aload_n K dX3_isWord_0 rfl 0 rfl ?_
  refine kx_gi K f_X3_51 dX3_isWord_1 hf (fun x1 hf => ?_)
  refine kx_iconst (v := 1) K dX3_isWord_4 (by decide) ?_
  refine kx_icmp_ne K 24 hf dX3_isWord_5 (by decide) (fun hf => ?_) (fun hf => ?_)
  · refine kx_iconst (v := 0) K dX3_isWord_24 (by decide) ?_
    exact kx_zret K hQ (by decide) (by decide) (fun _ h => h) dX3_isWord_25 hf
  · refine kx_aload_n K dX3_isWord_8 rfl 0 rfl ?_
    refine kx_gi K f_X3_32 dX3_isWord_9 hf (fun x2 hf => ?_)
    refine kx_aload_n K dX3_isWord_12 rfl 0 rfl ?_
    refine kx_gi K f_X3_110 dX3_isWord_13 hf (fun x3 hf => ?_)
    refine kx_isub K dX3_isWord_16 ?_
    refine kx_aload_n K dX3_isWord_17 rfl 1 rfl ?_
    refine kx_wl K w_461 ⟨by decide, by decide, (by decide), (by decide)⟩ (Nat.le_of_ble_eq_true rfl) dX3_isWord_18 hf (fun x4 hf => ?_)
    refine kx_icmp_eq K 26 hf dX3_isWord_21 (by decide) (fun hf => ?_) (fun hf => ?_)
    · refine kx_iconst (v := 0) K dX3_isWord_26 (by decide) ?_
      refine kx_istore_n K [(2, .int (0 : Int32)), (0, .ref a0), (1, .ref (ex_k Λ a1))] dX3_isWord_27 rfl (by decide) rfl ?_
      refine kx_sub [(0, .ref a0), (1, .ref (ex_k Λ a1)), (2, .int (0 : Int32))] [1, 2, 0] rfl ?_
      exact B28 hN_f _ _ hf
    · refine kx_iconst (v := 0) K dX3_isWord_24 (by decide) ?_
      exact kx_zret K hQ (by decide) (by decide) (fun _ h => h) dX3_isWord_25 hf
def m_X3_fail (σ : ac_H) (a0 : Nat) (a1 : Int32) : Option (Int32 × ac_H) :=
  mo_pv σ a0 3 7 (.int a1) fun σ1 =>
  mo_gi σ1 a0 3 3 fun x2 =>
  mo_pv σ1 a0 3 8 (.int x2) fun σ3 =>
  mo_z (0 : Int32) (some ((0 : Int32), σ3))
set_option maxRecDepth 100000 in
set_option maxHeartbeats 4000000 in
theorem k_X3_fail {Λ : ex_L} {q : Nat} {σ σ' : ac_H} {a0 : Nat} {a1 : Int32} {v : Int32} (hf : m_X3_fail σ a0 a1 = some (v, σ')) : kx_C Λ yX3_fail (.code yX3_fail cX3_fail 2 (some .boolean)) ({ frames := 0, cells := 0, slots := 0, locals := 0 } : Room) [.ref a0, .int a1] q σ (.inr (some (.int v))) σ' (fun z => z = q) := by
  refine kx_in (by decide +kernel) (Nat.le_of_ble_eq_true rfl) ?_
  intro Γ K hnm hsz hQ
  refine kx_lv (lv' := [(0, .ref a0), (1, .int a1)]) rfl ?_
  unfold m_X3_fail at hf
  refine kx_aload_n K dX3_fail_0 rfl 0 rfl ?_
  refine kx_iload_n K dX3_fail_1 rfl 1 rfl ?_
  refine kx_pi K f_X3_38 dX3_fail_2 hf (fun σ1 hf => ?_)
  refine kx_aload_n K dX3_fail_5 rfl 0 rfl ?_
  refine kx_aload_n K dX3_fail_6 rfl 0 rfl ?_
  refine kx_gi K f_X3_110 dX3_fail_7 hf (fun x2 hf => ?_)
  refine kx_pi K f_X3_15 dX3_fail_10 hf (fun σ3 hf => ?_)
  refine kx_iconst (v := 0) K dX3_fail_13 (by decide) ?_
  exact kx_zret K hQ (by decide) (by decide) (fun _ h => h) dX3_fail_14 hf
def m_X3_protocolOfWord (σ : ac_H) (a0 : Nat) : Option (Int32 × ac_H) :=
  mo_cv σ a0 3 (m_X3_isWord σ a0 1) fun x2 σ1 =>
  if x2 = 0 then
  (mo_cv σ1 a0 3 (m_X3_isWord σ1 a0 2) fun x4 σ3 =>
  if x4 = 0 then
  (mo_cv σ3 a0 3 (m_X3_isWord σ3 a0 3) fun x6 σ5 =>
  if x6 = 0 then
  (some ((-1 : Int32), σ5))
  else
  (some ((2 : Int32), σ5)))
  else
  (some ((1 : Int32), σ3)))
  else
  (some ((0 : Int32), σ1))
set_option maxRecDepth 100000 in
set_option maxHeartbeats 4000000 in
theorem k_X3_protocolOfWord {Λ : ex_L} {q : Nat} {σ σ' : ac_H} {a0 : Nat} {v : Int32} (hf : m_X3_protocolOfWord σ a0 = some (v, σ')) : kx_C Λ yX3_protocolOfWord (.code yX3_protocolOfWord cX3_protocolOfWord 1 (some .int)) ({ frames := 5, cells := 0, slots := 0, locals := 107 } : Room) [.ref a0] q σ (.inr (some (.int v))) σ' (fun z => z = q) := by
  refine kx_in (by decide +kernel) (Nat.le_of_ble_eq_true rfl) ?_
  intro Γ K hnm hsz hQ
  refine kx_lv (lv' := [(0, .ref a0)]) rfl ?_
  unfold m_X3_protocolOfWord at hf
  refine kx_aload_n K dX3_protocolOfWord_0 rfl 0 rfl ?_
  refine kx_ldcS K 1 (by decide) rfl rfl dX3_protocolOfWord_1 ?_
  refine kx_cv1i K c_X3_59 ⟨by decide, by decide, rfl, rfl, (by decide), (by decide)⟩ (Nat.le_of_ble_eq_true rfl) dX3_protocolOfWord_3 hf (fun _ _ _ h => k_X3_isWord h) (fun x2 σ1 hf => ?_)
  refine kx_if_eq K 11 hf dX3_protocolOfWord_6 (by decide) (fun hf => ?_) (fun hf => ?_)
  · refine kx_aload_n K dX3_protocolOfWord_11 rfl 0 rfl ?_
    refine kx_ldcS K 2 (by decide) rfl rfl dX3_protocolOfWord_12 ?_
    refine kx_cv1i K c_X3_59 ⟨by decide, by decide, rfl, rfl, (by decide), (by decide)⟩ (Nat.le_of_ble_eq_true rfl) dX3_protocolOfWord_14 hf (fun _ _ _ h => k_X3_isWord h) (fun x4 σ3 hf => ?_)
    refine kx_if_eq K 22 hf dX3_protocolOfWord_17 (by decide) (fun hf => ?_) (fun hf => ?_)
    · refine kx_aload_n K dX3_protocolOfWord_22 rfl 0 rfl ?_
      refine kx_ldcS K 3 (by decide) rfl rfl dX3_protocolOfWord_23 ?_
      refine kx_cv1i K c_X3_59 ⟨by decide, by decide, rfl, rfl, (by decide), (by decide)⟩ (Nat.le_of_ble_eq_true rfl) dX3_protocolOfWord_25 hf (fun _ _ _ h => k_X3_isWord h) (fun x6 σ5 hf => ?_)
      refine kx_if_eq K 35 hf dX3_protocolOfWord_28 (by decide) (fun hf => ?_) (fun hf => ?_)
      · refine kx_iconst (v := -1) K dX3_protocolOfWord_35 (by decide) ?_
        exact kx_iret K hQ (by decide) (by decide) (fun _ h => h) dX3_protocolOfWord_36 hf
      · refine kx_iconst (v := 2) K dX3_protocolOfWord_31 (by decide) ?_
        refine kx_goto K 36 dX3_protocolOfWord_32 (by decide) ?_
        exact kx_iret K hQ (by decide) (by decide) (fun _ h => h) dX3_protocolOfWord_36 hf
    · refine kx_iconst (v := 1) K dX3_protocolOfWord_20 (by decide) ?_
      exact kx_iret K hQ (by decide) (by decide) (fun _ h => h) dX3_protocolOfWord_21 hf
  · refine kx_iconst (v := 0) K dX3_protocolOfWord_9 (by decide) ?_
    exact kx_iret K hQ (by decide) (by decide) (fun _ h => h) dX3_protocolOfWord_10 hf
def m_X3_readNumber_l28  (a0 : Nat) (a1 : Int32) (a2 : Int32) : Nat → ac_H → Int32 → Int32 → Option (Int32 × ac_H)
  | 0, _, _, _ => none
  | n + 1, σ8, v6, v7 =>
    mo_gi σ8 a0 3 4 fun x9 =>
    if v7 < x9 then
    (mo_cv σ8 a0 3 (m_X3_byteAt σ8 a0 v7) fun x15 σ14 =>
    m_X3_readNumber_l28 a0 a1 a2 n σ14 ((((10 : Int32) * v6) + x15) - (48 : Int32)) (v7 + 1))
    else
    (if v6 < a1 then
    (mo_cv σ8 a0 3 (m_X3_fail σ8 a0 (3 : Int32)) fun x11 σ10 =>
    some ((-1 : Int32), σ10))
    else
    (if a2 < v6 then
    (mo_cv σ8 a0 3 (m_X3_fail σ8 a0 (3 : Int32)) fun x13 σ12 =>
    some ((-1 : Int32), σ12))
    else
    (some (v6, σ8))))
def m_X3_readNumber (σ : ac_H) (a0 : Nat) (a1 : Int32) (a2 : Int32) : Option (Int32 × ac_H) :=
  mo_cv σ a0 3 (m_X3_advance σ a0) fun _ σ1 =>
  mo_gi σ1 a0 3 5 fun x2 =>
  if x2 = (2 : Int32) then
  (mo_gi σ1 a0 3 3 fun x3 =>
  m_X3_readNumber_l28 a0 a1 a2 hN_f σ1 (0 : Int32) x3)
  else
  (mo_cv σ1 a0 3 (m_X3_fail σ1 a0 (1 : Int32)) fun x5 σ4 =>
  some ((-1 : Int32), σ4))
set_option maxRecDepth 100000 in
set_option maxHeartbeats 4000000 in
theorem k_X3_readNumber {Λ : ex_L} {q : Nat} {σ σ' : ac_H} {a0 : Nat} {a1 : Int32} {a2 : Int32} {v : Int32} (hf : m_X3_readNumber σ a0 a1 a2 = some (v, σ')) : kx_C Λ yX3_readNumber (.code yX3_readNumber cX3_readNumber 5 (some .int)) ({ frames := 2, cells := 0, slots := 0, locals := 42 } : Room) [.ref a0, .int a1, .int a2] q σ (.inr (some (.int v))) σ' (fun z => z = q) := by
  refine kx_in (by decide +kernel) (Nat.le_of_ble_eq_true rfl) ?_
  intro Γ K hnm hsz hQ
  refine kx_lv (lv' := [(0, .ref a0), (1, .int a1), (2, .int a2)]) rfl ?_
  have B28 : ∀ (n28 : Nat) (σ8 : ac_H) (v6 : Int32) (v7 : Int32), m_X3_readNumber_l28 a0 a1 a2 n28 σ8 v6 v7 = some (v, σ') → kx_S Λ Γ 5 (fun z => z = q) σ8 (0) (0) 28 [(0, .ref a0), (1, .int a1), (2, .int a2), (3, .int v6), (4, .int v7)] [] := by
    intro n28
    induction n28 with
    | zero =>
      intro σ8 v6 v7 hf
      rw [m_X3_readNumber_l28] at hf
      cases hf
    | succ n28 ih28 =>
      intro σ8 v6 v7 hf
      rw [m_X3_readNumber_l28] at hf
      refine kx_iload K dX3_readNumber_28 4 rfl ?_
      refine kx_aload_n K dX3_readNumber_30 rfl 0 rfl ?_
      refine kx_gi K f_X3_32 dX3_readNumber_31 hf (fun x9 hf => ?_)
      refine kx_icmp_ge K 58 hf dX3_readNumber_34 (by decide) (fun hf => ?_) (fun hf => ?_)
      · refine kx_iload_n K dX3_readNumber_58 rfl 3 rfl ?_
        refine kx_iload_n K dX3_readNumber_59 rfl 1 rfl ?_
        refine kx_icmp_lt K 68 hf dX3_readNumber_60 (by decide) (fun hf => ?_) (fun hf => ?_)
        · refine kx_aload_n K dX3_readNumber_68 rfl 0 rfl ?_
          refine kx_iconst (v := 3) K dX3_readNumber_69 (by decide) ?_
          refine kx_cv1i K c_X3_63 ⟨by decide, by decide, rfl, rfl, (by decide), (by decide)⟩ (Nat.le_of_ble_eq_true rfl) dX3_readNumber_70 hf (fun _ _ _ h => k_X3_fail h) (fun x11 σ10 hf => ?_)
          refine kx_pop K dX3_readNumber_73 rfl ?_
          refine kx_iconst (v := -1) K dX3_readNumber_74 (by decide) ?_
          exact kx_iret K hQ (by decide) (by decide) (fun _ h => h) dX3_readNumber_75 hf
        · refine kx_iload_n K dX3_readNumber_63 rfl 3 rfl ?_
          refine kx_iload_n K dX3_readNumber_64 rfl 2 rfl ?_
          refine kx_icmp_le K 76 hf dX3_readNumber_65 (by decide) (fun hf => ?_) (fun hf => ?_)
          · refine kx_iload_n K dX3_readNumber_76 rfl 3 rfl ?_
            exact kx_iret K hQ (by decide) (by decide) (fun _ h => h) dX3_readNumber_77 hf
          · refine kx_aload_n K dX3_readNumber_68 rfl 0 rfl ?_
            refine kx_iconst (v := 3) K dX3_readNumber_69 (by decide) ?_
            refine kx_cv1i K c_X3_63 ⟨by decide, by decide, rfl, rfl, (by decide), (by decide)⟩ (Nat.le_of_ble_eq_true rfl) dX3_readNumber_70 hf (fun _ _ _ h => k_X3_fail h) (fun x13 σ12 hf => ?_)
            refine kx_pop K dX3_readNumber_73 rfl ?_
            refine kx_iconst (v := -1) K dX3_readNumber_74 (by decide) ?_
            exact kx_iret K hQ (by decide) (by decide) (fun _ h => h) dX3_readNumber_75 hf
      · refine kx_bipush (v := 10) K dX3_readNumber_37 (by decide) ?_
        refine kx_iload_n K dX3_readNumber_39 rfl 3 rfl ?_
        refine kx_imul K dX3_readNumber_40 ?_
        refine kx_aload_n K dX3_readNumber_41 rfl 0 rfl ?_
        refine kx_iload K dX3_readNumber_42 4 rfl ?_
        refine kx_cv1i K c_X3_113 ⟨by decide, by decide, rfl, rfl, (by decide), (by decide)⟩ (Nat.le_of_ble_eq_true rfl) dX3_readNumber_44 hf (fun _ _ _ h => k_X3_byteAt h) (fun x15 σ14 hf => ?_)
        refine kx_iadd K dX3_readNumber_47 ?_
        refine kx_bipush (v := 48) K dX3_readNumber_48 (by decide) ?_
        refine kx_isub K dX3_readNumber_50 ?_
        refine kx_istore_n K [(3, .int ((((10 : Int32) * v6) + x15) - (48 : Int32))), (0, .ref a0), (1, .int a1), (2, .int a2), (4, .int v7)] dX3_readNumber_51 rfl (by decide) rfl ?_
        refine kx_iinc (v := (v7 + 1)) K [(4, .int (v7 + 1)), (3, .int ((((10 : Int32) * v6) + x15) - (48 : Int32))), (0, .ref a0), (1, .int a1), (2, .int a2)] dX3_readNumber_52 4 rfl rfl (by decide) rfl ?_
        refine kx_goto K 28 dX3_readNumber_55 (by decide) ?_
        refine kx_sub [(0, .ref a0), (1, .int a1), (2, .int a2), (3, .int ((((10 : Int32) * v6) + x15) - (48 : Int32))), (4, .int (v7 + 1))] [2, 3, 4, 1, 0] rfl ?_
        exact ih28 _ _ _ hf
  unfold m_X3_readNumber at hf
  refine kx_aload_n K dX3_readNumber_0 rfl 0 rfl ?_
  refine kx_cv0v K c_X3_48 ⟨by decide, by decide, rfl, rfl, (by decide), (by decide)⟩ (Nat.le_of_ble_eq_true rfl) dX3_readNumber_1 hf (fun _ _ _ h => k_X3_advance h) (fun _ σ1 hf => ?_)
  refine kx_aload_n K dX3_readNumber_4 rfl 0 rfl ?_
  refine kx_gi K f_X3_51 dX3_readNumber_5 hf (fun x2 hf => ?_)
  refine kx_iconst (v := 2) K dX3_readNumber_8 (by decide) ?_
  refine kx_icmp_eq K 20 hf dX3_readNumber_9 (by decide) (fun hf => ?_) (fun hf => ?_)
  · refine kx_iconst (v := 0) K dX3_readNumber_20 (by decide) ?_
    refine kx_istore_n K [(3, .int (0 : Int32)), (0, .ref a0), (1, .int a1), (2, .int a2)] dX3_readNumber_21 rfl (by decide) rfl ?_
    refine kx_aload_n K dX3_readNumber_22 rfl 1 rfl ?_
    refine kx_gi K f_X3_110 dX3_readNumber_23 hf (fun x3 hf => ?_)
    refine kx_istore K [(4, .int x3), (3, .int (0 : Int32)), (0, .ref a0), (1, .int a1), (2, .int a2)] dX3_readNumber_26 (by decide) rfl ?_
    refine kx_sub [(0, .ref a0), (1, .int a1), (2, .int a2), (3, .int (0 : Int32)), (4, .int x3)] [2, 3, 4, 1, 0] rfl ?_
    exact B28 hN_f _ _ _ hf
  · refine kx_aload_n K dX3_readNumber_12 rfl 0 rfl ?_
    refine kx_iconst (v := 1) K dX3_readNumber_13 (by decide) ?_
    refine kx_cv1i K c_X3_63 ⟨by decide, by decide, rfl, rfl, (by decide), (by decide)⟩ (Nat.le_of_ble_eq_true rfl) dX3_readNumber_14 hf (fun _ _ _ h => k_X3_fail h) (fun x5 σ4 hf => ?_)
    refine kx_pop K dX3_readNumber_17 rfl ?_
    refine kx_iconst (v := -1) K dX3_readNumber_18 (by decide) ?_
    exact kx_iret K hQ (by decide) (by decide) (fun _ h => h) dX3_readNumber_19 hf
def m_X3_readSetting (σ : ac_H) (a0 : Nat) (a1 : Int32) : Option (Int32 × ac_H) :=
  if a1 < 0 then
  (mo_z (0 : Int32) (some ((0 : Int32), σ)))
  else
  (if a1 < (8 : Int32) then
  (mo_t 1 a1 fun x1 =>
  mo_t 2 a1 fun x2 =>
  mo_cv σ a0 3 (m_X3_readNumber σ a0 x1 x2) fun x4 σ3 =>
  if x4 = (-1 : Int32) then
  (mo_z (0 : Int32) (some ((0 : Int32), σ3)))
  else
  (mo_gr σ3 a0 3 9 fun x5 =>
  mo_cv σ3 x5 0 (m_X0_changeSetting σ3 x5 a1 x4) fun _ σ6 =>
  mo_z (1 : Int32) (some ((1 : Int32), σ6))))
  else
  (mo_z (0 : Int32) (some ((0 : Int32), σ))))
set_option maxRecDepth 100000 in
set_option maxHeartbeats 4000000 in
theorem k_X3_readSetting {Λ : ex_L} {q : Nat} {σ σ' : ac_H} {a0 : Nat} {a1 : Int32} {v : Int32} (hf : m_X3_readSetting σ a0 a1 = some (v, σ')) : kx_C Λ yX3_readSetting (.code yX3_readSetting cX3_readSetting 3 (some .boolean)) ({ frames := 3, cells := 0, slots := 0, locals := 66 } : Room) [.ref a0, .int a1] q σ (.inr (some (.int v))) σ' (fun z => z = q) := by
  refine kx_in (by decide +kernel) (Nat.le_of_ble_eq_true rfl) ?_
  intro Γ K hnm hsz hQ
  refine kx_lv (lv' := [(0, .ref a0), (1, .int a1)]) rfl ?_
  unfold m_X3_readSetting at hf
  refine kx_iload_n K dX3_readSetting_0 rfl 1 rfl ?_
  refine kx_if_lt K 10 hf dX3_readSetting_1 (by decide) (fun hf => ?_) (fun hf => ?_)
  · refine kx_iconst (v := 0) K dX3_readSetting_10 (by decide) ?_
    exact kx_zret K hQ (by decide) (by decide) (fun _ h => h) dX3_readSetting_11 hf
  · refine kx_iload_n K dX3_readSetting_4 rfl 1 rfl ?_
    refine kx_bipush (v := 8) K dX3_readSetting_5 (by decide) ?_
    refine kx_icmp_lt K 12 hf dX3_readSetting_7 (by decide) (fun hf => ?_) (fun hf => ?_)
    · refine kx_aload_n K dX3_readSetting_12 rfl 0 rfl ?_
      refine kx_gsN K 1 (by decide) (K.2.2.2.2.2.1.1.2.2.2.2.1 20 (by decide)) dX3_readSetting_13 ?_
      refine kx_iload_n K dX3_readSetting_16 rfl 1 rfl ?_
      refine kx_ti K 1 (by decide) dX3_readSetting_17 hf (fun x1 hf => ?_)
      refine kx_gsN K 2 (by decide) (K.2.2.2.2.2.1.1.2.2.2.2.1 21 (by decide)) dX3_readSetting_18 ?_
      refine kx_iload_n K dX3_readSetting_21 rfl 1 rfl ?_
      refine kx_ti K 2 (by decide) dX3_readSetting_22 hf (fun x2 hf => ?_)
      refine kx_cv2i K c_X3_93 ⟨by decide, by decide, rfl, rfl, (by decide), (by decide)⟩ (Nat.le_of_ble_eq_true rfl) dX3_readSetting_23 hf (fun _ _ _ h => k_X3_readNumber h) (fun x4 σ3 hf => ?_)
      refine kx_istore_n K [(2, .int x4), (0, .ref a0), (1, .int a1)] dX3_readSetting_26 rfl (by decide) rfl ?_
      refine kx_iload_n K dX3_readSetting_27 rfl 0 rfl ?_
      refine kx_iconst (v := -1) K dX3_readSetting_28 (by decide) ?_
      refine kx_icmp_ne K 34 hf dX3_readSetting_29 (by decide) (fun hf => ?_) (fun hf => ?_)
      · refine kx_aload_n K dX3_readSetting_34 rfl 1 rfl ?_
        refine kx_gr K f_X3_22 dX3_readSetting_35 hf (fun x5 hf => ?_)
        refine kx_iload_n K dX3_readSetting_38 rfl 2 rfl ?_
        refine kx_iload_n K dX3_readSetting_39 rfl 0 rfl ?_
        refine kx_cv2v K c_X3_71 ⟨by decide, by decide, rfl, rfl, (by decide), (by decide)⟩ (Nat.le_of_ble_eq_true rfl) dX3_readSetting_40 hf (fun _ _ _ h => k_X0_changeSetting h) (fun _ σ6 hf => ?_)
        refine kx_iconst (v := 1) K dX3_readSetting_43 (by decide) ?_
        exact kx_zret K hQ (by decide) (by decide) (fun _ h => h) dX3_readSetting_44 hf
      · refine kx_iconst (v := 0) K dX3_readSetting_32 (by decide) ?_
        exact kx_zret K hQ (by decide) (by decide) (fun _ h => h) dX3_readSetting_33 hf
    · refine kx_iconst (v := 0) K dX3_readSetting_10 (by decide) ?_
      exact kx_zret K hQ (by decide) (by decide) (fun _ h => h) dX3_readSetting_11 hf
def m_X3_readSemicolon (σ : ac_H) (a0 : Nat) : Option (Int32 × ac_H) :=
  mo_cv σ a0 3 (m_X3_advance σ a0) fun _ σ1 =>
  mo_gi σ1 a0 3 5 fun x2 =>
  if x2 = (3 : Int32) then
  (mo_z (1 : Int32) (some ((1 : Int32), σ1)))
  else
  (mo_cv σ1 a0 3 (m_X3_fail σ1 a0 (1 : Int32)) fun x4 σ3 =>
  if x4 = 0 then
  (mo_z (0 : Int32) (some ((0 : Int32), σ3)))
  else
  (mo_z (1 : Int32) (some ((1 : Int32), σ3))))
set_option maxRecDepth 100000 in
set_option maxHeartbeats 4000000 in
theorem k_X3_readSemicolon {Λ : ex_L} {q : Nat} {σ σ' : ac_H} {a0 : Nat} {v : Int32} (hf : m_X3_readSemicolon σ a0 = some (v, σ')) : kx_C Λ yX3_readSemicolon (.code yX3_readSemicolon cX3_readSemicolon 1 (some .boolean)) ({ frames := 2, cells := 0, slots := 0, locals := 42 } : Room) [.ref a0] q σ (.inr (some (.int v))) σ' (fun z => z = q) := by
  refine kx_in (by decide +kernel) (Nat.le_of_ble_eq_true rfl) ?_
  intro Γ K hnm hsz hQ
  refine kx_lv (lv' := [(0, .ref a0)]) rfl ?_
  unfold m_X3_readSemicolon at hf
  refine kx_aload_n K dX3_readSemicolon_0 rfl 0 rfl ?_
  refine kx_cv0v K c_X3_48 ⟨by decide, by decide, rfl, rfl, (by decide), (by decide)⟩ (Nat.le_of_ble_eq_true rfl) dX3_readSemicolon_1 hf (fun _ _ _ h => k_X3_advance h) (fun _ σ1 hf => ?_)
  refine kx_aload_n K dX3_readSemicolon_4 rfl 0 rfl ?_
  refine kx_gi K f_X3_51 dX3_readSemicolon_5 hf (fun x2 hf => ?_)
  refine kx_iconst (v := 3) K dX3_readSemicolon_8 (by decide) ?_
  refine kx_icmp_eq K 20 hf dX3_readSemicolon_9 (by decide) (fun hf => ?_) (fun hf => ?_)
  · refine kx_iconst (v := 1) K dX3_readSemicolon_20 (by decide) ?_
    refine kx_goto K 25 dX3_readSemicolon_21 (by decide) ?_
    exact kx_zret K hQ (by decide) (by decide) (fun _ h => h) dX3_readSemicolon_25 hf
  · refine kx_aload_n K dX3_readSemicolon_12 rfl 0 rfl ?_
    refine kx_iconst (v := 1) K dX3_readSemicolon_13 (by decide) ?_
    refine kx_cv1i K c_X3_63 ⟨by decide, by decide, rfl, rfl, (by decide), (by decide)⟩ (Nat.le_of_ble_eq_true rfl) dX3_readSemicolon_14 hf (fun _ _ _ h => k_X3_fail h) (fun x4 σ3 hf => ?_)
    refine kx_if_eq K 24 hf dX3_readSemicolon_17 (by decide) (fun hf => ?_) (fun hf => ?_)
    · refine kx_iconst (v := 0) K dX3_readSemicolon_24 (by decide) ?_
      exact kx_zret K hQ (by decide) (by decide) (fun _ h => h) dX3_readSemicolon_25 hf
    · refine kx_iconst (v := 1) K dX3_readSemicolon_20 (by decide) ?_
      refine kx_goto K 25 dX3_readSemicolon_21 (by decide) ?_
      exact kx_zret K hQ (by decide) (by decide) (fun _ h => h) dX3_readSemicolon_25 hf
def m_X3_readHead (σ : ac_H) (a0 : Nat) : Option (Int32 × ac_H) :=
  mo_cv σ a0 3 (m_X3_advance σ a0) fun _ σ1 =>
  mo_cv σ1 a0 3 (m_X3_isWord σ1 a0 0) fun x3 σ2 =>
  if x3 = 0 then
  (mo_cv σ2 a0 3 (m_X3_fail σ2 a0 (1 : Int32)) fun x18 σ17 =>
  mo_z x18 (some (x18, σ17)))
  else
  (mo_cv σ2 a0 3 (m_X3_advance σ2 a0) fun _ σ4 =>
  mo_cv σ4 a0 3 (m_X3_protocolOfWord σ4 a0) fun x6 σ5 =>
  if x6 = (-1 : Int32) then
  (mo_cv σ5 a0 3 (m_X3_fail σ5 a0 (1 : Int32)) fun x16 σ15 =>
  mo_z x16 (some (x16, σ15)))
  else
  (mo_gr σ5 a0 3 9 fun x7 =>
  mo_cv σ5 x7 0 (m_X0_changeSetting σ5 x7 (0 : Int32) x6) fun _ σ8 =>
  mo_cv σ8 a0 3 (m_X3_readSetting σ8 a0 (1 : Int32)) fun x10 σ9 =>
  if x10 = 0 then
  (mo_z (0 : Int32) (some ((0 : Int32), σ9)))
  else
  (mo_cv σ9 a0 3 (m_X3_readSetting σ9 a0 (2 : Int32)) fun x12 σ11 =>
  if x12 = 0 then
  (mo_z (0 : Int32) (some ((0 : Int32), σ11)))
  else
  (mo_cv σ11 a0 3 (m_X3_readSemicolon σ11 a0) fun x14 σ13 =>
  if x14 = 0 then
  (mo_z (0 : Int32) (some ((0 : Int32), σ13)))
  else
  (mo_z (1 : Int32) (some ((1 : Int32), σ13)))))))
set_option maxRecDepth 100000 in
set_option maxHeartbeats 4000000 in
theorem k_X3_readHead {Λ : ex_L} {q : Nat} {σ σ' : ac_H} {a0 : Nat} {v : Int32} (hf : m_X3_readHead σ a0 = some (v, σ')) : kx_C Λ yX3_readHead (.code yX3_readHead cX3_readHead 2 (some .boolean)) ({ frames := 6, cells := 0, slots := 0, locals := 127 } : Room) [.ref a0] q σ (.inr (some (.int v))) σ' (fun z => z = q) := by
  refine kx_in (by decide +kernel) (Nat.le_of_ble_eq_true rfl) ?_
  intro Γ K hnm hsz hQ
  refine kx_lv (lv' := [(0, .ref a0)]) rfl ?_
  unfold m_X3_readHead at hf
  refine kx_aload_n K dX3_readHead_0 rfl 0 rfl ?_
  refine kx_cv0v K c_X3_48 ⟨by decide, by decide, rfl, rfl, (by decide), (by decide)⟩ (Nat.le_of_ble_eq_true rfl) dX3_readHead_1 hf (fun _ _ _ h => k_X3_advance h) (fun _ σ1 hf => ?_)
  refine kx_aload_n K dX3_readHead_4 rfl 0 rfl ?_
  refine kx_ldcS K 0 (by decide) rfl rfl dX3_readHead_5 ?_
  refine kx_cv1i K c_X3_59 ⟨by decide, by decide, rfl, rfl, (by decide), (by decide)⟩ (Nat.le_of_ble_eq_true rfl) dX3_readHead_7 hf (fun _ _ _ h => k_X3_isWord h) (fun x3 σ2 hf => ?_)
  refine kx_if_ne K 19 hf dX3_readHead_10 (by decide) (fun hf => ?_) (fun hf => ?_)
  · refine kx_aload_n K dX3_readHead_19 rfl 0 rfl ?_
    refine kx_cv0v K c_X3_48 ⟨by decide, by decide, rfl, rfl, (by decide), (by decide)⟩ (Nat.le_of_ble_eq_true rfl) dX3_readHead_20 hf (fun _ _ _ h => k_X3_advance h) (fun _ σ4 hf => ?_)
    refine kx_aload_n K dX3_readHead_23 rfl 0 rfl ?_
    refine kx_cv0i K c_X3_67 ⟨by decide, by decide, rfl, rfl, (by decide), (by decide)⟩ (Nat.le_of_ble_eq_true rfl) dX3_readHead_24 hf (fun _ _ _ h => k_X3_protocolOfWord h) (fun x6 σ5 hf => ?_)
    refine kx_istore_n K [(1, .int x6), (0, .ref a0)] dX3_readHead_27 rfl (by decide) rfl ?_
    refine kx_iload_n K dX3_readHead_28 rfl 0 rfl ?_
    refine kx_iconst (v := -1) K dX3_readHead_29 (by decide) ?_
    refine kx_icmp_ne K 39 hf dX3_readHead_30 (by decide) (fun hf => ?_) (fun hf => ?_)
    · refine kx_aload_n K dX3_readHead_39 rfl 1 rfl ?_
      refine kx_gr K f_X3_22 dX3_readHead_40 hf (fun x7 hf => ?_)
      refine kx_iconst (v := 0) K dX3_readHead_43 (by decide) ?_
      refine kx_iload_n K dX3_readHead_44 rfl 0 rfl ?_
      refine kx_cv2v K c_X3_71 ⟨by decide, by decide, rfl, rfl, (by decide), (by decide)⟩ (Nat.le_of_ble_eq_true rfl) dX3_readHead_45 hf (fun _ _ _ h => k_X0_changeSetting h) (fun _ σ8 hf => ?_)
      refine kx_aload_n K dX3_readHead_48 rfl 1 rfl ?_
      refine kx_iconst (v := 1) K dX3_readHead_49 (by decide) ?_
      refine kx_cv1i K c_X3_75 ⟨by decide, by decide, rfl, rfl, (by decide), (by decide)⟩ (Nat.le_of_ble_eq_true rfl) dX3_readHead_50 hf (fun _ _ _ h => k_X3_readSetting h) (fun x10 σ9 hf => ?_)
      refine kx_if_eq K 75 hf dX3_readHead_53 (by decide) (fun hf => ?_) (fun hf => ?_)
      · refine kx_iconst (v := 0) K dX3_readHead_75 (by decide) ?_
        exact kx_zret K hQ (by decide) (by decide) (fun _ h => h) dX3_readHead_76 hf
      · refine kx_aload_n K dX3_readHead_56 rfl 1 rfl ?_
        refine kx_iconst (v := 2) K dX3_readHead_57 (by decide) ?_
        refine kx_cv1i K c_X3_75 ⟨by decide, by decide, rfl, rfl, (by decide), (by decide)⟩ (Nat.le_of_ble_eq_true rfl) dX3_readHead_58 hf (fun _ _ _ h => k_X3_readSetting h) (fun x12 σ11 hf => ?_)
        refine kx_if_eq K 75 hf dX3_readHead_61 (by decide) (fun hf => ?_) (fun hf => ?_)
        · refine kx_iconst (v := 0) K dX3_readHead_75 (by decide) ?_
          exact kx_zret K hQ (by decide) (by decide) (fun _ h => h) dX3_readHead_76 hf
        · refine kx_aload_n K dX3_readHead_64 rfl 1 rfl ?_
          refine kx_cv0i K c_X3_78 ⟨by decide, by decide, rfl, rfl, (by decide), (by decide)⟩ (Nat.le_of_ble_eq_true rfl) dX3_readHead_65 hf (fun _ _ _ h => k_X3_readSemicolon h) (fun x14 σ13 hf => ?_)
          refine kx_if_eq K 75 hf dX3_readHead_68 (by decide) (fun hf => ?_) (fun hf => ?_)
          · refine kx_iconst (v := 0) K dX3_readHead_75 (by decide) ?_
            exact kx_zret K hQ (by decide) (by decide) (fun _ h => h) dX3_readHead_76 hf
          · refine kx_iconst (v := 1) K dX3_readHead_71 (by decide) ?_
            refine kx_goto K 76 dX3_readHead_72 (by decide) ?_
            exact kx_zret K hQ (by decide) (by decide) (fun _ h => h) dX3_readHead_76 hf
    · refine kx_aload_n K dX3_readHead_33 rfl 1 rfl ?_
      refine kx_iconst (v := 1) K dX3_readHead_34 (by decide) ?_
      refine kx_cv1i K c_X3_63 ⟨by decide, by decide, rfl, rfl, (by decide), (by decide)⟩ (Nat.le_of_ble_eq_true rfl) dX3_readHead_35 hf (fun _ _ _ h => k_X3_fail h) (fun x16 σ15 hf => ?_)
      exact kx_zret K hQ (by decide) (by decide) (fun _ h => h) dX3_readHead_38 hf
  · refine kx_aload_n K dX3_readHead_13 rfl 0 rfl ?_
    refine kx_iconst (v := 1) K dX3_readHead_14 (by decide) ?_
    refine kx_cv1i K c_X3_63 ⟨by decide, by decide, rfl, rfl, (by decide), (by decide)⟩ (Nat.le_of_ble_eq_true rfl) dX3_readHead_15 hf (fun _ _ _ h => k_X3_fail h) (fun x18 σ17 hf => ?_)
    exact kx_zret K hQ (by decide) (by decide) (fun _ h => h) dX3_readHead_18 hf
def m_X3_settingOfWord (σ : ac_H) (a0 : Nat) : Option (Int32 × ac_H) :=
  mo_cv σ a0 3 (m_X3_isWord σ a0 4) fun x2 σ1 =>
  if x2 = 0 then
  (mo_cv σ1 a0 3 (m_X3_isWord σ1 a0 5) fun x4 σ3 =>
  if x4 = 0 then
  (mo_cv σ3 a0 3 (m_X3_isWord σ3 a0 6) fun x6 σ5 =>
  if x6 = 0 then
  (mo_cv σ5 a0 3 (m_X3_isWord σ5 a0 7) fun x8 σ7 =>
  if x8 = 0 then
  (some ((-1 : Int32), σ7))
  else
  (some ((7 : Int32), σ7)))
  else
  (some ((5 : Int32), σ5)))
  else
  (some ((4 : Int32), σ3)))
  else
  (some ((3 : Int32), σ1))
set_option maxRecDepth 100000 in
set_option maxHeartbeats 4000000 in
theorem k_X3_settingOfWord {Λ : ex_L} {q : Nat} {σ σ' : ac_H} {a0 : Nat} {v : Int32} (hf : m_X3_settingOfWord σ a0 = some (v, σ')) : kx_C Λ yX3_settingOfWord (.code yX3_settingOfWord cX3_settingOfWord 1 (some .int)) ({ frames := 5, cells := 0, slots := 0, locals := 107 } : Room) [.ref a0] q σ (.inr (some (.int v))) σ' (fun z => z = q) := by
  refine kx_in (by decide +kernel) (Nat.le_of_ble_eq_true rfl) ?_
  intro Γ K hnm hsz hQ
  refine kx_lv (lv' := [(0, .ref a0)]) rfl ?_
  unfold m_X3_settingOfWord at hf
  refine kx_aload_n K dX3_settingOfWord_0 rfl 0 rfl ?_
  refine kx_ldcS K 4 (by decide) rfl rfl dX3_settingOfWord_1 ?_
  refine kx_cv1i K c_X3_59 ⟨by decide, by decide, rfl, rfl, (by decide), (by decide)⟩ (Nat.le_of_ble_eq_true rfl) dX3_settingOfWord_3 hf (fun _ _ _ h => k_X3_isWord h) (fun x2 σ1 hf => ?_)
  refine kx_if_eq K 11 hf dX3_settingOfWord_6 (by decide) (fun hf => ?_) (fun hf => ?_)
  · refine kx_aload_n K dX3_settingOfWord_11 rfl 0 rfl ?_
    refine kx_ldcS K 5 (by decide) rfl rfl dX3_settingOfWord_12 ?_
    refine kx_cv1i K c_X3_59 ⟨by decide, by decide, rfl, rfl, (by decide), (by decide)⟩ (Nat.le_of_ble_eq_true rfl) dX3_settingOfWord_14 hf (fun _ _ _ h => k_X3_isWord h) (fun x4 σ3 hf => ?_)
    refine kx_if_eq K 22 hf dX3_settingOfWord_17 (by decide) (fun hf => ?_) (fun hf => ?_)
    · refine kx_aload_n K dX3_settingOfWord_22 rfl 0 rfl ?_
      refine kx_ldcS K 6 (by decide) rfl rfl dX3_settingOfWord_23 ?_
      refine kx_cv1i K c_X3_59 ⟨by decide, by decide, rfl, rfl, (by decide), (by decide)⟩ (Nat.le_of_ble_eq_true rfl) dX3_settingOfWord_25 hf (fun _ _ _ h => k_X3_isWord h) (fun x6 σ5 hf => ?_)
      refine kx_if_eq K 33 hf dX3_settingOfWord_28 (by decide) (fun hf => ?_) (fun hf => ?_)
      · refine kx_aload_n K dX3_settingOfWord_33 rfl 0 rfl ?_
        refine kx_ldcS K 7 (by decide) rfl rfl dX3_settingOfWord_34 ?_
        refine kx_cv1i K c_X3_59 ⟨by decide, by decide, rfl, rfl, (by decide), (by decide)⟩ (Nat.le_of_ble_eq_true rfl) dX3_settingOfWord_36 hf (fun _ _ _ h => k_X3_isWord h) (fun x8 σ7 hf => ?_)
        refine kx_if_eq K 47 hf dX3_settingOfWord_39 (by decide) (fun hf => ?_) (fun hf => ?_)
        · refine kx_iconst (v := -1) K dX3_settingOfWord_47 (by decide) ?_
          exact kx_iret K hQ (by decide) (by decide) (fun _ h => h) dX3_settingOfWord_48 hf
        · refine kx_bipush (v := 7) K dX3_settingOfWord_42 (by decide) ?_
          refine kx_goto K 48 dX3_settingOfWord_44 (by decide) ?_
          exact kx_iret K hQ (by decide) (by decide) (fun _ h => h) dX3_settingOfWord_48 hf
      · refine kx_iconst (v := 5) K dX3_settingOfWord_31 (by decide) ?_
        exact kx_iret K hQ (by decide) (by decide) (fun _ h => h) dX3_settingOfWord_32 hf
    · refine kx_iconst (v := 4) K dX3_settingOfWord_20 (by decide) ?_
      exact kx_iret K hQ (by decide) (by decide) (fun _ h => h) dX3_settingOfWord_21 hf
  · refine kx_iconst (v := 3) K dX3_settingOfWord_9 (by decide) ?_
    exact kx_iret K hQ (by decide) (by decide) (fun _ h => h) dX3_settingOfWord_10 hf
def m_X3_kindOfWord (σ : ac_H) (a0 : Nat) : Option (Int32 × ac_H) :=
  mo_cv σ a0 3 (m_X3_isWord σ a0 8) fun x2 σ1 =>
  if x2 = 0 then
  (mo_cv σ1 a0 3 (m_X3_isWord σ1 a0 9) fun x4 σ3 =>
  if x4 = 0 then
  (mo_cv σ3 a0 3 (m_X3_isWord σ3 a0 10) fun x6 σ5 =>
  if x6 = 0 then
  (some ((-1 : Int32), σ5))
  else
  (some ((2 : Int32), σ5)))
  else
  (some ((1 : Int32), σ3)))
  else
  (some ((0 : Int32), σ1))
set_option maxRecDepth 100000 in
set_option maxHeartbeats 4000000 in
theorem k_X3_kindOfWord {Λ : ex_L} {q : Nat} {σ σ' : ac_H} {a0 : Nat} {v : Int32} (hf : m_X3_kindOfWord σ a0 = some (v, σ')) : kx_C Λ yX3_kindOfWord (.code yX3_kindOfWord cX3_kindOfWord 1 (some .int)) ({ frames := 5, cells := 0, slots := 0, locals := 107 } : Room) [.ref a0] q σ (.inr (some (.int v))) σ' (fun z => z = q) := by
  refine kx_in (by decide +kernel) (Nat.le_of_ble_eq_true rfl) ?_
  intro Γ K hnm hsz hQ
  refine kx_lv (lv' := [(0, .ref a0)]) rfl ?_
  unfold m_X3_kindOfWord at hf
  refine kx_aload_n K dX3_kindOfWord_0 rfl 0 rfl ?_
  refine kx_ldcS K 8 (by decide) rfl rfl dX3_kindOfWord_1 ?_
  refine kx_cv1i K c_X3_59 ⟨by decide, by decide, rfl, rfl, (by decide), (by decide)⟩ (Nat.le_of_ble_eq_true rfl) dX3_kindOfWord_3 hf (fun _ _ _ h => k_X3_isWord h) (fun x2 σ1 hf => ?_)
  refine kx_if_eq K 11 hf dX3_kindOfWord_6 (by decide) (fun hf => ?_) (fun hf => ?_)
  · refine kx_aload_n K dX3_kindOfWord_11 rfl 0 rfl ?_
    refine kx_ldcS K 9 (by decide) rfl rfl dX3_kindOfWord_12 ?_
    refine kx_cv1i K c_X3_59 ⟨by decide, by decide, rfl, rfl, (by decide), (by decide)⟩ (Nat.le_of_ble_eq_true rfl) dX3_kindOfWord_14 hf (fun _ _ _ h => k_X3_isWord h) (fun x4 σ3 hf => ?_)
    refine kx_if_eq K 22 hf dX3_kindOfWord_17 (by decide) (fun hf => ?_) (fun hf => ?_)
    · refine kx_aload_n K dX3_kindOfWord_22 rfl 0 rfl ?_
      refine kx_ldcS K 10 (by decide) rfl rfl dX3_kindOfWord_23 ?_
      refine kx_cv1i K c_X3_59 ⟨by decide, by decide, rfl, rfl, (by decide), (by decide)⟩ (Nat.le_of_ble_eq_true rfl) dX3_kindOfWord_25 hf (fun _ _ _ h => k_X3_isWord h) (fun x6 σ5 hf => ?_)
      refine kx_if_eq K 35 hf dX3_kindOfWord_28 (by decide) (fun hf => ?_) (fun hf => ?_)
      · refine kx_iconst (v := -1) K dX3_kindOfWord_35 (by decide) ?_
        exact kx_iret K hQ (by decide) (by decide) (fun _ h => h) dX3_kindOfWord_36 hf
      · refine kx_iconst (v := 2) K dX3_kindOfWord_31 (by decide) ?_
        refine kx_goto K 36 dX3_kindOfWord_32 (by decide) ?_
        exact kx_iret K hQ (by decide) (by decide) (fun _ h => h) dX3_kindOfWord_36 hf
    · refine kx_iconst (v := 1) K dX3_kindOfWord_20 (by decide) ?_
      exact kx_iret K hQ (by decide) (by decide) (fun _ h => h) dX3_kindOfWord_21 hf
  · refine kx_iconst (v := 0) K dX3_kindOfWord_9 (by decide) ?_
    exact kx_iret K hQ (by decide) (by decide) (fun _ h => h) dX3_kindOfWord_10 hf
def m_X3_readFault_j84  (a0 : Nat) (σ22 : ac_H) (v19 : Int32) (v20 : Int32) (w21 : Int32) : Option (Int32 × ac_H) :=
  if w21 = (-1 : Int32) then
  (mo_z (0 : Int32) (some ((0 : Int32), σ22)))
  else
  (mo_gr σ22 a0 3 9 fun x23 =>
  mo_cv σ22 x23 0 (m_X0_insert σ22 x23 v19 v20 w21) fun x25 σ24 =>
  mo_z (1 : Int32) (some ((1 : Int32), σ24)))
def m_X3_readFault (σ : ac_H) (a0 : Nat) : Option (Int32 × ac_H) :=
  mo_cv σ a0 3 (m_X3_kindOfWord σ a0) fun x2 σ1 =>
  if x2 = (-1 : Int32) then
  (mo_cv σ1 a0 3 (m_X3_fail σ1 a0 (1 : Int32)) fun x18 σ17 =>
  mo_z x18 (some (x18, σ17)))
  else
  (mo_gr σ1 a0 3 9 fun x3 =>
  mo_cv σ1 x3 0 (m_X0_faultCount σ1 x3) fun x5 σ4 =>
  if x5 < (10 : Int32) then
  (mo_cv σ4 a0 3 (m_X3_readNumber σ4 a0 (0 : Int32) (119 : Int32)) fun x7 σ6 =>
  if x7 = (-1 : Int32) then
  (mo_z (0 : Int32) (some ((0 : Int32), σ6)))
  else
  (mo_gr σ6 a0 3 9 fun x8 =>
  mo_cv σ6 x8 0 (m_X0_findFault σ6 x8 x2 x7) fun x10 σ9 =>
  if x10 = (-1 : Int32) then
  (if x2 = (2 : Int32) then
  (mo_cv σ9 a0 3 (m_X3_readNumber σ9 a0 (1 : Int32) (20 : Int32)) fun x12 σ11 =>
  m_X3_readFault_j84 a0 σ11 x2 x7 x12)
  else
  (m_X3_readFault_j84 a0 σ9 x2 x7 (0 : Int32)))
  else
  (mo_cv σ9 a0 3 (m_X3_fail σ9 a0 (2 : Int32)) fun x14 σ13 =>
  mo_z x14 (some (x14, σ13)))))
  else
  (mo_cv σ4 a0 3 (m_X3_fail σ4 a0 (4 : Int32)) fun x16 σ15 =>
  mo_z x16 (some (x16, σ15))))
set_option maxRecDepth 100000 in
set_option maxHeartbeats 4000000 in
theorem k_X3_readFault {Λ : ex_L} {q : Nat} {σ σ' : ac_H} {a0 : Nat} {v : Int32} (hf : m_X3_readFault σ a0 = some (v, σ')) : kx_C Λ yX3_readFault (.code yX3_readFault cX3_readFault 4 (some .boolean)) ({ frames := 6, cells := 0, slots := 0, locals := 127 } : Room) [.ref a0] q σ (.inr (some (.int v))) σ' (fun z => z = q) := by
  refine kx_in (by decide +kernel) (Nat.le_of_ble_eq_true rfl) ?_
  intro Γ K hnm hsz hQ
  refine kx_lv (lv' := [(0, .ref a0)]) rfl ?_
  have B84 : ∀ (σ22 : ac_H) (v19 : Int32) (v20 : Int32) (w21 : Int32), m_X3_readFault_j84 a0 σ22 v19 v20 w21 = some (v, σ') → kx_S Λ Γ 4 (fun z => z = q) σ22 (0) (0) 84 [(0, .ref a0), (1, .int v19), (2, .int v20)] [.int w21] := by
    intro σ22 v19 v20 w21 hf
    unfold m_X3_readFault_j84 at hf
    refine kx_istore_n K [(3, .int w21), (0, .ref a0), (1, .int v19), (2, .int v20)] dX3_readFault_84 rfl (by decide) rfl ?_
    refine kx_iload_n K dX3_readFault_85 rfl 0 rfl ?_
    refine kx_iconst (v := -1) K dX3_readFault_86 (by decide) ?_
    refine kx_icmp_ne K 92 hf dX3_readFault_87 (by decide) (fun hf => ?_) (fun hf => ?_)
    · refine kx_aload_n K dX3_readFault_92 rfl 1 rfl ?_
      refine kx_gr K f_X3_22 dX3_readFault_93 hf (fun x23 hf => ?_)
      refine kx_iload_n K dX3_readFault_96 rfl 2 rfl ?_
      refine kx_iload_n K dX3_readFault_97 rfl 3 rfl ?_
      refine kx_iload_n K dX3_readFault_98 rfl 0 rfl ?_
      refine kx_cv3i K c_X3_100 ⟨by decide, by decide, rfl, rfl, (by decide), (by decide)⟩ (Nat.le_of_ble_eq_true rfl) dX3_readFault_99 hf (fun _ _ _ h => k_X0_insert h) (fun x25 σ24 hf => ?_)
      refine kx_pop K dX3_readFault_102 rfl ?_
      refine kx_iconst (v := 1) K dX3_readFault_103 (by decide) ?_
      exact kx_zret K hQ (by decide) (by decide) (fun _ h => h) dX3_readFault_104 hf
    · refine kx_iconst (v := 0) K dX3_readFault_90 (by decide) ?_
      exact kx_zret K hQ (by decide) (by decide) (fun _ h => h) dX3_readFault_91 hf
  unfold m_X3_readFault at hf
  refine kx_aload_n K dX3_readFault_0 rfl 0 rfl ?_
  refine kx_cv0i K c_X3_87 ⟨by decide, by decide, rfl, rfl, (by decide), (by decide)⟩ (Nat.le_of_ble_eq_true rfl) dX3_readFault_1 hf (fun _ _ _ h => k_X3_kindOfWord h) (fun x2 σ1 hf => ?_)
  refine kx_istore_n K [(1, .int x2), (0, .ref a0)] dX3_readFault_4 rfl (by decide) rfl ?_
  refine kx_iload_n K dX3_readFault_5 rfl 0 rfl ?_
  refine kx_iconst (v := -1) K dX3_readFault_6 (by decide) ?_
  refine kx_icmp_ne K 16 hf dX3_readFault_7 (by decide) (fun hf => ?_) (fun hf => ?_)
  · refine kx_aload_n K dX3_readFault_16 rfl 1 rfl ?_
    refine kx_gr K f_X3_22 dX3_readFault_17 hf (fun x3 hf => ?_)
    refine kx_cv0i K c_X3_90 ⟨by decide, by decide, rfl, rfl, (by decide), (by decide)⟩ (Nat.le_of_ble_eq_true rfl) dX3_readFault_20 hf (fun _ _ _ h => k_X0_faultCount h) (fun x5 σ4 hf => ?_)
    refine kx_bipush (v := 10) K dX3_readFault_23 (by decide) ?_
    refine kx_icmp_lt K 34 hf dX3_readFault_25 (by decide) (fun hf => ?_) (fun hf => ?_)
    · refine kx_aload_n K dX3_readFault_34 rfl 1 rfl ?_
      refine kx_iconst (v := 0) K dX3_readFault_35 (by decide) ?_
      refine kx_bipush (v := 119) K dX3_readFault_36 (by decide) ?_
      refine kx_cv2i K c_X3_93 ⟨by decide, by decide, rfl, rfl, (by decide), (by decide)⟩ (Nat.le_of_ble_eq_true rfl) dX3_readFault_38 hf (fun _ _ _ h => k_X3_readNumber h) (fun x7 σ6 hf => ?_)
      refine kx_istore_n K [(2, .int x7), (1, .int x2), (0, .ref a0)] dX3_readFault_41 rfl (by decide) rfl ?_
      refine kx_iload_n K dX3_readFault_42 rfl 0 rfl ?_
      refine kx_iconst (v := -1) K dX3_readFault_43 (by decide) ?_
      refine kx_icmp_ne K 49 hf dX3_readFault_44 (by decide) (fun hf => ?_) (fun hf => ?_)
      · refine kx_aload_n K dX3_readFault_49 rfl 2 rfl ?_
        refine kx_gr K f_X3_22 dX3_readFault_50 hf (fun x8 hf => ?_)
        refine kx_iload_n K dX3_readFault_53 rfl 1 rfl ?_
        refine kx_iload_n K dX3_readFault_54 rfl 0 rfl ?_
        refine kx_cv2i K c_X3_97 ⟨by decide, by decide, rfl, rfl, (by decide), (by decide)⟩ (Nat.le_of_ble_eq_true rfl) dX3_readFault_55 hf (fun _ _ _ h => k_X0_findFault h) (fun x10 σ9 hf => ?_)
        refine kx_iconst (v := -1) K dX3_readFault_58 (by decide) ?_
        refine kx_icmp_eq K 68 hf dX3_readFault_59 (by decide) (fun hf => ?_) (fun hf => ?_)
        · refine kx_iload_n K dX3_readFault_68 rfl 1 rfl ?_
          refine kx_iconst (v := 2) K dX3_readFault_69 (by decide) ?_
          refine kx_icmp_ne K 83 hf dX3_readFault_70 (by decide) (fun hf => ?_) (fun hf => ?_)
          · refine kx_iconst (v := 0) K dX3_readFault_83 (by decide) ?_
            refine kx_sub [(0, .ref a0), (1, .int x2), (2, .int x7)] [2, 1, 0] rfl ?_
            exact B84 _ _ _ _ hf
          · refine kx_aload_n K dX3_readFault_73 rfl 2 rfl ?_
            refine kx_iconst (v := 1) K dX3_readFault_74 (by decide) ?_
            refine kx_bipush (v := 20) K dX3_readFault_75 (by decide) ?_
            refine kx_cv2i K c_X3_93 ⟨by decide, by decide, rfl, rfl, (by decide), (by decide)⟩ (Nat.le_of_ble_eq_true rfl) dX3_readFault_77 hf (fun _ _ _ h => k_X3_readNumber h) (fun x12 σ11 hf => ?_)
            refine kx_goto K 84 dX3_readFault_80 (by decide) ?_
            refine kx_sub [(0, .ref a0), (1, .int x2), (2, .int x7)] [2, 1, 0] rfl ?_
            exact B84 _ _ _ _ hf
        · refine kx_aload_n K dX3_readFault_62 rfl 2 rfl ?_
          refine kx_iconst (v := 2) K dX3_readFault_63 (by decide) ?_
          refine kx_cv1i K c_X3_63 ⟨by decide, by decide, rfl, rfl, (by decide), (by decide)⟩ (Nat.le_of_ble_eq_true rfl) dX3_readFault_64 hf (fun _ _ _ h => k_X3_fail h) (fun x14 σ13 hf => ?_)
          exact kx_zret K hQ (by decide) (by decide) (fun _ h => h) dX3_readFault_67 hf
      · refine kx_iconst (v := 0) K dX3_readFault_47 (by decide) ?_
        exact kx_zret K hQ (by decide) (by decide) (fun _ h => h) dX3_readFault_48 hf
    · refine kx_aload_n K dX3_readFault_28 rfl 1 rfl ?_
      refine kx_iconst (v := 4) K dX3_readFault_29 (by decide) ?_
      refine kx_cv1i K c_X3_63 ⟨by decide, by decide, rfl, rfl, (by decide), (by decide)⟩ (Nat.le_of_ble_eq_true rfl) dX3_readFault_30 hf (fun _ _ _ h => k_X3_fail h) (fun x16 σ15 hf => ?_)
      exact kx_zret K hQ (by decide) (by decide) (fun _ h => h) dX3_readFault_33 hf
  · refine kx_aload_n K dX3_readFault_10 rfl 1 rfl ?_
    refine kx_iconst (v := 1) K dX3_readFault_11 (by decide) ?_
    refine kx_cv1i K c_X3_63 ⟨by decide, by decide, rfl, rfl, (by decide), (by decide)⟩ (Nat.le_of_ble_eq_true rfl) dX3_readFault_12 hf (fun _ _ _ h => k_X3_fail h) (fun x18 σ17 hf => ?_)
    exact kx_zret K hQ (by decide) (by decide) (fun _ h => h) dX3_readFault_15 hf
def m_X3_readStatement (σ : ac_H) (a0 : Nat) : Option (Int32 × ac_H) :=
  mo_cv σ a0 3 (m_X3_settingOfWord σ a0) fun x2 σ1 =>
  if x2 = (-1 : Int32) then
  (mo_cv σ1 a0 3 (m_X3_readFault σ1 a0) fun x17 σ16 =>
  if x17 = 0 then
  (mo_z (0 : Int32) (some ((0 : Int32), σ16)))
  else
  (mo_cv σ16 a0 3 (m_X3_readSemicolon σ16 a0) fun x19 σ18 =>
  if x19 = 0 then
  (mo_z (0 : Int32) (some ((0 : Int32), σ18)))
  else
  (mo_z (1 : Int32) (some ((1 : Int32), σ18)))))
  else
  (mo_gi σ1 a0 3 6 fun x3 =>
  if ((x3 >>> (x2 &&& 31)) &&& (1 : Int32)) = 0 then
  (mo_gi σ1 a0 3 6 fun x4 =>
  mo_pv σ1 a0 3 6 (.int (x4 ||| ((1 : Int32) <<< (x2 &&& 31)))) fun σ5 =>
  mo_cv σ5 a0 3 (m_X3_readSetting σ5 a0 x2) fun x7 σ6 =>
  if x7 = 0 then
  (mo_z (0 : Int32) (some ((0 : Int32), σ6)))
  else
  (if x2 = (5 : Int32) then
  (mo_cv σ6 a0 3 (m_X3_readSetting σ6 a0 (6 : Int32)) fun x11 σ10 =>
  if x11 = 0 then
  (mo_z (0 : Int32) (some ((0 : Int32), σ10)))
  else
  (mo_cv σ10 a0 3 (m_X3_readSemicolon σ10 a0) fun x13 σ12 =>
  mo_z x13 (some (x13, σ12))))
  else
  (mo_cv σ6 a0 3 (m_X3_readSemicolon σ6 a0) fun x9 σ8 =>
  mo_z x9 (some (x9, σ8)))))
  else
  (mo_cv σ1 a0 3 (m_X3_fail σ1 a0 (2 : Int32)) fun x15 σ14 =>
  mo_z x15 (some (x15, σ14))))
set_option maxRecDepth 100000 in
set_option maxHeartbeats 4000000 in
theorem k_X3_readStatement {Λ : ex_L} {q : Nat} {σ σ' : ac_H} {a0 : Nat} {v : Int32} (hf : m_X3_readStatement σ a0 = some (v, σ')) : kx_C Λ yX3_readStatement (.code yX3_readStatement cX3_readStatement 2 (some .boolean)) ({ frames := 7, cells := 0, slots := 0, locals := 150 } : Room) [.ref a0] q σ (.inr (some (.int v))) σ' (fun z => z = q) := by
  refine kx_in (by decide +kernel) (Nat.le_of_ble_eq_true rfl) ?_
  intro Γ K hnm hsz hQ
  refine kx_lv (lv' := [(0, .ref a0)]) rfl ?_
  unfold m_X3_readStatement at hf
  refine kx_aload_n K dX3_readStatement_0 rfl 0 rfl ?_
  refine kx_cv0i K c_X3_81 ⟨by decide, by decide, rfl, rfl, (by decide), (by decide)⟩ (Nat.le_of_ble_eq_true rfl) dX3_readStatement_1 hf (fun _ _ _ h => k_X3_settingOfWord h) (fun x2 σ1 hf => ?_)
  refine kx_istore_n K [(1, .int x2), (0, .ref a0)] dX3_readStatement_4 rfl (by decide) rfl ?_
  refine kx_iload_n K dX3_readStatement_5 rfl 0 rfl ?_
  refine kx_iconst (v := -1) K dX3_readStatement_6 (by decide) ?_
  refine kx_icmp_ne K 30 hf dX3_readStatement_7 (by decide) (fun hf => ?_) (fun hf => ?_)
  · refine kx_aload_n K dX3_readStatement_30 rfl 1 rfl ?_
    refine kx_gi K f_X3_35 dX3_readStatement_31 hf (fun x3 hf => ?_)
    refine kx_iload_n K dX3_readStatement_34 rfl 0 rfl ?_
    refine kx_ishr K dX3_readStatement_35 ?_
    refine kx_iconst (v := 1) K dX3_readStatement_36 (by decide) ?_
    refine kx_iand K dX3_readStatement_37 ?_
    refine kx_if_eq K 47 hf dX3_readStatement_38 (by decide) (fun hf => ?_) (fun hf => ?_)
    · refine kx_aload_n K dX3_readStatement_47 rfl 1 rfl ?_
      refine kx_dup K dX3_readStatement_48 rfl ?_
      refine kx_gi K f_X3_35 dX3_readStatement_49 hf (fun x4 hf => ?_)
      refine kx_iconst (v := 1) K dX3_readStatement_52 (by decide) ?_
      refine kx_iload_n K dX3_readStatement_53 rfl 0 rfl ?_
      refine kx_ishl K dX3_readStatement_54 ?_
      refine kx_ior K dX3_readStatement_55 ?_
      refine kx_pi K f_X3_35 dX3_readStatement_56 hf (fun σ5 hf => ?_)
      refine kx_aload_n K dX3_readStatement_59 rfl 1 rfl ?_
      refine kx_iload_n K dX3_readStatement_60 rfl 0 rfl ?_
      refine kx_cv1i K c_X3_75 ⟨by decide, by decide, rfl, rfl, (by decide), (by decide)⟩ (Nat.le_of_ble_eq_true rfl) dX3_readStatement_61 hf (fun _ _ _ h => k_X3_readSetting h) (fun x7 σ6 hf => ?_)
      refine kx_if_ne K 69 hf dX3_readStatement_64 (by decide) (fun hf => ?_) (fun hf => ?_)
      · refine kx_iload_n K dX3_readStatement_69 rfl 0 rfl ?_
        refine kx_iconst (v := 5) K dX3_readStatement_70 (by decide) ?_
        refine kx_icmp_ne K 85 hf dX3_readStatement_71 (by decide) (fun hf => ?_) (fun hf => ?_)
        · refine kx_aload_n K dX3_readStatement_85 rfl 1 rfl ?_
          refine kx_cv0i K c_X3_78 ⟨by decide, by decide, rfl, rfl, (by decide), (by decide)⟩ (Nat.le_of_ble_eq_true rfl) dX3_readStatement_86 hf (fun _ _ _ h => k_X3_readSemicolon h) (fun x9 σ8 hf => ?_)
          exact kx_zret K hQ (by decide) (by decide) (fun _ h => h) dX3_readStatement_89 hf
        · refine kx_aload_n K dX3_readStatement_74 rfl 1 rfl ?_
          refine kx_bipush (v := 6) K dX3_readStatement_75 (by decide) ?_
          refine kx_cv1i K c_X3_75 ⟨by decide, by decide, rfl, rfl, (by decide), (by decide)⟩ (Nat.le_of_ble_eq_true rfl) dX3_readStatement_77 hf (fun _ _ _ h => k_X3_readSetting h) (fun x11 σ10 hf => ?_)
          refine kx_if_ne K 85 hf dX3_readStatement_80 (by decide) (fun hf => ?_) (fun hf => ?_)
          · refine kx_aload_n K dX3_readStatement_85 rfl 1 rfl ?_
            refine kx_cv0i K c_X3_78 ⟨by decide, by decide, rfl, rfl, (by decide), (by decide)⟩ (Nat.le_of_ble_eq_true rfl) dX3_readStatement_86 hf (fun _ _ _ h => k_X3_readSemicolon h) (fun x13 σ12 hf => ?_)
            exact kx_zret K hQ (by decide) (by decide) (fun _ h => h) dX3_readStatement_89 hf
          · refine kx_iconst (v := 0) K dX3_readStatement_83 (by decide) ?_
            exact kx_zret K hQ (by decide) (by decide) (fun _ h => h) dX3_readStatement_84 hf
      · refine kx_iconst (v := 0) K dX3_readStatement_67 (by decide) ?_
        exact kx_zret K hQ (by decide) (by decide) (fun _ h => h) dX3_readStatement_68 hf
    · refine kx_aload_n K dX3_readStatement_41 rfl 1 rfl ?_
      refine kx_iconst (v := 2) K dX3_readStatement_42 (by decide) ?_
      refine kx_cv1i K c_X3_63 ⟨by decide, by decide, rfl, rfl, (by decide), (by decide)⟩ (Nat.le_of_ble_eq_true rfl) dX3_readStatement_43 hf (fun _ _ _ h => k_X3_fail h) (fun x15 σ14 hf => ?_)
      exact kx_zret K hQ (by decide) (by decide) (fun _ h => h) dX3_readStatement_46 hf
  · refine kx_aload_n K dX3_readStatement_10 rfl 1 rfl ?_
    refine kx_cv0i K c_X3_84 ⟨by decide, by decide, rfl, rfl, (by decide), (by decide)⟩ (Nat.le_of_ble_eq_true rfl) dX3_readStatement_11 hf (fun _ _ _ h => k_X3_readFault h) (fun x17 σ16 hf => ?_)
    refine kx_if_eq K 28 hf dX3_readStatement_14 (by decide) (fun hf => ?_) (fun hf => ?_)
    · refine kx_iconst (v := 0) K dX3_readStatement_28 (by decide) ?_
      exact kx_zret K hQ (by decide) (by decide) (fun _ h => h) dX3_readStatement_29 hf
    · refine kx_aload_n K dX3_readStatement_17 rfl 1 rfl ?_
      refine kx_cv0i K c_X3_78 ⟨by decide, by decide, rfl, rfl, (by decide), (by decide)⟩ (Nat.le_of_ble_eq_true rfl) dX3_readStatement_18 hf (fun _ _ _ h => k_X3_readSemicolon h) (fun x19 σ18 hf => ?_)
      refine kx_if_eq K 28 hf dX3_readStatement_21 (by decide) (fun hf => ?_) (fun hf => ?_)
      · refine kx_iconst (v := 0) K dX3_readStatement_28 (by decide) ?_
        exact kx_zret K hQ (by decide) (by decide) (fun _ h => h) dX3_readStatement_29 hf
      · refine kx_iconst (v := 1) K dX3_readStatement_24 (by decide) ?_
        refine kx_goto K 29 dX3_readStatement_25 (by decide) ?_
        exact kx_zret K hQ (by decide) (by decide) (fun _ h => h) dX3_readStatement_29 hf
def m_X3_read_l39  (a0 : Nat) : Nat → ac_H → Int32 → Int32 → Option (Int32 × ac_H)
  | 0, _, _, _ => none
  | n + 1, σ12, v10, v11 =>
    if v11 < (500 : Int32) then
    (if v10 = 0 then
    (mo_pv σ12 a0 3 1 (.int (0 : Int32)) fun σ15 =>
    mo_gi σ15 a0 3 7 fun x16 =>
    some (x16, σ15))
    else
    (mo_cv σ12 a0 3 (m_X3_advance σ12 a0) fun _ σ17 =>
    mo_gi σ17 a0 3 5 fun x18 =>
    if x18 = 0 then
    (mo_pv σ17 a0 3 1 (.int (0 : Int32)) fun σ21 =>
    mo_gi σ21 a0 3 7 fun x22 =>
    some (x22, σ21))
    else
    (mo_cv σ17 a0 3 (m_X3_readStatement σ17 a0) fun x20 σ19 =>
    m_X3_read_l39 a0 n σ19 x20 (v11 + 1))))
    else
    (mo_pv σ12 a0 3 1 (.int (0 : Int32)) fun σ13 =>
    mo_gi σ13 a0 3 7 fun x14 =>
    some (x14, σ13))
def m_X3_read (σ : ac_H) (a0 : Nat) (a1 : Int32) : Option (Int32 × ac_H) :=
  mo_pv σ a0 3 2 (.int a1) fun σ1 =>
  mo_pv σ1 a0 3 4 (.int (0 : Int32)) fun σ2 =>
  mo_pv σ2 a0 3 6 (.int (0 : Int32)) fun σ3 =>
  mo_pv σ3 a0 3 7 (.int (0 : Int32)) fun σ4 =>
  mo_pv σ4 a0 3 8 (.int (-1 : Int32)) fun σ5 =>
  mo_gr σ5 a0 3 9 fun x6 =>
  mo_cv σ5 x6 0 (m_X0_begin σ5 x6) fun _ σ7 =>
  mo_cv σ7 a0 3 (m_X3_readHead σ7 a0) fun x9 σ8 =>
  m_X3_read_l39 a0 hN_f σ8 x9 (0 : Int32)
set_option maxRecDepth 100000 in
set_option maxHeartbeats 4000000 in
theorem k_X3_read {Λ : ex_L} {q : Nat} {σ σ' : ac_H} {a0 : Nat} {a1 : Int32} {v : Int32} (hf : m_X3_read σ a0 a1 = some (v, σ')) : kx_C Λ yX3_read (.code yX3_read cX3_read 4 (some .int)) ({ frames := 8, cells := 0, slots := 0, locals := 171 } : Room) [.ref a0, .int a1] q σ (.inr (some (.int v))) σ' (fun z => z = q) := by
  refine kx_in (by decide +kernel) (Nat.le_of_ble_eq_true rfl) ?_
  intro Γ K hnm hsz hQ
  refine kx_lv (lv' := [(0, .ref a0), (1, .int a1)]) rfl ?_
  have B39 : ∀ (n39 : Nat) (σ12 : ac_H) (v10 : Int32) (v11 : Int32), m_X3_read_l39 a0 n39 σ12 v10 v11 = some (v, σ') → kx_S Λ Γ 4 (fun z => z = q) σ12 (0) (0) 39 [(0, .ref a0), (2, .int v10), (3, .int v11)] [] := by
    intro n39
    induction n39 with
    | zero =>
      intro σ12 v10 v11 hf
      rw [m_X3_read_l39] at hf
      cases hf
    | succ n39 ih39 =>
      intro σ12 v10 v11 hf
      rw [m_X3_read_l39] at hf
      refine kx_iload_n K dX3_read_39 rfl 2 rfl ?_
      refine kx_sipush (v := 500) K dX3_read_40 (by decide) ?_
      refine kx_icmp_ge K 75 hf dX3_read_43 (by decide) (fun hf => ?_) (fun hf => ?_)
      · refine kx_aload_n K dX3_read_75 rfl 0 rfl ?_
        refine kx_iconst (v := 0) K dX3_read_76 (by decide) ?_
        refine kx_pi K f_X3_26 dX3_read_77 hf (fun σ13 hf => ?_)
        refine kx_aload_n K dX3_read_80 rfl 0 rfl ?_
        refine kx_gi K f_X3_38 dX3_read_81 hf (fun x14 hf => ?_)
        exact kx_iret K hQ (by decide) (by decide) (fun _ h => h) dX3_read_84 hf
      · refine kx_iload_n K dX3_read_46 rfl 1 rfl ?_
        refine kx_if_eq K 75 hf dX3_read_47 (by decide) (fun hf => ?_) (fun hf => ?_)
        · refine kx_aload_n K dX3_read_75 rfl 0 rfl ?_
          refine kx_iconst (v := 0) K dX3_read_76 (by decide) ?_
          refine kx_pi K f_X3_26 dX3_read_77 hf (fun σ15 hf => ?_)
          refine kx_aload_n K dX3_read_80 rfl 0 rfl ?_
          refine kx_gi K f_X3_38 dX3_read_81 hf (fun x16 hf => ?_)
          exact kx_iret K hQ (by decide) (by decide) (fun _ h => h) dX3_read_84 hf
        · refine kx_aload_n K dX3_read_50 rfl 0 rfl ?_
          refine kx_cv0v K c_X3_48 ⟨by decide, by decide, rfl, rfl, (by decide), (by decide)⟩ (Nat.le_of_ble_eq_true rfl) dX3_read_51 hf (fun _ _ _ h => k_X3_advance h) (fun _ σ17 hf => ?_)
          refine kx_aload_n K dX3_read_54 rfl 0 rfl ?_
          refine kx_gi K f_X3_51 dX3_read_55 hf (fun x18 hf => ?_)
          refine kx_if_ne K 64 hf dX3_read_58 (by decide) (fun hf => ?_) (fun hf => ?_)
          · refine kx_aload_n K dX3_read_64 rfl 0 rfl ?_
            refine kx_cv0i K c_X3_54 ⟨by decide, by decide, rfl, rfl, (by decide), (by decide)⟩ (Nat.le_of_ble_eq_true rfl) dX3_read_65 hf (fun _ _ _ h => k_X3_readStatement h) (fun x20 σ19 hf => ?_)
            refine kx_istore_n K [(2, .int x20), (0, .ref a0), (3, .int v11)] dX3_read_68 rfl (by decide) rfl ?_
            refine kx_iinc (v := (v11 + 1)) K [(3, .int (v11 + 1)), (2, .int x20), (0, .ref a0)] dX3_read_69 2 rfl rfl (by decide) rfl ?_
            refine kx_goto K 39 dX3_read_72 (by decide) ?_
            refine kx_sub [(0, .ref a0), (2, .int x20), (3, .int (v11 + 1))] [2, 1, 0] rfl ?_
            exact ih39 _ _ _ hf
          · refine kx_goto K 75 dX3_read_61 (by decide) ?_
            refine kx_aload_n K dX3_read_75 rfl 0 rfl ?_
            refine kx_iconst (v := 0) K dX3_read_76 (by decide) ?_
            refine kx_pi K f_X3_26 dX3_read_77 hf (fun σ21 hf => ?_)
            refine kx_aload_n K dX3_read_80 rfl 0 rfl ?_
            refine kx_gi K f_X3_38 dX3_read_81 hf (fun x22 hf => ?_)
            exact kx_iret K hQ (by decide) (by decide) (fun _ h => h) dX3_read_84 hf
  unfold m_X3_read at hf
  refine kx_aload_n K dX3_read_0 rfl 0 rfl ?_
  refine kx_iload_n K dX3_read_1 rfl 1 rfl ?_
  refine kx_pi K f_X3_29 dX3_read_2 hf (fun σ1 hf => ?_)
  refine kx_aload_n K dX3_read_5 rfl 0 rfl ?_
  refine kx_iconst (v := 0) K dX3_read_6 (by decide) ?_
  refine kx_pi K f_X3_32 dX3_read_7 hf (fun σ2 hf => ?_)
  refine kx_aload_n K dX3_read_10 rfl 0 rfl ?_
  refine kx_iconst (v := 0) K dX3_read_11 (by decide) ?_
  refine kx_pi K f_X3_35 dX3_read_12 hf (fun σ3 hf => ?_)
  refine kx_aload_n K dX3_read_15 rfl 0 rfl ?_
  refine kx_iconst (v := 0) K dX3_read_16 (by decide) ?_
  refine kx_pi K f_X3_38 dX3_read_17 hf (fun σ4 hf => ?_)
  refine kx_aload_n K dX3_read_20 rfl 0 rfl ?_
  refine kx_iconst (v := -1) K dX3_read_21 (by decide) ?_
  refine kx_pi K f_X3_15 dX3_read_22 hf (fun σ5 hf => ?_)
  refine kx_aload_n K dX3_read_25 rfl 0 rfl ?_
  refine kx_gr K f_X3_22 dX3_read_26 hf (fun x6 hf => ?_)
  refine kx_cv0v K c_X3_41 ⟨by decide, by decide, rfl, rfl, (by decide), (by decide)⟩ (Nat.le_of_ble_eq_true rfl) dX3_read_29 hf (fun _ _ _ h => k_X0_begin h) (fun _ σ7 hf => ?_)
  refine kx_aload_n K dX3_read_32 rfl 0 rfl ?_
  refine kx_cv0i K c_X3_44 ⟨by decide, by decide, rfl, rfl, (by decide), (by decide)⟩ (Nat.le_of_ble_eq_true rfl) dX3_read_33 hf (fun _ _ _ h => k_X3_readHead h) (fun x9 σ8 hf => ?_)
  refine kx_istore_n K [(2, .int x9), (0, .ref a0), (1, .int a1)] dX3_read_36 rfl (by decide) rfl ?_
  refine kx_iconst (v := 0) K dX3_read_37 (by decide) ?_
  refine kx_istore_n K [(3, .int (0 : Int32)), (2, .int x9), (0, .ref a0), (1, .int a1)] dX3_read_38 rfl (by decide) rfl ?_
  refine kx_sub [(0, .ref a0), (2, .int x9), (3, .int (0 : Int32))] [2, 1, 0] rfl ?_
  exact B39 hN_f _ _ _ hf

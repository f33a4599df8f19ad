/-! THE START: what the Statement gives at the law's entry, as the words of part 10. -/
def nf_l : List Cond := flatC (Jvm.Cond.and given_1 narrow_1)
def nf_r (i : Nat) : Nat := if i = 0 then 0 else if i < 4 then i + 11 else if i < 12 then i else i + 3
def nf_t (i : Nat) : Term := .string (ac_Wr (nf_r i)).1 (ac_Wr (nf_r i)).2.1
def nf_x (i : Nat) : Term := .string RX6 (ac_Xr i).1
theorem nf_ex : ∀ i, i < 19 → Cond.exactly (nf_t i) "java/lang/String" ∈ nf_l := by decide +kernel
theorem nf_co : ∀ i, i < 19 → Cond.eq (.field (nf_t i) "java/lang/String" "coder" "B") (.int 0) ∈ nf_l := by decide +kernel
theorem nf_ar : ∀ i, i < 19 → Cond.arrayOf (.field (nf_t i) "java/lang/String" "value" "[B") .byte ∈ nf_l := by decide +kernel
theorem nf_le : ∀ i, i < 19 → Cond.eq (.length (.field (nf_t i) "java/lang/String" "value" "[B")) (.int (Int32.ofNat (ac_B i).length)) ∈ nf_l := by decide +kernel
theorem nf_el0 : ∀ j, j < (ac_B 0).length → Cond.eq (.elem (.field (nf_t 0) "java/lang/String" "value" "[B") (.int (Int32.ofNat j))) (.int ((ac_B 0).getD j 0)) ∈ nf_l := by decide +kernel
theorem nf_el1 : ∀ j, j < (ac_B 1).length → Cond.eq (.elem (.field (nf_t 1) "java/lang/String" "value" "[B") (.int (Int32.ofNat j))) (.int ((ac_B 1).getD j 0)) ∈ nf_l := by decide +kernel
theorem nf_el2 : ∀ j, j < (ac_B 2).length → Cond.eq (.elem (.field (nf_t 2) "java/lang/String" "value" "[B") (.int (Int32.ofNat j))) (.int ((ac_B 2).getD j 0)) ∈ nf_l := by decide +kernel
theorem nf_el3 : ∀ j, j < (ac_B 3).length → Cond.eq (.elem (.field (nf_t 3) "java/lang/String" "value" "[B") (.int (Int32.ofNat j))) (.int ((ac_B 3).getD j 0)) ∈ nf_l := by decide +kernel
theorem nf_el4 : ∀ j, j < (ac_B 4).length → Cond.eq (.elem (.field (nf_t 4) "java/lang/String" "value" "[B") (.int (Int32.ofNat j))) (.int ((ac_B 4).getD j 0)) ∈ nf_l := by decide +kernel
theorem nf_el5 : ∀ j, j < (ac_B 5).length → Cond.eq (.elem (.field (nf_t 5) "java/lang/String" "value" "[B") (.int (Int32.ofNat j))) (.int ((ac_B 5).getD j 0)) ∈ nf_l := by decide +kernel
theorem nf_el6 : ∀ j, j < (ac_B 6).length → Cond.eq (.elem (.field (nf_t 6) "java/lang/String" "value" "[B") (.int (Int32.ofNat j))) (.int ((ac_B 6).getD j 0)) ∈ nf_l := by decide +kernel
theorem nf_el7 : ∀ j, j < (ac_B 7).length → Cond.eq (.elem (.field (nf_t 7) "java/lang/String" "value" "[B") (.int (Int32.ofNat j))) (.int ((ac_B 7).getD j 0)) ∈ nf_l := by decide +kernel
theorem nf_el8 : ∀ j, j < (ac_B 8).length → Cond.eq (.elem (.field (nf_t 8) "java/lang/String" "value" "[B") (.int (Int32.ofNat j))) (.int ((ac_B 8).getD j 0)) ∈ nf_l := by decide +kernel
theorem nf_el9 : ∀ j, j < (ac_B 9).length → Cond.eq (.elem (.field (nf_t 9) "java/lang/String" "value" "[B") (.int (Int32.ofNat j))) (.int ((ac_B 9).getD j 0)) ∈ nf_l := by decide +kernel
theorem nf_el10 : ∀ j, j < (ac_B 10).length → Cond.eq (.elem (.field (nf_t 10) "java/lang/String" "value" "[B") (.int (Int32.ofNat j))) (.int ((ac_B 10).getD j 0)) ∈ nf_l := by decide +kernel
theorem nf_el11 : ∀ j, j < (ac_B 11).length → Cond.eq (.elem (.field (nf_t 11) "java/lang/String" "value" "[B") (.int (Int32.ofNat j))) (.int ((ac_B 11).getD j 0)) ∈ nf_l := by decide +kernel
theorem nf_el12 : ∀ j, j < (ac_B 12).length → Cond.eq (.elem (.field (nf_t 12) "java/lang/String" "value" "[B") (.int (Int32.ofNat j))) (.int ((ac_B 12).getD j 0)) ∈ nf_l := by decide +kernel
theorem nf_el13 : ∀ j, j < (ac_B 13).length → Cond.eq (.elem (.field (nf_t 13) "java/lang/String" "value" "[B") (.int (Int32.ofNat j))) (.int ((ac_B 13).getD j 0)) ∈ nf_l := by decide +kernel
theorem nf_el14 : ∀ j, j < (ac_B 14).length → Cond.eq (.elem (.field (nf_t 14) "java/lang/String" "value" "[B") (.int (Int32.ofNat j))) (.int ((ac_B 14).getD j 0)) ∈ nf_l := by decide +kernel
theorem nf_el15 : ∀ j, j < (ac_B 15).length → Cond.eq (.elem (.field (nf_t 15) "java/lang/String" "value" "[B") (.int (Int32.ofNat j))) (.int ((ac_B 15).getD j 0)) ∈ nf_l := by decide +kernel
theorem nf_el16 : ∀ j, j < (ac_B 16).length → Cond.eq (.elem (.field (nf_t 16) "java/lang/String" "value" "[B") (.int (Int32.ofNat j))) (.int ((ac_B 16).getD j 0)) ∈ nf_l := by decide +kernel
theorem nf_el17 : ∀ j, j < (ac_B 17).length → Cond.eq (.elem (.field (nf_t 17) "java/lang/String" "value" "[B") (.int (Int32.ofNat j))) (.int ((ac_B 17).getD j 0)) ∈ nf_l := by decide +kernel
theorem nf_el18 : ∀ j, j < (ac_B 18).length → Cond.eq (.elem (.field (nf_t 18) "java/lang/String" "value" "[B") (.int (Int32.ofNat j))) (.int ((ac_B 18).getD j 0)) ∈ nf_l := by decide +kernel
theorem nf_sm1 : Cond.eq (nf_t 1) (.string (ac_Wr 1).1 (ac_Wr 1).2.1) ∈ nf_l := by decide +kernel
theorem nf_sm2 : Cond.eq (nf_t 2) (.string (ac_Wr 2).1 (ac_Wr 2).2.1) ∈ nf_l := by decide +kernel
theorem nf_sm3 : Cond.eq (nf_t 3) (.string (ac_Wr 3).1 (ac_Wr 3).2.1) ∈ nf_l := by decide +kernel
theorem nf_xx : ∀ i, i < 11 → Cond.exactly (nf_x i) "java/lang/String" ∈ nf_l := by decide +kernel
theorem nf_ta0 : Cond.arrayOf (.static "FaultBench" "FIRST_VALUE" "[I") .int ∈ nf_l ∧ Cond.eq (.length (.static "FaultBench" "FIRST_VALUE" "[I")) (.int 8) ∈ nf_l := by decide +kernel
theorem nf_te0 : ∀ j, j < 8 → Cond.eq (.elem (.static "FaultBench" "FIRST_VALUE" "[I") (.int (Int32.ofNat j))) (.int ((ac_T 0).getD j 0)) ∈ nf_l := by decide +kernel
theorem nf_ta1 : Cond.arrayOf (.static "FaultBench" "LEAST_VALUE" "[I") .int ∈ nf_l ∧ Cond.eq (.length (.static "FaultBench" "LEAST_VALUE" "[I")) (.int 8) ∈ nf_l := by decide +kernel
theorem nf_te1 : ∀ j, j < 8 → Cond.eq (.elem (.static "FaultBench" "LEAST_VALUE" "[I") (.int (Int32.ofNat j))) (.int ((ac_T 1).getD j 0)) ∈ nf_l := by decide +kernel
theorem nf_ta2 : Cond.arrayOf (.static "FaultBench" "MOST_VALUE" "[I") .int ∈ nf_l ∧ Cond.eq (.length (.static "FaultBench" "MOST_VALUE" "[I")) (.int 8) ∈ nf_l := by decide +kernel
theorem nf_te2 : ∀ j, j < 8 → Cond.eq (.elem (.static "FaultBench" "MOST_VALUE" "[I") (.int (Int32.ofNat j))) (.int ((ac_T 2).getD j 0)) ∈ nf_l := by decide +kernel
theorem nf_da0 : Cond.arrayOf (.static "java/lang/Integer" "DigitOnes" "[B") .byte ∈ nf_l ∧ Cond.eq (.length (.static "java/lang/Integer" "DigitOnes" "[B")) (.int 100) ∈ nf_l := by decide +kernel
theorem nf_de0_0 : ∀ j, j < 20 → nf_l[23 + j]? = some (Cond.eq (.elem (.static "java/lang/Integer" "DigitOnes" "[B") (.int (Int32.ofNat (0 + j)))) (.int (ac_D 0 (0 + j)))) := by decide +kernel
theorem nf_de0_1 : ∀ j, j < 20 → nf_l[43 + j]? = some (Cond.eq (.elem (.static "java/lang/Integer" "DigitOnes" "[B") (.int (Int32.ofNat (20 + j)))) (.int (ac_D 0 (20 + j)))) := by decide +kernel
theorem nf_de0_2 : ∀ j, j < 20 → nf_l[63 + j]? = some (Cond.eq (.elem (.static "java/lang/Integer" "DigitOnes" "[B") (.int (Int32.ofNat (40 + j)))) (.int (ac_D 0 (40 + j)))) := by decide +kernel
theorem nf_de0_3 : ∀ j, j < 20 → nf_l[83 + j]? = some (Cond.eq (.elem (.static "java/lang/Integer" "DigitOnes" "[B") (.int (Int32.ofNat (60 + j)))) (.int (ac_D 0 (60 + j)))) := by decide +kernel
theorem nf_de0_4 : ∀ j, j < 20 → nf_l[103 + j]? = some (Cond.eq (.elem (.static "java/lang/Integer" "DigitOnes" "[B") (.int (Int32.ofNat (80 + j)))) (.int (ac_D 0 (80 + j)))) := by decide +kernel
theorem nf_de0 : ∀ j, j < 100 → Cond.eq (.elem (.static "java/lang/Integer" "DigitOnes" "[B") (.int (Int32.ofNat j))) (.int (ac_D 0 j)) ∈ nf_l := by
  intro j hj
  rcases (show j < 20 ∨ (20 ≤ j ∧ j < 40) ∨ (40 ≤ j ∧ j < 60) ∨ (60 ≤ j ∧ j < 80) ∨ 80 ≤ j by omega) with h | h | h | h | h
  · have e := nf_de0_0 (j - 0) (by omega)
    rw [show 0 + (j - 0) = j by omega] at e
    exact List.mem_of_getElem? e
  · have e := nf_de0_1 (j - 20) (by omega)
    rw [show 20 + (j - 20) = j by omega] at e
    exact List.mem_of_getElem? e
  · have e := nf_de0_2 (j - 40) (by omega)
    rw [show 40 + (j - 40) = j by omega] at e
    exact List.mem_of_getElem? e
  · have e := nf_de0_3 (j - 60) (by omega)
    rw [show 60 + (j - 60) = j by omega] at e
    exact List.mem_of_getElem? e
  · have e := nf_de0_4 (j - 80) (by omega)
    rw [show 80 + (j - 80) = j by omega] at e
    exact List.mem_of_getElem? e
theorem nf_da1 : Cond.arrayOf (.static "java/lang/Integer" "DigitTens" "[B") .byte ∈ nf_l ∧ Cond.eq (.length (.static "java/lang/Integer" "DigitTens" "[B")) (.int 100) ∈ nf_l := by decide +kernel
theorem nf_de1_0 : ∀ j, j < 20 → nf_l[126 + j]? = some (Cond.eq (.elem (.static "java/lang/Integer" "DigitTens" "[B") (.int (Int32.ofNat (0 + j)))) (.int (ac_D 1 (0 + j)))) := by decide +kernel
theorem nf_de1_1 : ∀ j, j < 20 → nf_l[146 + j]? = some (Cond.eq (.elem (.static "java/lang/Integer" "DigitTens" "[B") (.int (Int32.ofNat (20 + j)))) (.int (ac_D 1 (20 + j)))) := by decide +kernel
theorem nf_de1_2 : ∀ j, j < 20 → nf_l[166 + j]? = some (Cond.eq (.elem (.static "java/lang/Integer" "DigitTens" "[B") (.int (Int32.ofNat (40 + j)))) (.int (ac_D 1 (40 + j)))) := by decide +kernel
theorem nf_de1_3 : ∀ j, j < 20 → nf_l[186 + j]? = some (Cond.eq (.elem (.static "java/lang/Integer" "DigitTens" "[B") (.int (Int32.ofNat (60 + j)))) (.int (ac_D 1 (60 + j)))) := by decide +kernel
theorem nf_de1_4 : ∀ j, j < 20 → nf_l[206 + j]? = some (Cond.eq (.elem (.static "java/lang/Integer" "DigitTens" "[B") (.int (Int32.ofNat (80 + j)))) (.int (ac_D 1 (80 + j)))) := by decide +kernel
theorem nf_de1 : ∀ j, j < 100 → Cond.eq (.elem (.static "java/lang/Integer" "DigitTens" "[B") (.int (Int32.ofNat j))) (.int (ac_D 1 j)) ∈ nf_l := by
  intro j hj
  rcases (show j < 20 ∨ (20 ≤ j ∧ j < 40) ∨ (40 ≤ j ∧ j < 60) ∨ (60 ≤ j ∧ j < 80) ∨ 80 ≤ j by omega) with h | h | h | h | h
  · have e := nf_de1_0 (j - 0) (by omega)
    rw [show 0 + (j - 0) = j by omega] at e
    exact List.mem_of_getElem? e
  · have e := nf_de1_1 (j - 20) (by omega)
    rw [show 20 + (j - 20) = j by omega] at e
    exact List.mem_of_getElem? e
  · have e := nf_de1_2 (j - 40) (by omega)
    rw [show 40 + (j - 40) = j by omega] at e
    exact List.mem_of_getElem? e
  · have e := nf_de1_3 (j - 60) (by omega)
    rw [show 60 + (j - 60) = j by omega] at e
    exact List.mem_of_getElem? e
  · have e := nf_de1_4 (j - 80) (by omega)
    rw [show 80 + (j - 80) = j by omega] at e
    exact List.mem_of_getElem? e
theorem nf_cs : Cond.eq (.static "java/lang/String" "COMPACT_STRINGS" "Z") (.int 1) ∈ nf_l := by decide +kernel
theorem nf_sf : Cond.isRef (.static "jdk/internal/util/Preconditions" "SIOOBE_FORMATTER" "Ljava/util/function/BiFunction;") ∈ nf_l := by decide +kernel
theorem nf_us : Cond.isRef (.static Bundle.tN "UNASSIGNED_STACK" Bundle.steD) ∈ nf_l := by decide +kernel
theorem nf_ss : Cond.isRef (.static Bundle.tN "SUPPRESSED_SENTINEL" Bundle.listD) ∈ nf_l := by decide +kernel

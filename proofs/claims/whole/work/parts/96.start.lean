/-! THE START: what the Statement gives at the law's entry, as the words of part 10. -/
def nf_l : List Cond := flatC (Jvm.Cond.and given_1 narrow_1)
def nf_t (i : Nat) : Term := .string (ac_Wr i).1 (ac_Wr i).2.1
def nf_x (i : Nat) : Term := .string RX6 (ac_Xr i).1
theorem nf_ex : ∀ i, i < 11 → Cond.exactly (nf_t i) "java/lang/String" ∈ nf_l := by decide +kernel
theorem nf_co : ∀ i, i < 11 → Cond.eq (.field (nf_t i) "java/lang/String" "coder" "B") (.int 0) ∈ nf_l := by decide +kernel
theorem nf_ar : ∀ i, i < 11 → Cond.arrayOf (.field (nf_t i) "java/lang/String" "value" "[B") .byte ∈ nf_l := by decide +kernel
theorem nf_le : ∀ i, i < 11 → Cond.eq (.length (.field (nf_t i) "java/lang/String" "value" "[B")) (.int (Int32.ofNat (ac_B i).length)) ∈ nf_l := by decide +kernel
theorem nf_el0 : ∀ j, j < (ac_B 0).length → Cond.eq (.elem (.field (nf_t 0) "java/lang/String" "value" "[B") (.int (Int32.ofNat j))) (.int ((ac_B 0).getD j 0)) ∈ nf_l := by decide +kernel
theorem nf_el1 : ∀ j, j < (ac_B 1).length → Cond.eq (.elem (.field (nf_t 1) "java/lang/String" "value" "[B") (.int (Int32.ofNat j))) (.int ((ac_B 1).getD j 0)) ∈ nf_l := by decide +kernel
theorem nf_el2 : ∀ j, j < (ac_B 2).length → Cond.eq (.elem (.field (nf_t 2) "java/lang/String" "value" "[B") (.int (Int32.ofNat j))) (.int ((ac_B 2).getD j 0)) ∈ nf_l := by decide +kernel
theorem nf_el3 : ∀ j, j < (ac_B 3).length → Cond.eq (.elem (.field (nf_t 3) "java/lang/String" "value" "[B") (.int (Int32.ofNat j))) (.int ((ac_B 3).getD j 0)) ∈ nf_l := by decide +kernel
theorem nf_el4 : ∀ j, j < (ac_B 4).length → Cond.eq (.elem (.field (nf_t 4) "java/lang/String" "value" "[B") (.int (Int32.ofNat j))) (.int ((ac_B 4).getD j 0)) ∈ nf_l := by decide +kernel
theorem nf_el5 : ∀ j, j < (ac_B 5).length → Cond.eq (.elem (.field (nf_t 5) "java/lang/String" "value" "[B") (.int (Int32.ofNat j))) (.int ((ac_B 5).getD j 0)) ∈ nf_l := by decide +kernel
theorem nf_el6 : ∀ j, j < (ac_B 6).length → Cond.eq (.elem (.field (nf_t 6) "java/lang/String" "value" "[B") (.int (Int32.ofNat j))) (.int ((ac_B 6).getD j 0)) ∈ nf_l := by decide +kernel
theorem nf_el7 : ∀ j, j < (ac_B 7).length → Cond.eq (.elem (.field (nf_t 7) "java/lang/String" "value" "[B") (.int (Int32.ofNat j))) (.int ((ac_B 7).getD j 0)) ∈ nf_l := by decide +kernel
theorem nf_el8 : ∀ j, j < (ac_B 8).length → Cond.eq (.elem (.field (nf_t 8) "java/lang/String" "value" "[B") (.int (Int32.ofNat j))) (.int ((ac_B 8).getD j 0)) ∈ nf_l := by decide +kernel
theorem nf_el9 : ∀ j, j < (ac_B 9).length → Cond.eq (.elem (.field (nf_t 9) "java/lang/String" "value" "[B") (.int (Int32.ofNat j))) (.int ((ac_B 9).getD j 0)) ∈ nf_l := by decide +kernel
theorem nf_el10 : ∀ j, j < (ac_B 10).length → Cond.eq (.elem (.field (nf_t 10) "java/lang/String" "value" "[B") (.int (Int32.ofNat j))) (.int ((ac_B 10).getD j 0)) ∈ nf_l := by decide +kernel
theorem nf_sm11 : Cond.eq (nf_t 4) (nf_t 11) ∈ nf_l := by decide +kernel
theorem nf_sm12 : Cond.eq (nf_t 5) (nf_t 12) ∈ nf_l := by decide +kernel
theorem nf_sm13 : Cond.eq (nf_t 6) (nf_t 13) ∈ nf_l := by decide +kernel
theorem nf_sm14 : Cond.eq (nf_t 7) (nf_t 14) ∈ nf_l := by decide +kernel
theorem nf_sm15 : Cond.eq (nf_t 8) (nf_t 15) ∈ nf_l := by decide +kernel
theorem nf_sm16 : Cond.eq (nf_t 9) (nf_t 16) ∈ nf_l := by decide +kernel
theorem nf_sm17 : Cond.eq (nf_t 10) (nf_t 17) ∈ nf_l := by decide +kernel
theorem nf_sm18 : Cond.eq (nf_t 0) (nf_t 18) ∈ nf_l := by decide +kernel
theorem nf_sm19 : Cond.eq (nf_t 1) (nf_t 19) ∈ nf_l := by decide +kernel
theorem nf_sm20 : Cond.eq (nf_t 2) (nf_t 20) ∈ nf_l := by decide +kernel
theorem nf_sm21 : Cond.eq (nf_t 3) (nf_t 21) ∈ nf_l := by decide +kernel
theorem nf_xx : ∀ i, i < 13 → Cond.exactly (nf_x i) "java/lang/String" ∈ nf_l := by decide +kernel
theorem nf_ta0 : Cond.arrayOf (.static "FaultBench" "FIRST_VALUE" "[I") .int ∈ nf_l ∧ Cond.eq (.length (.static "FaultBench" "FIRST_VALUE" "[I")) (.int 8) ∈ nf_l := by decide +kernel
theorem nf_te0 : ∀ j, j < 8 → Cond.eq (.elem (.static "FaultBench" "FIRST_VALUE" "[I") (.int (Int32.ofNat j))) (.int ((ac_T 0).getD j 0)) ∈ nf_l := by decide +kernel
theorem nf_ta1 : Cond.arrayOf (.static "FaultBench" "LEAST_VALUE" "[I") .int ∈ nf_l ∧ Cond.eq (.length (.static "FaultBench" "LEAST_VALUE" "[I")) (.int 8) ∈ nf_l := by decide +kernel
theorem nf_te1 : ∀ j, j < 8 → Cond.eq (.elem (.static "FaultBench" "LEAST_VALUE" "[I") (.int (Int32.ofNat j))) (.int ((ac_T 1).getD j 0)) ∈ nf_l := by decide +kernel
theorem nf_ta2 : Cond.arrayOf (.static "FaultBench" "MOST_VALUE" "[I") .int ∈ nf_l ∧ Cond.eq (.length (.static "FaultBench" "MOST_VALUE" "[I")) (.int 8) ∈ nf_l := by decide +kernel
theorem nf_te2 : ∀ j, j < 8 → Cond.eq (.elem (.static "FaultBench" "MOST_VALUE" "[I") (.int (Int32.ofNat j))) (.int ((ac_T 2).getD j 0)) ∈ nf_l := by decide +kernel
theorem nf_cs : Cond.eq (.static "java/lang/String" "COMPACT_STRINGS" "Z") (.int 1) ∈ nf_l := by decide +kernel
theorem nf_sf : Cond.isRef (.static "jdk/internal/util/Preconditions" "SIOOBE_FORMATTER" "Ljava/util/function/BiFunction;") ∈ nf_l := by decide +kernel
theorem nf_us : Cond.isRef (.static Bundle.tN "UNASSIGNED_STACK" Bundle.steD) ∈ nf_l := by decide +kernel
theorem nf_ss : Cond.isRef (.static Bundle.tN "SUPPRESSED_SENTINEL" Bundle.listD) ∈ nf_l := by decide +kernel
theorem nf_nc0 : Cond.not (.castable "java/lang/IllegalArgumentException" "java/lang/IndexOutOfBoundsException") ∈ nf_l := by decide +kernel
theorem nf_nc1 : Cond.not (.castable "java/lang/IllegalStateException" "java/lang/IllegalArgumentException") ∈ nf_l := by decide +kernel
theorem nf_nc2 : Cond.not (.castable "java/lang/IllegalStateException" "java/lang/IndexOutOfBoundsException") ∈ nf_l := by decide +kernel
theorem ts_w0 : Cond.stringRef (ac_Wr 0).1 (ac_Wr 0).2.1 (ac_Bs (ac_Wr 0).2.2) ∈ lw_tbl := List.mem_append_right _ (List.mem_append_right _ (List.mem_append_right _ (List.mem_append_left _ (List.mem_of_getElem? (i := 108) rfl))))
theorem ts_w1 : Cond.stringRef (ac_Wr 1).1 (ac_Wr 1).2.1 (ac_Bs (ac_Wr 1).2.2) ∈ lw_tbl := List.mem_append_right _ (List.mem_append_right _ (List.mem_append_right _ (List.mem_append_left _ (List.mem_of_getElem? (i := 169) rfl))))
theorem ts_w2 : Cond.stringRef (ac_Wr 2).1 (ac_Wr 2).2.1 (ac_Bs (ac_Wr 2).2.2) ∈ lw_tbl := List.mem_append_right _ (List.mem_append_right _ (List.mem_append_right _ (List.mem_append_left _ (List.mem_of_getElem? (i := 170) rfl))))
theorem ts_w3 : Cond.stringRef (ac_Wr 3).1 (ac_Wr 3).2.1 (ac_Bs (ac_Wr 3).2.2) ∈ lw_tbl := List.mem_append_right _ (List.mem_append_right _ (List.mem_append_right _ (List.mem_append_left _ (List.mem_of_getElem? (i := 171) rfl))))
theorem ts_w4 : Cond.stringRef (ac_Wr 4).1 (ac_Wr 4).2.1 (ac_Bs (ac_Wr 4).2.2) ∈ lw_tbl := List.mem_append_right _ (List.mem_append_right _ (List.mem_append_right _ (List.mem_append_left _ (List.mem_of_getElem? (i := 200) rfl))))
theorem ts_w5 : Cond.stringRef (ac_Wr 5).1 (ac_Wr 5).2.1 (ac_Bs (ac_Wr 5).2.2) ∈ lw_tbl := List.mem_append_right _ (List.mem_append_right _ (List.mem_append_right _ (List.mem_append_left _ (List.mem_of_getElem? (i := 201) rfl))))
theorem ts_w6 : Cond.stringRef (ac_Wr 6).1 (ac_Wr 6).2.1 (ac_Bs (ac_Wr 6).2.2) ∈ lw_tbl := List.mem_append_right _ (List.mem_append_right _ (List.mem_append_right _ (List.mem_append_left _ (List.mem_of_getElem? (i := 202) rfl))))
theorem ts_w7 : Cond.stringRef (ac_Wr 7).1 (ac_Wr 7).2.1 (ac_Bs (ac_Wr 7).2.2) ∈ lw_tbl := List.mem_append_right _ (List.mem_append_right _ (List.mem_append_right _ (List.mem_append_left _ (List.mem_of_getElem? (i := 203) rfl))))
theorem ts_w8 : Cond.stringRef (ac_Wr 8).1 (ac_Wr 8).2.1 (ac_Bs (ac_Wr 8).2.2) ∈ lw_tbl := List.mem_append_right _ (List.mem_append_right _ (List.mem_append_right _ (List.mem_append_left _ (List.mem_of_getElem? (i := 212) rfl))))
theorem ts_w9 : Cond.stringRef (ac_Wr 9).1 (ac_Wr 9).2.1 (ac_Bs (ac_Wr 9).2.2) ∈ lw_tbl := List.mem_append_right _ (List.mem_append_right _ (List.mem_append_right _ (List.mem_append_left _ (List.mem_of_getElem? (i := 213) rfl))))
theorem ts_w10 : Cond.stringRef (ac_Wr 10).1 (ac_Wr 10).2.1 (ac_Bs (ac_Wr 10).2.2) ∈ lw_tbl := List.mem_append_right _ (List.mem_append_right _ (List.mem_append_right _ (List.mem_append_left _ (List.mem_of_getElem? (i := 214) rfl))))
theorem ts_w11 : Cond.stringRef (ac_Wr 11).1 (ac_Wr 11).2.1 (ac_Bs (ac_Wr 11).2.2) ∈ lw_tbl := List.mem_append_right _ (List.mem_append_right _ (List.mem_append_right _ (List.mem_append_right _ (List.mem_append_right _ (List.mem_append_left _ (List.mem_of_getElem? (i := 209) rfl))))))
theorem ts_w12 : Cond.stringRef (ac_Wr 12).1 (ac_Wr 12).2.1 (ac_Bs (ac_Wr 12).2.2) ∈ lw_tbl := List.mem_append_right _ (List.mem_append_right _ (List.mem_append_right _ (List.mem_append_right _ (List.mem_append_right _ (List.mem_append_left _ (List.mem_of_getElem? (i := 214) rfl))))))
theorem ts_w13 : Cond.stringRef (ac_Wr 13).1 (ac_Wr 13).2.1 (ac_Bs (ac_Wr 13).2.2) ∈ lw_tbl := List.mem_append_right _ (List.mem_append_right _ (List.mem_append_right _ (List.mem_append_right _ (List.mem_append_right _ (List.mem_append_left _ (List.mem_of_getElem? (i := 215) rfl))))))
theorem ts_w14 : Cond.stringRef (ac_Wr 14).1 (ac_Wr 14).2.1 (ac_Bs (ac_Wr 14).2.2) ∈ lw_tbl := List.mem_append_right _ (List.mem_append_right _ (List.mem_append_right _ (List.mem_append_right _ (List.mem_append_right _ (List.mem_append_left _ (List.mem_of_getElem? (i := 216) rfl))))))
theorem ts_w15 : Cond.stringRef (ac_Wr 15).1 (ac_Wr 15).2.1 (ac_Bs (ac_Wr 15).2.2) ∈ lw_tbl := List.mem_append_right _ (List.mem_append_right _ (List.mem_append_right _ (List.mem_append_right _ (List.mem_append_right _ (List.mem_append_left _ (List.mem_of_getElem? (i := 217) rfl))))))
theorem ts_w16 : Cond.stringRef (ac_Wr 16).1 (ac_Wr 16).2.1 (ac_Bs (ac_Wr 16).2.2) ∈ lw_tbl := List.mem_append_right _ (List.mem_append_right _ (List.mem_append_right _ (List.mem_append_right _ (List.mem_append_right _ (List.mem_append_left _ (List.mem_of_getElem? (i := 231) rfl))))))
theorem ts_w17 : Cond.stringRef (ac_Wr 17).1 (ac_Wr 17).2.1 (ac_Bs (ac_Wr 17).2.2) ∈ lw_tbl := List.mem_append_right _ (List.mem_append_right _ (List.mem_append_right _ (List.mem_append_right _ (List.mem_append_right _ (List.mem_append_left _ (List.mem_of_getElem? (i := 232) rfl))))))
theorem ts_w18 : Cond.stringRef (ac_Wr 18).1 (ac_Wr 18).2.1 (ac_Bs (ac_Wr 18).2.2) ∈ lw_tbl := List.mem_append_right _ (List.mem_append_right _ (List.mem_append_right _ (List.mem_append_right _ (List.mem_append_right _ (List.mem_append_left _ (List.mem_of_getElem? (i := 169) rfl))))))
theorem ts_w19 : Cond.stringRef (ac_Wr 19).1 (ac_Wr 19).2.1 (ac_Bs (ac_Wr 19).2.2) ∈ lw_tbl := List.mem_append_right _ (List.mem_append_right _ (List.mem_append_right _ (List.mem_append_right _ (List.mem_append_right _ (List.mem_append_left _ (List.mem_of_getElem? (i := 184) rfl))))))
theorem ts_w20 : Cond.stringRef (ac_Wr 20).1 (ac_Wr 20).2.1 (ac_Bs (ac_Wr 20).2.2) ∈ lw_tbl := List.mem_append_right _ (List.mem_append_right _ (List.mem_append_right _ (List.mem_append_right _ (List.mem_append_right _ (List.mem_append_left _ (List.mem_of_getElem? (i := 185) rfl))))))
theorem ts_w21 : Cond.stringRef (ac_Wr 21).1 (ac_Wr 21).2.1 (ac_Bs (ac_Wr 21).2.2) ∈ lw_tbl := List.mem_append_right _ (List.mem_append_right _ (List.mem_append_right _ (List.mem_append_right _ (List.mem_append_right _ (List.mem_append_left _ (List.mem_of_getElem? (i := 186) rfl))))))
theorem ts_x0 : Cond.stringRef RX6 (ac_Xr 0).1 (ac_Xr 0).2 ∈ lw_tbl := List.mem_append_right _ (List.mem_append_right _ (List.mem_append_right _ (List.mem_append_left _ (List.mem_of_getElem? (i := 55) rfl))))
theorem ts_x1 : Cond.stringRef RX6 (ac_Xr 1).1 (ac_Xr 1).2 ∈ lw_tbl := List.mem_append_right _ (List.mem_append_right _ (List.mem_append_right _ (List.mem_append_left _ (List.mem_of_getElem? (i := 234) rfl))))
theorem ts_x2 : Cond.stringRef RX6 (ac_Xr 2).1 (ac_Xr 2).2 ∈ lw_tbl := List.mem_append_right _ (List.mem_append_right _ (List.mem_append_right _ (List.mem_append_right _ (List.mem_append_left _ (List.mem_of_getElem? (i := 23) rfl)))))
theorem ts_x3 : Cond.stringRef RX6 (ac_Xr 3).1 (ac_Xr 3).2 ∈ lw_tbl := List.mem_append_right _ (List.mem_append_right _ (List.mem_append_right _ (List.mem_append_right _ (List.mem_append_left _ (List.mem_of_getElem? (i := 32) rfl)))))
theorem ts_x4 : Cond.stringRef RX6 (ac_Xr 4).1 (ac_Xr 4).2 ∈ lw_tbl := List.mem_append_right _ (List.mem_append_right _ (List.mem_append_right _ (List.mem_append_right _ (List.mem_append_left _ (List.mem_of_getElem? (i := 65) rfl)))))
theorem ts_x5 : Cond.stringRef RX6 (ac_Xr 5).1 (ac_Xr 5).2 ∈ lw_tbl := List.mem_append_right _ (List.mem_append_right _ (List.mem_append_right _ (List.mem_append_right _ (List.mem_append_left _ (List.mem_of_getElem? (i := 179) rfl)))))
theorem ts_x6 : Cond.stringRef RX6 (ac_Xr 6).1 (ac_Xr 6).2 ∈ lw_tbl := List.mem_append_right _ (List.mem_append_right _ (List.mem_append_right _ (List.mem_append_right _ (List.mem_append_left _ (List.mem_of_getElem? (i := 190) rfl)))))
theorem ts_x7 : Cond.stringRef RX6 (ac_Xr 7).1 (ac_Xr 7).2 ∈ lw_tbl := List.mem_append_right _ (List.mem_append_right _ (List.mem_append_right _ (List.mem_append_right _ (List.mem_append_left _ (List.mem_of_getElem? (i := 212) rfl)))))
theorem ts_x8 : Cond.stringRef RX6 (ac_Xr 8).1 (ac_Xr 8).2 ∈ lw_tbl := List.mem_append_right _ (List.mem_append_right _ (List.mem_append_right _ (List.mem_append_right _ (List.mem_append_left _ (List.mem_of_getElem? (i := 220) rfl)))))
theorem ts_x9 : Cond.stringRef RX6 (ac_Xr 9).1 (ac_Xr 9).2 ∈ lw_tbl := List.mem_append_right _ (List.mem_append_right _ (List.mem_append_right _ (List.mem_append_right _ (List.mem_append_right _ (List.mem_append_left _ (List.mem_of_getElem? (i := 3) rfl))))))
theorem ts_x10 : Cond.stringRef RX6 (ac_Xr 10).1 (ac_Xr 10).2 ∈ lw_tbl := List.mem_append_right _ (List.mem_append_right _ (List.mem_append_right _ (List.mem_append_right _ (List.mem_append_left _ (List.mem_of_getElem? (i := 16) rfl)))))
theorem ts_x11 : Cond.stringRef RX6 (ac_Xr 11).1 (ac_Xr 11).2 ∈ lw_tbl := List.mem_append_right _ (List.mem_append_right _ (List.mem_append_right _ (List.mem_append_right _ (List.mem_append_left _ (List.mem_of_getElem? (i := 77) rfl)))))
theorem ts_x12 : Cond.stringRef RX6 (ac_Xr 12).1 (ac_Xr 12).2 ∈ lw_tbl := List.mem_append_right _ (List.mem_append_right _ (List.mem_append_right _ (List.mem_append_right _ (List.mem_append_left _ (List.mem_of_getElem? (i := 235) rfl)))))
theorem ts_n0 : Cond.fieldLinkNest RX0 35 "FaultBench" "FIRST_VALUE" "[I" "FaultBench" ∈ lw_tbl := List.mem_append_right _ (List.mem_append_left _ (List.mem_of_getElem? (i := 69) rfl))
theorem ts_n1 : Cond.fieldLinkNest RX3 104 "FaultBench" "LEAST_VALUE" "[I" "FaultBench" ∈ lw_tbl := List.mem_append_right _ (List.mem_append_right _ (List.mem_append_right _ (List.mem_append_left _ (List.mem_of_getElem? (i := 180) rfl))))
theorem ts_n2 : Cond.fieldLinkNest RX3 107 "FaultBench" "MOST_VALUE" "[I" "FaultBench" ∈ lw_tbl := List.mem_append_right _ (List.mem_append_right _ (List.mem_append_right _ (List.mem_append_left _ (List.mem_of_getElem? (i := 182) rfl))))
theorem ts_ao : Cond.arrayOver (.object RX0) ∈ lw_tbl := List.mem_append_right _ (List.mem_append_right _ (List.mem_append_left _ (List.mem_of_getElem? (i := 1) rfl)))
theorem ts_k0 : ac_Nw 0 ∈ lw_tbl := List.mem_append_right _ (List.mem_append_right _ (List.mem_append_right _ (List.mem_append_left _ (List.mem_of_getElem? (i := 16) rfl))))
theorem ts_k1 : ac_Nw 1 ∈ lw_tbl := List.mem_append_right _ (List.mem_append_right _ (List.mem_append_right _ (List.mem_append_right _ (List.mem_append_left _ (List.mem_of_getElem? (i := 183) rfl)))))
theorem ts_k2 : ac_Nw 2 ∈ lw_tbl := List.mem_append_right _ (List.mem_append_right _ (List.mem_append_right _ (List.mem_append_right _ (List.mem_append_left _ (List.mem_of_getElem? (i := 9) rfl)))))
theorem ts_k3 : ac_Nw 3 ∈ lw_tbl := List.mem_append_right _ (List.mem_append_right _ (List.mem_append_right _ (List.mem_append_left _ (List.mem_of_getElem? (i := 18) rfl))))
theorem ts_k4 : ac_Nw 4 ∈ lw_tbl := List.mem_append_right _ (List.mem_append_right _ (List.mem_append_right _ (List.mem_append_left _ (List.mem_of_getElem? (i := 20) rfl))))
theorem ts_k5 : ac_Nw 5 ∈ lw_tbl := List.mem_append_right _ (List.mem_append_right _ (List.mem_append_right _ (List.mem_append_left _ (List.mem_of_getElem? (i := 22) rfl))))
theorem ts_lFIRST_VALUE : Cond.laysStatic "FaultBench" "FIRST_VALUE" "[I" ∈ lw_tbl := List.mem_append_right _ (List.mem_append_left _ (List.mem_of_getElem? (i := 70) rfl))
theorem ts_lLEAST_VALUE : Cond.laysStatic "FaultBench" "LEAST_VALUE" "[I" ∈ lw_tbl := List.mem_append_right _ (List.mem_append_right _ (List.mem_append_right _ (List.mem_append_left _ (List.mem_of_getElem? (i := 181) rfl))))
theorem ts_lMOST_VALUE : Cond.laysStatic "FaultBench" "MOST_VALUE" "[I" ∈ lw_tbl := List.mem_append_right _ (List.mem_append_right _ (List.mem_append_right _ (List.mem_append_left _ (List.mem_of_getElem? (i := 183) rfl))))
theorem ts_lc : Cond.laysStatic "java/lang/String" "COMPACT_STRINGS" "Z" ∈ lw_tbl := List.mem_append_right _ (List.mem_append_right _ (List.mem_append_right _ (List.mem_append_left _ (List.mem_of_getElem? (i := 122) rfl))))
theorem ts_lf : Cond.laysStatic "jdk/internal/util/Preconditions" "SIOOBE_FORMATTER" "Ljava/util/function/BiFunction;" ∈ lw_tbl := List.mem_append_right _ (List.mem_append_right _ (List.mem_append_right _ (List.mem_append_left _ (List.mem_of_getElem? (i := 138) rfl))))
theorem ts_lu : Cond.laysStatic Bundle.tN "UNASSIGNED_STACK" Bundle.steD ∈ lw_tbl := List.mem_append_right _ (List.mem_append_right _ (List.mem_append_right _ (List.mem_append_left _ (List.mem_of_getElem? (i := 41) rfl))))
theorem ts_ls : Cond.laysStatic Bundle.tN "SUPPRESSED_SENTINEL" Bundle.listD ∈ lw_tbl := List.mem_append_right _ (List.mem_append_right _ (List.mem_append_right _ (List.mem_append_left _ (List.mem_of_getElem? (i := 43) rfl))))
theorem ts_iString : Cond.initialized "java/lang/String" ∈ lw_tbl := List.mem_append_right _ (List.mem_append_left _ (List.mem_of_getElem? (i := 13) rfl))
theorem ts_iPreconditions : Cond.initialized "jdk/internal/util/Preconditions" ∈ lw_tbl := List.mem_append_right _ (List.mem_append_left _ (List.mem_of_getElem? (i := 15) rfl))
theorem ts_iThrowable : Cond.initialized "java/lang/Throwable" ∈ lw_tbl := List.mem_append_right _ (List.mem_append_left _ (List.mem_of_getElem? (i := 9) rfl))
theorem ts_iFaultBench : Cond.initialized "FaultBench" ∈ lw_tbl := List.mem_append_right _ (List.mem_append_left _ (List.mem_of_getElem? (i := 1) rfl))
section KST
variable {s : State} {as : Array Value}
theorem st_str (hn : ∀ c ∈ nf_l, c.before as s = true) {A : Nat → Prop} (hA : ∀ a : Nat, a < s.heap.size → ¬ A a) : ∃ adK adV : Nat → Nat, ∀ i : Nat, i < 11 → (nf_t i).eval as s none [] s = some (.ref (adK i)) ∧ va_O "java/lang/String" (adK i) A s s.heap ∧ va_OF "java/lang/String" "coder" "B" (.int 0) (adK i) A s s.heap ∧ va_OF "java/lang/String" "value" "[B" (.ref (adV i)) (adK i) A s s.heap ∧ va_T .byte (adV i) (ac_B i).length (fun j => .int ((ac_B i).getD j 0)) A s s.heap := by
  have hel : ∀ i : Nat, i < 11 → ∀ j : Nat, j < (ac_B i).length → (Cond.eq (.elem (.field (nf_t i) "java/lang/String" "value" "[B") (.int (Int32.ofNat j))) (.int ((ac_B i).getD j 0))).before as s = true := by
    intro i hi j hj
    rcases (show i = 0 ∨ i = 1 ∨ i = 2 ∨ i = 3 ∨ i = 4 ∨ i = 5 ∨ i = 6 ∨ i = 7 ∨ i = 8 ∨ i = 9 ∨ i = 10 by omega) with rfl | rfl | rfl | rfl | rfl | rfl | rfl | rfl | rfl | rfl | rfl
    · exact hn _ (nf_el0 j hj)
    · exact hn _ (nf_el1 j hj)
    · exact hn _ (nf_el2 j hj)
    · exact hn _ (nf_el3 j hj)
    · exact hn _ (nf_el4 j hj)
    · exact hn _ (nf_el5 j hj)
    · exact hn _ (nf_el6 j hj)
    · exact hn _ (nf_el7 j hj)
    · exact hn _ (nf_el8 j hj)
    · exact hn _ (nf_el9 j hj)
    · exact hn _ (nf_el10 j hj)
  have h0 : ∀ i : Nat, ∃ q : Nat × Nat, i < 11 → (nf_t i).eval as s none [] s = some (.ref q.1) ∧ va_O "java/lang/String" q.1 A s s.heap ∧ va_OF "java/lang/String" "coder" "B" (.int 0) q.1 A s s.heap ∧ va_OF "java/lang/String" "value" "[B" (.ref q.2) q.1 A s s.heap ∧ va_T .byte q.2 (ac_B i).length (fun j => .int ((ac_B i).getD j 0)) A s s.heap := by
    intro i
    by_cases hi : i < 11
    · obtain ⟨a, c, cA, kA, q1, q2, q3, q4, q5, q6, -⟩ := Cond.exactly_spec (args := as) (first := s) (o := none) (s := s) (idx := []) (t := nf_t i) (cls := "java/lang/String") (hn _ (nf_ex i hi))
      obtain ⟨t, ht, hT⟩ := va_Tof (f := fun j => .int ((ac_B i).getD j 0)) (A := A) (by have := (ac_Bok i hi).1; omega) (hn _ (nf_ar i hi)) (va_eqt (hn _ (nf_le i hi))) (fun j hj => va_eqt (hel i hi j hj)) hA
      exact ⟨(a, t), fun _ => ⟨q1, ⟨cA, q3, q5, by rw [q6]; exact q2, hA a (Array.getElem?_eq_some_iff.mp q3).1⟩, vk_OFof q1 (va_eqt (hn _ (nf_co i hi))) hA, vk_OFof q1 ht hA, hT⟩⟩
    · exact ⟨(0, 0), fun h => absurd h hi⟩
  obtain ⟨ad, had⟩ := Classical.axiomOfChoice h0
  exact ⟨fun i => (ad i).1, fun i => (ad i).2, had⟩
theorem st_sev {own : String} {k a : Nat} (h : (Term.string own k).eval as s none [] s = some (.ref a)) : (Term.string own k).eval as s none [] s = some (.ref a) := h
theorem st_tab (hn : ∀ c ∈ nf_l, c.before as s = true) (hts : ∀ w ∈ lw_tbl, w.before as s = true) {A : Nat → Prop} (hA : ∀ a : Nat, a < s.heap.size → ¬ A a) : ∃ ad : Nat → Nat, ∀ i : Nat, i < 3 → va_Z RX6 (ac_Tn i) "[I" (.ref (ad i)) A s s.heap ∧ va_T .int (ad i) 8 (fun j => .int ((ac_T i).getD j 0)) A s s.heap := by
  obtain ⟨t0, e0, h0⟩ := va_Tof (tm := .static "FaultBench" "FIRST_VALUE" "[I") (f := fun j => .int ((ac_T 0).getD j 0)) (A := A) (N := 8) (by decide) (hn _ nf_ta0.1) (va_eqt (hn _ nf_ta0.2)) (fun j hj => va_eqt (hn _ (nf_te0 j hj))) hA
  obtain ⟨t1, e1, h1⟩ := va_Tof (tm := .static "FaultBench" "LEAST_VALUE" "[I") (f := fun j => .int ((ac_T 1).getD j 0)) (A := A) (N := 8) (by decide) (hn _ nf_ta1.1) (va_eqt (hn _ nf_ta1.2)) (fun j hj => va_eqt (hn _ (nf_te1 j hj))) hA
  obtain ⟨t2, e2, h2⟩ := va_Tof (tm := .static "FaultBench" "MOST_VALUE" "[I") (f := fun j => .int ((ac_T 2).getD j 0)) (A := A) (N := 8) (by decide) (hn _ nf_ta2.1) (va_eqt (hn _ nf_ta2.2)) (fun j hj => va_eqt (hn _ (nf_te2 j hj))) hA
  refine ⟨fun i => if i = 0 then t0 else if i = 1 then t1 else t2, fun i hi => ?_⟩
  rcases (show i = 0 ∨ i = 1 ∨ i = 2 by omega) with rfl | rfl | rfl
  · exact ⟨va_Zref (hts _ ts_lFIRST_VALUE) (hts _ ts_iFaultBench) e0 hA, h0⟩
  · exact ⟨va_Zref (hts _ ts_lLEAST_VALUE) (hts _ ts_iFaultBench) e1 hA, h1⟩
  · exact ⟨va_Zref (hts _ ts_lMOST_VALUE) (hts _ ts_iFaultBench) e2 hA, h2⟩
theorem st_arr {ty : FieldType} (h : (Cond.arrayClass ty).before as s = true) (hp : ∀ C, ty ≠ .object C) : ∃ c : ClassId, ArrOfT s c ty ∧ va_RA s c ty := by
  obtain ⟨c, k, comp, h1, h2, h3⟩ := Cond.arrayClass_spec (args := as) (first := s) (o := none) (s := s) (idx := []) h
  refine ⟨c, fun N z => ⟨(fun k h => by cases h), k, h2, comp, h3⟩, ?_⟩
  cases ty <;> first | exact h1 | exact absurd rfl (hp _)
theorem st_aro {C : String} (h : (Cond.arrayOver (.object C)).before as s = true) : ∃ c : ClassId, ArrOfT s c (.object C) ∧ va_RA s c (.object C) := by
  obtain ⟨comp, c, k, h1, -, h3, h4, h5⟩ := Cond.arrayOver_spec (args := as) (first := s) (o := none) (s := s) (idx := []) h
  exact ⟨c, fun N z => ⟨(fun k h => by cases h), k, h3, comp, h4⟩, k, comp, h3, h4, h1, h5⟩
theorem st_cls (hts : ∀ w ∈ lw_tbl, w.before as s = true) : ∃ D : va_G, ∀ (k : Nat) (q : vw_C), vwCl[k]? = some q → u_Kn s q.1 q.2.1 q.2.2 (D.1 k) (D.2 k) := by
  have h9 : ∀ w ∈ wsL_law, w.before as s = true := fun w h => hts w (tc_all w h)
  obtain ⟨c0, i0, h0⟩ := u_known (C := RX0) (T := TX0) (N := 6) (n := 6) h9 wi_wsX00 (h9 _ w_14)
  obtain ⟨c1, i1, h1⟩ := u_known (C := RX1) (T := TX1) (N := 8) (n := 8) h9 wi_wsX10 (h9 _ w_67)
  obtain ⟨c2, i2, h2⟩ := u_known (C := RX2) (T := TX2) (N := 11) (n := 11) h9 wi_wsX20 (h9 _ w_63)
  obtain ⟨c3, i3, h3⟩ := u_known (C := RX3) (T := TX3) (N := 10) (n := 10) h9 wi_wsX30 (h9 _ w_23)
  obtain ⟨c4, i4, h4⟩ := u_known (C := RX4) (T := TX4) (N := 15) (n := 15) h9 wi_wsX40 (h9 _ w_19)
  obtain ⟨c5, i5, h5⟩ := u_known (C := RX5) (T := TX5) (N := 1) (n := 1) h9 wi_wsX50 (h9 _ w_42)
  obtain ⟨c6, i6, h6⟩ := u_known (C := RX6) (T := TX6) (N := 8) (n := 8) h9 wi_wsX60 (h9 _ w_1)
  obtain ⟨c7, i7, h7⟩ := u_known (C := RX7) (T := TX7) (N := 40) (n := 40) h9 wi_wsX70 (h9 _ w_4)
  refine ⟨(fun k => if k = 0 then c0 else if k = 1 then c1 else if k = 2 then c2 else if k = 3 then c3 else if k = 4 then c4 else if k = 5 then c5 else if k = 6 then c6 else c7, fun k => if k = 0 then i0 else if k = 1 then i1 else if k = 2 then i2 else if k = 3 then i3 else if k = 4 then i4 else if k = 5 then i5 else if k = 6 then i6 else i7), ?_⟩
  intro k q hq
  match k, hq with
  | 0, hq => cases hq; exact h0
  | 1, hq => cases hq; exact h1
  | 2, hq => cases hq; exact h2
  | 3, hq => cases hq; exact h3
  | 4, hq => cases hq; exact h4
  | 5, hq => cases hq; exact h5
  | 6, hq => cases hq; exact h6
  | 7, hq => cases hq; exact h7
  | k + 8, hq => simp [vwCl] at hq
theorem st_wrd (hn : ∀ c ∈ nf_l, c.before as s = true) (hts : ∀ w ∈ lw_tbl, w.before as s = true) {adK : Nat → Nat} (hK : ∀ i : Nat, i < 11 → (nf_t i).eval as s none [] s = some (.ref (adK i))) : ∀ i : Nat, i < 22 → vk_R (ac_Wr i).1 (ac_Wr i).2.1 (ac_Bs (ac_Wr i).2.2) (adK (ac_Wr i).2.2) s := by
  intro i hi
  rcases (show i = 0 ∨ i = 1 ∨ i = 2 ∨ i = 3 ∨ i = 4 ∨ i = 5 ∨ i = 6 ∨ i = 7 ∨ i = 8 ∨ i = 9 ∨ i = 10 ∨ i = 11 ∨ i = 12 ∨ i = 13 ∨ i = 14 ∨ i = 15 ∨ i = 16 ∨ i = 17 ∨ i = 18 ∨ i = 19 ∨ i = 20 ∨ i = 21 by omega) with rfl | rfl | rfl | rfl | rfl | rfl | rfl | rfl | rfl | rfl | rfl | rfl | rfl | rfl | rfl | rfl | rfl | rfl | rfl | rfl | rfl | rfl
  · exact vk_R.of (A := as) (hts _ ts_w0) (hK 0 (by decide))
  · exact vk_R.of (A := as) (hts _ ts_w1) (hK 1 (by decide))
  · exact vk_R.of (A := as) (hts _ ts_w2) (hK 2 (by decide))
  · exact vk_R.of (A := as) (hts _ ts_w3) (hK 3 (by decide))
  · exact vk_R.of (A := as) (hts _ ts_w4) (hK 4 (by decide))
  · exact vk_R.of (A := as) (hts _ ts_w5) (hK 5 (by decide))
  · exact vk_R.of (A := as) (hts _ ts_w6) (hK 6 (by decide))
  · exact vk_R.of (A := as) (hts _ ts_w7) (hK 7 (by decide))
  · exact vk_R.of (A := as) (hts _ ts_w8) (hK 8 (by decide))
  · exact vk_R.of (A := as) (hts _ ts_w9) (hK 9 (by decide))
  · exact vk_R.of (A := as) (hts _ ts_w10) (hK 10 (by decide))
  · exact vk_R.of (A := as) (hts _ ts_w11) (va_eqR (hn _ nf_sm11) (hK 4 (by decide)))
  · exact vk_R.of (A := as) (hts _ ts_w12) (va_eqR (hn _ nf_sm12) (hK 5 (by decide)))
  · exact vk_R.of (A := as) (hts _ ts_w13) (va_eqR (hn _ nf_sm13) (hK 6 (by decide)))
  · exact vk_R.of (A := as) (hts _ ts_w14) (va_eqR (hn _ nf_sm14) (hK 7 (by decide)))
  · exact vk_R.of (A := as) (hts _ ts_w15) (va_eqR (hn _ nf_sm15) (hK 8 (by decide)))
  · exact vk_R.of (A := as) (hts _ ts_w16) (va_eqR (hn _ nf_sm16) (hK 9 (by decide)))
  · exact vk_R.of (A := as) (hts _ ts_w17) (va_eqR (hn _ nf_sm17) (hK 10 (by decide)))
  · exact vk_R.of (A := as) (hts _ ts_w18) (va_eqR (hn _ nf_sm18) (hK 0 (by decide)))
  · exact vk_R.of (A := as) (hts _ ts_w19) (va_eqR (hn _ nf_sm19) (hK 1 (by decide)))
  · exact vk_R.of (A := as) (hts _ ts_w20) (va_eqR (hn _ nf_sm20) (hK 2 (by decide)))
  · exact vk_R.of (A := as) (hts _ ts_w21) (va_eqR (hn _ nf_sm21) (hK 3 (by decide)))
theorem st_exc (hn : ∀ c ∈ nf_l, c.before as s = true) (hts : ∀ w ∈ lw_tbl, w.before as s = true) : ∀ i : Nat, i < 13 → ∃ a : Nat, vk_R RX6 (ac_Xr i).1 (ac_Xr i).2 a s := by
  intro i hi
  obtain ⟨a, c, cA, kA, q1, -⟩ := Cond.exactly_spec (args := as) (first := s) (o := none) (s := s) (idx := []) (t := nf_x i) (cls := "java/lang/String") (hn _ (nf_xx i hi))
  refine ⟨a, vk_R.of (A := as) ?_ ?_⟩
  · rcases (show i = 0 ∨ i = 1 ∨ i = 2 ∨ i = 3 ∨ i = 4 ∨ i = 5 ∨ i = 6 ∨ i = 7 ∨ i = 8 ∨ i = 9 ∨ i = 10 ∨ i = 11 ∨ i = 12 by omega) with rfl | rfl | rfl | rfl | rfl | rfl | rfl | rfl | rfl | rfl | rfl | rfl | rfl
    · exact hts _ ts_x0
    · exact hts _ ts_x1
    · exact hts _ ts_x2
    · exact hts _ ts_x3
    · exact hts _ ts_x4
    · exact hts _ ts_x5
    · exact hts _ ts_x6
    · exact hts _ ts_x7
    · exact hts _ ts_x8
    · exact hts _ ts_x9
    · exact hts _ ts_x10
    · exact hts _ ts_x11
    · exact hts _ ts_x12
  · exact q1
end KST
set_option maxHeartbeats 4000000 in
set_option maxRecDepth 100000 in
theorem st_all {s : State} {as : Array Value} {l : Launch} (hflags : l.flags = flags0) (hts : ∀ w ∈ lw_tbl, w.before as s = true) (hgv : (Jvm.Cond.and given_1 narrow_1).before as s = true) : ∃ Λ : ex_L, ex_l Λ = l ∧ ex_z Λ = s.heap.size ∧ ac_K Λ s := by
  have hn : ∀ c ∈ nf_l, c.before as s = true := flat_of_before _ hgv
  have h9 : ∀ w ∈ wsL_law, w.before as s = true := fun w h => hts w (tc_all w h)
  have hA : ∀ a : Nat, a < s.heap.size → ¬ (fun q : Nat => s.heap.size ≤ q) a := fun a h => Nat.not_le.mpr h
  obtain ⟨adK, adV, hS⟩ := st_str hn hA
  obtain ⟨ad, hT⟩ := st_tab hn hts hA
  obtain ⟨D, hD⟩ := st_cls hts
  obtain ⟨a0, g0⟩ := st_arr (h9 _ w_35) (fun C h => by cases h)
  obtain ⟨a1, g1⟩ := st_arr (h9 _ w_108) (fun C h => by cases h)
  obtain ⟨a2, g2⟩ := st_arr (h9 _ w_29) (fun C h => by cases h)
  obtain ⟨a3, g3⟩ := st_arr (h9 _ w_6) (fun C h => by cases h)
  obtain ⟨a4, g4⟩ := st_aro (hts _ ts_ao)
  have hns : ∀ {w : Cond}, w.onTables = true → w ∈ lw_tbl → va_Nw w s := fun h1 h2 => va_Nw.of h1 (hts _ h2)
  refine ⟨(l, D, (fun k => if k = 0 then a0 else if k = 1 then a1 else if k = 2 then a2 else if k = 3 then a3 else a4), s.heap.size, ad, adK, adV), rfl, rfl, ⟨?_, ⟨hD, ?_⟩, ?_, st_exc hn hts, hns rfl ts_n0, hns rfl ts_n1, hns rfl ts_n2, va_AO.of (hts _ ts_ao), ?_, va_Nc.of (hn _ nf_nc0), va_Nc.of (hn _ nf_nc1), va_Nc.of (hn _ nf_nc2)⟩, ⟨hT, fun i hi => (hS i hi).2, ?_, ?_, ?_, ?_⟩, Nat.le_refl _⟩
  · show l.stackTraces = false
    unfold Launch.stackTraces
    rw [hflags]
    decide +kernel
  · intro k q hq
    match k, hq with
    | 0, hq => cases hq; exact g0
    | 1, hq => cases hq; exact g1
    | 2, hq => cases hq; exact g2
    | 3, hq => cases hq; exact g3
    | 4, hq => cases hq; exact g4
    | k + 5, hq => simp [ac_t] at hq
  · exact st_wrd hn hts (fun i hi => (hS i hi).1)
  · intro i hi
    rcases (show i = 0 ∨ i = 1 ∨ i = 2 ∨ i = 3 ∨ i = 4 ∨ i = 5 by omega) with rfl | rfl | rfl | rfl | rfl | rfl
    · exact hns rfl ts_k0
    · exact hns rfl ts_k1
    · exact hns rfl ts_k2
    · exact hns rfl ts_k3
    · exact hns rfl ts_k4
    · exact hns rfl ts_k5
  · exact va_Zof (hts _ ts_lc) (hts _ ts_iString) (va_eqi (hn _ nf_cs)) hA
  · exact va_Zqof (hts _ ts_lf) (hts _ ts_iPreconditions) (hn _ nf_sf) hA
  · exact vx_Zqof (hts _ ts_lu) (hts _ ts_iThrowable) (hn _ nf_us) hA
  · exact vx_Zqof (hts _ ts_ls) (hts _ ts_iThrowable) (hn _ nf_ss) hA

theorem ts_w0 : Cond.stringRef (ac_Wr 0).1 (ac_Wr 0).2.1 (ac_Bs (ac_Wr 0).2.2) ∈ lw_tbl := List.mem_append_right _ (List.mem_append_right _ (List.mem_append_right _ (List.mem_append_right _ (List.mem_append_left _ (List.mem_of_getElem? (i := 64) rfl)))))
theorem ts_w1 : Cond.stringRef (ac_Wr 1).1 (ac_Wr 1).2.1 (ac_Bs (ac_Wr 1).2.2) ∈ lw_tbl := List.mem_append_right _ (List.mem_append_right _ (List.mem_append_right _ (List.mem_append_right _ (List.mem_append_left _ (List.mem_of_getElem? (i := 79) rfl)))))
theorem ts_w2 : Cond.stringRef (ac_Wr 2).1 (ac_Wr 2).2.1 (ac_Bs (ac_Wr 2).2.2) ∈ lw_tbl := List.mem_append_right _ (List.mem_append_right _ (List.mem_append_right _ (List.mem_append_right _ (List.mem_append_left _ (List.mem_of_getElem? (i := 80) rfl)))))
theorem ts_w3 : Cond.stringRef (ac_Wr 3).1 (ac_Wr 3).2.1 (ac_Bs (ac_Wr 3).2.2) ∈ lw_tbl := List.mem_append_right _ (List.mem_append_right _ (List.mem_append_right _ (List.mem_append_right _ (List.mem_append_left _ (List.mem_of_getElem? (i := 81) rfl)))))
theorem ts_w4 : Cond.stringRef (ac_Wr 4).1 (ac_Wr 4).2.1 (ac_Bs (ac_Wr 4).2.2) ∈ lw_tbl := List.mem_append_right _ (List.mem_append_right _ (List.mem_append_right _ (List.mem_append_right _ (List.mem_append_left _ (List.mem_of_getElem? (i := 110) rfl)))))
theorem ts_w5 : Cond.stringRef (ac_Wr 5).1 (ac_Wr 5).2.1 (ac_Bs (ac_Wr 5).2.2) ∈ lw_tbl := List.mem_append_right _ (List.mem_append_right _ (List.mem_append_right _ (List.mem_append_right _ (List.mem_append_left _ (List.mem_of_getElem? (i := 111) rfl)))))
theorem ts_w6 : Cond.stringRef (ac_Wr 6).1 (ac_Wr 6).2.1 (ac_Bs (ac_Wr 6).2.2) ∈ lw_tbl := List.mem_append_right _ (List.mem_append_right _ (List.mem_append_right _ (List.mem_append_right _ (List.mem_append_left _ (List.mem_of_getElem? (i := 112) rfl)))))
theorem ts_w7 : Cond.stringRef (ac_Wr 7).1 (ac_Wr 7).2.1 (ac_Bs (ac_Wr 7).2.2) ∈ lw_tbl := List.mem_append_right _ (List.mem_append_right _ (List.mem_append_right _ (List.mem_append_right _ (List.mem_append_left _ (List.mem_of_getElem? (i := 113) rfl)))))
theorem ts_w8 : Cond.stringRef (ac_Wr 8).1 (ac_Wr 8).2.1 (ac_Bs (ac_Wr 8).2.2) ∈ lw_tbl := List.mem_append_right _ (List.mem_append_right _ (List.mem_append_right _ (List.mem_append_right _ (List.mem_append_left _ (List.mem_of_getElem? (i := 122) rfl)))))
theorem ts_w9 : Cond.stringRef (ac_Wr 9).1 (ac_Wr 9).2.1 (ac_Bs (ac_Wr 9).2.2) ∈ lw_tbl := List.mem_append_right _ (List.mem_append_right _ (List.mem_append_right _ (List.mem_append_right _ (List.mem_append_left _ (List.mem_of_getElem? (i := 123) rfl)))))
theorem ts_w10 : Cond.stringRef (ac_Wr 10).1 (ac_Wr 10).2.1 (ac_Bs (ac_Wr 10).2.2) ∈ lw_tbl := List.mem_append_right _ (List.mem_append_right _ (List.mem_append_right _ (List.mem_append_right _ (List.mem_append_left _ (List.mem_of_getElem? (i := 124) rfl)))))
theorem ts_w11 : Cond.stringRef (ac_Wr 11).1 (ac_Wr 11).2.1 (ac_Bs (ac_Wr 11).2.2) ∈ lw_tbl := List.mem_append_right _ (List.mem_append_right _ (List.mem_append_left _ (List.mem_of_getElem? (i := 107) rfl)))
theorem ts_w12 : Cond.stringRef (ac_Wr 12).1 (ac_Wr 12).2.1 (ac_Bs (ac_Wr 12).2.2) ∈ lw_tbl := List.mem_append_right _ (List.mem_append_right _ (List.mem_append_left _ (List.mem_of_getElem? (i := 226) rfl)))
theorem ts_w13 : Cond.stringRef (ac_Wr 13).1 (ac_Wr 13).2.1 (ac_Bs (ac_Wr 13).2.2) ∈ lw_tbl := List.mem_append_right _ (List.mem_append_right _ (List.mem_append_left _ (List.mem_of_getElem? (i := 227) rfl)))
theorem ts_w14 : Cond.stringRef (ac_Wr 14).1 (ac_Wr 14).2.1 (ac_Bs (ac_Wr 14).2.2) ∈ lw_tbl := List.mem_append_right _ (List.mem_append_right _ (List.mem_append_left _ (List.mem_of_getElem? (i := 228) rfl)))
theorem ts_w15 : Cond.stringRef (ac_Wr 15).1 (ac_Wr 15).2.1 (ac_Bs (ac_Wr 15).2.2) ∈ lw_tbl := List.mem_append_right _ (List.mem_append_right _ (List.mem_append_right _ (List.mem_append_left _ (List.mem_of_getElem? (i := 36) rfl))))
theorem ts_w16 : Cond.stringRef (ac_Wr 16).1 (ac_Wr 16).2.1 (ac_Bs (ac_Wr 16).2.2) ∈ lw_tbl := List.mem_append_right _ (List.mem_append_right _ (List.mem_append_right _ (List.mem_append_left _ (List.mem_of_getElem? (i := 37) rfl))))
theorem ts_w17 : Cond.stringRef (ac_Wr 17).1 (ac_Wr 17).2.1 (ac_Bs (ac_Wr 17).2.2) ∈ lw_tbl := List.mem_append_right _ (List.mem_append_right _ (List.mem_append_right _ (List.mem_append_left _ (List.mem_of_getElem? (i := 38) rfl))))
theorem ts_w18 : Cond.stringRef (ac_Wr 18).1 (ac_Wr 18).2.1 (ac_Bs (ac_Wr 18).2.2) ∈ lw_tbl := List.mem_append_right _ (List.mem_append_right _ (List.mem_append_right _ (List.mem_append_left _ (List.mem_of_getElem? (i := 39) rfl))))
theorem ts_w19 : Cond.stringRef (ac_Wr 19).1 (ac_Wr 19).2.1 (ac_Bs (ac_Wr 19).2.2) ∈ lw_tbl := List.mem_append_right _ (List.mem_append_right _ (List.mem_append_right _ (List.mem_append_left _ (List.mem_of_getElem? (i := 40) rfl))))
theorem ts_w20 : Cond.stringRef (ac_Wr 20).1 (ac_Wr 20).2.1 (ac_Bs (ac_Wr 20).2.2) ∈ lw_tbl := List.mem_append_right _ (List.mem_append_right _ (List.mem_append_right _ (List.mem_append_left _ (List.mem_of_getElem? (i := 41) rfl))))
theorem ts_w21 : Cond.stringRef (ac_Wr 21).1 (ac_Wr 21).2.1 (ac_Bs (ac_Wr 21).2.2) ∈ lw_tbl := List.mem_append_right _ (List.mem_append_right _ (List.mem_append_right _ (List.mem_append_left _ (List.mem_of_getElem? (i := 42) rfl))))
theorem ts_x0 : Cond.stringRef RX6 (ac_Xr 0).1 (ac_Xr 0).2 ∈ lw_tbl := List.mem_append_right _ (List.mem_append_right _ (List.mem_append_right _ (List.mem_append_right _ (List.mem_append_left _ (List.mem_of_getElem? (i := 12) rfl)))))
theorem ts_x1 : Cond.stringRef RX6 (ac_Xr 1).1 (ac_Xr 1).2 ∈ lw_tbl := List.mem_append_right _ (List.mem_append_right _ (List.mem_append_right _ (List.mem_append_right _ (List.mem_append_right _ (List.mem_append_right _ (List.mem_of_getElem? (i := 13) rfl))))))
theorem ts_x2 : Cond.stringRef RX6 (ac_Xr 2).1 (ac_Xr 2).2 ∈ lw_tbl := List.mem_append_right _ (List.mem_append_right _ (List.mem_append_right _ (List.mem_append_right _ (List.mem_append_right _ (List.mem_append_right _ (List.mem_of_getElem? (i := 18) rfl))))))
theorem ts_x3 : Cond.stringRef RX6 (ac_Xr 3).1 (ac_Xr 3).2 ∈ lw_tbl := List.mem_append_right _ (List.mem_append_right _ (List.mem_append_right _ (List.mem_append_right _ (List.mem_append_left _ (List.mem_of_getElem? (i := 217) rfl)))))
theorem ts_x4 : Cond.stringRef RX6 (ac_Xr 4).1 (ac_Xr 4).2 ∈ lw_tbl := List.mem_append_right _ (List.mem_append_right _ (List.mem_append_right _ (List.mem_append_right _ (List.mem_append_right _ (List.mem_append_right _ (List.mem_of_getElem? (i := 56) rfl))))))
theorem ts_x5 : Cond.stringRef RX6 (ac_Xr 5).1 (ac_Xr 5).2 ∈ lw_tbl := List.mem_append_right _ (List.mem_append_right _ (List.mem_append_right _ (List.mem_append_right _ (List.mem_append_right _ (List.mem_append_right _ (List.mem_of_getElem? (i := 1) rfl))))))
theorem ts_x6 : Cond.stringRef RX6 (ac_Xr 6).1 (ac_Xr 6).2 ∈ lw_tbl := List.mem_append_right _ (List.mem_append_right _ (List.mem_append_right _ (List.mem_append_right _ (List.mem_append_right _ (List.mem_append_right _ (List.mem_of_getElem? (i := 3) rfl))))))
theorem ts_x7 : Cond.stringRef RX6 (ac_Xr 7).1 (ac_Xr 7).2 ∈ lw_tbl := List.mem_append_right _ (List.mem_append_right _ (List.mem_append_right _ (List.mem_append_right _ (List.mem_append_left _ (List.mem_of_getElem? (i := 220) rfl)))))
theorem ts_x8 : Cond.stringRef RX6 (ac_Xr 8).1 (ac_Xr 8).2 ∈ lw_tbl := List.mem_append_right _ (List.mem_append_right _ (List.mem_append_right _ (List.mem_append_right _ (List.mem_append_right _ (List.mem_append_left _ (List.mem_of_getElem? (i := 214) rfl))))))
theorem ts_x9 : Cond.stringRef RX6 (ac_Xr 9).1 (ac_Xr 9).2 ∈ lw_tbl := List.mem_append_right _ (List.mem_append_right _ (List.mem_append_right _ (List.mem_append_right _ (List.mem_append_left _ (List.mem_of_getElem? (i := 202) rfl)))))
theorem ts_x10 : Cond.stringRef RX6 (ac_Xr 10).1 (ac_Xr 10).2 ∈ lw_tbl := List.mem_append_right _ (List.mem_append_right _ (List.mem_append_right _ (List.mem_append_right _ (List.mem_append_right _ (List.mem_append_left _ (List.mem_of_getElem? (i := 191) rfl))))))
theorem ts_f0 : ac_Fn 0 ∈ lw_tbl := List.mem_append_right _ (List.mem_append_left _ (List.mem_of_getElem? (i := 75) rfl))
theorem ts_f1 : ac_Fn 1 ∈ lw_tbl := List.mem_append_right _ (List.mem_append_right _ (List.mem_append_left _ (List.mem_of_getElem? (i := 79) rfl)))
theorem ts_f2 : ac_Fn 2 ∈ lw_tbl := List.mem_append_right _ (List.mem_append_right _ (List.mem_append_left _ (List.mem_of_getElem? (i := 80) rfl)))
theorem ts_f3 : ac_Fn 3 ∈ lw_tbl := List.mem_append_right _ (List.mem_append_right _ (List.mem_append_left _ (List.mem_of_getElem? (i := 82) rfl)))
theorem ts_f4 : ac_Fn 4 ∈ lw_tbl := List.mem_append_right _ (List.mem_append_right _ (List.mem_append_left _ (List.mem_of_getElem? (i := 83) rfl)))
theorem ts_f5 : ac_Fn 5 ∈ lw_tbl := List.mem_append_right _ (List.mem_append_right _ (List.mem_append_left _ (List.mem_of_getElem? (i := 85) rfl)))
theorem ts_f6 : ac_Fn 6 ∈ lw_tbl := List.mem_append_right _ (List.mem_append_right _ (List.mem_append_left _ (List.mem_of_getElem? (i := 86) rfl)))
theorem ts_f7 : ac_Fn 7 ∈ lw_tbl := List.mem_append_right _ (List.mem_append_right _ (List.mem_append_left _ (List.mem_of_getElem? (i := 88) rfl)))
theorem ts_f8 : ac_Fn 8 ∈ lw_tbl := List.mem_append_right _ (List.mem_append_right _ (List.mem_append_left _ (List.mem_of_getElem? (i := 89) rfl)))
theorem ts_f9 : ac_Fn 9 ∈ lw_tbl := List.mem_append_right _ (List.mem_append_right _ (List.mem_append_right _ (List.mem_append_left _ (List.mem_of_getElem? (i := 51) rfl))))
theorem ts_f10 : ac_Fn 10 ∈ lw_tbl := List.mem_append_right _ (List.mem_append_right _ (List.mem_append_right _ (List.mem_append_left _ (List.mem_of_getElem? (i := 53) rfl))))
theorem ts_f11 : ac_Fn 11 ∈ lw_tbl := List.mem_append_right _ (List.mem_append_right _ (List.mem_append_right _ (List.mem_append_left _ (List.mem_of_getElem? (i := 55) rfl))))
theorem ts_f12 : ac_Fn 12 ∈ lw_tbl := List.mem_append_right _ (List.mem_append_right _ (List.mem_append_right _ (List.mem_append_left _ (List.mem_of_getElem? (i := 57) rfl))))
theorem ts_f13 : ac_Fn 13 ∈ lw_tbl := List.mem_append_right _ (List.mem_append_right _ (List.mem_append_right _ (List.mem_append_left _ (List.mem_of_getElem? (i := 59) rfl))))
theorem ts_f14 : ac_Fn 14 ∈ lw_tbl := List.mem_append_right _ (List.mem_append_right _ (List.mem_append_right _ (List.mem_append_left _ (List.mem_of_getElem? (i := 61) rfl))))
theorem ts_f15 : ac_Fn 15 ∈ lw_tbl := List.mem_append_right _ (List.mem_append_right _ (List.mem_append_right _ (List.mem_append_left _ (List.mem_of_getElem? (i := 64) rfl))))
theorem ts_f16 : ac_Fn 16 ∈ lw_tbl := List.mem_append_right _ (List.mem_append_right _ (List.mem_append_right _ (List.mem_append_left _ (List.mem_of_getElem? (i := 66) rfl))))
theorem ts_f17 : ac_Fn 17 ∈ lw_tbl := List.mem_append_right _ (List.mem_append_right _ (List.mem_append_right _ (List.mem_append_left _ (List.mem_of_getElem? (i := 68) rfl))))
theorem ts_f18 : ac_Fn 18 ∈ lw_tbl := List.mem_append_right _ (List.mem_append_right _ (List.mem_append_right _ (List.mem_append_left _ (List.mem_of_getElem? (i := 70) rfl))))
theorem ts_f19 : ac_Fn 19 ∈ lw_tbl := List.mem_append_right _ (List.mem_append_right _ (List.mem_append_right _ (List.mem_append_left _ (List.mem_of_getElem? (i := 72) rfl))))
theorem ts_f20 : ac_Fn 20 ∈ lw_tbl := List.mem_append_right _ (List.mem_append_right _ (List.mem_append_right _ (List.mem_append_right _ (List.mem_append_left _ (List.mem_of_getElem? (i := 90) rfl)))))
theorem ts_f21 : ac_Fn 21 ∈ lw_tbl := List.mem_append_right _ (List.mem_append_right _ (List.mem_append_right _ (List.mem_append_right _ (List.mem_append_left _ (List.mem_of_getElem? (i := 92) rfl)))))
theorem ts_f22 : ac_Fn 22 ∈ lw_tbl := List.mem_append_right _ (List.mem_append_right _ (List.mem_append_left _ (List.mem_of_getElem? (i := 74) rfl)))
theorem ts_f23 : ac_Fn 23 ∈ lw_tbl := List.mem_append_right _ (List.mem_append_right _ (List.mem_append_right _ (List.mem_append_left _ (List.mem_of_getElem? (i := 45) rfl))))
theorem ts_ao : Cond.arrayOver (.object RX0) ∈ lw_tbl := List.mem_append_right _ (List.mem_append_right _ (List.mem_append_left _ (List.mem_of_getElem? (i := 7) rfl)))
theorem ts_k0 : ac_Nw 0 ∈ lw_tbl := List.mem_append_right _ (List.mem_append_right _ (List.mem_append_right _ (List.mem_append_left _ (List.mem_of_getElem? (i := 213) rfl))))
theorem ts_k1 : ac_Nw 1 ∈ lw_tbl := List.mem_append_right _ (List.mem_append_right _ (List.mem_append_right _ (List.mem_append_right _ (List.mem_append_right _ (List.mem_append_left _ (List.mem_of_getElem? (i := 207) rfl))))))
theorem ts_k2 : ac_Nw 2 ∈ lw_tbl := List.mem_append_right _ (List.mem_append_right _ (List.mem_append_right _ (List.mem_append_right _ (List.mem_append_left _ (List.mem_of_getElem? (i := 195) rfl)))))
theorem ts_k3 : ac_Nw 3 ∈ lw_tbl := List.mem_append_right _ (List.mem_append_right _ (List.mem_append_right _ (List.mem_append_left _ (List.mem_of_getElem? (i := 215) rfl))))
theorem ts_k4 : ac_Nw 4 ∈ lw_tbl := List.mem_append_right _ (List.mem_append_right _ (List.mem_append_right _ (List.mem_append_left _ (List.mem_of_getElem? (i := 217) rfl))))
theorem ts_k5 : ac_Nw 5 ∈ lw_tbl := List.mem_append_right _ (List.mem_append_right _ (List.mem_append_right _ (List.mem_append_left _ (List.mem_of_getElem? (i := 219) rfl))))
theorem ts_k6 : ac_Nw 6 ∈ lw_tbl := List.mem_append_right _ (List.mem_append_right _ (List.mem_append_left _ (List.mem_of_getElem? (i := 146) rfl)))
theorem ts_lFIRST_VALUE : Cond.laysStatic "FaultBench" "FIRST_VALUE" "[I" ∈ lw_tbl := List.mem_append_right _ (List.mem_append_left _ (List.mem_of_getElem? (i := 76) rfl))
theorem ts_lLEAST_VALUE : Cond.laysStatic "FaultBench" "LEAST_VALUE" "[I" ∈ lw_tbl := List.mem_append_right _ (List.mem_append_right _ (List.mem_append_right _ (List.mem_append_right _ (List.mem_append_left _ (List.mem_of_getElem? (i := 91) rfl)))))
theorem ts_lMOST_VALUE : Cond.laysStatic "FaultBench" "MOST_VALUE" "[I" ∈ lw_tbl := List.mem_append_right _ (List.mem_append_right _ (List.mem_append_right _ (List.mem_append_right _ (List.mem_append_left _ (List.mem_of_getElem? (i := 93) rfl)))))
theorem ts_lDigitOnes : Cond.laysStatic "java/lang/Integer" "DigitOnes" "[B" ∈ lw_tbl := List.mem_append_right _ (List.mem_append_right _ (List.mem_append_right _ (List.mem_append_left _ (List.mem_of_getElem? (i := 25) rfl))))
theorem ts_lDigitTens : Cond.laysStatic "java/lang/Integer" "DigitTens" "[B" ∈ lw_tbl := List.mem_append_right _ (List.mem_append_right _ (List.mem_append_right _ (List.mem_append_left _ (List.mem_of_getElem? (i := 27) rfl))))
theorem ts_lc : Cond.laysStatic "java/lang/String" "COMPACT_STRINGS" "Z" ∈ lw_tbl := List.mem_append_right _ (List.mem_append_right _ (List.mem_append_left _ (List.mem_of_getElem? (i := 47) rfl)))
theorem ts_lf : Cond.laysStatic "jdk/internal/util/Preconditions" "SIOOBE_FORMATTER" "Ljava/util/function/BiFunction;" ∈ lw_tbl := List.mem_append_right _ (List.mem_append_right _ (List.mem_append_left _ (List.mem_of_getElem? (i := 170) rfl)))
theorem ts_lu : Cond.laysStatic Bundle.tN "UNASSIGNED_STACK" Bundle.steD ∈ lw_tbl := List.mem_append_right _ (List.mem_append_right _ (List.mem_append_right _ (List.mem_append_left _ (List.mem_of_getElem? (i := 238) rfl))))
theorem ts_ls : Cond.laysStatic Bundle.tN "SUPPRESSED_SENTINEL" Bundle.listD ∈ lw_tbl := List.mem_append_right _ (List.mem_append_right _ (List.mem_append_right _ (List.mem_append_right _ (List.mem_append_left _ (List.mem_of_getElem? (i := 0) rfl)))))
theorem ts_iString : Cond.initialized "java/lang/String" ∈ lw_tbl := List.mem_append_right _ (List.mem_append_left _ (List.mem_of_getElem? (i := 10) rfl))
theorem ts_iPreconditions : Cond.initialized "jdk/internal/util/Preconditions" ∈ lw_tbl := List.mem_append_right _ (List.mem_append_left _ (List.mem_of_getElem? (i := 17) rfl))
theorem ts_iThrowable : Cond.initialized "java/lang/Throwable" ∈ lw_tbl := List.mem_append_right _ (List.mem_append_left _ (List.mem_of_getElem? (i := 21) rfl))
theorem ts_iFaultBench : Cond.initialized "FaultBench" ∈ lw_tbl := List.mem_append_right _ (List.mem_append_left _ (List.mem_of_getElem? (i := 1) rfl))
theorem ts_iInteger : Cond.initialized "java/lang/Integer" ∈ lw_tbl := List.mem_append_right _ (List.mem_append_left _ (List.mem_of_getElem? (i := 19) rfl))
section KST
variable {s : State} {as : Array Value}
theorem st_str (hn : ∀ c ∈ nf_l, c.before as s = true) {A : Nat → Prop} (hA : ∀ a : Nat, a < s.heap.size → ¬ A a) : ∃ adK adV : Nat → Nat, ∀ i : Nat, i < 19 → (nf_t i).eval as s none [] s = some (.ref (adK i)) ∧ va_O "java/lang/String" (adK i) A s s.heap ∧ va_OF "java/lang/String" "coder" "B" (.int 0) (adK i) A s s.heap ∧ va_OF "java/lang/String" "value" "[B" (.ref (adV i)) (adK i) A s s.heap ∧ va_T .byte (adV i) (ac_B i).length (fun j => .int ((ac_B i).getD j 0)) A s s.heap := by
  have hel : ∀ i : Nat, i < 19 → ∀ j : Nat, j < (ac_B i).length → (Cond.eq (.elem (.field (nf_t i) "java/lang/String" "value" "[B") (.int (Int32.ofNat j))) (.int ((ac_B i).getD j 0))).before as s = true := by
    intro i hi j hj
    rcases (show i = 0 ∨ i = 1 ∨ i = 2 ∨ i = 3 ∨ i = 4 ∨ i = 5 ∨ i = 6 ∨ i = 7 ∨ i = 8 ∨ i = 9 ∨ i = 10 ∨ i = 11 ∨ i = 12 ∨ i = 13 ∨ i = 14 ∨ i = 15 ∨ i = 16 ∨ i = 17 ∨ i = 18 by omega) with rfl | rfl | rfl | rfl | rfl | rfl | rfl | rfl | rfl | rfl | rfl | rfl | rfl | rfl | rfl | rfl | rfl | rfl | rfl
    · exact hn _ (nf_el0 j hj)
    · exact hn _ (nf_el1 j hj)
    · exact hn _ (nf_el2 j hj)
    · exact hn _ (nf_el3 j hj)
    · exact hn _ (nf_el4 j hj)
    · exact hn _ (nf_el5 j hj)
    · exact hn _ (nf_el6 j hj)
    · exact hn _ (nf_el7 j hj)
    · exact hn _ (nf_el8 j hj)
    · exact hn _ (nf_el9 j hj)
    · exact hn _ (nf_el10 j hj)
    · exact hn _ (nf_el11 j hj)
    · exact hn _ (nf_el12 j hj)
    · exact hn _ (nf_el13 j hj)
    · exact hn _ (nf_el14 j hj)
    · exact hn _ (nf_el15 j hj)
    · exact hn _ (nf_el16 j hj)
    · exact hn _ (nf_el17 j hj)
    · exact hn _ (nf_el18 j hj)
  have h0 : ∀ i : Nat, ∃ q : Nat × Nat, i < 19 → (nf_t i).eval as s none [] s = some (.ref q.1) ∧ va_O "java/lang/String" q.1 A s s.heap ∧ va_OF "java/lang/String" "coder" "B" (.int 0) q.1 A s s.heap ∧ va_OF "java/lang/String" "value" "[B" (.ref q.2) q.1 A s s.heap ∧ va_T .byte q.2 (ac_B i).length (fun j => .int ((ac_B i).getD j 0)) A s s.heap := by
    intro i
    by_cases hi : i < 19
    · obtain ⟨a, c, cA, kA, q1, q2, q3, q4, q5, q6, -⟩ := Cond.exactly_spec (args := as) (first := s) (o := none) (s := s) (idx := []) (t := nf_t i) (cls := "java/lang/String") (hn _ (nf_ex i hi))
      obtain ⟨t, ht, hT⟩ := va_Tof (f := fun j => .int ((ac_B i).getD j 0)) (A := A) (by have := (ac_Bok i hi).1; omega) (hn _ (nf_ar i hi)) (va_eqt (hn _ (nf_le i hi))) (fun j hj => va_eqt (hel i hi j hj)) hA
      exact ⟨(a, t), fun _ => ⟨q1, ⟨cA, q3, q5, by rw [q6]; exact q2, hA a (Array.getElem?_eq_some_iff.mp q3).1⟩, vk_OFof q1 (va_eqt (hn _ (nf_co i hi))) hA, vk_OFof q1 ht hA, hT⟩⟩
    · exact ⟨(0, 0), fun h => absurd h hi⟩
  obtain ⟨ad, had⟩ := Classical.axiomOfChoice h0
  exact ⟨fun i => (ad i).1, fun i => (ad i).2, had⟩
theorem st_sev {own : String} {k a : Nat} (h : (Term.string own k).eval as s none [] s = some (.ref a)) : (Term.string own k).eval as s none [] s = some (.ref a) := h
theorem st_tab (hn : ∀ c ∈ nf_l, c.before as s = true) (hts : ∀ w ∈ lw_tbl, w.before as s = true) {A : Nat → Prop} (hA : ∀ a : Nat, a < s.heap.size → ¬ A a) : ∃ ad : Nat → Nat, (∀ i : Nat, i < 3 → va_Z RX6 (ac_Tn i) "[I" (.ref (ad i)) A s s.heap ∧ va_T .int (ad i) 8 (fun j => .int ((ac_T i).getD j 0)) A s s.heap) ∧ ∀ i : Nat, i < 2 → va_Z "java/lang/Integer" (ac_Dn i) "[B" (.ref (ad (3 + i))) A s s.heap ∧ va_T .byte (ad (3 + i)) 100 (fun j => .int (ac_D i j)) A s s.heap := by
  obtain ⟨t0, e0, h0⟩ := va_Tof (tm := .static "FaultBench" "FIRST_VALUE" "[I") (f := fun j => .int ((ac_T 0).getD j 0)) (A := A) (N := 8) (by decide) (hn _ nf_ta0.1) (va_eqt (hn _ nf_ta0.2)) (fun j hj => va_eqt (hn _ (nf_te0 j hj))) hA
  obtain ⟨t1, e1, h1⟩ := va_Tof (tm := .static "FaultBench" "LEAST_VALUE" "[I") (f := fun j => .int ((ac_T 1).getD j 0)) (A := A) (N := 8) (by decide) (hn _ nf_ta1.1) (va_eqt (hn _ nf_ta1.2)) (fun j hj => va_eqt (hn _ (nf_te1 j hj))) hA
  obtain ⟨t2, e2, h2⟩ := va_Tof (tm := .static "FaultBench" "MOST_VALUE" "[I") (f := fun j => .int ((ac_T 2).getD j 0)) (A := A) (N := 8) (by decide) (hn _ nf_ta2.1) (va_eqt (hn _ nf_ta2.2)) (fun j hj => va_eqt (hn _ (nf_te2 j hj))) hA
  obtain ⟨t3, e3, h3⟩ := va_Tof (tm := .static "java/lang/Integer" "DigitOnes" "[B") (f := fun j => .int (ac_D 0 j)) (A := A) (N := 100) (by decide) (hn _ nf_da0.1) (va_eqt (hn _ nf_da0.2)) (fun j hj => va_eqt (hn _ (nf_de0 j hj))) hA
  obtain ⟨t4, e4, h4⟩ := va_Tof (tm := .static "java/lang/Integer" "DigitTens" "[B") (f := fun j => .int (ac_D 1 j)) (A := A) (N := 100) (by decide) (hn _ nf_da1.1) (va_eqt (hn _ nf_da1.2)) (fun j hj => va_eqt (hn _ (nf_de1 j hj))) hA
  refine ⟨fun i => if i = 0 then t0 else if i = 1 then t1 else if i = 2 then t2 else if i = 3 then t3 else t4, fun i hi => ?_, fun i hi => ?_⟩
  · rcases (show i = 0 ∨ i = 1 ∨ i = 2 by omega) with rfl | rfl | rfl
    · exact ⟨va_Zref (hts _ ts_lFIRST_VALUE) (hts _ ts_iFaultBench) e0 hA, h0⟩
    · exact ⟨va_Zref (hts _ ts_lLEAST_VALUE) (hts _ ts_iFaultBench) e1 hA, h1⟩
    · exact ⟨va_Zref (hts _ ts_lMOST_VALUE) (hts _ ts_iFaultBench) e2 hA, h2⟩
  · rcases (show i = 0 ∨ i = 1 by omega) with rfl | rfl
    · exact ⟨va_Zref (hts _ ts_lDigitOnes) (hts _ ts_iInteger) e3 hA, h3⟩
    · exact ⟨va_Zref (hts _ ts_lDigitTens) (hts _ ts_iInteger) e4 hA, h4⟩
theorem st_arr {ty : FieldType} (h : (Cond.arrayClass ty).before as s = true) (hp : ∀ C, ty ≠ .object C) : ∃ c : ClassId, ArrOfT s c ty ∧ va_RA s c ty := by
  obtain ⟨c, k, comp, h1, h2, h3⟩ := Cond.arrayClass_spec (args := as) (first := s) (o := none) (s := s) (idx := []) h
  refine ⟨c, fun N z => ⟨(fun k h => by cases h), k, h2, comp, h3⟩, ?_⟩
  cases ty <;> first | exact h1 | exact absurd rfl (hp _)
theorem st_aro {C : String} (h : (Cond.arrayOver (.object C)).before as s = true) : ∃ c : ClassId, ArrOfT s c (.object C) ∧ va_RA s c (.object C) := by
  obtain ⟨comp, c, k, h1, -, h3, h4, h5⟩ := Cond.arrayOver_spec (args := as) (first := s) (o := none) (s := s) (idx := []) h
  exact ⟨c, fun N z => ⟨(fun k h => by cases h), k, h3, comp, h4⟩, k, comp, h3, h4, h1, h5⟩
theorem st_cls (hts : ∀ w ∈ lw_tbl, w.before as s = true) : ∃ D : va_G, ∀ (k : Nat) (q : vw_C), vwCl[k]? = some q → u_Kn s q.1 q.2.1 q.2.2 (D.1 k) (D.2 k) := by
  have h9 : ∀ w ∈ wsL_law, w.before as s = true := tc_all hts
  obtain ⟨c0, i0, hh0⟩ := u_known (C := RX0) (T := TX0) (N := 6) (n := 6) h9 wi_wsX00 (h9 _ w_11)
  obtain ⟨c1, i1, hh1⟩ := u_known (C := RX1) (T := TX1) (N := 8) (n := 8) h9 wi_wsX10 (h9 _ w_63)
  obtain ⟨c2, i2, hh2⟩ := u_known (C := RX2) (T := TX2) (N := 11) (n := 11) h9 wi_wsX20 (h9 _ w_59)
  obtain ⟨c3, i3, hh3⟩ := u_known (C := RX3) (T := TX3) (N := 10) (n := 10) h9 wi_wsX30 (h9 _ w_20)
  obtain ⟨c4, i4, hh4⟩ := u_known (C := RX4) (T := TX4) (N := 15) (n := 15) h9 wi_wsX40 (h9 _ w_16)
  obtain ⟨c5, i5, hh5⟩ := u_known (C := RX5) (T := TX5) (N := 1) (n := 1) h9 wi_wsX50 (h9 _ w_38)
  obtain ⟨c6, i6, hh6⟩ := u_known (C := RX6) (T := TX6) (N := 8) (n := 8) h9 wi_wsX60 (h9 _ w_1)
  obtain ⟨c7, i7, hh7⟩ := u_known (C := RX7) (T := TX7) (N := 4) (n := 4) h9 wi_wsX70 (h9 _ w_133)
  obtain ⟨c8, i8, hh8⟩ := u_known (C := RX8) (T := TX8) (N := 18) (n := 18) h9 wi_wsX80 (h9 _ w_107)
  obtain ⟨c9, i9, hh9⟩ := u_known (C := RJ0) (T := TJ0) (N := 4) (n := 4) h9 wi_wsJ00 (h9 _ w_339)
  obtain ⟨c10, i10, hh10⟩ := u_known (C := RJ4) (T := TJ4) (N := 4) (n := 4) h9 wi_wsJ40 (h9 _ w_104)
  refine ⟨(fun k => if k = 0 then c0 else if k = 1 then c1 else if k = 2 then c2 else if k = 3 then c3 else if k = 4 then c4 else if k = 5 then c5 else if k = 6 then c6 else if k = 7 then c7 else if k = 8 then c8 else if k = 9 then c9 else c10, fun k => if k = 0 then i0 else if k = 1 then i1 else if k = 2 then i2 else if k = 3 then i3 else if k = 4 then i4 else if k = 5 then i5 else if k = 6 then i6 else if k = 7 then i7 else if k = 8 then i8 else if k = 9 then i9 else i10), ?_⟩
  intro k q hq
  match k, hq with
  | 0, hq => cases hq; exact hh0
  | 1, hq => cases hq; exact hh1
  | 2, hq => cases hq; exact hh2
  | 3, hq => cases hq; exact hh3
  | 4, hq => cases hq; exact hh4
  | 5, hq => cases hq; exact hh5
  | 6, hq => cases hq; exact hh6
  | 7, hq => cases hq; exact hh7
  | 8, hq => cases hq; exact hh8
  | 9, hq => cases hq; exact hh9
  | 10, hq => cases hq; exact hh10
  | k + 11, hq => simp [vwCl] at hq
theorem st_wrd (hn : ∀ c ∈ nf_l, c.before as s = true) (hts : ∀ w ∈ lw_tbl, w.before as s = true) {adK : Nat → Nat} (hK : ∀ i : Nat, i < 19 → (nf_t i).eval as s none [] s = some (.ref (adK i))) : ∀ i : Nat, i < 22 → vk_R (ac_Wr i).1 (ac_Wr i).2.1 (ac_Bs (ac_Wr i).2.2) (adK (ac_Wr i).2.2) s := by
  intro i hi
  rcases (show i = 0 ∨ i = 1 ∨ i = 2 ∨ i = 3 ∨ i = 4 ∨ i = 5 ∨ i = 6 ∨ i = 7 ∨ i = 8 ∨ i = 9 ∨ i = 10 ∨ i = 11 ∨ i = 12 ∨ i = 13 ∨ i = 14 ∨ i = 15 ∨ i = 16 ∨ i = 17 ∨ i = 18 ∨ i = 19 ∨ i = 20 ∨ i = 21 by omega) with rfl | rfl | rfl | rfl | rfl | rfl | rfl | rfl | rfl | rfl | rfl | rfl | rfl | rfl | rfl | rfl | rfl | rfl | rfl | rfl | rfl | rfl
  · exact vk_R.of (A := as) (hts _ ts_w0) (hK 0 (by decide))
  · exact vk_R.of (A := as) (hts _ ts_w1) (va_eqR (hn _ nf_sm1) (hK 1 (by decide)))
  · exact vk_R.of (A := as) (hts _ ts_w2) (va_eqR (hn _ nf_sm2) (hK 2 (by decide)))
  · exact vk_R.of (A := as) (hts _ ts_w3) (va_eqR (hn _ nf_sm3) (hK 3 (by decide)))
  · exact vk_R.of (A := as) (hts _ ts_w4) (hK 4 (by decide))
  · exact vk_R.of (A := as) (hts _ ts_w5) (hK 5 (by decide))
  · exact vk_R.of (A := as) (hts _ ts_w6) (hK 6 (by decide))
  · exact vk_R.of (A := as) (hts _ ts_w7) (hK 7 (by decide))
  · exact vk_R.of (A := as) (hts _ ts_w8) (hK 8 (by decide))
  · exact vk_R.of (A := as) (hts _ ts_w9) (hK 9 (by decide))
  · exact vk_R.of (A := as) (hts _ ts_w10) (hK 10 (by decide))
  · exact vk_R.of (A := as) (hts _ ts_w11) (hK 11 (by decide))
  · exact vk_R.of (A := as) (hts _ ts_w12) (hK 1 (by decide))
  · exact vk_R.of (A := as) (hts _ ts_w13) (hK 2 (by decide))
  · exact vk_R.of (A := as) (hts _ ts_w14) (hK 3 (by decide))
  · exact vk_R.of (A := as) (hts _ ts_w15) (hK 12 (by decide))
  · exact vk_R.of (A := as) (hts _ ts_w16) (hK 13 (by decide))
  · exact vk_R.of (A := as) (hts _ ts_w17) (hK 14 (by decide))
  · exact vk_R.of (A := as) (hts _ ts_w18) (hK 15 (by decide))
  · exact vk_R.of (A := as) (hts _ ts_w19) (hK 16 (by decide))
  · exact vk_R.of (A := as) (hts _ ts_w20) (hK 17 (by decide))
  · exact vk_R.of (A := as) (hts _ ts_w21) (hK 18 (by decide))
theorem st_exc (hn : ∀ c ∈ nf_l, c.before as s = true) (hts : ∀ w ∈ lw_tbl, w.before as s = true) : ∀ i : Nat, i < 11 → ∃ a : Nat, vk_R RX6 (ac_Xr i).1 (ac_Xr i).2 a s := by
  intro i hi
  obtain ⟨a, c, cA, kA, q1, -⟩ := Cond.exactly_spec (args := as) (first := s) (o := none) (s := s) (idx := []) (t := nf_x i) (cls := "java/lang/String") (hn _ (nf_xx i hi))
  refine ⟨a, vk_R.of (A := as) ?_ ?_⟩
  · rcases (show i = 0 ∨ i = 1 ∨ i = 2 ∨ i = 3 ∨ i = 4 ∨ i = 5 ∨ i = 6 ∨ i = 7 ∨ i = 8 ∨ i = 9 ∨ i = 10 by omega) with rfl | rfl | rfl | rfl | rfl | rfl | rfl | rfl | rfl | rfl | rfl
    · exact hts _ ts_x0
    · exact hts _ ts_x1
    · exact hts _ ts_x2
    · exact hts _ ts_x3
    · exact hts _ ts_x4
    · exact hts _ ts_x5
    · exact hts _ ts_x6
    · exact hts _ ts_x7
    · exact hts _ ts_x8
    · exact hts _ ts_x9
    · exact hts _ ts_x10
  · exact q1
end KST
set_option maxHeartbeats 4000000 in
set_option maxRecDepth 100000 in
theorem st_all {s : State} {as : Array Value} {l : Launch} (hflags : l.flags = flags0) (hts : ∀ w ∈ lw_tbl, w.before as s = true) (hgv : (Jvm.Cond.and given_1 narrow_1).before as s = true) : ∃ Λ : ex_L, ex_l Λ = l ∧ ex_z Λ = s.heap.size ∧ ac_K Λ s := by
  have hn : ∀ c ∈ nf_l, c.before as s = true := flat_of_before _ hgv
  have h9 : ∀ w ∈ wsL_law, w.before as s = true := tc_all hts
  have hA : ∀ a : Nat, a < s.heap.size → ¬ (fun q : Nat => s.heap.size ≤ q) a := fun a h => Nat.not_le.mpr h
  obtain ⟨adK, adV, hS⟩ := st_str hn hA
  obtain ⟨ad, hT⟩ := st_tab hn hts hA
  obtain ⟨D, hD⟩ := st_cls hts
  obtain ⟨a0, g0⟩ := st_arr (h9 _ w_3) (fun C h => by cases h)
  obtain ⟨a1, g1⟩ := st_arr (h9 _ w_118) (fun C h => by cases h)
  obtain ⟨a2, g2⟩ := st_arr (h9 _ w_26) (fun C h => by cases h)
  obtain ⟨a4, g4⟩ := st_aro (hts _ ts_ao)
  have hns : ∀ {w : Cond}, w.onTables = true → w ∈ lw_tbl → va_Nw w s := fun h1 h2 => va_Nw.of h1 (hts _ h2)
  refine ⟨(l, D, (fun k => if k = 0 then a0 else if k = 1 then a1 else if k = 2 then a2 else if k = 3 then a0 else a4), s.heap.size, ad, adK, adV), rfl, rfl, ⟨?_, ⟨hD, ?_⟩, ?_, st_exc hn hts, ?_, va_AO.of (hts _ ts_ao), ?_⟩, ⟨hT, fun i hi => (hS i hi).2, ?_, ?_, ?_, ?_⟩, Nat.le_refl _⟩
  · show l.stackTraces = false
    unfold Launch.stackTraces
    rw [hflags]
    decide +kernel
  · intro k q hq
    match k, hq with
    | 0, hq => cases hq; exact g0
    | 1, hq => cases hq; exact g1
    | 2, hq => cases hq; exact g2
    | 3, hq => cases hq; exact g0
    | 4, hq => cases hq; exact g4
    | k + 5, hq => simp [ac_t] at hq
  · exact st_wrd hn hts (fun i hi => (hS i hi).1)
  · intro i hi
    rcases (show i = 0 ∨ i = 1 ∨ i = 2 ∨ i = 3 ∨ i = 4 ∨ i = 5 ∨ i = 6 ∨ i = 7 ∨ i = 8 ∨ i = 9 ∨ i = 10 ∨ i = 11 ∨ i = 12 ∨ i = 13 ∨ i = 14 ∨ i = 15 ∨ i = 16 ∨ i = 17 ∨ i = 18 ∨ i = 19 ∨ i = 20 ∨ i = 21 ∨ i = 22 ∨ i = 23 by omega) with rfl | rfl | rfl | rfl | rfl | rfl | rfl | rfl | rfl | rfl | rfl | rfl | rfl | rfl | rfl | rfl | rfl | rfl | rfl | rfl | rfl | rfl | rfl | rfl
    · exact hns rfl ts_f0
    · exact hns rfl ts_f1
    · exact hns rfl ts_f2
    · exact hns rfl ts_f3
    · exact hns rfl ts_f4
    · exact hns rfl ts_f5
    · exact hns rfl ts_f6
    · exact hns rfl ts_f7
    · exact hns rfl ts_f8
    · exact hns rfl ts_f9
    · exact hns rfl ts_f10
    · exact hns rfl ts_f11
    · exact hns rfl ts_f12
    · exact hns rfl ts_f13
    · exact hns rfl ts_f14
    · exact hns rfl ts_f15
    · exact hns rfl ts_f16
    · exact hns rfl ts_f17
    · exact hns rfl ts_f18
    · exact hns rfl ts_f19
    · exact hns rfl ts_f20
    · exact hns rfl ts_f21
    · exact hns rfl ts_f22
    · exact hns rfl ts_f23
  · intro i hi
    rcases (show i = 0 ∨ i = 1 ∨ i = 2 ∨ i = 3 ∨ i = 4 ∨ i = 5 ∨ i = 6 by omega) with rfl | rfl | rfl | rfl | rfl | rfl | rfl
    · exact hns rfl ts_k0
    · exact hns rfl ts_k1
    · exact hns rfl ts_k2
    · exact hns rfl ts_k3
    · exact hns rfl ts_k4
    · exact hns rfl ts_k5
    · exact hns rfl ts_k6
  · exact va_Zof (hts _ ts_lc) (hts _ ts_iString) (va_eqi (hn _ nf_cs)) hA
  · exact va_Zqof (hts _ ts_lf) (hts _ ts_iPreconditions) (hn _ nf_sf) hA
  · exact vx_Zqof (hts _ ts_lu) (hts _ ts_iThrowable) (hn _ nf_us) hA
  · exact vx_Zqof (hts _ ts_ls) (hts _ ts_iThrowable) (hn _ nf_ss) hA

/-! THE JDK's String.length and String.charAt over the words of the texts. -/
def mo_sl {α : Type} (i : Nat) (F : Int32 → Option α) : Option α := if i < 19 then F (nI (ac_B i).length) else none
def mo_sc {α : Type} (i : Nat) (x : Int32) (F : Int32 → Option α) : Option α := if i < 19 then (if x < 0 ∨ (ac_B i).length ≤ x.toNatClampNeg then none else F ((ac_B i).getD x.toNatClampNeg 0)) else none
theorem ac_Bok : ∀ i, i < 19 → (ac_B i).length < 100 ∧ ∀ b ∈ ac_B i, b.toInt8.toInt32 = b ∧ ((b &&& 255).toUInt32 % 65536).toInt32 = b ∧ narrow .char (.int b) = .int b := by decide +kernel
theorem ac_Bat {i j : Nat} (hi : i < 19) (hj : j < (ac_B i).length) : (((ac_B i).getD j 0 &&& 255).toUInt32 % 65536).toInt32 = (ac_B i).getD j 0 ∧ narrow .char (.int ((ac_B i).getD j 0)) = .int ((ac_B i).getD j 0) := by
  have h := (ac_Bok i hi).2 ((ac_B i).getD j 0) (by rw [List.getD_eq_getElem?_getD, List.getElem?_eq_getElem hj]; exact List.getElem_mem hj)
  exact h.2
section KX7
variable {Λ : ex_L} {Γ : kx_T} {own : String} {cc : ByteArray} {nL : Nat} {ret : Option FieldType} {rm : Room} {tb : List ExceptionTableEntry} {N N' : Nat → Prop} {σ σ' : ac_H} {k n pc : Nat} {lv : List (Nat × Value)} {st : List Value} {α ρ ρ' : Type} {r : α}
theorem kx_tret {ty : FieldType} (K : kx_K Λ Γ own cc nL (some ty) rm tb) {x : Int32} (hQ : kx_Q Λ Γ (.inr (some (.int x))) σ N' rm) (hk : k ≤ rm.cells) (hn : n ≤ rm.slots) (hN9 : ∀ q, N q → N' q) (hd : decode cc pc = .ok (.ireturn, 1)) (hnr : narrow ty (.int x) = .int x) : kx_S Λ Γ nL N σ k n pc lv [.int x] := by
  intro H locs ls hR hN hS hl
  refine W.widen hk hn ?_
  rw [hQ]
  exact vx_ret (W.zret K.1 K.2.1 K.2.2.2.2.2.2.1 hnr (fun t ht hW => ⟨⟨_, rfl, rfl⟩, by rw [ht]; exact hR, by rw [ht]; exact hN9 _ hN, hS.F ht⟩) hS.2.2 hd K.2.2.2.2.2.2.2.1)
theorem kx_sval (K : kx_K Λ Γ RJ0 cc nL ret rm tb) {i : Nat} (hi : i < 19) (hd : decode cc pc = .ok (.getfield 9, 3)) (kk : kx_S Λ Γ nL N σ k n (pc + 3) lv (.ref (ex_v Λ i) :: st)) : kx_S Λ Γ nL N σ k n pc lv (.ref (ex_k Λ i) :: st) := fun H locs ls hR hN hS hl =>
  vk_getf K.1 K.2.1 (K.2.2.2.2.2.1.2.1.2.1 i hi).2.2.1 hS K.2.2.2.1 (K.2.2.2.2.1 _ w_233) (fun _ h => h) hd (kk H locs ls hR hN hS hl)
theorem kx_scod (K : kx_K Λ Γ RJ0 cc nL ret rm tb) {i : Nat} (hi : i < 19) (hd : decode cc pc = .ok (.getfield 15, 3)) (kk : kx_S Λ Γ nL N σ k n (pc + 3) lv (.int 0 :: st)) : kx_S Λ Γ nL N σ k n pc lv (.ref (ex_k Λ i) :: st) := fun H locs ls hR hN hS hl =>
  vk_getf K.1 K.2.1 (K.2.2.2.2.2.1.2.1.2.1 i hi).2.1 hS K.2.2.2.1 (K.2.2.2.2.1 _ w_239) (fun _ h => h) hd (kk H locs ls hR hN hS hl)
theorem kx_scmp (K : kx_K Λ Γ RJ0 cc nL ret rm tb) (hd : decode cc pc = .ok (.getstatic 38, 3)) (kk : kx_S Λ Γ nL N σ k n (pc + 3) lv (.int 1 :: st)) : kx_S Λ Γ nL N σ k n pc lv st := fun H locs ls hR hN hS hl =>
  va_gets K.1 K.2.1 K.2.2.2.2.2.1.2.1.2.2.1 hS K.2.2.2.1 (K.2.2.2.2.1 _ w_238) (fun _ h => h) hd (kk H locs ls hR hN hS hl)
theorem kx_sfmt (K : kx_K Λ Γ RJ0 cc nL ret rm tb) (hd : decode cc pc = .ok (.getstatic 1053, 3)) (kk : ∀ o : Option Nat, kx_S Λ Γ nL N σ k n (pc + 3) lv (va_rf o :: st)) : kx_S Λ Γ nL N σ k n pc lv st := fun H locs ls hR hN hS hl => by
  rcases K.2.2.2.2.2.1.2.1.2.2.2.1 with hz | ⟨t, hz⟩
  · exact va_gets K.1 K.2.1 hz hS K.2.2.2.1 (K.2.2.2.2.1 _ w_219) (fun _ h => h) hd (kk none H locs ls hR hN hS hl)
  · exact va_gets K.1 K.2.1 hz hS K.2.2.2.1 (K.2.2.2.2.1 _ w_219) (fun _ h => h) hd (kk (some t) H locs ls hR hN hS hl)
theorem kx_slen (K : kx_K Λ Γ own cc nL ret rm tb) {i : Nat} (hi : i < 19) (hd : decode cc pc = .ok (.arraylength, 1)) (kk : kx_S Λ Γ nL N σ k n (pc + 1) lv (.int (nI (ac_B i).length) :: st)) : kx_S Λ Γ nL N σ k n pc lv (.ref (ex_v Λ i) :: st) := fun H locs ls hR hN hS hl =>
  va_tlen K.1 K.2.1 (K.2.2.2.2.2.1.2.1.2.1 i hi).2.2.2 hS rfl hd (kk H locs ls hR hN hS hl)
theorem kx_sbyt (K : kx_K Λ Γ own cc nL ret rm tb) {i : Nat} {x : Int32} (hi : i < 19) (hx : vp_in x (ac_B i).length) (hd : decode cc pc = .ok (.baload, 1)) (kk : kx_S Λ Γ nL N σ k n (pc + 1) lv (.int ((ac_B i).getD x.toNatClampNeg 0) :: st)) : kx_S Λ Γ nL N σ k n pc lv (.int x :: .ref (ex_v Λ i) :: st) := fun H locs ls hR hN hS hl =>
  va_tb K.1 K.2.1 (K.2.2.2.2.2.1.2.1.2.1 i hi).2.2.2 hS hx rfl hd (kk H locs ls hR hN hS hl)
theorem kx_i2c (K : kx_K Λ Γ own cc nL ret rm tb) {x : Int32} (hd : decode cc pc = .ok (.i2c, 1)) (kk : kx_S Λ Γ nL N σ k n (pc + 1) lv (.int (x.toUInt32 % 65536).toInt32 :: st)) : kx_S Λ Γ nL N σ k n pc lv (.int x :: st) := fun H locs ls hR hN hS hl => lv_i2c K.1 K.2.1 hd rfl (kk H locs ls hR hN hS hl)
/-- a call by a word of the texts -/
theorem kx_sv (K : kx_K Λ Γ own cc nL ret rm tb) {idx np mL i : Nat} {y : MethodName} {cy : ByteArray} {rety : Option FieldType} {rmy : Room} {As st0 : List Value} {x : Int32} (hi : i < 19) (hy : y.cls = "java/lang/String") (hM : Cond.methodLink own idx y ∈ wsL_law ∧ Cond.instanceMethod y ∈ wsL_law ∧ Cond.selects y.cls y y ∈ wsL_law ∧ Cond.initialized y.cls ∈ wsL_law ∧ Cond.code y cy mL rety ∈ wsL_law ∧ (y.cls ≠ "java/lang/invoke/MethodHandle" ∧ y.cls ≠ "java/lang/invoke/VarHandle") ∧ (parseMethodDescriptor y.desc).map (fun d => d.parameters.length) = some np) (hrm : rmy.frames + 1 ≤ rm.frames ∧ 8 + (mL + 11) + rmy.locals ≤ rm.locals ∧ rmy.cells = 0 ∧ rmy.slots = 0 ∧ k ≤ rm.cells ∧ n ≤ rm.slots) (hA : As.length = np) (hst : st0 = As.reverse ++ .ref (ex_k Λ i) :: st) (hc : (st.map fun v => v.category).sum ≤ 8) (hd : decode cc pc = .ok (.invokevirtual idx, 3))
    (hC : ∀ q : Nat, kx_C Λ y (.code y cy mL rety) rmy (.ref (ex_k Λ i) :: As) q σ (.inr (some (.int x))) σ (fun z => z = q)) (kk : kx_S Λ Γ nL N σ k n (pc + 3) lv (.int x :: st)) : kx_S Λ Γ nL N σ k n pc lv st0 := by
  obtain ⟨hfr, hlo, h0, h1, hk, hn⟩ := hrm
  obtain ⟨m2, m3, m4, m5, m6, m7, m8⟩ := hM
  have hts := K.2.2.2.2.1
  have hRm := K.2.2.2.2.2.2.2.2.1
  intro H locs ls hR hN hS hl
  have hrc : ∃ cell : Cell, H[ex_k Λ i]? = some cell ∧ cell.vm.isStatics = false ∧ (kx_s Γ).vm.findClass y.cls = some cell.cls := by
    rw [hy]
    obtain ⟨cell, g1, g2, g3, -⟩ := (K.2.2.2.2.2.1.2.1.2.1 i hi).1.kept hS.2.1
    exact ⟨cell, g1, g2, g3⟩
  have hr : kx_Rn Λ Γ rmy k n H locs (F0 (kx_m Γ) pc ls st0) st (Value.ref (ex_k Λ i) :: As).toArray (.inr (some (.int x))) σ (fun z => z = H.size) :=
    vx_runV (Ts := wsL_law) (C := y.cls) ⟨K.1, K.2.1, K.2.2.1, K.2.2.2.1, hts⟩ (hC H.size) ⟨callB_of np hts (kx_gc m6) rfl rfl rfl (hts _ m5) (hts _ m2) ⟨m7.1, m7.2, m8⟩ (by rw [hRm]; exact ⟨hfr, hlo⟩), hts _ m3, hts _ m4⟩ ⟨kx_blind, hrc, fun U hU hW => ⟨rfl, by rw [hU]; exact hR, by rw [hU], K.2.2.2.2.2.1.at hS hU hW⟩⟩ rfl hA hl.1 hst (lv_room (m := kx_m Γ) (pc := pc) (ls := ls) (rest := st0) hc) hd (by rw [hRm]; exact ⟨by omega, by omega⟩)
  exact kx_back (M := N) hr hl hS (fun q hq => by rw [hq]; exact hN) (by rw [h0, h1]; exact kk)
end KX7
section KJ
variable {Λ : ex_L} {q : Nat} {σ : ac_H} {i : Nat}
theorem k_J0_coder (hi : i < 19) : kx_C Λ yJ0_coder_7d493 (.code yJ0_coder_7d493 cJ0_coder_7d493 1 (some .byte)) ⟨0, 0, 0, 0⟩ [.ref (ex_k Λ i)] q σ (.inr (some (.int 0))) σ (fun z => z = q) := by
  refine kx_in (by decide +kernel) (Nat.le_of_ble_eq_true rfl) ?_
  intro Γ K hnm hsz hQ
  refine kx_lv (lv' := [(0, .ref (ex_k Λ i))]) rfl ?_
  refine kx_scmp K dJ0_coder_7d493_0 ?_
  refine kx_if_eq (A := (none : Option Unit)) (B := some ()) (r := ()) K 13 (by decide) dJ0_coder_7d493_3 (by decide) (fun h => by cases h) (fun _ => ?_)
  refine kx_aload_n K dJ0_coder_7d493_6 rfl 0 rfl ?_
  refine kx_scod K hi dJ0_coder_7d493_7 ?_
  refine kx_goto K 14 dJ0_coder_7d493_10 (by decide) ?_
  exact kx_tret K hQ (by decide) (by decide) (fun _ h => h) dJ0_coder_7d493_14 (by decide)
theorem k_J0_isLatin1 (hi : i < 19) : kx_C Λ yJ0_isLatin1_aae02 (.code yJ0_isLatin1_aae02 cJ0_isLatin1_aae02 1 (some .boolean)) ⟨0, 0, 0, 0⟩ [.ref (ex_k Λ i)] q σ (.inr (some (.int 1))) σ (fun z => z = q) := by
  refine kx_in (by decide +kernel) (Nat.le_of_ble_eq_true rfl) ?_
  intro Γ K hnm hsz hQ
  refine kx_lv (lv' := [(0, .ref (ex_k Λ i))]) rfl ?_
  refine kx_scmp K dJ0_isLatin1_aae02_0 ?_
  refine kx_if_eq (A := (none : Option Unit)) (B := some ()) (r := ()) K 17 (by decide) dJ0_isLatin1_aae02_3 (by decide) (fun h => by cases h) (fun _ => ?_)
  refine kx_aload_n K dJ0_isLatin1_aae02_6 rfl 0 rfl ?_
  refine kx_scod K hi dJ0_isLatin1_aae02_7 ?_
  refine kx_if_ne (A := some ()) (B := (none : Option Unit)) (r := ()) K 17 (by decide) dJ0_isLatin1_aae02_10 (by decide) (fun h => by cases h) (fun _ => ?_)
  refine kx_iconst (v := 1) K dJ0_isLatin1_aae02_13 (by decide) ?_
  refine kx_goto K 18 dJ0_isLatin1_aae02_14 (by decide) ?_
  exact kx_tret K hQ (by decide) (by decide) (fun _ h => h) dJ0_isLatin1_aae02_18 (by decide)
theorem k_J3_checkIndex {x m : Int32} {o : Option Nat} (h0 : ¬ x < 0) (h1 : x < m) : kx_C Λ yJ3_checkIndex_8e157 (.code yJ3_checkIndex_8e157 cJ3_checkIndex_8e157 3 (some .int)) ⟨0, 0, 0, 0⟩ [.int x, .int m, va_rf o] q σ (.inr (some (.int x))) σ (fun z => z = q) := by
  refine kx_in (by decide +kernel) (by cases o <;> exact Nat.le_of_ble_eq_true rfl) ?_
  intro Γ K hnm hsz hQ
  refine kx_lv (lv' := [(0, .int x), (1, .int m), (2, va_rf o)]) (by cases o <;> rfl) ?_
  refine kx_iload_n K dJ3_checkIndex_8e157_0 rfl 0 rfl ?_
  refine kx_if_lt (A := (none : Option Unit)) (B := some ()) (r := ()) K 9 (by rw [if_neg h0]) dJ3_checkIndex_8e157_1 (by decide) (fun h => by cases h) (fun _ => ?_)
  refine kx_iload_n K dJ3_checkIndex_8e157_4 rfl 0 rfl ?_
  refine kx_iload_n K dJ3_checkIndex_8e157_5 rfl 1 rfl ?_
  refine kx_icmp_lt (A := some ()) (B := (none : Option Unit)) (r := ()) K 16 (by rw [if_pos h1]) dJ3_checkIndex_8e157_6 (by decide) (fun _ => ?_) (fun h => by cases h)
  refine kx_iload_n K dJ3_checkIndex_8e157_16 rfl 0 rfl ?_
  exact kx_iret K hQ (by decide) (by decide) (fun _ h => h) dJ3_checkIndex_8e157_17 rfl
theorem k_J0_checkIndex {x m : Int32} (h0 : ¬ x < 0) (h1 : x < m) : kx_C Λ yJ0_checkIndex_df160 (.code yJ0_checkIndex_df160 cJ0_checkIndex_df160 2 none) ⟨1, 0, 0, 22⟩ [.int x, .int m] q σ (.inr none) σ (fun z => z = q) := by
  refine kx_in (by decide +kernel) (Nat.le_of_ble_eq_true rfl) ?_
  intro Γ K hnm hsz hQ
  refine kx_lv (lv' := [(0, .int x), (1, .int m)]) rfl ?_
  refine kx_iload_n K dJ0_checkIndex_df160_0 rfl 0 rfl ?_
  refine kx_iload_n K dJ0_checkIndex_df160_1 rfl 1 rfl ?_
  refine kx_sfmt K dJ0_checkIndex_df160_2 (fun o => ?_)
  refine kx_cs3i (m := some (x, σ)) (F := fun x σ => some (x, σ)) (r := (x, σ)) (rmy := ⟨0, 0, 0, 0⟩) K ⟨w_295, w_296, w_222, w_297, by decide +kernel, by decide +kernel⟩ (by decide) (by decide) dJ0_checkIndex_df160_5 rfl (fun _ x9 σ9 h => by cases h; exact k_J3_checkIndex h0 h1) (fun x9 σ9 h => ?_)
  cases h
  refine kx_pop K dJ0_checkIndex_df160_8 rfl ?_
  exact kx_vret (v := ()) K hQ (by decide) (by decide) (fun _ h => h) dJ0_checkIndex_df160_9 rfl
theorem k_J1_charAt {x : Int32} (hi : i < 19) (hx : vp_in x (ac_B i).length) : kx_C Λ yJ1_charAt_3b067 (.code yJ1_charAt_3b067 cJ1_charAt_3b067 2 (some .char)) ⟨2, 0, 0, 43⟩ [.ref (ex_v Λ i), .int x] q σ (.inr (some (.int ((ac_B i).getD x.toNatClampNeg 0)))) σ (fun z => z = q) := by
  have hlt : x.toNatClampNeg < (ac_B i).length := Nat.not_le.mp fun h => hx (Or.inr h)
  have hlen := (ac_Bok i hi).1
  have h0 : ¬ x < 0 := fun h => hx (Or.inl h)
  have h1 : x < nI (ac_B i).length := by
    obtain ⟨j, hj, rfl⟩ := vp_in_of hx (by omega)
    exact nI_lt hj (by omega)
  refine kx_in (by decide +kernel) (Nat.le_of_ble_eq_true rfl) ?_
  intro Γ K hnm hsz hQ
  refine kx_lv (lv' := [(0, .ref (ex_v Λ i)), (1, .int x)]) rfl ?_
  refine kx_iload_n K dJ1_charAt_3b067_0 rfl 1 rfl ?_
  refine kx_aload_n K dJ1_charAt_3b067_1 rfl 0 rfl ?_
  refine kx_slen K hi dJ1_charAt_3b067_2 ?_
  refine kx_cs2v (m := some ((), σ)) (F := fun x σ => some (x, σ)) (r := ((), σ)) (rmy := ⟨1, 0, 0, 22⟩) K ⟨w_400, w_293, w_217, w_294, by decide +kernel, by decide +kernel⟩ (by decide) (by decide) dJ1_charAt_3b067_3 rfl (fun _ x9 σ9 h => by cases h; exact k_J0_checkIndex h0 h1) (fun x9 σ9 h => ?_)
  cases h
  refine kx_aload_n K dJ1_charAt_3b067_6 rfl 0 rfl ?_
  refine kx_iload_n K dJ1_charAt_3b067_7 rfl 1 rfl ?_
  refine kx_sbyt K hi hx dJ1_charAt_3b067_8 ?_
  refine kx_sipush (v := 255) K dJ1_charAt_3b067_9 (by decide) ?_
  refine kx_iand K dJ1_charAt_3b067_12 ?_
  refine kx_i2c K dJ1_charAt_3b067_13 ?_
  refine kx_eq (st' := [.int ((ac_B i).getD x.toNatClampNeg 0)]) (by rw [(ac_Bat hi hlt).1]) ?_
  exact kx_tret K hQ (by decide) (by decide) (fun _ h => h) dJ1_charAt_3b067_14 (ac_Bat hi hlt).2
theorem k_J0_charAt {x : Int32} (hi : i < 19) (hx : vp_in x (ac_B i).length) : kx_C Λ yJ0_charAt_5068e (.code yJ0_charAt_5068e cJ0_charAt_5068e 2 (some .char)) ⟨3, 0, 0, 64⟩ [.ref (ex_k Λ i), .int x] q σ (.inr (some (.int ((ac_B i).getD x.toNatClampNeg 0)))) σ (fun z => z = q) := by
  have hlt : x.toNatClampNeg < (ac_B i).length := Nat.not_le.mp fun h => hx (Or.inr h)
  refine kx_in (by decide +kernel) (Nat.le_of_ble_eq_true rfl) ?_
  intro Γ K hnm hsz hQ
  refine kx_lv (lv' := [(0, .ref (ex_k Λ i)), (1, .int x)]) rfl ?_
  refine kx_aload_n K dJ0_charAt_5068e_0 rfl 0 rfl ?_
  refine kx_sv (As := []) (np := 0) (x := 1) (rmy := ⟨0, 0, 0, 0⟩) K hi rfl ⟨w_393, w_394, w_395, w_217, w_396, by decide +kernel, by decide +kernel⟩ (by decide) rfl rfl (by decide) dJ0_charAt_5068e_1 (fun _ => k_J0_isLatin1 hi) ?_
  refine kx_if_eq (A := (none : Option Unit)) (B := some ()) (r := ()) K 16 (by decide) dJ0_charAt_5068e_4 (by decide) (fun h => by cases h) (fun _ => ?_)
  refine kx_aload_n K dJ0_charAt_5068e_7 rfl 0 rfl ?_
  refine kx_sval K hi dJ0_charAt_5068e_8 ?_
  refine kx_iload_n K dJ0_charAt_5068e_11 rfl 1 rfl ?_
  refine kx_cs2i (m := some ((ac_B i).getD x.toNatClampNeg 0, σ)) (F := fun x σ => some (x, σ)) (r := ((ac_B i).getD x.toNatClampNeg 0, σ)) (rmy := ⟨2, 0, 0, 43⟩) K ⟨w_397, w_398, w_255, w_399, by decide +kernel, by decide +kernel⟩ (by decide) (by decide) dJ0_charAt_5068e_12 rfl (fun _ x9 σ9 h => by cases h; exact k_J1_charAt hi hx) (fun x9 σ9 h => ?_)
  cases h
  exact kx_tret K hQ (by decide) (by decide) (fun _ h => h) dJ0_charAt_5068e_15 (ac_Bat hi hlt).2
theorem k_J0_length (hi : i < 19) : kx_C Λ yJ0_length_8abf5 (.code yJ0_length_8abf5 cJ0_length_8abf5 1 (some .int)) ⟨1, 0, 0, 20⟩ [.ref (ex_k Λ i)] q σ (.inr (some (.int (nI (ac_B i).length)))) σ (fun z => z = q) := by
  refine kx_in (by decide +kernel) (Nat.le_of_ble_eq_true rfl) ?_
  intro Γ K hnm hsz hQ
  refine kx_lv (lv' := [(0, .ref (ex_k Λ i))]) rfl ?_
  refine kx_aload_n K dJ0_length_8abf5_0 rfl 0 rfl ?_
  refine kx_sval K hi dJ0_length_8abf5_1 ?_
  refine kx_slen K hi dJ0_length_8abf5_4 ?_
  refine kx_aload_n K dJ0_length_8abf5_5 rfl 0 rfl ?_
  refine kx_sv (As := []) (np := 0) (x := 0) (rmy := ⟨0, 0, 0, 0⟩) K hi rfl ⟨w_234, w_235, w_236, w_217, w_237, by decide +kernel, by decide +kernel⟩ (by decide) rfl rfl (Nat.le_of_ble_eq_true rfl) dJ0_length_8abf5_6 (fun _ => k_J0_coder hi) ?_
  refine kx_ishr K dJ0_length_8abf5_9 ?_
  refine kx_eq (st' := [.int (nI (ac_B i).length)]) (by rw [sb_shr0]) ?_
  exact kx_iret K hQ (by decide) (by decide) (fun _ h => h) dJ0_length_8abf5_10 rfl
end KJ
section KX8
variable {Λ : ex_L} {Γ : kx_T} {own : String} {cc : ByteArray} {nL : Nat} {ret : Option FieldType} {rm : Room} {tb : List ExceptionTableEntry} {N N' : Nat → Prop} {σ σ' : ac_H} {k n pc : Nat} {lv : List (Nat × Value)} {st : List Value} {α ρ ρ' : Type} {r : α}
/-- word.length(), word.charAt(x) -/
theorem kx_wl (K : kx_K Λ Γ own cc nL ret rm tb) {idx i : Nat} (hw : Cond.methodLink own idx yJ0_length_8abf5 ∈ wsL_law) (hrm : 2 ≤ rm.frames ∧ 40 ≤ rm.locals ∧ k ≤ rm.cells ∧ n ≤ rm.slots) (hc : (st.map fun v => v.category).sum ≤ 8) (hd : decode cc pc = .ok (.invokevirtual idx, 3)) {F : Int32 → Option α} (hf : mo_sl i F = some r) (kk : ∀ x : Int32, F x = some r → kx_S Λ Γ nL N σ k n (pc + 3) lv (.int x :: st)) : kx_S Λ Γ nL N σ k n pc lv (.ref (ex_k Λ i) :: st) := by
  unfold mo_sl at hf
  split at hf
  · rename_i hi
    exact kx_sv (As := []) (np := 0) (rmy := ⟨1, 0, 0, 20⟩) K hi rfl ⟨hw, w_230, w_231, w_217, w_232, by decide +kernel, by decide +kernel⟩ ⟨hrm.1, by have := hrm.2.1; show 8 + (1 + 11) + 20 ≤ _; omega, rfl, rfl, hrm.2.2.1, hrm.2.2.2⟩ rfl rfl hc hd (fun _ => k_J0_length hi) (kk _ hf)
  · cases hf
theorem kx_wc (K : kx_K Λ Γ own cc nL ret rm tb) {idx i : Nat} {x : Int32} (hw : Cond.methodLink own idx yJ0_charAt_5068e ∈ wsL_law) (hrm : 4 ≤ rm.frames ∧ 85 ≤ rm.locals ∧ k ≤ rm.cells ∧ n ≤ rm.slots) (hc : (st.map fun v => v.category).sum ≤ 8) (hd : decode cc pc = .ok (.invokevirtual idx, 3)) {F : Int32 → Option α} (hf : mo_sc i x F = some r) (kk : ∀ x : Int32, F x = some r → kx_S Λ Γ nL N σ k n (pc + 3) lv (.int x :: st)) : kx_S Λ Γ nL N σ k n pc lv (.int x :: .ref (ex_k Λ i) :: st) := by
  unfold mo_sc at hf
  split at hf
  · rename_i hi
    split at hf
    · cases hf
    · rename_i hx
      exact kx_sv (As := [.int x]) (np := 1) (rmy := ⟨3, 0, 0, 64⟩) K hi rfl ⟨hw, w_390, w_391, w_217, w_392, by decide +kernel, by decide +kernel⟩ ⟨hrm.1, by have := hrm.2.1; show 8 + (2 + 11) + 64 ≤ _; omega, rfl, rfl, hrm.2.2.1, hrm.2.2.2⟩ rfl rfl hc hd (fun _ => k_J0_charAt hi hx) (kk _ hf)
  · cases hf
end KX8

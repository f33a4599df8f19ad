/-! ROWS of the law: handlers, calls that may make cells, the script. -/
/-- E was thrown over the method's frame at pc -/
def kx_E (Λ : ex_L) (Γ : kx_T) (nL : Nat) (N : Nat → Prop) (σ : ac_H) (k n : Nat) (pc : Nat) (lv : List (Nat × Value)) (st : List Value) (E : String) : Prop :=
  ∀ (H : Heap) (locs : List Loc) (ls : Array Slot) (q : Addr) (ce : Cell), ac_R Λ σ H → N H.size → va_S (ex_A Λ) (kx_s Γ).heap H locs → lv_has ls nL lv → H[q]? = some ce → ce.vm = .none → (kx_s Γ).vm.findClass E = some ce.cls →
    vx_W (kx_p Γ) (ex_l Λ) (kx_e Γ) (kx_R Γ) (kx_s Γ) (kx_m Γ) (kx_a Γ) (kx_b Γ) (kx_h Γ) (kx_c Γ) H locs k n (kx_q Γ) (F0 (kx_m Γ) pc ls st) q
theorem kx_inH {Λ : ex_L} {y : MethodName} {cc : ByteArray} {maxL : Nat} {ret : Option FieldType} {hh : List (Nat × Nat × Nat × Nat)} {rm : Room} {as : List Value} {q : Nat} {σ σ' : ac_H} {o : String ⊕ Option Value} {N' : Nat → Prop} (hy : plainName y.cls = true) (hlen : (lg_sl as).length ≤ maxL)
    (body : ∀ Γ : kx_T, kx_K Λ Γ y.cls cc maxL ret rm (tableOf hh) → (kx_s Γ).heap.size = q → kx_Q Λ Γ o σ' N' rm → kx_S Λ Γ maxL (fun z => z = q) σ 0 0 0 (lv_args 0 as) []) : kx_C Λ y (.codeWith y cc maxL ret hh) rm as q σ o σ' N' := by
  refine vx_ofWH (cc := cc) (maxL := maxL) (ret := ret) (hh := hh) hy rfl ?_
  intro p e s m args below meth c s₁ B hml hv
  obtain ⟨rfl, hR, hz, hK⟩ := hv
  have hts := atoms_spec (ws := Cond.codeWith y cc maxL ret hh :: wsL_law) B.pre
  have htb : c.exceptionTable.toList = tableOf hh := vx_table (x := y) B (hts _ List.mem_cons_self)
  have K := body (p, e, rm, s, m, as.toArray, below, meth, c, vx_MQ below (kx_Qc Λ o σ' N') (kx_Xc Λ o σ' N') as.toArray s rm.cells rm.slots (ex_A Λ)) ⟨B.exec, B.bytes, hml, findClass_of_methodNamed B.named, fun w hw => hts w (List.mem_cons_of_mem _ hw), hK, B.returns, B.notSynchronized, rfl, htb⟩ hz rfl
  rw [lg_entry_eq]
  exact K s.heap [] _ hR hz va_S.rf (lv_entry as hlen)
def kx_MSW (own : String) (idx : Nat) (y : MethodName) (cy : ByteArray) (mL : Nat) (rety : Option FieldType) (hh : List (Nat × Nat × Nat × Nat)) (np : Nat) : Prop := Cond.methodLink own idx y ∈ wsL_law ∧ Cond.static y ∈ wsL_law ∧ Cond.initialized y.cls ∈ wsL_law ∧ Cond.codeWith y cy mL rety hh ∈ wsL_law ∧ (y.cls ≠ "java/lang/invoke/MethodHandle" ∧ y.cls ≠ "java/lang/invoke/VarHandle") ∧ (parseMethodDescriptor y.desc).map (fun d => d.parameters.length) = some np
section KX9
variable {Λ : ex_L} {Γ : kx_T} {own : String} {cc : ByteArray} {nL : Nat} {ret : Option FieldType} {rm : Room} {tb : List ExceptionTableEntry} {N N' : Nat → Prop} {σ σ' : ac_H} {k n pc : Nat} {lv : List (Nat × Value)} {st : List Value} {α ρ ρ' : Type} {r : α}
/-- it threw, and the method may take it -/
theorem kx_caught {H : Heap} {locs : List Loc} {ls : Array Slot} {rmy : Room} {E : String} {σ1 : ac_H} {N1 M : Nat → Prop} {st0 : List Value} {as : Array Value} (hr : kx_Rn Λ Γ rmy k n H locs (F0 (kx_m Γ) pc ls st0) st as (.inl E) σ1 N1) (hl : lv_has ls nL lv) (hS : va_S (ex_A Λ) (kx_s Γ).heap H locs) (hM : ∀ q, N1 q → M q) (kk : kx_E Λ Γ nL M σ1 (k + rmy.cells) (n + rmy.slots) pc lv st E) :
    W (kx_p Γ) (ex_l Λ) (kx_e Γ) (kx_R Γ) (kx_s Γ) (kx_m Γ) (kx_a Γ) (kx_b Γ) (kx_h Γ) (kx_c Γ) H locs k n (kx_q Γ) (F0 (kx_m Γ) pc ls st0) := by
  intro T hT X
  rcases hr T hT X with ⟨v, st₀, t, T', L, h0, X', hL, e1, e2, ⟨⟨rv', ho, hv⟩, -⟩, stp⟩ | ⟨q, st₀, t, T', L, E', ce, h0, X', hL, e1, e2, ⟨ho, hR1, hN1, hF⟩, hce, hcv, hcl, stp⟩
  · cases ho
  · cases ho
    obtain ⟨k1, k2, k3⟩ := vx_keep h0 e1 hS (A1 := ex_A Λ) (fun _ _ h => h) (free := ex_A Λ) (fun _ h => h) hL hF
    obtain ⟨t2, a1, b1⟩ := kk T'.heap (locs ++ L) ls q ce (by rw [e1]; exact hR1) (by rw [e1]; exact hM _ hN1) k3 hl (by rw [e1]; exact hce) hcv hcl T' rfl X'
    exact ⟨t2, stp.trans a1, b1⟩
theorem kx_xh (K : kx_K Λ Γ own cc nL ret rm tb) {idx ci np mL b k' n' : Nat} {y : MethodName} {cy : ByteArray} {rety : Option FieldType} {rmy : Room} {As st0 : List Value} {m : Option ((String ⊕ Int32) × ac_H)} {X : String → ac_H → Option α} {F : Int32 → ac_H → Option α} (hM : kx_MV own idx y cy mL rety ci np) (hrm : rmy.frames + 1 ≤ rm.frames ∧ 8 + (mL + 11) + rmy.locals ≤ rm.locals ∧ k + rmy.cells = k' ∧ n + rmy.slots = n' ∧ k' ≤ rm.cells ∧ n' ≤ rm.slots) (hA : As.length = np) (hst : st0 = As.reverse ++ .ref b :: st) (hc : (st.map fun v => v.category).sum ≤ 8) (hd : decode cc pc = .ok (.invokevirtual idx, 3)) (hN1 : ∀ a b, N a → a ≤ b → N b)
    (hf : mo_xh σ b ci m X F = some r) (hC : ∀ (q : Nat) (x : String ⊕ Int32) (σ1 : ac_H), m = some (x, σ1) → kx_C Λ y (.code y cy mL rety) rmy (.ref b :: As) q σ (kx_oi x) σ1 (fun z => q ≤ z)) (kE : ∀ (E : String) (σ1 : ac_H), X E σ1 = some r → kx_E Λ Γ nL N σ1 k' n' pc lv st E) (kk : ∀ (x : Int32) (σ1 : ac_H), F x σ1 = some r → kx_S Λ Γ nL N σ1 k' n' (pc + 3) lv (.int x :: st)) : kx_S Λ Γ nL N σ k n pc lv st0 := by
  obtain ⟨hfr, hlo, rfl, rfl, hk, hn⟩ := hrm
  unfold mo_xh at hf
  split at hf
  · rename_i c fs hb
    split at hf
    · rename_i hci
      subst hci
      split at hf
      · rename_i x σ1
        intro H locs ls hR hN hS hl
        have hr := kx_rV K hM hfr hlo hk hn hA hst hc hd hb hR hS hl (hC H.size (.inr x) σ1 rfl)
        exact kx_back (M := N) hr hl hS (fun q hq => hN1 _ _ hN hq) (kk x σ1 hf)
      · rename_i E σ1
        intro H locs ls hR hN hS hl
        have hr := kx_rV K hM hfr hlo hk hn hA hst hc hd hb hR hS hl (hC H.size (.inl E) σ1 rfl)
        exact kx_caught (M := N) hr hl hS (fun q hq => hN1 _ _ hN hq) (kE E σ1 hf)
      · cases hf
    · cases hf
  · cases hf
/-- the first row of the table takes it; the second one does, past the first -/
theorem kx_h1 {x : ExceptionTableEntry} {tb' : List ExceptionTableEntry} (K : kx_K Λ Γ own cc nL ret rm (x :: tb')) {E : String} (hx : covers x pc = true) (h0 : x.catchType ≠ 0) (hl9 : Cond.classLink own x.catchType E ∈ wsL_law) (i : Nat) (hi : i < 3) (hE : ac_Nw i = .castable E E) (kk : ∀ q : Nat, kx_S Λ Γ nL N σ k n x.handlerPc lv [.ref q]) : kx_E Λ Γ nL N σ k n pc lv st E := by
  intro H locs ls q ce hR hN hS hl hce hcv hcl
  refine vx_catch (E := E) (name := E) K.2.2.2.1 [] x tb' K.2.2.2.2.2.2.2.2.2 (fun z hz => by cases hz) hx h0 (K.2.2.2.2.1 _ hl9) ?_ hce hcv hcl (kk q H locs ls hR hN hS hl)
  have h := K.2.2.2.2.2.1.1.2.2.2.2.2.2.2.2.1 i (by omega)
  rw [hE] at h
  exact va_Nw.use rfl h
theorem kx_h2 {x y : ExceptionTableEntry} {tb' : List ExceptionTableEntry} (K : kx_K Λ Γ own cc nL ret rm (y :: x :: tb')) {E E0 : String} (hy0 : y.catchType ≠ 0) (hly : Cond.classLink own y.catchType E0 ∈ wsL_law) (hnc : va_Nc E E0 (kx_s Γ)) (hx : covers x pc = true) (h0 : x.catchType ≠ 0) (hl9 : Cond.classLink own x.catchType E ∈ wsL_law) (i : Nat) (hi : i < 3) (hE : ac_Nw i = .castable E E) (kk : ∀ q : Nat, kx_S Λ Γ nL N σ k n x.handlerPc lv [.ref q]) : kx_E Λ Γ nL N σ k n pc lv st E := by
  intro H locs ls q ce hR hN hS hl hce hcv hcl
  refine vx_catch (E := E) (name := E) K.2.2.2.1 [y] x tb' K.2.2.2.2.2.2.2.2.2 (fun z hz => ?_) hx h0 (K.2.2.2.2.1 _ hl9) ?_ hce hcv hcl (kk q H locs ls hR hN hS hl)
  · rw [List.mem_singleton.mp hz]
    exact Or.inr ⟨hy0, E0, K.2.2.2.2.1 _ hly, hnc⟩
  · have h := K.2.2.2.2.2.1.1.2.2.2.2.2.2.2.2.1 i (by omega)
    rw [hE] at h
    exact va_Nw.use rfl h
/-- a static method of a table of its own, that may make cells -/
theorem kx_csw (K : kx_K Λ Γ own cc nL ret rm tb) {idx np mL k' n' : Nat} {hh : List (Nat × Nat × Nat × Nat)} {y : MethodName} {cy : ByteArray} {rety : Option FieldType} {rmy : Room} (As : List Value) {st0 : List Value} {m : Option (Int32 × ac_H)} {F : Int32 → ac_H → Option α} (hM : kx_MSW own idx y cy mL rety hh np) (hrm : rmy.frames + 1 ≤ rm.frames ∧ 8 + (mL + 11) + rmy.locals ≤ rm.locals ∧ k + rmy.cells = k' ∧ n + rmy.slots = n' ∧ k' ≤ rm.cells ∧ n' ≤ rm.slots) (hA : As.length = np) (hst : st0 = As.reverse ++ st) (hc : (st.map fun v => v.category).sum ≤ 8) (hd : decode cc pc = .ok (.invokestatic idx, 3)) (hN1 : ∀ a b, N a → a ≤ b → N b)
    (hf : mo_cs m F = some r) (hC : ∀ (q : Nat) (x : Int32) (σ1 : ac_H), m = some (x, σ1) → kx_C Λ y (.codeWith y cy mL rety hh) rmy As q σ (.inr (some (.int x))) σ1 (fun z => q ≤ z)) (kk : ∀ (x : Int32) (σ1 : ac_H), F x σ1 = some r → kx_S Λ Γ nL N σ1 k' n' (pc + 3) lv (.int x :: st)) : kx_S Λ Γ nL N σ k n pc lv st0 := by
  obtain ⟨hfr, hlo, rfl, rfl, hk, hn⟩ := hrm
  obtain ⟨m2, m3, m5, m6, m7, m8⟩ := hM
  have hts := K.2.2.2.2.1
  have hRm := K.2.2.2.2.2.2.2.2.1
  unfold mo_cs at hf
  split at hf
  · rename_i q
    obtain ⟨x, σ1⟩ := q
    intro H locs ls hR hN hS hl
    have hr : kx_Rn Λ Γ rmy k n H locs (F0 (kx_m Γ) pc ls st0) st As.toArray (.inr (some (.int x))) σ1 (fun z => H.size ≤ z) :=
      vx_runSX (Ts := wsL_law) ⟨K.1, K.2.1, K.2.2.1, K.2.2.2.1, hts⟩ (hC H.size x σ1 rfl) (vx_cwSW np hts (fun w hw => by
        rcases List.mem_append.mp hw with h | h
        · refine kx_gw w ?_
          rcases List.mem_cons.mp h with rfl | h
          · exact m2
          · rcases List.mem_cons.mp h with rfl | h
            · exact m3
            · rw [List.mem_singleton.mp h]; exact m5
        · exact kx_gc m6 w h) rfl rfl rfl ⟨m7.1, m7.2, m8⟩ (by rw [hRm]; exact ⟨hfr, hlo⟩)) ⟨kx_blind, fun U hU hW => ⟨rfl, by rw [hU]; exact hR, by rw [hU], K.2.2.2.2.2.1.at hS hU hW⟩⟩ rfl hA hl.1 hst (lv_room (m := kx_m Γ) (pc := pc) (ls := ls) (rest := st0) hc) hd (by rw [hRm]; exact ⟨hk, hn⟩)
    exact kx_back (M := N) hr hl hS (fun q hq => hN1 _ _ hN hq) (kk x σ1 hf)
  · cases hf
end KX9
/-- the script's place -/
def mo_s {α : Type} (xs : Nat → Int32) (L : Nat) (j : Int32) (F : Int32 → Option α) : Option α := if j < 0 ∨ L ≤ j.toNatClampNeg then none else F (xs j.toNatClampNeg)
section KXL
variable {Λ : ex_L} {Γ : kx_T} {own : String} {cc : ByteArray} {nL : Nat} {ret : Option FieldType} {rm : Room} {tb : List ExceptionTableEntry} {N N' : Nat → Prop} {σ σ' : ac_H} {k n pc : Nat} {lv : List (Nat × Value)} {st : List Value} {α ρ ρ' : Type} {r : α}
def kx_X (Λ : ex_L) (Γ : kx_T) (b L : Nat) (xs : Nat → Int32) : Prop := va_X b L xs (kx_s Γ) (kx_s Γ).heap ∧ b < (kx_s Γ).heap.size ∧ ¬ ex_A Λ b
theorem kx_sld (K : kx_K Λ Γ own cc nL ret rm tb) {b L : Nat} {xs : Nat → Int32} (hX : kx_X Λ Γ b L xs) {j : Int32} (hd : decode cc pc = .ok (.iaload, 1)) {F : Int32 → Option α} (hf : mo_s xs L j F = some r) (kk : ∀ x : Int32, F x = some r → kx_S Λ Γ nL N σ k n (pc + 1) lv (.int x :: st)) : kx_S Λ Γ nL N σ k n pc lv (.int j :: .ref b :: st) := by
  unfold mo_s at hf
  split at hf
  · cases hf
  · rename_i hin
    exact fun H locs ls hR hN hS hl => va_sld K.1 K.2.1 hX.1 hX.2.1 hX.2.2 hS hin hd (kk _ hf H locs ls hR hN hS hl)
theorem kx_sln (K : kx_K Λ Γ own cc nL ret rm tb) {b L : Nat} {xs : Nat → Int32} (hX : kx_X Λ Γ b L xs) (hd : decode cc pc = .ok (.arraylength, 1)) (kk : kx_S Λ Γ nL N σ k n (pc + 1) lv (.int (Int32.ofNat L) :: st)) : kx_S Λ Γ nL N σ k n pc lv (.ref b :: st) := fun H locs ls hR hN hS hl => va_slen K.1 K.2.1 hX.1 hX.2.1 hX.2.2 hS hd (kk H locs ls hR hN hS hl)
end KXL

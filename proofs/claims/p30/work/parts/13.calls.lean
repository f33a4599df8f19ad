/-! CONTRACTS over the abstract heap, a method's start, its ends, calls. -/
def kx_Qc (Λ : ex_L) (o : String ⊕ Option Value) (σ' : ac_H) (N' : Nat → Prop) : Array Value → State → Outcome → State → Prop := fun _ st oc t => (∃ rv : Option Value, o = .inr rv ∧ oc = .returned rv) ∧ ac_R Λ σ' t.heap ∧ N' t.heap.size ∧ va_F (ex_A Λ) st t
def kx_Xc (Λ : ex_L) (o : String ⊕ Option Value) (σ' : ac_H) (N' : Nat → Prop) : String → State → State → Prop := fun E st t => o = .inl E ∧ ac_R Λ σ' t.heap ∧ N' t.heap.size ∧ va_F (ex_A Λ) st t
def kx_P (Λ : ex_L) (q : Nat) (σ : ac_H) : State → Prop := fun U => ac_R Λ σ U.heap ∧ U.heap.size = q ∧ ac_K Λ U
/-- method y, called with these arguments in a heap of q cells that holds σ: its outcome is o, the heap then holds σ', its size is as N' says -/
def kx_C (Λ : ex_L) (y : MethodName) (w0 : Cond) (rm : Room) (as : List Value) (q : Nat) (σ : ac_H) (o : String ⊕ Option Value) (σ' : ac_H) (N' : Nat → Prop) : Prop :=
  vx_Met (ex_l Λ) y (w0 :: wsL_law) rm (va_Pc as (kx_P Λ q σ)) (kx_Qc Λ o σ' N') (kx_Xc Λ o σ' N') rm.cells rm.slots (ex_A Λ)
/-- what the method owes at its end -/
def kx_Q (Λ : ex_L) (Γ : kx_T) (o : String ⊕ Option Value) (σ' : ac_H) (N' : Nat → Prop) (rm : Room) : Prop :=
  kx_q Γ = vx_MQ (kx_b Γ) (kx_Qc Λ o σ' N') (kx_Xc Λ o σ' N') (kx_a Γ) (kx_s Γ) rm.cells rm.slots (ex_A Λ)
theorem kx_in {Λ : ex_L} {y : MethodName} {cc : ByteArray} {maxL : Nat} {ret : Option FieldType} {rm : Room} {as : List Value} {q : Nat} {σ σ' : ac_H} {o : String ⊕ Option Value} {N' : Nat → Prop} (hy : plainName y.cls = true) (hlen : (lg_sl as).length ≤ maxL)
    (body : ∀ Γ : kx_T, kx_K Λ Γ y.cls cc maxL ret rm [] → (kx_h Γ).name = y.name → (kx_s Γ).heap.size = q → kx_Q Λ Γ o σ' N' rm → kx_S Λ Γ maxL (fun z => z = q) σ 0 0 0 (lv_args 0 as) []) : kx_C Λ y (.code y cc maxL ret) rm as q σ o σ' N' := by
  refine vx_ofW (cc := cc) (maxL := maxL) (ret := ret) hy rfl ?_
  intro p e s m args below meth c s₁ B hml ht hv
  obtain ⟨rfl, hR, hz, hK⟩ := hv
  have hts := atoms_spec (ws := Cond.code y cc maxL ret :: wsL_law) B.pre
  have htb : c.exceptionTable.toList = [] := by
    cases h : c.exceptionTable.toList with
    | nil => rfl
    | cons a l => exact absurd (ht a (by rw [h]; exact List.mem_cons_self)) id
  have K := body (p, e, rm, s, m, as.toArray, below, meth, c, vx_MQ below (kx_Qc Λ o σ' N') (kx_Xc Λ o σ' N') as.toArray s rm.cells rm.slots (ex_A Λ)) ⟨B.exec, B.bytes, hml, findClass_of_methodNamed B.named, fun w hw => hts w (List.mem_cons_of_mem _ hw), hK, B.returns, B.notSynchronized, rfl, htb⟩ (name_of_methodNamed B.named B.method).1 hz rfl
  rw [lg_entry_eq]
  exact K s.heap [] _ hR hz va_S.rf (lv_entry as hlen)
section KX4
variable {Λ : ex_L} {Γ : kx_T} {own : String} {cc : ByteArray} {nL : Nat} {ret : Option FieldType} {rm : Room} {tb : List ExceptionTableEntry} {N N' : Nat → Prop} {σ σ' : ac_H} {k n pc : Nat} {lv : List (Nat × Value)} {st : List Value} {α : Type} {r : α}
theorem kx_lv {lv' : List (Nat × Value)} (h : lv = lv') (kk : kx_S Λ Γ nL N σ k n pc lv' st) : kx_S Λ Γ nL N σ k n pc lv st := by rw [h]; exact kk
theorem kx_N {M : Nat → Prop} (h : ∀ q, N q → M q) (kk : kx_S Λ Γ nL M σ k n pc lv st) : kx_S Λ Γ nL N σ k n pc lv st := fun H locs ls hR hN hS hl => kk H locs ls hR (h _ hN) hS hl
theorem kx_wd {k' n' : Nat} (h1 : k ≤ k') (h2 : n ≤ n') (kk : kx_S Λ Γ nL N σ k' n' pc lv st) : kx_S Λ Γ nL N σ k n pc lv st := fun H locs ls hR hN hS hl => W.widen h1 h2 (kk H locs ls hR hN hS hl)
theorem kx_eq {st' : List Value} (h : st = st') (kk : kx_S Λ Γ nL N σ k n pc lv st') : kx_S Λ Γ nL N σ k n pc lv st := by rw [h]; exact kk
theorem kx_iret (K : kx_K Λ Γ own cc nL (some .int) rm tb) {x v : Int32} (hQ : kx_Q Λ Γ (.inr (some (.int v))) σ' N' rm) (hk : k ≤ rm.cells) (hn : n ≤ rm.slots) (hN9 : ∀ q, N q → N' q) (hd : decode cc pc = .ok (.ireturn, 1)) (hf : some (x, σ) = some (v, σ')) : kx_S Λ Γ nL N σ k n pc lv [.int x] := by
  cases hf
  intro H locs ls hR hN hS hl
  refine W.widen hk hn ?_
  rw [hQ]
  exact vx_ret (W.iret K.1 K.2.1 K.2.2.2.2.2.2.1 (fun t ht hW => ⟨⟨_, rfl, rfl⟩, by rw [ht]; exact hR, by rw [ht]; exact hN9 _ hN, hS.F ht⟩) hS.2.2 hd K.2.2.2.2.2.2.2.1)
theorem kx_zret (K : kx_K Λ Γ own cc nL (some .boolean) rm tb) {x v : Int32} (hQ : kx_Q Λ Γ (.inr (some (.int v))) σ' N' rm) (hk : k ≤ rm.cells) (hn : n ≤ rm.slots) (hN9 : ∀ q, N q → N' q) (hd : decode cc pc = .ok (.ireturn, 1)) (hf : mo_z x (some (x, σ)) = some (v, σ')) : kx_S Λ Γ nL N σ k n pc lv [.int x] := by
  unfold mo_z at hf
  split at hf
  · rename_i h01
    cases hf
    intro H locs ls hR hN hS hl
    refine W.widen hk hn ?_
    rw [hQ]
    exact vx_ret (W.zret K.1 K.2.1 K.2.2.2.2.2.2.1 (kx_b01 h01).1 (fun t ht hW => ⟨⟨_, rfl, rfl⟩, by rw [ht]; exact hR, by rw [ht]; exact hN9 _ hN, hS.F ht⟩) hS.2.2 hd K.2.2.2.2.2.2.2.1)
  · cases hf
theorem kx_vret (K : kx_K Λ Γ own cc nL none rm tb) {v : Unit} (hQ : kx_Q Λ Γ (.inr none) σ' N' rm) (hk : k ≤ rm.cells) (hn : n ≤ rm.slots) (hN9 : ∀ q, N q → N' q) (hd : decode cc pc = .ok (.return_, 1)) (hf : some ((), σ) = some (v, σ')) : kx_S Λ Γ nL N σ k n pc lv [] := by
  cases hf
  intro H locs ls hR hN hS hl
  refine W.widen hk hn ?_
  rw [hQ]
  exact vx_ret (W.vret K.1 K.2.1 K.2.2.2.2.2.2.1 (fun t ht hW => ⟨⟨_, rfl, rfl⟩, by rw [ht]; exact hR, by rw [ht]; exact hN9 _ hN, hS.F ht⟩) hS.2.2 hd K.2.2.2.2.2.2.2.1)
theorem kx_aret {C : String} (K : kx_K Λ Γ own cc nL (some (.object C)) rm tb) {x v : Nat} (hQ : kx_Q Λ Γ (.inr (some (.ref v))) σ' N' rm) (hk : k ≤ rm.cells) (hn : n ≤ rm.slots) (hN9 : ∀ q, N q → N' q) (hd : decode cc pc = .ok (.areturn, 1)) (hf : some (x, σ) = some (v, σ')) : kx_S Λ Γ nL N σ k n pc lv [.ref x] := by
  cases hf
  intro H locs ls hR hN hS hl
  refine W.widen hk hn ?_
  rw [hQ]
  exact vx_ret (W.aret K.1 K.2.1 K.2.2.2.2.2.2.1 (Or.inl ⟨C, rfl⟩) (Or.inr ⟨_, rfl⟩) (fun t ht hW => ⟨⟨_, rfl, rfl⟩, by rw [ht]; exact hR, by rw [ht]; exact hN9 _ hN, hS.F ht⟩) hS.2.2 hd K.2.2.2.2.2.2.2.1)
/-- a method that may throw: its answer's form -/
def kx_oi (R : String ⊕ Int32) : String ⊕ Option Value := match R with
  | .inl E => .inl E
  | .inr x => .inr (some (.int x))
def kx_ov (R : String ⊕ Unit) : String ⊕ Option Value := match R with
  | .inl E => .inl E
  | .inr _ => .inr none
theorem kx_iretX (K : kx_K Λ Γ own cc nL (some .int) rm tb) {x : Int32} {v : String ⊕ Int32} (hQ : kx_Q Λ Γ (kx_oi v) σ' N' rm) (hk : k ≤ rm.cells) (hn : n ≤ rm.slots) (hN9 : ∀ q, N q → N' q) (hd : decode cc pc = .ok (.ireturn, 1)) (hf : some (.inr x, σ) = some (v, σ')) : kx_S Λ Γ nL N σ k n pc lv [.int x] := by
  cases hf
  exact kx_iret K hQ hk hn hN9 hd rfl
theorem kx_zretX (K : kx_K Λ Γ own cc nL (some .boolean) rm tb) {x : Int32} {v : String ⊕ Int32} (hQ : kx_Q Λ Γ (kx_oi v) σ' N' rm) (hk : k ≤ rm.cells) (hn : n ≤ rm.slots) (hN9 : ∀ q, N q → N' q) (hd : decode cc pc = .ok (.ireturn, 1)) (hf : mo_z x (some (.inr x, σ)) = some (v, σ')) : kx_S Λ Γ nL N σ k n pc lv [.int x] := by
  unfold mo_z at hf
  split at hf
  · rename_i h01
    cases hf
    exact kx_zret K hQ hk hn hN9 hd (by unfold mo_z; rw [if_pos h01])
  · cases hf
theorem kx_vretX (K : kx_K Λ Γ own cc nL none rm tb) {v : String ⊕ Unit} (hQ : kx_Q Λ Γ (kx_ov v) σ' N' rm) (hk : k ≤ rm.cells) (hn : n ≤ rm.slots) (hN9 : ∀ q, N q → N' q) (hd : decode cc pc = .ok (.return_, 1)) (hf : some (.inr (), σ) = some (v, σ')) : kx_S Λ Γ nL N σ k n pc lv [] := by
  cases hf
  exact kx_vret (v := ()) K hQ hk hn hN9 hd rfl
theorem kx_gw : GoodIn wsL_law wsL_law := fun w h => ⟨h, good_of_word (tg_all w h)⟩
/-- a call's tables: instance method by its class; static; constructor -/
def kx_MV (own : String) (idx : Nat) (y : MethodName) (cy : ByteArray) (mL : Nat) (rety : Option FieldType) (ci np : Nat) : Prop := vwCl[ci]?.map (fun q => q.1) = some y.cls ∧ Cond.methodLink own idx y ∈ wsL_law ∧ Cond.instanceMethod y ∈ wsL_law ∧ Cond.selects y.cls y y ∈ wsL_law ∧ Cond.initialized y.cls ∈ wsL_law ∧ Cond.code y cy mL rety ∈ wsL_law ∧ (y.cls ≠ "java/lang/invoke/MethodHandle" ∧ y.cls ≠ "java/lang/invoke/VarHandle") ∧ (parseMethodDescriptor y.desc).map (fun d => d.parameters.length) = some np
def kx_MS (own : String) (idx : Nat) (y : MethodName) (cy : ByteArray) (mL : Nat) (rety : Option FieldType) (np : Nat) : Prop := Cond.methodLink own idx y ∈ wsL_law ∧ Cond.static y ∈ wsL_law ∧ Cond.initialized y.cls ∈ wsL_law ∧ Cond.code y cy mL rety ∈ wsL_law ∧ (y.cls ≠ "java/lang/invoke/MethodHandle" ∧ y.cls ≠ "java/lang/invoke/VarHandle") ∧ (parseMethodDescriptor y.desc).map (fun d => d.parameters.length) = some np
def kx_MI (own : String) (idx : Nat) (y : MethodName) (cy : ByteArray) (mL : Nat) (np : Nat) : Prop := Cond.methodLink own idx y ∈ wsL_law ∧ Cond.instanceMethod y ∈ wsL_law ∧ y.name = "<init>" ∧ Cond.initialized y.cls ∈ wsL_law ∧ Cond.code y cy mL none ∈ wsL_law ∧ (y.cls ≠ "java/lang/invoke/MethodHandle" ∧ y.cls ≠ "java/lang/invoke/VarHandle") ∧ (parseMethodDescriptor y.desc).map (fun d => d.parameters.length) = some np
theorem kx_gc {w : Cond} (h : w ∈ wsL_law) : GoodIn wsL_law (w :: wsL_law) := fun v hv => by
  rcases List.mem_cons.mp hv with rfl | hv
  · exact kx_gw _ h
  · exact kx_gw _ hv
/-- what a call gives back, seen from the caller -/
def kx_Rn (Λ : ex_L) (Γ : kx_T) (rmy : Room) (k n : Nat) (H : Heap) (locs : List Loc) (g : JFrame) (st : List Value) (as : Array Value) (o : String ⊕ Option Value) (σ1 : ac_H) (N1 : Nat → Prop) : Prop :=
  vx_Run (kx_p Γ) (ex_l Λ) (kx_e Γ) (kx_R Γ) (kx_s Γ) (kx_m Γ) (kx_a Γ) (kx_b Γ) (kx_h Γ) (kx_c Γ) H locs k n rmy.cells rmy.slots g st (kx_Qc Λ o σ1 N1 as) (kx_Xc Λ o σ1 N1) (ex_A Λ)
theorem kx_blind {as : List Value} {q : Nat} : FrameBlind (va_Pc as (kx_P Λ q σ)) := fun a U g mk h => by
  obtain ⟨h1, h2, h3, h4⟩ := h
  exact ⟨h1, h2, h3, h4.blind⟩
/-- it returned: the walk goes on -/
theorem kx_back {H : Heap} {locs : List Loc} {ls : Array Slot} {rmy : Room} {rv : Option Value} {σ1 : ac_H} {N1 M : Nat → Prop} {st0 : List Value} {as : Array Value} (hr : kx_Rn Λ Γ rmy k n H locs (F0 (kx_m Γ) pc ls st0) st as (.inr rv) σ1 N1) (hl : lv_has ls nL lv) (hS : va_S (ex_A Λ) (kx_s Γ).heap H locs) (hM : ∀ q, N1 q → M q) (kk : kx_S Λ Γ nL M σ1 (k + rmy.cells) (n + rmy.slots) (pc + 3) lv (rv.toList ++ st)) :
    W (kx_p Γ) (ex_l Λ) (kx_e Γ) (kx_R Γ) (kx_s Γ) (kx_m Γ) (kx_a Γ) (kx_b Γ) (kx_h Γ) (kx_c Γ) H locs k n (kx_q Γ) (F0 (kx_m Γ) pc ls st0) := by
  intro T hT X
  rcases hr T hT X with ⟨v, st₀, t, T', L, h0, X', hL, e1, e2, ⟨⟨rv', ho, hv⟩, hR1, hN1, hF⟩, stp⟩ | ⟨q, st₀, t, T', L, E, ce, h0, X', hL, e1, e2, ⟨ho, -⟩, hce, hcv, hcl, stp⟩
  · cases ho
    cases hv
    obtain ⟨k1, k2, k3⟩ := vx_keep h0 e1 hS (A1 := ex_A Λ) (fun _ _ h => h) (free := ex_A Λ) (fun _ h => h) hL hF
    obtain ⟨t2, a1, b1⟩ := kk T'.heap (locs ++ L) ls (by rw [e1]; exact hR1) (by rw [e1]; exact hM _ hN1) k3 hl T' rfl X'
    exact ⟨t2, stp t2 a1, b1⟩
  · cases ho
/-- it threw, and nothing here takes it -/
theorem kx_thrown {H : Heap} {locs : List Loc} {ls : Array Slot} {rmy : Room} {E : String} {σ1 : ac_H} {N1 : Nat → Prop} {st0 : List Value} {as : Array Value} (K : kx_K Λ Γ own cc nL ret rm []) (hr : kx_Rn Λ Γ rmy k n H locs (F0 (kx_m Γ) pc ls st0) st as (.inl E) σ1 N1) (hS : va_S (ex_A Λ) (kx_s Γ).heap H locs) (hM : ∀ q, N1 q → N' q) (hQ : kx_Q Λ Γ (.inl E) σ1 N' rm) (hk : k + rmy.cells ≤ rm.cells) (hn : n + rmy.slots ≤ rm.slots) :
    W (kx_p Γ) (ex_l Λ) (kx_e Γ) (kx_R Γ) (kx_s Γ) (kx_m Γ) (kx_a Γ) (kx_b Γ) (kx_h Γ) (kx_c Γ) H locs k n (kx_q Γ) (F0 (kx_m Γ) pc ls st0) := by
  intro T hT X
  rcases hr T hT X with ⟨v, st₀, t, T', L, h0, X', hL, e1, e2, ⟨⟨rv', ho, hv⟩, -⟩, stp⟩ | ⟨q, st₀, t, T', L, E', ce, h0, X', hL, e1, e2, ⟨ho, hR1, hN1, hF⟩, hce, hcv, hcl, stp⟩
  · cases ho
  · cases ho
    obtain ⟨k1, k2, k3⟩ := vx_keep h0 e1 hS (A1 := ex_A Λ) (fun _ _ h => h) (free := ex_A Λ) (fun _ h => h) hL hF
    have ho := vx_out (p := kx_p Γ) (l := ex_l Λ) (e := kx_e Γ) (R := kx_R Γ) (s := kx_s Γ) (m := kx_m Γ) (args := kx_a Γ) (below := kx_b Γ) (meth := kx_h Γ) (c := kx_c Γ) (H := T'.heap) (locs := locs ++ L) (cells := k + rmy.cells) (slots := n + rmy.slots) (free := ex_A Λ) (ls := ls) (rest := st) (Qc := kx_Qc Λ (.inl E) σ1 N') (XC := kx_Xc Λ (.inl E) σ1 N') (pc := pc) (E := E) (ce := ce) (q := q) (mc := rm.cells) (ms := rm.slots)
      (fun x hx => by rw [K.2.2.2.2.2.2.2.2.2] at hx; cases hx) K.2.2.2.2.2.2.2.1 (by rw [e1]; exact hce) hcv hcl
      (fun t9 ht9 _ => ⟨rfl, by rw [ht9, e1]; exact hR1, by rw [ht9, e1]; exact hM _ hN1, k3.F ht9⟩) k3.2.2 hk hn
    obtain ⟨t2, a1, b1⟩ := ho T' rfl X'
    rw [hQ]
    exact ⟨t2, stp.trans a1, b1⟩
/-- the runs of calls -/
theorem kx_rV (K : kx_K Λ Γ own cc nL ret rm tb) {idx ci np mL b : Nat} {y : MethodName} {cy : ByteArray} {rety : Option FieldType} {rmy : Room} {As : List Value} {o : String ⊕ Option Value} {σ1 : ac_H} {N1 : Nat → Prop} {fs : List Value} {H : Heap} {locs : List Loc} {ls : Array Slot} {st0 : List Value}
    (hM : kx_MV own idx y cy mL rety ci np) (hfr : rmy.frames + 1 ≤ rm.frames) (hlo : 8 + (mL + 11) + rmy.locals ≤ rm.locals) (hk : k + rmy.cells ≤ rm.cells) (hn : n + rmy.slots ≤ rm.slots) (hA : As.length = np) (hst : st0 = As.reverse ++ .ref b :: st) (hc : (st.map fun v => v.category).sum ≤ 8) (hd : decode cc pc = .ok (.invokevirtual idx, 3))
    (hb : σ b = some (.inr (ci, fs))) (hR : ac_R Λ σ H) (hS : va_S (ex_A Λ) (kx_s Γ).heap H locs) (hl : lv_has ls nL lv) (hC : kx_C Λ y (.code y cy mL rety) rmy (.ref b :: As) H.size σ o σ1 N1) :
    kx_Rn Λ Γ rmy k n H locs (F0 (kx_m Γ) pc ls st0) st (Value.ref b :: As).toArray o σ1 N1 := by
  obtain ⟨m1, m2, m3, m4, m5, m6, m7, m8⟩ := hM
  have hts := K.2.2.2.2.1
  have hRm := K.2.2.2.2.2.2.2.2.1
  obtain ⟨q, hq⟩ : ∃ q, vwCl[ci]? = some q := by
    cases h : vwCl[ci]? with
    | none => rw [h] at m1; cases m1
    | some q => exact ⟨q, rfl⟩
  have hqy : q.1 = y.cls := by rw [hq] at m1; exact Option.some.inj m1
  have hrc := va_recv K.2.2.2.2.2.1.1.2.1 (hR.one hb) hq (q0 := 0) rfl
  rw [hqy] at hrc
  refine vx_runV (Ts := wsL_law) (C := y.cls) ⟨K.1, K.2.1, K.2.2.1, K.2.2.2.1, hts⟩ hC ⟨callB_of np hts (kx_gc m6) rfl rfl rfl (hts _ m5) (hts _ m2) ⟨m7.1, m7.2, m8⟩ (by rw [hRm]; exact ⟨hfr, hlo⟩), hts _ m3, hts _ m4⟩ ⟨kx_blind, hrc, fun U hU hW => ⟨rfl, by rw [hU]; exact hR, by rw [hU], K.2.2.2.2.2.1.at hS hU hW⟩⟩ rfl hA hl.1 hst (lv_room (m := kx_m Γ) (pc := pc) (ls := ls) (rest := st0) hc) hd (by rw [hRm]; exact ⟨hk, hn⟩)
theorem kx_rS (K : kx_K Λ Γ own cc nL ret rm tb) {idx np mL : Nat} {y : MethodName} {cy : ByteArray} {rety : Option FieldType} {rmy : Room} {As : List Value} {o : String ⊕ Option Value} {σ1 : ac_H} {N1 : Nat → Prop} {H : Heap} {locs : List Loc} {ls : Array Slot} {st0 : List Value}
    (hM : kx_MS own idx y cy mL rety np) (hfr : rmy.frames + 1 ≤ rm.frames) (hlo : 8 + (mL + 11) + rmy.locals ≤ rm.locals) (hk : k + rmy.cells ≤ rm.cells) (hn : n + rmy.slots ≤ rm.slots) (hA : As.length = np) (hst : st0 = As.reverse ++ st) (hc : (st.map fun v => v.category).sum ≤ 8) (hd : decode cc pc = .ok (.invokestatic idx, 3))
    (hR : ac_R Λ σ H) (hS : va_S (ex_A Λ) (kx_s Γ).heap H locs) (hl : lv_has ls nL lv) (hC : kx_C Λ y (.code y cy mL rety) rmy As H.size σ o σ1 N1) :
    kx_Rn Λ Γ rmy k n H locs (F0 (kx_m Γ) pc ls st0) st As.toArray o σ1 N1 := by
  obtain ⟨m2, m3, m5, m6, m7, m8⟩ := hM
  have hts := K.2.2.2.2.1
  have hRm := K.2.2.2.2.2.2.2.2.1
  refine vx_runS (Ts := wsL_law) ⟨K.1, K.2.1, K.2.2.1, K.2.2.2.1, hts⟩ hC ⟨callB_of np hts (kx_gc m6) rfl rfl rfl (hts _ m5) (hts _ m2) ⟨m7.1, m7.2, m8⟩ (by rw [hRm]; exact ⟨hfr, hlo⟩), hts _ m3⟩ ⟨kx_blind, fun U hU hW => ⟨rfl, by rw [hU]; exact hR, by rw [hU], K.2.2.2.2.2.1.at hS hU hW⟩⟩ rfl hA hl.1 hst (lv_room (m := kx_m Γ) (pc := pc) (ls := ls) (rest := st0) hc) hd (by rw [hRm]; exact ⟨hk, hn⟩)
theorem kx_rI (K : kx_K Λ Γ own cc nL ret rm tb) {idx np mL b : Nat} {y : MethodName} {cy : ByteArray} {rmy : Room} {As : List Value} {o : String ⊕ Option Value} {σ1 : ac_H} {N1 : Nat → Prop} {H : Heap} {locs : List Loc} {ls : Array Slot} {st0 : List Value}
    (hM : kx_MI own idx y cy mL np) (hfr : rmy.frames + 1 ≤ rm.frames) (hlo : 8 + (mL + 11) + rmy.locals ≤ rm.locals) (hk : k + rmy.cells ≤ rm.cells) (hn : n + rmy.slots ≤ rm.slots) (hA : As.length = np) (hst : st0 = As.reverse ++ .ref b :: st) (hc : (st.map fun v => v.category).sum ≤ 8) (hd : decode cc pc = .ok (.invokespecial idx, 3))
    (hR : ac_R Λ σ H) (hS : va_S (ex_A Λ) (kx_s Γ).heap H locs) (hl : lv_has ls nL lv) (hC : kx_C Λ y (.code y cy mL none) rmy (.ref b :: As) H.size σ o σ1 N1) :
    kx_Rn Λ Γ rmy k n H locs (F0 (kx_m Γ) pc ls st0) st (Value.ref b :: As).toArray o σ1 N1 := by
  obtain ⟨m2, m3, m4, m5, m6, m7, m8⟩ := hM
  have hts := K.2.2.2.2.1
  have hRm := K.2.2.2.2.2.2.2.2.1
  refine vx_runI (Ts := wsL_law) ⟨K.1, K.2.1, K.2.2.1, K.2.2.2.1, hts⟩ hC ⟨callB_of np hts (kx_gc m6) rfl rfl rfl (hts _ m5) (hts _ m2) ⟨m7.1, m7.2, m8⟩ (by rw [hRm]; exact ⟨hfr, hlo⟩), m4, hts _ m3⟩ ⟨kx_blind, fun U hU hW => ⟨rfl, by rw [hU]; exact hR, by rw [hU], K.2.2.2.2.2.1.at hS hU hW⟩⟩ rfl hA hl.1 hst (lv_room (m := kx_m Γ) (pc := pc) (ls := ls) (rest := st0) hc) hd (by rw [hRm]; exact ⟨hk, hn⟩)
end KX4

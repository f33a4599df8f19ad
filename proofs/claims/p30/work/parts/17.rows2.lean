/-! ROWS OF p30'S OWN: methods that may throw, where they return; calls of methods that make cells, calls by a class above, nest mates, arraycopy, clone, the byte tables, the words' bytes. -/
/-- a call that may throw, where a throw is no way on -/
def mo_nv {α ρ : Type} (σ : ac_H) (b ci : Nat) (m : Option ((String ⊕ ρ) × ac_H)) (F : ρ → ac_H → Option α) : Option α := match σ b with
  | some (.inr (c, _)) => if c = ci then (match m with | some (.inr x, σ1) => F x σ1 | _ => none) else none
  | _ => none
/-- the size of a new array -/
def mo_nw {α : Type} (x : Int32) (M : Nat) (F : Nat → Option α) : Option α := if x < 0 ∨ M < x.toNatClampNeg then none else F x.toNatClampNeg
/-- arraycopy of numbers -/
def mo_cp {α : Type} (σ : ac_H) (a b kd : Nat) (sp dp x : Int32) (F : ac_H → Option α) : Option α := match σ a, σ b with
  | some (.inl (k0, n0, .inl f)), some (.inl (k1, n1, .inl g)) => if k0 = kd ∧ k1 = kd ∧ ¬ sp < 0 ∧ ¬ dp < 0 ∧ ¬ x < 0 ∧ sp.toNatClampNeg + x.toNatClampNeg ≤ n0 ∧ dp.toNatClampNeg + x.toNatClampNeg ≤ n1 ∧ (List.range x.toNatClampNeg).all (fun i => fits (kx_kd kd) (.int (f (sp.toNatClampNeg + i)))) = true then F (ac_up σ b (.inl (kd, n1, .inl (va_cpy f g sp.toNatClampNeg dp.toNatClampNeg x.toNatClampNeg)))) else none
  | _, _ => none
/-- .. of a word's bytes -/
def mo_cw {α : Type} (i : Nat) (σ : ac_H) (b : Nat) (sp dp x : Int32) (F : ac_H → Option α) : Option α := match σ b with
  | some (.inl (k1, n1, .inl g)) => if i < 19 ∧ k1 = 1 ∧ ¬ sp < 0 ∧ ¬ dp < 0 ∧ ¬ x < 0 ∧ sp.toNatClampNeg + x.toNatClampNeg ≤ (ac_B i).length ∧ dp.toNatClampNeg + x.toNatClampNeg ≤ n1 ∧ (List.range x.toNatClampNeg).all (fun j => fits .byte (.int ((ac_B i).getD (sp.toNatClampNeg + j) 0))) = true then F (ac_up σ b (.inl (1, n1, .inl (va_cpy (fun j => (ac_B i).getD j 0) g sp.toNatClampNeg dp.toNatClampNeg x.toNatClampNeg)))) else none
  | _ => none
/-- clone of a byte array, into the cell q -/
def mo_cl {α : Type} (σ : ac_H) (a q M : Nat) (F : ac_H → Option α) : Option α := match σ a with
  | some (.inl (k, n, .inl f)) => if k = 1 ∧ n ≤ M ∧ (List.range n).all (fun i => fits .byte (.int (f i))) = true then F (ac_up σ q (.inl (1, n, .inl f))) else none
  | _ => none
/-- a byte table -/
def mo_d {α : Type} (i : Nat) (j : Int32) (F : Int32 → Option α) : Option α := if j < 0 ∨ 100 ≤ j.toNatClampNeg then none else F (ac_D i j.toNatClampNeg)
/-- an answer that is a byte, a char -/
def mo_nt {α : Type} (ty : FieldType) (x : Int32) (A : Option α) : Option α := if narrow ty (.int x) = .int x then A else none
/-- String.checkIndex -/
def mo_ck {α : Type} (x m : Int32) (A : Option α) : Option α := if x < 0 ∨ ¬ x < m then none else A
section KX9
variable {Λ : ex_L} {Γ : kx_T} {own : String} {cc : ByteArray} {nL : Nat} {ret : Option FieldType} {rm : Room} {tb : List ExceptionTableEntry} {N N' : Nat → Prop} {σ σ' : ac_H} {k n pc : Nat} {lv : List (Nat × Value)} {st : List Value} {α ρ ρ' : Type} {r : α} {q : Nat}
theorem kx_iretR (K : kx_K Λ Γ own cc nL (some .int) rm tb) {x v : Int32} (hQ : kx_Q Λ Γ (.inr (some (.int v))) σ' N' rm) (hk : k ≤ rm.cells) (hn : n ≤ rm.slots) (hN9 : ∀ q, N q → N' q) (hd : decode cc pc = .ok (.ireturn, 1)) (hf : (some (.inr x, σ) : Option ((String ⊕ Int32) × ac_H)) = some (.inr v, σ')) : kx_S Λ Γ nL N σ k n pc lv [.int x] := by
  cases hf
  exact kx_iret K hQ hk hn hN9 hd rfl
theorem kx_zretR (K : kx_K Λ Γ own cc nL (some .boolean) rm tb) {x v : Int32} (hQ : kx_Q Λ Γ (.inr (some (.int v))) σ' N' rm) (hk : k ≤ rm.cells) (hn : n ≤ rm.slots) (hN9 : ∀ q, N q → N' q) (hd : decode cc pc = .ok (.ireturn, 1)) (hf : mo_z x (some (.inr x, σ) : Option ((String ⊕ Int32) × ac_H)) = some (.inr v, σ')) : kx_S Λ Γ nL N σ k n pc lv [.int x] := by
  unfold mo_z at hf
  split at hf
  · rename_i h01
    cases hf
    exact kx_zret K hQ hk hn hN9 hd (by unfold mo_z; rw [if_pos h01])
  · cases hf
theorem kx_vretR (K : kx_K Λ Γ own cc nL none rm tb) {v : Unit} (hQ : kx_Q Λ Γ (.inr none) σ' N' rm) (hk : k ≤ rm.cells) (hn : n ≤ rm.slots) (hN9 : ∀ q, N q → N' q) (hd : decode cc pc = .ok (.return_, 1)) (hf : (some (.inr (), σ) : Option ((String ⊕ Unit) × ac_H)) = some (.inr v, σ')) : kx_S Λ Γ nL N σ k n pc lv [] := by
  cases hf
  exact kx_vret (v := ()) K hQ hk hn hN9 hd rfl
/-- a call that may throw, in a method that lets it go on: where the method returns -/
theorem kx_xvR (K : kx_K Λ Γ own cc nL ret rm tb) {idx ci np mL b : Nat} {y : MethodName} {cy : ByteArray} {rety : Option FieldType} {rmy : Room} (As : List Value) {st0 : List Value} {m : Option ((String ⊕ ρ) × ac_H)} {F : ρ → ac_H → Option ((String ⊕ ρ') × ac_H)} {v : ρ'} (qv : ρ → Option Value) (hM : kx_MV own idx y cy mL rety ci np) (hrm : rmy.frames + 1 ≤ rm.frames ∧ 8 + (mL + 11) + rmy.locals ≤ rm.locals ∧ rmy.cells = 0 ∧ rmy.slots = 0 ∧ k ≤ rm.cells ∧ n ≤ rm.slots) (hA : As.length = np) (hst : st0 = As.reverse ++ .ref b :: st) (hc : (st.map fun v => v.category).sum ≤ 8) (hd : decode cc pc = .ok (.invokevirtual idx, 3))
    (hf : mo_xv σ b ci m F = some (.inr v, σ')) (hC : ∀ (q : Nat) (x : ρ) (σ1 : ac_H), m = some (.inr x, σ1) → kx_C Λ y (.code y cy mL rety) rmy (.ref b :: As) q σ (.inr (qv x)) σ1 (fun z => z = q)) (kk : ∀ (x : ρ) (σ1 : ac_H), F x σ1 = some (.inr v, σ') → kx_S Λ Γ nL N σ1 k n (pc + 3) lv ((qv x).toList ++ st)) : kx_S Λ Γ nL N σ k n pc lv st0 := by
  obtain ⟨hfr, hlo, h0, h1, hk, hn⟩ := hrm
  unfold mo_xv at hf
  split at hf
  · rename_i c fs hb
    split at hf
    · rename_i hci
      subst hci
      split at hf
      · rename_i x σ1
        intro H locs ls hR hN hS hl
        have hr := kx_rV (k := k) (n := n) K hM hfr hlo (by omega) (by omega) hA hst hc hd hb hR hS hl (hC H.size x σ1 rfl)
        exact kx_back (M := N) hr hl hS (fun z hz => by rw [show z = H.size from hz]; exact hN) (by rw [h0, h1]; exact kk x σ1 hf)
      · cases hf
      · cases hf
    · cases hf
  · cases hf
theorem kx_xsR (K : kx_K Λ Γ own cc nL ret rm tb) {idx np mL : Nat} {y : MethodName} {cy : ByteArray} {rety : Option FieldType} {rmy : Room} (As : List Value) {st0 : List Value} {m : Option ((String ⊕ ρ) × ac_H)} {F : ρ → ac_H → Option ((String ⊕ ρ') × ac_H)} {v : ρ'} (qv : ρ → Option Value) (hM : kx_MS own idx y cy mL rety np) (hrm : rmy.frames + 1 ≤ rm.frames ∧ 8 + (mL + 11) + rmy.locals ≤ rm.locals ∧ rmy.cells = 0 ∧ rmy.slots = 0 ∧ k ≤ rm.cells ∧ n ≤ rm.slots) (hA : As.length = np) (hst : st0 = As.reverse ++ st) (hc : (st.map fun v => v.category).sum ≤ 8) (hd : decode cc pc = .ok (.invokestatic idx, 3))
    (hf : mo_xs m F = some (.inr v, σ')) (hC : ∀ (q : Nat) (x : ρ) (σ1 : ac_H), m = some (.inr x, σ1) → kx_C Λ y (.code y cy mL rety) rmy As q σ (.inr (qv x)) σ1 (fun z => z = q)) (kk : ∀ (x : ρ) (σ1 : ac_H), F x σ1 = some (.inr v, σ') → kx_S Λ Γ nL N σ1 k n (pc + 3) lv ((qv x).toList ++ st)) : kx_S Λ Γ nL N σ k n pc lv st0 := by
  obtain ⟨hfr, hlo, h0, h1, hk, hn⟩ := hrm
  unfold mo_xs at hf
  split at hf
  · rename_i x σ1
    intro H locs ls hR hN hS hl
    have hr := kx_rS (k := k) (n := n) K hM hfr hlo (by omega) (by omega) hA hst hc hd hR hS hl (hC H.size x σ1 rfl)
    exact kx_back (M := N) hr hl hS (fun z hz => by rw [show z = H.size from hz]; exact hN) (by rw [h0, h1]; exact kk x σ1 hf)
  · cases hf
  · cases hf
/-- .. from the law, where a throw is no way on -/
theorem kx_nv (K : kx_K Λ Γ own cc nL ret rm tb) {idx ci np mL b : Nat} {y : MethodName} {cy : ByteArray} {rety : Option FieldType} {rmy : Room} (As : List Value) {st0 : List Value} {m : Option ((String ⊕ ρ) × ac_H)} {F : ρ → ac_H → Option α} (qv : ρ → Option Value) (hM : kx_MV own idx y cy mL rety ci np) (hrm : rmy.frames + 1 ≤ rm.frames ∧ 8 + (mL + 11) + rmy.locals ≤ rm.locals ∧ rmy.cells = 0 ∧ rmy.slots = 0 ∧ k ≤ rm.cells ∧ n ≤ rm.slots) (hA : As.length = np) (hst : st0 = As.reverse ++ .ref b :: st) (hc : (st.map fun v => v.category).sum ≤ 8) (hd : decode cc pc = .ok (.invokevirtual idx, 3))
    (hf : mo_nv σ b ci m F = some r) (hC : ∀ (q : Nat) (x : ρ) (σ1 : ac_H), m = some (.inr x, σ1) → kx_C Λ y (.code y cy mL rety) rmy (.ref b :: As) q σ (.inr (qv x)) σ1 (fun z => z = q)) (kk : ∀ (x : ρ) (σ1 : ac_H), F x σ1 = some r → kx_S Λ Γ nL N σ1 k n (pc + 3) lv ((qv x).toList ++ st)) : kx_S Λ Γ nL N σ k n pc lv st0 := by
  obtain ⟨hfr, hlo, h0, h1, hk, hn⟩ := hrm
  unfold mo_nv at hf
  split at hf
  · rename_i c fs hb
    split at hf
    · rename_i hci
      subst hci
      split at hf
      · rename_i x σ1
        intro H locs ls hR hN hS hl
        have hr := kx_rV (k := k) (n := n) K hM hfr hlo (by omega) (by omega) hA hst hc hd hb hR hS hl (hC H.size x σ1 rfl)
        exact kx_back (M := N) hr hl hS (fun z hz => by rw [show z = H.size from hz]; exact hN) (by rw [h0, h1]; exact kk x σ1 hf)
      · cases hf
    · cases hf
  · cases hf
/-- calls of methods that make cells: by a class, static, a constructor, a nest mate's constructor -/
theorem kx_av (K : kx_K Λ Γ own cc nL ret rm tb) {idx ci np mL b k' n' : Nat} {y : MethodName} {cy : ByteArray} {rety : Option FieldType} {rmy : Room} (As : List Value) {st0 : List Value} {m : Option (ρ × ac_H)} {F : ρ → ac_H → Option α} (qv : ρ → Option Value) (qz : ρ → Nat) (hM : kx_MV own idx y cy mL rety ci np) (hrm : rmy.frames + 1 ≤ rm.frames ∧ 8 + (mL + 11) + rmy.locals ≤ rm.locals ∧ k + rmy.cells = k' ∧ n + rmy.slots = n' ∧ k' ≤ rm.cells ∧ n' ≤ rm.slots) (hA : As.length = np) (hst : st0 = As.reverse ++ .ref b :: st) (hc : (st.map fun v => v.category).sum ≤ 8) (hd : decode cc pc = .ok (.invokevirtual idx, 3))
    (hf : mo_cv σ b ci m F = some r) (hC : ∀ (x : ρ) (σ1 : ac_H), m = some (x, σ1) → kx_C Λ y (.code y cy mL rety) rmy (.ref b :: As) q σ (.inr (qv x)) σ1 (fun z => z = qz x)) (kk : ∀ (x : ρ) (σ1 : ac_H), F x σ1 = some r → kx_S Λ Γ nL (fun z => z = qz x) σ1 k' n' (pc + 3) lv ((qv x).toList ++ st)) : kx_S Λ Γ nL (fun z => z = q) σ k n pc lv st0 := by
  obtain ⟨hfr, hlo, rfl, rfl, hk, hn⟩ := hrm
  unfold mo_cv at hf
  split at hf
  · rename_i c fs hb
    split at hf
    · rename_i hci
      subst hci
      split at hf
      · rename_i q9
        obtain ⟨x, σ1⟩ := q9
        intro H locs ls hR hN hS hl
        have hC1 := hC x σ1 rfl
        have hN9 : H.size = q := hN
        rw [← hN9] at hC1
        have hr := kx_rV K hM hfr hlo hk hn hA hst hc hd hb hR hS hl hC1
        exact kx_back (M := fun z => z = qz x) hr hl hS (fun z hz => hz) (kk x σ1 hf)
      · cases hf
    · cases hf
  · cases hf
theorem kx_as (K : kx_K Λ Γ own cc nL ret rm tb) {idx np mL k' n' : Nat} {y : MethodName} {cy : ByteArray} {rety : Option FieldType} {rmy : Room} (As : List Value) {st0 : List Value} {m : Option (ρ × ac_H)} {F : ρ → ac_H → Option α} (qv : ρ → Option Value) (qz : ρ → Nat) (hM : kx_MS own idx y cy mL rety np) (hrm : rmy.frames + 1 ≤ rm.frames ∧ 8 + (mL + 11) + rmy.locals ≤ rm.locals ∧ k + rmy.cells = k' ∧ n + rmy.slots = n' ∧ k' ≤ rm.cells ∧ n' ≤ rm.slots) (hA : As.length = np) (hst : st0 = As.reverse ++ st) (hc : (st.map fun v => v.category).sum ≤ 8) (hd : decode cc pc = .ok (.invokestatic idx, 3))
    (hf : mo_cs m F = some r) (hC : ∀ (x : ρ) (σ1 : ac_H), m = some (x, σ1) → kx_C Λ y (.code y cy mL rety) rmy As q σ (.inr (qv x)) σ1 (fun z => z = qz x)) (kk : ∀ (x : ρ) (σ1 : ac_H), F x σ1 = some r → kx_S Λ Γ nL (fun z => z = qz x) σ1 k' n' (pc + 3) lv ((qv x).toList ++ st)) : kx_S Λ Γ nL (fun z => z = q) σ k n pc lv st0 := by
  obtain ⟨hfr, hlo, rfl, rfl, hk, hn⟩ := hrm
  unfold mo_cs at hf
  split at hf
  · rename_i q9
    obtain ⟨x, σ1⟩ := q9
    intro H locs ls hR hN hS hl
    have hC1 := hC x σ1 rfl
    have hN9 : H.size = q := hN
    rw [← hN9] at hC1
    have hr := kx_rS K hM hfr hlo hk hn hA hst hc hd hR hS hl hC1
    exact kx_back (M := fun z => z = qz x) hr hl hS (fun z hz => hz) (kk x σ1 hf)
  · cases hf
def kx_MN (own : String) (idx : Nat) (y : MethodName) (cy : ByteArray) (mL : Nat) (np : Nat) (j : Nat) : Prop := j < 24 ∧ ac_Fn j = .methodLinkNest own idx y "FaultBenchLaw" ∧ Cond.instanceMethod y ∈ wsL_law ∧ y.name = "<init>" ∧ Cond.initialized y.cls ∈ wsL_law ∧ Cond.code y cy mL none ∈ wsL_law ∧ (y.cls ≠ "java/lang/invoke/MethodHandle" ∧ y.cls ≠ "java/lang/invoke/VarHandle" ∧ (parseMethodDescriptor y.desc).map (fun d => d.parameters.length) = some np)
theorem kx_cin (K : kx_K Λ Γ own cc nL ret rm tb) {idx np mL b k' n' j : Nat} {y : MethodName} {cy : ByteArray} {rmy : Room} (As : List Value) {st0 : List Value} {m : Option (Nat × ac_H)} {F : Nat → ac_H → Option α} (hM : kx_MN own idx y cy mL np j) (hrm : rmy.frames + 1 ≤ rm.frames ∧ 8 + (mL + 11) + rmy.locals ≤ rm.locals ∧ k + rmy.cells = k' ∧ n + rmy.slots = n' ∧ k' ≤ rm.cells ∧ n' ≤ rm.slots) (hA : As.length = np) (hst : st0 = As.reverse ++ .ref b :: st) (hc : (st.map fun v => v.category).sum ≤ 8) (hd : decode cc pc = .ok (.invokespecial idx, 3))
    (hf : mo_cs m F = some r) (hC : ∀ (x : Nat) (σ1 : ac_H), m = some (x, σ1) → kx_C Λ y (.code y cy mL none) rmy (.ref b :: As) q σ (.inr none) σ1 (fun z => z = x)) (kk : ∀ (x : Nat) (σ1 : ac_H), F x σ1 = some r → kx_S Λ Γ nL (fun z => z = x) σ1 k' n' (pc + 3) lv st) : kx_S Λ Γ nL (fun z => z = q) σ k n pc lv st0 := by
  obtain ⟨hfr, hlo, rfl, rfl, hk, hn⟩ := hrm
  obtain ⟨m1, m2, m3, m4, m5, m6, m7⟩ := hM
  have hts := K.2.2.2.2.1
  have hRm := K.2.2.2.2.2.2.2.2.1
  unfold mo_cs at hf
  split at hf
  · rename_i q9
    obtain ⟨x, σ1⟩ := q9
    intro H locs ls hR hN hS hl
    have hC1 := hC x σ1 rfl
    have hN9 : H.size = q := hN
    rw [← hN9] at hC1
    have hr : kx_Rn Λ Γ rmy k n H locs (F0 (kx_m Γ) pc ls st0) st (Value.ref b :: As).toArray (.inr none) σ1 (fun z => z = x) :=
      vx_runIN (Ts := wsL_law) (host := "FaultBenchLaw") ⟨K.1, K.2.1, K.2.2.1, K.2.2.2.1, hts⟩ hC1 ⟨va_cnB np hts (kx_gc m6) rfl rfl rfl (by rw [← m2]; exact K.2.2.2.2.2.1.1.2.2.2.2.1 j m1) (hts _ m5) m7 (by rw [hRm]; exact ⟨hfr, hlo⟩), m4, hts _ m3⟩ ⟨kx_blind, fun U hU hW => ⟨rfl, by rw [hU]; exact hR, by rw [hU], K.2.2.2.2.2.1.at hS hU hW⟩⟩ rfl hA hl.1 hst (lv_room (m := kx_m Γ) (pc := pc) (ls := ls) (rest := st0) hc) hd (by rw [hRm]; exact ⟨hk, hn⟩)
    exact kx_back (M := fun z => z = x) hr hl hS (fun z hz => hz) (kk x σ1 hf)
  · cases hf
/-- a method of AbstractStringBuilder on a StringBuilder: inherited, or overridden -/
def kx_MU (own : String) (idx : Nat) (x y : MethodName) (cy : ByteArray) (mL : Nat) (rety : Option FieldType) (np : Nat) : Prop := Cond.methodLink own idx x ∈ wsL_law ∧ Cond.sameMethod x.cls RJ5 x.name x.desc ∈ wsL_law ∧ Cond.selects RJ4 x y ∈ wsL_law ∧ Cond.instanceMethod y ∈ wsL_law ∧ Cond.initialized y.cls ∈ wsL_law ∧ Cond.code y cy mL rety ∈ wsL_law ∧ ((RJ5 ≠ "java/lang/invoke/MethodHandle" ∧ RJ5 ≠ "java/lang/invoke/VarHandle" ∧ (parseMethodDescriptor x.desc).map (fun d => d.parameters.length) = some np)) ∧ (y = ⟨RJ5, x.name, x.desc⟩ ∨ (Cond.instanceMethod ⟨RJ5, x.name, x.desc⟩ ∈ wsL_law ∧ ∃ b0 m0 r0, Cond.code ⟨RJ5, x.name, x.desc⟩ b0 m0 r0 ∈ wsL_law))
theorem kx_gU {own : String} {idx mL : Nat} {x y : MethodName} {cy : ByteArray} {rety : Option FieldType} (h1 : Cond.methodLink own idx x ∈ wsL_law) (h2 : Cond.sameMethod x.cls RJ5 x.name x.desc ∈ wsL_law) (h3 : Cond.selects RJ4 x y ∈ wsL_law) (h4 : Cond.instanceMethod y ∈ wsL_law) (h5 : Cond.initialized y.cls ∈ wsL_law) (h6 : Cond.code y cy mL rety ∈ wsL_law) : GoodIn wsL_law (va_wsU own idx RJ4 RJ5 x y (.code y cy mL rety :: wsL_law)) := by
  intro w hw
  unfold va_wsU at hw
  rcases List.mem_append.mp hw with h | h
  · simp only [List.mem_cons, List.not_mem_nil, or_false] at h
    rcases h with rfl | rfl | rfl | rfl | rfl
    · exact kx_gw _ h1
    · exact kx_gw _ h2
    · exact kx_gw _ h3
    · exact kx_gw _ h4
    · exact kx_gw _ h5
  · exact kx_gc h6 _ h
theorem kx_gO {own : String} {idx mL : Nat} {x y : MethodName} {cy : ByteArray} {rety : Option FieldType} (h1 : Cond.methodLink own idx x ∈ wsL_law) (h2 : Cond.sameMethod x.cls RJ5 x.name x.desc ∈ wsL_law) (h0 : Cond.instanceMethod ⟨RJ5, x.name, x.desc⟩ ∈ wsL_law) (h3 : Cond.selects RJ4 x y ∈ wsL_law) (h4 : Cond.instanceMethod y ∈ wsL_law) (h5 : Cond.initialized y.cls ∈ wsL_law) (h6 : Cond.code y cy mL rety ∈ wsL_law) : GoodIn wsL_law (va_wsO own idx RJ4 RJ5 x y (.code y cy mL rety :: wsL_law)) := by
  intro w hw
  unfold va_wsO at hw
  rcases List.mem_append.mp hw with h | h
  · simp only [List.mem_cons, List.not_mem_nil, or_false] at h
    rcases h with rfl | rfl | rfl | rfl | rfl | rfl
    · exact kx_gw _ h1
    · exact kx_gw _ h2
    · exact kx_gw _ h0
    · exact kx_gw _ h3
    · exact kx_gw _ h4
    · exact kx_gw _ h5
  · exact kx_gc h6 _ h
theorem kx_rU (K : kx_K Λ Γ own cc nL ret rm tb) {idx np mL b : Nat} {x y : MethodName} {cy : ByteArray} {rety : Option FieldType} {rmy : Room} {As : List Value} {o : String ⊕ Option Value} {σ1 : ac_H} {N1 : Nat → Prop} {fs : List Value} {H : Heap} {locs : List Loc} {ls : Array Slot} {st0 : List Value}
    (hM : kx_MU own idx x y cy mL rety np) (hfr : rmy.frames + 1 ≤ rm.frames) (hlo : 8 + (mL + 11) + rmy.locals ≤ rm.locals) (hk : k + rmy.cells ≤ rm.cells) (hn : n + rmy.slots ≤ rm.slots) (hA : As.length = np) (hst : st0 = As.reverse ++ .ref b :: st) (hc : (st.map fun v => v.category).sum ≤ 8) (hd : decode cc pc = .ok (.invokevirtual idx, 3))
    (hb : σ b = some (.inr (10, fs))) (hR : ac_R Λ σ H) (hS : va_S (ex_A Λ) (kx_s Γ).heap H locs) (hl : lv_has ls nL lv) (hC : kx_C Λ y (.code y cy mL rety) rmy (.ref b :: As) H.size σ o σ1 N1) :
    kx_Rn Λ Γ rmy k n H locs (F0 (kx_m Γ) pc ls st0) st (Value.ref b :: As).toArray o σ1 N1 := by
  obtain ⟨m1, m2, m3, m4, m5, m6, m7, m8⟩ := hM
  have hts := K.2.2.2.2.1
  have hRm := K.2.2.2.2.2.2.2.2.1
  have hrc := va_recv K.2.2.2.2.2.1.1.2.1 (hR.one hb) (show vwCl[10]? = some (RJ4, TJ4, 4) from rfl) (q0 := 0) rfl
  have cu : va_CU (kx_R Γ) (kx_s Γ) (kx_a Γ) own RJ4 RJ5 idx x y cy mL rety (.code y cy mL rety :: wsL_law) rmy rmy.cells rmy.slots np := by
    rcases m8 with g | ⟨g0, b0, m0, r0, g1⟩
    · exact va_cwU np hts (kx_gU m1 m2 m3 m4 m5 m6) rfl rfl rfl g m7 (by rw [hRm]; exact ⟨hfr, hlo⟩)
    · exact va_cwO np hts (kx_gO m1 m2 g0 m3 m4 m5 m6) rfl rfl rfl g1 m7 (by rw [hRm]; exact ⟨hfr, hlo⟩)
  exact vx_runU (Ts := wsL_law) ⟨K.1, K.2.1, K.2.2.1, K.2.2.2.1, hts⟩ hC cu ⟨kx_blind, hrc, fun U hU hW => ⟨rfl, by rw [hU]; exact hR, by rw [hU], K.2.2.2.2.2.1.at hS hU hW⟩⟩ rfl hA hl.1 hst (lv_room (m := kx_m Γ) (pc := pc) (ls := ls) (rest := st0) hc) hd (by rw [hRm]; exact ⟨hk, hn⟩)
theorem kx_au (K : kx_K Λ Γ own cc nL ret rm tb) {idx np mL b k' n' : Nat} {x9 y : MethodName} {cy : ByteArray} {rety : Option FieldType} {rmy : Room} (As : List Value) {st0 : List Value} {m : Option (ρ × ac_H)} {F : ρ → ac_H → Option α} (qv : ρ → Option Value) (qz : ρ → Nat) (hM : kx_MU own idx x9 y cy mL rety np) (hrm : rmy.frames + 1 ≤ rm.frames ∧ 8 + (mL + 11) + rmy.locals ≤ rm.locals ∧ k + rmy.cells = k' ∧ n + rmy.slots = n' ∧ k' ≤ rm.cells ∧ n' ≤ rm.slots) (hA : As.length = np) (hst : st0 = As.reverse ++ .ref b :: st) (hc : (st.map fun v => v.category).sum ≤ 8) (hd : decode cc pc = .ok (.invokevirtual idx, 3))
    (hf : mo_cv σ b 10 m F = some r) (hC : ∀ (x : ρ) (σ1 : ac_H), m = some (x, σ1) → kx_C Λ y (.code y cy mL rety) rmy (.ref b :: As) q σ (.inr (qv x)) σ1 (fun z => z = qz x)) (kk : ∀ (x : ρ) (σ1 : ac_H), F x σ1 = some r → kx_S Λ Γ nL (fun z => z = qz x) σ1 k' n' (pc + 3) lv ((qv x).toList ++ st)) : kx_S Λ Γ nL (fun z => z = q) σ k n pc lv st0 := by
  obtain ⟨hfr, hlo, rfl, rfl, hk, hn⟩ := hrm
  unfold mo_cv at hf
  split at hf
  · rename_i c fs hb
    split at hf
    · rename_i hci
      subst hci
      split at hf
      · rename_i q9
        obtain ⟨x, σ1⟩ := q9
        intro H locs ls hR hN hS hl
        have hC1 := hC x σ1 rfl
        have hN9 : H.size = q := hN
        rw [← hN9] at hC1
        have hr := kx_rU K hM hfr hlo hk hn hA hst hc hd hb hR hS hl hC1
        exact kx_back (M := fun z => z = qz x) hr hl hS (fun z hz => hz) (kk x σ1 hf)
      · cases hf
    · cases hf
  · cases hf
theorem kx_cu (K : kx_K Λ Γ own cc nL ret rm tb) {idx np mL b : Nat} {x9 y : MethodName} {cy : ByteArray} {rety : Option FieldType} {rmy : Room} (As : List Value) {st0 : List Value} {m : Option (ρ × ac_H)} {F : ρ → ac_H → Option α} (qv : ρ → Option Value) (hM : kx_MU own idx x9 y cy mL rety np) (hrm : rmy.frames + 1 ≤ rm.frames ∧ 8 + (mL + 11) + rmy.locals ≤ rm.locals ∧ rmy.cells = 0 ∧ rmy.slots = 0 ∧ k ≤ rm.cells ∧ n ≤ rm.slots) (hA : As.length = np) (hst : st0 = As.reverse ++ .ref b :: st) (hc : (st.map fun v => v.category).sum ≤ 8) (hd : decode cc pc = .ok (.invokevirtual idx, 3))
    (hf : mo_cv σ b 10 m F = some r) (hC : ∀ (q : Nat) (x : ρ) (σ1 : ac_H), m = some (x, σ1) → kx_C Λ y (.code y cy mL rety) rmy (.ref b :: As) q σ (.inr (qv x)) σ1 (fun z => z = q)) (kk : ∀ (x : ρ) (σ1 : ac_H), F x σ1 = some r → kx_S Λ Γ nL N σ1 k n (pc + 3) lv ((qv x).toList ++ st)) : kx_S Λ Γ nL N σ k n pc lv st0 := by
  obtain ⟨hfr, hlo, h0, h1, hk, hn⟩ := hrm
  unfold mo_cv at hf
  split at hf
  · rename_i c fs hb
    split at hf
    · rename_i hci
      subst hci
      split at hf
      · rename_i q9
        obtain ⟨x, σ1⟩ := q9
        intro H locs ls hR hN hS hl
        have hr := kx_rU (k := k) (n := n) K hM hfr hlo (by omega) (by omega) hA hst hc hd hb hR hS hl (hC H.size x σ1 rfl)
        exact kx_back (M := N) hr hl hS (fun z hz => by rw [show z = H.size from hz]; exact hN) (by rw [h0, h1]; exact kk x σ1 hf)
      · cases hf
    · cases hf
  · cases hf
/-- super.m(..) of a StringBuilder -/
def kx_MG (idx : Nat) (y : MethodName) (cy : ByteArray) (mL : Nat) (rety : Option FieldType) (np : Nat) : Prop := Cond.methodLink RJ4 idx y ∈ wsL_law ∧ Cond.sameMethod y.cls y.cls y.name y.desc ∈ wsL_law ∧ Cond.superclass RJ4 y.cls ∈ wsL_law ∧ Cond.instanceMethod y ∈ wsL_law ∧ Cond.initialized y.cls ∈ wsL_law ∧ Cond.code y cy mL rety ∈ wsL_law ∧ (y.name ≠ "<init>" ∧ (parseMethodDescriptor y.desc).map (fun d => d.parameters.length) = some np)
theorem kx_rG (K : kx_K Λ Γ RJ4 cc nL ret rm tb) {idx np mL b : Nat} {y : MethodName} {cy : ByteArray} {rety : Option FieldType} {rmy : Room} {As : List Value} {o : String ⊕ Option Value} {σ1 : ac_H} {N1 : Nat → Prop} {fs : List Value} {H : Heap} {locs : List Loc} {ls : Array Slot} {st0 : List Value}
    (hM : kx_MG idx y cy mL rety np) (hfr : rmy.frames + 1 ≤ rm.frames) (hlo : 8 + (mL + 11) + rmy.locals ≤ rm.locals) (hk : k + rmy.cells ≤ rm.cells) (hn : n + rmy.slots ≤ rm.slots) (hA : As.length = np) (hst : st0 = As.reverse ++ .ref b :: st) (hc : (st.map fun v => v.category).sum ≤ 8) (hd : decode cc pc = .ok (.invokespecial idx, 3))
    (hb : σ b = some (.inr (10, fs))) (hR : ac_R Λ σ H) (hS : va_S (ex_A Λ) (kx_s Γ).heap H locs) (hl : lv_has ls nL lv) (hC : kx_C Λ y (.code y cy mL rety) rmy (.ref b :: As) H.size σ o σ1 N1) :
    kx_Rn Λ Γ rmy k n H locs (F0 (kx_m Γ) pc ls st0) st (Value.ref b :: As).toArray o σ1 N1 := by
  obtain ⟨m1, m2, m3, m4, m5, m6, m7⟩ := hM
  have hts := K.2.2.2.2.1
  have hRm := K.2.2.2.2.2.2.2.2.1
  have hrc := va_recv K.2.2.2.2.2.1.1.2.1 (hR.one hb) (show vwCl[10]? = some (RJ4, TJ4, 4) from rfl) (q0 := 0) rfl
  have hkn := K.2.2.2.2.2.1.1.2.1.1 10 _ (show vwCl[10]? = some (RJ4, TJ4, 4) from rfl)
  obtain ⟨-, hfc, kC, hkC, hkind⟩ := hkn
  have hg : GoodIn wsL_law (va_wsSU RJ4 idx y (.code y cy mL rety :: wsL_law)) := by
    intro w hw
    unfold va_wsSU at hw
    rcases List.mem_append.mp hw with h | h
    · simp only [List.mem_cons, List.not_mem_nil, or_false] at h
      rcases h with rfl | rfl | rfl | rfl | rfl
      · exact kx_gw _ m1
      · exact kx_gw _ m2
      · exact kx_gw _ m3
      · exact kx_gw _ m4
      · exact kx_gw _ m5
    · exact kx_gc m6 _ h
  exact vx_runSU (Ts := wsL_law) (C := RJ4) ⟨hfc, kC, hkC, hkind⟩ ⟨K.1, K.2.1, K.2.2.1, K.2.2.2.1, hts⟩ hC (va_cwSU np hts hg rfl rfl rfl m7 (by rw [hRm]; exact ⟨hfr, hlo⟩)) ⟨kx_blind, hrc, fun U hU hW => ⟨rfl, by rw [hU]; exact hR, by rw [hU], K.2.2.2.2.2.1.at hS hU hW⟩⟩ rfl hA hl.1 hst (lv_room (m := kx_m Γ) (pc := pc) (ls := ls) (rest := st0) hc) hd (by rw [hRm]; exact ⟨hk, hn⟩)
theorem kx_ag (K : kx_K Λ Γ RJ4 cc nL ret rm tb) {idx np mL b k' n' : Nat} {y : MethodName} {cy : ByteArray} {rety : Option FieldType} {rmy : Room} (As : List Value) {st0 : List Value} {m : Option (ρ × ac_H)} {F : ρ → ac_H → Option α} (qv : ρ → Option Value) (qz : ρ → Nat) (hM : kx_MG idx y cy mL rety np) (hrm : rmy.frames + 1 ≤ rm.frames ∧ 8 + (mL + 11) + rmy.locals ≤ rm.locals ∧ k + rmy.cells = k' ∧ n + rmy.slots = n' ∧ k' ≤ rm.cells ∧ n' ≤ rm.slots) (hA : As.length = np) (hst : st0 = As.reverse ++ .ref b :: st) (hc : (st.map fun v => v.category).sum ≤ 8) (hd : decode cc pc = .ok (.invokespecial idx, 3))
    (hf : mo_cv σ b 10 m F = some r) (hC : ∀ (x : ρ) (σ1 : ac_H), m = some (x, σ1) → kx_C Λ y (.code y cy mL rety) rmy (.ref b :: As) q σ (.inr (qv x)) σ1 (fun z => z = qz x)) (kk : ∀ (x : ρ) (σ1 : ac_H), F x σ1 = some r → kx_S Λ Γ nL (fun z => z = qz x) σ1 k' n' (pc + 3) lv ((qv x).toList ++ st)) : kx_S Λ Γ nL (fun z => z = q) σ k n pc lv st0 := by
  obtain ⟨hfr, hlo, rfl, rfl, hk, hn⟩ := hrm
  unfold mo_cv at hf
  split at hf
  · rename_i c fs hb
    split at hf
    · rename_i hci
      subst hci
      split at hf
      · rename_i q9
        obtain ⟨x, σ1⟩ := q9
        intro H locs ls hR hN hS hl
        have hC1 := hC x σ1 rfl
        have hN9 : H.size = q := hN
        rw [← hN9] at hC1
        have hr := kx_rG K hM hfr hlo hk hn hA hst hc hd hb hR hS hl hC1
        exact kx_back (M := fun z => z = qz x) hr hl hS (fun z hz => hz) (kk x σ1 hf)
      · cases hf
    · cases hf
  · cases hf
theorem kx_cg (K : kx_K Λ Γ RJ4 cc nL ret rm tb) {idx np mL b : Nat} {y : MethodName} {cy : ByteArray} {rety : Option FieldType} {rmy : Room} (As : List Value) {st0 : List Value} {m : Option (ρ × ac_H)} {F : ρ → ac_H → Option α} (qv : ρ → Option Value) (hM : kx_MG idx y cy mL rety np) (hrm : rmy.frames + 1 ≤ rm.frames ∧ 8 + (mL + 11) + rmy.locals ≤ rm.locals ∧ rmy.cells = 0 ∧ rmy.slots = 0 ∧ k ≤ rm.cells ∧ n ≤ rm.slots) (hA : As.length = np) (hst : st0 = As.reverse ++ .ref b :: st) (hc : (st.map fun v => v.category).sum ≤ 8) (hd : decode cc pc = .ok (.invokespecial idx, 3))
    (hf : mo_cv σ b 10 m F = some r) (hC : ∀ (q : Nat) (x : ρ) (σ1 : ac_H), m = some (x, σ1) → kx_C Λ y (.code y cy mL rety) rmy (.ref b :: As) q σ (.inr (qv x)) σ1 (fun z => z = q)) (kk : ∀ (x : ρ) (σ1 : ac_H), F x σ1 = some r → kx_S Λ Γ nL N σ1 k n (pc + 3) lv ((qv x).toList ++ st)) : kx_S Λ Γ nL N σ k n pc lv st0 := by
  obtain ⟨hfr, hlo, h0, h1, hk, hn⟩ := hrm
  unfold mo_cv at hf
  split at hf
  · rename_i c fs hb
    split at hf
    · rename_i hci
      subst hci
      split at hf
      · rename_i q9
        obtain ⟨x, σ1⟩ := q9
        intro H locs ls hR hN hS hl
        have hr := kx_rG (k := k) (n := n) K hM hfr hlo (by omega) (by omega) hA hst hc hd hb hR hS hl (hC H.size x σ1 rfl)
        exact kx_back (M := N) hr hl hS (fun z hz => by rw [show z = H.size from hz]; exact hN) (by rw [h0, h1]; exact kk x σ1 hf)
      · cases hf
    · cases hf
  · cases hf
/-- a nest mate's field -/
def kx_FN (own : String) (idx ci k j : Nat) (ty : FieldType) : Prop := j < 24 ∧ ∃ (C : String) (T : u_T) (M : Nat) (ty0 : Nat → FieldType), vwCl[ci]? = some (C, T, M) ∧ (∀ w ∈ u_ws C T M, w ∈ wsL_law) ∧ (∀ i, i < M → parseFieldDescriptor (T i).2.2.1 = some (ty0 i)) ∧ k < M ∧ ac_Fn j = .fieldLinkNest own idx C (T k).2.1 (T k).2.2.1 "FaultBenchLaw" ∧ (T k).1 = C ∧ ty0 k = ty
theorem kx_getN0 (K : kx_K Λ Γ own cc nL ret rm tb) {idx ci j a j9 : Nat} {ty : FieldType} (hF : kx_FN own idx ci j j9 ty) (hd : decode cc pc = .ok (.getfield idx, 3)) {fs : List Value} {v : Value} (ha : σ a = some (.inr (ci, fs))) (hv : fs[j]? = some v) (kk : kx_S Λ Γ nL N σ k n (pc + 3) lv (v :: st)) : kx_S Λ Γ nL N σ k n pc lv (.ref a :: st) := fun H locs ls hR hN hS hl => by
  obtain ⟨hj9, C, T, M, ty0, hc, hin, hty, hj, hw, hs, h1⟩ := hF
  exact va_getN (ref := C) (host := "FaultBenchLaw") K.1 K.2.1 K.2.2.2.2.1 hin K.2.2.2.1 K.2.2.2.2.2.1.1.2.1 (hR.one ha) 0 rfl hc j hj (va_Nw.use rfl (by rw [← hw]; exact K.2.2.2.2.2.1.1.2.2.2.2.1 j9 hj9)) (fun x hx => by rw [hs] at hx; exact hx) hv hd (kk H locs ls hR hN hS hl)
theorem kx_giN (K : kx_K Λ Γ own cc nL ret rm tb) {idx ci j a j9 : Nat} {ty : FieldType} (hF : kx_FN own idx ci j j9 ty) (hd : decode cc pc = .ok (.getfield idx, 3)) {F : Int32 → Option α} (hf : mo_gi σ a ci j F = some r) (kk : ∀ x : Int32, F x = some r → kx_S Λ Γ nL N σ k n (pc + 3) lv (.int x :: st)) : kx_S Λ Γ nL N σ k n pc lv (.ref a :: st) := by
  unfold mo_gi at hf
  split at hf
  · rename_i c fs ha
    split at hf
    · rename_i hc
      split at hf
      · rename_i x hx
        subst hc
        exact kx_getN0 K hF hd ha hx (kk x hf)
      · cases hf
    · cases hf
  · cases hf
theorem kx_grN (K : kx_K Λ Γ own cc nL ret rm tb) {idx ci j a j9 : Nat} {ty : FieldType} (hF : kx_FN own idx ci j j9 ty) (hd : decode cc pc = .ok (.getfield idx, 3)) {F : Nat → Option α} (hf : mo_gr σ a ci j F = some r) (kk : ∀ x : Nat, F x = some r → kx_S Λ Γ nL N σ k n (pc + 3) lv (.ref x :: st)) : kx_S Λ Γ nL N σ k n pc lv (.ref a :: st) := by
  unfold mo_gr at hf
  split at hf
  · rename_i c fs ha
    split at hf
    · rename_i hc
      split at hf
      · rename_i x hx
        subst hc
        exact kx_getN0 K hF hd ha hx (kk x hf)
      · cases hf
    · cases hf
  · cases hf
end KX9

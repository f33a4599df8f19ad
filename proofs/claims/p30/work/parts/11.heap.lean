/-! MIRROR OPERATIONS (mo_): what an instruction reads or writes of the abstract heap; 'none' where the machine would throw by itself. And their rows. -/
def mo_gi {α : Type} (σ : ac_H) (a ci k : Nat) (F : Int32 → Option α) : Option α := match σ a with
  | some (.inr (c, fs)) => if c = ci then (match fs[k]? with | some (.int x) => F x | _ => none) else none
  | _ => none
def mo_gr {α : Type} (σ : ac_H) (a ci k : Nat) (F : Nat → Option α) : Option α := match σ a with
  | some (.inr (c, fs)) => if c = ci then (match fs[k]? with | some (.ref x) => F x | _ => none) else none
  | _ => none
def mo_pv {α : Type} (σ : ac_H) (a ci k : Nat) (v : Value) (F : ac_H → Option α) : Option α := match σ a with
  | some (.inr (c, fs)) => if c = ci then (if k < fs.length then F (ac_up σ a (.inr (ci, fs.set k v))) else none) else none
  | _ => none
/-- a boolean -/
def mo_z {α : Type} (x : Int32) (A : Option α) : Option α := if x = 0 ∨ x = 1 then A else none
def mo_ai {α : Type} (σ : ac_H) (a kd : Nat) (i : Int32) (F : Int32 → Option α) : Option α := match σ a with
  | some (.inl (k, n, .inl f)) => if k = kd then (if i < 0 ∨ n ≤ i.toNatClampNeg then none else F (f i.toNatClampNeg)) else none
  | _ => none
def mo_ui {α : Type} (σ : ac_H) (a kd : Nat) (i x : Int32) (F : ac_H → Option α) : Option α := match σ a with
  | some (.inl (k, n, .inl f)) => if k = kd then (if i < 0 ∨ n ≤ i.toNatClampNeg then none else F (ac_up σ a (.inl (kd, n, .inl (upd f i.toNatClampNeg x))))) else none
  | _ => none
def mo_al {α : Type} (σ : ac_H) (a : Nat) (i : Int32) (F : Int64 → Option α) : Option α := match σ a with
  | some (.inl (k, n, .inr (.inl f))) => if k = 3 then (if i < 0 ∨ n ≤ i.toNatClampNeg then none else F (f i.toNatClampNeg)) else none
  | _ => none
def mo_ul {α : Type} (σ : ac_H) (a : Nat) (i : Int32) (x : Int64) (F : ac_H → Option α) : Option α := match σ a with
  | some (.inl (k, n, .inr (.inl f))) => if k = 3 then (if i < 0 ∨ n ≤ i.toNatClampNeg then none else F (ac_up σ a (.inl (3, n, .inr (.inl (vp_updL f i.toNatClampNeg x)))))) else none
  | _ => none
def mo_aq {α : Type} (σ : ac_H) (a : Nat) (i : Int32) (F : Option Nat → Option α) : Option α := match σ a with
  | some (.inl (k, n, .inr (.inr (.inr (.inr f))))) => if k = 4 then (if i < 0 ∨ n ≤ i.toNatClampNeg then none else F (f i.toNatClampNeg)) else none
  | _ => none
/-- an object of class 0 into an array of such -/
def mo_uq {α : Type} (σ : ac_H) (a : Nat) (i : Int32) (b : Nat) (F : ac_H → Option α) : Option α := match σ a, σ b with
  | some (.inl (k, n, .inr (.inr (.inr (.inr f))))), some (.inr (c, _)) => if k = 4 ∧ c = 0 then (if i < 0 ∨ n ≤ i.toNatClampNeg then none else F (ac_up σ a (.inl (4, n, .inr (.inr (.inr (.inr (va_up f i.toNatClampNeg (some b))))))))) else none
  | _, _ => none
def mo_ln {α : Type} (σ : ac_H) (a : Nat) (F : Int32 → Option α) : Option α := match σ a with
  | some (.inl (k, n, _)) => if k < 5 then F (Int32.ofNat n) else none
  | _ => none
/-- null or not -/
def mo_nl {α : Type} (o : Option Nat) (A : Option α) (B : Nat → Option α) : Option α := match o with
  | none => A
  | some b => B b
/-- a table's place -/
def mo_t {α : Type} (i : Nat) (j : Int32) (F : Int32 → Option α) : Option α := if j < 0 ∨ 8 ≤ j.toNatClampNeg then none else F ((ac_T i).getD j.toNatClampNeg 0)
def mo_rm {α : Type} (x y : Int32) (F : Int32 → Option α) : Option α := if y = 0 then none else F (x - x / y * y)
def mo_dv {α : Type} (x y : Int32) (F : Int32 → Option α) : Option α := if y = 0 then none else F (x / y)
/-- a call of a method of class ci: by the receiver; and a static one -/
def mo_cv {α ρ : Type} (σ : ac_H) (b ci : Nat) (m : Option (ρ × ac_H)) (F : ρ → ac_H → Option α) : Option α := match σ b with
  | some (.inr (c, _)) => if c = ci then (match m with | some q => F q.1 q.2 | none => none) else none
  | _ => none
def mo_cs {α ρ : Type} (m : Option (ρ × ac_H)) (F : ρ → ac_H → Option α) : Option α := match m with
  | some q => F q.1 q.2
  | none => none
/-- .. that may throw: the throw goes on -/
def mo_xv {ρ' ρ : Type} (σ : ac_H) (b ci : Nat) (m : Option ((String ⊕ ρ) × ac_H)) (F : ρ → ac_H → Option ((String ⊕ ρ') × ac_H)) : Option ((String ⊕ ρ') × ac_H) := match σ b with
  | some (.inr (c, _)) => if c = ci then (match m with | some (.inr x, σ1) => F x σ1 | some (.inl E, σ1) => some (.inl E, σ1) | none => none) else none
  | _ => none
def mo_xs {ρ' ρ : Type} (m : Option ((String ⊕ ρ) × ac_H)) (F : ρ → ac_H → Option ((String ⊕ ρ') × ac_H)) : Option ((String ⊕ ρ') × ac_H) := match m with
  | some (.inr x, σ1) => F x σ1
  | some (.inl E, σ1) => some (.inl E, σ1)
  | none => none
/-- .. caught by two kinds of handler -/
def mo_xh {α ρ : Type} (σ : ac_H) (b ci : Nat) (m : Option ((String ⊕ ρ) × ac_H)) (X : String → ac_H → Option α) (F : ρ → ac_H → Option α) : Option α := match σ b with
  | some (.inr (c, _)) => if c = ci then (match m with | some (.inr x, σ1) => F x σ1 | some (.inl E, σ1) => X E σ1 | none => none) else none
  | _ => none
theorem ac_R.put {Λ : ex_L} {σ : ac_H} {H H1 : Heap} {a : Nat} {e : ac_E} (h : ac_R Λ σ H) (hz : ex_z Λ ≤ a) (he : va_at (ex_D Λ) vwCl (a, ac_e (ex_c Λ) e) H1) (ho : ∀ q : Nat, q ≠ a → H1[q]? = H[q]?) : ac_R Λ (ac_up σ a e) H1 := by
  intro q f hq
  unfold ac_up at hq
  by_cases hqa : q = a
  · rw [if_pos hqa] at hq
    cases hq
    rw [hqa]
    exact ⟨hz, he⟩
  · rw [if_neg hqa] at hq
    obtain ⟨h1, h2⟩ := h q f hq
    exact ⟨h1, h2.kept (ho q hqa)⟩
theorem ac_R.kept {Λ : ex_L} {σ : ac_H} {H H1 : Heap} (h : ac_R Λ σ H) (ho : ∀ q : Nat, q < H.size → H1[q]? = H[q]?) : ac_R Λ σ H1 := fun q e hq => ⟨(h q e hq).1, (h q e hq).2.kept (ho q (h q e hq).2.lt)⟩
/-- one cell as a world of the kit -/
theorem ac_R.one {Λ : ex_L} {σ : ac_H} {H : Heap} {a : Nat} {e : ac_E} (h : ac_R Λ σ H) (hq : σ a = some e) : va_P (ex_D Λ) vwCl [(a, ac_e (ex_c Λ) e)] H := by
  intro k q hk
  have hz : k < 1 := (List.getElem?_eq_some_iff.mp hk).1
  rw [show k = 0 by omega] at hk
  cases hk
  exact (h a e hq).2
theorem ac_R.two {Λ : ex_L} {σ : ac_H} {H : Heap} {a b : Nat} {e f : ac_E} (h : ac_R Λ σ H) (hq : σ a = some e) (hr : σ b = some f) : va_P (ex_D Λ) vwCl [(a, ac_e (ex_c Λ) e), (b, ac_e (ex_c Λ) f)] H := by
  intro k q hk
  have hz : k < 2 := (List.getElem?_eq_some_iff.mp hk).1
  rcases (show k = 0 ∨ k = 1 by omega) with rfl | rfl
  · cases hk
    exact (h a e hq).2
  · cases hk
    exact (h b f hr).2
/-- a field of a class of ours, by its entry -/
def kx_F (own : String) (idx ci k : Nat) (ty : FieldType) (fin : Bool) : Prop := ∃ (C : String) (T : u_T) (M : Nat) (ty0 : Nat → FieldType), vwCl[ci]? = some (C, T, M) ∧ (∀ w ∈ u_ws C T M, w ∈ wsL_law) ∧ (∀ j, j < M → parseFieldDescriptor (T j).2.2.1 = some (ty0 j)) ∧
  (∀ a, a < M → ∀ b, b < M → a ≠ b → (T a).2.1 ≠ (T b).2.1) ∧ k < M ∧ Cond.fieldLink own idx (T k).1 (T k).2.1 (T k).2.2.1 ∈ wsL_law ∧ ((T k).2.2.2 = true → (T k).1 = C) ∧ ty0 k = ty ∧ (T k).2.2.2 = fin
section KX2
variable {Λ : ex_L} {Γ : kx_T} {own : String} {cc : ByteArray} {nL : Nat} {ret : Option FieldType} {rm : Room} {tb : List ExceptionTableEntry} {N : Nat → Prop} {σ : ac_H} {k n pc : Nat} {lv : List (Nat × Value)} {st : List Value} {α : Type} {r : α}
theorem kx_get0 (K : kx_K Λ Γ own cc nL ret rm tb) {idx ci j a : Nat} {ty : FieldType} {fin : Bool} (hF : kx_F own idx ci j ty fin) (hd : decode cc pc = .ok (.getfield idx, 3)) {fs : List Value} {v : Value} (ha : σ a = some (.inr (ci, fs))) (hv : fs[j]? = some v) (kk : kx_S Λ Γ nL N σ k n (pc + 3) lv (v :: st)) : kx_S Λ Γ nL N σ k n pc lv (.ref a :: st) := fun H locs ls hR hN hS hl => by
  obtain ⟨C, T, M, ty0, hc, hin, hty, hnm, hj, hw, hs, h1, h2⟩ := hF
  exact va_get (ref := (T j).1) K.1 K.2.1 K.2.2.2.2.1 hin K.2.2.2.1 K.2.2.2.2.2.1.1.2.1 (hR.one ha) 0 rfl hc j hj (K.2.2.2.2.1 _ hw) (fun x hx => hx) hv hd (kk H locs ls hR hN hS hl)
theorem kx_gi (K : kx_K Λ Γ own cc nL ret rm tb) {idx ci j a : Nat} {fin : Bool} {ty : FieldType} (hF : kx_F own idx ci j ty fin) (hd : decode cc pc = .ok (.getfield idx, 3)) {F : Int32 → Option α} (hf : mo_gi σ a ci j F = some r) (kk : ∀ x : Int32, F x = some r → kx_S Λ Γ nL N σ k n (pc + 3) lv (.int x :: st)) : kx_S Λ Γ nL N σ k n pc lv (.ref a :: st) := by
  unfold mo_gi at hf
  split at hf
  · rename_i c fs ha
    split at hf
    · rename_i hc
      split at hf
      · rename_i x hx
        subst hc
        exact kx_get0 K hF hd ha hx (kk x hf)
      · cases hf
    · cases hf
  · cases hf
theorem kx_gr (K : kx_K Λ Γ own cc nL ret rm tb) {idx ci j a : Nat} {fin : Bool} {ty : FieldType} (hF : kx_F own idx ci j ty fin) (hd : decode cc pc = .ok (.getfield idx, 3)) {F : Nat → Option α} (hf : mo_gr σ a ci j F = some r) (kk : ∀ x : Nat, F x = some r → kx_S Λ Γ nL N σ k n (pc + 3) lv (.ref x :: st)) : kx_S Λ Γ nL N σ k n pc lv (.ref a :: st) := by
  unfold mo_gr at hf
  split at hf
  · rename_i c fs ha
    split at hf
    · rename_i hc
      split at hf
      · rename_i x hx
        subst hc
        exact kx_get0 K hF hd ha hx (kk x hf)
      · cases hf
    · cases hf
  · cases hf
theorem kx_put0 (K : kx_K Λ Γ own cc nL ret rm tb) {idx ci j a : Nat} {ty : FieldType} (hF : kx_F own idx ci j ty false) (hd : decode cc pc = .ok (.putfield idx, 3)) {v : Value} (hn : narrow ty v = v) (hfit : fits ty v = true) {F : ac_H → Option α} (hf : mo_pv σ a ci j v F = some r) (kk : ∀ σ1 : ac_H, F σ1 = some r → kx_S Λ Γ nL N σ1 k n (pc + 3) lv st) : kx_S Λ Γ nL N σ k n pc lv (v :: .ref a :: st) := by
  unfold mo_pv at hf
  split at hf
  · rename_i c fs ha
    split at hf
    · rename_i hc
      split at hf
      · rename_i hlen
        subst hc
        intro H locs ls hR hN hS hl
        obtain ⟨C, T, M, ty0, hc, hin, hty, hnm, hj, hw, hs, h1, h2⟩ := hF
        have hK := K.2.2.2.2.2.1.1.2.1
        have hts := K.2.2.2.2.1
        have hown := K.2.2.2.1
        have hap := va_apart (own := own) hts hin ty0 hty hnm hK hc
        obtain ⟨hza, r0, h3, cell, q1, q2, q3, q4⟩ := hR a _ ha
        have hr : r0 = (C, T, M) := Option.some.inj (h3.symm.trans hc)
        subst hr
        obtain ⟨hSl, hfc, kC, hkC, hkind⟩ := hK.1 _ _ hc
        obtain ⟨cf, kf, fi, f, hi, hsl⟩ := hSl j hj
        have hlay := hts _ (hin _ (u_in_lay hj))
        unfold u_lay at hlay
        rw [if_neg (by rw [h2]; decide)] at hlay
        have hst := (u_facts hfc hkC (u_lays hts hin hj) hi).1
        have h6 := u_store hfc hkC hkind hlay hi ((hty j hj).trans (congrArg some h1)) hn hfit
        refine W.putK K.1 K.2.1 (f := f) ⟨hown, hts _ hw, ⟨cf, kf, fi, hi⟩, hst⟩ (by rw [q2]; exact h6) q1 q3 (by rw [hsl]; exact k2_hasslot (q4 j hj)) rfl rfl hd fun H' e1 e2 e3 => ?_
        rw [hsl] at e1 ⊢
        exact kk _ hf H' _ ls (hR.put hza ⟨_, hc, t_OB.to (V := updV (vp_V fs) j v) ⟨_, e1, q2, q3, t_set q4 hap hj v⟩ (fun i _ => vp_updV_set hlen v i)⟩ e3) (by rw [e2]; exact hN) (hS.put e2 e3 hza) hl
      · cases hf
    · cases hf
  · cases hf
theorem kx_pi (K : kx_K Λ Γ own cc nL ret rm tb) {idx ci j a : Nat} (hF : kx_F own idx ci j .int false) (hd : decode cc pc = .ok (.putfield idx, 3)) {x : Int32} {F : ac_H → Option α} (hf : mo_pv σ a ci j (.int x) F = some r) (kk : ∀ σ1 : ac_H, F σ1 = some r → kx_S Λ Γ nL N σ1 k n (pc + 3) lv st) : kx_S Λ Γ nL N σ k n pc lv (.int x :: .ref a :: st) := kx_put0 K hF hd rfl rfl hf kk
theorem kx_b01 {x : Int32} (h : x = 0 ∨ x = 1) : narrow .boolean (.int x) = .int x ∧ fits .boolean (.int x) = true := by
  rcases h with rfl | rfl <;> decide
theorem kx_pz (K : kx_K Λ Γ own cc nL ret rm tb) {idx ci j a : Nat} (hF : kx_F own idx ci j .boolean false) (hd : decode cc pc = .ok (.putfield idx, 3)) {x : Int32} {F : ac_H → Option α} (hf : mo_z x (mo_pv σ a ci j (.int x) F) = some r) (kk : ∀ σ1 : ac_H, F σ1 = some r → kx_S Λ Γ nL N σ1 k n (pc + 3) lv st) : kx_S Λ Γ nL N σ k n pc lv (.int x :: .ref a :: st) := by
  unfold mo_z at hf
  split at hf
  · rename_i h
    exact kx_put0 K hF hd (kx_b01 h).1 (kx_b01 h).2 hf kk
  · cases hf
theorem kx_pr (K : kx_K Λ Γ own cc nL ret rm tb) {idx ci j a b : Nat} {C : String} (hF : kx_F own idx ci j (.object C) false) (hd : decode cc pc = .ok (.putfield idx, 3)) {F : ac_H → Option α} (hf : mo_pv σ a ci j (.ref b) F = some r) (kk : ∀ σ1 : ac_H, F σ1 = some r → kx_S Λ Γ nL N σ1 k n (pc + 3) lv st) : kx_S Λ Γ nL N σ k n pc lv (.ref b :: .ref a :: st) := kx_put0 K hF hd rfl rfl hf kk
theorem kx_pa (K : kx_K Λ Γ own cc nL ret rm tb) {idx ci j a b : Nat} {t : FieldType} (hF : kx_F own idx ci j (.array t) false) (hd : decode cc pc = .ok (.putfield idx, 3)) {F : ac_H → Option α} (hf : mo_pv σ a ci j (.ref b) F = some r) (kk : ∀ σ1 : ac_H, F σ1 = some r → kx_S Λ Γ nL N σ1 k n (pc + 3) lv st) : kx_S Λ Γ nL N σ k n pc lv (.ref b :: .ref a :: st) := kx_put0 K hF hd rfl rfl hf kk
end KX2

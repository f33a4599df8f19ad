/-! ROWS: arrays, what is made, tables. -/
def kx_New (own : String) (idx ci M : Nat) (fs : List Value) : Prop := ∃ (C : String) (T : u_T) (ty0 : Nat → FieldType), vwCl[ci]? = some (C, T, M) ∧ (∀ w ∈ u_ws C T M, w ∈ wsL_law) ∧ (∀ j, j < M → parseFieldDescriptor (T j).2.2.1 = some (ty0 j)) ∧ Cond.classLink own idx C ∈ wsL_law ∧ Cond.instantiable C M ∈ wsL_law ∧ Cond.initialized C ∈ wsL_law ∧ ∀ j, j < M → defaultValue (ty0 j) = vp_V fs j
section KX3
variable {Λ : ex_L} {Γ : kx_T} {own : String} {cc : ByteArray} {nL : Nat} {ret : Option FieldType} {rm : Room} {tb : List ExceptionTableEntry} {N : Nat → Prop} {σ : ac_H} {k n pc : Nat} {lv : List (Nat × Value)} {st : List Value} {α : Type} {r : α}
theorem kx_ai (K : kx_K Λ Γ own cc nL ret rm tb) {a : Nat} {i : Int32} (hd : decode cc pc = .ok (.iaload, 1)) {F : Int32 → Option α} (hf : mo_ai σ a 0 i F = some r) (kk : ∀ x : Int32, F x = some r → kx_S Λ Γ nL N σ k n (pc + 1) lv (.int x :: st)) : kx_S Λ Γ nL N σ k n pc lv (.int i :: .ref a :: st) := by
  unfold mo_ai at hf
  split at hf
  · rename_i kd m f ha
    split at hf
    · rename_i hc
      split at hf
      · cases hf
      · rename_i hin
        subst hc
        exact fun H locs ls hR hN hS hl => va_iald K.1 K.2.1 K.2.2.2.2.2.1.1.2.1 (hR.one ha) 0 0 rfl rfl hin hd (kk _ hf H locs ls hR hN hS hl)
    · cases hf
  · cases hf
theorem kx_ab (K : kx_K Λ Γ own cc nL ret rm tb) {a : Nat} {i : Int32} (hd : decode cc pc = .ok (.baload, 1)) {F : Int32 → Option α} (hf : mo_ai σ a 1 i F = some r) (kk : ∀ x : Int32, F x = some r → kx_S Λ Γ nL N σ k n (pc + 1) lv (.int x :: st)) : kx_S Λ Γ nL N σ k n pc lv (.int i :: .ref a :: st) := by
  unfold mo_ai at hf
  split at hf
  · rename_i kd m f ha
    split at hf
    · rename_i hc
      split at hf
      · cases hf
      · rename_i hin
        subst hc
        exact fun H locs ls hR hN hS hl => va_bald K.1 K.2.1 K.2.2.2.2.2.1.1.2.1 (hR.one ha) 0 1 rfl rfl hin hd (kk _ hf H locs ls hR hN hS hl)
    · cases hf
  · cases hf
theorem kx_az (K : kx_K Λ Γ own cc nL ret rm tb) {a : Nat} {i : Int32} (hd : decode cc pc = .ok (.baload, 1)) {F : Int32 → Option α} (hf : mo_ai σ a 2 i F = some r) (kk : ∀ x : Int32, F x = some r → kx_S Λ Γ nL N σ k n (pc + 1) lv (.int x :: st)) : kx_S Λ Γ nL N σ k n pc lv (.int i :: .ref a :: st) := by
  unfold mo_ai at hf
  split at hf
  · rename_i kd m f ha
    split at hf
    · rename_i hc
      split at hf
      · cases hf
      · rename_i hin
        subst hc
        exact fun H locs ls hR hN hS hl => va_zald K.1 K.2.1 K.2.2.2.2.2.1.1.2.1 (hR.one ha) 0 2 rfl rfl hin hd (kk _ hf H locs ls hR hN hS hl)
    · cases hf
  · cases hf
theorem kx_aq (K : kx_K Λ Γ own cc nL ret rm tb) {a : Nat} {i : Int32} (hd : decode cc pc = .ok (.aaload, 1)) {F : Option Nat → Option α} (hf : mo_aq σ a i F = some r) (kk : ∀ x : Option Nat, F x = some r → kx_S Λ Γ nL N σ k n (pc + 1) lv (va_rf x :: st)) : kx_S Λ Γ nL N σ k n pc lv (.int i :: .ref a :: st) := by
  unfold mo_aq at hf
  split at hf
  · rename_i kd m f ha
    split at hf
    · rename_i hc
      split at hf
      · cases hf
      · rename_i hin
        subst hc
        exact fun H locs ls hR hN hS hl => va_aldq (C := RX0) K.1 K.2.1 K.2.2.2.2.2.1.1.2.1 (hR.one ha) 0 4 rfl rfl hin hd (kk _ hf H locs ls hR hN hS hl)
    · cases hf
  · cases hf
theorem kx_ui (K : kx_K Λ Γ own cc nL ret rm tb) {a : Nat} {i x : Int32} (hd : decode cc pc = .ok (.iastore, 1)) {F : ac_H → Option α} (hf : mo_ui σ a 0 i x F = some r) (kk : ∀ σ1 : ac_H, F σ1 = some r → kx_S Λ Γ nL N σ1 k n (pc + 1) lv st) : kx_S Λ Γ nL N σ k n pc lv (.int x :: .int i :: .ref a :: st) := by
  unfold mo_ui at hf
  split at hf
  · rename_i kd m f ha
    split at hf
    · rename_i hc
      split at hf
      · cases hf
      · rename_i hin
        subst hc
        intro H locs ls hR hN hS hl
        obtain ⟨hz, hat⟩ := hR a _ ha
        refine W.iast K.1 K.2.1 hat ((K.2.2.2.2.2.1.1.2.1.2 0 _ rfl).1 m (fun j => .int (f j))) (fun q => by cases q) (by show ¬ (i < 0 ∨ (arrV _ _ _).slots.size ≤ _); rw [arrV_size]; exact hin) rfl rfl hd fun H1 e z oq => ?_
        refine kk _ hf H1 _ ls (hR.put hz ?_ oq) (by rw [z]; exact hN) (hS.put z oq hz) hl
        show H1[a]? = some (vp_cell _ _)
        rw [e]
        rw [vp_cell_i, vp_cell_i, arrV_store]
        congr 2
        funext q
        by_cases hq : q = i.toNatClampNeg
        · subst hq
          simp [updV, upd]
        · simp [updV, upd, hq]
    · cases hf
  · cases hf
theorem kx_ub (K : kx_K Λ Γ own cc nL ret rm tb) {a : Nat} {i x : Int32} (hd : decode cc pc = .ok (.bastore, 1)) {F : ac_H → Option α} (hf : mo_ui σ a 1 i (vp_nar .byte x) F = some r) (kk : ∀ σ1 : ac_H, F σ1 = some r → kx_S Λ Γ nL N σ1 k n (pc + 1) lv st) : kx_S Λ Γ nL N σ k n pc lv (.int x :: .int i :: .ref a :: st) := by
  unfold mo_ui at hf
  split at hf
  · rename_i kd m f ha
    split at hf
    · rename_i hc
      split at hf
      · cases hf
      · rename_i hin
        subst hc
        intro H locs ls hR hN hS hl
        obtain ⟨hz, hat⟩ := hR a _ ha
        refine W.bast K.1 K.2.1 hat ((K.2.2.2.2.2.1.1.2.1.2 1 _ rfl).1 m (fun j => .int (f j))) (fun q => by cases q) (by show ¬ (i < 0 ∨ (arrV _ _ _).slots.size ≤ _); rw [arrV_size]; exact hin) rfl rfl hd fun H1 e z oq => ?_
        refine kk _ hf H1 _ ls (hR.put hz ?_ oq) (by rw [z]; exact hN) (hS.put z oq hz) hl
        show H1[a]? = some (vp_cell _ _)
        rw [e]
        rw [vp_cell_i, vp_cell_i, arrV_store]
        congr 2
        funext q
        by_cases hq : q = i.toNatClampNeg
        · subst hq
          simp [updV, upd, vp_nar]
          try rfl
        · simp [updV, upd, hq]
    · cases hf
  · cases hf
theorem kx_uz (K : kx_K Λ Γ own cc nL ret rm tb) {a : Nat} {i x : Int32} (hd : decode cc pc = .ok (.bastore, 1)) {F : ac_H → Option α} (hf : mo_ui σ a 2 i (vp_nar .boolean x) F = some r) (kk : ∀ σ1 : ac_H, F σ1 = some r → kx_S Λ Γ nL N σ1 k n (pc + 1) lv st) : kx_S Λ Γ nL N σ k n pc lv (.int x :: .int i :: .ref a :: st) := by
  unfold mo_ui at hf
  split at hf
  · rename_i kd m f ha
    split at hf
    · rename_i hc
      split at hf
      · cases hf
      · rename_i hin
        subst hc
        intro H locs ls hR hN hS hl
        obtain ⟨hz, hat⟩ := hR a _ ha
        refine W.zast K.1 K.2.1 hat ((K.2.2.2.2.2.1.1.2.1.2 2 _ rfl).1 m (fun j => .int (f j))) (fun q => by cases q) (by show ¬ (i < 0 ∨ (arrV _ _ _).slots.size ≤ _); rw [arrV_size]; exact hin) rfl rfl hd fun H1 e z oq => ?_
        refine kk _ hf H1 _ ls (hR.put hz ?_ oq) (by rw [z]; exact hN) (hS.put z oq hz) hl
        show H1[a]? = some (vp_cell _ _)
        rw [e]
        rw [vp_cell_i, vp_cell_i, arrV_store]
        congr 2
        funext q
        by_cases hq : q = i.toNatClampNeg
        · subst hq
          simp [updV, upd, vp_nar]
          try rfl
        · simp [updV, upd, hq]
    · cases hf
  · cases hf
theorem kx_uq (K : kx_K Λ Γ own cc nL ret rm tb) {a b : Nat} {i : Int32} (hd : decode cc pc = .ok (.aastore, 1)) {F : ac_H → Option α} (hf : mo_uq σ a i b F = some r) (kk : ∀ σ1 : ac_H, F σ1 = some r → kx_S Λ Γ nL N σ1 k n (pc + 1) lv st) : kx_S Λ Γ nL N σ k n pc lv (.ref b :: .int i :: .ref a :: st) := by
  unfold mo_uq at hf
  split at hf
  · rename_i kd m f c fs ha hbb
    split at hf
    · rename_i hc
      split at hf
      · cases hf
      · rename_i hin
        obtain ⟨hc1, hc2⟩ := hc
        subst hc1; subst hc2
        intro H locs ls hR hN hS hl
        obtain ⟨hz, hat⟩ := hR a _ ha
        obtain ⟨hz2, hat2⟩ := hR b _ hbb
        have hKv := K.2.2.2.2.2.1.1.2.1
        have hlt : i.toNatClampNeg < m := Nat.not_le.mp fun q => hin (Or.inr q)
        have h0 : ¬ i < 0 := fun q => hin (Or.inl q)
        obtain ⟨r', hr', cellV, g1, g2, g3, -⟩ := hat2
        have hcls := (hKv.1 0 (RX0, TX0, 6) rfl).2
        obtain ⟨kA, comp, k1, k2, k3, -⟩ := (hKv.2 4 (ex_c Λ 4, .object RX0) rfl).2
        have hcomp : comp = (ex_D Λ).1 0 := Option.some.inj (k3.symm.trans hcls.1)
        subst hcomp
        obtain ⟨kC, hkC, -⟩ := hcls.2
        refine W.aast K.1 K.2.1 hat (fun q h => by cases h) (fun h => by cases h) k1 k2 rfl hkC ⟨h0, by show _ < (arrV _ _ _).slots.size; rw [arrV_size]; exact hlt⟩ g1 (fun q h => by rw [g3] at h; cases h) (by rw [g2]; exact hkC) (by rw [g2]; exact va_assign hcls) rfl rfl hd fun H1 e z oq => ?_
        refine kk _ hf H1 _ ls (hR.put hz ?_ oq) (by rw [z]; exact hN) (hS.put z oq hz) hl
        show H1[a]? = some (vp_cell _ _)
        rw [e]
        show some ((vp_cell _ (_, _)).setSlot _ _) = _
        rw [vp_cell_q, vp_cell_q, arrV_store]
        congr 2
        funext q
        by_cases hq : q = i.toNatClampNeg
        · subst hq
          simp [updV, va_up, va_rf]
        · simp [updV, va_up, hq]
    · cases hf
  · cases hf
theorem kx_ln (K : kx_K Λ Γ own cc nL ret rm tb) {a : Nat} (hd : decode cc pc = .ok (.arraylength, 1)) {F : Int32 → Option α} (hf : mo_ln σ a F = some r) (kk : ∀ x : Int32, F x = some r → kx_S Λ Γ nL N σ k n (pc + 1) lv (.int x :: st)) : kx_S Λ Γ nL N σ k n pc lv (.ref a :: st) := by
  unfold mo_ln at hf
  split at hf
  · rename_i kd m x ha
    split at hf
    · rename_i hc
      obtain ⟨ty, hty⟩ : ∃ ty, (ac_t Λ)[kd]? = some (ex_c Λ kd, ty) := by
        rcases (show kd = 0 ∨ kd = 1 ∨ kd = 2 ∨ kd = 3 ∨ kd = 4 by omega) with rfl | rfl | rfl | rfl | rfl <;> exact ⟨_, rfl⟩
      exact fun H locs ls hR hN hS hl => va_alen K.1 K.2.1 K.2.2.2.2.2.1.1.2.1 (hR.one ha) 0 kd (x := (m, x)) rfl hty rfl hd (kk _ hf H locs ls hR hN hS hl)
    · cases hf
  · cases hf
theorem kx_irem (K : kx_K Λ Γ own cc nL ret rm tb) {x y : Int32} (hd : decode cc pc = .ok (.irem, 1)) {F : Int32 → Option α} (hf : mo_rm x y F = some r) (kk : ∀ v : Int32, F v = some r → kx_S Λ Γ nL N σ k n (pc + 1) lv (.int v :: st)) : kx_S Λ Γ nL N σ k n pc lv (.int y :: .int x :: st) := by
  unfold mo_rm at hf
  split at hf
  · cases hf
  · rename_i hne
    exact fun H locs ls hR hN hS hl => lv_irem K.1 K.2.1 hd hne (kk _ hf H locs ls hR hN hS hl)
theorem kx_idiv (K : kx_K Λ Γ own cc nL ret rm tb) {x y : Int32} (hd : decode cc pc = .ok (.idiv, 1)) {F : Int32 → Option α} (hf : mo_dv x y F = some r) (kk : ∀ v : Int32, F v = some r → kx_S Λ Γ nL N σ k n (pc + 1) lv (.int v :: st)) : kx_S Λ Γ nL N σ k n pc lv (.int y :: .int x :: st) := by
  unfold mo_dv at hf
  split at hf
  · cases hf
  · rename_i hne
    exact fun H locs ls hR hN hS hl => lv_idiv K.1 K.2.1 hd hne (kk _ hf H locs ls hR hN hS hl)
/-- a reference that may be null, stored in a local; and looked at -/
theorem kx_qstore_n (K : kx_K Λ Γ own cc nL ret rm tb) {q : Fin 4} {i : Nat} {v : Option Nat} (lv' : List (Nat × Value)) (hd : decode cc pc = .ok (.astore_n q, 1)) (hi : (q : Nat) = i) (hn : i < nL) (hv : (i, va_rf v) :: lv.filter (fun q => !(q.1 == i) && !(q.1 + 1 == i && q.2.category == 2)) = lv') (kk : kx_S Λ Γ nL N σ k n (pc + 1) lv' st) : kx_S Λ Γ nL N σ k n pc lv (va_rf v :: st) := by
  cases v with
  | none => exact fun H locs ls hR hN hS hl => lv_astore_nN K.1 K.2.1 hd hi hl hn hv (fun ls' hl' => kk H locs ls' hR hN hS hl')
  | some b => exact fun H locs ls hR hN hS hl => lv_astore_n K.1 K.2.1 hd hi hl hn hv (fun ls' hl' => kk H locs ls' hR hN hS hl')
theorem kx_qload_n (K : kx_K Λ Γ own cc nL ret rm tb) {q : Fin 4} {i : Nat} {v : Option Nat} (hd : decode cc pc = .ok (.aload_n q, 1)) (hi : (q : Nat) = i) (j : Nat) (hj : lv[j]? = some (i, va_rf v)) (kk : kx_S Λ Γ nL N σ k n (pc + 1) lv (va_rf v :: st)) : kx_S Λ Γ nL N σ k n pc lv st := by
  cases v with
  | none => exact fun H locs ls hR hN hS hl => lv_aload_nN K.1 K.2.1 hd hi (lv_at hl j hj) (kk H locs ls hR hN hS hl)
  | some b => exact fun H locs ls hR hN hS hl => lv_aload_n K.1 K.2.1 hd hi (lv_at hl j hj) (kk H locs ls hR hN hS hl)
theorem kx_ifnullN (K : kx_K Λ Γ own cc nL ret rm tb) {off : Int} (tgt : Nat) (hd : decode cc pc = .ok (.ifnull off, 3)) (ht : (pc : Int) + off = (tgt : Int)) (kk : kx_S Λ Γ nL N σ k n tgt lv st) : kx_S Λ Γ nL N σ k n pc lv (va_rf none :: st) := fun H locs ls hR hN hS hl => lv_ifnullN K.1 K.2.1 hd ht (kk H locs ls hR hN hS hl)
theorem kx_ifnullS (K : kx_K Λ Γ own cc nL ret rm tb) {off : Int} {b : Nat} (hd : decode cc pc = .ok (.ifnull off, 3)) (kk : kx_S Λ Γ nL N σ k n (pc + 3) lv st) : kx_S Λ Γ nL N σ k n pc lv (va_rf (some b) :: st) := fun H locs ls hR hN hS hl => lv_ifnull K.1 K.2.1 hd (kk H locs ls hR hN hS hl)
/-- a new object, a new array: only where the heap's size is known -/
theorem kx_new (K : kx_K Λ Γ own cc nL ret rm tb) {idx ci M q : Nat} {fs : List Value} (hF : kx_New own idx ci M fs) (hk : k + 1 ≤ rm.cells) (hn : n + M ≤ rm.slots) (hd : decode cc pc = .ok (.new idx, 3)) (kk : kx_S Λ Γ nL (fun z => z = q + 1) (ac_up σ q (.inr (ci, fs))) (k + 1) (n + M) (pc + 3) lv (.ref q :: st)) : kx_S Λ Γ nL (fun z => z = q) σ k n pc lv st := by
  intro H locs ls hR hN hS hl
  obtain ⟨C, T, ty0, hc, hin, hty, hl1, hl2, hl3, hfs⟩ := hF
  have hKv := K.2.2.2.2.2.1.1.2.1
  have hts := K.2.2.2.2.1
  have hRm := K.2.2.2.2.2.2.2.2.1
  have hzz := K.2.2.2.2.2.1.2.2
  have hKn := hKv.1 ci _ hc
  refine W.newcK K.1 K.2.1 K.2.2.2.1 (hts _ hl1) (hts _ hl2) (hts _ hl3) rfl hd (by rw [hRm]; exact hk) (by rw [hRm]; exact hn) hKn.2.1 hN fun H1 kC hkC e1 z1 o1 => ?_
  have hq : q = H.size := hN.symm
  refine kk H1 locs ls ?_ z1 ⟨Nat.le_trans hS.1 (by omega), fun x h1 h2 => (o1 x (by rw [hq]; exact Nat.lt_of_lt_of_le h1 hS.1)).trans (hS.2.1 x h1 h2), hS.2.2⟩ hl
  intro x f hx
  unfold ac_up at hx
  by_cases hxq : x = q
  · rw [if_pos hxq] at hx
    cases hx
    rw [hxq]
    exact ⟨Nat.le_trans hzz (by rw [hq]; exact hS.1), _, hc, (u_born ty0 hts hin hKn hkC e1 hty).to hfs⟩
  · rw [if_neg hxq] at hx
    obtain ⟨g1, g2⟩ := hR x f hx
    exact ⟨g1, g2.kept (o1 x (by rw [hq]; exact g2.lt))⟩
def kx_kd (kd : Nat) : FieldType := match kd with
  | 0 => .int
  | 1 => .byte
  | 2 => .boolean
  | _ => .long
def kx_ar (kd m : Nat) : vp_A := match kd with
  | 3 => (m, .inr (.inl (fun _ => 0)))
  | _ => (m, .inl (fun _ => 0))
theorem kx_newa (K : kx_K Λ Γ own cc nL ret rm tb) {kd q : Nat} {x : Int32} {M : Nat} {at9 : ArrayType} (hkd : kd < 3) (hty : newarray.typeOf at9 = kx_kd kd) (hw : Cond.arrayClass (newarray.typeOf at9) ∈ wsL_law) (hx : x = nI M) (hM : M < 2000) (hk : k + 1 ≤ rm.cells) (hn : n + M ≤ rm.slots) (hd : decode cc pc = .ok (.newarray at9, 2)) (kk : kx_S Λ Γ nL (fun z => z = q + 1) (ac_up σ q (.inl (kd, kx_ar kd M))) (k + 1) (n + M) (pc + 2) lv (.ref q :: st)) : kx_S Λ Γ nL (fun z => z = q) σ k n pc lv (.int x :: st) := by
  intro H locs ls hR hN hS hl
  have hKv := K.2.2.2.2.2.1.1.2.1
  have hts := K.2.2.2.2.1
  have hRm := K.2.2.2.2.2.2.2.2.1
  have hzz := K.2.2.2.2.2.1.2.2
  have hq : q = H.size := hN.symm
  subst hx
  have hcl : (nI M).toNatClampNeg = M := nI_clamp (by omega)
  have hcb : componentBytes (newarray.typeOf at9) ≤ 8 := by
    rw [hty]
    rcases (show kd = 0 ∨ kd = 1 ∨ kd = 2 by omega) with rfl | rfl | rfl <;> decide
  have hby : M * componentBytes (newarray.typeOf at9) ≤ 536870912 := Nat.le_trans (Nat.mul_le_mul (Nat.le_of_lt hM) hcb) (by decide)
  refine va_newaK K.1 K.2.1 (hts _ hw) rfl hd rfl (nI_pos (by omega)) hcl hby (by rw [hRm]; exact hk) (by rw [hRm]; exact hn) hN fun H1 cA e1 z1 o1 hAr hNm => ?_
  have hcA : cA = ex_c Λ kd := by
    have h9 : (hKv.2 kd (ex_c Λ kd, kx_kd kd) (by rcases (show kd = 0 ∨ kd = 1 ∨ kd = 2 by omega) with rfl | rfl | rfl <;> rfl)).2 = (hKv.2 kd (ex_c Λ kd, kx_kd kd) (by rcases (show kd = 0 ∨ kd = 1 ∨ kd = 2 by omega) with rfl | rfl | rfl <;> rfl)).2 := rfl
    have h8 : (kx_s Γ).vm.findClass ("[" ++ (kx_kd kd).toString) = some (ex_c Λ kd) := by
      have h7 := (hKv.2 kd (ex_c Λ kd, kx_kd kd) (by rcases (show kd = 0 ∨ kd = 1 ∨ kd = 2 by omega) with rfl | rfl | rfl <;> rfl)).2
      rcases (show kd = 0 ∨ kd = 1 ∨ kd = 2 by omega) with rfl | rfl | rfl <;> exact h7
    rw [hty] at hNm
    exact Option.some.inj (hNm.symm.trans h8)
  refine kk H1 locs ls ?_ z1 ⟨Nat.le_trans hS.1 (by omega), fun x h1 h2 => (o1 x (by rw [hq]; exact Nat.lt_of_lt_of_le h1 hS.1)).trans (hS.2.1 x h1 h2), hS.2.2⟩ hl
  intro x f hx
  unfold ac_up at hx
  by_cases hxq : x = q
  · rw [if_pos hxq] at hx
    cases hx
    rw [hxq]
    refine ⟨Nat.le_trans hzz (by rw [hq]; exact hS.1), ?_⟩
    show H1[q]? = some (vp_cell (ex_c Λ kd) (kx_ar kd M))
    rw [e1, hcA, hty]
    rcases (show kd = 0 ∨ kd = 1 ∨ kd = 2 by omega) with rfl | rfl | rfl <;> rfl
  · rw [if_neg hxq] at hx
    obtain ⟨g1, g2⟩ := hR x f hx
    exact ⟨g1, g2.kept (o1 x (by rw [hq]; exact g2.lt))⟩
theorem kx_newq (K : kx_K Λ Γ own cc nL ret rm tb) {q idx : Nat} {x : Int32} {M : Nat} (hw : Cond.classLink own idx RX0 ∈ wsL_law) (hx : x = nI M) (hM : M < 2000) (hk : k + 1 ≤ rm.cells) (hn : n + M ≤ rm.slots) (hd : decode cc pc = .ok (.anewarray idx, 3)) (kk : kx_S Λ Γ nL (fun z => z = q + 1) (ac_up σ q (.inl (4, M, .inr (.inr (.inr (.inr (fun _ => none))))))) (k + 1) (n + M) (pc + 3) lv (.ref q :: st)) : kx_S Λ Γ nL (fun z => z = q) σ k n pc lv (.int x :: st) := by
  intro H locs ls hR hN hS hl
  have hKv := K.2.2.2.2.2.1.1.2.1
  have hts := K.2.2.2.2.1
  have hRm := K.2.2.2.2.2.2.2.2.1
  have hzz := K.2.2.2.2.2.1.2.2
  have hao := K.2.2.2.2.2.1.1.2.2.2.2.2.1
  have hq : q = H.size := hN.symm
  subst hx
  have hcl : (nI M).toNatClampNeg = M := nI_clamp (by omega)
  refine W.anew K.1 K.2.1 K.2.2.2.1 (hts _ hw) (va_AO.use hao) rfl hd rfl (nI_pos (by omega)) (by rw [hcl]; omega) (by rw [hRm]; exact hk) (by rw [hRm, hcl]; exact hn) fun cA kA comp f1 f2 f3 f4 => ?_
  rw [hcl]
  generalize hH1 : H.push ({ cls := cA, slots := Array.replicate M .null, vm := .none } : Cell) = H1
  have z1 : H1.size = H.size + 1 := by rw [← hH1, Array.size_push]
  have e1 : H1[H.size]? = some (arrV cA M (fun _ => .null)) := by rw [← hH1, Array.getElem?_push_size, ← arrV_new]
  have o1 : ∀ q : Nat, q < H.size → H1[q]? = H[q]? := fun q hq => by rw [← hH1, Array.getElem?_push, if_neg (Nat.ne_of_lt hq)]
  have hcA : cA = ex_c Λ 4 := by
    obtain ⟨kA9, comp9, g1, g2, g3, g4⟩ := (hKv.2 4 (ex_c Λ 4, .object RX0) rfl).2
    exact Option.some.inj (f1.symm.trans g4)
  have hrn : (F0 (kx_m Γ) pc ls (.int (nI M) :: st)).locals = ls := rfl
  show W _ _ _ _ _ _ _ _ _ _ H1 locs (k + 1) (n + M) _ (F0 (kx_m Γ) (pc + 3) ls (.ref H.size :: st))
  rw [← hq]
  refine kk H1 locs ls ?_ (by show H1.size = q + 1; omega) ⟨Nat.le_trans hS.1 (by omega), fun x h1 h2 => (o1 x (Nat.lt_of_lt_of_le h1 hS.1)).trans (hS.2.1 x h1 h2), hS.2.2⟩ hl
  intro x f hx
  unfold ac_up at hx
  by_cases hxq : x = q
  · rw [if_pos hxq] at hx
    cases hx
    rw [hxq]
    refine ⟨Nat.le_trans hzz (by rw [hq]; exact hS.1), ?_⟩
    show H1[q]? = some (vp_cell (ex_c Λ 4) _)
    rw [hq, e1, hcA]
    rfl
  · rw [if_neg hxq] at hx
    obtain ⟨g1, g2⟩ := hR x f hx
    exact ⟨g1, g2.kept (o1 x g2.lt)⟩
/-- a final field, in a constructor -/
theorem kx_putF (K : kx_K Λ Γ own cc nL ret rm tb) {idx ci j a : Nat} {ty : FieldType} (hF : kx_F own idx ci j ty true) (hin2 : (kx_h Γ).name = "<init>") (hco : vwCl[ci]?.map (fun q => q.1) = some own) (hd : decode cc pc = .ok (.putfield idx, 3)) {v : Value} (hn : narrow ty v = v) (hfit : fits ty v = true) {F : ac_H → Option α} (hf : mo_pv σ a ci j v F = some r) (kk : ∀ σ1 : ac_H, F σ1 = some r → kx_S Λ Γ nL N σ1 k n (pc + 3) lv st) : kx_S Λ Γ nL N σ k n pc lv (v :: .ref a :: st) := by
  unfold mo_pv at hf
  split at hf
  · rename_i c fs ha
    split at hf
    · rename_i hc
      split at hf
      · rename_i hlen
        subst hc
        intro H locs ls hR hN hS hl
        obtain ⟨C, T, M, ty0, hc, hin, hty, hnm, hj, hw, hs, h1, h2⟩ := hF
        have hCo : C = own := by rw [hc] at hco; exact Option.some.inj hco
        have hK := K.2.2.2.2.2.1.1.2.1
        have hts := K.2.2.2.2.1
        have hown := K.2.2.2.1
        have hap := va_apart (own := own) hts hin ty0 hty hnm hK hc
        obtain ⟨hza, r0, h3, cell, q1, q2, q3, q4⟩ := hR a _ ha
        have hr : r0 = (C, T, M) := Option.some.inj (h3.symm.trans hc)
        subst hr
        obtain ⟨hSl, hfc, kC, hkC, hkind⟩ := hK.1 _ _ hc
        obtain ⟨cf, kf, fi, f, hi, hsl⟩ := hSl j hj
        have hlay := hts _ (hin _ (u_in_lay hj))
        unfold u_lay at hlay
        rw [if_pos h2] at hlay
        have hst := (u_facts hfc hkC (u_lays hts hin hj) hi).1
        have hcf : (kx_m Γ).cls = cf := by
          obtain ⟨_, _, c', _, _, _, -, -, hf', -, -, -, hown2, -⟩ := Cond.laysFinal_spec hlay
          have e1 : c' = cf := by have := hi.symm.trans hf'; simp at this; exact this.1.symm
          rw [hs h2, hCo] at hown2
          rw [← e1]; exact Option.some.inj (hown.symm.trans hown2)
        have h6 := u_fits hfc hkC hkind (Or.inr hlay) hi ((hty j hj).trans (congrArg some h1)) hn hfit
        refine W.putFinK K.1 K.2.1 hown (hts _ hw) hi hst hcf hin2 (by rw [q2]; exact h6) q1 q3 (by rw [hsl]; exact k2_hasslot (q4 j hj)) rfl rfl hd fun H' e1 e2 e3 => ?_
        rw [hsl] at e1 ⊢
        exact kk _ hf H' _ ls (hR.put hza ⟨_, hc, t_OB.to (V := updV (vp_V fs) j v) ⟨_, e1, q2, q3, t_set q4 hap hj v⟩ (fun i _ => vp_updV_set hlen v i)⟩ e3) (by rw [e2]; exact hN) (hS.put e2 e3 hza) hl
      · cases hf
    · cases hf
  · cases hf
/-- the tables: getstatic, by the class itself or a nest mate, and a place of one -/
theorem kx_gs (K : kx_K Λ Γ own cc nL ret rm tb) {idx : Nat} (i : Nat) (hi : i < 3) (hw : Cond.fieldLink own idx "FaultBench" (ac_Tn i) "[I" ∈ wsL_law) (hd : decode cc pc = .ok (.getstatic idx, 3)) (kk : kx_S Λ Γ nL N σ k n (pc + 3) lv (.ref (ex_t Λ i) :: st)) : kx_S Λ Γ nL N σ k n pc lv st := fun H locs ls hR hN hS hl =>
  va_gets K.1 K.2.1 (K.2.2.2.2.2.1.2.1.1.1 i hi).1 hS K.2.2.2.1 (K.2.2.2.2.1 _ hw) (fun _ h => h) hd (kk H locs ls hR hN hS hl)
theorem kx_gsN (K : kx_K Λ Γ own cc nL ret rm tb) {idx : Nat} (i : Nat) (hi : i < 3) (hw : va_Nw (.fieldLinkNest own idx "FaultBench" (ac_Tn i) "[I" "FaultBench") (kx_s Γ)) (hd : decode cc pc = .ok (.getstatic idx, 3)) (kk : kx_S Λ Γ nL N σ k n (pc + 3) lv (.ref (ex_t Λ i) :: st)) : kx_S Λ Γ nL N σ k n pc lv st := fun H locs ls hR hN hS hl =>
  va_getsN K.1 K.2.1 (K.2.2.2.2.2.1.2.1.1.1 i hi).1 hS K.2.2.2.1 (va_Nw.use rfl hw) (fun _ h => h) hd (kk H locs ls hR hN hS hl)
theorem kx_ti (K : kx_K Λ Γ own cc nL ret rm tb) (i : Nat) (hi : i < 3) {j : Int32} (hd : decode cc pc = .ok (.iaload, 1)) {F : Int32 → Option α} (hf : mo_t i j F = some r) (kk : ∀ x : Int32, F x = some r → kx_S Λ Γ nL N σ k n (pc + 1) lv (.int x :: st)) : kx_S Λ Γ nL N σ k n pc lv (.int j :: .ref (ex_t Λ i) :: st) := by
  unfold mo_t at hf
  split at hf
  · cases hf
  · rename_i hin
    exact fun H locs ls hR hN hS hl => va_ti K.1 K.2.1 (K.2.2.2.2.2.1.2.1.1.1 i hi).2 hS hin rfl hd (kk _ hf H locs ls hR hN hS hl)
end KX3

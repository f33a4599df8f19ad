/-! MORE ROWS: new arrays of a counted size, arraycopy, clone, byte tables, words' bytes, answers. -/
section KXA
variable {Λ : ex_L} {Γ : kx_T} {own : String} {cc : ByteArray} {nL : Nat} {ret : Option FieldType} {rm : Room} {tb : List ExceptionTableEntry} {N N' : Nat → Prop} {σ σ' : ac_H} {k n pc : Nat} {lv : List (Nat × Value)} {st : List Value} {α ρ ρ' : Type} {r : α} {q : Nat}
theorem kx_newd (K : kx_K Λ Γ own cc nL ret rm tb) {kd : Nat} {x : Int32} (M : Nat) {at9 : ArrayType} (hkd : kd < 3) (hty : newarray.typeOf at9 = kx_kd kd) (hw : Cond.arrayClass (newarray.typeOf at9) ∈ wsL_law) (hM : M < 2000) (hk : k + 1 ≤ rm.cells) (hn : n + M ≤ rm.slots) (hd : decode cc pc = .ok (.newarray at9, 2)) {F : Nat → Option α} (hf : mo_nw x M F = some r) (kk : ∀ m : Nat, m ≤ M → F m = some r → kx_S Λ Γ nL (fun z => z = q + 1) (ac_up σ q (.inl (kd, kx_ar kd m))) (k + 1) (n + M) (pc + 2) lv (.ref q :: st)) : kx_S Λ Γ nL (fun z => z = q) σ k n pc lv (.int x :: st) := by
  unfold mo_nw at hf
  split at hf
  · cases hf
  · rename_i h
    obtain ⟨j, hj, rfl⟩ := vp_in_of (x := x) (n := M + 1) (show vp_in x (M + 1) from fun g => h (by rcases g with g | g; exact Or.inl g; exact Or.inr (by omega))) (by omega)
    rw [show (nI j).toNatClampNeg = j from nI_clamp (by omega)] at hf
    exact kx_newa (M := j) K hkd hty hw rfl (by omega) hk (by omega) hd (kx_wd (Nat.le_refl _) (by omega) (kk j (by omega) hf))
/-- arraycopy from a cell of which this much is known -/
theorem kx_acp0 (K : kx_K Λ Γ own cc nL ret rm tb) {idx kd a b n0 n1 : Nat} {f g : Nat → Int32} {sp dp x : Int32} (hw : Cond.methodLink own idx arraycopyName ∈ wsL_law) (hw2 : Cond.native arraycopyName ∈ wsL_law) (hw3 : Cond.static arraycopyName ∈ wsL_law) (hw4 : Cond.initialized "java/lang/System" ∈ wsL_law) (hfr : 1 ≤ rm.frames) (hlo : (st.map fun v => v.category).sum + (nativeFrameWords "java/lang/System" "arraycopy" 5 + 11) ≤ rm.locals) (hkd : kd < 3) (hb : σ b = some (.inl (kd, n1, .inl g)))
    (hsrc : ∀ (H : Heap) (locs : List Loc), ac_R Λ σ H → va_S (ex_A Λ) (kx_s Γ).heap H locs → ∃ scr : Cell, H[a]? = some scr ∧ (kx_s Γ).isArrayOf scr (kx_kd kd) ∧ scr.vm ≠ .unknown ∧ n0 ≤ scr.slots.size ∧ ∀ j : Nat, j < n0 → scr.slots[j]? = some (.int (f j)))
    (h1 : ¬ sp < 0) (h2 : ¬ dp < 0) (h3 : ¬ x < 0) (h4 : sp.toNatClampNeg + x.toNatClampNeg ≤ n0) (h5 : dp.toNatClampNeg + x.toNatClampNeg ≤ n1) (hfit : ∀ i : Nat, i < x.toNatClampNeg → fits (kx_kd kd) (.int (f (sp.toNatClampNeg + i))) = true)
    (hd : decode cc pc = .ok (.invokestatic idx, 3)) (kk : kx_S Λ Γ nL N (ac_up σ b (.inl (kd, n1, .inl (va_cpy f g sp.toNatClampNeg dp.toNatClampNeg x.toNatClampNeg)))) k n (pc + 3) lv st) : kx_S Λ Γ nL N σ k n pc lv (.int x :: .int dp :: .ref b :: .int sp :: .ref a :: st) := by
  have nn : ∀ z : Int32, ¬ z < 0 → z.toInt = (z.toNatClampNeg : Int) := by
    intro z hz
    have hz0 : (0 : Int) ≤ z.toInt := by simpa using Int32.le_iff_toInt_le.mp (Int32.not_lt.mp hz)
    show z.toInt = ((z.toInt.toNat : Nat) : Int)
    omega
  have hKv := K.2.2.2.2.2.1.1.2.1
  have hts := K.2.2.2.2.1
  have hRm := K.2.2.2.2.2.2.2.2.1
  intro H locs ls hR hN hS hl T hT X
  obtain ⟨scr, hc0, ⟨hs6, k0, hk0, cm0, hkk0⟩, hs3, hs4, hs5⟩ := hsrc H locs hR hS
  obtain ⟨hzb, hcb⟩ := hR b _ hb
  have hc1 : H[b]? = some (vp_cell (ex_c Λ kd) (n1, .inl g)) := hcb
  have ht : (ac_t Λ)[kd]? = some (ex_c Λ kd, kx_kd kd) := by
    rcases (show kd = 0 ∨ kd = 1 ∨ kd = 2 by omega) with rfl | rfl | rfl <;> rfl
  have href : refKind (kx_kd kd) = false := by
    rcases (show kd = 0 ∨ kd = 1 ∨ kd = 2 by omega) with rfl | rfl | rfl <;> rfl
  obtain ⟨-, k1, hk1, cm1, hkk1⟩ := (hKv.2 kd _ ht).1 n1 (fun j => .int (g j))
  obtain ⟨vm', X', step⟩ := X.arraycopy K.1 K.2.2.2.1 (hts _ hw) (hts _ hw2) (hts _ hw3) (hts _ hw4) (src := a) (dst := b) (cs := scr) (cd := vp_cell (ex_c Λ kd) (n1, .inl g)) (srcPos := sp) (destPos := dp) (n := x) (by rw [hT]; exact hc0) (by rw [hT]; exact hc1)
    hs6 (fun _ h => by cases h) hs3 (fun h => by cases h) hk0 hk1 hkk0 hkk1 (by simp [href]) h1 h2 h3
    (by rw [nn sp h1, nn x h3]; omega)
    (by rw [nn dp h2, nn x h3]; show ¬ _ > ((arrV (ex_c Λ kd) n1 (fun j => .int (g j))).slots.size : Int); rw [arrV_size]; omega)
    (fun vm₁ _ i hi => by
      have e : scr.slots.getD (sp.toNatClampNeg + i) .null = .int (f (sp.toNatClampNeg + i)) := by
        rw [Array.getD_eq_getD_getElem?, hs5 _ (by omega)]
        rfl
      refine ⟨?_, ?_⟩
      · rw [e]
        exact hfit i hi
      · rw [e]
        exact trivial)
    (g := F0 (kx_m Γ) pc ls (.int x :: .int dp :: .ref b :: .int sp :: .ref a :: st)) rfl (by show ls.size = (kx_c Γ).maxLocals; rw [K.2.2.1]; exact hl.1) (rest := st) rfl (by rw [K.2.1]; exact hd) (by rw [hRm]; exact hfr) (by rw [hRm]; show 2 * 0 + _ + _ ≤ _; omega)
  have e1 : copied scr (vp_cell (ex_c Λ kd) (n1, .inl g)) sp dp x = vp_cell (ex_c Λ kd) (n1, .inl (va_cpy f g sp.toNatClampNeg dp.toNatClampNeg x.toNatClampNeg)) := va_copiedX (fun z => .int z) scr (ex_c Λ kd) f g hs5 h4
  rw [e1] at X' step
  have hlt : b < H.size := (Array.getElem?_eq_some_iff.mp hc1).1
  generalize hcell : vp_cell (ex_c Λ kd) (n1, .inl (va_cpy f g sp.toNatClampNeg dp.toNatClampNeg x.toNatClampNeg)) = cell at X' step
  have hheap : ((T.setVm vm').setCell b cell).heap = H.setIfInBounds b cell := by rw [← hT]; rfl
  have oq : ∀ y : Nat, y ≠ b → (H.setIfInBounds b cell)[y]? = H[y]? := fun y hy => by simp [Array.getElem?_setIfInBounds, Ne.symm hy]
  obtain ⟨t, a1, b1⟩ := kk (H.setIfInBounds b cell) _ ls (hR.put hzb (by show (H.setIfInBounds b cell)[b]? = some (vp_cell (ex_c Λ kd) _); rw [hcell]; simp [Array.getElem?_setIfInBounds, hlt]) oq) (by simpa using hN) ⟨by simp; exact hS.1, fun y g1 g2 => by
      rw [oq y (fun e => g2 (by rw [e]; exact hzb))]
      exact hS.2.1 y g1 g2, fun y hy => by
      rcases List.mem_append.mp hy with h | h
      · exact hS.2.2 y h
      · obtain ⟨z, -, hz⟩ := List.mem_map.mp h
        rw [← hz]
        exact hzb⟩ hl _ hheap X'
  exact ⟨t, step t a1, b1⟩
theorem kx_acp (K : kx_K Λ Γ own cc nL ret rm tb) {idx kd a b : Nat} {sp dp x : Int32} (hw : Cond.methodLink own idx arraycopyName ∈ wsL_law) (hw2 : Cond.native arraycopyName ∈ wsL_law) (hw3 : Cond.static arraycopyName ∈ wsL_law) (hw4 : Cond.initialized "java/lang/System" ∈ wsL_law) (hfr : 1 ≤ rm.frames) (hlo : (st.map fun v => v.category).sum + (nativeFrameWords "java/lang/System" "arraycopy" 5 + 11) ≤ rm.locals) (hkd : kd < 3)
    (hd : decode cc pc = .ok (.invokestatic idx, 3)) {F : ac_H → Option α} (hf : mo_cp σ a b kd sp dp x F = some r) (kk : ∀ σ1 : ac_H, F σ1 = some r → kx_S Λ Γ nL N σ1 k n (pc + 3) lv st) : kx_S Λ Γ nL N σ k n pc lv (.int x :: .int dp :: .ref b :: .int sp :: .ref a :: st) := by
  unfold mo_cp at hf
  split at hf
  · rename_i k0 n0 f k1 n1 g ha hb
    split at hf
    · rename_i h
      obtain ⟨rfl, rfl, h1, h2, h3, h4, h5, h6⟩ := h
      refine kx_acp0 (n0 := n0) (f := f) K hw hw2 hw3 hw4 hfr hlo hkd hb ?_ h1 h2 h3 h4 h5 (fun i hi => List.all_eq_true.mp h6 i (List.mem_range.mpr hi)) hd (kk _ hf)
      intro H locs hR hS
      obtain ⟨-, hca⟩ := hR a _ ha
      have hKv := K.2.2.2.2.2.1.1.2.1
      have ht : (ac_t Λ)[k1]? = some (ex_c Λ k1, kx_kd k1) := by
        rcases (show k1 = 0 ∨ k1 = 1 ∨ k1 = 2 by omega) with rfl | rfl | rfl <;> rfl
      exact ⟨_, hca, (hKv.2 k1 _ ht).1 n0 (fun j => .int (f j)), (fun h => by cases h), Nat.le_of_eq (arrV_size _ _ _).symm, fun j hj => arrV_read _ (fun j => .int (f j)) hj⟩
    · cases hf
  · cases hf
theorem kx_acw (K : kx_K Λ Γ own cc nL ret rm tb) {idx i b : Nat} {sp dp x : Int32} (hw : Cond.methodLink own idx arraycopyName ∈ wsL_law) (hw2 : Cond.native arraycopyName ∈ wsL_law) (hw3 : Cond.static arraycopyName ∈ wsL_law) (hw4 : Cond.initialized "java/lang/System" ∈ wsL_law) (hfr : 1 ≤ rm.frames) (hlo : (st.map fun v => v.category).sum + (nativeFrameWords "java/lang/System" "arraycopy" 5 + 11) ≤ rm.locals)
    (hd : decode cc pc = .ok (.invokestatic idx, 3)) {F : ac_H → Option α} (hf : mo_cw i σ b sp dp x F = some r) (kk : ∀ σ1 : ac_H, F σ1 = some r → kx_S Λ Γ nL N σ1 k n (pc + 3) lv st) : kx_S Λ Γ nL N σ k n pc lv (.int x :: .int dp :: .ref b :: .int sp :: .ref (ex_v Λ i) :: st) := by
  unfold mo_cw at hf
  split at hf
  · rename_i k1 n1 g hb
    split at hf
    · rename_i h
      obtain ⟨hi, rfl, h1, h2, h3, h4, h5, h6⟩ := h
      refine kx_acp0 (kd := 1) (n0 := (ac_B i).length) (f := fun j => (ac_B i).getD j 0) K hw hw2 hw3 hw4 hfr hlo (by decide) hb ?_ h1 h2 h3 h4 h5 (fun j hj => List.all_eq_true.mp h6 j (List.mem_range.mpr hj)) hd (kk _ hf)
      intro H locs hR hS
      obtain ⟨cell, g1, g2, g3, g4, g5, g6, g7⟩ := (K.2.2.2.2.2.1.2.1.2.1 i hi).2.2.2.kept hS.2.1
      exact ⟨cell, g1, g2, g3, g4, g6⟩
    · cases hf
  · cases hf
theorem kx_cln (K : kx_K Λ Γ own cc nL ret rm tb) {idx a M : Nat} (hw : Cond.methodLink own idx ⟨"[B", "clone", "()Ljava/lang/Object;"⟩ ∈ wsL_law) (hw2 : Cond.sameMethod "[B" "java/lang/Object" "clone" "()Ljava/lang/Object;" ∈ wsL_law) (hw3 : Cond.native ⟨"java/lang/Object", "clone", "()Ljava/lang/Object;"⟩ ∈ wsL_law) (hw4 : Cond.instanceMethod ⟨"java/lang/Object", "clone", "()Ljava/lang/Object;"⟩ ∈ wsL_law) (hw5 : Cond.selects "[B" ⟨"[B", "clone", "()Ljava/lang/Object;"⟩ ⟨"java/lang/Object", "clone", "()Ljava/lang/Object;"⟩ ∈ wsL_law) (hfr : 1 ≤ rm.frames) (hlo : (st.map fun v => v.category).sum + 14 ≤ rm.locals) (hk : k + 1 ≤ rm.cells) (hn : n + M ≤ rm.slots)
    (hd : decode cc pc = .ok (.invokevirtual idx, 3)) {F : ac_H → Option α} (hf : mo_cl σ a q M F = some r) (kk : ∀ σ1 : ac_H, F σ1 = some r → kx_S Λ Γ nL (fun z => z = q + 1) σ1 (k + 1) (n + M) (pc + 3) lv (.ref q :: st)) : kx_S Λ Γ nL (fun z => z = q) σ k n pc lv (.ref a :: st) := by
  unfold mo_cl at hf
  split at hf
  · rename_i k1 n1 f ha
    split at hf
    · rename_i h
      obtain ⟨rfl, hn1, h6⟩ := h
      have hKv := K.2.2.2.2.2.1.1.2.1
      have hts := K.2.2.2.2.1
      have hRm := K.2.2.2.2.2.2.2.2.1
      have hzz := K.2.2.2.2.2.1.2.2
      intro H locs ls hR hN hS hl
      intro T hT X
      have hq : q = H.size := hN.symm
      obtain ⟨hza, hca⟩ := hR a _ ha
      have hcell : H[a]? = some (vp_cell (ex_c Λ 1) (n1, .inl f)) := hca
      obtain ⟨c0, t0', f1, f2, f3⟩ := Cond.castable_spec (va_Nw.use (A := kx_a Γ) rfl (show va_Nw (.castable "[B" "java/lang/Cloneable") (kx_s Γ) from K.2.2.2.2.2.1.1.2.2.2.2.2.2 6 (by decide)))
      have hRA := (hKv.2 1 (ex_c Λ 1, .byte) rfl).2
      have hnm : (kx_s Γ).vm.findClass "[B" = some (ex_c Λ 1) := hRA
      cases hnm.symm.trans f1
      obtain ⟨-, kA, hkA, comp, hkind⟩ := State.isArrayOf_alike X.warmed.alike ((hKv.2 1 (ex_c Λ 1, .byte) rfl).1 0 (fun _ => .null))
      obtain ⟨-, kS, hkS, compS, hkindS⟩ := (hKv.2 1 (ex_c Λ 1, .byte) rfl).1 0 (fun _ => .null)
      obtain ⟨vm', X', stp⟩ := X.cloneArray K.1 K.2.2.2.1 (hts _ hw) (hts _ hw2) (hts _ hw3) (hts _ hw4) (hts _ hw5) (a := a) (cell := vp_cell (ex_c Λ 1) (n1, .inl f)) (by rw [hT]; exact hcell) (fun _ h => by cases h) (fun h => by cases h) hnm f2 f3
        (fun i v hv => by
          have hi : i < n1 := by
            have h9 := (Array.getElem?_eq_some_iff.mp hv).1
            have h8 : (vp_cell (ex_c Λ 1) (n1, .inl f)).slots.size = n1 := arrV_size _ _ _
            omega
          have hv9 : v = .int (f i) := Option.some.inj (hv.symm.trans (arrV_read (ex_c Λ 1) (fun j => .int (f j)) hi))
          rw [hv9]
          have hk' : T.vm.classes[ex_c Λ 1]? = some kA := hkA
          show T.fitsSlot (ex_c Λ 1) .none i _ = true
          simpa [State.fitsSlot, State.slotType?, hk', hkind] using List.all_eq_true.mp h6 i (List.mem_range.mpr hi))
        (g := F0 (kx_m Γ) pc ls (.ref a :: st)) rfl (by show ls.size = (kx_c Γ).maxLocals; rw [K.2.2.1]; exact hl.1) rfl (by rw [K.2.1]; exact hd) (by rw [hRm]; exact hfr) (by rw [hRm]; show 2 * 0 + _ + 14 ≤ _; omega) (by rw [hRm]; exact hk) (by rw [hRm]; have : (vp_cell (ex_c Λ 1) (n1, .inl f)).slots.size = n1 := arrV_size _ _ _; omega) (hloader := Vm.clonesLoader_of_array hkS hkindS)
      have hsz : (vp_cell (ex_c Λ 1) (n1, .inl f)).slots.size = n1 := arrV_size _ _ _
      have hcE : ({ cls := (vp_cell (ex_c Λ 1) (n1, .inl f)).cls, slots := (vp_cell (ex_c Λ 1) (n1, .inl f)).slots } : Cell) = vp_cell (ex_c Λ 1) (n1, .inl f) := rfl
      rw [hcE, hsz] at X'
      rw [hcE, hT] at stp
      have z1 : (H.push (vp_cell (ex_c Λ 1) (n1, .inl f))).size = q + 1 := by rw [Array.size_push, hq]
      have o1 : ∀ y : Nat, y < H.size → (H.push (vp_cell (ex_c Λ 1) (n1, .inl f)))[y]? = H[y]? := fun y hy => by rw [Array.getElem?_push, if_neg (Nat.ne_of_lt hy)]
      have hA9 : kx_S Λ Γ nL (fun z => z = q + 1) (ac_up σ q (.inl (1, n1, .inl f))) (k + 1) (n + n1) (pc + 3) lv (.ref q :: st) := kx_wd (Nat.le_refl _) (by omega) (kk _ hf)
      obtain ⟨t, b1, b2⟩ := hA9 (H.push (vp_cell (ex_c Λ 1) (n1, .inl f))) locs ls (fun x e hx => by
          unfold ac_up at hx
          by_cases hxq : x = q
          · rw [if_pos hxq] at hx
            cases hx
            rw [hxq]
            refine ⟨Nat.le_trans hzz (by rw [hq]; exact hS.1), ?_⟩
            show (H.push (vp_cell (ex_c Λ 1) (n1, .inl f)))[q]? = some (vp_cell (ex_c Λ 1) (n1, .inl f))
            rw [hq, Array.getElem?_push_size]
          · rw [if_neg hxq] at hx
            obtain ⟨g1, g2⟩ := hR x e hx
            exact ⟨g1, g2.kept (o1 x g2.lt)⟩) z1 ⟨Nat.le_trans hS.1 (by rw [z1, hq]; omega), fun y h1 h2 => (o1 y (Nat.lt_of_lt_of_le h1 hS.1)).trans (hS.2.1 y h1 h2), hS.2.2⟩ hl
        ((T.setVm vm').pushCell (vp_cell (ex_c Λ 1) (n1, .inl f))) (by rw [← hT]; rfl) X'
      refine ⟨t, stp t ?_, b2⟩
      rw [← hq]
      exact b1
    · cases hf
  · cases hf
theorem kx_mmax (K : kx_K Λ Γ own cc nL ret rm tb) {idx : Nat} {x y : Int32} (hw : Cond.methodLink own idx Lib.Math.max.name ∈ wsL_law) (hw2 : Cond.static Lib.Math.max.name ∈ wsL_law) (hw3 : Cond.initialized "java/lang/Math" ∈ wsL_law) (hw4 : Cond.code Lib.Math.max.name Lib.Math.max.code 2 (some .int) ∈ wsL_law) (hfr : 1 ≤ rm.frames) (hlo : (st.map fun v => v.category).sum + 13 ≤ rm.locals) (hk : k ≤ rm.cells) (hn : n ≤ rm.slots) (hd : decode cc pc = .ok (.invokestatic idx, 3)) (kk : kx_S Λ Γ nL N σ k n (pc + 3) lv (.int (if x < y then y else x) :: st)) : kx_S Λ Γ nL N σ k n pc lv (.int y :: .int x :: st) := fun H locs ls hR hN hS hl =>
  va_mmax K.1 K.2.1 (by rw [K.2.2.1]; exact hl.1.symm) K.2.2.2.1 (K.2.2.2.2.1 _ hw) (K.2.2.2.2.1 _ hw2) (K.2.2.2.2.1 _ hw3) (K.2.2.2.2.1 _ hw4) (by rw [K.2.2.2.2.2.2.2.2.1]; exact hfr) (by rw [K.2.2.2.2.2.2.2.2.1]; exact hlo) (by rw [K.2.2.2.2.2.2.2.2.1]; exact hk) (by rw [K.2.2.2.2.2.2.2.2.1]; exact hn) hd (kk H locs ls hR hN hS hl)
theorem kx_null (K : kx_K Λ Γ own cc nL ret rm tb) (hd : decode cc pc = .ok (.aconst_null, 1)) (kk : kx_S Λ Γ nL N σ k n (pc + 1) lv (.null :: st)) : kx_S Λ Γ nL N σ k n pc lv st := fun H locs ls hR hN hS hl => lv_null K.1 K.2.1 hd (kk H locs ls hR hN hS hl)
theorem kx_ifnn (K : kx_K Λ Γ own cc nL ret rm tb) {off : Int} {a : Nat} (tgt : Nat) (hd : decode cc pc = .ok (.ifnonnull off, 3)) (ht : (pc : Int) + off = (tgt : Int)) (kk : kx_S Λ Γ nL N σ k n tgt lv st) : kx_S Λ Γ nL N σ k n pc lv (.ref a :: st) := fun H locs ls hR hN hS hl => lv_ifnonnull K.1 K.2.1 hd ht (kk H locs ls hR hN hS hl)
theorem kx_cast (K : kx_K Λ Γ own cc nL ret rm tb) {idx a m : Nat} {g : Nat → Int32} (hw : Cond.classLink own idx "[B" ∈ wsL_law) (hb : σ a = some (.inl (1, m, .inl g))) (hd : decode cc pc = .ok (.checkcast idx, 3)) (kk : kx_S Λ Γ nL N σ k n (pc + 3) lv (.ref a :: st)) : kx_S Λ Γ nL N σ k n pc lv (.ref a :: st) := fun H locs ls hR hN hS hl =>
  va_castA K.1 K.2.1 K.2.2.2.1 (K.2.2.2.2.1 _ hw) (hR.one hb) 0 rfl (show (kx_s Γ).vm.findClass "[B" = some (ex_c Λ 1) from (K.2.2.2.2.2.1.1.2.1.2 1 (ex_c Λ 1, .byte) rfl).2) hd (kk H locs ls hR hN hS hl)
theorem kx_scmpG (K : kx_K Λ Γ own cc nL ret rm tb) {idx : Nat} (hw : Cond.fieldLink own idx "java/lang/String" "COMPACT_STRINGS" "Z" ∈ wsL_law) (hd : decode cc pc = .ok (.getstatic idx, 3)) (kk : kx_S Λ Γ nL N σ k n (pc + 3) lv (.int 1 :: st)) : kx_S Λ Γ nL N σ k n pc lv st := fun H locs ls hR hN hS hl =>
  va_gets K.1 K.2.1 K.2.2.2.2.2.1.2.1.2.2.1 hS K.2.2.2.1 (K.2.2.2.2.1 _ hw) (fun _ h => h) hd (kk H locs ls hR hN hS hl)
theorem kx_gsD (K : kx_K Λ Γ own cc nL ret rm tb) {idx : Nat} (i : Nat) (hi : i < 2) (hw : Cond.fieldLink own idx "java/lang/Integer" (ac_Dn i) "[B" ∈ wsL_law) (hd : decode cc pc = .ok (.getstatic idx, 3)) (kk : kx_S Λ Γ nL N σ k n (pc + 3) lv (.ref (ex_t Λ (3 + i)) :: st)) : kx_S Λ Γ nL N σ k n pc lv st := fun H locs ls hR hN hS hl =>
  va_gets K.1 K.2.1 (K.2.2.2.2.2.1.2.1.1.2 i hi).1 hS K.2.2.2.1 (K.2.2.2.2.1 _ hw) (fun _ h => h) hd (kk H locs ls hR hN hS hl)
theorem kx_td (K : kx_K Λ Γ own cc nL ret rm tb) (i : Nat) (hi : i < 2) {j : Int32} (hd : decode cc pc = .ok (.baload, 1)) {F : Int32 → Option α} (hf : mo_d i j F = some r) (kk : ∀ x : Int32, F x = some r → kx_S Λ Γ nL N σ k n (pc + 1) lv (.int x :: st)) : kx_S Λ Γ nL N σ k n pc lv (.int j :: .ref (ex_t Λ (3 + i)) :: st) := by
  unfold mo_d at hf
  split at hf
  · cases hf
  · rename_i hin
    exact fun H locs ls hR hN hS hl => va_tb K.1 K.2.1 (K.2.2.2.2.2.1.2.1.1.2 i hi).2 hS hin rfl hd (kk _ hf H locs ls hR hN hS hl)
/-- word.coder() -/
theorem kx_wcd (K : kx_K Λ Γ own cc nL ret rm tb) {idx i : Nat} (hw : Cond.methodLink own idx yJ0_coder_7d493 ∈ wsL_law) (hi : i < 19) (hrm : 1 ≤ rm.frames ∧ 20 ≤ rm.locals ∧ k ≤ rm.cells ∧ n ≤ rm.slots) (hc : (st.map fun v => v.category).sum ≤ 8) (hd : decode cc pc = .ok (.invokevirtual idx, 3)) (kk : kx_S Λ Γ nL N σ k n (pc + 3) lv (.int 0 :: st)) : kx_S Λ Γ nL N σ k n pc lv (.ref (ex_k Λ i) :: st) :=
  kx_sv (As := []) (np := 0) (x := 0) (rmy := ⟨0, 0, 0, 0⟩) K hi rfl ⟨hw, w_235, w_236, w_217, w_237, by decide +kernel, by decide +kernel⟩ ⟨hrm.1, by have := hrm.2.1; show 8 + (1 + 11) + 0 ≤ _; omega, rfl, rfl, hrm.2.2.1, hrm.2.2.2⟩ rfl rfl hc hd (fun _ => k_J0_coder hi) kk
/-- a void method of a word -/
theorem kx_svv (K : kx_K Λ Γ own cc nL ret rm tb) {idx np mL i : Nat} {y : MethodName} {cy : ByteArray} {rmy : Room} (As : List Value) {st0 : List Value} {m : Option (Unit × ac_H)} {F : Unit → ac_H → Option α} (hi : i < 19) (hy : y.cls = "java/lang/String") (hM : Cond.methodLink own idx y ∈ wsL_law ∧ Cond.instanceMethod y ∈ wsL_law ∧ Cond.selects y.cls y y ∈ wsL_law ∧ Cond.initialized y.cls ∈ wsL_law ∧ Cond.code y cy mL none ∈ wsL_law ∧ (y.cls ≠ "java/lang/invoke/MethodHandle" ∧ y.cls ≠ "java/lang/invoke/VarHandle") ∧ (parseMethodDescriptor y.desc).map (fun d => d.parameters.length) = some np) (hrm : rmy.frames + 1 ≤ rm.frames ∧ 8 + (mL + 11) + rmy.locals ≤ rm.locals ∧ rmy.cells = 0 ∧ rmy.slots = 0 ∧ k ≤ rm.cells ∧ n ≤ rm.slots) (hA : As.length = np) (hst : st0 = As.reverse ++ .ref (ex_k Λ i) :: st) (hc : (st.map fun v => v.category).sum ≤ 8) (hd : decode cc pc = .ok (.invokevirtual idx, 3))
    (hf : mo_cs m F = some r) (hC : ∀ (q : Nat) (x : Unit) (σ1 : ac_H), m = some (x, σ1) → kx_C Λ y (.code y cy mL none) rmy (.ref (ex_k Λ i) :: As) q σ (.inr none) σ1 (fun z => z = q)) (kk : ∀ (x : Unit) (σ1 : ac_H), F x σ1 = some r → kx_S Λ Γ nL N σ1 k n (pc + 3) lv st) : kx_S Λ Γ nL N σ k n pc lv st0 := by
  obtain ⟨hfr, hlo, h0, h1, hk, hn⟩ := hrm
  obtain ⟨m2, m3, m4, m5, m6, m7, m8⟩ := hM
  have hts := K.2.2.2.2.1
  have hRm := K.2.2.2.2.2.2.2.2.1
  unfold mo_cs at hf
  split at hf
  · rename_i q9
    obtain ⟨x, σ1⟩ := q9
    intro H locs ls hR hN hS hl
    have hrc : ∃ cell : Cell, H[ex_k Λ i]? = some cell ∧ cell.vm.isStatics = false ∧ (kx_s Γ).vm.findClass y.cls = some cell.cls := by
      rw [hy]
      obtain ⟨cell, g1, g2, g3, -⟩ := (K.2.2.2.2.2.1.2.1.2.1 i hi).1.kept hS.2.1
      exact ⟨cell, g1, g2, g3⟩
    have hr : kx_Rn Λ Γ rmy k n H locs (F0 (kx_m Γ) pc ls st0) st (Value.ref (ex_k Λ i) :: As).toArray (.inr none) σ1 (fun z => z = H.size) :=
      vx_runV (Ts := wsL_law) (C := y.cls) ⟨K.1, K.2.1, K.2.2.1, K.2.2.2.1, hts⟩ (hC H.size x σ1 rfl) ⟨callB_of np hts (kx_gc m6) rfl rfl rfl (hts _ m5) (hts _ m2) ⟨m7.1, m7.2, m8⟩ (by rw [hRm]; exact ⟨hfr, hlo⟩), hts _ m3, hts _ m4⟩ ⟨kx_blind, hrc, fun U hU hW => ⟨rfl, by rw [hU]; exact hR, by rw [hU], K.2.2.2.2.2.1.at hS hU hW⟩⟩ rfl hA hl.1 hst (lv_room (m := kx_m Γ) (pc := pc) (ls := ls) (rest := st0) hc) hd (by rw [hRm]; exact ⟨by omega, by omega⟩)
    exact kx_back (M := N) hr hl hS (fun z hz => by rw [show z = H.size from hz]; exact hN) (by rw [h0, h1]; exact kk x σ1 hf)
  · cases hf
/-- String.checkIndex(x, m) -/
theorem kx_ck (K : kx_K Λ Γ own cc nL ret rm tb) {idx : Nat} {x m : Int32} (hw : Cond.methodLink own idx yJ0_checkIndex_df160 ∈ wsL_law) (hrm : 2 ≤ rm.frames ∧ 43 ≤ rm.locals ∧ k ≤ rm.cells ∧ n ≤ rm.slots) (hc : (st.map fun v => v.category).sum ≤ 8) (hd : decode cc pc = .ok (.invokestatic idx, 3)) {A : Option α} (hf : mo_ck x m A = some r) (kk : A = some r → kx_S Λ Γ nL N σ k n (pc + 3) lv st) : kx_S Λ Γ nL N σ k n pc lv (.int m :: .int x :: st) := by
  unfold mo_ck at hf
  split at hf
  · cases hf
  · rename_i h
    refine kx_cs2v (m := some ((), σ)) (F := fun x σ => some (x, σ)) (r := ((), σ)) (rmy := ⟨1, 0, 0, 22⟩) K ⟨hw, w_293, w_217, w_294, by decide +kernel, by decide +kernel⟩ ⟨hrm.1, by have := hrm.2.1; show 8 + (2 + 11) + 22 ≤ _; omega, rfl, rfl, hrm.2.2.1, hrm.2.2.2⟩ hc hd rfl (fun _ x9 σ9 h9 => by cases h9; exact k_J0_checkIndex (fun g => h (Or.inl g)) (Decidable.byContradiction fun g => h (Or.inr g))) (fun x9 σ9 h9 => ?_)
    cases h9
    exact kk hf
/-- answers: a byte, a char; an array; the size known -/
theorem kx_tretM {ty : FieldType} (K : kx_K Λ Γ own cc nL (some ty) rm tb) {x v : Int32} (hQ : kx_Q Λ Γ (.inr (some (.int v))) σ' N' rm) (hk : k ≤ rm.cells) (hn : n ≤ rm.slots) (hN9 : ∀ q, N q → N' q) (hd : decode cc pc = .ok (.ireturn, 1)) (hf : mo_nt ty x (some (x, σ)) = some (v, σ')) : kx_S Λ Γ nL N σ k n pc lv [.int x] := by
  unfold mo_nt at hf
  split at hf
  · rename_i h
    cases hf
    exact kx_tret K hQ hk hn hN9 hd h
  · cases hf
theorem kx_aretA {t : FieldType} (K : kx_K Λ Γ own cc nL (some (.array t)) rm tb) {x : Nat} (hQ : kx_Q Λ Γ (.inr (some (.ref x))) σ N' rm) (hk : k ≤ rm.cells) (hn : n ≤ rm.slots) (hN9 : ∀ q, N q → N' q) (hd : decode cc pc = .ok (.areturn, 1)) : kx_S Λ Γ nL N σ k n pc lv [.ref x] := by
  intro H locs ls hR hN hS hl
  refine W.widen hk hn ?_
  rw [hQ]
  exact vx_ret (W.aret K.1 K.2.1 K.2.2.2.2.2.2.1 (Or.inr ⟨t, rfl⟩) (Or.inr ⟨_, rfl⟩) (fun t ht hW => ⟨⟨_, rfl, rfl⟩, by rw [ht]; exact hR, by rw [ht]; exact hN9 _ hN, hS.F ht⟩) hS.2.2 hd K.2.2.2.2.2.2.2.1)
/-- .. of a method that makes cells: the answer and the size -/
theorem kx_iretZ (K : kx_K Λ Γ own cc nL (some .int) rm tb) {x : Int32} {v : Int32 × Nat} (hQ : kx_Q Λ Γ (.inr (some (.int v.1))) σ' (fun z => z = v.2) rm) (hk : k ≤ rm.cells) (hn : n ≤ rm.slots) (hd : decode cc pc = .ok (.ireturn, 1)) (hf : some ((x, q), σ) = some (v, σ')) : kx_S Λ Γ nL (fun z => z = q) σ k n pc lv [.int x] := by
  cases hf
  exact kx_iret K hQ hk hn (fun _ h => h) hd rfl
theorem kx_zretZ (K : kx_K Λ Γ own cc nL (some .boolean) rm tb) {x : Int32} {v : Int32 × Nat} (hQ : kx_Q Λ Γ (.inr (some (.int v.1))) σ' (fun z => z = v.2) rm) (hk : k ≤ rm.cells) (hn : n ≤ rm.slots) (hd : decode cc pc = .ok (.ireturn, 1)) (hf : mo_z x (some ((x, q), σ)) = some (v, σ')) : kx_S Λ Γ nL (fun z => z = q) σ k n pc lv [.int x] := by
  unfold mo_z at hf
  split at hf
  · rename_i h01
    cases hf
    exact kx_zret K hQ hk hn (fun _ h => h) hd (by unfold mo_z; rw [if_pos h01])
  · cases hf
theorem kx_aretZ {C : String} (K : kx_K Λ Γ own cc nL (some (.object C)) rm tb) {x : Nat} {v : Nat × Nat} (hQ : kx_Q Λ Γ (.inr (some (.ref v.1))) σ' (fun z => z = v.2) rm) (hk : k ≤ rm.cells) (hn : n ≤ rm.slots) (hd : decode cc pc = .ok (.areturn, 1)) (hf : some ((x, q), σ) = some (v, σ')) : kx_S Λ Γ nL (fun z => z = q) σ k n pc lv [.ref x] := by
  cases hf
  exact kx_aret K hQ hk hn (fun _ h => h) hd rfl
theorem kx_aretB {t : FieldType} (K : kx_K Λ Γ own cc nL (some (.array t)) rm tb) {x : Nat} {v : Nat × Nat} (hQ : kx_Q Λ Γ (.inr (some (.ref v.1))) σ' (fun z => z = v.2) rm) (hk : k ≤ rm.cells) (hn : n ≤ rm.slots) (hd : decode cc pc = .ok (.areturn, 1)) (hf : some ((x, q), σ) = some (v, σ')) : kx_S Λ Γ nL (fun z => z = q) σ k n pc lv [.ref x] := by
  cases hf
  exact kx_aretA K hQ hk hn (fun _ h => h) hd
theorem kx_vretZ (K : kx_K Λ Γ own cc nL none rm tb) {v : Nat} (hQ : kx_Q Λ Γ (.inr none) σ' (fun z => z = v) rm) (hk : k ≤ rm.cells) (hn : n ≤ rm.slots) (hd : decode cc pc = .ok (.return_, 1)) (hf : some (q, σ) = some (v, σ')) : kx_S Λ Γ nL (fun z => z = q) σ k n pc lv [] := by
  cases hf
  exact kx_vret (v := ()) K hQ hk hn (fun _ h => h) hd rfl
/-- the same rows, with the place looked at in the mirror -/
def mo_w {α : Type} (i : Nat) (A : Option α) : Option α := if i < 19 then A else none
def mo_ct {α : Type} (σ : ac_H) (a : Nat) (A : Option α) : Option α := match σ a with
  | some (.inl (1, _, .inl _)) => A
  | _ => none
theorem kx_castM (K : kx_K Λ Γ own cc nL ret rm tb) {idx a : Nat} (hw : Cond.classLink own idx "[B" ∈ wsL_law) (hd : decode cc pc = .ok (.checkcast idx, 3)) {A : Option α} (hf : mo_ct σ a A = some r) (kk : A = some r → kx_S Λ Γ nL N σ k n (pc + 3) lv (.ref a :: st)) : kx_S Λ Γ nL N σ k n pc lv (.ref a :: st) := by
  unfold mo_ct at hf
  split at hf
  · rename_i ha
    exact kx_cast K hw ha hd (kk hf)
  · cases hf
theorem kx_svalM (K : kx_K Λ Γ RJ0 cc nL ret rm tb) {i : Nat} (hd : decode cc pc = .ok (.getfield 9, 3)) {A : Option α} (hf : mo_w i A = some r) (kk : A = some r → kx_S Λ Γ nL N σ k n (pc + 3) lv (.ref (ex_v Λ i) :: st)) : kx_S Λ Γ nL N σ k n pc lv (.ref (ex_k Λ i) :: st) := by
  unfold mo_w at hf
  split at hf
  · rename_i hi
    exact kx_sval K hi hd (kk hf)
  · cases hf
theorem kx_slenM (K : kx_K Λ Γ own cc nL ret rm tb) {i : Nat} (hd : decode cc pc = .ok (.arraylength, 1)) {A : Option α} (hf : mo_w i A = some r) (kk : A = some r → kx_S Λ Γ nL N σ k n (pc + 1) lv (.int (nI (ac_B i).length) :: st)) : kx_S Λ Γ nL N σ k n pc lv (.ref (ex_v Λ i) :: st) := by
  unfold mo_w at hf
  split at hf
  · rename_i hi
    exact kx_slen K hi hd (kk hf)
  · cases hf
theorem kx_wcdM (K : kx_K Λ Γ own cc nL ret rm tb) {idx i : Nat} (hw : Cond.methodLink own idx yJ0_coder_7d493 ∈ wsL_law) (hrm : 1 ≤ rm.frames ∧ 20 ≤ rm.locals ∧ k ≤ rm.cells ∧ n ≤ rm.slots) (hc : (st.map fun v => v.category).sum ≤ 8) (hd : decode cc pc = .ok (.invokevirtual idx, 3)) {A : Option α} (hf : mo_w i A = some r) (kk : A = some r → kx_S Λ Γ nL N σ k n (pc + 3) lv (.int 0 :: st)) : kx_S Λ Γ nL N σ k n pc lv (.ref (ex_k Λ i) :: st) := by
  unfold mo_w at hf
  split at hf
  · rename_i hi
    exact kx_wcd K hw hi hrm hc hd (kk hf)
  · cases hf
theorem kx_svvM (K : kx_K Λ Γ own cc nL ret rm tb) {idx np mL i : Nat} {y : MethodName} {cy : ByteArray} {rmy : Room} (As : List Value) {st0 : List Value} {m : Option (Unit × ac_H)} {F : Unit → ac_H → Option α} (hy : y.cls = "java/lang/String") (hM : Cond.methodLink own idx y ∈ wsL_law ∧ Cond.instanceMethod y ∈ wsL_law ∧ Cond.selects y.cls y y ∈ wsL_law ∧ Cond.initialized y.cls ∈ wsL_law ∧ Cond.code y cy mL none ∈ wsL_law ∧ (y.cls ≠ "java/lang/invoke/MethodHandle" ∧ y.cls ≠ "java/lang/invoke/VarHandle") ∧ (parseMethodDescriptor y.desc).map (fun d => d.parameters.length) = some np) (hrm : rmy.frames + 1 ≤ rm.frames ∧ 8 + (mL + 11) + rmy.locals ≤ rm.locals ∧ rmy.cells = 0 ∧ rmy.slots = 0 ∧ k ≤ rm.cells ∧ n ≤ rm.slots) (hA : As.length = np) (hst : st0 = As.reverse ++ .ref (ex_k Λ i) :: st) (hc : (st.map fun v => v.category).sum ≤ 8) (hd : decode cc pc = .ok (.invokevirtual idx, 3))
    (hf : mo_w i (mo_cs m F) = some r) (hC : ∀ (q : Nat) (x : Unit) (σ1 : ac_H), m = some (x, σ1) → kx_C Λ y (.code y cy mL none) rmy (.ref (ex_k Λ i) :: As) q σ (.inr none) σ1 (fun z => z = q)) (kk : ∀ (x : Unit) (σ1 : ac_H), F x σ1 = some r → kx_S Λ Γ nL N σ1 k n (pc + 3) lv st) : kx_S Λ Γ nL N σ k n pc lv st0 := by
  unfold mo_w at hf
  split at hf
  · rename_i hi
    exact kx_svv K As hi hy hM hrm hA hst hc hd hf hC kk
  · cases hf
/-- a byte field, of a constant -/
theorem kx_pb (K : kx_K Λ Γ own cc nL ret rm tb) {idx ci j a : Nat} (hF : kx_F own idx ci j .byte false) (hd : decode cc pc = .ok (.putfield idx, 3)) {x : Int32} (h1 : narrow .byte (.int x) = .int x) (h2 : fits .byte (.int x) = true) {F : ac_H → Option α} (hf : mo_pv σ a ci j (.int x) F = some r) (kk : ∀ σ1 : ac_H, F σ1 = some r → kx_S Λ Γ nL N σ1 k n (pc + 3) lv st) : kx_S Λ Γ nL N σ k n pc lv (.int x :: .ref a :: st) := kx_put0 K hF hd h1 h2 hf kk
theorem kx_gb (K : kx_K Λ Γ own cc nL ret rm tb) {idx ci j a : Nat} {fin : Bool} {ty : FieldType} (hF : kx_F own idx ci j ty fin) (hd : decode cc pc = .ok (.getfield idx, 3)) {F : Int32 → Option α} (hf : mo_gi σ a ci j F = some r) (kk : ∀ x : Int32, F x = some r → kx_S Λ Γ nL N σ k n (pc + 3) lv (.int x :: st)) : kx_S Λ Γ nL N σ k n pc lv (.ref a :: st) := kx_gi K hF hd hf kk
end KXA

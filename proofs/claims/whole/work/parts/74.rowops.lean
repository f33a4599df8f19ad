/-! .. removals and insertions. -/
/-- what an operation on the faults of the row at a leaves as it was -/
def FrR (a : Nat) (M M' : hM) : Prop := (∀ e k, e ≠ a ∨ k < 8 ∨ 39 ≤ k → gA M' e k = gA M e k) ∧ (∀ e k, gI M' e k = gI M e k) ∧ Vr M M'
theorem FrR.rfl' {a : Nat} {M : hM} : FrR a M M := ⟨fun _ _ _ => rfl, fun _ _ => rfl, fun _ => rfl⟩
theorem FrR.trans {a : Nat} {M M' M'' : hM} (h : FrR a M M') (h' : FrR a M' M'') : FrR a M M'' := ⟨fun e k he => (h'.1 e k he).trans (h.1 e k he), fun e k => (h'.2.1 e k).trans (h.2.1 e k), h.2.2.trans h'.2.2⟩
theorem FrR.sA {a k : Nat} {v : Int} {M : hM} (h : 8 ≤ k ∧ k < 39) : FrR a M (sA M a k v) := ⟨fun e j he => by rw [gA_sA, if_neg (by omega)], fun _ _ => rfl, fun _ => rfl⟩
theorem X7_go_l {z a : Nat} {M0 : hM} {lo m : Nat} (ha : isR a) (hm : gA M0 a 8 = (m : Int)) (hm10 : m ≤ 10) (hlo : 9 ≤ lo ∧ lo ≤ 60) : ∀ (d i n : Nat) (M : hM), i + d = max lo (9 + 3 * m) → d < n → lo ≤ i → (∀ k, lo ≤ k → k < i → gA M a k = gA M0 a (k + 3)) → (∀ k, k < lo ∨ i ≤ k → gA M a k = gA M0 a k) → FrR a M0 M →
    ∃ M', m_X7_goes_l15 (z + a) n (hp z M) (jI i) = some ((), hp z M') ∧ (∀ k, lo ≤ k → k < 9 + 3 * m → gA M' a k = gA M0 a (k + 3)) ∧ (∀ k, k < lo ∨ max lo (9 + 3 * m) ≤ k → gA M' a k = gA M0 a k) ∧ FrR a M0 M' := by
  intro d
  induction d with
  | zero =>
    intro i n M hi hn hl h1 h2 h3
    obtain ⟨n, rfl⟩ : ∃ k, n = k + 1 := ⟨n - 1, by omega⟩
    refine ⟨M, ?_, fun k hk1 hk2 => h1 k hk1 (by omega), fun k hk => h2 k (by omega), h3⟩
    have e8 : gA M a (8 : Int).toNat = (m : Int) := by rw [← hm]; exact h2 8 (by omega)
    have hlt : ¬ (i : Int) < 9 + 3 * (m : Int) := by omega
    unfold m_X7_goes_l15
    simp (disch := omega) only [ji1, ji2, ji3, ji4, ji5, ji6, ji7, ji8, ji9, ji10, ji11, ji12, ji13, ji14, ji15, ji16, ji19, ji20, ji39, ji119, ji144, ji366, ji24, ji31, ji32, ji45, ji48, ji57, ji58, ji59, ji97, ji120, ji122, ji183, ji200, ji226, ji240, ji255, ji500, jI_z, ↓jI_m1, jI_add, jI_sub, jI_mul, Ra ha, e8, jI_lt, hlt, if_false]
  | succ d ih =>
    intro i n M hi hn hl h1 h2 h3
    obtain ⟨n, rfl⟩ : ∃ k, n = k + 1 := ⟨n - 1, by omega⟩
    have e8 : gA M a (8 : Int).toNat = (m : Int) := by rw [← hm]; exact h2 8 (by omega)
    have hlt : (i : Int) < 9 + 3 * (m : Int) := by omega
    have e3 : gA M a (i + 3) = gA M0 a (i + 3) := h2 (i + 3) (by omega)
    obtain ⟨M', r1, r2⟩ := ih (i + 1) n (sA M a i (gA M0 a (i + 3))) (by omega) (by omega) (by omega) (fun k hk1 hk2 => by
        rw [gA_sA]; by_cases hki : k = i
        · rw [if_pos ⟨rfl, hki⟩, hki]
        · rw [if_neg (by omega)]; exact h1 k hk1 (by omega)) (fun k hk => by rw [gA_sA, if_neg (by omega)]; exact h2 k (by omega)) (h3.trans (FrR.sA (by omega)))
    refine ⟨M', ?_, r2⟩
    have ej' : (i : Int) + 1 = ((i + 1 : Nat) : Int) := by omega
    have ei3 : (i : Int) + 3 = ((i + 3 : Nat) : Int) := by omega
    unfold m_X7_goes_l15
    simp (disch := omega) only [ji1, ji2, ji3, ji4, ji5, ji6, ji7, ji8, ji9, ji10, ji11, ji12, ji13, ji14, ji15, ji16, ji19, ji20, ji39, ji119, ji144, ji366, ji24, ji31, ji32, ji45, ji48, ji57, ji58, ji59, ji97, ji120, ji122, ji183, ji200, ji226, ji240, ji255, ji500, jI_z, ↓jI_m1, jI_add, jI_sub, jI_mul, Ra ha, Ru ha, e8, jI_lt, hlt, if_true, ej', ei3, Int.toNat_natCast, e3]
    exact r1
theorem X7_go {z a f : Nat} {M : hM} {c : hCf} (ha : isR a) (hc : okC c) (hR : RR (gA M a) c) (hf : f < c.2.length) :
    ∃ M', m_X7_goes (hp z M) (z + a) (jI f) = some ((), hp z M') ∧ RR (gA M' a) (c.1, c.2.eraseIdx f) ∧ FrR a M M' := by
  have hl := hc.1
  obtain ⟨g1, g2, g3⟩ := hR
  obtain ⟨M', r1, r2, r3, r4⟩ := X7_go_l (z := z) (a := a) (M0 := sA M a 8 (((c.2.length - 1 : Nat) : Int))) (lo := 9 + 3 * f) (m := c.2.length - 1) ha (by rw [gA_sA, if_pos ⟨rfl, rfl⟩]) (by omega) (by omega) (max (9 + 3 * f) (9 + 3 * (c.2.length - 1)) - (9 + 3 * f)) (9 + 3 * f) hN_f _ (by omega) (by unfold hN_f; omega) (Nat.le_refl _) (fun k h1 h2 => by omega) (fun _ _ => rfl) FrR.rfl'
  have e0 : ∀ k, k ≠ 8 → gA (sA M a 8 (((c.2.length - 1 : Nat) : Int))) a k = gA M a k := fun k hk => by rw [gA_sA, if_neg (by omega)]
  refine ⟨M', ?_, ⟨fun k hk => ?_, ?_, fun i x hx => ?_⟩, (FrR.sA (by omega)).trans r4⟩
  · have e8 : gA M a (8 : Int).toNat = c.2.length := g2
    have em : (c.2.length : Int) - 1 = ((c.2.length - 1 : Nat) : Int) := by omega
    have ef : (9 : Int) + 3 * (f : Int) = ((9 + 3 * f : Nat) : Int) := by omega
    unfold m_X7_goes
    simp (disch := omega) only [ji1, ji2, ji3, ji4, ji5, ji6, ji7, ji8, ji9, ji10, ji11, ji12, ji13, ji14, ji15, ji16, ji19, ji20, ji39, ji119, ji144, ji366, ji24, ji31, ji32, ji45, ji48, ji57, ji58, ji59, ji97, ji120, ji122, ji183, ji200, ji226, ji240, ji255, ji500, jI_z, ↓jI_m1, jI_add, jI_sub, jI_mul, Ra ha, Ru ha, e8, em, ef]
    exact r1
  · rw [r3 k (by omega), e0 k (by omega)]; exact g1 k hk
  · rw [r3 8 (by omega), gA_sA, if_pos ⟨rfl, rfl⟩, List.length_eraseIdx, if_pos hf]
  · have hil := (List.getElem?_eq_some_iff.mp hx).1
    rw [List.length_eraseIdx, if_pos hf] at hil
    rw [List.getElem?_eraseIdx] at hx
    by_cases hif : i < f
    · rw [if_pos hif] at hx
      rw [r3 _ (by omega), r3 _ (by omega), r3 _ (by omega), e0 _ (by omega), e0 _ (by omega), e0 _ (by omega)]
      exact g3 i x hx
    · rw [if_neg hif] at hx
      rw [r2 _ (by omega) (by omega), r2 _ (by omega) (by omega), r2 _ (by omega) (by omega), e0 _ (by omega), e0 _ (by omega), e0 _ (by omega)]
      have := g3 (i + 1) x hx
      rw [show 9 + 3 * (i + 1) = 9 + 3 * i + 3 from by omega] at this
      rw [show 9 + 3 * i + 1 + 3 = 9 + 3 * i + 3 + 1 from by omega, show 9 + 3 * i + 2 + 3 = 9 + 3 * i + 3 + 2 from by omega]
      exact this
/-- the place of a fault among others with other keys -/
theorem plc_sp {kd nm : Int} : ∀ (l : List hF) (i p : Nat), p ≤ i → (∀ j x, l[j]? = some x → plc kd nm l i p ≤ i + j → ¬ (x.2.1 < nm ∨ (x.2.1 = nm ∧ x.1 < kd))) ∧ (plc kd nm l i p = p ∨ (i < plc kd nm l i p ∧ ∃ x, l[plc kd nm l i p - 1 - i]? = some x ∧ (x.2.1 < nm ∨ (x.2.1 = nm ∧ x.1 < kd)))) := by
  intro l
  induction l with
  | nil => intro i p h; exact ⟨fun j x hx => by simp at hx, Or.inl rfl⟩
  | cons y t ih =>
    intro i p h
    by_cases g : y.2.1 < nm ∨ (y.2.1 = nm ∧ y.1 < kd)
    · have e : plc kd nm (y :: t) i p = plc kd nm t (i + 1) (i + 1) := if_pos g
      rw [e]
      obtain ⟨k1, k2⟩ := ih (i + 1) (i + 1) (Nat.le_refl _)
      refine ⟨fun j x hx hj => ?_, Or.inr ?_⟩
      · cases j with
        | zero =>
          exfalso
          rcases k2 with k2 | k2 <;> omega
        | succ j => exact k1 j x (by simpa using hx) (by omega)
      · rcases k2 with k2 | ⟨k2, x, k3, k4⟩
        · exact ⟨by omega, y, by rw [k2, show i + 1 - 1 - i = 0 from by omega]; rfl, g⟩
        · refine ⟨by omega, x, ?_, k4⟩
          rw [show plc kd nm t (i + 1) (i + 1) - 1 - i = (plc kd nm t (i + 1) (i + 1) - 1 - (i + 1)) + 1 from by omega]
          simpa using k3
    · have e : plc kd nm (y :: t) i p = plc kd nm t (i + 1) p := if_neg g
      rw [e]
      obtain ⟨k1, k2⟩ := ih (i + 1) p (by omega)
      refine ⟨fun j x hx hj => ?_, ?_⟩
      · cases j with
        | zero => simp at hx; subst hx; exact g
        | succ j => exact k1 j x (by simpa using hx) (by omega)
      · rcases k2 with k2 | ⟨k2, x, k3, k4⟩
        · exact Or.inl k2
        · refine Or.inr ⟨by omega, x, ?_, k4⟩
          rw [show plc kd nm t (i + 1) p - 1 - i = (plc kd nm t (i + 1) p - 1 - (i + 1)) + 1 from by omega]
          simpa using k3
theorem fnd_no {kd nm : Int} : ∀ (l : List hF) (i : Nat), fnd kd nm l i = -1 → ∀ x ∈ l, ¬ (x.2.1 = nm ∧ x.1 = kd) := by
  intro l
  induction l with
  | nil => intro i _ x hx; simp at hx
  | cons y t ih =>
    intro i h x hx
    simp only [fnd] at h
    by_cases g : y.2.1 = nm ∧ y.1 = kd
    · rw [if_pos g] at h; omega
    · rw [if_neg g] at h
      rcases List.mem_cons.mp hx with hx | hx
      · rw [hx]; exact g
      · exact ih (i + 1) h x hx

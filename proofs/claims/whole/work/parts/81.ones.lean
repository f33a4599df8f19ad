/-! THE MODEL'S ONES. -/
def onT : Nat → Bool
  | 0 => true
  | k + 1 => decide (k ≠ 0 → pop (k &&& (k - 1)) + 1 = pop k) && decide (pop k = 0 → k = 0) && onT k
theorem onT_ok : onT 1024 = true := by decide +kernel
theorem onT_at : ∀ (k : Nat), onT k = true → ∀ m, m < k → (m ≠ 0 → pop (m &&& (m - 1)) + 1 = pop m) ∧ (pop m = 0 → m = 0) := by
  intro k
  induction k with
  | zero => intro _ m hm; omega
  | succ k ih =>
    intro h m hm
    simp only [onT, Bool.and_eq_true, decide_eq_true_eq] at h
    by_cases g : m = k
    · subst g; exact ⟨h.1.1, h.1.2⟩
    · exact ih h.2 m (by omega)
theorem X7_ones_l {σ : ac_H} : ∀ (d m acc f : Nat), m < 1024 → pop m = d → d < f → acc + d < 1000 → m_X7_ones_l4 f σ (jI acc) (jI m) = some (jI (acc + d : Nat), σ) := by
  intro d
  induction d with
  | zero =>
    intro m acc f hm hp' hf ha
    obtain ⟨f, rfl⟩ : ∃ g, f = g + 1 := ⟨f - 1, by omega⟩
    have h0 := (onT_at 1024 onT_ok m hm).2 hp'
    subst h0
    unfold m_X7_ones_l4
    rw [if_pos (show jI ((0 : Nat) : Int) = 0 from rfl)]; rfl
  | succ d ih =>
    intro m acc f hm hp' hf ha
    obtain ⟨f, rfl⟩ : ∃ g, f = g + 1 := ⟨f - 1, by omega⟩
    have hne : m ≠ 0 := by
      intro h; subst h
      exact absurd hp' (by rw [show pop 0 = 0 from rfl]; omega)
    have h1 := (onT_at 1024 onT_ok m hm).1 hne
    have hle : m &&& (m - 1) ≤ m := Nat.and_le_left
    have IH := ih (m &&& (m - 1)) (acc + 1) f (by omega) (by omega) (by omega) (by omega)
    have e1 : (m : Int) - 1 = ((m - 1 : Nat) : Int) := by omega
    have e2 : (acc : Int) + 1 = ((acc + 1 : Nat) : Int) := by omega
    unfold m_X7_ones_l4
    rw [if_neg (by rw [jI_z, jI_eq (by omega) (by omega) (by omega) (by omega)]; omega)]
    simp (disch := omega) only [ji1, ji2, ji3, ji4, ji5, ji6, ji7, ji8, ji9, ji10, ji11, ji12, ji13, ji14, ji15, ji16, ji19, ji20, ji39, ji119, ji144, ji366, ji24, ji31, ji32, ji45, ji48, ji57, ji58, ji59, ji97, ji120, ji122, ji183, ji200, ji226, ji240, ji255, ji500, jI_z, ↓jI_m1, jI_add, jI_sub, jI_mul, e1, e2, jI_and]
    rw [IH]
    congr 3; omega
theorem X7_ones {σ : ac_H} {m : Nat} (hm : m < 1024) : m_X7_ones σ (jI m) = some (jI (pop m : Nat), σ) := by
  have := X7_ones_l (σ := σ) (pop m) m 0 hN_f hm rfl (by have := pop_le m; unfold hN_f; omega) (by have := pop_le m; omega)
  rw [Nat.zero_add, Int.natCast_zero] at this
  unfold m_X7_ones
  rw [jI_z]; exact this

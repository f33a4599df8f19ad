variable {S : hSh}
/-- a plan's present fault -/
theorem PE.at {M : hM} {p k i : Nat} {o E : Nat → Int} (h : PE M p o E) (hk : k < 120) (hi : i < 3) : (i = 0 → gA M (p + 3) k = E (3 * k + i)) ∧ (i = 1 → gA M (p + 4) k = E (3 * k + i)) ∧ (i = 2 → gA M (p + 2) k = E (3 * k + i)) := by
  obtain ⟨h1, h2, h3⟩ := h.2 k hk
  exact ⟨fun x => by subst x; exact h1, fun x => by subst x; exact h2, fun x => by subst x; exact h3⟩
theorem L_j642 {z p r e g n k i : Nat} {M : hM} {q : hQ} {E : Nat → Int} (h : LX S M p r e g n q) (hk : k < 20) (hi : i < 2) (hE : eOK E) (hPE : PE M p q.1.1.1 E) (hcE : q.1.1.2 = fl E 360 0) (h0 : E (3 * k + i) = 0) (hl5 : q.1.1.2.length ≤ 5) :
    G1 S z p r e g (m_L_changes_j642 z (z + p) (hp S z M) (z + n) (jI k) (jI i) (jI 0) (jI (if i = 0 then 1 else E (3 * k))) (jI k) (z + p)) := by
  have h' := h
  obtain ⟨g1, g2, g3, g4, g5, g6, g7, g8, g9, g10⟩ := h'
  obtain ⟨e1, e2, e3⟩ := hPE.2 k (by omega)
  obtain ⟨b0, b1, b2⟩ := hE (3 * k) (by omega)
  obtain ⟨c0, c1, c2⟩ := hE (3 * k + 1) (by omega)
  have b2 := b2 (by omega)
  have c2 := c2 (by omega)
  have fin : ∀ b : Int, b = (if i = 1 then 1 else E (3 * k + 1)) → G1 S z p r e g (m_L_changes_l676 z (z + p) hN_f (hp S z (sA (sA (sA M (p + 3) k (if i = 0 then 1 else E (3 * k))) (p + 4) k b) (p + 2) k (E (3 * k + 2)))) (z + n) (jI k) (jI i) (jI 0) (jI 0)) := by
    intro b hb
    have hP := (PE_put (k := k) (a := if i = 0 then 1 else E (3 * k)) (b := b) (v := E (3 * k + 2)) hPE (by omega)).cg (E' := pt E (3 * k + i) 1) (by
      intro x hx
      unfold p3 pt
      rw [hb]
      rcases (show i = 0 ∨ i = 1 by omega) with rfl | rfl
      · by_cases x2 : x = 3 * k + 2
        · rw [if_neg (by omega), if_pos x2, x2]
        · rw [if_neg x2]
          by_cases x1 : x = 3 * k + 1
          · rw [if_neg (by omega), if_pos x1, if_neg (by omega), x1]
          · rw [if_neg x1]
            by_cases x0 : x = 3 * k
            · rw [if_pos (by omega), if_pos x0, if_pos rfl]
            · rw [if_neg (by omega), if_neg x0]
      · by_cases x2 : x = 3 * k + 2
        · rw [if_neg (by omega), if_pos x2, x2]
        · rw [if_neg x2]
          by_cases x1 : x = 3 * k + 1
          · rw [if_pos x1, if_pos x1, if_pos rfl]
          · rw [if_neg x1, if_neg x1]
            by_cases x0 : x = 3 * k
            · rw [if_pos x0, if_neg (by omega), x0]
            · rw [if_neg x0])
    have R := L_c4 (z := z) (j := 3 * k + i) (v := 1) (am := 0) h (by omega) hE hcE h0 (by omega) (fun _ => rfl) (by rw [if_neg (by omega)]) hl5 hP Fr_put (fun _ => rfl)
    rw [show (3 * k + i) / 3 = k from by omega, show (3 * k + i) % 3 = i from by omega] at R
    exact R
  have ha : (if i = 0 then (1 : Int) else E (3 * k)) = 0 ∨ (if i = 0 then (1 : Int) else E (3 * k)) = 1 := by split <;> omega
  unfold m_L_changes_j642
  simp (disch := omega) only [ji1, ji2, ji3, ji4, ji5, ji6, ji7, ji8, ji9, ji10, ji11, ji12, ji13, ji14, ji15, ji16, ji19, ji20, ji24, ji31, ji32, ji39, ji45, ji48, ji57, ji58, ji59, ji60, ji97, ji100, ji119, ji120, ji122, ji144, ji200, ji226, ji240, ji255, ji300, ji366, ji400, ji500, ji1000, jI_z, ↓jI_m1, jI_add, jI_sub, jI_mul, ↓jm1000, ↓jm100, ↓jm10, ↓jm9, ji50, ji65280, ji1664525, ji252645135, ji858993459, ji1013904223, ji1431655765, ji2147483639, ji2147483647, ↓Pg0 g1, ↓Pg1 g1, ↓Pg2 g1, ↓Pg3 g1, ↓Pv g1, Pa1 g1, Pu1 g1, Pa2 g1, Pu2 g1, Pa3 g1, Pu3 g1, Pa4 g1, Pu4 g1, Int.toNat_natCast, e2, e3, jI_eq]
  by_cases q1 : E (3 * k + 1) = 0
  · rw [if_pos q1]
    by_cases q2 : i = 1
    · rw [if_pos (by omega), X7_put g1 (by omega) ha (Or.inr rfl)]
      simp only [↓mo_cs_s]
      exact fin 1 (by rw [if_pos q2])
    · rw [if_neg (by omega), X7_put g1 (by omega) ha (Or.inl rfl)]
      simp only [↓mo_cs_s]
      exact fin 0 (by rw [if_neg q2, q1])
  · rw [if_neg q1, X7_put g1 (by omega) ha (Or.inr rfl)]
    simp only [↓mo_cs_s]
    exact fin 1 (by split; rfl; omega)

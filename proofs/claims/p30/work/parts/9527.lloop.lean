variable {S : hSh}
/-! THE LAW PLAYS: its seven rounds. -/
theorem L_l57 {z p r e g : Nat} : ∀ (d k f n : Nat) (S : hSh) (M : hM) (q : hQ), k + d = 7 → d < f → LX S M p r e g n q →
    G1 S z p r e g (m_L_plays_l57 z (z + g) f (hp S z M) (z + n) (z + p) (z + e) (z + r) (jI k)) := by
  intro d
  induction d with
  | zero =>
    intro k f n S M q hk hf h
    obtain ⟨f, rfl⟩ : ∃ g, f = g + 1 := ⟨f - 1, by omega⟩
    have gk : ¬ (k : Int) < 7 := by omega
    unfold m_L_plays_l57
    simp (disch := omega) only [ji1, ji2, ji3, ji4, ji5, ji6, ji7, ji8, ji9, ji10, ji11, ji12, ji13, ji14, ji15, ji16, ji19, ji20, ji24, ji31, ji32, ji39, ji45, ji48, ji57, ji58, ji59, ji60, ji97, ji100, ji119, ji120, ji122, ji144, ji200, ji226, ji240, ji255, ji300, ji366, ji400, ji500, ji1000, jI_z, ↓jI_m1, jI_add, jI_sub, jI_mul, ↓jm1000, ↓jm100, ↓jm10, ↓jm9, ji50, ji65280, ji1664525, ji252645135, ji858993459, ji1013904223, ji1431655765, ji2147483639, ji2147483647, jI_lt, gk, if_false]
    exact G1.end1 h
  | succ d ih =>
    intro k f n S M q hk hf h
    obtain ⟨f, rfl⟩ : ∃ g, f = g + 1 := ⟨f - 1, by omega⟩
    have gk : (k : Int) < 7 := by omega
    have n10 : ¬ jI 1 = jI 0 := by decide
    obtain ⟨S1, M1, n1, q1, a1, a2⟩ := L_changes (z := z) h
    obtain ⟨S2, M2, b1, b2⟩ := L_run (z := z) a2
    obtain ⟨S3, M3, n3, c1, c2⟩ := L_asks (z := z) b2
    obtain ⟨S', M', n', q', r1, r2⟩ := ih (k + 1) f n3 S3 M3 q1 (by omega) (by omega) c2
    refine ⟨S', M', n', q', ?_, r2⟩
    unfold m_L_plays_l57
    simp (disch := omega) only [ji1, ji2, ji3, ji4, ji5, ji6, ji7, ji8, ji9, ji10, ji11, ji12, ji13, ji14, ji15, ji16, ji19, ji20, ji24, ji31, ji32, ji39, ji45, ji48, ji57, ji58, ji59, ji60, ji97, ji100, ji119, ji120, ji122, ji144, ji200, ji226, ji240, ji255, ji300, ji366, ji400, ji500, ji1000, jI_z, ↓jI_m1, jI_add, jI_sub, jI_mul, ↓jm1000, ↓jm100, ↓jm10, ↓jm9, ji50, ji65280, ji1664525, ji252645135, ji858993459, ji1013904223, ji1431655765, ji2147483639, ji2147483647, jI_lt, gk, if_true]
    rw [a1]
    simp only [↓mo_cs_s]
    rw [if_neg n10, b1]
    simp only [↓mo_cs_s]
    rw [if_neg n10, c1]
    simp only [↓mo_cs_s]
    rw [if_neg n10, show (k : Int) + 1 = ((k + 1 : Nat) : Int) from rfl]
    exact r1

variable {S : hSh}
theorem L_j599 {z p r e g n k i : Nat} {M : hM} {q : hQ} {E : Nat → Int} {am : Int} (h : LX S M p r e g n q) (hk : k < 20) (hi : i < 3) (hE : eOK E) (hPE : PE M p q.1.1.1 E) (hcE : q.1.1.2 = fl E 360 0) (h0 : E (3 * k + i) = 0) (hl5 : q.1.1.2.length ≤ 5) (ham : if i = 2 then 1 ≤ am ∧ am ≤ 20 else am = 0) :
    G1 S z p r e g (m_L_changes_j599 z (z + p) (hp S z M) (z + n) (jI k) (jI i) (jI am)) := by
  have g1 := h.1
  obtain ⟨e1, e2, e3⟩ := hPE.2 k (by omega)
  obtain ⟨b0, b1, b2⟩ := hE (3 * k) (by omega)
  have b2 := b2 (by omega)
  unfold m_L_changes_j599
  simp (disch := omega) only [ji1, ji2, ji3, ji4, ji5, ji6, ji7, ji8, ji9, ji10, ji11, ji12, ji13, ji14, ji15, ji16, ji19, ji20, ji24, ji31, ji32, ji39, ji45, ji48, ji57, ji58, ji59, ji60, ji97, ji100, ji119, ji120, ji122, ji144, ji200, ji226, ji240, ji255, ji300, ji366, ji400, ji500, ji1000, jI_z, ↓jI_m1, jI_add, jI_sub, jI_mul, ↓jm1000, ↓jm100, ↓jm10, ↓jm9, ji50, ji65280, ji1664525, ji252645135, ji858993459, ji1013904223, ji1431655765, ji2147483639, ji2147483647, jI_eq]
  by_cases gi : i = 2
  · rw [if_pos gi] at ham
    rw [if_pos (by omega)]
    simp (disch := omega) only [↓Pg0 g1, ↓Pg1 g1, ↓Pg2 g1, ↓Pg3 g1, ↓Pv g1, Pa1 g1, Pu1 g1, Pa2 g1, Pu2 g1, Pa3 g1, Pu3 g1, Pa4 g1, Pu4 g1, Int.toNat_natCast]
    have hP := hPE.l (k := k) (v := am) (by omega)
    rw [show 3 * k + 2 = 3 * k + i from by omega] at hP
    have R := L_c4 (z := z) (j := 3 * k + i) (v := am) (am := am) h (by omega) hE hcE h0 (by omega) (fun x => by omega) (by rw [if_pos (by omega)]) hl5 hP (Fr.sA (by omega)) (fun _ => rfl)
    rw [show (3 * k + i) / 3 = k from by omega, show (3 * k + i) % 3 = i from by omega] at R
    exact R
  · rw [if_neg gi] at ham
    rw [if_neg (by omega), ham]
    simp (disch := omega) only [↓Pg0 g1, ↓Pg1 g1, ↓Pg2 g1, ↓Pg3 g1, ↓Pv g1, Pa1 g1, Pu1 g1, Pa2 g1, Pu2 g1, Pa3 g1, Pu3 g1, Pa4 g1, Pu4 g1, Int.toNat_natCast, e1, jI_eq]
    have J := L_j642 (z := z) (k := k) (i := i) h hk (by omega) hE hPE hcE h0 hl5
    by_cases q1 : E (3 * k) = 0
    · rw [if_pos q1]
      by_cases q2 : i = 0
      · rw [if_pos (by omega)]; rw [if_pos q2] at J; exact J
      · rw [if_neg (by omega)]; rw [if_neg q2, q1] at J; exact J
    · rw [if_neg q1]
      have e : (if i = 0 then (1 : Int) else E (3 * k)) = 1 := by split <;> omega
      rw [e] at J; exact J
theorem L_j580 {z p r e g n k i : Nat} {M : hM} {q : hQ} {E : Nat → Int} (h : LX S M p r e g n q) (hk : k < 20) (hi : i < 3) (hE : eOK E) (hPE : PE M p q.1.1.1 E) (hcE : q.1.1.2 = fl E 360 0) (h0 : E (3 * k + i) = 0) (hl5 : q.1.1.2.length ≤ 5) :
    G1 S z p r e g (m_L_changes_j580 z (z + p) (z + g) (hp S z M) (z + n) (jI k) (jI i)) := by
  have h5 := h.2.2.2.2.1
  unfold m_L_changes_j580
  simp (disch := omega) only [ji1, ji2, ji3, ji4, ji5, ji6, ji7, ji8, ji9, ji10, ji11, ji12, ji13, ji14, ji15, ji16, ji19, ji20, ji24, ji31, ji32, ji39, ji45, ji48, ji57, ji58, ji59, ji60, ji97, ji100, ji119, ji120, ji122, ji144, ji200, ji226, ji240, ji255, ji300, ji366, ji400, ji500, ji1000, jI_z, ↓jI_m1, jI_add, jI_sub, jI_mul, ↓jm1000, ↓jm100, ↓jm10, ↓jm9, ji50, ji65280, ji1664525, ji252645135, ji858993459, ji1013904223, ji1431655765, ji2147483639, ji2147483647, jI_eq]
  by_cases gi : i = 2
  · obtain ⟨v, u, d1, d2, d3, h1⟩ := h.draw (z := z) (m := 20) (by omega) (by omega)
    have f : Fr g (g + 1) M (sA M g 0 u) := Fr.sA (by omega)
    rw [if_pos (by omega), d1]
    simp only [↓mo_cs_s, ji1, ji2, ji3, ji4, ji5, ji6, ji7, ji8, ji9, ji10, ji11, ji12, ji13, ji14, ji15, ji16, ji19, ji20, ji24, ji31, ji32, ji39, ji45, ji48, ji57, ji58, ji59, ji60, ji97, ji100, ji119, ji120, ji122, ji144, ji200, ji226, ji240, ji255, ji300, ji366, ji400, ji500, ji1000, jI_z, ↓jI_m1, jI_add, jI_sub, jI_mul, ↓jm1000, ↓jm100, ↓jm10, ↓jm9, ji50, ji65280, ji1664525, ji252645135, ji858993459, ji1013904223, ji1431655765, ji2147483639, ji2147483647]
    exact L_j599 h1 hk hi hE (hPE.keep f (by omega)) hcE h0 hl5 (by rw [if_pos gi]; omega)
  · rw [if_neg (by omega)]
    exact L_j599 h hk hi hE hPE hcE h0 hl5 (by rw [if_neg gi])
theorem L_c5 {z p r e g n : Nat} {M : hM} {q : hQ} (h : LX S M p r e g n q) : G1 S z p r e g (mo_cs (m_L_draw (hp S z M) (z + g) (jI 20)) fun x64 σ63 => mo_cs (m_L_draw σ63 (z + g) (jI 3)) fun x66 σ65 => mo_cv σ65 (z + p) 7 (m_X7_many σ65 (z + p)) fun x68 σ67 =>
    if jI 5 < x68 then mo_z (jI 1) (some ((jI 1, z + n), σ67)) else
    if x66 = jI 0 then (mo_gr σ67 (z + p) 7 2 fun x73 => mo_ai σ67 x73 2 x64 fun x74 => if x74 = jI 0 then m_L_changes_j580 z (z + p) (z + g) σ67 (z + n) x64 x66 else mo_z (jI 1) (some ((jI 1, z + n), σ67)))
    else if x66 = jI 1 then (mo_gr σ67 (z + p) 7 3 fun x71 => mo_ai σ67 x71 2 x64 fun x72 => if x72 = jI 0 then m_L_changes_j580 z (z + p) (z + g) σ67 (z + n) x64 x66 else mo_z (jI 1) (some ((jI 1, z + n), σ67)))
    else (mo_gr σ67 (z + p) 7 1 fun x69 => mo_ai σ67 x69 0 x64 fun x70 => if jI 0 < x70 then mo_z (jI 1) (some ((jI 1, z + n), σ67)) else m_L_changes_j580 z (z + p) (z + g) σ67 (z + n) x64 x66)) := by
  obtain ⟨ki, u1, d1, d2, d3, h1⟩ := h.draw (z := z) (m := 20) (by omega) (by omega)
  obtain ⟨k, rfl⟩ : ∃ k : Nat, ki = k := ⟨ki.toNat, by omega⟩
  rw [d1]
  simp only [↓mo_cs_s]
  obtain ⟨ii, u2, e1, e2, e3, h2⟩ := h1.draw (z := z) (m := 3) (by omega) (by omega)
  obtain ⟨i, rfl⟩ : ∃ k : Nat, ii = k := ⟨ii.toNat, by omega⟩
  rw [e1]
  simp only [↓mo_cs_s]
  generalize sA (sA M g 0 u1) g 0 u2 = Mb at h2 ⊢
  have g1 := h2.1
  have hl := h2.2.2.2.2.2.2.2.2.2
  obtain ⟨E, hE, hPE, hcE⟩ := h2.2.2.2.2.2.1
  have hmany := X7_many (z := z) g1 hPE hE
  rw [← hcE] at hmany
  simp only [↓Pv g1]
  rw [hmany]
  obtain ⟨f1, f2, f3⟩ := hPE.2 k (by omega)
  obtain ⟨b0, b1, b2⟩ := hE (3 * k) (by omega)
  obtain ⟨c0, c1, c2⟩ := hE (3 * k + 1) (by omega)
  obtain ⟨t0, t1, t2⟩ := hE (3 * k + 2) (by omega)
  simp (disch := omega) only [↓mo_cs_s, jI_lt, ↓Pg0 g1, ↓Pg1 g1, ↓Pg2 g1, ↓Pg3 g1, ↓Pv g1, Pa1 g1, Pu1 g1, Pa2 g1, Pu2 g1, Pa3 g1, Pu3 g1, Pa4 g1, Pu4 g1, Int.toNat_natCast, f1, f2, f3, jI_eq]
  by_cases q5 : (5 : Int) < (q.1.1.2.length : Nat)
  · rw [if_pos q5]; exact G1.end1 h2
  · rw [if_neg q5]
    have J := fun hz => L_j580 (z := z) (k := k) (i := i) h2 (by omega) (by omega) hE hPE hcE hz (by omega)
    rcases (show i = 0 ∨ i = 1 ∨ i = 2 by omega) with rfl | rfl | rfl
    · rw [if_pos (show ((0 : Nat) : Int) = 0 from rfl)]
      by_cases q1 : E (3 * k) = 0
      · rw [if_pos q1]; exact J q1
      · rw [if_neg q1]; exact G1.end1 h2
    · rw [if_neg (show ¬ ((1 : Nat) : Int) = 0 by decide), if_pos (show ((1 : Nat) : Int) = 1 from rfl)]
      by_cases q1 : E (3 * k + 1) = 0
      · rw [if_pos q1]; exact J q1
      · rw [if_neg q1]; exact G1.end1 h2
    · rw [if_neg (show ¬ ((2 : Nat) : Int) = 0 by decide), if_neg (show ¬ ((2 : Nat) : Int) = 1 by decide)]
      by_cases q1 : 0 < E (3 * k + 2)
      · rw [if_pos q1]; exact G1.end1 h2
      · rw [if_neg q1]; exact J (by omega)

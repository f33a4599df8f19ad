variable {S : hSh}
/-! .. a fault by its place, a fault taken. -/
theorem ftV_0 {x : hF} {t : List hF} : ftV (x :: t) 0 = 1000 * x.2.1 + x.1 := rfl
theorem ftV_s {x : hF} {t : List hF} {f : Nat} : ftV (x :: t) (f + 1) = ftV t f := rfl
theorem X7_fault_l {z p : Nat} {M : hM} {o E : Nat → Int} (h : isP S p) (hP : PE M p o E) (hE : eOK E) : ∀ (d k f : Nat), k + d = 120 → d < f → ∀ left : Nat, left < 400 →
    m_X7_fault_l4 (z + p) f (hp S z M) (jI left) (jI k) = some (jI (ftV (fl E (3 * d) (3 * k)) left), hp S z M) := by
  intro d
  induction d with
  | zero =>
    intro k f hk hf left hl
    obtain ⟨f, rfl⟩ : ∃ g, f = g + 1 := ⟨f - 1, by omega⟩
    have g : ¬ (k : Int) < 120 := by omega
    unfold m_X7_fault_l4
    simp (disch := omega) only [ji1, ji2, ji3, ji4, ji5, ji6, ji7, ji8, ji9, ji10, ji11, ji12, ji13, ji14, ji15, ji16, ji19, ji20, ji24, ji31, ji32, ji39, ji45, ji48, ji57, ji58, ji59, ji60, ji97, ji100, ji119, ji120, ji122, ji144, ji200, ji226, ji240, ji255, ji300, ji366, ji400, ji500, ji1000, jI_z, ↓jI_m1, jI_add, jI_sub, jI_mul, ↓jm1000, ↓jm100, ↓jm10, ↓jm9, ji50, ji65280, ji1664525, ji252645135, ji858993459, ji1013904223, ji1431655765, ji2147483639, ji2147483647, jI_lt, g, if_false]
    exact sJ (by simp [fl, ftV])
  | succ d ih =>
    intro k f hk hf left hl
    obtain ⟨f, rfl⟩ : ∃ g, f = g + 1 := ⟨f - 1, by omega⟩
    have g : (k : Int) < 120 := by omega
    have ek : (k : Int) + 1 = ((k + 1 : Nat) : Int) := by omega
    obtain ⟨F, hFu⟩ : ∃ F, hN_f = F + 1 + 1 + 1 + 1 := ⟨99996, rfl⟩
    generalize hK : (fun (ρ : ac_H) (y0 y1 : Int32) => m_X7_fault_l4 (z + p) f ρ y0 y1) = K4
    have G3 : ∀ left : Nat, left < 400 → m_X7_fault_l13 K4 (z + p) (F + 1) (hp S z M) (jI left) (jI k) (jI ((2 + 1 : Nat) : Int)) = some (jI (ftV (fl E (3 * d) (3 * (k + 1))) left), hp S z M) := by
      intro left hl
      unfold m_X7_fault_l13
      simp (disch := omega) only [ji1, ji2, ji3, ji4, ji5, ji6, ji7, ji8, ji9, ji10, ji11, ji12, ji13, ji14, ji15, ji16, ji19, ji20, ji24, ji31, ji32, ji39, ji45, ji48, ji57, ji58, ji59, ji60, ji97, ji100, ji119, ji120, ji122, ji144, ji200, ji226, ji240, ji255, ji300, ji366, ji400, ji500, ji1000, jI_z, ↓jI_m1, jI_add, jI_sub, jI_mul, ↓jm1000, ↓jm100, ↓jm10, ↓jm9, ji50, ji65280, ji1664525, ji252645135, ji858993459, ji1013904223, ji1431655765, ji2147483639, ji2147483647, jI_lt, show ¬ (((2 + 1 : Nat) : Int) < 3) by omega, if_false, ek]
      rw [← hK]
      exact ih (k + 1) f (by omega) (by omega) left hl
    have st : ∀ (i fu : Nat) (l' : List hF), i < 3 → (∀ left : Nat, left < 400 → m_X7_fault_l13 K4 (z + p) fu (hp S z M) (jI left) (jI k) (jI ((i + 1 : Nat) : Int)) = some (jI (ftV l' left), hp S z M)) →
        ∀ left : Nat, left < 400 → m_X7_fault_l13 K4 (z + p) (fu + 1) (hp S z M) (jI left) (jI k) (jI i) = some (jI (ftV (if E (3 * k + i) = 0 then l' else mkF (3 * k + i) (E (3 * k + i)) :: l') left), hp S z M) := by
      intro i fu l' hi hn left hl
      rw [X7_fk (left := left) h hP hE (by omega) (by omega) (by omega) i hi]
      by_cases g1 : E (3 * k + i) = 0
      · rw [if_pos g1, if_pos g1]; exact hn left hl
      · rw [if_neg g1, if_neg g1]
        cases left with
        | zero =>
          rw [if_pos (show ((0 : Nat) : Int) = 0 from rfl), ftV_0, mkF_1, mkF_2]
          exact sJ (by omega)
        | succ left =>
          rw [if_neg (by omega), ftV_s, show ((left + 1 : Nat) : Int) - 1 = left from by omega]
          exact hn left (by omega)
    have G0 := st 0 _ _ (by omega) (st 1 _ _ (by omega) (st 2 _ _ (by omega) G3)) left hl
    unfold m_X7_fault_l4
    simp (disch := omega) only [ji1, ji2, ji3, ji4, ji5, ji6, ji7, ji8, ji9, ji10, ji11, ji12, ji13, ji14, ji15, ji16, ji19, ji20, ji24, ji31, ji32, ji39, ji45, ji48, ji57, ji58, ji59, ji60, ji97, ji100, ji119, ji120, ji122, ji144, ji200, ji226, ji240, ji255, ji300, ji366, ji400, ji500, ji1000, jI_z, ↓jI_m1, jI_add, jI_sub, jI_mul, ↓jm1000, ↓jm100, ↓jm10, ↓jm9, ji50, ji65280, ji1664525, ji252645135, ji858993459, ji1013904223, ji1431655765, ji2147483639, ji2147483647, jI_lt, g, if_true, hK, hFu]
    rw [show jI 0 = jI ((0 : Nat) : Int) from rfl, G0, fl_3]
    congr 3
    simp only [fl, Nat.add_zero, show 3 * k + 1 + 1 = 3 * k + 2 from rfl]
    split <;> split <;> split <;> rfl
theorem X7_fault {z p f : Nat} {M : hM} {o E : Nat → Int} (h : isP S p) (hP : PE M p o E) (hE : eOK E) (hf : f < 400) : m_X7_fault (hp S z M) (z + p) (jI f) = some (jI (ftV (fl E 360 0) f), hp S z M) := by
  unfold m_X7_fault
  exact X7_fault_l (z := z) h hP hE 120 0 hN_f (by omega) (by unfold hN_f; omega) f hf
theorem ftV_at {E : Nat → Int} {j : Nat} (hj : j < 360) (h : E j ≠ 0) : ftV (fl E 360 0) (ix E j) = 1000 * ((j / 3 : Nat) : Int) + ((j % 3 : Nat) : Int) := by
  unfold ftV; rw [fl_ix hj h]; rfl
theorem ftV_j {E : Nat → Int} {f : Nat} (hf : f < (fl E 360 0).length) : ∃ j, j < 360 ∧ E j ≠ 0 ∧ ix E j = f ∧ ftV (fl E 360 0) f = 1000 * ((j / 3 : Nat) : Int) + ((j % 3 : Nat) : Int) ∧ (fl E 360 0)[f]? = some (mkF j (E j)) := by
  obtain ⟨j, h1, h2, h3, h4⟩ := fl_get 360 f _ (List.getElem?_eq_getElem hf)
  subst h4
  exact ⟨j, h1, h2, rfl, ftV_at h1 h2, fl_ix h1 h2⟩
theorem X7_take {z p j : Nat} {M : hM} {o E : Nat → Int} (h : isP S p) (hP : PE M p o E) (hE : eOK E) (hj : j < 360) :
    ∃ M', m_X7_take (hp S z M) (z + p) (jI (1000 * ((j / 3 : Nat) : Int) + ((j % 3 : Nat) : Int))) = some ((), hp S z M') ∧ PE M' p o (pt E j 0) ∧ Fr p (p + 5) M M' ∧ Vr M M' := by
  generalize hk : j / 3 = k
  generalize hi : j % 3 = i
  have hk' : k < 120 := by omega
  have hi' : i < 3 := by omega
  have hjj : j = 3 * k + i := by omega
  obtain ⟨e1, e2, e3⟩ := hP.2 k (by omega)
  obtain ⟨b0, b1, b2⟩ := hE (3 * k) (by omega)
  obtain ⟨c0, c1, c2⟩ := hE (3 * k + 1) (by omega)
  obtain ⟨d0, d1, d2⟩ := hE (3 * k + 2) (by omega)
  have b2 := b2 (by omega)
  have c2 := c2 (by omega)
  have q1 : (1000 * (k : Int) + (i : Int)) / 1000 = k := by omega
  have q2 : (1000 * (k : Int) + (i : Int)) % 1000 = i := by omega
  have j51 : ∀ a b : Int, (a = 0 ∨ a = 1) → (b = 0 ∨ b = 1) → m_X7_take_j51 (z + p) (hp S z M) (jI k) (jI i) (jI b) (jI a) (jI k) (z + p) = some ((), hp S z (sA (sA (sA M (p + 3) k a) (p + 4) k b) (p + 2) k (if i = 2 then 0 else E (3 * k + 2)))) := by
    intro a b ha hb
    unfold m_X7_take_j51
    simp (disch := omega) only [ji1, ji2, ji3, ji4, ji5, ji6, ji7, ji8, ji9, ji10, ji11, ji12, ji13, ji14, ji15, ji16, ji19, ji20, ji24, ji31, ji32, ji39, ji45, ji48, ji57, ji58, ji59, ji60, ji97, ji100, ji119, ji120, ji122, ji144, ji200, ji226, ji240, ji255, ji300, ji366, ji400, ji500, ji1000, jI_z, ↓jI_m1, jI_add, jI_sub, jI_mul, ↓jm1000, ↓jm100, ↓jm10, ↓jm9, ji50, ji65280, ji1664525, ji252645135, ji858993459, ji1013904223, ji1431655765, ji2147483639, ji2147483647, jI_eq]
    by_cases g : i = 2
    · rw [if_pos (by omega), if_pos g]
      simp (disch := omega) only [↓Pg0 h, ↓Pg1 h, ↓Pg2 h, ↓Pg3 h, ↓Pv h, Pa1 h, Pu1 h, Pa2 h, Pu2 h, Pa3 h, Pu3 h, Pa4 h, Pu4 h]
      rw [X7_put h hk' ha hb]; rfl
    · rw [if_neg (by omega), if_neg g]
      simp (disch := omega) only [↓Pg0 h, ↓Pg1 h, ↓Pg2 h, ↓Pg3 h, ↓Pv h, Pa1 h, Pu1 h, Pa2 h, Pu2 h, Pa3 h, Pu3 h, Pa4 h, Pu4 h, Int.toNat_natCast, e3]
      rw [X7_put h hk' ha hb]; rfl
  have j32 : ∀ a : Int, (a = 0 ∨ a = 1) → m_X7_take_j32 (z + p) (hp S z M) (jI k) (jI i) (jI a) (jI k) (z + p) = some ((), hp S z (sA (sA (sA M (p + 3) k a) (p + 4) k (if i = 1 then 0 else E (3 * k + 1))) (p + 2) k (if i = 2 then 0 else E (3 * k + 2)))) := by
    intro a ha
    unfold m_X7_take_j32
    simp (disch := omega) only [ji1, ji2, ji3, ji4, ji5, ji6, ji7, ji8, ji9, ji10, ji11, ji12, ji13, ji14, ji15, ji16, ji19, ji20, ji24, ji31, ji32, ji39, ji45, ji48, ji57, ji58, ji59, ji60, ji97, ji100, ji119, ji120, ji122, ji144, ji200, ji226, ji240, ji255, ji300, ji366, ji400, ji500, ji1000, jI_z, ↓jI_m1, jI_add, jI_sub, jI_mul, ↓jm1000, ↓jm100, ↓jm10, ↓jm9, ji50, ji65280, ji1664525, ji252645135, ji858993459, ji1013904223, ji1431655765, ji2147483639, ji2147483647, jI_eq]
    by_cases g : i = 1
    · rw [if_pos (by omega), if_pos g]; exact j51 a 0 ha (Or.inl rfl)
    · rw [if_neg (by omega), if_neg g]
      simp (disch := omega) only [↓Pg0 h, ↓Pg1 h, ↓Pg2 h, ↓Pg3 h, ↓Pv h, Pa1 h, Pu1 h, Pa2 h, Pu2 h, Pa3 h, Pu3 h, Pa4 h, Pu4 h, Int.toNat_natCast, e2, jI_eq]
      by_cases g2 : E (3 * k + 1) = 0
      · rw [if_pos g2, g2]; exact j51 a 0 ha (Or.inl rfl)
      · rw [if_neg g2, show E (3 * k + 1) = 1 from by omega]; exact j51 a 1 ha (Or.inr rfl)
  refine ⟨sA (sA (sA M (p + 3) k (if i = 0 then 0 else E (3 * k))) (p + 4) k (if i = 1 then 0 else E (3 * k + 1))) (p + 2) k (if i = 2 then 0 else E (3 * k + 2)), ?_, (PE_put hP hk').cg ?_, Fr_put, fun _ => rfl⟩
  · unfold m_X7_take
    simp (disch := omega) only [ji1, ji2, ji3, ji4, ji5, ji6, ji7, ji8, ji9, ji10, ji11, ji12, ji13, ji14, ji15, ji16, ji19, ji20, ji24, ji31, ji32, ji39, ji45, ji48, ji57, ji58, ji59, ji60, ji97, ji100, ji119, ji120, ji122, ji144, ji200, ji226, ji240, ji255, ji300, ji366, ji400, ji500, ji1000, jI_z, ↓jI_m1, jI_add, jI_sub, jI_mul, ↓jm1000, ↓jm100, ↓jm10, ↓jm9, ji50, ji65280, ji1664525, ji252645135, ji858993459, ji1013904223, ji1431655765, ji2147483639, ji2147483647, mo_dv_j, mo_rm_j, q1, q2, jI_eq]
    by_cases g : i = 0
    · rw [if_pos (by omega), if_pos g]; exact j32 0 (Or.inl rfl)
    · rw [if_neg (by omega), if_neg g]
      simp (disch := omega) only [↓Pg0 h, ↓Pg1 h, ↓Pg2 h, ↓Pg3 h, ↓Pv h, Pa1 h, Pu1 h, Pa2 h, Pu2 h, Pa3 h, Pu3 h, Pa4 h, Pu4 h, Int.toNat_natCast, e1, jI_eq]
      by_cases g2 : E (3 * k) = 0
      · rw [if_pos g2, g2]; exact j32 0 (Or.inl rfl)
      · rw [if_neg g2, show E (3 * k) = 1 from by omega]; exact j32 1 (Or.inr rfl)
  · intro x hx
    unfold p3 pt
    by_cases x2 : x = 3 * k + 2
    · rw [if_pos x2, x2]
      by_cases g : i = 2
      · rw [if_pos g, if_pos (by omega)]
      · rw [if_neg g, if_neg (by omega)]
    · rw [if_neg x2]
      by_cases x1 : x = 3 * k + 1
      · rw [if_pos x1, x1]
        by_cases g : i = 1
        · rw [if_pos g, if_pos (by omega)]
        · rw [if_neg g, if_neg (by omega)]
      · rw [if_neg x1]
        by_cases x0 : x = 3 * k
        · rw [if_pos x0, x0]
          by_cases g : i = 0
          · rw [if_pos g, if_pos (by omega)]
          · rw [if_neg g, if_neg (by omega)]
        · rw [if_neg x0, if_neg (by omega)]

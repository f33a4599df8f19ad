variable {S : hSh}
/-! THE LAW'S PLANS. -/
def PE (M : hM) (p : Nat) (o E : Nat → Int) : Prop := (∀ k, k < 8 → gA M (p + 1) k = o k) ∧ ∀ k, k < 120 → gA M (p + 3) k = E (3 * k) ∧ gA M (p + 4) k = E (3 * k + 1) ∧ gA M (p + 2) k = E (3 * k + 2)
theorem PE.keep {M M' : hM} {p lo hi : Nat} {o E : Nat → Int} (h : PE M p o E) (hf : Fr lo hi M M') (hd : p + 5 ≤ lo ∨ hi ≤ p) : PE M' p o E :=
  ⟨fun k hk => by rw [(hf (p + 1) (by omega)).2]; exact h.1 k hk, fun k hk => by rw [(hf (p + 3) (by omega)).2, (hf (p + 4) (by omega)).2, (hf (p + 2) (by omega)).2]; exact h.2 k hk⟩
theorem PE.cg {M : hM} {p : Nat} {o E E' : Nat → Int} (h : PE M p o E) (e : ∀ j, j < 360 → E' j = E j) : PE M p o E' :=
  ⟨h.1, fun k hk => by rw [e _ (by omega), e _ (by omega), e _ (by omega)]; exact h.2 k hk⟩
theorem sJ {α : Type} {a b : Int} {σ : α} (h : a = b) : some (jI a, σ) = some (jI b, σ) := by rw [h]
theorem X7_put {z p k : Nat} {M : hM} {a b v : Int} (h : isP S p) (hk : k < 120) (ha : a = 0 ∨ a = 1) (hb : b = 0 ∨ b = 1) :
    m_X7_put (hp S z M) (z + p) (jI k) (jI a) (jI b) (jI v) = some ((), hp S z (sA (sA (sA M (p + 3) k a) (p + 4) k b) (p + 2) k v)) := by
  unfold m_X7_put
  simp (disch := omega) only [↓Pg0 h, ↓Pg1 h, ↓Pg2 h, ↓Pg3 h, ↓Pv h, Pa1 h, Pu1 h, Pa2 h, Pu2 h, Pa3 h, Pu3 h, Pa4 h, Pu4 h, nar_z ha, nar_z hb, Int.toNat_natCast]
def p3 (E : Nat → Int) (k : Nat) (a b v : Int) : Nat → Int := pt (pt (pt E (3 * k) a) (3 * k + 1) b) (3 * k + 2) v
theorem PE_put {M : hM} {p k : Nat} {o E : Nat → Int} {a b v : Int} (h : PE M p o E) (hk : k < 120) : PE (sA (sA (sA M (p + 3) k a) (p + 4) k b) (p + 2) k v) p o (p3 E k a b v) := by
  refine ⟨fun j hj => ?_, fun j hj => ?_⟩
  · rw [gA_ne (by omega), gA_ne (by omega), gA_ne (by omega)]; exact h.1 j hj
  · obtain ⟨h1, h2, h3⟩ := h.2 j hj
    unfold p3
    by_cases e : j = k
    · subst e
      refine ⟨?_, ?_, ?_⟩
      · rw [gA_ne (by omega), gA_ne (by omega), gA_eq, pt_n (by omega), pt_n (by omega), pt_j]
      · rw [gA_ne (by omega), gA_eq, pt_n (by omega), pt_j]
      · rw [gA_eq, pt_j]
    · refine ⟨?_, ?_, ?_⟩
      · rw [gA_ne (by omega), gA_ne (by omega), gA_ne (by omega), pt_n (by omega), pt_n (by omega), pt_n (by omega), h1]
      · rw [gA_ne (by omega), gA_ne (by omega), gA_ne (by omega), pt_n (by omega), pt_n (by omega), pt_n (by omega), h2]
      · rw [gA_ne (by omega), gA_ne (by omega), gA_ne (by omega), pt_n (by omega), pt_n (by omega), pt_n (by omega), h3]
theorem Fr_put {M : hM} {p k : Nat} {a b v : Int} : Fr p (p + 5) M (sA (sA (sA M (p + 3) k a) (p + 4) k b) (p + 2) k v) := ((Fr.sA (by omega)).trans (Fr.sA (by omega))).trans (Fr.sA (by omega))
theorem fl_3 {E : Nat → Int} {d k : Nat} : fl E (3 * (d + 1)) (3 * k) = fl E 3 (3 * k) ++ fl E (3 * d) (3 * (k + 1)) := by
  rw [show 3 * (d + 1) = 3 + 3 * d from by omega, fl_add, show 3 * k + 3 = 3 * (k + 1) from by omega]
theorem X7_many_l {z p : Nat} {M : hM} {o E : Nat → Int} (h : isP S p) (hP : PE M p o E) (hE : eOK E) : ∀ (d k f : Nat) (v : Int), k + d = 120 → d < f →
    m_X7_many_l4 (z + p) f (hp S z M) (jI v) (jI k) = some (jI (v + ((fl E (3 * d) (3 * k)).length : Nat)), hp S z M) := by
  intro d
  induction d with
  | zero =>
    intro k f v hk hf
    obtain ⟨f, rfl⟩ : ∃ g, f = g + 1 := ⟨f - 1, by omega⟩
    have g : ¬ (k : Int) < 120 := by omega
    unfold m_X7_many_l4
    simp (disch := omega) only [ji1, ji2, ji3, ji4, ji5, ji6, ji7, ji8, ji9, ji10, ji11, ji12, ji13, ji14, ji15, ji16, ji19, ji20, ji24, ji31, ji32, ji39, ji45, ji48, ji57, ji58, ji59, ji60, ji97, ji100, ji119, ji120, ji122, ji144, ji200, ji226, ji240, ji255, ji300, ji366, ji400, ji500, ji1000, jI_z, ↓jI_m1, jI_add, jI_sub, jI_mul, ↓jm1000, ↓jm100, ↓jm10, ↓jm9, ji50, ji65280, ji1664525, ji252645135, ji858993459, ji1013904223, ji1431655765, ji2147483639, ji2147483647, jI_lt, g, if_false]
    exact sJ (by simp [fl])
  | succ d ih =>
    intro k f v hk hf
    obtain ⟨f, rfl⟩ : ∃ g, f = g + 1 := ⟨f - 1, by omega⟩
    have g : (k : Int) < 120 := by omega
    have ek : (k : Int) + 1 = ((k + 1 : Nat) : Int) := by omega
    obtain ⟨h1, h2, h3⟩ := hP.2 k (by omega)
    obtain ⟨b0, b1, b2⟩ := hE (3 * k) (by omega)
    obtain ⟨c0, c1, c2⟩ := hE (3 * k + 1) (by omega)
    obtain ⟨d0, d1, d2⟩ := hE (3 * k + 2) (by omega)
    unfold m_X7_many_l4
    simp (disch := omega) only [ji1, ji2, ji3, ji4, ji5, ji6, ji7, ji8, ji9, ji10, ji11, ji12, ji13, ji14, ji15, ji16, ji19, ji20, ji24, ji31, ji32, ji39, ji45, ji48, ji57, ji58, ji59, ji60, ji97, ji100, ji119, ji120, ji122, ji144, ji200, ji226, ji240, ji255, ji300, ji366, ji400, ji500, ji1000, jI_z, ↓jI_m1, jI_add, jI_sub, jI_mul, ↓jm1000, ↓jm100, ↓jm10, ↓jm9, ji50, ji65280, ji1664525, ji252645135, ji858993459, ji1013904223, ji1431655765, ji2147483639, ji2147483647, jI_lt, g, if_true, ↓Pg0 h, ↓Pg1 h, ↓Pg2 h, ↓Pg3 h, ↓Pv h, Pa1 h, Pu1 h, Pa2 h, Pu2 h, Pa3 h, Pu3 h, Pa4 h, Pu4 h, Int.toNat_natCast, h1, jI_eq]
    rw [fl_3]
    by_cases g1 : E (3 * k) = 0 <;> by_cases g2 : E (3 * k + 1) = 0 <;> by_cases g3 : E (3 * k + 2) = 0
    · have g4 : ¬ 0 < E (3 * k + 2) := by omega
      simp (disch := omega) only [ji1, ji2, ji3, ji4, ji5, ji6, ji7, ji8, ji9, ji10, ji11, ji12, ji13, ji14, ji15, ji16, ji19, ji20, ji24, ji31, ji32, ji39, ji45, ji48, ji57, ji58, ji59, ji60, ji97, ji100, ji119, ji120, ji122, ji144, ji200, ji226, ji240, ji255, ji300, ji366, ji400, ji500, ji1000, jI_z, ↓jI_m1, jI_add, jI_sub, jI_mul, ↓jm1000, ↓jm100, ↓jm10, ↓jm9, ji50, ji65280, ji1664525, ji252645135, ji858993459, ji1013904223, ji1431655765, ji2147483639, ji2147483647, m_X7_many_j25, m_X7_many_j39, jI_lt, if_true, if_false, ↓Pg0 h, ↓Pg1 h, ↓Pg2 h, ↓Pg3 h, ↓Pv h, Pa1 h, Pu1 h, Pa2 h, Pu2 h, Pa3 h, Pu3 h, Pa4 h, Pu4 h, Int.toNat_natCast, h2, h3, jI_eq, g1, g2, g4, ek, fl]
      rw [ih (k + 1) f _ (by omega) (by omega)]
      exact sJ (by first | (simp [g3]; done) | (simp [g3]; omega))
    · have g4 : 0 < E (3 * k + 2) := by omega
      simp (disch := omega) only [ji1, ji2, ji3, ji4, ji5, ji6, ji7, ji8, ji9, ji10, ji11, ji12, ji13, ji14, ji15, ji16, ji19, ji20, ji24, ji31, ji32, ji39, ji45, ji48, ji57, ji58, ji59, ji60, ji97, ji100, ji119, ji120, ji122, ji144, ji200, ji226, ji240, ji255, ji300, ji366, ji400, ji500, ji1000, jI_z, ↓jI_m1, jI_add, jI_sub, jI_mul, ↓jm1000, ↓jm100, ↓jm10, ↓jm9, ji50, ji65280, ji1664525, ji252645135, ji858993459, ji1013904223, ji1431655765, ji2147483639, ji2147483647, m_X7_many_j25, m_X7_many_j39, jI_lt, if_true, if_false, ↓Pg0 h, ↓Pg1 h, ↓Pg2 h, ↓Pg3 h, ↓Pv h, Pa1 h, Pu1 h, Pa2 h, Pu2 h, Pa3 h, Pu3 h, Pa4 h, Pu4 h, Int.toNat_natCast, h2, h3, jI_eq, g1, g2, g4, ek, fl]
      rw [ih (k + 1) f _ (by omega) (by omega)]
      exact sJ (by first | (simp [g3]; done) | (simp [g3]; omega))
    · have g4 : ¬ 0 < E (3 * k + 2) := by omega
      simp (disch := omega) only [ji1, ji2, ji3, ji4, ji5, ji6, ji7, ji8, ji9, ji10, ji11, ji12, ji13, ji14, ji15, ji16, ji19, ji20, ji24, ji31, ji32, ji39, ji45, ji48, ji57, ji58, ji59, ji60, ji97, ji100, ji119, ji120, ji122, ji144, ji200, ji226, ji240, ji255, ji300, ji366, ji400, ji500, ji1000, jI_z, ↓jI_m1, jI_add, jI_sub, jI_mul, ↓jm1000, ↓jm100, ↓jm10, ↓jm9, ji50, ji65280, ji1664525, ji252645135, ji858993459, ji1013904223, ji1431655765, ji2147483639, ji2147483647, m_X7_many_j25, m_X7_many_j39, jI_lt, if_true, if_false, ↓Pg0 h, ↓Pg1 h, ↓Pg2 h, ↓Pg3 h, ↓Pv h, Pa1 h, Pu1 h, Pa2 h, Pu2 h, Pa3 h, Pu3 h, Pa4 h, Pu4 h, Int.toNat_natCast, h2, h3, jI_eq, g1, g2, g4, ek, fl]
      rw [ih (k + 1) f _ (by omega) (by omega)]
      exact sJ (by first | (simp [g3]; done) | (simp [g3]; omega))
    · have g4 : 0 < E (3 * k + 2) := by omega
      simp (disch := omega) only [ji1, ji2, ji3, ji4, ji5, ji6, ji7, ji8, ji9, ji10, ji11, ji12, ji13, ji14, ji15, ji16, ji19, ji20, ji24, ji31, ji32, ji39, ji45, ji48, ji57, ji58, ji59, ji60, ji97, ji100, ji119, ji120, ji122, ji144, ji200, ji226, ji240, ji255, ji300, ji366, ji400, ji500, ji1000, jI_z, ↓jI_m1, jI_add, jI_sub, jI_mul, ↓jm1000, ↓jm100, ↓jm10, ↓jm9, ji50, ji65280, ji1664525, ji252645135, ji858993459, ji1013904223, ji1431655765, ji2147483639, ji2147483647, m_X7_many_j25, m_X7_many_j39, jI_lt, if_true, if_false, ↓Pg0 h, ↓Pg1 h, ↓Pg2 h, ↓Pg3 h, ↓Pv h, Pa1 h, Pu1 h, Pa2 h, Pu2 h, Pa3 h, Pu3 h, Pa4 h, Pu4 h, Int.toNat_natCast, h2, h3, jI_eq, g1, g2, g4, ek, fl]
      rw [ih (k + 1) f _ (by omega) (by omega)]
      exact sJ (by first | (simp [g3]; done) | (simp [g3]; omega))
    · have g4 : ¬ 0 < E (3 * k + 2) := by omega
      simp (disch := omega) only [ji1, ji2, ji3, ji4, ji5, ji6, ji7, ji8, ji9, ji10, ji11, ji12, ji13, ji14, ji15, ji16, ji19, ji20, ji24, ji31, ji32, ji39, ji45, ji48, ji57, ji58, ji59, ji60, ji97, ji100, ji119, ji120, ji122, ji144, ji200, ji226, ji240, ji255, ji300, ji366, ji400, ji500, ji1000, jI_z, ↓jI_m1, jI_add, jI_sub, jI_mul, ↓jm1000, ↓jm100, ↓jm10, ↓jm9, ji50, ji65280, ji1664525, ji252645135, ji858993459, ji1013904223, ji1431655765, ji2147483639, ji2147483647, m_X7_many_j25, m_X7_many_j39, jI_lt, if_true, if_false, ↓Pg0 h, ↓Pg1 h, ↓Pg2 h, ↓Pg3 h, ↓Pv h, Pa1 h, Pu1 h, Pa2 h, Pu2 h, Pa3 h, Pu3 h, Pa4 h, Pu4 h, Int.toNat_natCast, h2, h3, jI_eq, g1, g2, g4, ek, fl]
      rw [ih (k + 1) f _ (by omega) (by omega)]
      exact sJ (by first | (simp [g3]; done) | (simp [g3]; omega))
    · have g4 : 0 < E (3 * k + 2) := by omega
      simp (disch := omega) only [ji1, ji2, ji3, ji4, ji5, ji6, ji7, ji8, ji9, ji10, ji11, ji12, ji13, ji14, ji15, ji16, ji19, ji20, ji24, ji31, ji32, ji39, ji45, ji48, ji57, ji58, ji59, ji60, ji97, ji100, ji119, ji120, ji122, ji144, ji200, ji226, ji240, ji255, ji300, ji366, ji400, ji500, ji1000, jI_z, ↓jI_m1, jI_add, jI_sub, jI_mul, ↓jm1000, ↓jm100, ↓jm10, ↓jm9, ji50, ji65280, ji1664525, ji252645135, ji858993459, ji1013904223, ji1431655765, ji2147483639, ji2147483647, m_X7_many_j25, m_X7_many_j39, jI_lt, if_true, if_false, ↓Pg0 h, ↓Pg1 h, ↓Pg2 h, ↓Pg3 h, ↓Pv h, Pa1 h, Pu1 h, Pa2 h, Pu2 h, Pa3 h, Pu3 h, Pa4 h, Pu4 h, Int.toNat_natCast, h2, h3, jI_eq, g1, g2, g4, ek, fl]
      rw [ih (k + 1) f _ (by omega) (by omega)]
      exact sJ (by first | (simp [g3]; done) | (simp [g3]; omega))
    · have g4 : ¬ 0 < E (3 * k + 2) := by omega
      simp (disch := omega) only [ji1, ji2, ji3, ji4, ji5, ji6, ji7, ji8, ji9, ji10, ji11, ji12, ji13, ji14, ji15, ji16, ji19, ji20, ji24, ji31, ji32, ji39, ji45, ji48, ji57, ji58, ji59, ji60, ji97, ji100, ji119, ji120, ji122, ji144, ji200, ji226, ji240, ji255, ji300, ji366, ji400, ji500, ji1000, jI_z, ↓jI_m1, jI_add, jI_sub, jI_mul, ↓jm1000, ↓jm100, ↓jm10, ↓jm9, ji50, ji65280, ji1664525, ji252645135, ji858993459, ji1013904223, ji1431655765, ji2147483639, ji2147483647, m_X7_many_j25, m_X7_many_j39, jI_lt, if_true, if_false, ↓Pg0 h, ↓Pg1 h, ↓Pg2 h, ↓Pg3 h, ↓Pv h, Pa1 h, Pu1 h, Pa2 h, Pu2 h, Pa3 h, Pu3 h, Pa4 h, Pu4 h, Int.toNat_natCast, h2, h3, jI_eq, g1, g2, g4, ek, fl]
      rw [ih (k + 1) f _ (by omega) (by omega)]
      exact sJ (by first | (simp [g3]; done) | (simp [g3]; omega))
    · have g4 : 0 < E (3 * k + 2) := by omega
      simp (disch := omega) only [ji1, ji2, ji3, ji4, ji5, ji6, ji7, ji8, ji9, ji10, ji11, ji12, ji13, ji14, ji15, ji16, ji19, ji20, ji24, ji31, ji32, ji39, ji45, ji48, ji57, ji58, ji59, ji60, ji97, ji100, ji119, ji120, ji122, ji144, ji200, ji226, ji240, ji255, ji300, ji366, ji400, ji500, ji1000, jI_z, ↓jI_m1, jI_add, jI_sub, jI_mul, ↓jm1000, ↓jm100, ↓jm10, ↓jm9, ji50, ji65280, ji1664525, ji252645135, ji858993459, ji1013904223, ji1431655765, ji2147483639, ji2147483647, m_X7_many_j25, m_X7_many_j39, jI_lt, if_true, if_false, ↓Pg0 h, ↓Pg1 h, ↓Pg2 h, ↓Pg3 h, ↓Pv h, Pa1 h, Pu1 h, Pa2 h, Pu2 h, Pa3 h, Pu3 h, Pa4 h, Pu4 h, Int.toNat_natCast, h2, h3, jI_eq, g1, g2, g4, ek, fl]
      rw [ih (k + 1) f _ (by omega) (by omega)]
      exact sJ (by first | (simp [g3]; done) | (simp [g3]; omega))
theorem X7_many {z p : Nat} {M : hM} {o E : Nat → Int} (h : isP S p) (hP : PE M p o E) (hE : eOK E) : m_X7_many (hp S z M) (z + p) = some (jI ((fl E 360 0).length : Nat), hp S z M) := by
  unfold m_X7_many
  have := X7_many_l (z := z) h hP hE 120 0 hN_f 0 (by omega) (by unfold hN_f; omega)
  simp only [Int.zero_add] at this
  exact this
/-- the fault at a place, as 1000 times its transmission, and its kind -/
def ftV (l : List hF) (f : Nat) : Int := match l[f]? with
  | some x => 1000 * x.2.1 + x.1
  | none => -1
theorem X7_fk {z p k f : Nat} {M : hM} {o E : Nat → Int} {K4 : ac_H → Int32 → Int32 → Option (Int32 × ac_H)} {left : Int} (h : isP S p) (hP : PE M p o E) (hE : eOK E) (hk : k < 120) (h0 : 0 ≤ left) (h1 : left < 400) : ∀ i : Nat, i < 3 →
    m_X7_fault_l13 K4 (z + p) (f + 1) (hp S z M) (jI left) (jI k) (jI i) = if E (3 * k + i) = 0 then m_X7_fault_l13 K4 (z + p) f (hp S z M) (jI left) (jI k) (jI ((i + 1 : Nat) : Int)) else if left = 0 then some (jI (1000 * k + i), hp S z M) else m_X7_fault_l13 K4 (z + p) f (hp S z M) (jI (left - 1)) (jI k) (jI ((i + 1 : Nat) : Int)) := by
  obtain ⟨e1, e2, e3⟩ := hP.2 k (by omega)
  obtain ⟨b0, b1, b2⟩ := hE (3 * k) (by omega)
  obtain ⟨c0, c1, c2⟩ := hE (3 * k + 1) (by omega)
  obtain ⟨d0, d1, d2⟩ := hE (3 * k + 2) (by omega)
  intro i hi
  have em : left + (-1) = left - 1 := by omega
  rcases (show i = 0 ∨ i = 1 ∨ i = 2 by omega) with rfl | rfl | rfl
  · conv => lhs; unfold m_X7_fault_l13
    simp (disch := omega) only [ji1, ji2, ji3, ji4, ji5, ji6, ji7, ji8, ji9, ji10, ji11, ji12, ji13, ji14, ji15, ji16, ji19, ji20, ji24, ji31, ji32, ji39, ji45, ji48, ji57, ji58, ji59, ji60, ji97, ji100, ji119, ji120, ji122, ji144, ji200, ji226, ji240, ji255, ji300, ji366, ji400, ji500, ji1000, jI_z, ↓jI_m1, jI_add, jI_sub, jI_mul, ↓jm1000, ↓jm100, ↓jm10, ↓jm9, ji50, ji65280, ji1664525, ji252645135, ji858993459, ji1013904223, ji1431655765, ji2147483639, ji2147483647, jI_lt, jI_eq, show ((0 : Nat) : Int) = 0 from rfl, show (0 : Int) < 3 from by omega, if_true, if_false, ↓Pg0 h, ↓Pg1 h, ↓Pg2 h, ↓Pg3 h, ↓Pv h, Pa1 h, Pu1 h, Pa2 h, Pu2 h, Pa3 h, Pu3 h, Pa4 h, Pu4 h, Int.toNat_natCast, e1, m_X7_fault_j62, em, show (0 : Int) + 1 = ((0 + 1 : Nat) : Int) from rfl, Nat.add_zero]
  · conv => lhs; unfold m_X7_fault_l13
    simp (disch := omega) only [ji1, ji2, ji3, ji4, ji5, ji6, ji7, ji8, ji9, ji10, ji11, ji12, ji13, ji14, ji15, ji16, ji19, ji20, ji24, ji31, ji32, ji39, ji45, ji48, ji57, ji58, ji59, ji60, ji97, ji100, ji119, ji120, ji122, ji144, ji200, ji226, ji240, ji255, ji300, ji366, ji400, ji500, ji1000, jI_z, ↓jI_m1, jI_add, jI_sub, jI_mul, ↓jm1000, ↓jm100, ↓jm10, ↓jm9, ji50, ji65280, ji1664525, ji252645135, ji858993459, ji1013904223, ji1431655765, ji2147483639, ji2147483647, jI_lt, jI_eq, show ((1 : Nat) : Int) = 1 from rfl, show (1 : Int) < 3 from by omega, show ¬ (1 : Int) = 0 by omega, if_true, if_false, ↓Pg0 h, ↓Pg1 h, ↓Pg2 h, ↓Pg3 h, ↓Pv h, Pa1 h, Pu1 h, Pa2 h, Pu2 h, Pa3 h, Pu3 h, Pa4 h, Pu4 h, Int.toNat_natCast, e2, m_X7_fault_j62, em, show (1 : Int) + 1 = ((1 + 1 : Nat) : Int) from rfl]
  · conv => lhs; unfold m_X7_fault_l13
    simp (disch := omega) only [ji1, ji2, ji3, ji4, ji5, ji6, ji7, ji8, ji9, ji10, ji11, ji12, ji13, ji14, ji15, ji16, ji19, ji20, ji24, ji31, ji32, ji39, ji45, ji48, ji57, ji58, ji59, ji60, ji97, ji100, ji119, ji120, ji122, ji144, ji200, ji226, ji240, ji255, ji300, ji366, ji400, ji500, ji1000, jI_z, ↓jI_m1, jI_add, jI_sub, jI_mul, ↓jm1000, ↓jm100, ↓jm10, ↓jm9, ji50, ji65280, ji1664525, ji252645135, ji858993459, ji1013904223, ji1431655765, ji2147483639, ji2147483647, jI_lt, jI_eq, show ((2 : Nat) : Int) = 2 from rfl, show (2 : Int) < 3 from by omega, show ¬ (2 : Int) = 0 by omega, show ¬ (2 : Int) = 1 by omega, if_true, if_false, ↓Pg0 h, ↓Pg1 h, ↓Pg2 h, ↓Pg3 h, ↓Pv h, Pa1 h, Pu1 h, Pa2 h, Pu2 h, Pa3 h, Pu3 h, Pa4 h, Pu4 h, Int.toNat_natCast, e3, m_X7_fault_j62, em, show (2 : Int) + 1 = ((2 + 1 : Nat) : Int) from rfl]
    by_cases g : E (3 * k + 2) = 0
    · rw [if_neg (by omega), if_pos g]
    · rw [if_pos (by omega), if_neg g, if_neg (by decide)]

variable {S : hSh}
/-! .. copies and parts of plans. -/
theorem X7_copy_l {z p n : Nat} {o E : Nat → Int} (h : isP S p) (h' : isP S n) (hpn : p + 5 ≤ n) (hE : eOK E) : ∀ (d k f : Nat) (M : hM) (E1 : Nat → Int), k + d = 120 → d < f → PE M p o E → PE M n o E1 → (∀ j, j < 3 * k → E1 j = E j) →
    ∃ M', m_X7_copy_l25 (z + p) f (hp S z M) (z + (n + 5)) (z + n) (jI k) = some ((z + n, z + (n + 5)), hp S z M') ∧ PE M' n o E ∧ Fr n (n + 5) M M' ∧ Vr M M' := by
  intro d
  induction d with
  | zero =>
    intro k f M E1 hk hf hP hP1 he
    obtain ⟨f, rfl⟩ : ∃ g, f = g + 1 := ⟨f - 1, by omega⟩
    have g : ¬ (k : Int) < 120 := by omega
    refine ⟨M, ?_, hP1.cg (fun j hj => (he j (by omega)).symm), Fr.rfl', Vr.rfl'⟩
    unfold m_X7_copy_l25
    simp (disch := omega) only [ji1, ji2, ji3, ji4, ji5, ji6, ji7, ji8, ji9, ji10, ji11, ji12, ji13, ji14, ji15, ji16, ji19, ji20, ji24, ji31, ji32, ji39, ji45, ji48, ji57, ji58, ji59, ji60, ji97, ji100, ji119, ji120, ji122, ji144, ji200, ji226, ji240, ji255, ji300, ji366, ji400, ji500, ji1000, jI_z, ↓jI_m1, jI_add, jI_sub, jI_mul, ↓jm1000, ↓jm100, ↓jm10, ↓jm9, ji50, ji65280, ji1664525, ji252645135, ji858993459, ji1013904223, ji1431655765, ji2147483639, ji2147483647, jI_lt, g, if_false]
  | succ d ih =>
    intro k f M E1 hk hf hP hP1 he
    obtain ⟨f, rfl⟩ : ∃ g, f = g + 1 := ⟨f - 1, by omega⟩
    have g : (k : Int) < 120 := by omega
    have ek : (k : Int) + 1 = ((k + 1 : Nat) : Int) := by omega
    obtain ⟨e1, e2, e3⟩ := hP.2 k (by omega)
    obtain ⟨b0, b1, b2⟩ := hE (3 * k) (by omega)
    obtain ⟨c0, c1, c2⟩ := hE (3 * k + 1) (by omega)
    have b2 := b2 (by omega)
    have c2 := c2 (by omega)
    have hfr := Fr_put (M := M) (p := n) (k := k) (a := E (3 * k)) (b := E (3 * k + 1)) (v := E (3 * k + 2))
    obtain ⟨M', r1, r2, r3, r4⟩ := ih (k + 1) f _ _ (by omega) (by omega) (hP.keep hfr (by omega)) (PE_put (a := E (3 * k)) (b := E (3 * k + 1)) (v := E (3 * k + 2)) hP1 (by omega)) (by
      intro j hj
      unfold p3 pt
      by_cases x2 : j = 3 * k + 2
      · rw [if_pos x2, x2]
      · rw [if_neg x2]
        by_cases x1 : j = 3 * k + 1
        · rw [if_pos x1, x1]
        · rw [if_neg x1]
          by_cases x0 : j = 3 * k
          · rw [if_pos x0, x0]
          · rw [if_neg x0]; exact he j (by omega))
    refine ⟨M', ?_, r2, hfr.trans r3, r4⟩
    unfold m_X7_copy_l25
    simp (disch := omega) only [ji1, ji2, ji3, ji4, ji5, ji6, ji7, ji8, ji9, ji10, ji11, ji12, ji13, ji14, ji15, ji16, ji19, ji20, ji24, ji31, ji32, ji39, ji45, ji48, ji57, ji58, ji59, ji60, ji97, ji100, ji119, ji120, ji122, ji144, ji200, ji226, ji240, ji255, ji300, ji366, ji400, ji500, ji1000, jI_z, ↓jI_m1, jI_add, jI_sub, jI_mul, ↓jm1000, ↓jm100, ↓jm10, ↓jm9, ji50, ji65280, ji1664525, ji252645135, ji858993459, ji1013904223, ji1431655765, ji2147483639, ji2147483647, jI_lt, g, if_true, ↓Pg0 h, ↓Pg1 h, ↓Pg2 h, ↓Pg3 h, ↓Pv h, Pa1 h, Pu1 h, Pa2 h, Pu2 h, Pa3 h, Pu3 h, Pa4 h, Pu4 h, Int.toNat_natCast, e1, e2, e3, ↓Pv h']
    rw [X7_put h' (by omega) (by omega) (by omega)]
    simp only [↓mo_cs_s, ji1, ji2, ji3, ji4, ji5, ji6, ji7, ji8, ji9, ji10, ji11, ji12, ji13, ji14, ji15, ji16, ji19, ji20, ji24, ji31, ji32, ji39, ji45, ji48, ji57, ji58, ji59, ji60, ji97, ji100, ji119, ji120, ji122, ji144, ji200, ji226, ji240, ji255, ji300, ji366, ji400, ji500, ji1000, jI_z, ↓jI_m1, jI_add, jI_sub, jI_mul, ↓jm1000, ↓jm100, ↓jm10, ↓jm9, ji50, ji65280, ji1664525, ji252645135, ji858993459, ji1013904223, ji1431655765, ji2147483639, ji2147483647, ek]
    exact r1
theorem X7_copy {z p n : Nat} {M : hM} {o E : Nat → Int} (h : isP S p) (hpn : p + 5 ≤ n) (hn : 133 ≤ n) (hE : eOK E) (hP : PE M p o E) :
    ∃ S' M', m_X7_copy (hp S z M) (z + p) (z + n) = some ((z + n, z + (n + 5)), hp S' z M') ∧ isP S' n ∧ SK n S S' ∧ Fr n (n + 5) M M' ∧ Vr M M' ∧ PE M' n o E := by
  obtain ⟨S', M1, a1, a2, a3, a4, a5, a6⟩ := X7_new (S := S) (z := z) (M := M) hn
  have h1 := h.sk a3 hpn
  have hP1 := hP.keep a4 (by omega)
  have hfr : Fr n (n + 5) M1 (cM M1 (p + 1) (n + 1) 8) := fun b hb => ⟨fun _ => rfl, fun k => by rw [gA_cM, if_neg (by omega)]⟩
  obtain ⟨M', r1, r2, r3, r4⟩ := X7_copy_l (z := z) h1 a2 hpn hE 120 0 hN_f (cM M1 (p + 1) (n + 1) 8) (fun _ => 0) (by omega) (by unfold hN_f; omega) (hP1.keep hfr (by omega))
    ⟨fun k hk => by rw [gA_cM, if_pos ⟨rfl, hk⟩]; exact hP1.1 k hk, fun k hk => by rw [gA_cM, if_neg (by omega), gA_cM, if_neg (by omega), gA_cM, if_neg (by omega)]; exact a6.2 k hk⟩ (fun j hj => by omega)
  refine ⟨S', M', ?_, a2, a3, (a4.trans hfr).trans r3, (a5.trans (fun _ => rfl)).trans r4, r2⟩
  unfold m_X7_copy
  rw [a1]
  simp (disch := omega) only [↓mo_cs_s, ↓Pg0 h1, ↓Pg0 a2]
  rw [show (0 : Int32) = jI 0 from rfl, show (8 : Int32) = jI ((8 : Nat) : Int) from rfl, hl_cp h1.2.2.1 a2.2.2.1 rfl (Nat.le_refl _) (Nat.le_refl _) (by omega)]
  exact r1
def qE (E : Nat → Int) (b : Nat → Bool) (v : Nat) : Nat → Int := fun j => if v ≤ ix E j ∧ b (ix E j) = false then 0 else E j
theorem eOK_qE {E : Nat → Int} {b : Nat → Bool} {v : Nat} (h : eOK E) : eOK (qE E b v) := by
  intro j hj
  have := h j hj
  unfold qE; split
  · exact ⟨by omega, by omega, fun _ => by omega⟩
  · exact this
theorem qE_0 {E : Nat → Int} {b : Nat → Bool} : qE E b 0 = pE E b := by
  funext j
  unfold qE pE
  cases b (ix E j) <;> simp
theorem qE_n {E : Nat → Int} {b : Nat → Bool} {j : Nat} (hj : j < 360) : qE E b (fl E 360 0).length j = E j := by
  unfold qE
  by_cases h : E j = 0
  · split <;> simp [h]
  · have := ix_n hj h
    rw [if_neg (by omega)]
theorem X7_part_l {z p n m : Nat} {o E : Nat → Int} (h : isP S p) (h' : isP S n) (hpn : p + 5 ≤ n) (hE : eOK E) (hm : m < 2147483648) (hl : (fl E 360 0).length ≤ 30) : ∀ (v f : Nat) (M : hM), v ≤ (fl E 360 0).length → v < f → PE M p o E → PE M n o (qE E (fun i => m.testBit i) v) →
    ∃ M', m_X7_part_l12 (z + p) (jI m) f (hp S z M) (z + (n + 5)) (z + n) (jI ((v : Int) - 1)) = some ((z + n, z + (n + 5)), hp S z M') ∧ PE M' n o (pE E (fun i => m.testBit i)) ∧ Fr n (n + 5) M M' ∧ Vr M M' := by
  intro v
  induction v with
  | zero =>
    intro f M hv hf hP hP1
    obtain ⟨f, rfl⟩ : ∃ g, f = g + 1 := ⟨f - 1, by omega⟩
    rw [qE_0] at hP1
    refine ⟨M, ?_, hP1, Fr.rfl', Vr.rfl'⟩
    unfold m_X7_part_l12
    rw [if_pos (by decide)]
  | succ v ih =>
    intro f M hv hf hP hP1
    obtain ⟨f, rfl⟩ : ∃ g, f = g + 1 := ⟨f - 1, by omega⟩
    have ev : ((v + 1 : Nat) : Int) - 1 = v := by omega
    have ev2 : (v : Int) + (-1) = (v : Int) - 1 := by omega
    rw [ev]
    by_cases g : m.testBit v = true
    · obtain ⟨M', r1, r2, r3, r4⟩ := ih f M (by omega) (by omega) hP (hP1.cg (by
        intro j hj
        unfold qE
        by_cases e : ix E j = v
        · rw [e]; simp [g]
        · by_cases e2 : v + 1 ≤ ix E j
          · by_cases e3 : m.testBit (ix E j) = false
            · rw [if_pos ⟨by omega, e3⟩, if_pos ⟨e2, e3⟩]
            · rw [if_neg (fun x => e3 x.2), if_neg (fun x => e3 x.2)]
          · rw [if_neg (by omega), if_neg (by omega)]))
      refine ⟨M', ?_, r2, r3, r4⟩
      unfold m_X7_part_l12
      rw [if_neg (jI_nonneg (by omega) (by omega))]
      simp (disch := omega) only [ji1, ji2, ji3, ji4, ji5, ji6, ji7, ji8, ji9, ji10, ji11, ji12, ji13, ji14, ji15, ji16, ji19, ji20, ji24, ji31, ji32, ji39, ji45, ji48, ji57, ji58, ji59, ji60, ji97, ji100, ji119, ji120, ji122, ji144, ji200, ji226, ji240, ji255, ji300, ji366, ji400, ji500, ji1000, jI_z, ↓jI_m1, jI_add, jI_sub, jI_mul, ↓jm1000, ↓jm100, ↓jm10, ↓jm9, ji50, ji65280, ji1664525, ji252645135, ji858993459, ji1013904223, ji1431655765, ji2147483639, ji2147483647, jT, Int.toNat_natCast, g, if_true, jI_eq, show ¬ (1 : Int) = 0 by omega, if_false, ev2]
      exact r1
    · obtain ⟨j, j1, j2, j3, j4, j5⟩ := ftV_j (E := E) (f := v) (by omega)
      obtain ⟨M1, t1, t2, t3, t4⟩ := X7_take (z := z) h' hP1 (eOK_qE hE) j1
      obtain ⟨M', r1, r2, r3, r4⟩ := ih f M1 (by omega) (by omega) (hP.keep t3 (by omega)) (t2.cg (by
        intro i hi
        unfold pt
        by_cases e : i = j
        · rw [if_pos e, e]
          unfold qE
          rw [j3, if_pos ⟨Nat.le_refl _, by simpa using g⟩]
        · rw [if_neg e]
          by_cases hi0 : E i = 0
          · unfold qE; rw [hi0]; split <;> split <;> rfl
          · have hne : ix E i ≠ v := fun x => e (ix_u hi0 j2 (x.trans j3.symm))
            unfold qE
            by_cases e2 : v + 1 ≤ ix E i
            · by_cases e3 : m.testBit (ix E i) = false
              · rw [if_pos ⟨by omega, e3⟩, if_pos ⟨e2, e3⟩]
              · rw [if_neg (fun x => e3 x.2), if_neg (fun x => e3 x.2)]
            · rw [if_neg (by omega), if_neg (by omega)]))
      refine ⟨M', ?_, r2, t3.trans r3, t4.trans r4⟩
      unfold m_X7_part_l12
      rw [if_neg (jI_nonneg (by omega) (by omega))]
      simp (disch := omega) only [ji1, ji2, ji3, ji4, ji5, ji6, ji7, ji8, ji9, ji10, ji11, ji12, ji13, ji14, ji15, ji16, ji19, ji20, ji24, ji31, ji32, ji39, ji45, ji48, ji57, ji58, ji59, ji60, ji97, ji100, ji119, ji120, ji122, ji144, ji200, ji226, ji240, ji255, ji300, ji366, ji400, ji500, ji1000, jI_z, ↓jI_m1, jI_add, jI_sub, jI_mul, ↓jm1000, ↓jm100, ↓jm10, ↓jm9, ji50, ji65280, ji1664525, ji252645135, ji858993459, ji1013904223, ji1431655765, ji2147483639, ji2147483647, jT, Int.toNat_natCast, g, Bool.false_eq_true, if_false, if_true, ev2, ↓Pv h, ↓Pv h']
      rw [X7_fault h hP hE (by omega), j4]
      simp only [↓mo_cs_s, ↓Pv h']
      rw [t1]
      exact r1
theorem X7_part {z p n m : Nat} {M : hM} {o E : Nat → Int} (h : isP S p) (hpn : p + 5 ≤ n) (hn : 133 ≤ n) (hE : eOK E) (hP : PE M p o E) (hm : m < 2147483648) (hl : (fl E 360 0).length ≤ 30) :
    ∃ S' M', m_X7_part (hp S z M) (z + p) (jI m) (z + n) = some ((z + n, z + (n + 5)), hp S' z M') ∧ isP S' n ∧ SK n S S' ∧ Fr n (n + 5) M M' ∧ Vr M M' ∧ PE M' n o (pE E (fun i => m.testBit i)) := by
  obtain ⟨S', M1, a1, a2, a3, a4, a5, a6⟩ := X7_copy (S := S) (z := z) h hpn hn hE hP
  have h1 := h.sk a3 hpn
  have hP1 := hP.keep a4 (by omega)
  obtain ⟨M', r1, r2, r3, r4⟩ := X7_part_l (z := z) h1 a2 hpn hE hm hl (fl E 360 0).length hN_f M1 (Nat.le_refl _) (by unfold hN_f; omega) hP1 (a6.cg (fun j hj => qE_n hj))
  refine ⟨S', M', ?_, a2, a3, a4.trans r3, a5.trans r4, r2⟩
  unfold m_X7_part
  simp (disch := omega) only [↓Pv h]
  rw [a1]
  simp (disch := omega) only [↓mo_cs_s, ↓Pv h1]
  rw [X7_many h1 hP1 hE]
  simp (disch := omega) only [↓mo_cs_s, ji1, ji2, ji3, ji4, ji5, ji6, ji7, ji8, ji9, ji10, ji11, ji12, ji13, ji14, ji15, ji16, ji19, ji20, ji24, ji31, ji32, ji39, ji45, ji48, ji57, ji58, ji59, ji60, ji97, ji100, ji119, ji120, ji122, ji144, ji200, ji226, ji240, ji255, ji300, ji366, ji400, ji500, ji1000, jI_z, ↓jI_m1, jI_add, jI_sub, jI_mul, ↓jm1000, ↓jm100, ↓jm10, ↓jm9, ji50, ji65280, ji1664525, ji252645135, ji858993459, ji1013904223, ji1431655765, ji2147483639, ji2147483647]
  exact r1

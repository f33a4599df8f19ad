/-! THE WEAK POINTS. -/
def cntW (P : Nat → Bool) : Nat → Nat
  | 0 => 0
  | k + 1 => cntW P k + if P k = true then 1 else 0
theorem cntW_le {P : Nat → Bool} : ∀ k, cntW P k ≤ k := by
  intro k
  induction k with
  | zero => exact Nat.le_refl _
  | succ k ih => simp only [cntW]; split <;> omega
theorem cntW_far {P : Nat → Bool} {N : Nat} (h : ∀ k, N ≤ k → P k = false) : ∀ d, cntW P (N + d) = cntW P N := by
  intro d
  induction d with
  | zero => rfl
  | succ d ih => rw [← Nat.add_assoc]; simp only [cntW]; rw [h (N + d) (by omega), if_neg (by decide), ih]; rfl
def wkP (c : hCf) (p k : Nat) : Bool := atP c p (0, (k : Int), 0)
def weakV (c : hCf) (p : Nat) : Int := if brk (c.1, []) p = true then 0 else (cntW (wkP c p) 120 : Nat)
theorem okW0 {k : Nat} (h : k < 120) : okF (0, (k : Int), 0) := ⟨by show (0 : Int) ≤ 0; omega, by show (0 : Int) ≤ 2; omega, by show (0 : Int) ≤ k; omega, by show (k : Int) < 120; omega, by show (0 : Int) ≤ 0; omega, by show (0 : Int) ≤ 20; omega⟩
theorem X6_wp_l {z p : Nat} {c : hCf} {N : Nat} (hc : okC c) (hp' : p < 4) (hN : N ≤ 120) : ∀ (n : Nat) (k : Nat) (fu : Nat) (M : hM), k + n = N → n < fu → HB M c →
    ∃ M', m_X6_weakPoints_l30 z (jI p) fu (hp z M) (jI N) (jI (cntW (wkP c p) k : Nat)) (jI k) = some (.inr (jI (cntW (wkP c p) N : Nat)), hp z M') ∧ FD M M' := by
  intro n
  induction n with
  | zero =>
    intro k fu M hk hfu hB
    obtain ⟨fu, rfl⟩ : ∃ g, fu = g + 1 := ⟨fu - 1, by omega⟩
    have hkN : k = N := by omega
    subst hkN
    refine ⟨M, ?_, FD.rfl'⟩
    have g : ¬ (k : Int) < k := by omega
    unfold m_X6_weakPoints_l30
    simp (disch := omega) only [ji1, ji2, ji3, ji4, ji5, ji6, ji7, ji8, ji9, ji10, ji11, ji12, ji13, ji14, ji15, ji16, ji19, ji20, ji39, ji119, ji144, ji366, ji24, ji31, ji32, ji45, ji48, ji57, ji58, ji59, ji97, ji120, ji122, ji183, ji200, ji226, ji240, ji255, ji500, jI_z, ↓jI_m1, jI_add, jI_sub, jI_mul, ↓mo_cs_s, ↓mo_xs_r, ↓mo_xs_l, ↓mo_nl_s, mo_z_0, mo_z_1, jI_lt, g, if_false]
  | succ n ih =>
    intro k fu M hk hfu hB
    obtain ⟨fu, rfl⟩ : ∃ g, fu = g + 1 := ⟨fu - 1, by omega⟩
    have g : (k : Int) < N := by omega
    have hcl := cntW_le (P := wkP c p) k
    obtain ⟨M1, M2, r1, r2, r3, r4⟩ := X6_one (z := z) hc hp' (okW0 (k := k) (by omega)) hB
    have pre : ∀ r, (if jI (b2i (wkP c p k)) = jI 0 then m_X6_weakPoints_l30 z (jI p) fu (hp z M2) (jI N) (jI (cntW (wkP c p) k : Nat)) (jI ((k : Int) + 1)) else m_X6_weakPoints_l30 z (jI p) fu (hp z M2) (jI N) (jI ((cntW (wkP c p) k : Nat) + 1)) (jI ((k : Int) + 1))) = r → m_X6_weakPoints_l30 z (jI p) (fu + 1) (hp z M) (jI N) (jI (cntW (wkP c p) k : Nat)) (jI k) = r := by
      intro r hr
      rw [← hr]
      conv => lhs; unfold m_X6_weakPoints_l30
      simp (disch := omega) only [ji1, ji2, ji3, ji4, ji5, ji6, ji7, ji8, ji9, ji10, ji11, ji12, ji13, ji14, ji15, ji16, ji19, ji20, ji39, ji119, ji144, ji366, ji24, ji31, ji32, ji45, ji48, ji57, ji58, ji59, ji97, ji120, ji122, ji183, ji200, ji226, ji240, ji255, ji500, jI_z, ↓jI_m1, jI_add, jI_sub, jI_mul, jI_lt, g, if_true, ↓hg0_0, ↓hg0_1, ↓hg0_2, ↓hg0_3, ↓hg0_4, ↓hg0_5, hw0_5, ↓hg0_6, ↓hg0_7, ↓hv0, ↓hx0, ha132, hu132, ↓hl132, ↓Bv (b := 8) rfl]
      rw [r1]
      simp (disch := omega) only [ji1, ji2, ji3, ji4, ji5, ji6, ji7, ji8, ji9, ji10, ji11, ji12, ji13, ji14, ji15, ji16, ji19, ji20, ji39, ji119, ji144, ji366, ji24, ji31, ji32, ji45, ji48, ji57, ji58, ji59, ji97, ji120, ji122, ji183, ji200, ji226, ji240, ji255, ji500, jI_z, ↓jI_m1, jI_add, jI_sub, jI_mul, ↓mo_cs_s, ↓mo_xs_r, ↓mo_xs_l, ↓mo_nl_s, mo_z_0, mo_z_1, ↓hg0_0, ↓hg0_1, ↓hg0_2, ↓hg0_3, ↓hg0_4, ↓hg0_5, hw0_5, ↓hg0_6, ↓hg0_7, ↓hv0, ↓hx0, ha132, hu132, ↓hl132]
      rw [r2]
      simp (disch := omega) only [ji1, ji2, ji3, ji4, ji5, ji6, ji7, ji8, ji9, ji10, ji11, ji12, ji13, ji14, ji15, ji16, ji19, ji20, ji39, ji119, ji144, ji366, ji24, ji31, ji32, ji45, ji48, ji57, ji58, ji59, ji97, ji120, ji122, ji183, ji200, ji226, ji240, ji255, ji500, jI_z, ↓jI_m1, jI_add, jI_sub, jI_mul, ↓mo_cs_s, ↓mo_xs_r, ↓mo_xs_l, ↓mo_nl_s, mo_z_0, mo_z_1]
      rfl
    obtain ⟨M3, s1, s2⟩ := ih (k + 1) fu M2 (by omega) (by omega) ⟨_, r4, hc.one (okW0 (by omega))⟩
    refine ⟨M3, pre _ ?_, r3.trans s2⟩
    rw [← s1]
    cases hb : wkP c p k with
    | true =>
      rw [if_neg (by decide)]; simp only [cntW, hb, if_true]; rfl
    | false =>
      rw [if_pos (by decide)]; simp only [cntW, hb, Bool.false_eq_true, if_false]; rfl
theorem X7_wp_l {z p : Nat} {c : hCf} (hc : okC c) (hp' : p < 4) : ∀ (n : Nat) (k : Nat) (fu : Nat) (M : hM), k + n = 120 → n < fu → RR (gA M 134) c →
    ∃ M', m_X7_weakPoints_l28 (z + 133) (jI p) fu (hp z M) (jI (cntW (wkP c p) k : Nat)) (jI k) = some (jI (cntW (wkP c p) 120 : Nat), hp z M') ∧ FQ M M' := by
  intro n
  induction n with
  | zero =>
    intro k fu M hk hfu hR
    obtain ⟨fu, rfl⟩ : ∃ g, fu = g + 1 := ⟨fu - 1, by omega⟩
    have hkN : k = 120 := by omega
    subst hkN
    refine ⟨M, ?_, FQ.rfl'⟩
    have g : ¬ ((120 : Nat) : Int) < 120 := by omega
    unfold m_X7_weakPoints_l28
    simp (disch := omega) only [ji1, ji2, ji3, ji4, ji5, ji6, ji7, ji8, ji9, ji10, ji11, ji12, ji13, ji14, ji15, ji16, ji19, ji20, ji39, ji119, ji144, ji366, ji24, ji31, ji32, ji45, ji48, ji57, ji58, ji59, ji97, ji120, ji122, ji183, ji200, ji226, ji240, ji255, ji500, jI_z, ↓jI_m1, jI_add, jI_sub, jI_mul, ↓mo_cs_s, ↓mo_xs_r, ↓mo_xs_l, ↓mo_nl_s, mo_z_0, mo_z_1, jI_lt, g, if_false]
  | succ n ih =>
    intro k fu M hk hfu hR
    obtain ⟨fu, rfl⟩ : ∃ g, fu = g + 1 := ⟨fu - 1, by omega⟩
    have g : (k : Int) < 120 := by omega
    have hcl := cntW_le (P := wkP c p) k
    obtain ⟨M1, r1, r2, r3⟩ := X7_t1 (z := z) (kd := 0) (nm := k) (am := 0) hc hR (by omega) (by omega)
    obtain ⟨M2, s1, s2, s3, s4⟩ := X7_brk (z := z) (p := p) (Or.inr (Or.inr rfl)) (hc.one (okW0 (k := k) (by omega))) r2 hp'
    have F2 : FQ M M2 := r3.q.trans (s3.q s4)
    have pre : ∀ r, (if jI (b2i (wkP c p k)) = jI 0 then m_X7_weakPoints_l28 (z + 133) (jI p) fu (hp z M2) (jI ((cntW (wkP c p) k : Nat) + 0)) (jI ((k : Int) + 1)) else m_X7_weakPoints_l28 (z + 133) (jI p) fu (hp z M2) (jI ((cntW (wkP c p) k : Nat) + 1)) (jI ((k : Int) + 1))) = r → m_X7_weakPoints_l28 (z + 133) (jI p) (fu + 1) (hp z M) (jI (cntW (wkP c p) k : Nat)) (jI k) = r := by
      intro r hr
      rw [← hr]
      conv => lhs; unfold m_X7_weakPoints_l28
      simp (disch := omega) only [ji1, ji2, ji3, ji4, ji5, ji6, ji7, ji8, ji9, ji10, ji11, ji12, ji13, ji14, ji15, ji16, ji19, ji20, ji39, ji119, ji144, ji366, ji24, ji31, ji32, ji45, ji48, ji57, ji58, ji59, ji97, ji120, ji122, ji183, ji200, ji226, ji240, ji255, ji500, jI_z, ↓jI_m1, jI_add, jI_sub, jI_mul, jI_lt, g, if_true, ↓hg133_0, hw133_0, ↓hg133_1, ↓hg133_2, ↓hg133_3, hw133_3, ↓hg133_4, hw133_4, ↓hg133_5, hw133_5, ↓hg133_6, hw133_6, ↓hg133_7, hw133_7, ↓hg133_8, hw133_8, ↓hg133_9, hw133_9, ↓hg133_10, hw133_10, ↓hg133_11, hw133_11, ↓hg133_12, hw133_12, ↓hg133_13, ↓hg133_14, hw133_14, ↓hg133_15, ↓hg133_16, ↓hg133_17, ↓hg133_18, ↓hg133_19, ↓hg133_20, ↓hg133_21, hw133_21, ↓hg133_22, ↓hg133_23, hw133_23, ↓hg133_24, hw133_24, ↓hg133_25, hw133_25, ↓hg133_26, hw133_26, ↓hg133_27, hw133_27, ↓hg133_28, ↓hg133_29, hw133_29, ↓hg133_30, hw133_30, ↓hg133_31, hw133_31, ↓hg133_32, hw133_32, ↓hg133_33, hw133_33, ↓hg133_34, hw133_34, ↓hg133_35, hw133_35, ↓hg133_36, hw133_36, ↓hg133_37, ↓hg133_38, ↓hg133_39, ↓hv133, ↓hx133, ha134, hu134, ↓hl134, ha135, hu135, ↓hl135, ha136, hu136, ↓hl136, ha137, hu137, ↓hl137, ha138, hu138, ↓hl138, ha139, hu139, ↓hl139, ha140, hu140, ↓hl140, ha141, hu141, ↓hl141, ha142, hu142, ↓hl142, ha143, hu143, ↓hl143, ha144, hu144, ↓hl144, ha145, hu145, ↓hl145, ha146, hu146, ↓hl146, ha147, hu147, ↓hl147]
      rw [r1]
      simp (disch := omega) only [ji1, ji2, ji3, ji4, ji5, ji6, ji7, ji8, ji9, ji10, ji11, ji12, ji13, ji14, ji15, ji16, ji19, ji20, ji39, ji119, ji144, ji366, ji24, ji31, ji32, ji45, ji48, ji57, ji58, ji59, ji97, ji120, ji122, ji183, ji200, ji226, ji240, ji255, ji500, jI_z, ↓jI_m1, jI_add, jI_sub, jI_mul, ↓mo_cs_s, ↓mo_xs_r, ↓mo_xs_l, ↓mo_nl_s, mo_z_0, mo_z_1, ↓hg133_0, hw133_0, ↓hg133_1, ↓hg133_2, ↓hg133_3, hw133_3, ↓hg133_4, hw133_4, ↓hg133_5, hw133_5, ↓hg133_6, hw133_6, ↓hg133_7, hw133_7, ↓hg133_8, hw133_8, ↓hg133_9, hw133_9, ↓hg133_10, hw133_10, ↓hg133_11, hw133_11, ↓hg133_12, hw133_12, ↓hg133_13, ↓hg133_14, hw133_14, ↓hg133_15, ↓hg133_16, ↓hg133_17, ↓hg133_18, ↓hg133_19, ↓hg133_20, ↓hg133_21, hw133_21, ↓hg133_22, ↓hg133_23, hw133_23, ↓hg133_24, hw133_24, ↓hg133_25, hw133_25, ↓hg133_26, hw133_26, ↓hg133_27, hw133_27, ↓hg133_28, ↓hg133_29, hw133_29, ↓hg133_30, hw133_30, ↓hg133_31, hw133_31, ↓hg133_32, hw133_32, ↓hg133_33, hw133_33, ↓hg133_34, hw133_34, ↓hg133_35, hw133_35, ↓hg133_36, hw133_36, ↓hg133_37, ↓hg133_38, ↓hg133_39, ↓hv133, ↓hx133, ha134, hu134, ↓hl134, ha135, hu135, ↓hl135, ha136, hu136, ↓hl136, ha137, hu137, ↓hl137, ha138, hu138, ↓hl138, ha139, hu139, ↓hl139, ha140, hu140, ↓hl140, ha141, hu141, ↓hl141, ha142, hu142, ↓hl142, ha143, hu143, ↓hl143, ha144, hu144, ↓hl144, ha145, hu145, ↓hl145, ha146, hu146, ↓hl146, ha147, hu147, ↓hl147]
      rw [s1]
      simp (disch := omega) only [ji1, ji2, ji3, ji4, ji5, ji6, ji7, ji8, ji9, ji10, ji11, ji12, ji13, ji14, ji15, ji16, ji19, ji20, ji39, ji119, ji144, ji366, ji24, ji31, ji32, ji45, ji48, ji57, ji58, ji59, ji97, ji120, ji122, ji183, ji200, ji226, ji240, ji255, ji500, jI_z, ↓jI_m1, jI_add, jI_sub, jI_mul, ↓mo_cs_s, ↓mo_xs_r, ↓mo_xs_l, ↓mo_nl_s, mo_z_0, mo_z_1]
      rfl
    obtain ⟨M3, t1, t2⟩ := ih (k + 1) fu M2 (by omega) (by omega) (F2.row hR)
    refine ⟨M3, pre _ ?_, F2.trans t2⟩
    rw [← t1]
    cases hb : wkP c p k with
    | true =>
      rw [if_neg (by decide)]; simp only [cntW, hb, if_true]; rfl
    | false =>
      rw [if_pos (by decide)]; simp only [cntW, hb, Bool.false_eq_true, if_false]; rfl
theorem wk_far {c : hCf} {p : Nat} (hb : brk (c.1, []) p = false) (hc : okC c) : cntW (wkP c p) (zR (c.1, [])).2.1.length = cntW (wkP c p) 120 := by
  have hN := zN_le hc.nil
  have h := cntW_far (P := wkP c p) (N := (zR (c.1, [])).2.1.length) (fun k hk => by unfold wkP atP; rw [brk_far hk, hb]) (120 - (zR (c.1, [])).2.1.length)
  rw [show (zR (c.1, [])).2.1.length + (120 - (zR (c.1, [])).2.1.length) = 120 by omega] at h
  exact h.symm

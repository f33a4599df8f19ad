/-! READING of the model: statements, head, loop. -/
def sOne (L : List Int) (k : Nat) (s : hP) : hE := if s.2.1 k = true then .inl (2, tS L s.2.2) else sSet L k (s.1, fun j => if j = k then true else s.2.1 j, tN L s.2.2)
def sBody (L : List Int) (s : hP) : hE := match setOf L s.2.2 with
  | some k => eB (sOne L k s) fun s2 => if k = 5 then sSet L 6 s2 else .inr s2
  | none => sFault L s
theorem sBody_eq {L : List Int} {s : hP} : eB (sBody L s) (sSemi L) = sStmt L s := by
  unfold sBody sStmt sOne
  cases setOf L s.2.2 with
  | none => rfl
  | some k =>
    simp only
    by_cases g : s.2.1 k = true
    · rw [if_pos g, if_pos g]; rfl
    · rw [if_neg g, if_neg g]
      cases sSet L k (s.1, fun j => if j = k then true else s.2.1 j, tN L s.2.2) with
      | inl e => rfl
      | inr s2 =>
        by_cases e5 : k = 5
        · simp only [eB, e5, if_true]
        · simp only [eB, e5, if_false]
theorem X7_one {z k : Nat} {L : List Int} {M : hM} {s : hP} (hT : TXm M L) (ho : okP L s) (h : MP M L s) (hk : wK k) :
    (∃ e M', sOne L k s = .inl e ∧ (mo_cs (m_X7_once (hp z M) (z + 133) (jI (bK k))) fun x σ => if x = jI 0 then some (jI 0, σ) else mo_cv σ (z + 133) 7 (m_X7_lays σ (z + 133) (jI k)) fun y τ => some (y, τ)) = some (jI 0, hp z M') ∧ EM M' e ∧ FXm M M') ∨
    (∃ s' M', sOne L k s = .inr s' ∧ (mo_cs (m_X7_once (hp z M) (z + 133) (jI (bK k))) fun x σ => if x = jI 0 then some (jI 0, σ) else mo_cv σ (z + 133) 7 (m_X7_lays σ (z + 133) (jI k)) fun y τ => some (y, τ)) = some (jI 1, hp z M') ∧ MP M' L s' ∧ okP L s' ∧ FXm M M') := by
  have hk7 : 0 ≤ (k : Int) ∧ (k : Int) ≤ 7 := by unfold wK at hk; omega
  have on := X7_on (z := z) hT ho h hk
  unfold sOne
  by_cases g : s.2.1 k = true
  · rw [if_pos g] at on ⊢
    obtain ⟨M1, r1, r2, r3⟩ := on
    refine Or.inl ⟨_, M1, rfl, ?_, r2, r3⟩
    rw [r1]
    simp (disch := omega) only [↓mo_cs_s, ↓mo_xs_r, ↓mo_xs_l, ↓mo_nl_s, mo_z_0, mo_z_1, if_true]
  · rw [if_neg g] at on ⊢
    obtain ⟨M1, r1, r2, r3⟩ := on
    have ho1 : okP L (s.1, fun j => if j = k then true else s.2.1 j, tN L s.2.2) := ⟨ho.1, tN_le ho.2⟩
    have ly := X7_lay (z := z) (k := k) (hT.x r3) ho1 r2 hk7
    rw [r1]
    simp (disch := omega) only [↓mo_cs_s, ↓mo_xs_r, ↓mo_xs_l, ↓mo_nl_s, mo_z_0, mo_z_1, j10, if_false, ↓hg133_0, hw133_0, ↓hg133_1, ↓hg133_2, ↓hg133_3, hw133_3, ↓hg133_4, hw133_4, ↓hg133_5, hw133_5, ↓hg133_6, hw133_6, ↓hg133_7, hw133_7, ↓hg133_8, hw133_8, ↓hg133_9, hw133_9, ↓hg133_10, hw133_10, ↓hg133_11, hw133_11, ↓hg133_12, hw133_12, ↓hg133_13, ↓hg133_14, hw133_14, ↓hg133_15, ↓hg133_16, ↓hg133_17, ↓hg133_18, ↓hg133_19, ↓hg133_20, ↓hg133_21, hw133_21, ↓hg133_22, ↓hg133_23, hw133_23, ↓hg133_24, hw133_24, ↓hg133_25, hw133_25, ↓hg133_26, hw133_26, ↓hg133_27, hw133_27, ↓hg133_28, ↓hg133_29, hw133_29, ↓hg133_30, hw133_30, ↓hg133_31, hw133_31, ↓hg133_32, hw133_32, ↓hg133_33, hw133_33, ↓hg133_34, hw133_34, ↓hg133_35, hw133_35, ↓hg133_36, hw133_36, ↓hg133_37, ↓hg133_38, ↓hg133_39, ↓hv133, ↓hx133, ha134, hu134, ↓hl134, ha135, hu135, ↓hl135, ha136, hu136, ↓hl136, ha137, hu137, ↓hl137, ha138, hu138, ↓hl138, ha139, hu139, ↓hl139, ha140, hu140, ↓hl140, ha141, hu141, ↓hl141, ha142, hu142, ↓hl142, ha143, hu143, ↓hl143, ha144, hu144, ↓hl144, ha145, hu145, ↓hl145, ha146, hu146, ↓hl146, ha147, hu147, ↓hl147]
    cases hs : sSet L k (s.1, fun j => if j = k then true else s.2.1 j, tN L s.2.2) with
    | inl e =>
      rw [hs] at ly
      obtain ⟨M2, t1, t2, t3⟩ := ly
      refine Or.inl ⟨e, M2, rfl, ?_, t2, r3.trans t3⟩
      rw [t1]
      simp (disch := omega) only [↓mo_cs_s, ↓mo_xs_r, ↓mo_xs_l, ↓mo_nl_s, mo_z_0, mo_z_1]
    | inr s' =>
      rw [hs] at ly
      obtain ⟨M2, t1, t2, t3⟩ := ly
      refine Or.inr ⟨s', M2, rfl, ?_, t2, (sSet_ok ho1 hk7 hs).1, r3.trans t3⟩
      rw [t1]
      simp (disch := omega) only [↓mo_cs_s, ↓mo_xs_r, ↓mo_xs_l, ↓mo_nl_s, mo_z_0, mo_z_1]
theorem mo_cs_bind {α : Type} {m : Option (Int32 × ac_H)} {F : Int32 → ac_H → Option α} {G : Int32 → ac_H → Option (Int32 × ac_H)} : mo_cs (mo_cs m G) F = mo_cs m fun x σ => mo_cs (G x σ) F := by
  cases m with
  | none => rfl
  | some a => rfl
theorem mo_cv_bind {α : Type} {σ : ac_H} {b ci : Nat} {m : Option (Int32 × ac_H)} {F : Int32 → ac_H → Option α} {G : Int32 → ac_H → Option (Int32 × ac_H)} : mo_cs (mo_cv σ b ci m G) F = mo_cv σ b ci m fun x τ => mo_cs (G x τ) F := by
  unfold mo_cv
  split
  · split
    · split <;> rfl
    · rfl
  · rfl
theorem X7_stm {z : Nat} {L : List Int} {M : hM} {s : hP} (hT : TXm M L) (ho : okP L s) (h : MP M L s) : RXm z M L (m_X7_statement (hp z M) (z + 133)) (sBody L s) := by
  have w4 := X7_wd (z := z) (i := 4) hT (by omega) ho.2 h.2
  have w5 := X7_wd (z := z) (i := 5) hT (by omega) ho.2 h.2
  have w6 := X7_wd (z := z) (i := 6) hT (by omega) ho.2 h.2
  have w7 := X7_wd (z := z) (i := 7) hT (by omega) ho.2 h.2
  have w8 := X7_wd (z := z) (i := 8) hT (by omega) ho.2 h.2
  have w9 := X7_wd (z := z) (i := 9) hT (by omega) ho.2 h.2
  have w10 := X7_wd (z := z) (i := 10) hT (by omega) ho.2 h.2
  -- the settings but the size
  have one : ∀ k, wK k → k ≠ 5 → setOf L s.2.2 = some k → (m_X7_statement (hp z M) (z + 133) = mo_cs (m_X7_once (hp z M) (z + 133) (jI (bK k))) fun x σ => if x = jI 0 then some (jI 0, σ) else mo_cv σ (z + 133) 7 (m_X7_lays σ (z + 133) (jI k)) fun y τ => if y = jI 0 then some (jI 0, τ) else some (jI 1, τ)) → RXm z M L (m_X7_statement (hp z M) (z + 133)) (sBody L s) := by
    intro k hk h5 hso hst
    have e : m_X7_statement (hp z M) (z + 133) = mo_cs (mo_cs (m_X7_once (hp z M) (z + 133) (jI (bK k))) fun x σ => if x = jI 0 then some (jI 0, σ) else mo_cv σ (z + 133) 7 (m_X7_lays σ (z + 133) (jI k)) fun y τ => some (y, τ)) fun y τ => if y = jI 0 then some (jI 0, τ) else some (jI 1, τ) := by
      rw [hst, mo_cs_bind]
      congr 1
      funext x σ
      by_cases hx : x = jI 0
      · rw [if_pos hx, if_pos hx]; rfl
      · rw [if_neg hx, if_neg hx]
        rw [mo_cv_bind]; rfl
    have hb : sBody L s = sOne L k s := by
      unfold sBody; rw [hso]
      show eB (sOne L k s) _ = _
      cases sOne L k s with
      | inl e => rfl
      | inr s2 => show (if k = 5 then _ else _) = _; rw [if_neg h5]
    rw [hb, e]
    rcases X7_one (z := z) hT ho h hk with ⟨e, M1, r1, r2, r3, r4⟩ | ⟨s', M1, r1, r2, r3, r4, r5⟩
    · rw [r1, r2]
      exact ⟨M1, rfl, r3, r4⟩
    · rw [r1, r2]
      exact ⟨M1, rfl, r3, r5⟩
  have flt : ∀ kd : Int, 0 ≤ kd ∧ kd ≤ 2 → setOf L s.2.2 = none → kindOf L s.2.2 = some kd → (m_X7_statement (hp z M) (z + 133) = mo_cs (m_X7_faultLine (hp z M) (z + 133) (jI kd)) fun x σ => mo_z x (some (x, σ))) → RXm z M L (m_X7_statement (hp z M) (z + 133)) (sBody L s) := by
    intro kd hk hso hkd hst
    have hb : sBody L s = sFl L kd s := by unfold sBody sFault; rw [hso, hkd]; rfl
    have hf := X7_fault6 (z := z) hT ho h hk
    rw [hb, hst]
    cases hsf : sFl L kd s with
    | inl e =>
      rw [hsf] at hf
      obtain ⟨M1, r1, r2, r3⟩ := hf
      refine ⟨M1, ?_, r2, r3⟩
      rw [r1]
      simp (disch := omega) only [↓mo_cs_s, ↓mo_xs_r, ↓mo_xs_l, ↓mo_nl_s, mo_z_0, mo_z_1]
    | inr s' =>
      rw [hsf] at hf
      obtain ⟨M1, r1, r2, r3⟩ := hf
      refine ⟨M1, ?_, r2, r3⟩
      rw [r1]
      simp (disch := omega) only [↓mo_cs_s, ↓mo_xs_r, ↓mo_xs_l, ↓mo_nl_s, mo_z_0, mo_z_1]
  cases g4 : wdB L s.2.2 4 with
  | true =>
    refine one 3 (Or.inl rfl) (by omega) (by unfold setOf; rw [g4, if_pos rfl]) ?_
    unfold m_X7_statement
    simp (disch := omega) only [ji1, ji2, ji3, ji4, ji5, ji6, ji7, ji8, ji9, ji10, ji11, ji12, ji13, ji14, ji15, ji16, ji19, ji20, ji39, ji119, ji144, ji366, ji24, ji31, ji32, ji45, ji48, ji57, ji58, ji59, ji97, ji120, ji122, ji183, ji200, ji226, ji240, ji255, ji500, jI_z, ↓jI_m1, jI_add, jI_sub, jI_mul, ↓hg133_0, hw133_0, ↓hg133_1, ↓hg133_2, ↓hg133_3, hw133_3, ↓hg133_4, hw133_4, ↓hg133_5, hw133_5, ↓hg133_6, hw133_6, ↓hg133_7, hw133_7, ↓hg133_8, hw133_8, ↓hg133_9, hw133_9, ↓hg133_10, hw133_10, ↓hg133_11, hw133_11, ↓hg133_12, hw133_12, ↓hg133_13, ↓hg133_14, hw133_14, ↓hg133_15, ↓hg133_16, ↓hg133_17, ↓hg133_18, ↓hg133_19, ↓hg133_20, ↓hg133_21, hw133_21, ↓hg133_22, ↓hg133_23, hw133_23, ↓hg133_24, hw133_24, ↓hg133_25, hw133_25, ↓hg133_26, hw133_26, ↓hg133_27, hw133_27, ↓hg133_28, ↓hg133_29, hw133_29, ↓hg133_30, hw133_30, ↓hg133_31, hw133_31, ↓hg133_32, hw133_32, ↓hg133_33, hw133_33, ↓hg133_34, hw133_34, ↓hg133_35, hw133_35, ↓hg133_36, hw133_36, ↓hg133_37, ↓hg133_38, ↓hg133_39, ↓hv133, ↓hx133, ha134, hu134, ↓hl134, ha135, hu135, ↓hl135, ha136, hu136, ↓hl136, ha137, hu137, ↓hl137, ha138, hu138, ↓hl138, ha139, hu139, ↓hl139, ha140, hu140, ↓hl140, ha141, hu141, ↓hl141, ha142, hu142, ↓hl142, ha143, hu143, ↓hl143, ha144, hu144, ↓hl144, ha145, hu145, ↓hl145, ha146, hu146, ↓hl146, ha147, hu147, ↓hl147, w4, g4, ↓mo_cs_s, ↓mo_xs_r, ↓mo_xs_l, ↓mo_nl_s, mo_z_0, mo_z_1, b2i_0, Bool.true_eq_false, if_false]
    rfl
  | false =>
  cases g5 : wdB L s.2.2 5 with
  | true =>
    refine one 4 (Or.inr (Or.inl rfl)) (by omega) (by unfold setOf; rw [g4, g5, if_neg (by decide), if_pos rfl]) ?_
    unfold m_X7_statement
    simp (disch := omega) only [ji1, ji2, ji3, ji4, ji5, ji6, ji7, ji8, ji9, ji10, ji11, ji12, ji13, ji14, ji15, ji16, ji19, ji20, ji39, ji119, ji144, ji366, ji24, ji31, ji32, ji45, ji48, ji57, ji58, ji59, ji97, ji120, ji122, ji183, ji200, ji226, ji240, ji255, ji500, jI_z, ↓jI_m1, jI_add, jI_sub, jI_mul, ↓hg133_0, hw133_0, ↓hg133_1, ↓hg133_2, ↓hg133_3, hw133_3, ↓hg133_4, hw133_4, ↓hg133_5, hw133_5, ↓hg133_6, hw133_6, ↓hg133_7, hw133_7, ↓hg133_8, hw133_8, ↓hg133_9, hw133_9, ↓hg133_10, hw133_10, ↓hg133_11, hw133_11, ↓hg133_12, hw133_12, ↓hg133_13, ↓hg133_14, hw133_14, ↓hg133_15, ↓hg133_16, ↓hg133_17, ↓hg133_18, ↓hg133_19, ↓hg133_20, ↓hg133_21, hw133_21, ↓hg133_22, ↓hg133_23, hw133_23, ↓hg133_24, hw133_24, ↓hg133_25, hw133_25, ↓hg133_26, hw133_26, ↓hg133_27, hw133_27, ↓hg133_28, ↓hg133_29, hw133_29, ↓hg133_30, hw133_30, ↓hg133_31, hw133_31, ↓hg133_32, hw133_32, ↓hg133_33, hw133_33, ↓hg133_34, hw133_34, ↓hg133_35, hw133_35, ↓hg133_36, hw133_36, ↓hg133_37, ↓hg133_38, ↓hg133_39, ↓hv133, ↓hx133, ha134, hu134, ↓hl134, ha135, hu135, ↓hl135, ha136, hu136, ↓hl136, ha137, hu137, ↓hl137, ha138, hu138, ↓hl138, ha139, hu139, ↓hl139, ha140, hu140, ↓hl140, ha141, hu141, ↓hl141, ha142, hu142, ↓hl142, ha143, hu143, ↓hl143, ha144, hu144, ↓hl144, ha145, hu145, ↓hl145, ha146, hu146, ↓hl146, ha147, hu147, ↓hl147, w4, g4, w5, g5, ↓mo_cs_s, ↓mo_xs_r, ↓mo_xs_l, ↓mo_nl_s, mo_z_0, mo_z_1, b2i_0, Bool.true_eq_false, if_false, if_true]
    rfl
  | false =>
  cases g6 : wdB L s.2.2 6 with
  | true =>
    have hso : setOf L s.2.2 = some 5 := by unfold setOf; rw [g4, g5, g6, if_neg (by decide), if_neg (by decide), if_pos rfl]
    have hst : m_X7_statement (hp z M) (z + 133) = mo_cs (mo_cs (m_X7_once (hp z M) (z + 133) (jI (bK 5))) fun x σ => if x = jI 0 then some (jI 0, σ) else mo_cv σ (z + 133) 7 (m_X7_lays σ (z + 133) (jI (5 : Nat))) fun y τ => some (y, τ)) fun y τ => if y = jI 0 then some (jI 0, τ) else mo_cv τ (z + 133) 7 (m_X7_lays τ (z + 133) (jI 6)) fun x32 σ31 => if x32 = jI 0 then some (jI 0, σ31) else some (jI 1, σ31) := by
      unfold m_X7_statement
      simp (disch := omega) only [ji1, ji2, ji3, ji4, ji5, ji6, ji7, ji8, ji9, ji10, ji11, ji12, ji13, ji14, ji15, ji16, ji19, ji20, ji39, ji119, ji144, ji366, ji24, ji31, ji32, ji45, ji48, ji57, ji58, ji59, ji97, ji120, ji122, ji183, ji200, ji226, ji240, ji255, ji500, jI_z, ↓jI_m1, jI_add, jI_sub, jI_mul, ↓hg133_0, hw133_0, ↓hg133_1, ↓hg133_2, ↓hg133_3, hw133_3, ↓hg133_4, hw133_4, ↓hg133_5, hw133_5, ↓hg133_6, hw133_6, ↓hg133_7, hw133_7, ↓hg133_8, hw133_8, ↓hg133_9, hw133_9, ↓hg133_10, hw133_10, ↓hg133_11, hw133_11, ↓hg133_12, hw133_12, ↓hg133_13, ↓hg133_14, hw133_14, ↓hg133_15, ↓hg133_16, ↓hg133_17, ↓hg133_18, ↓hg133_19, ↓hg133_20, ↓hg133_21, hw133_21, ↓hg133_22, ↓hg133_23, hw133_23, ↓hg133_24, hw133_24, ↓hg133_25, hw133_25, ↓hg133_26, hw133_26, ↓hg133_27, hw133_27, ↓hg133_28, ↓hg133_29, hw133_29, ↓hg133_30, hw133_30, ↓hg133_31, hw133_31, ↓hg133_32, hw133_32, ↓hg133_33, hw133_33, ↓hg133_34, hw133_34, ↓hg133_35, hw133_35, ↓hg133_36, hw133_36, ↓hg133_37, ↓hg133_38, ↓hg133_39, ↓hv133, ↓hx133, ha134, hu134, ↓hl134, ha135, hu135, ↓hl135, ha136, hu136, ↓hl136, ha137, hu137, ↓hl137, ha138, hu138, ↓hl138, ha139, hu139, ↓hl139, ha140, hu140, ↓hl140, ha141, hu141, ↓hl141, ha142, hu142, ↓hl142, ha143, hu143, ↓hl143, ha144, hu144, ↓hl144, ha145, hu145, ↓hl145, ha146, hu146, ↓hl146, ha147, hu147, ↓hl147, w4, g4, w5, g5, w6, g6, ↓mo_cs_s, ↓mo_xs_r, ↓mo_xs_l, ↓mo_nl_s, mo_z_0, mo_z_1, b2i_0, Bool.true_eq_false, if_false, if_true]
      rw [mo_cs_bind]
      show mo_cs _ _ = mo_cs _ _
      congr 1
      funext x σ
      by_cases hx : x = jI 0
      · rw [if_pos hx, if_pos hx]; rfl
      · rw [if_neg hx, if_neg hx]
        rw [mo_cv_bind]; rfl
    have hb : sBody L s = eB (sOne L 5 s) (fun s2 => sSet L 6 s2) := by
      unfold sBody; rw [hso]; rfl
    rw [hb, hst]
    rcases X7_one (z := z) (k := 5) hT ho h (Or.inr (Or.inr (Or.inl rfl))) with ⟨e, M1, r1, r2, r3, r4⟩ | ⟨s', M1, r1, r2, r3, r4, r5⟩
    · rw [r1, r2]
      exact ⟨M1, rfl, r3, r4⟩
    · rw [r1, r2]
      have ly := X7_lay (z := z) (k := 6) (hT.x r5) r4 r3 (by omega)
      show RXm z M L _ (sSet L 6 s')
      simp (disch := omega) only [↓mo_cs_s, ↓mo_xs_r, ↓mo_xs_l, ↓mo_nl_s, mo_z_0, mo_z_1, j10, if_false, ↓hg133_0, hw133_0, ↓hg133_1, ↓hg133_2, ↓hg133_3, hw133_3, ↓hg133_4, hw133_4, ↓hg133_5, hw133_5, ↓hg133_6, hw133_6, ↓hg133_7, hw133_7, ↓hg133_8, hw133_8, ↓hg133_9, hw133_9, ↓hg133_10, hw133_10, ↓hg133_11, hw133_11, ↓hg133_12, hw133_12, ↓hg133_13, ↓hg133_14, hw133_14, ↓hg133_15, ↓hg133_16, ↓hg133_17, ↓hg133_18, ↓hg133_19, ↓hg133_20, ↓hg133_21, hw133_21, ↓hg133_22, ↓hg133_23, hw133_23, ↓hg133_24, hw133_24, ↓hg133_25, hw133_25, ↓hg133_26, hw133_26, ↓hg133_27, hw133_27, ↓hg133_28, ↓hg133_29, hw133_29, ↓hg133_30, hw133_30, ↓hg133_31, hw133_31, ↓hg133_32, hw133_32, ↓hg133_33, hw133_33, ↓hg133_34, hw133_34, ↓hg133_35, hw133_35, ↓hg133_36, hw133_36, ↓hg133_37, ↓hg133_38, ↓hg133_39, ↓hv133, ↓hx133, ha134, hu134, ↓hl134, ha135, hu135, ↓hl135, ha136, hu136, ↓hl136, ha137, hu137, ↓hl137, ha138, hu138, ↓hl138, ha139, hu139, ↓hl139, ha140, hu140, ↓hl140, ha141, hu141, ↓hl141, ha142, hu142, ↓hl142, ha143, hu143, ↓hl143, ha144, hu144, ↓hl144, ha145, hu145, ↓hl145, ha146, hu146, ↓hl146, ha147, hu147, ↓hl147]
      cases hs : sSet L 6 s' with
      | inl e =>
        rw [hs] at ly
        obtain ⟨M2, t1, t2, t3⟩ := ly
        refine ⟨M2, ?_, t2, r5.trans t3⟩
        rw [t1]
        simp (disch := omega) only [↓mo_cs_s, ↓mo_xs_r, ↓mo_xs_l, ↓mo_nl_s, mo_z_0, mo_z_1, if_true]
      | inr s2 =>
        rw [hs] at ly
        obtain ⟨M2, t1, t2, t3⟩ := ly
        refine ⟨M2, ?_, t2, r5.trans t3⟩
        rw [t1]
        simp (disch := omega) only [↓mo_cs_s, ↓mo_xs_r, ↓mo_xs_l, ↓mo_nl_s, mo_z_0, mo_z_1, j10, if_false]
  | false =>
  cases g7 : wdB L s.2.2 7 with
  | true =>
    refine one 7 (Or.inr (Or.inr (Or.inr rfl))) (by omega) (by unfold setOf; rw [g4, g5, g6, g7, if_neg (by decide), if_neg (by decide), if_neg (by decide), if_pos rfl]) ?_
    unfold m_X7_statement
    simp (disch := omega) only [ji1, ji2, ji3, ji4, ji5, ji6, ji7, ji8, ji9, ji10, ji11, ji12, ji13, ji14, ji15, ji16, ji19, ji20, ji39, ji119, ji144, ji366, ji24, ji31, ji32, ji45, ji48, ji57, ji58, ji59, ji97, ji120, ji122, ji183, ji200, ji226, ji240, ji255, ji500, jI_z, ↓jI_m1, jI_add, jI_sub, jI_mul, ↓hg133_0, hw133_0, ↓hg133_1, ↓hg133_2, ↓hg133_3, hw133_3, ↓hg133_4, hw133_4, ↓hg133_5, hw133_5, ↓hg133_6, hw133_6, ↓hg133_7, hw133_7, ↓hg133_8, hw133_8, ↓hg133_9, hw133_9, ↓hg133_10, hw133_10, ↓hg133_11, hw133_11, ↓hg133_12, hw133_12, ↓hg133_13, ↓hg133_14, hw133_14, ↓hg133_15, ↓hg133_16, ↓hg133_17, ↓hg133_18, ↓hg133_19, ↓hg133_20, ↓hg133_21, hw133_21, ↓hg133_22, ↓hg133_23, hw133_23, ↓hg133_24, hw133_24, ↓hg133_25, hw133_25, ↓hg133_26, hw133_26, ↓hg133_27, hw133_27, ↓hg133_28, ↓hg133_29, hw133_29, ↓hg133_30, hw133_30, ↓hg133_31, hw133_31, ↓hg133_32, hw133_32, ↓hg133_33, hw133_33, ↓hg133_34, hw133_34, ↓hg133_35, hw133_35, ↓hg133_36, hw133_36, ↓hg133_37, ↓hg133_38, ↓hg133_39, ↓hv133, ↓hx133, ha134, hu134, ↓hl134, ha135, hu135, ↓hl135, ha136, hu136, ↓hl136, ha137, hu137, ↓hl137, ha138, hu138, ↓hl138, ha139, hu139, ↓hl139, ha140, hu140, ↓hl140, ha141, hu141, ↓hl141, ha142, hu142, ↓hl142, ha143, hu143, ↓hl143, ha144, hu144, ↓hl144, ha145, hu145, ↓hl145, ha146, hu146, ↓hl146, ha147, hu147, ↓hl147, w4, g4, w5, g5, w6, g6, w7, g7, ↓mo_cs_s, ↓mo_xs_r, ↓mo_xs_l, ↓mo_nl_s, mo_z_0, mo_z_1, b2i_0, Bool.true_eq_false, if_false, if_true]
    rfl
  | false =>
  have hso : setOf L s.2.2 = none := by unfold setOf; rw [g4, g5, g6, g7, if_neg (by decide), if_neg (by decide), if_neg (by decide), if_neg (by decide)]
  cases g8 : wdB L s.2.2 8 with
  | true =>
    refine flt 0 (by omega) hso (by unfold kindOf; rw [g8, if_pos rfl]) ?_
    unfold m_X7_statement
    simp (disch := omega) only [ji1, ji2, ji3, ji4, ji5, ji6, ji7, ji8, ji9, ji10, ji11, ji12, ji13, ji14, ji15, ji16, ji19, ji20, ji39, ji119, ji144, ji366, ji24, ji31, ji32, ji45, ji48, ji57, ji58, ji59, ji97, ji120, ji122, ji183, ji200, ji226, ji240, ji255, ji500, jI_z, ↓jI_m1, jI_add, jI_sub, jI_mul, ↓hg133_0, hw133_0, ↓hg133_1, ↓hg133_2, ↓hg133_3, hw133_3, ↓hg133_4, hw133_4, ↓hg133_5, hw133_5, ↓hg133_6, hw133_6, ↓hg133_7, hw133_7, ↓hg133_8, hw133_8, ↓hg133_9, hw133_9, ↓hg133_10, hw133_10, ↓hg133_11, hw133_11, ↓hg133_12, hw133_12, ↓hg133_13, ↓hg133_14, hw133_14, ↓hg133_15, ↓hg133_16, ↓hg133_17, ↓hg133_18, ↓hg133_19, ↓hg133_20, ↓hg133_21, hw133_21, ↓hg133_22, ↓hg133_23, hw133_23, ↓hg133_24, hw133_24, ↓hg133_25, hw133_25, ↓hg133_26, hw133_26, ↓hg133_27, hw133_27, ↓hg133_28, ↓hg133_29, hw133_29, ↓hg133_30, hw133_30, ↓hg133_31, hw133_31, ↓hg133_32, hw133_32, ↓hg133_33, hw133_33, ↓hg133_34, hw133_34, ↓hg133_35, hw133_35, ↓hg133_36, hw133_36, ↓hg133_37, ↓hg133_38, ↓hg133_39, ↓hv133, ↓hx133, ha134, hu134, ↓hl134, ha135, hu135, ↓hl135, ha136, hu136, ↓hl136, ha137, hu137, ↓hl137, ha138, hu138, ↓hl138, ha139, hu139, ↓hl139, ha140, hu140, ↓hl140, ha141, hu141, ↓hl141, ha142, hu142, ↓hl142, ha143, hu143, ↓hl143, ha144, hu144, ↓hl144, ha145, hu145, ↓hl145, ha146, hu146, ↓hl146, ha147, hu147, ↓hl147, w4, g4, w5, g5, w6, g6, w7, g7, w8, g8, ↓mo_cs_s, ↓mo_xs_r, ↓mo_xs_l, ↓mo_nl_s, mo_z_0, mo_z_1, b2i_0, Bool.true_eq_false, if_false, if_true]
  | false =>
  cases g9 : wdB L s.2.2 9 with
  | true =>
    refine flt 1 (by omega) hso (by unfold kindOf; rw [g8, g9, if_neg (by decide), if_pos rfl]) ?_
    unfold m_X7_statement
    simp (disch := omega) only [ji1, ji2, ji3, ji4, ji5, ji6, ji7, ji8, ji9, ji10, ji11, ji12, ji13, ji14, ji15, ji16, ji19, ji20, ji39, ji119, ji144, ji366, ji24, ji31, ji32, ji45, ji48, ji57, ji58, ji59, ji97, ji120, ji122, ji183, ji200, ji226, ji240, ji255, ji500, jI_z, ↓jI_m1, jI_add, jI_sub, jI_mul, ↓hg133_0, hw133_0, ↓hg133_1, ↓hg133_2, ↓hg133_3, hw133_3, ↓hg133_4, hw133_4, ↓hg133_5, hw133_5, ↓hg133_6, hw133_6, ↓hg133_7, hw133_7, ↓hg133_8, hw133_8, ↓hg133_9, hw133_9, ↓hg133_10, hw133_10, ↓hg133_11, hw133_11, ↓hg133_12, hw133_12, ↓hg133_13, ↓hg133_14, hw133_14, ↓hg133_15, ↓hg133_16, ↓hg133_17, ↓hg133_18, ↓hg133_19, ↓hg133_20, ↓hg133_21, hw133_21, ↓hg133_22, ↓hg133_23, hw133_23, ↓hg133_24, hw133_24, ↓hg133_25, hw133_25, ↓hg133_26, hw133_26, ↓hg133_27, hw133_27, ↓hg133_28, ↓hg133_29, hw133_29, ↓hg133_30, hw133_30, ↓hg133_31, hw133_31, ↓hg133_32, hw133_32, ↓hg133_33, hw133_33, ↓hg133_34, hw133_34, ↓hg133_35, hw133_35, ↓hg133_36, hw133_36, ↓hg133_37, ↓hg133_38, ↓hg133_39, ↓hv133, ↓hx133, ha134, hu134, ↓hl134, ha135, hu135, ↓hl135, ha136, hu136, ↓hl136, ha137, hu137, ↓hl137, ha138, hu138, ↓hl138, ha139, hu139, ↓hl139, ha140, hu140, ↓hl140, ha141, hu141, ↓hl141, ha142, hu142, ↓hl142, ha143, hu143, ↓hl143, ha144, hu144, ↓hl144, ha145, hu145, ↓hl145, ha146, hu146, ↓hl146, ha147, hu147, ↓hl147, w4, g4, w5, g5, w6, g6, w7, g7, w8, g8, w9, g9, ↓mo_cs_s, ↓mo_xs_r, ↓mo_xs_l, ↓mo_nl_s, mo_z_0, mo_z_1, b2i_0, Bool.true_eq_false, if_false, if_true]
  | false =>
  cases g10 : wdB L s.2.2 10 with
  | true =>
    refine flt 2 (by omega) hso (by unfold kindOf; rw [g8, g9, g10, if_neg (by decide), if_neg (by decide), if_pos rfl]) ?_
    unfold m_X7_statement
    simp (disch := omega) only [ji1, ji2, ji3, ji4, ji5, ji6, ji7, ji8, ji9, ji10, ji11, ji12, ji13, ji14, ji15, ji16, ji19, ji20, ji39, ji119, ji144, ji366, ji24, ji31, ji32, ji45, ji48, ji57, ji58, ji59, ji97, ji120, ji122, ji183, ji200, ji226, ji240, ji255, ji500, jI_z, ↓jI_m1, jI_add, jI_sub, jI_mul, ↓hg133_0, hw133_0, ↓hg133_1, ↓hg133_2, ↓hg133_3, hw133_3, ↓hg133_4, hw133_4, ↓hg133_5, hw133_5, ↓hg133_6, hw133_6, ↓hg133_7, hw133_7, ↓hg133_8, hw133_8, ↓hg133_9, hw133_9, ↓hg133_10, hw133_10, ↓hg133_11, hw133_11, ↓hg133_12, hw133_12, ↓hg133_13, ↓hg133_14, hw133_14, ↓hg133_15, ↓hg133_16, ↓hg133_17, ↓hg133_18, ↓hg133_19, ↓hg133_20, ↓hg133_21, hw133_21, ↓hg133_22, ↓hg133_23, hw133_23, ↓hg133_24, hw133_24, ↓hg133_25, hw133_25, ↓hg133_26, hw133_26, ↓hg133_27, hw133_27, ↓hg133_28, ↓hg133_29, hw133_29, ↓hg133_30, hw133_30, ↓hg133_31, hw133_31, ↓hg133_32, hw133_32, ↓hg133_33, hw133_33, ↓hg133_34, hw133_34, ↓hg133_35, hw133_35, ↓hg133_36, hw133_36, ↓hg133_37, ↓hg133_38, ↓hg133_39, ↓hv133, ↓hx133, ha134, hu134, ↓hl134, ha135, hu135, ↓hl135, ha136, hu136, ↓hl136, ha137, hu137, ↓hl137, ha138, hu138, ↓hl138, ha139, hu139, ↓hl139, ha140, hu140, ↓hl140, ha141, hu141, ↓hl141, ha142, hu142, ↓hl142, ha143, hu143, ↓hl143, ha144, hu144, ↓hl144, ha145, hu145, ↓hl145, ha146, hu146, ↓hl146, ha147, hu147, ↓hl147, w4, g4, w5, g5, w6, g6, w7, g7, w8, g8, w9, g9, w10, g10, ↓mo_cs_s, ↓mo_xs_r, ↓mo_xs_l, ↓mo_nl_s, mo_z_0, mo_z_1, b2i_0, Bool.true_eq_false, if_false, if_true]
  | false =>
    have hb : sBody L s = .inl (1, tS L s.2.2) := by
      unfold sBody sFault; rw [hso]
      have : kindOf L s.2.2 = none := by unfold kindOf; rw [g8, g9, g10, if_neg (by decide), if_neg (by decide), if_neg (by decide)]
      rw [this]
    rw [hb]
    obtain ⟨M1, r1, r2, r3⟩ := X7_fl (z := z) (c := 1) h.1.2.2.1 h.2.1
    refine ⟨M1, ?_, r2, r3⟩
    unfold m_X7_statement
    simp (disch := omega) only [ji1, ji2, ji3, ji4, ji5, ji6, ji7, ji8, ji9, ji10, ji11, ji12, ji13, ji14, ji15, ji16, ji19, ji20, ji39, ji119, ji144, ji366, ji24, ji31, ji32, ji45, ji48, ji57, ji58, ji59, ji97, ji120, ji122, ji183, ji200, ji226, ji240, ji255, ji500, jI_z, ↓jI_m1, jI_add, jI_sub, jI_mul, ↓hg133_0, hw133_0, ↓hg133_1, ↓hg133_2, ↓hg133_3, hw133_3, ↓hg133_4, hw133_4, ↓hg133_5, hw133_5, ↓hg133_6, hw133_6, ↓hg133_7, hw133_7, ↓hg133_8, hw133_8, ↓hg133_9, hw133_9, ↓hg133_10, hw133_10, ↓hg133_11, hw133_11, ↓hg133_12, hw133_12, ↓hg133_13, ↓hg133_14, hw133_14, ↓hg133_15, ↓hg133_16, ↓hg133_17, ↓hg133_18, ↓hg133_19, ↓hg133_20, ↓hg133_21, hw133_21, ↓hg133_22, ↓hg133_23, hw133_23, ↓hg133_24, hw133_24, ↓hg133_25, hw133_25, ↓hg133_26, hw133_26, ↓hg133_27, hw133_27, ↓hg133_28, ↓hg133_29, hw133_29, ↓hg133_30, hw133_30, ↓hg133_31, hw133_31, ↓hg133_32, hw133_32, ↓hg133_33, hw133_33, ↓hg133_34, hw133_34, ↓hg133_35, hw133_35, ↓hg133_36, hw133_36, ↓hg133_37, ↓hg133_38, ↓hg133_39, ↓hv133, ↓hx133, ha134, hu134, ↓hl134, ha135, hu135, ↓hl135, ha136, hu136, ↓hl136, ha137, hu137, ↓hl137, ha138, hu138, ↓hl138, ha139, hu139, ↓hl139, ha140, hu140, ↓hl140, ha141, hu141, ↓hl141, ha142, hu142, ↓hl142, ha143, hu143, ↓hl143, ha144, hu144, ↓hl144, ha145, hu145, ↓hl145, ha146, hu146, ↓hl146, ha147, hu147, ↓hl147, w4, g4, w5, g5, w6, g6, w7, g7, w8, g8, w9, g9, w10, g10, ↓mo_cs_s, ↓mo_xs_r, ↓mo_xs_l, ↓mo_nl_s, mo_z_0, mo_z_1, b2i_0, Bool.true_eq_false, if_false, if_true]
    rw [r1]
    simp (disch := omega) only [↓mo_cs_s, ↓mo_xs_r, ↓mo_xs_l, ↓mo_nl_s, mo_z_0, mo_z_1]

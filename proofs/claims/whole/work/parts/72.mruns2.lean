/-! .. to their ends, and the promises that they break. -/
theorem X7_runs_l {z a : Nat} {c : hCf} (ha : isR a) (hc : okC c) : ∀ (n : Nat) (t : Int) (s : hS) (M : hM) (f : Nat), t + n = c.1 2 → 0 ≤ t → zJ c t 0 s → MR M c a t s → gI M 133 27 = 0 → n + 1 < f →
    ∃ M', m_X7_runs_l77 (z + 133) (z + a) f (hp z M) = some ((), hp z M') ∧ MR M' c a (zRun c n t s).1 (zRun c n t s).2 ∧ FrM M M' ∧ Vr M M' := by
  have hcs := hc.s
  intro n
  induction n with
  | zero =>
    intro t s M f ht h0 hz h h27 hf
    obtain ⟨f, rfl⟩ : ∃ k, f = k + 1 := ⟨f - 1, by omega⟩
    obtain ⟨hV, hR, h26, hL, hD, hS, hB, hN, hJ, hK⟩ := MR_get h
    have r2 : gA M a (2 : Int).toNat = c.1 2 := hR.1 2 (by omega)
    refine ⟨M, ?_, h, FrM.rfl', Vr.rfl'⟩
    have hlt : ¬ t < c.1 2 := by omega
    unfold m_X7_runs_l77
    simp (disch := omega) only [ji1, ji2, ji3, ji4, ji5, ji6, ji7, ji8, ji9, ji10, ji11, ji12, ji13, ji14, ji15, ji16, ji19, ji20, ji39, ji119, ji144, ji366, ji24, ji31, ji32, ji45, ji48, ji57, ji58, ji59, ji97, ji120, ji122, ji183, ji200, ji226, ji240, ji255, ji500, jI_z, ↓jI_m1, jI_add, jI_sub, jI_mul, ↓hg133_0, hw133_0, ↓hg133_1, ↓hg133_2, ↓hg133_3, hw133_3, ↓hg133_4, hw133_4, ↓hg133_5, hw133_5, ↓hg133_6, hw133_6, ↓hg133_7, hw133_7, ↓hg133_8, hw133_8, ↓hg133_9, hw133_9, ↓hg133_10, hw133_10, ↓hg133_11, hw133_11, ↓hg133_12, hw133_12, ↓hg133_13, ↓hg133_14, hw133_14, ↓hg133_15, ↓hg133_16, ↓hg133_17, ↓hg133_18, ↓hg133_19, ↓hg133_20, ↓hg133_21, hw133_21, ↓hg133_22, ↓hg133_23, hw133_23, ↓hg133_24, hw133_24, ↓hg133_25, hw133_25, ↓hg133_26, hw133_26, ↓hg133_27, hw133_27, ↓hg133_28, ↓hg133_29, hw133_29, ↓hg133_30, hw133_30, ↓hg133_31, hw133_31, ↓hg133_32, hw133_32, ↓hg133_33, hw133_33, ↓hg133_34, hw133_34, ↓hg133_35, hw133_35, ↓hg133_36, hw133_36, ↓hg133_37, ↓hg133_38, ↓hg133_39, ↓hv133, ↓hx133, ha134, hu134, ↓hl134, ha135, hu135, ↓hl135, ha136, hu136, ↓hl136, ha137, hu137, ↓hl137, ha138, hu138, ↓hl138, ha139, hu139, ↓hl139, ha140, hu140, ↓hl140, ha141, hu141, ↓hl141, ha142, hu142, ↓hl142, ha143, hu143, ↓hl143, ha144, hu144, ↓hl144, ha145, hu145, ↓hl145, ha146, hu146, ↓hl146, ha147, hu147, ↓hl147, h26, Ra ha, r2, jI_lt, hlt, if_false]
  | succ n ih =>
    intro t s M f ht h0 hz h h27 hf
    obtain ⟨f, rfl⟩ : ∃ k, f = k + 1 := ⟨f - 1, by omega⟩
    obtain ⟨hV, hR, h26, hL, hD, hS, hB, hN, hJ, hK⟩ := MR_get h
    have r2 : gA M a (2 : Int).toNat = c.1 2 := hR.1 2 (by omega)
    have hlt : t < c.1 2 := by omega
    obtain ⟨M1, r1, q2, q3, q4, q5⟩ := X7_tick (z := z) (a1 := z + a) (K := fun ρ => m_X7_runs_l77 (z + 133) (z + a) f ρ) ha hc ⟨h0, by omega⟩ hz h
    have hz1 := zJ_tick hc hz h0
    have pre : ∀ r, m_X7_runs_l77 (z + 133) (z + a) f (hp z M1) = r → m_X7_runs_l77 (z + 133) (z + a) (f + 1) (hp z M) = r := by
      intro r hr
      rw [← hr]
      conv => lhs; unfold m_X7_runs_l77
      simp (disch := omega) only [ji1, ji2, ji3, ji4, ji5, ji6, ji7, ji8, ji9, ji10, ji11, ji12, ji13, ji14, ji15, ji16, ji19, ji20, ji39, ji119, ji144, ji366, ji24, ji31, ji32, ji45, ji48, ji57, ji58, ji59, ji97, ji120, ji122, ji183, ji200, ji226, ji240, ji255, ji500, jI_z, ↓jI_m1, jI_add, jI_sub, jI_mul, ↓hg133_0, hw133_0, ↓hg133_1, ↓hg133_2, ↓hg133_3, hw133_3, ↓hg133_4, hw133_4, ↓hg133_5, hw133_5, ↓hg133_6, hw133_6, ↓hg133_7, hw133_7, ↓hg133_8, hw133_8, ↓hg133_9, hw133_9, ↓hg133_10, hw133_10, ↓hg133_11, hw133_11, ↓hg133_12, hw133_12, ↓hg133_13, ↓hg133_14, hw133_14, ↓hg133_15, ↓hg133_16, ↓hg133_17, ↓hg133_18, ↓hg133_19, ↓hg133_20, ↓hg133_21, hw133_21, ↓hg133_22, ↓hg133_23, hw133_23, ↓hg133_24, hw133_24, ↓hg133_25, hw133_25, ↓hg133_26, hw133_26, ↓hg133_27, hw133_27, ↓hg133_28, ↓hg133_29, hw133_29, ↓hg133_30, hw133_30, ↓hg133_31, hw133_31, ↓hg133_32, hw133_32, ↓hg133_33, hw133_33, ↓hg133_34, hw133_34, ↓hg133_35, hw133_35, ↓hg133_36, hw133_36, ↓hg133_37, ↓hg133_38, ↓hg133_39, ↓hv133, ↓hx133, ha134, hu134, ↓hl134, ha135, hu135, ↓hl135, ha136, hu136, ↓hl136, ha137, hu137, ↓hl137, ha138, hu138, ↓hl138, ha139, hu139, ↓hl139, ha140, hu140, ↓hl140, ha141, hu141, ↓hl141, ha142, hu142, ↓hl142, ha143, hu143, ↓hl143, ha144, hu144, ↓hl144, ha145, hu145, ↓hl145, ha146, hu146, ↓hl146, ha147, hu147, ↓hl147, h26, Ra ha, r2, jI_lt, hlt, if_true, h27, hL.1]
      rw [r1]
    by_cases gv : zOver c t (zTick c t s) = true
    · have hR' : zRun c (n + 1) t s = (t + 1, zTick c t s) := by simp only [zRun, gv, if_true]
      rw [hR']
      refine ⟨M1, pre _ ?_, q2, q4, q5⟩
      obtain ⟨f, rfl⟩ : ∃ k, f = k + 1 := ⟨f - 1, by omega⟩
      obtain ⟨kV, kR, k26, _⟩ := MR_get q2
      have k2 : gA M1 a (2 : Int).toNat = c.1 2 := kR.1 2 (by omega)
      have k27 : gI M1 133 27 = 1 := by rw [q3, gv]; rfl
      unfold m_X7_runs_l77
      simp (disch := omega) only [ji1, ji2, ji3, ji4, ji5, ji6, ji7, ji8, ji9, ji10, ji11, ji12, ji13, ji14, ji15, ji16, ji19, ji20, ji39, ji119, ji144, ji366, ji24, ji31, ji32, ji45, ji48, ji57, ji58, ji59, ji97, ji120, ji122, ji183, ji200, ji226, ji240, ji255, ji500, jI_z, ↓jI_m1, jI_add, jI_sub, jI_mul, ↓hg133_0, hw133_0, ↓hg133_1, ↓hg133_2, ↓hg133_3, hw133_3, ↓hg133_4, hw133_4, ↓hg133_5, hw133_5, ↓hg133_6, hw133_6, ↓hg133_7, hw133_7, ↓hg133_8, hw133_8, ↓hg133_9, hw133_9, ↓hg133_10, hw133_10, ↓hg133_11, hw133_11, ↓hg133_12, hw133_12, ↓hg133_13, ↓hg133_14, hw133_14, ↓hg133_15, ↓hg133_16, ↓hg133_17, ↓hg133_18, ↓hg133_19, ↓hg133_20, ↓hg133_21, hw133_21, ↓hg133_22, ↓hg133_23, hw133_23, ↓hg133_24, hw133_24, ↓hg133_25, hw133_25, ↓hg133_26, hw133_26, ↓hg133_27, hw133_27, ↓hg133_28, ↓hg133_29, hw133_29, ↓hg133_30, hw133_30, ↓hg133_31, hw133_31, ↓hg133_32, hw133_32, ↓hg133_33, hw133_33, ↓hg133_34, hw133_34, ↓hg133_35, hw133_35, ↓hg133_36, hw133_36, ↓hg133_37, ↓hg133_38, ↓hg133_39, ↓hv133, ↓hx133, ha134, hu134, ↓hl134, ha135, hu135, ↓hl135, ha136, hu136, ↓hl136, ha137, hu137, ↓hl137, ha138, hu138, ↓hl138, ha139, hu139, ↓hl139, ha140, hu140, ↓hl140, ha141, hu141, ↓hl141, ha142, hu142, ↓hl142, ha143, hu143, ↓hl143, ha144, hu144, ↓hl144, ha145, hu145, ↓hl145, ha146, hu146, ↓hl146, ha147, hu147, ↓hl147, k26, Ra ha, k2, jI_lt, k27, jI_eq, show ¬ (1 : Int) = 0 by omega, if_false]
      by_cases g : t + 1 < c.1 2
      · rw [if_pos g]
      · rw [if_neg g]
    · have hR' : zRun c (n + 1) t s = zRun c n (t + 1) (zTick c t s) := by simp only [zRun, gv, if_false]; rfl
      rw [hR']
      obtain ⟨M', k1, k2, k3, k4⟩ := ih (t + 1) (zTick c t s) M1 f (by omega) (by omega) hz1 q2 (by rw [q3]; unfold b2i; rw [if_neg gv]) (by omega)
      exact ⟨M', pre _ k1, k2, q4.trans k3, q5.trans k4⟩
theorem X7_clr_l {z a : Nat} {M0 : hM} : ∀ (d i n : Nat) (M : hM), i + d = 144 → d < n → (∀ k, k < i → gA M 144 k = 0) → (∀ b k, gI M b k = gI M0 b k) → (∀ b k, b ≠ 144 → gA M b k = gA M0 b k) → Vr M0 M →
    ∃ M', m_X7_runs_l47 (z + 133) (z + a) n (hp z M) (jI i) = m_X7_runs_l77 (z + 133) (z + a) hN_f (hp z (sI (sI M' 133 27 0) 133 26 0)) ∧ (∀ k, k < 144 → gA M' 144 k = 0) ∧ (∀ b k, gI M' b k = gI M0 b k) ∧ (∀ b k, b ≠ 144 → gA M' b k = gA M0 b k) ∧ Vr M0 M' := by
  intro d
  induction d with
  | zero =>
    intro i n M hi hn h1 h2 h3 h4
    obtain ⟨n, rfl⟩ : ∃ k, n = k + 1 := ⟨n - 1, by omega⟩
    have hi9 : i = 144 := by omega
    subst hi9
    refine ⟨M, ?_, h1, h2, h3, h4⟩
    unfold m_X7_runs_l47
    have h9 : ¬ ((144 : Nat) : Int) < 144 := by omega
    simp (disch := omega) only [ji1, ji2, ji3, ji4, ji5, ji6, ji7, ji8, ji9, ji10, ji11, ji12, ji13, ji14, ji15, ji16, ji19, ji20, ji39, ji119, ji144, ji366, ji24, ji31, ji32, ji45, ji48, ji57, ji58, ji59, ji97, ji120, ji122, ji183, ji200, ji226, ji240, ji255, ji500, jI_z, ↓jI_m1, jI_add, jI_sub, jI_mul, jI_lt, h9, if_false, ↓mo_cs_s, ↓mo_xs_r, ↓mo_xs_l, ↓mo_nl_s, mo_z_0, mo_z_1, ↓hg133_0, hw133_0, ↓hg133_1, ↓hg133_2, ↓hg133_3, hw133_3, ↓hg133_4, hw133_4, ↓hg133_5, hw133_5, ↓hg133_6, hw133_6, ↓hg133_7, hw133_7, ↓hg133_8, hw133_8, ↓hg133_9, hw133_9, ↓hg133_10, hw133_10, ↓hg133_11, hw133_11, ↓hg133_12, hw133_12, ↓hg133_13, ↓hg133_14, hw133_14, ↓hg133_15, ↓hg133_16, ↓hg133_17, ↓hg133_18, ↓hg133_19, ↓hg133_20, ↓hg133_21, hw133_21, ↓hg133_22, ↓hg133_23, hw133_23, ↓hg133_24, hw133_24, ↓hg133_25, hw133_25, ↓hg133_26, hw133_26, ↓hg133_27, hw133_27, ↓hg133_28, ↓hg133_29, hw133_29, ↓hg133_30, hw133_30, ↓hg133_31, hw133_31, ↓hg133_32, hw133_32, ↓hg133_33, hw133_33, ↓hg133_34, hw133_34, ↓hg133_35, hw133_35, ↓hg133_36, hw133_36, ↓hg133_37, ↓hg133_38, ↓hg133_39, ↓hv133, ↓hx133, ha134, hu134, ↓hl134, ha135, hu135, ↓hl135, ha136, hu136, ↓hl136, ha137, hu137, ↓hl137, ha138, hu138, ↓hl138, ha139, hu139, ↓hl139, ha140, hu140, ↓hl140, ha141, hu141, ↓hl141, ha142, hu142, ↓hl142, ha143, hu143, ↓hl143, ha144, hu144, ↓hl144, ha145, hu145, ↓hl145, ha146, hu146, ↓hl146, ha147, hu147, ↓hl147]
  | succ d ih =>
    intro i n M hi hn h1 h2 h3 h4
    obtain ⟨n, rfl⟩ : ∃ k, n = k + 1 := ⟨n - 1, by omega⟩
    obtain ⟨M', r1, r2⟩ := ih (i + 1) n (sA M 144 i 0) (by omega) (by omega) (fun k hk => by
        rw [gA_sA]; by_cases hki : k = i
        · rw [if_pos ⟨rfl, hki⟩]
        · rw [if_neg (by omega)]; exact h1 k (by omega)) (fun a k => h2 a k) (fun a k ha => by rw [gA_sA, if_neg (by omega)]; exact h3 a k ha) h4
    refine ⟨M', ?_, r2⟩
    have h9 : (i : Int) < 144 := by omega
    have ej' : (i : Int) + 1 = ((i + 1 : Nat) : Int) := by omega
    have n0 : vp_nar .boolean (jI 0) = jI 0 := by decide
    unfold m_X7_runs_l47
    simp (disch := omega) only [ji1, ji2, ji3, ji4, ji5, ji6, ji7, ji8, ji9, ji10, ji11, ji12, ji13, ji14, ji15, ji16, ji19, ji20, ji39, ji119, ji144, ji366, ji24, ji31, ji32, ji45, ji48, ji57, ji58, ji59, ji97, ji120, ji122, ji183, ji200, ji226, ji240, ji255, ji500, jI_z, ↓jI_m1, jI_add, jI_sub, jI_mul, jI_lt, ↓hg133_0, hw133_0, ↓hg133_1, ↓hg133_2, ↓hg133_3, hw133_3, ↓hg133_4, hw133_4, ↓hg133_5, hw133_5, ↓hg133_6, hw133_6, ↓hg133_7, hw133_7, ↓hg133_8, hw133_8, ↓hg133_9, hw133_9, ↓hg133_10, hw133_10, ↓hg133_11, hw133_11, ↓hg133_12, hw133_12, ↓hg133_13, ↓hg133_14, hw133_14, ↓hg133_15, ↓hg133_16, ↓hg133_17, ↓hg133_18, ↓hg133_19, ↓hg133_20, ↓hg133_21, hw133_21, ↓hg133_22, ↓hg133_23, hw133_23, ↓hg133_24, hw133_24, ↓hg133_25, hw133_25, ↓hg133_26, hw133_26, ↓hg133_27, hw133_27, ↓hg133_28, ↓hg133_29, hw133_29, ↓hg133_30, hw133_30, ↓hg133_31, hw133_31, ↓hg133_32, hw133_32, ↓hg133_33, hw133_33, ↓hg133_34, hw133_34, ↓hg133_35, hw133_35, ↓hg133_36, hw133_36, ↓hg133_37, ↓hg133_38, ↓hg133_39, ↓hv133, ↓hx133, ha134, hu134, ↓hl134, ha135, hu135, ↓hl135, ha136, hu136, ↓hl136, ha137, hu137, ↓hl137, ha138, hu138, ↓hl138, ha139, hu139, ↓hl139, ha140, hu140, ↓hl140, ha141, hu141, ↓hl141, ha142, hu142, ↓hl142, ha143, hu143, ↓hl143, ha144, hu144, ↓hl144, ha145, hu145, ↓hl145, ha146, hu146, ↓hl146, ha147, hu147, ↓hl147, h9, if_true, ej', Int.toNat_natCast, n0]
    exact r1
/-- THE RUN OF THE MODEL -/
theorem X7_runs {z a : Nat} {M : hM} {c : hCf} (ha : isR a) (hc : okC c) (hR : RR (gA M a) c) :
    ∃ M', m_X7_runs (hp z M) (z + 133) (z + a) = some ((), hp z M') ∧ MR M' c a (zR c).1 (zR c).2 ∧ FrM M M' ∧ (∀ k, k ≠ 1 → gV M' k = gV M k) := by
  have hcs := hc.s
  generalize hM1 : sI (sI (sI (sI (sI (sI (sI (sI (sV M 1 a) 133 21 0) 133 23 0) 133 24 0) 133 25 (-1)) 133 29 0) 133 30 0) 133 31 (-1)) 133 32 0 = M1
  have hF1 : FrM M M1 := by
    rw [← hM1]
    exact ((((FrM.sV.trans (FrM.sI (by omega))).trans (FrM.sI (by omega))).trans (FrM.sI (by omega))).trans (FrM.sI (by omega))).trans ((((FrM.sI (by omega)).trans (FrM.sI (by omega))).trans (FrM.sI (by omega))).trans (FrM.sI (by omega)))
  have e1 : ∀ b k, gA M1 b k = gA M b k := fun b k => by rw [← hM1]; rfl
  obtain ⟨M2, r1, r2, r3, r4, r5⟩ := X7_clr_l (z := z) (a := a) (M0 := M1) 144 0 hN_f M1 (by omega) (by unfold hN_f; omega) (by omega) (fun _ _ => rfl) (fun _ _ _ => rfl) (fun _ => rfl)
  have hF2 : FrM M1 (sI (sI M2 133 27 0) 133 26 0) := by
    have : FrM M1 M2 := ⟨fun b h1 h2 => ⟨fun k => r3 b k, fun k => r4 b k (by omega)⟩, fun k hk => r3 133 k⟩
    exact (this.trans (FrM.sI (by omega))).trans (FrM.sI (by omega))
  have e2 : ∀ k, k ≠ 26 → k ≠ 27 → gI (sI (sI M2 133 27 0) 133 26 0) 133 k = gI M1 133 k := fun k h1 h2 => by rw [gI_sI, if_neg (by omega), gI_sI, if_neg (by omega), r3]
  have hMR : MR (sI (sI M2 133 27 0) 133 26 0) c a 0 z0 := by
    refine ⟨?_, (hF1.trans hF2).row ha hR, by rw [gI_sI, if_pos ⟨rfl, rfl⟩], ⟨by rw [e2 21 (by omega) (by omega), ← hM1]; simp [gI_sI], fun k x hk => by simp at hk⟩, ⟨by rw [e2 23 (by omega) (by omega), ← hM1]; simp [gI_sI], fun k x hk => by simp at hk, by rw [e2 24 (by omega) (by omega), ← hM1]; simp [gI_sI, seenM], by rw [e2 25 (by omega) (by omega), ← hM1]; simp [gI_sI]⟩, fun s' t' h1 h2 => ?_, by rw [e2 29 (by omega) (by omega), ← hM1]; simp [gI_sI], by rw [e2 30 (by omega) (by omega), ← hM1]; simp [gI_sI], by rw [e2 31 (by omega) (by omega), ← hM1]; simp [gI_sI], by rw [e2 32 (by omega) (by omega), ← hM1]; simp [gI_sI]⟩
    · show gV M2 1 = a
      rw [r5, ← hM1]; simp [gV_sI, gV_sV]
    · show gA M2 144 _ = _
      rw [r2 _ (by omega)]; simp
  obtain ⟨M', s1, s2, s3, s4⟩ := X7_runs_l (z := z) ha hc (c.1 2).toNat 0 z0 _ hN_f (by omega) (by omega) (zJ_0 hc) hMR (by rw [gI_sI, if_neg (by omega), gI_sI, if_pos ⟨rfl, rfl⟩]) (by unfold hN_f; omega)
  refine ⟨M', ?_, s2, (hF1.trans hF2).trans s3, fun k hk => ?_⟩
  · unfold m_X7_runs
    simp (disch := omega) only [ji1, ji2, ji3, ji4, ji5, ji6, ji7, ji8, ji9, ji10, ji11, ji12, ji13, ji14, ji15, ji16, ji19, ji20, ji39, ji119, ji144, ji366, ji24, ji31, ji32, ji45, ji48, ji57, ji58, ji59, ji97, ji120, ji122, ji183, ji200, ji226, ji240, ji255, ji500, jI_z, ↓jI_m1, jI_add, jI_sub, jI_mul, ↓hg133_0, hw133_0, ↓hg133_1, ↓hg133_2, ↓hg133_3, hw133_3, ↓hg133_4, hw133_4, ↓hg133_5, hw133_5, ↓hg133_6, hw133_6, ↓hg133_7, hw133_7, ↓hg133_8, hw133_8, ↓hg133_9, hw133_9, ↓hg133_10, hw133_10, ↓hg133_11, hw133_11, ↓hg133_12, hw133_12, ↓hg133_13, ↓hg133_14, hw133_14, ↓hg133_15, ↓hg133_16, ↓hg133_17, ↓hg133_18, ↓hg133_19, ↓hg133_20, ↓hg133_21, hw133_21, ↓hg133_22, ↓hg133_23, hw133_23, ↓hg133_24, hw133_24, ↓hg133_25, hw133_25, ↓hg133_26, hw133_26, ↓hg133_27, hw133_27, ↓hg133_28, ↓hg133_29, hw133_29, ↓hg133_30, hw133_30, ↓hg133_31, hw133_31, ↓hg133_32, hw133_32, ↓hg133_33, hw133_33, ↓hg133_34, hw133_34, ↓hg133_35, hw133_35, ↓hg133_36, hw133_36, ↓hg133_37, ↓hg133_38, ↓hg133_39, ↓hv133, ↓hx133, ha134, hu134, ↓hl134, ha135, hu135, ↓hl135, ha136, hu136, ↓hl136, ha137, hu137, ↓hl137, ha138, hu138, ↓hl138, ha139, hu139, ↓hl139, ha140, hu140, ↓hl140, ha141, hu141, ↓hl141, ha142, hu142, ↓hl142, ha143, hu143, ↓hl143, ha144, hu144, ↓hl144, ha145, hu145, ↓hl145, ha146, hu146, ↓hl146, ha147, hu147, ↓hl147, hM1]
    rw [Int.natCast_zero] at r1
    rw [r1]; exact s1
  · rw [s4]
    show gV M2 k = _
    rw [r5, ← hM1]; simp [gV_sI, gV_sV, hk]
theorem X7_br_l {z : Nat} {M : hM} {O : List Int} {C p : Int} (hO : ∀ x ∈ O, 0 ≤ x ∧ x ≤ 7) (hl : O.length ≤ 240) (hD : MD M O C) (hp' : p = 1 ∨ p = 2) : ∀ (l : List Int) (i f : Nat) (m : Nat) (g : Int) (v : Bool), O.drop i = l → l.length < f → i ≤ O.length → m < 256 → -1 ≤ g ∧ g ≤ 7 →
    m_X7_isBroken_l61 (z + 133) (jI p) f (hp z M) (jI m) (jI g) (jI (b2i v)) (jI i) = some (jI (b2i (v || if p = 1 then dbO l m else diO l g)), hp z M) := by
  have b1 : b2i true = 1 := rfl
  have b0 : b2i false = 0 := rfl
  intro l
  induction l with
  | nil =>
    intro i f m g v hl' hf hi hm hg
    obtain ⟨f, rfl⟩ : ∃ k, f = k + 1 := ⟨f - 1, by simp at hf; omega⟩
    have hi' : O.length ≤ i := by simpa using hl'
    have hlt : ¬ (i : Int) < O.length := by omega
    have e : (v || if p = 1 then dbO [] m else diO [] g) = v := by simp [dbO, diO]
    rw [e]
    unfold m_X7_isBroken_l61
    simp (disch := omega) only [ji1, ji2, ji3, ji4, ji5, ji6, ji7, ji8, ji9, ji10, ji11, ji12, ji13, ji14, ji15, ji16, ji19, ji20, ji39, ji119, ji144, ji366, ji24, ji31, ji32, ji45, ji48, ji57, ji58, ji59, ji97, ji120, ji122, ji183, ji200, ji226, ji240, ji255, ji500, jI_z, ↓jI_m1, jI_add, jI_sub, jI_mul, ↓hg133_0, hw133_0, ↓hg133_1, ↓hg133_2, ↓hg133_3, hw133_3, ↓hg133_4, hw133_4, ↓hg133_5, hw133_5, ↓hg133_6, hw133_6, ↓hg133_7, hw133_7, ↓hg133_8, hw133_8, ↓hg133_9, hw133_9, ↓hg133_10, hw133_10, ↓hg133_11, hw133_11, ↓hg133_12, hw133_12, ↓hg133_13, ↓hg133_14, hw133_14, ↓hg133_15, ↓hg133_16, ↓hg133_17, ↓hg133_18, ↓hg133_19, ↓hg133_20, ↓hg133_21, hw133_21, ↓hg133_22, ↓hg133_23, hw133_23, ↓hg133_24, hw133_24, ↓hg133_25, hw133_25, ↓hg133_26, hw133_26, ↓hg133_27, hw133_27, ↓hg133_28, ↓hg133_29, hw133_29, ↓hg133_30, hw133_30, ↓hg133_31, hw133_31, ↓hg133_32, hw133_32, ↓hg133_33, hw133_33, ↓hg133_34, hw133_34, ↓hg133_35, hw133_35, ↓hg133_36, hw133_36, ↓hg133_37, ↓hg133_38, ↓hg133_39, ↓hv133, ↓hx133, ha134, hu134, ↓hl134, ha135, hu135, ↓hl135, ha136, hu136, ↓hl136, ha137, hu137, ↓hl137, ha138, hu138, ↓hl138, ha139, hu139, ↓hl139, ha140, hu140, ↓hl140, ha141, hu141, ↓hl141, ha142, hu142, ↓hl142, ha143, hu143, ↓hl143, ha144, hu144, ↓hl144, ha145, hu145, ↓hl145, ha146, hu146, ↓hl146, ha147, hu147, ↓hl147, jI_lt, hD.1, hlt, if_false]
    cases v
    · rw [b0]; exact mo_z_0
    · rw [b1]; exact mo_z_1
  | cons x l ih =>
    intro i f m g v hl' hf hi hm hg
    obtain ⟨f, rfl⟩ : ∃ k, f = k + 1 := ⟨f - 1, by simp at hf; omega⟩
    have hx : O[i]? = some x := by
      have := congrArg (fun l => l[0]?) hl'
      simpa using this
    have hi' : i < O.length := (List.getElem?_eq_some_iff.mp hx).1
    have hdr : O.drop (i + 1) = l := by
      have := congrArg List.tail hl'
      simpa using this
    obtain ⟨o1, o2⟩ := hO x (List.mem_of_getElem? hx)
    have e1 := hD.2.1 i x hx
    have hp2 : (2 : Nat) ^ x.toNat ≤ 2 ^ 7 := Nat.pow_le_pow_right (by omega) (by omega)
    have hm2 : m ||| 2 ^ x.toNat < 2 ^ 8 := Nat.or_lt_two_pow (n := 8) hm (by omega)
    have IH := fun v => ih (i + 1) f (m ||| 2 ^ x.toNat) (if g < x then x else g) v hdr (by simp at hf; omega) (by omega) hm2 (by split <;> omega)
    have ec : ((i + 1 : Nat) : Int) = (i : Int) + 1 := by omega
    rw [ec] at IH
    have hlt : (i : Int) < O.length := by omega
    have j114 : ∀ v : Bool, m_X7_isBroken_j114 (fun ρ y0 y1 y2 y3 => m_X7_isBroken_l61 (z + 133) (jI p) f ρ y0 y1 y2 y3) (z + 133) (jI p) (hp z M) (jI m) (jI g) (jI i) (jI (b2i v)) = some (jI (b2i (v || if p = 1 then dbO l (m ||| 2 ^ x.toNat) else diO l (if g < x then x else g))), hp z M) := by
      intro v
      have := IH v
      unfold m_X7_isBroken_j114
      simp (disch := omega) only [ji1, ji2, ji3, ji4, ji5, ji6, ji7, ji8, ji9, ji10, ji11, ji12, ji13, ji14, ji15, ji16, ji19, ji20, ji39, ji119, ji144, ji366, ji24, ji31, ji32, ji45, ji48, ji57, ji58, ji59, ji97, ji120, ji122, ji183, ji200, ji226, ji240, ji255, ji500, jI_z, ↓jI_m1, jI_add, jI_sub, jI_mul, ↓hg133_0, hw133_0, ↓hg133_1, ↓hg133_2, ↓hg133_3, hw133_3, ↓hg133_4, hw133_4, ↓hg133_5, hw133_5, ↓hg133_6, hw133_6, ↓hg133_7, hw133_7, ↓hg133_8, hw133_8, ↓hg133_9, hw133_9, ↓hg133_10, hw133_10, ↓hg133_11, hw133_11, ↓hg133_12, hw133_12, ↓hg133_13, ↓hg133_14, hw133_14, ↓hg133_15, ↓hg133_16, ↓hg133_17, ↓hg133_18, ↓hg133_19, ↓hg133_20, ↓hg133_21, hw133_21, ↓hg133_22, ↓hg133_23, hw133_23, ↓hg133_24, hw133_24, ↓hg133_25, hw133_25, ↓hg133_26, hw133_26, ↓hg133_27, hw133_27, ↓hg133_28, ↓hg133_29, hw133_29, ↓hg133_30, hw133_30, ↓hg133_31, hw133_31, ↓hg133_32, hw133_32, ↓hg133_33, hw133_33, ↓hg133_34, hw133_34, ↓hg133_35, hw133_35, ↓hg133_36, hw133_36, ↓hg133_37, ↓hg133_38, ↓hg133_39, ↓hv133, ↓hx133, ha134, hu134, ↓hl134, ha135, hu135, ↓hl135, ha136, hu136, ↓hl136, ha137, hu137, ↓hl137, ha138, hu138, ↓hl138, ha139, hu139, ↓hl139, ha140, hu140, ↓hl140, ha141, hu141, ↓hl141, ha142, hu142, ↓hl142, ha143, hu143, ↓hl143, ha144, hu144, ↓hl144, ha145, hu145, ↓hl145, ha146, hu146, ↓hl146, ha147, hu147, ↓hl147, Int.toNat_natCast, e1, jI_lt, jS, jI_or]
      by_cases gx : g < x
      · rw [if_pos gx] at this ⊢; rw [if_pos gx]; exact this
      · rw [if_neg gx] at this ⊢; rw [if_neg gx]; exact this
    have j0 := j114 false
    have j1 := j114 true
    rw [b0] at j0
    rw [b1] at j1
    unfold m_X7_isBroken_l61
    simp (disch := omega) only [ji1, ji2, ji3, ji4, ji5, ji6, ji7, ji8, ji9, ji10, ji11, ji12, ji13, ji14, ji15, ji16, ji19, ji20, ji39, ji119, ji144, ji366, ji24, ji31, ji32, ji45, ji48, ji57, ji58, ji59, ji97, ji120, ji122, ji183, ji200, ji226, ji240, ji255, ji500, jI_z, ↓jI_m1, jI_add, jI_sub, jI_mul, ↓hg133_0, hw133_0, ↓hg133_1, ↓hg133_2, ↓hg133_3, hw133_3, ↓hg133_4, hw133_4, ↓hg133_5, hw133_5, ↓hg133_6, hw133_6, ↓hg133_7, hw133_7, ↓hg133_8, hw133_8, ↓hg133_9, hw133_9, ↓hg133_10, hw133_10, ↓hg133_11, hw133_11, ↓hg133_12, hw133_12, ↓hg133_13, ↓hg133_14, hw133_14, ↓hg133_15, ↓hg133_16, ↓hg133_17, ↓hg133_18, ↓hg133_19, ↓hg133_20, ↓hg133_21, hw133_21, ↓hg133_22, ↓hg133_23, hw133_23, ↓hg133_24, hw133_24, ↓hg133_25, hw133_25, ↓hg133_26, hw133_26, ↓hg133_27, hw133_27, ↓hg133_28, ↓hg133_29, hw133_29, ↓hg133_30, hw133_30, ↓hg133_31, hw133_31, ↓hg133_32, hw133_32, ↓hg133_33, hw133_33, ↓hg133_34, hw133_34, ↓hg133_35, hw133_35, ↓hg133_36, hw133_36, ↓hg133_37, ↓hg133_38, ↓hg133_39, ↓hv133, ↓hx133, ha134, hu134, ↓hl134, ha135, hu135, ↓hl135, ha136, hu136, ↓hl136, ha137, hu137, ↓hl137, ha138, hu138, ↓hl138, ha139, hu139, ↓hl139, ha140, hu140, ↓hl140, ha141, hu141, ↓hl141, ha142, hu142, ↓hl142, ha143, hu143, ↓hl143, ha144, hu144, ↓hl144, ha145, hu145, ↓hl145, ha146, hu146, ↓hl146, ha147, hu147, ↓hl147, jI_lt, jI_eq, hD.1, hlt, if_true, Int.toNat_natCast, e1, jT]
    cases v
    · rw [b0, if_pos rfl]
      rcases hp' with hp1 | hp1
      · simp only [hp1, if_true] at j0 j1 ⊢
        by_cases gt : m.testBit x.toNat = true
        · rw [if_pos gt, if_pos rfl, j1]; simp [dbO, gt]
        · rw [if_neg gt, if_neg (by omega), j0]
          simp only [Bool.not_eq_true] at gt
          simp [dbO, gt]
      · have h21 : ¬ p = 1 := by omega
        simp only [h21, if_false] at j0 j1 ⊢
        by_cases gt : x < g
        · rw [if_pos gt, j1]; simp [diO, ltB, gt]
        · rw [if_neg gt, j0]; simp [diO, ltB, gt]
    · rw [b1, if_neg (show ¬ jI 1 = jI 0 by decide), j1]; simp
theorem X7_br {z a : Nat} {M : hM} {c : hCf} {s : hS} {t : Int} {p : Nat} (ha : isR a) (hc : okC c) (h : MR M c a t s) (hz : zJ c t 0 s) (ht : t ≤ 200) (hp' : p < 4) : m_X7_isBroken (hp z M) (z + 133) (jI p) = some (jI (b2i (zBrk c s p)), hp z M) := by
  have hcs := hc.s
  obtain ⟨hV, hR, h26, hL, hD, hS, hB, hN, hJ, hK⟩ := MR_get h
  have r7 : gA M a (7 : Int).toNat = c.1 7 := hR.1 7 (by omega)
  have hnl := hnd_le (t := t) (j := 0) (T := s.1)
  have hh : s.1.length ≤ 120 ∧ (∀ x ∈ s.2.1, 0 ≤ x ∧ x ≤ 7) ∧ -1 ≤ s.2.2.2.2.2.2.2 ∧ s.2.2.2.2.2.2.2 ≤ t := by
    obtain ⟨T, O, W, B, N, J, K, C⟩ := s
    obtain ⟨z1, z2, z3, z4, z5, z6, z7, z8, z9⟩ := hz.1
    exact ⟨z1, z3, z8.1, z8.2⟩
  have hO := hz.2
  have c25 := hD.2.2.2
  have b1 : b2i true = 1 := rfl
  have b0 : b2i false = 0 := rfl
  rcases (show p = 0 ∨ p = 1 ∨ p = 2 ∨ p = 3 by omega) with g | g | g | g
  · subst g
    unfold m_X7_isBroken
    simp (disch := omega) only [ji1, ji2, ji3, ji4, ji5, ji6, ji7, ji8, ji9, ji10, ji11, ji12, ji13, ji14, ji15, ji16, ji19, ji20, ji39, ji119, ji144, ji366, ji24, ji31, ji32, ji45, ji48, ji57, ji58, ji59, ji97, ji120, ji122, ji183, ji200, ji226, ji240, ji255, ji500, jI_z, ↓jI_m1, jI_add, jI_sub, jI_mul, Int.natCast_zero, if_true, ↓hg133_0, hw133_0, ↓hg133_1, ↓hg133_2, ↓hg133_3, hw133_3, ↓hg133_4, hw133_4, ↓hg133_5, hw133_5, ↓hg133_6, hw133_6, ↓hg133_7, hw133_7, ↓hg133_8, hw133_8, ↓hg133_9, hw133_9, ↓hg133_10, hw133_10, ↓hg133_11, hw133_11, ↓hg133_12, hw133_12, ↓hg133_13, ↓hg133_14, hw133_14, ↓hg133_15, ↓hg133_16, ↓hg133_17, ↓hg133_18, ↓hg133_19, ↓hg133_20, ↓hg133_21, hw133_21, ↓hg133_22, ↓hg133_23, hw133_23, ↓hg133_24, hw133_24, ↓hg133_25, hw133_25, ↓hg133_26, hw133_26, ↓hg133_27, hw133_27, ↓hg133_28, ↓hg133_29, hw133_29, ↓hg133_30, hw133_30, ↓hg133_31, hw133_31, ↓hg133_32, hw133_32, ↓hg133_33, hw133_33, ↓hg133_34, hw133_34, ↓hg133_35, hw133_35, ↓hg133_36, hw133_36, ↓hg133_37, ↓hg133_38, ↓hg133_39, ↓hv133, ↓hx133, ha134, hu134, ↓hl134, ha135, hu135, ↓hl135, ha136, hu136, ↓hl136, ha137, hu137, ↓hl137, ha138, hu138, ↓hl138, ha139, hu139, ↓hl139, ha140, hu140, ↓hl140, ha141, hu141, ↓hl141, ha142, hu142, ↓hl142, ha143, hu143, ↓hl143, ha144, hu144, ↓hl144, ha145, hu145, ↓hl145, ha146, hu146, ↓hl146, ha147, hu147, ↓hl147, c25, jI_eq, ↓mo_cs_s, ↓mo_xs_r, ↓mo_xs_l, ↓mo_nl_s, mo_z_0, mo_z_1]
    unfold zBrk
    by_cases g : s.2.2.2.2.2.2.2 = -1
    · rw [if_pos g]; simp [g, b2i]
    · rw [if_neg g]; simp [g, b2i]
  · subst g
    have k := X7_br_l (z := z) (p := 1) hh.2.1 (by omega) hD (Or.inl rfl) s.2.1 0 hN_f 0 (-1) false (by simp) (by unfold hN_f; omega) (by omega) (by omega) (by omega)
    rw [b0, if_pos rfl, Bool.false_or] at k
    simp only [Int.natCast_zero] at k
    unfold m_X7_isBroken
    simp (disch := omega) only [ji1, ji2, ji3, ji4, ji5, ji6, ji7, ji8, ji9, ji10, ji11, ji12, ji13, ji14, ji15, ji16, ji19, ji20, ji39, ji119, ji144, ji366, ji24, ji31, ji32, ji45, ji48, ji57, ji58, ji59, ji97, ji120, ji122, ji183, ji200, ji226, ji240, ji255, ji500, jI_z, ↓jI_m1, jI_add, jI_sub, jI_mul, show ((1 : Nat) : Int) = 1 from rfl, jI_eq, show ¬ (1 : Int) = 0 by omega, show ¬ (1 : Int) = 3 by omega, if_false]
    exact k
  · subst g
    have k := X7_br_l (z := z) (p := 2) hh.2.1 (by omega) hD (Or.inr rfl) s.2.1 0 hN_f 0 (-1) false (by simp) (by unfold hN_f; omega) (by omega) (by omega) (by omega)
    rw [b0, if_neg (by omega), Bool.false_or] at k
    simp only [Int.natCast_zero] at k
    unfold m_X7_isBroken
    simp (disch := omega) only [ji1, ji2, ji3, ji4, ji5, ji6, ji7, ji8, ji9, ji10, ji11, ji12, ji13, ji14, ji15, ji16, ji19, ji20, ji39, ji119, ji144, ji366, ji24, ji31, ji32, ji45, ji48, ji57, ji58, ji59, ji97, ji120, ji122, ji183, ji200, ji226, ji240, ji255, ji500, jI_z, ↓jI_m1, jI_add, jI_sub, jI_mul, show ((2 : Nat) : Int) = 2 from rfl, jI_eq, show ¬ (2 : Int) = 0 by omega, show ¬ (2 : Int) = 3 by omega, if_false]
    exact k
  · subst g
    unfold m_X7_isBroken
    simp (disch := omega) only [ji1, ji2, ji3, ji4, ji5, ji6, ji7, ji8, ji9, ji10, ji11, ji12, ji13, ji14, ji15, ji16, ji19, ji20, ji39, ji119, ji144, ji366, ji24, ji31, ji32, ji45, ji48, ji57, ji58, ji59, ji97, ji120, ji122, ji183, ji200, ji226, ji240, ji255, ji500, jI_z, ↓jI_m1, jI_add, jI_sub, jI_mul, show ((3 : Nat) : Int) = 3 from rfl, jI_eq, show ¬ (3 : Int) = 0 by omega, if_false, if_true, ↓hg133_0, hw133_0, ↓hg133_1, ↓hg133_2, ↓hg133_3, hw133_3, ↓hg133_4, hw133_4, ↓hg133_5, hw133_5, ↓hg133_6, hw133_6, ↓hg133_7, hw133_7, ↓hg133_8, hw133_8, ↓hg133_9, hw133_9, ↓hg133_10, hw133_10, ↓hg133_11, hw133_11, ↓hg133_12, hw133_12, ↓hg133_13, ↓hg133_14, hw133_14, ↓hg133_15, ↓hg133_16, ↓hg133_17, ↓hg133_18, ↓hg133_19, ↓hg133_20, ↓hg133_21, hw133_21, ↓hg133_22, ↓hg133_23, hw133_23, ↓hg133_24, hw133_24, ↓hg133_25, hw133_25, ↓hg133_26, hw133_26, ↓hg133_27, hw133_27, ↓hg133_28, ↓hg133_29, hw133_29, ↓hg133_30, hw133_30, ↓hg133_31, hw133_31, ↓hg133_32, hw133_32, ↓hg133_33, hw133_33, ↓hg133_34, hw133_34, ↓hg133_35, hw133_35, ↓hg133_36, hw133_36, ↓hg133_37, ↓hg133_38, ↓hg133_39, ↓hv133, ↓hx133, ha134, hu134, ↓hl134, ha135, hu135, ↓hl135, ha136, hu136, ↓hl136, ha137, hu137, ↓hl137, ha138, hu138, ↓hl138, ha139, hu139, ↓hl139, ha140, hu140, ↓hl140, ha141, hu141, ↓hl141, ha142, hu142, ↓hl142, ha143, hu143, ↓hl143, ha144, hu144, ↓hl144, ha145, hu145, ↓hl145, ha146, hu146, ↓hl146, ha147, hu147, ↓hl147, c25, hV, Ra ha, r7, jI_lt, ↓mo_cs_s, ↓mo_xs_r, ↓mo_xs_l, ↓mo_nl_s, mo_z_0, mo_z_1]
    unfold zBrk
    by_cases g1 : s.2.2.2.2.2.2.2 = -1
    · rw [if_pos g1]; simp [g1, b2i]
    · rw [if_neg g1]
      by_cases g2 : c.1 7 < s.2.2.2.2.2.2.2
      · rw [if_pos g2]; simp [g2, b2i]
      · rw [if_neg g2]; simp [g1, g2, b2i]

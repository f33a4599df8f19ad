/-! .. its answers and turns. -/
theorem X7_ans_l {z a : Nat} {M : hM} {c : hCf} {sg t B N : Int} (ha : isR a) (hc : okC c) (hV : gV M 1 = a) (hR : RR (gA M a) c) (h26 : gI M 133 26 = t) (hB : gI M 133 29 = B) (hN : gI M 133 30 = N) (hb : 0 ≤ B ∧ B ≤ N ∧ N ≤ 8) (hsg : 0 ≤ sg ∧ sg ≤ 7) : ∀ (n : Nat) (d : Int) (f : Nat), 1 ≤ d → d + n = N - B + 1 → n < f →
    m_X7_answerComes_l51 (z + 133) (jI sg) f (hp z M) (jI d) = some ((), hp z (if zAck (c.1 6) sg B n d = 0 then M else sI (sI M 133 29 (B + zAck (c.1 6) sg B n d)) 133 31 t)) := by
  have hcs := hc.s
  have r6 : gA M a (6 : Int).toNat = c.1 6 := hR.1 6 (by omega)
  intro n
  induction n with
  | zero =>
    intro d f hd hn hf
    obtain ⟨f, rfl⟩ : ∃ k, f = k + 1 := ⟨f - 1, by omega⟩
    have hlt : N - B < d := by omega
    unfold m_X7_answerComes_l51
    simp (disch := omega) only [ji1, ji2, ji3, ji4, ji5, ji6, ji7, ji8, ji9, ji10, ji11, ji12, ji13, ji14, ji15, ji16, ji19, ji20, ji39, ji119, ji144, ji366, ji24, ji31, ji32, ji45, ji48, ji57, ji58, ji59, ji97, ji120, ji122, ji183, ji200, ji226, ji240, ji255, ji500, jI_z, ↓jI_m1, jI_add, jI_sub, jI_mul, ↓hg133_0, hw133_0, ↓hg133_1, ↓hg133_2, ↓hg133_3, hw133_3, ↓hg133_4, hw133_4, ↓hg133_5, hw133_5, ↓hg133_6, hw133_6, ↓hg133_7, hw133_7, ↓hg133_8, hw133_8, ↓hg133_9, hw133_9, ↓hg133_10, hw133_10, ↓hg133_11, hw133_11, ↓hg133_12, hw133_12, ↓hg133_13, ↓hg133_14, hw133_14, ↓hg133_15, ↓hg133_16, ↓hg133_17, ↓hg133_18, ↓hg133_19, ↓hg133_20, ↓hg133_21, hw133_21, ↓hg133_22, ↓hg133_23, hw133_23, ↓hg133_24, hw133_24, ↓hg133_25, hw133_25, ↓hg133_26, hw133_26, ↓hg133_27, hw133_27, ↓hg133_28, ↓hg133_29, hw133_29, ↓hg133_30, hw133_30, ↓hg133_31, hw133_31, ↓hg133_32, hw133_32, ↓hg133_33, hw133_33, ↓hg133_34, hw133_34, ↓hg133_35, hw133_35, ↓hg133_36, hw133_36, ↓hg133_37, ↓hg133_38, ↓hg133_39, ↓hv133, ↓hx133, ha134, hu134, ↓hl134, ha135, hu135, ↓hl135, ha136, hu136, ↓hl136, ha137, hu137, ↓hl137, ha138, hu138, ↓hl138, ha139, hu139, ↓hl139, ha140, hu140, ↓hl140, ha141, hu141, ↓hl141, ha142, hu142, ↓hl142, ha143, hu143, ↓hl143, ha144, hu144, ↓hl144, ha145, hu145, ↓hl145, ha146, hu146, ↓hl146, ha147, hu147, ↓hl147, jI_lt, hB, hN, hlt, if_true, zAck]
  | succ n ih =>
    intro d f hd hn hf
    obtain ⟨f, rfl⟩ : ∃ k, f = k + 1 := ⟨f - 1, by omega⟩
    have hlt : ¬ N - B < d := by omega
    have hm1 := Int.emod_nonneg (B + d) (show c.1 6 ≠ 0 by omega)
    have hm2 := Int.emod_lt_of_pos (B + d) (show 0 < c.1 6 by omega)
    unfold m_X7_answerComes_l51
    simp (disch := omega) only [ji1, ji2, ji3, ji4, ji5, ji6, ji7, ji8, ji9, ji10, ji11, ji12, ji13, ji14, ji15, ji16, ji19, ji20, ji39, ji119, ji144, ji366, ji24, ji31, ji32, ji45, ji48, ji57, ji58, ji59, ji97, ji120, ji122, ji183, ji200, ji226, ji240, ji255, ji500, jI_z, ↓jI_m1, jI_add, jI_sub, jI_mul, ↓hg133_0, hw133_0, ↓hg133_1, ↓hg133_2, ↓hg133_3, hw133_3, ↓hg133_4, hw133_4, ↓hg133_5, hw133_5, ↓hg133_6, hw133_6, ↓hg133_7, hw133_7, ↓hg133_8, hw133_8, ↓hg133_9, hw133_9, ↓hg133_10, hw133_10, ↓hg133_11, hw133_11, ↓hg133_12, hw133_12, ↓hg133_13, ↓hg133_14, hw133_14, ↓hg133_15, ↓hg133_16, ↓hg133_17, ↓hg133_18, ↓hg133_19, ↓hg133_20, ↓hg133_21, hw133_21, ↓hg133_22, ↓hg133_23, hw133_23, ↓hg133_24, hw133_24, ↓hg133_25, hw133_25, ↓hg133_26, hw133_26, ↓hg133_27, hw133_27, ↓hg133_28, ↓hg133_29, hw133_29, ↓hg133_30, hw133_30, ↓hg133_31, hw133_31, ↓hg133_32, hw133_32, ↓hg133_33, hw133_33, ↓hg133_34, hw133_34, ↓hg133_35, hw133_35, ↓hg133_36, hw133_36, ↓hg133_37, ↓hg133_38, ↓hg133_39, ↓hv133, ↓hx133, ha134, hu134, ↓hl134, ha135, hu135, ↓hl135, ha136, hu136, ↓hl136, ha137, hu137, ↓hl137, ha138, hu138, ↓hl138, ha139, hu139, ↓hl139, ha140, hu140, ↓hl140, ha141, hu141, ↓hl141, ha142, hu142, ↓hl142, ha143, hu143, ↓hl143, ha144, hu144, ↓hl144, ha145, hu145, ↓hl145, ha146, hu146, ↓hl146, ha147, hu147, ↓hl147, jI_lt, hB, hN, hlt, if_false, hV, Ra ha, r6, mo_rm_j, jI_eq, gI_sI, and_true, and_false, show ¬ (26 : Nat) = 29 by decide, h26]
    by_cases g : (B + d) % c.1 6 = sg
    · have e1 : zAck (c.1 6) sg B (n + 1) d = d := if_pos g
      simp only [e1]
      rw [if_pos g, if_neg (by omega)]
    · have e1 : zAck (c.1 6) sg B (n + 1) d = zAck (c.1 6) sg B n (d + 1) := if_neg g
      simp only [e1]
      rw [if_neg g]
      exact ih (d + 1) f (by omega) (by omega) (by omega)
theorem X7_ans {z a : Nat} {M : hM} {c : hCf} {s : hS} {t sg : Int} (ha : isR a) (hc : okC c) (ht : 0 ≤ t ∧ t < 200) (hz : zI c t s) (hs : 0 ≤ sg ∧ sg ≤ 7) (h0 : c.1 0 ≠ 0) (h : MR M c a t s) :
    ∃ M', m_X7_answerComes (hp z M) (z + 133) (jI sg) = some ((), hp z M') ∧ MR M' c a t (zAns c t sg s) ∧ FrM M M' ∧ Vr M M' := by
  have hcs := hc.s
  obtain ⟨T, O, W, B, N, J, K, C⟩ := s
  have h' := h
  obtain ⟨hV, hR, h26, hL, hD, hS, hB, hN, hJ, hK⟩ := h'
  obtain ⟨z1, z2, z3, z4, z5, z6, z7, z8, z9⟩ := hz
  have r0 : gA M a (0 : Int).toNat = c.1 0 := hR.1 0 (by omega)
  have r1 : gA M a (1 : Int).toNat = c.1 1 := hR.1 1 (by omega)
  unfold zAns
  simp only
  by_cases g1 : c.1 0 = 1
  · rw [if_pos g1]
    have hm1 := Int.emod_nonneg B (show (2 : Int) ≠ 0 by omega)
    have hm2 := Int.emod_lt_of_pos B (show (0 : Int) < 2 by omega)
    have pre : ∀ r, (if B < c.1 1 then (if sg = B % 2 then some ((), hp z (sI (sI M 133 29 (B + 1)) 133 31 (-1))) else some ((), hp z M)) else some ((), hp z M)) = r → m_X7_answerComes (hp z M) (z + 133) (jI sg) = r := by
      intro r hr
      rw [← hr]
      unfold m_X7_answerComes
      simp (disch := omega) only [ji1, ji2, ji3, ji4, ji5, ji6, ji7, ji8, ji9, ji10, ji11, ji12, ji13, ji14, ji15, ji16, ji19, ji20, ji39, ji119, ji144, ji366, ji24, ji31, ji32, ji45, ji48, ji57, ji58, ji59, ji97, ji120, ji122, ji183, ji200, ji226, ji240, ji255, ji500, jI_z, ↓jI_m1, jI_add, jI_sub, jI_mul, ↓hg133_0, hw133_0, ↓hg133_1, ↓hg133_2, ↓hg133_3, hw133_3, ↓hg133_4, hw133_4, ↓hg133_5, hw133_5, ↓hg133_6, hw133_6, ↓hg133_7, hw133_7, ↓hg133_8, hw133_8, ↓hg133_9, hw133_9, ↓hg133_10, hw133_10, ↓hg133_11, hw133_11, ↓hg133_12, hw133_12, ↓hg133_13, ↓hg133_14, hw133_14, ↓hg133_15, ↓hg133_16, ↓hg133_17, ↓hg133_18, ↓hg133_19, ↓hg133_20, ↓hg133_21, hw133_21, ↓hg133_22, ↓hg133_23, hw133_23, ↓hg133_24, hw133_24, ↓hg133_25, hw133_25, ↓hg133_26, hw133_26, ↓hg133_27, hw133_27, ↓hg133_28, ↓hg133_29, hw133_29, ↓hg133_30, hw133_30, ↓hg133_31, hw133_31, ↓hg133_32, hw133_32, ↓hg133_33, hw133_33, ↓hg133_34, hw133_34, ↓hg133_35, hw133_35, ↓hg133_36, hw133_36, ↓hg133_37, ↓hg133_38, ↓hg133_39, ↓hv133, ↓hx133, ha134, hu134, ↓hl134, ha135, hu135, ↓hl135, ha136, hu136, ↓hl136, ha137, hu137, ↓hl137, ha138, hu138, ↓hl138, ha139, hu139, ↓hl139, ha140, hu140, ↓hl140, ha141, hu141, ↓hl141, ha142, hu142, ↓hl142, ha143, hu143, ↓hl143, ha144, hu144, ↓hl144, ha145, hu145, ↓hl145, ha146, hu146, ↓hl146, ha147, hu147, ↓hl147, hV, Ra ha, r0, r1, g1, if_true, jI_lt, jI_eq, mo_rm_j, hB]
    by_cases g2 : B < c.1 1
    · by_cases g3 : sg = B % 2
      · rw [if_pos ⟨g2, g3⟩]
        obtain ⟨q1, q2, q3, q4, q5, q6⟩ := MR_I (B := B) (N := N) (J := J) (K := K) (k := 31) (v := -1) (MR_I (B := B) (N := N) (J := J) (K := K) (k := 29) (v := B + 1) ⟨hV, hR, h26, hL, hD, hS⟩ (by omega)) (by omega)
        refine ⟨_, pre _ ?_, ⟨q1, q2, q3, q4, q5, q6, by simp [gI_sI], by simp [gI_sI, hN], by simp [gI_sI], by simp [gI_sI, hK]⟩, (FrM.sI (by omega)).trans (FrM.sI (by omega)), fun _ => rfl⟩
        rw [if_pos g2, if_pos g3]
      · rw [if_neg (fun h => g3 h.2)]
        exact ⟨M, pre _ (by rw [if_pos g2, if_neg g3]), h, FrM.rfl', Vr.rfl'⟩
    · rw [if_neg (fun h => g2 h.1)]
      exact ⟨M, pre _ (by rw [if_neg g2]), h, FrM.rfl', Vr.rfl'⟩
  · rw [if_neg g1]
    have hBN := z5.2.2 (by omega)
    have key := X7_ans_l (z := z) (M := M) (c := c) (sg := sg) (t := t) ha hc hV hR h26 hB hN (by omega) hs (N - B).toNat 1 hN_f (by omega) (by omega) (by unfold hN_f; omega)
    have run : m_X7_answerComes (hp z M) (z + 133) (jI sg) = some ((), hp z (if zAck (c.1 6) sg B (N - B).toNat 1 = 0 then M else sI (sI M 133 29 (B + zAck (c.1 6) sg B (N - B).toNat 1)) 133 31 t)) := by
      unfold m_X7_answerComes
      simp (disch := omega) only [ji1, ji2, ji3, ji4, ji5, ji6, ji7, ji8, ji9, ji10, ji11, ji12, ji13, ji14, ji15, ji16, ji19, ji20, ji39, ji119, ji144, ji366, ji24, ji31, ji32, ji45, ji48, ji57, ji58, ji59, ji97, ji120, ji122, ji183, ji200, ji226, ji240, ji255, ji500, jI_z, ↓jI_m1, jI_add, jI_sub, jI_mul, ↓hg133_0, hw133_0, ↓hg133_1, ↓hg133_2, ↓hg133_3, hw133_3, ↓hg133_4, hw133_4, ↓hg133_5, hw133_5, ↓hg133_6, hw133_6, ↓hg133_7, hw133_7, ↓hg133_8, hw133_8, ↓hg133_9, hw133_9, ↓hg133_10, hw133_10, ↓hg133_11, hw133_11, ↓hg133_12, hw133_12, ↓hg133_13, ↓hg133_14, hw133_14, ↓hg133_15, ↓hg133_16, ↓hg133_17, ↓hg133_18, ↓hg133_19, ↓hg133_20, ↓hg133_21, hw133_21, ↓hg133_22, ↓hg133_23, hw133_23, ↓hg133_24, hw133_24, ↓hg133_25, hw133_25, ↓hg133_26, hw133_26, ↓hg133_27, hw133_27, ↓hg133_28, ↓hg133_29, hw133_29, ↓hg133_30, hw133_30, ↓hg133_31, hw133_31, ↓hg133_32, hw133_32, ↓hg133_33, hw133_33, ↓hg133_34, hw133_34, ↓hg133_35, hw133_35, ↓hg133_36, hw133_36, ↓hg133_37, ↓hg133_38, ↓hg133_39, ↓hv133, ↓hx133, ha134, hu134, ↓hl134, ha135, hu135, ↓hl135, ha136, hu136, ↓hl136, ha137, hu137, ↓hl137, ha138, hu138, ↓hl138, ha139, hu139, ↓hl139, ha140, hu140, ↓hl140, ha141, hu141, ↓hl141, ha142, hu142, ↓hl142, ha143, hu143, ↓hl143, ha144, hu144, ↓hl144, ha145, hu145, ↓hl145, ha146, hu146, ↓hl146, ha147, hu147, ↓hl147, hV, Ra ha, r0, jI_eq, g1, if_false]
      exact key
    by_cases g2 : zAck (c.1 6) sg B (N - B).toNat 1 = 0
    · rw [if_pos g2]; rw [if_pos g2] at run
      exact ⟨M, run, h, FrM.rfl', Vr.rfl'⟩
    · rw [if_neg g2]; rw [if_neg g2] at run
      obtain ⟨q1, q2, q3, q4, q5, q6⟩ := MR_I (B := B) (N := N) (J := J) (K := K) (k := 31) (v := t) (MR_I (B := B) (N := N) (J := J) (K := K) (k := 29) (v := B + zAck (c.1 6) sg B (N - B).toNat 1) ⟨hV, hR, h26, hL, hD, hS⟩ (by omega)) (by omega)
      exact ⟨_, run, ⟨q1, q2, q3, q4, q5, q6, by simp [gI_sI], by simp [gI_sI, hN], by simp [gI_sI], by simp [gI_sI, hK]⟩, (FrM.sI (by omega)).trans (FrM.sI (by omega)), fun _ => rfl⟩
theorem X7_win {z a : Nat} {M : hM} {c : hCf} {s : hS} {t : Int} (ha : isR a) (hc : okC c) (ht : 0 ≤ t ∧ t < 200) (hz : zI c t s) (h : MR M c a t s) :
    ∃ M', m_X7_senderGoes_j154 (z + 133) (hp z M) = some ((), hp z M') ∧ MR M' c a t (zWin c t s) ∧ FrM M M' ∧ Vr M M' := by
  have hcs := hc.s
  have hG := MR_get h
  obtain ⟨hV, hR, h26, hL, hD, hS, hB, hN, hJ, hK⟩ := hG
  obtain ⟨y1, y2, y3⟩ := zI_get hz
  have r1 : gA M a (1 : Int).toNat = c.1 1 := hR.1 1 (by omega)
  have r5 : gA M a (5 : Int).toNat = c.1 5 := hR.1 5 (by omega)
  unfold zWin
  by_cases g1 : s.2.2.2.2.1 < s.2.2.2.1 + c.1 5
  · by_cases g2 : s.2.2.2.2.1 < c.1 1
    · rw [if_pos ⟨g1, g2⟩]
      obtain ⟨M1, s1, s2, s3, s4⟩ := MR_send (z := z) (kd := 0) (w := s.2.2.2.2.1) ha hc ht hz h
      have hs2 : (zSend c t 0 s.2.2.2.2.1 s).2 = s.2 := by unfold zSend; split <;> rfl
      generalize zSend c t 0 s.2.2.2.2.1 s = q at s2 hs2
      obtain ⟨T, O, W, B, N, J, K, C⟩ := s
      obtain ⟨T', O', W', B', N', J', K', C'⟩ := q
      simp only [Prod.mk.injEq] at hs2
      obtain ⟨e1, e2, e3, e4, e5, e6, e7⟩ := hs2
      subst e1 e2 e3 e4 e5 e6 e7
      obtain ⟨b1, b2, b3, b4, b5, b6, b7, b8, b9, b10⟩ := s2
      have pre : ∀ r, (if B' = N' then some ((), hp z (sI (sI M1 133 31 t) 133 30 (N' + 1))) else some ((), hp z (sI (sI M1 133 31 J') 133 30 (N' + 1)))) = r → m_X7_senderGoes_j154 (z + 133) (hp z M) = r := by
        intro r hr
        rw [← hr]
        simp only at g1 g2 hB hN s1 y1 y2
        unfold m_X7_senderGoes_j154
        simp (disch := omega) only [ji1, ji2, ji3, ji4, ji5, ji6, ji7, ji8, ji9, ji10, ji11, ji12, ji13, ji14, ji15, ji16, ji19, ji20, ji39, ji119, ji144, ji366, ji24, ji31, ji32, ji45, ji48, ji57, ji58, ji59, ji97, ji120, ji122, ji183, ji200, ji226, ji240, ji255, ji500, jI_z, ↓jI_m1, jI_add, jI_sub, jI_mul, ↓hg133_0, hw133_0, ↓hg133_1, ↓hg133_2, ↓hg133_3, hw133_3, ↓hg133_4, hw133_4, ↓hg133_5, hw133_5, ↓hg133_6, hw133_6, ↓hg133_7, hw133_7, ↓hg133_8, hw133_8, ↓hg133_9, hw133_9, ↓hg133_10, hw133_10, ↓hg133_11, hw133_11, ↓hg133_12, hw133_12, ↓hg133_13, ↓hg133_14, hw133_14, ↓hg133_15, ↓hg133_16, ↓hg133_17, ↓hg133_18, ↓hg133_19, ↓hg133_20, ↓hg133_21, hw133_21, ↓hg133_22, ↓hg133_23, hw133_23, ↓hg133_24, hw133_24, ↓hg133_25, hw133_25, ↓hg133_26, hw133_26, ↓hg133_27, hw133_27, ↓hg133_28, ↓hg133_29, hw133_29, ↓hg133_30, hw133_30, ↓hg133_31, hw133_31, ↓hg133_32, hw133_32, ↓hg133_33, hw133_33, ↓hg133_34, hw133_34, ↓hg133_35, hw133_35, ↓hg133_36, hw133_36, ↓hg133_37, ↓hg133_38, ↓hg133_39, ↓hv133, ↓hx133, ha134, hu134, ↓hl134, ha135, hu135, ↓hl135, ha136, hu136, ↓hl136, ha137, hu137, ↓hl137, ha138, hu138, ↓hl138, ha139, hu139, ↓hl139, ha140, hu140, ↓hl140, ha141, hu141, ↓hl141, ha142, hu142, ↓hl142, ha143, hu143, ↓hl143, ha144, hu144, ↓hl144, ha145, hu145, ↓hl145, ha146, hu146, ↓hl146, ha147, hu147, ↓hl147, jI_lt, hB, hN, hV, Ra ha, r1, r5, g1, g2, if_true]
        rw [s1]
        simp (disch := omega) only [ji1, ji2, ji3, ji4, ji5, ji6, ji7, ji8, ji9, ji10, ji11, ji12, ji13, ji14, ji15, ji16, ji19, ji20, ji39, ji119, ji144, ji366, ji24, ji31, ji32, ji45, ji48, ji57, ji58, ji59, ji97, ji120, ji122, ji183, ji200, ji226, ji240, ji255, ji500, jI_z, ↓jI_m1, jI_add, jI_sub, jI_mul, ↓mo_cs_s, ↓mo_xs_r, ↓mo_xs_l, ↓mo_nl_s, mo_z_0, mo_z_1, ↓hg133_0, hw133_0, ↓hg133_1, ↓hg133_2, ↓hg133_3, hw133_3, ↓hg133_4, hw133_4, ↓hg133_5, hw133_5, ↓hg133_6, hw133_6, ↓hg133_7, hw133_7, ↓hg133_8, hw133_8, ↓hg133_9, hw133_9, ↓hg133_10, hw133_10, ↓hg133_11, hw133_11, ↓hg133_12, hw133_12, ↓hg133_13, ↓hg133_14, hw133_14, ↓hg133_15, ↓hg133_16, ↓hg133_17, ↓hg133_18, ↓hg133_19, ↓hg133_20, ↓hg133_21, hw133_21, ↓hg133_22, ↓hg133_23, hw133_23, ↓hg133_24, hw133_24, ↓hg133_25, hw133_25, ↓hg133_26, hw133_26, ↓hg133_27, hw133_27, ↓hg133_28, ↓hg133_29, hw133_29, ↓hg133_30, hw133_30, ↓hg133_31, hw133_31, ↓hg133_32, hw133_32, ↓hg133_33, hw133_33, ↓hg133_34, hw133_34, ↓hg133_35, hw133_35, ↓hg133_36, hw133_36, ↓hg133_37, ↓hg133_38, ↓hg133_39, ↓hv133, ↓hx133, ha134, hu134, ↓hl134, ha135, hu135, ↓hl135, ha136, hu136, ↓hl136, ha137, hu137, ↓hl137, ha138, hu138, ↓hl138, ha139, hu139, ↓hl139, ha140, hu140, ↓hl140, ha141, hu141, ↓hl141, ha142, hu142, ↓hl142, ha143, hu143, ↓hl143, ha144, hu144, ↓hl144, ha145, hu145, ↓hl145, ha146, hu146, ↓hl146, ha147, hu147, ↓hl147, jI_eq, b7, b8, b3, b9, gI_sI, and_false, if_false, show ¬ (30 : Nat) = 31 by decide]
      obtain ⟨q1, q2, q3, q4, q5, q6⟩ := MR_I (B := B') (N := N') (J := J') (K := K') (k := 30) (v := N' + 1) (MR_I (B := B') (N := N') (J := J') (K := K') (k := 31) (v := if B' = N' then t else J') ⟨b1, b2, b3, b4, b5, b6⟩ (by omega)) (by omega)
      refine ⟨sI (sI M1 133 31 (if B' = N' then t else J')) 133 30 (N' + 1), pre _ ?_, ⟨q1, q2, q3, q4, q5, q6, by simp [gI_sI, b7], by simp [gI_sI], by simp [gI_sI], by simp [gI_sI, b10]⟩, s3.trans ((FrM.sI (by omega)).trans (FrM.sI (by omega))), s4.trans (fun _ => rfl)⟩
      by_cases g : B' = N'
      · rw [if_pos g, if_pos g]
      · rw [if_neg g, if_neg g]
    · rw [if_neg (fun h => g2 h.2)]
      refine ⟨M, ?_, h, FrM.rfl', Vr.rfl'⟩
      unfold m_X7_senderGoes_j154
      simp (disch := omega) only [ji1, ji2, ji3, ji4, ji5, ji6, ji7, ji8, ji9, ji10, ji11, ji12, ji13, ji14, ji15, ji16, ji19, ji20, ji39, ji119, ji144, ji366, ji24, ji31, ji32, ji45, ji48, ji57, ji58, ji59, ji97, ji120, ji122, ji183, ji200, ji226, ji240, ji255, ji500, jI_z, ↓jI_m1, jI_add, jI_sub, jI_mul, ↓hg133_0, hw133_0, ↓hg133_1, ↓hg133_2, ↓hg133_3, hw133_3, ↓hg133_4, hw133_4, ↓hg133_5, hw133_5, ↓hg133_6, hw133_6, ↓hg133_7, hw133_7, ↓hg133_8, hw133_8, ↓hg133_9, hw133_9, ↓hg133_10, hw133_10, ↓hg133_11, hw133_11, ↓hg133_12, hw133_12, ↓hg133_13, ↓hg133_14, hw133_14, ↓hg133_15, ↓hg133_16, ↓hg133_17, ↓hg133_18, ↓hg133_19, ↓hg133_20, ↓hg133_21, hw133_21, ↓hg133_22, ↓hg133_23, hw133_23, ↓hg133_24, hw133_24, ↓hg133_25, hw133_25, ↓hg133_26, hw133_26, ↓hg133_27, hw133_27, ↓hg133_28, ↓hg133_29, hw133_29, ↓hg133_30, hw133_30, ↓hg133_31, hw133_31, ↓hg133_32, hw133_32, ↓hg133_33, hw133_33, ↓hg133_34, hw133_34, ↓hg133_35, hw133_35, ↓hg133_36, hw133_36, ↓hg133_37, ↓hg133_38, ↓hg133_39, ↓hv133, ↓hx133, ha134, hu134, ↓hl134, ha135, hu135, ↓hl135, ha136, hu136, ↓hl136, ha137, hu137, ↓hl137, ha138, hu138, ↓hl138, ha139, hu139, ↓hl139, ha140, hu140, ↓hl140, ha141, hu141, ↓hl141, ha142, hu142, ↓hl142, ha143, hu143, ↓hl143, ha144, hu144, ↓hl144, ha145, hu145, ↓hl145, ha146, hu146, ↓hl146, ha147, hu147, ↓hl147, jI_lt, hB, hN, hV, Ra ha, r1, r5, g1, g2, if_true, if_false]
  · rw [if_neg (fun h => g1 h.1)]
    refine ⟨M, ?_, h, FrM.rfl', Vr.rfl'⟩
    unfold m_X7_senderGoes_j154
    simp (disch := omega) only [ji1, ji2, ji3, ji4, ji5, ji6, ji7, ji8, ji9, ji10, ji11, ji12, ji13, ji14, ji15, ji16, ji19, ji20, ji39, ji119, ji144, ji366, ji24, ji31, ji32, ji45, ji48, ji57, ji58, ji59, ji97, ji120, ji122, ji183, ji200, ji226, ji240, ji255, ji500, jI_z, ↓jI_m1, jI_add, jI_sub, jI_mul, ↓hg133_0, hw133_0, ↓hg133_1, ↓hg133_2, ↓hg133_3, hw133_3, ↓hg133_4, hw133_4, ↓hg133_5, hw133_5, ↓hg133_6, hw133_6, ↓hg133_7, hw133_7, ↓hg133_8, hw133_8, ↓hg133_9, hw133_9, ↓hg133_10, hw133_10, ↓hg133_11, hw133_11, ↓hg133_12, hw133_12, ↓hg133_13, ↓hg133_14, hw133_14, ↓hg133_15, ↓hg133_16, ↓hg133_17, ↓hg133_18, ↓hg133_19, ↓hg133_20, ↓hg133_21, hw133_21, ↓hg133_22, ↓hg133_23, hw133_23, ↓hg133_24, hw133_24, ↓hg133_25, hw133_25, ↓hg133_26, hw133_26, ↓hg133_27, hw133_27, ↓hg133_28, ↓hg133_29, hw133_29, ↓hg133_30, hw133_30, ↓hg133_31, hw133_31, ↓hg133_32, hw133_32, ↓hg133_33, hw133_33, ↓hg133_34, hw133_34, ↓hg133_35, hw133_35, ↓hg133_36, hw133_36, ↓hg133_37, ↓hg133_38, ↓hg133_39, ↓hv133, ↓hx133, ha134, hu134, ↓hl134, ha135, hu135, ↓hl135, ha136, hu136, ↓hl136, ha137, hu137, ↓hl137, ha138, hu138, ↓hl138, ha139, hu139, ↓hl139, ha140, hu140, ↓hl140, ha141, hu141, ↓hl141, ha142, hu142, ↓hl142, ha143, hu143, ↓hl143, ha144, hu144, ↓hl144, ha145, hu145, ↓hl145, ha146, hu146, ↓hl146, ha147, hu147, ↓hl147, jI_lt, hB, hN, hV, Ra ha, r1, r5, g1, if_false]
theorem X7_turn {z a : Nat} {M : hM} {c : hCf} {s : hS} {t : Int} (ha : isR a) (hc : okC c) (ht : 0 ≤ t ∧ t < 200) (hz : zI c t s) (h : MR M c a t s) :
    ∃ M', m_X7_senderGoes (hp z M) (z + 133) = some ((), hp z M') ∧ MR M' c a t (zTurn c t s) ∧ FrM M M' ∧ Vr M M' := by
  have hcs := hc.s
  have hG := MR_get h
  obtain ⟨hV, hR, h26, hL, hD, hS, hB, hN, hJ, hK⟩ := hG
  obtain ⟨y1, y2, y3⟩ := zI_get hz
  have r0 : gA M a (0 : Int).toNat = c.1 0 := hR.1 0 (by omega)
  have r1 : gA M a (1 : Int).toNat = c.1 1 := hR.1 1 (by omega)
  have r4 : gA M a (4 : Int).toNat = c.1 4 := hR.1 4 (by omega)
  unfold zTurn
  by_cases g0 : c.1 0 = 0
  · rw [if_pos g0]
    by_cases g1 : s.2.2.2.1 < c.1 1
    · rw [if_pos g1]
      obtain ⟨M1, s1, s2, s3, s4⟩ := MR_send (z := z) (kd := 0) (w := s.2.2.2.1) ha hc ht hz h
      have hs2 : (zSend c t 0 s.2.2.2.1 s).2 = s.2 := by unfold zSend; split <;> rfl
      generalize zSend c t 0 s.2.2.2.1 s = q at s2 hs2
      obtain ⟨T, O, W, B, N, J, K, C⟩ := s
      obtain ⟨T', O', W', B', N', J', K', C'⟩ := q
      simp only [Prod.mk.injEq] at hs2
      obtain ⟨e1, e2, e3, e4, e5, e6, e7⟩ := hs2
      subst e1 e2 e3 e4 e5 e6 e7
      obtain ⟨b1, b2, b3, b4, b5, b6, b7, b8, b9, b10⟩ := s2
      obtain ⟨q1, q2, q3, q4, q5, q6⟩ := MR_I (B := B') (N := N') (J := J') (K := K') (k := 29) (v := B' + 1) ⟨b1, b2, b3, b4, b5, b6⟩ (by omega)
      refine ⟨sI M1 133 29 (B' + 1), ?_, ⟨q1, q2, q3, q4, q5, q6, by simp [gI_sI], by simp [gI_sI, b8], by simp [gI_sI, b9], by simp [gI_sI, b10]⟩, s3.trans (FrM.sI (by omega)), s4.trans (fun _ => rfl)⟩
      simp only at g1 hB s1 y1
      unfold m_X7_senderGoes
      simp (disch := omega) only [ji1, ji2, ji3, ji4, ji5, ji6, ji7, ji8, ji9, ji10, ji11, ji12, ji13, ji14, ji15, ji16, ji19, ji20, ji39, ji119, ji144, ji366, ji24, ji31, ji32, ji45, ji48, ji57, ji58, ji59, ji97, ji120, ji122, ji183, ji200, ji226, ji240, ji255, ji500, jI_z, ↓jI_m1, jI_add, jI_sub, jI_mul, ↓hg133_0, hw133_0, ↓hg133_1, ↓hg133_2, ↓hg133_3, hw133_3, ↓hg133_4, hw133_4, ↓hg133_5, hw133_5, ↓hg133_6, hw133_6, ↓hg133_7, hw133_7, ↓hg133_8, hw133_8, ↓hg133_9, hw133_9, ↓hg133_10, hw133_10, ↓hg133_11, hw133_11, ↓hg133_12, hw133_12, ↓hg133_13, ↓hg133_14, hw133_14, ↓hg133_15, ↓hg133_16, ↓hg133_17, ↓hg133_18, ↓hg133_19, ↓hg133_20, ↓hg133_21, hw133_21, ↓hg133_22, ↓hg133_23, hw133_23, ↓hg133_24, hw133_24, ↓hg133_25, hw133_25, ↓hg133_26, hw133_26, ↓hg133_27, hw133_27, ↓hg133_28, ↓hg133_29, hw133_29, ↓hg133_30, hw133_30, ↓hg133_31, hw133_31, ↓hg133_32, hw133_32, ↓hg133_33, hw133_33, ↓hg133_34, hw133_34, ↓hg133_35, hw133_35, ↓hg133_36, hw133_36, ↓hg133_37, ↓hg133_38, ↓hg133_39, ↓hv133, ↓hx133, ha134, hu134, ↓hl134, ha135, hu135, ↓hl135, ha136, hu136, ↓hl136, ha137, hu137, ↓hl137, ha138, hu138, ↓hl138, ha139, hu139, ↓hl139, ha140, hu140, ↓hl140, ha141, hu141, ↓hl141, ha142, hu142, ↓hl142, ha143, hu143, ↓hl143, ha144, hu144, ↓hl144, ha145, hu145, ↓hl145, ha146, hu146, ↓hl146, ha147, hu147, ↓hl147, jI_lt, hB, hV, Ra ha, r0, r1, g0, g1, if_true]
      rw [s1]
      simp (disch := omega) only [ji1, ji2, ji3, ji4, ji5, ji6, ji7, ji8, ji9, ji10, ji11, ji12, ji13, ji14, ji15, ji16, ji19, ji20, ji39, ji119, ji144, ji366, ji24, ji31, ji32, ji45, ji48, ji57, ji58, ji59, ji97, ji120, ji122, ji183, ji200, ji226, ji240, ji255, ji500, jI_z, ↓jI_m1, jI_add, jI_sub, jI_mul, ↓mo_cs_s, ↓mo_xs_r, ↓mo_xs_l, ↓mo_nl_s, mo_z_0, mo_z_1, ↓hg133_0, hw133_0, ↓hg133_1, ↓hg133_2, ↓hg133_3, hw133_3, ↓hg133_4, hw133_4, ↓hg133_5, hw133_5, ↓hg133_6, hw133_6, ↓hg133_7, hw133_7, ↓hg133_8, hw133_8, ↓hg133_9, hw133_9, ↓hg133_10, hw133_10, ↓hg133_11, hw133_11, ↓hg133_12, hw133_12, ↓hg133_13, ↓hg133_14, hw133_14, ↓hg133_15, ↓hg133_16, ↓hg133_17, ↓hg133_18, ↓hg133_19, ↓hg133_20, ↓hg133_21, hw133_21, ↓hg133_22, ↓hg133_23, hw133_23, ↓hg133_24, hw133_24, ↓hg133_25, hw133_25, ↓hg133_26, hw133_26, ↓hg133_27, hw133_27, ↓hg133_28, ↓hg133_29, hw133_29, ↓hg133_30, hw133_30, ↓hg133_31, hw133_31, ↓hg133_32, hw133_32, ↓hg133_33, hw133_33, ↓hg133_34, hw133_34, ↓hg133_35, hw133_35, ↓hg133_36, hw133_36, ↓hg133_37, ↓hg133_38, ↓hg133_39, ↓hv133, ↓hx133, ha134, hu134, ↓hl134, ha135, hu135, ↓hl135, ha136, hu136, ↓hl136, ha137, hu137, ↓hl137, ha138, hu138, ↓hl138, ha139, hu139, ↓hl139, ha140, hu140, ↓hl140, ha141, hu141, ↓hl141, ha142, hu142, ↓hl142, ha143, hu143, ↓hl143, ha144, hu144, ↓hl144, ha145, hu145, ↓hl145, ha146, hu146, ↓hl146, ha147, hu147, ↓hl147, b7]
    · rw [if_neg g1]
      refine ⟨M, ?_, h, FrM.rfl', Vr.rfl'⟩
      unfold m_X7_senderGoes
      simp (disch := omega) only [ji1, ji2, ji3, ji4, ji5, ji6, ji7, ji8, ji9, ji10, ji11, ji12, ji13, ji14, ji15, ji16, ji19, ji20, ji39, ji119, ji144, ji366, ji24, ji31, ji32, ji45, ji48, ji57, ji58, ji59, ji97, ji120, ji122, ji183, ji200, ji226, ji240, ji255, ji500, jI_z, ↓jI_m1, jI_add, jI_sub, jI_mul, ↓hg133_0, hw133_0, ↓hg133_1, ↓hg133_2, ↓hg133_3, hw133_3, ↓hg133_4, hw133_4, ↓hg133_5, hw133_5, ↓hg133_6, hw133_6, ↓hg133_7, hw133_7, ↓hg133_8, hw133_8, ↓hg133_9, hw133_9, ↓hg133_10, hw133_10, ↓hg133_11, hw133_11, ↓hg133_12, hw133_12, ↓hg133_13, ↓hg133_14, hw133_14, ↓hg133_15, ↓hg133_16, ↓hg133_17, ↓hg133_18, ↓hg133_19, ↓hg133_20, ↓hg133_21, hw133_21, ↓hg133_22, ↓hg133_23, hw133_23, ↓hg133_24, hw133_24, ↓hg133_25, hw133_25, ↓hg133_26, hw133_26, ↓hg133_27, hw133_27, ↓hg133_28, ↓hg133_29, hw133_29, ↓hg133_30, hw133_30, ↓hg133_31, hw133_31, ↓hg133_32, hw133_32, ↓hg133_33, hw133_33, ↓hg133_34, hw133_34, ↓hg133_35, hw133_35, ↓hg133_36, hw133_36, ↓hg133_37, ↓hg133_38, ↓hg133_39, ↓hv133, ↓hx133, ha134, hu134, ↓hl134, ha135, hu135, ↓hl135, ha136, hu136, ↓hl136, ha137, hu137, ↓hl137, ha138, hu138, ↓hl138, ha139, hu139, ↓hl139, ha140, hu140, ↓hl140, ha141, hu141, ↓hl141, ha142, hu142, ↓hl142, ha143, hu143, ↓hl143, ha144, hu144, ↓hl144, ha145, hu145, ↓hl145, ha146, hu146, ↓hl146, ha147, hu147, ↓hl147, jI_lt, hB, hV, Ra ha, r0, r1, g0, g1, if_true, if_false]
  · rw [if_neg g0]
    by_cases g1 : c.1 0 = 1
    · rw [if_pos g1]
      have j91 : ∃ M', m_X7_senderGoes_j91 (z + 133) (hp z M) = some ((), hp z M') ∧ MR M' c a t (zJt t (zSend c t 0 s.2.2.2.1 s)) ∧ FrM M M' ∧ Vr M M' := by
        obtain ⟨M1, s1, s2, s3, s4⟩ := MR_send (z := z) (kd := 0) (w := s.2.2.2.1) ha hc ht hz h
        have hs2 : (zSend c t 0 s.2.2.2.1 s).2 = s.2 := by unfold zSend; split <;> rfl
        generalize zSend c t 0 s.2.2.2.1 s = q at s2 hs2
        obtain ⟨T, O, W, B, N, J, K, C⟩ := s
        obtain ⟨T', O', W', B', N', J', K', C'⟩ := q
        simp only [Prod.mk.injEq] at hs2
        obtain ⟨e1, e2, e3, e4, e5, e6, e7⟩ := hs2
        subst e1 e2 e3 e4 e5 e6 e7
        obtain ⟨b1, b2, b3, b4, b5, b6, b7, b8, b9, b10⟩ := s2
        obtain ⟨q1, q2, q3, q4, q5, q6⟩ := MR_I (B := B') (N := N') (J := J') (K := K') (k := 31) (v := t) ⟨b1, b2, b3, b4, b5, b6⟩ (by omega)
        refine ⟨sI M1 133 31 t, ?_, ⟨q1, q2, q3, q4, q5, q6, by simp [gI_sI, b7], by simp [gI_sI, b8], by simp [gI_sI], by simp [gI_sI, b10]⟩, s3.trans (FrM.sI (by omega)), s4.trans (fun _ => rfl)⟩
        simp only at hB s1
        unfold m_X7_senderGoes_j91
        simp (disch := omega) only [ji1, ji2, ji3, ji4, ji5, ji6, ji7, ji8, ji9, ji10, ji11, ji12, ji13, ji14, ji15, ji16, ji19, ji20, ji39, ji119, ji144, ji366, ji24, ji31, ji32, ji45, ji48, ji57, ji58, ji59, ji97, ji120, ji122, ji183, ji200, ji226, ji240, ji255, ji500, jI_z, ↓jI_m1, jI_add, jI_sub, jI_mul, ↓hg133_0, hw133_0, ↓hg133_1, ↓hg133_2, ↓hg133_3, hw133_3, ↓hg133_4, hw133_4, ↓hg133_5, hw133_5, ↓hg133_6, hw133_6, ↓hg133_7, hw133_7, ↓hg133_8, hw133_8, ↓hg133_9, hw133_9, ↓hg133_10, hw133_10, ↓hg133_11, hw133_11, ↓hg133_12, hw133_12, ↓hg133_13, ↓hg133_14, hw133_14, ↓hg133_15, ↓hg133_16, ↓hg133_17, ↓hg133_18, ↓hg133_19, ↓hg133_20, ↓hg133_21, hw133_21, ↓hg133_22, ↓hg133_23, hw133_23, ↓hg133_24, hw133_24, ↓hg133_25, hw133_25, ↓hg133_26, hw133_26, ↓hg133_27, hw133_27, ↓hg133_28, ↓hg133_29, hw133_29, ↓hg133_30, hw133_30, ↓hg133_31, hw133_31, ↓hg133_32, hw133_32, ↓hg133_33, hw133_33, ↓hg133_34, hw133_34, ↓hg133_35, hw133_35, ↓hg133_36, hw133_36, ↓hg133_37, ↓hg133_38, ↓hg133_39, ↓hv133, ↓hx133, ha134, hu134, ↓hl134, ha135, hu135, ↓hl135, ha136, hu136, ↓hl136, ha137, hu137, ↓hl137, ha138, hu138, ↓hl138, ha139, hu139, ↓hl139, ha140, hu140, ↓hl140, ha141, hu141, ↓hl141, ha142, hu142, ↓hl142, ha143, hu143, ↓hl143, ha144, hu144, ↓hl144, ha145, hu145, ↓hl145, ha146, hu146, ↓hl146, ha147, hu147, ↓hl147, hB]
        rw [s1]
        simp (disch := omega) only [ji1, ji2, ji3, ji4, ji5, ji6, ji7, ji8, ji9, ji10, ji11, ji12, ji13, ji14, ji15, ji16, ji19, ji20, ji39, ji119, ji144, ji366, ji24, ji31, ji32, ji45, ji48, ji57, ji58, ji59, ji97, ji120, ji122, ji183, ji200, ji226, ji240, ji255, ji500, jI_z, ↓jI_m1, jI_add, jI_sub, jI_mul, ↓mo_cs_s, ↓mo_xs_r, ↓mo_xs_l, ↓mo_nl_s, mo_z_0, mo_z_1, ↓hg133_0, hw133_0, ↓hg133_1, ↓hg133_2, ↓hg133_3, hw133_3, ↓hg133_4, hw133_4, ↓hg133_5, hw133_5, ↓hg133_6, hw133_6, ↓hg133_7, hw133_7, ↓hg133_8, hw133_8, ↓hg133_9, hw133_9, ↓hg133_10, hw133_10, ↓hg133_11, hw133_11, ↓hg133_12, hw133_12, ↓hg133_13, ↓hg133_14, hw133_14, ↓hg133_15, ↓hg133_16, ↓hg133_17, ↓hg133_18, ↓hg133_19, ↓hg133_20, ↓hg133_21, hw133_21, ↓hg133_22, ↓hg133_23, hw133_23, ↓hg133_24, hw133_24, ↓hg133_25, hw133_25, ↓hg133_26, hw133_26, ↓hg133_27, hw133_27, ↓hg133_28, ↓hg133_29, hw133_29, ↓hg133_30, hw133_30, ↓hg133_31, hw133_31, ↓hg133_32, hw133_32, ↓hg133_33, hw133_33, ↓hg133_34, hw133_34, ↓hg133_35, hw133_35, ↓hg133_36, hw133_36, ↓hg133_37, ↓hg133_38, ↓hg133_39, ↓hv133, ↓hx133, ha134, hu134, ↓hl134, ha135, hu135, ↓hl135, ha136, hu136, ↓hl136, ha137, hu137, ↓hl137, ha138, hu138, ↓hl138, ha139, hu139, ↓hl139, ha140, hu140, ↓hl140, ha141, hu141, ↓hl141, ha142, hu142, ↓hl142, ha143, hu143, ↓hl143, ha144, hu144, ↓hl144, ha145, hu145, ↓hl145, ha146, hu146, ↓hl146, ha147, hu147, ↓hl147, b3]
      have pre : ∀ r, (if s.2.2.2.1 < c.1 1 then (if s.2.2.2.2.2.1 = -1 then m_X7_senderGoes_j91 (z + 133) (hp z M) else (if t - s.2.2.2.2.2.1 < c.1 4 then some ((), hp z M) else m_X7_senderGoes_j91 (z + 133) (hp z M))) else some ((), hp z M)) = r → m_X7_senderGoes (hp z M) (z + 133) = r := by
        intro r hr
        rw [← hr]
        unfold m_X7_senderGoes
        simp (disch := omega) only [ji1, ji2, ji3, ji4, ji5, ji6, ji7, ji8, ji9, ji10, ji11, ji12, ji13, ji14, ji15, ji16, ji19, ji20, ji39, ji119, ji144, ji366, ji24, ji31, ji32, ji45, ji48, ji57, ji58, ji59, ji97, ji120, ji122, ji183, ji200, ji226, ji240, ji255, ji500, jI_z, ↓jI_m1, jI_add, jI_sub, jI_mul, ↓hg133_0, hw133_0, ↓hg133_1, ↓hg133_2, ↓hg133_3, hw133_3, ↓hg133_4, hw133_4, ↓hg133_5, hw133_5, ↓hg133_6, hw133_6, ↓hg133_7, hw133_7, ↓hg133_8, hw133_8, ↓hg133_9, hw133_9, ↓hg133_10, hw133_10, ↓hg133_11, hw133_11, ↓hg133_12, hw133_12, ↓hg133_13, ↓hg133_14, hw133_14, ↓hg133_15, ↓hg133_16, ↓hg133_17, ↓hg133_18, ↓hg133_19, ↓hg133_20, ↓hg133_21, hw133_21, ↓hg133_22, ↓hg133_23, hw133_23, ↓hg133_24, hw133_24, ↓hg133_25, hw133_25, ↓hg133_26, hw133_26, ↓hg133_27, hw133_27, ↓hg133_28, ↓hg133_29, hw133_29, ↓hg133_30, hw133_30, ↓hg133_31, hw133_31, ↓hg133_32, hw133_32, ↓hg133_33, hw133_33, ↓hg133_34, hw133_34, ↓hg133_35, hw133_35, ↓hg133_36, hw133_36, ↓hg133_37, ↓hg133_38, ↓hg133_39, ↓hv133, ↓hx133, ha134, hu134, ↓hl134, ha135, hu135, ↓hl135, ha136, hu136, ↓hl136, ha137, hu137, ↓hl137, ha138, hu138, ↓hl138, ha139, hu139, ↓hl139, ha140, hu140, ↓hl140, ha141, hu141, ↓hl141, ha142, hu142, ↓hl142, ha143, hu143, ↓hl143, ha144, hu144, ↓hl144, ha145, hu145, ↓hl145, ha146, hu146, ↓hl146, ha147, hu147, ↓hl147, jI_lt, jI_eq, hB, hV, hJ, h26, Ra ha, r0, r1, r4, g0, g1, if_true, if_false, show ¬ (1 : Int) = 0 by omega]
      by_cases g2 : s.2.2.2.1 < c.1 1
      · by_cases g3 : s.2.2.2.2.2.1 = -1
        · rw [if_pos ⟨g2, Or.inl g3⟩]
          obtain ⟨M', k1, k2⟩ := j91
          exact ⟨M', pre _ (by rw [if_pos g2, if_pos g3]; exact k1), k2⟩
        · by_cases g4 : t - s.2.2.2.2.2.1 < c.1 4
          · rw [if_neg (by omega)]
            exact ⟨M, pre _ (by rw [if_pos g2, if_neg g3, if_pos g4]), h, FrM.rfl', Vr.rfl'⟩
          · rw [if_pos ⟨g2, Or.inr (by omega)⟩]
            obtain ⟨M', k1, k2⟩ := j91
            exact ⟨M', pre _ (by rw [if_pos g2, if_neg g3, if_neg g4]; exact k1), k2⟩
      · rw [if_neg (fun h => g2 h.1)]
        exact ⟨M, pre _ (by rw [if_neg g2]), h, FrM.rfl', Vr.rfl'⟩
    · rw [if_neg g1]
      have hzT := zTim_I hz ht.1
      have pre : ∀ r, (if s.2.2.2.1 < s.2.2.2.2.1 then (if t - s.2.2.2.2.2.1 < c.1 4 then m_X7_senderGoes_j154 (z + 133) (hp z M) else m_X7_senderGoes_j154 (z + 133) (hp z (sI (sI M 133 31 t) 133 30 s.2.2.2.1))) else m_X7_senderGoes_j154 (z + 133) (hp z M)) = r → m_X7_senderGoes (hp z M) (z + 133) = r := by
        intro r hr
        rw [← hr]
        unfold m_X7_senderGoes
        simp (disch := omega) only [ji1, ji2, ji3, ji4, ji5, ji6, ji7, ji8, ji9, ji10, ji11, ji12, ji13, ji14, ji15, ji16, ji19, ji20, ji39, ji119, ji144, ji366, ji24, ji31, ji32, ji45, ji48, ji57, ji58, ji59, ji97, ji120, ji122, ji183, ji200, ji226, ji240, ji255, ji500, jI_z, ↓jI_m1, jI_add, jI_sub, jI_mul, ↓hg133_0, hw133_0, ↓hg133_1, ↓hg133_2, ↓hg133_3, hw133_3, ↓hg133_4, hw133_4, ↓hg133_5, hw133_5, ↓hg133_6, hw133_6, ↓hg133_7, hw133_7, ↓hg133_8, hw133_8, ↓hg133_9, hw133_9, ↓hg133_10, hw133_10, ↓hg133_11, hw133_11, ↓hg133_12, hw133_12, ↓hg133_13, ↓hg133_14, hw133_14, ↓hg133_15, ↓hg133_16, ↓hg133_17, ↓hg133_18, ↓hg133_19, ↓hg133_20, ↓hg133_21, hw133_21, ↓hg133_22, ↓hg133_23, hw133_23, ↓hg133_24, hw133_24, ↓hg133_25, hw133_25, ↓hg133_26, hw133_26, ↓hg133_27, hw133_27, ↓hg133_28, ↓hg133_29, hw133_29, ↓hg133_30, hw133_30, ↓hg133_31, hw133_31, ↓hg133_32, hw133_32, ↓hg133_33, hw133_33, ↓hg133_34, hw133_34, ↓hg133_35, hw133_35, ↓hg133_36, hw133_36, ↓hg133_37, ↓hg133_38, ↓hg133_39, ↓hv133, ↓hx133, ha134, hu134, ↓hl134, ha135, hu135, ↓hl135, ha136, hu136, ↓hl136, ha137, hu137, ↓hl137, ha138, hu138, ↓hl138, ha139, hu139, ↓hl139, ha140, hu140, ↓hl140, ha141, hu141, ↓hl141, ha142, hu142, ↓hl142, ha143, hu143, ↓hl143, ha144, hu144, ↓hl144, ha145, hu145, ↓hl145, ha146, hu146, ↓hl146, ha147, hu147, ↓hl147, jI_lt, jI_eq, hB, hN, hV, hJ, h26, Ra ha, r0, r1, r4, g0, g1, if_false, gI_sI, and_true, and_false, show ¬ (29 : Nat) = 31 by decide]
      obtain ⟨T, O, W, B, N, J, K, C⟩ := s
      obtain ⟨b1, b2, b3, b4, b5, b6, b7, b8, b9, b10⟩ := h
      by_cases g2 : B < N
      · by_cases g3 : t - J < c.1 4
        · have e : zTim c t (T, O, W, B, N, J, K, C) = (T, O, W, B, N, J, K, C) := if_neg (by omega)
          rw [e]
          obtain ⟨M', k1, k2⟩ := X7_win (z := z) ha hc ht hz ⟨b1, b2, b3, b4, b5, b6, b7, b8, b9, b10⟩
          exact ⟨M', pre _ (by rw [if_pos g2, if_pos g3]; exact k1), k2⟩
        · have e : zTim c t (T, O, W, B, N, J, K, C) = (T, O, W, B, B, t, K, C) := if_pos (by omega)
          rw [e] at hzT ⊢
          obtain ⟨q1, q2, q3, q4, q5, q6⟩ := MR_I (B := B) (N := N) (J := J) (K := K) (k := 30) (v := B) (MR_I (B := B) (N := N) (J := J) (K := K) (k := 31) (v := t) ⟨b1, b2, b3, b4, b5, b6⟩ (by omega)) (by omega)
          obtain ⟨M', k1, k2, k3, k4⟩ := X7_win (z := z) ha hc ht hzT ⟨q1, q2, q3, q4, q5, q6, by simp [gI_sI, b7], by simp [gI_sI], by simp [gI_sI], by simp [gI_sI, b10]⟩
          exact ⟨M', pre _ (by rw [if_pos g2, if_neg g3]; exact k1), k2, ((FrM.sI (by omega)).trans (FrM.sI (by omega))).trans k3, fun k => k4 k⟩
      · have e : zTim c t (T, O, W, B, N, J, K, C) = (T, O, W, B, N, J, K, C) := if_neg (fun h => g2 h.1)
        rw [e]
        obtain ⟨M', k1, k2⟩ := X7_win (z := z) ha hc ht hz ⟨b1, b2, b3, b4, b5, b6, b7, b8, b9, b10⟩
        exact ⟨M', pre _ (by rw [if_neg g2]; exact k1), k2⟩
theorem X7_hand {z a k : Nat} {M : hM} {c : hCf} {s : hS} {t : Int} {x : hT} (ha : isR a) (hc : okC c) (ht : 0 ≤ t ∧ t < 200) (hz : zJ c t k s) (hx : s.1[k]? = some x) (hy : zIs t k s.1 = true) (h : MR M c a t s) :
    ∃ M', m_X7_handles (hp z M) (z + 133) (jI k) = some ((), hp z M') ∧ MR M' c a t (zHand c t k s) ∧ FrM M M' ∧ Vr M M' := by
  have hl := hz.lt ht.1 hx hy
  have hL := (MR_get h).2.2.2.1
  have hT120 : s.1.length ≤ 120 := by obtain ⟨T, O, W, B, N, J, K, C⟩ := s; exact hz.1.1
  have hk : k < s.1.length := (List.getElem?_eq_some_iff.mp hx).1
  have ho : okT c t x := by obtain ⟨T, O, W, B, N, J, K, C⟩ := s; exact hz.1.2.1 x (List.mem_of_getElem? hx)
  obtain ⟨o1, o2, o3, o4, o5, o6⟩ := ho
  obtain ⟨e1, e2, e3, e4, e5⟩ := hL.2 k x hx
  have hH : zHand c t k s = if x.2.1 = 0 then zData c t x.2.2.1 s else zAns c t x.2.2.1 s := by unfold zHand; rw [hx]
  rw [hH]
  by_cases g0 : x.2.1 = 0
  · rw [if_pos g0]
    obtain ⟨M', r1, r2⟩ := X7_data (z := z) (w := x.2.2.1) ha hc ht hz.1 hl ⟨o4, o5⟩ h
    refine ⟨M', ?_, r2⟩
    unfold m_X7_handles
    simp (disch := omega) only [ji1, ji2, ji3, ji4, ji5, ji6, ji7, ji8, ji9, ji10, ji11, ji12, ji13, ji14, ji15, ji16, ji19, ji20, ji39, ji119, ji144, ji366, ji24, ji31, ji32, ji45, ji48, ji57, ji58, ji59, ji97, ji120, ji122, ji183, ji200, ji226, ji240, ji255, ji500, jI_z, ↓jI_m1, jI_add, jI_sub, jI_mul, ↓hg133_0, hw133_0, ↓hg133_1, ↓hg133_2, ↓hg133_3, hw133_3, ↓hg133_4, hw133_4, ↓hg133_5, hw133_5, ↓hg133_6, hw133_6, ↓hg133_7, hw133_7, ↓hg133_8, hw133_8, ↓hg133_9, hw133_9, ↓hg133_10, hw133_10, ↓hg133_11, hw133_11, ↓hg133_12, hw133_12, ↓hg133_13, ↓hg133_14, hw133_14, ↓hg133_15, ↓hg133_16, ↓hg133_17, ↓hg133_18, ↓hg133_19, ↓hg133_20, ↓hg133_21, hw133_21, ↓hg133_22, ↓hg133_23, hw133_23, ↓hg133_24, hw133_24, ↓hg133_25, hw133_25, ↓hg133_26, hw133_26, ↓hg133_27, hw133_27, ↓hg133_28, ↓hg133_29, hw133_29, ↓hg133_30, hw133_30, ↓hg133_31, hw133_31, ↓hg133_32, hw133_32, ↓hg133_33, hw133_33, ↓hg133_34, hw133_34, ↓hg133_35, hw133_35, ↓hg133_36, hw133_36, ↓hg133_37, ↓hg133_38, ↓hg133_39, ↓hv133, ↓hx133, ha134, hu134, ↓hl134, ha135, hu135, ↓hl135, ha136, hu136, ↓hl136, ha137, hu137, ↓hl137, ha138, hu138, ↓hl138, ha139, hu139, ↓hl139, ha140, hu140, ↓hl140, ha141, hu141, ↓hl141, ha142, hu142, ↓hl142, ha143, hu143, ↓hl143, ha144, hu144, ↓hl144, ha145, hu145, ↓hl145, ha146, hu146, ↓hl146, ha147, hu147, ↓hl147, Int.toNat_natCast, e2, e3, g0, if_true]
    rw [r1]; rfl
  · rw [if_neg g0]
    have g1 : x.2.1 = 1 := by omega
    obtain ⟨M', r1, r2⟩ := X7_ans (z := z) (sg := x.2.2.1) ha hc ht hz.1 ⟨o4, o5⟩ (by omega) h
    refine ⟨M', ?_, r2⟩
    unfold m_X7_handles
    simp (disch := omega) only [ji1, ji2, ji3, ji4, ji5, ji6, ji7, ji8, ji9, ji10, ji11, ji12, ji13, ji14, ji15, ji16, ji19, ji20, ji39, ji119, ji144, ji366, ji24, ji31, ji32, ji45, ji48, ji57, ji58, ji59, ji97, ji120, ji122, ji183, ji200, ji226, ji240, ji255, ji500, jI_z, ↓jI_m1, jI_add, jI_sub, jI_mul, ↓hg133_0, hw133_0, ↓hg133_1, ↓hg133_2, ↓hg133_3, hw133_3, ↓hg133_4, hw133_4, ↓hg133_5, hw133_5, ↓hg133_6, hw133_6, ↓hg133_7, hw133_7, ↓hg133_8, hw133_8, ↓hg133_9, hw133_9, ↓hg133_10, hw133_10, ↓hg133_11, hw133_11, ↓hg133_12, hw133_12, ↓hg133_13, ↓hg133_14, hw133_14, ↓hg133_15, ↓hg133_16, ↓hg133_17, ↓hg133_18, ↓hg133_19, ↓hg133_20, ↓hg133_21, hw133_21, ↓hg133_22, ↓hg133_23, hw133_23, ↓hg133_24, hw133_24, ↓hg133_25, hw133_25, ↓hg133_26, hw133_26, ↓hg133_27, hw133_27, ↓hg133_28, ↓hg133_29, hw133_29, ↓hg133_30, hw133_30, ↓hg133_31, hw133_31, ↓hg133_32, hw133_32, ↓hg133_33, hw133_33, ↓hg133_34, hw133_34, ↓hg133_35, hw133_35, ↓hg133_36, hw133_36, ↓hg133_37, ↓hg133_38, ↓hg133_39, ↓hv133, ↓hx133, ha134, hu134, ↓hl134, ha135, hu135, ↓hl135, ha136, hu136, ↓hl136, ha137, hu137, ↓hl137, ha138, hu138, ↓hl138, ha139, hu139, ↓hl139, ha140, hu140, ↓hl140, ha141, hu141, ↓hl141, ha142, hu142, ↓hl142, ha143, hu143, ↓hl143, ha144, hu144, ↓hl144, ha145, hu145, ↓hl145, ha146, hu146, ↓hl146, ha147, hu147, ↓hl147, Int.toNat_natCast, e2, e3, g1, jI_eq, show ¬ (1 : Int) = 0 by omega, if_false]
    rw [r1]; rfl

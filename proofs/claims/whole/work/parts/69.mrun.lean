/-! .. its steps. -/
theorem MR_send {z a : Nat} {M : hM} {c : hCf} {s : hS} {t kd w : Int} (ha : isR a) (hc : okC c) (ht : 0 ≤ t ∧ t < 200) (hz : zI c t s) (h : MR M c a t s) :
    ∃ M', m_X7_sends (hp z M) (z + 133) (jI kd) (jI w) = some ((), hp z M') ∧ MR M' c a t (zSend c t kd w s) ∧ FrM M M' ∧ Vr M M' :=
  X7_sends ha hc ht (by obtain ⟨T, O, W, B, N, J, K, C⟩ := s; exact hz.1) h
theorem MR_get {M : hM} {c : hCf} {a : Nat} {t : Int} {s : hS} (h : MR M c a t s) : gV M 1 = a ∧ RR (gA M a) c ∧ gI M 133 26 = t ∧ ML M s.1 ∧ MD M s.2.1 s.2.2.2.2.2.2.2 ∧ MS M s.2.2.1 ∧ gI M 133 29 = s.2.2.2.1 ∧ gI M 133 30 = s.2.2.2.2.1 ∧ gI M 133 31 = s.2.2.2.2.2.1 ∧ gI M 133 32 = s.2.2.2.2.2.2.1 := by
  obtain ⟨T, O, W, B, N, J, K, C⟩ := s
  exact h
theorem RR.at {M : hM} {a k : Nat} {c : hCf} (h : RR (gA M a) c) (hk : k < 8) : gA M a k = c.1 k := h.1 k hk
theorem MR_I {M : hM} {c : hCf} {a : Nat} {t : Int} {T : List hT} {O : List Int} {W : Nat → Nat} {B N J K C : Int} {k : Nat} {v : Int} (h : gV M 1 = a ∧ RR (gA M a) c ∧ gI M 133 26 = t ∧ ML M T ∧ MD M O C ∧ MS M W) (hk : 29 ≤ k) : gV (sI M 133 k v) 1 = a ∧ RR (gA (sI M 133 k v) a) c ∧ gI (sI M 133 k v) 133 26 = t ∧ ML (sI M 133 k v) T ∧ MD (sI M 133 k v) O C ∧ MS (sI M 133 k v) W := by
  obtain ⟨h1, h2, h3, h4, h5, h6⟩ := h
  have e : ∀ j, j < 29 → gI (sI M 133 k v) 133 j = gI M 133 j := fun j hj => by rw [gI_sI, if_neg (by omega)]
  exact ⟨h1, h2, by rw [e 26 (by omega), h3], ⟨by rw [e 21 (by omega)]; exact h4.1, h4.2⟩, ⟨by rw [e 23 (by omega)]; exact h5.1, h5.2.1, by rw [e 24 (by omega)]; exact h5.2.2.1, by rw [e 25 (by omega)]; exact h5.2.2.2⟩, h6⟩
theorem X7_del {z a : Nat} {M : hM} {c : hCf} {s : hS} {t w : Int} (ha : isR a) (hc : okC c) (ht : 0 ≤ t ∧ t < 200) (hz : zI c t s) (hl : s.2.1.length < 240) (hw : 0 ≤ w ∧ w ≤ 7) (h : MR M c a t s) :
    ∃ M', m_X7_delivers (hp z M) (z + 133) (jI w) = some ((), hp z M') ∧ MR M' c a t (zDel c t w s) ∧ FrM M M' ∧ Vr M M' := by
  have hcs := hc.s
  obtain ⟨T, O, W, B, N, J, K, C⟩ := s
  obtain ⟨hV, hR, h26, ⟨hn, hA⟩, ⟨d1, d2, d3, d4⟩, hS, hB, hN, hJ, hK⟩ := h
  obtain ⟨z1, z2, z3, z4, z5, z6, z7, z8, z9⟩ := hz
  simp only at hl
  have hsm : seenM O < 256 := seenM_lt z3 0 (by decide)
  have hsa : seenM (O ++ [w]) = seenM O ||| 2 ^ w.toNat := by unfold seenM; rw [List.foldl_append]; rfl
  have hp2 : (2 : Nat) ^ w.toNat ≤ 2 ^ 7 := Nat.pow_le_pow_right (by omega) (by omega)
  have hsm2 : seenM O ||| 2 ^ w.toNat < 2 ^ 8 := Nat.or_lt_two_pow (n := 8) hsm (by omega)
  have hp3 : (2 : Nat) ^ (c.1 1).toNat ≤ 2 ^ 8 := Nat.pow_le_pow_right (by omega) (by omega)
  have hp1 : 1 ≤ (2 : Nat) ^ (c.1 1).toNat := Nat.one_le_two_pow
  generalize hM1 : sI (sI (sA M 143 O.length w) 133 23 (O.length + 1)) 133 24 (seenM (O ++ [w]) : Nat) = M1
  have hF1 : FrM M M1 := by rw [← hM1]; exact ((FrM.sA (by omega)).trans (FrM.sI (by omega))).trans (FrM.sI (by omega))
  have hV1 : Vr M M1 := by rw [← hM1]; exact fun _ => rfl
  have hR1 : RR (gA M1 a) c := hF1.row ha hR
  have e1 : ∀ k, k ≠ 23 → k ≠ 24 → gI M1 133 k = gI M 133 k := fun k h1 h2 => by rw [← hM1]; simp [gI_sI, gI_sA, h1, h2]
  have e2 : ∀ b k, b ≠ 143 → gA M1 b k = gA M b k := fun b k hb => by rw [← hM1]; simp [gA_sI, gA_sA, hb]
  have hMD : ∀ C', gI (if C' = C then M1 else sI M1 133 25 C') 133 25 = C' := by
    intro C'; by_cases g : C' = C
    · rw [if_pos g, e1 25 (by omega) (by omega), d4, g]
    · rw [if_neg g, gI_sI, if_pos ⟨rfl, rfl⟩]
  have hO2 : ∀ k x, (O ++ [w])[k]? = some x → gA M1 143 k = x := by
    intro k x hk
    by_cases hkn : k < O.length
    · rw [List.getElem?_append_left hkn] at hk
      rw [← hM1, gA_sI, gA_sI, gA_sA, if_neg (by omega)]; exact d2 k x hk
    · have hkl := (List.getElem?_eq_some_iff.mp hk).1
      simp only [List.length_append, List.length_cons, List.length_nil] at hkl
      rw [List.getElem?_append_right (by omega), show k - O.length = 0 from by omega] at hk
      simp only [List.getElem?_cons_zero, Option.some.injEq] at hk
      rw [← hM1, gA_sI, gA_sI, gA_sA, if_pos ⟨rfl, by omega⟩]; exact hk
  have h23 : gI M1 133 23 = ((O ++ [w]).length : Nat) := by rw [← hM1]; simp [gI_sI]
  have h24 : gI M1 133 24 = (seenM (O ++ [w]) : Nat) := by rw [← hM1]; simp [gI_sI]
  have hi : gA M1 a (1 : Int).toNat = c.1 1 := hR1.1 1 (by omega)
  have hOl : (O.length : Int) < 240 := by omega
  have pre : ∀ r, (if jI C = jI (-1) then (if jI (seenM (O ++ [w]) : Nat) = jI (((2 ^ (c.1 1).toNat : Nat) : Int) - 1) then some ((), hp z (sI M1 133 25 t)) else some ((), hp z M1)) else some ((), hp z M1)) = r → m_X7_delivers (hp z M) (z + 133) (jI w) = r := by
    intro r hr
    rw [← hr]
    unfold m_X7_delivers
    simp (disch := omega) only [ji1, ji2, ji3, ji4, ji5, ji6, ji7, ji8, ji9, ji10, ji11, ji12, ji13, ji14, ji15, ji16, ji19, ji20, ji39, ji119, ji144, ji366, ji24, ji31, ji32, ji45, ji48, ji57, ji58, ji59, ji97, ji120, ji122, ji183, ji200, ji226, ji240, ji255, ji500, jI_z, ↓jI_m1, jI_add, jI_sub, jI_mul, ↓hg133_0, hw133_0, ↓hg133_1, ↓hg133_2, ↓hg133_3, hw133_3, ↓hg133_4, hw133_4, ↓hg133_5, hw133_5, ↓hg133_6, hw133_6, ↓hg133_7, hw133_7, ↓hg133_8, hw133_8, ↓hg133_9, hw133_9, ↓hg133_10, hw133_10, ↓hg133_11, hw133_11, ↓hg133_12, hw133_12, ↓hg133_13, ↓hg133_14, hw133_14, ↓hg133_15, ↓hg133_16, ↓hg133_17, ↓hg133_18, ↓hg133_19, ↓hg133_20, ↓hg133_21, hw133_21, ↓hg133_22, ↓hg133_23, hw133_23, ↓hg133_24, hw133_24, ↓hg133_25, hw133_25, ↓hg133_26, hw133_26, ↓hg133_27, hw133_27, ↓hg133_28, ↓hg133_29, hw133_29, ↓hg133_30, hw133_30, ↓hg133_31, hw133_31, ↓hg133_32, hw133_32, ↓hg133_33, hw133_33, ↓hg133_34, hw133_34, ↓hg133_35, hw133_35, ↓hg133_36, hw133_36, ↓hg133_37, ↓hg133_38, ↓hg133_39, ↓hv133, ↓hx133, ha134, hu134, ↓hl134, ha135, hu135, ↓hl135, ha136, hu136, ↓hl136, ha137, hu137, ↓hl137, ha138, hu138, ↓hl138, ha139, hu139, ↓hl139, ha140, hu140, ↓hl140, ha141, hu141, ↓hl141, ha142, hu142, ↓hl142, ha143, hu143, ↓hl143, ha144, hu144, ↓hl144, ha145, hu145, ↓hl145, ha146, hu146, ↓hl146, ha147, hu147, ↓hl147, d1, Int.toNat_natCast, gI_sA, gI_sI, and_true, and_false, if_false, show ¬ (24 : Nat) = 23 by decide, d3, jS, jI_or, ← hsa, hM1, e1 25 (by omega) (by omega), d4, h24, hV1 1, hV, Ra ha, hi, e1 26 (by omega) (by omega), h26]
  have fin : ∀ (M' : hM) (C' : Int), (M' = M1 ∧ C' = C) ∨ (M' = sI M1 133 25 t ∧ C' = t) → MR M' c a t (T, O ++ [w], W, B, N, J, K, C') ∧ FrM M M' ∧ Vr M M' := by
    intro M' C' hM'
    have base : MR M1 c a t (T, O ++ [w], W, B, N, J, K, C) := ⟨by rw [hV1, hV], hR1, by rw [e1 26 (by omega) (by omega), h26], ⟨by rw [e1 21 (by omega) (by omega), hn], fun k x hk => by rw [e2 138 k (by omega), e2 139 k (by omega), e2 140 k (by omega), e2 141 k (by omega), e2 142 k (by omega)]; exact hA k x hk⟩, ⟨h23, hO2, h24, by rw [e1 25 (by omega) (by omega), d4]⟩, fun s' t' h1 h2 => by rw [e2 144 _ (by omega)]; exact hS s' t' h1 h2, by rw [e1 29 (by omega) (by omega), hB], by rw [e1 30 (by omega) (by omega), hN], by rw [e1 31 (by omega) (by omega), hJ], by rw [e1 32 (by omega) (by omega), hK]⟩
    rcases hM' with ⟨g1, g2⟩ | ⟨g1, g2⟩
    · subst g1; subst g2; exact ⟨base, hF1, hV1⟩
    · subst g1; subst g2
      obtain ⟨b1, b2, b3, b4, b5, b6, b7, b8, b9, b10⟩ := base
      have e : ∀ k, k ≠ 25 → gI (sI M1 133 25 C') 133 k = gI M1 133 k := fun k hk => by rw [gI_sI, if_neg (by omega)]
      exact ⟨⟨b1, b2, by rw [e 26 (by omega), b3], ⟨by rw [e 21 (by omega)]; exact b4.1, b4.2⟩, ⟨by rw [e 23 (by omega)]; exact b5.1, b5.2.1, by rw [e 24 (by omega)]; exact b5.2.2.1, by rw [gI_sI, if_pos ⟨rfl, rfl⟩]⟩, b6, by rw [e 29 (by omega), b7], by rw [e 30 (by omega), b8], by rw [e 31 (by omega), b9], by rw [e 32 (by omega), b10]⟩, hF1.trans (FrM.sI (by omega)), hV1⟩
  have hZ : zDel c t w (T, O, W, B, N, J, K, C) = (T, O ++ [w], W, B, N, J, K, if C = -1 ∧ seenM (O ++ [w]) = 2 ^ (c.1 1).toNat - 1 then t else C) := rfl
  rw [hZ]
  by_cases g1 : C = -1
  · by_cases g2 : seenM (O ++ [w]) = 2 ^ (c.1 1).toNat - 1
    · rw [if_pos ⟨g1, g2⟩]
      refine ⟨sI M1 133 25 t, pre _ ?_, fin _ _ (Or.inr ⟨rfl, rfl⟩)⟩
      rw [if_pos (by rw [g1]), if_pos (by congr 1; omega)]
    · rw [if_neg (fun h => g2 h.2)]
      refine ⟨M1, pre _ ?_, fin _ _ (Or.inl ⟨rfl, rfl⟩)⟩
      rw [if_pos (by rw [g1]), if_neg (by rw [jI_eq (by omega) (by omega) (by omega) (by omega)]; omega)]
  · rw [if_neg (fun h => g1 h.1)]
    refine ⟨M1, pre _ ?_, fin _ _ (Or.inl ⟨rfl, rfl⟩)⟩
    rw [if_neg (by rw [jI_eq (by omega) (by omega) (by omega) (by omega)]; omega)]
theorem X7_data {z a : Nat} {M : hM} {c : hCf} {s : hS} {t w : Int} (ha : isR a) (hc : okC c) (ht : 0 ≤ t ∧ t < 200) (hz : zI c t s) (hl : s.2.1.length < 240) (hw : 0 ≤ w ∧ w ≤ 7) (h : MR M c a t s) :
    ∃ M', m_X7_dataComes (hp z M) (z + 133) (jI w) = some ((), hp z M') ∧ MR M' c a t (zData c t w s) ∧ FrM M M' ∧ Vr M M' := by
  have hcs := hc.s
  have hG := MR_get h
  obtain ⟨hV, hR, h26, hL, hD, hS, hB, hN, hJ, hK⟩ := hG
  have r0 : gA M a (0 : Int).toNat = c.1 0 := hR.1 0 (by omega)
  have r6 : gA M a (6 : Int).toNat = c.1 6 := hR.1 6 (by omega)
  unfold zData
  by_cases g0 : c.1 0 = 0
  · rw [if_pos g0]
    obtain ⟨M', s1, s2, s3, s4⟩ := X7_del (z := z) ha hc ht hz hl hw h
    refine ⟨M', ?_, s2, s3, s4⟩
    unfold m_X7_dataComes
    simp (disch := omega) only [ji1, ji2, ji3, ji4, ji5, ji6, ji7, ji8, ji9, ji10, ji11, ji12, ji13, ji14, ji15, ji16, ji19, ji20, ji39, ji119, ji144, ji366, ji24, ji31, ji32, ji45, ji48, ji57, ji58, ji59, ji97, ji120, ji122, ji183, ji200, ji226, ji240, ji255, ji500, jI_z, ↓jI_m1, jI_add, jI_sub, jI_mul, ↓hg133_0, hw133_0, ↓hg133_1, ↓hg133_2, ↓hg133_3, hw133_3, ↓hg133_4, hw133_4, ↓hg133_5, hw133_5, ↓hg133_6, hw133_6, ↓hg133_7, hw133_7, ↓hg133_8, hw133_8, ↓hg133_9, hw133_9, ↓hg133_10, hw133_10, ↓hg133_11, hw133_11, ↓hg133_12, hw133_12, ↓hg133_13, ↓hg133_14, hw133_14, ↓hg133_15, ↓hg133_16, ↓hg133_17, ↓hg133_18, ↓hg133_19, ↓hg133_20, ↓hg133_21, hw133_21, ↓hg133_22, ↓hg133_23, hw133_23, ↓hg133_24, hw133_24, ↓hg133_25, hw133_25, ↓hg133_26, hw133_26, ↓hg133_27, hw133_27, ↓hg133_28, ↓hg133_29, hw133_29, ↓hg133_30, hw133_30, ↓hg133_31, hw133_31, ↓hg133_32, hw133_32, ↓hg133_33, hw133_33, ↓hg133_34, hw133_34, ↓hg133_35, hw133_35, ↓hg133_36, hw133_36, ↓hg133_37, ↓hg133_38, ↓hg133_39, ↓hv133, ↓hx133, ha134, hu134, ↓hl134, ha135, hu135, ↓hl135, ha136, hu136, ↓hl136, ha137, hu137, ↓hl137, ha138, hu138, ↓hl138, ha139, hu139, ↓hl139, ha140, hu140, ↓hl140, ha141, hu141, ↓hl141, ha142, hu142, ↓hl142, ha143, hu143, ↓hl143, ha144, hu144, ↓hl144, ha145, hu145, ↓hl145, ha146, hu146, ↓hl146, ha147, hu147, ↓hl147, hV, Ra ha, r0, g0, if_true]
    rw [s1]; rfl
  · rw [if_neg g0]
    have hsg := zSg_in hc
    have hKK : s.2.2.2.2.2.2.1 = sK s := rfl
    have hK7 : 0 ≤ sK s ∧ sK s ≤ 240 := by
      obtain ⟨T, O, W, B, N, J, K, C⟩ := s
      have := hz.2.2.2.2.2.2.1
      simp only at hl
      exact ⟨this.1, by show K ≤ 240; omega⟩
    rw [hKK] at hK
    have m1 := Int.emod_nonneg (sK (zD1 c t w s)) (show zSg c ≠ 0 by omega)
    have m2 := Int.emod_lt_of_pos (sK (zD1 c t w s)) (show 0 < zSg c by omega)
    have m3 := Int.emod_nonneg w (show zSg c ≠ 0 by omega)
    have m4 := Int.emod_lt_of_pos w (show 0 < zSg c by omega)
    have m5 := Int.emod_nonneg (sK s) (show zSg c ≠ 0 by omega)
    have m6 := Int.emod_lt_of_pos (sK s) (show 0 < zSg c by omega)
    have hd1 := zI_d1 (w := w) hz ht.1 hw
    -- the answer
    have j74 : ∀ M1 : hM, FrM M M1 → Vr M M1 → MR M1 c a t (zD1 c t w s) → ∃ M', m_X7_dataComes_j74 (z + 133) (jI w) (hp z M1) (jI (zSg c)) = some ((), hp z M') ∧ MR M' c a t (zSend c t 1 (if c.1 0 = 1 then w % 2 else sK (zD1 c t w s) % zSg c) (zD1 c t w s)) ∧ FrM M M' ∧ Vr M M' := by
      intro M1 f1 v1 k1
      have hG1 := MR_get k1
      have r10 : gA M1 a (0 : Int).toNat = c.1 0 := hG1.2.1.1 0 (by omega)
      have hV1 : gV M1 1 = a := hG1.1
      have hK1 : gI M1 133 32 = sK (zD1 c t w s) := hG1.2.2.2.2.2.2.2.2.2
      have hKb : 0 ≤ sK (zD1 c t w s) ∧ sK (zD1 c t w s) ≤ 241 := by
        unfold zD1
        obtain ⟨T, O, W, B, N, J, K, C⟩ := s
        split
        · show 0 ≤ K + 1 ∧ K + 1 ≤ 241
          have h1 : 0 ≤ K := hK7.1
          have h2 : K ≤ 240 := hK7.2
          omega
        · exact ⟨hK7.1, by have := hK7.2; omega⟩
      obtain ⟨M', s1, s2, s3, s4⟩ := MR_send (z := z) (kd := 1) (w := if c.1 0 = 1 then w % 2 else sK (zD1 c t w s) % zSg c) ha hc ht hd1.1 k1
      refine ⟨M', ?_, s2, f1.trans s3, v1.trans s4⟩
      unfold m_X7_dataComes_j74
      by_cases g1 : c.1 0 = 1
      · rw [if_pos g1] at s1
        simp (disch := omega) only [ji1, ji2, ji3, ji4, ji5, ji6, ji7, ji8, ji9, ji10, ji11, ji12, ji13, ji14, ji15, ji16, ji19, ji20, ji39, ji119, ji144, ji366, ji24, ji31, ji32, ji45, ji48, ji57, ji58, ji59, ji97, ji120, ji122, ji183, ji200, ji226, ji240, ji255, ji500, jI_z, ↓jI_m1, jI_add, jI_sub, jI_mul, ↓hg133_0, hw133_0, ↓hg133_1, ↓hg133_2, ↓hg133_3, hw133_3, ↓hg133_4, hw133_4, ↓hg133_5, hw133_5, ↓hg133_6, hw133_6, ↓hg133_7, hw133_7, ↓hg133_8, hw133_8, ↓hg133_9, hw133_9, ↓hg133_10, hw133_10, ↓hg133_11, hw133_11, ↓hg133_12, hw133_12, ↓hg133_13, ↓hg133_14, hw133_14, ↓hg133_15, ↓hg133_16, ↓hg133_17, ↓hg133_18, ↓hg133_19, ↓hg133_20, ↓hg133_21, hw133_21, ↓hg133_22, ↓hg133_23, hw133_23, ↓hg133_24, hw133_24, ↓hg133_25, hw133_25, ↓hg133_26, hw133_26, ↓hg133_27, hw133_27, ↓hg133_28, ↓hg133_29, hw133_29, ↓hg133_30, hw133_30, ↓hg133_31, hw133_31, ↓hg133_32, hw133_32, ↓hg133_33, hw133_33, ↓hg133_34, hw133_34, ↓hg133_35, hw133_35, ↓hg133_36, hw133_36, ↓hg133_37, ↓hg133_38, ↓hg133_39, ↓hv133, ↓hx133, ha134, hu134, ↓hl134, ha135, hu135, ↓hl135, ha136, hu136, ↓hl136, ha137, hu137, ↓hl137, ha138, hu138, ↓hl138, ha139, hu139, ↓hl139, ha140, hu140, ↓hl140, ha141, hu141, ↓hl141, ha142, hu142, ↓hl142, ha143, hu143, ↓hl143, ha144, hu144, ↓hl144, ha145, hu145, ↓hl145, ha146, hu146, ↓hl146, ha147, hu147, ↓hl147, hV1, Ra ha, r10, g1, if_true, mo_rm_j]
        rw [s1]; rfl
      · rw [if_neg g1] at s1
        simp (disch := omega) only [ji1, ji2, ji3, ji4, ji5, ji6, ji7, ji8, ji9, ji10, ji11, ji12, ji13, ji14, ji15, ji16, ji19, ji20, ji39, ji119, ji144, ji366, ji24, ji31, ji32, ji45, ji48, ji57, ji58, ji59, ji97, ji120, ji122, ji183, ji200, ji226, ji240, ji255, ji500, jI_z, ↓jI_m1, jI_add, jI_sub, jI_mul, ↓hg133_0, hw133_0, ↓hg133_1, ↓hg133_2, ↓hg133_3, hw133_3, ↓hg133_4, hw133_4, ↓hg133_5, hw133_5, ↓hg133_6, hw133_6, ↓hg133_7, hw133_7, ↓hg133_8, hw133_8, ↓hg133_9, hw133_9, ↓hg133_10, hw133_10, ↓hg133_11, hw133_11, ↓hg133_12, hw133_12, ↓hg133_13, ↓hg133_14, hw133_14, ↓hg133_15, ↓hg133_16, ↓hg133_17, ↓hg133_18, ↓hg133_19, ↓hg133_20, ↓hg133_21, hw133_21, ↓hg133_22, ↓hg133_23, hw133_23, ↓hg133_24, hw133_24, ↓hg133_25, hw133_25, ↓hg133_26, hw133_26, ↓hg133_27, hw133_27, ↓hg133_28, ↓hg133_29, hw133_29, ↓hg133_30, hw133_30, ↓hg133_31, hw133_31, ↓hg133_32, hw133_32, ↓hg133_33, hw133_33, ↓hg133_34, hw133_34, ↓hg133_35, hw133_35, ↓hg133_36, hw133_36, ↓hg133_37, ↓hg133_38, ↓hg133_39, ↓hv133, ↓hx133, ha134, hu134, ↓hl134, ha135, hu135, ↓hl135, ha136, hu136, ↓hl136, ha137, hu137, ↓hl137, ha138, hu138, ↓hl138, ha139, hu139, ↓hl139, ha140, hu140, ↓hl140, ha141, hu141, ↓hl141, ha142, hu142, ↓hl142, ha143, hu143, ↓hl143, ha144, hu144, ↓hl144, ha145, hu145, ↓hl145, ha146, hu146, ↓hl146, ha147, hu147, ↓hl147, hV1, Ra ha, r10, jI_eq, g1, if_false, mo_rm_j, hK1]
        rw [s1]; rfl
    have j36 : ∃ M', m_X7_dataComes_j36 (z + 133) (jI w) (hp z M) (jI (zSg c)) = some ((), hp z M') ∧ MR M' c a t (zSend c t 1 (if c.1 0 = 1 then w % 2 else sK (zD1 c t w s) % zSg c) (zD1 c t w s)) ∧ FrM M M' ∧ Vr M M' := by
      by_cases g1 : w % zSg c = sK s % zSg c
      · have hD1 : zD1 c t w s = zTk (zDel c t w s) := if_pos g1
        obtain ⟨M1, s1, s2, s3, s4⟩ := X7_del (z := z) ha hc ht hz hl hw h
        have hK1 : gI M1 133 32 = sK s := by
          have := (MR_get s2).2.2.2.2.2.2.2.2.2
          rw [this]; obtain ⟨T, O, W, B, N, J, K, C⟩ := s; rfl
        have k2 : MR (sI M1 133 32 (sK s + 1)) c a t (zD1 c t w s) := by
          rw [hD1]
          obtain ⟨T, O, W, B, N, J, K, C⟩ := s
          obtain ⟨b1, b2, b3, b4, b5, b6, b7, b8, b9, b10⟩ := s2
          obtain ⟨q1, q2, q3, q4, q5, q6⟩ := MR_I (B := B) (N := N) (J := J) (K := K) (k := 32) (v := K + 1) ⟨b1, b2, b3, b4, b5, b6⟩ (by omega)
          exact ⟨q1, q2, q3, q4, q5, q6, by rw [gI_sI, if_neg (by omega), b7], by rw [gI_sI, if_neg (by omega), b8], by rw [gI_sI, if_neg (by omega), b9], by rw [gI_sI, if_pos ⟨rfl, rfl⟩]; rfl⟩
        obtain ⟨M', t1, t2, t3, t4⟩ := j74 _ (s3.trans (FrM.sI (by omega))) (s4.trans (fun _ => rfl)) k2
        refine ⟨M', ?_, t2, t3, t4⟩
        unfold m_X7_dataComes_j36
        simp (disch := omega) only [ji1, ji2, ji3, ji4, ji5, ji6, ji7, ji8, ji9, ji10, ji11, ji12, ji13, ji14, ji15, ji16, ji19, ji20, ji39, ji119, ji144, ji366, ji24, ji31, ji32, ji45, ji48, ji57, ji58, ji59, ji97, ji120, ji122, ji183, ji200, ji226, ji240, ji255, ji500, jI_z, ↓jI_m1, jI_add, jI_sub, jI_mul, ↓hg133_0, hw133_0, ↓hg133_1, ↓hg133_2, ↓hg133_3, hw133_3, ↓hg133_4, hw133_4, ↓hg133_5, hw133_5, ↓hg133_6, hw133_6, ↓hg133_7, hw133_7, ↓hg133_8, hw133_8, ↓hg133_9, hw133_9, ↓hg133_10, hw133_10, ↓hg133_11, hw133_11, ↓hg133_12, hw133_12, ↓hg133_13, ↓hg133_14, hw133_14, ↓hg133_15, ↓hg133_16, ↓hg133_17, ↓hg133_18, ↓hg133_19, ↓hg133_20, ↓hg133_21, hw133_21, ↓hg133_22, ↓hg133_23, hw133_23, ↓hg133_24, hw133_24, ↓hg133_25, hw133_25, ↓hg133_26, hw133_26, ↓hg133_27, hw133_27, ↓hg133_28, ↓hg133_29, hw133_29, ↓hg133_30, hw133_30, ↓hg133_31, hw133_31, ↓hg133_32, hw133_32, ↓hg133_33, hw133_33, ↓hg133_34, hw133_34, ↓hg133_35, hw133_35, ↓hg133_36, hw133_36, ↓hg133_37, ↓hg133_38, ↓hg133_39, ↓hv133, ↓hx133, ha134, hu134, ↓hl134, ha135, hu135, ↓hl135, ha136, hu136, ↓hl136, ha137, hu137, ↓hl137, ha138, hu138, ↓hl138, ha139, hu139, ↓hl139, ha140, hu140, ↓hl140, ha141, hu141, ↓hl141, ha142, hu142, ↓hl142, ha143, hu143, ↓hl143, ha144, hu144, ↓hl144, ha145, hu145, ↓hl145, ha146, hu146, ↓hl146, ha147, hu147, ↓hl147, mo_rm_j, hK, jI_eq, g1, if_true]
        unfold m_X7_dataComes_j54
        simp (disch := omega) only [ji1, ji2, ji3, ji4, ji5, ji6, ji7, ji8, ji9, ji10, ji11, ji12, ji13, ji14, ji15, ji16, ji19, ji20, ji39, ji119, ji144, ji366, ji24, ji31, ji32, ji45, ji48, ji57, ji58, ji59, ji97, ji120, ji122, ji183, ji200, ji226, ji240, ji255, ji500, jI_z, ↓jI_m1, jI_add, jI_sub, jI_mul, ↓hg133_0, hw133_0, ↓hg133_1, ↓hg133_2, ↓hg133_3, hw133_3, ↓hg133_4, hw133_4, ↓hg133_5, hw133_5, ↓hg133_6, hw133_6, ↓hg133_7, hw133_7, ↓hg133_8, hw133_8, ↓hg133_9, hw133_9, ↓hg133_10, hw133_10, ↓hg133_11, hw133_11, ↓hg133_12, hw133_12, ↓hg133_13, ↓hg133_14, hw133_14, ↓hg133_15, ↓hg133_16, ↓hg133_17, ↓hg133_18, ↓hg133_19, ↓hg133_20, ↓hg133_21, hw133_21, ↓hg133_22, ↓hg133_23, hw133_23, ↓hg133_24, hw133_24, ↓hg133_25, hw133_25, ↓hg133_26, hw133_26, ↓hg133_27, hw133_27, ↓hg133_28, ↓hg133_29, hw133_29, ↓hg133_30, hw133_30, ↓hg133_31, hw133_31, ↓hg133_32, hw133_32, ↓hg133_33, hw133_33, ↓hg133_34, hw133_34, ↓hg133_35, hw133_35, ↓hg133_36, hw133_36, ↓hg133_37, ↓hg133_38, ↓hg133_39, ↓hv133, ↓hx133, ha134, hu134, ↓hl134, ha135, hu135, ↓hl135, ha136, hu136, ↓hl136, ha137, hu137, ↓hl137, ha138, hu138, ↓hl138, ha139, hu139, ↓hl139, ha140, hu140, ↓hl140, ha141, hu141, ↓hl141, ha142, hu142, ↓hl142, ha143, hu143, ↓hl143, ha144, hu144, ↓hl144, ha145, hu145, ↓hl145, ha146, hu146, ↓hl146, ha147, hu147, ↓hl147, jI_eq, show ¬ (1 : Int) = 0 by omega, if_false]
        rw [s1]
        simp (disch := omega) only [ji1, ji2, ji3, ji4, ji5, ji6, ji7, ji8, ji9, ji10, ji11, ji12, ji13, ji14, ji15, ji16, ji19, ji20, ji39, ji119, ji144, ji366, ji24, ji31, ji32, ji45, ji48, ji57, ji58, ji59, ji97, ji120, ji122, ji183, ji200, ji226, ji240, ji255, ji500, jI_z, ↓jI_m1, jI_add, jI_sub, jI_mul, ↓mo_cs_s, ↓mo_xs_r, ↓mo_xs_l, ↓mo_nl_s, mo_z_0, mo_z_1, ↓hg133_0, hw133_0, ↓hg133_1, ↓hg133_2, ↓hg133_3, hw133_3, ↓hg133_4, hw133_4, ↓hg133_5, hw133_5, ↓hg133_6, hw133_6, ↓hg133_7, hw133_7, ↓hg133_8, hw133_8, ↓hg133_9, hw133_9, ↓hg133_10, hw133_10, ↓hg133_11, hw133_11, ↓hg133_12, hw133_12, ↓hg133_13, ↓hg133_14, hw133_14, ↓hg133_15, ↓hg133_16, ↓hg133_17, ↓hg133_18, ↓hg133_19, ↓hg133_20, ↓hg133_21, hw133_21, ↓hg133_22, ↓hg133_23, hw133_23, ↓hg133_24, hw133_24, ↓hg133_25, hw133_25, ↓hg133_26, hw133_26, ↓hg133_27, hw133_27, ↓hg133_28, ↓hg133_29, hw133_29, ↓hg133_30, hw133_30, ↓hg133_31, hw133_31, ↓hg133_32, hw133_32, ↓hg133_33, hw133_33, ↓hg133_34, hw133_34, ↓hg133_35, hw133_35, ↓hg133_36, hw133_36, ↓hg133_37, ↓hg133_38, ↓hg133_39, ↓hv133, ↓hx133, ha134, hu134, ↓hl134, ha135, hu135, ↓hl135, ha136, hu136, ↓hl136, ha137, hu137, ↓hl137, ha138, hu138, ↓hl138, ha139, hu139, ↓hl139, ha140, hu140, ↓hl140, ha141, hu141, ↓hl141, ha142, hu142, ↓hl142, ha143, hu143, ↓hl143, ha144, hu144, ↓hl144, ha145, hu145, ↓hl145, ha146, hu146, ↓hl146, ha147, hu147, ↓hl147, hK1]
        exact t1
      · have hD1 : zD1 c t w s = s := if_neg g1
        obtain ⟨M', t1, t2, t3, t4⟩ := j74 M FrM.rfl' Vr.rfl' (by rw [hD1]; exact h)
        refine ⟨M', ?_, t2, t3, t4⟩
        unfold m_X7_dataComes_j36
        simp (disch := omega) only [ji1, ji2, ji3, ji4, ji5, ji6, ji7, ji8, ji9, ji10, ji11, ji12, ji13, ji14, ji15, ji16, ji19, ji20, ji39, ji119, ji144, ji366, ji24, ji31, ji32, ji45, ji48, ji57, ji58, ji59, ji97, ji120, ji122, ji183, ji200, ji226, ji240, ji255, ji500, jI_z, ↓jI_m1, jI_add, jI_sub, jI_mul, ↓hg133_0, hw133_0, ↓hg133_1, ↓hg133_2, ↓hg133_3, hw133_3, ↓hg133_4, hw133_4, ↓hg133_5, hw133_5, ↓hg133_6, hw133_6, ↓hg133_7, hw133_7, ↓hg133_8, hw133_8, ↓hg133_9, hw133_9, ↓hg133_10, hw133_10, ↓hg133_11, hw133_11, ↓hg133_12, hw133_12, ↓hg133_13, ↓hg133_14, hw133_14, ↓hg133_15, ↓hg133_16, ↓hg133_17, ↓hg133_18, ↓hg133_19, ↓hg133_20, ↓hg133_21, hw133_21, ↓hg133_22, ↓hg133_23, hw133_23, ↓hg133_24, hw133_24, ↓hg133_25, hw133_25, ↓hg133_26, hw133_26, ↓hg133_27, hw133_27, ↓hg133_28, ↓hg133_29, hw133_29, ↓hg133_30, hw133_30, ↓hg133_31, hw133_31, ↓hg133_32, hw133_32, ↓hg133_33, hw133_33, ↓hg133_34, hw133_34, ↓hg133_35, hw133_35, ↓hg133_36, hw133_36, ↓hg133_37, ↓hg133_38, ↓hg133_39, ↓hv133, ↓hx133, ha134, hu134, ↓hl134, ha135, hu135, ↓hl135, ha136, hu136, ↓hl136, ha137, hu137, ↓hl137, ha138, hu138, ↓hl138, ha139, hu139, ↓hl139, ha140, hu140, ↓hl140, ha141, hu141, ↓hl141, ha142, hu142, ↓hl142, ha143, hu143, ↓hl143, ha144, hu144, ↓hl144, ha145, hu145, ↓hl145, ha146, hu146, ↓hl146, ha147, hu147, ↓hl147, mo_rm_j, hK, jI_eq, g1, if_false]
        unfold m_X7_dataComes_j54
        simp (disch := omega) only [ji1, ji2, ji3, ji4, ji5, ji6, ji7, ji8, ji9, ji10, ji11, ji12, ji13, ji14, ji15, ji16, ji19, ji20, ji39, ji119, ji144, ji366, ji24, ji31, ji32, ji45, ji48, ji57, ji58, ji59, ji97, ji120, ji122, ji183, ji200, ji226, ji240, ji255, ji500, jI_z, ↓jI_m1, jI_add, jI_sub, jI_mul, if_true]
        exact t1
    obtain ⟨M', t1, t2, t3, t4⟩ := j36
    refine ⟨M', ?_, t2, t3, t4⟩
    unfold m_X7_dataComes
    by_cases g1 : c.1 0 = 1
    · have : zSg c = 2 := by unfold zSg; rw [if_pos g1]
      rw [this] at t1
      simp (disch := omega) only [ji1, ji2, ji3, ji4, ji5, ji6, ji7, ji8, ji9, ji10, ji11, ji12, ji13, ji14, ji15, ji16, ji19, ji20, ji39, ji119, ji144, ji366, ji24, ji31, ji32, ji45, ji48, ji57, ji58, ji59, ji97, ji120, ji122, ji183, ji200, ji226, ji240, ji255, ji500, jI_z, ↓jI_m1, jI_add, jI_sub, jI_mul, ↓hg133_0, hw133_0, ↓hg133_1, ↓hg133_2, ↓hg133_3, hw133_3, ↓hg133_4, hw133_4, ↓hg133_5, hw133_5, ↓hg133_6, hw133_6, ↓hg133_7, hw133_7, ↓hg133_8, hw133_8, ↓hg133_9, hw133_9, ↓hg133_10, hw133_10, ↓hg133_11, hw133_11, ↓hg133_12, hw133_12, ↓hg133_13, ↓hg133_14, hw133_14, ↓hg133_15, ↓hg133_16, ↓hg133_17, ↓hg133_18, ↓hg133_19, ↓hg133_20, ↓hg133_21, hw133_21, ↓hg133_22, ↓hg133_23, hw133_23, ↓hg133_24, hw133_24, ↓hg133_25, hw133_25, ↓hg133_26, hw133_26, ↓hg133_27, hw133_27, ↓hg133_28, ↓hg133_29, hw133_29, ↓hg133_30, hw133_30, ↓hg133_31, hw133_31, ↓hg133_32, hw133_32, ↓hg133_33, hw133_33, ↓hg133_34, hw133_34, ↓hg133_35, hw133_35, ↓hg133_36, hw133_36, ↓hg133_37, ↓hg133_38, ↓hg133_39, ↓hv133, ↓hx133, ha134, hu134, ↓hl134, ha135, hu135, ↓hl135, ha136, hu136, ↓hl136, ha137, hu137, ↓hl137, ha138, hu138, ↓hl138, ha139, hu139, ↓hl139, ha140, hu140, ↓hl140, ha141, hu141, ↓hl141, ha142, hu142, ↓hl142, ha143, hu143, ↓hl143, ha144, hu144, ↓hl144, ha145, hu145, ↓hl145, ha146, hu146, ↓hl146, ha147, hu147, ↓hl147, hV, Ra ha, r0, jI_eq, g0, g1, if_false, if_true, show ¬ (1 : Int) = 0 by omega]
      exact t1
    · have : zSg c = c.1 6 := by unfold zSg; rw [if_neg g1]
      rw [this] at t1
      simp (disch := omega) only [ji1, ji2, ji3, ji4, ji5, ji6, ji7, ji8, ji9, ji10, ji11, ji12, ji13, ji14, ji15, ji16, ji19, ji20, ji39, ji119, ji144, ji366, ji24, ji31, ji32, ji45, ji48, ji57, ji58, ji59, ji97, ji120, ji122, ji183, ji200, ji226, ji240, ji255, ji500, jI_z, ↓jI_m1, jI_add, jI_sub, jI_mul, ↓hg133_0, hw133_0, ↓hg133_1, ↓hg133_2, ↓hg133_3, hw133_3, ↓hg133_4, hw133_4, ↓hg133_5, hw133_5, ↓hg133_6, hw133_6, ↓hg133_7, hw133_7, ↓hg133_8, hw133_8, ↓hg133_9, hw133_9, ↓hg133_10, hw133_10, ↓hg133_11, hw133_11, ↓hg133_12, hw133_12, ↓hg133_13, ↓hg133_14, hw133_14, ↓hg133_15, ↓hg133_16, ↓hg133_17, ↓hg133_18, ↓hg133_19, ↓hg133_20, ↓hg133_21, hw133_21, ↓hg133_22, ↓hg133_23, hw133_23, ↓hg133_24, hw133_24, ↓hg133_25, hw133_25, ↓hg133_26, hw133_26, ↓hg133_27, hw133_27, ↓hg133_28, ↓hg133_29, hw133_29, ↓hg133_30, hw133_30, ↓hg133_31, hw133_31, ↓hg133_32, hw133_32, ↓hg133_33, hw133_33, ↓hg133_34, hw133_34, ↓hg133_35, hw133_35, ↓hg133_36, hw133_36, ↓hg133_37, ↓hg133_38, ↓hg133_39, ↓hv133, ↓hx133, ha134, hu134, ↓hl134, ha135, hu135, ↓hl135, ha136, hu136, ↓hl136, ha137, hu137, ↓hl137, ha138, hu138, ↓hl138, ha139, hu139, ↓hl139, ha140, hu140, ↓hl140, ha141, hu141, ↓hl141, ha142, hu142, ↓hl142, ha143, hu143, ↓hl143, ha144, hu144, ↓hl144, ha145, hu145, ↓hl145, ha146, hu146, ↓hl146, ha147, hu147, ↓hl147, hV, Ra ha, r0, r6, jI_eq, g0, g1, if_false]
      exact t1

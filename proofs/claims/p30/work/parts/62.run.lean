variable {S : hSh}
/-! THE RUN of the class, step by step. -/
/-- the references and the count of ticks stay -/
def Wr (M M' : hM) : Prop := Vr M M' ∧ gI M' 15 14 = gI M 15 14
theorem Wr.rfl' {M : hM} : Wr M M := ⟨Vr.rfl', rfl⟩
theorem Wr.trans {M M' M'' : hM} (h : Wr M M') (h' : Wr M' M'') : Wr M M'' := ⟨h.1.trans h'.1, h'.2.trans h.2⟩
theorem Wr.of {M M' : hM} {lo hi : Nat} (h : Vr M M') (hf : Fr lo hi M M') (hd : 16 ≤ lo) : Wr M M' := ⟨h, (hf 15 (by omega)).1 14⟩
theorem LR.keep {M M' : hM} {T : List hT} {t : Int} {j lo hi : Nat} (h : LR M T t j) (hf : Fr lo hi M M') (hd : 26 ≤ lo ∨ hi ≤ 16) : LR M' T t j := by
  obtain ⟨⟨h1, h2⟩, h3, h4⟩ := h
  refine ⟨⟨by rw [(hf 16 (by omega)).1, h1], fun k x hk => ?_⟩, fun u hu => ?_, by rw [(hf 16 (by omega)).1, h4]⟩
  · rw [(hf 17 (by omega)).2, (hf 18 (by omega)).2, (hf 19 (by omega)).2, (hf 20 (by omega)).2, (hf 21 (by omega)).2]; exact h2 k x hk
  · exact Ch_other (h3 u hu) ((hf 24 (by omega)).2 _) ((hf 23 (by omega)).2 _) ((hf 22 (by omega)).2 _) (fun x _ => (hf 25 (by omega)).2 _)
theorem DR.keep {M M' : hM} {c : hCf} {O : List Int} {C : Int} {lo hi : Nat} (h : DR M c O C) (hf : Fr lo hi M M') (hd : 28 ≤ lo ∨ hi ≤ 26) : DR M' c O C := by
  obtain ⟨h1, h2, h3, h4, h5, h6, h7, h8⟩ := h
  have e := (hf 26 (by omega)).1
  exact ⟨by rw [e, h1], fun k x hk => by rw [(hf 27 (by omega)).2]; exact h2 k x hk, by rw [e, h3], by rw [e, h4], by rw [e, h5], by rw [e, h6], by rw [e, h7], by rw [e, h8]⟩
/-- the sender's timer in the class and in the function -/
def TJ (i ts p B N J : Int) : Prop := (p = 1 → (i = 0 ∧ J = -1) ∨ (i = 1 ∧ ts = J ∧ 0 ≤ J)) ∧ (p = 2 → B < N → ts = J)
def CR0 (M : hM) (c : hCf) (b : Nat) : Prop := gV M 0 = b ∧ BR M b c ∧ gI M 15 4 = c.1 0 ∧ gI M 15 5 = c.1 1 ∧ gI M 15 6 = c.1 4 ∧ gI M 15 7 = c.1 5 ∧ (c.1 0 ≠ 0 → gI M 15 8 = zSg c)
def CR (M : hM) (c : hCf) (b : Nat) (t : Int) (j : Nat) : hS → Prop := fun ⟨T, O, W, B, N, J, K, C⟩ => CR0 M c b ∧ gI M 15 9 = B ∧ gI M 15 10 = N ∧ gI M 15 13 = K ∧ TJ (gI M 15 11) (gI M 15 12) (c.1 0) B N J ∧ LR M T t j ∧ DR M c O C ∧ RS M 28 W
theorem CR0.keep {M M' : hM} {c : hCf} {b lo hi : Nat} (h : CR0 M c b) (hb : b = 1 ∨ b = 8) (hf : Fr lo hi M M') (hv : Vr M M') (hd : 16 ≤ lo) : CR0 M' c b := by
  obtain ⟨h1, h2, h3, h4, h5, h6, h7⟩ := h
  have e := (hf 15 (by omega)).1
  exact ⟨by rw [hv, h1], h2.keep hf (by omega), by rw [e, h3], by rw [e, h4], by rw [e, h5], by rw [e, h6], fun h => by rw [e, h7 h]⟩
theorem CR0.i {M : hM} {c : hCf} {b k : Nat} {v : Int} (h : CR0 M c b) (hb : b = 1 ∨ b = 8) (hk : 9 ≤ k) : CR0 (sI M 15 k v) c b := by
  obtain ⟨h1, h2, h3, h4, h5, h6, h7⟩ := h
  have e : ∀ i, i < 9 → gI (sI M 15 k v) 15 i = gI M 15 i := fun i hi => by rw [gI_sI, if_neg (by omega)]
  exact ⟨h1, h2.keep (Fr.sI (lo := 15) (hi := 16) (by omega)) (by omega), by rw [e 4 (by omega), h3], by rw [e 5 (by omega), h4], by rw [e 6 (by omega), h5], by rw [e 7 (by omega), h6], fun h => by rw [e 8 (by omega), h7 h]⟩
/-- the parts outside the Run object survive a write to it -/
theorem CRp {M : hM} {c : hCf} {T : List hT} {O : List Int} {W : Nat → Nat} {C t : Int} {j k : Nat} {v : Int} (h : LR M T t j ∧ DR M c O C ∧ RS M 28 W) : LR (sI M 15 k v) T t j ∧ DR (sI M 15 k v) c O C ∧ RS (sI M 15 k v) 28 W :=
  ⟨h.1.keep (Fr.sI (lo := 15) (hi := 16) (by omega)) (by omega), h.2.1.keep (Fr.sI (lo := 15) (hi := 16) (by omega)) (by omega), h.2.2.keep (Fr.sI (lo := 15) (hi := 16) (by omega)) (by omega)⟩
theorem X4_sign {z : Nat} {M : hM} {sg v : Int} (h : gI M 15 8 = sg) (hs : 0 < sg ∧ sg ≤ 8) (hv : 0 ≤ v ∧ v < 1000) : m_X4_signOf (hp S z M) (z + 15) (jI v) = some (jI (v % sg), hp S z M) := by
  unfold m_X4_signOf
  have h0 : (0 : Int) < sg := hs.1
  simp (disch := omega) only [ji1, ji2, ji3, ji4, ji5, ji6, ji7, ji8, ji9, ji10, ji11, ji12, ji13, ji14, ji15, ji16, ji19, ji20, ji24, ji31, ji32, ji39, ji45, ji48, ji57, ji58, ji59, ji60, ji97, ji100, ji119, ji120, ji122, ji144, ji200, ji226, ji240, ji255, ji300, ji366, ji400, ji500, ji1000, jI_z, ↓jI_m1, jI_add, jI_sub, jI_mul, ↓hg15_0, ↓hg15_1, ↓hg15_2, ↓hg15_3, hw15_3, ↓hg15_4, hw15_4, ↓hg15_5, hw15_5, ↓hg15_6, hw15_6, ↓hg15_7, hw15_7, ↓hg15_8, hw15_8, ↓hg15_9, hw15_9, ↓hg15_10, hw15_10, ↓hg15_11, hw15_11, ↓hg15_12, hw15_12, ↓hg15_13, hw15_13, ↓hg15_14, hw15_14, ↓hv15, ↓hx15, ha29, hu29, ↓hl29, jI_lt, h, h0, if_true, mo_rm_j]
theorem X4_rd {z b : Nat} {M : hM} {c : hCf} {s : hS} {t w : Int} {j : Nat} (hb : b = 1 ∨ b = 8) (hc : okC c) (h : CR M c b t j s) (hz : zI c t s) (hl : s.2.1.length < 240) (ht : 0 ≤ t ∧ t < 200) (hw : 0 ≤ w ∧ w ≤ 7) :
    ∃ M', m_X4_receiveData (hp S z M) (z + 15) (jI w) (jI t) = some (jI (if c.1 0 = 0 then -1 else if c.1 0 = 1 then w % 2 else sK (zD1 c t w s) % zSg c), hp S z M') ∧ CR M' c b t j (if c.1 0 = 0 then zDel c t w s else zD1 c t w s) ∧ Fr 15 28 M M' ∧ Wr M M' := by
  have hcs := hc.s
  obtain ⟨T, O, W, B, N, J, K, C⟩ := s
  obtain ⟨z1, z2, z3, z4, z5, z6, z7, z8, z9⟩ := hz
  obtain ⟨c0, cB, cN, cK, cT, cL, cD, cW⟩ := h
  obtain ⟨a1, a2, a3, a4, a5, a6, a7⟩ := c0
  have hput : ∃ M', m_X1_put (hp S z M) (z + 26) (jI w) (jI t) = some ((), hp S z M') ∧ DR M' c (O ++ [w]) (if C = -1 ∧ seenM (O ++ [w]) = 2 ^ (c.1 1).toNat - 1 then t else C) ∧ Fr 26 28 M M' ∧ Vr M M' := X1_put hc cD z3 hl hw (by omega)
  obtain ⟨M1, p1, p2, p3, p4⟩ := hput
  have e15 : ∀ k, gI M1 15 k = gI M 15 k := (p3 15 (by omega)).1
  have hCR1 : CR M1 c b t j (zDel c t w (T, O, W, B, N, J, K, C)) := by
    refine ⟨CR0.keep ⟨a1, a2, a3, a4, a5, a6, a7⟩ hb p3 p4 (by omega), by rw [e15, cB], by rw [e15, cN], by rw [e15, cK], by rw [e15, e15]; exact cT, cL.keep p3 (by omega), p2, cW.keep p3 (by omega)⟩
  by_cases g0 : c.1 0 = 0
  · simp only [if_pos g0]
    refine ⟨M1, ?_, hCR1, p3.mono (by omega) (by omega), Wr.of p4 p3 (by omega)⟩
    unfold m_X4_receiveData
    have h00 : gI M 15 4 = 0 := by rw [a3, g0]
    simp (disch := omega) only [ji1, ji2, ji3, ji4, ji5, ji6, ji7, ji8, ji9, ji10, ji11, ji12, ji13, ji14, ji15, ji16, ji19, ji20, ji24, ji31, ji32, ji39, ji45, ji48, ji57, ji58, ji59, ji60, ji97, ji100, ji119, ji120, ji122, ji144, ji200, ji226, ji240, ji255, ji300, ji366, ji400, ji500, ji1000, jI_z, ↓jI_m1, jI_add, jI_sub, jI_mul, ↓hg15_0, ↓hg15_1, ↓hg15_2, ↓hg15_3, hw15_3, ↓hg15_4, hw15_4, ↓hg15_5, hw15_5, ↓hg15_6, hw15_6, ↓hg15_7, hw15_7, ↓hg15_8, hw15_8, ↓hg15_9, hw15_9, ↓hg15_10, hw15_10, ↓hg15_11, hw15_11, ↓hg15_12, hw15_12, ↓hg15_13, hw15_13, ↓hg15_14, hw15_14, ↓hv15, ↓hx15, ha29, hu29, ↓hl29, h00, if_true, ↓hg26_0, ↓hg26_1, hw26_1, ↓hg26_2, hw26_2, ↓hg26_3, hw26_3, ↓hg26_4, hw26_4, ↓hg26_5, hw26_5, ↓hg26_6, hw26_6, ↓hg26_7, hw26_7, ↓hv26, ↓hx26, ha27, hu27, ↓hl27]
    rw [p1]; rfl
  · simp only [if_neg g0]
    have hsg := zSg_in hc
    have h8 := a7 g0
    have s1 := X4_sign (S := S) (z := z) (v := w) h8 (by omega) (by omega)
    have hKl : K < 240 := by
      have : O.length < 240 := hl
      omega
    have s2 := X4_sign (S := S) (z := z) (v := K) h8 (by omega) (by omega)
    have h04 : ¬ gI M 15 4 = 0 := by rw [a3]; exact g0
    have hm1 := Int.emod_nonneg w (show zSg c ≠ 0 by omega)
    have hm2 := Int.emod_lt_of_pos w (show 0 < zSg c by omega)
    have hm3 := Int.emod_nonneg K (show zSg c ≠ 0 by omega)
    have hm4 := Int.emod_lt_of_pos K (show 0 < zSg c by omega)
    have hw2 : c.1 0 = 1 → w % 2 = w % zSg c := fun h => by unfold zSg; rw [if_pos h]
    have j55 : ∀ (M' : hM) (K' : Int), gI M' 15 4 = c.1 0 → gI M' 15 13 = K' → 0 ≤ K' ∧ K' < 1000 → gI M' 15 8 = zSg c → m_X4_receiveData_j55 (z + 15) (hp S z M') (jI (w % zSg c)) = some (jI (if c.1 0 = 1 then w % 2 else K' % zSg c), hp S z M') := by
      intro M' K' b1 b2 b3 b4
      have s3 := X4_sign (S := S) (z := z) (v := K') b4 (by omega) (by omega)
      unfold m_X4_receiveData_j55
      simp (disch := omega) only [ji1, ji2, ji3, ji4, ji5, ji6, ji7, ji8, ji9, ji10, ji11, ji12, ji13, ji14, ji15, ji16, ji19, ji20, ji24, ji31, ji32, ji39, ji45, ji48, ji57, ji58, ji59, ji60, ji97, ji100, ji119, ji120, ji122, ji144, ji200, ji226, ji240, ji255, ji300, ji366, ji400, ji500, ji1000, jI_z, ↓jI_m1, jI_add, jI_sub, jI_mul, ↓hg15_0, ↓hg15_1, ↓hg15_2, ↓hg15_3, hw15_3, ↓hg15_4, hw15_4, ↓hg15_5, hw15_5, ↓hg15_6, hw15_6, ↓hg15_7, hw15_7, ↓hg15_8, hw15_8, ↓hg15_9, hw15_9, ↓hg15_10, hw15_10, ↓hg15_11, hw15_11, ↓hg15_12, hw15_12, ↓hg15_13, hw15_13, ↓hg15_14, hw15_14, ↓hv15, ↓hx15, ha29, hu29, ↓hl29, jI_eq, b1, b2]
      by_cases g2 : c.1 0 = 2
      · rw [if_pos g2, s3, if_neg (by omega)]; rfl
      · rw [if_neg g2, if_pos (by omega), hw2 (by omega)]
    by_cases g1 : w % zSg c = K % zSg c
    · have hD : zD1 c t w (T, O, W, B, N, J, K, C) = zTk (zDel c t w (T, O, W, B, N, J, K, C)) := if_pos g1
      rw [hD]
      refine ⟨sI M1 15 13 (K + 1), ?_, ?_, (p3.mono (by omega) (by omega)).trans (Fr.sI (by omega)), ⟨p4, (p3 15 (by omega)).1 14⟩⟩
      · have r := j55 (sI M1 15 13 (K + 1)) (K + 1) (by rw [gI_sI, if_neg (by omega), e15, a3]) (by rw [gI_sI, if_pos ⟨rfl, rfl⟩]) (by omega) (by rw [gI_sI, if_neg (by omega), e15, h8])
        unfold m_X4_receiveData
        simp (disch := omega) only [ji1, ji2, ji3, ji4, ji5, ji6, ji7, ji8, ji9, ji10, ji11, ji12, ji13, ji14, ji15, ji16, ji19, ji20, ji24, ji31, ji32, ji39, ji45, ji48, ji57, ji58, ji59, ji60, ji97, ji100, ji119, ji120, ji122, ji144, ji200, ji226, ji240, ji255, ji300, ji366, ji400, ji500, ji1000, jI_z, ↓jI_m1, jI_add, jI_sub, jI_mul, ↓hg15_0, ↓hg15_1, ↓hg15_2, ↓hg15_3, hw15_3, ↓hg15_4, hw15_4, ↓hg15_5, hw15_5, ↓hg15_6, hw15_6, ↓hg15_7, hw15_7, ↓hg15_8, hw15_8, ↓hg15_9, hw15_9, ↓hg15_10, hw15_10, ↓hg15_11, hw15_11, ↓hg15_12, hw15_12, ↓hg15_13, hw15_13, ↓hg15_14, hw15_14, ↓hv15, ↓hx15, ha29, hu29, ↓hl29, jI_eq, h04, if_false]
        rw [s1]
        simp (disch := omega) only [↓mo_ns_r, ↓hn0, ↓mo_cs_s, ↓mo_xs_r, ↓mo_xs_l, ↓mo_nl_s, mo_z_0, mo_z_1, ↓hg15_0, ↓hg15_1, ↓hg15_2, ↓hg15_3, hw15_3, ↓hg15_4, hw15_4, ↓hg15_5, hw15_5, ↓hg15_6, hw15_6, ↓hg15_7, hw15_7, ↓hg15_8, hw15_8, ↓hg15_9, hw15_9, ↓hg15_10, hw15_10, ↓hg15_11, hw15_11, ↓hg15_12, hw15_12, ↓hg15_13, hw15_13, ↓hg15_14, hw15_14, ↓hv15, ↓hx15, ha29, hu29, ↓hl29, cK]
        rw [s2]
        simp (disch := omega) only [↓mo_ns_r, ↓hn0, ↓mo_cs_s, ↓mo_xs_r, ↓mo_xs_l, ↓mo_nl_s, mo_z_0, mo_z_1, ↓hg15_0, ↓hg15_1, ↓hg15_2, ↓hg15_3, hw15_3, ↓hg15_4, hw15_4, ↓hg15_5, hw15_5, ↓hg15_6, hw15_6, ↓hg15_7, hw15_7, ↓hg15_8, hw15_8, ↓hg15_9, hw15_9, ↓hg15_10, hw15_10, ↓hg15_11, hw15_11, ↓hg15_12, hw15_12, ↓hg15_13, hw15_13, ↓hg15_14, hw15_14, ↓hv15, ↓hx15, ha29, hu29, ↓hl29, jI_eq, g1, if_true, ↓hg26_0, ↓hg26_1, hw26_1, ↓hg26_2, hw26_2, ↓hg26_3, hw26_3, ↓hg26_4, hw26_4, ↓hg26_5, hw26_5, ↓hg26_6, hw26_6, ↓hg26_7, hw26_7, ↓hv26, ↓hx26, ha27, hu27, ↓hl27]
        rw [p1]
        simp (disch := omega) only [ji1, ji2, ji3, ji4, ji5, ji6, ji7, ji8, ji9, ji10, ji11, ji12, ji13, ji14, ji15, ji16, ji19, ji20, ji24, ji31, ji32, ji39, ji45, ji48, ji57, ji58, ji59, ji60, ji97, ji100, ji119, ji120, ji122, ji144, ji200, ji226, ji240, ji255, ji300, ji366, ji400, ji500, ji1000, jI_z, ↓jI_m1, jI_add, jI_sub, jI_mul, ↓mo_ns_r, ↓hn0, ↓mo_cs_s, ↓mo_xs_r, ↓mo_xs_l, ↓mo_nl_s, mo_z_0, mo_z_1, ↓hg15_0, ↓hg15_1, ↓hg15_2, ↓hg15_3, hw15_3, ↓hg15_4, hw15_4, ↓hg15_5, hw15_5, ↓hg15_6, hw15_6, ↓hg15_7, hw15_7, ↓hg15_8, hw15_8, ↓hg15_9, hw15_9, ↓hg15_10, hw15_10, ↓hg15_11, hw15_11, ↓hg15_12, hw15_12, ↓hg15_13, hw15_13, ↓hg15_14, hw15_14, ↓hv15, ↓hx15, ha29, hu29, ↓hl29, e15, cK]
        rw [← g1]; exact r
      · obtain ⟨d0, dB, dN, dK, dT, dL, dD, dW⟩ := hCR1
        have hp3 := CRp (k := 13) (v := K + 1) ⟨dL, dD, dW⟩
        refine ⟨d0.i hb (by omega), by rw [gI_sI, if_neg (by omega), dB], by rw [gI_sI, if_neg (by omega), dN], by rw [gI_sI, if_pos ⟨rfl, rfl⟩], by rw [gI_sI, if_neg (by omega), gI_sI, if_neg (by omega)]; exact dT, hp3.1, hp3.2.1, hp3.2.2⟩
    · have hD : zD1 c t w (T, O, W, B, N, J, K, C) = (T, O, W, B, N, J, K, C) := if_neg g1
      rw [hD]
      refine ⟨M, ?_, ⟨⟨a1, a2, a3, a4, a5, a6, a7⟩, cB, cN, cK, cT, cL, cD, cW⟩, Fr.rfl', Wr.rfl'⟩
      have r := j55 M K a3 cK (by omega) h8
      unfold m_X4_receiveData
      simp (disch := omega) only [ji1, ji2, ji3, ji4, ji5, ji6, ji7, ji8, ji9, ji10, ji11, ji12, ji13, ji14, ji15, ji16, ji19, ji20, ji24, ji31, ji32, ji39, ji45, ji48, ji57, ji58, ji59, ji60, ji97, ji100, ji119, ji120, ji122, ji144, ji200, ji226, ji240, ji255, ji300, ji366, ji400, ji500, ji1000, jI_z, ↓jI_m1, jI_add, jI_sub, jI_mul, ↓hg15_0, ↓hg15_1, ↓hg15_2, ↓hg15_3, hw15_3, ↓hg15_4, hw15_4, ↓hg15_5, hw15_5, ↓hg15_6, hw15_6, ↓hg15_7, hw15_7, ↓hg15_8, hw15_8, ↓hg15_9, hw15_9, ↓hg15_10, hw15_10, ↓hg15_11, hw15_11, ↓hg15_12, hw15_12, ↓hg15_13, hw15_13, ↓hg15_14, hw15_14, ↓hv15, ↓hx15, ha29, hu29, ↓hl29, jI_eq, h04, if_false]
      rw [s1]
      simp (disch := omega) only [↓mo_ns_r, ↓hn0, ↓mo_cs_s, ↓mo_xs_r, ↓mo_xs_l, ↓mo_nl_s, mo_z_0, mo_z_1, ↓hg15_0, ↓hg15_1, ↓hg15_2, ↓hg15_3, hw15_3, ↓hg15_4, hw15_4, ↓hg15_5, hw15_5, ↓hg15_6, hw15_6, ↓hg15_7, hw15_7, ↓hg15_8, hw15_8, ↓hg15_9, hw15_9, ↓hg15_10, hw15_10, ↓hg15_11, hw15_11, ↓hg15_12, hw15_12, ↓hg15_13, hw15_13, ↓hg15_14, hw15_14, ↓hv15, ↓hx15, ha29, hu29, ↓hl29, cK]
      rw [s2]
      simp (disch := omega) only [↓mo_ns_r, ↓hn0, ↓mo_cs_s, ↓mo_xs_r, ↓mo_xs_l, ↓mo_nl_s, mo_z_0, mo_z_1, ↓hg15_0, ↓hg15_1, ↓hg15_2, ↓hg15_3, hw15_3, ↓hg15_4, hw15_4, ↓hg15_5, hw15_5, ↓hg15_6, hw15_6, ↓hg15_7, hw15_7, ↓hg15_8, hw15_8, ↓hg15_9, hw15_9, ↓hg15_10, hw15_10, ↓hg15_11, hw15_11, ↓hg15_12, hw15_12, ↓hg15_13, hw15_13, ↓hg15_14, hw15_14, ↓hv15, ↓hx15, ha29, hu29, ↓hl29, jI_eq, g1, if_false]
      exact r
theorem X4_ack {z : Nat} {M : hM} {m sg t B N : Int} (h8 : gI M 15 8 = m) (hm : 0 < m ∧ m ≤ 8) (h10 : gI M 15 10 = N) (hN : 0 ≤ B ∧ N ≤ 8) (hsg : 0 ≤ sg ∧ sg ≤ 7) : ∀ (n : Nat) (d : Int) (f : Nat), 1 ≤ d → d + n = N - B + 1 → n < f →
    m_X4_receiveAnswer_l54 (z + 15) (jI sg) (jI t) f (hp S z M) (jI (B + d)) = some ((), hp S z (if zAck m sg B n d = 0 then M else sI (sI M 15 9 (B + zAck m sg B n d)) 15 12 t)) := by
  intro n
  induction n with
  | zero =>
    intro d f hd hn hf
    obtain ⟨f, rfl⟩ : ∃ k, f = k + 1 := ⟨f - 1, by omega⟩
    have hlt : N < B + d := by omega
    unfold m_X4_receiveAnswer_l54
    simp (disch := omega) only [ji1, ji2, ji3, ji4, ji5, ji6, ji7, ji8, ji9, ji10, ji11, ji12, ji13, ji14, ji15, ji16, ji19, ji20, ji24, ji31, ji32, ji39, ji45, ji48, ji57, ji58, ji59, ji60, ji97, ji100, ji119, ji120, ji122, ji144, ji200, ji226, ji240, ji255, ji300, ji366, ji400, ji500, ji1000, jI_z, ↓jI_m1, jI_add, jI_sub, jI_mul, ↓hg15_0, ↓hg15_1, ↓hg15_2, ↓hg15_3, hw15_3, ↓hg15_4, hw15_4, ↓hg15_5, hw15_5, ↓hg15_6, hw15_6, ↓hg15_7, hw15_7, ↓hg15_8, hw15_8, ↓hg15_9, hw15_9, ↓hg15_10, hw15_10, ↓hg15_11, hw15_11, ↓hg15_12, hw15_12, ↓hg15_13, hw15_13, ↓hg15_14, hw15_14, ↓hv15, ↓hx15, ha29, hu29, ↓hl29, jI_lt, h10, hlt, if_true, zAck]
  | succ n ih =>
    intro d f hd hn hf
    obtain ⟨f, rfl⟩ : ∃ k, f = k + 1 := ⟨f - 1, by omega⟩
    have hlt : ¬ N < B + d := by omega
    have s1 := X4_sign (S := S) (z := z) (v := B + d) h8 hm (by omega)
    have hm1 := Int.emod_nonneg (B + d) (show m ≠ 0 by omega)
    have hm2 := Int.emod_lt_of_pos (B + d) (show 0 < m by omega)
    unfold m_X4_receiveAnswer_l54
    simp (disch := omega) only [ji1, ji2, ji3, ji4, ji5, ji6, ji7, ji8, ji9, ji10, ji11, ji12, ji13, ji14, ji15, ji16, ji19, ji20, ji24, ji31, ji32, ji39, ji45, ji48, ji57, ji58, ji59, ji60, ji97, ji100, ji119, ji120, ji122, ji144, ji200, ji226, ji240, ji255, ji300, ji366, ji400, ji500, ji1000, jI_z, ↓jI_m1, jI_add, jI_sub, jI_mul, ↓hg15_0, ↓hg15_1, ↓hg15_2, ↓hg15_3, hw15_3, ↓hg15_4, hw15_4, ↓hg15_5, hw15_5, ↓hg15_6, hw15_6, ↓hg15_7, hw15_7, ↓hg15_8, hw15_8, ↓hg15_9, hw15_9, ↓hg15_10, hw15_10, ↓hg15_11, hw15_11, ↓hg15_12, hw15_12, ↓hg15_13, hw15_13, ↓hg15_14, hw15_14, ↓hv15, ↓hx15, ha29, hu29, ↓hl29, jI_lt, h10, hlt, if_false]
    rw [s1]
    simp (disch := omega) only [ji1, ji2, ji3, ji4, ji5, ji6, ji7, ji8, ji9, ji10, ji11, ji12, ji13, ji14, ji15, ji16, ji19, ji20, ji24, ji31, ji32, ji39, ji45, ji48, ji57, ji58, ji59, ji60, ji97, ji100, ji119, ji120, ji122, ji144, ji200, ji226, ji240, ji255, ji300, ji366, ji400, ji500, ji1000, jI_z, ↓jI_m1, jI_add, jI_sub, jI_mul, ↓mo_ns_r, ↓hn0, ↓mo_cs_s, ↓mo_xs_r, ↓mo_xs_l, ↓mo_nl_s, mo_z_0, mo_z_1, ↓hg15_0, ↓hg15_1, ↓hg15_2, ↓hg15_3, hw15_3, ↓hg15_4, hw15_4, ↓hg15_5, hw15_5, ↓hg15_6, hw15_6, ↓hg15_7, hw15_7, ↓hg15_8, hw15_8, ↓hg15_9, hw15_9, ↓hg15_10, hw15_10, ↓hg15_11, hw15_11, ↓hg15_12, hw15_12, ↓hg15_13, hw15_13, ↓hg15_14, hw15_14, ↓hv15, ↓hx15, ha29, hu29, ↓hl29, jI_eq]
    by_cases g : (B + d) % m = sg
    · have e1 : zAck m sg B (n + 1) d = d := if_pos g
      simp only [e1]
      rw [if_pos g, if_neg (by omega)]
    · have e1 : zAck m sg B (n + 1) d = zAck m sg B n (d + 1) := if_neg g
      simp only [e1]
      rw [if_neg g, show B + d + 1 = B + (d + 1) from by omega]
      exact ih (d + 1) f (by omega) (by omega) (by omega)
theorem X4_ra {z b : Nat} {M : hM} {c : hCf} {s : hS} {t sg : Int} {j : Nat} (hb : b = 1 ∨ b = 8) (hc : okC c) (h : CR M c b t j s) (hz : zI c t s) (ht : 0 ≤ t ∧ t < 200) (hs : 0 ≤ sg ∧ sg ≤ 7) (h0 : c.1 0 ≠ 0) :
    ∃ M', m_X4_receiveAnswer (hp S z M) (z + 15) (jI sg) (jI t) = some ((), hp S z M') ∧ CR M' c b t j (zAns c t sg s) ∧ Fr 15 28 M M' ∧ Wr M M' := by
  have hcs := hc.s
  obtain ⟨T, O, W, B, N, J, K, C⟩ := s
  obtain ⟨z1, z2, z3, z4, z5, z6, z7, z8, z9⟩ := hz
  obtain ⟨c0, cB, cN, cK, cT, cL, cD, cW⟩ := h
  have c0' := c0
  obtain ⟨a1, a2, a3, a4, a5, a6, a7⟩ := c0'
  have h8 := a7 h0
  have hsg := zSg_in hc
  by_cases g1 : c.1 0 = 1
  · have h42 : ¬ gI M 15 4 = 2 := by rw [a3]; omega
    have hsg2 : zSg c = 2 := by unfold zSg; rw [if_pos g1]
    have s1 := X4_sign (S := S) (z := z) (v := B) h8 (by omega) (by omega)
    rw [hsg2] at s1
    have hm1 := Int.emod_nonneg B (show (2 : Int) ≠ 0 by omega)
    have hm2 := Int.emod_lt_of_pos B (show (0 : Int) < 2 by omega)
    by_cases g2 : B < c.1 1
    · by_cases g3 : sg = B % 2
      · have hA : zAns c t sg (T, O, W, B, N, J, K, C) = (T, O, W, B + 1, N, -1, K, C) := by unfold zAns; simp only; rw [if_pos g1, if_pos ⟨g2, g3⟩]
        rw [hA]
        have hp3 := CRp (k := 11) (v := 0) (CRp (k := 9) (v := B + 1) ⟨cL, cD, cW⟩)
        refine ⟨sI (sI M 15 9 (B + 1)) 15 11 0, ?_, ⟨(c0.i hb (by omega)).i hb (by omega), by simp [gI_sI], by simp [gI_sI, cN], by simp [gI_sI, cK], ⟨fun _ => Or.inl ⟨by simp [gI_sI], rfl⟩, fun h => by omega⟩, hp3.1, hp3.2.1, hp3.2.2⟩, (Fr.sI (by omega)).trans (Fr.sI (by omega)), ⟨fun k => rfl, rfl⟩⟩
        unfold m_X4_receiveAnswer
        simp (disch := omega) only [ji1, ji2, ji3, ji4, ji5, ji6, ji7, ji8, ji9, ji10, ji11, ji12, ji13, ji14, ji15, ji16, ji19, ji20, ji24, ji31, ji32, ji39, ji45, ji48, ji57, ji58, ji59, ji60, ji97, ji100, ji119, ji120, ji122, ji144, ji200, ji226, ji240, ji255, ji300, ji366, ji400, ji500, ji1000, jI_z, ↓jI_m1, jI_add, jI_sub, jI_mul, ↓hg15_0, ↓hg15_1, ↓hg15_2, ↓hg15_3, hw15_3, ↓hg15_4, hw15_4, ↓hg15_5, hw15_5, ↓hg15_6, hw15_6, ↓hg15_7, hw15_7, ↓hg15_8, hw15_8, ↓hg15_9, hw15_9, ↓hg15_10, hw15_10, ↓hg15_11, hw15_11, ↓hg15_12, hw15_12, ↓hg15_13, hw15_13, ↓hg15_14, hw15_14, ↓hv15, ↓hx15, ha29, hu29, ↓hl29, jI_eq, jI_lt, h42, if_false, cB, a4, g2, if_true]
        rw [s1]
        simp (disch := omega) only [ji1, ji2, ji3, ji4, ji5, ji6, ji7, ji8, ji9, ji10, ji11, ji12, ji13, ji14, ji15, ji16, ji19, ji20, ji24, ji31, ji32, ji39, ji45, ji48, ji57, ji58, ji59, ji60, ji97, ji100, ji119, ji120, ji122, ji144, ji200, ji226, ji240, ji255, ji300, ji366, ji400, ji500, ji1000, jI_z, ↓jI_m1, jI_add, jI_sub, jI_mul, ↓mo_ns_r, ↓hn0, ↓mo_cs_s, ↓mo_xs_r, ↓mo_xs_l, ↓mo_nl_s, mo_z_0, mo_z_1, ↓hg15_0, ↓hg15_1, ↓hg15_2, ↓hg15_3, hw15_3, ↓hg15_4, hw15_4, ↓hg15_5, hw15_5, ↓hg15_6, hw15_6, ↓hg15_7, hw15_7, ↓hg15_8, hw15_8, ↓hg15_9, hw15_9, ↓hg15_10, hw15_10, ↓hg15_11, hw15_11, ↓hg15_12, hw15_12, ↓hg15_13, hw15_13, ↓hg15_14, hw15_14, ↓hv15, ↓hx15, ha29, hu29, ↓hl29, jI_eq, g3, if_true, cB]
      · have hA : zAns c t sg (T, O, W, B, N, J, K, C) = (T, O, W, B, N, J, K, C) := by unfold zAns; simp only; rw [if_pos g1, if_neg (fun h => g3 h.2)]
        rw [hA]
        refine ⟨M, ?_, ⟨c0, cB, cN, cK, cT, cL, cD, cW⟩, Fr.rfl', Wr.rfl'⟩
        unfold m_X4_receiveAnswer
        simp (disch := omega) only [ji1, ji2, ji3, ji4, ji5, ji6, ji7, ji8, ji9, ji10, ji11, ji12, ji13, ji14, ji15, ji16, ji19, ji20, ji24, ji31, ji32, ji39, ji45, ji48, ji57, ji58, ji59, ji60, ji97, ji100, ji119, ji120, ji122, ji144, ji200, ji226, ji240, ji255, ji300, ji366, ji400, ji500, ji1000, jI_z, ↓jI_m1, jI_add, jI_sub, jI_mul, ↓hg15_0, ↓hg15_1, ↓hg15_2, ↓hg15_3, hw15_3, ↓hg15_4, hw15_4, ↓hg15_5, hw15_5, ↓hg15_6, hw15_6, ↓hg15_7, hw15_7, ↓hg15_8, hw15_8, ↓hg15_9, hw15_9, ↓hg15_10, hw15_10, ↓hg15_11, hw15_11, ↓hg15_12, hw15_12, ↓hg15_13, hw15_13, ↓hg15_14, hw15_14, ↓hv15, ↓hx15, ha29, hu29, ↓hl29, jI_eq, jI_lt, h42, if_false, cB, a4, g2, if_true]
        rw [s1]
        simp (disch := omega) only [ji1, ji2, ji3, ji4, ji5, ji6, ji7, ji8, ji9, ji10, ji11, ji12, ji13, ji14, ji15, ji16, ji19, ji20, ji24, ji31, ji32, ji39, ji45, ji48, ji57, ji58, ji59, ji60, ji97, ji100, ji119, ji120, ji122, ji144, ji200, ji226, ji240, ji255, ji300, ji366, ji400, ji500, ji1000, jI_z, ↓jI_m1, jI_add, jI_sub, jI_mul, ↓mo_ns_r, ↓hn0, ↓mo_cs_s, ↓mo_xs_r, ↓mo_xs_l, ↓mo_nl_s, mo_z_0, mo_z_1, ↓hg15_0, ↓hg15_1, ↓hg15_2, ↓hg15_3, hw15_3, ↓hg15_4, hw15_4, ↓hg15_5, hw15_5, ↓hg15_6, hw15_6, ↓hg15_7, hw15_7, ↓hg15_8, hw15_8, ↓hg15_9, hw15_9, ↓hg15_10, hw15_10, ↓hg15_11, hw15_11, ↓hg15_12, hw15_12, ↓hg15_13, hw15_13, ↓hg15_14, hw15_14, ↓hv15, ↓hx15, ha29, hu29, ↓hl29, jI_eq, g3, if_false]
    · have hA : zAns c t sg (T, O, W, B, N, J, K, C) = (T, O, W, B, N, J, K, C) := by unfold zAns; simp only; rw [if_pos g1, if_neg (fun h => g2 h.1)]
      rw [hA]
      refine ⟨M, ?_, ⟨c0, cB, cN, cK, cT, cL, cD, cW⟩, Fr.rfl', Wr.rfl'⟩
      unfold m_X4_receiveAnswer
      simp (disch := omega) only [ji1, ji2, ji3, ji4, ji5, ji6, ji7, ji8, ji9, ji10, ji11, ji12, ji13, ji14, ji15, ji16, ji19, ji20, ji24, ji31, ji32, ji39, ji45, ji48, ji57, ji58, ji59, ji60, ji97, ji100, ji119, ji120, ji122, ji144, ji200, ji226, ji240, ji255, ji300, ji366, ji400, ji500, ji1000, jI_z, ↓jI_m1, jI_add, jI_sub, jI_mul, ↓hg15_0, ↓hg15_1, ↓hg15_2, ↓hg15_3, hw15_3, ↓hg15_4, hw15_4, ↓hg15_5, hw15_5, ↓hg15_6, hw15_6, ↓hg15_7, hw15_7, ↓hg15_8, hw15_8, ↓hg15_9, hw15_9, ↓hg15_10, hw15_10, ↓hg15_11, hw15_11, ↓hg15_12, hw15_12, ↓hg15_13, hw15_13, ↓hg15_14, hw15_14, ↓hv15, ↓hx15, ha29, hu29, ↓hl29, jI_eq, jI_lt, h42, if_false, cB, a4, g2]
  · have h42 : gI M 15 4 = 2 := by rw [a3]; omega
    have hsg6 : zSg c = c.1 6 := by unfold zSg; rw [if_neg g1]
    rw [hsg6] at h8
    have key := X4_ack (S := S) (z := z) (M := M) (m := c.1 6) (sg := sg) (t := t) (B := B) (N := N) h8 (by omega) cN (by omega) hs (N - B).toNat 1 hN_f (by omega) (by omega) (by unfold hN_f; omega)
    refine ⟨if zAck (c.1 6) sg B (N - B).toNat 1 = 0 then M else sI (sI M 15 9 (B + zAck (c.1 6) sg B (N - B).toNat 1)) 15 12 t, ?_, ?_, ?_, ?_⟩
    · unfold m_X4_receiveAnswer
      simp (disch := omega) only [ji1, ji2, ji3, ji4, ji5, ji6, ji7, ji8, ji9, ji10, ji11, ji12, ji13, ji14, ji15, ji16, ji19, ji20, ji24, ji31, ji32, ji39, ji45, ji48, ji57, ji58, ji59, ji60, ji97, ji100, ji119, ji120, ji122, ji144, ji200, ji226, ji240, ji255, ji300, ji366, ji400, ji500, ji1000, jI_z, ↓jI_m1, jI_add, jI_sub, jI_mul, ↓hg15_0, ↓hg15_1, ↓hg15_2, ↓hg15_3, hw15_3, ↓hg15_4, hw15_4, ↓hg15_5, hw15_5, ↓hg15_6, hw15_6, ↓hg15_7, hw15_7, ↓hg15_8, hw15_8, ↓hg15_9, hw15_9, ↓hg15_10, hw15_10, ↓hg15_11, hw15_11, ↓hg15_12, hw15_12, ↓hg15_13, hw15_13, ↓hg15_14, hw15_14, ↓hv15, ↓hx15, ha29, hu29, ↓hl29, jI_eq, h42, if_true, cB]
      rw [key]
    · unfold zAns; simp only; rw [if_neg g1]
      by_cases g2 : zAck (c.1 6) sg B (N - B).toNat 1 = 0
      · rw [if_pos g2, if_pos g2]; exact ⟨c0, cB, cN, cK, cT, cL, cD, cW⟩
      · rw [if_neg g2, if_neg g2]
        have hp3 := CRp (k := 12) (v := t) (CRp (k := 9) (v := B + zAck (c.1 6) sg B (N - B).toNat 1) ⟨cL, cD, cW⟩)
        exact ⟨(c0.i hb (by omega)).i hb (by omega), by simp [gI_sI], by simp [gI_sI, cN], by simp [gI_sI, cK], ⟨fun h => absurd h g1, fun _ _ => by simp [gI_sI]⟩, hp3.1, hp3.2.1, hp3.2.2⟩
    · split
      · exact Fr.rfl'
      · exact (Fr.sI (by omega)).trans (Fr.sI (by omega))
    · split
      · exact Wr.rfl'
      · exact ⟨fun k => rfl, rfl⟩


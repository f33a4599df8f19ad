variable {S : hSh}
/-! .. its turns and arrivals. -/
theorem CR_send {z b : Nat} {M : hM} {c : hCf} {s : hS} {t kd w : Int} {j : Nat} (hb : b = 1 ∨ b = 8) (hc : okC c) (h : CR M c b t j s) (hz : zI c t s) (ht : 0 ≤ t ∧ t < 200) :
    ∃ M', m_X2_send (hp S z M) (z + 16) (z + b) (jI t) (jI kd) (jI w) = some ((), hp S z M') ∧ CR M' c b t j (zSend c t kd w s) ∧ Fr 16 26 M M' ∧ Wr M M' := by
  have hs2 : (zSend c t kd w s).2 = s.2 := by unfold zSend; split <;> rfl
  obtain ⟨T, O, W, B, N, J, K, C⟩ := s
  obtain ⟨c0, cB, cN, cK, cT, cL, cD, cW⟩ := h
  obtain ⟨M', r1, r2, r3, r4⟩ := X2_send (S := S) (z := z) (s := (T, O, W, B, N, J, K, C)) (kd := kd) (w := w) hb c0.2.1 hc hz.1 ht cL
  refine ⟨M', r1, ?_, r3, Wr.of r4 r3 (by omega)⟩
  generalize zSend c t kd w (T, O, W, B, N, J, K, C) = s' at hs2 r2
  obtain ⟨T', s2⟩ := s'
  simp only at hs2
  subst hs2
  have e15 : ∀ k, gI M' 15 k = gI M 15 k := (r3 15 (by omega)).1
  exact ⟨c0.keep hb r3 r4 (by omega), by rw [e15, cB], by rw [e15, cN], by rw [e15, cK], by rw [e15, e15]; exact cT, r2, cD.keep r3 (by omega), cW.keep r3 (by omega)⟩
theorem CR_B1 {M : hM} {c : hCf} {b : Nat} {s : hS} {t : Int} {j : Nat} (hb : b = 1 ∨ b = 8) (h : CR M c b t j s) (h0 : c.1 0 = 0) : CR (sI M 15 9 (s.2.2.2.1 + 1)) c b t j (zB1 s) := by
  obtain ⟨T, O, W, B, N, J, K, C⟩ := s
  obtain ⟨c0, cB, cN, cK, cT, cL, cD, cW⟩ := h
  have hp3 := CRp (k := 9) (v := B + 1) ⟨cL, cD, cW⟩
  exact ⟨c0.i hb (by omega), by simp [gI_sI], by simp [gI_sI, cN], by simp [gI_sI, cK], ⟨fun h => by omega, fun h => by omega⟩, hp3.1, hp3.2.1, hp3.2.2⟩
theorem CR_Jt {M : hM} {c : hCf} {b : Nat} {s : hS} {t : Int} {j : Nat} (hb : b = 1 ∨ b = 8) (h : CR M c b t j s) (h0 : c.1 0 = 1) (ht : 0 ≤ t) : CR (sI (sI M 15 11 1) 15 12 t) c b t j (zJt t s) := by
  obtain ⟨T, O, W, B, N, J, K, C⟩ := s
  obtain ⟨c0, cB, cN, cK, cT, cL, cD, cW⟩ := h
  have hp3 := CRp (k := 12) (v := t) (CRp (k := 11) (v := 1) ⟨cL, cD, cW⟩)
  exact ⟨(c0.i hb (by omega)).i hb (by omega), by simp [gI_sI, cB], by simp [gI_sI, cN], by simp [gI_sI, cK], ⟨fun _ => Or.inr ⟨by simp [gI_sI], by simp [gI_sI], ht⟩, fun h => by omega⟩, hp3.1, hp3.2.1, hp3.2.2⟩
theorem CR_get {M : hM} {c : hCf} {b : Nat} {s : hS} {t : Int} {j : Nat} (h : CR M c b t j s) : CR0 M c b ∧ gI M 15 9 = s.2.2.2.1 ∧ gI M 15 10 = s.2.2.2.2.1 ∧ TJ (gI M 15 11) (gI M 15 12) (c.1 0) s.2.2.2.1 s.2.2.2.2.1 s.2.2.2.2.2.1 ∧ LR M s.1 t j ∧ DR M c s.2.1 s.2.2.2.2.2.2.2 ∧ RS M 28 s.2.2.1 := by
  obtain ⟨T, O, W, B, N, J, K, C⟩ := s
  obtain ⟨c0, cB, cN, cK, cT, cL, cD, cW⟩ := h
  exact ⟨c0, cB, cN, cT, cL, cD, cW⟩
theorem zI_get {c : hCf} {t : Int} {s : hS} (h : zI c t s) : (0 ≤ s.2.2.2.1 ∧ s.2.2.2.1 ≤ c.1 1) ∧ (0 ≤ s.2.2.2.2.1 ∧ s.2.2.2.2.1 ≤ c.1 1 ∧ (c.1 0 = 2 → s.2.2.2.1 ≤ s.2.2.2.2.1)) ∧ (-1 ≤ s.2.2.2.2.2.1 ∧ s.2.2.2.2.2.1 ≤ t) := by
  obtain ⟨T, O, W, B, N, J, K, C⟩ := s
  obtain ⟨z1, z2, z3, z4, z5, z6, z7, z8, z9⟩ := h
  exact ⟨z4, z5, z6⟩
/-- what a turn of the sender takes: an item to be sent, or none; and what is left ahead of the sending -/
def TK (c : hCf) (t : Int) (s : hS) (it : Int) (s' : hS) : Prop := zI c t s' ∧ ((it = -1 ∧ zTurn c t s = s') ∨ ((0 ≤ it ∧ it ≤ 7) ∧ zTurn c t s = zSend c t 0 it s'))
theorem zSend_B1 {c : hCf} {t kd w : Int} {s : hS} : zB1 (zSend c t kd w s) = zSend c t kd w (zB1 s) := by
  obtain ⟨T, O, W, B, N, J, K, C⟩ := s
  unfold zSend zB1
  simp only
  split <;> rfl
theorem zSend_Jt {c : hCf} {t kd w : Int} {s : hS} : zJt t (zSend c t kd w s) = zSend c t kd w (zJt t s) := by
  obtain ⟨T, O, W, B, N, J, K, C⟩ := s
  unfold zSend zJt
  simp only
  split <;> rfl
theorem zSend_Nx {c : hCf} {t kd w : Int} {s : hS} : zNx t (zSend c t kd w s) = zSend c t kd w (zNx t s) := by
  obtain ⟨T, O, W, B, N, J, K, C⟩ := s
  unfold zSend zNx
  simp only
  split <;> rfl
theorem zI_B1 {c : hCf} {t : Int} {s : hS} (h : zI c t s) (h0 : c.1 0 = 0) (g : s.2.2.2.1 < c.1 1) : zI c t (zB1 s) := by
  obtain ⟨T, O, W, B, N, J, K, C⟩ := s
  obtain ⟨z1, z2, z3, z4, z5, z6, z7, z8, z9⟩ := h
  simp only at g
  exact ⟨z1, z2, z3, by omega, ⟨z5.1, z5.2.1, fun q => by omega⟩, z6, z7, z8, z9⟩
theorem zI_Jt {c : hCf} {t : Int} {s : hS} (h : zI c t s) (ht : 0 ≤ t) : zI c t (zJt t s) := by
  obtain ⟨T, O, W, B, N, J, K, C⟩ := s
  obtain ⟨z1, z2, z3, z4, z5, z6, z7, z8, z9⟩ := h
  exact ⟨z1, z2, z3, z4, z5, by omega, z7, z8, z9⟩
theorem zI_Nx {c : hCf} {t : Int} {s : hS} (h : zI c t s) (ht : 0 ≤ t) (g : s.2.2.2.2.1 < c.1 1) : zI c t (zNx t s) := by
  obtain ⟨T, O, W, B, N, J, K, C⟩ := s
  obtain ⟨z1, z2, z3, z4, z5, z6, z7, z8, z9⟩ := h
  simp only at g
  refine ⟨z1, z2, z3, z4, ⟨by omega, by omega, fun q => by have := z5.2.2 q; omega⟩, ?_, z7, z8, z9⟩
  show -1 ≤ (if B = N then t else J) ∧ (if B = N then t else J) ≤ t
  split <;> omega
theorem X4_plain {z b : Nat} {M : hM} {c : hCf} {s : hS} {t : Int} {j : Nat} (hb : b = 1 ∨ b = 8) (hc : okC c) (h : CR M c b t j s) (hz : zI c t s) (ht : 0 ≤ t ∧ t < 200) (h0 : c.1 0 = 0) :
    ∃ M' it s', m_X4_takeSendersTurn (hp S z M) (z + 15) (jI t) = some (jI it, hp S z M') ∧ CR M' c b t j s' ∧ TK c t s it s' ∧ Fr 15 28 M M' ∧ Wr M M' := by
  have hcs := hc.s
  obtain ⟨g0, gB, gN, gT, _⟩ := CR_get h
  obtain ⟨a1, a2, a3, a4, a5, a6, a7⟩ := g0
  obtain ⟨y1, y2, y3⟩ := zI_get hz
  have e1 : ¬ gI M 15 4 = 1 := by omega
  have e2 : ¬ gI M 15 4 = 2 := by omega
  unfold TK zTurn
  rw [if_pos h0]
  by_cases g : s.2.2.2.1 < c.1 1
  · rw [if_pos g]
    have e9 : gI (sI M 15 9 (s.2.2.2.1 + 1)) 15 9 = s.2.2.2.1 + 1 := by simp [gI_sI]
    refine ⟨sI M 15 9 (s.2.2.2.1 + 1), s.2.2.2.1, zB1 s, ?_, CR_B1 hb h h0, ⟨zI_B1 hz h0 g, Or.inr ⟨by omega, zSend_B1⟩⟩, Fr.sI (by omega), ⟨fun k => rfl, rfl⟩⟩
    unfold m_X4_takeSendersTurn
    simp (disch := omega) only [ji1, ji2, ji3, ji4, ji5, ji6, ji7, ji8, ji9, ji10, ji11, ji12, ji13, ji14, ji15, ji16, ji19, ji20, ji24, ji31, ji32, ji39, ji45, ji48, ji57, ji58, ji59, ji60, ji97, ji100, ji119, ji120, ji122, ji144, ji200, ji226, ji240, ji255, ji300, ji366, ji400, ji500, ji1000, jI_z, ↓jI_m1, jI_add, jI_sub, jI_mul, ↓hg15_0, ↓hg15_1, ↓hg15_2, ↓hg15_3, hw15_3, ↓hg15_4, hw15_4, ↓hg15_5, hw15_5, ↓hg15_6, hw15_6, ↓hg15_7, hw15_7, ↓hg15_8, hw15_8, ↓hg15_9, hw15_9, ↓hg15_10, hw15_10, ↓hg15_11, hw15_11, ↓hg15_12, hw15_12, ↓hg15_13, hw15_13, ↓hg15_14, hw15_14, ↓hv15, ↓hx15, ha29, hu29, ↓hl29, jI_eq, e1, e2, if_false]
    unfold m_X4_takeNextItem
    simp (disch := omega) only [ji1, ji2, ji3, ji4, ji5, ji6, ji7, ji8, ji9, ji10, ji11, ji12, ji13, ji14, ji15, ji16, ji19, ji20, ji24, ji31, ji32, ji39, ji45, ji48, ji57, ji58, ji59, ji60, ji97, ji100, ji119, ji120, ji122, ji144, ji200, ji226, ji240, ji255, ji300, ji366, ji400, ji500, ji1000, jI_z, ↓jI_m1, jI_add, jI_sub, jI_mul, ↓mo_ns_r, ↓hn0, ↓mo_cs_s, ↓mo_xs_r, ↓mo_xs_l, ↓mo_nl_s, mo_z_0, mo_z_1, ↓hg15_0, ↓hg15_1, ↓hg15_2, ↓hg15_3, hw15_3, ↓hg15_4, hw15_4, ↓hg15_5, hw15_5, ↓hg15_6, hw15_6, ↓hg15_7, hw15_7, ↓hg15_8, hw15_8, ↓hg15_9, hw15_9, ↓hg15_10, hw15_10, ↓hg15_11, hw15_11, ↓hg15_12, hw15_12, ↓hg15_13, hw15_13, ↓hg15_14, hw15_14, ↓hv15, ↓hx15, ha29, hu29, ↓hl29, jI_lt, gB, a4, g, if_true, e9, Int.add_sub_cancel]
  · rw [if_neg g]
    refine ⟨M, -1, s, ?_, h, ⟨hz, Or.inl ⟨rfl, rfl⟩⟩, Fr.rfl', Wr.rfl'⟩
    unfold m_X4_takeSendersTurn
    simp (disch := omega) only [ji1, ji2, ji3, ji4, ji5, ji6, ji7, ji8, ji9, ji10, ji11, ji12, ji13, ji14, ji15, ji16, ji19, ji20, ji24, ji31, ji32, ji39, ji45, ji48, ji57, ji58, ji59, ji60, ji97, ji100, ji119, ji120, ji122, ji144, ji200, ji226, ji240, ji255, ji300, ji366, ji400, ji500, ji1000, jI_z, ↓jI_m1, jI_add, jI_sub, jI_mul, ↓hg15_0, ↓hg15_1, ↓hg15_2, ↓hg15_3, hw15_3, ↓hg15_4, hw15_4, ↓hg15_5, hw15_5, ↓hg15_6, hw15_6, ↓hg15_7, hw15_7, ↓hg15_8, hw15_8, ↓hg15_9, hw15_9, ↓hg15_10, hw15_10, ↓hg15_11, hw15_11, ↓hg15_12, hw15_12, ↓hg15_13, hw15_13, ↓hg15_14, hw15_14, ↓hv15, ↓hx15, ha29, hu29, ↓hl29, jI_eq, e1, e2, if_false]
    unfold m_X4_takeNextItem
    simp (disch := omega) only [ji1, ji2, ji3, ji4, ji5, ji6, ji7, ji8, ji9, ji10, ji11, ji12, ji13, ji14, ji15, ji16, ji19, ji20, ji24, ji31, ji32, ji39, ji45, ji48, ji57, ji58, ji59, ji60, ji97, ji100, ji119, ji120, ji122, ji144, ji200, ji226, ji240, ji255, ji300, ji366, ji400, ji500, ji1000, jI_z, ↓jI_m1, jI_add, jI_sub, jI_mul, ↓mo_ns_r, ↓hn0, ↓mo_cs_s, ↓mo_xs_r, ↓mo_xs_l, ↓mo_nl_s, mo_z_0, mo_z_1, ↓hg15_0, ↓hg15_1, ↓hg15_2, ↓hg15_3, hw15_3, ↓hg15_4, hw15_4, ↓hg15_5, hw15_5, ↓hg15_6, hw15_6, ↓hg15_7, hw15_7, ↓hg15_8, hw15_8, ↓hg15_9, hw15_9, ↓hg15_10, hw15_10, ↓hg15_11, hw15_11, ↓hg15_12, hw15_12, ↓hg15_13, hw15_13, ↓hg15_14, hw15_14, ↓hv15, ↓hx15, ha29, hu29, ↓hl29, jI_lt, gB, a4, g, if_false]
theorem X4_alt {z b : Nat} {M : hM} {c : hCf} {s : hS} {t : Int} {j : Nat} (hb : b = 1 ∨ b = 8) (hc : okC c) (h : CR M c b t j s) (hz : zI c t s) (ht : 0 ≤ t ∧ t < 200) (h0 : c.1 0 = 1) :
    ∃ M' it s', m_X4_takeSendersTurn (hp S z M) (z + 15) (jI t) = some (jI it, hp S z M') ∧ CR M' c b t j s' ∧ TK c t s it s' ∧ Fr 15 28 M M' ∧ Wr M M' := by
  have hcs := hc.s
  obtain ⟨g0, gB, gN, gT, _⟩ := CR_get h
  obtain ⟨a1, a2, a3, a4, a5, a6, a7⟩ := g0
  obtain ⟨y1, y2, y3⟩ := zI_get hz
  have e1 : gI M 15 4 = 1 := by omega
  have hT := gT.1 h0
  unfold TK zTurn
  rw [if_neg (by omega), if_pos h0]
  have e9 : gI (sI (sI M 15 11 1) 15 12 t) 15 9 = s.2.2.2.1 := by rw [← gB]; simp [gI_sI]
  have hj33 : m_X4_takePresentItem_j33 (z + 15) (jI t) (hp S z M) = some (jI s.2.2.2.1, hp S z (sI (sI M 15 11 1) 15 12 t)) := by
    unfold m_X4_takePresentItem_j33
    simp (disch := omega) only [ji1, ji2, ji3, ji4, ji5, ji6, ji7, ji8, ji9, ji10, ji11, ji12, ji13, ji14, ji15, ji16, ji19, ji20, ji24, ji31, ji32, ji39, ji45, ji48, ji57, ji58, ji59, ji60, ji97, ji100, ji119, ji120, ji122, ji144, ji200, ji226, ji240, ji255, ji300, ji366, ji400, ji500, ji1000, jI_z, ↓jI_m1, jI_add, jI_sub, jI_mul, ↓mo_ns_r, ↓hn0, ↓mo_cs_s, ↓mo_xs_r, ↓mo_xs_l, ↓mo_nl_s, mo_z_0, mo_z_1, ↓hg15_0, ↓hg15_1, ↓hg15_2, ↓hg15_3, hw15_3, ↓hg15_4, hw15_4, ↓hg15_5, hw15_5, ↓hg15_6, hw15_6, ↓hg15_7, hw15_7, ↓hg15_8, hw15_8, ↓hg15_9, hw15_9, ↓hg15_10, hw15_10, ↓hg15_11, hw15_11, ↓hg15_12, hw15_12, ↓hg15_13, hw15_13, ↓hg15_14, hw15_14, ↓hv15, ↓hx15, ha29, hu29, ↓hl29, e9]
  by_cases g : s.2.2.2.1 < c.1 1
  · by_cases g2 : s.2.2.2.2.2.1 = -1 ∨ c.1 4 ≤ t - s.2.2.2.2.2.1
    · rw [if_pos ⟨g, g2⟩]
      refine ⟨_, s.2.2.2.1, zJt t s, ?_, CR_Jt hb h h0 ht.1, ⟨zI_Jt hz ht.1, Or.inr ⟨by omega, zSend_Jt⟩⟩, (Fr.sI (by omega)).trans (Fr.sI (by omega)), ⟨fun k => rfl, rfl⟩⟩
      unfold m_X4_takeSendersTurn
      simp (disch := omega) only [ji1, ji2, ji3, ji4, ji5, ji6, ji7, ji8, ji9, ji10, ji11, ji12, ji13, ji14, ji15, ji16, ji19, ji20, ji24, ji31, ji32, ji39, ji45, ji48, ji57, ji58, ji59, ji60, ji97, ji100, ji119, ji120, ji122, ji144, ji200, ji226, ji240, ji255, ji300, ji366, ji400, ji500, ji1000, jI_z, ↓jI_m1, jI_add, jI_sub, jI_mul, ↓hg15_0, ↓hg15_1, ↓hg15_2, ↓hg15_3, hw15_3, ↓hg15_4, hw15_4, ↓hg15_5, hw15_5, ↓hg15_6, hw15_6, ↓hg15_7, hw15_7, ↓hg15_8, hw15_8, ↓hg15_9, hw15_9, ↓hg15_10, hw15_10, ↓hg15_11, hw15_11, ↓hg15_12, hw15_12, ↓hg15_13, hw15_13, ↓hg15_14, hw15_14, ↓hv15, ↓hx15, ha29, hu29, ↓hl29, jI_eq, e1, if_true]
      unfold m_X4_takePresentItem
      rcases hT with ⟨i1, i2⟩ | ⟨i1, i2, i3⟩
      · simp (disch := omega) only [ji1, ji2, ji3, ji4, ji5, ji6, ji7, ji8, ji9, ji10, ji11, ji12, ji13, ji14, ji15, ji16, ji19, ji20, ji24, ji31, ji32, ji39, ji45, ji48, ji57, ji58, ji59, ji60, ji97, ji100, ji119, ji120, ji122, ji144, ji200, ji226, ji240, ji255, ji300, ji366, ji400, ji500, ji1000, jI_z, ↓jI_m1, jI_add, jI_sub, jI_mul, ↓hg15_0, ↓hg15_1, ↓hg15_2, ↓hg15_3, hw15_3, ↓hg15_4, hw15_4, ↓hg15_5, hw15_5, ↓hg15_6, hw15_6, ↓hg15_7, hw15_7, ↓hg15_8, hw15_8, ↓hg15_9, hw15_9, ↓hg15_10, hw15_10, ↓hg15_11, hw15_11, ↓hg15_12, hw15_12, ↓hg15_13, hw15_13, ↓hg15_14, hw15_14, ↓hv15, ↓hx15, ha29, hu29, ↓hl29, jI_eq, jI_lt, gB, a4, g, if_true, i1]
        rw [hj33]; rfl
      · have h10 : ¬ (1 : Int) = 0 := by omega
        have hlt : ¬ t - gI M 15 12 < c.1 4 := by omega
        simp (disch := omega) only [ji1, ji2, ji3, ji4, ji5, ji6, ji7, ji8, ji9, ji10, ji11, ji12, ji13, ji14, ji15, ji16, ji19, ji20, ji24, ji31, ji32, ji39, ji45, ji48, ji57, ji58, ji59, ji60, ji97, ji100, ji119, ji120, ji122, ji144, ji200, ji226, ji240, ji255, ji300, ji366, ji400, ji500, ji1000, jI_z, ↓jI_m1, jI_add, jI_sub, jI_mul, ↓hg15_0, ↓hg15_1, ↓hg15_2, ↓hg15_3, hw15_3, ↓hg15_4, hw15_4, ↓hg15_5, hw15_5, ↓hg15_6, hw15_6, ↓hg15_7, hw15_7, ↓hg15_8, hw15_8, ↓hg15_9, hw15_9, ↓hg15_10, hw15_10, ↓hg15_11, hw15_11, ↓hg15_12, hw15_12, ↓hg15_13, hw15_13, ↓hg15_14, hw15_14, ↓hv15, ↓hx15, ha29, hu29, ↓hl29, jI_eq, jI_lt, gB, a4, g, if_true, i1, h10, if_false, a5, hlt]
        rw [hj33]; rfl
    · rw [if_neg (fun h => g2 h.2)]
      refine ⟨M, -1, s, ?_, h, ⟨hz, Or.inl ⟨rfl, rfl⟩⟩, Fr.rfl', Wr.rfl'⟩
      rcases hT with ⟨i1, i2⟩ | ⟨i1, i2, i3⟩
      · omega
      · have h10 : ¬ (1 : Int) = 0 := by omega
        have hlt : t - gI M 15 12 < c.1 4 := by omega
        unfold m_X4_takeSendersTurn
        simp (disch := omega) only [ji1, ji2, ji3, ji4, ji5, ji6, ji7, ji8, ji9, ji10, ji11, ji12, ji13, ji14, ji15, ji16, ji19, ji20, ji24, ji31, ji32, ji39, ji45, ji48, ji57, ji58, ji59, ji60, ji97, ji100, ji119, ji120, ji122, ji144, ji200, ji226, ji240, ji255, ji300, ji366, ji400, ji500, ji1000, jI_z, ↓jI_m1, jI_add, jI_sub, jI_mul, ↓hg15_0, ↓hg15_1, ↓hg15_2, ↓hg15_3, hw15_3, ↓hg15_4, hw15_4, ↓hg15_5, hw15_5, ↓hg15_6, hw15_6, ↓hg15_7, hw15_7, ↓hg15_8, hw15_8, ↓hg15_9, hw15_9, ↓hg15_10, hw15_10, ↓hg15_11, hw15_11, ↓hg15_12, hw15_12, ↓hg15_13, hw15_13, ↓hg15_14, hw15_14, ↓hv15, ↓hx15, ha29, hu29, ↓hl29, jI_eq, e1, if_true]
        unfold m_X4_takePresentItem
        simp (disch := omega) only [ji1, ji2, ji3, ji4, ji5, ji6, ji7, ji8, ji9, ji10, ji11, ji12, ji13, ji14, ji15, ji16, ji19, ji20, ji24, ji31, ji32, ji39, ji45, ji48, ji57, ji58, ji59, ji60, ji97, ji100, ji119, ji120, ji122, ji144, ji200, ji226, ji240, ji255, ji300, ji366, ji400, ji500, ji1000, jI_z, ↓jI_m1, jI_add, jI_sub, jI_mul, ↓hg15_0, ↓hg15_1, ↓hg15_2, ↓hg15_3, hw15_3, ↓hg15_4, hw15_4, ↓hg15_5, hw15_5, ↓hg15_6, hw15_6, ↓hg15_7, hw15_7, ↓hg15_8, hw15_8, ↓hg15_9, hw15_9, ↓hg15_10, hw15_10, ↓hg15_11, hw15_11, ↓hg15_12, hw15_12, ↓hg15_13, hw15_13, ↓hg15_14, hw15_14, ↓hv15, ↓hx15, ha29, hu29, ↓hl29, jI_eq, jI_lt, gB, a4, g, if_true, i1, h10, if_false, a5, hlt, ↓mo_ns_r, ↓hn0, ↓mo_cs_s, ↓mo_xs_r, ↓mo_xs_l, ↓mo_nl_s, mo_z_0, mo_z_1]
  · rw [if_neg (fun h => g h.1)]
    refine ⟨M, -1, s, ?_, h, ⟨hz, Or.inl ⟨rfl, rfl⟩⟩, Fr.rfl', Wr.rfl'⟩
    unfold m_X4_takeSendersTurn
    simp (disch := omega) only [ji1, ji2, ji3, ji4, ji5, ji6, ji7, ji8, ji9, ji10, ji11, ji12, ji13, ji14, ji15, ji16, ji19, ji20, ji24, ji31, ji32, ji39, ji45, ji48, ji57, ji58, ji59, ji60, ji97, ji100, ji119, ji120, ji122, ji144, ji200, ji226, ji240, ji255, ji300, ji366, ji400, ji500, ji1000, jI_z, ↓jI_m1, jI_add, jI_sub, jI_mul, ↓hg15_0, ↓hg15_1, ↓hg15_2, ↓hg15_3, hw15_3, ↓hg15_4, hw15_4, ↓hg15_5, hw15_5, ↓hg15_6, hw15_6, ↓hg15_7, hw15_7, ↓hg15_8, hw15_8, ↓hg15_9, hw15_9, ↓hg15_10, hw15_10, ↓hg15_11, hw15_11, ↓hg15_12, hw15_12, ↓hg15_13, hw15_13, ↓hg15_14, hw15_14, ↓hv15, ↓hx15, ha29, hu29, ↓hl29, jI_eq, e1, if_true]
    unfold m_X4_takePresentItem
    simp (disch := omega) only [ji1, ji2, ji3, ji4, ji5, ji6, ji7, ji8, ji9, ji10, ji11, ji12, ji13, ji14, ji15, ji16, ji19, ji20, ji24, ji31, ji32, ji39, ji45, ji48, ji57, ji58, ji59, ji60, ji97, ji100, ji119, ji120, ji122, ji144, ji200, ji226, ji240, ji255, ji300, ji366, ji400, ji500, ji1000, jI_z, ↓jI_m1, jI_add, jI_sub, jI_mul, ↓hg15_0, ↓hg15_1, ↓hg15_2, ↓hg15_3, hw15_3, ↓hg15_4, hw15_4, ↓hg15_5, hw15_5, ↓hg15_6, hw15_6, ↓hg15_7, hw15_7, ↓hg15_8, hw15_8, ↓hg15_9, hw15_9, ↓hg15_10, hw15_10, ↓hg15_11, hw15_11, ↓hg15_12, hw15_12, ↓hg15_13, hw15_13, ↓hg15_14, hw15_14, ↓hv15, ↓hx15, ha29, hu29, ↓hl29, jI_eq, jI_lt, gB, a4, g, if_false, ↓mo_ns_r, ↓hn0, ↓mo_cs_s, ↓mo_xs_r, ↓mo_xs_l, ↓mo_nl_s, mo_z_0, mo_z_1]
theorem CR_win {M : hM} {c : hCf} {b : Nat} {s : hS} {t : Int} {j : Nat} (hb : b = 1 ∨ b = 8) (h : CR M c b t j s) (h0 : c.1 0 = 2) (hts : s.2.2.2.1 ≠ s.2.2.2.2.1 ∨ gI M 15 12 = t) (hBN : s.2.2.2.1 ≤ s.2.2.2.2.1) : CR (sI M 15 10 (s.2.2.2.2.1 + 1)) c b t j (zNx t s) := by
  obtain ⟨T, O, W, B, N, J, K, C⟩ := s
  obtain ⟨c0, cB, cN, cK, cT, cL, cD, cW⟩ := h
  have hp3 := CRp (k := 10) (v := N + 1) ⟨cL, cD, cW⟩
  refine ⟨c0.i hb (by omega), by simp [gI_sI, cB], by simp [gI_sI], by simp [gI_sI, cK], ⟨fun h => by omega, fun _ hlt => ?_⟩, hp3.1, hp3.2.1, hp3.2.2⟩
  have e : gI (sI M 15 10 (N + 1)) 15 12 = gI M 15 12 := by simp [gI_sI]
  show gI (sI M 15 10 (N + 1)) 15 12 = _
  rw [e]
  simp only at hts hBN
  by_cases g : B = N
  · rw [if_pos g]; omega
  · rw [if_neg g]; exact cT.2 h0 (by omega)
theorem X4_w37 {z b : Nat} {M : hM} {c : hCf} {s : hS} {t : Int} {j : Nat} (hb : b = 1 ∨ b = 8) (hc : okC c) (h : CR M c b t j s) (hz : zI c t s) (ht : 0 ≤ t ∧ t < 200) (h0 : c.1 0 = 2) :
    ∃ M' it s', m_X4_takeItemInWindow_j37 (z + 15) (jI t) (hp S z M) = some (jI it, hp S z M') ∧ CR M' c b t j s' ∧ (zI c t s' ∧ ((it = -1 ∧ zWin c t s = s') ∨ ((0 ≤ it ∧ it ≤ 7) ∧ zWin c t s = zSend c t 0 it s'))) ∧ Fr 15 28 M M' ∧ Wr M M' := by
  have hcs := hc.s
  obtain ⟨g0, gB, gN, gT, _⟩ := CR_get h
  obtain ⟨a1, a2, a3, a4, a5, a6, a7⟩ := g0
  obtain ⟨y1, y2, y3⟩ := zI_get hz
  have hBN := y2.2.2 h0
  have j82 : ∀ M0 : hM, gI M0 15 10 = s.2.2.2.2.1 → m_X4_takeItemInWindow_j82 (z + 15) (hp S z M0) = some (jI s.2.2.2.2.1, hp S z (sI M0 15 10 (s.2.2.2.2.1 + 1))) := by
    intro M0 k1
    have e10 : gI (sI M0 15 10 (s.2.2.2.2.1 + 1)) 15 10 = s.2.2.2.2.1 + 1 := by simp [gI_sI]
    unfold m_X4_takeItemInWindow_j82
    simp (disch := omega) only [ji1, ji2, ji3, ji4, ji5, ji6, ji7, ji8, ji9, ji10, ji11, ji12, ji13, ji14, ji15, ji16, ji19, ji20, ji24, ji31, ji32, ji39, ji45, ji48, ji57, ji58, ji59, ji60, ji97, ji100, ji119, ji120, ji122, ji144, ji200, ji226, ji240, ji255, ji300, ji366, ji400, ji500, ji1000, jI_z, ↓jI_m1, jI_add, jI_sub, jI_mul, ↓mo_ns_r, ↓hn0, ↓mo_cs_s, ↓mo_xs_r, ↓mo_xs_l, ↓mo_nl_s, mo_z_0, mo_z_1, ↓hg15_0, ↓hg15_1, ↓hg15_2, ↓hg15_3, hw15_3, ↓hg15_4, hw15_4, ↓hg15_5, hw15_5, ↓hg15_6, hw15_6, ↓hg15_7, hw15_7, ↓hg15_8, hw15_8, ↓hg15_9, hw15_9, ↓hg15_10, hw15_10, ↓hg15_11, hw15_11, ↓hg15_12, hw15_12, ↓hg15_13, hw15_13, ↓hg15_14, hw15_14, ↓hv15, ↓hx15, ha29, hu29, ↓hl29, k1, e10, Int.add_sub_cancel]
  unfold zWin
  by_cases g1 : s.2.2.2.2.1 < s.2.2.2.1 + c.1 5
  · by_cases g2 : s.2.2.2.2.1 < c.1 1
    · rw [if_pos ⟨g1, g2⟩]
      by_cases g3 : s.2.2.2.1 = s.2.2.2.2.1
      · have k1 : CR (sI M 15 12 t) c b t j s := by
          obtain ⟨T, O, W, B, N, J, K, C⟩ := s
          obtain ⟨c0, cB, cN, cK, cT, cL, cD, cW⟩ := h
          have hp3 := CRp (k := 12) (v := t) ⟨cL, cD, cW⟩
          simp only at g3
          exact ⟨c0.i hb (by omega), by simp [gI_sI, cB], by simp [gI_sI, cN], by simp [gI_sI, cK], ⟨fun h => by omega, fun _ hlt => by omega⟩, hp3.1, hp3.2.1, hp3.2.2⟩
        have k2 := CR_win hb k1 h0 (Or.inr (by simp [gI_sI])) hBN
        refine ⟨_, s.2.2.2.2.1, zNx t s, ?_, k2, ⟨zI_Nx hz ht.1 g2, Or.inr ⟨by omega, zSend_Nx⟩⟩, (Fr.sI (by omega)).trans (Fr.sI (by omega)), ⟨fun k => rfl, rfl⟩⟩
        unfold m_X4_takeItemInWindow_j37
        simp (disch := omega) only [ji1, ji2, ji3, ji4, ji5, ji6, ji7, ji8, ji9, ji10, ji11, ji12, ji13, ji14, ji15, ji16, ji19, ji20, ji24, ji31, ji32, ji39, ji45, ji48, ji57, ji58, ji59, ji60, ji97, ji100, ji119, ji120, ji122, ji144, ji200, ji226, ji240, ji255, ji300, ji366, ji400, ji500, ji1000, jI_z, ↓jI_m1, jI_add, jI_sub, jI_mul, ↓hg15_0, ↓hg15_1, ↓hg15_2, ↓hg15_3, hw15_3, ↓hg15_4, hw15_4, ↓hg15_5, hw15_5, ↓hg15_6, hw15_6, ↓hg15_7, hw15_7, ↓hg15_8, hw15_8, ↓hg15_9, hw15_9, ↓hg15_10, hw15_10, ↓hg15_11, hw15_11, ↓hg15_12, hw15_12, ↓hg15_13, hw15_13, ↓hg15_14, hw15_14, ↓hv15, ↓hx15, ha29, hu29, ↓hl29, jI_eq, jI_lt, gN, gB, a6, a4, g1, g2, if_true]
        rw [if_pos g3, j82 _ (by simp [gI_sI, gN])]
      · have k2 := CR_win hb h h0 (Or.inl g3) hBN
        refine ⟨_, s.2.2.2.2.1, zNx t s, ?_, k2, ⟨zI_Nx hz ht.1 g2, Or.inr ⟨by omega, zSend_Nx⟩⟩, Fr.sI (by omega), ⟨fun k => rfl, rfl⟩⟩
        unfold m_X4_takeItemInWindow_j37
        simp (disch := omega) only [ji1, ji2, ji3, ji4, ji5, ji6, ji7, ji8, ji9, ji10, ji11, ji12, ji13, ji14, ji15, ji16, ji19, ji20, ji24, ji31, ji32, ji39, ji45, ji48, ji57, ji58, ji59, ji60, ji97, ji100, ji119, ji120, ji122, ji144, ji200, ji226, ji240, ji255, ji300, ji366, ji400, ji500, ji1000, jI_z, ↓jI_m1, jI_add, jI_sub, jI_mul, ↓hg15_0, ↓hg15_1, ↓hg15_2, ↓hg15_3, hw15_3, ↓hg15_4, hw15_4, ↓hg15_5, hw15_5, ↓hg15_6, hw15_6, ↓hg15_7, hw15_7, ↓hg15_8, hw15_8, ↓hg15_9, hw15_9, ↓hg15_10, hw15_10, ↓hg15_11, hw15_11, ↓hg15_12, hw15_12, ↓hg15_13, hw15_13, ↓hg15_14, hw15_14, ↓hv15, ↓hx15, ha29, hu29, ↓hl29, jI_eq, jI_lt, gN, gB, a6, a4, g1, g2, g3, if_true, if_false]
        rw [j82 _ gN]
    · rw [if_neg (fun h => g2 h.2)]
      refine ⟨M, -1, s, ?_, h, ⟨hz, Or.inl ⟨rfl, rfl⟩⟩, Fr.rfl', Wr.rfl'⟩
      unfold m_X4_takeItemInWindow_j37
      simp (disch := omega) only [ji1, ji2, ji3, ji4, ji5, ji6, ji7, ji8, ji9, ji10, ji11, ji12, ji13, ji14, ji15, ji16, ji19, ji20, ji24, ji31, ji32, ji39, ji45, ji48, ji57, ji58, ji59, ji60, ji97, ji100, ji119, ji120, ji122, ji144, ji200, ji226, ji240, ji255, ji300, ji366, ji400, ji500, ji1000, jI_z, ↓jI_m1, jI_add, jI_sub, jI_mul, ↓hg15_0, ↓hg15_1, ↓hg15_2, ↓hg15_3, hw15_3, ↓hg15_4, hw15_4, ↓hg15_5, hw15_5, ↓hg15_6, hw15_6, ↓hg15_7, hw15_7, ↓hg15_8, hw15_8, ↓hg15_9, hw15_9, ↓hg15_10, hw15_10, ↓hg15_11, hw15_11, ↓hg15_12, hw15_12, ↓hg15_13, hw15_13, ↓hg15_14, hw15_14, ↓hv15, ↓hx15, ha29, hu29, ↓hl29, jI_eq, jI_lt, gN, gB, a6, a4, g1, g2, if_true, if_false]
  · rw [if_neg (fun h => g1 h.1)]
    refine ⟨M, -1, s, ?_, h, ⟨hz, Or.inl ⟨rfl, rfl⟩⟩, Fr.rfl', Wr.rfl'⟩
    unfold m_X4_takeItemInWindow_j37
    simp (disch := omega) only [ji1, ji2, ji3, ji4, ji5, ji6, ji7, ji8, ji9, ji10, ji11, ji12, ji13, ji14, ji15, ji16, ji19, ji20, ji24, ji31, ji32, ji39, ji45, ji48, ji57, ji58, ji59, ji60, ji97, ji100, ji119, ji120, ji122, ji144, ji200, ji226, ji240, ji255, ji300, ji366, ji400, ji500, ji1000, jI_z, ↓jI_m1, jI_add, jI_sub, jI_mul, ↓hg15_0, ↓hg15_1, ↓hg15_2, ↓hg15_3, hw15_3, ↓hg15_4, hw15_4, ↓hg15_5, hw15_5, ↓hg15_6, hw15_6, ↓hg15_7, hw15_7, ↓hg15_8, hw15_8, ↓hg15_9, hw15_9, ↓hg15_10, hw15_10, ↓hg15_11, hw15_11, ↓hg15_12, hw15_12, ↓hg15_13, hw15_13, ↓hg15_14, hw15_14, ↓hv15, ↓hx15, ha29, hu29, ↓hl29, jI_eq, jI_lt, gN, gB, a6, a4, g1, if_false]
theorem zTim_I {c : hCf} {t : Int} {s : hS} (h : zI c t s) (ht : 0 ≤ t) : zI c t (zTim c t s) := by
  obtain ⟨T, O, W, B, N, J, K, C⟩ := s
  obtain ⟨h1, h2, h3, h4, h5, h6, h7, h8, h9⟩ := h
  unfold zTim; simp only
  split
  · exact ⟨h1, h2, h3, h4, by omega, by omega, h7, h8, h9⟩
  · exact ⟨h1, h2, h3, h4, h5, h6, h7, h8, h9⟩
theorem X4_win {z b : Nat} {M : hM} {c : hCf} {s : hS} {t : Int} {j : Nat} (hb : b = 1 ∨ b = 8) (hc : okC c) (h : CR M c b t j s) (hz : zI c t s) (ht : 0 ≤ t ∧ t < 200) (h0 : c.1 0 = 2) :
    ∃ M' it s', m_X4_takeSendersTurn (hp S z M) (z + 15) (jI t) = some (jI it, hp S z M') ∧ CR M' c b t j s' ∧ TK c t s it s' ∧ Fr 15 28 M M' ∧ Wr M M' := by
  have hcs := hc.s
  have hzT := zTim_I hz ht.1
  unfold TK zTurn
  rw [if_neg (by omega), if_neg (by omega)]
  obtain ⟨T, O, W, B, N, J, K, C⟩ := s
  obtain ⟨c0, cB, cN, cK, cT, cL, cD, cW⟩ := h
  have c0' := c0
  obtain ⟨a1, a2, a3, a4, a5, a6, a7⟩ := c0'
  obtain ⟨z1, z2, z3, z4, z5, z6, z7, z8, z9⟩ := hz
  have e1 : ¬ gI M 15 4 = 1 := by omega
  have e2 : gI M 15 4 = 2 := by omega
  by_cases g1 : B < N
  · have hts := cT.2 h0 g1
    by_cases g2 : c.1 4 ≤ t - J
    · have hzt : zTim c t (T, O, W, B, N, J, K, C) = (T, O, W, B, B, t, K, C) := if_pos ⟨g1, g2⟩
      rw [hzt] at hzT ⊢
      have hp3 := CRp (k := 10) (v := B) (CRp (k := 12) (v := t) ⟨cL, cD, cW⟩)
      have k1 : CR (sI (sI M 15 12 t) 15 10 B) c b t j (T, O, W, B, B, t, K, C) := ⟨(c0.i hb (by omega)).i hb (by omega), by simp [gI_sI, cB], by simp [gI_sI], by simp [gI_sI, cK], ⟨fun h => by omega, fun _ hlt => by omega⟩, hp3.1, hp3.2.1, hp3.2.2⟩
      obtain ⟨M', it, s', r1, r2, rt, r3, r4⟩ := X4_w37 (S := S) (z := z) hb hc k1 hzT ht h0
      refine ⟨M', it, s', ?_, r2, rt, ((Fr.sI (by omega)).trans (Fr.sI (by omega))).trans r3, r4⟩
      have hlt : ¬ t - J < c.1 4 := by omega
      unfold m_X4_takeSendersTurn
      simp (disch := omega) only [ji1, ji2, ji3, ji4, ji5, ji6, ji7, ji8, ji9, ji10, ji11, ji12, ji13, ji14, ji15, ji16, ji19, ji20, ji24, ji31, ji32, ji39, ji45, ji48, ji57, ji58, ji59, ji60, ji97, ji100, ji119, ji120, ji122, ji144, ji200, ji226, ji240, ji255, ji300, ji366, ji400, ji500, ji1000, jI_z, ↓jI_m1, jI_add, jI_sub, jI_mul, ↓hg15_0, ↓hg15_1, ↓hg15_2, ↓hg15_3, hw15_3, ↓hg15_4, hw15_4, ↓hg15_5, hw15_5, ↓hg15_6, hw15_6, ↓hg15_7, hw15_7, ↓hg15_8, hw15_8, ↓hg15_9, hw15_9, ↓hg15_10, hw15_10, ↓hg15_11, hw15_11, ↓hg15_12, hw15_12, ↓hg15_13, hw15_13, ↓hg15_14, hw15_14, ↓hv15, ↓hx15, ha29, hu29, ↓hl29, jI_eq, e1, e2, if_true, if_false, show ¬ (2 : Int) = 1 by omega]
      unfold m_X4_takeItemInWindow
      simp (disch := omega) only [ji1, ji2, ji3, ji4, ji5, ji6, ji7, ji8, ji9, ji10, ji11, ji12, ji13, ji14, ji15, ji16, ji19, ji20, ji24, ji31, ji32, ji39, ji45, ji48, ji57, ji58, ji59, ji60, ji97, ji100, ji119, ji120, ji122, ji144, ji200, ji226, ji240, ji255, ji300, ji366, ji400, ji500, ji1000, jI_z, ↓jI_m1, jI_add, jI_sub, jI_mul, ↓hg15_0, ↓hg15_1, ↓hg15_2, ↓hg15_3, hw15_3, ↓hg15_4, hw15_4, ↓hg15_5, hw15_5, ↓hg15_6, hw15_6, ↓hg15_7, hw15_7, ↓hg15_8, hw15_8, ↓hg15_9, hw15_9, ↓hg15_10, hw15_10, ↓hg15_11, hw15_11, ↓hg15_12, hw15_12, ↓hg15_13, hw15_13, ↓hg15_14, hw15_14, ↓hv15, ↓hx15, ha29, hu29, ↓hl29, jI_lt, cB, cN, g1, if_true, hts, a5, hlt, if_false, gI_sI, and_true, and_false, show (9 : Nat) ≠ 12 from by decide]
      rw [r1]; rfl
    · have hzt : zTim c t (T, O, W, B, N, J, K, C) = (T, O, W, B, N, J, K, C) := if_neg (fun h => g2 h.2)
      rw [hzt] at hzT ⊢
      obtain ⟨M', it, s', r1, r2, rt, r3, r4⟩ := X4_w37 (S := S) (z := z) hb hc ⟨c0, cB, cN, cK, cT, cL, cD, cW⟩ hzT ht h0
      refine ⟨M', it, s', ?_, r2, rt, r3, r4⟩
      have hlt : t - J < c.1 4 := by omega
      unfold m_X4_takeSendersTurn
      simp (disch := omega) only [ji1, ji2, ji3, ji4, ji5, ji6, ji7, ji8, ji9, ji10, ji11, ji12, ji13, ji14, ji15, ji16, ji19, ji20, ji24, ji31, ji32, ji39, ji45, ji48, ji57, ji58, ji59, ji60, ji97, ji100, ji119, ji120, ji122, ji144, ji200, ji226, ji240, ji255, ji300, ji366, ji400, ji500, ji1000, jI_z, ↓jI_m1, jI_add, jI_sub, jI_mul, ↓hg15_0, ↓hg15_1, ↓hg15_2, ↓hg15_3, hw15_3, ↓hg15_4, hw15_4, ↓hg15_5, hw15_5, ↓hg15_6, hw15_6, ↓hg15_7, hw15_7, ↓hg15_8, hw15_8, ↓hg15_9, hw15_9, ↓hg15_10, hw15_10, ↓hg15_11, hw15_11, ↓hg15_12, hw15_12, ↓hg15_13, hw15_13, ↓hg15_14, hw15_14, ↓hv15, ↓hx15, ha29, hu29, ↓hl29, jI_eq, e1, e2, if_true, if_false, show ¬ (2 : Int) = 1 by omega]
      unfold m_X4_takeItemInWindow
      simp (disch := omega) only [ji1, ji2, ji3, ji4, ji5, ji6, ji7, ji8, ji9, ji10, ji11, ji12, ji13, ji14, ji15, ji16, ji19, ji20, ji24, ji31, ji32, ji39, ji45, ji48, ji57, ji58, ji59, ji60, ji97, ji100, ji119, ji120, ji122, ji144, ji200, ji226, ji240, ji255, ji300, ji366, ji400, ji500, ji1000, jI_z, ↓jI_m1, jI_add, jI_sub, jI_mul, ↓hg15_0, ↓hg15_1, ↓hg15_2, ↓hg15_3, hw15_3, ↓hg15_4, hw15_4, ↓hg15_5, hw15_5, ↓hg15_6, hw15_6, ↓hg15_7, hw15_7, ↓hg15_8, hw15_8, ↓hg15_9, hw15_9, ↓hg15_10, hw15_10, ↓hg15_11, hw15_11, ↓hg15_12, hw15_12, ↓hg15_13, hw15_13, ↓hg15_14, hw15_14, ↓hv15, ↓hx15, ha29, hu29, ↓hl29, jI_lt, cB, cN, g1, if_true, hts, a5, hlt]
      rw [r1]; rfl
  · have hzt : zTim c t (T, O, W, B, N, J, K, C) = (T, O, W, B, N, J, K, C) := if_neg (fun h => g1 h.1)
    rw [hzt] at hzT ⊢
    obtain ⟨M', it, s', r1, r2, rt, r3, r4⟩ := X4_w37 (S := S) (z := z) hb hc ⟨c0, cB, cN, cK, cT, cL, cD, cW⟩ hzT ht h0
    refine ⟨M', it, s', ?_, r2, rt, r3, r4⟩
    unfold m_X4_takeSendersTurn
    simp (disch := omega) only [ji1, ji2, ji3, ji4, ji5, ji6, ji7, ji8, ji9, ji10, ji11, ji12, ji13, ji14, ji15, ji16, ji19, ji20, ji24, ji31, ji32, ji39, ji45, ji48, ji57, ji58, ji59, ji60, ji97, ji100, ji119, ji120, ji122, ji144, ji200, ji226, ji240, ji255, ji300, ji366, ji400, ji500, ji1000, jI_z, ↓jI_m1, jI_add, jI_sub, jI_mul, ↓hg15_0, ↓hg15_1, ↓hg15_2, ↓hg15_3, hw15_3, ↓hg15_4, hw15_4, ↓hg15_5, hw15_5, ↓hg15_6, hw15_6, ↓hg15_7, hw15_7, ↓hg15_8, hw15_8, ↓hg15_9, hw15_9, ↓hg15_10, hw15_10, ↓hg15_11, hw15_11, ↓hg15_12, hw15_12, ↓hg15_13, hw15_13, ↓hg15_14, hw15_14, ↓hv15, ↓hx15, ha29, hu29, ↓hl29, jI_eq, e1, e2, if_true, if_false, show ¬ (2 : Int) = 1 by omega]
    unfold m_X4_takeItemInWindow
    simp (disch := omega) only [ji1, ji2, ji3, ji4, ji5, ji6, ji7, ji8, ji9, ji10, ji11, ji12, ji13, ji14, ji15, ji16, ji19, ji20, ji24, ji31, ji32, ji39, ji45, ji48, ji57, ji58, ji59, ji60, ji97, ji100, ji119, ji120, ji122, ji144, ji200, ji226, ji240, ji255, ji300, ji366, ji400, ji500, ji1000, jI_z, ↓jI_m1, jI_add, jI_sub, jI_mul, ↓hg15_0, ↓hg15_1, ↓hg15_2, ↓hg15_3, hw15_3, ↓hg15_4, hw15_4, ↓hg15_5, hw15_5, ↓hg15_6, hw15_6, ↓hg15_7, hw15_7, ↓hg15_8, hw15_8, ↓hg15_9, hw15_9, ↓hg15_10, hw15_10, ↓hg15_11, hw15_11, ↓hg15_12, hw15_12, ↓hg15_13, hw15_13, ↓hg15_14, hw15_14, ↓hv15, ↓hx15, ha29, hu29, ↓hl29, jI_lt, cB, cN, g1, if_false]
    rw [r1]; rfl
theorem X4_turn {z b : Nat} {M : hM} {c : hCf} {s : hS} {t : Int} {j : Nat} (hb : b = 1 ∨ b = 8) (hc : okC c) (h : CR M c b t j s) (hz : zI c t s) (ht : 0 ≤ t ∧ t < 200) :
    ∃ M' it s', m_X4_takeSendersTurn (hp S z M) (z + 15) (jI t) = some (jI it, hp S z M') ∧ CR M' c b t j s' ∧ TK c t s it s' ∧ Fr 15 28 M M' ∧ Wr M M' := by
  have hcs := hc.s
  rcases (show c.1 0 = 0 ∨ c.1 0 = 1 ∨ c.1 0 = 2 by omega) with g | g | g
  · exact X4_plain hb hc h hz ht g
  · exact X4_alt hb hc h hz ht g
  · exact X4_win hb hc h hz ht g


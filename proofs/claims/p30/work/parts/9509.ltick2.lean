variable {S : hSh}
theorem X8_t214n {z r p : Nat} {M : hM} {c : hCf} {t : Int} {s : hS} (hr : isR S r) (hq : isP S p) (hc : okC c) (h2 : c.1 0 ≠ 2) (h : WR M r p c t s) : m_X8_tick_j214 (z + r) (hp S z M) = some ((), hp S z M) := by
  have hcs := hc.s
  obtain ⟨h0, hP, _⟩ := WR_get h
  have e0 : gA M (p + 1) (0 : Int).toNat = c.1 0 := hP.s (k := 0) (by omega)
  unfold m_X8_tick_j214
  simp (disch := omega) only [ji1, ji2, ji3, ji4, ji5, ji6, ji7, ji8, ji9, ji10, ji11, ji12, ji13, ji14, ji15, ji16, ji19, ji20, ji24, ji31, ji32, ji39, ji45, ji48, ji57, ji58, ji59, ji60, ji97, ji100, ji119, ji120, ji122, ji144, ji200, ji226, ji240, ji255, ji300, ji366, ji400, ji500, ji1000, jI_z, ↓jI_m1, jI_add, jI_sub, jI_mul, ↓jm1000, ↓jm100, ↓jm10, ↓jm9, ji50, ji65280, ji1664525, ji252645135, ji858993459, ji1013904223, ji1431655765, ji2147483639, ji2147483647, ↓Rg0 hr, Rw0 hr, ↓Rg1 hr, ↓Rg2 hr, ↓Rg3 hr, ↓Rg4 hr, ↓Rg5 hr, ↓Rg6 hr, ↓Rg7 hr, ↓Rg8 hr, ↓Rg9 hr, Rw9 hr, ↓Rg10 hr, Rw10 hr, ↓Rg11 hr, Rw11 hr, ↓Rg12 hr, Rw12 hr, ↓Rg13 hr, Rw13 hr, ↓Rg14 hr, Rw14 hr, ↓Rg15 hr, Rw15 hr, ↓Rg16 hr, Rw16 hr, ↓Rg17 hr, Rw17 hr, ↓Rv hr, Ra1 hr, Ru1 hr, Ra2 hr, Ru2 hr, Ra3 hr, Ru3 hr, Ra4 hr, Ru4 hr, Ra5 hr, Ru5 hr, Ra6 hr, Ru6 hr, Ra7 hr, Ru7 hr, Ra8 hr, Ru8 hr, ↓Pg0 hq, ↓Pg1 hq, ↓Pg2 hq, ↓Pg3 hq, ↓Pv hq, Pa1 hq, Pu1 hq, Pa2 hq, Pu2 hq, Pa3 hq, Pu3 hq, Pa4 hq, Pu4 hq, h0, nneg, if_false, Int.toNat_natCast, e0, jI_eq, h2]
theorem X8_turn {z r p : Nat} {M : hM} {c : hCf} {s : hS} {t : Int} (hr : isR S r) (hq : isP S p) (hd : p + 5 ≤ r ∨ r + 9 ≤ p) (hc : okC c) (ht : 0 ≤ t ∧ t < 200) (hz : zI c t s) (h : WR M r p c t s) :
    ∃ M', m_X8_tick_j91 (z + r) (hp S z M) = some ((), hp S z M') ∧ WR M' r p c t (zTurn c t s) ∧ Fr r (r + 9) M M' ∧ Vr M M' := by
  have hcs := hc.s
  obtain ⟨h0, hP, h11, hT', hO, hW, hB, hN, hJ, h16⟩ := WR_get h
  obtain ⟨y1, y2, y3⟩ := zI_get hz
  have hT120 : s.1.length ≤ 120 := by obtain ⟨T, O, W, B, N, J, K, C⟩ := s; exact hz.1
  have e0 : gA M (p + 1) (0 : Int).toNat = c.1 0 := hP.s (k := 0) (by omega)
  have e1 : gA M (p + 1) (1 : Int).toNat = c.1 1 := hP.s (k := 1) (by omega)
  have e4 : gA M (p + 1) (4 : Int).toNat = c.1 4 := hP.s (k := 4) (by omega)
  have j135n : ∀ (M1 : hM) (s1 : hS), WR M1 r p c t s1 → c.1 0 = 0 → m_X8_tick_j135 (z + r) (hp S z M1) = some ((), hp S z M1) := by
    intro M1 s1 w g0
    obtain ⟨b0, bP, _⟩ := WR_get w
    have q0 : gA M1 (p + 1) (0 : Int).toNat = c.1 0 := bP.s (k := 0) (by omega)
    have n1 : ¬ c.1 0 = 1 := by omega
    unfold m_X8_tick_j135
    simp (disch := omega) only [ji1, ji2, ji3, ji4, ji5, ji6, ji7, ji8, ji9, ji10, ji11, ji12, ji13, ji14, ji15, ji16, ji19, ji20, ji24, ji31, ji32, ji39, ji45, ji48, ji57, ji58, ji59, ji60, ji97, ji100, ji119, ji120, ji122, ji144, ji200, ji226, ji240, ji255, ji300, ji366, ji400, ji500, ji1000, jI_z, ↓jI_m1, jI_add, jI_sub, jI_mul, ↓jm1000, ↓jm100, ↓jm10, ↓jm9, ji50, ji65280, ji1664525, ji252645135, ji858993459, ji1013904223, ji1431655765, ji2147483639, ji2147483647, ↓Rg0 hr, Rw0 hr, ↓Rg1 hr, ↓Rg2 hr, ↓Rg3 hr, ↓Rg4 hr, ↓Rg5 hr, ↓Rg6 hr, ↓Rg7 hr, ↓Rg8 hr, ↓Rg9 hr, Rw9 hr, ↓Rg10 hr, Rw10 hr, ↓Rg11 hr, Rw11 hr, ↓Rg12 hr, Rw12 hr, ↓Rg13 hr, Rw13 hr, ↓Rg14 hr, Rw14 hr, ↓Rg15 hr, Rw15 hr, ↓Rg16 hr, Rw16 hr, ↓Rg17 hr, Rw17 hr, ↓Rv hr, Ra1 hr, Ru1 hr, Ra2 hr, Ru2 hr, Ra3 hr, Ru3 hr, Ra4 hr, Ru4 hr, Ra5 hr, Ru5 hr, Ra6 hr, Ru6 hr, Ra7 hr, Ru7 hr, Ra8 hr, Ru8 hr, ↓Pg0 hq, ↓Pg1 hq, ↓Pg2 hq, ↓Pg3 hq, ↓Pv hq, Pa1 hq, Pu1 hq, Pa2 hq, Pu2 hq, Pa3 hq, Pu3 hq, Pa4 hq, Pu4 hq, b0, nneg, if_false, Int.toNat_natCast, q0, jI_eq, n1]
    exact X8_t214n hr hq hc (by omega) w
  unfold zTurn m_X8_tick_j91
  simp (disch := omega) only [ji1, ji2, ji3, ji4, ji5, ji6, ji7, ji8, ji9, ji10, ji11, ji12, ji13, ji14, ji15, ji16, ji19, ji20, ji24, ji31, ji32, ji39, ji45, ji48, ji57, ji58, ji59, ji60, ji97, ji100, ji119, ji120, ji122, ji144, ji200, ji226, ji240, ji255, ji300, ji366, ji400, ji500, ji1000, jI_z, ↓jI_m1, jI_add, jI_sub, jI_mul, ↓jm1000, ↓jm100, ↓jm10, ↓jm9, ji50, ji65280, ji1664525, ji252645135, ji858993459, ji1013904223, ji1431655765, ji2147483639, ji2147483647, ↓Rg0 hr, Rw0 hr, ↓Rg1 hr, ↓Rg2 hr, ↓Rg3 hr, ↓Rg4 hr, ↓Rg5 hr, ↓Rg6 hr, ↓Rg7 hr, ↓Rg8 hr, ↓Rg9 hr, Rw9 hr, ↓Rg10 hr, Rw10 hr, ↓Rg11 hr, Rw11 hr, ↓Rg12 hr, Rw12 hr, ↓Rg13 hr, Rw13 hr, ↓Rg14 hr, Rw14 hr, ↓Rg15 hr, Rw15 hr, ↓Rg16 hr, Rw16 hr, ↓Rg17 hr, Rw17 hr, ↓Rv hr, Ra1 hr, Ru1 hr, Ra2 hr, Ru2 hr, Ra3 hr, Ru3 hr, Ra4 hr, Ru4 hr, Ra5 hr, Ru5 hr, Ra6 hr, Ru6 hr, Ra7 hr, Ru7 hr, Ra8 hr, Ru8 hr, ↓Pg0 hq, ↓Pg1 hq, ↓Pg2 hq, ↓Pg3 hq, ↓Pv hq, Pa1 hq, Pu1 hq, Pa2 hq, Pu2 hq, Pa3 hq, Pu3 hq, Pa4 hq, Pu4 hq, h0, nneg, if_false, Int.toNat_natCast, e0, jI_eq]
  by_cases g0 : c.1 0 = 0
  · rw [if_pos g0, if_pos g0]
    simp (disch := omega) only [ji1, ji2, ji3, ji4, ji5, ji6, ji7, ji8, ji9, ji10, ji11, ji12, ji13, ji14, ji15, ji16, ji19, ji20, ji24, ji31, ji32, ji39, ji45, ji48, ji57, ji58, ji59, ji60, ji97, ji100, ji119, ji120, ji122, ji144, ji200, ji226, ji240, ji255, ji300, ji366, ji400, ji500, ji1000, jI_z, ↓jI_m1, jI_add, jI_sub, jI_mul, ↓jm1000, ↓jm100, ↓jm10, ↓jm9, ji50, ji65280, ji1664525, ji252645135, ji858993459, ji1013904223, ji1431655765, ji2147483639, ji2147483647, ↓Rg0 hr, Rw0 hr, ↓Rg1 hr, ↓Rg2 hr, ↓Rg3 hr, ↓Rg4 hr, ↓Rg5 hr, ↓Rg6 hr, ↓Rg7 hr, ↓Rg8 hr, ↓Rg9 hr, Rw9 hr, ↓Rg10 hr, Rw10 hr, ↓Rg11 hr, Rw11 hr, ↓Rg12 hr, Rw12 hr, ↓Rg13 hr, Rw13 hr, ↓Rg14 hr, Rw14 hr, ↓Rg15 hr, Rw15 hr, ↓Rg16 hr, Rw16 hr, ↓Rg17 hr, Rw17 hr, ↓Rv hr, Ra1 hr, Ru1 hr, Ra2 hr, Ru2 hr, Ra3 hr, Ru3 hr, Ra4 hr, Ru4 hr, Ra5 hr, Ru5 hr, Ra6 hr, Ru6 hr, Ra7 hr, Ru7 hr, Ra8 hr, Ru8 hr, ↓Pg0 hq, ↓Pg1 hq, ↓Pg2 hq, ↓Pg3 hq, ↓Pv hq, Pa1 hq, Pu1 hq, Pa2 hq, Pu2 hq, Pa3 hq, Pu3 hq, Pa4 hq, Pu4 hq, h0, nneg, if_false, Int.toNat_natCast, e1, hB, jI_lt]
    by_cases g1 : s.2.2.2.1 < c.1 1
    · rw [if_pos g1, if_pos g1]
      have f1 : Fr r (r + 9) M (sI M r 13 (s.2.2.2.1 + 1)) := Fr.sI (by omega)
      have w := WR_w (B := s.2.2.2.1 + 1) (N := s.2.2.2.2.1) (J := s.2.2.2.2.2.1) h f1 hd (fun k a1 a2 a3 a4 => by rw [gI_ne (by omega)]) (fun _ _ => rfl) gI_eq (by rw [gI_ne (by omega)]; exact hN) ⟨fun x => by omega, fun x => by omega⟩
      obtain ⟨M1, a1, a2, a3, a4⟩ := X8_send (z := z) (s := (s.1, s.2.1, s.2.2.1, s.2.2.2.1 + 1, s.2.2.2.2.1, s.2.2.2.2.2.1, sK s, s.2.2.2.2.2.2.2)) (kd := 0) (w := s.2.2.2.1) hr hq hd hc ht hT120 w
      refine ⟨M1, ?_, ?_, f1.trans a3, fun k => a4 k⟩
      · rw [a1]
        simp only [↓mo_cs_s]
        exact j135n _ _ a2 g0
      · have e : zB1 (zSend c t 0 s.2.2.2.1 s) = zSend c t 0 s.2.2.2.1 (s.1, s.2.1, s.2.2.1, s.2.2.2.1 + 1, s.2.2.2.2.1, s.2.2.2.2.2.1, sK s, s.2.2.2.2.2.2.2) := by
          obtain ⟨T, O, W, B, N, J, K, C⟩ := s
          unfold zSend; simp only; split <;> rfl
        rw [e]; exact a2
    · rw [if_neg g1, if_neg g1]
      exact ⟨M, j135n _ _ h g0, h, Fr.rfl', Vr.rfl'⟩
  · rw [if_neg g0, if_neg g0]
    unfold m_X8_tick_j135
    simp (disch := omega) only [ji1, ji2, ji3, ji4, ji5, ji6, ji7, ji8, ji9, ji10, ji11, ji12, ji13, ji14, ji15, ji16, ji19, ji20, ji24, ji31, ji32, ji39, ji45, ji48, ji57, ji58, ji59, ji60, ji97, ji100, ji119, ji120, ji122, ji144, ji200, ji226, ji240, ji255, ji300, ji366, ji400, ji500, ji1000, jI_z, ↓jI_m1, jI_add, jI_sub, jI_mul, ↓jm1000, ↓jm100, ↓jm10, ↓jm9, ji50, ji65280, ji1664525, ji252645135, ji858993459, ji1013904223, ji1431655765, ji2147483639, ji2147483647, ↓Rg0 hr, Rw0 hr, ↓Rg1 hr, ↓Rg2 hr, ↓Rg3 hr, ↓Rg4 hr, ↓Rg5 hr, ↓Rg6 hr, ↓Rg7 hr, ↓Rg8 hr, ↓Rg9 hr, Rw9 hr, ↓Rg10 hr, Rw10 hr, ↓Rg11 hr, Rw11 hr, ↓Rg12 hr, Rw12 hr, ↓Rg13 hr, Rw13 hr, ↓Rg14 hr, Rw14 hr, ↓Rg15 hr, Rw15 hr, ↓Rg16 hr, Rw16 hr, ↓Rg17 hr, Rw17 hr, ↓Rv hr, Ra1 hr, Ru1 hr, Ra2 hr, Ru2 hr, Ra3 hr, Ru3 hr, Ra4 hr, Ru4 hr, Ra5 hr, Ru5 hr, Ra6 hr, Ru6 hr, Ra7 hr, Ru7 hr, Ra8 hr, Ru8 hr, ↓Pg0 hq, ↓Pg1 hq, ↓Pg2 hq, ↓Pg3 hq, ↓Pv hq, Pa1 hq, Pu1 hq, Pa2 hq, Pu2 hq, Pa3 hq, Pu3 hq, Pa4 hq, Pu4 hq, h0, nneg, if_false, Int.toNat_natCast, e0, jI_eq]
    by_cases g1 : c.1 0 = 1
    · rw [if_pos g1, if_pos g1]
      obtain ⟨q17, q15⟩ := hJ.1 g1
      simp (disch := omega) only [ji1, ji2, ji3, ji4, ji5, ji6, ji7, ji8, ji9, ji10, ji11, ji12, ji13, ji14, ji15, ji16, ji19, ji20, ji24, ji31, ji32, ji39, ji45, ji48, ji57, ji58, ji59, ji60, ji97, ji100, ji119, ji120, ji122, ji144, ji200, ji226, ji240, ji255, ji300, ji366, ji400, ji500, ji1000, jI_z, ↓jI_m1, jI_add, jI_sub, jI_mul, ↓jm1000, ↓jm100, ↓jm10, ↓jm9, ji50, ji65280, ji1664525, ji252645135, ji858993459, ji1013904223, ji1431655765, ji2147483639, ji2147483647, ↓Rg0 hr, Rw0 hr, ↓Rg1 hr, ↓Rg2 hr, ↓Rg3 hr, ↓Rg4 hr, ↓Rg5 hr, ↓Rg6 hr, ↓Rg7 hr, ↓Rg8 hr, ↓Rg9 hr, Rw9 hr, ↓Rg10 hr, Rw10 hr, ↓Rg11 hr, Rw11 hr, ↓Rg12 hr, Rw12 hr, ↓Rg13 hr, Rw13 hr, ↓Rg14 hr, Rw14 hr, ↓Rg15 hr, Rw15 hr, ↓Rg16 hr, Rw16 hr, ↓Rg17 hr, Rw17 hr, ↓Rv hr, Ra1 hr, Ru1 hr, Ra2 hr, Ru2 hr, Ra3 hr, Ru3 hr, Ra4 hr, Ru4 hr, Ra5 hr, Ru5 hr, Ra6 hr, Ru6 hr, Ra7 hr, Ru7 hr, Ra8 hr, Ru8 hr, ↓Pg0 hq, ↓Pg1 hq, ↓Pg2 hq, ↓Pg3 hq, ↓Pv hq, Pa1 hq, Pu1 hq, Pa2 hq, Pu2 hq, Pa3 hq, Pu3 hq, Pa4 hq, Pu4 hq, h0, nneg, if_false, Int.toNat_natCast, e1, hB, jI_lt]
      have j192 : ∃ M', m_X8_tick_j192 (z + r) (hp S z M) = some ((), hp S z M') ∧ WR M' r p c t (zJt t (zSend c t 0 s.2.2.2.1 s)) ∧ Fr r (r + 9) M M' ∧ Vr M M' := by
        obtain ⟨M1, a1, a2, a3, a4⟩ := X8_send (z := z) (kd := 0) (w := s.2.2.2.1) hr hq hd hc ht hT120 h
        obtain ⟨b0, bP, b11, bT, bO, bW, bB, bN, bJ, b16⟩ := WR_get a2
        have hs2 := zSend_2 (c := c) (t := t) (kd := 0) (w := s.2.2.2.1) (s := s)
        generalize zSend c t 0 s.2.2.2.1 s = q at a2 bB bN hs2
        have f3 : Fr r (r + 9) M1 (sI (sI M1 r 15 t) r 17 0) := (Fr.sI (by omega)).trans (Fr.sI (by omega))
        have w := WR_w (B := q.2.2.2.1) (N := q.2.2.2.2.1) (J := t) a2 f3 hd (fun k a1 a2 a3 a4 => by rw [gI_ne (by omega), gI_ne (by omega)]) (fun _ _ => rfl) (by rw [gI_ne (by omega), gI_ne (by omega)]; exact bB) (by rw [gI_ne (by omega), gI_ne (by omega)]; exact bN) ⟨fun _ => ⟨by rw [gI_eq, if_neg (by omega)], fun _ => by rw [gI_ne (by omega), gI_eq]⟩, fun x => by omega⟩
        refine ⟨sI (sI M1 r 15 t) r 17 0, ?_, ?_, a3.trans f3, fun k => a4 k⟩
        · unfold m_X8_tick_j192
          simp (disch := omega) only [ji1, ji2, ji3, ji4, ji5, ji6, ji7, ji8, ji9, ji10, ji11, ji12, ji13, ji14, ji15, ji16, ji19, ji20, ji24, ji31, ji32, ji39, ji45, ji48, ji57, ji58, ji59, ji60, ji97, ji100, ji119, ji120, ji122, ji144, ji200, ji226, ji240, ji255, ji300, ji366, ji400, ji500, ji1000, jI_z, ↓jI_m1, jI_add, jI_sub, jI_mul, ↓jm1000, ↓jm100, ↓jm10, ↓jm9, ji50, ji65280, ji1664525, ji252645135, ji858993459, ji1013904223, ji1431655765, ji2147483639, ji2147483647, ↓Rg0 hr, Rw0 hr, ↓Rg1 hr, ↓Rg2 hr, ↓Rg3 hr, ↓Rg4 hr, ↓Rg5 hr, ↓Rg6 hr, ↓Rg7 hr, ↓Rg8 hr, ↓Rg9 hr, Rw9 hr, ↓Rg10 hr, Rw10 hr, ↓Rg11 hr, Rw11 hr, ↓Rg12 hr, Rw12 hr, ↓Rg13 hr, Rw13 hr, ↓Rg14 hr, Rw14 hr, ↓Rg15 hr, Rw15 hr, ↓Rg16 hr, Rw16 hr, ↓Rg17 hr, Rw17 hr, ↓Rv hr, Ra1 hr, Ru1 hr, Ra2 hr, Ru2 hr, Ra3 hr, Ru3 hr, Ra4 hr, Ru4 hr, Ra5 hr, Ru5 hr, Ra6 hr, Ru6 hr, Ra7 hr, Ru7 hr, Ra8 hr, Ru8 hr, hB]
          rw [a1]
          simp (disch := omega) only [ji1, ji2, ji3, ji4, ji5, ji6, ji7, ji8, ji9, ji10, ji11, ji12, ji13, ji14, ji15, ji16, ji19, ji20, ji24, ji31, ji32, ji39, ji45, ji48, ji57, ji58, ji59, ji60, ji97, ji100, ji119, ji120, ji122, ji144, ji200, ji226, ji240, ji255, ji300, ji366, ji400, ji500, ji1000, jI_z, ↓jI_m1, jI_add, jI_sub, jI_mul, ↓jm1000, ↓jm100, ↓jm10, ↓jm9, ji50, ji65280, ji1664525, ji252645135, ji858993459, ji1013904223, ji1431655765, ji2147483639, ji2147483647, ↓Rg0 hr, Rw0 hr, ↓Rg1 hr, ↓Rg2 hr, ↓Rg3 hr, ↓Rg4 hr, ↓Rg5 hr, ↓Rg6 hr, ↓Rg7 hr, ↓Rg8 hr, ↓Rg9 hr, Rw9 hr, ↓Rg10 hr, Rw10 hr, ↓Rg11 hr, Rw11 hr, ↓Rg12 hr, Rw12 hr, ↓Rg13 hr, Rw13 hr, ↓Rg14 hr, Rw14 hr, ↓Rg15 hr, Rw15 hr, ↓Rg16 hr, Rw16 hr, ↓Rg17 hr, Rw17 hr, ↓Rv hr, Ra1 hr, Ru1 hr, Ra2 hr, Ru2 hr, Ra3 hr, Ru3 hr, Ra4 hr, Ru4 hr, Ra5 hr, Ru5 hr, Ra6 hr, Ru6 hr, Ra7 hr, Ru7 hr, Ra8 hr, Ru8 hr, ↓mo_ns_r, ↓hn0, ↓mo_cs_s, ↓mo_xs_r, ↓mo_xs_l, ↓mo_nl_s, mo_z_0, mo_z_1, b11]
          exact X8_t214n hr hq hc (by omega) w
        · obtain ⟨T, O, W, B, N, J, K, C⟩ := q; exact w
      generalize hD : (if s.2.2.2.1 < c.1 1 ∧ (s.2.2.2.2.2.1 = -1 ∨ c.1 4 ≤ t - s.2.2.2.2.2.1) then zJt t (zSend c t 0 s.2.2.2.1 s) else s) = D
      by_cases g2 : s.2.2.2.1 < c.1 1
      · rw [if_pos g2]
        by_cases g3 : s.2.2.2.2.2.1 = -1
        · rw [if_pos ⟨g2, Or.inl g3⟩] at hD
          rw [← hD]
          rw [if_pos g3] at q17
          rw [q17, if_neg (show ¬ jI 1 = jI 0 by decide)]
          exact j192
        · rw [if_neg g3] at q17
          have q15 := q15 g3
          rw [q17, if_pos (show jI 0 = jI 0 from rfl)]
          simp (disch := omega) only [ji1, ji2, ji3, ji4, ji5, ji6, ji7, ji8, ji9, ji10, ji11, ji12, ji13, ji14, ji15, ji16, ji19, ji20, ji24, ji31, ji32, ji39, ji45, ji48, ji57, ji58, ji59, ji60, ji97, ji100, ji119, ji120, ji122, ji144, ji200, ji226, ji240, ji255, ji300, ji366, ji400, ji500, ji1000, jI_z, ↓jI_m1, jI_add, jI_sub, jI_mul, ↓jm1000, ↓jm100, ↓jm10, ↓jm9, ji50, ji65280, ji1664525, ji252645135, ji858993459, ji1013904223, ji1431655765, ji2147483639, ji2147483647, ↓Rg0 hr, Rw0 hr, ↓Rg1 hr, ↓Rg2 hr, ↓Rg3 hr, ↓Rg4 hr, ↓Rg5 hr, ↓Rg6 hr, ↓Rg7 hr, ↓Rg8 hr, ↓Rg9 hr, Rw9 hr, ↓Rg10 hr, Rw10 hr, ↓Rg11 hr, Rw11 hr, ↓Rg12 hr, Rw12 hr, ↓Rg13 hr, Rw13 hr, ↓Rg14 hr, Rw14 hr, ↓Rg15 hr, Rw15 hr, ↓Rg16 hr, Rw16 hr, ↓Rg17 hr, Rw17 hr, ↓Rv hr, Ra1 hr, Ru1 hr, Ra2 hr, Ru2 hr, Ra3 hr, Ru3 hr, Ra4 hr, Ru4 hr, Ra5 hr, Ru5 hr, Ra6 hr, Ru6 hr, Ra7 hr, Ru7 hr, Ra8 hr, Ru8 hr, ↓Pg0 hq, ↓Pg1 hq, ↓Pg2 hq, ↓Pg3 hq, ↓Pv hq, Pa1 hq, Pu1 hq, Pa2 hq, Pu2 hq, Pa3 hq, Pu3 hq, Pa4 hq, Pu4 hq, h0, nneg, if_false, Int.toNat_natCast, e4, h11, q15, jI_lt]
          by_cases g4 : t - s.2.2.2.2.2.1 < c.1 4
          · rw [if_neg (by omega)] at hD
            rw [if_pos g4, ← hD]
            exact ⟨M, X8_t214n hr hq hc (by omega) h, h, Fr.rfl', Vr.rfl'⟩
          · rw [if_pos ⟨g2, Or.inr (by omega)⟩] at hD
            rw [if_neg g4, ← hD]
            exact j192
      · rw [if_neg (fun x => g2 x.1)] at hD
        rw [if_neg g2, ← hD]
        exact ⟨M, X8_t214n hr hq hc (by omega) h, h, Fr.rfl', Vr.rfl'⟩
    · rw [if_neg g1, if_neg g1]
      have g2 : c.1 0 = 2 := by omega
      obtain ⟨M', k1, k2⟩ := X8_win (z := z) hr hq hd hc ht hz g2 h
      refine ⟨M', ?_, k2⟩
      unfold m_X8_tick_j214
      simp (disch := omega) only [ji1, ji2, ji3, ji4, ji5, ji6, ji7, ji8, ji9, ji10, ji11, ji12, ji13, ji14, ji15, ji16, ji19, ji20, ji24, ji31, ji32, ji39, ji45, ji48, ji57, ji58, ji59, ji60, ji97, ji100, ji119, ji120, ji122, ji144, ji200, ji226, ji240, ji255, ji300, ji366, ji400, ji500, ji1000, jI_z, ↓jI_m1, jI_add, jI_sub, jI_mul, ↓jm1000, ↓jm100, ↓jm10, ↓jm9, ji50, ji65280, ji1664525, ji252645135, ji858993459, ji1013904223, ji1431655765, ji2147483639, ji2147483647, ↓Rg0 hr, Rw0 hr, ↓Rg1 hr, ↓Rg2 hr, ↓Rg3 hr, ↓Rg4 hr, ↓Rg5 hr, ↓Rg6 hr, ↓Rg7 hr, ↓Rg8 hr, ↓Rg9 hr, Rw9 hr, ↓Rg10 hr, Rw10 hr, ↓Rg11 hr, Rw11 hr, ↓Rg12 hr, Rw12 hr, ↓Rg13 hr, Rw13 hr, ↓Rg14 hr, Rw14 hr, ↓Rg15 hr, Rw15 hr, ↓Rg16 hr, Rw16 hr, ↓Rg17 hr, Rw17 hr, ↓Rv hr, Ra1 hr, Ru1 hr, Ra2 hr, Ru2 hr, Ra3 hr, Ru3 hr, Ra4 hr, Ru4 hr, Ra5 hr, Ru5 hr, Ra6 hr, Ru6 hr, Ra7 hr, Ru7 hr, Ra8 hr, Ru8 hr, ↓Pg0 hq, ↓Pg1 hq, ↓Pg2 hq, ↓Pg3 hq, ↓Pv hq, Pa1 hq, Pu1 hq, Pa2 hq, Pu2 hq, Pa3 hq, Pu3 hq, Pa4 hq, Pu4 hq, h0, nneg, if_false, Int.toNat_natCast, e0, jI_eq, g2, if_true]
      rw [k1]; rfl
theorem zQ_hand {c : hCf} {t : Int} {k : Nat} {s : hS} (h : zQ c s) : zQ c (zHand c t k s) := by
  unfold zHand
  cases hk : s.1[k]? with
  | none => exact h
  | some x =>
    simp only
    by_cases g : x.2.1 = 0
    · rw [if_pos g]
      apply zQ_data h
      obtain ⟨T, O, W, B, N, J, K, C⟩ := s
      exact h.1 x (List.mem_of_getElem? hk) g
    · rw [if_neg g]; exact zQ_ans h
theorem zQ_arr {c : hCf} {t : Int} : ∀ (n k : Nat) (s : hS), zQ c s → zQ c (zArr c t n k s) := by
  intro n
  induction n with
  | zero => intro k s h; exact h
  | succ n ih =>
    intro k s h
    simp only [zArr]
    apply ih
    split
    · exact zQ_hand h
    · exact h
theorem zArr_no {c : hCf} {t : Int} {s : hS} (h : ∀ j, zIs t j s.1 = false) : ∀ n k : Nat, zArr c t n k s = s := by
  intro n
  induction n with
  | zero => intro k; rfl
  | succ n ih => intro k; simp only [zArr]; rw [h k, if_neg (by decide), ih]
theorem zIs_no {t : Int} {T : List hT} {n : Nat} (ht : t = n) (h : dueB T n = false) : ∀ j, zIs t j T = false := by
  intro j
  unfold zIs
  cases hj : T[j]? with
  | none => rfl
  | some x =>
    simp only
    have := List.any_eq_false.mp h x (List.mem_of_getElem? hj)
    simp only [Bool.or_eq_true, decide_eq_true_eq, not_or] at this
    rw [ht]
    exact decide_eq_false (by intro q; rcases q with q | q; exact this.1 q; exact this.2 q)
theorem X8_arr {z r p many : Nat} {c : hCf} {t : Int} (hr : isR S r) (hq : isP S p) (hd : p + 5 ≤ r ∨ r + 9 ≤ p) (hc : okC c) (ht : 0 ≤ t ∧ t < 200) : ∀ (n k : Nat) (s : hS) (M : hM) (f : Nat), k + n = many → many ≤ s.1.length → zJ c t k s → zQ c s → WR M r p c t s → n < f →
    ∃ M', m_X8_tick_l7 (z + r) f (hp S z M) (jI many) (jI k) = m_X8_tick_j91 (z + r) (hp S z M') ∧ WR M' r p c t (zArr c t n k s) ∧ Fr r (r + 9) M M' ∧ Vr M M' := by
  intro n
  induction n with
  | zero =>
    intro k s M f hk hm hz hzq h hf
    obtain ⟨f, rfl⟩ : ∃ k, f = k + 1 := ⟨f - 1, by omega⟩
    have : k = many := by omega
    subst this
    have h120 : s.1.length ≤ 120 := by obtain ⟨T, O, W, B, N, J, K, C⟩ := s; exact hz.1.1
    refine ⟨M, ?_, h, Fr.rfl', Vr.rfl'⟩
    unfold m_X8_tick_l7
    rw [if_neg (by rw [jI_lt (by omega) (by omega) (by omega) (by omega)]; omega)]
  | succ n ih =>
    intro k s M f hk hm hz hzq h hf
    obtain ⟨f, rfl⟩ : ∃ k, f = k + 1 := ⟨f - 1, by omega⟩
    have h120 : s.1.length ≤ 120 := by obtain ⟨T, O, W, B, N, J, K, C⟩ := s; exact hz.1.1
    have hx : s.1[k]? = some s.1[k] := List.getElem?_eq_getElem (by omega)
    generalize s.1[k] = x at hx
    obtain ⟨h0, hP, h11, ⟨h9, hA, hD⟩, hO, hW, hB, hN, hJ, h16⟩ := WR_get h
    obtain ⟨e1, e2, e3, e4, e5⟩ := hA k x hx
    have ho : okT c t x := by obtain ⟨T, O, W, B, N, J, K, C⟩ := s; exact hz.1.2.1 x (List.mem_of_getElem? hx)
    obtain ⟨o1, o2, o3, o4, o5, o6⟩ := ho
    have hlt : (k : Int) < many := by omega
    have ek : (k : Int) + 1 = ((k + 1 : Nat) : Int) := by omega
    have hdu : gA M (r + 7) t.toNat = b2i (dueB s.1 t.toNat) := hD t.toNat (by omega)
    by_cases gd : dueB s.1 t.toNat = true
    · simp only [zArr]
      have pre : ∀ R, (if x.2.2.2.1 = t ∨ x.2.2.2.2 = t then m_X8_tick_j53 (fun ρ y0 y1 => m_X8_tick_l7 (z + r) f ρ y0 y1) (z + r) (hp S z M) (jI many) (jI k) else m_X8_tick_l7 (z + r) f (hp S z M) (jI many) (jI ((k + 1 : Nat) : Int))) = R → m_X8_tick_l7 (z + r) (f + 1) (hp S z M) (jI many) (jI k) = R := by
        intro R hR
        rw [← hR]
        conv => lhs; unfold m_X8_tick_l7
        simp (disch := omega) only [ji1, ji2, ji3, ji4, ji5, ji6, ji7, ji8, ji9, ji10, ji11, ji12, ji13, ji14, ji15, ji16, ji19, ji20, ji24, ji31, ji32, ji39, ji45, ji48, ji57, ji58, ji59, ji60, ji97, ji100, ji119, ji120, ji122, ji144, ji200, ji226, ji240, ji255, ji300, ji366, ji400, ji500, ji1000, jI_z, ↓jI_m1, jI_add, jI_sub, jI_mul, ↓jm1000, ↓jm100, ↓jm10, ↓jm9, ji50, ji65280, ji1664525, ji252645135, ji858993459, ji1013904223, ji1431655765, ji2147483639, ji2147483647, ↓Rg0 hr, Rw0 hr, ↓Rg1 hr, ↓Rg2 hr, ↓Rg3 hr, ↓Rg4 hr, ↓Rg5 hr, ↓Rg6 hr, ↓Rg7 hr, ↓Rg8 hr, ↓Rg9 hr, Rw9 hr, ↓Rg10 hr, Rw10 hr, ↓Rg11 hr, Rw11 hr, ↓Rg12 hr, Rw12 hr, ↓Rg13 hr, Rw13 hr, ↓Rg14 hr, Rw14 hr, ↓Rg15 hr, Rw15 hr, ↓Rg16 hr, Rw16 hr, ↓Rg17 hr, Rw17 hr, ↓Rv hr, Ra1 hr, Ru1 hr, Ra2 hr, Ru2 hr, Ra3 hr, Ru3 hr, Ra4 hr, Ru4 hr, Ra5 hr, Ru5 hr, Ra6 hr, Ru6 hr, Ra7 hr, Ru7 hr, Ra8 hr, Ru8 hr, jI_lt, hlt, if_true, Int.toNat_natCast, h11, hdu, gd, show ¬ jI (b2i true) = jI 0 by decide, if_false, e4, e5, jI_eq, ek]
        by_cases q1 : x.2.2.2.1 = t
        · rw [if_pos q1, if_pos (Or.inl q1)]
        · rw [if_neg q1]
          by_cases q2 : x.2.2.2.2 = t
          · rw [if_pos q2, if_pos (Or.inr q2)]
          · rw [if_neg q2, if_neg (by omega)]
      by_cases hy : zIs t k s.1 = true
      · rw [if_pos hy]
        obtain ⟨g1, g2⟩ := zJ_hand hc hz ht.1 hx hy
        have hl := hz.lt ht.1 hx hy
        have hH : zHand c t k s = if x.2.1 = 0 then zData c t x.2.2.1 s else zAns c t x.2.2.1 s := by unfold zHand; rw [hx]
        have hand : ∃ M1, m_X8_tick_j53 (fun ρ y0 y1 => m_X8_tick_l7 (z + r) f ρ y0 y1) (z + r) (hp S z M) (jI many) (jI k) = m_X8_tick_l7 (z + r) f (hp S z M1) (jI many) (jI ((k + 1 : Nat) : Int)) ∧ WR M1 r p c t (zHand c t k s) ∧ Fr r (r + 9) M M1 ∧ Vr M M1 := by
          unfold m_X8_tick_j53
          simp (disch := omega) only [ji1, ji2, ji3, ji4, ji5, ji6, ji7, ji8, ji9, ji10, ji11, ji12, ji13, ji14, ji15, ji16, ji19, ji20, ji24, ji31, ji32, ji39, ji45, ji48, ji57, ji58, ji59, ji60, ji97, ji100, ji119, ji120, ji122, ji144, ji200, ji226, ji240, ji255, ji300, ji366, ji400, ji500, ji1000, jI_z, ↓jI_m1, jI_add, jI_sub, jI_mul, ↓jm1000, ↓jm100, ↓jm10, ↓jm9, ji50, ji65280, ji1664525, ji252645135, ji858993459, ji1013904223, ji1431655765, ji2147483639, ji2147483647, ↓Rg0 hr, Rw0 hr, ↓Rg1 hr, ↓Rg2 hr, ↓Rg3 hr, ↓Rg4 hr, ↓Rg5 hr, ↓Rg6 hr, ↓Rg7 hr, ↓Rg8 hr, ↓Rg9 hr, Rw9 hr, ↓Rg10 hr, Rw10 hr, ↓Rg11 hr, Rw11 hr, ↓Rg12 hr, Rw12 hr, ↓Rg13 hr, Rw13 hr, ↓Rg14 hr, Rw14 hr, ↓Rg15 hr, Rw15 hr, ↓Rg16 hr, Rw16 hr, ↓Rg17 hr, Rw17 hr, ↓Rv hr, Ra1 hr, Ru1 hr, Ra2 hr, Ru2 hr, Ra3 hr, Ru3 hr, Ra4 hr, Ru4 hr, Ra5 hr, Ru5 hr, Ra6 hr, Ru6 hr, Ra7 hr, Ru7 hr, Ra8 hr, Ru8 hr, Int.toNat_natCast, e2, e3, jI_eq, ek]
          rw [hH]
          by_cases g0 : x.2.1 = 0
          · rw [if_pos g0, if_pos g0]
            have hwq : x.2.2.1 < c.1 1 := by
              obtain ⟨T, O, W, B, N, J, K, C⟩ := s
              exact hzq.1 x (List.mem_of_getElem? hx) g0
            obtain ⟨M1, r1, r2⟩ := X8_data (z := z) (w := x.2.2.1) hr hq hd hc ht hz.1 hzq hl ⟨o4, hwq⟩ h
            exact ⟨M1, by rw [r1]; rfl, r2⟩
          · rw [if_neg g0, if_neg g0]
            obtain ⟨M1, r1, r2⟩ := X8_ans (z := z) (sg := x.2.2.1) hr hq hd hc ht hz.1 ⟨o4, o5⟩ (by omega) h
            exact ⟨M1, by rw [r1]; rfl, r2⟩
        obtain ⟨M1, r1, r2, r3, r4⟩ := hand
        obtain ⟨M', q1, q2, q3, q4⟩ := ih (k + 1) (zHand c t k s) M1 f (by omega) (by obtain ⟨ex, e, _⟩ := g2; rw [e]; simp only [List.length_append]; omega) g1 (zQ_hand hzq) r2 (by omega)
        refine ⟨M', pre _ ?_, q2, r3.trans q3, r4.trans q4⟩
        rw [zIs_some hx] at hy
        simp only [decide_eq_true_eq] at hy
        rw [if_pos hy, r1]; exact q1
      · rw [if_neg hy]
        obtain ⟨M', q1, q2, q3, q4⟩ := ih (k + 1) s M f (by omega) hm (zJ_skip hz hx hy) hzq h (by omega)
        refine ⟨M', pre _ ?_, q2, q3, q4⟩
        rw [zIs_some hx] at hy
        simp only [decide_eq_true_eq] at hy
        rw [if_neg hy]; exact q1
    · have gd' : dueB s.1 t.toNat = false := by simpa using gd
      rw [zArr_no (zIs_no (n := t.toNat) (by omega) gd')]
      refine ⟨M, ?_, h, Fr.rfl', Vr.rfl'⟩
      unfold m_X8_tick_l7
      simp (disch := omega) only [ji1, ji2, ji3, ji4, ji5, ji6, ji7, ji8, ji9, ji10, ji11, ji12, ji13, ji14, ji15, ji16, ji19, ji20, ji24, ji31, ji32, ji39, ji45, ji48, ji57, ji58, ji59, ji60, ji97, ji100, ji119, ji120, ji122, ji144, ji200, ji226, ji240, ji255, ji300, ji366, ji400, ji500, ji1000, jI_z, ↓jI_m1, jI_add, jI_sub, jI_mul, ↓jm1000, ↓jm100, ↓jm10, ↓jm9, ji50, ji65280, ji1664525, ji252645135, ji858993459, ji1013904223, ji1431655765, ji2147483639, ji2147483647, ↓Rg0 hr, Rw0 hr, ↓Rg1 hr, ↓Rg2 hr, ↓Rg3 hr, ↓Rg4 hr, ↓Rg5 hr, ↓Rg6 hr, ↓Rg7 hr, ↓Rg8 hr, ↓Rg9 hr, Rw9 hr, ↓Rg10 hr, Rw10 hr, ↓Rg11 hr, Rw11 hr, ↓Rg12 hr, Rw12 hr, ↓Rg13 hr, Rw13 hr, ↓Rg14 hr, Rw14 hr, ↓Rg15 hr, Rw15 hr, ↓Rg16 hr, Rw16 hr, ↓Rg17 hr, Rw17 hr, ↓Rv hr, Ra1 hr, Ru1 hr, Ra2 hr, Ru2 hr, Ra3 hr, Ru3 hr, Ra4 hr, Ru4 hr, Ra5 hr, Ru5 hr, Ra6 hr, Ru6 hr, Ra7 hr, Ru7 hr, Ra8 hr, Ru8 hr, jI_lt, hlt, if_true, Int.toNat_natCast, h11, hdu, gd']
      rw [if_pos (by decide)]
theorem X8_tick {z r p : Nat} {M : hM} {c : hCf} {s : hS} {t : Int} (hr : isR S r) (hq : isP S p) (hd : p + 5 ≤ r ∨ r + 9 ≤ p) (hc : okC c) (ht : 0 ≤ t ∧ t < 200) (hz : zJ c t 0 s) (hzq : zQ c s) (h : WR M r p c t s) :
    ∃ M', m_X8_tick (hp S z M) (z + r) = some ((), hp S z M') ∧ WR M' r p c t (zTurn c t (zArr c t s.1.length 0 s)) ∧ Fr r (r + 9) M M' ∧ Vr M M' := by
  obtain ⟨h0, hP, h11, ⟨h9, hA, hD⟩, _⟩ := WR_get h
  have h120 : s.1.length ≤ 120 := by obtain ⟨T, O, W, B, N, J, K, C⟩ := s; exact hz.1.1
  obtain ⟨M1, r1, r2, r3, r4⟩ := X8_arr (z := z) (many := s.1.length) hr hq hd hc ht s.1.length 0 s M hN_f (by omega) (by omega) hz hzq h (by unfold hN_f; omega)
  obtain ⟨g1, g2⟩ := zJ_arr hc ht.1 s.1.length 0 s hz (by omega)
  obtain ⟨M2, s1, s2, s3, s4⟩ := X8_turn (z := z) hr hq hd hc ht g1.1 r2
  refine ⟨M2, ?_, s2, r3.trans s3, r4.trans s4⟩
  unfold m_X8_tick
  simp (disch := omega) only [ji1, ji2, ji3, ji4, ji5, ji6, ji7, ji8, ji9, ji10, ji11, ji12, ji13, ji14, ji15, ji16, ji19, ji20, ji24, ji31, ji32, ji39, ji45, ji48, ji57, ji58, ji59, ji60, ji97, ji100, ji119, ji120, ji122, ji144, ji200, ji226, ji240, ji255, ji300, ji366, ji400, ji500, ji1000, jI_z, ↓jI_m1, jI_add, jI_sub, jI_mul, ↓jm1000, ↓jm100, ↓jm10, ↓jm9, ji50, ji65280, ji1664525, ji252645135, ji858993459, ji1013904223, ji1431655765, ji2147483639, ji2147483647, ↓Rg0 hr, Rw0 hr, ↓Rg1 hr, ↓Rg2 hr, ↓Rg3 hr, ↓Rg4 hr, ↓Rg5 hr, ↓Rg6 hr, ↓Rg7 hr, ↓Rg8 hr, ↓Rg9 hr, Rw9 hr, ↓Rg10 hr, Rw10 hr, ↓Rg11 hr, Rw11 hr, ↓Rg12 hr, Rw12 hr, ↓Rg13 hr, Rw13 hr, ↓Rg14 hr, Rw14 hr, ↓Rg15 hr, Rw15 hr, ↓Rg16 hr, Rw16 hr, ↓Rg17 hr, Rw17 hr, ↓Rv hr, Ra1 hr, Ru1 hr, Ra2 hr, Ru2 hr, Ra3 hr, Ru3 hr, Ra4 hr, Ru4 hr, Ra5 hr, Ru5 hr, Ra6 hr, Ru6 hr, Ra7 hr, Ru7 hr, Ra8 hr, Ru8 hr, h9]
  rw [show jI 0 = jI ((0 : Nat) : Int) from rfl, r1]
  exact s1

variable {S : hSh}
/-! .. its answers, its turns, its ticks. -/
theorem jI_b1 {v : Int} (h0 : 0 ≤ v) (h1 : v < 2147483648) : jI v &&& jI 1 = jI (v % 2) := by
  have e : v = (v.toNat : Int) := by omega
  rw [e, show jI 1 = jI ((1 : Nat) : Int) from rfl, jI_and (by omega) (by omega), Nat.and_one_is_mod]
  congr 1
/-- only r's words change, outside 9, 10, 12 -/
theorem WR_w {M M' : hM} {r p : Nat} {c : hCf} {t : Int} {s : hS} {B N J : Int} (h : WR M r p c t s) (hf : Fr r (r + 9) M M') (hd : p + 5 ≤ r ∨ r + 9 ≤ p) (i : ∀ k, k ≠ 13 → k ≠ 14 → k ≠ 15 → k ≠ 17 → gI M' r k = gI M r k) (a : ∀ b k, gA M' b k = gA M b k) (hB : gI M' r 13 = B) (hN : gI M' r 14 = N) (hJ : wJ M' r c B N J) :
    WR M' r p c t (s.1, s.2.1, s.2.2.1, B, N, J, sK s, s.2.2.2.2.2.2.2) := by
  obtain ⟨h0, hP, h11, hT', hO, hW, _, _, _, h16⟩ := WR_get h
  exact ⟨by rw [i 0 (by omega) (by omega) (by omega) (by omega)]; exact h0, hP.keep hf (by omega), by rw [i 11 (by omega) (by omega) (by omega) (by omega)]; exact h11, hT'.cg (i 9 (by omega) (by omega) (by omega) (by omega)) (fun b k _ _ => a b k), hO.cg (i 10 (by omega) (by omega) (by omega) (by omega)) (i 12 (by omega) (by omega) (by omega) (by omega)) (fun k => a _ k), hW.cg (fun k => a _ k), hB, hN, hJ, by rw [i 16 (by omega) (by omega) (by omega) (by omega)]; exact h16⟩
theorem X8_a98 {z r : Nat} {M : hM} {B N t d : Int} (hr : isR S r) (h11 : gI M r 11 = t) (hB : gI M r 13 = B) (hN : gI M r 14 = N) (hb : 0 ≤ B ∧ B ≤ 8 ∧ 0 ≤ N ∧ N ≤ 8) (hd : 1 ≤ d ∧ d ≤ 20) :
    m_X8_answer_j98 (z + r) (hp S z M) (jI d) = some ((), hp S z (if N - B < d then M else sI (sI M r 13 (B + d)) r 15 t)) := by
  unfold m_X8_answer_j98
  simp (disch := omega) only [ji1, ji2, ji3, ji4, ji5, ji6, ji7, ji8, ji9, ji10, ji11, ji12, ji13, ji14, ji15, ji16, ji19, ji20, ji24, ji31, ji32, ji39, ji45, ji48, ji57, ji58, ji59, ji60, ji97, ji100, ji119, ji120, ji122, ji144, ji200, ji226, ji240, ji255, ji300, ji366, ji400, ji500, ji1000, jI_z, ↓jI_m1, jI_add, jI_sub, jI_mul, ↓jm1000, ↓jm100, ↓jm10, ↓jm9, ji50, ji65280, ji1664525, ji252645135, ji858993459, ji1013904223, ji1431655765, ji2147483639, ji2147483647, ↓Rg0 hr, Rw0 hr, ↓Rg1 hr, ↓Rg2 hr, ↓Rg3 hr, ↓Rg4 hr, ↓Rg5 hr, ↓Rg6 hr, ↓Rg7 hr, ↓Rg8 hr, ↓Rg9 hr, Rw9 hr, ↓Rg10 hr, Rw10 hr, ↓Rg11 hr, Rw11 hr, ↓Rg12 hr, Rw12 hr, ↓Rg13 hr, Rw13 hr, ↓Rg14 hr, Rw14 hr, ↓Rg15 hr, Rw15 hr, ↓Rg16 hr, Rw16 hr, ↓Rg17 hr, Rw17 hr, ↓Rv hr, Ra1 hr, Ru1 hr, Ra2 hr, Ru2 hr, Ra3 hr, Ru3 hr, Ra4 hr, Ru4 hr, Ra5 hr, Ru5 hr, Ra6 hr, Ru6 hr, Ra7 hr, Ru7 hr, Ra8 hr, Ru8 hr, hB, hN, jI_lt]
  by_cases g : N - B < d
  · rw [if_pos g, if_pos g]
  · rw [if_neg g, if_neg g]
    simp (disch := omega) only [ji1, ji2, ji3, ji4, ji5, ji6, ji7, ji8, ji9, ji10, ji11, ji12, ji13, ji14, ji15, ji16, ji19, ji20, ji24, ji31, ji32, ji39, ji45, ji48, ji57, ji58, ji59, ji60, ji97, ji100, ji119, ji120, ji122, ji144, ji200, ji226, ji240, ji255, ji300, ji366, ji400, ji500, ji1000, jI_z, ↓jI_m1, jI_add, jI_sub, jI_mul, ↓jm1000, ↓jm100, ↓jm10, ↓jm9, ji50, ji65280, ji1664525, ji252645135, ji858993459, ji1013904223, ji1431655765, ji2147483639, ji2147483647, ↓Rg0 hr, Rw0 hr, ↓Rg1 hr, ↓Rg2 hr, ↓Rg3 hr, ↓Rg4 hr, ↓Rg5 hr, ↓Rg6 hr, ↓Rg7 hr, ↓Rg8 hr, ↓Rg9 hr, Rw9 hr, ↓Rg10 hr, Rw10 hr, ↓Rg11 hr, Rw11 hr, ↓Rg12 hr, Rw12 hr, ↓Rg13 hr, Rw13 hr, ↓Rg14 hr, Rw14 hr, ↓Rg15 hr, Rw15 hr, ↓Rg16 hr, Rw16 hr, ↓Rg17 hr, Rw17 hr, ↓Rv hr, Ra1 hr, Ru1 hr, Ra2 hr, Ru2 hr, Ra3 hr, Ru3 hr, Ra4 hr, Ru4 hr, Ra5 hr, Ru5 hr, Ra6 hr, Ru6 hr, Ra7 hr, Ru7 hr, Ra8 hr, Ru8 hr, gI_sA, gA_sI, gI_eq, gI_ne, gA_eq, gA_ne, nneg, if_false, if_true, Int.toNat_natCast, h11]
theorem X8_a58 {z r p : Nat} {M : hM} {c : hCf} {sg t B N : Int} (hr : isR S r) (hq : isP S p) (hc : okC c) (h0 : gI M r 0 = p) (hP : PL M p c) (h11 : gI M r 11 = t) (hB : gI M r 13 = B) (hN : gI M r 14 = N) (hb : 0 ≤ B ∧ B ≤ N ∧ N ≤ 8) (hsg : 0 ≤ sg ∧ sg ≤ 7) : ∀ (n : Nat) (d : Int) (f : Nat), 1 ≤ d → d + n = N - B + 1 → n < f →
    m_X8_answer_l58 (z + r) (jI sg) f (hp S z M) (jI d) = some ((), hp S z (if zAck (c.1 6) sg B n d = 0 then M else sI (sI M r 13 (B + zAck (c.1 6) sg B n d)) r 15 t)) := by
  have hcs := hc.s
  have e6 : gA M (p + 1) (6 : Int).toNat = c.1 6 := hP.s (k := 6) (by omega)
  intro n
  induction n with
  | zero =>
    intro d f hd hn hf
    obtain ⟨f, rfl⟩ : ∃ k, f = k + 1 := ⟨f - 1, by omega⟩
    have hlt : N - B < d := by omega
    have q := X8_a98 (z := z) (d := d) hr h11 hB hN (by omega) (by omega)
    rw [if_pos hlt] at q
    unfold m_X8_answer_l58
    simp (disch := omega) only [ji1, ji2, ji3, ji4, ji5, ji6, ji7, ji8, ji9, ji10, ji11, ji12, ji13, ji14, ji15, ji16, ji19, ji20, ji24, ji31, ji32, ji39, ji45, ji48, ji57, ji58, ji59, ji60, ji97, ji100, ji119, ji120, ji122, ji144, ji200, ji226, ji240, ji255, ji300, ji366, ji400, ji500, ji1000, jI_z, ↓jI_m1, jI_add, jI_sub, jI_mul, ↓jm1000, ↓jm100, ↓jm10, ↓jm9, ji50, ji65280, ji1664525, ji252645135, ji858993459, ji1013904223, ji1431655765, ji2147483639, ji2147483647, ↓Rg0 hr, Rw0 hr, ↓Rg1 hr, ↓Rg2 hr, ↓Rg3 hr, ↓Rg4 hr, ↓Rg5 hr, ↓Rg6 hr, ↓Rg7 hr, ↓Rg8 hr, ↓Rg9 hr, Rw9 hr, ↓Rg10 hr, Rw10 hr, ↓Rg11 hr, Rw11 hr, ↓Rg12 hr, Rw12 hr, ↓Rg13 hr, Rw13 hr, ↓Rg14 hr, Rw14 hr, ↓Rg15 hr, Rw15 hr, ↓Rg16 hr, Rw16 hr, ↓Rg17 hr, Rw17 hr, ↓Rv hr, Ra1 hr, Ru1 hr, Ra2 hr, Ru2 hr, Ra3 hr, Ru3 hr, Ra4 hr, Ru4 hr, Ra5 hr, Ru5 hr, Ra6 hr, Ru6 hr, Ra7 hr, Ru7 hr, Ra8 hr, Ru8 hr, jI_lt, hB, hN, hlt, if_true, zAck]
    exact q
  | succ n ih =>
    intro d f hd hn hf
    obtain ⟨f, rfl⟩ : ∃ k, f = k + 1 := ⟨f - 1, by omega⟩
    have hlt : ¬ N - B < d := by omega
    have hm1 := Int.emod_nonneg (B + d) (show c.1 6 ≠ 0 by omega)
    have hm2 := Int.emod_lt_of_pos (B + d) (show 0 < c.1 6 by omega)
    have q := X8_a98 (z := z) (d := d) hr h11 hB hN (by omega) (by omega)
    rw [if_neg hlt] at q
    unfold m_X8_answer_l58
    simp (disch := omega) only [ji1, ji2, ji3, ji4, ji5, ji6, ji7, ji8, ji9, ji10, ji11, ji12, ji13, ji14, ji15, ji16, ji19, ji20, ji24, ji31, ji32, ji39, ji45, ji48, ji57, ji58, ji59, ji60, ji97, ji100, ji119, ji120, ji122, ji144, ji200, ji226, ji240, ji255, ji300, ji366, ji400, ji500, ji1000, jI_z, ↓jI_m1, jI_add, jI_sub, jI_mul, ↓jm1000, ↓jm100, ↓jm10, ↓jm9, ji50, ji65280, ji1664525, ji252645135, ji858993459, ji1013904223, ji1431655765, ji2147483639, ji2147483647, ↓Rg0 hr, Rw0 hr, ↓Rg1 hr, ↓Rg2 hr, ↓Rg3 hr, ↓Rg4 hr, ↓Rg5 hr, ↓Rg6 hr, ↓Rg7 hr, ↓Rg8 hr, ↓Rg9 hr, Rw9 hr, ↓Rg10 hr, Rw10 hr, ↓Rg11 hr, Rw11 hr, ↓Rg12 hr, Rw12 hr, ↓Rg13 hr, Rw13 hr, ↓Rg14 hr, Rw14 hr, ↓Rg15 hr, Rw15 hr, ↓Rg16 hr, Rw16 hr, ↓Rg17 hr, Rw17 hr, ↓Rv hr, Ra1 hr, Ru1 hr, Ra2 hr, Ru2 hr, Ra3 hr, Ru3 hr, Ra4 hr, Ru4 hr, Ra5 hr, Ru5 hr, Ra6 hr, Ru6 hr, Ra7 hr, Ru7 hr, Ra8 hr, Ru8 hr, ↓Pg0 hq, ↓Pg1 hq, ↓Pg2 hq, ↓Pg3 hq, ↓Pv hq, Pa1 hq, Pu1 hq, Pa2 hq, Pu2 hq, Pa3 hq, Pu3 hq, Pa4 hq, Pu4 hq, jI_lt, hB, hN, hlt, if_false, h0, nneg, Int.toNat_natCast, e6, mo_rm_j, jI_eq]
    by_cases g : (B + d) % c.1 6 = sg
    · have e1 : zAck (c.1 6) sg B (n + 1) d = d := if_pos g
      simp only [e1]
      rw [if_pos g, if_neg (show ¬ d = 0 by omega)]
      exact q
    · have e1 : zAck (c.1 6) sg B (n + 1) d = zAck (c.1 6) sg B n (d + 1) := if_neg g
      simp only [e1]
      rw [if_neg g]
      exact ih (d + 1) f (by omega) (by omega) (by omega)
theorem X8_ans {z r p : Nat} {M : hM} {c : hCf} {s : hS} {t sg : Int} (hr : isR S r) (hq : isP S p) (hd : p + 5 ≤ r ∨ r + 9 ≤ p) (hc : okC c) (ht : 0 ≤ t ∧ t < 200) (hz : zI c t s) (hs : 0 ≤ sg ∧ sg ≤ 7) (hne : c.1 0 ≠ 0) (h : WR M r p c t s) :
    ∃ M', m_X8_answer (hp S z M) (z + r) (jI sg) = some ((), hp S z M') ∧ WR M' r p c t (zAns c t sg s) ∧ Fr r (r + 9) M M' ∧ Vr M M' := by
  have hcs := hc.s
  obtain ⟨h0, hP, h11, hT', hO, hW, hB, hN, hJ, h16⟩ := WR_get h
  obtain ⟨y1, y2, y3⟩ := zI_get hz
  have e0 : gA M (p + 1) (0 : Int).toNat = c.1 0 := hP.s (k := 0) (by omega)
  have e1 : gA M (p + 1) (1 : Int).toNat = c.1 1 := hP.s (k := 1) (by omega)
  obtain ⟨T, O, W, B, N, J, K, C⟩ := s
  simp only at hB hN hJ y1 y2 y3
  unfold zAns m_X8_answer
  simp (disch := omega) only [ji1, ji2, ji3, ji4, ji5, ji6, ji7, ji8, ji9, ji10, ji11, ji12, ji13, ji14, ji15, ji16, ji19, ji20, ji24, ji31, ji32, ji39, ji45, ji48, ji57, ji58, ji59, ji60, ji97, ji100, ji119, ji120, ji122, ji144, ji200, ji226, ji240, ji255, ji300, ji366, ji400, ji500, ji1000, jI_z, ↓jI_m1, jI_add, jI_sub, jI_mul, ↓jm1000, ↓jm100, ↓jm10, ↓jm9, ji50, ji65280, ji1664525, ji252645135, ji858993459, ji1013904223, ji1431655765, ji2147483639, ji2147483647, ↓Rg0 hr, Rw0 hr, ↓Rg1 hr, ↓Rg2 hr, ↓Rg3 hr, ↓Rg4 hr, ↓Rg5 hr, ↓Rg6 hr, ↓Rg7 hr, ↓Rg8 hr, ↓Rg9 hr, Rw9 hr, ↓Rg10 hr, Rw10 hr, ↓Rg11 hr, Rw11 hr, ↓Rg12 hr, Rw12 hr, ↓Rg13 hr, Rw13 hr, ↓Rg14 hr, Rw14 hr, ↓Rg15 hr, Rw15 hr, ↓Rg16 hr, Rw16 hr, ↓Rg17 hr, Rw17 hr, ↓Rv hr, Ra1 hr, Ru1 hr, Ra2 hr, Ru2 hr, Ra3 hr, Ru3 hr, Ra4 hr, Ru4 hr, Ra5 hr, Ru5 hr, Ra6 hr, Ru6 hr, Ra7 hr, Ru7 hr, Ra8 hr, Ru8 hr, ↓Pg0 hq, ↓Pg1 hq, ↓Pg2 hq, ↓Pg3 hq, ↓Pv hq, Pa1 hq, Pu1 hq, Pa2 hq, Pu2 hq, Pa3 hq, Pu3 hq, Pa4 hq, Pu4 hq, h0, nneg, if_false, Int.toNat_natCast, e0, jI_eq]
  by_cases g1 : c.1 0 = 1
  · rw [if_pos g1, if_pos g1]
    simp (disch := omega) only [ji1, ji2, ji3, ji4, ji5, ji6, ji7, ji8, ji9, ji10, ji11, ji12, ji13, ji14, ji15, ji16, ji19, ji20, ji24, ji31, ji32, ji39, ji45, ji48, ji57, ji58, ji59, ji60, ji97, ji100, ji119, ji120, ji122, ji144, ji200, ji226, ji240, ji255, ji300, ji366, ji400, ji500, ji1000, jI_z, ↓jI_m1, jI_add, jI_sub, jI_mul, ↓jm1000, ↓jm100, ↓jm10, ↓jm9, ji50, ji65280, ji1664525, ji252645135, ji858993459, ji1013904223, ji1431655765, ji2147483639, ji2147483647, ↓Rg0 hr, Rw0 hr, ↓Rg1 hr, ↓Rg2 hr, ↓Rg3 hr, ↓Rg4 hr, ↓Rg5 hr, ↓Rg6 hr, ↓Rg7 hr, ↓Rg8 hr, ↓Rg9 hr, Rw9 hr, ↓Rg10 hr, Rw10 hr, ↓Rg11 hr, Rw11 hr, ↓Rg12 hr, Rw12 hr, ↓Rg13 hr, Rw13 hr, ↓Rg14 hr, Rw14 hr, ↓Rg15 hr, Rw15 hr, ↓Rg16 hr, Rw16 hr, ↓Rg17 hr, Rw17 hr, ↓Rv hr, Ra1 hr, Ru1 hr, Ra2 hr, Ru2 hr, Ra3 hr, Ru3 hr, Ra4 hr, Ru4 hr, Ra5 hr, Ru5 hr, Ra6 hr, Ru6 hr, Ra7 hr, Ru7 hr, Ra8 hr, Ru8 hr, ↓Pg0 hq, ↓Pg1 hq, ↓Pg2 hq, ↓Pg3 hq, ↓Pv hq, Pa1 hq, Pu1 hq, Pa2 hq, Pu2 hq, Pa3 hq, Pu3 hq, Pa4 hq, Pu4 hq, h0, nneg, if_false, Int.toNat_natCast, e1, jI_eq, hB, jI_b1]
    by_cases g2 : B = c.1 1
    · rw [if_pos g2, if_neg (fun x => by omega)]
      exact ⟨M, rfl, h, Fr.rfl', Vr.rfl'⟩
    · rw [if_neg g2]
      by_cases g3 : sg = B % 2
      · rw [if_pos g3, if_pos ⟨by omega, g3⟩]
        have f1 : Fr r (r + 9) M (sI (sI M r 13 (B + 1)) r 17 1) := (Fr.sI (by omega)).trans (Fr.sI (by omega))
        refine ⟨sI (sI M r 13 (B + 1)) r 17 1, ?_, ?_, f1, fun _ => rfl⟩
        · simp (disch := omega) only [ji1, ji2, ji3, ji4, ji5, ji6, ji7, ji8, ji9, ji10, ji11, ji12, ji13, ji14, ji15, ji16, ji19, ji20, ji24, ji31, ji32, ji39, ji45, ji48, ji57, ji58, ji59, ji60, ji97, ji100, ji119, ji120, ji122, ji144, ji200, ji226, ji240, ji255, ji300, ji366, ji400, ji500, ji1000, jI_z, ↓jI_m1, jI_add, jI_sub, jI_mul, ↓jm1000, ↓jm100, ↓jm10, ↓jm9, ji50, ji65280, ji1664525, ji252645135, ji858993459, ji1013904223, ji1431655765, ji2147483639, ji2147483647, ↓Rg0 hr, Rw0 hr, ↓Rg1 hr, ↓Rg2 hr, ↓Rg3 hr, ↓Rg4 hr, ↓Rg5 hr, ↓Rg6 hr, ↓Rg7 hr, ↓Rg8 hr, ↓Rg9 hr, Rw9 hr, ↓Rg10 hr, Rw10 hr, ↓Rg11 hr, Rw11 hr, ↓Rg12 hr, Rw12 hr, ↓Rg13 hr, Rw13 hr, ↓Rg14 hr, Rw14 hr, ↓Rg15 hr, Rw15 hr, ↓Rg16 hr, Rw16 hr, ↓Rg17 hr, Rw17 hr, ↓Rv hr, Ra1 hr, Ru1 hr, Ra2 hr, Ru2 hr, Ra3 hr, Ru3 hr, Ra4 hr, Ru4 hr, Ra5 hr, Ru5 hr, Ra6 hr, Ru6 hr, Ra7 hr, Ru7 hr, Ra8 hr, Ru8 hr, mo_z_1]
        · exact WR_w (B := B + 1) (N := N) (J := -1) h f1 hd (fun k a1 a2 a3 a4 => by rw [gI_ne (by omega), gI_ne (by omega)]) (fun _ _ => rfl) (by rw [gI_ne (by omega), gI_eq]) (by rw [gI_ne (by omega), gI_ne (by omega)]; exact hN) ⟨fun _ => ⟨by rw [gI_eq, if_pos rfl], fun x => absurd rfl x⟩, fun x => by omega⟩
      · rw [if_neg g3, if_neg (fun x => g3 x.2)]
        exact ⟨M, rfl, h, Fr.rfl', Vr.rfl'⟩
  · rw [if_neg g1, if_neg g1]
    have hBN := y2.2.2 (by omega)
    have key := X8_a58 (z := z) (M := M) (c := c) (sg := sg) (t := t) hr hq hc h0 hP h11 hB hN (by omega) hs (N - B).toNat 1 hN_f (by omega) (by omega) (by unfold hN_f; omega)
    have hin := zAck_in (m := c.1 6) (sg := sg) (b := B) (N - B).toNat 1
    by_cases g2 : zAck (c.1 6) sg B (N - B).toNat 1 = 0
    · rw [if_pos g2]; rw [if_pos g2] at key
      exact ⟨M, key, h, Fr.rfl', Vr.rfl'⟩
    · rw [if_neg g2]; rw [if_neg g2] at key
      have f1 : Fr r (r + 9) M (sI (sI M r 13 (B + zAck (c.1 6) sg B (N - B).toNat 1)) r 15 t) := (Fr.sI (by omega)).trans (Fr.sI (by omega))
      refine ⟨_, key, ?_, f1, fun _ => rfl⟩
      exact WR_w (B := B + zAck (c.1 6) sg B (N - B).toNat 1) (N := N) (J := t) h f1 hd (fun k a1 a2 a3 a4 => by rw [gI_ne (by omega), gI_ne (by omega)]) (fun _ _ => rfl) (by rw [gI_ne (by omega), gI_eq]) (by rw [gI_ne (by omega), gI_ne (by omega)]; exact hN) ⟨fun x => absurd x g1, fun _ _ => by rw [gI_eq]⟩
theorem zSend_2 {c : hCf} {t kd w : Int} {s : hS} : (zSend c t kd w s).2 = s.2 := by unfold zSend; split <;> rfl
theorem X8_w48 {z r p : Nat} {M : hM} {c : hCf} {s : hS} {t : Int} (hr : isR S r) (hq : isP S p) (hd : p + 5 ≤ r ∨ r + 9 ≤ p) (hc : okC c) (ht : 0 ≤ t ∧ t < 200) (hz : zI c t s) (h2 : c.1 0 = 2) (h : WR M r p c t s) :
    ∃ M', m_X8_window_j48 (z + r) (hp S z M) = some ((), hp S z M') ∧ WR M' r p c t (zWin c t s) ∧ Fr r (r + 9) M M' ∧ Vr M M' := by
  have hcs := hc.s
  obtain ⟨h0, hP, h11, hT', hO, hW, hB, hN, hJ, h16⟩ := WR_get h
  obtain ⟨y1, y2, y3⟩ := zI_get hz
  have hT120 : s.1.length ≤ 120 := by obtain ⟨T, O, W, B, N, J, K, C⟩ := s; exact hz.1
  have e1 : gA M (p + 1) (1 : Int).toNat = c.1 1 := hP.s (k := 1) (by omega)
  have e5 : gA M (p + 1) (5 : Int).toNat = c.1 5 := hP.s (k := 5) (by omega)
  unfold zWin m_X8_window_j48
  simp (disch := omega) only [ji1, ji2, ji3, ji4, ji5, ji6, ji7, ji8, ji9, ji10, ji11, ji12, ji13, ji14, ji15, ji16, ji19, ji20, ji24, ji31, ji32, ji39, ji45, ji48, ji57, ji58, ji59, ji60, ji97, ji100, ji119, ji120, ji122, ji144, ji200, ji226, ji240, ji255, ji300, ji366, ji400, ji500, ji1000, jI_z, ↓jI_m1, jI_add, jI_sub, jI_mul, ↓jm1000, ↓jm100, ↓jm10, ↓jm9, ji50, ji65280, ji1664525, ji252645135, ji858993459, ji1013904223, ji1431655765, ji2147483639, ji2147483647, ↓Rg0 hr, Rw0 hr, ↓Rg1 hr, ↓Rg2 hr, ↓Rg3 hr, ↓Rg4 hr, ↓Rg5 hr, ↓Rg6 hr, ↓Rg7 hr, ↓Rg8 hr, ↓Rg9 hr, Rw9 hr, ↓Rg10 hr, Rw10 hr, ↓Rg11 hr, Rw11 hr, ↓Rg12 hr, Rw12 hr, ↓Rg13 hr, Rw13 hr, ↓Rg14 hr, Rw14 hr, ↓Rg15 hr, Rw15 hr, ↓Rg16 hr, Rw16 hr, ↓Rg17 hr, Rw17 hr, ↓Rv hr, Ra1 hr, Ru1 hr, Ra2 hr, Ru2 hr, Ra3 hr, Ru3 hr, Ra4 hr, Ru4 hr, Ra5 hr, Ru5 hr, Ra6 hr, Ru6 hr, Ra7 hr, Ru7 hr, Ra8 hr, Ru8 hr, ↓Pg0 hq, ↓Pg1 hq, ↓Pg2 hq, ↓Pg3 hq, ↓Pv hq, Pa1 hq, Pu1 hq, Pa2 hq, Pu2 hq, Pa3 hq, Pu3 hq, Pa4 hq, Pu4 hq, h0, nneg, if_false, Int.toNat_natCast, e1, e5, jI_lt, hB, hN]
  by_cases g1 : s.2.2.2.2.1 < s.2.2.2.1 + c.1 5
  · rw [if_pos g1]
    by_cases g2 : s.2.2.2.2.1 < c.1 1
    · rw [if_pos g2, if_pos ⟨g1, g2⟩]
      obtain ⟨M1, a1, a2, a3, a4⟩ := X8_send (z := z) (kd := 0) (w := s.2.2.2.2.1) hr hq hd hc ht hT120 h
      have hs2 := zSend_2 (c := c) (t := t) (kd := 0) (w := s.2.2.2.2.1) (s := s)
      obtain ⟨b0, bP, b11, bT, bO, bW, bB, bN, bJ, b16⟩ := WR_get a2
      rw [hs2] at bB bN bJ
      have bJ2 := hJ.2 h2
      generalize zSend c t 0 s.2.2.2.2.1 s = q at a2 hs2
      generalize hM2 : (if s.2.2.2.2.1 = s.2.2.2.1 then sI M1 r 15 t else M1) = M2
      have f2 : Fr r (r + 9) M1 M2 := by rw [← hM2]; split; exact Fr.sI (by omega); exact Fr.rfl'
      have v2 : Vr M1 M2 := by rw [← hM2]; split <;> exact fun _ => rfl
      have i2 : ∀ k, k ≠ 15 → gI M2 r k = gI M1 r k := fun k hk => by rw [← hM2]; split; rw [gI_ne (by omega)]; rfl
      have a2' : ∀ b k, gA M2 b k = gA M1 b k := fun b k => by rw [← hM2]; split <;> rfl
      have f3 : Fr r (r + 9) M1 (sI M2 r 14 (s.2.2.2.2.1 + 1)) := f2.trans (Fr.sI (by omega))
      refine ⟨sI M2 r 14 (s.2.2.2.2.1 + 1), ?_, ?_, a3.trans f3, (a4.trans v2).trans (fun _ => rfl)⟩
      · simp (disch := omega) only [↓Rg0 hr, Rw0 hr, ↓Rg1 hr, ↓Rg2 hr, ↓Rg3 hr, ↓Rg4 hr, ↓Rg5 hr, ↓Rg6 hr, ↓Rg7 hr, ↓Rg8 hr, ↓Rg9 hr, Rw9 hr, ↓Rg10 hr, Rw10 hr, ↓Rg11 hr, Rw11 hr, ↓Rg12 hr, Rw12 hr, ↓Rg13 hr, Rw13 hr, ↓Rg14 hr, Rw14 hr, ↓Rg15 hr, Rw15 hr, ↓Rg16 hr, Rw16 hr, ↓Rg17 hr, Rw17 hr, ↓Rv hr, Ra1 hr, Ru1 hr, Ra2 hr, Ru2 hr, Ra3 hr, Ru3 hr, Ra4 hr, Ru4 hr, Ra5 hr, Ru5 hr, Ra6 hr, Ru6 hr, Ra7 hr, Ru7 hr, Ra8 hr, Ru8 hr, hN, a1, ↓mo_cs_s, bB, bN, jI_eq]
        by_cases g3 : s.2.2.2.2.1 = s.2.2.2.1
        · rw [if_pos g3] at hM2 ⊢
          simp (disch := omega) only [ji1, ji2, ji3, ji4, ji5, ji6, ji7, ji8, ji9, ji10, ji11, ji12, ji13, ji14, ji15, ji16, ji19, ji20, ji24, ji31, ji32, ji39, ji45, ji48, ji57, ji58, ji59, ji60, ji97, ji100, ji119, ji120, ji122, ji144, ji200, ji226, ji240, ji255, ji300, ji366, ji400, ji500, ji1000, jI_z, ↓jI_m1, jI_add, jI_sub, jI_mul, ↓jm1000, ↓jm100, ↓jm10, ↓jm9, ji50, ji65280, ji1664525, ji252645135, ji858993459, ji1013904223, ji1431655765, ji2147483639, ji2147483647, ↓Rg0 hr, Rw0 hr, ↓Rg1 hr, ↓Rg2 hr, ↓Rg3 hr, ↓Rg4 hr, ↓Rg5 hr, ↓Rg6 hr, ↓Rg7 hr, ↓Rg8 hr, ↓Rg9 hr, Rw9 hr, ↓Rg10 hr, Rw10 hr, ↓Rg11 hr, Rw11 hr, ↓Rg12 hr, Rw12 hr, ↓Rg13 hr, Rw13 hr, ↓Rg14 hr, Rw14 hr, ↓Rg15 hr, Rw15 hr, ↓Rg16 hr, Rw16 hr, ↓Rg17 hr, Rw17 hr, ↓Rv hr, Ra1 hr, Ru1 hr, Ra2 hr, Ru2 hr, Ra3 hr, Ru3 hr, Ra4 hr, Ru4 hr, Ra5 hr, Ru5 hr, Ra6 hr, Ru6 hr, Ra7 hr, Ru7 hr, Ra8 hr, Ru8 hr, gI_sA, gA_sI, gI_eq, gI_ne, gA_eq, gA_ne, nneg, if_false, if_true, Int.toNat_natCast, b11, bN, hM2]
          rw [← hM2, gI_ne (by omega), bN]
        · rw [if_neg g3] at hM2 ⊢
          simp (disch := omega) only [ji1, ji2, ji3, ji4, ji5, ji6, ji7, ji8, ji9, ji10, ji11, ji12, ji13, ji14, ji15, ji16, ji19, ji20, ji24, ji31, ji32, ji39, ji45, ji48, ji57, ji58, ji59, ji60, ji97, ji100, ji119, ji120, ji122, ji144, ji200, ji226, ji240, ji255, ji300, ji366, ji400, ji500, ji1000, jI_z, ↓jI_m1, jI_add, jI_sub, jI_mul, ↓jm1000, ↓jm100, ↓jm10, ↓jm9, ji50, ji65280, ji1664525, ji252645135, ji858993459, ji1013904223, ji1431655765, ji2147483639, ji2147483647, ↓Rg0 hr, Rw0 hr, ↓Rg1 hr, ↓Rg2 hr, ↓Rg3 hr, ↓Rg4 hr, ↓Rg5 hr, ↓Rg6 hr, ↓Rg7 hr, ↓Rg8 hr, ↓Rg9 hr, Rw9 hr, ↓Rg10 hr, Rw10 hr, ↓Rg11 hr, Rw11 hr, ↓Rg12 hr, Rw12 hr, ↓Rg13 hr, Rw13 hr, ↓Rg14 hr, Rw14 hr, ↓Rg15 hr, Rw15 hr, ↓Rg16 hr, Rw16 hr, ↓Rg17 hr, Rw17 hr, ↓Rv hr, Ra1 hr, Ru1 hr, Ra2 hr, Ru2 hr, Ra3 hr, Ru3 hr, Ra4 hr, Ru4 hr, Ra5 hr, Ru5 hr, Ra6 hr, Ru6 hr, Ra7 hr, Ru7 hr, Ra8 hr, Ru8 hr, gI_sA, gA_sI, gI_eq, gI_ne, gA_eq, gA_ne, nneg, if_false, if_true, Int.toNat_natCast, bN, hM2]
      · have w := WR_w (B := s.2.2.2.1) (N := s.2.2.2.2.1 + 1) (J := if s.2.2.2.1 = s.2.2.2.2.1 then t else s.2.2.2.2.2.1) a2 f3 hd (fun k a1 a2 a3 a4 => by rw [gI_ne (by omega), i2 k a3]) (fun b k => a2' b k) (by rw [gI_ne (by omega), i2 13 (by omega)]; exact bB) gI_eq
          ⟨fun x => by omega, fun _ _ => by
            rw [gI_ne (by omega), ← hM2]
            by_cases g3 : s.2.2.2.1 = s.2.2.2.2.1
            · rw [if_pos g3.symm, if_pos g3, gI_eq]
            · rw [if_neg (fun x => g3 x.symm), if_neg g3]; exact bJ.2 h2 (by omega)⟩
        have e : zNx t q = (q.1, q.2.1, q.2.2.1, s.2.2.2.1, s.2.2.2.2.1 + 1, (if s.2.2.2.1 = s.2.2.2.2.1 then t else s.2.2.2.2.2.1), sK q, q.2.2.2.2.2.2.2) := by
          obtain ⟨T, O, W, B, N, J, K, C⟩ := s
          obtain ⟨T', O', W', B', N', J', K', C'⟩ := q
          simp only [Prod.mk.injEq] at hs2
          obtain ⟨x1, x2, x3, x4, x5, x6, x7⟩ := hs2
          subst x1 x2 x3 x4 x5 x6 x7
          rfl
        rw [e]; exact w
    · rw [if_neg g2, if_neg (fun x => g2 x.2)]
      exact ⟨M, rfl, h, Fr.rfl', Vr.rfl'⟩
  · rw [if_neg g1, if_neg (fun x => g1 x.1)]
    exact ⟨M, rfl, h, Fr.rfl', Vr.rfl'⟩
theorem X8_win {z r p : Nat} {M : hM} {c : hCf} {s : hS} {t : Int} (hr : isR S r) (hq : isP S p) (hd : p + 5 ≤ r ∨ r + 9 ≤ p) (hc : okC c) (ht : 0 ≤ t ∧ t < 200) (hz : zI c t s) (h2 : c.1 0 = 2) (h : WR M r p c t s) :
    ∃ M', m_X8_window (hp S z M) (z + r) = some ((), hp S z M') ∧ WR M' r p c t (zWin c t (zTim c t s)) ∧ Fr r (r + 9) M M' ∧ Vr M M' := by
  have hcs := hc.s
  obtain ⟨h0, hP, h11, hT', hO, hW, hB, hN, hJ, h16⟩ := WR_get h
  obtain ⟨y1, y2, y3⟩ := zI_get hz
  have hzT := zTim_I hz ht.1
  have e4 : gA M (p + 1) (4 : Int).toNat = c.1 4 := hP.s (k := 4) (by omega)
  unfold m_X8_window
  simp (disch := omega) only [ji1, ji2, ji3, ji4, ji5, ji6, ji7, ji8, ji9, ji10, ji11, ji12, ji13, ji14, ji15, ji16, ji19, ji20, ji24, ji31, ji32, ji39, ji45, ji48, ji57, ji58, ji59, ji60, ji97, ji100, ji119, ji120, ji122, ji144, ji200, ji226, ji240, ji255, ji300, ji366, ji400, ji500, ji1000, jI_z, ↓jI_m1, jI_add, jI_sub, jI_mul, ↓jm1000, ↓jm100, ↓jm10, ↓jm9, ji50, ji65280, ji1664525, ji252645135, ji858993459, ji1013904223, ji1431655765, ji2147483639, ji2147483647, ↓Rg0 hr, Rw0 hr, ↓Rg1 hr, ↓Rg2 hr, ↓Rg3 hr, ↓Rg4 hr, ↓Rg5 hr, ↓Rg6 hr, ↓Rg7 hr, ↓Rg8 hr, ↓Rg9 hr, Rw9 hr, ↓Rg10 hr, Rw10 hr, ↓Rg11 hr, Rw11 hr, ↓Rg12 hr, Rw12 hr, ↓Rg13 hr, Rw13 hr, ↓Rg14 hr, Rw14 hr, ↓Rg15 hr, Rw15 hr, ↓Rg16 hr, Rw16 hr, ↓Rg17 hr, Rw17 hr, ↓Rv hr, Ra1 hr, Ru1 hr, Ra2 hr, Ru2 hr, Ra3 hr, Ru3 hr, Ra4 hr, Ru4 hr, Ra5 hr, Ru5 hr, Ra6 hr, Ru6 hr, Ra7 hr, Ru7 hr, Ra8 hr, Ru8 hr, hB, hN, jI_lt]
  obtain ⟨T, O, W, B, N, J, K, C⟩ := s
  simp only at hB hN hJ y1 y2 y3 ⊢
  by_cases g1 : B < N
  · rw [if_pos g1]
    have e15 := hJ.2 h2 g1
    simp (disch := omega) only [ji1, ji2, ji3, ji4, ji5, ji6, ji7, ji8, ji9, ji10, ji11, ji12, ji13, ji14, ji15, ji16, ji19, ji20, ji24, ji31, ji32, ji39, ji45, ji48, ji57, ji58, ji59, ji60, ji97, ji100, ji119, ji120, ji122, ji144, ji200, ji226, ji240, ji255, ji300, ji366, ji400, ji500, ji1000, jI_z, ↓jI_m1, jI_add, jI_sub, jI_mul, ↓jm1000, ↓jm100, ↓jm10, ↓jm9, ji50, ji65280, ji1664525, ji252645135, ji858993459, ji1013904223, ji1431655765, ji2147483639, ji2147483647, ↓Rg0 hr, Rw0 hr, ↓Rg1 hr, ↓Rg2 hr, ↓Rg3 hr, ↓Rg4 hr, ↓Rg5 hr, ↓Rg6 hr, ↓Rg7 hr, ↓Rg8 hr, ↓Rg9 hr, Rw9 hr, ↓Rg10 hr, Rw10 hr, ↓Rg11 hr, Rw11 hr, ↓Rg12 hr, Rw12 hr, ↓Rg13 hr, Rw13 hr, ↓Rg14 hr, Rw14 hr, ↓Rg15 hr, Rw15 hr, ↓Rg16 hr, Rw16 hr, ↓Rg17 hr, Rw17 hr, ↓Rv hr, Ra1 hr, Ru1 hr, Ra2 hr, Ru2 hr, Ra3 hr, Ru3 hr, Ra4 hr, Ru4 hr, Ra5 hr, Ru5 hr, Ra6 hr, Ru6 hr, Ra7 hr, Ru7 hr, Ra8 hr, Ru8 hr, ↓Pg0 hq, ↓Pg1 hq, ↓Pg2 hq, ↓Pg3 hq, ↓Pv hq, Pa1 hq, Pu1 hq, Pa2 hq, Pu2 hq, Pa3 hq, Pu3 hq, Pa4 hq, Pu4 hq, h0, nneg, if_false, Int.toNat_natCast, e4, h11, e15, jI_lt]
    by_cases g2 : t - J < c.1 4
    · rw [if_pos g2]
      have e : zTim c t (T, O, W, B, N, J, K, C) = (T, O, W, B, N, J, K, C) := if_neg (by omega)
      rw [e]
      exact X8_w48 hr hq hd hc ht hz h2 h
    · rw [if_neg g2]
      have e : zTim c t (T, O, W, B, N, J, K, C) = (T, O, W, B, B, t, K, C) := if_pos (by omega)
      rw [e] at hzT ⊢
      have f1 : Fr r (r + 9) M (sI (sI M r 15 t) r 14 B) := (Fr.sI (by omega)).trans (Fr.sI (by omega))
      have w := WR_w (B := B) (N := B) (J := t) h f1 hd (fun k a1 a2 a3 a4 => by rw [gI_ne (by omega), gI_ne (by omega)]) (fun _ _ => rfl) (by rw [gI_ne (by omega), gI_ne (by omega)]; exact hB) gI_eq ⟨fun x => by omega, fun _ x => by omega⟩
      obtain ⟨M', k1, k2, k3, k4⟩ := X8_w48 (z := z) hr hq hd hc ht hzT h2 w
      refine ⟨M', ?_, k2, f1.trans k3, fun k => k4 k⟩
      simp (disch := omega) only [ji1, ji2, ji3, ji4, ji5, ji6, ji7, ji8, ji9, ji10, ji11, ji12, ji13, ji14, ji15, ji16, ji19, ji20, ji24, ji31, ji32, ji39, ji45, ji48, ji57, ji58, ji59, ji60, ji97, ji100, ji119, ji120, ji122, ji144, ji200, ji226, ji240, ji255, ji300, ji366, ji400, ji500, ji1000, jI_z, ↓jI_m1, jI_add, jI_sub, jI_mul, ↓jm1000, ↓jm100, ↓jm10, ↓jm9, ji50, ji65280, ji1664525, ji252645135, ji858993459, ji1013904223, ji1431655765, ji2147483639, ji2147483647, ↓Rg0 hr, Rw0 hr, ↓Rg1 hr, ↓Rg2 hr, ↓Rg3 hr, ↓Rg4 hr, ↓Rg5 hr, ↓Rg6 hr, ↓Rg7 hr, ↓Rg8 hr, ↓Rg9 hr, Rw9 hr, ↓Rg10 hr, Rw10 hr, ↓Rg11 hr, Rw11 hr, ↓Rg12 hr, Rw12 hr, ↓Rg13 hr, Rw13 hr, ↓Rg14 hr, Rw14 hr, ↓Rg15 hr, Rw15 hr, ↓Rg16 hr, Rw16 hr, ↓Rg17 hr, Rw17 hr, ↓Rv hr, Ra1 hr, Ru1 hr, Ra2 hr, Ru2 hr, Ra3 hr, Ru3 hr, Ra4 hr, Ru4 hr, Ra5 hr, Ru5 hr, Ra6 hr, Ru6 hr, Ra7 hr, Ru7 hr, Ra8 hr, Ru8 hr, gI_sA, gA_sI, gI_eq, gI_ne, gA_eq, gA_ne, nneg, if_false, if_true, Int.toNat_natCast, hB]
      exact k1
  · rw [if_neg g1]
    have e : zTim c t (T, O, W, B, N, J, K, C) = (T, O, W, B, N, J, K, C) := if_neg (fun x => g1 x.1)
    rw [e]
    exact X8_w48 hr hq hd hc ht hz h2 h

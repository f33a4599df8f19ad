variable {S : hSh}
/-! .. the loop of ticks. -/
theorem X4_end {z b : Nat} {M : hM} {c : hCf} {s : hS} {t : Int} {j : Nat} (hb : b = 1 ∨ b = 8) (hc : okC c) (h : CR M c b t j s) (hz : zI c t s) (ht : t ≤ 200) :
    (mo_gr (hp S z M) (z + 15) 4 1 fun x7 => mo_cv (hp S z M) (z + b) 0 (m_X0_setting (hp S z M) (z + b) (jI 7)) fun x9 σ8 => mo_cv σ8 x7 1 (m_X1_broken σ8 x7 x9) fun x11 σ10 => some (x11, σ10)) = some (jI (zBits c s : Nat), hp S z M) := by
  have hB' := is18 hb
  obtain ⟨g0, gB, gN, gT, gL, gD, gW⟩ := CR_get h
  have hset := X0_setting (S := S) (z := z) (M := M) (k := 7) hB' (by omega) (by omega)
  have h7 : gA M (b + 1) (7 : Int).toNat = c.1 7 := g0.2.1.1 7 (by omega)
  rw [h7] at hset
  have hbr := X1_broken (S := S) (z := z) hc gD (by obtain ⟨T, O, W, B, N, J, K, C⟩ := s; obtain ⟨z1, z2, z3, z4, z5, z6, z7, z8, z9⟩ := hz; exact ⟨z8.1, by simp only; omega⟩)
  simp (disch := omega) only [↓hg15_0, ↓hg15_1, ↓hg15_2, ↓hg15_3, hw15_3, ↓hg15_4, hw15_4, ↓hg15_5, hw15_5, ↓hg15_6, hw15_6, ↓hg15_7, hw15_7, ↓hg15_8, hw15_8, ↓hg15_9, hw15_9, ↓hg15_10, hw15_10, ↓hg15_11, hw15_11, ↓hg15_12, hw15_12, ↓hg15_13, hw15_13, ↓hg15_14, hw15_14, ↓hv15, ↓hx15, ha29, hu29, ↓hl29, ↓Bg0 hB', ↓Bg1 hB', ↓Bg2 hB', ↓Bg3 hB', ↓Bg5 hB', ↓Bg4 hB', Bw4 hB', ↓Bv hB', Ba1 hB', Bu1 hB', Ba2 hB', Bu2 hB', Ba3 hB', Bu3 hB', Ba4 hB', Bu4 hB']
  rw [hset]
  simp (disch := omega) only [↓mo_ns_r, ↓hn0, ↓mo_cs_s, ↓mo_xs_r, ↓mo_xs_l, ↓mo_nl_s, mo_z_0, mo_z_1, ↓hg26_0, ↓hg26_1, hw26_1, ↓hg26_2, hw26_2, ↓hg26_3, hw26_3, ↓hg26_4, hw26_4, ↓hg26_5, hw26_5, ↓hg26_6, hw26_6, ↓hg26_7, hw26_7, ↓hv26, ↓hx26, ha27, hu27, ↓hl27]
  rw [hbr]; rfl
theorem X4_play_l {z b : Nat} {c : hCf} (hb : b = 1 ∨ b = 8) (hc : okC c) : ∀ (n : Nat) (t : Int) (s : hS) (M : hM) (f : Nat), t + n = c.1 2 → 0 ≤ t → zJ c t 0 s → CR M c b t 0 s → gI M 15 14 = t → n < f →
    ∃ M', m_X4_play_l13 (z + 15) (z + b) f (hp S z M) (jI (c.1 2)) (jI t) = some (jI (zBits c (zRun c n t s).2 : Nat), hp S z M') ∧ PR M' c (zRun c n t s) ∧ Fr 15 30 M M' ∧ Vr M M' := by
  have hB' := is18 hb
  have hcs := hc.s
  intro n
  induction n with
  | zero =>
    intro t s M f ht h0 hz h h14 hf
    obtain ⟨f, rfl⟩ : ∃ k, f = k + 1 := ⟨f - 1, by omega⟩
    obtain ⟨g0, gB, gN, gT, gL, gD, gW⟩ := CR_get h
    refine ⟨M, ?_, ⟨h14, gL.1, gD, gW⟩, Fr.rfl', Vr.rfl'⟩
    unfold m_X4_play_l13
    rw [if_neg (by rw [jI_lt (by omega) (by omega) (by omega) (by omega)]; omega)]
    exact X4_end hb hc h hz.1 (by omega)
  | succ n ih =>
    intro t s M f ht h0 hz h h14 hf
    obtain ⟨f, rfl⟩ : ∃ k, f = k + 1 := ⟨f - 1, by omega⟩
    obtain ⟨M1, M2, M3, r1, ⟨M9, it, r2, r2'⟩, ⟨B, O, q1, q2, q3, q4⟩, r4, r5, r6, r7⟩ := X4_tick (S := S) (z := z) hb hc ⟨h0, by omega⟩ hz h h14
    have hz1 := zJ_tick hc hz h0
    obtain ⟨g0, gB, gN, gT, gL, gD, gW⟩ := CR_get r5
    have y1 := (zI_get hz1.1).1
    have hpn : pnd (t + 1) 0 (zTick c t s).1 ≤ 240 := by
      have h1 := cnt_le (f := pd2 (t + 1) 0) (d := 2) (fun k x => by unfold pd2 pd1; split <;> split <;> omega) (zTick c t s).1 0
      have h2 : (zTick c t s).1.length ≤ 120 := by
        have := hz1.1
        generalize zTick c t s = q at this
        obtain ⟨T, O, W, B, N, J, K, C⟩ := q
        exact this.1
      unfold pnd; omega
    have hmin : (if jI 15 < jI (O : Int) then jI 15 else jI (O : Int)) = jI ((min 15 O : Nat) : Int) := by
      by_cases g : (15 : Int) < O
      · rw [if_pos (by rw [jI_lt (by omega) (by omega) (by omega) (by omega)]; exact g)]; congr 1; omega
      · rw [if_neg (by rw [jI_lt (by omega) (by omega) (by omega) (by omega)]; exact g)]; congr 1; omega
    have hlt : t < c.1 2 := by omega
    have hov := zOver_pnd (c := c) (s := zTick c t s) h0
    have pre : ∀ r, (if jI ((zTick c t s).2.2.2.1) < jI (c.1 1) then m_X4_play_l13 (z + 15) (z + b) f (hp S z (sI M3 15 14 (t + 1))) (jI (c.1 2)) (jI (t + 1)) else
        (mo_gr (hp S z (sI M3 15 14 (t + 1))) (z + 15) 4 0 fun x24 => mo_cv (hp S z (sI M3 15 14 (t + 1))) x24 2 (m_X2_isEmpty (hp S z (sI M3 15 14 (t + 1))) x24) fun x26 σ25 =>
        if x26 = jI 0 then m_X4_play_l13 (z + 15) (z + b) f σ25 (jI (c.1 2)) (jI (t + 1)) else
        (mo_gr σ25 (z + 15) 4 1 fun x27 => mo_cv σ25 (z + b) 0 (m_X0_setting σ25 (z + b) (jI 7)) fun x29 σ28 => mo_cv σ28 x27 1 (m_X1_broken σ28 x27 x29) fun x31 σ30 => some (x31, σ30)))) = r →
        m_X4_play_l13 (z + 15) (z + b) (f + 1) (hp S z M) (jI (c.1 2)) (jI t) = r := by
      intro r hr
      rw [← hr]
      conv => lhs; unfold m_X4_play_l13
      rw [if_pos (by rw [jI_lt (by omega) (by omega) (by omega) (by omega)]; exact hlt)]
      simp (disch := omega) only [ji1, ji2, ji3, ji4, ji5, ji6, ji7, ji8, ji9, ji10, ji11, ji12, ji13, ji14, ji15, ji16, ji19, ji20, ji24, ji31, ji32, ji39, ji45, ji48, ji57, ji58, ji59, ji60, ji97, ji100, ji119, ji120, ji122, ji144, ji200, ji226, ji240, ji255, ji300, ji366, ji400, ji500, ji1000, jI_z, ↓jI_m1, jI_add, jI_sub, jI_mul, ↓hg15_0, ↓hg15_1, ↓hg15_2, ↓hg15_3, hw15_3, ↓hg15_4, hw15_4, ↓hg15_5, hw15_5, ↓hg15_6, hw15_6, ↓hg15_7, hw15_7, ↓hg15_8, hw15_8, ↓hg15_9, hw15_9, ↓hg15_10, hw15_10, ↓hg15_11, hw15_11, ↓hg15_12, hw15_12, ↓hg15_13, hw15_13, ↓hg15_14, hw15_14, ↓hv15, ↓hx15, ha29, hu29, ↓hl29]
      rw [r1]
      simp (disch := omega) only [ji1, ji2, ji3, ji4, ji5, ji6, ji7, ji8, ji9, ji10, ji11, ji12, ji13, ji14, ji15, ji16, ji19, ji20, ji24, ji31, ji32, ji39, ji45, ji48, ji57, ji58, ji59, ji60, ji97, ji100, ji119, ji120, ji122, ji144, ji200, ji226, ji240, ji255, ji300, ji366, ji400, ji500, ji1000, jI_z, ↓jI_m1, jI_add, jI_sub, jI_mul, ↓mo_ns_r, ↓hn0, ↓mo_cs_s, ↓mo_xs_r, ↓mo_xs_l, ↓mo_nl_s, mo_z_0, mo_z_1, ↓hg15_0, ↓hg15_1, ↓hg15_2, ↓hg15_3, hw15_3, ↓hg15_4, hw15_4, ↓hg15_5, hw15_5, ↓hg15_6, hw15_6, ↓hg15_7, hw15_7, ↓hg15_8, hw15_8, ↓hg15_9, hw15_9, ↓hg15_10, hw15_10, ↓hg15_11, hw15_11, ↓hg15_12, hw15_12, ↓hg15_13, hw15_13, ↓hg15_14, hw15_14, ↓hv15, ↓hx15, ha29, hu29, ↓hl29]
      rw [r2]
      have j51 : ∀ K13, m_X4_play_j51 K13 (z + 15) (z + b) (hp S z M2) (jI (c.1 2)) (jI t) = (if jI ((zTick c t s).2.2.2.1) < jI (c.1 1) then K13 (hp S z (sI M3 15 14 (t + 1))) (jI (c.1 2)) (jI (t + 1)) else
        (mo_gr (hp S z (sI M3 15 14 (t + 1))) (z + 15) 4 0 fun x24 => mo_cv (hp S z (sI M3 15 14 (t + 1))) x24 2 (m_X2_isEmpty (hp S z (sI M3 15 14 (t + 1))) x24) fun x26 σ25 =>
        if x26 = jI 0 then K13 σ25 (jI (c.1 2)) (jI (t + 1)) else
        (mo_gr σ25 (z + 15) 4 1 fun x27 => mo_cv σ25 (z + b) 0 (m_X0_setting σ25 (z + b) (jI 7)) fun x29 σ28 => mo_cv σ28 x27 1 (m_X1_broken σ28 x27 x29) fun x31 σ30 => some (x31, σ30)))) := by
        intro K13
        unfold m_X4_play_j51
        simp (disch := omega) only [ji1, ji2, ji3, ji4, ji5, ji6, ji7, ji8, ji9, ji10, ji11, ji12, ji13, ji14, ji15, ji16, ji19, ji20, ji24, ji31, ji32, ji39, ji45, ji48, ji57, ji58, ji59, ji60, ji97, ji100, ji119, ji120, ji122, ji144, ji200, ji226, ji240, ji255, ji300, ji366, ji400, ji500, ji1000, jI_z, ↓jI_m1, jI_add, jI_sub, jI_mul, ↓mo_ns_r, ↓hn0, ↓mo_cs_s, ↓mo_xs_r, ↓mo_xs_l, ↓mo_nl_s, mo_z_0, mo_z_1, ↓hg15_0, ↓hg15_1, ↓hg15_2, ↓hg15_3, hw15_3, ↓hg15_4, hw15_4, ↓hg15_5, hw15_5, ↓hg15_6, hw15_6, ↓hg15_7, hw15_7, ↓hg15_8, hw15_8, ↓hg15_9, hw15_9, ↓hg15_10, hw15_10, ↓hg15_11, hw15_11, ↓hg15_12, hw15_12, ↓hg15_13, hw15_13, ↓hg15_14, hw15_14, ↓hv15, ↓hx15, ha29, hu29, ↓hl29, ↓hg26_0, ↓hg26_1, hw26_1, ↓hg26_2, hw26_2, ↓hg26_3, hw26_3, ↓hg26_4, hw26_4, ↓hg26_5, hw26_5, ↓hg26_6, hw26_6, ↓hg26_7, hw26_7, ↓hv26, ↓hx26, ha27, hu27, ↓hl27, ↓Sv (b := 28) rfl]
        unfold m_X1_howMany
        simp (disch := omega) only [ji1, ji2, ji3, ji4, ji5, ji6, ji7, ji8, ji9, ji10, ji11, ji12, ji13, ji14, ji15, ji16, ji19, ji20, ji24, ji31, ji32, ji39, ji45, ji48, ji57, ji58, ji59, ji60, ji97, ji100, ji119, ji120, ji122, ji144, ji200, ji226, ji240, ji255, ji300, ji366, ji400, ji500, ji1000, jI_z, ↓jI_m1, jI_add, jI_sub, jI_mul, ↓mo_ns_r, ↓hn0, ↓mo_cs_s, ↓mo_xs_r, ↓mo_xs_l, ↓mo_nl_s, mo_z_0, mo_z_1, ↓hg15_0, ↓hg15_1, ↓hg15_2, ↓hg15_3, hw15_3, ↓hg15_4, hw15_4, ↓hg15_5, hw15_5, ↓hg15_6, hw15_6, ↓hg15_7, hw15_7, ↓hg15_8, hw15_8, ↓hg15_9, hw15_9, ↓hg15_10, hw15_10, ↓hg15_11, hw15_11, ↓hg15_12, hw15_12, ↓hg15_13, hw15_13, ↓hg15_14, hw15_14, ↓hv15, ↓hx15, ha29, hu29, ↓hl29, ↓hg26_0, ↓hg26_1, hw26_1, ↓hg26_2, hw26_2, ↓hg26_3, hw26_3, ↓hg26_4, hw26_4, ↓hg26_5, hw26_5, ↓hg26_6, hw26_6, ↓hg26_7, hw26_7, ↓hv26, ↓hx26, ha27, hu27, ↓hl27, ↓Sv (b := 28) rfl, q1, q2, hmin]
        rw [q4]
        simp (disch := omega) only [ji1, ji2, ji3, ji4, ji5, ji6, ji7, ji8, ji9, ji10, ji11, ji12, ji13, ji14, ji15, ji16, ji19, ji20, ji24, ji31, ji32, ji39, ji45, ji48, ji57, ji58, ji59, ji60, ji97, ji100, ji119, ji120, ji122, ji144, ji200, ji226, ji240, ji255, ji300, ji366, ji400, ji500, ji1000, jI_z, ↓jI_m1, jI_add, jI_sub, jI_mul, ↓mo_ns_r, ↓hn0, ↓mo_cs_s, ↓mo_xs_r, ↓mo_xs_l, ↓mo_nl_s, mo_z_0, mo_z_1, ↓hg15_0, ↓hg15_1, ↓hg15_2, ↓hg15_3, hw15_3, ↓hg15_4, hw15_4, ↓hg15_5, hw15_5, ↓hg15_6, hw15_6, ↓hg15_7, hw15_7, ↓hg15_8, hw15_8, ↓hg15_9, hw15_9, ↓hg15_10, hw15_10, ↓hg15_11, hw15_11, ↓hg15_12, hw15_12, ↓hg15_13, hw15_13, ↓hg15_14, hw15_14, ↓hv15, ↓hx15, ha29, hu29, ↓hl29, r4, gB, g0.2.2.2.1]
      rcases r2' with ⟨e1, e2⟩ | ⟨e1, e2, e3⟩
      · subst e1 e2
        simp (disch := omega) only [ji1, ji2, ji3, ji4, ji5, ji6, ji7, ji8, ji9, ji10, ji11, ji12, ji13, ji14, ji15, ji16, ji19, ji20, ji24, ji31, ji32, ji39, ji45, ji48, ji57, ji58, ji59, ji60, ji97, ji100, ji119, ji120, ji122, ji144, ji200, ji226, ji240, ji255, ji300, ji366, ji400, ji500, ji1000, jI_z, ↓jI_m1, jI_add, jI_sub, jI_mul, ↓mo_ns_r, ↓hn0, ↓mo_cs_s, ↓mo_xs_r, ↓mo_xs_l, ↓mo_nl_s, mo_z_0, mo_z_1, if_true]
        rw [j51]
        simp (disch := omega) only [ji1, ji2, ji3, ji4, ji5, ji6, ji7, ji8, ji9, ji10, ji11, ji12, ji13, ji14, ji15, ji16, ji19, ji20, ji24, ji31, ji32, ji39, ji45, ji48, ji57, ji58, ji59, ji60, ji97, ji100, ji119, ji120, ji122, ji144, ji200, ji226, ji240, ji255, ji300, ji366, ji400, ji500, ji1000, jI_z, ↓jI_m1, jI_add, jI_sub, jI_mul, ↓mo_ns_r, ↓hn0, ↓mo_cs_s, ↓mo_xs_r, ↓mo_xs_l, ↓mo_nl_s, mo_z_0, mo_z_1, ↓hg15_0, ↓hg15_1, ↓hg15_2, ↓hg15_3, hw15_3, ↓hg15_4, hw15_4, ↓hg15_5, hw15_5, ↓hg15_6, hw15_6, ↓hg15_7, hw15_7, ↓hg15_8, hw15_8, ↓hg15_9, hw15_9, ↓hg15_10, hw15_10, ↓hg15_11, hw15_11, ↓hg15_12, hw15_12, ↓hg15_13, hw15_13, ↓hg15_14, hw15_14, ↓hv15, ↓hx15, ha29, hu29, ↓hl29, ↓hg16_0, ↓hg16_1, ↓hg16_2, ↓hg16_3, ↓hg16_4, ↓hg16_5, hw16_5, ↓hg16_6, ↓hg16_7, ↓hg16_8, ↓hg16_9, ↓hg16_10, hw16_10, ↓hv16, ↓hx16, ha17, hu17, ↓hl17, ha18, hu18, ↓hl18, ha19, hu19, ↓hl19, ha20, hu20, ↓hl20, ha21, hu21, ↓hl21, ha22, hu22, ↓hl22, ha23, hu23, ↓hl23, ha24, hu24, ↓hl24, ha25, hu25, ↓hl25]
      · have hne : ¬ it = -1 := by omega
        simp (disch := omega) only [ji1, ji2, ji3, ji4, ji5, ji6, ji7, ji8, ji9, ji10, ji11, ji12, ji13, ji14, ji15, ji16, ji19, ji20, ji24, ji31, ji32, ji39, ji45, ji48, ji57, ji58, ji59, ji60, ji97, ji100, ji119, ji120, ji122, ji144, ji200, ji226, ji240, ji255, ji300, ji366, ji400, ji500, ji1000, jI_z, ↓jI_m1, jI_add, jI_sub, jI_mul, ↓mo_ns_r, ↓hn0, ↓mo_cs_s, ↓mo_xs_r, ↓mo_xs_l, ↓mo_nl_s, mo_z_0, mo_z_1, jI_eq, hne, if_false, ↓hg15_0, ↓hg15_1, ↓hg15_2, ↓hg15_3, hw15_3, ↓hg15_4, hw15_4, ↓hg15_5, hw15_5, ↓hg15_6, hw15_6, ↓hg15_7, hw15_7, ↓hg15_8, hw15_8, ↓hg15_9, hw15_9, ↓hg15_10, hw15_10, ↓hg15_11, hw15_11, ↓hg15_12, hw15_12, ↓hg15_13, hw15_13, ↓hg15_14, hw15_14, ↓hv15, ↓hx15, ha29, hu29, ↓hl29, ↓hg16_0, ↓hg16_1, ↓hg16_2, ↓hg16_3, ↓hg16_4, ↓hg16_5, hw16_5, ↓hg16_6, ↓hg16_7, ↓hg16_8, ↓hg16_9, ↓hg16_10, hw16_10, ↓hv16, ↓hx16, ha17, hu17, ↓hl17, ha18, hu18, ↓hl18, ha19, hu19, ↓hl19, ha20, hu20, ↓hl20, ha21, hu21, ↓hl21, ha22, hu22, ↓hl22, ha23, hu23, ↓hl23, ha24, hu24, ↓hl24, ha25, hu25, ↓hl25, e2]
        rw [e3]
        simp (disch := omega) only [↓mo_ns_r, ↓hn0, ↓mo_cs_s, ↓mo_xs_r, ↓mo_xs_l, ↓mo_nl_s, mo_z_0, mo_z_1]
        rw [j51]
        simp (disch := omega) only [ji1, ji2, ji3, ji4, ji5, ji6, ji7, ji8, ji9, ji10, ji11, ji12, ji13, ji14, ji15, ji16, ji19, ji20, ji24, ji31, ji32, ji39, ji45, ji48, ji57, ji58, ji59, ji60, ji97, ji100, ji119, ji120, ji122, ji144, ji200, ji226, ji240, ji255, ji300, ji366, ji400, ji500, ji1000, jI_z, ↓jI_m1, jI_add, jI_sub, jI_mul, ↓mo_ns_r, ↓hn0, ↓mo_cs_s, ↓mo_xs_r, ↓mo_xs_l, ↓mo_nl_s, mo_z_0, mo_z_1, ↓hg15_0, ↓hg15_1, ↓hg15_2, ↓hg15_3, hw15_3, ↓hg15_4, hw15_4, ↓hg15_5, hw15_5, ↓hg15_6, hw15_6, ↓hg15_7, hw15_7, ↓hg15_8, hw15_8, ↓hg15_9, hw15_9, ↓hg15_10, hw15_10, ↓hg15_11, hw15_11, ↓hg15_12, hw15_12, ↓hg15_13, hw15_13, ↓hg15_14, hw15_14, ↓hv15, ↓hx15, ha29, hu29, ↓hl29, ↓hg16_0, ↓hg16_1, ↓hg16_2, ↓hg16_3, ↓hg16_4, ↓hg16_5, hw16_5, ↓hg16_6, ↓hg16_7, ↓hg16_8, ↓hg16_9, ↓hg16_10, hw16_10, ↓hv16, ↓hx16, ha17, hu17, ↓hl17, ha18, hu18, ↓hl18, ha19, hu19, ↓hl19, ha20, hu20, ↓hl20, ha21, hu21, ↓hl21, ha22, hu22, ↓hl22, ha23, hu23, ↓hl23, ha24, hu24, ↓hl24, ha25, hu25, ↓hl25]
    have hie : m_X2_isEmpty (hp S z (sI M3 15 14 (t + 1))) (z + 16) = some (jI (if pnd (t + 1) 0 (zTick c t s).1 = 0 then 1 else 0), hp S z (sI M3 15 14 (t + 1))) := by
      unfold m_X2_isEmpty
      simp (disch := omega) only [ji1, ji2, ji3, ji4, ji5, ji6, ji7, ji8, ji9, ji10, ji11, ji12, ji13, ji14, ji15, ji16, ji19, ji20, ji24, ji31, ji32, ji39, ji45, ji48, ji57, ji58, ji59, ji60, ji97, ji100, ji119, ji120, ji122, ji144, ji200, ji226, ji240, ji255, ji300, ji366, ji400, ji500, ji1000, jI_z, ↓jI_m1, jI_add, jI_sub, jI_mul, ↓hg16_0, ↓hg16_1, ↓hg16_2, ↓hg16_3, ↓hg16_4, ↓hg16_5, hw16_5, ↓hg16_6, ↓hg16_7, ↓hg16_8, ↓hg16_9, ↓hg16_10, hw16_10, ↓hv16, ↓hx16, ha17, hu17, ↓hl17, ha18, hu18, ↓hl18, ha19, hu19, ↓hl19, ha20, hu20, ↓hl20, ha21, hu21, ↓hl21, ha22, hu22, ↓hl22, ha23, hu23, ↓hl23, ha24, hu24, ↓hl24, ha25, hu25, ↓hl25, gL.2.2, jI_lt, ↓mo_ns_r, ↓hn0, ↓mo_cs_s, ↓mo_xs_r, ↓mo_xs_l, ↓mo_nl_s, mo_z_0, mo_z_1]
      by_cases g : pnd (t + 1) 0 (zTick c t s).1 = 0
      · rw [if_neg (by omega), if_pos g]
      · rw [if_pos (by omega), if_neg g]
    have hgo : ∃ M', m_X4_play_l13 (z + 15) (z + b) f (hp S z (sI M3 15 14 (t + 1))) (jI (c.1 2)) (jI (t + 1)) = some (jI (zBits c (zRun c n (t + 1) (zTick c t s)).2 : Nat), hp S z M') ∧ PR M' c (zRun c n (t + 1) (zTick c t s)) ∧ Fr 15 30 (sI M3 15 14 (t + 1)) M' ∧ Vr (sI M3 15 14 (t + 1)) M' :=
      ih (t + 1) (zTick c t s) _ f (by omega) (by omega) hz1 r5 (by rw [gI_sI, if_pos ⟨rfl, rfl⟩]) (by omega)
    by_cases gv : zOver c t (zTick c t s) = true
    · have hR : zRun c (n + 1) t s = (t + 1, zTick c t s) := by simp only [zRun, gv, if_true]
      rw [hR]
      obtain ⟨v1, v2⟩ := hov.mp gv
      refine ⟨sI M3 15 14 (t + 1), pre _ ?_, ⟨by rw [gI_sI, if_pos ⟨rfl, rfl⟩], gL.1, gD, gW⟩, r6, r7⟩
      rw [if_neg (by rw [jI_lt (by omega) (by omega) (by omega) (by omega)]; omega)]
      simp (disch := omega) only [↓hg15_0, ↓hg15_1, ↓hg15_2, ↓hg15_3, hw15_3, ↓hg15_4, hw15_4, ↓hg15_5, hw15_5, ↓hg15_6, hw15_6, ↓hg15_7, hw15_7, ↓hg15_8, hw15_8, ↓hg15_9, hw15_9, ↓hg15_10, hw15_10, ↓hg15_11, hw15_11, ↓hg15_12, hw15_12, ↓hg15_13, hw15_13, ↓hg15_14, hw15_14, ↓hv15, ↓hx15, ha29, hu29, ↓hl29, ↓hg16_0, ↓hg16_1, ↓hg16_2, ↓hg16_3, ↓hg16_4, ↓hg16_5, hw16_5, ↓hg16_6, ↓hg16_7, ↓hg16_8, ↓hg16_9, ↓hg16_10, hw16_10, ↓hv16, ↓hx16, ha17, hu17, ↓hl17, ha18, hu18, ↓hl18, ha19, hu19, ↓hl19, ha20, hu20, ↓hl20, ha21, hu21, ↓hl21, ha22, hu22, ↓hl22, ha23, hu23, ↓hl23, ha24, hu24, ↓hl24, ha25, hu25, ↓hl25]
      rw [hie, if_pos v2]
      simp (disch := omega) only [↓mo_ns_r, ↓hn0, ↓mo_cs_s, ↓mo_xs_r, ↓mo_xs_l, ↓mo_nl_s, mo_z_0, mo_z_1, jI_eq, show ¬ (1 : Int) = 0 by omega, if_false]
      exact X4_end hb hc r5 hz1.1 (by omega)
    · have hR : zRun c (n + 1) t s = zRun c n (t + 1) (zTick c t s) := by simp only [zRun, gv, if_false]; rfl
      rw [hR]
      obtain ⟨M', k1, k2, k3, k4⟩ := hgo
      refine ⟨M', pre _ ?_, k2, r6.trans k3, r7.trans k4⟩
      by_cases gb : (zTick c t s).2.2.2.1 < c.1 1
      · rw [if_pos (by rw [jI_lt (by omega) (by omega) (by omega) (by omega)]; exact gb)]; exact k1
      · have gp : ¬ pnd (t + 1) 0 (zTick c t s).1 = 0 := fun h => gv (hov.mpr ⟨by omega, h⟩)
        rw [if_neg (by rw [jI_lt (by omega) (by omega) (by omega) (by omega)]; exact gb)]
        simp (disch := omega) only [↓hg15_0, ↓hg15_1, ↓hg15_2, ↓hg15_3, hw15_3, ↓hg15_4, hw15_4, ↓hg15_5, hw15_5, ↓hg15_6, hw15_6, ↓hg15_7, hw15_7, ↓hg15_8, hw15_8, ↓hg15_9, hw15_9, ↓hg15_10, hw15_10, ↓hg15_11, hw15_11, ↓hg15_12, hw15_12, ↓hg15_13, hw15_13, ↓hg15_14, hw15_14, ↓hv15, ↓hx15, ha29, hu29, ↓hl29, ↓hg16_0, ↓hg16_1, ↓hg16_2, ↓hg16_3, ↓hg16_4, ↓hg16_5, hw16_5, ↓hg16_6, ↓hg16_7, ↓hg16_8, ↓hg16_9, ↓hg16_10, hw16_10, ↓hv16, ↓hx16, ha17, hu17, ↓hl17, ha18, hu18, ↓hl18, ha19, hu19, ↓hl19, ha20, hu20, ↓hl20, ha21, hu21, ↓hl21, ha22, hu22, ↓hl22, ha23, hu23, ↓hl23, ha24, hu24, ↓hl24, ha25, hu25, ↓hl25]
        rw [hie, if_neg gp]
        simp (disch := omega) only [↓mo_ns_r, ↓hn0, ↓mo_cs_s, ↓mo_xs_r, ↓mo_xs_l, ↓mo_nl_s, mo_z_0, mo_z_1, if_true]
        exact k1
/-- THE RUN OF THE CLASS answers the promises that it breaks -/
theorem X4_play {z b : Nat} {M : hM} {c : hCf} (hb : b = 1 ∨ b = 8) (hB : BR M b c) (hc : okC c) :
    ∃ M', m_X4_play (hp S z M) (z + 15) (z + b) = some (jI (zBits c (zR c).2 : Nat), hp S z M') ∧ PR M' c (zR c) ∧ Fr 15 30 M M' ∧ (∀ k, k ≠ 0 → gV M' k = gV M k) := by
  have hB' := is18 hb
  have hcs := hc.s
  obtain ⟨M1, r1, r2, r3, r4, r5⟩ := X4_begin (S := S) (z := z) hb hB hc
  have hset := X0_setting (S := S) (z := z) (M := M1) (k := 2) hB' (by omega) (by omega)
  have h2 : gA M1 (b + 1) (2 : Int).toNat = c.1 2 := (CR_get r2).1.2.1.1 2 (by omega)
  rw [h2] at hset
  obtain ⟨M', s1, s2, s3, s4⟩ := X4_play_l (S := S) (z := z) hb hc (c.1 2).toNat 0 z0 M1 hN_f (by omega) (by omega) (zJ_0 hc) r2 r3 (by unfold hN_f; omega)
  refine ⟨M', ?_, s2, r4.trans s3, fun k hk => (s4 k).trans (r5 k hk)⟩
  unfold m_X4_play
  simp (disch := omega) only [↓hg15_0, ↓hg15_1, ↓hg15_2, ↓hg15_3, hw15_3, ↓hg15_4, hw15_4, ↓hg15_5, hw15_5, ↓hg15_6, hw15_6, ↓hg15_7, hw15_7, ↓hg15_8, hw15_8, ↓hg15_9, hw15_9, ↓hg15_10, hw15_10, ↓hg15_11, hw15_11, ↓hg15_12, hw15_12, ↓hg15_13, hw15_13, ↓hg15_14, hw15_14, ↓hv15, ↓hx15, ha29, hu29, ↓hl29]
  rw [r1]
  simp (disch := omega) only [ji1, ji2, ji3, ji4, ji5, ji6, ji7, ji8, ji9, ji10, ji11, ji12, ji13, ji14, ji15, ji16, ji19, ji20, ji24, ji31, ji32, ji39, ji45, ji48, ji57, ji58, ji59, ji60, ji97, ji100, ji119, ji120, ji122, ji144, ji200, ji226, ji240, ji255, ji300, ji366, ji400, ji500, ji1000, jI_z, ↓jI_m1, jI_add, jI_sub, jI_mul, ↓mo_ns_r, ↓hn0, ↓mo_cs_s, ↓mo_xs_r, ↓mo_xs_l, ↓mo_nl_s, mo_z_0, mo_z_1, ↓Bg0 hB', ↓Bg1 hB', ↓Bg2 hB', ↓Bg3 hB', ↓Bg5 hB', ↓Bg4 hB', Bw4 hB', ↓Bv hB', Ba1 hB', Bu1 hB', Ba2 hB', Bu2 hB', Ba3 hB', Bu3 hB', Ba4 hB', Bu4 hB']
  rw [hset]
  simp (disch := omega) only [↓mo_ns_r, ↓hn0, ↓mo_cs_s, ↓mo_xs_r, ↓mo_xs_l, ↓mo_nl_s, mo_z_0, mo_z_1]
  exact s1


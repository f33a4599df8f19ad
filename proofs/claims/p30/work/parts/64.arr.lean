variable {S : hSh}
/-! .. the arrivals of a tick. -/
theorem X2_part {z : Nat} {M : hM} {T : List hT} {k : Nat} {x : hT} {p : Int} (h : LT M T) (hl : T.length ≤ 120) (hx : T[k]? = some x) (hp' : 0 ≤ p ∧ p ≤ 4) : m_X2_sentPart (hp S z M) (z + 16) (jI k) (jI p) = some (jI (if p = 0 then x.1 else if p = 1 then x.2.1 else if p = 2 then x.2.2.1 else if p = 3 then x.2.2.2.1 else x.2.2.2.2), hp S z M) := by
  obtain ⟨h5, hA⟩ := h
  have hk : k < T.length := (List.getElem?_eq_some_iff.mp hx).1
  obtain ⟨e1, e2, e3, e4, e5⟩ := hA k x hx
  have k0 : ¬ (k : Int) < 0 := by omega
  have k1 : (k : Int) < T.length := by omega
  have k2 : (k : Int) < 120 := by omega
  unfold m_X2_sentPart
  simp (disch := omega) only [ji1, ji2, ji3, ji4, ji5, ji6, ji7, ji8, ji9, ji10, ji11, ji12, ji13, ji14, ji15, ji16, ji19, ji20, ji24, ji31, ji32, ji39, ji45, ji48, ji57, ji58, ji59, ji60, ji97, ji100, ji119, ji120, ji122, ji144, ji200, ji226, ji240, ji255, ji300, ji366, ji400, ji500, ji1000, jI_z, ↓jI_m1, jI_add, jI_sub, jI_mul, ↓hg16_0, ↓hg16_1, ↓hg16_2, ↓hg16_3, ↓hg16_4, ↓hg16_5, hw16_5, ↓hg16_6, ↓hg16_7, ↓hg16_8, ↓hg16_9, ↓hg16_10, hw16_10, ↓hv16, ↓hx16, ha17, hu17, ↓hl17, ha18, hu18, ↓hl18, ha19, hu19, ↓hl19, ha20, hu20, ↓hl20, ha21, hu21, ↓hl21, ha22, hu22, ↓hl22, ha23, hu23, ↓hl23, ha24, hu24, ↓hl24, ha25, hu25, ↓hl25, jI_lt, jI_eq, k0, k1, k2, if_true, if_false, h5, Int.toNat_natCast, e1, e2, e3, e4, e5]
  by_cases p0 : p = 0
  · simp only [p0, if_true]
  · by_cases p1 : p = 1
    · simp only [p0, p1, if_true, if_false]; rfl
    · by_cases p2 : p = 2
      · simp only [p0, p1, p2, if_true, if_false]; rfl
      · by_cases p3 : p = 3
        · simp only [p0, p1, p2, p3, if_true, if_false]; rfl
        · simp only [p0, p1, p2, p3, if_false]
theorem CR_arrive {M : hM} {c : hCf} {b : Nat} {s : hS} {t : Int} {k : Nat} (hb : b = 1 ∨ b = 8) (h : CR M c b t k s) (hp' : pnd t k s.1 = pnd t (k + 1) s.1 + 1) : CR (sI M 16 10 (gI M 16 10 - 1)) c b t (k + 1) s := by
  obtain ⟨T, O, W, B, N, J, K, C⟩ := s
  obtain ⟨c0, cB, cN, cK, cT, ⟨cL1, cL2, cL3⟩, cD, cW⟩ := h
  have hF : Fr 16 17 M (sI M 16 10 (gI M 16 10 - 1)) := Fr.sI (by omega)
  have e15 : ∀ k, gI (sI M 16 10 (gI M 16 10 - 1)) 15 k = gI M 15 k := (hF 15 (by omega)).1
  refine ⟨c0.keep hb hF (fun k => rfl) (by omega), by rw [e15, cB], by rw [e15, cN], by rw [e15, cK], by rw [e15, e15]; exact cT, ⟨⟨by rw [gI_sI, if_neg (by omega)]; exact cL1.1, cL1.2⟩, cL2, ?_⟩, cD.keep hF (by omega), cW.keep hF (by omega)⟩
  rw [gI_sI, if_pos ⟨rfl, rfl⟩, cL3]
  simp only at hp'
  omega
theorem CR_skip {M : hM} {c : hCf} {b : Nat} {s : hS} {t : Int} {k : Nat} (h : CR M c b t k s) (hp' : pnd t (k + 1) s.1 = pnd t k s.1) : CR M c b t (k + 1) s := by
  obtain ⟨T, O, W, B, N, J, K, C⟩ := s
  obtain ⟨c0, cB, cN, cK, cT, ⟨cL1, cL2, cL3⟩, cD, cW⟩ := h
  exact ⟨c0, cB, cN, cK, cT, ⟨cL1, cL2, by rw [cL3]; simp only at hp'; rw [hp']⟩, cD, cW⟩
theorem qL_z {t : Int} {s0 s : hS} (h : zX t s0 s) (ht : 0 ≤ t) : qL t s.1 0 = qL t s0.1 0 := by
  obtain ⟨ex, e, g⟩ := h
  rw [e, qL_app]
  have : ∀ (ex : List hT) (k : Nat), (∀ x ∈ ex, x.1 = t ∧ (x.2.2.2.1 = -1 ∨ t < x.2.2.2.1) ∧ (x.2.2.2.2 = -1 ∨ t < x.2.2.2.2)) → qL t ex k = [] := by
    intro ex
    induction ex with
    | nil => intro k _; rfl
    | cons x l ih =>
      intro k h
      obtain ⟨_, h1, h2⟩ := h x List.mem_cons_self
      simp only [qL]
      rw [if_neg (by omega), if_neg (by omega), ih (k + 1) (fun y hy => h y (List.mem_cons_of_mem _ hy))]; rfl
  rw [this ex _ g, List.append_nil]
/-- one arrival of the class -/
theorem X4_one {z b k a : Nat} {M : hM} {c : hCf} {s : hS} {t : Int} {x : hT} {f : Nat} {v7 v9 : Int32} (hb : b = 1 ∨ b = 8) (hc : okC c) (h : CR M c b t k s) (hz : zJ c t k s) (ht : 0 ≤ t ∧ t < 200) (hx : s.1[k]? = some x) (hy : zIs t k s.1 = true) (ha : a / 2 = k) (hlt : v9 < v7) :
    ∃ M', CR M' c b t (k + 1) (zHand c t k s) ∧ Fr 15 28 M M' ∧ Wr M M' ∧ m_X4_handleArrivals_l21 (z + 15) (jI t) (f + 1) (hp S z M) v7 (jI a) v9 = m_X4_handleArrivals_l21 (z + 15) (jI t) f (hp S z M') v7 (jI (gA M' 25 a)) (v9 + jI 1) := by
  have hcs := hc.s
  have hhn := hnd_y hz.1 ht.1 hx hy
  have hlt240 := hz.lt ht.1 hx hy
  have hT120 : s.1.length ≤ 120 := by obtain ⟨T, O, W, B, N, J, K, C⟩ := s; exact hz.1.1
  have hk : k < s.1.length := (List.getElem?_eq_some_iff.mp hx).1
  have ho : okT c t x := by obtain ⟨T, O, W, B, N, J, K, C⟩ := s; exact hz.1.2.1 x (List.mem_of_getElem? hx)
  obtain ⟨o1, o2, o3, o4, o5, o6⟩ := ho
  have h1 := CR_arrive hb h hhn.2
  generalize hM1 : sI M 16 10 (gI M 16 10 - 1) = M1 at h1
  have hF1 : Fr 15 28 M M1 := by rw [← hM1]; exact Fr.sI (by omega)
  have hV1 : Wr M M1 := by rw [← hM1]; exact ⟨fun _ => rfl, rfl⟩
  have hLT : LT M1 s.1 := (CR_get h1).2.2.2.2.1.1
  have p2 := X2_part (S := S) (z := z) (p := 2) hLT hT120 hx (by omega)
  have p1 := X2_part (S := S) (z := z) (p := 1) hLT hT120 hx (by omega)
  rw [if_neg (by omega), if_neg (by omega), if_pos rfl] at p2
  rw [if_neg (by omega), if_pos rfl] at p1
  have ea : (a : Int) / 2 = (k : Int) := by omega
  have a0 : ¬ (a : Int) < 0 := by omega
  have a1 : (a : Int) < 240 := by omega
  have hb25 : ∀ M' : hM, m_X2_arrivalBehind (hp S z M') (z + 16) (jI a) = some (jI (gA M' 25 a), hp S z M') := by
    intro M'
    unfold m_X2_arrivalBehind
    simp (disch := omega) only [ji1, ji2, ji3, ji4, ji5, ji6, ji7, ji8, ji9, ji10, ji11, ji12, ji13, ji14, ji15, ji16, ji19, ji20, ji24, ji31, ji32, ji39, ji45, ji48, ji57, ji58, ji59, ji60, ji97, ji100, ji119, ji120, ji122, ji144, ji200, ji226, ji240, ji255, ji300, ji366, ji400, ji500, ji1000, jI_z, ↓jI_m1, jI_add, jI_sub, jI_mul, ↓hg16_0, ↓hg16_1, ↓hg16_2, ↓hg16_3, ↓hg16_4, ↓hg16_5, hw16_5, ↓hg16_6, ↓hg16_7, ↓hg16_8, ↓hg16_9, ↓hg16_10, hw16_10, ↓hv16, ↓hx16, ha17, hu17, ↓hl17, ha18, hu18, ↓hl18, ha19, hu19, ↓hl19, ha20, hu20, ↓hl20, ha21, hu21, ↓hl21, ha22, hu22, ↓hl22, ha23, hu23, ↓hl23, ha24, hu24, ↓hl24, ha25, hu25, ↓hl25, jI_lt, a0, a1, if_false, if_true, Int.toNat_natCast]
  have hH : zHand c t k s = if x.2.1 = 0 then zData c t x.2.2.1 s else zAns c t x.2.2.1 s := by unfold zHand; rw [hx]
  rw [hH]
  by_cases g1 : x.2.1 = 1
  · rw [if_neg (by omega)]
    obtain ⟨M', r1, r2, r3, r4⟩ := X4_ra (S := S) (z := z) (sg := x.2.2.1) hb hc h1 hz.1 ht ⟨o4, o5⟩ (by omega)
    refine ⟨M', r2, hF1.trans r3, hV1.trans r4, ?_⟩
    conv => lhs; unfold m_X4_handleArrivals_l21
    unfold m_X2_arrive
    rw [if_pos hlt]
    simp (disch := omega) only [ji1, ji2, ji3, ji4, ji5, ji6, ji7, ji8, ji9, ji10, ji11, ji12, ji13, ji14, ji15, ji16, ji19, ji20, ji24, ji31, ji32, ji39, ji45, ji48, ji57, ji58, ji59, ji60, ji97, ji100, ji119, ji120, ji122, ji144, ji200, ji226, ji240, ji255, ji300, ji366, ji400, ji500, ji1000, jI_z, ↓jI_m1, jI_add, jI_sub, jI_mul, mo_dv_j, ↓hg15_0, ↓hg15_1, ↓hg15_2, ↓hg15_3, hw15_3, ↓hg15_4, hw15_4, ↓hg15_5, hw15_5, ↓hg15_6, hw15_6, ↓hg15_7, hw15_7, ↓hg15_8, hw15_8, ↓hg15_9, hw15_9, ↓hg15_10, hw15_10, ↓hg15_11, hw15_11, ↓hg15_12, hw15_12, ↓hg15_13, hw15_13, ↓hg15_14, hw15_14, ↓hv15, ↓hx15, ha29, hu29, ↓hl29, ↓hg16_0, ↓hg16_1, ↓hg16_2, ↓hg16_3, ↓hg16_4, ↓hg16_5, hw16_5, ↓hg16_6, ↓hg16_7, ↓hg16_8, ↓hg16_9, ↓hg16_10, hw16_10, ↓hv16, ↓hx16, ha17, hu17, ↓hl17, ha18, hu18, ↓hl18, ha19, hu19, ↓hl19, ha20, hu20, ↓hl20, ha21, hu21, ↓hl21, ha22, hu22, ↓hl22, ha23, hu23, ↓hl23, ha24, hu24, ↓hl24, ha25, hu25, ↓hl25, ↓mo_ns_r, ↓hn0, ↓mo_cs_s, ↓mo_xs_r, ↓mo_xs_l, ↓mo_nl_s, mo_z_0, mo_z_1, ea, hM1]
    rw [p2]
    simp (disch := omega) only [↓hg15_0, ↓hg15_1, ↓hg15_2, ↓hg15_3, hw15_3, ↓hg15_4, hw15_4, ↓hg15_5, hw15_5, ↓hg15_6, hw15_6, ↓hg15_7, hw15_7, ↓hg15_8, hw15_8, ↓hg15_9, hw15_9, ↓hg15_10, hw15_10, ↓hg15_11, hw15_11, ↓hg15_12, hw15_12, ↓hg15_13, hw15_13, ↓hg15_14, hw15_14, ↓hv15, ↓hx15, ha29, hu29, ↓hl29, ↓hg16_0, ↓hg16_1, ↓hg16_2, ↓hg16_3, ↓hg16_4, ↓hg16_5, hw16_5, ↓hg16_6, ↓hg16_7, ↓hg16_8, ↓hg16_9, ↓hg16_10, hw16_10, ↓hv16, ↓hx16, ha17, hu17, ↓hl17, ha18, hu18, ↓hl18, ha19, hu19, ↓hl19, ha20, hu20, ↓hl20, ha21, hu21, ↓hl21, ha22, hu22, ↓hl22, ha23, hu23, ↓hl23, ha24, hu24, ↓hl24, ha25, hu25, ↓hl25, ↓mo_ns_r, ↓hn0, ↓mo_cs_s, ↓mo_xs_r, ↓mo_xs_l, ↓mo_nl_s, mo_z_0, mo_z_1]
    rw [p1]
    simp (disch := omega) only [ji1, ji2, ji3, ji4, ji5, ji6, ji7, ji8, ji9, ji10, ji11, ji12, ji13, ji14, ji15, ji16, ji19, ji20, ji24, ji31, ji32, ji39, ji45, ji48, ji57, ji58, ji59, ji60, ji97, ji100, ji119, ji120, ji122, ji144, ji200, ji226, ji240, ji255, ji300, ji366, ji400, ji500, ji1000, jI_z, ↓jI_m1, jI_add, jI_sub, jI_mul, ↓hg15_0, ↓hg15_1, ↓hg15_2, ↓hg15_3, hw15_3, ↓hg15_4, hw15_4, ↓hg15_5, hw15_5, ↓hg15_6, hw15_6, ↓hg15_7, hw15_7, ↓hg15_8, hw15_8, ↓hg15_9, hw15_9, ↓hg15_10, hw15_10, ↓hg15_11, hw15_11, ↓hg15_12, hw15_12, ↓hg15_13, hw15_13, ↓hg15_14, hw15_14, ↓hv15, ↓hx15, ha29, hu29, ↓hl29, ↓hg16_0, ↓hg16_1, ↓hg16_2, ↓hg16_3, ↓hg16_4, ↓hg16_5, hw16_5, ↓hg16_6, ↓hg16_7, ↓hg16_8, ↓hg16_9, ↓hg16_10, hw16_10, ↓hv16, ↓hx16, ha17, hu17, ↓hl17, ha18, hu18, ↓hl18, ha19, hu19, ↓hl19, ha20, hu20, ↓hl20, ha21, hu21, ↓hl21, ha22, hu22, ↓hl22, ha23, hu23, ↓hl23, ha24, hu24, ↓hl24, ha25, hu25, ↓hl25, ↓mo_ns_r, ↓hn0, ↓mo_cs_s, ↓mo_xs_r, ↓mo_xs_l, ↓mo_nl_s, mo_z_0, mo_z_1, jI_eq, g1, if_true]
    rw [r1]
    simp (disch := omega) only [↓hg15_0, ↓hg15_1, ↓hg15_2, ↓hg15_3, hw15_3, ↓hg15_4, hw15_4, ↓hg15_5, hw15_5, ↓hg15_6, hw15_6, ↓hg15_7, hw15_7, ↓hg15_8, hw15_8, ↓hg15_9, hw15_9, ↓hg15_10, hw15_10, ↓hg15_11, hw15_11, ↓hg15_12, hw15_12, ↓hg15_13, hw15_13, ↓hg15_14, hw15_14, ↓hv15, ↓hx15, ha29, hu29, ↓hl29, ↓hg16_0, ↓hg16_1, ↓hg16_2, ↓hg16_3, ↓hg16_4, ↓hg16_5, hw16_5, ↓hg16_6, ↓hg16_7, ↓hg16_8, ↓hg16_9, ↓hg16_10, hw16_10, ↓hv16, ↓hx16, ha17, hu17, ↓hl17, ha18, hu18, ↓hl18, ha19, hu19, ↓hl19, ha20, hu20, ↓hl20, ha21, hu21, ↓hl21, ha22, hu22, ↓hl22, ha23, hu23, ↓hl23, ha24, hu24, ↓hl24, ha25, hu25, ↓hl25, ↓mo_ns_r, ↓hn0, ↓mo_cs_s, ↓mo_xs_r, ↓mo_xs_l, ↓mo_nl_s, mo_z_0, mo_z_1]
    rw [hb25]
    simp (disch := omega) only [↓mo_ns_r, ↓hn0, ↓mo_cs_s, ↓mo_xs_r, ↓mo_xs_l, ↓mo_nl_s, mo_z_0, mo_z_1]
  · have g0 : x.2.1 = 0 := by omega
    rw [if_pos g0]
    obtain ⟨M2, r1, r2, r3, r4⟩ := X4_rd (S := S) (z := z) (w := x.2.2.1) hb hc h1 hz.1 hlt240 ht ⟨o4, o5⟩
    by_cases g2 : c.1 0 = 0
    · rw [if_pos g2] at r1 r2
      have hD : zData c t x.2.2.1 s = zDel c t x.2.2.1 s := by unfold zData; rw [if_pos g2]
      rw [hD]
      refine ⟨M2, r2, hF1.trans r3, hV1.trans r4, ?_⟩
      conv => lhs; unfold m_X4_handleArrivals_l21
      unfold m_X2_arrive
      rw [if_pos hlt]
      simp (disch := omega) only [ji1, ji2, ji3, ji4, ji5, ji6, ji7, ji8, ji9, ji10, ji11, ji12, ji13, ji14, ji15, ji16, ji19, ji20, ji24, ji31, ji32, ji39, ji45, ji48, ji57, ji58, ji59, ji60, ji97, ji100, ji119, ji120, ji122, ji144, ji200, ji226, ji240, ji255, ji300, ji366, ji400, ji500, ji1000, jI_z, ↓jI_m1, jI_add, jI_sub, jI_mul, mo_dv_j, ↓hg15_0, ↓hg15_1, ↓hg15_2, ↓hg15_3, hw15_3, ↓hg15_4, hw15_4, ↓hg15_5, hw15_5, ↓hg15_6, hw15_6, ↓hg15_7, hw15_7, ↓hg15_8, hw15_8, ↓hg15_9, hw15_9, ↓hg15_10, hw15_10, ↓hg15_11, hw15_11, ↓hg15_12, hw15_12, ↓hg15_13, hw15_13, ↓hg15_14, hw15_14, ↓hv15, ↓hx15, ha29, hu29, ↓hl29, ↓hg16_0, ↓hg16_1, ↓hg16_2, ↓hg16_3, ↓hg16_4, ↓hg16_5, hw16_5, ↓hg16_6, ↓hg16_7, ↓hg16_8, ↓hg16_9, ↓hg16_10, hw16_10, ↓hv16, ↓hx16, ha17, hu17, ↓hl17, ha18, hu18, ↓hl18, ha19, hu19, ↓hl19, ha20, hu20, ↓hl20, ha21, hu21, ↓hl21, ha22, hu22, ↓hl22, ha23, hu23, ↓hl23, ha24, hu24, ↓hl24, ha25, hu25, ↓hl25, ↓mo_ns_r, ↓hn0, ↓mo_cs_s, ↓mo_xs_r, ↓mo_xs_l, ↓mo_nl_s, mo_z_0, mo_z_1, ea, hM1]
      rw [p2]
      simp (disch := omega) only [↓hg15_0, ↓hg15_1, ↓hg15_2, ↓hg15_3, hw15_3, ↓hg15_4, hw15_4, ↓hg15_5, hw15_5, ↓hg15_6, hw15_6, ↓hg15_7, hw15_7, ↓hg15_8, hw15_8, ↓hg15_9, hw15_9, ↓hg15_10, hw15_10, ↓hg15_11, hw15_11, ↓hg15_12, hw15_12, ↓hg15_13, hw15_13, ↓hg15_14, hw15_14, ↓hv15, ↓hx15, ha29, hu29, ↓hl29, ↓hg16_0, ↓hg16_1, ↓hg16_2, ↓hg16_3, ↓hg16_4, ↓hg16_5, hw16_5, ↓hg16_6, ↓hg16_7, ↓hg16_8, ↓hg16_9, ↓hg16_10, hw16_10, ↓hv16, ↓hx16, ha17, hu17, ↓hl17, ha18, hu18, ↓hl18, ha19, hu19, ↓hl19, ha20, hu20, ↓hl20, ha21, hu21, ↓hl21, ha22, hu22, ↓hl22, ha23, hu23, ↓hl23, ha24, hu24, ↓hl24, ha25, hu25, ↓hl25, ↓mo_ns_r, ↓hn0, ↓mo_cs_s, ↓mo_xs_r, ↓mo_xs_l, ↓mo_nl_s, mo_z_0, mo_z_1]
      rw [p1]
      simp (disch := omega) only [ji1, ji2, ji3, ji4, ji5, ji6, ji7, ji8, ji9, ji10, ji11, ji12, ji13, ji14, ji15, ji16, ji19, ji20, ji24, ji31, ji32, ji39, ji45, ji48, ji57, ji58, ji59, ji60, ji97, ji100, ji119, ji120, ji122, ji144, ji200, ji226, ji240, ji255, ji300, ji366, ji400, ji500, ji1000, jI_z, ↓jI_m1, jI_add, jI_sub, jI_mul, ↓hg15_0, ↓hg15_1, ↓hg15_2, ↓hg15_3, hw15_3, ↓hg15_4, hw15_4, ↓hg15_5, hw15_5, ↓hg15_6, hw15_6, ↓hg15_7, hw15_7, ↓hg15_8, hw15_8, ↓hg15_9, hw15_9, ↓hg15_10, hw15_10, ↓hg15_11, hw15_11, ↓hg15_12, hw15_12, ↓hg15_13, hw15_13, ↓hg15_14, hw15_14, ↓hv15, ↓hx15, ha29, hu29, ↓hl29, ↓hg16_0, ↓hg16_1, ↓hg16_2, ↓hg16_3, ↓hg16_4, ↓hg16_5, hw16_5, ↓hg16_6, ↓hg16_7, ↓hg16_8, ↓hg16_9, ↓hg16_10, hw16_10, ↓hv16, ↓hx16, ha17, hu17, ↓hl17, ha18, hu18, ↓hl18, ha19, hu19, ↓hl19, ha20, hu20, ↓hl20, ha21, hu21, ↓hl21, ha22, hu22, ↓hl22, ha23, hu23, ↓hl23, ha24, hu24, ↓hl24, ha25, hu25, ↓hl25, ↓mo_ns_r, ↓hn0, ↓mo_cs_s, ↓mo_xs_r, ↓mo_xs_l, ↓mo_nl_s, mo_z_0, mo_z_1, jI_eq, g0, show ¬ (0 : Int) = 1 by omega, if_false]
      rw [r1]
      simp (disch := omega) only [ji1, ji2, ji3, ji4, ji5, ji6, ji7, ji8, ji9, ji10, ji11, ji12, ji13, ji14, ji15, ji16, ji19, ji20, ji24, ji31, ji32, ji39, ji45, ji48, ji57, ji58, ji59, ji60, ji97, ji100, ji119, ji120, ji122, ji144, ji200, ji226, ji240, ji255, ji300, ji366, ji400, ji500, ji1000, jI_z, ↓jI_m1, jI_add, jI_sub, jI_mul, ↓hg15_0, ↓hg15_1, ↓hg15_2, ↓hg15_3, hw15_3, ↓hg15_4, hw15_4, ↓hg15_5, hw15_5, ↓hg15_6, hw15_6, ↓hg15_7, hw15_7, ↓hg15_8, hw15_8, ↓hg15_9, hw15_9, ↓hg15_10, hw15_10, ↓hg15_11, hw15_11, ↓hg15_12, hw15_12, ↓hg15_13, hw15_13, ↓hg15_14, hw15_14, ↓hv15, ↓hx15, ha29, hu29, ↓hl29, ↓hg16_0, ↓hg16_1, ↓hg16_2, ↓hg16_3, ↓hg16_4, ↓hg16_5, hw16_5, ↓hg16_6, ↓hg16_7, ↓hg16_8, ↓hg16_9, ↓hg16_10, hw16_10, ↓hv16, ↓hx16, ha17, hu17, ↓hl17, ha18, hu18, ↓hl18, ha19, hu19, ↓hl19, ha20, hu20, ↓hl20, ha21, hu21, ↓hl21, ha22, hu22, ↓hl22, ha23, hu23, ↓hl23, ha24, hu24, ↓hl24, ha25, hu25, ↓hl25, ↓mo_ns_r, ↓hn0, ↓mo_cs_s, ↓mo_xs_r, ↓mo_xs_l, ↓mo_nl_s, mo_z_0, mo_z_1, if_true]
      rw [hb25]
      simp (disch := omega) only [↓mo_ns_r, ↓hn0, ↓mo_cs_s, ↓mo_xs_r, ↓mo_xs_l, ↓mo_nl_s, mo_z_0, mo_z_1]
    · rw [if_neg g2] at r1 r2
      have hD : zData c t x.2.2.1 s = zSend c t 1 (if c.1 0 = 1 then x.2.2.1 % 2 else sK (zD1 c t x.2.2.1 s) % zSg c) (zD1 c t x.2.2.1 s) := by unfold zData; rw [if_neg g2]
      rw [hD]
      have hsg := zSg_in hc
      have m1 := Int.emod_nonneg (sK (zD1 c t x.2.2.1 s)) (show zSg c ≠ 0 by omega)
      have m2 := Int.emod_lt_of_pos (sK (zD1 c t x.2.2.1 s)) (show 0 < zSg c by omega)
      generalize han : (if c.1 0 = 1 then x.2.2.1 % 2 else sK (zD1 c t x.2.2.1 s) % zSg c) = an at r1
      have han' : 0 ≤ an ∧ an ≤ 7 := by
        rw [← han]; split <;> omega
      obtain ⟨M3, s1, s2, s3, s4⟩ := CR_send (S := S) (z := z) (kd := 1) (w := an) hb hc r2 (zI_d1 hz.1 ht.1 ⟨o4, o5⟩).1 ht
      have hV := (CR_get r2).1.1
      refine ⟨M3, s2, (hF1.trans r3).trans (s3.mono (by omega) (by omega)), (hV1.trans r4).trans s4, ?_⟩
      have hne : ¬ an = -1 := by omega
      conv => lhs; unfold m_X4_handleArrivals_l21
      unfold m_X2_arrive
      rw [if_pos hlt]
      simp (disch := omega) only [ji1, ji2, ji3, ji4, ji5, ji6, ji7, ji8, ji9, ji10, ji11, ji12, ji13, ji14, ji15, ji16, ji19, ji20, ji24, ji31, ji32, ji39, ji45, ji48, ji57, ji58, ji59, ji60, ji97, ji100, ji119, ji120, ji122, ji144, ji200, ji226, ji240, ji255, ji300, ji366, ji400, ji500, ji1000, jI_z, ↓jI_m1, jI_add, jI_sub, jI_mul, mo_dv_j, ↓hg15_0, ↓hg15_1, ↓hg15_2, ↓hg15_3, hw15_3, ↓hg15_4, hw15_4, ↓hg15_5, hw15_5, ↓hg15_6, hw15_6, ↓hg15_7, hw15_7, ↓hg15_8, hw15_8, ↓hg15_9, hw15_9, ↓hg15_10, hw15_10, ↓hg15_11, hw15_11, ↓hg15_12, hw15_12, ↓hg15_13, hw15_13, ↓hg15_14, hw15_14, ↓hv15, ↓hx15, ha29, hu29, ↓hl29, ↓hg16_0, ↓hg16_1, ↓hg16_2, ↓hg16_3, ↓hg16_4, ↓hg16_5, hw16_5, ↓hg16_6, ↓hg16_7, ↓hg16_8, ↓hg16_9, ↓hg16_10, hw16_10, ↓hv16, ↓hx16, ha17, hu17, ↓hl17, ha18, hu18, ↓hl18, ha19, hu19, ↓hl19, ha20, hu20, ↓hl20, ha21, hu21, ↓hl21, ha22, hu22, ↓hl22, ha23, hu23, ↓hl23, ha24, hu24, ↓hl24, ha25, hu25, ↓hl25, ↓mo_ns_r, ↓hn0, ↓mo_cs_s, ↓mo_xs_r, ↓mo_xs_l, ↓mo_nl_s, mo_z_0, mo_z_1, ea, hM1]
      rw [p2]
      simp (disch := omega) only [↓hg15_0, ↓hg15_1, ↓hg15_2, ↓hg15_3, hw15_3, ↓hg15_4, hw15_4, ↓hg15_5, hw15_5, ↓hg15_6, hw15_6, ↓hg15_7, hw15_7, ↓hg15_8, hw15_8, ↓hg15_9, hw15_9, ↓hg15_10, hw15_10, ↓hg15_11, hw15_11, ↓hg15_12, hw15_12, ↓hg15_13, hw15_13, ↓hg15_14, hw15_14, ↓hv15, ↓hx15, ha29, hu29, ↓hl29, ↓hg16_0, ↓hg16_1, ↓hg16_2, ↓hg16_3, ↓hg16_4, ↓hg16_5, hw16_5, ↓hg16_6, ↓hg16_7, ↓hg16_8, ↓hg16_9, ↓hg16_10, hw16_10, ↓hv16, ↓hx16, ha17, hu17, ↓hl17, ha18, hu18, ↓hl18, ha19, hu19, ↓hl19, ha20, hu20, ↓hl20, ha21, hu21, ↓hl21, ha22, hu22, ↓hl22, ha23, hu23, ↓hl23, ha24, hu24, ↓hl24, ha25, hu25, ↓hl25, ↓mo_ns_r, ↓hn0, ↓mo_cs_s, ↓mo_xs_r, ↓mo_xs_l, ↓mo_nl_s, mo_z_0, mo_z_1]
      rw [p1]
      simp (disch := omega) only [ji1, ji2, ji3, ji4, ji5, ji6, ji7, ji8, ji9, ji10, ji11, ji12, ji13, ji14, ji15, ji16, ji19, ji20, ji24, ji31, ji32, ji39, ji45, ji48, ji57, ji58, ji59, ji60, ji97, ji100, ji119, ji120, ji122, ji144, ji200, ji226, ji240, ji255, ji300, ji366, ji400, ji500, ji1000, jI_z, ↓jI_m1, jI_add, jI_sub, jI_mul, ↓hg15_0, ↓hg15_1, ↓hg15_2, ↓hg15_3, hw15_3, ↓hg15_4, hw15_4, ↓hg15_5, hw15_5, ↓hg15_6, hw15_6, ↓hg15_7, hw15_7, ↓hg15_8, hw15_8, ↓hg15_9, hw15_9, ↓hg15_10, hw15_10, ↓hg15_11, hw15_11, ↓hg15_12, hw15_12, ↓hg15_13, hw15_13, ↓hg15_14, hw15_14, ↓hv15, ↓hx15, ha29, hu29, ↓hl29, ↓hg16_0, ↓hg16_1, ↓hg16_2, ↓hg16_3, ↓hg16_4, ↓hg16_5, hw16_5, ↓hg16_6, ↓hg16_7, ↓hg16_8, ↓hg16_9, ↓hg16_10, hw16_10, ↓hv16, ↓hx16, ha17, hu17, ↓hl17, ha18, hu18, ↓hl18, ha19, hu19, ↓hl19, ha20, hu20, ↓hl20, ha21, hu21, ↓hl21, ha22, hu22, ↓hl22, ha23, hu23, ↓hl23, ha24, hu24, ↓hl24, ha25, hu25, ↓hl25, ↓mo_ns_r, ↓hn0, ↓mo_cs_s, ↓mo_xs_r, ↓mo_xs_l, ↓mo_nl_s, mo_z_0, mo_z_1, jI_eq, g0, show ¬ (0 : Int) = 1 by omega, if_false]
      rw [r1]
      simp (disch := omega) only [ji1, ji2, ji3, ji4, ji5, ji6, ji7, ji8, ji9, ji10, ji11, ji12, ji13, ji14, ji15, ji16, ji19, ji20, ji24, ji31, ji32, ji39, ji45, ji48, ji57, ji58, ji59, ji60, ji97, ji100, ji119, ji120, ji122, ji144, ji200, ji226, ji240, ji255, ji300, ji366, ji400, ji500, ji1000, jI_z, ↓jI_m1, jI_add, jI_sub, jI_mul, ↓hg15_0, ↓hg15_1, ↓hg15_2, ↓hg15_3, hw15_3, ↓hg15_4, hw15_4, ↓hg15_5, hw15_5, ↓hg15_6, hw15_6, ↓hg15_7, hw15_7, ↓hg15_8, hw15_8, ↓hg15_9, hw15_9, ↓hg15_10, hw15_10, ↓hg15_11, hw15_11, ↓hg15_12, hw15_12, ↓hg15_13, hw15_13, ↓hg15_14, hw15_14, ↓hv15, ↓hx15, ha29, hu29, ↓hl29, ↓hg16_0, ↓hg16_1, ↓hg16_2, ↓hg16_3, ↓hg16_4, ↓hg16_5, hw16_5, ↓hg16_6, ↓hg16_7, ↓hg16_8, ↓hg16_9, ↓hg16_10, hw16_10, ↓hv16, ↓hx16, ha17, hu17, ↓hl17, ha18, hu18, ↓hl18, ha19, hu19, ↓hl19, ha20, hu20, ↓hl20, ha21, hu21, ↓hl21, ha22, hu22, ↓hl22, ha23, hu23, ↓hl23, ha24, hu24, ↓hl24, ha25, hu25, ↓hl25, ↓mo_ns_r, ↓hn0, ↓mo_cs_s, ↓mo_xs_r, ↓mo_xs_l, ↓mo_nl_s, mo_z_0, mo_z_1, jI_eq, hne, if_false, hV]
      rw [s1]
      simp (disch := omega) only [ji1, ji2, ji3, ji4, ji5, ji6, ji7, ji8, ji9, ji10, ji11, ji12, ji13, ji14, ji15, ji16, ji19, ji20, ji24, ji31, ji32, ji39, ji45, ji48, ji57, ji58, ji59, ji60, ji97, ji100, ji119, ji120, ji122, ji144, ji200, ji226, ji240, ji255, ji300, ji366, ji400, ji500, ji1000, jI_z, ↓jI_m1, jI_add, jI_sub, jI_mul, ↓hg15_0, ↓hg15_1, ↓hg15_2, ↓hg15_3, hw15_3, ↓hg15_4, hw15_4, ↓hg15_5, hw15_5, ↓hg15_6, hw15_6, ↓hg15_7, hw15_7, ↓hg15_8, hw15_8, ↓hg15_9, hw15_9, ↓hg15_10, hw15_10, ↓hg15_11, hw15_11, ↓hg15_12, hw15_12, ↓hg15_13, hw15_13, ↓hg15_14, hw15_14, ↓hv15, ↓hx15, ha29, hu29, ↓hl29, ↓hg16_0, ↓hg16_1, ↓hg16_2, ↓hg16_3, ↓hg16_4, ↓hg16_5, hw16_5, ↓hg16_6, ↓hg16_7, ↓hg16_8, ↓hg16_9, ↓hg16_10, hw16_10, ↓hv16, ↓hx16, ha17, hu17, ↓hl17, ha18, hu18, ↓hl18, ha19, hu19, ↓hl19, ha20, hu20, ↓hl20, ha21, hu21, ↓hl21, ha22, hu22, ↓hl22, ha23, hu23, ↓hl23, ha24, hu24, ↓hl24, ha25, hu25, ↓hl25, ↓mo_ns_r, ↓hn0, ↓mo_cs_s, ↓mo_xs_r, ↓mo_xs_l, ↓mo_nl_s, mo_z_0, mo_z_1]
      rw [hb25]
      simp (disch := omega) only [↓mo_ns_r, ↓hn0, ↓mo_cs_s, ↓mo_xs_r, ↓mo_xs_l, ↓mo_nl_s, mo_z_0, mo_z_1]
theorem X4_ha_l {z b : Nat} {c : hCf} {s0 : hS} {t : Int} (hb : b = 1 ∨ b = 8) (hc : okC c) (ht : 0 ≤ t ∧ t < 200) (hs0 : s0.1.length ≤ 120) : ∀ (n k : Nat) (s : hS) (M : hM) (f : Nat) (pre r : List Nat) (v8 : Int32), k + n = s0.1.length → zJ c t k s → zX t s0 s → CR M c b t k s → qL t s0.1 0 = pre ++ r → r = qL t (s0.1.drop k) k → (∀ a : Nat, r[0]? = some a → v8 = jI a) → r.length < f →
    ∃ M', m_X4_handleArrivals_l21 (z + 15) (jI t) f (hp S z M) (jI ((pre ++ r).length : Nat)) v8 (jI (pre.length : Nat)) = some ((), hp S z M') ∧ CR M' c b t (k + n) (zArr c t n k s) ∧ Fr 15 28 M M' ∧ Wr M M' := by
  intro n
  induction n with
  | zero =>
    intro k s M f pre r v8 hk hz hx h hq hr hv hf
    obtain ⟨f, rfl⟩ : ∃ g, f = g + 1 := ⟨f - 1, by omega⟩
    have hr0 : r = [] := by rw [hr, List.drop_eq_nil_of_le (by omega)]; rfl
    subst hr0
    refine ⟨M, ?_, h, Fr.rfl', Wr.rfl'⟩
    have hpl : pre.length < 1000 := by
      have := qL_len (u := t) s0.1 0
      rw [hq] at this
      simp only [List.length_append, List.length_nil] at this
      omega
    unfold m_X4_handleArrivals_l21
    rw [List.append_nil, if_neg (by rw [jI_lt (by omega) (by omega) (by omega) (by omega)]; omega)]
  | succ n ih =>
    intro k s M f pre r v8 hk hz hx h hq hr hv hf
    obtain ⟨f, rfl⟩ : ∃ g, f = g + 1 := ⟨f - 1, by omega⟩
    have hx0 : s0.1[k]? = some s0.1[k] := List.getElem?_eq_getElem (by omega)
    generalize hxx : s0.1[k] = x at hx0
    have hdr : s0.1.drop k = x :: s0.1.drop (k + 1) := by rw [← hxx]; exact List.drop_eq_getElem_cons (by omega)
    have hx' : s.1[k]? = some x := by
      obtain ⟨ex, e, _⟩ := hx
      rw [e, List.getElem?_append_left (by omega)]; exact hx0
    have ho : okT c t x := by obtain ⟨T, O, W, B, N, J, K, C⟩ := s; exact hz.1.2.1 x (List.mem_of_getElem? hx')
    obtain ⟨o1, o2, o3, o4, o5, o6⟩ := ho
    have hql : (pre ++ r).length < 1000 := by
      have := qL_len (u := t) s0.1 0
      rw [hq] at this
      omega
    rw [hdr] at hr
    simp only [qL] at hr
    simp only [zArr]
    by_cases hy : zIs t k s.1 = true
    · have hy' := hy
      rw [zIs_some hx'] at hy'
      simp only [decide_eq_true_eq] at hy'
      have hone : ∃ a : Nat, a / 2 = k ∧ r = a :: qL t (s0.1.drop (k + 1)) (k + 1) := by
        rcases hy' with g | g
        · rw [if_pos g, if_neg (by omega)] at hr
          exact ⟨2 * k, by omega, hr⟩
        · rw [if_neg (by omega), if_pos g] at hr
          exact ⟨2 * k + 1, by omega, hr⟩
      obtain ⟨a, ha, hra⟩ := hone
      have hlen : (pre ++ r).length = pre.length + r.length := List.length_append
      have hrl : r.length = (qL t (s0.1.drop (k + 1)) (k + 1)).length + 1 := by rw [hra]; rfl
      have hv8 := hv a (by rw [hra]; rfl)
      subst hv8
      have hlt : jI (pre.length : Nat) < jI ((pre ++ r).length : Nat) := by
        rw [jI_lt (by omega) (by omega) (by omega) (by omega)]; omega
      obtain ⟨M1, r1, r2, r3, r4⟩ := X4_one (S := S) (z := z) (f := f) hb hc h hz ht hx' hy ha hlt
      obtain ⟨g1, g2⟩ := zJ_hand hc hz ht.1 hx' hy
      have hx2 := hx.trans g2
      rw [if_pos hy]
      have hL := (CR_get r1).2.2.2.2.1.2.1 t.toNat (by omega)
      rw [Int.toNat_of_nonneg ht.1, qL_z hx2 ht.1, hq, hra] at hL
      obtain ⟨M', q1, q2, q3, q4⟩ := ih (k + 1) (zHand c t k s) M1 f (pre ++ [a]) (qL t (s0.1.drop (k + 1)) (k + 1)) (jI (gA M1 25 a)) (by omega) g1 hx2 r1 (by rw [hq, hra]; simp) rfl
        (fun a' ha' => by
          congr 1
          exact hL.2.1 pre.length a a' (by rw [List.getElem?_append_right (Nat.le_refl _), Nat.sub_self]; rfl) (by rw [List.getElem?_append_right (by omega), Nat.add_sub_cancel_left]; simpa using ha')) (by omega)
      refine ⟨M', ?_, by rw [show k + (n + 1) = k + 1 + n from by omega]; exact q2, r2.trans q3, r3.trans q4⟩
      rw [r4, jI_add, hlen, hrl]
      simp only [List.length_append, List.length_cons, List.length_nil] at q1
      rw [show ((pre.length + (0 + 1) : Nat) : Int) = (pre.length : Int) + 1 from by omega, show pre.length + (0 + 1) + (qL t (s0.1.drop (k + 1)) (k + 1)).length = pre.length + ((qL t (s0.1.drop (k + 1)) (k + 1)).length + 1) from by omega] at q1
      exact q1
    · have hy' := hy
      rw [zIs_some hx'] at hy'
      simp only [decide_eq_true_eq, not_or] at hy'
      rw [if_neg hy'.1, if_neg hy'.2, List.nil_append, List.nil_append] at hr
      rw [if_neg hy]
      obtain ⟨M', q1, q2, q3, q4⟩ := ih (k + 1) s M (f + 1) pre r v8 (by omega) (zJ_skip hz hx' hy) hx (CR_skip h (hnd_n hx' hy).2) hq hr hv hf
      exact ⟨M', q1, by rw [show k + (n + 1) = k + 1 + n from by omega]; exact q2, q3, q4⟩


/-! addFault -/
theorem i10 : ((1 : Int) = 0) = False := eq_false (by decide)
abbrev okA (kd nm am : Int) : Prop := (0 ≤ nm ∧ nm < 120) ∧ ((kd = 2 ∧ 1 ≤ am ∧ am ≤ 20) ∨ ((kd = 0 ∨ kd = 1) ∧ am = 0))
theorem X6_if1 {kd nm am : Int} (h : okA kd nm am) (σ : ac_H) : m_X6_isFault σ (jI kd) (jI nm) (jI am) = some (jI 1, σ) := by
  obtain ⟨h1, h2⟩ := h
  unfold m_X6_isFault m_X6_isFault_j43
  simp (disch := omega) only [ji1, ji2, ji3, ji4, ji5, ji6, ji7, ji8, ji9, ji10, ji11, ji12, ji13, ji14, ji15, ji16, ji19, ji20, ji39, ji119, ji144, ji366, ji24, ji31, ji32, ji45, ji48, ji57, ji58, ji59, ji97, ji120, ji122, ji183, ji200, ji226, ji240, ji255, ji500, jI_z, ↓jI_m1, jI_add, jI_sub, jI_mul, jI_lt, jI_eq, ↓mo_cs_s, ↓mo_xs_r, ↓mo_xs_l, ↓mo_nl_s, mo_z_0, mo_z_1]
  repeat' split
  all_goals first | (exfalso; omega) | rfl
theorem X6_if0 {kd nm am : Int} (hk : okW kd) (hn : okW nm) (ha : okW am) (h : ¬ okA kd nm am) (σ : ac_H) : m_X6_isFault σ (jI kd) (jI nm) (jI am) = some (jI 0, σ) := by
  have h' : ¬ ((0 ≤ nm ∧ nm < 120) ∧ ((kd = 2 ∧ 1 ≤ am ∧ am ≤ 20) ∨ ((kd = 0 ∨ kd = 1) ∧ am = 0))) := h
  obtain ⟨k0, k1⟩ := hk
  obtain ⟨n0, n1⟩ := hn
  obtain ⟨a0, a1⟩ := ha
  unfold m_X6_isFault m_X6_isFault_j43
  simp (disch := omega) only [ji1, ji2, ji3, ji4, ji5, ji6, ji7, ji8, ji9, ji10, ji11, ji12, ji13, ji14, ji15, ji16, ji19, ji20, ji39, ji119, ji144, ji366, ji24, ji31, ji32, ji45, ji48, ji57, ji58, ji59, ji97, ji120, ji122, ji183, ji200, ji226, ji240, ji255, ji500, jI_z, ↓jI_m1, jI_add, jI_sub, jI_mul, jI_lt, jI_eq, ↓mo_cs_s, ↓mo_xs_r, ↓mo_xs_l, ↓mo_nl_s, mo_z_0, mo_z_1]
  repeat' split
  all_goals first | (exfalso; omega) | rfl
theorem fnd_in {kd nm : Int} {l : List hF} (hl : l.length ≤ 10) : -1 ≤ fnd kd nm l 0 ∧ fnd kd nm l 0 ≤ 10 := by
  rcases fnd_get (kd := kd) (nm := nm) l 0 with h | ⟨j, x, h1, h2, _⟩
  · omega
  · have := (List.getElem?_eq_some_iff.mp h2).1
    omega
theorem plc_in {kd nm : Int} {l : List hF} : plc kd nm l 0 0 ≤ l.length := by
  have := plc_le (kd := kd) (nm := nm) l 0 0 (Nat.le_refl _)
  omega
theorem okC.ins {c : hCf} (h : okC c) {p : Nat} {x : hF} (hp' : p ≤ c.2.length) (hl : c.2.length < 10) (hx : okF x) : okC (c.1, c.2.insertIdx p x) := by
  refine ⟨by show (c.2.insertIdx p x).length ≤ 10; rw [List.length_insertIdx]; split <;> omega, fun y hy => ?_, h.2.2⟩
  rcases (List.mem_insertIdx hp').mp hy with e | e
  · rw [e]; exact hx
  · exact h.2.1 y e
theorem okA_F {kd nm am : Int} (h : okA kd nm am) : okF (kd, nm, am) := by
  obtain ⟨h1, h2⟩ := h
  exact ⟨by show 0 ≤ kd; omega, by show kd ≤ 2; omega, h1.1, h1.2, by show 0 ≤ am; omega, by show am ≤ 20; omega⟩
/-- promise 20 -/
def cI (c : hCf) (kd nm am : Int) : hCf := (c.1, c.2.insertIdx (plc kd nm c.2 0 0) (kd, nm, am))
def rAdd (q : hQ) (kd nm am : Int) : hR := if okA kd nm am then (if fnd kd nm q.1.1.2 0 = -1 ∧ q.1.1.2.length < 10 then (0, (plc kd nm q.1.1.2 0 0 : Nat), (cI q.1.1 kd nm am, q.1.2), keepsV q.2.1 q.1, q.2.2) else (2, 0, q)) else (1, 0, q)
theorem C_add {z : Nat} {M : hM} {q : hQ} {kd nm am : Int} (h : CI M q) (ho : okQ q) (hk : okW kd) (hn : okW nm) (ha : okW am) : OC z M (m_X6_addFault (hp z M) z (jI kd) (jI nm) (jI am)) eS (rAdd q kd nm am) := by
  have hB := h.1.1
  have hc := ho.1.1
  have hl := hc.1
  have e8 := hB.2.1
  have hfi := fnd_in (kd := kd) (nm := nm) hl
  unfold rAdd
  by_cases g : okA kd nm am
  · rw [if_pos g]
    have hF := okA_F g
    have pre : ∀ r, (if (q.1.1.2.length : Int) < 10 then (if fnd kd nm q.1.1.2 0 = -1 then (mo_cs (m_X6_remember (hp z M) z) fun _ σ9 => mo_gr σ9 z 6 0 fun x10 => mo_cv σ9 x10 0 (m_X0_insert σ9 x10 (jI kd) (jI nm) (jI am)) fun x12 σ11 => some (.inr x12, σ11)) else some (.inl "java/lang/IllegalStateException", hp z M)) else some (.inl "java/lang/IllegalStateException", hp z M)) = r → m_X6_addFault (hp z M) z (jI kd) (jI nm) (jI am) = r := by
      intro r hr
      rw [← hr]
      unfold m_X6_addFault
      rw [X6_if1 g]
      simp (disch := omega) only [↓mo_cs_s, ↓mo_xs_r, ↓mo_xs_l, ↓mo_nl_s, mo_z_0, mo_z_1, ji1, ji2, ji3, ji4, ji5, ji6, ji7, ji8, ji9, ji10, ji11, ji12, ji13, ji14, ji15, ji16, ji19, ji20, ji39, ji119, ji144, ji366, ji24, ji31, ji32, ji45, ji48, ji57, ji58, ji59, ji97, ji120, ji122, ji183, ji200, ji226, ji240, ji255, ji500, jI_z, ↓jI_m1, jI_add, jI_sub, jI_mul, j10, if_false, ↓hg0_0, ↓hg0_1, ↓hg0_2, ↓hg0_3, ↓hg0_4, ↓hg0_5, hw0_5, ↓hg0_6, ↓hg0_7, ↓hv0, ↓hx0, ha132, hu132, ↓hl132, ↓Bv (b := 1) rfl]
      rw [X0_count (b := 1) rfl]
      simp (disch := omega) only [↓mo_cs_s, ↓mo_xs_r, ↓mo_xs_l, ↓mo_nl_s, mo_z_0, mo_z_1, e8, jI_lt, ↓hg0_0, ↓hg0_1, ↓hg0_2, ↓hg0_3, ↓hg0_4, ↓hg0_5, hw0_5, ↓hg0_6, ↓hg0_7, ↓hv0, ↓hx0, ha132, hu132, ↓hl132, ↓Bv (b := 1) rfl]
      rw [X0_find (b := 1) rfl hB hc hk hn]
      simp (disch := omega) only [↓mo_cs_s, ↓mo_xs_r, ↓mo_xs_l, ↓mo_nl_s, mo_z_0, mo_z_1, jI_eq, ↓hg0_0, ↓hg0_1, ↓hg0_2, ↓hg0_3, ↓hg0_4, ↓hg0_5, hw0_5, ↓hg0_6, ↓hg0_7, ↓hv0, ↓hx0, ha132, hu132, ↓hl132]
    by_cases g2 : fnd kd nm q.1.1.2 0 = -1 ∧ q.1.1.2.length < 10
    · rw [if_pos g2]
      obtain ⟨M1, r1, r2, r3, r4⟩ := X6_keep (z := z) h ho
      obtain ⟨M2, s1, s2, s3, s4⟩ := X0_ins (z := z) (b := 1) (am := am) rfl r4.1 hc g2.2 hk hn
      refine oc_c (u' := (cI q.1.1 kd nm am, q.1.2)) h ho r2 r3 (FE.of s3 s4 (by omega) (by omega)) ⟨s2, r4.2.keep s3 (by omega)⟩ (pre _ ?_)
      rw [if_pos (by omega), if_pos g2.1, r1]
      simp (disch := omega) only [↓mo_cs_s, ↓mo_xs_r, ↓mo_xs_l, ↓mo_nl_s, mo_z_0, mo_z_1, ↓hg0_0, ↓hg0_1, ↓hg0_2, ↓hg0_3, ↓hg0_4, ↓hg0_5, hw0_5, ↓hg0_6, ↓hg0_7, ↓hv0, ↓hx0, ha132, hu132, ↓hl132, ↓Bv (b := 1) rfl]
      rw [s1]
      simp (disch := omega) only [↓mo_cs_s, ↓mo_xs_r, ↓mo_xs_l, ↓mo_nl_s, mo_z_0, mo_z_1]
    · rw [if_neg g2]
      refine OC.no h (by decide) (pre _ ?_)
      by_cases g3 : (q.1.1.2.length : Int) < 10
      · rw [if_pos g3, if_neg (fun hh => g2 ⟨hh, by omega⟩)]; rfl
      · rw [if_neg g3]; rfl
  · rw [if_neg g]
    refine OC.no h (by decide) ?_
    unfold m_X6_addFault
    rw [X6_if0 hk hn ha g]
    simp (disch := omega) only [↓mo_cs_s, ↓mo_xs_r, ↓mo_xs_l, ↓mo_nl_s, mo_z_0, mo_z_1, ji1, ji2, ji3, ji4, ji5, ji6, ji7, ji8, ji9, ji10, ji11, ji12, ji13, ji14, ji15, ji16, ji19, ji20, ji39, ji119, ji144, ji366, ji24, ji31, ji32, ji45, ji48, ji57, ji58, ji59, ji97, ji120, ji122, ji183, ji200, ji226, ji240, ji255, ji500, jI_z, ↓jI_m1, jI_add, jI_sub, jI_mul, if_true]
    rfl
theorem X7_af1 {z : Nat} {M : hM} {kd nm am : Int} (g : okA kd nm am) : m_X7_addFault (hp z M) (z + 133) (jI kd) (jI nm) (jI am) = m_X7_addFault_j64 (z + 133) (jI kd) (jI nm) (jI am) (hp z (sI M 133 0 0)) (jI 0) (z + 133) := by
  obtain ⟨h1, h2⟩ := g
  have w1 := X7_wi1 (v := kd) (lo := 0) (hi := 2) (okW_n (by omega) (by omega)) (okW_n (by omega) (by omega)) (okW_n (by omega) (by omega)) (by omega) (hp z (sI M 133 0 0))
  have w2 := X7_wi1 (v := nm) (lo := 0) (hi := 119) (okW_n (by omega) (by omega)) (okW_n (by omega) (by omega)) (okW_n (by omega) (by omega)) (by omega) (hp z (sI M 133 0 0))
  unfold m_X7_addFault m_X7_addFault_j51
  simp (disch := omega) only [ji1, ji2, ji3, ji4, ji5, ji6, ji7, ji8, ji9, ji10, ji11, ji12, ji13, ji14, ji15, ji16, ji19, ji20, ji39, ji119, ji144, ji366, ji24, ji31, ji32, ji45, ji48, ji57, ji58, ji59, ji97, ji120, ji122, ji183, ji200, ji226, ji240, ji255, ji500, jI_z, ↓jI_m1, jI_add, jI_sub, jI_mul, ↓hg133_0, hw133_0, ↓hg133_1, ↓hg133_2, ↓hg133_3, hw133_3, ↓hg133_4, hw133_4, ↓hg133_5, hw133_5, ↓hg133_6, hw133_6, ↓hg133_7, hw133_7, ↓hg133_8, hw133_8, ↓hg133_9, hw133_9, ↓hg133_10, hw133_10, ↓hg133_11, hw133_11, ↓hg133_12, hw133_12, ↓hg133_13, ↓hg133_14, hw133_14, ↓hg133_15, ↓hg133_16, ↓hg133_17, ↓hg133_18, ↓hg133_19, ↓hg133_20, ↓hg133_21, hw133_21, ↓hg133_22, ↓hg133_23, hw133_23, ↓hg133_24, hw133_24, ↓hg133_25, hw133_25, ↓hg133_26, hw133_26, ↓hg133_27, hw133_27, ↓hg133_28, ↓hg133_29, hw133_29, ↓hg133_30, hw133_30, ↓hg133_31, hw133_31, ↓hg133_32, hw133_32, ↓hg133_33, hw133_33, ↓hg133_34, hw133_34, ↓hg133_35, hw133_35, ↓hg133_36, hw133_36, ↓hg133_37, ↓hg133_38, ↓hg133_39, ↓hv133, ↓hx133, ha134, hu134, ↓hl134, ha135, hu135, ↓hl135, ha136, hu136, ↓hl136, ha137, hu137, ↓hl137, ha138, hu138, ↓hl138, ha139, hu139, ↓hl139, ha140, hu140, ↓hl140, ha141, hu141, ↓hl141, ha142, hu142, ↓hl142, ha143, hu143, ↓hl143, ha144, hu144, ↓hl144, ha145, hu145, ↓hl145, ha146, hu146, ↓hl146, ha147, hu147, ↓hl147]
  rw [w1]
  simp (disch := omega) only [↓mo_cs_s, ↓mo_xs_r, ↓mo_xs_l, ↓mo_nl_s, mo_z_0, mo_z_1, j10, if_false]
  rw [w2]
  simp (disch := omega) only [↓mo_cs_s, ↓mo_xs_r, ↓mo_xs_l, ↓mo_nl_s, mo_z_0, mo_z_1, j10, i10, if_false, if_true, jI_eq]
  by_cases e2 : kd = 2
  · have w3 := X7_wi1 (v := am) (lo := 1) (hi := 20) (okW_n (by omega) (by omega)) (okW_n (by omega) (by omega)) (okW_n (by omega) (by omega)) (by omega) (hp z (sI M 133 0 0))
    rw [if_pos e2, w3]
    simp (disch := omega) only [↓mo_cs_s, ↓mo_xs_r, ↓mo_xs_l, ↓mo_nl_s, mo_z_0, mo_z_1, j10, i10, if_false, jI_eq]
  · rw [if_neg e2, if_pos (show am = 0 by omega)]
theorem X7_af0 {z : Nat} {M : hM} {kd nm am : Int} (hk : okW kd) (hn : okW nm) (ha : okW am) (g : ¬ okA kd nm am) : m_X7_addFault (hp z M) (z + 133) (jI kd) (jI nm) (jI am) = m_X7_addFault_j64 (z + 133) (jI kd) (jI nm) (jI am) (hp z (sI M 133 0 0)) (jI 1) (z + 133) := by
  have h' : ¬ ((0 ≤ nm ∧ nm < 120) ∧ ((kd = 2 ∧ 1 ≤ am ∧ am ≤ 20) ∨ ((kd = 0 ∨ kd = 1) ∧ am = 0))) := g
  unfold m_X7_addFault m_X7_addFault_j51
  simp (disch := omega) only [ji1, ji2, ji3, ji4, ji5, ji6, ji7, ji8, ji9, ji10, ji11, ji12, ji13, ji14, ji15, ji16, ji19, ji20, ji39, ji119, ji144, ji366, ji24, ji31, ji32, ji45, ji48, ji57, ji58, ji59, ji97, ji120, ji122, ji183, ji200, ji226, ji240, ji255, ji500, jI_z, ↓jI_m1, jI_add, jI_sub, jI_mul, ↓hg133_0, hw133_0, ↓hg133_1, ↓hg133_2, ↓hg133_3, hw133_3, ↓hg133_4, hw133_4, ↓hg133_5, hw133_5, ↓hg133_6, hw133_6, ↓hg133_7, hw133_7, ↓hg133_8, hw133_8, ↓hg133_9, hw133_9, ↓hg133_10, hw133_10, ↓hg133_11, hw133_11, ↓hg133_12, hw133_12, ↓hg133_13, ↓hg133_14, hw133_14, ↓hg133_15, ↓hg133_16, ↓hg133_17, ↓hg133_18, ↓hg133_19, ↓hg133_20, ↓hg133_21, hw133_21, ↓hg133_22, ↓hg133_23, hw133_23, ↓hg133_24, hw133_24, ↓hg133_25, hw133_25, ↓hg133_26, hw133_26, ↓hg133_27, hw133_27, ↓hg133_28, ↓hg133_29, hw133_29, ↓hg133_30, hw133_30, ↓hg133_31, hw133_31, ↓hg133_32, hw133_32, ↓hg133_33, hw133_33, ↓hg133_34, hw133_34, ↓hg133_35, hw133_35, ↓hg133_36, hw133_36, ↓hg133_37, ↓hg133_38, ↓hg133_39, ↓hv133, ↓hx133, ha134, hu134, ↓hl134, ha135, hu135, ↓hl135, ha136, hu136, ↓hl136, ha137, hu137, ↓hl137, ha138, hu138, ↓hl138, ha139, hu139, ↓hl139, ha140, hu140, ↓hl140, ha141, hu141, ↓hl141, ha142, hu142, ↓hl142, ha143, hu143, ↓hl143, ha144, hu144, ↓hl144, ha145, hu145, ↓hl145, ha146, hu146, ↓hl146, ha147, hu147, ↓hl147]
  by_cases g1 : 0 ≤ kd ∧ kd ≤ 2
  · rw [X7_wi1 hk (okW_n (by omega) (by omega)) (okW_n (by omega) (by omega)) g1]
    simp (disch := omega) only [↓mo_cs_s, ↓mo_xs_r, ↓mo_xs_l, ↓mo_nl_s, mo_z_0, mo_z_1, j10, if_false]
    by_cases g2 : 0 ≤ nm ∧ nm ≤ 119
    · rw [X7_wi1 hn (okW_n (by omega) (by omega)) (okW_n (by omega) (by omega)) g2]
      obtain ⟨a0, a1⟩ := ha
      simp (disch := omega) only [↓mo_cs_s, ↓mo_xs_r, ↓mo_xs_l, ↓mo_nl_s, mo_z_0, mo_z_1, j10, i10, if_false, if_true, jI_eq]
      by_cases e2 : kd = 2
      · rw [if_pos e2, X7_wi0 ⟨a0, a1⟩ (okW_n (by omega) (by omega)) (okW_n (by omega) (by omega)) (by omega)]
        simp (disch := omega) only [↓mo_cs_s, ↓mo_xs_r, ↓mo_xs_l, ↓mo_nl_s, mo_z_0, mo_z_1, if_true]
      · rw [if_neg e2, if_neg (show ¬ am = 0 by omega)]
    · rw [X7_wi0 hn (okW_n (by omega) (by omega)) (okW_n (by omega) (by omega)) g2]
      simp (disch := omega) only [↓mo_cs_s, ↓mo_xs_r, ↓mo_xs_l, ↓mo_nl_s, mo_z_0, mo_z_1, if_true]
  · rw [X7_wi0 hk (okW_n (by omega) (by omega)) (okW_n (by omega) (by omega)) g1]
    simp (disch := omega) only [↓mo_cs_s, ↓mo_xs_r, ↓mo_xs_l, ↓mo_nl_s, mo_z_0, mo_z_1, if_true]
theorem M_add {z : Nat} {M : hM} {q : hQ} {kd nm am : Int} (h : MI M q) (ho : okQ q) (hk : okW kd) (hn : okW nm) (ha : okW am) : OM z M (m_X7_addFault (hp z M) (z + 133) (jI kd) (jI nm) (jI am)) (rAdd q kd nm am) := by
  have h0 := h.sI0 (v := 0)
  have hR0 := h0.1.1
  have hc := ho.1.1
  have hl := hc.1
  have e8 := hR0.ok8
  have hfi := fnd_in (kd := kd) (nm := nm) hl
  unfold rAdd
  by_cases g : okA kd nm am
  · rw [if_pos g]
    have hF := okA_F g
    have hpl := X7_pl (z := z) (Or.inl rfl) hR0 hc hk hn
    by_cases g2 : fnd kd nm q.1.1.2 0 = -1 ∧ q.1.1.2.length < 10
    · rw [if_pos g2]
      obtain ⟨M1, r1, r2, r3, r4⟩ := X7_keep (z := z) h0 ho
      obtain ⟨M2, s1, s2, s3⟩ := X7_co (z := z) (a := 134) (am := am) (Or.inl rfl) hc r4.1 g2.2 ⟨hF.1, hF.2.1⟩ ⟨hF.2.2.1, hF.2.2.2.1⟩ g2.1
      refine om_c (u' := (cI q.1.1 kd nm am, q.1.2)) h r2 r3 s3.n (UR_fr r4 s3 s2) ?_
      rw [X7_af1 g]
      unfold m_X7_addFault_j64 m_X7_addFault_j102
      simp (disch := omega) only [ji1, ji2, ji3, ji4, ji5, ji6, ji7, ji8, ji9, ji10, ji11, ji12, ji13, ji14, ji15, ji16, ji19, ji20, ji39, ji119, ji144, ji366, ji24, ji31, ji32, ji45, ji48, ji57, ji58, ji59, ji97, ji120, ji122, ji183, ji200, ji226, ji240, ji255, ji500, jI_z, ↓jI_m1, jI_add, jI_sub, jI_mul, ↓hg133_0, hw133_0, ↓hg133_1, ↓hg133_2, ↓hg133_3, hw133_3, ↓hg133_4, hw133_4, ↓hg133_5, hw133_5, ↓hg133_6, hw133_6, ↓hg133_7, hw133_7, ↓hg133_8, hw133_8, ↓hg133_9, hw133_9, ↓hg133_10, hw133_10, ↓hg133_11, hw133_11, ↓hg133_12, hw133_12, ↓hg133_13, ↓hg133_14, hw133_14, ↓hg133_15, ↓hg133_16, ↓hg133_17, ↓hg133_18, ↓hg133_19, ↓hg133_20, ↓hg133_21, hw133_21, ↓hg133_22, ↓hg133_23, hw133_23, ↓hg133_24, hw133_24, ↓hg133_25, hw133_25, ↓hg133_26, hw133_26, ↓hg133_27, hw133_27, ↓hg133_28, ↓hg133_29, hw133_29, ↓hg133_30, hw133_30, ↓hg133_31, hw133_31, ↓hg133_32, hw133_32, ↓hg133_33, hw133_33, ↓hg133_34, hw133_34, ↓hg133_35, hw133_35, ↓hg133_36, hw133_36, ↓hg133_37, ↓hg133_38, ↓hg133_39, ↓hv133, ↓hx133, ha134, hu134, ↓hl134, ha135, hu135, ↓hl135, ha136, hu136, ↓hl136, ha137, hu137, ↓hl137, ha138, hu138, ↓hl138, ha139, hu139, ↓hl139, ha140, hu140, ↓hl140, ha141, hu141, ↓hl141, ha142, hu142, ↓hl142, ha143, hu143, ↓hl143, ha144, hu144, ↓hl144, ha145, hu145, ↓hl145, ha146, hu146, ↓hl146, ha147, hu147, ↓hl147]
      rw [X7_th0 sI00]
      simp (disch := omega) only [↓mo_cs_s, ↓mo_xs_r, ↓mo_xs_l, ↓mo_nl_s, mo_z_0, mo_z_1, if_true, ↓hg133_0, hw133_0, ↓hg133_1, ↓hg133_2, ↓hg133_3, hw133_3, ↓hg133_4, hw133_4, ↓hg133_5, hw133_5, ↓hg133_6, hw133_6, ↓hg133_7, hw133_7, ↓hg133_8, hw133_8, ↓hg133_9, hw133_9, ↓hg133_10, hw133_10, ↓hg133_11, hw133_11, ↓hg133_12, hw133_12, ↓hg133_13, ↓hg133_14, hw133_14, ↓hg133_15, ↓hg133_16, ↓hg133_17, ↓hg133_18, ↓hg133_19, ↓hg133_20, ↓hg133_21, hw133_21, ↓hg133_22, ↓hg133_23, hw133_23, ↓hg133_24, hw133_24, ↓hg133_25, hw133_25, ↓hg133_26, hw133_26, ↓hg133_27, hw133_27, ↓hg133_28, ↓hg133_29, hw133_29, ↓hg133_30, hw133_30, ↓hg133_31, hw133_31, ↓hg133_32, hw133_32, ↓hg133_33, hw133_33, ↓hg133_34, hw133_34, ↓hg133_35, hw133_35, ↓hg133_36, hw133_36, ↓hg133_37, ↓hg133_38, ↓hg133_39, ↓hv133, ↓hx133, ha134, hu134, ↓hl134, ha135, hu135, ↓hl135, ha136, hu136, ↓hl136, ha137, hu137, ↓hl137, ha138, hu138, ↓hl138, ha139, hu139, ↓hl139, ha140, hu140, ↓hl140, ha141, hu141, ↓hl141, ha142, hu142, ↓hl142, ha143, hu143, ↓hl143, ha144, hu144, ↓hl144, ha145, hu145, ↓hl145, ha146, hu146, ↓hl146, ha147, hu147, ↓hl147]
      rw [hpl]
      simp (disch := omega) only [↓mo_cs_s, ↓mo_xs_r, ↓mo_xs_l, ↓mo_nl_s, mo_z_0, mo_z_1, jI_eq, g2.1, if_true, ↓hg133_0, hw133_0, ↓hg133_1, ↓hg133_2, ↓hg133_3, hw133_3, ↓hg133_4, hw133_4, ↓hg133_5, hw133_5, ↓hg133_6, hw133_6, ↓hg133_7, hw133_7, ↓hg133_8, hw133_8, ↓hg133_9, hw133_9, ↓hg133_10, hw133_10, ↓hg133_11, hw133_11, ↓hg133_12, hw133_12, ↓hg133_13, ↓hg133_14, hw133_14, ↓hg133_15, ↓hg133_16, ↓hg133_17, ↓hg133_18, ↓hg133_19, ↓hg133_20, ↓hg133_21, hw133_21, ↓hg133_22, ↓hg133_23, hw133_23, ↓hg133_24, hw133_24, ↓hg133_25, hw133_25, ↓hg133_26, hw133_26, ↓hg133_27, hw133_27, ↓hg133_28, ↓hg133_29, hw133_29, ↓hg133_30, hw133_30, ↓hg133_31, hw133_31, ↓hg133_32, hw133_32, ↓hg133_33, hw133_33, ↓hg133_34, hw133_34, ↓hg133_35, hw133_35, ↓hg133_36, hw133_36, ↓hg133_37, ↓hg133_38, ↓hg133_39, ↓hv133, ↓hx133, ha134, hu134, ↓hl134, ha135, hu135, ↓hl135, ha136, hu136, ↓hl136, ha137, hu137, ↓hl137, ha138, hu138, ↓hl138, ha139, hu139, ↓hl139, ha140, hu140, ↓hl140, ha141, hu141, ↓hl141, ha142, hu142, ↓hl142, ha143, hu143, ↓hl143, ha144, hu144, ↓hl144, ha145, hu145, ↓hl145, ha146, hu146, ↓hl146, ha147, hu147, ↓hl147, e8]
      rw [if_neg (by omega), X7_th0 sI00]
      simp (disch := omega) only [↓mo_cs_s, ↓mo_xs_r, ↓mo_xs_l, ↓mo_nl_s, mo_z_0, mo_z_1, if_true, ↓hg133_0, hw133_0, ↓hg133_1, ↓hg133_2, ↓hg133_3, hw133_3, ↓hg133_4, hw133_4, ↓hg133_5, hw133_5, ↓hg133_6, hw133_6, ↓hg133_7, hw133_7, ↓hg133_8, hw133_8, ↓hg133_9, hw133_9, ↓hg133_10, hw133_10, ↓hg133_11, hw133_11, ↓hg133_12, hw133_12, ↓hg133_13, ↓hg133_14, hw133_14, ↓hg133_15, ↓hg133_16, ↓hg133_17, ↓hg133_18, ↓hg133_19, ↓hg133_20, ↓hg133_21, hw133_21, ↓hg133_22, ↓hg133_23, hw133_23, ↓hg133_24, hw133_24, ↓hg133_25, hw133_25, ↓hg133_26, hw133_26, ↓hg133_27, hw133_27, ↓hg133_28, ↓hg133_29, hw133_29, ↓hg133_30, hw133_30, ↓hg133_31, hw133_31, ↓hg133_32, hw133_32, ↓hg133_33, hw133_33, ↓hg133_34, hw133_34, ↓hg133_35, hw133_35, ↓hg133_36, hw133_36, ↓hg133_37, ↓hg133_38, ↓hg133_39, ↓hv133, ↓hx133, ha134, hu134, ↓hl134, ha135, hu135, ↓hl135, ha136, hu136, ↓hl136, ha137, hu137, ↓hl137, ha138, hu138, ↓hl138, ha139, hu139, ↓hl139, ha140, hu140, ↓hl140, ha141, hu141, ↓hl141, ha142, hu142, ↓hl142, ha143, hu143, ↓hl143, ha144, hu144, ↓hl144, ha145, hu145, ↓hl145, ha146, hu146, ↓hl146, ha147, hu147, ↓hl147]
      rw [r1]
      simp (disch := omega) only [↓mo_cs_s, ↓mo_xs_r, ↓mo_xs_l, ↓mo_nl_s, mo_z_0, mo_z_1, ↓hg133_0, hw133_0, ↓hg133_1, ↓hg133_2, ↓hg133_3, hw133_3, ↓hg133_4, hw133_4, ↓hg133_5, hw133_5, ↓hg133_6, hw133_6, ↓hg133_7, hw133_7, ↓hg133_8, hw133_8, ↓hg133_9, hw133_9, ↓hg133_10, hw133_10, ↓hg133_11, hw133_11, ↓hg133_12, hw133_12, ↓hg133_13, ↓hg133_14, hw133_14, ↓hg133_15, ↓hg133_16, ↓hg133_17, ↓hg133_18, ↓hg133_19, ↓hg133_20, ↓hg133_21, hw133_21, ↓hg133_22, ↓hg133_23, hw133_23, ↓hg133_24, hw133_24, ↓hg133_25, hw133_25, ↓hg133_26, hw133_26, ↓hg133_27, hw133_27, ↓hg133_28, ↓hg133_29, hw133_29, ↓hg133_30, hw133_30, ↓hg133_31, hw133_31, ↓hg133_32, hw133_32, ↓hg133_33, hw133_33, ↓hg133_34, hw133_34, ↓hg133_35, hw133_35, ↓hg133_36, hw133_36, ↓hg133_37, ↓hg133_38, ↓hg133_39, ↓hv133, ↓hx133, ha134, hu134, ↓hl134, ha135, hu135, ↓hl135, ha136, hu136, ↓hl136, ha137, hu137, ↓hl137, ha138, hu138, ↓hl138, ha139, hu139, ↓hl139, ha140, hu140, ↓hl140, ha141, hu141, ↓hl141, ha142, hu142, ↓hl142, ha143, hu143, ↓hl143, ha144, hu144, ↓hl144, ha145, hu145, ↓hl145, ha146, hu146, ↓hl146, ha147, hu147, ↓hl147]
      rw [s1]
      simp (disch := omega) only [↓mo_cs_s, ↓mo_xs_r, ↓mo_xs_l, ↓mo_nl_s, mo_z_0, mo_z_1]
    · rw [if_neg g2]
      refine OM.no h (by decide) ?_
      rw [X7_af1 g]
      unfold m_X7_addFault_j64 m_X7_addFault_j102
      simp (disch := omega) only [ji1, ji2, ji3, ji4, ji5, ji6, ji7, ji8, ji9, ji10, ji11, ji12, ji13, ji14, ji15, ji16, ji19, ji20, ji39, ji119, ji144, ji366, ji24, ji31, ji32, ji45, ji48, ji57, ji58, ji59, ji97, ji120, ji122, ji183, ji200, ji226, ji240, ji255, ji500, jI_z, ↓jI_m1, jI_add, jI_sub, jI_mul, ↓hg133_0, hw133_0, ↓hg133_1, ↓hg133_2, ↓hg133_3, hw133_3, ↓hg133_4, hw133_4, ↓hg133_5, hw133_5, ↓hg133_6, hw133_6, ↓hg133_7, hw133_7, ↓hg133_8, hw133_8, ↓hg133_9, hw133_9, ↓hg133_10, hw133_10, ↓hg133_11, hw133_11, ↓hg133_12, hw133_12, ↓hg133_13, ↓hg133_14, hw133_14, ↓hg133_15, ↓hg133_16, ↓hg133_17, ↓hg133_18, ↓hg133_19, ↓hg133_20, ↓hg133_21, hw133_21, ↓hg133_22, ↓hg133_23, hw133_23, ↓hg133_24, hw133_24, ↓hg133_25, hw133_25, ↓hg133_26, hw133_26, ↓hg133_27, hw133_27, ↓hg133_28, ↓hg133_29, hw133_29, ↓hg133_30, hw133_30, ↓hg133_31, hw133_31, ↓hg133_32, hw133_32, ↓hg133_33, hw133_33, ↓hg133_34, hw133_34, ↓hg133_35, hw133_35, ↓hg133_36, hw133_36, ↓hg133_37, ↓hg133_38, ↓hg133_39, ↓hv133, ↓hx133, ha134, hu134, ↓hl134, ha135, hu135, ↓hl135, ha136, hu136, ↓hl136, ha137, hu137, ↓hl137, ha138, hu138, ↓hl138, ha139, hu139, ↓hl139, ha140, hu140, ↓hl140, ha141, hu141, ↓hl141, ha142, hu142, ↓hl142, ha143, hu143, ↓hl143, ha144, hu144, ↓hl144, ha145, hu145, ↓hl145, ha146, hu146, ↓hl146, ha147, hu147, ↓hl147]
      rw [X7_th0 sI00]
      simp (disch := omega) only [↓mo_cs_s, ↓mo_xs_r, ↓mo_xs_l, ↓mo_nl_s, mo_z_0, mo_z_1, if_true, ↓hg133_0, hw133_0, ↓hg133_1, ↓hg133_2, ↓hg133_3, hw133_3, ↓hg133_4, hw133_4, ↓hg133_5, hw133_5, ↓hg133_6, hw133_6, ↓hg133_7, hw133_7, ↓hg133_8, hw133_8, ↓hg133_9, hw133_9, ↓hg133_10, hw133_10, ↓hg133_11, hw133_11, ↓hg133_12, hw133_12, ↓hg133_13, ↓hg133_14, hw133_14, ↓hg133_15, ↓hg133_16, ↓hg133_17, ↓hg133_18, ↓hg133_19, ↓hg133_20, ↓hg133_21, hw133_21, ↓hg133_22, ↓hg133_23, hw133_23, ↓hg133_24, hw133_24, ↓hg133_25, hw133_25, ↓hg133_26, hw133_26, ↓hg133_27, hw133_27, ↓hg133_28, ↓hg133_29, hw133_29, ↓hg133_30, hw133_30, ↓hg133_31, hw133_31, ↓hg133_32, hw133_32, ↓hg133_33, hw133_33, ↓hg133_34, hw133_34, ↓hg133_35, hw133_35, ↓hg133_36, hw133_36, ↓hg133_37, ↓hg133_38, ↓hg133_39, ↓hv133, ↓hx133, ha134, hu134, ↓hl134, ha135, hu135, ↓hl135, ha136, hu136, ↓hl136, ha137, hu137, ↓hl137, ha138, hu138, ↓hl138, ha139, hu139, ↓hl139, ha140, hu140, ↓hl140, ha141, hu141, ↓hl141, ha142, hu142, ↓hl142, ha143, hu143, ↓hl143, ha144, hu144, ↓hl144, ha145, hu145, ↓hl145, ha146, hu146, ↓hl146, ha147, hu147, ↓hl147]
      rw [hpl]
      simp (disch := omega) only [↓mo_cs_s, ↓mo_xs_r, ↓mo_xs_l, ↓mo_nl_s, mo_z_0, mo_z_1, jI_eq, ↓hg133_0, hw133_0, ↓hg133_1, ↓hg133_2, ↓hg133_3, hw133_3, ↓hg133_4, hw133_4, ↓hg133_5, hw133_5, ↓hg133_6, hw133_6, ↓hg133_7, hw133_7, ↓hg133_8, hw133_8, ↓hg133_9, hw133_9, ↓hg133_10, hw133_10, ↓hg133_11, hw133_11, ↓hg133_12, hw133_12, ↓hg133_13, ↓hg133_14, hw133_14, ↓hg133_15, ↓hg133_16, ↓hg133_17, ↓hg133_18, ↓hg133_19, ↓hg133_20, ↓hg133_21, hw133_21, ↓hg133_22, ↓hg133_23, hw133_23, ↓hg133_24, hw133_24, ↓hg133_25, hw133_25, ↓hg133_26, hw133_26, ↓hg133_27, hw133_27, ↓hg133_28, ↓hg133_29, hw133_29, ↓hg133_30, hw133_30, ↓hg133_31, hw133_31, ↓hg133_32, hw133_32, ↓hg133_33, hw133_33, ↓hg133_34, hw133_34, ↓hg133_35, hw133_35, ↓hg133_36, hw133_36, ↓hg133_37, ↓hg133_38, ↓hg133_39, ↓hv133, ↓hx133, ha134, hu134, ↓hl134, ha135, hu135, ↓hl135, ha136, hu136, ↓hl136, ha137, hu137, ↓hl137, ha138, hu138, ↓hl138, ha139, hu139, ↓hl139, ha140, hu140, ↓hl140, ha141, hu141, ↓hl141, ha142, hu142, ↓hl142, ha143, hu143, ↓hl143, ha144, hu144, ↓hl144, ha145, hu145, ↓hl145, ha146, hu146, ↓hl146, ha147, hu147, ↓hl147, e8]
      rw [X7_th1 sI00 (by omega)]
      simp (disch := omega) only [↓mo_cs_s, ↓mo_xs_r, ↓mo_xs_l, ↓mo_nl_s, mo_z_0, mo_z_1, j10, if_false]
      by_cases g3 : fnd kd nm q.1.1.2 0 = -1
      · rw [if_pos g3, if_pos (by omega)]
      · rw [if_neg g3]
  · rw [if_neg g]
    refine OM.no h (by decide) ?_
    rw [X7_af0 hk hn ha g]
    unfold m_X7_addFault_j64
    simp (disch := omega) only [ji1, ji2, ji3, ji4, ji5, ji6, ji7, ji8, ji9, ji10, ji11, ji12, ji13, ji14, ji15, ji16, ji19, ji20, ji39, ji119, ji144, ji366, ji24, ji31, ji32, ji45, ji48, ji57, ji58, ji59, ji97, ji120, ji122, ji183, ji200, ji226, ji240, ji255, ji500, jI_z, ↓jI_m1, jI_add, jI_sub, jI_mul, ↓hg133_0, hw133_0, ↓hg133_1, ↓hg133_2, ↓hg133_3, hw133_3, ↓hg133_4, hw133_4, ↓hg133_5, hw133_5, ↓hg133_6, hw133_6, ↓hg133_7, hw133_7, ↓hg133_8, hw133_8, ↓hg133_9, hw133_9, ↓hg133_10, hw133_10, ↓hg133_11, hw133_11, ↓hg133_12, hw133_12, ↓hg133_13, ↓hg133_14, hw133_14, ↓hg133_15, ↓hg133_16, ↓hg133_17, ↓hg133_18, ↓hg133_19, ↓hg133_20, ↓hg133_21, hw133_21, ↓hg133_22, ↓hg133_23, hw133_23, ↓hg133_24, hw133_24, ↓hg133_25, hw133_25, ↓hg133_26, hw133_26, ↓hg133_27, hw133_27, ↓hg133_28, ↓hg133_29, hw133_29, ↓hg133_30, hw133_30, ↓hg133_31, hw133_31, ↓hg133_32, hw133_32, ↓hg133_33, hw133_33, ↓hg133_34, hw133_34, ↓hg133_35, hw133_35, ↓hg133_36, hw133_36, ↓hg133_37, ↓hg133_38, ↓hg133_39, ↓hv133, ↓hx133, ha134, hu134, ↓hl134, ha135, hu135, ↓hl135, ha136, hu136, ↓hl136, ha137, hu137, ↓hl137, ha138, hu138, ↓hl138, ha139, hu139, ↓hl139, ha140, hu140, ↓hl140, ha141, hu141, ↓hl141, ha142, hu142, ↓hl142, ha143, hu143, ↓hl143, ha144, hu144, ↓hl144, ha145, hu145, ↓hl145, ha146, hu146, ↓hl146, ha147, hu147, ↓hl147]
    rw [X7_th1 sI00 (by omega)]
    simp (disch := omega) only [↓mo_cs_s, ↓mo_xs_r, ↓mo_xs_l, ↓mo_nl_s, mo_z_0, mo_z_1, j10, if_false]

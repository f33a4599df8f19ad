/-! QUESTIONS: attack, weakPoints, timerFor, isRecorded, size, results of the run. -/
theorem oc_q {z : Nat} {M M' : hM} {q : hQ} {o : Option ((String ⊕ Int32) × ac_H)} {e : Int → String} {v : Int} (f : FD M M') (h : CI M q) (ho : okQ q) (r : o = some (.inr (jI v), hp z M')) : OC z M o e (0, v, q) := FD.oc f h ho r
theorem od_q {z : Nat} {M M' : hM} {q : hQ} {o : Option (Int32 × ac_H)} {v : Int} (f : FD M M') (h : CI M q) (ho : okQ q) (r : o = some (jI v, hp z M')) : OD z M o (0, v, q) := ⟨M', r, f.ci h ho, f.km⟩
def atI (o : Option hF) (p : Int) : Int := match o with
  | none => -1
  | some x => prtF x p
/-- promise 16 -/
def rAttack (q : hQ) (p w : Int) : hR := if 0 ≤ p ∧ p < 4 then (if 0 ≤ w ∧ w ≤ 2 then (0, atI (atkV q.1.1 p.toNat) w, q) else (1, 0, q)) else (1, 0, q)
theorem C_attack {z : Nat} {M : hM} {q : hQ} {p w : Int} (h : CI M q) (ho : okQ q) (hp' : okW p) (hw : okW w) : OC z M (m_X6_attack (hp z M) z (jI p) (jI w)) eA (rAttack q p w) := by
  obtain ⟨w0, w1⟩ := hw
  unfold rAttack
  by_cases g : 0 ≤ p ∧ p < 4
  · rw [if_pos g]
    obtain ⟨p, rfl⟩ : ∃ i : Nat, p = i := ⟨p.toNat, by omega⟩
    by_cases g2 : 0 ≤ w ∧ w ≤ 2
    · rw [if_pos g2]
      obtain ⟨M1, r1, r2, r3, r4⟩ := X6_fa (z := z) (p := p) h.1.1 ho.1.1 (by omega)
      simp only [Int.toNat_natCast]
      have n1 : ¬ w < 0 := by omega
      have n2 : ¬ 2 < w := by omega
      cases hb : brk (q.1.1.1, []) p with
      | true =>
        rw [r3 hb]
        refine oc_q r2 h ho ?_
        unfold m_X6_attack
        rw [X6_cp1 (by omega)]
        simp (disch := omega) only [↓mo_cs_s, ↓mo_xs_r, ↓mo_xs_l, ↓mo_nl_s, mo_z_0, mo_z_1, ji1, ji2, ji3, ji4, ji5, ji6, ji7, ji8, ji9, ji10, ji11, ji12, ji13, ji14, ji15, ji16, ji19, ji20, ji39, ji119, ji144, ji366, ji24, ji31, ji32, ji45, ji48, ji57, ji58, ji59, ji97, ji120, ji122, ji183, ji200, ji226, ji240, ji255, ji500, jI_z, ↓jI_m1, jI_add, jI_sub, jI_mul, jI_lt, n1, n2, if_false, ↓hg0_0, ↓hg0_1, ↓hg0_2, ↓hg0_3, ↓hg0_4, ↓hg0_5, hw0_5, ↓hg0_6, ↓hg0_7, ↓hv0, ↓hx0, ha132, hu132, ↓hl132]
        rw [r1, hb]
        simp (disch := omega) only [↓mo_cs_s, ↓mo_xs_r, ↓mo_xs_l, ↓mo_nl_s, mo_z_0, mo_z_1, ji1, ji2, ji3, ji4, ji5, ji6, ji7, ji8, ji9, ji10, ji11, ji12, ji13, ji14, ji15, ji16, ji19, ji20, ji39, ji119, ji144, ji366, ji24, ji31, ji32, ji45, ji48, ji57, ji58, ji59, ji97, ji120, ji122, ji183, ji200, ji226, ji240, ji255, ji500, jI_z, ↓jI_m1, jI_add, jI_sub, jI_mul, b2i_0, Bool.true_eq_false, if_false]
        rfl
      | false =>
        obtain ⟨k5, M2, k1, k2, k3⟩ := r4 hb
        refine oc_q k2 h ho ?_
        unfold m_X6_attack
        rw [X6_cp1 (by omega)]
        simp (disch := omega) only [↓mo_cs_s, ↓mo_xs_r, ↓mo_xs_l, ↓mo_nl_s, mo_z_0, mo_z_1, ji1, ji2, ji3, ji4, ji5, ji6, ji7, ji8, ji9, ji10, ji11, ji12, ji13, ji14, ji15, ji16, ji19, ji20, ji39, ji119, ji144, ji366, ji24, ji31, ji32, ji45, ji48, ji57, ji58, ji59, ji97, ji120, ji122, ji183, ji200, ji226, ji240, ji255, ji500, jI_z, ↓jI_m1, jI_add, jI_sub, jI_mul, jI_lt, n1, n2, if_false, ↓hg0_0, ↓hg0_1, ↓hg0_2, ↓hg0_3, ↓hg0_4, ↓hg0_5, hw0_5, ↓hg0_6, ↓hg0_7, ↓hv0, ↓hx0, ha132, hu132, ↓hl132]
        rw [r1, hb]
        unfold m_X4_line m_X2_sentCount
        simp (disch := omega) only [↓mo_cs_s, ↓mo_xs_r, ↓mo_xs_l, ↓mo_nl_s, mo_z_0, mo_z_1, ji1, ji2, ji3, ji4, ji5, ji6, ji7, ji8, ji9, ji10, ji11, ji12, ji13, ji14, ji15, ji16, ji19, ji20, ji39, ji119, ji144, ji366, ji24, ji31, ji32, ji45, ji48, ji57, ji58, ji59, ji97, ji120, ji122, ji183, ji200, ji226, ji240, ji255, ji500, jI_z, ↓jI_m1, jI_add, jI_sub, jI_mul, b2i_0, if_true, ↓hg0_0, ↓hg0_1, ↓hg0_2, ↓hg0_3, ↓hg0_4, ↓hg0_5, hw0_5, ↓hg0_6, ↓hg0_7, ↓hv0, ↓hx0, ha132, hu132, ↓hl132, ↓hg15_0, ↓hg15_1, ↓hg15_2, ↓hg15_3, hw15_3, ↓hg15_4, hw15_4, ↓hg15_5, hw15_5, ↓hg15_6, hw15_6, ↓hg15_7, hw15_7, ↓hg15_8, hw15_8, ↓hg15_9, hw15_9, ↓hg15_10, hw15_10, ↓hg15_11, hw15_11, ↓hg15_12, hw15_12, ↓hg15_13, hw15_13, ↓hg15_14, hw15_14, ↓hv15, ↓hx15, ha29, hu29, ↓hl29, ↓hg16_0, ↓hg16_1, ↓hg16_2, ↓hg16_3, ↓hg16_4, ↓hg16_5, hw16_5, ↓hg16_6, ↓hg16_7, ↓hg16_8, ↓hg16_9, ↓hg16_10, hw16_10, ↓hv16, ↓hx16, ha17, hu17, ↓hl17, ha18, hu18, ↓hl18, ha19, hu19, ↓hl19, ha20, hu20, ↓hl20, ha21, hu21, ↓hl21, ha22, hu22, ↓hl22, ha23, hu23, ↓hl23, ha24, hu24, ↓hl24, ha25, hu25, ↓hl25, k5]
        rw [k1]
        revert k3
        cases atkV q.1.1 p with
        | none => intro _; simp (disch := omega) only [↓mo_cs_s, ↓mo_xs_r, ↓mo_xs_l, ↓mo_nl_s, mo_z_0, mo_z_1, Option.isSome_none, b2i_0, if_true]; rfl
        | some x =>
          intro r3
          obtain ⟨k1, k2⟩ := r3 x rfl
          simp (disch := omega) only [↓mo_cs_s, ↓mo_xs_r, ↓mo_xs_l, ↓mo_nl_s, mo_z_0, mo_z_1, Option.isSome_some, b2i_0, Bool.true_eq_false, if_false, ↓hg0_0, ↓hg0_1, ↓hg0_2, ↓hg0_3, ↓hg0_4, ↓hg0_5, hw0_5, ↓hg0_6, ↓hg0_7, ↓hv0, ↓hx0, ha132, hu132, ↓hl132, ↓Bv (b := 8) rfl]
          rw [show jI 0 = jI ((0 : Nat) : Int) from rfl, X0_part (b := 8) (i := 0) (x := x) rfl k1 (ho.1.1.one k2) rfl g2.1 g2.2]
          rfl
    · rw [if_neg g2]
      refine OC.no h (by decide) ?_
      unfold m_X6_attack
      rw [X6_cp1 (by omega)]
      simp (disch := omega) only [↓mo_cs_s, ↓mo_xs_r, ↓mo_xs_l, ↓mo_nl_s, mo_z_0, mo_z_1, ji1, ji2, ji3, ji4, ji5, ji6, ji7, ji8, ji9, ji10, ji11, ji12, ji13, ji14, ji15, ji16, ji19, ji20, ji39, ji119, ji144, ji366, ji24, ji31, ji32, ji45, ji48, ji57, ji58, ji59, ji97, ji120, ji122, ji183, ji200, ji226, ji240, ji255, ji500, jI_z, ↓jI_m1, jI_add, jI_sub, jI_mul, jI_lt]
      by_cases g3 : w < 0
      · rw [if_pos g3]; rfl
      · rw [if_neg g3, if_pos (by omega)]; rfl
  · rw [if_neg g]
    refine OC.no h (by decide) ?_
    unfold m_X6_attack
    rw [X6_cp0 hp' g]
    simp only [↓mo_cs_s, ↓mo_xs_r, ↓mo_xs_l, ↓mo_nl_s, mo_z_0, mo_z_1]
    rfl
theorem M_attack {z : Nat} {M : hM} {q : hQ} {p w : Int} (h : MI M q) (ho : okQ q) (hp' : okW p) (hw : okW w) : OM z M (m_X7_attack (hp z M) (z + 133) (jI p) (jI w)) (rAttack q p w) := by
  unfold rAttack
  by_cases g : 0 ≤ p ∧ p < 4
  · rw [if_pos g]
    obtain ⟨p, rfl⟩ : ∃ i : Nat, p = i := ⟨p.toNat, by omega⟩
    by_cases g2 : 0 ≤ w ∧ w ≤ 2
    · rw [if_pos g2]
      have wi := X7_wi1 (v := w) (lo := 0) (hi := 2) hw (okW_n (by omega) (by omega)) (okW_n (by omega) (by omega)) g2 (hp z (sI M 133 0 0))
      obtain ⟨w0, w1⟩ := hw
      obtain ⟨M1, r1, r2, r3⟩ := X7_fa (z := z) (M := sI M 133 0 0) (p := p) h.sI0.1.1 ho.1.1 (by omega)
      simp only [Int.toNat_natCast]
      refine omq r2 h ?_
      unfold m_X7_attack m_X7_attack_j29
      simp (disch := omega) only [ji1, ji2, ji3, ji4, ji5, ji6, ji7, ji8, ji9, ji10, ji11, ji12, ji13, ji14, ji15, ji16, ji19, ji20, ji39, ji119, ji144, ji366, ji24, ji31, ji32, ji45, ji48, ji57, ji58, ji59, ji97, ji120, ji122, ji183, ji200, ji226, ji240, ji255, ji500, jI_z, ↓jI_m1, jI_add, jI_sub, jI_mul, ↓hg133_0, hw133_0, ↓hg133_1, ↓hg133_2, ↓hg133_3, hw133_3, ↓hg133_4, hw133_4, ↓hg133_5, hw133_5, ↓hg133_6, hw133_6, ↓hg133_7, hw133_7, ↓hg133_8, hw133_8, ↓hg133_9, hw133_9, ↓hg133_10, hw133_10, ↓hg133_11, hw133_11, ↓hg133_12, hw133_12, ↓hg133_13, ↓hg133_14, hw133_14, ↓hg133_15, ↓hg133_16, ↓hg133_17, ↓hg133_18, ↓hg133_19, ↓hg133_20, ↓hg133_21, hw133_21, ↓hg133_22, ↓hg133_23, hw133_23, ↓hg133_24, hw133_24, ↓hg133_25, hw133_25, ↓hg133_26, hw133_26, ↓hg133_27, hw133_27, ↓hg133_28, ↓hg133_29, hw133_29, ↓hg133_30, hw133_30, ↓hg133_31, hw133_31, ↓hg133_32, hw133_32, ↓hg133_33, hw133_33, ↓hg133_34, hw133_34, ↓hg133_35, hw133_35, ↓hg133_36, hw133_36, ↓hg133_37, ↓hg133_38, ↓hg133_39, ↓hv133, ↓hx133, ha134, hu134, ↓hl134, ha135, hu135, ↓hl135, ha136, hu136, ↓hl136, ha137, hu137, ↓hl137, ha138, hu138, ↓hl138, ha139, hu139, ↓hl139, ha140, hu140, ↓hl140, ha141, hu141, ↓hl141, ha142, hu142, ↓hl142, ha143, hu143, ↓hl143, ha144, hu144, ↓hl144, ha145, hu145, ↓hl145, ha146, hu146, ↓hl146, ha147, hu147, ↓hl147]
      rw [X7_np0 sI00 (by omega)]
      simp (disch := omega) only [↓mo_cs_s, ↓mo_xs_r, ↓mo_xs_l, ↓mo_nl_s, mo_z_0, mo_z_1, if_true, ↓hg133_0, hw133_0, ↓hg133_1, ↓hg133_2, ↓hg133_3, hw133_3, ↓hg133_4, hw133_4, ↓hg133_5, hw133_5, ↓hg133_6, hw133_6, ↓hg133_7, hw133_7, ↓hg133_8, hw133_8, ↓hg133_9, hw133_9, ↓hg133_10, hw133_10, ↓hg133_11, hw133_11, ↓hg133_12, hw133_12, ↓hg133_13, ↓hg133_14, hw133_14, ↓hg133_15, ↓hg133_16, ↓hg133_17, ↓hg133_18, ↓hg133_19, ↓hg133_20, ↓hg133_21, hw133_21, ↓hg133_22, ↓hg133_23, hw133_23, ↓hg133_24, hw133_24, ↓hg133_25, hw133_25, ↓hg133_26, hw133_26, ↓hg133_27, hw133_27, ↓hg133_28, ↓hg133_29, hw133_29, ↓hg133_30, hw133_30, ↓hg133_31, hw133_31, ↓hg133_32, hw133_32, ↓hg133_33, hw133_33, ↓hg133_34, hw133_34, ↓hg133_35, hw133_35, ↓hg133_36, hw133_36, ↓hg133_37, ↓hg133_38, ↓hg133_39, ↓hv133, ↓hx133, ha134, hu134, ↓hl134, ha135, hu135, ↓hl135, ha136, hu136, ↓hl136, ha137, hu137, ↓hl137, ha138, hu138, ↓hl138, ha139, hu139, ↓hl139, ha140, hu140, ↓hl140, ha141, hu141, ↓hl141, ha142, hu142, ↓hl142, ha143, hu143, ↓hl143, ha144, hu144, ↓hl144, ha145, hu145, ↓hl145, ha146, hu146, ↓hl146, ha147, hu147, ↓hl147]
      rw [wi]
      simp (disch := omega) only [↓mo_cs_s, ↓mo_xs_r, ↓mo_xs_l, ↓mo_nl_s, mo_z_0, mo_z_1, j10, if_false, ↓hg133_0, hw133_0, ↓hg133_1, ↓hg133_2, ↓hg133_3, hw133_3, ↓hg133_4, hw133_4, ↓hg133_5, hw133_5, ↓hg133_6, hw133_6, ↓hg133_7, hw133_7, ↓hg133_8, hw133_8, ↓hg133_9, hw133_9, ↓hg133_10, hw133_10, ↓hg133_11, hw133_11, ↓hg133_12, hw133_12, ↓hg133_13, ↓hg133_14, hw133_14, ↓hg133_15, ↓hg133_16, ↓hg133_17, ↓hg133_18, ↓hg133_19, ↓hg133_20, ↓hg133_21, hw133_21, ↓hg133_22, ↓hg133_23, hw133_23, ↓hg133_24, hw133_24, ↓hg133_25, hw133_25, ↓hg133_26, hw133_26, ↓hg133_27, hw133_27, ↓hg133_28, ↓hg133_29, hw133_29, ↓hg133_30, hw133_30, ↓hg133_31, hw133_31, ↓hg133_32, hw133_32, ↓hg133_33, hw133_33, ↓hg133_34, hw133_34, ↓hg133_35, hw133_35, ↓hg133_36, hw133_36, ↓hg133_37, ↓hg133_38, ↓hg133_39, ↓hv133, ↓hx133, ha134, hu134, ↓hl134, ha135, hu135, ↓hl135, ha136, hu136, ↓hl136, ha137, hu137, ↓hl137, ha138, hu138, ↓hl138, ha139, hu139, ↓hl139, ha140, hu140, ↓hl140, ha141, hu141, ↓hl141, ha142, hu142, ↓hl142, ha143, hu143, ↓hl143, ha144, hu144, ↓hl144, ha145, hu145, ↓hl145, ha146, hu146, ↓hl146, ha147, hu147, ↓hl147]
      rw [X7_th0 sI00]
      simp (disch := omega) only [↓mo_cs_s, ↓mo_xs_r, ↓mo_xs_l, ↓mo_nl_s, mo_z_0, mo_z_1, if_true, ↓hg133_0, hw133_0, ↓hg133_1, ↓hg133_2, ↓hg133_3, hw133_3, ↓hg133_4, hw133_4, ↓hg133_5, hw133_5, ↓hg133_6, hw133_6, ↓hg133_7, hw133_7, ↓hg133_8, hw133_8, ↓hg133_9, hw133_9, ↓hg133_10, hw133_10, ↓hg133_11, hw133_11, ↓hg133_12, hw133_12, ↓hg133_13, ↓hg133_14, hw133_14, ↓hg133_15, ↓hg133_16, ↓hg133_17, ↓hg133_18, ↓hg133_19, ↓hg133_20, ↓hg133_21, hw133_21, ↓hg133_22, ↓hg133_23, hw133_23, ↓hg133_24, hw133_24, ↓hg133_25, hw133_25, ↓hg133_26, hw133_26, ↓hg133_27, hw133_27, ↓hg133_28, ↓hg133_29, hw133_29, ↓hg133_30, hw133_30, ↓hg133_31, hw133_31, ↓hg133_32, hw133_32, ↓hg133_33, hw133_33, ↓hg133_34, hw133_34, ↓hg133_35, hw133_35, ↓hg133_36, hw133_36, ↓hg133_37, ↓hg133_38, ↓hg133_39, ↓hv133, ↓hx133, ha134, hu134, ↓hl134, ha135, hu135, ↓hl135, ha136, hu136, ↓hl136, ha137, hu137, ↓hl137, ha138, hu138, ↓hl138, ha139, hu139, ↓hl139, ha140, hu140, ↓hl140, ha141, hu141, ↓hl141, ha142, hu142, ↓hl142, ha143, hu143, ↓hl143, ha144, hu144, ↓hl144, ha145, hu145, ↓hl145, ha146, hu146, ↓hl146, ha147, hu147, ↓hl147]
      rw [r1]
      revert r3
      cases atkV q.1.1 p with
      | none => intro _; simp (disch := omega) only [↓mo_cs_s, ↓mo_xs_r, ↓mo_xs_l, ↓mo_nl_s, mo_z_0, mo_z_1, Option.isSome_none, b2i_0, if_true]; rfl
      | some x =>
        intro r3
        obtain ⟨k1, k2, k3⟩ := r3 x rfl
        simp (disch := omega) only [↓mo_cs_s, ↓mo_xs_r, ↓mo_xs_l, ↓mo_nl_s, mo_z_0, mo_z_1, Option.isSome_some, b2i_0, Bool.true_eq_false, if_false, jI_eq, ↓hg133_0, hw133_0, ↓hg133_1, ↓hg133_2, ↓hg133_3, hw133_3, ↓hg133_4, hw133_4, ↓hg133_5, hw133_5, ↓hg133_6, hw133_6, ↓hg133_7, hw133_7, ↓hg133_8, hw133_8, ↓hg133_9, hw133_9, ↓hg133_10, hw133_10, ↓hg133_11, hw133_11, ↓hg133_12, hw133_12, ↓hg133_13, ↓hg133_14, hw133_14, ↓hg133_15, ↓hg133_16, ↓hg133_17, ↓hg133_18, ↓hg133_19, ↓hg133_20, ↓hg133_21, hw133_21, ↓hg133_22, ↓hg133_23, hw133_23, ↓hg133_24, hw133_24, ↓hg133_25, hw133_25, ↓hg133_26, hw133_26, ↓hg133_27, hw133_27, ↓hg133_28, ↓hg133_29, hw133_29, ↓hg133_30, hw133_30, ↓hg133_31, hw133_31, ↓hg133_32, hw133_32, ↓hg133_33, hw133_33, ↓hg133_34, hw133_34, ↓hg133_35, hw133_35, ↓hg133_36, hw133_36, ↓hg133_37, ↓hg133_38, ↓hg133_39, ↓hv133, ↓hx133, ha134, hu134, ↓hl134, ha135, hu135, ↓hl135, ha136, hu136, ↓hl136, ha137, hu137, ↓hl137, ha138, hu138, ↓hl138, ha139, hu139, ↓hl139, ha140, hu140, ↓hl140, ha141, hu141, ↓hl141, ha142, hu142, ↓hl142, ha143, hu143, ↓hl143, ha144, hu144, ↓hl144, ha145, hu145, ↓hl145, ha146, hu146, ↓hl146, ha147, hu147, ↓hl147, k1, k2, k3]
        show _ = some (jI (prtF x w), _)
        unfold prtF
        by_cases e0 : w = 0
        · rw [if_pos e0, if_pos e0]
        · by_cases e1 : w = 1
          · rw [if_neg e0, if_neg e0, if_pos e1, if_pos e1]
          · rw [if_neg e0, if_neg e0, if_neg e1, if_neg e1]
    · rw [if_neg g2]
      have wi := X7_wi0 (v := w) (lo := 0) (hi := 2) hw (okW_n (by omega) (by omega)) (okW_n (by omega) (by omega)) g2 (hp z (sI M 133 0 0))
      refine OM.no h (by decide) ?_
      unfold m_X7_attack m_X7_attack_j29
      simp (disch := omega) only [ji1, ji2, ji3, ji4, ji5, ji6, ji7, ji8, ji9, ji10, ji11, ji12, ji13, ji14, ji15, ji16, ji19, ji20, ji39, ji119, ji144, ji366, ji24, ji31, ji32, ji45, ji48, ji57, ji58, ji59, ji97, ji120, ji122, ji183, ji200, ji226, ji240, ji255, ji500, jI_z, ↓jI_m1, jI_add, jI_sub, jI_mul, ↓hg133_0, hw133_0, ↓hg133_1, ↓hg133_2, ↓hg133_3, hw133_3, ↓hg133_4, hw133_4, ↓hg133_5, hw133_5, ↓hg133_6, hw133_6, ↓hg133_7, hw133_7, ↓hg133_8, hw133_8, ↓hg133_9, hw133_9, ↓hg133_10, hw133_10, ↓hg133_11, hw133_11, ↓hg133_12, hw133_12, ↓hg133_13, ↓hg133_14, hw133_14, ↓hg133_15, ↓hg133_16, ↓hg133_17, ↓hg133_18, ↓hg133_19, ↓hg133_20, ↓hg133_21, hw133_21, ↓hg133_22, ↓hg133_23, hw133_23, ↓hg133_24, hw133_24, ↓hg133_25, hw133_25, ↓hg133_26, hw133_26, ↓hg133_27, hw133_27, ↓hg133_28, ↓hg133_29, hw133_29, ↓hg133_30, hw133_30, ↓hg133_31, hw133_31, ↓hg133_32, hw133_32, ↓hg133_33, hw133_33, ↓hg133_34, hw133_34, ↓hg133_35, hw133_35, ↓hg133_36, hw133_36, ↓hg133_37, ↓hg133_38, ↓hg133_39, ↓hv133, ↓hx133, ha134, hu134, ↓hl134, ha135, hu135, ↓hl135, ha136, hu136, ↓hl136, ha137, hu137, ↓hl137, ha138, hu138, ↓hl138, ha139, hu139, ↓hl139, ha140, hu140, ↓hl140, ha141, hu141, ↓hl141, ha142, hu142, ↓hl142, ha143, hu143, ↓hl143, ha144, hu144, ↓hl144, ha145, hu145, ↓hl145, ha146, hu146, ↓hl146, ha147, hu147, ↓hl147]
      rw [X7_np0 sI00 (by omega)]
      simp (disch := omega) only [↓mo_cs_s, ↓mo_xs_r, ↓mo_xs_l, ↓mo_nl_s, mo_z_0, mo_z_1, if_true, ↓hg133_0, hw133_0, ↓hg133_1, ↓hg133_2, ↓hg133_3, hw133_3, ↓hg133_4, hw133_4, ↓hg133_5, hw133_5, ↓hg133_6, hw133_6, ↓hg133_7, hw133_7, ↓hg133_8, hw133_8, ↓hg133_9, hw133_9, ↓hg133_10, hw133_10, ↓hg133_11, hw133_11, ↓hg133_12, hw133_12, ↓hg133_13, ↓hg133_14, hw133_14, ↓hg133_15, ↓hg133_16, ↓hg133_17, ↓hg133_18, ↓hg133_19, ↓hg133_20, ↓hg133_21, hw133_21, ↓hg133_22, ↓hg133_23, hw133_23, ↓hg133_24, hw133_24, ↓hg133_25, hw133_25, ↓hg133_26, hw133_26, ↓hg133_27, hw133_27, ↓hg133_28, ↓hg133_29, hw133_29, ↓hg133_30, hw133_30, ↓hg133_31, hw133_31, ↓hg133_32, hw133_32, ↓hg133_33, hw133_33, ↓hg133_34, hw133_34, ↓hg133_35, hw133_35, ↓hg133_36, hw133_36, ↓hg133_37, ↓hg133_38, ↓hg133_39, ↓hv133, ↓hx133, ha134, hu134, ↓hl134, ha135, hu135, ↓hl135, ha136, hu136, ↓hl136, ha137, hu137, ↓hl137, ha138, hu138, ↓hl138, ha139, hu139, ↓hl139, ha140, hu140, ↓hl140, ha141, hu141, ↓hl141, ha142, hu142, ↓hl142, ha143, hu143, ↓hl143, ha144, hu144, ↓hl144, ha145, hu145, ↓hl145, ha146, hu146, ↓hl146, ha147, hu147, ↓hl147]
      rw [wi]
      simp (disch := omega) only [↓mo_cs_s, ↓mo_xs_r, ↓mo_xs_l, ↓mo_nl_s, mo_z_0, mo_z_1, if_true, ↓hg133_0, hw133_0, ↓hg133_1, ↓hg133_2, ↓hg133_3, hw133_3, ↓hg133_4, hw133_4, ↓hg133_5, hw133_5, ↓hg133_6, hw133_6, ↓hg133_7, hw133_7, ↓hg133_8, hw133_8, ↓hg133_9, hw133_9, ↓hg133_10, hw133_10, ↓hg133_11, hw133_11, ↓hg133_12, hw133_12, ↓hg133_13, ↓hg133_14, hw133_14, ↓hg133_15, ↓hg133_16, ↓hg133_17, ↓hg133_18, ↓hg133_19, ↓hg133_20, ↓hg133_21, hw133_21, ↓hg133_22, ↓hg133_23, hw133_23, ↓hg133_24, hw133_24, ↓hg133_25, hw133_25, ↓hg133_26, hw133_26, ↓hg133_27, hw133_27, ↓hg133_28, ↓hg133_29, hw133_29, ↓hg133_30, hw133_30, ↓hg133_31, hw133_31, ↓hg133_32, hw133_32, ↓hg133_33, hw133_33, ↓hg133_34, hw133_34, ↓hg133_35, hw133_35, ↓hg133_36, hw133_36, ↓hg133_37, ↓hg133_38, ↓hg133_39, ↓hv133, ↓hx133, ha134, hu134, ↓hl134, ha135, hu135, ↓hl135, ha136, hu136, ↓hl136, ha137, hu137, ↓hl137, ha138, hu138, ↓hl138, ha139, hu139, ↓hl139, ha140, hu140, ↓hl140, ha141, hu141, ↓hl141, ha142, hu142, ↓hl142, ha143, hu143, ↓hl143, ha144, hu144, ↓hl144, ha145, hu145, ↓hl145, ha146, hu146, ↓hl146, ha147, hu147, ↓hl147]
      rw [X7_th1 sI00 (by omega)]
      simp (disch := omega) only [↓mo_cs_s, ↓mo_xs_r, ↓mo_xs_l, ↓mo_nl_s, mo_z_0, mo_z_1, j10, if_false]
  · rw [if_neg g]
    refine OM.no h (by decide) ?_
    unfold m_X7_attack
    simp (disch := omega) only [ji1, ji2, ji3, ji4, ji5, ji6, ji7, ji8, ji9, ji10, ji11, ji12, ji13, ji14, ji15, ji16, ji19, ji20, ji39, ji119, ji144, ji366, ji24, ji31, ji32, ji45, ji48, ji57, ji58, ji59, ji97, ji120, ji122, ji183, ji200, ji226, ji240, ji255, ji500, jI_z, ↓jI_m1, jI_add, jI_sub, jI_mul, ↓hg133_0, hw133_0, ↓hg133_1, ↓hg133_2, ↓hg133_3, hw133_3, ↓hg133_4, hw133_4, ↓hg133_5, hw133_5, ↓hg133_6, hw133_6, ↓hg133_7, hw133_7, ↓hg133_8, hw133_8, ↓hg133_9, hw133_9, ↓hg133_10, hw133_10, ↓hg133_11, hw133_11, ↓hg133_12, hw133_12, ↓hg133_13, ↓hg133_14, hw133_14, ↓hg133_15, ↓hg133_16, ↓hg133_17, ↓hg133_18, ↓hg133_19, ↓hg133_20, ↓hg133_21, hw133_21, ↓hg133_22, ↓hg133_23, hw133_23, ↓hg133_24, hw133_24, ↓hg133_25, hw133_25, ↓hg133_26, hw133_26, ↓hg133_27, hw133_27, ↓hg133_28, ↓hg133_29, hw133_29, ↓hg133_30, hw133_30, ↓hg133_31, hw133_31, ↓hg133_32, hw133_32, ↓hg133_33, hw133_33, ↓hg133_34, hw133_34, ↓hg133_35, hw133_35, ↓hg133_36, hw133_36, ↓hg133_37, ↓hg133_38, ↓hg133_39, ↓hv133, ↓hx133, ha134, hu134, ↓hl134, ha135, hu135, ↓hl135, ha136, hu136, ↓hl136, ha137, hu137, ↓hl137, ha138, hu138, ↓hl138, ha139, hu139, ↓hl139, ha140, hu140, ↓hl140, ha141, hu141, ↓hl141, ha142, hu142, ↓hl142, ha143, hu143, ↓hl143, ha144, hu144, ↓hl144, ha145, hu145, ↓hl145, ha146, hu146, ↓hl146, ha147, hu147, ↓hl147]
    rw [X7_np1 sI00 hp' g (by omega)]
    simp (disch := omega) only [↓mo_cs_s, ↓mo_xs_r, ↓mo_xs_l, ↓mo_nl_s, mo_z_0, mo_z_1, j10, if_false]
/-- promise 17 -/
def rWeak (q : hQ) (p : Int) : hR := if 0 ≤ p ∧ p < 4 then (0, weakV q.1.1 p.toNat, q) else (1, 0, q)
theorem C_weak {z : Nat} {M : hM} {q : hQ} {p : Int} (h : CI M q) (ho : okQ q) (hp' : okW p) : OC z M (m_X6_weakPoints (hp z M) z (jI p)) eA (rWeak q p) := by
  have hc := ho.1.1
  unfold rWeak
  by_cases g : 0 ≤ p ∧ p < 4
  · rw [if_pos g]
    obtain ⟨p, rfl⟩ : ∃ i : Nat, p = i := ⟨p.toNat, by omega⟩
    obtain ⟨M1, r1, r2, r3, r4⟩ := X6_bw (z := z) (p := p) h.1.1 hc (by omega)
    simp only [Int.toNat_natCast]
    cases hb : brk (q.1.1.1, []) p with
    | true =>
      refine oc_q r4 h ho ?_
      unfold m_X6_weakPoints
      rw [X6_cp1 (by omega)]
      simp (disch := omega) only [↓mo_cs_s, ↓mo_xs_r, ↓mo_xs_l, ↓mo_nl_s, mo_z_0, mo_z_1, ji1, ji2, ji3, ji4, ji5, ji6, ji7, ji8, ji9, ji10, ji11, ji12, ji13, ji14, ji15, ji16, ji19, ji20, ji39, ji119, ji144, ji366, ji24, ji31, ji32, ji45, ji48, ji57, ji58, ji59, ji97, ji120, ji122, ji183, ji200, ji226, ji240, ji255, ji500, jI_z, ↓jI_m1, jI_add, jI_sub, jI_mul, ↓hg0_0, ↓hg0_1, ↓hg0_2, ↓hg0_3, ↓hg0_4, ↓hg0_5, hw0_5, ↓hg0_6, ↓hg0_7, ↓hv0, ↓hx0, ha132, hu132, ↓hl132]
      rw [r1, hb]
      simp (disch := omega) only [↓mo_cs_s, ↓mo_xs_r, ↓mo_xs_l, ↓mo_nl_s, mo_z_0, mo_z_1, b2i_0, Bool.true_eq_false, if_false]
      unfold weakV; rw [hb, if_pos rfl]
    | false =>
      obtain ⟨M2, s1, s2⟩ := X6_wp_l (z := z) (p := p) hc (by omega) (zN_le hc.nil) (zR (q.1.1.1, [])).2.1.length 0 hN_f M1 (by omega) (by have := zN_le hc.nil; unfold hN_f; omega) ⟨_, r2, hc.nil⟩
      refine oc_q (r4.trans s2) h ho ?_
      unfold m_X6_weakPoints
      rw [X6_cp1 (by omega)]
      simp (disch := omega) only [↓mo_cs_s, ↓mo_xs_r, ↓mo_xs_l, ↓mo_nl_s, mo_z_0, mo_z_1, ji1, ji2, ji3, ji4, ji5, ji6, ji7, ji8, ji9, ji10, ji11, ji12, ji13, ji14, ji15, ji16, ji19, ji20, ji39, ji119, ji144, ji366, ji24, ji31, ji32, ji45, ji48, ji57, ji58, ji59, ji97, ji120, ji122, ji183, ji200, ji226, ji240, ji255, ji500, jI_z, ↓jI_m1, jI_add, jI_sub, jI_mul, ↓hg0_0, ↓hg0_1, ↓hg0_2, ↓hg0_3, ↓hg0_4, ↓hg0_5, hw0_5, ↓hg0_6, ↓hg0_7, ↓hv0, ↓hx0, ha132, hu132, ↓hl132]
      rw [r1, hb]
      unfold m_X4_line m_X2_sentCount
      simp (disch := omega) only [↓mo_cs_s, ↓mo_xs_r, ↓mo_xs_l, ↓mo_nl_s, mo_z_0, mo_z_1, b2i_0, if_true, ↓hg0_0, ↓hg0_1, ↓hg0_2, ↓hg0_3, ↓hg0_4, ↓hg0_5, hw0_5, ↓hg0_6, ↓hg0_7, ↓hv0, ↓hx0, ha132, hu132, ↓hl132, ↓hg15_0, ↓hg15_1, ↓hg15_2, ↓hg15_3, hw15_3, ↓hg15_4, hw15_4, ↓hg15_5, hw15_5, ↓hg15_6, hw15_6, ↓hg15_7, hw15_7, ↓hg15_8, hw15_8, ↓hg15_9, hw15_9, ↓hg15_10, hw15_10, ↓hg15_11, hw15_11, ↓hg15_12, hw15_12, ↓hg15_13, hw15_13, ↓hg15_14, hw15_14, ↓hv15, ↓hx15, ha29, hu29, ↓hl29, ↓hg16_0, ↓hg16_1, ↓hg16_2, ↓hg16_3, ↓hg16_4, ↓hg16_5, hw16_5, ↓hg16_6, ↓hg16_7, ↓hg16_8, ↓hg16_9, ↓hg16_10, hw16_10, ↓hv16, ↓hx16, ha17, hu17, ↓hl17, ha18, hu18, ↓hl18, ha19, hu19, ↓hl19, ha20, hu20, ↓hl20, ha21, hu21, ↓hl21, ha22, hu22, ↓hl22, ha23, hu23, ↓hl23, ha24, hu24, ↓hl24, ha25, hu25, ↓hl25, r3.1]
      unfold weakV; rw [hb, if_neg (by decide), ← wk_far hb hc]
      exact s1
  · rw [if_neg g]
    refine OC.no h (by decide) ?_
    unfold m_X6_weakPoints
    rw [X6_cp0 hp' g]
    simp only [↓mo_cs_s, ↓mo_xs_r, ↓mo_xs_l, ↓mo_nl_s, mo_z_0, mo_z_1]
    rfl
theorem M_weak {z : Nat} {M : hM} {q : hQ} {p : Int} (h : MI M q) (ho : okQ q) (hp' : okW p) : OM z M (m_X7_weakPoints (hp z M) (z + 133) (jI p)) (rWeak q p) := by
  have hc := ho.1.1
  have hR0 := (h.sI0 (v := 0)).1.1
  unfold rWeak
  by_cases g : 0 ≤ p ∧ p < 4
  · rw [if_pos g]
    obtain ⟨p, rfl⟩ : ∃ i : Nat, p = i := ⟨p.toNat, by omega⟩
    obtain ⟨M1, r1, r2, r3⟩ := X7_ba (z := z) (M := sI M 133 0 0) (p := p) hR0 hc (by omega)
    simp only [Int.toNat_natCast]
    cases hb : brk (q.1.1.1, []) p with
    | true =>
      refine omq r3 h ?_
      unfold m_X7_weakPoints
      simp (disch := omega) only [ji1, ji2, ji3, ji4, ji5, ji6, ji7, ji8, ji9, ji10, ji11, ji12, ji13, ji14, ji15, ji16, ji19, ji20, ji39, ji119, ji144, ji366, ji24, ji31, ji32, ji45, ji48, ji57, ji58, ji59, ji97, ji120, ji122, ji183, ji200, ji226, ji240, ji255, ji500, jI_z, ↓jI_m1, jI_add, jI_sub, jI_mul, ↓hg133_0, hw133_0, ↓hg133_1, ↓hg133_2, ↓hg133_3, hw133_3, ↓hg133_4, hw133_4, ↓hg133_5, hw133_5, ↓hg133_6, hw133_6, ↓hg133_7, hw133_7, ↓hg133_8, hw133_8, ↓hg133_9, hw133_9, ↓hg133_10, hw133_10, ↓hg133_11, hw133_11, ↓hg133_12, hw133_12, ↓hg133_13, ↓hg133_14, hw133_14, ↓hg133_15, ↓hg133_16, ↓hg133_17, ↓hg133_18, ↓hg133_19, ↓hg133_20, ↓hg133_21, hw133_21, ↓hg133_22, ↓hg133_23, hw133_23, ↓hg133_24, hw133_24, ↓hg133_25, hw133_25, ↓hg133_26, hw133_26, ↓hg133_27, hw133_27, ↓hg133_28, ↓hg133_29, hw133_29, ↓hg133_30, hw133_30, ↓hg133_31, hw133_31, ↓hg133_32, hw133_32, ↓hg133_33, hw133_33, ↓hg133_34, hw133_34, ↓hg133_35, hw133_35, ↓hg133_36, hw133_36, ↓hg133_37, ↓hg133_38, ↓hg133_39, ↓hv133, ↓hx133, ha134, hu134, ↓hl134, ha135, hu135, ↓hl135, ha136, hu136, ↓hl136, ha137, hu137, ↓hl137, ha138, hu138, ↓hl138, ha139, hu139, ↓hl139, ha140, hu140, ↓hl140, ha141, hu141, ↓hl141, ha142, hu142, ↓hl142, ha143, hu143, ↓hl143, ha144, hu144, ↓hl144, ha145, hu145, ↓hl145, ha146, hu146, ↓hl146, ha147, hu147, ↓hl147]
      rw [X7_np0 sI00 (by omega)]
      simp (disch := omega) only [↓mo_cs_s, ↓mo_xs_r, ↓mo_xs_l, ↓mo_nl_s, mo_z_0, mo_z_1, if_true, ↓hg133_0, hw133_0, ↓hg133_1, ↓hg133_2, ↓hg133_3, hw133_3, ↓hg133_4, hw133_4, ↓hg133_5, hw133_5, ↓hg133_6, hw133_6, ↓hg133_7, hw133_7, ↓hg133_8, hw133_8, ↓hg133_9, hw133_9, ↓hg133_10, hw133_10, ↓hg133_11, hw133_11, ↓hg133_12, hw133_12, ↓hg133_13, ↓hg133_14, hw133_14, ↓hg133_15, ↓hg133_16, ↓hg133_17, ↓hg133_18, ↓hg133_19, ↓hg133_20, ↓hg133_21, hw133_21, ↓hg133_22, ↓hg133_23, hw133_23, ↓hg133_24, hw133_24, ↓hg133_25, hw133_25, ↓hg133_26, hw133_26, ↓hg133_27, hw133_27, ↓hg133_28, ↓hg133_29, hw133_29, ↓hg133_30, hw133_30, ↓hg133_31, hw133_31, ↓hg133_32, hw133_32, ↓hg133_33, hw133_33, ↓hg133_34, hw133_34, ↓hg133_35, hw133_35, ↓hg133_36, hw133_36, ↓hg133_37, ↓hg133_38, ↓hg133_39, ↓hv133, ↓hx133, ha134, hu134, ↓hl134, ha135, hu135, ↓hl135, ha136, hu136, ↓hl136, ha137, hu137, ↓hl137, ha138, hu138, ↓hl138, ha139, hu139, ↓hl139, ha140, hu140, ↓hl140, ha141, hu141, ↓hl141, ha142, hu142, ↓hl142, ha143, hu143, ↓hl143, ha144, hu144, ↓hl144, ha145, hu145, ↓hl145, ha146, hu146, ↓hl146, ha147, hu147, ↓hl147]
      rw [r1, hb]
      simp (disch := omega) only [↓mo_cs_s, ↓mo_xs_r, ↓mo_xs_l, ↓mo_nl_s, mo_z_0, mo_z_1, b2i_0, Bool.true_eq_false, if_false]
      unfold weakV; rw [hb, if_pos rfl]
    | false =>
      obtain ⟨M2, s1, s2⟩ := X7_wp_l (z := z) (p := p) hc (by omega) 120 0 hN_f M1 (by omega) (by unfold hN_f; omega) (r3.row hR0)
      refine omq (r3.trans s2) h ?_
      unfold m_X7_weakPoints
      simp (disch := omega) only [ji1, ji2, ji3, ji4, ji5, ji6, ji7, ji8, ji9, ji10, ji11, ji12, ji13, ji14, ji15, ji16, ji19, ji20, ji39, ji119, ji144, ji366, ji24, ji31, ji32, ji45, ji48, ji57, ji58, ji59, ji97, ji120, ji122, ji183, ji200, ji226, ji240, ji255, ji500, jI_z, ↓jI_m1, jI_add, jI_sub, jI_mul, ↓hg133_0, hw133_0, ↓hg133_1, ↓hg133_2, ↓hg133_3, hw133_3, ↓hg133_4, hw133_4, ↓hg133_5, hw133_5, ↓hg133_6, hw133_6, ↓hg133_7, hw133_7, ↓hg133_8, hw133_8, ↓hg133_9, hw133_9, ↓hg133_10, hw133_10, ↓hg133_11, hw133_11, ↓hg133_12, hw133_12, ↓hg133_13, ↓hg133_14, hw133_14, ↓hg133_15, ↓hg133_16, ↓hg133_17, ↓hg133_18, ↓hg133_19, ↓hg133_20, ↓hg133_21, hw133_21, ↓hg133_22, ↓hg133_23, hw133_23, ↓hg133_24, hw133_24, ↓hg133_25, hw133_25, ↓hg133_26, hw133_26, ↓hg133_27, hw133_27, ↓hg133_28, ↓hg133_29, hw133_29, ↓hg133_30, hw133_30, ↓hg133_31, hw133_31, ↓hg133_32, hw133_32, ↓hg133_33, hw133_33, ↓hg133_34, hw133_34, ↓hg133_35, hw133_35, ↓hg133_36, hw133_36, ↓hg133_37, ↓hg133_38, ↓hg133_39, ↓hv133, ↓hx133, ha134, hu134, ↓hl134, ha135, hu135, ↓hl135, ha136, hu136, ↓hl136, ha137, hu137, ↓hl137, ha138, hu138, ↓hl138, ha139, hu139, ↓hl139, ha140, hu140, ↓hl140, ha141, hu141, ↓hl141, ha142, hu142, ↓hl142, ha143, hu143, ↓hl143, ha144, hu144, ↓hl144, ha145, hu145, ↓hl145, ha146, hu146, ↓hl146, ha147, hu147, ↓hl147]
      rw [X7_np0 sI00 (by omega)]
      simp (disch := omega) only [↓mo_cs_s, ↓mo_xs_r, ↓mo_xs_l, ↓mo_nl_s, mo_z_0, mo_z_1, if_true, ↓hg133_0, hw133_0, ↓hg133_1, ↓hg133_2, ↓hg133_3, hw133_3, ↓hg133_4, hw133_4, ↓hg133_5, hw133_5, ↓hg133_6, hw133_6, ↓hg133_7, hw133_7, ↓hg133_8, hw133_8, ↓hg133_9, hw133_9, ↓hg133_10, hw133_10, ↓hg133_11, hw133_11, ↓hg133_12, hw133_12, ↓hg133_13, ↓hg133_14, hw133_14, ↓hg133_15, ↓hg133_16, ↓hg133_17, ↓hg133_18, ↓hg133_19, ↓hg133_20, ↓hg133_21, hw133_21, ↓hg133_22, ↓hg133_23, hw133_23, ↓hg133_24, hw133_24, ↓hg133_25, hw133_25, ↓hg133_26, hw133_26, ↓hg133_27, hw133_27, ↓hg133_28, ↓hg133_29, hw133_29, ↓hg133_30, hw133_30, ↓hg133_31, hw133_31, ↓hg133_32, hw133_32, ↓hg133_33, hw133_33, ↓hg133_34, hw133_34, ↓hg133_35, hw133_35, ↓hg133_36, hw133_36, ↓hg133_37, ↓hg133_38, ↓hg133_39, ↓hv133, ↓hx133, ha134, hu134, ↓hl134, ha135, hu135, ↓hl135, ha136, hu136, ↓hl136, ha137, hu137, ↓hl137, ha138, hu138, ↓hl138, ha139, hu139, ↓hl139, ha140, hu140, ↓hl140, ha141, hu141, ↓hl141, ha142, hu142, ↓hl142, ha143, hu143, ↓hl143, ha144, hu144, ↓hl144, ha145, hu145, ↓hl145, ha146, hu146, ↓hl146, ha147, hu147, ↓hl147]
      rw [r1, hb]
      simp (disch := omega) only [↓mo_cs_s, ↓mo_xs_r, ↓mo_xs_l, ↓mo_nl_s, mo_z_0, mo_z_1, b2i_0, if_true]
      unfold weakV; rw [hb, if_neg (by decide)]
      exact s1
  · rw [if_neg g]
    refine OM.no h (by decide) ?_
    unfold m_X7_weakPoints
    simp (disch := omega) only [ji1, ji2, ji3, ji4, ji5, ji6, ji7, ji8, ji9, ji10, ji11, ji12, ji13, ji14, ji15, ji16, ji19, ji20, ji39, ji119, ji144, ji366, ji24, ji31, ji32, ji45, ji48, ji57, ji58, ji59, ji97, ji120, ji122, ji183, ji200, ji226, ji240, ji255, ji500, jI_z, ↓jI_m1, jI_add, jI_sub, jI_mul, ↓hg133_0, hw133_0, ↓hg133_1, ↓hg133_2, ↓hg133_3, hw133_3, ↓hg133_4, hw133_4, ↓hg133_5, hw133_5, ↓hg133_6, hw133_6, ↓hg133_7, hw133_7, ↓hg133_8, hw133_8, ↓hg133_9, hw133_9, ↓hg133_10, hw133_10, ↓hg133_11, hw133_11, ↓hg133_12, hw133_12, ↓hg133_13, ↓hg133_14, hw133_14, ↓hg133_15, ↓hg133_16, ↓hg133_17, ↓hg133_18, ↓hg133_19, ↓hg133_20, ↓hg133_21, hw133_21, ↓hg133_22, ↓hg133_23, hw133_23, ↓hg133_24, hw133_24, ↓hg133_25, hw133_25, ↓hg133_26, hw133_26, ↓hg133_27, hw133_27, ↓hg133_28, ↓hg133_29, hw133_29, ↓hg133_30, hw133_30, ↓hg133_31, hw133_31, ↓hg133_32, hw133_32, ↓hg133_33, hw133_33, ↓hg133_34, hw133_34, ↓hg133_35, hw133_35, ↓hg133_36, hw133_36, ↓hg133_37, ↓hg133_38, ↓hg133_39, ↓hv133, ↓hx133, ha134, hu134, ↓hl134, ha135, hu135, ↓hl135, ha136, hu136, ↓hl136, ha137, hu137, ↓hl137, ha138, hu138, ↓hl138, ha139, hu139, ↓hl139, ha140, hu140, ↓hl140, ha141, hu141, ↓hl141, ha142, hu142, ↓hl142, ha143, hu143, ↓hl143, ha144, hu144, ↓hl144, ha145, hu145, ↓hl145, ha146, hu146, ↓hl146, ha147, hu147, ↓hl147]
    rw [X7_np1 sI00 hp' g (by omega)]
    simp (disch := omega) only [↓mo_cs_s, ↓mo_xs_r, ↓mo_xs_l, ↓mo_nl_s, mo_z_0, mo_z_1, j10, if_false]
/-- promise 18 -/
def rTimer (q : hQ) (p : Int) : hR := if 0 ≤ p ∧ p < 4 then (0, timerV q.1.1 p.toNat, q) else (1, 0, q)
theorem C_timer {z : Nat} {M : hM} {q : hQ} {p : Int} (h : CI M q) (ho : okQ q) (hp' : okW p) : OC z M (m_X6_timerFor (hp z M) z (jI p)) eA (rTimer q p) := by
  have hc := ho.1.1
  unfold rTimer
  by_cases g : 0 ≤ p ∧ p < 4
  · rw [if_pos g]
    obtain ⟨p, rfl⟩ : ∃ i : Nat, p = i := ⟨p.toNat, by omega⟩
    obtain ⟨M1, r1, r2, r3, r4, r5⟩ := X0_ta (z := z) (a := 1) (b := 8) rfl rfl (by omega) h.1.1 h.1.2 hc
    obtain ⟨M2, s1, s2⟩ := X6_ti_l (z := z) (p := p) hc (by omega) 20 1 hN_f M1 (q.1.1.1 4) (by omega) (by omega) (by unfold hN_f; omega) (by rw [cT1]; exact r2)
    simp only [Int.toNat_natCast]
    refine oc_q ((FD.of r4 r5 (by omega) (by omega)).trans s2) h ho ?_
    unfold m_X6_timerFor
    rw [X6_cp1 (by omega)]
    simp (disch := omega) only [↓mo_cs_s, ↓mo_xs_r, ↓mo_xs_l, ↓mo_nl_s, mo_z_0, mo_z_1, ji1, ji2, ji3, ji4, ji5, ji6, ji7, ji8, ji9, ji10, ji11, ji12, ji13, ji14, ji15, ji16, ji19, ji20, ji39, ji119, ji144, ji366, ji24, ji31, ji32, ji45, ji48, ji57, ji58, ji59, ji97, ji120, ji122, ji183, ji200, ji226, ji240, ji255, ji500, jI_z, ↓jI_m1, jI_add, jI_sub, jI_mul, ↓hg0_0, ↓hg0_1, ↓hg0_2, ↓hg0_3, ↓hg0_4, ↓hg0_5, hw0_5, ↓hg0_6, ↓hg0_7, ↓hv0, ↓hx0, ha132, hu132, ↓hl132, ↓Bv (b := 8) rfl]
    rw [r1]
    simp (disch := omega) only [↓mo_cs_s, ↓mo_xs_r, ↓mo_xs_l, ↓mo_nl_s, mo_z_0, mo_z_1, mo_t4a]
    exact s1
  · rw [if_neg g]
    refine OC.no h (by decide) ?_
    unfold m_X6_timerFor
    rw [X6_cp0 hp' g]
    simp only [↓mo_cs_s, ↓mo_xs_r, ↓mo_xs_l, ↓mo_nl_s, mo_z_0, mo_z_1]
    rfl
theorem M_timer {z : Nat} {M : hM} {q : hQ} {p : Int} (h : MI M q) (ho : okQ q) (hp' : okW p) : OM z M (m_X7_timerFor (hp z M) (z + 133) (jI p)) (rTimer q p) := by
  have hc := ho.1.1
  have hR0 := (h.sI0 (v := 0)).1.1
  unfold rTimer
  by_cases g : 0 ≤ p ∧ p < 4
  · rw [if_pos g]
    obtain ⟨p, rfl⟩ : ∃ i : Nat, p = i := ⟨p.toNat, by omega⟩
    obtain ⟨M1, r1, r2, r3⟩ := X7_ct (z := z) hc hR0
    obtain ⟨M2, s1, s2⟩ := X7_ti_l (z := z) (p := p) hc (by omega) 20 1 hN_f M1 (q.1.1.1 4) (by omega) (by omega) (by unfold hN_f; omega) (by rw [cT1]; exact r2)
    simp only [Int.toNat_natCast]
    refine omq (r3.q.trans s2) h ?_
    unfold m_X7_timerFor
    simp (disch := omega) only [ji1, ji2, ji3, ji4, ji5, ji6, ji7, ji8, ji9, ji10, ji11, ji12, ji13, ji14, ji15, ji16, ji19, ji20, ji39, ji119, ji144, ji366, ji24, ji31, ji32, ji45, ji48, ji57, ji58, ji59, ji97, ji120, ji122, ji183, ji200, ji226, ji240, ji255, ji500, jI_z, ↓jI_m1, jI_add, jI_sub, jI_mul, ↓hg133_0, hw133_0, ↓hg133_1, ↓hg133_2, ↓hg133_3, hw133_3, ↓hg133_4, hw133_4, ↓hg133_5, hw133_5, ↓hg133_6, hw133_6, ↓hg133_7, hw133_7, ↓hg133_8, hw133_8, ↓hg133_9, hw133_9, ↓hg133_10, hw133_10, ↓hg133_11, hw133_11, ↓hg133_12, hw133_12, ↓hg133_13, ↓hg133_14, hw133_14, ↓hg133_15, ↓hg133_16, ↓hg133_17, ↓hg133_18, ↓hg133_19, ↓hg133_20, ↓hg133_21, hw133_21, ↓hg133_22, ↓hg133_23, hw133_23, ↓hg133_24, hw133_24, ↓hg133_25, hw133_25, ↓hg133_26, hw133_26, ↓hg133_27, hw133_27, ↓hg133_28, ↓hg133_29, hw133_29, ↓hg133_30, hw133_30, ↓hg133_31, hw133_31, ↓hg133_32, hw133_32, ↓hg133_33, hw133_33, ↓hg133_34, hw133_34, ↓hg133_35, hw133_35, ↓hg133_36, hw133_36, ↓hg133_37, ↓hg133_38, ↓hg133_39, ↓hv133, ↓hx133, ha134, hu134, ↓hl134, ha135, hu135, ↓hl135, ha136, hu136, ↓hl136, ha137, hu137, ↓hl137, ha138, hu138, ↓hl138, ha139, hu139, ↓hl139, ha140, hu140, ↓hl140, ha141, hu141, ↓hl141, ha142, hu142, ↓hl142, ha143, hu143, ↓hl143, ha144, hu144, ↓hl144, ha145, hu145, ↓hl145, ha146, hu146, ↓hl146, ha147, hu147, ↓hl147]
    rw [X7_np0 sI00 (by omega)]
    simp (disch := omega) only [↓mo_cs_s, ↓mo_xs_r, ↓mo_xs_l, ↓mo_nl_s, mo_z_0, mo_z_1, if_true, ↓hg133_0, hw133_0, ↓hg133_1, ↓hg133_2, ↓hg133_3, hw133_3, ↓hg133_4, hw133_4, ↓hg133_5, hw133_5, ↓hg133_6, hw133_6, ↓hg133_7, hw133_7, ↓hg133_8, hw133_8, ↓hg133_9, hw133_9, ↓hg133_10, hw133_10, ↓hg133_11, hw133_11, ↓hg133_12, hw133_12, ↓hg133_13, ↓hg133_14, hw133_14, ↓hg133_15, ↓hg133_16, ↓hg133_17, ↓hg133_18, ↓hg133_19, ↓hg133_20, ↓hg133_21, hw133_21, ↓hg133_22, ↓hg133_23, hw133_23, ↓hg133_24, hw133_24, ↓hg133_25, hw133_25, ↓hg133_26, hw133_26, ↓hg133_27, hw133_27, ↓hg133_28, ↓hg133_29, hw133_29, ↓hg133_30, hw133_30, ↓hg133_31, hw133_31, ↓hg133_32, hw133_32, ↓hg133_33, hw133_33, ↓hg133_34, hw133_34, ↓hg133_35, hw133_35, ↓hg133_36, hw133_36, ↓hg133_37, ↓hg133_38, ↓hg133_39, ↓hv133, ↓hx133, ha134, hu134, ↓hl134, ha135, hu135, ↓hl135, ha136, hu136, ↓hl136, ha137, hu137, ↓hl137, ha138, hu138, ↓hl138, ha139, hu139, ↓hl139, ha140, hu140, ↓hl140, ha141, hu141, ↓hl141, ha142, hu142, ↓hl142, ha143, hu143, ↓hl143, ha144, hu144, ↓hl144, ha145, hu145, ↓hl145, ha146, hu146, ↓hl146, ha147, hu147, ↓hl147]
    rw [r1]
    simp (disch := omega) only [↓mo_cs_s, ↓mo_xs_r, ↓mo_xs_l, ↓mo_nl_s, mo_z_0, mo_z_1]
    exact s1
  · rw [if_neg g]
    refine OM.no h (by decide) ?_
    unfold m_X7_timerFor
    simp (disch := omega) only [ji1, ji2, ji3, ji4, ji5, ji6, ji7, ji8, ji9, ji10, ji11, ji12, ji13, ji14, ji15, ji16, ji19, ji20, ji39, ji119, ji144, ji366, ji24, ji31, ji32, ji45, ji48, ji57, ji58, ji59, ji97, ji120, ji122, ji183, ji200, ji226, ji240, ji255, ji500, jI_z, ↓jI_m1, jI_add, jI_sub, jI_mul, ↓hg133_0, hw133_0, ↓hg133_1, ↓hg133_2, ↓hg133_3, hw133_3, ↓hg133_4, hw133_4, ↓hg133_5, hw133_5, ↓hg133_6, hw133_6, ↓hg133_7, hw133_7, ↓hg133_8, hw133_8, ↓hg133_9, hw133_9, ↓hg133_10, hw133_10, ↓hg133_11, hw133_11, ↓hg133_12, hw133_12, ↓hg133_13, ↓hg133_14, hw133_14, ↓hg133_15, ↓hg133_16, ↓hg133_17, ↓hg133_18, ↓hg133_19, ↓hg133_20, ↓hg133_21, hw133_21, ↓hg133_22, ↓hg133_23, hw133_23, ↓hg133_24, hw133_24, ↓hg133_25, hw133_25, ↓hg133_26, hw133_26, ↓hg133_27, hw133_27, ↓hg133_28, ↓hg133_29, hw133_29, ↓hg133_30, hw133_30, ↓hg133_31, hw133_31, ↓hg133_32, hw133_32, ↓hg133_33, hw133_33, ↓hg133_34, hw133_34, ↓hg133_35, hw133_35, ↓hg133_36, hw133_36, ↓hg133_37, ↓hg133_38, ↓hg133_39, ↓hv133, ↓hx133, ha134, hu134, ↓hl134, ha135, hu135, ↓hl135, ha136, hu136, ↓hl136, ha137, hu137, ↓hl137, ha138, hu138, ↓hl138, ha139, hu139, ↓hl139, ha140, hu140, ↓hl140, ha141, hu141, ↓hl141, ha142, hu142, ↓hl142, ha143, hu143, ↓hl143, ha144, hu144, ↓hl144, ha145, hu145, ↓hl145, ha146, hu146, ↓hl146, ha147, hu147, ↓hl147]
    rw [X7_np1 sI00 hp' g (by omega)]
    simp (disch := omega) only [↓mo_cs_s, ↓mo_xs_r, ↓mo_xs_l, ↓mo_nl_s, mo_z_0, mo_z_1, j10, if_false]
theorem Sv6 {α ρ : Type} {z : Nat} {M : hM} {m : Option (ρ × ac_H)} {F : ρ → ac_H → Option α} : mo_cv (hp z M) (z + (1 + 5)) 5 m F = mo_cs m F := hp_cv (a := 6) rfl
/-- promise 19 -/
def isV (W : Nat → Nat) (a b : Int) : Int := if stB a b ∧ (W a.toNat).testBit b.toNat = true then 1 else 0
def rIsRec (q : hQ) (a b : Int) : hR := (0, isV q.1.2 a b, q)
theorem isV_01 {W : Nat → Nat} {a b : Int} : isV W a b = 0 ∨ isV W a b = 1 := by unfold isV; split <;> simp
theorem mo_zv {α : Type} {X : Option α} {W : Nat → Nat} {a b : Int} : mo_z (jI (isV W a b)) X = X := by
  rcases isV_01 (W := W) (a := a) (b := b) with h | h <;> rw [h]
  · exact mo_z_0
  · exact mo_z_1
theorem C_isRec {z : Nat} {M : hM} {q : hQ} {a b : Int} (h : CI M q) (ho : okQ q) (ha : okW a) (hb : okW b) : OD z M (m_X6_isRecorded (hp z M) z (jI a) (jI b)) (rIsRec q a b) := by
  have e := X5_holds (z := z) (s := 6) rfl h.1.2 ha hb
  refine od_q FD.rfl' h ho ?_
  unfold m_X6_isRecorded
  simp (disch := omega) only [↓hg0_0, ↓hg0_1, ↓hg0_2, ↓hg0_3, ↓hg0_4, ↓hg0_5, hw0_5, ↓hg0_6, ↓hg0_7, ↓hv0, ↓hx0, ha132, hu132, ↓hl132, ↓Bv (b := 1) rfl]
  rw [X0_rec (b := 1) rfl]
  simp (disch := omega) only [↓mo_cs_s, ↓mo_xs_r, ↓mo_xs_l, ↓mo_nl_s, mo_z_0, mo_z_1, ↓Sv6]
  rw [e]
  show mo_z (jI (isV q.1.2 a b)) (some (jI (isV q.1.2 a b), hp z M)) = _
  rw [mo_zv]
theorem X7_is1 {a b : Int} (ha : okW a) (hb : okW b) (h : stB a b) (σ : ac_H) : m_X7_isState σ (jI a) (jI b) = some (jI 1, σ) := by
  unfold m_X7_isState
  simp (disch := omega) only [ji1, ji2, ji3, ji4, ji5, ji6, ji7, ji8, ji9, ji10, ji11, ji12, ji13, ji14, ji15, ji16, ji19, ji20, ji39, ji119, ji144, ji366, ji24, ji31, ji32, ji45, ji48, ji57, ji58, ji59, ji97, ji120, ji122, ji183, ji200, ji226, ji240, ji255, ji500, jI_z, ↓jI_m1, jI_add, jI_sub, jI_mul]
  rw [X7_wi1 ha (okW_n (by omega) (by omega)) (okW_n (by omega) (by omega)) ⟨h.1, h.2.1⟩]
  simp (disch := omega) only [↓mo_cs_s, ↓mo_xs_r, ↓mo_xs_l, ↓mo_nl_s, mo_z_0, mo_z_1, j10, if_false]
  rw [X7_wi1 hb (okW_n (by omega) (by omega)) (okW_n (by omega) (by omega)) h.2.2]
  simp (disch := omega) only [↓mo_cs_s, ↓mo_xs_r, ↓mo_xs_l, ↓mo_nl_s, mo_z_0, mo_z_1, j10, if_false]
theorem X7_is0 {a b : Int} (ha : okW a) (hb : okW b) (h : ¬ stB a b) (σ : ac_H) : m_X7_isState σ (jI a) (jI b) = some (jI 0, σ) := by
  unfold m_X7_isState
  simp (disch := omega) only [ji1, ji2, ji3, ji4, ji5, ji6, ji7, ji8, ji9, ji10, ji11, ji12, ji13, ji14, ji15, ji16, ji19, ji20, ji39, ji119, ji144, ji366, ji24, ji31, ji32, ji45, ji48, ji57, ji58, ji59, ji97, ji120, ji122, ji183, ji200, ji226, ji240, ji255, ji500, jI_z, ↓jI_m1, jI_add, jI_sub, jI_mul]
  by_cases g : 0 ≤ a ∧ a ≤ 8
  · rw [X7_wi1 ha (okW_n (by omega) (by omega)) (okW_n (by omega) (by omega)) g]
    simp (disch := omega) only [↓mo_cs_s, ↓mo_xs_r, ↓mo_xs_l, ↓mo_nl_s, mo_z_0, mo_z_1, j10, if_false]
    rw [X7_wi0 hb (okW_n (by omega) (by omega)) (okW_n (by omega) (by omega)) (fun g2 => h ⟨g.1, g.2, g2.1, g2.2⟩)]
    simp (disch := omega) only [↓mo_cs_s, ↓mo_xs_r, ↓mo_xs_l, ↓mo_nl_s, mo_z_0, mo_z_1, if_true]
  · rw [X7_wi0 ha (okW_n (by omega) (by omega)) (okW_n (by omega) (by omega)) g]
    simp (disch := omega) only [↓mo_cs_s, ↓mo_xs_r, ↓mo_xs_l, ↓mo_nl_s, mo_z_0, mo_z_1, if_true]
theorem M_isRec {z : Nat} {M : hM} {q : hQ} {a b : Int} (h : MI M q) (ho : okQ q) (ha : okW a) (hb : okW b) : OM z M (m_X7_isRecorded (hp z M) (z + 133) (jI a) (jI b)) (rIsRec q a b) := by
  refine omq FQ.rfl' h ?_
  unfold m_X7_isRecorded
  simp (disch := omega) only [ji1, ji2, ji3, ji4, ji5, ji6, ji7, ji8, ji9, ji10, ji11, ji12, ji13, ji14, ji15, ji16, ji19, ji20, ji39, ji119, ji144, ji366, ji24, ji31, ji32, ji45, ji48, ji57, ji58, ji59, ji97, ji120, ji122, ji183, ji200, ji226, ji240, ji255, ji500, jI_z, ↓jI_m1, jI_add, jI_sub, jI_mul, ↓hg133_0, hw133_0, ↓hg133_1, ↓hg133_2, ↓hg133_3, hw133_3, ↓hg133_4, hw133_4, ↓hg133_5, hw133_5, ↓hg133_6, hw133_6, ↓hg133_7, hw133_7, ↓hg133_8, hw133_8, ↓hg133_9, hw133_9, ↓hg133_10, hw133_10, ↓hg133_11, hw133_11, ↓hg133_12, hw133_12, ↓hg133_13, ↓hg133_14, hw133_14, ↓hg133_15, ↓hg133_16, ↓hg133_17, ↓hg133_18, ↓hg133_19, ↓hg133_20, ↓hg133_21, hw133_21, ↓hg133_22, ↓hg133_23, hw133_23, ↓hg133_24, hw133_24, ↓hg133_25, hw133_25, ↓hg133_26, hw133_26, ↓hg133_27, hw133_27, ↓hg133_28, ↓hg133_29, hw133_29, ↓hg133_30, hw133_30, ↓hg133_31, hw133_31, ↓hg133_32, hw133_32, ↓hg133_33, hw133_33, ↓hg133_34, hw133_34, ↓hg133_35, hw133_35, ↓hg133_36, hw133_36, ↓hg133_37, ↓hg133_38, ↓hg133_39, ↓hv133, ↓hx133, ha134, hu134, ↓hl134, ha135, hu135, ↓hl135, ha136, hu136, ↓hl136, ha137, hu137, ↓hl137, ha138, hu138, ↓hl138, ha139, hu139, ↓hl139, ha140, hu140, ↓hl140, ha141, hu141, ↓hl141, ha142, hu142, ↓hl142, ha143, hu143, ↓hl143, ha144, hu144, ↓hl144, ha145, hu145, ↓hl145, ha146, hu146, ↓hl146, ha147, hu147, ↓hl147]
  by_cases g : stB a b
  · rw [X7_is1 ha hb g]
    obtain ⟨g1, g2, g3, g4⟩ := g
    have e := h.1.2 a.toNat b.toNat (by omega) (by omega)
    simp only at e
    have ei : (39 + 16 * a + b).toNat = 39 + (16 * a.toNat + b.toNat) := by omega
    have e' : gA (sI M 133 0 0) 134 (39 + 16 * a + b).toNat = isV q.1.2 a b := by
      rw [gA_sI, ei, e]
      unfold isV
      by_cases ht : (q.1.2 a.toNat).testBit b.toNat = true
      · rw [if_pos ht, if_pos ⟨⟨g1, g2, g3, g4⟩, ht⟩]
      · rw [if_neg ht, if_neg (fun hh => ht hh.2)]
    simp (disch := omega) only [↓mo_cs_s, ↓mo_xs_r, ↓mo_xs_l, ↓mo_nl_s, mo_z_0, mo_z_1, j10, if_false, ↓hg133_0, hw133_0, ↓hg133_1, ↓hg133_2, ↓hg133_3, hw133_3, ↓hg133_4, hw133_4, ↓hg133_5, hw133_5, ↓hg133_6, hw133_6, ↓hg133_7, hw133_7, ↓hg133_8, hw133_8, ↓hg133_9, hw133_9, ↓hg133_10, hw133_10, ↓hg133_11, hw133_11, ↓hg133_12, hw133_12, ↓hg133_13, ↓hg133_14, hw133_14, ↓hg133_15, ↓hg133_16, ↓hg133_17, ↓hg133_18, ↓hg133_19, ↓hg133_20, ↓hg133_21, hw133_21, ↓hg133_22, ↓hg133_23, hw133_23, ↓hg133_24, hw133_24, ↓hg133_25, hw133_25, ↓hg133_26, hw133_26, ↓hg133_27, hw133_27, ↓hg133_28, ↓hg133_29, hw133_29, ↓hg133_30, hw133_30, ↓hg133_31, hw133_31, ↓hg133_32, hw133_32, ↓hg133_33, hw133_33, ↓hg133_34, hw133_34, ↓hg133_35, hw133_35, ↓hg133_36, hw133_36, ↓hg133_37, ↓hg133_38, ↓hg133_39, ↓hv133, ↓hx133, ha134, hu134, ↓hl134, ha135, hu135, ↓hl135, ha136, hu136, ↓hl136, ha137, hu137, ↓hl137, ha138, hu138, ↓hl138, ha139, hu139, ↓hl139, ha140, hu140, ↓hl140, ha141, hu141, ↓hl141, ha142, hu142, ↓hl142, ha143, hu143, ↓hl143, ha144, hu144, ↓hl144, ha145, hu145, ↓hl145, ha146, hu146, ↓hl146, ha147, hu147, ↓hl147, e']
    rcases isV_01 (W := q.1.2) (a := a) (b := b) with hv | hv <;> rw [hv]
    · rw [if_neg (by decide)]
    · rw [if_pos rfl]
  · rw [X7_is0 ha hb g]
    simp (disch := omega) only [↓mo_cs_s, ↓mo_xs_r, ↓mo_xs_l, ↓mo_nl_s, mo_z_0, mo_z_1, if_true]
    unfold isV; rw [if_neg (fun hh => g hh.1)]
/-- promise 5 -/
theorem X7_rm_l {z : Nat} {M : hM} {W : Nat → Nat} (hS : St (fun k => gA M 134 (39 + k)) W) : ∀ (d k f : Nat), k + d = 144 → d < f → m_X7_recordedMany_l4 (z + 133) f (hp z M) (jI (sg (fun k => gA M 134 (39 + k)) k)) (jI k) = some (jI (sg (fun k => gA M 134 (39 + k)) 144), hp z M) := by
  intro d
  induction d with
  | zero =>
    intro k f hk hf
    obtain ⟨f, rfl⟩ : ∃ g, f = g + 1 := ⟨f - 1, by omega⟩
    have : k = 144 := by omega
    subst this
    have g : ¬ ((144 : Nat) : Int) < 144 := by omega
    unfold m_X7_recordedMany_l4
    simp (disch := omega) only [ji1, ji2, ji3, ji4, ji5, ji6, ji7, ji8, ji9, ji10, ji11, ji12, ji13, ji14, ji15, ji16, ji19, ji20, ji39, ji119, ji144, ji366, ji24, ji31, ji32, ji45, ji48, ji57, ji58, ji59, ji97, ji120, ji122, ji183, ji200, ji226, ji240, ji255, ji500, jI_z, ↓jI_m1, jI_add, jI_sub, jI_mul, jI_lt, g, if_false]
  | succ d ih =>
    intro k f hk hf
    obtain ⟨f, rfl⟩ : ∃ g, f = g + 1 := ⟨f - 1, by omega⟩
    have g : (k : Int) < 144 := by omega
    have IH := ih (k + 1) f (by omega) (by omega)
    have es : sg (fun k => gA M 134 (39 + k)) (k + 1) = sg (fun k => gA M 134 (39 + k)) k + gA M 134 (39 + k) := rfl
    rw [es] at IH
    have ek : (k : Int) + 1 = ((k + 1 : Nat) : Int) := by omega
    have en : (39 + (k : Int)).toNat = 39 + k := by omega
    unfold m_X7_recordedMany_l4
    simp (disch := omega) only [ji1, ji2, ji3, ji4, ji5, ji6, ji7, ji8, ji9, ji10, ji11, ji12, ji13, ji14, ji15, ji16, ji19, ji20, ji39, ji119, ji144, ji366, ji24, ji31, ji32, ji45, ji48, ji57, ji58, ji59, ji97, ji120, ji122, ji183, ji200, ji226, ji240, ji255, ji500, jI_z, ↓jI_m1, jI_add, jI_sub, jI_mul, jI_lt, g, if_true, ↓hg133_0, hw133_0, ↓hg133_1, ↓hg133_2, ↓hg133_3, hw133_3, ↓hg133_4, hw133_4, ↓hg133_5, hw133_5, ↓hg133_6, hw133_6, ↓hg133_7, hw133_7, ↓hg133_8, hw133_8, ↓hg133_9, hw133_9, ↓hg133_10, hw133_10, ↓hg133_11, hw133_11, ↓hg133_12, hw133_12, ↓hg133_13, ↓hg133_14, hw133_14, ↓hg133_15, ↓hg133_16, ↓hg133_17, ↓hg133_18, ↓hg133_19, ↓hg133_20, ↓hg133_21, hw133_21, ↓hg133_22, ↓hg133_23, hw133_23, ↓hg133_24, hw133_24, ↓hg133_25, hw133_25, ↓hg133_26, hw133_26, ↓hg133_27, hw133_27, ↓hg133_28, ↓hg133_29, hw133_29, ↓hg133_30, hw133_30, ↓hg133_31, hw133_31, ↓hg133_32, hw133_32, ↓hg133_33, hw133_33, ↓hg133_34, hw133_34, ↓hg133_35, hw133_35, ↓hg133_36, hw133_36, ↓hg133_37, ↓hg133_38, ↓hg133_39, ↓hv133, ↓hx133, ha134, hu134, ↓hl134, ha135, hu135, ↓hl135, ha136, hu136, ↓hl136, ha137, hu137, ↓hl137, ha138, hu138, ↓hl138, ha139, hu139, ↓hl139, ha140, hu140, ↓hl140, ha141, hu141, ↓hl141, ha142, hu142, ↓hl142, ha143, hu143, ↓hl143, ha144, hu144, ↓hl144, ha145, hu145, ↓hl145, ha146, hu146, ↓hl146, ha147, hu147, ↓hl147, en, ek]
    exact IH
theorem X7_rm {z : Nat} {M : hM} {W : Nat → Nat} (hS : St (fun k => gA M 134 (39 + k)) W) : m_X7_recordedMany (hp z M) (z + 133) = some (jI (sum9 (fun k => pop (W k)) 9 : Nat), hp z M) := by
  have h := X7_rm_l (z := z) hS 144 0 hN_f (by omega) (by unfold hN_f; omega)
  have e := sg_all (F := fun k => gA M 134 (39 + k)) hS 9 (by omega)
  unfold m_X7_recordedMany
  rw [jI_z, ← e]; exact h
def sizeV (q : hQ) (w : Int) : Int := if w < 8 then q.1.1.1 w.toNat else if w = 8 then q.1.1.2.length else if w = 9 then q.2.1.length else (sum9 (fun k => pop (q.1.2 k)) 9 : Nat)
def rSize (q : hQ) (w : Int) : hR := if 0 ≤ w ∧ w ≤ 10 then (0, sizeV q w, q) else (1, 0, q)
theorem C_size {z : Nat} {M : hM} {q : hQ} {w : Int} (h : CI M q) (ho : okQ q) (hw : okW w) : OC z M (m_X6_size (hp z M) z (jI w)) eA (rSize q w) := by
  obtain ⟨w0, w1⟩ := hw
  have e5 := h.2.1.1
  unfold rSize
  by_cases g : 0 ≤ w ∧ w ≤ 10
  · rw [if_pos g]
    refine oc_q FD.rfl' h ho ?_
    have n0 : ¬ w < 0 := by omega
    unfold m_X6_size m_X6_size_j19 sizeV
    by_cases g8 : w < 8
    · simp (disch := omega) only [ji1, ji2, ji3, ji4, ji5, ji6, ji7, ji8, ji9, ji10, ji11, ji12, ji13, ji14, ji15, ji16, ji19, ji20, ji39, ji119, ji144, ji366, ji24, ji31, ji32, ji45, ji48, ji57, ji58, ji59, ji97, ji120, ji122, ji183, ji200, ji226, ji240, ji255, ji500, jI_z, ↓jI_m1, jI_add, jI_sub, jI_mul, jI_lt, n0, if_false, g8, if_true, ↓hg0_0, ↓hg0_1, ↓hg0_2, ↓hg0_3, ↓hg0_4, ↓hg0_5, hw0_5, ↓hg0_6, ↓hg0_7, ↓hv0, ↓hx0, ha132, hu132, ↓hl132, ↓Bv (b := 1) rfl]
      rw [X0_setting (b := 1) rfl g.1 g8, h.1.1.1 _ (by omega)]
      simp only [↓mo_cs_s, ↓mo_xs_r, ↓mo_xs_l, ↓mo_nl_s, mo_z_0, mo_z_1]
    · simp (disch := omega) only [ji1, ji2, ji3, ji4, ji5, ji6, ji7, ji8, ji9, ji10, ji11, ji12, ji13, ji14, ji15, ji16, ji19, ji20, ji39, ji119, ji144, ji366, ji24, ji31, ji32, ji45, ji48, ji57, ji58, ji59, ji97, ji120, ji122, ji183, ji200, ji226, ji240, ji255, ji500, jI_z, ↓jI_m1, jI_add, jI_sub, jI_mul, jI_lt, jI_eq, n0, if_false, g8, ↓hg0_0, ↓hg0_1, ↓hg0_2, ↓hg0_3, ↓hg0_4, ↓hg0_5, hw0_5, ↓hg0_6, ↓hg0_7, ↓hv0, ↓hx0, ha132, hu132, ↓hl132, ↓Bv (b := 1) rfl]
      rw [X0_count (b := 1) rfl, X0_rec (b := 1) rfl]
      simp (disch := omega) only [↓mo_cs_s, ↓mo_xs_r, ↓mo_xs_l, ↓mo_nl_s, mo_z_0, mo_z_1, ↓Sv6]
      rw [X5_hm (s := 6) rfl h.1.2]
      simp only [↓mo_cs_s, ↓mo_xs_r, ↓mo_xs_l, ↓mo_nl_s, mo_z_0, mo_z_1, e5]
      by_cases e8 : w = 8
      · rw [if_pos e8, if_pos e8, h.1.1.2.1]
      · rw [if_neg e8, if_neg e8]
        by_cases e9 : w = 9
        · rw [if_pos e9, if_pos e9]
        · rw [if_neg e9, if_neg e9, if_pos (by omega)]
  · rw [if_neg g]
    refine OC.no h (by decide) ?_
    unfold m_X6_size m_X6_size_j19
    simp (disch := omega) only [ji1, ji2, ji3, ji4, ji5, ji6, ji7, ji8, ji9, ji10, ji11, ji12, ji13, ji14, ji15, ji16, ji19, ji20, ji39, ji119, ji144, ji366, ji24, ji31, ji32, ji45, ji48, ji57, ji58, ji59, ji97, ji120, ji122, ji183, ji200, ji226, ji240, ji255, ji500, jI_z, ↓jI_m1, jI_add, jI_sub, jI_mul, jI_lt, jI_eq]
    by_cases n0 : w < 0
    · rw [if_pos n0, if_neg (by omega), if_neg (by omega), if_neg (by omega)]; rfl
    · rw [if_neg n0, if_neg (by omega), if_neg (by omega), if_neg (by omega), if_neg (by omega)]; rfl
theorem M_size {z : Nat} {M : hM} {q : hQ} {w : Int} (h : MI M q) (ho : okQ q) (hw : okW w) : OM z M (m_X7_size (hp z M) (z + 133) (jI w)) (rSize q w) := by
  have h0 := h.sI0 (v := 0)
  have hR0 := h0.1.1
  unfold rSize
  by_cases g : 0 ≤ w ∧ w ≤ 10
  · rw [if_pos g]
    have wi := X7_wi1 (v := w) (lo := 0) (hi := 10) hw (okW_n (by omega) (by omega)) (okW_n (by omega) (by omega)) g (hp z (sI M 133 0 0))
    obtain ⟨w0, w1⟩ := hw
    refine omq FQ.rfl' h ?_
    have e36 := h0.2.1.1
    have rm := X7_rm (z := z) h0.1.2
    unfold m_X7_size m_X7_size_j21 sizeV
    simp (disch := omega) only [ji1, ji2, ji3, ji4, ji5, ji6, ji7, ji8, ji9, ji10, ji11, ji12, ji13, ji14, ji15, ji16, ji19, ji20, ji39, ji119, ji144, ji366, ji24, ji31, ji32, ji45, ji48, ji57, ji58, ji59, ji97, ji120, ji122, ji183, ji200, ji226, ji240, ji255, ji500, jI_z, ↓jI_m1, jI_add, jI_sub, jI_mul, ↓hg133_0, hw133_0, ↓hg133_1, ↓hg133_2, ↓hg133_3, hw133_3, ↓hg133_4, hw133_4, ↓hg133_5, hw133_5, ↓hg133_6, hw133_6, ↓hg133_7, hw133_7, ↓hg133_8, hw133_8, ↓hg133_9, hw133_9, ↓hg133_10, hw133_10, ↓hg133_11, hw133_11, ↓hg133_12, hw133_12, ↓hg133_13, ↓hg133_14, hw133_14, ↓hg133_15, ↓hg133_16, ↓hg133_17, ↓hg133_18, ↓hg133_19, ↓hg133_20, ↓hg133_21, hw133_21, ↓hg133_22, ↓hg133_23, hw133_23, ↓hg133_24, hw133_24, ↓hg133_25, hw133_25, ↓hg133_26, hw133_26, ↓hg133_27, hw133_27, ↓hg133_28, ↓hg133_29, hw133_29, ↓hg133_30, hw133_30, ↓hg133_31, hw133_31, ↓hg133_32, hw133_32, ↓hg133_33, hw133_33, ↓hg133_34, hw133_34, ↓hg133_35, hw133_35, ↓hg133_36, hw133_36, ↓hg133_37, ↓hg133_38, ↓hg133_39, ↓hv133, ↓hx133, ha134, hu134, ↓hl134, ha135, hu135, ↓hl135, ha136, hu136, ↓hl136, ha137, hu137, ↓hl137, ha138, hu138, ↓hl138, ha139, hu139, ↓hl139, ha140, hu140, ↓hl140, ha141, hu141, ↓hl141, ha142, hu142, ↓hl142, ha143, hu143, ↓hl143, ha144, hu144, ↓hl144, ha145, hu145, ↓hl145, ha146, hu146, ↓hl146, ha147, hu147, ↓hl147]
    rw [wi]
    simp (disch := omega) only [↓mo_cs_s, ↓mo_xs_r, ↓mo_xs_l, ↓mo_nl_s, mo_z_0, mo_z_1, j10, if_false, ↓hg133_0, hw133_0, ↓hg133_1, ↓hg133_2, ↓hg133_3, hw133_3, ↓hg133_4, hw133_4, ↓hg133_5, hw133_5, ↓hg133_6, hw133_6, ↓hg133_7, hw133_7, ↓hg133_8, hw133_8, ↓hg133_9, hw133_9, ↓hg133_10, hw133_10, ↓hg133_11, hw133_11, ↓hg133_12, hw133_12, ↓hg133_13, ↓hg133_14, hw133_14, ↓hg133_15, ↓hg133_16, ↓hg133_17, ↓hg133_18, ↓hg133_19, ↓hg133_20, ↓hg133_21, hw133_21, ↓hg133_22, ↓hg133_23, hw133_23, ↓hg133_24, hw133_24, ↓hg133_25, hw133_25, ↓hg133_26, hw133_26, ↓hg133_27, hw133_27, ↓hg133_28, ↓hg133_29, hw133_29, ↓hg133_30, hw133_30, ↓hg133_31, hw133_31, ↓hg133_32, hw133_32, ↓hg133_33, hw133_33, ↓hg133_34, hw133_34, ↓hg133_35, hw133_35, ↓hg133_36, hw133_36, ↓hg133_37, ↓hg133_38, ↓hg133_39, ↓hv133, ↓hx133, ha134, hu134, ↓hl134, ha135, hu135, ↓hl135, ha136, hu136, ↓hl136, ha137, hu137, ↓hl137, ha138, hu138, ↓hl138, ha139, hu139, ↓hl139, ha140, hu140, ↓hl140, ha141, hu141, ↓hl141, ha142, hu142, ↓hl142, ha143, hu143, ↓hl143, ha144, hu144, ↓hl144, ha145, hu145, ↓hl145, ha146, hu146, ↓hl146, ha147, hu147, ↓hl147]
    rw [X7_th0 sI00]
    simp (disch := omega) only [↓mo_cs_s, ↓mo_xs_r, ↓mo_xs_l, ↓mo_nl_s, mo_z_0, mo_z_1, if_true, ↓hg133_0, hw133_0, ↓hg133_1, ↓hg133_2, ↓hg133_3, hw133_3, ↓hg133_4, hw133_4, ↓hg133_5, hw133_5, ↓hg133_6, hw133_6, ↓hg133_7, hw133_7, ↓hg133_8, hw133_8, ↓hg133_9, hw133_9, ↓hg133_10, hw133_10, ↓hg133_11, hw133_11, ↓hg133_12, hw133_12, ↓hg133_13, ↓hg133_14, hw133_14, ↓hg133_15, ↓hg133_16, ↓hg133_17, ↓hg133_18, ↓hg133_19, ↓hg133_20, ↓hg133_21, hw133_21, ↓hg133_22, ↓hg133_23, hw133_23, ↓hg133_24, hw133_24, ↓hg133_25, hw133_25, ↓hg133_26, hw133_26, ↓hg133_27, hw133_27, ↓hg133_28, ↓hg133_29, hw133_29, ↓hg133_30, hw133_30, ↓hg133_31, hw133_31, ↓hg133_32, hw133_32, ↓hg133_33, hw133_33, ↓hg133_34, hw133_34, ↓hg133_35, hw133_35, ↓hg133_36, hw133_36, ↓hg133_37, ↓hg133_38, ↓hg133_39, ↓hv133, ↓hx133, ha134, hu134, ↓hl134, ha135, hu135, ↓hl135, ha136, hu136, ↓hl136, ha137, hu137, ↓hl137, ha138, hu138, ↓hl138, ha139, hu139, ↓hl139, ha140, hu140, ↓hl140, ha141, hu141, ↓hl141, ha142, hu142, ↓hl142, ha143, hu143, ↓hl143, ha144, hu144, ↓hl144, ha145, hu145, ↓hl145, ha146, hu146, ↓hl146, ha147, hu147, ↓hl147, jI_lt, jI_eq, e36]
    rw [rm]
    simp (disch := omega) only [↓mo_cs_s, ↓mo_xs_r, ↓mo_xs_l, ↓mo_nl_s, mo_z_0, mo_z_1]
    by_cases g9 : w < 9
    · rw [if_pos g9]
      by_cases g8 : w < 8
      · rw [if_pos g8, hR0.1 _ (by omega)]
      · have : w = 8 := by omega
        subst this
        rw [if_neg g8, if_pos rfl, hR0.ok8]
    · rw [if_neg g9]
      by_cases e9 : w = 9
      · rw [if_pos e9, if_neg (show ¬ w < 8 by omega), if_neg (show ¬ w = 8 by omega), if_pos e9]
      · rw [if_neg e9, if_neg (show ¬ w < 8 by omega), if_neg (show ¬ w = 8 by omega), if_neg e9]
  · rw [if_neg g]
    have wi := X7_wi0 (v := w) (lo := 0) (hi := 10) hw (okW_n (by omega) (by omega)) (okW_n (by omega) (by omega)) g (hp z (sI M 133 0 0))
    refine OM.no h (by decide) ?_
    unfold m_X7_size m_X7_size_j21
    simp (disch := omega) only [ji1, ji2, ji3, ji4, ji5, ji6, ji7, ji8, ji9, ji10, ji11, ji12, ji13, ji14, ji15, ji16, ji19, ji20, ji39, ji119, ji144, ji366, ji24, ji31, ji32, ji45, ji48, ji57, ji58, ji59, ji97, ji120, ji122, ji183, ji200, ji226, ji240, ji255, ji500, jI_z, ↓jI_m1, jI_add, jI_sub, jI_mul, ↓hg133_0, hw133_0, ↓hg133_1, ↓hg133_2, ↓hg133_3, hw133_3, ↓hg133_4, hw133_4, ↓hg133_5, hw133_5, ↓hg133_6, hw133_6, ↓hg133_7, hw133_7, ↓hg133_8, hw133_8, ↓hg133_9, hw133_9, ↓hg133_10, hw133_10, ↓hg133_11, hw133_11, ↓hg133_12, hw133_12, ↓hg133_13, ↓hg133_14, hw133_14, ↓hg133_15, ↓hg133_16, ↓hg133_17, ↓hg133_18, ↓hg133_19, ↓hg133_20, ↓hg133_21, hw133_21, ↓hg133_22, ↓hg133_23, hw133_23, ↓hg133_24, hw133_24, ↓hg133_25, hw133_25, ↓hg133_26, hw133_26, ↓hg133_27, hw133_27, ↓hg133_28, ↓hg133_29, hw133_29, ↓hg133_30, hw133_30, ↓hg133_31, hw133_31, ↓hg133_32, hw133_32, ↓hg133_33, hw133_33, ↓hg133_34, hw133_34, ↓hg133_35, hw133_35, ↓hg133_36, hw133_36, ↓hg133_37, ↓hg133_38, ↓hg133_39, ↓hv133, ↓hx133, ha134, hu134, ↓hl134, ha135, hu135, ↓hl135, ha136, hu136, ↓hl136, ha137, hu137, ↓hl137, ha138, hu138, ↓hl138, ha139, hu139, ↓hl139, ha140, hu140, ↓hl140, ha141, hu141, ↓hl141, ha142, hu142, ↓hl142, ha143, hu143, ↓hl143, ha144, hu144, ↓hl144, ha145, hu145, ↓hl145, ha146, hu146, ↓hl146, ha147, hu147, ↓hl147]
    rw [wi]
    simp (disch := omega) only [↓mo_cs_s, ↓mo_xs_r, ↓mo_xs_l, ↓mo_nl_s, mo_z_0, mo_z_1, if_true, ↓hg133_0, hw133_0, ↓hg133_1, ↓hg133_2, ↓hg133_3, hw133_3, ↓hg133_4, hw133_4, ↓hg133_5, hw133_5, ↓hg133_6, hw133_6, ↓hg133_7, hw133_7, ↓hg133_8, hw133_8, ↓hg133_9, hw133_9, ↓hg133_10, hw133_10, ↓hg133_11, hw133_11, ↓hg133_12, hw133_12, ↓hg133_13, ↓hg133_14, hw133_14, ↓hg133_15, ↓hg133_16, ↓hg133_17, ↓hg133_18, ↓hg133_19, ↓hg133_20, ↓hg133_21, hw133_21, ↓hg133_22, ↓hg133_23, hw133_23, ↓hg133_24, hw133_24, ↓hg133_25, hw133_25, ↓hg133_26, hw133_26, ↓hg133_27, hw133_27, ↓hg133_28, ↓hg133_29, hw133_29, ↓hg133_30, hw133_30, ↓hg133_31, hw133_31, ↓hg133_32, hw133_32, ↓hg133_33, hw133_33, ↓hg133_34, hw133_34, ↓hg133_35, hw133_35, ↓hg133_36, hw133_36, ↓hg133_37, ↓hg133_38, ↓hg133_39, ↓hv133, ↓hx133, ha134, hu134, ↓hl134, ha135, hu135, ↓hl135, ha136, hu136, ↓hl136, ha137, hu137, ↓hl137, ha138, hu138, ↓hl138, ha139, hu139, ↓hl139, ha140, hu140, ↓hl140, ha141, hu141, ↓hl141, ha142, hu142, ↓hl142, ha143, hu143, ↓hl143, ha144, hu144, ↓hl144, ha145, hu145, ↓hl145, ha146, hu146, ↓hl146, ha147, hu147, ↓hl147]
    rw [X7_th1 sI00 (by omega)]
    simp (disch := omega) only [↓mo_cs_s, ↓mo_xs_r, ↓mo_xs_l, ↓mo_nl_s, mo_z_0, mo_z_1, j10, if_false]

/-! parse -/
theorem X7_head {z : Nat} {L : List Int} {M : hM} (hT : TXm M L) (h : MP M L (c0, fun _ => false, 0)) : RXm z M L (m_X7_head (hp z M) (z + 133)) (sHead L) := by
  have w0 := X7_wd (z := z) (i := 0) (p := 0) hT (by omega) (by omega) h.2
  have hp1 : tN L 0 ≤ L.length := tN_le (by omega)
  unfold sHead
  by_cases g : wdB L 0 0 = true
  · rw [if_pos g]
    obtain ⟨M1, r1, r2, r3⟩ := X7_st1 (z := z) (p := 0) (c := jI 1) hT (by omega) h.2
    have hT1 := hT.v r3
    have h1 := h.1.v r3
    have w1 := X7_wd (z := z) (i := 1) hT1 (by omega) hp1 r2
    have w2 := X7_wd (z := z) (i := 2) hT1 (by omega) hp1 r2
    have w3 := X7_wd (z := z) (i := 3) hT1 (by omega) hp1 r2
    have pre : ∀ r, m_X7_head_j56 (z + 133) (hp z M1) (jI (opI (prot L (tN L 0)))) = r → m_X7_head (hp z M) (z + 133) = r := by
      intro r hr
      rw [← hr]
      unfold m_X7_head
      simp (disch := omega) only [ji1, ji2, ji3, ji4, ji5, ji6, ji7, ji8, ji9, ji10, ji11, ji12, ji13, ji14, ji15, ji16, ji19, ji20, ji39, ji119, ji144, ji366, ji24, ji31, ji32, ji45, ji48, ji57, ji58, ji59, ji97, ji120, ji122, ji183, ji200, ji226, ji240, ji255, ji500, jI_z, ↓jI_m1, jI_add, jI_sub, jI_mul, ↓hg133_0, hw133_0, ↓hg133_1, ↓hg133_2, ↓hg133_3, hw133_3, ↓hg133_4, hw133_4, ↓hg133_5, hw133_5, ↓hg133_6, hw133_6, ↓hg133_7, hw133_7, ↓hg133_8, hw133_8, ↓hg133_9, hw133_9, ↓hg133_10, hw133_10, ↓hg133_11, hw133_11, ↓hg133_12, hw133_12, ↓hg133_13, ↓hg133_14, hw133_14, ↓hg133_15, ↓hg133_16, ↓hg133_17, ↓hg133_18, ↓hg133_19, ↓hg133_20, ↓hg133_21, hw133_21, ↓hg133_22, ↓hg133_23, hw133_23, ↓hg133_24, hw133_24, ↓hg133_25, hw133_25, ↓hg133_26, hw133_26, ↓hg133_27, hw133_27, ↓hg133_28, ↓hg133_29, hw133_29, ↓hg133_30, hw133_30, ↓hg133_31, hw133_31, ↓hg133_32, hw133_32, ↓hg133_33, hw133_33, ↓hg133_34, hw133_34, ↓hg133_35, hw133_35, ↓hg133_36, hw133_36, ↓hg133_37, ↓hg133_38, ↓hg133_39, ↓hv133, ↓hx133, ha134, hu134, ↓hl134, ha135, hu135, ↓hl135, ha136, hu136, ↓hl136, ha137, hu137, ↓hl137, ha138, hu138, ↓hl138, ha139, hu139, ↓hl139, ha140, hu140, ↓hl140, ha141, hu141, ↓hl141, ha142, hu142, ↓hl142, ha143, hu143, ↓hl143, ha144, hu144, ↓hl144, ha145, hu145, ↓hl145, ha146, hu146, ↓hl146, ha147, hu147, ↓hl147]
      rw [w0, g]
      simp (disch := omega) only [↓mo_cs_s, ↓mo_xs_r, ↓mo_xs_l, ↓mo_nl_s, mo_z_0, mo_z_1, ↓hg133_0, hw133_0, ↓hg133_1, ↓hg133_2, ↓hg133_3, hw133_3, ↓hg133_4, hw133_4, ↓hg133_5, hw133_5, ↓hg133_6, hw133_6, ↓hg133_7, hw133_7, ↓hg133_8, hw133_8, ↓hg133_9, hw133_9, ↓hg133_10, hw133_10, ↓hg133_11, hw133_11, ↓hg133_12, hw133_12, ↓hg133_13, ↓hg133_14, hw133_14, ↓hg133_15, ↓hg133_16, ↓hg133_17, ↓hg133_18, ↓hg133_19, ↓hg133_20, ↓hg133_21, hw133_21, ↓hg133_22, ↓hg133_23, hw133_23, ↓hg133_24, hw133_24, ↓hg133_25, hw133_25, ↓hg133_26, hw133_26, ↓hg133_27, hw133_27, ↓hg133_28, ↓hg133_29, hw133_29, ↓hg133_30, hw133_30, ↓hg133_31, hw133_31, ↓hg133_32, hw133_32, ↓hg133_33, hw133_33, ↓hg133_34, hw133_34, ↓hg133_35, hw133_35, ↓hg133_36, hw133_36, ↓hg133_37, ↓hg133_38, ↓hg133_39, ↓hv133, ↓hx133, ha134, hu134, ↓hl134, ha135, hu135, ↓hl135, ha136, hu136, ↓hl136, ha137, hu137, ↓hl137, ha138, hu138, ↓hl138, ha139, hu139, ↓hl139, ha140, hu140, ↓hl140, ha141, hu141, ↓hl141, ha142, hu142, ↓hl142, ha143, hu143, ↓hl143, ha144, hu144, ↓hl144, ha145, hu145, ↓hl145, ha146, hu146, ↓hl146, ha147, hu147, ↓hl147]
      rw [show jI (b2i true) = jI 1 from rfl, r1]
      simp (disch := omega) only [↓mo_cs_s, ↓mo_xs_r, ↓mo_xs_l, ↓mo_nl_s, mo_z_0, mo_z_1, j10, if_false, ↓hg133_0, hw133_0, ↓hg133_1, ↓hg133_2, ↓hg133_3, hw133_3, ↓hg133_4, hw133_4, ↓hg133_5, hw133_5, ↓hg133_6, hw133_6, ↓hg133_7, hw133_7, ↓hg133_8, hw133_8, ↓hg133_9, hw133_9, ↓hg133_10, hw133_10, ↓hg133_11, hw133_11, ↓hg133_12, hw133_12, ↓hg133_13, ↓hg133_14, hw133_14, ↓hg133_15, ↓hg133_16, ↓hg133_17, ↓hg133_18, ↓hg133_19, ↓hg133_20, ↓hg133_21, hw133_21, ↓hg133_22, ↓hg133_23, hw133_23, ↓hg133_24, hw133_24, ↓hg133_25, hw133_25, ↓hg133_26, hw133_26, ↓hg133_27, hw133_27, ↓hg133_28, ↓hg133_29, hw133_29, ↓hg133_30, hw133_30, ↓hg133_31, hw133_31, ↓hg133_32, hw133_32, ↓hg133_33, hw133_33, ↓hg133_34, hw133_34, ↓hg133_35, hw133_35, ↓hg133_36, hw133_36, ↓hg133_37, ↓hg133_38, ↓hg133_39, ↓hv133, ↓hx133, ha134, hu134, ↓hl134, ha135, hu135, ↓hl135, ha136, hu136, ↓hl136, ha137, hu137, ↓hl137, ha138, hu138, ↓hl138, ha139, hu139, ↓hl139, ha140, hu140, ↓hl140, ha141, hu141, ↓hl141, ha142, hu142, ↓hl142, ha143, hu143, ↓hl143, ha144, hu144, ↓hl144, ha145, hu145, ↓hl145, ha146, hu146, ↓hl146, ha147, hu147, ↓hl147, w1, w2, w3, b2i_0]
      unfold prot
      cases wdB L (tN L 0) 1 <;> cases wdB L (tN L 0) 2 <;> cases wdB L (tN L 0) 3 <;> rfl
    cases hpr : prot L (tN L 0) with
    | none =>
      rw [hpr] at pre
      have F1 : FXm M1 (sA M1 136 0 (-1)) := FXm_sA (by omega)
      obtain ⟨M2, s1, s2, s3⟩ := X7_st0 (z := z) (M := sA M1 136 0 (-1)) (c := 1) h1.2.2.1 r2.1
      refine ⟨M2, pre _ ?_, s2, (r3.x.trans F1).trans s3⟩
      unfold m_X7_head_j56 m_X7_head_j76 opI
      simp (disch := omega) only [ji1, ji2, ji3, ji4, ji5, ji6, ji7, ji8, ji9, ji10, ji11, ji12, ji13, ji14, ji15, ji16, ji19, ji20, ji39, ji119, ji144, ji366, ji24, ji31, ji32, ji45, ji48, ji57, ji58, ji59, ji97, ji120, ji122, ji183, ji200, ji226, ji240, ji255, ji500, jI_z, ↓jI_m1, jI_add, jI_sub, jI_mul, ↓hg133_0, hw133_0, ↓hg133_1, ↓hg133_2, ↓hg133_3, hw133_3, ↓hg133_4, hw133_4, ↓hg133_5, hw133_5, ↓hg133_6, hw133_6, ↓hg133_7, hw133_7, ↓hg133_8, hw133_8, ↓hg133_9, hw133_9, ↓hg133_10, hw133_10, ↓hg133_11, hw133_11, ↓hg133_12, hw133_12, ↓hg133_13, ↓hg133_14, hw133_14, ↓hg133_15, ↓hg133_16, ↓hg133_17, ↓hg133_18, ↓hg133_19, ↓hg133_20, ↓hg133_21, hw133_21, ↓hg133_22, ↓hg133_23, hw133_23, ↓hg133_24, hw133_24, ↓hg133_25, hw133_25, ↓hg133_26, hw133_26, ↓hg133_27, hw133_27, ↓hg133_28, ↓hg133_29, hw133_29, ↓hg133_30, hw133_30, ↓hg133_31, hw133_31, ↓hg133_32, hw133_32, ↓hg133_33, hw133_33, ↓hg133_34, hw133_34, ↓hg133_35, hw133_35, ↓hg133_36, hw133_36, ↓hg133_37, ↓hg133_38, ↓hg133_39, ↓hv133, ↓hx133, ha134, hu134, ↓hl134, ha135, hu135, ↓hl135, ha136, hu136, ↓hl136, ha137, hu137, ↓hl137, ha138, hu138, ↓hl138, ha139, hu139, ↓hl139, ha140, hu140, ↓hl140, ha141, hu141, ↓hl141, ha142, hu142, ↓hl142, ha143, hu143, ↓hl143, ha144, hu144, ↓hl144, ha145, hu145, ↓hl145, ha146, hu146, ↓hl146, ha147, hu147, ↓hl147, if_true, show (0 : Int).toNat = 0 from rfl]
      rw [s1]
      simp (disch := omega) only [↓mo_cs_s, ↓mo_xs_r, ↓mo_xs_l, ↓mo_nl_s, mo_z_0, mo_z_1, if_true]
    | some v =>
      have hv := prot_in hpr
      rw [hpr] at pre
      have F1 : FXm M1 (sA M1 136 0 v) := FXm_sA (by omega)
      have hR1 : RR (gA (sA M1 136 0 v) 136) (cS c0 0 v) := (h1.1.set (w := 0) (v := v) (by omega)).keep (fun j => by rw [gA_sA]; by_cases hj : j = 0 <;> simp [hj])
      obtain ⟨M2, s1, s2, s3⟩ := X7_st1 (z := z) (M := sA M1 136 0 v) (c := jI 1) (hT1.x F1) hp1 r2
      have hP2 : MP M2 L (cS c0 0 v, fun _ => false, tN L (tN L 0)) := ⟨MP0.v (M := sA M1 136 0 v) (s := (cS c0 0 v, fun _ => false, tN L (tN L 0))) ⟨hR1, h1.2⟩ s3, s2⟩
      have ho2 : okP L (cS c0 0 v, fun _ => false, tN L (tN L 0)) := ⟨okC_c0.set (by omega) (by show (0 : Int) ≤ v ∧ v ≤ 2; exact hv), tN_le hp1⟩
      have F2 := (r3.x.trans F1).trans s3.x
      have hT2 := hT.x F2
      have pre2 : ∀ r, (mo_cs (m_X7_lays (hp z M2) (z + 133) (jI 1)) fun x22 σ21 => if x22 = jI 0 then some (jI 0, σ21) else mo_cv σ21 (z + 133) 7 (m_X7_lays σ21 (z + 133) (jI 2)) fun x24 σ23 => if x24 = jI 0 then some (jI 0, σ23) else mo_cv σ23 (z + 133) 7 (m_X7_closes σ23 (z + 133)) fun x26 σ25 => if x26 = jI 0 then some (jI 0, σ25) else some (jI 1, σ25)) = r → m_X7_head (hp z M) (z + 133) = r := by
        intro r hr
        refine pre r ?_
        rw [← hr]
        unfold m_X7_head_j56 m_X7_head_j76 opI
        simp (disch := omega) only [ji1, ji2, ji3, ji4, ji5, ji6, ji7, ji8, ji9, ji10, ji11, ji12, ji13, ji14, ji15, ji16, ji19, ji20, ji39, ji119, ji144, ji366, ji24, ji31, ji32, ji45, ji48, ji57, ji58, ji59, ji97, ji120, ji122, ji183, ji200, ji226, ji240, ji255, ji500, jI_z, ↓jI_m1, jI_add, jI_sub, jI_mul, ↓hg133_0, hw133_0, ↓hg133_1, ↓hg133_2, ↓hg133_3, hw133_3, ↓hg133_4, hw133_4, ↓hg133_5, hw133_5, ↓hg133_6, hw133_6, ↓hg133_7, hw133_7, ↓hg133_8, hw133_8, ↓hg133_9, hw133_9, ↓hg133_10, hw133_10, ↓hg133_11, hw133_11, ↓hg133_12, hw133_12, ↓hg133_13, ↓hg133_14, hw133_14, ↓hg133_15, ↓hg133_16, ↓hg133_17, ↓hg133_18, ↓hg133_19, ↓hg133_20, ↓hg133_21, hw133_21, ↓hg133_22, ↓hg133_23, hw133_23, ↓hg133_24, hw133_24, ↓hg133_25, hw133_25, ↓hg133_26, hw133_26, ↓hg133_27, hw133_27, ↓hg133_28, ↓hg133_29, hw133_29, ↓hg133_30, hw133_30, ↓hg133_31, hw133_31, ↓hg133_32, hw133_32, ↓hg133_33, hw133_33, ↓hg133_34, hw133_34, ↓hg133_35, hw133_35, ↓hg133_36, hw133_36, ↓hg133_37, ↓hg133_38, ↓hg133_39, ↓hv133, ↓hx133, ha134, hu134, ↓hl134, ha135, hu135, ↓hl135, ha136, hu136, ↓hl136, ha137, hu137, ↓hl137, ha138, hu138, ↓hl138, ha139, hu139, ↓hl139, ha140, hu140, ↓hl140, ha141, hu141, ↓hl141, ha142, hu142, ↓hl142, ha143, hu143, ↓hl143, ha144, hu144, ↓hl144, ha145, hu145, ↓hl145, ha146, hu146, ↓hl146, ha147, hu147, ↓hl147, jI_eq, show ¬ v = -1 by omega, if_false, show (0 : Int).toNat = 0 from rfl]
        rw [s1]
        simp (disch := omega) only [↓mo_cs_s, ↓mo_xs_r, ↓mo_xs_l, ↓mo_nl_s, mo_z_0, mo_z_1, j10, i10, if_false, ↓hg133_0, hw133_0, ↓hg133_1, ↓hg133_2, ↓hg133_3, hw133_3, ↓hg133_4, hw133_4, ↓hg133_5, hw133_5, ↓hg133_6, hw133_6, ↓hg133_7, hw133_7, ↓hg133_8, hw133_8, ↓hg133_9, hw133_9, ↓hg133_10, hw133_10, ↓hg133_11, hw133_11, ↓hg133_12, hw133_12, ↓hg133_13, ↓hg133_14, hw133_14, ↓hg133_15, ↓hg133_16, ↓hg133_17, ↓hg133_18, ↓hg133_19, ↓hg133_20, ↓hg133_21, hw133_21, ↓hg133_22, ↓hg133_23, hw133_23, ↓hg133_24, hw133_24, ↓hg133_25, hw133_25, ↓hg133_26, hw133_26, ↓hg133_27, hw133_27, ↓hg133_28, ↓hg133_29, hw133_29, ↓hg133_30, hw133_30, ↓hg133_31, hw133_31, ↓hg133_32, hw133_32, ↓hg133_33, hw133_33, ↓hg133_34, hw133_34, ↓hg133_35, hw133_35, ↓hg133_36, hw133_36, ↓hg133_37, ↓hg133_38, ↓hg133_39, ↓hv133, ↓hx133, ha134, hu134, ↓hl134, ha135, hu135, ↓hl135, ha136, hu136, ↓hl136, ha137, hu137, ↓hl137, ha138, hu138, ↓hl138, ha139, hu139, ↓hl139, ha140, hu140, ↓hl140, ha141, hu141, ↓hl141, ha142, hu142, ↓hl142, ha143, hu143, ↓hl143, ha144, hu144, ↓hl144, ha145, hu145, ↓hl145, ha146, hu146, ↓hl146, ha147, hu147, ↓hl147, jI_eq]
      have l1 := X7_lay (z := z) (k := 1) hT2 ho2 hP2 (by omega)
      show RXm z M L _ (eB (sSet L 1 (cS c0 0 v, fun _ => false, tN L (tN L 0))) fun s => eB (sSet L 2 s) (sSemi L))
      cases e1 : sSet L 1 (cS c0 0 v, fun _ => false, tN L (tN L 0)) with
      | inl e =>
        rw [e1] at l1
        obtain ⟨M3, u1, u2, u3⟩ := l1
        refine ⟨M3, pre2 _ ?_, u2, F2.trans u3⟩
        rw [u1]
        simp (disch := omega) only [↓mo_cs_s, ↓mo_xs_r, ↓mo_xs_l, ↓mo_nl_s, mo_z_0, mo_z_1, if_true]
      | inr q1 =>
        rw [e1] at l1
        obtain ⟨M3, u1, u2, u3⟩ := l1
        have hT3 := hT2.x u3
        have ho3 := (sSet_ok ho2 (by omega) e1).1
        rw [u1] at pre2
        simp (disch := omega) only [↓mo_cs_s, ↓mo_xs_r, ↓mo_xs_l, ↓mo_nl_s, mo_z_0, mo_z_1, j10, if_false, ↓hg133_0, hw133_0, ↓hg133_1, ↓hg133_2, ↓hg133_3, hw133_3, ↓hg133_4, hw133_4, ↓hg133_5, hw133_5, ↓hg133_6, hw133_6, ↓hg133_7, hw133_7, ↓hg133_8, hw133_8, ↓hg133_9, hw133_9, ↓hg133_10, hw133_10, ↓hg133_11, hw133_11, ↓hg133_12, hw133_12, ↓hg133_13, ↓hg133_14, hw133_14, ↓hg133_15, ↓hg133_16, ↓hg133_17, ↓hg133_18, ↓hg133_19, ↓hg133_20, ↓hg133_21, hw133_21, ↓hg133_22, ↓hg133_23, hw133_23, ↓hg133_24, hw133_24, ↓hg133_25, hw133_25, ↓hg133_26, hw133_26, ↓hg133_27, hw133_27, ↓hg133_28, ↓hg133_29, hw133_29, ↓hg133_30, hw133_30, ↓hg133_31, hw133_31, ↓hg133_32, hw133_32, ↓hg133_33, hw133_33, ↓hg133_34, hw133_34, ↓hg133_35, hw133_35, ↓hg133_36, hw133_36, ↓hg133_37, ↓hg133_38, ↓hg133_39, ↓hv133, ↓hx133, ha134, hu134, ↓hl134, ha135, hu135, ↓hl135, ha136, hu136, ↓hl136, ha137, hu137, ↓hl137, ha138, hu138, ↓hl138, ha139, hu139, ↓hl139, ha140, hu140, ↓hl140, ha141, hu141, ↓hl141, ha142, hu142, ↓hl142, ha143, hu143, ↓hl143, ha144, hu144, ↓hl144, ha145, hu145, ↓hl145, ha146, hu146, ↓hl146, ha147, hu147, ↓hl147] at pre2
        have l2 := X7_lay (z := z) (k := 2) hT3 ho3 u2 (by omega)
        show RXm z M L _ (eB (sSet L 2 q1) (sSemi L))
        cases e2 : sSet L 2 q1 with
        | inl e =>
          rw [e2] at l2
          obtain ⟨M4, v1, v2, v3⟩ := l2
          refine ⟨M4, pre2 _ ?_, v2, (F2.trans u3).trans v3⟩
          rw [v1]
          simp (disch := omega) only [↓mo_cs_s, ↓mo_xs_r, ↓mo_xs_l, ↓mo_nl_s, mo_z_0, mo_z_1, if_true]
        | inr q2 =>
          rw [e2] at l2
          obtain ⟨M4, v1, v2, v3⟩ := l2
          have hT4 := hT3.x v3
          have ho4 := (sSet_ok ho3 (by omega) e2).1
          rw [v1] at pre2
          simp (disch := omega) only [↓mo_cs_s, ↓mo_xs_r, ↓mo_xs_l, ↓mo_nl_s, mo_z_0, mo_z_1, j10, if_false, ↓hg133_0, hw133_0, ↓hg133_1, ↓hg133_2, ↓hg133_3, hw133_3, ↓hg133_4, hw133_4, ↓hg133_5, hw133_5, ↓hg133_6, hw133_6, ↓hg133_7, hw133_7, ↓hg133_8, hw133_8, ↓hg133_9, hw133_9, ↓hg133_10, hw133_10, ↓hg133_11, hw133_11, ↓hg133_12, hw133_12, ↓hg133_13, ↓hg133_14, hw133_14, ↓hg133_15, ↓hg133_16, ↓hg133_17, ↓hg133_18, ↓hg133_19, ↓hg133_20, ↓hg133_21, hw133_21, ↓hg133_22, ↓hg133_23, hw133_23, ↓hg133_24, hw133_24, ↓hg133_25, hw133_25, ↓hg133_26, hw133_26, ↓hg133_27, hw133_27, ↓hg133_28, ↓hg133_29, hw133_29, ↓hg133_30, hw133_30, ↓hg133_31, hw133_31, ↓hg133_32, hw133_32, ↓hg133_33, hw133_33, ↓hg133_34, hw133_34, ↓hg133_35, hw133_35, ↓hg133_36, hw133_36, ↓hg133_37, ↓hg133_38, ↓hg133_39, ↓hv133, ↓hx133, ha134, hu134, ↓hl134, ha135, hu135, ↓hl135, ha136, hu136, ↓hl136, ha137, hu137, ↓hl137, ha138, hu138, ↓hl138, ha139, hu139, ↓hl139, ha140, hu140, ↓hl140, ha141, hu141, ↓hl141, ha142, hu142, ↓hl142, ha143, hu143, ↓hl143, ha144, hu144, ↓hl144, ha145, hu145, ↓hl145, ha146, hu146, ↓hl146, ha147, hu147, ↓hl147] at pre2
          have l3 := X7_cl (z := z) hT4 ho4 v2
          show RXm z M L _ (sSemi L q2)
          cases e3 : sSemi L q2 with
          | inl e =>
            rw [e3] at l3
            obtain ⟨M5, x1, x2, x3⟩ := l3
            refine ⟨M5, pre2 _ ?_, x2, ((F2.trans u3).trans v3).trans x3⟩
            rw [x1]
            simp (disch := omega) only [↓mo_cs_s, ↓mo_xs_r, ↓mo_xs_l, ↓mo_nl_s, mo_z_0, mo_z_1, if_true]
          | inr q3 =>
            rw [e3] at l3
            obtain ⟨M5, x1, x2, x3⟩ := l3
            refine ⟨M5, pre2 _ ?_, x2, ((F2.trans u3).trans v3).trans x3⟩
            rw [x1]
            simp (disch := omega) only [↓mo_cs_s, ↓mo_xs_r, ↓mo_xs_l, ↓mo_nl_s, mo_z_0, mo_z_1, j10, if_false]
  · rw [if_neg g]
    have g' : wdB L 0 0 = false := by simpa using g
    obtain ⟨M1, r1, r2, r3⟩ := X7_st0 (z := z) (c := 1) h.1.2.2.1 h.2.1
    refine ⟨M1, ?_, r2, r3⟩
    unfold m_X7_head
    simp (disch := omega) only [ji1, ji2, ji3, ji4, ji5, ji6, ji7, ji8, ji9, ji10, ji11, ji12, ji13, ji14, ji15, ji16, ji19, ji20, ji39, ji119, ji144, ji366, ji24, ji31, ji32, ji45, ji48, ji57, ji58, ji59, ji97, ji120, ji122, ji183, ji200, ji226, ji240, ji255, ji500, jI_z, ↓jI_m1, jI_add, jI_sub, jI_mul, ↓hg133_0, hw133_0, ↓hg133_1, ↓hg133_2, ↓hg133_3, hw133_3, ↓hg133_4, hw133_4, ↓hg133_5, hw133_5, ↓hg133_6, hw133_6, ↓hg133_7, hw133_7, ↓hg133_8, hw133_8, ↓hg133_9, hw133_9, ↓hg133_10, hw133_10, ↓hg133_11, hw133_11, ↓hg133_12, hw133_12, ↓hg133_13, ↓hg133_14, hw133_14, ↓hg133_15, ↓hg133_16, ↓hg133_17, ↓hg133_18, ↓hg133_19, ↓hg133_20, ↓hg133_21, hw133_21, ↓hg133_22, ↓hg133_23, hw133_23, ↓hg133_24, hw133_24, ↓hg133_25, hw133_25, ↓hg133_26, hw133_26, ↓hg133_27, hw133_27, ↓hg133_28, ↓hg133_29, hw133_29, ↓hg133_30, hw133_30, ↓hg133_31, hw133_31, ↓hg133_32, hw133_32, ↓hg133_33, hw133_33, ↓hg133_34, hw133_34, ↓hg133_35, hw133_35, ↓hg133_36, hw133_36, ↓hg133_37, ↓hg133_38, ↓hg133_39, ↓hv133, ↓hx133, ha134, hu134, ↓hl134, ha135, hu135, ↓hl135, ha136, hu136, ↓hl136, ha137, hu137, ↓hl137, ha138, hu138, ↓hl138, ha139, hu139, ↓hl139, ha140, hu140, ↓hl140, ha141, hu141, ↓hl141, ha142, hu142, ↓hl142, ha143, hu143, ↓hl143, ha144, hu144, ↓hl144, ha145, hu145, ↓hl145, ha146, hu146, ↓hl146, ha147, hu147, ↓hl147]
    rw [w0, g']
    simp (disch := omega) only [↓mo_cs_s, ↓mo_xs_r, ↓mo_xs_l, ↓mo_nl_s, mo_z_0, mo_z_1, ↓hg133_0, hw133_0, ↓hg133_1, ↓hg133_2, ↓hg133_3, hw133_3, ↓hg133_4, hw133_4, ↓hg133_5, hw133_5, ↓hg133_6, hw133_6, ↓hg133_7, hw133_7, ↓hg133_8, hw133_8, ↓hg133_9, hw133_9, ↓hg133_10, hw133_10, ↓hg133_11, hw133_11, ↓hg133_12, hw133_12, ↓hg133_13, ↓hg133_14, hw133_14, ↓hg133_15, ↓hg133_16, ↓hg133_17, ↓hg133_18, ↓hg133_19, ↓hg133_20, ↓hg133_21, hw133_21, ↓hg133_22, ↓hg133_23, hw133_23, ↓hg133_24, hw133_24, ↓hg133_25, hw133_25, ↓hg133_26, hw133_26, ↓hg133_27, hw133_27, ↓hg133_28, ↓hg133_29, hw133_29, ↓hg133_30, hw133_30, ↓hg133_31, hw133_31, ↓hg133_32, hw133_32, ↓hg133_33, hw133_33, ↓hg133_34, hw133_34, ↓hg133_35, hw133_35, ↓hg133_36, hw133_36, ↓hg133_37, ↓hg133_38, ↓hg133_39, ↓hv133, ↓hx133, ha134, hu134, ↓hl134, ha135, hu135, ↓hl135, ha136, hu136, ↓hl136, ha137, hu137, ↓hl137, ha138, hu138, ↓hl138, ha139, hu139, ↓hl139, ha140, hu140, ↓hl140, ha141, hu141, ↓hl141, ha142, hu142, ↓hl142, ha143, hu143, ↓hl143, ha144, hu144, ↓hl144, ha145, hu145, ↓hl145, ha146, hu146, ↓hl146, ha147, hu147, ↓hl147]
    rw [show jI (b2i false) = jI 0 from rfl, r1]
    simp (disch := omega) only [↓mo_cs_s, ↓mo_xs_r, ↓mo_xs_l, ↓mo_nl_s, mo_z_0, mo_z_1, if_true]
/-- the loop: where it ends -/
def RLm (z : Nat) (M : hM) (o : Option (Int32 × ac_H)) : hE → Prop
  | .inl e => ∃ M', o = m_X7_parse_j116 (z + 133) (hp z M') (jI 0) ∧ EM M' e ∧ FXm M M'
  | .inr s => ∃ M', o = m_X7_parse_j116 (z + 133) (hp z M') (jI 1) ∧ RR (gA M' 136) s.1 ∧ gI M' 133 10 = -1 ∧ FXm M M'
theorem X7_stop {z f : Nat} {M : hM} : m_X7_parse_l82 (z + 133) (f + 1) (hp z M) (jI 0) = m_X7_parse_j116 (z + 133) (hp z M) (jI 0) := by
  conv => lhs; unfold m_X7_parse_l82
  rw [if_pos (show jI 0 = (0 : Int32) from rfl)]
theorem sStmt_b {L : List Int} {s s' : hP} (h : sBody L s = .inr s') : sStmt L s = sSemi L s' := by rw [← sBody_eq, h]; rfl
theorem sStmt_e {L : List Int} {s : hP} {e : Int × Int} (h : sBody L s = .inl e) : sStmt L s = .inl e := by rw [← sBody_eq, h]; rfl
theorem sBody_ok {L : List Int} {s s' : hP} (ho : okP L s) (h : sBody L s = .inr s') : okP L s' := by
  unfold sBody at h
  split at h
  · next k hk =>
    have hw := setOf_in hk
    have hk7 : 0 ≤ (k : Int) ∧ (k : Int) ≤ 7 := by unfold wK at hw; omega
    obtain ⟨s1, e1, h⟩ := eB_r h
    unfold sOne at e1
    split at e1
    · cases e1
    · have o1 := (sSet_ok (s := (s.1, fun j => if j = k then true else s.2.1 j, tN L s.2.2)) ⟨ho.1, tN_le ho.2⟩ hk7 e1).1
      split at h
      · exact (sSet_ok o1 (by omega) h).1
      · cases h; exact o1
  · exact (sFault_ok ho h).1
theorem X7_loop {z : Nat} {L : List Int} : ∀ (d f : Nat) (M : hM) (s : hP), L.length < s.2.2 + d → d < f → TXm M L → okP L s → MP M L s →
    RLm z M (m_X7_parse_l82 (z + 133) f (hp z M) (jI 1)) (sLoop L d s) := by
  intro d
  induction d with
  | zero => intro f M s hd hf hT ho h; have := ho.2; omega
  | succ d ih =>
    intro f M s hd hf hT ho h
    obtain ⟨f, rfl⟩ : ∃ g, f = g + 1 := ⟨f - 1, by omega⟩
    have hk' : 0 ≤ tK L s.2.2 ∧ tK L s.2.2 ≤ 4 := eK_in
    have k7 := h.2.2.2.1
    unfold sLoop
    by_cases e0 : tK L s.2.2 = 0
    · rw [if_pos e0]
      refine ⟨M, ?_, h.1.1, h.1.2.2.2, FXm.rfl'⟩
      conv => lhs; unfold m_X7_parse_l82
      simp (disch := omega) only [ji1, ji2, ji3, ji4, ji5, ji6, ji7, ji8, ji9, ji10, ji11, ji12, ji13, ji14, ji15, ji16, ji19, ji20, ji39, ji119, ji144, ji366, ji24, ji31, ji32, ji45, ji48, ji57, ji58, ji59, ji97, ji120, ji122, ji183, ji200, ji226, ji240, ji255, ji500, jI_z, ↓jI_m1, jI_add, jI_sub, jI_mul, j10, if_false, ↓hg133_0, hw133_0, ↓hg133_1, ↓hg133_2, ↓hg133_3, hw133_3, ↓hg133_4, hw133_4, ↓hg133_5, hw133_5, ↓hg133_6, hw133_6, ↓hg133_7, hw133_7, ↓hg133_8, hw133_8, ↓hg133_9, hw133_9, ↓hg133_10, hw133_10, ↓hg133_11, hw133_11, ↓hg133_12, hw133_12, ↓hg133_13, ↓hg133_14, hw133_14, ↓hg133_15, ↓hg133_16, ↓hg133_17, ↓hg133_18, ↓hg133_19, ↓hg133_20, ↓hg133_21, hw133_21, ↓hg133_22, ↓hg133_23, hw133_23, ↓hg133_24, hw133_24, ↓hg133_25, hw133_25, ↓hg133_26, hw133_26, ↓hg133_27, hw133_27, ↓hg133_28, ↓hg133_29, hw133_29, ↓hg133_30, hw133_30, ↓hg133_31, hw133_31, ↓hg133_32, hw133_32, ↓hg133_33, hw133_33, ↓hg133_34, hw133_34, ↓hg133_35, hw133_35, ↓hg133_36, hw133_36, ↓hg133_37, ↓hg133_38, ↓hg133_39, ↓hv133, ↓hx133, ha134, hu134, ↓hl134, ha135, hu135, ↓hl135, ha136, hu136, ↓hl136, ha137, hu137, ↓hl137, ha138, hu138, ↓hl138, ha139, hu139, ↓hl139, ha140, hu140, ↓hl140, ha141, hu141, ↓hl141, ha142, hu142, ↓hl142, ha143, hu143, ↓hl143, ha144, hu144, ↓hl144, ha145, hu145, ↓hl145, ha146, hu146, ↓hl146, ha147, hu147, ↓hl147, k7, e0, if_true]
    · rw [if_neg e0]
      have hst := X7_stm (z := z) hT ho h
      have pre : ∀ r, (mo_cs (m_X7_statement (hp z M) (z + 133)) fun x25 σ24 => if x25 = jI 0 then m_X7_parse_l82 (z + 133) f σ24 (jI 0) else mo_cv σ24 (z + 133) 7 (m_X7_closes σ24 (z + 133)) fun x27 σ26 => if x27 = jI 0 then m_X7_parse_l82 (z + 133) f σ26 (jI 0) else m_X7_parse_l82 (z + 133) f σ26 (jI 1)) = r → m_X7_parse_l82 (z + 133) (f + 1) (hp z M) (jI 1) = r := by
        intro r hr
        rw [← hr]
        conv => lhs; unfold m_X7_parse_l82
        simp (disch := omega) only [ji1, ji2, ji3, ji4, ji5, ji6, ji7, ji8, ji9, ji10, ji11, ji12, ji13, ji14, ji15, ji16, ji19, ji20, ji39, ji119, ji144, ji366, ji24, ji31, ji32, ji45, ji48, ji57, ji58, ji59, ji97, ji120, ji122, ji183, ji200, ji226, ji240, ji255, ji500, jI_z, ↓jI_m1, jI_add, jI_sub, jI_mul, j10, i10, if_false, ↓hg133_0, hw133_0, ↓hg133_1, ↓hg133_2, ↓hg133_3, hw133_3, ↓hg133_4, hw133_4, ↓hg133_5, hw133_5, ↓hg133_6, hw133_6, ↓hg133_7, hw133_7, ↓hg133_8, hw133_8, ↓hg133_9, hw133_9, ↓hg133_10, hw133_10, ↓hg133_11, hw133_11, ↓hg133_12, hw133_12, ↓hg133_13, ↓hg133_14, hw133_14, ↓hg133_15, ↓hg133_16, ↓hg133_17, ↓hg133_18, ↓hg133_19, ↓hg133_20, ↓hg133_21, hw133_21, ↓hg133_22, ↓hg133_23, hw133_23, ↓hg133_24, hw133_24, ↓hg133_25, hw133_25, ↓hg133_26, hw133_26, ↓hg133_27, hw133_27, ↓hg133_28, ↓hg133_29, hw133_29, ↓hg133_30, hw133_30, ↓hg133_31, hw133_31, ↓hg133_32, hw133_32, ↓hg133_33, hw133_33, ↓hg133_34, hw133_34, ↓hg133_35, hw133_35, ↓hg133_36, hw133_36, ↓hg133_37, ↓hg133_38, ↓hg133_39, ↓hv133, ↓hx133, ha134, hu134, ↓hl134, ha135, hu135, ↓hl135, ha136, hu136, ↓hl136, ha137, hu137, ↓hl137, ha138, hu138, ↓hl138, ha139, hu139, ↓hl139, ha140, hu140, ↓hl140, ha141, hu141, ↓hl141, ha142, hu142, ↓hl142, ha143, hu143, ↓hl143, ha144, hu144, ↓hl144, ha145, hu145, ↓hl145, ha146, hu146, ↓hl146, ha147, hu147, ↓hl147, k7, jI_eq, e0]
      obtain ⟨f', hf'⟩ : ∃ g, f = g + 1 := ⟨f - 1, by omega⟩
      cases hsb : sBody L s with
      | inl e =>
        rw [hsb] at hst
        obtain ⟨M1, r1, r2, r3⟩ := hst
        rw [sStmt_e hsb]
        refine ⟨M1, pre _ ?_, r2, r3⟩
        rw [r1]
        simp (disch := omega) only [↓mo_cs_s, ↓mo_xs_r, ↓mo_xs_l, ↓mo_nl_s, mo_z_0, mo_z_1, if_true]
        rw [hf']
        exact X7_stop
      | inr s1 =>
        rw [hsb] at hst
        obtain ⟨M1, r1, r2, r3⟩ := hst
        have o1 := sBody_ok ho hsb
        have hcl := X7_cl (z := z) (hT.x r3) o1 r2
        rw [r1] at pre
        simp (disch := omega) only [↓mo_cs_s, ↓mo_xs_r, ↓mo_xs_l, ↓mo_nl_s, mo_z_0, mo_z_1, j10, if_false, ↓hg133_0, hw133_0, ↓hg133_1, ↓hg133_2, ↓hg133_3, hw133_3, ↓hg133_4, hw133_4, ↓hg133_5, hw133_5, ↓hg133_6, hw133_6, ↓hg133_7, hw133_7, ↓hg133_8, hw133_8, ↓hg133_9, hw133_9, ↓hg133_10, hw133_10, ↓hg133_11, hw133_11, ↓hg133_12, hw133_12, ↓hg133_13, ↓hg133_14, hw133_14, ↓hg133_15, ↓hg133_16, ↓hg133_17, ↓hg133_18, ↓hg133_19, ↓hg133_20, ↓hg133_21, hw133_21, ↓hg133_22, ↓hg133_23, hw133_23, ↓hg133_24, hw133_24, ↓hg133_25, hw133_25, ↓hg133_26, hw133_26, ↓hg133_27, hw133_27, ↓hg133_28, ↓hg133_29, hw133_29, ↓hg133_30, hw133_30, ↓hg133_31, hw133_31, ↓hg133_32, hw133_32, ↓hg133_33, hw133_33, ↓hg133_34, hw133_34, ↓hg133_35, hw133_35, ↓hg133_36, hw133_36, ↓hg133_37, ↓hg133_38, ↓hg133_39, ↓hv133, ↓hx133, ha134, hu134, ↓hl134, ha135, hu135, ↓hl135, ha136, hu136, ↓hl136, ha137, hu137, ↓hl137, ha138, hu138, ↓hl138, ha139, hu139, ↓hl139, ha140, hu140, ↓hl140, ha141, hu141, ↓hl141, ha142, hu142, ↓hl142, ha143, hu143, ↓hl143, ha144, hu144, ↓hl144, ha145, hu145, ↓hl145, ha146, hu146, ↓hl146, ha147, hu147, ↓hl147] at pre
        have hss := sStmt_b hsb
        rw [hss]
        cases hsm : sSemi L s1 with
        | inl e =>
          rw [hsm] at hcl
          obtain ⟨M2, t1, t2, t3⟩ := hcl
          refine ⟨M2, pre _ ?_, t2, r3.trans t3⟩
          rw [t1]
          simp (disch := omega) only [↓mo_cs_s, ↓mo_xs_r, ↓mo_xs_l, ↓mo_nl_s, mo_z_0, mo_z_1, if_true]
          rw [hf']
          exact X7_stop
        | inr s2 =>
          rw [hsm] at hcl hss
          obtain ⟨M2, t1, t2, t3⟩ := hcl
          obtain ⟨o2, g2⟩ := sStmt_ok ho e0 hss
          have IH := ih f M2 s2 (by omega) (by omega) ((hT.x r3).x t3) o2 t2
          rw [t1] at pre
          simp (disch := omega) only [↓mo_cs_s, ↓mo_xs_r, ↓mo_xs_l, ↓mo_nl_s, mo_z_0, mo_z_1, j10, if_false] at pre
          show RLm z M _ (sLoop L d s2)
          cases hsl : sLoop L d s2 with
          | inl e =>
            rw [hsl] at IH
            obtain ⟨M3, v1, v2, v3⟩ := IH
            exact ⟨M3, pre _ v1, v2, (r3.trans t3).trans v3⟩
          | inr s3 =>
            rw [hsl] at IH
            obtain ⟨M3, v1, v2, v3, v4⟩ := IH
            exact ⟨M3, pre _ v1, v2, v3, (r3.trans t3).trans v4⟩
/-- a row begins -/
theorem X7_bg_l {z a : Nat} {M0 : hM} (ha : isR a) : ∀ (d i n : Nat) (M : hM), i + d = 183 → d < n → (∀ k, k < i → gA M a k = 0) → (∀ e k, e ≠ a → gA M e k = gA M0 e k) → (∀ e k, gI M e k = gI M0 e k) → Vr M0 M →
    ∃ M', m_X7_begins_l3 (z + a) (jI 0) (jI 1) (jI 10) n (hp z M) (jI i) = some ((), hp z M') ∧ RR (gA M' a) c0 ∧ (∀ k, 39 ≤ k → k < 183 → gA M' a k = 0) ∧ (∀ e k, e ≠ a → gA M' e k = gA M0 e k) ∧ (∀ e k, gI M' e k = gI M0 e k) ∧ Vr M0 M' := by
  intro d
  induction d with
  | zero =>
    intro i n M hi hn hz hA hI hV
    obtain ⟨n, rfl⟩ : ∃ k, n = k + 1 := ⟨n - 1, by omega⟩
    have hi8 : i = 183 := by omega
    subst hi8
    refine ⟨sA (sA (sA (sA (sA (sA (sA (sA M a 0 0) a 1 1) a 2 10) a 3 1) a 4 8) a 5 2) a 6 4) a 7 50, ?_, ⟨fun k hk => ?_, ?_, fun i x hx => by simp [c0] at hx⟩, fun k h1 h2 => ?_, fun e k he => ?_, fun e k => hI e k, fun k => hV k⟩
    · have g : ¬ ((183 : Nat) : Int) < 183 := by omega
      unfold m_X7_begins_l3
      simp (disch := omega) only [ji1, ji2, ji3, ji4, ji5, ji6, ji7, ji8, ji9, ji10, ji11, ji12, ji13, ji14, ji15, ji16, ji19, ji20, ji39, ji119, ji144, ji366, ji24, ji31, ji32, ji45, ji48, ji57, ji58, ji59, ji97, ji120, ji122, ji183, ji200, ji226, ji240, ji255, ji500, jI_z, ↓jI_m1, jI_add, jI_sub, jI_mul, ji50, jI_lt, g, if_false, Ru ha]
      rfl
    · rcases (show k = 0 ∨ k = 1 ∨ k = 2 ∨ k = 3 ∨ k = 4 ∨ k = 5 ∨ k = 6 ∨ k = 7 by omega) with e | e | e | e | e | e | e | e <;> subst e <;> simp [gA_sA] <;> rfl
    · simp only [gA_sA]
      simp [hz 8 (by omega), c0]
    · simp only [gA_sA]
      rw [if_neg (by omega), if_neg (by omega), if_neg (by omega), if_neg (by omega), if_neg (by omega), if_neg (by omega), if_neg (by omega), if_neg (by omega)]
      exact hz k h2
    · simp only [gA_sA]
      rw [if_neg (by omega), if_neg (by omega), if_neg (by omega), if_neg (by omega), if_neg (by omega), if_neg (by omega), if_neg (by omega), if_neg (by omega)]
      exact hA e k he
  | succ d ih =>
    intro i n M hi hn hz hA hI hV
    obtain ⟨n, rfl⟩ : ∃ k, n = k + 1 := ⟨n - 1, by omega⟩
    obtain ⟨M1, r1, r2⟩ := ih (i + 1) n (sA M a i 0) (by omega) (by omega) (fun k hk => by
      rw [gA_sA]
      by_cases e : k = i
      · rw [if_pos ⟨rfl, e⟩]
      · rw [if_neg (by omega)]; exact hz k (by omega)) (fun e k he => by rw [gA_sA, if_neg (by omega)]; exact hA e k he) (fun e k => hI e k) (fun k => hV k)
    refine ⟨M1, ?_, r2⟩
    rw [← r1]
    have g : (i : Int) < 183 := by omega
    have ek : (i : Int) + 1 = ((i + 1 : Nat) : Int) := by omega
    conv => lhs; unfold m_X7_begins_l3
    simp (disch := omega) only [ji1, ji2, ji3, ji4, ji5, ji6, ji7, ji8, ji9, ji10, ji11, ji12, ji13, ji14, ji15, ji16, ji19, ji20, ji39, ji119, ji144, ji366, ji24, ji31, ji32, ji45, ji48, ji57, ji58, ji59, ji97, ji120, ji122, ji183, ji200, ji226, ji240, ji255, ji500, jI_z, ↓jI_m1, jI_add, jI_sub, jI_mul, jI_lt, g, if_true, Ru ha, Int.toNat_natCast, ek]
theorem X7_bg {z a : Nat} {M : hM} (ha : isR a) : ∃ M', m_X7_begins (hp z M) (z + a) (jI 0) (jI 1) (jI 10) = some ((), hp z M') ∧ RR (gA M' a) c0 ∧ (∀ k, 39 ≤ k → k < 183 → gA M' a k = 0) ∧ (∀ e k, e ≠ a → gA M' e k = gA M e k) ∧ (∀ e k, gI M' e k = gI M e k) ∧ Vr M M' :=
  X7_bg_l (z := z) (M0 := M) ha 183 0 hN_f M (by omega) (by unfold hN_f; omega) (fun k hk => by omega) (fun _ _ _ => rfl) (fun _ _ => rfl) (fun _ => rfl)
/-! the errors -/
def okE (L : List Int) (e : Int × Int) : Prop := 1 ≤ e.1 ∧ e.1 ≤ 4 ∧ 0 ≤ e.2 ∧ e.2 ≤ L.length
theorem okE_t {L : List Int} {c : Int} {p : Nat} (hp' : p ≤ L.length) (hc : 1 ≤ c ∧ c ≤ 4) : okE L (c, (tS L p : Int)) := by
  have := tS_le hp'
  exact ⟨hc.1, hc.2, by show (0 : Int) ≤ tS L p; omega, by show (tS L p : Int) ≤ L.length; omega⟩
theorem sNum_e {L : List Int} {lo hi : Int} {p : Nat} {e : Int × Int} (hp' : p ≤ L.length) (h : sNum L lo hi p = .inl e) : okE L e := by
  unfold sNum at h
  split at h
  · split at h
    · cases h
    · cases h; exact okE_t hp' (by omega)
  · cases h; exact okE_t hp' (by omega)
theorem sSet_e {L : List Int} {k : Int} {s : hP} {e : Int × Int} (ho : okP L s) (h : sSet L k s = .inl e) : okE L e := by
  unfold sSet at h
  split at h
  · next hq => cases h; exact sNum_e ho.2 hq
  · cases h
theorem sSemi_e {L : List Int} {s : hP} {e : Int × Int} (ho : okP L s) (h : sSemi L s = .inl e) : okE L e := by
  unfold sSemi at h
  split at h
  · cases h
  · cases h; exact okE_t ho.2 (by omega)
theorem eB_l {e : hE} {f : hP → hE} {x : Int × Int} (h : eB e f = .inl x) : e = .inl x ∨ ∃ s, e = .inr s ∧ f s = .inl x := by
  cases e with
  | inl y => exact Or.inl h
  | inr s => exact Or.inr ⟨s, rfl, h⟩
theorem sFault_e {L : List Int} {s : hP} {e : Int × Int} (ho : okP L s) (h : sFault L s = .inl e) : okE L e := by
  have h1 := tN_le ho.2
  unfold sFault at h
  split at h
  · cases h; exact okE_t ho.2 (by omega)
  · split at h
    · split at h
      · next hq => cases h; exact sNum_e h1 hq
      · split at h
        · unfold sAmt at h
          split at h
          · split at h
            · next hq => cases h; exact sNum_e (tN_le h1) hq
            · cases h
          · cases h
        · cases h; exact okE_t h1 (by omega)
    · cases h; exact okE_t ho.2 (by omega)
theorem sStmt_er {L : List Int} {s : hP} {e : Int × Int} (ho : okP L s) (h : sStmt L s = .inl e) : okE L e := by
  unfold sStmt at h
  split at h
  · next k hk =>
    have hw := setOf_in hk
    have hk7 : 0 ≤ (k : Int) ∧ (k : Int) ≤ 7 := by unfold wK at hw; omega
    split at h
    · cases h; exact okE_t ho.2 (by omega)
    · have ho1 : okP L (s.1, fun j => if j = k then true else s.2.1 j, tN L s.2.2) := ⟨ho.1, tN_le ho.2⟩
      rcases eB_l h with h | ⟨s1, e1, h⟩
      · exact sSet_e ho1 h
      · have o1 := (sSet_ok ho1 hk7 e1).1
        split at h
        · rcases eB_l h with h | ⟨s2, e2, h⟩
          · exact sSet_e o1 h
          · exact sSemi_e (sSet_ok o1 (by omega) e2).1 h
        · exact sSemi_e o1 h
  · rcases eB_l h with h | ⟨s1, e1, h⟩
    · exact sFault_e ho h
    · exact sSemi_e (sFault_ok ho e1).1 h
theorem sLoop_e {L : List Int} : ∀ (n : Nat) (s : hP) (e : Int × Int), okP L s → sLoop L n s = .inl e → okE L e := by
  intro n
  induction n with
  | zero => intro s e _ h; cases h
  | succ n ih =>
    intro s e ho h
    unfold sLoop at h
    split at h
    · cases h
    · next h0 =>
      rcases eB_l h with h | ⟨s1, e1, h⟩
      · exact sStmt_er ho h
      · exact ih s1 e (sStmt_ok ho h0 e1).1 h
theorem sLoop_ok {L : List Int} : ∀ (n : Nat) (s s' : hP), okP L s → sLoop L n s = .inr s' → okP L s' := by
  intro n
  induction n with
  | zero => intro s s' ho h; cases h; exact ho
  | succ n ih =>
    intro s s' ho h
    unfold sLoop at h
    split at h
    · cases h; exact ho
    · next h0 =>
      obtain ⟨s1, e1, h⟩ := eB_r h
      exact ih s1 s' (sStmt_ok ho h0 e1).1 h
theorem sParse_e {L : List Int} {e : Int × Int} (h : sParse L = .inl e) : okE L e := by
  unfold sParse at h
  rcases eB_l h with h | ⟨s1, e1, h⟩
  · unfold sHead at h
    split at h
    · split at h
      · cases h; exact okE_t (tN_le (by omega)) (by omega)
      · next v hv =>
        have hv' := prot_in hv
        have ho3 : okP L (cS c0 0 v, fun _ => false, tN L (tN L 0)) := ⟨okC_c0.set (by omega) (by show (0 : Int) ≤ v ∧ v ≤ 2; exact hv'), tN_le (tN_le (by omega))⟩
        rcases eB_l h with h | ⟨s1, e1, h⟩
        · exact sSet_e ho3 h
        · have o1 := (sSet_ok ho3 (by omega) e1).1
          rcases eB_l h with h | ⟨s2, e2, h⟩
          · exact sSet_e o1 h
          · exact sSemi_e (sSet_ok o1 (by omega) e2).1 h
    · cases h; exact okE_t (by omega) (by omega)
  · exact sLoop_e _ _ _ (sHead_ok e1) h
theorem sParse_s {L : List Int} {s : hP} (h : sParse L = .inr s) : okP L s := by
  unfold sParse at h
  obtain ⟨s1, e1, h⟩ := eB_r h
  exact sLoop_ok _ _ _ (sHead_ok e1) h

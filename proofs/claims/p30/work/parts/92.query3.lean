variable {S : hSh}
theorem zO_le {c : hCf} (hc : okC c) : (zR c).2.2.1.length ≤ 240 := by
  have h := (zJ_R hc).1.2
  have h2 := hnd_le (t := (zR c).1) (j := 0) (T := (zR c).2.1)
  have h3 := zN_le hc
  omega
def resV (c : hCf) (w : Int) : Int :=
  if w = 0 then (zR c).1 else if w = 1 then (zR c).2.1.length else if w = 2 then (zR c).2.2.1.length else if w = 3 then (zR c).2.2.2.2.2.2.2.2
  else if w = 4 then (repT (zR c).2.1 0 0 : Nat) else if w = 5 then (ansT (zR c).2.1 0 : Nat) else if w = 6 then (sum9 (fun k => pop ((zR c).2.2.2.1 k)) 9 : Nat) else (zBits c (zR c).2 : Nat)
/-- promise 7 -/
def rResult (q : hQ) (w : Int) : hR := if 0 ≤ w ∧ w ≤ 7 then (0, resV q.1.1 w, q) else (1, 0, q)
theorem C_result {z : Nat} {M : hM} {q : hQ} {w : Int} (h : CI M q) (ho : okQ q) (hw : okW w) : OC S z M (m_X6_result (hp S z M) z (jI w)) eA (rResult q w) := by
  obtain ⟨w0, w1⟩ := hw
  have hc := ho.1.1
  unfold rResult
  by_cases g : 0 ≤ w ∧ w ≤ 7
  · rw [if_pos g]
    obtain ⟨M1, r1, r2, r3, r4⟩ := X4_play (S := S) (z := z) (b := 1) (Or.inl rfl) h.1.1 hc
    refine oc_q (FD.of15 r3 r4) h ho ?_
    have n0 : ¬ w < 0 := by omega
    have n1 : ¬ 7 < w := by omega
    obtain ⟨p1, p2, p3, p4⟩ := r2
    have d1 := p3.1
    have d7 := p3.2.2.2.2.2.2.2
    have l1 := p2.1
    have rep := X2_rep (S := S) (z := z) p2 (zN_le hc) (okTs_R hc)
    have ans := X2_ans (S := S) (z := z) p2 (zN_le hc) (okTs_R hc)
    have hm := X5_hm (S := S) (z := z) (s := 28) rfl p4
    unfold m_X6_result
    rw [if_neg (show ¬ jI w < (0 : Int32) by rw [jI_z, jI_lt (by omega) (by omega) (by omega) (by omega)]; exact n0), if_neg (show ¬ (7 : Int32) < jI w by rw [ji7, jI_lt (by omega) (by omega) (by omega) (by omega)]; exact n1), hg0_2, hg0_0, hv15, r1, mo_cs_s]
    unfold m_X4_line m_X4_deliveries m_X4_states m_X4_tickCount m_X2_sentCount m_X1_howMany m_X1_completeTick
    by_cases e0 : w = 0
    · rw [if_pos (show jI w = (0 : Int32) by rw [e0]; rfl)]
      simp (disch := omega) only [↓mo_ns_r, ↓hn0, ↓mo_cs_s, ↓mo_xs_r, ↓mo_xs_l, ↓mo_nl_s, mo_z_0, mo_z_1, ↓hg0_0, ↓hg0_1, ↓hg0_2, ↓hg0_3, ↓hg0_4, ↓hg0_5, hw0_5, ↓hg0_6, ↓hg0_7, ↓hv0, ↓hx0, ha132, hu132, ↓hl132, ↓hg15_0, ↓hg15_1, ↓hg15_2, ↓hg15_3, hw15_3, ↓hg15_4, hw15_4, ↓hg15_5, hw15_5, ↓hg15_6, hw15_6, ↓hg15_7, hw15_7, ↓hg15_8, hw15_8, ↓hg15_9, hw15_9, ↓hg15_10, hw15_10, ↓hg15_11, hw15_11, ↓hg15_12, hw15_12, ↓hg15_13, hw15_13, ↓hg15_14, hw15_14, ↓hv15, ↓hx15, ha29, hu29, ↓hl29, p1]
      unfold resV
      subst e0; rfl
    rw [if_neg (show ¬ jI w = (0 : Int32) by rw [show (0 : Int32) = jI 0 from rfl, jI_eq (by omega) (by omega) (by omega) (by omega)]; exact e0)]
    by_cases e1 : w = 1
    · rw [if_pos (show jI w = (1 : Int32) by rw [e1]; rfl)]
      simp (disch := omega) only [↓mo_ns_r, ↓hn0, ↓mo_cs_s, ↓mo_xs_r, ↓mo_xs_l, ↓mo_nl_s, mo_z_0, mo_z_1, ↓hg0_0, ↓hg0_1, ↓hg0_2, ↓hg0_3, ↓hg0_4, ↓hg0_5, hw0_5, ↓hg0_6, ↓hg0_7, ↓hv0, ↓hx0, ha132, hu132, ↓hl132, ↓hg15_0, ↓hg15_1, ↓hg15_2, ↓hg15_3, hw15_3, ↓hg15_4, hw15_4, ↓hg15_5, hw15_5, ↓hg15_6, hw15_6, ↓hg15_7, hw15_7, ↓hg15_8, hw15_8, ↓hg15_9, hw15_9, ↓hg15_10, hw15_10, ↓hg15_11, hw15_11, ↓hg15_12, hw15_12, ↓hg15_13, hw15_13, ↓hg15_14, hw15_14, ↓hv15, ↓hx15, ha29, hu29, ↓hl29, ↓hg16_0, ↓hg16_1, ↓hg16_2, ↓hg16_3, ↓hg16_4, ↓hg16_5, hw16_5, ↓hg16_6, ↓hg16_7, ↓hg16_8, ↓hg16_9, ↓hg16_10, hw16_10, ↓hv16, ↓hx16, ha17, hu17, ↓hl17, ha18, hu18, ↓hl18, ha19, hu19, ↓hl19, ha20, hu20, ↓hl20, ha21, hu21, ↓hl21, ha22, hu22, ↓hl22, ha23, hu23, ↓hl23, ha24, hu24, ↓hl24, ha25, hu25, ↓hl25, l1]
      unfold resV
      subst e1; rfl
    rw [if_neg (show ¬ jI w = (1 : Int32) by rw [show (1 : Int32) = jI 1 from rfl, jI_eq (by omega) (by omega) (by omega) (by omega)]; exact e1)]
    by_cases e2 : w = 2
    · rw [if_pos (show jI w = (2 : Int32) by rw [e2]; rfl)]
      simp (disch := omega) only [↓mo_ns_r, ↓hn0, ↓mo_cs_s, ↓mo_xs_r, ↓mo_xs_l, ↓mo_nl_s, mo_z_0, mo_z_1, ↓hg0_0, ↓hg0_1, ↓hg0_2, ↓hg0_3, ↓hg0_4, ↓hg0_5, hw0_5, ↓hg0_6, ↓hg0_7, ↓hv0, ↓hx0, ha132, hu132, ↓hl132, ↓hg15_0, ↓hg15_1, ↓hg15_2, ↓hg15_3, hw15_3, ↓hg15_4, hw15_4, ↓hg15_5, hw15_5, ↓hg15_6, hw15_6, ↓hg15_7, hw15_7, ↓hg15_8, hw15_8, ↓hg15_9, hw15_9, ↓hg15_10, hw15_10, ↓hg15_11, hw15_11, ↓hg15_12, hw15_12, ↓hg15_13, hw15_13, ↓hg15_14, hw15_14, ↓hv15, ↓hx15, ha29, hu29, ↓hl29, ↓hg26_0, ↓hg26_1, hw26_1, ↓hg26_2, hw26_2, ↓hg26_3, hw26_3, ↓hg26_4, hw26_4, ↓hg26_5, hw26_5, ↓hg26_6, hw26_6, ↓hg26_7, hw26_7, ↓hv26, ↓hx26, ha27, hu27, ↓hl27, d1]
      unfold resV
      subst e2; rfl
    rw [if_neg (show ¬ jI w = (2 : Int32) by rw [show (2 : Int32) = jI 2 from rfl, jI_eq (by omega) (by omega) (by omega) (by omega)]; exact e2)]
    by_cases e3 : w = 3
    · rw [if_pos (show jI w = (3 : Int32) by rw [e3]; rfl)]
      simp (disch := omega) only [↓mo_ns_r, ↓hn0, ↓mo_cs_s, ↓mo_xs_r, ↓mo_xs_l, ↓mo_nl_s, mo_z_0, mo_z_1, ↓hg0_0, ↓hg0_1, ↓hg0_2, ↓hg0_3, ↓hg0_4, ↓hg0_5, hw0_5, ↓hg0_6, ↓hg0_7, ↓hv0, ↓hx0, ha132, hu132, ↓hl132, ↓hg15_0, ↓hg15_1, ↓hg15_2, ↓hg15_3, hw15_3, ↓hg15_4, hw15_4, ↓hg15_5, hw15_5, ↓hg15_6, hw15_6, ↓hg15_7, hw15_7, ↓hg15_8, hw15_8, ↓hg15_9, hw15_9, ↓hg15_10, hw15_10, ↓hg15_11, hw15_11, ↓hg15_12, hw15_12, ↓hg15_13, hw15_13, ↓hg15_14, hw15_14, ↓hv15, ↓hx15, ha29, hu29, ↓hl29, ↓hg26_0, ↓hg26_1, hw26_1, ↓hg26_2, hw26_2, ↓hg26_3, hw26_3, ↓hg26_4, hw26_4, ↓hg26_5, hw26_5, ↓hg26_6, hw26_6, ↓hg26_7, hw26_7, ↓hv26, ↓hx26, ha27, hu27, ↓hl27, d7]
      unfold resV
      subst e3; rfl
    rw [if_neg (show ¬ jI w = (3 : Int32) by rw [show (3 : Int32) = jI 3 from rfl, jI_eq (by omega) (by omega) (by omega) (by omega)]; exact e3)]
    by_cases e4 : w = 4
    · rw [if_pos (show jI w = (4 : Int32) by rw [e4]; rfl)]
      simp (disch := omega) only [↓mo_ns_r, ↓hn0, ↓mo_cs_s, ↓mo_xs_r, ↓mo_xs_l, ↓mo_nl_s, mo_z_0, mo_z_1, ↓hg0_0, ↓hg0_1, ↓hg0_2, ↓hg0_3, ↓hg0_4, ↓hg0_5, hw0_5, ↓hg0_6, ↓hg0_7, ↓hv0, ↓hx0, ha132, hu132, ↓hl132, ↓hg15_0, ↓hg15_1, ↓hg15_2, ↓hg15_3, hw15_3, ↓hg15_4, hw15_4, ↓hg15_5, hw15_5, ↓hg15_6, hw15_6, ↓hg15_7, hw15_7, ↓hg15_8, hw15_8, ↓hg15_9, hw15_9, ↓hg15_10, hw15_10, ↓hg15_11, hw15_11, ↓hg15_12, hw15_12, ↓hg15_13, hw15_13, ↓hg15_14, hw15_14, ↓hv15, ↓hx15, ha29, hu29, ↓hl29, ↓hg16_0, ↓hg16_1, ↓hg16_2, ↓hg16_3, ↓hg16_4, ↓hg16_5, hw16_5, ↓hg16_6, ↓hg16_7, ↓hg16_8, ↓hg16_9, ↓hg16_10, hw16_10, ↓hv16, ↓hx16, ha17, hu17, ↓hl17, ha18, hu18, ↓hl18, ha19, hu19, ↓hl19, ha20, hu20, ↓hl20, ha21, hu21, ↓hl21, ha22, hu22, ↓hl22, ha23, hu23, ↓hl23, ha24, hu24, ↓hl24, ha25, hu25, ↓hl25, rep]
      unfold resV
      subst e4; rfl
    rw [if_neg (show ¬ jI w = (4 : Int32) by rw [show (4 : Int32) = jI 4 from rfl, jI_eq (by omega) (by omega) (by omega) (by omega)]; exact e4)]
    by_cases e5 : w = 5
    · rw [if_pos (show jI w = (5 : Int32) by rw [e5]; rfl)]
      simp (disch := omega) only [↓mo_ns_r, ↓hn0, ↓mo_cs_s, ↓mo_xs_r, ↓mo_xs_l, ↓mo_nl_s, mo_z_0, mo_z_1, ↓hg0_0, ↓hg0_1, ↓hg0_2, ↓hg0_3, ↓hg0_4, ↓hg0_5, hw0_5, ↓hg0_6, ↓hg0_7, ↓hv0, ↓hx0, ha132, hu132, ↓hl132, ↓hg15_0, ↓hg15_1, ↓hg15_2, ↓hg15_3, hw15_3, ↓hg15_4, hw15_4, ↓hg15_5, hw15_5, ↓hg15_6, hw15_6, ↓hg15_7, hw15_7, ↓hg15_8, hw15_8, ↓hg15_9, hw15_9, ↓hg15_10, hw15_10, ↓hg15_11, hw15_11, ↓hg15_12, hw15_12, ↓hg15_13, hw15_13, ↓hg15_14, hw15_14, ↓hv15, ↓hx15, ha29, hu29, ↓hl29, ↓hg16_0, ↓hg16_1, ↓hg16_2, ↓hg16_3, ↓hg16_4, ↓hg16_5, hw16_5, ↓hg16_6, ↓hg16_7, ↓hg16_8, ↓hg16_9, ↓hg16_10, hw16_10, ↓hv16, ↓hx16, ha17, hu17, ↓hl17, ha18, hu18, ↓hl18, ha19, hu19, ↓hl19, ha20, hu20, ↓hl20, ha21, hu21, ↓hl21, ha22, hu22, ↓hl22, ha23, hu23, ↓hl23, ha24, hu24, ↓hl24, ha25, hu25, ↓hl25, ans]
      unfold resV
      subst e5; rfl
    rw [if_neg (show ¬ jI w = (5 : Int32) by rw [show (5 : Int32) = jI 5 from rfl, jI_eq (by omega) (by omega) (by omega) (by omega)]; exact e5)]
    by_cases e6 : w = 6
    · rw [if_pos (show jI w = (6 : Int32) by rw [e6]; rfl)]
      simp (disch := omega) only [↓mo_ns_r, ↓hn0, ↓mo_cs_s, ↓mo_xs_r, ↓mo_xs_l, ↓mo_nl_s, mo_z_0, mo_z_1, ↓hg0_0, ↓hg0_1, ↓hg0_2, ↓hg0_3, ↓hg0_4, ↓hg0_5, hw0_5, ↓hg0_6, ↓hg0_7, ↓hv0, ↓hx0, ha132, hu132, ↓hl132, ↓hg15_0, ↓hg15_1, ↓hg15_2, ↓hg15_3, hw15_3, ↓hg15_4, hw15_4, ↓hg15_5, hw15_5, ↓hg15_6, hw15_6, ↓hg15_7, hw15_7, ↓hg15_8, hw15_8, ↓hg15_9, hw15_9, ↓hg15_10, hw15_10, ↓hg15_11, hw15_11, ↓hg15_12, hw15_12, ↓hg15_13, hw15_13, ↓hg15_14, hw15_14, ↓hv15, ↓hx15, ha29, hu29, ↓hl29, ↓Sv (b := 28) rfl, hm]
      unfold resV
      subst e6; rfl
    rw [if_neg (show ¬ jI w = (6 : Int32) by rw [show (6 : Int32) = jI 6 from rfl, jI_eq (by omega) (by omega) (by omega) (by omega)]; exact e6)]
    unfold resV
    rw [if_neg e0, if_neg e1, if_neg e2, if_neg e3, if_neg e4, if_neg e5, if_neg e6]
  · rw [if_neg g]
    refine OC.no h (by decide) ?_
    unfold m_X6_result
    by_cases n0 : w < 0
    · rw [if_pos (show jI w < (0 : Int32) by rw [jI_z, jI_lt (by omega) (by omega) (by omega) (by omega)]; exact n0)]; rfl
    · rw [if_neg (show ¬ jI w < (0 : Int32) by rw [jI_z, jI_lt (by omega) (by omega) (by omega) (by omega)]; exact n0), if_pos (show (7 : Int32) < jI w by rw [ji7, jI_lt (by omega) (by omega) (by omega) (by omega)]; omega)]; rfl
/-- promise 8 -/
def delV (O : List Int) (k : Int) : Int := if 0 ≤ k ∧ k < O.length then O.getD k.toNat 0 else -1
def rDelivered (q : hQ) (k : Int) : hR := (0, delV (zR q.1.1).2.2.1 k, q)
theorem C_delivered {z : Nat} {M : hM} {q : hQ} {k : Int} (h : CI M q) (ho : okQ q) (hk : okW k) : OD S z M (m_X6_delivered (hp S z M) z (jI k)) (rDelivered q k) := by
  obtain ⟨k0, k1⟩ := hk
  have hc := ho.1.1
  obtain ⟨M1, r1, r2, r3, r4⟩ := X4_play (S := S) (z := z) (b := 1) (Or.inl rfl) h.1.1 hc
  refine od_q (FD.of15 r3 r4) h ho ?_
  have d1 := r2.2.2.1.1
  have d2 := r2.2.2.1.2.1
  have hO := zO_le hc
  unfold m_X6_delivered
  simp (disch := omega) only [ji1, ji2, ji3, ji4, ji5, ji6, ji7, ji8, ji9, ji10, ji11, ji12, ji13, ji14, ji15, ji16, ji19, ji20, ji24, ji31, ji32, ji39, ji45, ji48, ji57, ji58, ji59, ji60, ji97, ji100, ji119, ji120, ji122, ji144, ji200, ji226, ji240, ji255, ji300, ji366, ji400, ji500, ji1000, jI_z, ↓jI_m1, jI_add, jI_sub, jI_mul, ↓hg0_0, ↓hg0_1, ↓hg0_2, ↓hg0_3, ↓hg0_4, ↓hg0_5, hw0_5, ↓hg0_6, ↓hg0_7, ↓hv0, ↓hx0, ha132, hu132, ↓hl132, ↓hg15_0, ↓hg15_1, ↓hg15_2, ↓hg15_3, hw15_3, ↓hg15_4, hw15_4, ↓hg15_5, hw15_5, ↓hg15_6, hw15_6, ↓hg15_7, hw15_7, ↓hg15_8, hw15_8, ↓hg15_9, hw15_9, ↓hg15_10, hw15_10, ↓hg15_11, hw15_11, ↓hg15_12, hw15_12, ↓hg15_13, hw15_13, ↓hg15_14, hw15_14, ↓hv15, ↓hx15, ha29, hu29, ↓hl29]
  rw [r1]
  unfold m_X4_deliveries m_X1_itemAt
  simp (disch := omega) only [ji1, ji2, ji3, ji4, ji5, ji6, ji7, ji8, ji9, ji10, ji11, ji12, ji13, ji14, ji15, ji16, ji19, ji20, ji24, ji31, ji32, ji39, ji45, ji48, ji57, ji58, ji59, ji60, ji97, ji100, ji119, ji120, ji122, ji144, ji200, ji226, ji240, ji255, ji300, ji366, ji400, ji500, ji1000, jI_z, ↓jI_m1, jI_add, jI_sub, jI_mul, ↓mo_ns_r, ↓hn0, ↓mo_cs_s, ↓mo_xs_r, ↓mo_xs_l, ↓mo_nl_s, mo_z_0, mo_z_1, ↓hg0_0, ↓hg0_1, ↓hg0_2, ↓hg0_3, ↓hg0_4, ↓hg0_5, hw0_5, ↓hg0_6, ↓hg0_7, ↓hv0, ↓hx0, ha132, hu132, ↓hl132, ↓hg15_0, ↓hg15_1, ↓hg15_2, ↓hg15_3, hw15_3, ↓hg15_4, hw15_4, ↓hg15_5, hw15_5, ↓hg15_6, hw15_6, ↓hg15_7, hw15_7, ↓hg15_8, hw15_8, ↓hg15_9, hw15_9, ↓hg15_10, hw15_10, ↓hg15_11, hw15_11, ↓hg15_12, hw15_12, ↓hg15_13, hw15_13, ↓hg15_14, hw15_14, ↓hv15, ↓hx15, ha29, hu29, ↓hl29, ↓hg26_0, ↓hg26_1, hw26_1, ↓hg26_2, hw26_2, ↓hg26_3, hw26_3, ↓hg26_4, hw26_4, ↓hg26_5, hw26_5, ↓hg26_6, hw26_6, ↓hg26_7, hw26_7, ↓hv26, ↓hx26, ha27, hu27, ↓hl27, jI_lt, d1]
  unfold delV
  by_cases n0 : k < 0
  · rw [if_pos n0, if_neg (by omega)]; rfl
  · rw [if_neg n0]
    by_cases n1 : k < (zR q.1.1).2.2.1.length
    · rw [if_pos n1, if_pos (by omega), if_pos ⟨by omega, n1⟩]
      have hx : (zR q.1.1).2.2.1[k.toNat]? = some (zR q.1.1).2.2.1[k.toNat] := List.getElem?_eq_getElem (by omega)
      rw [d2 _ _ hx, List.getD_eq_getElem?_getD, hx]; rfl
    · rw [if_neg n1, if_neg (by omega)]; rfl
/-- promise 9 -/
def prtT (x : hT) (w : Int) : Int := if w = 0 then x.1 else if w = 1 then x.2.1 else if w = 2 then x.2.2.1 else if w = 3 then x.2.2.2.1 else x.2.2.2.2
def sntV (T : List hT) (k w : Int) : Int := if 0 ≤ k ∧ k < T.length then prtT (T.getD k.toNat (0, 0, 0, 0, 0)) w else -1
def rSent (q : hQ) (k w : Int) : hR := if 0 ≤ w ∧ w ≤ 4 then (0, sntV (zR q.1.1).2.1 k w, q) else (1, 0, q)
theorem C_sent {z : Nat} {M : hM} {q : hQ} {k w : Int} (h : CI M q) (ho : okQ q) (hk : okW k) (hw : okW w) : OC S z M (m_X6_sent (hp S z M) z (jI k) (jI w)) eA (rSent q k w) := by
  obtain ⟨k0, k1⟩ := hk
  obtain ⟨w0, w1⟩ := hw
  have hc := ho.1.1
  unfold rSent
  by_cases g : 0 ≤ w ∧ w ≤ 4
  · rw [if_pos g]
    obtain ⟨M1, r1, r2, r3, r4⟩ := X4_play (S := S) (z := z) (b := 1) (Or.inl rfl) h.1.1 hc
    refine oc_q (FD.of15 r3 r4) h ho ?_
    have n0 : ¬ w < 0 := by omega
    have n1 : ¬ 4 < w := by omega
    have l1 := r2.2.1.1
    have l2 := r2.2.1.2
    have hN := zN_le hc
    unfold m_X6_sent
    simp (disch := omega) only [ji1, ji2, ji3, ji4, ji5, ji6, ji7, ji8, ji9, ji10, ji11, ji12, ji13, ji14, ji15, ji16, ji19, ji20, ji24, ji31, ji32, ji39, ji45, ji48, ji57, ji58, ji59, ji60, ji97, ji100, ji119, ji120, ji122, ji144, ji200, ji226, ji240, ji255, ji300, ji366, ji400, ji500, ji1000, jI_z, ↓jI_m1, jI_add, jI_sub, jI_mul, jI_lt, n0, n1, if_false, ↓hg0_0, ↓hg0_1, ↓hg0_2, ↓hg0_3, ↓hg0_4, ↓hg0_5, hw0_5, ↓hg0_6, ↓hg0_7, ↓hv0, ↓hx0, ha132, hu132, ↓hl132, ↓hg15_0, ↓hg15_1, ↓hg15_2, ↓hg15_3, hw15_3, ↓hg15_4, hw15_4, ↓hg15_5, hw15_5, ↓hg15_6, hw15_6, ↓hg15_7, hw15_7, ↓hg15_8, hw15_8, ↓hg15_9, hw15_9, ↓hg15_10, hw15_10, ↓hg15_11, hw15_11, ↓hg15_12, hw15_12, ↓hg15_13, hw15_13, ↓hg15_14, hw15_14, ↓hv15, ↓hx15, ha29, hu29, ↓hl29]
    rw [r1]
    unfold m_X4_line m_X2_sentPart sntV
    simp (disch := omega) only [ji1, ji2, ji3, ji4, ji5, ji6, ji7, ji8, ji9, ji10, ji11, ji12, ji13, ji14, ji15, ji16, ji19, ji20, ji24, ji31, ji32, ji39, ji45, ji48, ji57, ji58, ji59, ji60, ji97, ji100, ji119, ji120, ji122, ji144, ji200, ji226, ji240, ji255, ji300, ji366, ji400, ji500, ji1000, jI_z, ↓jI_m1, jI_add, jI_sub, jI_mul, ↓mo_ns_r, ↓hn0, ↓mo_cs_s, ↓mo_xs_r, ↓mo_xs_l, ↓mo_nl_s, mo_z_0, mo_z_1, ↓hg0_0, ↓hg0_1, ↓hg0_2, ↓hg0_3, ↓hg0_4, ↓hg0_5, hw0_5, ↓hg0_6, ↓hg0_7, ↓hv0, ↓hx0, ha132, hu132, ↓hl132, ↓hg15_0, ↓hg15_1, ↓hg15_2, ↓hg15_3, hw15_3, ↓hg15_4, hw15_4, ↓hg15_5, hw15_5, ↓hg15_6, hw15_6, ↓hg15_7, hw15_7, ↓hg15_8, hw15_8, ↓hg15_9, hw15_9, ↓hg15_10, hw15_10, ↓hg15_11, hw15_11, ↓hg15_12, hw15_12, ↓hg15_13, hw15_13, ↓hg15_14, hw15_14, ↓hv15, ↓hx15, ha29, hu29, ↓hl29, ↓hg16_0, ↓hg16_1, ↓hg16_2, ↓hg16_3, ↓hg16_4, ↓hg16_5, hw16_5, ↓hg16_6, ↓hg16_7, ↓hg16_8, ↓hg16_9, ↓hg16_10, hw16_10, ↓hv16, ↓hx16, ha17, hu17, ↓hl17, ha18, hu18, ↓hl18, ha19, hu19, ↓hl19, ha20, hu20, ↓hl20, ha21, hu21, ↓hl21, ha22, hu22, ↓hl22, ha23, hu23, ↓hl23, ha24, hu24, ↓hl24, ha25, hu25, ↓hl25, jI_lt, jI_eq, l1]
    by_cases m0 : k < 0
    · rw [if_pos m0, if_neg (by omega)]; rfl
    · rw [if_neg m0]
      by_cases m1 : k < (zR q.1.1).2.1.length
      · have hx : (zR q.1.1).2.1[k.toNat]? = some (zR q.1.1).2.1[k.toNat] := List.getElem?_eq_getElem (by omega)
        obtain ⟨a1, a2, a3, a4, a5⟩ := l2 _ _ hx
        rw [if_pos m1, if_pos (by omega), if_pos (show 0 ≤ k ∧ k < ((zR q.1.1).2.1.length : Int) from ⟨by omega, m1⟩), a1, a2, a3, a4, a5, List.getD_eq_getElem?_getD, hx]
        show _ = some (Sum.inr (jI (prtT (zR q.1.1).2.1[k.toNat] w)), _)
        unfold prtT
        by_cases e0 : w = 0
        · rw [if_pos e0, if_pos e0]; rfl
        rw [if_neg e0, if_neg e0]
        by_cases e1 : w = 1
        · rw [if_pos e1, if_pos e1]; rfl
        rw [if_neg e1, if_neg e1]
        by_cases e2 : w = 2
        · rw [if_pos e2, if_pos e2]; rfl
        rw [if_neg e2, if_neg e2]
        by_cases e3 : w = 3
        · rw [if_pos e3, if_pos e3]; rfl
        rw [if_neg e3, if_neg e3]; rfl
      · rw [if_neg m1, if_neg (by omega)]; rfl
  · rw [if_neg g]
    refine OC.no h (by decide) ?_
    unfold m_X6_sent
    simp (disch := omega) only [ji1, ji2, ji3, ji4, ji5, ji6, ji7, ji8, ji9, ji10, ji11, ji12, ji13, ji14, ji15, ji16, ji19, ji20, ji24, ji31, ji32, ji39, ji45, ji48, ji57, ji58, ji59, ji60, ji97, ji100, ji119, ji120, ji122, ji144, ji200, ji226, ji240, ji255, ji300, ji366, ji400, ji500, ji1000, jI_z, ↓jI_m1, jI_add, jI_sub, jI_mul, jI_lt]
    by_cases n0 : w < 0
    · rw [if_pos n0]; rfl
    · rw [if_neg n0, if_pos (by omega)]; rfl
/-- promise 11 -/
def rReaches (q : hQ) (a b : Int) : hR := (0, isV (zR q.1.1).2.2.2.1 a b, q)
theorem C_reaches {z : Nat} {M : hM} {q : hQ} {a b : Int} (h : CI M q) (ho : okQ q) (ha : okW a) (hb : okW b) : OD S z M (m_X6_reaches (hp S z M) z (jI a) (jI b)) (rReaches q a b) := by
  have hc := ho.1.1
  obtain ⟨M1, r1, r2, r3, r4⟩ := X4_play (S := S) (z := z) (b := 1) (Or.inl rfl) h.1.1 hc
  have e := X5_holds (S := S) (z := z) (s := 28) rfl r2.2.2.2 ha hb
  refine od_q (FD.of15 r3 r4) h ho ?_
  unfold m_X6_reaches
  simp (disch := omega) only [↓hg0_0, ↓hg0_1, ↓hg0_2, ↓hg0_3, ↓hg0_4, ↓hg0_5, hw0_5, ↓hg0_6, ↓hg0_7, ↓hv0, ↓hx0, ha132, hu132, ↓hl132, ↓hg15_0, ↓hg15_1, ↓hg15_2, ↓hg15_3, hw15_3, ↓hg15_4, hw15_4, ↓hg15_5, hw15_5, ↓hg15_6, hw15_6, ↓hg15_7, hw15_7, ↓hg15_8, hw15_8, ↓hg15_9, hw15_9, ↓hg15_10, hw15_10, ↓hg15_11, hw15_11, ↓hg15_12, hw15_12, ↓hg15_13, hw15_13, ↓hg15_14, hw15_14, ↓hv15, ↓hx15, ha29, hu29, ↓hl29]
  rw [r1]
  unfold m_X4_states
  simp (disch := omega) only [↓mo_ns_r, ↓hn0, ↓mo_cs_s, ↓mo_xs_r, ↓mo_xs_l, ↓mo_nl_s, mo_z_0, mo_z_1, ↓hg0_0, ↓hg0_1, ↓hg0_2, ↓hg0_3, ↓hg0_4, ↓hg0_5, hw0_5, ↓hg0_6, ↓hg0_7, ↓hv0, ↓hx0, ha132, hu132, ↓hl132, ↓hg15_0, ↓hg15_1, ↓hg15_2, ↓hg15_3, hw15_3, ↓hg15_4, hw15_4, ↓hg15_5, hw15_5, ↓hg15_6, hw15_6, ↓hg15_7, hw15_7, ↓hg15_8, hw15_8, ↓hg15_9, hw15_9, ↓hg15_10, hw15_10, ↓hg15_11, hw15_11, ↓hg15_12, hw15_12, ↓hg15_13, hw15_13, ↓hg15_14, hw15_14, ↓hv15, ↓hx15, ha29, hu29, ↓hl29, ↓Sv (b := 28) rfl]
  rw [e]
  show mo_z (jI (isV (zR q.1.1).2.2.2.1 a b)) (some (jI (isV (zR q.1.1).2.2.2.1 a b), hp S z M1)) = _
  rw [mo_zv]

variable {S : hSh}
/-! QUESTIONS: attack, weakPoints, timerFor, isRecorded, size, results of the run. -/
theorem oc_q {z : Nat} {M M' : hM} {q : hQ} {o : Option ((String ⊕ Int32) × ac_H)} {e : Int → String} {v : Int} (f : FD M M') (h : CI M q) (ho : okQ q) (r : o = some (.inr (jI v), hp S z M')) : OC S z M o e (0, v, q) := FD.oc f h ho r
theorem od_q {z : Nat} {M M' : hM} {q : hQ} {o : Option (Int32 × ac_H)} {v : Int} (f : FD M M') (h : CI M q) (ho : okQ q) (r : o = some (jI v, hp S z M')) : OD S z M o (0, v, q) := ⟨M', r, f.ci h ho, f.km⟩
def atI (o : Option hF) (p : Int) : Int := match o with
  | none => -1
  | some x => prtF x p
/-- promise 16 -/
def rAttack (q : hQ) (p w : Int) : hR := if 0 ≤ p ∧ p < 4 then (if 0 ≤ w ∧ w ≤ 2 then (0, atI (atkV q.1.1 p.toNat) w, q) else (1, 0, q)) else (1, 0, q)
theorem C_attack {z : Nat} {M : hM} {q : hQ} {p w : Int} (h : CI M q) (ho : okQ q) (hp' : okW p) (hw : okW w) : OC S z M (m_X6_attack (hp S z M) z (jI p) (jI w)) eA (rAttack q p w) := by
  obtain ⟨w0, w1⟩ := hw
  unfold rAttack
  by_cases g : 0 ≤ p ∧ p < 4
  · rw [if_pos g]
    obtain ⟨p, rfl⟩ : ∃ i : Nat, p = i := ⟨p.toNat, by omega⟩
    by_cases g2 : 0 ≤ w ∧ w ≤ 2
    · rw [if_pos g2]
      obtain ⟨M1, r1, r2, r3, r4⟩ := X6_fa (S := S) (z := z) (p := p) h.1.1 ho.1.1 (by omega)
      simp only [Int.toNat_natCast]
      have n1 : ¬ w < 0 := by omega
      have n2 : ¬ 2 < w := by omega
      cases hb : brk (q.1.1.1, []) p with
      | true =>
        rw [r3 hb]
        refine oc_q r2 h ho ?_
        unfold m_X6_attack
        rw [X6_cp1 (by omega)]
        simp (disch := omega) only [↓mo_ns_r, ↓hn0, ↓mo_cs_s, ↓mo_xs_r, ↓mo_xs_l, ↓mo_nl_s, mo_z_0, mo_z_1, ji1, ji2, ji3, ji4, ji5, ji6, ji7, ji8, ji9, ji10, ji11, ji12, ji13, ji14, ji15, ji16, ji19, ji20, ji24, ji31, ji32, ji39, ji45, ji48, ji57, ji58, ji59, ji60, ji97, ji100, ji119, ji120, ji122, ji144, ji200, ji226, ji240, ji255, ji300, ji366, ji400, ji500, ji1000, jI_z, ↓jI_m1, jI_add, jI_sub, jI_mul, jI_lt, n1, n2, if_false, ↓hg0_0, ↓hg0_1, ↓hg0_2, ↓hg0_3, ↓hg0_4, ↓hg0_5, hw0_5, ↓hg0_6, ↓hg0_7, ↓hv0, ↓hx0, ha132, hu132, ↓hl132]
        rw [r1, hb]
        simp (disch := omega) only [↓mo_ns_r, ↓hn0, ↓mo_cs_s, ↓mo_xs_r, ↓mo_xs_l, ↓mo_nl_s, mo_z_0, mo_z_1, ji1, ji2, ji3, ji4, ji5, ji6, ji7, ji8, ji9, ji10, ji11, ji12, ji13, ji14, ji15, ji16, ji19, ji20, ji24, ji31, ji32, ji39, ji45, ji48, ji57, ji58, ji59, ji60, ji97, ji100, ji119, ji120, ji122, ji144, ji200, ji226, ji240, ji255, ji300, ji366, ji400, ji500, ji1000, jI_z, ↓jI_m1, jI_add, jI_sub, jI_mul, b2i_0, Bool.true_eq_false, if_false]
        rfl
      | false =>
        obtain ⟨k5, M2, k1, k2, k3⟩ := r4 hb
        refine oc_q k2 h ho ?_
        unfold m_X6_attack
        rw [X6_cp1 (by omega)]
        simp (disch := omega) only [↓mo_ns_r, ↓hn0, ↓mo_cs_s, ↓mo_xs_r, ↓mo_xs_l, ↓mo_nl_s, mo_z_0, mo_z_1, ji1, ji2, ji3, ji4, ji5, ji6, ji7, ji8, ji9, ji10, ji11, ji12, ji13, ji14, ji15, ji16, ji19, ji20, ji24, ji31, ji32, ji39, ji45, ji48, ji57, ji58, ji59, ji60, ji97, ji100, ji119, ji120, ji122, ji144, ji200, ji226, ji240, ji255, ji300, ji366, ji400, ji500, ji1000, jI_z, ↓jI_m1, jI_add, jI_sub, jI_mul, jI_lt, n1, n2, if_false, ↓hg0_0, ↓hg0_1, ↓hg0_2, ↓hg0_3, ↓hg0_4, ↓hg0_5, hw0_5, ↓hg0_6, ↓hg0_7, ↓hv0, ↓hx0, ha132, hu132, ↓hl132]
        rw [r1, hb]
        unfold m_X4_line m_X2_sentCount
        simp (disch := omega) only [↓mo_ns_r, ↓hn0, ↓mo_cs_s, ↓mo_xs_r, ↓mo_xs_l, ↓mo_nl_s, mo_z_0, mo_z_1, ji1, ji2, ji3, ji4, ji5, ji6, ji7, ji8, ji9, ji10, ji11, ji12, ji13, ji14, ji15, ji16, ji19, ji20, ji24, ji31, ji32, ji39, ji45, ji48, ji57, ji58, ji59, ji60, ji97, ji100, ji119, ji120, ji122, ji144, ji200, ji226, ji240, ji255, ji300, ji366, ji400, ji500, ji1000, jI_z, ↓jI_m1, jI_add, jI_sub, jI_mul, b2i_0, if_true, ↓hg0_0, ↓hg0_1, ↓hg0_2, ↓hg0_3, ↓hg0_4, ↓hg0_5, hw0_5, ↓hg0_6, ↓hg0_7, ↓hv0, ↓hx0, ha132, hu132, ↓hl132, ↓hg15_0, ↓hg15_1, ↓hg15_2, ↓hg15_3, hw15_3, ↓hg15_4, hw15_4, ↓hg15_5, hw15_5, ↓hg15_6, hw15_6, ↓hg15_7, hw15_7, ↓hg15_8, hw15_8, ↓hg15_9, hw15_9, ↓hg15_10, hw15_10, ↓hg15_11, hw15_11, ↓hg15_12, hw15_12, ↓hg15_13, hw15_13, ↓hg15_14, hw15_14, ↓hv15, ↓hx15, ha29, hu29, ↓hl29, ↓hg16_0, ↓hg16_1, ↓hg16_2, ↓hg16_3, ↓hg16_4, ↓hg16_5, hw16_5, ↓hg16_6, ↓hg16_7, ↓hg16_8, ↓hg16_9, ↓hg16_10, hw16_10, ↓hv16, ↓hx16, ha17, hu17, ↓hl17, ha18, hu18, ↓hl18, ha19, hu19, ↓hl19, ha20, hu20, ↓hl20, ha21, hu21, ↓hl21, ha22, hu22, ↓hl22, ha23, hu23, ↓hl23, ha24, hu24, ↓hl24, ha25, hu25, ↓hl25, k5]
        rw [k1]
        revert k3
        cases atkV q.1.1 p with
        | none => intro _; simp (disch := omega) only [↓mo_ns_r, ↓hn0, ↓mo_cs_s, ↓mo_xs_r, ↓mo_xs_l, ↓mo_nl_s, mo_z_0, mo_z_1, Option.isSome_none, b2i_0, if_true]; rfl
        | some x =>
          intro r3
          obtain ⟨k1, k2⟩ := r3 x rfl
          simp (disch := omega) only [↓mo_ns_r, ↓hn0, ↓mo_cs_s, ↓mo_xs_r, ↓mo_xs_l, ↓mo_nl_s, mo_z_0, mo_z_1, Option.isSome_some, b2i_0, Bool.true_eq_false, if_false, ↓hg0_0, ↓hg0_1, ↓hg0_2, ↓hg0_3, ↓hg0_4, ↓hg0_5, hw0_5, ↓hg0_6, ↓hg0_7, ↓hv0, ↓hx0, ha132, hu132, ↓hl132, ↓Bv (b := 8) rfl]
          rw [show jI 0 = jI ((0 : Nat) : Int) from rfl, X0_part (b := 8) (i := 0) (x := x) rfl k1 (ho.1.1.one k2) rfl g2.1 g2.2]
          rfl
    · rw [if_neg g2]
      refine OC.no h (by decide) ?_
      unfold m_X6_attack
      rw [X6_cp1 (by omega)]
      simp (disch := omega) only [↓mo_ns_r, ↓hn0, ↓mo_cs_s, ↓mo_xs_r, ↓mo_xs_l, ↓mo_nl_s, mo_z_0, mo_z_1, ji1, ji2, ji3, ji4, ji5, ji6, ji7, ji8, ji9, ji10, ji11, ji12, ji13, ji14, ji15, ji16, ji19, ji20, ji24, ji31, ji32, ji39, ji45, ji48, ji57, ji58, ji59, ji60, ji97, ji100, ji119, ji120, ji122, ji144, ji200, ji226, ji240, ji255, ji300, ji366, ji400, ji500, ji1000, jI_z, ↓jI_m1, jI_add, jI_sub, jI_mul, jI_lt]
      by_cases g3 : w < 0
      · rw [if_pos g3]; rfl
      · rw [if_neg g3, if_pos (by omega)]; rfl
  · rw [if_neg g]
    refine OC.no h (by decide) ?_
    unfold m_X6_attack
    rw [X6_cp0 hp' g]
    simp only [↓mo_ns_r, ↓hn0, ↓mo_cs_s, ↓mo_xs_r, ↓mo_xs_l, ↓mo_nl_s, mo_z_0, mo_z_1]
    rfl
/-- promise 17 -/
def rWeak (q : hQ) (p : Int) : hR := if 0 ≤ p ∧ p < 4 then (0, weakV q.1.1 p.toNat, q) else (1, 0, q)
theorem C_weak {z : Nat} {M : hM} {q : hQ} {p : Int} (h : CI M q) (ho : okQ q) (hp' : okW p) : OC S z M (m_X6_weakPoints (hp S z M) z (jI p)) eA (rWeak q p) := by
  have hc := ho.1.1
  unfold rWeak
  by_cases g : 0 ≤ p ∧ p < 4
  · rw [if_pos g]
    obtain ⟨p, rfl⟩ : ∃ i : Nat, p = i := ⟨p.toNat, by omega⟩
    obtain ⟨M1, r1, r2, r3, r4⟩ := X6_bw (S := S) (z := z) (p := p) h.1.1 hc (by omega)
    simp only [Int.toNat_natCast]
    cases hb : brk (q.1.1.1, []) p with
    | true =>
      refine oc_q r4 h ho ?_
      unfold m_X6_weakPoints
      rw [X6_cp1 (by omega)]
      simp (disch := omega) only [↓mo_ns_r, ↓hn0, ↓mo_cs_s, ↓mo_xs_r, ↓mo_xs_l, ↓mo_nl_s, mo_z_0, mo_z_1, ji1, ji2, ji3, ji4, ji5, ji6, ji7, ji8, ji9, ji10, ji11, ji12, ji13, ji14, ji15, ji16, ji19, ji20, ji24, ji31, ji32, ji39, ji45, ji48, ji57, ji58, ji59, ji60, ji97, ji100, ji119, ji120, ji122, ji144, ji200, ji226, ji240, ji255, ji300, ji366, ji400, ji500, ji1000, jI_z, ↓jI_m1, jI_add, jI_sub, jI_mul, ↓hg0_0, ↓hg0_1, ↓hg0_2, ↓hg0_3, ↓hg0_4, ↓hg0_5, hw0_5, ↓hg0_6, ↓hg0_7, ↓hv0, ↓hx0, ha132, hu132, ↓hl132]
      rw [r1, hb]
      simp (disch := omega) only [↓mo_ns_r, ↓hn0, ↓mo_cs_s, ↓mo_xs_r, ↓mo_xs_l, ↓mo_nl_s, mo_z_0, mo_z_1, b2i_0, Bool.true_eq_false, if_false]
      unfold weakV; rw [hb, if_pos rfl]
    | false =>
      obtain ⟨M2, s1, s2⟩ := X6_wp_l (S := S) (z := z) (p := p) hc (by omega) (zN_le hc.nil) (zR (q.1.1.1, [])).2.1.length 0 hN_f M1 (by omega) (by have := zN_le hc.nil; unfold hN_f; omega) ⟨_, r2, hc.nil⟩
      refine oc_q (r4.trans s2) h ho ?_
      unfold m_X6_weakPoints
      rw [X6_cp1 (by omega)]
      simp (disch := omega) only [↓mo_ns_r, ↓hn0, ↓mo_cs_s, ↓mo_xs_r, ↓mo_xs_l, ↓mo_nl_s, mo_z_0, mo_z_1, ji1, ji2, ji3, ji4, ji5, ji6, ji7, ji8, ji9, ji10, ji11, ji12, ji13, ji14, ji15, ji16, ji19, ji20, ji24, ji31, ji32, ji39, ji45, ji48, ji57, ji58, ji59, ji60, ji97, ji100, ji119, ji120, ji122, ji144, ji200, ji226, ji240, ji255, ji300, ji366, ji400, ji500, ji1000, jI_z, ↓jI_m1, jI_add, jI_sub, jI_mul, ↓hg0_0, ↓hg0_1, ↓hg0_2, ↓hg0_3, ↓hg0_4, ↓hg0_5, hw0_5, ↓hg0_6, ↓hg0_7, ↓hv0, ↓hx0, ha132, hu132, ↓hl132]
      rw [r1, hb]
      unfold m_X4_line m_X2_sentCount
      simp (disch := omega) only [↓mo_ns_r, ↓hn0, ↓mo_cs_s, ↓mo_xs_r, ↓mo_xs_l, ↓mo_nl_s, mo_z_0, mo_z_1, b2i_0, if_true, ↓hg0_0, ↓hg0_1, ↓hg0_2, ↓hg0_3, ↓hg0_4, ↓hg0_5, hw0_5, ↓hg0_6, ↓hg0_7, ↓hv0, ↓hx0, ha132, hu132, ↓hl132, ↓hg15_0, ↓hg15_1, ↓hg15_2, ↓hg15_3, hw15_3, ↓hg15_4, hw15_4, ↓hg15_5, hw15_5, ↓hg15_6, hw15_6, ↓hg15_7, hw15_7, ↓hg15_8, hw15_8, ↓hg15_9, hw15_9, ↓hg15_10, hw15_10, ↓hg15_11, hw15_11, ↓hg15_12, hw15_12, ↓hg15_13, hw15_13, ↓hg15_14, hw15_14, ↓hv15, ↓hx15, ha29, hu29, ↓hl29, ↓hg16_0, ↓hg16_1, ↓hg16_2, ↓hg16_3, ↓hg16_4, ↓hg16_5, hw16_5, ↓hg16_6, ↓hg16_7, ↓hg16_8, ↓hg16_9, ↓hg16_10, hw16_10, ↓hv16, ↓hx16, ha17, hu17, ↓hl17, ha18, hu18, ↓hl18, ha19, hu19, ↓hl19, ha20, hu20, ↓hl20, ha21, hu21, ↓hl21, ha22, hu22, ↓hl22, ha23, hu23, ↓hl23, ha24, hu24, ↓hl24, ha25, hu25, ↓hl25, r3.1]
      unfold weakV; rw [hb, if_neg (by decide), ← wk_far hb hc]
      exact s1
  · rw [if_neg g]
    refine OC.no h (by decide) ?_
    unfold m_X6_weakPoints
    rw [X6_cp0 hp' g]
    simp only [↓mo_ns_r, ↓hn0, ↓mo_cs_s, ↓mo_xs_r, ↓mo_xs_l, ↓mo_nl_s, mo_z_0, mo_z_1]
    rfl
/-- promise 18 -/
def rTimer (q : hQ) (p : Int) : hR := if 0 ≤ p ∧ p < 4 then (0, timerV q.1.1 p.toNat, q) else (1, 0, q)
theorem C_timer {z : Nat} {M : hM} {q : hQ} {p : Int} (h : CI M q) (ho : okQ q) (hp' : okW p) : OC S z M (m_X6_timerFor (hp S z M) z (jI p)) eA (rTimer q p) := by
  have hc := ho.1.1
  unfold rTimer
  by_cases g : 0 ≤ p ∧ p < 4
  · rw [if_pos g]
    obtain ⟨p, rfl⟩ : ∃ i : Nat, p = i := ⟨p.toNat, by omega⟩
    obtain ⟨M1, r1, r2, r3, r4, r5⟩ := X0_ta (S := S) (z := z) (a := 1) (b := 8) rfl rfl (by omega) h.1.1 h.1.2 hc
    obtain ⟨M2, s1, s2⟩ := X6_ti_l (S := S) (z := z) (p := p) hc (by omega) 20 1 hN_f M1 (q.1.1.1 4) (by omega) (by omega) (by unfold hN_f; omega) (by rw [cT1]; exact r2)
    simp only [Int.toNat_natCast]
    refine oc_q ((FD.of r4 r5 (by omega) (by omega)).trans s2) h ho ?_
    unfold m_X6_timerFor
    rw [X6_cp1 (by omega)]
    simp (disch := omega) only [↓mo_ns_r, ↓hn0, ↓mo_cs_s, ↓mo_xs_r, ↓mo_xs_l, ↓mo_nl_s, mo_z_0, mo_z_1, ji1, ji2, ji3, ji4, ji5, ji6, ji7, ji8, ji9, ji10, ji11, ji12, ji13, ji14, ji15, ji16, ji19, ji20, ji24, ji31, ji32, ji39, ji45, ji48, ji57, ji58, ji59, ji60, ji97, ji100, ji119, ji120, ji122, ji144, ji200, ji226, ji240, ji255, ji300, ji366, ji400, ji500, ji1000, jI_z, ↓jI_m1, jI_add, jI_sub, jI_mul, ↓hg0_0, ↓hg0_1, ↓hg0_2, ↓hg0_3, ↓hg0_4, ↓hg0_5, hw0_5, ↓hg0_6, ↓hg0_7, ↓hv0, ↓hx0, ha132, hu132, ↓hl132, ↓Bv (b := 8) rfl]
    rw [r1]
    simp (disch := omega) only [↓mo_ns_r, ↓hn0, ↓mo_cs_s, ↓mo_xs_r, ↓mo_xs_l, ↓mo_nl_s, mo_z_0, mo_z_1, mo_t4a]
    exact s1
  · rw [if_neg g]
    refine OC.no h (by decide) ?_
    unfold m_X6_timerFor
    rw [X6_cp0 hp' g]
    simp only [↓mo_ns_r, ↓hn0, ↓mo_cs_s, ↓mo_xs_r, ↓mo_xs_l, ↓mo_nl_s, mo_z_0, mo_z_1]
    rfl
theorem Sv6 {α ρ : Type} {z : Nat} {M : hM} {m : Option (ρ × ac_H)} {F : ρ → ac_H → Option α} : mo_cv (hp S z M) (z + (1 + 5)) 5 m F = mo_cs m F := hp_cv (a := 6) rfl
/-- promise 19 -/
def isV (W : Nat → Nat) (a b : Int) : Int := if stB a b ∧ (W a.toNat).testBit b.toNat = true then 1 else 0
def rIsRec (q : hQ) (a b : Int) : hR := (0, isV q.1.2 a b, q)
theorem isV_01 {W : Nat → Nat} {a b : Int} : isV W a b = 0 ∨ isV W a b = 1 := by unfold isV; split <;> simp
theorem mo_zv {α : Type} {X : Option α} {W : Nat → Nat} {a b : Int} : mo_z (jI (isV W a b)) X = X := by
  rcases isV_01 (W := W) (a := a) (b := b) with h | h <;> rw [h]
  · exact mo_z_0
  · exact mo_z_1
theorem C_isRec {z : Nat} {M : hM} {q : hQ} {a b : Int} (h : CI M q) (ho : okQ q) (ha : okW a) (hb : okW b) : OD S z M (m_X6_isRecorded (hp S z M) z (jI a) (jI b)) (rIsRec q a b) := by
  have e := X5_holds (S := S) (z := z) (s := 6) rfl h.1.2 ha hb
  refine od_q FD.rfl' h ho ?_
  unfold m_X6_isRecorded
  simp (disch := omega) only [↓hg0_0, ↓hg0_1, ↓hg0_2, ↓hg0_3, ↓hg0_4, ↓hg0_5, hw0_5, ↓hg0_6, ↓hg0_7, ↓hv0, ↓hx0, ha132, hu132, ↓hl132, ↓Bv (b := 1) rfl]
  rw [X0_rec (b := 1) rfl]
  simp (disch := omega) only [↓mo_ns_r, ↓hn0, ↓mo_cs_s, ↓mo_xs_r, ↓mo_xs_l, ↓mo_nl_s, mo_z_0, mo_z_1, ↓Sv6]
  rw [e]
  show mo_z (jI (isV q.1.2 a b)) (some (jI (isV q.1.2 a b), hp S z M)) = _
  rw [mo_zv]
def sizeV (q : hQ) (w : Int) : Int := if w < 8 then q.1.1.1 w.toNat else if w = 8 then q.1.1.2.length else if w = 9 then q.2.1.length else (sum9 (fun k => pop (q.1.2 k)) 9 : Nat)
def rSize (q : hQ) (w : Int) : hR := if 0 ≤ w ∧ w ≤ 10 then (0, sizeV q w, q) else (1, 0, q)
theorem C_size {z : Nat} {M : hM} {q : hQ} {w : Int} (h : CI M q) (ho : okQ q) (hw : okW w) : OC S z M (m_X6_size (hp S z M) z (jI w)) eA (rSize q w) := by
  obtain ⟨w0, w1⟩ := hw
  have e5 := h.2.1.1
  unfold rSize
  by_cases g : 0 ≤ w ∧ w ≤ 10
  · rw [if_pos g]
    refine oc_q FD.rfl' h ho ?_
    have n0 : ¬ w < 0 := by omega
    unfold m_X6_size m_X6_size_j19 sizeV
    by_cases g8 : w < 8
    · simp (disch := omega) only [ji1, ji2, ji3, ji4, ji5, ji6, ji7, ji8, ji9, ji10, ji11, ji12, ji13, ji14, ji15, ji16, ji19, ji20, ji24, ji31, ji32, ji39, ji45, ji48, ji57, ji58, ji59, ji60, ji97, ji100, ji119, ji120, ji122, ji144, ji200, ji226, ji240, ji255, ji300, ji366, ji400, ji500, ji1000, jI_z, ↓jI_m1, jI_add, jI_sub, jI_mul, jI_lt, n0, if_false, g8, if_true, ↓hg0_0, ↓hg0_1, ↓hg0_2, ↓hg0_3, ↓hg0_4, ↓hg0_5, hw0_5, ↓hg0_6, ↓hg0_7, ↓hv0, ↓hx0, ha132, hu132, ↓hl132, ↓Bv (b := 1) rfl]
      rw [X0_setting (b := 1) rfl g.1 g8, h.1.1.1 _ (by omega)]
      simp only [↓mo_ns_r, ↓hn0, ↓mo_cs_s, ↓mo_xs_r, ↓mo_xs_l, ↓mo_nl_s, mo_z_0, mo_z_1]
    · simp (disch := omega) only [ji1, ji2, ji3, ji4, ji5, ji6, ji7, ji8, ji9, ji10, ji11, ji12, ji13, ji14, ji15, ji16, ji19, ji20, ji24, ji31, ji32, ji39, ji45, ji48, ji57, ji58, ji59, ji60, ji97, ji100, ji119, ji120, ji122, ji144, ji200, ji226, ji240, ji255, ji300, ji366, ji400, ji500, ji1000, jI_z, ↓jI_m1, jI_add, jI_sub, jI_mul, jI_lt, jI_eq, n0, if_false, g8, ↓hg0_0, ↓hg0_1, ↓hg0_2, ↓hg0_3, ↓hg0_4, ↓hg0_5, hw0_5, ↓hg0_6, ↓hg0_7, ↓hv0, ↓hx0, ha132, hu132, ↓hl132, ↓Bv (b := 1) rfl]
      rw [X0_count (b := 1) rfl, X0_rec (b := 1) rfl]
      simp (disch := omega) only [↓mo_ns_r, ↓hn0, ↓mo_cs_s, ↓mo_xs_r, ↓mo_xs_l, ↓mo_nl_s, mo_z_0, mo_z_1, ↓Sv6]
      rw [X5_hm (s := 6) rfl h.1.2]
      simp only [↓mo_ns_r, ↓hn0, ↓mo_cs_s, ↓mo_xs_r, ↓mo_xs_l, ↓mo_nl_s, mo_z_0, mo_z_1, e5]
      by_cases e8 : w = 8
      · rw [if_pos e8, if_pos e8, h.1.1.2.1]
      · rw [if_neg e8, if_neg e8]
        by_cases e9 : w = 9
        · rw [if_pos e9, if_pos e9]
        · rw [if_neg e9, if_neg e9, if_pos (by omega)]
  · rw [if_neg g]
    refine OC.no h (by decide) ?_
    unfold m_X6_size m_X6_size_j19
    simp (disch := omega) only [ji1, ji2, ji3, ji4, ji5, ji6, ji7, ji8, ji9, ji10, ji11, ji12, ji13, ji14, ji15, ji16, ji19, ji20, ji24, ji31, ji32, ji39, ji45, ji48, ji57, ji58, ji59, ji60, ji97, ji100, ji119, ji120, ji122, ji144, ji200, ji226, ji240, ji255, ji300, ji366, ji400, ji500, ji1000, jI_z, ↓jI_m1, jI_add, jI_sub, jI_mul, jI_lt, jI_eq]
    by_cases n0 : w < 0
    · rw [if_pos n0, if_neg (by omega), if_neg (by omega), if_neg (by omega)]; rfl
    · rw [if_neg n0, if_neg (by omega), if_neg (by omega), if_neg (by omega), if_neg (by omega)]; rfl

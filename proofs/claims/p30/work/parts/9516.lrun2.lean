variable {S : hSh}
/-! THE LAW'S run: what the class answers of it. -/
def LW (S : hSh) (M : hM) (p r e g n : Nat) (q : hQ) : Prop := LX S M p r e g n q ∧ WR M r p q.1.1 (zR q.1.1).1 (zR q.1.1).2
theorem LW.km {S : hSh} {M M' : hM} {p r e g n : Nat} {q : hQ} (h : LW S M p r e g n q) (hk : KM M M') (hCI : CI M' q) : LW S M' p r e g n q := by
  have h5 := h.1.2.2.2.2.1
  exact ⟨h.1.km hk hCI, h.2.cg (fun b h1 _ => hk b (by omega)) (h.1.2.2.2.2.2.1.km hk (by omega))⟩
theorem LW.draw {S : hSh} {z : Nat} {M : hM} {p r e g n : Nat} {q : hQ} {m : Int} (h : LW S M p r e g n q) (h0 : 0 < m) (h1 : m < 2147483648) : ∃ v u : Int, m_L_draw (hp S z M) (z + g) (jI m) = some (jI v, hp S z (sA M g 0 u)) ∧ 0 ≤ v ∧ v < m ∧ LW S (sA M g 0 u) p r e g n q := by
  obtain ⟨v, u, d1, d2, d3, d4⟩ := h.1.draw (z := z) h0 h1
  have h5 := h.1.2.2.2.2.1
  have f : Fr g (g + 1) M (sA M g 0 u) := Fr.sA (by omega)
  exact ⟨v, u, d1, d2, d3, d4, h.2.cg (fun b x1 _ => f b (by omega)) d4.2.2.2.2.2.1⟩
theorem LW.okT {S : hSh} {M : hM} {p r e g n : Nat} {q : hQ} (h : LW S M p r e g n q) : wT M r (zR q.1.1).2.1 ∧ wO M r (zR q.1.1).2.2.1 (zR q.1.1).2.2.2.2.2.2.2.2 ∧ wW M r (zR q.1.1).2.2.2.1 ∧ gI M r 11 = (zR q.1.1).1 := by
  obtain ⟨a, b, c, d, e', f, _⟩ := WR_get h.2
  exact ⟨d, e', f, c⟩
theorem zC_R {c : hCf} (hc : okC c) : -1 ≤ (zR c).2.2.2.2.2.2.2.2 ∧ (zR c).2.2.2.2.2.2.2.2 ≤ 200 := by
  obtain ⟨j1, j2, j3⟩ := zJ_R hc
  generalize (zR c).2 = s at j1 ⊢
  obtain ⟨T, O, W, B, N, J, K, C⟩ := s
  have := j1.1.2.2.2.2.2.2.2.1
  show -1 ≤ C ∧ C ≤ 200
  omega
theorem snt_bd {c : hCf} (hc : okC c) (k w : Int) : okW (sntV (zR c).2.1 k w) := by
  obtain ⟨j1, j2, j3⟩ := zJ_R hc
  have ok : ∀ x ∈ (zR c).2.1, okT c (zR c).1 x := by
    generalize (zR c).2 = s at j1 ⊢
    obtain ⟨T, O, W, B, N, J, K, C⟩ := s
    exact j1.1.2.1
  unfold sntV
  by_cases g : 0 ≤ k ∧ k < (zR c).2.1.length
  · rw [if_pos g]
    have hx : (zR c).2.1[k.toNat]? = some (zR c).2.1[k.toNat] := List.getElem?_eq_getElem (by omega)
    rw [List.getD_eq_getElem?_getD, hx]
    obtain ⟨o1, o2, o3, o4, o5, o6⟩ := ok _ (List.mem_of_getElem? hx)
    simp only [Option.getD_some]
    unfold prtT okW
    split
    · omega
    · split
      · omega
      · split
        · omega
        · split <;> omega
  · rw [if_neg g]; unfold okW; omega
theorem L_r487 {z p r e g n : Nat} {q : hQ} {i k : Int} {K453 : ac_H → Nat → Nat → Int32 → Option ((Int32 × Nat) × ac_H)} (M : hM) (h : LW S M p r e g n q) (hk : 0 ≤ k ∧ k < (zR q.1.1).2.1.length + 2) :
    ∃ M', m_L_run_j487 K453 z (z + g) (hp S z M) (z + n) (z + r) (jI i) (jI k) (jI (if k < (zR q.1.1).2.1.length then 1 else 0)) = K453 (hp S z M') (z + n) (z + r) (jI (i + 1)) ∧ LW S M' p r e g n q := by
  have ho := h.1.2.2.2.2.2.2.2.2.1
  have hc := ho.1.1
  have hr := h.1.2.1
  have hN := zN_le hc
  have hO := zO_le hc
  have rd : ∀ M1, LW S M1 p r e g n q → k < (zR q.1.1).2.1.length → gA M1 (r + 1) k.toNat = sntV (zR q.1.1).2.1 k 0 ∧ gA M1 (r + 2) k.toNat = sntV (zR q.1.1).2.1 k 1 ∧ gA M1 (r + 3) k.toNat = sntV (zR q.1.1).2.1 k 2 ∧ gA M1 (r + 4) k.toNat = sntV (zR q.1.1).2.1 k 3 ∧ gA M1 (r + 5) k.toNat = sntV (zR q.1.1).2.1 k 4 := by
    intro M1 h1 hlt
    have hx : (zR q.1.1).2.1[k.toNat]? = some (zR q.1.1).2.1[k.toNat] := List.getElem?_eq_getElem (by omega)
    obtain ⟨e1, e2, e3, e4, e5⟩ := h1.okT.1.2.1 _ _ hx
    unfold sntV
    simp only [if_pos (show 0 ≤ k ∧ k < ((zR q.1.1).2.1.length : Int) from ⟨hk.1, hlt⟩)]
    rw [List.getD_eq_getElem?_getD, hx]
    simp only [Option.getD_some]
    exact ⟨e1, e2, e3, e4, e5⟩
  have cS : ∀ (w : Int), 0 ≤ w ∧ w ≤ 4 → ∀ M1, LW S M1 p r e g n q → ∃ M', (∀ {α : Type} (F : Int32 → ac_H → Option α), mo_nv (hp S z M1) z 6 (m_X6_sent (hp S z M1) z (jI k) (jI w)) F = F (jI (sntV (zR q.1.1).2.1 k w)) (hp S z M')) ∧ LW S M' p r e g n q := by
    intro w hw M1 h1
    have c1 := C_sent (S := S) (z := z) (k := k) (w := w) h1.1.2.2.2.2.2.2.2.1 ho ⟨by omega, by omega⟩ ⟨by omega, by omega⟩
    rw [show rSent q k w = (0, sntV (zR q.1.1).2.1 k w, q) from by unfold rSent; rw [if_pos (by omega)]] at c1
    obtain ⟨M', n1, i1, k1⟩ := nvC c1 rfl
    exact ⟨M', n1, h1.km k1 i1⟩
  obtain ⟨M0, n0, h0⟩ := cS 0 (by omega) M h
  obtain ⟨M1, n1, h1⟩ := cS 1 (by omega) M0 h0
  obtain ⟨M2, n2, h2⟩ := cS 2 (by omega) M1 h1
  obtain ⟨M3, n3, h3⟩ := cS 3 (by omega) M2 h2
  obtain ⟨M4, n4, h4⟩ := cS 4 (by omega) M3 h3
  obtain ⟨d, u1, d1, d2, d3, h5⟩ := h4.draw (z := z) (m := ((zR q.1.1).2.2.1.length : Int) + 2) (by omega) (by omega)
  obtain ⟨s, u2, s1, s2, s3, h6⟩ := h5.draw (z := z) (m := 9) (by omega) (by omega)
  obtain ⟨t, u3, t1, t2, t3, h7⟩ := h6.draw (z := z) (m := 16) (by omega) (by omega)
  generalize hMa : sA (sA (sA M4 g 0 u1) g 0 u2) g 0 u3 = Ma at t1 h7
  have c5 := C_delivered (S := S) (z := z) (k := d) h7.1.2.2.2.2.2.2.2.1 ho ⟨by omega, by omega⟩
  obtain ⟨M5, n5, i5', k5⟩ := cvD c5
  have i5 : CI M5 q := i5'
  have h8 := h7.km k5 i5
  have c6 := C_reaches (S := S) (z := z) (a := s) (b := t) i5 ho ⟨by omega, by omega⟩ ⟨by omega, by omega⟩
  obtain ⟨M6, n6, i6, k6⟩ := cvD c6
  have h9 := h8.km k6 i6
  refine ⟨M6, ?_, h9⟩
  have o4 := h4.okT.2.1.1
  have o8 := h8.okT.2.1
  -- the last step
  have j683 : m_L_run_j683 K453 z (z + g) (hp S z M5) (z + n) (z + r) (jI i) (jI s) (jI t) (jI (delV (zR q.1.1).2.2.1 d)) (jI (delV (zR q.1.1).2.2.1 d)) = K453 (hp S z M6) (z + n) (z + r) (jI (i + 1)) := by
    have w9 := h9.okT.2.2.1 s.toNat t.toNat (by omega) (by omega)
    unfold m_L_run_j683
    rw [if_pos rfl, n6]
    simp (disch := omega) only [ji1, ji2, ji3, ji4, ji5, ji6, ji7, ji8, ji9, ji10, ji11, ji12, ji13, ji14, ji15, ji16, ji19, ji20, ji24, ji31, ji32, ji39, ji45, ji48, ji57, ji58, ji59, ji60, ji97, ji100, ji119, ji120, ji122, ji144, ji200, ji226, ji240, ji255, ji300, ji366, ji400, ji500, ji1000, jI_z, ↓jI_m1, jI_add, jI_sub, jI_mul, ↓jm1000, ↓jm100, ↓jm10, ↓jm9, ji50, ji65280, ji1664525, ji252645135, ji858993459, ji1013904223, ji1431655765, ji2147483639, ji2147483647, ↓Rg0 hr, Rw0 hr, ↓Rg1 hr, ↓Rg2 hr, ↓Rg3 hr, ↓Rg4 hr, ↓Rg5 hr, ↓Rg6 hr, ↓Rg7 hr, ↓Rg8 hr, ↓Rg9 hr, Rw9 hr, ↓Rg10 hr, Rw10 hr, ↓Rg11 hr, Rw11 hr, ↓Rg12 hr, Rw12 hr, ↓Rg13 hr, Rw13 hr, ↓Rg14 hr, Rw14 hr, ↓Rg15 hr, Rw15 hr, ↓Rg16 hr, Rw16 hr, ↓Rg17 hr, Rw17 hr, ↓Rv hr, Ra1 hr, Ru1 hr, Ra2 hr, Ru2 hr, Ra3 hr, Ru3 hr, Ra4 hr, Ru4 hr, Ra5 hr, Ru5 hr, Ra6 hr, Ru6 hr, Ra7 hr, Ru7 hr, Ra8 hr, Ru8 hr]
    rw [show (16 * s + t).toNat = 16 * s.toNat + t.toNat from by omega, w9]
    have eV : (rReaches q s t).2.1 = if ((zR q.1.1).2.2.2.1 s.toNat).testBit t.toNat = true then 1 else 0 := by
      show isV (zR q.1.1).2.2.2.1 s t = _
      unfold isV stB
      by_cases gb : ((zR q.1.1).2.2.2.1 s.toNat).testBit t.toNat = true
      · rw [if_pos ⟨by omega, gb⟩, if_pos gb]
      · rw [if_neg (fun x => gb x.2), if_neg gb]
    rw [eV, if_pos rfl]
  have j621 : ∀ v : Int, m_L_run_j621 K453 z (z + g) (hp S z M4) (z + n) (z + r) (jI i) (jI v) (jI v) = K453 (hp S z M6) (z + n) (z + r) (jI (i + 1)) := by
    intro v
    unfold m_L_run_j621
    rw [if_pos rfl]
    simp (disch := omega) only [ji1, ji2, ji3, ji4, ji5, ji6, ji7, ji8, ji9, ji10, ji11, ji12, ji13, ji14, ji15, ji16, ji19, ji20, ji24, ji31, ji32, ji39, ji45, ji48, ji57, ji58, ji59, ji60, ji97, ji100, ji119, ji120, ji122, ji144, ji200, ji226, ji240, ji255, ji300, ji366, ji400, ji500, ji1000, jI_z, ↓jI_m1, jI_add, jI_sub, jI_mul, ↓jm1000, ↓jm100, ↓jm10, ↓jm9, ji50, ji65280, ji1664525, ji252645135, ji858993459, ji1013904223, ji1431655765, ji2147483639, ji2147483647, ↓Rg0 hr, Rw0 hr, ↓Rg1 hr, ↓Rg2 hr, ↓Rg3 hr, ↓Rg4 hr, ↓Rg5 hr, ↓Rg6 hr, ↓Rg7 hr, ↓Rg8 hr, ↓Rg9 hr, Rw9 hr, ↓Rg10 hr, Rw10 hr, ↓Rg11 hr, Rw11 hr, ↓Rg12 hr, Rw12 hr, ↓Rg13 hr, Rw13 hr, ↓Rg14 hr, Rw14 hr, ↓Rg15 hr, Rw15 hr, ↓Rg16 hr, Rw16 hr, ↓Rg17 hr, Rw17 hr, ↓Rv hr, Ra1 hr, Ru1 hr, Ra2 hr, Ru2 hr, Ra3 hr, Ru3 hr, Ra4 hr, Ru4 hr, Ra5 hr, Ru5 hr, Ra6 hr, Ru6 hr, Ra7 hr, Ru7 hr, Ra8 hr, Ru8 hr, o4]
    rw [d1]
    simp only [↓mo_cs_s]
    rw [s1]
    simp only [↓mo_cs_s]
    rw [t1]
    simp only [↓mo_cs_s]
    rw [n5]
    simp (disch := omega) only [↓Rg0 hr, Rw0 hr, ↓Rg1 hr, ↓Rg2 hr, ↓Rg3 hr, ↓Rg4 hr, ↓Rg5 hr, ↓Rg6 hr, ↓Rg7 hr, ↓Rg8 hr, ↓Rg9 hr, Rw9 hr, ↓Rg10 hr, Rw10 hr, ↓Rg11 hr, Rw11 hr, ↓Rg12 hr, Rw12 hr, ↓Rg13 hr, Rw13 hr, ↓Rg14 hr, Rw14 hr, ↓Rg15 hr, Rw15 hr, ↓Rg16 hr, Rw16 hr, ↓Rg17 hr, Rw17 hr, ↓Rv hr, Ra1 hr, Ru1 hr, Ra2 hr, Ru2 hr, Ra3 hr, Ru3 hr, Ra4 hr, Ru4 hr, Ra5 hr, Ru5 hr, Ra6 hr, Ru6 hr, Ra7 hr, Ru7 hr, Ra8 hr, Ru8 hr, o8.1, jI_lt]
    rw [show (rDelivered q d).2.1 = delV (zR q.1.1).2.2.1 d from rfl]
    by_cases gd : d < (zR q.1.1).2.2.1.length
    · rw [if_pos gd]
      have hx : (zR q.1.1).2.2.1[d.toNat]? = some (zR q.1.1).2.2.1[d.toNat] := List.getElem?_eq_getElem (by omega)
      have ev : delV (zR q.1.1).2.2.1 d = gA M5 (r + 6) d.toNat := by
        unfold delV
        rw [if_pos ⟨d2, gd⟩, List.getD_eq_getElem?_getD, hx, o8.2.1 _ _ hx]; rfl
      rw [← ev]; exact j683
    · rw [if_neg gd]
      have ev : delV (zR q.1.1).2.2.1 d = -1 := by unfold delV; rw [if_neg (by omega)]
      rw [ev] at j683 ⊢; exact j683
  by_cases gk : k < (zR q.1.1).2.1.length
  · rw [if_pos gk]
    have n10 : ¬ jI 1 = jI 0 := by decide
    have r0 := rd M0 h0 gk
    have r1 := rd M1 h1 gk
    have r2 := rd M2 h2 gk
    have r3 := rd M3 h3 gk
    have r4 := rd M4 h4 gk
    unfold m_L_run_j487
    simp only [ji1, ji2, ji3, ji4, ji5, ji6, ji7, ji8, ji9, ji10, ji11, ji12, ji13, ji14, ji15, ji16, ji19, ji20, ji24, ji31, ji32, ji39, ji45, ji48, ji57, ji58, ji59, ji60, ji97, ji100, ji119, ji120, ji122, ji144, ji200, ji226, ji240, ji255, ji300, ji366, ji400, ji500, ji1000, jI_z, ↓jI_m1, jI_add, jI_sub, jI_mul, ↓jm1000, ↓jm100, ↓jm10, ↓jm9, ji50, ji65280, ji1664525, ji252645135, ji858993459, ji1013904223, ji1431655765, ji2147483639, ji2147483647]
    rw [n0, if_neg n10]
    simp (disch := omega) only [↓Rg0 hr, Rw0 hr, ↓Rg1 hr, ↓Rg2 hr, ↓Rg3 hr, ↓Rg4 hr, ↓Rg5 hr, ↓Rg6 hr, ↓Rg7 hr, ↓Rg8 hr, ↓Rg9 hr, Rw9 hr, ↓Rg10 hr, Rw10 hr, ↓Rg11 hr, Rw11 hr, ↓Rg12 hr, Rw12 hr, ↓Rg13 hr, Rw13 hr, ↓Rg14 hr, Rw14 hr, ↓Rg15 hr, Rw15 hr, ↓Rg16 hr, Rw16 hr, ↓Rg17 hr, Rw17 hr, ↓Rv hr, Ra1 hr, Ru1 hr, Ra2 hr, Ru2 hr, Ra3 hr, Ru3 hr, Ra4 hr, Ru4 hr, Ra5 hr, Ru5 hr, Ra6 hr, Ru6 hr, Ra7 hr, Ru7 hr, Ra8 hr, Ru8 hr, r0.1]
    unfold m_L_run_j513
    simp only [ji1, ji2, ji3, ji4, ji5, ji6, ji7, ji8, ji9, ji10, ji11, ji12, ji13, ji14, ji15, ji16, ji19, ji20, ji24, ji31, ji32, ji39, ji45, ji48, ji57, ji58, ji59, ji60, ji97, ji100, ji119, ji120, ji122, ji144, ji200, ji226, ji240, ji255, ji300, ji366, ji400, ji500, ji1000, jI_z, ↓jI_m1, jI_add, jI_sub, jI_mul, ↓jm1000, ↓jm100, ↓jm10, ↓jm9, ji50, ji65280, ji1664525, ji252645135, ji858993459, ji1013904223, ji1431655765, ji2147483639, ji2147483647, if_true]
    rw [n1, if_neg n10]
    simp (disch := omega) only [↓Rg0 hr, Rw0 hr, ↓Rg1 hr, ↓Rg2 hr, ↓Rg3 hr, ↓Rg4 hr, ↓Rg5 hr, ↓Rg6 hr, ↓Rg7 hr, ↓Rg8 hr, ↓Rg9 hr, Rw9 hr, ↓Rg10 hr, Rw10 hr, ↓Rg11 hr, Rw11 hr, ↓Rg12 hr, Rw12 hr, ↓Rg13 hr, Rw13 hr, ↓Rg14 hr, Rw14 hr, ↓Rg15 hr, Rw15 hr, ↓Rg16 hr, Rw16 hr, ↓Rg17 hr, Rw17 hr, ↓Rv hr, Ra1 hr, Ru1 hr, Ra2 hr, Ru2 hr, Ra3 hr, Ru3 hr, Ra4 hr, Ru4 hr, Ra5 hr, Ru5 hr, Ra6 hr, Ru6 hr, Ra7 hr, Ru7 hr, Ra8 hr, Ru8 hr, r1.2.1]
    unfold m_L_run_j540
    simp only [ji1, ji2, ji3, ji4, ji5, ji6, ji7, ji8, ji9, ji10, ji11, ji12, ji13, ji14, ji15, ji16, ji19, ji20, ji24, ji31, ji32, ji39, ji45, ji48, ji57, ji58, ji59, ji60, ji97, ji100, ji119, ji120, ji122, ji144, ji200, ji226, ji240, ji255, ji300, ji366, ji400, ji500, ji1000, jI_z, ↓jI_m1, jI_add, jI_sub, jI_mul, ↓jm1000, ↓jm100, ↓jm10, ↓jm9, ji50, ji65280, ji1664525, ji252645135, ji858993459, ji1013904223, ji1431655765, ji2147483639, ji2147483647, if_true]
    rw [n2, if_neg n10]
    simp (disch := omega) only [↓Rg0 hr, Rw0 hr, ↓Rg1 hr, ↓Rg2 hr, ↓Rg3 hr, ↓Rg4 hr, ↓Rg5 hr, ↓Rg6 hr, ↓Rg7 hr, ↓Rg8 hr, ↓Rg9 hr, Rw9 hr, ↓Rg10 hr, Rw10 hr, ↓Rg11 hr, Rw11 hr, ↓Rg12 hr, Rw12 hr, ↓Rg13 hr, Rw13 hr, ↓Rg14 hr, Rw14 hr, ↓Rg15 hr, Rw15 hr, ↓Rg16 hr, Rw16 hr, ↓Rg17 hr, Rw17 hr, ↓Rv hr, Ra1 hr, Ru1 hr, Ra2 hr, Ru2 hr, Ra3 hr, Ru3 hr, Ra4 hr, Ru4 hr, Ra5 hr, Ru5 hr, Ra6 hr, Ru6 hr, Ra7 hr, Ru7 hr, Ra8 hr, Ru8 hr, r2.2.2.1]
    unfold m_L_run_j567
    simp only [ji1, ji2, ji3, ji4, ji5, ji6, ji7, ji8, ji9, ji10, ji11, ji12, ji13, ji14, ji15, ji16, ji19, ji20, ji24, ji31, ji32, ji39, ji45, ji48, ji57, ji58, ji59, ji60, ji97, ji100, ji119, ji120, ji122, ji144, ji200, ji226, ji240, ji255, ji300, ji366, ji400, ji500, ji1000, jI_z, ↓jI_m1, jI_add, jI_sub, jI_mul, ↓jm1000, ↓jm100, ↓jm10, ↓jm9, ji50, ji65280, ji1664525, ji252645135, ji858993459, ji1013904223, ji1431655765, ji2147483639, ji2147483647, if_true]
    rw [n3, if_neg n10]
    simp (disch := omega) only [↓Rg0 hr, Rw0 hr, ↓Rg1 hr, ↓Rg2 hr, ↓Rg3 hr, ↓Rg4 hr, ↓Rg5 hr, ↓Rg6 hr, ↓Rg7 hr, ↓Rg8 hr, ↓Rg9 hr, Rw9 hr, ↓Rg10 hr, Rw10 hr, ↓Rg11 hr, Rw11 hr, ↓Rg12 hr, Rw12 hr, ↓Rg13 hr, Rw13 hr, ↓Rg14 hr, Rw14 hr, ↓Rg15 hr, Rw15 hr, ↓Rg16 hr, Rw16 hr, ↓Rg17 hr, Rw17 hr, ↓Rv hr, Ra1 hr, Ru1 hr, Ra2 hr, Ru2 hr, Ra3 hr, Ru3 hr, Ra4 hr, Ru4 hr, Ra5 hr, Ru5 hr, Ra6 hr, Ru6 hr, Ra7 hr, Ru7 hr, Ra8 hr, Ru8 hr, r3.2.2.2.1]
    unfold m_L_run_j594
    simp only [ji1, ji2, ji3, ji4, ji5, ji6, ji7, ji8, ji9, ji10, ji11, ji12, ji13, ji14, ji15, ji16, ji19, ji20, ji24, ji31, ji32, ji39, ji45, ji48, ji57, ji58, ji59, ji60, ji97, ji100, ji119, ji120, ji122, ji144, ji200, ji226, ji240, ji255, ji300, ji366, ji400, ji500, ji1000, jI_z, ↓jI_m1, jI_add, jI_sub, jI_mul, ↓jm1000, ↓jm100, ↓jm10, ↓jm9, ji50, ji65280, ji1664525, ji252645135, ji858993459, ji1013904223, ji1431655765, ji2147483639, ji2147483647, if_true]
    rw [n4, if_neg n10]
    simp (disch := omega) only [↓Rg0 hr, Rw0 hr, ↓Rg1 hr, ↓Rg2 hr, ↓Rg3 hr, ↓Rg4 hr, ↓Rg5 hr, ↓Rg6 hr, ↓Rg7 hr, ↓Rg8 hr, ↓Rg9 hr, Rw9 hr, ↓Rg10 hr, Rw10 hr, ↓Rg11 hr, Rw11 hr, ↓Rg12 hr, Rw12 hr, ↓Rg13 hr, Rw13 hr, ↓Rg14 hr, Rw14 hr, ↓Rg15 hr, Rw15 hr, ↓Rg16 hr, Rw16 hr, ↓Rg17 hr, Rw17 hr, ↓Rv hr, Ra1 hr, Ru1 hr, Ra2 hr, Ru2 hr, Ra3 hr, Ru3 hr, Ra4 hr, Ru4 hr, Ra5 hr, Ru5 hr, Ra6 hr, Ru6 hr, Ra7 hr, Ru7 hr, Ra8 hr, Ru8 hr, r4.2.2.2.2]
    exact j621 _
  · rw [if_neg gk]
    have ev : ∀ w : Int, sntV (zR q.1.1).2.1 k w = -1 := fun w => by unfold sntV; rw [if_neg (fun x => gk x.2)]
    unfold m_L_run_j487
    simp only [ji1, ji2, ji3, ji4, ji5, ji6, ji7, ji8, ji9, ji10, ji11, ji12, ji13, ji14, ji15, ji16, ji19, ji20, ji24, ji31, ji32, ji39, ji45, ji48, ji57, ji58, ji59, ji60, ji97, ji100, ji119, ji120, ji122, ji144, ji200, ji226, ji240, ji255, ji300, ji366, ji400, ji500, ji1000, jI_z, ↓jI_m1, jI_add, jI_sub, jI_mul, ↓jm1000, ↓jm100, ↓jm10, ↓jm9, ji50, ji65280, ji1664525, ji252645135, ji858993459, ji1013904223, ji1431655765, ji2147483639, ji2147483647, if_true]
    rw [n0, ev]
    unfold m_L_run_j513
    simp only [ji1, ji2, ji3, ji4, ji5, ji6, ji7, ji8, ji9, ji10, ji11, ji12, ji13, ji14, ji15, ji16, ji19, ji20, ji24, ji31, ji32, ji39, ji45, ji48, ji57, ji58, ji59, ji60, ji97, ji100, ji119, ji120, ji122, ji144, ji200, ji226, ji240, ji255, ji300, ji366, ji400, ji500, ji1000, jI_z, ↓jI_m1, jI_add, jI_sub, jI_mul, ↓jm1000, ↓jm100, ↓jm10, ↓jm9, ji50, ji65280, ji1664525, ji252645135, ji858993459, ji1013904223, ji1431655765, ji2147483639, ji2147483647, if_true]
    rw [n1, ev]
    unfold m_L_run_j540
    simp only [ji1, ji2, ji3, ji4, ji5, ji6, ji7, ji8, ji9, ji10, ji11, ji12, ji13, ji14, ji15, ji16, ji19, ji20, ji24, ji31, ji32, ji39, ji45, ji48, ji57, ji58, ji59, ji60, ji97, ji100, ji119, ji120, ji122, ji144, ji200, ji226, ji240, ji255, ji300, ji366, ji400, ji500, ji1000, jI_z, ↓jI_m1, jI_add, jI_sub, jI_mul, ↓jm1000, ↓jm100, ↓jm10, ↓jm9, ji50, ji65280, ji1664525, ji252645135, ji858993459, ji1013904223, ji1431655765, ji2147483639, ji2147483647, if_true]
    rw [n2, ev]
    unfold m_L_run_j567
    simp only [ji1, ji2, ji3, ji4, ji5, ji6, ji7, ji8, ji9, ji10, ji11, ji12, ji13, ji14, ji15, ji16, ji19, ji20, ji24, ji31, ji32, ji39, ji45, ji48, ji57, ji58, ji59, ji60, ji97, ji100, ji119, ji120, ji122, ji144, ji200, ji226, ji240, ji255, ji300, ji366, ji400, ji500, ji1000, jI_z, ↓jI_m1, jI_add, jI_sub, jI_mul, ↓jm1000, ↓jm100, ↓jm10, ↓jm9, ji50, ji65280, ji1664525, ji252645135, ji858993459, ji1013904223, ji1431655765, ji2147483639, ji2147483647, if_true]
    rw [n3, ev]
    unfold m_L_run_j594
    simp only [ji1, ji2, ji3, ji4, ji5, ji6, ji7, ji8, ji9, ji10, ji11, ji12, ji13, ji14, ji15, ji16, ji19, ji20, ji24, ji31, ji32, ji39, ji45, ji48, ji57, ji58, ji59, ji60, ji97, ji100, ji119, ji120, ji122, ji144, ji200, ji226, ji240, ji255, ji300, ji366, ji400, ji500, ji1000, jI_z, ↓jI_m1, jI_add, jI_sub, jI_mul, ↓jm1000, ↓jm100, ↓jm10, ↓jm9, ji50, ji65280, ji1664525, ji252645135, ji858993459, ji1013904223, ji1431655765, ji2147483639, ji2147483647, if_true]
    rw [n4, ev]
    exact j621 (-1)
theorem L_r453 {z p r e g n : Nat} {q : hQ} : ∀ (d i f : Nat) (M : hM), i + d = 5 → d < f → LW S M p r e g n q →
    ∃ M', m_L_run_l453 z (z + g) f (hp S z M) (z + n) (z + r) (jI i) = some ((jI 1, z + n), hp S z M') ∧ LX S M' p r e g n q := by
  intro d
  induction d with
  | zero =>
    intro i f M hi hf h
    obtain ⟨f, rfl⟩ : ∃ g, f = g + 1 := ⟨f - 1, by omega⟩
    have gi : ¬ (i : Int) < 5 := by omega
    refine ⟨M, ?_, h.1⟩
    unfold m_L_run_l453
    simp (disch := omega) only [ji1, ji2, ji3, ji4, ji5, ji6, ji7, ji8, ji9, ji10, ji11, ji12, ji13, ji14, ji15, ji16, ji19, ji20, ji24, ji31, ji32, ji39, ji45, ji48, ji57, ji58, ji59, ji60, ji97, ji100, ji119, ji120, ji122, ji144, ji200, ji226, ji240, ji255, ji300, ji366, ji400, ji500, ji1000, jI_z, ↓jI_m1, jI_add, jI_sub, jI_mul, ↓jm1000, ↓jm100, ↓jm10, ↓jm9, ji50, ji65280, ji1664525, ji252645135, ji858993459, ji1013904223, ji1431655765, ji2147483639, ji2147483647, jI_lt, gi, if_false]
    exact mo_z_1
  | succ d ih =>
    intro i f M hi hf h
    obtain ⟨f, rfl⟩ : ∃ g, f = g + 1 := ⟨f - 1, by omega⟩
    have gi : (i : Int) < 5 := by omega
    have hr := h.1.2.1
    have hN := zN_le h.1.2.2.2.2.2.2.2.2.1.1.1
    obtain ⟨k, u, d1, d2, d3, h1⟩ := h.draw (z := z) (m := ((zR q.1.1).2.1.length : Int) + 2) (by omega) (by omega)
    have e9 := h.okT.1.1
    have e9' := h1.okT.1.1
    obtain ⟨M1, a1, a2⟩ := L_r487 (S := S) (z := z) (i := (i : Int)) (K453 := fun ρ y0 y1 y2 => m_L_run_l453 z (z + g) f ρ y0 y1 y2) _ h1 ⟨d2, d3⟩
    obtain ⟨M', r1, r2⟩ := ih (i + 1) f M1 (by omega) (by omega) a2
    refine ⟨M', ?_, r2⟩
    unfold m_L_run_l453
    simp (disch := omega) only [ji1, ji2, ji3, ji4, ji5, ji6, ji7, ji8, ji9, ji10, ji11, ji12, ji13, ji14, ji15, ji16, ji19, ji20, ji24, ji31, ji32, ji39, ji45, ji48, ji57, ji58, ji59, ji60, ji97, ji100, ji119, ji120, ji122, ji144, ji200, ji226, ji240, ji255, ji300, ji366, ji400, ji500, ji1000, jI_z, ↓jI_m1, jI_add, jI_sub, jI_mul, ↓jm1000, ↓jm100, ↓jm10, ↓jm9, ji50, ji65280, ji1664525, ji252645135, ji858993459, ji1013904223, ji1431655765, ji2147483639, ji2147483647, jI_lt, gi, if_true, ↓Rg0 hr, Rw0 hr, ↓Rg1 hr, ↓Rg2 hr, ↓Rg3 hr, ↓Rg4 hr, ↓Rg5 hr, ↓Rg6 hr, ↓Rg7 hr, ↓Rg8 hr, ↓Rg9 hr, Rw9 hr, ↓Rg10 hr, Rw10 hr, ↓Rg11 hr, Rw11 hr, ↓Rg12 hr, Rw12 hr, ↓Rg13 hr, Rw13 hr, ↓Rg14 hr, Rw14 hr, ↓Rg15 hr, Rw15 hr, ↓Rg16 hr, Rw16 hr, ↓Rg17 hr, Rw17 hr, ↓Rv hr, Ra1 hr, Ru1 hr, Ra2 hr, Ru2 hr, Ra3 hr, Ru3 hr, Ra4 hr, Ru4 hr, Ra5 hr, Ru5 hr, Ra6 hr, Ru6 hr, Ra7 hr, Ru7 hr, Ra8 hr, Ru8 hr, e9]
    rw [d1]
    simp (disch := omega) only [↓mo_cs_s, ↓Rg0 hr, Rw0 hr, ↓Rg1 hr, ↓Rg2 hr, ↓Rg3 hr, ↓Rg4 hr, ↓Rg5 hr, ↓Rg6 hr, ↓Rg7 hr, ↓Rg8 hr, ↓Rg9 hr, Rw9 hr, ↓Rg10 hr, Rw10 hr, ↓Rg11 hr, Rw11 hr, ↓Rg12 hr, Rw12 hr, ↓Rg13 hr, Rw13 hr, ↓Rg14 hr, Rw14 hr, ↓Rg15 hr, Rw15 hr, ↓Rg16 hr, Rw16 hr, ↓Rg17 hr, Rw17 hr, ↓Rv hr, Ra1 hr, Ru1 hr, Ra2 hr, Ru2 hr, Ra3 hr, Ru3 hr, Ra4 hr, Ru4 hr, Ra5 hr, Ru5 hr, Ra6 hr, Ru6 hr, Ra7 hr, Ru7 hr, Ra8 hr, Ru8 hr, e9', jI_lt]
    by_cases gk : k < (zR q.1.1).2.1.length
    · rw [if_pos gk]; rw [if_pos gk] at a1; rw [a1]; exact r1
    · rw [if_neg gk]; rw [if_neg gk] at a1; rw [a1]; exact r1

variable {S : hSh}
/-! .. played to its end. -/
theorem pnd_next {t : Int} {j : Nat} {s0 s : hS} (hx : zX t s0 s) (hj : s0.1.length ≤ j) : pnd (t + 1) 0 s.1 = pnd t j s.1 := by
  obtain ⟨ex, e, g⟩ := hx
  unfold pnd
  apply cnt_cg
  intro i x hi
  rw [Nat.zero_add]
  by_cases hil : i < s0.1.length
  · unfold pd2 pd1
    have e1 : ∀ a : Int, (0 ≤ a ∧ ¬ (a < t + 1 ∨ (a = t + 1 ∧ i < 0))) = (0 ≤ a ∧ ¬ (a < t ∨ (a = t ∧ i < j))) := fun a => by apply propext; omega
    simp only [e1]
  · rw [e, List.getElem?_append_right (by omega)] at hi
    obtain ⟨_, g1, g2⟩ := g x (List.mem_of_getElem? hi)
    have e1 : ∀ a : Int, a = -1 ∨ t < a → ((0 ≤ a ∧ ¬ (a < t + 1 ∨ (a = t + 1 ∧ i < 0))) = (0 ≤ a ∧ ¬ (a < t ∨ (a = t ∧ i < j)))) := fun a ha => by apply propext; omega
    unfold pd2 pd1
    simp only [e1 _ g1, e1 _ g2]
theorem zOver_pnd {c : hCf} {t : Int} {s : hS} (ht : 0 ≤ t) : zOver c t s = true ↔ s.2.2.2.1 = c.1 1 ∧ pnd (t + 1) 0 s.1 = 0 := by
  unfold zOver pnd
  rw [cnt_0]
  simp only [Bool.and_eq_true, decide_eq_true_eq, List.all_eq_true]
  constructor
  · rintro ⟨h1, h2⟩
    refine ⟨h1, fun i x hx => ?_⟩
    have := h2 x (List.mem_of_getElem? hx)
    unfold pd2 pd1; rw [if_neg (by omega), if_neg (by omega)]
  · rintro ⟨h1, h2⟩
    refine ⟨h1, fun x hx => ?_⟩
    obtain ⟨i, hi⟩ := List.getElem?_of_mem hx
    have := h2 i x hi
    unfold pd2 pd1 at this
    constructor
    · rcases Int.lt_or_le t x.2.2.2.1 with g | g
      · rw [if_pos (by omega)] at this; omega
      · exact g
    · rcases Int.lt_or_le t x.2.2.2.2 with g | g
      · rw [if_pos (show 0 ≤ x.2.2.2.2 ∧ _ by omega)] at this; omega
      · exact g
theorem X4_ha {z b : Nat} {M : hM} {c : hCf} {s : hS} {t : Int} (hb : b = 1 ∨ b = 8) (hc : okC c) (ht : 0 ≤ t ∧ t < 200) (hz : zJ c t 0 s) (h : CR M c b t 0 s) :
    ∃ M', m_X4_handleArrivals (hp S z M) (z + 15) (jI t) = some ((), hp S z M') ∧ CR M' c b t s.1.length (zArr c t s.1.length 0 s) ∧ Fr 15 28 M M' ∧ Wr M M' := by
  have hT120 : s.1.length ≤ 120 := by obtain ⟨T, O, W, B, N, J, K, C⟩ := s; exact hz.1.1
  have hL := (CR_get h).2.2.2.2.1.2.1 t.toNat (by omega)
  rw [Int.toNat_of_nonneg ht.1] at hL
  have hql := qL_len (u := t) s.1 0
  obtain ⟨M', r1, r2, r3, r4⟩ := X4_ha_l (S := S) (z := z) (s0 := s) hb hc ht hT120 s.1.length 0 s M hN_f [] (qL t s.1 0) (jI (gA M 22 t.toNat)) (by omega) hz zX.rfl' h rfl (by rw [List.drop_zero]) (fun a ha => by rw [hL.2.2.1 a ha]) (by unfold hN_f; omega)
  rw [Nat.zero_add] at r2
  refine ⟨M', ?_, r2, r3, r4⟩
  have t0 : ¬ t < 0 := by omega
  have t1 : t < 226 := by omega
  have ai : m_X2_arrivalsIn (hp S z M) (z + 16) (jI t) = some (jI ((qL t s.1 0).length : Nat), hp S z M) := by
    unfold m_X2_arrivalsIn
    simp (disch := omega) only [ji1, ji2, ji3, ji4, ji5, ji6, ji7, ji8, ji9, ji10, ji11, ji12, ji13, ji14, ji15, ji16, ji19, ji20, ji24, ji31, ji32, ji39, ji45, ji48, ji57, ji58, ji59, ji60, ji97, ji100, ji119, ji120, ji122, ji144, ji200, ji226, ji240, ji255, ji300, ji366, ji400, ji500, ji1000, jI_z, ↓jI_m1, jI_add, jI_sub, jI_mul, jI_lt, ↓hg16_0, ↓hg16_1, ↓hg16_2, ↓hg16_3, ↓hg16_4, ↓hg16_5, hw16_5, ↓hg16_6, ↓hg16_7, ↓hg16_8, ↓hg16_9, ↓hg16_10, hw16_10, ↓hv16, ↓hx16, ha17, hu17, ↓hl17, ha18, hu18, ↓hl18, ha19, hu19, ↓hl19, ha20, hu20, ↓hl20, ha21, hu21, ↓hl21, ha22, hu22, ↓hl22, ha23, hu23, ↓hl23, ha24, hu24, ↓hl24, ha25, hu25, ↓hl25, t0, t1, if_false, if_true, hL.1]
  have fi : m_X2_firstArrivalIn (hp S z M) (z + 16) (jI t) = some (jI (gA M 22 t.toNat), hp S z M) := by
    unfold m_X2_firstArrivalIn
    simp (disch := omega) only [ji1, ji2, ji3, ji4, ji5, ji6, ji7, ji8, ji9, ji10, ji11, ji12, ji13, ji14, ji15, ji16, ji19, ji20, ji24, ji31, ji32, ji39, ji45, ji48, ji57, ji58, ji59, ji60, ji97, ji100, ji119, ji120, ji122, ji144, ji200, ji226, ji240, ji255, ji300, ji366, ji400, ji500, ji1000, jI_z, ↓jI_m1, jI_add, jI_sub, jI_mul, jI_lt, ↓hg16_0, ↓hg16_1, ↓hg16_2, ↓hg16_3, ↓hg16_4, ↓hg16_5, hw16_5, ↓hg16_6, ↓hg16_7, ↓hg16_8, ↓hg16_9, ↓hg16_10, hw16_10, ↓hv16, ↓hx16, ha17, hu17, ↓hl17, ha18, hu18, ↓hl18, ha19, hu19, ↓hl19, ha20, hu20, ↓hl20, ha21, hu21, ↓hl21, ha22, hu22, ↓hl22, ha23, hu23, ↓hl23, ha24, hu24, ↓hl24, ha25, hu25, ↓hl25, t0, t1, if_false, if_true]
  unfold m_X4_handleArrivals
  simp (disch := omega) only [ji1, ji2, ji3, ji4, ji5, ji6, ji7, ji8, ji9, ji10, ji11, ji12, ji13, ji14, ji15, ji16, ji19, ji20, ji24, ji31, ji32, ji39, ji45, ji48, ji57, ji58, ji59, ji60, ji97, ji100, ji119, ji120, ji122, ji144, ji200, ji226, ji240, ji255, ji300, ji366, ji400, ji500, ji1000, jI_z, ↓jI_m1, jI_add, jI_sub, jI_mul, ↓hg15_0, ↓hg15_1, ↓hg15_2, ↓hg15_3, hw15_3, ↓hg15_4, hw15_4, ↓hg15_5, hw15_5, ↓hg15_6, hw15_6, ↓hg15_7, hw15_7, ↓hg15_8, hw15_8, ↓hg15_9, hw15_9, ↓hg15_10, hw15_10, ↓hg15_11, hw15_11, ↓hg15_12, hw15_12, ↓hg15_13, hw15_13, ↓hg15_14, hw15_14, ↓hv15, ↓hx15, ha29, hu29, ↓hl29, ↓hg16_0, ↓hg16_1, ↓hg16_2, ↓hg16_3, ↓hg16_4, ↓hg16_5, hw16_5, ↓hg16_6, ↓hg16_7, ↓hg16_8, ↓hg16_9, ↓hg16_10, hw16_10, ↓hv16, ↓hx16, ha17, hu17, ↓hl17, ha18, hu18, ↓hl18, ha19, hu19, ↓hl19, ha20, hu20, ↓hl20, ha21, hu21, ↓hl21, ha22, hu22, ↓hl22, ha23, hu23, ↓hl23, ha24, hu24, ↓hl24, ha25, hu25, ↓hl25]
  rw [ai]
  simp (disch := omega) only [↓mo_ns_r, ↓hn0, ↓mo_cs_s, ↓mo_xs_r, ↓mo_xs_l, ↓mo_nl_s, mo_z_0, mo_z_1, ↓hg15_0, ↓hg15_1, ↓hg15_2, ↓hg15_3, hw15_3, ↓hg15_4, hw15_4, ↓hg15_5, hw15_5, ↓hg15_6, hw15_6, ↓hg15_7, hw15_7, ↓hg15_8, hw15_8, ↓hg15_9, hw15_9, ↓hg15_10, hw15_10, ↓hg15_11, hw15_11, ↓hg15_12, hw15_12, ↓hg15_13, hw15_13, ↓hg15_14, hw15_14, ↓hv15, ↓hx15, ha29, hu29, ↓hl29, ↓hg16_0, ↓hg16_1, ↓hg16_2, ↓hg16_3, ↓hg16_4, ↓hg16_5, hw16_5, ↓hg16_6, ↓hg16_7, ↓hg16_8, ↓hg16_9, ↓hg16_10, hw16_10, ↓hv16, ↓hx16, ha17, hu17, ↓hl17, ha18, hu18, ↓hl18, ha19, hu19, ↓hl19, ha20, hu20, ↓hl20, ha21, hu21, ↓hl21, ha22, hu22, ↓hl22, ha23, hu23, ↓hl23, ha24, hu24, ↓hl24, ha25, hu25, ↓hl25]
  rw [fi]
  simp (disch := omega) only [↓mo_ns_r, ↓hn0, ↓mo_cs_s, ↓mo_xs_r, ↓mo_xs_l, ↓mo_nl_s, mo_z_0, mo_z_1]
  exact r1
/-- what is left of a run -/
def PR (M : hM) (c : hCf) (q : Int × hS) : Prop := gI M 15 14 = q.1 ∧ LT M q.2.1 ∧ DR M c q.2.2.1 q.2.2.2.2.2.2.2.2 ∧ RS M 28 q.2.2.2.1
theorem X4_tick {z b : Nat} {M : hM} {c : hCf} {s : hS} {t : Int} (hb : b = 1 ∨ b = 8) (hc : okC c) (ht : 0 ≤ t ∧ t < 200) (hz : zJ c t 0 s) (h : CR M c b t 0 s) (h14 : gI M 15 14 = t) :
    ∃ M1 M2 M3, m_X4_handleArrivals (hp S z M) (z + 15) (jI t) = some ((), hp S z M1) ∧ (∃ (M9 : hM) (it : Int), m_X4_takeSendersTurn (hp S z M1) (z + 15) (jI t) = some (jI it, hp S z M9) ∧ ((it = -1 ∧ M2 = M9) ∨ ((0 ≤ it ∧ it ≤ 7) ∧ gV M9 0 = b ∧ m_X2_send (hp S z M9) (z + 16) (z + b) (jI t) (jI 0) (jI it) = some ((), hp S z M2)))) ∧ (∃ B O : Nat, gI M2 15 9 = (B : Int) ∧ gI M2 26 1 = (O : Int) ∧ O ≤ 240 ∧ m_X5_put (hp S z M2) (z + 28) (jI B) (jI (min 15 O : Nat)) = some ((), hp S z M3)) ∧ gI M3 15 14 = t ∧ CR (sI M3 15 14 (t + 1)) c b (t + 1) 0 (zTick c t s) ∧ Fr 15 30 M (sI M3 15 14 (t + 1)) ∧ Vr M (sI M3 15 14 (t + 1)) := by
  have hcs := hc.s
  obtain ⟨M1, r1, r2, r3, r4⟩ := X4_ha (S := S) (z := z) hb hc ht hz h
  obtain ⟨g1, g2⟩ := zJ_arr hc ht.1 s.1.length 0 s hz (by omega)
  rw [Nat.zero_add] at g1
  have hturn : ∃ (M2 M9 : hM) (it : Int), m_X4_takeSendersTurn (hp S z M1) (z + 15) (jI t) = some (jI it, hp S z M9) ∧ ((it = -1 ∧ M2 = M9) ∨ ((0 ≤ it ∧ it ≤ 7) ∧ gV M9 0 = b ∧ m_X2_send (hp S z M9) (z + 16) (z + b) (jI t) (jI 0) (jI it) = some ((), hp S z M2))) ∧ CR M2 c b t s.1.length (zTurn c t (zArr c t s.1.length 0 s)) ∧ Fr 15 28 M1 M2 ∧ Wr M1 M2 := by
    obtain ⟨M9, it, s', s1, s2, ⟨s5, s6⟩, s3, s4⟩ := X4_turn (S := S) (z := z) hb hc r2 g1.1 ht
    rcases s6 with ⟨s6, s7⟩ | ⟨s6, s7⟩
    · exact ⟨M9, M9, it, s1, Or.inl ⟨s6, rfl⟩, by rw [s7]; exact s2, s3, s4⟩
    · obtain ⟨M2, k1, k2, k3, k4⟩ := CR_send (S := S) (z := z) (kd := 0) (w := it) hb hc s2 s5 ht
      exact ⟨M2, M9, it, s1, Or.inr ⟨s6, (CR_get s2).1.1, k1⟩, by rw [s7]; exact k2, s3.trans (k3.mono (by omega) (by omega)), s4.trans k4⟩
  obtain ⟨M2, M9, it, s1, s1', s2, s3, s4⟩ := hturn
  obtain ⟨k1, k2⟩ := zJ_turn hc g1 ht.1
  have hpn := pnd_next (g2.trans k2) (Nat.le_refl _)
  have hnl := hnd_le (t := t) (j := s.1.length) (T := (zTurn c t (zArr c t s.1.length 0 s)).1)
  unfold zTick
  generalize zTurn c t (zArr c t s.1.length 0 s) = q at s2 k1 hpn hnl
  obtain ⟨T, O, W, B, N, J, K, C⟩ := q
  obtain ⟨c0, cB, cN, cK, cT, ⟨cL1, cL2, cL3⟩, cD, cW⟩ := s2
  obtain ⟨z1, z2, z3, z4, z5, z6, z7, z8, z9⟩ := k1.1
  have hO := k1.2
  simp only at hO hnl
  obtain ⟨M3, p1, p2, p3, p4⟩ := X5_put (S := S) (z := z) (s := 28) (a := B.toNat) (b := min 15 O.length) rfl cW (by omega) (by omega)
  have hF2 : Fr 15 30 M M2 := (r3.trans s3).mono (by omega) (by omega)
  have e15 : ∀ k, gI M3 15 k = gI M2 15 k := (p3 15 (by omega)).1
  have h14' : ∀ k, k ≠ 14 → gI (sI M3 15 14 (t + 1)) 15 k = gI M2 15 k := fun k hk => by rw [gI_sI, if_neg (by omega), e15]
  refine ⟨M1, M2, M3, r1, ⟨M9, it, s1, s1'⟩, ⟨B.toNat, O.length, by rw [cB]; omega, cD.1, by omega, p1⟩, ?_, ⟨?_, by rw [h14' 9 (by omega), cB], by rw [h14' 10 (by omega), cN], by rw [h14' 13 (by omega), cK], by rw [h14' 11 (by omega), h14' 12 (by omega)]; exact cT, ?_, ?_, ?_⟩, ?_, ?_⟩
  · rw [e15, s4.2, r4.2, h14]
  · exact (c0.keep hb p3 p4 (by omega)).i hb (by omega)
  · have hL : LR M2 T (t + 1) 0 := ⟨cL1, cL2, by rw [cL3]; simp only at hpn; rw [hpn]⟩
    exact (hL.keep p3 (by omega)).keep (Fr.sI (lo := 15) (hi := 16) (by omega)) (by omega)
  · exact (cD.keep p3 (by omega)).keep (Fr.sI (lo := 15) (hi := 16) (by omega)) (by omega)
  · have : RS M3 28 (fun k => if k = B.toNat then W k ||| 2 ^ (min 15 O.length) else W k) := fun k hk => by
      have := p2 k hk
      by_cases g : k = B.toNat
      · simp only [g, if_true] at this ⊢; exact this
      · simp only [g, if_false] at this ⊢; exact this
    exact this.keep (Fr.sI (lo := 15) (hi := 16) (by omega)) (by omega)
  · exact (hF2.trans (p3.mono (by omega) (by omega))).trans (Fr.sI (by omega))
  · exact (((r4.1.trans s4.1).trans p4)).trans (fun k => rfl)


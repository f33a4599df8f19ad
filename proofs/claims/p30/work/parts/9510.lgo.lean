variable {S : hSh}
/-! .. whole runs of the law. -/
def ndB (T : List hT) : Nat → Nat → Bool
  | 0, _ => true
  | d + 1, k => !dueB T k && ndB T d (k + 1)
theorem ndB_i {T : List hT} : ∀ d k, ndB T d k = true ↔ ∀ i, k ≤ i → i < k + d → dueB T i = false := by
  intro d
  induction d with
  | zero => intro k; simp only [ndB, true_iff]; intro i h1 h2; omega
  | succ d ih =>
    intro k
    simp only [ndB, Bool.and_eq_true, Bool.not_eq_true', ih]
    constructor
    · rintro ⟨h1, h2⟩ i h3 h4
      rcases Nat.eq_or_lt_of_le h3 with g | g
      · rw [← g]; exact h1
      · exact h2 i (by omega) (by omega)
    · intro h
      exact ⟨h k (Nat.le_refl _) (by omega), fun i h1 h2 => h i (by omega) (by omega)⟩
theorem dueB_f {T : List hT} {k : Nat} : dueB T k = false ↔ ∀ x ∈ T, ¬ (x.2.2.2.1 = (k : Int) ∨ x.2.2.2.2 = (k : Int)) := by
  unfold dueB
  rw [List.any_eq_false]
  simp only [Bool.or_eq_true, decide_eq_true_eq]
theorem ndB_q {c : hCf} {T : List hT} {t : Int} (ht : 0 ≤ t ∧ t < 200) (hT' : ∀ x ∈ T, okT c t x) : ndB T (399 - t.toNat) (t.toNat + 1) = T.all (fun x => decide (x.2.2.2.1 ≤ t) && decide (x.2.2.2.2 ≤ t)) := by
  rw [Bool.eq_iff_iff, ndB_i, List.all_eq_true]
  simp only [Bool.and_eq_true, decide_eq_true_eq]
  constructor
  · intro h x hx
    obtain ⟨o1, o2, o3, o4, o5, o6⟩ := hT' x hx
    constructor
    · rcases Int.lt_or_le t x.2.2.2.1 with g | g
      · exfalso
        have := dueB_f.mp (h x.2.2.2.1.toNat (by omega) (by omega)) x hx
        exact this (Or.inl (by omega))
      · exact g
    · rcases Int.lt_or_le t x.2.2.2.2 with g | g
      · exfalso
        have := dueB_f.mp (h x.2.2.2.2.toNat (by omega) (by omega)) x hx
        exact this (Or.inr (by omega))
      · exact g
  · intro h i h1 h2
    rw [dueB_f]
    intro x hx
    have := h x hx
    omega
theorem X8_ov {z r p : Nat} {M : hM} {c : hCf} {s : hS} {t : Int} {K98 : ac_H → Int32 → Option (Nat × ac_H)} (hr : isR S r) (hc : okC c) (ht : 0 ≤ t ∧ t < 200) (hz : zI c t s) (hl : s.2.1.length ≤ 240) (h : WR M r p c t s) : ∀ (d k f : Nat) (v : Bool), k + d = 400 → d < f →
    m_X8_go_l151 K98 (z + r) f (hp S z M) (jI (b2i v)) (jI k) = K98 (hp S z (sI (sA M (r + 8) (16 * s.2.2.2.1.toNat + min 15 s.2.1.length) 1) r 11 (t + 1))) (jI (b2i (v && ndB s.1 d k))) := by
  have hcs := hc.s
  obtain ⟨h0, hP, h11, ⟨h9, hA, hD⟩, ⟨o1, o2, o3⟩, hW, hB, hN, hJ, h16⟩ := WR_get h
  obtain ⟨y1, y2, y3⟩ := zI_get hz
  have hmin : (if jI (s.2.1.length : Int) < jI 15 then jI (s.2.1.length : Int) else jI 15) = jI ((min 15 s.2.1.length : Nat) : Int) := by
    have gl := jI_lt (a := (s.2.1.length : Int)) (b := 15) (by omega) (by omega) (by omega) (by omega)
    by_cases g : (s.2.1.length : Int) < 15
    · rw [if_pos (by rw [gl]; exact g), show min 15 s.2.1.length = s.2.1.length from by omega]
    · rw [if_neg (by rw [gl]; exact g), show min 15 s.2.1.length = 15 from by omega]; rfl
  intro d
  induction d with
  | zero =>
    intro k f v hk hf
    obtain ⟨f, rfl⟩ : ∃ g, f = g + 1 := ⟨f - 1, by omega⟩
    have g : ¬ (k : Int) < 400 := by omega
    unfold m_X8_go_l151
    simp (disch := omega) only [ji1, ji2, ji3, ji4, ji5, ji6, ji7, ji8, ji9, ji10, ji11, ji12, ji13, ji14, ji15, ji16, ji19, ji20, ji24, ji31, ji32, ji39, ji45, ji48, ji57, ji58, ji59, ji60, ji97, ji100, ji119, ji120, ji122, ji144, ji200, ji226, ji240, ji255, ji300, ji366, ji400, ji500, ji1000, jI_z, ↓jI_m1, jI_add, jI_sub, jI_mul, ↓jm1000, ↓jm100, ↓jm10, ↓jm9, ji50, ji65280, ji1664525, ji252645135, ji858993459, ji1013904223, ji1431655765, ji2147483639, ji2147483647, jI_lt, g, if_false, ↓Rg0 hr, Rw0 hr, ↓Rg1 hr, ↓Rg2 hr, ↓Rg3 hr, ↓Rg4 hr, ↓Rg5 hr, ↓Rg6 hr, ↓Rg7 hr, ↓Rg8 hr, ↓Rg9 hr, Rw9 hr, ↓Rg10 hr, Rw10 hr, ↓Rg11 hr, Rw11 hr, ↓Rg12 hr, Rw12 hr, ↓Rg13 hr, Rw13 hr, ↓Rg14 hr, Rw14 hr, ↓Rg15 hr, Rw15 hr, ↓Rg16 hr, Rw16 hr, ↓Rg17 hr, Rw17 hr, ↓Rv hr, Ra1 hr, Ru1 hr, Ra2 hr, Ru2 hr, Ra3 hr, Ru3 hr, Ra4 hr, Ru4 hr, Ra5 hr, Ru5 hr, Ra6 hr, Ru6 hr, Ra7 hr, Ru7 hr, Ra8 hr, Ru8 hr, o1, hB]
    simp only [jI_lt (a := (s.2.1.length : Int)) (b := 15) (by omega) (by omega) (by omega) (by omega)] at hmin
    rw [hmin]
    simp (disch := omega) only [ji1, ji2, ji3, ji4, ji5, ji6, ji7, ji8, ji9, ji10, ji11, ji12, ji13, ji14, ji15, ji16, ji19, ji20, ji24, ji31, ji32, ji39, ji45, ji48, ji57, ji58, ji59, ji60, ji97, ji100, ji119, ji120, ji122, ji144, ji200, ji226, ji240, ji255, ji300, ji366, ji400, ji500, ji1000, jI_z, ↓jI_m1, jI_add, jI_sub, jI_mul, ↓jm1000, ↓jm100, ↓jm10, ↓jm9, ji50, ji65280, ji1664525, ji252645135, ji858993459, ji1013904223, ji1431655765, ji2147483639, ji2147483647, ↓Rg0 hr, Rw0 hr, ↓Rg1 hr, ↓Rg2 hr, ↓Rg3 hr, ↓Rg4 hr, ↓Rg5 hr, ↓Rg6 hr, ↓Rg7 hr, ↓Rg8 hr, ↓Rg9 hr, Rw9 hr, ↓Rg10 hr, Rw10 hr, ↓Rg11 hr, Rw11 hr, ↓Rg12 hr, Rw12 hr, ↓Rg13 hr, Rw13 hr, ↓Rg14 hr, Rw14 hr, ↓Rg15 hr, Rw15 hr, ↓Rg16 hr, Rw16 hr, ↓Rg17 hr, Rw17 hr, ↓Rv hr, Ra1 hr, Ru1 hr, Ra2 hr, Ru2 hr, Ra3 hr, Ru3 hr, Ra4 hr, Ru4 hr, Ra5 hr, Ru5 hr, Ra6 hr, Ru6 hr, Ra7 hr, Ru7 hr, Ra8 hr, Ru8 hr, nar_z1, gI_sA, gA_sI, gI_eq, gI_ne, gA_eq, gA_ne, nneg, if_false, if_true, Int.toNat_natCast, h11]
    rw [show ((16 : Int) * s.2.2.2.1 + ((min 15 s.2.1.length : Nat) : Int)).toNat = 16 * s.2.2.2.1.toNat + min 15 s.2.1.length from by omega]
    simp only [ndB, Bool.and_true]
  | succ d ih =>
    intro k f v hk hf
    obtain ⟨f, rfl⟩ : ∃ g, f = g + 1 := ⟨f - 1, by omega⟩
    have g : (k : Int) < 400 := by omega
    have ek : (k : Int) + 1 = ((k + 1 : Nat) : Int) := by omega
    have i0 := ih (k + 1) f false (by omega) (by omega)
    have i1 := ih (k + 1) f true (by omega) (by omega)
    rw [show b2i false = 0 from rfl] at i0
    rw [show b2i true = 1 from rfl] at i1
    unfold m_X8_go_l151
    simp (disch := omega) only [ji1, ji2, ji3, ji4, ji5, ji6, ji7, ji8, ji9, ji10, ji11, ji12, ji13, ji14, ji15, ji16, ji19, ji20, ji24, ji31, ji32, ji39, ji45, ji48, ji57, ji58, ji59, ji60, ji97, ji100, ji119, ji120, ji122, ji144, ji200, ji226, ji240, ji255, ji300, ji366, ji400, ji500, ji1000, jI_z, ↓jI_m1, jI_add, jI_sub, jI_mul, ↓jm1000, ↓jm100, ↓jm10, ↓jm9, ji50, ji65280, ji1664525, ji252645135, ji858993459, ji1013904223, ji1431655765, ji2147483639, ji2147483647, jI_lt, g, if_true, ↓Rg0 hr, Rw0 hr, ↓Rg1 hr, ↓Rg2 hr, ↓Rg3 hr, ↓Rg4 hr, ↓Rg5 hr, ↓Rg6 hr, ↓Rg7 hr, ↓Rg8 hr, ↓Rg9 hr, Rw9 hr, ↓Rg10 hr, Rw10 hr, ↓Rg11 hr, Rw11 hr, ↓Rg12 hr, Rw12 hr, ↓Rg13 hr, Rw13 hr, ↓Rg14 hr, Rw14 hr, ↓Rg15 hr, Rw15 hr, ↓Rg16 hr, Rw16 hr, ↓Rg17 hr, Rw17 hr, ↓Rv hr, Ra1 hr, Ru1 hr, Ra2 hr, Ru2 hr, Ra3 hr, Ru3 hr, Ra4 hr, Ru4 hr, Ra5 hr, Ru5 hr, Ra6 hr, Ru6 hr, Ra7 hr, Ru7 hr, Ra8 hr, Ru8 hr, Int.toNat_natCast, hD k (by omega), ek]
    cases v
    · rw [if_pos (show jI (b2i false) = jI 0 from rfl), i0]; simp
    · rw [if_neg (show ¬ jI (b2i true) = jI 0 by decide)]
      simp only [ndB]
      cases hdk : dueB s.1 k
      · rw [if_pos (show jI (b2i false) = jI 0 from rfl), i1]; simp
      · rw [if_neg (show ¬ jI (b2i true) = jI 0 by decide), i0]; simp
theorem WR_st {r p : Nat} {M : hM} {c : hCf} {s : hS} {t : Int} (hd : p + 5 ≤ r ∨ r + 9 ≤ p) (hc : okC c) (hz : zI c t s) (h : WR M r p c t s) : WR (sI (sA M (r + 8) (16 * s.2.2.2.1.toNat + min 15 s.2.1.length) 1) r 11 (t + 1)) r p c (t + 1) (zSt s) := by
  have hcs := hc.s
  obtain ⟨y1, y2, y3⟩ := zI_get hz
  obtain ⟨T, O, W, B, N, J, K, C⟩ := s
  obtain ⟨h0, hP, h11, hT', hO, hW, hB, hN, hJ, h16⟩ := h
  simp only at y1
  have f1 : Fr r (r + 9) M (sI (sA M (r + 8) (16 * B.toNat + min 15 O.length) 1) r 11 (t + 1)) := (Fr.sA (by omega)).trans (Fr.sI (by omega))
  have i : ∀ k, k ≠ 11 → gI (sI (sA M (r + 8) (16 * B.toNat + min 15 O.length) 1) r 11 (t + 1)) r k = gI M r k := fun k hk => by rw [gI_ne (by omega), gI_sA]
  have a : ∀ b k, b ≠ r + 8 → gA (sI (sA M (r + 8) (16 * B.toNat + min 15 O.length) 1) r 11 (t + 1)) b k = gA M b k := fun b k hb => by rw [gA_sI, gA_ne (by omega)]
  refine ⟨by rw [i 0 (by omega)]; exact h0, hP.keep f1 (by omega), gI_eq, hT'.cg (i 9 (by omega)) (fun b k _ hb => a b k hb), hO.cg (i 10 (by omega)) (i 12 (by omega)) (fun k => a _ k (by omega)), fun s' t' h1 h2 => ?_, by rw [i 13 (by omega)]; exact hB, by rw [i 14 (by omega)]; exact hN, hJ.cg (i 17 (by omega)) (i 15 (by omega)), by rw [i 16 (by omega)]; exact h16⟩
  rw [gA_sI, gA_sA]
  by_cases gs : s' = B.toNat
  · simp only [gs, if_true]
    by_cases gt : t' = min 15 O.length
    · rw [if_pos ⟨trivial, by omega⟩, gt, Nat.testBit_or, Nat.testBit_two_pow_self]; simp
    · rw [if_neg (by omega), Nat.testBit_or, Nat.testBit_two_pow_of_ne (by omega), Bool.or_false]
      exact hW B.toNat t' (by omega) h2
  · simp only [gs, if_false]
    rw [if_neg (by omega)]; exact hW s' t' h1 h2
theorem zQ_tick {c : hCf} {t : Int} {s : hS} (hc : okC c) (ht : 0 ≤ t) (hz : zJ c t 0 s) (h : zQ c s) : zQ c (zTick c t s) := by
  obtain ⟨g1, g2⟩ := zJ_arr hc ht s.1.length 0 s hz (by omega)
  have q := zQ_turn g1.1 (zQ_arr (t := t) s.1.length 0 s h) hc
  unfold zTick
  generalize zTurn c t (zArr c t s.1.length 0 s) = s2 at q
  obtain ⟨T, O, W, B, N, J, K, C⟩ := s2
  exact q
theorem X8_l98 {z r p : Nat} {c : hCf} (hr : isR S r) (hq : isP S p) (hd : p + 5 ≤ r ∨ r + 9 ≤ p) (hc : okC c) : ∀ (n f : Nat) (t : Int) (s : hS) (M : hM), t + n = c.1 2 → 0 ≤ t → n < f → zJ c t 0 s → zQ c s → WR M r p c t s →
    ∃ M', m_X8_go_l98 (z + r) f (hp S z M) (jI 0) = some (z + r, hp S z M') ∧ WR M' r p c (zRun c n t s).1 (zRun c n t s).2 ∧ zQ c (zRun c n t s).2 ∧ Fr r (r + 9) M M' ∧ Vr M M' := by
  have hcs := hc.s
  intro n
  induction n with
  | zero =>
    intro f t s M hn ht hf hz hzq h
    obtain ⟨f, rfl⟩ : ∃ g, f = g + 1 := ⟨f - 1, by omega⟩
    obtain ⟨h0, hP, h11, _⟩ := WR_get h
    have e2 : gA M (p + 1) (2 : Int).toNat = c.1 2 := hP.s (k := 2) (by omega)
    have g : ¬ t < c.1 2 := by omega
    refine ⟨M, ?_, h, hzq, Fr.rfl', Vr.rfl'⟩
    unfold m_X8_go_l98
    simp (disch := omega) only [ji1, ji2, ji3, ji4, ji5, ji6, ji7, ji8, ji9, ji10, ji11, ji12, ji13, ji14, ji15, ji16, ji19, ji20, ji24, ji31, ji32, ji39, ji45, ji48, ji57, ji58, ji59, ji60, ji97, ji100, ji119, ji120, ji122, ji144, ji200, ji226, ji240, ji255, ji300, ji366, ji400, ji500, ji1000, jI_z, ↓jI_m1, jI_add, jI_sub, jI_mul, ↓jm1000, ↓jm100, ↓jm10, ↓jm9, ji50, ji65280, ji1664525, ji252645135, ji858993459, ji1013904223, ji1431655765, ji2147483639, ji2147483647, ↓Rg0 hr, Rw0 hr, ↓Rg1 hr, ↓Rg2 hr, ↓Rg3 hr, ↓Rg4 hr, ↓Rg5 hr, ↓Rg6 hr, ↓Rg7 hr, ↓Rg8 hr, ↓Rg9 hr, Rw9 hr, ↓Rg10 hr, Rw10 hr, ↓Rg11 hr, Rw11 hr, ↓Rg12 hr, Rw12 hr, ↓Rg13 hr, Rw13 hr, ↓Rg14 hr, Rw14 hr, ↓Rg15 hr, Rw15 hr, ↓Rg16 hr, Rw16 hr, ↓Rg17 hr, Rw17 hr, ↓Rv hr, Ra1 hr, Ru1 hr, Ra2 hr, Ru2 hr, Ra3 hr, Ru3 hr, Ra4 hr, Ru4 hr, Ra5 hr, Ru5 hr, Ra6 hr, Ru6 hr, Ra7 hr, Ru7 hr, Ra8 hr, Ru8 hr, ↓Pg0 hq, ↓Pg1 hq, ↓Pg2 hq, ↓Pg3 hq, ↓Pv hq, Pa1 hq, Pu1 hq, Pa2 hq, Pu2 hq, Pa3 hq, Pu3 hq, Pa4 hq, Pu4 hq, h0, nneg, if_false, Int.toNat_natCast, e2, h11, jI_lt, g]
  | succ n ih =>
    intro f t s M hn ht hf hz hzq h
    obtain ⟨f, rfl⟩ : ∃ g, f = g + 1 := ⟨f - 1, by omega⟩
    obtain ⟨h0, hP, h11, _⟩ := WR_get h
    have e2 : gA M (p + 1) (2 : Int).toNat = c.1 2 := hP.s (k := 2) (by omega)
    have g : t < c.1 2 := by omega
    have ht2 : 0 ≤ t ∧ t < 200 := by omega
    obtain ⟨M1, a1, a2, a3, a4⟩ := X8_tick (z := z) hr hq hd hc ht2 hz hzq h
    obtain ⟨g1, g2⟩ := zJ_arr hc ht s.1.length 0 s hz (by omega)
    obtain ⟨k1, k2⟩ := zJ_turn hc g1 ht
    have hnl := hnd_le (t := t) (j := 0 + s.1.length) (T := (zTurn c t (zArr c t s.1.length 0 s)).1)
    have hzt := zJ_tick hc hz ht
    have hqt := zQ_tick hc ht hz hzq
    have eT : zTick c t s = zSt (zTurn c t (zArr c t s.1.length 0 s)) := rfl
    generalize zTurn c t (zArr c t s.1.length 0 s) = s1 at a2 k1 hnl eT
    have hl1 : s1.1.length ≤ 120 := by obtain ⟨T, O, W, B, N, J, K, C⟩ := s1; exact k1.1.1
    have hl : s1.2.1.length ≤ 240 := by have := k1.2; omega
    have hok : ∀ x ∈ s1.1, okT c t x := by obtain ⟨T, O, W, B, N, J, K, C⟩ := s1; exact k1.1.2.1
    obtain ⟨b0, bP, b11, bT, bO, bW, bB, bN, bJ, b16⟩ := WR_get a2
    obtain ⟨y1, y2, y3⟩ := zI_get k1.1
    have q1 : gA M1 (p + 1) (1 : Int).toNat = c.1 1 := bP.s (k := 1) (by omega)
    have w := WR_st hd hc k1.1 a2
    rw [← eT] at w
    generalize hM2 : sI (sA M1 (r + 8) (16 * s1.2.2.2.1.toNat + min 15 s1.2.1.length) 1) r 11 (t + 1) = M2 at w
    have f2 : Fr r (r + 9) M1 M2 := by rw [← hM2]; exact (Fr.sA (by omega)).trans (Fr.sI (by omega))
    have v2 : Vr M1 M2 := by rw [← hM2]; exact fun _ => rfl
    have eO : zOver c t (zTick c t s) = (decide (s1.2.2.2.1 = c.1 1) && ndB s1.1 (399 - t.toNat) (t.toNat + 1)) := by
      rw [eT, ndB_q ht2 hok]
      obtain ⟨T, O, W, B, N, J, K, C⟩ := s1; rfl
    have et : t + 1 = ((t.toNat + 1 : Nat) : Int) := by omega
    have pre : m_X8_go_l98 (z + r) (f + 1) (hp S z M) (jI 0) = m_X8_go_l98 (z + r) f (hp S z M2) (jI (b2i (zOver c t (zTick c t s)))) := by
      have ov := fun v => X8_ov (z := z) (K98 := fun ρ y0 => m_X8_go_l98 (z + r) f ρ y0) hr hc ht2 k1.1 hl a2 (399 - t.toNat) (t.toNat + 1) hN_f v (by omega) (by unfold hN_f; omega)
      rw [eO]
      conv => lhs; unfold m_X8_go_l98
      simp (disch := omega) only [ji1, ji2, ji3, ji4, ji5, ji6, ji7, ji8, ji9, ji10, ji11, ji12, ji13, ji14, ji15, ji16, ji19, ji20, ji24, ji31, ji32, ji39, ji45, ji48, ji57, ji58, ji59, ji60, ji97, ji100, ji119, ji120, ji122, ji144, ji200, ji226, ji240, ji255, ji300, ji366, ji400, ji500, ji1000, jI_z, ↓jI_m1, jI_add, jI_sub, jI_mul, ↓jm1000, ↓jm100, ↓jm10, ↓jm9, ji50, ji65280, ji1664525, ji252645135, ji858993459, ji1013904223, ji1431655765, ji2147483639, ji2147483647, ↓Rg0 hr, Rw0 hr, ↓Rg1 hr, ↓Rg2 hr, ↓Rg3 hr, ↓Rg4 hr, ↓Rg5 hr, ↓Rg6 hr, ↓Rg7 hr, ↓Rg8 hr, ↓Rg9 hr, Rw9 hr, ↓Rg10 hr, Rw10 hr, ↓Rg11 hr, Rw11 hr, ↓Rg12 hr, Rw12 hr, ↓Rg13 hr, Rw13 hr, ↓Rg14 hr, Rw14 hr, ↓Rg15 hr, Rw15 hr, ↓Rg16 hr, Rw16 hr, ↓Rg17 hr, Rw17 hr, ↓Rv hr, Ra1 hr, Ru1 hr, Ra2 hr, Ru2 hr, Ra3 hr, Ru3 hr, Ra4 hr, Ru4 hr, Ra5 hr, Ru5 hr, Ra6 hr, Ru6 hr, Ra7 hr, Ru7 hr, Ra8 hr, Ru8 hr, ↓Pg0 hq, ↓Pg1 hq, ↓Pg2 hq, ↓Pg3 hq, ↓Pv hq, Pa1 hq, Pu1 hq, Pa2 hq, Pu2 hq, Pa3 hq, Pu3 hq, Pa4 hq, Pu4 hq, h0, nneg, if_false, Int.toNat_natCast, e2, h11, jI_lt, g, if_true]
      rw [a1]
      simp (disch := omega) only [ji1, ji2, ji3, ji4, ji5, ji6, ji7, ji8, ji9, ji10, ji11, ji12, ji13, ji14, ji15, ji16, ji19, ji20, ji24, ji31, ji32, ji39, ji45, ji48, ji57, ji58, ji59, ji60, ji97, ji100, ji119, ji120, ji122, ji144, ji200, ji226, ji240, ji255, ji300, ji366, ji400, ji500, ji1000, jI_z, ↓jI_m1, jI_add, jI_sub, jI_mul, ↓jm1000, ↓jm100, ↓jm10, ↓jm9, ji50, ji65280, ji1664525, ji252645135, ji858993459, ji1013904223, ji1431655765, ji2147483639, ji2147483647, ↓Rg0 hr, Rw0 hr, ↓Rg1 hr, ↓Rg2 hr, ↓Rg3 hr, ↓Rg4 hr, ↓Rg5 hr, ↓Rg6 hr, ↓Rg7 hr, ↓Rg8 hr, ↓Rg9 hr, Rw9 hr, ↓Rg10 hr, Rw10 hr, ↓Rg11 hr, Rw11 hr, ↓Rg12 hr, Rw12 hr, ↓Rg13 hr, Rw13 hr, ↓Rg14 hr, Rw14 hr, ↓Rg15 hr, Rw15 hr, ↓Rg16 hr, Rw16 hr, ↓Rg17 hr, Rw17 hr, ↓Rv hr, Ra1 hr, Ru1 hr, Ra2 hr, Ru2 hr, Ra3 hr, Ru3 hr, Ra4 hr, Ru4 hr, Ra5 hr, Ru5 hr, Ra6 hr, Ru6 hr, Ra7 hr, Ru7 hr, Ra8 hr, Ru8 hr, ↓Pg0 hq, ↓Pg1 hq, ↓Pg2 hq, ↓Pg3 hq, ↓Pv hq, Pa1 hq, Pu1 hq, Pa2 hq, Pu2 hq, Pa3 hq, Pu3 hq, Pa4 hq, Pu4 hq, ↓mo_cs_s, b0, nneg, if_false, Int.toNat_natCast, q1, b11, bB, jI_eq, et]
      by_cases gB : s1.2.2.2.1 = c.1 1
      · have := ov true
        rw [show b2i true = 1 from rfl] at this
        rw [if_pos gB, this, hM2, decide_eq_true gB]
      · have := ov false
        rw [show b2i false = 0 from rfl] at this
        rw [if_neg gB, this, hM2, decide_eq_false gB]
    rw [pre]
    simp only [zRun]
    by_cases go : zOver c t (zTick c t s) = true
    · rw [go, if_pos rfl]
      refine ⟨M2, ?_, w, hqt, a3.trans f2, a4.trans v2⟩
      obtain ⟨f, rfl⟩ : ∃ g, f = g + 1 := ⟨f - 1, by omega⟩
      obtain ⟨w0, wP, w11, _⟩ := WR_get w
      have q2 : gA M2 (p + 1) (2 : Int).toNat = c.1 2 := wP.s (k := 2) (by omega)
      unfold m_X8_go_l98
      simp (disch := omega) only [ji1, ji2, ji3, ji4, ji5, ji6, ji7, ji8, ji9, ji10, ji11, ji12, ji13, ji14, ji15, ji16, ji19, ji20, ji24, ji31, ji32, ji39, ji45, ji48, ji57, ji58, ji59, ji60, ji97, ji100, ji119, ji120, ji122, ji144, ji200, ji226, ji240, ji255, ji300, ji366, ji400, ji500, ji1000, jI_z, ↓jI_m1, jI_add, jI_sub, jI_mul, ↓jm1000, ↓jm100, ↓jm10, ↓jm9, ji50, ji65280, ji1664525, ji252645135, ji858993459, ji1013904223, ji1431655765, ji2147483639, ji2147483647, ↓Rg0 hr, Rw0 hr, ↓Rg1 hr, ↓Rg2 hr, ↓Rg3 hr, ↓Rg4 hr, ↓Rg5 hr, ↓Rg6 hr, ↓Rg7 hr, ↓Rg8 hr, ↓Rg9 hr, Rw9 hr, ↓Rg10 hr, Rw10 hr, ↓Rg11 hr, Rw11 hr, ↓Rg12 hr, Rw12 hr, ↓Rg13 hr, Rw13 hr, ↓Rg14 hr, Rw14 hr, ↓Rg15 hr, Rw15 hr, ↓Rg16 hr, Rw16 hr, ↓Rg17 hr, Rw17 hr, ↓Rv hr, Ra1 hr, Ru1 hr, Ra2 hr, Ru2 hr, Ra3 hr, Ru3 hr, Ra4 hr, Ru4 hr, Ra5 hr, Ru5 hr, Ra6 hr, Ru6 hr, Ra7 hr, Ru7 hr, Ra8 hr, Ru8 hr, ↓Pg0 hq, ↓Pg1 hq, ↓Pg2 hq, ↓Pg3 hq, ↓Pv hq, Pa1 hq, Pu1 hq, Pa2 hq, Pu2 hq, Pa3 hq, Pu3 hq, Pa4 hq, Pu4 hq, w0, nneg, if_false, Int.toNat_natCast, q2, w11, jI_lt, show ¬ jI (b2i true) = jI 0 by decide]
      split <;> rfl
    · rw [if_neg go, show zOver c t (zTick c t s) = false from by simpa using go]
      obtain ⟨M', r1, r2, r3, r4, r5⟩ := ih f (t + 1) (zTick c t s) M2 (by omega) (by omega) (by omega) hzt hqt w
      exact ⟨M', r1, r2, r3, (a3.trans f2).trans r4, (a4.trans v2).trans r5⟩
theorem X8_l76 {z r : Nat} (hr : isR S r) : ∀ (d k f : Nat) (M : hM), k + d = 144 → d < f → (∀ j, j < k → gA M (r + 8) j = 0) →
    ∃ M', m_X8_go_l76 (z + r) f (hp S z M) (jI k) = m_X8_go_l98 (z + r) hN_f (hp S z M') (jI 0) ∧ (∀ j, j < 144 → gA M' (r + 8) j = 0) ∧ Vr M M' ∧ (∀ b j, gI M' b j = gI M b j) ∧ ∀ b j, b ≠ r + 8 → gA M' b j = gA M b j := by
  intro d
  induction d with
  | zero =>
    intro k f M hk hf hz
    obtain ⟨f, rfl⟩ : ∃ g, f = g + 1 := ⟨f - 1, by omega⟩
    have g : ¬ (k : Int) < 144 := by omega
    refine ⟨M, ?_, fun j hj => hz j (by omega), Vr.rfl', fun _ _ => rfl, fun _ _ _ => rfl⟩
    unfold m_X8_go_l76
    simp (disch := omega) only [ji1, ji2, ji3, ji4, ji5, ji6, ji7, ji8, ji9, ji10, ji11, ji12, ji13, ji14, ji15, ji16, ji19, ji20, ji24, ji31, ji32, ji39, ji45, ji48, ji57, ji58, ji59, ji60, ji97, ji100, ji119, ji120, ji122, ji144, ji200, ji226, ji240, ji255, ji300, ji366, ji400, ji500, ji1000, jI_z, ↓jI_m1, jI_add, jI_sub, jI_mul, ↓jm1000, ↓jm100, ↓jm10, ↓jm9, ji50, ji65280, ji1664525, ji252645135, ji858993459, ji1013904223, ji1431655765, ji2147483639, ji2147483647, jI_lt, g, if_false]
  | succ d ih =>
    intro k f M hk hf hz
    obtain ⟨f, rfl⟩ : ∃ g, f = g + 1 := ⟨f - 1, by omega⟩
    have g : (k : Int) < 144 := by omega
    have ek : (k : Int) + 1 = ((k + 1 : Nat) : Int) := by omega
    obtain ⟨M', r1, r2, r3, r4, r5⟩ := ih (k + 1) f (sA M (r + 8) k 0) (by omega) (by omega) (fun j hj => by
      rw [gA_sA]; split
      · rfl
      · exact hz j (by omega))
    refine ⟨M', ?_, r2, fun k => r3 k, fun b j => r4 b j, fun b j hb => by rw [r5 b j hb, gA_ne (by omega)]⟩
    unfold m_X8_go_l76
    simp (disch := omega) only [ji1, ji2, ji3, ji4, ji5, ji6, ji7, ji8, ji9, ji10, ji11, ji12, ji13, ji14, ji15, ji16, ji19, ji20, ji24, ji31, ji32, ji39, ji45, ji48, ji57, ji58, ji59, ji60, ji97, ji100, ji119, ji120, ji122, ji144, ji200, ji226, ji240, ji255, ji300, ji366, ji400, ji500, ji1000, jI_z, ↓jI_m1, jI_add, jI_sub, jI_mul, ↓jm1000, ↓jm100, ↓jm10, ↓jm9, ji50, ji65280, ji1664525, ji252645135, ji858993459, ji1013904223, ji1431655765, ji2147483639, ji2147483647, jI_lt, g, if_true, ↓Rg0 hr, Rw0 hr, ↓Rg1 hr, ↓Rg2 hr, ↓Rg3 hr, ↓Rg4 hr, ↓Rg5 hr, ↓Rg6 hr, ↓Rg7 hr, ↓Rg8 hr, ↓Rg9 hr, Rw9 hr, ↓Rg10 hr, Rw10 hr, ↓Rg11 hr, Rw11 hr, ↓Rg12 hr, Rw12 hr, ↓Rg13 hr, Rw13 hr, ↓Rg14 hr, Rw14 hr, ↓Rg15 hr, Rw15 hr, ↓Rg16 hr, Rw16 hr, ↓Rg17 hr, Rw17 hr, ↓Rv hr, Ra1 hr, Ru1 hr, Ra2 hr, Ru2 hr, Ra3 hr, Ru3 hr, Ra4 hr, Ru4 hr, Ra5 hr, Ru5 hr, Ra6 hr, Ru6 hr, Ra7 hr, Ru7 hr, Ra8 hr, Ru8 hr, nar_z0, Int.toNat_natCast, ek]
    exact r1
theorem X8_l54 {z r : Nat} (hr : isR S r) : ∀ (d k f : Nat) (M : hM), k + d = 400 → d < f → (∀ j, j < k → gA M (r + 7) j = 0) →
    ∃ M', m_X8_go_l54 (z + r) f (hp S z M) (jI k) = m_X8_go_l76 (z + r) hN_f (hp S z M') (jI 0) ∧ (∀ j, j < 400 → gA M' (r + 7) j = 0) ∧ Vr M M' ∧ (∀ b j, gI M' b j = gI M b j) ∧ ∀ b j, b ≠ r + 7 → gA M' b j = gA M b j := by
  intro d
  induction d with
  | zero =>
    intro k f M hk hf hz
    obtain ⟨f, rfl⟩ : ∃ g, f = g + 1 := ⟨f - 1, by omega⟩
    have g : ¬ (k : Int) < 400 := by omega
    refine ⟨M, ?_, fun j hj => hz j (by omega), Vr.rfl', fun _ _ => rfl, fun _ _ _ => rfl⟩
    unfold m_X8_go_l54
    simp (disch := omega) only [ji1, ji2, ji3, ji4, ji5, ji6, ji7, ji8, ji9, ji10, ji11, ji12, ji13, ji14, ji15, ji16, ji19, ji20, ji24, ji31, ji32, ji39, ji45, ji48, ji57, ji58, ji59, ji60, ji97, ji100, ji119, ji120, ji122, ji144, ji200, ji226, ji240, ji255, ji300, ji366, ji400, ji500, ji1000, jI_z, ↓jI_m1, jI_add, jI_sub, jI_mul, ↓jm1000, ↓jm100, ↓jm10, ↓jm9, ji50, ji65280, ji1664525, ji252645135, ji858993459, ji1013904223, ji1431655765, ji2147483639, ji2147483647, jI_lt, g, if_false]
  | succ d ih =>
    intro k f M hk hf hz
    obtain ⟨f, rfl⟩ : ∃ g, f = g + 1 := ⟨f - 1, by omega⟩
    have g : (k : Int) < 400 := by omega
    have ek : (k : Int) + 1 = ((k + 1 : Nat) : Int) := by omega
    obtain ⟨M', r1, r2, r3, r4, r5⟩ := ih (k + 1) f (sA M (r + 7) k 0) (by omega) (by omega) (fun j hj => by
      rw [gA_sA]; split
      · rfl
      · exact hz j (by omega))
    refine ⟨M', ?_, r2, fun k => r3 k, fun b j => r4 b j, fun b j hb => by rw [r5 b j hb, gA_ne (by omega)]⟩
    unfold m_X8_go_l54
    simp (disch := omega) only [ji1, ji2, ji3, ji4, ji5, ji6, ji7, ji8, ji9, ji10, ji11, ji12, ji13, ji14, ji15, ji16, ji19, ji20, ji24, ji31, ji32, ji39, ji45, ji48, ji57, ji58, ji59, ji60, ji97, ji100, ji119, ji120, ji122, ji144, ji200, ji226, ji240, ji255, ji300, ji366, ji400, ji500, ji1000, jI_z, ↓jI_m1, jI_add, jI_sub, jI_mul, ↓jm1000, ↓jm100, ↓jm10, ↓jm9, ji50, ji65280, ji1664525, ji252645135, ji858993459, ji1013904223, ji1431655765, ji2147483639, ji2147483647, jI_lt, g, if_true, ↓Rg0 hr, Rw0 hr, ↓Rg1 hr, ↓Rg2 hr, ↓Rg3 hr, ↓Rg4 hr, ↓Rg5 hr, ↓Rg6 hr, ↓Rg7 hr, ↓Rg8 hr, ↓Rg9 hr, Rw9 hr, ↓Rg10 hr, Rw10 hr, ↓Rg11 hr, Rw11 hr, ↓Rg12 hr, Rw12 hr, ↓Rg13 hr, Rw13 hr, ↓Rg14 hr, Rw14 hr, ↓Rg15 hr, Rw15 hr, ↓Rg16 hr, Rw16 hr, ↓Rg17 hr, Rw17 hr, ↓Rv hr, Ra1 hr, Ru1 hr, Ra2 hr, Ru2 hr, Ra3 hr, Ru3 hr, Ra4 hr, Ru4 hr, Ra5 hr, Ru5 hr, Ra6 hr, Ru6 hr, Ra7 hr, Ru7 hr, Ra8 hr, Ru8 hr, nar_z0, Int.toNat_natCast, ek]
    exact r1
theorem X8_go {z r p : Nat} {M : hM} {c : hCf} (hr : isR S r) (hq : isP S p) (hd : p + 5 ≤ r ∨ r + 9 ≤ p) (hc : okC c) (hP : PL M p c) :
    ∃ M', m_X8_go (hp S z M) (z + r) (z + p) = some (z + r, hp S z M') ∧ WR M' r p c (zR c).1 (zR c).2 ∧ zQ c (zR c).2 ∧ Fr r (r + 9) M M' ∧ Vr M M' := by
  have hcs := hc.s
  generalize hM0 : sI (sI (sI (sI (sI (sI (sI (sI (sI (sI M r 0 p) r 9 0) r 10 0) r 11 0) r 12 (-1)) r 13 0) r 14 0) r 15 (-1000)) r 16 0) r 17 1 = M0
  have f0 : Fr r (r + 9) M M0 := by rw [← hM0]; exact (((((((((Fr.sI (by omega)).trans (Fr.sI (by omega))).trans (Fr.sI (by omega))).trans (Fr.sI (by omega))).trans (Fr.sI (by omega))).trans (Fr.sI (by omega))).trans (Fr.sI (by omega))).trans (Fr.sI (by omega))).trans (Fr.sI (by omega))).trans (Fr.sI (by omega))
  have v0 : Vr M M0 := by rw [← hM0]; exact fun _ => rfl
  obtain ⟨M1, a1, a2, a3, a4, a5⟩ := X8_l54 (z := z) hr 400 0 hN_f M0 (by omega) (by unfold hN_f; omega) (fun j hj => by omega)
  obtain ⟨M2, b1, b2, b3, b4, b5⟩ := X8_l76 (z := z) hr 144 0 hN_f M1 (by omega) (by unfold hN_f; omega) (fun j hj => by omega)
  have f1 : Fr r (r + 9) M0 M2 := fun b hb => ⟨fun k => by rw [b4, a4], fun k => by rw [b5 _ _ (by omega), a5 _ _ (by omega)]⟩
  have i2 : ∀ k, gI M2 r k = gI M0 r k := fun k => by rw [b4, a4]
  have w : WR M2 r p c 0 z0 := by
    refine ⟨?_, (hP.keep f0 (by omega)).keep f1 (by omega), ?_, ⟨?_, fun k x hk => by simp at hk, fun k hk => ?_⟩, ⟨?_, fun k x hk => by simp at hk, ?_⟩, fun s t h1 h2 => ?_, ?_, ?_, ⟨fun _ => ⟨?_, fun x => absurd rfl x⟩, fun _ x => absurd x (by omega)⟩, ?_⟩
    · rw [i2, ← hM0]; simp [gI_sI]
    · rw [i2, ← hM0]; simp [gI_sI]
    · rw [i2, ← hM0]; simp [gI_sI]
    · rw [b5 _ _ (by omega), a2 k hk]; rfl
    · rw [i2, ← hM0]; simp [gI_sI]
    · rw [i2, ← hM0]; simp [gI_sI]
    · rw [b2 _ (by omega), Nat.zero_testBit]; rfl
    · rw [i2, ← hM0]; simp [gI_sI]
    · rw [i2, ← hM0]; simp [gI_sI]
    · rw [i2, ← hM0]; simp [gI_sI]
    · rw [i2, ← hM0]; simp [gI_sI]
  obtain ⟨M', r1, r2, r3, r4, r5⟩ := X8_l98 (z := z) hr hq hd hc (c.1 2).toNat hN_f 0 z0 M2 (by omega) (by omega) (by unfold hN_f; omega) (zJ_0 hc) ⟨by simp, by simp, by omega⟩ w
  refine ⟨M', ?_, r2, r3, (f0.trans f1).trans r4, ((v0.trans a3).trans b3).trans r5⟩
  unfold m_X8_go
  simp (disch := omega) only [ji1, ji2, ji3, ji4, ji5, ji6, ji7, ji8, ji9, ji10, ji11, ji12, ji13, ji14, ji15, ji16, ji19, ji20, ji24, ji31, ji32, ji39, ji45, ji48, ji57, ji58, ji59, ji60, ji97, ji100, ji119, ji120, ji122, ji144, ji200, ji226, ji240, ji255, ji300, ji366, ji400, ji500, ji1000, jI_z, ↓jI_m1, jI_add, jI_sub, jI_mul, ↓jm1000, ↓jm100, ↓jm10, ↓jm9, ji50, ji65280, ji1664525, ji252645135, ji858993459, ji1013904223, ji1431655765, ji2147483639, ji2147483647, ↓Rg0 hr, Rw0 hr, ↓Rg1 hr, ↓Rg2 hr, ↓Rg3 hr, ↓Rg4 hr, ↓Rg5 hr, ↓Rg6 hr, ↓Rg7 hr, ↓Rg8 hr, ↓Rg9 hr, Rw9 hr, ↓Rg10 hr, Rw10 hr, ↓Rg11 hr, Rw11 hr, ↓Rg12 hr, Rw12 hr, ↓Rg13 hr, Rw13 hr, ↓Rg14 hr, Rw14 hr, ↓Rg15 hr, Rw15 hr, ↓Rg16 hr, Rw16 hr, ↓Rg17 hr, Rw17 hr, ↓Rv hr, Ra1 hr, Ru1 hr, Ra2 hr, Ru2 hr, Ra3 hr, Ru3 hr, Ra4 hr, Ru4 hr, Ra5 hr, Ru5 hr, Ra6 hr, Ru6 hr, Ra7 hr, Ru7 hr, Ra8 hr, Ru8 hr, ↓mo_ns_r, ↓hn0, ↓mo_cs_s, ↓mo_xs_r, ↓mo_xs_l, ↓mo_nl_s, mo_z_0, mo_z_1, hM0]
  rw [show jI 0 = jI ((0 : Nat) : Int) from rfl, a1, show jI 0 = jI ((0 : Nat) : Int) from rfl, b1]
  exact r1

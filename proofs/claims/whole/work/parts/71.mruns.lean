/-! .. whole runs of the model. -/
def qu1 (t : Int) (x : hT) : Bool := decide (x.2.2.2.1 ≤ t) && decide (x.2.2.2.2 ≤ t)
theorem X7_q_l {z a : Nat} {M : hM} {c : hCf} {s : hS} {t : Int} (hc : okC c) (ht : 0 ≤ t ∧ t < 200) (hz : zI c t s) (h : MR M c a t s) : ∀ (l : List hT) (i f : Nat) (v : Bool), s.1.drop i = l → l.length < f → i ≤ s.1.length →
    m_X7_isQuiet_l21 (z + 133) f (hp z M) (jI (b2i v)) (jI i) = some (jI (b2i (v && l.all (qu1 t))), hp z M) := by
  obtain ⟨hV, hR, h26, hL, hD, hS, hB, hN, hJ, hK⟩ := MR_get h
  have hT120 : s.1.length ≤ 120 := by obtain ⟨T, O, W, B, N, J, K, C⟩ := s; exact hz.1
  have hok : ∀ x ∈ s.1, okT c t x := by obtain ⟨T, O, W, B, N, J, K, C⟩ := s; exact hz.2.1
  have b1 : b2i true = 1 := rfl
  have b0 : b2i false = 0 := rfl
  intro l
  induction l with
  | nil =>
    intro i f v hl hf hi
    obtain ⟨f, rfl⟩ : ∃ k, f = k + 1 := ⟨f - 1, by simp at hf; omega⟩
    have hi' : s.1.length ≤ i := by simpa using hl
    have hlt : ¬ (i : Int) < s.1.length := by omega
    unfold m_X7_isQuiet_l21
    simp (disch := omega) only [ji1, ji2, ji3, ji4, ji5, ji6, ji7, ji8, ji9, ji10, ji11, ji12, ji13, ji14, ji15, ji16, ji19, ji20, ji39, ji119, ji144, ji366, ji24, ji31, ji32, ji45, ji48, ji57, ji58, ji59, ji97, ji120, ji122, ji183, ji200, ji226, ji240, ji255, ji500, jI_z, ↓jI_m1, jI_add, jI_sub, jI_mul, ↓hg133_0, hw133_0, ↓hg133_1, ↓hg133_2, ↓hg133_3, hw133_3, ↓hg133_4, hw133_4, ↓hg133_5, hw133_5, ↓hg133_6, hw133_6, ↓hg133_7, hw133_7, ↓hg133_8, hw133_8, ↓hg133_9, hw133_9, ↓hg133_10, hw133_10, ↓hg133_11, hw133_11, ↓hg133_12, hw133_12, ↓hg133_13, ↓hg133_14, hw133_14, ↓hg133_15, ↓hg133_16, ↓hg133_17, ↓hg133_18, ↓hg133_19, ↓hg133_20, ↓hg133_21, hw133_21, ↓hg133_22, ↓hg133_23, hw133_23, ↓hg133_24, hw133_24, ↓hg133_25, hw133_25, ↓hg133_26, hw133_26, ↓hg133_27, hw133_27, ↓hg133_28, ↓hg133_29, hw133_29, ↓hg133_30, hw133_30, ↓hg133_31, hw133_31, ↓hg133_32, hw133_32, ↓hg133_33, hw133_33, ↓hg133_34, hw133_34, ↓hg133_35, hw133_35, ↓hg133_36, hw133_36, ↓hg133_37, ↓hg133_38, ↓hg133_39, ↓hv133, ↓hx133, ha134, hu134, ↓hl134, ha135, hu135, ↓hl135, ha136, hu136, ↓hl136, ha137, hu137, ↓hl137, ha138, hu138, ↓hl138, ha139, hu139, ↓hl139, ha140, hu140, ↓hl140, ha141, hu141, ↓hl141, ha142, hu142, ↓hl142, ha143, hu143, ↓hl143, ha144, hu144, ↓hl144, ha145, hu145, ↓hl145, ha146, hu146, ↓hl146, ha147, hu147, ↓hl147, jI_lt, hL.1, hlt, if_false, List.all_nil, Bool.and_true]
    cases v
    · rw [b0]; exact mo_z_0
    · rw [b1]; exact mo_z_1
  | cons x l ih =>
    intro i f v hl hf hi
    obtain ⟨f, rfl⟩ : ∃ k, f = k + 1 := ⟨f - 1, by simp at hf; omega⟩
    have hx : s.1[i]? = some x := by
      have := congrArg (fun l => l[0]?) hl
      simpa using this
    have hi' : i < s.1.length := (List.getElem?_eq_some_iff.mp hx).1
    have hdr : s.1.drop (i + 1) = l := by
      have := congrArg List.tail hl
      simpa using this
    have IH := fun v => ih (i + 1) f v hdr (by simp at hf; omega) (by omega)
    have ec : ((i + 1 : Nat) : Int) = (i : Int) + 1 := by omega
    rw [ec] at IH
    have IH0 := IH false
    have IH1 := IH true
    rw [b0] at IH0
    rw [b1] at IH1
    obtain ⟨o1, o2, o3, o4, o5, o6⟩ := hok x (List.mem_of_getElem? hx)
    obtain ⟨e1, e2, e3, e4, e5⟩ := hL.2 i x hx
    have hlt : (i : Int) < s.1.length := by omega
    unfold m_X7_isQuiet_l21
    simp (disch := omega) only [ji1, ji2, ji3, ji4, ji5, ji6, ji7, ji8, ji9, ji10, ji11, ji12, ji13, ji14, ji15, ji16, ji19, ji20, ji39, ji119, ji144, ji366, ji24, ji31, ji32, ji45, ji48, ji57, ji58, ji59, ji97, ji120, ji122, ji183, ji200, ji226, ji240, ji255, ji500, jI_z, ↓jI_m1, jI_add, jI_sub, jI_mul, ↓hg133_0, hw133_0, ↓hg133_1, ↓hg133_2, ↓hg133_3, hw133_3, ↓hg133_4, hw133_4, ↓hg133_5, hw133_5, ↓hg133_6, hw133_6, ↓hg133_7, hw133_7, ↓hg133_8, hw133_8, ↓hg133_9, hw133_9, ↓hg133_10, hw133_10, ↓hg133_11, hw133_11, ↓hg133_12, hw133_12, ↓hg133_13, ↓hg133_14, hw133_14, ↓hg133_15, ↓hg133_16, ↓hg133_17, ↓hg133_18, ↓hg133_19, ↓hg133_20, ↓hg133_21, hw133_21, ↓hg133_22, ↓hg133_23, hw133_23, ↓hg133_24, hw133_24, ↓hg133_25, hw133_25, ↓hg133_26, hw133_26, ↓hg133_27, hw133_27, ↓hg133_28, ↓hg133_29, hw133_29, ↓hg133_30, hw133_30, ↓hg133_31, hw133_31, ↓hg133_32, hw133_32, ↓hg133_33, hw133_33, ↓hg133_34, hw133_34, ↓hg133_35, hw133_35, ↓hg133_36, hw133_36, ↓hg133_37, ↓hg133_38, ↓hg133_39, ↓hv133, ↓hx133, ha134, hu134, ↓hl134, ha135, hu135, ↓hl135, ha136, hu136, ↓hl136, ha137, hu137, ↓hl137, ha138, hu138, ↓hl138, ha139, hu139, ↓hl139, ha140, hu140, ↓hl140, ha141, hu141, ↓hl141, ha142, hu142, ↓hl142, ha143, hu143, ↓hl143, ha144, hu144, ↓hl144, ha145, hu145, ↓hl145, ha146, hu146, ↓hl146, ha147, hu147, ↓hl147, jI_lt, hL.1, hlt, if_true, Int.toNat_natCast, e4, e5, h26, List.all_cons]
    cases v
    · rw [b0, if_pos rfl, IH0]; simp
    · rw [b1, if_neg (by decide)]
      by_cases g1 : t < x.2.2.2.1
      · rw [if_pos g1, IH0]
        have : qu1 t x = false := by unfold qu1; simp; omega
        rw [this]; simp
      · rw [if_neg g1]
        by_cases g2 : t < x.2.2.2.2
        · rw [if_pos g2, IH0]
          have : qu1 t x = false := by unfold qu1; simp; omega
          rw [this]; simp
        · rw [if_neg g2, IH1]
          have : qu1 t x = true := by unfold qu1; simp; omega
          rw [this]; simp
theorem X7_q {z a : Nat} {M : hM} {c : hCf} {s : hS} {t : Int} (ha : isR a) (hc : okC c) (ht : 0 ≤ t ∧ t < 200) (hz : zI c t s) (h : MR M c a t s) : m_X7_isQuiet (hp z M) (z + 133) = some (jI (b2i (zOver c t s)), hp z M) := by
  have hcs := hc.s
  obtain ⟨hV, hR, h26, hL, hD, hS, hB, hN, hJ, hK⟩ := MR_get h
  obtain ⟨y1, y2, y3⟩ := zI_get hz
  have r1 : gA M a (1 : Int).toNat = c.1 1 := hR.1 1 (by omega)
  have h120 : s.1.length ≤ 120 := by obtain ⟨T, O, W, B, N, J, K, C⟩ := s; exact hz.1
  have k := fun v => X7_q_l (z := z) hc ht hz h s.1 0 hN_f v (by simp) (by unfold hN_f; omega) (by omega)
  unfold m_X7_isQuiet
  simp (disch := omega) only [ji1, ji2, ji3, ji4, ji5, ji6, ji7, ji8, ji9, ji10, ji11, ji12, ji13, ji14, ji15, ji16, ji19, ji20, ji39, ji119, ji144, ji366, ji24, ji31, ji32, ji45, ji48, ji57, ji58, ji59, ji97, ji120, ji122, ji183, ji200, ji226, ji240, ji255, ji500, jI_z, ↓jI_m1, jI_add, jI_sub, jI_mul, ↓hg133_0, hw133_0, ↓hg133_1, ↓hg133_2, ↓hg133_3, hw133_3, ↓hg133_4, hw133_4, ↓hg133_5, hw133_5, ↓hg133_6, hw133_6, ↓hg133_7, hw133_7, ↓hg133_8, hw133_8, ↓hg133_9, hw133_9, ↓hg133_10, hw133_10, ↓hg133_11, hw133_11, ↓hg133_12, hw133_12, ↓hg133_13, ↓hg133_14, hw133_14, ↓hg133_15, ↓hg133_16, ↓hg133_17, ↓hg133_18, ↓hg133_19, ↓hg133_20, ↓hg133_21, hw133_21, ↓hg133_22, ↓hg133_23, hw133_23, ↓hg133_24, hw133_24, ↓hg133_25, hw133_25, ↓hg133_26, hw133_26, ↓hg133_27, hw133_27, ↓hg133_28, ↓hg133_29, hw133_29, ↓hg133_30, hw133_30, ↓hg133_31, hw133_31, ↓hg133_32, hw133_32, ↓hg133_33, hw133_33, ↓hg133_34, hw133_34, ↓hg133_35, hw133_35, ↓hg133_36, hw133_36, ↓hg133_37, ↓hg133_38, ↓hg133_39, ↓hv133, ↓hx133, ha134, hu134, ↓hl134, ha135, hu135, ↓hl135, ha136, hu136, ↓hl136, ha137, hu137, ↓hl137, ha138, hu138, ↓hl138, ha139, hu139, ↓hl139, ha140, hu140, ↓hl140, ha141, hu141, ↓hl141, ha142, hu142, ↓hl142, ha143, hu143, ↓hl143, ha144, hu144, ↓hl144, ha145, hu145, ↓hl145, ha146, hu146, ↓hl146, ha147, hu147, ↓hl147, hV, Ra ha, r1, jI_eq, hB]
  unfold zOver
  by_cases g : s.2.2.2.1 = c.1 1
  · rw [if_pos g]
    have := k true
    rw [show b2i true = 1 from rfl, Int.natCast_zero] at this
    rw [this]
    simp only [g, decide_true, Bool.true_and]
    rfl
  · rw [if_neg g]
    have := k false
    rw [show b2i false = 0 from rfl, Int.natCast_zero] at this
    rw [this]
    simp only [g, decide_false, Bool.false_and]
theorem X7_arr {z a : Nat} {c : hCf} {t : Int} {K : ac_H → Option (Unit × ac_H)} {a1 many : Nat} (ha : isR a) (hc : okC c) (ht : 0 ≤ t ∧ t < 200) : ∀ (n k : Nat) (s : hS) (M : hM) (f : Nat), k + n = many → many ≤ s.1.length → zJ c t k s → MR M c a t s → n < f →
    ∃ M', m_X7_runs_l101 K (z + 133) a1 f (hp z M) (jI many) (jI k) = m_X7_runs_l101 K (z + 133) a1 1 (hp z M') (jI many) (jI many) ∧ MR M' c a t (zArr c t n k s) ∧ FrM M M' ∧ Vr M M' := by
  intro n
  induction n with
  | zero =>
    intro k s M f hk hm hz h hf
    obtain ⟨f, rfl⟩ : ∃ k, f = k + 1 := ⟨f - 1, by omega⟩
    have : k = many := by omega
    subst this
    have h120 : s.1.length ≤ 120 := by obtain ⟨T, O, W, B, N, J, K, C⟩ := s; exact hz.1.1
    refine ⟨M, ?_, h, FrM.rfl', Vr.rfl'⟩
    have hne : ¬ jI (k : Int) < jI (k : Int) := by rw [jI_lt (by omega) (by omega) (by omega) (by omega)]; omega
    conv => lhs; unfold m_X7_runs_l101
    conv => rhs; unfold m_X7_runs_l101
    rw [if_neg hne, if_neg hne]
  | succ n ih =>
    intro k s M f hk hm hz h hf
    obtain ⟨f, rfl⟩ : ∃ k, f = k + 1 := ⟨f - 1, by omega⟩
    have h120 : s.1.length ≤ 120 := by obtain ⟨T, O, W, B, N, J, K, C⟩ := s; exact hz.1.1
    have hx : s.1[k]? = some s.1[k] := List.getElem?_eq_getElem (by omega)
    generalize s.1[k] = x at hx
    obtain ⟨hV, hR, h26, hL, hD, hS, hB, hN, hJ, hK⟩ := MR_get h
    obtain ⟨e1, e2, e3, e4, e5⟩ := hL.2 k x hx
    have ho : okT c t x := by obtain ⟨T, O, W, B, N, J, K, C⟩ := s; exact hz.1.2.1 x (List.mem_of_getElem? hx)
    obtain ⟨o1, o2, o3, o4, o5, o6⟩ := ho
    have hlt : (k : Int) < many := by omega
    have ec : ((k + 1 : Nat) : Int) = (k : Int) + 1 := by omega
    simp only [zArr]
    have pre : ∀ r, (if x.2.2.2.1 = t then (mo_cs (m_X7_handles (hp z M) (z + 133) (jI k)) fun _ σ32 => m_X7_runs_l101 K (z + 133) a1 f σ32 (jI many) (jI ((k : Int) + 1))) else if x.2.2.2.2 = t then (mo_cs (m_X7_handles (hp z M) (z + 133) (jI k)) fun _ σ32 => m_X7_runs_l101 K (z + 133) a1 f σ32 (jI many) (jI ((k : Int) + 1))) else m_X7_runs_l101 K (z + 133) a1 f (hp z M) (jI many) (jI ((k : Int) + 1))) = r → m_X7_runs_l101 K (z + 133) a1 (f + 1) (hp z M) (jI many) (jI k) = r := by
      intro r hr
      rw [← hr]
      conv => lhs; unfold m_X7_runs_l101
      simp (disch := omega) only [ji1, ji2, ji3, ji4, ji5, ji6, ji7, ji8, ji9, ji10, ji11, ji12, ji13, ji14, ji15, ji16, ji19, ji20, ji39, ji119, ji144, ji366, ji24, ji31, ji32, ji45, ji48, ji57, ji58, ji59, ji97, ji120, ji122, ji183, ji200, ji226, ji240, ji255, ji500, jI_z, ↓jI_m1, jI_add, jI_sub, jI_mul, ↓hg133_0, hw133_0, ↓hg133_1, ↓hg133_2, ↓hg133_3, hw133_3, ↓hg133_4, hw133_4, ↓hg133_5, hw133_5, ↓hg133_6, hw133_6, ↓hg133_7, hw133_7, ↓hg133_8, hw133_8, ↓hg133_9, hw133_9, ↓hg133_10, hw133_10, ↓hg133_11, hw133_11, ↓hg133_12, hw133_12, ↓hg133_13, ↓hg133_14, hw133_14, ↓hg133_15, ↓hg133_16, ↓hg133_17, ↓hg133_18, ↓hg133_19, ↓hg133_20, ↓hg133_21, hw133_21, ↓hg133_22, ↓hg133_23, hw133_23, ↓hg133_24, hw133_24, ↓hg133_25, hw133_25, ↓hg133_26, hw133_26, ↓hg133_27, hw133_27, ↓hg133_28, ↓hg133_29, hw133_29, ↓hg133_30, hw133_30, ↓hg133_31, hw133_31, ↓hg133_32, hw133_32, ↓hg133_33, hw133_33, ↓hg133_34, hw133_34, ↓hg133_35, hw133_35, ↓hg133_36, hw133_36, ↓hg133_37, ↓hg133_38, ↓hg133_39, ↓hv133, ↓hx133, ha134, hu134, ↓hl134, ha135, hu135, ↓hl135, ha136, hu136, ↓hl136, ha137, hu137, ↓hl137, ha138, hu138, ↓hl138, ha139, hu139, ↓hl139, ha140, hu140, ↓hl140, ha141, hu141, ↓hl141, ha142, hu142, ↓hl142, ha143, hu143, ↓hl143, ha144, hu144, ↓hl144, ha145, hu145, ↓hl145, ha146, hu146, ↓hl146, ha147, hu147, ↓hl147, jI_lt, hlt, if_true, Int.toNat_natCast, e4, e5, h26, jI_eq]
    by_cases hy : zIs t k s.1 = true
    · rw [if_pos hy]
      obtain ⟨M1, r1, r2, r3, r4⟩ := X7_hand (z := z) ha hc ht hz hx hy h
      obtain ⟨g1, g2⟩ := zJ_hand hc hz ht.1 hx hy
      obtain ⟨M', q1, q2, q3, q4⟩ := ih (k + 1) (zHand c t k s) M1 f (by omega) (by obtain ⟨ex, e, _⟩ := g2; rw [e]; simp only [List.length_append]; omega) g1 r2 (by omega)
      rw [ec] at q1
      refine ⟨M', pre _ ?_, q2, r3.trans q3, r4.trans q4⟩
      rw [zIs_some hx] at hy
      simp only [decide_eq_true_eq] at hy
      rw [r1, mo_cs_s]
      by_cases g : x.2.2.2.1 = t
      · rw [if_pos g]; exact q1
      · rw [if_neg g, if_pos (by omega)]; exact q1
    · rw [if_neg hy]
      obtain ⟨M', q1, q2, q3, q4⟩ := ih (k + 1) s M f (by omega) hm (zJ_skip hz hx hy) h (by omega)
      rw [ec] at q1
      refine ⟨M', pre _ ?_, q2, q3, q4⟩
      rw [zIs_some hx] at hy
      simp only [decide_eq_true_eq, not_or] at hy
      rw [if_neg hy.1, if_neg hy.2]; exact q1
theorem X7_tick {z a a1 : Nat} {M : hM} {c : hCf} {s : hS} {t : Int} {K : ac_H → Option (Unit × ac_H)} (ha : isR a) (hc : okC c) (ht : 0 ≤ t ∧ t < 200) (hz : zJ c t 0 s) (h : MR M c a t s) :
    ∃ M', m_X7_runs_l101 K (z + 133) a1 hN_f (hp z M) (jI (s.1.length : Nat)) (jI 0) = K (hp z M') ∧ MR M' c a (t + 1) (zTick c t s) ∧ gI M' 133 27 = b2i (zOver c t (zTick c t s)) ∧ FrM M M' ∧ Vr M M' := by
  have hcs := hc.s
  have h120 : s.1.length ≤ 120 := by obtain ⟨T, O, W, B, N, J, K, C⟩ := s; exact hz.1.1
  obtain ⟨M1, r1, r2, r3, r4⟩ := X7_arr (z := z) (K := K) (a1 := a1) (many := s.1.length) ha hc ht s.1.length 0 s M hN_f (by omega) (by omega) hz h (by unfold hN_f; omega)
  obtain ⟨g1, g2⟩ := zJ_arr hc ht.1 s.1.length 0 s hz (by omega)
  rw [Nat.zero_add] at g1
  obtain ⟨M2, s1, s2, s3, s4⟩ := X7_turn (z := z) ha hc ht g1.1 r2
  obtain ⟨k1, k2⟩ := zJ_turn hc g1 ht.1
  have hnl := hnd_le (t := t) (j := s.1.length) (T := (zTurn c t (zArr c t s.1.length 0 s)).1)
  have hzS := k1.1.st hc
  unfold zTick
  generalize zTurn c t (zArr c t s.1.length 0 s) = q at s2 k1 hnl hzS
  obtain ⟨T, O, W, B, N, J, K', C⟩ := q
  obtain ⟨b1, b2, b3, b4, b5, b6, b7, b8, b9, b10⟩ := s2
  obtain ⟨z1, z2, z3, z4, z5, z6, z7, z8, z9⟩ := k1.1
  have hO := k1.2
  simp only at hO hnl
  generalize hM3 : sA M2 144 (16 * B.toNat + min 15 O.length) 1 = M3
  have hF3 : FrM M2 M3 := by rw [← hM3]; exact FrM.sA (by omega)
  have hV3 : Vr M2 M3 := by rw [← hM3]; exact fun _ => rfl
  have e3 : ∀ k, gI M3 133 k = gI M2 133 k := fun k => by rw [← hM3]; rfl
  have eA3 : ∀ b k, b ≠ 144 → gA M3 b k = gA M2 b k := fun b k hb => by rw [← hM3, gA_sA, if_neg (by omega)]
  have hMR3 : MR M3 c a t (zSt (T, O, W, B, N, J, K', C)) := by
    refine ⟨by rw [hV3, b1], hF3.row ha b2, by rw [e3, b3], ⟨by rw [e3, b4.1], fun k x hk => by rw [eA3 138 k (by omega), eA3 139 k (by omega), eA3 140 k (by omega), eA3 141 k (by omega), eA3 142 k (by omega)]; exact b4.2 k x hk⟩, ⟨by rw [e3, b5.1], fun k x hk => by rw [eA3 143 k (by omega)]; exact b5.2.1 k x hk, by rw [e3, b5.2.2.1], by rw [e3, b5.2.2.2]⟩, fun s' t' hs' ht' => ?_, by rw [e3, b7], by rw [e3, b8], by rw [e3, b9], by rw [e3, b10]⟩
    rw [← hM3, gA_sA]
    by_cases gs : s' = B.toNat
    · simp only [gs, if_true]
      by_cases gt : t' = min 15 O.length
      · rw [if_pos ⟨trivial, by omega⟩, gt, Nat.testBit_or, Nat.testBit_two_pow_self]; simp
      · rw [if_neg (by omega), Nat.testBit_or, Nat.testBit_two_pow_of_ne (by omega), Bool.or_false]
        have := b6 B.toNat t' (by omega) ht'
        exact this
    · simp only [gs, if_false]
      rw [if_neg (by omega)]; exact b6 s' t' hs' ht'
  have hqq := X7_q (z := z) ha hc ht hzS hMR3
  generalize hM4 : sI (sI M3 133 27 (b2i (zOver c t (zSt (T, O, W, B, N, J, K', C))))) 133 26 (t + 1) = M4
  refine ⟨M4, ?_, ?_, by rw [← hM4, gI_sI, if_neg (by omega), gI_sI, if_pos ⟨rfl, rfl⟩], ?_, ?_⟩
  · rw [Int.natCast_zero] at r1
    rw [r1]
    have hne : ¬ jI (s.1.length : Int) < jI (s.1.length : Int) := by rw [jI_lt (by omega) (by omega) (by omega) (by omega)]; omega
    have n1 : vp_nar .boolean (jI 1) = jI 1 := by decide
    have hbz : ∀ {α : Type} (X : Option α) (v : Bool), mo_z (jI (b2i v)) X = X := fun X v => by
      cases v
      · exact mo_z_0
      · exact mo_z_1
    have j176 : ∀ (o : Int), o = ((min 15 O.length : Nat) : Int) → m_X7_runs_j176 K (z + 133) a1 (hp z M2) (jI o) (jI (16 * B)) (z + 144) = K (hp z M4) := by
      intro o ho
      unfold m_X7_runs_j176
      rw [ho]
      simp (disch := omega) only [ji1, ji2, ji3, ji4, ji5, ji6, ji7, ji8, ji9, ji10, ji11, ji12, ji13, ji14, ji15, ji16, ji19, ji20, ji39, ji119, ji144, ji366, ji24, ji31, ji32, ji45, ji48, ji57, ji58, ji59, ji97, ji120, ji122, ji183, ji200, ji226, ji240, ji255, ji500, jI_z, ↓jI_m1, jI_add, jI_sub, jI_mul, n1, ↓hg133_0, hw133_0, ↓hg133_1, ↓hg133_2, ↓hg133_3, hw133_3, ↓hg133_4, hw133_4, ↓hg133_5, hw133_5, ↓hg133_6, hw133_6, ↓hg133_7, hw133_7, ↓hg133_8, hw133_8, ↓hg133_9, hw133_9, ↓hg133_10, hw133_10, ↓hg133_11, hw133_11, ↓hg133_12, hw133_12, ↓hg133_13, ↓hg133_14, hw133_14, ↓hg133_15, ↓hg133_16, ↓hg133_17, ↓hg133_18, ↓hg133_19, ↓hg133_20, ↓hg133_21, hw133_21, ↓hg133_22, ↓hg133_23, hw133_23, ↓hg133_24, hw133_24, ↓hg133_25, hw133_25, ↓hg133_26, hw133_26, ↓hg133_27, hw133_27, ↓hg133_28, ↓hg133_29, hw133_29, ↓hg133_30, hw133_30, ↓hg133_31, hw133_31, ↓hg133_32, hw133_32, ↓hg133_33, hw133_33, ↓hg133_34, hw133_34, ↓hg133_35, hw133_35, ↓hg133_36, hw133_36, ↓hg133_37, ↓hg133_38, ↓hg133_39, ↓hv133, ↓hx133, ha134, hu134, ↓hl134, ha135, hu135, ↓hl135, ha136, hu136, ↓hl136, ha137, hu137, ↓hl137, ha138, hu138, ↓hl138, ha139, hu139, ↓hl139, ha140, hu140, ↓hl140, ha141, hu141, ↓hl141, ha142, hu142, ↓hl142, ha143, hu143, ↓hl143, ha144, hu144, ↓hl144, ha145, hu145, ↓hl145, ha146, hu146, ↓hl146, ha147, hu147, ↓hl147]
      rw [show ((16 : Int) * B + ((min 15 O.length : Nat) : Int)).toNat = 16 * B.toNat + min 15 O.length from by omega, hM3, hqq]
      simp (disch := omega) only [↓mo_cs_s, ↓mo_xs_r, ↓mo_xs_l, ↓mo_nl_s, mo_z_0, mo_z_1, hbz, ↓hg133_0, hw133_0, ↓hg133_1, ↓hg133_2, ↓hg133_3, hw133_3, ↓hg133_4, hw133_4, ↓hg133_5, hw133_5, ↓hg133_6, hw133_6, ↓hg133_7, hw133_7, ↓hg133_8, hw133_8, ↓hg133_9, hw133_9, ↓hg133_10, hw133_10, ↓hg133_11, hw133_11, ↓hg133_12, hw133_12, ↓hg133_13, ↓hg133_14, hw133_14, ↓hg133_15, ↓hg133_16, ↓hg133_17, ↓hg133_18, ↓hg133_19, ↓hg133_20, ↓hg133_21, hw133_21, ↓hg133_22, ↓hg133_23, hw133_23, ↓hg133_24, hw133_24, ↓hg133_25, hw133_25, ↓hg133_26, hw133_26, ↓hg133_27, hw133_27, ↓hg133_28, ↓hg133_29, hw133_29, ↓hg133_30, hw133_30, ↓hg133_31, hw133_31, ↓hg133_32, hw133_32, ↓hg133_33, hw133_33, ↓hg133_34, hw133_34, ↓hg133_35, hw133_35, ↓hg133_36, hw133_36, ↓hg133_37, ↓hg133_38, ↓hg133_39, ↓hv133, ↓hx133, ha134, hu134, ↓hl134, ha135, hu135, ↓hl135, ha136, hu136, ↓hl136, ha137, hu137, ↓hl137, ha138, hu138, ↓hl138, ha139, hu139, ↓hl139, ha140, hu140, ↓hl140, ha141, hu141, ↓hl141, ha142, hu142, ↓hl142, ha143, hu143, ↓hl143, ha144, hu144, ↓hl144, ha145, hu145, ↓hl145, ha146, hu146, ↓hl146, ha147, hu147, ↓hl147, gI_sI, and_false, and_true, if_false, show ¬ (26 : Nat) = 27 by decide, e3, b3, ji1, ji2, ji3, ji4, ji5, ji6, ji7, ji8, ji9, ji10, ji11, ji12, ji13, ji14, ji15, ji16, ji19, ji20, ji39, ji119, ji144, ji366, ji24, ji31, ji32, ji45, ji48, ji57, ji58, ji59, ji97, ji120, ji122, ji183, ji200, ji226, ji240, ji255, ji500, jI_z, ↓jI_m1, jI_add, jI_sub, jI_mul, hM4]
    unfold m_X7_runs_l101
    rw [if_neg hne]
    simp (disch := omega) only [↓hg133_0, hw133_0, ↓hg133_1, ↓hg133_2, ↓hg133_3, hw133_3, ↓hg133_4, hw133_4, ↓hg133_5, hw133_5, ↓hg133_6, hw133_6, ↓hg133_7, hw133_7, ↓hg133_8, hw133_8, ↓hg133_9, hw133_9, ↓hg133_10, hw133_10, ↓hg133_11, hw133_11, ↓hg133_12, hw133_12, ↓hg133_13, ↓hg133_14, hw133_14, ↓hg133_15, ↓hg133_16, ↓hg133_17, ↓hg133_18, ↓hg133_19, ↓hg133_20, ↓hg133_21, hw133_21, ↓hg133_22, ↓hg133_23, hw133_23, ↓hg133_24, hw133_24, ↓hg133_25, hw133_25, ↓hg133_26, hw133_26, ↓hg133_27, hw133_27, ↓hg133_28, ↓hg133_29, hw133_29, ↓hg133_30, hw133_30, ↓hg133_31, hw133_31, ↓hg133_32, hw133_32, ↓hg133_33, hw133_33, ↓hg133_34, hw133_34, ↓hg133_35, hw133_35, ↓hg133_36, hw133_36, ↓hg133_37, ↓hg133_38, ↓hg133_39, ↓hv133, ↓hx133, ha134, hu134, ↓hl134, ha135, hu135, ↓hl135, ha136, hu136, ↓hl136, ha137, hu137, ↓hl137, ha138, hu138, ↓hl138, ha139, hu139, ↓hl139, ha140, hu140, ↓hl140, ha141, hu141, ↓hl141, ha142, hu142, ↓hl142, ha143, hu143, ↓hl143, ha144, hu144, ↓hl144, ha145, hu145, ↓hl145, ha146, hu146, ↓hl146, ha147, hu147, ↓hl147]
    rw [s1]
    simp (disch := omega) only [ji1, ji2, ji3, ji4, ji5, ji6, ji7, ji8, ji9, ji10, ji11, ji12, ji13, ji14, ji15, ji16, ji19, ji20, ji39, ji119, ji144, ji366, ji24, ji31, ji32, ji45, ji48, ji57, ji58, ji59, ji97, ji120, ji122, ji183, ji200, ji226, ji240, ji255, ji500, jI_z, ↓jI_m1, jI_add, jI_sub, jI_mul, ↓mo_cs_s, ↓mo_xs_r, ↓mo_xs_l, ↓mo_nl_s, mo_z_0, mo_z_1, ↓hg133_0, hw133_0, ↓hg133_1, ↓hg133_2, ↓hg133_3, hw133_3, ↓hg133_4, hw133_4, ↓hg133_5, hw133_5, ↓hg133_6, hw133_6, ↓hg133_7, hw133_7, ↓hg133_8, hw133_8, ↓hg133_9, hw133_9, ↓hg133_10, hw133_10, ↓hg133_11, hw133_11, ↓hg133_12, hw133_12, ↓hg133_13, ↓hg133_14, hw133_14, ↓hg133_15, ↓hg133_16, ↓hg133_17, ↓hg133_18, ↓hg133_19, ↓hg133_20, ↓hg133_21, hw133_21, ↓hg133_22, ↓hg133_23, hw133_23, ↓hg133_24, hw133_24, ↓hg133_25, hw133_25, ↓hg133_26, hw133_26, ↓hg133_27, hw133_27, ↓hg133_28, ↓hg133_29, hw133_29, ↓hg133_30, hw133_30, ↓hg133_31, hw133_31, ↓hg133_32, hw133_32, ↓hg133_33, hw133_33, ↓hg133_34, hw133_34, ↓hg133_35, hw133_35, ↓hg133_36, hw133_36, ↓hg133_37, ↓hg133_38, ↓hg133_39, ↓hv133, ↓hx133, ha134, hu134, ↓hl134, ha135, hu135, ↓hl135, ha136, hu136, ↓hl136, ha137, hu137, ↓hl137, ha138, hu138, ↓hl138, ha139, hu139, ↓hl139, ha140, hu140, ↓hl140, ha141, hu141, ↓hl141, ha142, hu142, ↓hl142, ha143, hu143, ↓hl143, ha144, hu144, ↓hl144, ha145, hu145, ↓hl145, ha146, hu146, ↓hl146, ha147, hu147, ↓hl147, jI_lt, b5.1, b7]
    by_cases g15 : (15 : Int) < O.length
    · rw [if_pos g15]; exact j176 15 (by omega)
    · rw [if_neg g15]; exact j176 (O.length : Int) (by omega)
  · obtain ⟨c1, c2, c3, c4, c5, c6, c7, c8, c9, c10⟩ := hMR3
    have e4 : ∀ k, k ≠ 26 → k ≠ 27 → gI M4 133 k = gI M3 133 k := fun k h1 h2 => by rw [← hM4, gI_sI, if_neg (by omega), gI_sI, if_neg (by omega)]
    have eA4 : ∀ b k, gA M4 b k = gA M3 b k := fun b k => by rw [← hM4]; rfl
    have eV4 : ∀ k, gV M4 k = gV M3 k := fun k => by rw [← hM4]; rfl
    exact ⟨by rw [eV4, c1], c2.keep (eA4 a), by rw [← hM4, gI_sI, if_pos ⟨rfl, rfl⟩], ⟨by rw [e4 21 (by omega) (by omega)]; exact c4.1, fun k x hk => by rw [eA4, eA4, eA4, eA4, eA4]; exact c4.2 k x hk⟩, ⟨by rw [e4 23 (by omega) (by omega)]; exact c5.1, fun k x hk => by rw [eA4]; exact c5.2.1 k x hk, by rw [e4 24 (by omega) (by omega)]; exact c5.2.2.1, by rw [e4 25 (by omega) (by omega)]; exact c5.2.2.2⟩, fun s' t' h1 h2 => by rw [eA4]; exact c6 s' t' h1 h2, by rw [e4 29 (by omega) (by omega), c7], by rw [e4 30 (by omega) (by omega), c8], by rw [e4 31 (by omega) (by omega), c9], by rw [e4 32 (by omega) (by omega), c10]⟩
  · rw [← hM4]; exact ((r3.trans s3).trans hF3).trans ((FrM.sI (by omega)).trans (FrM.sI (by omega)))
  · rw [← hM4]; exact ((r4.trans s4).trans hV3).trans (fun _ => rfl)

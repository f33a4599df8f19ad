/-! .. a fault comes to its place. -/
theorem X7_c43 {z a j : Nat} {M : hM} {kd nm am : Int} {K : ac_H → Int32 → Option (Int32 × ac_H)} (ha : isR a) (hj : j < 10) : m_X7_comes_l43 K (z + a) (jI kd) (jI nm) (jI am) hN_f (hp z M) (jI (j + 1 : Nat)) (jI 0) = K (hp z (sA (sA (sA M a (9 + 3 * (j + 1)) (gA M a (9 + 3 * j))) a (9 + 3 * (j + 1) + 1) (gA M a (9 + 3 * j + 1))) a (9 + 3 * (j + 1) + 2) (gA M a (9 + 3 * j + 2)))) (jI j) := by
  obtain ⟨n, hn⟩ : ∃ n, hN_f = n + 4 := ⟨99996, rfl⟩
  rw [hn]
  have ej : ((j + 1 : Nat) : Int) - 1 = (j : Int) := by omega
  have ej' : ((j + 1 : Nat) : Int) + -1 = (j : Int) := by omega
  have f0 := fun M => X7_of (z := z) (M := M) (f := j) (p := 0) ha (by omega) (by omega)
  have f1 := fun M => X7_of (z := z) (M := M) (f := j) (p := 1) ha (by omega) (by omega)
  have f2 := fun M => X7_of (z := z) (M := M) (f := j) (p := 2) ha (by omega) (by omega)
  simp only [Int.natCast_zero, show ((1 : Nat) : Int) = 1 from rfl, show ((2 : Nat) : Int) = 2 from rfl, Nat.add_zero] at f0 f1 f2
  have i0 : (9 + 3 * ((j + 1 : Nat) : Int) + 0).toNat = 9 + 3 * (j + 1) := by omega
  have i1 : (9 + 3 * ((j + 1 : Nat) : Int) + 1).toNat = 9 + 3 * (j + 1) + 1 := by omega
  have i2 : (9 + 3 * ((j + 1 : Nat) : Int) + 2).toNat = 9 + 3 * (j + 1) + 2 := by omega
  have n1 : ¬ (9 + 3 * j + 1 = 9 + 3 * (j + 1)) := by omega
  have n2 : ¬ (9 + 3 * j + 2 = 9 + 3 * (j + 1)) := by omega
  have n3 : ¬ (9 + 3 * j + 2 = 9 + 3 * (j + 1) + 1) := by omega
  unfold m_X7_comes_l43
  simp (disch := omega) only [ji1, ji2, ji3, ji4, ji5, ji6, ji7, ji8, ji9, ji10, ji11, ji12, ji13, ji14, ji15, ji16, ji19, ji20, ji39, ji119, ji144, ji366, ji24, ji31, ji32, ji45, ji48, ji57, ji58, ji59, ji97, ji120, ji122, ji183, ji200, ji226, ji240, ji255, ji500, jI_z, ↓jI_m1, jI_add, jI_sub, jI_mul, jI_lt, show (0 : Int) < 3 by omega, if_true, ej, f0, ↓mo_cs_s, ↓mo_xs_r, ↓mo_xs_l, ↓mo_nl_s, mo_z_0, mo_z_1, Ru ha]
  rw [i0]
  unfold m_X7_comes_l43
  simp (disch := omega) only [ji1, ji2, ji3, ji4, ji5, ji6, ji7, ji8, ji9, ji10, ji11, ji12, ji13, ji14, ji15, ji16, ji19, ji20, ji39, ji119, ji144, ji366, ji24, ji31, ji32, ji45, ji48, ji57, ji58, ji59, ji97, ji120, ji122, ji183, ji200, ji226, ji240, ji255, ji500, jI_z, ↓jI_m1, jI_add, jI_sub, jI_mul, jI_lt, Int.zero_add, show (1 : Int) < 3 by omega, if_true, ej, f1, ↓mo_cs_s, ↓mo_xs_r, ↓mo_xs_l, ↓mo_nl_s, mo_z_0, mo_z_1, Ru ha]
  rw [i1]
  unfold m_X7_comes_l43
  simp (disch := omega) only [ji1, ji2, ji3, ji4, ji5, ji6, ji7, ji8, ji9, ji10, ji11, ji12, ji13, ji14, ji15, ji16, ji19, ji20, ji39, ji119, ji144, ji366, ji24, ji31, ji32, ji45, ji48, ji57, ji58, ji59, ji97, ji120, ji122, ji183, ji200, ji226, ji240, ji255, ji500, jI_z, ↓jI_m1, jI_add, jI_sub, jI_mul, jI_lt, show (1 : Int) + 1 = 2 by omega, show (2 : Int) < 3 by omega, if_true, ej, f2, ↓mo_cs_s, ↓mo_xs_r, ↓mo_xs_l, ↓mo_nl_s, mo_z_0, mo_z_1, Ru ha]
  rw [i2]
  unfold m_X7_comes_l43
  simp (disch := omega) only [ji1, ji2, ji3, ji4, ji5, ji6, ji7, ji8, ji9, ji10, ji11, ji12, ji13, ji14, ji15, ji16, ji19, ji20, ji39, ji119, ji144, ji366, ji24, ji31, ji32, ji45, ji48, ji57, ji58, ji59, ji97, ji120, ji122, ji183, ji200, ji226, ji240, ji255, ji500, jI_z, ↓jI_m1, jI_add, jI_sub, jI_mul, jI_lt, show (2 : Int) + 1 = 3 by omega, show ¬ (3 : Int) < 3 by omega, if_false, ej', gA_sA, n1, n2, n3, and_false]
theorem X7_co_l {z a : Nat} {M0 : hM} {c : hCf} {kd nm am : Int} {p : Nat} (ha : isR a) (hc : okC c) (hR : RR (gA M0 a) c) (hlen : c.2.length < 10) (hk : 0 ≤ kd ∧ kd ≤ 2) (hn : 0 ≤ nm ∧ nm < 120) (hpl : p = plc kd nm c.2 0 0) (hno : fnd kd nm c.2 0 = -1) :
    ∀ (d j n : Nat) (M : hM), j = p + d → d < n → j ≤ c.2.length → FrR a M0 M → gA M a 8 = c.2.length →
    (∀ i x, i < j → c.2[i]? = some x → gA M a (9 + 3 * i) = x.1 ∧ gA M a (9 + 3 * i + 1) = x.2.1 ∧ gA M a (9 + 3 * i + 2) = x.2.2) →
    (∀ i x, j ≤ i → c.2[i]? = some x → gA M a (9 + 3 * (i + 1)) = x.1 ∧ gA M a (9 + 3 * (i + 1) + 1) = x.2.1 ∧ gA M a (9 + 3 * (i + 1) + 2) = x.2.2) →
    ∃ M', m_X7_comes_l6 (z + a) (jI kd) (jI nm) (jI am) n (hp z M) (jI j) = some (jI p, hp z M') ∧ RR (gA M' a) (c.1, c.2.insertIdx p (kd, nm, am)) ∧ FrR a M0 M' := by
  have hpls := plc_sp (kd := kd) (nm := nm) c.2 0 0 (Nat.le_refl _)
  rw [← hpl] at hpls
  have hple : p ≤ c.2.length := by have := plc_le (kd := kd) (nm := nm) c.2 0 0 (Nat.le_refl _); omega
  intro d
  induction d with
  | zero =>
    intro j n M hj hn' hjl hF h8 hlo hhi
    obtain ⟨n, rfl⟩ : ∃ k, n = k + 1 := ⟨n - 1, by omega⟩
    have hjp : j = p := by omega
    subst hjp
    have i0 : (9 + 3 * (j : Int)).toNat = 9 + 3 * j := by omega
    have i1 : (9 + 3 * (j : Int) + 1).toNat = 9 + 3 * j + 1 := by omega
    have i2 : (9 + 3 * (j : Int) + 2).toNat = 9 + 3 * j + 2 := by omega
    have n0 : ¬ 8 = 9 + 3 * j := by omega
    have n1 : ¬ 8 = 9 + 3 * j + 1 := by omega
    have n2 : ¬ 8 = 9 + 3 * j + 2 := by omega
    generalize hM' : sA (sA (sA (sA M a (9 + 3 * j) kd) a (9 + 3 * j + 1) nm) a (9 + 3 * j + 2) am) a 8 ((c.2.length : Int) + 1) = M'
    have j83 : m_X7_comes_j83 (z + a) (jI kd) (jI nm) (jI am) (hp z M) (jI j) = some (jI j, hp z M') := by
      have e8 : gA M a (8 : Int).toNat = c.2.length := h8
      unfold m_X7_comes_j83
      simp (disch := omega) only [ji1, ji2, ji3, ji4, ji5, ji6, ji7, ji8, ji9, ji10, ji11, ji12, ji13, ji14, ji15, ji16, ji19, ji20, ji39, ji119, ji144, ji366, ji24, ji31, ji32, ji45, ji48, ji57, ji58, ji59, ji97, ji120, ji122, ji183, ji200, ji226, ji240, ji255, ji500, jI_z, ↓jI_m1, jI_add, jI_sub, jI_mul, Ru ha, Ra ha, i0, i1, i2]
      simp only [gA_sA, show (8 : Int).toNat = 8 from rfl, n0, n1, n2, and_false, if_false, h8, ji1, ji2, ji3, ji4, ji5, ji6, ji7, ji8, ji9, ji10, ji11, ji12, ji13, ji14, ji15, ji16, ji19, ji20, ji39, ji119, ji144, ji366, ji24, ji31, ji32, ji45, ji48, ji57, ji58, ji59, ji97, ji120, ji122, ji183, ji200, ji226, ji240, ji255, ji500, jI_z, ↓jI_m1, jI_add, jI_sub, jI_mul, hM']
    refine ⟨M', ?_, ⟨fun k hk => ?_, ?_, fun i x hx => ?_⟩, ?_⟩
    · unfold m_X7_comes_l6
      by_cases h0 : (0 : Int) < (j : Int)
      · rcases hpls.2 with g | ⟨g, x, g2, g3⟩
        · omega
        · simp only [Nat.sub_zero] at g2
          obtain ⟨e1, e2, e3⟩ := hlo (j - 1) x (by omega) g2
          obtain ⟨o1, o2, o3, o4, o5, o6⟩ := hc.at g2
          have f0 := X7_of (z := z) (M := M) (f := j - 1) (p := 0) ha (by omega) (by omega)
          have f1 := X7_of (z := z) (M := M) (f := j - 1) (p := 1) ha (by omega) (by omega)
          simp only [Int.natCast_zero, show ((1 : Nat) : Int) = 1 from rfl, Nat.add_zero, e1, e2] at f0 f1
          have ej : (j : Int) - 1 = ((j - 1 : Nat) : Int) := by omega
          have hkey : ¬ 3 * nm + kd < 3 * x.2.1 + x.1 := by omega
          simp (disch := omega) only [ji1, ji2, ji3, ji4, ji5, ji6, ji7, ji8, ji9, ji10, ji11, ji12, ji13, ji14, ji15, ji16, ji19, ji20, ji39, ji119, ji144, ji366, ji24, ji31, ji32, ji45, ji48, ji57, ji58, ji59, ji97, ji120, ji122, ji183, ji200, ji226, ji240, ji255, ji500, jI_z, ↓jI_m1, jI_add, jI_sub, jI_mul, jI_lt, h0, if_true, ej, f0, f1, ↓mo_cs_s, ↓mo_xs_r, ↓mo_xs_l, ↓mo_nl_s, mo_z_0, mo_z_1, hkey, if_false]
          exact j83
      · simp (disch := omega) only [ji1, ji2, ji3, ji4, ji5, ji6, ji7, ji8, ji9, ji10, ji11, ji12, ji13, ji14, ji15, ji16, ji19, ji20, ji39, ji119, ji144, ji366, ji24, ji31, ji32, ji45, ji48, ji57, ji58, ji59, ji97, ji120, ji122, ji183, ji200, ji226, ji240, ji255, ji500, jI_z, ↓jI_m1, jI_add, jI_sub, jI_mul, jI_lt, h0, if_false]
        exact j83
    · have : gA M' a k = gA M0 a k := by
        rw [← hM', gA_sA, if_neg (by omega), gA_sA, if_neg (by omega), gA_sA, if_neg (by omega), gA_sA, if_neg (by omega)]
        exact hF.1 a k (by omega)
      rw [this]; exact hR.1 k hk
    · rw [← hM', gA_sA, if_pos ⟨rfl, rfl⟩]
      simp only [List.length_insertIdx]; rw [if_pos (by omega)]; omega
    · simp only [List.getElem?_insertIdx] at hx
      have hr : ∀ k, k ≠ 8 → gA M' a k = if k = 9 + 3 * j + 2 then am else if k = 9 + 3 * j + 1 then nm else if k = 9 + 3 * j then kd else gA M a k := fun k hk => by
        rw [← hM']; simp only [gA_sA, true_and, hk, if_false]
      rw [hr _ (by omega), hr _ (by omega), hr _ (by omega)]
      by_cases h1 : i < j
      · rw [if_pos h1] at hx
        rw [if_neg (by omega), if_neg (by omega), if_neg (by omega), if_neg (by omega), if_neg (by omega), if_neg (by omega), if_neg (by omega), if_neg (by omega), if_neg (by omega)]
        exact hlo i x h1 hx
      · rw [if_neg h1] at hx
        by_cases h2 : i = j
        · subst h2
          rw [if_pos rfl, if_pos (by omega)] at hx
          simp at hx; subst hx
          rw [if_neg (by omega), if_neg (by omega), if_pos rfl, if_neg (by omega), if_pos rfl, if_pos rfl]; exact ⟨rfl, rfl, rfl⟩
        · rw [if_neg h2] at hx
          rw [if_neg (by omega), if_neg (by omega), if_neg (by omega), if_neg (by omega), if_neg (by omega), if_neg (by omega), if_neg (by omega), if_neg (by omega), if_neg (by omega)]
          have := hhi (i - 1) x (by omega) hx
          rwa [show i - 1 + 1 = i from by omega] at this
    · rw [← hM']
      exact hF.trans (((FrR.sA (by omega)).trans (FrR.sA (by omega))).trans ((FrR.sA (by omega)).trans (FrR.sA (by omega))))
  | succ d ih =>
    intro j n M hj hn' hjl hF h8 hlo hhi
    obtain ⟨n, rfl⟩ : ∃ k, n = k + 1 := ⟨n - 1, by omega⟩
    obtain ⟨j, rfl⟩ : ∃ k, j = k + 1 := ⟨j - 1, by omega⟩
    have hx : c.2[j]? = some c.2[j] := List.getElem?_eq_getElem (by omega)
    generalize c.2[j] = x at hx
    obtain ⟨e1, e2, e3⟩ := hlo j x (by omega) hx
    obtain ⟨o1, o2, o3, o4, o5, o6⟩ := hc.at hx
    have hnl := hpls.1 j x hx (by omega)
    have hne := fnd_no c.2 0 hno x (List.mem_of_getElem? hx)
    have hkey : 3 * nm + kd < 3 * x.2.1 + x.1 := by omega
    have h43 := fun K => X7_c43 (z := z) (M := M) (kd := kd) (nm := nm) (am := am) (K := K) (j := j) ha (by omega)
    rw [e1, e2, e3] at h43
    have hr : ∀ k, gA (sA (sA (sA M a (9 + 3 * (j + 1)) x.1) a (9 + 3 * (j + 1) + 1) x.2.1) a (9 + 3 * (j + 1) + 2) x.2.2) a k = if k = 9 + 3 * (j + 1) + 2 then x.2.2 else if k = 9 + 3 * (j + 1) + 1 then x.2.1 else if k = 9 + 3 * (j + 1) then x.1 else gA M a k := fun k => by
      simp only [gA_sA, true_and]
    obtain ⟨M', r1, r2, r3⟩ := ih j n (sA (sA (sA M a (9 + 3 * (j + 1)) x.1) a (9 + 3 * (j + 1) + 1) x.2.1) a (9 + 3 * (j + 1) + 2) x.2.2) (by omega) (by omega) (by omega)
      (hF.trans (((FrR.sA (by omega)).trans (FrR.sA (by omega))).trans (FrR.sA (by omega))))
      (by rw [hr, if_neg (by omega), if_neg (by omega), if_neg (by omega)]; exact h8)
      (fun i y hi hq => by
        rw [hr, hr, hr, if_neg (by omega), if_neg (by omega), if_neg (by omega), if_neg (by omega), if_neg (by omega), if_neg (by omega), if_neg (by omega), if_neg (by omega), if_neg (by omega)]
        exact hlo i y (by omega) hq)
      (fun i y hi hq => by
        rw [hr, hr, hr]
        by_cases hij : i = j
        · subst hij
          rw [hx] at hq; simp only [Option.some.injEq] at hq; subst hq
          rw [if_neg (by omega), if_neg (by omega), if_pos rfl, if_neg (by omega), if_pos rfl, if_pos rfl]; exact ⟨rfl, rfl, rfl⟩
        · rw [if_neg (by omega), if_neg (by omega), if_neg (by omega), if_neg (by omega), if_neg (by omega), if_neg (by omega), if_neg (by omega), if_neg (by omega), if_neg (by omega)]
          exact hhi i y (by omega) hq)
    refine ⟨M', ?_, r2, r3⟩
    have f0 := X7_of (z := z) (M := M) (f := j) (p := 0) ha (by omega) (by omega)
    have f1 := X7_of (z := z) (M := M) (f := j) (p := 1) ha (by omega) (by omega)
    simp only [Int.natCast_zero, show ((1 : Nat) : Int) = 1 from rfl, Nat.add_zero, e1, e2] at f0 f1
    have ej : ((j + 1 : Nat) : Int) - 1 = (j : Int) := by omega
    have h0 : (0 : Int) < ((j + 1 : Nat) : Int) := by omega
    unfold m_X7_comes_l6
    simp (disch := omega) only [ji1, ji2, ji3, ji4, ji5, ji6, ji7, ji8, ji9, ji10, ji11, ji12, ji13, ji14, ji15, ji16, ji19, ji20, ji39, ji119, ji144, ji366, ji24, ji31, ji32, ji45, ji48, ji57, ji58, ji59, ji97, ji120, ji122, ji183, ji200, ji226, ji240, ji255, ji500, jI_z, ↓jI_m1, jI_add, jI_sub, jI_mul, jI_lt, h0, if_true, ej, f0, f1, ↓mo_cs_s, ↓mo_xs_r, ↓mo_xs_l, ↓mo_nl_s, mo_z_0, mo_z_1, hkey]
    rw [h43]; exact r1
theorem X7_co {z a : Nat} {M : hM} {c : hCf} {kd nm am : Int} (ha : isR a) (hc : okC c) (hR : RR (gA M a) c) (hlen : c.2.length < 10) (hk : 0 ≤ kd ∧ kd ≤ 2) (hn : 0 ≤ nm ∧ nm < 120) (hno : fnd kd nm c.2 0 = -1) :
    ∃ M', m_X7_comes (hp z M) (z + a) (jI kd) (jI nm) (jI am) = some (jI (plc kd nm c.2 0 0), hp z M') ∧ RR (gA M' a) (c.1, c.2.insertIdx (plc kd nm c.2 0 0) (kd, nm, am)) ∧ FrR a M M' := by
  have hple := plc_le (kd := kd) (nm := nm) c.2 0 0 (Nat.le_refl _)
  obtain ⟨M', r1, r2, r3⟩ := X7_co_l (z := z) (am := am) ha hc hR hlen hk hn rfl hno (c.2.length - plc kd nm c.2 0 0) c.2.length hN_f M (by omega) (by unfold hN_f; omega) (Nat.le_refl _) FrR.rfl' hR.2.1 (fun i x _ hx => hR.2.2 i x hx) (fun i x hi hx => by have := (List.getElem?_eq_some_iff.mp hx).1; omega)
  refine ⟨M', ?_, r2, r3⟩
  have e8 : gA M a (8 : Int).toNat = c.2.length := hR.2.1
  unfold m_X7_comes
  simp (disch := omega) only [ji1, ji2, ji3, ji4, ji5, ji6, ji7, ji8, ji9, ji10, ji11, ji12, ji13, ji14, ji15, ji16, ji19, ji20, ji39, ji119, ji144, ji366, ji24, ji31, ji32, ji45, ji48, ji57, ji58, ji59, ji97, ji120, ji122, ji183, ji200, ji226, ji240, ji255, ji500, jI_z, ↓jI_m1, jI_add, jI_sub, jI_mul, Ra ha, e8]
  exact r1

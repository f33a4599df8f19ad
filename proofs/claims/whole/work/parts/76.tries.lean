/-! .. the schedules that the model tries. -/
def FrT (M M' : hM) : Prop := (∀ e k, e ≠ 137 → gA M' e k = gA M e k) ∧ (∀ e k, gI M' e k = gI M e k) ∧ Vr M M'
theorem FrT.trans {M M' M'' : hM} (h : FrT M M') (h' : FrT M' M'') : FrT M M'' := ⟨fun e k he => (h'.1 e k he).trans (h.1 e k he), fun e k => (h'.2.1 e k).trans (h.2.1 e k), h.2.2.trans h'.2.2⟩
theorem FrT.rfl' {M : hM} : FrT M M := ⟨fun _ _ _ => rfl, fun _ _ => rfl, fun _ => rfl⟩
theorem FrR.t {M M' : hM} (h : FrR 137 M M') : FrT M M' := ⟨fun e k he => h.1 e k (Or.inl he), h.2.1, h.2.2⟩
theorem FrT.sA {k : Nat} {v : Int} {M : hM} : FrT M (sA M 137 k v) := ⟨fun e j he => by rw [gA_sA, if_neg (by omega)], fun _ _ => rfl, fun _ => rfl⟩
theorem RR.cg {f g : Nat → Int} {c : hCf} (h : RR f c) (hc : c.2.length ≤ 10) (e : ∀ k, k < 39 → g k = f k) : RR g c := by
  obtain ⟨h1, h2, h3⟩ := h
  refine ⟨fun k hk => by rw [e k (by omega)]; exact h1 k hk, by rw [e 8 (by omega)]; exact h2, fun i x hx => ?_⟩
  have := (List.getElem?_eq_some_iff.mp hx).1
  rw [e _ (by omega), e _ (by omega), e _ (by omega)]; exact h3 i x hx
theorem okC.sub {c : hCf} {l : List hF} (h : okC c) (hl : l.length ≤ 10) (hm : ∀ x ∈ l, okF x) : okC (c.1, l) := ⟨hl, hm, h.2.2⟩
/-- now, copied to tried -/
theorem X7_ct {z : Nat} {M : hM} {c : hCf} (hc : okC c) (hR : RR (gA M 134) c) : ∃ M', m_X7_copies (hp z M) (z + 134) (jI 0) (z + 137) (jI 0) = some ((), hp z M') ∧ RR (gA M' 137) c ∧ FrT M M' := by
  obtain ⟨M', r1, r2, r3, r4, r5⟩ := X7_cp (z := z) (M := M) (a := 134) (b := 137) (o := 0) (q := 0) (na := 183) (nb := 183) rfl rfl (by omega) (by omega) (by omega) (by omega) (by omega)
  simp only [Nat.zero_add, Int.natCast_zero] at r1 r2
  exact ⟨M', r1, hR.cg hc.1 (fun k hk => r2 k (by omega)), fun e k he => r4 e k (Or.inl he), r3, r5⟩
theorem X7_tw {z f : Nat} {M : hM} {c : hCf} (hc : okC c) (hR : RR (gA M 134) c) (hf : f < c.2.length) : ∃ M', m_X7_triesWithout (hp z M) (z + 133) (jI f) = some ((), hp z M') ∧ RR (gA M' 137) (c.1, c.2.eraseIdx f) ∧ FrT M M' := by
  obtain ⟨M1, r1, r2, r3⟩ := X7_ct (z := z) hc hR
  obtain ⟨M2, s1, s2, s3⟩ := X7_go (z := z) (a := 137) (f := f) (Or.inr (Or.inr rfl)) hc r2 hf
  refine ⟨M2, ?_, s2, r3.trans s3.t⟩
  unfold m_X7_triesWithout
  simp (disch := omega) only [ji1, ji2, ji3, ji4, ji5, ji6, ji7, ji8, ji9, ji10, ji11, ji12, ji13, ji14, ji15, ji16, ji19, ji20, ji39, ji119, ji144, ji366, ji24, ji31, ji32, ji45, ji48, ji57, ji58, ji59, ji97, ji120, ji122, ji183, ji200, ji226, ji240, ji255, ji500, jI_z, ↓jI_m1, jI_add, jI_sub, jI_mul, ↓hg133_0, hw133_0, ↓hg133_1, ↓hg133_2, ↓hg133_3, hw133_3, ↓hg133_4, hw133_4, ↓hg133_5, hw133_5, ↓hg133_6, hw133_6, ↓hg133_7, hw133_7, ↓hg133_8, hw133_8, ↓hg133_9, hw133_9, ↓hg133_10, hw133_10, ↓hg133_11, hw133_11, ↓hg133_12, hw133_12, ↓hg133_13, ↓hg133_14, hw133_14, ↓hg133_15, ↓hg133_16, ↓hg133_17, ↓hg133_18, ↓hg133_19, ↓hg133_20, ↓hg133_21, hw133_21, ↓hg133_22, ↓hg133_23, hw133_23, ↓hg133_24, hw133_24, ↓hg133_25, hw133_25, ↓hg133_26, hw133_26, ↓hg133_27, hw133_27, ↓hg133_28, ↓hg133_29, hw133_29, ↓hg133_30, hw133_30, ↓hg133_31, hw133_31, ↓hg133_32, hw133_32, ↓hg133_33, hw133_33, ↓hg133_34, hw133_34, ↓hg133_35, hw133_35, ↓hg133_36, hw133_36, ↓hg133_37, ↓hg133_38, ↓hg133_39, ↓hv133, ↓hx133, ha134, hu134, ↓hl134, ha135, hu135, ↓hl135, ha136, hu136, ↓hl136, ha137, hu137, ↓hl137, ha138, hu138, ↓hl138, ha139, hu139, ↓hl139, ha140, hu140, ↓hl140, ha141, hu141, ↓hl141, ha142, hu142, ↓hl142, ha143, hu143, ↓hl143, ha144, hu144, ↓hl144, ha145, hu145, ↓hl145, ha146, hu146, ↓hl146, ha147, hu147, ↓hl147]
  rw [r1]
  simp (disch := omega) only [↓mo_cs_s, ↓mo_xs_r, ↓mo_xs_l, ↓mo_nl_s, mo_z_0, mo_z_1, ↓hg133_0, hw133_0, ↓hg133_1, ↓hg133_2, ↓hg133_3, hw133_3, ↓hg133_4, hw133_4, ↓hg133_5, hw133_5, ↓hg133_6, hw133_6, ↓hg133_7, hw133_7, ↓hg133_8, hw133_8, ↓hg133_9, hw133_9, ↓hg133_10, hw133_10, ↓hg133_11, hw133_11, ↓hg133_12, hw133_12, ↓hg133_13, ↓hg133_14, hw133_14, ↓hg133_15, ↓hg133_16, ↓hg133_17, ↓hg133_18, ↓hg133_19, ↓hg133_20, ↓hg133_21, hw133_21, ↓hg133_22, ↓hg133_23, hw133_23, ↓hg133_24, hw133_24, ↓hg133_25, hw133_25, ↓hg133_26, hw133_26, ↓hg133_27, hw133_27, ↓hg133_28, ↓hg133_29, hw133_29, ↓hg133_30, hw133_30, ↓hg133_31, hw133_31, ↓hg133_32, hw133_32, ↓hg133_33, hw133_33, ↓hg133_34, hw133_34, ↓hg133_35, hw133_35, ↓hg133_36, hw133_36, ↓hg133_37, ↓hg133_38, ↓hg133_39, ↓hv133, ↓hx133, ha134, hu134, ↓hl134, ha135, hu135, ↓hl135, ha136, hu136, ↓hl136, ha137, hu137, ↓hl137, ha138, hu138, ↓hl138, ha139, hu139, ↓hl139, ha140, hu140, ↓hl140, ha141, hu141, ↓hl141, ha142, hu142, ↓hl142, ha143, hu143, ↓hl143, ha144, hu144, ↓hl144, ha145, hu145, ↓hl145, ha146, hu146, ↓hl146, ha147, hu147, ↓hl147]
  rw [s1]; rfl
theorem X7_tp_l {z : Nat} {c : hCf} {w : Int32} {p : Nat → Bool} (hc : okC c) (hw : bits w p) : ∀ (j n : Nat) (M : hM), j ≤ c.2.length → j < n → RR (gA M 137) (c.1, c.2.take j ++ prt p (c.2.drop j) j) →
    ∃ M', m_X7_triesPart_l23 (z + 133) w n (hp z M) (jI ((j : Int) - 1)) = some ((), hp z M') ∧ RR (gA M' 137) (c.1, prt p c.2 0) ∧ FrT M M' := by
  have hl := hc.1
  intro j
  induction j with
  | zero =>
    intro n M _ hn h
    obtain ⟨n, rfl⟩ : ∃ k, n = k + 1 := ⟨n - 1, by omega⟩
    refine ⟨M, ?_, by simpa using h, FrT.rfl'⟩
    unfold m_X7_triesPart_l23
    simp (disch := omega) only [ji1, ji2, ji3, ji4, ji5, ji6, ji7, ji8, ji9, ji10, ji11, ji12, ji13, ji14, ji15, ji16, ji19, ji20, ji39, ji119, ji144, ji366, ji24, ji31, ji32, ji45, ji48, ji57, ji58, ji59, ji97, ji120, ji122, ji183, ji200, ji226, ji240, ji255, ji500, jI_z, ↓jI_m1, jI_add, jI_sub, jI_mul, jI_lt, show ((0 : Nat) : Int) - 1 < 0 by omega, if_true]
  | succ j ih =>
    intro n M hj hn h
    obtain ⟨n, rfl⟩ : ∃ k, n = k + 1 := ⟨n - 1, by omega⟩
    have ej : ((j + 1 : Nat) : Int) - 1 = (j : Int) := by omega
    have ej' : (j : Int) + -1 = (j : Int) - 1 := by omega
    have h0 : ¬ (j : Int) < 0 := by omega
    have hdr : c.2.drop j = c.2[j] :: c.2.drop (j + 1) := List.drop_eq_getElem_cons (by omega)
    have htk : c.2.take (j + 1) = c.2.take j ++ [c.2[j]] := List.take_succ_eq_append_getElem (by omega)
    have hbit := hw j (by omega)
    have hpl := prt_len (p := p) (c.2.drop (j + 1)) (j + 1)
    have hdl : (c.2.drop (j + 1)).length = c.2.length - (j + 1) := List.length_drop
    cases hpj : p j with
    | true =>
      obtain ⟨M', r1, r2, r3⟩ := ih n M (by omega) (by omega) (by
        rw [hdr]; simp only [prt, hpj, if_true]
        rw [htk, List.append_assoc] at h; exact h)
      refine ⟨M', ?_, r2, r3⟩
      rw [hpj] at hbit
      rw [ej]
      unfold m_X7_triesPart_l23
      simp (disch := omega) only [ji1, ji2, ji3, ji4, ji5, ji6, ji7, ji8, ji9, ji10, ji11, ji12, ji13, ji14, ji15, ji16, ji19, ji20, ji39, ji119, ji144, ji366, ji24, ji31, ji32, ji45, ji48, ji57, ji58, ji59, ji97, ji120, ji122, ji183, ji200, ji226, ji240, ji255, ji500, jI_z, ↓jI_m1, jI_add, jI_sub, jI_mul, jI_lt, h0, if_false, hbit, Bool.true_eq_false, ej']
      exact r1
    | false =>
      have hok : okC (c.1, c.2.take (j + 1) ++ prt p (c.2.drop (j + 1)) (j + 1)) := hc.sub (by simp only [List.length_append, List.length_take]; omega) (fun x hx => by
        rcases List.mem_append.mp hx with hx | hx
        · exact hc.2.1 x (List.mem_of_mem_take hx)
        · exact hc.2.1 x (List.mem_of_mem_drop (prt_mem _ _ hx)))
      obtain ⟨M1, s1, s2, s3⟩ := X7_go (z := z) (a := 137) (f := j) (Or.inr (Or.inr rfl)) hok h (by simp only [List.length_append, List.length_take]; omega)
      have he : (c.2.take (j + 1) ++ prt p (c.2.drop (j + 1)) (j + 1)).eraseIdx j = c.2.take j ++ prt p (c.2.drop j) j := by
        have hlt : (c.2.take j).length = j := by rw [List.length_take]; omega
        rw [htk, hdr]; simp only [prt, hpj, Bool.false_eq_true, if_false]
        rw [List.append_assoc, List.eraseIdx_append_of_length_le (by omega), hlt, Nat.sub_self]; rfl
      simp only [he] at s2
      obtain ⟨M', r1, r2, r3⟩ := ih n M1 (by omega) (by omega) s2
      refine ⟨M', ?_, r2, s3.t.trans r3⟩
      rw [hpj] at hbit
      rw [ej]
      unfold m_X7_triesPart_l23
      simp (disch := omega) only [ji1, ji2, ji3, ji4, ji5, ji6, ji7, ji8, ji9, ji10, ji11, ji12, ji13, ji14, ji15, ji16, ji19, ji20, ji39, ji119, ji144, ji366, ji24, ji31, ji32, ji45, ji48, ji57, ji58, ji59, ji97, ji120, ji122, ji183, ji200, ji226, ji240, ji255, ji500, jI_z, ↓jI_m1, jI_add, jI_sub, jI_mul, jI_lt, h0, if_false, hbit, if_true, ej', ↓hg133_0, hw133_0, ↓hg133_1, ↓hg133_2, ↓hg133_3, hw133_3, ↓hg133_4, hw133_4, ↓hg133_5, hw133_5, ↓hg133_6, hw133_6, ↓hg133_7, hw133_7, ↓hg133_8, hw133_8, ↓hg133_9, hw133_9, ↓hg133_10, hw133_10, ↓hg133_11, hw133_11, ↓hg133_12, hw133_12, ↓hg133_13, ↓hg133_14, hw133_14, ↓hg133_15, ↓hg133_16, ↓hg133_17, ↓hg133_18, ↓hg133_19, ↓hg133_20, ↓hg133_21, hw133_21, ↓hg133_22, ↓hg133_23, hw133_23, ↓hg133_24, hw133_24, ↓hg133_25, hw133_25, ↓hg133_26, hw133_26, ↓hg133_27, hw133_27, ↓hg133_28, ↓hg133_29, hw133_29, ↓hg133_30, hw133_30, ↓hg133_31, hw133_31, ↓hg133_32, hw133_32, ↓hg133_33, hw133_33, ↓hg133_34, hw133_34, ↓hg133_35, hw133_35, ↓hg133_36, hw133_36, ↓hg133_37, ↓hg133_38, ↓hg133_39, ↓hv133, ↓hx133, ha134, hu134, ↓hl134, ha135, hu135, ↓hl135, ha136, hu136, ↓hl136, ha137, hu137, ↓hl137, ha138, hu138, ↓hl138, ha139, hu139, ↓hl139, ha140, hu140, ↓hl140, ha141, hu141, ↓hl141, ha142, hu142, ↓hl142, ha143, hu143, ↓hl143, ha144, hu144, ↓hl144, ha145, hu145, ↓hl145, ha146, hu146, ↓hl146, ha147, hu147, ↓hl147]
      rw [s1]
      simp (disch := omega) only [↓mo_cs_s, ↓mo_xs_r, ↓mo_xs_l, ↓mo_nl_s, mo_z_0, mo_z_1]
      exact r1
theorem X7_tp {z : Nat} {M : hM} {c : hCf} {w : Int32} {p : Nat → Bool} (hc : okC c) (hR : RR (gA M 134) c) (hw : bits w p) :
    ∃ M', m_X7_triesPart (hp z M) (z + 133) w = some ((), hp z M') ∧ RR (gA M' 137) (c.1, prt p c.2 0) ∧ FrT M M' := by
  obtain ⟨M1, r1, r2, r3⟩ := X7_ct (z := z) hc hR
  have hl := hc.1
  obtain ⟨M', s1, s2, s3⟩ := X7_tp_l (z := z) hc hw c.2.length hN_f M1 (Nat.le_refl _) (by unfold hN_f; omega) (by rw [List.take_length, List.drop_length]; simpa [prt] using r2)
  have e8 : gA M1 134 (8 : Int).toNat = c.2.length := by rw [r3.1 134 _ (by omega)]; exact hR.2.1
  refine ⟨M', ?_, s2, r3.trans s3⟩
  unfold m_X7_triesPart
  simp (disch := omega) only [ji1, ji2, ji3, ji4, ji5, ji6, ji7, ji8, ji9, ji10, ji11, ji12, ji13, ji14, ji15, ji16, ji19, ji20, ji39, ji119, ji144, ji366, ji24, ji31, ji32, ji45, ji48, ji57, ji58, ji59, ji97, ji120, ji122, ji183, ji200, ji226, ji240, ji255, ji500, jI_z, ↓jI_m1, jI_add, jI_sub, jI_mul, ↓hg133_0, hw133_0, ↓hg133_1, ↓hg133_2, ↓hg133_3, hw133_3, ↓hg133_4, hw133_4, ↓hg133_5, hw133_5, ↓hg133_6, hw133_6, ↓hg133_7, hw133_7, ↓hg133_8, hw133_8, ↓hg133_9, hw133_9, ↓hg133_10, hw133_10, ↓hg133_11, hw133_11, ↓hg133_12, hw133_12, ↓hg133_13, ↓hg133_14, hw133_14, ↓hg133_15, ↓hg133_16, ↓hg133_17, ↓hg133_18, ↓hg133_19, ↓hg133_20, ↓hg133_21, hw133_21, ↓hg133_22, ↓hg133_23, hw133_23, ↓hg133_24, hw133_24, ↓hg133_25, hw133_25, ↓hg133_26, hw133_26, ↓hg133_27, hw133_27, ↓hg133_28, ↓hg133_29, hw133_29, ↓hg133_30, hw133_30, ↓hg133_31, hw133_31, ↓hg133_32, hw133_32, ↓hg133_33, hw133_33, ↓hg133_34, hw133_34, ↓hg133_35, hw133_35, ↓hg133_36, hw133_36, ↓hg133_37, ↓hg133_38, ↓hg133_39, ↓hv133, ↓hx133, ha134, hu134, ↓hl134, ha135, hu135, ↓hl135, ha136, hu136, ↓hl136, ha137, hu137, ↓hl137, ha138, hu138, ↓hl138, ha139, hu139, ↓hl139, ha140, hu140, ↓hl140, ha141, hu141, ↓hl141, ha142, hu142, ↓hl142, ha143, hu143, ↓hl143, ha144, hu144, ↓hl144, ha145, hu145, ↓hl145, ha146, hu146, ↓hl146, ha147, hu147, ↓hl147]
  rw [r1]
  simp (disch := omega) only [ji1, ji2, ji3, ji4, ji5, ji6, ji7, ji8, ji9, ji10, ji11, ji12, ji13, ji14, ji15, ji16, ji19, ji20, ji39, ji119, ji144, ji366, ji24, ji31, ji32, ji45, ji48, ji57, ji58, ji59, ji97, ji120, ji122, ji183, ji200, ji226, ji240, ji255, ji500, jI_z, ↓jI_m1, jI_add, jI_sub, jI_mul, ↓mo_cs_s, ↓mo_xs_r, ↓mo_xs_l, ↓mo_nl_s, mo_z_0, mo_z_1, ↓hg133_0, hw133_0, ↓hg133_1, ↓hg133_2, ↓hg133_3, hw133_3, ↓hg133_4, hw133_4, ↓hg133_5, hw133_5, ↓hg133_6, hw133_6, ↓hg133_7, hw133_7, ↓hg133_8, hw133_8, ↓hg133_9, hw133_9, ↓hg133_10, hw133_10, ↓hg133_11, hw133_11, ↓hg133_12, hw133_12, ↓hg133_13, ↓hg133_14, hw133_14, ↓hg133_15, ↓hg133_16, ↓hg133_17, ↓hg133_18, ↓hg133_19, ↓hg133_20, ↓hg133_21, hw133_21, ↓hg133_22, ↓hg133_23, hw133_23, ↓hg133_24, hw133_24, ↓hg133_25, hw133_25, ↓hg133_26, hw133_26, ↓hg133_27, hw133_27, ↓hg133_28, ↓hg133_29, hw133_29, ↓hg133_30, hw133_30, ↓hg133_31, hw133_31, ↓hg133_32, hw133_32, ↓hg133_33, hw133_33, ↓hg133_34, hw133_34, ↓hg133_35, hw133_35, ↓hg133_36, hw133_36, ↓hg133_37, ↓hg133_38, ↓hg133_39, ↓hv133, ↓hx133, ha134, hu134, ↓hl134, ha135, hu135, ↓hl135, ha136, hu136, ↓hl136, ha137, hu137, ↓hl137, ha138, hu138, ↓hl138, ha139, hu139, ↓hl139, ha140, hu140, ↓hl140, ha141, hu141, ↓hl141, ha142, hu142, ↓hl142, ha143, hu143, ↓hl143, ha144, hu144, ↓hl144, ha145, hu145, ↓hl145, ha146, hu146, ↓hl146, ha147, hu147, ↓hl147, e8]
  exact s1
/-- the schedule without faults; with a single one -/
theorem X7_t0 {z : Nat} {M : hM} {c : hCf} {v1 v2 : Int32} (hc : okC c) (hR : RR (gA M 134) c) :
    ∃ M', m_X7_triesSingle (hp z M) (z + 133) (jI (-1)) v1 v2 = some ((), hp z M') ∧ RR (gA M' 137) (c.1, []) ∧ FrT M M' := by
  obtain ⟨M1, r1, r2, r3⟩ := X7_ct (z := z) hc hR
  refine ⟨sA M1 137 8 0, ?_, ⟨fun k hk => by rw [gA_sA, if_neg (by omega)]; exact r2.1 k hk, by rw [gA_sA, if_pos ⟨rfl, rfl⟩]; rfl, fun i x hx => by simp at hx⟩, r3.trans FrT.sA⟩
  unfold m_X7_triesSingle
  simp (disch := omega) only [ji1, ji2, ji3, ji4, ji5, ji6, ji7, ji8, ji9, ji10, ji11, ji12, ji13, ji14, ji15, ji16, ji19, ji20, ji39, ji119, ji144, ji366, ji24, ji31, ji32, ji45, ji48, ji57, ji58, ji59, ji97, ji120, ji122, ji183, ji200, ji226, ji240, ji255, ji500, jI_z, ↓jI_m1, jI_add, jI_sub, jI_mul, ↓hg133_0, hw133_0, ↓hg133_1, ↓hg133_2, ↓hg133_3, hw133_3, ↓hg133_4, hw133_4, ↓hg133_5, hw133_5, ↓hg133_6, hw133_6, ↓hg133_7, hw133_7, ↓hg133_8, hw133_8, ↓hg133_9, hw133_9, ↓hg133_10, hw133_10, ↓hg133_11, hw133_11, ↓hg133_12, hw133_12, ↓hg133_13, ↓hg133_14, hw133_14, ↓hg133_15, ↓hg133_16, ↓hg133_17, ↓hg133_18, ↓hg133_19, ↓hg133_20, ↓hg133_21, hw133_21, ↓hg133_22, ↓hg133_23, hw133_23, ↓hg133_24, hw133_24, ↓hg133_25, hw133_25, ↓hg133_26, hw133_26, ↓hg133_27, hw133_27, ↓hg133_28, ↓hg133_29, hw133_29, ↓hg133_30, hw133_30, ↓hg133_31, hw133_31, ↓hg133_32, hw133_32, ↓hg133_33, hw133_33, ↓hg133_34, hw133_34, ↓hg133_35, hw133_35, ↓hg133_36, hw133_36, ↓hg133_37, ↓hg133_38, ↓hg133_39, ↓hv133, ↓hx133, ha134, hu134, ↓hl134, ha135, hu135, ↓hl135, ha136, hu136, ↓hl136, ha137, hu137, ↓hl137, ha138, hu138, ↓hl138, ha139, hu139, ↓hl139, ha140, hu140, ↓hl140, ha141, hu141, ↓hl141, ha142, hu142, ↓hl142, ha143, hu143, ↓hl143, ha144, hu144, ↓hl144, ha145, hu145, ↓hl145, ha146, hu146, ↓hl146, ha147, hu147, ↓hl147]
  rw [r1]
  simp (disch := omega) only [ji1, ji2, ji3, ji4, ji5, ji6, ji7, ji8, ji9, ji10, ji11, ji12, ji13, ji14, ji15, ji16, ji19, ji20, ji39, ji119, ji144, ji366, ji24, ji31, ji32, ji45, ji48, ji57, ji58, ji59, ji97, ji120, ji122, ji183, ji200, ji226, ji240, ji255, ji500, jI_z, ↓jI_m1, jI_add, jI_sub, jI_mul, ↓mo_cs_s, ↓mo_xs_r, ↓mo_xs_l, ↓mo_nl_s, mo_z_0, mo_z_1, ↓hg133_0, hw133_0, ↓hg133_1, ↓hg133_2, ↓hg133_3, hw133_3, ↓hg133_4, hw133_4, ↓hg133_5, hw133_5, ↓hg133_6, hw133_6, ↓hg133_7, hw133_7, ↓hg133_8, hw133_8, ↓hg133_9, hw133_9, ↓hg133_10, hw133_10, ↓hg133_11, hw133_11, ↓hg133_12, hw133_12, ↓hg133_13, ↓hg133_14, hw133_14, ↓hg133_15, ↓hg133_16, ↓hg133_17, ↓hg133_18, ↓hg133_19, ↓hg133_20, ↓hg133_21, hw133_21, ↓hg133_22, ↓hg133_23, hw133_23, ↓hg133_24, hw133_24, ↓hg133_25, hw133_25, ↓hg133_26, hw133_26, ↓hg133_27, hw133_27, ↓hg133_28, ↓hg133_29, hw133_29, ↓hg133_30, hw133_30, ↓hg133_31, hw133_31, ↓hg133_32, hw133_32, ↓hg133_33, hw133_33, ↓hg133_34, hw133_34, ↓hg133_35, hw133_35, ↓hg133_36, hw133_36, ↓hg133_37, ↓hg133_38, ↓hg133_39, ↓hv133, ↓hx133, ha134, hu134, ↓hl134, ha135, hu135, ↓hl135, ha136, hu136, ↓hl136, ha137, hu137, ↓hl137, ha138, hu138, ↓hl138, ha139, hu139, ↓hl139, ha140, hu140, ↓hl140, ha141, hu141, ↓hl141, ha142, hu142, ↓hl142, ha143, hu143, ↓hl143, ha144, hu144, ↓hl144, ha145, hu145, ↓hl145, ha146, hu146, ↓hl146, ha147, hu147, ↓hl147, if_true]
  rfl
theorem X7_t1 {z : Nat} {M : hM} {c : hCf} {kd nm am : Int} (hc : okC c) (hR : RR (gA M 134) c) (hk : 0 ≤ kd ∧ kd ≤ 2) (hn : 0 ≤ nm ∧ nm < 120) :
    ∃ M', m_X7_triesSingle (hp z M) (z + 133) (jI kd) (jI nm) (jI am) = some ((), hp z M') ∧ RR (gA M' 137) (c.1, [(kd, nm, am)]) ∧ FrT M M' := by
  obtain ⟨M1, r1, r2, r3⟩ := X7_ct (z := z) hc hR
  have h0 : RR (gA (sA M1 137 8 0) 137) (c.1, []) := ⟨fun k hk => by rw [gA_sA, if_neg (by omega)]; exact r2.1 k hk, by rw [gA_sA, if_pos ⟨rfl, rfl⟩]; rfl, fun i x hx => by simp at hx⟩
  obtain ⟨M2, s1, s2, s3⟩ := X7_co (z := z) (a := 137) (c := (c.1, [])) (am := am) (Or.inr (Or.inr rfl)) ⟨by simp, by simp, hc.2.2⟩ h0 (by simp) hk hn rfl
  refine ⟨M2, ?_, s2, (r3.trans FrT.sA).trans s3.t⟩
  unfold m_X7_triesSingle
  simp (disch := omega) only [ji1, ji2, ji3, ji4, ji5, ji6, ji7, ji8, ji9, ji10, ji11, ji12, ji13, ji14, ji15, ji16, ji19, ji20, ji39, ji119, ji144, ji366, ji24, ji31, ji32, ji45, ji48, ji57, ji58, ji59, ji97, ji120, ji122, ji183, ji200, ji226, ji240, ji255, ji500, jI_z, ↓jI_m1, jI_add, jI_sub, jI_mul, ↓hg133_0, hw133_0, ↓hg133_1, ↓hg133_2, ↓hg133_3, hw133_3, ↓hg133_4, hw133_4, ↓hg133_5, hw133_5, ↓hg133_6, hw133_6, ↓hg133_7, hw133_7, ↓hg133_8, hw133_8, ↓hg133_9, hw133_9, ↓hg133_10, hw133_10, ↓hg133_11, hw133_11, ↓hg133_12, hw133_12, ↓hg133_13, ↓hg133_14, hw133_14, ↓hg133_15, ↓hg133_16, ↓hg133_17, ↓hg133_18, ↓hg133_19, ↓hg133_20, ↓hg133_21, hw133_21, ↓hg133_22, ↓hg133_23, hw133_23, ↓hg133_24, hw133_24, ↓hg133_25, hw133_25, ↓hg133_26, hw133_26, ↓hg133_27, hw133_27, ↓hg133_28, ↓hg133_29, hw133_29, ↓hg133_30, hw133_30, ↓hg133_31, hw133_31, ↓hg133_32, hw133_32, ↓hg133_33, hw133_33, ↓hg133_34, hw133_34, ↓hg133_35, hw133_35, ↓hg133_36, hw133_36, ↓hg133_37, ↓hg133_38, ↓hg133_39, ↓hv133, ↓hx133, ha134, hu134, ↓hl134, ha135, hu135, ↓hl135, ha136, hu136, ↓hl136, ha137, hu137, ↓hl137, ha138, hu138, ↓hl138, ha139, hu139, ↓hl139, ha140, hu140, ↓hl140, ha141, hu141, ↓hl141, ha142, hu142, ↓hl142, ha143, hu143, ↓hl143, ha144, hu144, ↓hl144, ha145, hu145, ↓hl145, ha146, hu146, ↓hl146, ha147, hu147, ↓hl147]
  rw [r1]
  simp (disch := omega) only [ji1, ji2, ji3, ji4, ji5, ji6, ji7, ji8, ji9, ji10, ji11, ji12, ji13, ji14, ji15, ji16, ji19, ji20, ji39, ji119, ji144, ji366, ji24, ji31, ji32, ji45, ji48, ji57, ji58, ji59, ji97, ji120, ji122, ji183, ji200, ji226, ji240, ji255, ji500, jI_z, ↓jI_m1, jI_add, jI_sub, jI_mul, ↓mo_cs_s, ↓mo_xs_r, ↓mo_xs_l, ↓mo_nl_s, mo_z_0, mo_z_1, ↓hg133_0, hw133_0, ↓hg133_1, ↓hg133_2, ↓hg133_3, hw133_3, ↓hg133_4, hw133_4, ↓hg133_5, hw133_5, ↓hg133_6, hw133_6, ↓hg133_7, hw133_7, ↓hg133_8, hw133_8, ↓hg133_9, hw133_9, ↓hg133_10, hw133_10, ↓hg133_11, hw133_11, ↓hg133_12, hw133_12, ↓hg133_13, ↓hg133_14, hw133_14, ↓hg133_15, ↓hg133_16, ↓hg133_17, ↓hg133_18, ↓hg133_19, ↓hg133_20, ↓hg133_21, hw133_21, ↓hg133_22, ↓hg133_23, hw133_23, ↓hg133_24, hw133_24, ↓hg133_25, hw133_25, ↓hg133_26, hw133_26, ↓hg133_27, hw133_27, ↓hg133_28, ↓hg133_29, hw133_29, ↓hg133_30, hw133_30, ↓hg133_31, hw133_31, ↓hg133_32, hw133_32, ↓hg133_33, hw133_33, ↓hg133_34, hw133_34, ↓hg133_35, hw133_35, ↓hg133_36, hw133_36, ↓hg133_37, ↓hg133_38, ↓hg133_39, ↓hv133, ↓hx133, ha134, hu134, ↓hl134, ha135, hu135, ↓hl135, ha136, hu136, ↓hl136, ha137, hu137, ↓hl137, ha138, hu138, ↓hl138, ha139, hu139, ↓hl139, ha140, hu140, ↓hl140, ha141, hu141, ↓hl141, ha142, hu142, ↓hl142, ha143, hu143, ↓hl143, ha144, hu144, ↓hl144, ha145, hu145, ↓hl145, ha146, hu146, ↓hl146, ha147, hu147, ↓hl147, jI_eq, show ¬ kd = -1 by omega, if_false]
  rw [show (8 : Int).toNat = 8 from rfl, s1]; rfl

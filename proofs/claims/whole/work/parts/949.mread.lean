/-! READING of the model. -/
theorem ji50 : (50 : Int32) = jI 50 := id rfl
theorem sby_c {v x : Int} (hv : 0 ≤ v ∧ v ≤ 255) (hx : 97 ≤ x ∧ x ≤ 122) : (jI (sby v) = jI x) = (v = x) := by
  have hs := sby_w hv
  rw [jI_eq (by omega) (by omega) (by omega) (by omega)]
  apply propext
  unfold sby
  split <;> omega
theorem X7_wl0 {z i f : Nat} {M : hM} {j : Nat} (hi : i < 11) (hj : j ≤ 9) : m_X7_isWord_l32 (z + 133) i (f + 1) (hp z M) (jI 0) (jI j) = some (jI 0, hp z M) := by
  have hW := acB_in i hi
  unfold m_X7_isWord_l32
  rw [mo_sl_j hi]
  simp (disch := omega) only [ji1, ji2, ji3, ji4, ji5, ji6, ji7, ji8, ji9, ji10, ji11, ji12, ji13, ji14, ji15, ji16, ji19, ji20, ji39, ji119, ji144, ji366, ji24, ji31, ji32, ji45, ji48, ji57, ji58, ji59, ji97, ji120, ji122, ji183, ji200, ji226, ji240, ji255, ji500, jI_z, ↓jI_m1, jI_add, jI_sub, jI_mul, jI_lt, if_true, ↓mo_cs_s, ↓mo_xs_r, ↓mo_xs_l, ↓mo_nl_s, mo_z_0, mo_z_1]
  split <;> rfl
theorem X7_wl {z i s : Nat} {L : List Int} {M : hM} (hT : TXm M L) (hi : i < 11) (h3 : gI M 133 5 = s) (hs : s + (ac_B i).length ≤ L.length) : ∀ (t : List Int32) (j f : Nat), (ac_B i).drop j = t → t.length + 1 < f → j ≤ (ac_B i).length →
    m_X7_isWord_l32 (z + 133) i f (hp z M) (jI 1) (jI j) = some (jI (b2i (eqW L t (s + j))), hp z M) := by
  have hW := acB_in i hi
  have hl := hT.2.2.1
  intro t
  induction t with
  | nil =>
    intro j f hd hf hj
    obtain ⟨f, rfl⟩ : ∃ g, f = g + 1 := ⟨f - 1, by simp at hf; omega⟩
    have hj' : (ac_B i).length ≤ j := by simpa using hd
    have g : ¬ (j : Int) < (ac_B i).length := by omega
    unfold m_X7_isWord_l32
    rw [mo_sl_j hi]
    simp (disch := omega) only [ji1, ji2, ji3, ji4, ji5, ji6, ji7, ji8, ji9, ji10, ji11, ji12, ji13, ji14, ji15, ji16, ji19, ji20, ji39, ji119, ji144, ji366, ji24, ji31, ji32, ji45, ji48, ji57, ji58, ji59, ji97, ji120, ji122, ji183, ji200, ji226, ji240, ji255, ji500, jI_z, ↓jI_m1, jI_add, jI_sub, jI_mul, jI_lt, g, if_false, ↓mo_cs_s, ↓mo_xs_r, ↓mo_xs_l, ↓mo_nl_s, mo_z_0, mo_z_1]
    rfl
  | cons x t ih =>
    intro j f hd hf hj
    obtain ⟨f, rfl⟩ : ∃ g, f = g + 2 := ⟨f - 2, by simp at hf; omega⟩
    obtain ⟨d1, d2, d3⟩ := dropW hd
    have hx := hW.2.2 x (List.mem_of_getElem? d1)
    have g : (j : Int) < (ac_B i).length := by omega
    have hb : L[s + j]? = some L[s + j] := List.getElem?_eq_getElem (by omega)
    have hbb := hT.b hb
    have ev := hT.2.1 _ _ hb
    have ej : (s : Int) + j = ((s + j : Nat) : Int) := by omega
    have ek : (j : Int) + 1 = ((j + 1 : Nat) : Int) := by omega
    have sc := fun (F : Int32 → Option (Int32 × ac_H)) => mo_sc_j (F := F) hi d1
    unfold m_X7_isWord_l32
    rw [mo_sl_j hi]
    simp (disch := omega) only [ji1, ji2, ji3, ji4, ji5, ji6, ji7, ji8, ji9, ji10, ji11, ji12, ji13, ji14, ji15, ji16, ji19, ji20, ji39, ji119, ji144, ji366, ji24, ji31, ji32, ji45, ji48, ji57, ji58, ji59, ji97, ji120, ji122, ji183, ji200, ji226, ji240, ji255, ji500, jI_z, ↓jI_m1, jI_add, jI_sub, jI_mul, jI_lt, g, if_true, j10, if_false, ↓hg133_0, hw133_0, ↓hg133_1, ↓hg133_2, ↓hg133_3, hw133_3, ↓hg133_4, hw133_4, ↓hg133_5, hw133_5, ↓hg133_6, hw133_6, ↓hg133_7, hw133_7, ↓hg133_8, hw133_8, ↓hg133_9, hw133_9, ↓hg133_10, hw133_10, ↓hg133_11, hw133_11, ↓hg133_12, hw133_12, ↓hg133_13, ↓hg133_14, hw133_14, ↓hg133_15, ↓hg133_16, ↓hg133_17, ↓hg133_18, ↓hg133_19, ↓hg133_20, ↓hg133_21, hw133_21, ↓hg133_22, ↓hg133_23, hw133_23, ↓hg133_24, hw133_24, ↓hg133_25, hw133_25, ↓hg133_26, hw133_26, ↓hg133_27, hw133_27, ↓hg133_28, ↓hg133_29, hw133_29, ↓hg133_30, hw133_30, ↓hg133_31, hw133_31, ↓hg133_32, hw133_32, ↓hg133_33, hw133_33, ↓hg133_34, hw133_34, ↓hg133_35, hw133_35, ↓hg133_36, hw133_36, ↓hg133_37, ↓hg133_38, ↓hg133_39, ↓hv133, ↓hx133, ha134, hu134, ↓hl134, ha135, hu135, ↓hl135, ha136, hu136, ↓hl136, ha137, hu137, ↓hl137, ha138, hu138, ↓hl138, ha139, hu139, ↓hl139, ha140, hu140, ↓hl140, ha141, hu141, ↓hl141, ha142, hu142, ↓hl142, ha143, hu143, ↓hl143, ha144, hu144, ↓hl144, ha145, hu145, ↓hl145, ha146, hu146, ↓hl146, ha147, hu147, ↓hl147, h3, ej, Int.toNat_natCast, ev, sc, sby_c hbb hx, ek]
    by_cases e : L[s + j] = x.toInt
    · rw [if_pos e, ih (j + 1) (f + 1) d2 (by simp at hf; omega) (by omega)]
      simp only [eqW, hb, e, decide_true, Bool.true_and]
      rw [Nat.add_assoc]
    · rw [if_neg e, X7_wl0 hi (by omega)]
      have : decide (L[s + j]? = some x.toInt) = false := decide_eq_false (by rw [hb]; simp only [Option.some.injEq]; exact e)
      simp only [eqW, this, Bool.false_and]; rfl
theorem X7_wd {z i p : Nat} {L : List Int} {M : hM} (hT : TXm M L) (hi : i < 11) (hp' : p ≤ L.length) (h : MT M L p) : m_X7_isWord (hp z M) (z + 133) i = some (jI (b2i (wdB L p i)), hp z M) := by
  obtain ⟨h3, h4, h5, _⟩ := h
  have hW := acB_in i hi
  have hl := hT.2.2.1
  have hN := tN_le hp'
  have hk' : 0 ≤ tK L p ∧ tK L p ≤ 4 := eK_in
  have hS := tS_le hp'
  have w0 := X7_wl0 (z := z) (f := 99999) (M := M) (j := 0) hi (by omega)
  unfold m_X7_isWord wdB
  simp (disch := omega) only [ji1, ji2, ji3, ji4, ji5, ji6, ji7, ji8, ji9, ji10, ji11, ji12, ji13, ji14, ji15, ji16, ji19, ji20, ji39, ji119, ji144, ji366, ji24, ji31, ji32, ji45, ji48, ji57, ji58, ji59, ji97, ji120, ji122, ji183, ji200, ji226, ji240, ji255, ji500, jI_z, ↓jI_m1, jI_add, jI_sub, jI_mul, ↓hg133_0, hw133_0, ↓hg133_1, ↓hg133_2, ↓hg133_3, hw133_3, ↓hg133_4, hw133_4, ↓hg133_5, hw133_5, ↓hg133_6, hw133_6, ↓hg133_7, hw133_7, ↓hg133_8, hw133_8, ↓hg133_9, hw133_9, ↓hg133_10, hw133_10, ↓hg133_11, hw133_11, ↓hg133_12, hw133_12, ↓hg133_13, ↓hg133_14, hw133_14, ↓hg133_15, ↓hg133_16, ↓hg133_17, ↓hg133_18, ↓hg133_19, ↓hg133_20, ↓hg133_21, hw133_21, ↓hg133_22, ↓hg133_23, hw133_23, ↓hg133_24, hw133_24, ↓hg133_25, hw133_25, ↓hg133_26, hw133_26, ↓hg133_27, hw133_27, ↓hg133_28, ↓hg133_29, hw133_29, ↓hg133_30, hw133_30, ↓hg133_31, hw133_31, ↓hg133_32, hw133_32, ↓hg133_33, hw133_33, ↓hg133_34, hw133_34, ↓hg133_35, hw133_35, ↓hg133_36, hw133_36, ↓hg133_37, ↓hg133_38, ↓hg133_39, ↓hv133, ↓hx133, ha134, hu134, ↓hl134, ha135, hu135, ↓hl135, ha136, hu136, ↓hl136, ha137, hu137, ↓hl137, ha138, hu138, ↓hl138, ha139, hu139, ↓hl139, ha140, hu140, ↓hl140, ha141, hu141, ↓hl141, ha142, hu142, ↓hl142, ha143, hu143, ↓hl143, ha144, hu144, ↓hl144, ha145, hu145, ↓hl145, ha146, hu146, ↓hl146, ha147, hu147, ↓hl147, h3, h4, h5, jI_eq, mo_sl_j hi]
  rw [show jI 0 = jI ((0 : Nat) : Int) from rfl]
  by_cases e1 : tK L p = 1
  · have hgt := tN_gt (L := L) (p := p) (by omega)
    have hsn : tS L p < tN L p := eN_gt (by show tK L p ≠ 0; omega)
    rw [if_pos e1]
    by_cases e2 : (tN L p : Int) - tS L p = (ac_B i).length
    · rw [if_pos e2]
      have := X7_wl (z := z) hT hi h3 (by omega) (ac_B i) 0 hN_f (by simp) (by unfold hN_f; omega) (by omega)
      rw [this, decide_eq_true (by omega)]
      rfl
    · rw [if_neg e2, decide_eq_false (by omega)]; exact w0
  · rw [if_neg e1, decide_eq_false (by omega)]; exact w0
def FXm (M M' : hM) : Prop := (∀ a, a ≠ 133 → ∀ k, gI M' a k = gI M a k) ∧ (∀ k, k < 5 ∨ 12 < k → gI M' 133 k = gI M 133 k) ∧ (∀ a k, a ≠ 136 ∨ 39 ≤ k → gA M' a k = gA M a k) ∧ Vr M M'
theorem FXm.rfl' {M : hM} : FXm M M := ⟨fun _ _ _ => rfl, fun _ _ => rfl, fun _ _ _ => rfl, fun _ => rfl⟩
theorem FXm.trans {M M' M'' : hM} (h : FXm M M') (h' : FXm M' M'') : FXm M M'' := ⟨fun a ha k => (h'.1 a ha k).trans (h.1 a ha k), fun k hk => (h'.2.1 k hk).trans (h.2.1 k hk), fun a k e => (h'.2.2.1 a k e).trans (h.2.2.1 a k e), h.2.2.2.trans h'.2.2.2⟩
theorem FVm.x {M M' : hM} (h : FVm M M') : FXm M M' := ⟨fun a ha k => h.1 a k (by omega), fun k hk => h.1 133 k (by omega), fun a k _ => h.2.1 a k, h.2.2⟩
theorem FXm_sI {M : hM} {k : Nat} {v : Int} (h : 5 ≤ k ∧ k ≤ 12) : FXm M (sI M 133 k v) := ⟨fun a ha j => by rw [gI_sI, if_neg (by omega)], fun j hj => by rw [gI_sI, if_neg (by omega)], fun _ _ _ => rfl, fun _ => rfl⟩
theorem FXm_sA {M : hM} {k : Nat} {v : Int} (h : k < 39) : FXm M (sA M 136 k v) := ⟨fun a ha j => gI_sA, fun j hj => gI_sA, fun a j e => by rw [gA_sA, if_neg (by omega)], fun _ => rfl⟩
theorem FrR_x {M M' : hM} (h : FrR 136 M M') : FXm M M' := ⟨fun a _ k => h.2.1 a k, fun k _ => h.2.1 133 k, fun a k e => h.1 a k (by omega), h.2.2⟩
theorem TXm.x {M M' : hM} {L : List Int} (h : TXm M L) (f : FXm M M') : TXm M' L := ⟨by rw [f.2.1 4 (by omega)]; exact h.1, fun k v hv => by rw [f.2.2.1 135 k (by omega)]; exact h.2.1 k v hv, h.2.2⟩
def EM (M : hM) (e : Int × Int) : Prop := gI M 133 9 = e.1 ∧ gI M 133 10 = e.2
def WM (M : hM) (w : Nat → Bool) : Prop := ∃ n : Nat, gI M 133 12 = n ∧ n < 256 ∧ n.testBit 0 = w 3 ∧ n.testBit 1 = w 4 ∧ n.testBit 2 = w 5 ∧ n.testBit 3 = w 7
def MP0 (M : hM) (s : hP) : Prop := RR (gA M 136) s.1 ∧ WM M s.2.1 ∧ gI M 133 9 = 0 ∧ gI M 133 10 = -1
def MP (M : hM) (L : List Int) (s : hP) : Prop := MP0 M s ∧ MT M L s.2.2
theorem MP0.g {M M' : hM} {s : hP} (h : MP0 M s) (eA : ∀ k, gA M' 136 k = gA M 136 k) (e9 : gI M' 133 9 = gI M 133 9) (e10 : gI M' 133 10 = gI M 133 10) (e12 : gI M' 133 12 = gI M 133 12) : MP0 M' s := by
  obtain ⟨h1, ⟨n, h2, h3⟩, h4, h5⟩ := h
  exact ⟨h1.keep eA, ⟨n, by rw [e12]; exact h2, h3⟩, by rw [e9]; exact h4, by rw [e10]; exact h5⟩
theorem MP0.v {M M' : hM} {s : hP} (h : MP0 M s) (f : FVm M M') : MP0 M' s := h.g (f.2.1 136) (f.1 133 9 (by omega)) (f.1 133 10 (by omega)) (f.1 133 12 (by omega))
def RXm (z : Nat) (M : hM) (L : List Int) (o : Option (Int32 × ac_H)) : hE → Prop
  | .inl e => ∃ M', o = some (jI 0, hp z M') ∧ EM M' e ∧ FXm M M'
  | .inr s => ∃ M', o = some (jI 1, hp z M') ∧ MP M' L s ∧ FXm M M'
theorem X7_fl {z : Nat} {M : hM} {c : Int} {t : Nat} (h9 : gI M 133 9 = 0) (h5 : gI M 133 5 = t) : ∃ M', m_X7_fails (hp z M) (z + 133) (jI c) = some (jI 0, hp z M') ∧ EM M' (c, (t : Int)) ∧ FXm M M' := by
  refine ⟨sI (sI M 133 9 c) 133 10 t, ?_, ⟨by rw [gI_sI, if_neg (by omega), gI_sI, if_pos ⟨rfl, rfl⟩], by rw [gI_sI, if_pos ⟨rfl, rfl⟩]⟩, (FXm_sI (by omega)).trans (FXm_sI (by omega))⟩
  have h5' : gI (sI M 133 9 c) 133 5 = t := by rw [gI_sI, if_neg (by omega), h5]
  unfold m_X7_fails
  simp (disch := omega) only [ji1, ji2, ji3, ji4, ji5, ji6, ji7, ji8, ji9, ji10, ji11, ji12, ji13, ji14, ji15, ji16, ji19, ji20, ji39, ji119, ji144, ji366, ji24, ji31, ji32, ji45, ji48, ji57, ji58, ji59, ji97, ji120, ji122, ji183, ji200, ji226, ji240, ji255, ji500, jI_z, ↓jI_m1, jI_add, jI_sub, jI_mul, ↓hg133_0, hw133_0, ↓hg133_1, ↓hg133_2, ↓hg133_3, hw133_3, ↓hg133_4, hw133_4, ↓hg133_5, hw133_5, ↓hg133_6, hw133_6, ↓hg133_7, hw133_7, ↓hg133_8, hw133_8, ↓hg133_9, hw133_9, ↓hg133_10, hw133_10, ↓hg133_11, hw133_11, ↓hg133_12, hw133_12, ↓hg133_13, ↓hg133_14, hw133_14, ↓hg133_15, ↓hg133_16, ↓hg133_17, ↓hg133_18, ↓hg133_19, ↓hg133_20, ↓hg133_21, hw133_21, ↓hg133_22, ↓hg133_23, hw133_23, ↓hg133_24, hw133_24, ↓hg133_25, hw133_25, ↓hg133_26, hw133_26, ↓hg133_27, hw133_27, ↓hg133_28, ↓hg133_29, hw133_29, ↓hg133_30, hw133_30, ↓hg133_31, hw133_31, ↓hg133_32, hw133_32, ↓hg133_33, hw133_33, ↓hg133_34, hw133_34, ↓hg133_35, hw133_35, ↓hg133_36, hw133_36, ↓hg133_37, ↓hg133_38, ↓hg133_39, ↓hv133, ↓hx133, ha134, hu134, ↓hl134, ha135, hu135, ↓hl135, ha136, hu136, ↓hl136, ha137, hu137, ↓hl137, ha138, hu138, ↓hl138, ha139, hu139, ↓hl139, ha140, hu140, ↓hl140, ha141, hu141, ↓hl141, ha142, hu142, ↓hl142, ha143, hu143, ↓hl143, ha144, hu144, ↓hl144, ha145, hu145, ↓hl145, ha146, hu146, ↓hl146, ha147, hu147, ↓hl147, h9, if_true, h5', ↓mo_cs_s, ↓mo_xs_r, ↓mo_xs_l, ↓mo_nl_s, mo_z_0, mo_z_1]
/-- taking a number: the frame when it is there -/
def FT (M M' : hM) : Prop := (∀ a k, a ≠ 133 ∨ k < 5 ∨ (8 < k ∧ k ≠ 11) → gI M' a k = gI M a k) ∧ (∀ a k, gA M' a k = gA M a k) ∧ Vr M M'
theorem FT.x {M M' : hM} (h : FT M M') : FXm M M' := ⟨fun a ha k => h.1 a k (by omega), fun k hk => h.1 133 k (by omega), fun a k _ => h.2.1 a k, h.2.2⟩
theorem MP0.t {M M' : hM} {s : hP} (h : MP0 M s) (f : FT M M') : MP0 M' s := h.g (f.2.1 136) (f.1 133 9 (by omega)) (f.1 133 10 (by omega)) (f.1 133 12 (by omega))
theorem X7_tk {z p : Nat} {L : List Int} {M : hM} {lo hi : Int} (hT : TXm M L) (hp' : p ≤ L.length) (h : MT M L p) (h9 : gI M 133 9 = 0) (hlo : 0 ≤ lo ∧ lo ≤ 300) (hhi : 0 ≤ hi ∧ hi ≤ 300) :
    (∃ e M', sNum L lo hi p = .inl e ∧ m_X7_takes (hp z M) (z + 133) (jI lo) (jI hi) = some (jI 0, hp z M') ∧ EM M' e ∧ FXm M M') ∨
    (∃ v M', sNum L lo hi p = .inr v ∧ lo ≤ v ∧ v ≤ hi ∧ m_X7_takes (hp z M) (z + 133) (jI lo) (jI hi) = some (jI 1, hp z M') ∧ gI M' 133 11 = v ∧ MT M' L (tN L p) ∧ FT M M') := by
  have hl := hT.2.2.1
  obtain ⟨h5, h6, h7, h8⟩ := h
  have hk' : 0 ≤ tK L p ∧ tK L p ≤ 4 := eK_in
  unfold sNum
  by_cases e2 : tK L p = 2
  · rw [if_pos e2]
    obtain ⟨n1, n2, n3, n4, n5⟩ := nV_in e2
    have h8' := h8 e2
    by_cases hv : lo ≤ nV L p ∧ nV L p ≤ hi
    · rw [if_pos hv]
      have wi := X7_wi1 (v := nV L p) (lo := lo) (hi := hi) (okW_n (by omega) (by omega)) (okW_n (by omega) (by omega)) (okW_n (by omega) (by omega)) hv (hp z M)
      have FX0 : FXm M (sI M 133 11 (nV L p)) := FXm_sI (by omega)
      obtain ⟨M1, r1, r2, r3⟩ := X7_adv (z := z) (M := sI M 133 11 (nV L p)) (hT.x FX0) (tN_le hp') (by rw [gI_sI, if_neg (by omega), h6])
      refine Or.inr ⟨_, M1, rfl, hv.1, hv.2, ?_, by rw [r3.1 133 11 (by omega), gI_sI, if_pos ⟨rfl, rfl⟩], r2, ⟨fun a k e => by rw [r3.1 a k (by omega), gI_sI, if_neg (by omega)], fun a k => by rw [r3.2.1, gA_sI], fun k => by rw [r3.2.2, gV_sI]⟩⟩
      unfold m_X7_takes
      simp (disch := omega) only [ji1, ji2, ji3, ji4, ji5, ji6, ji7, ji8, ji9, ji10, ji11, ji12, ji13, ji14, ji15, ji16, ji19, ji20, ji39, ji119, ji144, ji366, ji24, ji31, ji32, ji45, ji48, ji57, ji58, ji59, ji97, ji120, ji122, ji183, ji200, ji226, ji240, ji255, ji500, jI_z, ↓jI_m1, jI_add, jI_sub, jI_mul, ↓hg133_0, hw133_0, ↓hg133_1, ↓hg133_2, ↓hg133_3, hw133_3, ↓hg133_4, hw133_4, ↓hg133_5, hw133_5, ↓hg133_6, hw133_6, ↓hg133_7, hw133_7, ↓hg133_8, hw133_8, ↓hg133_9, hw133_9, ↓hg133_10, hw133_10, ↓hg133_11, hw133_11, ↓hg133_12, hw133_12, ↓hg133_13, ↓hg133_14, hw133_14, ↓hg133_15, ↓hg133_16, ↓hg133_17, ↓hg133_18, ↓hg133_19, ↓hg133_20, ↓hg133_21, hw133_21, ↓hg133_22, ↓hg133_23, hw133_23, ↓hg133_24, hw133_24, ↓hg133_25, hw133_25, ↓hg133_26, hw133_26, ↓hg133_27, hw133_27, ↓hg133_28, ↓hg133_29, hw133_29, ↓hg133_30, hw133_30, ↓hg133_31, hw133_31, ↓hg133_32, hw133_32, ↓hg133_33, hw133_33, ↓hg133_34, hw133_34, ↓hg133_35, hw133_35, ↓hg133_36, hw133_36, ↓hg133_37, ↓hg133_38, ↓hg133_39, ↓hv133, ↓hx133, ha134, hu134, ↓hl134, ha135, hu135, ↓hl135, ha136, hu136, ↓hl136, ha137, hu137, ↓hl137, ha138, hu138, ↓hl138, ha139, hu139, ↓hl139, ha140, hu140, ↓hl140, ha141, hu141, ↓hl141, ha142, hu142, ↓hl142, ha143, hu143, ↓hl143, ha144, hu144, ↓hl144, ha145, hu145, ↓hl145, ha146, hu146, ↓hl146, ha147, hu147, ↓hl147, h7, jI_eq, e2, if_true, h8']
      rw [wi]
      simp (disch := omega) only [↓mo_cs_s, ↓mo_xs_r, ↓mo_xs_l, ↓mo_nl_s, mo_z_0, mo_z_1, j10, if_false, ↓hg133_0, hw133_0, ↓hg133_1, ↓hg133_2, ↓hg133_3, hw133_3, ↓hg133_4, hw133_4, ↓hg133_5, hw133_5, ↓hg133_6, hw133_6, ↓hg133_7, hw133_7, ↓hg133_8, hw133_8, ↓hg133_9, hw133_9, ↓hg133_10, hw133_10, ↓hg133_11, hw133_11, ↓hg133_12, hw133_12, ↓hg133_13, ↓hg133_14, hw133_14, ↓hg133_15, ↓hg133_16, ↓hg133_17, ↓hg133_18, ↓hg133_19, ↓hg133_20, ↓hg133_21, hw133_21, ↓hg133_22, ↓hg133_23, hw133_23, ↓hg133_24, hw133_24, ↓hg133_25, hw133_25, ↓hg133_26, hw133_26, ↓hg133_27, hw133_27, ↓hg133_28, ↓hg133_29, hw133_29, ↓hg133_30, hw133_30, ↓hg133_31, hw133_31, ↓hg133_32, hw133_32, ↓hg133_33, hw133_33, ↓hg133_34, hw133_34, ↓hg133_35, hw133_35, ↓hg133_36, hw133_36, ↓hg133_37, ↓hg133_38, ↓hg133_39, ↓hv133, ↓hx133, ha134, hu134, ↓hl134, ha135, hu135, ↓hl135, ha136, hu136, ↓hl136, ha137, hu137, ↓hl137, ha138, hu138, ↓hl138, ha139, hu139, ↓hl139, ha140, hu140, ↓hl140, ha141, hu141, ↓hl141, ha142, hu142, ↓hl142, ha143, hu143, ↓hl143, ha144, hu144, ↓hl144, ha145, hu145, ↓hl145, ha146, hu146, ↓hl146, ha147, hu147, ↓hl147, h8']
      rw [r1]
      simp (disch := omega) only [↓mo_cs_s, ↓mo_xs_r, ↓mo_xs_l, ↓mo_nl_s, mo_z_0, mo_z_1]
    · rw [if_neg hv]
      have wi := X7_wi0 (v := nV L p) (lo := lo) (hi := hi) (okW_n (by omega) (by omega)) (okW_n (by omega) (by omega)) (okW_n (by omega) (by omega)) hv (hp z M)
      obtain ⟨M2, s1, s2, s3⟩ := X7_fl (z := z) (c := 3) h9 h5
      refine Or.inl ⟨_, M2, rfl, ?_, s2, s3⟩
      unfold m_X7_takes
      simp (disch := omega) only [ji1, ji2, ji3, ji4, ji5, ji6, ji7, ji8, ji9, ji10, ji11, ji12, ji13, ji14, ji15, ji16, ji19, ji20, ji39, ji119, ji144, ji366, ji24, ji31, ji32, ji45, ji48, ji57, ji58, ji59, ji97, ji120, ji122, ji183, ji200, ji226, ji240, ji255, ji500, jI_z, ↓jI_m1, jI_add, jI_sub, jI_mul, ↓hg133_0, hw133_0, ↓hg133_1, ↓hg133_2, ↓hg133_3, hw133_3, ↓hg133_4, hw133_4, ↓hg133_5, hw133_5, ↓hg133_6, hw133_6, ↓hg133_7, hw133_7, ↓hg133_8, hw133_8, ↓hg133_9, hw133_9, ↓hg133_10, hw133_10, ↓hg133_11, hw133_11, ↓hg133_12, hw133_12, ↓hg133_13, ↓hg133_14, hw133_14, ↓hg133_15, ↓hg133_16, ↓hg133_17, ↓hg133_18, ↓hg133_19, ↓hg133_20, ↓hg133_21, hw133_21, ↓hg133_22, ↓hg133_23, hw133_23, ↓hg133_24, hw133_24, ↓hg133_25, hw133_25, ↓hg133_26, hw133_26, ↓hg133_27, hw133_27, ↓hg133_28, ↓hg133_29, hw133_29, ↓hg133_30, hw133_30, ↓hg133_31, hw133_31, ↓hg133_32, hw133_32, ↓hg133_33, hw133_33, ↓hg133_34, hw133_34, ↓hg133_35, hw133_35, ↓hg133_36, hw133_36, ↓hg133_37, ↓hg133_38, ↓hg133_39, ↓hv133, ↓hx133, ha134, hu134, ↓hl134, ha135, hu135, ↓hl135, ha136, hu136, ↓hl136, ha137, hu137, ↓hl137, ha138, hu138, ↓hl138, ha139, hu139, ↓hl139, ha140, hu140, ↓hl140, ha141, hu141, ↓hl141, ha142, hu142, ↓hl142, ha143, hu143, ↓hl143, ha144, hu144, ↓hl144, ha145, hu145, ↓hl145, ha146, hu146, ↓hl146, ha147, hu147, ↓hl147, h7, jI_eq, e2, if_true, h8']
      rw [wi]
      simp (disch := omega) only [↓mo_cs_s, ↓mo_xs_r, ↓mo_xs_l, ↓mo_nl_s, mo_z_0, mo_z_1, if_true, ↓hg133_0, hw133_0, ↓hg133_1, ↓hg133_2, ↓hg133_3, hw133_3, ↓hg133_4, hw133_4, ↓hg133_5, hw133_5, ↓hg133_6, hw133_6, ↓hg133_7, hw133_7, ↓hg133_8, hw133_8, ↓hg133_9, hw133_9, ↓hg133_10, hw133_10, ↓hg133_11, hw133_11, ↓hg133_12, hw133_12, ↓hg133_13, ↓hg133_14, hw133_14, ↓hg133_15, ↓hg133_16, ↓hg133_17, ↓hg133_18, ↓hg133_19, ↓hg133_20, ↓hg133_21, hw133_21, ↓hg133_22, ↓hg133_23, hw133_23, ↓hg133_24, hw133_24, ↓hg133_25, hw133_25, ↓hg133_26, hw133_26, ↓hg133_27, hw133_27, ↓hg133_28, ↓hg133_29, hw133_29, ↓hg133_30, hw133_30, ↓hg133_31, hw133_31, ↓hg133_32, hw133_32, ↓hg133_33, hw133_33, ↓hg133_34, hw133_34, ↓hg133_35, hw133_35, ↓hg133_36, hw133_36, ↓hg133_37, ↓hg133_38, ↓hg133_39, ↓hv133, ↓hx133, ha134, hu134, ↓hl134, ha135, hu135, ↓hl135, ha136, hu136, ↓hl136, ha137, hu137, ↓hl137, ha138, hu138, ↓hl138, ha139, hu139, ↓hl139, ha140, hu140, ↓hl140, ha141, hu141, ↓hl141, ha142, hu142, ↓hl142, ha143, hu143, ↓hl143, ha144, hu144, ↓hl144, ha145, hu145, ↓hl145, ha146, hu146, ↓hl146, ha147, hu147, ↓hl147]
      rw [s1]
      simp (disch := omega) only [↓mo_cs_s, ↓mo_xs_r, ↓mo_xs_l, ↓mo_nl_s, mo_z_0, mo_z_1]
  · rw [if_neg e2]
    obtain ⟨M2, s1, s2, s3⟩ := X7_fl (z := z) (c := 1) h9 h5
    refine Or.inl ⟨_, M2, rfl, ?_, s2, s3⟩
    unfold m_X7_takes
    simp (disch := omega) only [ji1, ji2, ji3, ji4, ji5, ji6, ji7, ji8, ji9, ji10, ji11, ji12, ji13, ji14, ji15, ji16, ji19, ji20, ji39, ji119, ji144, ji366, ji24, ji31, ji32, ji45, ji48, ji57, ji58, ji59, ji97, ji120, ji122, ji183, ji200, ji226, ji240, ji255, ji500, jI_z, ↓jI_m1, jI_add, jI_sub, jI_mul, ↓hg133_0, hw133_0, ↓hg133_1, ↓hg133_2, ↓hg133_3, hw133_3, ↓hg133_4, hw133_4, ↓hg133_5, hw133_5, ↓hg133_6, hw133_6, ↓hg133_7, hw133_7, ↓hg133_8, hw133_8, ↓hg133_9, hw133_9, ↓hg133_10, hw133_10, ↓hg133_11, hw133_11, ↓hg133_12, hw133_12, ↓hg133_13, ↓hg133_14, hw133_14, ↓hg133_15, ↓hg133_16, ↓hg133_17, ↓hg133_18, ↓hg133_19, ↓hg133_20, ↓hg133_21, hw133_21, ↓hg133_22, ↓hg133_23, hw133_23, ↓hg133_24, hw133_24, ↓hg133_25, hw133_25, ↓hg133_26, hw133_26, ↓hg133_27, hw133_27, ↓hg133_28, ↓hg133_29, hw133_29, ↓hg133_30, hw133_30, ↓hg133_31, hw133_31, ↓hg133_32, hw133_32, ↓hg133_33, hw133_33, ↓hg133_34, hw133_34, ↓hg133_35, hw133_35, ↓hg133_36, hw133_36, ↓hg133_37, ↓hg133_38, ↓hg133_39, ↓hv133, ↓hx133, ha134, hu134, ↓hl134, ha135, hu135, ↓hl135, ha136, hu136, ↓hl136, ha137, hu137, ↓hl137, ha138, hu138, ↓hl138, ha139, hu139, ↓hl139, ha140, hu140, ↓hl140, ha141, hu141, ↓hl141, ha142, hu142, ↓hl142, ha143, hu143, ↓hl143, ha144, hu144, ↓hl144, ha145, hu145, ↓hl145, ha146, hu146, ↓hl146, ha147, hu147, ↓hl147, h7, jI_eq, e2, if_false]
    rw [s1]
    simp (disch := omega) only [↓mo_cs_s, ↓mo_xs_r, ↓mo_xs_l, ↓mo_nl_s, mo_z_0, mo_z_1]
theorem X7_lay {z : Nat} {L : List Int} {M : hM} {s : hP} {k : Int} (hT : TXm M L) (ho : okP L s) (h : MP M L s) (hk : 0 ≤ k ∧ k ≤ 7) : RXm z M L (m_X7_lays (hp z M) (z + 133) (jI k)) (sSet L k s) := by
  obtain ⟨b1, b2, b3, b4⟩ := lh_in hk
  unfold sSet
  rcases X7_tk (z := z) (lo := loV k) (hi := hiV k) hT ho.2 h.2 h.1.2.2.1 (by omega) (by omega) with ⟨e, M1, r1, r2, r3, r4⟩ | ⟨v, M1, r1, r2, r3, r4, r5, r6, r7⟩
  · rw [r1]
    refine ⟨M1, ?_, r3, r4⟩
    unfold m_X7_lays
    rw [X7_low hk]
    simp (disch := omega) only [↓mo_cs_s, ↓mo_xs_r, ↓mo_xs_l, ↓mo_nl_s, mo_z_0, mo_z_1]
    rw [X7_high hk]
    simp (disch := omega) only [↓mo_cs_s, ↓mo_xs_r, ↓mo_xs_l, ↓mo_nl_s, mo_z_0, mo_z_1, ↓hg133_0, hw133_0, ↓hg133_1, ↓hg133_2, ↓hg133_3, hw133_3, ↓hg133_4, hw133_4, ↓hg133_5, hw133_5, ↓hg133_6, hw133_6, ↓hg133_7, hw133_7, ↓hg133_8, hw133_8, ↓hg133_9, hw133_9, ↓hg133_10, hw133_10, ↓hg133_11, hw133_11, ↓hg133_12, hw133_12, ↓hg133_13, ↓hg133_14, hw133_14, ↓hg133_15, ↓hg133_16, ↓hg133_17, ↓hg133_18, ↓hg133_19, ↓hg133_20, ↓hg133_21, hw133_21, ↓hg133_22, ↓hg133_23, hw133_23, ↓hg133_24, hw133_24, ↓hg133_25, hw133_25, ↓hg133_26, hw133_26, ↓hg133_27, hw133_27, ↓hg133_28, ↓hg133_29, hw133_29, ↓hg133_30, hw133_30, ↓hg133_31, hw133_31, ↓hg133_32, hw133_32, ↓hg133_33, hw133_33, ↓hg133_34, hw133_34, ↓hg133_35, hw133_35, ↓hg133_36, hw133_36, ↓hg133_37, ↓hg133_38, ↓hg133_39, ↓hv133, ↓hx133, ha134, hu134, ↓hl134, ha135, hu135, ↓hl135, ha136, hu136, ↓hl136, ha137, hu137, ↓hl137, ha138, hu138, ↓hl138, ha139, hu139, ↓hl139, ha140, hu140, ↓hl140, ha141, hu141, ↓hl141, ha142, hu142, ↓hl142, ha143, hu143, ↓hl143, ha144, hu144, ↓hl144, ha145, hu145, ↓hl145, ha146, hu146, ↓hl146, ha147, hu147, ↓hl147]
    rw [r2]
    simp (disch := omega) only [↓mo_cs_s, ↓mo_xs_r, ↓mo_xs_l, ↓mo_nl_s, mo_z_0, mo_z_1, ji1, ji2, ji3, ji4, ji5, ji6, ji7, ji8, ji9, ji10, ji11, ji12, ji13, ji14, ji15, ji16, ji19, ji20, ji39, ji119, ji144, ji366, ji24, ji31, ji32, ji45, ji48, ji57, ji58, ji59, ji97, ji120, ji122, ji183, ji200, ji226, ji240, ji255, ji500, jI_z, ↓jI_m1, jI_add, jI_sub, jI_mul, if_true]
  · rw [r1]
    have h1 := h.1.t r7
    refine ⟨sA M1 136 k.toNat v, ?_, ⟨⟨(h1.1.set hk).keep (fun j => by rw [gA_sA]; by_cases hj : j = k.toNat <;> simp [hj]), h1.2⟩, r6⟩, r7.x.trans (FXm_sA (by omega))⟩
    unfold m_X7_lays
    rw [X7_low hk]
    simp (disch := omega) only [↓mo_cs_s, ↓mo_xs_r, ↓mo_xs_l, ↓mo_nl_s, mo_z_0, mo_z_1]
    rw [X7_high hk]
    simp (disch := omega) only [↓mo_cs_s, ↓mo_xs_r, ↓mo_xs_l, ↓mo_nl_s, mo_z_0, mo_z_1, ↓hg133_0, hw133_0, ↓hg133_1, ↓hg133_2, ↓hg133_3, hw133_3, ↓hg133_4, hw133_4, ↓hg133_5, hw133_5, ↓hg133_6, hw133_6, ↓hg133_7, hw133_7, ↓hg133_8, hw133_8, ↓hg133_9, hw133_9, ↓hg133_10, hw133_10, ↓hg133_11, hw133_11, ↓hg133_12, hw133_12, ↓hg133_13, ↓hg133_14, hw133_14, ↓hg133_15, ↓hg133_16, ↓hg133_17, ↓hg133_18, ↓hg133_19, ↓hg133_20, ↓hg133_21, hw133_21, ↓hg133_22, ↓hg133_23, hw133_23, ↓hg133_24, hw133_24, ↓hg133_25, hw133_25, ↓hg133_26, hw133_26, ↓hg133_27, hw133_27, ↓hg133_28, ↓hg133_29, hw133_29, ↓hg133_30, hw133_30, ↓hg133_31, hw133_31, ↓hg133_32, hw133_32, ↓hg133_33, hw133_33, ↓hg133_34, hw133_34, ↓hg133_35, hw133_35, ↓hg133_36, hw133_36, ↓hg133_37, ↓hg133_38, ↓hg133_39, ↓hv133, ↓hx133, ha134, hu134, ↓hl134, ha135, hu135, ↓hl135, ha136, hu136, ↓hl136, ha137, hu137, ↓hl137, ha138, hu138, ↓hl138, ha139, hu139, ↓hl139, ha140, hu140, ↓hl140, ha141, hu141, ↓hl141, ha142, hu142, ↓hl142, ha143, hu143, ↓hl143, ha144, hu144, ↓hl144, ha145, hu145, ↓hl145, ha146, hu146, ↓hl146, ha147, hu147, ↓hl147]
    rw [r4]
    simp (disch := omega) only [↓mo_cs_s, ↓mo_xs_r, ↓mo_xs_l, ↓mo_nl_s, mo_z_0, mo_z_1, ji1, ji2, ji3, ji4, ji5, ji6, ji7, ji8, ji9, ji10, ji11, ji12, ji13, ji14, ji15, ji16, ji19, ji20, ji39, ji119, ji144, ji366, ji24, ji31, ji32, ji45, ji48, ji57, ji58, ji59, ji97, ji120, ji122, ji183, ji200, ji226, ji240, ji255, ji500, jI_z, ↓jI_m1, jI_add, jI_sub, jI_mul, j10, if_false, ↓hg133_0, hw133_0, ↓hg133_1, ↓hg133_2, ↓hg133_3, hw133_3, ↓hg133_4, hw133_4, ↓hg133_5, hw133_5, ↓hg133_6, hw133_6, ↓hg133_7, hw133_7, ↓hg133_8, hw133_8, ↓hg133_9, hw133_9, ↓hg133_10, hw133_10, ↓hg133_11, hw133_11, ↓hg133_12, hw133_12, ↓hg133_13, ↓hg133_14, hw133_14, ↓hg133_15, ↓hg133_16, ↓hg133_17, ↓hg133_18, ↓hg133_19, ↓hg133_20, ↓hg133_21, hw133_21, ↓hg133_22, ↓hg133_23, hw133_23, ↓hg133_24, hw133_24, ↓hg133_25, hw133_25, ↓hg133_26, hw133_26, ↓hg133_27, hw133_27, ↓hg133_28, ↓hg133_29, hw133_29, ↓hg133_30, hw133_30, ↓hg133_31, hw133_31, ↓hg133_32, hw133_32, ↓hg133_33, hw133_33, ↓hg133_34, hw133_34, ↓hg133_35, hw133_35, ↓hg133_36, hw133_36, ↓hg133_37, ↓hg133_38, ↓hg133_39, ↓hv133, ↓hx133, ha134, hu134, ↓hl134, ha135, hu135, ↓hl135, ha136, hu136, ↓hl136, ha137, hu137, ↓hl137, ha138, hu138, ↓hl138, ha139, hu139, ↓hl139, ha140, hu140, ↓hl140, ha141, hu141, ↓hl141, ha142, hu142, ↓hl142, ha143, hu143, ↓hl143, ha144, hu144, ↓hl144, ha145, hu145, ↓hl145, ha146, hu146, ↓hl146, ha147, hu147, ↓hl147, r5]
theorem X7_st1 {z p : Nat} {L : List Int} {M : hM} {c : Int32} (hT : TXm M L) (hp' : p ≤ L.length) (h : MT M L p) : ∃ M', m_X7_starts (hp z M) (z + 133) c (jI 1) = some (jI 1, hp z M') ∧ MT M' L (tN L p) ∧ FVm M M' := by
  obtain ⟨M1, r1, r2, r3⟩ := X7_adv (z := z) hT (tN_le hp') h.2.1
  refine ⟨M1, ?_, r2, r3⟩
  unfold m_X7_starts
  simp (disch := omega) only [ji1, ji2, ji3, ji4, ji5, ji6, ji7, ji8, ji9, ji10, ji11, ji12, ji13, ji14, ji15, ji16, ji19, ji20, ji39, ji119, ji144, ji366, ji24, ji31, ji32, ji45, ji48, ji57, ji58, ji59, ji97, ji120, ji122, ji183, ji200, ji226, ji240, ji255, ji500, jI_z, ↓jI_m1, jI_add, jI_sub, jI_mul, j10, if_false, ↓hg133_0, hw133_0, ↓hg133_1, ↓hg133_2, ↓hg133_3, hw133_3, ↓hg133_4, hw133_4, ↓hg133_5, hw133_5, ↓hg133_6, hw133_6, ↓hg133_7, hw133_7, ↓hg133_8, hw133_8, ↓hg133_9, hw133_9, ↓hg133_10, hw133_10, ↓hg133_11, hw133_11, ↓hg133_12, hw133_12, ↓hg133_13, ↓hg133_14, hw133_14, ↓hg133_15, ↓hg133_16, ↓hg133_17, ↓hg133_18, ↓hg133_19, ↓hg133_20, ↓hg133_21, hw133_21, ↓hg133_22, ↓hg133_23, hw133_23, ↓hg133_24, hw133_24, ↓hg133_25, hw133_25, ↓hg133_26, hw133_26, ↓hg133_27, hw133_27, ↓hg133_28, ↓hg133_29, hw133_29, ↓hg133_30, hw133_30, ↓hg133_31, hw133_31, ↓hg133_32, hw133_32, ↓hg133_33, hw133_33, ↓hg133_34, hw133_34, ↓hg133_35, hw133_35, ↓hg133_36, hw133_36, ↓hg133_37, ↓hg133_38, ↓hg133_39, ↓hv133, ↓hx133, ha134, hu134, ↓hl134, ha135, hu135, ↓hl135, ha136, hu136, ↓hl136, ha137, hu137, ↓hl137, ha138, hu138, ↓hl138, ha139, hu139, ↓hl139, ha140, hu140, ↓hl140, ha141, hu141, ↓hl141, ha142, hu142, ↓hl142, ha143, hu143, ↓hl143, ha144, hu144, ↓hl144, ha145, hu145, ↓hl145, ha146, hu146, ↓hl146, ha147, hu147, ↓hl147]
  rw [r1]
  simp (disch := omega) only [↓mo_cs_s, ↓mo_xs_r, ↓mo_xs_l, ↓mo_nl_s, mo_z_0, mo_z_1]
theorem X7_st0 {z t : Nat} {M : hM} {c : Int} (h9 : gI M 133 9 = 0) (h5 : gI M 133 5 = t) : ∃ M', m_X7_starts (hp z M) (z + 133) (jI c) (jI 0) = some (jI 0, hp z M') ∧ EM M' (c, (t : Int)) ∧ FXm M M' := by
  obtain ⟨M1, r1, r2, r3⟩ := X7_fl (z := z) (c := c) h9 h5
  refine ⟨M1, ?_, r2, r3⟩
  unfold m_X7_starts
  simp (disch := omega) only [ji1, ji2, ji3, ji4, ji5, ji6, ji7, ji8, ji9, ji10, ji11, ji12, ji13, ji14, ji15, ji16, ji19, ji20, ji39, ji119, ji144, ji366, ji24, ji31, ji32, ji45, ji48, ji57, ji58, ji59, ji97, ji120, ji122, ji183, ji200, ji226, ji240, ji255, ji500, jI_z, ↓jI_m1, jI_add, jI_sub, jI_mul, if_true, ↓hg133_0, hw133_0, ↓hg133_1, ↓hg133_2, ↓hg133_3, hw133_3, ↓hg133_4, hw133_4, ↓hg133_5, hw133_5, ↓hg133_6, hw133_6, ↓hg133_7, hw133_7, ↓hg133_8, hw133_8, ↓hg133_9, hw133_9, ↓hg133_10, hw133_10, ↓hg133_11, hw133_11, ↓hg133_12, hw133_12, ↓hg133_13, ↓hg133_14, hw133_14, ↓hg133_15, ↓hg133_16, ↓hg133_17, ↓hg133_18, ↓hg133_19, ↓hg133_20, ↓hg133_21, hw133_21, ↓hg133_22, ↓hg133_23, hw133_23, ↓hg133_24, hw133_24, ↓hg133_25, hw133_25, ↓hg133_26, hw133_26, ↓hg133_27, hw133_27, ↓hg133_28, ↓hg133_29, hw133_29, ↓hg133_30, hw133_30, ↓hg133_31, hw133_31, ↓hg133_32, hw133_32, ↓hg133_33, hw133_33, ↓hg133_34, hw133_34, ↓hg133_35, hw133_35, ↓hg133_36, hw133_36, ↓hg133_37, ↓hg133_38, ↓hg133_39, ↓hv133, ↓hx133, ha134, hu134, ↓hl134, ha135, hu135, ↓hl135, ha136, hu136, ↓hl136, ha137, hu137, ↓hl137, ha138, hu138, ↓hl138, ha139, hu139, ↓hl139, ha140, hu140, ↓hl140, ha141, hu141, ↓hl141, ha142, hu142, ↓hl142, ha143, hu143, ↓hl143, ha144, hu144, ↓hl144, ha145, hu145, ↓hl145, ha146, hu146, ↓hl146, ha147, hu147, ↓hl147]
  rw [r1]
  simp (disch := omega) only [↓mo_cs_s, ↓mo_xs_r, ↓mo_xs_l, ↓mo_nl_s, mo_z_0, mo_z_1]
theorem X7_cl {z : Nat} {L : List Int} {M : hM} {s : hP} (hT : TXm M L) (ho : okP L s) (h : MP M L s) : RXm z M L (m_X7_closes (hp z M) (z + 133)) (sSemi L s) := by
  have hk' : 0 ≤ tK L s.2.2 ∧ tK L s.2.2 ≤ 4 := eK_in
  have h7 := h.2.2.2.1
  unfold sSemi
  by_cases e : tK L s.2.2 = 3
  · rw [if_pos e]
    obtain ⟨M1, r1, r2, r3⟩ := X7_st1 (z := z) (c := jI 1) hT ho.2 h.2
    refine ⟨M1, ?_, ⟨h.1.v r3, r2⟩, r3.x⟩
    unfold m_X7_closes
    simp (disch := omega) only [ji1, ji2, ji3, ji4, ji5, ji6, ji7, ji8, ji9, ji10, ji11, ji12, ji13, ji14, ji15, ji16, ji19, ji20, ji39, ji119, ji144, ji366, ji24, ji31, ji32, ji45, ji48, ji57, ji58, ji59, ji97, ji120, ji122, ji183, ji200, ji226, ji240, ji255, ji500, jI_z, ↓jI_m1, jI_add, jI_sub, jI_mul, ↓hg133_0, hw133_0, ↓hg133_1, ↓hg133_2, ↓hg133_3, hw133_3, ↓hg133_4, hw133_4, ↓hg133_5, hw133_5, ↓hg133_6, hw133_6, ↓hg133_7, hw133_7, ↓hg133_8, hw133_8, ↓hg133_9, hw133_9, ↓hg133_10, hw133_10, ↓hg133_11, hw133_11, ↓hg133_12, hw133_12, ↓hg133_13, ↓hg133_14, hw133_14, ↓hg133_15, ↓hg133_16, ↓hg133_17, ↓hg133_18, ↓hg133_19, ↓hg133_20, ↓hg133_21, hw133_21, ↓hg133_22, ↓hg133_23, hw133_23, ↓hg133_24, hw133_24, ↓hg133_25, hw133_25, ↓hg133_26, hw133_26, ↓hg133_27, hw133_27, ↓hg133_28, ↓hg133_29, hw133_29, ↓hg133_30, hw133_30, ↓hg133_31, hw133_31, ↓hg133_32, hw133_32, ↓hg133_33, hw133_33, ↓hg133_34, hw133_34, ↓hg133_35, hw133_35, ↓hg133_36, hw133_36, ↓hg133_37, ↓hg133_38, ↓hg133_39, ↓hv133, ↓hx133, ha134, hu134, ↓hl134, ha135, hu135, ↓hl135, ha136, hu136, ↓hl136, ha137, hu137, ↓hl137, ha138, hu138, ↓hl138, ha139, hu139, ↓hl139, ha140, hu140, ↓hl140, ha141, hu141, ↓hl141, ha142, hu142, ↓hl142, ha143, hu143, ↓hl143, ha144, hu144, ↓hl144, ha145, hu145, ↓hl145, ha146, hu146, ↓hl146, ha147, hu147, ↓hl147, h7, jI_eq, e, if_true]
    rw [r1]
    simp (disch := omega) only [↓mo_cs_s, ↓mo_xs_r, ↓mo_xs_l, ↓mo_nl_s, mo_z_0, mo_z_1]
  · rw [if_neg e]
    obtain ⟨M1, r1, r2, r3⟩ := X7_st0 (z := z) (c := 1) h.1.2.2.1 h.2.1
    refine ⟨M1, ?_, r2, r3⟩
    unfold m_X7_closes
    simp (disch := omega) only [ji1, ji2, ji3, ji4, ji5, ji6, ji7, ji8, ji9, ji10, ji11, ji12, ji13, ji14, ji15, ji16, ji19, ji20, ji39, ji119, ji144, ji366, ji24, ji31, ji32, ji45, ji48, ji57, ji58, ji59, ji97, ji120, ji122, ji183, ji200, ji226, ji240, ji255, ji500, jI_z, ↓jI_m1, jI_add, jI_sub, jI_mul, ↓hg133_0, hw133_0, ↓hg133_1, ↓hg133_2, ↓hg133_3, hw133_3, ↓hg133_4, hw133_4, ↓hg133_5, hw133_5, ↓hg133_6, hw133_6, ↓hg133_7, hw133_7, ↓hg133_8, hw133_8, ↓hg133_9, hw133_9, ↓hg133_10, hw133_10, ↓hg133_11, hw133_11, ↓hg133_12, hw133_12, ↓hg133_13, ↓hg133_14, hw133_14, ↓hg133_15, ↓hg133_16, ↓hg133_17, ↓hg133_18, ↓hg133_19, ↓hg133_20, ↓hg133_21, hw133_21, ↓hg133_22, ↓hg133_23, hw133_23, ↓hg133_24, hw133_24, ↓hg133_25, hw133_25, ↓hg133_26, hw133_26, ↓hg133_27, hw133_27, ↓hg133_28, ↓hg133_29, hw133_29, ↓hg133_30, hw133_30, ↓hg133_31, hw133_31, ↓hg133_32, hw133_32, ↓hg133_33, hw133_33, ↓hg133_34, hw133_34, ↓hg133_35, hw133_35, ↓hg133_36, hw133_36, ↓hg133_37, ↓hg133_38, ↓hg133_39, ↓hv133, ↓hx133, ha134, hu134, ↓hl134, ha135, hu135, ↓hl135, ha136, hu136, ↓hl136, ha137, hu137, ↓hl137, ha138, hu138, ↓hl138, ha139, hu139, ↓hl139, ha140, hu140, ↓hl140, ha141, hu141, ↓hl141, ha142, hu142, ↓hl142, ha143, hu143, ↓hl143, ha144, hu144, ↓hl144, ha145, hu145, ↓hl145, ha146, hu146, ↓hl146, ha147, hu147, ↓hl147, h7, jI_eq, e, if_false]
    rw [r1]
    simp (disch := omega) only [↓mo_cs_s, ↓mo_xs_r, ↓mo_xs_l, ↓mo_nl_s, mo_z_0, mo_z_1]
/-- what may stand once -/
def bK (k : Nat) : Nat := if k = 7 then 3 else k - 3
theorem WM.bit {M : hM} {w : Nat → Bool} (h : WM M w) {k : Nat} (hk : wK k) : ∃ n : Nat, gI M 133 12 = n ∧ n < 256 ∧ n.testBit (bK k) = w k := by
  obtain ⟨n, h1, h2, h3, h4, h5, h6⟩ := h
  refine ⟨n, h1, h2, ?_⟩
  rcases hk with rfl | rfl | rfl | rfl
  · exact h3
  · exact h4
  · exact h5
  · exact h6
theorem X7_on {z k : Nat} {L : List Int} {M : hM} {s : hP} (hT : TXm M L) (ho : okP L s) (h : MP M L s) (hk : wK k) :
    RXm z M L (m_X7_once (hp z M) (z + 133) (jI (bK k))) (if s.2.1 k = true then .inl (2, tS L s.2.2) else .inr (s.1, fun j => if j = k then true else s.2.1 j, tN L s.2.2)) := by
  have hb : bK k < 4 := by unfold wK at hk; unfold bK; split <;> omega
  obtain ⟨n, n1, n2, n3⟩ := h.1.2.1.bit hk
  have hpw := pow_7 (j := bK k) (by omega)
  have hor := or_b8 n2 (j := bK k) (by omega)
  have F0 : FXm M (sI M 133 12 (n ||| 2 ^ bK k : Nat)) := FXm_sI (by omega)
  have hMT : MT (sI M 133 12 (n ||| 2 ^ bK k : Nat)) L s.2.2 := ⟨by rw [gI_sI, if_neg (by omega)]; exact h.2.1, by rw [gI_sI, if_neg (by omega)]; exact h.2.2.1, by rw [gI_sI, if_neg (by omega)]; exact h.2.2.2.1, fun e => by rw [gI_sI, if_neg (by omega)]; exact h.2.2.2.2 e⟩
  have h9 : gI (sI M 133 12 (n ||| 2 ^ bK k : Nat)) 133 9 = 0 := by rw [gI_sI, if_neg (by omega)]; exact h.1.2.2.1
  by_cases gw : s.2.1 k = true
  · rw [if_pos gw]
    obtain ⟨M1, r1, r2, r3⟩ := X7_st0 (z := z) (c := 2) h9 hMT.1
    refine ⟨M1, ?_, r2, F0.trans r3⟩
    unfold m_X7_once m_X7_once_j16
    simp (disch := omega) only [ji1, ji2, ji3, ji4, ji5, ji6, ji7, ji8, ji9, ji10, ji11, ji12, ji13, ji14, ji15, ji16, ji19, ji20, ji39, ji119, ji144, ji366, ji24, ji31, ji32, ji45, ji48, ji57, ji58, ji59, ji97, ji120, ji122, ji183, ji200, ji226, ji240, ji255, ji500, jI_z, ↓jI_m1, jI_add, jI_sub, jI_mul, ↓hg133_0, hw133_0, ↓hg133_1, ↓hg133_2, ↓hg133_3, hw133_3, ↓hg133_4, hw133_4, ↓hg133_5, hw133_5, ↓hg133_6, hw133_6, ↓hg133_7, hw133_7, ↓hg133_8, hw133_8, ↓hg133_9, hw133_9, ↓hg133_10, hw133_10, ↓hg133_11, hw133_11, ↓hg133_12, hw133_12, ↓hg133_13, ↓hg133_14, hw133_14, ↓hg133_15, ↓hg133_16, ↓hg133_17, ↓hg133_18, ↓hg133_19, ↓hg133_20, ↓hg133_21, hw133_21, ↓hg133_22, ↓hg133_23, hw133_23, ↓hg133_24, hw133_24, ↓hg133_25, hw133_25, ↓hg133_26, hw133_26, ↓hg133_27, hw133_27, ↓hg133_28, ↓hg133_29, hw133_29, ↓hg133_30, hw133_30, ↓hg133_31, hw133_31, ↓hg133_32, hw133_32, ↓hg133_33, hw133_33, ↓hg133_34, hw133_34, ↓hg133_35, hw133_35, ↓hg133_36, hw133_36, ↓hg133_37, ↓hg133_38, ↓hg133_39, ↓hv133, ↓hx133, ha134, hu134, ↓hl134, ha135, hu135, ↓hl135, ha136, hu136, ↓hl136, ha137, hu137, ↓hl137, ha138, hu138, ↓hl138, ha139, hu139, ↓hl139, ha140, hu140, ↓hl140, ha141, hu141, ↓hl141, ha142, hu142, ↓hl142, ha143, hu143, ↓hl143, ha144, hu144, ↓hl144, ha145, hu145, ↓hl145, ha146, hu146, ↓hl146, ha147, hu147, ↓hl147, n1, jT, jS, jI_or, Int.toNat_natCast, n3, gw, if_true, j10, if_false]
    rw [r1]
    simp (disch := omega) only [↓mo_cs_s, ↓mo_xs_r, ↓mo_xs_l, ↓mo_nl_s, mo_z_0, mo_z_1]
  · rw [if_neg gw]
    obtain ⟨M1, r1, r2, r3⟩ := X7_st1 (z := z) (c := jI 2) (hT.x F0) ho.2 hMT
    have hW : WM (sI M 133 12 (n ||| 2 ^ bK k : Nat)) (fun j => if j = k then true else s.2.1 j) := by
      obtain ⟨n', m1, m2, m3, m4, m5, m6⟩ := h.1.2.1
      have : n' = n := by rw [n1] at m1; omega
      subst this
      refine ⟨_, by rw [gI_sI, if_pos ⟨rfl, rfl⟩], hor, ?_⟩
      simp only [Nat.testBit_or, Nat.testBit_two_pow, m3, m4, m5, m6]
      rcases hk with rfl | rfl | rfl | rfl <;> simp [bK]
    have hP0 : MP0 (sI M 133 12 (n ||| 2 ^ bK k : Nat)) (s.1, fun j => if j = k then true else s.2.1 j, tN L s.2.2) := ⟨h.1.1, hW, h9, by rw [gI_sI, if_neg (by omega)]; exact h.1.2.2.2⟩
    refine ⟨M1, ?_, ⟨hP0.v r3, r2⟩, F0.trans r3.x⟩
    unfold m_X7_once m_X7_once_j16
    simp (disch := omega) only [ji1, ji2, ji3, ji4, ji5, ji6, ji7, ji8, ji9, ji10, ji11, ji12, ji13, ji14, ji15, ji16, ji19, ji20, ji39, ji119, ji144, ji366, ji24, ji31, ji32, ji45, ji48, ji57, ji58, ji59, ji97, ji120, ji122, ji183, ji200, ji226, ji240, ji255, ji500, jI_z, ↓jI_m1, jI_add, jI_sub, jI_mul, ↓hg133_0, hw133_0, ↓hg133_1, ↓hg133_2, ↓hg133_3, hw133_3, ↓hg133_4, hw133_4, ↓hg133_5, hw133_5, ↓hg133_6, hw133_6, ↓hg133_7, hw133_7, ↓hg133_8, hw133_8, ↓hg133_9, hw133_9, ↓hg133_10, hw133_10, ↓hg133_11, hw133_11, ↓hg133_12, hw133_12, ↓hg133_13, ↓hg133_14, hw133_14, ↓hg133_15, ↓hg133_16, ↓hg133_17, ↓hg133_18, ↓hg133_19, ↓hg133_20, ↓hg133_21, hw133_21, ↓hg133_22, ↓hg133_23, hw133_23, ↓hg133_24, hw133_24, ↓hg133_25, hw133_25, ↓hg133_26, hw133_26, ↓hg133_27, hw133_27, ↓hg133_28, ↓hg133_29, hw133_29, ↓hg133_30, hw133_30, ↓hg133_31, hw133_31, ↓hg133_32, hw133_32, ↓hg133_33, hw133_33, ↓hg133_34, hw133_34, ↓hg133_35, hw133_35, ↓hg133_36, hw133_36, ↓hg133_37, ↓hg133_38, ↓hg133_39, ↓hv133, ↓hx133, ha134, hu134, ↓hl134, ha135, hu135, ↓hl135, ha136, hu136, ↓hl136, ha137, hu137, ↓hl137, ha138, hu138, ↓hl138, ha139, hu139, ↓hl139, ha140, hu140, ↓hl140, ha141, hu141, ↓hl141, ha142, hu142, ↓hl142, ha143, hu143, ↓hl143, ha144, hu144, ↓hl144, ha145, hu145, ↓hl145, ha146, hu146, ↓hl146, ha147, hu147, ↓hl147, n1, jT, jS, jI_or, Int.toNat_natCast, n3, gw, Bool.false_eq_true, if_true, j10, if_false]
    rw [r1]
    simp (disch := omega) only [↓mo_cs_s, ↓mo_xs_r, ↓mo_xs_l, ↓mo_nl_s, mo_z_0, mo_z_1]
theorem fnd_big {kd nm : Int} {c : hCf} (hc : okC c) (h : 120 ≤ nm) : fnd kd nm c.2 0 = -1 := by
  rcases fnd_get (kd := kd) (nm := nm) c.2 0 with g | ⟨j, x, _, h2, _, h4⟩
  · exact g
  · have := (hc.at h2).2.2.2.1
    omega
theorem X7_co6 {z : Nat} {L : List Int} {M : hM} {s : hP} {kd nm am : Int} (h : MP M L s) (hc : okC s.1) (hl : s.1.2.length < 10) (hk : 0 ≤ kd ∧ kd ≤ 2) (hn : 0 ≤ nm ∧ nm < 120) (hno : fnd kd nm s.1.2 0 = -1) :
    ∃ M' v, m_X7_comes (hp z M) (z + 136) (jI kd) (jI nm) (jI am) = some (v, hp z M') ∧ MP M' L (cI s.1 kd nm am, s.2.1, s.2.2) ∧ FXm M M' := by
  obtain ⟨M1, r1, r2, r3⟩ := X7_co (z := z) (a := 136) (am := am) (Or.inr (Or.inl rfl)) hc h.1.1 hl hk hn hno
  obtain ⟨n, w1, w2⟩ := h.1.2.1
  have g := fun k => r3.2.1 133 k
  exact ⟨M1, _, r1, ⟨⟨r2, ⟨n, by rw [g]; exact w1, w2⟩, by rw [g]; exact h.1.2.2.1, by rw [g]; exact h.1.2.2.2⟩, ⟨by rw [g]; exact h.2.1, by rw [g]; exact h.2.2.1, by rw [g]; exact h.2.2.2.1, fun e => by rw [g]; exact h.2.2.2.2 e⟩⟩, FrR_x r3⟩
def sFl (L : List Int) (kd : Int) (s : hP) : hE := if s.1.2.length < 10 then (match sNum L 0 119 (tN L s.2.2) with
    | .inl e => .inl e
    | .inr nm => if fnd kd nm s.1.2 0 = -1 then sAmt L kd nm (s.1, s.2.1, tN L (tN L s.2.2)) else .inl (2, tS L (tN L s.2.2))) else .inl (4, tS L s.2.2)
theorem X7_j57 {z : Nat} {L : List Int} {M : hM} {s : hP} {kd : Int} (hT : TXm M L) (ho : okP L s) (h : MP M L s) (hk : 0 ≤ kd ∧ kd ≤ 2) (hl : s.1.2.length < 10) (hno : ∀ nm, sNum L 0 119 s.2.2 = .inr nm → fnd kd nm s.1.2 0 = -1) :
    RXm z M L (m_X7_faultLine_j57 (z + 133) (jI kd) (hp z M)) (match sNum L 0 119 s.2.2 with
      | .inl e => .inl e
      | .inr nm => sAmt L kd nm (s.1, s.2.1, tN L s.2.2)) := by
  rcases X7_tk (z := z) (lo := 0) (hi := 119) hT ho.2 h.2 h.1.2.2.1 (by omega) (by omega) with ⟨e, M1, r1, r2, r3, r4⟩ | ⟨nm, M1, r1, r2, r3, r4, r5, r6, r7⟩
  · rw [r1]
    refine ⟨M1, ?_, r3, r4⟩
    unfold m_X7_faultLine_j57
    simp (disch := omega) only [ji1, ji2, ji3, ji4, ji5, ji6, ji7, ji8, ji9, ji10, ji11, ji12, ji13, ji14, ji15, ji16, ji19, ji20, ji39, ji119, ji144, ji366, ji24, ji31, ji32, ji45, ji48, ji57, ji58, ji59, ji97, ji120, ji122, ji183, ji200, ji226, ji240, ji255, ji500, jI_z, ↓jI_m1, jI_add, jI_sub, jI_mul, ↓hg133_0, hw133_0, ↓hg133_1, ↓hg133_2, ↓hg133_3, hw133_3, ↓hg133_4, hw133_4, ↓hg133_5, hw133_5, ↓hg133_6, hw133_6, ↓hg133_7, hw133_7, ↓hg133_8, hw133_8, ↓hg133_9, hw133_9, ↓hg133_10, hw133_10, ↓hg133_11, hw133_11, ↓hg133_12, hw133_12, ↓hg133_13, ↓hg133_14, hw133_14, ↓hg133_15, ↓hg133_16, ↓hg133_17, ↓hg133_18, ↓hg133_19, ↓hg133_20, ↓hg133_21, hw133_21, ↓hg133_22, ↓hg133_23, hw133_23, ↓hg133_24, hw133_24, ↓hg133_25, hw133_25, ↓hg133_26, hw133_26, ↓hg133_27, hw133_27, ↓hg133_28, ↓hg133_29, hw133_29, ↓hg133_30, hw133_30, ↓hg133_31, hw133_31, ↓hg133_32, hw133_32, ↓hg133_33, hw133_33, ↓hg133_34, hw133_34, ↓hg133_35, hw133_35, ↓hg133_36, hw133_36, ↓hg133_37, ↓hg133_38, ↓hg133_39, ↓hv133, ↓hx133, ha134, hu134, ↓hl134, ha135, hu135, ↓hl135, ha136, hu136, ↓hl136, ha137, hu137, ↓hl137, ha138, hu138, ↓hl138, ha139, hu139, ↓hl139, ha140, hu140, ↓hl140, ha141, hu141, ↓hl141, ha142, hu142, ↓hl142, ha143, hu143, ↓hl143, ha144, hu144, ↓hl144, ha145, hu145, ↓hl145, ha146, hu146, ↓hl146, ha147, hu147, ↓hl147]
    rw [r2]
    simp (disch := omega) only [↓mo_cs_s, ↓mo_xs_r, ↓mo_xs_l, ↓mo_nl_s, mo_z_0, mo_z_1, if_true]
  · have hf := hno nm r1
    rw [r1]
    have h1 : MP M1 L (s.1, s.2.1, tN L s.2.2) := ⟨h.1.t r7, r6⟩
    have ho1 : okP L (s.1, s.2.1, tN L s.2.2) := ⟨ho.1, tN_le ho.2⟩
    show RXm z M L _ (sAmt L kd nm (s.1, s.2.1, tN L s.2.2))
    unfold sAmt
    by_cases e2 : kd = 2
    · rw [if_pos e2]
      rcases X7_tk (z := z) (lo := 1) (hi := 20) (hT.x r7.x) ho1.2 h1.2 h1.1.2.2.1 (by omega) (by omega) with ⟨e, M2, q1, q2, q3, q4⟩ | ⟨am, M2, q1, q2, q3, q4, q5, q6, q7⟩
      · rw [q1]
        refine ⟨M2, ?_, q3, r7.x.trans q4⟩
        unfold m_X7_faultLine_j57
        simp (disch := omega) only [ji1, ji2, ji3, ji4, ji5, ji6, ji7, ji8, ji9, ji10, ji11, ji12, ji13, ji14, ji15, ji16, ji19, ji20, ji39, ji119, ji144, ji366, ji24, ji31, ji32, ji45, ji48, ji57, ji58, ji59, ji97, ji120, ji122, ji183, ji200, ji226, ji240, ji255, ji500, jI_z, ↓jI_m1, jI_add, jI_sub, jI_mul, ↓hg133_0, hw133_0, ↓hg133_1, ↓hg133_2, ↓hg133_3, hw133_3, ↓hg133_4, hw133_4, ↓hg133_5, hw133_5, ↓hg133_6, hw133_6, ↓hg133_7, hw133_7, ↓hg133_8, hw133_8, ↓hg133_9, hw133_9, ↓hg133_10, hw133_10, ↓hg133_11, hw133_11, ↓hg133_12, hw133_12, ↓hg133_13, ↓hg133_14, hw133_14, ↓hg133_15, ↓hg133_16, ↓hg133_17, ↓hg133_18, ↓hg133_19, ↓hg133_20, ↓hg133_21, hw133_21, ↓hg133_22, ↓hg133_23, hw133_23, ↓hg133_24, hw133_24, ↓hg133_25, hw133_25, ↓hg133_26, hw133_26, ↓hg133_27, hw133_27, ↓hg133_28, ↓hg133_29, hw133_29, ↓hg133_30, hw133_30, ↓hg133_31, hw133_31, ↓hg133_32, hw133_32, ↓hg133_33, hw133_33, ↓hg133_34, hw133_34, ↓hg133_35, hw133_35, ↓hg133_36, hw133_36, ↓hg133_37, ↓hg133_38, ↓hg133_39, ↓hv133, ↓hx133, ha134, hu134, ↓hl134, ha135, hu135, ↓hl135, ha136, hu136, ↓hl136, ha137, hu137, ↓hl137, ha138, hu138, ↓hl138, ha139, hu139, ↓hl139, ha140, hu140, ↓hl140, ha141, hu141, ↓hl141, ha142, hu142, ↓hl142, ha143, hu143, ↓hl143, ha144, hu144, ↓hl144, ha145, hu145, ↓hl145, ha146, hu146, ↓hl146, ha147, hu147, ↓hl147]
        rw [r4]
        simp (disch := omega) only [↓mo_cs_s, ↓mo_xs_r, ↓mo_xs_l, ↓mo_nl_s, mo_z_0, mo_z_1, j10, i10, if_false, ↓hg133_0, hw133_0, ↓hg133_1, ↓hg133_2, ↓hg133_3, hw133_3, ↓hg133_4, hw133_4, ↓hg133_5, hw133_5, ↓hg133_6, hw133_6, ↓hg133_7, hw133_7, ↓hg133_8, hw133_8, ↓hg133_9, hw133_9, ↓hg133_10, hw133_10, ↓hg133_11, hw133_11, ↓hg133_12, hw133_12, ↓hg133_13, ↓hg133_14, hw133_14, ↓hg133_15, ↓hg133_16, ↓hg133_17, ↓hg133_18, ↓hg133_19, ↓hg133_20, ↓hg133_21, hw133_21, ↓hg133_22, ↓hg133_23, hw133_23, ↓hg133_24, hw133_24, ↓hg133_25, hw133_25, ↓hg133_26, hw133_26, ↓hg133_27, hw133_27, ↓hg133_28, ↓hg133_29, hw133_29, ↓hg133_30, hw133_30, ↓hg133_31, hw133_31, ↓hg133_32, hw133_32, ↓hg133_33, hw133_33, ↓hg133_34, hw133_34, ↓hg133_35, hw133_35, ↓hg133_36, hw133_36, ↓hg133_37, ↓hg133_38, ↓hg133_39, ↓hv133, ↓hx133, ha134, hu134, ↓hl134, ha135, hu135, ↓hl135, ha136, hu136, ↓hl136, ha137, hu137, ↓hl137, ha138, hu138, ↓hl138, ha139, hu139, ↓hl139, ha140, hu140, ↓hl140, ha141, hu141, ↓hl141, ha142, hu142, ↓hl142, ha143, hu143, ↓hl143, ha144, hu144, ↓hl144, ha145, hu145, ↓hl145, ha146, hu146, ↓hl146, ha147, hu147, ↓hl147, jI_eq]
        rw [if_pos e2, q2]
        simp (disch := omega) only [↓mo_cs_s, ↓mo_xs_r, ↓mo_xs_l, ↓mo_nl_s, mo_z_0, mo_z_1, if_true]
      · rw [q1]
        have h2 : MP M2 L (s.1, s.2.1, tN L (tN L s.2.2)) := ⟨h1.1.t q7, q6⟩
        obtain ⟨M3, v, t1, t2, t3⟩ := X7_co6 (z := z) (kd := kd) (nm := nm) (am := am) h2 ho.1 hl hk (by omega) hf
        refine ⟨M3, ?_, t2, (r7.x.trans q7.x).trans t3⟩
        unfold m_X7_faultLine_j57 m_X7_faultLine_j91
        simp (disch := omega) only [ji1, ji2, ji3, ji4, ji5, ji6, ji7, ji8, ji9, ji10, ji11, ji12, ji13, ji14, ji15, ji16, ji19, ji20, ji39, ji119, ji144, ji366, ji24, ji31, ji32, ji45, ji48, ji57, ji58, ji59, ji97, ji120, ji122, ji183, ji200, ji226, ji240, ji255, ji500, jI_z, ↓jI_m1, jI_add, jI_sub, jI_mul, ↓hg133_0, hw133_0, ↓hg133_1, ↓hg133_2, ↓hg133_3, hw133_3, ↓hg133_4, hw133_4, ↓hg133_5, hw133_5, ↓hg133_6, hw133_6, ↓hg133_7, hw133_7, ↓hg133_8, hw133_8, ↓hg133_9, hw133_9, ↓hg133_10, hw133_10, ↓hg133_11, hw133_11, ↓hg133_12, hw133_12, ↓hg133_13, ↓hg133_14, hw133_14, ↓hg133_15, ↓hg133_16, ↓hg133_17, ↓hg133_18, ↓hg133_19, ↓hg133_20, ↓hg133_21, hw133_21, ↓hg133_22, ↓hg133_23, hw133_23, ↓hg133_24, hw133_24, ↓hg133_25, hw133_25, ↓hg133_26, hw133_26, ↓hg133_27, hw133_27, ↓hg133_28, ↓hg133_29, hw133_29, ↓hg133_30, hw133_30, ↓hg133_31, hw133_31, ↓hg133_32, hw133_32, ↓hg133_33, hw133_33, ↓hg133_34, hw133_34, ↓hg133_35, hw133_35, ↓hg133_36, hw133_36, ↓hg133_37, ↓hg133_38, ↓hg133_39, ↓hv133, ↓hx133, ha134, hu134, ↓hl134, ha135, hu135, ↓hl135, ha136, hu136, ↓hl136, ha137, hu137, ↓hl137, ha138, hu138, ↓hl138, ha139, hu139, ↓hl139, ha140, hu140, ↓hl140, ha141, hu141, ↓hl141, ha142, hu142, ↓hl142, ha143, hu143, ↓hl143, ha144, hu144, ↓hl144, ha145, hu145, ↓hl145, ha146, hu146, ↓hl146, ha147, hu147, ↓hl147]
        rw [r4]
        simp (disch := omega) only [↓mo_cs_s, ↓mo_xs_r, ↓mo_xs_l, ↓mo_nl_s, mo_z_0, mo_z_1, j10, i10, if_false, ↓hg133_0, hw133_0, ↓hg133_1, ↓hg133_2, ↓hg133_3, hw133_3, ↓hg133_4, hw133_4, ↓hg133_5, hw133_5, ↓hg133_6, hw133_6, ↓hg133_7, hw133_7, ↓hg133_8, hw133_8, ↓hg133_9, hw133_9, ↓hg133_10, hw133_10, ↓hg133_11, hw133_11, ↓hg133_12, hw133_12, ↓hg133_13, ↓hg133_14, hw133_14, ↓hg133_15, ↓hg133_16, ↓hg133_17, ↓hg133_18, ↓hg133_19, ↓hg133_20, ↓hg133_21, hw133_21, ↓hg133_22, ↓hg133_23, hw133_23, ↓hg133_24, hw133_24, ↓hg133_25, hw133_25, ↓hg133_26, hw133_26, ↓hg133_27, hw133_27, ↓hg133_28, ↓hg133_29, hw133_29, ↓hg133_30, hw133_30, ↓hg133_31, hw133_31, ↓hg133_32, hw133_32, ↓hg133_33, hw133_33, ↓hg133_34, hw133_34, ↓hg133_35, hw133_35, ↓hg133_36, hw133_36, ↓hg133_37, ↓hg133_38, ↓hg133_39, ↓hv133, ↓hx133, ha134, hu134, ↓hl134, ha135, hu135, ↓hl135, ha136, hu136, ↓hl136, ha137, hu137, ↓hl137, ha138, hu138, ↓hl138, ha139, hu139, ↓hl139, ha140, hu140, ↓hl140, ha141, hu141, ↓hl141, ha142, hu142, ↓hl142, ha143, hu143, ↓hl143, ha144, hu144, ↓hl144, ha145, hu145, ↓hl145, ha146, hu146, ↓hl146, ha147, hu147, ↓hl147, jI_eq]
        rw [if_pos e2, q4]
        simp (disch := omega) only [↓mo_cs_s, ↓mo_xs_r, ↓mo_xs_l, ↓mo_nl_s, mo_z_0, mo_z_1, i10, if_false, ↓hg133_0, hw133_0, ↓hg133_1, ↓hg133_2, ↓hg133_3, hw133_3, ↓hg133_4, hw133_4, ↓hg133_5, hw133_5, ↓hg133_6, hw133_6, ↓hg133_7, hw133_7, ↓hg133_8, hw133_8, ↓hg133_9, hw133_9, ↓hg133_10, hw133_10, ↓hg133_11, hw133_11, ↓hg133_12, hw133_12, ↓hg133_13, ↓hg133_14, hw133_14, ↓hg133_15, ↓hg133_16, ↓hg133_17, ↓hg133_18, ↓hg133_19, ↓hg133_20, ↓hg133_21, hw133_21, ↓hg133_22, ↓hg133_23, hw133_23, ↓hg133_24, hw133_24, ↓hg133_25, hw133_25, ↓hg133_26, hw133_26, ↓hg133_27, hw133_27, ↓hg133_28, ↓hg133_29, hw133_29, ↓hg133_30, hw133_30, ↓hg133_31, hw133_31, ↓hg133_32, hw133_32, ↓hg133_33, hw133_33, ↓hg133_34, hw133_34, ↓hg133_35, hw133_35, ↓hg133_36, hw133_36, ↓hg133_37, ↓hg133_38, ↓hg133_39, ↓hv133, ↓hx133, ha134, hu134, ↓hl134, ha135, hu135, ↓hl135, ha136, hu136, ↓hl136, ha137, hu137, ↓hl137, ha138, hu138, ↓hl138, ha139, hu139, ↓hl139, ha140, hu140, ↓hl140, ha141, hu141, ↓hl141, ha142, hu142, ↓hl142, ha143, hu143, ↓hl143, ha144, hu144, ↓hl144, ha145, hu145, ↓hl145, ha146, hu146, ↓hl146, ha147, hu147, ↓hl147, jI_eq, q5, r5]
        rw [if_pos e2, t1]
        simp (disch := omega) only [↓mo_cs_s, ↓mo_xs_r, ↓mo_xs_l, ↓mo_nl_s, mo_z_0, mo_z_1]
    · rw [if_neg e2]
      obtain ⟨M3, v, t1, t2, t3⟩ := X7_co6 (z := z) (kd := kd) (nm := nm) (am := 0) h1 ho.1 hl hk (by omega) hf
      refine ⟨M3, ?_, t2, r7.x.trans t3⟩
      unfold m_X7_faultLine_j57 m_X7_faultLine_j91
      simp (disch := omega) only [ji1, ji2, ji3, ji4, ji5, ji6, ji7, ji8, ji9, ji10, ji11, ji12, ji13, ji14, ji15, ji16, ji19, ji20, ji39, ji119, ji144, ji366, ji24, ji31, ji32, ji45, ji48, ji57, ji58, ji59, ji97, ji120, ji122, ji183, ji200, ji226, ji240, ji255, ji500, jI_z, ↓jI_m1, jI_add, jI_sub, jI_mul, ↓hg133_0, hw133_0, ↓hg133_1, ↓hg133_2, ↓hg133_3, hw133_3, ↓hg133_4, hw133_4, ↓hg133_5, hw133_5, ↓hg133_6, hw133_6, ↓hg133_7, hw133_7, ↓hg133_8, hw133_8, ↓hg133_9, hw133_9, ↓hg133_10, hw133_10, ↓hg133_11, hw133_11, ↓hg133_12, hw133_12, ↓hg133_13, ↓hg133_14, hw133_14, ↓hg133_15, ↓hg133_16, ↓hg133_17, ↓hg133_18, ↓hg133_19, ↓hg133_20, ↓hg133_21, hw133_21, ↓hg133_22, ↓hg133_23, hw133_23, ↓hg133_24, hw133_24, ↓hg133_25, hw133_25, ↓hg133_26, hw133_26, ↓hg133_27, hw133_27, ↓hg133_28, ↓hg133_29, hw133_29, ↓hg133_30, hw133_30, ↓hg133_31, hw133_31, ↓hg133_32, hw133_32, ↓hg133_33, hw133_33, ↓hg133_34, hw133_34, ↓hg133_35, hw133_35, ↓hg133_36, hw133_36, ↓hg133_37, ↓hg133_38, ↓hg133_39, ↓hv133, ↓hx133, ha134, hu134, ↓hl134, ha135, hu135, ↓hl135, ha136, hu136, ↓hl136, ha137, hu137, ↓hl137, ha138, hu138, ↓hl138, ha139, hu139, ↓hl139, ha140, hu140, ↓hl140, ha141, hu141, ↓hl141, ha142, hu142, ↓hl142, ha143, hu143, ↓hl143, ha144, hu144, ↓hl144, ha145, hu145, ↓hl145, ha146, hu146, ↓hl146, ha147, hu147, ↓hl147]
      rw [r4]
      simp (disch := omega) only [↓mo_cs_s, ↓mo_xs_r, ↓mo_xs_l, ↓mo_nl_s, mo_z_0, mo_z_1, j10, i10, if_false, ↓hg133_0, hw133_0, ↓hg133_1, ↓hg133_2, ↓hg133_3, hw133_3, ↓hg133_4, hw133_4, ↓hg133_5, hw133_5, ↓hg133_6, hw133_6, ↓hg133_7, hw133_7, ↓hg133_8, hw133_8, ↓hg133_9, hw133_9, ↓hg133_10, hw133_10, ↓hg133_11, hw133_11, ↓hg133_12, hw133_12, ↓hg133_13, ↓hg133_14, hw133_14, ↓hg133_15, ↓hg133_16, ↓hg133_17, ↓hg133_18, ↓hg133_19, ↓hg133_20, ↓hg133_21, hw133_21, ↓hg133_22, ↓hg133_23, hw133_23, ↓hg133_24, hw133_24, ↓hg133_25, hw133_25, ↓hg133_26, hw133_26, ↓hg133_27, hw133_27, ↓hg133_28, ↓hg133_29, hw133_29, ↓hg133_30, hw133_30, ↓hg133_31, hw133_31, ↓hg133_32, hw133_32, ↓hg133_33, hw133_33, ↓hg133_34, hw133_34, ↓hg133_35, hw133_35, ↓hg133_36, hw133_36, ↓hg133_37, ↓hg133_38, ↓hg133_39, ↓hv133, ↓hx133, ha134, hu134, ↓hl134, ha135, hu135, ↓hl135, ha136, hu136, ↓hl136, ha137, hu137, ↓hl137, ha138, hu138, ↓hl138, ha139, hu139, ↓hl139, ha140, hu140, ↓hl140, ha141, hu141, ↓hl141, ha142, hu142, ↓hl142, ha143, hu143, ↓hl143, ha144, hu144, ↓hl144, ha145, hu145, ↓hl145, ha146, hu146, ↓hl146, ha147, hu147, ↓hl147, jI_eq, r5]
      rw [if_neg e2, if_neg e2, t1]
      simp (disch := omega) only [↓mo_cs_s, ↓mo_xs_r, ↓mo_xs_l, ↓mo_nl_s, mo_z_0, mo_z_1]
theorem X7_fault6 {z : Nat} {L : List Int} {M : hM} {s : hP} {kd : Int} (hT : TXm M L) (ho : okP L s) (h : MP M L s) (hk : 0 ≤ kd ∧ kd ≤ 2) : RXm z M L (m_X7_faultLine (hp z M) (z + 133) (jI kd)) (sFl L kd s) := by
  have e8 := h.1.1.ok8
  have hl10 := ho.1.1
  unfold sFl
  by_cases g10 : s.1.2.length < 10
  · rw [if_pos g10]
    have g10' : (s.1.2.length : Int) < 10 := by omega
    obtain ⟨M1, r1, r2, r3⟩ := X7_st1 (z := z) (c := jI 4) hT ho.2 h.2
    have h1 : MP M1 L (s.1, s.2.1, tN L s.2.2) := ⟨h.1.v r3, r2⟩
    have ho1 : okP L (s.1, s.2.1, tN L s.2.2) := ⟨ho.1, tN_le ho.2⟩
    have hT1 := hT.v r3
    have hk' : 0 ≤ tK L (tN L s.2.2) ∧ tK L (tN L s.2.2) ≤ 4 := eK_in
    have pre : ∀ r, (if tK L (tN L s.2.2) = 2 then (mo_gi (hp z M1) (z + 133) 7 8 fun x11 => mo_cs (m_X7_placeOf (hp z M1) (z + 136) (jI kd) x11) fun x13 σ12 => if x13 = jI (-1) then m_X7_faultLine_j57 (z + 133) (jI kd) σ12 else mo_cv σ12 (z + 133) 7 (m_X7_fails σ12 (z + 133) (jI 2)) fun x15 σ14 => mo_z x15 (some (x15, σ14))) else m_X7_faultLine_j57 (z + 133) (jI kd) (hp z M1)) = r → m_X7_faultLine (hp z M) (z + 133) (jI kd) = r := by
      intro r hr
      rw [← hr]
      have k7 := r2.2.2.1
      unfold m_X7_faultLine m_X7_faultLine_j19
      simp (disch := omega) only [ji1, ji2, ji3, ji4, ji5, ji6, ji7, ji8, ji9, ji10, ji11, ji12, ji13, ji14, ji15, ji16, ji19, ji20, ji39, ji119, ji144, ji366, ji24, ji31, ji32, ji45, ji48, ji57, ji58, ji59, ji97, ji120, ji122, ji183, ji200, ji226, ji240, ji255, ji500, jI_z, ↓jI_m1, jI_add, jI_sub, jI_mul, ↓hg133_0, hw133_0, ↓hg133_1, ↓hg133_2, ↓hg133_3, hw133_3, ↓hg133_4, hw133_4, ↓hg133_5, hw133_5, ↓hg133_6, hw133_6, ↓hg133_7, hw133_7, ↓hg133_8, hw133_8, ↓hg133_9, hw133_9, ↓hg133_10, hw133_10, ↓hg133_11, hw133_11, ↓hg133_12, hw133_12, ↓hg133_13, ↓hg133_14, hw133_14, ↓hg133_15, ↓hg133_16, ↓hg133_17, ↓hg133_18, ↓hg133_19, ↓hg133_20, ↓hg133_21, hw133_21, ↓hg133_22, ↓hg133_23, hw133_23, ↓hg133_24, hw133_24, ↓hg133_25, hw133_25, ↓hg133_26, hw133_26, ↓hg133_27, hw133_27, ↓hg133_28, ↓hg133_29, hw133_29, ↓hg133_30, hw133_30, ↓hg133_31, hw133_31, ↓hg133_32, hw133_32, ↓hg133_33, hw133_33, ↓hg133_34, hw133_34, ↓hg133_35, hw133_35, ↓hg133_36, hw133_36, ↓hg133_37, ↓hg133_38, ↓hg133_39, ↓hv133, ↓hx133, ha134, hu134, ↓hl134, ha135, hu135, ↓hl135, ha136, hu136, ↓hl136, ha137, hu137, ↓hl137, ha138, hu138, ↓hl138, ha139, hu139, ↓hl139, ha140, hu140, ↓hl140, ha141, hu141, ↓hl141, ha142, hu142, ↓hl142, ha143, hu143, ↓hl143, ha144, hu144, ↓hl144, ha145, hu145, ↓hl145, ha146, hu146, ↓hl146, ha147, hu147, ↓hl147, e8, jI_lt, g10', if_true]
      rw [r1]
      simp (disch := omega) only [↓mo_cs_s, ↓mo_xs_r, ↓mo_xs_l, ↓mo_nl_s, mo_z_0, mo_z_1, j10, i10, if_false, ↓hg133_0, hw133_0, ↓hg133_1, ↓hg133_2, ↓hg133_3, hw133_3, ↓hg133_4, hw133_4, ↓hg133_5, hw133_5, ↓hg133_6, hw133_6, ↓hg133_7, hw133_7, ↓hg133_8, hw133_8, ↓hg133_9, hw133_9, ↓hg133_10, hw133_10, ↓hg133_11, hw133_11, ↓hg133_12, hw133_12, ↓hg133_13, ↓hg133_14, hw133_14, ↓hg133_15, ↓hg133_16, ↓hg133_17, ↓hg133_18, ↓hg133_19, ↓hg133_20, ↓hg133_21, hw133_21, ↓hg133_22, ↓hg133_23, hw133_23, ↓hg133_24, hw133_24, ↓hg133_25, hw133_25, ↓hg133_26, hw133_26, ↓hg133_27, hw133_27, ↓hg133_28, ↓hg133_29, hw133_29, ↓hg133_30, hw133_30, ↓hg133_31, hw133_31, ↓hg133_32, hw133_32, ↓hg133_33, hw133_33, ↓hg133_34, hw133_34, ↓hg133_35, hw133_35, ↓hg133_36, hw133_36, ↓hg133_37, ↓hg133_38, ↓hg133_39, ↓hv133, ↓hx133, ha134, hu134, ↓hl134, ha135, hu135, ↓hl135, ha136, hu136, ↓hl136, ha137, hu137, ↓hl137, ha138, hu138, ↓hl138, ha139, hu139, ↓hl139, ha140, hu140, ↓hl140, ha141, hu141, ↓hl141, ha142, hu142, ↓hl142, ha143, hu143, ↓hl143, ha144, hu144, ↓hl144, ha145, hu145, ↓hl145, ha146, hu146, ↓hl146, ha147, hu147, ↓hl147, k7, jI_eq]
    by_cases e2 : tK L (tN L s.2.2) = 2
    · rw [if_pos e2] at pre
      obtain ⟨n1, n2, n3, n4, n5⟩ := nV_in e2
      have k8 := r2.2.2.2 e2
      have pl := X7_pl (z := z) (a := 136) (kd := kd) (nm := nV L (tN L s.2.2)) (Or.inr (Or.inl rfl)) h1.1.1 ho.1 (okW_n (by omega) (by omega)) (okW_n (by omega) (by omega))
      have hfi := fnd_in (kd := kd) (nm := nV L (tN L s.2.2)) hl10
      simp (disch := omega) only [↓hg133_0, hw133_0, ↓hg133_1, ↓hg133_2, ↓hg133_3, hw133_3, ↓hg133_4, hw133_4, ↓hg133_5, hw133_5, ↓hg133_6, hw133_6, ↓hg133_7, hw133_7, ↓hg133_8, hw133_8, ↓hg133_9, hw133_9, ↓hg133_10, hw133_10, ↓hg133_11, hw133_11, ↓hg133_12, hw133_12, ↓hg133_13, ↓hg133_14, hw133_14, ↓hg133_15, ↓hg133_16, ↓hg133_17, ↓hg133_18, ↓hg133_19, ↓hg133_20, ↓hg133_21, hw133_21, ↓hg133_22, ↓hg133_23, hw133_23, ↓hg133_24, hw133_24, ↓hg133_25, hw133_25, ↓hg133_26, hw133_26, ↓hg133_27, hw133_27, ↓hg133_28, ↓hg133_29, hw133_29, ↓hg133_30, hw133_30, ↓hg133_31, hw133_31, ↓hg133_32, hw133_32, ↓hg133_33, hw133_33, ↓hg133_34, hw133_34, ↓hg133_35, hw133_35, ↓hg133_36, hw133_36, ↓hg133_37, ↓hg133_38, ↓hg133_39, ↓hv133, ↓hx133, ha134, hu134, ↓hl134, ha135, hu135, ↓hl135, ha136, hu136, ↓hl136, ha137, hu137, ↓hl137, ha138, hu138, ↓hl138, ha139, hu139, ↓hl139, ha140, hu140, ↓hl140, ha141, hu141, ↓hl141, ha142, hu142, ↓hl142, ha143, hu143, ↓hl143, ha144, hu144, ↓hl144, ha145, hu145, ↓hl145, ha146, hu146, ↓hl146, ha147, hu147, ↓hl147, k8] at pre
      rw [pl] at pre
      simp (disch := omega) only [↓mo_cs_s, ↓mo_xs_r, ↓mo_xs_l, ↓mo_nl_s, mo_z_0, mo_z_1, jI_eq, ↓hg133_0, hw133_0, ↓hg133_1, ↓hg133_2, ↓hg133_3, hw133_3, ↓hg133_4, hw133_4, ↓hg133_5, hw133_5, ↓hg133_6, hw133_6, ↓hg133_7, hw133_7, ↓hg133_8, hw133_8, ↓hg133_9, hw133_9, ↓hg133_10, hw133_10, ↓hg133_11, hw133_11, ↓hg133_12, hw133_12, ↓hg133_13, ↓hg133_14, hw133_14, ↓hg133_15, ↓hg133_16, ↓hg133_17, ↓hg133_18, ↓hg133_19, ↓hg133_20, ↓hg133_21, hw133_21, ↓hg133_22, ↓hg133_23, hw133_23, ↓hg133_24, hw133_24, ↓hg133_25, hw133_25, ↓hg133_26, hw133_26, ↓hg133_27, hw133_27, ↓hg133_28, ↓hg133_29, hw133_29, ↓hg133_30, hw133_30, ↓hg133_31, hw133_31, ↓hg133_32, hw133_32, ↓hg133_33, hw133_33, ↓hg133_34, hw133_34, ↓hg133_35, hw133_35, ↓hg133_36, hw133_36, ↓hg133_37, ↓hg133_38, ↓hg133_39, ↓hv133, ↓hx133, ha134, hu134, ↓hl134, ha135, hu135, ↓hl135, ha136, hu136, ↓hl136, ha137, hu137, ↓hl137, ha138, hu138, ↓hl138, ha139, hu139, ↓hl139, ha140, hu140, ↓hl140, ha141, hu141, ↓hl141, ha142, hu142, ↓hl142, ha143, hu143, ↓hl143, ha144, hu144, ↓hl144, ha145, hu145, ↓hl145, ha146, hu146, ↓hl146, ha147, hu147, ↓hl147] at pre
      by_cases g119 : nV L (tN L s.2.2) ≤ 119
      · have es : sNum L 0 119 (tN L s.2.2) = .inr (nV L (tN L s.2.2)) := by unfold sNum; rw [if_pos e2, if_pos ⟨n1, g119⟩]
        by_cases gf : fnd kd (nV L (tN L s.2.2)) s.1.2 0 = -1
        · rw [if_pos gf] at pre
          have hj := X7_j57 (z := z) (kd := kd) hT1 ho1 h1 hk g10 (fun nm hnm => by
            have : sNum L 0 119 (tN L s.2.2) = .inr nm := hnm
            rw [es] at this; cases this; exact gf)
          have hj' : RXm z M1 L (m_X7_faultLine_j57 (z + 133) (jI kd) (hp z M1)) (sAmt L kd (nV L (tN L s.2.2)) (s.1, s.2.1, tN L (tN L s.2.2))) := by
            simp only [es] at hj
            exact hj
          rw [es]
          show RXm z M L _ (if fnd kd (nV L (tN L s.2.2)) s.1.2 0 = -1 then _ else _)
          rw [if_pos gf]
          revert hj'
          cases sAmt L kd (nV L (tN L s.2.2)) (s.1, s.2.1, tN L (tN L s.2.2)) with
          | inl e => intro hj'; obtain ⟨M2, t1, t2, t3⟩ := hj'; exact ⟨M2, pre _ t1, t2, r3.x.trans t3⟩
          | inr e => intro hj'; obtain ⟨M2, t1, t2, t3⟩ := hj'; exact ⟨M2, pre _ t1, t2, r3.x.trans t3⟩
        · rw [if_neg gf] at pre
          rw [es]
          show RXm z M L _ (if fnd kd (nV L (tN L s.2.2)) s.1.2 0 = -1 then _ else _)
          rw [if_neg gf]
          obtain ⟨M2, t1, t2, t3⟩ := X7_fl (z := z) (c := 2) h1.1.2.2.1 r2.1
          refine ⟨M2, pre _ ?_, t2, r3.x.trans t3⟩
          rw [t1]
          simp (disch := omega) only [↓mo_cs_s, ↓mo_xs_r, ↓mo_xs_l, ↓mo_nl_s, mo_z_0, mo_z_1]
      · have es : sNum L 0 119 (tN L s.2.2) = .inl (3, tS L (tN L s.2.2)) := by unfold sNum; rw [if_pos e2, if_neg (fun hh => g119 hh.2)]
        rw [if_pos (fnd_big ho.1 (by omega))] at pre
        have hj := X7_j57 (z := z) (kd := kd) hT1 ho1 h1 hk g10 (fun nm hnm => by
          have : sNum L 0 119 (tN L s.2.2) = .inr nm := hnm
          rw [es] at this; cases this)
        simp only [es] at hj
        rw [es]
        obtain ⟨M2, t1, t2, t3⟩ := hj
        exact ⟨M2, pre _ t1, t2, r3.x.trans t3⟩
    · rw [if_neg e2] at pre
      have es : sNum L 0 119 (tN L s.2.2) = .inl (1, tS L (tN L s.2.2)) := by unfold sNum; rw [if_neg e2]
      have hj := X7_j57 (z := z) (kd := kd) hT1 ho1 h1 hk g10 (fun nm hnm => by
        have : sNum L 0 119 (tN L s.2.2) = .inr nm := hnm
        rw [es] at this; cases this)
      simp only [es] at hj
      rw [es]
      obtain ⟨M2, t1, t2, t3⟩ := hj
      exact ⟨M2, pre _ t1, t2, r3.x.trans t3⟩
  · rw [if_neg g10]
    have g10' : ¬ (s.1.2.length : Int) < 10 := by omega
    obtain ⟨M2, s1, s2, s3⟩ := X7_st0 (z := z) (c := 4) h.1.2.2.1 h.2.1
    refine ⟨M2, ?_, s2, s3⟩
    unfold m_X7_faultLine m_X7_faultLine_j19
    simp (disch := omega) only [ji1, ji2, ji3, ji4, ji5, ji6, ji7, ji8, ji9, ji10, ji11, ji12, ji13, ji14, ji15, ji16, ji19, ji20, ji39, ji119, ji144, ji366, ji24, ji31, ji32, ji45, ji48, ji57, ji58, ji59, ji97, ji120, ji122, ji183, ji200, ji226, ji240, ji255, ji500, jI_z, ↓jI_m1, jI_add, jI_sub, jI_mul, ↓hg133_0, hw133_0, ↓hg133_1, ↓hg133_2, ↓hg133_3, hw133_3, ↓hg133_4, hw133_4, ↓hg133_5, hw133_5, ↓hg133_6, hw133_6, ↓hg133_7, hw133_7, ↓hg133_8, hw133_8, ↓hg133_9, hw133_9, ↓hg133_10, hw133_10, ↓hg133_11, hw133_11, ↓hg133_12, hw133_12, ↓hg133_13, ↓hg133_14, hw133_14, ↓hg133_15, ↓hg133_16, ↓hg133_17, ↓hg133_18, ↓hg133_19, ↓hg133_20, ↓hg133_21, hw133_21, ↓hg133_22, ↓hg133_23, hw133_23, ↓hg133_24, hw133_24, ↓hg133_25, hw133_25, ↓hg133_26, hw133_26, ↓hg133_27, hw133_27, ↓hg133_28, ↓hg133_29, hw133_29, ↓hg133_30, hw133_30, ↓hg133_31, hw133_31, ↓hg133_32, hw133_32, ↓hg133_33, hw133_33, ↓hg133_34, hw133_34, ↓hg133_35, hw133_35, ↓hg133_36, hw133_36, ↓hg133_37, ↓hg133_38, ↓hg133_39, ↓hv133, ↓hx133, ha134, hu134, ↓hl134, ha135, hu135, ↓hl135, ha136, hu136, ↓hl136, ha137, hu137, ↓hl137, ha138, hu138, ↓hl138, ha139, hu139, ↓hl139, ha140, hu140, ↓hl140, ha141, hu141, ↓hl141, ha142, hu142, ↓hl142, ha143, hu143, ↓hl143, ha144, hu144, ↓hl144, ha145, hu145, ↓hl145, ha146, hu146, ↓hl146, ha147, hu147, ↓hl147, e8, jI_lt, g10', if_false]
    rw [s1]
    simp (disch := omega) only [↓mo_cs_s, ↓mo_xs_r, ↓mo_xs_l, ↓mo_nl_s, mo_z_0, mo_z_1, if_true]

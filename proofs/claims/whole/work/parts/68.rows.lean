/-! THE MODEL: rows. -/
def RR (f : Nat → Int) (c : hCf) : Prop := (∀ k, k < 8 → f k = c.1 k) ∧ f 8 = c.2.length ∧ ∀ i x, c.2[i]? = some x → f (9 + 3 * i) = x.1 ∧ f (9 + 3 * i + 1) = x.2.1 ∧ f (9 + 3 * i + 2) = x.2.2
theorem RR.keep {f g : Nat → Int} {c : hCf} (h : RR f c) (e : ∀ k, g k = f k) : RR g c := by rwa [show g = f from funext e]
def isR (a : Nat) : Prop := a = 134 ∨ a = 136 ∨ a = 137
theorem R_a {a : Nat} (h : isR a) : ckA a 0 183 = true := by rcases h with h | h | h <;> subst h <;> rfl
theorem Ra {α : Type} {z a : Nat} {M : hM} {i : Int} {F : Int32 → Option α} (h : isR a) (h0 : 0 ≤ i) (h1 : i < 183) : mo_ai (hp z M) (z + a) 0 (jI i) F = F (jI (gA M a i.toNat)) := hp_ai (n := 183) (R_a h) (by decide) h0 h1
theorem Ru {α : Type} {z a : Nat} {M : hM} {i v : Int} {F : ac_H → Option α} (h : isR a) (h0 : 0 ≤ i) (h1 : i < 183) : mo_ui (hp z M) (z + a) 0 (jI i) (jI v) F = F (hp z (sA M a i.toNat v)) := hp_ui (n := 183) (R_a h) (by decide) h0 h1
theorem X7_of {z a f p : Nat} {M : hM} (h : isR a) (hf : f < 50) (hp' : p < 3) : m_X7_ofFault (hp z M) (z + a) (jI f) (jI p) = some (jI (gA M a (9 + 3 * f + p)), hp z M) := by
  unfold m_X7_ofFault
  simp (disch := omega) only [ji1, ji2, ji3, ji4, ji5, ji6, ji7, ji8, ji9, ji10, ji11, ji12, ji13, ji14, ji15, ji16, ji19, ji20, ji39, ji119, ji144, ji366, ji24, ji31, ji32, ji45, ji48, ji57, ji58, ji59, ji97, ji120, ji122, ji183, ji200, ji226, ji240, ji255, ji500, jI_z, ↓jI_m1, jI_add, jI_sub, jI_mul, Ra h]
  rw [show ((9 : Int) + 3 * (f : Int) + (p : Int)).toNat = 9 + 3 * f + p from by omega]
theorem X7_pl_l {z a : Nat} {M : hM} {c : hCf} {kd nm : Int} (ha : isR a) (h : RR (gA M a) c) (hc : okC c) (hk : okW kd) (hn : okW nm) : ∀ (l : List hF) (i n : Nat), c.2.drop i = l → l.length < n → i ≤ c.2.length → m_X7_placeOf_l2 (z + a) (jI kd) (jI nm) n (hp z M) (jI i) = some (jI (fnd kd nm l i), hp z M) := by
  obtain ⟨hk0, hk1⟩ := hk
  obtain ⟨hn0, hn1⟩ := hn
  have hlen := hc.1
  intro l
  induction l with
  | nil =>
    intro i n hl hn hi
    have hi' : c.2.length ≤ i := by simpa using hl
    obtain ⟨n, rfl⟩ : ∃ k, n = k + 1 := ⟨n - 1, by simp at hn; omega⟩
    unfold m_X7_placeOf_l2
    have e : gA M a (8 : Int).toNat = c.2.length := h.2.1
    simp (disch := omega) only [ji1, ji2, ji3, ji4, ji5, ji6, ji7, ji8, ji9, ji10, ji11, ji12, ji13, ji14, ji15, ji16, ji19, ji20, ji39, ji119, ji144, ji366, ji24, ji31, ji32, ji45, ji48, ji57, ji58, ji59, ji97, ji120, ji122, ji183, ji200, ji226, ji240, ji255, ji500, jI_z, ↓jI_m1, jI_add, jI_sub, jI_mul, jI_lt, Ra ha, e]
    rw [if_neg (by omega)]; rfl
  | cons x t ih =>
    intro i n hl hn hi
    have hx : c.2[i]? = some x := by
      have := congrArg (fun l => l[0]?) hl
      simpa using this
    have hi' : i < c.2.length := (List.getElem?_eq_some_iff.mp hx).1
    have ht : c.2.drop (i + 1) = t := by
      have := congrArg List.tail hl
      simpa using this
    obtain ⟨n, rfl⟩ : ∃ k, n = k + 1 := ⟨n - 1, by simp at hn; omega⟩
    obtain ⟨e1, e2, e3⟩ := h.2.2 i x hx
    obtain ⟨o1, o2, o3, o4, o5, o6⟩ := hc.at hx
    have e : gA M a (8 : Int).toNat = c.2.length := h.2.1
    have IH := ih (i + 1) n ht (by simp at hn; omega) (by omega)
    have ec : ((i + 1 : Nat) : Int) = (i : Int) + 1 := by omega
    rw [ec] at IH
    have hil : (i : Int) < c.2.length := by omega
    have f0 := X7_of (z := z) (M := M) (f := i) (p := 0) ha (by omega) (by omega)
    have f1 := X7_of (z := z) (M := M) (f := i) (p := 1) ha (by omega) (by omega)
    simp only [Int.natCast_zero, show ((1 : Nat) : Int) = 1 from rfl, Nat.add_zero, e1, e2] at f0 f1
    unfold m_X7_placeOf_l2
    simp (disch := omega) only [ji1, ji2, ji3, ji4, ji5, ji6, ji7, ji8, ji9, ji10, ji11, ji12, ji13, ji14, ji15, ji16, ji19, ji20, ji39, ji119, ji144, ji366, ji24, ji31, ji32, ji45, ji48, ji57, ji58, ji59, ji97, ji120, ji122, ji183, ji200, ji226, ji240, ji255, ji500, jI_z, ↓jI_m1, jI_add, jI_sub, jI_mul, jI_lt, Ra ha, hil, if_true, e]
    rw [f0]
    simp (disch := omega) only [ji1, ji2, ji3, ji4, ji5, ji6, ji7, ji8, ji9, ji10, ji11, ji12, ji13, ji14, ji15, ji16, ji19, ji20, ji39, ji119, ji144, ji366, ji24, ji31, ji32, ji45, ji48, ji57, ji58, ji59, ji97, ji120, ji122, ji183, ji200, ji226, ji240, ji255, ji500, jI_z, ↓jI_m1, jI_add, jI_sub, jI_mul, ↓mo_cs_s, ↓mo_xs_r, ↓mo_xs_l, ↓mo_nl_s, mo_z_0, mo_z_1, jI_eq]
    by_cases g1 : x.1 = kd
    · rw [if_pos g1, f1]
      simp (disch := omega) only [ji1, ji2, ji3, ji4, ji5, ji6, ji7, ji8, ji9, ji10, ji11, ji12, ji13, ji14, ji15, ji16, ji19, ji20, ji39, ji119, ji144, ji366, ji24, ji31, ji32, ji45, ji48, ji57, ji58, ji59, ji97, ji120, ji122, ji183, ji200, ji226, ji240, ji255, ji500, jI_z, ↓jI_m1, jI_add, jI_sub, jI_mul, ↓mo_cs_s, ↓mo_xs_r, ↓mo_xs_l, ↓mo_nl_s, mo_z_0, mo_z_1, jI_eq]
      by_cases g2 : x.2.1 = nm
      · rw [if_pos g2]; simp only [fnd, g1, g2, and_self, if_true]
      · rw [if_neg g2, IH]; simp only [fnd, g2, false_and, if_false]
    · rw [if_neg g1, IH]; simp only [fnd, g1, and_false, if_false]
theorem X7_pl {z a : Nat} {M : hM} {c : hCf} {kd nm : Int} (ha : isR a) (h : RR (gA M a) c) (hc : okC c) (hk : okW kd) (hn : okW nm) : m_X7_placeOf (hp z M) (z + a) (jI kd) (jI nm) = some (jI (fnd kd nm c.2 0), hp z M) := by
  unfold m_X7_placeOf
  exact X7_pl_l ha h hc hk hn c.2 0 hN_f (by simp) (by have := hc.1; unfold hN_f; omega) (by omega)
/-- what a run of the model leaves as it was -/
def FrM (M M' : hM) : Prop := (∀ a, a ≠ 133 → (a < 138 ∨ 144 < a) → (∀ k, gI M' a k = gI M a k) ∧ ∀ k, gA M' a k = gA M a k) ∧ (∀ k, k < 21 ∨ 32 < k → gI M' 133 k = gI M 133 k)
theorem FrM.rfl' {M : hM} : FrM M M := ⟨fun _ _ _ => ⟨fun _ => rfl, fun _ => rfl⟩, fun _ _ => rfl⟩
theorem FrM.trans {M M' M'' : hM} (h : FrM M M') (h' : FrM M' M'') : FrM M M'' := ⟨fun a h1 h2 => ⟨fun k => ((h'.1 a h1 h2).1 k).trans ((h.1 a h1 h2).1 k), fun k => ((h'.1 a h1 h2).2 k).trans ((h.1 a h1 h2).2 k)⟩, fun k hk => (h'.2 k hk).trans (h.2 k hk)⟩
theorem FrM.sI {M : hM} {k : Nat} {v : Int} (h : 21 ≤ k ∧ k ≤ 32) : FrM M (sI M 133 k v) := ⟨fun a h1 h2 => ⟨fun j => by rw [gI_sI, if_neg (by omega)], fun j => gA_sI⟩, fun j hj => by rw [gI_sI, if_neg (by omega)]⟩
theorem FrM.sA {M : hM} {a k : Nat} {v : Int} (h : 138 ≤ a ∧ a ≤ 144) : FrM M (sA M a k v) := ⟨fun b h1 h2 => ⟨fun j => gI_sA, fun j => by rw [gA_sA, if_neg (by omega)]⟩, fun j hj => gI_sA⟩
theorem FrM.sV {M : hM} {k v : Nat} : FrM M (sV M k v) := ⟨fun b h1 h2 => ⟨fun j => gI_sV, fun j => gA_sV⟩, fun j hj => gI_sV⟩
/-- the transmissions of the model -/
def ML (M : hM) (T : List hT) : Prop := gI M 133 21 = T.length ∧ ∀ k x, T[k]? = some x → gA M 138 k = x.1 ∧ gA M 139 k = x.2.1 ∧ gA M 140 k = x.2.2.1 ∧ gA M 141 k = x.2.2.2.1 ∧ gA M 142 k = x.2.2.2.2
/-- its deliveries, its states -/
def MD (M : hM) (O : List Int) (C : Int) : Prop := gI M 133 23 = O.length ∧ (∀ k x, O[k]? = some x → gA M 143 k = x) ∧ gI M 133 24 = (seenM O : Nat) ∧ gI M 133 25 = C
def MS (M : hM) (W : Nat → Nat) : Prop := ∀ s t, s < 9 → t < 16 → gA M 144 (16 * s + t) = if (W s).testBit t = true then 1 else 0
def MR (M : hM) (c : hCf) (a : Nat) (t : Int) : hS → Prop := fun ⟨T, O, W, B, N, J, K, C⟩ => gV M 1 = a ∧ RR (gA M a) c ∧ gI M 133 26 = t ∧ ML M T ∧ MD M O C ∧ MS M W ∧ gI M 133 29 = B ∧ gI M 133 30 = N ∧ gI M 133 31 = J ∧ gI M 133 32 = K
theorem FrM.row {M M' : hM} {a : Nat} {c : hCf} (h : FrM M M') (ha : isR a) (hr : RR (gA M a) c) : RR (gA M' a) c := hr.keep ((h.1 a (by unfold isR at ha; omega) (by unfold isR at ha; omega)).2)
theorem X7_sends {z a : Nat} {M : hM} {c : hCf} {s : hS} {t kd w : Int} (ha : isR a) (hc : okC c) (ht : 0 ≤ t ∧ t < 200) (hT : s.1.length ≤ 120) (h : MR M c a t s) :
    ∃ M', m_X7_sends (hp z M) (z + 133) (jI kd) (jI w) = some ((), hp z M') ∧ MR M' c a t (zSend c t kd w s) ∧ FrM M M' ∧ Vr M M' := by
  have hcs := hc.s
  obtain ⟨T, O, W, B, N, J, K, C⟩ := s
  obtain ⟨hV, hR, h26, ⟨hn, hA⟩, hD, hS, hB, hN, hJ, hK⟩ := h
  simp only at hT
  generalize hnn : T.length = n at hn hT
  have hnne : ∀ k, k < n → k ≠ n := fun k hk => by omega
  by_cases hl : n = 120
  · refine ⟨M, ?_, ?_, FrM.rfl', Vr.rfl'⟩
    · have : gI M 133 21 = 120 := by rw [hn]; omega
      unfold m_X7_sends
      simp (disch := omega) only [ji1, ji2, ji3, ji4, ji5, ji6, ji7, ji8, ji9, ji10, ji11, ji12, ji13, ji14, ji15, ji16, ji19, ji20, ji39, ji119, ji144, ji366, ji24, ji31, ji32, ji45, ji48, ji57, ji58, ji59, ji97, ji120, ji122, ji183, ji200, ji226, ji240, ji255, ji500, jI_z, ↓jI_m1, jI_add, jI_sub, jI_mul, ↓hg133_0, hw133_0, ↓hg133_1, ↓hg133_2, ↓hg133_3, hw133_3, ↓hg133_4, hw133_4, ↓hg133_5, hw133_5, ↓hg133_6, hw133_6, ↓hg133_7, hw133_7, ↓hg133_8, hw133_8, ↓hg133_9, hw133_9, ↓hg133_10, hw133_10, ↓hg133_11, hw133_11, ↓hg133_12, hw133_12, ↓hg133_13, ↓hg133_14, hw133_14, ↓hg133_15, ↓hg133_16, ↓hg133_17, ↓hg133_18, ↓hg133_19, ↓hg133_20, ↓hg133_21, hw133_21, ↓hg133_22, ↓hg133_23, hw133_23, ↓hg133_24, hw133_24, ↓hg133_25, hw133_25, ↓hg133_26, hw133_26, ↓hg133_27, hw133_27, ↓hg133_28, ↓hg133_29, hw133_29, ↓hg133_30, hw133_30, ↓hg133_31, hw133_31, ↓hg133_32, hw133_32, ↓hg133_33, hw133_33, ↓hg133_34, hw133_34, ↓hg133_35, hw133_35, ↓hg133_36, hw133_36, ↓hg133_37, ↓hg133_38, ↓hg133_39, ↓hv133, ↓hx133, ha134, hu134, ↓hl134, ha135, hu135, ↓hl135, ha136, hu136, ↓hl136, ha137, hu137, ↓hl137, ha138, hu138, ↓hl138, ha139, hu139, ↓hl139, ha140, hu140, ↓hl140, ha141, hu141, ↓hl141, ha142, hu142, ↓hl142, ha143, hu143, ↓hl143, ha144, hu144, ↓hl144, ha145, hu145, ↓hl145, ha146, hu146, ↓hl146, ha147, hu147, ↓hl147, this, if_true]
    · unfold zSend; rw [if_pos (by simp only; omega)]; exact ⟨hV, hR, h26, ⟨by rw [hn, hnn], hA⟩, hD, hS, hB, hN, hJ, hK⟩
  · have hz : zSend c t kd w (T, O, W, B, N, J, K, C) = (T ++ [(t, kd, w, tFst c t n, tSnd c t n)], O, W, B, N, J, K, C) := by unfold zSend; rw [if_neg (by simp only; omega)]; simp only [hnn]
    rw [hz]
    have hrow : ∀ M' : hM, FrM M M' → RR (gA M' a) c := fun M' hf => hf.row ha hR
    generalize hM1 : sA (sA (sA (sA (sI M 133 21 (n + 1)) 138 n t) 139 n kd) 140 n w) 141 n (t + c.1 3) = M1
    have hF1 : FrM M M1 := by
      rw [← hM1]
      exact ((((FrM.sI (by omega)).trans (FrM.sA (by omega))).trans (FrM.sA (by omega))).trans (FrM.sA (by omega))).trans (FrM.sA (by omega))
    have hV1 : Vr M M1 := by rw [← hM1]; exact fun _ => rfl
    have hlat : ∀ M' : hM, FrM M M' → gA M' a (3 : Int).toNat = c.1 3 := fun M' hf => (hrow M' hf).1 3 (by omega)
    have pl : ∀ (M' : hM) (kk : Int), FrM M M' → okW kk → m_X7_placeOf (hp z M') (z + a) (jI kk) (jI n) = some (jI (fnd kk n c.2 0), hp z M') := fun M' kk hf hk => X7_pl ha (hrow M' hf) hc hk ⟨by omega, by omega⟩
    have hf141 : gA M1 141 n = t + c.1 3 := by rw [← hM1]; simp [gA_sA]
    -- the end: a drop
    have j136 : ∀ (M2 : hM) (sec : Int), FrM M M2 → Vr M M2 → ∃ M', m_X7_sends_j136 (z + 133) (hp z M2) (jI n) (jI sec) (jI n) (z + 142) = some ((), hp z M') ∧ M' = (if fnd 0 n c.2 0 = -1 then sA M2 142 n sec else sA (sA (sA M2 142 n sec) 141 n (-1)) 142 n (-1)) := by
      intro M2 sec hf hv
      have hf3 : FrM M (sA M2 142 n sec) := hf.trans (FrM.sA (by omega))
      have p0 := pl _ 0 hf3 ⟨by omega, by omega⟩
      obtain ⟨w0a, w0b⟩ := fnd_w (kd := 0) (nm := n) hc
      have hv2 : gV M2 1 = a := by rw [hv, hV]
      by_cases g : fnd 0 n c.2 0 = -1
      · refine ⟨sA M2 142 n sec, ?_, by rw [if_pos g]⟩
        unfold m_X7_sends_j136
        simp (disch := omega) only [ji1, ji2, ji3, ji4, ji5, ji6, ji7, ji8, ji9, ji10, ji11, ji12, ji13, ji14, ji15, ji16, ji19, ji20, ji39, ji119, ji144, ji366, ji24, ji31, ji32, ji45, ji48, ji57, ji58, ji59, ji97, ji120, ji122, ji183, ji200, ji226, ji240, ji255, ji500, jI_z, ↓jI_m1, jI_add, jI_sub, jI_mul, ↓hg133_0, hw133_0, ↓hg133_1, ↓hg133_2, ↓hg133_3, hw133_3, ↓hg133_4, hw133_4, ↓hg133_5, hw133_5, ↓hg133_6, hw133_6, ↓hg133_7, hw133_7, ↓hg133_8, hw133_8, ↓hg133_9, hw133_9, ↓hg133_10, hw133_10, ↓hg133_11, hw133_11, ↓hg133_12, hw133_12, ↓hg133_13, ↓hg133_14, hw133_14, ↓hg133_15, ↓hg133_16, ↓hg133_17, ↓hg133_18, ↓hg133_19, ↓hg133_20, ↓hg133_21, hw133_21, ↓hg133_22, ↓hg133_23, hw133_23, ↓hg133_24, hw133_24, ↓hg133_25, hw133_25, ↓hg133_26, hw133_26, ↓hg133_27, hw133_27, ↓hg133_28, ↓hg133_29, hw133_29, ↓hg133_30, hw133_30, ↓hg133_31, hw133_31, ↓hg133_32, hw133_32, ↓hg133_33, hw133_33, ↓hg133_34, hw133_34, ↓hg133_35, hw133_35, ↓hg133_36, hw133_36, ↓hg133_37, ↓hg133_38, ↓hg133_39, ↓hv133, ↓hx133, ha134, hu134, ↓hl134, ha135, hu135, ↓hl135, ha136, hu136, ↓hl136, ha137, hu137, ↓hl137, ha138, hu138, ↓hl138, ha139, hu139, ↓hl139, ha140, hu140, ↓hl140, ha141, hu141, ↓hl141, ha142, hu142, ↓hl142, ha143, hu143, ↓hl143, ha144, hu144, ↓hl144, ha145, hu145, ↓hl145, ha146, hu146, ↓hl146, ha147, hu147, ↓hl147, Int.toNat_natCast, gV_sA, hv2]
        rw [p0, g]
        simp (disch := omega) only [ji1, ji2, ji3, ji4, ji5, ji6, ji7, ji8, ji9, ji10, ji11, ji12, ji13, ji14, ji15, ji16, ji19, ji20, ji39, ji119, ji144, ji366, ji24, ji31, ji32, ji45, ji48, ji57, ji58, ji59, ji97, ji120, ji122, ji183, ji200, ji226, ji240, ji255, ji500, jI_z, ↓jI_m1, jI_add, jI_sub, jI_mul, ↓mo_cs_s, ↓mo_xs_r, ↓mo_xs_l, ↓mo_nl_s, mo_z_0, mo_z_1, if_true]
      · refine ⟨sA (sA (sA M2 142 n sec) 141 n (-1)) 142 n (-1), ?_, by rw [if_neg g]⟩
        unfold m_X7_sends_j136
        simp (disch := omega) only [ji1, ji2, ji3, ji4, ji5, ji6, ji7, ji8, ji9, ji10, ji11, ji12, ji13, ji14, ji15, ji16, ji19, ji20, ji39, ji119, ji144, ji366, ji24, ji31, ji32, ji45, ji48, ji57, ji58, ji59, ji97, ji120, ji122, ji183, ji200, ji226, ji240, ji255, ji500, jI_z, ↓jI_m1, jI_add, jI_sub, jI_mul, ↓hg133_0, hw133_0, ↓hg133_1, ↓hg133_2, ↓hg133_3, hw133_3, ↓hg133_4, hw133_4, ↓hg133_5, hw133_5, ↓hg133_6, hw133_6, ↓hg133_7, hw133_7, ↓hg133_8, hw133_8, ↓hg133_9, hw133_9, ↓hg133_10, hw133_10, ↓hg133_11, hw133_11, ↓hg133_12, hw133_12, ↓hg133_13, ↓hg133_14, hw133_14, ↓hg133_15, ↓hg133_16, ↓hg133_17, ↓hg133_18, ↓hg133_19, ↓hg133_20, ↓hg133_21, hw133_21, ↓hg133_22, ↓hg133_23, hw133_23, ↓hg133_24, hw133_24, ↓hg133_25, hw133_25, ↓hg133_26, hw133_26, ↓hg133_27, hw133_27, ↓hg133_28, ↓hg133_29, hw133_29, ↓hg133_30, hw133_30, ↓hg133_31, hw133_31, ↓hg133_32, hw133_32, ↓hg133_33, hw133_33, ↓hg133_34, hw133_34, ↓hg133_35, hw133_35, ↓hg133_36, hw133_36, ↓hg133_37, ↓hg133_38, ↓hg133_39, ↓hv133, ↓hx133, ha134, hu134, ↓hl134, ha135, hu135, ↓hl135, ha136, hu136, ↓hl136, ha137, hu137, ↓hl137, ha138, hu138, ↓hl138, ha139, hu139, ↓hl139, ha140, hu140, ↓hl140, ha141, hu141, ↓hl141, ha142, hu142, ↓hl142, ha143, hu143, ↓hl143, ha144, hu144, ↓hl144, ha145, hu145, ↓hl145, ha146, hu146, ↓hl146, ha147, hu147, ↓hl147, Int.toNat_natCast, gV_sA, hv2]
        rw [p0]
        simp (disch := omega) only [ji1, ji2, ji3, ji4, ji5, ji6, ji7, ji8, ji9, ji10, ji11, ji12, ji13, ji14, ji15, ji16, ji19, ji20, ji39, ji119, ji144, ji366, ji24, ji31, ji32, ji45, ji48, ji57, ji58, ji59, ji97, ji120, ji122, ji183, ji200, ji226, ji240, ji255, ji500, jI_z, ↓jI_m1, jI_add, jI_sub, jI_mul, ↓mo_cs_s, ↓mo_xs_r, ↓mo_xs_l, ↓mo_nl_s, mo_z_0, mo_z_1, jI_eq, g, if_false, ↓hg133_0, hw133_0, ↓hg133_1, ↓hg133_2, ↓hg133_3, hw133_3, ↓hg133_4, hw133_4, ↓hg133_5, hw133_5, ↓hg133_6, hw133_6, ↓hg133_7, hw133_7, ↓hg133_8, hw133_8, ↓hg133_9, hw133_9, ↓hg133_10, hw133_10, ↓hg133_11, hw133_11, ↓hg133_12, hw133_12, ↓hg133_13, ↓hg133_14, hw133_14, ↓hg133_15, ↓hg133_16, ↓hg133_17, ↓hg133_18, ↓hg133_19, ↓hg133_20, ↓hg133_21, hw133_21, ↓hg133_22, ↓hg133_23, hw133_23, ↓hg133_24, hw133_24, ↓hg133_25, hw133_25, ↓hg133_26, hw133_26, ↓hg133_27, hw133_27, ↓hg133_28, ↓hg133_29, hw133_29, ↓hg133_30, hw133_30, ↓hg133_31, hw133_31, ↓hg133_32, hw133_32, ↓hg133_33, hw133_33, ↓hg133_34, hw133_34, ↓hg133_35, hw133_35, ↓hg133_36, hw133_36, ↓hg133_37, ↓hg133_38, ↓hg133_39, ↓hv133, ↓hx133, ha134, hu134, ↓hl134, ha135, hu135, ↓hl135, ha136, hu136, ↓hl136, ha137, hu137, ↓hl137, ha138, hu138, ↓hl138, ha139, hu139, ↓hl139, ha140, hu140, ↓hl140, ha141, hu141, ↓hl141, ha142, hu142, ↓hl142, ha143, hu143, ↓hl143, ha144, hu144, ↓hl144, ha145, hu145, ↓hl145, ha146, hu146, ↓hl146, ha147, hu147, ↓hl147, Int.toNat_natCast]
    have j104 : ∃ M', m_X7_sends_j104 (z + 133) (hp z M1) (jI n) (jI (cAmt c n)) (jI (t + c.1 3)) (jI n) (z + 141) = some ((), hp z M') ∧ FrM M M' ∧ Vr M M' ∧ gA M' 141 n = tFst c t n ∧ gA M' 142 n = tSnd c t n ∧ (∀ b k, (b < 141 ∨ 142 < b ∨ k ≠ n) → gA M' b k = gA M1 b k) ∧ (∀ b k, gI M' b k = gI M1 b k) := by
      have hf2 : FrM M (sA M1 141 n (t + c.1 3 + cAmt c n)) := hF1.trans (FrM.sA (by omega))
      have p1 := pl _ 1 hf2 ⟨by omega, by omega⟩
      have hv2 : gV M1 1 = a := by rw [hV1, hV]
      have ha' := cAmt_in hc n
      obtain ⟨w1a, w1b⟩ := fnd_w (kd := 1) (nm := n) hc
      obtain ⟨M', r1, r2⟩ := j136 (sA M1 141 n (t + c.1 3 + cAmt c n)) (if fnd 1 n c.2 0 = -1 then -1 else t + c.1 3 + cAmt c n + 1) hf2 (hV1.trans (fun _ => rfl))
      refine ⟨M', ?_, ?_, ?_, ?_, ?_, ?_, ?_⟩
      · unfold m_X7_sends_j104
        simp (disch := omega) only [ji1, ji2, ji3, ji4, ji5, ji6, ji7, ji8, ji9, ji10, ji11, ji12, ji13, ji14, ji15, ji16, ji19, ji20, ji39, ji119, ji144, ji366, ji24, ji31, ji32, ji45, ji48, ji57, ji58, ji59, ji97, ji120, ji122, ji183, ji200, ji226, ji240, ji255, ji500, jI_z, ↓jI_m1, jI_add, jI_sub, jI_mul, ↓hg133_0, hw133_0, ↓hg133_1, ↓hg133_2, ↓hg133_3, hw133_3, ↓hg133_4, hw133_4, ↓hg133_5, hw133_5, ↓hg133_6, hw133_6, ↓hg133_7, hw133_7, ↓hg133_8, hw133_8, ↓hg133_9, hw133_9, ↓hg133_10, hw133_10, ↓hg133_11, hw133_11, ↓hg133_12, hw133_12, ↓hg133_13, ↓hg133_14, hw133_14, ↓hg133_15, ↓hg133_16, ↓hg133_17, ↓hg133_18, ↓hg133_19, ↓hg133_20, ↓hg133_21, hw133_21, ↓hg133_22, ↓hg133_23, hw133_23, ↓hg133_24, hw133_24, ↓hg133_25, hw133_25, ↓hg133_26, hw133_26, ↓hg133_27, hw133_27, ↓hg133_28, ↓hg133_29, hw133_29, ↓hg133_30, hw133_30, ↓hg133_31, hw133_31, ↓hg133_32, hw133_32, ↓hg133_33, hw133_33, ↓hg133_34, hw133_34, ↓hg133_35, hw133_35, ↓hg133_36, hw133_36, ↓hg133_37, ↓hg133_38, ↓hg133_39, ↓hv133, ↓hx133, ha134, hu134, ↓hl134, ha135, hu135, ↓hl135, ha136, hu136, ↓hl136, ha137, hu137, ↓hl137, ha138, hu138, ↓hl138, ha139, hu139, ↓hl139, ha140, hu140, ↓hl140, ha141, hu141, ↓hl141, ha142, hu142, ↓hl142, ha143, hu143, ↓hl143, ha144, hu144, ↓hl144, ha145, hu145, ↓hl145, ha146, hu146, ↓hl146, ha147, hu147, ↓hl147, Int.toNat_natCast, gV_sA, hv2]
        rw [p1]
        by_cases g : fnd 1 n c.2 0 = -1
        · rw [if_pos g] at r1
          rw [g]
          simp (disch := omega) only [ji1, ji2, ji3, ji4, ji5, ji6, ji7, ji8, ji9, ji10, ji11, ji12, ji13, ji14, ji15, ji16, ji19, ji20, ji39, ji119, ji144, ji366, ji24, ji31, ji32, ji45, ji48, ji57, ji58, ji59, ji97, ji120, ji122, ji183, ji200, ji226, ji240, ji255, ji500, jI_z, ↓jI_m1, jI_add, jI_sub, jI_mul, ↓mo_cs_s, ↓mo_xs_r, ↓mo_xs_l, ↓mo_nl_s, mo_z_0, mo_z_1, if_true]
          exact r1
        · rw [if_neg g] at r1
          simp (disch := omega) only [ji1, ji2, ji3, ji4, ji5, ji6, ji7, ji8, ji9, ji10, ji11, ji12, ji13, ji14, ji15, ji16, ji19, ji20, ji39, ji119, ji144, ji366, ji24, ji31, ji32, ji45, ji48, ji57, ji58, ji59, ji97, ji120, ji122, ji183, ji200, ji226, ji240, ji255, ji500, jI_z, ↓jI_m1, jI_add, jI_sub, jI_mul, ↓mo_cs_s, ↓mo_xs_r, ↓mo_xs_l, ↓mo_nl_s, mo_z_0, mo_z_1, jI_eq, g, if_false, ↓hg133_0, hw133_0, ↓hg133_1, ↓hg133_2, ↓hg133_3, hw133_3, ↓hg133_4, hw133_4, ↓hg133_5, hw133_5, ↓hg133_6, hw133_6, ↓hg133_7, hw133_7, ↓hg133_8, hw133_8, ↓hg133_9, hw133_9, ↓hg133_10, hw133_10, ↓hg133_11, hw133_11, ↓hg133_12, hw133_12, ↓hg133_13, ↓hg133_14, hw133_14, ↓hg133_15, ↓hg133_16, ↓hg133_17, ↓hg133_18, ↓hg133_19, ↓hg133_20, ↓hg133_21, hw133_21, ↓hg133_22, ↓hg133_23, hw133_23, ↓hg133_24, hw133_24, ↓hg133_25, hw133_25, ↓hg133_26, hw133_26, ↓hg133_27, hw133_27, ↓hg133_28, ↓hg133_29, hw133_29, ↓hg133_30, hw133_30, ↓hg133_31, hw133_31, ↓hg133_32, hw133_32, ↓hg133_33, hw133_33, ↓hg133_34, hw133_34, ↓hg133_35, hw133_35, ↓hg133_36, hw133_36, ↓hg133_37, ↓hg133_38, ↓hg133_39, ↓hv133, ↓hx133, ha134, hu134, ↓hl134, ha135, hu135, ↓hl135, ha136, hu136, ↓hl136, ha137, hu137, ↓hl137, ha138, hu138, ↓hl138, ha139, hu139, ↓hl139, ha140, hu140, ↓hl140, ha141, hu141, ↓hl141, ha142, hu142, ↓hl142, ha143, hu143, ↓hl143, ha144, hu144, ↓hl144, ha145, hu145, ↓hl145, ha146, hu146, ↓hl146, ha147, hu147, ↓hl147, Int.toNat_natCast, gA_sA, and_self, if_true]
          exact r1
      · rw [r2]; split
        · exact hf2.trans (FrM.sA (by omega))
        · exact ((hf2.trans (FrM.sA (by omega))).trans (FrM.sA (by omega))).trans (FrM.sA (by omega))
      · rw [r2]; split
        · exact hV1.trans (fun _ => rfl)
        · exact hV1.trans (fun _ => rfl)
      · rw [r2]; unfold tFst; split
        · simp [gA_sA]
        · simp [gA_sA]
      · rw [r2]; unfold tSnd; split
        · simp [gA_sA]
        · simp [gA_sA]
      · intro b k hbk
        rw [r2]; split
        · rw [gA_sA, if_neg (by omega), gA_sA, if_neg (by omega)]
        · rw [gA_sA, if_neg (by omega), gA_sA, if_neg (by omega), gA_sA, if_neg (by omega), gA_sA, if_neg (by omega)]
      · intro b k
        rw [r2]; split <;> rfl
    obtain ⟨M', r1, r2, r3, r4, r5, r6, r7⟩ := j104
    have e1 : ∀ k, k ≠ 21 → gI M' 133 k = gI M 133 k := fun k hk => by rw [r7, ← hM1, gI_sA, gI_sA, gI_sA, gI_sA, gI_sI, if_neg (by omega)]
    refine ⟨M', ?_, ⟨by rw [r3, hV], hrow M' r2, by rw [e1 26 (by omega), h26], ⟨?_, fun k x hk => ?_⟩, ⟨by rw [e1 23 (by omega)]; exact hD.1, fun k x hk => ?_, by rw [e1 24 (by omega)]; exact hD.2.2.1, by rw [e1 25 (by omega)]; exact hD.2.2.2⟩, fun s' t' h1 h2 => ?_, by rw [e1 29 (by omega), hB], by rw [e1 30 (by omega), hN], by rw [e1 31 (by omega), hJ], by rw [e1 32 (by omega), hK]⟩, r2, r3⟩
    · have hn120 : ¬ (n : Int) = 120 := by omega
      have hf16 : FrM M (sA (sA (sA (sI M 133 21 (n + 1)) 138 n t) 139 n kd) 140 n w) := (((FrM.sI (by omega)).trans (FrM.sA (by omega))).trans (FrM.sA (by omega))).trans (FrM.sA (by omega))
      have hl3 := hlat _ hf16
      have p2 := pl M1 2 hF1 ⟨by omega, by omega⟩
      unfold m_X7_sends
      simp (disch := omega) only [ji1, ji2, ji3, ji4, ji5, ji6, ji7, ji8, ji9, ji10, ji11, ji12, ji13, ji14, ji15, ji16, ji19, ji20, ji39, ji119, ji144, ji366, ji24, ji31, ji32, ji45, ji48, ji57, ji58, ji59, ji97, ji120, ji122, ji183, ji200, ji226, ji240, ji255, ji500, jI_z, ↓jI_m1, jI_add, jI_sub, jI_mul, ↓hg133_0, hw133_0, ↓hg133_1, ↓hg133_2, ↓hg133_3, hw133_3, ↓hg133_4, hw133_4, ↓hg133_5, hw133_5, ↓hg133_6, hw133_6, ↓hg133_7, hw133_7, ↓hg133_8, hw133_8, ↓hg133_9, hw133_9, ↓hg133_10, hw133_10, ↓hg133_11, hw133_11, ↓hg133_12, hw133_12, ↓hg133_13, ↓hg133_14, hw133_14, ↓hg133_15, ↓hg133_16, ↓hg133_17, ↓hg133_18, ↓hg133_19, ↓hg133_20, ↓hg133_21, hw133_21, ↓hg133_22, ↓hg133_23, hw133_23, ↓hg133_24, hw133_24, ↓hg133_25, hw133_25, ↓hg133_26, hw133_26, ↓hg133_27, hw133_27, ↓hg133_28, ↓hg133_29, hw133_29, ↓hg133_30, hw133_30, ↓hg133_31, hw133_31, ↓hg133_32, hw133_32, ↓hg133_33, hw133_33, ↓hg133_34, hw133_34, ↓hg133_35, hw133_35, ↓hg133_36, hw133_36, ↓hg133_37, ↓hg133_38, ↓hg133_39, ↓hv133, ↓hx133, ha134, hu134, ↓hl134, ha135, hu135, ↓hl135, ha136, hu136, ↓hl136, ha137, hu137, ↓hl137, ha138, hu138, ↓hl138, ha139, hu139, ↓hl139, ha140, hu140, ↓hl140, ha141, hu141, ↓hl141, ha142, hu142, ↓hl142, ha143, hu143, ↓hl143, ha144, hu144, ↓hl144, ha145, hu145, ↓hl145, ha146, hu146, ↓hl146, ha147, hu147, ↓hl147, jI_eq, hn, hn120, if_false, Int.toNat_natCast, gI_sI, gI_sA, h26, and_self, and_true, and_false, show ¬ (26 : Nat) = 21 by decide, gV_sA, gV_sI, hV, Ra ha, hl3, hM1, hV1 1]
      rw [p2]
      by_cases g : fnd 2 n c.2 0 = -1
      · have hca : cAmt c n = 0 := by unfold cAmt; rw [if_pos g]
        rw [hca] at r1
        rw [g]
        simp (disch := omega) only [ji1, ji2, ji3, ji4, ji5, ji6, ji7, ji8, ji9, ji10, ji11, ji12, ji13, ji14, ji15, ji16, ji19, ji20, ji39, ji119, ji144, ji366, ji24, ji31, ji32, ji45, ji48, ji57, ji58, ji59, ji97, ji120, ji122, ji183, ji200, ji226, ji240, ji255, ji500, jI_z, ↓jI_m1, jI_add, jI_sub, jI_mul, ↓mo_cs_s, ↓mo_xs_r, ↓mo_xs_l, ↓mo_nl_s, mo_z_0, mo_z_1, ↓hg133_0, hw133_0, ↓hg133_1, ↓hg133_2, ↓hg133_3, hw133_3, ↓hg133_4, hw133_4, ↓hg133_5, hw133_5, ↓hg133_6, hw133_6, ↓hg133_7, hw133_7, ↓hg133_8, hw133_8, ↓hg133_9, hw133_9, ↓hg133_10, hw133_10, ↓hg133_11, hw133_11, ↓hg133_12, hw133_12, ↓hg133_13, ↓hg133_14, hw133_14, ↓hg133_15, ↓hg133_16, ↓hg133_17, ↓hg133_18, ↓hg133_19, ↓hg133_20, ↓hg133_21, hw133_21, ↓hg133_22, ↓hg133_23, hw133_23, ↓hg133_24, hw133_24, ↓hg133_25, hw133_25, ↓hg133_26, hw133_26, ↓hg133_27, hw133_27, ↓hg133_28, ↓hg133_29, hw133_29, ↓hg133_30, hw133_30, ↓hg133_31, hw133_31, ↓hg133_32, hw133_32, ↓hg133_33, hw133_33, ↓hg133_34, hw133_34, ↓hg133_35, hw133_35, ↓hg133_36, hw133_36, ↓hg133_37, ↓hg133_38, ↓hg133_39, ↓hv133, ↓hx133, ha134, hu134, ↓hl134, ha135, hu135, ↓hl135, ha136, hu136, ↓hl136, ha137, hu137, ↓hl137, ha138, hu138, ↓hl138, ha139, hu139, ↓hl139, ha140, hu140, ↓hl140, ha141, hu141, ↓hl141, ha142, hu142, ↓hl142, ha143, hu143, ↓hl143, ha144, hu144, ↓hl144, ha145, hu145, ↓hl145, ha146, hu146, ↓hl146, ha147, hu147, ↓hl147, Int.toNat_natCast, hf141, if_true]
        exact r1
      · obtain ⟨w2a, w2b⟩ := fnd_w (kd := 2) (nm := n) hc
        rcases fnd_get (kd := 2) (nm := n) c.2 0 with g' | ⟨i, x, g', gx, _⟩
        · exact absurd g' g
        · rw [Nat.zero_add] at g'
          have hil := (List.getElem?_eq_some_iff.mp gx).1
          have hl10 := hc.1
          have f2 := X7_of (z := z) (M := M1) (f := i) (p := 2) ha (by omega) (by omega)
          have e3 := ((hrow M1 hF1).2.2 i x gx).2.2
          have ecA : cAmt c n = x.2.2 := by
            unfold cAmt; rw [if_neg g, g', Int.toNat_natCast, List.getD_eq_getElem?_getD, gx]; rfl
          rw [e3, show ((2 : Nat) : Int) = 2 from rfl, ← ecA] at f2
          have gi : ¬ (i : Int) = -1 := by omega
          rw [g']
          simp (disch := omega) only [ji1, ji2, ji3, ji4, ji5, ji6, ji7, ji8, ji9, ji10, ji11, ji12, ji13, ji14, ji15, ji16, ji19, ji20, ji39, ji119, ji144, ji366, ji24, ji31, ji32, ji45, ji48, ji57, ji58, ji59, ji97, ji120, ji122, ji183, ji200, ji226, ji240, ji255, ji500, jI_z, ↓jI_m1, jI_add, jI_sub, jI_mul, ↓mo_cs_s, ↓mo_xs_r, ↓mo_xs_l, ↓mo_nl_s, mo_z_0, mo_z_1, ↓hg133_0, hw133_0, ↓hg133_1, ↓hg133_2, ↓hg133_3, hw133_3, ↓hg133_4, hw133_4, ↓hg133_5, hw133_5, ↓hg133_6, hw133_6, ↓hg133_7, hw133_7, ↓hg133_8, hw133_8, ↓hg133_9, hw133_9, ↓hg133_10, hw133_10, ↓hg133_11, hw133_11, ↓hg133_12, hw133_12, ↓hg133_13, ↓hg133_14, hw133_14, ↓hg133_15, ↓hg133_16, ↓hg133_17, ↓hg133_18, ↓hg133_19, ↓hg133_20, ↓hg133_21, hw133_21, ↓hg133_22, ↓hg133_23, hw133_23, ↓hg133_24, hw133_24, ↓hg133_25, hw133_25, ↓hg133_26, hw133_26, ↓hg133_27, hw133_27, ↓hg133_28, ↓hg133_29, hw133_29, ↓hg133_30, hw133_30, ↓hg133_31, hw133_31, ↓hg133_32, hw133_32, ↓hg133_33, hw133_33, ↓hg133_34, hw133_34, ↓hg133_35, hw133_35, ↓hg133_36, hw133_36, ↓hg133_37, ↓hg133_38, ↓hg133_39, ↓hv133, ↓hx133, ha134, hu134, ↓hl134, ha135, hu135, ↓hl135, ha136, hu136, ↓hl136, ha137, hu137, ↓hl137, ha138, hu138, ↓hl138, ha139, hu139, ↓hl139, ha140, hu140, ↓hl140, ha141, hu141, ↓hl141, ha142, hu142, ↓hl142, ha143, hu143, ↓hl143, ha144, hu144, ↓hl144, ha145, hu145, ↓hl145, ha146, hu146, ↓hl146, ha147, hu147, ↓hl147, jI_eq, Int.toNat_natCast, hf141, gi, if_false, hV1 1, hV]
          rw [f2]
          simp (disch := omega) only [↓mo_cs_s, ↓mo_xs_r, ↓mo_xs_l, ↓mo_nl_s, mo_z_0, mo_z_1]
          exact r1
    · rw [r7, ← hM1, gI_sA, gI_sA, gI_sA, gI_sA, gI_sI, if_pos ⟨rfl, rfl⟩]; simp; omega
    · by_cases hkn : k < T.length
      · rw [List.getElem?_append_left hkn] at hk
        rw [r6 138 k (by omega), r6 139 k (by omega), r6 140 k (by omega), r6 141 k (by omega), r6 142 k (by omega), ← hM1]
        have : ¬ k = n := by omega
        simp [gA_sA, gA_sI, this]
        exact hA k x hk
      · have hkl := (List.getElem?_eq_some_iff.mp hk).1
        simp only [List.length_append, List.length_cons, List.length_nil] at hkl
        rw [List.getElem?_append_right (by omega), show k - T.length = 0 from by omega] at hk
        simp only [List.getElem?_cons_zero, Option.some.injEq] at hk
        subst hk
        rw [show k = n from by omega]
        rw [r6 138 n (by omega), r6 139 n (by omega), r6 140 n (by omega), r4, r5, ← hM1]
        simp [gA_sA]
    · rw [r6 143 k (by omega), ← hM1]
      simp [gA_sA, gA_sI]
      exact hD.2.1 k x hk
    · rw [r6 144 _ (by omega), ← hM1]
      simp only [gA_sA, gA_sI, show ¬ (144 : Nat) = 141 by decide, show ¬ (144 : Nat) = 140 by decide, show ¬ (144 : Nat) = 139 by decide, show ¬ (144 : Nat) = 138 by decide, false_and, if_false]
      exact hS s' t' h1 h2

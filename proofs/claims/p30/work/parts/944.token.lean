variable {S : hSh}
/-! TOKENS of a text L: where one starts behind p, where it ends, its kind, its value. -/
def isGa (b : Int) : Bool := decide (b = 32 ∨ b = 10)
def isLe (b : Int) : Bool := decide (97 ≤ b ∧ b ≤ 122)
def isDi (b : Int) : Bool := decide (48 ≤ b ∧ b ≤ 57)
def cw (P : Int → Bool) (L : List Int) (k : Nat) : Nat := ((L.drop k).takeWhile P).length
theorem cw_t {P : Int → Bool} {L : List Int} {k : Nat} {v : Int} (h : L[k]? = some v) (hp' : P v = true) : cw P L k = cw P L (k + 1) + 1 := by
  obtain ⟨hk, hv⟩ := List.getElem?_eq_some_iff.mp h
  unfold cw
  rw [List.drop_eq_getElem_cons hk, hv, List.takeWhile_cons, if_pos hp', List.length_cons]
theorem cw_f {P : Int → Bool} {L : List Int} {k : Nat} {v : Int} (h : L[k]? = some v) (hp' : P v = false) : cw P L k = 0 := by
  obtain ⟨hk, hv⟩ := List.getElem?_eq_some_iff.mp h
  unfold cw
  rw [List.drop_eq_getElem_cons hk, hv, List.takeWhile_cons, if_neg (by rw [hp']; decide)]; rfl
theorem cw_n {P : Int → Bool} {L : List Int} {k : Nat} (h : L.length ≤ k) : cw P L k = 0 := by
  unfold cw; rw [List.drop_eq_nil_of_le h]; rfl
theorem cw_le {P : Int → Bool} {L : List Int} : ∀ (d k : Nat), k + d = L.length → k + cw P L k ≤ L.length := by
  intro d
  induction d with
  | zero => intro k hk; rw [cw_n (by omega)]; omega
  | succ d ih =>
    intro k hk
    have hx : L[k]? = some L[k] := List.getElem?_eq_getElem (by omega)
    cases hv : P L[k] with
    | true => rw [cw_t hx hv]; have := ih (k + 1) (by omega); omega
    | false => rw [cw_f hx hv]; omega
theorem cw_all {P : Int → Bool} {L : List Int} : ∀ (j k : Nat), j < cw P L k → ∃ v, L[k + j]? = some v ∧ P v = true := by
  intro j
  induction j with
  | zero =>
    intro k h
    by_cases hk : k < L.length
    · have hx : L[k]? = some L[k] := List.getElem?_eq_getElem hk
      cases hv : P L[k] with
      | true => exact ⟨_, hx, hv⟩
      | false => rw [cw_f hx hv] at h; omega
    · rw [cw_n (by omega)] at h; omega
  | succ j ih =>
    intro k h
    by_cases hk : k < L.length
    · have hx : L[k]? = some L[k] := List.getElem?_eq_getElem hk
      cases hv : P L[k] with
      | true =>
        rw [cw_t hx hv] at h
        obtain ⟨v, h1, h2⟩ := ih (k + 1) (by omega)
        exact ⟨v, by rw [show k + (j + 1) = k + 1 + j by omega]; exact h1, h2⟩
      | false => rw [cw_f hx hv] at h; omega
    · rw [cw_n (by omega)] at h; omega
def tS (L : List Int) (p : Nat) : Nat := p + cw isGa L p
def eN (L : List Int) (s : Nat) : Nat := match L[s]? with
  | none => s
  | some b => if isLe b = true then s + cw isLe L s else if isDi b = true then s + cw isDi L s else s + 1
def eK (L : List Int) (s : Nat) : Int := match L[s]? with
  | none => 0
  | some b => if isLe b = true then (if 9 < cw isLe L s then 4 else 1) else if isDi b = true then (if 3 < cw isDi L s then 4 else 2) else if b = 59 then 3 else 4
def tN (L : List Int) (p : Nat) : Nat := eN L (tS L p)
def tK (L : List Int) (p : Nat) : Int := eK L (tS L p)
def numV (L : List Int) (s : Nat) : Nat → Int
  | 0 => 0
  | m + 1 => 10 * numV L s m + L.getD (s + m) 0 - 48
def nV (L : List Int) (p : Nat) : Int := numV L (tS L p) (tN L p - tS L p)
theorem tS_le {L : List Int} {p : Nat} (h : p ≤ L.length) : tS L p ≤ L.length := cw_le (L.length - p) p (by omega)
theorem eN_le {L : List Int} {s : Nat} (h : s ≤ L.length) : eN L s ≤ L.length := by
  unfold eN
  split
  · exact h
  · next b hb =>
    have hs : s < L.length := (List.getElem?_eq_some_iff.mp hb).1
    have h1 := cw_le (P := isLe) (L := L) (L.length - s) s (by omega)
    have h2 := cw_le (P := isDi) (L := L) (L.length - s) s (by omega)
    split
    · exact h1
    · split
      · exact h2
      · omega
theorem tN_le {L : List Int} {p : Nat} (h : p ≤ L.length) : tN L p ≤ L.length := eN_le (tS_le h)
theorem eN_gt {L : List Int} {s : Nat} (h : eK L s ≠ 0) : s < eN L s := by
  unfold eK at h
  unfold eN
  split
  · next hb => rw [hb] at h; exact absurd rfl h
  · next b hb =>
    by_cases h1 : isLe b = true
    · rw [if_pos h1, cw_t hb h1]; omega
    · rw [if_neg h1]
      by_cases h2 : isDi b = true
      · rw [if_pos h2, cw_t hb h2]; omega
      · rw [if_neg h2]; omega
theorem tN_gt {L : List Int} {p : Nat} (h : tK L p ≠ 0) : p < tN L p := by
  have h1 := eN_gt h
  have h2 : p ≤ tS L p := by unfold tS; omega
  unfold tN; omega
theorem tK_end {L : List Int} {p : Nat} (h : L.length ≤ p) : tK L p = 0 := by
  have : tS L p = p := by unfold tS; rw [cw_n h]; rfl
  unfold tK eK; rw [this, List.getElem?_eq_none h]
theorem eK_in {L : List Int} {s : Nat} : 0 ≤ eK L s ∧ eK L s ≤ 4 := by
  unfold eK
  split
  · omega
  · split
    · split <;> omega
    · split
      · split <;> omega
      · split <;> omega
theorem numV_in {L : List Int} {s : Nat} : ∀ (m : Nat), (∀ j, j < m → ∃ v, L[s + j]? = some v ∧ isDi v = true) → 0 ≤ numV L s m ∧ numV L s m < 10 ^ m := by
  intro m
  induction m with
  | zero => intro _; simp [numV]
  | succ m ih =>
    intro h
    obtain ⟨h1, h2⟩ := ih (fun j hj => h j (by omega))
    obtain ⟨v, h3, h4⟩ := h m (by omega)
    have hg : L.getD (s + m) 0 = v := by rw [List.getD_eq_getElem?_getD, h3]; rfl
    unfold isDi at h4
    have h5 := of_decide_eq_true h4
    simp only [numV, hg]
    rw [Int.pow_succ]
    omega
theorem nV_in {L : List Int} {p : Nat} (h : tK L p = 2) : 0 ≤ nV L p ∧ nV L p ≤ 999 ∧ tN L p - tS L p ≤ 3 ∧ tS L p ≤ tN L p ∧ ∀ j, j < tN L p - tS L p → ∃ v, L[tS L p + j]? = some v ∧ isDi v = true := by
  unfold nV tN
  unfold tK eK at h
  unfold eN
  split at h
  · exact absurd h (by decide)
  · next b hb =>
    by_cases h1 : isLe b = true
    · rw [if_pos h1] at h; split at h <;> exact absurd h (by decide)
    · rw [if_neg h1] at h ⊢
      by_cases h2 : isDi b = true
      · rw [if_pos h2] at h ⊢
        by_cases h3 : 3 < cw isDi L (tS L p)
        · rw [if_pos h3] at h; exact absurd h (by decide)
        · have e : tS L p + cw isDi L (tS L p) - tS L p = cw isDi L (tS L p) := by omega
          rw [e]
          obtain ⟨n1, n2⟩ := numV_in (L := L) (s := tS L p) (cw isDi L (tS L p)) (fun j hj => cw_all j _ hj)
          have n3 : (10 : Int) ^ cw isDi L (tS L p) ≤ 1000 := by
            rcases (show cw isDi L (tS L p) = 0 ∨ cw isDi L (tS L p) = 1 ∨ cw isDi L (tS L p) = 2 ∨ cw isDi L (tS L p) = 3 by omega) with g | g | g | g <;> rw [g] <;> decide
          exact ⟨n1, by omega, by omega, by omega, fun j hj => cw_all j _ hj⟩
      · rw [if_neg h2] at h; split at h <;> exact absurd h (by decide)
/-! .. of the class -/
def TX (M : hM) (L : List Int) : Prop := gI M 37 2 = L.length ∧ (∀ k v, L[k]? = some v → gA M 38 k = v) ∧ L.length ≤ 500 ∧ ∀ v ∈ L, 0 ≤ v ∧ v ≤ 255
def F4 (M M' : hM) : Prop := (∀ a k, a ≠ 37 ∨ k ≠ 4 → gI M' a k = gI M a k) ∧ (∀ a k, gA M' a k = gA M a k) ∧ Vr M M'
theorem F4.rfl' {M : hM} : F4 M M := ⟨fun _ _ _ => rfl, fun _ _ => rfl, fun _ => rfl⟩
theorem F4.trans {M M' M'' : hM} (h : F4 M M') (h' : F4 M' M'') : F4 M M'' := ⟨fun a k e => (h'.1 a k e).trans (h.1 a k e), fun a k => (h'.2.1 a k).trans (h.2.1 a k), h.2.2.trans h'.2.2⟩
theorem F4_sI {M : hM} {v : Int} : F4 M (sI M 37 4 v) := ⟨fun a k e => by rw [gI_sI, if_neg (by omega)], fun _ _ => rfl, fun _ => rfl⟩
def FV (M M' : hM) : Prop := (∀ a k, a ≠ 37 ∨ k < 3 ∨ 5 < k → gI M' a k = gI M a k) ∧ (∀ a k, gA M' a k = gA M a k) ∧ Vr M M'
theorem FV.trans {M M' M'' : hM} (h : FV M M') (h' : FV M' M'') : FV M M'' := ⟨fun a k e => (h'.1 a k e).trans (h.1 a k e), fun a k => (h'.2.1 a k).trans (h.2.1 a k), h.2.2.trans h'.2.2⟩
theorem F4.v {M M' : hM} (h : F4 M M') : FV M M' := ⟨fun a k e => h.1 a k (by omega), h.2.1, h.2.2⟩
theorem FV_sI {M : hM} {k : Nat} {v : Int} (h : 3 ≤ k ∧ k ≤ 5) : FV M (sI M 37 k v) := ⟨fun a j e => by rw [gI_sI, if_neg (by omega)], fun _ _ => rfl, fun _ => rfl⟩
theorem TX.v {M M' : hM} {L : List Int} (h : TX M L) (f : FV M M') : TX M' L := ⟨by rw [f.1 37 2 (by omega)]; exact h.1, fun k v hv => by rw [f.2.1]; exact h.2.1 k v hv, h.2.2⟩
theorem TX.b {M : hM} {L : List Int} (h : TX M L) {k : Nat} {v : Int} (hv : L[k]? = some v) : 0 ≤ v ∧ v ≤ 255 := h.2.2.2 v (List.mem_of_getElem? hv)
theorem X3_ba {z k : Nat} {M : hM} {L : List Int} {v : Int} (h : TX M L) (hv : L[k]? = some v) : m_X3_byteAt (hp S z M) (z + 37) (jI k) = some (jI v, hp S z M) := by
  have hk : k < L.length := (List.getElem?_eq_some_iff.mp hv).1
  have hl := h.2.2.1
  have e2 := h.1
  have ev := h.2.1 k v hv
  have n0 : ¬ (k : Int) < 0 := by omega
  have n1 : (k : Int) < L.length := by omega
  have n2 : (k : Int) < 500 := by omega
  unfold m_X3_byteAt
  simp (disch := omega) only [ji1, ji2, ji3, ji4, ji5, ji6, ji7, ji8, ji9, ji10, ji11, ji12, ji13, ji14, ji15, ji16, ji19, ji20, ji24, ji31, ji32, ji39, ji45, ji48, ji57, ji58, ji59, ji60, ji97, ji100, ji119, ji120, ji122, ji144, ji200, ji226, ji240, ji255, ji300, ji366, ji400, ji500, ji1000, jI_z, ↓jI_m1, jI_add, jI_sub, jI_mul, jI_lt, n0, n1, n2, if_true, if_false, ↓hg37_0, ↓hg37_1, hw37_1, ↓hg37_2, hw37_2, ↓hg37_3, hw37_3, ↓hg37_4, hw37_4, ↓hg37_5, hw37_5, ↓hg37_6, hw37_6, ↓hg37_7, hw37_7, ↓hg37_8, hw37_8, ↓hg37_9, ↓hv37, ↓hx37, ha38, hu38, ↓hl38, e2, Int.toNat_natCast, ev]
theorem X3_ga {σ : ac_H} {b : Int} (hb : 0 ≤ b ∧ b ≤ 255) : m_X3_isGap σ (jI b) = some (jI (b2i (isGa b)), σ) := by
  unfold m_X3_isGap isGa
  simp (disch := omega) only [ji1, ji2, ji3, ji4, ji5, ji6, ji7, ji8, ji9, ji10, ji11, ji12, ji13, ji14, ji15, ji16, ji19, ji20, ji24, ji31, ji32, ji39, ji45, ji48, ji57, ji58, ji59, ji60, ji97, ji100, ji119, ji120, ji122, ji144, ji200, ji226, ji240, ji255, ji300, ji366, ji400, ji500, ji1000, jI_z, ↓jI_m1, jI_add, jI_sub, jI_mul, ↓mo_ns_r, ↓hn0, ↓mo_cs_s, ↓mo_xs_r, ↓mo_xs_l, ↓mo_nl_s, mo_z_0, mo_z_1, jI_eq]
  by_cases h1 : b = 32
  · rw [if_pos h1, decide_eq_true (Or.inl h1)]; rfl
  · rw [if_neg h1]
    by_cases h2 : b = 10
    · rw [if_pos h2, decide_eq_true (Or.inr h2)]; rfl
    · rw [if_neg h2, decide_eq_false (by omega)]; rfl
theorem X3_le {σ : ac_H} {b : Int} (hb : 0 ≤ b ∧ b ≤ 255) : m_X3_isLetter σ (jI b) = some (jI (b2i (isLe b)), σ) := by
  unfold m_X3_isLetter isLe
  simp (disch := omega) only [ji1, ji2, ji3, ji4, ji5, ji6, ji7, ji8, ji9, ji10, ji11, ji12, ji13, ji14, ji15, ji16, ji19, ji20, ji24, ji31, ji32, ji39, ji45, ji48, ji57, ji58, ji59, ji60, ji97, ji100, ji119, ji120, ji122, ji144, ji200, ji226, ji240, ji255, ji300, ji366, ji400, ji500, ji1000, jI_z, ↓jI_m1, jI_add, jI_sub, jI_mul, ↓mo_ns_r, ↓hn0, ↓mo_cs_s, ↓mo_xs_r, ↓mo_xs_l, ↓mo_nl_s, mo_z_0, mo_z_1, jI_lt]
  by_cases h1 : b < 97
  · rw [if_pos h1, decide_eq_false (by omega)]; rfl
  · rw [if_neg h1]
    by_cases h2 : 122 < b
    · rw [if_pos h2, decide_eq_false (by omega)]; rfl
    · rw [if_neg h2, decide_eq_true (by omega)]; rfl
theorem X3_di {σ : ac_H} {b : Int} (hb : 0 ≤ b ∧ b ≤ 255) : m_X3_isDigit σ (jI b) = some (jI (b2i (isDi b)), σ) := by
  unfold m_X3_isDigit isDi
  simp (disch := omega) only [ji1, ji2, ji3, ji4, ji5, ji6, ji7, ji8, ji9, ji10, ji11, ji12, ji13, ji14, ji15, ji16, ji19, ji20, ji24, ji31, ji32, ji39, ji45, ji48, ji57, ji58, ji59, ji60, ji97, ji100, ji119, ji120, ji122, ji144, ji200, ji226, ji240, ji255, ji300, ji366, ji400, ji500, ji1000, jI_z, ↓jI_m1, jI_add, jI_sub, jI_mul, ↓mo_ns_r, ↓hn0, ↓mo_cs_s, ↓mo_xs_r, ↓mo_xs_l, ↓mo_nl_s, mo_z_0, mo_z_1, jI_lt]
  by_cases h1 : b < 48
  · rw [if_pos h1, decide_eq_false (by omega)]; rfl
  · rw [if_neg h1]
    by_cases h2 : 57 < b
    · rw [if_pos h2, decide_eq_false (by omega)]; rfl
    · rw [if_neg h2, decide_eq_true (by omega)]; rfl
theorem X3_l0 {z : Nat} {L : List Int} : ∀ (d k f : Nat) (M : hM), k + d = L.length → d < f → TX M L → gI M 37 4 = k →
    ∃ M', m_X3_advance_l0 (z + 37) f (hp S z M) = m_X3_advance_j38 (z + 37) (hp S z M') ∧ gI M' 37 4 = (k + cw isGa L k : Nat) ∧ F4 M M' := by
  intro d
  induction d with
  | zero =>
    intro k f M hk hf hT h4
    obtain ⟨f, rfl⟩ : ∃ g, f = g + 1 := ⟨f - 1, by omega⟩
    have hl := hT.2.2.1
    have e2 := hT.1
    have g : ¬ (k : Int) < L.length := by omega
    refine ⟨M, ?_, by rw [cw_n (by omega), h4]; rfl, F4.rfl'⟩
    conv => lhs; unfold m_X3_advance_l0
    simp (disch := omega) only [ji1, ji2, ji3, ji4, ji5, ji6, ji7, ji8, ji9, ji10, ji11, ji12, ji13, ji14, ji15, ji16, ji19, ji20, ji24, ji31, ji32, ji39, ji45, ji48, ji57, ji58, ji59, ji60, ji97, ji100, ji119, ji120, ji122, ji144, ji200, ji226, ji240, ji255, ji300, ji366, ji400, ji500, ji1000, jI_z, ↓jI_m1, jI_add, jI_sub, jI_mul, ↓hg37_0, ↓hg37_1, hw37_1, ↓hg37_2, hw37_2, ↓hg37_3, hw37_3, ↓hg37_4, hw37_4, ↓hg37_5, hw37_5, ↓hg37_6, hw37_6, ↓hg37_7, hw37_7, ↓hg37_8, hw37_8, ↓hg37_9, ↓hv37, ↓hx37, ha38, hu38, ↓hl38, h4, e2, jI_lt, g, if_false]
  | succ d ih =>
    intro k f M hk hf hT h4
    obtain ⟨f, rfl⟩ : ∃ g, f = g + 1 := ⟨f - 1, by omega⟩
    have hl := hT.2.2.1
    have e2 := hT.1
    have g : (k : Int) < L.length := by omega
    have hx : L[k]? = some L[k] := List.getElem?_eq_getElem (by omega)
    have hb := hT.b hx
    have ba := X3_ba (S := S) (z := z) hT hx
    have ga := X3_ga (σ := hp S z M) hb
    cases hv : isGa L[k] with
    | true =>
      obtain ⟨M', r1, r2, r3⟩ := ih (k + 1) f (sI M 37 4 (k + 1)) (by omega) (by omega) (hT.v F4_sI.v) (by rw [gI_sI, if_pos ⟨rfl, rfl⟩]; omega)
      refine ⟨M', ?_, by rw [r2, cw_t hx hv]; congr 1; omega, F4_sI.trans r3⟩
      rw [← r1]
      conv => lhs; unfold m_X3_advance_l0
      simp (disch := omega) only [ji1, ji2, ji3, ji4, ji5, ji6, ji7, ji8, ji9, ji10, ji11, ji12, ji13, ji14, ji15, ji16, ji19, ji20, ji24, ji31, ji32, ji39, ji45, ji48, ji57, ji58, ji59, ji60, ji97, ji100, ji119, ji120, ji122, ji144, ji200, ji226, ji240, ji255, ji300, ji366, ji400, ji500, ji1000, jI_z, ↓jI_m1, jI_add, jI_sub, jI_mul, ↓hg37_0, ↓hg37_1, hw37_1, ↓hg37_2, hw37_2, ↓hg37_3, hw37_3, ↓hg37_4, hw37_4, ↓hg37_5, hw37_5, ↓hg37_6, hw37_6, ↓hg37_7, hw37_7, ↓hg37_8, hw37_8, ↓hg37_9, ↓hv37, ↓hx37, ha38, hu38, ↓hl38, h4, e2, jI_lt, g, if_true]
      rw [ba]
      simp (disch := omega) only [↓mo_ns_r, ↓hn0, ↓mo_cs_s, ↓mo_xs_r, ↓mo_xs_l, ↓mo_nl_s, mo_z_0, mo_z_1]
      rw [ga, hv]
      simp (disch := omega) only [↓mo_ns_r, ↓hn0, ↓mo_cs_s, ↓mo_xs_r, ↓mo_xs_l, ↓mo_nl_s, mo_z_0, mo_z_1, ji1, ji2, ji3, ji4, ji5, ji6, ji7, ji8, ji9, ji10, ji11, ji12, ji13, ji14, ji15, ji16, ji19, ji20, ji24, ji31, ji32, ji39, ji45, ji48, ji57, ji58, ji59, ji60, ji97, ji100, ji119, ji120, ji122, ji144, ji200, ji226, ji240, ji255, ji300, ji366, ji400, ji500, ji1000, jI_z, ↓jI_m1, jI_add, jI_sub, jI_mul, b2i_0, Bool.true_eq_false, if_false, ↓hg37_0, ↓hg37_1, hw37_1, ↓hg37_2, hw37_2, ↓hg37_3, hw37_3, ↓hg37_4, hw37_4, ↓hg37_5, hw37_5, ↓hg37_6, hw37_6, ↓hg37_7, hw37_7, ↓hg37_8, hw37_8, ↓hg37_9, ↓hv37, ↓hx37, ha38, hu38, ↓hl38, h4]
    | false =>
      refine ⟨M, ?_, by rw [h4, cw_f hx hv]; rfl, F4.rfl'⟩
      conv => lhs; unfold m_X3_advance_l0
      simp (disch := omega) only [ji1, ji2, ji3, ji4, ji5, ji6, ji7, ji8, ji9, ji10, ji11, ji12, ji13, ji14, ji15, ji16, ji19, ji20, ji24, ji31, ji32, ji39, ji45, ji48, ji57, ji58, ji59, ji60, ji97, ji100, ji119, ji120, ji122, ji144, ji200, ji226, ji240, ji255, ji300, ji366, ji400, ji500, ji1000, jI_z, ↓jI_m1, jI_add, jI_sub, jI_mul, ↓hg37_0, ↓hg37_1, hw37_1, ↓hg37_2, hw37_2, ↓hg37_3, hw37_3, ↓hg37_4, hw37_4, ↓hg37_5, hw37_5, ↓hg37_6, hw37_6, ↓hg37_7, hw37_7, ↓hg37_8, hw37_8, ↓hg37_9, ↓hv37, ↓hx37, ha38, hu38, ↓hl38, h4, e2, jI_lt, g, if_true]
      rw [ba]
      simp (disch := omega) only [↓mo_ns_r, ↓hn0, ↓mo_cs_s, ↓mo_xs_r, ↓mo_xs_l, ↓mo_nl_s, mo_z_0, mo_z_1]
      rw [ga, hv]
      simp (disch := omega) only [↓mo_ns_r, ↓hn0, ↓mo_cs_s, ↓mo_xs_r, ↓mo_xs_l, ↓mo_nl_s, mo_z_0, mo_z_1, ji1, ji2, ji3, ji4, ji5, ji6, ji7, ji8, ji9, ji10, ji11, ji12, ji13, ji14, ji15, ji16, ji19, ji20, ji24, ji31, ji32, ji39, ji45, ji48, ji57, ji58, ji59, ji60, ji97, ji100, ji119, ji120, ji122, ji144, ji200, ji226, ji240, ji255, ji300, ji366, ji400, ji500, ji1000, jI_z, ↓jI_m1, jI_add, jI_sub, jI_mul, b2i_0, if_true]
theorem X3_l89 {z : Nat} {L : List Int} : ∀ (d k f : Nat) (M : hM), k + d = L.length → d < f → TX M L → gI M 37 4 = k →
    ∃ M', m_X3_advance_l89 (z + 37) f (hp S z M) = m_X3_advance_j127 (z + 37) (hp S z M') ∧ gI M' 37 4 = (k + cw isLe L k : Nat) ∧ F4 M M' := by
  intro d
  induction d with
  | zero =>
    intro k f M hk hf hT h4
    obtain ⟨f, rfl⟩ : ∃ g, f = g + 1 := ⟨f - 1, by omega⟩
    have hl := hT.2.2.1
    have e2 := hT.1
    have g : ¬ (k : Int) < L.length := by omega
    refine ⟨M, ?_, by rw [cw_n (by omega), h4]; rfl, F4.rfl'⟩
    conv => lhs; unfold m_X3_advance_l89
    simp (disch := omega) only [ji1, ji2, ji3, ji4, ji5, ji6, ji7, ji8, ji9, ji10, ji11, ji12, ji13, ji14, ji15, ji16, ji19, ji20, ji24, ji31, ji32, ji39, ji45, ji48, ji57, ji58, ji59, ji60, ji97, ji100, ji119, ji120, ji122, ji144, ji200, ji226, ji240, ji255, ji300, ji366, ji400, ji500, ji1000, jI_z, ↓jI_m1, jI_add, jI_sub, jI_mul, ↓hg37_0, ↓hg37_1, hw37_1, ↓hg37_2, hw37_2, ↓hg37_3, hw37_3, ↓hg37_4, hw37_4, ↓hg37_5, hw37_5, ↓hg37_6, hw37_6, ↓hg37_7, hw37_7, ↓hg37_8, hw37_8, ↓hg37_9, ↓hv37, ↓hx37, ha38, hu38, ↓hl38, h4, e2, jI_lt, g, if_false]
  | succ d ih =>
    intro k f M hk hf hT h4
    obtain ⟨f, rfl⟩ : ∃ g, f = g + 1 := ⟨f - 1, by omega⟩
    have hl := hT.2.2.1
    have e2 := hT.1
    have g : (k : Int) < L.length := by omega
    have hx : L[k]? = some L[k] := List.getElem?_eq_getElem (by omega)
    have hb := hT.b hx
    have ba := X3_ba (S := S) (z := z) hT hx
    have ga := X3_le (σ := hp S z M) hb
    cases hv : isLe L[k] with
    | true =>
      obtain ⟨M', r1, r2, r3⟩ := ih (k + 1) f (sI M 37 4 (k + 1)) (by omega) (by omega) (hT.v F4_sI.v) (by rw [gI_sI, if_pos ⟨rfl, rfl⟩]; omega)
      refine ⟨M', ?_, by rw [r2, cw_t hx hv]; congr 1; omega, F4_sI.trans r3⟩
      rw [← r1]
      conv => lhs; unfold m_X3_advance_l89
      simp (disch := omega) only [ji1, ji2, ji3, ji4, ji5, ji6, ji7, ji8, ji9, ji10, ji11, ji12, ji13, ji14, ji15, ji16, ji19, ji20, ji24, ji31, ji32, ji39, ji45, ji48, ji57, ji58, ji59, ji60, ji97, ji100, ji119, ji120, ji122, ji144, ji200, ji226, ji240, ji255, ji300, ji366, ji400, ji500, ji1000, jI_z, ↓jI_m1, jI_add, jI_sub, jI_mul, ↓hg37_0, ↓hg37_1, hw37_1, ↓hg37_2, hw37_2, ↓hg37_3, hw37_3, ↓hg37_4, hw37_4, ↓hg37_5, hw37_5, ↓hg37_6, hw37_6, ↓hg37_7, hw37_7, ↓hg37_8, hw37_8, ↓hg37_9, ↓hv37, ↓hx37, ha38, hu38, ↓hl38, h4, e2, jI_lt, g, if_true]
      rw [ba]
      simp (disch := omega) only [↓mo_ns_r, ↓hn0, ↓mo_cs_s, ↓mo_xs_r, ↓mo_xs_l, ↓mo_nl_s, mo_z_0, mo_z_1]
      rw [ga, hv]
      simp (disch := omega) only [↓mo_ns_r, ↓hn0, ↓mo_cs_s, ↓mo_xs_r, ↓mo_xs_l, ↓mo_nl_s, mo_z_0, mo_z_1, ji1, ji2, ji3, ji4, ji5, ji6, ji7, ji8, ji9, ji10, ji11, ji12, ji13, ji14, ji15, ji16, ji19, ji20, ji24, ji31, ji32, ji39, ji45, ji48, ji57, ji58, ji59, ji60, ji97, ji100, ji119, ji120, ji122, ji144, ji200, ji226, ji240, ji255, ji300, ji366, ji400, ji500, ji1000, jI_z, ↓jI_m1, jI_add, jI_sub, jI_mul, b2i_0, Bool.true_eq_false, if_false, ↓hg37_0, ↓hg37_1, hw37_1, ↓hg37_2, hw37_2, ↓hg37_3, hw37_3, ↓hg37_4, hw37_4, ↓hg37_5, hw37_5, ↓hg37_6, hw37_6, ↓hg37_7, hw37_7, ↓hg37_8, hw37_8, ↓hg37_9, ↓hv37, ↓hx37, ha38, hu38, ↓hl38, h4]
    | false =>
      refine ⟨M, ?_, by rw [h4, cw_f hx hv]; rfl, F4.rfl'⟩
      conv => lhs; unfold m_X3_advance_l89
      simp (disch := omega) only [ji1, ji2, ji3, ji4, ji5, ji6, ji7, ji8, ji9, ji10, ji11, ji12, ji13, ji14, ji15, ji16, ji19, ji20, ji24, ji31, ji32, ji39, ji45, ji48, ji57, ji58, ji59, ji60, ji97, ji100, ji119, ji120, ji122, ji144, ji200, ji226, ji240, ji255, ji300, ji366, ji400, ji500, ji1000, jI_z, ↓jI_m1, jI_add, jI_sub, jI_mul, ↓hg37_0, ↓hg37_1, hw37_1, ↓hg37_2, hw37_2, ↓hg37_3, hw37_3, ↓hg37_4, hw37_4, ↓hg37_5, hw37_5, ↓hg37_6, hw37_6, ↓hg37_7, hw37_7, ↓hg37_8, hw37_8, ↓hg37_9, ↓hv37, ↓hx37, ha38, hu38, ↓hl38, h4, e2, jI_lt, g, if_true]
      rw [ba]
      simp (disch := omega) only [↓mo_ns_r, ↓hn0, ↓mo_cs_s, ↓mo_xs_r, ↓mo_xs_l, ↓mo_nl_s, mo_z_0, mo_z_1]
      rw [ga, hv]
      simp (disch := omega) only [↓mo_ns_r, ↓hn0, ↓mo_cs_s, ↓mo_xs_r, ↓mo_xs_l, ↓mo_nl_s, mo_z_0, mo_z_1, ji1, ji2, ji3, ji4, ji5, ji6, ji7, ji8, ji9, ji10, ji11, ji12, ji13, ji14, ji15, ji16, ji19, ji20, ji24, ji31, ji32, ji39, ji45, ji48, ji57, ji58, ji59, ji60, ji97, ji100, ji119, ji120, ji122, ji144, ji200, ji226, ji240, ji255, ji300, ji366, ji400, ji500, ji1000, jI_z, ↓jI_m1, jI_add, jI_sub, jI_mul, b2i_0, if_true]
theorem X3_l160 {z : Nat} {L : List Int} : ∀ (d k f : Nat) (M : hM), k + d = L.length → d < f → TX M L → gI M 37 4 = k →
    ∃ M', m_X3_advance_l160 (z + 37) f (hp S z M) = m_X3_advance_j198 (z + 37) (hp S z M') ∧ gI M' 37 4 = (k + cw isDi L k : Nat) ∧ F4 M M' := by
  intro d
  induction d with
  | zero =>
    intro k f M hk hf hT h4
    obtain ⟨f, rfl⟩ : ∃ g, f = g + 1 := ⟨f - 1, by omega⟩
    have hl := hT.2.2.1
    have e2 := hT.1
    have g : ¬ (k : Int) < L.length := by omega
    refine ⟨M, ?_, by rw [cw_n (by omega), h4]; rfl, F4.rfl'⟩
    conv => lhs; unfold m_X3_advance_l160
    simp (disch := omega) only [ji1, ji2, ji3, ji4, ji5, ji6, ji7, ji8, ji9, ji10, ji11, ji12, ji13, ji14, ji15, ji16, ji19, ji20, ji24, ji31, ji32, ji39, ji45, ji48, ji57, ji58, ji59, ji60, ji97, ji100, ji119, ji120, ji122, ji144, ji200, ji226, ji240, ji255, ji300, ji366, ji400, ji500, ji1000, jI_z, ↓jI_m1, jI_add, jI_sub, jI_mul, ↓hg37_0, ↓hg37_1, hw37_1, ↓hg37_2, hw37_2, ↓hg37_3, hw37_3, ↓hg37_4, hw37_4, ↓hg37_5, hw37_5, ↓hg37_6, hw37_6, ↓hg37_7, hw37_7, ↓hg37_8, hw37_8, ↓hg37_9, ↓hv37, ↓hx37, ha38, hu38, ↓hl38, h4, e2, jI_lt, g, if_false]
  | succ d ih =>
    intro k f M hk hf hT h4
    obtain ⟨f, rfl⟩ : ∃ g, f = g + 1 := ⟨f - 1, by omega⟩
    have hl := hT.2.2.1
    have e2 := hT.1
    have g : (k : Int) < L.length := by omega
    have hx : L[k]? = some L[k] := List.getElem?_eq_getElem (by omega)
    have hb := hT.b hx
    have ba := X3_ba (S := S) (z := z) hT hx
    have ga := X3_di (σ := hp S z M) hb
    cases hv : isDi L[k] with
    | true =>
      obtain ⟨M', r1, r2, r3⟩ := ih (k + 1) f (sI M 37 4 (k + 1)) (by omega) (by omega) (hT.v F4_sI.v) (by rw [gI_sI, if_pos ⟨rfl, rfl⟩]; omega)
      refine ⟨M', ?_, by rw [r2, cw_t hx hv]; congr 1; omega, F4_sI.trans r3⟩
      rw [← r1]
      conv => lhs; unfold m_X3_advance_l160
      simp (disch := omega) only [ji1, ji2, ji3, ji4, ji5, ji6, ji7, ji8, ji9, ji10, ji11, ji12, ji13, ji14, ji15, ji16, ji19, ji20, ji24, ji31, ji32, ji39, ji45, ji48, ji57, ji58, ji59, ji60, ji97, ji100, ji119, ji120, ji122, ji144, ji200, ji226, ji240, ji255, ji300, ji366, ji400, ji500, ji1000, jI_z, ↓jI_m1, jI_add, jI_sub, jI_mul, ↓hg37_0, ↓hg37_1, hw37_1, ↓hg37_2, hw37_2, ↓hg37_3, hw37_3, ↓hg37_4, hw37_4, ↓hg37_5, hw37_5, ↓hg37_6, hw37_6, ↓hg37_7, hw37_7, ↓hg37_8, hw37_8, ↓hg37_9, ↓hv37, ↓hx37, ha38, hu38, ↓hl38, h4, e2, jI_lt, g, if_true]
      rw [ba]
      simp (disch := omega) only [↓mo_ns_r, ↓hn0, ↓mo_cs_s, ↓mo_xs_r, ↓mo_xs_l, ↓mo_nl_s, mo_z_0, mo_z_1]
      rw [ga, hv]
      simp (disch := omega) only [↓mo_ns_r, ↓hn0, ↓mo_cs_s, ↓mo_xs_r, ↓mo_xs_l, ↓mo_nl_s, mo_z_0, mo_z_1, ji1, ji2, ji3, ji4, ji5, ji6, ji7, ji8, ji9, ji10, ji11, ji12, ji13, ji14, ji15, ji16, ji19, ji20, ji24, ji31, ji32, ji39, ji45, ji48, ji57, ji58, ji59, ji60, ji97, ji100, ji119, ji120, ji122, ji144, ji200, ji226, ji240, ji255, ji300, ji366, ji400, ji500, ji1000, jI_z, ↓jI_m1, jI_add, jI_sub, jI_mul, b2i_0, Bool.true_eq_false, if_false, ↓hg37_0, ↓hg37_1, hw37_1, ↓hg37_2, hw37_2, ↓hg37_3, hw37_3, ↓hg37_4, hw37_4, ↓hg37_5, hw37_5, ↓hg37_6, hw37_6, ↓hg37_7, hw37_7, ↓hg37_8, hw37_8, ↓hg37_9, ↓hv37, ↓hx37, ha38, hu38, ↓hl38, h4]
    | false =>
      refine ⟨M, ?_, by rw [h4, cw_f hx hv]; rfl, F4.rfl'⟩
      conv => lhs; unfold m_X3_advance_l160
      simp (disch := omega) only [ji1, ji2, ji3, ji4, ji5, ji6, ji7, ji8, ji9, ji10, ji11, ji12, ji13, ji14, ji15, ji16, ji19, ji20, ji24, ji31, ji32, ji39, ji45, ji48, ji57, ji58, ji59, ji60, ji97, ji100, ji119, ji120, ji122, ji144, ji200, ji226, ji240, ji255, ji300, ji366, ji400, ji500, ji1000, jI_z, ↓jI_m1, jI_add, jI_sub, jI_mul, ↓hg37_0, ↓hg37_1, hw37_1, ↓hg37_2, hw37_2, ↓hg37_3, hw37_3, ↓hg37_4, hw37_4, ↓hg37_5, hw37_5, ↓hg37_6, hw37_6, ↓hg37_7, hw37_7, ↓hg37_8, hw37_8, ↓hg37_9, ↓hv37, ↓hx37, ha38, hu38, ↓hl38, h4, e2, jI_lt, g, if_true]
      rw [ba]
      simp (disch := omega) only [↓mo_ns_r, ↓hn0, ↓mo_cs_s, ↓mo_xs_r, ↓mo_xs_l, ↓mo_nl_s, mo_z_0, mo_z_1]
      rw [ga, hv]
      simp (disch := omega) only [↓mo_ns_r, ↓hn0, ↓mo_cs_s, ↓mo_xs_r, ↓mo_xs_l, ↓mo_nl_s, mo_z_0, mo_z_1, ji1, ji2, ji3, ji4, ji5, ji6, ji7, ji8, ji9, ji10, ji11, ji12, ji13, ji14, ji15, ji16, ji19, ji20, ji24, ji31, ji32, ji39, ji45, ji48, ji57, ji58, ji59, ji60, ji97, ji100, ji119, ji120, ji122, ji144, ji200, ji226, ji240, ji255, ji300, ji366, ji400, ji500, ji1000, jI_z, ↓jI_m1, jI_add, jI_sub, jI_mul, b2i_0, if_true]
/-- the class's reader stands at the token behind p -/
def CT (M : hM) (L : List Int) (p : Nat) : Prop := gI M 37 3 = tS L p ∧ gI M 37 4 = tN L p ∧ gI M 37 5 = tK L p
theorem X3_j38 {z s : Nat} {L : List Int} {M : hM} (hT : TX M L) (hs : s ≤ L.length) (h4 : gI M 37 4 = s) :
    ∃ M', m_X3_advance_j38 (z + 37) (hp S z M) = some ((), hp S z M') ∧ gI M' 37 3 = s ∧ gI M' 37 4 = eN L s ∧ gI M' 37 5 = eK L s ∧ FV M M' := by
  have hl := hT.2.2.1
  have F3 : FV M (sI M 37 3 s) := FV_sI (by omega)
  have hT3 := hT.v F3
  have e2 := hT3.1
  have e4 : gI (sI M 37 3 s) 37 4 = s := by rw [gI_sI, if_neg (by omega), h4]
  by_cases hlt : s < L.length
  · have hx : L[s]? = some L[s] := List.getElem?_eq_getElem hlt
    have hb := hT.b hx
    have ba := X3_ba (S := S) (z := z) hT3 hx
    have g : (s : Int) < L.length := by omega
    have F34 : FV M (sI (sI M 37 3 s) 37 4 (s + 1)) := F3.trans (FV_sI (by omega))
    have hT4 := hT.v F34
    have h3' : gI (sI (sI M 37 3 s) 37 4 (s + 1)) 37 3 = s := by rw [gI_sI, if_neg (by omega), gI_sI, if_pos ⟨rfl, rfl⟩]
    have h4' : gI (sI (sI M 37 3 s) 37 4 (s + 1)) 37 4 = (s + 1 : Nat) := by rw [gI_sI, if_pos ⟨rfl, rfl⟩]; omega
    have le := X3_le (σ := hp S z (sI (sI M 37 3 s) 37 4 (s + 1))) hb
    have di := X3_di (σ := hp S z (sI (sI M 37 3 s) 37 4 (s + 1))) hb
    have pre : ∀ r, (if jI (b2i (isLe L[s])) = jI 0 then (if jI (b2i (isDi L[s])) = jI 0 then (if L[s] = 59 then some ((), hp S z (sI (sI (sI M 37 3 s) 37 4 (s + 1)) 37 5 3)) else some ((), hp S z (sI (sI (sI M 37 3 s) 37 4 (s + 1)) 37 5 4))) else m_X3_advance_l160 (z + 37) hN_f (hp S z (sI (sI M 37 3 s) 37 4 (s + 1)))) else m_X3_advance_l89 (z + 37) hN_f (hp S z (sI (sI M 37 3 s) 37 4 (s + 1)))) = r → m_X3_advance_j38 (z + 37) (hp S z M) = r := by
      intro r hr
      rw [← hr]
      unfold m_X3_advance_j38
      simp (disch := omega) only [ji1, ji2, ji3, ji4, ji5, ji6, ji7, ji8, ji9, ji10, ji11, ji12, ji13, ji14, ji15, ji16, ji19, ji20, ji24, ji31, ji32, ji39, ji45, ji48, ji57, ji58, ji59, ji60, ji97, ji100, ji119, ji120, ji122, ji144, ji200, ji226, ji240, ji255, ji300, ji366, ji400, ji500, ji1000, jI_z, ↓jI_m1, jI_add, jI_sub, jI_mul, ↓hg37_0, ↓hg37_1, hw37_1, ↓hg37_2, hw37_2, ↓hg37_3, hw37_3, ↓hg37_4, hw37_4, ↓hg37_5, hw37_5, ↓hg37_6, hw37_6, ↓hg37_7, hw37_7, ↓hg37_8, hw37_8, ↓hg37_9, ↓hv37, ↓hx37, ha38, hu38, ↓hl38, h4, e4, e2, jI_lt, g, if_true]
      rw [ba]
      simp (disch := omega) only [↓mo_ns_r, ↓hn0, ↓mo_cs_s, ↓mo_xs_r, ↓mo_xs_l, ↓mo_nl_s, mo_z_0, mo_z_1, ji1, ji2, ji3, ji4, ji5, ji6, ji7, ji8, ji9, ji10, ji11, ji12, ji13, ji14, ji15, ji16, ji19, ji20, ji24, ji31, ji32, ji39, ji45, ji48, ji57, ji58, ji59, ji60, ji97, ji100, ji119, ji120, ji122, ji144, ji200, ji226, ji240, ji255, ji300, ji366, ji400, ji500, ji1000, jI_z, ↓jI_m1, jI_add, jI_sub, jI_mul, ↓hg37_0, ↓hg37_1, hw37_1, ↓hg37_2, hw37_2, ↓hg37_3, hw37_3, ↓hg37_4, hw37_4, ↓hg37_5, hw37_5, ↓hg37_6, hw37_6, ↓hg37_7, hw37_7, ↓hg37_8, hw37_8, ↓hg37_9, ↓hv37, ↓hx37, ha38, hu38, ↓hl38, e4]
      rw [le]
      simp (disch := omega) only [↓mo_ns_r, ↓hn0, ↓mo_cs_s, ↓mo_xs_r, ↓mo_xs_l, ↓mo_nl_s, mo_z_0, mo_z_1, ji1, ji2, ji3, ji4, ji5, ji6, ji7, ji8, ji9, ji10, ji11, ji12, ji13, ji14, ji15, ji16, ji19, ji20, ji24, ji31, ji32, ji39, ji45, ji48, ji57, ji58, ji59, ji60, ji97, ji100, ji119, ji120, ji122, ji144, ji200, ji226, ji240, ji255, ji300, ji366, ji400, ji500, ji1000, jI_z, ↓jI_m1, jI_add, jI_sub, jI_mul]
      rw [di]
      simp (disch := omega) only [↓mo_ns_r, ↓hn0, ↓mo_cs_s, ↓mo_xs_r, ↓mo_xs_l, ↓mo_nl_s, mo_z_0, mo_z_1, ji1, ji2, ji3, ji4, ji5, ji6, ji7, ji8, ji9, ji10, ji11, ji12, ji13, ji14, ji15, ji16, ji19, ji20, ji24, ji31, ji32, ji39, ji45, ji48, ji57, ji58, ji59, ji60, ji97, ji100, ji119, ji120, ji122, ji144, ji200, ji226, ji240, ji255, ji300, ji366, ji400, ji500, ji1000, jI_z, ↓jI_m1, jI_add, jI_sub, jI_mul, jI_eq, ↓hg37_0, ↓hg37_1, hw37_1, ↓hg37_2, hw37_2, ↓hg37_3, hw37_3, ↓hg37_4, hw37_4, ↓hg37_5, hw37_5, ↓hg37_6, hw37_6, ↓hg37_7, hw37_7, ↓hg37_8, hw37_8, ↓hg37_9, ↓hv37, ↓hx37, ha38, hu38, ↓hl38]
    cases hv : isLe L[s] with
    | true =>
      obtain ⟨M', r1, r2, r3⟩ := X3_l89 (S := S) (z := z) (L := L) (L.length - (s + 1)) (s + 1) hN_f _ (by omega) (by unfold hN_f; omega) hT4 h4'
      have ec := cw_t hx hv
      have en : eN L s = s + cw isLe L s := by unfold eN; rw [hx]; simp only [hv, if_true]
      have e3 : gI M' 37 3 = s := by rw [r3.1 37 3 (by omega), h3']
      have e4'' : gI M' 37 4 = (s : Int) + cw isLe L s := by rw [r2, ec]; omega
      have hcl := cw_le (P := isLe) (L := L) (L.length - s) s (by omega)
      rw [hv, if_neg (by decide)] at pre
      by_cases h9 : 9 < cw isLe L s
      · refine ⟨sI M' 37 5 4, pre _ ?_, by rw [gI_sI, if_neg (by omega), e3], by rw [gI_sI, if_neg (by omega), e4'', en]; omega, by rw [gI_sI, if_pos ⟨rfl, rfl⟩]; unfold eK; rw [hx]; simp only [hv, if_true, h9], (F34.trans r3.v).trans (FV_sI (by omega))⟩
        rw [r1]
        unfold m_X3_advance_j127
        have gg : (9 : Int) < s + cw isLe L s - s := by omega
        simp (disch := omega) only [ji1, ji2, ji3, ji4, ji5, ji6, ji7, ji8, ji9, ji10, ji11, ji12, ji13, ji14, ji15, ji16, ji19, ji20, ji24, ji31, ji32, ji39, ji45, ji48, ji57, ji58, ji59, ji60, ji97, ji100, ji119, ji120, ji122, ji144, ji200, ji226, ji240, ji255, ji300, ji366, ji400, ji500, ji1000, jI_z, ↓jI_m1, jI_add, jI_sub, jI_mul, ↓hg37_0, ↓hg37_1, hw37_1, ↓hg37_2, hw37_2, ↓hg37_3, hw37_3, ↓hg37_4, hw37_4, ↓hg37_5, hw37_5, ↓hg37_6, hw37_6, ↓hg37_7, hw37_7, ↓hg37_8, hw37_8, ↓hg37_9, ↓hv37, ↓hx37, ha38, hu38, ↓hl38, e3, e4'', jI_lt, gg, if_true]
      · refine ⟨sI M' 37 5 1, pre _ ?_, by rw [gI_sI, if_neg (by omega), e3], by rw [gI_sI, if_neg (by omega), e4'', en]; omega, by rw [gI_sI, if_pos ⟨rfl, rfl⟩]; unfold eK; rw [hx]; simp only [hv, if_true, h9, if_false], (F34.trans r3.v).trans (FV_sI (by omega))⟩
        rw [r1]
        unfold m_X3_advance_j127
        have gg : ¬ (9 : Int) < s + cw isLe L s - s := by omega
        simp (disch := omega) only [ji1, ji2, ji3, ji4, ji5, ji6, ji7, ji8, ji9, ji10, ji11, ji12, ji13, ji14, ji15, ji16, ji19, ji20, ji24, ji31, ji32, ji39, ji45, ji48, ji57, ji58, ji59, ji60, ji97, ji100, ji119, ji120, ji122, ji144, ji200, ji226, ji240, ji255, ji300, ji366, ji400, ji500, ji1000, jI_z, ↓jI_m1, jI_add, jI_sub, jI_mul, ↓hg37_0, ↓hg37_1, hw37_1, ↓hg37_2, hw37_2, ↓hg37_3, hw37_3, ↓hg37_4, hw37_4, ↓hg37_5, hw37_5, ↓hg37_6, hw37_6, ↓hg37_7, hw37_7, ↓hg37_8, hw37_8, ↓hg37_9, ↓hv37, ↓hx37, ha38, hu38, ↓hl38, e3, e4'', jI_lt, gg, if_false]
    | false =>
      rw [hv, if_pos (by decide)] at pre
      cases hw : isDi L[s] with
      | true =>
        obtain ⟨M', r1, r2, r3⟩ := X3_l160 (S := S) (z := z) (L := L) (L.length - (s + 1)) (s + 1) hN_f _ (by omega) (by unfold hN_f; omega) hT4 h4'
        have ec := cw_t hx hw
        have en : eN L s = s + cw isDi L s := by unfold eN; rw [hx]; simp only [hv, hw, if_true, Bool.false_eq_true, if_false]
        have e3 : gI M' 37 3 = s := by rw [r3.1 37 3 (by omega), h3']
        have e4'' : gI M' 37 4 = (s : Int) + cw isDi L s := by rw [r2, ec]; omega
        have hcl := cw_le (P := isDi) (L := L) (L.length - s) s (by omega)
        rw [hw, if_neg (by decide)] at pre
        by_cases h9 : 3 < cw isDi L s
        · refine ⟨sI M' 37 5 4, pre _ ?_, by rw [gI_sI, if_neg (by omega), e3], by rw [gI_sI, if_neg (by omega), e4'', en]; omega, by rw [gI_sI, if_pos ⟨rfl, rfl⟩]; unfold eK; rw [hx]; simp only [hv, hw, if_true, h9, Bool.false_eq_true, if_false], (F34.trans r3.v).trans (FV_sI (by omega))⟩
          rw [r1]
          unfold m_X3_advance_j198
          have gg : (3 : Int) < s + cw isDi L s - s := by omega
          simp (disch := omega) only [ji1, ji2, ji3, ji4, ji5, ji6, ji7, ji8, ji9, ji10, ji11, ji12, ji13, ji14, ji15, ji16, ji19, ji20, ji24, ji31, ji32, ji39, ji45, ji48, ji57, ji58, ji59, ji60, ji97, ji100, ji119, ji120, ji122, ji144, ji200, ji226, ji240, ji255, ji300, ji366, ji400, ji500, ji1000, jI_z, ↓jI_m1, jI_add, jI_sub, jI_mul, ↓hg37_0, ↓hg37_1, hw37_1, ↓hg37_2, hw37_2, ↓hg37_3, hw37_3, ↓hg37_4, hw37_4, ↓hg37_5, hw37_5, ↓hg37_6, hw37_6, ↓hg37_7, hw37_7, ↓hg37_8, hw37_8, ↓hg37_9, ↓hv37, ↓hx37, ha38, hu38, ↓hl38, e3, e4'', jI_lt, gg, if_true]
        · refine ⟨sI M' 37 5 2, pre _ ?_, by rw [gI_sI, if_neg (by omega), e3], by rw [gI_sI, if_neg (by omega), e4'', en]; omega, by rw [gI_sI, if_pos ⟨rfl, rfl⟩]; unfold eK; rw [hx]; simp only [hv, hw, if_true, h9, Bool.false_eq_true, if_false], (F34.trans r3.v).trans (FV_sI (by omega))⟩
          rw [r1]
          unfold m_X3_advance_j198
          have gg : ¬ (3 : Int) < s + cw isDi L s - s := by omega
          simp (disch := omega) only [ji1, ji2, ji3, ji4, ji5, ji6, ji7, ji8, ji9, ji10, ji11, ji12, ji13, ji14, ji15, ji16, ji19, ji20, ji24, ji31, ji32, ji39, ji45, ji48, ji57, ji58, ji59, ji60, ji97, ji100, ji119, ji120, ji122, ji144, ji200, ji226, ji240, ji255, ji300, ji366, ji400, ji500, ji1000, jI_z, ↓jI_m1, jI_add, jI_sub, jI_mul, ↓hg37_0, ↓hg37_1, hw37_1, ↓hg37_2, hw37_2, ↓hg37_3, hw37_3, ↓hg37_4, hw37_4, ↓hg37_5, hw37_5, ↓hg37_6, hw37_6, ↓hg37_7, hw37_7, ↓hg37_8, hw37_8, ↓hg37_9, ↓hv37, ↓hx37, ha38, hu38, ↓hl38, e3, e4'', jI_lt, gg, if_false]
      | false =>
        have en : eN L s = s + 1 := by unfold eN; rw [hx]; simp only [hv, hw, Bool.false_eq_true, if_false]
        rw [hw, if_pos (by decide)] at pre
        by_cases h59 : L[s] = 59
        · exact ⟨_, pre _ (if_pos h59), by rw [gI_sI, if_neg (by omega), h3'], by rw [gI_sI, if_neg (by omega), h4', en], by rw [gI_sI, if_pos ⟨rfl, rfl⟩]; unfold eK; rw [hx]; show _ = if isLe L[s] = true then _ else _; rw [if_neg (by rw [hv]; decide), if_neg (by rw [hw]; decide), if_pos h59], F34.trans (FV_sI (by omega))⟩
        · exact ⟨_, pre _ (if_neg h59), by rw [gI_sI, if_neg (by omega), h3'], by rw [gI_sI, if_neg (by omega), h4', en], by rw [gI_sI, if_pos ⟨rfl, rfl⟩]; unfold eK; rw [hx]; simp only [hv, hw, Bool.false_eq_true, if_false, h59], F34.trans (FV_sI (by omega))⟩
  · have hx : L[s]? = none := List.getElem?_eq_none (by omega)
    have g : ¬ (s : Int) < L.length := by omega
    refine ⟨sI (sI M 37 3 s) 37 5 0, ?_, by rw [gI_sI, if_neg (by omega), gI_sI, if_pos ⟨rfl, rfl⟩], by rw [gI_sI, if_neg (by omega), e4]; unfold eN; rw [hx], by rw [gI_sI, if_pos ⟨rfl, rfl⟩]; unfold eK; rw [hx], F3.trans (FV_sI (by omega))⟩
    unfold m_X3_advance_j38
    simp (disch := omega) only [ji1, ji2, ji3, ji4, ji5, ji6, ji7, ji8, ji9, ji10, ji11, ji12, ji13, ji14, ji15, ji16, ji19, ji20, ji24, ji31, ji32, ji39, ji45, ji48, ji57, ji58, ji59, ji60, ji97, ji100, ji119, ji120, ji122, ji144, ji200, ji226, ji240, ji255, ji300, ji366, ji400, ji500, ji1000, jI_z, ↓jI_m1, jI_add, jI_sub, jI_mul, ↓hg37_0, ↓hg37_1, hw37_1, ↓hg37_2, hw37_2, ↓hg37_3, hw37_3, ↓hg37_4, hw37_4, ↓hg37_5, hw37_5, ↓hg37_6, hw37_6, ↓hg37_7, hw37_7, ↓hg37_8, hw37_8, ↓hg37_9, ↓hv37, ↓hx37, ha38, hu38, ↓hl38, h4, e4, e2, jI_lt, g, if_false]
theorem X3_adv {z p : Nat} {L : List Int} {M : hM} (hT : TX M L) (hp' : p ≤ L.length) (h4 : gI M 37 4 = p) :
    ∃ M', m_X3_advance (hp S z M) (z + 37) = some ((), hp S z M') ∧ CT M' L p ∧ FV M M' := by
  have hl := hT.2.2.1
  obtain ⟨M1, r1, r2, r3⟩ := X3_l0 (S := S) (z := z) (L := L) (L.length - p) p hN_f M (by omega) (by unfold hN_f; omega) hT h4
  obtain ⟨M2, s1, s2, s3, s4, s5⟩ := X3_j38 (S := S) (z := z) (s := tS L p) (hT.v r3.v) (tS_le hp') r2
  exact ⟨M2, r1.trans s1, ⟨s2, s3, s4⟩, r3.v.trans s5⟩


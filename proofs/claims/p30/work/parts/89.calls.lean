variable {S : hSh}
/-! CALLS: what each answers (a code of what it throws, a value, the state behind it). -/
def xo (e : Int → String) (c v : Int) : String ⊕ Int32 := if c = 0 then .inr (jI v) else .inl (e c)
def eA : Int → String := fun _ => "java/lang/IllegalArgumentException"
def eO : Int → String := fun _ => "java/lang/IndexOutOfBoundsException"
def eX : Int → String := fun c => if c = 1 then "java/lang/IndexOutOfBoundsException" else "java/lang/IllegalArgumentException"
def eS : Int → String := fun c => if c = 1 then "java/lang/IllegalArgumentException" else "java/lang/IllegalStateException"
def eT : Int → String := fun c => if c = 1 then "java/lang/IndexOutOfBoundsException" else "java/lang/IllegalStateException"
abbrev hR : Type := Int × Int × hQ
/-- of the class, with and without exceptions; of the model -/
def OC (S : hSh) (z : Nat) (M : hM) (o : Option ((String ⊕ Int32) × ac_H)) (e : Int → String) (r : hR) : Prop := ∃ M', o = some (xo e r.1 r.2.1, hp S z M') ∧ CI M' r.2.2 ∧ KM M M'
def OD (S : hSh) (z : Nat) (M : hM) (o : Option (Int32 × ac_H)) (r : hR) : Prop := ∃ M', o = some (jI r.2.1, hp S z M') ∧ CI M' r.2.2 ∧ KM M M'
theorem xo0 {e : Int → String} {v : Int} : xo e 0 v = .inr (jI v) := if_pos rfl
theorem j10 : (jI 1 = jI 0) = False := eq_false (by decide)
theorem okW_n {n : Int} (h0 : -100000 ≤ n) (h1 : n ≤ 100000) : okW n := ⟨by omega, by omega⟩
theorem X6_cp1 {p : Nat} (hp' : p < 4) (σ : ac_H) : m_X6_checkPromise σ (jI p) = some (.inr (), σ) := by
  have g : (p : Int) < 4 := by omega
  have g0 : ¬ (p : Int) < 0 := by omega
  unfold m_X6_checkPromise
  simp (disch := omega) only [ji1, ji2, ji3, ji4, ji5, ji6, ji7, ji8, ji9, ji10, ji11, ji12, ji13, ji14, ji15, ji16, ji19, ji20, ji24, ji31, ji32, ji39, ji45, ji48, ji57, ji58, ji59, ji60, ji97, ji100, ji119, ji120, ji122, ji144, ji200, ji226, ji240, ji255, ji300, ji366, ji400, ji500, ji1000, jI_z, ↓jI_m1, jI_add, jI_sub, jI_mul, jI_lt, g, g0, if_true, if_false]
theorem X6_cp0 {p : Int} (hp' : okW p) (hn : ¬ (0 ≤ p ∧ p < 4)) (σ : ac_H) : m_X6_checkPromise σ (jI p) = some (.inl "java/lang/IllegalArgumentException", σ) := by
  obtain ⟨p0, p1⟩ := hp'
  unfold m_X6_checkPromise
  simp (disch := omega) only [ji1, ji2, ji3, ji4, ji5, ji6, ji7, ji8, ji9, ji10, ji11, ji12, ji13, ji14, ji15, ji16, ji19, ji20, ji24, ji31, ji32, ji39, ji45, ji48, ji57, ji58, ji59, ji60, ji97, ji100, ji119, ji120, ji122, ji144, ji200, ji226, ji240, ji255, ji300, ji366, ji400, ji500, ji1000, jI_z, ↓jI_m1, jI_add, jI_sub, jI_mul, jI_lt]
  by_cases g : p < 0
  · rw [if_pos g]
  · rw [if_neg g, if_neg (by omega)]
theorem X6_cf1 {z f : Nat} {M : hM} {c : hCf} (hB : BR M 1 c) (hc : okC c) (hf : f < c.2.length) : m_X6_checkFault (hp S z M) z (jI f) = some (.inr (), hp S z M) := by
  have hl := hc.1
  have g : (f : Int) < c.2.length := by omega
  have g0 : ¬ (f : Int) < 0 := by omega
  have e := hB.2.1
  unfold m_X6_checkFault
  simp (disch := omega) only [ji1, ji2, ji3, ji4, ji5, ji6, ji7, ji8, ji9, ji10, ji11, ji12, ji13, ji14, ji15, ji16, ji19, ji20, ji24, ji31, ji32, ji39, ji45, ji48, ji57, ji58, ji59, ji60, ji97, ji100, ji119, ji120, ji122, ji144, ji200, ji226, ji240, ji255, ji300, ji366, ji400, ji500, ji1000, jI_z, ↓jI_m1, jI_add, jI_sub, jI_mul, jI_lt, g0, if_false, ↓hg0_0, ↓hg0_1, ↓hg0_2, ↓hg0_3, ↓hg0_4, ↓hg0_5, hw0_5, ↓hg0_6, ↓hg0_7, ↓hv0, ↓hx0, ha132, hu132, ↓hl132, ↓Bv (b := 1) rfl]
  rw [X0_count (b := 1) rfl]
  simp (disch := omega) only [↓mo_ns_r, ↓hn0, ↓mo_cs_s, ↓mo_xs_r, ↓mo_xs_l, ↓mo_nl_s, mo_z_0, mo_z_1, e, jI_lt, g, if_true]
theorem X6_cf0 {z : Nat} {f : Int} {M : hM} {c : hCf} (hB : BR M 1 c) (hc : okC c) (hf : okW f) (hn : ¬ (0 ≤ f ∧ f < c.2.length)) : m_X6_checkFault (hp S z M) z (jI f) = some (.inl "java/lang/IndexOutOfBoundsException", hp S z M) := by
  obtain ⟨f0, f1⟩ := hf
  have hl := hc.1
  have e := hB.2.1
  unfold m_X6_checkFault
  simp (disch := omega) only [ji1, ji2, ji3, ji4, ji5, ji6, ji7, ji8, ji9, ji10, ji11, ji12, ji13, ji14, ji15, ji16, ji19, ji20, ji24, ji31, ji32, ji39, ji45, ji48, ji57, ji58, ji59, ji60, ji97, ji100, ji119, ji120, ji122, ji144, ji200, ji226, ji240, ji255, ji300, ji366, ji400, ji500, ji1000, jI_z, ↓jI_m1, jI_add, jI_sub, jI_mul, jI_lt, ↓hg0_0, ↓hg0_1, ↓hg0_2, ↓hg0_3, ↓hg0_4, ↓hg0_5, hw0_5, ↓hg0_6, ↓hg0_7, ↓hv0, ↓hx0, ha132, hu132, ↓hl132, ↓Bv (b := 1) rfl]
  by_cases g : f < 0
  · rw [if_pos g]
  · rw [if_neg g, X0_count (b := 1) rfl]
    simp (disch := omega) only [↓mo_ns_r, ↓hn0, ↓mo_cs_s, ↓mo_xs_r, ↓mo_xs_l, ↓mo_nl_s, mo_z_0, mo_z_1, e, jI_lt]
    rw [if_neg (by omega)]
/-- promise 4 -/
def rErr (q : hQ) : hR := (0, q.2.2.2.2, q)
/-- promise 6 -/
def prtF (x : hF) (p : Int) : Int := if p = 0 then x.1 else if p = 1 then x.2.1 else x.2.2
def rFault (q : hQ) (f p : Int) : hR := if 0 ≤ f ∧ f < q.1.1.2.length then (if 0 ≤ p ∧ p ≤ 2 then (0, prtF (q.1.1.2.getD f.toNat (0, 0, 0)) p, q) else (2, 0, q)) else (1, 0, q)
theorem C_fault {z : Nat} {M : hM} {q : hQ} {f p : Int} (h : CI M q) (ho : okQ q) (hf : okW f) (hp' : okW p) : OC S z M (m_X6_fault (hp S z M) z (jI f) (jI p)) eX (rFault q f p) := by
  obtain ⟨p0, p1⟩ := hp'
  have hB := h.1.1
  have hc := ho.1.1
  unfold rFault
  by_cases g1 : 0 ≤ f ∧ f < q.1.1.2.length
  · rw [if_pos g1]
    obtain ⟨i, rfl⟩ : ∃ i : Nat, f = i := ⟨f.toNat, by omega⟩
    have hi : i < q.1.1.2.length := by omega
    have hx : q.1.1.2[i]? = some q.1.1.2[i] := List.getElem?_eq_getElem hi
    have hgd : q.1.1.2.getD ((i : Int).toNat) (0, 0, 0) = q.1.1.2[i] := by rw [Int.toNat_natCast, List.getD_eq_getElem?_getD, hx]; rfl
    by_cases g2 : 0 ≤ p ∧ p ≤ 2
    · rw [if_pos g2]
      refine ⟨M, ?_, h, KM.rfl'⟩
      have n1 : ¬ p < 0 := by omega
      have n2 : ¬ 2 < p := by omega
      unfold m_X6_fault
      simp (disch := omega) only [ji1, ji2, ji3, ji4, ji5, ji6, ji7, ji8, ji9, ji10, ji11, ji12, ji13, ji14, ji15, ji16, ji19, ji20, ji24, ji31, ji32, ji39, ji45, ji48, ji57, ji58, ji59, ji60, ji97, ji100, ji119, ji120, ji122, ji144, ji200, ji226, ji240, ji255, ji300, ji366, ji400, ji500, ji1000, jI_z, ↓jI_m1, jI_add, jI_sub, jI_mul, ↓hg0_0, ↓hg0_1, ↓hg0_2, ↓hg0_3, ↓hg0_4, ↓hg0_5, hw0_5, ↓hg0_6, ↓hg0_7, ↓hv0, ↓hx0, ha132, hu132, ↓hl132]
      rw [X6_cf1 hB hc hi]
      simp (disch := omega) only [↓mo_ns_r, ↓hn0, ↓mo_cs_s, ↓mo_xs_r, ↓mo_xs_l, ↓mo_nl_s, mo_z_0, mo_z_1, jI_lt, n1, n2, if_false, ↓hg0_0, ↓hg0_1, ↓hg0_2, ↓hg0_3, ↓hg0_4, ↓hg0_5, hw0_5, ↓hg0_6, ↓hg0_7, ↓hv0, ↓hx0, ha132, hu132, ↓hl132, ↓Bv (b := 1) rfl]
      rw [X0_part (b := 1) rfl hB hc hx g2.1 g2.2]
      simp only [↓mo_ns_r, ↓hn0, ↓mo_cs_s, ↓mo_xs_r, ↓mo_xs_l, ↓mo_nl_s, mo_z_0, mo_z_1, hgd]
      rfl
    · rw [if_neg g2]
      refine ⟨M, ?_, h, KM.rfl'⟩
      unfold m_X6_fault
      simp (disch := omega) only [ji1, ji2, ji3, ji4, ji5, ji6, ji7, ji8, ji9, ji10, ji11, ji12, ji13, ji14, ji15, ji16, ji19, ji20, ji24, ji31, ji32, ji39, ji45, ji48, ji57, ji58, ji59, ji60, ji97, ji100, ji119, ji120, ji122, ji144, ji200, ji226, ji240, ji255, ji300, ji366, ji400, ji500, ji1000, jI_z, ↓jI_m1, jI_add, jI_sub, jI_mul, ↓hg0_0, ↓hg0_1, ↓hg0_2, ↓hg0_3, ↓hg0_4, ↓hg0_5, hw0_5, ↓hg0_6, ↓hg0_7, ↓hv0, ↓hx0, ha132, hu132, ↓hl132]
      rw [X6_cf1 hB hc hi]
      simp (disch := omega) only [↓mo_ns_r, ↓hn0, ↓mo_cs_s, ↓mo_xs_r, ↓mo_xs_l, ↓mo_nl_s, mo_z_0, mo_z_1, jI_lt]
      by_cases g : p < 0
      · rw [if_pos g]; rfl
      · rw [if_neg g, if_pos (by omega)]; rfl
  · rw [if_neg g1]
    refine ⟨M, ?_, h, KM.rfl'⟩
    unfold m_X6_fault
    simp (disch := omega) only [ji1, ji2, ji3, ji4, ji5, ji6, ji7, ji8, ji9, ji10, ji11, ji12, ji13, ji14, ji15, ji16, ji19, ji20, ji24, ji31, ji32, ji39, ji45, ji48, ji57, ji58, ji59, ji60, ji97, ji100, ji119, ji120, ji122, ji144, ji200, ji226, ji240, ji255, ji300, ji366, ji400, ji500, ji1000, jI_z, ↓jI_m1, jI_add, jI_sub, jI_mul, ↓hg0_0, ↓hg0_1, ↓hg0_2, ↓hg0_3, ↓hg0_4, ↓hg0_5, hw0_5, ↓hg0_6, ↓hg0_7, ↓hv0, ↓hx0, ha132, hu132, ↓hl132]
    rw [X6_cf0 hB hc hf g1]
    simp (disch := omega) only [↓mo_ns_r, ↓hn0, ↓mo_cs_s, ↓mo_xs_r, ↓mo_xs_l, ↓mo_nl_s, mo_z_0, mo_z_1]
    rfl

variable {S : hSh}
/-! SINGLE FAULTS: the attack, the weak points. -/
theorem prt_none : ∀ (l : List hF) (i : Nat), prt (fun i => Nat.testBit 0 i) l i = [] := by
  intro l
  induction l with
  | nil => intro i; rfl
  | cons x t ih => intro i; show (if Nat.testBit 0 i = true then _ else _) = _; rw [Nat.zero_testBit, if_neg (by decide)]; exact ih _
theorem zN_le {c : hCf} (hc : okC c) : (zR c).2.1.length ≤ 120 := by
  have h := (zJ_R hc).1.1
  generalize (zR c).2 = s at h ⊢
  obtain ⟨T, O, W, B, N, J, K, C⟩ := s
  exact h.1
theorem okC.nil {c : hCf} (h : okC c) : okC (c.1, []) := ⟨by simp, by simp, h.2.2⟩
theorem okC.one {c : hCf} (h : okC c) {x : hF} (hx : okF x) : okC (c.1, [x]) := ⟨by simp, fun y hy => by simp at hy; subst hy; exact hx, h.2.2⟩
theorem X6_bw {z p : Nat} {M : hM} {c : hCf} (hB : BR M 1 c) (hc : okC c) (hp' : p < 4) :
    ∃ M', m_X6_breaksWithoutFaults (hp S z M) z (jI p) = some (jI (b2i (brk (c.1, []) p)), hp S z M') ∧ BR M' 8 (c.1, []) ∧ LT M' (zR (c.1, [])).2.1 ∧ FD M M' := by
  obtain ⟨M1, r1, r2, r3, r4⟩ := X0_tp (S := S) (z := z) (a := 1) (b := 8) rfl rfl hB hc (bits_nat (m := 0) (by omega))
  rw [prt_none] at r2
  obtain ⟨M2, s1, s2, s3, s4⟩ := X6_brk (S := S) (z := z) (b := 8) (p := p) (Or.inr rfl) r2 hc.nil hp'
  refine ⟨M2, ?_, r2.keep s3 (by omega), s2.2.1, (FD.of r3 r4 (by omega) (by omega)).trans (FD.of15 s3 s4)⟩
  unfold m_X6_breaksWithoutFaults
  simp (disch := omega) only [ji1, ji2, ji3, ji4, ji5, ji6, ji7, ji8, ji9, ji10, ji11, ji12, ji13, ji14, ji15, ji16, ji19, ji20, ji24, ji31, ji32, ji39, ji45, ji48, ji57, ji58, ji59, ji60, ji97, ji100, ji119, ji120, ji122, ji144, ji200, ji226, ji240, ji255, ji300, ji366, ji400, ji500, ji1000, jI_z, ↓jI_m1, jI_add, jI_sub, jI_mul, ↓hg0_0, ↓hg0_1, ↓hg0_2, ↓hg0_3, ↓hg0_4, ↓hg0_5, hw0_5, ↓hg0_6, ↓hg0_7, ↓hv0, ↓hx0, ha132, hu132, ↓hl132, ↓Bv (b := 8) rfl]
  rw [show jI 0 = jI ((0 : Nat) : Int) from rfl, r1]
  simp (disch := omega) only [ji1, ji2, ji3, ji4, ji5, ji6, ji7, ji8, ji9, ji10, ji11, ji12, ji13, ji14, ji15, ji16, ji19, ji20, ji24, ji31, ji32, ji39, ji45, ji48, ji57, ji58, ji59, ji60, ji97, ji100, ji119, ji120, ji122, ji144, ji200, ji226, ji240, ji255, ji300, ji366, ji400, ji500, ji1000, jI_z, ↓jI_m1, jI_add, jI_sub, jI_mul, ↓mo_ns_r, ↓hn0, ↓mo_cs_s, ↓mo_xs_r, ↓mo_xs_l, ↓mo_nl_s, mo_z_0, mo_z_1, ↓hg0_0, ↓hg0_1, ↓hg0_2, ↓hg0_3, ↓hg0_4, ↓hg0_5, hw0_5, ↓hg0_6, ↓hg0_7, ↓hv0, ↓hx0, ha132, hu132, ↓hl132]
  rw [s1]
  simp (disch := omega) only [↓mo_ns_r, ↓hn0, ↓mo_cs_s, ↓mo_xs_r, ↓mo_xs_l, ↓mo_nl_s, mo_z_0, mo_z_1, mo_zb]
def at0 (P : hF → Bool) (kd k : Int) : Nat → Int → Option hF
  | 0, _ => none
  | n + 1, a => if P (kd, k, a) = true then some (kd, k, a) else at0 P kd k n (a + 1)
def at2 (P : hF → Bool) (k : Int) : Option hF := (at0 P 0 k 1 0).or ((at0 P 1 k 1 0).or (at0 P 2 k 20 1))
def at3 (P : hF → Bool) : Nat → Int → Option hF
  | 0, _ => none
  | n + 1, k => (at2 P k).or (at3 P n (k + 1))
def atP (c : hCf) (p : Nat) (x : hF) : Bool := brk (c.1, [x]) p
def atkV (c : hCf) (p : Nat) : Option hF := if brk (c.1, []) p = true then none else at3 (atP c p) (zR (c.1, [])).2.1.length 0
def HB (M : hM) (c : hCf) : Prop := ∃ l, BR M 8 (c.1, l) ∧ okC (c.1, l)
theorem X6_one {z p : Nat} {M : hM} {c : hCf} {x : hF} (hc : okC c) (hp' : p < 4) (hx : okF x) (hB : HB M c) :
    ∃ M1 M2, m_X0_takeOnlyFault (hp S z M) (z + 8) (jI x.1) (jI x.2.1) (jI x.2.2) = some ((), hp S z M1) ∧ m_X6_isBroken (hp S z M1) z (z + 8) (jI p) = some (jI (b2i (atP c p x)), hp S z M2) ∧ FD M M2 ∧ BR M2 8 (c.1, [x]) := by
  obtain ⟨l, h1, h2⟩ := hB
  obtain ⟨o1, o2, o3, o4, o5, o6⟩ := hx
  obtain ⟨M1, r1, r2, r3, r4⟩ := X0_only (S := S) (z := z) (b := 8) (kd := x.1) (nm := x.2.1) (am := x.2.2) rfl h1 h2 ⟨by omega, by omega⟩ ⟨by omega, by omega⟩
  obtain ⟨M2, s1, s2, s3, s4⟩ := X6_brk (S := S) (z := z) (b := 8) (p := p) (Or.inr rfl) r2 (hc.one ⟨o1, o2, o3, o4, o5, o6⟩) hp'
  exact ⟨M1, M2, r1, s1, (FD.of r3 r4 (by omega) (by omega)).trans (FD.of15 s3 s4), r2.keep s3 (by omega)⟩
theorem X6_l47 {z p : Nat} {c : hCf} {kd k N : Int} {K2 : ac_H → Int32 → Option (Int32 × ac_H)} {K10 : ac_H → Int32 → Int32 → Option (Int32 × ac_H)} (hc : okC c) (hp' : p < 4) (hkd : 0 ≤ kd ∧ kd ≤ 2) (hk : 0 ≤ k ∧ k < 120) : ∀ (n : Nat) (a most : Int) (fu : Nat) (M : hM), a + n = most + 1 → 0 ≤ a → most ≤ 20 → n < fu → HB M c →
    (∃ M', at0 (atP c p) kd k n a = none ∧ m_X6_findAttack_l47 K2 K10 z (jI p) (jI N) fu (hp S z M) (jI k) (jI kd) (jI most) (jI a) = K10 (hp S z M') (jI k) (jI (kd + 1)) ∧ FD M M' ∧ HB M' c) ∨
    (∃ M' x, at0 (atP c p) kd k n a = some x ∧ m_X6_findAttack_l47 K2 K10 z (jI p) (jI N) fu (hp S z M) (jI k) (jI kd) (jI most) (jI a) = some (jI 1, hp S z M') ∧ FD M M' ∧ BR M' 8 (c.1, [x]) ∧ okF x) := by
  intro n
  induction n with
  | zero =>
    intro a most fu M ha h0 hm hfu hB
    obtain ⟨fu, rfl⟩ : ∃ g, fu = g + 1 := ⟨fu - 1, by omega⟩
    refine Or.inl ⟨M, rfl, ?_, FD.rfl', hB⟩
    have g : most < a := by omega
    unfold m_X6_findAttack_l47
    simp (disch := omega) only [ji1, ji2, ji3, ji4, ji5, ji6, ji7, ji8, ji9, ji10, ji11, ji12, ji13, ji14, ji15, ji16, ji19, ji20, ji24, ji31, ji32, ji39, ji45, ji48, ji57, ji58, ji59, ji60, ji97, ji100, ji119, ji120, ji122, ji144, ji200, ji226, ji240, ji255, ji300, ji366, ji400, ji500, ji1000, jI_z, ↓jI_m1, jI_add, jI_sub, jI_mul, jI_lt, g, if_true]
  | succ n ih =>
    intro a most fu M ha h0 hm hfu hB
    obtain ⟨fu, rfl⟩ : ∃ g, fu = g + 1 := ⟨fu - 1, by omega⟩
    have ox : okF (kd, k, a) := ⟨hkd.1, hkd.2, hk.1, hk.2, h0, by show a ≤ 20; omega⟩
    obtain ⟨M1, M2, r1, r2, r3, r4⟩ := X6_one (S := S) (z := z) hc hp' ox hB
    have g : ¬ most < a := by omega
    have pre : ∀ r, (if jI (b2i (atP c p (kd, k, a))) = jI 0 then m_X6_findAttack_l47 K2 K10 z (jI p) (jI N) fu (hp S z M2) (jI k) (jI kd) (jI most) (jI (a + 1)) else some (jI 1, hp S z M2)) = r → m_X6_findAttack_l47 K2 K10 z (jI p) (jI N) (fu + 1) (hp S z M) (jI k) (jI kd) (jI most) (jI a) = r := by
      intro r hr
      rw [← hr]
      conv => lhs; unfold m_X6_findAttack_l47
      simp (disch := omega) only [ji1, ji2, ji3, ji4, ji5, ji6, ji7, ji8, ji9, ji10, ji11, ji12, ji13, ji14, ji15, ji16, ji19, ji20, ji24, ji31, ji32, ji39, ji45, ji48, ji57, ji58, ji59, ji60, ji97, ji100, ji119, ji120, ji122, ji144, ji200, ji226, ji240, ji255, ji300, ji366, ji400, ji500, ji1000, jI_z, ↓jI_m1, jI_add, jI_sub, jI_mul, jI_lt, g, if_false, ↓hg0_0, ↓hg0_1, ↓hg0_2, ↓hg0_3, ↓hg0_4, ↓hg0_5, hw0_5, ↓hg0_6, ↓hg0_7, ↓hv0, ↓hx0, ha132, hu132, ↓hl132, ↓Bv (b := 8) rfl]
      rw [r1]
      simp (disch := omega) only [ji1, ji2, ji3, ji4, ji5, ji6, ji7, ji8, ji9, ji10, ji11, ji12, ji13, ji14, ji15, ji16, ji19, ji20, ji24, ji31, ji32, ji39, ji45, ji48, ji57, ji58, ji59, ji60, ji97, ji100, ji119, ji120, ji122, ji144, ji200, ji226, ji240, ji255, ji300, ji366, ji400, ji500, ji1000, jI_z, ↓jI_m1, jI_add, jI_sub, jI_mul, ↓mo_ns_r, ↓hn0, ↓mo_cs_s, ↓mo_xs_r, ↓mo_xs_l, ↓mo_nl_s, mo_z_0, mo_z_1, ↓hg0_0, ↓hg0_1, ↓hg0_2, ↓hg0_3, ↓hg0_4, ↓hg0_5, hw0_5, ↓hg0_6, ↓hg0_7, ↓hv0, ↓hx0, ha132, hu132, ↓hl132]
      rw [r2]
      simp (disch := omega) only [ji1, ji2, ji3, ji4, ji5, ji6, ji7, ji8, ji9, ji10, ji11, ji12, ji13, ji14, ji15, ji16, ji19, ji20, ji24, ji31, ji32, ji39, ji45, ji48, ji57, ji58, ji59, ji60, ji97, ji100, ji119, ji120, ji122, ji144, ji200, ji226, ji240, ji255, ji300, ji366, ji400, ji500, ji1000, jI_z, ↓jI_m1, jI_add, jI_sub, jI_mul, ↓mo_ns_r, ↓hn0, ↓mo_cs_s, ↓mo_xs_r, ↓mo_xs_l, ↓mo_nl_s, mo_z_0, mo_z_1]
    cases hb : atP c p (kd, k, a) with
    | true =>
      refine Or.inr ⟨M2, (kd, k, a), by simp only [at0, hb, if_true], pre _ ?_, r3, r4, ox⟩
      rw [hb, if_neg (by decide)]
    | false =>
      rw [hb, if_pos (by decide)] at pre
      have e : at0 (atP c p) kd k (n + 1) a = at0 (atP c p) kd k n (a + 1) := by simp only [at0, hb, Bool.false_eq_true, if_false]
      rw [e]
      rcases ih (a + 1) most fu M2 (by omega) (by omega) hm (by omega) ⟨_, r4, hc.one ox⟩ with ⟨M', t1, t2, t3, t4⟩ | ⟨M', x, t1, t2, t3, t4, t5⟩
      · exact Or.inl ⟨M', t1, pre _ t2, r3.trans t3, t4⟩
      · exact Or.inr ⟨M', x, t1, pre _ t2, r3.trans t3, t4, t5⟩
def atk1 (P : hF → Bool) (kd k : Int) : Option hF := if kd = 2 then at0 P kd k 20 1 else at0 P kd k 1 0
theorem X6_l10s {z p fu : Nat} {M : hM} {c : hCf} {kd k N : Int} {K2 : ac_H → Int32 → Option (Int32 × ac_H)} (hc : okC c) (hp' : p < 4) (hkd : 0 ≤ kd ∧ kd ≤ 2) (hk : 0 ≤ k ∧ k < 120) (hB : HB M c) :
    (∃ M', atk1 (atP c p) kd k = none ∧ m_X6_findAttack_l10 K2 z (jI p) (jI N) (fu + 1) (hp S z M) (jI k) (jI kd) = m_X6_findAttack_l10 K2 z (jI p) (jI N) fu (hp S z M') (jI k) (jI (kd + 1)) ∧ FD M M' ∧ HB M' c) ∨
    (∃ M' x, atk1 (atP c p) kd k = some x ∧ m_X6_findAttack_l10 K2 z (jI p) (jI N) (fu + 1) (hp S z M) (jI k) (jI kd) = some (jI 1, hp S z M') ∧ FD M M' ∧ BR M' 8 (c.1, [x]) ∧ okF x) := by
  have g : ¬ 2 < kd := by omega
  by_cases h2 : kd = 2
  · have pre : m_X6_findAttack_l10 K2 z (jI p) (jI N) (fu + 1) (hp S z M) (jI k) (jI kd) = m_X6_findAttack_l47 K2 (fun ρ y0 y1 => m_X6_findAttack_l10 K2 z (jI p) (jI N) fu ρ y0 y1) z (jI p) (jI N) hN_f (hp S z M) (jI k) (jI kd) (jI 20) (jI 1) := by
      conv => lhs; unfold m_X6_findAttack_l10
      unfold m_X6_findAttack_j27
      subst h2
      simp (disch := omega) only [ji1, ji2, ji3, ji4, ji5, ji6, ji7, ji8, ji9, ji10, ji11, ji12, ji13, ji14, ji15, ji16, ji19, ji20, ji24, ji31, ji32, ji39, ji45, ji48, ji57, ji58, ji59, ji60, ji97, ji100, ji119, ji120, ji122, ji144, ji200, ji226, ji240, ji255, ji300, ji366, ji400, ji500, ji1000, jI_z, ↓jI_m1, jI_add, jI_sub, jI_mul, jI_lt, jI_eq, show ¬ (2 : Int) < 2 by omega, if_false, if_true]
    rw [pre]
    unfold atk1; rw [if_pos h2]
    exact X6_l47 hc hp' hkd hk 20 1 20 hN_f M (by omega) (by omega) (by omega) (by unfold hN_f; omega) hB
  · have pre : m_X6_findAttack_l10 K2 z (jI p) (jI N) (fu + 1) (hp S z M) (jI k) (jI kd) = m_X6_findAttack_l47 K2 (fun ρ y0 y1 => m_X6_findAttack_l10 K2 z (jI p) (jI N) fu ρ y0 y1) z (jI p) (jI N) hN_f (hp S z M) (jI k) (jI kd) (jI 0) (jI 0) := by
      conv => lhs; unfold m_X6_findAttack_l10
      unfold m_X6_findAttack_j27
      simp (disch := omega) only [ji1, ji2, ji3, ji4, ji5, ji6, ji7, ji8, ji9, ji10, ji11, ji12, ji13, ji14, ji15, ji16, ji19, ji20, ji24, ji31, ji32, ji39, ji45, ji48, ji57, ji58, ji59, ji60, ji97, ji100, ji119, ji120, ji122, ji144, ji200, ji226, ji240, ji255, ji300, ji366, ji400, ji500, ji1000, jI_z, ↓jI_m1, jI_add, jI_sub, jI_mul, jI_lt, jI_eq, g, if_false, h2]
    rw [pre]
    unfold atk1; rw [if_neg h2]
    exact X6_l47 hc hp' hkd hk 1 0 0 hN_f M (by omega) (by omega) (by omega) (by unfold hN_f; omega) hB
theorem at2_eq {P : hF → Bool} {k : Int} : at2 P k = (atk1 P 0 k).or ((atk1 P 1 k).or (atk1 P 2 k)) := rfl
theorem X6_l10 {z p fu : Nat} {M : hM} {c : hCf} {k N : Int} {K2 : ac_H → Int32 → Option (Int32 × ac_H)} (hc : okC c) (hp' : p < 4) (hk : 0 ≤ k ∧ k < 120) (hB : HB M c) (hfu : 4 ≤ fu) :
    (∃ M', at2 (atP c p) k = none ∧ m_X6_findAttack_l10 K2 z (jI p) (jI N) fu (hp S z M) (jI k) (jI 0) = K2 (hp S z M') (jI (k + 1)) ∧ FD M M' ∧ HB M' c) ∨
    (∃ M' x, at2 (atP c p) k = some x ∧ m_X6_findAttack_l10 K2 z (jI p) (jI N) fu (hp S z M) (jI k) (jI 0) = some (jI 1, hp S z M') ∧ FD M M' ∧ BR M' 8 (c.1, [x]) ∧ okF x) := by
  obtain ⟨fu, rfl⟩ : ∃ g, fu = g + 4 := ⟨fu - 4, by omega⟩
  rw [at2_eq]
  rcases X6_l10s (S := S) (z := z) (fu := fu + 3) (N := N) (K2 := K2) hc hp' (kd := 0) (by omega) hk hB with ⟨M1, a1, a2, a3, a4⟩ | ⟨M1, x, a1, a2, a3, a4, a5⟩
  · rw [a1, Option.none_or]
    rcases X6_l10s (S := S) (z := z) (fu := fu + 2) (N := N) (K2 := K2) hc hp' (kd := 0 + 1) (by omega) hk a4 with ⟨M2, b1, b2, b3, b4⟩ | ⟨M2, x, b1, b2, b3, b4, b5⟩
    · rw [show atk1 (atP c p) 1 k = none from b1, Option.none_or]
      rcases X6_l10s (S := S) (z := z) (fu := fu + 1) (N := N) (K2 := K2) hc hp' (kd := 0 + 1 + 1) (by omega) hk b4 with ⟨M3, d1, d2, d3, d4⟩ | ⟨M3, x, d1, d2, d3, d4, d5⟩
      · refine Or.inl ⟨M3, d1, ?_, (a3.trans b3).trans d3, d4⟩
        rw [a2, b2, d2]
        conv => lhs; unfold m_X6_findAttack_l10
        simp (disch := omega) only [ji1, ji2, ji3, ji4, ji5, ji6, ji7, ji8, ji9, ji10, ji11, ji12, ji13, ji14, ji15, ji16, ji19, ji20, ji24, ji31, ji32, ji39, ji45, ji48, ji57, ji58, ji59, ji60, ji97, ji100, ji119, ji120, ji122, ji144, ji200, ji226, ji240, ji255, ji300, ji366, ji400, ji500, ji1000, jI_z, ↓jI_m1, jI_add, jI_sub, jI_mul, jI_lt]
        rw [if_pos (by omega)]
      · exact Or.inr ⟨M3, x, d1, by rw [a2, b2, d2], (a3.trans b3).trans d3, d4, d5⟩
    · refine Or.inr ⟨M2, x, ?_, by rw [a2, b2], a3.trans b3, b4, b5⟩
      rw [show atk1 (atP c p) 1 k = some x from b1]; rfl
  · refine Or.inr ⟨M1, x, ?_, a2, a3, a4, a5⟩
    rw [a1]; rfl
theorem X6_l2 {z p : Nat} {c : hCf} {N : Nat} (hc : okC c) (hp' : p < 4) (hN : N ≤ 120) : ∀ (n : Nat) (k : Nat) (fu : Nat) (M : hM), k + n = N → n < fu → HB M c →
    ∃ M', m_X6_findAttack_l2 z (jI p) (jI N) fu (hp S z M) (jI k) = some (jI (b2i (at3 (atP c p) n k).isSome), hp S z M') ∧ FD M M' ∧ ∀ x, at3 (atP c p) n k = some x → BR M' 8 (c.1, [x]) ∧ okF x := by
  intro n
  induction n with
  | zero =>
    intro k fu M hk hfu hB
    obtain ⟨fu, rfl⟩ : ∃ g, fu = g + 1 := ⟨fu - 1, by omega⟩
    refine ⟨M, ?_, FD.rfl', fun x hx => by simp [at3] at hx⟩
    have g : ¬ (k : Int) < N := by omega
    unfold m_X6_findAttack_l2
    simp (disch := omega) only [ji1, ji2, ji3, ji4, ji5, ji6, ji7, ji8, ji9, ji10, ji11, ji12, ji13, ji14, ji15, ji16, ji19, ji20, ji24, ji31, ji32, ji39, ji45, ji48, ji57, ji58, ji59, ji60, ji97, ji100, ji119, ji120, ji122, ji144, ji200, ji226, ji240, ji255, ji300, ji366, ji400, ji500, ji1000, jI_z, ↓jI_m1, jI_add, jI_sub, jI_mul, ↓mo_ns_r, ↓hn0, ↓mo_cs_s, ↓mo_xs_r, ↓mo_xs_l, ↓mo_nl_s, mo_z_0, mo_z_1, jI_lt, g, if_false]
    rfl
  | succ n ih =>
    intro k fu M hk hfu hB
    obtain ⟨fu, rfl⟩ : ∃ g, fu = g + 1 := ⟨fu - 1, by omega⟩
    have g : (k : Int) < N := by omega
    have pre : ∀ r, m_X6_findAttack_l10 (fun ρ y0 => m_X6_findAttack_l2 z (jI p) (jI N) fu ρ y0) z (jI p) (jI N) hN_f (hp S z M) (jI k) (jI 0) = r → m_X6_findAttack_l2 z (jI p) (jI N) (fu + 1) (hp S z M) (jI k) = r := by
      intro r hr
      rw [← hr]
      conv => lhs; unfold m_X6_findAttack_l2
      simp (disch := omega) only [ji1, ji2, ji3, ji4, ji5, ji6, ji7, ji8, ji9, ji10, ji11, ji12, ji13, ji14, ji15, ji16, ji19, ji20, ji24, ji31, ji32, ji39, ji45, ji48, ji57, ji58, ji59, ji60, ji97, ji100, ji119, ji120, ji122, ji144, ji200, ji226, ji240, ji255, ji300, ji366, ji400, ji500, ji1000, jI_z, ↓jI_m1, jI_add, jI_sub, jI_mul, jI_lt, g, if_true]
    rcases X6_l10 (S := S) (z := z) (fu := hN_f) (N := N) (k := k) (K2 := fun ρ y0 => m_X6_findAttack_l2 z (jI p) (jI N) fu ρ y0) hc hp' (by omega) hB (by unfold hN_f; omega) with ⟨M1, a1, a2, a3, a4⟩ | ⟨M1, x, a1, a2, a3, a4, a5⟩
    · obtain ⟨M2, b1, b2, b3⟩ := ih (k + 1) fu M1 (by omega) (by omega) a4
      have e : at3 (atP c p) (n + 1) (k : Int) = at3 (atP c p) n ((k + 1 : Nat) : Int) := by
        simp only [at3, a1, Option.none_or]; congr 1
      refine ⟨M2, pre _ (a2.trans ?_), a3.trans b2, by rw [e]; exact b3⟩
      rw [e]; exact b1
    · have e : at3 (atP c p) (n + 1) (k : Int) = some x := by simp only [at3, a1, Option.some_or]
      refine ⟨M1, pre _ (a2.trans ?_), a3, fun y hy => ?_⟩
      · rw [e]; rfl
      · rw [e] at hy; cases hy; exact ⟨a4, a5⟩
theorem X6_fa {z p : Nat} {M : hM} {c : hCf} (hB : BR M 1 c) (hc : okC c) (hp' : p < 4) :
    ∃ M1, m_X6_breaksWithoutFaults (hp S z M) z (jI p) = some (jI (b2i (brk (c.1, []) p)), hp S z M1) ∧ FD M M1 ∧ (brk (c.1, []) p = true → atkV c p = none) ∧ (brk (c.1, []) p = false → gI M1 16 5 = (zR (c.1, [])).2.1.length ∧ ∃ M', m_X6_findAttack (hp S z M1) z (jI p) (jI (zR (c.1, [])).2.1.length) = some (jI (b2i (atkV c p).isSome), hp S z M') ∧ FD M M' ∧ ∀ x, atkV c p = some x → BR M' 8 (c.1, [x]) ∧ okF x) := by
  obtain ⟨M1, r1, r2, r3, r4⟩ := X6_bw (S := S) (z := z) hB hc hp'
  refine ⟨M1, r1, r4, fun hb => by unfold atkV; rw [hb, if_pos rfl], fun hb => ⟨r3.1, ?_⟩⟩
  have e : atkV c p = at3 (atP c p) (zR (c.1, [])).2.1.length 0 := by unfold atkV; rw [hb, if_neg (by decide)]
  obtain ⟨M2, s1, s2, s3⟩ := X6_l2 (S := S) (z := z) hc hp' (zN_le hc.nil) (zR (c.1, [])).2.1.length 0 hN_f M1 (by omega) (by have := zN_le hc.nil; unfold hN_f; omega) ⟨_, r2, hc.nil⟩
  refine ⟨M2, ?_, r4.trans s2, by rw [e]; exact s3⟩
  unfold m_X6_findAttack
  rw [e]; exact s1
theorem at01 {P : hF → Bool} {kd k : Int} : at0 P kd k 1 0 = if P (kd, k, 0) = true then some (kd, k, 0) else none := rfl

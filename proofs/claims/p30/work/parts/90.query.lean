variable {S : hSh}
/-! QUESTIONS: breaks, matters, smallest, core, leastAmount, attack, weakPoints, timerFor. -/
theorem FD.oc {z : Nat} {M M' : hM} {q : hQ} {o : Option ((String ⊕ Int32) × ac_H)} {e : Int → String} {v : Int} (f : FD M M') (h : CI M q) (ho : okQ q) (r : o = some (.inr (jI v), hp S z M')) : OC S z M o e (0, v, q) := ⟨M', by rw [r]; rfl, f.ci h ho, f.km⟩
theorem OC.no {z : Nat} {M : hM} {q : hQ} {o : Option ((String ⊕ Int32) × ac_H)} {e : Int → String} {c v : Int} (h : CI M q) (hn : ¬ c = 0) (r : o = some (.inl (e c), hp S z M)) : OC S z M o e (c, v, q) := ⟨M, by rw [r]; unfold xo; rw [if_neg hn], h, KM.rfl'⟩
theorem b2i_w {v : Bool} : b2i v = 0 ∨ b2i v = 1 := by cases v <;> simp [b2i]
/-- promise 10 -/
def rBreaks (q : hQ) (p : Int) : hR := if 0 ≤ p ∧ p < 4 then (0, b2i (brk q.1.1 p.toNat), q) else (1, 0, q)
theorem C_breaks {z : Nat} {M : hM} {q : hQ} {p : Int} (h : CI M q) (ho : okQ q) (hp' : okW p) : OC S z M (m_X6_breaks (hp S z M) z (jI p)) eA (rBreaks q p) := by
  unfold rBreaks
  by_cases g : 0 ≤ p ∧ p < 4
  · rw [if_pos g]
    obtain ⟨p, rfl⟩ : ∃ i : Nat, p = i := ⟨p.toNat, by omega⟩
    obtain ⟨M1, r1, _, r3, r4⟩ := X6_brk (S := S) (z := z) (b := 1) (p := p) (Or.inl rfl) h.1.1 ho.1.1 (by omega)
    refine FD.oc (FD.of15 r3 r4) h ho ?_
    unfold m_X6_breaks
    rw [X6_cp1 (by omega)]
    simp (disch := omega) only [↓mo_ns_r, ↓hn0, ↓mo_cs_s, ↓mo_xs_r, ↓mo_xs_l, ↓mo_nl_s, mo_z_0, mo_z_1, ↓hg0_0, ↓hg0_1, ↓hg0_2, ↓hg0_3, ↓hg0_4, ↓hg0_5, hw0_5, ↓hg0_6, ↓hg0_7, ↓hv0, ↓hx0, ha132, hu132, ↓hl132]
    rw [r1]
    simp only [↓mo_ns_r, ↓hn0, ↓mo_cs_s, ↓mo_xs_r, ↓mo_xs_l, ↓mo_nl_s, mo_z_0, mo_z_1, mo_zb, Int.toNat_natCast]
  · rw [if_neg g]
    refine OC.no h (by decide) ?_
    unfold m_X6_breaks
    rw [X6_cp0 hp' g]
    simp only [↓mo_ns_r, ↓hn0, ↓mo_cs_s, ↓mo_xs_r, ↓mo_xs_l, ↓mo_nl_s, mo_z_0, mo_z_1]
    rfl
/-- promise 12 -/
def rMatters (q : hQ) (f p : Int) : hR := if 0 ≤ f ∧ f < q.1.1.2.length then (if 0 ≤ p ∧ p < 4 then (0, b2i (brk q.1.1 p.toNat && !brk (q.1.1.1, q.1.1.2.eraseIdx f.toNat) p.toNat), q) else (2, 0, q)) else (1, 0, q)
theorem okC.era {c : hCf} (h : okC c) (f : Nat) : okC (c.1, c.2.eraseIdx f) := ⟨by have := h.1; simp only [List.length_eraseIdx]; split <;> omega, fun x hx => h.2.1 x (List.mem_of_mem_eraseIdx hx), h.2.2⟩
theorem C_matters {z : Nat} {M : hM} {q : hQ} {f p : Int} (h : CI M q) (ho : okQ q) (hf : okW f) (hp' : okW p) : OC S z M (m_X6_matters (hp S z M) z (jI f) (jI p)) eX (rMatters q f p) := by
  have hB := h.1.1
  have hc := ho.1.1
  unfold rMatters
  by_cases g1 : 0 ≤ f ∧ f < q.1.1.2.length
  · rw [if_pos g1]
    obtain ⟨f, rfl⟩ : ∃ i : Nat, f = i := ⟨f.toNat, by omega⟩
    have cf := X6_cf1 (S := S) (z := z) hB hc (f := f) (by omega)
    by_cases g2 : 0 ≤ p ∧ p < 4
    · rw [if_pos g2]
      obtain ⟨p, rfl⟩ : ∃ i : Nat, p = i := ⟨p.toNat, by omega⟩
      obtain ⟨M1, r1, _, r3, r4⟩ := X6_brk (S := S) (z := z) (b := 1) (p := p) (Or.inl rfl) hB hc (by omega)
      have F1 : FD M M1 := FD.of15 r3 r4
      simp only [Int.toNat_natCast]
      cases hb : brk q.1.1 p with
      | false =>
        refine FD.oc F1 h ho ?_
        unfold m_X6_matters
        simp (disch := omega) only [ji1, ji2, ji3, ji4, ji5, ji6, ji7, ji8, ji9, ji10, ji11, ji12, ji13, ji14, ji15, ji16, ji19, ji20, ji24, ji31, ji32, ji39, ji45, ji48, ji57, ji58, ji59, ji60, ji97, ji100, ji119, ji120, ji122, ji144, ji200, ji226, ji240, ji255, ji300, ji366, ji400, ji500, ji1000, jI_z, ↓jI_m1, jI_add, jI_sub, jI_mul, ↓hg0_0, ↓hg0_1, ↓hg0_2, ↓hg0_3, ↓hg0_4, ↓hg0_5, hw0_5, ↓hg0_6, ↓hg0_7, ↓hv0, ↓hx0, ha132, hu132, ↓hl132]
        rw [cf]
        simp (disch := omega) only [↓mo_ns_r, ↓hn0, ↓mo_cs_s, ↓mo_xs_r, ↓mo_xs_l, ↓mo_nl_s, mo_z_0, mo_z_1]
        rw [X6_cp1 (by omega)]
        simp (disch := omega) only [↓mo_ns_r, ↓hn0, ↓mo_cs_s, ↓mo_xs_r, ↓mo_xs_l, ↓mo_nl_s, mo_z_0, mo_z_1, ↓hg0_0, ↓hg0_1, ↓hg0_2, ↓hg0_3, ↓hg0_4, ↓hg0_5, hw0_5, ↓hg0_6, ↓hg0_7, ↓hv0, ↓hx0, ha132, hu132, ↓hl132]
        rw [r1, hb]
        simp only [↓mo_ns_r, ↓hn0, ↓mo_cs_s, ↓mo_xs_r, ↓mo_xs_l, ↓mo_nl_s, mo_z_0, mo_z_1, b2i_0, if_true]
        rfl
      | true =>
        obtain ⟨M2, s1, s2, s3, s4, s5⟩ := X0_ta (S := S) (z := z) (a := 1) (b := 8) rfl rfl (by omega) (F1.br hB) (F1.rs h.1.2) hc
        obtain ⟨M3, t1, t2, t3, t4⟩ := X0_del (S := S) (z := z) (b := 8) rfl s2 hc (f := f) (by omega)
        obtain ⟨M4, u1, u2, u3, u4⟩ := X6_brk (S := S) (z := z) (b := 8) (p := p) (Or.inr rfl) t2 (hc.era f) (by omega)
        refine FD.oc (((F1.trans (FD.of s4 s5 (by omega) (by omega))).trans (FD.of t3 t4 (by omega) (by omega))).trans (FD.of15 u3 u4)) h ho ?_
        unfold m_X6_matters
        simp (disch := omega) only [ji1, ji2, ji3, ji4, ji5, ji6, ji7, ji8, ji9, ji10, ji11, ji12, ji13, ji14, ji15, ji16, ji19, ji20, ji24, ji31, ji32, ji39, ji45, ji48, ji57, ji58, ji59, ji60, ji97, ji100, ji119, ji120, ji122, ji144, ji200, ji226, ji240, ji255, ji300, ji366, ji400, ji500, ji1000, jI_z, ↓jI_m1, jI_add, jI_sub, jI_mul, ↓hg0_0, ↓hg0_1, ↓hg0_2, ↓hg0_3, ↓hg0_4, ↓hg0_5, hw0_5, ↓hg0_6, ↓hg0_7, ↓hv0, ↓hx0, ha132, hu132, ↓hl132]
        rw [cf]
        simp (disch := omega) only [↓mo_ns_r, ↓hn0, ↓mo_cs_s, ↓mo_xs_r, ↓mo_xs_l, ↓mo_nl_s, mo_z_0, mo_z_1]
        rw [X6_cp1 (by omega)]
        simp (disch := omega) only [↓mo_ns_r, ↓hn0, ↓mo_cs_s, ↓mo_xs_r, ↓mo_xs_l, ↓mo_nl_s, mo_z_0, mo_z_1, ↓hg0_0, ↓hg0_1, ↓hg0_2, ↓hg0_3, ↓hg0_4, ↓hg0_5, hw0_5, ↓hg0_6, ↓hg0_7, ↓hv0, ↓hx0, ha132, hu132, ↓hl132]
        rw [r1, hb]
        simp (disch := omega) only [↓mo_ns_r, ↓hn0, ↓mo_cs_s, ↓mo_xs_r, ↓mo_xs_l, ↓mo_nl_s, mo_z_0, mo_z_1, b2i_0, Bool.true_eq_false, if_false, ↓hg0_0, ↓hg0_1, ↓hg0_2, ↓hg0_3, ↓hg0_4, ↓hg0_5, hw0_5, ↓hg0_6, ↓hg0_7, ↓hv0, ↓hx0, ha132, hu132, ↓hl132, ↓Bv (b := 8) rfl]
        rw [s1]
        simp (disch := omega) only [↓mo_ns_r, ↓hn0, ↓mo_cs_s, ↓mo_xs_r, ↓mo_xs_l, ↓mo_nl_s, mo_z_0, mo_z_1, ↓hg0_0, ↓hg0_1, ↓hg0_2, ↓hg0_3, ↓hg0_4, ↓hg0_5, hw0_5, ↓hg0_6, ↓hg0_7, ↓hv0, ↓hx0, ha132, hu132, ↓hl132, ↓Bv (b := 8) rfl]
        rw [t1]
        simp (disch := omega) only [↓mo_ns_r, ↓hn0, ↓mo_cs_s, ↓mo_xs_r, ↓mo_xs_l, ↓mo_nl_s, mo_z_0, mo_z_1, ↓hg0_0, ↓hg0_1, ↓hg0_2, ↓hg0_3, ↓hg0_4, ↓hg0_5, hw0_5, ↓hg0_6, ↓hg0_7, ↓hv0, ↓hx0, ha132, hu132, ↓hl132]
        rw [u1]
        simp only [↓mo_ns_r, ↓hn0, ↓mo_cs_s, ↓mo_xs_r, ↓mo_xs_l, ↓mo_nl_s, mo_z_0, mo_z_1, b2i_0]
        cases brk (q.1.1.1, q.1.1.2.eraseIdx f) p <;> rfl
    · rw [if_neg g2]
      refine OC.no h (by decide) ?_
      unfold m_X6_matters
      simp (disch := omega) only [ji1, ji2, ji3, ji4, ji5, ji6, ji7, ji8, ji9, ji10, ji11, ji12, ji13, ji14, ji15, ji16, ji19, ji20, ji24, ji31, ji32, ji39, ji45, ji48, ji57, ji58, ji59, ji60, ji97, ji100, ji119, ji120, ji122, ji144, ji200, ji226, ji240, ji255, ji300, ji366, ji400, ji500, ji1000, jI_z, ↓jI_m1, jI_add, jI_sub, jI_mul, ↓hg0_0, ↓hg0_1, ↓hg0_2, ↓hg0_3, ↓hg0_4, ↓hg0_5, hw0_5, ↓hg0_6, ↓hg0_7, ↓hv0, ↓hx0, ha132, hu132, ↓hl132]
      rw [cf]
      simp (disch := omega) only [↓mo_ns_r, ↓hn0, ↓mo_cs_s, ↓mo_xs_r, ↓mo_xs_l, ↓mo_nl_s, mo_z_0, mo_z_1]
      rw [X6_cp0 hp' g2]
      simp (disch := omega) only [↓mo_ns_r, ↓hn0, ↓mo_cs_s, ↓mo_xs_r, ↓mo_xs_l, ↓mo_nl_s, mo_z_0, mo_z_1]
      rfl
  · rw [if_neg g1]
    refine OC.no h (by decide) ?_
    unfold m_X6_matters
    simp (disch := omega) only [ji1, ji2, ji3, ji4, ji5, ji6, ji7, ji8, ji9, ji10, ji11, ji12, ji13, ji14, ji15, ji16, ji19, ji20, ji24, ji31, ji32, ji39, ji45, ji48, ji57, ji58, ji59, ji60, ji97, ji100, ji119, ji120, ji122, ji144, ji200, ji226, ji240, ji255, ji300, ji366, ji400, ji500, ji1000, jI_z, ↓jI_m1, jI_add, jI_sub, jI_mul, ↓hg0_0, ↓hg0_1, ↓hg0_2, ↓hg0_3, ↓hg0_4, ↓hg0_5, hw0_5, ↓hg0_6, ↓hg0_7, ↓hv0, ↓hx0, ha132, hu132, ↓hl132]
    rw [X6_cf0 hB hc hf g1]
    simp (disch := omega) only [↓mo_ns_r, ↓hn0, ↓mo_cs_s, ↓mo_xs_r, ↓mo_xs_l, ↓mo_nl_s, mo_z_0, mo_z_1]
    rfl
/-- the core, by its own words -/
noncomputable def coreV (c : hCf) (p : Nat) : Option Nat := Classical.epsilon (fun o => isCo c p o)
theorem coreV_eq {c : hCf} {p : Nat} {o : Option Nat} (h : isCo c p o) : o = coreV c p := isCo_u h (Classical.epsilon_spec (p := fun o => isCo c p o) ⟨o, h⟩)
theorem coreV_lt {c : hCf} {p m : Nat} (hc : okC c) (h : isCo c p (some m)) : m < 1024 := Nat.lt_of_lt_of_le h.1 (Nat.pow_le_pow_right (n := 2) (by omega) hc.1)
theorem X6_cv {z p : Nat} {M : hM} {c : hCf} (hB : BR M 1 c) (hc : okC c) (hp' : p < 4) :
    ∃ M', m_X6_findCore (hp S z M) z (jI p) = some (jI (oI (coreV c p)), hp S z M') ∧ FD M M' ∧ isCo c p (coreV c p) := by
  obtain ⟨M', o, r1, r2, r3⟩ := X6_co (S := S) (z := z) hB hc hp'
  have e := coreV_eq r3
  subst e
  exact ⟨M', r1, r2.d, r3⟩
def smI : Option Nat → Int
  | none => -1
  | some m => (pop m : Nat)
/-- promises 13, 14 -/
noncomputable def rSmallest (q : hQ) (p : Int) : hR := if 0 ≤ p ∧ p < 4 then (0, smI (coreV q.1.1 p.toNat), q) else (1, 0, q)
noncomputable def rCore (q : hQ) (p : Int) : hR := if 0 ≤ p ∧ p < 4 then (0, oI (coreV q.1.1 p.toNat), q) else (1, 0, q)
theorem oI_ne {m : Nat} (hm : m < 1024) : (jI (oI (some m)) = jI (-1)) = False := eq_false (by show ¬ jI (m : Int) = jI (-1); rw [jI_eq (by omega) (by omega) (by omega) (by omega)]; omega)
theorem C_smallest {z : Nat} {M : hM} {q : hQ} {p : Int} (h : CI M q) (ho : okQ q) (hp' : okW p) : OC S z M (m_X6_smallest (hp S z M) z (jI p)) eA (rSmallest q p) := by
  unfold rSmallest
  by_cases g : 0 ≤ p ∧ p < 4
  · rw [if_pos g]
    obtain ⟨p, rfl⟩ : ∃ i : Nat, p = i := ⟨p.toNat, by omega⟩
    obtain ⟨M1, r1, r2, r3⟩ := X6_cv (S := S) (z := z) (p := p) h.1.1 ho.1.1 (by omega)
    simp only [Int.toNat_natCast]
    refine FD.oc r2 h ho ?_
    unfold m_X6_smallest
    rw [X6_cp1 (by omega)]
    simp (disch := omega) only [↓mo_ns_r, ↓hn0, ↓mo_cs_s, ↓mo_xs_r, ↓mo_xs_l, ↓mo_nl_s, mo_z_0, mo_z_1, ↓hg0_0, ↓hg0_1, ↓hg0_2, ↓hg0_3, ↓hg0_4, ↓hg0_5, hw0_5, ↓hg0_6, ↓hg0_7, ↓hv0, ↓hx0, ha132, hu132, ↓hl132]
    rw [r1]
    revert r3
    cases coreV q.1.1 p with
    | none => intro _; simp (disch := omega) only [ji1, ji2, ji3, ji4, ji5, ji6, ji7, ji8, ji9, ji10, ji11, ji12, ji13, ji14, ji15, ji16, ji19, ji20, ji24, ji31, ji32, ji39, ji45, ji48, ji57, ji58, ji59, ji60, ji97, ji100, ji119, ji120, ji122, ji144, ji200, ji226, ji240, ji255, ji300, ji366, ji400, ji500, ji1000, jI_z, ↓jI_m1, jI_add, jI_sub, jI_mul, ↓mo_ns_r, ↓hn0, ↓mo_cs_s, ↓mo_xs_r, ↓mo_xs_l, ↓mo_nl_s, mo_z_0, mo_z_1]; rfl
    | some m =>
      intro r3
      have hm := coreV_lt ho.1.1 r3
      simp (disch := omega) only [ji1, ji2, ji3, ji4, ji5, ji6, ji7, ji8, ji9, ji10, ji11, ji12, ji13, ji14, ji15, ji16, ji19, ji20, ji24, ji31, ji32, ji39, ji45, ji48, ji57, ji58, ji59, ji60, ji97, ji100, ji119, ji120, ji122, ji144, ji200, ji226, ji240, ji255, ji300, ji366, ji400, ji500, ji1000, jI_z, ↓jI_m1, jI_add, jI_sub, jI_mul, ↓mo_ns_r, ↓hn0, ↓mo_cs_s, ↓mo_xs_r, ↓mo_xs_l, ↓mo_nl_s, mo_z_0, mo_z_1, oI_ne hm, if_false]
      show mo_cs (m_J6_bitCount_0f7a4 (hp S z M1) (jI (m : Int))) _ = _
      rw [J6_bc (by omega)]
      rfl
  · rw [if_neg g]
    refine OC.no h (by decide) ?_
    unfold m_X6_smallest
    rw [X6_cp0 hp' g]
    simp only [↓mo_ns_r, ↓hn0, ↓mo_cs_s, ↓mo_xs_r, ↓mo_xs_l, ↓mo_nl_s, mo_z_0, mo_z_1]
    rfl
theorem C_core {z : Nat} {M : hM} {q : hQ} {p : Int} (h : CI M q) (ho : okQ q) (hp' : okW p) : OC S z M (m_X6_core (hp S z M) z (jI p)) eA (rCore q p) := by
  unfold rCore
  by_cases g : 0 ≤ p ∧ p < 4
  · rw [if_pos g]
    obtain ⟨p, rfl⟩ : ∃ i : Nat, p = i := ⟨p.toNat, by omega⟩
    obtain ⟨M1, r1, r2, r3⟩ := X6_cv (S := S) (z := z) (p := p) h.1.1 ho.1.1 (by omega)
    simp only [Int.toNat_natCast]
    refine FD.oc r2 h ho ?_
    unfold m_X6_core
    rw [X6_cp1 (by omega)]
    simp (disch := omega) only [↓mo_ns_r, ↓hn0, ↓mo_cs_s, ↓mo_xs_r, ↓mo_xs_l, ↓mo_nl_s, mo_z_0, mo_z_1, ↓hg0_0, ↓hg0_1, ↓hg0_2, ↓hg0_3, ↓hg0_4, ↓hg0_5, hw0_5, ↓hg0_6, ↓hg0_7, ↓hv0, ↓hx0, ha132, hu132, ↓hl132]
    rw [r1]
    simp only [↓mo_ns_r, ↓hn0, ↓mo_cs_s, ↓mo_xs_r, ↓mo_xs_l, ↓mo_nl_s, mo_z_0, mo_z_1]
  · rw [if_neg g]
    refine OC.no h (by decide) ?_
    unfold m_X6_core
    rw [X6_cp0 hp' g]
    simp only [↓mo_ns_r, ↓hn0, ↓mo_cs_s, ↓mo_xs_r, ↓mo_xs_l, ↓mo_nl_s, mo_z_0, mo_z_1]
    rfl
/-- promise 15 -/
def rLeast (q : hQ) (f p : Int) : hR := if 0 ≤ f ∧ f < q.1.1.2.length then (if 0 ≤ p ∧ p < 4 then (0, leastV q.1.1 p.toNat f.toNat, q) else (2, 0, q)) else (1, 0, q)
theorem C_least {z : Nat} {M : hM} {q : hQ} {f p : Int} (h : CI M q) (ho : okQ q) (hf : okW f) (hp' : okW p) : OC S z M (m_X6_leastAmount (hp S z M) z (jI f) (jI p)) eX (rLeast q f p) := by
  have hB := h.1.1
  have hc := ho.1.1
  unfold rLeast
  by_cases g1 : 0 ≤ f ∧ f < q.1.1.2.length
  · rw [if_pos g1]
    obtain ⟨f, rfl⟩ : ∃ i : Nat, f = i := ⟨f.toNat, by omega⟩
    have cf := X6_cf1 (S := S) (z := z) hB hc (f := f) (by omega)
    by_cases g2 : 0 ≤ p ∧ p < 4
    · rw [if_pos g2]
      obtain ⟨p, rfl⟩ : ∃ i : Nat, p = i := ⟨p.toNat, by omega⟩
      obtain ⟨M1, r1, r2⟩ := X6_la (S := S) (z := z) (f := f) (p := p) hB h.1.2 hc (by omega) (by omega)
      simp only [Int.toNat_natCast]
      refine FD.oc r2 h ho ?_
      unfold m_X6_leastAmount
      simp (disch := omega) only [ji1, ji2, ji3, ji4, ji5, ji6, ji7, ji8, ji9, ji10, ji11, ji12, ji13, ji14, ji15, ji16, ji19, ji20, ji24, ji31, ji32, ji39, ji45, ji48, ji57, ji58, ji59, ji60, ji97, ji100, ji119, ji120, ji122, ji144, ji200, ji226, ji240, ji255, ji300, ji366, ji400, ji500, ji1000, jI_z, ↓jI_m1, jI_add, jI_sub, jI_mul, ↓hg0_0, ↓hg0_1, ↓hg0_2, ↓hg0_3, ↓hg0_4, ↓hg0_5, hw0_5, ↓hg0_6, ↓hg0_7, ↓hv0, ↓hx0, ha132, hu132, ↓hl132]
      rw [cf]
      simp (disch := omega) only [↓mo_ns_r, ↓hn0, ↓mo_cs_s, ↓mo_xs_r, ↓mo_xs_l, ↓mo_nl_s, mo_z_0, mo_z_1]
      rw [X6_cp1 (by omega)]
      simp (disch := omega) only [↓mo_ns_r, ↓hn0, ↓mo_cs_s, ↓mo_xs_r, ↓mo_xs_l, ↓mo_nl_s, mo_z_0, mo_z_1, ↓hg0_0, ↓hg0_1, ↓hg0_2, ↓hg0_3, ↓hg0_4, ↓hg0_5, hw0_5, ↓hg0_6, ↓hg0_7, ↓hv0, ↓hx0, ha132, hu132, ↓hl132]
      rw [r1]
      simp only [↓mo_ns_r, ↓hn0, ↓mo_cs_s, ↓mo_xs_r, ↓mo_xs_l, ↓mo_nl_s, mo_z_0, mo_z_1]
    · rw [if_neg g2]
      refine OC.no h (by decide) ?_
      unfold m_X6_leastAmount
      simp (disch := omega) only [ji1, ji2, ji3, ji4, ji5, ji6, ji7, ji8, ji9, ji10, ji11, ji12, ji13, ji14, ji15, ji16, ji19, ji20, ji24, ji31, ji32, ji39, ji45, ji48, ji57, ji58, ji59, ji60, ji97, ji100, ji119, ji120, ji122, ji144, ji200, ji226, ji240, ji255, ji300, ji366, ji400, ji500, ji1000, jI_z, ↓jI_m1, jI_add, jI_sub, jI_mul, ↓hg0_0, ↓hg0_1, ↓hg0_2, ↓hg0_3, ↓hg0_4, ↓hg0_5, hw0_5, ↓hg0_6, ↓hg0_7, ↓hv0, ↓hx0, ha132, hu132, ↓hl132]
      rw [cf]
      simp (disch := omega) only [↓mo_ns_r, ↓hn0, ↓mo_cs_s, ↓mo_xs_r, ↓mo_xs_l, ↓mo_nl_s, mo_z_0, mo_z_1]
      rw [X6_cp0 hp' g2]
      simp (disch := omega) only [↓mo_ns_r, ↓hn0, ↓mo_cs_s, ↓mo_xs_r, ↓mo_xs_l, ↓mo_nl_s, mo_z_0, mo_z_1]
      rfl
  · rw [if_neg g1]
    refine OC.no h (by decide) ?_
    unfold m_X6_leastAmount
    simp (disch := omega) only [ji1, ji2, ji3, ji4, ji5, ji6, ji7, ji8, ji9, ji10, ji11, ji12, ji13, ji14, ji15, ji16, ji19, ji20, ji24, ji31, ji32, ji39, ji45, ji48, ji57, ji58, ji59, ji60, ji97, ji100, ji119, ji120, ji122, ji144, ji200, ji226, ji240, ji255, ji300, ji366, ji400, ji500, ji1000, jI_z, ↓jI_m1, jI_add, jI_sub, jI_mul, ↓hg0_0, ↓hg0_1, ↓hg0_2, ↓hg0_3, ↓hg0_4, ↓hg0_5, hw0_5, ↓hg0_6, ↓hg0_7, ↓hv0, ↓hx0, ha132, hu132, ↓hl132]
    rw [X6_cf0 hB hc hf g1]
    simp (disch := omega) only [↓mo_ns_r, ↓hn0, ↓mo_cs_s, ↓mo_xs_r, ↓mo_xs_l, ↓mo_nl_s, mo_z_0, mo_z_1]
    rfl

variable {S : hSh}
/-! THE CLASS'S SEARCH for a core. -/
def mirT : Nat → Nat → Bool
  | _, 0 => true
  | n, k + 1 => decide (pop (mir n k) = pop k ∧ mir n (mir n k) = k) && mirT n k
def mirU : Nat → Bool
  | 0 => true
  | n + 1 => mirT n (2 ^ n) && mirU n
theorem mirU_ok : mirU 11 = true := by decide +kernel
theorem mirT_at {n : Nat} : ∀ (k : Nat), mirT n k = true → ∀ m, m < k → pop (mir n m) = pop m ∧ mir n (mir n m) = m := by
  intro k
  induction k with
  | zero => intro _ m hm; omega
  | succ k ih =>
    intro h m hm
    simp only [mirT, Bool.and_eq_true, decide_eq_true_eq] at h
    by_cases g : m = k
    · subst g; exact h.1
    · exact ih h.2 m (by omega)
theorem mirU_at : ∀ (N : Nat), mirU N = true → ∀ n, n < N → mirT n (2 ^ n) = true := by
  intro N
  induction N with
  | zero => intro _ n hn; omega
  | succ N ih =>
    intro h n hn
    simp only [mirU, Bool.and_eq_true] at h
    by_cases g : n = N
    · subst g; exact h.1
    · exact ih h.2 n (by omega)
theorem mir_pop {n m : Nat} (hn : n ≤ 10) (hm : m < 2 ^ n) : pop (mir n m) = pop m ∧ mir n (mir n m) = m := mirT_at _ (mirU_at 11 mirU_ok n (by omega)) m hm
def cP (c : hCf) (p m : Nat) : Bool := brk (c.1, prt (fun i => m.testBit i) c.2 0) p
/-- what the class's trials leave as it was -/
def FC (M M' : hM) : Prop := (∀ a, a < 8 ∨ 30 ≤ a ∨ (13 ≤ a ∧ a < 15) → (∀ k, gI M' a k = gI M a k) ∧ ∀ k, gA M' a k = gA M a k) ∧ Vx 0 M M'
theorem FC.rfl' {M : hM} : FC M M := ⟨fun _ _ => ⟨fun _ => rfl, fun _ => rfl⟩, fun _ _ => rfl⟩
theorem FC.trans {M M' M'' : hM} (h : FC M M') (h' : FC M' M'') : FC M M'' := ⟨fun a ha => ⟨fun k => ((h'.1 a ha).1 k).trans ((h.1 a ha).1 k), fun k => ((h'.1 a ha).2 k).trans ((h.1 a ha).2 k)⟩, fun k hk => (h'.2 k hk).trans (h.2 k hk)⟩
theorem FC.of8 {M M' : hM} (h : Fr 8 13 M M') (hv : Vr M M') : FC M M' := ⟨fun a ha => h a (by omega), fun k _ => hv k⟩
theorem FC.of15 {M M' : hM} (h : Fr 15 30 M M') (hv : Vx 0 M M') : FC M M' := ⟨fun a ha => h a (by omega), hv⟩
theorem FC.br {M M' : hM} {c : hCf} (h : FC M M') (hB : BR M 1 c) : BR M' 1 c := by
  refine ⟨fun k hk => ?_, ?_, fun i x hx => ?_⟩
  · rw [(h.1 2 (by omega)).2]; exact hB.1 k hk
  · rw [(h.1 1 (by omega)).1]; exact hB.2.1
  · rw [(h.1 3 (by omega)).2, (h.1 4 (by omega)).2, (h.1 5 (by omega)).2]; exact hB.2.2 i x hx
/-- one part is tried -/
theorem X6_try {z m p : Nat} {M : hM} {c : hCf} (hB : BR M 1 c) (hc : okC c) (hm : m < 2147483648) (hp' : p < 4) :
    ∃ M1 M2, m_X0_takePart (hp S z M) (z + 8) (z + 1) (jI m) = some ((), hp S z M1) ∧ m_X6_isBroken (hp S z M1) z (z + 8) (jI p) = some (jI (b2i (cP c p m)), hp S z M2) ∧ FC M M2 := by
  obtain ⟨M1, r1, r2, r3, r4⟩ := X0_tp (S := S) (z := z) (a := 1) (b := 8) rfl rfl hB hc (bits_nat hm)
  obtain ⟨M2, s1, s2, s3, s4⟩ := X6_brk (S := S) (z := z) (b := 8) (Or.inr rfl) r2 (hc.prt _ 0) hp'
  exact ⟨M1, M2, r1, s1, (FC.of8 r3 r4).trans (FC.of15 s3 s4)⟩
theorem X6_c26 {z n p v : Nat} {c : hCf} {K : ac_H → Int32 → Int32 → Int32 → Option (Int32 × ac_H)} (hc : okC c) (hn : c.2.length = n) (hp' : p < 4) (hv : v ≤ 10) : ∀ (q f : Nat) (M : hM), q ≤ 2 ^ n → q < f → BR M 1 c →
    (∃ M', m_X6_findCore_l26 K z (jI p) f (hp S z M) (jI n) (jI (2 ^ n : Nat)) (jI v) (jI ((q : Int) - 1)) = K (hp S z M') (jI n) (jI (2 ^ n : Nat)) (jI (v : Int) + 1) ∧ FC M M' ∧ ∀ m, m < q → pop m = v → cP c p (mir n m) = false) ∨
    (∃ M' m, m < q ∧ pop m = v ∧ cP c p (mir n m) = true ∧ (∀ m', m' < q → m < m' → pop m' = v → cP c p (mir n m') = false) ∧ m_X6_findCore_l26 K z (jI p) f (hp S z M) (jI n) (jI (2 ^ n : Nat)) (jI v) (jI ((q : Int) - 1)) = some (jI (mir n m : Nat), hp S z M') ∧ FC M M') := by
  have hn10 : n ≤ 10 := by have := hc.1; omega
  have hp2 : (2 : Nat) ^ n ≤ 2 ^ 10 := Nat.pow_le_pow_right (by omega) hn10
  intro q
  induction q with
  | zero =>
    intro f M hq hf hB
    obtain ⟨f, rfl⟩ : ∃ g, f = g + 1 := ⟨f - 1, by omega⟩
    refine Or.inl ⟨M, ?_, FC.rfl', fun m hm => by omega⟩
    unfold m_X6_findCore_l26
    rw [if_pos (by rw [jI_z, jI_lt (by omega) (by omega) (by omega) (by omega)]; omega)]
  | succ q ih =>
    intro f M hq hf hB
    obtain ⟨f, rfl⟩ : ∃ g, f = g + 1 := ⟨f - 1, by omega⟩
    have eq1 : ((q + 1 : Nat) : Int) - 1 = (q : Int) := by omega
    have eq2 : (q : Int) + -1 = (q : Int) - 1 := by omega
    have hml := mir_lt n q
    have hpl := pop_le q
    have q0 : ¬ (q : Int) < 0 := by omega
    have bc := J6_bc (σ := hp S z M) (m := q) (by omega)
    have mr := X6_mir (σ := hp S z M) (m := q) hn10 (by omega)
    rw [eq1]
    by_cases g : pop q = v
    · obtain ⟨M1, M2, r1, r2, r3⟩ := X6_try (S := S) (z := z) (m := mir n q) (p := p) hB hc (by omega) hp'
      have pre : ∀ r, (if b2i (cP c p (mir n q)) = 0 then m_X6_findCore_l26 K z (jI p) f (hp S z M2) (jI n) (jI (2 ^ n : Nat)) (jI v) (jI ((q : Int) - 1)) else some (jI (mir n q : Nat), hp S z M2)) = r → m_X6_findCore_l26 K z (jI p) (f + 1) (hp S z M) (jI n) (jI (2 ^ n : Nat)) (jI v) (jI q) = r := by
        intro r hr
        rw [← hr]
        have hb2 : -2147483648 ≤ b2i (cP c p (mir n q)) ∧ b2i (cP c p (mir n q)) < 2147483648 := by unfold b2i; split <;> omega
        obtain ⟨hb3, hb4⟩ := hb2
        conv => lhs; unfold m_X6_findCore_l26
        simp (disch := omega) only [ji1, ji2, ji3, ji4, ji5, ji6, ji7, ji8, ji9, ji10, ji11, ji12, ji13, ji14, ji15, ji16, ji19, ji20, ji24, ji31, ji32, ji39, ji45, ji48, ji57, ji58, ji59, ji60, ji97, ji100, ji119, ji120, ji122, ji144, ji200, ji226, ji240, ji255, ji300, ji366, ji400, ji500, ji1000, jI_z, ↓jI_m1, jI_add, jI_sub, jI_mul, jI_lt, q0, if_false, bc, ↓mo_ns_r, ↓hn0, ↓mo_cs_s, ↓mo_xs_r, ↓mo_xs_l, ↓mo_nl_s, mo_z_0, mo_z_1, jI_eq]
        rw [if_pos (by omega), mr]
        simp (disch := omega) only [↓mo_ns_r, ↓hn0, ↓mo_cs_s, ↓mo_xs_r, ↓mo_xs_l, ↓mo_nl_s, mo_z_0, mo_z_1, ↓hg0_0, ↓hg0_1, ↓hg0_2, ↓hg0_3, ↓hg0_4, ↓hg0_5, hw0_5, ↓hg0_6, ↓hg0_7, ↓hv0, ↓hx0, ha132, hu132, ↓hl132, ↓Bv (b := 8) rfl]
        rw [r1]
        simp (disch := omega) only [↓mo_ns_r, ↓hn0, ↓mo_cs_s, ↓mo_xs_r, ↓mo_xs_l, ↓mo_nl_s, mo_z_0, mo_z_1, ↓hg0_0, ↓hg0_1, ↓hg0_2, ↓hg0_3, ↓hg0_4, ↓hg0_5, hw0_5, ↓hg0_6, ↓hg0_7, ↓hv0, ↓hx0, ha132, hu132, ↓hl132]
        rw [r2]
        simp (disch := omega) only [ji1, ji2, ji3, ji4, ji5, ji6, ji7, ji8, ji9, ji10, ji11, ji12, ji13, ji14, ji15, ji16, ji19, ji20, ji24, ji31, ji32, ji39, ji45, ji48, ji57, ji58, ji59, ji60, ji97, ji100, ji119, ji120, ji122, ji144, ji200, ji226, ji240, ji255, ji300, ji366, ji400, ji500, ji1000, jI_z, ↓jI_m1, jI_add, jI_sub, jI_mul, ↓mo_ns_r, ↓hn0, ↓mo_cs_s, ↓mo_xs_r, ↓mo_xs_l, ↓mo_nl_s, mo_z_0, mo_z_1, jI_eq, eq2]
      cases hcp : cP c p (mir n q) with
      | true =>
        refine Or.inr ⟨M2, q, by omega, g, hcp, fun m' h1 h2 _ => by omega, pre _ ?_, r3⟩
        rw [hcp, if_neg (by decide)]
      | false =>
        have hih := ih f M2 (by omega) (by omega) (r3.br hB)
        rw [hcp, if_pos (by decide)] at pre
        rcases hih with ⟨M', k1, k2, k3⟩ | ⟨M', m, k1, k2, k3, k4, k5, k6⟩
        · refine Or.inl ⟨M', pre _ k1, r3.trans k2, fun m hm hpm => ?_⟩
          by_cases e : m = q
          · subst e; exact hcp
          · exact k3 m (by omega) hpm
        · refine Or.inr ⟨M', m, by omega, k2, k3, fun m' h1 h2 h3 => ?_, pre _ k5, r3.trans k6⟩
          by_cases e : m' = q
          · subst e; exact hcp
          · exact k4 m' (by omega) h2 h3
    · have pre : ∀ r, m_X6_findCore_l26 K z (jI p) f (hp S z M) (jI n) (jI (2 ^ n : Nat)) (jI v) (jI ((q : Int) - 1)) = r → m_X6_findCore_l26 K z (jI p) (f + 1) (hp S z M) (jI n) (jI (2 ^ n : Nat)) (jI v) (jI q) = r := by
        intro r hr
        rw [← hr]
        conv => lhs; unfold m_X6_findCore_l26
        simp (disch := omega) only [ji1, ji2, ji3, ji4, ji5, ji6, ji7, ji8, ji9, ji10, ji11, ji12, ji13, ji14, ji15, ji16, ji19, ji20, ji24, ji31, ji32, ji39, ji45, ji48, ji57, ji58, ji59, ji60, ji97, ji100, ji119, ji120, ji122, ji144, ji200, ji226, ji240, ji255, ji300, ji366, ji400, ji500, ji1000, jI_z, ↓jI_m1, jI_add, jI_sub, jI_mul, jI_lt, q0, if_false, bc, ↓mo_ns_r, ↓hn0, ↓mo_cs_s, ↓mo_xs_r, ↓mo_xs_l, ↓mo_nl_s, mo_z_0, mo_z_1, jI_eq]
        rw [if_neg (by omega), eq2]
      rcases ih f M (by omega) (by omega) hB with ⟨M', k1, k2, k3⟩ | ⟨M', m, k1, k2, k3, k4, k5, k6⟩
      · refine Or.inl ⟨M', pre _ k1, k2, fun m hm hpm => ?_⟩
        by_cases e : m = q
        · subst e; exact absurd hpm g
        · exact k3 m (by omega) hpm
      · refine Or.inr ⟨M', m, by omega, k2, k3, fun m' h1 h2 h3 => ?_, pre _ k5, k6⟩
        by_cases e : m' = q
        · subst e; exact absurd h3 g
        · exact k4 m' (by omega) h2 h3


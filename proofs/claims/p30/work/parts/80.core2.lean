variable {S : hSh}
/-! .. its outer loop. -/
theorem popG_n : ∀ (n K m : Nat), m < 2 ^ n → popG K m ≤ n := by
  intro n
  induction n with
  | zero =>
    intro K m hm
    have : m = 0 := by simpa using hm
    subst this
    have : ∀ K, popG K 0 = 0 := by
      intro K
      induction K with
      | zero => rfl
      | succ K ih => simp only [popG]; simpa using ih
    rw [this]; exact Nat.le_refl _
  | succ n ih =>
    intro K m hm
    cases K with
    | zero => simp [popG]
    | succ K =>
      simp only [popG]
      rw [Nat.pow_succ] at hm
      have := ih K (m / 2) (by omega)
      omega
theorem mir_core {n m v : Nat} {P : Nat → Bool} (hn : n ≤ 10) (hm : m < 2 ^ n) (hpm : pop m = v) (hP : P (mir n m) = true) (h1 : ∀ m', m' < 2 ^ n → m < m' → pop m' = v → P (mir n m') = false) (h2 : ∀ m', m' < 2 ^ n → pop m' < v → P m' = false) : isCore n P (mir n m) := by
  obtain ⟨a1, a2⟩ := mir_pop hn hm
  refine ⟨mir_lt n m, hP, fun m' hm' hP' hne => ?_⟩
  obtain ⟨b1, b2⟩ := mir_pop hn hm'
  have hge : v ≤ pop m' := by
    rcases Nat.lt_or_ge (pop m') v with g | g
    · rw [h2 m' hm' g] at hP'; exact absurd hP' (by decide)
    · exact g
  unfold bef
  rw [a1, a2]
  by_cases g : pop m' = v
  · refine Or.inr ⟨by omega, ?_⟩
    rcases Nat.lt_trichotomy (mir n m') m with k | k | k
    · exact k
    · exact absurd (by rw [← k, b2]) hne
    · have := h1 (mir n m') (mir_lt n m') k (by omega)
      rw [b2, hP'] at this; exact absurd this (by decide)
  · exact Or.inl (by omega)
theorem X6_c15 {z n p : Nat} {c : hCf} (hc : okC c) (hn : c.2.length = n) (hp' : p < 4) : ∀ (d v f : Nat) (M : hM), v + d = n + 1 → d < f → BR M 1 c → (∀ m, m < 2 ^ n → pop m < v → cP c p m = false) →
    (∃ M', m_X6_findCore_l15 z (jI p) f (hp S z M) (jI n) (jI (2 ^ n : Nat)) (jI v) = some (jI (-1), hp S z M') ∧ FC M M' ∧ ∀ m, m < 2 ^ n → cP c p m = false) ∨
    (∃ M' m, m_X6_findCore_l15 z (jI p) f (hp S z M) (jI n) (jI (2 ^ n : Nat)) (jI v) = some (jI (m : Nat), hp S z M') ∧ FC M M' ∧ isCore n (cP c p) m) := by
  have hn10 : n ≤ 10 := by have := hc.1; omega
  have hp2 : (2 : Nat) ^ n ≤ 2 ^ 10 := Nat.pow_le_pow_right (by omega) hn10
  intro d
  induction d with
  | zero =>
    intro v f M hv hf hB hall
    obtain ⟨f, rfl⟩ : ∃ g, f = g + 1 := ⟨f - 1, by omega⟩
    refine Or.inl ⟨M, ?_, FC.rfl', fun m hm => hall m hm (by have := popG_n n 16 m hm; unfold pop; omega)⟩
    unfold m_X6_findCore_l15
    rw [if_pos (by rw [jI_lt (by omega) (by omega) (by omega) (by omega)]; omega)]; rfl
  | succ d ih =>
    intro v f M hv hf hB hall
    obtain ⟨f, rfl⟩ : ∃ g, f = g + 1 := ⟨f - 1, by omega⟩
    have pre : ∀ r, m_X6_findCore_l26 (fun ρ y0 y1 y2 => m_X6_findCore_l15 z (jI p) f ρ y0 y1 y2) z (jI p) hN_f (hp S z M) (jI n) (jI (2 ^ n : Nat)) (jI v) (jI (((2 ^ n : Nat) : Int) - 1)) = r → m_X6_findCore_l15 z (jI p) (f + 1) (hp S z M) (jI n) (jI (2 ^ n : Nat)) (jI v) = r := by
      intro r hr
      rw [← hr]
      conv => lhs; unfold m_X6_findCore_l15
      rw [if_neg (by rw [jI_lt (by omega) (by omega) (by omega) (by omega)]; omega)]
      simp (disch := omega) only [ji1, ji2, ji3, ji4, ji5, ji6, ji7, ji8, ji9, ji10, ji11, ji12, ji13, ji14, ji15, ji16, ji19, ji20, ji24, ji31, ji32, ji39, ji45, ji48, ji57, ji58, ji59, ji60, ji97, ji100, ji119, ji120, ji122, ji144, ji200, ji226, ji240, ji255, ji300, ji366, ji400, ji500, ji1000, jI_z, ↓jI_m1, jI_add, jI_sub, jI_mul]
    rcases X6_c26 (S := S) (z := z) (K := fun ρ y0 y1 y2 => m_X6_findCore_l15 z (jI p) f ρ y0 y1 y2) (v := v) hc hn hp' (by omega) (2 ^ n) hN_f M (Nat.le_refl _) (by unfold hN_f; omega) hB with ⟨M1, k1, k2, k3⟩ | ⟨M1, m, k1, k2, k3, k4, k5, k6⟩
    · have hall' : ∀ m, m < 2 ^ n → pop m < v + 1 → cP c p m = false := fun m hm hpm => by
        by_cases g : pop m = v
        · obtain ⟨b1, b2⟩ := mir_pop hn10 hm
          have := k3 (mir n m) (mir_lt n m) (by omega)
          rwa [b2] at this
        · exact hall m hm (by omega)
      have ev : jI (v : Int) + 1 = jI ((v + 1 : Nat) : Int) := by
        rw [ji1, jI_add]; congr 1
      rcases ih (v + 1) f M1 (by omega) (by omega) (k2.br hB) hall' with ⟨M', q1, q2, q3⟩ | ⟨M', m, q1, q2, q3⟩
      · exact Or.inl ⟨M', pre _ (by rw [k1, ev]; exact q1), k2.trans q2, q3⟩
      · exact Or.inr ⟨M', m, pre _ (by rw [k1, ev]; exact q1), k2.trans q2, q3⟩
    · exact Or.inr ⟨M1, mir n m, pre _ k5, k6, mir_core hn10 k1 k2 k3 k4 hall⟩
/-- THE CORE of the class -/
theorem X6_core {z p : Nat} {M : hM} {c : hCf} (hB : BR M 1 c) (hc : okC c) (hp' : p < 4) :
    (∃ M', m_X6_findCore (hp S z M) z (jI p) = some (jI (-1), hp S z M') ∧ FC M M' ∧ ∀ m, m < 2 ^ c.2.length → cP c p m = false) ∨
    (∃ M' m, m_X6_findCore (hp S z M) z (jI p) = some (jI (m : Nat), hp S z M') ∧ FC M M' ∧ isCore c.2.length (cP c p) m) := by
  have hl := hc.1
  have pre : ∀ r, m_X6_findCore_l15 z (jI p) hN_f (hp S z M) (jI (c.2.length : Nat)) (jI (2 ^ c.2.length : Nat)) (jI (0 : Nat)) = r → m_X6_findCore (hp S z M) z (jI p) = r := by
    intro r hr
    rw [← hr]
    have h1 := X0_count (S := S) (z := z) (M := M) (b := 1) rfl
    rw [hB.2.1] at h1
    unfold m_X6_findCore
    simp (disch := omega) only [↓hg0_0, ↓hg0_1, ↓hg0_2, ↓hg0_3, ↓hg0_4, ↓hg0_5, hw0_5, ↓hg0_6, ↓hg0_7, ↓hv0, ↓hx0, ha132, hu132, ↓hl132, ↓Bv (b := 1) rfl]
    rw [h1]
    simp (disch := omega) only [ji1, ji2, ji3, ji4, ji5, ji6, ji7, ji8, ji9, ji10, ji11, ji12, ji13, ji14, ji15, ji16, ji19, ji20, ji24, ji31, ji32, ji39, ji45, ji48, ji57, ji58, ji59, ji60, ji97, ji100, ji119, ji120, ji122, ji144, ji200, ji226, ji240, ji255, ji300, ji366, ji400, ji500, ji1000, jI_z, ↓jI_m1, jI_add, jI_sub, jI_mul, ↓mo_ns_r, ↓hn0, ↓mo_cs_s, ↓mo_xs_r, ↓mo_xs_l, ↓mo_nl_s, mo_z_0, mo_z_1, jS, Int.toNat_natCast]
    rfl
  rcases X6_c15 (S := S) (z := z) hc rfl hp' (c.2.length + 1) 0 hN_f M (by omega) (by unfold hN_f; omega) hB (fun m _ h => by omega) with ⟨M', q1, q2, q3⟩ | ⟨M', m, q1, q2, q3⟩
  · exact Or.inl ⟨M', pre _ q1, q2, q3⟩
  · exact Or.inr ⟨M', m, pre _ q1, q2, q3⟩


variable {S : hSh}
/-! THE WEAK POINTS. -/
def cntW (P : Nat → Bool) : Nat → Nat
  | 0 => 0
  | k + 1 => cntW P k + if P k = true then 1 else 0
theorem cntW_le {P : Nat → Bool} : ∀ k, cntW P k ≤ k := by
  intro k
  induction k with
  | zero => exact Nat.le_refl _
  | succ k ih => simp only [cntW]; split <;> omega
theorem cntW_far {P : Nat → Bool} {N : Nat} (h : ∀ k, N ≤ k → P k = false) : ∀ d, cntW P (N + d) = cntW P N := by
  intro d
  induction d with
  | zero => rfl
  | succ d ih => rw [← Nat.add_assoc]; simp only [cntW]; rw [h (N + d) (by omega), if_neg (by decide), ih]; rfl
def wkP (c : hCf) (p k : Nat) : Bool := atP c p (0, (k : Int), 0)
def weakV (c : hCf) (p : Nat) : Int := if brk (c.1, []) p = true then 0 else (cntW (wkP c p) 120 : Nat)
theorem okW0 {k : Nat} (h : k < 120) : okF (0, (k : Int), 0) := ⟨by show (0 : Int) ≤ 0; omega, by show (0 : Int) ≤ 2; omega, by show (0 : Int) ≤ k; omega, by show (k : Int) < 120; omega, by show (0 : Int) ≤ 0; omega, by show (0 : Int) ≤ 20; omega⟩
theorem X6_wp_l {z p : Nat} {c : hCf} {N : Nat} (hc : okC c) (hp' : p < 4) (hN : N ≤ 120) : ∀ (n : Nat) (k : Nat) (fu : Nat) (M : hM), k + n = N → n < fu → HB M c →
    ∃ M', m_X6_weakPoints_l30 z (jI p) fu (hp S z M) (jI N) (jI (cntW (wkP c p) k : Nat)) (jI k) = some (.inr (jI (cntW (wkP c p) N : Nat)), hp S z M') ∧ FD M M' := by
  intro n
  induction n with
  | zero =>
    intro k fu M hk hfu hB
    obtain ⟨fu, rfl⟩ : ∃ g, fu = g + 1 := ⟨fu - 1, by omega⟩
    have hkN : k = N := by omega
    subst hkN
    refine ⟨M, ?_, FD.rfl'⟩
    have g : ¬ (k : Int) < k := by omega
    unfold m_X6_weakPoints_l30
    simp (disch := omega) only [ji1, ji2, ji3, ji4, ji5, ji6, ji7, ji8, ji9, ji10, ji11, ji12, ji13, ji14, ji15, ji16, ji19, ji20, ji24, ji31, ji32, ji39, ji45, ji48, ji57, ji58, ji59, ji60, ji97, ji100, ji119, ji120, ji122, ji144, ji200, ji226, ji240, ji255, ji300, ji366, ji400, ji500, ji1000, jI_z, ↓jI_m1, jI_add, jI_sub, jI_mul, ↓mo_ns_r, ↓hn0, ↓mo_cs_s, ↓mo_xs_r, ↓mo_xs_l, ↓mo_nl_s, mo_z_0, mo_z_1, jI_lt, g, if_false]
  | succ n ih =>
    intro k fu M hk hfu hB
    obtain ⟨fu, rfl⟩ : ∃ g, fu = g + 1 := ⟨fu - 1, by omega⟩
    have g : (k : Int) < N := by omega
    have hcl := cntW_le (P := wkP c p) k
    obtain ⟨M1, M2, r1, r2, r3, r4⟩ := X6_one (S := S) (z := z) hc hp' (okW0 (k := k) (by omega)) hB
    have pre : ∀ r, (if jI (b2i (wkP c p k)) = jI 0 then m_X6_weakPoints_l30 z (jI p) fu (hp S z M2) (jI N) (jI (cntW (wkP c p) k : Nat)) (jI ((k : Int) + 1)) else m_X6_weakPoints_l30 z (jI p) fu (hp S z M2) (jI N) (jI ((cntW (wkP c p) k : Nat) + 1)) (jI ((k : Int) + 1))) = r → m_X6_weakPoints_l30 z (jI p) (fu + 1) (hp S z M) (jI N) (jI (cntW (wkP c p) k : Nat)) (jI k) = r := by
      intro r hr
      rw [← hr]
      conv => lhs; unfold m_X6_weakPoints_l30
      simp (disch := omega) only [ji1, ji2, ji3, ji4, ji5, ji6, ji7, ji8, ji9, ji10, ji11, ji12, ji13, ji14, ji15, ji16, ji19, ji20, ji24, ji31, ji32, ji39, ji45, ji48, ji57, ji58, ji59, ji60, ji97, ji100, ji119, ji120, ji122, ji144, ji200, ji226, ji240, ji255, ji300, ji366, ji400, ji500, ji1000, jI_z, ↓jI_m1, jI_add, jI_sub, jI_mul, jI_lt, g, if_true, ↓hg0_0, ↓hg0_1, ↓hg0_2, ↓hg0_3, ↓hg0_4, ↓hg0_5, hw0_5, ↓hg0_6, ↓hg0_7, ↓hv0, ↓hx0, ha132, hu132, ↓hl132, ↓Bv (b := 8) rfl]
      rw [r1]
      simp (disch := omega) only [ji1, ji2, ji3, ji4, ji5, ji6, ji7, ji8, ji9, ji10, ji11, ji12, ji13, ji14, ji15, ji16, ji19, ji20, ji24, ji31, ji32, ji39, ji45, ji48, ji57, ji58, ji59, ji60, ji97, ji100, ji119, ji120, ji122, ji144, ji200, ji226, ji240, ji255, ji300, ji366, ji400, ji500, ji1000, jI_z, ↓jI_m1, jI_add, jI_sub, jI_mul, ↓mo_ns_r, ↓hn0, ↓mo_cs_s, ↓mo_xs_r, ↓mo_xs_l, ↓mo_nl_s, mo_z_0, mo_z_1, ↓hg0_0, ↓hg0_1, ↓hg0_2, ↓hg0_3, ↓hg0_4, ↓hg0_5, hw0_5, ↓hg0_6, ↓hg0_7, ↓hv0, ↓hx0, ha132, hu132, ↓hl132]
      rw [r2]
      simp (disch := omega) only [ji1, ji2, ji3, ji4, ji5, ji6, ji7, ji8, ji9, ji10, ji11, ji12, ji13, ji14, ji15, ji16, ji19, ji20, ji24, ji31, ji32, ji39, ji45, ji48, ji57, ji58, ji59, ji60, ji97, ji100, ji119, ji120, ji122, ji144, ji200, ji226, ji240, ji255, ji300, ji366, ji400, ji500, ji1000, jI_z, ↓jI_m1, jI_add, jI_sub, jI_mul, ↓mo_ns_r, ↓hn0, ↓mo_cs_s, ↓mo_xs_r, ↓mo_xs_l, ↓mo_nl_s, mo_z_0, mo_z_1]
      rfl
    obtain ⟨M3, s1, s2⟩ := ih (k + 1) fu M2 (by omega) (by omega) ⟨_, r4, hc.one (okW0 (by omega))⟩
    refine ⟨M3, pre _ ?_, r3.trans s2⟩
    rw [← s1]
    cases hb : wkP c p k with
    | true =>
      rw [if_neg (by decide)]; simp only [cntW, hb, if_true]; rfl
    | false =>
      rw [if_pos (by decide)]; simp only [cntW, hb, Bool.false_eq_true, if_false]; rfl
theorem wk_far {c : hCf} {p : Nat} (hb : brk (c.1, []) p = false) (hc : okC c) : cntW (wkP c p) (zR (c.1, [])).2.1.length = cntW (wkP c p) 120 := by
  have hN := zN_le hc.nil
  have h := cntW_far (P := wkP c p) (N := (zR (c.1, [])).2.1.length) (fun k hk => by unfold wkP atP; rw [brk_far hk, hb]) (120 - (zR (c.1, [])).2.1.length)
  rw [show (zR (c.1, [])).2.1.length + (120 - (zR (c.1, [])).2.1.length) = 120 by omega] at h
  exact h.symm


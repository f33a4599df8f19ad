/-! WHETHER A SCHEDULE BREAKS A PROMISE: class and model answer the same. -/
theorem mo_zb {α : Type} {X : Option α} {v : Bool} : mo_z (jI (b2i v)) X = X := by
  cases v
  · exact mo_z_0
  · exact mo_z_1
theorem b2i_0 {v : Bool} : (jI (b2i v) = jI 0) = (v = false) := by
  cases v
  · exact propext ⟨fun _ => rfl, fun _ => rfl⟩
  · exact propext ⟨fun h => absurd h (by decide), fun h => absurd h (by decide)⟩
def brk (c : hCf) (p : Nat) : Bool := zBrk c (zR c).2 p
theorem zBits_lt {c : hCf} {s : hS} : zBits c s < 16 := by
  unfold zBits
  cases zBrk c s 0 <;> cases zBrk c s 1 <;> cases zBrk c s 2 <;> cases zBrk c s 3 <;> decide
theorem zBits_tb {c : hCf} {s : hS} {p : Nat} (hp' : p < 4) : (zBits c s).testBit p = zBrk c s p := by
  unfold zBits
  rcases (show p = 0 ∨ p = 1 ∨ p = 2 ∨ p = 3 by omega) with g | g | g | g <;> subst g <;> cases zBrk c s 0 <;> cases zBrk c s 1 <;> cases zBrk c s 2 <;> cases zBrk c s 3 <;> decide
theorem zJ_run {c : hCf} (hc : okC c) : ∀ (n : Nat) (t : Int) (s : hS), 0 ≤ t → zJ c t 0 s → zJ c (zRun c n t s).1 0 (zRun c n t s).2 ∧ t ≤ (zRun c n t s).1 ∧ (zRun c n t s).1 ≤ t + n := by
  intro n
  induction n with
  | zero => intro t s _ h; exact ⟨h, by simp [zRun], by simp [zRun]⟩
  | succ n ih =>
    intro t s ht h
    simp only [zRun]
    have h1 := zJ_tick hc h ht
    by_cases g : zOver c t (zTick c t s) = true
    · rw [if_pos g]; exact ⟨h1, by simp only; omega, by simp only; omega⟩
    · rw [if_neg g]
      obtain ⟨k1, k2, k3⟩ := ih (t + 1) _ (by omega) h1
      exact ⟨k1, by omega, by omega⟩
theorem zJ_R {c : hCf} (hc : okC c) : zJ c (zR c).1 0 (zR c).2 ∧ 0 ≤ (zR c).1 ∧ (zR c).1 ≤ 200 := by
  have hcs := hc.s
  obtain ⟨k1, k2, k3⟩ := zJ_run hc (c.1 2).toNat 0 z0 (by omega) (zJ_0 hc)
  exact ⟨k1, k2, by unfold zR; omega⟩
/-- the references but the one that a run changes -/
def Vx (j : Nat) (M M' : hM) : Prop := ∀ k, k ≠ j → gV M' k = gV M k
theorem X6_brk {z b p : Nat} {M : hM} {c : hCf} (hb : b = 1 ∨ b = 8) (hB : BR M b c) (hc : okC c) (hp' : p < 4) :
    ∃ M', m_X6_isBroken (hp z M) z (z + b) (jI p) = some (jI (b2i (brk c p)), hp z M') ∧ PR M' c (zR c) ∧ Fr 15 30 M M' ∧ Vx 0 M M' := by
  obtain ⟨M', r1, r2, r3, r4⟩ := X4_play (z := z) hb hB hc
  refine ⟨M', ?_, r2, r3, r4⟩
  have h16 := zBits_lt (c := c) (s := (zR c).2)
  have htb := zBits_tb (c := c) (s := (zR c).2) hp'
  unfold m_X6_isBroken
  simp (disch := omega) only [ji1, ji2, ji3, ji4, ji5, ji6, ji7, ji8, ji9, ji10, ji11, ji12, ji13, ji14, ji15, ji16, ji19, ji20, ji39, ji119, ji144, ji366, ji24, ji31, ji32, ji45, ji48, ji57, ji58, ji59, ji97, ji120, ji122, ji183, ji200, ji226, ji240, ji255, ji500, jI_z, ↓jI_m1, jI_add, jI_sub, jI_mul, ↓hg0_0, ↓hg0_1, ↓hg0_2, ↓hg0_3, ↓hg0_4, ↓hg0_5, hw0_5, ↓hg0_6, ↓hg0_7, ↓hv0, ↓hx0, ha132, hu132, ↓hl132, ↓hg15_0, ↓hg15_1, ↓hg15_2, ↓hg15_3, hw15_3, ↓hg15_4, hw15_4, ↓hg15_5, hw15_5, ↓hg15_6, hw15_6, ↓hg15_7, hw15_7, ↓hg15_8, hw15_8, ↓hg15_9, hw15_9, ↓hg15_10, hw15_10, ↓hg15_11, hw15_11, ↓hg15_12, hw15_12, ↓hg15_13, hw15_13, ↓hg15_14, hw15_14, ↓hv15, ↓hx15, ha29, hu29, ↓hl29]
  rw [r1]
  simp (disch := omega) only [ji1, ji2, ji3, ji4, ji5, ji6, ji7, ji8, ji9, ji10, ji11, ji12, ji13, ji14, ji15, ji16, ji19, ji20, ji39, ji119, ji144, ji366, ji24, ji31, ji32, ji45, ji48, ji57, ji58, ji59, ji97, ji120, ji122, ji183, ji200, ji226, ji240, ji255, ji500, jI_z, ↓jI_m1, jI_add, jI_sub, jI_mul, ↓mo_cs_s, ↓mo_xs_r, ↓mo_xs_l, ↓mo_nl_s, mo_z_0, mo_z_1, jT, Int.toNat_natCast, htb]
  unfold brk
  cases zBrk c (zR c).2 p
  · rw [if_pos (by decide)]; rfl
  · rw [if_neg (by decide)]; rfl
theorem X7_brk {z a p : Nat} {M : hM} {c : hCf} (ha : isR a) (hc : okC c) (hR : RR (gA M a) c) (hp' : p < 4) :
    ∃ M', m_X7_breaksBy (hp z M) (z + 133) (z + a) (jI p) = some (jI (b2i (brk c p)), hp z M') ∧ MR M' c a (zR c).1 (zR c).2 ∧ FrM M M' ∧ Vx 1 M M' := by
  obtain ⟨M', r1, r2, r3, r4⟩ := X7_runs (z := z) ha hc hR
  obtain ⟨k1, k2, k3⟩ := zJ_R hc
  refine ⟨M', ?_, r2, r3, r4⟩
  have := X7_br (z := z) (p := p) ha hc r2 k1 k3 hp'
  unfold m_X7_breaksBy
  simp (disch := omega) only [↓hg133_0, hw133_0, ↓hg133_1, ↓hg133_2, ↓hg133_3, hw133_3, ↓hg133_4, hw133_4, ↓hg133_5, hw133_5, ↓hg133_6, hw133_6, ↓hg133_7, hw133_7, ↓hg133_8, hw133_8, ↓hg133_9, hw133_9, ↓hg133_10, hw133_10, ↓hg133_11, hw133_11, ↓hg133_12, hw133_12, ↓hg133_13, ↓hg133_14, hw133_14, ↓hg133_15, ↓hg133_16, ↓hg133_17, ↓hg133_18, ↓hg133_19, ↓hg133_20, ↓hg133_21, hw133_21, ↓hg133_22, ↓hg133_23, hw133_23, ↓hg133_24, hw133_24, ↓hg133_25, hw133_25, ↓hg133_26, hw133_26, ↓hg133_27, hw133_27, ↓hg133_28, ↓hg133_29, hw133_29, ↓hg133_30, hw133_30, ↓hg133_31, hw133_31, ↓hg133_32, hw133_32, ↓hg133_33, hw133_33, ↓hg133_34, hw133_34, ↓hg133_35, hw133_35, ↓hg133_36, hw133_36, ↓hg133_37, ↓hg133_38, ↓hg133_39, ↓hv133, ↓hx133, ha134, hu134, ↓hl134, ha135, hu135, ↓hl135, ha136, hu136, ↓hl136, ha137, hu137, ↓hl137, ha138, hu138, ↓hl138, ha139, hu139, ↓hl139, ha140, hu140, ↓hl140, ha141, hu141, ↓hl141, ha142, hu142, ↓hl142, ha143, hu143, ↓hl143, ha144, hu144, ↓hl144, ha145, hu145, ↓hl145, ha146, hu146, ↓hl146, ha147, hu147, ↓hl147]
  rw [r1]
  simp (disch := omega) only [↓mo_cs_s, ↓mo_xs_r, ↓mo_xs_l, ↓mo_nl_s, mo_z_0, mo_z_1, ↓hg133_0, hw133_0, ↓hg133_1, ↓hg133_2, ↓hg133_3, hw133_3, ↓hg133_4, hw133_4, ↓hg133_5, hw133_5, ↓hg133_6, hw133_6, ↓hg133_7, hw133_7, ↓hg133_8, hw133_8, ↓hg133_9, hw133_9, ↓hg133_10, hw133_10, ↓hg133_11, hw133_11, ↓hg133_12, hw133_12, ↓hg133_13, ↓hg133_14, hw133_14, ↓hg133_15, ↓hg133_16, ↓hg133_17, ↓hg133_18, ↓hg133_19, ↓hg133_20, ↓hg133_21, hw133_21, ↓hg133_22, ↓hg133_23, hw133_23, ↓hg133_24, hw133_24, ↓hg133_25, hw133_25, ↓hg133_26, hw133_26, ↓hg133_27, hw133_27, ↓hg133_28, ↓hg133_29, hw133_29, ↓hg133_30, hw133_30, ↓hg133_31, hw133_31, ↓hg133_32, hw133_32, ↓hg133_33, hw133_33, ↓hg133_34, hw133_34, ↓hg133_35, hw133_35, ↓hg133_36, hw133_36, ↓hg133_37, ↓hg133_38, ↓hg133_39, ↓hv133, ↓hx133, ha134, hu134, ↓hl134, ha135, hu135, ↓hl135, ha136, hu136, ↓hl136, ha137, hu137, ↓hl137, ha138, hu138, ↓hl138, ha139, hu139, ↓hl139, ha140, hu140, ↓hl140, ha141, hu141, ↓hl141, ha142, hu142, ↓hl142, ha143, hu143, ↓hl143, ha144, hu144, ↓hl144, ha145, hu145, ↓hl145, ha146, hu146, ↓hl146, ha147, hu147, ↓hl147]
  rw [this]
  simp only [↓mo_cs_s, ↓mo_xs_r, ↓mo_xs_l, ↓mo_nl_s, mo_z_0, mo_z_1, mo_zb]
  rfl
/-! ROWS of the model: copies, removals, insertions. -/
theorem X7_cp_l {z a b o q : Nat} {M0 : hM} {na nb : Nat} (hA : ckA a 0 na = true) (hB : ckA b 0 nb = true) (hna : na ≤ 4000) (hnb : nb ≤ 4000) (ho : o + 183 ≤ na) (hq : q + 183 ≤ nb) (hab : a ≠ b ∨ q + 183 ≤ o) : ∀ (d i n : Nat) (M : hM), i + d = 183 → d < n → (∀ k, k < i → gA M b (q + k) = gA M0 a (o + k)) → (∀ k, i ≤ k → k < 183 → gA M a (o + k) = gA M0 a (o + k)) → (∀ e k, gI M e k = gI M0 e k) → (∀ e k, e ≠ b ∨ k < q ∨ q + 183 ≤ k → gA M e k = gA M0 e k) → Vr M0 M →
    ∃ M', m_X7_copies_l3 (z + a) (jI o) (z + b) (jI q) n (hp z M) (jI i) = some ((), hp z M') ∧ (∀ k, k < 183 → gA M' b (q + k) = gA M0 a (o + k)) ∧ (∀ e k, gI M' e k = gI M0 e k) ∧ (∀ e k, e ≠ b ∨ k < q ∨ q + 183 ≤ k → gA M' e k = gA M0 e k) ∧ Vr M0 M' := by
  intro d
  induction d with
  | zero =>
    intro i n M hi hn h1 h2 h3 h4 h5
    obtain ⟨n, rfl⟩ : ∃ k, n = k + 1 := ⟨n - 1, by omega⟩
    have hi9 : i = 183 := by omega
    subst hi9
    refine ⟨M, ?_, h1, h3, h4, h5⟩
    unfold m_X7_copies_l3
    have h9 : ¬ ((183 : Nat) : Int) < 183 := by omega
    simp (disch := omega) only [ji1, ji2, ji3, ji4, ji5, ji6, ji7, ji8, ji9, ji10, ji11, ji12, ji13, ji14, ji15, ji16, ji19, ji20, ji39, ji119, ji144, ji366, ji24, ji31, ji32, ji45, ji48, ji57, ji58, ji59, ji97, ji120, ji122, ji183, ji200, ji226, ji240, ji255, ji500, jI_z, ↓jI_m1, jI_add, jI_sub, jI_mul, jI_lt, h9, if_false]
  | succ d ih =>
    intro i n M hi hn h1 h2 h3 h4 h5
    obtain ⟨n, rfl⟩ : ∃ k, n = k + 1 := ⟨n - 1, by omega⟩
    have e2 := h2 i (Nat.le_refl _) (by omega)
    obtain ⟨M', r1, r2⟩ := ih (i + 1) n (sA M b (q + i) (gA M0 a (o + i))) (by omega) (by omega) (fun k hk => by
        rw [gA_sA]; by_cases hki : k = i
        · rw [if_pos ⟨rfl, by omega⟩, hki]
        · rw [if_neg (by omega)]; exact h1 k (by omega)) (fun k hk hk2 => by
        rw [gA_sA, if_neg (by omega)]; exact h2 k (by omega) hk2) h3 (fun e k he => by rw [gA_sA, if_neg (by omega)]; exact h4 e k he) h5
    refine ⟨M', ?_, r2⟩
    have h9 : (i : Int) < 183 := by omega
    have ej' : (i : Int) + 1 = ((i + 1 : Nat) : Int) := by omega
    have eo : (o : Int) + (i : Int) = ((o + i : Nat) : Int) := by omega
    have eq' : (q : Int) + (i : Int) = ((q + i : Nat) : Int) := by omega
    unfold m_X7_copies_l3
    simp (disch := omega) only [ji1, ji2, ji3, ji4, ji5, ji6, ji7, ji8, ji9, ji10, ji11, ji12, ji13, ji14, ji15, ji16, ji19, ji20, ji39, ji119, ji144, ji366, ji24, ji31, ji32, ji45, ji48, ji57, ji58, ji59, ji97, ji120, ji122, ji183, ji200, ji226, ji240, ji255, ji500, jI_z, ↓jI_m1, jI_add, jI_sub, jI_mul, jI_lt, h9, if_true, ej', eo, eq', hp_ai hA hna, hp_ui hB hnb, Int.toNat_natCast, e2]
    exact r1
theorem X7_cp {z a b o q : Nat} {M : hM} {na nb : Nat} (hA : ckA a 0 na = true) (hB : ckA b 0 nb = true) (hna : na ≤ 4000) (hnb : nb ≤ 4000) (ho : o + 183 ≤ na) (hq : q + 183 ≤ nb) (hab : a ≠ b ∨ q + 183 ≤ o) :
    ∃ M', m_X7_copies (hp z M) (z + a) (jI o) (z + b) (jI q) = some ((), hp z M') ∧ (∀ k, k < 183 → gA M' b (q + k) = gA M a (o + k)) ∧ (∀ e k, gI M' e k = gI M e k) ∧ (∀ e k, e ≠ b ∨ k < q ∨ q + 183 ≤ k → gA M' e k = gA M e k) ∧ Vr M M' := by
  unfold m_X7_copies
  have := X7_cp_l (z := z) (M0 := M) hA hB hna hnb ho hq hab 183 0 hN_f M (by omega) (by unfold hN_f; omega) (by omega) (fun _ _ _ => rfl) (fun _ _ => rfl) (fun _ _ _ => rfl) (fun _ => rfl)
  rw [Int.natCast_zero] at this
  rw [jI_z]; exact this

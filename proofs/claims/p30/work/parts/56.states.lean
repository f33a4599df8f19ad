variable {S : hSh}
/-! SETS OF STATES of the class. -/
theorem fuel {P : Nat → Prop} (h : ∀ n, 99999 < n → P n) : P hN_f := h hN_f (by unfold hN_f; omega)
def pop (m : Nat) : Nat := popG 16 m
theorem popG_le : ∀ (k m : Nat), popG k m ≤ k := by
  intro k
  induction k with
  | zero => intro m; exact Nat.le_refl _
  | succ k ih => intro m; simp only [popG]; have := ih (m / 2); omega
theorem pop_le (m : Nat) : pop m ≤ 16 := popG_le 16 m
theorem J6_bc {σ : ac_H} {m : Nat} (hm : m < 65536) : m_J6_bitCount_0f7a4 σ (jI m) = some (jI (pop m : Nat), σ) := by
  have h := bc_all m hm
  rw [← jI_nat, ← jI_nat] at h
  have h2 : m_J6_bitCount_0f7a4 σ (jI m) = some (bcW (jI m), σ) := rfl
  rw [h2, h]; rfl
/-- the set of states at s -/
def RS (M : hM) (s : Nat) (r : Nat → Nat) : Prop := ∀ k, k < 9 → gA M (s + 1) k = (r k : Nat) ∧ r k < 65536
theorem RS.keep {M M' : hM} {s lo hi : Nat} {r : Nat → Nat} (h : RS M s r) (hf : Fr lo hi M M') (hd : s + 1 < lo ∨ hi ≤ s + 1) : RS M' s r := fun k hk => by rw [(hf (s + 1) (by omega)).2]; exact h k hk
theorem X5_ra_l {z s : Nat} {M0 : hM} (hb : isS s = true) : ∀ (d i n : Nat) (M : hM), i + d = 9 → d < n → (∀ k, k < i → gA M (s + 1) k = 0) → Fr (s + 1) (s + 2) M0 M → Vr M0 M →
    ∃ M', m_X5_removeAll_l2 (z + s) n (hp S z M) (jI i) = some ((), hp S z M') ∧ RS M' s (fun _ => 0) ∧ Fr (s + 1) (s + 2) M0 M' ∧ Vr M0 M' := by
  intro d
  induction d with
  | zero =>
    intro i n M hi hn hS hF hV
    obtain ⟨n, rfl⟩ : ∃ k, n = k + 1 := ⟨n - 1, by omega⟩
    have hi9 : i = 9 := by omega
    subst hi9
    refine ⟨M, ?_, fun k hk => ⟨hS k hk, by show (0 : Nat) < 65536; decide⟩, hF, hV⟩
    unfold m_X5_removeAll_l2
    have h9 : ¬ ((9 : Nat) : Int) < 9 := by omega
    simp (disch := omega) only [ji1, ji2, ji3, ji4, ji5, ji6, ji7, ji8, ji9, ji10, ji11, ji12, ji13, ji14, ji15, ji16, ji19, ji20, ji24, ji31, ji32, ji39, ji45, ji48, ji57, ji58, ji59, ji60, ji97, ji100, ji119, ji120, ji122, ji144, ji200, ji226, ji240, ji255, ji300, ji366, ji400, ji500, ji1000, jI_z, ↓jI_m1, jI_add, jI_sub, jI_mul, jI_lt, h9, if_false]
  | succ d ih =>
    intro i n M hi hn hS hF hV
    obtain ⟨n, rfl⟩ : ∃ k, n = k + 1 := ⟨n - 1, by omega⟩
    obtain ⟨M', r1, r2, r3, r4⟩ := ih (i + 1) n (sA M (s + 1) i 0) (by omega) (by omega) (fun k hk => by
        rw [gA_sA]; by_cases hki : k = i
        · rw [if_pos ⟨rfl, hki⟩]
        · rw [if_neg (by omega)]; exact hS k (by omega)) (hF.trans (Fr.sA (by omega))) (fun k => by rw [gV_sA]; exact hV k)
    refine ⟨M', ?_, r2, r3, r4⟩
    have h9 : (i : Int) < 9 := by omega
    have ej' : (i : Int) + 1 = ((i + 1 : Nat) : Int) := by omega
    unfold m_X5_removeAll_l2
    simp (disch := omega) only [ji1, ji2, ji3, ji4, ji5, ji6, ji7, ji8, ji9, ji10, ji11, ji12, ji13, ji14, ji15, ji16, ji19, ji20, ji24, ji31, ji32, ji39, ji45, ji48, ji57, ji58, ji59, ji60, ji97, ji100, ji119, ji120, ji122, ji144, ji200, ji226, ji240, ji255, ji300, ji366, ji400, ji500, ji1000, jI_z, ↓jI_m1, jI_add, jI_sub, jI_mul, jI_lt, ↓Sg0 hb, ↓Sv hb, Sa hb, Su hb, h9, if_true, ej', Int.toNat_natCast]
    exact r1
theorem X5_ra {z s : Nat} {M : hM} (hb : isS s = true) : ∃ M', m_X5_removeAll (hp S z M) (z + s) = some ((), hp S z M') ∧ RS M' s (fun _ => 0) ∧ Fr (s + 1) (s + 2) M M' ∧ Vr M M' := by
  unfold m_X5_removeAll
  exact X5_ra_l hb 9 0 hN_f M (by omega) (by unfold hN_f; omega) (by omega) Fr.rfl' Vr.rfl'
theorem X5_ta_l {z s a : Nat} {M0 : hM} {r : Nat → Nat} (hb : isS s = true) (ha : isS a = true) : ∀ (d i n : Nat) (M : hM), i + d = 9 → d < n → (∀ k, k < i → gA M (s + 1) k = r k) → RS M a r → Fr (s + 1) (s + 2) M0 M → Vr M0 M →
    ∃ M', m_X5_takeAll_l2 (z + s) (z + a) n (hp S z M) (jI i) = some ((), hp S z M') ∧ RS M' s r ∧ Fr (s + 1) (s + 2) M0 M' ∧ Vr M0 M' := by
  intro d
  induction d with
  | zero =>
    intro i n M hi hn hS hA hF hV
    obtain ⟨n, rfl⟩ : ∃ k, n = k + 1 := ⟨n - 1, by omega⟩
    have hi9 : i = 9 := by omega
    subst hi9
    refine ⟨M, ?_, fun k hk => ⟨hS k hk, (hA k hk).2⟩, hF, hV⟩
    unfold m_X5_takeAll_l2
    have h9 : ¬ ((9 : Nat) : Int) < 9 := by omega
    simp (disch := omega) only [ji1, ji2, ji3, ji4, ji5, ji6, ji7, ji8, ji9, ji10, ji11, ji12, ji13, ji14, ji15, ji16, ji19, ji20, ji24, ji31, ji32, ji39, ji45, ji48, ji57, ji58, ji59, ji60, ji97, ji100, ji119, ji120, ji122, ji144, ji200, ji226, ji240, ji255, ji300, ji366, ji400, ji500, ji1000, jI_z, ↓jI_m1, jI_add, jI_sub, jI_mul, jI_lt, h9, if_false]
  | succ d ih =>
    intro i n M hi hn hS hA hF hV
    obtain ⟨n, rfl⟩ : ∃ k, n = k + 1 := ⟨n - 1, by omega⟩
    have e := (hA i (by omega)).1
    obtain ⟨M', r1, r2, r3, r4⟩ := ih (i + 1) n (sA M (s + 1) i (r i)) (by omega) (by omega) (fun k hk => by
        rw [gA_sA]; by_cases hki : k = i
        · rw [if_pos ⟨rfl, hki⟩, hki]
        · rw [if_neg (by omega)]; exact hS k (by omega))
      (fun k hk => by
        rw [gA_sA]; by_cases hki : a + 1 = s + 1 ∧ k = i
        · rw [if_pos hki, hki.2]; exact ⟨rfl, (hA i (by omega)).2⟩
        · rw [if_neg hki]; exact hA k hk) (hF.trans (Fr.sA (by omega))) (fun k => by rw [gV_sA]; exact hV k)
    refine ⟨M', ?_, r2, r3, r4⟩
    have h9 : (i : Int) < 9 := by omega
    have ej' : (i : Int) + 1 = ((i + 1 : Nat) : Int) := by omega
    unfold m_X5_takeAll_l2
    simp (disch := omega) only [ji1, ji2, ji3, ji4, ji5, ji6, ji7, ji8, ji9, ji10, ji11, ji12, ji13, ji14, ji15, ji16, ji19, ji20, ji24, ji31, ji32, ji39, ji45, ji48, ji57, ji58, ji59, ji60, ji97, ji100, ji119, ji120, ji122, ji144, ji200, ji226, ji240, ji255, ji300, ji366, ji400, ji500, ji1000, jI_z, ↓jI_m1, jI_add, jI_sub, jI_mul, jI_lt, ↓Sg0 hb, ↓Sv hb, Sa hb, Su hb, ↓Sg0 ha, ↓Sv ha, Sa ha, Su ha, h9, if_true, ej', Int.toNat_natCast, e]
    exact r1
theorem X5_ta {z s a : Nat} {M : hM} {r : Nat → Nat} (hb : isS s = true) (ha : isS a = true) (hA : RS M a r) : ∃ M', m_X5_takeAll (hp S z M) (z + s) (z + a) = some ((), hp S z M') ∧ RS M' s r ∧ Fr (s + 1) (s + 2) M M' ∧ Vr M M' := by
  unfold m_X5_takeAll
  exact X5_ta_l hb ha 9 0 hN_f M (by omega) (by unfold hN_f; omega) (by omega) hA Fr.rfl' Vr.rfl'
/-- whether a and b name a state -/
abbrev stB (a b : Int) : Prop := 0 ≤ a ∧ a ≤ 8 ∧ 0 ≤ b ∧ b ≤ 15
theorem X5_is {z : Nat} {M : hM} {a b : Int} (ha : okW a) (hb : okW b) : m_X5_isState (hp S z M) (jI a) (jI b) = some (jI (if stB a b then 1 else 0), hp S z M) := by
  obtain ⟨ha0, ha1⟩ := ha
  obtain ⟨hb0, hb1⟩ := hb
  unfold m_X5_isState
  simp (disch := omega) only [ji1, ji2, ji3, ji4, ji5, ji6, ji7, ji8, ji9, ji10, ji11, ji12, ji13, ji14, ji15, ji16, ji19, ji20, ji24, ji31, ji32, ji39, ji45, ji48, ji57, ji58, ji59, ji60, ji97, ji100, ji119, ji120, ji122, ji144, ji200, ji226, ji240, ji255, ji300, ji366, ji400, ji500, ji1000, jI_z, ↓jI_m1, jI_add, jI_sub, jI_mul, jI_lt, ↓mo_ns_r, ↓hn0, ↓mo_cs_s, ↓mo_xs_r, ↓mo_xs_l, ↓mo_nl_s, mo_z_0, mo_z_1]

  by_cases h1 : a < 0
  · rw [if_pos h1, if_neg (by omega)]
  · rw [if_neg h1]
    by_cases h2 : a < 9
    · rw [if_pos h2]
      by_cases h3 : b < 0
      · rw [if_pos h3, if_neg (by omega)]
      · rw [if_neg h3]
        by_cases h4 : 15 < b
        · rw [if_pos h4, if_neg (by omega)]
        · rw [if_neg h4, if_pos (by omega)]
    · rw [if_neg h2, if_neg (by omega)]
theorem X5_put {z s : Nat} {M : hM} {r : Nat → Nat} {a b : Nat} (hs : isS s = true) (h : RS M s r) (ha : a ≤ 8) (hb : b ≤ 15) : ∃ M', m_X5_put (hp S z M) (z + s) (jI a) (jI b) = some ((), hp S z M') ∧ RS M' s (fun k => if k = a then r a ||| 2 ^ b else r k) ∧ Fr (s + 1) (s + 2) M M' ∧ Vr M M' := by
  have e := h a (by omega)
  have h2 : (2 : Nat) ^ b ≤ 2 ^ 15 := Nat.pow_le_pow_right (by omega) hb
  have h3 : r a ||| 2 ^ b < 2 ^ 16 := Nat.or_lt_two_pow (by omega) (by omega)
  refine ⟨sA M (s + 1) a ((r a ||| 2 ^ b : Nat) : Int), ?_, fun k hk => ?_, Fr.sA (by omega), fun _ => gV_sA⟩
  · unfold m_X5_put
    rw [X5_is ⟨by omega, by omega⟩ ⟨by omega, by omega⟩, if_pos ⟨by omega, by omega, by omega, by omega⟩]
    have h10 : ¬ (1 : Int) = 0 := by omega
    simp (disch := omega) only [ji1, ji2, ji3, ji4, ji5, ji6, ji7, ji8, ji9, ji10, ji11, ji12, ji13, ji14, ji15, ji16, ji19, ji20, ji24, ji31, ji32, ji39, ji45, ji48, ji57, ji58, ji59, ji60, ji97, ji100, ji119, ji120, ji122, ji144, ji200, ji226, ji240, ji255, ji300, ji366, ji400, ji500, ji1000, jI_z, ↓jI_m1, jI_add, jI_sub, jI_mul, jI_eq, ↓mo_ns_r, ↓hn0, ↓mo_cs_s, ↓mo_xs_r, ↓mo_xs_l, ↓mo_nl_s, mo_z_0, mo_z_1, ↓Sg0 hs, ↓Sv hs, Sa hs, Su hs, h10, if_false, Int.toNat_natCast, e.1, jS, jI_or]
  · rw [gA_sA]
    by_cases hk' : k = a
    · rw [if_pos ⟨rfl, hk'⟩]; simp only [hk', if_true]; exact ⟨trivial, h3⟩
    · rw [if_neg (by omega)]; simp only [if_neg hk']; exact h k hk
theorem X5_holds {z s : Nat} {M : hM} {r : Nat → Nat} {a b : Int} (hs : isS s = true) (h : RS M s r) (ha : okW a) (hb : okW b) : m_X5_holds (hp S z M) (z + s) (jI a) (jI b) = some (jI (if stB a b ∧ (r a.toNat).testBit b.toNat = true then 1 else 0), hp S z M) := by
  unfold m_X5_holds
  rw [X5_is ha hb]
  obtain ⟨ha0, ha1⟩ := ha
  obtain ⟨hb0, hb1⟩ := hb
  by_cases hst : stB a b
  · have hst' := hst
    obtain ⟨s1, s2, s3, s4⟩ := hst'
    have e := h a.toNat (by omega)
    have h10 : ¬ (1 : Int) = 0 := by omega
    rw [if_pos hst]
    simp (disch := omega) only [ji1, ji2, ji3, ji4, ji5, ji6, ji7, ji8, ji9, ji10, ji11, ji12, ji13, ji14, ji15, ji16, ji19, ji20, ji24, ji31, ji32, ji39, ji45, ji48, ji57, ji58, ji59, ji60, ji97, ji100, ji119, ji120, ji122, ji144, ji200, ji226, ji240, ji255, ji300, ji366, ji400, ji500, ji1000, jI_z, ↓jI_m1, jI_add, jI_sub, jI_mul, jI_eq, ↓mo_ns_r, ↓hn0, ↓mo_cs_s, ↓mo_xs_r, ↓mo_xs_l, ↓mo_nl_s, mo_z_0, mo_z_1, ↓Sg0 hs, ↓Sv hs, Sa hs, Su hs, h10, if_false, Int.toNat_natCast, e.1, jT]
    by_cases ht : (r a.toNat).testBit b.toNat = true
    · rw [if_pos ht, if_neg (by omega), if_pos ⟨hst, ht⟩]
    · rw [if_neg ht, if_pos rfl, if_neg (by rintro ⟨_, g⟩; exact absurd g (by simpa using ht))]
  · rw [if_neg hst, if_neg (by rintro ⟨g, _⟩; exact hst g)]
    simp (disch := omega) only [ji1, ji2, ji3, ji4, ji5, ji6, ji7, ji8, ji9, ji10, ji11, ji12, ji13, ji14, ji15, ji16, ji19, ji20, ji24, ji31, ji32, ji39, ji45, ji48, ji57, ji58, ji59, ji60, ji97, ji100, ji119, ji120, ji122, ji144, ji200, ji226, ji240, ji255, ji300, ji366, ji400, ji500, ji1000, jI_z, ↓jI_m1, jI_add, jI_sub, jI_mul, ↓mo_ns_r, ↓hn0, ↓mo_cs_s, ↓mo_xs_r, ↓mo_xs_l, ↓mo_nl_s, mo_z_0, mo_z_1, if_true]
def sum9 (f : Nat → Nat) : Nat → Nat
  | 0 => 0
  | k + 1 => sum9 f k + f k
theorem sum9_le {f : Nat → Nat} (h : ∀ k, f k ≤ 16) : ∀ k, sum9 f k ≤ 16 * k := by
  intro k
  induction k with
  | zero => exact Nat.le_refl _
  | succ k ih => simp only [sum9]; have := h k; omega
theorem X5_hm_l {z s : Nat} {M : hM} {r : Nat → Nat} (hs : isS s = true) (h : RS M s r) : ∀ (d i n : Nat), i + d = 9 → d < n → m_X5_howMany_l4 (z + s) n (hp S z M) (jI (sum9 (fun k => pop (r k)) i : Nat)) (jI i) = some (jI (sum9 (fun k => pop (r k)) 9 : Nat), hp S z M) := by
  intro d
  induction d with
  | zero =>
    intro i n hi hn
    obtain ⟨n, rfl⟩ : ∃ k, n = k + 1 := ⟨n - 1, by omega⟩
    have hi9 : i = 9 := by omega
    subst hi9
    unfold m_X5_howMany_l4
    have h9 : ¬ ((9 : Nat) : Int) < 9 := by omega
    simp (disch := omega) only [ji1, ji2, ji3, ji4, ji5, ji6, ji7, ji8, ji9, ji10, ji11, ji12, ji13, ji14, ji15, ji16, ji19, ji20, ji24, ji31, ji32, ji39, ji45, ji48, ji57, ji58, ji59, ji60, ji97, ji100, ji119, ji120, ji122, ji144, ji200, ji226, ji240, ji255, ji300, ji366, ji400, ji500, ji1000, jI_z, ↓jI_m1, jI_add, jI_sub, jI_mul, jI_lt, h9, if_false]
  | succ d ih =>
    intro i n hi hn
    obtain ⟨n, rfl⟩ : ∃ k, n = k + 1 := ⟨n - 1, by omega⟩
    have e := h i (by omega)
    have h9 : (i : Int) < 9 := by omega
    have ej' : (i : Int) + 1 = ((i + 1 : Nat) : Int) := by omega
    have es : ((sum9 (fun k => pop (r k)) i : Nat) : Int) + (pop (r i) : Nat) = ((sum9 (fun k => pop (r k)) (i + 1) : Nat) : Int) := by simp only [sum9]; omega
    unfold m_X5_howMany_l4
    simp (disch := omega) only [ji1, ji2, ji3, ji4, ji5, ji6, ji7, ji8, ji9, ji10, ji11, ji12, ji13, ji14, ji15, ji16, ji19, ji20, ji24, ji31, ji32, ji39, ji45, ji48, ji57, ji58, ji59, ji60, ji97, ji100, ji119, ji120, ji122, ji144, ji200, ji226, ji240, ji255, ji300, ji366, ji400, ji500, ji1000, jI_z, ↓jI_m1, jI_add, jI_sub, jI_mul, jI_lt, ↓Sg0 hs, ↓Sv hs, Sa hs, Su hs, h9, if_true, ej', Int.toNat_natCast, e.1]
    rw [J6_bc e.2]
    simp (disch := omega) only [ji1, ji2, ji3, ji4, ji5, ji6, ji7, ji8, ji9, ji10, ji11, ji12, ji13, ji14, ji15, ji16, ji19, ji20, ji24, ji31, ji32, ji39, ji45, ji48, ji57, ji58, ji59, ji60, ji97, ji100, ji119, ji120, ji122, ji144, ji200, ji226, ji240, ji255, ji300, ji366, ji400, ji500, ji1000, jI_z, ↓jI_m1, jI_add, jI_sub, jI_mul, ↓mo_ns_r, ↓hn0, ↓mo_cs_s, ↓mo_xs_r, ↓mo_xs_l, ↓mo_nl_s, mo_z_0, mo_z_1, ej', es]
    exact ih (i + 1) n (by omega) (by omega)
theorem X5_hm {z s : Nat} {M : hM} {r : Nat → Nat} (hs : isS s = true) (h : RS M s r) : m_X5_howMany (hp S z M) (z + s) = some (jI (sum9 (fun k => pop (r k)) 9 : Nat), hp S z M) := by
  unfold m_X5_howMany
  have h0 : ((sum9 (fun k => pop (r k)) 0 : Nat) : Int) = 0 := rfl
  have h1 := X5_hm_l (S := S) (z := z) hs h 9 0 hN_f (by omega) (by unfold hN_f; omega)
  rw [h0] at h1
  rw [jI_z]; exact h1
theorem X5_aa_l {z s a : Nat} {M0 : hM} {r r' : Nat → Nat} {v : Int} (hs : isS s = true) (ha : isS a = true) (hsa : s ≠ a) : ∀ (d i n : Nat) (M : hM), i + d = 9 → d < n → (∀ k, k < i → gA M (s + 1) k = (r k ||| r' k : Nat)) → (∀ k, i ≤ k → k < 9 → gA M (s + 1) k = r k) → RS M a r' → (∀ k, k < 9 → r k < 65536) → Fr (s + 1) (s + 2) M0 M → Vr M0 M →
    ∃ M', m_X5_addAll_l7 (z + s) (z + a) n (hp S z M) (jI v) (jI i) = some (jI ((sum9 (fun k => pop (r k ||| r' k)) 9 : Nat) - v), hp S z M') ∧ RS M' s (fun k => r k ||| r' k) ∧ Fr (s + 1) (s + 2) M0 M' ∧ Vr M0 M' := by
  intro d
  induction d with
  | zero =>
    intro i n M hi hn hS hS2 hA hr hF hV
    obtain ⟨n, rfl⟩ : ∃ k, n = k + 1 := ⟨n - 1, by omega⟩
    have hi9 : i = 9 := by omega
    subst hi9
    have hR : RS M s (fun k => r k ||| r' k) := fun k hk => ⟨hS k hk, Nat.or_lt_two_pow (n := 16) (hr k hk) (hA k hk).2⟩
    refine ⟨M, ?_, hR, hF, hV⟩
    unfold m_X5_addAll_l7
    have h9 : ¬ ((9 : Nat) : Int) < 9 := by omega
    simp (disch := omega) only [ji1, ji2, ji3, ji4, ji5, ji6, ji7, ji8, ji9, ji10, ji11, ji12, ji13, ji14, ji15, ji16, ji19, ji20, ji24, ji31, ji32, ji39, ji45, ji48, ji57, ji58, ji59, ji60, ji97, ji100, ji119, ji120, ji122, ji144, ji200, ji226, ji240, ji255, ji300, ji366, ji400, ji500, ji1000, jI_z, ↓jI_m1, jI_add, jI_sub, jI_mul, jI_lt, h9, if_false, ↓Sg0 hs, ↓Sv hs, Sa hs, Su hs]
    rw [X5_hm hs hR]
    simp (disch := omega) only [ji1, ji2, ji3, ji4, ji5, ji6, ji7, ji8, ji9, ji10, ji11, ji12, ji13, ji14, ji15, ji16, ji19, ji20, ji24, ji31, ji32, ji39, ji45, ji48, ji57, ji58, ji59, ji60, ji97, ji100, ji119, ji120, ji122, ji144, ji200, ji226, ji240, ji255, ji300, ji366, ji400, ji500, ji1000, jI_z, ↓jI_m1, jI_add, jI_sub, jI_mul, ↓mo_ns_r, ↓hn0, ↓mo_cs_s, ↓mo_xs_r, ↓mo_xs_l, ↓mo_nl_s, mo_z_0, mo_z_1]
  | succ d ih =>
    intro i n M hi hn hS hS2 hA hr hF hV
    obtain ⟨n, rfl⟩ : ∃ k, n = k + 1 := ⟨n - 1, by omega⟩
    have e := hA i (by omega)
    have e0 := hS2 i (Nat.le_refl _) (by omega)
    have hri := hr i (by omega)
    have h9 : (i : Int) < 9 := by omega
    have ej' : (i : Int) + 1 = ((i + 1 : Nat) : Int) := by omega
    obtain ⟨M', r1, r2, r3, r4⟩ := ih (i + 1) n (sA M (s + 1) i ((r i ||| r' i : Nat) : Int)) (by omega) (by omega) (fun k hk => by
        rw [gA_sA]; by_cases hki : k = i
        · rw [if_pos ⟨rfl, hki⟩, hki]
        · rw [if_neg (by omega)]; exact hS k (by omega))
      (fun k hk hk9 => by rw [gA_sA, if_neg (by omega)]; exact hS2 k (by omega) hk9)
      (fun k hk => by rw [gA_sA, if_neg (by omega)]; exact hA k hk) hr (hF.trans (Fr.sA (by omega))) (fun k => by rw [gV_sA]; exact hV k)
    refine ⟨M', ?_, r2, r3, r4⟩
    have hri' := e.2
    unfold m_X5_addAll_l7
    simp (disch := omega) only [ji1, ji2, ji3, ji4, ji5, ji6, ji7, ji8, ji9, ji10, ji11, ji12, ji13, ji14, ji15, ji16, ji19, ji20, ji24, ji31, ji32, ji39, ji45, ji48, ji57, ji58, ji59, ji60, ji97, ji100, ji119, ji120, ji122, ji144, ji200, ji226, ji240, ji255, ji300, ji366, ji400, ji500, ji1000, jI_z, ↓jI_m1, jI_add, jI_sub, jI_mul, jI_lt, ↓Sg0 hs, ↓Sv hs, Sa hs, Su hs, ↓Sg0 ha, ↓Sv ha, Sa ha, Su ha, h9, if_true, ej', Int.toNat_natCast, e.1, e0, jI_or]
    exact r1
theorem X5_aa {z s a : Nat} {M : hM} {r r' : Nat → Nat} (hs : isS s = true) (ha : isS a = true) (hsa : s ≠ a) (h : RS M s r) (hA : RS M a r') :
    ∃ M', m_X5_addAll (hp S z M) (z + s) (z + a) = some (jI ((sum9 (fun k => pop (r k ||| r' k)) 9 : Nat) - (sum9 (fun k => pop (r k)) 9 : Nat)), hp S z M') ∧ RS M' s (fun k => r k ||| r' k) ∧ Fr (s + 1) (s + 2) M M' ∧ Vr M M' := by
  obtain ⟨M', r1, r2, r3, r4⟩ := X5_aa_l (S := S) (z := z) (M0 := M) (v := (sum9 (fun k => pop (r k)) 9 : Nat)) hs ha hsa 9 0 hN_f M (by omega) (by unfold hN_f; omega) (by omega) (fun k _ hk => (h k hk).1) hA (fun k hk => (h k hk).2) Fr.rfl' Vr.rfl'
  refine ⟨M', ?_, r2, r3, r4⟩
  unfold m_X5_addAll
  rw [X5_hm hs h]
  simp (disch := omega) only [↓Sg0 hs, ↓Sv hs, Sa hs, Su hs, ↓mo_ns_r, ↓hn0, ↓mo_cs_s, ↓mo_xs_r, ↓mo_xs_l, ↓mo_nl_s, mo_z_0, mo_z_1]
  rw [Int.natCast_zero] at r1
  rw [jI_z]; exact r1


variable {S : hSh}
/-! .. a whole run of the class. -/
theorem X2_begin_l {z : Nat} {M0 : hM} : ∀ (d i n : Nat) (M : hM), i + d = 226 → d < n → (∀ k, k < i → gA M 24 k = 0) → (∀ a k, gI M a k = gI M0 a k) → (∀ a k, a ≠ 24 → gA M a k = gA M0 a k) → Vr M0 M →
    ∃ M', m_X2_begin_l12 (z + 16) n (hp S z M) (jI i) = some ((), hp S z M') ∧ (∀ k, k < 226 → gA M' 24 k = 0) ∧ (∀ a k, gI M' a k = gI M0 a k) ∧ (∀ a k, a ≠ 24 → gA M' a k = gA M0 a k) ∧ Vr M0 M' := by
  intro d
  induction d with
  | zero =>
    intro i n M hi hn h1 h2 h3 h4
    obtain ⟨n, rfl⟩ : ∃ k, n = k + 1 := ⟨n - 1, by omega⟩
    have hi9 : i = 226 := by omega
    subst hi9
    refine ⟨M, ?_, h1, h2, h3, h4⟩
    unfold m_X2_begin_l12
    have h9 : ¬ ((226 : Nat) : Int) < 226 := by omega
    simp (disch := omega) only [ji1, ji2, ji3, ji4, ji5, ji6, ji7, ji8, ji9, ji10, ji11, ji12, ji13, ji14, ji15, ji16, ji19, ji20, ji24, ji31, ji32, ji39, ji45, ji48, ji57, ji58, ji59, ji60, ji97, ji100, ji119, ji120, ji122, ji144, ji200, ji226, ji240, ji255, ji300, ji366, ji400, ji500, ji1000, jI_z, ↓jI_m1, jI_add, jI_sub, jI_mul, jI_lt, h9, if_false]
  | succ d ih =>
    intro i n M hi hn h1 h2 h3 h4
    obtain ⟨n, rfl⟩ : ∃ k, n = k + 1 := ⟨n - 1, by omega⟩
    obtain ⟨M', r1, r2⟩ := ih (i + 1) n (sA M 24 i 0) (by omega) (by omega) (fun k hk => by
        rw [gA_sA]; by_cases hki : k = i
        · rw [if_pos ⟨rfl, hki⟩]
        · rw [if_neg (by omega)]; exact h1 k (by omega)) (fun a k => h2 a k) (fun a k ha => by rw [gA_sA, if_neg (by omega)]; exact h3 a k ha) h4
    refine ⟨M', ?_, r2⟩
    have h9 : (i : Int) < 226 := by omega
    have ej' : (i : Int) + 1 = ((i + 1 : Nat) : Int) := by omega
    unfold m_X2_begin_l12
    simp (disch := omega) only [ji1, ji2, ji3, ji4, ji5, ji6, ji7, ji8, ji9, ji10, ji11, ji12, ji13, ji14, ji15, ji16, ji19, ji20, ji24, ji31, ji32, ji39, ji45, ji48, ji57, ji58, ji59, ji60, ji97, ji100, ji119, ji120, ji122, ji144, ji200, ji226, ji240, ji255, ji300, ji366, ji400, ji500, ji1000, jI_z, ↓jI_m1, jI_add, jI_sub, jI_mul, jI_lt, ↓hg16_0, ↓hg16_1, ↓hg16_2, ↓hg16_3, ↓hg16_4, ↓hg16_5, hw16_5, ↓hg16_6, ↓hg16_7, ↓hg16_8, ↓hg16_9, ↓hg16_10, hw16_10, ↓hv16, ↓hx16, ha17, hu17, ↓hl17, ha18, hu18, ↓hl18, ha19, hu19, ↓hl19, ha20, hu20, ↓hl20, ha21, hu21, ↓hl21, ha22, hu22, ↓hl22, ha23, hu23, ↓hl23, ha24, hu24, ↓hl24, ha25, hu25, ↓hl25, h9, if_true, ej', Int.toNat_natCast]
    exact r1
theorem X2_begin {z : Nat} {M : hM} : ∃ M', m_X2_begin (hp S z M) (z + 16) = some ((), hp S z M') ∧ LR M' [] 0 0 ∧ Fr 16 26 M M' ∧ Vr M M' := by
  obtain ⟨M', r1, r2, r3, r4, r5⟩ := X2_begin_l (S := S) (z := z) (M0 := sI (sI M 16 5 0) 16 10 0) 226 0 hN_f (sI (sI M 16 5 0) 16 10 0) (by omega) (by unfold hN_f; omega) (by omega) (fun _ _ => rfl) (fun _ _ _ => rfl) (fun _ => rfl)
  refine ⟨M', ?_, ⟨⟨by rw [r3]; simp [gI_sI], fun k x hk => by simp at hk⟩, fun u hu => ⟨by rw [r2 u hu]; rfl, fun i a b h => by simp [qL] at h, fun a h => by simp [qL] at h, fun i a h => by simp [qL] at h⟩, by rw [r3]; simp [gI_sI, pnd, cnt]⟩, fun a ha => ⟨fun k => ?_, fun k => ?_⟩, fun k => r5 k⟩
  · unfold m_X2_begin
    simp (disch := omega) only [ji1, ji2, ji3, ji4, ji5, ji6, ji7, ji8, ji9, ji10, ji11, ji12, ji13, ji14, ji15, ji16, ji19, ji20, ji24, ji31, ji32, ji39, ji45, ji48, ji57, ji58, ji59, ji60, ji97, ji100, ji119, ji120, ji122, ji144, ji200, ji226, ji240, ji255, ji300, ji366, ji400, ji500, ji1000, jI_z, ↓jI_m1, jI_add, jI_sub, jI_mul, ↓hg16_0, ↓hg16_1, ↓hg16_2, ↓hg16_3, ↓hg16_4, ↓hg16_5, hw16_5, ↓hg16_6, ↓hg16_7, ↓hg16_8, ↓hg16_9, ↓hg16_10, hw16_10, ↓hv16, ↓hx16, ha17, hu17, ↓hl17, ha18, hu18, ↓hl18, ha19, hu19, ↓hl19, ha20, hu20, ↓hl20, ha21, hu21, ↓hl21, ha22, hu22, ↓hl22, ha23, hu23, ↓hl23, ha24, hu24, ↓hl24, ha25, hu25, ↓hl25]
    exact r1
  · have : ¬ a = 16 := by omega
    rw [r3]; simp [gI_sI, this]
  · rw [r4 a k (by omega)]; rfl
theorem X1_begin {z : Nat} {M : hM} {c : hCf} (hc : okC c) : ∃ M', m_X1_begin (hp S z M) (z + 26) (jI (c.1 1)) = some ((), hp S z M') ∧ DR M' c [] (-1) ∧ Fr 26 28 M M' ∧ Vr M M' := by
  have hcs := hc.s
  have hp2 : (2 : Nat) ^ (c.1 1).toNat ≤ 2 ^ 8 := Nat.pow_le_pow_right (by omega) (by omega)
  have hp1 : 1 ≤ (2 : Nat) ^ (c.1 1).toNat := Nat.one_le_two_pow
  refine ⟨sI (sI (sI (sI (sI (sI (sI M 26 1 0) 26 2 (((2 ^ (c.1 1).toNat : Nat) : Int) - 1)) 26 3 0) 26 4 (-1)) 26 5 0) 26 6 0) 26 7 (-1), ?_, ⟨by simp [gI_sI], fun k x hk => by simp at hk, by show ((2 ^ (c.1 1).toNat : Nat) : Int) - 1 = _; omega, by simp [gI_sI, seenM], by simp [gI_sI, grO], by simp [gI_sI, dbO, b2i], by simp [gI_sI, diO, b2i], by simp [gI_sI]⟩, ?_, fun k => rfl⟩
  · unfold m_X1_begin
    simp (disch := omega) only [ji1, ji2, ji3, ji4, ji5, ji6, ji7, ji8, ji9, ji10, ji11, ji12, ji13, ji14, ji15, ji16, ji19, ji20, ji24, ji31, ji32, ji39, ji45, ji48, ji57, ji58, ji59, ji60, ji97, ji100, ji119, ji120, ji122, ji144, ji200, ji226, ji240, ji255, ji300, ji366, ji400, ji500, ji1000, jI_z, ↓jI_m1, jI_add, jI_sub, jI_mul, jS, ↓hg26_0, ↓hg26_1, hw26_1, ↓hg26_2, hw26_2, ↓hg26_3, hw26_3, ↓hg26_4, hw26_4, ↓hg26_5, hw26_5, ↓hg26_6, hw26_6, ↓hg26_7, hw26_7, ↓hv26, ↓hx26, ha27, hu27, ↓hl27, ↓mo_ns_r, ↓hn0, ↓mo_cs_s, ↓mo_xs_r, ↓mo_xs_l, ↓mo_nl_s, mo_z_0, mo_z_1]
  · exact (((Fr.sI (by omega)).trans (Fr.sI (by omega))).trans ((Fr.sI (by omega)).trans (Fr.sI (by omega)))).trans (((Fr.sI (by omega)).trans (Fr.sI (by omega))).trans (Fr.sI (by omega)))
/-- a run begins -/
theorem X4_begin {z b : Nat} {M : hM} {c : hCf} (hb : b = 1 ∨ b = 8) (hB : BR M b c) (hc : okC c) : ∃ M', m_X4_begin (hp S z M) (z + 15) (z + b) = some ((), hp S z M') ∧ CR M' c b 0 0 z0 ∧ gI M' 15 14 = 0 ∧ Fr 15 30 M M' ∧ (∀ k, k ≠ 0 → gV M' k = gV M k) := by
  have hB' := is18 hb
  have hcs := hc.s
  have hset : ∀ (M1 : hM) (k : Nat), k < 8 → (∀ i, gA M1 (b + 1) i = gA M (b + 1) i) → m_X0_setting (hp S z M1) (z + b) (jI k) = some (jI (c.1 k), hp S z M1) := by
    intro M1 k hk h1
    rw [X0_setting hB' (by omega) (by omega), h1, Int.toNat_natCast, hB.1 k hk]
  have j60 : ∀ (M1 : hM) (sg : Int), (c.1 0 ≠ 0 → sg = zSg c) → gV M1 0 = b → BR M1 b c → gI M1 15 4 = c.1 0 → gI M1 15 5 = c.1 1 → gI M1 15 6 = c.1 4 → gI M1 15 7 = c.1 5 →
      ∃ M', m_X4_begin_j60 (z + 15) (hp S z M1) (jI sg) (z + 15) = some ((), hp S z M') ∧ CR M' c b 0 0 z0 ∧ gI M' 15 14 = 0 ∧ Fr 15 30 M1 M' ∧ Vr M1 M' := by
    intro M1 sg h1 h2 h3 h4 h5 h6 h7
    generalize hM2 : sI (sI (sI (sI (sI (sI (sI M1 15 8 sg) 15 9 0) 15 10 0) 15 11 0) 15 12 0) 15 13 0) 15 14 0 = M2
    obtain ⟨M3, r1, r2, r3, r4⟩ := X2_begin (S := S) (z := z) (M := M2)
    obtain ⟨M4, s1, s2, s3, s4⟩ := X1_begin (S := S) (z := z) (M := M3) hc
    obtain ⟨M5, t1, t2, t3, t4⟩ := X5_ra (S := S) (z := z) (s := 28) (M := M4) rfl
    have hF2 : Fr 15 16 M1 M2 := by
      rw [← hM2]
      exact (((Fr.sI (by omega)).trans (Fr.sI (by omega))).trans ((Fr.sI (by omega)).trans (Fr.sI (by omega)))).trans (((Fr.sI (by omega)).trans (Fr.sI (by omega))).trans (Fr.sI (by omega)))
    have e15 : ∀ k, gI M5 15 k = gI M2 15 k := fun k => by rw [(t3 15 (by omega)).1, (s3 15 (by omega)).1, (r3 15 (by omega)).1]
    have hF : Fr 15 30 M1 M5 := (((hF2.mono (by omega) (by omega)).trans (r3.mono (by omega) (by omega))).trans (s3.mono (by omega) (by omega))).trans (t3.mono (by omega) (by omega))
    have hV2 : Vr M1 M2 := by rw [← hM2]; exact fun _ => rfl
    have e3 : gI M3 15 5 = c.1 1 := by rw [(r3 15 (by omega)).1, ← hM2]; simp [gI_sI, h5]
    refine ⟨M5, ?_, ⟨⟨?_, h3.keep hF (by omega), ?_, ?_, ?_, ?_, fun h => ?_⟩, ?_, ?_, ?_, ⟨fun _ => Or.inl ⟨?_, rfl⟩, fun _ h => absurd h (by decide)⟩, (r2.keep s3 (by omega)).keep t3 (by omega), s2.keep t3 (by omega), t2⟩, ?_, hF, ((hV2.trans r4).trans s4).trans t4⟩
    · unfold m_X4_begin_j60
      simp (disch := omega) only [ji1, ji2, ji3, ji4, ji5, ji6, ji7, ji8, ji9, ji10, ji11, ji12, ji13, ji14, ji15, ji16, ji19, ji20, ji24, ji31, ji32, ji39, ji45, ji48, ji57, ji58, ji59, ji60, ji97, ji100, ji119, ji120, ji122, ji144, ji200, ji226, ji240, ji255, ji300, ji366, ji400, ji500, ji1000, jI_z, ↓jI_m1, jI_add, jI_sub, jI_mul, ↓hg15_0, ↓hg15_1, ↓hg15_2, ↓hg15_3, hw15_3, ↓hg15_4, hw15_4, ↓hg15_5, hw15_5, ↓hg15_6, hw15_6, ↓hg15_7, hw15_7, ↓hg15_8, hw15_8, ↓hg15_9, hw15_9, ↓hg15_10, hw15_10, ↓hg15_11, hw15_11, ↓hg15_12, hw15_12, ↓hg15_13, hw15_13, ↓hg15_14, hw15_14, ↓hv15, ↓hx15, ha29, hu29, ↓hl29, ↓mo_ns_r, ↓hn0, ↓mo_cs_s, ↓mo_xs_r, ↓mo_xs_l, ↓mo_nl_s, mo_z_0, mo_z_1, hM2, ↓hg16_0, ↓hg16_1, ↓hg16_2, ↓hg16_3, ↓hg16_4, ↓hg16_5, hw16_5, ↓hg16_6, ↓hg16_7, ↓hg16_8, ↓hg16_9, ↓hg16_10, hw16_10, ↓hv16, ↓hx16, ha17, hu17, ↓hl17, ha18, hu18, ↓hl18, ha19, hu19, ↓hl19, ha20, hu20, ↓hl20, ha21, hu21, ↓hl21, ha22, hu22, ↓hl22, ha23, hu23, ↓hl23, ha24, hu24, ↓hl24, ha25, hu25, ↓hl25]
      rw [r1]
      simp (disch := omega) only [ji1, ji2, ji3, ji4, ji5, ji6, ji7, ji8, ji9, ji10, ji11, ji12, ji13, ji14, ji15, ji16, ji19, ji20, ji24, ji31, ji32, ji39, ji45, ji48, ji57, ji58, ji59, ji60, ji97, ji100, ji119, ji120, ji122, ji144, ji200, ji226, ji240, ji255, ji300, ji366, ji400, ji500, ji1000, jI_z, ↓jI_m1, jI_add, jI_sub, jI_mul, ↓hg15_0, ↓hg15_1, ↓hg15_2, ↓hg15_3, hw15_3, ↓hg15_4, hw15_4, ↓hg15_5, hw15_5, ↓hg15_6, hw15_6, ↓hg15_7, hw15_7, ↓hg15_8, hw15_8, ↓hg15_9, hw15_9, ↓hg15_10, hw15_10, ↓hg15_11, hw15_11, ↓hg15_12, hw15_12, ↓hg15_13, hw15_13, ↓hg15_14, hw15_14, ↓hv15, ↓hx15, ha29, hu29, ↓hl29, ↓mo_ns_r, ↓hn0, ↓mo_cs_s, ↓mo_xs_r, ↓mo_xs_l, ↓mo_nl_s, mo_z_0, mo_z_1, e3, ↓hg26_0, ↓hg26_1, hw26_1, ↓hg26_2, hw26_2, ↓hg26_3, hw26_3, ↓hg26_4, hw26_4, ↓hg26_5, hw26_5, ↓hg26_6, hw26_6, ↓hg26_7, hw26_7, ↓hv26, ↓hx26, ha27, hu27, ↓hl27]
      rw [s1]
      simp (disch := omega) only [ji1, ji2, ji3, ji4, ji5, ji6, ji7, ji8, ji9, ji10, ji11, ji12, ji13, ji14, ji15, ji16, ji19, ji20, ji24, ji31, ji32, ji39, ji45, ji48, ji57, ji58, ji59, ji60, ji97, ji100, ji119, ji120, ji122, ji144, ji200, ji226, ji240, ji255, ji300, ji366, ji400, ji500, ji1000, jI_z, ↓jI_m1, jI_add, jI_sub, jI_mul, ↓hg15_0, ↓hg15_1, ↓hg15_2, ↓hg15_3, hw15_3, ↓hg15_4, hw15_4, ↓hg15_5, hw15_5, ↓hg15_6, hw15_6, ↓hg15_7, hw15_7, ↓hg15_8, hw15_8, ↓hg15_9, hw15_9, ↓hg15_10, hw15_10, ↓hg15_11, hw15_11, ↓hg15_12, hw15_12, ↓hg15_13, hw15_13, ↓hg15_14, hw15_14, ↓hv15, ↓hx15, ha29, hu29, ↓hl29, ↓mo_ns_r, ↓hn0, ↓mo_cs_s, ↓mo_xs_r, ↓mo_xs_l, ↓mo_nl_s, mo_z_0, mo_z_1, ↓Sv (b := 28) rfl]
      rw [t1]; rfl
    · rw [t4, s4, r4, hV2, h2]
    · rw [e15, ← hM2]; simp [gI_sI, h4]
    · rw [e15, ← hM2]; simp [gI_sI, h5]
    · rw [e15, ← hM2]; simp [gI_sI, h6]
    · rw [e15, ← hM2]; simp [gI_sI, h7]
    · rw [e15, ← hM2]; simp [gI_sI, h1 h]
    · rw [e15, ← hM2]; simp [gI_sI]
    · rw [e15, ← hM2]; simp [gI_sI]
    · rw [e15, ← hM2]; simp [gI_sI]
    · rw [e15, ← hM2]; simp [gI_sI]
    · rw [e15, ← hM2]; simp [gI_sI]
  generalize hM1 : sI (sI (sI (sI (sV M 0 b) 15 4 (c.1 0)) 15 5 (c.1 1)) 15 6 (c.1 4)) 15 7 (c.1 5) = M1
  have hF1 : Fr 15 16 M M1 := by
    rw [← hM1]
    have : Fr 15 16 M (sV M 0 b) := fun a ha => ⟨fun k => gI_sV, fun k => gA_sV⟩
    exact ((this.trans (Fr.sI (by omega))).trans (Fr.sI (by omega))).trans ((Fr.sI (by omega)).trans (Fr.sI (by omega)))
  have h40 : gI M1 15 4 = c.1 0 := by rw [← hM1]; simp [gI_sI]
  have step : ∃ sg, (c.1 0 ≠ 0 → sg = zSg c) ∧ m_X4_begin (hp S z M) (z + 15) (z + b) = m_X4_begin_j60 (z + 15) (hp S z M1) (jI sg) (z + 15) := by
    have q0 := hset (sV M 0 b) 0 (by omega) (fun i => rfl)
    have q1 := hset (sI (sV M 0 b) 15 4 (c.1 0)) 1 (by omega) (fun i => rfl)
    have q4 := hset (sI (sI (sV M 0 b) 15 4 (c.1 0)) 15 5 (c.1 1)) 4 (by omega) (fun i => rfl)
    have q5 := hset (sI (sI (sI (sV M 0 b) 15 4 (c.1 0)) 15 5 (c.1 1)) 15 6 (c.1 4)) 5 (by omega) (fun i => rfl)
    have q6 := hset M1 6 (by omega) (fun i => by rw [← hM1]; rfl)
    simp only [Int.natCast_zero, show ((1 : Nat) : Int) = 1 from rfl, show ((4 : Nat) : Int) = 4 from rfl, show ((5 : Nat) : Int) = 5 from rfl, show ((6 : Nat) : Int) = 6 from rfl] at q0 q1 q4 q5 q6
    have pre : ∀ r, (if jI (c.1 0) = jI 2 then (mo_cv (hp S z M1) (z + b) 0 (m_X0_setting (hp S z M1) (z + b) (jI 6)) fun x16 σ15 => m_X4_begin_j60 (z + 15) σ15 x16 (z + 15)) else m_X4_begin_j60 (z + 15) (hp S z M1) (jI 2) (z + 15)) = r → m_X4_begin (hp S z M) (z + 15) (z + b) = r := by
      intro r hr
      rw [← hr]
      unfold m_X4_begin
      simp (disch := omega) only [ji1, ji2, ji3, ji4, ji5, ji6, ji7, ji8, ji9, ji10, ji11, ji12, ji13, ji14, ji15, ji16, ji19, ji20, ji24, ji31, ji32, ji39, ji45, ji48, ji57, ji58, ji59, ji60, ji97, ji100, ji119, ji120, ji122, ji144, ji200, ji226, ji240, ji255, ji300, ji366, ji400, ji500, ji1000, jI_z, ↓jI_m1, jI_add, jI_sub, jI_mul, ↓hg15_0, ↓hg15_1, ↓hg15_2, ↓hg15_3, hw15_3, ↓hg15_4, hw15_4, ↓hg15_5, hw15_5, ↓hg15_6, hw15_6, ↓hg15_7, hw15_7, ↓hg15_8, hw15_8, ↓hg15_9, hw15_9, ↓hg15_10, hw15_10, ↓hg15_11, hw15_11, ↓hg15_12, hw15_12, ↓hg15_13, hw15_13, ↓hg15_14, hw15_14, ↓hv15, ↓hx15, ha29, hu29, ↓hl29, ↓Bg0 hB', ↓Bg1 hB', ↓Bg2 hB', ↓Bg3 hB', ↓Bg5 hB', ↓Bg4 hB', Bw4 hB', ↓Bv hB', Ba1 hB', Bu1 hB', Ba2 hB', Bu2 hB', Ba3 hB', Bu3 hB', Ba4 hB', Bu4 hB']
      rw [q0]
      simp (disch := omega) only [↓mo_ns_r, ↓hn0, ↓mo_cs_s, ↓mo_xs_r, ↓mo_xs_l, ↓mo_nl_s, mo_z_0, mo_z_1, ↓hg15_0, ↓hg15_1, ↓hg15_2, ↓hg15_3, hw15_3, ↓hg15_4, hw15_4, ↓hg15_5, hw15_5, ↓hg15_6, hw15_6, ↓hg15_7, hw15_7, ↓hg15_8, hw15_8, ↓hg15_9, hw15_9, ↓hg15_10, hw15_10, ↓hg15_11, hw15_11, ↓hg15_12, hw15_12, ↓hg15_13, hw15_13, ↓hg15_14, hw15_14, ↓hv15, ↓hx15, ha29, hu29, ↓hl29, ↓Bg0 hB', ↓Bg1 hB', ↓Bg2 hB', ↓Bg3 hB', ↓Bg5 hB', ↓Bg4 hB', Bw4 hB', ↓Bv hB', Ba1 hB', Bu1 hB', Ba2 hB', Bu2 hB', Ba3 hB', Bu3 hB', Ba4 hB', Bu4 hB']
      rw [q1]
      simp (disch := omega) only [↓mo_ns_r, ↓hn0, ↓mo_cs_s, ↓mo_xs_r, ↓mo_xs_l, ↓mo_nl_s, mo_z_0, mo_z_1, ↓hg15_0, ↓hg15_1, ↓hg15_2, ↓hg15_3, hw15_3, ↓hg15_4, hw15_4, ↓hg15_5, hw15_5, ↓hg15_6, hw15_6, ↓hg15_7, hw15_7, ↓hg15_8, hw15_8, ↓hg15_9, hw15_9, ↓hg15_10, hw15_10, ↓hg15_11, hw15_11, ↓hg15_12, hw15_12, ↓hg15_13, hw15_13, ↓hg15_14, hw15_14, ↓hv15, ↓hx15, ha29, hu29, ↓hl29, ↓Bg0 hB', ↓Bg1 hB', ↓Bg2 hB', ↓Bg3 hB', ↓Bg5 hB', ↓Bg4 hB', Bw4 hB', ↓Bv hB', Ba1 hB', Bu1 hB', Ba2 hB', Bu2 hB', Ba3 hB', Bu3 hB', Ba4 hB', Bu4 hB']
      rw [q4]
      simp (disch := omega) only [↓mo_ns_r, ↓hn0, ↓mo_cs_s, ↓mo_xs_r, ↓mo_xs_l, ↓mo_nl_s, mo_z_0, mo_z_1, ↓hg15_0, ↓hg15_1, ↓hg15_2, ↓hg15_3, hw15_3, ↓hg15_4, hw15_4, ↓hg15_5, hw15_5, ↓hg15_6, hw15_6, ↓hg15_7, hw15_7, ↓hg15_8, hw15_8, ↓hg15_9, hw15_9, ↓hg15_10, hw15_10, ↓hg15_11, hw15_11, ↓hg15_12, hw15_12, ↓hg15_13, hw15_13, ↓hg15_14, hw15_14, ↓hv15, ↓hx15, ha29, hu29, ↓hl29, ↓Bg0 hB', ↓Bg1 hB', ↓Bg2 hB', ↓Bg3 hB', ↓Bg5 hB', ↓Bg4 hB', Bw4 hB', ↓Bv hB', Ba1 hB', Bu1 hB', Ba2 hB', Bu2 hB', Ba3 hB', Bu3 hB', Ba4 hB', Bu4 hB']
      rw [q5]
      simp (disch := omega) only [↓mo_ns_r, ↓hn0, ↓mo_cs_s, ↓mo_xs_r, ↓mo_xs_l, ↓mo_nl_s, mo_z_0, mo_z_1, ↓hg15_0, ↓hg15_1, ↓hg15_2, ↓hg15_3, hw15_3, ↓hg15_4, hw15_4, ↓hg15_5, hw15_5, ↓hg15_6, hw15_6, ↓hg15_7, hw15_7, ↓hg15_8, hw15_8, ↓hg15_9, hw15_9, ↓hg15_10, hw15_10, ↓hg15_11, hw15_11, ↓hg15_12, hw15_12, ↓hg15_13, hw15_13, ↓hg15_14, hw15_14, ↓hv15, ↓hx15, ha29, hu29, ↓hl29, ↓Bg0 hB', ↓Bg1 hB', ↓Bg2 hB', ↓Bg3 hB', ↓Bg5 hB', ↓Bg4 hB', Bw4 hB', ↓Bv hB', Ba1 hB', Bu1 hB', Ba2 hB', Bu2 hB', Ba3 hB', Bu3 hB', Ba4 hB', Bu4 hB', hM1, h40]
    by_cases g : c.1 0 = 2
    · refine ⟨c.1 6, fun _ => by unfold zSg; rw [if_neg (by omega)], pre _ ?_⟩
      rw [if_pos (by rw [g])]
      simp (disch := omega) only [↓Bg0 hB', ↓Bg1 hB', ↓Bg2 hB', ↓Bg3 hB', ↓Bg5 hB', ↓Bg4 hB', Bw4 hB', ↓Bv hB', Ba1 hB', Bu1 hB', Ba2 hB', Bu2 hB', Ba3 hB', Bu3 hB', Ba4 hB', Bu4 hB']
      rw [q6]; rfl
    · refine ⟨2, fun h => by unfold zSg; rw [if_pos (by omega)], pre _ ?_⟩
      rw [if_neg (by rw [jI_eq (by omega) (by omega) (by omega) (by omega)]; exact g)]
  obtain ⟨sg, k1, k2⟩ := step
  obtain ⟨M', r1, r2, r3, r4, r5⟩ := j60 M1 sg k1 (by rw [← hM1]; simp [gV_sI, gV_sV]) (hB.keep hF1 (by omega)) h40 (by rw [← hM1]; simp [gI_sI]) (by rw [← hM1]; simp [gI_sI]) (by rw [← hM1]; simp [gI_sI])
  exact ⟨M', by rw [k2]; exact r1, r2, r3, (hF1.mono (by omega) (by omega)).trans r4, fun k hk => by rw [r5, ← hM1]; simp [gV_sI, gV_sV, hk]⟩
/-- the promises that a run breaks -/
def zBrk (c : hCf) (s : hS) (p : Nat) : Bool := match p with
  | 0 => decide (s.2.2.2.2.2.2.2 = -1)
  | 1 => dbO s.2.1 0
  | 2 => diO s.2.1 (-1)
  | _ => decide (s.2.2.2.2.2.2.2 = -1 ∨ c.1 7 < s.2.2.2.2.2.2.2)
def zBits (c : hCf) (s : hS) : Nat := (if zBrk c s 0 = true then 1 else 0) ||| (if zBrk c s 1 = true then 2 else 0) ||| (if zBrk c s 2 = true then 4 else 0) ||| (if zBrk c s 3 = true then 8 else 0)
theorem X1_broken {z : Nat} {M : hM} {c : hCf} {s : hS} (hc : okC c) (h : DR M c s.2.1 s.2.2.2.2.2.2.2) (hC : -1 ≤ s.2.2.2.2.2.2.2 ∧ s.2.2.2.2.2.2.2 ≤ 200) : m_X1_broken (hp S z M) (z + 26) (jI (c.1 7)) = some (jI (zBits c s : Nat), hp S z M) := by
  have hcs := hc.s
  obtain ⟨h1, h2, h3, h4, h5, h6, h7, h8⟩ := h
  have j42 : ∀ w9 w10 : Nat, w9 < 16 → w10 < 16 → m_X1_broken_j42 (z + 26) (jI (c.1 7)) (hp S z M) (jI w9) (jI w10) = some (jI ((w10 ||| w9 ||| (if zBrk c s 3 = true then 8 else 0) : Nat)), hp S z M) := by
    intro w9 w10 k1 k2
    have k3 : w10 ||| w9 < 2 ^ 4 := Nat.or_lt_two_pow k2 k1
    have e8 : jI 8 = jI ((8 : Nat) : Int) := rfl
    have e0 : jI 0 = jI ((0 : Nat) : Int) := rfl
    unfold m_X1_broken_j42 zBrk
    simp (disch := omega) only [ji1, ji2, ji3, ji4, ji5, ji6, ji7, ji8, ji9, ji10, ji11, ji12, ji13, ji14, ji15, ji16, ji19, ji20, ji24, ji31, ji32, ji39, ji45, ji48, ji57, ji58, ji59, ji60, ji97, ji100, ji119, ji120, ji122, ji144, ji200, ji226, ji240, ji255, ji300, ji366, ji400, ji500, ji1000, jI_z, ↓jI_m1, jI_add, jI_sub, jI_mul, jI_eq, jI_lt, ↓hg26_0, ↓hg26_1, hw26_1, ↓hg26_2, hw26_2, ↓hg26_3, hw26_3, ↓hg26_4, hw26_4, ↓hg26_5, hw26_5, ↓hg26_6, hw26_6, ↓hg26_7, hw26_7, ↓hv26, ↓hx26, ha27, hu27, ↓hl27, h8, decide_eq_true_eq]
    by_cases g1 : s.2.2.2.2.2.2.2 = -1
    · rw [if_pos g1, if_pos (Or.inl g1), jI_or (by omega) (by omega), e8, jI_or (by omega) (by omega)]
    · by_cases g2 : c.1 7 < s.2.2.2.2.2.2.2
      · rw [if_neg g1, if_pos g2, if_pos (Or.inr g2), jI_or (by omega) (by omega), e8, jI_or (by omega) (by omega)]
      · rw [if_neg g1, if_neg g2, if_neg (by omega), jI_or (by omega) (by omega), e0, jI_or (by omega) (by omega)]
  have j27 : ∀ w5 w6 : Nat, w5 < 16 → w6 < 16 → m_X1_broken_j27 (z + 26) (jI (c.1 7)) (hp S z M) (jI w5) (jI w6) = some (jI ((w6 ||| w5 ||| (if zBrk c s 2 = true then 4 else 0) ||| (if zBrk c s 3 = true then 8 else 0) : Nat)), hp S z M) := by
    intro w5 w6 k1 k2
    have k3 : w6 ||| w5 < 2 ^ 4 := Nat.or_lt_two_pow k2 k1
    have e4 : jI 4 = jI ((4 : Nat) : Int) := rfl
    have e0 : jI 0 = jI ((0 : Nat) : Int) := rfl
    unfold m_X1_broken_j27
    simp (disch := omega) only [ji1, ji2, ji3, ji4, ji5, ji6, ji7, ji8, ji9, ji10, ji11, ji12, ji13, ji14, ji15, ji16, ji19, ji20, ji24, ji31, ji32, ji39, ji45, ji48, ji57, ji58, ji59, ji60, ji97, ji100, ji119, ji120, ji122, ji144, ji200, ji226, ji240, ji255, ji300, ji366, ji400, ji500, ji1000, jI_z, ↓jI_m1, jI_add, jI_sub, jI_mul, ↓hg26_0, ↓hg26_1, hw26_1, ↓hg26_2, hw26_2, ↓hg26_3, hw26_3, ↓hg26_4, hw26_4, ↓hg26_5, hw26_5, ↓hg26_6, hw26_6, ↓hg26_7, hw26_7, ↓hv26, ↓hx26, ha27, hu27, ↓hl27, h7]
    show _ = some (jI ((w6 ||| w5 ||| (if diO s.2.1 (-1) = true then 4 else 0) ||| (if zBrk c s 3 = true then 8 else 0) : Nat)), hp S z M)
    by_cases g1 : diO s.2.1 (-1) = true
    · rw [if_neg (by rw [g1]; decide), if_pos g1, jI_or (by omega) (by omega), e4, j42 _ _ (by omega) (by omega)]
    · rw [if_pos (by unfold b2i; rw [if_neg g1]), if_neg g1, jI_or (by omega) (by omega), e0, j42 _ _ (by omega) (by omega)]
  have j13 : ∀ w2 : Nat, w2 < 16 → m_X1_broken_j13 (z + 26) (jI (c.1 7)) (hp S z M) (jI w2) = some (jI ((w2 ||| (if zBrk c s 1 = true then 2 else 0) ||| (if zBrk c s 2 = true then 4 else 0) ||| (if zBrk c s 3 = true then 8 else 0) : Nat)), hp S z M) := by
    intro w2 k1
    have e2 : jI 2 = jI ((2 : Nat) : Int) := rfl
    have e0 : jI 0 = jI ((0 : Nat) : Int) := rfl
    unfold m_X1_broken_j13
    simp (disch := omega) only [ji1, ji2, ji3, ji4, ji5, ji6, ji7, ji8, ji9, ji10, ji11, ji12, ji13, ji14, ji15, ji16, ji19, ji20, ji24, ji31, ji32, ji39, ji45, ji48, ji57, ji58, ji59, ji60, ji97, ji100, ji119, ji120, ji122, ji144, ji200, ji226, ji240, ji255, ji300, ji366, ji400, ji500, ji1000, jI_z, ↓jI_m1, jI_add, jI_sub, jI_mul, ↓hg26_0, ↓hg26_1, hw26_1, ↓hg26_2, hw26_2, ↓hg26_3, hw26_3, ↓hg26_4, hw26_4, ↓hg26_5, hw26_5, ↓hg26_6, hw26_6, ↓hg26_7, hw26_7, ↓hv26, ↓hx26, ha27, hu27, ↓hl27, h6]
    show _ = some (jI ((w2 ||| (if dbO s.2.1 0 = true then 2 else 0) ||| (if zBrk c s 2 = true then 4 else 0) ||| (if zBrk c s 3 = true then 8 else 0) : Nat)), hp S z M)
    by_cases g1 : dbO s.2.1 0 = true
    · rw [if_neg (by rw [g1]; decide), if_pos g1, e2, j27 _ _ (by omega) k1]
    · rw [if_pos (by unfold b2i; rw [if_neg g1]), if_neg g1, e0, j27 _ _ (by omega) k1]
  have e1 : jI 1 = jI ((1 : Nat) : Int) := rfl
  have e0 : jI 0 = jI ((0 : Nat) : Int) := rfl
  unfold m_X1_broken zBits
  simp (disch := omega) only [ji1, ji2, ji3, ji4, ji5, ji6, ji7, ji8, ji9, ji10, ji11, ji12, ji13, ji14, ji15, ji16, ji19, ji20, ji24, ji31, ji32, ji39, ji45, ji48, ji57, ji58, ji59, ji60, ji97, ji100, ji119, ji120, ji122, ji144, ji200, ji226, ji240, ji255, ji300, ji366, ji400, ji500, ji1000, jI_z, ↓jI_m1, jI_add, jI_sub, jI_mul, jI_eq, ↓hg26_0, ↓hg26_1, hw26_1, ↓hg26_2, hw26_2, ↓hg26_3, hw26_3, ↓hg26_4, hw26_4, ↓hg26_5, hw26_5, ↓hg26_6, hw26_6, ↓hg26_7, hw26_7, ↓hv26, ↓hx26, ha27, hu27, ↓hl27, h8]
  by_cases g1 : s.2.2.2.2.2.2.2 = -1
  · have g1' : zBrk c s 0 = true := by unfold zBrk; simp [g1]
    rw [if_pos g1, if_pos g1', e1, j13 _ (by omega)]
  · have g1' : ¬ zBrk c s 0 = true := by unfold zBrk; simp [g1]
    rw [if_neg g1, if_neg g1', e0, j13 _ (by omega)]


variable {S : hSh}
/-! THE LAW'S BENCH: settings drawn, their text. -/
def BX (S : hSh) (M : hM) (b g p n : Nat) (t : List Int) (B : Nat) (o : Nat → Nat) (E : Nat → Int) : Prop :=
  BB S M b (p + 6) n t t.length ∧ t.length ≤ B ∧ lA S (p + 5) 0 8 ∧ (∀ k, k < 8 → gA M (p + 5) k = o k) ∧ lA S g 0 1 ∧ isP S p ∧ PE M p (fun k => o k) E ∧ (133 ≤ g ∧ g < b ∧ b + 2 ≤ p)
def BG (b g lo : Nat) (M M' : hM) : Prop := (∀ a, a ≠ b → a ≠ b + 1 → a ≠ g → a < lo → (∀ k, gI M' a k = gI M a k) ∧ ∀ k, gA M' a k = gA M a k) ∧ Vr M M'
theorem BG.rfl' {b g lo : Nat} {M : hM} : BG b g lo M M := ⟨fun _ _ _ _ _ => ⟨fun _ => rfl, fun _ => rfl⟩, fun _ => rfl⟩
theorem BG.trans {b g lo : Nat} {M M' M'' : hM} (h : BG b g lo M M') (h' : BG b g lo M' M'') : BG b g lo M M'' := ⟨fun a h1 h2 h3 h4 => ⟨fun k => ((h'.1 a h1 h2 h3 h4).1 k).trans ((h.1 a h1 h2 h3 h4).1 k), fun k => ((h'.1 a h1 h2 h3 h4).2 k).trans ((h.1 a h1 h2 h3 h4).2 k)⟩, h.2.trans h'.2⟩
def BXs (S : hSh) (z : Nat) (M : hM) (b g p n : Nat) (t : List Int) (B : Nat) (o : Nat → Nat) (E : Nat → Int) (m : Option ((Nat × Nat) × ac_H)) : Prop :=
  ∃ S' M' n', (∀ {α : Type} (F : Nat × Nat → ac_H → Option α), mo_cv (hp S z M) (z + b) 10 m F = F (z + b, z + n') (hp S' z M')) ∧ BX S' M' b g p n' t B o E ∧ n ≤ n' ∧ SK n S S' ∧ BG b g p M M'
theorem BX.ap {z b g p n B B' : Nat} {M : hM} {t t' : List Int} {o : Nat → Nat} {E : Nat → Int} {m : Option ((Nat × Nat) × ac_H)} (h : BX S M b g p n t B o E) (ha : AP S z M b (p + 6) n t' m) (hB : t'.length ≤ B') : BXs S z M b g p n t' B' o E m := by
  obtain ⟨h1, h2, h3, h4, h5, h6, h7, h8⟩ := h
  obtain ⟨S', M', n', r1, r2, r3, r4, r5⟩ := ha
  have hln := h1.ln
  refine ⟨S', M', n', fun F => by rw [Dv h1, r1]; simp only [↓mo_ns_r, ↓hn0, ↓mo_cs_s, ↓mo_xs_r, ↓mo_xs_l, ↓mo_nl_s, mo_z_0, mo_z_1], ⟨r2, hB, h3.sk r4 (by omega), fun k hk => by rw [(r5.1 (p + 5) (by omega) (by omega) (by omega)).2]; exact h4 k hk, h5.sk r4 (by omega), h6.sk r4 (by omega), ⟨fun k hk => ?_, fun k hk => ⟨?_, ?_, ?_⟩⟩, h8⟩, r3, r4, ⟨fun a g1 g2 g3 g4 => r5.1 a g1 g2 (by omega), r5.2⟩⟩
  · rw [(r5.1 (p + 1) (by omega) (by omega) (by omega)).2]; exact h7.1 k hk
  · rw [(r5.1 (p + 3) (by omega) (by omega) (by omega)).2]; exact (h7.2 k hk).1
  · rw [(r5.1 (p + 4) (by omega) (by omega) (by omega)).2]; exact (h7.2 k hk).2.1
  · rw [(r5.1 (p + 2) (by omega) (by omega) (by omega)).2]; exact (h7.2 k hk).2.2
theorem BX.word {z b g p n B d : Nat} {M : hM} {t : List Int} {o : Nat → Nat} {E : Nat → Int} (h : BX S M b g p n t B o E) (i : Nat) (hi : i < 19) (hd : (wB i).length ≤ d) (hB : B + d ≤ 120) : BXs S z M b g p n (t ++ wB i) (B + d) o E (m_J4_append_15ec4 (hp S z M) (z + b) i (z + n)) :=
  h.ap (J4_word h.1 hi (by have := h.2.1; omega)) (by have := h.2.1; rw [List.length_append]; omega)
theorem BX.char {z b g p n B : Nat} {M : hM} {t : List Int} {o : Nat → Nat} {E : Nat → Int} (h : BX S M b g p n t B o E) (x : Int) (hx : 0 ≤ x ∧ x < 128) (hB : B + 1 ≤ 120) : BXs S z M b g p n (t ++ [x]) (B + 1) o E (m_J4_append_cf468 (hp S z M) (z + b) (jI x) (z + n)) :=
  h.ap (J4_char h.1 hx (by have := h.2.1; omega)) (by have := h.2.1; rw [List.length_append]; simp; omega)
theorem BX.num {z b g p n B : Nat} {M : hM} {t : List Int} {o : Nat → Nat} {E : Nat → Int} (h : BX S M b g p n t B o E) (x : Nat) (hx : x < 100) (hB : B + 2 ≤ 120) : BXs S z M b g p n (t ++ dg x) (B + 2) o E (m_J4_append_bf812 (hp S z M) (z + b) (jI x) (z + n)) :=
  h.ap (J4_num h.1 hx (by have := h.2.1; omega)) (by have := h.2.1; rw [List.length_append, dg_len]; split <;> omega)
theorem BX.of {α : Type} {z b g p n B : Nat} {M : hM} {t : List Int} {o : Nat → Nat} {E : Nat → Int} (h : BX S M b g p n t B o E) (k : Nat) (hk : k < 8) (F : Int32 → Option α) : mo_ai (hp S z M) (z + (p + 5)) 0 (jI k) F = F (jI (o k)) := by
  rw [hl_ai h.2.2.1 (by omega) (by omega) (by omega), Int.toNat_natCast, h.2.2.2.1 k hk]
theorem BB.mv {S' : hSh} {M M' : hM} {b lo m c : Nat} {t : List Int} (h : BB S M b (b + 2) (b + 2) t c) (hs : SK (b + 2) S S') (hf : ∀ a, a = b ∨ a = b + 1 → (∀ k, gI M' a k = gI M a k) ∧ ∀ k, gA M' a k = gA M a k) (h1 : b + 2 ≤ lo) (h2 : lo ≤ m) : BB S' M' b lo m t c := by
  obtain ⟨w, x, w1, w2, w3, w4, w5, w6, w7, w8, w9⟩ := h.w
  have hw : w = b + 1 := by omega
  have f0 := hf b (Or.inl rfl)
  have f1 := hf (b + 1) (Or.inr rfl)
  exact ⟨h.o.sk hs (by omega), by rw [hs b (by omega)]; exact h.r, by rw [hs b (by omega)]; exact h.i, by rw [f0.1]; exact h.k1, by rw [f0.1]; exact h.k3, h.tc, by omega, h2, w, x, by rw [f0.1]; exact w1, w2.sk hs (by omega), w3, w4, w5, fun i => by rw [hw, f1.2, ← hw]; exact w6 i, fun i hi => by rw [hw, f1.2, ← hw]; exact w7 i hi, Or.inl hw, by omega⟩
/-- a draw leaves all but the seed -/
theorem BX.dr {b g p n B : Nat} {M : hM} {t : List Int} {o : Nat → Nat} {E : Nat → Int} (h : BX S M b g p n t B o E) (u : Int) : BX S (sA M g 0 u) b g p n t B o E ∧ BG b g p M (sA M g 0 u) := by
  obtain ⟨h1, h2, h3, h4, h5, h6, h7, h8⟩ := h
  have hln := h1.ln
  have f : ∀ a, a ≠ g → ∀ k, gA (sA M g 0 u) a k = gA M a k := fun a ha k => gA_ne (by omega)
  refine ⟨⟨?_, h2, h3, fun k hk => by rw [f _ (by omega)]; exact h4 k hk, h5, h6, ⟨fun k hk => by rw [f _ (by omega)]; exact h7.1 k hk, fun k hk => by rw [f _ (by omega), f _ (by omega), f _ (by omega)]; exact h7.2 k hk⟩, h8⟩, ⟨fun a g1 g2 g3 g4 => ⟨fun k => rfl, f a g3⟩, fun _ => rfl⟩⟩
  obtain ⟨w, x, w1, w2, w3, w4, w5, w6, w7, w8, w9⟩ := h1.w
  exact ⟨h1.o, h1.r, h1.i, h1.k1, h1.k3, h1.tc, h1.bl, h1.ln, w, x, w1, w2, w3, w4, w5, fun i => by rw [f _ (by omega)]; exact w6 i, fun i hi => by rw [f _ (by omega)]; exact w7 i hi, w8, w9⟩
theorem L_drawN {z g : Nat} {M : hM} {m : Int} (hg : lA S g 0 1) (h0 : 0 < m) (h1 : m < 2147483648) : ∃ (v : Nat) (u : Int), (∀ {α : Type} (F : Int32 → ac_H → Option α), mo_cs (m_L_draw (hp S z M) (z + g) (jI m)) F = F (jI v) (hp S z (sA M g 0 u))) ∧ (v : Int) < m := by
  obtain ⟨v, u, r1, r2, r3⟩ := L_draw (z := z) (M := M) hg h0 h1
  refine ⟨v.toNat, u, fun F => ?_, by omega⟩
  rw [r1, show ((v.toNat : Nat) : Int) = v by omega]
  simp only [↓mo_ns_r, ↓hn0, ↓mo_cs_s, ↓mo_xs_r, ↓mo_xs_l, ↓mo_nl_s, mo_z_0, mo_z_1]
theorem bT0_cut {o : Nat → Nat} {fs : List (Nat × Nat × Nat)} : bT0 o fs = bT0 o [] ++ fTx fs := by
  unfold bT0
  simp only [List.append_assoc, List.cons_append, fTx, List.nil_append]
theorem w11 : wB 11 = wB 0 ++ [32] := by decide
theorem w12 : wB 12 = [59] ++ (wB 4 ++ [32]) := by decide
theorem w13 : wB 13 = [59] ++ (wB 5 ++ [32]) := by decide
theorem w14 : wB 14 = [59] ++ (wB 6 ++ [32]) := by decide
theorem w15 : wB 15 = [59] ++ (wB 7 ++ [32]) := by decide
theorem w16 : wB 16 = wB 8 ++ [32] := by decide
theorem w17 : wB 17 = wB 9 ++ [32] := by decide
theorem w18 : wB 18 = wB 10 ++ [32] := by decide
theorem L_j141 {z b g p n : Nat} {M : hM} {o : Nat → Nat} {E : Nat → Int} (h : BX S M b g p n (wB 11) 6 o E) (ho : oR o) : ∃ S' M' n' c, m_L_bench_j141 (z + b) (z + g) (hp S z M) (z + n) (z + p) (z + (p + 5)) (o 0 + 1) (z + b) = m_L_bench_l236 (z + b) (z + g) 8 (hp S' z M') (z + n') (z + p) (jI ((c : Nat) : Int)) ∧ c ≤ 4 ∧ BX S' M' b g p n' (bT0 o []) 63 o E ∧ n ≤ n' ∧ SK n S S' ∧ BG b g p M M' := by
  have h03 := ho.1
  obtain ⟨S1, M1, n1, r1, a1, l1, s1, f1⟩ := BX.word (z := z) (d := 9) h (o 0 + 1) (by omega) (by have := wB_le (o 0 + 1) (by omega); omega) (by decide)
  obtain ⟨S2, M2, n2, r2, a2, l2, s2, f2⟩ := BX.char (z := z) a1 32 (by decide) (by decide)
  obtain ⟨S3, M3, n3, r3, a3, l3, s3, f3⟩ := BX.num (z := z) a2 (o 1) (ho.2 1 (by decide)).1 (by decide)
  have o3 := fun F : Int32 → Option ((Nat × Nat) × ac_H) => BX.of (z := z) a2 1 (by decide) F
  obtain ⟨S4, M4, n4, r4, a4, l4, s4, f4⟩ := BX.char (z := z) a3 32 (by decide) (by decide)
  obtain ⟨S5, M5, n5, r5, a5, l5, s5, f5⟩ := BX.num (z := z) a4 (o 2) (ho.2 2 (by decide)).1 (by decide)
  have o5 := fun F : Int32 → Option ((Nat × Nat) × ac_H) => BX.of (z := z) a4 2 (by decide) F
  obtain ⟨S6, M6, n6, r6, a6, l6, s6, f6⟩ := BX.word (z := z) (d := 9) a5 (12) (by decide) (by decide) (by decide)
  obtain ⟨S7, M7, n7, r7, a7, l7, s7, f7⟩ := BX.num (z := z) a6 (o 3) (ho.2 3 (by decide)).1 (by decide)
  have o7 := fun F : Int32 → Option ((Nat × Nat) × ac_H) => BX.of (z := z) a6 3 (by decide) F
  obtain ⟨S8, M8, n8, r8, a8, l8, s8, f8⟩ := BX.word (z := z) (d := 7) a7 (13) (by decide) (by decide) (by decide)
  obtain ⟨S9, M9, n9, r9, a9, l9, s9, f9⟩ := BX.num (z := z) a8 (o 4) (ho.2 4 (by decide)).1 (by decide)
  have o9 := fun F : Int32 → Option ((Nat × Nat) × ac_H) => BX.of (z := z) a8 4 (by decide) F
  obtain ⟨S10, M10, n10, r10, a10, l10, s10, f10⟩ := BX.word (z := z) (d := 6) a9 (14) (by decide) (by decide) (by decide)
  obtain ⟨S11, M11, n11, r11, a11, l11, s11, f11⟩ := BX.num (z := z) a10 (o 5) (ho.2 5 (by decide)).1 (by decide)
  have o11 := fun F : Int32 → Option ((Nat × Nat) × ac_H) => BX.of (z := z) a10 5 (by decide) F
  obtain ⟨S12, M12, n12, r12, a12, l12, s12, f12⟩ := BX.char (z := z) a11 32 (by decide) (by decide)
  obtain ⟨S13, M13, n13, r13, a13, l13, s13, f13⟩ := BX.num (z := z) a12 (o 6) (ho.2 6 (by decide)).1 (by decide)
  have o13 := fun F : Int32 → Option ((Nat × Nat) × ac_H) => BX.of (z := z) a12 6 (by decide) F
  obtain ⟨S14, M14, n14, r14, a14, l14, s14, f14⟩ := BX.word (z := z) (d := 8) a13 (15) (by decide) (by decide) (by decide)
  obtain ⟨S15, M15, n15, r15, a15, l15, s15, f15⟩ := BX.num (z := z) a14 (o 7) (ho.2 7 (by decide)).1 (by decide)
  have o15 := fun F : Int32 → Option ((Nat × Nat) × ac_H) => BX.of (z := z) a14 7 (by decide) F
  obtain ⟨S16, M16, n16, r16, a16, l16, s16, f16⟩ := BX.char (z := z) a15 59 (by decide) (by decide)
  obtain ⟨v, u, d1, d2⟩ := L_drawN (z := z) (S := S16) (g := g) (M := M16) (m := 5) a16.2.2.2.2.1 (by decide) (by decide)
  obtain ⟨x1, x2⟩ := a16.dr u
  have ht : (((((((((((((((((wB 11) ++ wB (o 0 + 1)) ++ [32]) ++ dg (o 1)) ++ [32]) ++ dg (o 2)) ++ wB (12)) ++ dg (o 3)) ++ wB (13)) ++ dg (o 4)) ++ wB (14)) ++ dg (o 5)) ++ [32]) ++ dg (o 6)) ++ wB (15)) ++ dg (o 7)) ++ [59]) = bT0 o [] := by
    rw [w11, w12, w13, w14, w15]
    unfold bT0
    simp only [List.append_assoc, List.cons_append, List.nil_append, fTx]
  rw [ht] at x1
  refine ⟨S16, sA M16 g 0 u, n16, v, ?_, by omega, x1, by omega, (((((((((((((((s1).trans (s2.mono (by omega))).trans (s3.mono (by omega))).trans (s4.mono (by omega))).trans (s5.mono (by omega))).trans (s6.mono (by omega))).trans (s7.mono (by omega))).trans (s8.mono (by omega))).trans (s9.mono (by omega))).trans (s10.mono (by omega))).trans (s11.mono (by omega))).trans (s12.mono (by omega))).trans (s13.mono (by omega))).trans (s14.mono (by omega))).trans (s15.mono (by omega))).trans (s16.mono (by omega)), ((((((((((((((((f1).trans f2).trans f3).trans f4).trans f5).trans f6).trans f7).trans f8).trans f9).trans f10).trans f11).trans f12).trans f13).trans f14).trans f15).trans f16).trans x2⟩
  unfold m_L_bench_j141
  simp only [ji1, ji2, ji3, ji4, ji5, ji6, ji7, ji8, ji9, ji10, ji11, ji12, ji13, ji14, ji15, ji16, ji19, ji20, ji24, ji31, ji32, ji39, ji45, ji48, ji57, ji58, ji59, ji60, ji97, ji100, ji119, ji120, ji122, ji144, ji200, ji226, ji240, ji255, ji300, ji366, ji400, ji500, ji1000, jI_z, ↓jI_m1, jI_add, jI_sub, jI_mul, ↓jm1000, ↓jm100, ↓jm10, ↓jm9, ji50, ji65280, ji1664525, ji252645135, ji858993459, ji1013904223, ji1431655765, ji2147483639, ji2147483647]
  rw [r1]
  rw [r2]
  rw [show jI 1 = jI ((1 : Nat) : Int) from rfl, o3, r3]
  rw [r4]
  rw [show jI 2 = jI ((2 : Nat) : Int) from rfl, o5, r5]
  rw [r6]
  rw [show jI 3 = jI ((3 : Nat) : Int) from rfl, o7, r7]
  rw [r8]
  rw [show jI 4 = jI ((4 : Nat) : Int) from rfl, o9, r9]
  rw [r10]
  rw [show jI 5 = jI ((5 : Nat) : Int) from rfl, o11, r11]
  rw [r12]
  rw [show jI 6 = jI ((6 : Nat) : Int) from rfl, o13, r13]
  rw [r14]
  rw [show jI 7 = jI ((7 : Nat) : Int) from rfl, o15, r15]
  rw [r16]
  show mo_cs (m_L_draw (hp S16 z M16) (z + g) (jI 5)) _ = _
  rw [d1]

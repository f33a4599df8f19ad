variable {S : hSh}
/-! THE LAW'S BENCH: faults drawn. -/
theorem fTx_app {x : Nat × Nat × Nat} : ∀ fs : List (Nat × Nat × Nat), fTx (fs ++ [x]) = fTx fs ++ fT x := by
  intro fs
  induction fs with
  | nil => show fT x ++ [] = [] ++ fT x; simp
  | cons y t ih => show fT y ++ fTx (t ++ [x]) = (fT y ++ fTx t) ++ fT x; rw [ih, List.append_assoc]
theorem fEn_app {x : Nat × Nat × Nat} : ∀ (fs : List (Nat × Nat × Nat)) (E : Nat → Int), fEn E (fs ++ [x]) = pt (fEn E fs) (fK x) (fV x) := by
  intro fs
  induction fs with
  | nil => intro E; rfl
  | cons y t ih => intro E; exact ih _
theorem fAll_app {x : Nat × Nat × Nat} : ∀ (fs : List (Nat × Nat × Nat)) (E : Nat → Int), fAll E fs → fT1 (fEn E fs) x → fAll E (fs ++ [x]) := by
  intro fs
  induction fs with
  | nil => intro E _ h; exact ⟨h, trivial⟩
  | cons y t ih => intro E h1 h2; exact ⟨h1.1, ih _ h1.2 h2⟩
theorem fEn_ok : ∀ (fs : List (Nat × Nat × Nat)) (E : Nat → Int), eOK E → fAll E fs → eOK (fEn E fs) := by
  intro fs
  induction fs with
  | nil => intro E h _; exact h
  | cons y t ih =>
    intro E h h2
    obtain ⟨v1, v2, v3, _⟩ := fV_in h2.1
    exact ih _ (eOK_pt h (by omega) v2 v3) h2.2
theorem BX.cgB {M : hM} {b g p n B B' : Nat} {t : List Int} {o : Nat → Nat} {E : Nat → Int} (h : BX S M b g p n t B o E) (hB : B ≤ B') : BX S M b g p n t B' o E :=
  ⟨h.1, by have := h.2.1; omega, h.2.2⟩
/-- a write into the plan -/
theorem BX.pl {M : hM} {b g p n B a k : Nat} {v : Int} {t : List Int} {o : Nat → Nat} {E E' : Nat → Int} (h : BX S M b g p n t B o E) (ha : p + 1 ≤ a ∧ a < p + 5) (hE : PE (sA M a k v) p (fun k => o k) E') : BX S (sA M a k v) b g p n t B o E' ∧ BG b g p M (sA M a k v) := by
  obtain ⟨h1, h2, h3, h4, h5, h6, h7, h8⟩ := h
  have hln := h1.ln
  have f : ∀ c, c ≠ a → ∀ k', gA (sA M a k v) c k' = gA M c k' := fun c hc k' => gA_ne (by omega)
  refine ⟨⟨?_, h2, h3, fun k hk => by rw [f _ (by omega)]; exact h4 k hk, h5, h6, hE, h8⟩, ⟨fun c g1 g2 g3 g4 => ⟨fun k => rfl, f c (by omega)⟩, fun _ => rfl⟩⟩
  obtain ⟨w, x, w1, w2, w3, w4, w5, w6, w7, w8, w9⟩ := h1.w
  exact ⟨h1.o, h1.r, h1.i, h1.k1, h1.k3, h1.tc, h1.bl, h1.ln, w, x, w1, w2, w3, w4, w5, fun i => by rw [f _ (by omega)]; exact w6 i, fun i hi => by rw [f _ (by omega)]; exact w7 i hi, w8, w9⟩
/-- what the drawing of a bench leaves -/
def BR1 (S : hSh) (z : Nat) (M : hM) (b g p n : Nat) (o : Nat → Nat) (r : Option ((Nat × Nat) × ac_H)) : Prop :=
  ∃ S' M' n' fs, r = some ((z + p, z + n'), hp S' z M') ∧ BX S' M' b g p n' (bT0 o fs) 107 o (fEn (fun _ => 0) fs) ∧ fAll (fun _ => 0) fs ∧ fs.length ≤ 4 ∧ n ≤ n' ∧ SK n S S' ∧ BG b g p M M'
theorem BR1.of {S' : hSh} {z : Nat} {M M' : hM} {b g p n n' : Nat} {o : Nat → Nat} {r : Option ((Nat × Nat) × ac_H)} (h : BR1 S' z M' b g p n' o r) (hn : n ≤ n') (hs : SK n S S') (hg : BG b g p M M') : BR1 S z M b g p n o r := by
  obtain ⟨S2, M2, n2, fs, r1, r2, r3, r4, r5, r6, r7⟩ := h
  exact ⟨S2, M2, n2, fs, r1, r2, r3, r4, by omega, hs.trans (r6.mono hn), hg.trans r7⟩
theorem L_bl {z b g p : Nat} {o : Nat → Nat} : ∀ (c f n : Nat) (S : hSh) (M : hM) (fs : List (Nat × Nat × Nat)), BX S M b g p n (bT0 o fs) (63 + 11 * fs.length) o (fEn (fun _ => 0) fs) → fAll (fun _ => 0) fs → fs.length + c ≤ 4 → c < f → BR1 S z M b g p n o (m_L_bench_l236 (z + b) (z + g) f (hp S z M) (z + n) (z + p) (jI (c : Int))) := by
  intro c
  induction c with
  | zero =>
    intro f n S M fs h hf hc hcf
    obtain ⟨f, rfl⟩ : ∃ k, f = k + 1 := ⟨f - 1, by omega⟩
    refine ⟨S, M, n, fs, ?_, h.cgB (by omega), hf, by omega, Nat.le_refl _, SK.rfl', BG.rfl'⟩
    unfold m_L_bench_l236
    rw [if_neg (by decide)]
  | succ c ih =>
    intro f n S M fs h hf hc hcf
    obtain ⟨f, rfl⟩ : ∃ k, f = k + 1 := ⟨f - 1, by omega⟩
    obtain ⟨nm, u1, d1, d2⟩ := L_drawN (z := z) (S := S) (g := g) (M := M) (m := 16) h.2.2.2.2.1 (by decide) (by decide)
    obtain ⟨x1, y1⟩ := h.dr u1
    obtain ⟨kd, u2, e1, e2⟩ := L_drawN (z := z) (S := S) (g := g) (M := sA M g 0 u1) (m := 3) h.2.2.2.2.1 (by decide) (by decide)
    obtain ⟨x2, y2⟩ := x1.dr u2
    generalize sA (sA M g 0 u1) g 0 u2 = M2 at e1 x2 y2
    have y12 := y1.trans y2
    have hln := h.1.ln
    have ec : ((c + 1 : Nat) : Int) + -1 = c := by omega
    have hP := x2.2.2.2.2.2.1
    have hE := x2.2.2.2.2.2.2.1
    have hEk := hE.2 nm (by omega)
    have gc : (0 : Int) < ((c + 1 : Nat) : Int) := by omega
    have skip := BR1.of (ih f n S M2 fs x2 hf (by omega) (by omega)) (Nat.le_refl _) SK.rfl' y12
    unfold m_L_bench_l236
    simp (disch := omega) only [ji1, ji2, ji3, ji4, ji5, ji6, ji7, ji8, ji9, ji10, ji11, ji12, ji13, ji14, ji15, ji16, ji19, ji20, ji24, ji31, ji32, ji39, ji45, ji48, ji57, ji58, ji59, ji60, ji97, ji100, ji119, ji120, ji122, ji144, ji200, ji226, ji240, ji255, ji300, ji366, ji400, ji500, ji1000, jI_z, ↓jI_m1, jI_add, jI_sub, jI_mul, ↓jm1000, ↓jm100, ↓jm10, ↓jm9, ji50, ji65280, ji1664525, ji252645135, ji858993459, ji1013904223, ji1431655765, ji2147483639, ji2147483647, jI_lt, gc, if_true]
    rw [d1, e1]
    rcases (show kd = 0 ∨ kd = 1 ∨ kd = 2 by omega) with rfl | rfl | rfl
    · rw [if_pos (by decide), Pg2 hP, Pa3 hP (by omega) (by omega), Int.toNat_natCast, hEk.1]
      by_cases h0 : fEn (fun _ => 0) fs (3 * nm) = 0
      · rw [h0, if_pos (by decide), Pg2 hP, nar_z1, Pu3 hP (by omega) (by omega), Int.toNat_natCast]
        have hx : fT1 (fEn (fun _ => 0) fs) (0, nm, 0) := ⟨show (0 : Nat) < 3 by decide, show nm < 16 by omega, fun h => by have : (0 : Nat) = 2 := h; omega, h0⟩
        obtain ⟨x3, y3⟩ := x2.pl (a := p + 3) (k := nm) (v := 1) (by omega) (hE.d (by omega))
        obtain ⟨S4, M4, n4, r4, a4, l4, s4, f4⟩ := x3.word (z := z) (d := 5) 16 (by decide) (by decide) (by omega)
        obtain ⟨S5, M5, n5, r5, a5, l5, s5, f5⟩ := a4.num (z := z) nm (by omega) (by omega)
        obtain ⟨S6, M6, n6, r6, a6, l6, s6, f6⟩ := a5.char (z := z) 59 (by decide) (by omega)
        rw [r4]; simp only
        rw [r5]; simp only
        rw [r6]
        have ht : bT0 o fs ++ wB 16 ++ dg nm ++ [59] = bT0 o (fs ++ [(0, nm, 0)]) := by
          rw [bT0_cut, bT0_cut (fs := fs ++ _), fTx_app, w16]
          unfold fT
          simp only [List.append_assoc, List.cons_append, List.nil_append]
          rfl
        have he : pt (fEn (fun _ => 0) fs) (3 * nm) 1 = fEn (fun _ => 0) (fs ++ [(0, nm, 0)]) := by rw [fEn_app]; rfl
        rw [ht, he] at a6
        have a7 := a6.cgB (B' := 63 + 11 * (fs ++ [(0, nm, 0)]).length) (by rw [List.length_append]; simp; omega)
        unfold m_L_bench_j296 m_L_bench_j337
        rw [if_neg (by decide), if_neg (by decide)]
        simp only [ji1, ji2, ji3, ji4, ji5, ji6, ji7, ji8, ji9, ji10, ji11, ji12, ji13, ji14, ji15, ji16, ji19, ji20, ji24, ji31, ji32, ji39, ji45, ji48, ji57, ji58, ji59, ji60, ji97, ji100, ji119, ji120, ji122, ji144, ji200, ji226, ji240, ji255, ji300, ji366, ji400, ji500, ji1000, jI_z, ↓jI_m1, jI_add, jI_sub, jI_mul, ↓jm1000, ↓jm100, ↓jm10, ↓jm9, ji50, ji65280, ji1664525, ji252645135, ji858993459, ji1013904223, ji1431655765, ji2147483639, ji2147483647, ec]
        exact BR1.of (ih f n6 S6 M6 _ a7 (fAll_app fs _ hf hx) (by rw [List.length_append]; simp; omega) (by omega)) (by omega) ((s4.trans (s5.mono (by omega))).trans (s6.mono (by omega))) ((((y12.trans y3).trans f4).trans f5).trans f6)
      · have hb : fEn (fun _ => 0) fs (3 * nm) = 1 := by
          have hk := (fEn_ok fs _ (fun j _ => ⟨by decide, by decide, fun _ => by decide⟩) hf) (3 * nm) (by omega)
          have := hk.2.2 (by omega)
          omega
        rw [hb, if_neg (by decide)]
        unfold m_L_bench_j296 m_L_bench_j337
        rw [if_neg (by decide), if_neg (by decide)]
        simp only [ji1, ji2, ji3, ji4, ji5, ji6, ji7, ji8, ji9, ji10, ji11, ji12, ji13, ji14, ji15, ji16, ji19, ji20, ji24, ji31, ji32, ji39, ji45, ji48, ji57, ji58, ji59, ji60, ji97, ji100, ji119, ji120, ji122, ji144, ji200, ji226, ji240, ji255, ji300, ji366, ji400, ji500, ji1000, jI_z, ↓jI_m1, jI_add, jI_sub, jI_mul, ↓jm1000, ↓jm100, ↓jm10, ↓jm9, ji50, ji65280, ji1664525, ji252645135, ji858993459, ji1013904223, ji1431655765, ji2147483639, ji2147483647, ec]
        exact skip
    · rw [if_neg (by decide)]
      unfold m_L_bench_j296
      rw [if_pos (by rfl), Pg3 hP, Pa4 hP (by omega) (by omega), Int.toNat_natCast, hEk.2.1]
      by_cases h0 : fEn (fun _ => 0) fs (3 * nm + 1) = 0
      · simp only [ji1, ji2, ji3, ji4, ji5, ji6, ji7, ji8, ji9, ji10, ji11, ji12, ji13, ji14, ji15, ji16, ji19, ji20, ji24, ji31, ji32, ji39, ji45, ji48, ji57, ji58, ji59, ji60, ji97, ji100, ji119, ji120, ji122, ji144, ji200, ji226, ji240, ji255, ji300, ji366, ji400, ji500, ji1000, jI_z, ↓jI_m1, jI_add, jI_sub, jI_mul, ↓jm1000, ↓jm100, ↓jm10, ↓jm9, ji50, ji65280, ji1664525, ji252645135, ji858993459, ji1013904223, ji1431655765, ji2147483639, ji2147483647]
        rw [h0, if_pos (by decide), Pg3 hP, nar_z1, Pu4 hP (by omega) (by omega), Int.toNat_natCast]
        have hx : fT1 (fEn (fun _ => 0) fs) (1, nm, 0) := ⟨show (1 : Nat) < 3 by decide, show nm < 16 by omega, fun h => by have : (1 : Nat) = 2 := h; omega, h0⟩
        obtain ⟨x3, y3⟩ := x2.pl (a := p + 4) (k := nm) (v := 1) (by omega) (hE.t (by omega))
        obtain ⟨S4, M4, n4, r4, a4, l4, s4, f4⟩ := x3.word (z := z) (d := 6) 17 (by decide) (by decide) (by omega)
        obtain ⟨S5, M5, n5, r5, a5, l5, s5, f5⟩ := a4.num (z := z) nm (by omega) (by omega)
        obtain ⟨S6, M6, n6, r6, a6, l6, s6, f6⟩ := a5.char (z := z) 59 (by decide) (by omega)
        rw [r4]; simp only
        rw [r5]; simp only
        rw [r6]
        have ht : bT0 o fs ++ wB 17 ++ dg nm ++ [59] = bT0 o (fs ++ [(1, nm, 0)]) := by
          rw [bT0_cut, bT0_cut (fs := fs ++ _), fTx_app, w17]
          unfold fT
          simp only [List.append_assoc, List.cons_append, List.nil_append]
          rfl
        have he : pt (fEn (fun _ => 0) fs) (3 * nm + 1) 1 = fEn (fun _ => 0) (fs ++ [(1, nm, 0)]) := by rw [fEn_app]; rfl
        rw [ht, he] at a6
        have a7 := a6.cgB (B' := 63 + 11 * (fs ++ [(1, nm, 0)]).length) (by rw [List.length_append]; simp; omega)
        unfold m_L_bench_j337
        rw [if_neg (by decide)]
        simp only [ji1, ji2, ji3, ji4, ji5, ji6, ji7, ji8, ji9, ji10, ji11, ji12, ji13, ji14, ji15, ji16, ji19, ji20, ji24, ji31, ji32, ji39, ji45, ji48, ji57, ji58, ji59, ji60, ji97, ji100, ji119, ji120, ji122, ji144, ji200, ji226, ji240, ji255, ji300, ji366, ji400, ji500, ji1000, jI_z, ↓jI_m1, jI_add, jI_sub, jI_mul, ↓jm1000, ↓jm100, ↓jm10, ↓jm9, ji50, ji65280, ji1664525, ji252645135, ji858993459, ji1013904223, ji1431655765, ji2147483639, ji2147483647, ec]
        exact BR1.of (ih f n6 S6 M6 _ a7 (fAll_app fs _ hf hx) (by rw [List.length_append]; simp; omega) (by omega)) (by omega) ((s4.trans (s5.mono (by omega))).trans (s6.mono (by omega))) ((((y12.trans y3).trans f4).trans f5).trans f6)
      · have hb : fEn (fun _ => 0) fs (3 * nm + 1) = 1 := by
          have hk := (fEn_ok fs _ (fun j _ => ⟨by decide, by decide, fun _ => by decide⟩) hf) (3 * nm + 1) (by omega)
          have := hk.2.2 (by omega)
          omega
        rw [hb, if_neg (by decide)]
        unfold m_L_bench_j337
        rw [if_neg (by decide)]
        simp only [ji1, ji2, ji3, ji4, ji5, ji6, ji7, ji8, ji9, ji10, ji11, ji12, ji13, ji14, ji15, ji16, ji19, ji20, ji24, ji31, ji32, ji39, ji45, ji48, ji57, ji58, ji59, ji60, ji97, ji100, ji119, ji120, ji122, ji144, ji200, ji226, ji240, ji255, ji300, ji366, ji400, ji500, ji1000, jI_z, ↓jI_m1, jI_add, jI_sub, jI_mul, ↓jm1000, ↓jm100, ↓jm10, ↓jm9, ji50, ji65280, ji1664525, ji252645135, ji858993459, ji1013904223, ji1431655765, ji2147483639, ji2147483647, ec]
        exact skip
    · rw [if_neg (by decide)]
      unfold m_L_bench_j296 m_L_bench_j337
      rw [if_neg (by decide), if_pos (by rfl), Pg1 hP, Pa2 hP (by omega) (by omega), Int.toNat_natCast, hEk.2.2]
      have hk := (fEn_ok fs _ (fun j _ => ⟨by decide, by decide, fun _ => by decide⟩) hf) (3 * nm + 2) (by omega)
      by_cases h0 : fEn (fun _ => 0) fs (3 * nm + 2) = 0
      · obtain ⟨am, u3, g1, g2⟩ := L_drawN (z := z) (S := S) (g := g) (M := M2) (m := 20) h.2.2.2.2.1 (by decide) (by decide)
        obtain ⟨x2', y2'⟩ := x2.dr u3
        generalize sA M2 g 0 u3 = M2' at g1 x2' y2'
        have hE' := x2'.2.2.2.2.2.2.1
        have ea : (1 : Int) + (am : Int) = ((1 + am : Nat) : Int) := by omega
        simp only [ji1, ji2, ji3, ji4, ji5, ji6, ji7, ji8, ji9, ji10, ji11, ji12, ji13, ji14, ji15, ji16, ji19, ji20, ji24, ji31, ji32, ji39, ji45, ji48, ji57, ji58, ji59, ji60, ji97, ji100, ji119, ji120, ji122, ji144, ji200, ji226, ji240, ji255, ji300, ji366, ji400, ji500, ji1000, jI_z, ↓jI_m1, jI_add, jI_sub, jI_mul, ↓jm1000, ↓jm100, ↓jm10, ↓jm9, ji50, ji65280, ji1664525, ji252645135, ji858993459, ji1013904223, ji1431655765, ji2147483639, ji2147483647]
        rw [h0, if_pos (by decide), Pg1 hP, g1]
        simp only [ji1, ji2, ji3, ji4, ji5, ji6, ji7, ji8, ji9, ji10, ji11, ji12, ji13, ji14, ji15, ji16, ji19, ji20, ji24, ji31, ji32, ji39, ji45, ji48, ji57, ji58, ji59, ji60, ji97, ji100, ji119, ji120, ji122, ji144, ji200, ji226, ji240, ji255, ji300, ji366, ji400, ji500, ji1000, jI_z, ↓jI_m1, jI_add, jI_sub, jI_mul, ↓jm1000, ↓jm100, ↓jm10, ↓jm9, ji50, ji65280, ji1664525, ji252645135, ji858993459, ji1013904223, ji1431655765, ji2147483639, ji2147483647, ea]
        rw [Pu2 hP (by omega) (by omega), Int.toNat_natCast]
        have hx : fT1 (fEn (fun _ => 0) fs) (2, nm, 1 + am) := ⟨show (2 : Nat) < 3 by decide, show nm < 16 by omega, fun _ => ⟨show 1 ≤ 1 + am by omega, show 1 + am ≤ 20 by omega⟩, h0⟩
        obtain ⟨x3, y3⟩ := x2'.pl (a := p + 2) (k := nm) (v := ((1 + am : Nat) : Int)) (by omega) (hE'.l (by omega))
        obtain ⟨S4, M4, n4, r4, a4, l4, s4, f4⟩ := x3.word (z := z) (d := 5) 18 (by decide) (by decide) (by omega)
        obtain ⟨S5, M5, n5, r5, a5, l5, s5, f5⟩ := a4.num (z := z) nm (by omega) (by omega)
        obtain ⟨S6, M6, n6, r6, a6, l6, s6, f6⟩ := a5.char (z := z) 32 (by decide) (by omega)
        have hP6 := a6.2.2.2.2.2.1
        have hE6 := (a6.2.2.2.2.2.2.1).2 nm (by omega)
        have e6 : gA M6 (p + 2) nm = ((1 + am : Nat) : Int) := by rw [hE6.2.2, pt_j]
        obtain ⟨S7, M7, n7, r7, a7, l7, s7, f7⟩ := a6.num (z := z) (1 + am) (by omega) (by omega)
        obtain ⟨S8, M8, n8, r8, a8, l8, s8, f8⟩ := a7.char (z := z) 59 (by decide) (by omega)
        rw [r4]; simp only
        rw [r5]; simp only
        rw [r6]; simp only
        rw [Pg1 hP6, Pa2 hP6 (by omega) (by omega), Int.toNat_natCast, e6, r7]; simp only
        rw [r8]
        have ht : bT0 o fs ++ wB 18 ++ dg nm ++ [32] ++ dg (1 + am) ++ [59] = bT0 o (fs ++ [(2, nm, 1 + am)]) := by
          rw [bT0_cut, bT0_cut (fs := fs ++ _), fTx_app, w18]
          unfold fT
          simp only [List.append_assoc, List.cons_append, List.nil_append]
          rfl
        have he : pt (fEn (fun _ => 0) fs) (3 * nm + 2) ((1 + am : Nat) : Int) = fEn (fun _ => 0) (fs ++ [(2, nm, 1 + am)]) := by rw [fEn_app]; rfl
        rw [ht, he] at a8
        have a9 := a8.cgB (B' := 63 + 11 * (fs ++ [(2, nm, 1 + am)]).length) (by rw [List.length_append]; simp; omega)
        simp only [ec]
        exact BR1.of (ih f n8 S8 M8 _ a9 (fAll_app fs _ hf hx) (by rw [List.length_append]; simp; omega) (by omega)) (by omega) ((((s4.trans (s5.mono (by omega))).trans (s6.mono (by omega))).trans (s7.mono (by omega))).trans (s8.mono (by omega))) (((((((y12.trans y2').trans y3).trans f4).trans f5).trans f6).trans f7).trans f8)
      · rw [if_neg (by rw [jI_z, jI_eq (by omega) (by omega) (by omega) (by omega)]; exact h0)]
        simp only [ji1, ji2, ji3, ji4, ji5, ji6, ji7, ji8, ji9, ji10, ji11, ji12, ji13, ji14, ji15, ji16, ji19, ji20, ji24, ji31, ji32, ji39, ji45, ji48, ji57, ji58, ji59, ji60, ji97, ji100, ji119, ji120, ji122, ji144, ji200, ji226, ji240, ji255, ji300, ji366, ji400, ji500, ji1000, jI_z, ↓jI_m1, jI_add, jI_sub, jI_mul, ↓jm1000, ↓jm100, ↓jm10, ↓jm9, ji50, ji65280, ji1664525, ji252645135, ji858993459, ji1013904223, ji1431655765, ji2147483639, ji2147483647, ec]
        exact skip

variable {S : hSh}
/-! THE LAW'S BENCH, whole. -/
theorem b_S0 {z g x m : Nat} {M : hM} (hg : lA S g 0 1) (hx : lA S x 0 8) (hgx : g ≠ x) (h0 : 0 < m) (h1 : m ≤ 100) : ∃ (v : Nat) (M' : hM), v < m ∧ (∀ {α : Type} (G : ac_H → Option α), mo_cs (m_L_draw (hp S z M) (z + g) (jI m)) (fun y σ => mo_ui σ (z + x) 0 (jI 0) y G) = G (hp S z M')) ∧ gA M' x 0 = (v : Int) ∧ (∀ a j, a ≠ x ∨ j ≠ 0 → a ≠ g → gA M' a j = gA M a j) ∧ (∀ a j, gI M' a j = gI M a j) ∧ Vr M M' := by
  obtain ⟨v, u, d1, d2⟩ := L_drawN (z := z) (S := S) (g := g) (M := M) (m := m) hg (by omega) (by omega)
  refine ⟨v, sA (sA M g 0 u) x 0 v, by omega, fun G => ?_, by rw [gA_eq], fun a j h h' => by rw [gA_ne (by omega), gA_ne (by omega)], fun _ _ => rfl, fun _ => rfl⟩
  rw [d1, hl_ui hx (by decide) (by decide) (by decide)]
  rfl
theorem b_S {z g x m : Nat} {M : hM} (k lo : Nat) (hg : lA S g 0 1) (hx : lA S x 0 8) (hgx : g ≠ x) (hk : k < 8) (h0 : 0 < m) (h1 : m ≤ 100) : ∃ (v : Nat) (M' : hM), v < m ∧ (∀ {α : Type} (G : ac_H → Option α), mo_cs (m_L_draw (hp S z M) (z + g) (jI m)) (fun y σ => mo_ui σ (z + x) 0 (jI k) (jI lo + y) G) = G (hp S z M')) ∧ gA M' x k = ((lo + v : Nat) : Int) ∧ (∀ a j, a ≠ x ∨ j ≠ k → a ≠ g → gA M' a j = gA M a j) ∧ (∀ a j, gI M' a j = gI M a j) ∧ Vr M M' := by
  obtain ⟨v, u, d1, d2⟩ := L_drawN (z := z) (S := S) (g := g) (M := M) (m := m) hg (by omega) (by omega)
  refine ⟨v, sA (sA M g 0 u) x k ((lo + v : Nat) : Int), by omega, fun G => ?_, by rw [gA_eq], fun a j h h' => by rw [gA_ne (by omega), gA_ne (by omega)], fun _ _ => rfl, fun _ => rfl⟩
  rw [d1, jI_add, hl_ui hx (by decide) (by omega) (by omega), Int.toNat_natCast, show ((lo : Nat) : Int) + (v : Int) = ((lo + v : Nat) : Int) by omega]
theorem L_bench {z b g n : Nat} {M : hM} (hB : BB S M b (b + 2) (b + 2) [] 0) (hg : lA S g 0 1) (hgb : g < b) (hn : b + 2 ≤ n) : ∃ o, oR o ∧ BR1 S z M b g n n o (m_L_bench (hp S z M) (z + b) (z + g) (z + n)) := by
  have hg133 := hg.1
  obtain ⟨S1, M1, r1, hP1, sk1, fr1, vr1, pe1⟩ := X7_new (S := S) (z := z) (n := n) (M := M) (by omega)
  have na := hl_na (S := S1) (z := z) (a := n + 5) (kd := 0) (n := 8) (M := M1) (by omega) (by decide)
  have sk2 : SK (n + 5) S1 (sS S1 (n + 5) (20 + 0, 8, fun _ => 0)) := fun x hx => sS_n (by omega)
  have hx : lA (sS S1 (n + 5) (20 + 0, 8, fun _ => 0)) (n + 5) 0 8 := by unfold lA; rw [sS_a]; exact ⟨by omega, rfl, by decide, rfl⟩
  generalize sS S1 (n + 5) (20 + 0, 8, fun _ => 0) = S2 at na sk2 hx
  have hg2 : lA S2 g 0 1 := (hg.sk sk1 (by omega)).sk sk2 (by omega)
  have hP2 : isP S2 n := hP1.sk sk2 (by omega)
  have hgx : g ≠ n + 5 := by omega
  obtain ⟨v0, N0, c0, d0, e0, f0, i0, t0⟩ := b_S0 (z := z) (M := (zM M1 (n + 5))) (m := 3) hg2 hx hgx (by decide) (by decide)
  obtain ⟨v1, N1, c1, d1, e1, f1, i1, t1⟩ := b_S (z := z) (M := N0) (m := 5) 1 1 hg2 hx hgx (by decide) (by decide) (by decide)
  obtain ⟨v2, N2, c2, d2, e2, f2, i2, t2⟩ := b_S (z := z) (M := N1) (m := 50) 2 10 hg2 hx hgx (by decide) (by decide) (by decide)
  obtain ⟨v3, N3, c3, d3, e3, f3, i3, t3⟩ := b_S (z := z) (M := N2) (m := 3) 3 1 hg2 hx hgx (by decide) (by decide) (by decide)
  obtain ⟨v4, N4, c4, d4, e4, f4, i4, t4⟩ := b_S (z := z) (M := N3) (m := 12) 4 1 hg2 hx hgx (by decide) (by decide) (by decide)
  obtain ⟨v5, N5, c5, d5, e5, f5, i5, t5⟩ := b_S (z := z) (M := N4) (m := 4) 5 1 hg2 hx hgx (by decide) (by decide) (by decide)
  obtain ⟨v6, N6, c6, d6, e6, f6, i6, t6⟩ := b_S (z := z) (M := N5) (m := 7) 6 2 hg2 hx hgx (by decide) (by decide) (by decide)
  obtain ⟨v7, N7, c7, d7, e7, f7, i7, t7⟩ := b_S (z := z) (M := N6) (m := 60) 7 1 hg2 hx hgx (by decide) (by decide) (by decide)
  obtain ⟨o, ho⟩ : ∃ o : Nat → Nat, o = fun k => [v0, 1 + v1, 10 + v2, 1 + v3, 1 + v4, 1 + v5, 2 + v6, 1 + v7].getD k 0 := ⟨_, rfl⟩
  have o0 : o 0 = v0 := by rw [ho]; rfl
  have o1 : o 1 = 1 + v1 := by rw [ho]; rfl
  have o2 : o 2 = 10 + v2 := by rw [ho]; rfl
  have o3 : o 3 = 1 + v3 := by rw [ho]; rfl
  have o4 : o 4 = 1 + v4 := by rw [ho]; rfl
  have o5 : o 5 = 1 + v5 := by rw [ho]; rfl
  have o6 : o 6 = 2 + v6 := by rw [ho]; rfl
  have o7 : o 7 = 1 + v7 := by rw [ho]; rfl
  have hO : ∀ k, k < 8 → gA N7 (n + 5) k = ((o k : Nat) : Int) := by
    intro k hk
    rcases (show k = 0 ∨ k = 1 ∨ k = 2 ∨ k = 3 ∨ k = 4 ∨ k = 5 ∨ k = 6 ∨ k = 7 by omega) with rfl | rfl | rfl | rfl | rfl | rfl | rfl | rfl
    · rw [f7 _ _ (Or.inr (by decide)) (by omega), f6 _ _ (Or.inr (by decide)) (by omega), f5 _ _ (Or.inr (by decide)) (by omega), f4 _ _ (Or.inr (by decide)) (by omega), f3 _ _ (Or.inr (by decide)) (by omega), f2 _ _ (Or.inr (by decide)) (by omega), f1 _ _ (Or.inr (by decide)) (by omega), e0, o0]
    · rw [f7 _ _ (Or.inr (by decide)) (by omega), f6 _ _ (Or.inr (by decide)) (by omega), f5 _ _ (Or.inr (by decide)) (by omega), f4 _ _ (Or.inr (by decide)) (by omega), f3 _ _ (Or.inr (by decide)) (by omega), f2 _ _ (Or.inr (by decide)) (by omega), e1, o1]
    · rw [f7 _ _ (Or.inr (by decide)) (by omega), f6 _ _ (Or.inr (by decide)) (by omega), f5 _ _ (Or.inr (by decide)) (by omega), f4 _ _ (Or.inr (by decide)) (by omega), f3 _ _ (Or.inr (by decide)) (by omega), e2, o2]
    · rw [f7 _ _ (Or.inr (by decide)) (by omega), f6 _ _ (Or.inr (by decide)) (by omega), f5 _ _ (Or.inr (by decide)) (by omega), f4 _ _ (Or.inr (by decide)) (by omega), e3, o3]
    · rw [f7 _ _ (Or.inr (by decide)) (by omega), f6 _ _ (Or.inr (by decide)) (by omega), f5 _ _ (Or.inr (by decide)) (by omega), e4, o4]
    · rw [f7 _ _ (Or.inr (by decide)) (by omega), f6 _ _ (Or.inr (by decide)) (by omega), e5, o5]
    · rw [f7 _ _ (Or.inr (by decide)) (by omega), e6, o6]
    · rw [e7, o7]
  have hF : ∀ a j, a ≠ n + 5 → a ≠ g → gA N7 a j = gA M1 a j := by
    intro a j h1 h2
    rw [f7 a _ (Or.inl h1) h2, f6 a _ (Or.inl h1) h2, f5 a _ (Or.inl h1) h2, f4 a _ (Or.inl h1) h2, f3 a _ (Or.inl h1) h2, f2 a _ (Or.inl h1) h2, f1 a _ (Or.inl h1) h2, f0 a _ (Or.inl h1) h2, gA_zM, if_neg h1]
  have hI : ∀ a j, a ≠ n + 5 → gI N7 a j = gI M1 a j := by
    intro a j h1
    rw [i7, i6, i5, i4, i3, i2, i1, i0, gI_zM, if_neg h1]
  have hV : Vr M1 N7 := (((((((t0).trans t1).trans t2).trans t3).trans t4).trans t5).trans t6).trans t7
  have hoR : oR o := by
    refine ⟨by omega, fun k hk => ?_⟩
    have l0 : loV ((0 : Nat) : Int) = 0 ∧ loV ((1 : Nat) : Int) = 1 ∧ loV ((2 : Nat) : Int) = 10 ∧ loV ((3 : Nat) : Int) = 1 ∧ loV ((4 : Nat) : Int) = 1 ∧ loV ((5 : Nat) : Int) = 1 ∧ loV ((6 : Nat) : Int) = 2 ∧ loV ((7 : Nat) : Int) = 1 := by decide
    have l1 : hiV ((0 : Nat) : Int) = 2 ∧ hiV ((1 : Nat) : Int) = 8 ∧ hiV ((2 : Nat) : Int) = 200 ∧ hiV ((3 : Nat) : Int) = 5 ∧ hiV ((4 : Nat) : Int) = 20 ∧ hiV ((5 : Nat) : Int) = 4 ∧ hiV ((6 : Nat) : Int) = 8 ∧ hiV ((7 : Nat) : Int) = 200 := by decide
    rcases (show k = 0 ∨ k = 1 ∨ k = 2 ∨ k = 3 ∨ k = 4 ∨ k = 5 ∨ k = 6 ∨ k = 7 by omega) with rfl | rfl | rfl | rfl | rfl | rfl | rfl | rfl <;> omega
  have fr1g : ∀ a, a < n → (∀ k, gI M1 a k = gI M a k) ∧ ∀ k, gA M1 a k = gA M a k := fun a ha => fr1 a (by omega)
  obtain ⟨N8, hN8⟩ : ∃ N8, N8 = cM N7 (n + 5) (n + 1) 8 := ⟨_, rfl⟩
  have c8 : ∀ a j, a ≠ n + 1 → gA N8 a j = gA N7 a j := fun a j ha => by rw [hN8, gA_cM, if_neg (by omega)]
  have c8' : ∀ j, j < 8 → gA N8 (n + 1) j = gA N7 (n + 5) j := fun j hj => by rw [hN8, gA_cM, if_pos ⟨rfl, hj⟩]
  have k8 : ∀ a j, gI N8 a j = gI N7 a j := fun a j => by rw [hN8]; rfl
  have v8 : Vr N7 N8 := by rw [hN8]; exact fun _ => rfl
  have bx : BX S2 N8 b g n (n + 6) [] 0 o (fun _ => 0) := by
    refine ⟨hB.mv (fun x hx' => ?_) (fun a ha => ⟨fun k => ?_, fun k => ?_⟩) (by omega) (by omega), Nat.le_refl _, hx, fun k hk => by rw [c8 _ _ (by omega)]; exact hO k hk, hg2, hP2, ⟨fun k hk => by rw [c8' k hk]; exact hO k hk, fun k hk => ?_⟩, by omega⟩
    · rw [sk2 x (by omega), sk1 x (by omega)]
    · rw [k8, hI _ _ (by omega)]; exact (fr1g a (by omega)).1 k
    · rw [c8 _ _ (by omega), hF _ _ (by omega) (by omega)]; exact (fr1g a (by omega)).2 k
    · rw [c8 _ _ (by omega), hF _ _ (by omega) (by omega), c8 _ _ (by omega), hF _ _ (by omega) (by omega), c8 _ _ (by omega), hF _ _ (by omega) (by omega)]
      exact pe1.2 k hk
  have bg0 : BG b g n M N8 := ⟨fun a g1 g2 g3 g4 => ⟨fun k => by rw [k8, hI _ _ (by omega)]; exact (fr1g a (by omega)).1 k, fun k => by rw [c8 _ _ (by omega), hF _ _ (by omega) g3]; exact (fr1g a (by omega)).2 k⟩, (vr1.trans hV).trans v8⟩
  have skn : SK n S S2 := fun x hx' => by rw [sk2 x (by omega), sk1 x (by omega)]
  obtain ⟨S3, M3, n3, w1, w2, w3, w4, w5⟩ := bx.word (z := z) (d := 6) 11 (by decide) (by decide) (by decide)
  obtain ⟨S4, M4, n4, c, j1, j2, j3, j4, j5, j6⟩ := L_j141 (z := z) w2 hoR
  refine ⟨o, hoR, ?_⟩
  have key := BR1.of (L_bl (z := z) (g := g) (o := o) c 8 n4 S4 M4 [] j3 trivial (by simp; omega) (by omega)) (show n ≤ n4 by omega) ((skn.trans (w4.mono (by omega))).trans (j5.mono (by omega))) ((bg0.trans w5).trans j6)
  rw [← j1] at key
  have of0 := fun F : Int32 → Option ((Nat × Nat) × ac_H) => w2.of (z := z) 0 (by decide) F
  have red : m_L_bench (hp S z M) (z + b) (z + g) (z + n) = m_L_bench_j141 (z + b) (z + g) (hp S3 z M3) (z + n3) (z + n) (z + (n + 5)) (o 0 + 1) (z + b) := by
    unfold m_L_bench
    show mo_cs (m_X7_init _ _ (z + n + 1)) _ = _
    rw [r1]
    simp only [↓mo_ns_r, ↓hn0, ↓mo_cs_s, ↓mo_xs_r, ↓mo_xs_l, ↓mo_nl_s, mo_z_0, mo_z_1]
    rw [na]
    simp only [ji1, ji2, ji3, ji4, ji5, ji6, ji7, ji8, ji9, ji10, ji11, ji12, ji13, ji14, ji15, ji16, ji19, ji20, ji24, ji31, ji32, ji39, ji45, ji48, ji57, ji58, ji59, ji60, ji97, ji100, ji119, ji120, ji122, ji144, ji200, ji226, ji240, ji255, ji300, ji366, ji400, ji500, ji1000, jI_z, ↓jI_m1, jI_add, jI_sub, jI_mul, ↓jm1000, ↓jm100, ↓jm10, ↓jm9, ji50, ji65280, ji1664525, ji252645135, ji858993459, ji1013904223, ji1431655765, ji2147483639, ji2147483647]
    show mo_cs (m_L_draw (hp S2 z (zM M1 (n + 5))) (z + g) (jI ((3 : Nat) : Int))) _ = _
    rw [d0]
    show mo_cs (m_L_draw (hp S2 z N0) (z + g) (jI ((5 : Nat) : Int))) (fun y σ => mo_ui σ (z + (n + 5)) 0 (jI ((1 : Nat) : Int)) (jI ((1 : Nat) : Int) + y) _) = _
    rw [d1]
    show mo_cs (m_L_draw (hp S2 z N1) (z + g) (jI ((50 : Nat) : Int))) (fun y σ => mo_ui σ (z + (n + 5)) 0 (jI ((2 : Nat) : Int)) (jI ((10 : Nat) : Int) + y) _) = _
    rw [d2]
    show mo_cs (m_L_draw (hp S2 z N2) (z + g) (jI ((3 : Nat) : Int))) (fun y σ => mo_ui σ (z + (n + 5)) 0 (jI ((3 : Nat) : Int)) (jI ((1 : Nat) : Int) + y) _) = _
    rw [d3]
    show mo_cs (m_L_draw (hp S2 z N3) (z + g) (jI ((12 : Nat) : Int))) (fun y σ => mo_ui σ (z + (n + 5)) 0 (jI ((4 : Nat) : Int)) (jI ((1 : Nat) : Int) + y) _) = _
    rw [d4]
    show mo_cs (m_L_draw (hp S2 z N4) (z + g) (jI ((4 : Nat) : Int))) (fun y σ => mo_ui σ (z + (n + 5)) 0 (jI ((5 : Nat) : Int)) (jI ((1 : Nat) : Int) + y) _) = _
    rw [d5]
    show mo_cs (m_L_draw (hp S2 z N5) (z + g) (jI ((7 : Nat) : Int))) (fun y σ => mo_ui σ (z + (n + 5)) 0 (jI ((6 : Nat) : Int)) (jI ((2 : Nat) : Int) + y) _) = _
    rw [d6]
    show mo_cs (m_L_draw (hp S2 z N6) (z + g) (jI ((60 : Nat) : Int))) (fun y σ => mo_ui σ (z + (n + 5)) 0 (jI ((7 : Nat) : Int)) (jI ((1 : Nat) : Int) + y) _) = _
    rw [d7, Pg0 hP2, show jI 8 = jI ((8 : Nat) : Int) from rfl, hl_cp hx hP2.2.2.1 rfl (by decide) (by decide) (by decide), ← hN8]
    show mo_cv (hp S2 z N8) (z + b) 10 (m_J4_append_15ec4 (hp S2 z N8) (z + b) 11 (z + (n + 6))) _ = _
    rw [w1]
    show mo_ai (hp S3 z M3) (z + (n + 5)) 0 (jI ((0 : Nat) : Int)) _ = _
    rw [of0]
    show (if jI ((o 0 : Nat) : Int) = jI 0 then _ else mo_ai (hp S3 z M3) (z + (n + 5)) 0 (jI ((0 : Nat) : Int)) _) = _
    rw [of0]
    have h3 := hoR.1
    rcases (show o 0 = 0 ∨ o 0 = 1 ∨ o 0 = 2 by omega) with h | h | h
    · rw [h, if_pos (by decide)]
    · rw [h, if_neg (by decide), if_pos (by decide)]
    · rw [h, if_neg (by decide), if_neg (by decide)]
  rw [red]
  exact key

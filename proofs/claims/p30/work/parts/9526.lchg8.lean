variable {S : hSh}
theorem L_changes {z p r e g n : Nat} {M : hM} {q : hQ} (h : LX S M p r e g n q) : G1 S z p r e g (m_L_changes (hp S z M) z (z + p) (z + r) (z + e) (z + g) (z + n)) := by
  obtain ⟨wi, u, d1, d2, d3, h1⟩ := h.draw (z := z) (m := 6) (by omega) (by omega)
  generalize sA M g 0 u = Ma at d1 h1
  have ne : ∀ x : Int, 0 ≤ x → x < 10 → wi ≠ x → ¬ jI wi = jI x := fun x x0 x1 hx => by rw [jI_eq (by omega) (by omega) (by omega) (by omega)]; exact hx
  unfold m_L_changes
  simp only [ji1, ji2, ji3, ji4, ji5, ji6, ji7, ji8, ji9, ji10, ji11, ji12, ji13, ji14, ji15, ji16, ji19, ji20, ji24, ji31, ji32, ji39, ji45, ji48, ji57, ji58, ji59, ji60, ji97, ji100, ji119, ji120, ji122, ji144, ji200, ji226, ji240, ji255, ji300, ji366, ji400, ji500, ji1000, jI_z, ↓jI_m1, jI_add, jI_sub, jI_mul, ↓jm1000, ↓jm100, ↓jm10, ↓jm9, ji50, ji65280, ji1664525, ji252645135, ji858993459, ji1013904223, ji1431655765, ji2147483639, ji2147483647]
  rw [d1]
  simp only [↓mo_cs_s]
  by_cases w0 : wi = 0
  · rw [w0, if_pos rfl]; exact L_c0 h1
  rw [if_neg (ne 0 (by omega) (by omega) w0)]
  by_cases w1 : wi = 1
  · rw [w1, if_pos rfl]
    obtain ⟨wj, u2, e1, e2, e3, h2⟩ := h1.draw (z := z) (m := 8) (by omega) (by omega)
    obtain ⟨w, rfl⟩ : ∃ k : Nat, wj = k := ⟨wj.toNat, by omega⟩
    rw [e1]
    simp only [↓mo_cs_s]
    generalize sA Ma g 0 u2 = Mb at h2 ⊢
    have h5 := h2.2.2.2.2.1
    obtain ⟨S1, s1, a1, r1⟩ := st_8 (S := S) (z := z) (n := n) (M := Mb) (by omega)
    obtain ⟨S2, s2, a2, r2⟩ := st_8 (S := S1) (z := z) (n := n + 1) (M := wr8 Mb n lowF) (by omega)
    have hA1 := a1.sk s2 (by omega)
    have h3 : LX S2 (wr8 (wr8 Mb n lowF) (n + 1) highF) p r e g (n + 2) q := h2.fl ⟨fun b _ hb => ⟨fun k => by rw [wr8_i (by omega), wr8_i (by omega)], fun k => by rw [wr8_n (by omega), wr8_n (by omega)]⟩, fun _ => rfl⟩ (s1.trans (s2.mono (by omega))) (by omega)
    have v1 : ∀ j : Nat, j < 8 → gA (wr8 (wr8 Mb n lowF) (n + 1) highF) n j = lowF j := fun j hj => by rw [wr8_n (by omega), wr8_a hj]
    have v2 : ∀ j : Nat, j < 8 → gA (wr8 (wr8 Mb n lowF) (n + 1) highF) (n + 1) j = highF j := fun j hj => wr8_a hj
    rw [r1 0 1 10 1 1 1 2 1]
    have el : wr8 Mb n (fun j => [(0 : Int), 1, 10, 1, 1, 1, 2, 1].getD j 0) = wr8 Mb n lowF := rfl
    rw [el]
    rw [show z + n + 1 = z + (n + 1) from rfl, r2 2 8 60 5 20 4 8 200]
    have eh : wr8 (wr8 Mb n lowF) (n + 1) (fun j => [(2 : Int), 8, 60, 5, 20, 4, 8, 200].getD j 0) = wr8 (wr8 Mb n lowF) (n + 1) highF := rfl
    rw [eh]
    generalize wr8 (wr8 Mb n lowF) (n + 1) highF = Mc at h3 v1 v2 ⊢
    have g1 := h3.1
    have es := h3.2.2.2.2.2.1.s (k := w) (by omega)
    have lv := lowF_v ⟨w, by omega⟩
    simp only at lv
    simp (disch := omega) only [↓Pg0 g1, ↓Pg1 g1, ↓Pg2 g1, ↓Pg3 g1, ↓Pv g1, Pa1 g1, Pu1 g1, Pa2 g1, Pu2 g1, Pa3 g1, Pu3 g1, Pa4 g1, Pu4 g1, Int.toNat_natCast, es]
    rw [hl_ai hA1 (by omega) (by omega) (by omega), hl_ai a2 (by omega) (by omega) (by omega), hl_ai hA1 (by omega) (by omega) (by omega), Int.toNat_natCast, v1 w (by omega), v2 w (by omega)]
    simp only [ji1, ji2, ji3, ji4, ji5, ji6, ji7, ji8, ji9, ji10, ji11, ji12, ji13, ji14, ji15, ji16, ji19, ji20, ji24, ji31, ji32, ji39, ji45, ji48, ji57, ji58, ji59, ji60, ji97, ji100, ji119, ji120, ji122, ji144, ji200, ji226, ji240, ji255, ji300, ji366, ji400, ji500, ji1000, jI_z, ↓jI_m1, jI_add, jI_sub, jI_mul, ↓jm1000, ↓jm100, ↓jm10, ↓jm9, ji50, ji65280, ji1664525, ji252645135, ji858993459, ji1013904223, ji1431655765, ji2147483639, ji2147483647]
    obtain ⟨x, u3, f1, f2, f3, h4⟩ := h3.draw (z := z) (m := highF w - lowF w + 1) (by omega) (by omega)
    rw [f1]
    simp (disch := omega) only [↓mo_cs_s, ji1, ji2, ji3, ji4, ji5, ji6, ji7, ji8, ji9, ji10, ji11, ji12, ji13, ji14, ji15, ji16, ji19, ji20, ji24, ji31, ji32, ji39, ji45, ji48, ji57, ji58, ji59, ji60, ji97, ji100, ji119, ji120, ji122, ji144, ji200, ji226, ji240, ji255, ji300, ji366, ji400, ji500, ji1000, jI_z, ↓jI_m1, jI_add, jI_sub, jI_mul, ↓jm1000, ↓jm100, ↓jm10, ↓jm9, ji50, ji65280, ji1664525, ji252645135, ji858993459, ji1013904223, ji1431655765, ji2147483639, ji2147483647, ↓Pg0 g1, ↓Pg1 g1, ↓Pg2 g1, ↓Pg3 g1, ↓Pv g1, Pa1 g1, Pu1 g1, Pa2 g1, Pu2 g1, Pa3 g1, Pu3 g1, Pa4 g1, Pu4 g1, Int.toNat_natCast]
    generalize sA Mc g 0 u3 = Md at h4 ⊢
    rw [gA_eq]
    obtain ⟨M', n1, q', hq'⟩ := L_c1b (z := z) (w := w) (v := lowF w + x) h4 (by omega) (by omega) (by omega) (by omega)
    rw [n1, if_pos rfl]
    exact ⟨S2, M', n + 2, q', mo_z_1, hq'⟩
  rw [if_neg (ne 1 (by omega) (by omega) w1)]
  by_cases w2 : wi = 2
  · rw [w2, if_pos rfl]; exact L_c2 h1
  rw [if_neg (ne 2 (by omega) (by omega) w2)]
  by_cases w3 : wi = 3
  · rw [w3, if_pos rfl]
    obtain ⟨pi, u2, e1, e2, e3, h2⟩ := h1.draw (z := z) (m := 4) (by omega) (by omega)
    obtain ⟨pr, rfl⟩ : ∃ k : Nat, pi = k := ⟨pi.toNat, by omega⟩
    rw [e1]
    simp only [↓mo_cs_s]
    exact L_c3 (by omega) h2
  rw [if_neg (ne 3 (by omega) (by omega) w3)]
  exact L_c5 h1

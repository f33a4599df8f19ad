variable {S : hSh}
/-! promise 3 -/
def rParse (q : hQ) (n : Int) : hR := if 0 ≤ n ∧ n ≤ q.2.2.2.1.length then (match sParse (q.2.2.2.1.take n.toNat) with
  | .inl e => (0, e.1, q.1, q.2.1, q.2.2.1, [], e.2)
  | .inr s => (0, 0, (s.1, fun _ => 0), [], fun _ => none, [], -1)) else (1, 0, q)
theorem okQ_parse {q : hQ} {n : Int} (ho : okQ q) : okQ (rParse q n).2.2 := by
  unfold rParse
  split
  · next g =>
    have hl : (q.2.2.2.1.take n.toNat).length ≤ 500 := by rw [List.length_take]; have := ho.2.2.2.2.1; omega
    split
    · next e he =>
      obtain ⟨_, _, h3, h4⟩ := sParse_e he
      exact ⟨ho.1, ho.2.1, ho.2.2.1, ho.2.2.2.1, by simp, by simp, by show -1 ≤ e.2; omega, by show e.2 ≤ 500; omega⟩
    · next s hs =>
      have hp' := sParse_s hs
      exact ⟨⟨hp'.1, fun k _ => by show (0 : Nat) < 65536; omega⟩, by simp, by simp, by simp, by simp, by simp, by show (-1 : Int) ≤ -1; omega, by show (-1 : Int) ≤ 500; omega⟩
  · exact ho
theorem C_parse {z : Nat} {M : hM} {q : hQ} {n : Int} (h : CI M q) (ho : okQ q) (hn : okW n) : OC S z M (m_X6_parse (hp S z M) z (jI n)) eA (rParse q n) := by
  obtain ⟨n0, n1⟩ := hn
  have hT := ho.2.2.2.2.1
  have e1 := h.2.2.2.1
  unfold rParse
  by_cases g : 0 ≤ n ∧ n ≤ q.2.2.2.1.length
  · rw [if_pos g]
    obtain ⟨n, rfl⟩ : ∃ i : Nat, n = i := ⟨n.toNat, by omega⟩
    rw [Int.toNat_natCast]
    have rd := X3_read (S := S) (z := z) (n := n) (T := q.2.2.2.1) (e0 := q.2.2.2.2) h.2.2.2 (by omega) hT ho.2.2.2.2.2.1
    have gg : ¬ (n : Int) < 0 := by omega
    have gh : ¬ (q.2.2.2.1.length : Int) < n := by omega
    have pre : ∀ r, (mo_cs (m_X3_read (hp S z M) (z + 37) (jI n)) fun x6 σ5 => if x6 = jI 0 then mo_gr σ5 z 6 0 fun x7 => mo_gr σ5 z 6 3 fun x8 => mo_cv σ5 x8 3 (m_X3_described σ5 x8) fun x10 σ9 => mo_cv σ9 x7 0 (m_X0_takeAll σ9 x7 x10) fun _ σ11 => mo_pv σ11 z 6 5 (.int (jI 0)) fun σ12 => m_X6_parse_l59 z hN_f σ12 x6 (jI 0) else some (.inr x6, σ5)) = r → m_X6_parse (hp S z M) z (jI n) = r := by
      intro r hr
      rw [← hr]
      unfold m_X6_parse m_X3_heldBytes
      simp (disch := omega) only [ji1, ji2, ji3, ji4, ji5, ji6, ji7, ji8, ji9, ji10, ji11, ji12, ji13, ji14, ji15, ji16, ji19, ji20, ji24, ji31, ji32, ji39, ji45, ji48, ji57, ji58, ji59, ji60, ji97, ji100, ji119, ji120, ji122, ji144, ji200, ji226, ji240, ji255, ji300, ji366, ji400, ji500, ji1000, jI_z, ↓jI_m1, jI_add, jI_sub, jI_mul, jI_lt, gg, if_false, ↓hg0_0, ↓hg0_1, ↓hg0_2, ↓hg0_3, ↓hg0_4, ↓hg0_5, hw0_5, ↓hg0_6, ↓hg0_7, ↓hv0, ↓hx0, ha132, hu132, ↓hl132, ↓hg37_0, ↓hg37_1, hw37_1, ↓hg37_2, hw37_2, ↓hg37_3, hw37_3, ↓hg37_4, hw37_4, ↓hg37_5, hw37_5, ↓hg37_6, hw37_6, ↓hg37_7, hw37_7, ↓hg37_8, hw37_8, ↓hg37_9, ↓hv37, ↓hx37, ha38, hu38, ↓hl38, ↓mo_ns_r, ↓hn0, ↓mo_cs_s, ↓mo_xs_r, ↓mo_xs_l, ↓mo_nl_s, mo_z_0, mo_z_1, e1, gh]
    cases hp' : sParse (q.2.2.2.1.take n) with
    | inl e =>
      rw [hp'] at rd
      obtain ⟨M1, r1, r2, r3, r4⟩ := rd
      obtain ⟨k1, k2, k3, k4⟩ := sParse_e hp'
      refine ⟨M1, pre _ ?_, ⟨h.1.cg (fun a _ _ => r3 a (by omega)), h.2.1.cg ho.2.2.1 ((r3 0 (by omega)).1 5) (fun a _ _ => r3 a (by omega)) (fun k _ _ => r4 k), h.2.2.1.cg (fun a _ _ => r3 a (by omega)), r2⟩, fun a ha => r3 a (by omega)⟩
      rw [r1]
      simp (disch := omega) only [↓mo_ns_r, ↓hn0, ↓mo_cs_s, ↓mo_xs_r, ↓mo_xs_l, ↓mo_nl_s, mo_z_0, mo_z_1, jI_eq, show ¬ e.1 = 0 by omega, if_false]
      rfl
    | inr s =>
      rw [hp'] at rd
      obtain ⟨M1, r1, r2, r3, r4, r5, r6⟩ := rd
      have hs := sParse_s hp'
      obtain ⟨M2, s1, s2, s3, s4, s5⟩ := X0_ta (S := S) (z := z) (a := 39) (b := 1) rfl rfl (by omega) r3 r4 hs.1
      have hs4 : Fr 1 8 M1 M2 := s4
      have A : ∀ a, (a < 37 ∨ 46 ≤ a) → (a < 1 ∨ 8 ≤ a) → (∀ k, gI M2 a k = gI M a k) ∧ ∀ k, gA M2 a k = gA M a k := fun a h1 h2 => ⟨fun k => by rw [(hs4 a h2).1, (r5 a h1).1], fun k => by rw [(hs4 a h2).2, (r5 a h1).2]⟩
      have B : ∀ a, a ≠ 0 → a ≠ 132 → (a < 37 ∨ 46 ≤ a) → (a < 1 ∨ 8 ≤ a) → (∀ k, gI (sA (sA (sI M2 0 5 0) 132 0 0) 132 1 0) a k = gI M a k) ∧ ∀ k, gA (sA (sA (sI M2 0 5 0) 132 0 0) 132 1 0) a k = gA M a k := fun a h0 h9 h1 h2 => ⟨fun k => by rw [gI_sA, gI_sA, gI_sI, if_neg (by omega), (A a h1 h2).1], fun k => by rw [gA_sA, if_neg (by omega), gA_sA, if_neg (by omega), gA_sI, (A a h1 h2).2]⟩
      have V : ∀ k, gV (sA (sA (sI M2 0 5 0) 132 0 0) 132 1 0) k = gV M k := fun k => by rw [gV_sA, gV_sA, gV_sI, s5, r6]
      have hU2 : UB M2 1 (s.1, fun _ => 0) := ⟨s2, s3⟩
      refine ⟨sA (sA (sI M2 0 5 0) 132 0 0) 132 1 0, pre _ ?_, ⟨hU2.cg (fun a g1 g2 => ⟨fun k => by rw [gI_sA, gI_sA, gI_sI, if_neg (by omega)], fun k => by rw [gA_sA, if_neg (by omega), gA_sA, if_neg (by omega), gA_sI]⟩), ⟨by rw [gI_sA, gI_sA, gI_sI, if_pos ⟨rfl, rfl⟩]; rfl, fun i hi => by rw [V]; exact h.2.1.2.1 i hi, fun i j hi hj hij => by rw [V, V] at hij; exact h.2.1.2.2.1 i j hi hj hij, fun i u hu => by simp at hu⟩, fun i hi => ⟨?_, fun u hu => by simp at hu⟩, ?_⟩, fun a ha => B a (by omega) (by omega) (by omega) (by omega)⟩
      · rw [r1]
        unfold m_X3_described
        simp (disch := omega) only [↓mo_ns_r, ↓hn0, ↓mo_cs_s, ↓mo_xs_r, ↓mo_xs_l, ↓mo_nl_s, mo_z_0, mo_z_1, if_true, ↓hg0_0, ↓hg0_1, ↓hg0_2, ↓hg0_3, ↓hg0_4, ↓hg0_5, hw0_5, ↓hg0_6, ↓hg0_7, ↓hv0, ↓hx0, ha132, hu132, ↓hl132, ↓hg37_0, ↓hg37_1, hw37_1, ↓hg37_2, hw37_2, ↓hg37_3, hw37_3, ↓hg37_4, hw37_4, ↓hg37_5, hw37_5, ↓hg37_6, hw37_6, ↓hg37_7, hw37_7, ↓hg37_8, hw37_8, ↓hg37_9, ↓hv37, ↓hx37, ha38, hu38, ↓hl38, ↓Bv (b := 1) rfl]
        rw [s1]
        simp (disch := omega) only [↓mo_ns_r, ↓hn0, ↓mo_cs_s, ↓mo_xs_r, ↓mo_xs_l, ↓mo_nl_s, mo_z_0, mo_z_1, ↓hg0_0, ↓hg0_1, ↓hg0_2, ↓hg0_3, ↓hg0_4, ↓hg0_5, hw0_5, ↓hg0_6, ↓hg0_7, ↓hv0, ↓hx0, ha132, hu132, ↓hl132]
        rw [show hN_f = 99997 + 1 + 1 + 1 from rfl]
        unfold m_X6_parse_l59
        simp (disch := omega) only [ji1, ji2, ji3, ji4, ji5, ji6, ji7, ji8, ji9, ji10, ji11, ji12, ji13, ji14, ji15, ji16, ji19, ji20, ji24, ji31, ji32, ji39, ji45, ji48, ji57, ji58, ji59, ji60, ji97, ji100, ji119, ji120, ji122, ji144, ji200, ji226, ji240, ji255, ji300, ji366, ji400, ji500, ji1000, jI_z, ↓jI_m1, jI_add, jI_sub, jI_mul, jI_lt, show ((0 : Int) < 2) = True from eq_true (by decide), if_true, ↓hg0_0, ↓hg0_1, ↓hg0_2, ↓hg0_3, ↓hg0_4, ↓hg0_5, hw0_5, ↓hg0_6, ↓hg0_7, ↓hv0, ↓hx0, ha132, hu132, ↓hl132, vpn0]
        unfold m_X6_parse_l59
        simp (disch := omega) only [ji1, ji2, ji3, ji4, ji5, ji6, ji7, ji8, ji9, ji10, ji11, ji12, ji13, ji14, ji15, ji16, ji19, ji20, ji24, ji31, ji32, ji39, ji45, ji48, ji57, ji58, ji59, ji60, ji97, ji100, ji119, ji120, ji122, ji144, ji200, ji226, ji240, ji255, ji300, ji366, ji400, ji500, ji1000, jI_z, ↓jI_m1, jI_add, jI_sub, jI_mul, jI_lt, show ((0 : Int) + 1 < 2) = True from eq_true (by decide), if_true, ↓hg0_0, ↓hg0_1, ↓hg0_2, ↓hg0_3, ↓hg0_4, ↓hg0_5, hw0_5, ↓hg0_6, ↓hg0_7, ↓hv0, ↓hx0, ha132, hu132, ↓hl132, vpn0]
        unfold m_X6_parse_l59
        simp (disch := omega) only [ji1, ji2, ji3, ji4, ji5, ji6, ji7, ji8, ji9, ji10, ji11, ji12, ji13, ji14, ji15, ji16, ji19, ji20, ji24, ji31, ji32, ji39, ji45, ji48, ji57, ji58, ji59, ji60, ji97, ji100, ji119, ji120, ji122, ji144, ji200, ji226, ji240, ji255, ji300, ji366, ji400, ji500, ji1000, jI_z, ↓jI_m1, jI_add, jI_sub, jI_mul, jI_lt, show ((0 : Int) + 1 + 1 < 2) = False from eq_false (by decide), if_false]
        rfl
      · have : gA (sA (sA (sI M2 0 5 0) 132 0 0) 132 1 0) 132 i = 0 := by
          rcases (show i = 0 ∨ i = 1 by omega) with rfl | rfl
          · rw [gA_sA, if_neg (by omega), gA_sA, if_pos ⟨rfl, rfl⟩]
          · rw [gA_sA, if_pos ⟨rfl, rfl⟩]
        rw [this]; rfl
      · exact r2.cg (fun a g1 => ⟨fun k => by rw [gI_sA, gI_sA, gI_sI, if_neg (by omega), (hs4 a (by omega)).1], fun k => by rw [gA_sA, if_neg (by omega), gA_sA, if_neg (by omega), gA_sI, (hs4 a (by omega)).2]⟩)
  · rw [if_neg g]
    refine OC.no h (by decide) ?_
    unfold m_X6_parse m_X3_heldBytes
    simp (disch := omega) only [ji1, ji2, ji3, ji4, ji5, ji6, ji7, ji8, ji9, ji10, ji11, ji12, ji13, ji14, ji15, ji16, ji19, ji20, ji24, ji31, ji32, ji39, ji45, ji48, ji57, ji58, ji59, ji60, ji97, ji100, ji119, ji120, ji122, ji144, ji200, ji226, ji240, ji255, ji300, ji366, ji400, ji500, ji1000, jI_z, ↓jI_m1, jI_add, jI_sub, jI_mul, jI_lt, ↓hg0_0, ↓hg0_1, ↓hg0_2, ↓hg0_3, ↓hg0_4, ↓hg0_5, hw0_5, ↓hg0_6, ↓hg0_7, ↓hv0, ↓hx0, ha132, hu132, ↓hl132, ↓hg37_0, ↓hg37_1, hw37_1, ↓hg37_2, hw37_2, ↓hg37_3, hw37_3, ↓hg37_4, hw37_4, ↓hg37_5, hw37_5, ↓hg37_6, hw37_6, ↓hg37_7, hw37_7, ↓hg37_8, hw37_8, ↓hg37_9, ↓hv37, ↓hx37, ha38, hu38, ↓hl38, ↓mo_ns_r, ↓hn0, ↓mo_cs_s, ↓mo_xs_r, ↓mo_xs_l, ↓mo_nl_s, mo_z_0, mo_z_1, e1]
    by_cases g0 : n < 0
    · rw [if_pos g0]; rfl
    · rw [if_neg g0, if_pos (by omega)]; rfl

/-! promise 3 -/
def rParse (q : hQ) (n : Int) : hR := if 0 ≤ n ∧ n ≤ q.2.2.2.1.length then (match sParse (q.2.2.2.1.take n.toNat) with
  | .inl e => (0, e.1, q.1, q.2.1, q.2.2.1, [], e.2)
  | .inr s => (0, 0, (s.1, fun _ => 0), [], fun _ => none, [], -1)) else (1, 0, q)
theorem okQ_parse {q : hQ} {n : Int} (ho : okQ q) : okQ (rParse q n).2.2 := by
  unfold rParse
  split
  · next g =>
    have hl : (q.2.2.2.1.take n.toNat).length ≤ 500 := by rw [List.length_take]; have := ho.2.2.2.2.1; omega
    split
    · next e he =>
      obtain ⟨_, _, h3, h4⟩ := sParse_e he
      exact ⟨ho.1, ho.2.1, ho.2.2.1, ho.2.2.2.1, by simp, by simp, by show -1 ≤ e.2; omega, by show e.2 ≤ 500; omega⟩
    · next s hs =>
      have hp' := sParse_s hs
      exact ⟨⟨hp'.1, fun k _ => by show (0 : Nat) < 65536; omega⟩, by simp, by simp, by simp, by simp, by simp, by show (-1 : Int) ≤ -1; omega, by show (-1 : Int) ≤ 500; omega⟩
  · exact ho
theorem C_parse {z : Nat} {M : hM} {q : hQ} {n : Int} (h : CI M q) (ho : okQ q) (hn : okW n) : OC z M (m_X6_parse (hp z M) z (jI n)) eA (rParse q n) := by
  obtain ⟨n0, n1⟩ := hn
  have hT := ho.2.2.2.2.1
  have e1 := h.2.2.2.1
  unfold rParse
  by_cases g : 0 ≤ n ∧ n ≤ q.2.2.2.1.length
  · rw [if_pos g]
    obtain ⟨n, rfl⟩ : ∃ i : Nat, n = i := ⟨n.toNat, by omega⟩
    rw [Int.toNat_natCast]
    have rd := X3_read (z := z) (n := n) (T := q.2.2.2.1) (e0 := q.2.2.2.2) h.2.2.2 (by omega) hT ho.2.2.2.2.2.1
    have gg : ¬ (n : Int) < 0 := by omega
    have gh : ¬ (q.2.2.2.1.length : Int) < n := by omega
    have pre : ∀ r, (mo_cs (m_X3_read (hp z M) (z + 37) (jI n)) fun x6 σ5 => if x6 = jI 0 then mo_gr σ5 z 6 0 fun x7 => mo_gr σ5 z 6 3 fun x8 => mo_cv σ5 x8 3 (m_X3_described σ5 x8) fun x10 σ9 => mo_cv σ9 x7 0 (m_X0_takeAll σ9 x7 x10) fun _ σ11 => mo_pv σ11 z 6 5 (.int (jI 0)) fun σ12 => m_X6_parse_l59 z hN_f σ12 x6 (jI 0) else some (.inr x6, σ5)) = r → m_X6_parse (hp z M) z (jI n) = r := by
      intro r hr
      rw [← hr]
      unfold m_X6_parse m_X3_heldBytes
      simp (disch := omega) only [ji1, ji2, ji3, ji4, ji5, ji6, ji7, ji8, ji9, ji10, ji11, ji12, ji13, ji14, ji15, ji16, ji19, ji20, ji39, ji119, ji144, ji366, ji24, ji31, ji32, ji45, ji48, ji57, ji58, ji59, ji97, ji120, ji122, ji183, ji200, ji226, ji240, ji255, ji500, jI_z, ↓jI_m1, jI_add, jI_sub, jI_mul, jI_lt, gg, if_false, ↓hg0_0, ↓hg0_1, ↓hg0_2, ↓hg0_3, ↓hg0_4, ↓hg0_5, hw0_5, ↓hg0_6, ↓hg0_7, ↓hv0, ↓hx0, ha132, hu132, ↓hl132, ↓hg37_0, ↓hg37_1, hw37_1, ↓hg37_2, hw37_2, ↓hg37_3, hw37_3, ↓hg37_4, hw37_4, ↓hg37_5, hw37_5, ↓hg37_6, hw37_6, ↓hg37_7, hw37_7, ↓hg37_8, hw37_8, ↓hg37_9, ↓hv37, ↓hx37, ha38, hu38, ↓hl38, ↓mo_cs_s, ↓mo_xs_r, ↓mo_xs_l, ↓mo_nl_s, mo_z_0, mo_z_1, e1, gh]
    cases hp' : sParse (q.2.2.2.1.take n) with
    | inl e =>
      rw [hp'] at rd
      obtain ⟨M1, r1, r2, r3, r4⟩ := rd
      obtain ⟨k1, k2, k3, k4⟩ := sParse_e hp'
      refine ⟨M1, pre _ ?_, ⟨h.1.cg (fun a _ _ => r3 a (by omega)), h.2.1.cg ho.2.2.1 ((r3 0 (by omega)).1 5) (fun a _ _ => r3 a (by omega)) (fun k _ _ => r4 k), h.2.2.1.cg (fun a _ _ => r3 a (by omega)), r2⟩, fun a ha => r3 a (by omega)⟩
      rw [r1]
      simp (disch := omega) only [↓mo_cs_s, ↓mo_xs_r, ↓mo_xs_l, ↓mo_nl_s, mo_z_0, mo_z_1, jI_eq, show ¬ e.1 = 0 by omega, if_false]
      rfl
    | inr s =>
      rw [hp'] at rd
      obtain ⟨M1, r1, r2, r3, r4, r5, r6⟩ := rd
      have hs := sParse_s hp'
      obtain ⟨M2, s1, s2, s3, s4, s5⟩ := X0_ta (z := z) (a := 39) (b := 1) rfl rfl (by omega) r3 r4 hs.1
      have hs4 : Fr 1 8 M1 M2 := s4
      have A : ∀ a, (a < 37 ∨ 46 ≤ a) → (a < 1 ∨ 8 ≤ a) → (∀ k, gI M2 a k = gI M a k) ∧ ∀ k, gA M2 a k = gA M a k := fun a h1 h2 => ⟨fun k => by rw [(hs4 a h2).1, (r5 a h1).1], fun k => by rw [(hs4 a h2).2, (r5 a h1).2]⟩
      have B : ∀ a, a ≠ 0 → a ≠ 132 → (a < 37 ∨ 46 ≤ a) → (a < 1 ∨ 8 ≤ a) → (∀ k, gI (sA (sA (sI M2 0 5 0) 132 0 0) 132 1 0) a k = gI M a k) ∧ ∀ k, gA (sA (sA (sI M2 0 5 0) 132 0 0) 132 1 0) a k = gA M a k := fun a h0 h9 h1 h2 => ⟨fun k => by rw [gI_sA, gI_sA, gI_sI, if_neg (by omega), (A a h1 h2).1], fun k => by rw [gA_sA, if_neg (by omega), gA_sA, if_neg (by omega), gA_sI, (A a h1 h2).2]⟩
      have V : ∀ k, gV (sA (sA (sI M2 0 5 0) 132 0 0) 132 1 0) k = gV M k := fun k => by rw [gV_sA, gV_sA, gV_sI, s5, r6]
      have hU2 : UB M2 1 (s.1, fun _ => 0) := ⟨s2, s3⟩
      refine ⟨sA (sA (sI M2 0 5 0) 132 0 0) 132 1 0, pre _ ?_, ⟨hU2.cg (fun a g1 g2 => ⟨fun k => by rw [gI_sA, gI_sA, gI_sI, if_neg (by omega)], fun k => by rw [gA_sA, if_neg (by omega), gA_sA, if_neg (by omega), gA_sI]⟩), ⟨by rw [gI_sA, gI_sA, gI_sI, if_pos ⟨rfl, rfl⟩]; rfl, fun i hi => by rw [V]; exact h.2.1.2.1 i hi, fun i j hi hj hij => by rw [V, V] at hij; exact h.2.1.2.2.1 i j hi hj hij, fun i u hu => by simp at hu⟩, fun i hi => ⟨?_, fun u hu => by simp at hu⟩, ?_⟩, fun a ha => B a (by omega) (by omega) (by omega) (by omega)⟩
      · rw [r1]
        unfold m_X3_described
        simp (disch := omega) only [↓mo_cs_s, ↓mo_xs_r, ↓mo_xs_l, ↓mo_nl_s, mo_z_0, mo_z_1, if_true, ↓hg0_0, ↓hg0_1, ↓hg0_2, ↓hg0_3, ↓hg0_4, ↓hg0_5, hw0_5, ↓hg0_6, ↓hg0_7, ↓hv0, ↓hx0, ha132, hu132, ↓hl132, ↓hg37_0, ↓hg37_1, hw37_1, ↓hg37_2, hw37_2, ↓hg37_3, hw37_3, ↓hg37_4, hw37_4, ↓hg37_5, hw37_5, ↓hg37_6, hw37_6, ↓hg37_7, hw37_7, ↓hg37_8, hw37_8, ↓hg37_9, ↓hv37, ↓hx37, ha38, hu38, ↓hl38, ↓Bv (b := 1) rfl]
        rw [s1]
        simp (disch := omega) only [↓mo_cs_s, ↓mo_xs_r, ↓mo_xs_l, ↓mo_nl_s, mo_z_0, mo_z_1, ↓hg0_0, ↓hg0_1, ↓hg0_2, ↓hg0_3, ↓hg0_4, ↓hg0_5, hw0_5, ↓hg0_6, ↓hg0_7, ↓hv0, ↓hx0, ha132, hu132, ↓hl132]
        rw [show hN_f = 99997 + 1 + 1 + 1 from rfl]
        unfold m_X6_parse_l59
        simp (disch := omega) only [ji1, ji2, ji3, ji4, ji5, ji6, ji7, ji8, ji9, ji10, ji11, ji12, ji13, ji14, ji15, ji16, ji19, ji20, ji39, ji119, ji144, ji366, ji24, ji31, ji32, ji45, ji48, ji57, ji58, ji59, ji97, ji120, ji122, ji183, ji200, ji226, ji240, ji255, ji500, jI_z, ↓jI_m1, jI_add, jI_sub, jI_mul, jI_lt, show ((0 : Int) < 2) = True from eq_true (by decide), if_true, ↓hg0_0, ↓hg0_1, ↓hg0_2, ↓hg0_3, ↓hg0_4, ↓hg0_5, hw0_5, ↓hg0_6, ↓hg0_7, ↓hv0, ↓hx0, ha132, hu132, ↓hl132, vpn0]
        unfold m_X6_parse_l59
        simp (disch := omega) only [ji1, ji2, ji3, ji4, ji5, ji6, ji7, ji8, ji9, ji10, ji11, ji12, ji13, ji14, ji15, ji16, ji19, ji20, ji39, ji119, ji144, ji366, ji24, ji31, ji32, ji45, ji48, ji57, ji58, ji59, ji97, ji120, ji122, ji183, ji200, ji226, ji240, ji255, ji500, jI_z, ↓jI_m1, jI_add, jI_sub, jI_mul, jI_lt, show ((0 : Int) + 1 < 2) = True from eq_true (by decide), if_true, ↓hg0_0, ↓hg0_1, ↓hg0_2, ↓hg0_3, ↓hg0_4, ↓hg0_5, hw0_5, ↓hg0_6, ↓hg0_7, ↓hv0, ↓hx0, ha132, hu132, ↓hl132, vpn0]
        unfold m_X6_parse_l59
        simp (disch := omega) only [ji1, ji2, ji3, ji4, ji5, ji6, ji7, ji8, ji9, ji10, ji11, ji12, ji13, ji14, ji15, ji16, ji19, ji20, ji39, ji119, ji144, ji366, ji24, ji31, ji32, ji45, ji48, ji57, ji58, ji59, ji97, ji120, ji122, ji183, ji200, ji226, ji240, ji255, ji500, jI_z, ↓jI_m1, jI_add, jI_sub, jI_mul, jI_lt, show ((0 : Int) + 1 + 1 < 2) = False from eq_false (by decide), if_false]
        rfl
      · have : gA (sA (sA (sI M2 0 5 0) 132 0 0) 132 1 0) 132 i = 0 := by
          rcases (show i = 0 ∨ i = 1 by omega) with rfl | rfl
          · rw [gA_sA, if_neg (by omega), gA_sA, if_pos ⟨rfl, rfl⟩]
          · rw [gA_sA, if_pos ⟨rfl, rfl⟩]
        rw [this]; rfl
      · exact r2.cg (fun a g1 => ⟨fun k => by rw [gI_sA, gI_sA, gI_sI, if_neg (by omega), (hs4 a (by omega)).1], fun k => by rw [gA_sA, if_neg (by omega), gA_sA, if_neg (by omega), gA_sI, (hs4 a (by omega)).2]⟩)
  · rw [if_neg g]
    refine OC.no h (by decide) ?_
    unfold m_X6_parse m_X3_heldBytes
    simp (disch := omega) only [ji1, ji2, ji3, ji4, ji5, ji6, ji7, ji8, ji9, ji10, ji11, ji12, ji13, ji14, ji15, ji16, ji19, ji20, ji39, ji119, ji144, ji366, ji24, ji31, ji32, ji45, ji48, ji57, ji58, ji59, ji97, ji120, ji122, ji183, ji200, ji226, ji240, ji255, ji500, jI_z, ↓jI_m1, jI_add, jI_sub, jI_mul, jI_lt, ↓hg0_0, ↓hg0_1, ↓hg0_2, ↓hg0_3, ↓hg0_4, ↓hg0_5, hw0_5, ↓hg0_6, ↓hg0_7, ↓hv0, ↓hx0, ha132, hu132, ↓hl132, ↓hg37_0, ↓hg37_1, hw37_1, ↓hg37_2, hw37_2, ↓hg37_3, hw37_3, ↓hg37_4, hw37_4, ↓hg37_5, hw37_5, ↓hg37_6, hw37_6, ↓hg37_7, hw37_7, ↓hg37_8, hw37_8, ↓hg37_9, ↓hv37, ↓hx37, ha38, hu38, ↓hl38, ↓mo_cs_s, ↓mo_xs_r, ↓mo_xs_l, ↓mo_nl_s, mo_z_0, mo_z_1, e1]
    by_cases g0 : n < 0
    · rw [if_pos g0]; rfl
    · rw [if_neg g0, if_pos (by omega)]; rfl
theorem M_parse {z : Nat} {M : hM} {q : hQ} {n : Int} (h : MI M q) (ho : okQ q) (hn : okW n) : OM z M (m_X7_parse (hp z M) (z + 133) (jI n)) (rParse q n) := by
  have hT := ho.2.2.2.2.1
  have h0 := h.sI0 (v := 0)
  have e3 := h0.2.2.2.1
  unfold rParse
  by_cases g : 0 ≤ n ∧ n ≤ q.2.2.2.1.length
  · rw [if_pos g]
    have wi := X7_wi1 (v := n) (lo := 0) (hi := q.2.2.2.1.length) hn (okW_n (by omega) (by omega)) (okW_n (by omega) (by omega)) g (hp z (sI M 133 0 0))
    obtain ⟨n, rfl⟩ : ∃ i : Nat, n = i := ⟨n.toNat, by omega⟩
    rw [Int.toNat_natCast]
    have hlen : (q.2.2.2.1.take n).length = n := by rw [List.length_take]; omega
    -- the beginning
    have F0 : ∀ a, a ≠ 133 → ∀ k, gI (sI (sI (sI (sI (sI (sI (sI M 133 0 0) 133 4 n) 133 3 0) 133 6 0) 133 9 0) 133 10 (-1)) 133 12 0) a k = gI M a k := fun a ha k => by
      rw [gI_sI, if_neg (by omega), gI_sI, if_neg (by omega), gI_sI, if_neg (by omega), gI_sI, if_neg (by omega), gI_sI, if_neg (by omega), gI_sI, if_neg (by omega), gI_sI, if_neg (by omega)]
    have Fh : ∀ k, 12 < k → gI (sI (sI (sI (sI (sI (sI (sI M 133 0 0) 133 4 n) 133 3 0) 133 6 0) 133 9 0) 133 10 (-1)) 133 12 0) 133 k = gI M 133 k := fun k hk => by
      rw [gI_sI, if_neg (by omega), gI_sI, if_neg (by omega), gI_sI, if_neg (by omega), gI_sI, if_neg (by omega), gI_sI, if_neg (by omega), gI_sI, if_neg (by omega), gI_sI, if_neg (by omega)]
    have g0 : gI (sI (sI (sI (sI (sI (sI (sI M 133 0 0) 133 4 n) 133 3 0) 133 6 0) 133 9 0) 133 10 (-1)) 133 12 0) 133 0 = 0 := by
      rw [gI_sI, if_neg (by omega), gI_sI, if_neg (by omega), gI_sI, if_neg (by omega), gI_sI, if_neg (by omega), gI_sI, if_neg (by omega), gI_sI, if_neg (by omega), gI_sI, if_pos ⟨rfl, rfl⟩]
    have g4 : gI (sI (sI (sI (sI (sI (sI (sI M 133 0 0) 133 4 n) 133 3 0) 133 6 0) 133 9 0) 133 10 (-1)) 133 12 0) 133 4 = n := by
      rw [gI_sI, if_neg (by omega), gI_sI, if_neg (by omega), gI_sI, if_neg (by omega), gI_sI, if_neg (by omega), gI_sI, if_neg (by omega), gI_sI, if_pos ⟨rfl, rfl⟩]
    have g3 : gI (sI (sI (sI (sI (sI (sI (sI M 133 0 0) 133 4 n) 133 3 0) 133 6 0) 133 9 0) 133 10 (-1)) 133 12 0) 133 3 = 0 := by
      rw [gI_sI, if_neg (by omega), gI_sI, if_neg (by omega), gI_sI, if_neg (by omega), gI_sI, if_neg (by omega), gI_sI, if_pos ⟨rfl, rfl⟩]
    have g6 : gI (sI (sI (sI (sI (sI (sI (sI M 133 0 0) 133 4 n) 133 3 0) 133 6 0) 133 9 0) 133 10 (-1)) 133 12 0) 133 6 = 0 := by
      rw [gI_sI, if_neg (by omega), gI_sI, if_neg (by omega), gI_sI, if_neg (by omega), gI_sI, if_pos ⟨rfl, rfl⟩]
    have g9 : gI (sI (sI (sI (sI (sI (sI (sI M 133 0 0) 133 4 n) 133 3 0) 133 6 0) 133 9 0) 133 10 (-1)) 133 12 0) 133 9 = 0 := by
      rw [gI_sI, if_neg (by omega), gI_sI, if_neg (by omega), gI_sI, if_pos ⟨rfl, rfl⟩]
    have g10 : gI (sI (sI (sI (sI (sI (sI (sI M 133 0 0) 133 4 n) 133 3 0) 133 6 0) 133 9 0) 133 10 (-1)) 133 12 0) 133 10 = -1 := by
      rw [gI_sI, if_neg (by omega), gI_sI, if_pos ⟨rfl, rfl⟩]
    have g12 : gI (sI (sI (sI (sI (sI (sI (sI M 133 0 0) 133 4 n) 133 3 0) 133 6 0) 133 9 0) 133 10 (-1)) 133 12 0) 133 12 = 0 := by
      rw [gI_sI, if_pos ⟨rfl, rfl⟩]
    have gA0 : ∀ a k, gA (sI (sI (sI (sI (sI (sI (sI M 133 0 0) 133 4 n) 133 3 0) 133 6 0) 133 9 0) 133 10 (-1)) 133 12 0) a k = gA M a k := fun a k => rfl
    have gV0 : Vr M (sI (sI (sI (sI (sI (sI (sI M 133 0 0) 133 4 n) 133 3 0) 133 6 0) 133 9 0) 133 10 (-1)) 133 12 0) := fun k => rfl
    revert F0 Fh g0 g4 g3 g6 g9 g10 g12 gA0 gV0
    generalize hM0 : (sI (sI (sI (sI (sI (sI (sI M 133 0 0) 133 4 n) 133 3 0) 133 6 0) 133 9 0) 133 10 (-1)) 133 12 0) = M0
    intro F0 Fh g0 g4 g3 g6 g9 g10 g12 gA0 gV0
    obtain ⟨M1, r1, r2, r3, r4, r5, r6⟩ := X7_bg (z := z) (M := M0) (a := 136) (Or.inr (Or.inl rfl))
    have hT0 : ∀ k v, (q.2.2.2.1.take n)[k]? = some v → gA M1 135 k = sby v := by
      intro k v hv
      rw [r4 135 k (by omega), gA0]
      rw [List.getElem?_take] at hv
      split at hv
      · exact h.2.2.2.2.1 k v hv
      · cases hv
    have hT1 : TXm M1 (q.2.2.2.1.take n) := ⟨by rw [r5, g4, hlen], hT0, by omega, fun v hv => ho.2.2.2.2.2.1 v (List.mem_of_mem_take hv)⟩
    obtain ⟨M2, s1, s2, s3⟩ := X7_adv (z := z) hT1 (p := 0) (by omega) (by rw [r5, g6]; rfl)
    have hT2 := hT1.v s3
    have hP1 : MP0 M1 (c0, fun _ => false, 0) := ⟨r2, ⟨0, by rw [r5, g12]; rfl, by omega, Nat.zero_testBit _, Nat.zero_testBit _, Nat.zero_testBit _, Nat.zero_testBit _⟩, by rw [r5, g9], by rw [r5, g10]⟩
    have hd := X7_head (z := z) hT2 ⟨hP1.v s3, s2⟩
    have pre : ∀ r, (mo_cs (m_X7_head (hp z M2) (z + 133)) fun x20 σ19 => m_X7_parse_l82 (z + 133) hN_f σ19 x20) = r → m_X7_parse (hp z M) (z + 133) (jI n) = r := by
      intro r hr
      rw [← hr]
      unfold m_X7_parse m_X7_parse_j23
      simp (disch := omega) only [ji1, ji2, ji3, ji4, ji5, ji6, ji7, ji8, ji9, ji10, ji11, ji12, ji13, ji14, ji15, ji16, ji19, ji20, ji39, ji119, ji144, ji366, ji24, ji31, ji32, ji45, ji48, ji57, ji58, ji59, ji97, ji120, ji122, ji183, ji200, ji226, ji240, ji255, ji500, jI_z, ↓jI_m1, jI_add, jI_sub, jI_mul, ↓hg133_0, hw133_0, ↓hg133_1, ↓hg133_2, ↓hg133_3, hw133_3, ↓hg133_4, hw133_4, ↓hg133_5, hw133_5, ↓hg133_6, hw133_6, ↓hg133_7, hw133_7, ↓hg133_8, hw133_8, ↓hg133_9, hw133_9, ↓hg133_10, hw133_10, ↓hg133_11, hw133_11, ↓hg133_12, hw133_12, ↓hg133_13, ↓hg133_14, hw133_14, ↓hg133_15, ↓hg133_16, ↓hg133_17, ↓hg133_18, ↓hg133_19, ↓hg133_20, ↓hg133_21, hw133_21, ↓hg133_22, ↓hg133_23, hw133_23, ↓hg133_24, hw133_24, ↓hg133_25, hw133_25, ↓hg133_26, hw133_26, ↓hg133_27, hw133_27, ↓hg133_28, ↓hg133_29, hw133_29, ↓hg133_30, hw133_30, ↓hg133_31, hw133_31, ↓hg133_32, hw133_32, ↓hg133_33, hw133_33, ↓hg133_34, hw133_34, ↓hg133_35, hw133_35, ↓hg133_36, hw133_36, ↓hg133_37, ↓hg133_38, ↓hg133_39, ↓hv133, ↓hx133, ha134, hu134, ↓hl134, ha135, hu135, ↓hl135, ha136, hu136, ↓hl136, ha137, hu137, ↓hl137, ha138, hu138, ↓hl138, ha139, hu139, ↓hl139, ha140, hu140, ↓hl140, ha141, hu141, ↓hl141, ha142, hu142, ↓hl142, ha143, hu143, ↓hl143, ha144, hu144, ↓hl144, ha145, hu145, ↓hl145, ha146, hu146, ↓hl146, ha147, hu147, ↓hl147, e3]
      rw [wi]
      simp (disch := omega) only [↓mo_cs_s, ↓mo_xs_r, ↓mo_xs_l, ↓mo_nl_s, mo_z_0, mo_z_1, j10, if_false, ↓hg133_0, hw133_0, ↓hg133_1, ↓hg133_2, ↓hg133_3, hw133_3, ↓hg133_4, hw133_4, ↓hg133_5, hw133_5, ↓hg133_6, hw133_6, ↓hg133_7, hw133_7, ↓hg133_8, hw133_8, ↓hg133_9, hw133_9, ↓hg133_10, hw133_10, ↓hg133_11, hw133_11, ↓hg133_12, hw133_12, ↓hg133_13, ↓hg133_14, hw133_14, ↓hg133_15, ↓hg133_16, ↓hg133_17, ↓hg133_18, ↓hg133_19, ↓hg133_20, ↓hg133_21, hw133_21, ↓hg133_22, ↓hg133_23, hw133_23, ↓hg133_24, hw133_24, ↓hg133_25, hw133_25, ↓hg133_26, hw133_26, ↓hg133_27, hw133_27, ↓hg133_28, ↓hg133_29, hw133_29, ↓hg133_30, hw133_30, ↓hg133_31, hw133_31, ↓hg133_32, hw133_32, ↓hg133_33, hw133_33, ↓hg133_34, hw133_34, ↓hg133_35, hw133_35, ↓hg133_36, hw133_36, ↓hg133_37, ↓hg133_38, ↓hg133_39, ↓hv133, ↓hx133, ha134, hu134, ↓hl134, ha135, hu135, ↓hl135, ha136, hu136, ↓hl136, ha137, hu137, ↓hl137, ha138, hu138, ↓hl138, ha139, hu139, ↓hl139, ha140, hu140, ↓hl140, ha141, hu141, ↓hl141, ha142, hu142, ↓hl142, ha143, hu143, ↓hl143, ha144, hu144, ↓hl144, ha145, hu145, ↓hl145, ha146, hu146, ↓hl146, ha147, hu147, ↓hl147]
      rw [X7_th0 sI00]
      simp (disch := omega) only [↓mo_cs_s, ↓mo_xs_r, ↓mo_xs_l, ↓mo_nl_s, mo_z_0, mo_z_1, if_true, ↓hg133_0, hw133_0, ↓hg133_1, ↓hg133_2, ↓hg133_3, hw133_3, ↓hg133_4, hw133_4, ↓hg133_5, hw133_5, ↓hg133_6, hw133_6, ↓hg133_7, hw133_7, ↓hg133_8, hw133_8, ↓hg133_9, hw133_9, ↓hg133_10, hw133_10, ↓hg133_11, hw133_11, ↓hg133_12, hw133_12, ↓hg133_13, ↓hg133_14, hw133_14, ↓hg133_15, ↓hg133_16, ↓hg133_17, ↓hg133_18, ↓hg133_19, ↓hg133_20, ↓hg133_21, hw133_21, ↓hg133_22, ↓hg133_23, hw133_23, ↓hg133_24, hw133_24, ↓hg133_25, hw133_25, ↓hg133_26, hw133_26, ↓hg133_27, hw133_27, ↓hg133_28, ↓hg133_29, hw133_29, ↓hg133_30, hw133_30, ↓hg133_31, hw133_31, ↓hg133_32, hw133_32, ↓hg133_33, hw133_33, ↓hg133_34, hw133_34, ↓hg133_35, hw133_35, ↓hg133_36, hw133_36, ↓hg133_37, ↓hg133_38, ↓hg133_39, ↓hv133, ↓hx133, ha134, hu134, ↓hl134, ha135, hu135, ↓hl135, ha136, hu136, ↓hl136, ha137, hu137, ↓hl137, ha138, hu138, ↓hl138, ha139, hu139, ↓hl139, ha140, hu140, ↓hl140, ha141, hu141, ↓hl141, ha142, hu142, ↓hl142, ha143, hu143, ↓hl143, ha144, hu144, ↓hl144, ha145, hu145, ↓hl145, ha146, hu146, ↓hl146, ha147, hu147, ↓hl147, hM0]
      rw [r1]
      simp (disch := omega) only [↓mo_cs_s, ↓mo_xs_r, ↓mo_xs_l, ↓mo_nl_s, mo_z_0, mo_z_1, ↓hg133_0, hw133_0, ↓hg133_1, ↓hg133_2, ↓hg133_3, hw133_3, ↓hg133_4, hw133_4, ↓hg133_5, hw133_5, ↓hg133_6, hw133_6, ↓hg133_7, hw133_7, ↓hg133_8, hw133_8, ↓hg133_9, hw133_9, ↓hg133_10, hw133_10, ↓hg133_11, hw133_11, ↓hg133_12, hw133_12, ↓hg133_13, ↓hg133_14, hw133_14, ↓hg133_15, ↓hg133_16, ↓hg133_17, ↓hg133_18, ↓hg133_19, ↓hg133_20, ↓hg133_21, hw133_21, ↓hg133_22, ↓hg133_23, hw133_23, ↓hg133_24, hw133_24, ↓hg133_25, hw133_25, ↓hg133_26, hw133_26, ↓hg133_27, hw133_27, ↓hg133_28, ↓hg133_29, hw133_29, ↓hg133_30, hw133_30, ↓hg133_31, hw133_31, ↓hg133_32, hw133_32, ↓hg133_33, hw133_33, ↓hg133_34, hw133_34, ↓hg133_35, hw133_35, ↓hg133_36, hw133_36, ↓hg133_37, ↓hg133_38, ↓hg133_39, ↓hv133, ↓hx133, ha134, hu134, ↓hl134, ha135, hu135, ↓hl135, ha136, hu136, ↓hl136, ha137, hu137, ↓hl137, ha138, hu138, ↓hl138, ha139, hu139, ↓hl139, ha140, hu140, ↓hl140, ha141, hu141, ↓hl141, ha142, hu142, ↓hl142, ha143, hu143, ↓hl143, ha144, hu144, ↓hl144, ha145, hu145, ↓hl145, ha146, hu146, ↓hl146, ha147, hu147, ↓hl147]
      rw [s1]
      simp (disch := omega) only [↓mo_cs_s, ↓mo_xs_r, ↓mo_xs_l, ↓mo_nl_s, mo_z_0, mo_z_1, ↓hg133_0, hw133_0, ↓hg133_1, ↓hg133_2, ↓hg133_3, hw133_3, ↓hg133_4, hw133_4, ↓hg133_5, hw133_5, ↓hg133_6, hw133_6, ↓hg133_7, hw133_7, ↓hg133_8, hw133_8, ↓hg133_9, hw133_9, ↓hg133_10, hw133_10, ↓hg133_11, hw133_11, ↓hg133_12, hw133_12, ↓hg133_13, ↓hg133_14, hw133_14, ↓hg133_15, ↓hg133_16, ↓hg133_17, ↓hg133_18, ↓hg133_19, ↓hg133_20, ↓hg133_21, hw133_21, ↓hg133_22, ↓hg133_23, hw133_23, ↓hg133_24, hw133_24, ↓hg133_25, hw133_25, ↓hg133_26, hw133_26, ↓hg133_27, hw133_27, ↓hg133_28, ↓hg133_29, hw133_29, ↓hg133_30, hw133_30, ↓hg133_31, hw133_31, ↓hg133_32, hw133_32, ↓hg133_33, hw133_33, ↓hg133_34, hw133_34, ↓hg133_35, hw133_35, ↓hg133_36, hw133_36, ↓hg133_37, ↓hg133_38, ↓hg133_39, ↓hv133, ↓hx133, ha134, hu134, ↓hl134, ha135, hu135, ↓hl135, ha136, hu136, ↓hl136, ha137, hu137, ↓hl137, ha138, hu138, ↓hl138, ha139, hu139, ↓hl139, ha140, hu140, ↓hl140, ha141, hu141, ↓hl141, ha142, hu142, ↓hl142, ha143, hu143, ↓hl143, ha144, hu144, ↓hl144, ha145, hu145, ↓hl145, ha146, hu146, ↓hl146, ha147, hu147, ↓hl147]
    -- the frame
    have fr : ∀ M3, FXm M2 M3 → (∀ a, a ≠ 133 → ∀ k, gI M3 a k = gI M a k) ∧ (∀ k, 12 < k → gI M3 133 k = gI M 133 k) ∧ gI M3 133 0 = 0 ∧ gI M3 133 3 = 0 ∧ (∀ a, a ≠ 136 → ∀ k, gA M3 a k = gA M a k) ∧ (∀ k, 39 ≤ k → k < 183 → gA M3 136 k = 0) ∧ Vr M M3 := by
      intro M3 hF
      refine ⟨fun a ha k => ?_, fun k hk => ?_, ?_, ?_, fun a ha k => ?_, fun k h1 h2 => ?_, fun k => ?_⟩
      · rw [hF.1 a ha, s3.1 a k (by omega), r5, F0 a ha]
      · rw [hF.2.1 k (by omega), s3.1 133 k (by omega), r5, Fh k hk]
      · rw [hF.2.1 0 (by omega), s3.1 133 0 (by omega), r5, g0]
      · rw [hF.2.1 3 (by omega), s3.1 133 3 (by omega), r5, g3]
      · rw [hF.2.2.1 a k (by omega), s3.2.1, r4 a k ha, gA0]
      · rw [hF.2.2.1 136 k (by omega), s3.2.1, r3 k h1 h2]
      · rw [hF.2.2.2, s3.2.2, r6, gV0]
    have bad : ∀ (M3 : hM) (e : Int × Int), FXm M2 M3 → EM M3 e → m_X7_parse (hp z M) (z + 133) (jI n) = m_X7_parse_j116 (z + 133) (hp z M3) (jI 0) → OM z M (m_X7_parse (hp z M) (z + 133) (jI n)) (0, e.1, q.1, q.2.1, q.2.2.1, [], e.2) := by
      intro M3 e hF hE hr
      obtain ⟨f1, f2, f3, f4, f5, f6, f7⟩ := fr M3 hF
      refine ⟨M3, e.1, ?_, fun _ => rfl, f3, ⟨h.1.kp (f5 134 (by omega)), h.2.1.cg (f2 36 (by omega)) (f5 145 (by omega)), h.2.2.1.cg (f5 146 (by omega)) (f5 147 (by omega)), ⟨by rw [f4]; rfl, fun i v hv => by simp at hv, hE.2⟩⟩, ⟨fun a ha => ⟨f1 a (by omega), f5 a (by omega)⟩, fun k _ => f7 k⟩⟩
      rw [hr]
      unfold m_X7_parse_j116
      simp (disch := omega) only [ji1, ji2, ji3, ji4, ji5, ji6, ji7, ji8, ji9, ji10, ji11, ji12, ji13, ji14, ji15, ji16, ji19, ji20, ji39, ji119, ji144, ji366, ji24, ji31, ji32, ji45, ji48, ji57, ji58, ji59, ji97, ji120, ji122, ji183, ji200, ji226, ji240, ji255, ji500, jI_z, ↓jI_m1, jI_add, jI_sub, jI_mul, if_true, ↓hg133_0, hw133_0, ↓hg133_1, ↓hg133_2, ↓hg133_3, hw133_3, ↓hg133_4, hw133_4, ↓hg133_5, hw133_5, ↓hg133_6, hw133_6, ↓hg133_7, hw133_7, ↓hg133_8, hw133_8, ↓hg133_9, hw133_9, ↓hg133_10, hw133_10, ↓hg133_11, hw133_11, ↓hg133_12, hw133_12, ↓hg133_13, ↓hg133_14, hw133_14, ↓hg133_15, ↓hg133_16, ↓hg133_17, ↓hg133_18, ↓hg133_19, ↓hg133_20, ↓hg133_21, hw133_21, ↓hg133_22, ↓hg133_23, hw133_23, ↓hg133_24, hw133_24, ↓hg133_25, hw133_25, ↓hg133_26, hw133_26, ↓hg133_27, hw133_27, ↓hg133_28, ↓hg133_29, hw133_29, ↓hg133_30, hw133_30, ↓hg133_31, hw133_31, ↓hg133_32, hw133_32, ↓hg133_33, hw133_33, ↓hg133_34, hw133_34, ↓hg133_35, hw133_35, ↓hg133_36, hw133_36, ↓hg133_37, ↓hg133_38, ↓hg133_39, ↓hv133, ↓hx133, ha134, hu134, ↓hl134, ha135, hu135, ↓hl135, ha136, hu136, ↓hl136, ha137, hu137, ↓hl137, ha138, hu138, ↓hl138, ha139, hu139, ↓hl139, ha140, hu140, ↓hl140, ha141, hu141, ↓hl141, ha142, hu142, ↓hl142, ha143, hu143, ↓hl143, ha144, hu144, ↓hl144, ha145, hu145, ↓hl145, ha146, hu146, ↓hl146, ha147, hu147, ↓hl147, hE.1]
    unfold sParse
    cases hsh : sHead (q.2.2.2.1.take n) with
    | inl e =>
      rw [hsh] at hd
      obtain ⟨M3, t1, t2, t3⟩ := hd
      refine bad M3 e t3 t2 (pre _ ?_)
      rw [t1]
      simp (disch := omega) only [↓mo_cs_s, ↓mo_xs_r, ↓mo_xs_l, ↓mo_nl_s, mo_z_0, mo_z_1]
      exact X7_stop (f := 99999)
    | inr s =>
      rw [hsh] at hd
      obtain ⟨M3, t1, t2, t3⟩ := hd
      have o3 := sHead_ok hsh
      have lp := X7_loop (z := z) (L := q.2.2.2.1.take n) 501 hN_f M3 s (by omega) (by unfold hN_f; omega) (hT2.x t3) o3 t2
      rw [t1] at pre
      simp (disch := omega) only [↓mo_cs_s, ↓mo_xs_r, ↓mo_xs_l, ↓mo_nl_s, mo_z_0, mo_z_1] at pre
      show OM z M _ (match sLoop (q.2.2.2.1.take n) 501 s with
        | .inl e => _
        | .inr s => _)
      cases hsl : sLoop (q.2.2.2.1.take n) 501 s with
      | inl e =>
        rw [hsl] at lp
        obtain ⟨M4, u1, u2, u3⟩ := lp
        exact bad M4 e (t3.trans u3) u2 (pre _ u1)
      | inr s' =>
        rw [hsl] at lp
        obtain ⟨M4, u1, u2, u3, u4⟩ := lp
        obtain ⟨f1, f2, f3, f4, f5, f6, f7⟩ := fr M4 (t3.trans u4)
        have o4 := sLoop_ok _ _ _ o3 hsl
        obtain ⟨M5, v1, v2, v3, v4, v5⟩ := X7_cp (z := z) (M := M4) (a := 136) (b := 134) (o := 0) (q := 0) (na := 183) (nb := 183) rfl rfl (by decide) (by decide) (by omega) (by omega) (Or.inl (by omega))
        have v2' : ∀ k, k < 183 → gA M5 134 k = gA M4 136 k := fun k hk => by
          have := v2 k hk
          rwa [Nat.zero_add] at this
        have hU : UR (gA (sA (sA (sI M5 133 36 0) 147 0 0) 147 1 0) 134) (s'.1, fun _ => 0) := by
          refine ⟨u2.cg o4.1.1 (fun k hk => ?_), fun s t hs ht => ?_⟩
          · rw [gA_sA, if_neg (by omega), gA_sA, if_neg (by omega), gA_sI, v2' k (by omega)]
          · simp only [Nat.zero_testBit, Bool.false_eq_true, if_false]
            rw [gA_sA, if_neg (by omega), gA_sA, if_neg (by omega), gA_sI, v2' _ (by omega), f6 _ (by omega) (by omega)]
        have eI : ∀ k, k ≠ 36 → gI (sA (sA (sI M5 133 36 0) 147 0 0) 147 1 0) 133 k = gI M4 133 k := fun k hk => by rw [gI_sA, gI_sA, gI_sI, if_neg (by omega), v3]
        have eA : ∀ a, a ≠ 134 → a ≠ 136 → a ≠ 147 → ∀ k, gA (sA (sA (sI M5 133 36 0) 147 0 0) 147 1 0) a k = gA M a k := fun a h1 h2 h3 k => by rw [gA_sA, if_neg (by omega), gA_sA, if_neg (by omega), gA_sI, v4 a k (Or.inl h1), f5 a h2]
        refine ⟨sA (sA (sI M5 133 36 0) 147 0 0) 147 1 0, 0, pre _ ?_, fun _ => rfl, by rw [eI 0 (by omega), f3], ⟨hU, ⟨by rw [gI_sA, gI_sA, gI_sI, if_pos ⟨rfl, rfl⟩]; rfl, fun i v hv => by simp at hv⟩, fun i hi => ⟨?_, fun v hv => by simp at hv⟩, ⟨by rw [eI 3 (by omega), f4]; rfl, fun i v hv => by simp at hv, by rw [eI 10 (by omega), u3]⟩⟩, ⟨fun a ha => ⟨fun k => by rw [gI_sA, gI_sA, gI_sI, if_neg (by omega), v3, f1 a (by omega)], eA a (by omega) (by omega) (by omega)⟩, fun k _ => by rw [gV_sA, gV_sA, gV_sI, v5, f7]⟩⟩
        · rw [u1]
          unfold m_X7_parse_j116
          simp (disch := omega) only [ji1, ji2, ji3, ji4, ji5, ji6, ji7, ji8, ji9, ji10, ji11, ji12, ji13, ji14, ji15, ji16, ji19, ji20, ji39, ji119, ji144, ji366, ji24, ji31, ji32, ji45, ji48, ji57, ji58, ji59, ji97, ji120, ji122, ji183, ji200, ji226, ji240, ji255, ji500, jI_z, ↓jI_m1, jI_add, jI_sub, jI_mul, j10, if_false, ↓hg133_0, hw133_0, ↓hg133_1, ↓hg133_2, ↓hg133_3, hw133_3, ↓hg133_4, hw133_4, ↓hg133_5, hw133_5, ↓hg133_6, hw133_6, ↓hg133_7, hw133_7, ↓hg133_8, hw133_8, ↓hg133_9, hw133_9, ↓hg133_10, hw133_10, ↓hg133_11, hw133_11, ↓hg133_12, hw133_12, ↓hg133_13, ↓hg133_14, hw133_14, ↓hg133_15, ↓hg133_16, ↓hg133_17, ↓hg133_18, ↓hg133_19, ↓hg133_20, ↓hg133_21, hw133_21, ↓hg133_22, ↓hg133_23, hw133_23, ↓hg133_24, hw133_24, ↓hg133_25, hw133_25, ↓hg133_26, hw133_26, ↓hg133_27, hw133_27, ↓hg133_28, ↓hg133_29, hw133_29, ↓hg133_30, hw133_30, ↓hg133_31, hw133_31, ↓hg133_32, hw133_32, ↓hg133_33, hw133_33, ↓hg133_34, hw133_34, ↓hg133_35, hw133_35, ↓hg133_36, hw133_36, ↓hg133_37, ↓hg133_38, ↓hg133_39, ↓hv133, ↓hx133, ha134, hu134, ↓hl134, ha135, hu135, ↓hl135, ha136, hu136, ↓hl136, ha137, hu137, ↓hl137, ha138, hu138, ↓hl138, ha139, hu139, ↓hl139, ha140, hu140, ↓hl140, ha141, hu141, ↓hl141, ha142, hu142, ↓hl142, ha143, hu143, ↓hl143, ha144, hu144, ↓hl144, ha145, hu145, ↓hl145, ha146, hu146, ↓hl146, ha147, hu147, ↓hl147]
          rw [show jI 0 = jI ((0 : Nat) : Int) from rfl, v1]
          simp (disch := omega) only [↓mo_cs_s, ↓mo_xs_r, ↓mo_xs_l, ↓mo_nl_s, mo_z_0, mo_z_1, ji1, ji2, ji3, ji4, ji5, ji6, ji7, ji8, ji9, ji10, ji11, ji12, ji13, ji14, ji15, ji16, ji19, ji20, ji39, ji119, ji144, ji366, ji24, ji31, ji32, ji45, ji48, ji57, ji58, ji59, ji97, ji120, ji122, ji183, ji200, ji226, ji240, ji255, ji500, jI_z, ↓jI_m1, jI_add, jI_sub, jI_mul, ↓hg133_0, hw133_0, ↓hg133_1, ↓hg133_2, ↓hg133_3, hw133_3, ↓hg133_4, hw133_4, ↓hg133_5, hw133_5, ↓hg133_6, hw133_6, ↓hg133_7, hw133_7, ↓hg133_8, hw133_8, ↓hg133_9, hw133_9, ↓hg133_10, hw133_10, ↓hg133_11, hw133_11, ↓hg133_12, hw133_12, ↓hg133_13, ↓hg133_14, hw133_14, ↓hg133_15, ↓hg133_16, ↓hg133_17, ↓hg133_18, ↓hg133_19, ↓hg133_20, ↓hg133_21, hw133_21, ↓hg133_22, ↓hg133_23, hw133_23, ↓hg133_24, hw133_24, ↓hg133_25, hw133_25, ↓hg133_26, hw133_26, ↓hg133_27, hw133_27, ↓hg133_28, ↓hg133_29, hw133_29, ↓hg133_30, hw133_30, ↓hg133_31, hw133_31, ↓hg133_32, hw133_32, ↓hg133_33, hw133_33, ↓hg133_34, hw133_34, ↓hg133_35, hw133_35, ↓hg133_36, hw133_36, ↓hg133_37, ↓hg133_38, ↓hg133_39, ↓hv133, ↓hx133, ha134, hu134, ↓hl134, ha135, hu135, ↓hl135, ha136, hu136, ↓hl136, ha137, hu137, ↓hl137, ha138, hu138, ↓hl138, ha139, hu139, ↓hl139, ha140, hu140, ↓hl140, ha141, hu141, ↓hl141, ha142, hu142, ↓hl142, ha143, hu143, ↓hl143, ha144, hu144, ↓hl144, ha145, hu145, ↓hl145, ha146, hu146, ↓hl146, ha147, hu147, ↓hl147, show jI ((0 : Nat) : Int) = jI 0 from rfl, vpn0]
          rfl
        · have : gA (sA (sA (sI M5 133 36 0) 147 0 0) 147 1 0) 147 i = 0 := by
            rcases (show i = 0 ∨ i = 1 by omega) with rfl | rfl
            · rw [gA_sA, if_neg (by omega), gA_sA, if_pos ⟨rfl, rfl⟩]
            · rw [gA_sA, if_pos ⟨rfl, rfl⟩]
          rw [this]; rfl
  · rw [if_neg g]
    have wi := X7_wi0 (v := n) (lo := 0) (hi := q.2.2.2.1.length) hn (okW_n (by omega) (by omega)) (okW_n (by omega) (by omega)) g (hp z (sI M 133 0 0))
    refine OM.no h (by decide) ?_
    unfold m_X7_parse m_X7_parse_j23
    simp (disch := omega) only [ji1, ji2, ji3, ji4, ji5, ji6, ji7, ji8, ji9, ji10, ji11, ji12, ji13, ji14, ji15, ji16, ji19, ji20, ji39, ji119, ji144, ji366, ji24, ji31, ji32, ji45, ji48, ji57, ji58, ji59, ji97, ji120, ji122, ji183, ji200, ji226, ji240, ji255, ji500, jI_z, ↓jI_m1, jI_add, jI_sub, jI_mul, ↓hg133_0, hw133_0, ↓hg133_1, ↓hg133_2, ↓hg133_3, hw133_3, ↓hg133_4, hw133_4, ↓hg133_5, hw133_5, ↓hg133_6, hw133_6, ↓hg133_7, hw133_7, ↓hg133_8, hw133_8, ↓hg133_9, hw133_9, ↓hg133_10, hw133_10, ↓hg133_11, hw133_11, ↓hg133_12, hw133_12, ↓hg133_13, ↓hg133_14, hw133_14, ↓hg133_15, ↓hg133_16, ↓hg133_17, ↓hg133_18, ↓hg133_19, ↓hg133_20, ↓hg133_21, hw133_21, ↓hg133_22, ↓hg133_23, hw133_23, ↓hg133_24, hw133_24, ↓hg133_25, hw133_25, ↓hg133_26, hw133_26, ↓hg133_27, hw133_27, ↓hg133_28, ↓hg133_29, hw133_29, ↓hg133_30, hw133_30, ↓hg133_31, hw133_31, ↓hg133_32, hw133_32, ↓hg133_33, hw133_33, ↓hg133_34, hw133_34, ↓hg133_35, hw133_35, ↓hg133_36, hw133_36, ↓hg133_37, ↓hg133_38, ↓hg133_39, ↓hv133, ↓hx133, ha134, hu134, ↓hl134, ha135, hu135, ↓hl135, ha136, hu136, ↓hl136, ha137, hu137, ↓hl137, ha138, hu138, ↓hl138, ha139, hu139, ↓hl139, ha140, hu140, ↓hl140, ha141, hu141, ↓hl141, ha142, hu142, ↓hl142, ha143, hu143, ↓hl143, ha144, hu144, ↓hl144, ha145, hu145, ↓hl145, ha146, hu146, ↓hl146, ha147, hu147, ↓hl147, e3]
    rw [wi]
    simp (disch := omega) only [↓mo_cs_s, ↓mo_xs_r, ↓mo_xs_l, ↓mo_nl_s, mo_z_0, mo_z_1, if_true, ↓hg133_0, hw133_0, ↓hg133_1, ↓hg133_2, ↓hg133_3, hw133_3, ↓hg133_4, hw133_4, ↓hg133_5, hw133_5, ↓hg133_6, hw133_6, ↓hg133_7, hw133_7, ↓hg133_8, hw133_8, ↓hg133_9, hw133_9, ↓hg133_10, hw133_10, ↓hg133_11, hw133_11, ↓hg133_12, hw133_12, ↓hg133_13, ↓hg133_14, hw133_14, ↓hg133_15, ↓hg133_16, ↓hg133_17, ↓hg133_18, ↓hg133_19, ↓hg133_20, ↓hg133_21, hw133_21, ↓hg133_22, ↓hg133_23, hw133_23, ↓hg133_24, hw133_24, ↓hg133_25, hw133_25, ↓hg133_26, hw133_26, ↓hg133_27, hw133_27, ↓hg133_28, ↓hg133_29, hw133_29, ↓hg133_30, hw133_30, ↓hg133_31, hw133_31, ↓hg133_32, hw133_32, ↓hg133_33, hw133_33, ↓hg133_34, hw133_34, ↓hg133_35, hw133_35, ↓hg133_36, hw133_36, ↓hg133_37, ↓hg133_38, ↓hg133_39, ↓hv133, ↓hx133, ha134, hu134, ↓hl134, ha135, hu135, ↓hl135, ha136, hu136, ↓hl136, ha137, hu137, ↓hl137, ha138, hu138, ↓hl138, ha139, hu139, ↓hl139, ha140, hu140, ↓hl140, ha141, hu141, ↓hl141, ha142, hu142, ↓hl142, ha143, hu143, ↓hl143, ha144, hu144, ↓hl144, ha145, hu145, ↓hl145, ha146, hu146, ↓hl146, ha147, hu147, ↓hl147]
    rw [X7_th1 sI00 (by omega)]
    simp (disch := omega) only [↓mo_cs_s, ↓mo_xs_r, ↓mo_xs_l, ↓mo_nl_s, mo_z_0, mo_z_1, j10, if_false]

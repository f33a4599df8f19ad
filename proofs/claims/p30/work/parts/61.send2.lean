variable {S : hSh}
/-! .. a whole sending; deliveries. -/
theorem fnd_w {kd nm : Int} {c : hCf} (hc : okC c) : okW (fnd kd nm c.2 0) := by
  rcases fnd_get (kd := kd) (nm := nm) c.2 0 with g | ⟨i, x, g, g2, _⟩
  · rw [g]; exact ⟨by omega, by omega⟩
  · rw [g]; have := (List.getElem?_eq_some_iff.mp g2).1; have := hc.1; exact ⟨by omega, by omega⟩
theorem X2_send {z b : Nat} {M : hM} {c : hCf} {s : hS} {t kd w : Int} {j : Nat} (hb : b = 1 ∨ b = 8) (hB : BR M b c) (hc : okC c) (hT : s.1.length ≤ 120) (ht : 0 ≤ t ∧ t < 200) (hL : LR M s.1 t j) :
    ∃ M', m_X2_send (hp S z M) (z + 16) (z + b) (jI t) (jI kd) (jI w) = some ((), hp S z M') ∧ LR M' (zSend c t kd w s).1 t j ∧ Fr 16 26 M M' ∧ Vr M M' := by
  have hB' := is18 hb
  obtain ⟨⟨h1, h2⟩, h3, h4⟩ := hL
  have hcs := hc.s
  generalize hn : s.1.length = n at h1 hT
  have hn0 : ¬ (n : Int) < 0 := by omega
  by_cases hl : n = 120
  · refine ⟨M, ?_, ?_, Fr.rfl', Vr.rfl'⟩
    · unfold m_X2_send
      have h9 : ¬ (n : Int) < 120 := by omega
      simp (disch := omega) only [ji1, ji2, ji3, ji4, ji5, ji6, ji7, ji8, ji9, ji10, ji11, ji12, ji13, ji14, ji15, ji16, ji19, ji20, ji24, ji31, ji32, ji39, ji45, ji48, ji57, ji58, ji59, ji60, ji97, ji100, ji119, ji120, ji122, ji144, ji200, ji226, ji240, ji255, ji300, ji366, ji400, ji500, ji1000, jI_z, ↓jI_m1, jI_add, jI_sub, jI_mul, jI_lt, ↓hg16_0, ↓hg16_1, ↓hg16_2, ↓hg16_3, ↓hg16_4, ↓hg16_5, hw16_5, ↓hg16_6, ↓hg16_7, ↓hg16_8, ↓hg16_9, ↓hg16_10, hw16_10, ↓hv16, ↓hx16, ha17, hu17, ↓hl17, ha18, hu18, ↓hl18, ha19, hu19, ↓hl19, ha20, hu20, ↓hl20, ha21, hu21, ↓hl21, ha22, hu22, ↓hl22, ha23, hu23, ↓hl23, ha24, hu24, ↓hl24, ha25, hu25, ↓hl25, h1, hn0, h9, if_false]
    · unfold zSend; rw [if_pos (by omega)]; exact ⟨⟨by rw [h1, hn], h2⟩, h3, h4⟩
  · have hz : zSend c t kd w s = (s.1 ++ [(t, kd, w, tFst c t n, tSnd c t n)], s.2) := by unfold zSend; rw [if_neg (by omega), hn]
    rw [hz]
    generalize hM1 : sA (sA (sA (sA (sA (sI M 16 5 (n + 1)) 17 n t) 18 n kd) 19 n w) 20 n (-1)) 21 n (-1) = M1
    have hF1 : Fr 16 26 M M1 := by
      rw [← hM1]
      exact ((((Fr.sI (by omega)).trans (Fr.sA (by omega))).trans (Fr.sA (by omega))).trans ((Fr.sA (by omega)).trans ((Fr.sA (by omega)).trans (Fr.sA (by omega)))))
    have hV1 : Vr M M1 := by rw [← hM1]; intro k; rfl
    have hB1 : BR M1 b c := hB.keep hF1 (by omega)
    have h15 : gI M1 16 5 = n + 1 := by rw [← hM1]; simp [gI_sA, gI_sI]
    have h110 : gI M1 16 10 = pnd t j s.1 := by rw [← hM1, ← h4]; simp [gI_sA, gI_sI]
    have hA1 : ∀ k x, s.1[k]? = some x → gA M1 17 k = x.1 ∧ gA M1 18 k = x.2.1 ∧ gA M1 19 k = x.2.2.1 ∧ gA M1 20 k = x.2.2.2.1 ∧ gA M1 21 k = x.2.2.2.2 := by
      intro k x hk
      have := (List.getElem?_eq_some_iff.mp hk).1
      have hkn : ¬ k = n := by omega
      rw [← hM1]
      simp [gA_sA, gA_sI, hkn]
      exact h2 k x hk
    have hQ1 : LQ M1 s.1 := fun u hu => Ch_other (h3 u hu) (by rw [← hM1]; simp [gA_sA, gA_sI]) (by rw [← hM1]; simp [gA_sA, gA_sI]) (by rw [← hM1]; simp [gA_sA, gA_sI]) (fun x _ => by rw [← hM1]; simp [gA_sA, gA_sI])
    have hx1 : gA M1 17 n = t ∧ gA M1 18 n = kd ∧ gA M1 19 n = w ∧ gA M1 20 n = -1 ∧ gA M1 21 n = -1 := by rw [← hM1]; simp [gA_sA, gA_sI]
    have f0 := X0_find (S := S) (z := z) (kd := 0) (nm := n) hB' hB1 hc ⟨by omega, by omega⟩ ⟨by omega, by omega⟩
    have f2 := X0_find (S := S) (z := z) (kd := 2) (nm := n) hB' hB1 hc ⟨by omega, by omega⟩ ⟨by omega, by omega⟩
    obtain ⟨w0a, w0b⟩ := fnd_w (kd := 0) (nm := n) hc
    obtain ⟨w2a, w2b⟩ := fnd_w (kd := 2) (nm := n) hc
    have hset := X0_setting (S := S) (z := z) (M := M1) (k := 3) hB' (by omega) (by omega)
    have hs3 : gA M1 (b + 1) (3 : Int).toNat = c.1 3 := hB1.1 3 (by omega)
    rw [hs3] at hset
    have h9 : (n : Int) < 120 := by omega
    have step : ∀ r, (mo_cv (hp S z M1) (z + b) 0 (m_X0_findFault (hp S z M1) (z + b) (jI 0) (jI n)) fun x15 σ14 =>
      if x15 = jI (-1) then
      (mo_cv σ14 (z + b) 0 (m_X0_setting σ14 (z + b) (jI 3)) fun x17 σ16 =>
      mo_cv σ16 (z + b) 0 (m_X0_findFault σ16 (z + b) (jI 2) (jI n)) fun x19 σ18 =>
      if x19 = jI (-1) then
      (m_X2_send_j118 (z + 16) (z + b) σ18 (jI n) (jI t + x17))
      else
      (mo_cv σ18 (z + b) 0 (m_X0_faultPart σ18 (z + b) x19 (jI 2)) fun x21 σ20 =>
      m_X2_send_j118 (z + 16) (z + b) σ20 (jI n) ((jI t + x17) + x21)))
      else
      (some ((), σ14))) = r → m_X2_send (hp S z M) (z + 16) (z + b) (jI t) (jI kd) (jI w) = r := by
      intro r hr
      rw [← hr]
      unfold m_X2_send
      simp (disch := omega) only [ji1, ji2, ji3, ji4, ji5, ji6, ji7, ji8, ji9, ji10, ji11, ji12, ji13, ji14, ji15, ji16, ji19, ji20, ji24, ji31, ji32, ji39, ji45, ji48, ji57, ji58, ji59, ji60, ji97, ji100, ji119, ji120, ji122, ji144, ji200, ji226, ji240, ji255, ji300, ji366, ji400, ji500, ji1000, jI_z, ↓jI_m1, jI_add, jI_sub, jI_mul, jI_lt, ↓hg16_0, ↓hg16_1, ↓hg16_2, ↓hg16_3, ↓hg16_4, ↓hg16_5, hw16_5, ↓hg16_6, ↓hg16_7, ↓hg16_8, ↓hg16_9, ↓hg16_10, hw16_10, ↓hv16, ↓hx16, ha17, hu17, ↓hl17, ha18, hu18, ↓hl18, ha19, hu19, ↓hl19, ha20, hu20, ↓hl20, ha21, hu21, ↓hl21, ha22, hu22, ↓hl22, ha23, hu23, ↓hl23, ha24, hu24, ↓hl24, ha25, hu25, ↓hl25, h1, hn0, h9, if_false, if_true, Int.toNat_natCast, hM1]
    by_cases g0 : fnd 0 n c.2 0 = -1
    · have key : ∃ f, f = tFst c t n ∧ (t < f ∧ f ≤ 224) ∧ m_X2_send (hp S z M) (z + 16) (z + b) (jI t) (jI kd) (jI w) = m_X2_send_j118 (z + 16) (z + b) (hp S z M1) (jI n) (jI f) := by
        have ha := cAmt_in hc n
        by_cases g2 : fnd 2 n c.2 0 = -1
        · refine ⟨t + c.1 3, ?_, by omega, step _ ?_⟩
          · unfold tFst cAmt; rw [if_pos g0, if_pos g2]; omega
          · simp (disch := omega) only [ji1, ji2, ji3, ji4, ji5, ji6, ji7, ji8, ji9, ji10, ji11, ji12, ji13, ji14, ji15, ji16, ji19, ji20, ji24, ji31, ji32, ji39, ji45, ji48, ji57, ji58, ji59, ji60, ji97, ji100, ji119, ji120, ji122, ji144, ji200, ji226, ji240, ji255, ji300, ji366, ji400, ji500, ji1000, jI_z, ↓jI_m1, jI_add, jI_sub, jI_mul, ↓Bg0 hB', ↓Bg1 hB', ↓Bg2 hB', ↓Bg3 hB', ↓Bg5 hB', ↓Bg4 hB', Bw4 hB', ↓Bv hB', Ba1 hB', Bu1 hB', Ba2 hB', Bu2 hB', Ba3 hB', Bu3 hB', Ba4 hB', Bu4 hB']
            rw [f0, g0]
            simp (disch := omega) only [↓mo_ns_r, ↓hn0, ↓mo_cs_s, ↓mo_xs_r, ↓mo_xs_l, ↓mo_nl_s, mo_z_0, mo_z_1, ↓Bg0 hB', ↓Bg1 hB', ↓Bg2 hB', ↓Bg3 hB', ↓Bg5 hB', ↓Bg4 hB', Bw4 hB', ↓Bv hB', Ba1 hB', Bu1 hB', Ba2 hB', Bu2 hB', Ba3 hB', Bu3 hB', Ba4 hB', Bu4 hB', if_true]
            rw [hset]
            simp (disch := omega) only [↓mo_ns_r, ↓hn0, ↓mo_cs_s, ↓mo_xs_r, ↓mo_xs_l, ↓mo_nl_s, mo_z_0, mo_z_1, ↓Bg0 hB', ↓Bg1 hB', ↓Bg2 hB', ↓Bg3 hB', ↓Bg5 hB', ↓Bg4 hB', Bw4 hB', ↓Bv hB', Ba1 hB', Bu1 hB', Ba2 hB', Bu2 hB', Ba3 hB', Bu3 hB', Ba4 hB', Bu4 hB']
            rw [f2, g2]
            simp (disch := omega) only [ji1, ji2, ji3, ji4, ji5, ji6, ji7, ji8, ji9, ji10, ji11, ji12, ji13, ji14, ji15, ji16, ji19, ji20, ji24, ji31, ji32, ji39, ji45, ji48, ji57, ji58, ji59, ji60, ji97, ji100, ji119, ji120, ji122, ji144, ji200, ji226, ji240, ji255, ji300, ji366, ji400, ji500, ji1000, jI_z, ↓jI_m1, jI_add, jI_sub, jI_mul, ↓mo_ns_r, ↓hn0, ↓mo_cs_s, ↓mo_xs_r, ↓mo_xs_l, ↓mo_nl_s, mo_z_0, mo_z_1, if_true]
        · rcases fnd_get (kd := 2) (nm := n) c.2 0 with g | ⟨i, x, g, gx, _⟩
          · exact absurd g g2
          · have gp := X0_part (S := S) (z := z) (p := 2) hB' hB1 hc gx (by omega) (by omega)
            rw [if_neg (by omega), if_neg (by omega)] at gp
            rw [Nat.zero_add] at g
            have ecA : cAmt c n = x.2.2 := by
              unfold cAmt; rw [if_neg g2, g, Int.toNat_natCast, List.getD_eq_getElem?_getD, gx]; rfl
            refine ⟨t + c.1 3 + x.2.2, ?_, by omega, step _ ?_⟩
            · unfold tFst; rw [if_pos g0, ecA]
            · have gi : ¬ (i : Int) = -1 := by omega
              simp (disch := omega) only [ji1, ji2, ji3, ji4, ji5, ji6, ji7, ji8, ji9, ji10, ji11, ji12, ji13, ji14, ji15, ji16, ji19, ji20, ji24, ji31, ji32, ji39, ji45, ji48, ji57, ji58, ji59, ji60, ji97, ji100, ji119, ji120, ji122, ji144, ji200, ji226, ji240, ji255, ji300, ji366, ji400, ji500, ji1000, jI_z, ↓jI_m1, jI_add, jI_sub, jI_mul, ↓Bg0 hB', ↓Bg1 hB', ↓Bg2 hB', ↓Bg3 hB', ↓Bg5 hB', ↓Bg4 hB', Bw4 hB', ↓Bv hB', Ba1 hB', Bu1 hB', Ba2 hB', Bu2 hB', Ba3 hB', Bu3 hB', Ba4 hB', Bu4 hB']
              rw [f0, g0]
              simp (disch := omega) only [↓mo_ns_r, ↓hn0, ↓mo_cs_s, ↓mo_xs_r, ↓mo_xs_l, ↓mo_nl_s, mo_z_0, mo_z_1, ↓Bg0 hB', ↓Bg1 hB', ↓Bg2 hB', ↓Bg3 hB', ↓Bg5 hB', ↓Bg4 hB', Bw4 hB', ↓Bv hB', Ba1 hB', Bu1 hB', Ba2 hB', Bu2 hB', Ba3 hB', Bu3 hB', Ba4 hB', Bu4 hB', if_true]
              rw [hset]
              simp (disch := omega) only [↓mo_ns_r, ↓hn0, ↓mo_cs_s, ↓mo_xs_r, ↓mo_xs_l, ↓mo_nl_s, mo_z_0, mo_z_1, ↓Bg0 hB', ↓Bg1 hB', ↓Bg2 hB', ↓Bg3 hB', ↓Bg5 hB', ↓Bg4 hB', Bw4 hB', ↓Bv hB', Ba1 hB', Bu1 hB', Ba2 hB', Bu2 hB', Ba3 hB', Bu3 hB', Ba4 hB', Bu4 hB']
              rw [f2, g]
              simp (disch := omega) only [ji1, ji2, ji3, ji4, ji5, ji6, ji7, ji8, ji9, ji10, ji11, ji12, ji13, ji14, ji15, ji16, ji19, ji20, ji24, ji31, ji32, ji39, ji45, ji48, ji57, ji58, ji59, ji60, ji97, ji100, ji119, ji120, ji122, ji144, ji200, ji226, ji240, ji255, ji300, ji366, ji400, ji500, ji1000, jI_z, ↓jI_m1, jI_add, jI_sub, jI_mul, ↓mo_ns_r, ↓hn0, ↓mo_cs_s, ↓mo_xs_r, ↓mo_xs_l, ↓mo_nl_s, mo_z_0, mo_z_1, jI_eq, gi, if_false, ↓Bg0 hB', ↓Bg1 hB', ↓Bg2 hB', ↓Bg3 hB', ↓Bg5 hB', ↓Bg4 hB', Bw4 hB', ↓Bv hB', Ba1 hB', Bu1 hB', Ba2 hB', Bu2 hB', Ba3 hB', Bu3 hB', Ba4 hB', Bu4 hB']
              rw [gp]
              simp (disch := omega) only [ji1, ji2, ji3, ji4, ji5, ji6, ji7, ji8, ji9, ji10, ji11, ji12, ji13, ji14, ji15, ji16, ji19, ji20, ji24, ji31, ji32, ji39, ji45, ji48, ji57, ji58, ji59, ji60, ji97, ji100, ji119, ji120, ji122, ji144, ji200, ji226, ji240, ji255, ji300, ji366, ji400, ji500, ji1000, jI_z, ↓jI_m1, jI_add, jI_sub, jI_mul, ↓mo_ns_r, ↓hn0, ↓mo_cs_s, ↓mo_xs_r, ↓mo_xs_l, ↓mo_nl_s, mo_z_0, mo_z_1]
      obtain ⟨f, hf1, hf2, hf3⟩ := key
      obtain ⟨M', r1, r2, r3, r4⟩ := X2_send2 (S := S) (z := z) (kd := kd) (w := w) hb hB1 hc (by omega) hn.symm ht.1 hf2 g0 hf1 hQ1 h110 h15 hA1 ⟨hx1.1, hx1.2.1, hx1.2.2.1, hx1.2.2.2.2⟩
      exact ⟨M', by rw [hf3]; exact r1, r2, hF1.trans r3, hV1.trans r4⟩
    · have e1 : tFst c t n = -1 := by unfold tFst; rw [if_neg g0]
      have e2 : tSnd c t n = -1 := by unfold tSnd; rw [if_neg g0]
      refine ⟨M1, step _ ?_, ⟨⟨by rw [h15]; simp; omega, fun k x hk => ?_⟩, fun u hu => ?_, ?_⟩, hF1, hV1⟩
      · simp (disch := omega) only [ji1, ji2, ji3, ji4, ji5, ji6, ji7, ji8, ji9, ji10, ji11, ji12, ji13, ji14, ji15, ji16, ji19, ji20, ji24, ji31, ji32, ji39, ji45, ji48, ji57, ji58, ji59, ji60, ji97, ji100, ji119, ji120, ji122, ji144, ji200, ji226, ji240, ji255, ji300, ji366, ji400, ji500, ji1000, jI_z, ↓jI_m1, jI_add, jI_sub, jI_mul, ↓Bg0 hB', ↓Bg1 hB', ↓Bg2 hB', ↓Bg3 hB', ↓Bg5 hB', ↓Bg4 hB', Bw4 hB', ↓Bv hB', Ba1 hB', Bu1 hB', Ba2 hB', Bu2 hB', Ba3 hB', Bu3 hB', Ba4 hB', Bu4 hB']
        rw [f0]
        simp (disch := omega) only [ji1, ji2, ji3, ji4, ji5, ji6, ji7, ji8, ji9, ji10, ji11, ji12, ji13, ji14, ji15, ji16, ji19, ji20, ji24, ji31, ji32, ji39, ji45, ji48, ji57, ji58, ji59, ji60, ji97, ji100, ji119, ji120, ji122, ji144, ji200, ji226, ji240, ji255, ji300, ji366, ji400, ji500, ji1000, jI_z, ↓jI_m1, jI_add, jI_sub, jI_mul, ↓mo_ns_r, ↓hn0, ↓mo_cs_s, ↓mo_xs_r, ↓mo_xs_l, ↓mo_nl_s, mo_z_0, mo_z_1, jI_eq, g0, if_false]
      · by_cases hkn : k < s.1.length
        · rw [List.getElem?_append_left hkn] at hk
          exact hA1 k x hk
        · have hkl := (List.getElem?_eq_some_iff.mp hk).1
          simp only [List.length_append, List.length_cons, List.length_nil] at hkl
          rw [List.getElem?_append_right (by omega), show k - s.1.length = 0 from by omega] at hk
          simp only [List.getElem?_cons_zero, Option.some.injEq] at hk
          subst hk
          rw [show k = n from by omega, e1, e2]; exact hx1
      · rw [qL_app, qL_one, e1, e2]
        rw [if_neg (show ¬ (-1 : Int) = u by omega), if_neg (show ¬ (-1 : Int) = u by omega), List.append_nil, List.append_nil]
        exact hQ1 u hu
      · rw [h110, pnd_app, e1, e2]
        have : pd2 t j s.1.length (t, kd, w, -1, -1) = 0 := by
          unfold pd2 pd1; simp only; rw [if_neg (by omega)]
        rw [this]; omega
/-- deliveries: a repeated one, one behind a greater one -/
def dbO : List Int → Nat → Bool
  | [], _ => false
  | x :: l, m => m.testBit x.toNat || dbO l (m ||| 2 ^ x.toNat)
def ltB (a b : Int) : Bool := if a < b then true else false
def diO : List Int → Int → Bool
  | [], _ => false
  | x :: l, g => ltB x g || diO l (if g < x then x else g)
def grO (O : List Int) : Int := O.foldl (fun g x => if g < x then x else g) (-1)
theorem dbO_app {w : Int} : ∀ (O : List Int) (m : Nat), dbO (O ++ [w]) m = (dbO O m || (O.foldl (fun m x => m ||| 2 ^ x.toNat) m).testBit w.toNat) := by
  intro O
  induction O with
  | nil => intro m; simp [dbO]
  | cons x l ih => intro m; simp only [List.cons_append, dbO, ih, List.foldl_cons, Bool.or_assoc]
theorem diO_app {w : Int} : ∀ (O : List Int) (g : Int), diO (O ++ [w]) g = (diO O g || ltB w (O.foldl (fun g x => if g < x then x else g) g)) := by
  intro O
  induction O with
  | nil => intro m; simp [diO]
  | cons x l ih => intro m; simp only [List.cons_append, diO, ih, List.foldl_cons, Bool.or_assoc]
def b2i (b : Bool) : Int := if b = true then 1 else 0
theorem seenM_lt {O : List Int} (h : ∀ x ∈ O, 0 ≤ x ∧ x ≤ 7) : ∀ m, m < 256 → O.foldl (fun m x => m ||| 2 ^ x.toNat) m < 256 := by
  induction O with
  | nil => intro m hm; exact hm
  | cons x l ih =>
    intro m hm
    simp only [List.foldl_cons]
    apply ih (fun y hy => h y (List.mem_cons_of_mem _ hy))
    have hx := h x List.mem_cons_self
    have : (2 : Nat) ^ x.toNat ≤ 2 ^ 7 := Nat.pow_le_pow_right (by omega) (by omega)
    exact Nat.or_lt_two_pow (n := 8) hm (by omega)
theorem grO_in {O : List Int} (h : ∀ x ∈ O, 0 ≤ x ∧ x ≤ 7) : ∀ g, -1 ≤ g ∧ g ≤ 7 → -1 ≤ O.foldl (fun g x => if g < x then x else g) g ∧ O.foldl (fun g x => if g < x then x else g) g ≤ 7 := by
  induction O with
  | nil => intro g hg; exact hg
  | cons x l ih =>
    intro g hg
    simp only [List.foldl_cons]
    have hx := h x List.mem_cons_self
    exact ih (fun y hy => h y (List.mem_cons_of_mem _ hy)) _ (by split <;> omega)
/-- the deliveries of the class -/
def DR (M : hM) (c : hCf) (O : List Int) (C : Int) : Prop := gI M 26 1 = O.length ∧ (∀ k x, O[k]? = some x → gA M 27 k = x) ∧ gI M 26 2 = ((2 ^ (c.1 1).toNat - 1 : Nat) : Int) ∧ gI M 26 3 = (seenM O : Nat) ∧ gI M 26 4 = grO O ∧ gI M 26 5 = b2i (dbO O 0) ∧ gI M 26 6 = b2i (diO O (-1)) ∧ gI M 26 7 = C
theorem b2i_or {a b : Bool} : b2i (a || b) = if b = true then 1 else b2i a := by cases a <;> cases b <;> rfl
theorem X1_put {z : Nat} {M : hM} {c : hCf} {O : List Int} {C w t : Int} (hc : okC c) (h : DR M c O C) (hO : ∀ x ∈ O, 0 ≤ x ∧ x ≤ 7) (hl : O.length < 240) (hw : 0 ≤ w ∧ w ≤ 7) (hC : -1 ≤ C ∧ C < 200) :
    ∃ M', m_X1_put (hp S z M) (z + 26) (jI w) (jI t) = some ((), hp S z M') ∧ DR M' c (O ++ [w]) (if C = -1 ∧ seenM (O ++ [w]) = 2 ^ (c.1 1).toNat - 1 then t else C) ∧ Fr 26 28 M M' ∧ Vr M M' := by
  obtain ⟨h1, h2, h3, h4, h5, h6, h7, h8⟩ := h
  have hcs := hc.s
  have hsm : seenM O < 256 := seenM_lt hO 0 (by decide)
  have hgr := grO_in hO (-1) (by omega)
  have hgr' : -1 ≤ grO O ∧ grO O ≤ 7 := hgr
  have hsa : seenM (O ++ [w]) = seenM O ||| 2 ^ w.toNat := by unfold seenM; rw [List.foldl_append]; rfl
  have hga : grO (O ++ [w]) = if grO O < w then w else grO O := by unfold grO; rw [List.foldl_append]; rfl
  have hda : dbO (O ++ [w]) 0 = (dbO O 0 || (seenM O).testBit w.toNat) := dbO_app O 0
  have hia : diO (O ++ [w]) (-1) = (diO O (-1) || ltB w (grO O)) := diO_app O (-1)
  have hp2 : (2 : Nat) ^ w.toNat ≤ 2 ^ 7 := Nat.pow_le_pow_right (by omega) (by omega)
  have hsm2 : seenM O ||| 2 ^ w.toNat < 2 ^ 8 := Nat.or_lt_two_pow (n := 8) hsm (by omega)
  have hp3 : (2 : Nat) ^ (c.1 1).toNat ≤ 2 ^ 8 := Nat.pow_le_pow_right (by omega) (by omega)
  have hwn : gI M 26 2 < 300 ∧ 0 ≤ gI M 26 2 := by rw [h3]; omega
  -- behind the greatest
  have j77 : ∀ M1 : hM, gI M1 26 3 = (seenM O : Nat) → gI M1 26 7 = C → gI M1 26 2 = gI M 26 2 → ∃ M', m_X1_put_j77 (z + 26) (jI w) (jI t) (hp S z M1) = some ((), hp S z M') ∧ M' = (if C = -1 ∧ seenM (O ++ [w]) = 2 ^ (c.1 1).toNat - 1 then sI (sI M1 26 3 (seenM (O ++ [w]) : Nat)) 26 7 t else sI M1 26 3 (seenM (O ++ [w]) : Nat)) := by
    intro M1 a1 a2 a3
    refine ⟨_, ?_, rfl⟩
    unfold m_X1_put_j77
    simp (disch := omega) only [ji1, ji2, ji3, ji4, ji5, ji6, ji7, ji8, ji9, ji10, ji11, ji12, ji13, ji14, ji15, ji16, ji19, ji20, ji24, ji31, ji32, ji39, ji45, ji48, ji57, ji58, ji59, ji60, ji97, ji100, ji119, ji120, ji122, ji144, ji200, ji226, ji240, ji255, ji300, ji366, ji400, ji500, ji1000, jI_z, ↓jI_m1, jI_add, jI_sub, jI_mul, ↓hg26_0, ↓hg26_1, hw26_1, ↓hg26_2, hw26_2, ↓hg26_3, hw26_3, ↓hg26_4, hw26_4, ↓hg26_5, hw26_5, ↓hg26_6, hw26_6, ↓hg26_7, hw26_7, ↓hv26, ↓hx26, ha27, hu27, ↓hl27, jS, a1, jI_or, ← hsa, gI_sI, jI_eq, a2, and_self, and_true, and_false, if_true, if_false, a3, h3, show (7 : Nat) ≠ 3 from by decide, show (2 : Nat) ≠ 3 from by decide]
    have e : ((seenM (O ++ [w]) : Nat) : Int) = ((2 ^ (c.1 1).toNat - 1 : Nat) : Int) ↔ seenM (O ++ [w]) = 2 ^ (c.1 1).toNat - 1 := by omega
    by_cases g1 : C = -1
    · by_cases g2 : seenM (O ++ [w]) = 2 ^ (c.1 1).toNat - 1
      · rw [if_pos g1, if_pos (by omega), if_pos ⟨g1, g2⟩]
      · rw [if_pos g1, if_neg (by omega), if_neg (fun h => g2 h.2)]
    · rw [if_neg g1, if_neg (fun h => g1 h.1)]
  -- behind the repetition
  have j56 : ∀ M1 : hM, gI M1 26 3 = (seenM O : Nat) → gI M1 26 7 = C → gI M1 26 2 = gI M 26 2 → gI M1 26 4 = grO O → gI M1 26 6 = b2i (diO O (-1)) →
      ∃ M' M2, m_X1_put_j56 (z + 26) (jI w) (jI t) (hp S z M1) = some ((), hp S z M') ∧ M' = (if C = -1 ∧ seenM (O ++ [w]) = 2 ^ (c.1 1).toNat - 1 then sI (sI M2 26 3 (seenM (O ++ [w]) : Nat)) 26 7 t else sI M2 26 3 (seenM (O ++ [w]) : Nat)) ∧ M2 = (if w < grO O then sI M1 26 6 1 else sI M1 26 4 w) := by
    intro M1 a1 a2 a3 a4 a5
    by_cases g : w < grO O
    · obtain ⟨M', r1, r2⟩ := j77 (sI M1 26 6 1) (by simp [gI_sI, a1]) (by simp [gI_sI, a2]) (by simp [gI_sI, a3])
      refine ⟨M', sI M1 26 6 1, ?_, r2, by rw [if_pos g]⟩
      unfold m_X1_put_j56
      simp (disch := omega) only [ji1, ji2, ji3, ji4, ji5, ji6, ji7, ji8, ji9, ji10, ji11, ji12, ji13, ji14, ji15, ji16, ji19, ji20, ji24, ji31, ji32, ji39, ji45, ji48, ji57, ji58, ji59, ji60, ji97, ji100, ji119, ji120, ji122, ji144, ji200, ji226, ji240, ji255, ji300, ji366, ji400, ji500, ji1000, jI_z, ↓jI_m1, jI_add, jI_sub, jI_mul, ↓hg26_0, ↓hg26_1, hw26_1, ↓hg26_2, hw26_2, ↓hg26_3, hw26_3, ↓hg26_4, hw26_4, ↓hg26_5, hw26_5, ↓hg26_6, hw26_6, ↓hg26_7, hw26_7, ↓hv26, ↓hx26, ha27, hu27, ↓hl27, jI_lt, a4, g, if_true, ↓mo_ns_r, ↓hn0, ↓mo_cs_s, ↓mo_xs_r, ↓mo_xs_l, ↓mo_nl_s, mo_z_0, mo_z_1]
      exact r1
    · obtain ⟨M', r1, r2⟩ := j77 (sI M1 26 4 w) (by simp [gI_sI, a1]) (by simp [gI_sI, a2]) (by simp [gI_sI, a3])
      refine ⟨M', sI M1 26 4 w, ?_, r2, by rw [if_neg g]⟩
      unfold m_X1_put_j56
      simp (disch := omega) only [ji1, ji2, ji3, ji4, ji5, ji6, ji7, ji8, ji9, ji10, ji11, ji12, ji13, ji14, ji15, ji16, ji19, ji20, ji24, ji31, ji32, ji39, ji45, ji48, ji57, ji58, ji59, ji60, ji97, ji100, ji119, ji120, ji122, ji144, ji200, ji226, ji240, ji255, ji300, ji366, ji400, ji500, ji1000, jI_z, ↓jI_m1, jI_add, jI_sub, jI_mul, ↓hg26_0, ↓hg26_1, hw26_1, ↓hg26_2, hw26_2, ↓hg26_3, hw26_3, ↓hg26_4, hw26_4, ↓hg26_5, hw26_5, ↓hg26_6, hw26_6, ↓hg26_7, hw26_7, ↓hv26, ↓hx26, ha27, hu27, ↓hl27, jI_lt, a4, g, if_false]
      exact r1
  have hlen : ((O ++ [w]).length : Int) = O.length + 1 := by simp
  have hfin : ∀ M1 : hM, (∀ k, k ≠ 5 → gI M1 26 k = gI (sI (sA M 27 O.length w) 26 1 (O.length + 1)) 26 k) → gI M1 26 5 = b2i (dbO (O ++ [w]) 0) → (∀ k, gA M1 27 k = gA (sA M 27 O.length w) 27 k) → Fr 26 28 M M1 → Vr M M1 →
      ∃ M', m_X1_put_j56 (z + 26) (jI w) (jI t) (hp S z M1) = some ((), hp S z M') ∧ DR M' c (O ++ [w]) (if C = -1 ∧ seenM (O ++ [w]) = 2 ^ (c.1 1).toNat - 1 then t else C) ∧ Fr 26 28 M M' ∧ Vr M M' := by
    intro M1 b1 b2 b3 b4 b5
    obtain ⟨M', M2, r1, r2, r3⟩ := j56 M1 (by rw [b1 3 (by decide)]; simp [gI_sI, gI_sA, h4]) (by rw [b1 7 (by decide)]; simp [gI_sI, gI_sA, h8]) (by rw [b1 2 (by decide)]; simp [gI_sI, gI_sA]) (by rw [b1 4 (by decide)]; simp [gI_sI, gI_sA, h5]) (by rw [b1 6 (by decide)]; simp [gI_sI, gI_sA, h7])
    have k1 : ∀ k, gI M2 26 k = if w < grO O then (if k = 6 then 1 else gI M1 26 k) else (if k = 4 then w else gI M1 26 k) := by
      intro k; rw [r3]; split <;> simp [gI_sI]
    have k2 : ∀ a k, gA M2 a k = gA M1 a k := by intro a k; rw [r3]; split <;> rfl
    have k3 : ∀ k, gI M' 26 k = if k = 7 ∧ (C = -1 ∧ seenM (O ++ [w]) = 2 ^ (c.1 1).toNat - 1) then t else if k = 3 then ((seenM (O ++ [w]) : Nat) : Int) else gI M2 26 k := by
      intro k; rw [r2]
      by_cases hq : C = -1 ∧ seenM (O ++ [w]) = 2 ^ (c.1 1).toNat - 1
      · rw [if_pos hq]; simp [gI_sI, hq]
      · rw [if_neg hq]; simp only [hq, and_false, if_false]; simp [gI_sI]
    have k4 : ∀ a k, gA M' a k = gA M1 a k := by
      intro a k; rw [r2, ← k2]; split <;> rfl
    have b15 : gI M1 26 1 = O.length + 1 := by rw [b1 1 (by decide)]; simp [gI_sI]
    have b12 : gI M1 26 2 = gI M 26 2 := by rw [b1 2 (by decide)]; simp [gI_sI, gI_sA]
    have b14 : gI M1 26 4 = grO O := by rw [b1 4 (by decide)]; simp [gI_sI, gI_sA, h5]
    have b16 : gI M1 26 6 = b2i (diO O (-1)) := by rw [b1 6 (by decide)]; simp [gI_sI, gI_sA, h7]
    have b17 : gI M1 26 7 = C := by rw [b1 7 (by decide)]; simp [gI_sI, gI_sA, h8]
    refine ⟨M', r1, ⟨?_, fun k x hk => ?_, ?_, ?_, ?_, ?_, ?_, ?_⟩, fun a ha => ⟨fun k => ?_, fun k => ?_⟩, fun k => ?_⟩
    · rw [k3, if_neg (by omega), if_neg (by decide), k1, hlen]; simp [b15]
    · rw [k4, b3]
      by_cases hkn : k < O.length
      · rw [List.getElem?_append_left hkn] at hk
        rw [gA_sA, if_neg (by omega)]; exact h2 k x hk
      · have hkl := (List.getElem?_eq_some_iff.mp hk).1
        simp only [List.length_append, List.length_cons, List.length_nil] at hkl
        rw [List.getElem?_append_right (by omega), show k - O.length = 0 from by omega] at hk
        simp only [List.getElem?_cons_zero, Option.some.injEq] at hk
        rw [gA_sA, if_pos ⟨rfl, by omega⟩]; exact hk
    · rw [k3, if_neg (by omega), if_neg (by decide), k1]; simp [b12, h3]
    · rw [k3, if_neg (by omega), if_pos rfl]
    · rw [k3, if_neg (by omega), if_neg (by decide), k1, hga]
      by_cases g : w < grO O
      · rw [if_pos g, if_neg (by decide), if_neg (by omega), b14]
      · rw [if_neg g, if_pos rfl]; split <;> omega
    · rw [k3, if_neg (by omega), if_neg (by decide), k1]; simp [b2]
    · rw [k3, if_neg (by omega), if_neg (by decide), k1, hia, b2i_or]
      by_cases g : w < grO O
      · rw [if_pos g, if_pos rfl, if_pos (by unfold ltB; rw [if_pos g])]
      · rw [if_neg g, if_neg (by decide), if_neg (by unfold ltB; rw [if_neg g]; decide), b16]
    · rw [k3]
      by_cases hq : C = -1 ∧ seenM (O ++ [w]) = 2 ^ (c.1 1).toNat - 1
      · rw [if_pos ⟨rfl, hq⟩, if_pos hq]
      · rw [if_neg (fun h => hq h.2), if_neg hq, if_neg (by decide), k1]; simp [b17]
    · have : gI M' a k = gI M1 a k := by
        have ha26 : ¬ a = 26 := by omega
        rw [r2, r3]; split <;> split <;> simp [gI_sI, ha26]
      rw [this]; exact (b4 a ha).1 k
    · rw [k4]; exact (b4 a ha).2 k
    · have : gV M' k = gV M1 k := by rw [r2, r3]; split <;> split <;> rfl
      rw [this]; exact b5 k
  have hOl : (O.length : Int) < 240 := by omega
  have hO0 : ¬ (O.length : Int) < 0 := by omega
  have hwt : w.toNat < 32 := by omega
  by_cases g : (seenM O).testBit w.toNat = true
  · obtain ⟨M', r1, r2⟩ := hfin (sI (sI (sA M 27 O.length w) 26 1 (O.length + 1)) 26 5 1) (fun k hk => by rw [gI_sI, if_neg (by omega)]) (by rw [gI_sI, if_pos ⟨rfl, rfl⟩, hda, b2i_or, if_pos g]) (fun k => rfl) (((Fr.sA (by omega)).trans (Fr.sI (by omega))).trans (Fr.sI (by omega))) (fun k => rfl)
    refine ⟨M', ?_, r2⟩
    have h10 : ¬ (1 : Int) = 0 := by omega
    unfold m_X1_put
    simp (disch := omega) only [ji1, ji2, ji3, ji4, ji5, ji6, ji7, ji8, ji9, ji10, ji11, ji12, ji13, ji14, ji15, ji16, ji19, ji20, ji24, ji31, ji32, ji39, ji45, ji48, ji57, ji58, ji59, ji60, ji97, ji100, ji119, ji120, ji122, ji144, ji200, ji226, ji240, ji255, ji300, ji366, ji400, ji500, ji1000, jI_z, ↓jI_m1, jI_add, jI_sub, jI_mul, ↓hg26_0, ↓hg26_1, hw26_1, ↓hg26_2, hw26_2, ↓hg26_3, hw26_3, ↓hg26_4, hw26_4, ↓hg26_5, hw26_5, ↓hg26_6, hw26_6, ↓hg26_7, hw26_7, ↓hv26, ↓hx26, ha27, hu27, ↓hl27, jI_lt, jI_eq, h1, hOl, hO0, if_true, if_false, Int.toNat_natCast, gI_sA, gI_sI, and_true, and_false, show (3 : Nat) ≠ 1 from by decide, h4, jT, g, h10, ↓mo_ns_r, ↓hn0, ↓mo_cs_s, ↓mo_xs_r, ↓mo_xs_l, ↓mo_nl_s, mo_z_0, mo_z_1]
    exact r1
  · obtain ⟨M', r1, r2⟩ := hfin (sI (sA M 27 O.length w) 26 1 (O.length + 1)) (fun k hk => rfl) (by rw [gI_sI, if_neg (by omega), gI_sA, h6, hda, b2i_or, if_neg g]) (fun k => rfl) ((Fr.sA (by omega)).trans (Fr.sI (by omega))) (fun k => rfl)
    refine ⟨M', ?_, r2⟩
    unfold m_X1_put
    simp (disch := omega) only [ji1, ji2, ji3, ji4, ji5, ji6, ji7, ji8, ji9, ji10, ji11, ji12, ji13, ji14, ji15, ji16, ji19, ji20, ji24, ji31, ji32, ji39, ji45, ji48, ji57, ji58, ji59, ji60, ji97, ji100, ji119, ji120, ji122, ji144, ji200, ji226, ji240, ji255, ji300, ji366, ji400, ji500, ji1000, jI_z, ↓jI_m1, jI_add, jI_sub, jI_mul, ↓hg26_0, ↓hg26_1, hw26_1, ↓hg26_2, hw26_2, ↓hg26_3, hw26_3, ↓hg26_4, hw26_4, ↓hg26_5, hw26_5, ↓hg26_6, hw26_6, ↓hg26_7, hw26_7, ↓hv26, ↓hx26, ha27, hu27, ↓hl27, jI_lt, jI_eq, h1, hOl, hO0, if_true, if_false, Int.toNat_natCast, gI_sA, gI_sI, and_true, and_false, show (3 : Nat) ≠ 1 from by decide, h4, jT, g]
    exact r1


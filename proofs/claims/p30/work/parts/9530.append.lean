variable {S : hSh}
/-! THE BUILDER'S append: a word, a char, a number. -/
def AP (S : hSh) (z : Nat) (M : hM) (b lo n : Nat) (t : List Int) (o : Option ((Nat × Nat) × ac_H)) : Prop := ∃ S' M' n', o = some ((z + b, z + n'), hp S' z M') ∧ BB S' M' b lo n' t t.length ∧ n ≤ n' ∧ SK n S S' ∧ BF b lo M M'
theorem jI_ne {x : Int} : -(jI x) = jI (-x) := by
  have h : jI 0 - jI x = jI (0 - x) := jI_sub
  rw [show jI 0 = (0 : Int32) from rfl, Int32.zero_sub, Int.zero_sub] at h
  exact h
theorem gD_l {l r : List Int} {j : Nat} (h : j < l.length) : (l ++ r).getD j 0 = l.getD j 0 := by
  rw [List.getD_eq_getElem?_getD, List.getD_eq_getElem?_getD, List.getElem?_append_left h]
theorem gD_r {l r : List Int} {j : Nat} (h : l.length ≤ j) : (l ++ r).getD j 0 = r.getD (j - l.length) 0 := by
  rw [List.getD_eq_getElem?_getD, List.getD_eq_getElem?_getD, List.getElem?_append_right h]
/-- what is written behind t in the array w -/
theorem BB.put {b lo n c w m : Nat} {M M2 : hM} {t l : List Int} (h : BB S M b lo n t c) (w1 : gI M b 0 = w) (w2 : lA S w 1 m) (w3 : c ≤ m) (w4 : 16 ≤ m) (w5 : m ≤ 300) (w8 : w = b + 1 ∨ lo ≤ w) (w9 : w < n) (hc : c = (t ++ l).length)
    (hI : ∀ a k, a ≠ b ∨ k ≠ 3 → gI M2 a k = gI M a k) (h3 : gI M2 b 3 = (t ++ l).length) (hA : ∀ a k, a ≠ w → gA M2 a k = gA M a k) (hV : Vr M M2)
    (hb : ∀ i, 0 ≤ gA M2 w i ∧ gA M2 w i < 128) (ht : ∀ i, i < (t ++ l).length → gA M2 w i = (t ++ l).getD i 0) : BB S M2 b lo n (t ++ l) (t ++ l).length ∧ BF b lo M M2 := by
  have hbl := h.bl
  refine ⟨⟨h.o, h.r, h.i, by rw [hI b 1 (by omega)]; exact h.k1, h3, Nat.le_refl _, h.bl, h.ln, w, m, by rw [hI b 0 (by omega)]; exact w1, w2, by omega, w4, w5, hb, ht, w8, w9⟩, ?_, hV⟩
  intro a h1 h2 h3'
  exact ⟨fun k => hI a k (by omega), fun k => hA a k (by omega)⟩
theorem J4_word {z b lo n i c0 : Nat} {M : hM} {t : List Int} (h : BB S M b lo n t c0) (hi : i < 19) (hl : t.length + (wB i).length ≤ 120) : AP S z M b lo n (t ++ wB i) (m_J4_append_15ec4 (hp S z M) (z + b) i (z + n)) := by
  have hW := (wB_in i hi).1
  have hL : (wB i).length ≤ 10 := by rw [wB_len]; exact hW
  obtain ⟨S1, M1, n1, r1, r2, r3, r4, r5⟩ := J5_ens (z := z) (c := t.length + (wB i).length) h (by omega) (by omega) (by omega)
  obtain ⟨w, m, w1, w2, w3, w4, w5, w6, w7, w8, w9⟩ := r2.w
  have hbl := r2.bl
  have hwb : w ≠ b := by omega
  have e1 : (t.length : Int) + (wB i).length = ((t.length + (wB i).length : Nat) : Int) := by omega
  have hlen : (t ++ wB i).length = t.length + (wB i).length := List.length_append
  have key := r2.put (l := wB i) (M2 := sI (wM M1 w t.length (wB i)) b 3 ((t.length + (wB i).length : Nat) : Int)) w1 w2 w3 w4 w5 w8 w9 hlen.symm
    (fun a k hk => by rw [gI_sI, if_neg (by omega)]; rfl) (by rw [gI_sI, if_pos ⟨rfl, rfl⟩, hlen]) (fun a k ha => by rw [gA_sI, gA_wM, if_neg (by omega)]) (fun _ => rfl)
    (fun j => by
      rw [gA_sI, gA_wM]
      by_cases hj : t.length ≤ j ∧ j < t.length + (wB i).length
      · rw [if_pos ⟨rfl, hj⟩]; exact wB_by hi _
      · rw [if_neg (by omega)]; exact w6 j)
    (fun j hj => by
      rw [gA_sI, gA_wM]
      by_cases hj' : t.length ≤ j
      · rw [if_pos ⟨rfl, hj', by omega⟩, gD_r hj']
      · rw [if_neg (by omega), gD_l (by omega)]; exact w7 j (by omega))
  refine ⟨S1, _, n1, ?_, key.1, r3, r4, r5.trans key.2⟩
  have sl : ∀ {α : Type} (F : Int32 → Option α), mo_sl i F = F (jI (wB i).length) := fun F => by unfold mo_sl; rw [if_pos hi, jI_n, wB_len]
  have o2 : mo_w (α := Unit × ac_H) i = fun A => A := by funext A; unfold mo_w; rw [if_pos hi]
  have o3 : mo_w (α := (Nat × Nat) × ac_H) i = fun A => A := by funext A; unfold mo_w; rw [if_pos hi]
  have x3 : gI (wM M1 w t.length (wB i)) b 3 = t.length := r2.k3
  unfold m_J4_append_15ec4 m_J5_append_cf1ce
  rw [Dv h, sl, Dg3 h]
  simp only [ji1, ji2, ji3, ji4, ji5, ji6, ji7, ji8, ji9, ji10, ji11, ji12, ji13, ji14, ji15, ji16, ji19, ji20, ji24, ji31, ji32, ji39, ji45, ji48, ji57, ji58, ji59, ji60, ji97, ji100, ji119, ji120, ji122, ji144, ji200, ji226, ji240, ji255, ji300, ji366, ji400, ji500, ji1000, jI_z, ↓jI_m1, jI_add, jI_sub, jI_mul, ↓jm1000, ↓jm100, ↓jm10, ↓jm9, ji50, ji65280, ji1664525, ji252645135, ji858993459, ji1013904223, ji1431655765, ji2147483639, ji2147483647, e1]
  rw [Dv h, r1]
  simp only [↓mo_ns_r, ↓hn0, ↓mo_cs_s, ↓mo_xs_r, ↓mo_xs_l, ↓mo_nl_s, mo_z_0, mo_z_1]
  rw [Dg3 r2, Dv r2]
  unfold m_J5_putStringAt_47b60 m_J5_inflateIfNeededFor_a7421 m_J0_getBytes_840e7
  rw [Dv r2, if_neg (by decide), Dg1 r2, o2]
  simp (disch := omega) only [ji1, ji2, ji3, ji4, ji5, ji6, ji7, ji8, ji9, ji10, ji11, ji12, ji13, ji14, ji15, ji16, ji19, ji20, ji24, ji31, ji32, ji39, ji45, ji48, ji57, ji58, ji59, ji60, ji97, ji100, ji119, ji120, ji122, ji144, ji200, ji226, ji240, ji255, ji300, ji366, ji400, ji500, ji1000, jI_z, ↓jI_m1, jI_add, jI_sub, jI_mul, ↓jm1000, ↓jm100, ↓jm10, ↓jm9, ji50, ji65280, ji1664525, ji252645135, ji858993459, ji1013904223, ji1431655765, ji2147483639, ji2147483647, jI_eq, if_true, ↓mo_ns_r, ↓hn0, ↓mo_cs_s, ↓mo_xs_r, ↓mo_xs_l, ↓mo_nl_s, mo_z_0, mo_z_1]
  rw [Dg0 r2.o r2.r w1, Dg1 r2]
  simp (disch := omega) only [if_true, ↓mo_ns_r, ↓hn0, ↓mo_cs_s, ↓mo_xs_r, ↓mo_xs_l, ↓mo_nl_s, mo_z_0, mo_z_1, ji1, ji2, ji3, ji4, ji5, ji6, ji7, ji8, ji9, ji10, ji11, ji12, ji13, ji14, ji15, ji16, ji19, ji20, ji24, ji31, ji32, ji39, ji45, ji48, ji57, ji58, ji59, ji60, ji97, ji100, ji119, ji120, ji122, ji144, ji200, ji226, ji240, ji255, ji300, ji366, ji400, ji500, ji1000, jI_z, ↓jI_m1, jI_add, jI_sub, jI_mul, ↓jm1000, ↓jm100, ↓jm10, ↓jm9, ji50, ji65280, ji1664525, ji252645135, ji858993459, ji1013904223, ji1431655765, ji2147483639, ji2147483647, sl0]
  rw [hl_cw w2 hi (by omega) (by omega)]
  simp (disch := omega) only [↓mo_ns_r, ↓hn0, ↓mo_cs_s, ↓mo_xs_r, ↓mo_xs_l, ↓mo_nl_s, mo_z_0, mo_z_1]
  rw [hl_gi r2.o (by decide) (r2.i 3 (by decide)), x3]
  simp only [ji1, ji2, ji3, ji4, ji5, ji6, ji7, ji8, ji9, ji10, ji11, ji12, ji13, ji14, ji15, ji16, ji19, ji20, ji24, ji31, ji32, ji39, ji45, ji48, ji57, ji58, ji59, ji60, ji97, ji100, ji119, ji120, ji122, ji144, ji200, ji226, ji240, ji255, ji300, ji366, ji400, ji500, ji1000, jI_z, ↓jI_m1, jI_add, jI_sub, jI_mul, ↓jm1000, ↓jm100, ↓jm10, ↓jm9, ji50, ji65280, ji1664525, ji252645135, ji858993459, ji1013904223, ji1431655765, ji2147483639, ji2147483647, e1]
  rw [hl_pi r2.o (by decide) (r2.i 3 (by decide))]
  simp only [↓mo_ns_r, ↓hn0, ↓mo_cs_s, ↓mo_xs_r, ↓mo_xs_l, ↓mo_nl_s, mo_z_0, mo_z_1]
theorem J4_char {z b lo n c0 : Nat} {x : Int} {M : hM} {t : List Int} (h : BB S M b lo n t c0) (hx : 0 ≤ x ∧ x < 128) (hl : t.length + 1 ≤ 120) : AP S z M b lo n (t ++ [x]) (m_J4_append_cf468 (hp S z M) (z + b) (jI x) (z + n)) := by
  obtain ⟨S1, M1, n1, r1, r2, r3, r4, r5⟩ := J5_ens (z := z) (c := t.length + 1) h (by omega) (by omega) (by omega)
  obtain ⟨w, m, w1, w2, w3, w4, w5, w6, w7, w8, w9⟩ := r2.w
  have hbl := r2.bl
  have hwb : w ≠ b := by omega
  have e1 : (t.length : Int) + 1 = ((t.length + 1 : Nat) : Int) := by omega
  have hlen : (t ++ [x]).length = t.length + 1 := by simp
  have key := r2.put (l := [x]) (M2 := sA (sI M1 b 3 ((t.length + 1 : Nat) : Int)) w t.length x) w1 w2 w3 w4 w5 w8 w9 hlen.symm
    (fun a k hk => by rw [gI_sA, gI_sI, if_neg (by omega)]) (by rw [gI_sA, gI_sI, if_pos ⟨rfl, rfl⟩, hlen]) (fun a k ha => by rw [gA_sA, if_neg (by omega), gA_sI]) (fun _ => rfl)
    (fun j => by
      rw [gA_sA]
      by_cases hj : j = t.length
      · rw [if_pos ⟨rfl, hj⟩]; exact hx
      · rw [if_neg (by omega)]; exact w6 j)
    (fun j hj => by
      rw [gA_sA]
      by_cases hj' : j = t.length
      · rw [if_pos ⟨rfl, hj'⟩, gD_r (by omega), hj', Nat.sub_self]; rfl
      · rw [if_neg (by omega), gD_l (by omega)]; exact w7 j (by omega))
  refine ⟨S1, _, n1, ?_, key.1, r3, r4, r5.trans key.2⟩
  have g : ¬ (255 : Int) < x := by omega
  unfold m_J4_append_cf468 m_J5_append_3fe6f m_J5_isLatin1_aae02 m_J1_canEncode_fc78d
  rw [Dv h, Dg3 h]
  simp only [ji1, ji2, ji3, ji4, ji5, ji6, ji7, ji8, ji9, ji10, ji11, ji12, ji13, ji14, ji15, ji16, ji19, ji20, ji24, ji31, ji32, ji39, ji45, ji48, ji57, ji58, ji59, ji60, ji97, ji100, ji119, ji120, ji122, ji144, ji200, ji226, ji240, ji255, ji300, ji366, ji400, ji500, ji1000, jI_z, ↓jI_m1, jI_add, jI_sub, jI_mul, ↓jm1000, ↓jm100, ↓jm10, ↓jm9, ji50, ji65280, ji1664525, ji252645135, ji858993459, ji1013904223, ji1431655765, ji2147483639, ji2147483647, e1]
  rw [Dv h, r1]
  simp only [↓mo_ns_r, ↓hn0, ↓mo_cs_s, ↓mo_xs_r, ↓mo_xs_l, ↓mo_nl_s, mo_z_0, mo_z_1]
  rw [Dv r2, if_neg (by decide), Dg1 r2]
  simp (disch := omega) only [ji1, ji2, ji3, ji4, ji5, ji6, ji7, ji8, ji9, ji10, ji11, ji12, ji13, ji14, ji15, ji16, ji19, ji20, ji24, ji31, ji32, ji39, ji45, ji48, ji57, ji58, ji59, ji60, ji97, ji100, ji119, ji120, ji122, ji144, ji200, ji226, ji240, ji255, ji300, ji366, ji400, ji500, ji1000, jI_z, ↓jI_m1, jI_add, jI_sub, jI_mul, ↓jm1000, ↓jm100, ↓jm10, ↓jm9, ji50, ji65280, ji1664525, ji252645135, ji858993459, ji1013904223, ji1431655765, ji2147483639, ji2147483647, jI_eq, jI_lt, g, if_true, if_false, ↓mo_ns_r, ↓hn0, ↓mo_cs_s, ↓mo_xs_r, ↓mo_xs_l, ↓mo_nl_s, mo_z_0, mo_z_1]
  rw [if_neg (by decide), if_neg (by decide), Dg0 r2.o r2.r w1, Dg3 r2]
  simp only [ji1, ji2, ji3, ji4, ji5, ji6, ji7, ji8, ji9, ji10, ji11, ji12, ji13, ji14, ji15, ji16, ji19, ji20, ji24, ji31, ji32, ji39, ji45, ji48, ji57, ji58, ji59, ji60, ji97, ji100, ji119, ji120, ji122, ji144, ji200, ji226, ji240, ji255, ji300, ji366, ji400, ji500, ji1000, jI_z, ↓jI_m1, jI_add, jI_sub, jI_mul, ↓jm1000, ↓jm100, ↓jm10, ↓jm9, ji50, ji65280, ji1664525, ji252645135, ji858993459, ji1013904223, ji1431655765, ji2147483639, ji2147483647, e1]
  rw [Dw3 r2, by_ch hx, hl_ui w2 (by omega) (by omega) (by omega)]
  simp only [Int.toNat_natCast, ↓mo_ns_r, ↓hn0, ↓mo_cs_s, ↓mo_xs_r, ↓mo_xs_l, ↓mo_nl_s, mo_z_0, mo_z_1]
/-- a number's digits -/
def dg (x : Nat) : List Int := if x < 10 then [((48 + x : Nat) : Int)] else [((48 + x / 10 : Nat) : Int), ((48 + x % 10 : Nat) : Int)]
theorem dg_len {x : Nat} : (dg x).length = if x < 10 then 1 else 2 := by unfold dg; split <;> rfl
theorem J6_size {σ : ac_H} {x : Nat} (hx : x < 100) : m_J6_stringSize_0f7a4 σ (jI x) = some (jI (dg x).length, σ) := by
  obtain ⟨f, hf⟩ : ∃ f, hN_f = f + 1 + 1 := ⟨99998, rfl⟩
  have g0 : ¬ (x : Int) < 0 := by omega
  unfold m_J6_stringSize_0f7a4
  rw [hf, dg_len]
  simp (disch := omega) only [ji1, ji2, ji3, ji4, ji5, ji6, ji7, ji8, ji9, ji10, ji11, ji12, ji13, ji14, ji15, ji16, ji19, ji20, ji24, ji31, ji32, ji39, ji45, ji48, ji57, ji58, ji59, ji60, ji97, ji100, ji119, ji120, ji122, ji144, ji200, ji226, ji240, ji255, ji300, ji366, ji400, ji500, ji1000, jI_z, ↓jI_m1, jI_add, jI_sub, jI_mul, ↓jm1000, ↓jm100, ↓jm10, ↓jm9, ji50, ji65280, ji1664525, ji252645135, ji858993459, ji1013904223, ji1431655765, ji2147483639, ji2147483647, jI_lt, g0, if_false, jI_ne]
  unfold m_J6_stringSize_0f7a4_l16
  by_cases h10 : x < 10
  · have g1 : (-10 : Int) < -x := by omega
    simp (disch := omega) only [ji1, ji2, ji3, ji4, ji5, ji6, ji7, ji8, ji9, ji10, ji11, ji12, ji13, ji14, ji15, ji16, ji19, ji20, ji24, ji31, ji32, ji39, ji45, ji48, ji57, ji58, ji59, ji60, ji97, ji100, ji119, ji120, ji122, ji144, ji200, ji226, ji240, ji255, ji300, ji366, ji400, ji500, ji1000, jI_z, ↓jI_m1, jI_add, jI_sub, jI_mul, ↓jm1000, ↓jm100, ↓jm10, ↓jm9, ji50, ji65280, ji1664525, ji252645135, ji858993459, ji1013904223, ji1431655765, ji2147483639, ji2147483647, jI_lt, g1, if_true]
    rw [if_pos (by decide), if_pos h10]; rfl
  · have g1 : ¬ (-10 : Int) < -x := by omega
    simp (disch := omega) only [ji1, ji2, ji3, ji4, ji5, ji6, ji7, ji8, ji9, ji10, ji11, ji12, ji13, ji14, ji15, ji16, ji19, ji20, ji24, ji31, ji32, ji39, ji45, ji48, ji57, ji58, ji59, ji60, ji97, ji100, ji119, ji120, ji122, ji144, ji200, ji226, ji240, ji255, ji300, ji366, ji400, ji500, ji1000, jI_z, ↓jI_m1, jI_add, jI_sub, jI_mul, ↓jm1000, ↓jm100, ↓jm10, ↓jm9, ji50, ji65280, ji1664525, ji252645135, ji858993459, ji1013904223, ji1431655765, ji2147483639, ji2147483647, jI_lt, g1, if_false]
    rw [if_pos (by decide), if_neg h10]
    unfold m_J6_stringSize_0f7a4_l16
    have g2 : (-100 : Int) < -x := by omega
    rw [if_pos (by decide), if_pos (by rw [show ((10 * -10 : Int)) = -100 from by decide, jI_lt (by omega) (by omega) (by omega) (by omega)]; exact g2)]
    rfl
theorem mo_d0 {α : Type} {x : Nat} {F : Int32 → Option α} (hx : x < 100) : mo_d 0 (jI x) F = F (jI ((48 + x % 10 : Nat) : Int)) := by
  unfold mo_d ac_D
  rw [jI_ix (by omega) (by omega), if_neg, if_pos rfl, Int.toNat_natCast, jI_nat]
  intro hh; rcases hh with hh | hh
  · exact jI_nonneg (by omega) (by omega) hh
  · omega
theorem mo_d1 {α : Type} {x : Nat} {F : Int32 → Option α} (hx : x < 100) : mo_d 1 (jI x) F = F (jI ((48 + x / 10 : Nat) : Int)) := by
  unfold mo_d ac_D
  rw [jI_ix (by omega) (by omega), if_neg, if_neg (by decide), Int.toNat_natCast, jI_nat]
  intro hh; rcases hh with hh | hh
  · exact jI_nonneg (by omega) (by omega) hh
  · omega
theorem J6_get {z w m p x : Nat} {M : hM} (hx : x < 100) (hw : lA S w 1 m) (hm : m ≤ 300) (hp' : p + (dg x).length ≤ m) : ∃ M', m_J6_getChars_ba4f3 (hp S z M) (jI x) (jI ((p + (dg x).length : Nat) : Int)) (z + w) = some (jI p, hp S z M') ∧ (∀ a k, gI M' a k = gI M a k) ∧ (∀ a k, a ≠ w → gA M' a k = gA M a k) ∧ (∀ k, gA M' w k = if p ≤ k ∧ k < p + (dg x).length then (dg x).getD (k - p) 0 else gA M w k) ∧ Vr M M' := by
  obtain ⟨f, hf⟩ : ∃ f, hN_f = f + 1 := ⟨99999, rfl⟩
  have g0 : ¬ (x : Int) < 0 := by omega
  have g1 : (-100 : Int) < -x := by omega
  have en : -(-(x : Int)) = x := by omega
  by_cases h10 : x < 10
  · have hl : (dg x).length = 1 := by rw [dg_len, if_pos h10]
    have hd : dg x = [((48 + x : Nat) : Int)] := by unfold dg; rw [if_pos h10]
    have g2 : ¬ -(x : Int) < -9 := by omega
    have ei : ((p + 1 : Nat) : Int) + -1 = p := by omega
    have er : ((48 + x % 10 : Nat) : Int) = ((48 + x : Nat) : Int) := by omega
    refine ⟨sA M w p ((48 + x : Nat) : Int), ?_, fun _ _ => rfl, fun a k ha => by rw [gA_ne (by omega)], fun k => ?_, fun _ => rfl⟩
    · rw [hl]
      unfold m_J6_getChars_ba4f3 m_J6_getChars_ba4f3_j12
      simp (disch := omega) only [ji1, ji2, ji3, ji4, ji5, ji6, ji7, ji8, ji9, ji10, ji11, ji12, ji13, ji14, ji15, ji16, ji19, ji20, ji24, ji31, ji32, ji39, ji45, ji48, ji57, ji58, ji59, ji60, ji97, ji100, ji119, ji120, ji122, ji144, ji200, ji226, ji240, ji255, ji300, ji366, ji400, ji500, ji1000, jI_z, ↓jI_m1, jI_add, jI_sub, jI_mul, ↓jm1000, ↓jm100, ↓jm10, ↓jm9, ji50, ji65280, ji1664525, ji252645135, ji858993459, ji1013904223, ji1431655765, ji2147483639, ji2147483647, jI_lt, g0, if_false, jI_ne]
      rw [if_pos trivial, hf]
      unfold m_J6_getChars_ba4f3_l22 m_J6_getChars_ba4f3_j104
      simp (disch := omega) only [ji1, ji2, ji3, ji4, ji5, ji6, ji7, ji8, ji9, ji10, ji11, ji12, ji13, ji14, ji15, ji16, ji19, ji20, ji24, ji31, ji32, ji39, ji45, ji48, ji57, ji58, ji59, ji60, ji97, ji100, ji119, ji120, ji122, ji144, ji200, ji226, ji240, ji255, ji300, ji366, ji400, ji500, ji1000, jI_z, ↓jI_m1, jI_add, jI_sub, jI_mul, ↓jm1000, ↓jm100, ↓jm10, ↓jm9, ji50, ji65280, ji1664525, ji252645135, ji858993459, ji1013904223, ji1431655765, ji2147483639, ji2147483647, jI_lt, g1, if_true, jI_ne, en, g2, if_false, mo_d0, er, ei]
      rw [by_nar (by omega), hl_ui hw (by omega) (by omega) (by omega), Int.toNat_natCast]
    · rw [gA_sA, hl, hd]
      by_cases hk : k = p
      · rw [if_pos ⟨rfl, hk⟩, if_pos (by omega), hk, Nat.sub_self]; rfl
      · rw [if_neg (by omega), if_neg (by omega)]
  · have hl : (dg x).length = 2 := by rw [dg_len, if_neg h10]
    have hd : dg x = [((48 + x / 10 : Nat) : Int), ((48 + x % 10 : Nat) : Int)] := by unfold dg; rw [if_neg h10]
    have g2 : -(x : Int) < -9 := by omega
    have ei : ((p + 2 : Nat) : Int) + -1 = ((p + 1 : Nat) : Int) := by omega
    have ej : ((p + 1 : Nat) : Int) + -1 = p := by omega
    refine ⟨sA (sA M w (p + 1) ((48 + x % 10 : Nat) : Int)) w p ((48 + x / 10 : Nat) : Int), ?_, fun _ _ => rfl, fun a k ha => by rw [gA_ne (by omega), gA_ne (by omega)], fun k => ?_, fun _ => rfl⟩
    · rw [hl]
      unfold m_J6_getChars_ba4f3 m_J6_getChars_ba4f3_j12
      simp (disch := omega) only [ji1, ji2, ji3, ji4, ji5, ji6, ji7, ji8, ji9, ji10, ji11, ji12, ji13, ji14, ji15, ji16, ji19, ji20, ji24, ji31, ji32, ji39, ji45, ji48, ji57, ji58, ji59, ji60, ji97, ji100, ji119, ji120, ji122, ji144, ji200, ji226, ji240, ji255, ji300, ji366, ji400, ji500, ji1000, jI_z, ↓jI_m1, jI_add, jI_sub, jI_mul, ↓jm1000, ↓jm100, ↓jm10, ↓jm9, ji50, ji65280, ji1664525, ji252645135, ji858993459, ji1013904223, ji1431655765, ji2147483639, ji2147483647, jI_lt, g0, if_false, jI_ne]
      rw [if_pos trivial, hf]
      unfold m_J6_getChars_ba4f3_l22 m_J6_getChars_ba4f3_j104
      simp (disch := omega) only [ji1, ji2, ji3, ji4, ji5, ji6, ji7, ji8, ji9, ji10, ji11, ji12, ji13, ji14, ji15, ji16, ji19, ji20, ji24, ji31, ji32, ji39, ji45, ji48, ji57, ji58, ji59, ji60, ji97, ji100, ji119, ji120, ji122, ji144, ji200, ji226, ji240, ji255, ji300, ji366, ji400, ji500, ji1000, jI_z, ↓jI_m1, jI_add, jI_sub, jI_mul, ↓jm1000, ↓jm100, ↓jm10, ↓jm9, ji50, ji65280, ji1664525, ji252645135, ji858993459, ji1013904223, ji1431655765, ji2147483639, ji2147483647, jI_lt, g1, if_true, jI_ne, en, g2, mo_d0, mo_d1, ei, ej]
      rw [by_nar (by omega), hl_ui hw (by omega) (by omega) (by omega), by_nar (by omega), hl_ui hw (by omega) (by omega) (by omega), Int.toNat_natCast, Int.toNat_natCast]
    · rw [gA_sA, gA_sA, hl, hd]
      by_cases hk : k = p
      · rw [if_pos ⟨rfl, hk⟩, if_pos (by omega), hk, Nat.sub_self]; rfl
      · rw [if_neg (by omega)]
        by_cases hk1 : k = p + 1
        · rw [if_pos ⟨rfl, hk1⟩, if_pos (by omega), hk1, Nat.add_sub_cancel_left]; rfl
        · rw [if_neg (by omega), if_neg (by omega)]
theorem dg_by {x : Nat} (hx : x < 100) (j : Nat) : 0 ≤ (dg x).getD j 0 ∧ (dg x).getD j 0 < 128 := by
  unfold dg
  split
  · rcases j with _ | j
    · show 0 ≤ ((48 + x : Nat) : Int) ∧ ((48 + x : Nat) : Int) < 128; omega
    · show (0 : Int) ≤ 0 ∧ (0 : Int) < 128; omega
  · rcases j with _ | j
    · show 0 ≤ ((48 + x / 10 : Nat) : Int) ∧ ((48 + x / 10 : Nat) : Int) < 128; omega
    · rcases j with _ | j
      · show 0 ≤ ((48 + x % 10 : Nat) : Int) ∧ ((48 + x % 10 : Nat) : Int) < 128; omega
      · show (0 : Int) ≤ 0 ∧ (0 : Int) < 128; omega
theorem J4_num {z b lo n c0 x : Nat} {M : hM} {t : List Int} (h : BB S M b lo n t c0) (hx : x < 100) (hl : t.length + 2 ≤ 120) : AP S z M b lo n (t ++ dg x) (m_J4_append_bf812 (hp S z M) (z + b) (jI x) (z + n)) := by
  have hL : (dg x).length ≤ 2 := by rw [dg_len]; split <;> omega
  obtain ⟨S1, M1, n1, r1, r2, r3, r4, r5⟩ := J5_ens (z := z) (c := t.length + (dg x).length) h (by omega) (by omega) (by omega)
  obtain ⟨w, m, w1, w2, w3, w4, w5, w6, w7, w8, w9⟩ := r2.w
  have hbl := r2.bl
  have hwb : w ≠ b := by omega
  have e1 : (t.length : Int) + (dg x).length = ((t.length + (dg x).length : Nat) : Int) := by omega
  have hlen : (t ++ dg x).length = t.length + (dg x).length := List.length_append
  obtain ⟨M2, s1, s2, s3, s4, s5⟩ := J6_get (S := S1) (z := z) (M := M1) (p := t.length) hx w2 w5 (by omega)
  have key := r2.put (l := dg x) (M2 := sI M2 b 3 ((t.length + (dg x).length : Nat) : Int)) w1 w2 w3 w4 w5 w8 w9 hlen.symm
    (fun a k hk => by rw [gI_sI, if_neg (by omega)]; exact s2 a k) (by rw [gI_sI, if_pos ⟨rfl, rfl⟩, hlen]) (fun a k ha => by rw [gA_sI]; exact s3 a k ha) (fun k => s5 k)
    (fun j => by
      rw [gA_sI, s4]
      by_cases hj : t.length ≤ j ∧ j < t.length + (dg x).length
      · rw [if_pos hj]; exact dg_by hx _
      · rw [if_neg hj]; exact w6 j)
    (fun j hj => by
      rw [gA_sI, s4]
      by_cases hj' : t.length ≤ j
      · rw [if_pos ⟨hj', by omega⟩, gD_r hj']
      · rw [if_neg (by omega), gD_l (by omega)]; exact w7 j (by omega))
  refine ⟨S1, _, n1, ?_, key.1, r3, r4, r5.trans key.2⟩
  unfold m_J4_append_bf812 m_J5_append_c97b9 m_J5_isLatin1_aae02
  rw [Dv h, Dg3 h, J6_size hx]
  simp only [↓mo_ns_r, ↓hn0, ↓mo_cs_s, ↓mo_xs_r, ↓mo_xs_l, ↓mo_nl_s, mo_z_0, mo_z_1, ji1, ji2, ji3, ji4, ji5, ji6, ji7, ji8, ji9, ji10, ji11, ji12, ji13, ji14, ji15, ji16, ji19, ji20, ji24, ji31, ji32, ji39, ji45, ji48, ji57, ji58, ji59, ji60, ji97, ji100, ji119, ji120, ji122, ji144, ji200, ji226, ji240, ji255, ji300, ji366, ji400, ji500, ji1000, jI_z, ↓jI_m1, jI_add, jI_sub, jI_mul, ↓jm1000, ↓jm100, ↓jm10, ↓jm9, ji50, ji65280, ji1664525, ji252645135, ji858993459, ji1013904223, ji1431655765, ji2147483639, ji2147483647, e1]
  rw [Dv h, r1]
  simp only [↓mo_ns_r, ↓hn0, ↓mo_cs_s, ↓mo_xs_r, ↓mo_xs_l, ↓mo_nl_s, mo_z_0, mo_z_1]
  rw [Dv r2, if_neg (by decide), Dg1 r2]
  simp (disch := omega) only [ji1, ji2, ji3, ji4, ji5, ji6, ji7, ji8, ji9, ji10, ji11, ji12, ji13, ji14, ji15, ji16, ji19, ji20, ji24, ji31, ji32, ji39, ji45, ji48, ji57, ji58, ji59, ji60, ji97, ji100, ji119, ji120, ji122, ji144, ji200, ji226, ji240, ji255, ji300, ji366, ji400, ji500, ji1000, jI_z, ↓jI_m1, jI_add, jI_sub, jI_mul, ↓jm1000, ↓jm100, ↓jm10, ↓jm9, ji50, ji65280, ji1664525, ji252645135, ji858993459, ji1013904223, ji1431655765, ji2147483639, ji2147483647, jI_eq, if_true, ↓mo_ns_r, ↓hn0, ↓mo_cs_s, ↓mo_xs_r, ↓mo_xs_l, ↓mo_nl_s, mo_z_0, mo_z_1]
  rw [if_neg (by decide), Dg0 r2.o r2.r w1, s1]
  simp only [↓mo_ns_r, ↓hn0, ↓mo_cs_s, ↓mo_xs_r, ↓mo_xs_l, ↓mo_nl_s, mo_z_0, mo_z_1]
  rw [hl_pi r2.o (by decide) (r2.i 3 (by decide))]
  simp only [↓mo_ns_r, ↓hn0, ↓mo_cs_s, ↓mo_xs_r, ↓mo_xs_l, ↓mo_nl_s, mo_z_0, mo_z_1]

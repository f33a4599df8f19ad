variable {S : hSh}
/-! .. sending. -/
def LR (M : hM) (T : List hT) (t : Int) (j : Nat) : Prop := LT M T ∧ LQ M T ∧ gI M 16 10 = pnd t j T
theorem is18 {b : Nat} (h : b = 1 ∨ b = 8) : isB b = true := by rcases h with h | h <;> subst h <;> rfl
theorem qL_one {u : Int} {x : hT} {k : Nat} : qL u [x] k = (if x.2.2.2.1 = u then [2 * k] else []) ++ (if x.2.2.2.2 = u then [2 * k + 1] else []) := by simp [qL]
theorem LQ_Q {T : List hT} (hT : T.length ≤ 120) (u : Int) : (∀ v ∈ qL u T 0, v < 2 * T.length) ∧ (∀ (u' : Int), ∀ v ∈ qL u' T 0, v ∈ qL u T 0 → u' = u) ∧ (qL u T 0).Nodup ∧ (qL u T 0).length < 1000 := by
  refine ⟨fun v hv => ?_, fun u' v h1 h2 => ?_, qL_nd T 0, ?_⟩
  · obtain ⟨i, x, h1, h2⟩ := qL_mem T 0 hv
    have := (List.getElem?_eq_some_iff.mp h1).1
    omega
  · obtain ⟨i, x, g1, g2⟩ := qL_mem T 0 h1
    obtain ⟨i', x', g1', g2'⟩ := qL_mem T 0 h2
    rcases g2 with ⟨e, f⟩ | ⟨e, f⟩ <;> rcases g2' with ⟨e', f'⟩ | ⟨e', f'⟩
    · have : i = i' := by omega
      subst this; rw [g1] at g1'; simp only [Option.some.injEq] at g1'; subst g1'; rw [← f, ← f']
    · omega
    · omega
    · have : i = i' := by omega
      subst this; rw [g1] at g1'; simp only [Option.some.injEq] at g1'; subst g1'; rw [← f, ← f']
  · have := qL_len (u := u) T 0; omega
theorem FrQ.fr {M M' : hM} (h : FrQ M M') : Fr 16 26 M M' := fun a ha => ⟨fun k => h.1 a k (by omega), fun k => h.2.1 a k (by omega)⟩
theorem pnd_app {t : Int} {j : Nat} {T : List hT} {x : hT} : pnd t j (T ++ [x]) = pnd t j T + pd2 t j T.length x := by
  unfold pnd; rw [cnt_app, Nat.zero_add]; simp [cnt]
/-- the second half of a sending: both arrivals join their queues -/
theorem X2_send2 {z b n : Nat} {M : hM} {c : hCf} {T : List hT} {t kd w f : Int} {j : Nat} (hb : b = 1 ∨ b = 8) (hB : BR M b c) (hc : okC c) (hT : T.length < 120) (hn : n = T.length) (ht : 0 ≤ t) (hf : t < f ∧ f ≤ 224) (hD : fnd 0 n c.2 0 = -1) (hfe : f = tFst c t n)
    (hQ : LQ M T) (hp' : gI M 16 10 = pnd t j T) (h5 : gI M 16 5 = n + 1) (hA : ∀ k x, T[k]? = some x → gA M 17 k = x.1 ∧ gA M 18 k = x.2.1 ∧ gA M 19 k = x.2.2.1 ∧ gA M 20 k = x.2.2.2.1 ∧ gA M 21 k = x.2.2.2.2)
    (hx : gA M 17 n = t ∧ gA M 18 n = kd ∧ gA M 19 n = w ∧ gA M 21 n = -1) :
    ∃ M', m_X2_send_j118 (z + 16) (z + b) (hp S z M) (jI n) (jI f) = some ((), hp S z M') ∧ LR M' (T ++ [(t, kd, w, tFst c t n, tSnd c t n)]) t j ∧ Fr 16 26 M M' ∧ Vr M M' := by
  have hB' := is18 hb
  obtain ⟨q1, q2, q3, q4⟩ := LQ_Q (T := T) (by omega) f
  have ef : ((f.toNat : Nat) : Int) = f := Int.toNat_of_nonneg (by omega)
  have hC1 : ∀ u', u' < 226 → Ch (sA M 20 n f) u' (qL u' T 0) := fun u' hu => Ch_other (hQ u' hu) (by simp [gA_sA]) (by simp [gA_sA]) (by simp [gA_sA]) (fun x _ => by simp [gA_sA])
  obtain ⟨M2, r1, r2, r3, r4⟩ := X2_queue (S := S) (z := z) (u := f.toNat) (a := 2 * n) (Q := fun u => qL (u : Int) T 0) (by omega) (by omega) hC1 (fun v hv => by have := q1 v (by simpa only [ef] using hv); omega) (fun u' _ v h1 h2 => by have := q2 u' v h1 (by simpa only [ef] using h2); omega) (by simp only [ef]; exact q3) (by simp only [ef]; exact q4)
  rw [ef, show ((2 * n : Nat) : Int) = 2 * (n : Int) from by omega] at r1
  have hB2 : BR M2 b c := (hB.keep (Fr.sA (a := 20) (lo := 16) (hi := 26) (by omega)) (by omega)).keep r4.fr (by omega)
  have hfd := X0_find (S := S) (z := z) (kd := 1) (nm := n) hB' hB2 hc ⟨by omega, by omega⟩ ⟨by omega, by omega⟩
  have h16 : gI M2 16 5 = n + 1 := by rw [r4.1 16 5 (by omega), gI_sA]; exact h5
  have hA2 : ∀ a k, a < 22 → gA M2 a k = gA (sA M 20 n f) a k := fun a k ha => r4.2.1 a k (by omega)
  by_cases h2 : fnd 1 n c.2 0 = -1
  · have hs : tSnd c t n = -1 := by unfold tSnd; rw [if_pos hD, if_pos h2]
    refine ⟨M2, ?_, ⟨⟨by rw [h16]; simp; omega, fun k x hk => ?_⟩, fun u hu => ?_, ?_⟩, (Fr.sA (by omega)).trans r4.fr, fun k => (r4.2.2 k).trans gV_sA⟩
    · unfold m_X2_send_j118
      simp (disch := omega) only [ji1, ji2, ji3, ji4, ji5, ji6, ji7, ji8, ji9, ji10, ji11, ji12, ji13, ji14, ji15, ji16, ji19, ji20, ji24, ji31, ji32, ji39, ji45, ji48, ji57, ji58, ji59, ji60, ji97, ji100, ji119, ji120, ji122, ji144, ji200, ji226, ji240, ji255, ji300, ji366, ji400, ji500, ji1000, jI_z, ↓jI_m1, jI_add, jI_sub, jI_mul, ↓hg16_0, ↓hg16_1, ↓hg16_2, ↓hg16_3, ↓hg16_4, ↓hg16_5, hw16_5, ↓hg16_6, ↓hg16_7, ↓hg16_8, ↓hg16_9, ↓hg16_10, hw16_10, ↓hv16, ↓hx16, ha17, hu17, ↓hl17, ha18, hu18, ↓hl18, ha19, hu19, ↓hl19, ha20, hu20, ↓hl20, ha21, hu21, ↓hl21, ha22, hu22, ↓hl22, ha23, hu23, ↓hl23, ha24, hu24, ↓hl24, ha25, hu25, ↓hl25, Int.toNat_natCast]
      rw [r1]
      simp (disch := omega) only [ji1, ji2, ji3, ji4, ji5, ji6, ji7, ji8, ji9, ji10, ji11, ji12, ji13, ji14, ji15, ji16, ji19, ji20, ji24, ji31, ji32, ji39, ji45, ji48, ji57, ji58, ji59, ji60, ji97, ji100, ji119, ji120, ji122, ji144, ji200, ji226, ji240, ji255, ji300, ji366, ji400, ji500, ji1000, jI_z, ↓jI_m1, jI_add, jI_sub, jI_mul, ↓mo_ns_r, ↓hn0, ↓mo_cs_s, ↓mo_xs_r, ↓mo_xs_l, ↓mo_nl_s, mo_z_0, mo_z_1, ↓Bg0 hB', ↓Bg1 hB', ↓Bg2 hB', ↓Bg3 hB', ↓Bg5 hB', ↓Bg4 hB', Bw4 hB', ↓Bv hB', Ba1 hB', Bu1 hB', Ba2 hB', Bu2 hB', Ba3 hB', Bu3 hB', Ba4 hB', Bu4 hB']
      rw [hfd, h2]
      simp (disch := omega) only [ji1, ji2, ji3, ji4, ji5, ji6, ji7, ji8, ji9, ji10, ji11, ji12, ji13, ji14, ji15, ji16, ji19, ji20, ji24, ji31, ji32, ji39, ji45, ji48, ji57, ji58, ji59, ji60, ji97, ji100, ji119, ji120, ji122, ji144, ji200, ji226, ji240, ji255, ji300, ji366, ji400, ji500, ji1000, jI_z, ↓jI_m1, jI_add, jI_sub, jI_mul, ↓mo_ns_r, ↓hn0, ↓mo_cs_s, ↓mo_xs_r, ↓mo_xs_l, ↓mo_nl_s, mo_z_0, mo_z_1, if_true]
    · rw [hA2 17 k (by omega), hA2 18 k (by omega), hA2 19 k (by omega), hA2 20 k (by omega), hA2 21 k (by omega)]
      simp only [gA_sA, show (17 : Nat) ≠ 20 from by decide, show (18 : Nat) ≠ 20 from by decide, show (19 : Nat) ≠ 20 from by decide, show (21 : Nat) ≠ 20 from by decide, false_and, if_false, true_and]
      by_cases hkn : k < T.length
      · rw [List.getElem?_append_left hkn] at hk
        rw [if_neg (by omega)]; exact hA k x hk
      · have hkl := (List.getElem?_eq_some_iff.mp hk).1
        simp only [List.length_append, List.length_cons, List.length_nil] at hkl
        have hkn' : k = n := by omega
        rw [List.getElem?_append_right (by omega), show k - T.length = 0 from by omega] at hk
        simp only [List.getElem?_cons_zero, Option.some.injEq] at hk
        subst hk; subst hkn'
        rw [if_pos rfl]
        exact ⟨hx.1, hx.2.1, hx.2.2.1, hfe, by rw [hs]; exact hx.2.2.2⟩
    · rw [qL_app, qL_one, hs]
      have := r2 u hu
      rw [Nat.zero_add, if_neg (show ¬ (-1 : Int) = u by omega), List.append_nil, ← hfe]
      by_cases huf : u = f.toNat
      · rw [if_pos huf] at this
        rw [if_pos (show f = u by omega), ← hn]
        simp only [ef] at this
        rw [show (u : Int) = f by omega]; exact this
      · rw [if_neg huf] at this
        rw [if_neg (show ¬ f = u by omega), List.append_nil]; exact this
    · rw [r3, gI_sA, hp', pnd_app, hs, ← hfe]
      have : pd2 t j T.length (t, kd, w, f, -1) = 1 := by
        unfold pd2 pd1; simp only; rw [if_pos (by omega), if_neg (by omega)]
      rw [this]; omega
  · have hs : tSnd c t n = f + 1 := by rw [hfe]; unfold tSnd tFst; rw [if_pos hD, if_neg h2, if_pos hD]
    have ef1 : (((f + 1).toNat : Nat) : Int) = f + 1 := Int.toNat_of_nonneg (by omega)
    obtain ⟨p1, p2, p3, p4⟩ := LQ_Q (T := T) (by omega) (f + 1)
    have hC2 : ∀ u', u' < 226 → Ch (sA M2 21 n (f + 1)) u' (if u' = f.toNat then qL f T 0 ++ [2 * n] else qL u' T 0) := fun u' hu => by
      have := r2 u' hu
      simp only [ef] at this
      exact Ch_other this (by simp [gA_sA]) (by simp [gA_sA]) (by simp [gA_sA]) (fun x _ => by simp [gA_sA])
    have hne : ¬ (f + 1).toNat = f.toNat := by omega
    obtain ⟨M3, s1, s2, s3, s4⟩ := X2_queue (S := S) (z := z) (u := (f + 1).toNat) (a := 2 * n + 1) (Q := fun u => if u = f.toNat then qL f T 0 ++ [2 * n] else qL (u : Int) T 0) (by omega) (by omega) hC2
      (fun v hv => by simp only [if_neg hne, ef1] at hv; have := p1 v hv; omega)
      (fun u' _ v h1 h2 => by
        simp only [if_neg hne, ef1] at h2
        by_cases huf : u' = f.toNat
        · simp only [if_pos huf] at h1
          rcases List.mem_append.mp h1 with h1 | h1
          · have := p2 f v h1 h2; omega
          · simp only [List.mem_singleton] at h1
            have := p1 v h2; omega
        · simp only [if_neg huf] at h1
          have := p2 u' v h1 h2; omega)
      (by simp only [if_neg hne, ef1]; exact p3) (by simp only [if_neg hne, ef1]; exact p4)
    rw [ef1, show ((2 * n + 1 : Nat) : Int) = 2 * (n : Int) + 1 from by omega] at s1
    have hA3 : ∀ a k, a < 22 → gA M3 a k = gA (sA M2 21 n (f + 1)) a k := fun a k ha => s4.2.1 a k (by omega)
    refine ⟨M3, ?_, ⟨⟨by rw [s4.1 16 5 (by omega), gI_sA, h16]; simp; omega, fun k x hk => ?_⟩, fun u hu => ?_, ?_⟩, ((Fr.sA (by omega)).trans r4.fr).trans ((Fr.sA (by omega)).trans s4.fr), fun k => ((s4.2.2 k).trans gV_sA).trans ((r4.2.2 k).trans gV_sA)⟩
    · have hfb : okW (fnd 1 n c.2 0) := by
        rcases fnd_get (kd := 1) (nm := n) c.2 0 with g | ⟨i, x, g, g2, _⟩
        · rw [g]; exact ⟨by omega, by omega⟩
        · rw [g]; have := (List.getElem?_eq_some_iff.mp g2).1; have := hc.1; exact ⟨by omega, by omega⟩
      obtain ⟨hf0, hf1⟩ := hfb
      unfold m_X2_send_j118
      simp (disch := omega) only [ji1, ji2, ji3, ji4, ji5, ji6, ji7, ji8, ji9, ji10, ji11, ji12, ji13, ji14, ji15, ji16, ji19, ji20, ji24, ji31, ji32, ji39, ji45, ji48, ji57, ji58, ji59, ji60, ji97, ji100, ji119, ji120, ji122, ji144, ji200, ji226, ji240, ji255, ji300, ji366, ji400, ji500, ji1000, jI_z, ↓jI_m1, jI_add, jI_sub, jI_mul, ↓hg16_0, ↓hg16_1, ↓hg16_2, ↓hg16_3, ↓hg16_4, ↓hg16_5, hw16_5, ↓hg16_6, ↓hg16_7, ↓hg16_8, ↓hg16_9, ↓hg16_10, hw16_10, ↓hv16, ↓hx16, ha17, hu17, ↓hl17, ha18, hu18, ↓hl18, ha19, hu19, ↓hl19, ha20, hu20, ↓hl20, ha21, hu21, ↓hl21, ha22, hu22, ↓hl22, ha23, hu23, ↓hl23, ha24, hu24, ↓hl24, ha25, hu25, ↓hl25, Int.toNat_natCast]
      rw [r1]
      simp (disch := omega) only [ji1, ji2, ji3, ji4, ji5, ji6, ji7, ji8, ji9, ji10, ji11, ji12, ji13, ji14, ji15, ji16, ji19, ji20, ji24, ji31, ji32, ji39, ji45, ji48, ji57, ji58, ji59, ji60, ji97, ji100, ji119, ji120, ji122, ji144, ji200, ji226, ji240, ji255, ji300, ji366, ji400, ji500, ji1000, jI_z, ↓jI_m1, jI_add, jI_sub, jI_mul, ↓mo_ns_r, ↓hn0, ↓mo_cs_s, ↓mo_xs_r, ↓mo_xs_l, ↓mo_nl_s, mo_z_0, mo_z_1, ↓Bg0 hB', ↓Bg1 hB', ↓Bg2 hB', ↓Bg3 hB', ↓Bg5 hB', ↓Bg4 hB', Bw4 hB', ↓Bv hB', Ba1 hB', Bu1 hB', Ba2 hB', Bu2 hB', Ba3 hB', Bu3 hB', Ba4 hB', Bu4 hB']
      rw [hfd]
      simp (disch := omega) only [ji1, ji2, ji3, ji4, ji5, ji6, ji7, ji8, ji9, ji10, ji11, ji12, ji13, ji14, ji15, ji16, ji19, ji20, ji24, ji31, ji32, ji39, ji45, ji48, ji57, ji58, ji59, ji60, ji97, ji100, ji119, ji120, ji122, ji144, ji200, ji226, ji240, ji255, ji300, ji366, ji400, ji500, ji1000, jI_z, ↓jI_m1, jI_add, jI_sub, jI_mul, ↓mo_ns_r, ↓hn0, ↓mo_cs_s, ↓mo_xs_r, ↓mo_xs_l, ↓mo_nl_s, mo_z_0, mo_z_1, jI_eq, h2, if_false, ↓hg16_0, ↓hg16_1, ↓hg16_2, ↓hg16_3, ↓hg16_4, ↓hg16_5, hw16_5, ↓hg16_6, ↓hg16_7, ↓hg16_8, ↓hg16_9, ↓hg16_10, hw16_10, ↓hv16, ↓hx16, ha17, hu17, ↓hl17, ha18, hu18, ↓hl18, ha19, hu19, ↓hl19, ha20, hu20, ↓hl20, ha21, hu21, ↓hl21, ha22, hu22, ↓hl22, ha23, hu23, ↓hl23, ha24, hu24, ↓hl24, ha25, hu25, ↓hl25, Int.toNat_natCast]
      rw [s1]
      simp (disch := omega) only [↓mo_ns_r, ↓hn0, ↓mo_cs_s, ↓mo_xs_r, ↓mo_xs_l, ↓mo_nl_s, mo_z_0, mo_z_1]
    · rw [hA3 17 k (by omega), hA3 18 k (by omega), hA3 19 k (by omega), hA3 20 k (by omega), hA3 21 k (by omega)]
      simp only [gA_sA, show (17 : Nat) ≠ 21 from by decide, show (18 : Nat) ≠ 21 from by decide, show (19 : Nat) ≠ 21 from by decide, show (20 : Nat) ≠ 21 from by decide, false_and, if_false, true_and]
      rw [hA2 17 k (by omega), hA2 18 k (by omega), hA2 19 k (by omega), hA2 20 k (by omega), hA2 21 k (by omega)]
      simp only [gA_sA, show (17 : Nat) ≠ 20 from by decide, show (18 : Nat) ≠ 20 from by decide, show (19 : Nat) ≠ 20 from by decide, show (21 : Nat) ≠ 20 from by decide, false_and, if_false, true_and]
      by_cases hkn : k < T.length
      · rw [List.getElem?_append_left hkn] at hk
        rw [if_neg (by omega), if_neg (by omega)]; exact hA k x hk
      · have hkl := (List.getElem?_eq_some_iff.mp hk).1
        simp only [List.length_append, List.length_cons, List.length_nil] at hkl
        have hkn' : k = n := by omega
        rw [List.getElem?_append_right (by omega), show k - T.length = 0 from by omega] at hk
        simp only [List.getElem?_cons_zero, Option.some.injEq] at hk
        subst hk; subst hkn'
        rw [if_pos rfl, if_pos rfl]
        exact ⟨hx.1, hx.2.1, hx.2.2.1, hfe, hs.symm⟩
    · rw [qL_app, qL_one, hs]
      have := s2 u hu
      simp only [if_neg hne, ef1] at this
      rw [Nat.zero_add, ← hfe, ← hn]
      show Ch M3 u (qL u T 0 ++ ((if f = u then [2 * n] else []) ++ (if f + 1 = u then [2 * n + 1] else [])))
      by_cases huf : u = (f + 1).toNat
      · rw [if_pos huf] at this
        rw [if_neg (show ¬ f = u by omega), if_pos (show f + 1 = u by omega), List.nil_append, show (u : Int) = f + 1 by omega]; exact this
      · rw [if_neg huf] at this
        rw [if_neg (show ¬ f + 1 = u by omega), List.append_nil]
        by_cases huf2 : u = f.toNat
        · rw [if_pos huf2] at this
          rw [if_pos (show f = u by omega), show (u : Int) = f by omega]; exact this
        · rw [if_neg huf2] at this
          rw [if_neg (show ¬ f = u by omega), List.append_nil]; exact this
    · rw [s3, gI_sA, r3, gI_sA, hp', pnd_app, hs, ← hfe]
      have : pd2 t j T.length (t, kd, w, f, f + 1) = 2 := by
        unfold pd2 pd1; simp only; rw [if_pos (by omega), if_pos (by omega)]
      rw [this]; omega


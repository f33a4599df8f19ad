variable {S : hSh}
theorem WR_get {M : hM} {r p : Nat} {c : hCf} {t : Int} {s : hS} (h : WR M r p c t s) : gI M r 0 = p ∧ PL M p c ∧ gI M r 11 = t ∧ wT M r s.1 ∧ wO M r s.2.1 s.2.2.2.2.2.2.2 ∧ wW M r s.2.2.1 ∧ gI M r 13 = s.2.2.2.1 ∧ gI M r 14 = s.2.2.2.2.1 ∧ wJ M r c s.2.2.2.1 s.2.2.2.2.1 s.2.2.2.2.2.1 ∧ gI M r 16 = sK s := by
  obtain ⟨T, O, W, B, N, J, K, C⟩ := s
  exact h
theorem wT.cg {M M' : hM} {r : Nat} {T : List hT} (h : wT M r T) (i : gI M' r 9 = gI M r 9) (a : ∀ b k, b ≠ r + 6 → b ≠ r + 8 → gA M' b k = gA M b k) : wT M' r T :=
  ⟨by rw [i]; exact h.1, fun k x hk => by rw [a _ _ (by omega) (by omega), a _ _ (by omega) (by omega), a _ _ (by omega) (by omega), a _ _ (by omega) (by omega), a _ _ (by omega) (by omega)]; exact h.2.1 k x hk, fun k hk => by rw [a _ _ (by omega) (by omega)]; exact h.2.2 k hk⟩
theorem wW.cg {M M' : hM} {r : Nat} {W : Nat → Nat} (h : wW M r W) (a : ∀ k, gA M' (r + 8) k = gA M (r + 8) k) : wW M' r W := fun s t h1 h2 => by rw [a]; exact h s t h1 h2
theorem wO.cg {M M' : hM} {r : Nat} {O : List Int} {C : Int} (h : wO M r O C) (i : gI M' r 10 = gI M r 10) (j : gI M' r 12 = gI M r 12) (a : ∀ k, gA M' (r + 6) k = gA M (r + 6) k) : wO M' r O C := ⟨by rw [i]; exact h.1, fun k x hk => by rw [a]; exact h.2.1 k x hk, by rw [j]; exact h.2.2⟩
theorem wJ.cg {M M' : hM} {r : Nat} {c : hCf} {B N J : Int} (h : wJ M r c B N J) (i : gI M' r 17 = gI M r 17) (j : gI M' r 15 = gI M r 15) : wJ M' r c B N J := ⟨fun e => by rw [i, j]; exact h.1 e, fun e g => by rw [j]; exact h.2 e g⟩
theorem X8_d113 {z r p : Nat} {M : hM} {c : hCf} {s : hS} {t w : Int} (hr : isR S r) (hq : isP S p) (hd : p + 5 ≤ r ∨ r + 9 ≤ p) (hc : okC c) (ht : 0 ≤ t ∧ t < 200) (hT : s.1.length ≤ 120) (hK : 0 ≤ sK s ∧ sK s ≤ 241) (hw : 0 ≤ w ∧ w ≤ 7) (h : WR M r p c t s) :
    ∃ M', m_X8_data_j113 (z + r) (jI w) (hp S z M) (jI (zSg c)) = some ((), hp S z M') ∧ WR M' r p c t (if c.1 0 = 0 then s else zSend c t 1 (if c.1 0 = 1 then w % 2 else sK s % zSg c) s) ∧ Fr r (r + 9) M M' ∧ Vr M M' := by
  have hcs := hc.s
  have hsg := zSg_in hc
  obtain ⟨h0, hP, h11, hT', hO, hW, hB, hN, hJ, h16⟩ := WR_get h
  have e0 : gA M (p + 1) (0 : Int).toNat = c.1 0 := hP.s (k := 0) (by omega)
  unfold m_X8_data_j113
  simp (disch := omega) only [ji1, ji2, ji3, ji4, ji5, ji6, ji7, ji8, ji9, ji10, ji11, ji12, ji13, ji14, ji15, ji16, ji19, ji20, ji24, ji31, ji32, ji39, ji45, ji48, ji57, ji58, ji59, ji60, ji97, ji100, ji119, ji120, ji122, ji144, ji200, ji226, ji240, ji255, ji300, ji366, ji400, ji500, ji1000, jI_z, ↓jI_m1, jI_add, jI_sub, jI_mul, ↓jm1000, ↓jm100, ↓jm10, ↓jm9, ji50, ji65280, ji1664525, ji252645135, ji858993459, ji1013904223, ji1431655765, ji2147483639, ji2147483647, ↓Rg0 hr, Rw0 hr, ↓Rg1 hr, ↓Rg2 hr, ↓Rg3 hr, ↓Rg4 hr, ↓Rg5 hr, ↓Rg6 hr, ↓Rg7 hr, ↓Rg8 hr, ↓Rg9 hr, Rw9 hr, ↓Rg10 hr, Rw10 hr, ↓Rg11 hr, Rw11 hr, ↓Rg12 hr, Rw12 hr, ↓Rg13 hr, Rw13 hr, ↓Rg14 hr, Rw14 hr, ↓Rg15 hr, Rw15 hr, ↓Rg16 hr, Rw16 hr, ↓Rg17 hr, Rw17 hr, ↓Rv hr, Ra1 hr, Ru1 hr, Ra2 hr, Ru2 hr, Ra3 hr, Ru3 hr, Ra4 hr, Ru4 hr, Ra5 hr, Ru5 hr, Ra6 hr, Ru6 hr, Ra7 hr, Ru7 hr, Ra8 hr, Ru8 hr, ↓Pg0 hq, ↓Pg1 hq, ↓Pg2 hq, ↓Pg3 hq, ↓Pv hq, Pa1 hq, Pu1 hq, Pa2 hq, Pu2 hq, Pa3 hq, Pu3 hq, Pa4 hq, Pu4 hq, h0, nneg, if_false, Int.toNat_natCast, e0, jI_lt, jI_eq]
  by_cases g0 : c.1 0 = 0
  · rw [if_pos g0, if_neg (by omega)]
    exact ⟨M, rfl, h, Fr.rfl', Vr.rfl'⟩
  · rw [if_neg g0, if_pos (by omega)]
    by_cases g1 : c.1 0 = 1
    · rw [if_pos g1, if_pos g1]
      obtain ⟨M', r1, r2, r3, r4⟩ := X8_send (z := z) (kd := 1) (w := w % 2) hr hq hd hc ht hT h
      refine ⟨M', ?_, r2, r3, r4⟩
      simp (disch := omega) only [mo_rm_j, r1, ↓mo_cs_s]
    · rw [if_neg g1, if_neg g1]
      obtain ⟨M', r1, r2, r3, r4⟩ := X8_send (z := z) (kd := 1) (w := sK s % zSg c) hr hq hd hc ht hT h
      refine ⟨M', ?_, r2, r3, r4⟩
      simp (disch := omega) only [↓Rg0 hr, Rw0 hr, ↓Rg1 hr, ↓Rg2 hr, ↓Rg3 hr, ↓Rg4 hr, ↓Rg5 hr, ↓Rg6 hr, ↓Rg7 hr, ↓Rg8 hr, ↓Rg9 hr, Rw9 hr, ↓Rg10 hr, Rw10 hr, ↓Rg11 hr, Rw11 hr, ↓Rg12 hr, Rw12 hr, ↓Rg13 hr, Rw13 hr, ↓Rg14 hr, Rw14 hr, ↓Rg15 hr, Rw15 hr, ↓Rg16 hr, Rw16 hr, ↓Rg17 hr, Rw17 hr, ↓Rv hr, Ra1 hr, Ru1 hr, Ra2 hr, Ru2 hr, Ra3 hr, Ru3 hr, Ra4 hr, Ru4 hr, Ra5 hr, Ru5 hr, Ra6 hr, Ru6 hr, Ra7 hr, Ru7 hr, Ra8 hr, Ru8 hr, h16, mo_rm_j, r1, ↓mo_cs_s]
theorem X8_d52 {z r p : Nat} {M : hM} {c : hCf} {s : hS} {t w : Int} (hr : isR S r) (hq : isP S p) (hd : p + 5 ≤ r ∨ r + 9 ≤ p) (hc : okC c) (ht : 0 ≤ t ∧ t < 200) (hl : s.2.1.length < 240) (hC : -1 ≤ s.2.2.2.2.2.2.2 ∧ s.2.2.2.2.2.2.2 ≤ t) (hb : ∀ x ∈ s.2.1, 0 ≤ x ∧ x < c.1 1) (hw : 0 ≤ w ∧ w < c.1 1) (h : WR M r p c t s) :
    ∃ M', m_X8_data_j52 (z + r) (jI w) (hp S z M) (jI (zSg c)) = m_X8_data_j113 (z + r) (jI w) (hp S z M') (jI (zSg c)) ∧ WR M' r p c t (if c.1 0 = 0 then zDel c t w s else zTk (zDel c t w s)) ∧ Fr r (r + 9) M M' ∧ Vr M M' := by
  have hcs := hc.s
  obtain ⟨T, O, W, B, N, J, K, C⟩ := s
  obtain ⟨h0, hP, h11, hT', ⟨o1, o2, o3⟩, hW, hB, hN, hJ, h16⟩ := h
  simp only at hl hC hb
  have hb2 : ∀ x ∈ O ++ [w], 0 ≤ x ∧ x < c.1 1 := by
    intro x hx
    rcases List.mem_append.mp hx with g | g
    · exact hb x g
    · simp only [List.mem_singleton] at g; subst g; exact hw
  generalize hM1 : sA (sI M r 10 (O.length + 1)) (r + 6) O.length w = M1
  have f1 : Fr r (r + 9) M M1 := by rw [← hM1]; exact (Fr.sI (by omega)).trans (Fr.sA (by omega))
  have v1 : Vr M M1 := by rw [← hM1]; exact fun _ => rfl
  have i1 : ∀ k, k ≠ 10 → gI M1 r k = gI M r k := fun k hk => by rw [← hM1, gI_sA, gI_ne (by omega)]
  have i10 : gI M1 r 10 = ((O ++ [w]).length : Nat) := by rw [← hM1, gI_sA, gI_eq]; simp
  have a1 : ∀ b k, b ≠ r + 6 → gA M1 b k = gA M b k := fun b k hb => by rw [← hM1, gA_ne (by omega), gA_sI]
  have a6 : ∀ k x, (O ++ [w])[k]? = some x → gA M1 (r + 6) k = x := by
    intro k x hk
    by_cases hkn : k < O.length
    · rw [List.getElem?_append_left hkn] at hk
      rw [← hM1, gA_ne (by omega), gA_sI]; exact o2 k x hk
    · have hkl := (List.getElem?_eq_some_iff.mp hk).1
      simp only [List.length_append, List.length_cons, List.length_nil] at hkl
      rw [List.getElem?_append_right (by omega), show k - O.length = 0 from by omega] at hk
      simp only [List.getElem?_cons_zero, Option.some.injEq] at hk
      rw [← hM1, show k = O.length from by omega, gA_eq]; exact hk
  have hP1 : PL M1 p c := hP.keep f1 (by omega)
  generalize hM2 : (if c.1 0 = 0 then M1 else sI M1 r 16 (K + 1)) = M2
  have f2 : Fr r (r + 9) M M2 := by rw [← hM2]; split; exact f1; exact f1.trans (Fr.sI (by omega))
  have v2 : Vr M M2 := by rw [← hM2]; split; exact v1; exact v1.trans (fun _ => rfl)
  have i2 : ∀ k, k ≠ 16 → gI M2 r k = gI M1 r k := fun k hk => by rw [← hM2]; split; rfl; rw [gI_ne (by omega)]
  have i16 : gI M2 r 16 = if c.1 0 = 0 then K else K + 1 := by
    rw [← hM2]; split
    · rw [i1 16 (by omega), h16]
    · rw [gI_eq]
  have a2 : ∀ b k, gA M2 b k = gA M1 b k := fun b k => by rw [← hM2]; split <;> rfl
  have hP2 : PL M2 p c := hP.keep f2 (by omega)
  have hO2 : wO M2 r (O ++ [w]) C := ⟨by rw [i2 10 (by omega), i10], fun k x hk => by rw [a2]; exact a6 k x hk, by rw [i2 12 (by omega), i1 12 (by omega)]; exact o3⟩
  have hall := X8_all (z := z) hr hq hc (by rw [i2 0 (by omega), i1 0 (by omega)]; exact h0) hP2 hO2 hb2 (by simp; omega)
  have eN : ∀ q : hS, (if c.1 0 = 0 then q else zTk q) = (q.1, q.2.1, q.2.2.1, q.2.2.2.1, q.2.2.2.2.1, q.2.2.2.2.2.1, (if c.1 0 = 0 then sK q else sK q + 1), q.2.2.2.2.2.2.2) := by
    intro q; obtain ⟨T, O, W, B, N, J, K, C⟩ := q; split <;> rfl
  rw [eN]
  have fin : ∀ (M3 : hM) (C' : Int), (M3 = M2 ∧ C' = C) ∨ (M3 = sI M2 r 12 t ∧ C' = t) → WR M3 r p c t (T, O ++ [w], W, B, N, J, (if c.1 0 = 0 then K else K + 1), C') ∧ Fr r (r + 9) M M3 ∧ Vr M M3 := by
    intro M3 C' h3
    have f3 : Fr r (r + 9) M M3 := by rcases h3 with ⟨e, _⟩ | ⟨e, _⟩ <;> subst e; exact f2; exact f2.trans (Fr.sI (by omega))
    have v3 : Vr M M3 := by rcases h3 with ⟨e, _⟩ | ⟨e, _⟩ <;> subst e; exact v2; exact v2.trans (fun _ => rfl)
    have i3 : ∀ k, k ≠ 12 → gI M3 r k = gI M2 r k := fun k hk => by rcases h3 with ⟨e, _⟩ | ⟨e, _⟩ <;> subst e; rfl; rw [gI_ne (by omega)]
    have a3 : ∀ b k, gA M3 b k = gA M2 b k := fun b k => by rcases h3 with ⟨e, _⟩ | ⟨e, _⟩ <;> subst e <;> rfl
    have i12 : gI M3 r 12 = C' := by
      rcases h3 with ⟨e, e'⟩ | ⟨e, e'⟩ <;> subst e <;> subst e'
      · exact hO2.2.2
      · exact gI_eq
    have iA : ∀ k, k ≠ 10 → k ≠ 12 → k ≠ 16 → gI M3 r k = gI M r k := fun k h1 h2 h4 => by rw [i3 k h2, i2 k h4, i1 k h1]
    have aA : ∀ b k, b ≠ r + 6 → gA M3 b k = gA M b k := fun b k hb => by rw [a3, a2, a1 b k hb]
    exact ⟨⟨by rw [iA 0 (by omega) (by omega) (by omega)]; exact h0, hP.keep f3 (by omega), by rw [iA 11 (by omega) (by omega) (by omega)]; exact h11, hT'.cg (iA 9 (by omega) (by omega) (by omega)) (fun b k hb _ => aA b k hb), ⟨by rw [i3 10 (by omega)]; exact hO2.1, fun k x hk => by rw [a3]; exact hO2.2.1 k x hk, i12⟩, hW.cg (fun k => aA _ k (by omega)), by rw [iA 13 (by omega) (by omega) (by omega)]; exact hB, by rw [iA 14 (by omega) (by omega) (by omega)]; exact hN, hJ.cg (iA 17 (by omega) (by omega) (by omega)) (iA 15 (by omega) (by omega) (by omega)), by rw [i3 16 (by omega)]; exact i16⟩, f3, v3⟩
  have e0 : gA M1 (p + 1) (0 : Int).toNat = c.1 0 := hP1.s (k := 0) (by omega)
  have hOl : (O.length : Int) < 240 := by omega
  have pre : m_X8_data_j52 (z + r) (jI w) (hp S z M) (jI (zSg c)) = m_X8_data_j91 (z + r) (jI w) (hp S z M2) (jI (zSg c)) := by
    unfold m_X8_data_j52
    simp (disch := omega) only [ji1, ji2, ji3, ji4, ji5, ji6, ji7, ji8, ji9, ji10, ji11, ji12, ji13, ji14, ji15, ji16, ji19, ji20, ji24, ji31, ji32, ji39, ji45, ji48, ji57, ji58, ji59, ji60, ji97, ji100, ji119, ji120, ji122, ji144, ji200, ji226, ji240, ji255, ji300, ji366, ji400, ji500, ji1000, jI_z, ↓jI_m1, jI_add, jI_sub, jI_mul, ↓jm1000, ↓jm100, ↓jm10, ↓jm9, ji50, ji65280, ji1664525, ji252645135, ji858993459, ji1013904223, ji1431655765, ji2147483639, ji2147483647, ↓Rg0 hr, Rw0 hr, ↓Rg1 hr, ↓Rg2 hr, ↓Rg3 hr, ↓Rg4 hr, ↓Rg5 hr, ↓Rg6 hr, ↓Rg7 hr, ↓Rg8 hr, ↓Rg9 hr, Rw9 hr, ↓Rg10 hr, Rw10 hr, ↓Rg11 hr, Rw11 hr, ↓Rg12 hr, Rw12 hr, ↓Rg13 hr, Rw13 hr, ↓Rg14 hr, Rw14 hr, ↓Rg15 hr, Rw15 hr, ↓Rg16 hr, Rw16 hr, ↓Rg17 hr, Rw17 hr, ↓Rv hr, Ra1 hr, Ru1 hr, Ra2 hr, Ru2 hr, Ra3 hr, Ru3 hr, Ra4 hr, Ru4 hr, Ra5 hr, Ru5 hr, Ra6 hr, Ru6 hr, Ra7 hr, Ru7 hr, Ra8 hr, Ru8 hr, o1, Int.toNat_natCast, hM1]
    simp (disch := omega) only [ji1, ji2, ji3, ji4, ji5, ji6, ji7, ji8, ji9, ji10, ji11, ji12, ji13, ji14, ji15, ji16, ji19, ji20, ji24, ji31, ji32, ji39, ji45, ji48, ji57, ji58, ji59, ji60, ji97, ji100, ji119, ji120, ji122, ji144, ji200, ji226, ji240, ji255, ji300, ji366, ji400, ji500, ji1000, jI_z, ↓jI_m1, jI_add, jI_sub, jI_mul, ↓jm1000, ↓jm100, ↓jm10, ↓jm9, ji50, ji65280, ji1664525, ji252645135, ji858993459, ji1013904223, ji1431655765, ji2147483639, ji2147483647, ↓Rg0 hr, Rw0 hr, ↓Rg1 hr, ↓Rg2 hr, ↓Rg3 hr, ↓Rg4 hr, ↓Rg5 hr, ↓Rg6 hr, ↓Rg7 hr, ↓Rg8 hr, ↓Rg9 hr, Rw9 hr, ↓Rg10 hr, Rw10 hr, ↓Rg11 hr, Rw11 hr, ↓Rg12 hr, Rw12 hr, ↓Rg13 hr, Rw13 hr, ↓Rg14 hr, Rw14 hr, ↓Rg15 hr, Rw15 hr, ↓Rg16 hr, Rw16 hr, ↓Rg17 hr, Rw17 hr, ↓Rv hr, Ra1 hr, Ru1 hr, Ra2 hr, Ru2 hr, Ra3 hr, Ru3 hr, Ra4 hr, Ru4 hr, Ra5 hr, Ru5 hr, Ra6 hr, Ru6 hr, Ra7 hr, Ru7 hr, Ra8 hr, Ru8 hr, ↓Pg0 hq, ↓Pg1 hq, ↓Pg2 hq, ↓Pg3 hq, ↓Pv hq, Pa1 hq, Pu1 hq, Pa2 hq, Pu2 hq, Pa3 hq, Pu3 hq, Pa4 hq, Pu4 hq, i1, h0, h16, nneg, if_false, Int.toNat_natCast, e0, jI_lt]
    by_cases g : c.1 0 = 0
    · rw [if_neg (by omega), ← hM2, if_pos g]
    · rw [if_pos (by omega), ← hM2, if_neg g]
  rw [pre]
  have i12' : gI M2 r 12 = C := hO2.2.2
  have i11' : gI M2 r 11 = t := by rw [i2 11 (by omega), i1 11 (by omega)]; exact h11
  unfold m_X8_data_j91
  simp (disch := omega) only [ji1, ji2, ji3, ji4, ji5, ji6, ji7, ji8, ji9, ji10, ji11, ji12, ji13, ji14, ji15, ji16, ji19, ji20, ji24, ji31, ji32, ji39, ji45, ji48, ji57, ji58, ji59, ji60, ji97, ji100, ji119, ji120, ji122, ji144, ji200, ji226, ji240, ji255, ji300, ji366, ji400, ji500, ji1000, jI_z, ↓jI_m1, jI_add, jI_sub, jI_mul, ↓jm1000, ↓jm100, ↓jm10, ↓jm9, ji50, ji65280, ji1664525, ji252645135, ji858993459, ji1013904223, ji1431655765, ji2147483639, ji2147483647, ↓Rg0 hr, Rw0 hr, ↓Rg1 hr, ↓Rg2 hr, ↓Rg3 hr, ↓Rg4 hr, ↓Rg5 hr, ↓Rg6 hr, ↓Rg7 hr, ↓Rg8 hr, ↓Rg9 hr, Rw9 hr, ↓Rg10 hr, Rw10 hr, ↓Rg11 hr, Rw11 hr, ↓Rg12 hr, Rw12 hr, ↓Rg13 hr, Rw13 hr, ↓Rg14 hr, Rw14 hr, ↓Rg15 hr, Rw15 hr, ↓Rg16 hr, Rw16 hr, ↓Rg17 hr, Rw17 hr, ↓Rv hr, Ra1 hr, Ru1 hr, Ra2 hr, Ru2 hr, Ra3 hr, Ru3 hr, Ra4 hr, Ru4 hr, Ra5 hr, Ru5 hr, Ra6 hr, Ru6 hr, Ra7 hr, Ru7 hr, Ra8 hr, Ru8 hr, i12', jI_lt]
  rw [hall]
  simp (disch := omega) only [↓mo_cs_s]
  show ∃ M', _ ∧ WR M' r p c t (T, O ++ [w], W, B, N, J, (if c.1 0 = 0 then K else K + 1), if C = -1 ∧ seenM (O ++ [w]) = 2 ^ (c.1 1).toNat - 1 then t else C) ∧ _
  generalize hD : (if C = -1 ∧ seenM (O ++ [w]) = 2 ^ (c.1 1).toNat - 1 then t else C) = D
  by_cases g1 : C = -1
  · rw [if_pos (show C < 0 by omega)]
    by_cases g2 : seenM (O ++ [w]) = 2 ^ (c.1 1).toNat - 1
    · rw [if_pos ⟨g1, g2⟩] at hD
      rw [decide_eq_true g2, if_neg (show ¬ jI (b2i true) = jI 0 by decide)]
      refine ⟨sI M2 r 12 t, ?_, fin _ _ (Or.inr ⟨rfl, hD.symm⟩)⟩
      simp (disch := omega) only [↓Rg0 hr, Rw0 hr, ↓Rg1 hr, ↓Rg2 hr, ↓Rg3 hr, ↓Rg4 hr, ↓Rg5 hr, ↓Rg6 hr, ↓Rg7 hr, ↓Rg8 hr, ↓Rg9 hr, Rw9 hr, ↓Rg10 hr, Rw10 hr, ↓Rg11 hr, Rw11 hr, ↓Rg12 hr, Rw12 hr, ↓Rg13 hr, Rw13 hr, ↓Rg14 hr, Rw14 hr, ↓Rg15 hr, Rw15 hr, ↓Rg16 hr, Rw16 hr, ↓Rg17 hr, Rw17 hr, ↓Rv hr, Ra1 hr, Ru1 hr, Ra2 hr, Ru2 hr, Ra3 hr, Ru3 hr, Ra4 hr, Ru4 hr, Ra5 hr, Ru5 hr, Ra6 hr, Ru6 hr, Ra7 hr, Ru7 hr, Ra8 hr, Ru8 hr, i11']
    · rw [if_neg (fun x => g2 x.2)] at hD
      rw [decide_eq_false g2, if_pos (show jI (b2i false) = jI 0 by decide)]
      exact ⟨M2, rfl, fin _ _ (Or.inl ⟨rfl, hD.symm⟩)⟩
  · rw [if_neg (fun x => g1 x.1)] at hD
    rw [if_neg (show ¬ C < 0 by omega)]
    exact ⟨M2, rfl, fin _ _ (Or.inl ⟨rfl, hD.symm⟩)⟩
theorem X8_data {z r p : Nat} {M : hM} {c : hCf} {s : hS} {t w : Int} (hr : isR S r) (hq : isP S p) (hd : p + 5 ≤ r ∨ r + 9 ≤ p) (hc : okC c) (ht : 0 ≤ t ∧ t < 200) (hz : zI c t s) (hzq : zQ c s) (hl : s.2.1.length < 240) (hw : 0 ≤ w ∧ w < c.1 1) (h : WR M r p c t s) :
    ∃ M', m_X8_data (hp S z M) (z + r) (jI w) = some ((), hp S z M') ∧ WR M' r p c t (zData c t w s) ∧ Fr r (r + 9) M M' ∧ Vr M M' := by
  have hcs := hc.s
  have hsg := zSg_in hc
  obtain ⟨h0, hP, h11, hT', hO, hW, hB, hN, hJ, h16⟩ := WR_get h
  have e0 : gA M (p + 1) (0 : Int).toNat = c.1 0 := hP.s (k := 0) (by omega)
  have e6 : gA M (p + 1) (6 : Int).toNat = c.1 6 := hP.s (k := 6) (by omega)
  have hT120 : s.1.length ≤ 120 := by obtain ⟨T, O, W, B, N, J, K, C⟩ := s; exact hz.1
  have hK7 : 0 ≤ sK s ∧ sK s ≤ 240 := by
    obtain ⟨T, O, W, B, N, J, K, C⟩ := s
    have := hz.2.2.2.2.2.2.1
    simp only at hl
    exact ⟨this.1, by show K ≤ 240; omega⟩
  have hC : -1 ≤ s.2.2.2.2.2.2.2 ∧ s.2.2.2.2.2.2.2 ≤ t := by obtain ⟨T, O, W, B, N, J, K, C⟩ := s; exact hz.2.2.2.2.2.2.2.1
  have hb : ∀ x ∈ s.2.1, 0 ≤ x ∧ x < c.1 1 := by
    obtain ⟨T, O, W, B, N, J, K, C⟩ := s
    exact fun x hx => ⟨(hz.2.2.1 x hx).1, hzq.2.1 x hx⟩
  have j27 : ∃ M', m_X8_data_j27 (z + r) (jI w) (hp S z M) (jI (zSg c)) = some ((), hp S z M') ∧ WR M' r p c t (zData c t w s) ∧ Fr r (r + 9) M M' ∧ Vr M M' := by
    obtain ⟨M1, a1, a2, a3, a4⟩ := X8_d52 (z := z) hr hq hd hc ht hl hC hb hw h
    have sK2 : ∀ q : hS, sK q = sK s → sK (zTk q) = sK s + 1 := by intro q hq'; obtain ⟨T, O, W, B, N, J, K, C⟩ := q; show K + 1 = _; rw [← hq']; rfl
    have sKd : sK (zDel c t w s) = sK s := by obtain ⟨T, O, W, B, N, J, K, C⟩ := s; rfl
    have lD : (zDel c t w s).1 = s.1 := by obtain ⟨T, O, W, B, N, J, K, C⟩ := s; rfl
    have lT : ∀ q : hS, (zTk q).1 = q.1 := by intro q; obtain ⟨T, O, W, B, N, J, K, C⟩ := q; rfl
    unfold m_X8_data_j27
    simp (disch := omega) only [ji1, ji2, ji3, ji4, ji5, ji6, ji7, ji8, ji9, ji10, ji11, ji12, ji13, ji14, ji15, ji16, ji19, ji20, ji24, ji31, ji32, ji39, ji45, ji48, ji57, ji58, ji59, ji60, ji97, ji100, ji119, ji120, ji122, ji144, ji200, ji226, ji240, ji255, ji300, ji366, ji400, ji500, ji1000, jI_z, ↓jI_m1, jI_add, jI_sub, jI_mul, ↓jm1000, ↓jm100, ↓jm10, ↓jm9, ji50, ji65280, ji1664525, ji252645135, ji858993459, ji1013904223, ji1431655765, ji2147483639, ji2147483647, ↓Rg0 hr, Rw0 hr, ↓Rg1 hr, ↓Rg2 hr, ↓Rg3 hr, ↓Rg4 hr, ↓Rg5 hr, ↓Rg6 hr, ↓Rg7 hr, ↓Rg8 hr, ↓Rg9 hr, Rw9 hr, ↓Rg10 hr, Rw10 hr, ↓Rg11 hr, Rw11 hr, ↓Rg12 hr, Rw12 hr, ↓Rg13 hr, Rw13 hr, ↓Rg14 hr, Rw14 hr, ↓Rg15 hr, Rw15 hr, ↓Rg16 hr, Rw16 hr, ↓Rg17 hr, Rw17 hr, ↓Rv hr, Ra1 hr, Ru1 hr, Ra2 hr, Ru2 hr, Ra3 hr, Ru3 hr, Ra4 hr, Ru4 hr, Ra5 hr, Ru5 hr, Ra6 hr, Ru6 hr, Ra7 hr, Ru7 hr, Ra8 hr, Ru8 hr, ↓Pg0 hq, ↓Pg1 hq, ↓Pg2 hq, ↓Pg3 hq, ↓Pv hq, Pa1 hq, Pu1 hq, Pa2 hq, Pu2 hq, Pa3 hq, Pu3 hq, Pa4 hq, Pu4 hq, h0, nneg, if_false, Int.toNat_natCast, e0, jI_eq, h16, mo_rm_j]
    by_cases g0 : c.1 0 = 0
    · rw [if_pos g0, a1]
      rw [if_pos g0] at a2
      obtain ⟨M', r1, r2, r3, r4⟩ := X8_d113 (z := z) (w := w) hr hq hd hc ht (by rw [lD]; exact hT120) (by rw [sKd]; omega) (by omega) a2
      rw [if_pos g0] at r2
      refine ⟨M', r1, ?_, a3.trans r3, a4.trans r4⟩
      unfold zData; rw [if_pos g0]; exact r2
    · rw [if_neg g0]
      rw [if_neg g0] at a2
      have m1 := Int.emod_nonneg w (show zSg c ≠ 0 by omega)
      have m2 := Int.emod_lt_of_pos w (show 0 < zSg c by omega)
      have m3 := Int.emod_nonneg (sK s) (show zSg c ≠ 0 by omega)
      have m4 := Int.emod_lt_of_pos (sK s) (show 0 < zSg c by omega)
      unfold zData; rw [if_neg g0]
      by_cases g1 : w % zSg c = sK s % zSg c
      · rw [if_pos (by rw [g1]), a1]
        have eD : zD1 c t w s = zTk (zDel c t w s) := if_pos g1
        rw [eD]
        obtain ⟨M', r1, r2, r3, r4⟩ := X8_d113 (z := z) (w := w) hr hq hd hc ht (by rw [lT, lD]; exact hT120) (by rw [sK2 _ sKd]; omega) (by omega) a2
        rw [if_neg g0] at r2
        exact ⟨M', r1, r2, a3.trans r3, a4.trans r4⟩
      · rw [if_neg (by rw [jI_eq (by omega) (by omega) (by omega) (by omega)]; exact g1)]
        have eD : zD1 c t w s = s := if_neg g1
        rw [eD]
        obtain ⟨M', r1, r2, r3, r4⟩ := X8_d113 (z := z) (w := w) hr hq hd hc ht hT120 (by omega) (by omega) h
        rw [if_neg g0] at r2
        exact ⟨M', r1, r2, r3, r4⟩
  obtain ⟨M', q1, q2⟩ := j27
  refine ⟨M', ?_, q2⟩
  unfold m_X8_data
  simp (disch := omega) only [ji1, ji2, ji3, ji4, ji5, ji6, ji7, ji8, ji9, ji10, ji11, ji12, ji13, ji14, ji15, ji16, ji19, ji20, ji24, ji31, ji32, ji39, ji45, ji48, ji57, ji58, ji59, ji60, ji97, ji100, ji119, ji120, ji122, ji144, ji200, ji226, ji240, ji255, ji300, ji366, ji400, ji500, ji1000, jI_z, ↓jI_m1, jI_add, jI_sub, jI_mul, ↓jm1000, ↓jm100, ↓jm10, ↓jm9, ji50, ji65280, ji1664525, ji252645135, ji858993459, ji1013904223, ji1431655765, ji2147483639, ji2147483647, ↓Rg0 hr, Rw0 hr, ↓Rg1 hr, ↓Rg2 hr, ↓Rg3 hr, ↓Rg4 hr, ↓Rg5 hr, ↓Rg6 hr, ↓Rg7 hr, ↓Rg8 hr, ↓Rg9 hr, Rw9 hr, ↓Rg10 hr, Rw10 hr, ↓Rg11 hr, Rw11 hr, ↓Rg12 hr, Rw12 hr, ↓Rg13 hr, Rw13 hr, ↓Rg14 hr, Rw14 hr, ↓Rg15 hr, Rw15 hr, ↓Rg16 hr, Rw16 hr, ↓Rg17 hr, Rw17 hr, ↓Rv hr, Ra1 hr, Ru1 hr, Ra2 hr, Ru2 hr, Ra3 hr, Ru3 hr, Ra4 hr, Ru4 hr, Ra5 hr, Ru5 hr, Ra6 hr, Ru6 hr, Ra7 hr, Ru7 hr, Ra8 hr, Ru8 hr, ↓Pg0 hq, ↓Pg1 hq, ↓Pg2 hq, ↓Pg3 hq, ↓Pv hq, Pa1 hq, Pu1 hq, Pa2 hq, Pu2 hq, Pa3 hq, Pu3 hq, Pa4 hq, Pu4 hq, h0, nneg, if_false, Int.toNat_natCast, e0, e6, jI_eq]
  by_cases g1 : c.1 0 = 1
  · have : zSg c = 2 := by unfold zSg; rw [if_pos g1]
    rw [this] at q1
    rw [if_pos g1]; exact q1
  · have : zSg c = c.1 6 := by unfold zSg; rw [if_neg g1]
    rw [this] at q1
    rw [if_neg g1]; exact q1

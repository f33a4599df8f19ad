variable {S : hSh}
/-! .. its deliveries and answers. -/
/-- contents below the count -/
def zQ (c : hCf) : hS → Prop := fun ⟨T, O, _, _, N, _, _, _⟩ => (∀ x ∈ T, x.2.1 = 0 → x.2.2.1 < c.1 1) ∧ (∀ x ∈ O, x < c.1 1) ∧ N ≤ c.1 1
theorem zQ_send {c : hCf} {t kd w : Int} {s : hS} (h : zQ c s) (hk : kd = 0 → w < c.1 1) : zQ c (zSend c t kd w s) := by
  obtain ⟨T, O, W, B, N, J, K, C⟩ := s
  obtain ⟨h1, h2, h3⟩ := h
  unfold zSend; simp only; split
  · exact ⟨h1, h2, h3⟩
  · refine ⟨fun x hx => ?_, h2, h3⟩
    rcases List.mem_append.mp hx with g | g
    · exact h1 x g
    · simp only [List.mem_singleton] at g; subst g; exact hk
theorem zQ_del {c : hCf} {t w : Int} {s : hS} (h : zQ c s) (hw : w < c.1 1) : zQ c (zDel c t w s) := by
  obtain ⟨T, O, W, B, N, J, K, C⟩ := s
  obtain ⟨h1, h2, h3⟩ := h
  refine ⟨h1, fun x hx => ?_, h3⟩
  rcases List.mem_append.mp hx with g | g
  · exact h2 x g
  · simp only [List.mem_singleton] at g; subst g; exact hw
theorem zQ_tk {c : hCf} {s : hS} (h : zQ c s) : zQ c (zTk s) := by
  obtain ⟨T, O, W, B, N, J, K, C⟩ := s; exact h
theorem zQ_data {c : hCf} {t w : Int} {s : hS} (h : zQ c s) (hw : w < c.1 1) : zQ c (zData c t w s) := by
  unfold zData; split
  · exact zQ_del h hw
  · apply zQ_send _ (fun e => absurd e (by decide))
    unfold zD1; split
    · exact zQ_tk (zQ_del h hw)
    · exact h
theorem zQ_ans {c : hCf} {t sg : Int} {s : hS} (h : zQ c s) : zQ c (zAns c t sg s) := by
  obtain ⟨T, O, W, B, N, J, K, C⟩ := s
  obtain ⟨h1, h2, h3⟩ := h
  unfold zAns; simp only
  split <;> split <;> exact ⟨h1, h2, h3⟩
theorem zQ_turn {c : hCf} {t : Int} {s : hS} (hz : zI c t s) (h : zQ c s) (hc : okC c) : zQ c (zTurn c t s) := by
  have hs := hc.s
  have tup : ∀ {s' : hS}, zQ c s' → zQ c (zB1 s') ∧ zQ c (zJt t s') := by
    intro s' h'
    obtain ⟨T, O, W, B, N, J, K, C⟩ := s'; exact ⟨h', h'⟩
  unfold zTurn; split
  · split
    · next g => exact (tup (zQ_send h (fun _ => g))).1
    · exact h
  · split
    · split
      · next g => exact (tup (zQ_send h (fun _ => g.1))).2
      · exact h
    · have hT : zQ c (zTim c t s) := by
        obtain ⟨T, O, W, B, N, J, K, C⟩ := s
        obtain ⟨h1, h2, h3⟩ := h
        obtain ⟨z1, z2, z3, z4, z5, z6, z7, z8, z9⟩ := hz
        unfold zTim; simp only; split
        · exact ⟨h1, h2, by omega⟩
        · exact ⟨h1, h2, h3⟩
      generalize zTim c t s = s2 at hT
      unfold zWin; split
      · next g =>
        have q := zQ_send (t := t) (kd := 0) (w := s2.2.2.2.2.1) hT (fun _ => g.2)
        have e : (zSend c t 0 s2.2.2.2.2.1 s2).2 = s2.2 := by unfold zSend; split <;> rfl
        generalize zSend c t 0 s2.2.2.2.2.1 s2 = s3 at q e
        obtain ⟨T, O, W, B, N, J, K, C⟩ := s2
        obtain ⟨T', O', W', B', N', J', K', C'⟩ := s3
        simp only [Prod.mk.injEq] at e
        obtain ⟨e1, e2, e3, e4, e5, e6, e7⟩ := e
        subst e1 e2 e3 e4 e5 e6 e7
        simp only at g
        exact ⟨q.1, q.2.1, by omega⟩
      · exact hT
/-- a full set of contents -/
theorem full_dec : ∀ n : Fin 9, ∀ m : Fin 256, m.val < 2 ^ n.val → (pop m.val = n.val ↔ m.val = 2 ^ n.val - 1) := by decide +kernel
theorem seenM_b {n : Nat} (hn : n ≤ 8) : ∀ (O : List Int) (m : Nat), (∀ x ∈ O, 0 ≤ x ∧ x < n) → m < 2 ^ n → O.foldl (fun m x => m ||| 2 ^ x.toNat) m < 2 ^ n := by
  intro O
  induction O with
  | nil => intro m _ hm; exact hm
  | cons x t ih =>
    intro m h hm
    have hx := h x (by simp)
    simp only [List.foldl_cons]
    exact ih _ (fun y hy => h y (by simp [hy])) (Nat.or_lt_two_pow hm (Nat.pow_lt_pow_right (by omega) (by omega)))
theorem full_i {c : hCf} {O : List Int} (hc : okC c) (h : ∀ x ∈ O, 0 ≤ x ∧ x < c.1 1) : (((pop (seenM O) : Nat) : Int) = c.1 1) = (seenM O = 2 ^ (c.1 1).toNat - 1) := by
  have hs := hc.s
  have hb := seenM_b (n := (c.1 1).toNat) (by omega) O 0 (fun x hx => ⟨(h x hx).1, by have := (h x hx).2; omega⟩) (Nat.two_pow_pos _)
  have h2 : (2 : Nat) ^ (c.1 1).toNat ≤ 2 ^ 8 := Nat.pow_le_pow_right (by omega) (by omega)
  have hb' : seenM O < 2 ^ (c.1 1).toNat := hb
  have := full_dec ⟨(c.1 1).toNat, by omega⟩ ⟨seenM O, by omega⟩ hb'
  simp only at this
  apply propext
  rw [← this]; omega
theorem X8_all_l {z r p : Nat} {M : hM} {c : hCf} {O0 : List Int} {C : Int} (hr : isR S r) (hq : isP S p) (hc : okC c) (h0 : gI M r 0 = p) (hP : PL M p c) (hO : wO M r O0 C) (hb : ∀ x ∈ O0, 0 ≤ x ∧ x < c.1 1) (hl : O0.length ≤ 240) : ∀ (l : List Int) (k f m : Nat), O0.drop k = l → l.length < f → k ≤ O0.length → m < 256 → l.foldl (fun m x => m ||| 2 ^ x.toNat) m = seenM O0 →
    m_X8_hasAll_l4 (z + r) f (hp S z M) (jI m) (jI k) = some (jI (b2i (decide (seenM O0 = 2 ^ (c.1 1).toNat - 1))), hp S z M) := by
  have hs := hc.s
  obtain ⟨o1, o2, o3⟩ := hO
  intro l
  induction l with
  | nil =>
    intro k f m hd hf hk hm he
    obtain ⟨f, rfl⟩ : ∃ g, f = g + 1 := ⟨f - 1, by simp at hf; omega⟩
    have hk' : O0.length ≤ k := by simpa using hd
    have g : ¬ (k : Int) < O0.length := by omega
    have he' : m = seenM O0 := he
    have e1 : gA M (p + 1) (1 : Int).toNat = c.1 1 := hP.s (k := 1) (by omega)
    have hpop : pop m ≤ 16 := pop_le m
    unfold m_X8_hasAll_l4
    simp (disch := omega) only [ji1, ji2, ji3, ji4, ji5, ji6, ji7, ji8, ji9, ji10, ji11, ji12, ji13, ji14, ji15, ji16, ji19, ji20, ji24, ji31, ji32, ji39, ji45, ji48, ji57, ji58, ji59, ji60, ji97, ji100, ji119, ji120, ji122, ji144, ji200, ji226, ji240, ji255, ji300, ji366, ji400, ji500, ji1000, jI_z, ↓jI_m1, jI_add, jI_sub, jI_mul, ↓jm1000, ↓jm100, ↓jm10, ↓jm9, ji50, ji65280, ji1664525, ji252645135, ji858993459, ji1013904223, ji1431655765, ji2147483639, ji2147483647, ↓Rg0 hr, Rw0 hr, ↓Rg1 hr, ↓Rg2 hr, ↓Rg3 hr, ↓Rg4 hr, ↓Rg5 hr, ↓Rg6 hr, ↓Rg7 hr, ↓Rg8 hr, ↓Rg9 hr, Rw9 hr, ↓Rg10 hr, Rw10 hr, ↓Rg11 hr, Rw11 hr, ↓Rg12 hr, Rw12 hr, ↓Rg13 hr, Rw13 hr, ↓Rg14 hr, Rw14 hr, ↓Rg15 hr, Rw15 hr, ↓Rg16 hr, Rw16 hr, ↓Rg17 hr, Rw17 hr, ↓Rv hr, Ra1 hr, Ru1 hr, Ra2 hr, Ru2 hr, Ra3 hr, Ru3 hr, Ra4 hr, Ru4 hr, Ra5 hr, Ru5 hr, Ra6 hr, Ru6 hr, Ra7 hr, Ru7 hr, Ra8 hr, Ru8 hr, o1, jI_lt, g, if_false]
    rw [J6_bc (show m < 65536 by omega)]
    simp (disch := omega) only [ji1, ji2, ji3, ji4, ji5, ji6, ji7, ji8, ji9, ji10, ji11, ji12, ji13, ji14, ji15, ji16, ji19, ji20, ji24, ji31, ji32, ji39, ji45, ji48, ji57, ji58, ji59, ji60, ji97, ji100, ji119, ji120, ji122, ji144, ji200, ji226, ji240, ji255, ji300, ji366, ji400, ji500, ji1000, jI_z, ↓jI_m1, jI_add, jI_sub, jI_mul, ↓jm1000, ↓jm100, ↓jm10, ↓jm9, ji50, ji65280, ji1664525, ji252645135, ji858993459, ji1013904223, ji1431655765, ji2147483639, ji2147483647, ↓Rg0 hr, Rw0 hr, ↓Rg1 hr, ↓Rg2 hr, ↓Rg3 hr, ↓Rg4 hr, ↓Rg5 hr, ↓Rg6 hr, ↓Rg7 hr, ↓Rg8 hr, ↓Rg9 hr, Rw9 hr, ↓Rg10 hr, Rw10 hr, ↓Rg11 hr, Rw11 hr, ↓Rg12 hr, Rw12 hr, ↓Rg13 hr, Rw13 hr, ↓Rg14 hr, Rw14 hr, ↓Rg15 hr, Rw15 hr, ↓Rg16 hr, Rw16 hr, ↓Rg17 hr, Rw17 hr, ↓Rv hr, Ra1 hr, Ru1 hr, Ra2 hr, Ru2 hr, Ra3 hr, Ru3 hr, Ra4 hr, Ru4 hr, Ra5 hr, Ru5 hr, Ra6 hr, Ru6 hr, Ra7 hr, Ru7 hr, Ra8 hr, Ru8 hr, ↓Pg0 hq, ↓Pg1 hq, ↓Pg2 hq, ↓Pg3 hq, ↓Pv hq, Pa1 hq, Pu1 hq, Pa2 hq, Pu2 hq, Pa3 hq, Pu3 hq, Pa4 hq, Pu4 hq, ↓mo_cs_s, h0, nneg, if_false, Int.toNat_natCast, e1, jI_eq]
    rw [he']
    have fi := full_i hc hb
    by_cases g2 : seenM O0 = 2 ^ (c.1 1).toNat - 1
    · rw [if_pos (by rw [fi]; exact g2), decide_eq_true g2]; exact mo_z_1
    · rw [if_neg (by rw [fi]; exact g2), decide_eq_false g2]; exact mo_z_0
  | cons x t ih =>
    intro k f m hd hf hk hm he
    obtain ⟨f, rfl⟩ : ∃ g, f = g + 1 := ⟨f - 1, by simp at hf; omega⟩
    have hx : O0[k]? = some x := by
      have := congrArg (fun l => l[0]?) hd
      simpa using this
    have hk' : k < O0.length := (List.getElem?_eq_some_iff.mp hx).1
    have hdr : O0.drop (k + 1) = t := by
      have := congrArg List.tail hd
      simpa using this
    have g : (k : Int) < O0.length := by omega
    have ek : (k : Int) + 1 = ((k + 1 : Nat) : Int) := by omega
    have hbx := hb x (List.mem_of_getElem? hx)
    have hp2 : (2 : Nat) ^ x.toNat ≤ 2 ^ 7 := Nat.pow_le_pow_right (by omega) (by omega)
    have hm2 : m ||| 2 ^ x.toNat < 2 ^ 8 := Nat.or_lt_two_pow (n := 8) hm (by omega)
    unfold m_X8_hasAll_l4
    simp (disch := omega) only [ji1, ji2, ji3, ji4, ji5, ji6, ji7, ji8, ji9, ji10, ji11, ji12, ji13, ji14, ji15, ji16, ji19, ji20, ji24, ji31, ji32, ji39, ji45, ji48, ji57, ji58, ji59, ji60, ji97, ji100, ji119, ji120, ji122, ji144, ji200, ji226, ji240, ji255, ji300, ji366, ji400, ji500, ji1000, jI_z, ↓jI_m1, jI_add, jI_sub, jI_mul, ↓jm1000, ↓jm100, ↓jm10, ↓jm9, ji50, ji65280, ji1664525, ji252645135, ji858993459, ji1013904223, ji1431655765, ji2147483639, ji2147483647, ↓Rg0 hr, Rw0 hr, ↓Rg1 hr, ↓Rg2 hr, ↓Rg3 hr, ↓Rg4 hr, ↓Rg5 hr, ↓Rg6 hr, ↓Rg7 hr, ↓Rg8 hr, ↓Rg9 hr, Rw9 hr, ↓Rg10 hr, Rw10 hr, ↓Rg11 hr, Rw11 hr, ↓Rg12 hr, Rw12 hr, ↓Rg13 hr, Rw13 hr, ↓Rg14 hr, Rw14 hr, ↓Rg15 hr, Rw15 hr, ↓Rg16 hr, Rw16 hr, ↓Rg17 hr, Rw17 hr, ↓Rv hr, Ra1 hr, Ru1 hr, Ra2 hr, Ru2 hr, Ra3 hr, Ru3 hr, Ra4 hr, Ru4 hr, Ra5 hr, Ru5 hr, Ra6 hr, Ru6 hr, Ra7 hr, Ru7 hr, Ra8 hr, Ru8 hr, o1, jI_lt, g, if_true, Int.toNat_natCast, o2 k x hx, jS, jI_or, ek]
    exact ih (k + 1) f _ hdr (by simp at hf; omega) (by omega) (by omega) he
theorem X8_all {z r p : Nat} {M : hM} {c : hCf} {O : List Int} {C : Int} (hr : isR S r) (hq : isP S p) (hc : okC c) (h0 : gI M r 0 = p) (hP : PL M p c) (hO : wO M r O C) (hb : ∀ x ∈ O, 0 ≤ x ∧ x < c.1 1) (hl : O.length ≤ 240) :
    m_X8_hasAll (hp S z M) (z + r) = some (jI (b2i (decide (seenM O = 2 ^ (c.1 1).toNat - 1))), hp S z M) := by
  unfold m_X8_hasAll
  exact X8_all_l (z := z) hr hq hc h0 hP hO hb hl O 0 hN_f 0 (by simp) (by unfold hN_f; omega) (by omega) (by omega) rfl

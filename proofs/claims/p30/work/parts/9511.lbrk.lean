variable {S : hSh}
/-! .. the promises that the law's run breaks. -/
/-- two deliveries, the earlier one first, of which promise 1 or 2 takes note -/
def hitB (pr : Nat) (w a : Int) : Bool := if pr = 1 then decide (a = w) else decide (w < a)
def hitA (pr : Nat) (O : List Int) : Nat → Bool
  | 0 => false
  | k + 1 => hitA pr O k || match O[k]? with
    | some w => (O.take k).any (hitB pr w)
    | none => false
theorem seen_any {w : Int} (hw : 0 ≤ w) : ∀ (l : List Int) (m : Nat), (∀ x ∈ l, 0 ≤ x) → (l.foldl (fun m x => m ||| 2 ^ x.toNat) m).testBit w.toNat = (m.testBit w.toNat || l.any (hitB 1 w)) := by
  intro l
  induction l with
  | nil => intro m _; simp
  | cons x t ih =>
    intro m h
    have hx := h x (by simp)
    simp only [List.foldl_cons, List.any_cons]
    rw [ih _ (fun y hy => h y (by simp [hy])), Nat.testBit_or, Bool.or_assoc]
    congr 2
    unfold hitB
    rw [if_pos rfl]
    by_cases e : x = w
    · subst e; rw [Nat.testBit_two_pow_self]; simp
    · rw [Nat.testBit_two_pow_of_ne (by omega), decide_eq_false e]
theorem gr_any {w : Int} : ∀ (l : List Int) (g : Int), ltB w (l.foldl (fun g x => if g < x then x else g) g) = (ltB w g || l.any (hitB 2 w)) := by
  intro l
  induction l with
  | nil => intro g; simp
  | cons x t ih =>
    intro g
    simp only [List.foldl_cons, List.any_cons]
    rw [ih, ← Bool.or_assoc]
    congr 1
    unfold ltB hitB
    rw [if_neg (show ¬ (2 : Nat) = 1 by decide)]
    by_cases e1 : g < x
    · rw [if_pos e1]
      by_cases e2 : w < x
      · simp [e2]
      · simp [e2]; omega
    · rw [if_neg e1]
      by_cases e2 : w < x
      · simp [e2]; omega
      · simp [e2]
theorem take_s {O : List Int} {k : Nat} {w : Int} (h : O[k]? = some w) : O.take (k + 1) = O.take k ++ [w] := by
  rw [List.take_succ, h]; rfl
theorem hitA_1 {O : List Int} (h : ∀ x ∈ O, 0 ≤ x) : ∀ k, k ≤ O.length → hitA 1 O k = dbO (O.take k) 0 := by
  intro k
  induction k with
  | zero => intro _; simp [hitA, dbO]
  | succ k ih =>
    intro hk
    have hx : O[k]? = some O[k] := List.getElem?_eq_getElem (by omega)
    generalize O[k] = w at hx
    rw [take_s hx, dbO_app, ← ih (by omega), seen_any (h w (List.mem_of_getElem? hx)) _ _ (fun x hx => h x (List.mem_of_mem_take hx))]
    simp only [hitA, hx, Nat.zero_testBit, Bool.false_or]
theorem hitA_2 {O : List Int} (h : ∀ x ∈ O, 0 ≤ x) : ∀ k, k ≤ O.length → hitA 2 O k = diO (O.take k) (-1) := by
  intro k
  induction k with
  | zero => intro _; simp [hitA, diO]
  | succ k ih =>
    intro hk
    have hx : O[k]? = some O[k] := List.getElem?_eq_getElem (by omega)
    generalize O[k] = w at hx
    have hw := h w (List.mem_of_getElem? hx)
    rw [take_s hx, diO_app, ← ih (by omega), gr_any]
    have e : ltB w (-1) = false := by unfold ltB; rw [if_neg (by omega)]
    simp only [hitA, hx, e, Bool.false_or]
theorem hitA_all {pr : Nat} {O : List Int} (hpr : pr = 1 ∨ pr = 2) (h : ∀ x ∈ O, 0 ≤ x) : hitA pr O O.length = if pr = 1 then dbO O 0 else diO O (-1) := by
  rcases hpr with rfl | rfl
  · rw [hitA_1 h _ (Nat.le_refl _), List.take_length]; rfl
  · rw [hitA_2 h _ (Nat.le_refl _), List.take_length]; rfl
theorem hitA_up {pr : Nat} {O : List Int} {k : Nat} (h : hitA pr O k = true) : ∀ d, hitA pr O (k + d) = true := by
  intro d
  induction d with
  | zero => exact h
  | succ d ih => rw [← Nat.add_assoc]; simp only [hitA, ih, Bool.true_or]
theorem X8_b64 {z r k pr : Nat} {M : hM} {O : List Int} {w C : Int} {K54 : ac_H → Int32 → Option (Int32 × ac_H)} (hr : isR S r) (hO : wO M r O C) (hb : ∀ x ∈ O, 0 ≤ x ∧ x ≤ 7) (hl : O.length ≤ 240) (hpr : pr = 1 ∨ pr = 2) (hw : O[k]? = some w) : ∀ (l : List Int) (i f : Nat), (O.take k).drop i = l → l.length < f → i ≤ k →
    m_X8_breaks_l64 K54 (z + r) (jI pr) f (hp S z M) (jI k) (jI i) = if l.any (hitB pr w) = true then some (jI 1, hp S z M) else K54 (hp S z M) (jI ((k + 1 : Nat) : Int)) := by
  obtain ⟨o1, o2, o3⟩ := hO
  have hk : k < O.length := (List.getElem?_eq_some_iff.mp hw).1
  have hwb := hb w (List.mem_of_getElem? hw)
  intro l
  induction l with
  | nil =>
    intro i f hd hf hi
    obtain ⟨f, rfl⟩ : ∃ g, f = g + 1 := ⟨f - 1, by simp at hf; omega⟩
    have hi' : k ≤ i := by
      have := congrArg List.length hd
      simp only [List.length_drop, List.length_take, List.length_nil] at this
      omega
    have g : ¬ (i : Int) < k := by omega
    unfold m_X8_breaks_l64
    simp (disch := omega) only [ji1, ji2, ji3, ji4, ji5, ji6, ji7, ji8, ji9, ji10, ji11, ji12, ji13, ji14, ji15, ji16, ji19, ji20, ji24, ji31, ji32, ji39, ji45, ji48, ji57, ji58, ji59, ji60, ji97, ji100, ji119, ji120, ji122, ji144, ji200, ji226, ji240, ji255, ji300, ji366, ji400, ji500, ji1000, jI_z, ↓jI_m1, jI_add, jI_sub, jI_mul, ↓jm1000, ↓jm100, ↓jm10, ↓jm9, ji50, ji65280, ji1664525, ji252645135, ji858993459, ji1013904223, ji1431655765, ji2147483639, ji2147483647, jI_lt, g, if_false, show (k : Int) + 1 = ((k + 1 : Nat) : Int) from rfl]
    simp
  | cons x t ih =>
    intro i f hd hf hi
    obtain ⟨f, rfl⟩ : ∃ g, f = g + 1 := ⟨f - 1, by simp at hf; omega⟩
    have hlen := congrArg List.length hd
    simp only [List.length_drop, List.length_take, List.length_cons] at hlen
    have hx : O[i]? = some x := by
      have := congrArg (fun l => l[0]?) hd
      simp only [List.getElem?_drop, List.getElem?_cons_zero, Nat.add_zero] at this
      rw [List.getElem?_take_of_lt (by omega)] at this
      exact this
    have hdr : (O.take k).drop (i + 1) = t := by
      have := congrArg List.tail hd
      simpa using this
    have g : (i : Int) < k := by omega
    have hxb := hb x (List.mem_of_getElem? hx)
    have IH := ih (i + 1) f hdr (by simp at hf; omega) (by omega)
    simp only [List.any_cons, Bool.or_eq_true]
    unfold m_X8_breaks_l64
    simp (disch := omega) only [ji1, ji2, ji3, ji4, ji5, ji6, ji7, ji8, ji9, ji10, ji11, ji12, ji13, ji14, ji15, ji16, ji19, ji20, ji24, ji31, ji32, ji39, ji45, ji48, ji57, ji58, ji59, ji60, ji97, ji100, ji119, ji120, ji122, ji144, ji200, ji226, ji240, ji255, ji300, ji366, ji400, ji500, ji1000, jI_z, ↓jI_m1, jI_add, jI_sub, jI_mul, ↓jm1000, ↓jm100, ↓jm10, ↓jm9, ji50, ji65280, ji1664525, ji252645135, ji858993459, ji1013904223, ji1431655765, ji2147483639, ji2147483647, jI_lt, g, if_true, ↓Rg0 hr, Rw0 hr, ↓Rg1 hr, ↓Rg2 hr, ↓Rg3 hr, ↓Rg4 hr, ↓Rg5 hr, ↓Rg6 hr, ↓Rg7 hr, ↓Rg8 hr, ↓Rg9 hr, Rw9 hr, ↓Rg10 hr, Rw10 hr, ↓Rg11 hr, Rw11 hr, ↓Rg12 hr, Rw12 hr, ↓Rg13 hr, Rw13 hr, ↓Rg14 hr, Rw14 hr, ↓Rg15 hr, Rw15 hr, ↓Rg16 hr, Rw16 hr, ↓Rg17 hr, Rw17 hr, ↓Rv hr, Ra1 hr, Ru1 hr, Ra2 hr, Ru2 hr, Ra3 hr, Ru3 hr, Ra4 hr, Ru4 hr, Ra5 hr, Ru5 hr, Ra6 hr, Ru6 hr, Ra7 hr, Ru7 hr, Ra8 hr, Ru8 hr, Int.toNat_natCast, o2 i x hx, o2 k w hw, jI_eq, show (i : Int) + 1 = ((i + 1 : Nat) : Int) from rfl, mo_z_1]
    rcases hpr with rfl | rfl
    · rw [if_pos (show ((1 : Nat) : Int) = 1 from rfl)]
      by_cases e : x = w
      · rw [if_pos e, if_pos (Or.inl (by unfold hitB; simp [e]))]
      · rw [if_neg e, IH]
        have : ¬ hitB 1 w x = true := by unfold hitB; simp [e]
        simp only [this, Bool.false_eq_true, false_or]
    · rw [if_neg (show ¬ ((2 : Nat) : Int) = 1 by decide)]
      by_cases e : w < x
      · rw [if_pos e, if_pos (Or.inl (by unfold hitB; simp [e]))]
      · rw [if_neg e, IH]
        have : ¬ hitB 2 w x = true := by unfold hitB; simp [e]
        simp only [this, Bool.false_eq_true, false_or]
theorem X8_b54 {z r pr : Nat} {M : hM} {O : List Int} {C : Int} (hr : isR S r) (hO : wO M r O C) (hb : ∀ x ∈ O, 0 ≤ x ∧ x ≤ 7) (hl : O.length ≤ 240) (hpr : pr = 1 ∨ pr = 2) : ∀ (d k f : Nat), k + d = O.length → d < f → hitA pr O k = false →
    m_X8_breaks_l54 (z + r) (jI pr) f (hp S z M) (jI k) = some (jI (b2i (hitA pr O O.length)), hp S z M) := by
  have hO' := hO
  obtain ⟨o1, o2, o3⟩ := hO'
  intro d
  induction d with
  | zero =>
    intro k f hk hf hh
    obtain ⟨f, rfl⟩ : ∃ g, f = g + 1 := ⟨f - 1, by omega⟩
    have : k = O.length := by omega
    subst this
    have g : ¬ (O.length : Int) < O.length := by omega
    rw [hh]
    unfold m_X8_breaks_l54
    simp (disch := omega) only [ji1, ji2, ji3, ji4, ji5, ji6, ji7, ji8, ji9, ji10, ji11, ji12, ji13, ji14, ji15, ji16, ji19, ji20, ji24, ji31, ji32, ji39, ji45, ji48, ji57, ji58, ji59, ji60, ji97, ji100, ji119, ji120, ji122, ji144, ji200, ji226, ji240, ji255, ji300, ji366, ji400, ji500, ji1000, jI_z, ↓jI_m1, jI_add, jI_sub, jI_mul, ↓jm1000, ↓jm100, ↓jm10, ↓jm9, ji50, ji65280, ji1664525, ji252645135, ji858993459, ji1013904223, ji1431655765, ji2147483639, ji2147483647, ↓Rg0 hr, Rw0 hr, ↓Rg1 hr, ↓Rg2 hr, ↓Rg3 hr, ↓Rg4 hr, ↓Rg5 hr, ↓Rg6 hr, ↓Rg7 hr, ↓Rg8 hr, ↓Rg9 hr, Rw9 hr, ↓Rg10 hr, Rw10 hr, ↓Rg11 hr, Rw11 hr, ↓Rg12 hr, Rw12 hr, ↓Rg13 hr, Rw13 hr, ↓Rg14 hr, Rw14 hr, ↓Rg15 hr, Rw15 hr, ↓Rg16 hr, Rw16 hr, ↓Rg17 hr, Rw17 hr, ↓Rv hr, Ra1 hr, Ru1 hr, Ra2 hr, Ru2 hr, Ra3 hr, Ru3 hr, Ra4 hr, Ru4 hr, Ra5 hr, Ru5 hr, Ra6 hr, Ru6 hr, Ra7 hr, Ru7 hr, Ra8 hr, Ru8 hr, o1, jI_lt, g, if_false]
    exact mo_z_0
  | succ d ih =>
    intro k f hk hf hh
    obtain ⟨f, rfl⟩ : ∃ g, f = g + 1 := ⟨f - 1, by omega⟩
    have g : (k : Int) < O.length := by omega
    have hx : O[k]? = some O[k] := List.getElem?_eq_getElem (by omega)
    generalize O[k] = w at hx
    have hA : hitA pr O (k + 1) = (O.take k).any (hitB pr w) := by simp only [hitA, hh, hx, Bool.false_or]
    have q := X8_b64 (z := z) (K54 := fun ρ y0 => m_X8_breaks_l54 (z + r) (jI pr) f ρ y0) hr hO hb hl hpr hx (O.take k) 0 hN_f rfl (by rw [List.length_take]; unfold hN_f; omega) (by omega)
    unfold m_X8_breaks_l54
    simp (disch := omega) only [ji1, ji2, ji3, ji4, ji5, ji6, ji7, ji8, ji9, ji10, ji11, ji12, ji13, ji14, ji15, ji16, ji19, ji20, ji24, ji31, ji32, ji39, ji45, ji48, ji57, ji58, ji59, ji60, ji97, ji100, ji119, ji120, ji122, ji144, ji200, ji226, ji240, ji255, ji300, ji366, ji400, ji500, ji1000, jI_z, ↓jI_m1, jI_add, jI_sub, jI_mul, ↓jm1000, ↓jm100, ↓jm10, ↓jm9, ji50, ji65280, ji1664525, ji252645135, ji858993459, ji1013904223, ji1431655765, ji2147483639, ji2147483647, ↓Rg0 hr, Rw0 hr, ↓Rg1 hr, ↓Rg2 hr, ↓Rg3 hr, ↓Rg4 hr, ↓Rg5 hr, ↓Rg6 hr, ↓Rg7 hr, ↓Rg8 hr, ↓Rg9 hr, Rw9 hr, ↓Rg10 hr, Rw10 hr, ↓Rg11 hr, Rw11 hr, ↓Rg12 hr, Rw12 hr, ↓Rg13 hr, Rw13 hr, ↓Rg14 hr, Rw14 hr, ↓Rg15 hr, Rw15 hr, ↓Rg16 hr, Rw16 hr, ↓Rg17 hr, Rw17 hr, ↓Rv hr, Ra1 hr, Ru1 hr, Ra2 hr, Ru2 hr, Ra3 hr, Ru3 hr, Ra4 hr, Ru4 hr, Ra5 hr, Ru5 hr, Ra6 hr, Ru6 hr, Ra7 hr, Ru7 hr, Ra8 hr, Ru8 hr, o1, jI_lt, g, if_true]
    rw [show jI 0 = jI ((0 : Nat) : Int) from rfl, q]
    by_cases e : (O.take k).any (hitB pr w) = true
    · rw [if_pos e]
      have := hitA_up (hA.trans e) (O.length - (k + 1))
      rw [show k + 1 + (O.length - (k + 1)) = O.length from by omega] at this
      rw [this]; rfl
    · rw [if_neg e]
      exact ih (k + 1) f (by omega) (by omega) (by rw [hA]; simpa using e)
theorem X8_brk {z r p pr : Nat} {M : hM} {c : hCf} {s : hS} {t : Int} (hr : isR S r) (hq : isP S p) (hc : okC c) (ht : 0 ≤ t ∧ t ≤ 200) (hz : zI c t s) (hl : s.2.1.length ≤ 240) (hpr : pr < 4) (h : WR M r p c t s) : m_X8_breaks (hp S z M) (z + r) (jI pr) = some (jI (b2i (zBrk c s pr)), hp S z M) := by
  have hcs := hc.s
  obtain ⟨h0, hP, h11, hT', hO, hW, hB, hN, hJ, h16⟩ := WR_get h
  have hC : -1 ≤ s.2.2.2.2.2.2.2 ∧ s.2.2.2.2.2.2.2 ≤ t := by obtain ⟨T, O, W, B, N, J, K, C⟩ := s; exact hz.2.2.2.2.2.2.2.1
  have hb : ∀ x ∈ s.2.1, 0 ≤ x ∧ x ≤ 7 := by obtain ⟨T, O, W, B, N, J, K, C⟩ := s; exact hz.2.2.1
  have e7 : gA M (p + 1) (7 : Int).toNat = c.1 7 := hP.s (k := 7) (by omega)
  have h12 : gI M r 12 = s.2.2.2.2.2.2.2 := hO.2.2
  have fin : ∀ (b : Bool) (P : Prop) [Decidable P], (P ↔ b = true) → (if P then mo_z (jI 1) (some (jI 1, hp S z M)) else mo_z (jI 0) (some (jI 0, hp S z M))) = some (jI (b2i b), hp S z M) := by
    intro b P _ hb'
    by_cases g : P
    · rw [if_pos g, hb'.mp g]; exact mo_z_1
    · rw [if_neg g]
      have : b = false := by cases b; rfl; exact absurd (hb'.mpr rfl) g
      rw [this]; exact mo_z_0
  have e54 := fun hpr' => X8_b54 (z := z) (pr := pr) hr hO hb hl hpr' s.2.1.length 0 hN_f (by omega) (by unfold hN_f; omega) rfl
  unfold m_X8_breaks
  rcases (show pr = 0 ∨ pr = 3 ∨ pr = 1 ∨ pr = 2 by omega) with rfl | rfl | rfl | rfl
  · simp (disch := omega) only [ji1, ji2, ji3, ji4, ji5, ji6, ji7, ji8, ji9, ji10, ji11, ji12, ji13, ji14, ji15, ji16, ji19, ji20, ji24, ji31, ji32, ji39, ji45, ji48, ji57, ji58, ji59, ji60, ji97, ji100, ji119, ji120, ji122, ji144, ji200, ji226, ji240, ji255, ji300, ji366, ji400, ji500, ji1000, jI_z, ↓jI_m1, jI_add, jI_sub, jI_mul, ↓jm1000, ↓jm100, ↓jm10, ↓jm9, ji50, ji65280, ji1664525, ji252645135, ji858993459, ji1013904223, ji1431655765, ji2147483639, ji2147483647, ↓Rg0 hr, Rw0 hr, ↓Rg1 hr, ↓Rg2 hr, ↓Rg3 hr, ↓Rg4 hr, ↓Rg5 hr, ↓Rg6 hr, ↓Rg7 hr, ↓Rg8 hr, ↓Rg9 hr, Rw9 hr, ↓Rg10 hr, Rw10 hr, ↓Rg11 hr, Rw11 hr, ↓Rg12 hr, Rw12 hr, ↓Rg13 hr, Rw13 hr, ↓Rg14 hr, Rw14 hr, ↓Rg15 hr, Rw15 hr, ↓Rg16 hr, Rw16 hr, ↓Rg17 hr, Rw17 hr, ↓Rv hr, Ra1 hr, Ru1 hr, Ra2 hr, Ru2 hr, Ra3 hr, Ru3 hr, Ra4 hr, Ru4 hr, Ra5 hr, Ru5 hr, Ra6 hr, Ru6 hr, Ra7 hr, Ru7 hr, Ra8 hr, Ru8 hr, h12, jI_lt, show ((0 : Nat) : Int) = 0 from rfl, if_true]
    apply fin
    unfold zBrk; simp only [decide_eq_true_eq]; omega
  · simp (disch := omega) only [ji1, ji2, ji3, ji4, ji5, ji6, ji7, ji8, ji9, ji10, ji11, ji12, ji13, ji14, ji15, ji16, ji19, ji20, ji24, ji31, ji32, ji39, ji45, ji48, ji57, ji58, ji59, ji60, ji97, ji100, ji119, ji120, ji122, ji144, ji200, ji226, ji240, ji255, ji300, ji366, ji400, ji500, ji1000, jI_z, ↓jI_m1, jI_add, jI_sub, jI_mul, ↓jm1000, ↓jm100, ↓jm10, ↓jm9, ji50, ji65280, ji1664525, ji252645135, ji858993459, ji1013904223, ji1431655765, ji2147483639, ji2147483647, ↓Rg0 hr, Rw0 hr, ↓Rg1 hr, ↓Rg2 hr, ↓Rg3 hr, ↓Rg4 hr, ↓Rg5 hr, ↓Rg6 hr, ↓Rg7 hr, ↓Rg8 hr, ↓Rg9 hr, Rw9 hr, ↓Rg10 hr, Rw10 hr, ↓Rg11 hr, Rw11 hr, ↓Rg12 hr, Rw12 hr, ↓Rg13 hr, Rw13 hr, ↓Rg14 hr, Rw14 hr, ↓Rg15 hr, Rw15 hr, ↓Rg16 hr, Rw16 hr, ↓Rg17 hr, Rw17 hr, ↓Rv hr, Ra1 hr, Ru1 hr, Ra2 hr, Ru2 hr, Ra3 hr, Ru3 hr, Ra4 hr, Ru4 hr, Ra5 hr, Ru5 hr, Ra6 hr, Ru6 hr, Ra7 hr, Ru7 hr, Ra8 hr, Ru8 hr, ↓Pg0 hq, ↓Pg1 hq, ↓Pg2 hq, ↓Pg3 hq, ↓Pv hq, Pa1 hq, Pu1 hq, Pa2 hq, Pu2 hq, Pa3 hq, Pu3 hq, Pa4 hq, Pu4 hq, h0, nneg, if_false, Int.toNat_natCast, e7, h12, jI_lt, show ((3 : Nat) : Int) = 3 from rfl, show ¬ jI 3 = jI 0 by decide, if_true]
    unfold zBrk
    by_cases g : s.2.2.2.2.2.2.2 < 0
    · rw [if_pos g, decide_eq_true (Or.inl (by omega))]; exact mo_z_1
    · rw [if_neg g]
      apply fin
      simp only [decide_eq_true_eq]; omega
  · simp (disch := omega) only [ji1, ji2, ji3, ji4, ji5, ji6, ji7, ji8, ji9, ji10, ji11, ji12, ji13, ji14, ji15, ji16, ji19, ji20, ji24, ji31, ji32, ji39, ji45, ji48, ji57, ji58, ji59, ji60, ji97, ji100, ji119, ji120, ji122, ji144, ji200, ji226, ji240, ji255, ji300, ji366, ji400, ji500, ji1000, jI_z, ↓jI_m1, jI_add, jI_sub, jI_mul, ↓jm1000, ↓jm100, ↓jm10, ↓jm9, ji50, ji65280, ji1664525, ji252645135, ji858993459, ji1013904223, ji1431655765, ji2147483639, ji2147483647, show ((1 : Nat) : Int) = 1 from rfl, show ¬ jI 1 = jI 0 by decide, show ¬ jI 1 = jI 3 by decide, if_false]
    have := e54 (Or.inl rfl)
    rw [hitA_all (Or.inl rfl) (fun x hx => (hb x hx).1)] at this
    exact this
  · simp (disch := omega) only [ji1, ji2, ji3, ji4, ji5, ji6, ji7, ji8, ji9, ji10, ji11, ji12, ji13, ji14, ji15, ji16, ji19, ji20, ji24, ji31, ji32, ji39, ji45, ji48, ji57, ji58, ji59, ji60, ji97, ji100, ji119, ji120, ji122, ji144, ji200, ji226, ji240, ji255, ji300, ji366, ji400, ji500, ji1000, jI_z, ↓jI_m1, jI_add, jI_sub, jI_mul, ↓jm1000, ↓jm100, ↓jm10, ↓jm9, ji50, ji65280, ji1664525, ji252645135, ji858993459, ji1013904223, ji1431655765, ji2147483639, ji2147483647, show ((2 : Nat) : Int) = 2 from rfl, show ¬ jI 2 = jI 0 by decide, show ¬ jI 2 = jI 3 by decide, if_false]
    have := e54 (Or.inr rfl)
    rw [hitA_all (Or.inr rfl) (fun x hx => (hb x hx).1)] at this
    exact this
/-- a run and its promise -/
theorem X8_gb {z r p pr : Nat} {M : hM} {c : hCf} (hr : isR S r) (hq : isP S p) (hd : p + 5 ≤ r ∨ r + 9 ≤ p) (hc : okC c) (hP : PL M p c) (hpr : pr < 4) :
    ∃ M', m_X8_go (hp S z M) (z + r) (z + p) = some (z + r, hp S z M') ∧ m_X8_breaks (hp S z M') (z + r) (jI pr) = some (jI (b2i (brk c pr)), hp S z M') ∧ WR M' r p c (zR c).1 (zR c).2 ∧ Fr r (r + 9) M M' ∧ Vr M M' := by
  obtain ⟨M', r1, r2, r3, r4, r5⟩ := X8_go (z := z) hr hq hd hc hP
  obtain ⟨j1, j2, j3⟩ := zJ_R hc
  have hl : (zR c).2.2.1.length ≤ 240 := by
    have h1 := j1.2
    have h2 := hnd_le (t := (zR c).1) (j := 0) (T := (zR c).2.1)
    have h3 := zN_le hc
    omega
  exact ⟨M', r1, X8_brk hr hq hc ⟨j2, j3⟩ j1.1 hl hpr r2, r2, r4, r5⟩

variable {S : hSh}
/-! RESULTS OF A RUN. -/
def repT : List hT → Nat → Nat → Nat
  | [], _, n => n
  | x :: l, s, n => if x.2.1 = 0 then repT l (s ||| 2 ^ x.2.2.1.toNat) (n + if s.testBit x.2.2.1.toNat = true then 1 else 0) else repT l s n
def ansT : List hT → Nat → Nat
  | [], n => n
  | x :: l, n => ansT l (n + if x.2.1 = 1 then 1 else 0)
def okTs (T : List hT) : Prop := ∀ x ∈ T, (x.2.1 = 0 ∨ x.2.1 = 1) ∧ 0 ≤ x.2.2.1 ∧ x.2.2.1 ≤ 7
theorem okTs_R {c : hCf} (hc : okC c) : okTs (zR c).2.1 := by
  have h := (zJ_R hc).1.1
  generalize (zR c).2 = s at h ⊢
  obtain ⟨T, O, W, B, N, J, K, C⟩ := s
  intro x hx
  obtain ⟨_, _, h3, h4, h5, _⟩ := h.2.1 x hx
  exact ⟨by omega, h4, h5⟩
theorem or_b8 {s j : Nat} (hs : s < 256) (hj : j ≤ 7) : s ||| 2 ^ j < 256 := by
  have h : 2 ^ j < 2 ^ 8 := Nat.pow_lt_pow_right (by omega) (by omega)
  exact Nat.or_lt_two_pow (n := 8) hs h
theorem pow_7 {j : Nat} (hj : j ≤ 7) : 2 ^ j ≤ 128 := Nat.pow_le_pow_right (n := 2) (by omega) hj
theorem drop_c {T : List hT} {k : Nat} {x : hT} {l : List hT} (h : T.drop k = x :: l) : T[k]? = some x ∧ T.drop (k + 1) = l ∧ k < T.length := by
  have h1 : T[k]? = some x := by
    have := congrArg (fun l => l[0]?) h
    simpa using this
  exact ⟨h1, by have := congrArg List.tail h; simpa using this, (List.getElem?_eq_some_iff.mp h1).1⟩
theorem X2_rep_l {z : Nat} {M : hM} {T : List hT} (hL : LT M T) (hTl : T.length ≤ 120) (ho : okTs T) : ∀ (l : List hT) (k f s n : Nat), T.drop k = l → l.length < f → k ≤ T.length → s < 256 → n ≤ k →
    m_X2_repeatedData_l6 (z + 16) f (hp S z M) (jI s) (jI n) (jI k) = some (jI (repT l s n : Nat), hp S z M) := by
  intro l
  induction l with
  | nil =>
    intro k f s n hl hf hk hs hn
    obtain ⟨f, rfl⟩ : ∃ g, f = g + 1 := ⟨f - 1, by simp at hf; omega⟩
    have hk' : T.length ≤ k := by simpa using hl
    unfold m_X2_repeatedData_l6
    by_cases g : (k : Int) < 120
    · have g2 : ¬ (k : Int) < T.length := by omega
      simp (disch := omega) only [ji1, ji2, ji3, ji4, ji5, ji6, ji7, ji8, ji9, ji10, ji11, ji12, ji13, ji14, ji15, ji16, ji19, ji20, ji24, ji31, ji32, ji39, ji45, ji48, ji57, ji58, ji59, ji60, ji97, ji100, ji119, ji120, ji122, ji144, ji200, ji226, ji240, ji255, ji300, ji366, ji400, ji500, ji1000, jI_z, ↓jI_m1, jI_add, jI_sub, jI_mul, jI_lt, g, if_true, ↓hg16_0, ↓hg16_1, ↓hg16_2, ↓hg16_3, ↓hg16_4, ↓hg16_5, hw16_5, ↓hg16_6, ↓hg16_7, ↓hg16_8, ↓hg16_9, ↓hg16_10, hw16_10, ↓hv16, ↓hx16, ha17, hu17, ↓hl17, ha18, hu18, ↓hl18, ha19, hu19, ↓hl19, ha20, hu20, ↓hl20, ha21, hu21, ↓hl21, ha22, hu22, ↓hl22, ha23, hu23, ↓hl23, ha24, hu24, ↓hl24, ha25, hu25, ↓hl25, hL.1, g2, if_false]
      rfl
    · simp (disch := omega) only [ji1, ji2, ji3, ji4, ji5, ji6, ji7, ji8, ji9, ji10, ji11, ji12, ji13, ji14, ji15, ji16, ji19, ji20, ji24, ji31, ji32, ji39, ji45, ji48, ji57, ji58, ji59, ji60, ji97, ji100, ji119, ji120, ji122, ji144, ji200, ji226, ji240, ji255, ji300, ji366, ji400, ji500, ji1000, jI_z, ↓jI_m1, jI_add, jI_sub, jI_mul, jI_lt, g, if_false]
      rfl
  | cons x l ih =>
    intro k f s n hl hf hk hs hn
    obtain ⟨f, rfl⟩ : ∃ g, f = g + 1 := ⟨f - 1, by simp at hf; omega⟩
    obtain ⟨d1, d2, d3⟩ := drop_c hl
    obtain ⟨e1, e2, e3, e4, e5⟩ := hL.2 k x d1
    obtain ⟨o1, o2, o3⟩ := ho x (List.mem_of_getElem? d1)
    have g : (k : Int) < 120 := by omega
    have g2 : (k : Int) < T.length := by omega
    have hor := or_b8 hs (j := x.2.2.1.toNat) (by omega)
    have hpw := pow_7 (j := x.2.2.1.toNat) (by omega)
    have ek : (k : Int) + 1 = ((k + 1 : Nat) : Int) := by omega
    by_cases h0 : x.2.1 = 0
    · have IH := ih (k + 1) f (s ||| 2 ^ x.2.2.1.toNat) (n + if s.testBit x.2.2.1.toNat = true then 1 else 0) d2 (by simp at hf; omega) (by omega) hor (by split <;> omega)
      have en : (n : Int) + (if s.testBit x.2.2.1.toNat = true then 1 else 0) = ((n + (if s.testBit x.2.2.1.toNat = true then 1 else 0) : Nat) : Int) := by split <;> omega
      unfold m_X2_repeatedData_l6
      simp (disch := omega) only [ji1, ji2, ji3, ji4, ji5, ji6, ji7, ji8, ji9, ji10, ji11, ji12, ji13, ji14, ji15, ji16, ji19, ji20, ji24, ji31, ji32, ji39, ji45, ji48, ji57, ji58, ji59, ji60, ji97, ji100, ji119, ji120, ji122, ji144, ji200, ji226, ji240, ji255, ji300, ji366, ji400, ji500, ji1000, jI_z, ↓jI_m1, jI_add, jI_sub, jI_mul, jI_lt, jI_eq, g, if_true, ↓hg16_0, ↓hg16_1, ↓hg16_2, ↓hg16_3, ↓hg16_4, ↓hg16_5, hw16_5, ↓hg16_6, ↓hg16_7, ↓hg16_8, ↓hg16_9, ↓hg16_10, hw16_10, ↓hv16, ↓hx16, ha17, hu17, ↓hl17, ha18, hu18, ↓hl18, ha19, hu19, ↓hl19, ha20, hu20, ↓hl20, ha21, hu21, ↓hl21, ha22, hu22, ↓hl22, ha23, hu23, ↓hl23, ha24, hu24, ↓hl24, ha25, hu25, ↓hl25, hL.1, g2, Int.toNat_natCast, e2, e3, h0, jS, jT, jI_or, ek, en]
      rw [IH]; simp only [repT, h0, if_true]
    · have IH := ih (k + 1) f s n d2 (by simp at hf; omega) (by omega) hs (by omega)
      have h0' : ¬ x.2.1 = 0 := h0
      unfold m_X2_repeatedData_l6
      simp (disch := omega) only [ji1, ji2, ji3, ji4, ji5, ji6, ji7, ji8, ji9, ji10, ji11, ji12, ji13, ji14, ji15, ji16, ji19, ji20, ji24, ji31, ji32, ji39, ji45, ji48, ji57, ji58, ji59, ji60, ji97, ji100, ji119, ji120, ji122, ji144, ji200, ji226, ji240, ji255, ji300, ji366, ji400, ji500, ji1000, jI_z, ↓jI_m1, jI_add, jI_sub, jI_mul, jI_lt, jI_eq, g, if_true, ↓hg16_0, ↓hg16_1, ↓hg16_2, ↓hg16_3, ↓hg16_4, ↓hg16_5, hw16_5, ↓hg16_6, ↓hg16_7, ↓hg16_8, ↓hg16_9, ↓hg16_10, hw16_10, ↓hv16, ↓hx16, ha17, hu17, ↓hl17, ha18, hu18, ↓hl18, ha19, hu19, ↓hl19, ha20, hu20, ↓hl20, ha21, hu21, ↓hl21, ha22, hu22, ↓hl22, ha23, hu23, ↓hl23, ha24, hu24, ↓hl24, ha25, hu25, ↓hl25, hL.1, g2, Int.toNat_natCast, e2, h0, if_false, ek]
      rw [IH]; simp only [repT, h0, if_false]
theorem X2_rep {z : Nat} {M : hM} {T : List hT} (hL : LT M T) (hTl : T.length ≤ 120) (ho : okTs T) : m_X2_repeatedData (hp S z M) (z + 16) = some (jI (repT T 0 0 : Nat), hp S z M) := by
  have h := X2_rep_l (S := S) (z := z) hL hTl ho T 0 hN_f 0 0 (by simp) (by unfold hN_f; omega) (by omega) (by omega) (by omega)
  unfold m_X2_repeatedData
  rw [jI_z]; exact h
theorem X2_ans_l {z : Nat} {M : hM} {T : List hT} (hL : LT M T) (hTl : T.length ≤ 120) (ho : okTs T) : ∀ (l : List hT) (k f n : Nat), T.drop k = l → l.length < f → k ≤ T.length → n ≤ k →
    m_X2_answers_l4 (z + 16) f (hp S z M) (jI n) (jI k) = some (jI (ansT l n : Nat), hp S z M) := by
  intro l
  induction l with
  | nil =>
    intro k f n hl hf hk hn
    obtain ⟨f, rfl⟩ : ∃ g, f = g + 1 := ⟨f - 1, by simp at hf; omega⟩
    have hk' : T.length ≤ k := by simpa using hl
    unfold m_X2_answers_l4
    by_cases g : (k : Int) < 120
    · have g2 : ¬ (k : Int) < T.length := by omega
      simp (disch := omega) only [ji1, ji2, ji3, ji4, ji5, ji6, ji7, ji8, ji9, ji10, ji11, ji12, ji13, ji14, ji15, ji16, ji19, ji20, ji24, ji31, ji32, ji39, ji45, ji48, ji57, ji58, ji59, ji60, ji97, ji100, ji119, ji120, ji122, ji144, ji200, ji226, ji240, ji255, ji300, ji366, ji400, ji500, ji1000, jI_z, ↓jI_m1, jI_add, jI_sub, jI_mul, jI_lt, g, if_true, ↓hg16_0, ↓hg16_1, ↓hg16_2, ↓hg16_3, ↓hg16_4, ↓hg16_5, hw16_5, ↓hg16_6, ↓hg16_7, ↓hg16_8, ↓hg16_9, ↓hg16_10, hw16_10, ↓hv16, ↓hx16, ha17, hu17, ↓hl17, ha18, hu18, ↓hl18, ha19, hu19, ↓hl19, ha20, hu20, ↓hl20, ha21, hu21, ↓hl21, ha22, hu22, ↓hl22, ha23, hu23, ↓hl23, ha24, hu24, ↓hl24, ha25, hu25, ↓hl25, hL.1, g2, if_false]
      rfl
    · simp (disch := omega) only [ji1, ji2, ji3, ji4, ji5, ji6, ji7, ji8, ji9, ji10, ji11, ji12, ji13, ji14, ji15, ji16, ji19, ji20, ji24, ji31, ji32, ji39, ji45, ji48, ji57, ji58, ji59, ji60, ji97, ji100, ji119, ji120, ji122, ji144, ji200, ji226, ji240, ji255, ji300, ji366, ji400, ji500, ji1000, jI_z, ↓jI_m1, jI_add, jI_sub, jI_mul, jI_lt, g, if_false]
      rfl
  | cons x l ih =>
    intro k f n hl hf hk hn
    obtain ⟨f, rfl⟩ : ∃ g, f = g + 1 := ⟨f - 1, by simp at hf; omega⟩
    obtain ⟨d1, d2, d3⟩ := drop_c hl
    obtain ⟨e1, e2, e3, e4, e5⟩ := hL.2 k x d1
    obtain ⟨o1, o2, o3⟩ := ho x (List.mem_of_getElem? d1)
    have g : (k : Int) < 120 := by omega
    have g2 : (k : Int) < T.length := by omega
    have ek : (k : Int) + 1 = ((k + 1 : Nat) : Int) := by omega
    have en : (n : Int) + 1 = ((n + 1 : Nat) : Int) := by omega
    by_cases h0 : x.2.1 = 1
    · have IH := ih (k + 1) f (n + 1) d2 (by simp at hf; omega) (by omega) (by omega)
      unfold m_X2_answers_l4
      simp (disch := omega) only [ji1, ji2, ji3, ji4, ji5, ji6, ji7, ji8, ji9, ji10, ji11, ji12, ji13, ji14, ji15, ji16, ji19, ji20, ji24, ji31, ji32, ji39, ji45, ji48, ji57, ji58, ji59, ji60, ji97, ji100, ji119, ji120, ji122, ji144, ji200, ji226, ji240, ji255, ji300, ji366, ji400, ji500, ji1000, jI_z, ↓jI_m1, jI_add, jI_sub, jI_mul, jI_lt, jI_eq, g, if_true, ↓hg16_0, ↓hg16_1, ↓hg16_2, ↓hg16_3, ↓hg16_4, ↓hg16_5, hw16_5, ↓hg16_6, ↓hg16_7, ↓hg16_8, ↓hg16_9, ↓hg16_10, hw16_10, ↓hv16, ↓hx16, ha17, hu17, ↓hl17, ha18, hu18, ↓hl18, ha19, hu19, ↓hl19, ha20, hu20, ↓hl20, ha21, hu21, ↓hl21, ha22, hu22, ↓hl22, ha23, hu23, ↓hl23, ha24, hu24, ↓hl24, ha25, hu25, ↓hl25, hL.1, g2, Int.toNat_natCast, e2, h0, ek, en]
      rw [IH]; simp only [ansT, h0, if_true]
    · have IH := ih (k + 1) f n d2 (by simp at hf; omega) (by omega) (by omega)
      unfold m_X2_answers_l4
      simp (disch := omega) only [ji1, ji2, ji3, ji4, ji5, ji6, ji7, ji8, ji9, ji10, ji11, ji12, ji13, ji14, ji15, ji16, ji19, ji20, ji24, ji31, ji32, ji39, ji45, ji48, ji57, ji58, ji59, ji60, ji97, ji100, ji119, ji120, ji122, ji144, ji200, ji226, ji240, ji255, ji300, ji366, ji400, ji500, ji1000, jI_z, ↓jI_m1, jI_add, jI_sub, jI_mul, jI_lt, jI_eq, g, if_true, ↓hg16_0, ↓hg16_1, ↓hg16_2, ↓hg16_3, ↓hg16_4, ↓hg16_5, hw16_5, ↓hg16_6, ↓hg16_7, ↓hg16_8, ↓hg16_9, ↓hg16_10, hw16_10, ↓hv16, ↓hx16, ha17, hu17, ↓hl17, ha18, hu18, ↓hl18, ha19, hu19, ↓hl19, ha20, hu20, ↓hl20, ha21, hu21, ↓hl21, ha22, hu22, ↓hl22, ha23, hu23, ↓hl23, ha24, hu24, ↓hl24, ha25, hu25, ↓hl25, hL.1, g2, Int.toNat_natCast, e2, h0, if_false, ek]
      rw [IH]; simp only [ansT, h0, if_false, Nat.add_zero]
theorem X2_ans {z : Nat} {M : hM} {T : List hT} (hL : LT M T) (hTl : T.length ≤ 120) (ho : okTs T) : m_X2_answers (hp S z M) (z + 16) = some (jI (ansT T 0 : Nat), hp S z M) := by
  have h := X2_ans_l (S := S) (z := z) hL hTl ho T 0 hN_f 0 (by simp) (by unfold hN_f; omega) (by omega) (by omega)
  unfold m_X2_answers
  rw [jI_z]; exact h
/-! states: a row of bits a sender's number against places of 0 and 1 -/
def popS (m : Nat) : Nat → Nat
  | 0 => 0
  | t + 1 => popS m t + if m.testBit t = true then 1 else 0
theorem popS_sh : ∀ (k m : Nat), popS m (k + 1) = m % 2 + popS (m / 2) k := by
  intro k
  induction k with
  | zero =>
    intro m
    simp only [popS, Nat.testBit_zero, decide_eq_true_eq]
    split <;> omega
  | succ k ih =>
    intro m
    have h : popS m (k + 1 + 1) = popS m (k + 1) + if m.testBit (k + 1) = true then 1 else 0 := rfl
    rw [h, ih, Nat.testBit_succ]
    simp only [popS]; omega
theorem popS_G : ∀ (k m : Nat), popS m k = popG k m := by
  intro k
  induction k with
  | zero => intro m; rfl
  | succ k ih => intro m; rw [popS_sh, ih]; rfl
def sg (F : Nat → Int) : Nat → Int
  | 0 => 0
  | k + 1 => sg F k + F k
def St (F : Nat → Int) (W : Nat → Nat) : Prop := ∀ s t, s < 9 → t < 16 → F (16 * s + t) = if (W s).testBit t = true then 1 else 0
theorem sg_row {F : Nat → Int} {W : Nat → Nat} (h : St F W) {s : Nat} (hs : s < 9) : ∀ t, t ≤ 16 → sg F (16 * s + t) = sg F (16 * s) + (popS (W s) t : Nat) := by
  intro t
  induction t with
  | zero => intro _; simp [popS]
  | succ t ih =>
    intro ht
    have e : sg F (16 * s + (t + 1)) = sg F (16 * s + t) + F (16 * s + t) := rfl
    rw [e, ih (by omega), h s t hs (by omega)]
    simp only [popS]
    split <;> simp <;> omega
theorem sg_all {F : Nat → Int} {W : Nat → Nat} (h : St F W) : ∀ s, s ≤ 9 → sg F (16 * s) = (sum9 (fun k => pop (W k)) s : Nat) := by
  intro s
  induction s with
  | zero => intro _; rfl
  | succ s ih =>
    intro hs
    have e := sg_row h (s := s) (by omega) 16 (by omega)
    rw [show 16 * (s + 1) = 16 * s + 16 by omega, e, ih (by omega), popS_G]
    simp only [sum9, pop]; omega
theorem sg_in {F : Nat → Int} (h : ∀ k, k < 144 → 0 ≤ F k ∧ F k ≤ 1) : ∀ n, n ≤ 144 → 0 ≤ sg F n ∧ sg F n ≤ n := by
  intro n
  induction n with
  | zero => intro _; exact ⟨Int.le_refl _, by simp [sg]⟩
  | succ n ih =>
    intro hn
    have h1 := ih (by omega)
    have h2 := h n (by omega)
    simp only [sg]; omega
theorem St.b {F : Nat → Int} {W : Nat → Nat} (h : St F W) {k : Nat} (hk : k < 144) : F k = if (W (k / 16)).testBit (k % 16) = true then 1 else 0 := by
  have e := h (k / 16) (k % 16) (by omega) (by omega)
  rwa [Nat.div_add_mod] at e
theorem St.in' {F : Nat → Int} {W : Nat → Nat} (h : St F W) : ∀ k, k < 144 → 0 ≤ F k ∧ F k ≤ 1 := by
  intro k hk
  rw [h.b hk]; split <;> omega

variable {S : hSh}
/-! .. deletions, parts, copies; sets of states. -/
theorem X0_only {z b : Nat} {M : hM} {c : hCf} {kd nm am : Int} (hb : isB b = true) (h : BR M b c) (hc : okC c) (hk : okW kd) (hn : okW nm) :
    ∃ M', m_X0_takeOnlyFault (hp S z M) (z + b) (jI kd) (jI nm) (jI am) = some ((), hp S z M') ∧ BR M' b (c.1, [(kd, nm, am)]) ∧ Fr b (b + 5) M M' ∧ Vr M M' := by
  have h1 : BR (sI M b 4 0) b (c.1, []) := ⟨fun j hj => by rw [gA_sI]; exact h.1 j hj, by rw [gI_sI, if_pos ⟨rfl, rfl⟩]; rfl, fun j x hx => by simp at hx⟩
  obtain ⟨M', r1, r2, r3, r4⟩ := X0_ins (S := S) (z := z) (am := am) hb h1 ⟨by simp, by simp, hc.2.2⟩ (by simp) hk hn
  refine ⟨M', ?_, r2, (Fr.sI (by omega)).trans r3, fun k => (r4 k).trans gV_sI⟩
  unfold m_X0_takeOnlyFault
  simp (disch := omega) only [ji1, ji2, ji3, ji4, ji5, ji6, ji7, ji8, ji9, ji10, ji11, ji12, ji13, ji14, ji15, ji16, ji19, ji20, ji24, ji31, ji32, ji39, ji45, ji48, ji57, ji58, ji59, ji60, ji97, ji100, ji119, ji120, ji122, ji144, ji200, ji226, ji240, ji255, ji300, ji366, ji400, ji500, ji1000, jI_z, ↓jI_m1, jI_add, jI_sub, jI_mul, ↓Bg0 hb, ↓Bg1 hb, ↓Bg2 hb, ↓Bg3 hb, ↓Bg5 hb, ↓Bg4 hb, Bw4 hb, ↓Bv hb, Ba1 hb, Bu1 hb, Ba2 hb, Bu2 hb, Ba3 hb, Bu3 hb, Ba4 hb, Bu4 hb]
  rw [r1]; rfl
theorem X0_del_l {z b : Nat} {M0 : hM} {c : hCf} {f : Nat} (hb : isB b = true) (hc : okC c) (hf : f < c.2.length) : ∀ (d i n : Nat) (M : hM), i + d = c.2.length → d < n → f + 1 ≤ i → (∀ k, k < 8 → gA M (b + 1) k = c.1 k) → gI M b 4 = c.2.length → Fr b (b + 5) M0 M → Vr M0 M →
    (∀ j x, j + 1 < i → (c.2.eraseIdx f)[j]? = some x → gA M (b + 2) j = x.1 ∧ gA M (b + 3) j = x.2.1 ∧ gA M (b + 4) j = x.2.2) →
    (∀ j x, i ≤ j → c.2[j]? = some x → gA M (b + 2) j = x.1 ∧ gA M (b + 3) j = x.2.1 ∧ gA M (b + 4) j = x.2.2) →
    ∃ M', m_X0_delete_l17 (z + b) n (hp S z M) (jI i) = some ((), hp S z M') ∧ BR M' b (c.1, c.2.eraseIdx f) ∧ Fr b (b + 5) M0 M' ∧ Vr M0 M' := by
  have hlen := hc.1
  intro d
  induction d with
  | zero =>
    intro i n M hi hn hfi hS hI hF hV hlo hhi
    obtain ⟨n, rfl⟩ : ∃ k, n = k + 1 := ⟨n - 1, by omega⟩
    refine ⟨sI M b 4 (c.2.length - 1), ?_, ⟨fun k hk => ?_, ?_, fun j x hx => ?_⟩, hF.trans (Fr.sI (by omega)), fun k => by rw [gV_sI]; exact hV k⟩
    · unfold m_X0_delete_l17
      by_cases h10 : (i : Int) < 10
      · have hil : ¬ (i : Int) < c.2.length := by omega
        simp (disch := omega) only [ji1, ji2, ji3, ji4, ji5, ji6, ji7, ji8, ji9, ji10, ji11, ji12, ji13, ji14, ji15, ji16, ji19, ji20, ji24, ji31, ji32, ji39, ji45, ji48, ji57, ji58, ji59, ji60, ji97, ji100, ji119, ji120, ji122, ji144, ji200, ji226, ji240, ji255, ji300, ji366, ji400, ji500, ji1000, jI_z, ↓jI_m1, jI_add, jI_sub, jI_mul, jI_lt, ↓Bg0 hb, ↓Bg1 hb, ↓Bg2 hb, ↓Bg3 hb, ↓Bg5 hb, ↓Bg4 hb, Bw4 hb, ↓Bv hb, Ba1 hb, Bu1 hb, Ba2 hb, Bu2 hb, Ba3 hb, Bu3 hb, Ba4 hb, Bu4 hb, h10, hI, hil, if_false, if_true]
      · simp (disch := omega) only [ji1, ji2, ji3, ji4, ji5, ji6, ji7, ji8, ji9, ji10, ji11, ji12, ji13, ji14, ji15, ji16, ji19, ji20, ji24, ji31, ji32, ji39, ji45, ji48, ji57, ji58, ji59, ji60, ji97, ji100, ji119, ji120, ji122, ji144, ji200, ji226, ji240, ji255, ji300, ji366, ji400, ji500, ji1000, jI_z, ↓jI_m1, jI_add, jI_sub, jI_mul, jI_lt, ↓Bg0 hb, ↓Bg1 hb, ↓Bg2 hb, ↓Bg3 hb, ↓Bg5 hb, ↓Bg4 hb, Bw4 hb, ↓Bv hb, Ba1 hb, Bu1 hb, Ba2 hb, Bu2 hb, Ba3 hb, Bu3 hb, Ba4 hb, Bu4 hb, h10, hI, if_false]
    · rw [gA_sI]; exact hS k hk
    · rw [gI_sI, if_pos ⟨rfl, rfl⟩, List.length_eraseIdx, if_pos hf]; omega
    · rw [gA_sI, gA_sI, gA_sI]
      have := (List.getElem?_eq_some_iff.mp hx).1
      rw [List.length_eraseIdx, if_pos hf] at this
      exact hlo j x (by omega) hx
  | succ d ih =>
    intro i n M hi hn hfi hS hI hF hV hlo hhi
    obtain ⟨n, rfl⟩ : ∃ k, n = k + 1 := ⟨n - 1, by omega⟩
    obtain ⟨i, rfl⟩ : ∃ k, i = k + 1 := ⟨i - 1, by omega⟩
    have hx : c.2[i + 1]? = some c.2[i + 1] := List.getElem?_eq_getElem (by omega)
    obtain ⟨e1, e2, e3⟩ := hhi (i + 1) _ (Nat.le_refl _) hx
    obtain ⟨M', r1, r2, r3, r4⟩ := ih (i + 1 + 1) n (sA (sA (sA M (b + 2) i c.2[i + 1].1) (b + 3) i c.2[i + 1].2.1) (b + 4) i c.2[i + 1].2.2) (by omega) (by omega) (by omega)
      (fun k hk => by rw [gA_sA, gA_sA, gA_sA, if_neg (by omega), if_neg (by omega), if_neg (by omega)]; exact hS k hk)
      (by rw [gI_sA, gI_sA, gI_sA]; exact hI)
      (hF.trans (((Fr.sA (by omega)).trans (Fr.sA (by omega))).trans (Fr.sA (by omega))))
      (fun k => by rw [gV_sA, gV_sA, gV_sA]; exact hV k)
      (fun j x hj hq => by
        simp only [gA_sA, show b + 2 ≠ b + 3 from by omega, show b + 2 ≠ b + 4 from by omega, show b + 3 ≠ b + 4 from by omega, show b + 3 ≠ b + 2 from by omega, show b + 4 ≠ b + 3 from by omega, show b + 4 ≠ b + 2 from by omega, false_and, if_false, true_and]
        by_cases hji : j = i
        · subst hji
          rw [List.getElem?_eraseIdx, if_neg (by omega), hx] at hq; simp only [Option.some.injEq] at hq; subst hq
          rw [if_pos rfl, if_pos rfl, if_pos rfl]; exact ⟨rfl, rfl, rfl⟩
        · rw [if_neg hji, if_neg hji, if_neg hji]
          exact hlo j x (by omega) hq)
      (fun j x hj hq => by
        simp only [gA_sA, show b + 2 ≠ b + 3 from by omega, show b + 2 ≠ b + 4 from by omega, show b + 3 ≠ b + 4 from by omega, show b + 3 ≠ b + 2 from by omega, show b + 4 ≠ b + 3 from by omega, show b + 4 ≠ b + 2 from by omega, false_and, if_false, true_and]
        rw [if_neg (by omega), if_neg (by omega), if_neg (by omega)]
        exact hhi j x (by omega) hq)
    refine ⟨M', ?_, r2, r3, r4⟩
    have h10 : ((i + 1 : Nat) : Int) < 10 := by omega
    have hil : ((i + 1 : Nat) : Int) < c.2.length := by omega
    have ej : ((i + 1 : Nat) : Int) - 1 = (i : Int) := by omega
    have ej' : ((i + 1 : Nat) : Int) + 1 = ((i + 1 + 1 : Nat) : Int) := by omega
    unfold m_X0_delete_l17
    simp (disch := omega) only [ji1, ji2, ji3, ji4, ji5, ji6, ji7, ji8, ji9, ji10, ji11, ji12, ji13, ji14, ji15, ji16, ji19, ji20, ji24, ji31, ji32, ji39, ji45, ji48, ji57, ji58, ji59, ji60, ji97, ji100, ji119, ji120, ji122, ji144, ji200, ji226, ji240, ji255, ji300, ji366, ji400, ji500, ji1000, jI_z, ↓jI_m1, jI_add, jI_sub, jI_mul, jI_lt, ↓Bg0 hb, ↓Bg1 hb, ↓Bg2 hb, ↓Bg3 hb, ↓Bg5 hb, ↓Bg4 hb, Bw4 hb, ↓Bv hb, Ba1 hb, Bu1 hb, Ba2 hb, Bu2 hb, Ba3 hb, Bu3 hb, Ba4 hb, Bu4 hb, h10, hil, if_true, hI, ej, ej', Int.toNat_natCast, gA_sA, show b + 2 ≠ b + 3 from by omega, show b + 2 ≠ b + 4 from by omega, show b + 3 ≠ b + 4 from by omega, show b + 3 ≠ b + 2 from by omega, show b + 4 ≠ b + 3 from by omega, show b + 4 ≠ b + 2 from by omega, false_and, if_false, e1, e2, e3]
    exact r1
theorem X0_del {z b : Nat} {M : hM} {c : hCf} {f : Nat} (hb : isB b = true) (h : BR M b c) (hc : okC c) (hf : f < c.2.length) :
    ∃ M', m_X0_delete (hp S z M) (z + b) (jI f) = some ((), hp S z M') ∧ BR M' b (c.1, c.2.eraseIdx f) ∧ Fr b (b + 5) M M' ∧ Vr M M' := by
  have hlen := hc.1
  have e : gI M b 4 = c.2.length := h.2.1
  obtain ⟨M', r1, r2, r3, r4⟩ := X0_del_l (S := S) (z := z) (M0 := M) hb hc hf (c.2.length - (f + 1)) (f + 1) hN_f M (by omega) (by unfold hN_f; omega) (Nat.le_refl _) h.1 e Fr.rfl' Vr.rfl' (fun j x hj hq => by
      rw [List.getElem?_eraseIdx, if_pos (by omega)] at hq; exact h.2.2 j x hq) (fun j x _ hq => h.2.2 j x hq)
  refine ⟨M', ?_, r2, r3, r4⟩
  have hfl : (f : Int) < c.2.length := by omega
  have ej : (f : Int) + 1 = ((f + 1 : Nat) : Int) := by omega
  unfold m_X0_delete
  rw [if_neg (jI_nonneg (by omega) (by omega))]
  simp (disch := omega) only [ji1, ji2, ji3, ji4, ji5, ji6, ji7, ji8, ji9, ji10, ji11, ji12, ji13, ji14, ji15, ji16, ji19, ji20, ji24, ji31, ji32, ji39, ji45, ji48, ji57, ji58, ji59, ji60, ji97, ji100, ji119, ji120, ji122, ji144, ji200, ji226, ji240, ji255, ji300, ji366, ji400, ji500, ji1000, jI_z, ↓jI_m1, jI_add, jI_sub, jI_mul, jI_lt, ↓Bg0 hb, ↓Bg1 hb, ↓Bg2 hb, ↓Bg3 hb, ↓Bg5 hb, ↓Bg4 hb, Bw4 hb, ↓Bv hb, Ba1 hb, Bu1 hb, Ba2 hb, Bu2 hb, Ba3 hb, Bu3 hb, Ba4 hb, Bu4 hb, if_true, e, hfl, ej]
  exact r1
theorem jT {m : Nat} {k : Int} (hm : m < 2147483648) (h0 : 0 ≤ k) (h1 : k < 32) : ((jI (m : Int) >>> (jI k &&& jI 31)) &&& jI 1) = jI (if m.testBit k.toNat then 1 else 0) := jI_tb hm h0 h1
theorem jS {k : Int} (h0 : 0 ≤ k) (h1 : k < 31) : (jI 1 <<< (jI k &&& jI 31)) = jI ((2 ^ k.toNat : Nat) : Int) := jI_shl1 h0 h1
/-- the part of a schedule -/
def prt (p : Nat → Bool) : List hF → Nat → List hF
  | [], _ => []
  | x :: t, i => if p i = true then x :: prt p t (i + 1) else prt p t (i + 1)
theorem prt_len {p : Nat → Bool} : ∀ (l : List hF) (i : Nat), (prt p l i).length ≤ l.length := by
  intro l
  induction l with
  | nil => intro i; simp [prt]
  | cons x t ih => intro i; simp only [prt]; split <;> (have := ih (i + 1); simp only [List.length_cons]; omega)
theorem prt_mem {p : Nat → Bool} {x : hF} : ∀ (l : List hF) (i : Nat), x ∈ prt p l i → x ∈ l := by
  intro l
  induction l with
  | nil => intro i h; simp [prt] at h
  | cons y t ih =>
    intro i h
    simp only [prt] at h
    split at h
    · rcases List.mem_cons.mp h with h | h
      · rw [h]; exact List.mem_cons_self
      · exact List.mem_cons_of_mem _ (ih _ h)
    · exact List.mem_cons_of_mem _ (ih _ h)
theorem prt_all : ∀ (l : List hF) (i : Nat), prt (fun _ => true) l i = l := by
  intro l
  induction l with
  | nil => intro i; rfl
  | cons x t ih => intro i; simp only [prt, if_true]; rw [ih]
theorem okC.prt {c : hCf} (h : okC c) (p : Nat → Bool) (i : Nat) : okC (c.1, prt p c.2 i) := ⟨Nat.le_trans (prt_len _ _) h.1, fun x hx => h.2.1 x (prt_mem _ _ hx), h.2.2⟩
/-- a word whose bits are p -/
def bits (w : Int32) (p : Nat → Bool) : Prop := ∀ i : Nat, i < 10 → (((w >>> (jI i &&& jI 31)) &&& jI 1) = jI 0) = (p i = false)
theorem bits_all : bits (jI (-1)) (fun _ => true) := by
  have : ∀ i : Fin 10, ¬ ((((-1 : Int32) >>> (Int32.ofNat i.val &&& 31)) &&& 1) = 0) := by decide
  intro i hi
  have h := this ⟨i, hi⟩
  simp only [← jI_nat] at h
  simp only [Bool.true_eq_false, eq_iff_iff, iff_false]
  exact h
theorem bits_nat {m : Nat} (hm : m < 2147483648) : bits (jI m) (fun i => m.testBit i) := by
  intro i hi
  rw [jT (k := i) hm (by omega) (by omega)]
  simp only [Int.toNat_natCast]
  by_cases hb : m.testBit i = true
  · rw [if_pos hb, hb]; simp only [Bool.true_eq_false, eq_iff_iff, iff_false]; decide
  · rw [if_neg hb]; simp only [Bool.not_eq_true] at hb; simp only [hb]
theorem X0_tp2 {z a b : Nat} {M0 : hM} {S0 : Nat → Int} {l : List hF} {w : Int32} {p : Nat → Bool} (ha : isB a = true) (hb : isB b = true) (hl : l.length ≤ 10) (hw : bits w p) : ∀ (d i n : Nat) (T : List hF) (M : hM), i + d = l.length → d < n → T.length ≤ i → (∀ k, k < 8 → gA M (b + 1) k = S0 k) → gI M a 4 = l.length → Fr b (b + 5) M0 M → Vr M0 M →
    FA M b T → (∀ j x, i ≤ j → l[j]? = some x → gA M (a + 2) j = x.1 ∧ gA M (a + 3) j = x.2.1 ∧ gA M (a + 4) j = x.2.2) →
    ∃ M', m_X0_takePart_l31 (z + b) (z + a) w n (hp S z M) (jI T.length) (jI i) = some ((), hp S z M') ∧ BR M' b (S0, T ++ prt p (l.drop i) i) ∧ Fr b (b + 5) M0 M' ∧ Vr M0 M' := by
  intro d
  induction d with
  | zero =>
    intro i n T M hi hn hT hS hI hF hV hlo hhi
    obtain ⟨n, rfl⟩ : ∃ k, n = k + 1 := ⟨n - 1, by omega⟩
    have hd : l.drop i = [] := List.drop_eq_nil_of_le (by omega)
    refine ⟨sI M b 4 T.length, ?_, ⟨fun k hk => ?_, ?_, fun j x hx => ?_⟩, hF.trans (Fr.sI (by omega)), fun k => by rw [gV_sI]; exact hV k⟩
    · unfold m_X0_takePart_l31
      by_cases h10 : (i : Int) < 10
      · have hil : ¬ (i : Int) < l.length := by omega
        simp (disch := omega) only [ji1, ji2, ji3, ji4, ji5, ji6, ji7, ji8, ji9, ji10, ji11, ji12, ji13, ji14, ji15, ji16, ji19, ji20, ji24, ji31, ji32, ji39, ji45, ji48, ji57, ji58, ji59, ji60, ji97, ji100, ji119, ji120, ji122, ji144, ji200, ji226, ji240, ji255, ji300, ji366, ji400, ji500, ji1000, jI_z, ↓jI_m1, jI_add, jI_sub, jI_mul, jI_lt, ↓Bg0 ha, ↓Bg1 ha, ↓Bg2 ha, ↓Bg3 ha, ↓Bg5 ha, ↓Bg4 ha, Bw4 ha, ↓Bv ha, Ba1 ha, Bu1 ha, Ba2 ha, Bu2 ha, Ba3 ha, Bu3 ha, Ba4 ha, Bu4 ha, ↓Bg0 hb, ↓Bg1 hb, ↓Bg2 hb, ↓Bg3 hb, ↓Bg5 hb, ↓Bg4 hb, Bw4 hb, ↓Bv hb, Ba1 hb, Bu1 hb, Ba2 hb, Bu2 hb, Ba3 hb, Bu3 hb, Ba4 hb, Bu4 hb, h10, hI, hil, if_false, if_true]
      · simp (disch := omega) only [ji1, ji2, ji3, ji4, ji5, ji6, ji7, ji8, ji9, ji10, ji11, ji12, ji13, ji14, ji15, ji16, ji19, ji20, ji24, ji31, ji32, ji39, ji45, ji48, ji57, ji58, ji59, ji60, ji97, ji100, ji119, ji120, ji122, ji144, ji200, ji226, ji240, ji255, ji300, ji366, ji400, ji500, ji1000, jI_z, ↓jI_m1, jI_add, jI_sub, jI_mul, jI_lt, ↓Bg0 hb, ↓Bg1 hb, ↓Bg2 hb, ↓Bg3 hb, ↓Bg5 hb, ↓Bg4 hb, Bw4 hb, ↓Bv hb, Ba1 hb, Bu1 hb, Ba2 hb, Bu2 hb, Ba3 hb, Bu3 hb, Ba4 hb, Bu4 hb, h10, hI, if_false]
    · rw [gA_sI]; exact hS k hk
    · rw [gI_sI, if_pos ⟨rfl, rfl⟩, hd]; simp [prt]
    · rw [gA_sI, gA_sI, gA_sI]
      rw [hd] at hx; simp only [prt, List.append_nil] at hx
      exact hlo j x hx
  | succ d ih =>
    intro i n T M hi hn hT hS hI hF hV hlo hhi
    obtain ⟨n, rfl⟩ : ∃ k, n = k + 1 := ⟨n - 1, by omega⟩
    have hx : l[i]? = some l[i] := List.getElem?_eq_getElem (by omega)
    have hdr : l.drop i = l[i] :: l.drop (i + 1) := List.drop_eq_getElem_cons (by omega)
    obtain ⟨e1, e2, e3⟩ := hhi i _ (Nat.le_refl _) hx
    have h10 : (i : Int) < 10 := by omega
    have hT10 : (T.length : Int) < 10 := by omega
    have hil : (i : Int) < l.length := by omega
    have ej' : (i : Int) + 1 = ((i + 1 : Nat) : Int) := by omega
    have hbit := hw i (by omega)
    cases hpi : p i with
    | false =>
      obtain ⟨M', r1, r2, r3, r4⟩ := ih (i + 1) n T M (by omega) (by omega) (by omega) hS hI hF hV hlo (fun j x hj hq => hhi j x (by omega) hq)
      refine ⟨M', ?_, ?_, r3, r4⟩
      · unfold m_X0_takePart_l31
        rw [hpi] at hbit
        simp (disch := omega) only [ji1, ji2, ji3, ji4, ji5, ji6, ji7, ji8, ji9, ji10, ji11, ji12, ji13, ji14, ji15, ji16, ji19, ji20, ji24, ji31, ji32, ji39, ji45, ji48, ji57, ji58, ji59, ji60, ji97, ji100, ji119, ji120, ji122, ji144, ji200, ji226, ji240, ji255, ji300, ji366, ji400, ji500, ji1000, jI_z, ↓jI_m1, jI_add, jI_sub, jI_mul, jI_lt, ↓Bg0 ha, ↓Bg1 ha, ↓Bg2 ha, ↓Bg3 ha, ↓Bg5 ha, ↓Bg4 ha, Bw4 ha, ↓Bv ha, Ba1 ha, Bu1 ha, Ba2 ha, Bu2 ha, Ba3 ha, Bu3 ha, Ba4 ha, Bu4 ha, h10, hil, if_true, hI, ej', hbit]
        exact r1
      · rw [hdr]; simp only [prt, hpi, Bool.false_eq_true, if_false]; exact r2
    | true =>
      have hab : a = b ∨ a + 7 ≤ b ∨ b + 7 ≤ a := by
        by_cases hab : a = b
        · exact Or.inl hab
        · exact Or.inr (isB_far ha hb hab)
      have hT1 : (T ++ [l[i]]).length = T.length + 1 := by simp
      obtain ⟨M', r1, r2, r3, r4⟩ := ih (i + 1) n (T ++ [l[i]]) (sA (sA (sA M (b + 2) T.length l[i].1) (b + 3) T.length l[i].2.1) (b + 4) T.length l[i].2.2) (by omega) (by omega) (by omega)
        (fun k hk => by rw [gA_sA, gA_sA, gA_sA, if_neg (by omega), if_neg (by omega), if_neg (by omega)]; exact hS k hk)
        (by rw [gI_sA, gI_sA, gI_sA]; exact hI)
        (hF.trans (((Fr.sA (by omega)).trans (Fr.sA (by omega))).trans (Fr.sA (by omega))))
        (fun k => by rw [gV_sA, gV_sA, gV_sA]; exact hV k)
        (fun j x hq => by
          simp only [gA_sA, show b + 2 ≠ b + 3 from by omega, show b + 2 ≠ b + 4 from by omega, show b + 3 ≠ b + 4 from by omega, show b + 3 ≠ b + 2 from by omega, show b + 4 ≠ b + 3 from by omega, show b + 4 ≠ b + 2 from by omega, false_and, if_false, true_and]
          by_cases hji : j = T.length
          · subst hji
            rw [List.getElem?_append_right (Nat.le_refl _), Nat.sub_self] at hq; simp only [List.getElem?_cons_zero, Option.some.injEq] at hq; subst hq
            rw [if_pos rfl, if_pos rfl, if_pos rfl]; exact ⟨rfl, rfl, rfl⟩
          · rw [if_neg hji, if_neg hji, if_neg hji]
            have hjT : j < T.length := by
              have := (List.getElem?_eq_some_iff.mp hq).1
              omega
            rw [List.getElem?_append_left hjT] at hq
            exact hlo j x hq)
        (fun j x hj hq => by
          simp only [gA_sA]
          rw [if_neg (by omega), if_neg (by omega), if_neg (by omega), if_neg (by omega), if_neg (by omega), if_neg (by omega), if_neg (by omega), if_neg (by omega), if_neg (by omega)]
          exact hhi j x (by omega) hq)
      refine ⟨M', ?_, ?_, r3, r4⟩
      · unfold m_X0_takePart_l31
        rw [hpi] at hbit
        have hT' : (T.length : Int) + 1 = ((T.length + 1 : Nat) : Int) := by omega
        simp (disch := omega) only [ji1, ji2, ji3, ji4, ji5, ji6, ji7, ji8, ji9, ji10, ji11, ji12, ji13, ji14, ji15, ji16, ji19, ji20, ji24, ji31, ji32, ji39, ji45, ji48, ji57, ji58, ji59, ji60, ji97, ji100, ji119, ji120, ji122, ji144, ji200, ji226, ji240, ji255, ji300, ji366, ji400, ji500, ji1000, jI_z, ↓jI_m1, jI_add, jI_sub, jI_mul, jI_lt, ↓Bg0 ha, ↓Bg1 ha, ↓Bg2 ha, ↓Bg3 ha, ↓Bg5 ha, ↓Bg4 ha, Bw4 ha, ↓Bv ha, Ba1 ha, Bu1 ha, Ba2 ha, Bu2 ha, Ba3 ha, Bu3 ha, Ba4 ha, Bu4 ha, ↓Bg0 hb, ↓Bg1 hb, ↓Bg2 hb, ↓Bg3 hb, ↓Bg5 hb, ↓Bg4 hb, Bw4 hb, ↓Bv hb, Ba1 hb, Bu1 hb, Ba2 hb, Bu2 hb, Ba3 hb, Bu3 hb, Ba4 hb, Bu4 hb, h10, hil, hT10, if_true, hI, ej', hbit, Bool.true_eq_false, if_false, Int.toNat_natCast, gA_sA, show a + 3 ≠ b + 2 from by omega, show a + 4 ≠ b + 2 from by omega, show a + 4 ≠ b + 3 from by omega, false_and, e1, e2, e3]
        rw [hT', ← hT1]
        exact r1
      · rw [hdr]; simp only [prt, hpi, if_true]
        rw [List.append_assoc] at r2; exact r2
theorem X0_tp1 {z a b : Nat} {M0 : hM} {c : hCf} {w : Int32} {p : Nat → Bool} (ha : isB a = true) (hb : isB b = true) (hc : okC c) (hw : bits w p) : ∀ (d i n : Nat) (M : hM), i + d = 8 → d < n → (∀ k, k < i → gA M (b + 1) k = c.1 k) → BR M a c → Fr b (b + 5) M0 M → Vr M0 M →
    ∃ M', m_X0_takePart_l2 (z + b) (z + a) w n (hp S z M) (jI i) = some ((), hp S z M') ∧ BR M' b (c.1, prt p c.2 0) ∧ Fr b (b + 5) M0 M' ∧ Vr M0 M' := by
  intro d
  induction d with
  | zero =>
    intro i n M hi hn hS hA hF hV
    obtain ⟨n, rfl⟩ : ∃ k, n = k + 1 := ⟨n - 1, by omega⟩
    have hi8 : i = 8 := by omega
    subst hi8
    obtain ⟨M', r1, r2, r3, r4⟩ := X0_tp2 (S := S) (z := z) (M0 := M0) (S0 := c.1) ha hb hc.1 hw c.2.length 0 hN_f [] M (by omega) (by have := hc.1; unfold hN_f; omega) (Nat.le_refl _) hS hA.2.1 hF hV (fun j x hx => by simp at hx) (fun j x _ hq => hA.2.2 j x hq)
    refine ⟨M', ?_, r2, r3, r4⟩
    unfold m_X0_takePart_l2
    have h8 : ¬ ((8 : Nat) : Int) < 8 := by omega
    simp (disch := omega) only [ji1, ji2, ji3, ji4, ji5, ji6, ji7, ji8, ji9, ji10, ji11, ji12, ji13, ji14, ji15, ji16, ji19, ji20, ji24, ji31, ji32, ji39, ji45, ji48, ji57, ji58, ji59, ji60, ji97, ji100, ji119, ji120, ji122, ji144, ji200, ji226, ji240, ji255, ji300, ji366, ji400, ji500, ji1000, jI_z, ↓jI_m1, jI_add, jI_sub, jI_mul, jI_lt, h8, if_false]
    exact r1
  | succ d ih =>
    intro i n M hi hn hS hA hF hV
    obtain ⟨n, rfl⟩ : ∃ k, n = k + 1 := ⟨n - 1, by omega⟩
    have hab : a = b ∨ a + 7 ≤ b ∨ b + 7 ≤ a := by
      by_cases hab : a = b
      · exact Or.inl hab
      · exact Or.inr (isB_far ha hb hab)
    have e : gA M (a + 1) i = c.1 i := hA.1 i (by omega)
    obtain ⟨M', r1, r2, r3, r4⟩ := ih (i + 1) n (sA M (b + 1) i (c.1 i)) (by omega) (by omega)
      (fun k hk => by
        rw [gA_sA]
        by_cases hki : k = i
        · subst hki; rw [if_pos ⟨rfl, rfl⟩]
        · rw [if_neg (by omega)]; exact hS k (by omega))
      ⟨fun k hk => by
          rw [gA_sA]
          by_cases hki : a + 1 = b + 1 ∧ k = i
          · rw [if_pos hki, hki.2]
          · rw [if_neg hki]; exact hA.1 k hk,
        by rw [gI_sA]; exact hA.2.1,
        fun j x hx => by
          rw [gA_sA, gA_sA, gA_sA, if_neg (by omega), if_neg (by omega), if_neg (by omega)]; exact hA.2.2 j x hx⟩
      (hF.trans (Fr.sA (by omega))) (fun k => by rw [gV_sA]; exact hV k)
    refine ⟨M', ?_, r2, r3, r4⟩
    have h8 : (i : Int) < 8 := by omega
    have ej' : (i : Int) + 1 = ((i + 1 : Nat) : Int) := by omega
    unfold m_X0_takePart_l2
    simp (disch := omega) only [ji1, ji2, ji3, ji4, ji5, ji6, ji7, ji8, ji9, ji10, ji11, ji12, ji13, ji14, ji15, ji16, ji19, ji20, ji24, ji31, ji32, ji39, ji45, ji48, ji57, ji58, ji59, ji60, ji97, ji100, ji119, ji120, ji122, ji144, ji200, ji226, ji240, ji255, ji300, ji366, ji400, ji500, ji1000, jI_z, ↓jI_m1, jI_add, jI_sub, jI_mul, jI_lt, ↓Bg0 ha, ↓Bg1 ha, ↓Bg2 ha, ↓Bg3 ha, ↓Bg5 ha, ↓Bg4 ha, Bw4 ha, ↓Bv ha, Ba1 ha, Bu1 ha, Ba2 ha, Bu2 ha, Ba3 ha, Bu3 ha, Ba4 ha, Bu4 ha, ↓Bg0 hb, ↓Bg1 hb, ↓Bg2 hb, ↓Bg3 hb, ↓Bg5 hb, ↓Bg4 hb, Bw4 hb, ↓Bv hb, Ba1 hb, Bu1 hb, Ba2 hb, Bu2 hb, Ba3 hb, Bu3 hb, Ba4 hb, Bu4 hb, h8, if_true, ej', Int.toNat_natCast, e]
    exact r1
theorem X0_tp {z a b : Nat} {M : hM} {c : hCf} {w : Int32} {p : Nat → Bool} (ha : isB a = true) (hb : isB b = true) (hA : BR M a c) (hc : okC c) (hw : bits w p) :
    ∃ M', m_X0_takePart (hp S z M) (z + b) (z + a) w = some ((), hp S z M') ∧ BR M' b (c.1, prt p c.2 0) ∧ Fr b (b + 5) M M' ∧ Vr M M' := by
  unfold m_X0_takePart
  exact X0_tp1 ha hb hc hw 8 0 hN_f M (by omega) (by unfold hN_f; omega) (by omega) hA Fr.rfl' Vr.rfl'


variable {S : hSh}
/-! .. what changes a Bench. -/
theorem X0_part {z b : Nat} {M : hM} {c : hCf} {i : Nat} {x : hF} {p : Int} (hb : isB b = true) (h : BR M b c) (hc : okC c) (hx : c.2[i]? = some x) (h0 : 0 ≤ p) (h2 : p ≤ 2) : m_X0_faultPart (hp S z M) (z + b) (jI i) (jI p) = some (jI (if p = 0 then x.1 else if p = 1 then x.2.1 else x.2.2), hp S z M) := by
  have hi' : i < c.2.length := (List.getElem?_eq_some_iff.mp hx).1
  have hlen := hc.1
  obtain ⟨e1, e2, e3⟩ := h.2.2 i x hx
  have e : gI M b 4 = c.2.length := h.2.1
  have h10 : (i : Int) < 10 := by omega
  have hil : (i : Int) < c.2.length := by omega
  unfold m_X0_faultPart
  rw [if_neg (jI_nonneg (by omega) (by omega))]
  simp (disch := omega) only [ji1, ji2, ji3, ji4, ji5, ji6, ji7, ji8, ji9, ji10, ji11, ji12, ji13, ji14, ji15, ji16, ji19, ji20, ji24, ji31, ji32, ji39, ji45, ji48, ji57, ji58, ji59, ji60, ji97, ji100, ji119, ji120, ji122, ji144, ji200, ji226, ji240, ji255, ji300, ji366, ji400, ji500, ji1000, jI_z, ↓jI_m1, jI_add, jI_sub, jI_mul, jI_lt, jI_eq, ↓Bg0 hb, ↓Bg1 hb, ↓Bg2 hb, ↓Bg3 hb, ↓Bg5 hb, ↓Bg4 hb, Bw4 hb, ↓Bv hb, Ba1 hb, Bu1 hb, Ba2 hb, Bu2 hb, Ba3 hb, Bu3 hb, Ba4 hb, Bu4 hb, h10, if_true, e, hil, Int.toNat_natCast, e1, e2, e3]
  by_cases p0 : p = 0
  · simp only [if_pos p0]
  · by_cases p1 : p = 1
    · simp only [if_neg p0, if_pos p1]
    · simp only [if_neg p0, if_neg p1]
theorem X0_chs {z b : Nat} {M : hM} {c : hCf} {k v : Int} (hb : isB b = true) (h : BR M b c) (h0 : 0 ≤ k) (h1 : k < 8) : ∃ M', m_X0_changeSetting (hp S z M) (z + b) (jI k) (jI v) = some ((), hp S z M') ∧ BR M' b (fun j => if j = k.toNat then v else c.1 j, c.2) ∧ Fr b (b + 5) M M' ∧ Vr M M' := by
  refine ⟨sA M (b + 1) k.toNat v, ?_, ⟨fun j hj => ?_, ?_, fun i x hx => ?_⟩, Fr.sA (by omega), fun _ => gV_sA⟩
  · unfold m_X0_changeSetting
    rw [if_neg (jI_nonneg h0 (by omega))]
    simp (disch := omega) only [ji1, ji2, ji3, ji4, ji5, ji6, ji7, ji8, ji9, ji10, ji11, ji12, ji13, ji14, ji15, ji16, ji19, ji20, ji24, ji31, ji32, ji39, ji45, ji48, ji57, ji58, ji59, ji60, ji97, ji100, ji119, ji120, ji122, ji144, ji200, ji226, ji240, ji255, ji300, ji366, ji400, ji500, ji1000, jI_z, ↓jI_m1, jI_add, jI_sub, jI_mul, jI_lt, ↓Bg0 hb, ↓Bg1 hb, ↓Bg2 hb, ↓Bg3 hb, ↓Bg5 hb, ↓Bg4 hb, Bw4 hb, ↓Bv hb, Ba1 hb, Bu1 hb, Ba2 hb, Bu2 hb, Ba3 hb, Bu3 hb, Ba4 hb, Bu4 hb, h1, if_true]
  · rw [gA_sA]; by_cases hjk : j = k.toNat
    · simp only [hjk, and_self, if_true]
    · simp only [hjk, and_false, if_false]; exact h.1 j hj
  · rw [gI_sA]; exact h.2.1
  · rw [gA_sA, gA_sA, gA_sA, if_neg (by omega), if_neg (by omega), if_neg (by omega)]; exact h.2.2 i x hx
theorem X0_cha {z b : Nat} {M : hM} {c : hCf} {i : Nat} {v : Int} (hb : isB b = true) (h : BR M b c) (hc : okC c) (hi : i < c.2.length) : ∃ M', m_X0_changeAmount (hp S z M) (z + b) (jI i) (jI v) = some ((), hp S z M') ∧ BR M' b (c.1, c.2.modify i (fun x => (x.1, x.2.1, v))) ∧ Fr b (b + 5) M M' ∧ Vr M M' := by
  have hlen := hc.1
  have e : gI M b 4 = c.2.length := h.2.1
  have h10 : (i : Int) < 10 := by omega
  have hil : (i : Int) < c.2.length := by omega
  refine ⟨sA M (b + 4) i v, ?_, ⟨fun j hj => ?_, ?_, fun j x hx => ?_⟩, Fr.sA (by omega), fun _ => gV_sA⟩
  · unfold m_X0_changeAmount
    rw [if_neg (jI_nonneg (by omega) (by omega))]
    simp (disch := omega) only [ji1, ji2, ji3, ji4, ji5, ji6, ji7, ji8, ji9, ji10, ji11, ji12, ji13, ji14, ji15, ji16, ji19, ji20, ji24, ji31, ji32, ji39, ji45, ji48, ji57, ji58, ji59, ji60, ji97, ji100, ji119, ji120, ji122, ji144, ji200, ji226, ji240, ji255, ji300, ji366, ji400, ji500, ji1000, jI_z, ↓jI_m1, jI_add, jI_sub, jI_mul, jI_lt, ↓Bg0 hb, ↓Bg1 hb, ↓Bg2 hb, ↓Bg3 hb, ↓Bg5 hb, ↓Bg4 hb, Bw4 hb, ↓Bv hb, Ba1 hb, Bu1 hb, Ba2 hb, Bu2 hb, Ba3 hb, Bu3 hb, Ba4 hb, Bu4 hb, h10, if_true, e, hil, Int.toNat_natCast]
  · rw [gA_sA, if_neg (by omega)]; exact h.1 j hj
  · rw [gI_sA]; simp only [List.length_modify]; exact h.2.1
  · simp only [List.getElem?_modify] at hx
    rw [gA_sA, gA_sA, gA_sA, if_neg (by omega), if_neg (by omega)]
    cases hq : c.2[j]? with
    | none => rw [hq] at hx; simp at hx
    | some y =>
      rw [hq] at hx
      obtain ⟨q1, q2, q3⟩ := h.2.2 j y hq
      by_cases hji : i = j
      · subst hji; simp at hx; subst hx; simp only [and_self, if_true]; exact ⟨q1, q2, trivial⟩
      · simp [hji] at hx
        subst hx
        rw [if_neg (by omega)]; exact ⟨q1, q2, q3⟩
theorem X0_delA {z b : Nat} {M : hM} {c : hCf} (hb : isB b = true) (h : BR M b c) : ∃ M', m_X0_deleteAll (hp S z M) (z + b) = some ((), hp S z M') ∧ BR M' b (c.1, []) ∧ Fr b (b + 5) M M' ∧ Vr M M' := by
  refine ⟨sI M b 4 0, ?_, ⟨fun j hj => ?_, ?_, fun j x hx => ?_⟩, Fr.sI (by omega), fun _ => gV_sI⟩
  · unfold m_X0_deleteAll
    simp (disch := omega) only [ji1, ji2, ji3, ji4, ji5, ji6, ji7, ji8, ji9, ji10, ji11, ji12, ji13, ji14, ji15, ji16, ji19, ji20, ji24, ji31, ji32, ji39, ji45, ji48, ji57, ji58, ji59, ji60, ji97, ji100, ji119, ji120, ji122, ji144, ji200, ji226, ji240, ji255, ji300, ji366, ji400, ji500, ji1000, jI_z, ↓jI_m1, jI_add, jI_sub, jI_mul, ↓Bg0 hb, ↓Bg1 hb, ↓Bg2 hb, ↓Bg3 hb, ↓Bg5 hb, ↓Bg4 hb, Bw4 hb, ↓Bv hb, Ba1 hb, Bu1 hb, Ba2 hb, Bu2 hb, Ba3 hb, Bu3 hb, Ba4 hb, Bu4 hb]
  · rw [gA_sI]; exact h.1 j hj
  · rw [gI_sI, if_pos ⟨rfl, rfl⟩]; rfl
  · simp at hx
/-- the place of a fault: behind the last one that comes before it -/
def plc (kd nm : Int) : List hF → Nat → Nat → Nat
  | [], _, p => p
  | x :: t, i, p => if x.2.1 < nm ∨ (x.2.1 = nm ∧ x.1 < kd) then plc kd nm t (i + 1) (i + 1) else plc kd nm t (i + 1) p
theorem plc_le {kd nm : Int} : ∀ (l : List hF) (i p : Nat), p ≤ i → plc kd nm l i p ≤ i + l.length := by
  intro l
  induction l with
  | nil => intro i p h; simpa [plc] using h
  | cons x t ih =>
    intro i p h
    simp only [plc, List.length_cons]
    split
    · have := ih (i + 1) (i + 1) (Nat.le_refl _); omega
    · have := ih (i + 1) p (by omega); omega
def FA (M : hM) (b : Nat) (l : List hF) : Prop := ∀ i x, l[i]? = some x → gA M (b + 2) i = x.1 ∧ gA M (b + 3) i = x.2.1 ∧ gA M (b + 4) i = x.2.2
theorem X0_ins2 {z b : Nat} {M0 : hM} {c : hCf} {kd nm am : Int} {p : Nat} (hb : isB b = true) (hlen : c.2.length < 10) (hp' : p ≤ c.2.length) : ∀ (d j n : Nat) (M : hM), j = p + d → d < n → j ≤ c.2.length → (∀ k, k < 8 → gA M (b + 1) k = c.1 k) → gI M b 4 = c.2.length → Fr b (b + 5) M0 M → Vr M0 M →
    (∀ i x, i < j → c.2[i]? = some x → gA M (b + 2) i = x.1 ∧ gA M (b + 3) i = x.2.1 ∧ gA M (b + 4) i = x.2.2) →
    (∀ i x, j ≤ i → c.2[i]? = some x → gA M (b + 2) (i + 1) = x.1 ∧ gA M (b + 3) (i + 1) = x.2.1 ∧ gA M (b + 4) (i + 1) = x.2.2) →
    ∃ M', m_X0_insert_l84 (z + b) (jI kd) (jI nm) (jI am) n (hp S z M) (jI p) (jI j) = some (jI p, hp S z M') ∧ BR M' b (c.1, c.2.insertIdx p (kd, nm, am)) ∧ Fr b (b + 5) M0 M' ∧ Vr M0 M' := by
  intro d
  induction d with
  | zero =>
    intro j n M hj hn hjl hS hI hF hV hlo hhi
    obtain ⟨n, rfl⟩ : ∃ k, n = k + 1 := ⟨n - 1, by omega⟩
    have hjp : j = p := by omega
    subst hjp
    refine ⟨sI (sA (sA (sA M (b + 2) j kd) (b + 3) j nm) (b + 4) j am) b 4 (c.2.length + 1), ?_, ⟨fun k hk => ?_, ?_, fun i x hx => ?_⟩, ?_, fun k => ?_⟩
    · unfold m_X0_insert_l84
      have hlt : ¬ (j : Int) < j := by omega
      simp (disch := omega) only [ji1, ji2, ji3, ji4, ji5, ji6, ji7, ji8, ji9, ji10, ji11, ji12, ji13, ji14, ji15, ji16, ji19, ji20, ji24, ji31, ji32, ji39, ji45, ji48, ji57, ji58, ji59, ji60, ji97, ji100, ji119, ji120, ji122, ji144, ji200, ji226, ji240, ji255, ji300, ji366, ji400, ji500, ji1000, jI_z, ↓jI_m1, jI_add, jI_sub, jI_mul, jI_lt, ↓Bg0 hb, ↓Bg1 hb, ↓Bg2 hb, ↓Bg3 hb, ↓Bg5 hb, ↓Bg4 hb, Bw4 hb, ↓Bv hb, Ba1 hb, Bu1 hb, Ba2 hb, Bu2 hb, Ba3 hb, Bu3 hb, Ba4 hb, Bu4 hb, hlt, if_false, Int.toNat_natCast, gI_sA, hI]
    · rw [gA_sI, gA_sA, gA_sA, gA_sA, if_neg (by omega), if_neg (by omega), if_neg (by omega)]; exact hS k hk
    · rw [gI_sI, if_pos ⟨rfl, rfl⟩]
      simp only [List.length_insertIdx]; rw [if_pos (by omega)]; omega
    · simp only [List.getElem?_insertIdx] at hx
      simp only [gA_sI, gA_sA, show b + 2 ≠ b + 3 from by omega, show b + 2 ≠ b + 4 from by omega, show b + 3 ≠ b + 4 from by omega, show b + 3 ≠ b + 2 from by omega, show b + 4 ≠ b + 3 from by omega, show b + 4 ≠ b + 2 from by omega, false_and, if_false, true_and]
      by_cases h1 : i < j
      · rw [if_pos h1] at hx
        rw [if_neg (by omega), if_neg (by omega), if_neg (by omega)]
        exact hlo i x h1 hx
      · rw [if_neg h1] at hx
        by_cases h2 : i = j
        · rw [if_pos h2, if_pos (by omega)] at hx
          simp at hx; subst hx
          rw [if_pos h2, if_pos h2, if_pos h2]; exact ⟨rfl, rfl, rfl⟩
        · rw [if_neg h2] at hx
          rw [if_neg h2, if_neg h2, if_neg h2]
          have := hhi (i - 1) x (by omega) hx
          rwa [show i - 1 + 1 = i from by omega] at this
    · exact hF.trans (((Fr.sA (by omega)).trans (Fr.sA (by omega))).trans ((Fr.sA (by omega)).trans (Fr.sI (by omega))))
    · rw [gV_sI, gV_sA, gV_sA, gV_sA]; exact hV k
  | succ d ih =>
    intro j n M hj hn hjl hS hI hF hV hlo hhi
    obtain ⟨n, rfl⟩ : ∃ k, n = k + 1 := ⟨n - 1, by omega⟩
    obtain ⟨j, rfl⟩ : ∃ k, j = k + 1 := ⟨j - 1, by omega⟩
    have hjl' : j < c.2.length := by omega
    have hx : c.2[j]? = some c.2[j] := List.getElem?_eq_getElem hjl'
    obtain ⟨e1, e2, e3⟩ := hlo j _ (by omega) hx
    obtain ⟨M', r1, r2, r3, r4⟩ := ih j n (sA (sA (sA M (b + 2) (j + 1) c.2[j].1) (b + 3) (j + 1) c.2[j].2.1) (b + 4) (j + 1) c.2[j].2.2) (by omega) (by omega) (by omega)
      (fun k hk => by rw [gA_sA, gA_sA, gA_sA, if_neg (by omega), if_neg (by omega), if_neg (by omega)]; exact hS k hk)
      (by rw [gI_sA, gI_sA, gI_sA]; exact hI)
      (hF.trans (((Fr.sA (by omega)).trans (Fr.sA (by omega))).trans (Fr.sA (by omega))))
      (fun k => by rw [gV_sA, gV_sA, gV_sA]; exact hV k)
      (fun i x hi hq => by
        simp only [gA_sA, show b + 2 ≠ b + 3 from by omega, show b + 2 ≠ b + 4 from by omega, show b + 3 ≠ b + 4 from by omega, show b + 3 ≠ b + 2 from by omega, show b + 4 ≠ b + 3 from by omega, show b + 4 ≠ b + 2 from by omega, false_and, if_false, true_and]
        rw [if_neg (by omega), if_neg (by omega), if_neg (by omega)]
        exact hlo i x (by omega) hq)
      (fun i x hi hq => by
        simp only [gA_sA, show b + 2 ≠ b + 3 from by omega, show b + 2 ≠ b + 4 from by omega, show b + 3 ≠ b + 4 from by omega, show b + 3 ≠ b + 2 from by omega, show b + 4 ≠ b + 3 from by omega, show b + 4 ≠ b + 2 from by omega, false_and, if_false, true_and]
        by_cases hij : i = j
        · subst hij
          rw [hx] at hq; simp only [Option.some.injEq] at hq; subst hq
          rw [if_pos rfl, if_pos rfl, if_pos rfl]; exact ⟨rfl, rfl, rfl⟩
        · rw [if_neg (by omega), if_neg (by omega), if_neg (by omega)]
          exact hhi i x (by omega) hq)
    refine ⟨M', ?_, r2, r3, r4⟩
    unfold m_X0_insert_l84
    have hlt : (p : Int) < ((j + 1 : Nat) : Int) := by omega
    have ej : ((j + 1 : Nat) : Int) - 1 = (j : Int) := by omega
    have ej' : ((j + 1 : Nat) : Int) + -1 = (j : Int) := by omega
    simp (disch := omega) only [ji1, ji2, ji3, ji4, ji5, ji6, ji7, ji8, ji9, ji10, ji11, ji12, ji13, ji14, ji15, ji16, ji19, ji20, ji24, ji31, ji32, ji39, ji45, ji48, ji57, ji58, ji59, ji60, ji97, ji100, ji119, ji120, ji122, ji144, ji200, ji226, ji240, ji255, ji300, ji366, ji400, ji500, ji1000, jI_z, ↓jI_m1, jI_add, jI_sub, jI_mul, jI_lt, ↓Bg0 hb, ↓Bg1 hb, ↓Bg2 hb, ↓Bg3 hb, ↓Bg5 hb, ↓Bg4 hb, Bw4 hb, ↓Bv hb, Ba1 hb, Bu1 hb, Ba2 hb, Bu2 hb, Ba3 hb, Bu3 hb, Ba4 hb, Bu4 hb, hlt, if_true, ej, ej', Int.toNat_natCast, gA_sA, show b + 2 ≠ b + 3 from by omega, show b + 2 ≠ b + 4 from by omega, show b + 3 ≠ b + 4 from by omega, show b + 3 ≠ b + 2 from by omega, show b + 4 ≠ b + 3 from by omega, show b + 4 ≠ b + 2 from by omega, false_and, if_false, e1, e2, e3]
    exact r1
theorem X0_ins1 {z b : Nat} {M : hM} {c : hCf} {kd nm am : Int} (hb : isB b = true) (h : BR M b c) (hc : okC c) (hlen : c.2.length < 10) (hk : okW kd) (hn : okW nm) : ∀ (l : List hF) (i q n : Nat), c.2.drop i = l → l.length < n → i ≤ c.2.length → q ≤ i →
    ∃ M', m_X0_insert_l24 (z + b) (jI kd) (jI nm) (jI am) n (hp S z M) (jI q) (jI i) = some (jI (plc kd nm l i q), hp S z M') ∧ BR M' b (c.1, c.2.insertIdx (plc kd nm l i q) (kd, nm, am)) ∧ Fr b (b + 5) M M' ∧ Vr M M' := by
  obtain ⟨hk0, hk1⟩ := hk
  obtain ⟨hn0, hn1⟩ := hn
  have e : gI M b 4 = c.2.length := h.2.1
  intro l
  induction l with
  | nil =>
    intro i q n hl hn hi hq
    have hi' : c.2.length = i := by have : c.2.length ≤ i := by simpa using hl
                                    omega
    obtain ⟨n, rfl⟩ : ∃ k, n = k + 1 := ⟨n - 1, by simp at hn; omega⟩
    obtain ⟨M', r1, r2, r3, r4⟩ := X0_ins2 (S := S) (z := z) (M0 := M) (kd := kd) (nm := nm) (am := am) (p := q) hb hlen (by omega) (c.2.length - q) c.2.length hN_f M (by omega) (by unfold hN_f; omega) (by omega) h.1 e Fr.rfl' Vr.rfl' (fun j x _ hx => h.2.2 j x hx) (fun j x hj hx => by have := (List.getElem?_eq_some_iff.mp hx).1; omega)
    refine ⟨M', ?_, r2, r3, r4⟩
    unfold m_X0_insert_l24
    have hil : ¬ (i : Int) < c.2.length := by omega
    simp (disch := omega) only [ji1, ji2, ji3, ji4, ji5, ji6, ji7, ji8, ji9, ji10, ji11, ji12, ji13, ji14, ji15, ji16, ji19, ji20, ji24, ji31, ji32, ji39, ji45, ji48, ji57, ji58, ji59, ji60, ji97, ji100, ji119, ji120, ji122, ji144, ji200, ji226, ji240, ji255, ji300, ji366, ji400, ji500, ji1000, jI_z, ↓jI_m1, jI_add, jI_sub, jI_mul, jI_lt, ↓Bg0 hb, ↓Bg1 hb, ↓Bg2 hb, ↓Bg3 hb, ↓Bg5 hb, ↓Bg4 hb, Bw4 hb, ↓Bv hb, Ba1 hb, Bu1 hb, Ba2 hb, Bu2 hb, Ba3 hb, Bu3 hb, Ba4 hb, Bu4 hb, if_false, e, hil]
    exact r1
  | cons x t ih =>
    intro i q n hl hn hi hq
    have hx : c.2[i]? = some x := by
      have := congrArg (fun l => l[0]?) hl
      simpa using this
    have hi' : i < c.2.length := (List.getElem?_eq_some_iff.mp hx).1
    have ht : c.2.drop (i + 1) = t := by
      have := congrArg List.tail hl
      simpa using this
    obtain ⟨n, rfl⟩ : ∃ k, n = k + 1 := ⟨n - 1, by simp at hn; omega⟩
    obtain ⟨e1, e2, e3⟩ := h.2.2 i x hx
    obtain ⟨o1, o2, o3, o4, o5, o6⟩ := hc.at hx
    have IH1 := ih (i + 1) (i + 1) n ht (by simp at hn; omega) (by omega) (by omega)
    have IH2 := ih (i + 1) q n ht (by simp at hn; omega) (by omega) (by omega)
    have ec : ((i + 1 : Nat) : Int) = (i : Int) + 1 := by omega
    rw [ec] at IH1 IH2
    have hil : (i : Int) < c.2.length := by omega
    unfold m_X0_insert_l24
    simp (disch := omega) only [ji1, ji2, ji3, ji4, ji5, ji6, ji7, ji8, ji9, ji10, ji11, ji12, ji13, ji14, ji15, ji16, ji19, ji20, ji24, ji31, ji32, ji39, ji45, ji48, ji57, ji58, ji59, ji60, ji97, ji100, ji119, ji120, ji122, ji144, ji200, ji226, ji240, ji255, ji300, ji366, ji400, ji500, ji1000, jI_z, ↓jI_m1, jI_add, jI_sub, jI_mul, jI_lt, jI_eq, ↓Bg0 hb, ↓Bg1 hb, ↓Bg2 hb, ↓Bg3 hb, ↓Bg5 hb, ↓Bg4 hb, Bw4 hb, ↓Bv hb, Ba1 hb, Bu1 hb, Ba2 hb, Bu2 hb, Ba3 hb, Bu3 hb, Ba4 hb, Bu4 hb, if_true, e, hil, Int.toNat_natCast, e1, e2]
    by_cases g1 : x.2.1 < nm
    · simp only [g1, if_true, plc, true_or]; exact IH1
    · by_cases g2 : x.2.1 = nm
      · by_cases g3 : x.1 < kd
        · simp only [g1, g2, g3, if_true, if_false, plc, false_or, and_self, Int.lt_irrefl]; exact IH1
        · simp only [g1, g2, g3, if_true, if_false, plc, false_or, and_false, Int.lt_irrefl]; exact IH2
      · simp only [g1, g2, if_false, plc, false_or, false_and]; exact IH2
theorem X0_ins {z b : Nat} {M : hM} {c : hCf} {kd nm am : Int} (hb : isB b = true) (h : BR M b c) (hc : okC c) (hlen : c.2.length < 10) (hk : okW kd) (hn : okW nm) :
    ∃ M', m_X0_insert (hp S z M) (z + b) (jI kd) (jI nm) (jI am) = some (jI (plc kd nm c.2 0 0), hp S z M') ∧ BR M' b (c.1, c.2.insertIdx (plc kd nm c.2 0 0) (kd, nm, am)) ∧ Fr b (b + 5) M M' ∧ Vr M M' := by
  obtain ⟨M', r1, r2, r3, r4⟩ := X0_ins1 (S := S) (z := z) (am := am) hb h hc hlen hk hn c.2 0 0 hN_f (by simp) (by unfold hN_f; omega) (by omega) (by omega)
  refine ⟨M', ?_, r2, r3, r4⟩
  have e : gI M b 4 = c.2.length := h.2.1
  have h10 : (c.2.length : Int) < 10 := by omega
  have h00 : ¬ (c.2.length : Int) < 0 := by omega
  unfold m_X0_insert
  simp (disch := omega) only [ji1, ji2, ji3, ji4, ji5, ji6, ji7, ji8, ji9, ji10, ji11, ji12, ji13, ji14, ji15, ji16, ji19, ji20, ji24, ji31, ji32, ji39, ji45, ji48, ji57, ji58, ji59, ji60, ji97, ji100, ji119, ji120, ji122, ji144, ji200, ji226, ji240, ji255, ji300, ji366, ji400, ji500, ji1000, jI_z, ↓jI_m1, jI_add, jI_sub, jI_mul, jI_lt, ↓Bg0 hb, ↓Bg1 hb, ↓Bg2 hb, ↓Bg3 hb, ↓Bg5 hb, ↓Bg4 hb, Bw4 hb, ↓Bv hb, Ba1 hb, Bu1 hb, Ba2 hb, Bu2 hb, Ba3 hb, Bu3 hb, Ba4 hb, Bu4 hb, if_true, if_false, e, h10, h00]
  exact r1


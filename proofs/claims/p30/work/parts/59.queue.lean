variable {S : hSh}
/-! THE LINE of the class: its queues. -/
def Ch (M : hM) (u : Nat) (q : List Nat) : Prop := gA M 24 u = q.length ∧ (∀ (i a b : Nat), q[i]? = some a → q[i + 1]? = some b → gA M 25 a = (b : Int)) ∧ (∀ a : Nat, q[0]? = some a → gA M 22 u = (a : Int)) ∧ (∀ (i a : Nat), q[i]? = some a → i + 1 = q.length → gA M 23 u = (a : Int))
theorem Ch_tail {M : hM} {u a x0 : Nat} {q : List Nat} {Mf : hM} (h : Ch M u q) (hn : q.Nodup) (h24 : gA Mf 24 u = (q.length : Int) + 1) (h23 : gA Mf 23 u = a) (hemp : q = [] → gA Mf 22 u = a) (hne : q ≠ [] → gA Mf 22 u = gA M 22 u) (hl : ∀ i x, q[i]? = some x → i + 1 = q.length → gA Mf 25 x = a ∧ ∀ y, y ≠ x → gA Mf 25 y = gA M 25 y) : Ch Mf u (q ++ [a]) := by
  obtain ⟨c1, c2, c3, c4⟩ := h
  refine ⟨by rw [h24]; simp, fun i x y hx hy => ?_, fun x hx => ?_, fun i x hx hi => ?_⟩
  · have hi1 : i + 1 < (q ++ [a]).length := (List.getElem?_eq_some_iff.mp hy).1
    simp only [List.length_append, List.length_cons, List.length_nil] at hi1
    have hiq : i < q.length := by omega
    rw [List.getElem?_append_left hiq] at hx
    by_cases hil : i + 1 = q.length
    · rw [List.getElem?_append_right (by omega), hil, Nat.sub_self] at hy
      simp only [List.getElem?_cons_zero, Option.some.injEq] at hy
      rw [← hy]; exact (hl i x hx hil).1
    · rw [List.getElem?_append_left (by omega)] at hy
      have hlast : q[q.length - 1]? = some (q[q.length - 1]'(by omega)) := List.getElem?_eq_getElem (by omega)
      have := (hl _ _ hlast (by omega)).2 x (by
        intro e
        have e2 : q[i]? = q[q.length - 1]? := by rw [hx, hlast, e]
        have := (List.getElem?_inj hiq hn).mp e2
        omega)
      rw [this]; exact c2 i x y hx hy
  · by_cases hq : q = []
    · subst hq; simp at hx; rw [← hx]; exact hemp rfl
    · have : 0 < q.length := List.length_pos_iff.mpr hq
      rw [List.getElem?_append_left this] at hx
      rw [hne hq]; exact c3 x hx
  · simp only [List.length_append, List.length_cons, List.length_nil] at hi
    rw [List.getElem?_append_right (by omega), show i - q.length = 0 from by omega] at hx
    simp only [List.getElem?_cons_zero, Option.some.injEq] at hx
    rw [← hx]; exact h23
theorem Ch_other {M Mf : hM} {u : Nat} {q : List Nat} (h : Ch M u q) (h24 : gA Mf 24 u = gA M 24 u) (h23 : gA Mf 23 u = gA M 23 u) (h22 : gA Mf 22 u = gA M 22 u) (h25 : ∀ x ∈ q, gA Mf 25 x = gA M 25 x) : Ch Mf u q := by
  obtain ⟨c1, c2, c3, c4⟩ := h
  exact ⟨by rw [h24, c1], fun i x y hx hy => by rw [h25 x (List.mem_of_getElem? hx)]; exact c2 i x y hx hy, fun x hx => by rw [h22]; exact c3 x hx, fun i x hx hi => by rw [h23]; exact c4 i x hx hi⟩
/-- what a queue's growth leaves as it was -/
def FrQ (M M' : hM) : Prop := (∀ b k, (b ≠ 16 ∨ k ≠ 10) → gI M' b k = gI M b k) ∧ (∀ b k, (b < 22 ∨ 25 < b) → gA M' b k = gA M b k) ∧ Vr M M'
theorem FrQ.trans {M M' M'' : hM} (h : FrQ M M') (h' : FrQ M' M'') : FrQ M M'' := ⟨fun b k hb => (h'.1 b k hb).trans (h.1 b k hb), fun b k hb => (h'.2.1 b k hb).trans (h.2.1 b k hb), h.2.2.trans h'.2.2⟩
theorem X2_queue {z u a : Nat} {M : hM} {Q : Nat → List Nat} (hu : u < 226) (ha : a < 240) (hC : ∀ u', u' < 226 → Ch M u' (Q u')) (hb : ∀ v ∈ Q u, v < 240) (hd : ∀ u', u' < 226 → ∀ v ∈ Q u', v ∈ Q u → u' = u) (hn : (Q u).Nodup) (hq : (Q u).length < 1000) :
    ∃ M', m_X2_queue (hp S z M) (z + 16) (jI u) (jI a) = some ((), hp S z M') ∧ (∀ u', u' < 226 → Ch M' u' (if u' = u then Q u ++ [a] else Q u')) ∧ gI M' 16 10 = gI M 16 10 + 1 ∧ FrQ M M' := by
  have hCu := hC u hu
  have e24 := hCu.1
  have hu' : (u : Int) < 226 := by omega
  have ha' : (a : Int) < 240 := by omega
  have hu0 : ¬ (u : Int) < 0 := by omega
  have ha0 : ¬ (a : Int) < 0 := by omega
  by_cases hq0 : Q u = []
  · refine ⟨sI (sA (sA (sA M 22 u a) 23 u a) 24 u 1) 16 10 (gI M 16 10 + 1), ?_, fun u' hu2 => ?_, by rw [gI_sI, if_pos ⟨rfl, rfl⟩], fun b k hbk => ?_, fun b k hbk => ?_, fun k => by rw [gV_sI, gV_sA, gV_sA, gV_sA]⟩
    · have h0 : gA M 24 u = 0 := by rw [e24, hq0]; rfl
      unfold m_X2_queue
      have h00 : ¬ (0 : Int) < 0 := by omega
      simp (disch := omega) only [ji1, ji2, ji3, ji4, ji5, ji6, ji7, ji8, ji9, ji10, ji11, ji12, ji13, ji14, ji15, ji16, ji19, ji20, ji24, ji31, ji32, ji39, ji45, ji48, ji57, ji58, ji59, ji60, ji97, ji100, ji119, ji120, ji122, ji144, ji200, ji226, ji240, ji255, ji300, ji366, ji400, ji500, ji1000, jI_z, ↓jI_m1, jI_add, jI_sub, jI_mul, jI_lt, ↓hg16_0, ↓hg16_1, ↓hg16_2, ↓hg16_3, ↓hg16_4, ↓hg16_5, hw16_5, ↓hg16_6, ↓hg16_7, ↓hg16_8, ↓hg16_9, ↓hg16_10, hw16_10, ↓hv16, ↓hx16, ha17, hu17, ↓hl17, ha18, hu18, ↓hl18, ha19, hu19, ↓hl19, ha20, hu20, ↓hl20, ha21, hu21, ↓hl21, ha22, hu22, ↓hl22, ha23, hu23, ↓hl23, ha24, hu24, ↓hl24, ha25, hu25, ↓hl25, hu', hu0, ha0, ha', if_true, Int.toNat_natCast, h0, h00, if_false]
      unfold m_X2_queue_j71
      simp (disch := omega) only [ji1, ji2, ji3, ji4, ji5, ji6, ji7, ji8, ji9, ji10, ji11, ji12, ji13, ji14, ji15, ji16, ji19, ji20, ji24, ji31, ji32, ji39, ji45, ji48, ji57, ji58, ji59, ji60, ji97, ji100, ji119, ji120, ji122, ji144, ji200, ji226, ji240, ji255, ji300, ji366, ji400, ji500, ji1000, jI_z, ↓jI_m1, jI_add, jI_sub, jI_mul, jI_lt, ↓hg16_0, ↓hg16_1, ↓hg16_2, ↓hg16_3, ↓hg16_4, ↓hg16_5, hw16_5, ↓hg16_6, ↓hg16_7, ↓hg16_8, ↓hg16_9, ↓hg16_10, hw16_10, ↓hv16, ↓hx16, ha17, hu17, ↓hl17, ha18, hu18, ↓hl18, ha19, hu19, ↓hl19, ha20, hu20, ↓hl20, ha21, hu21, ↓hl21, ha22, hu22, ↓hl22, ha23, hu23, ↓hl23, ha24, hu24, ↓hl24, ha25, hu25, ↓hl25, if_true, Int.toNat_natCast, gA_sA, gI_sA, h0, show (24 : Nat) ≠ 23 from by decide, show (24 : Nat) ≠ 22 from by decide, false_and, if_false, Int.zero_add]
    · by_cases huu : u' = u
      · subst huu; rw [if_pos rfl]
        refine Ch_tail (x0 := 0) hCu hn ?_ ?_ (fun _ => ?_) (fun h => absurd hq0 h) (fun i x hx => by rw [hq0] at hx; simp at hx)
        · rw [gA_sI, gA_sA, if_pos ⟨rfl, rfl⟩, hq0]; rfl
        · simp [gA_sI, gA_sA]
        · simp [gA_sI, gA_sA]
      · rw [if_neg huu]
        exact Ch_other (hC u' hu2) (by simp [gA_sI, gA_sA, huu]) (by simp [gA_sI, gA_sA, huu]) (by simp [gA_sI, gA_sA, huu]) (fun x _ => by simp [gA_sI, gA_sA])
    · rw [gI_sI, if_neg (by omega), gI_sA, gI_sA, gI_sA]
    · rw [gA_sI, gA_sA, if_neg (by omega), gA_sA, if_neg (by omega), gA_sA, if_neg (by omega)]
  · have hpos : 0 < (Q u).length := List.length_pos_iff.mpr hq0
    have hlast : (Q u)[(Q u).length - 1]? = some ((Q u)[(Q u).length - 1]'(by omega)) := List.getElem?_eq_getElem (by omega)
    generalize hlv : (Q u)[(Q u).length - 1]'(by omega) = l at hlast
    have hl240 : l < 240 := hb l (List.mem_of_getElem? hlast)
    have h23 := hCu.2.2.2 _ l hlast (by omega)
    refine ⟨sI (sA (sA (sA M 25 l a) 23 u a) 24 u (((Q u).length : Int) + 1)) 16 10 (gI M 16 10 + 1), ?_, fun u' hu2 => ?_, by rw [gI_sI, if_pos ⟨rfl, rfl⟩], fun b k hbk => ?_, fun b k hbk => ?_, fun k => by rw [gV_sI, gV_sA, gV_sA, gV_sA]⟩
    · unfold m_X2_queue
      have h00 : (0 : Int) < (Q u).length := by omega
      have h01 : ¬ (l : Int) < 0 := by omega
      have h02 : (l : Int) < 240 := by omega
      simp (disch := omega) only [ji1, ji2, ji3, ji4, ji5, ji6, ji7, ji8, ji9, ji10, ji11, ji12, ji13, ji14, ji15, ji16, ji19, ji20, ji24, ji31, ji32, ji39, ji45, ji48, ji57, ji58, ji59, ji60, ji97, ji100, ji119, ji120, ji122, ji144, ji200, ji226, ji240, ji255, ji300, ji366, ji400, ji500, ji1000, jI_z, ↓jI_m1, jI_add, jI_sub, jI_mul, jI_lt, ↓hg16_0, ↓hg16_1, ↓hg16_2, ↓hg16_3, ↓hg16_4, ↓hg16_5, hw16_5, ↓hg16_6, ↓hg16_7, ↓hg16_8, ↓hg16_9, ↓hg16_10, hw16_10, ↓hv16, ↓hx16, ha17, hu17, ↓hl17, ha18, hu18, ↓hl18, ha19, hu19, ↓hl19, ha20, hu20, ↓hl20, ha21, hu21, ↓hl21, ha22, hu22, ↓hl22, ha23, hu23, ↓hl23, ha24, hu24, ↓hl24, ha25, hu25, ↓hl25, hu', hu0, ha0, ha', if_true, Int.toNat_natCast, e24, h23, h00, h01, h02, if_false]
      unfold m_X2_queue_j71
      simp (disch := omega) only [ji1, ji2, ji3, ji4, ji5, ji6, ji7, ji8, ji9, ji10, ji11, ji12, ji13, ji14, ji15, ji16, ji19, ji20, ji24, ji31, ji32, ji39, ji45, ji48, ji57, ji58, ji59, ji60, ji97, ji100, ji119, ji120, ji122, ji144, ji200, ji226, ji240, ji255, ji300, ji366, ji400, ji500, ji1000, jI_z, ↓jI_m1, jI_add, jI_sub, jI_mul, jI_lt, ↓hg16_0, ↓hg16_1, ↓hg16_2, ↓hg16_3, ↓hg16_4, ↓hg16_5, hw16_5, ↓hg16_6, ↓hg16_7, ↓hg16_8, ↓hg16_9, ↓hg16_10, hw16_10, ↓hv16, ↓hx16, ha17, hu17, ↓hl17, ha18, hu18, ↓hl18, ha19, hu19, ↓hl19, ha20, hu20, ↓hl20, ha21, hu21, ↓hl21, ha22, hu22, ↓hl22, ha23, hu23, ↓hl23, ha24, hu24, ↓hl24, ha25, hu25, ↓hl25, if_true, Int.toNat_natCast, gA_sA, gI_sA, e24, show (24 : Nat) ≠ 23 from by decide, show (24 : Nat) ≠ 25 from by decide, false_and, if_false]
    · by_cases huu : u' = u
      · subst huu; rw [if_pos rfl]
        refine Ch_tail (x0 := 0) hCu hn ?_ ?_ (fun h => absurd h hq0) (fun _ => ?_) (fun i x hx hi => ?_)
        · simp [gA_sI, gA_sA]
        · simp [gA_sI, gA_sA]
        · simp [gA_sI, gA_sA]
        · have : x = l := by
            have e1 : i = (Q u').length - 1 := by omega
            rw [e1, hlast] at hx; simpa using hx.symm
          subst this
          refine ⟨by simp [gA_sI, gA_sA], fun y hy => by simp [gA_sI, gA_sA, hy]⟩
      · rw [if_neg huu]
        exact Ch_other (hC u' hu2) (by simp [gA_sI, gA_sA, huu]) (by simp [gA_sI, gA_sA, huu]) (by simp [gA_sI, gA_sA]) (fun x hx => by
          have : x ≠ l := by
            intro e; subst e
            exact huu (hd u' hu2 x hx (List.mem_of_getElem? hlast))
          simp [gA_sI, gA_sA, this])
    · rw [gI_sI, if_neg (by omega), gI_sA, gI_sA, gI_sA]
    · rw [gA_sI, gA_sA, if_neg (by omega), gA_sA, if_neg (by omega), gA_sA, if_neg (by omega)]
/-- the arrivals of a tick, in their order -/
def qL (u : Int) : List hT → Nat → List Nat
  | [], _ => []
  | x :: l, k => (if x.2.2.2.1 = u then [2 * k] else []) ++ ((if x.2.2.2.2 = u then [2 * k + 1] else []) ++ qL u l (k + 1))
theorem qL_app {u : Int} : ∀ (T ex : List hT) (k : Nat), qL u (T ++ ex) k = qL u T k ++ qL u ex (k + T.length) := by
  intro T
  induction T with
  | nil => intro ex k; simp [qL]
  | cons x l ih =>
    intro ex k
    simp only [List.cons_append, qL, List.length_cons, List.append_assoc]
    rw [ih, show k + 1 + l.length = k + (l.length + 1) from by omega]
theorem qL_mem {u : Int} {a : Nat} : ∀ (T : List hT) (k : Nat), a ∈ qL u T k → ∃ i x, T[i]? = some x ∧ ((a = 2 * (k + i) ∧ x.2.2.2.1 = u) ∨ (a = 2 * (k + i) + 1 ∧ x.2.2.2.2 = u)) := by
  intro T
  induction T with
  | nil => intro k h; simp [qL] at h
  | cons x l ih =>
    intro k h
    simp only [qL, List.mem_append] at h
    rcases h with h | h | h
    · by_cases g : x.2.2.2.1 = u
      · rw [if_pos g] at h; simp only [List.mem_singleton] at h
        exact ⟨0, x, rfl, Or.inl ⟨by omega, g⟩⟩
      · rw [if_neg g] at h; simp at h
    · by_cases g : x.2.2.2.2 = u
      · rw [if_pos g] at h; simp only [List.mem_singleton] at h
        exact ⟨0, x, rfl, Or.inr ⟨by omega, g⟩⟩
      · rw [if_neg g] at h; simp at h
    · obtain ⟨i, y, h1, h2⟩ := ih (k + 1) h
      exact ⟨i + 1, y, by simpa using h1, by omega⟩
theorem qL_nd {u : Int} : ∀ (T : List hT) (k : Nat), (qL u T k).Nodup := by
  intro T
  induction T with
  | nil => intro k; simp [qL]
  | cons x l ih =>
    intro k
    simp only [qL]
    have hb : ∀ a ∈ qL u l (k + 1), 2 * k + 2 ≤ a := by
      intro a ha
      obtain ⟨i, y, _, h⟩ := qL_mem l (k + 1) ha
      omega
    rw [List.nodup_append, List.nodup_append]
    refine ⟨by split <;> simp, ⟨by split <;> simp, ih (k + 1), fun a ha b hb' => ?_⟩, fun a ha b hb' => ?_⟩
    · have := hb b hb'
      split at ha
      · simp only [List.mem_singleton] at ha; omega
      · simp at ha
    · have hab : a = 2 * k := by
        split at ha
        · simpa using ha
        · simp at ha
      rcases List.mem_append.mp hb' with hb' | hb'
      · split at hb'
        · simp only [List.mem_singleton] at hb'; omega
        · simp at hb'
      · have := hb b hb'; omega
theorem qL_len {u : Int} : ∀ (T : List hT) (k : Nat), (qL u T k).length ≤ 2 * T.length := by
  intro T
  induction T with
  | nil => intro k; simp [qL]
  | cons x l ih =>
    intro k
    simp only [qL, List.length_append, List.length_cons]
    have := ih (k + 1)
    have h1 : (if x.2.2.2.1 = u then [2 * k] else []).length ≤ 1 := by split <;> simp
    have h2 : (if x.2.2.2.2 = u then [2 * k + 1] else []).length ≤ 1 := by split <;> simp
    omega
/-- the line holds the transmissions T -/
def LT (M : hM) (T : List hT) : Prop := gI M 16 5 = T.length ∧ ∀ k x, T[k]? = some x → gA M 17 k = x.1 ∧ gA M 18 k = x.2.1 ∧ gA M 19 k = x.2.2.1 ∧ gA M 20 k = x.2.2.2.1 ∧ gA M 21 k = x.2.2.2.2
def LQ (M : hM) (T : List hT) : Prop := ∀ u, u < 226 → Ch M u (qL u T 0)


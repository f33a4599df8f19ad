/-! .. counting arrivals. -/
def cnt (f : Nat → hT → Nat) : List hT → Nat → Nat
  | [], _ => 0
  | x :: l, k => f k x + cnt f l (k + 1)
theorem cnt_app {f : Nat → hT → Nat} : ∀ (T ex : List hT) (k : Nat), cnt f (T ++ ex) k = cnt f T k + cnt f ex (k + T.length) := by
  intro T
  induction T with
  | nil => intro ex k; simp [cnt]
  | cons x l ih =>
    intro ex k
    simp only [List.cons_append, cnt, List.length_cons]
    rw [ih, show k + 1 + l.length = k + (l.length + 1) from by omega]; omega
theorem cnt_cg {f g : Nat → hT → Nat} : ∀ (T : List hT) (k : Nat), (∀ i x, T[i]? = some x → f (k + i) x = g (k + i) x) → cnt f T k = cnt g T k := by
  intro T
  induction T with
  | nil => intro k _; rfl
  | cons x l ih =>
    intro k h
    simp only [cnt]
    rw [ih (k + 1) (fun i y hy => by have := h (i + 1) y (by simpa using hy); rwa [show k + (i + 1) = k + 1 + i from by omega] at this)]
    have := h 0 x (by simp)
    simp only [Nat.add_zero] at this; omega
theorem cnt_st {f g : Nat → hT → Nat} {j : Nat} {y : hT} {d : Nat} : ∀ (T : List hT) (k : Nat), T[j - k]? = some y → k ≤ j → f j y = g j y + d → (∀ i x, T[i]? = some x → k + i ≠ j → f (k + i) x = g (k + i) x) → cnt f T k = cnt g T k + d := by
  intro T
  induction T with
  | nil => intro k h; simp at h
  | cons x l ih =>
    intro k hj hk hd h
    simp only [cnt]
    by_cases hkj : k = j
    · subst hkj
      have hxy : x = y := by simpa using hj
      subst hxy
      have e := cnt_cg (f := f) (g := g) l (k + 1) (fun i z hz => by
        have := h (i + 1) z (by simpa using hz) (by omega)
        rwa [show k + (i + 1) = k + 1 + i from by omega] at this)
      rw [e]; omega
    · have e0 := h 0 x (by simp) (by omega)
      simp only [Nat.add_zero] at e0
      have := ih (k + 1) (by rw [show j - k = (j - (k + 1)) + 1 from by omega] at hj; simpa using hj) (by omega) hd (fun i z hz hi => by have := h (i + 1) z (by simpa using hz) (by omega); rwa [show k + (i + 1) = k + 1 + i from by omega] at this)
      omega
theorem cnt_le {f : Nat → hT → Nat} {d : Nat} (h : ∀ k x, f k x ≤ d) : ∀ (T : List hT) (k : Nat), cnt f T k ≤ d * T.length := by
  intro T
  induction T with
  | nil => intro k; simp [cnt]
  | cons x l ih =>
    intro k
    simp only [cnt, List.length_cons]
    have h1 := h k x
    have h2 := ih (k + 1)
    rw [Nat.mul_add]; omega
theorem cnt_0 {f : Nat → hT → Nat} : ∀ (T : List hT) (k : Nat), cnt f T k = 0 ↔ ∀ i x, T[i]? = some x → f (k + i) x = 0 := by
  intro T
  induction T with
  | nil => intro k; simp [cnt]
  | cons x l ih =>
    intro k
    simp only [cnt]
    constructor
    · intro h i y hy
      cases i with
      | zero => simp at hy; subst hy; simp only [Nat.add_zero]; omega
      | succ i => have := (ih (k + 1)).mp (by omega) i y (by simpa using hy); rwa [show k + (i + 1) = k + 1 + i from by omega]
    · intro h
      have h0 := h 0 x (by simp)
      have h1 := (ih (k + 1)).mpr (fun i y hy => by have := h (i + 1) y (by simpa using hy); rwa [show k + (i + 1) = k + 1 + i from by omega] at this)
      simp only [Nat.add_zero] at h0; omega
/-- handled, pending at tick t once the transmissions before j are handled -/
def hd1 (t : Int) (j k : Nat) (a : Int) : Nat := if 0 ≤ a ∧ (a < t ∨ (a = t ∧ k < j)) then 1 else 0
def pd1 (t : Int) (j k : Nat) (a : Int) : Nat := if 0 ≤ a ∧ ¬ (a < t ∨ (a = t ∧ k < j)) then 1 else 0
def hd2 (t : Int) (j k : Nat) (x : hT) : Nat := hd1 t j k x.2.2.2.1 + hd1 t j k x.2.2.2.2
def pd2 (t : Int) (j k : Nat) (x : hT) : Nat := pd1 t j k x.2.2.2.1 + pd1 t j k x.2.2.2.2
def hnd (t : Int) (j : Nat) (T : List hT) : Nat := cnt (hd2 t j) T 0
def pnd (t : Int) (j : Nat) (T : List hT) : Nat := cnt (pd2 t j) T 0
theorem hnd_le {t : Int} {j : Nat} {T : List hT} : hnd t j T ≤ 2 * T.length := cnt_le (fun k x => by unfold hd2 hd1; split <;> split <;> omega) T 0
theorem hd2_z {t : Int} {j k : Nat} {x : hT} (h1 : x.2.2.2.1 = -1 ∨ t < x.2.2.2.1) (h2 : x.2.2.2.2 = -1 ∨ t < x.2.2.2.2) : hd2 t j k x = 0 := by
  unfold hd2 hd1; rw [if_neg (by omega), if_neg (by omega)]
theorem hnd_x {t : Int} {j : Nat} {s s' : hS} (h : zX t s s') : hnd t j s'.1 = hnd t j s.1 := by
  obtain ⟨ex, e, g⟩ := h
  unfold hnd
  rw [e, cnt_app, (cnt_0 ex _).mpr (fun i x hx => ?_), Nat.add_zero]
  obtain ⟨_, g1, g2⟩ := g x (List.mem_of_getElem? hx)
  exact hd2_z g1 g2
theorem zIs_some {t : Int} {k : Nat} {T : List hT} {x : hT} (h : T[k]? = some x) : zIs t k T = decide (x.2.2.2.1 = t ∨ x.2.2.2.2 = t) := by unfold zIs; rw [h]
theorem okT.one {c : hCf} {t u : Int} {x : hT} (h : okT c t x) (hu : 0 ≤ u) (g : x.2.2.2.1 = u ∨ x.2.2.2.2 = u) (k : Nat) : hd2 u (k + 1) k x = hd2 u k k x + 1 ∧ pd2 u k k x = pd2 u (k + 1) k x + 1 := by
  obtain ⟨o1, o2, o3, o4, o5, o6⟩ := h
  have h3 : 0 ≤ x.2.2.2.1 ∧ (x.2.2.2.2 = -1 ∨ x.2.2.2.2 = x.2.2.2.1 + 1) := by omega
  unfold hd2 pd2 hd1 pd1
  constructor <;> (repeat' split) <;> omega
theorem hd2_o {u : Int} {j k : Nat} {x : hT} (h : k ≠ j) : hd2 u (j + 1) k x = hd2 u j k x ∧ pd2 u (j + 1) k x = pd2 u j k x := by
  unfold hd2 pd2 hd1 pd1
  have e : k < j + 1 ↔ k < j := by omega
  simp only [e, and_self]
theorem hd2_n {u : Int} {k : Nat} {x : hT} (h1 : ¬ x.2.2.2.1 = u) (h2 : ¬ x.2.2.2.2 = u) : hd2 u (k + 1) k x = hd2 u k k x ∧ pd2 u (k + 1) k x = pd2 u k k x := by
  unfold hd2 pd2 hd1 pd1
  simp only [h1, h2, false_and, and_self]
theorem hnd_y {c : hCf} {t : Int} {k : Nat} {s : hS} {x : hT} (h : zI c t s) (ht : 0 ≤ t) (hx : s.1[k]? = some x) (hy : zIs t k s.1 = true) : hnd t (k + 1) s.1 = hnd t k s.1 + 1 ∧ pnd t k s.1 = pnd t (k + 1) s.1 + 1 := by
  rw [zIs_some hx] at hy
  have ho := (h.2.1 x (List.mem_of_getElem? hx)).one ht (by simpa using hy) k
  exact ⟨cnt_st s.1 0 hx (Nat.zero_le _) ho.1 (fun i y _ hi => by rw [Nat.zero_add] at hi ⊢; exact (hd2_o hi).1), cnt_st s.1 0 hx (Nat.zero_le _) ho.2 (fun i y _ hi => by rw [Nat.zero_add] at hi ⊢; exact ((hd2_o hi).2).symm)⟩
theorem hnd_n {t : Int} {k : Nat} {T : List hT} {x : hT} (hx : T[k]? = some x) (hy : ¬ zIs t k T = true) : hnd t (k + 1) T = hnd t k T ∧ pnd t (k + 1) T = pnd t k T := by
  rw [zIs_some hx] at hy
  simp only [decide_eq_true_eq, not_or] at hy
  have := hd2_n (k := k) hy.1 hy.2
  exact ⟨cnt_st (d := 0) T 0 hx (Nat.zero_le _) (by omega) (fun i y _ hi => by rw [Nat.zero_add] at hi ⊢; exact (hd2_o hi).1), cnt_st (d := 0) T 0 hx (Nat.zero_le _) (by omega) (fun i y _ hi => by rw [Nat.zero_add] at hi ⊢; exact (hd2_o hi).2)⟩
/-- the state and the count of deliveries, once the transmissions before j are handled -/
def zJ (c : hCf) (t : Int) (j : Nat) (s : hS) : Prop := zI c t s ∧ s.2.1.length ≤ hnd t j s.1
theorem zJ.lt {c : hCf} {t : Int} {k : Nat} {s : hS} {x : hT} (h : zJ c t k s) (ht : 0 ≤ t) (hx : s.1[k]? = some x) (hy : zIs t k s.1 = true) : s.2.1.length < 240 := by
  have h1 := (hnd_y h.1 ht hx hy).1
  have h2 := hnd_le (t := t) (j := k + 1) (T := s.1)
  have h3 := h.1.1
  have h4 := h.2
  have h5 : s.1.length ≤ 120 := h3
  omega
theorem zJ_hand {c : hCf} {t : Int} {k : Nat} {s : hS} {x : hT} (hc : okC c) (h : zJ c t k s) (ht : 0 ≤ t) (hx : s.1[k]? = some x) (hy : zIs t k s.1 = true) : zJ c t (k + 1) (zHand c t k s) ∧ zX t s (zHand c t k s) := by
  obtain ⟨k1, k2, k3⟩ := zI_hand (k := k) hc h.1 ht
  refine ⟨⟨k1, ?_⟩, k2⟩
  rw [hnd_x k2, (hnd_y h.1 ht hx hy).1]
  have := h.2
  omega
theorem zJ_skip {c : hCf} {t : Int} {k : Nat} {s : hS} {x : hT} (h : zJ c t k s) (hx : s.1[k]? = some x) (hy : ¬ zIs t k s.1 = true) : zJ c t (k + 1) s := ⟨h.1, by rw [(hnd_n hx hy).1]; exact h.2⟩
theorem zJ_arr {c : hCf} {t : Int} (hc : okC c) (ht : 0 ≤ t) : ∀ (n k : Nat) (s : hS), zJ c t k s → k + n ≤ s.1.length → zJ c t (k + n) (zArr c t n k s) ∧ zX t s (zArr c t n k s) := by
  intro n
  induction n with
  | zero => intro k s h _; exact ⟨h, zX.rfl'⟩
  | succ n ih =>
    intro k s h hk
    simp only [zArr]
    have hx : s.1[k]? = some s.1[k] := List.getElem?_eq_getElem (by omega)
    by_cases hy : zIs t k s.1 = true
    · rw [if_pos hy]
      obtain ⟨g1, g2⟩ := zJ_hand hc h ht hx hy
      obtain ⟨q1, q2⟩ := ih (k + 1) _ g1 (by obtain ⟨ex, e, _⟩ := g2; rw [e]; simp only [List.length_append]; omega)
      rw [show k + (n + 1) = k + 1 + n from by omega]
      exact ⟨q1, g2.trans q2⟩
    · rw [if_neg hy]
      obtain ⟨q1, q2⟩ := ih (k + 1) _ (zJ_skip h hx hy) (by omega)
      rw [show k + (n + 1) = k + 1 + n from by omega]
      exact ⟨q1, q2⟩
theorem zJ_turn {c : hCf} {t : Int} {j : Nat} {s : hS} (hc : okC c) (h : zJ c t j s) (ht : 0 ≤ t) : zJ c t j (zTurn c t s) ∧ zX t s (zTurn c t s) := by
  obtain ⟨k1, k2, k3⟩ := zI_turn hc h.1 ht
  exact ⟨⟨k1, by rw [hnd_x k2, k3]; exact h.2⟩, k2⟩
theorem zI.up {c : hCf} {t t' : Int} {s : hS} (h : zI c t s) (ht : t ≤ t') : zI c t' s := by
  obtain ⟨T, O, W, B, N, J, K, C⟩ := s
  obtain ⟨h1, h2, h3, h4, h5, h6, h7, h8, h9⟩ := h
  exact ⟨h1, fun x hx => by obtain ⟨o1, o2, o3, o4, o5, o6⟩ := h2 x hx; exact ⟨o1, by omega, o3, o4, o5, o6⟩, h3, h4, h5, by omega, h7, by omega, h9⟩
theorem zI.st {c : hCf} {t : Int} {s : hS} (hc : okC c) (h : zI c t s) : zI c t (zSt s) := by
  obtain ⟨T, O, W, B, N, J, K, C⟩ := s
  obtain ⟨h1, h2, h3, h4, h5, h6, h7, h8, h9⟩ := h
  refine ⟨h1, h2, h3, h4, h5, h6, h7, h8, fun k => ?_⟩
  show (if k = B.toNat then W k ||| 2 ^ (min 15 O.length) else W k) < 65536
  split
  · have : (2 : Nat) ^ (min 15 O.length) ≤ 2 ^ 15 := Nat.pow_le_pow_right (by omega) (by omega)
    exact Nat.or_lt_two_pow (n := 16) (h9 k) (by omega)
  · exact h9 k
/-- the next tick begins -/
theorem zJ_next {c : hCf} {t : Int} {j : Nat} {s0 s : hS} (hx : zX t s0 s) (hj : s0.1.length ≤ j) (h : zJ c t j s) : zJ c (t + 1) 0 s := by
  refine ⟨h.1.up (by omega), ?_⟩
  have : hnd (t + 1) 0 s.1 = hnd t j s.1 := by
    obtain ⟨ex, e, g⟩ := hx
    unfold hnd
    apply cnt_cg
    intro i x hi
    rw [Nat.zero_add]
    by_cases hil : i < s0.1.length
    · unfold hd2 hd1
      have e1 : ∀ a : Int, (0 ≤ a ∧ (a < t + 1 ∨ (a = t + 1 ∧ i < 0))) = (0 ≤ a ∧ (a < t ∨ (a = t ∧ i < j))) := fun a => by apply propext; omega
      simp only [e1]
    · rw [e, List.getElem?_append_right (by omega)] at hi
      obtain ⟨_, g1, g2⟩ := g x (List.mem_of_getElem? hi)
      unfold hd2 hd1
      rw [if_neg (by omega), if_neg (by omega), if_neg (by omega), if_neg (by omega)]
  rw [this]; exact h.2
theorem zJ_tick {c : hCf} {t : Int} {s : hS} (hc : okC c) (h : zJ c t 0 s) (ht : 0 ≤ t) : zJ c (t + 1) 0 (zTick c t s) := by
  obtain ⟨g1, g2⟩ := zJ_arr hc ht s.1.length 0 s h (by omega)
  obtain ⟨q1, q2⟩ := zJ_turn hc g1 ht
  have := zJ_next (g2.trans q2) (by omega) q1
  unfold zTick
  have h1 := this.1.st hc
  have h2 := this.2
  generalize zTurn c t (zArr c t s.1.length 0 s) = s' at h1 h2
  obtain ⟨T, O, W, B, N, J, K, C⟩ := s'
  exact ⟨h1, h2⟩
theorem zJ_0 {c : hCf} (hc : okC c) : zJ c 0 0 z0 := by
  have hs := hc.s
  refine ⟨⟨by simp [z0], by simp [z0], by simp [z0], by omega, by omega, by omega, by simp [z0], by omega, by simp [z0]⟩, by simp [z0, hnd, cnt]⟩


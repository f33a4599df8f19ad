/-! THE CONSTRUCTORS: a heap as a list of cells. -/
def hL (z : Nat) (cs : List ac_E) : ac_H := fun q => if q < z then none else cs[q - z]?
theorem hL_at {z k : Nat} {cs : List ac_E} : hL z cs (z + k) = cs[k]? := by unfold hL; rw [if_neg (by omega), Nat.add_sub_cancel_left]
theorem hL_0 {z : Nat} {e : ac_E} : ac_up (fun _ => none) z e = hL z [e] := by
  funext q
  unfold ac_up hL
  by_cases hq : q = z
  · subst hq; rw [if_pos rfl, if_neg (by omega), Nat.sub_self]; rfl
  · rw [if_neg hq]
    by_cases hz : q < z
    · rw [if_pos hz]
    · rw [if_neg hz, List.getElem?_eq_none (by simp; omega)]
theorem hL_al {z n : Nat} {cs : List ac_E} {e : ac_E} (h : cs.length = n) : ac_up (hL z cs) (z + n) e = hL z (cs ++ [e]) := by
  funext q
  unfold ac_up hL
  by_cases hq : q = z + n
  · subst hq; rw [if_pos rfl, if_neg (by omega), Nat.add_sub_cancel_left, List.getElem?_append_right (by omega), h, Nat.sub_self]; rfl
  · rw [if_neg hq]
    by_cases hz : q < z
    · rw [if_pos hz, if_pos hz]
    · rw [if_neg hz, if_neg hz]
      by_cases hl : q - z < n
      · rw [List.getElem?_append_left (by omega)]
      · rw [List.getElem?_eq_none (by omega), List.getElem?_eq_none (by simp; omega)]
theorem hL_up {z n : Nat} {cs : List ac_E} {e : ac_E} (h : n < cs.length) : ac_up (hL z cs) (z + n) e = hL z (cs.set n e) := by
  funext q
  unfold ac_up hL
  by_cases hq : q = z + n
  · subst hq; rw [if_pos rfl, if_neg (by omega), Nat.add_sub_cancel_left, List.getElem?_set_self h]
  · rw [if_neg hq]
    by_cases hz : q < z
    · rw [if_pos hz, if_pos hz]
    · rw [if_neg hz, if_neg hz, List.getElem?_set_ne (by omega)]
theorem set_at {A B : List ac_E} {x y : ac_E} {n : Nat} (h : A.length = n) : (A ++ x :: B).set n y = A ++ y :: B := by
  subst h
  rw [List.set_append_right _ _ (Nat.le_refl _), Nat.sub_self]; rfl
theorem get_at {A B : List ac_E} {x : ac_E} {n : Nat} (h : A.length = n) : (A ++ x :: B)[n]? = some x := by
  subst h
  rw [List.getElem?_append_right (Nat.le_refl _), Nat.sub_self]; rfl
theorem hL_al2 {z n : Nat} {A B : List ac_E} {x e : ac_E} (h : A.length + 1 + B.length = n) : ac_up (hL z (A ++ x :: B)) (z + n) e = hL z (A ++ x :: (B ++ [e])) := by
  rw [hL_al (by simp; omega)]; simp
theorem hL_pv {α : Type} {z n c k : Nat} {A B : List ac_E} {vs : List Value} {v : Value} {F : ac_H → Option α} (h : A.length = n) (hk : k < vs.length) : mo_pv (hL z (A ++ .inr (c, vs) :: B)) (z + n) c k v F = F (hL z (A ++ .inr (c, vs.set k v) :: B)) := by
  unfold mo_pv
  rw [hL_at, get_at h]
  simp only
  rw [if_pos trivial, if_pos hk, hL_up (by simp; omega), set_at h]
theorem hLi_gr {α : Type} {z n c k r : Nat} {cs : List ac_E} {vs : List Value} {F : Nat → Option α} (h : cs[n]? = some (.inr (c, vs))) (hv : vs[k]? = some (.ref r)) : mo_gr (hL z cs) (z + n) c k F = F r := by
  unfold mo_gr
  rw [hL_at, h]
  simp only
  rw [if_pos trivial, hv]
theorem hLi_cv {α ρ : Type} {z n c : Nat} {cs : List ac_E} {vs : List Value} {m : Option (ρ × ac_H)} {F : ρ → ac_H → Option α} (h : cs[n]? = some (.inr (c, vs))) : mo_cv (hL z cs) (z + n) c m F = mo_cs m F := by
  unfold mo_cv
  rw [hL_at, h]
  simp only
  rw [if_pos trivial]; rfl
theorem hLi_pv {α : Type} {z n c k : Nat} {cs : List ac_E} {vs : List Value} {v : Value} {F : ac_H → Option α} (h : cs[n]? = some (.inr (c, vs))) (hk : k < vs.length) : mo_pv (hL z cs) (z + n) c k v F = F (hL z (cs.set n (.inr (c, vs.set k v)))) := by
  have hn : n < cs.length := (List.getElem?_eq_some_iff.mp h).1
  unfold mo_pv
  rw [hL_at, h]
  simp only
  rw [if_pos trivial, if_pos hk, hL_up hn]
theorem hLi_ui {α : Type} {z n kd m : Nat} {cs : List ac_E} {g : Nat → Int32} {i : Int} {x : Int32} {F : ac_H → Option α} (h : cs[n]? = some (.inl (kd, m, .inl g))) (hm : m ≤ 4000) (h0 : 0 ≤ i) (h1 : i < m) : mo_ui (hL z cs) (z + n) kd (jI i) x F = F (hL z (cs.set n (.inl (kd, m, .inl (upd g i.toNat x))))) := by
  have hn : n < cs.length := (List.getElem?_eq_some_iff.mp h).1
  unfold mo_ui
  rw [hL_at, h]
  simp only
  rw [if_pos trivial, jI_ix h0 (by omega), if_neg, hL_up hn]
  intro hh
  rcases hh with hh | hh
  · exact jI_nonneg h0 (by omega) hh
  · omega
theorem hL0_pv {α : Type} {z c k : Nat} {B : List ac_E} {vs : List Value} {v : Value} {F : ac_H → Option α} (hk : k < vs.length) : mo_pv (hL z (.inr (c, vs) :: B)) z c k v F = F (hL z (.inr (c, vs.set k v) :: B)) := hL_pv (n := 0) (A := []) rfl hk
theorem hL0_gr {α : Type} {z c k r : Nat} {B : List ac_E} {vs : List Value} {F : Nat → Option α} (hv : vs[k]? = some (.ref r)) : mo_gr (hL z (.inr (c, vs) :: B)) z c k F = F r := hLi_gr (n := 0) rfl hv
theorem apq {A B C : List ac_E} {x : ac_E} : (A ++ x :: B) ++ C = A ++ x :: (B ++ C) := by simp
/-! the parts -/
def bcs (z n : Nat) : List ac_E := [.inr (0, [.ref (z + (n + 1)), .ref (z + (n + 2)), .ref (z + (n + 3)), .ref (z + (n + 4)), .int 0, .ref (z + (n + 5))]), .inl (0, kx_ar 0 8), .inl (0, kx_ar 0 10), .inl (0, kx_ar 0 10), .inl (0, kx_ar 0 10), .inr (5, [.ref (z + (n + 6))]), .inl (0, kx_ar 0 9)]
def rcs (z n : Nat) : List ac_E := [.inr (4, [.ref (z + (n + 1)), .ref (z + (n + 11)), .ref (z + (n + 13)), .ref (z + (n + 15)), .int 0, .int 0, .int 0, .int 0, .int 0, .int 0, .int 0, .int 0, .int 0, .int 0, .int 0]),
  .inr (2, [.ref (z + (n + 2)), .ref (z + (n + 3)), .ref (z + (n + 4)), .ref (z + (n + 5)), .ref (z + (n + 6)), .int 0, .ref (z + (n + 7)), .ref (z + (n + 8)), .ref (z + (n + 9)), .ref (z + (n + 10)), .int 0]),
  .inl (0, kx_ar 0 120), .inl (0, kx_ar 0 120), .inl (0, kx_ar 0 120), .inl (0, kx_ar 0 120), .inl (0, kx_ar 0 120), .inl (0, kx_ar 0 226), .inl (0, kx_ar 0 226), .inl (0, kx_ar 0 226), .inl (0, kx_ar 0 240),
  .inr (1, [.ref (z + (n + 12)), .int 0, .int 0, .int 0, .int 0, .int 0, .int 0, .int 0]), .inl (0, kx_ar 0 240), .inr (5, [.ref (z + (n + 14))]), .inl (0, kx_ar 0 9)] ++ bcs z (n + 15)
def xcs (z n : Nat) : List ac_E := [.inr (3, [.ref (z + (n + 1)), .int 0, .int 0, .int 0, .int 0, .int 0, .int 0, .int 0, .int (-1), .ref (z + (n + 2))]), .inl (0, kx_ar 0 500)] ++ bcs z (n + 2)
theorem X5_in {z n : Nat} {cs : List ac_E} (h : cs.length = n) : m_X5_init (ac_up (hL z cs) (z + n) (.inr (5, [.null]))) (z + n) (z + (n + 1)) = some (z + (n + 2), hL z (cs ++ [.inr (5, [.ref (z + (n + 1))]), .inl (0, kx_ar 0 9)])) := by
  unfold m_X5_init
  rw [hL_al h, hL_al2 (n := n + 1) (by simp [h]), hL_pv h (by simp)]
  rfl
theorem X1_in {z n : Nat} {cs : List ac_E} (h : cs.length = n) : m_X1_init (ac_up (hL z cs) (z + n) (.inr (1, [.null, .int 0, .int 0, .int 0, .int 0, .int 0, .int 0, .int 0]))) (z + n) (z + (n + 1)) = some (z + (n + 2), hL z (cs ++ [.inr (1, [.ref (z + (n + 1)), .int 0, .int 0, .int 0, .int 0, .int 0, .int 0, .int 0]), .inl (0, kx_ar 0 240)])) := by
  unfold m_X1_init
  rw [hL_al h, hL_al2 (n := n + 1) (by simp [h]), hL_pv h (by simp)]
  rfl
theorem X0_in {z n : Nat} {cs : List ac_E} (h : cs.length = n) : m_X0_init (ac_up (hL z cs) (z + n) (.inr (0, [.null, .null, .null, .null, .int 0, .null]))) (z + n) (z + (n + 1)) = some (z + (n + 7), hL z (cs ++ bcs z n)) := by
  unfold m_X0_init
  rw [hL_al h]
  simp only [Nat.add_assoc, Nat.reduceAdd]
  rw [hL_al2 (n := n + 1) (by simp [h]), hL_pv h (by simp), hL_al2 (n := n + 2) (by simp [h]), hL_pv h (by simp), hL_al2 (n := n + 3) (by simp [h]), hL_pv h (by simp), hL_al2 (n := n + 4) (by simp [h]), hL_pv h (by simp), hL_pv h (by simp), X5_in (n := n + 5) (by simp [h]), mo_cs_s, apq, hL_pv h (by simp)]
  rfl
theorem X2_in {z n : Nat} {cs : List ac_E} (h : cs.length = n) : m_X2_init (ac_up (hL z cs) (z + n) (.inr (2, [.null, .null, .null, .null, .null, .int 0, .null, .null, .null, .null, .int 0]))) (z + n) (z + (n + 1)) = some (z + (n + 10), hL z (cs ++ [.inr (2, [.ref (z + (n + 1)), .ref (z + (n + 2)), .ref (z + (n + 3)), .ref (z + (n + 4)), .ref (z + (n + 5)), .int 0, .ref (z + (n + 6)), .ref (z + (n + 7)), .ref (z + (n + 8)), .ref (z + (n + 9)), .int 0]),
  .inl (0, kx_ar 0 120), .inl (0, kx_ar 0 120), .inl (0, kx_ar 0 120), .inl (0, kx_ar 0 120), .inl (0, kx_ar 0 120), .inl (0, kx_ar 0 226), .inl (0, kx_ar 0 226), .inl (0, kx_ar 0 226), .inl (0, kx_ar 0 240)])) := by
  unfold m_X2_init
  rw [hL_al h]
  simp only [Nat.add_assoc, Nat.reduceAdd]
  rw [hL_al2 (n := n + 1) (by simp [h]), hL_pv h (by simp), hL_al2 (n := n + 2) (by simp [h]), hL_pv h (by simp), hL_al2 (n := n + 3) (by simp [h]), hL_pv h (by simp), hL_al2 (n := n + 4) (by simp [h]), hL_pv h (by simp), hL_al2 (n := n + 5) (by simp [h]), hL_pv h (by simp), hL_al2 (n := n + 6) (by simp [h]), hL_pv h (by simp), hL_al2 (n := n + 7) (by simp [h]), hL_pv h (by simp), hL_al2 (n := n + 8) (by simp [h]), hL_pv h (by simp), hL_al2 (n := n + 9) (by simp [h]), hL_pv h (by simp)]
  rfl
theorem X4_in {z n : Nat} {cs : List ac_E} (h : cs.length = n) : m_X4_init (ac_up (hL z cs) (z + n) (.inr (4, [.null, .null, .null, .null, .int 0, .int 0, .int 0, .int 0, .int 0, .int 0, .int 0, .int 0, .int 0, .int 0, .int 0]))) (z + n) (z + (n + 1)) = some (z + (n + 22), hL z (cs ++ rcs z n)) := by
  unfold m_X4_init
  rw [hL_al h]
  simp only [Nat.add_assoc, Nat.reduceAdd]
  rw [X2_in (n := n + 1) (by simp [h]), mo_cs_s, apq, hL_pv h (by simp)]
  simp only [Nat.add_assoc, Nat.reduceAdd]
  rw [X1_in (n := n + 11) (by simp [h]), mo_cs_s, apq, hL_pv h (by simp)]
  simp only [Nat.add_assoc, Nat.reduceAdd]
  rw [X5_in (n := n + 13) (by simp [h]), mo_cs_s, apq, hL_pv h (by simp)]
  simp only [Nat.add_assoc, Nat.reduceAdd]
  rw [X0_in (n := n + 15) (by simp [h]), mo_cs_s, apq, hL_pv h (by simp)]
  rfl
theorem X3_in {z n : Nat} {cs : List ac_E} (h : cs.length = n) : m_X3_init (ac_up (hL z cs) (z + n) (.inr (3, [.null, .int 0, .int 0, .int 0, .int 0, .int 0, .int 0, .int 0, .int 0, .null]))) (z + n) (z + (n + 1)) = some (z + (n + 9), hL z (cs ++ xcs z n)) := by
  unfold m_X3_init
  rw [hL_al h]
  simp only [Nat.add_assoc, Nat.reduceAdd]
  rw [hL_al2 (n := n + 1) (by simp [h]), hL_pv h (by simp), hL_pv h (by simp), X0_in (n := n + 2) (by simp [h]), mo_cs_s, apq, hL_pv h (by simp)]
  rfl
/-! begin of the present bench -/
def gB : Nat → Int32 := fun i => jI (c0.1 i)
theorem c0_big {i : Nat} (h : 8 ≤ i) : c0.1 i = 0 := by
  show ((ac_T 0).getD i 0).toInt = 0
  rw [List.getD_eq_getElem?_getD, List.getElem?_eq_none (by have : (ac_T 0).length = 8 := rfl; omega)]; rfl
theorem set_same {cs : List ac_E} {n : Nat} {x : ac_E} (h : cs[n]? = some x) : cs.set n x = cs := by
  obtain ⟨h1, h2⟩ := List.getElem?_eq_some_iff.mp h
  apply List.ext_getElem?
  intro i
  by_cases e : n = i
  · subst e; rw [List.getElem?_set_self h1, h]
  · rw [List.getElem?_set_ne e]
theorem upd0 {i : Nat} : upd (fun _ => (0 : Int32)) i (0 : Int32) = fun _ => 0 := by
  funext j
  unfold upd
  split <;> rfl
theorem X5_raL {z : Nat} {cs : List ac_E} (h6 : cs[6]? = some (.inr (5, [.ref (z + 7)]))) (h7 : cs[7]? = some (.inl (0, 9, .inl (fun _ => 0)))) : ∀ (d i f : Nat), i + d = 9 → d < f → m_X5_removeAll_l2 (z + 6) f (hL z cs) (jI i) = some ((), hL z cs) := by
  intro d
  induction d with
  | zero =>
    intro i f hi hf
    obtain ⟨f, rfl⟩ : ∃ g, f = g + 1 := ⟨f - 1, by omega⟩
    unfold m_X5_removeAll_l2
    rw [if_neg (show ¬ jI (i : Int) < (9 : Int32) by rw [ji9, jI_lt (by omega) (by omega) (by omega) (by omega)]; omega)]
  | succ d ih =>
    intro i f hi hf
    obtain ⟨f, rfl⟩ : ∃ g, f = g + 1 := ⟨f - 1, by omega⟩
    unfold m_X5_removeAll_l2
    rw [if_pos (show jI (i : Int) < (9 : Int32) by rw [ji9, jI_lt (by omega) (by omega) (by omega) (by omega)]; omega), hLi_gr h6 (r := z + 7) rfl, hLi_ui h7 (by omega) (by omega) (by omega), upd0, set_same h7, ji1, jI_add, show (i : Int) + 1 = ((i + 1 : Nat) : Int) by omega]
    exact ih (i + 1) f (by omega) (by omega)
theorem X0_bgL {z : Nat} {cs : List ac_E} {r1 r2 r3 : Value} (h1 : cs[1]? = some (.inr (0, [.ref (z + 2), r1, r2, r3, .int 0, .ref (z + 6)]))) (h2 : cs.length = 8) (h6 : cs[6]? = some (.inr (5, [.ref (z + 7)]))) (h7 : cs[7]? = some (.inl (0, 9, .inl (fun _ => 0)))) : ∀ (d i f : Nat), i + d = 8 → d < f →
    m_X0_begin_l2 (z + 1) f (hL z (cs.set 2 (.inl (0, 8, .inl (fun j => if j < i then jI (c0.1 j) else 0))))) (jI i) = some ((), hL z (cs.set 2 (.inl (0, 8, .inl gB)))) := by
  intro d
  induction d with
  | zero =>
    intro i f hi hf
    obtain ⟨f, rfl⟩ : ∃ g, f = g + 1 := ⟨f - 1, by omega⟩
    have hi8 : i = 8 := by omega
    subst hi8
    have eg : (fun j => if j < 8 then jI (c0.1 j) else 0) = gB := by
      funext j
      unfold gB
      by_cases hj : j < 8
      · rw [if_pos hj]
      · rw [if_neg hj, c0_big (by omega)]; rfl
    rw [eg]
    have k1 : (cs.set 2 (.inl (0, 8, .inl gB)))[1]? = some (.inr (0, [.ref (z + 2), r1, r2, r3, .int 0, .ref (z + 6)])) := by rw [List.getElem?_set_ne (by omega)]; exact h1
    have k6 : (cs.set 2 (.inl (0, 8, .inl gB)))[6]? = some (.inr (5, [.ref (z + 7)])) := by rw [List.getElem?_set_ne (by omega)]; exact h6
    have k7 : (cs.set 2 (.inl (0, 8, .inl gB)))[7]? = some (.inl (0, 9, .inl (fun _ => 0))) := by rw [List.getElem?_set_ne (by omega)]; exact h7
    unfold m_X0_begin_l2
    rw [if_neg (by decide), hLi_pv k1 (by simp), set_same (x := .inr (0, [Value.ref (z + 2), r1, r2, r3, .int 0, .ref (z + 6)].set 4 (.int 0))) k1, hLi_gr k1 (r := z + 6) rfl, hLi_cv k6]
    unfold m_X5_removeAll
    rw [show (0 : Int32) = jI ((0 : Nat) : Int) from rfl, X5_raL k6 k7 9 0 hN_f (by omega) (by unfold hN_f; omega)]
    rfl
  | succ d ih =>
    intro i f hi hf
    obtain ⟨f, rfl⟩ : ∃ g, f = g + 1 := ⟨f - 1, by omega⟩
    have k1 : (cs.set 2 (.inl (0, 8, .inl (fun j => if j < i then jI (c0.1 j) else 0))))[1]? = some (.inr (0, [.ref (z + 2), r1, r2, r3, .int 0, .ref (z + 6)])) := by rw [List.getElem?_set_ne (by omega)]; exact h1
    have k2 : (cs.set 2 (.inl (0, 8, .inl (fun j => if j < i then jI (c0.1 j) else 0))))[2]? = some (.inl (0, 8, .inl (fun j => if j < i then jI (c0.1 j) else 0))) := List.getElem?_set_self (by omega)
    have eg : upd (fun j => if j < i then jI (c0.1 j) else 0) i (jI (c0.1 i)) = fun j => if j < i + 1 then jI (c0.1 j) else 0 := by
      funext j
      show (if j = i then jI (c0.1 i) else if j < i then jI (c0.1 j) else 0) = _
      by_cases hj : j = i
      · subst hj; rw [if_pos rfl, if_pos (by omega)]
      · rw [if_neg hj]
        by_cases hl : j < i
        · rw [if_pos hl, if_pos (by omega)]
        · rw [if_neg hl, if_neg (by omega)]
    unfold m_X0_begin_l2
    rw [if_pos (show jI (i : Int) < (8 : Int32) by rw [ji8, jI_lt (by omega) (by omega) (by omega) (by omega)]; omega), hLi_gr k1 (r := z + 2) rfl, mo_tj (by omega) (by omega), hLi_ui k2 (by omega) (by omega) (by omega), Int.toNat_natCast]
    rw [show jI ((ac_T 0).getD i 0).toInt = jI (c0.1 i) from rfl, eg, List.set_set, ji1, jI_add, show (i : Int) + 1 = ((i + 1 : Nat) : Int) by omega]
    exact ih (i + 1) f (by omega) (by omega)
/-- a bench made into a place of an array of benches -/
theorem X6_rs {α : Type} {z p j m b b1 b7 k : Nat} {ik : Int32} {vs : List Value} {R H : List ac_E} {f : Nat → Option Nat} {F : Nat → ac_H → Option α} (hv : vs[j]? = some (.ref (z + p))) (hR : R.length + 1 = p) (hH : p + 1 + H.length = b) (hb1 : b1 = b + 1) (hb7 : b7 = b + 7) (hi : ik = jI k) (hk : k < m) (hm : m ≤ 100) :
    (mo_gr (hL z (.inr (6, vs) :: (R ++ .inl (4, m, .inr (.inr (.inr (.inr f)))) :: H))) z 6 j fun x => mo_cs (m_X0_init (ac_up (hL z (.inr (6, vs) :: (R ++ .inl (4, m, .inr (.inr (.inr (.inr f)))) :: H))) (z + b) (.inr (0, [.null, .null, .null, .null, .int 0, .null]))) (z + b) (z + b1)) fun z23 σ22 => mo_uq σ22 x ik (z + b) fun σ24 => F z23 σ24) = F (z + b7) (hL z (.inr (6, vs) :: (R ++ .inl (4, m, .inr (.inr (.inr (.inr (va_up f k (some (z + b))))))) :: (H ++ bcs z b)))) := by
  subst hb1 hb7 hi
  rw [hL0_gr hv, X0_in (n := b) (by simp; omega), mo_cs_s]
  have e1 : (.inr (6, vs) :: (R ++ .inl (4, m, .inr (.inr (.inr (.inr f)))) :: H) : List ac_E) ++ bcs z b = (.inr (6, vs) :: R) ++ .inl (4, m, .inr (.inr (.inr (.inr f)))) :: (H ++ bcs z b) := by simp
  have hA : (.inr (6, vs) :: R : List ac_E).length = p := by simp; omega
  have hb : ((.inr (6, vs) :: R : List ac_E) ++ .inl (4, m, .inr (.inr (.inr (.inr f)))) :: (H ++ bcs z b))[b]? = some (.inr (0, [.ref (z + (b + 1)), .ref (z + (b + 2)), .ref (z + (b + 3)), .ref (z + (b + 4)), .int 0, .ref (z + (b + 5))])) := by
    rw [List.getElem?_append_right (by omega), hA, show b - p = H.length + 1 by omega, List.getElem?_cons_succ, List.getElem?_append_right (Nat.le_refl _), Nat.sub_self]
    rfl
  rw [e1]
  unfold mo_uq
  rw [hL_at, hL_at, get_at hA, hb]
  show (if _ then _ else _) = _
  rw [if_pos ⟨rfl, rfl⟩, jI_ix (by omega) (by omega), if_neg, hL_up (by simp; omega), set_at hA, Int.toNat_natCast]
  · rfl
  · intro hh
    rcases hh with hh | hh
    · exact jI_nonneg (by omega) (by omega) hh
    · rw [Int.toNat_natCast] at hh; omega


/-! THE CONSTRUCTORS of the law's objects; the law. -/
theorem X0_i {z n n1 n7 : Nat} {cs : List ac_E} (h1 : n1 = n + 1) (h7 : n7 = n + 7) (h : cs.length = n) : m_X0_init (ac_up (hL z cs) (z + n) (.inr (0, [.null, .null, .null, .null, .int 0, .null]))) (z + n) (z + n1) = some (z + n7, hL z (cs ++ bcs z n)) := by
  subst h1 h7; exact X0_in h
theorem X4_i {z n n1 n7 : Nat} {cs : List ac_E} (h1 : n1 = n + 1) (h7 : n7 = n + 22) (h : cs.length = n) : m_X4_init (ac_up (hL z cs) (z + n) (.inr (4, [.null, .null, .null, .null, .int 0, .int 0, .int 0, .int 0, .int 0, .int 0, .int 0, .int 0, .int 0, .int 0, .int 0]))) (z + n) (z + n1) = some (z + n7, hL z (cs ++ rcs z n)) := by
  subst h1 h7; exact X4_in h
theorem X3_i {z n n1 n7 : Nat} {cs : List ac_E} (h1 : n1 = n + 1) (h7 : n7 = n + 9) (h : cs.length = n) : m_X3_init (ac_up (hL z cs) (z + n) (.inr (3, [.null, .int 0, .int 0, .int 0, .int 0, .int 0, .int 0, .int 0, .int 0, .null]))) (z + n) (z + n1) = some (z + n7, hL z (cs ++ xcs z n)) := by
  subst h1 h7; exact X3_in h
def bcsB (z : Nat) : List ac_E := [.inr (0, [.ref (z + 2), .ref (z + 3), .ref (z + 4), .ref (z + 5), .int 0, .ref (z + 6)]), .inl (0, 8, .inl gB), .inl (0, kx_ar 0 10), .inl (0, kx_ar 0 10), .inl (0, kx_ar 0 10), .inr (5, [.ref (z + 7)]), .inl (0, kx_ar 0 9)]
theorem X0_bg1 {z : Nat} {vs : List Value} : m_X0_begin (hL z (.inr (6, vs) :: bcs z 1)) (z + 1) = some ((), hL z (.inr (6, vs) :: bcsB z)) := by
  have h := X0_bgL (z := z) (cs := .inr (6, vs) :: bcs z 1) (r1 := .ref (z + 3)) (r2 := .ref (z + 4)) (r3 := .ref (z + 5)) rfl rfl rfl rfl 8 0 hN_f (by omega) (by unfold hN_f; omega)
  have e : (.inr (6, vs) :: bcs z 1 : List ac_E).set 2 (.inl (0, 8, .inl (fun j => if j < 0 then jI (c0.1 j) else 0))) = .inr (6, vs) :: bcs z 1 := by
    apply set_same
    have : (fun j : Nat => if j < 0 then jI (c0.1 j) else (0 : Int32)) = fun _ => 0 := by
      funext j; rw [if_neg (by omega)]
    rw [this]; rfl
  rw [e] at h
  unfold m_X0_begin
  exact h
def R45 (z : Nat) : List ac_E := ((bcsB z ++ bcs z 8) ++ rcs z 15) ++ xcs z 37
def H70 (z : Nat) : List ac_E := (((((((((([] ++ bcs z 47) ++ bcs z 54) ++ bcs z 61) ++ bcs z 68) ++ bcs z 75) ++ bcs z 82) ++ bcs z 89) ++ bcs z 96) ++ bcs z 103) ++ bcs z 110)
def fH (z : Nat) : Nat → Option Nat := (va_up (va_up (va_up (va_up (va_up (va_up (va_up (va_up (va_up (va_up (fun _ => none) 0 (some (z + 47))) 1 (some (z + 54))) 2 (some (z + 61))) 3 (some (z + 68))) 4 (some (z + 75))) 5 (some (z + 82))) 6 (some (z + 89))) 7 (some (z + 96))) 8 (some (z + 103))) 9 (some (z + 110)))
def R116 (z : Nat) : List ac_E := R45 z ++ .inl (4, 10, .inr (.inr (.inr (.inr (fH z))))) :: H70 z
def fS (z : Nat) : Nat → Option Nat := va_up (va_up (fun _ => none) 0 (some (z + 118))) 1 (some (z + 125))
def CS6 (z : Nat) : List ac_E := .inr (6, [.ref (z + 1), .ref (z + 8), .ref (z + 15), .ref (z + 37), .ref (z + 46), .int 0, .ref (z + 117), .ref (z + 132)]) :: ((R116 z ++ .inl (4, 2, .inr (.inr (.inr (.inr (fS z))))) :: (([] ++ bcs z 118) ++ bcs z 125)) ++ [.inl (2, kx_ar 2 2)])
theorem X6_in {z : Nat} : m_X6_init (ac_up (fun _ => none) z (.inr (6, [.null, .null, .null, .null, .null, .int 0, .null, .null]))) z (z + 1) = some (z + 133, hL z (CS6 z)) := by
  have c1 : ∀ vs : List Value, (.inr (6, vs) :: bcs z 1 : List ac_E)[1]? = some (.inr (0, [.ref (z + 2), .ref (z + 3), .ref (z + 4), .ref (z + 5), .int 0, .ref (z + 6)])) := fun _ => rfl
  rw [hL_0]
  unfold m_X6_init
  simp only [Nat.add_assoc, Nat.reduceAdd]
  rw [X0_i (n := 1) (n7 := 8) rfl rfl (by rfl), mo_cs_s, List.cons_append, List.nil_append, hL0_pv (by simp), hL0_gr (r := z + 1) (by rfl), hLi_cv (c1 _), X0_bg1, mo_cs_s]
  simp only [Nat.add_assoc, Nat.reduceAdd]
  rw [X0_i (n := 8) (n7 := 15) rfl rfl (by rfl), mo_cs_s, List.cons_append, hL0_pv (by simp)]
  simp only [Nat.add_assoc, Nat.reduceAdd]
  rw [X4_i (n := 15) (n7 := 37) rfl rfl (by rfl), mo_cs_s, List.cons_append, hL0_pv (by simp)]
  simp only [Nat.add_assoc, Nat.reduceAdd]
  rw [X3_i (n := 37) (n7 := 46) rfl rfl (by rfl), mo_cs_s, List.cons_append, hL0_pv (by simp)]
  simp only [Nat.add_assoc, Nat.reduceAdd]
  rw [hL_al (n := 46) (by rfl), List.cons_append, hL0_pv (by simp)]
  rw [if_pos (show (0 : Int32) < 10 by decide), X6_rs (p := 46) (j := 4) (m := 10) (b := 47) (b1 := 48) (b7 := 54) (ik := 0) (k := 0) (by rfl) (by rfl) (by rfl) rfl rfl rfl (by omega) (by omega)]
  simp only [Nat.add_assoc, Nat.reduceAdd]
  rw [if_pos (show (1 : Int32) < 10 by decide), X6_rs (p := 46) (j := 4) (m := 10) (b := 54) (b1 := 55) (b7 := 61) (ik := 1) (k := 1) (by rfl) (by rfl) (by rfl) rfl rfl rfl (by omega) (by omega)]
  simp only [Nat.add_assoc, Nat.reduceAdd]
  rw [if_pos (show (2 : Int32) < 10 by decide), X6_rs (p := 46) (j := 4) (m := 10) (b := 61) (b1 := 62) (b7 := 68) (ik := 2) (k := 2) (by rfl) (by rfl) (by rfl) rfl rfl rfl (by omega) (by omega)]
  simp only [Nat.add_assoc, Nat.reduceAdd]
  rw [if_pos (show (3 : Int32) < 10 by decide), X6_rs (p := 46) (j := 4) (m := 10) (b := 68) (b1 := 69) (b7 := 75) (ik := 3) (k := 3) (by rfl) (by rfl) (by rfl) rfl rfl rfl (by omega) (by omega)]
  simp only [Nat.add_assoc, Nat.reduceAdd]
  rw [if_pos (show (4 : Int32) < 10 by decide), X6_rs (p := 46) (j := 4) (m := 10) (b := 75) (b1 := 76) (b7 := 82) (ik := 4) (k := 4) (by rfl) (by rfl) (by rfl) rfl rfl rfl (by omega) (by omega)]
  simp only [Nat.add_assoc, Nat.reduceAdd]
  rw [if_pos (show (5 : Int32) < 10 by decide), X6_rs (p := 46) (j := 4) (m := 10) (b := 82) (b1 := 83) (b7 := 89) (ik := 5) (k := 5) (by rfl) (by rfl) (by rfl) rfl rfl rfl (by omega) (by omega)]
  simp only [Nat.add_assoc, Nat.reduceAdd]
  rw [if_pos (show (6 : Int32) < 10 by decide), X6_rs (p := 46) (j := 4) (m := 10) (b := 89) (b1 := 90) (b7 := 96) (ik := 6) (k := 6) (by rfl) (by rfl) (by rfl) rfl rfl rfl (by omega) (by omega)]
  simp only [Nat.add_assoc, Nat.reduceAdd]
  rw [if_pos (show (7 : Int32) < 10 by decide), X6_rs (p := 46) (j := 4) (m := 10) (b := 96) (b1 := 97) (b7 := 103) (ik := 7) (k := 7) (by rfl) (by rfl) (by rfl) rfl rfl rfl (by omega) (by omega)]
  simp only [Nat.add_assoc, Nat.reduceAdd]
  rw [if_pos (show (8 : Int32) < 10 by decide), X6_rs (p := 46) (j := 4) (m := 10) (b := 103) (b1 := 104) (b7 := 110) (ik := 8) (k := 8) (by rfl) (by rfl) (by rfl) rfl rfl rfl (by omega) (by omega)]
  simp only [Nat.add_assoc, Nat.reduceAdd]
  rw [if_pos (show (9 : Int32) < 10 by decide), X6_rs (p := 46) (j := 4) (m := 10) (b := 110) (b1 := 111) (b7 := 117) (ik := 9) (k := 9) (by rfl) (by rfl) (by rfl) rfl rfl rfl (by omega) (by omega)]
  simp only [Nat.add_assoc, Nat.reduceAdd]
  rw [if_neg (show ¬ (10 : Int32) < 10 by decide), hL0_pv (by simp), hL_al (n := 117) (by rfl), List.cons_append, hL0_pv (by simp)]
  rw [if_pos (show (0 : Int32) < 2 by decide), X6_rs (p := 117) (j := 6) (m := 2) (b := 118) (b1 := 119) (b7 := 125) (ik := 0) (k := 0) (by rfl) (by rfl) (by rfl) rfl rfl rfl (by omega) (by omega)]
  simp only [Nat.add_assoc, Nat.reduceAdd]
  rw [if_pos (show (1 : Int32) < 2 by decide), X6_rs (p := 117) (j := 6) (m := 2) (b := 125) (b1 := 126) (b7 := 132) (ik := 1) (k := 1) (by rfl) (by rfl) (by rfl) rfl rfl rfl (by omega) (by omega)]
  simp only [Nat.add_assoc, Nat.reduceAdd]
  rw [if_neg (show ¬ (2 : Int32) < 2 by decide), hL_al (n := 132) (by rfl), List.cons_append, hL0_pv (by simp)]
  rfl
/-! the model's -/
theorem X7_bgL {z n : Nat} {cs : List ac_E} (h : cs[n]? = some (.inl (0, 183, .inl (fun _ => 0)))) : ∀ (d i f : Nat), i + d = 183 → d < f →
    m_X7_begins_l3 (z + n) (0 : Int32) (1 : Int32) (10 : Int32) f (hL z cs) (jI i) = some ((), hL z (cs.set n (.inl (0, 183, .inl gB)))) := by
  have hn : n < cs.length := (List.getElem?_eq_some_iff.mp h).1
  intro d
  induction d with
  | zero =>
    intro i f hi hf
    obtain ⟨f, rfl⟩ : ∃ g, f = g + 1 := ⟨f - 1, by omega⟩
    have hi8 : i = 183 := by omega
    subst hi8
    have st : ∀ (g : Nat → Int32) (j : Int) (x : Int32) (F : ac_H → Option (Unit × ac_H)), 0 ≤ j → j < 183 → mo_ui (hL z (cs.set n (.inl (0, 183, .inl g)))) (z + n) 0 (jI j) x F = F (hL z (cs.set n (.inl (0, 183, .inl (upd g j.toNat x))))) := by
      intro g j x F h0 h1
      rw [hLi_ui (List.getElem?_set_self hn) (by omega) h0 (by omega), List.set_set]
    have e0 : cs = cs.set n (.inl (0, 183, .inl (fun _ => 0))) := (set_same h).symm
    unfold m_X7_begins_l3
    rw [if_neg (show ¬ jI ((183 : Nat) : Int) < (183 : Int32) by decide)]
    conv => lhs; rw [e0]
    rw [show (0 : Int32) = jI 0 from rfl, st _ 0 _ _ (by omega) (by omega), show (1 : Int32) = jI 1 from rfl, st _ 1 _ _ (by omega) (by omega), show (2 : Int32) = jI 2 from rfl, st _ 2 _ _ (by omega) (by omega), show (3 : Int32) = jI 3 from rfl, st _ 3 _ _ (by omega) (by omega), show (4 : Int32) = jI 4 from rfl, st _ 4 _ _ (by omega) (by omega), show (5 : Int32) = jI 5 from rfl, st _ 5 _ _ (by omega) (by omega), show (6 : Int32) = jI 6 from rfl, st _ 6 _ _ (by omega) (by omega), show (7 : Int32) = jI 7 from rfl, st _ 7 _ _ (by omega) (by omega)]
    congr 9
    funext k
    unfold upd gB
    rcases (show k = 0 ∨ k = 1 ∨ k = 2 ∨ k = 3 ∨ k = 4 ∨ k = 5 ∨ k = 6 ∨ k = 7 ∨ 8 ≤ k by omega) with e | e | e | e | e | e | e | e | e
    · subst e; rfl
    · subst e; rfl
    · subst e; rfl
    · subst e; rfl
    · subst e; rfl
    · subst e; rfl
    · subst e; rfl
    · subst e; rfl
    · rw [c0_big e]
      simp only [show ¬ k = (0 : Int).toNat by simp; omega, show ¬ k = (1 : Int).toNat by simp; omega, show ¬ k = (2 : Int).toNat by simp; omega, show ¬ k = (3 : Int).toNat by simp; omega, show ¬ k = (4 : Int).toNat by simp; omega, show ¬ k = (5 : Int).toNat by simp; omega, show ¬ k = (6 : Int).toNat by simp; omega, show ¬ k = (7 : Int).toNat by simp; omega, if_false]
  | succ d ih =>
    intro i f hi hf
    obtain ⟨f, rfl⟩ : ∃ g, f = g + 1 := ⟨f - 1, by omega⟩
    unfold m_X7_begins_l3
    rw [if_pos (show jI (i : Int) < (183 : Int32) by rw [ji183, jI_lt (by omega) (by omega) (by omega) (by omega)]; omega), hLi_ui h (by omega) (by omega) (by omega), upd0, set_same h, show jI (i : Int) + 1 = jI ((i + 1 : Nat) : Int) by rw [ji1, jI_add]; rfl]
    exact ih (i + 1) f (by omega) (by omega)
def o7F (z : Nat) : List Value := [.int 0, .ref (z + 134), .ref (z + 135), .int 0, .int 0, .int 0, .int 0, .int 0, .int 0, .int 0, .int (-1), .int 0, .int 0, .ref (z + 136), .ref (z + 134), .ref (z + 137), .ref (z + 138), .ref (z + 139), .ref (z + 140), .ref (z + 141), .ref (z + 142), .int 0, .ref (z + 143), .int 0, .int 0, .int 0, .int 0, .int 0, .ref (z + 144), .int 0, .int 0, .int 0, .int 0, .int 0, .int 0, .int 0, .int 0, .ref (z + 145), .ref (z + 146), .ref (z + 147)]
def M7 : List ac_E := [.inl (1, kx_ar 1 500), .inl (0, kx_ar 0 183), .inl (0, kx_ar 0 183), .inl (0, kx_ar 0 120), .inl (0, kx_ar 0 120), .inl (0, kx_ar 0 120), .inl (0, kx_ar 0 120), .inl (0, kx_ar 0 120), .inl (0, kx_ar 0 240), .inl (2, kx_ar 2 144), .inl (0, kx_ar 0 1830), .inl (0, kx_ar 0 366), .inl (2, kx_ar 2 2)]
theorem X7_in {z : Nat} {A : List ac_E} (hA : A.length = 133) : m_X7_init (ac_up (hL z A) (z + 133) (.inr (7, [.int 0, .null, .null, .int 0, .int 0, .int 0, .int 0, .int 0, .int 0, .int 0, .int 0, .int 0, .int 0, .null, .null, .null, .null, .null, .null, .null, .null, .int 0, .null, .int 0, .int 0, .int 0, .int 0, .int 0, .null, .int 0, .int 0, .int 0, .int 0, .int 0, .int 0, .int 0, .int 0, .null, .null, .null]))) (z + 133) (z + 134) = some (z + 148, hL z (A ++ .inr (7, o7F z) :: .inl (0, 183, .inl gB) :: M7)) := by
  unfold m_X7_init
  rw [hL_al hA]
  simp only [Nat.add_assoc, Nat.reduceAdd]
  rw [hL_al2 (n := 134) (by simp [hA]), hL_pv hA (by simp), hL_al2 (n := 135) (by simp [hA]), hL_pv hA (by simp), hL_pv hA (by simp), hL_al2 (n := 136) (by simp [hA]), hL_pv hA (by simp)]
  rw [hLi_gr (r := z + 134) (get_at hA) (by rfl)]
  rw [hL_pv hA (by simp), hL_al2 (n := 137) (by simp [hA]), hL_pv hA (by simp), hL_al2 (n := 138) (by simp [hA]), hL_pv hA (by simp), hL_al2 (n := 139) (by simp [hA]), hL_pv hA (by simp), hL_al2 (n := 140) (by simp [hA]), hL_pv hA (by simp), hL_al2 (n := 141) (by simp [hA]), hL_pv hA (by simp), hL_al2 (n := 142) (by simp [hA]), hL_pv hA (by simp), hL_al2 (n := 143) (by simp [hA]), hL_pv hA (by simp), hL_al2 (n := 144) (by simp [hA]), hL_pv hA (by simp), hL_al2 (n := 145) (by simp [hA]), hL_pv hA (by simp), hL_al2 (n := 146) (by simp [hA]), hL_pv hA (by simp), hL_al2 (n := 147) (by simp [hA]), hL_pv hA (by simp)]
  rw [hLi_gr (r := z + 134) (get_at hA) (by rfl)]
  unfold m_X7_begins
  have key : ∀ (vs : List Value) (B : List ac_E), (A ++ .inr (7, vs) :: (.inl (0, kx_ar 0 183) :: B))[134]? = some (.inl (0, 183, .inl (fun _ => 0))) := by
    intro vs B
    rw [List.getElem?_append_right (by omega), hA]
    rfl
  have ks : ∀ (vs : List Value) (B : List ac_E) (y : ac_E), (A ++ .inr (7, vs) :: (.inl (0, kx_ar 0 183) :: B)).set 134 y = A ++ .inr (7, vs) :: y :: B := by
    intro vs B y
    rw [List.set_append_right _ _ (by omega), hA]
    rfl
  simp only [List.nil_append, List.cons_append]
  rw [show (0 : Int32) = jI ((0 : Nat) : Int) from rfl] 
  have b := X7_bgL (z := z) (key (o7F z) M7) 183 0 hN_f (by omega) (by unfold hN_f; omega)
  rw [ks] at b
  exact (congrArg (fun m => mo_cs m fun _ σ19 => some (z + 148, σ19)) b)

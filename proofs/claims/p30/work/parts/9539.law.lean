theorem X6_in {z : Nat} : m_X6_init (ac_up (fun _ => none) z (.inr (6, [.null, .null, .null, .null, .null, .int 0, .null, .null]))) z (z + 1) = some (z + 133, hL z (CS6 z)) := by
  have c1 : ∀ vs : List Value, (.inr (6, vs) :: bcs z 1 : List ac_E)[1]? = some (.inr (0, [.ref (z + 2), .ref (z + 3), .ref (z + 4), .ref (z + 5), .int 0, .ref (z + 6)])) := fun _ => rfl
  rw [hL_0]
  unfold m_X6_init
  simp only [Nat.add_assoc, Nat.reduceAdd]
  rw [X0_i (n := 1) (n7 := 8) rfl rfl (by rfl), mo_cs_s, List.cons_append, List.nil_append, hL0_pv (by simp), hL0_gr (r := z + 1) (by rfl), hLi_cv (c1 _), X0_bg1, mo_cs_s]
  simp only [Nat.add_assoc, Nat.reduceAdd]
  rw [X0_i (n := 8) (n7 := 15) rfl rfl (by rfl), mo_cs_s, List.cons_append, hL0_pv (by simp)]
  simp only [Nat.add_assoc, Nat.reduceAdd]
  rw [X4_i (n := 15) (n7 := 37) rfl rfl (by rfl), mo_cs_s, List.cons_append, hL0_pv (by simp)]
  simp only [Nat.add_assoc, Nat.reduceAdd]
  rw [X3_i (n := 37) (n7 := 46) rfl rfl (by rfl), mo_cs_s, List.cons_append, hL0_pv (by simp)]
  simp only [Nat.add_assoc, Nat.reduceAdd]
  rw [hL_al (n := 46) (by rfl), List.cons_append, hL0_pv (by simp)]
  rw [if_pos (show (0 : Int32) < 10 by decide), X6_rs (p := 46) (j := 4) (m := 10) (b := 47) (b1 := 48) (b7 := 54) (ik := 0) (k := 0) (by rfl) (by rfl) (by rfl) rfl rfl rfl (by omega) (by omega)]
  simp only [Nat.add_assoc, Nat.reduceAdd]
  rw [if_pos (show (1 : Int32) < 10 by decide), X6_rs (p := 46) (j := 4) (m := 10) (b := 54) (b1 := 55) (b7 := 61) (ik := 1) (k := 1) (by rfl) (by rfl) (by rfl) rfl rfl rfl (by omega) (by omega)]
  simp only [Nat.add_assoc, Nat.reduceAdd]
  rw [if_pos (show (2 : Int32) < 10 by decide), X6_rs (p := 46) (j := 4) (m := 10) (b := 61) (b1 := 62) (b7 := 68) (ik := 2) (k := 2) (by rfl) (by rfl) (by rfl) rfl rfl rfl (by omega) (by omega)]
  simp only [Nat.add_assoc, Nat.reduceAdd]
  rw [if_pos (show (3 : Int32) < 10 by decide), X6_rs (p := 46) (j := 4) (m := 10) (b := 68) (b1 := 69) (b7 := 75) (ik := 3) (k := 3) (by rfl) (by rfl) (by rfl) rfl rfl rfl (by omega) (by omega)]
  simp only [Nat.add_assoc, Nat.reduceAdd]
  rw [if_pos (show (4 : Int32) < 10 by decide), X6_rs (p := 46) (j := 4) (m := 10) (b := 75) (b1 := 76) (b7 := 82) (ik := 4) (k := 4) (by rfl) (by rfl) (by rfl) rfl rfl rfl (by omega) (by omega)]
  simp only [Nat.add_assoc, Nat.reduceAdd]
  rw [if_pos (show (5 : Int32) < 10 by decide), X6_rs (p := 46) (j := 4) (m := 10) (b := 82) (b1 := 83) (b7 := 89) (ik := 5) (k := 5) (by rfl) (by rfl) (by rfl) rfl rfl rfl (by omega) (by omega)]
  simp only [Nat.add_assoc, Nat.reduceAdd]
  rw [if_pos (show (6 : Int32) < 10 by decide), X6_rs (p := 46) (j := 4) (m := 10) (b := 89) (b1 := 90) (b7 := 96) (ik := 6) (k := 6) (by rfl) (by rfl) (by rfl) rfl rfl rfl (by omega) (by omega)]
  simp only [Nat.add_assoc, Nat.reduceAdd]
  rw [if_pos (show (7 : Int32) < 10 by decide), X6_rs (p := 46) (j := 4) (m := 10) (b := 96) (b1 := 97) (b7 := 103) (ik := 7) (k := 7) (by rfl) (by rfl) (by rfl) rfl rfl rfl (by omega) (by omega)]
  simp only [Nat.add_assoc, Nat.reduceAdd]
  rw [if_pos (show (8 : Int32) < 10 by decide), X6_rs (p := 46) (j := 4) (m := 10) (b := 103) (b1 := 104) (b7 := 110) (ik := 8) (k := 8) (by rfl) (by rfl) (by rfl) rfl rfl rfl (by omega) (by omega)]
  simp only [Nat.add_assoc, Nat.reduceAdd]
  rw [if_pos (show (9 : Int32) < 10 by decide), X6_rs (p := 46) (j := 4) (m := 10) (b := 110) (b1 := 111) (b7 := 117) (ik := 9) (k := 9) (by rfl) (by rfl) (by rfl) rfl rfl rfl (by omega) (by omega)]
  simp only [Nat.add_assoc, Nat.reduceAdd]
  rw [if_neg (show ¬ (10 : Int32) < 10 by decide), hL0_pv (by simp), hL_al (n := 117) (by rfl), List.cons_append, hL0_pv (by simp)]
  rw [if_pos (show (0 : Int32) < 2 by decide), X6_rs (p := 117) (j := 6) (m := 2) (b := 118) (b1 := 119) (b7 := 125) (ik := 0) (k := 0) (by rfl) (by rfl) (by rfl) rfl rfl rfl (by omega) (by omega)]
  simp only [Nat.add_assoc, Nat.reduceAdd]
  rw [if_pos (show (1 : Int32) < 2 by decide), X6_rs (p := 117) (j := 6) (m := 2) (b := 125) (b1 := 126) (b7 := 132) (ik := 1) (k := 1) (by rfl) (by rfl) (by rfl) rfl rfl rfl (by omega) (by omega)]
  simp only [Nat.add_assoc, Nat.reduceAdd]
  rw [if_neg (show ¬ (2 : Int32) < 2 by decide), hL_al (n := 132) (by rfl), List.cons_append, hL0_pv (by simp)]
  rfl
/-! THE LAW: what the constructors leave is the memory; the walk's loop goes through. -/
def S0 : hSh := fun _ => (99, 0, fun _ => 0)
def M0 : hM := (fun a k => if a = 37 ∧ k = 8 then -1 else 0, fun a k => if a = 2 then c0.1 k else 0, fun k => if k = 0 then 30 else 47 + 7 * (k - 2))
def q0 : hQ := ((c0, fun _ => 0), [], fun _ => none, [], -1)
def ckL (z : Nat) : Nat → List ac_E → Prop
  | _, [] => True
  | n, e :: l => hc S0 z M0 n = some e ∧ ckL z (n + 1) l
theorem ckL_app {z : Nat} : ∀ {A B : List ac_E} {n m : Nat}, n + A.length = m → ckL z n A → ckL z m B → ckL z n (A ++ B) := by
  intro A
  induction A with
  | nil => intro B n m h _ hb; have : n = m := by simpa using h
           subst this; exact hb
  | cons e A ih => intro B n m h ha hb; exact ⟨ha.1, ih (by simp at h; omega) ha.2 hb⟩
theorem ckL_at {z : Nat} : ∀ {A : List ac_E} {n i : Nat} {e : ac_E}, ckL z n A → A[i]? = some e → hc S0 z M0 (n + i) = some e := by
  intro A
  induction A with
  | nil => intro n i e _ h; simp at h
  | cons x A ih =>
    intro n i e h hi
    cases i with
    | zero => simp at hi; subst hi; exact h.1
    | succ i => rw [show n + (i + 1) = n + 1 + i by omega]; exact ih h.2 (by simpa using hi)
theorem hc_big {z a : Nat} {M : hM} (h : 133 ≤ a) : hc S0 z M a = none := by
  rw [hc_law h]
  unfold hs
  rw [if_neg (by show ¬ (99 : Nat) < 11; omega), if_neg (by show ¬ (20 ≤ (99 : Nat) ∧ (99 : Nat) < 23); omega)]
theorem hL_hp {z : Nat} {cs : List ac_E} (h : ckL z 0 cs) (hl : cs.length = 133) : hL z cs = hp S0 z M0 := by
  funext q
  unfold hL hp
  by_cases hq : q < z
  · rw [if_pos hq, if_pos hq]
  · rw [if_neg hq, if_neg hq]
    by_cases hb : q - z < 133
    · have e : cs[q - z]? = some (cs[q - z]'(by omega)) := List.getElem?_eq_getElem (by omega)
      have := ckL_at h e
      rw [Nat.zero_add] at this
      rw [e, this]
    · rw [List.getElem?_eq_none (by omega), hc_big (by omega)]
theorem hc_z {z a kd n : Nat} (h : ckA a kd n = true) (h1 : a ≠ 2) : hc S0 z M0 a = some (.inl (kd, n, .inl (fun _ => 0))) := by
  rw [hc_a h]
  have : (fun i => jI (gA M0 a i)) = fun _ => (0 : Int32) := by
    funext i
    rw [show gA M0 a i = 0 from if_neg (by omega)]; rfl
  rw [this]
theorem hc_ob {z a c : Nat} {vs : List Value} (h : ckO a c = true) (e : fvs z M0 a = vs) : hc S0 z M0 a = some (.inr (c, vs)) := by rw [hc_o h, e]
theorem cB8 {z : Nat} : ckL z 8 (bcs z 8) := ⟨hc_ob (a := 8) (c := 0) rfl rfl, hc_z (a := 9) (kd := 0) (n := 8) rfl (by decide), hc_z (a := 10) (kd := 0) (n := 10) rfl (by decide), hc_z (a := 11) (kd := 0) (n := 10) rfl (by decide), hc_z (a := 12) (kd := 0) (n := 10) rfl (by decide), hc_ob (a := 13) (c := 5) rfl rfl, hc_z (a := 14) (kd := 0) (n := 9) rfl (by decide), trivial⟩
theorem cB30 {z : Nat} : ckL z 30 (bcs z 30) := ⟨hc_ob (a := 30) (c := 0) rfl rfl, hc_z (a := 31) (kd := 0) (n := 8) rfl (by decide), hc_z (a := 32) (kd := 0) (n := 10) rfl (by decide), hc_z (a := 33) (kd := 0) (n := 10) rfl (by decide), hc_z (a := 34) (kd := 0) (n := 10) rfl (by decide), hc_ob (a := 35) (c := 5) rfl rfl, hc_z (a := 36) (kd := 0) (n := 9) rfl (by decide), trivial⟩
theorem cB39 {z : Nat} : ckL z 39 (bcs z 39) := ⟨hc_ob (a := 39) (c := 0) rfl rfl, hc_z (a := 40) (kd := 0) (n := 8) rfl (by decide), hc_z (a := 41) (kd := 0) (n := 10) rfl (by decide), hc_z (a := 42) (kd := 0) (n := 10) rfl (by decide), hc_z (a := 43) (kd := 0) (n := 10) rfl (by decide), hc_ob (a := 44) (c := 5) rfl rfl, hc_z (a := 45) (kd := 0) (n := 9) rfl (by decide), trivial⟩
theorem cB47 {z : Nat} : ckL z 47 (bcs z 47) := ⟨hc_ob (a := 47) (c := 0) rfl rfl, hc_z (a := 48) (kd := 0) (n := 8) rfl (by decide), hc_z (a := 49) (kd := 0) (n := 10) rfl (by decide), hc_z (a := 50) (kd := 0) (n := 10) rfl (by decide), hc_z (a := 51) (kd := 0) (n := 10) rfl (by decide), hc_ob (a := 52) (c := 5) rfl rfl, hc_z (a := 53) (kd := 0) (n := 9) rfl (by decide), trivial⟩
theorem cB54 {z : Nat} : ckL z 54 (bcs z 54) := ⟨hc_ob (a := 54) (c := 0) rfl rfl, hc_z (a := 55) (kd := 0) (n := 8) rfl (by decide), hc_z (a := 56) (kd := 0) (n := 10) rfl (by decide), hc_z (a := 57) (kd := 0) (n := 10) rfl (by decide), hc_z (a := 58) (kd := 0) (n := 10) rfl (by decide), hc_ob (a := 59) (c := 5) rfl rfl, hc_z (a := 60) (kd := 0) (n := 9) rfl (by decide), trivial⟩
theorem cB61 {z : Nat} : ckL z 61 (bcs z 61) := ⟨hc_ob (a := 61) (c := 0) rfl rfl, hc_z (a := 62) (kd := 0) (n := 8) rfl (by decide), hc_z (a := 63) (kd := 0) (n := 10) rfl (by decide), hc_z (a := 64) (kd := 0) (n := 10) rfl (by decide), hc_z (a := 65) (kd := 0) (n := 10) rfl (by decide), hc_ob (a := 66) (c := 5) rfl rfl, hc_z (a := 67) (kd := 0) (n := 9) rfl (by decide), trivial⟩
theorem cB68 {z : Nat} : ckL z 68 (bcs z 68) := ⟨hc_ob (a := 68) (c := 0) rfl rfl, hc_z (a := 69) (kd := 0) (n := 8) rfl (by decide), hc_z (a := 70) (kd := 0) (n := 10) rfl (by decide), hc_z (a := 71) (kd := 0) (n := 10) rfl (by decide), hc_z (a := 72) (kd := 0) (n := 10) rfl (by decide), hc_ob (a := 73) (c := 5) rfl rfl, hc_z (a := 74) (kd := 0) (n := 9) rfl (by decide), trivial⟩
theorem cB75 {z : Nat} : ckL z 75 (bcs z 75) := ⟨hc_ob (a := 75) (c := 0) rfl rfl, hc_z (a := 76) (kd := 0) (n := 8) rfl (by decide), hc_z (a := 77) (kd := 0) (n := 10) rfl (by decide), hc_z (a := 78) (kd := 0) (n := 10) rfl (by decide), hc_z (a := 79) (kd := 0) (n := 10) rfl (by decide), hc_ob (a := 80) (c := 5) rfl rfl, hc_z (a := 81) (kd := 0) (n := 9) rfl (by decide), trivial⟩
theorem cB82 {z : Nat} : ckL z 82 (bcs z 82) := ⟨hc_ob (a := 82) (c := 0) rfl rfl, hc_z (a := 83) (kd := 0) (n := 8) rfl (by decide), hc_z (a := 84) (kd := 0) (n := 10) rfl (by decide), hc_z (a := 85) (kd := 0) (n := 10) rfl (by decide), hc_z (a := 86) (kd := 0) (n := 10) rfl (by decide), hc_ob (a := 87) (c := 5) rfl rfl, hc_z (a := 88) (kd := 0) (n := 9) rfl (by decide), trivial⟩
theorem cB89 {z : Nat} : ckL z 89 (bcs z 89) := ⟨hc_ob (a := 89) (c := 0) rfl rfl, hc_z (a := 90) (kd := 0) (n := 8) rfl (by decide), hc_z (a := 91) (kd := 0) (n := 10) rfl (by decide), hc_z (a := 92) (kd := 0) (n := 10) rfl (by decide), hc_z (a := 93) (kd := 0) (n := 10) rfl (by decide), hc_ob (a := 94) (c := 5) rfl rfl, hc_z (a := 95) (kd := 0) (n := 9) rfl (by decide), trivial⟩
theorem cB96 {z : Nat} : ckL z 96 (bcs z 96) := ⟨hc_ob (a := 96) (c := 0) rfl rfl, hc_z (a := 97) (kd := 0) (n := 8) rfl (by decide), hc_z (a := 98) (kd := 0) (n := 10) rfl (by decide), hc_z (a := 99) (kd := 0) (n := 10) rfl (by decide), hc_z (a := 100) (kd := 0) (n := 10) rfl (by decide), hc_ob (a := 101) (c := 5) rfl rfl, hc_z (a := 102) (kd := 0) (n := 9) rfl (by decide), trivial⟩
theorem cB103 {z : Nat} : ckL z 103 (bcs z 103) := ⟨hc_ob (a := 103) (c := 0) rfl rfl, hc_z (a := 104) (kd := 0) (n := 8) rfl (by decide), hc_z (a := 105) (kd := 0) (n := 10) rfl (by decide), hc_z (a := 106) (kd := 0) (n := 10) rfl (by decide), hc_z (a := 107) (kd := 0) (n := 10) rfl (by decide), hc_ob (a := 108) (c := 5) rfl rfl, hc_z (a := 109) (kd := 0) (n := 9) rfl (by decide), trivial⟩
theorem cB110 {z : Nat} : ckL z 110 (bcs z 110) := ⟨hc_ob (a := 110) (c := 0) rfl rfl, hc_z (a := 111) (kd := 0) (n := 8) rfl (by decide), hc_z (a := 112) (kd := 0) (n := 10) rfl (by decide), hc_z (a := 113) (kd := 0) (n := 10) rfl (by decide), hc_z (a := 114) (kd := 0) (n := 10) rfl (by decide), hc_ob (a := 115) (c := 5) rfl rfl, hc_z (a := 116) (kd := 0) (n := 9) rfl (by decide), trivial⟩
theorem cB118 {z : Nat} : ckL z 118 (bcs z 118) := ⟨hc_ob (a := 118) (c := 0) rfl rfl, hc_z (a := 119) (kd := 0) (n := 8) rfl (by decide), hc_z (a := 120) (kd := 0) (n := 10) rfl (by decide), hc_z (a := 121) (kd := 0) (n := 10) rfl (by decide), hc_z (a := 122) (kd := 0) (n := 10) rfl (by decide), hc_ob (a := 123) (c := 5) rfl rfl, hc_z (a := 124) (kd := 0) (n := 9) rfl (by decide), trivial⟩
theorem cB125 {z : Nat} : ckL z 125 (bcs z 125) := ⟨hc_ob (a := 125) (c := 0) rfl rfl, hc_z (a := 126) (kd := 0) (n := 8) rfl (by decide), hc_z (a := 127) (kd := 0) (n := 10) rfl (by decide), hc_z (a := 128) (kd := 0) (n := 10) rfl (by decide), hc_z (a := 129) (kd := 0) (n := 10) rfl (by decide), hc_ob (a := 130) (c := 5) rfl rfl, hc_z (a := 131) (kd := 0) (n := 9) rfl (by decide), trivial⟩
theorem cB1 {z : Nat} : ckL z 1 (bcsB z) := ⟨hc_ob (a := 1) (c := 0) rfl rfl, rfl, hc_z (a := 3) (kd := 0) (n := 10) rfl (by decide), hc_z (a := 4) (kd := 0) (n := 10) rfl (by decide), hc_z (a := 5) (kd := 0) (n := 10) rfl (by decide), hc_ob (a := 6) (c := 5) rfl rfl, hc_z (a := 7) (kd := 0) (n := 9) rfl (by decide), trivial⟩
theorem cR15 {z : Nat} : ckL z 15 (rcs z 15) := ckL_app (m := 30) rfl ⟨hc_ob (a := 15) (c := 4) rfl rfl, hc_ob (a := 16) (c := 2) rfl rfl, hc_z (a := 17) (kd := 0) (n := 120) rfl (by decide), hc_z (a := 18) (kd := 0) (n := 120) rfl (by decide), hc_z (a := 19) (kd := 0) (n := 120) rfl (by decide), hc_z (a := 20) (kd := 0) (n := 120) rfl (by decide), hc_z (a := 21) (kd := 0) (n := 120) rfl (by decide), hc_z (a := 22) (kd := 0) (n := 226) rfl (by decide), hc_z (a := 23) (kd := 0) (n := 226) rfl (by decide), hc_z (a := 24) (kd := 0) (n := 226) rfl (by decide), hc_z (a := 25) (kd := 0) (n := 240) rfl (by decide), hc_ob (a := 26) (c := 1) rfl rfl, hc_z (a := 27) (kd := 0) (n := 240) rfl (by decide), hc_ob (a := 28) (c := 5) rfl rfl, hc_z (a := 29) (kd := 0) (n := 9) rfl (by decide), trivial⟩ cB30
theorem cX37 {z : Nat} : ckL z 37 (xcs z 37) := ckL_app (m := 39) rfl ⟨hc_ob (a := 37) (c := 3) rfl rfl, hc_z (a := 38) (kd := 0) (n := 500) rfl (by decide), trivial⟩ cB39
theorem cR45 {z : Nat} : ckL z 1 (R45 z) := ckL_app (m := 37) rfl (ckL_app (m := 15) rfl (ckL_app (m := 8) rfl cB1 cB8) cR15) cX37
theorem cf_v {f : Nat → Option Nat} {k : Nat} {v : Option Nat} {i : Nat} : va_up f k v i = if i = k then v else f i := rfl
theorem fH_e {z : Nat} : (fun i => if i < (sh 46).2 then some (z + if 46 = 46 then gV M0 (2 + i) else 118 + 7 * i) else none) = fH z := by
  funext i
  show (if i < 10 then some (z + gV M0 (2 + i)) else none) = _
  rcases (show i = 0 ∨ i = 1 ∨ i = 2 ∨ i = 3 ∨ i = 4 ∨ i = 5 ∨ i = 6 ∨ i = 7 ∨ i = 8 ∨ i = 9 ∨ 10 ≤ i by omega) with e | e | e | e | e | e | e | e | e | e | e
  · subst e; rfl
  · subst e; rfl
  · subst e; rfl
  · subst e; rfl
  · subst e; rfl
  · subst e; rfl
  · subst e; rfl
  · subst e; rfl
  · subst e; rfl
  · subst e; rfl
  · rw [if_neg (by omega)]; unfold fH
    rw [cf_v, if_neg (by omega), cf_v, if_neg (by omega), cf_v, if_neg (by omega), cf_v, if_neg (by omega), cf_v, if_neg (by omega), cf_v, if_neg (by omega), cf_v, if_neg (by omega), cf_v, if_neg (by omega), cf_v, if_neg (by omega), cf_v, if_neg (by omega)]
theorem fS_e {z : Nat} : (fun i => if i < (sh 117).2 then some (z + if 117 = 46 then gV M0 (2 + i) else 118 + 7 * i) else none) = fS z := by
  funext i
  show (if i < 2 then some (z + (118 + 7 * i)) else none) = _
  rcases (show i = 0 ∨ i = 1 ∨ 2 ≤ i by omega) with e | e | e
  · subst e; rfl
  · subst e; rfl
  · rw [if_neg (by omega)]; unfold fS
    rw [cf_v, if_neg (by omega), cf_v, if_neg (by omega)]
theorem c46 {z : Nat} : hc S0 z M0 46 = some (.inl (4, 10, .inr (.inr (.inr (.inr (fH z)))))) := by rw [← fH_e]; rfl
theorem c117 {z : Nat} : hc S0 z M0 117 = some (.inl (4, 2, .inr (.inr (.inr (.inr (fS z)))))) := by rw [← fS_e]; rfl

theorem cH70 {z : Nat} : ckL z 47 (H70 z) := ckL_app (m := 110) rfl (ckL_app (m := 103) rfl (ckL_app (m := 96) rfl (ckL_app (m := 89) rfl (ckL_app (m := 82) rfl (ckL_app (m := 75) rfl (ckL_app (m := 68) rfl (ckL_app (m := 61) rfl (ckL_app (m := 54) rfl (ckL_app (m := 47) rfl (A := []) trivial cB47) cB54) cB61) cB68) cB75) cB82) cB89) cB96) cB103) cB110
theorem cR116 {z : Nat} : ckL z 1 (R116 z) := ckL_app (m := 46) rfl cR45 ⟨c46, cH70⟩
theorem cCS6 {z : Nat} : ckL z 0 (CS6 z) := ⟨hc_ob (a := 0) (c := 6) rfl rfl, ckL_app (m := 132) rfl (ckL_app (m := 117) rfl cR116 ⟨c117, ckL_app (m := 125) rfl (ckL_app (m := 118) (A := []) rfl trivial cB118) cB125⟩) ⟨hc_z (a := 132) (kd := 2) (n := 2) rfl (by decide), trivial⟩⟩
theorem cALL {z : Nat} : hL z (CS6 z) = hp S0 z M0 := hL_hp cCS6 rfl
theorem gV0 {i : Nat} : gV M0 (2 + i) = 47 + 7 * i := by
  show (if 2 + i = 0 then 30 else 47 + 7 * (2 + i - 2)) = _
  rw [if_neg (by omega)]; omega
theorem inv0 : LB M0 q0 := by
  refine ⟨⟨⟨⟨fun k _ => rfl, rfl, fun i x h => ?_⟩, fun k _ => ⟨rfl, by show 0 < 65536; omega⟩⟩, ⟨rfl, fun i hi => ⟨i, hi, gV0⟩, fun i j _ _ e => ?_, fun i u h => ?_⟩, fun i _ => ⟨rfl, fun u h => ?_⟩, rfl, fun i v h => ?_, rfl⟩, ?_, rfl⟩
  · simp [q0, c0] at h
  · rw [gV0, gV0] at e; omega
  · simp [q0] at h
  · simp [q0] at h
  · simp [q0] at h
  · refine ⟨⟨okC_c0, fun k _ => ?_⟩, fun u h => ?_, ?_, fun i u _ h => ?_, ?_, fun v h => ?_, ?_, ?_⟩
    · show 0 < 65536; omega
    · simp [q0] at h
    · show 0 ≤ 10; omega
    · simp [q0] at h
    · show 0 ≤ 500; omega
    · simp [q0] at h
    · show (-1 : Int) ≤ -1; omega
    · show (-1 : Int) ≤ 500; omega
theorem pl_law (xs : Nat → Int32) (L q : Nat) (hL : L ≤ 3072) : ∃ σ' : ac_H, m_L_law (fun _ => none) xs L q = some ((), σ') := by
  unfold m_L_law
  rw [X6_in, mo_cs_s, cALL]
  obtain ⟨σ', h⟩ := law_l13 (z := q) (xs := xs) hL 5 0 133 S0 M0 q0 (by omega) (by omega) inv0 (by omega)
  exact ⟨σ', by rw [← jI_nat L]; exact h⟩

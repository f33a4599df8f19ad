/-! A RUN as a function of the settings and faults. -/
theorem okC.s {c : hCf} (h : okC c) : (0 ≤ c.1 0 ∧ c.1 0 ≤ 2) ∧ (1 ≤ c.1 1 ∧ c.1 1 ≤ 8) ∧ (10 ≤ c.1 2 ∧ c.1 2 ≤ 200) ∧ (1 ≤ c.1 3 ∧ c.1 3 ≤ 5) ∧ (1 ≤ c.1 4 ∧ c.1 4 ≤ 20) ∧ (1 ≤ c.1 5 ∧ c.1 5 ≤ 4) ∧ (2 ≤ c.1 6 ∧ c.1 6 ≤ 8) ∧ (1 ≤ c.1 7 ∧ c.1 7 ≤ 200) :=
  ⟨h.2.2 0 (by decide), h.2.2 1 (by decide), h.2.2 2 (by decide), h.2.2 3 (by decide), h.2.2 4 (by decide), h.2.2 5 (by decide), h.2.2 6 (by decide), h.2.2 7 (by decide)⟩
/-- a transmission: tick, kind, content, first and second arrival -/
abbrev hT : Type := Int × Int × Int × Int × Int
/-- a run's state: transmissions, deliveries, states, base, following, since, taken, complete -/
abbrev hS : Type := List hT × List Int × (Nat → Nat) × Int × Int × Int × Int × Int
def cAmt (c : hCf) (k : Nat) : Int := if fnd 2 k c.2 0 = -1 then 0 else (c.2.getD (fnd 2 k c.2 0).toNat (0, 0, 0)).2.2
def tFst (c : hCf) (t : Int) (k : Nat) : Int := if fnd 0 k c.2 0 = -1 then t + c.1 3 + cAmt c k else -1
def tSnd (c : hCf) (t : Int) (k : Nat) : Int := if fnd 0 k c.2 0 = -1 then (if fnd 1 k c.2 0 = -1 then -1 else t + c.1 3 + cAmt c k + 1) else -1
def zSend (c : hCf) (t kd w : Int) (s : hS) : hS := if s.1.length = 120 then s else (s.1 ++ [(t, kd, w, tFst c t s.1.length, tSnd c t s.1.length)], s.2)
def seenM (O : List Int) : Nat := O.foldl (fun m x => m ||| 2 ^ x.toNat) 0
def zDel (c : hCf) (t w : Int) : hS → hS := fun ⟨T, O, W, B, N, J, K, C⟩ => (T, O ++ [w], W, B, N, J, K, if C = -1 ∧ seenM (O ++ [w]) = 2 ^ (c.1 1).toNat - 1 then t else C)
def zSg (c : hCf) : Int := if c.1 0 = 1 then 2 else c.1 6
def zTk : hS → hS := fun ⟨T, O, W, B, N, J, K, C⟩ => (T, O, W, B, N, J, K + 1, C)
def sK (s : hS) : Int := s.2.2.2.2.2.2.1
def zD1 (c : hCf) (t w : Int) (s : hS) : hS := if w % zSg c = sK s % zSg c then zTk (zDel c t w s) else s
def zData (c : hCf) (t w : Int) (s : hS) : hS := if c.1 0 = 0 then zDel c t w s else zSend c t 1 (if c.1 0 = 1 then w % 2 else sK (zD1 c t w s) % zSg c) (zD1 c t w s)
def zAck (m sg b : Int) : Nat → Int → Int
  | 0, _ => 0
  | n + 1, d => if (b + d) % m = sg then d else zAck m sg b n (d + 1)
def zAns (c : hCf) (t sg : Int) : hS → hS := fun ⟨T, O, W, B, N, J, K, C⟩ =>
  if c.1 0 = 1 then (if B < c.1 1 ∧ sg = B % 2 then (T, O, W, B + 1, N, -1, K, C) else (T, O, W, B, N, J, K, C))
  else (if zAck (c.1 6) sg B (N - B).toNat 1 = 0 then (T, O, W, B, N, J, K, C) else (T, O, W, B + zAck (c.1 6) sg B (N - B).toNat 1, N, t, K, C))
def zB1 : hS → hS := fun ⟨T, O, W, B, N, J, K, C⟩ => (T, O, W, B + 1, N, J, K, C)
def zJt (t : Int) : hS → hS := fun ⟨T, O, W, B, N, _, K, C⟩ => (T, O, W, B, N, t, K, C)
def zNx (t : Int) : hS → hS := fun ⟨T, O, W, B, N, J, K, C⟩ => (T, O, W, B, N + 1, if B = N then t else J, K, C)
/-- a window's turn, behind the timer -/
def zWin (c : hCf) (t : Int) (s : hS) : hS := if s.2.2.2.2.1 < s.2.2.2.1 + c.1 5 ∧ s.2.2.2.2.1 < c.1 1 then zNx t (zSend c t 0 s.2.2.2.2.1 s) else s
def zTim (c : hCf) (t : Int) : hS → hS := fun ⟨T, O, W, B, N, J, K, C⟩ => if B < N ∧ c.1 4 ≤ t - J then (T, O, W, B, B, t, K, C) else (T, O, W, B, N, J, K, C)
def zTurn (c : hCf) (t : Int) (s : hS) : hS :=
  if c.1 0 = 0 then (if s.2.2.2.1 < c.1 1 then zB1 (zSend c t 0 s.2.2.2.1 s) else s)
  else if c.1 0 = 1 then (if s.2.2.2.1 < c.1 1 ∧ (s.2.2.2.2.2.1 = -1 ∨ c.1 4 ≤ t - s.2.2.2.2.2.1) then zJt t (zSend c t 0 s.2.2.2.1 s) else s)
  else zWin c t (zTim c t s)
def zHand (c : hCf) (t : Int) (k : Nat) (s : hS) : hS := match s.1[k]? with
  | some x => if x.2.1 = 0 then zData c t x.2.2.1 s else zAns c t x.2.2.1 s
  | none => s
def zIs (t : Int) (k : Nat) (T : List hT) : Bool := match T[k]? with
  | some x => decide (x.2.2.2.1 = t ∨ x.2.2.2.2 = t)
  | none => false
def zArr (c : hCf) (t : Int) : Nat → Nat → hS → hS
  | 0, _, s => s
  | n + 1, k, s => zArr c t n (k + 1) (if zIs t k s.1 = true then zHand c t k s else s)
def zSt : hS → hS := fun ⟨T, O, W, B, N, J, K, C⟩ => (T, O, fun k => if k = B.toNat then W k ||| 2 ^ (min 15 O.length) else W k, B, N, J, K, C)
def zTick (c : hCf) (t : Int) (s : hS) : hS := zSt (zTurn c t (zArr c t s.1.length 0 s))
def zOver (c : hCf) (t : Int) (s : hS) : Bool := decide (s.2.2.2.1 = c.1 1) && s.1.all (fun x => decide (x.2.2.2.1 ≤ t) && decide (x.2.2.2.2 ≤ t))
def zRun (c : hCf) : Nat → Int → hS → Int × hS
  | 0, t, s => (t, s)
  | n + 1, t, s => if zOver c t (zTick c t s) = true then (t + 1, zTick c t s) else zRun c n (t + 1) (zTick c t s)
def z0 : hS := ([], [], fun _ => 0, 0, 0, -1, 0, -1)
def zR (c : hCf) : Int × hS := zRun c (c.1 2).toNat 0 z0
/-- what holds of a transmission at tick t -/
def okT (c : hCf) (t : Int) (x : hT) : Prop := 0 ≤ x.1 ∧ x.1 ≤ t ∧ (x.2.1 = 0 ∨ (x.2.1 = 1 ∧ c.1 0 ≠ 0)) ∧ 0 ≤ x.2.2.1 ∧ x.2.2.1 ≤ 7 ∧ ((x.2.2.2.1 = -1 ∧ x.2.2.2.2 = -1) ∨ (x.1 < x.2.2.2.1 ∧ x.2.2.2.1 ≤ x.1 + 25 ∧ (x.2.2.2.2 = -1 ∨ x.2.2.2.2 = x.2.2.2.1 + 1)))
/-- what holds of a state at tick t -/
def zI (c : hCf) (t : Int) : hS → Prop := fun ⟨T, O, W, B, N, J, K, C⟩ => T.length ≤ 120 ∧ (∀ x ∈ T, okT c t x) ∧ (∀ x ∈ O, 0 ≤ x ∧ x ≤ 7) ∧ (0 ≤ B ∧ B ≤ c.1 1) ∧ (0 ≤ N ∧ N ≤ c.1 1 ∧ (c.1 0 = 2 → B ≤ N)) ∧ (-1 ≤ J ∧ J ≤ t) ∧ (0 ≤ K ∧ K ≤ O.length) ∧ (-1 ≤ C ∧ C ≤ t) ∧ ∀ k, W k < 65536
/-- what a step of tick t adds -/
def zX (t : Int) (s s' : hS) : Prop := ∃ ex : List hT, s'.1 = s.1 ++ ex ∧ ∀ x ∈ ex, x.1 = t ∧ (x.2.2.2.1 = -1 ∨ t < x.2.2.2.1) ∧ (x.2.2.2.2 = -1 ∨ t < x.2.2.2.2)
theorem zX.rfl' {t : Int} {s : hS} : zX t s s := ⟨[], by simp, by simp⟩
theorem zX.trans {t : Int} {s s' s'' : hS} (h : zX t s s') (h' : zX t s' s'') : zX t s s'' := by
  obtain ⟨e1, h1, g1⟩ := h
  obtain ⟨e2, h2, g2⟩ := h'
  refine ⟨e1 ++ e2, by rw [h2, h1, List.append_assoc], fun x hx => ?_⟩
  rcases List.mem_append.mp hx with hx | hx
  · exact g1 x hx
  · exact g2 x hx
theorem zX.of_eq {t : Int} {s s' : hS} (h : s'.1 = s.1) : zX t s s' := ⟨[], by simp [h], by simp⟩
theorem fnd_get {kd nm : Int} : ∀ (l : List hF) (i : Nat), fnd kd nm l i = -1 ∨ ∃ j x, fnd kd nm l i = ((i + j : Nat) : Int) ∧ l[j]? = some x ∧ x.1 = kd ∧ x.2.1 = nm := by
  intro l
  induction l with
  | nil => intro i; exact Or.inl rfl
  | cons y t ih =>
    intro i
    simp only [fnd]
    by_cases h : y.2.1 = nm ∧ y.1 = kd
    · rw [if_pos h]; exact Or.inr ⟨0, y, rfl, rfl, h.2, h.1⟩
    · rw [if_neg h]
      rcases ih (i + 1) with g | ⟨j, x, g1, g2, g3, g4⟩
      · exact Or.inl g
      · refine Or.inr ⟨j + 1, x, ?_, by simpa using g2, g3, g4⟩
        rw [g1]; congr 1; omega
theorem cAmt_in {c : hCf} (hc : okC c) (k : Nat) : 0 ≤ cAmt c k ∧ cAmt c k ≤ 20 := by
  unfold cAmt
  rcases fnd_get (kd := 2) (nm := k) c.2 0 with h | ⟨j, x, h1, h2, h3, h4⟩
  · rw [if_pos h]; omega
  · rw [if_neg (by omega), h1]
    have e : ((0 + j : Nat) : Int).toNat = j := by omega
    rw [e, List.getD_eq_getElem?_getD, h2]
    have := hc.at h2
    exact ⟨this.2.2.2.2.1, this.2.2.2.2.2⟩
theorem zI_send {c : hCf} {t kd w : Int} {s : hS} (hc : okC c) (h : zI c t s) (ht : 0 ≤ t) (hk : kd = 0 ∨ (kd = 1 ∧ c.1 0 ≠ 0)) (hw : 0 ≤ w ∧ w ≤ 7) : zI c t (zSend c t kd w s) ∧ zX t s (zSend c t kd w s) ∧ (zSend c t kd w s).2 = s.2 := by
  obtain ⟨T, O, W, B, N, J, K, C⟩ := s
  obtain ⟨h1, h2, h3, h4, h5, h6, h7, h8, h9⟩ := h
  have hs := hc.s
  unfold zSend
  simp only at h1 h2 ⊢
  by_cases hl : T.length = 120
  · rw [if_pos hl]; exact ⟨⟨h1, h2, h3, h4, h5, h6, h7, h8, h9⟩, zX.rfl', rfl⟩
  · rw [if_neg hl]
    have ha := cAmt_in hc T.length
    have hx : okT c t (t, kd, w, tFst c t T.length, tSnd c t T.length) ∧ (tFst c t T.length = -1 ∨ t < tFst c t T.length) ∧ (tSnd c t T.length = -1 ∨ t < tSnd c t T.length) := by
      unfold okT tFst tSnd
      by_cases g1 : fnd 0 T.length c.2 0 = -1
      · by_cases g2 : fnd 1 T.length c.2 0 = -1
        · simp only [if_pos g1, if_pos g2, true_or, or_true, and_true]; omega
        · simp only [if_pos g1, if_neg g2, true_or, or_true, and_true]; omega
      · simp only [if_neg g1, true_or, or_true, and_true, and_self]; omega
    refine ⟨⟨by simp only [List.length_append, List.length_cons, List.length_nil]; omega, fun x hx' => ?_, h3, h4, h5, h6, h7, h8, h9⟩, ⟨_, rfl, fun x hx' => ?_⟩, rfl⟩
    · rcases List.mem_append.mp hx' with g | g
      · exact h2 x g
      · simp only [List.mem_singleton] at g; rw [g]; exact hx.1
    · simp only [List.mem_singleton] at hx'; rw [hx']; exact ⟨rfl, hx.2⟩
theorem zI_del {c : hCf} {t w : Int} {s : hS} (h : zI c t s) (ht : 0 ≤ t) (hw : 0 ≤ w ∧ w ≤ 7) : zI c t (zDel c t w s) ∧ (zDel c t w s).1 = s.1 ∧ (zDel c t w s).2.1 = s.2.1 ++ [w] := by
  obtain ⟨T, O, W, B, N, J, K, C⟩ := s
  obtain ⟨h1, h2, h3, h4, h5, h6, h7, h8, h9⟩ := h
  refine ⟨⟨h1, h2, fun x hx => ?_, h4, h5, h6, ?_, ?_, h9⟩, rfl, rfl⟩
  · rcases List.mem_append.mp hx with g | g
    · exact h3 x g
    · simp only [List.mem_singleton] at g; rw [g]; exact hw
  · simp only [List.length_append, List.length_cons, List.length_nil]; omega
  · split <;> omega
theorem zSg_in {c : hCf} (hc : okC c) : 2 ≤ zSg c ∧ zSg c ≤ 8 := by
  have hs := hc.s
  unfold zSg; split <;> omega
theorem zI_d1 {c : hCf} {t w : Int} {s : hS} (h : zI c t s) (ht : 0 ≤ t) (hw : 0 ≤ w ∧ w ≤ 7) : zI c t (zD1 c t w s) ∧ (zD1 c t w s).1 = s.1 ∧ (zD1 c t w s).2.1.length ≤ s.2.1.length + 1 := by
  unfold zD1
  by_cases g : w % zSg c = sK s % zSg c
  · rw [if_pos g]
    have hd := zI_del h ht hw
    obtain ⟨T, O, W, B, N, J, K, C⟩ := s
    obtain ⟨⟨h1, h2, h3, h4, h5, h6, h7, h8, h9⟩, e1, e2⟩ := hd
    have h7' := h.2.2.2.2.2.2.1
    refine ⟨⟨h1, h2, h3, h4, h5, h6, ?_, h8, h9⟩, e1, ?_⟩
    · simp only [List.length_append, List.length_cons, List.length_nil]; omega
    · show (O ++ [w]).length ≤ _
      simp
  · rw [if_neg g]; exact ⟨h, rfl, by omega⟩
theorem zI_data {c : hCf} {t w : Int} {s : hS} (hc : okC c) (h : zI c t s) (ht : 0 ≤ t) (hw : 0 ≤ w ∧ w ≤ 7) : zI c t (zData c t w s) ∧ zX t s (zData c t w s) ∧ (zData c t w s).2.1.length ≤ s.2.1.length + 1 := by
  unfold zData
  by_cases g : c.1 0 = 0
  · rw [if_pos g]
    obtain ⟨h1, h2, h3⟩ := zI_del (w := w) h ht hw
    exact ⟨h1, zX.of_eq h2, by rw [h3]; simp⟩
  · rw [if_neg g]
    obtain ⟨h1, h2, h3⟩ := zI_d1 (w := w) h ht hw
    have hs := hc.s
    have hsg := zSg_in hc
    have hq : 0 ≤ (if c.1 0 = 1 then w % 2 else sK (zD1 c t w s) % zSg c) ∧ (if c.1 0 = 1 then w % 2 else sK (zD1 c t w s) % zSg c) ≤ 7 := by
      split
      · omega
      · have q1 := Int.emod_nonneg (sK (zD1 c t w s)) (show zSg c ≠ 0 by omega)
        have q2 := Int.emod_lt_of_pos (sK (zD1 c t w s)) (show 0 < zSg c by omega)
        omega
    obtain ⟨k1, k2, k3⟩ := zI_send (kd := 1) hc h1 ht (Or.inr ⟨rfl, g⟩) hq
    exact ⟨k1, (zX.of_eq h2).trans k2, by rw [k3]; exact h3⟩
theorem zAck_in {m sg b : Int} : ∀ (n : Nat) (d : Int), zAck m sg b n d = 0 ∨ (d ≤ zAck m sg b n d ∧ zAck m sg b n d < d + n) := by
  intro n
  induction n with
  | zero => intro d; exact Or.inl rfl
  | succ n ih =>
    intro d
    simp only [zAck]
    by_cases h : (b + d) % m = sg
    · rw [if_pos h]; exact Or.inr ⟨by omega, by omega⟩
    · rw [if_neg h]
      rcases ih (d + 1) with g | g
      · exact Or.inl g
      · exact Or.inr (by omega)
theorem zI_ans {c : hCf} {t sg : Int} {s : hS} (hc : okC c) (h : zI c t s) (ht : 0 ≤ t) (h0 : c.1 0 ≠ 0) : zI c t (zAns c t sg s) ∧ (zAns c t sg s).1 = s.1 ∧ (zAns c t sg s).2.1 = s.2.1 := by
  have hs := hc.s
  obtain ⟨T, O, W, B, N, J, K, C⟩ := s
  obtain ⟨h1, h2, h3, h4, h5, h6, h7, h8, h9⟩ := h
  unfold zAns
  simp only
  by_cases g : c.1 0 = 1
  · rw [if_pos g]
    by_cases g2 : B < c.1 1 ∧ sg = B % 2
    · rw [if_pos g2]; exact ⟨⟨h1, h2, h3, by omega, by omega, by omega, h7, h8, h9⟩, rfl, rfl⟩
    · rw [if_neg g2]; exact ⟨⟨h1, h2, h3, h4, h5, h6, h7, h8, h9⟩, rfl, rfl⟩
  · rw [if_neg g]
    rcases zAck_in (m := c.1 6) (sg := sg) (b := B) (N - B).toNat 1 with q | q
    · rw [if_pos q]; exact ⟨⟨h1, h2, h3, h4, h5, h6, h7, h8, h9⟩, rfl, rfl⟩
    · rw [if_neg (by omega)]; exact ⟨⟨h1, h2, h3, by omega, by omega, by omega, h7, h8, h9⟩, rfl, rfl⟩
theorem zI_turn {c : hCf} {t : Int} {s : hS} (hc : okC c) (h : zI c t s) (ht : 0 ≤ t) : zI c t (zTurn c t s) ∧ zX t s (zTurn c t s) ∧ (zTurn c t s).2.1 = s.2.1 := by
  have hs := hc.s
  unfold zTurn
  by_cases g0 : c.1 0 = 0
  · rw [if_pos g0]
    by_cases g1 : s.2.2.2.1 < c.1 1
    · rw [if_pos g1]
      obtain ⟨T, O, W, B, N, J, K, C⟩ := s
      have h4 := h.2.2.2.1
      obtain ⟨k1, k2, k3⟩ := zI_send (kd := 0) (w := B) hc h ht (Or.inl rfl) (by simp only at g1; omega)
      generalize hq : zSend c t 0 B (T, O, W, B, N, J, K, C) = q at k1 k2 k3
      obtain ⟨T', O', W', B', N', J', K', C'⟩ := q
      simp only [Prod.mk.injEq] at k3
      obtain ⟨e1, e2, e3, e4, e5, e6, e7⟩ := k3
      subst e1 e2 e3 e4 e5 e6 e7
      simp only [hq] at g1 ⊢
      obtain ⟨h1, h2, h3, h4, h5, h6, h7, h8, h9⟩ := k1
      exact ⟨⟨h1, h2, h3, by omega, by omega, h6, h7, h8, h9⟩, k2.trans (zX.of_eq rfl), rfl⟩
    · rw [if_neg g1]; exact ⟨h, zX.rfl', rfl⟩
  · rw [if_neg g0]
    by_cases g1 : c.1 0 = 1
    · rw [if_pos g1]
      by_cases g2 : s.2.2.2.1 < c.1 1 ∧ (s.2.2.2.2.2.1 = -1 ∨ c.1 4 ≤ t - s.2.2.2.2.2.1)
      · rw [if_pos g2]
        obtain ⟨T, O, W, B, N, J, K, C⟩ := s
        have h4 := h.2.2.2.1
        obtain ⟨k1, k2, k3⟩ := zI_send (kd := 0) (w := B) hc h ht (Or.inl rfl) (by simp only at g2; omega)
        generalize hq : zSend c t 0 B (T, O, W, B, N, J, K, C) = q at k1 k2 k3
        obtain ⟨T', O', W', B', N', J', K', C'⟩ := q
        simp only [Prod.mk.injEq] at k3
        obtain ⟨e1, e2, e3, e4, e5, e6, e7⟩ := k3
        subst e1 e2 e3 e4 e5 e6 e7
        simp only [hq] at g2 ⊢
        obtain ⟨h1, h2, h3, h4, h5, h6, h7, h8, h9⟩ := k1
        exact ⟨⟨h1, h2, h3, h4, h5, by omega, h7, h8, h9⟩, k2.trans (zX.of_eq rfl), rfl⟩
      · rw [if_neg g2]; exact ⟨h, zX.rfl', rfl⟩
    · rw [if_neg g1]
      have ht1 : zI c t (zTim c t s) ∧ (zTim c t s).1 = s.1 ∧ (zTim c t s).2.1 = s.2.1 := by
        obtain ⟨T, O, W, B, N, J, K, C⟩ := s
        obtain ⟨h1, h2, h3, h4, h5, h6, h7, h8, h9⟩ := h
        unfold zTim; simp only
        split
        · exact ⟨⟨h1, h2, h3, h4, by omega, by omega, h7, h8, h9⟩, rfl, rfl⟩
        · exact ⟨⟨h1, h2, h3, h4, h5, h6, h7, h8, h9⟩, rfl, rfl⟩
      generalize zTim c t s = s2 at ht1
      obtain ⟨h, q1, q2⟩ := ht1
      unfold zWin
      by_cases g2 : s2.2.2.2.2.1 < s2.2.2.2.1 + c.1 5 ∧ s2.2.2.2.2.1 < c.1 1
      · rw [if_pos g2]
        obtain ⟨T, O, W, B, N, J, K, C⟩ := s2
        have h4 := h.2.2.2.1
        have h5 := h.2.2.2.2.1
        obtain ⟨k1, k2, k3⟩ := zI_send (kd := 0) (w := N) hc h ht (Or.inl rfl) (by simp only at g2; omega)
        generalize hq : zSend c t 0 N (T, O, W, B, N, J, K, C) = q at k1 k2 k3
        obtain ⟨T', O', W', B', N', J', K', C'⟩ := q
        simp only [Prod.mk.injEq] at k3
        obtain ⟨e1, e2, e3, e4, e5, e6, e7⟩ := k3
        subst e1 e2 e3 e4 e5 e6 e7
        simp only [hq] at g2 ⊢
        obtain ⟨h1, h2, h3, h4, h5, h6, h7, h8, h9⟩ := k1
        refine ⟨⟨h1, h2, h3, h4, by omega, ?_, h7, h8, h9⟩, ((zX.of_eq q1).trans k2).trans (zX.of_eq rfl), q2⟩
        split <;> omega
      · rw [if_neg g2]; exact ⟨h, zX.of_eq q1, q2⟩
theorem zI_hand {c : hCf} {t : Int} {k : Nat} {s : hS} (hc : okC c) (h : zI c t s) (ht : 0 ≤ t) : zI c t (zHand c t k s) ∧ zX t s (zHand c t k s) ∧ (zHand c t k s).2.1.length ≤ s.2.1.length + 1 := by
  unfold zHand
  cases hk : s.1[k]? with
  | none => exact ⟨h, zX.rfl', by simp only; omega⟩
  | some x =>
    simp only
    obtain ⟨o1, o2, o3, o4, o5, o6⟩ := h.2.1 x (List.mem_of_getElem? hk)
    by_cases g : x.2.1 = 0
    · rw [if_pos g]; exact zI_data hc h ht ⟨o4, o5⟩
    · rw [if_neg g]
      obtain ⟨k1, k2, k3⟩ := zI_ans (sg := x.2.2.1) hc h ht (by rcases o3 with o | o; exact absurd o g; exact o.2)
      exact ⟨k1, zX.of_eq k2, by rw [k3]; omega⟩


/-! A FAULT OF A NUMBER THAT IS NEVER SENT CHANGES NOTHING. -/
def agr (S0 : Nat → Int) (l l' : List hF) (n : Nat) : Prop := ∀ k, k < n → ∀ t, tFst (S0, l) t k = tFst (S0, l') t k ∧ tSnd (S0, l) t k = tSnd (S0, l') t k
theorem zSend_len {c : hCf} {t kd w : Int} {s : hS} : s.1.length ≤ (zSend c t kd w s).1.length := by
  unfold zSend; split
  · exact Nat.le_refl _
  · simp
theorem zSend_cg {S0 : Nat → Int} {l l' : List hF} {n : Nat} {t kd w : Int} {s : hS} (h : agr S0 l l' n) (hl : (zSend (S0, l) t kd w s).1.length ≤ n) : zSend (S0, l) t kd w s = zSend (S0, l') t kd w s := by
  unfold zSend at hl ⊢
  by_cases g : s.1.length = 120
  · rw [if_pos g, if_pos g]
  · rw [if_neg g] at hl ⊢
    rw [if_neg g]
    simp only [List.length_append, List.length_cons, List.length_nil] at hl
    obtain ⟨h1, h2⟩ := h s.1.length (by omega) t
    rw [h1, h2]
theorem zDel_1 {c : hCf} {t w : Int} {s : hS} : (zDel c t w s).1 = s.1 := by obtain ⟨T, O, W, B, N, J, K, C⟩ := s; rfl
theorem zD1_1 {c : hCf} {t w : Int} {s : hS} : (zD1 c t w s).1 = s.1 := by
  unfold zD1; split
  · obtain ⟨T, O, W, B, N, J, K, C⟩ := s; rfl
  · rfl
theorem zData_len {c : hCf} {t w : Int} {s : hS} : s.1.length ≤ (zData c t w s).1.length := by
  unfold zData; split
  · rw [zDel_1]; exact Nat.le_refl _
  · have := zSend_len (c := c) (t := t) (kd := 1) (w := if c.1 0 = 1 then w % 2 else sK (zD1 c t w s) % zSg c) (s := zD1 c t w s)
    rwa [zD1_1] at this
theorem zData_cg {S0 : Nat → Int} {l l' : List hF} {n : Nat} {t w : Int} {s : hS} (h : agr S0 l l' n) (hl : (zData (S0, l) t w s).1.length ≤ n) : zData (S0, l) t w s = zData (S0, l') t w s := by
  unfold zData at hl ⊢
  by_cases g : S0 0 = 0
  · rw [if_pos g, if_pos g]; rfl
  · rw [if_neg g] at hl ⊢
    rw [if_neg g]
    exact zSend_cg h hl
theorem zAns_1 {c : hCf} {t sg : Int} {s : hS} : (zAns c t sg s).1 = s.1 := by
  obtain ⟨T, O, W, B, N, J, K, C⟩ := s
  unfold zAns; simp only; split <;> split <;> rfl
theorem zHand_len {c : hCf} {t : Int} {k : Nat} {s : hS} : s.1.length ≤ (zHand c t k s).1.length := by
  unfold zHand; split
  · split
    · exact zData_len
    · rw [zAns_1]; exact Nat.le_refl _
  · exact Nat.le_refl _
theorem zHand_cg {S0 : Nat → Int} {l l' : List hF} {n : Nat} {t : Int} {k : Nat} {s : hS} (h : agr S0 l l' n) (hl : (zHand (S0, l) t k s).1.length ≤ n) : zHand (S0, l) t k s = zHand (S0, l') t k s := by
  unfold zHand at hl ⊢
  cases hk : s.1[k]? with
  | none => rfl
  | some x =>
    rw [hk] at hl
    simp only at hl ⊢
    by_cases g : x.2.1 = 0
    · rw [if_pos g] at hl ⊢; rw [if_pos g]; exact zData_cg h hl
    · rw [if_neg g, if_neg g]; rfl
theorem zArr_len {c : hCf} {t : Int} : ∀ (m k : Nat) (s : hS), s.1.length ≤ (zArr c t m k s).1.length := by
  intro m
  induction m with
  | zero => intro k s; exact Nat.le_refl _
  | succ m ih =>
    intro k s
    simp only [zArr]
    split
    · exact Nat.le_trans zHand_len (ih _ _)
    · exact ih _ _
theorem zArr_cg {S0 : Nat → Int} {l l' : List hF} {n : Nat} {t : Int} (h : agr S0 l l' n) : ∀ (m k : Nat) (s : hS), (zArr (S0, l) t m k s).1.length ≤ n → zArr (S0, l) t m k s = zArr (S0, l') t m k s := by
  intro m
  induction m with
  | zero => intro k s _; rfl
  | succ m ih =>
    intro k s hl
    simp only [zArr] at hl ⊢
    by_cases g : zIs t k s.1 = true
    · rw [if_pos g] at hl ⊢
      rw [if_pos g, ← zHand_cg h (Nat.le_trans (zArr_len m (k + 1) _) hl)]
      exact ih _ _ hl
    · rw [if_neg g] at hl ⊢
      rw [if_neg g]
      exact ih _ _ hl
theorem zB1_1 {s : hS} : (zB1 s).1 = s.1 := by obtain ⟨T, O, W, B, N, J, K, C⟩ := s; rfl
theorem zJt_1 {t : Int} {s : hS} : (zJt t s).1 = s.1 := by obtain ⟨T, O, W, B, N, J, K, C⟩ := s; rfl
theorem zNx_1 {t : Int} {s : hS} : (zNx t s).1 = s.1 := by obtain ⟨T, O, W, B, N, J, K, C⟩ := s; rfl
theorem zSt_1 {s : hS} : (zSt s).1 = s.1 := by obtain ⟨T, O, W, B, N, J, K, C⟩ := s; rfl
theorem zTim_1 {c : hCf} {t : Int} {s : hS} : (zTim c t s).1 = s.1 := by
  obtain ⟨T, O, W, B, N, J, K, C⟩ := s
  unfold zTim; simp only; split <;> rfl
theorem zTurn_len {c : hCf} {t : Int} {s : hS} : s.1.length ≤ (zTurn c t s).1.length := by
  unfold zTurn; split
  · split
    · rw [zB1_1]; exact zSend_len
    · exact Nat.le_refl _
  · split
    · split
      · rw [zJt_1]; exact zSend_len
      · exact Nat.le_refl _
    · unfold zWin; split
      · rw [zNx_1]; exact Nat.le_trans (by rw [zTim_1]; exact Nat.le_refl _) (zSend_len (s := zTim c t s))
      · rw [zTim_1]; exact Nat.le_refl _
theorem zTurn_cg {S0 : Nat → Int} {l l' : List hF} {n : Nat} {t : Int} {s : hS} (h : agr S0 l l' n) (hl : (zTurn (S0, l) t s).1.length ≤ n) : zTurn (S0, l) t s = zTurn (S0, l') t s := by
  unfold zTurn at hl ⊢
  by_cases g0 : S0 0 = 0
  · rw [if_pos g0] at hl ⊢; rw [if_pos g0]
    by_cases g1 : s.2.2.2.1 < S0 1
    · rw [if_pos g1] at hl ⊢; rw [if_pos g1]
      rw [zB1_1] at hl
      rw [zSend_cg h hl]
    · rw [if_neg g1, if_neg g1]
  · rw [if_neg g0] at hl ⊢; rw [if_neg g0]
    by_cases g1 : S0 0 = 1
    · rw [if_pos g1] at hl ⊢; rw [if_pos g1]
      by_cases g2 : s.2.2.2.1 < S0 1 ∧ (s.2.2.2.2.2.1 = -1 ∨ S0 4 ≤ t - s.2.2.2.2.2.1)
      · rw [if_pos g2] at hl ⊢; rw [if_pos g2]
        rw [zJt_1] at hl
        rw [zSend_cg h hl]
      · rw [if_neg g2, if_neg g2]
    · rw [if_neg g1] at hl ⊢; rw [if_neg g1]
      have e : zTim (S0, l) t s = zTim (S0, l') t s := rfl
      rw [← e]
      generalize zTim (S0, l) t s = s2 at hl ⊢
      unfold zWin at hl ⊢
      by_cases g2 : s2.2.2.2.2.1 < s2.2.2.2.1 + S0 5 ∧ s2.2.2.2.2.1 < S0 1
      · rw [if_pos g2] at hl ⊢; rw [if_pos g2]
        rw [zNx_1] at hl
        rw [zSend_cg h hl]
      · rw [if_neg g2, if_neg g2]
theorem zTick_len {c : hCf} {t : Int} {s : hS} : s.1.length ≤ (zTick c t s).1.length := by
  unfold zTick; rw [zSt_1]; exact Nat.le_trans (zArr_len _ _ _) zTurn_len
theorem zTick_cg {S0 : Nat → Int} {l l' : List hF} {n : Nat} {t : Int} {s : hS} (h : agr S0 l l' n) (hl : (zTick (S0, l) t s).1.length ≤ n) : zTick (S0, l) t s = zTick (S0, l') t s := by
  unfold zTick at hl ⊢
  rw [zSt_1] at hl
  rw [zTurn_cg h hl, zArr_cg h _ _ _ (Nat.le_trans zTurn_len hl)]
theorem zRun_len {c : hCf} : ∀ (m : Nat) (t : Int) (s : hS), s.1.length ≤ (zRun c m t s).2.1.length := by
  intro m
  induction m with
  | zero => intro t s; exact Nat.le_refl _
  | succ m ih =>
    intro t s
    simp only [zRun]
    split
    · exact zTick_len
    · exact Nat.le_trans zTick_len (ih _ _)
theorem zRun_cg {S0 : Nat → Int} {l l' : List hF} {n : Nat} (h : agr S0 l l' n) : ∀ (m : Nat) (t : Int) (s : hS), (zRun (S0, l) m t s).2.1.length ≤ n → zRun (S0, l) m t s = zRun (S0, l') m t s := by
  intro m
  induction m with
  | zero => intro t s _; rfl
  | succ m ih =>
    intro t s hl
    have ht : (zTick (S0, l) t s).1.length ≤ n := by
      simp only [zRun] at hl
      split at hl
      · exact hl
      · exact Nat.le_trans (zRun_len _ _ _) hl
    have e := zTick_cg h ht
    simp only [zRun] at hl ⊢
    rw [← e]
    have eo : zOver (S0, l') t (zTick (S0, l) t s) = zOver (S0, l) t (zTick (S0, l) t s) := rfl
    rw [eo]
    by_cases g : zOver (S0, l) t (zTick (S0, l) t s) = true
    · rw [if_pos g, if_pos g]
    · rw [if_neg g] at hl ⊢; rw [if_neg g]
      exact ih _ _ hl
theorem brk_cg {S0 : Nat → Int} {l l' : List hF} {p : Nat} (h : agr S0 l l' (zR (S0, l)).2.1.length) : brk (S0, l) p = brk (S0, l') p := by
  have := zRun_cg h (S0 2).toNat 0 z0 (Nat.le_refl _)
  unfold brk zR
  simp only
  rw [this]
  rfl
/-- a single fault behind the last transmission of the run without faults -/
theorem brk_far {S0 : Nat → Int} {kd am : Int} {k p : Nat} (hk : (zR (S0, [])).2.1.length ≤ k) : brk (S0, [(kd, (k : Int), am)]) p = brk (S0, []) p := by
  symm
  apply brk_cg
  intro j hj t
  have e : ∀ q : Int, fnd q (j : Int) [(kd, (k : Int), am)] 0 = -1 := fun q => by
    simp only [fnd]; rw [if_neg (by omega)]
  have e0 : ∀ q : Int, fnd q (j : Int) [] 0 = -1 := fun q => rfl
  unfold tFst tSnd cAmt
  simp only [e, e0, if_true]
  exact ⟨trivial, trivial⟩


/-! READING of the model: statements, head, loop. -/
def sOne (L : List Int) (k : Nat) (s : hP) : hE := if s.2.1 k = true then .inl (2, tS L s.2.2) else sSet L k (s.1, fun j => if j = k then true else s.2.1 j, tN L s.2.2)
def sBody (L : List Int) (s : hP) : hE := match setOf L s.2.2 with
  | some k => eB (sOne L k s) fun s2 => if k = 5 then sSet L 6 s2 else .inr s2
  | none => sFault L s
theorem sBody_eq {L : List Int} {s : hP} : eB (sBody L s) (sSemi L) = sStmt L s := by
  unfold sBody sStmt sOne
  cases setOf L s.2.2 with
  | none => rfl
  | some k =>
    simp only
    by_cases g : s.2.1 k = true
    · rw [if_pos g, if_pos g]; rfl
    · rw [if_neg g, if_neg g]
      cases sSet L k (s.1, fun j => if j = k then true else s.2.1 j, tN L s.2.2) with
      | inl e => rfl
      | inr s2 =>
        by_cases e5 : k = 5
        · simp only [eB, e5, if_true]
        · simp only [eB, e5, if_false]
theorem mo_cs_bind {α : Type} {m : Option (Int32 × ac_H)} {F : Int32 → ac_H → Option α} {G : Int32 → ac_H → Option (Int32 × ac_H)} : mo_cs (mo_cs m G) F = mo_cs m fun x σ => mo_cs (G x σ) F := by
  cases m with
  | none => rfl
  | some a => rfl
theorem mo_cv_bind {α : Type} {σ : ac_H} {b ci : Nat} {m : Option (Int32 × ac_H)} {F : Int32 → ac_H → Option α} {G : Int32 → ac_H → Option (Int32 × ac_H)} : mo_cs (mo_cv σ b ci m G) F = mo_cv σ b ci m fun x τ => mo_cs (G x τ) F := by
  unfold mo_cv
  split
  · split
    · split <;> rfl
    · rfl
  · rfl

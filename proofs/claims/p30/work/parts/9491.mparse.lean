theorem sStmt_b {L : List Int} {s s' : hP} (h : sBody L s = .inr s') : sStmt L s = sSemi L s' := by rw [← sBody_eq, h]; rfl
theorem sStmt_e {L : List Int} {s : hP} {e : Int × Int} (h : sBody L s = .inl e) : sStmt L s = .inl e := by rw [← sBody_eq, h]; rfl
theorem sBody_ok {L : List Int} {s s' : hP} (ho : okP L s) (h : sBody L s = .inr s') : okP L s' := by
  unfold sBody at h
  split at h
  · next k hk =>
    have hw := setOf_in hk
    have hk7 : 0 ≤ (k : Int) ∧ (k : Int) ≤ 7 := by unfold wK at hw; omega
    obtain ⟨s1, e1, h⟩ := eB_r h
    unfold sOne at e1
    split at e1
    · cases e1
    · have o1 := (sSet_ok (s := (s.1, fun j => if j = k then true else s.2.1 j, tN L s.2.2)) ⟨ho.1, tN_le ho.2⟩ hk7 e1).1
      split at h
      · exact (sSet_ok o1 (by omega) h).1
      · cases h; exact o1
  · exact (sFault_ok ho h).1
/-! the errors -/
def okE (L : List Int) (e : Int × Int) : Prop := 1 ≤ e.1 ∧ e.1 ≤ 4 ∧ 0 ≤ e.2 ∧ e.2 ≤ L.length
theorem okE_t {L : List Int} {c : Int} {p : Nat} (hp' : p ≤ L.length) (hc : 1 ≤ c ∧ c ≤ 4) : okE L (c, (tS L p : Int)) := by
  have := tS_le hp'
  exact ⟨hc.1, hc.2, by show (0 : Int) ≤ tS L p; omega, by show (tS L p : Int) ≤ L.length; omega⟩
theorem sNum_e {L : List Int} {lo hi : Int} {p : Nat} {e : Int × Int} (hp' : p ≤ L.length) (h : sNum L lo hi p = .inl e) : okE L e := by
  unfold sNum at h
  split at h
  · split at h
    · cases h
    · cases h; exact okE_t hp' (by omega)
  · cases h; exact okE_t hp' (by omega)
theorem sSet_e {L : List Int} {k : Int} {s : hP} {e : Int × Int} (ho : okP L s) (h : sSet L k s = .inl e) : okE L e := by
  unfold sSet at h
  split at h
  · next hq => cases h; exact sNum_e ho.2 hq
  · cases h
theorem sSemi_e {L : List Int} {s : hP} {e : Int × Int} (ho : okP L s) (h : sSemi L s = .inl e) : okE L e := by
  unfold sSemi at h
  split at h
  · cases h
  · cases h; exact okE_t ho.2 (by omega)
theorem eB_l {e : hE} {f : hP → hE} {x : Int × Int} (h : eB e f = .inl x) : e = .inl x ∨ ∃ s, e = .inr s ∧ f s = .inl x := by
  cases e with
  | inl y => exact Or.inl h
  | inr s => exact Or.inr ⟨s, rfl, h⟩
theorem sFault_e {L : List Int} {s : hP} {e : Int × Int} (ho : okP L s) (h : sFault L s = .inl e) : okE L e := by
  have h1 := tN_le ho.2
  unfold sFault at h
  split at h
  · cases h; exact okE_t ho.2 (by omega)
  · split at h
    · split at h
      · next hq => cases h; exact sNum_e h1 hq
      · split at h
        · unfold sAmt at h
          split at h
          · split at h
            · next hq => cases h; exact sNum_e (tN_le h1) hq
            · cases h
          · cases h
        · cases h; exact okE_t h1 (by omega)
    · cases h; exact okE_t ho.2 (by omega)
theorem sStmt_er {L : List Int} {s : hP} {e : Int × Int} (ho : okP L s) (h : sStmt L s = .inl e) : okE L e := by
  unfold sStmt at h
  split at h
  · next k hk =>
    have hw := setOf_in hk
    have hk7 : 0 ≤ (k : Int) ∧ (k : Int) ≤ 7 := by unfold wK at hw; omega
    split at h
    · cases h; exact okE_t ho.2 (by omega)
    · have ho1 : okP L (s.1, fun j => if j = k then true else s.2.1 j, tN L s.2.2) := ⟨ho.1, tN_le ho.2⟩
      rcases eB_l h with h | ⟨s1, e1, h⟩
      · exact sSet_e ho1 h
      · have o1 := (sSet_ok ho1 hk7 e1).1
        split at h
        · rcases eB_l h with h | ⟨s2, e2, h⟩
          · exact sSet_e o1 h
          · exact sSemi_e (sSet_ok o1 (by omega) e2).1 h
        · exact sSemi_e o1 h
  · rcases eB_l h with h | ⟨s1, e1, h⟩
    · exact sFault_e ho h
    · exact sSemi_e (sFault_ok ho e1).1 h
theorem sLoop_e {L : List Int} : ∀ (n : Nat) (s : hP) (e : Int × Int), okP L s → sLoop L n s = .inl e → okE L e := by
  intro n
  induction n with
  | zero => intro s e _ h; cases h
  | succ n ih =>
    intro s e ho h
    unfold sLoop at h
    split at h
    · cases h
    · next h0 =>
      rcases eB_l h with h | ⟨s1, e1, h⟩
      · exact sStmt_er ho h
      · exact ih s1 e (sStmt_ok ho h0 e1).1 h
theorem sLoop_ok {L : List Int} : ∀ (n : Nat) (s s' : hP), okP L s → sLoop L n s = .inr s' → okP L s' := by
  intro n
  induction n with
  | zero => intro s s' ho h; cases h; exact ho
  | succ n ih =>
    intro s s' ho h
    unfold sLoop at h
    split at h
    · cases h; exact ho
    · next h0 =>
      obtain ⟨s1, e1, h⟩ := eB_r h
      exact ih s1 s' (sStmt_ok ho h0 e1).1 h
theorem sParse_e {L : List Int} {e : Int × Int} (h : sParse L = .inl e) : okE L e := by
  unfold sParse at h
  rcases eB_l h with h | ⟨s1, e1, h⟩
  · unfold sHead at h
    split at h
    · split at h
      · cases h; exact okE_t (tN_le (by omega)) (by omega)
      · next v hv =>
        have hv' := prot_in hv
        have ho3 : okP L (cS c0 0 v, fun _ => false, tN L (tN L 0)) := ⟨okC_c0.set (by omega) (by show (0 : Int) ≤ v ∧ v ≤ 2; exact hv'), tN_le (tN_le (by omega))⟩
        rcases eB_l h with h | ⟨s1, e1, h⟩
        · exact sSet_e ho3 h
        · have o1 := (sSet_ok ho3 (by omega) e1).1
          rcases eB_l h with h | ⟨s2, e2, h⟩
          · exact sSet_e o1 h
          · exact sSemi_e (sSet_ok o1 (by omega) e2).1 h
    · cases h; exact okE_t (by omega) (by omega)
  · exact sLoop_e _ _ _ (sHead_ok e1) h
theorem sParse_s {L : List Int} {s : hP} (h : sParse L = .inr s) : okP L s := by
  unfold sParse at h
  obtain ⟨s1, e1, h⟩ := eB_r h
  exact sLoop_ok _ _ _ (sHead_ok e1) h


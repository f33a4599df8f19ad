/-! READING of the model. -/
theorem sby_c {v x : Int} (hv : 0 ≤ v ∧ v ≤ 255) (hx : 97 ≤ x ∧ x ≤ 122) : (jI (sby v) = jI x) = (v = x) := by
  have hs := sby_w hv
  rw [jI_eq (by omega) (by omega) (by omega) (by omega)]
  apply propext
  unfold sby
  split <;> omega
/-- taking a number: the frame when it is there -/
def FT (M M' : hM) : Prop := (∀ a k, a ≠ 133 ∨ k < 5 ∨ (8 < k ∧ k ≠ 11) → gI M' a k = gI M a k) ∧ (∀ a k, gA M' a k = gA M a k) ∧ Vr M M'
/-- what may stand once -/
def bK (k : Nat) : Nat := if k = 7 then 3 else k - 3
theorem fnd_big {kd nm : Int} {c : hCf} (hc : okC c) (h : 120 ≤ nm) : fnd kd nm c.2 0 = -1 := by
  rcases fnd_get (kd := kd) (nm := nm) c.2 0 with g | ⟨j, x, _, h2, _, h4⟩
  · exact g
  · have := (hc.at h2).2.2.2.1
    omega
def sFl (L : List Int) (kd : Int) (s : hP) : hE := if s.1.2.length < 10 then (match sNum L 0 119 (tN L s.2.2) with
    | .inl e => .inl e
    | .inr nm => if fnd kd nm s.1.2 0 = -1 then sAmt L kd nm (s.1, s.2.1, tN L (tN L s.2.2)) else .inl (2, tS L (tN L s.2.2))) else .inl (4, tS L s.2.2)

/-! snapshots -/
theorem vpn1 : vp_nar .boolean (jI 1) = jI 1 := by decide
theorem vpn0 : vp_nar .boolean (jI 0) = jI 0 := by decide
theorem isB_s {s : Nat} (h : s < 2) : isB (118 + 7 * s) = true := by
  have : ∀ x : Fin 2, isB (118 + 7 * x.val) = true := by decide
  exact this ⟨s, h⟩
/-- promise 27 -/
def slS (sl : Nat → Option hU) (s : Nat) (u : hU) : Nat → Option hU := fun i => if i = s then some u else sl i
theorem slS1 {sl : Nat → Option hU} {s : Nat} {u : hU} : slS sl s u s = some u := if_pos rfl
theorem slS0 {sl : Nat → Option hU} {s i : Nat} {u : hU} (h : ¬ i = s) : slS sl s u i = sl i := if_neg h
def rSave (q : hQ) (s : Int) : hR := if 0 ≤ s ∧ s < 2 then (0, b2i (q.2.2.1 s.toNat).isSome, q.1, q.2.1, slS q.2.2.1 s.toNat q.1, q.2.2.2) else (1, 0, q)
/-- promise 28 -/
def rRest (q : hQ) (s : Int) : hR := if 0 ≤ s ∧ s < 2 then (match q.2.2.1 s.toNat with
  | none => (2, 0, q)
  | some u => (0, u.1.2.length, u, [], q.2.2)) else (1, 0, q)

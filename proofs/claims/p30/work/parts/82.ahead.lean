/-! THE MODEL'S comesAhead. -/
def low : Nat → Nat → Nat
  | 0, _ => 0
  | n + 1, d => if d % 2 = 1 then 1 else 2 * low n (d / 2)
def loT : Nat → Bool
  | 0 => true
  | k + 1 => decide (k &&& ((1024 - k) % 1024) = low 10 k) && loT k
theorem loT_ok : loT 1024 = true := by decide +kernel
theorem loT_at : ∀ (k : Nat), loT k = true → ∀ m, m < k → m &&& ((1024 - m) % 1024) = low 10 m := by
  intro k
  induction k with
  | zero => intro _ m hm; omega
  | succ k ih =>
    intro h m hm
    simp only [loT, Bool.and_eq_true, decide_eq_true_eq] at h
    by_cases g : m = k
    · subst g; exact h.1
    · exact ih h.2 m (by omega)
theorem and_dbl (a y : Nat) : a &&& (2 * y) = 2 * (a / 2 &&& y) := by
  apply Nat.eq_of_testBit_eq
  intro i
  cases i with
  | zero => simp [Nat.testBit_zero]
  | succ i => simp [Nat.testBit_succ, Nat.and_div_two]
theorem low_ahd : ∀ (n a b : Nat), (a &&& low n (a ^^^ b)) ≠ 0 ↔ ahd n a b = true := by
  intro n
  induction n with
  | zero => intro a b; simp [low, ahd]
  | succ n ih =>
    intro a b
    have hx : (a ^^^ b) / 2 = a / 2 ^^^ b / 2 := Nat.xor_div_two
    have hm : (a ^^^ b) % 2 = 1 ↔ ¬ a % 2 = b % 2 := by
      rw [Nat.xor_mod_two_eq_one]; omega
    simp only [low, ahd]
    by_cases g : a % 2 = b % 2
    · rw [if_neg (by rw [hm]; simp [g]), if_pos g, hx, ← ih, and_dbl]; omega
    · rw [if_pos (hm.mpr g), if_neg g, Nat.and_one_is_mod]; simp


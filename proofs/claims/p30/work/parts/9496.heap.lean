/-! THE CONSTRUCTORS of the law's objects; the law. -/
theorem X0_i {z n n1 n7 : Nat} {cs : List ac_E} (h1 : n1 = n + 1) (h7 : n7 = n + 7) (h : cs.length = n) : m_X0_init (ac_up (hL z cs) (z + n) (.inr (0, [.null, .null, .null, .null, .int 0, .null]))) (z + n) (z + n1) = some (z + n7, hL z (cs ++ bcs z n)) := by
  subst h1 h7; exact X0_in h
theorem X4_i {z n n1 n7 : Nat} {cs : List ac_E} (h1 : n1 = n + 1) (h7 : n7 = n + 22) (h : cs.length = n) : m_X4_init (ac_up (hL z cs) (z + n) (.inr (4, [.null, .null, .null, .null, .int 0, .int 0, .int 0, .int 0, .int 0, .int 0, .int 0, .int 0, .int 0, .int 0, .int 0]))) (z + n) (z + n1) = some (z + n7, hL z (cs ++ rcs z n)) := by
  subst h1 h7; exact X4_in h
theorem X3_i {z n n1 n7 : Nat} {cs : List ac_E} (h1 : n1 = n + 1) (h7 : n7 = n + 9) (h : cs.length = n) : m_X3_init (ac_up (hL z cs) (z + n) (.inr (3, [.null, .int 0, .int 0, .int 0, .int 0, .int 0, .int 0, .int 0, .int 0, .null]))) (z + n) (z + n1) = some (z + n7, hL z (cs ++ xcs z n)) := by
  subst h1 h7; exact X3_in h
def bcsB (z : Nat) : List ac_E := [.inr (0, [.ref (z + 2), .ref (z + 3), .ref (z + 4), .ref (z + 5), .int 0, .ref (z + 6)]), .inl (0, 8, .inl gB), .inl (0, kx_ar 0 10), .inl (0, kx_ar 0 10), .inl (0, kx_ar 0 10), .inr (5, [.ref (z + 7)]), .inl (0, kx_ar 0 9)]
theorem X0_bg1 {z : Nat} {vs : List Value} : m_X0_begin (hL z (.inr (6, vs) :: bcs z 1)) (z + 1) = some ((), hL z (.inr (6, vs) :: bcsB z)) := by
  have h := X0_bgL (z := z) (cs := .inr (6, vs) :: bcs z 1) (r1 := .ref (z + 3)) (r2 := .ref (z + 4)) (r3 := .ref (z + 5)) rfl rfl rfl rfl 8 0 hN_f (by omega) (by unfold hN_f; omega)
  have e : (.inr (6, vs) :: bcs z 1 : List ac_E).set 2 (.inl (0, 8, .inl (fun j => if j < 0 then jI (c0.1 j) else 0))) = .inr (6, vs) :: bcs z 1 := by
    apply set_same
    have : (fun j : Nat => if j < 0 then jI (c0.1 j) else (0 : Int32)) = fun _ => 0 := by
      funext j; rw [if_neg (by omega)]
    rw [this]; rfl
  rw [e] at h
  unfold m_X0_begin
  exact h
def R45 (z : Nat) : List ac_E := ((bcsB z ++ bcs z 8) ++ rcs z 15) ++ xcs z 37
def H70 (z : Nat) : List ac_E := (((((((((([] ++ bcs z 47) ++ bcs z 54) ++ bcs z 61) ++ bcs z 68) ++ bcs z 75) ++ bcs z 82) ++ bcs z 89) ++ bcs z 96) ++ bcs z 103) ++ bcs z 110)
def fH (z : Nat) : Nat → Option Nat := (va_up (va_up (va_up (va_up (va_up (va_up (va_up (va_up (va_up (va_up (fun _ => none) 0 (some (z + 47))) 1 (some (z + 54))) 2 (some (z + 61))) 3 (some (z + 68))) 4 (some (z + 75))) 5 (some (z + 82))) 6 (some (z + 89))) 7 (some (z + 96))) 8 (some (z + 103))) 9 (some (z + 110)))
def R116 (z : Nat) : List ac_E := R45 z ++ .inl (4, 10, .inr (.inr (.inr (.inr (fH z))))) :: H70 z
def fS (z : Nat) : Nat → Option Nat := va_up (va_up (fun _ => none) 0 (some (z + 118))) 1 (some (z + 125))
def CS6 (z : Nat) : List ac_E := .inr (6, [.ref (z + 1), .ref (z + 8), .ref (z + 15), .ref (z + 37), .ref (z + 46), .int 0, .ref (z + 117), .ref (z + 132)]) :: ((R116 z ++ .inl (4, 2, .inr (.inr (.inr (.inr (fS z))))) :: (([] ++ bcs z 118) ++ bcs z 125)) ++ [.inl (2, kx_ar 2 2)])
def o7F (z : Nat) : List Value := [.int 0, .ref (z + 134), .ref (z + 135), .int 0, .int 0, .int 0, .int 0, .int 0, .int 0, .int 0, .int (-1), .int 0, .int 0, .ref (z + 136), .ref (z + 134), .ref (z + 137), .ref (z + 138), .ref (z + 139), .ref (z + 140), .ref (z + 141), .ref (z + 142), .int 0, .ref (z + 143), .int 0, .int 0, .int 0, .int 0, .int 0, .ref (z + 144), .int 0, .int 0, .int 0, .int 0, .int 0, .int 0, .int 0, .int 0, .ref (z + 145), .ref (z + 146), .ref (z + 147)]
def M7 : List ac_E := [.inl (1, kx_ar 1 500), .inl (0, kx_ar 0 183), .inl (0, kx_ar 0 183), .inl (0, kx_ar 0 120), .inl (0, kx_ar 0 120), .inl (0, kx_ar 0 120), .inl (0, kx_ar 0 120), .inl (0, kx_ar 0 120), .inl (0, kx_ar 0 240), .inl (2, kx_ar 2 144), .inl (0, kx_ar 0 1830), .inl (0, kx_ar 0 366), .inl (2, kx_ar 2 2)]

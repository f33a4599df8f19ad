/-! ROWS: the law's script. -/
/-- the script's place -/
def mo_s {α : Type} (xs : Nat → Int32) (L : Nat) (j : Int32) (F : Int32 → Option α) : Option α := if j < 0 ∨ L ≤ j.toNatClampNeg then none else F (xs j.toNatClampNeg)
section KXL
variable {Λ : ex_L} {Γ : kx_T} {own : String} {cc : ByteArray} {nL : Nat} {ret : Option FieldType} {rm : Room} {tb : List ExceptionTableEntry} {N N' : Nat → Prop} {σ σ' : ac_H} {k n pc : Nat} {lv : List (Nat × Value)} {st : List Value} {α ρ ρ' : Type} {r : α}
def kx_X (Λ : ex_L) (Γ : kx_T) (b L : Nat) (xs : Nat → Int32) : Prop := va_X b L xs (kx_s Γ) (kx_s Γ).heap ∧ b < (kx_s Γ).heap.size ∧ ¬ ex_A Λ b
theorem kx_sld (K : kx_K Λ Γ own cc nL ret rm tb) {b L : Nat} {xs : Nat → Int32} (hX : kx_X Λ Γ b L xs) {j : Int32} (hd : decode cc pc = .ok (.iaload, 1)) {F : Int32 → Option α} (hf : mo_s xs L j F = some r) (kk : ∀ x : Int32, F x = some r → kx_S Λ Γ nL N σ k n (pc + 1) lv (.int x :: st)) : kx_S Λ Γ nL N σ k n pc lv (.int j :: .ref b :: st) := by
  unfold mo_s at hf
  split at hf
  · cases hf
  · rename_i hin
    exact fun H locs ls hR hN hS hl => va_sld K.1 K.2.1 hX.1 hX.2.1 hX.2.2 hS hin hd (kk _ hf H locs ls hR hN hS hl)
theorem kx_sln (K : kx_K Λ Γ own cc nL ret rm tb) {b L : Nat} {xs : Nat → Int32} (hX : kx_X Λ Γ b L xs) (hd : decode cc pc = .ok (.arraylength, 1)) (kk : kx_S Λ Γ nL N σ k n (pc + 1) lv (.int (Int32.ofNat L) :: st)) : kx_S Λ Γ nL N σ k n pc lv (.ref b :: st) := fun H locs ls hR hN hS hl => va_slen K.1 K.2.1 hX.1 hX.2.1 hX.2.2 hS hd (kk H locs ls hR hN hS hl)
end KXL

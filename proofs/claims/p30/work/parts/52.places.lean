/-! THE SAME AT EACH PLACE. -/
variable {S : hSh}
theorem rr_at0 (b j : Nat) (h : rr b j = 1000 + 0) : b = 15 ∧ j = 3 := by
  have hb : b < 133 := by
    rcases Nat.lt_or_ge b 133 with g | g
    · exact g
    · exfalso; unfold rr at h
      have : rfL.getD b [] = [] := by rw [List.getD_eq_getElem?_getD, List.getElem?_eq_none (by have : rfL.length = 133 := rfl; omega)]; rfl
      rw [this] at h; exact absurd h (by simp)
  have hj : j < 40 := by
    rcases Nat.lt_or_ge j 40 with g | g
    · exact g
    · exfalso; unfold rr at h
      have hl : ∀ b : Fin 133, (rfL.getD b.val []).length ≤ 40 := by decide +kernel
      have := hl ⟨b, hb⟩
      rw [List.getD_eq_getElem?_getD, List.getElem?_eq_none (by simp only at this; omega)] at h; exact absurd h (by simp)
  have : ∀ b : Fin 133, ∀ j : Fin 40, rr b.val j.val = 1000 + 0 → b.val = 15 ∧ j.val = 3 := by decide +kernel
  exact this ⟨b, hb⟩ ⟨j, hj⟩ h
theorem hg0_0 {α : Type} {z : Nat} {M : hM} {F : Nat → Option α} : mo_gr (hp S z M) z 6 0 F = F (z + 1) := hp_gr (a := 0) rfl
theorem hg0_1 {α : Type} {z : Nat} {M : hM} {F : Nat → Option α} : mo_gr (hp S z M) z 6 1 F = F (z + 8) := hp_gr (a := 0) rfl
theorem hg0_2 {α : Type} {z : Nat} {M : hM} {F : Nat → Option α} : mo_gr (hp S z M) z 6 2 F = F (z + 15) := hp_gr (a := 0) rfl
theorem hg0_3 {α : Type} {z : Nat} {M : hM} {F : Nat → Option α} : mo_gr (hp S z M) z 6 3 F = F (z + 37) := hp_gr (a := 0) rfl
theorem hg0_4 {α : Type} {z : Nat} {M : hM} {F : Nat → Option α} : mo_gr (hp S z M) z 6 4 F = F (z + 46) := hp_gr (a := 0) rfl
theorem hg0_5 {α : Type} {z : Nat} {M : hM} {F : Int32 → Option α} : mo_gi (hp S z M) z 6 5 F = F (jI (gI M 0 5)) := hp_gi (a := 0) rfl
theorem hw0_5 {α : Type} {z : Nat} {M : hM} {v : Int} {F : ac_H → Option α} : mo_pv (hp S z M) z 6 5 (.int (jI v)) F = F (hp S z (sI M 0 5 v)) := hp_pi (a := 0) rfl
theorem hg0_6 {α : Type} {z : Nat} {M : hM} {F : Nat → Option α} : mo_gr (hp S z M) z 6 6 F = F (z + 117) := hp_gr (a := 0) rfl
theorem hg0_7 {α : Type} {z : Nat} {M : hM} {F : Nat → Option α} : mo_gr (hp S z M) z 6 7 F = F (z + 132) := hp_gr (a := 0) rfl
theorem hv0 {α ρ : Type} {z : Nat} {M : hM} {m : Option (ρ × ac_H)} {F : ρ → ac_H → Option α} : mo_cv (hp S z M) z 6 m F = mo_cs m F := hp_cv (a := 0) rfl
theorem hx0 {ρ' ρ : Type} {z : Nat} {M : hM} {m : Option ((String ⊕ ρ) × ac_H)} {F : ρ → ac_H → Option ((String ⊕ ρ') × ac_H)} : mo_xv (hp S z M) z 6 m F = mo_xs m F := hp_xv (a := 0) rfl
theorem hg15_0 {α : Type} {z : Nat} {M : hM} {F : Nat → Option α} : mo_gr (hp S z M) (z + 15) 4 0 F = F (z + 16) := hp_gr (a := 15) rfl
theorem hg15_1 {α : Type} {z : Nat} {M : hM} {F : Nat → Option α} : mo_gr (hp S z M) (z + 15) 4 1 F = F (z + 26) := hp_gr (a := 15) rfl
theorem hg15_2 {α : Type} {z : Nat} {M : hM} {F : Nat → Option α} : mo_gr (hp S z M) (z + 15) 4 2 F = F (z + 28) := hp_gr (a := 15) rfl
theorem hg15_3 {α : Type} {z : Nat} {M : hM} {F : Nat → Option α} : mo_gr (hp S z M) (z + 15) 4 3 F = F (z + gV M 0) := hp_gv (a := 15) rfl
theorem hw15_3 {α : Type} {z v : Nat} {M : hM} {F : ac_H → Option α} : mo_pv (hp S z M) (z + 15) 4 3 (.ref (z + v)) F = F (hp S z (sV M 0 v)) := hp_pr (a := 15) rfl (rr_at0) (by decide)
theorem hg15_4 {α : Type} {z : Nat} {M : hM} {F : Int32 → Option α} : mo_gi (hp S z M) (z + 15) 4 4 F = F (jI (gI M 15 4)) := hp_gi (a := 15) rfl
theorem hw15_4 {α : Type} {z : Nat} {M : hM} {v : Int} {F : ac_H → Option α} : mo_pv (hp S z M) (z + 15) 4 4 (.int (jI v)) F = F (hp S z (sI M 15 4 v)) := hp_pi (a := 15) rfl
theorem hg15_5 {α : Type} {z : Nat} {M : hM} {F : Int32 → Option α} : mo_gi (hp S z M) (z + 15) 4 5 F = F (jI (gI M 15 5)) := hp_gi (a := 15) rfl
theorem hw15_5 {α : Type} {z : Nat} {M : hM} {v : Int} {F : ac_H → Option α} : mo_pv (hp S z M) (z + 15) 4 5 (.int (jI v)) F = F (hp S z (sI M 15 5 v)) := hp_pi (a := 15) rfl
theorem hg15_6 {α : Type} {z : Nat} {M : hM} {F : Int32 → Option α} : mo_gi (hp S z M) (z + 15) 4 6 F = F (jI (gI M 15 6)) := hp_gi (a := 15) rfl
theorem hw15_6 {α : Type} {z : Nat} {M : hM} {v : Int} {F : ac_H → Option α} : mo_pv (hp S z M) (z + 15) 4 6 (.int (jI v)) F = F (hp S z (sI M 15 6 v)) := hp_pi (a := 15) rfl
theorem hg15_7 {α : Type} {z : Nat} {M : hM} {F : Int32 → Option α} : mo_gi (hp S z M) (z + 15) 4 7 F = F (jI (gI M 15 7)) := hp_gi (a := 15) rfl
theorem hw15_7 {α : Type} {z : Nat} {M : hM} {v : Int} {F : ac_H → Option α} : mo_pv (hp S z M) (z + 15) 4 7 (.int (jI v)) F = F (hp S z (sI M 15 7 v)) := hp_pi (a := 15) rfl
theorem hg15_8 {α : Type} {z : Nat} {M : hM} {F : Int32 → Option α} : mo_gi (hp S z M) (z + 15) 4 8 F = F (jI (gI M 15 8)) := hp_gi (a := 15) rfl
theorem hw15_8 {α : Type} {z : Nat} {M : hM} {v : Int} {F : ac_H → Option α} : mo_pv (hp S z M) (z + 15) 4 8 (.int (jI v)) F = F (hp S z (sI M 15 8 v)) := hp_pi (a := 15) rfl
theorem hg15_9 {α : Type} {z : Nat} {M : hM} {F : Int32 → Option α} : mo_gi (hp S z M) (z + 15) 4 9 F = F (jI (gI M 15 9)) := hp_gi (a := 15) rfl
theorem hw15_9 {α : Type} {z : Nat} {M : hM} {v : Int} {F : ac_H → Option α} : mo_pv (hp S z M) (z + 15) 4 9 (.int (jI v)) F = F (hp S z (sI M 15 9 v)) := hp_pi (a := 15) rfl
theorem hg15_10 {α : Type} {z : Nat} {M : hM} {F : Int32 → Option α} : mo_gi (hp S z M) (z + 15) 4 10 F = F (jI (gI M 15 10)) := hp_gi (a := 15) rfl
theorem hw15_10 {α : Type} {z : Nat} {M : hM} {v : Int} {F : ac_H → Option α} : mo_pv (hp S z M) (z + 15) 4 10 (.int (jI v)) F = F (hp S z (sI M 15 10 v)) := hp_pi (a := 15) rfl
theorem hg15_11 {α : Type} {z : Nat} {M : hM} {F : Int32 → Option α} : mo_gi (hp S z M) (z + 15) 4 11 F = F (jI (gI M 15 11)) := hp_gi (a := 15) rfl
theorem hw15_11 {α : Type} {z : Nat} {M : hM} {v : Int} {F : ac_H → Option α} : mo_pv (hp S z M) (z + 15) 4 11 (.int (jI v)) F = F (hp S z (sI M 15 11 v)) := hp_pi (a := 15) rfl
theorem hg15_12 {α : Type} {z : Nat} {M : hM} {F : Int32 → Option α} : mo_gi (hp S z M) (z + 15) 4 12 F = F (jI (gI M 15 12)) := hp_gi (a := 15) rfl
theorem hw15_12 {α : Type} {z : Nat} {M : hM} {v : Int} {F : ac_H → Option α} : mo_pv (hp S z M) (z + 15) 4 12 (.int (jI v)) F = F (hp S z (sI M 15 12 v)) := hp_pi (a := 15) rfl
theorem hg15_13 {α : Type} {z : Nat} {M : hM} {F : Int32 → Option α} : mo_gi (hp S z M) (z + 15) 4 13 F = F (jI (gI M 15 13)) := hp_gi (a := 15) rfl
theorem hw15_13 {α : Type} {z : Nat} {M : hM} {v : Int} {F : ac_H → Option α} : mo_pv (hp S z M) (z + 15) 4 13 (.int (jI v)) F = F (hp S z (sI M 15 13 v)) := hp_pi (a := 15) rfl
theorem hg15_14 {α : Type} {z : Nat} {M : hM} {F : Int32 → Option α} : mo_gi (hp S z M) (z + 15) 4 14 F = F (jI (gI M 15 14)) := hp_gi (a := 15) rfl
theorem hw15_14 {α : Type} {z : Nat} {M : hM} {v : Int} {F : ac_H → Option α} : mo_pv (hp S z M) (z + 15) 4 14 (.int (jI v)) F = F (hp S z (sI M 15 14 v)) := hp_pi (a := 15) rfl
theorem hv15 {α ρ : Type} {z : Nat} {M : hM} {m : Option (ρ × ac_H)} {F : ρ → ac_H → Option α} : mo_cv (hp S z M) (z + 15) 4 m F = mo_cs m F := hp_cv (a := 15) rfl
theorem hx15 {ρ' ρ : Type} {z : Nat} {M : hM} {m : Option ((String ⊕ ρ) × ac_H)} {F : ρ → ac_H → Option ((String ⊕ ρ') × ac_H)} : mo_xv (hp S z M) (z + 15) 4 m F = mo_xs m F := hp_xv (a := 15) rfl
theorem hg16_0 {α : Type} {z : Nat} {M : hM} {F : Nat → Option α} : mo_gr (hp S z M) (z + 16) 2 0 F = F (z + 17) := hp_gr (a := 16) rfl
theorem hg16_1 {α : Type} {z : Nat} {M : hM} {F : Nat → Option α} : mo_gr (hp S z M) (z + 16) 2 1 F = F (z + 18) := hp_gr (a := 16) rfl
theorem hg16_2 {α : Type} {z : Nat} {M : hM} {F : Nat → Option α} : mo_gr (hp S z M) (z + 16) 2 2 F = F (z + 19) := hp_gr (a := 16) rfl
theorem hg16_3 {α : Type} {z : Nat} {M : hM} {F : Nat → Option α} : mo_gr (hp S z M) (z + 16) 2 3 F = F (z + 20) := hp_gr (a := 16) rfl
theorem hg16_4 {α : Type} {z : Nat} {M : hM} {F : Nat → Option α} : mo_gr (hp S z M) (z + 16) 2 4 F = F (z + 21) := hp_gr (a := 16) rfl
theorem hg16_5 {α : Type} {z : Nat} {M : hM} {F : Int32 → Option α} : mo_gi (hp S z M) (z + 16) 2 5 F = F (jI (gI M 16 5)) := hp_gi (a := 16) rfl
theorem hw16_5 {α : Type} {z : Nat} {M : hM} {v : Int} {F : ac_H → Option α} : mo_pv (hp S z M) (z + 16) 2 5 (.int (jI v)) F = F (hp S z (sI M 16 5 v)) := hp_pi (a := 16) rfl
theorem hg16_6 {α : Type} {z : Nat} {M : hM} {F : Nat → Option α} : mo_gr (hp S z M) (z + 16) 2 6 F = F (z + 22) := hp_gr (a := 16) rfl
theorem hg16_7 {α : Type} {z : Nat} {M : hM} {F : Nat → Option α} : mo_gr (hp S z M) (z + 16) 2 7 F = F (z + 23) := hp_gr (a := 16) rfl
theorem hg16_8 {α : Type} {z : Nat} {M : hM} {F : Nat → Option α} : mo_gr (hp S z M) (z + 16) 2 8 F = F (z + 24) := hp_gr (a := 16) rfl
theorem hg16_9 {α : Type} {z : Nat} {M : hM} {F : Nat → Option α} : mo_gr (hp S z M) (z + 16) 2 9 F = F (z + 25) := hp_gr (a := 16) rfl
theorem hg16_10 {α : Type} {z : Nat} {M : hM} {F : Int32 → Option α} : mo_gi (hp S z M) (z + 16) 2 10 F = F (jI (gI M 16 10)) := hp_gi (a := 16) rfl
theorem hw16_10 {α : Type} {z : Nat} {M : hM} {v : Int} {F : ac_H → Option α} : mo_pv (hp S z M) (z + 16) 2 10 (.int (jI v)) F = F (hp S z (sI M 16 10 v)) := hp_pi (a := 16) rfl
theorem hv16 {α ρ : Type} {z : Nat} {M : hM} {m : Option (ρ × ac_H)} {F : ρ → ac_H → Option α} : mo_cv (hp S z M) (z + 16) 2 m F = mo_cs m F := hp_cv (a := 16) rfl
theorem hx16 {ρ' ρ : Type} {z : Nat} {M : hM} {m : Option ((String ⊕ ρ) × ac_H)} {F : ρ → ac_H → Option ((String ⊕ ρ') × ac_H)} : mo_xv (hp S z M) (z + 16) 2 m F = mo_xs m F := hp_xv (a := 16) rfl
theorem hg26_0 {α : Type} {z : Nat} {M : hM} {F : Nat → Option α} : mo_gr (hp S z M) (z + 26) 1 0 F = F (z + 27) := hp_gr (a := 26) rfl
theorem hg26_1 {α : Type} {z : Nat} {M : hM} {F : Int32 → Option α} : mo_gi (hp S z M) (z + 26) 1 1 F = F (jI (gI M 26 1)) := hp_gi (a := 26) rfl
theorem hw26_1 {α : Type} {z : Nat} {M : hM} {v : Int} {F : ac_H → Option α} : mo_pv (hp S z M) (z + 26) 1 1 (.int (jI v)) F = F (hp S z (sI M 26 1 v)) := hp_pi (a := 26) rfl
theorem hg26_2 {α : Type} {z : Nat} {M : hM} {F : Int32 → Option α} : mo_gi (hp S z M) (z + 26) 1 2 F = F (jI (gI M 26 2)) := hp_gi (a := 26) rfl
theorem hw26_2 {α : Type} {z : Nat} {M : hM} {v : Int} {F : ac_H → Option α} : mo_pv (hp S z M) (z + 26) 1 2 (.int (jI v)) F = F (hp S z (sI M 26 2 v)) := hp_pi (a := 26) rfl
theorem hg26_3 {α : Type} {z : Nat} {M : hM} {F : Int32 → Option α} : mo_gi (hp S z M) (z + 26) 1 3 F = F (jI (gI M 26 3)) := hp_gi (a := 26) rfl
theorem hw26_3 {α : Type} {z : Nat} {M : hM} {v : Int} {F : ac_H → Option α} : mo_pv (hp S z M) (z + 26) 1 3 (.int (jI v)) F = F (hp S z (sI M 26 3 v)) := hp_pi (a := 26) rfl
theorem hg26_4 {α : Type} {z : Nat} {M : hM} {F : Int32 → Option α} : mo_gi (hp S z M) (z + 26) 1 4 F = F (jI (gI M 26 4)) := hp_gi (a := 26) rfl
theorem hw26_4 {α : Type} {z : Nat} {M : hM} {v : Int} {F : ac_H → Option α} : mo_pv (hp S z M) (z + 26) 1 4 (.int (jI v)) F = F (hp S z (sI M 26 4 v)) := hp_pi (a := 26) rfl
theorem hg26_5 {α : Type} {z : Nat} {M : hM} {F : Int32 → Option α} : mo_gi (hp S z M) (z + 26) 1 5 F = F (jI (gI M 26 5)) := hp_gi (a := 26) rfl
theorem hw26_5 {α : Type} {z : Nat} {M : hM} {v : Int} {F : ac_H → Option α} : mo_pv (hp S z M) (z + 26) 1 5 (.int (jI v)) F = F (hp S z (sI M 26 5 v)) := hp_pi (a := 26) rfl
theorem hg26_6 {α : Type} {z : Nat} {M : hM} {F : Int32 → Option α} : mo_gi (hp S z M) (z + 26) 1 6 F = F (jI (gI M 26 6)) := hp_gi (a := 26) rfl
theorem hw26_6 {α : Type} {z : Nat} {M : hM} {v : Int} {F : ac_H → Option α} : mo_pv (hp S z M) (z + 26) 1 6 (.int (jI v)) F = F (hp S z (sI M 26 6 v)) := hp_pi (a := 26) rfl
theorem hg26_7 {α : Type} {z : Nat} {M : hM} {F : Int32 → Option α} : mo_gi (hp S z M) (z + 26) 1 7 F = F (jI (gI M 26 7)) := hp_gi (a := 26) rfl
theorem hw26_7 {α : Type} {z : Nat} {M : hM} {v : Int} {F : ac_H → Option α} : mo_pv (hp S z M) (z + 26) 1 7 (.int (jI v)) F = F (hp S z (sI M 26 7 v)) := hp_pi (a := 26) rfl
theorem hv26 {α ρ : Type} {z : Nat} {M : hM} {m : Option (ρ × ac_H)} {F : ρ → ac_H → Option α} : mo_cv (hp S z M) (z + 26) 1 m F = mo_cs m F := hp_cv (a := 26) rfl
theorem hx26 {ρ' ρ : Type} {z : Nat} {M : hM} {m : Option ((String ⊕ ρ) × ac_H)} {F : ρ → ac_H → Option ((String ⊕ ρ') × ac_H)} : mo_xv (hp S z M) (z + 26) 1 m F = mo_xs m F := hp_xv (a := 26) rfl
theorem hg37_0 {α : Type} {z : Nat} {M : hM} {F : Nat → Option α} : mo_gr (hp S z M) (z + 37) 3 0 F = F (z + 38) := hp_gr (a := 37) rfl
theorem hg37_1 {α : Type} {z : Nat} {M : hM} {F : Int32 → Option α} : mo_gi (hp S z M) (z + 37) 3 1 F = F (jI (gI M 37 1)) := hp_gi (a := 37) rfl
theorem hw37_1 {α : Type} {z : Nat} {M : hM} {v : Int} {F : ac_H → Option α} : mo_pv (hp S z M) (z + 37) 3 1 (.int (jI v)) F = F (hp S z (sI M 37 1 v)) := hp_pi (a := 37) rfl
theorem hg37_2 {α : Type} {z : Nat} {M : hM} {F : Int32 → Option α} : mo_gi (hp S z M) (z + 37) 3 2 F = F (jI (gI M 37 2)) := hp_gi (a := 37) rfl
theorem hw37_2 {α : Type} {z : Nat} {M : hM} {v : Int} {F : ac_H → Option α} : mo_pv (hp S z M) (z + 37) 3 2 (.int (jI v)) F = F (hp S z (sI M 37 2 v)) := hp_pi (a := 37) rfl
theorem hg37_3 {α : Type} {z : Nat} {M : hM} {F : Int32 → Option α} : mo_gi (hp S z M) (z + 37) 3 3 F = F (jI (gI M 37 3)) := hp_gi (a := 37) rfl
theorem hw37_3 {α : Type} {z : Nat} {M : hM} {v : Int} {F : ac_H → Option α} : mo_pv (hp S z M) (z + 37) 3 3 (.int (jI v)) F = F (hp S z (sI M 37 3 v)) := hp_pi (a := 37) rfl
theorem hg37_4 {α : Type} {z : Nat} {M : hM} {F : Int32 → Option α} : mo_gi (hp S z M) (z + 37) 3 4 F = F (jI (gI M 37 4)) := hp_gi (a := 37) rfl
theorem hw37_4 {α : Type} {z : Nat} {M : hM} {v : Int} {F : ac_H → Option α} : mo_pv (hp S z M) (z + 37) 3 4 (.int (jI v)) F = F (hp S z (sI M 37 4 v)) := hp_pi (a := 37) rfl
theorem hg37_5 {α : Type} {z : Nat} {M : hM} {F : Int32 → Option α} : mo_gi (hp S z M) (z + 37) 3 5 F = F (jI (gI M 37 5)) := hp_gi (a := 37) rfl
theorem hw37_5 {α : Type} {z : Nat} {M : hM} {v : Int} {F : ac_H → Option α} : mo_pv (hp S z M) (z + 37) 3 5 (.int (jI v)) F = F (hp S z (sI M 37 5 v)) := hp_pi (a := 37) rfl
theorem hg37_6 {α : Type} {z : Nat} {M : hM} {F : Int32 → Option α} : mo_gi (hp S z M) (z + 37) 3 6 F = F (jI (gI M 37 6)) := hp_gi (a := 37) rfl
theorem hw37_6 {α : Type} {z : Nat} {M : hM} {v : Int} {F : ac_H → Option α} : mo_pv (hp S z M) (z + 37) 3 6 (.int (jI v)) F = F (hp S z (sI M 37 6 v)) := hp_pi (a := 37) rfl
theorem hg37_7 {α : Type} {z : Nat} {M : hM} {F : Int32 → Option α} : mo_gi (hp S z M) (z + 37) 3 7 F = F (jI (gI M 37 7)) := hp_gi (a := 37) rfl
theorem hw37_7 {α : Type} {z : Nat} {M : hM} {v : Int} {F : ac_H → Option α} : mo_pv (hp S z M) (z + 37) 3 7 (.int (jI v)) F = F (hp S z (sI M 37 7 v)) := hp_pi (a := 37) rfl
theorem hg37_8 {α : Type} {z : Nat} {M : hM} {F : Int32 → Option α} : mo_gi (hp S z M) (z + 37) 3 8 F = F (jI (gI M 37 8)) := hp_gi (a := 37) rfl
theorem hw37_8 {α : Type} {z : Nat} {M : hM} {v : Int} {F : ac_H → Option α} : mo_pv (hp S z M) (z + 37) 3 8 (.int (jI v)) F = F (hp S z (sI M 37 8 v)) := hp_pi (a := 37) rfl
theorem hg37_9 {α : Type} {z : Nat} {M : hM} {F : Nat → Option α} : mo_gr (hp S z M) (z + 37) 3 9 F = F (z + 39) := hp_gr (a := 37) rfl
theorem hv37 {α ρ : Type} {z : Nat} {M : hM} {m : Option (ρ × ac_H)} {F : ρ → ac_H → Option α} : mo_cv (hp S z M) (z + 37) 3 m F = mo_cs m F := hp_cv (a := 37) rfl
theorem hx37 {ρ' ρ : Type} {z : Nat} {M : hM} {m : Option ((String ⊕ ρ) × ac_H)} {F : ρ → ac_H → Option ((String ⊕ ρ') × ac_H)} : mo_xv (hp S z M) (z + 37) 3 m F = mo_xs m F := hp_xv (a := 37) rfl
theorem ha17 {α : Type} {z : Nat} {M : hM} {i : Int} {F : Int32 → Option α} (h0 : 0 ≤ i) (h1 : i < 120) : mo_ai (hp S z M) (z + 17) 0 (jI i) F = F (jI (gA M 17 i.toNat)) := hp_ai (n := 120) rfl (by decide) h0 h1
theorem hu17 {α : Type} {z : Nat} {M : hM} {i v : Int} {F : ac_H → Option α} (h0 : 0 ≤ i) (h1 : i < 120) : mo_ui (hp S z M) (z + 17) 0 (jI i) (jI v) F = F (hp S z (sA M 17 i.toNat v)) := hp_ui (n := 120) rfl (by decide) h0 h1
theorem hl17 {α : Type} {z : Nat} {M : hM} {F : Int32 → Option α} : mo_ln (hp S z M) (z + 17) F = F (jI 120) := hp_ln (kd := 0) (n := 120) rfl
theorem ha18 {α : Type} {z : Nat} {M : hM} {i : Int} {F : Int32 → Option α} (h0 : 0 ≤ i) (h1 : i < 120) : mo_ai (hp S z M) (z + 18) 0 (jI i) F = F (jI (gA M 18 i.toNat)) := hp_ai (n := 120) rfl (by decide) h0 h1
theorem hu18 {α : Type} {z : Nat} {M : hM} {i v : Int} {F : ac_H → Option α} (h0 : 0 ≤ i) (h1 : i < 120) : mo_ui (hp S z M) (z + 18) 0 (jI i) (jI v) F = F (hp S z (sA M 18 i.toNat v)) := hp_ui (n := 120) rfl (by decide) h0 h1
theorem hl18 {α : Type} {z : Nat} {M : hM} {F : Int32 → Option α} : mo_ln (hp S z M) (z + 18) F = F (jI 120) := hp_ln (kd := 0) (n := 120) rfl
theorem ha19 {α : Type} {z : Nat} {M : hM} {i : Int} {F : Int32 → Option α} (h0 : 0 ≤ i) (h1 : i < 120) : mo_ai (hp S z M) (z + 19) 0 (jI i) F = F (jI (gA M 19 i.toNat)) := hp_ai (n := 120) rfl (by decide) h0 h1
theorem hu19 {α : Type} {z : Nat} {M : hM} {i v : Int} {F : ac_H → Option α} (h0 : 0 ≤ i) (h1 : i < 120) : mo_ui (hp S z M) (z + 19) 0 (jI i) (jI v) F = F (hp S z (sA M 19 i.toNat v)) := hp_ui (n := 120) rfl (by decide) h0 h1
theorem hl19 {α : Type} {z : Nat} {M : hM} {F : Int32 → Option α} : mo_ln (hp S z M) (z + 19) F = F (jI 120) := hp_ln (kd := 0) (n := 120) rfl
theorem ha20 {α : Type} {z : Nat} {M : hM} {i : Int} {F : Int32 → Option α} (h0 : 0 ≤ i) (h1 : i < 120) : mo_ai (hp S z M) (z + 20) 0 (jI i) F = F (jI (gA M 20 i.toNat)) := hp_ai (n := 120) rfl (by decide) h0 h1
theorem hu20 {α : Type} {z : Nat} {M : hM} {i v : Int} {F : ac_H → Option α} (h0 : 0 ≤ i) (h1 : i < 120) : mo_ui (hp S z M) (z + 20) 0 (jI i) (jI v) F = F (hp S z (sA M 20 i.toNat v)) := hp_ui (n := 120) rfl (by decide) h0 h1
theorem hl20 {α : Type} {z : Nat} {M : hM} {F : Int32 → Option α} : mo_ln (hp S z M) (z + 20) F = F (jI 120) := hp_ln (kd := 0) (n := 120) rfl
theorem ha21 {α : Type} {z : Nat} {M : hM} {i : Int} {F : Int32 → Option α} (h0 : 0 ≤ i) (h1 : i < 120) : mo_ai (hp S z M) (z + 21) 0 (jI i) F = F (jI (gA M 21 i.toNat)) := hp_ai (n := 120) rfl (by decide) h0 h1
theorem hu21 {α : Type} {z : Nat} {M : hM} {i v : Int} {F : ac_H → Option α} (h0 : 0 ≤ i) (h1 : i < 120) : mo_ui (hp S z M) (z + 21) 0 (jI i) (jI v) F = F (hp S z (sA M 21 i.toNat v)) := hp_ui (n := 120) rfl (by decide) h0 h1
theorem hl21 {α : Type} {z : Nat} {M : hM} {F : Int32 → Option α} : mo_ln (hp S z M) (z + 21) F = F (jI 120) := hp_ln (kd := 0) (n := 120) rfl
theorem ha22 {α : Type} {z : Nat} {M : hM} {i : Int} {F : Int32 → Option α} (h0 : 0 ≤ i) (h1 : i < 226) : mo_ai (hp S z M) (z + 22) 0 (jI i) F = F (jI (gA M 22 i.toNat)) := hp_ai (n := 226) rfl (by decide) h0 h1
theorem hu22 {α : Type} {z : Nat} {M : hM} {i v : Int} {F : ac_H → Option α} (h0 : 0 ≤ i) (h1 : i < 226) : mo_ui (hp S z M) (z + 22) 0 (jI i) (jI v) F = F (hp S z (sA M 22 i.toNat v)) := hp_ui (n := 226) rfl (by decide) h0 h1
theorem hl22 {α : Type} {z : Nat} {M : hM} {F : Int32 → Option α} : mo_ln (hp S z M) (z + 22) F = F (jI 226) := hp_ln (kd := 0) (n := 226) rfl
theorem ha23 {α : Type} {z : Nat} {M : hM} {i : Int} {F : Int32 → Option α} (h0 : 0 ≤ i) (h1 : i < 226) : mo_ai (hp S z M) (z + 23) 0 (jI i) F = F (jI (gA M 23 i.toNat)) := hp_ai (n := 226) rfl (by decide) h0 h1
theorem hu23 {α : Type} {z : Nat} {M : hM} {i v : Int} {F : ac_H → Option α} (h0 : 0 ≤ i) (h1 : i < 226) : mo_ui (hp S z M) (z + 23) 0 (jI i) (jI v) F = F (hp S z (sA M 23 i.toNat v)) := hp_ui (n := 226) rfl (by decide) h0 h1
theorem hl23 {α : Type} {z : Nat} {M : hM} {F : Int32 → Option α} : mo_ln (hp S z M) (z + 23) F = F (jI 226) := hp_ln (kd := 0) (n := 226) rfl
theorem ha24 {α : Type} {z : Nat} {M : hM} {i : Int} {F : Int32 → Option α} (h0 : 0 ≤ i) (h1 : i < 226) : mo_ai (hp S z M) (z + 24) 0 (jI i) F = F (jI (gA M 24 i.toNat)) := hp_ai (n := 226) rfl (by decide) h0 h1
theorem hu24 {α : Type} {z : Nat} {M : hM} {i v : Int} {F : ac_H → Option α} (h0 : 0 ≤ i) (h1 : i < 226) : mo_ui (hp S z M) (z + 24) 0 (jI i) (jI v) F = F (hp S z (sA M 24 i.toNat v)) := hp_ui (n := 226) rfl (by decide) h0 h1
theorem hl24 {α : Type} {z : Nat} {M : hM} {F : Int32 → Option α} : mo_ln (hp S z M) (z + 24) F = F (jI 226) := hp_ln (kd := 0) (n := 226) rfl
theorem ha25 {α : Type} {z : Nat} {M : hM} {i : Int} {F : Int32 → Option α} (h0 : 0 ≤ i) (h1 : i < 240) : mo_ai (hp S z M) (z + 25) 0 (jI i) F = F (jI (gA M 25 i.toNat)) := hp_ai (n := 240) rfl (by decide) h0 h1
theorem hu25 {α : Type} {z : Nat} {M : hM} {i v : Int} {F : ac_H → Option α} (h0 : 0 ≤ i) (h1 : i < 240) : mo_ui (hp S z M) (z + 25) 0 (jI i) (jI v) F = F (hp S z (sA M 25 i.toNat v)) := hp_ui (n := 240) rfl (by decide) h0 h1
theorem hl25 {α : Type} {z : Nat} {M : hM} {F : Int32 → Option α} : mo_ln (hp S z M) (z + 25) F = F (jI 240) := hp_ln (kd := 0) (n := 240) rfl
theorem ha27 {α : Type} {z : Nat} {M : hM} {i : Int} {F : Int32 → Option α} (h0 : 0 ≤ i) (h1 : i < 240) : mo_ai (hp S z M) (z + 27) 0 (jI i) F = F (jI (gA M 27 i.toNat)) := hp_ai (n := 240) rfl (by decide) h0 h1
theorem hu27 {α : Type} {z : Nat} {M : hM} {i v : Int} {F : ac_H → Option α} (h0 : 0 ≤ i) (h1 : i < 240) : mo_ui (hp S z M) (z + 27) 0 (jI i) (jI v) F = F (hp S z (sA M 27 i.toNat v)) := hp_ui (n := 240) rfl (by decide) h0 h1
theorem hl27 {α : Type} {z : Nat} {M : hM} {F : Int32 → Option α} : mo_ln (hp S z M) (z + 27) F = F (jI 240) := hp_ln (kd := 0) (n := 240) rfl
theorem ha29 {α : Type} {z : Nat} {M : hM} {i : Int} {F : Int32 → Option α} (h0 : 0 ≤ i) (h1 : i < 9) : mo_ai (hp S z M) (z + 29) 0 (jI i) F = F (jI (gA M 29 i.toNat)) := hp_ai (n := 9) rfl (by decide) h0 h1
theorem hu29 {α : Type} {z : Nat} {M : hM} {i v : Int} {F : ac_H → Option α} (h0 : 0 ≤ i) (h1 : i < 9) : mo_ui (hp S z M) (z + 29) 0 (jI i) (jI v) F = F (hp S z (sA M 29 i.toNat v)) := hp_ui (n := 9) rfl (by decide) h0 h1
theorem hl29 {α : Type} {z : Nat} {M : hM} {F : Int32 → Option α} : mo_ln (hp S z M) (z + 29) F = F (jI 9) := hp_ln (kd := 0) (n := 9) rfl
theorem ha38 {α : Type} {z : Nat} {M : hM} {i : Int} {F : Int32 → Option α} (h0 : 0 ≤ i) (h1 : i < 500) : mo_ai (hp S z M) (z + 38) 0 (jI i) F = F (jI (gA M 38 i.toNat)) := hp_ai (n := 500) rfl (by decide) h0 h1
theorem hu38 {α : Type} {z : Nat} {M : hM} {i v : Int} {F : ac_H → Option α} (h0 : 0 ≤ i) (h1 : i < 500) : mo_ui (hp S z M) (z + 38) 0 (jI i) (jI v) F = F (hp S z (sA M 38 i.toNat v)) := hp_ui (n := 500) rfl (by decide) h0 h1
theorem hl38 {α : Type} {z : Nat} {M : hM} {F : Int32 → Option α} : mo_ln (hp S z M) (z + 38) F = F (jI 500) := hp_ln (kd := 0) (n := 500) rfl
theorem ha132 {α : Type} {z : Nat} {M : hM} {i : Int} {F : Int32 → Option α} (h0 : 0 ≤ i) (h1 : i < 2) : mo_ai (hp S z M) (z + 132) 2 (jI i) F = F (jI (gA M 132 i.toNat)) := hp_ai (n := 2) rfl (by decide) h0 h1
theorem hu132 {α : Type} {z : Nat} {M : hM} {i v : Int} {F : ac_H → Option α} (h0 : 0 ≤ i) (h1 : i < 2) : mo_ui (hp S z M) (z + 132) 2 (jI i) (jI v) F = F (hp S z (sA M 132 i.toNat v)) := hp_ui (n := 2) rfl (by decide) h0 h1
theorem hl132 {α : Type} {z : Nat} {M : hM} {F : Int32 → Option α} : mo_ln (hp S z M) (z + 132) F = F (jI 2) := hp_ln (kd := 2) (n := 2) rfl
def isB (b : Nat) : Bool := [1, 8, 30, 39, 47, 54, 61, 68, 75, 82, 89, 96, 103, 110, 118, 125].contains b
def isS (b : Nat) : Bool := [28, 6, 13, 35, 44, 52, 59, 66, 73, 80, 87, 94, 101, 108, 115, 123, 130].contains b
theorem isB_lt {b : Nat} (h : isB b = true) : b < 133 := by
  have : ∀ x ∈ [1, 8, 30, 39, 47, 54, 61, 68, 75, 82, 89, 96, 103, 110, 118, 125], x < 133 := by decide
  exact this b (by simpa [isB] using h)
theorem isS_lt {b : Nat} (h : isS b = true) : b < 133 := by
  have : ∀ x ∈ [28, 6, 13, 35, 44, 52, 59, 66, 73, 80, 87, 94, 101, 108, 115, 123, 130], x < 133 := by decide
  exact this b (by simpa [isS] using h)
def chB (b : Nat) : Bool := ckR b 0 0 (b + 1) && ckR b 0 1 (b + 2) && ckR b 0 2 (b + 3) && ckR b 0 3 (b + 4) && ckR b 0 5 (b + 5) && ckI b 0 4 && ckO b 0 && ckA (b + 1) 0 8 && ckA (b + 2) 0 10 && ckA (b + 3) 0 10 && ckA (b + 4) 0 10 && isS (b + 5) && decide (1 ≤ b)
def chS (b : Nat) : Bool := ckR b 5 0 (b + 1) && ckO b 5 && ckA (b + 1) 0 9
theorem isB_c {b : Nat} (h : isB b = true) : chB b = true := by
  have : ∀ x : Fin 133, isB x.val = true → chB x.val = true := by decide +kernel
  exact this ⟨b, isB_lt h⟩ h
theorem isS_c {b : Nat} (h : isS b = true) : chS b = true := by
  have : ∀ x : Fin 133, isS x.val = true → chS x.val = true := by decide +kernel
  exact this ⟨b, isS_lt h⟩ h
theorem isB_far {b b' : Nat} (h : isB b = true) (h' : isB b' = true) (hn : b ≠ b') : b + 7 ≤ b' ∨ b' + 7 ≤ b := by
  have : ∀ x : Fin 133, isB x.val = true → ∀ y : Fin 133, isB y.val = true → x.val ≠ y.val → x.val + 7 ≤ y.val ∨ y.val + 7 ≤ x.val := by decide +kernel
  exact this ⟨b, isB_lt h⟩ h ⟨b', isB_lt h'⟩ h' hn
theorem B_r0 {b : Nat} (hb : isB b = true) : ckR b 0 0 (b + 1) = true := by have h := isB_c hb; simp only [chB, Bool.and_eq_true] at h; simp only [h]
theorem B_r1 {b : Nat} (hb : isB b = true) : ckR b 0 1 (b + 2) = true := by have h := isB_c hb; simp only [chB, Bool.and_eq_true] at h; simp only [h]
theorem B_r2 {b : Nat} (hb : isB b = true) : ckR b 0 2 (b + 3) = true := by have h := isB_c hb; simp only [chB, Bool.and_eq_true] at h; simp only [h]
theorem B_r3 {b : Nat} (hb : isB b = true) : ckR b 0 3 (b + 4) = true := by have h := isB_c hb; simp only [chB, Bool.and_eq_true] at h; simp only [h]
theorem B_r5 {b : Nat} (hb : isB b = true) : ckR b 0 5 (b + 5) = true := by have h := isB_c hb; simp only [chB, Bool.and_eq_true] at h; simp only [h]
theorem B_i4 {b : Nat} (hb : isB b = true) : ckI b 0 4 = true := by have h := isB_c hb; simp only [chB, Bool.and_eq_true] at h; simp only [h]
theorem B_o {b : Nat} (hb : isB b = true) : ckO b 0 = true := by have h := isB_c hb; simp only [chB, Bool.and_eq_true] at h; simp only [h]
theorem B_a1 {b : Nat} (hb : isB b = true) : ckA (b + 1) 0 8 = true := by have h := isB_c hb; simp only [chB, Bool.and_eq_true] at h; simp only [h]
theorem B_a2 {b : Nat} (hb : isB b = true) : ckA (b + 2) 0 10 = true := by have h := isB_c hb; simp only [chB, Bool.and_eq_true] at h; simp only [h]
theorem B_a3 {b : Nat} (hb : isB b = true) : ckA (b + 3) 0 10 = true := by have h := isB_c hb; simp only [chB, Bool.and_eq_true] at h; simp only [h]
theorem B_a4 {b : Nat} (hb : isB b = true) : ckA (b + 4) 0 10 = true := by have h := isB_c hb; simp only [chB, Bool.and_eq_true] at h; simp only [h]
theorem B_s {b : Nat} (hb : isB b = true) : isS (b + 5) = true := by have h := isB_c hb; simp only [chB, Bool.and_eq_true] at h; simp only [h]
theorem B_1 {b : Nat} (hb : isB b = true) : 1 ≤ b := by have h := isB_c hb; simp only [chB, Bool.and_eq_true, decide_eq_true_eq] at h; exact h.2
theorem Bg0 {α : Type} {z b : Nat} {M : hM} {F : Nat → Option α} (hb : isB b = true) : mo_gr (hp S z M) (z + b) 0 0 F = F (z + (b + 1)) := hp_gr (B_r0 hb)
theorem Bg1 {α : Type} {z b : Nat} {M : hM} {F : Nat → Option α} (hb : isB b = true) : mo_gr (hp S z M) (z + b) 0 1 F = F (z + (b + 2)) := hp_gr (B_r1 hb)
theorem Bg2 {α : Type} {z b : Nat} {M : hM} {F : Nat → Option α} (hb : isB b = true) : mo_gr (hp S z M) (z + b) 0 2 F = F (z + (b + 3)) := hp_gr (B_r2 hb)
theorem Bg3 {α : Type} {z b : Nat} {M : hM} {F : Nat → Option α} (hb : isB b = true) : mo_gr (hp S z M) (z + b) 0 3 F = F (z + (b + 4)) := hp_gr (B_r3 hb)
theorem Bg5 {α : Type} {z b : Nat} {M : hM} {F : Nat → Option α} (hb : isB b = true) : mo_gr (hp S z M) (z + b) 0 5 F = F (z + (b + 5)) := hp_gr (B_r5 hb)
theorem Bg4 {α : Type} {z b : Nat} {M : hM} {F : Int32 → Option α} (hb : isB b = true) : mo_gi (hp S z M) (z + b) 0 4 F = F (jI (gI M b 4)) := hp_gi (B_i4 hb)
theorem Bw4 {α : Type} {z b : Nat} {M : hM} {v : Int} {F : ac_H → Option α} (hb : isB b = true) : mo_pv (hp S z M) (z + b) 0 4 (.int (jI v)) F = F (hp S z (sI M b 4 v)) := hp_pi (B_i4 hb)
theorem Bv {α ρ : Type} {z b : Nat} {M : hM} {m : Option (ρ × ac_H)} {F : ρ → ac_H → Option α} (hb : isB b = true) : mo_cv (hp S z M) (z + b) 0 m F = mo_cs m F := hp_cv (B_o hb)
theorem Ba1 {α : Type} {z b : Nat} {M : hM} {i : Int} {F : Int32 → Option α} (hb : isB b = true) (h0 : 0 ≤ i) (h1 : i < 8) : mo_ai (hp S z M) (z + (b + 1)) 0 (jI i) F = F (jI (gA M (b + 1) i.toNat)) := hp_ai (n := 8) (B_a1 hb) (by decide) h0 h1
theorem Bu1 {α : Type} {z b : Nat} {M : hM} {i v : Int} {F : ac_H → Option α} (hb : isB b = true) (h0 : 0 ≤ i) (h1 : i < 8) : mo_ui (hp S z M) (z + (b + 1)) 0 (jI i) (jI v) F = F (hp S z (sA M (b + 1) i.toNat v)) := hp_ui (n := 8) (B_a1 hb) (by decide) h0 h1
theorem Ba2 {α : Type} {z b : Nat} {M : hM} {i : Int} {F : Int32 → Option α} (hb : isB b = true) (h0 : 0 ≤ i) (h1 : i < 10) : mo_ai (hp S z M) (z + (b + 2)) 0 (jI i) F = F (jI (gA M (b + 2) i.toNat)) := hp_ai (n := 10) (B_a2 hb) (by decide) h0 h1
theorem Bu2 {α : Type} {z b : Nat} {M : hM} {i v : Int} {F : ac_H → Option α} (hb : isB b = true) (h0 : 0 ≤ i) (h1 : i < 10) : mo_ui (hp S z M) (z + (b + 2)) 0 (jI i) (jI v) F = F (hp S z (sA M (b + 2) i.toNat v)) := hp_ui (n := 10) (B_a2 hb) (by decide) h0 h1
theorem Ba3 {α : Type} {z b : Nat} {M : hM} {i : Int} {F : Int32 → Option α} (hb : isB b = true) (h0 : 0 ≤ i) (h1 : i < 10) : mo_ai (hp S z M) (z + (b + 3)) 0 (jI i) F = F (jI (gA M (b + 3) i.toNat)) := hp_ai (n := 10) (B_a3 hb) (by decide) h0 h1
theorem Bu3 {α : Type} {z b : Nat} {M : hM} {i v : Int} {F : ac_H → Option α} (hb : isB b = true) (h0 : 0 ≤ i) (h1 : i < 10) : mo_ui (hp S z M) (z + (b + 3)) 0 (jI i) (jI v) F = F (hp S z (sA M (b + 3) i.toNat v)) := hp_ui (n := 10) (B_a3 hb) (by decide) h0 h1
theorem Ba4 {α : Type} {z b : Nat} {M : hM} {i : Int} {F : Int32 → Option α} (hb : isB b = true) (h0 : 0 ≤ i) (h1 : i < 10) : mo_ai (hp S z M) (z + (b + 4)) 0 (jI i) F = F (jI (gA M (b + 4) i.toNat)) := hp_ai (n := 10) (B_a4 hb) (by decide) h0 h1
theorem Bu4 {α : Type} {z b : Nat} {M : hM} {i v : Int} {F : ac_H → Option α} (hb : isB b = true) (h0 : 0 ≤ i) (h1 : i < 10) : mo_ui (hp S z M) (z + (b + 4)) 0 (jI i) (jI v) F = F (hp S z (sA M (b + 4) i.toNat v)) := hp_ui (n := 10) (B_a4 hb) (by decide) h0 h1
theorem S_r {b : Nat} (hb : isS b = true) : ckR b 5 0 (b + 1) = true := by have h := isS_c hb; simp only [chS, Bool.and_eq_true] at h; simp only [h]
theorem S_o {b : Nat} (hb : isS b = true) : ckO b 5 = true := by have h := isS_c hb; simp only [chS, Bool.and_eq_true] at h; simp only [h]
theorem S_a {b : Nat} (hb : isS b = true) : ckA (b + 1) 0 9 = true := by have h := isS_c hb; simp only [chS, Bool.and_eq_true] at h; simp only [h]
theorem Sg0 {α : Type} {z b : Nat} {M : hM} {F : Nat → Option α} (hb : isS b = true) : mo_gr (hp S z M) (z + b) 5 0 F = F (z + (b + 1)) := hp_gr (S_r hb)
theorem Sv {α ρ : Type} {z b : Nat} {M : hM} {m : Option (ρ × ac_H)} {F : ρ → ac_H → Option α} (hb : isS b = true) : mo_cv (hp S z M) (z + b) 5 m F = mo_cs m F := hp_cv (S_o hb)
theorem Sa {α : Type} {z b : Nat} {M : hM} {i : Int} {F : Int32 → Option α} (hb : isS b = true) (h0 : 0 ≤ i) (h1 : i < 9) : mo_ai (hp S z M) (z + (b + 1)) 0 (jI i) F = F (jI (gA M (b + 1) i.toNat)) := hp_ai (n := 9) (S_a hb) (by decide) h0 h1
theorem Su {α : Type} {z b : Nat} {M : hM} {i v : Int} {F : ac_H → Option α} (hb : isS b = true) (h0 : 0 ≤ i) (h1 : i < 9) : mo_ui (hp S z M) (z + (b + 1)) 0 (jI i) (jI v) F = F (hp S z (sA M (b + 1) i.toNat v)) := hp_ui (n := 9) (S_a hb) (by decide) h0 h1
theorem ji1 : (1 : Int32) = jI 1 := id rfl
theorem ji2 : (2 : Int32) = jI 2 := id rfl
theorem ji3 : (3 : Int32) = jI 3 := id rfl
theorem ji4 : (4 : Int32) = jI 4 := id rfl
theorem ji5 : (5 : Int32) = jI 5 := id rfl
theorem ji6 : (6 : Int32) = jI 6 := id rfl
theorem ji7 : (7 : Int32) = jI 7 := id rfl
theorem ji8 : (8 : Int32) = jI 8 := id rfl
theorem ji9 : (9 : Int32) = jI 9 := id rfl
theorem ji10 : (10 : Int32) = jI 10 := id rfl
theorem ji11 : (11 : Int32) = jI 11 := id rfl
theorem ji12 : (12 : Int32) = jI 12 := id rfl
theorem ji13 : (13 : Int32) = jI 13 := id rfl
theorem ji14 : (14 : Int32) = jI 14 := id rfl
theorem ji15 : (15 : Int32) = jI 15 := id rfl
theorem ji16 : (16 : Int32) = jI 16 := id rfl
theorem ji19 : (19 : Int32) = jI 19 := id rfl
theorem ji20 : (20 : Int32) = jI 20 := id rfl
theorem ji24 : (24 : Int32) = jI 24 := id rfl
theorem ji31 : (31 : Int32) = jI 31 := id rfl
theorem ji32 : (32 : Int32) = jI 32 := id rfl
theorem ji39 : (39 : Int32) = jI 39 := id rfl
theorem ji45 : (45 : Int32) = jI 45 := id rfl
theorem ji48 : (48 : Int32) = jI 48 := id rfl
theorem ji57 : (57 : Int32) = jI 57 := id rfl
theorem ji58 : (58 : Int32) = jI 58 := id rfl
theorem ji59 : (59 : Int32) = jI 59 := id rfl
theorem ji60 : (60 : Int32) = jI 60 := id rfl
theorem ji97 : (97 : Int32) = jI 97 := id rfl
theorem ji100 : (100 : Int32) = jI 100 := id rfl
theorem ji119 : (119 : Int32) = jI 119 := id rfl
theorem ji120 : (120 : Int32) = jI 120 := id rfl
theorem ji122 : (122 : Int32) = jI 122 := id rfl
theorem ji144 : (144 : Int32) = jI 144 := id rfl
theorem ji200 : (200 : Int32) = jI 200 := id rfl
theorem ji226 : (226 : Int32) = jI 226 := id rfl
theorem ji240 : (240 : Int32) = jI 240 := id rfl
theorem ji255 : (255 : Int32) = jI 255 := id rfl
theorem ji300 : (300 : Int32) = jI 300 := id rfl
theorem ji366 : (366 : Int32) = jI 366 := id rfl
theorem ji400 : (400 : Int32) = jI 400 := id rfl
theorem ji500 : (500 : Int32) = jI 500 := id rfl
theorem ji1000 : (1000 : Int32) = jI 1000 := id rfl

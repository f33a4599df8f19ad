variable {S : hSh}
/-! THE SCRIPTS of the law. -/
theorem law_l13 {z L : Nat} {xs : Nat → Int32} (hL : L ≤ 3072) : ∀ (f k n : Nat) (S : hSh) (M : hM) (q : hQ), k + f = 5 → k ≤ 3 → LB M q → 133 ≤ n → ∃ σ', m_L_law_l13 xs L f (hp S z M) (z + n) z (jI (L : Nat)) (jI (k : Nat)) = some ((), σ') := by
  intro f
  induction f with
  | zero => intro k n S M q h1 h2; omega
  | succ f ih =>
    intro k n S M q h1 h2 hLB hn
    unfold m_L_law_l13
    simp (disch := omega) only [ji1, ji2, ji3, ji4, ji5, ji6, ji7, ji8, ji9, ji10, ji11, ji12, ji13, ji14, ji15, ji16, ji19, ji20, ji24, ji31, ji32, ji39, ji45, ji48, ji57, ji58, ji59, ji60, ji97, ji100, ji119, ji120, ji122, ji144, ji200, ji226, ji240, ji255, ji300, ji366, ji400, ji500, ji1000, jI_z, ↓jI_m1, jI_add, jI_sub, jI_mul, ↓jm1000, ↓jm100, ↓jm10, ↓jm9, ji50, ji65280, ji1664525, ji252645135, ji858993459, ji1013904223, ji1431655765, ji2147483639, ji2147483647, jI_lt]
    by_cases g1 : (k : Int) < L
    · rw [if_pos g1]
      by_cases g2 : (k : Int) < 3
      · rw [if_pos g2]
        have na := hl_na (S := S) (z := z) (a := n) (kd := 0) (n := 1) (M := M) hn (by decide)
        have hA : lA (sS S n (20 + 0, 1, fun _ => 0)) n 0 1 := by unfold lA; rw [sS_a]; exact ⟨hn, rfl, by decide, rfl⟩
        generalize sS S n (20 + 0, 1, fun _ => 0) = S1 at na hA
        have fz : Fr n (n + 1) M (zM M n) := Fr_zM (by omega)
        have fa : Fr n (n + 1) (zM M n) (sA (zM M n) n 0 (xs k).toInt) := Fr.sA (by omega)
        have hLB1 : LB (sA (zM M n) n 0 (xs k).toInt) q := ⟨(hLB.1.kl hLB.2.1 (fz.kl (fun _ => rfl) (by omega))).kl hLB.2.1 (fa.kl (fun _ => rfl) (by omega)), hLB.2⟩
        obtain ⟨S2, M2, n2, q2, r1, r2, r3⟩ := L_plays (z := z) (n := n + 1) hLB1 hA (by omega)
        obtain ⟨σ', hσ⟩ := ih (k + 1) n2 S2 M2 q2 (by omega) (by omega) r2 r3
        refine ⟨σ', ?_⟩
        have ms : ∀ {α : Type} (F : Int32 → Option α), mo_s xs L (jI (k : Nat)) F = F (xs k) := by
          intro α F
          unfold mo_s
          rw [jI_ix (by omega) (by omega), Int.toNat_natCast, if_neg]
          intro hh; rcases hh with hh | hh
          · exact jI_nonneg (by omega) (by omega) hh
          · omega
        rw [ms, na, ← jI_of (xs k), hl_ui hA (by decide) (by decide) (by decide)]
        show mo_cs (m_L_plays (hp S1 z (sA (zM M n) n 0 (xs k).toInt)) z (z + n) (z + (n + 1))) _ = _
        rw [r1]
        simp only [↓mo_ns_r, ↓hn0, ↓mo_cs_s, ↓mo_xs_r, ↓mo_xs_l, ↓mo_nl_s, mo_z_0, mo_z_1]
        rw [if_neg (by decide), show (k : Int) + 1 = ((k + 1 : Nat) : Int) by omega]
        exact hσ
      · rw [if_neg g2]; exact ⟨_, rfl⟩
    · rw [if_neg g1]; exact ⟨_, rfl⟩

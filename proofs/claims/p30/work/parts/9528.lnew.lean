variable {S : hSh}
/-! A NEW RUN of the law. -/
theorem X8_new {z n : Nat} {M : hM} (hn : 133 ≤ n) : ∃ S' M', m_X8_init (ac_up (hp S z M) (z + n) (.inr (8, [.null, .null, .null, .null, .null, .null, .null, .null, .null, .int 0, .int 0, .int 0, .int 0, .int 0, .int 0, .int 0, .int 0, .int 0]))) (z + n) (z + n + 1) = some (z + (n + 9), hp S' z M') ∧ isR S' n ∧ SK n S S' ∧ Fr n (n + 9) M M' ∧ Vr M M' := by
  have e0 : ac_up (hp S z M) (z + n) (.inr (8, [.null, .null, .null, .null, .null, .null, .null, .null, .null, .int 0, .int 0, .int 0, .int 0, .int 0, .int 0, .int 0, .int 0, .int 0])) = hp (sS S n (8, 18, fun k => if k = 0 then 1 else if k < 9 then 2 else 0)) z (sI (zM M n) n 0 (-1)) := by
    apply hl_no hn (by decide) (Or.inr ⟨-1, rfl⟩)
    have e : ∀ k, hsv (sS S n (8, 18, fun k => if k = 0 then 1 else if k < 9 then 2 else 0)) z (sI (zM M n) n 0 (-1)) n k = if k < 9 then .null else .int 0 := by
      intro k
      unfold hsv
      rw [sS_a]
      simp only
      by_cases k0 : k = 0
      · subst k0; rw [gI_eq]; rfl
      · by_cases k9 : k < 9
        · rw [if_neg k0, if_pos k9, if_neg (by decide), if_neg (by decide), if_pos rfl, if_pos k9]
        · rw [if_neg k0, if_neg k9, if_pos rfl, if_neg k9, gI_ne (by omega), gI_zM, if_pos rfl]; rfl
    rw [show hsv (sS S n (8, 18, fun k => if k = 0 then 1 else if k < 9 then 2 else 0)) z (sI (zM M n) n 0 (-1)) n = fun k => if k < 9 then .null else .int 0 from funext e]
    rfl
  have hO : lO (sS S n (8, 18, fun k => if k = 0 then 1 else if k < 9 then 2 else 0)) n 8 18 := by unfold lO; rw [sS_a]; exact ⟨hn, rfl, by decide, rfl⟩
  have hF : ∀ j, (sS S n (8, 18, fun k => if k = 0 then 1 else if k < 9 then 2 else 0) n).2.2 j = if j = 0 then 1 else if j < 9 then 2 else 0 := fun j => by rw [sS_a]
  have hX : ∀ x, x ≠ n → sS S n (8, 18, fun k => if k = 0 then 1 else if k < 9 then 2 else 0) x = S x := fun x hx => sS_n hx
  generalize sS S n (8, 18, fun k => if k = 0 then 1 else if k < 9 then 2 else 0) = S0 at e0 hO hF hX
  obtain ⟨S1, r1, o1, f1, a1, x1⟩ := st_na (z := z) (M := sI (zM M n) n 0 (-1)) (b := n + 1) (k := 1) (kd := 0) (len := 120) hO (by omega) (by decide) (by rw [hF]; rfl) (by decide)
  obtain ⟨S2, r2, o2, f2, a2, x2⟩ := st_na (z := z) (M := zM (sI (zM M n) n 0 (-1)) (n + 1)) (b := n + 2) (k := 2) (kd := 0) (len := 120) o1 (by omega) (by decide) (by rw [f1, hF]; rfl) (by decide)
  obtain ⟨S3, r3, o3, f3, a3, x3⟩ := st_na (z := z) (M := zM (zM (sI (zM M n) n 0 (-1)) (n + 1)) (n + 2)) (b := n + 3) (k := 3) (kd := 0) (len := 120) o2 (by omega) (by decide) (by rw [f2, f1, hF]; rfl) (by decide)
  obtain ⟨S4, r4, o4, f4, a4, x4⟩ := st_na (z := z) (M := zM (zM (zM (sI (zM M n) n 0 (-1)) (n + 1)) (n + 2)) (n + 3)) (b := n + 4) (k := 4) (kd := 0) (len := 120) o3 (by omega) (by decide) (by rw [f3, f2, f1, hF]; rfl) (by decide)
  obtain ⟨S5, r5, o5, f5, a5, x5⟩ := st_na (z := z) (M := zM (zM (zM (zM (sI (zM M n) n 0 (-1)) (n + 1)) (n + 2)) (n + 3)) (n + 4)) (b := n + 5) (k := 5) (kd := 0) (len := 120) o4 (by omega) (by decide) (by rw [f4, f3, f2, f1, hF]; rfl) (by decide)
  obtain ⟨S6, r6, o6, f6, a6, x6⟩ := st_na (z := z) (M := zM (zM (zM (zM (zM (sI (zM M n) n 0 (-1)) (n + 1)) (n + 2)) (n + 3)) (n + 4)) (n + 5)) (b := n + 6) (k := 6) (kd := 0) (len := 240) o5 (by omega) (by decide) (by rw [f5, f4, f3, f2, f1, hF]; rfl) (by decide)
  obtain ⟨S7, r7, o7, f7, a7, x7⟩ := st_na (z := z) (M := zM (zM (zM (zM (zM (zM (sI (zM M n) n 0 (-1)) (n + 1)) (n + 2)) (n + 3)) (n + 4)) (n + 5)) (n + 6)) (b := n + 7) (k := 7) (kd := 2) (len := 400) o6 (by omega) (by decide) (by rw [f6, f5, f4, f3, f2, f1, hF]; rfl) (by decide)
  obtain ⟨S8, r8, o8, f8, a8, x8⟩ := st_na (z := z) (M := zM (zM (zM (zM (zM (zM (zM (sI (zM M n) n 0 (-1)) (n + 1)) (n + 2)) (n + 3)) (n + 4)) (n + 5)) (n + 6)) (n + 7)) (b := n + 8) (k := 8) (kd := 2) (len := 144) o7 (by omega) (by decide) (by rw [f7, f6, f5, f4, f3, f2, f1, hF]; rfl) (by decide)
  have fF : ∀ j, (S8 n).2.2 j = if j = 8 then n + 8 + 3 else if j = 7 then n + 7 + 3 else if j = 6 then n + 6 + 3 else if j = 5 then n + 5 + 3 else if j = 4 then n + 4 + 3 else if j = 3 then n + 3 + 3 else if j = 2 then n + 2 + 3 else if j = 1 then n + 1 + 3 else if j = 0 then 1 else if j < 9 then 2 else 0 := fun j => by rw [f8, f7, f6, f5, f4, f3, f2, f1, hF]
  refine ⟨S8, zM (zM (zM (zM (zM (zM (zM (zM (sI (zM M n) n 0 (-1)) (n + 1)) (n + 2)) (n + 3)) (n + 4)) (n + 5)) (n + 6)) (n + 7)) (n + 8), ?_, ⟨o8, by rw [fF]; rfl, ?_, ?_, ?_, ?_, ?_, ?_, ?_, ?_, ?_, a8⟩, ?_, ?_, fun _ => rfl⟩
  · unfold m_X8_init
    rw [e0]
    show mo_pv (ac_up (hp S0 z _) (z + (n + 1)) _) (z + n) 8 1 (.ref (z + (n + 1))) _ = _
    rw [r1]
    show mo_pv (ac_up (hp S1 z _) (z + (n + 2)) _) (z + n) 8 2 (.ref (z + (n + 2))) _ = _
    rw [r2]
    show mo_pv (ac_up (hp S2 z _) (z + (n + 3)) _) (z + n) 8 3 (.ref (z + (n + 3))) _ = _
    rw [r3]
    show mo_pv (ac_up (hp S3 z _) (z + (n + 4)) _) (z + n) 8 4 (.ref (z + (n + 4))) _ = _
    rw [r4]
    show mo_pv (ac_up (hp S4 z _) (z + (n + 5)) _) (z + n) 8 5 (.ref (z + (n + 5))) _ = _
    rw [r5]
    show mo_pv (ac_up (hp S5 z _) (z + (n + 6)) _) (z + n) 8 6 (.ref (z + (n + 6))) _ = _
    rw [r6]
    show mo_pv (ac_up (hp S6 z _) (z + (n + 7)) _) (z + n) 8 7 (.ref (z + (n + 7))) _ = _
    rw [r7]
    show mo_pv (ac_up (hp S7 z _) (z + (n + 8)) _) (z + n) 8 8 (.ref (z + (n + 8))) _ = _
    rw [r8]
    rfl
  · intro k k0 k9
    rw [fF]
    rcases (show k = 1 ∨ k = 2 ∨ k = 3 ∨ k = 4 ∨ k = 5 ∨ k = 6 ∨ k = 7 ∨ k = 8 by omega) with rfl | rfl | rfl | rfl | rfl | rfl | rfl | rfl <;> rfl
  · intro k k9
    rw [fF, if_neg (by omega), if_neg (by omega), if_neg (by omega), if_neg (by omega), if_neg (by omega), if_neg (by omega), if_neg (by omega), if_neg (by omega), if_neg (by omega), if_neg (by omega)]
  · unfold lA; rw [x8 _ (by omega) (by omega), x7 _ (by omega) (by omega), x6 _ (by omega) (by omega), x5 _ (by omega) (by omega), x4 _ (by omega) (by omega), x3 _ (by omega) (by omega), x2 _ (by omega) (by omega)]; exact a1
  · unfold lA; rw [x8 _ (by omega) (by omega), x7 _ (by omega) (by omega), x6 _ (by omega) (by omega), x5 _ (by omega) (by omega), x4 _ (by omega) (by omega), x3 _ (by omega) (by omega)]; exact a2
  · unfold lA; rw [x8 _ (by omega) (by omega), x7 _ (by omega) (by omega), x6 _ (by omega) (by omega), x5 _ (by omega) (by omega), x4 _ (by omega) (by omega)]; exact a3
  · unfold lA; rw [x8 _ (by omega) (by omega), x7 _ (by omega) (by omega), x6 _ (by omega) (by omega), x5 _ (by omega) (by omega)]; exact a4
  · unfold lA; rw [x8 _ (by omega) (by omega), x7 _ (by omega) (by omega), x6 _ (by omega) (by omega)]; exact a5
  · unfold lA; rw [x8 _ (by omega) (by omega), x7 _ (by omega) (by omega)]; exact a6
  · unfold lA; rw [x8 _ (by omega) (by omega)]; exact a7
  · intro b hb
    rw [x8 _ (by omega) (by omega), x7 _ (by omega) (by omega), x6 _ (by omega) (by omega), x5 _ (by omega) (by omega), x4 _ (by omega) (by omega), x3 _ (by omega) (by omega), x2 _ (by omega) (by omega), x1 _ (by omega) (by omega), hX _ (by omega)]
  · exact ((((((((((Fr_zM (by omega)).trans (Fr.sI (by omega))).trans (Fr_zM (by omega))).trans (Fr_zM (by omega))).trans (Fr_zM (by omega))).trans (Fr_zM (by omega))).trans (Fr_zM (by omega))).trans (Fr_zM (by omega))).trans (Fr_zM (by omega))).trans (Fr_zM (by omega)))

variable {S : hSh}
/-! NEW OBJECTS of the law: their fields get new arrays. -/
def SK (n : Nat) (S S' : hSh) : Prop := ∀ b, b < n → S' b = S b
theorem SK.rfl' {n : Nat} : SK n S S := fun _ _ => rfl
theorem SK.trans {n : Nat} {S' S'' : hSh} (h : SK n S S') (h' : SK n S' S'') : SK n S S'' := fun b hb => (h' b hb).trans (h b hb)
theorem SK.mono {n m : Nat} {S' : hSh} (h : SK n S S') (hm : m ≤ n) : SK m S S' := fun b hb => h b (by omega)
theorem lO.sk {n a c m : Nat} {S' : hSh} (h : lO S a c m) (hs : SK n S S') (ha : a < n) : lO S' a c m := by
  unfold lO at *; rw [hs a ha]; exact h
theorem lA.sk {n a c m : Nat} {S' : hSh} (h : lA S a c m) (hs : SK n S S') (ha : a < n) : lA S' a c m := by
  unfold lA at *; rw [hs a ha]; exact h
theorem isP.sk {n p : Nat} {S' : hSh} (h : isP S p) (hs : SK n S S') (hp' : p + 5 ≤ n) : isP S' p :=
  ⟨h.1.sk hs (by omega), by rw [hs p (by omega)]; exact h.2.1, h.2.2.1.sk hs (by omega), h.2.2.2.1.sk hs (by omega), h.2.2.2.2.1.sk hs (by omega), h.2.2.2.2.2.sk hs (by omega)⟩
theorem isR.sk {n r : Nat} {S' : hSh} (h : isR S r) (hs : SK n S S') (hr : r + 9 ≤ n) : isR S' r := by
  obtain ⟨h0, h1, h2, h3, a1, a2, a3, a4, a5, a6, a7, a8⟩ := h
  exact ⟨h0.sk hs (by omega), by rw [hs r (by omega)]; exact h1, by rw [hs r (by omega)]; exact h2, by rw [hs r (by omega)]; exact h3, a1.sk hs (by omega), a2.sk hs (by omega), a3.sk hs (by omega), a4.sk hs (by omega), a5.sk hs (by omega), a6.sk hs (by omega), a7.sk hs (by omega), a8.sk hs (by omega)⟩
theorem st_na {z a b c m k kd len : Nat} {M : hM} (h : lO S a c m) (hab : a < b) (hk : k < m) (hr : (S a).2.2 k = 2) (hkd : kd < 3) :
    ∃ S1 : hSh, (∀ {α : Type} (F : ac_H → Option α), mo_pv (ac_up (hp S z M) (z + b) (.inl (kd, kx_ar kd len))) (z + a) c k (.ref (z + b)) F = F (hp S1 z (zM M b))) ∧ lO S1 a c m ∧ (∀ j, (S1 a).2.2 j = if j = k then b + 3 else (S a).2.2 j) ∧ lA S1 b kd len ∧ ∀ x, x ≠ a → x ≠ b → S1 x = S x := by
  obtain ⟨h1, h2, h3, h4⟩ := h
  have hb : 133 ≤ b := by omega
  have ea : sS S b (20 + kd, len, fun _ => 0) a = S a := sS_n (by omega)
  have hO : lO (sS S b (20 + kd, len, fun _ => 0)) a c m := by unfold lO; rw [ea]; exact ⟨h1, h2, h3, h4⟩
  refine ⟨sS (sS S b (20 + kd, len, fun _ => 0)) a (c, m, fun j => if j = k then b + 3 else (sS S b (20 + kd, len, fun _ => 0) a).2.2 j), ?_, ?_, ?_, ?_, ?_⟩
  · intro α F
    rw [hl_na hb hkd, hl_pn hO hk (by rw [ea]; exact hr)]
  · unfold lO; rw [sS_a]; exact ⟨h1, rfl, h3, rfl⟩
  · intro j; rw [sS_a, ea]
  · unfold lA; rw [sS_n (by omega), sS_a]; exact ⟨hb, rfl, hkd, rfl⟩
  · intro x hx hxb; rw [sS_n hx, sS_n hxb]
/-- arrays begin as noughts -/
theorem Fr_zM {M : hM} {a lo hi : Nat} (h : lo ≤ a ∧ a < hi) : Fr lo hi M (zM M a) := fun b hb => ⟨fun k => by rw [gI_zM, if_neg (by omega)], fun k => by rw [gA_zM, if_neg (by omega)]⟩
theorem X7_new {z n : Nat} {M : hM} (hn : 133 ≤ n) : ∃ S' M', m_X7_init (ac_up (hp S z M) (z + n) (.inr (7, [.null, .null, .null, .null]))) (z + n) (z + n + 1) = some (z + (n + 5), hp S' z M') ∧ isP S' n ∧ SK n S S' ∧ Fr n (n + 5) M M' ∧ Vr M M' ∧ PE M' n (fun _ => 0) (fun _ => 0) := by
  have e0 : ac_up (hp S z M) (z + n) (.inr (7, [.null, .null, .null, .null])) = hp (sS S n (7, 4, fun _ => 2)) z (zM M n) := by
    apply hl_no hn (by decide) (Or.inl rfl)
    have : hsv (sS S n (7, 4, fun _ => 2)) z (zM M n) n = fun _ => .null := by funext k; unfold hsv; rw [sS_a]; rfl
    rw [this]; rfl
  have hO : lO (sS S n (7, 4, fun _ => 2)) n 7 4 := by unfold lO; rw [sS_a]; exact ⟨hn, rfl, by decide, rfl⟩
  have hF : ∀ j, (sS S n (7, 4, fun _ => 2) n).2.2 j = 2 := fun j => by rw [sS_a]
  have hX : ∀ x, x ≠ n → sS S n (7, 4, fun _ => 2) x = S x := fun x hx => sS_n hx
  generalize sS S n (7, 4, fun _ => 2) = S0 at e0 hO hF hX
  obtain ⟨S1, r1, o1, f1, a1, x1⟩ := st_na (z := z) (M := zM M n) (b := n + 1) (k := 0) (kd := 0) (len := 8) hO (by omega) (by decide) (hF 0) (by decide)
  obtain ⟨S2, r2, o2, f2, a2, x2⟩ := st_na (z := z) (M := zM (zM M n) (n + 1)) (b := n + 2) (k := 1) (kd := 0) (len := 120) o1 (by omega) (by decide) (by rw [f1, if_neg (by decide)]; exact hF 1) (by decide)
  obtain ⟨S3, r3, o3, f3, a3, x3⟩ := st_na (z := z) (M := zM (zM (zM M n) (n + 1)) (n + 2)) (b := n + 3) (k := 2) (kd := 2) (len := 120) o2 (by omega) (by decide) (by rw [f2, if_neg (by decide), f1, if_neg (by decide)]; exact hF 2) (by decide)
  obtain ⟨S4, r4, o4, f4, a4, x4⟩ := st_na (z := z) (M := zM (zM (zM (zM M n) (n + 1)) (n + 2)) (n + 3)) (b := n + 4) (k := 3) (kd := 2) (len := 120) o3 (by omega) (by decide) (by rw [f3, if_neg (by decide), f2, if_neg (by decide), f1, if_neg (by decide)]; exact hF 3) (by decide)
  refine ⟨S4, zM (zM (zM (zM (zM M n) (n + 1)) (n + 2)) (n + 3)) (n + 4), ?_, ⟨o4, ?_, ?_, ?_, ?_, a4⟩, ?_, ?_, ?_, ?_⟩
  · unfold m_X7_init
    rw [e0]
    show mo_pv (ac_up (hp S0 z (zM M n)) (z + (n + 1)) _) (z + n) 7 0 (.ref (z + (n + 1))) _ = _
    rw [r1]
    show mo_pv (ac_up (hp S1 z _) (z + (n + 2)) _) (z + n) 7 1 (.ref (z + (n + 2))) _ = _
    rw [r2]
    show mo_pv (ac_up (hp S2 z _) (z + (n + 3)) _) (z + n) 7 2 (.ref (z + (n + 3))) _ = _
    rw [r3]
    show mo_pv (ac_up (hp S3 z _) (z + (n + 4)) _) (z + n) 7 3 (.ref (z + (n + 4))) _ = _
    rw [r4]
    rfl
  · intro k hk
    rcases (show k = 0 ∨ k = 1 ∨ k = 2 ∨ k = 3 by omega) with rfl | rfl | rfl | rfl
    · rw [f4, if_neg (by decide), f3, if_neg (by decide), f2, if_neg (by decide), f1, if_pos rfl]
    · rw [f4, if_neg (by decide), f3, if_neg (by decide), f2, if_pos rfl]
    · rw [f4, if_neg (by decide), f3, if_pos rfl]
    · rw [f4, if_pos rfl]
  · unfold lA; rw [x4 _ (by omega) (by omega), x3 _ (by omega) (by omega), x2 _ (by omega) (by omega)]; exact a1
  · unfold lA; rw [x4 _ (by omega) (by omega), x3 _ (by omega) (by omega)]; exact a2
  · unfold lA; rw [x4 _ (by omega) (by omega)]; exact a3
  · intro b hb
    rw [x4 _ (by omega) (by omega), x3 _ (by omega) (by omega), x2 _ (by omega) (by omega), x1 _ (by omega) (by omega), hX _ (by omega)]
  · exact ((((Fr_zM (by omega)).trans (Fr_zM (by omega))).trans (Fr_zM (by omega))).trans (Fr_zM (by omega))).trans (Fr_zM (by omega))
  · exact fun _ => rfl
  · refine ⟨fun k hk => ?_, fun k hk => ⟨?_, ?_, ?_⟩⟩
    · rw [gA_zM, if_neg (by omega), gA_zM, if_neg (by omega), gA_zM, if_neg (by omega), gA_zM, if_pos rfl]
    · rw [gA_zM, if_neg (by omega), gA_zM, if_pos rfl]
    · rw [gA_zM, if_pos rfl]
    · rw [gA_zM, if_neg (by omega), gA_zM, if_neg (by omega), gA_zM, if_pos rfl]
/-- elements copied from a to b -/
def cM (M : hM) (a b n : Nat) : hM := (M.1, fun x j => if x = b ∧ j < n then M.2.1 a j else M.2.1 x j, M.2.2)
theorem gA_cM {M : hM} {a b n x j : Nat} : gA (cM M a b n) x j = if x = b ∧ j < n then gA M a j else gA M x j := rfl
theorem hl_cp {α : Type} {z a b kd na nb n : Nat} {M : hM} {F : ac_H → Option α} (h : lA S a kd na) (h' : lA S b kd nb) (hk : kd = 0) (hn : n ≤ na) (hn' : n ≤ nb) (hm : n < 4000) : mo_cp (hp S z M) (z + a) (z + b) kd (jI 0) (jI 0) (jI n) F = F (hp S z (cM M a b n)) := by
  obtain ⟨g1, g2, g3, g4⟩ := h
  obtain ⟨g1', g2', g3', g4'⟩ := h'
  have en : (jI (n : Int)).toNatClampNeg = n := by rw [jI_ix (by omega) (by omega)]; omega
  have e0 : (jI 0).toNatClampNeg = 0 := by decide
  have n0 : ¬ jI 0 < 0 := by decide
  have hall : ((List.range n).all fun i => fits (kx_kd kd) (Value.int (jI (gA M a (0 + i))))) = true := by
    rw [List.all_eq_true]
    intro i _
    rw [hk]; rfl
  unfold mo_cp
  rw [hl_a g1 g2 g4 g3, hl_a g1' g2' g4' g3']
  simp only
  rw [en, e0, if_pos ⟨trivial, trivial, n0, n0, jI_nonneg (by omega) (by omega), by omega, by omega, hall⟩]
  · congr 1
    apply hl_up g1'
    · unfold hs
      rw [if_neg (by omega), if_pos (by omega), g2', g4', Nat.add_sub_cancel_left]
      congr 5
      funext j
      unfold va_cpy
      rw [gA_cM]
      by_cases hj : j < n
      · rw [if_pos ⟨rfl, hj⟩, if_pos (by omega)]
        congr 2; omega
      · rw [if_neg (by omega), if_neg (by omega)]
    · intro x hx; exact ⟨fun _ => rfl, fun j => by rw [gA_cM, if_neg (by omega)]⟩
    · exact fun _ => rfl

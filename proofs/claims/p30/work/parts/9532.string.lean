variable {S : hSh}
/-! A NEW BUILDER; toString. -/
theorem ob_new {z n c : Nat} {M : hM} (hn : 133 ≤ n) (hc' : c < 11) : ac_up (hp S z M) (z + n) (.inr (c, [.null, .int 0, .int 0, .int 0])) = hp (sS S n (c, 4, fun k => if k = 0 then 1 else 0)) z (sI (zM M n) n 0 (-1)) := by
  apply hl_no hn hc' (Or.inr ⟨-1, rfl⟩)
  have e : ∀ k, hsv (sS S n (c, 4, fun k => if k = 0 then 1 else 0)) z (sI (zM M n) n 0 (-1)) n k = if k = 0 then .null else .int 0 := by
    intro k
    unfold hsv
    rw [sS_a]
    simp only
    by_cases k0 : k = 0
    · subst k0; rw [gI_eq]; rfl
    · rw [if_neg k0, if_pos rfl, if_neg k0, gI_ne (by omega), gI_zM, if_pos rfl]; rfl
  rw [show hsv (sS S n (c, 4, fun k => if k = 0 then 1 else 0)) z (sI (zM M n) n 0 (-1)) n = fun k => if k = 0 then .null else .int 0 from funext e]
  rfl
theorem J4_new {z n : Nat} {M : hM} (hn : 133 ≤ n) : ∃ S' M', m_J4_init_da8c8 (ac_up (hp S z M) (z + n) (.inr (10, [.null, .int 0, .int 0, .int 0]))) (z + n) (z + n + 1) = some (z + (n + 2), hp S' z M') ∧ (∀ m lo, n + 1 < lo → lo ≤ m → BB S' M' n lo m [] 0) ∧ SK n S S' ∧ Fr n (n + 2) M M' ∧ Vr M M' := by
  have e0 := ob_new (S := S) (z := z) (n := n) (c := 10) (M := M) hn (by decide)
  have hO : lO (sS S n (10, 4, fun k => if k = 0 then 1 else 0)) n 10 4 := by unfold lO; rw [sS_a]; exact ⟨hn, rfl, by decide, rfl⟩
  have hF : ∀ j, (sS S n (10, 4, fun k => if k = 0 then 1 else 0) n).2.2 j = if j = 0 then 1 else 0 := fun j => by rw [sS_a]
  have hX : ∀ x, x ≠ n → sS S n (10, 4, fun k => if k = 0 then 1 else 0) x = S x := fun x hx => sS_n hx
  generalize sS S n (10, 4, fun k => if k = 0 then 1 else 0) = S0 at e0 hO hF hX
  have na := hl_na (S := S0) (z := z) (a := n + 1) (kd := 1) (n := 16) (M := sI (zM M n) n 0 (-1)) (by omega) (by decide)
  have hO1 : lO (sS S0 (n + 1) (20 + 1, 16, fun _ => 0)) n 10 4 := by unfold lO; rw [sS_n (by omega)]; exact hO
  have hA1 : lA (sS S0 (n + 1) (20 + 1, 16, fun _ => 0)) (n + 1) 1 16 := by unfold lA; rw [sS_a]; exact ⟨by omega, rfl, by decide, rfl⟩
  have hF1 : ∀ j, (sS S0 (n + 1) (20 + 1, 16, fun _ => 0) n).2.2 j = if j = 0 then 1 else 0 := fun j => by rw [sS_n (by omega)]; exact hF j
  have hX1 : ∀ x, x ≠ n → x ≠ n + 1 → sS S0 (n + 1) (20 + 1, 16, fun _ => 0) x = S x := fun x hx hx' => by rw [sS_n hx']; exact hX x hx
  generalize sS S0 (n + 1) (20 + 1, 16, fun _ => 0) = S1 at na hO1 hA1 hF1 hX1
  refine ⟨S1, sI (sI (zM (sI (zM M n) n 0 (-1)) (n + 1)) n 0 ((n + 1 : Nat) : Int)) n 1 0, ?_, ?_, ?_, ?_, fun _ => rfl⟩
  · unfold m_J4_init_da8c8 m_J5_init_d00df
    rw [e0, if_neg (by decide)]
    simp only [ji1, ji2, ji3, ji4, ji5, ji6, ji7, ji8, ji9, ji10, ji11, ji12, ji13, ji14, ji15, ji16, ji19, ji20, ji24, ji31, ji32, ji39, ji45, ji48, ji57, ji58, ji59, ji60, ji97, ji100, ji119, ji120, ji122, ji144, ji200, ji226, ji240, ji255, ji300, ji366, ji400, ji500, ji1000, jI_z, ↓jI_m1, jI_add, jI_sub, jI_mul, ↓jm1000, ↓jm100, ↓jm10, ↓jm9, ji50, ji65280, ji1664525, ji252645135, ji858993459, ji1013904223, ji1431655765, ji2147483639, ji2147483647]
    rw [show jI 16 = jI ((16 : Nat) : Int) from rfl, mo_nwj (by decide)]
    show mo_cs (mo_pv (ac_up (hp S0 z (sI (zM M n) n 0 (-1))) (z + (n + 1)) (.inl (1, kx_ar 1 16))) (z + n) 10 0 (.ref (z + (n + 1))) _) _ = _
    rw [na, hl_pr hO1 (by decide) (by rw [hF1]; rfl), hl_pi hO1 (by decide) (by rw [hF1]; rfl)]
    rfl
  · intro m lo h1 h2
    refine ⟨hO1, by rw [hF1]; rfl, fun k hk => by rw [hF1, if_neg (by omega)], ?_, ?_, Nat.le_refl _, h1, h2, n + 1, 16, ?_, hA1, by omega, by omega, by omega, ?_, ?_, Or.inl rfl, by omega⟩
    · rw [gI_eq]
    · rw [gI_ne (by omega), gI_ne (by omega), gI_zM, if_neg (by omega), gI_ne (by omega), gI_zM, if_pos rfl]; rfl
    · rw [gI_ne (by omega), gI_eq]
    · intro i
      rw [gA_sI, gA_sI, gA_zM, if_pos rfl]; omega
    · intro i hi; simp at hi
  · intro x hx; exact hX1 x (by omega) (by omega)
  · intro a ha
    refine ⟨fun k => ?_, fun k => ?_⟩
    · rw [gI_ne (by omega), gI_ne (by omega), gI_zM, if_neg (by omega), gI_ne (by omega), gI_zM, if_neg (by omega)]
    · rw [gA_sI, gA_sI, gA_zM, if_neg (by omega), gA_sI, gA_zM, if_neg (by omega)]
/-- a String at s with the bytes t -/
def ST (S : hSh) (M : hM) (s : Nat) (t : List Int) : Prop := (lO S s 9 4) ∧ ((S s).2.2 0 = 1) ∧ (∀ k, 0 < k → (S s).2.2 k = 0) ∧ (gI M s 0 = (s + 1 : Nat)) ∧ (gI M s 1 = 0) ∧ (lA S (s + 1) 1 t.length) ∧ (∀ i, i < t.length → gA M (s + 1) i = t.getD i 0) ∧ (∀ i, 0 ≤ t.getD i 0 ∧ t.getD i 0 < 128)
theorem ST.o {M : hM} {s : Nat} {t : List Int} (h : ST S M s t) : lO S s 9 4 := h.1
theorem ST.r {M : hM} {s : Nat} {t : List Int} (h : ST S M s t) : (S s).2.2 0 = 1 := h.2.1
theorem ST.i {M : hM} {s : Nat} {t : List Int} (h : ST S M s t) : ∀ k, 0 < k → (S s).2.2 k = 0 := h.2.2.1
theorem ST.k0 {M : hM} {s : Nat} {t : List Int} (h : ST S M s t) : gI M s 0 = (s + 1 : Nat) := h.2.2.2.1
theorem ST.k1 {M : hM} {s : Nat} {t : List Int} (h : ST S M s t) : gI M s 1 = 0 := h.2.2.2.2.1
theorem ST.a {M : hM} {s : Nat} {t : List Int} (h : ST S M s t) : lA S (s + 1) 1 t.length := h.2.2.2.2.2.1
theorem ST.b {M : hM} {s : Nat} {t : List Int} (h : ST S M s t) : ∀ i, i < t.length → gA M (s + 1) i = t.getD i 0 := h.2.2.2.2.2.2.1
theorem ST.v {M : hM} {s : Nat} {t : List Int} (h : ST S M s t) : ∀ i, 0 ≤ t.getD i 0 ∧ t.getD i 0 < 128 := h.2.2.2.2.2.2.2
theorem J7_copy {z w n m l : Nat} {M : hM} (hw : lA S w 1 m) (hwn : w < n) (hn : 133 ≤ n) (hm : m ≤ 300) (hl : l ≤ m) (hv : ∀ i, 0 ≤ gA M w i ∧ gA M w i < 128) :
    ∃ S' M', m_J7_copyOfRange_39247 (hp S z M) (z + w) (jI 0) (jI l) (z + n) = some ((z + n, z + n + 1), hp S' z M') ∧ lA S' n 1 l ∧ (∀ i, i < l → gA M' n i = gA M w i) ∧ SK n S S' ∧ Fr n (n + 1) M M' ∧ Vr M M' := by
  have sk : ∀ s, SK n S (sS S n s) := fun s x hx => sS_n (by omega)
  by_cases e : l = m
  · subst e
    refine ⟨_, kM M w n, ?_, ?_, ?_, sk (21, l, fun _ => 0), ?_, fun _ => rfl⟩
    · have hA : lA (sS S n (21, l, fun _ => 0)) n 1 l := by unfold lA; rw [sS_a]; exact ⟨hn, rfl, by decide, rfl⟩
      have ct : ∀ {α : Type} (A : Option α), mo_ct (hp (sS S n (21, l, fun _ => 0)) z (kM M w n)) (z + n) A = A := by
        intro α A
        obtain ⟨g1, g2, g3, g4⟩ := hA
        unfold mo_ct; rw [hl_a g1 g2 g4 g3]; rfl
      unfold m_J7_copyOfRange_39247
      simp (disch := omega) only [ji1, ji2, ji3, ji4, ji5, ji6, ji7, ji8, ji9, ji10, ji11, ji12, ji13, ji14, ji15, ji16, ji19, ji20, ji24, ji31, ji32, ji39, ji45, ji48, ji57, ji58, ji59, ji60, ji97, ji100, ji119, ji120, ji122, ji144, ji200, ji226, ji240, ji255, ji300, ji366, ji400, ji500, ji1000, jI_z, ↓jI_m1, jI_add, jI_sub, jI_mul, ↓jm1000, ↓jm100, ↓jm10, ↓jm9, ji50, ji65280, ji1664525, ji252645135, ji858993459, ji1013904223, ji1431655765, ji2147483639, ji2147483647, jI_eq, if_true]
      rw [hl_ln hw, if_pos rfl, hl_kl hw hn hm hv, ct]
    · unfold lA; rw [sS_a]; exact ⟨hn, rfl, by decide, rfl⟩
    · intro i _; rw [gA_kM, if_pos rfl]
    · intro a ha; exact ⟨fun k => by rw [gI_kM, if_neg (by omega)], fun k => by rw [gA_kM, if_neg (by omega)]⟩
  · have na := hl_na (S := S) (z := z) (a := n) (kd := 1) (n := l) (M := M) hn (by decide)
    have a1 : lA (sS S n (20 + 1, l, fun _ => 0)) w 1 m := hw.sk (sk _) (by omega)
    have a2 : lA (sS S n (20 + 1, l, fun _ => 0)) n 1 l := by unfold lA; rw [sS_a]; exact ⟨hn, rfl, by decide, rfl⟩
    have sk2 := sk (20 + 1, l, fun _ => 0)
    have wz : ∀ i, 0 ≤ gA (zM M n) w i ∧ gA (zM M n) w i < 128 := fun i => by rw [gA_zM, if_neg (by omega)]; exact hv i
    generalize sS S n (20 + 1, l, fun _ => 0) = S1 at na a1 a2 sk2
    have g1 : ¬ (l : Int) = m := by omega
    have g2 : ¬ (l : Int) < 0 := by omega
    have g3 : (l : Int) < m := by omega
    refine ⟨S1, cM (zM M n) w n l, ?_, a2, ?_, sk2, ?_, fun _ => rfl⟩
    · unfold m_J7_copyOfRange_39247 m_J7_copyOfRangeByte_39247 m_J7_checkLength_df160
      simp (disch := omega) only [ji1, ji2, ji3, ji4, ji5, ji6, ji7, ji8, ji9, ji10, ji11, ji12, ji13, ji14, ji15, ji16, ji19, ji20, ji24, ji31, ji32, ji39, ji45, ji48, ji57, ji58, ji59, ji60, ji97, ji100, ji119, ji120, ji122, ji144, ji200, ji226, ji240, ji255, ji300, ji366, ji400, ji500, ji1000, jI_z, ↓jI_m1, jI_add, jI_sub, jI_mul, ↓jm1000, ↓jm100, ↓jm10, ↓jm9, ji50, ji65280, ji1664525, ji252645135, ji858993459, ji1013904223, ji1431655765, ji2147483639, ji2147483647, jI_eq, if_true]
      rw [hl_ln hw]
      simp (disch := omega) only [jI_eq, jI_lt, g1, g2, if_false, ↓mo_ns_r, ↓hn0, ↓mo_cs_s, ↓mo_xs_r, ↓mo_xs_l, ↓mo_nl_s, mo_z_0, mo_z_1, ji1, ji2, ji3, ji4, ji5, ji6, ji7, ji8, ji9, ji10, ji11, ji12, ji13, ji14, ji15, ji16, ji19, ji20, ji24, ji31, ji32, ji39, ji45, ji48, ji57, ji58, ji59, ji60, ji97, ji100, ji119, ji120, ji122, ji144, ji200, ji226, ji240, ji255, ji300, ji366, ji400, ji500, ji1000, jI_z, ↓jI_m1, jI_add, jI_sub, jI_mul, ↓jm1000, ↓jm100, ↓jm10, ↓jm9, ji50, ji65280, ji1664525, ji252645135, ji858993459, ji1013904223, ji1431655765, ji2147483639, ji2147483647, Int.sub_zero]
      rw [mo_nwj (by omega), na, hl_ln a1]
      simp (disch := omega) only [jI_lt, g3, if_true, ji1, ji2, ji3, ji4, ji5, ji6, ji7, ji8, ji9, ji10, ji11, ji12, ji13, ji14, ji15, ji16, ji19, ji20, ji24, ji31, ji32, ji39, ji45, ji48, ji57, ji58, ji59, ji60, ji97, ji100, ji119, ji120, ji122, ji144, ji200, ji226, ji240, ji255, ji300, ji366, ji400, ji500, ji1000, jI_z, ↓jI_m1, jI_add, jI_sub, jI_mul, ↓jm1000, ↓jm100, ↓jm10, ↓jm9, ji50, ji65280, ji1664525, ji252645135, ji858993459, ji1013904223, ji1431655765, ji2147483639, ji2147483647, Int.sub_zero]
      rw [hl_cb a1 a2 wz (by omega) (Nat.le_refl _) (by omega)]
      simp only [↓mo_ns_r, ↓hn0, ↓mo_cs_s, ↓mo_xs_r, ↓mo_xs_l, ↓mo_nl_s, mo_z_0, mo_z_1]
    · intro i hi; rw [gA_cM, if_pos ⟨rfl, hi⟩, gA_zM, if_neg (by omega)]
    · intro a ha; exact ⟨fun k => by show gI (zM M n) a k = _; rw [gI_zM, if_neg (by omega)], fun k => by rw [gA_cM, if_neg (by omega), gA_zM, if_neg (by omega)]⟩
theorem J4_str {z b lo n c : Nat} {M : hM} {t : List Int} (h : BB S M b lo n t c) : ∃ S' M', m_J4_toString_0e30d (hp S z M) (z + b) (z + n) = some ((z + n, z + (n + 2)), hp S' z M') ∧ ST S' M' n t ∧ SK n S S' ∧ Fr n (n + 2) M M' ∧ Vr M M' := by
  obtain ⟨w, m, w1, w2, w3, w4, w5, w6, w7, w8, w9⟩ := h.w
  have hbl := h.bl
  have hln := h.ln
  have htc := h.tc
  have hb := h.o.1
  have hn : 133 ≤ n := by omega
  have e0 := ob_new (S := S) (z := z) (n := n) (c := 9) (M := M) hn (by decide)
  have hO : lO (sS S n (9, 4, fun k => if k = 0 then 1 else 0)) n 9 4 := by unfold lO; rw [sS_a]; exact ⟨hn, rfl, by decide, rfl⟩
  have hF : ∀ j, (sS S n (9, 4, fun k => if k = 0 then 1 else 0) n).2.2 j = if j = 0 then 1 else 0 := fun j => by rw [sS_a]
  have hX : SK n S (sS S n (9, 4, fun k => if k = 0 then 1 else 0)) := fun x hx => sS_n (by omega)
  generalize sS S n (9, 4, fun k => if k = 0 then 1 else 0) = S0 at e0 hO hF hX
  have hBO : lO S0 b 10 4 := h.o.sk hX (by omega)
  have hBr : (S0 b).2.2 0 = 1 := by rw [hX b (by omega)]; exact h.r
  have hBi : ∀ k, 0 < k → (S0 b).2.2 k = 0 := by rw [hX b (by omega)]; exact h.i
  have hwA : lA S0 w 1 m := w2.sk hX (by omega)
  have i0 : gI (sI (zM M n) n 0 (-1)) b 0 = w := by rw [gI_ne (by omega), gI_zM, if_neg (by omega)]; exact w1
  have i1 : gI (sI (zM M n) n 0 (-1)) b 1 = 0 := by rw [gI_ne (by omega), gI_zM, if_neg (by omega)]; exact h.k1
  have i3 : gI (sI (zM M n) n 0 (-1)) b 3 = t.length := by rw [gI_ne (by omega), gI_zM, if_neg (by omega)]; exact h.k3
  obtain ⟨S1, M1, c1, c2, c3, c4, c5, c6⟩ := J7_copy (S := S0) (z := z) (w := w) (n := n + 1) (m := m) (l := t.length) (M := sI (sI (zM M n) n 0 (-1)) n 1 0) hwA (by omega) (by omega) w5 (by omega) (fun i => by rw [gA_sI, gA_sI, gA_zM, if_neg (by omega)]; exact w6 i)
  have o1 : lO S1 n 9 4 := hO.sk c4 (by omega)
  have f1 : ∀ j, (S1 n).2.2 j = if j = 0 then 1 else 0 := fun j => by rw [c4 n (by omega)]; exact hF j
  refine ⟨S1, sI M1 n 0 ((n + 1 : Nat) : Int), ?_, ⟨o1, by rw [f1]; rfl, fun k hk => by rw [f1, if_neg (by omega)], by rw [gI_eq], ?_, c2, ?_, ?_⟩, ?_, ?_, ?_⟩
  · unfold m_J4_toString_0e30d m_J0_init_81219 m_J0_init_db425 m_J5_getValue_6d5f1 m_J4_length_8abf5 m_J5_length_8abf5 m_J5_isLatin1_aae02
    rw [e0, hl_cv hBO, Dg0 hBO hBr i0]
    simp only [↓mo_ns_r, ↓hn0, ↓mo_cs_s, ↓mo_xs_r, ↓mo_xs_l, ↓mo_nl_s, mo_z_0, mo_z_1]
    rw [hl_cv hBO, hl_cv hBO, hl_gi hBO (by decide) (hBi 3 (by decide)), i3]
    simp only [↓mo_ns_r, ↓hn0, ↓mo_cs_s, ↓mo_xs_r, ↓mo_xs_l, ↓mo_nl_s, mo_z_0, mo_z_1]
    rw [hl_cv hBO, if_neg (by decide), hl_gi hBO (by decide) (hBi 1 (by decide)), i1]
    simp (disch := omega) only [ji1, ji2, ji3, ji4, ji5, ji6, ji7, ji8, ji9, ji10, ji11, ji12, ji13, ji14, ji15, ji16, ji19, ji20, ji24, ji31, ji32, ji39, ji45, ji48, ji57, ji58, ji59, ji60, ji97, ji100, ji119, ji120, ji122, ji144, ji200, ji226, ji240, ji255, ji300, ji366, ji400, ji500, ji1000, jI_z, ↓jI_m1, jI_add, jI_sub, jI_mul, ↓jm1000, ↓jm100, ↓jm10, ↓jm9, ji50, ji65280, ji1664525, ji252645135, ji858993459, ji1013904223, ji1431655765, ji2147483639, ji2147483647, jI_eq, if_true, ↓mo_ns_r, ↓hn0, ↓mo_cs_s, ↓mo_xs_r, ↓mo_xs_l, ↓mo_nl_s, mo_z_0, mo_z_1]
    rw [if_neg (by decide), hl_pi hO (by decide) (by rw [hF]; rfl)]
    show mo_cs (mo_cs (mo_cs (m_J7_copyOfRange_39247 _ (z + w) (jI 0) (jI t.length) (z + (n + 1))) _) _) _ = _
    rw [c1]
    simp only [↓mo_ns_r, ↓hn0, ↓mo_cs_s, ↓mo_xs_r, ↓mo_xs_l, ↓mo_nl_s, mo_z_0, mo_z_1]
    rw [hl_pr o1 (by decide) (by rw [f1]; rfl)]
    rfl
  · rw [gI_ne (by omega), (c5 n (by omega)).1, gI_eq]
  · intro i hi
    rw [gA_sI, c3 i hi, gA_sI, gA_sI, gA_zM, if_neg (by omega)]; exact w7 i hi
  · intro i
    by_cases hi : i < t.length
    · rw [← w7 i hi]; exact w6 i
    · rw [List.getD_eq_getElem?_getD, List.getElem?_eq_none (by omega)]; simp
  · intro x hx; rw [c4 x (by omega)]; exact hX x hx
  · intro a ha
    refine ⟨fun k => ?_, fun k => ?_⟩
    · rw [gI_ne (by omega), (c5 a (by omega)).1, gI_ne (by omega), gI_ne (by omega), gI_zM, if_neg (by omega)]
    · rw [gA_sI, (c5 a (by omega)).2, gA_sI, gA_sI, gA_zM, if_neg (by omega)]
  · intro k; show gV M1 k = _; rw [c6]; rfl
/-- what a String tells -/
theorem J0_len {z s : Nat} {M : hM} {t : List Int} (h : ST S M s t) : m_J0_length_8abf5 (hp S z M) (z + s) = some (jI t.length, hp S z M) := by
  unfold m_J0_length_8abf5 m_J0_coder_7d493
  rw [hl_gv h.o (by decide) h.r (by rw [h.k0]; omega), h.k0, Int.toNat_natCast, hl_ln h.a, hl_cv h.o, if_neg (by decide), hl_gi h.o (by decide) (h.i 1 (by decide)), h.k1]
  have e : ∀ {α : Type} (A : Option α), mo_nt .byte (jI 0) A = A := fun A => by unfold mo_nt; rw [if_pos (by decide)]
  rw [e]
  simp only [↓mo_ns_r, ↓hn0, ↓mo_cs_s, ↓mo_xs_r, ↓mo_xs_l, ↓mo_nl_s, mo_z_0, mo_z_1, ji1, ji2, ji3, ji4, ji5, ji6, ji7, ji8, ji9, ji10, ji11, ji12, ji13, ji14, ji15, ji16, ji19, ji20, ji24, ji31, ji32, ji39, ji45, ji48, ji57, ji58, ji59, ji60, ji97, ji100, ji119, ji120, ji122, ji144, ji200, ji226, ji240, ji255, ji300, ji366, ji400, ji500, ji1000, jI_z, ↓jI_m1, jI_add, jI_sub, jI_mul, ↓jm1000, ↓jm100, ↓jm10, ↓jm9, ji50, ji65280, ji1664525, ji252645135, ji858993459, ji1013904223, ji1431655765, ji2147483639, ji2147483647, sr0]
theorem by_ct {x : Int} (h0 : 0 ≤ x ∧ x < 128) : ((((jI x &&& (255 : Int32))).toUInt32 % 65536).toInt32) = jI x := by_all (P := fun x => ((((jI x &&& (255 : Int32))).toUInt32 % 65536).toInt32) = jI x) (by decide +kernel) h0
theorem by_nt {α : Type} {x : Int} {A : Option α} (h0 : 0 ≤ x ∧ x < 128) : mo_nt .char (jI x) A = A := by
  unfold mo_nt
  rw [if_pos]
  exact by_all (P := fun x => narrow .char (.int (jI x)) = .int (jI x)) (by decide +kernel) h0
theorem J0_at {z s i : Nat} {M : hM} {t : List Int} (h : ST S M s t) (hi : i < t.length) (hl : t.length ≤ 300) : m_J0_charAt_5068e (hp S z M) (z + s) (jI i) = some (jI (t.getD i 0), hp S z M) := by
  have hv := h.v i
  have ck : ∀ {α : Type} (A : Option α), mo_ck (jI i) (jI t.length) A = A := by
    intro α A
    unfold mo_ck
    rw [if_neg]
    intro hh; rcases hh with hh | hh
    · exact jI_nonneg (by omega) (by omega) hh
    · exact hh (by rw [jI_lt (by omega) (by omega) (by omega) (by omega)]; omega)
  unfold m_J0_charAt_5068e m_J0_isLatin1_aae02 m_J1_charAt_3b067
  rw [hl_cv h.o, if_neg (by decide), hl_gi h.o (by decide) (h.i 1 (by decide)), h.k1]
  simp (disch := omega) only [ji1, ji2, ji3, ji4, ji5, ji6, ji7, ji8, ji9, ji10, ji11, ji12, ji13, ji14, ji15, ji16, ji19, ji20, ji24, ji31, ji32, ji39, ji45, ji48, ji57, ji58, ji59, ji60, ji97, ji100, ji119, ji120, ji122, ji144, ji200, ji226, ji240, ji255, ji300, ji366, ji400, ji500, ji1000, jI_z, ↓jI_m1, jI_add, jI_sub, jI_mul, ↓jm1000, ↓jm100, ↓jm10, ↓jm9, ji50, ji65280, ji1664525, ji252645135, ji858993459, ji1013904223, ji1431655765, ji2147483639, ji2147483647, jI_eq, if_true, ↓mo_ns_r, ↓hn0, ↓mo_cs_s, ↓mo_xs_r, ↓mo_xs_l, ↓mo_nl_s, mo_z_0, mo_z_1]
  rw [if_neg (by decide), hl_gv h.o (by decide) h.r (by rw [h.k0]; omega), h.k0, Int.toNat_natCast, hl_ln h.a, ck, hl_ai h.a (by omega) (by omega) (by omega), Int.toNat_natCast, h.b i hi, show jI 255 = (255 : Int32) from rfl, by_ct hv, by_nt hv]
  simp only [↓mo_ns_r, ↓hn0, ↓mo_cs_s, ↓mo_xs_r, ↓mo_xs_l, ↓mo_nl_s, mo_z_0, mo_z_1]
  rw [by_nt hv]

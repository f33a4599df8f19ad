variable {S : hSh}
theorem LW.sk {S S' : hSh} {M M' : hM} {p r e g n n' : Nat} {q : hQ} (h : LW S M p r e g n q) (f : ∀ b, b < n → (∀ k, gI M' b k = gI M b k) ∧ ∀ k, gA M' b k = gA M b k) (hv : Vr M M') (hs : SK n S S') (hn : n ≤ n') : LW S' M' p r e g n' q := by
  have h5 := h.1.2.2.2.2.1
  have h1 : LX S' M' p r e g n' q := h.1.fl ⟨fun b _ x => f b x, hv⟩ hs hn
  exact ⟨h1, h.2.cg (fun b x1 x2 => f b (by omega)) h1.2.2.2.2.2.1⟩
theorem L_r421 {z p r e g n : Nat} {q : hQ} (hA : lA S n 0 8) : ∀ (d k f : Nat) (M : hM), k + d = 8 → d < f → LW S M p r e g (n + 1) q → (∀ j : Nat, j < 8 → gA M n j = resV q.1.1 j) →
    ∃ M', m_L_run_l421 z (z + g) f (hp S z M) (z + (n + 1)) (z + r) (z + n) (jI k) = some ((jI 1, z + (n + 1)), hp S z M') ∧ LX S M' p r e g (n + 1) q := by
  intro d
  induction d with
  | zero =>
    intro k f M hk hf h hv
    obtain ⟨f, rfl⟩ : ∃ g, f = g + 1 := ⟨f - 1, by omega⟩
    have gi : ¬ (k : Int) < 8 := by omega
    obtain ⟨M', r1, r2⟩ := L_r453 (z := z) 5 0 hN_f M (by omega) (by unfold hN_f; omega) h
    refine ⟨M', ?_, r2⟩
    unfold m_L_run_l421
    simp (disch := omega) only [ji1, ji2, ji3, ji4, ji5, ji6, ji7, ji8, ji9, ji10, ji11, ji12, ji13, ji14, ji15, ji16, ji19, ji20, ji24, ji31, ji32, ji39, ji45, ji48, ji57, ji58, ji59, ji60, ji97, ji100, ji119, ji120, ji122, ji144, ji200, ji226, ji240, ji255, ji300, ji366, ji400, ji500, ji1000, jI_z, ↓jI_m1, jI_add, jI_sub, jI_mul, ↓jm1000, ↓jm100, ↓jm10, ↓jm9, ji50, ji65280, ji1664525, ji252645135, ji858993459, ji1013904223, ji1431655765, ji2147483639, ji2147483647, jI_lt, gi, if_false]
    exact r1
  | succ d ih =>
    intro k f M hk hf h hv
    obtain ⟨f, rfl⟩ : ∃ g, f = g + 1 := ⟨f - 1, by omega⟩
    have gi : (k : Int) < 8 := by omega
    have ek : (k : Int) + 1 = ((k + 1 : Nat) : Int) := by omega
    have ho := h.1.2.2.2.2.2.2.2.2.1
    have c1 := C_result (S := S) (z := z) (w := (k : Int)) h.1.2.2.2.2.2.2.2.1 ho ⟨by omega, by omega⟩
    rw [show rResult q k = (0, resV q.1.1 k, q) from by unfold rResult; rw [if_pos (by omega)]] at c1
    obtain ⟨M1, n1, i1, k1⟩ := nvC c1 rfl
    have h1 := h.km k1 i1
    have h5 := h.1.2.2.2.2.1
    have hv1 : ∀ j : Nat, j < 8 → gA M1 n j = resV q.1.1 j := fun j hj => by rw [(k1 n hA.1).2]; exact hv j hj
    obtain ⟨M', r1, r2⟩ := ih (k + 1) f M1 (by omega) (by omega) h1 hv1
    refine ⟨M', ?_, r2⟩
    unfold m_L_run_l421
    simp (disch := omega) only [ji1, ji2, ji3, ji4, ji5, ji6, ji7, ji8, ji9, ji10, ji11, ji12, ji13, ji14, ji15, ji16, ji19, ji20, ji24, ji31, ji32, ji39, ji45, ji48, ji57, ji58, ji59, ji60, ji97, ji100, ji119, ji120, ji122, ji144, ji200, ji226, ji240, ji255, ji300, ji366, ji400, ji500, ji1000, jI_z, ↓jI_m1, jI_add, jI_sub, jI_mul, ↓jm1000, ↓jm100, ↓jm10, ↓jm9, ji50, ji65280, ji1664525, ji252645135, ji858993459, ji1013904223, ji1431655765, ji2147483639, ji2147483647, jI_lt, gi, if_true]
    rw [n1, hl_ai hA (by omega) (by omega) (by omega), Int.toNat_natCast, hv1 k (by omega), if_pos rfl, ek]
    exact r1
theorem L_r323 {z p r e g n : Nat} {M : hM} {q : hQ} (h : LW S M p r e g n q) :
    ∃ S' M', m_L_run_l323 z (z + g) hN_f (hp S z M) (z + n) (z + r) (jI (repT (zR q.1.1).2.1 0 0 : Nat)) (jI (ansT (zR q.1.1).2.1 0 : Nat)) (jI (sum9 (fun k => pop ((zR q.1.1).2.2.2.1 k)) 9 : Nat)) (jI 0) (jI 0) = some ((jI 1, z + (n + 1)), hp S' z M') ∧ LX S' M' p r e g (n + 1) q := by
  have h5 := h.1.2.2.2.2.1
  have hr := h.1.2.1
  have hc := h.1.2.2.2.2.2.2.2.2.1.1.1
  obtain ⟨j1, j2, j3⟩ := zJ_R hc
  have hO := zO_le hc
  have brk' : ∀ w : Nat, w < 4 → m_X8_breaks (hp S z M) (z + r) (jI w) = some (jI (b2i (zBrk q.1.1 (zR q.1.1).2 w)), hp S z M) := fun w hw => X8_brk (z := z) hr h.1.1 hc ⟨j2, j3⟩ j1.1 hO hw h.2
  have st : ∀ (w v f : Nat) (a b d : Int32), w < 4 → v < 16 → m_L_run_l323 z (z + g) (f + 1) (hp S z M) (z + n) (z + r) a b d (jI v) (jI w) = m_L_run_l323 z (z + g) f (hp S z M) (z + n) (z + r) a b d (jI ((v ||| (if zBrk q.1.1 (zR q.1.1).2 w = true then 2 ^ w else 0) : Nat) : Int)) (jI ((w + 1 : Nat) : Int)) := by
    intro w v f a b d hw hv
    have hp2 : (2 : Nat) ^ w ≤ 2 ^ 3 := Nat.pow_le_pow_right (by omega) (by omega)
    conv => lhs; unfold m_L_run_l323
    simp (disch := omega) only [ji1, ji2, ji3, ji4, ji5, ji6, ji7, ji8, ji9, ji10, ji11, ji12, ji13, ji14, ji15, ji16, ji19, ji20, ji24, ji31, ji32, ji39, ji45, ji48, ji57, ji58, ji59, ji60, ji97, ji100, ji119, ji120, ji122, ji144, ji200, ji226, ji240, ji255, ji300, ji366, ji400, ji500, ji1000, jI_z, ↓jI_m1, jI_add, jI_sub, jI_mul, ↓jm1000, ↓jm100, ↓jm10, ↓jm9, ji50, ji65280, ji1664525, ji252645135, ji858993459, ji1013904223, ji1431655765, ji2147483639, ji2147483647, jI_lt, show (w : Int) < 4 from by omega, if_true, ↓Rv hr, show (w : Int) + 1 = ((w + 1 : Nat) : Int) from rfl]
    rw [brk' w hw]
    simp only [↓mo_cs_s]
    by_cases hb : zBrk q.1.1 (zR q.1.1).2 w = true
    · rw [bT hb, if_pos hb]
      simp (disch := omega) only [jS, Int.toNat_natCast, jI_or]
    · have hb' : zBrk q.1.1 (zR q.1.1).2 w = false := by simpa using hb
      rw [bF hb', if_neg hb, show jI 0 = jI ((0 : Nat) : Int) from rfl, jI_or (by omega) (by omega)]
  have lt16 : ∀ v w : Nat, v < 16 → w < 4 → (v ||| (if zBrk q.1.1 (zR q.1.1).2 w = true then 2 ^ w else 0)) < 16 := by
    intro v w hv hw
    have hp2 : (2 : Nat) ^ w ≤ 2 ^ 3 := Nat.pow_le_pow_right (by omega) (by omega)
    refine Nat.or_lt_two_pow (n := 4) hv ?_
    split <;> omega
  obtain ⟨F, hFu⟩ : ∃ F, hN_f = F + 1 + 1 + 1 + 1 + 1 := ⟨99995, rfl⟩
  generalize hv0 : (if zBrk q.1.1 (zR q.1.1).2 0 = true then 2 ^ 0 else 0) = v0
  have z0' : v0 < 16 := by rw [← hv0]; split <;> decide
  have z1' := lt16 v0 1 z0' (by omega)
  have z2' := lt16 _ 2 z1' (by omega)
  have eB : (((v0 ||| (if zBrk q.1.1 (zR q.1.1).2 1 = true then 2 ^ 1 else 0)) ||| (if zBrk q.1.1 (zR q.1.1).2 2 = true then 2 ^ 2 else 0)) ||| (if zBrk q.1.1 (zR q.1.1).2 3 = true then 2 ^ 3 else 0)) = zBits q.1.1 (zR q.1.1).2 := by
    rw [← hv0]; rfl
  have s0 := fun a b d => st 0 0 (F + 1 + 1 + 1 + 1) a b d (by omega) (by omega)
  have s1 := fun a b d => st 1 v0 (F + 1 + 1 + 1) a b d (by omega) z0'
  have s2 := fun a b d => st 2 _ (F + 1 + 1) a b d (by omega) z1'
  have s3 := fun a b d => st 3 _ (F + 1) a b d (by omega) z2'
  rw [hv0, Nat.zero_or] at s0
  rw [eB] at s3
  -- the array
  have hs1 : SK n S (sS S n (20 + 0, 8, fun _ => 0)) := fun b hb => sS_n (by omega)
  have hA : lA (sS S n (20 + 0, 8, fun _ => 0)) n 0 8 := by unfold lA; rw [sS_a]; exact ⟨by omega, rfl, by decide, rfl⟩
  have hr1 := hr.sk hs1 (by omega)
  have hna := hl_na (S := S) (z := z) (a := n) (kd := 0) (n := 8) (M := M) (by omega) (by decide)
  obtain ⟨e1, e2, e3, e4⟩ := h.okT
  generalize hM1 : sA (sA (sA (sA (sA (sA (sA (sA (zM M n) n 0 (zR q.1.1).1) n 1 ((zR q.1.1).2.1.length : Nat)) n 2 ((zR q.1.1).2.2.1.length : Nat)) n 3 (zR q.1.1).2.2.2.2.2.2.2.2) n 4 (repT (zR q.1.1).2.1 0 0 : Nat)) n 5 (ansT (zR q.1.1).2.1 0 : Nat)) n 6 (sum9 (fun k => pop ((zR q.1.1).2.2.2.1 k)) 9 : Nat)) n 7 (zBits q.1.1 (zR q.1.1).2 : Nat) = M1
  have fM1 : ∀ b, b < n → (∀ k, gI M1 b k = gI M b k) ∧ ∀ k, gA M1 b k = gA M b k := by
    intro b hb
    rw [← hM1]
    exact ⟨fun k => by simp only [gI_sA]; rw [gI_zM, if_neg (by omega)], fun k => by rw [gA_ne (by omega), gA_ne (by omega), gA_ne (by omega), gA_ne (by omega), gA_ne (by omega), gA_ne (by omega), gA_ne (by omega), gA_ne (by omega), gA_zM, if_neg (by omega)]⟩
  have vM1 : Vr M M1 := by rw [← hM1]; exact fun _ => rfl
  have hW1 : LW (sS S n (20 + 0, 8, fun _ => 0)) M1 p r e g (n + 1) q := h.sk fM1 vM1 hs1 (by omega)
  have hvals : ∀ j : Nat, j < 8 → gA M1 n j = resV q.1.1 j := by
    intro j hj
    rw [← hM1]
    rcases (show j = 0 ∨ j = 1 ∨ j = 2 ∨ j = 3 ∨ j = 4 ∨ j = 5 ∨ j = 6 ∨ j = 7 by omega) with rfl | rfl | rfl | rfl | rfl | rfl | rfl | rfl
    · rw [gA_ne (by omega), gA_ne (by omega), gA_ne (by omega), gA_ne (by omega), gA_ne (by omega), gA_ne (by omega), gA_ne (by omega), gA_eq]; rfl
    · rw [gA_ne (by omega), gA_ne (by omega), gA_ne (by omega), gA_ne (by omega), gA_ne (by omega), gA_ne (by omega), gA_eq]; rfl
    · rw [gA_ne (by omega), gA_ne (by omega), gA_ne (by omega), gA_ne (by omega), gA_ne (by omega), gA_eq]; rfl
    · rw [gA_ne (by omega), gA_ne (by omega), gA_ne (by omega), gA_ne (by omega), gA_eq]; rfl
    · rw [gA_ne (by omega), gA_ne (by omega), gA_ne (by omega), gA_eq]; rfl
    · rw [gA_ne (by omega), gA_ne (by omega), gA_eq]; rfl
    · rw [gA_ne (by omega), gA_eq]; rfl
    · rw [gA_eq]; rfl
  obtain ⟨M', r1, r2⟩ := L_r421 (z := z) hA 8 0 hN_f M1 (by omega) (by unfold hN_f; omega) hW1 hvals
  refine ⟨_, M', ?_, r2⟩
  rw [hFu, show jI 0 = jI ((0 : Nat) : Int) from rfl, s0, s1, s2, s3]
  unfold m_L_run_l323
  simp (disch := omega) only [ji1, ji2, ji3, ji4, ji5, ji6, ji7, ji8, ji9, ji10, ji11, ji12, ji13, ji14, ji15, ji16, ji19, ji20, ji24, ji31, ji32, ji39, ji45, ji48, ji57, ji58, ji59, ji60, ji97, ji100, ji119, ji120, ji122, ji144, ji200, ji226, ji240, ji255, ji300, ji366, ji400, ji500, ji1000, jI_z, ↓jI_m1, jI_add, jI_sub, jI_mul, ↓jm1000, ↓jm100, ↓jm10, ↓jm9, ji50, ji65280, ji1664525, ji252645135, ji858993459, ji1013904223, ji1431655765, ji2147483639, ji2147483647, jI_lt, show ¬ (((3 + 1 : Nat) : Int) < 4) by omega, if_false]
  rw [hna]
  have ui : ∀ {α : Type} (M : hM) (i v : Int) (F : ac_H → Option α), 0 ≤ i → i < 8 → mo_ui (hp (sS S n (20 + 0, 8, fun _ => 0)) z M) (z + n) 0 (jI i) (jI v) F = F (hp (sS S n (20 + 0, 8, fun _ => 0)) z (sA M n i.toNat v)) := fun {α} M i v F x1 x2 => hl_ui hA (by omega) x1 (by omega)
  have er : ∀ k, gI (zM M n) r k = gI M r k := fun k => by rw [gI_zM, if_neg (by omega)]
  simp (disch := omega) only [↓Rg0 hr1, Rw0 hr1, ↓Rg1 hr1, ↓Rg2 hr1, ↓Rg3 hr1, ↓Rg4 hr1, ↓Rg5 hr1, ↓Rg6 hr1, ↓Rg7 hr1, ↓Rg8 hr1, ↓Rg9 hr1, Rw9 hr1, ↓Rg10 hr1, Rw10 hr1, ↓Rg11 hr1, Rw11 hr1, ↓Rg12 hr1, Rw12 hr1, ↓Rg13 hr1, Rw13 hr1, ↓Rg14 hr1, Rw14 hr1, ↓Rg15 hr1, Rw15 hr1, ↓Rg16 hr1, Rw16 hr1, ↓Rg17 hr1, Rw17 hr1, ↓Rv hr1, Ra1 hr1, Ru1 hr1, Ra2 hr1, Ru2 hr1, Ra3 hr1, Ru3 hr1, Ra4 hr1, Ru4 hr1, Ra5 hr1, Ru5 hr1, Ra6 hr1, Ru6 hr1, Ra7 hr1, Ru7 hr1, Ra8 hr1, Ru8 hr1, ui, gI_sA, er, e1.1, e2.1, e2.2.2, e4]
  rw [show (0 : Int).toNat = 0 from rfl, show (1 : Int).toNat = 1 from rfl, show (2 : Int).toNat = 2 from rfl, show (3 : Int).toNat = 3 from rfl, show (4 : Int).toNat = 4 from rfl, show (5 : Int).toNat = 5 from rfl, show (6 : Int).toNat = 6 from rfl, show (7 : Int).toNat = 7 from rfl, hM1]
  exact r1

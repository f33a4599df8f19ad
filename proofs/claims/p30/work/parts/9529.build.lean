variable {S : hSh}
/-! THE BUILDER OF TEXTS. -/
theorem by_all {P : Int → Prop} (h : ∀ v : Fin 128, P (v.val : Int)) {x : Int} (h0 : 0 ≤ x ∧ x < 128) : P x := by
  have h1 := h ⟨x.toNat, by omega⟩
  have e : ((x.toNat : Nat) : Int) = x := by omega
  simp only [e] at h1
  exact h1
theorem by_nar {x : Int} (h0 : 0 ≤ x ∧ x < 128) : vp_nar .byte (jI x) = jI x := by_all (P := fun x => vp_nar .byte (jI x) = jI x) (by decide) h0
theorem by_ch {x : Int} (h0 : 0 ≤ x ∧ x < 128) : vp_nar .byte ((jI x).toInt8.toInt32) = jI x := by_all (P := fun x => vp_nar .byte ((jI x).toInt8.toInt32) = jI x) (by decide +kernel) h0
theorem by_fit {x : Int} (h0 : 0 ≤ x ∧ x < 128) : fits .byte (.int (jI x)) = true := by_all (P := fun x => fits .byte (.int (jI x)) = true) (by decide) h0
theorem sr0 {x : Int32} : (x >>> (jI 0 &&& jI 31)) = x := by
  have := sar_int (a := x) (s := 0) (by decide)
  exact Int32.toInt_inj.mp (by rw [show jI ((0 : Nat) : Int) = jI 0 from rfl] at this; rw [this]; simp)
theorem sl0 {x : Int32} : (x <<< (jI 0 &&& jI 31)) = x := by
  have e : (jI 0 &&& jI 31) = 0 := by decide
  rw [e]; exact Int32.shiftLeft_zero
theorem hl_cb {α : Type} {z a b na nb n : Nat} {M : hM} {F : ac_H → Option α} (h : lA S a 1 na) (h' : lA S b 1 nb) (hv : ∀ i, 0 ≤ gA M a i ∧ gA M a i < 128) (hn : n ≤ na) (hn' : n ≤ nb) (hm : n < 4000) : mo_cp (hp S z M) (z + a) (z + b) 1 (jI 0) (jI 0) (jI n) F = F (hp S z (cM M a b n)) := by
  obtain ⟨g1, g2, g3, g4⟩ := h
  obtain ⟨g1', g2', g3', g4'⟩ := h'
  have en : (jI (n : Int)).toNatClampNeg = n := by rw [jI_ix (by omega) (by omega)]; omega
  have e0 : (jI 0).toNatClampNeg = 0 := by decide
  have n0 : ¬ jI 0 < 0 := by decide
  have hall : ((List.range n).all fun i => fits (kx_kd 1) (Value.int (jI (gA M a (0 + i))))) = true := by
    rw [List.all_eq_true]
    intro i _
    exact by_fit (hv _)
  unfold mo_cp
  rw [hl_a g1 g2 g4 g3, hl_a g1' g2' g4' g3']
  simp only
  rw [en, e0, if_pos ⟨trivial, trivial, n0, n0, jI_nonneg (by omega) (by omega), by omega, by omega, hall⟩]
  · congr 1
    apply hl_up g1'
    · unfold hs
      rw [if_neg (by omega), if_pos (by omega), g2', g4', Nat.add_sub_cancel_left]
      congr 5
      funext j
      unfold va_cpy
      rw [gA_cM]
      by_cases hj : j < n
      · rw [if_pos ⟨rfl, hj⟩, if_pos (by omega)]
        congr 2; omega
      · rw [if_neg (by omega), if_neg (by omega)]
    · intro x hx; exact ⟨fun _ => rfl, fun j => by rw [gA_cM, if_neg (by omega)]⟩
    · exact fun _ => rfl
/-- a word's bytes -/
def wB (i : Nat) : List Int := (ac_B i).map Int32.toInt
theorem wB_in : ∀ i, i < 19 → (ac_B i).length ≤ 10 ∧ ∀ b ∈ ac_B i, 0 ≤ b.toInt ∧ b.toInt < 128 := by decide
theorem wB_len {i : Nat} : (wB i).length = (ac_B i).length := by unfold wB; simp
theorem wB_by {i : Nat} (hi : i < 19) (j : Nat) : 0 ≤ (wB i).getD j 0 ∧ (wB i).getD j 0 < 128 := by
  rw [List.getD_eq_getElem?_getD]
  unfold wB
  rw [List.getElem?_map]
  cases hj : (ac_B i)[j]? with
  | none => simp
  | some x => exact (wB_in i hi).2 x (List.mem_of_getElem? hj)
theorem wB_at {i j : Nat} : jI ((wB i).getD j 0) = (ac_B i).getD j 0 := by
  rw [List.getD_eq_getElem?_getD, List.getD_eq_getElem?_getD]
  unfold wB
  rw [List.getElem?_map]
  cases hj : (ac_B i)[j]? with
  | none => rfl
  | some x => exact jI_of x
def wM (M : hM) (b p : Nat) (l : List Int) : hM := (M.1, fun x j => if x = b ∧ p ≤ j ∧ j < p + l.length then l.getD (j - p) 0 else M.2.1 x j, M.2.2)
theorem gA_wM {M : hM} {b p x j : Nat} {l : List Int} : gA (wM M b p l) x j = if x = b ∧ p ≤ j ∧ j < p + l.length then l.getD (j - p) 0 else gA M x j := rfl
theorem gI_wM {M : hM} {b p x j : Nat} {l : List Int} : gI (wM M b p l) x j = gI M x j := rfl
theorem hl_cw {α : Type} {z b nb p i : Nat} {M : hM} {F : ac_H → Option α} (h' : lA S b 1 nb) (hi : i < 19) (hn : p + (wB i).length ≤ nb) (hm : nb < 4000) : mo_cw i (hp S z M) (z + b) (jI 0) (jI p) (nI (ac_B i).length) F = F (hp S z (wM M b p (wB i))) := by
  obtain ⟨g1', g2', g3', g4'⟩ := h'
  have hl := (wB_in i hi).1
  rw [wB_len] at hn
  have en : (jI (((ac_B i).length : Nat) : Int)).toNatClampNeg = (ac_B i).length := by rw [jI_ix (by omega) (by omega)]; omega
  have ep : (jI (p : Int)).toNatClampNeg = p := by rw [jI_ix (by omega) (by omega)]; omega
  have e0 : (jI 0).toNatClampNeg = 0 := by decide
  have n0 : ¬ jI 0 < 0 := by decide
  have hall : ((List.range (ac_B i).length).all fun j => fits .byte (Value.int ((ac_B i).getD (0 + j) 0))) = true := by
    rw [List.all_eq_true]
    intro j _
    rw [← wB_at]
    exact by_fit (wB_by hi _)
  unfold mo_cw
  rw [hl_a g1' g2' g4' g3', jI_n]
  simp only
  rw [en, e0, ep, if_pos ⟨hi, trivial, n0, jI_nonneg (by omega) (by omega), jI_nonneg (by omega) (by omega), by omega, by omega, hall⟩]
  · congr 1
    apply hl_up g1'
    · unfold hs
      rw [if_neg (by omega), if_pos (by omega), g2', g4', Nat.add_sub_cancel_left]
      congr 5
      funext j
      unfold va_cpy
      rw [gA_wM, wB_len]
      by_cases hj : p ≤ j ∧ j < p + (ac_B i).length
      · rw [if_pos ⟨rfl, hj⟩, if_pos (by omega), wB_at]
        congr 1; omega
      · rw [if_neg (by omega), if_neg (by omega)]
    · intro x hx; exact ⟨fun _ => rfl, fun j => by rw [gA_wM, if_neg (by omega)]⟩
    · exact fun _ => rfl
/-- the whole of a copied into the new cell q -/
def kM (M : hM) (a q : Nat) : hM := (fun b j => if b = q then 0 else M.1 b j, fun b j => if b = q then M.2.1 a j else M.2.1 b j, M.2.2)
theorem gI_kM {M : hM} {a q b j : Nat} : gI (kM M a q) b j = if b = q then 0 else gI M b j := rfl
theorem gA_kM {M : hM} {a q b j : Nat} : gA (kM M a q) b j = if b = q then gA M a j else gA M b j := rfl
theorem hl_kl {α : Type} {z a q m : Nat} {M : hM} {F : ac_H → Option α} (h : lA S a 1 m) (hq : 133 ≤ q) (hm : m ≤ 300) (hv : ∀ i, 0 ≤ gA M a i ∧ gA M a i < 128) : mo_cl (hp S z M) (z + a) (z + q) 300 F = F (hp (sS S q (21, m, fun _ => 0)) z (kM M a q)) := by
  obtain ⟨g1, g2, g3, g4⟩ := h
  have hall : ((List.range m).all fun i => fits .byte (Value.int (jI (gA M a i)))) = true := by
    rw [List.all_eq_true]
    intro i _
    exact by_fit (hv _)
  unfold mo_cl
  rw [hl_a g1 g2 g4 g3]
  simp only
  rw [if_pos ⟨trivial, hm, hall⟩]
  congr 1
  have e1 : ∀ e1 e2 : ac_E, ac_up (hp S z M) (z + q) e2 = ac_up (ac_up (hp S z M) (z + q) e1) (z + q) e2 := by
    intro e1 e2; funext x; unfold ac_up
    by_cases hx : x = z + q
    · rw [if_pos hx, if_pos hx]
    · rw [if_neg hx, if_neg hx, if_neg hx]
  rw [e1 (.inl (1, kx_ar 1 m)), hl_na hq (by decide)]
  apply hl_up hq
  · unfold hs
    rw [sS_a]; simp only; rw [if_neg (by omega), if_pos (by omega)]
    congr 5
    funext j
    rw [gA_kM, if_pos rfl]
  · intro x hx; exact ⟨fun j => by rw [gI_kM, if_neg hx, gI_zM, if_neg hx], fun j => by rw [gA_kM, if_neg hx, gA_zM, if_neg hx]⟩
  · exact fun _ => rfl
theorem mo_nwj {α : Type} {n : Nat} {F : Nat → Option α} (h : n ≤ 300) : mo_nw (jI n) 300 F = F n := by
  unfold mo_nw
  rw [jI_ix (by omega) (by omega), if_neg]
  · rw [Int.toNat_natCast]
  · intro hh; rcases hh with hh | hh
    · exact jI_nonneg (by omega) (by omega) hh
    · omega
/-- the builder at b holds the bytes t, with room for c; all its arrays are b + 1 or lie from lo on, below n -/
def BB (S : hSh) (M : hM) (b lo n : Nat) (t : List Int) (c : Nat) : Prop := (lO S b 10 4) ∧ ((S b).2.2 0 = 1) ∧ (∀ k, 0 < k → (S b).2.2 k = 0) ∧ (gI M b 1 = 0) ∧ (gI M b 3 = t.length) ∧ (t.length ≤ c) ∧ (b + 1 < lo) ∧ (lo ≤ n) ∧ (∃ w m : Nat, gI M b 0 = w ∧ lA S w 1 m ∧ c ≤ m ∧ 16 ≤ m ∧ m ≤ 300 ∧ (∀ i, 0 ≤ gA M w i ∧ gA M w i < 128) ∧ (∀ i, i < t.length → gA M w i = t.getD i 0) ∧ (w = b + 1 ∨ lo ≤ w) ∧ w < n)
theorem BB.o {M : hM} {b lo n : Nat} {t : List Int} {c : Nat} (h : BB S M b lo n t c) : lO S b 10 4 := h.1
theorem BB.r {M : hM} {b lo n : Nat} {t : List Int} {c : Nat} (h : BB S M b lo n t c) : (S b).2.2 0 = 1 := h.2.1
theorem BB.i {M : hM} {b lo n : Nat} {t : List Int} {c : Nat} (h : BB S M b lo n t c) : ∀ k, 0 < k → (S b).2.2 k = 0 := h.2.2.1
theorem BB.k1 {M : hM} {b lo n : Nat} {t : List Int} {c : Nat} (h : BB S M b lo n t c) : gI M b 1 = 0 := h.2.2.2.1
theorem BB.k3 {M : hM} {b lo n : Nat} {t : List Int} {c : Nat} (h : BB S M b lo n t c) : gI M b 3 = t.length := h.2.2.2.2.1
theorem BB.tc {M : hM} {b lo n : Nat} {t : List Int} {c : Nat} (h : BB S M b lo n t c) : t.length ≤ c := h.2.2.2.2.2.1
theorem BB.bl {M : hM} {b lo n : Nat} {t : List Int} {c : Nat} (h : BB S M b lo n t c) : b + 1 < lo := h.2.2.2.2.2.2.1
theorem BB.ln {M : hM} {b lo n : Nat} {t : List Int} {c : Nat} (h : BB S M b lo n t c) : lo ≤ n := h.2.2.2.2.2.2.2.1
theorem BB.w {M : hM} {b lo n : Nat} {t : List Int} {c : Nat} (h : BB S M b lo n t c) : ∃ w m : Nat, gI M b 0 = w ∧ lA S w 1 m ∧ c ≤ m ∧ 16 ≤ m ∧ m ≤ 300 ∧ (∀ i, 0 ≤ gA M w i ∧ gA M w i < 128) ∧ (∀ i, i < t.length → gA M w i = t.getD i 0) ∧ (w = b + 1 ∨ lo ≤ w) ∧ w < n := h.2.2.2.2.2.2.2.2
def BF (b lo : Nat) (M M' : hM) : Prop := (∀ a, a ≠ b → a ≠ b + 1 → a < lo → (∀ k, gI M' a k = gI M a k) ∧ ∀ k, gA M' a k = gA M a k) ∧ Vr M M'
theorem BF.rfl' {b lo : Nat} {M : hM} : BF b lo M M := ⟨fun _ _ _ _ => ⟨fun _ => rfl, fun _ => rfl⟩, fun _ => rfl⟩
theorem BF.trans {b lo : Nat} {M M' M'' : hM} (h : BF b lo M M') (h' : BF b lo M' M'') : BF b lo M M'' := ⟨fun a h1 h2 h3 => ⟨fun k => ((h'.1 a h1 h2 h3).1 k).trans ((h.1 a h1 h2 h3).1 k), fun k => ((h'.1 a h1 h2 h3).2 k).trans ((h.1 a h1 h2 h3).2 k)⟩, h.2.trans h'.2⟩
theorem Dg0 {α : Type} {z b w : Nat} {M : hM} {F : Nat → Option α} (o : lO S b 10 4) (r : (S b).2.2 0 = 1) (hw : gI M b 0 = w) : mo_gr (hp S z M) (z + b) 10 0 F = F (z + w) := by
  rw [hl_gv o (by decide) r (by omega), hw, Int.toNat_natCast]
theorem Dg1 {α : Type} {z b lo n c : Nat} {M : hM} {t : List Int} {F : Int32 → Option α} (h : BB S M b lo n t c) : mo_gi (hp S z M) (z + b) 10 1 F = F (jI 0) := by
  rw [hl_gi h.o (by decide) (h.i 1 (by decide)), h.k1]
theorem Dg3 {α : Type} {z b lo n c : Nat} {M : hM} {t : List Int} {F : Int32 → Option α} (h : BB S M b lo n t c) : mo_gi (hp S z M) (z + b) 10 3 F = F (jI t.length) := by
  rw [hl_gi h.o (by decide) (h.i 3 (by decide)), h.k3]
theorem Dw3 {α : Type} {z b lo n c : Nat} {M : hM} {t : List Int} {v : Int} {F : ac_H → Option α} (h : BB S M b lo n t c) : mo_pv (hp S z M) (z + b) 10 3 (.int (jI v)) F = F (hp S z (sI M b 3 v)) := hl_pi h.o (by decide) (h.i 3 (by decide))
theorem Dw0 {α : Type} {z b v : Nat} {M : hM} {F : ac_H → Option α} (o : lO S b 10 4) (r : (S b).2.2 0 = 1) : mo_pv (hp S z M) (z + b) 10 0 (.ref (z + v)) F = F (hp S z (sI M b 0 v)) := hl_pr o (by decide) r
theorem Dv {α ρ : Type} {z b lo n c : Nat} {M : hM} {t : List Int} {m : Option (ρ × ac_H)} {F : ρ → ac_H → Option α} (h : BB S M b lo n t c) : mo_cv (hp S z M) (z + b) 10 m F = mo_cs m F := hl_cv h.o
theorem J5_cap {z b lo n c c1 m w : Nat} {M : hM} {t : List Int} (h : BB S M b lo n t c1) (hw : gI M b 0 = w) (ha : lA S w 1 m) (h16 : 16 ≤ m) (hm : m < c) (hc : c ≤ 120) (hs : c ≤ m + 12) : m_J5_newCapacity_0f7a4 (hp S z M) (z + b) (jI c) = some (jI ((2 * m + 2 : Nat) : Int), hp S z M) := by
  have g1 : (c : Int) - m < m + 2 := by omega
  have g2 : (0 : Int) < m + (m + 2) := by omega
  have g3 : ¬ (2147483639 : Int) < m + (m + 2) := by omega
  have g4 : ¬ (m : Int) + (m + 2) = 2147483647 := by omega
  have e : (m : Int) + (m + 2) = ((2 * m + 2 : Nat) : Int) := by omega
  unfold m_J5_newCapacity_0f7a4 m_J8_newLength_cabcc
  rw [Dg0 h.o h.r hw, hl_ln ha, Dg1 h, Dg1 h]
  simp (disch := omega) only [ji1, ji2, ji3, ji4, ji5, ji6, ji7, ji8, ji9, ji10, ji11, ji12, ji13, ji14, ji15, ji16, ji19, ji20, ji24, ji31, ji32, ji39, ji45, ji48, ji57, ji58, ji59, ji60, ji97, ji100, ji119, ji120, ji122, ji144, ji200, ji226, ji240, ji255, ji300, ji366, ji400, ji500, ji1000, jI_z, ↓jI_m1, jI_add, jI_sub, jI_mul, ↓jm1000, ↓jm100, ↓jm10, ↓jm9, ji50, ji65280, ji1664525, ji252645135, ji858993459, ji1013904223, ji1431655765, ji2147483639, ji2147483647, sr0, sl0, jI_lt, jI_eq, g1, g2, g3, g4, if_true, if_false, ↓mo_ns_r, ↓hn0, ↓mo_cs_s, ↓mo_xs_r, ↓mo_xs_l, ↓mo_nl_s, mo_z_0, mo_z_1]
  rw [Dg1 h, sr0, e]
theorem J5_ens {z b lo n c c1 : Nat} {M : hM} {t : List Int} (h : BB S M b lo n t c1) (hc : t.length ≤ c) (hc' : c ≤ 120) (hs : c ≤ t.length + 12) : ∃ S' M' n', m_J5_ensureCapacityInternal_d00df (hp S z M) (z + b) (jI c) (z + n) = some (z + n', hp S' z M') ∧ BB S' M' b lo n' t c ∧ n ≤ n' ∧ SK n S S' ∧ BF b lo M M' := by
  obtain ⟨w, m, w1, w2, w3, w4, w5, w6, w7, w8, w9⟩ := h.w
  have hbl := h.bl
  have hln := h.ln
  have htc := h.tc
  have hb := h.o.1
  by_cases g : (0 : Int) < c - m
  · have cap := J5_cap (z := z) (c := c) h w1 w2 w4 (by omega) hc' (by omega)
    have hq : 133 ≤ n := by omega
    have sk : SK n S (sS S n (20 + 1, 2 * m + 2, fun _ => 0)) := fun x hx => sS_n (by omega)
    have a1 : lA (sS S n (20 + 1, 2 * m + 2, fun _ => 0)) w 1 m := w2.sk sk (by omega)
    have a2 : lA (sS S n (20 + 1, 2 * m + 2, fun _ => 0)) n 1 (2 * m + 2) := by unfold lA; rw [sS_a]; exact ⟨hq, rfl, by decide, rfl⟩
    have na := hl_na (S := S) (z := z) (a := n) (kd := 1) (n := 2 * m + 2) (M := M) hq (by decide)
    have o2 : lO (sS S n (20 + 1, 2 * m + 2, fun _ => 0)) b 10 4 := h.o.sk sk (by omega)
    have r2 : (sS S n (20 + 1, 2 * m + 2, fun _ => 0) b).2.2 0 = 1 := by rw [sk b (by omega)]; exact h.r
    have i2 : ∀ k, 0 < k → (sS S n (20 + 1, 2 * m + 2, fun _ => 0) b).2.2 k = 0 := by rw [sk b (by omega)]; exact h.i
    have wz : ∀ i, 0 ≤ gA (zM M n) w i ∧ gA (zM M n) w i < 128 := fun i => by rw [gA_zM, if_neg (by omega)]; exact w6 i
    generalize sS S n (20 + 1, 2 * m + 2, fun _ => 0) = S1 at sk a1 a2 na o2 r2 i2
    have g2 : ¬ ((2 * m + 2 : Nat) : Int) = m := by omega
    have g3 : ¬ ((2 * m + 2 : Nat) : Int) < m := by omega
    refine ⟨S1, sI (cM (zM M n) w n m) b 0 n, n + 1, ?_, ⟨o2, r2, i2, ?_, ?_, hc, hbl, by omega, n, 2 * m + 2, ?_, a2, by omega, by omega, by omega, ?_, ?_, Or.inr hln, by omega⟩, by omega, sk, ?_, fun _ => rfl⟩
    · unfold m_J5_ensureCapacityInternal_d00df
      rw [Dg0 h.o h.r w1, hl_ln w2, Dg1 h]
      simp (disch := omega) only [ji1, ji2, ji3, ji4, ji5, ji6, ji7, ji8, ji9, ji10, ji11, ji12, ji13, ji14, ji15, ji16, ji19, ji20, ji24, ji31, ji32, ji39, ji45, ji48, ji57, ji58, ji59, ji60, ji97, ji100, ji119, ji120, ji122, ji144, ji200, ji226, ji240, ji255, ji300, ji366, ji400, ji500, ji1000, jI_z, ↓jI_m1, jI_add, jI_sub, jI_mul, ↓jm1000, ↓jm100, ↓jm10, ↓jm9, ji50, ji65280, ji1664525, ji252645135, ji858993459, ji1013904223, ji1431655765, ji2147483639, ji2147483647, sr0, jI_lt, g, if_true]
      rw [Dg0 h.o h.r w1, Dv h, cap]
      simp (disch := omega) only [↓mo_ns_r, ↓hn0, ↓mo_cs_s, ↓mo_xs_r, ↓mo_xs_l, ↓mo_nl_s, mo_z_0, mo_z_1]
      rw [Dg1 h]
      simp (disch := omega) only [ji1, ji2, ji3, ji4, ji5, ji6, ji7, ji8, ji9, ji10, ji11, ji12, ji13, ji14, ji15, ji16, ji19, ji20, ji24, ji31, ji32, ji39, ji45, ji48, ji57, ji58, ji59, ji60, ji97, ji100, ji119, ji120, ji122, ji144, ji200, ji226, ji240, ji255, ji300, ji366, ji400, ji500, ji1000, jI_z, ↓jI_m1, jI_add, jI_sub, jI_mul, ↓jm1000, ↓jm100, ↓jm10, ↓jm9, ji50, ji65280, ji1664525, ji252645135, ji858993459, ji1013904223, ji1431655765, ji2147483639, ji2147483647, sl0]
      unfold m_J7_copyOf_9075b
      rw [hl_ln w2]
      simp (disch := omega) only [jI_eq, g2, if_false]
      rw [mo_nwj (by omega), na, hl_ln a1]
      simp (disch := omega) only [ji1, ji2, ji3, ji4, ji5, ji6, ji7, ji8, ji9, ji10, ji11, ji12, ji13, ji14, ji15, ji16, ji19, ji20, ji24, ji31, ji32, ji39, ji45, ji48, ji57, ji58, ji59, ji60, ji97, ji100, ji119, ji120, ji122, ji144, ji200, ji226, ji240, ji255, ji300, ji366, ji400, ji500, ji1000, jI_z, ↓jI_m1, jI_add, jI_sub, jI_mul, ↓jm1000, ↓jm100, ↓jm10, ↓jm9, ji50, ji65280, ji1664525, ji252645135, ji858993459, ji1013904223, ji1431655765, ji2147483639, ji2147483647, jI_lt, g3, if_false]
      rw [hl_cb a1 a2 wz (Nat.le_refl _) (by omega) (by omega)]
      simp (disch := omega) only [↓mo_ns_r, ↓hn0, ↓mo_cs_s, ↓mo_xs_r, ↓mo_xs_l, ↓mo_nl_s, mo_z_0, mo_z_1]
      rw [Dw0 o2 r2]
      rfl
    · rw [gI_ne (by omega)]
      show gI (zM M n) b 1 = 0
      rw [gI_zM, if_neg (by omega)]; exact h.k1
    · rw [gI_ne (by omega)]
      show gI (zM M n) b 3 = _
      rw [gI_zM, if_neg (by omega)]; exact h.k3
    · rw [gI_eq]
    · intro i
      rw [gA_sI, gA_cM]
      by_cases hi : i < m
      · rw [if_pos ⟨rfl, hi⟩]; exact wz i
      · rw [if_neg (by omega), gA_zM, if_pos rfl]; omega
    · intro i hi
      rw [gA_sI, gA_cM, if_pos ⟨rfl, by omega⟩, gA_zM, if_neg (by omega)]; exact w7 i hi
    · intro a ha1 ha2 ha3
      refine ⟨fun k => ?_, fun k => ?_⟩
      · rw [gI_ne (by omega)]; show gI (zM M n) a k = _; rw [gI_zM, if_neg (by omega)]
      · rw [gA_sI, gA_cM, if_neg (by omega), gA_zM, if_neg (by omega)]
  · refine ⟨S, M, n, ?_, ⟨h.o, h.r, h.i, h.k1, h.k3, hc, hbl, hln, w, m, w1, w2, by omega, w4, w5, w6, w7, w8, w9⟩, Nat.le_refl _, SK.rfl', BF.rfl'⟩
    unfold m_J5_ensureCapacityInternal_d00df
    rw [Dg0 h.o h.r w1, hl_ln w2, Dg1 h]
    simp (disch := omega) only [ji1, ji2, ji3, ji4, ji5, ji6, ji7, ji8, ji9, ji10, ji11, ji12, ji13, ji14, ji15, ji16, ji19, ji20, ji24, ji31, ji32, ji39, ji45, ji48, ji57, ji58, ji59, ji60, ji97, ji100, ji119, ji120, ji122, ji144, ji200, ji226, ji240, ji255, ji300, ji366, ji400, ji500, ji1000, jI_z, ↓jI_m1, jI_add, jI_sub, jI_mul, ↓jm1000, ↓jm100, ↓jm10, ↓jm9, ji50, ji65280, ji1664525, ji252645135, ji858993459, ji1013904223, ji1431655765, ji2147483639, ji2147483647, sr0, jI_lt, g, if_false]

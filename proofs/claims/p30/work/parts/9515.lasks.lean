variable {S : hSh}
/-! THE LAW ASKS. -/
def bt (W : Nat → Nat) (k : Nat) : Nat := if (W (k / 16)).testBit (k % 16) = true then 1 else 0
def cs (W : Nat → Nat) : Nat → Nat
  | 0 => 0
  | k + 1 => cs W k + bt W k
theorem cs_le {W : Nat → Nat} : ∀ k, cs W k ≤ k := by
  intro k
  induction k with
  | zero => exact Nat.le_refl _
  | succ k ih => simp only [cs]; unfold bt; split <;> omega
theorem popG_bits : ∀ (n m : Nat), popG (n + 1) m = popG n m + if m.testBit n = true then 1 else 0 := by
  intro n
  induction n with
  | zero =>
    intro m
    simp only [popG, Nat.testBit_zero, decide_eq_true_eq]
    split <;> omega
  | succ n ih =>
    intro m
    have h := ih (m / 2)
    have e1 : popG (n + 1 + 1) m = m % 2 + popG (n + 1) (m / 2) := rfl
    have e2 : popG (n + 1) m = m % 2 + popG n (m / 2) := rfl
    rw [e1, h, e2, Nat.testBit_succ]; omega
theorem cs_row {W : Nat → Nat} {s : Nat} : ∀ i, i ≤ 16 → cs W (16 * s + i) = cs W (16 * s) + popG i (W s) := by
  intro i
  induction i with
  | zero => intro _; rfl
  | succ i ih =>
    intro hi
    rw [← Nat.add_assoc]
    simp only [cs]
    rw [ih (by omega), popG_bits]
    unfold bt
    rw [show (16 * s + i) / 16 = s from by omega, show (16 * s + i) % 16 = i from by omega]; omega
theorem cs_sum {W : Nat → Nat} : ∀ s, cs W (16 * s) = sum9 (fun k => pop (W k)) s := by
  intro s
  induction s with
  | zero => rfl
  | succ s ih =>
    rw [show 16 * (s + 1) = 16 * s + 16 from by omega, cs_row 16 (Nat.le_refl _), ih]
    rfl
theorem wD_k {M : hM} {e k : Nat} {W : Nat → Nat} (h : wD M e W) (hk : k < 144) : gA M e k = (bt W k : Nat) := by
  have := h (k / 16) (k % 16) (by omega) (by omega)
  rw [show 16 * (k / 16) + k % 16 = k from by omega] at this
  rw [this]; unfold bt; split <;> rfl
theorem L_a231 {z p r e g n pr : Nat} {timer : Int} {q : hQ} (hpr : pr < 4) (ht : timer = timerV q.1.1 pr) (hti : -1 ≤ timer ∧ timer ≤ 20) : ∀ (d k fu : Nat) (M : hM), k + d = 144 → d < fu → LX S M p r e g n q →
    ∃ S' M' n', m_L_asks_l231 z (z + p) (z + r) (z + e) (z + g) fu (hp S z M) (z + n) (jI pr) (jI timer) (jI (cs q.1.2 k : Nat)) (jI k) = some ((jI 1, z + n'), hp S' z M') ∧ LX S' M' p r e g n' q := by
  intro d
  induction d with
  | zero =>
    intro k fu M hk hf h
    obtain ⟨fu, rfl⟩ : ∃ g, fu = g + 1 := ⟨fu - 1, by omega⟩
    have gk : ¬ (k : Int) < 144 := by omega
    have hk : k = 144 := by omega
    subst hk
    obtain ⟨s, u1, d1, d2, d3, h1⟩ := h.draw (z := z) (m := 9) (by omega) (by omega)
    obtain ⟨t, u2, e1, e2, e3, h2⟩ := h1.draw (z := z) (m := 16) (by omega) (by omega)
    generalize hMa : sA (sA M g 0 u1) g 0 u2 = Ma at e1 h2
    have ho := h.2.2.2.2.2.2.2.2.1
    have ipr : 0 ≤ (pr : Int) ∧ (pr : Int) < 4 := by omega
    have wpr : okW (pr : Int) := ⟨by omega, by omega⟩
    have c1 := C_timer (S := S) (z := z) h2.2.2.2.2.2.2.2.1 ho wpr
    rw [show rTimer q pr = (0, timer, q) from by unfold rTimer; rw [if_pos ipr, Int.toNat_natCast, ht]] at c1
    obtain ⟨M1, n1, i1, k1⟩ := nvC c1 rfl
    have h3 := h2.km k1 i1
    have c2 := C_size (S := S) (z := z) (w := 10) i1 ho ⟨by omega, by omega⟩
    rw [show rSize q 10 = (0, ((cs q.1.2 144 : Nat) : Int), q) from by unfold rSize sizeV; rw [if_pos (by omega), if_neg (by omega), if_neg (by omega), if_neg (by omega), show 144 = 16 * 9 from rfl, cs_sum]] at c2
    obtain ⟨M2, n2, i2, k2⟩ := nvC c2 rfl
    have h4 := h3.km k2 i2
    have c3 := C_isRec (S := S) (z := z) (a := s) (b := t) i2 ho ⟨by omega, by omega⟩ ⟨by omega, by omega⟩
    obtain ⟨M3, n3, i3, k3⟩ := cvD c3
    have h5 := h4.km k3 i3
    have hrd := wD_k h5.2.2.2.2.2.2.1 (k := (16 * s + t).toNat) (by omega)
    have eV : isV q.1.2 s t = (bt q.1.2 (16 * s + t).toNat : Nat) := by
      unfold isV bt stB
      rw [show (16 * s + t).toNat / 16 = s.toNat from by omega, show (16 * s + t).toNat % 16 = t.toNat from by omega]
      by_cases gb : (q.1.2 s.toNat).testBit t.toNat = true
      · rw [if_pos ⟨by omega, gb⟩, if_pos gb]; rfl
      · rw [if_neg (fun x => gb x.2), if_neg gb]; rfl
    have ra : ∀ {α : Type} {M : hM} {F : Int32 → Option α}, mo_ai (hp S z M) (z + e) 2 (jI (16 * s + t)) F = F (jI (gA M e (16 * s + t).toNat)) := fun {α M F} => hl_ai h.2.2.1 (by omega) (by omega) (by omega)
    obtain ⟨y, u3, f1, f2, f3, h6⟩ := h5.draw (z := z) (m := 3) (by omega) (by omega)
    have pre : ∀ R, (if 0 < y then some ((jI 1, z + n), hp S z (sA M3 g 0 u3)) else mo_cs (m_L_single (hp S z (sA M3 g 0 u3)) z (z + p) (z + r) (jI pr) (z + n)) fun x91 σ90 => if x91.1 = jI 0 then mo_z (jI 0) (some ((jI 0, x91.2), σ90)) else mo_z (jI 1) (some ((jI 1, x91.2), σ90))) = R → m_L_asks_l231 z (z + p) (z + r) (z + e) (z + g) (fu + 1) (hp S z M) (z + n) (jI pr) (jI timer) (jI (cs q.1.2 144 : Nat)) (jI (144 : Nat)) = R := by
      intro R hR
      rw [← hR]
      unfold m_L_asks_l231
      simp (disch := omega) only [ji1, ji2, ji3, ji4, ji5, ji6, ji7, ji8, ji9, ji10, ji11, ji12, ji13, ji14, ji15, ji16, ji19, ji20, ji24, ji31, ji32, ji39, ji45, ji48, ji57, ji58, ji59, ji60, ji97, ji100, ji119, ji120, ji122, ji144, ji200, ji226, ji240, ji255, ji300, ji366, ji400, ji500, ji1000, jI_z, ↓jI_m1, jI_add, jI_sub, jI_mul, ↓jm1000, ↓jm100, ↓jm10, ↓jm9, ji50, ji65280, ji1664525, ji252645135, ji858993459, ji1013904223, ji1431655765, ji2147483639, ji2147483647, jI_lt, gk, if_false]
      rw [d1]
      simp only [↓mo_cs_s]
      rw [e1]
      simp only [↓mo_cs_s]
      rw [n1]
      simp only [if_true]
      rw [n2]
      simp only [if_true]
      rw [n3]
      simp only [ji1, ji2, ji3, ji4, ji5, ji6, ji7, ji8, ji9, ji10, ji11, ji12, ji13, ji14, ji15, ji16, ji19, ji20, ji24, ji31, ji32, ji39, ji45, ji48, ji57, ji58, ji59, ji60, ji97, ji100, ji119, ji120, ji122, ji144, ji200, ji226, ji240, ji255, ji300, ji366, ji400, ji500, ji1000, jI_z, ↓jI_m1, jI_add, jI_sub, jI_mul, ↓jm1000, ↓jm100, ↓jm10, ↓jm9, ji50, ji65280, ji1664525, ji252645135, ji858993459, ji1013904223, ji1431655765, ji2147483639, ji2147483647]
      rw [ra, hrd, show (rIsRec q s t).2.1 = isV q.1.2 s t from rfl, eV]
      simp only [if_true]
      rw [f1]
      simp (disch := omega) only [↓mo_cs_s, jI_lt, mo_z_1]
    by_cases gy : 0 < y
    · exact ⟨S, _, n, pre _ (if_pos gy), h6⟩
    · obtain ⟨g1, g2, g3, g4, g5, g6, g7, g8, g9, g10⟩ := h6
      obtain ⟨S', M', s1, s2, s3, s4⟩ := L_single (z := z) (pr := pr) g1 g2 (by omega) (by omega) g5.2.2.2.2 (by omega) ho g8 g6 hpr
      refine ⟨S', M', n + 5, pre _ ?_, LX.fz ⟨g1, g2, g3, g4, g5, g6, g7, g8, g9, g10⟩ s4 s2 s3 (by omega)⟩
      rw [if_neg gy, s1]
      simp only [↓mo_cs_s]
      rw [if_neg (show ¬ jI 1 = jI 0 by decide)]
      exact mo_z_1
  | succ d ih =>
    intro k fu M hk hf h
    obtain ⟨fu, rfl⟩ : ∃ g, fu = g + 1 := ⟨fu - 1, by omega⟩
    have gk : (k : Int) < 144 := by omega
    have ek : (k : Int) + 1 = ((k + 1 : Nat) : Int) := by omega
    obtain ⟨S', M', n', r1, r2⟩ := ih (k + 1) fu M (by omega) (by omega) h
    refine ⟨S', M', n', ?_, r2⟩
    have hrd := wD_k h.2.2.2.2.2.2.1 (k := k) (by omega)
    have ra : ∀ {α : Type} {F : Int32 → Option α}, mo_ai (hp S z M) (z + e) 2 (jI k) F = F (jI (gA M e k)) := fun {α F} => by
      have := hl_ai (z := z) (M := M) (i := (k : Int)) (F := F) h.2.2.1 (by omega) (by omega) (by omega)
      rwa [Int.toNat_natCast] at this
    unfold m_L_asks_l231
    simp (disch := omega) only [ji1, ji2, ji3, ji4, ji5, ji6, ji7, ji8, ji9, ji10, ji11, ji12, ji13, ji14, ji15, ji16, ji19, ji20, ji24, ji31, ji32, ji39, ji45, ji48, ji57, ji58, ji59, ji60, ji97, ji100, ji119, ji120, ji122, ji144, ji200, ji226, ji240, ji255, ji300, ji366, ji400, ji500, ji1000, jI_z, ↓jI_m1, jI_add, jI_sub, jI_mul, ↓jm1000, ↓jm100, ↓jm10, ↓jm9, ji50, ji65280, ji1664525, ji252645135, ji858993459, ji1013904223, ji1431655765, ji2147483639, ji2147483647, jI_lt, gk, if_true]
    rw [ra, hrd]
    have hbt : bt q.1.2 k = 0 ∨ bt q.1.2 k = 1 := by unfold bt; split <;> simp
    have ecs : cs q.1.2 (k + 1) = cs q.1.2 k + bt q.1.2 k := rfl
    rw [ecs] at r1
    rcases hbt with hb | hb
    · rw [hb] at r1 ⊢
      rw [if_pos (show jI ((0 : Nat) : Int) = jI 0 from rfl), ek]; exact r1
    · rw [hb] at r1 ⊢
      rw [if_neg (show ¬ jI ((1 : Nat) : Int) = jI 0 by decide), ek]; exact r1
theorem L_a180 {z p r e g n w pr : Nat} {q : hQ} (hpr : pr < 4) (hw : isP S w) (hwn : w + 5 ≤ n) (hrw : r + 9 ≤ w) : ∀ (d fu : Nat) (a v : Int) (M : hM) (E : Nat → Int), a + d = 21 → 1 ≤ a → d + 1 < fu → lsA (fun v => !brk (cT q.1.1 v) pr) d a = timerV q.1.1 pr → eOK E → q.1.1.2 = fl E 360 0 → LX S M p r e g n q → PE M w (cT q.1.1 v).1 E →
    ∃ S' M' n', m_L_asks_l180 z (z + p) (z + r) (z + e) (z + g) fu (hp S z M) (z + n) (jI pr) (z + w) (jI (-1)) (jI a) = some ((jI 1, z + n'), hp S' z M') ∧ LX S' M' p r e g n' q := by
  intro d
  induction d with
  | zero =>
    intro fu a v M E ha h1 hf hls hE hcE h hP
    obtain ⟨fu, rfl⟩ : ∃ g, fu = g + 1 := ⟨fu - 1, by omega⟩
    obtain ⟨S', M', n', r1, r2⟩ := L_a231 (z := z) (pr := pr) (timer := -1) hpr hls (by omega) 144 0 hN_f M (by omega) (by unfold hN_f; omega) h
    refine ⟨S', M', n', ?_, r2⟩
    have gg : (20 : Int) < a := by omega
    unfold m_L_asks_l180
    simp (disch := omega) only [ji1, ji2, ji3, ji4, ji5, ji6, ji7, ji8, ji9, ji10, ji11, ji12, ji13, ji14, ji15, ji16, ji19, ji20, ji24, ji31, ji32, ji39, ji45, ji48, ji57, ji58, ji59, ji60, ji97, ji100, ji119, ji120, ji122, ji144, ji200, ji226, ji240, ji255, ji300, ji366, ji400, ji500, ji1000, jI_z, ↓jI_m1, jI_add, jI_sub, jI_mul, ↓jm1000, ↓jm100, ↓jm10, ↓jm9, ji50, ji65280, ji1664525, ji252645135, ji858993459, ji1013904223, ji1431655765, ji2147483639, ji2147483647, jI_lt, gg, if_true]
    exact r1
  | succ d ih =>
    intro fu a v M E ha h1 hf hls hE hcE h hP
    obtain ⟨fu, rfl⟩ : ∃ g, fu = g + 1 := ⟨fu - 1, by omega⟩
    have gg : ¬ (20 : Int) < a := by omega
    obtain ⟨g1, g2, g3, g4, g5, g6, g7, g8, g9, g10⟩ := h
    have hc := g9.1.1
    have f1 : Fr w (w + 5) M (sA M (w + 1) 4 a) := Fr.sA (by omega)
    have hP1 := hP.s (w := 4) (v := a) (by omega)
    have eo : (fun j => if j = 4 then a else (cT q.1.1 v).1 j) = (cT q.1.1 a).1 := by
      funext j
      show (if j = 4 then a else if j = 4 then v else q.1.1.1 j) = if j = 4 then a else q.1.1.1 j
      split <;> rfl
    rw [eo] at hP1
    obtain ⟨M2, b1, b2, b3, b4, b5⟩ := X8_gb (z := z) (pr := pr) g2 hw (by omega) (hc.tm (v := a) (by omega)) ⟨E, hE, hP1, hcE⟩ hpr
    have fz : FZ r w M M2 := fun b x0 x1 x2 => ⟨fun k => by rw [(b4 b x1).1, (f1 b (by omega)).1], fun k => by rw [(b4 b x1).2, (f1 b (by omega)).2]⟩
    have hkl : KL M M2 := ⟨fun b hb => ⟨fun k => by rw [(b4 b (by omega)).1, (f1 b (by omega)).1], fun k => by rw [(b4 b (by omega)).2, (f1 b (by omega)).2]⟩, fun k => by rw [b5]; rfl⟩
    have hw' : LX S M p r e g w q := ⟨g1, g2, g3, g4, ⟨g5.1, g5.2.1, g5.2.2.1, g5.2.2.2.1, hrw⟩, g6, g7, g8, g9, g10⟩
    have h2 : LX S M2 p r e g n q := hw'.fz fz (g8.kl g9 hkl) SK.rfl' (by omega)
    have pre : ∀ R, (if jI (b2i (brk (cT q.1.1 a) pr)) = jI 0 then m_L_asks_l180 z (z + p) (z + r) (z + e) (z + g) fu (hp S z M2) (z + n) (jI pr) (z + w) (jI a) (jI (a + 1)) else m_L_asks_l180 z (z + p) (z + r) (z + e) (z + g) fu (hp S z M2) (z + n) (jI pr) (z + w) (jI (-1)) (jI (a + 1))) = R → m_L_asks_l180 z (z + p) (z + r) (z + e) (z + g) (fu + 1) (hp S z M) (z + n) (jI pr) (z + w) (jI (-1)) (jI a) = R := by
      intro R hR
      rw [← hR]
      conv => lhs; unfold m_L_asks_l180
      simp (disch := omega) only [ji1, ji2, ji3, ji4, ji5, ji6, ji7, ji8, ji9, ji10, ji11, ji12, ji13, ji14, ji15, ji16, ji19, ji20, ji24, ji31, ji32, ji39, ji45, ji48, ji57, ji58, ji59, ji60, ji97, ji100, ji119, ji120, ji122, ji144, ji200, ji226, ji240, ji255, ji300, ji366, ji400, ji500, ji1000, jI_z, ↓jI_m1, jI_add, jI_sub, jI_mul, ↓jm1000, ↓jm100, ↓jm10, ↓jm9, ji50, ji65280, ji1664525, ji252645135, ji858993459, ji1013904223, ji1431655765, ji2147483639, ji2147483647, jI_lt, gg, if_false, show (-1 : Int) < 0 from by omega, if_true, ↓Pg0 hw, ↓Pg1 hw, ↓Pg2 hw, ↓Pg3 hw, ↓Pv hw, Pa1 hw, Pu1 hw, Pa2 hw, Pu2 hw, Pa3 hw, Pu3 hw, Pa4 hw, Pu4 hw]
      rw [show (4 : Int).toNat = 4 from rfl]
      simp only [↓Rv g2]
      rw [b1]
      simp only [↓mo_cs_s, ↓Rv g2]
      rw [b2]
      simp only [↓mo_cs_s]
    simp only [lsA] at hls
    by_cases hb : brk (cT q.1.1 a) pr = true
    · simp only [hb, Bool.not_true, Bool.false_eq_true, if_false] at hls
      obtain ⟨S', M', n', r1, r2⟩ := ih fu (a + 1) a M2 E (by omega) (by omega) (by omega) hls hE hcE h2 (hP1.keep b4 (by omega))
      exact ⟨S', M', n', pre _ (by rw [bT hb]; exact r1), r2⟩
    · have hb : brk (cT q.1.1 a) pr = false := by simpa using hb
      simp only [hb, Bool.not_false, if_true] at hls
      obtain ⟨S', M', n', r1, r2⟩ := L_a231 (z := z) (pr := pr) (timer := a) hpr hls (by omega) 144 0 hN_f M2 (by omega) (by unfold hN_f; omega) h2
      refine ⟨S', M', n', pre _ ?_, r2⟩
      rw [bF hb]
      obtain ⟨fu, rfl⟩ : ∃ g, fu = g + 1 := ⟨fu - 1, by omega⟩
      have ga : ¬ a < 0 := by omega
      unfold m_L_asks_l180
      simp (disch := omega) only [ji1, ji2, ji3, ji4, ji5, ji6, ji7, ji8, ji9, ji10, ji11, ji12, ji13, ji14, ji15, ji16, ji19, ji20, ji24, ji31, ji32, ji39, ji45, ji48, ji57, ji58, ji59, ji60, ji97, ji100, ji119, ji120, ji122, ji144, ji200, ji226, ji240, ji255, ji300, ji366, ji400, ji500, ji1000, jI_z, ↓jI_m1, jI_add, jI_sub, jI_mul, ↓jm1000, ↓jm100, ↓jm10, ↓jm9, ji50, ji65280, ji1664525, ji252645135, ji858993459, ji1013904223, ji1431655765, ji2147483639, ji2147483647, jI_lt, ga, if_false]
      by_cases g20 : (20 : Int) < a + 1
      · rw [if_pos g20]; exact r1
      · rw [if_neg g20]; exact r1
theorem L_atm {z p r e g n pr : Nat} {M : hM} {q : hQ} (hpr : pr < 4) (h : LX S M p r e g n q) : ∃ S1 M1, m_X7_copy (hp S z M) (z + p) (z + n) = some ((z + n, z + (n + 5)), hp S1 z M1) ∧ ∃ S' M' n', m_L_asks_l180 z (z + p) (z + r) (z + e) (z + g) hN_f (hp S1 z M1) (z + (n + 5)) (jI pr) (z + n) (jI (-1)) (jI 1) = some ((jI 1, z + n'), hp S' z M') ∧ LX S' M' p r e g n' q := by
  have h' := h
  obtain ⟨g1, g2, g3, g4, g5, g6, g7, g8, g9, g10⟩ := h'
  obtain ⟨E, hE, hPE, hcE⟩ := g6
  obtain ⟨S1, M1, a1, a2, a3, a4, a5, a6⟩ := X7_copy (S := S) (z := z) (n := n) g1 (by omega) (by omega) hE hPE
  have h1 : LX S1 M1 p r e g (n + 5) q := h.fl (FL.ofN a4 a5) a3 (by omega)
  have e4 : (cT q.1.1 (q.1.1.1 4)).1 = q.1.1.1 := by
    funext j
    show (if j = 4 then q.1.1.1 4 else q.1.1.1 j) = _
    split
    · next e => rw [e]
    · rfl
  exact ⟨S1, M1, a1, L_a180 (z := z) hpr a2 (by omega) (by omega) 20 hN_f 1 (q.1.1.1 4) M1 E (by omega) (by omega) (by unfold hN_f; omega) rfl hE hcE h1 (by rw [e4]; exact a6)⟩

theorem L_a143 {z p r e g n pr f : Nat} {M : hM} {q : hQ} {v : Int} (hpr : pr < 4) (hf : f < q.1.1.2.length) (h : LX S M p r e g n q) :
    ∃ S' M' n', m_L_asks_j143 z (z + p) (z + r) (z + e) (z + g) (hp S z M) (z + n) (jI pr) (jI f) (jI v) (jI v) = some ((jI 1, z + n'), hp S' z M') ∧ LX S' M' p r e g n' q := by
  have h' := h
  obtain ⟨g1, g2, g3, g4, g5, g6, g7, g8, g9, g10⟩ := h'
  have ipr : 0 ≤ (pr : Int) ∧ (pr : Int) < 4 := by omega
  have c1 := C_least (S := S) (z := z) (f := (f : Int)) (p := (pr : Int)) g8 g9 ⟨by omega, by omega⟩ ⟨by omega, by omega⟩
  rw [show rLeast q f pr = (0, leastV q.1.1 pr f, q) from by unfold rLeast; rw [if_pos (by omega), if_pos ipr, Int.toNat_natCast, Int.toNat_natCast]] at c1
  obtain ⟨M1, n1, i1, k1⟩ := nvC c1 rfl
  have h1 := h.km k1 i1
  obtain ⟨S2, M2, n2, a1, a2, a3, a4⟩ := L_least (z := z) (M := M1) (n := n) (pr := pr) (f := f) g1 g2 (by omega) (by omega) (by omega) (by omega) g9.1.1 h1.2.2.2.2.2.1 hpr hf
  have h2 := h1.fl a4 a3 a2
  obtain ⟨S3, M3, b1, S', M', n', r1, r2⟩ := L_atm (z := z) hpr h2
  refine ⟨S', M', n', ?_, r2⟩
  unfold m_L_asks_j143
  rw [if_pos rfl, n1, a1]
  simp only [↓mo_cs_s, if_true, ↓Pv h2.1]
  rw [b1]
  simp only [↓mo_cs_s, ji1, ji2, ji3, ji4, ji5, ji6, ji7, ji8, ji9, ji10, ji11, ji12, ji13, ji14, ji15, ji16, ji19, ji20, ji24, ji31, ji32, ji39, ji45, ji48, ji57, ji58, ji59, ji60, ji97, ji100, ji119, ji120, ji122, ji144, ji200, ji226, ji240, ji255, ji300, ji366, ji400, ji500, ji1000, jI_z, ↓jI_m1, jI_add, jI_sub, jI_mul, ↓jm1000, ↓jm100, ↓jm10, ↓jm9, ji50, ji65280, ji1664525, ji252645135, ji858993459, ji1013904223, ji1431655765, ji2147483639, ji2147483647]
  exact r1
theorem L_a71 {z p r e g n pr : Nat} {M : hM} {q : hQ} {v : Int} (hpr : pr < 4) (h : LX S M p r e g n q) :
    ∃ S' M' n', m_L_asks_j71 z (z + p) (z + r) (z + e) (z + g) (hp S z M) (z + n) (jI pr) (jI (b2i (brk q.1.1 pr))) (jI v) (jI v) = some ((jI 1, z + n'), hp S' z M') ∧ LX S' M' p r e g n' q := by
  have h' := h
  obtain ⟨g1, g2, g3, g4, g5, g6, g7, g8, g9, g10⟩ := h'
  obtain ⟨E, hE, hPE, hcE⟩ := g6
  have hmany := X7_many (z := z) g1 hPE hE
  rw [← hcE] at hmany
  have ipr : 0 ≤ (pr : Int) ∧ (pr : Int) < 4 := by omega
  by_cases g0 : q.1.1.2.length = 0
  · obtain ⟨S3, M3, b1, S', M', n', r1, r2⟩ := L_atm (z := z) hpr h
    refine ⟨S', M', n', ?_, r2⟩
    have gg : ¬ (0 : Int) < (q.1.1.2.length : Nat) := by omega
    unfold m_L_asks_j71
    rw [if_pos rfl]
    simp only [↓Pv g1]
    rw [hmany]
    simp (disch := omega) only [↓mo_cs_s, ji1, ji2, ji3, ji4, ji5, ji6, ji7, ji8, ji9, ji10, ji11, ji12, ji13, ji14, ji15, ji16, ji19, ji20, ji24, ji31, ji32, ji39, ji45, ji48, ji57, ji58, ji59, ji60, ji97, ji100, ji119, ji120, ji122, ji144, ji200, ji226, ji240, ji255, ji300, ji366, ji400, ji500, ji1000, jI_z, ↓jI_m1, jI_add, jI_sub, jI_mul, ↓jm1000, ↓jm100, ↓jm10, ↓jm9, ji50, ji65280, ji1664525, ji252645135, ji858993459, ji1013904223, ji1431655765, ji2147483639, ji2147483647, jI_lt, gg, if_false, ↓Pv g1]
    rw [b1]
    simp only [↓mo_cs_s]
    exact r1
  · have gg : (0 : Int) < (q.1.1.2.length : Nat) := by omega
    obtain ⟨fi, u, d1, d2, d3, h1⟩ := h.draw (z := z) (m := (q.1.1.2.length : Nat)) (by omega) (by omega)
    obtain ⟨f, rfl⟩ : ∃ k : Nat, fi = k := ⟨fi.toNat, by omega⟩
    generalize hMa : sA M g 0 u = Ma at d1 h1
    have fMa : Fr g (g + 1) M Ma := by rw [← hMa]; exact Fr.sA (by omega)
    have hPE1 : PE Ma p q.1.1.1 E := hPE.keep fMa (by omega)
    obtain ⟨S2, M2, a1, a2, a3, a4, a5, a6⟩ := X7_copy (S := S) (z := z) (n := n) g1 (by omega) (by omega) hE hPE1
    have h2 : LX S2 M2 p r e g (n + 5) q := h1.fl (FL.ofN a4 a5) a3 (by omega)
    obtain ⟨j, j1, j2, j3, j4, j5⟩ := ftV_j (E := E) (f := f) (by rw [← hcE]; omega)
    have hPE2 : PE M2 p q.1.1.1 E := hPE1.keep a4 (by omega)
    have hft := X7_fault (z := z) (f := f) h2.1 hPE2 hE (by omega)
    obtain ⟨M3, t1, t2, t3, t4⟩ := X7_take (z := z) a2 a6 hE j1
    have hnn : LX S2 M2 p r e g n q := ⟨h2.1, h2.2.1, h2.2.2.1, h2.2.2.2.1, g5, h2.2.2.2.2.2.1, h2.2.2.2.2.2.2.1, h2.2.2.2.2.2.2.2.1, g9, g10⟩
    have h3 : LX S2 M3 p r e g (n + 5) q := hnn.fl (FL.ofN t3 t4) SK.rfl' (by omega)
    have c1 := C_matters (S := S2) (z := z) (M := M3) (f := (f : Int)) (p := (pr : Int)) h3.2.2.2.2.2.2.2.1 g9 ⟨by omega, by omega⟩ ⟨by omega, by omega⟩
    rw [show rMatters q f pr = (0, b2i (brk q.1.1 pr && !brk (q.1.1.1, q.1.1.2.eraseIdx f) pr), q) from by unfold rMatters; rw [if_pos (by omega), if_pos ipr, Int.toNat_natCast, Int.toNat_natCast]] at c1
    obtain ⟨M4, n1, i1, k1⟩ := nvC c1 rfl
    have h4 := h3.km k1 i1
    have hPl : PL M4 n (q.1.1.1, q.1.1.2.eraseIdx f) := by
      refine ⟨pt E j 0, eOK_pt hE (by omega) (by omega) (fun _ => by omega), t2.cg2 (fun b x0 x1 k => (k1 b (by omega)).2 k), ?_⟩
      show q.1.1.2.eraseIdx f = _
      rw [hcE, fl_era j1 j2, j3]
    have pre : ∀ R, (if jI (b2i (brk q.1.1 pr)) = jI 0 then m_L_asks_j143 z (z + p) (z + r) (z + e) (z + g) (hp S2 z M4) (z + (n + 5)) (jI pr) (jI f) (jI 0) (jI (b2i (brk q.1.1 pr && !brk (q.1.1.1, q.1.1.2.eraseIdx f) pr))) else (mo_cs (m_X8_go (hp S2 z M4) (z + r) (z + n)) fun x42 σ41 => mo_cv σ41 x42 8 (m_X8_breaks σ41 x42 (jI pr)) fun x44 σ43 => if x44 = jI 0 then m_L_asks_j143 z (z + p) (z + r) (z + e) (z + g) σ43 (z + (n + 5)) (jI pr) (jI f) (jI 1) (jI (b2i (brk q.1.1 pr && !brk (q.1.1.1, q.1.1.2.eraseIdx f) pr))) else m_L_asks_j143 z (z + p) (z + r) (z + e) (z + g) σ43 (z + (n + 5)) (jI pr) (jI f) (jI 0) (jI (b2i (brk q.1.1 pr && !brk (q.1.1.1, q.1.1.2.eraseIdx f) pr))))) = R → m_L_asks_j71 z (z + p) (z + r) (z + e) (z + g) (hp S z M) (z + n) (jI pr) (jI (b2i (brk q.1.1 pr))) (jI v) (jI v) = R := by
      intro R hR
      rw [← hR]
      unfold m_L_asks_j71
      rw [if_pos rfl]
      simp only [↓Pv g1]
      rw [hmany]
      simp (disch := omega) only [↓mo_cs_s, ji1, ji2, ji3, ji4, ji5, ji6, ji7, ji8, ji9, ji10, ji11, ji12, ji13, ji14, ji15, ji16, ji19, ji20, ji24, ji31, ji32, ji39, ji45, ji48, ji57, ji58, ji59, ji60, ji97, ji100, ji119, ji120, ji122, ji144, ji200, ji226, ji240, ji255, ji300, ji366, ji400, ji500, ji1000, jI_z, ↓jI_m1, jI_add, jI_sub, jI_mul, ↓jm1000, ↓jm100, ↓jm10, ↓jm9, ji50, ji65280, ji1664525, ji252645135, ji858993459, ji1013904223, ji1431655765, ji2147483639, ji2147483647, jI_lt, gg, if_true, ↓Pv g1]
      rw [hmany]
      simp only [↓mo_cs_s]
      rw [d1]
      simp only [↓mo_cs_s, ↓Pv g1]
      rw [a1]
      simp only [↓mo_cs_s, ↓Pv h2.1]
      rw [hft, j4]
      simp only [↓mo_cs_s, ↓Pv a2]
      rw [t1]
      simp only [↓mo_cs_s]
      rw [n1]
      simp only [↓Rv h4.2.1]
    by_cases hb : brk q.1.1 pr = true
    · obtain ⟨M5, b1, b2, b3, b4, b5⟩ := X8_gb (z := z) (pr := pr) h4.2.1 a2 (by omega) (g9.1.1.era f) hPl hpr
      have h5 : LX S2 M5 p r e g (n + 5) q := h4.fl (FL.ofR b4 b5) SK.rfl' (Nat.le_refl _)
      by_cases hb2 : brk (q.1.1.1, q.1.1.2.eraseIdx f) pr = true
      · obtain ⟨S', M', n', r1, r2⟩ := L_a143 (z := z) (f := f) (v := 0) hpr (by omega) h5
        refine ⟨S', M', n', pre _ ?_, r2⟩
        rw [bT hb, b1]
        simp only [↓mo_cs_s, ↓Rv h4.2.1]
        rw [b2]
        simp only [↓mo_cs_s]
        rw [bT hb2, hb, hb2]
        exact r1
      · have hb2 : brk (q.1.1.1, q.1.1.2.eraseIdx f) pr = false := by simpa using hb2
        obtain ⟨S', M', n', r1, r2⟩ := L_a143 (z := z) (f := f) (v := 1) hpr (by omega) h5
        refine ⟨S', M', n', pre _ ?_, r2⟩
        rw [bT hb, b1]
        simp only [↓mo_cs_s, ↓Rv h4.2.1]
        rw [b2]
        simp only [↓mo_cs_s]
        rw [bF hb2, hb, hb2]
        exact r1
    · have hb : brk q.1.1 pr = false := by simpa using hb
      obtain ⟨S', M', n', r1, r2⟩ := L_a143 (z := z) (f := f) (v := 0) hpr (by omega) h4
      refine ⟨S', M', n', pre _ ?_, r2⟩
      rw [bF hb, hb]
      exact r1
theorem L_asks {z p r e g n : Nat} {M : hM} {q : hQ} (h : LX S M p r e g n q) :
    ∃ S' M' n', m_L_asks (hp S z M) z (z + p) (z + r) (z + e) (z + g) (z + n) = some ((jI 1, z + n'), hp S' z M') ∧ LX S' M' p r e g n' q := by
  obtain ⟨pi, u, d1, d2, d3, h1⟩ := h.draw (z := z) (m := 4) (by omega) (by omega)
  obtain ⟨pr, rfl⟩ : ∃ k : Nat, pi = k := ⟨pi.toNat, by omega⟩
  have hpr : pr < 4 := by omega
  have ipr : 0 ≤ (pr : Int) ∧ (pr : Int) < 4 := by omega
  have wpr : okW (pr : Int) := ⟨by omega, by omega⟩
  generalize sA M g 0 u = Ma at d1 h1
  have h1' := h1
  obtain ⟨g1, g2, g3, g4, g5, g6, g7, g8, g9, g10⟩ := h1'
  obtain ⟨M1, b1, b2, b3, b4, b5⟩ := X8_gb (z := z) (pr := pr) g2 g1 (by omega) g9.1.1 g6 hpr
  have h2 : LX S M1 p r e g n q := h1.fl (FL.ofR b4 b5) SK.rfl' (Nat.le_refl _)
  obtain ⟨S3, M3, n3, c1, c2, c3, c4, c5⟩ := L_core (z := z) (n := n) (pr := pr) (by omega) g9.1.1 g10.1 hpr g1 g2 (by omega) (by omega) (by omega) h2.2.2.2.2.2.1
  have h3 := h2.fl c5 c4 c3
  have k1 := C_breaks (S := S3) (z := z) h3.2.2.2.2.2.2.2.1 g9 wpr
  rw [show rBreaks q pr = (0, b2i (brk q.1.1 pr), q) from by unfold rBreaks; rw [if_pos ipr, Int.toNat_natCast]] at k1
  obtain ⟨M4, e1, i1, j1⟩ := nvC k1 rfl
  have h4 := h3.km j1 i1
  have k2 := C_core (S := S3) (z := z) i1 g9 wpr
  rw [show rCore q pr = (0, oI (coreV q.1.1 pr), q) from by unfold rCore; rw [if_pos ipr, Int.toNat_natCast]] at k2
  obtain ⟨M5, e2, i2, j2⟩ := nvC k2 rfl
  have h5 := h4.km j2 i2
  have k3 := C_smallest (S := S3) (z := z) i2 g9 wpr
  rw [show rSmallest q pr = (0, smI (coreV q.1.1 pr), q) from by unfold rSmallest; rw [if_pos ipr, Int.toNat_natCast]] at k3
  obtain ⟨M6, e3, i3, j3⟩ := nvC k3 rfl
  have h6 := h5.km j3 i3
  have pre : ∀ R, (if jI (oI (coreV q.1.1 pr)) < jI 0 then m_L_asks_j71 z (z + p) (z + r) (z + e) (z + g) (hp S3 z M6) (z + n3) (jI pr) (jI (b2i (brk q.1.1 pr))) (jI (-1)) (jI (smI (coreV q.1.1 pr))) else mo_cs (m_J6_bitCount_0f7a4 (hp S3 z M6) (jI (oI (coreV q.1.1 pr)))) fun x17 σ16 => m_L_asks_j71 z (z + p) (z + r) (z + e) (z + g) σ16 (z + n3) (jI pr) (jI (b2i (brk q.1.1 pr))) x17 (jI (smI (coreV q.1.1 pr)))) = R → m_L_asks (hp S z M) z (z + p) (z + r) (z + e) (z + g) (z + n) = R := by
    intro R hR
    rw [← hR]
    unfold m_L_asks
    simp only [ji1, ji2, ji3, ji4, ji5, ji6, ji7, ji8, ji9, ji10, ji11, ji12, ji13, ji14, ji15, ji16, ji19, ji20, ji24, ji31, ji32, ji39, ji45, ji48, ji57, ji58, ji59, ji60, ji97, ji100, ji119, ji120, ji122, ji144, ji200, ji226, ji240, ji255, ji300, ji366, ji400, ji500, ji1000, jI_z, ↓jI_m1, jI_add, jI_sub, jI_mul, ↓jm1000, ↓jm100, ↓jm10, ↓jm9, ji50, ji65280, ji1664525, ji252645135, ji858993459, ji1013904223, ji1431655765, ji2147483639, ji2147483647]
    rw [d1]
    simp only [↓mo_cs_s, ↓Rv g2]
    rw [b1]
    simp only [↓mo_cs_s, ↓Rv g2]
    rw [b2]
    simp only [↓mo_cs_s]
    rw [c1]
    simp only [↓mo_cs_s]
    rw [e1]
    simp only [if_true]
    rw [e2]
    simp only [if_true]
    rw [e3]
  cases hco : coreV q.1.1 pr with
  | none =>
    obtain ⟨S', M', n', r1, r2⟩ := L_a71 (z := z) (v := -1) hpr h6
    refine ⟨S', M', n', pre _ ?_, r2⟩
    rw [hco, if_pos (show jI (oI none) < jI 0 by decide)]
    exact r1
  | some m =>
    rw [hco] at c2
    have hm := coreV_lt g9.1.1 c2
    obtain ⟨S', M', n', r1, r2⟩ := L_a71 (z := z) (v := (pop m : Nat)) hpr h6
    refine ⟨S', M', n', pre _ ?_, r2⟩
    rw [hco, show oI (some m) = (m : Int) from rfl, if_neg (by rw [jI_lt (by omega) (by omega) (by omega) (by omega)]; omega), J6_bc (show m < 65536 by omega)]
    simp only [↓mo_cs_s]
    rw [show smI (some m) = ((pop m : Nat) : Int) from rfl]
    exact r1

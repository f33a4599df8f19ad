variable {S : hSh}
/-! .. the law shrinks. -/
theorem lsA_P {P : Int → Bool} : ∀ (n : Nat) (a : Int), 0 ≤ a → lsA P n a ≠ -1 → P (lsA P n a) = true := by
  intro n
  induction n with
  | zero => intro a _ h; exact absurd rfl h
  | succ n ih =>
    intro a h0 h
    simp only [lsA] at h ⊢
    split
    · assumption
    · next g => rw [if_neg g] at h; exact ih (a + 1) (by omega) h
theorem lsA_ne {P : Int → Bool} {b : Int} (hb : P b = true) : ∀ (n : Nat) (a : Int), 0 ≤ a → a ≤ b → b < a + n → lsA P n a ≠ -1 := by
  intro n
  induction n with
  | zero => intro a _ h1 h2; omega
  | succ n ih =>
    intro a h0 h1 h2
    simp only [lsA]
    split
    · omega
    · next g =>
      have : a ≠ b := by intro x; rw [x] at g; exact g hb
      exact ih (a + 1) (by omega) (by omega) (by omega)
theorem L_c388 {z p r w n0 n pr : Nat} {o E : Nat → Int} (h : isP S p) (h' : isP S w) (hd : p + 5 ≤ w) (hE : eOK E) : ∀ (d k f : Nat) (M : hM) (E1 : Nat → Int), k + d = 120 → d < f → PE M w o E → PE M p o E1 → (∀ j, j < 3 * k → E1 j = E j) →
    ∃ M', m_L_changes_l388 z (z + p) (z + r) f (hp S z M) (z + n) (jI pr) (z + w) (jI k) = m_L_changes_l434 z (z + p) (z + r) 8 (hp S z M') (z + n) (jI pr) (jI 0) ∧ PE M' p o E ∧ Fr p (p + 5) M M' ∧ Vr M M' := by
  intro d
  induction d with
  | zero =>
    intro k f M E1 hk hf hP hP1 he
    obtain ⟨f, rfl⟩ : ∃ g, f = g + 1 := ⟨f - 1, by omega⟩
    have g : ¬ (k : Int) < 120 := by omega
    refine ⟨M, ?_, hP1.cg (fun j hj => (he j (by omega)).symm), Fr.rfl', Vr.rfl'⟩
    unfold m_L_changes_l388
    simp (disch := omega) only [ji1, ji2, ji3, ji4, ji5, ji6, ji7, ji8, ji9, ji10, ji11, ji12, ji13, ji14, ji15, ji16, ji19, ji20, ji24, ji31, ji32, ji39, ji45, ji48, ji57, ji58, ji59, ji60, ji97, ji100, ji119, ji120, ji122, ji144, ji200, ji226, ji240, ji255, ji300, ji366, ji400, ji500, ji1000, jI_z, ↓jI_m1, jI_add, jI_sub, jI_mul, ↓jm1000, ↓jm100, ↓jm10, ↓jm9, ji50, ji65280, ji1664525, ji252645135, ji858993459, ji1013904223, ji1431655765, ji2147483639, ji2147483647, jI_lt, g, if_false]
  | succ d ih =>
    intro k f M E1 hk hf hP hP1 he
    obtain ⟨f, rfl⟩ : ∃ g, f = g + 1 := ⟨f - 1, by omega⟩
    have g : (k : Int) < 120 := by omega
    have ek : (k : Int) + 1 = ((k + 1 : Nat) : Int) := by omega
    obtain ⟨e1, e2, e3⟩ := hP.2 k (by omega)
    obtain ⟨b0, b1, b2⟩ := hE (3 * k) (by omega)
    obtain ⟨c0, c1, c2⟩ := hE (3 * k + 1) (by omega)
    have b2 := b2 (by omega)
    have c2 := c2 (by omega)
    have hfr := Fr_put (M := M) (p := p) (k := k) (a := E (3 * k)) (b := E (3 * k + 1)) (v := E (3 * k + 2))
    obtain ⟨M', r1, r2, r3, r4⟩ := ih (k + 1) f _ _ (by omega) (by omega) (hP.keep hfr (by omega)) (PE_put (a := E (3 * k)) (b := E (3 * k + 1)) (v := E (3 * k + 2)) hP1 (by omega)) (by
      intro j hj
      unfold p3 pt
      by_cases x2 : j = 3 * k + 2
      · rw [if_pos x2, x2]
      · rw [if_neg x2]
        by_cases x1 : j = 3 * k + 1
        · rw [if_pos x1, x1]
        · rw [if_neg x1]
          by_cases x0 : j = 3 * k
          · rw [if_pos x0, x0]
          · rw [if_neg x0]; exact he j (by omega))
    refine ⟨M', ?_, r2, hfr.trans r3, r4⟩
    unfold m_L_changes_l388
    simp (disch := omega) only [ji1, ji2, ji3, ji4, ji5, ji6, ji7, ji8, ji9, ji10, ji11, ji12, ji13, ji14, ji15, ji16, ji19, ji20, ji24, ji31, ji32, ji39, ji45, ji48, ji57, ji58, ji59, ji60, ji97, ji100, ji119, ji120, ji122, ji144, ji200, ji226, ji240, ji255, ji300, ji366, ji400, ji500, ji1000, jI_z, ↓jI_m1, jI_add, jI_sub, jI_mul, ↓jm1000, ↓jm100, ↓jm10, ↓jm9, ji50, ji65280, ji1664525, ji252645135, ji858993459, ji1013904223, ji1431655765, ji2147483639, ji2147483647, jI_lt, g, if_true, ↓Pg0 h', ↓Pg1 h', ↓Pg2 h', ↓Pg3 h', ↓Pv h', Pa1 h', Pu1 h', Pa2 h', Pu2 h', Pa3 h', Pu3 h', Pa4 h', Pu4 h', Int.toNat_natCast, e1, e2, e3, ↓Pv h]
    rw [X7_put h (by omega) (by omega) (by omega)]
    simp only [↓mo_cs_s, ji1, ji2, ji3, ji4, ji5, ji6, ji7, ji8, ji9, ji10, ji11, ji12, ji13, ji14, ji15, ji16, ji19, ji20, ji24, ji31, ji32, ji39, ji45, ji48, ji57, ji58, ji59, ji60, ji97, ji100, ji119, ji120, ji122, ji144, ji200, ji226, ji240, ji255, ji300, ji366, ji400, ji500, ji1000, jI_z, ↓jI_m1, jI_add, jI_sub, jI_mul, ↓jm1000, ↓jm100, ↓jm10, ↓jm9, ji50, ji65280, ji1664525, ji252645135, ji858993459, ji1013904223, ji1431655765, ji2147483639, ji2147483647, ek]
    exact r1
def LY (S : hSh) (M : hM) (p r e g n : Nat) (q : hQ) (E : Nat → Int) : Prop := isP S p ∧ isR S r ∧ lA S e 2 144 ∧ lA S g 0 1 ∧ (133 ≤ g ∧ g < p ∧ p + 5 ≤ e ∧ e < r ∧ r + 9 ≤ n) ∧ (eOK E ∧ PE M p q.1.1.1 E ∧ okC (q.1.1.1, fl E 360 0) ∧ (fl E 360 0).length ≤ 6) ∧ wD M e q.1.2 ∧ CI M q ∧ okQ q
theorem L_c434 {z p r e g pr m : Nat} {q : hQ} (hpr : pr < 4) (hco : coreV q.1.1 pr = some m) (hin : q.2.2.2.1 = []) : ∀ (d f fu n : Nat) (S : hSh) (M : hM) (E : Nat → Int), f + d = (fl E 360 0).length → (fl E 360 0).length = (prt (fun i => m.testBit i) q.1.1.2 0).length → d < fu → LY S M p r e g n q E → brk (q.1.1.1, fl E 360 0) pr = true → shrL pr d f (q.1.1.1, fl E 360 0) = shrC q.1.1 pr m →
    G1 S z p r e g (m_L_changes_l434 z (z + p) (z + r) fu (hp S z M) (z + n) (jI pr) (jI f)) := by
  intro d
  induction d with
  | zero =>
    intro f fu n S M E hf hlen hfu h hb hs
    obtain ⟨fu, rfl⟩ : ∃ g, fu = g + 1 := ⟨fu - 1, by omega⟩
    obtain ⟨g1, g2, g3, g4, g5, ⟨hE, hPE, hc, h6⟩, g7, g8, g9⟩ := h
    have hmany := X7_many (z := z) g1 hPE hE
    have gi : ¬ (f : Int) < ((fl E 360 0).length : Nat) := by omega
    have ipr : 0 ≤ (pr : Int) ∧ (pr : Int) < 4 := by omega
    have c1 := C_shrink (S := S) (z := z) (p := (pr : Int)) g8 g9 ⟨by omega, by omega⟩
    have ok1 := okQ_shrink (p := (pr : Int)) g9
    have eR : rShrink q pr = (0, (((fl E 360 0).length : Nat) : Int), ((((q.1.1.1, fl E 360 0) : hCf), q.1.2), keepsV q.2.1 q.1, q.2.2)) := by
      unfold rShrink
      rw [if_pos ipr, Int.toNat_natCast, hco]
      simp only
      rw [hlen, ← hs]; rfl
    rw [eR] at c1 ok1
    obtain ⟨M1, n1, i1, k1⟩ := nvC c1 rfl
    have hPE1 : PE M1 p q.1.1.1 E := hPE.cg2 (fun b x0 x1 k => (k1 b (by omega)).2 k)
    have hmany1 := X7_many (z := z) g1 hPE1 hE
    unfold m_L_changes_l434
    simp only [↓Pv g1]
    rw [hmany]
    simp (disch := omega) only [↓mo_cs_s, jI_lt, gi, if_false]
    rw [n1]
    simp only [↓Pv g1]
    rw [hmany1]
    simp only [↓mo_cs_s, if_true, ji1, ji2, ji3, ji4, ji5, ji6, ji7, ji8, ji9, ji10, ji11, ji12, ji13, ji14, ji15, ji16, ji19, ji20, ji24, ji31, ji32, ji39, ji45, ji48, ji57, ji58, ji59, ji60, ji97, ji100, ji119, ji120, ji122, ji144, ji200, ji226, ji240, ji255, ji300, ji366, ji400, ji500, ji1000, jI_z, ↓jI_m1, jI_add, jI_sub, jI_mul, ↓jm1000, ↓jm100, ↓jm10, ↓jm9, ji50, ji65280, ji1664525, ji252645135, ji858993459, ji1013904223, ji1431655765, ji2147483639, ji2147483647]
    exact ⟨S, M1, n, ((((q.1.1.1, fl E 360 0) : hCf), q.1.2), keepsV q.2.1 q.1, q.2.2), mo_z_1, g1, g2, g3, g4, g5, ⟨E, hE, hPE1, rfl⟩, g7.cg (k1 e (by omega)).2, i1, ok1, h6, hin⟩
  | succ d ih =>
    intro f fu n S M E hf hlen hfu h hb hs
    obtain ⟨fu, rfl⟩ : ∃ g, fu = g + 1 := ⟨fu - 1, by omega⟩
    have h' := h
    obtain ⟨g1, g2, g3, g4, g5, ⟨hE, hPE, hc, h6⟩, g7, g8, g9⟩ := h'
    have hmany := X7_many (z := z) g1 hPE hE
    have gi : (f : Int) < ((fl E 360 0).length : Nat) := by omega
    have ei : (f : Int) + 1 = ((f + 1 : Nat) : Int) := by omega
    obtain ⟨j, j1, j2, j3, j4, j5⟩ := ftV_j (E := E) (f := f) (by omega)
    have hft := X7_fault (z := z) (f := f) g1 hPE hE (by omega)
    have hEj := hE j j1
    have lV : leastV (q.1.1.1, fl E 360 0) pr f = if j % 3 = 2 then lsA (fun v => brk (cA (q.1.1.1, fl E 360 0) f v) pr) (E j).toNat 1 else -1 := by
      unfold leastV
      simp only
      rw [j5]
      simp only
      unfold mkF
      simp only
      by_cases g : j % 3 = 2
      · rw [if_pos (by omega), if_pos g, if_pos g]
      · rw [if_neg (by omega), if_neg g]
    simp only [shrL] at hs
    by_cases gk : j % 3 = 2
    · rw [if_pos gk] at lV
      have hid : cA (q.1.1.1, fl E 360 0) f (E j) = (q.1.1.1, fl E 360 0) := by
        unfold cA
        have := amt1 j5
        unfold mkF at this
        simp only [if_pos gk] at this
        rw [this]
      have hne : leastV (q.1.1.1, fl E 360 0) pr f ≠ -1 := by
        rw [lV]
        exact lsA_ne (b := E j) (by rw [hid]; exact hb) _ _ (by omega) (by omega) (by omega)
      have hin := lsA_in (P := fun v => brk (cA (q.1.1.1, fl E 360 0) f v) pr) (E j).toNat 1
      have hPv := lsA_P (P := fun v => brk (cA (q.1.1.1, fl E 360 0) f v) pr) (E j).toNat 1 (by omega) (by rw [← lV]; exact hne)
      rw [if_neg hne] at hs
      obtain ⟨S2, M2, n2, a1, a2, a3, a4⟩ := L_least (z := z) (M := M) (n := n) (pr := pr) (f := f) (c := (q.1.1.1, fl E 360 0)) g1 g2 (by omega) (by omega) (by omega) (by omega) hc ⟨E, hE, hPE, rfl⟩ hpr (by show f < (fl E 360 0).length; omega)
      rw [← lV] at hin hPv
      generalize hv : leastV (q.1.1.1, fl E 360 0) pr f = v at a1 hne hin hPv hs lV
      have hvr : 1 ≤ v ∧ v ≤ 20 := by omega
      have hjk : j = 3 * (j / 3) + 2 := by omega
      have hPE2 : PE M2 p q.1.1.1 E := hPE.fl a4 (by omega) (by omega)
      have hPE3 := hPE2.l (k := j / 3) (v := v) (by omega)
      rw [← hjk] at hPE3
      have f3 : Fr p (p + 5) M2 (sA M2 (p + 2) (j / 3) v) := Fr.sA (by omega)
      have hmod : fl (pt E j v) 360 0 = (fl E 360 0).modify f (amtF v) := by rw [fl_mod j1 j2 (by omega) gk, j3]
      have ecA : cA (q.1.1.1, fl E 360 0) f v = (q.1.1.1, fl (pt E j v) 360 0) := by rw [hmod]; rfl
      have hlm : (fl (pt E j v) 360 0).length = (fl E 360 0).length := by rw [hmod, List.length_modify]
      have hCI2 := g8.kl g9 (a4.kl (by omega) (by omega))
      have hCI3 : CI (sA M2 (p + 2) (j / 3) v) q := hCI2.kl g9 ⟨fun a ha => f3 a (by omega), fun _ => rfl⟩
      have hq2 := g1.sk a3 (by omega)
      have okn : okC (q.1.1.1, fl (pt E j v) 360 0) := by rw [← ecA]; exact hc.amt (by omega)
      have hY : LY S2 (sA M2 (p + 2) (j / 3) v) p r e g n2 q (pt E j v) := ⟨hq2, g2.sk a3 (by omega), g3.sk a3 (by omega), g4.sk a3 (by omega), by omega, ⟨eOK_pt hE (by omega) hvr.2 (fun x => by omega), hPE3, okn, by omega⟩, g7.cg (fun k => by rw [(f3 e (by omega)).2, (a4.1 e (by omega) (by omega)).2]), hCI3, g9⟩
      have R := ih (f + 1) fu n2 S2 _ (pt E j v) (by omega) (by omega) (by omega) hY (by rw [← ecA]; exact hPv) (by rw [← ecA]; exact hs)
      obtain ⟨S', M', n', q', r1, r2⟩ := R
      refine ⟨S', M', n', q', ?_, r2⟩
      unfold m_L_changes_l434
      simp only [↓Pv g1]
      rw [hmany]
      simp (disch := omega) only [↓mo_cs_s, jI_lt, gi, if_true, ↓Pv g1]
      rw [hft, j4]
      simp (disch := omega) only [↓mo_cs_s, ji1, ji2, ji3, ji4, ji5, ji6, ji7, ji8, ji9, ji10, ji11, ji12, ji13, ji14, ji15, ji16, ji19, ji20, ji24, ji31, ji32, ji39, ji45, ji48, ji57, ji58, ji59, ji60, ji97, ji100, ji119, ji120, ji122, ji144, ji200, ji226, ji240, ji255, ji300, ji366, ji400, ji500, ji1000, jI_z, ↓jI_m1, jI_add, jI_sub, jI_mul, ↓jm1000, ↓jm100, ↓jm10, ↓jm9, ji50, ji65280, ji1664525, ji252645135, ji858993459, ji1013904223, ji1431655765, ji2147483639, ji2147483647, mo_rm_j, mo_dv_j, show (1000 * ((j / 3 : Nat) : Int) + ((j % 3 : Nat) : Int)) % 1000 = 2 from by omega, show (1000 * ((j / 3 : Nat) : Int) + ((j % 3 : Nat) : Int)) / 1000 = ((j / 3 : Nat) : Int) from by omega, if_true, ↓Pg1 g1]
      rw [a1]
      simp (disch := omega) only [↓mo_cs_s, Pu2 hq2, Int.toNat_natCast, ei]
      exact r1
    · rw [if_neg gk] at lV
      rw [if_pos lV] at hs
      obtain ⟨S', M', n', q', r1, r2⟩ := ih (f + 1) fu n S M E (by omega) hlen (by omega) h hb hs
      refine ⟨S', M', n', q', ?_, r2⟩
      unfold m_L_changes_l434
      simp only [↓Pv g1]
      rw [hmany]
      simp (disch := omega) only [↓mo_cs_s, jI_lt, gi, if_true, ↓Pv g1]
      rw [hft, j4]
      simp (disch := omega) only [↓mo_cs_s, ji1, ji2, ji3, ji4, ji5, ji6, ji7, ji8, ji9, ji10, ji11, ji12, ji13, ji14, ji15, ji16, ji19, ji20, ji24, ji31, ji32, ji39, ji45, ji48, ji57, ji58, ji59, ji60, ji97, ji100, ji119, ji120, ji122, ji144, ji200, ji226, ji240, ji255, ji300, ji366, ji400, ji500, ji1000, jI_z, ↓jI_m1, jI_add, jI_sub, jI_mul, ↓jm1000, ↓jm100, ↓jm10, ↓jm9, ji50, ji65280, ji1664525, ji252645135, ji858993459, ji1013904223, ji1431655765, ji2147483639, ji2147483647, mo_rm_j]
      rw [if_neg (by rw [jI_eq (by omega) (by omega) (by omega) (by omega)]; omega), ei]
      exact r1

variable {S : hSh}
/-! THE LAW CHANGES the bench. -/
def G1 (S : hSh) (z p r e g : Nat) (o : Option ((Int32 × Nat) × ac_H)) : Prop := ∃ S' M' n' q', o = some ((jI 1, z + n'), hp S' z M') ∧ LX S' M' p r e g n' q'
theorem LX.new {S : hSh} {M M' : hM} {p r e g n : Nat} {q q' : hQ} (h : LX S M p r e g n q) (hP : PL M' p q'.1.1) (hD : wD M' e q'.1.2) (hCI : CI M' q') (ho : okQ q') (hl : q'.1.1.2.length ≤ 6) (hi : q'.2.2.2.1 = q.2.2.2.1 := by rfl) : LX S M' p r e g n q' :=
  ⟨h.1, h.2.1, h.2.2.1, h.2.2.2.1, h.2.2.2.2.1, hP, hD, hCI, ho, hl, hi.trans h.2.2.2.2.2.2.2.2.2.2⟩
theorem wD.cg {M M' : hM} {e : Nat} {W : Nat → Nat} (h : wD M e W) (i : ∀ k, gA M' e k = gA M e k) : wD M' e W := fun s t a b => by rw [i]; exact h s t a b
theorem G1.end1 {z p r e g n : Nat} {M : hM} {q : hQ} (h : LX S M p r e g n q) : G1 S z p r e g (mo_z (jI 1) (some ((jI 1, z + n), hp S z M))) := ⟨S, M, n, q, mo_z_1, h⟩
/-- 0: a fault removed, or none -/
theorem L_c0 {z p r e g n : Nat} {M : hM} {q : hQ} (h : LX S M p r e g n q) : G1 S z p r e g (mo_cv (hp S z M) (z + p) 7 (m_X7_many (hp S z M) (z + p)) fun x4 σ3 =>
    if x4 = jI 0 then (mo_cv σ3 z 6 (m_X6_clearFaults σ3 z) fun x17 σ16 => if x17 = jI 0 then mo_z (jI 1) (some ((jI 1, z + n), σ16)) else mo_z (jI 0) (some ((jI 0, z + n), σ16)))
    else (mo_cv σ3 (z + p) 7 (m_X7_many σ3 (z + p)) fun x6 σ5 => mo_cs (m_L_draw σ5 (z + g) x6) fun x8 σ7 => mo_cv σ7 (z + p) 7 (m_X7_fault σ7 (z + p) x8) fun x10 σ9 => mo_cv σ9 (z + p) 7 (m_X7_take σ9 (z + p) x10) fun _ σ11 => mo_nv σ11 z 6 (m_X6_removeFault σ11 z x8) fun x13 σ12 => mo_cv σ12 (z + p) 7 (m_X7_many σ12 (z + p)) fun x15 σ14 => if x13 = x15 then mo_z (jI 1) (some ((jI 1, z + n), σ14)) else mo_z (jI 0) (some ((jI 0, z + n), σ14)))) := by
  have h' := h
  obtain ⟨g1, g2, g3, g4, g5, g6, g7, g8, g9, g10⟩ := h'
  obtain ⟨E, hE, hPE, hcE⟩ := g6
  have hmany := X7_many (z := z) g1 hPE hE
  rw [← hcE] at hmany
  simp only [↓Pv g1]
  rw [hmany]
  simp only [↓mo_cs_s]
  by_cases g0 : q.1.1.2.length = 0
  · have hnil : q.1.1.2 = [] := List.length_eq_zero_iff.mp g0
    rw [g0, if_pos (show jI ((0 : Nat) : Int) = jI 0 from rfl)]
    obtain ⟨M1, n1, i1, k1⟩ := cvD (C_clear (S := S) (z := z) g8 g9)
    rw [n1, show (rClear q).2.1 = ((q.1.1.2.length : Nat) : Int) from rfl, g0, if_pos (show jI ((0 : Nat) : Int) = jI 0 from rfl)]
    refine G1.end1 (h.new (q' := (rClear q).2.2) ?_ (g7.cg (k1 e (by omega)).2) i1 (okQ_clear g9) (by show (0 : Nat) ≤ 6; omega))
    have : (rClear q).2.2.1.1 = q.1.1 := by show (q.1.1.1, []) = q.1.1; rw [← hnil]
    rw [this]
    exact h.2.2.2.2.2.1.km k1 (by omega)
  · rw [if_neg (by rw [show jI 0 = jI ((0 : Nat) : Int) from rfl, jI_eq (by omega) (by omega) (by omega) (by omega)]; omega)]
    simp only [↓Pv g1]
    rw [hmany]
    simp only [↓mo_cs_s]
    obtain ⟨fi, u, d1, d2, d3, h1⟩ := h.draw (z := z) (m := (q.1.1.2.length : Nat)) (by omega) (by omega)
    obtain ⟨f, rfl⟩ : ∃ k : Nat, fi = k := ⟨fi.toNat, by omega⟩
    rw [d1]
    simp only [↓mo_cs_s, ↓Pv g1]
    generalize hMa : sA M g 0 u = Ma at d1 h1
    have fMa : Fr g (g + 1) M Ma := by rw [← hMa]; exact Fr.sA (by omega)
    have hPE1 : PE Ma p q.1.1.1 E := hPE.keep fMa (by omega)
    obtain ⟨j, j1, j2, j3, j4, j5⟩ := ftV_j (E := E) (f := f) (by rw [← hcE]; omega)
    rw [X7_fault (z := z) (f := f) g1 hPE1 hE (by omega), j4]
    simp only [↓mo_cs_s, ↓Pv g1]
    obtain ⟨M3, t1, t2, t3, t4⟩ := X7_take (z := z) g1 hPE1 hE j1
    rw [t1]
    simp only [↓mo_cs_s]
    have hCI3 : CI M3 q := h1.2.2.2.2.2.2.2.1.kl g9 ⟨fun a ha => t3 a (by omega), t4⟩
    have c1 := C_rem (S := S) (z := z) (f := (f : Int)) hCI3 g9 ⟨by omega, by omega⟩
    have ok1 := okQ_rem (f := (f : Int)) g9
    rw [show rRem q f = (0, (((q.1.1.2.eraseIdx f).length : Nat) : Int), ((q.1.1.1, q.1.1.2.eraseIdx f), q.1.2), keepsV q.2.1 q.1, q.2.2) from by unfold rRem; rw [if_pos (by omega), Int.toNat_natCast]] at c1 ok1
    obtain ⟨M4, n1, i1, k1⟩ := nvC c1 rfl
    rw [n1]
    have hE4 : eOK (pt E j 0) := eOK_pt hE (by omega) (by omega) (fun _ => by omega)
    have hPE4 : PE M4 p q.1.1.1 (pt E j 0) := t2.cg2 (fun b x0 x1 k => (k1 b (by omega)).2 k)
    have hfl : q.1.1.2.eraseIdx f = fl (pt E j 0) 360 0 := by rw [hcE, fl_era j1 j2, j3]
    have hmany4 := X7_many (z := z) g1 hPE4 hE4
    rw [← hfl] at hmany4
    simp only [↓Pv g1]
    rw [hmany4]
    simp only [↓mo_cs_s, if_true]
    exact G1.end1 (h.new (q' := (((q.1.1.1, q.1.1.2.eraseIdx f), q.1.2), keepsV q.2.1 q.1, q.2.2)) ⟨_, hE4, hPE4, hfl⟩ (h1.2.2.2.2.2.2.1.cg (fun k => by rw [(k1 e (by omega)).2, (t3 e (by omega)).2])) i1 ok1 (by show (q.1.1.2.eraseIdx f).length ≤ 6; rw [List.length_eraseIdx]; split <;> omega))
/-- 2: states recorded -/
theorem or_bt {W V : Nat → Nat} {k : Nat} : bt (orW W V) k = if bt W k = 1 ∨ bt V k = 1 then 1 else 0 := by
  unfold bt orW
  rw [Nat.testBit_or]
  cases (W (k / 16)).testBit (k % 16) <;> cases (V (k / 16)).testBit (k % 16) <;> rfl
theorem L_c269 {z p r e g n : Nat} {q : hQ} {W : Nat → Nat} (g3 : lA S e 2 144) (hr : isR S r) (he : e < r) (hpe : p + 5 ≤ e) (h133 : 133 ≤ e) : ∀ (d k f : Nat) (M : hM), k + d = 144 → d < f → CI M q → okQ q → WR M r p q.1.1 (zR q.1.1).1 (zR q.1.1).2 → W = q.1.2 →
    (∀ j, j < 144 → gA M e j = ((if j < k then bt (orW W (zR q.1.1).2.2.2.1) j else bt W j : Nat) : Int)) →
    ∃ M', m_L_changes_l269 z (z + e) f (hp S z M) (z + n) (z + r) (jI ((cs (orW W (zR q.1.1).2.2.2.1) k : Int) - (cs W k : Nat))) (jI k) = some ((jI 1, z + n), hp S z M') ∧ CI M' (rRecord q).2.2 ∧ (∀ j, j < 144 → gA M' e j = (bt (orW W (zR q.1.1).2.2.2.1) j : Nat)) ∧ ∀ b, 133 ≤ b → b ≠ e → (∀ k, gI M' b k = gI M b k) ∧ ∀ k, gA M' b k = gA M b k := by
  intro d
  induction d with
  | zero =>
    intro k f M hk hf hCI ho hWR hW hv
    obtain ⟨f, rfl⟩ : ∃ g, f = g + 1 := ⟨f - 1, by omega⟩
    have gi : ¬ (k : Int) < 144 := by omega
    have hk : k = 144 := by omega
    subst hk
    obtain ⟨M1, n1, i1, k1⟩ := cvD (C_record (S := S) (z := z) hCI ho)
    refine ⟨M1, ?_, i1, fun j hj => by rw [(k1 e h133).2, hv j hj, if_pos hj], fun b h1 _ => k1 b h1⟩
    have er : (rRecord q).2.1 = ((cs (orW W (zR q.1.1).2.2.2.1) 144 : Nat) : Int) - (cs W 144 : Nat) := by
      rw [show 144 = 16 * 9 from rfl, cs_sum, cs_sum, hW]; rfl
    unfold m_L_changes_l269
    simp (disch := omega) only [ji1, ji2, ji3, ji4, ji5, ji6, ji7, ji8, ji9, ji10, ji11, ji12, ji13, ji14, ji15, ji16, ji19, ji20, ji24, ji31, ji32, ji39, ji45, ji48, ji57, ji58, ji59, ji60, ji97, ji100, ji119, ji120, ji122, ji144, ji200, ji226, ji240, ji255, ji300, ji366, ji400, ji500, ji1000, jI_z, ↓jI_m1, jI_add, jI_sub, jI_mul, ↓jm1000, ↓jm100, ↓jm10, ↓jm9, ji50, ji65280, ji1664525, ji252645135, ji858993459, ji1013904223, ji1431655765, ji2147483639, ji2147483647, jI_lt, gi, if_false]
    rw [n1, er, if_pos rfl]
    exact mo_z_1
  | succ d ih =>
    intro k f M hk hf hCI ho hWR hW hv
    obtain ⟨f, rfl⟩ : ∃ g, f = g + 1 := ⟨f - 1, by omega⟩
    have gi : (k : Int) < 144 := by omega
    have ek : (k : Int) + 1 = ((k + 1 : Nat) : Int) := by omega
    have hw := wD_k (M := M) (e := r + 8) (W := (zR q.1.1).2.2.2.1) (WR_get hWR).2.2.2.2.2.1 (k := k) (by omega)
    have hvk := hv k (by omega)
    rw [if_neg (by omega)] at hvk
    have ob := or_bt (W := W) (V := (zR q.1.1).2.2.2.1) (k := k)
    have b1 : bt W k = 0 ∨ bt W k = 1 := by unfold bt; split <;> simp
    have b2 : bt (zR q.1.1).2.2.2.1 k = 0 ∨ bt (zR q.1.1).2.2.2.1 k = 1 := by unfold bt; split <;> simp
    have ra : ∀ {α : Type} {F : Int32 → Option α}, mo_ai (hp S z M) (z + e) 2 (jI k) F = F (jI (gA M e k)) := fun {α F} => by
      have := hl_ai (z := z) (M := M) (i := (k : Int)) (F := F) g3 (by omega) (by omega) (by omega)
      rwa [Int.toNat_natCast] at this
    have wa : ∀ {α : Type} {v : Int} {F : ac_H → Option α}, mo_ui (hp S z M) (z + e) 2 (jI k) (jI v) F = F (hp S z (sA M e k v)) := fun {α v F} => by
      have := hl_ui (z := z) (M := M) (i := (k : Int)) (v := v) (F := F) g3 (by omega) (by omega) (by omega)
      rwa [Int.toNat_natCast] at this
    have fM : Fr e (e + 1) M (sA M e k (bt (orW W (zR q.1.1).2.2.2.1) k : Nat)) := Fr.sA (by omega)
    obtain ⟨M', r1, r2, r3, r4⟩ := ih (k + 1) f (sA M e k (bt (orW W (zR q.1.1).2.2.2.1) k : Nat)) (by omega) (by omega) (hCI.kl ho ⟨fun a ha => fM a (by omega), fun _ => rfl⟩) ho (hWR.cg (fun b x1 _ => fM b (by omega)) ((WR_get hWR).2.1.keep fM (by omega))) hW (fun j hj => by
      by_cases ej : j = k
      · subst ej; rw [gA_eq, if_pos (by omega)]
      · rw [gA_ne (by omega), hv j hj]
        by_cases g : j < k
        · rw [if_pos g, if_pos (by omega)]
        · rw [if_neg g, if_neg (by omega)])
    refine ⟨M', ?_, r2, r3, fun b x1 x2 => ⟨fun j => by rw [(r4 b x1 x2).1, (fM b (by omega)).1], fun j => by rw [(r4 b x1 x2).2, (fM b (by omega)).2]⟩⟩
    have ecs1 : cs (orW W (zR q.1.1).2.2.2.1) (k + 1) = cs (orW W (zR q.1.1).2.2.2.1) k + bt (orW W (zR q.1.1).2.2.2.1) k := rfl
    have ecs2 : cs W (k + 1) = cs W k + bt W k := rfl
    unfold m_L_changes_l269
    simp (disch := omega) only [ji1, ji2, ji3, ji4, ji5, ji6, ji7, ji8, ji9, ji10, ji11, ji12, ji13, ji14, ji15, ji16, ji19, ji20, ji24, ji31, ji32, ji39, ji45, ji48, ji57, ji58, ji59, ji60, ji97, ji100, ji119, ji120, ji122, ji144, ji200, ji226, ji240, ji255, ji300, ji366, ji400, ji500, ji1000, jI_z, ↓jI_m1, jI_add, jI_sub, jI_mul, ↓jm1000, ↓jm100, ↓jm10, ↓jm9, ji50, ji65280, ji1664525, ji252645135, ji858993459, ji1013904223, ji1431655765, ji2147483639, ji2147483647, jI_lt, gi, if_true, ↓Rg0 hr, Rw0 hr, ↓Rg1 hr, ↓Rg2 hr, ↓Rg3 hr, ↓Rg4 hr, ↓Rg5 hr, ↓Rg6 hr, ↓Rg7 hr, ↓Rg8 hr, ↓Rg9 hr, Rw9 hr, ↓Rg10 hr, Rw10 hr, ↓Rg11 hr, Rw11 hr, ↓Rg12 hr, Rw12 hr, ↓Rg13 hr, Rw13 hr, ↓Rg14 hr, Rw14 hr, ↓Rg15 hr, Rw15 hr, ↓Rg16 hr, Rw16 hr, ↓Rg17 hr, Rw17 hr, ↓Rv hr, Ra1 hr, Ru1 hr, Ra2 hr, Ru2 hr, Ra3 hr, Ru3 hr, Ra4 hr, Ru4 hr, Ra5 hr, Ru5 hr, Ra6 hr, Ru6 hr, Ra7 hr, Ru7 hr, Ra8 hr, Ru8 hr, Int.toNat_natCast, hw]
    rw [ecs1, ecs2] at r1
    have fin : ∀ (x : Int) (v : Nat), bt (orW W (zR q.1.1).2.2.2.1) k = v → x = ((cs (orW W (zR q.1.1).2.2.2.1) k + v : Nat) : Int) - ((cs W k + bt W k : Nat) : Int) → m_L_changes_l269 z (z + e) f (hp S z (sA M e k (v : Int))) (z + n) (z + r) (jI x) (jI ((k : Int) + 1)) = some ((jI 1, z + n), hp S z M') := by
      intro x v hv' hx
      subst hv'
      rw [hx, ek]; exact r1
    have z0 : jI ((0 : Nat) : Int) = jI 0 := rfl
    have z1 : jI ((1 : Nat) : Int) = jI 1 := rfl
    have n10 : ¬ jI 1 = jI 0 := by decide
    rcases b2 with c2 | c2
    · rw [c2, z0, if_pos rfl]
      unfold m_L_changes_j302
      simp only [ji1, ji2, ji3, ji4, ji5, ji6, ji7, ji8, ji9, ji10, ji11, ji12, ji13, ji14, ji15, ji16, ji19, ji20, ji24, ji31, ji32, ji39, ji45, ji48, ji57, ji58, ji59, ji60, ji97, ji100, ji119, ji120, ji122, ji144, ji200, ji226, ji240, ji255, ji300, ji366, ji400, ji500, ji1000, jI_z, ↓jI_m1, jI_add, jI_sub, jI_mul, ↓jm1000, ↓jm100, ↓jm10, ↓jm9, ji50, ji65280, ji1664525, ji252645135, ji858993459, ji1013904223, ji1431655765, ji2147483639, ji2147483647]
      rw [ra, hvk]
      rcases b1 with c1 | c1
      · rw [c1, z0, if_pos rfl]
        simp (disch := omega) only [↓Rg0 hr, Rw0 hr, ↓Rg1 hr, ↓Rg2 hr, ↓Rg3 hr, ↓Rg4 hr, ↓Rg5 hr, ↓Rg6 hr, ↓Rg7 hr, ↓Rg8 hr, ↓Rg9 hr, Rw9 hr, ↓Rg10 hr, Rw10 hr, ↓Rg11 hr, Rw11 hr, ↓Rg12 hr, Rw12 hr, ↓Rg13 hr, Rw13 hr, ↓Rg14 hr, Rw14 hr, ↓Rg15 hr, Rw15 hr, ↓Rg16 hr, Rw16 hr, ↓Rg17 hr, Rw17 hr, ↓Rv hr, Ra1 hr, Ru1 hr, Ra2 hr, Ru2 hr, Ra3 hr, Ru3 hr, Ra4 hr, Ru4 hr, Ra5 hr, Ru5 hr, Ra6 hr, Ru6 hr, Ra7 hr, Ru7 hr, Ra8 hr, Ru8 hr, Int.toNat_natCast, hw]
        rw [c2, z0, if_pos rfl, nar_z0, wa]
        exact fin _ 0 (by rw [ob, c1, c2]; rfl) (by rw [c1]; omega)
      · rw [c1, z1, if_neg n10, nar_z1, wa]
        exact fin _ 1 (by rw [ob, c1, c2]; rfl) (by rw [c1]; omega)
    · rw [c2, z1, if_neg n10, ra, hvk]
      rcases b1 with c1 | c1
      · rw [c1, z0, if_pos rfl]
        unfold m_L_changes_j302
        simp only [ji1, ji2, ji3, ji4, ji5, ji6, ji7, ji8, ji9, ji10, ji11, ji12, ji13, ji14, ji15, ji16, ji19, ji20, ji24, ji31, ji32, ji39, ji45, ji48, ji57, ji58, ji59, ji60, ji97, ji100, ji119, ji120, ji122, ji144, ji200, ji226, ji240, ji255, ji300, ji366, ji400, ji500, ji1000, jI_z, ↓jI_m1, jI_add, jI_sub, jI_mul, ↓jm1000, ↓jm100, ↓jm10, ↓jm9, ji50, ji65280, ji1664525, ji252645135, ji858993459, ji1013904223, ji1431655765, ji2147483639, ji2147483647]
        rw [ra, hvk, c1, z0, if_pos rfl]
        simp (disch := omega) only [↓Rg0 hr, Rw0 hr, ↓Rg1 hr, ↓Rg2 hr, ↓Rg3 hr, ↓Rg4 hr, ↓Rg5 hr, ↓Rg6 hr, ↓Rg7 hr, ↓Rg8 hr, ↓Rg9 hr, Rw9 hr, ↓Rg10 hr, Rw10 hr, ↓Rg11 hr, Rw11 hr, ↓Rg12 hr, Rw12 hr, ↓Rg13 hr, Rw13 hr, ↓Rg14 hr, Rw14 hr, ↓Rg15 hr, Rw15 hr, ↓Rg16 hr, Rw16 hr, ↓Rg17 hr, Rw17 hr, ↓Rv hr, Ra1 hr, Ru1 hr, Ra2 hr, Ru2 hr, Ra3 hr, Ru3 hr, Ra4 hr, Ru4 hr, Ra5 hr, Ru5 hr, Ra6 hr, Ru6 hr, Ra7 hr, Ru7 hr, Ra8 hr, Ru8 hr, Int.toNat_natCast, hw]
        rw [c2, z1, if_neg n10, nar_z1, wa]
        exact fin _ 1 (by rw [ob, c1, c2]; rfl) (by rw [c1]; omega)
      · rw [c1, z1, if_neg n10]
        unfold m_L_changes_j302
        simp only [ji1, ji2, ji3, ji4, ji5, ji6, ji7, ji8, ji9, ji10, ji11, ji12, ji13, ji14, ji15, ji16, ji19, ji20, ji24, ji31, ji32, ji39, ji45, ji48, ji57, ji58, ji59, ji60, ji97, ji100, ji119, ji120, ji122, ji144, ji200, ji226, ji240, ji255, ji300, ji366, ji400, ji500, ji1000, jI_z, ↓jI_m1, jI_add, jI_sub, jI_mul, ↓jm1000, ↓jm100, ↓jm10, ↓jm9, ji50, ji65280, ji1664525, ji252645135, ji858993459, ji1013904223, ji1431655765, ji2147483639, ji2147483647]
        rw [ra, hvk, c1, z1, if_neg n10, nar_z1, wa]
        exact fin _ 1 (by rw [ob, c1, c2]; rfl) (by rw [c1]; omega)

variable {S : hSh}
def lowF (j : Nat) : Int := [0, 1, 10, 1, 1, 1, 2, 1].getD j 0
def highF (j : Nat) : Int := [2, 8, 60, 5, 20, 4, 8, 200].getD j 0
theorem lowF_v : ∀ j : Fin 8, lowF j.val = loV (j.val : Int) ∧ highF j.val ≤ hiV (j.val : Int) ∧ 0 ≤ lowF j.val ∧ lowF j.val ≤ highF j.val ∧ highF j.val ≤ 200 := by decide
def wr8 (M : hM) (a : Nat) (F : Nat → Int) : hM := sA (sA (sA (sA (sA (sA (sA (sA (zM M a) a 0 (F 0)) a 1 (F 1)) a 2 (F 2)) a 3 (F 3)) a 4 (F 4)) a 5 (F 5)) a 6 (F 6)) a 7 (F 7)
theorem wr8_n {M : hM} {a b k : Nat} {F : Nat → Int} (h : b ≠ a) : gA (wr8 M a F) b k = gA M b k := by
  unfold wr8
  rw [gA_ne (by omega), gA_ne (by omega), gA_ne (by omega), gA_ne (by omega), gA_ne (by omega), gA_ne (by omega), gA_ne (by omega), gA_ne (by omega), gA_zM, if_neg h]
theorem wr8_i {M : hM} {a b k : Nat} {F : Nat → Int} (h : b ≠ a) : gI (wr8 M a F) b k = gI M b k := by
  unfold wr8; simp only [gI_sA]; rw [gI_zM, if_neg h]
theorem wr8_a {M : hM} {a j : Nat} {F : Nat → Int} (hj : j < 8) : gA (wr8 M a F) a j = F j := by
  unfold wr8
  rcases (show j = 0 ∨ j = 1 ∨ j = 2 ∨ j = 3 ∨ j = 4 ∨ j = 5 ∨ j = 6 ∨ j = 7 by omega) with rfl | rfl | rfl | rfl | rfl | rfl | rfl | rfl
  · rw [gA_ne (by omega), gA_ne (by omega), gA_ne (by omega), gA_ne (by omega), gA_ne (by omega), gA_ne (by omega), gA_ne (by omega), gA_eq]
  · rw [gA_ne (by omega), gA_ne (by omega), gA_ne (by omega), gA_ne (by omega), gA_ne (by omega), gA_ne (by omega), gA_eq]
  · rw [gA_ne (by omega), gA_ne (by omega), gA_ne (by omega), gA_ne (by omega), gA_ne (by omega), gA_eq]
  · rw [gA_ne (by omega), gA_ne (by omega), gA_ne (by omega), gA_ne (by omega), gA_eq]
  · rw [gA_ne (by omega), gA_ne (by omega), gA_ne (by omega), gA_eq]
  · rw [gA_ne (by omega), gA_ne (by omega), gA_eq]
  · rw [gA_ne (by omega), gA_eq]
  · rw [gA_eq]
/-- an array of eight numbers -/
theorem st_8 {z n : Nat} {M : hM} (hn : 133 ≤ n) : ∃ S1 : hSh, SK n S S1 ∧ lA S1 n 0 8 ∧ ∀ {α : Type} (v0 v1 v2 v3 v4 v5 v6 v7 : Int) (F : ac_H → Option α), (mo_ui (ac_up (hp S z M) (z + n) (.inl (0, kx_ar 0 8))) (z + n) 0 (jI 0) (jI v0) fun σ21 => mo_ui σ21 (z + n) 0 (jI 1) (jI v1) fun σ22 => mo_ui σ22 (z + n) 0 (jI 2) (jI v2) fun σ23 => mo_ui σ23 (z + n) 0 (jI 3) (jI v3) fun σ24 => mo_ui σ24 (z + n) 0 (jI 4) (jI v4) fun σ25 => mo_ui σ25 (z + n) 0 (jI 5) (jI v5) fun σ26 => mo_ui σ26 (z + n) 0 (jI 6) (jI v6) fun σ27 => mo_ui σ27 (z + n) 0 (jI 7) (jI v7) F) = F (hp S1 z (wr8 M n (fun j => [v0, v1, v2, v3, v4, v5, v6, v7].getD j 0))) := by
  have hA : lA (sS S n (20 + 0, 8, fun _ => 0)) n 0 8 := by unfold lA; rw [sS_a]; exact ⟨hn, rfl, by decide, rfl⟩
  refine ⟨sS S n (20 + 0, 8, fun _ => 0), fun b hb => sS_n (by omega), hA, ?_⟩
  intro α v0 v1 v2 v3 v4 v5 v6 v7 F
  have ui : ∀ {α : Type} (M : hM) (i v : Int) (F : ac_H → Option α), 0 ≤ i → i < 8 → mo_ui (hp (sS S n (20 + 0, 8, fun _ => 0)) z M) (z + n) 0 (jI i) (jI v) F = F (hp (sS S n (20 + 0, 8, fun _ => 0)) z (sA M n i.toNat v)) := fun {α} M i v F x1 x2 => hl_ui hA (by omega) x1 (by omega)
  rw [hl_na hn (by decide)]
  simp (disch := omega) only [ui]
  rfl
theorem L_c1 {z p r e g n : Nat} {M : hM} {q : hQ} {w : Nat} (hw : w < 8) (h : LX S M p r e g n q) (K : Int32 → ac_H → Option ((Int32 × Nat) × ac_H)) (hK : ∀ S' M' q', LX S' M' p r e g (n + 2) q' → G1 S z p r e g (K (jI (q.1.1.1 w)) (hp S' z M'))) :
    ∃ S2 M2, SK n S S2 ∧ lA S2 n 0 8 ∧ lA S2 (n + 1) 0 8 ∧ LX S2 M2 p r e g (n + 2) q ∧ (∀ j : Nat, j < 8 → gA M2 n j = lowF j ∧ gA M2 (n + 1) j = highF j) ∧ True := by
  have h5 := h.2.2.2.2.1
  obtain ⟨S1, s1, a1, e1⟩ := st_8 (S := S) (z := z) (n := n) (M := M) (by omega)
  obtain ⟨S2, s2, a2, e2⟩ := st_8 (S := S1) (z := z) (n := n + 1) (M := wr8 M n lowF) (by omega)
  refine ⟨S2, wr8 (wr8 M n lowF) (n + 1) highF, s1.trans (s2.mono (by omega)), a1.sk s2 (by omega), a2, ?_, fun j hj => ⟨by rw [wr8_n (by omega), wr8_a hj], wr8_a hj⟩, trivial⟩
  exact h.fl ⟨fun b _ hb => ⟨fun k => by rw [wr8_i (by omega), wr8_i (by omega)], fun k => by rw [wr8_n (by omega), wr8_n (by omega)]⟩, fun _ => rfl⟩ (s1.trans (s2.mono (by omega))) (by omega)
/-- a setting: the plan's, the class's -/
theorem L_c1b {z p r e g n w : Nat} {M : hM} {q : hQ} {v : Int} (h : LX S M p r e g n q) (hw : w < 8) (h0 : loV w ≤ v) (h1 : v ≤ hiV w) (hv : -2147483648 ≤ v ∧ v < 2147483648) :
    ∃ M', (∀ {α : Type} (F : Int32 → ac_H → Option α), mo_nv (hp S z (sA M (p + 1) w v)) z 6 (m_X6_set (hp S z (sA M (p + 1) w v)) z (jI w) (jI v)) F = F (jI (q.1.1.1 w)) (hp S z M')) ∧ ∃ q', LX S M' p r e g n q' := by
  have h' := h
  obtain ⟨g1, g2, g3, g4, g5, g6, g7, g8, g9, g10⟩ := h'
  have f : Fr p (p + 5) M (sA M (p + 1) w v) := Fr.sA (by omega)
  have hCI : CI (sA M (p + 1) w v) q := g8.kl g9 ⟨fun a ha => f a (by omega), fun _ => rfl⟩
  have c1 := C_set (S := S) (z := z) (w := (w : Int)) (v := v) hCI g9 ⟨by omega, by omega⟩ hv
  have ok1 := okQ_set (w := (w : Int)) (v := v) g9
  rw [show rSet q w v = (0, q.1.1.1 w, (cS q.1.1 w v, q.1.2), keepsV q.2.1 q.1, q.2.2) from by unfold rSet; rw [if_pos ⟨by omega, h0, h1⟩, Int.toNat_natCast]] at c1 ok1
  obtain ⟨M', n1, i1, k1⟩ := nvC c1 rfl
  obtain ⟨E, hE, hPE, hcE⟩ := g6
  have hPE1 := (hPE.s (w := w) (v := v) hw).cg2 (M' := M') (fun b x0 x1 k => (k1 b (by omega)).2 k)
  refine ⟨M', n1, _, h.new (q' := ((cS q.1.1 w v, q.1.2), keepsV q.2.1 q.1, q.2.2)) ⟨E, hE, ?_, hcE⟩ (g7.cg (fun k => by rw [(k1 e (by omega)).2, (f e (by omega)).2])) i1 ok1 g10.1⟩
  have eo : (cS q.1.1 w v).1 = fun j => if j = w then v else q.1.1.1 j := by
    funext j
    show (if j = (w : Int).toNat then v else q.1.1.1 j) = _
    rw [Int.toNat_natCast]
  show PE M' p (cS q.1.1 w v).1 E
  rw [eo]; exact hPE1
/-- a fault added -/
theorem L_c676 {z p r e g n j am0 : Nat} {q : hQ} {E : Nat → Int} {am v : Int} (hj : j < 360) (hE : eOK E) (h0 : E j = 0) (hv : 0 < v ∧ v ≤ 20) (hv2 : j % 3 ≠ 2 → v = 1) (ham : am = if j % 3 = 2 then v else 0) (hcE : q.1.1.2 = fl E 360 0) (hl5 : q.1.1.2.length ≤ 5) : ∀ (d i f : Nat) (M : hM), i + d = ix E j → d < f → isP S p → PE M p q.1.1.1 (pt E j v) → CI M q → okQ q →
    ∃ M', m_L_changes_l676 z (z + p) f (hp S z M) (z + n) (jI (j / 3 : Nat)) (jI (j % 3 : Nat)) (jI am) (jI i) = some ((jI 1, z + n), hp S z M') ∧ CI M' (rAdd q (j % 3 : Nat) (j / 3 : Nat) am).2.2 ∧ KM M M' ∧ (rAdd q (j % 3 : Nat) (j / 3 : Nat) am).2.2 = ((((q.1.1.1, fl (pt E j v) 360 0) : hCf), q.1.2), keepsV q.2.1 q.1, q.2.2) := by
  have hEv : eOK (pt E j v) := eOK_pt hE (by omega) hv.2 (fun x => by have := hv2 x; omega)
  have hins := fl_ins (n := 360) (v := v) hj h0 (by omega)
  have hmk : mkF j v = (((j % 3 : Nat) : Int), ((j / 3 : Nat) : Int), am) := by rw [ham]; rfl
  have hplc := fl_plc (E := E) (n := 360) (j := j) (kd := (j % 3 : Nat)) (nm := (j / 3 : Nat)) hj rfl rfl h0
  have hfnd := fl_f0 (E := E) (n := 360) (j := j) (kd := (j % 3 : Nat)) (nm := (j / 3 : Nat)) hj rfl rfl h0
  have hok : okA (j % 3 : Nat) (j / 3 : Nat) am := by
    unfold okA
    by_cases g : j % 3 = 2
    · rw [ham, if_pos g]; exact ⟨by omega, Or.inl ⟨by omega, by omega, by omega⟩⟩
    · rw [ham, if_neg g]; exact ⟨by omega, Or.inr ⟨by omega, rfl⟩⟩
  have eR : rAdd q (j % 3 : Nat) (j / 3 : Nat) am = (0, ((ix E j : Nat) : Int), ((((q.1.1.1, fl (pt E j v) 360 0) : hCf), q.1.2), keepsV q.2.1 q.1, q.2.2)) := by
    unfold rAdd
    rw [if_pos hok, hcE, if_pos ⟨hfnd, by rw [← hcE]; omega⟩, hplc]
    congr 3
    unfold cI
    rw [hcE, hplc, hins, hmk]
  have hixl : ix E j ≤ 5 := by
    have : ix E j ≤ (fl E 360 0).length := by unfold ix; rw [fl_cut (show j < 360 from hj), List.length_append]; omega
    rw [← hcE] at this; omega
  have hixp : ix (pt E j v) j = ix E j := by unfold ix; rw [pt_low]
  have hlen : (fl (pt E j v) 360 0).length ≤ 360 := fl_len 360 0
  intro d
  induction d with
  | zero =>
    intro i f M hi hf hq hP hCI ho
    obtain ⟨f, rfl⟩ : ∃ g, f = g + 1 := ⟨f - 1, by omega⟩
    have hi' : i = ix E j := by omega
    have hft := X7_fault (z := z) (f := i) hq hP hEv (by omega)
    rw [hi', ← hixp, ftV_at hj (by rw [pt_j]; omega), hixp, ← hi'] at hft
    have c1 := C_add (S := S) (z := z) (kd := (j % 3 : Nat)) (nm := (j / 3 : Nat)) (am := am) hCI ho ⟨by omega, by omega⟩ ⟨by omega, by omega⟩ (by rw [ham]; unfold okW; split <;> omega)
    obtain ⟨M1, n1, i1, k1⟩ := nvC c1 (by rw [eR])
    refine ⟨M1, ?_, i1, k1, by rw [eR]⟩
    unfold m_L_changes_l676
    simp only [↓Pv hq]
    rw [hft]
    simp only [↓mo_cs_s, ji1, ji2, ji3, ji4, ji5, ji6, ji7, ji8, ji9, ji10, ji11, ji12, ji13, ji14, ji15, ji16, ji19, ji20, ji24, ji31, ji32, ji39, ji45, ji48, ji57, ji58, ji59, ji60, ji97, ji100, ji119, ji120, ji122, ji144, ji200, ji226, ji240, ji255, ji300, ji366, ji400, ji500, ji1000, jI_z, ↓jI_m1, jI_add, jI_sub, jI_mul, ↓jm1000, ↓jm100, ↓jm10, ↓jm9, ji50, ji65280, ji1664525, ji252645135, ji858993459, ji1013904223, ji1431655765, ji2147483639, ji2147483647, if_true]
    rw [n1, eR, hi', if_pos rfl]
    exact mo_z_1
  | succ d ih =>
    intro i f M hi hf hq hP hCI ho
    obtain ⟨f, rfl⟩ : ∃ g, f = g + 1 := ⟨f - 1, by omega⟩
    have hft := X7_fault (z := z) (f := i) hq hP hEv (by omega)
    have hil : i < (fl (pt E j v) 360 0).length := by
      have := ix_n (E := pt E j v) (n := 360) hj (by rw [pt_j]; omega)
      omega
    obtain ⟨j', j1, j2, j3, j4, j5⟩ := ftV_j (E := pt E j v) (f := i) hil
    have hne : j' ≠ j := by intro x; subst x; omega
    obtain ⟨M', r1, r2⟩ := ih (i + 1) f M (by omega) (by omega) hq hP hCI ho
    refine ⟨M', ?_, r2⟩
    unfold m_L_changes_l676
    simp only [↓Pv hq]
    rw [hft, j4]
    simp (disch := omega) only [↓mo_cs_s, ji1, ji2, ji3, ji4, ji5, ji6, ji7, ji8, ji9, ji10, ji11, ji12, ji13, ji14, ji15, ji16, ji19, ji20, ji24, ji31, ji32, ji39, ji45, ji48, ji57, ji58, ji59, ji60, ji97, ji100, ji119, ji120, ji122, ji144, ji200, ji226, ji240, ji255, ji300, ji366, ji400, ji500, ji1000, jI_z, ↓jI_m1, jI_add, jI_sub, jI_mul, ↓jm1000, ↓jm100, ↓jm10, ↓jm9, ji50, ji65280, ji1664525, ji252645135, ji858993459, ji1013904223, ji1431655765, ji2147483639, ji2147483647, jI_eq]
    rw [if_neg (by omega), show (i : Int) + 1 = ((i + 1 : Nat) : Int) from rfl]
    exact r1

variable {S : hSh}
/-! LEAST AMOUNTS, SINGLE FAULTS of the law. -/
/-- what the law's steps and calls of the class leave of the law's things below n -/
def FZ (r n : Nat) (M M' : hM) : Prop := ∀ b, 133 ≤ b → (b < r ∨ r + 9 ≤ b) → b < n → (∀ k, gI M' b k = gI M b k) ∧ ∀ k, gA M' b k = gA M b k
theorem FZ.rfl' {r n : Nat} {M : hM} : FZ r n M M := fun _ _ _ _ => ⟨fun _ => rfl, fun _ => rfl⟩
theorem FZ.trans {r n n' : Nat} {M M' M'' : hM} (h : FZ r n M M') (h' : FZ r n' M' M'') (hn : n ≤ n') : FZ r n M M'' :=
  fun b h0 h1 h2 => ⟨fun k => ((h' b h0 h1 (by omega)).1 k).trans ((h b h0 h1 h2).1 k), fun k => ((h' b h0 h1 (by omega)).2 k).trans ((h b h0 h1 h2).2 k)⟩
theorem FL.fz {r n : Nat} {M M' : hM} (h : FL r n M M') : FZ r n M M' := fun b _ h1 h2 => h.1 b h1 h2
theorem KM.fz {r n : Nat} {M M' : hM} (h : KM M M') : FZ r n M M' := fun b h0 _ _ => h b h0
theorem PL.fz {M M' : hM} {p r n : Nat} {c : hCf} (h : PL M p c) (f : FZ r n M M') (hd : p + 5 ≤ r ∨ r + 9 ≤ p) (hn : p + 5 ≤ n) (h133 : 133 ≤ p) : PL M' p c := by
  obtain ⟨E, h1, h2, h3⟩ := h
  exact ⟨E, h1, h2.cg2 (fun b g1 g2 k => (f b (by omega) (by omega) (by omega)).2 k), h3⟩
theorem PE.fz {M M' : hM} {p r n : Nat} {o E : Nat → Int} (h : PE M p o E) (f : FZ r n M M') (hd : p + 5 ≤ r ∨ r + 9 ≤ p) (hn : p + 5 ≤ n) (h133 : 133 ≤ p) : PE M' p o E :=
  h.cg2 (fun b g1 g2 k => (f b (by omega) (by omega) (by omega)).2 k)
theorem PE.d {M : hM} {p k : Nat} {o E : Nat → Int} {v : Int} (h : PE M p o E) (hk : k < 120) : PE (sA M (p + 3) k v) p o (pt E (3 * k) v) := by
  refine ⟨fun j hj => by rw [gA_ne (by omega)]; exact h.1 j hj, fun j hj => ?_⟩
  obtain ⟨h1, h2, h3⟩ := h.2 j hj
  by_cases e : j = k
  · subst e; exact ⟨by rw [gA_eq, pt_j], by rw [gA_ne (by omega), pt_n (by omega), h2], by rw [gA_ne (by omega), pt_n (by omega), h3]⟩
  · exact ⟨by rw [gA_ne (by omega), pt_n (by omega), h1], by rw [gA_ne (by omega), pt_n (by omega), h2], by rw [gA_ne (by omega), pt_n (by omega), h3]⟩
theorem PE.t {M : hM} {p k : Nat} {o E : Nat → Int} {v : Int} (h : PE M p o E) (hk : k < 120) : PE (sA M (p + 4) k v) p o (pt E (3 * k + 1) v) := by
  refine ⟨fun j hj => by rw [gA_ne (by omega)]; exact h.1 j hj, fun j hj => ?_⟩
  obtain ⟨h1, h2, h3⟩ := h.2 j hj
  by_cases e : j = k
  · subst e; exact ⟨by rw [gA_ne (by omega), pt_n (by omega), h1], by rw [gA_eq, pt_j], by rw [gA_ne (by omega), pt_n (by omega), h3]⟩
  · exact ⟨by rw [gA_ne (by omega), pt_n (by omega), h1], by rw [gA_ne (by omega), pt_n (by omega), h2], by rw [gA_ne (by omega), pt_n (by omega), h3]⟩
theorem PE.l {M : hM} {p k : Nat} {o E : Nat → Int} {v : Int} (h : PE M p o E) (hk : k < 120) : PE (sA M (p + 2) k v) p o (pt E (3 * k + 2) v) := by
  refine ⟨fun j hj => by rw [gA_ne (by omega)]; exact h.1 j hj, fun j hj => ?_⟩
  obtain ⟨h1, h2, h3⟩ := h.2 j hj
  by_cases e : j = k
  · subst e; exact ⟨by rw [gA_ne (by omega), pt_n (by omega), h1], by rw [gA_ne (by omega), pt_n (by omega), h2], by rw [gA_eq, pt_j]⟩
  · exact ⟨by rw [gA_ne (by omega), pt_n (by omega), h1], by rw [gA_ne (by omega), pt_n (by omega), h2], by rw [gA_ne (by omega), pt_n (by omega), h3]⟩
theorem PE.s {M : hM} {p w : Nat} {o E : Nat → Int} {v : Int} (h : PE M p o E) (hw : w < 8) : PE (sA M (p + 1) w v) p (fun j => if j = w then v else o j) E := by
  refine ⟨fun j hj => ?_, fun j hj => by rw [gA_ne (by omega), gA_ne (by omega), gA_ne (by omega)]; exact h.2 j hj⟩
  rw [gA_sA]
  by_cases e : j = w
  · rw [if_pos ⟨rfl, e⟩]; exact (if_pos e).symm
  · rw [if_neg (by omega)]; exact (h.1 j hj).trans (if_neg e).symm
theorem pt_pt {E : Nat → Int} {j : Nat} {u v : Int} : pt (pt E j u) j v = pt E j v := by
  funext i; unfold pt; split <;> rfl
theorem pt_id {E : Nat → Int} {j : Nat} {v : Int} (h : E j = v) : pt E j v = E := by
  funext i; unfold pt; split
  · next e => rw [e, h]
  · rfl
theorem bT {α : Type} {b : Bool} {X Y : α} (h : b = true) : (if jI (b2i b) = jI 0 then X else Y) = Y := by subst h; rw [if_neg (show ¬ jI (b2i true) = jI 0 by decide)]
theorem bF {α : Type} {b : Bool} {X Y : α} (h : b = false) : (if jI (b2i b) = jI 0 then X else Y) = X := by subst h; rw [if_pos (show jI (b2i false) = jI 0 from rfl)]
theorem L_least_l {z p r n k pr f : Nat} {c : hCf} {E : Nat → Int} (hq : isP S p) (hqn : isP S n) (hr : isR S r) (hd : p + 5 ≤ r ∨ r + 9 ≤ p) (hpn : p + 5 ≤ n) (hrn : r + 9 ≤ n) (hc : okC c) (hE : eOK E) (hcE : c.2 = fl E 360 0) (hk : k < 120) (h0 : E (3 * k + 2) ≠ 0) (hix : ix E (3 * k + 2) = f) (hpr : pr < 4) : ∀ (d fu : Nat) (a v : Int) (M : hM), a + d = E (3 * k + 2) + 1 → 1 ≤ a → d < fu → PE M p c.1 E → PE M n c.1 (pt E (3 * k + 2) v) →
    ∃ M', m_L_least_l28 (z + p) (z + r) (jI pr) fu (hp S z M) (z + (n + 5)) (jI (1000 * (k : Int) + 2)) (z + n) (jI a) = some ((jI (lsA (fun v => brk (cA c f v) pr) d a), z + (n + 5)), hp S z M') ∧ FL r n M M' := by
  have hEk := hE (3 * k + 2) (by omega)
  intro d
  induction d with
  | zero =>
    intro fu a v M ha h1 hfu hP hPn
    obtain ⟨fu, rfl⟩ : ∃ g, fu = g + 1 := ⟨fu - 1, by omega⟩
    refine ⟨M, ?_, FL.rfl'⟩
    have e2 := (hP.2 k hk).2.2
    have g : E (3 * k + 2) < a := by omega
    unfold m_L_least_l28
    simp (disch := omega) only [ji1, ji2, ji3, ji4, ji5, ji6, ji7, ji8, ji9, ji10, ji11, ji12, ji13, ji14, ji15, ji16, ji19, ji20, ji24, ji31, ji32, ji39, ji45, ji48, ji57, ji58, ji59, ji60, ji97, ji100, ji119, ji120, ji122, ji144, ji200, ji226, ji240, ji255, ji300, ji366, ji400, ji500, ji1000, jI_z, ↓jI_m1, jI_add, jI_sub, jI_mul, ↓jm1000, ↓jm100, ↓jm10, ↓jm9, ji50, ji65280, ji1664525, ji252645135, ji858993459, ji1013904223, ji1431655765, ji2147483639, ji2147483647, ↓Pg0 hq, ↓Pg1 hq, ↓Pg2 hq, ↓Pg3 hq, ↓Pv hq, Pa1 hq, Pu1 hq, Pa2 hq, Pu2 hq, Pa3 hq, Pu3 hq, Pa4 hq, Pu4 hq, mo_dv_j, show (1000 * (k : Int) + 2) / 1000 = k from by omega, Int.toNat_natCast, e2, jI_lt, g, if_true]
    rfl
  | succ d ih =>
    intro fu a v M ha h1 hfu hP hPn
    obtain ⟨fu, rfl⟩ : ∃ g, fu = g + 1 := ⟨fu - 1, by omega⟩
    have e2 := (hP.2 k hk).2.2
    have g : ¬ E (3 * k + 2) < a := by omega
    have f1 : FL r n M (sA M (n + 2) k a) := FL.ofN (m := n + 5) (Fr.sA (by omega)) (fun _ => rfl)
    have hP1 := hP.fl f1 hd hpn
    have hPn1 := hPn.l (v := a) hk
    rw [pt_pt] at hPn1
    have hc1 : okC (cA c f a) := hc.amt (by omega)
    have hL : PL (sA M (n + 2) k a) n (cA c f a) := ⟨pt E (3 * k + 2) a, eOK_pt hE (by omega) (by omega) (fun x => by omega), hPn1, by
      show c.2.modify f (amtF a) = _
      rw [hcE, fl_mod (by omega) h0 (by omega) (by omega), hix]⟩
    obtain ⟨M2, b1, b2, b3, b4, b5⟩ := X8_gb (z := z) (pr := pr) hr hqn (by omega) hc1 hL hpr
    have f2 : FL r n (sA M (n + 2) k a) M2 := FL.ofR b4 b5
    have pre : ∀ R, (if jI (b2i (brk (cA c f a) pr)) = jI 0 then m_L_least_l28 (z + p) (z + r) (jI pr) fu (hp S z M2) (z + (n + 5)) (jI (1000 * (k : Int) + 2)) (z + n) (jI (a + 1)) else some ((jI a, z + (n + 5)), hp S z M2)) = R → m_L_least_l28 (z + p) (z + r) (jI pr) (fu + 1) (hp S z M) (z + (n + 5)) (jI (1000 * (k : Int) + 2)) (z + n) (jI a) = R := by
      intro R hR
      rw [← hR]
      conv => lhs; unfold m_L_least_l28
      simp (disch := omega) only [ji1, ji2, ji3, ji4, ji5, ji6, ji7, ji8, ji9, ji10, ji11, ji12, ji13, ji14, ji15, ji16, ji19, ji20, ji24, ji31, ji32, ji39, ji45, ji48, ji57, ji58, ji59, ji60, ji97, ji100, ji119, ji120, ji122, ji144, ji200, ji226, ji240, ji255, ji300, ji366, ji400, ji500, ji1000, jI_z, ↓jI_m1, jI_add, jI_sub, jI_mul, ↓jm1000, ↓jm100, ↓jm10, ↓jm9, ji50, ji65280, ji1664525, ji252645135, ji858993459, ji1013904223, ji1431655765, ji2147483639, ji2147483647, ↓Pg0 hq, ↓Pg1 hq, ↓Pg2 hq, ↓Pg3 hq, ↓Pv hq, Pa1 hq, Pu1 hq, Pa2 hq, Pu2 hq, Pa3 hq, Pu3 hq, Pa4 hq, Pu4 hq, mo_dv_j, show (1000 * (k : Int) + 2) / 1000 = k from by omega, Int.toNat_natCast, e2, jI_lt, g, if_false, ↓Pg1 hqn, Pu2 hqn, ↓Rv hr]
      rw [b1]
      simp only [↓mo_cs_s, ↓Rv hr]
      rw [b2]
      simp only [↓mo_cs_s]
    simp only [lsA]
    by_cases hb : brk (cA c f a) pr = true
    · refine ⟨M2, pre _ ?_, f1.trans f2 (Nat.le_refl _)⟩
      rw [bT hb, if_pos hb]
    · have hb : brk (cA c f a) pr = false := by simpa using hb
      obtain ⟨M', r1, r2⟩ := ih fu (a + 1) a M2 (by omega) (by omega) (by omega) (hP1.fl f2 hd hpn) (hPn1.keep b4 (by omega))
      refine ⟨M', pre _ ?_, (f1.trans f2 (Nat.le_refl _)).trans r2 (Nat.le_refl _)⟩
      rw [bF hb, if_neg (by rw [hb]; decide)]; exact r1
theorem L_least {z p r n pr f : Nat} {M : hM} {c : hCf} (hq : isP S p) (hr : isR S r) (hd : p + 5 ≤ r ∨ r + 9 ≤ p) (hpn : p + 5 ≤ n) (hrn : r + 9 ≤ n) (h133 : 133 ≤ n) (hc : okC c) (hP : PL M p c) (hpr : pr < 4) (hf : f < c.2.length) :
    ∃ S' M' n', m_L_least (hp S z M) (z + p) (z + r) (jI f) (jI pr) (z + n) = some ((jI (leastV c pr f), z + n'), hp S' z M') ∧ n ≤ n' ∧ SK n S S' ∧ FL r n M M' := by
  obtain ⟨E, hE, hPE, hcE⟩ := hP
  have hl := hc.1
  rw [hcE] at hf
  obtain ⟨j, j1, j2, j3, j4, j5⟩ := ftV_j hf
  have hfl := fl_len (E := E) 360 0
  have hft := X7_fault (z := z) (f := f) hq hPE hE (by omega)
  have hEj := hE j j1
  have lV : leastV c pr f = if j % 3 = 2 then lsA (fun v => brk (cA c f v) pr) (E j).toNat 1 else -1 := by
    unfold leastV
    rw [hcE, j5]
    simp only
    unfold mkF
    simp only
    by_cases g : j % 3 = 2
    · rw [if_pos (by omega), if_pos g, if_pos g]
    · rw [if_neg (by omega), if_neg g]
  rw [lV]
  by_cases g : j % 3 = 2
  · rw [if_pos g]
    obtain ⟨S1, M1, a1, a2, a3, a4, a5, a6⟩ := X7_copy (S := S) (z := z) hq hpn h133 hE hPE
    have hj : j = 3 * (j / 3) + 2 := by omega
    generalize hk : j / 3 = k at hj
    have f1 : FL r n M M1 := FL.ofN a4 a5
    obtain ⟨M', r1, r2⟩ := L_least_l (z := z) (k := k) (f := f) (pr := pr) (hq.sk a3 hpn) a2 (hr.sk a3 hrn) hd hpn hrn hc hE hcE (by omega) (by rw [← hj]; exact j2) (by rw [← hj]; exact j3) hpr (E j).toNat hN_f 1 (E j) M1 (by rw [← hj]; omega) (by omega) (by unfold hN_f; omega) (hPE.fl f1 hd hpn) (by rw [pt_id (by rw [← hj])]; exact a6)
    refine ⟨S1, M', n + 5, ?_, by omega, a3, f1.trans r2 (Nat.le_refl _)⟩
    have e1 : (1000 * ((j / 3 : Nat) : Int) + ((j % 3 : Nat) : Int)) = 1000 * (k : Int) + 2 := by omega
    unfold m_L_least
    simp only [↓Pv hq]
    rw [hft, j4, e1]
    simp (disch := omega) only [↓mo_cs_s, ji1, ji2, ji3, ji4, ji5, ji6, ji7, ji8, ji9, ji10, ji11, ji12, ji13, ji14, ji15, ji16, ji19, ji20, ji24, ji31, ji32, ji39, ji45, ji48, ji57, ji58, ji59, ji60, ji97, ji100, ji119, ji120, ji122, ji144, ji200, ji226, ji240, ji255, ji300, ji366, ji400, ji500, ji1000, jI_z, ↓jI_m1, jI_add, jI_sub, jI_mul, ↓jm1000, ↓jm100, ↓jm10, ↓jm9, ji50, ji65280, ji1664525, ji252645135, ji858993459, ji1013904223, ji1431655765, ji2147483639, ji2147483647, mo_rm_j, show (1000 * (k : Int) + 2) % 1000 = 2 from by omega, if_true, ↓Pv hq]
    rw [a1]
    simp only [↓mo_cs_s]
    exact r1
  · rw [if_neg g]
    refine ⟨S, M, n, ?_, Nat.le_refl _, SK.rfl', FL.rfl'⟩
    unfold m_L_least
    simp only [↓Pv hq]
    rw [hft, j4]
    simp (disch := omega) only [↓mo_cs_s, ji1, ji2, ji3, ji4, ji5, ji6, ji7, ji8, ji9, ji10, ji11, ji12, ji13, ji14, ji15, ji16, ji19, ji20, ji24, ji31, ji32, ji39, ji45, ji48, ji57, ji58, ji59, ji60, ji97, ji100, ji119, ji120, ji122, ji144, ji200, ji226, ji240, ji255, ji300, ji366, ji400, ji500, ji1000, jI_z, ↓jI_m1, jI_add, jI_sub, jI_mul, ↓jm1000, ↓jm100, ↓jm10, ↓jm9, ji50, ji65280, ji1664525, ji252645135, ji858993459, ji1013904223, ji1431655765, ji2147483639, ji2147483647, mo_rm_j]
    rw [if_neg (by rw [jI_eq (by omega) (by omega) (by omega) (by omega)]; omega)]
/-! single faults -/
def zE : Nat → Int := fun _ => 0
theorem eOK_z : eOK zE := fun j _ => ⟨by unfold zE; omega, by unfold zE; omega, fun _ => by unfold zE; omega⟩
theorem fl_z : ∀ n s : Nat, fl zE n s = [] := by
  intro n
  induction n with
  | zero => intro s; rfl
  | succ n ih => intro s; simp only [fl]; rw [if_pos (show zE s = 0 from rfl), ih]
theorem fl_1 {j : Nat} {v : Int} (hj : j < 360) (hv : v ≠ 0) : fl (pt zE j v) 360 0 = [mkF j v] := by
  rw [fl_at hj, if_neg (by rw [pt_j]; exact hv), pt_low, pt_up, pt_j, fl_z, fl_z]; rfl
theorem PL_1 {M : hM} {w j : Nat} {o : Nat → Int} {v : Int} (h : PE M w o (pt zE j v)) (hj : j < 360) (h0 : 0 < v) (h1 : v ≤ 20) (h2 : j % 3 ≠ 2 → v ≤ 1) : PL M w (o, [mkF j v]) :=
  ⟨pt zE j v, eOK_pt eOK_z (by omega) h1 h2, h, by rw [fl_1 hj (by omega)]⟩
theorem PL_0 {M : hM} {w : Nat} {o : Nat → Int} (h : PE M w o zE) : PL M w (o, []) := ⟨zE, eOK_z, h, by rw [fl_z]⟩
theorem mk_d {k : Nat} : mkF (3 * k) 1 = (0, (k : Int), 0) := by
  unfold mkF; rw [if_neg (by omega), show 3 * k % 3 = 0 from by omega, show 3 * k / 3 = k from by omega]; rfl
theorem mk_t {k : Nat} : mkF (3 * k + 1) 1 = (1, (k : Int), 0) := by
  unfold mkF; rw [if_neg (by omega), show (3 * k + 1) % 3 = 1 from by omega, show (3 * k + 1) / 3 = k from by omega]; rfl
theorem mk_l {k : Nat} {a : Int} : mkF (3 * k + 2) a = (2, (k : Int), a) := by
  unfold mkF; rw [if_pos (by omega), show (3 * k + 2) % 3 = 2 from by omega, show (3 * k + 2) / 3 = k from by omega]; rfl
def aI : Option hF → Int
  | none => -1
  | some x => 1000 * x.2.1 + x.1
def mI : Option hF → Int
  | none => 0
  | some x => x.2.2
def okA3 (o : Option hF) : Prop := ∀ x, o = some x → okF x
/-- a single fault tried at the plan w -/
theorem L_one {z r w j pr : Nat} {M : hM} {c : hCf} {v : Int} (hr : isR S r) (hw : isP S w) (hd : r + 9 ≤ w) (hc : okC c) (hpr : pr < 4) (hj : j < 360) (h0 : 0 < v) (h1 : v ≤ 20) (h2 : j % 3 ≠ 2 → v ≤ 1) (hP : PE M w c.1 (pt zE j v)) :
    ∃ M', m_X8_go (hp S z M) (z + r) (z + w) = some (z + r, hp S z M') ∧ m_X8_breaks (hp S z M') (z + r) (jI pr) = some (jI (b2i (atP c pr (mkF j v))), hp S z M') ∧ Fr r (r + 9) M M' ∧ Vr M M' := by
  have ho := mkF_ok (j := j) (v := v) hj (by omega) h1
  obtain ⟨M2, b1, b2, b3, b4, b5⟩ := X8_gb (z := z) (pr := pr) hr hw (by omega) (hc.one ho) (PL_1 hP hj h0 h1 h2) hpr
  exact ⟨M2, b1, b2, b4, b5⟩
theorem L_s149 {z r w k pr q0 : Nat} {c : hCf} {we N : Int} {K42 : ac_H → Nat → Nat → Int32 → Int32 → Int32 → Int32 → Int32 → Option ((Int32 × Nat) × ac_H)} (hr : isR S r) (hw : isP S w) (hd : r + 9 ≤ w) (hc : okC c) (hpr : pr < 4) (hk : k < 120) : ∀ (d fu : Nat) (a v : Int) (o : Option hF) (M : hM), a + d = 21 → 1 ≤ a → d < fu → okA3 o → PE M w c.1 (pt zE (3 * k + 2) v) →
    ∃ M', m_L_single_l149 K42 z (z + r) (jI pr) fu (hp S z M) q0 (z + w) (jI N) (jI we) (jI (aI o)) (jI (mI o)) (jI k) (jI a) = K42 (hp S z M') q0 (z + w) (jI N) (jI we) (jI (aI (o.or (at0 (atP c pr) 2 k d a)))) (jI (mI (o.or (at0 (atP c pr) 2 k d a)))) (jI ((k + 1 : Nat) : Int)) ∧ PE M' w c.1 zE ∧ FL r w M M' := by
  have ek : (k : Int) + 1 = ((k + 1 : Nat) : Int) := by omega
  have fin : ∀ (M : hM) (v : Int), PE M w c.1 (pt zE (3 * k + 2) v) → PE (sA M (w + 2) k 0) w c.1 zE ∧ FL r w M (sA M (w + 2) k 0) := by
    intro M v h
    have := h.l (v := 0) hk
    rw [pt_pt, pt_id (E := zE) (j := 3 * k + 2) (v := 0) rfl] at this
    exact ⟨this, FL.ofN (m := w + 5) (Fr.sA (by omega)) (fun _ => rfl)⟩
  intro d
  induction d with
  | zero =>
    intro fu a v o M ha h1 hf ho hP
    obtain ⟨fu, rfl⟩ : ∃ g, fu = g + 1 := ⟨fu - 1, by omega⟩
    obtain ⟨f1, f2⟩ := fin M v hP
    refine ⟨sA M (w + 2) k 0, ?_, f1, f2⟩
    have e : o.or (at0 (atP c pr) 2 k 0 a) = o := by cases o <;> rfl
    rw [e]
    have g : (20 : Int) < a := by omega
    unfold m_L_single_l149
    simp (disch := omega) only [ji1, ji2, ji3, ji4, ji5, ji6, ji7, ji8, ji9, ji10, ji11, ji12, ji13, ji14, ji15, ji16, ji19, ji20, ji24, ji31, ji32, ji39, ji45, ji48, ji57, ji58, ji59, ji60, ji97, ji100, ji119, ji120, ji122, ji144, ji200, ji226, ji240, ji255, ji300, ji366, ji400, ji500, ji1000, jI_z, ↓jI_m1, jI_add, jI_sub, jI_mul, ↓jm1000, ↓jm100, ↓jm10, ↓jm9, ji50, ji65280, ji1664525, ji252645135, ji858993459, ji1013904223, ji1431655765, ji2147483639, ji2147483647, jI_lt, g, if_true, ↓Pg0 hw, ↓Pg1 hw, ↓Pg2 hw, ↓Pg3 hw, ↓Pv hw, Pa1 hw, Pu1 hw, Pa2 hw, Pu2 hw, Pa3 hw, Pu3 hw, Pa4 hw, Pu4 hw, Int.toNat_natCast, ek]
  | succ d ih =>
    intro fu a v o M ha h1 hf ho hP
    obtain ⟨fu, rfl⟩ : ∃ g, fu = g + 1 := ⟨fu - 1, by omega⟩
    have g : ¬ (20 : Int) < a := by omega
    cases o with
    | some x =>
      obtain ⟨f1, f2⟩ := fin M v hP
      refine ⟨sA M (w + 2) k 0, ?_, f1, f2⟩
      have e : (some x).or (at0 (atP c pr) 2 k (d + 1) a) = some x := rfl
      rw [e]
      have hx := ho x rfl
      have g2 : ¬ aI (some x) < 0 := by show ¬ 1000 * x.2.1 + x.1 < 0; have := hx.2.2.1; have := hx.1; omega
      have g3 : aI (some x) < 2147483648 := by show 1000 * x.2.1 + x.1 < _; have := hx.2.2.2.1; have := hx.2.1; omega
      unfold m_L_single_l149
      simp (disch := omega) only [ji1, ji2, ji3, ji4, ji5, ji6, ji7, ji8, ji9, ji10, ji11, ji12, ji13, ji14, ji15, ji16, ji19, ji20, ji24, ji31, ji32, ji39, ji45, ji48, ji57, ji58, ji59, ji60, ji97, ji100, ji119, ji120, ji122, ji144, ji200, ji226, ji240, ji255, ji300, ji366, ji400, ji500, ji1000, jI_z, ↓jI_m1, jI_add, jI_sub, jI_mul, ↓jm1000, ↓jm100, ↓jm10, ↓jm9, ji50, ji65280, ji1664525, ji252645135, ji858993459, ji1013904223, ji1431655765, ji2147483639, ji2147483647, jI_lt, g, g2, if_false, ↓Pg0 hw, ↓Pg1 hw, ↓Pg2 hw, ↓Pg3 hw, ↓Pv hw, Pa1 hw, Pu1 hw, Pa2 hw, Pu2 hw, Pa3 hw, Pu3 hw, Pa4 hw, Pu4 hw, Int.toNat_natCast, ek]
    | none =>
      have hP1 := hP.l (v := a) hk
      rw [pt_pt] at hP1
      have f1 : FL r w M (sA M (w + 2) k a) := FL.ofN (m := w + 5) (Fr.sA (by omega)) (fun _ => rfl)
      obtain ⟨M2, b1, b2, b4, b5⟩ := L_one (z := z) (pr := pr) hr hw hd hc hpr (by omega) (by omega) (by omega) (fun x => by omega) hP1
      rw [mk_l] at b2
      have f2 := f1.trans (FL.ofR (n := w) b4 b5) (Nat.le_refl _)
      have hP2 := hP1.keep b4 (by omega)
      have pre : ∀ R, (if jI (b2i (atP c pr (2, (k : Int), a))) = jI 0 then m_L_single_l149 K42 z (z + r) (jI pr) fu (hp S z M2) q0 (z + w) (jI N) (jI we) (jI (-1)) (jI 0) (jI k) (jI (a + 1)) else m_L_single_l149 K42 z (z + r) (jI pr) fu (hp S z M2) q0 (z + w) (jI N) (jI we) (jI (1000 * (k : Int) + 2)) (jI a) (jI k) (jI (a + 1))) = R → m_L_single_l149 K42 z (z + r) (jI pr) (fu + 1) (hp S z M) q0 (z + w) (jI N) (jI we) (jI (aI none)) (jI (mI none)) (jI k) (jI a) = R := by
        intro R hR
        rw [← hR]
        conv => lhs; unfold m_L_single_l149
        simp (disch := omega) only [ji1, ji2, ji3, ji4, ji5, ji6, ji7, ji8, ji9, ji10, ji11, ji12, ji13, ji14, ji15, ji16, ji19, ji20, ji24, ji31, ji32, ji39, ji45, ji48, ji57, ji58, ji59, ji60, ji97, ji100, ji119, ji120, ji122, ji144, ji200, ji226, ji240, ji255, ji300, ji366, ji400, ji500, ji1000, jI_z, ↓jI_m1, jI_add, jI_sub, jI_mul, ↓jm1000, ↓jm100, ↓jm10, ↓jm9, ji50, ji65280, ji1664525, ji252645135, ji858993459, ji1013904223, ji1431655765, ji2147483639, ji2147483647, aI, mI, jI_lt, g, show (-1 : Int) < 0 from by omega, if_true, if_false, ↓Pg0 hw, ↓Pg1 hw, ↓Pg2 hw, ↓Pg3 hw, ↓Pv hw, Pa1 hw, Pu1 hw, Pa2 hw, Pu2 hw, Pa3 hw, Pu3 hw, Pa4 hw, Pu4 hw, Int.toNat_natCast, ↓Rv hr]
        rw [b1]
        simp only [↓mo_cs_s, ↓Rv hr]
        rw [b2]
        simp only [↓mo_cs_s]
      simp only [at0]
      by_cases hb : atP c pr (2, (k : Int), a) = true
      · obtain ⟨M', r1, r2, r3⟩ := ih fu (a + 1) a (some (2, (k : Int), a)) M2 (by omega) (by omega) (by omega) (fun x hx => by cases hx; exact ⟨by show (0 : Int) ≤ 2; decide, by show (2 : Int) ≤ 2; decide, by show (0 : Int) ≤ k; omega, by show (k : Int) < 120; omega, by show 0 ≤ a; omega, by show a ≤ 20; omega⟩) hP2
        refine ⟨M', pre _ ?_, r2, f2.trans r3 (Nat.le_refl _)⟩
        rw [bT hb, if_pos hb]
        exact r1
      · have hb : atP c pr (2, (k : Int), a) = false := by simpa using hb
        obtain ⟨M', r1, r2, r3⟩ := ih fu (a + 1) a none M2 (by omega) (by omega) (by omega) (fun x hx => by cases hx) hP2
        refine ⟨M', pre _ ?_, r2, f2.trans r3 (Nat.le_refl _)⟩
        rw [bF hb, if_neg (by rw [hb]; decide)]
        exact r1
theorem at0_1 {P : hF → Bool} {kd k a : Int} : at0 P kd k 1 a = if P (kd, k, a) = true then some (kd, k, a) else none := rfl
theorem at0_ok {P : hF → Bool} {kd k : Int} (h1 : 0 ≤ kd ∧ kd ≤ 2) (h2 : 0 ≤ k ∧ k < 120) : ∀ (n : Nat) (a : Int), 0 ≤ a → a + n ≤ 21 → okA3 (at0 P kd k n a) := by
  intro n
  induction n with
  | zero => intro a _ _ x hx; cases hx
  | succ n ih =>
    intro a h0 hn x hx
    simp only [at0] at hx
    split at hx
    · cases hx; exact ⟨h1.1, h1.2, h2.1, h2.2, h0, by show a ≤ 20; omega⟩
    · exact ih (a + 1) (by omega) (by omega) x hx
theorem okA3.or {o o' : Option hF} (h : okA3 o) (h' : okA3 o') : okA3 (o.or o') := by
  cases o with
  | none => exact h'
  | some x => exact h
theorem L_s100 {z r w k pr q0 : Nat} {M : hM} {c : hCf} {we N : Int} {o : Option hF} {K42 : ac_H → Nat → Nat → Int32 → Int32 → Int32 → Int32 → Int32 → Option ((Int32 × Nat) × ac_H)} (hr : isR S r) (hw : isP S w) (hd : r + 9 ≤ w) (hc : okC c) (hpr : pr < 4) (hk : k < 120) (ho : okA3 o) (hP : PE M w c.1 zE) :
    ∃ M', m_L_single_j100 K42 z (z + r) (jI pr) (hp S z M) q0 (z + w) (jI N) (jI we) (jI (aI o)) (jI (mI o)) (jI k) = K42 (hp S z M') q0 (z + w) (jI N) (jI we) (jI (aI (o.or ((at0 (atP c pr) 1 k 1 0).or (at0 (atP c pr) 2 k 20 1))))) (jI (mI (o.or ((at0 (atP c pr) 1 k 1 0).or (at0 (atP c pr) 2 k 20 1))))) (jI ((k + 1 : Nat) : Int)) ∧ PE M' w c.1 zE ∧ FL r w M M' := by
  have hP1 := hP.t (v := 1) hk
  have f1 : FL r w M (sA M (w + 4) k 1) := FL.ofN (m := w + 5) (Fr.sA (by omega)) (fun _ => rfl)
  have back : ∀ M2, PE M2 w c.1 (pt zE (3 * k + 1) 1) → PE (sA M2 (w + 4) k 0) w c.1 (pt zE (3 * k + 2) 0) ∧ FL r w M2 (sA M2 (w + 4) k 0) := by
    intro M2 h
    have := h.t (v := 0) hk
    rw [pt_pt, pt_id (E := zE) (j := 3 * k + 1) (v := 0) rfl] at this
    rw [pt_id (E := zE) (j := 3 * k + 2) (v := 0) rfl]
    exact ⟨this, FL.ofN (m := w + 5) (Fr.sA (by omega)) (fun _ => rfl)⟩
  cases o with
  | some x =>
    have hx := ho x rfl
    have g2 : ¬ aI (some x) < 0 := by show ¬ 1000 * x.2.1 + x.1 < 0; have := hx.2.2.1; have := hx.1; omega
    have g3 : aI (some x) < 2147483648 := by show 1000 * x.2.1 + x.1 < _; have := hx.2.2.2.1; have := hx.2.1; omega
    obtain ⟨h2, f2⟩ := back _ hP1
    obtain ⟨M', r1, r2, r3⟩ := L_s149 (z := z) (K42 := K42) (q0 := q0) (we := we) (N := N) hr hw hd hc hpr hk 20 hN_f 1 0 (some x) _ (by omega) (by omega) (by unfold hN_f; omega) ho h2
    refine ⟨M', ?_, r2, (f1.trans f2 (Nat.le_refl _)).trans r3 (Nat.le_refl _)⟩
    unfold m_L_single_j100
    simp (disch := omega) only [ji1, ji2, ji3, ji4, ji5, ji6, ji7, ji8, ji9, ji10, ji11, ji12, ji13, ji14, ji15, ji16, ji19, ji20, ji24, ji31, ji32, ji39, ji45, ji48, ji57, ji58, ji59, ji60, ji97, ji100, ji119, ji120, ji122, ji144, ji200, ji226, ji240, ji255, ji300, ji366, ji400, ji500, ji1000, jI_z, ↓jI_m1, jI_add, jI_sub, jI_mul, ↓jm1000, ↓jm100, ↓jm10, ↓jm9, ji50, ji65280, ji1664525, ji252645135, ji858993459, ji1013904223, ji1431655765, ji2147483639, ji2147483647, jI_lt, g2, if_false, ↓Pg0 hw, ↓Pg1 hw, ↓Pg2 hw, ↓Pg3 hw, ↓Pv hw, Pa1 hw, Pu1 hw, Pa2 hw, Pu2 hw, Pa3 hw, Pu3 hw, Pa4 hw, Pu4 hw, Int.toNat_natCast, nar_z1, nar_z0]
    exact r1
  | none =>
    obtain ⟨M2, b1, b2, b4, b5⟩ := L_one (z := z) (pr := pr) hr hw hd hc hpr (by omega) (by omega) (by omega) (fun x => by omega) hP1
    rw [mk_t] at b2
    have f2 := f1.trans (FL.ofR (n := w) b4 b5) (Nat.le_refl _)
    obtain ⟨h3, f3⟩ := back _ (hP1.keep b4 (by omega))
    have pre : ∀ R, (if jI (b2i (atP c pr (1, (k : Int), 0))) = jI 0 then m_L_single_l149 K42 z (z + r) (jI pr) hN_f (hp S z (sA M2 (w + 4) k 0)) q0 (z + w) (jI N) (jI we) (jI (-1)) (jI 0) (jI k) (jI 1) else m_L_single_l149 K42 z (z + r) (jI pr) hN_f (hp S z (sA M2 (w + 4) k 0)) q0 (z + w) (jI N) (jI we) (jI (1000 * (k : Int) + 1)) (jI 0) (jI k) (jI 1)) = R → m_L_single_j100 K42 z (z + r) (jI pr) (hp S z M) q0 (z + w) (jI N) (jI we) (jI (aI none)) (jI (mI none)) (jI k) = R := by
      intro R hR
      rw [← hR]
      conv => lhs; unfold m_L_single_j100
      simp (disch := omega) only [ji1, ji2, ji3, ji4, ji5, ji6, ji7, ji8, ji9, ji10, ji11, ji12, ji13, ji14, ji15, ji16, ji19, ji20, ji24, ji31, ji32, ji39, ji45, ji48, ji57, ji58, ji59, ji60, ji97, ji100, ji119, ji120, ji122, ji144, ji200, ji226, ji240, ji255, ji300, ji366, ji400, ji500, ji1000, jI_z, ↓jI_m1, jI_add, jI_sub, jI_mul, ↓jm1000, ↓jm100, ↓jm10, ↓jm9, ji50, ji65280, ji1664525, ji252645135, ji858993459, ji1013904223, ji1431655765, ji2147483639, ji2147483647, aI, mI, jI_lt, show (-1 : Int) < 0 from by omega, if_true, ↓Pg0 hw, ↓Pg1 hw, ↓Pg2 hw, ↓Pg3 hw, ↓Pv hw, Pa1 hw, Pu1 hw, Pa2 hw, Pu2 hw, Pa3 hw, Pu3 hw, Pa4 hw, Pu4 hw, Int.toNat_natCast, ↓Rv hr, nar_z1]
      rw [b1]
      simp only [↓mo_cs_s, ↓Rv hr]
      rw [b2]
      simp (disch := omega) only [↓mo_cs_s, ↓Pg0 hw, ↓Pg1 hw, ↓Pg2 hw, ↓Pg3 hw, ↓Pv hw, Pa1 hw, Pu1 hw, Pa2 hw, Pu2 hw, Pa3 hw, Pu3 hw, Pa4 hw, Pu4 hw, ji1, ji2, ji3, ji4, ji5, ji6, ji7, ji8, ji9, ji10, ji11, ji12, ji13, ji14, ji15, ji16, ji19, ji20, ji24, ji31, ji32, ji39, ji45, ji48, ji57, ji58, ji59, ji60, ji97, ji100, ji119, ji120, ji122, ji144, ji200, ji226, ji240, ji255, ji300, ji366, ji400, ji500, ji1000, jI_z, ↓jI_m1, jI_add, jI_sub, jI_mul, ↓jm1000, ↓jm100, ↓jm10, ↓jm9, ji50, ji65280, ji1664525, ji252645135, ji858993459, ji1013904223, ji1431655765, ji2147483639, ji2147483647, nar_z0, Int.toNat_natCast]
    rw [at0_1]
    by_cases hb : atP c pr (1, (k : Int), 0) = true
    · rw [if_pos hb]
      obtain ⟨M', r1, r2, r3⟩ := L_s149 (z := z) (K42 := K42) (q0 := q0) (we := we) (N := N) hr hw hd hc hpr hk 20 hN_f 1 0 (some (1, (k : Int), 0)) _ (by omega) (by omega) (by unfold hN_f; omega) (fun x hx => by cases hx; exact ⟨by show (0 : Int) ≤ 1; decide, by show (1 : Int) ≤ 2; decide, by show (0 : Int) ≤ k; omega, by show (k : Int) < 120; omega, by show (0 : Int) ≤ 0; decide, by show (0 : Int) ≤ 20; decide⟩) h3
      refine ⟨M', pre _ ?_, r2, (f2.trans f3 (Nat.le_refl _)).trans r3 (Nat.le_refl _)⟩
      rw [bT hb]
      exact r1
    · have hb : atP c pr (1, (k : Int), 0) = false := by simpa using hb
      rw [if_neg (by rw [hb]; decide)]
      obtain ⟨M', r1, r2, r3⟩ := L_s149 (z := z) (K42 := K42) (q0 := q0) (we := we) (N := N) hr hw hd hc hpr hk 20 hN_f 1 0 none _ (by omega) (by omega) (by unfold hN_f; omega) (fun x hx => by cases hx) h3
      refine ⟨M', pre _ ?_, r2, (f2.trans f3 (Nat.le_refl _)).trans r3 (Nat.le_refl _)⟩
      rw [bF hb]
      exact r1

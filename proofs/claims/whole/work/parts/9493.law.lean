/-! THE LAW: every state stays in bounds; a call of both sides. -/
theorem okQ_add {q : hQ} {kd nm am : Int} (ho : okQ q) : okQ (rAdd q kd nm am).2.2 := by
  unfold rAdd
  split
  · next g =>
    split
    · next g2 => exact okQ_chg ho ⟨ho.1.1.ins plc_in g2.2 (okA_F g), ho.1.2⟩
    · exact ho
  · exact ho
theorem okQ_rem {q : hQ} {f : Int} (ho : okQ q) : okQ (rRem q f).2.2 := by
  unfold rRem
  split
  · exact okQ_chg ho ⟨ho.1.1.era _, ho.1.2⟩
  · exact ho
theorem okQ_clear {q : hQ} (ho : okQ q) : okQ (rClear q).2.2 := okQ_chg ho ⟨ho.1.1.nil, ho.1.2⟩
theorem okQ_set {q : hQ} {w v : Int} (ho : okQ q) : okQ (rSet q w v).2.2 := by
  unfold rSet
  split
  · next g => exact okQ_chg ho ⟨ho.1.1.set g.1 g.2, ho.1.2⟩
  · exact ho
theorem okQ_shrink {q : hQ} {p : Int} (ho : okQ q) : okQ (rShrink q p).2.2 := by
  unfold rShrink
  split
  · split
    · exact ho
    · exact okQ_chg ho ⟨shrL_ok _ _ _ (okC_prt0 ho.1.1 _), ho.1.2⟩
  · exact ho
theorem okQ_record {q : hQ} (ho : okQ q) : okQ (rRecord q).2.2 := okQ_chg ho (okU_rec ho)
theorem okQ_undo {q : hQ} (ho : okQ q) : okQ (rUndo q).2.2 := by
  unfold rUndo
  split
  · exact ho
  · next u hu =>
    exact ⟨ho.2.1 u (List.mem_of_getLast? hu), fun v hv => ho.2.1 v ((List.dropLast_sublist q.2.1).subset hv), by have := ho.2.2.1; simp only [List.length_dropLast]; omega, ho.2.2.2⟩
theorem okQ_save {q : hQ} {s : Int} (ho : okQ q) : okQ (rSave q s).2.2 := by
  unfold rSave
  split
  · refine ⟨ho.1, ho.2.1, ho.2.2.1, fun i u hi hu => ?_, ho.2.2.2.2⟩
    have hu' : slS q.2.2.1 s.toNat q.1 i = some u := hu
    by_cases e : i = s.toNat
    · subst e; rw [slS1] at hu'; cases hu'; exact ho.1
    · rw [slS0 e] at hu'; exact ho.2.2.2.1 i u hi hu'
  · exact ho
theorem okQ_rest {q : hQ} {s : Int} (ho : okQ q) : okQ (rRest q s).2.2 := by
  unfold rRest
  split
  · next g =>
    split
    · exact ho
    · next u hu => exact ⟨ho.2.2.2.1 s.toNat u (by omega) hu, by simp, by simp, ho.2.2.2⟩
  · exact ho
/-- both sides, and the out array aside -/
def INV (M : hM) (q : hQ) : Prop := CI M q ∧ MI M q ∧ okQ q
theorem hy0 {α ρ : Type} {z : Nat} {M : hM} {m : Option ((String ⊕ ρ) × ac_H)} {X : String → ac_H → Option α} {F : ρ → ac_H → Option α} : mo_xh (hp z M) z 6 m X F = (match m with | some (.inr x, σ1) => F x σ1 | some (.inl E, σ1) => X E σ1 | none => none) := by
  unfold mo_xh
  have e : hp z M z = some (.inr (6, fvs z M 0)) := by
    have := hp_c (z := z) (a := 0) (M := M)
    rw [Nat.add_zero] at this
    rw [this]
    exact hc_o (c := 6) rfl
  rw [e]
  rfl
theorem toI64 (x : Int32) : x.toInt64 = Int64.ofInt x.toInt := by
  have h1 := Int32.le_toInt x
  have h2 := Int32.toInt_lt x
  apply Int64.toInt_inj.mp
  rw [Int32.toInt_toInt64, Int64.toInt_ofInt]
  simp only [Int.bmod, Int64.size]
  omega
theorem lg_cmp_rf (x : Int64) : lg_cmp x x = 0 := by
  unfold lg_cmp
  rw [if_neg (by simp), if_pos rfl]
theorem KM_out {M : hM} {v : Int} : ∀ a, 133 ≤ a → a < 148 → (∀ k, gI (sA M 148 0 v) a k = gI M a k) ∧ ∀ k, gA (sA M 148 0 v) a k = gA M a k := fun a _ h => ⟨fun _ => rfl, fun k => by rw [gA_sA, if_neg (by omega)]⟩
theorem MI.k8 {M M' : hM} {q : hQ} (h : MI M q) (k : ∀ a, 133 ≤ a → a < 148 → (∀ k, gI M' a k = gI M a k) ∧ ∀ k, gA M' a k = gA M a k) : MI M' q :=
  ⟨h.1.kp ((k 134 (by omega) (by omega)).2), h.2.1.cg ((k 133 (by omega) (by omega)).1 36) ((k 145 (by omega) (by omega)).2), h.2.2.1.cg ((k 146 (by omega) (by omega)).2) ((k 147 (by omega) (by omega)).2), h.2.2.2.cg ((k 133 (by omega) (by omega)).1 3) ((k 133 (by omega) (by omega)).1 10) ((k 135 (by omega) (by omega)).2)⟩
theorem CI_out {M : hM} {q : hQ} {v : Int} (h : CI M q) (ho : okQ q) : CI (sA M 148 0 v) q :=
  ⟨h.1.cg (fun a _ _ => ⟨fun _ => rfl, fun k => by rw [gA_sA, if_neg (by omega)]⟩), h.2.1.cg ho.2.2.1 rfl (fun a _ _ => ⟨fun _ => rfl, fun k => by rw [gA_sA, if_neg (by omega)]⟩) (fun _ _ _ => rfl), h.2.2.1.cg (fun a _ _ => ⟨fun _ => rfl, fun k => by rw [gA_sA, if_neg (by omega)]⟩), h.2.2.2.cg (fun a _ => ⟨fun _ => rfl, fun k => by rw [gA_sA, if_neg (by omega)]⟩)⟩
/-- a call without exceptions -/
theorem law_A {z : Nat} {M : hM} {q : hQ} {r : hR} {f6 f7 : ac_H → Option (Int32 × ac_H)} {K : ac_H → Option (Unit × ac_H)} (h : INV M q) (h0 : r.1 = 0) (ho : okQ r.2.2) (C : OD z M (f6 (hp z M)) r) (N : ∀ M1, MI M1 q → OM z M1 (f7 (hp z M1)) r) :
    ∃ M', (mo_cv (hp z M) z 6 (f6 (hp z M)) fun x20 σ19 => mo_cv σ19 (z + 133) 7 (f7 σ19) fun x27 σ26 => if x20 = x27 then K σ26 else none) = K (hp z M') ∧ INV M' r.2.2 := by
  obtain ⟨M1, c1, c2, c3⟩ := C
  obtain ⟨M2, v, n1, n2, n3, n4, n5⟩ := N M1 (h.2.1.km c3)
  refine ⟨M2, ?_, c2.kc ho n5, n4, ho⟩
  rw [hv0, c1, mo_cs_s, hv133, n1, mo_cs_s, n2 h0, if_pos rfl]
/-- the helper of a call with exceptions -/
def OH (z : Nat) (M : hM) (o : Option (Int32 × ac_H)) (r : hR) : Prop := ∃ M', o = some (jI r.1, hp z M') ∧ CI M' r.2.2 ∧ (∀ a, 133 ≤ a → a < 148 → (∀ k, gI M' a k = gI M a k) ∧ ∀ k, gA M' a k = gA M a k) ∧ (r.1 = 0 → gA M' 148 0 = (jI r.2.1).toInt)
theorem help_B {z : Nat} {M : hM} {r : hR} {e : Int → String} {o : Option ((String ⊕ Int32) × ac_H)} {H : String → ac_H → Option (Int32 × ac_H)} (C : OC z M o e r) (ho : okQ r.2.2) (hH : ¬ r.1 = 0 → ∀ σ, H (e r.1) σ = some (jI r.1, σ)) :
    OH z M (mo_xh (hp z M) z 6 o H fun x2 σ1 => mo_ul σ1 (z + 148) (0 : Int32) x2.toInt64 fun σ3 => some ((0 : Int32), σ3)) r := by
  obtain ⟨M1, c1, c2, c3⟩ := C
  rw [hy0, c1]
  by_cases h0 : r.1 = 0
  · refine ⟨sA M1 148 0 (jI r.2.1).toInt, ?_, CI_out c2 ho, fun a h1 h2 => ⟨fun k => (c3 a h1).1 k, fun k => by rw [(KM_out a h1 h2).2, (c3 a h1).2]⟩, fun _ => by rw [gA_sA, if_pos ⟨rfl, rfl⟩]⟩
    rw [h0, xo0]
    show mo_ul (hp z M1) (z + 148) (0 : Int32) (jI r.2.1).toInt64 _ = _
    rw [toI64, hp_ul]
    rfl
  · refine ⟨M1, ?_, c2, fun a h1 _ => c3 a h1, fun h => absurd h h0⟩
    unfold xo
    rw [if_neg h0]
    exact hH h0 _
theorem help_C {z : Nat} {M : hM} {r : hR} {e : Int → String} {o : Option ((String ⊕ Int32) × ac_H)} {H : String → ac_H → Option (Int32 × ac_H)} (C : OC z M o e r) (ho : okQ r.2.2) (hb : r.1 = 0 → r.2.1 = 0 ∨ r.2.1 = 1) (hH : ¬ r.1 = 0 → ∀ σ, H (e r.1) σ = some (jI r.1, σ)) :
    OH z M (mo_xh (hp z M) z 6 o H fun x2 σ1 => if x2 = 0 then (mo_ul σ1 (z + 148) (0 : Int32) (0 : Int64) fun σ3 => some ((0 : Int32), σ3)) else (mo_ul σ1 (z + 148) (0 : Int32) (1 : Int64) fun σ4 => some ((0 : Int32), σ4))) r := by
  obtain ⟨M1, c1, c2, c3⟩ := C
  rw [hy0, c1]
  by_cases h0 : r.1 = 0
  · refine ⟨sA M1 148 0 (jI r.2.1).toInt, ?_, CI_out c2 ho, fun a h1 h2 => ⟨fun k => (c3 a h1).1 k, fun k => by rw [(KM_out a h1 h2).2, (c3 a h1).2]⟩, fun _ => by rw [gA_sA, if_pos ⟨rfl, rfl⟩]⟩
    rw [h0, xo0]
    show (if jI r.2.1 = 0 then _ else _) = _
    rcases hb h0 with g | g
    · rw [g, if_pos (show jI 0 = (0 : Int32) from rfl), show (0 : Int64) = Int64.ofInt 0 from rfl, hp_ul]
      rfl
    · rw [g, if_neg (show ¬ jI 1 = (0 : Int32) by decide), show (1 : Int64) = Int64.ofInt 1 from rfl, hp_ul]
      rfl
  · refine ⟨M1, ?_, c2, fun a h1 _ => c3 a h1, fun h => absurd h h0⟩
    unfold xo
    rw [if_neg h0]
    exact hH h0 _
theorem X7_thr {z : Nat} {M : hM} : m_X7_thrown (hp z M) (z + 133) = some (jI (gI M 133 0), hp z M) := by
  unfold m_X7_thrown
  rw [hg133_0]
theorem law_B {z : Nat} {M : hM} {q : hQ} {r : hR} {o : Option (Int32 × ac_H)} {f7 : ac_H → Option (Int32 × ac_H)} {K : ac_H → Option (Unit × ac_H)} (h : INV M q) (hr : 0 ≤ r.1 ∧ r.1 ≤ 2) (ho : okQ r.2.2) (C : OH z M o r) (N : ∀ M1, MI M1 q → OM z M1 (f7 (hp z M1)) r) :
    ∃ M', (mo_cs o fun x31 σ30 => mo_cv σ30 (z + 133) 7 (f7 σ30) fun x34 σ33 => mo_cv σ33 (z + 133) 7 (m_X7_thrown σ33 (z + 133)) fun x36 σ35 => if x36 = x31 then (if x31 = 0 then (mo_al σ35 (z + 148) (0 : Int32) fun x37 => if lg_cmp x37 x34.toInt64 = 0 then K σ35 else none) else K σ35) else none) = K (hp z M') ∧ INV M' r.2.2 := by
  obtain ⟨M1, c1, c2, c3, c4⟩ := C
  obtain ⟨M2, v, n1, n2, n3, n4, n5⟩ := N M1 (h.2.1.k8 c3)
  refine ⟨M2, ?_, c2.kc ho n5, n4, ho⟩
  rw [c1, mo_cs_s, hv133, n1, mo_cs_s, hv133, X7_thr, mo_cs_s, n3, if_pos rfl]
  by_cases h0 : r.1 = 0
  · rw [if_pos (show jI r.1 = (0 : Int32) by rw [h0]; rfl), hp_al, (n5.1 148 (by omega)).2, c4 h0, n2 h0, toI64, lg_cmp_rf, if_pos rfl]
  · rw [if_neg (show ¬ jI r.1 = (0 : Int32) by rw [jI_z, jI_eq (by omega) (by omega) (by omega) (by omega)]; exact h0)]
theorem law_C {z : Nat} {M : hM} {q : hQ} {r : hR} {o : Option (Int32 × ac_H)} {f7 : ac_H → Option (Int32 × ac_H)} {K : ac_H → Option (Unit × ac_H)} {J : ac_H → Int64 → Int64 → Option (Unit × ac_H)} (hJ : ∀ σ a b, J σ a b = if lg_cmp b a = 0 then K σ else none) (h : INV M q) (hr : 0 ≤ r.1 ∧ r.1 ≤ 2) (hb : r.1 = 0 → r.2.1 = 0 ∨ r.2.1 = 1) (ho : okQ r.2.2) (C : OH z M o r) (N : ∀ M1, MI M1 q → OM z M1 (f7 (hp z M1)) r) :
    ∃ M', (mo_cs o fun x31 σ30 => mo_cv σ30 (z + 133) 7 (f7 σ30) fun x34 σ33 => mo_cv σ33 (z + 133) 7 (m_X7_thrown σ33 (z + 133)) fun x36 σ35 => if x36 = x31 then (if x31 = 0 then (mo_al σ35 (z + 148) (0 : Int32) fun x37 => if x34 = 0 then J σ35 (0 : Int64) x37 else J σ35 (1 : Int64) x37) else K σ35) else none) = K (hp z M') ∧ INV M' r.2.2 := by
  obtain ⟨M1, c1, c2, c3, c4⟩ := C
  obtain ⟨M2, v, n1, n2, n3, n4, n5⟩ := N M1 (h.2.1.k8 c3)
  refine ⟨M2, ?_, c2.kc ho n5, n4, ho⟩
  rw [c1, mo_cs_s, hv133, n1, mo_cs_s, hv133, X7_thr, mo_cs_s, n3, if_pos rfl]
  by_cases h0 : r.1 = 0
  · rw [if_pos (show jI r.1 = (0 : Int32) by rw [h0]; rfl), hp_al, (n5.1 148 (by omega)).2, c4 h0, n2 h0]
    rcases hb h0 with g | g
    · rw [g, if_pos (show jI 0 = (0 : Int32) from rfl), hJ, show (0 : Int64) = Int64.ofInt (jI 0).toInt from rfl, lg_cmp_rf, if_pos rfl]
    · rw [g, if_neg (show ¬ jI 1 = (0 : Int32) by decide), hJ, show (1 : Int64) = Int64.ofInt (jI 1).toInt from rfl, lg_cmp_rf, if_pos rfl]
  · rw [if_neg (show ¬ jI r.1 = (0 : Int32) by rw [jI_z, jI_eq (by omega) (by omega) (by omega) (by omega)]; exact h0)]
/-- the script -/
theorem mo_s_j {α : Type} {xs : Nat → Int32} {L j : Nat} {F : Int32 → Option α} (h : j < L) (hL : L ≤ 3072) : mo_s xs L (jI j) F = F (xs j) := by
  unfold mo_s
  rw [jI_ix (by omega) (by omega), if_neg, Int.toNat_natCast]
  intro g
  rcases g with g | g
  · exact jI_nonneg (by omega) (by omega) g
  · omega
theorem ms {α : Type} {xs : Nat → Int32} {L i : Nat} {F : Int32 → Option α} (k : Nat) (h : i + k < L) (hL : L ≤ 3072) : mo_s xs L (jI i + jI k) F = F (xs (i + k)) := by
  rw [jI_add, show (i : Int) + k = ((i + k : Nat) : Int) by omega]
  exact mo_s_j h hL
theorem okW_x (x : Int32) : okW x.toInt := ⟨Int32.le_toInt x, Int32.toInt_lt x⟩

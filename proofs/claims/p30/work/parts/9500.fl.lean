/-! PLANS by a function: which faults, in their order. -/
def mkF (j : Nat) (v : Int) : hF := ((j % 3 : Nat), (j / 3 : Nat), if j % 3 = 2 then v else 0)
def fl (E : Nat → Int) : Nat → Nat → List hF
  | 0, _ => []
  | n + 1, s => if E s = 0 then fl E n (s + 1) else mkF s (E s) :: fl E n (s + 1)
def eOK (E : Nat → Int) : Prop := ∀ j, j < 360 → 0 ≤ E j ∧ E j ≤ 20 ∧ (j % 3 ≠ 2 → E j ≤ 1)
theorem fl_add {E : Nat → Int} {b : Nat} : ∀ (a s : Nat), fl E (a + b) s = fl E a s ++ fl E b (s + a) := by
  intro a
  induction a with
  | zero => intro s; simp [fl]
  | succ a ih =>
    intro s
    rw [show a + 1 + b = (a + b) + 1 from by omega]
    simp only [fl]
    rw [ih (s + 1), show s + 1 + a = s + (a + 1) from by omega]
    split <;> simp
theorem fl_cg {E E' : Nat → Int} : ∀ (n s : Nat), (∀ j, s ≤ j → j < s + n → E' j = E j) → fl E' n s = fl E n s := by
  intro n
  induction n with
  | zero => intro s h; rfl
  | succ n ih =>
    intro s h
    simp only [fl]
    rw [h s (by omega) (by omega), ih (s + 1) (fun j h1 h2 => h j (by omega) (by omega))]
theorem fl_len {E : Nat → Int} : ∀ (n s : Nat), (fl E n s).length ≤ n := by
  intro n
  induction n with
  | zero => intro s; simp [fl]
  | succ n ih => intro s; simp only [fl]; have := ih (s + 1); split <;> (try simp only [List.length_cons]) <;> omega
/-- how many come before j -/
def ix (E : Nat → Int) (j : Nat) : Nat := (fl E j 0).length
theorem ix_s {E : Nat → Int} {j : Nat} : ix E (j + 1) = ix E j + if E j = 0 then 0 else 1 := by
  unfold ix
  rw [fl_add, List.length_append, Nat.zero_add]
  simp only [fl]
  split <;> simp
theorem ix_mono {E : Nat → Int} {i : Nat} : ∀ d, ix E i ≤ ix E (i + d) := by
  intro d
  induction d with
  | zero => exact Nat.le_refl _
  | succ d ih => rw [← Nat.add_assoc, ix_s]; omega
theorem ix_lt {E : Nat → Int} {i j : Nat} (h : i < j) (hi : E i ≠ 0) : ix E i < ix E j := by
  have h1 := ix_mono (E := E) (i := i + 1) (j - (i + 1))
  rw [show i + 1 + (j - (i + 1)) = j from by omega, ix_s, if_neg hi] at h1
  omega
theorem ix_u {E : Nat → Int} {i j : Nat} (hi : E i ≠ 0) (hj : E j ≠ 0) (h : ix E i = ix E j) : i = j := by
  rcases Nat.lt_trichotomy i j with g | g | g
  · have := ix_lt g hi; omega
  · exact g
  · have := ix_lt g hj; omega
theorem fl_cut {E : Nat → Int} {n j : Nat} (hj : j < n) : fl E n 0 = fl E j 0 ++ fl E (n - j) j := by
  have := fl_add (E := E) (b := n - j) j 0
  rwa [show j + (n - j) = n from by omega, Nat.zero_add] at this
theorem fl_at {E : Nat → Int} {n j : Nat} (hj : j < n) : fl E n 0 = fl E j 0 ++ (if E j = 0 then fl E (n - (j + 1)) (j + 1) else mkF j (E j) :: fl E (n - (j + 1)) (j + 1)) := by
  rw [fl_cut hj]
  congr 1
  rw [show n - j = (n - (j + 1)) + 1 from by omega]
  rfl
theorem fl_ix {E : Nat → Int} {n j : Nat} (hj : j < n) (h : E j ≠ 0) : (fl E n 0)[ix E j]? = some (mkF j (E j)) := by
  rw [fl_at hj, if_neg h]; unfold ix
  rw [List.getElem?_append_right (Nat.le_refl _), Nat.sub_self]; rfl
theorem ix_n {E : Nat → Int} {n j : Nat} (hj : j < n) (h : E j ≠ 0) : ix E j < (fl E n 0).length := (List.getElem?_eq_some_iff.mp (fl_ix hj h)).1
theorem fl_get {E : Nat → Int} : ∀ (n f : Nat) (x : hF), (fl E n 0)[f]? = some x → ∃ j, j < n ∧ E j ≠ 0 ∧ x = mkF j (E j) ∧ ix E j = f := by
  intro n
  induction n with
  | zero => intro f x h; simp [fl] at h
  | succ n ih =>
    intro f x h
    rw [fl_at (show n < n + 1 by omega)] at h
    by_cases g : f < (fl E n 0).length
    · rw [List.getElem?_append_left g] at h
      obtain ⟨j, h1, h2, h3, h4⟩ := ih f x h
      exact ⟨j, by omega, h2, h3, h4⟩
    · rw [List.getElem?_append_right (by omega)] at h
      by_cases e : E n = 0
      · rw [if_pos e, Nat.sub_self] at h; simp [fl] at h
      · rw [if_neg e, Nat.sub_self] at h
        simp only [fl] at h
        have hl := (List.getElem?_eq_some_iff.mp h).1
        simp only [List.length_cons, List.length_nil] at hl
        rw [show f - (fl E n 0).length = 0 from by omega] at h
        simp only [List.getElem?_cons_zero, Option.some.injEq] at h
        exact ⟨n, by omega, e, h.symm, by unfold ix; omega⟩
/-- one fault changed -/
def pt (E : Nat → Int) (j : Nat) (v : Int) : Nat → Int := fun i => if i = j then v else E i
theorem pt_j {E : Nat → Int} {j : Nat} {v : Int} : pt E j v j = v := if_pos rfl
theorem pt_n {E : Nat → Int} {j i : Nat} {v : Int} (h : i ≠ j) : pt E j v i = E i := if_neg h
theorem pt_low {E : Nat → Int} {j : Nat} {v : Int} : fl (pt E j v) j 0 = fl E j 0 := fl_cg j 0 (fun i _ h => pt_n (by omega))
theorem pt_up {E : Nat → Int} {j n : Nat} {v : Int} : fl (pt E j v) n (j + 1) = fl E n (j + 1) := fl_cg n (j + 1) (fun i h _ => pt_n (by omega))
theorem fl_era {E : Nat → Int} {n j : Nat} (hj : j < n) (h : E j ≠ 0) : fl (pt E j 0) n 0 = (fl E n 0).eraseIdx (ix E j) := by
  rw [fl_at hj, fl_at (E := E) hj, if_neg h, if_pos pt_j, pt_low, pt_up]
  unfold ix
  rw [List.eraseIdx_append_of_length_le (Nat.le_refl _), Nat.sub_self]; rfl
theorem insI {α : Type} (x : α) (r : List α) : ∀ l : List α, (l ++ r).insertIdx l.length x = l ++ x :: r := by
  intro l
  induction l with
  | nil => rfl
  | cons y t ih => simp only [List.cons_append, List.length_cons, List.insertIdx_succ_cons, ih]
theorem modI {α : Type} (f : α → α) (x : α) (r : List α) : ∀ l : List α, (l ++ x :: r).modify l.length f = l ++ f x :: r := by
  intro l
  induction l with
  | nil => rfl
  | cons y t ih => simp only [List.cons_append, List.length_cons, List.modify_succ_cons, ih]
theorem fl_ins {E : Nat → Int} {n j : Nat} {v : Int} (hj : j < n) (h : E j = 0) (hv : v ≠ 0) : fl (pt E j v) n 0 = (fl E n 0).insertIdx (ix E j) (mkF j v) := by
  rw [fl_at hj, fl_at (E := E) hj, if_pos h, if_neg (by rw [pt_j]; exact hv), pt_low, pt_up, pt_j]
  unfold ix
  rw [insI]
theorem fl_mod {E : Nat → Int} {n j : Nat} {v : Int} (hj : j < n) (h : E j ≠ 0) (hv : v ≠ 0) (h2 : j % 3 = 2) : fl (pt E j v) n 0 = (fl E n 0).modify (ix E j) (amtF v) := by
  rw [fl_at hj, fl_at (E := E) hj, if_neg h, if_neg (by rw [pt_j]; exact hv), pt_low, pt_up, pt_j]
  unfold ix
  rw [modI]
  congr 2
  unfold mkF amtF
  rw [if_pos h2]
/-- keys -/
theorem mkF_1 {j : Nat} {v : Int} : (mkF j v).1 = ((j % 3 : Nat) : Int) := rfl
theorem mkF_2 {j : Nat} {v : Int} : (mkF j v).2.1 = ((j / 3 : Nat) : Int) := rfl
theorem fl_mem {E : Nat → Int} {x : hF} : ∀ (n s : Nat), x ∈ fl E n s → ∃ j, s ≤ j ∧ j < s + n ∧ E j ≠ 0 ∧ x = mkF j (E j) := by
  intro n
  induction n with
  | zero => intro s h; simp [fl] at h
  | succ n ih =>
    intro s h
    simp only [fl] at h
    have go : x ∈ fl E n (s + 1) → ∃ j, s ≤ j ∧ j < s + (n + 1) ∧ E j ≠ 0 ∧ x = mkF j (E j) := by
      intro h
      obtain ⟨j, h1, h2, h3, h4⟩ := ih (s + 1) h
      exact ⟨j, by omega, by omega, h3, h4⟩
    split at h
    · exact go h
    · next e =>
      rcases List.mem_cons.mp h with g | g
      · exact ⟨s, Nat.le_refl _, by omega, e, g⟩
      · exact go g
theorem mkF_ok {j : Nat} {v : Int} (hj : j < 360) (h0 : 0 ≤ v) (h1 : v ≤ 20) : okF (mkF j v) := by
  unfold mkF okF
  simp only
  refine ⟨by omega, by omega, by omega, by omega, ?_, ?_⟩ <;> split <;> omega
theorem fl_okF {E : Nat → Int} (hE : eOK E) : ∀ x ∈ fl E 360 0, okF x := by
  intro x hx
  obtain ⟨j, h1, h2, h3, h4⟩ := fl_mem 360 0 hx
  rw [h4]
  have := hE j (by omega)
  exact mkF_ok (by omega) this.1 this.2.1
/-- the place where a fault comes -/
theorem plc_lo {kd nm : Int} {r : List hF} : ∀ (l : List hF) (i p : Nat), (∀ x ∈ l, x.2.1 < nm ∨ (x.2.1 = nm ∧ x.1 < kd)) → p ≤ i → (l = [] → p = i) → plc kd nm (l ++ r) i p = plc kd nm r (i + l.length) (i + l.length) := by
  intro l
  induction l with
  | nil => intro i p _ _ h; simp [h rfl]
  | cons x t ih =>
    intro i p h1 h2 _
    simp only [List.cons_append, plc]
    rw [if_pos (h1 x (by simp)), ih (i + 1) (i + 1) (fun y hy => h1 y (by simp [hy])) (Nat.le_refl _) (fun _ => rfl)]
    simp only [List.length_cons]
    rw [show i + 1 + t.length = i + (t.length + 1) from by omega]
theorem plc_hi {kd nm : Int} : ∀ (l : List hF) (i p : Nat), (∀ x ∈ l, ¬ (x.2.1 < nm ∨ (x.2.1 = nm ∧ x.1 < kd))) → plc kd nm l i p = p := by
  intro l
  induction l with
  | nil => intro i p _; rfl
  | cons x t ih =>
    intro i p h
    simp only [plc]
    rw [if_neg (h x (by simp)), ih _ _ (fun y hy => h y (by simp [hy]))]
theorem fl_plc {E : Nat → Int} {n j : Nat} {kd nm : Int} (hj : j < n) (h1 : kd = (j % 3 : Nat)) (h2 : nm = (j / 3 : Nat)) (h : E j = 0) : plc kd nm (fl E n 0) 0 0 = ix E j := by
  rw [fl_at hj, if_pos h, plc_lo _ 0 0 _ (Nat.le_refl _) (fun _ => rfl), plc_hi]
  · unfold ix; omega
  · intro x hx
    obtain ⟨i, g1, g2, g3, g4⟩ := fl_mem _ _ hx
    rw [g4, mkF_1, mkF_2]; omega
  · intro x hx
    obtain ⟨i, g1, g2, g3, g4⟩ := fl_mem _ _ hx
    rw [g4, mkF_1, mkF_2]; omega
/-- a fault found -/
theorem fnd_no {kd nm : Int} : ∀ (l : List hF) (i : Nat), (∀ x ∈ l, ¬ (x.2.1 = nm ∧ x.1 = kd)) → fnd kd nm l i = -1 := by
  intro l
  induction l with
  | nil => intro i _; rfl
  | cons x t ih =>
    intro i h
    simp only [fnd]
    rw [if_neg (h x (by simp)), ih _ (fun y hy => h y (by simp [hy]))]
theorem fnd_at {kd nm : Int} {x : hF} {r : List hF} (hx : x.2.1 = nm ∧ x.1 = kd) : ∀ (l : List hF) (i : Nat), (∀ y ∈ l, ¬ (y.2.1 = nm ∧ y.1 = kd)) → fnd kd nm (l ++ x :: r) i = ((i + l.length : Nat) : Int) := by
  intro l
  induction l with
  | nil => intro i _; simp only [List.nil_append, fnd]; rw [if_pos hx]; simp
  | cons y t ih =>
    intro i h
    simp only [List.cons_append, fnd]
    rw [if_neg (h y (by simp)), ih _ (fun z hz => h z (by simp [hz]))]
    simp only [List.length_cons]; congr 1; omega
theorem fl_f0 {E : Nat → Int} {n j : Nat} {kd nm : Int} (hj : j < n) (h1 : kd = (j % 3 : Nat)) (h2 : nm = (j / 3 : Nat)) (h : E j = 0) : fnd kd nm (fl E n 0) 0 = -1 := by
  apply fnd_no
  intro x hx
  obtain ⟨i, g1, g2, g3, g4⟩ := fl_mem _ _ hx
  rw [g4, mkF_1, mkF_2]
  rintro ⟨e1, e2⟩
  have : i = j := by omega
  subst this; exact g3 h
theorem fl_f1 {E : Nat → Int} {n j : Nat} {kd nm : Int} (hj : j < n) (h1 : kd = (j % 3 : Nat)) (h2 : nm = (j / 3 : Nat)) (h : E j ≠ 0) : fnd kd nm (fl E n 0) 0 = (ix E j : Nat) := by
  rw [fl_at hj, if_neg h, fnd_at]
  · unfold ix; simp
  · rw [mkF_1, mkF_2]; omega
  · intro x hx
    obtain ⟨i, g1, g2, g3, g4⟩ := fl_mem _ _ hx
    rw [g4, mkF_1, mkF_2]; omega
theorem fl_amt {E : Nat → Int} {o : Nat → Int} {k : Nat} (hk : k < 120) : cAmt (o, fl E 360 0) k = E (3 * k + 2) := by
  unfold cAmt
  by_cases h : E (3 * k + 2) = 0
  · rw [if_pos (fl_f0 (j := 3 * k + 2) (by omega) (by omega) (by omega) h), h]
  · have e := fl_f1 (E := E) (n := 360) (j := 3 * k + 2) (kd := 2) (nm := k) (by omega) (by omega) (by omega) h
    simp only
    rw [e, if_neg (by omega), Int.toNat_natCast, List.getD_eq_getElem?_getD, fl_ix (by omega) h]
    show (if (3 * k + 2) % 3 = 2 then _ else _) = _
    rw [if_pos (by omega)]
theorem fl_d {E : Nat → Int} {k : Nat} (hk : k < 120) : (fnd 0 k (fl E 360 0) 0 = -1) = (E (3 * k) = 0) := by
  apply propext
  by_cases h : E (3 * k) = 0
  · rw [fl_f0 (j := 3 * k) (by omega) (by omega) (by omega) h]; simp [h]
  · rw [fl_f1 (j := 3 * k) (by omega) (by omega) (by omega) h]; simp only [h, iff_false]; omega
theorem fl_t {E : Nat → Int} {k : Nat} (hk : k < 120) : (fnd 1 k (fl E 360 0) 0 = -1) = (E (3 * k + 1) = 0) := by
  apply propext
  by_cases h : E (3 * k + 1) = 0
  · rw [fl_f0 (j := 3 * k + 1) (by omega) (by omega) (by omega) h]; simp [h]
  · rw [fl_f1 (j := 3 * k + 1) (by omega) (by omega) (by omega) h]; simp only [h, iff_false]; omega
theorem fl_any {E : Nat → Int} {j : Nat} (hj : j < 360) : (fnd ((j % 3 : Nat) : Int) ((j / 3 : Nat) : Int) (fl E 360 0) 0 = -1) = (E j = 0) := by
  apply propext
  by_cases h : E j = 0
  · rw [fl_f0 (j := j) hj rfl rfl h]; simp [h]
  · rw [fl_f1 (j := j) hj rfl rfl h]; simp only [h, iff_false]; omega
/-- a part -/
def pE (E : Nat → Int) (b : Nat → Bool) : Nat → Int := fun j => if b (ix E j) = true then E j else 0
theorem fl_prt {E : Nat → Int} {b : Nat → Bool} : ∀ (n s : Nat), fl (pE E b) n s = prt b (fl E n s) (ix E s) := by
  intro n
  induction n with
  | zero => intro s; rfl
  | succ n ih =>
    intro s
    simp only [fl]
    rw [ih (s + 1), ix_s]
    by_cases h : E s = 0
    · have e : pE E b s = 0 := by unfold pE; split <;> simp [h]
      rw [if_pos e, if_pos h, if_pos h]; rfl
    · by_cases g : b (ix E s) = true
      · have e : pE E b s = E s := by unfold pE; rw [if_pos g]
        rw [e, if_neg h, if_neg h, if_neg h]
        simp only [prt]; rw [if_pos g]
      · have e : pE E b s = 0 := by unfold pE; rw [if_neg g]
        rw [if_pos e, if_neg h, if_neg h]
        simp only [prt]; rw [if_neg g]
theorem fl_part {E : Nat → Int} {b : Nat → Bool} : fl (pE E b) 360 0 = prt b (fl E 360 0) 0 := fl_prt 360 0
theorem eOK_pE {E : Nat → Int} {b : Nat → Bool} (h : eOK E) : eOK (pE E b) := by
  intro j hj
  have := h j hj
  unfold pE; split
  · exact this
  · exact ⟨by omega, by omega, fun _ => by omega⟩
theorem eOK_pt {E : Nat → Int} {j : Nat} {v : Int} (h : eOK E) (h0 : 0 ≤ v) (h1 : v ≤ 20) (h2 : j % 3 ≠ 2 → v ≤ 1) : eOK (pt E j v) := by
  intro i hi
  have := h i hi
  unfold pt; split
  · next e => subst e; exact ⟨h0, h1, h2⟩
  · exact this

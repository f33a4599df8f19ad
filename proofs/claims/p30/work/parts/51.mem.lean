/-! THE MEMORY: the heap of the law as integers: I, the words of objects; A, the elements of arrays; V, the references that change (0: whose run the Run plays, 1: whose run the model plays, 2..: the places of the history). Places are counted from the first cell of the law. -/
abbrev hM : Type := (Nat → Nat → Int) × (Nat → Nat → Int) × (Nat → Nat)
def gI (M : hM) (a k : Nat) : Int := M.1 a k
def gA (M : hM) (a k : Nat) : Int := M.2.1 a k
def gV (M : hM) (k : Nat) : Nat := M.2.2 k
def sI (M : hM) (a k : Nat) (v : Int) : hM := (fun b j => if b = a ∧ j = k then v else M.1 b j, M.2)
def sA (M : hM) (a k : Nat) (v : Int) : hM := (M.1, fun b j => if b = a ∧ j = k then v else M.2.1 b j, M.2.2)
def sV (M : hM) (k v : Nat) : hM := (M.1, M.2.1, fun j => if j = k then v else M.2.2 j)
theorem gI_sI {M : hM} {a k b j : Nat} {v : Int} : gI (sI M a k v) b j = if b = a ∧ j = k then v else gI M b j := rfl
theorem gI_sA {M : hM} {a k b j : Nat} {v : Int} : gI (sA M a k v) b j = gI M b j := rfl
theorem gI_sV {M : hM} {k b j v : Nat} : gI (sV M k v) b j = gI M b j := rfl
theorem gA_sI {M : hM} {a k b j : Nat} {v : Int} : gA (sI M a k v) b j = gA M b j := rfl
theorem gA_sA {M : hM} {a k b j : Nat} {v : Int} : gA (sA M a k v) b j = if b = a ∧ j = k then v else gA M b j := rfl
theorem gA_sV {M : hM} {k b j v : Nat} : gA (sV M k v) b j = gA M b j := rfl
theorem gV_sI {M : hM} {a k j : Nat} {v : Int} : gV (sI M a k v) j = gV M j := rfl
theorem gV_sA {M : hM} {a k j : Nat} {v : Int} : gV (sA M a k v) j = gV M j := rfl
theorem gV_sV {M : hM} {k j v : Nat} : gV (sV M k v) j = if j = k then v else gV M j := rfl
/-- what lies where: a class's place, or 10 and the kind of an array, and its length -/
def shL : List (Nat × Nat) := [(6, 0), (0, 0), (10, 8), (10, 10), (10, 10), (10, 10), (5, 0), (10, 9), (0, 0), (10, 8), (10, 10), (10, 10), (10, 10), (5, 0), (10, 9), (4, 0), (2, 0), (10, 120), (10, 120), (10, 120), (10, 120), (10, 120), (10, 226), (10, 226), (10, 226), (10, 240), (1, 0), (10, 240), (5, 0), (10, 9), (0, 0), (10, 8), (10, 10), (10, 10), (10, 10), (5, 0), (10, 9), (3, 0), (10, 500), (0, 0), (10, 8), (10, 10), (10, 10), (10, 10), (5, 0), (10, 9), (14, 10), (0, 0), (10, 8), (10, 10), (10, 10), (10, 10), (5, 0), (10, 9), (0, 0), (10, 8), (10, 10), (10, 10), (10, 10), (5, 0), (10, 9), (0, 0), (10, 8), (10, 10), (10, 10), (10, 10), (5, 0), (10, 9), (0, 0), (10, 8), (10, 10), (10, 10), (10, 10), (5, 0), (10, 9), (0, 0), (10, 8), (10, 10), (10, 10), (10, 10), (5, 0), (10, 9), (0, 0), (10, 8), (10, 10), (10, 10), (10, 10), (5, 0), (10, 9), (0, 0), (10, 8), (10, 10), (10, 10), (10, 10), (5, 0), (10, 9), (0, 0), (10, 8), (10, 10), (10, 10), (10, 10), (5, 0), (10, 9), (0, 0), (10, 8), (10, 10), (10, 10), (10, 10), (5, 0), (10, 9), (0, 0), (10, 8), (10, 10), (10, 10), (10, 10), (5, 0), (10, 9), (14, 2), (0, 0), (10, 8), (10, 10), (10, 10), (10, 10), (5, 0), (10, 9), (0, 0), (10, 8), (10, 10), (10, 10), (10, 10), (5, 0), (10, 9), (12, 2)]
def sh (a : Nat) : Nat × Nat := shL.getD a (99, 0)
theorem sh_lt {a : Nat} (h : (sh a).1 < 50) : a < 133 := by
  rcases Nat.lt_or_ge a 133 with g | g
  · exact g
  · exfalso; unfold sh at h
    rw [List.getD_eq_getElem?_getD, List.getElem?_eq_none (by have : shL.length = 133 := rfl; omega)] at h
    exact absurd h (by decide)
def nfL : List Nat := [6, 8, 11, 10, 15, 1, 8]
def rfL : List (List Nat) := [[1, 8, 15, 37, 46, 5000, 117, 132], [2, 3, 4, 5, 5000, 6], [], [], [], [], [7], [], [9, 10, 11, 12, 5000, 13], [], [], [], [], [14], [], [16, 26, 28, 1000, 5000, 5000, 5000, 5000, 5000, 5000, 5000, 5000, 5000, 5000, 5000], [17, 18, 19, 20, 21, 5000, 22, 23, 24, 25, 5000], [], [], [], [], [], [], [], [], [], [27, 5000, 5000, 5000, 5000, 5000, 5000, 5000], [], [29], [], [31, 32, 33, 34, 5000, 35], [], [], [], [], [36], [], [38, 5000, 5000, 5000, 5000, 5000, 5000, 5000, 5000, 39], [], [40, 41, 42, 43, 5000, 44], [], [], [], [], [45], [], [], [48, 49, 50, 51, 5000, 52], [], [], [], [], [53], [], [55, 56, 57, 58, 5000, 59], [], [], [], [], [60], [], [62, 63, 64, 65, 5000, 66], [], [], [], [], [67], [], [69, 70, 71, 72, 5000, 73], [], [], [], [], [74], [], [76, 77, 78, 79, 5000, 80], [], [], [], [], [81], [], [83, 84, 85, 86, 5000, 87], [], [], [], [], [88], [], [90, 91, 92, 93, 5000, 94], [], [], [], [], [95], [], [97, 98, 99, 100, 5000, 101], [], [], [], [], [102], [], [104, 105, 106, 107, 5000, 108], [], [], [], [], [109], [], [111, 112, 113, 114, 5000, 115], [], [], [], [], [116], [], [], [119, 120, 121, 122, 5000, 123], [], [], [], [], [124], [], [126, 127, 128, 129, 5000, 130], [], [], [], [], [131], [], []]
def rr (a k : Nat) : Nat := (rfL.getD a []).getD k 5000
def fv (z : Nat) (M : hM) (a k : Nat) : Value := if rr a k = 5000 then .int (jI (gI M a k)) else if 1000 ≤ rr a k then .ref (z + gV M (rr a k - 1000)) else .ref (z + rr a k)
def fvs (z : Nat) (M : hM) (a : Nat) : List Value := (List.range (nfL.getD (sh a).1 0)).map (fv z M a)
/-- the law's own objects: class or kind, fields or length, what each field is (0 an int, 1 a reference that changes, -1 is null, 2 null, r + 3 the place r) -/
abbrev hSh : Type := Nat → Nat × Nat × (Nat → Nat)
def hsv (S : hSh) (z : Nat) (M : hM) (a k : Nat) : Value := if (S a).2.2 k = 0 then .int (jI (gI M a k)) else if (S a).2.2 k = 1 then (if gI M a k < 0 then .null else .ref (z + (gI M a k).toNat)) else if (S a).2.2 k = 2 then .null else .ref (z + ((S a).2.2 k - 3))
def hs (S : hSh) (z : Nat) (M : hM) (a : Nat) : Option ac_E :=
  if (S a).1 < 11 then some (.inr ((S a).1, (List.range (S a).2.1).map (hsv S z M a)))
  else if 20 ≤ (S a).1 ∧ (S a).1 < 23 then some (.inl ((S a).1 - 20, (S a).2.1, .inl (fun i => jI (gA M a i))))
  else none
def hc (S : hSh) (z : Nat) (M : hM) (a : Nat) : Option ac_E :=
  if 133 ≤ a then hs S z M a
  else if (sh a).1 < 10 then some (.inr ((sh a).1, fvs z M a))
  else if (sh a).1 < 13 then some (.inl ((sh a).1 - 10, (sh a).2, .inl (fun i => jI (gA M a i))))
  else if (sh a).1 = 14 then some (.inl (4, (sh a).2, .inr (.inr (.inr (.inr (fun i => if i < (sh a).2 then some (z + if a = 46 then gV M (2 + i) else 118 + 7 * i) else none))))))
  else none
def hp (S : hSh) (z : Nat) (M : hM) : ac_H := fun q => if q < z then none else hc S z M (q - z)
variable {S : hSh}
theorem hp_c {z a : Nat} {M : hM} : hp S z M (z + a) = hc S z M a := by unfold hp; rw [if_neg (by omega)]; congr 1; omega
def ckI (a c k : Nat) : Bool := decide ((sh a).1 = c) && decide (c < 10) && decide (k < nfL.getD c 0) && decide (rr a k = 5000)
def ckR (a c k r : Nat) : Bool := decide ((sh a).1 = c) && decide (c < 10) && decide (k < nfL.getD c 0) && decide (rr a k = r) && decide (r < 1000)
def ckV (a c k r : Nat) : Bool := decide ((sh a).1 = c) && decide (c < 10) && decide (k < nfL.getD c 0) && decide (rr a k = 1000 + r) && decide (r < 1000)
def ckO (a c : Nat) : Bool := decide ((sh a).1 = c) && decide (c < 10)
def ckA (a kd n : Nat) : Bool := decide (sh a = (10 + kd, n)) && decide (kd < 3)
theorem fvs_get {z a k : Nat} {M : hM} (h : k < nfL.getD (sh a).1 0) : (fvs z M a)[k]? = some (fv z M a k) := by
  unfold fvs; simp only [List.getElem?_map, List.getElem?_range h, Option.map_some]
theorem fvs_len {z a : Nat} {M : hM} : (fvs z M a).length = nfL.getD (sh a).1 0 := by unfold fvs; simp
theorem fvs_set {z a k : Nat} {M M' : hM} {v : Value} (h1 : fv z M' a k = v) (h2 : ∀ j, j ≠ k → fv z M' a j = fv z M a j) : (fvs z M a).set k v = fvs z M' a := by
  apply List.ext_getElem?
  intro i
  by_cases hi : i < nfL.getD (sh a).1 0
  · rw [fvs_get hi, List.getElem?_set]
    by_cases hk : k = i
    · subst hk; rw [if_pos rfl, if_pos (by rw [fvs_len]; exact hi), h1]
    · rw [if_neg hk, fvs_get hi, h2 i (fun e => hk e.symm)]
  · have l1 : (fvs z M' a)[i]? = none := List.getElem?_eq_none (by rw [fvs_len]; omega)
    have l2 : ((fvs z M a).set k v)[i]? = none := List.getElem?_eq_none (by rw [List.length_set, fvs_len]; omega)
    rw [l1, l2]
theorem hc_o {z a c : Nat} {M : hM} (h : ckO a c = true) : hc S z M a = some (.inr (c, fvs z M a)) := by
  simp [ckO] at h; have hl := sh_lt (a := a) (by omega); unfold hc; rw [if_neg (by omega), if_pos (by omega), h.1]
theorem hc_a {z a kd n : Nat} {M : hM} (h : ckA a kd n = true) : hc S z M a = some (.inl (kd, n, .inl (fun i => jI (gA M a i)))) := by
  simp [ckA] at h; have hl := sh_lt (a := a) (by rw [h.1]; show 10 + kd < 50; omega); unfold hc; rw [if_neg (by omega), h.1]; simp only; rw [if_neg (by omega), if_pos (by omega)]; congr 3; omega
theorem hp_up {z a : Nat} {M M' : hM} {e : ac_E} (h1 : hc S z M' a = some e) (h2 : ∀ b, b ≠ a → hc S z M' b = hc S z M b) : ac_up (hp S z M) (z + a) e = hp S z M' := by
  funext q
  unfold ac_up
  by_cases hq : q = z + a
  · subst hq; rw [if_pos rfl, hp_c, h1]
  · rw [if_neg hq]; unfold hp
    by_cases hz : q < z
    · rw [if_pos hz, if_pos hz]
    · rw [if_neg hz, if_neg hz, h2 _ (by omega)]
theorem hc_cg {z b : Nat} {M M' : hM} (h1 : ∀ k, gI M' b k = gI M b k) (h2 : ∀ k, gA M' b k = gA M b k) (h3 : ∀ k, gV M' k = gV M k) : hc S z M' b = hc S z M b := by
  have e : fvs z M' b = fvs z M b := by
    unfold fvs
    apply List.map_congr_left
    intro k _
    unfold fv; rw [h1, h3]
  have eA : gA M' b = gA M b := funext h2
  have eV : gV M' = gV M := funext h3
  have eh : hs S z M' b = hs S z M b := by
    unfold hs; rw [eA]
    have : (hsv S z M' b) = (hsv S z M b) := by funext k; unfold hsv; rw [h1]
    rw [this]
  unfold hc; rw [e, eA, eV, eh]
theorem ckI_o {a c k : Nat} (h : ckI a c k = true) : ckO a c = true ∧ k < nfL.getD c 0 ∧ k < nfL.getD (sh a).1 0 ∧ rr a k = 5000 := by
  simp only [ckI, Bool.and_eq_true, decide_eq_true_eq] at h
  refine ⟨by simp only [ckO, Bool.and_eq_true, decide_eq_true_eq]; exact h.1.1, h.1.2, ?_, h.2⟩
  rw [h.1.1.1]; exact h.1.2
theorem ckR_o {a c k r : Nat} (h : ckR a c k r = true) : ckO a c = true ∧ k < nfL.getD c 0 ∧ k < nfL.getD (sh a).1 0 ∧ rr a k = r ∧ r < 1000 := by
  simp only [ckR, Bool.and_eq_true, decide_eq_true_eq] at h
  refine ⟨by simp only [ckO, Bool.and_eq_true, decide_eq_true_eq]; exact h.1.1.1, h.1.1.2, ?_, h.1.2, h.2⟩
  rw [h.1.1.1.1]; exact h.1.1.2
theorem ckV_o {a c k r : Nat} (h : ckV a c k r = true) : ckO a c = true ∧ k < nfL.getD c 0 ∧ k < nfL.getD (sh a).1 0 ∧ rr a k = 1000 + r ∧ r < 1000 := by
  simp only [ckV, Bool.and_eq_true, decide_eq_true_eq] at h
  refine ⟨by simp only [ckO, Bool.and_eq_true, decide_eq_true_eq]; exact h.1.1.1, h.1.1.2, ?_, h.1.2, h.2⟩
  rw [h.1.1.1.1]; exact h.1.1.2
theorem hp_gi {α : Type} {z a c k : Nat} {M : hM} {F : Int32 → Option α} (h : ckI a c k = true) : mo_gi (hp S z M) (z + a) c k F = F (jI (gI M a k)) := by
  obtain ⟨h1, h2, h3, h4⟩ := ckI_o h
  unfold mo_gi; rw [hp_c, hc_o h1]; simp only; rw [if_pos trivial, fvs_get h3]; unfold fv; rw [if_pos h4]
theorem hp_gr {α : Type} {z a c k r : Nat} {M : hM} {F : Nat → Option α} (h : ckR a c k r = true) : mo_gr (hp S z M) (z + a) c k F = F (z + r) := by
  obtain ⟨h1, h2, h3, h4, h5⟩ := ckR_o h
  unfold mo_gr; rw [hp_c, hc_o h1]; simp only; rw [if_pos trivial, fvs_get h3]; unfold fv; rw [h4, if_neg (by omega), if_neg (by omega)]
theorem hp_gv {α : Type} {z a c k r : Nat} {M : hM} {F : Nat → Option α} (h : ckV a c k r = true) : mo_gr (hp S z M) (z + a) c k F = F (z + gV M r) := by
  obtain ⟨h1, h2, h3, h4, h5⟩ := ckV_o h
  unfold mo_gr; rw [hp_c, hc_o h1]; simp only; rw [if_pos trivial, fvs_get h3]; unfold fv; rw [h4, if_neg (by omega), if_pos (by omega), Nat.add_sub_cancel_left]
theorem hp_pi {α : Type} {z a c k : Nat} {M : hM} {v : Int} {F : ac_H → Option α} (h : ckI a c k = true) : mo_pv (hp S z M) (z + a) c k (.int (jI v)) F = F (hp S z (sI M a k v)) := by
  obtain ⟨h1, h2, h3, h4⟩ := ckI_o h
  unfold mo_pv; rw [hp_c, hc_o h1]; simp only; rw [if_pos trivial, if_pos (by rw [fvs_len]; exact h3)]
  congr 1
  apply hp_up
  · rw [hc_o h1, fvs_set (M' := sI M a k v)]
    · unfold fv; rw [if_pos h4, gI_sI, if_pos ⟨rfl, rfl⟩]
    · intro j hj
      have e1 : gI (sI M a k v) a j = gI M a j := by rw [gI_sI, if_neg (by rintro ⟨_, e⟩; exact hj e)]
      unfold fv; rw [e1]; rfl
  · intro b hb; apply hc_cg
    · intro j; rw [gI_sI, if_neg (by rintro ⟨e, _⟩; exact hb e)]
    · intro j; rfl
    · intro j; rfl
theorem hp_pr {α : Type} {z a c k r v : Nat} {M : hM} {F : ac_H → Option α} (h : ckV a c k r = true) (hu : ∀ b j, rr b j = 1000 + r → b = a ∧ j = k) (h46 : r < 2) : mo_pv (hp S z M) (z + a) c k (.ref (z + v)) F = F (hp S z (sV M r v)) := by
  obtain ⟨h1, h2, h3, h4, h5⟩ := ckV_o h
  have hne : ∀ b j, ¬ (b = a ∧ j = k) → fv z (sV M r v) b j = fv z M b j := by
    intro b j hbj
    unfold fv
    by_cases hq : rr b j = 5000
    · rw [if_pos hq, if_pos hq]; rfl
    · rw [if_neg hq, if_neg hq]
      by_cases hw : 1000 ≤ rr b j
      · rw [if_pos hw, if_pos hw, gV_sV, if_neg]
        intro e; exact hbj (hu b j (by omega))
      · rw [if_neg hw, if_neg hw]
  unfold mo_pv; rw [hp_c, hc_o h1]; simp only; rw [if_pos trivial, if_pos (by rw [fvs_len]; exact h3)]
  congr 1
  apply hp_up
  · rw [hc_o h1, fvs_set (M' := sV M r v)]
    · unfold fv; rw [h4, if_neg (by omega), if_pos (by omega), Nat.add_sub_cancel_left, gV_sV, if_pos rfl]
    · intro j hj; exact hne a j (by rintro ⟨_, e⟩; exact hj e)
  · intro b hb
    have e : fvs z (sV M r v) b = fvs z M b := by
      unfold fvs; apply List.map_congr_left; intro j _; exact hne b j (by rintro ⟨e, _⟩; exact hb e)
    have eA : gA (sV M r v) b = gA M b := rfl
    have eh : hs S z (sV M r v) b = hs S z M b := rfl
    unfold hc; rw [e, eA, eh]
    have eV : (fun i => if i < (sh b).2 then some (z + if b = 46 then gV (sV M r v) (2 + i) else 118 + 7 * i) else none) = (fun i => if i < (sh b).2 then some (z + if b = 46 then gV M (2 + i) else 118 + 7 * i) else none) := by
      funext i
      have e1 : gV (sV M r v) (2 + i) = gV M (2 + i) := by rw [gV_sV, if_neg (by omega)]
      rw [e1]
    rw [eV]
theorem hp_ai {α : Type} {z a kd n : Nat} {M : hM} {i : Int} {F : Int32 → Option α} (h : ckA a kd n = true) (hn : n ≤ 4000) (h0 : 0 ≤ i) (h1 : i < n) : mo_ai (hp S z M) (z + a) kd (jI i) F = F (jI (gA M a i.toNat)) := by
  unfold mo_ai; rw [hp_c, hc_a h]; simp only; rw [if_pos trivial, jI_ix h0 (by omega), if_neg]
  intro hh; rcases hh with hh | hh
  · exact jI_nonneg h0 (by omega) hh
  · omega
theorem hp_ui {α : Type} {z a kd n : Nat} {M : hM} {i v : Int} {F : ac_H → Option α} (h : ckA a kd n = true) (hn : n ≤ 4000) (h0 : 0 ≤ i) (h1 : i < n) : mo_ui (hp S z M) (z + a) kd (jI i) (jI v) F = F (hp S z (sA M a i.toNat v)) := by
  unfold mo_ui; rw [hp_c, hc_a h]; simp only; rw [if_pos trivial, jI_ix h0 (by omega), if_neg]
  · congr 1
    apply hp_up
    · rw [hc_a h]; congr 5; funext j; unfold upd; rw [gA_sA]; by_cases hj : j = i.toNat
      · rw [if_pos hj, if_pos ⟨rfl, hj⟩]
      · rw [if_neg hj, if_neg (by rintro ⟨_, e⟩; exact hj e)]
    · intro b hb; apply hc_cg
      · intro j; rfl
      · intro j; rw [gA_sA, if_neg (by rintro ⟨e, _⟩; exact hb e)]
      · intro j; rfl
  · intro hh; rcases hh with hh | hh
    · exact jI_nonneg h0 (by omega) hh
    · omega
theorem hp_ln {α : Type} {z a kd n : Nat} {M : hM} {F : Int32 → Option α} (h : ckA a kd n = true) : mo_ln (hp S z M) (z + a) F = F (jI n) := by
  have h' := h
  simp [ckA] at h'
  unfold mo_ln; rw [hp_c, hc_a h]; simp only; rw [if_pos (by omega), jI_nat]
theorem hp_cv {α ρ : Type} {z a c : Nat} {M : hM} {m : Option (ρ × ac_H)} {F : ρ → ac_H → Option α} (h : ckO a c = true) : mo_cv (hp S z M) (z + a) c m F = mo_cs m F := by
  unfold mo_cv; rw [hp_c, hc_o h]; simp only; rw [if_pos trivial]; rfl
theorem hp_xv {ρ' ρ : Type} {z a c : Nat} {M : hM} {m : Option ((String ⊕ ρ) × ac_H)} {F : ρ → ac_H → Option ((String ⊕ ρ') × ac_H)} (h : ckO a c = true) : mo_xv (hp S z M) (z + a) c m F = mo_xs m F := by
  unfold mo_xv; rw [hp_c, hc_o h]; simp only; rw [if_pos trivial]; rfl
theorem mo_cs_s {α ρ : Type} {x : ρ} {σ : ac_H} {F : ρ → ac_H → Option α} : mo_cs (some (x, σ)) F = F x σ := id rfl
theorem mo_xs_r {ρ' ρ : Type} {x : ρ} {σ : ac_H} {F : ρ → ac_H → Option ((String ⊕ ρ') × ac_H)} : mo_xs (some (.inr x, σ)) F = F x σ := id rfl
theorem mo_xs_l {ρ' ρ : Type} {E : String} {σ : ac_H} {F : ρ → ac_H → Option ((String ⊕ ρ') × ac_H)} : mo_xs (some (.inl E, σ)) F = some (.inl E, σ) := id rfl
theorem mo_nl_s {α : Type} {b : Nat} {X : Option α} {F : Nat → Option α} : mo_nl (some b) X F = F b := id rfl
theorem mo_z_0 {α : Type} {X : Option α} : mo_z (jI 0) X = X := by unfold mo_z; exact if_pos (Or.inl rfl)
theorem mo_z_1 {α : Type} {X : Option α} : mo_z (jI 1) X = X := by unfold mo_z; exact if_pos (Or.inr rfl)
theorem hp_aq {α : Type} {z : Nat} {M : hM} {i : Int} {F : Option Nat → Option α} (h0 : 0 ≤ i) (h1 : i < 10) : mo_aq (hp S z M) (z + 46) (jI i) F = F (some (z + gV M (2 + i.toNat))) := by
  unfold mo_aq; rw [hp_c]; show (if _ then _ else _) = _
  rw [if_pos rfl, jI_ix h0 (by omega), if_neg]
  · show F (if i.toNat < 10 then _ else none) = _
    rw [if_pos (by omega)]; rfl
  · intro hh; rcases hh with hh | hh
    · exact jI_nonneg h0 (by omega) hh
    · have : (10 : Nat) ≤ i.toNat := hh
      omega
theorem hp_aq2 {α : Type} {z : Nat} {M : hM} {i : Int} {F : Option Nat → Option α} (h0 : 0 ≤ i) (h1 : i < 2) : mo_aq (hp S z M) (z + 117) (jI i) F = F (some (z + (118 + 7 * i.toNat))) := by
  unfold mo_aq; rw [hp_c]; show (if _ then _ else _) = _
  rw [if_pos rfl, jI_ix h0 (by omega), if_neg]
  · show F (if i.toNat < 2 then _ else none) = _
    rw [if_pos (by omega)]; rfl
  · intro hh; rcases hh with hh | hh
    · exact jI_nonneg h0 (by omega) hh
    · have : (2 : Nat) ≤ i.toNat := hh
      omega
theorem rr_le (b j : Nat) : rr b j ≤ 1001 ∨ rr b j = 5000 := by
  by_cases hb : b < 133
  · have h : ∀ b : Fin 133, ∀ x ∈ rfL.getD b.val [], x ≤ 1001 ∨ x = 5000 := by decide +kernel
    unfold rr
    by_cases hj : j < (rfL.getD b []).length
    · rw [List.getD_eq_getElem?_getD, List.getElem?_eq_getElem hj]; exact h ⟨b, hb⟩ _ (List.getElem_mem hj)
    · rw [List.getD_eq_getElem?_getD, List.getElem?_eq_none (by omega)]; exact Or.inr rfl
  · unfold rr
    have : rfL.getD b [] = [] := by rw [List.getD_eq_getElem?_getD, List.getElem?_eq_none (by have : rfL.length = 133 := rfl; omega)]; rfl
    rw [this]; exact Or.inr rfl
theorem hp_uq {α : Type} {z b : Nat} {M : hM} {i : Int} {F : ac_H → Option α} (hb : ckO b 0 = true) (h0 : 0 ≤ i) (h1 : i < 10) : mo_uq (hp S z M) (z + 46) (jI i) (z + b) F = F (hp S z (sV M (2 + i.toNat) b)) := by
  unfold mo_uq; rw [hp_c, hp_c, hc_o hb]; show (if _ then _ else _) = _
  rw [if_pos ⟨rfl, rfl⟩, jI_ix h0 (by omega), if_neg]
  · congr 1
    apply hp_up
    · show some (Sum.inl (4, 10, Sum.inr (Sum.inr (Sum.inr (Sum.inr (fun j => if j < 10 then some (z + gV (sV M (2 + i.toNat) b) (2 + j)) else none)))))) = _
      refine congrArg (fun f => some (Sum.inl (4, 10, Sum.inr (Sum.inr (Sum.inr (Sum.inr f)))))) ?_
      funext j; unfold va_up; rw [gV_sV]; by_cases hj : j = i.toNat
      · rw [if_pos (show j < 10 by omega), if_pos (by omega), if_pos hj]
      · rw [if_neg (show ¬ 2 + j = 2 + i.toNat by omega), if_neg hj]; rfl
    · intro b' hb'
      have e : fvs z (sV M (2 + i.toNat) b) b' = fvs z M b' := by
        unfold fvs; apply List.map_congr_left; intro j _
        unfold fv
        by_cases hq : rr b' j = 5000
        · rw [if_pos hq, if_pos hq]; rfl
        · rw [if_neg hq, if_neg hq]
          by_cases hw : 1000 ≤ rr b' j
          · rw [if_pos hw, if_pos hw, gV_sV, if_neg]
            have : rr b' j ≤ 1001 ∨ rr b' j = 5000 := rr_le b' j
            omega
          · rw [if_neg hw, if_neg hw]
      have eA : gA (sV M (2 + i.toNat) b) b' = gA M b' := rfl
      have eh : hs S z (sV M (2 + i.toNat) b) b' = hs S z M b' := rfl
      unfold hc; rw [e, eA, eh]
      by_cases h46 : b' = 46
      · exact absurd h46 hb'
      · simp only [if_neg h46]
  · intro hh; rcases hh with hh | hh
    · exact jI_nonneg h0 (by omega) hh
    · have : (10 : Nat) ≤ i.toNat := hh
      omega


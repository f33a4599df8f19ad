variable {S : hSh}
/-! THE BENCH'S TEXT, read back. -/
def At (L : List Int) (p : Nat) (R : List Int) : Prop := L.drop p = R
theorem At.step {L R : List Int} {p : Nat} {l : List Int} (h : At L p (l ++ R)) : At L (p + l.length) R := by
  unfold At at *
  rw [← List.drop_drop, h, List.drop_left]
theorem At.cons {L R : List Int} {p : Nat} {x : Int} (h : At L p (x :: R)) : At L (p + 1) R := At.step (l := [x]) h
theorem At.get {L R : List Int} {p : Nat} {x : Int} (h : At L p (x :: R)) : L[p]? = some x := by
  have := congrArg (fun l => l[0]?) h
  simpa using this
theorem At.ix {L R : List Int} {p j : Nat} (h : At L p R) : L[p + j]? = R[j]? := by
  unfold At at h
  rw [← h, List.getElem?_drop]
theorem At.nil {L : List Int} {p : Nat} (h : At L p []) : L.length ≤ p := List.drop_eq_nil_iff.mp h
theorem tw {P : Int → Bool} : ∀ (l : List Int) (y : Int) (R : List Int), (∀ x ∈ l, P x = true) → P y = false → ((l ++ y :: R).takeWhile P).length = l.length := by
  intro l
  induction l with
  | nil => intro y R _ hy; rw [List.nil_append, List.takeWhile_cons, hy]; rfl
  | cons x t ih =>
    intro y R h hy
    rw [List.cons_append, List.takeWhile_cons, h x (by simp), if_pos rfl, List.length_cons, ih y R (fun z hz => h z (by simp [hz])) hy, List.length_cons]
theorem At.ctw {L : List Int} {p : Nat} {P : Int → Bool} {l : List Int} {y : Int} {R : List Int} (h : At L p (l ++ y :: R)) (h1 : ∀ x ∈ l, P x = true) (h2 : P y = false) : cw P L p = l.length := by
  unfold cw
  rw [show L.drop p = _ from h, tw l y R h1 h2]
theorem At.ct0 {L : List Int} {p : Nat} {P : Int → Bool} {y : Int} {R : List Int} (h : At L p (y :: R)) (h2 : P y = false) : cw P L p = 0 := At.ctw (l := []) h (by simp) h2
/-- perhaps a blank, then something that is none -/
def gp (g : Bool) : List Int := if g = true then [32] else []
theorem At.gap {L : List Int} {p : Nat} {g : Bool} {y : Int} {R : List Int} (h : At L p (gp g ++ y :: R)) (h2 : isGa y = false) : tS L p = p + (gp g).length ∧ At L (tS L p) (y :: R) := by
  have e : tS L p = p + (gp g).length := by
    unfold tS
    rw [At.ctw (P := isGa) h (by intro x hx; cases g <;> simp [gp] at hx; subst hx; rfl) h2]
  exact ⟨e, by rw [e]; exact h.step⟩
/-- a word -/
theorem wB_le : ∀ i, i < 11 → 4 ≤ (wB i).length ∧ (wB i).length ≤ 9 ∧ ∀ x ∈ wB i, isLe x = true ∧ isGa x = false := by decide
theorem wB_ne : ∀ i, i < 11 → ∀ j, j < 11 → i ≠ j → wB i ≠ wB j := by decide
theorem eqW_t {L : List Int} : ∀ (W : List Int32) (s : Nat) (R : List Int), At L s (W.map Int32.toInt ++ R) → eqW L W s = true := by
  intro W
  induction W with
  | nil => intro s R _; rfl
  | cons x t ih =>
    intro s R h
    have h' : At L s (x.toInt :: (t.map Int32.toInt ++ R)) := h
    simp only [eqW, h'.get, decide_true, Bool.true_and]
    exact ih (s + 1) R h'.cons
theorem eqW_f {L : List Int} : ∀ (W : List Int32) (s : Nat), eqW L W s = true → (L.drop s).take W.length = W.map Int32.toInt := by
  intro W
  induction W with
  | nil => intro s _; rfl
  | cons x t ih =>
    intro s h
    simp only [eqW, Bool.and_eq_true, decide_eq_true_eq] at h
    obtain ⟨h1, h2⟩ := h
    obtain ⟨hs, hx⟩ := List.getElem?_eq_some_iff.mp h1
    rw [List.drop_eq_getElem_cons hs, hx, List.length_cons, List.take_succ_cons, ih (s + 1) h2, List.map_cons]
theorem At.word {L : List Int} {p i : Nat} {g : Bool} {y : Int} {R : List Int} (h : At L p (gp g ++ (wB i ++ y :: R))) (hi : i < 11) (hy : isLe y = false) :
    tK L p = 1 ∧ tS L p = p + (gp g).length ∧ tN L p = p + (gp g).length + (wB i).length ∧ At L (tN L p) (y :: R) ∧ ∀ j, j < 11 → wdB L p j = decide (j = i) := by
  obtain ⟨l1, l2, l3⟩ := wB_le i hi
  obtain ⟨x, t, hxt⟩ : ∃ x t, wB i = x :: t := by
    cases hw : wB i with
    | nil => rw [hw] at l1; simp at l1
    | cons x t => exact ⟨x, t, rfl⟩
  have hx := l3 x (by rw [hxt]; simp)
  have hg : At L p (gp g ++ x :: (t ++ y :: R)) := by rw [hxt] at h; exact h
  obtain ⟨s1, s2⟩ := hg.gap hx.2
  have sw : At L (tS L p) (wB i ++ y :: R) := by rw [hxt]; exact s2
  have hc := At.ctw (P := isLe) sw (fun z hz => (l3 z hz).1) hy
  have hK : tK L p = 1 := by
    unfold tK eK
    rw [s2.get]; simp only
    rw [if_pos hx.1, hc, if_neg (by omega)]
  have hN : tN L p = tS L p + (wB i).length := by
    unfold tN eN
    rw [s2.get]; simp only
    rw [if_pos hx.1, hc]
  refine ⟨hK, s1, by rw [hN, s1], by rw [hN]; exact sw.step, ?_⟩
  intro j hj
  unfold wdB
  rw [hK, hN]
  by_cases e : j = i
  · subst e
    rw [eqW_t (L := L) (ac_B j) (tS L p) (y :: R) sw, decide_eq_true ⟨rfl, by rw [wB_len]; omega⟩, decide_eq_true rfl]; rfl
  · rw [decide_eq_false e]
    by_cases hl : (ac_B j).length = (wB i).length
    · cases he : eqW L (ac_B j) (tS L p) with
      | false => rw [Bool.and_false]
      | true =>
        exfalso
        have := eqW_f (ac_B j) (tS L p) he
        rw [show L.drop (tS L p) = _ from sw, hl, List.take_left] at this
        exact wB_ne i hi j hj (fun h => e h.symm) this
    · rw [decide_eq_false (by rintro ⟨_, h⟩; omega)]; rfl
/-- a number -/
theorem dg_di {x : Nat} (hx : x < 100) : ∀ y ∈ dg x, isDi y = true ∧ isLe y = false ∧ isGa y = false := by
  intro y hy
  have : (48 : Int) ≤ y ∧ y ≤ 57 := by
    unfold dg at hy
    split at hy
    · simp only [List.mem_singleton] at hy; omega
    · simp only [List.mem_cons, List.not_mem_nil, or_false] at hy; rcases hy with rfl | rfl <;> omega
  refine ⟨?_, ?_, ?_⟩
  · unfold isDi; exact decide_eq_true this
  · unfold isLe; exact decide_eq_false (by omega)
  · unfold isGa; exact decide_eq_false (by omega)
theorem numV_dg {L R : List Int} {s x : Nat} (hx : x < 100) (h : At L s (dg x ++ R)) : numV L s (dg x).length = x := by
  unfold dg at h ⊢
  split
  · next h10 =>
    rw [if_pos h10] at h
    have e0 : L.getD (s + 0) 0 = ((48 + x : Nat) : Int) := by rw [List.getD_eq_getElem?_getD, h.ix]; rfl
    show 10 * (0 : Int) + L.getD (s + 0) 0 - 48 = x
    rw [e0]; omega
  · next h10 =>
    rw [if_neg h10] at h
    have e0 : L.getD (s + 0) 0 = ((48 + x / 10 : Nat) : Int) := by rw [List.getD_eq_getElem?_getD, h.ix]; rfl
    have e1 : L.getD (s + 1) 0 = ((48 + x % 10 : Nat) : Int) := by rw [List.getD_eq_getElem?_getD, h.ix]; rfl
    show 10 * (10 * (0 : Int) + L.getD (s + 0) 0 - 48) + L.getD (s + 1) 0 - 48 = x
    rw [e0, e1]; omega
theorem At.num {L : List Int} {p x : Nat} {g : Bool} {y : Int} {R : List Int} (h : At L p (gp g ++ (dg x ++ y :: R))) (hx : x < 100) (hy : isDi y = false) :
    tK L p = 2 ∧ nV L p = x ∧ At L (tN L p) (y :: R) := by
  obtain ⟨d, t, hdt⟩ : ∃ d t, dg x = d :: t := by unfold dg; split <;> exact ⟨_, _, rfl⟩
  have hL : (dg x).length ≤ 2 := by rw [dg_len]; split <;> omega
  have hd := dg_di hx d (by rw [hdt]; simp)
  have hg : At L p (gp g ++ d :: (t ++ y :: R)) := by rw [hdt] at h; exact h
  obtain ⟨s1, s2⟩ := hg.gap hd.2.2
  have sw : At L (tS L p) (dg x ++ y :: R) := by rw [hdt]; exact s2
  have hc := At.ctw (P := isDi) sw (fun z hz => (dg_di hx z hz).1) hy
  have hn : ¬ isLe d = true := by rw [hd.2.1]; decide
  have hK : tK L p = 2 := by
    unfold tK eK
    rw [s2.get]; simp only
    rw [if_neg hn, if_pos hd.1, hc, if_neg (by omega)]
  have hN : tN L p = tS L p + (dg x).length := by
    unfold tN eN
    rw [s2.get]; simp only
    rw [if_neg hn, if_pos hd.1, hc]
  refine ⟨hK, ?_, by rw [hN]; exact sw.step⟩
  unfold nV
  rw [hN, Nat.add_sub_cancel_left]
  exact numV_dg hx sw
theorem At.semi {L : List Int} {p : Nat} {R : List Int} (h : At L p (59 :: R)) : tK L p = 3 ∧ At L (tN L p) R := by
  have hg : At L p (gp false ++ 59 :: R) := h
  obtain ⟨s1, s2⟩ := hg.gap (by decide)
  have n1 : ¬ isLe 59 = true := by decide
  have n2 : ¬ isDi 59 = true := by decide
  have hK : tK L p = 3 := by
    unfold tK eK
    rw [s2.get]; simp only
    rw [if_neg n1, if_neg n2, if_pos trivial]
  have hN : tN L p = tS L p + 1 := by
    unfold tN eN
    rw [s2.get]; simp only
    rw [if_neg n1, if_neg n2]
  exact ⟨hK, by rw [hN]; exact s2.cons⟩
/-! the parts of the reading -/
theorem rNum {L : List Int} {p x : Nat} {y lo hi : Int} {R : List Int} (h : At L p (32 :: (dg x ++ y :: R))) (hx : x < 100) (hy : isDi y = false) (h1 : lo ≤ x) (h2 : x ≤ hi) : sNum L lo hi p = .inr (x : Int) ∧ At L (tN L p) (y :: R) := by
  obtain ⟨k1, k2, k3⟩ := At.num (g := true) h hx hy
  unfold sNum
  rw [if_pos k1, k2, if_pos ⟨h1, h2⟩]
  exact ⟨rfl, k3⟩
theorem rSt {L : List Int} {p x : Nat} {k : Int} {c : hCf} {w : Nat → Bool} {y : Int} {R : List Int} (h : At L p (32 :: (dg x ++ y :: R))) (hx : x < 100) (hy : isDi y = false) (h1 : loV k ≤ x) (h2 : x ≤ hiV k) : sSet L k (c, w, p) = .inr (cS c k x, w, tN L p) ∧ At L (tN L p) (y :: R) := by
  obtain ⟨k1, k2⟩ := rNum h hx hy h1 h2
  unfold sSet
  simp only [k1]
  exact ⟨trivial, k2⟩
theorem rSemi {L : List Int} {p : Nat} {c : hCf} {w : Nat → Bool} {R : List Int} (h : At L p (59 :: R)) : sSemi L (c, w, p) = .inr (c, w, tN L p) ∧ At L (tN L p) R := by
  obtain ⟨k1, k2⟩ := h.semi
  unfold sSemi
  rw [if_pos k1]
  exact ⟨rfl, k2⟩
theorem eB_i {s : hP} {f : hP → hE} : eB (.inr s) f = f s := rfl
/-- a statement of one number -/
theorem rOne {L : List Int} {p i k x : Nat} {c : hCf} {w : Nat → Bool} {R : List Int} (h : At L p (wB i ++ 32 :: (dg x ++ 59 :: R))) (hi : i < 11) (hk : (i = 4 ∧ k = 3) ∨ (i = 5 ∧ k = 4) ∨ (i = 7 ∧ k = 7)) (hw : w k = false) (hx : x < 100) (h1 : loV k ≤ x) (h2 : x ≤ hiV k) :
    ∃ p', tK L p = 1 ∧ sStmt L (c, w, p) = .inr (cS c k x, (fun j => if j = k then true else w j), p') ∧ At L p' R := by
  obtain ⟨k1, k2, k3, k4, k5⟩ := At.word (g := false) h hi (by decide)
  obtain ⟨s1, s2⟩ := rSt (k := (k : Int)) (c := c) (w := fun j => if j = k then true else w j) k4 hx (by decide) h1 h2
  obtain ⟨t1, t2⟩ := rSemi (c := cS c k x) (w := fun j => if j = k then true else w j) s2
  refine ⟨_, k1, ?_, t2⟩
  have e : setOf L p = some k := by
    unfold setOf
    rw [k5 4 (by decide), k5 5 (by decide), k5 6 (by decide), k5 7 (by decide)]
    rcases hk with ⟨rfl, rfl⟩ | ⟨rfl, rfl⟩ | ⟨rfl, rfl⟩ <;> rfl
  have h5 : ¬ k = 5 := by omega
  unfold sStmt
  simp only [e, hw]
  rw [if_neg (by decide), s1, eB_i, if_neg h5, t1]
/-- size and its two numbers -/
theorem rTwo {L : List Int} {p x x' : Nat} {c : hCf} {w : Nat → Bool} {R : List Int} (h : At L p (wB 6 ++ 32 :: (dg x ++ 32 :: (dg x' ++ 59 :: R)))) (hw : w 5 = false) (hx : x < 100) (h1 : loV 5 ≤ x) (h2 : x ≤ hiV 5) (hx' : x' < 100) (h1' : loV 6 ≤ x') (h2' : x' ≤ hiV 6) :
    ∃ p', tK L p = 1 ∧ sStmt L (c, w, p) = .inr (cS (cS c 5 x) 6 x', (fun j => if j = 5 then true else w j), p') ∧ At L p' R := by
  obtain ⟨k1, k2, k3, k4, k5⟩ := At.word (g := false) (i := 6) h (by decide) (by decide)
  obtain ⟨s1, s2⟩ := rSt (k := ((5 : Nat) : Int)) (c := c) (w := fun j => if j = 5 then true else w j) k4 hx (by decide) h1 h2
  obtain ⟨s1', s2'⟩ := rSt (k := 6) (c := cS c ((5 : Nat) : Int) x) (w := fun j => if j = 5 then true else w j) s2 hx' (by decide) h1' h2'
  obtain ⟨t1, t2⟩ := rSemi (c := cS (cS c ((5 : Nat) : Int) x) 6 x') (w := fun j => if j = 5 then true else w j) s2'
  refine ⟨_, k1, ?_, t2⟩
  have e : setOf L p = some 5 := by
    unfold setOf
    rw [k5 4 (by decide), k5 5 (by decide), k5 6 (by decide), k5 7 (by decide)]
    rfl
  unfold sStmt
  simp only [e, hw]
  rw [if_neg (by decide), s1, eB_i, if_pos trivial, s1', eB_i, t1]
  rfl
/-- the head -/
theorem rHead {L : List Int} {i x x' : Nat} {R : List Int} (h : At L 0 (wB 0 ++ 32 :: (wB i ++ 32 :: (dg x ++ 32 :: (dg x' ++ 59 :: R))))) (hi : i = 1 ∨ i = 2 ∨ i = 3) (hx : x < 100) (h1 : loV 1 ≤ x) (h2 : x ≤ hiV 1) (hx' : x' < 100) (h1' : loV 2 ≤ x') (h2' : x' ≤ hiV 2) :
    ∃ p', sHead L = .inr (cS (cS (cS c0 0 ((i : Int) - 1)) 1 x) 2 x', (fun _ => false), p') ∧ At L p' R := by
  obtain ⟨k1, k2, k3, k4, k5⟩ := At.word (g := false) (i := 0) h (by decide) (by decide)
  obtain ⟨m1, m2, m3, m4, m5⟩ := At.word (g := true) (i := i) k4 (by omega) (by decide)
  obtain ⟨s1, s2⟩ := rSt (k := 1) (c := cS c0 0 ((i : Int) - 1)) (w := fun _ => false) m4 hx (by decide) h1 h2
  obtain ⟨s1', s2'⟩ := rSt (k := 2) (c := cS (cS c0 0 ((i : Int) - 1)) 1 x) (w := fun _ => false) s2 hx' (by decide) h1' h2'
  obtain ⟨t1, t2⟩ := rSemi (c := cS (cS (cS c0 0 ((i : Int) - 1)) 1 x) 2 x') (w := fun _ => false) s2'
  refine ⟨_, ?_, t2⟩
  have e : prot L (tN L 0) = some ((i : Int) - 1) := by
    unfold prot
    rw [m5 1 (by decide), m5 2 (by decide), m5 3 (by decide)]
    rcases hi with rfl | rfl | rfl <;> rfl
  unfold sHead
  rw [k5 0 (by decide), if_pos (by decide), e]
  simp only
  rw [s1, eB_i, s1', eB_i, t1]
/-! faults -/
def fK (x : Nat × Nat × Nat) : Nat := 3 * x.2.1 + x.1
def fV (x : Nat × Nat × Nat) : Int := if x.1 = 2 then x.2.2 else 1
/-- a fault's statement -/
def fT (x : Nat × Nat × Nat) : List Int := wB (8 + x.1) ++ 32 :: (dg x.2.1 ++ if x.1 = 2 then 32 :: (dg x.2.2 ++ [59]) else [59])
def fT1 (E : Nat → Int) (x : Nat × Nat × Nat) : Prop := x.1 < 3 ∧ x.2.1 < 16 ∧ (x.1 = 2 → 1 ≤ x.2.2 ∧ x.2.2 ≤ 20) ∧ E (fK x) = 0
def fAll (E : Nat → Int) : List (Nat × Nat × Nat) → Prop
  | [] => True
  | x :: t => fT1 E x ∧ fAll (pt E (fK x) (fV x)) t
def fEn (E : Nat → Int) : List (Nat × Nat × Nat) → Nat → Int
  | [] => E
  | x :: t => fEn (pt E (fK x) (fV x)) t
def fTx : List (Nat × Nat × Nat) → List Int
  | [] => []
  | x :: t => fT x ++ fTx t
theorem fV_in {E : Nat → Int} {x : Nat × Nat × Nat} (h : fT1 E x) : 1 ≤ fV x ∧ fV x ≤ 20 ∧ (fK x % 3 ≠ 2 → fV x ≤ 1) ∧ fK x < 48 ∧ fK x % 3 = x.1 ∧ fK x / 3 = x.2.1 := by
  obtain ⟨h1, h2, h3, _⟩ := h
  have e1 : fK x % 3 = x.1 := by unfold fK; omega
  have e2 : fK x / 3 = x.2.1 := by unfold fK; omega
  have e3 : fK x < 48 := by unfold fK; omega
  refine ⟨?_, ?_, ?_, e3, e1, e2⟩
  · unfold fV; split
    · next h => have := h3 h; omega
    · omega
  · unfold fV; split
    · next h => have := h3 h; omega
    · omega
  · intro hh; unfold fV; rw [if_neg (by omega)]; omega
theorem rFlt {L : List Int} {p : Nat} {o : Nat → Int} {E : Nat → Int} {w : Nat → Bool} {R : List Int} {x : Nat × Nat × Nat} (h : At L p (fT x ++ R)) (hx : fT1 E x) (hl : (fl E 360 0).length < 10) :
    ∃ p', tK L p = 1 ∧ sStmt L ((o, fl E 360 0), w, p) = .inr ((o, fl (pt E (fK x) (fV x)) 360 0), w, p') ∧ At L p' R := by
  obtain ⟨v1, v2, v3, v4, v5, v6⟩ := fV_in hx
  obtain ⟨x1, x2, x3, x4⟩ := hx
  obtain ⟨kd, nm, am⟩ := x
  simp only at x1 x2 x3 v5 v6
  have hA : At L p (gp false ++ (wB (8 + kd) ++ 32 :: ((dg nm ++ if kd = 2 then 32 :: (dg am ++ [59]) else [59]) ++ R))) := by
    unfold fT at h
    simp only [List.append_assoc, List.cons_append] at h ⊢
    exact h
  obtain ⟨k1, k2, k3, k4, k5⟩ := At.word (g := false) hA (by omega) (by decide)
  have e : setOf L p = none := by
    unfold setOf
    rw [k5 4 (by decide), k5 5 (by decide), k5 6 (by decide), k5 7 (by decide), if_neg (by simp; omega), if_neg (by simp; omega), if_neg (by simp; omega), if_neg (by simp; omega)]
  have ek : kindOf L p = some (kd : Int) := by
    unfold kindOf
    rw [k5 8 (by decide), k5 9 (by decide), k5 10 (by decide)]
    rcases (show kd = 0 ∨ kd = 1 ∨ kd = 2 by omega) with rfl | rfl | rfl <;> rfl
  have hf : fnd (kd : Int) (nm : Int) (fl E 360 0) 0 = -1 := fl_f0 (n := 360) (j := fK (kd, nm, am)) (by omega) (by rw [v5]) (by rw [v6]) x4
  have hp' : plc (kd : Int) (nm : Int) (fl E 360 0) 0 0 = ix E (fK (kd, nm, am)) := fl_plc (n := 360) (by omega) (by rw [v5]) (by rw [v6]) x4
  have hins := fl_ins (n := 360) (v := fV (kd, nm, am)) (show fK (kd, nm, am) < 360 by omega) x4 (by omega)
  have hmk : mkF (fK (kd, nm, am)) (fV (kd, nm, am)) = ((kd : Int), (nm : Int), if kd = 2 then (am : Int) else 0) := by
    unfold mkF; rw [v5, v6]
    by_cases h2 : kd = 2
    · rw [if_pos h2, if_pos h2]; unfold fV; simp only; rw [if_pos h2]
    · rw [if_neg h2, if_neg h2]
  by_cases h2 : kd = 2
  · rw [if_pos h2] at k4
    have k4' : At L (tN L p) (32 :: (dg nm ++ 32 :: (dg am ++ 59 :: R))) := by
      simp only [List.append_assoc, List.cons_append, List.nil_append] at k4; exact k4
    obtain ⟨n1, n2⟩ := rNum (lo := 0) (hi := 119) k4' (by omega) (by decide) (by omega) (by omega)
    obtain ⟨a1, a2⟩ := rNum (lo := 1) (hi := 20) n2 (by have := x3 h2; omega) (by decide) (by have := x3 h2; omega) (by have := x3 h2; omega)
    obtain ⟨t1, t2⟩ := rSemi (c := (o, fl (pt E (fK (kd, nm, am)) (fV (kd, nm, am))) 360 0)) (w := w) a2
    refine ⟨_, k1, ?_, t2⟩
    unfold sStmt
    simp only [e]
    unfold sFault
    simp only [ek]
    rw [if_pos hl, n1]
    simp only
    rw [if_pos hf]
    unfold sAmt
    rw [if_pos (by omega)]
    simp only [a1]
    unfold cI
    simp only [hp']
    rw [show ((kd : Int), (nm : Int), (am : Int)) = mkF (fK (kd, nm, am)) (fV (kd, nm, am)) by rw [hmk, if_pos h2], ← hins, eB_i, t1]
  · rw [if_neg h2] at k4
    have k4' : At L (tN L p) (32 :: (dg nm ++ 59 :: R)) := by
      simp only [List.append_assoc, List.cons_append, List.nil_append] at k4; exact k4
    obtain ⟨n1, n2⟩ := rNum (lo := 0) (hi := 119) k4' (by omega) (by decide) (by omega) (by omega)
    obtain ⟨t1, t2⟩ := rSemi (c := (o, fl (pt E (fK (kd, nm, am)) (fV (kd, nm, am))) 360 0)) (w := w) n2
    refine ⟨_, k1, ?_, t2⟩
    unfold sStmt
    simp only [e]
    unfold sFault
    simp only [ek]
    rw [if_pos hl, n1]
    simp only
    rw [if_pos hf]
    unfold sAmt
    rw [if_neg (by omega)]
    unfold cI
    simp only [hp']
    rw [show ((kd : Int), (nm : Int), (0 : Int)) = mkF (fK (kd, nm, am)) (fV (kd, nm, am)) by rw [hmk, if_neg h2], ← hins, eB_i, t1]
theorem sLp_s {L : List Int} {n p : Nat} {c : hCf} {w : Nat → Bool} (h : tK L p = 1) : sLoop L (n + 1) (c, w, p) = eB (sStmt L (c, w, p)) (sLoop L n) := by
  show (if tK L p = 0 then _ else _) = _
  rw [if_neg (by rw [h]; decide)]
theorem sLp_e {L : List Int} {n p : Nat} {c : hCf} {w : Nat → Bool} (h : At L p []) : sLoop L (n + 1) (c, w, p) = .inr (c, w, p) := by
  show (if tK L p = 0 then _ else _) = _
  rw [if_pos (tK_end h.nil)]
theorem fl_insl {E : Nat → Int} {j : Nat} {v : Int} (hj : j < 360) (h : E j = 0) (hv : v ≠ 0) : (fl (pt E j v) 360 0).length = (fl E 360 0).length + 1 := by
  rw [fl_ins hj h hv, List.length_insertIdx]
  rw [if_pos]
  have := ix_mono (E := E) (i := j) (360 - j)
  rw [show j + (360 - j) = 360 by omega] at this
  exact this
theorem rFlts {L : List Int} {o : Nat → Int} {w : Nat → Bool} : ∀ (fs : List (Nat × Nat × Nat)) (E : Nat → Int) (p n : Nat), fAll E fs → At L p (fTx fs) → fs.length < n → (fl E 360 0).length + fs.length ≤ 10 →
    ∃ p', sLoop L n ((o, fl E 360 0), w, p) = .inr ((o, fl (fEn E fs) 360 0), w, p') := by
  intro fs
  induction fs with
  | nil =>
    intro E p n _ hA hn _
    obtain ⟨n, rfl⟩ : ∃ m, n = m + 1 := ⟨n - 1, by omega⟩
    exact ⟨p, sLp_e hA⟩
  | cons x t ih =>
    intro E p n hf hA hn hl
    obtain ⟨n, rfl⟩ : ∃ m, n = m + 1 := ⟨n - 1, by omega⟩
    obtain ⟨h1, h2⟩ := hf
    obtain ⟨v1, v2, v3, v4, v5, v6⟩ := fV_in h1
    simp only [List.length_cons] at hl hn
    obtain ⟨p1, r1, r2, r3⟩ := rFlt (o := o) (w := w) (R := fTx t) hA h1 (by omega)
    have hl' := fl_insl (E := E) (j := fK x) (v := fV x) (by omega) h1.2.2.2 (by omega)
    obtain ⟨p2, q1⟩ := ih _ p1 n h2 r3 (by omega) (by omega)
    refine ⟨p2, ?_⟩
    rw [sLp_s r1, r2, eB_i, q1]
    rfl
/-- the text of a bench -/
def bT0 (o : Nat → Nat) (fs : List (Nat × Nat × Nat)) : List Int := wB 0 ++ 32 :: (wB (o 0 + 1) ++ 32 :: (dg (o 1) ++ 32 :: (dg (o 2) ++ 59 :: (wB 4 ++ 32 :: (dg (o 3) ++ 59 :: (wB 5 ++ 32 :: (dg (o 4) ++ 59 :: (wB 6 ++ 32 :: (dg (o 5) ++ 32 :: (dg (o 6) ++ 59 :: (wB 7 ++ 32 :: (dg (o 7) ++ 59 :: fTx fs))))))))))))
def oR (o : Nat → Nat) : Prop := o 0 < 3 ∧ ∀ k, k < 8 → o k < 100 ∧ loV k ≤ o k ∧ (o k : Int) ≤ hiV k
theorem fl_0 : ∀ (n s : Nat), fl (fun _ => 0) n s = [] := by
  intro n
  induction n with
  | zero => intro s; rfl
  | succ n ih => intro s; show (if (0 : Int) = 0 then _ else _) = _; rw [if_pos rfl]; exact ih (s + 1)
theorem rBench {o : Nat → Nat} {fs : List (Nat × Nat × Nat)} (ho : oR o) (hf : fAll (fun _ => 0) fs) (hl : fs.length ≤ 4) : ∃ w p' o', sParse (bT0 o fs) = .inr ((o', fl (fEn (fun _ => 0) fs) 360 0), w, p') ∧ ∀ k, k < 8 → o' k = o k := by
  obtain ⟨h0, hk⟩ := ho
  have b1 := hk 1 (by decide)
  have b2 := hk 2 (by decide)
  have b3 := hk 3 (by decide)
  have b4 := hk 4 (by decide)
  have b5 := hk 5 (by decide)
  have b6 := hk 6 (by decide)
  have b7 := hk 7 (by decide)
  have hA : At (bT0 o fs) 0 (bT0 o fs) := rfl
  obtain ⟨p1, r1, a1⟩ := rHead (i := o 0 + 1) hA (by omega) b1.1 b1.2.1 b1.2.2 b2.1 b2.2.1 b2.2.2
  obtain ⟨p2, k2, r2, a2⟩ := rOne (i := 4) (k := 3) (w := fun _ => false) (c := cS (cS (cS c0 0 (((o 0 + 1 : Nat) : Int) - 1)) 1 (o 1)) 2 (o 2)) a1 (by decide) (by decide) rfl b3.1 b3.2.1 b3.2.2
  obtain ⟨p3, k3, r3, a3⟩ := rOne (i := 5) (k := 4) (w := fun j => if j = 3 then true else (fun _ => false) j) (c := cS (cS (cS (cS c0 0 (((o 0 + 1 : Nat) : Int) - 1)) 1 (o 1)) 2 (o 2)) ((3 : Nat) : Int) (o 3)) a2 (by decide) (by decide) rfl b4.1 b4.2.1 b4.2.2
  obtain ⟨p4, k4, r4, a4⟩ := rTwo (w := fun j => if j = 4 then true else (fun j => if j = 3 then true else (fun _ => false) j) j) (c := cS (cS (cS (cS (cS c0 0 (((o 0 + 1 : Nat) : Int) - 1)) 1 (o 1)) 2 (o 2)) ((3 : Nat) : Int) (o 3)) ((4 : Nat) : Int) (o 4)) a3 rfl b5.1 b5.2.1 b5.2.2 b6.1 b6.2.1 b6.2.2
  obtain ⟨p5, k5, r5, a5⟩ := rOne (i := 7) (k := 7) (w := fun j => if j = 5 then true else (fun j => if j = 4 then true else (fun j => if j = 3 then true else (fun _ => false) j) j) j) (c := cS (cS (cS (cS (cS (cS (cS c0 0 (((o 0 + 1 : Nat) : Int) - 1)) 1 (o 1)) 2 (o 2)) ((3 : Nat) : Int) (o 3)) ((4 : Nat) : Int) (o 4)) 5 (o 5)) 6 (o 6)) a4 (by decide) (by decide) rfl b7.1 b7.2.1 b7.2.2
  obtain ⟨p6, r6⟩ := rFlts (o := (cS (cS (cS (cS (cS (cS (cS (cS c0 0 (((o 0 + 1 : Nat) : Int) - 1)) 1 (o 1)) 2 (o 2)) ((3 : Nat) : Int) (o 3)) ((4 : Nat) : Int) (o 4)) 5 (o 5)) 6 (o 6)) ((7 : Nat) : Int) (o 7)).1) (w := fun j => if j = 7 then true else (fun j => if j = 5 then true else (fun j => if j = 4 then true else (fun j => if j = 3 then true else (fun _ => false) j) j) j) j) fs (fun _ => 0) p5 497 hf a5 (by omega) (by rw [fl_0]; simp; omega)
  rw [fl_0] at r6
  refine ⟨fun j => if j = 7 then true else (fun j => if j = 5 then true else (fun j => if j = 4 then true else (fun j => if j = 3 then true else (fun _ => false) j) j) j) j, p6, (cS (cS (cS (cS (cS (cS (cS (cS c0 0 (((o 0 + 1 : Nat) : Int) - 1)) 1 (o 1)) 2 (o 2)) ((3 : Nat) : Int) (o 3)) ((4 : Nat) : Int) (o 4)) 5 (o 5)) 6 (o 6)) ((7 : Nat) : Int) (o 7)).1, ?_, ?_⟩
  · unfold sParse
    rw [r1, eB_i, show (501 : Nat) = 500 + 1 from rfl, sLp_s k2, r2, eB_i, show (500 : Nat) = 499 + 1 from rfl, sLp_s k3, r3, eB_i, show (499 : Nat) = 498 + 1 from rfl, sLp_s k4, r4, eB_i, show (498 : Nat) = 497 + 1 from rfl, sLp_s k5, r5, eB_i]
    exact r6
  · intro k hk'
    rcases (show k = 0 ∨ k = 1 ∨ k = 2 ∨ k = 3 ∨ k = 4 ∨ k = 5 ∨ k = 6 ∨ k = 7 by omega) with rfl | rfl | rfl | rfl | rfl | rfl | rfl | rfl
    · show ((o 0 + 1 : Nat) : Int) - 1 = o 0; omega
    · rfl
    · rfl
    · rfl
    · rfl
    · rfl
    · rfl
    · rfl

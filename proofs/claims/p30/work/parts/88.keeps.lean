variable {S : hSh}
/-! THE LAW'S STATE: what changes can change, the changes that can be undone, snapshots, the input, the error. -/
abbrev hU : Type := hCf × (Nat → Nat)
abbrev hQ : Type := hU × List hU × (Nat → Option hU) × List Int × Int
def okU (u : hU) : Prop := okC u.1 ∧ ∀ k, k < 9 → u.2 k < 65536
def okQ (q : hQ) : Prop := okU q.1 ∧ (∀ u ∈ q.2.1, okU u) ∧ q.2.1.length ≤ 10 ∧ (∀ i u, i < 2 → q.2.2.1 i = some u → okU u) ∧ q.2.2.2.1.length ≤ 500 ∧ (∀ v ∈ q.2.2.2.1, 0 ≤ v ∧ v ≤ 255) ∧ -1 ≤ q.2.2.2.2 ∧ q.2.2.2.2 ≤ 500
def UB (M : hM) (b : Nat) (u : hU) : Prop := BR M b u.1 ∧ RS M (b + 5) u.2
theorem UB.cg {M M' : hM} {b : Nat} {u : hU} (h : UB M b u) (e : ∀ a, b ≤ a → a < b + 7 → (∀ k, gI M' a k = gI M a k) ∧ ∀ k, gA M' a k = gA M a k) : UB M' b u :=
  ⟨h.1.cg (fun a h1 h2 => e a h1 (by omega)), fun k hk => by rw [(e (b + 5 + 1) (by omega) (by omega)).2]; exact h.2 k hk⟩
theorem UB.keep {M M' : hM} {b lo hi : Nat} {u : hU} (h : UB M b u) (hf : Fr lo hi M M') (hd : b + 7 ≤ lo ∨ hi ≤ b) : UB M' b u := h.cg (fun a h1 h2 => hf a (by omega))
/-- the changes that can be undone: of the class -/
def HC (M : hM) (h : List hU) : Prop := gI M 0 5 = h.length ∧ (∀ i, i < 10 → ∃ k, k < 10 ∧ gV M (2 + i) = 47 + 7 * k) ∧ (∀ i j, i < 10 → j < 10 → gV M (2 + i) = gV M (2 + j) → i = j) ∧ ∀ i u, h[i]? = some u → UB M (gV M (2 + i)) u
/-- the snapshots -/
def SC (M : hM) (s : Nat → Option hU) : Prop := ∀ i, i < 2 → gA M 132 i = b2i (s i).isSome ∧ ∀ u, s i = some u → UB M (118 + 7 * i) u
/-- the input, the error's position -/
def RC (M : hM) (r : List Int × Int) : Prop := gI M 37 1 = r.1.length ∧ (∀ i v, r.1[i]? = some v → gA M 38 i = v) ∧ gI M 37 8 = r.2
def sby (v : Int) : Int := if v < 128 then v else v - 256
def CI (M : hM) (q : hQ) : Prop := UB M 1 q.1 ∧ HC M q.2.1 ∧ SC M q.2.2.1 ∧ RC M q.2.2.2
/-- what one side leaves of the other -/
def KM (M M' : hM) : Prop := ∀ a, 133 ≤ a → (∀ k, gI M' a k = gI M a k) ∧ ∀ k, gA M' a k = gA M a k
theorem KM.rfl' {M : hM} : KM M M := fun _ _ => ⟨fun _ => rfl, fun _ => rfl⟩
theorem KM.trans {M M' M'' : hM} (h : KM M M') (h' : KM M' M'') : KM M M'' := fun a ha => ⟨fun k => ((h' a ha).1 k).trans ((h a ha).1 k), fun k => ((h' a ha).2 k).trans ((h a ha).2 k)⟩
theorem HC.cg {M M' : hM} {h : List hU} (hh : HC M h) (hl : h.length ≤ 10) (e0 : gI M' 0 5 = gI M 0 5) (e : ∀ a, 47 ≤ a → a < 117 → (∀ k, gI M' a k = gI M a k) ∧ ∀ k, gA M' a k = gA M a k) (ev : ∀ k, 2 ≤ k → k < 12 → gV M' k = gV M k) : HC M' h := by
  refine ⟨e0.trans hh.1, fun i hi => ?_, fun i j hi hj hij => ?_, fun i u hu => ?_⟩
  · obtain ⟨k, h1, h2⟩ := hh.2.1 i hi
    exact ⟨k, h1, (ev _ (by omega) (by omega)).trans h2⟩
  · rw [ev _ (by omega) (by omega), ev _ (by omega) (by omega)] at hij
    exact hh.2.2.1 i j hi hj hij
  · have hi : i < h.length := (List.getElem?_eq_some_iff.mp hu).1
    obtain ⟨k, h1, h2⟩ := hh.2.1 i (by omega)
    rw [ev _ (by omega) (by omega)]
    exact (hh.2.2.2 i u hu).cg (fun a g1 g2 => e a (by omega) (by omega))
theorem SC.cg {M M' : hM} {s : Nat → Option hU} (h : SC M s) (e : ∀ a, 118 ≤ a → a < 133 → (∀ k, gI M' a k = gI M a k) ∧ ∀ k, gA M' a k = gA M a k) : SC M' s :=
  fun i hi => ⟨by rw [(e 132 (by omega) (by omega)).2]; exact (h i hi).1, fun u hu => ((h i hi).2 u hu).cg (fun a g1 g2 => e a (by omega) (by omega))⟩
theorem RC.cg {M M' : hM} {r : List Int × Int} (h : RC M r) (e : ∀ a, a = 37 ∨ a = 38 → (∀ k, gI M' a k = gI M a k) ∧ ∀ k, gA M' a k = gA M a k) : RC M' r :=
  ⟨by rw [(e 37 (by omega)).1]; exact h.1, fun i v hv => by rw [(e 38 (by omega)).2]; exact h.2.1 i v hv, by rw [(e 37 (by omega)).1]; exact h.2.2⟩
theorem FD.ci {M M' : hM} {q : hQ} (f : FD M M') (h : CI M q) (ho : okQ q) : CI M' q :=
  ⟨h.1.cg (fun a _ _ => f.1 a (by omega)), h.2.1.cg ho.2.2.1 ((f.1 0 (by omega)).1 5) (fun a _ _ => f.1 a (by omega)) (fun j h1 _ => f.2 j (by omega)), h.2.2.1.cg (fun a _ _ => f.1 a (by omega)), h.2.2.2.cg (fun a _ => f.1 a (by omega))⟩
theorem FD.km {M M' : hM} (f : FD M M') : KM M M' := fun a ha => f.1 a (by omega)
/-! a change is kept -/
def keepsV (h : List hU) (u : hU) : List hU := (if h.length = 10 then h.tail else h) ++ [u]
/-- what keeping leaves as it was -/
def FH (M M' : hM) : Prop := (∀ a, a < 47 ∨ 117 ≤ a → (∀ k, a ≠ 0 ∨ k ≠ 5 → gI M' a k = gI M a k) ∧ ∀ k, gA M' a k = gA M a k) ∧ ∀ k, k < 2 ∨ 12 ≤ k → gV M' k = gV M k
theorem FH.trans {M M' M'' : hM} (h : FH M M') (h' : FH M' M'') : FH M M'' := ⟨fun a ha => ⟨fun k hk => ((h'.1 a ha).1 k hk).trans ((h.1 a ha).1 k hk), fun k => ((h'.1 a ha).2 k).trans ((h.1 a ha).2 k)⟩, fun k hk => (h'.2 k hk).trans (h.2 k hk)⟩
theorem isB_h {k : Nat} (h : k < 10) : isB (47 + 7 * k) = true := by
  have : ∀ x : Fin 10, isB (47 + 7 * x.val) = true := by decide
  exact this ⟨k, h⟩
theorem X6_r58 {z n : Nat} {M : hM} {h : List hU} {u : hU} (hH : HC M h) (hn : h.length = n) (hn9 : n < 10) (hu : UB M 1 u) (ho : okU u) :
    ∃ M', m_X6_remember_j58 z (hp S z M) = some ((), hp S z M') ∧ HC M' (h ++ [u]) ∧ FH M M' := by
  obtain ⟨k, hk, hV⟩ := hH.2.1 n hn9
  have hb : isB (47 + 7 * k) = true := isB_h hk
  obtain ⟨M1, r1, r2, r3, r4, r5⟩ := X0_ta (S := S) (z := z) (a := 1) (b := 47 + 7 * k) rfl hb (by omega) hu.1 hu.2 ho.1
  have e0 : gI M 0 5 = (n : Int) := by rw [hH.1, hn]
  have e1 : gI M1 0 5 = (n : Int) := by rw [(r4 0 (by omega)).1, e0]
  have n0 : ¬ (n : Int) < 0 := by omega
  refine ⟨sI M1 0 5 (n + 1), ?_, ⟨?_, fun i hi => ?_, fun i j hi hj hij => ?_, fun i v hv => ?_⟩, ⟨fun a ha => ⟨fun j hj => ?_, fun j => ?_⟩, fun j _ => ?_⟩⟩
  · unfold m_X6_remember_j58
    simp (disch := omega) only [ji1, ji2, ji3, ji4, ji5, ji6, ji7, ji8, ji9, ji10, ji11, ji12, ji13, ji14, ji15, ji16, ji19, ji20, ji24, ji31, ji32, ji39, ji45, ji48, ji57, ji58, ji59, ji60, ji97, ji100, ji119, ji120, ji122, ji144, ji200, ji226, ji240, ji255, ji300, ji366, ji400, ji500, ji1000, jI_z, ↓jI_m1, jI_add, jI_sub, jI_mul, jI_lt, ↓hg0_0, ↓hg0_1, ↓hg0_2, ↓hg0_3, ↓hg0_4, ↓hg0_5, hw0_5, ↓hg0_6, ↓hg0_7, ↓hv0, ↓hx0, ha132, hu132, ↓hl132, e0, n0, if_false, hp_aq, Int.toNat_natCast, hV, ↓mo_ns_r, ↓hn0, ↓mo_cs_s, ↓mo_xs_r, ↓mo_xs_l, ↓mo_nl_s, mo_z_0, mo_z_1, ↓Bv hb]
    rw [r1]
    simp (disch := omega) only [ji1, ji2, ji3, ji4, ji5, ji6, ji7, ji8, ji9, ji10, ji11, ji12, ji13, ji14, ji15, ji16, ji19, ji20, ji24, ji31, ji32, ji39, ji45, ji48, ji57, ji58, ji59, ji60, ji97, ji100, ji119, ji120, ji122, ji144, ji200, ji226, ji240, ji255, ji300, ji366, ji400, ji500, ji1000, jI_z, ↓jI_m1, jI_add, jI_sub, jI_mul, ↓mo_ns_r, ↓hn0, ↓mo_cs_s, ↓mo_xs_r, ↓mo_xs_l, ↓mo_nl_s, mo_z_0, mo_z_1, ↓hg0_0, ↓hg0_1, ↓hg0_2, ↓hg0_3, ↓hg0_4, ↓hg0_5, hw0_5, ↓hg0_6, ↓hg0_7, ↓hv0, ↓hx0, ha132, hu132, ↓hl132, e1]
  · rw [gI_sI, if_pos ⟨rfl, rfl⟩, List.length_append, hn]; rfl
  · rw [gV_sI, r5]; exact hH.2.1 i hi
  · rw [gV_sI, gV_sI, r5, r5] at hij; exact hH.2.2.1 i j hi hj hij
  · rw [gV_sI, r5]
    by_cases hin : i < n
    · rw [List.getElem?_append_left (by omega)] at hv
      obtain ⟨k', hk', hV'⟩ := hH.2.1 i (by omega)
      have hne : 47 + 7 * k ≠ 47 + 7 * k' := by
        intro e
        have := hH.2.2.1 n i hn9 (by omega) (by rw [hV, hV', e])
        omega
      have hfar := isB_far hb (isB_h hk') hne
      have h0 := hH.2.2.2 i v hv
      rw [hV'] at h0 ⊢
      exact h0.cg (fun a g1 g2 => ⟨fun j => by rw [gI_sI, if_neg (by omega), (r4 a (by omega)).1], fun j => by rw [gA_sI, (r4 a (by omega)).2]⟩)
    · have : i < (h ++ [u]).length := (List.getElem?_eq_some_iff.mp hv).1
      have hin' : i = n := by simp at this; omega
      subst hin'
      rw [List.getElem?_append_right (by omega), hn, Nat.sub_self] at hv
      simp at hv; subst hv
      rw [hV]
      have hx : UB M1 (47 + 7 * k) u := ⟨r2, r3⟩
      exact hx.cg (fun a g1 g2 => ⟨fun j => by rw [gI_sI, if_neg (by omega)], fun j => by rw [gA_sI]⟩)
  · rw [gI_sI, if_neg (by omega), (r4 a (by omega)).1]
  · rw [gA_sI, (r4 a (by omega)).2]
  · rw [gV_sI, r5]
theorem X6_r18 {z : Nat} {M0 : hM} (hV : ∀ i, i < 10 → ∃ k, k < 10 ∧ gV M0 (2 + i) = 47 + 7 * k) : ∀ (d j f : Nat) (M : hM), j + d = 10 → 1 ≤ j → d < f → (∀ a k, gI M a k = gI M0 a k) → (∀ a k, gA M a k = gA M0 a k) → (∀ k, k < 2 ∨ 12 ≤ k → gV M k = gV M0 k) → (∀ i, i < 10 → gV M (2 + i) = gV M0 (2 + (if i + 1 < j then i + 1 else i))) →
    ∃ M', m_X6_remember_l18 z f (hp S z M) (some (z + gV M0 2)) (jI j) = m_X6_remember_j58 z (hp S z (sI M' 0 5 9)) ∧ (∀ a k, gI M' a k = gI M0 a k) ∧ (∀ a k, gA M' a k = gA M0 a k) ∧ (∀ k, k < 2 ∨ 12 ≤ k → gV M' k = gV M0 k) ∧ (∀ i, i < 9 → gV M' (2 + i) = gV M0 (2 + (i + 1))) ∧ gV M' 11 = gV M0 2 := by
  intro d
  induction d with
  | zero =>
    intro j f M hj h1 hf hI hA hv hW
    obtain ⟨f, rfl⟩ : ∃ g, f = g + 1 := ⟨f - 1, by omega⟩
    obtain ⟨k, hk, hk'⟩ := hV 0 (by omega)
    have hb0 : ckO (gV M0 2) 0 = true := by rw [show gV M0 2 = 47 + 7 * k from hk']; exact B_o (isB_h hk)
    have hj10 : j = 10 := by omega
    subst hj10
    refine ⟨sV M 11 (gV M0 2), ?_, fun a k => hI a k, fun a k => hA a k, fun k hk => ?_, fun i hi => ?_, ?_⟩
    · have g : ¬ ((10 : Nat) : Int) < 10 := by omega
      unfold m_X6_remember_l18
      simp (disch := omega) only [ji1, ji2, ji3, ji4, ji5, ji6, ji7, ji8, ji9, ji10, ji11, ji12, ji13, ji14, ji15, ji16, ji19, ji20, ji24, ji31, ji32, ji39, ji45, ji48, ji57, ji58, ji59, ji60, ji97, ji100, ji119, ji120, ji122, ji144, ji200, ji226, ji240, ji255, ji300, ji366, ji400, ji500, ji1000, jI_z, ↓jI_m1, jI_add, jI_sub, jI_mul, jI_lt, ↓hg0_0, ↓hg0_1, ↓hg0_2, ↓hg0_3, ↓hg0_4, ↓hg0_5, hw0_5, ↓hg0_6, ↓hg0_7, ↓hv0, ↓hx0, ha132, hu132, ↓hl132, g, if_false, ↓mo_ns_r, ↓hn0, ↓mo_cs_s, ↓mo_xs_r, ↓mo_xs_l, ↓mo_nl_s, mo_z_0, mo_z_1, hp_uq hb0]
      rfl
    · rw [gV_sV, if_neg (by omega)]; exact hv k hk
    · rw [gV_sV, if_neg (by omega), hW i (by omega), if_pos (by omega)]
    · rw [gV_sV, if_pos rfl]
  | succ d ih =>
    intro j f M hj h1 hf hI hA hv hW
    obtain ⟨f, rfl⟩ : ∃ g, f = g + 1 := ⟨f - 1, by omega⟩
    obtain ⟨k, hk, hk'⟩ := hV j (by omega)
    have hbj : ckO (gV M0 (2 + j)) 0 = true := by rw [hk']; exact B_o (isB_h hk)
    have ej : gV M (2 + j) = gV M0 (2 + j) := by rw [hW j (by omega), if_neg (by omega)]
    obtain ⟨M', r1, r2⟩ := ih (j + 1) f (sV M (2 + (j - 1)) (gV M0 (2 + j))) (by omega) (by omega) (by omega) (fun a k => hI a k) (fun a k => hA a k) (fun k hk => by rw [gV_sV, if_neg (by omega)]; exact hv k hk) (fun i hi => by
      rw [gV_sV]
      by_cases e : i = j - 1
      · rw [if_pos (by omega), if_pos (by omega)]; congr 2; omega
      · rw [if_neg (by omega), hW i hi]
        by_cases e2 : i + 1 < j
        · rw [if_pos e2, if_pos (by omega)]
        · rw [if_neg e2, if_neg (by omega)])
    refine ⟨M', ?_, r2⟩
    rw [← r1]
    have g : (j : Int) < 10 := by omega
    have ek : (j : Int) + 1 = ((j + 1 : Nat) : Int) := by omega
    have en : ((j : Int) - 1).toNat = j - 1 := by omega
    conv => lhs; unfold m_X6_remember_l18
    simp (disch := omega) only [ji1, ji2, ji3, ji4, ji5, ji6, ji7, ji8, ji9, ji10, ji11, ji12, ji13, ji14, ji15, ji16, ji19, ji20, ji24, ji31, ji32, ji39, ji45, ji48, ji57, ji58, ji59, ji60, ji97, ji100, ji119, ji120, ji122, ji144, ji200, ji226, ji240, ji255, ji300, ji366, ji400, ji500, ji1000, jI_z, ↓jI_m1, jI_add, jI_sub, jI_mul, jI_lt, ↓hg0_0, ↓hg0_1, ↓hg0_2, ↓hg0_3, ↓hg0_4, ↓hg0_5, hw0_5, ↓hg0_6, ↓hg0_7, ↓hv0, ↓hx0, ha132, hu132, ↓hl132, g, if_true, ↓mo_ns_r, ↓hn0, ↓mo_cs_s, ↓mo_xs_r, ↓mo_xs_l, ↓mo_nl_s, mo_z_0, mo_z_1, hp_aq, Int.toNat_natCast, ej, hp_uq hbj, ek, en]
theorem X6_rem {z : Nat} {M : hM} {h : List hU} {u : hU} (hH : HC M h) (hl : h.length ≤ 10) (hu : UB M 1 u) (ho : okU u) :
    ∃ M', m_X6_remember (hp S z M) z = some ((), hp S z M') ∧ HC M' (keepsV h u) ∧ FH M M' := by
  have e0 : gI M 0 5 = (h.length : Int) := hH.1
  by_cases h10 : h.length = 10
  · obtain ⟨M1, r1, r2, r3, r4, r5, r6⟩ := X6_r18 (S := S) (z := z) (M0 := M) hH.2.1 9 1 hN_f M (by omega) (by omega) (by unfold hN_f; omega) (fun _ _ => rfl) (fun _ _ => rfl) (fun _ _ => rfl) (fun i hi => by
      rw [if_neg (by omega)])
    have hpr : ∀ i, i < 10 → gV M1 (2 + i) = gV M (2 + (if i = 9 then 0 else i + 1)) := by
      intro i hi
      by_cases e : i = 9
      · subst e; rw [if_pos rfl]; exact r6
      · rw [if_neg e]; exact r5 i (by omega)
    have hH1 : HC (sI M1 0 5 9) h.tail := by
      refine ⟨?_, fun i hi => ?_, fun i j hi hj hij => ?_, fun i v hv => ?_⟩
      · rw [gI_sI, if_pos ⟨rfl, rfl⟩, List.length_tail, h10]; rfl
      · rw [gV_sI, hpr i hi]; exact hH.2.1 _ (by split <;> omega)
      · rw [gV_sI, gV_sI, hpr i hi, hpr j hj] at hij
        have := hH.2.2.1 _ _ (by split <;> omega) (by split <;> omega) hij
        split at this <;> split at this <;> omega
      · rw [List.getElem?_tail] at hv
        have hi : i + 1 < h.length := (List.getElem?_eq_some_iff.mp hv).1
        rw [gV_sI, hpr i (by omega), if_neg (by omega)]
        obtain ⟨k, hk, hk'⟩ := hH.2.1 (i + 1) (by omega)
        have h0 := hH.2.2.2 (i + 1) v hv
        rw [hk'] at h0 ⊢
        exact h0.cg (fun a g1 g2 => ⟨fun j => by rw [gI_sI, if_neg (by omega), r2], fun j => by rw [gA_sI, r3]⟩)
    have F1 : FH M (sI M1 0 5 9) := ⟨fun a ha => ⟨fun k hk => by rw [gI_sI, if_neg (by omega), r2], fun k => by rw [gA_sI, r3]⟩, fun k hk => by rw [gV_sI]; exact r4 k hk⟩
    obtain ⟨M2, s1, s2, s3⟩ := X6_r58 (S := S) (z := z) hH1 (n := 9) (by rw [List.length_tail, h10]) (by omega) (hu.cg (fun a g1 g2 => ⟨fun k => (F1.1 a (by omega)).1 k (by omega), fun k => (F1.1 a (by omega)).2 k⟩)) ho
    refine ⟨M2, ?_, by unfold keepsV; rw [if_pos h10]; exact s2, F1.trans s3⟩
    have g : ¬ ((10 : Nat) : Int) < 10 := by omega
    unfold m_X6_remember
    rw [h10] at e0
    simp (disch := omega) only [ji1, ji2, ji3, ji4, ji5, ji6, ji7, ji8, ji9, ji10, ji11, ji12, ji13, ji14, ji15, ji16, ji19, ji20, ji24, ji31, ji32, ji39, ji45, ji48, ji57, ji58, ji59, ji60, ji97, ji100, ji119, ji120, ji122, ji144, ji200, ji226, ji240, ji255, ji300, ji366, ji400, ji500, ji1000, jI_z, ↓jI_m1, jI_add, jI_sub, jI_mul, jI_lt, ↓hg0_0, ↓hg0_1, ↓hg0_2, ↓hg0_3, ↓hg0_4, ↓hg0_5, hw0_5, ↓hg0_6, ↓hg0_7, ↓hv0, ↓hx0, ha132, hu132, ↓hl132, e0, g, if_false, hp_aq]
    rw [← s1, ← r1]
    rfl
  · obtain ⟨M2, s1, s2, s3⟩ := X6_r58 (S := S) (z := z) hH (n := h.length) rfl (by omega) hu ho
    refine ⟨M2, ?_, by unfold keepsV; rw [if_neg h10]; exact s2, s3⟩
    have g : (h.length : Int) < 10 := by omega
    unfold m_X6_remember
    simp (disch := omega) only [ji1, ji2, ji3, ji4, ji5, ji6, ji7, ji8, ji9, ji10, ji11, ji12, ji13, ji14, ji15, ji16, ji19, ji20, ji24, ji31, ji32, ji39, ji45, ji48, ji57, ji58, ji59, ji60, ji97, ji100, ji119, ji120, ji122, ji144, ji200, ji226, ji240, ji255, ji300, ji366, ji400, ji500, ji1000, jI_z, ↓jI_m1, jI_add, jI_sub, jI_mul, jI_lt, ↓hg0_0, ↓hg0_1, ↓hg0_2, ↓hg0_3, ↓hg0_4, ↓hg0_5, hw0_5, ↓hg0_6, ↓hg0_7, ↓hv0, ↓hx0, ha132, hu132, ↓hl132, e0, g, if_true]
    exact s1
/-- what the model's keeping leaves as it was -/
def FK (M M' : hM) : Prop := (∀ a k, a ≠ 145 → gA M' a k = gA M a k) ∧ (∀ a k, a ≠ 133 ∨ k ≠ 36 → gI M' a k = gI M a k) ∧ Vr M M'
theorem FK.trans {M M' M'' : hM} (h : FK M M') (h' : FK M' M'') : FK M M'' := ⟨fun a k e => (h'.1 a k e).trans (h.1 a k e), fun a k e => (h'.2.1 a k e).trans (h.2.1 a k e), h.2.2.trans h'.2.2⟩

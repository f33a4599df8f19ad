variable {S : hSh}
/-! THE LAW'S OWN OBJECTS: cells behind the class's, by their shapes. -/
def sS (S : hSh) (a : Nat) (s : Nat × Nat × (Nat → Nat)) : hSh := fun b => if b = a then s else S b
theorem hc_law {z a : Nat} {M : hM} (h : 133 ≤ a) : hc S z M a = hs S z M a := by unfold hc; rw [if_pos h]
theorem hl_o {z a c : Nat} {M : hM} (h : 133 ≤ a) (hc' : (S a).1 = c) (hl : c < 11) : hp S z M (z + a) = some (.inr (c, (List.range (S a).2.1).map (hsv S z M a))) := by
  rw [hp_c, hc_law h]; unfold hs; rw [if_pos (by omega), hc']
theorem hl_a {z a kd n : Nat} {M : hM} (h : 133 ≤ a) (hk : (S a).1 = 20 + kd) (hn : (S a).2.1 = n) (hl : kd < 3) : hp S z M (z + a) = some (.inl (kd, n, .inl (fun i => jI (gA M a i)))) := by
  rw [hp_c, hc_law h]; unfold hs; rw [if_neg (by omega), if_pos (by omega), hk, hn, Nat.add_sub_cancel_left]
theorem hl_get {z a n k : Nat} {M : hM} (hn : n = (S a).2.1) (hk : k < n) : ((List.range (S a).2.1).map (hsv S z M a))[k]? = some (hsv S z M a k) := by
  simp only [List.getElem?_map, List.getElem?_range (show k < (S a).2.1 by omega), Option.map_some]
/-- an object: its place, class, how many fields -/
def lO (S : hSh) (a c n : Nat) : Prop := 133 ≤ a ∧ (S a).1 = c ∧ c < 11 ∧ (S a).2.1 = n
/-- an array: its place, kind, length -/
def lA (S : hSh) (a kd n : Nat) : Prop := 133 ≤ a ∧ (S a).1 = 20 + kd ∧ kd < 3 ∧ (S a).2.1 = n
theorem hl_gi {α : Type} {z a c n k : Nat} {M : hM} {F : Int32 → Option α} (h : lO S a c n) (hk : k < n) (hr : (S a).2.2 k = 0) : mo_gi (hp S z M) (z + a) c k F = F (jI (gI M a k)) := by
  obtain ⟨h1, h2, h3, h4⟩ := h
  unfold mo_gi; rw [hl_o h1 h2 h3]; simp only; rw [if_pos trivial, hl_get h4.symm hk]; unfold hsv; rw [if_pos hr]
theorem hl_gr {α : Type} {z a c n k r : Nat} {M : hM} {F : Nat → Option α} (h : lO S a c n) (hk : k < n) (hr : (S a).2.2 k = r + 3) : mo_gr (hp S z M) (z + a) c k F = F (z + r) := by
  obtain ⟨h1, h2, h3, h4⟩ := h
  unfold mo_gr; rw [hl_o h1 h2 h3]; simp only; rw [if_pos trivial, hl_get h4.symm hk]; unfold hsv; rw [if_neg (by omega), if_neg (by omega), if_neg (by omega), hr, Nat.add_sub_cancel]
theorem hl_gv {α : Type} {z a c n k : Nat} {M : hM} {F : Nat → Option α} (h : lO S a c n) (hk : k < n) (hr : (S a).2.2 k = 1) (h0 : 0 ≤ gI M a k) : mo_gr (hp S z M) (z + a) c k F = F (z + (gI M a k).toNat) := by
  obtain ⟨h1, h2, h3, h4⟩ := h
  unfold mo_gr; rw [hl_o h1 h2 h3]; simp only; rw [if_pos trivial, hl_get h4.symm hk]; unfold hsv; rw [if_neg (by omega), if_pos hr, if_neg (by omega)]
theorem hl_gu {α : Type} {z a c n k : Nat} {M : hM} {F : Nat → Option α} (h : lO S a c n) (hk : k < n) (hr : (S a).2.2 k = 1) : mo_gr (hp S z M) (z + a) c k F = if gI M a k < 0 then none else F (z + (gI M a k).toNat) := by
  obtain ⟨h1, h2, h3, h4⟩ := h
  unfold mo_gr; rw [hl_o h1 h2 h3]; simp only; rw [if_pos trivial, hl_get h4.symm hk]; unfold hsv; rw [if_neg (by omega), if_pos hr]
  by_cases g : gI M a k < 0
  · rw [if_pos g, if_pos g]
  · rw [if_neg g, if_neg g]
/-- writing behind the class -/
theorem hl_up {z a : Nat} {M M' : hM} {e : ac_E} (ha : 133 ≤ a) (h1 : hs S z M' a = some e) (h2 : ∀ b, b ≠ a → (∀ k, gI M' b k = gI M b k) ∧ ∀ k, gA M' b k = gA M b k) (h3 : ∀ k, gV M' k = gV M k) : ac_up (hp S z M) (z + a) e = hp S z M' :=
  hp_up (by rw [hc_law ha]; exact h1) (fun b hb => hc_cg (h2 b hb).1 (h2 b hb).2 h3)
theorem hl_set {z a n k : Nat} {M M' : hM} {v : Value} (hn : (S a).2.1 = n) (h1 : hsv S z M' a k = v) (h2 : ∀ j, j ≠ k → hsv S z M' a j = hsv S z M a j) : ((List.range (S a).2.1).map (hsv S z M a)).set k v = (List.range (S a).2.1).map (hsv S z M' a) := by
  apply List.ext_getElem?
  intro i
  rw [List.getElem?_set]
  by_cases hi : i < (S a).2.1
  · rw [hl_get rfl hi]
    by_cases hk : k = i
    · subst hk; rw [if_pos rfl, if_pos (by simpa using hi), hl_get rfl hi, h1]
    · rw [if_neg hk, hl_get rfl hi, h2 i (fun e => hk e.symm)]
  · have l1 : ((List.range (S a).2.1).map (hsv S z M' a))[i]? = none := List.getElem?_eq_none (by simp; omega)
    have l2 : ((List.range (S a).2.1).map (hsv S z M a))[i]? = none := List.getElem?_eq_none (by simp; omega)
    rw [l1, l2]
    by_cases hk : k = i
    · rw [if_pos hk, if_neg (by simp; omega)]
    · rw [if_neg hk]
theorem hl_pi {α : Type} {z a c n k : Nat} {M : hM} {v : Int} {F : ac_H → Option α} (h : lO S a c n) (hk : k < n) (hr : (S a).2.2 k = 0) : mo_pv (hp S z M) (z + a) c k (.int (jI v)) F = F (hp S z (sI M a k v)) := by
  obtain ⟨h1, h2, h3, h4⟩ := h
  unfold mo_pv; rw [hl_o h1 h2 h3]; simp only; rw [if_pos trivial, if_pos (by simp; omega)]
  congr 1
  apply hl_up h1
  · unfold hs
    rw [if_pos (by omega), hl_set (M' := sI M a k v) h4, h2]
    · unfold hsv; rw [if_pos hr, gI_sI, if_pos ⟨rfl, rfl⟩]
    · intro j hj
      have e : gI (sI M a k v) a j = gI M a j := by rw [gI_sI, if_neg (by rintro ⟨_, e⟩; exact hj e)]
      unfold hsv; rw [e]
  · intro b hb; exact ⟨fun j => by rw [gI_sI, if_neg (by rintro ⟨e, _⟩; exact hb e)], fun j => rfl⟩
  · intro j; rfl
theorem hl_pr {α : Type} {z a c n k v : Nat} {M : hM} {F : ac_H → Option α} (h : lO S a c n) (hk : k < n) (hr : (S a).2.2 k = 1) : mo_pv (hp S z M) (z + a) c k (.ref (z + v)) F = F (hp S z (sI M a k v)) := by
  obtain ⟨h1, h2, h3, h4⟩ := h
  unfold mo_pv; rw [hl_o h1 h2 h3]; simp only; rw [if_pos trivial, if_pos (by simp; omega)]
  congr 1
  apply hl_up h1
  · unfold hs
    rw [if_pos (by omega), hl_set (M' := sI M a k v) h4, h2]
    · have e : gI (sI M a k v) a k = v := by rw [gI_sI, if_pos ⟨rfl, rfl⟩]
      unfold hsv; rw [if_neg (by omega), if_pos hr, e, if_neg (by omega)]; simp
    · intro j hj
      have e : gI (sI M a k v) a j = gI M a j := by rw [gI_sI, if_neg (by rintro ⟨_, e⟩; exact hj e)]
      unfold hsv; rw [e]
  · intro b hb; exact ⟨fun j => by rw [gI_sI, if_neg (by rintro ⟨e, _⟩; exact hb e)], fun j => rfl⟩
  · intro j; rfl
theorem hl_ai {α : Type} {z a kd n : Nat} {M : hM} {i : Int} {F : Int32 → Option α} (h : lA S a kd n) (hn : n ≤ 4000) (h0 : 0 ≤ i) (h1 : i < n) : mo_ai (hp S z M) (z + a) kd (jI i) F = F (jI (gA M a i.toNat)) := by
  obtain ⟨g1, g2, g3, g4⟩ := h
  unfold mo_ai; rw [hl_a g1 g2 g4 g3]; simp only; rw [if_pos trivial, jI_ix h0 (by omega), if_neg]
  intro hh; rcases hh with hh | hh
  · exact jI_nonneg h0 (by omega) hh
  · omega
theorem hl_ui {α : Type} {z a kd n : Nat} {M : hM} {i v : Int} {F : ac_H → Option α} (h : lA S a kd n) (hn : n ≤ 4000) (h0 : 0 ≤ i) (h1 : i < n) : mo_ui (hp S z M) (z + a) kd (jI i) (jI v) F = F (hp S z (sA M a i.toNat v)) := by
  obtain ⟨g1, g2, g3, g4⟩ := h
  unfold mo_ui; rw [hl_a g1 g2 g4 g3]; simp only; rw [if_pos trivial, jI_ix h0 (by omega), if_neg]
  · congr 1
    apply hl_up g1
    · unfold hs
      rw [if_neg (by omega), if_pos (by omega), g2, g4, Nat.add_sub_cancel_left]
      congr 5; funext j; unfold upd; rw [gA_sA]; by_cases hj : j = i.toNat
      · rw [if_pos hj, if_pos ⟨rfl, hj⟩]
      · rw [if_neg hj, if_neg (by rintro ⟨_, e⟩; exact hj e)]
    · intro b hb; exact ⟨fun j => rfl, fun j => by rw [gA_sA, if_neg (by rintro ⟨e, _⟩; exact hb e)]⟩
    · intro j; rfl
  · intro hh; rcases hh with hh | hh
    · exact jI_nonneg h0 (by omega) hh
    · omega
theorem hl_ln {α : Type} {z a kd n : Nat} {M : hM} {F : Int32 → Option α} (h : lA S a kd n) : mo_ln (hp S z M) (z + a) F = F (jI n) := by
  obtain ⟨g1, g2, g3, g4⟩ := h
  unfold mo_ln; rw [hl_a g1 g2 g4 g3]; simp only; rw [if_pos (by omega), jI_nat]
theorem hl_cv {α ρ : Type} {z a c n : Nat} {M : hM} {m : Option (ρ × ac_H)} {F : ρ → ac_H → Option α} (h : lO S a c n) : mo_cv (hp S z M) (z + a) c m F = mo_cs m F := by
  obtain ⟨h1, h2, h3, h4⟩ := h
  unfold mo_cv; rw [hl_o h1 h2 h3]; simp only; rw [if_pos trivial]; rfl
/-- a face method, from the law -/
def mo_ns {α ρ : Type} (m : Option ((String ⊕ ρ) × ac_H)) (F : ρ → ac_H → Option α) : Option α := match m with
  | some (.inr x, σ1) => F x σ1
  | _ => none
theorem mo_ns_r {α ρ : Type} {x : ρ} {σ : ac_H} {F : ρ → ac_H → Option α} : mo_ns (some (.inr x, σ)) F = F x σ := id rfl
theorem hn0 {α ρ : Type} {z : Nat} {M : hM} {m : Option ((String ⊕ ρ) × ac_H)} {F : ρ → ac_H → Option α} : mo_nv (hp S z M) z 6 m F = mo_ns m F := by
  have h := hc_o (S := S) (z := z) (M := M) (a := 0) (c := 6) rfl
  have e : hp S z M z = some (.inr (6, fvs z M 0)) := by have := hp_c (S := S) (z := z) (a := 0) (M := M); rw [Nat.add_zero] at this; rw [this, h]
  unfold mo_nv; rw [e]; simp only; rw [if_pos trivial]; rfl
/-- booleans stored -/
theorem nar_z {v : Int} (h : v = 0 ∨ v = 1) : vp_nar .boolean (jI v) = jI v := by rcases h with rfl | rfl <;> decide
theorem nar_z0 : vp_nar .boolean (jI 0) = jI 0 := by decide
theorem nar_z1 : vp_nar .boolean (jI 1) = jI 1 := by decide
/-! new cells -/
/-- behind n there is nothing yet -/
def zM (M : hM) (a : Nat) : hM := (fun b j => if b = a then 0 else M.1 b j, fun b j => if b = a then 0 else M.2.1 b j, M.2.2)
theorem gI_zM {M : hM} {a b j : Nat} : gI (zM M a) b j = if b = a then 0 else gI M b j := rfl
theorem gA_zM {M : hM} {a b j : Nat} : gA (zM M a) b j = if b = a then 0 else gA M b j := rfl
theorem gV_zM {M : hM} {a k : Nat} : gV (zM M a) k = gV M k := rfl
theorem hl_new {z a : Nat} {M : hM} {s : Nat × Nat × (Nat → Nat)} {e : ac_E} (ha : 133 ≤ a) (h1 : hs (sS S a s) z (zM M a) a = some e) : ac_up (hp S z M) (z + a) e = hp (sS S a s) z (zM M a) := by
  funext q
  unfold ac_up
  by_cases hq : q = z + a
  · rw [if_pos hq, hq, hp_c, hc_law ha, h1]
  · rw [if_neg hq]; unfold hp
    by_cases hz : q < z
    · rw [if_pos hz, if_pos hz]
    · rw [if_neg hz, if_neg hz]
      have hb : q - z ≠ a := by omega
      have e1 : hc S z (zM M a) (q - z) = hc S z M (q - z) := hc_cg (fun k => by rw [gI_zM, if_neg hb]) (fun k => by rw [gA_zM, if_neg hb]) (fun k => rfl)
      rw [← e1]
      unfold hc
      have e2 : hs (sS S a s) z (zM M a) (q - z) = hs S z (zM M a) (q - z) := by
        have e3 : sS S a s (q - z) = S (q - z) := by unfold sS; rw [if_neg hb]
        unfold hs hsv; rw [e3]
      rw [e2]
theorem sS_a {a : Nat} {s : Nat × Nat × (Nat → Nat)} : sS S a s a = s := by unfold sS; rw [if_pos rfl]
theorem sS_n {a b : Nat} {s : Nat × Nat × (Nat → Nat)} (h : b ≠ a) : sS S a s b = S b := by unfold sS; rw [if_neg h]
/-- a null field becomes a place -/
theorem hl_pn {α : Type} {z a c n k r : Nat} {M : hM} {F : ac_H → Option α} (h : lO S a c n) (hk : k < n) (hr : (S a).2.2 k = 2) : mo_pv (hp S z M) (z + a) c k (.ref (z + r)) F = F (hp (sS S a (c, n, fun j => if j = k then r + 3 else (S a).2.2 j)) z M) := by
  obtain ⟨h1, h2, h3, h4⟩ := h
  unfold mo_pv; rw [hl_o h1 h2 h3]; simp only; rw [if_pos trivial, if_pos (by simp; omega)]
  congr 1
  funext q
  unfold ac_up
  by_cases hq : q = z + a
  · rw [if_pos hq, hq, hp_c, hc_law h1]
    unfold hs
    rw [sS_a]; simp only; rw [if_pos h3]
    congr 3
    apply List.ext_getElem?
    intro i
    rw [List.getElem?_set]
    have hv : ∀ j, hsv (sS S a (c, n, fun j => if j = k then r + 3 else (S a).2.2 j)) z M a j = if j = k then .ref (z + r) else hsv S z M a j := by
      intro j
      unfold hsv
      rw [sS_a]
      by_cases hj : j = k
      · subst hj; simp only [if_true]; rw [if_neg (by omega), if_neg (by omega), if_neg (by omega), Nat.add_sub_cancel]
      · simp only [if_neg hj]
    by_cases hi : i < n
    · have e2 : ((List.range n).map (hsv (sS S a (c, n, fun j => if j = k then r + 3 else (S a).2.2 j)) z M a))[i]? = some (if i = k then .ref (z + r) else hsv S z M a i) := by
        simp only [List.getElem?_map, List.getElem?_range hi, Option.map_some, hv]
      rw [e2]
      by_cases hki : k = i
      · subst hki; rw [if_pos rfl, if_pos (by simp; omega), if_pos rfl]
      · rw [if_neg hki, hl_get h4.symm hi, if_neg (fun e => hki e.symm)]
    · have l1 : ((List.range n).map (hsv (sS S a (c, n, fun j => if j = k then r + 3 else (S a).2.2 j)) z M a))[i]? = none := List.getElem?_eq_none (by simp; omega)
      have l2 : ((List.range (S a).2.1).map (hsv S z M a))[i]? = none := List.getElem?_eq_none (by simp; omega)
      rw [l1, l2, if_neg (by omega)]
  · rw [if_neg hq]; unfold hp
    by_cases hz : q < z
    · rw [if_pos hz, if_pos hz]
    · rw [if_neg hz, if_neg hz]
      have hb : q - z ≠ a := by omega
      unfold hc hs hsv; rw [sS_n hb]
/-- a new object, all its references null -/
theorem hl_no {z a c n : Nat} {M M' : hM} {rf : Nat → Nat} {fs : List Value} (ha : 133 ≤ a) (hc' : c < 11) (hM : M' = zM M a ∨ ∃ v, M' = sI (zM M a) a 0 v) (hf : (List.range n).map (hsv (sS S a (c, n, rf)) z M' a) = fs) : ac_up (hp S z M) (z + a) (.inr (c, fs)) = hp (sS S a (c, n, rf)) z M' := by
  have h1 : hs (sS S a (c, n, rf)) z M' a = some (.inr (c, fs)) := by
    unfold hs; rw [sS_a]; simp only; rw [if_pos hc', hf]
  have hoth : ∀ b, b ≠ a → (∀ k, gI M' b k = gI M b k) ∧ ∀ k, gA M' b k = gA M b k := by
    intro b hb
    rcases hM with rfl | ⟨v, rfl⟩
    · exact ⟨fun k => by rw [gI_zM, if_neg hb], fun k => by rw [gA_zM, if_neg hb]⟩
    · exact ⟨fun k => by rw [gI_sI, if_neg (by rintro ⟨e, _⟩; exact hb e), gI_zM, if_neg hb], fun k => by rw [gA_sI, gA_zM, if_neg hb]⟩
  have hV : ∀ k, gV M' k = gV M k := by rcases hM with rfl | ⟨v, rfl⟩ <;> (intro k; rfl)
  funext q
  unfold ac_up
  by_cases hq : q = z + a
  · rw [if_pos hq, hq, hp_c, hc_law ha, h1]
  · rw [if_neg hq]; unfold hp
    by_cases hz : q < z
    · rw [if_pos hz, if_pos hz]
    · rw [if_neg hz, if_neg hz]
      have hb : q - z ≠ a := by omega
      have e1 : hc S z M' (q - z) = hc S z M (q - z) := hc_cg (hoth _ hb).1 (hoth _ hb).2 hV
      rw [← e1]
      unfold hc hs hsv; rw [sS_n hb]
/-- a new array of numbers -/
theorem hl_na {z a kd n : Nat} {M : hM} (ha : 133 ≤ a) (hk : kd < 3) : ac_up (hp S z M) (z + a) (.inl (kd, kx_ar kd n)) = hp (sS S a (20 + kd, n, fun _ => 0)) z (zM M a) := by
  apply hl_new ha
  unfold hs
  have e : sS S a (20 + kd, n, fun _ => 0) a = (20 + kd, n, fun _ => 0) := by unfold sS; rw [if_pos rfl]
  rw [e]; simp only; rw [if_neg (by omega), if_pos (by omega), Nat.add_sub_cancel_left]
  have e2 : (fun i => jI (gA (zM M a) a i)) = fun _ => (0 : Int32) := by funext i; rw [gA_zM, if_pos rfl]; rfl
  rw [e2]
  rcases (show kd = 0 ∨ kd = 1 ∨ kd = 2 by omega) with rfl | rfl | rfl <;> rfl

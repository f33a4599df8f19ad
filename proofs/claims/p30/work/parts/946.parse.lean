variable {S : hSh}
/-! READING of the class, by a function of the text. -/
def eqW (L : List Int) : List Int32 → Nat → Bool
  | [], _ => true
  | x :: t, s => decide (L[s]? = some x.toInt) && eqW L t (s + 1)
def wdB (L : List Int) (p i : Nat) : Bool := decide (tK L p = 1 ∧ tN L p - tS L p = (ac_B i).length) && eqW L (ac_B i) (tS L p)
theorem acB_in : ∀ i, i < 11 → (ac_B i).length ≤ 9 ∧ 4 ≤ (ac_B i).length ∧ ∀ b ∈ ac_B i, 97 ≤ b.toInt ∧ b.toInt ≤ 122 := by decide
theorem mo_sl_j {α : Type} {i : Nat} {F : Int32 → Option α} (hi : i < 11) : mo_sl i F = F (jI (ac_B i).length) := by
  unfold mo_sl; rw [if_pos (show i < 19 by omega), jI_n]
theorem mo_sc_j {α : Type} {i j : Nat} {x : Int32} {F : Int32 → Option α} (hi : i < 11) (hx : (ac_B i)[j]? = some x) : mo_sc i (jI j) F = F (jI x.toInt) := by
  have hj : j < (ac_B i).length := (List.getElem?_eq_some_iff.mp hx).1
  have hl := (acB_in i hi).1
  unfold mo_sc
  rw [if_pos (show i < 19 by omega), jI_ix (by omega) (by omega), if_neg, Int.toNat_natCast, List.getD_eq_getElem?_getD, hx, jI_of]
  · rfl
  · intro h
    rcases h with h | h
    · exact jI_nonneg (by omega) (by omega) h
    · omega
theorem dropW {W : List Int32} {j : Nat} {x : Int32} {t : List Int32} (h : W.drop j = x :: t) : W[j]? = some x ∧ W.drop (j + 1) = t ∧ j < W.length := by
  have h1 : W[j]? = some x := by
    have := congrArg (fun l => l[0]?) h
    simpa using this
  exact ⟨h1, by have := congrArg List.tail h; simpa using this, (List.getElem?_eq_some_iff.mp h1).1⟩
theorem X3_wl {z i s : Nat} {L : List Int} {M : hM} (hT : TX M L) (hi : i < 11) (h3 : gI M 37 3 = s) (hs : s + (ac_B i).length ≤ L.length) : ∀ (t : List Int32) (j f : Nat), (ac_B i).drop j = t → t.length < f → j ≤ (ac_B i).length →
    m_X3_isWord_l28 (z + 37) i f (hp S z M) (jI j) = some (jI (b2i (eqW L t (s + j))), hp S z M) := by
  have hW := acB_in i hi
  have hl := hT.2.2.1
  intro t
  induction t with
  | nil =>
    intro j f hd hf hj
    obtain ⟨f, rfl⟩ : ∃ g, f = g + 1 := ⟨f - 1, by simp at hf; omega⟩
    have hj' : (ac_B i).length ≤ j := by simpa using hd
    have g : ¬ (j : Int) < (ac_B i).length := by omega
    unfold m_X3_isWord_l28
    rw [mo_sl_j hi]
    simp (disch := omega) only [ji1, ji2, ji3, ji4, ji5, ji6, ji7, ji8, ji9, ji10, ji11, ji12, ji13, ji14, ji15, ji16, ji19, ji20, ji24, ji31, ji32, ji39, ji45, ji48, ji57, ji58, ji59, ji60, ji97, ji100, ji119, ji120, ji122, ji144, ji200, ji226, ji240, ji255, ji300, ji366, ji400, ji500, ji1000, jI_z, ↓jI_m1, jI_add, jI_sub, jI_mul, jI_lt, g, if_false, ↓mo_ns_r, ↓hn0, ↓mo_cs_s, ↓mo_xs_r, ↓mo_xs_l, ↓mo_nl_s, mo_z_0, mo_z_1]
    rfl
  | cons x t ih =>
    intro j f hd hf hj
    obtain ⟨f, rfl⟩ : ∃ g, f = g + 1 := ⟨f - 1, by simp at hf; omega⟩
    obtain ⟨d1, d2, d3⟩ := dropW hd
    have hx := hW.2.2 x (List.mem_of_getElem? d1)
    have g : (j : Int) < (ac_B i).length := by omega
    have hb : L[s + j]? = some L[s + j] := List.getElem?_eq_getElem (by omega)
    have hbb := hT.b hb
    have ba := X3_ba (S := S) (z := z) hT hb
    have ej : (s : Int) + j = ((s + j : Nat) : Int) := by omega
    have ek : (j : Int) + 1 = ((j + 1 : Nat) : Int) := by omega
    have sc := fun (F : Int32 → Option (Int32 × ac_H)) => mo_sc_j (F := F) hi d1
    unfold m_X3_isWord_l28
    rw [mo_sl_j hi]
    simp (disch := omega) only [ji1, ji2, ji3, ji4, ji5, ji6, ji7, ji8, ji9, ji10, ji11, ji12, ji13, ji14, ji15, ji16, ji19, ji20, ji24, ji31, ji32, ji39, ji45, ji48, ji57, ji58, ji59, ji60, ji97, ji100, ji119, ji120, ji122, ji144, ji200, ji226, ji240, ji255, ji300, ji366, ji400, ji500, ji1000, jI_z, ↓jI_m1, jI_add, jI_sub, jI_mul, jI_lt, g, if_true, ↓hg37_0, ↓hg37_1, hw37_1, ↓hg37_2, hw37_2, ↓hg37_3, hw37_3, ↓hg37_4, hw37_4, ↓hg37_5, hw37_5, ↓hg37_6, hw37_6, ↓hg37_7, hw37_7, ↓hg37_8, hw37_8, ↓hg37_9, ↓hv37, ↓hx37, ha38, hu38, ↓hl38, h3, ej]
    rw [ba]
    simp (disch := omega) only [↓mo_ns_r, ↓hn0, ↓mo_cs_s, ↓mo_xs_r, ↓mo_xs_l, ↓mo_nl_s, mo_z_0, mo_z_1, sc, jI_eq, ji1, ji2, ji3, ji4, ji5, ji6, ji7, ji8, ji9, ji10, ji11, ji12, ji13, ji14, ji15, ji16, ji19, ji20, ji24, ji31, ji32, ji39, ji45, ji48, ji57, ji58, ji59, ji60, ji97, ji100, ji119, ji120, ji122, ji144, ji200, ji226, ji240, ji255, ji300, ji366, ji400, ji500, ji1000, jI_z, ↓jI_m1, jI_add, jI_sub, jI_mul, ek]
    by_cases e : L[s + j] = x.toInt
    · rw [if_pos e, ih (j + 1) f d2 (by simp at hf; omega) (by omega)]
      simp only [eqW, hb, e, decide_true, Bool.true_and]
      rw [Nat.add_assoc]
    · rw [if_neg e]
      have : decide (L[s + j]? = some x.toInt) = false := decide_eq_false (by rw [hb]; simp only [Option.some.injEq]; exact e)
      simp only [eqW, this, Bool.false_and]; rfl
theorem X3_wd {z i p : Nat} {L : List Int} {M : hM} (hT : TX M L) (hi : i < 11) (hp' : p ≤ L.length) (h : CT M L p) : m_X3_isWord (hp S z M) (z + 37) i = some (jI (b2i (wdB L p i)), hp S z M) := by
  obtain ⟨h3, h4, h5⟩ := h
  have hW := acB_in i hi
  have hl := hT.2.2.1
  have hN := tN_le hp'
  have hk := eK_in (L := L) (s := tS L p)
  have hk' : 0 ≤ tK L p ∧ tK L p ≤ 4 := hk
  have hS := tS_le hp'
  unfold m_X3_isWord wdB
  simp (disch := omega) only [ji1, ji2, ji3, ji4, ji5, ji6, ji7, ji8, ji9, ji10, ji11, ji12, ji13, ji14, ji15, ji16, ji19, ji20, ji24, ji31, ji32, ji39, ji45, ji48, ji57, ji58, ji59, ji60, ji97, ji100, ji119, ji120, ji122, ji144, ji200, ji226, ji240, ji255, ji300, ji366, ji400, ji500, ji1000, jI_z, ↓jI_m1, jI_add, jI_sub, jI_mul, ↓hg37_0, ↓hg37_1, hw37_1, ↓hg37_2, hw37_2, ↓hg37_3, hw37_3, ↓hg37_4, hw37_4, ↓hg37_5, hw37_5, ↓hg37_6, hw37_6, ↓hg37_7, hw37_7, ↓hg37_8, hw37_8, ↓hg37_9, ↓hv37, ↓hx37, ha38, hu38, ↓hl38, h3, h4, h5, jI_eq, mo_sl_j hi, ↓mo_ns_r, ↓hn0, ↓mo_cs_s, ↓mo_xs_r, ↓mo_xs_l, ↓mo_nl_s, mo_z_0, mo_z_1]
  by_cases e1 : tK L p = 1
  · have hgt := tN_gt (L := L) (p := p) (by omega)
    have hsn : tS L p < tN L p := eN_gt (by show tK L p ≠ 0; omega)
    rw [if_pos e1]
    by_cases e2 : (tN L p : Int) - tS L p = (ac_B i).length
    · rw [if_pos e2]
      have := X3_wl (S := S) (z := z) hT hi h3 (by omega) (ac_B i) 0 hN_f (by simp) (by unfold hN_f; omega) (by omega)
      rw [show jI 0 = jI ((0 : Nat) : Int) from rfl, this, decide_eq_true (by omega)]
      rfl
    · rw [if_neg e2, decide_eq_false (by omega)]; rfl
  · rw [if_neg e1, decide_eq_false (by omega)]; rfl
/-- the frame of reading, its errors, its state -/
def FX (M M' : hM) : Prop := (∀ a, a < 37 ∨ 44 ≤ a → (∀ k, gI M' a k = gI M a k) ∧ ∀ k, gA M' a k = gA M a k) ∧ (∀ k, k < 3 ∨ 8 < k → gI M' 37 k = gI M 37 k) ∧ (∀ k, gA M' 38 k = gA M 38 k) ∧ Vr M M'
theorem FX.rfl' {M : hM} : FX M M := ⟨fun _ _ => ⟨fun _ => rfl, fun _ => rfl⟩, fun _ _ => rfl, fun _ => rfl, fun _ => rfl⟩
theorem FX.trans {M M' M'' : hM} (h : FX M M') (h' : FX M' M'') : FX M M'' := ⟨fun a ha => ⟨fun k => ((h'.1 a ha).1 k).trans ((h.1 a ha).1 k), fun k => ((h'.1 a ha).2 k).trans ((h.1 a ha).2 k)⟩, fun k hk => (h'.2.1 k hk).trans (h.2.1 k hk), fun k => (h'.2.2.1 k).trans (h.2.2.1 k), h.2.2.2.trans h'.2.2.2⟩
theorem FV.x {M M' : hM} (h : FV M M') : FX M M' := ⟨fun a ha => ⟨fun k => h.1 a k (by omega), h.2.1 a⟩, fun k hk => h.1 37 k (by omega), h.2.1 38, h.2.2⟩
theorem FX_sI {M : hM} {k : Nat} {v : Int} (h : 3 ≤ k ∧ k ≤ 8) : FX M (sI M 37 k v) := ⟨fun a ha => ⟨fun j => by rw [gI_sI, if_neg (by omega)], fun _ => rfl⟩, fun j hj => by rw [gI_sI, if_neg (by omega)], fun _ => rfl, fun _ => rfl⟩
theorem FX_of {M M' : hM} (h : Fr 39 44 M M') (hv : Vr M M') : FX M M' := ⟨fun a ha => h a (by omega), fun k _ => (h 37 (by omega)).1 k, (h 38 (by omega)).2, hv⟩
theorem TX.x {M M' : hM} {L : List Int} (h : TX M L) (f : FX M M') : TX M' L := ⟨by rw [f.2.1 2 (by omega)]; exact h.1, fun k v hv => by rw [f.2.2.1]; exact h.2.1 k v hv, h.2.2⟩
def EC (M : hM) (e : Int × Int) : Prop := gI M 37 7 = e.1 ∧ gI M 37 8 = e.2
def wK (k : Nat) : Prop := k = 3 ∨ k = 4 ∨ k = 5 ∨ k = 7
def WC (M : hM) (w : Nat → Bool) : Prop := ∃ n : Nat, gI M 37 6 = n ∧ n < 256 ∧ ∀ k, wK k → n.testBit k = w k
abbrev hP : Type := hCf × (Nat → Bool) × Nat
abbrev hE : Type := (Int × Int) ⊕ hP
/-- what stands at the reader but its place -/
def PC0 (M : hM) (s : hP) : Prop := BR M 39 s.1 ∧ WC M s.2.1 ∧ gI M 37 7 = 0 ∧ gI M 37 8 = -1
def PC (M : hM) (s : hP) : Prop := PC0 M s ∧ gI M 37 4 = s.2.2
def okP (L : List Int) (s : hP) : Prop := okC s.1 ∧ s.2.2 ≤ L.length
theorem PC0.v {M M' : hM} {s : hP} (h : PC0 M s) (f : FV M M') : PC0 M' s := by
  obtain ⟨h1, ⟨n, h2, h3⟩, h4, h5⟩ := h
  exact ⟨h1.cg (fun a g1 g2 => ⟨fun k => f.1 a k (by omega), f.2.1 a⟩), ⟨n, by rw [f.1 37 6 (by omega)]; exact h2, h3⟩, by rw [f.1 37 7 (by omega)]; exact h4, by rw [f.1 37 8 (by omega)]; exact h5⟩
def eB (e : hE) (f : hP → hE) : hE := match e with
  | .inl x => .inl x
  | .inr s => f s
def sNum (L : List Int) (lo hi : Int) (p : Nat) : (Int × Int) ⊕ Int := if tK L p = 2 then (if lo ≤ nV L p ∧ nV L p ≤ hi then .inr (nV L p) else .inl (3, tS L p)) else .inl (1, tS L p)
def sSet (L : List Int) (k : Int) (s : hP) : hE := match sNum L (loV k) (hiV k) s.2.2 with
  | .inl e => .inl e
  | .inr v => .inr (cS s.1 k v, s.2.1, tN L s.2.2)
def sSemi (L : List Int) (s : hP) : hE := if tK L s.2.2 = 3 then .inr (s.1, s.2.1, tN L s.2.2) else .inl (1, tS L s.2.2)
def prot (L : List Int) (p : Nat) : Option Int := if wdB L p 1 = true then some 0 else if wdB L p 2 = true then some 1 else if wdB L p 3 = true then some 2 else none
def setOf (L : List Int) (p : Nat) : Option Nat := if wdB L p 4 = true then some 3 else if wdB L p 5 = true then some 4 else if wdB L p 6 = true then some 5 else if wdB L p 7 = true then some 7 else none
def kindOf (L : List Int) (p : Nat) : Option Int := if wdB L p 8 = true then some 0 else if wdB L p 9 = true then some 1 else if wdB L p 10 = true then some 2 else none
def c0 : hCf := (fun k => ((ac_T 0).getD k 0).toInt, [])
def sHead (L : List Int) : hE := if wdB L 0 0 = true then (match prot L (tN L 0) with
  | none => .inl (1, tS L (tN L 0))
  | some v => eB (sSet L 1 (cS c0 0 v, fun _ => false, tN L (tN L 0))) fun s => eB (sSet L 2 s) (sSemi L)) else .inl (1, tS L 0)
def sAmt (L : List Int) (kd nm : Int) (s : hP) : hE := if kd = 2 then (match sNum L 1 20 s.2.2 with
  | .inl e => .inl e
  | .inr am => .inr (cI s.1 kd nm am, s.2.1, tN L s.2.2)) else .inr (cI s.1 kd nm 0, s.2.1, s.2.2)
def sFault (L : List Int) (s : hP) : hE := match kindOf L s.2.2 with
  | none => .inl (1, tS L s.2.2)
  | some kd => if s.1.2.length < 10 then (match sNum L 0 119 (tN L s.2.2) with
    | .inl e => .inl e
    | .inr nm => if fnd kd nm s.1.2 0 = -1 then sAmt L kd nm (s.1, s.2.1, tN L (tN L s.2.2)) else .inl (2, tS L (tN L s.2.2))) else .inl (4, tS L s.2.2)
def sStmt (L : List Int) (s : hP) : hE := match setOf L s.2.2 with
  | some k => if s.2.1 k = true then .inl (2, tS L s.2.2) else eB (sSet L k (s.1, fun j => if j = k then true else s.2.1 j, tN L s.2.2)) fun s2 => if k = 5 then eB (sSet L 6 s2) (sSemi L) else sSemi L s2
  | none => eB (sFault L s) (sSemi L)
def sLoop (L : List Int) : Nat → hP → hE
  | 0, s => .inr s
  | n + 1, s => if tK L s.2.2 = 0 then .inr s else eB (sStmt L s) (sLoop L n)
def sParse (L : List Int) : hE := eB (sHead L) (sLoop L 501)
/-- the outcome of a reading method that answers whether it went well -/
def RX (S : hSh) (z : Nat) (M : hM) (o : Option (Int32 × ac_H)) : hE → Prop
  | .inl e => ∃ M', o = some (jI 0, hp S z M') ∧ EC M' e ∧ FX M M'
  | .inr s => ∃ M', o = some (jI 1, hp S z M') ∧ PC M' s ∧ FX M M'
theorem X3_fl {z : Nat} {M : hM} {c : Int} {t : Nat} (h3 : gI M 37 3 = t) : ∃ M', m_X3_fail (hp S z M) (z + 37) (jI c) = some (jI 0, hp S z M') ∧ EC M' (c, (t : Int)) ∧ FX M M' := by
  refine ⟨sI (sI M 37 7 c) 37 8 t, ?_, ⟨by rw [gI_sI, if_neg (by omega), gI_sI, if_pos ⟨rfl, rfl⟩], by rw [gI_sI, if_pos ⟨rfl, rfl⟩]⟩, (FX_sI (by omega)).trans (FX_sI (by omega))⟩
  have h3' : gI (sI M 37 7 c) 37 3 = t := by rw [gI_sI, if_neg (by omega), h3]
  unfold m_X3_fail
  simp (disch := omega) only [ji1, ji2, ji3, ji4, ji5, ji6, ji7, ji8, ji9, ji10, ji11, ji12, ji13, ji14, ji15, ji16, ji19, ji20, ji24, ji31, ji32, ji39, ji45, ji48, ji57, ji58, ji59, ji60, ji97, ji100, ji119, ji120, ji122, ji144, ji200, ji226, ji240, ji255, ji300, ji366, ji400, ji500, ji1000, jI_z, ↓jI_m1, jI_add, jI_sub, jI_mul, ↓hg37_0, ↓hg37_1, hw37_1, ↓hg37_2, hw37_2, ↓hg37_3, hw37_3, ↓hg37_4, hw37_4, ↓hg37_5, hw37_5, ↓hg37_6, hw37_6, ↓hg37_7, hw37_7, ↓hg37_8, hw37_8, ↓hg37_9, ↓hv37, ↓hx37, ha38, hu38, ↓hl38, h3', ↓mo_ns_r, ↓hn0, ↓mo_cs_s, ↓mo_xs_r, ↓mo_xs_l, ↓mo_nl_s, mo_z_0, mo_z_1]
theorem X3_nl {z s : Nat} {L : List Int} {M : hM} {lo hi : Int} {n : Nat} (hT : TX M L) (h4 : gI M 37 4 = (s + n : Nat)) (hn : s + n ≤ L.length) : ∀ (d k f : Nat), k + d = n → d < f →
    m_X3_readNumber_l28 (z + 37) (jI lo) (jI hi) f (hp S z M) (jI (numV L s k)) (jI (s + k : Nat)) = m_X3_readNumber_l28 (z + 37) (jI lo) (jI hi) (f - d) (hp S z M) (jI (numV L s n)) (jI (s + n : Nat)) := by
  have hl := hT.2.2.1
  intro d
  induction d with
  | zero => intro k f hk hf; rw [show k = n by omega]; rfl
  | succ d ih =>
    intro k f hk hf
    obtain ⟨f, rfl⟩ : ∃ g, f = g + 1 := ⟨f - 1, by omega⟩
    have hx : L[s + k]? = some L[s + k] := List.getElem?_eq_getElem (by omega)
    have ba := X3_ba (S := S) (z := z) hT hx
    have g : ((s + k : Nat) : Int) < (s + n : Nat) := by omega
    have en : numV L s (k + 1) = 10 * numV L s k + L[s + k] - 48 := by simp only [numV]; rw [List.getD_eq_getElem?_getD, hx]; rfl
    have ek : ((s + k : Nat) : Int) + 1 = ((s + (k + 1) : Nat) : Int) := by omega
    have IH := ih (k + 1) f (by omega) (by omega)
    rw [en] at IH
    rw [show f + 1 - (d + 1) = f - d by omega, ← IH]
    conv => lhs; unfold m_X3_readNumber_l28
    simp (disch := omega) only [ji1, ji2, ji3, ji4, ji5, ji6, ji7, ji8, ji9, ji10, ji11, ji12, ji13, ji14, ji15, ji16, ji19, ji20, ji24, ji31, ji32, ji39, ji45, ji48, ji57, ji58, ji59, ji60, ji97, ji100, ji119, ji120, ji122, ji144, ji200, ji226, ji240, ji255, ji300, ji366, ji400, ji500, ji1000, jI_z, ↓jI_m1, jI_add, jI_sub, jI_mul, ↓hg37_0, ↓hg37_1, hw37_1, ↓hg37_2, hw37_2, ↓hg37_3, hw37_3, ↓hg37_4, hw37_4, ↓hg37_5, hw37_5, ↓hg37_6, hw37_6, ↓hg37_7, hw37_7, ↓hg37_8, hw37_8, ↓hg37_9, ↓hv37, ↓hx37, ha38, hu38, ↓hl38, h4, jI_lt, g, if_true]
    rw [ba]
    simp (disch := omega) only [↓mo_ns_r, ↓hn0, ↓mo_cs_s, ↓mo_xs_r, ↓mo_xs_l, ↓mo_nl_s, mo_z_0, mo_z_1, ji1, ji2, ji3, ji4, ji5, ji6, ji7, ji8, ji9, ji10, ji11, ji12, ji13, ji14, ji15, ji16, ji19, ji20, ji24, ji31, ji32, ji39, ji45, ji48, ji57, ji58, ji59, ji60, ji97, ji100, ji119, ji120, ji122, ji144, ji200, ji226, ji240, ji255, ji300, ji366, ji400, ji500, ji1000, jI_z, ↓jI_m1, jI_add, jI_sub, jI_mul, ek]
theorem X3_num {z p : Nat} {L : List Int} {M : hM} {lo hi : Int} (hT : TX M L) (hp' : p ≤ L.length) (h4 : gI M 37 4 = p) (hlo : 0 ≤ lo ∧ lo ≤ 300) (hhi : 0 ≤ hi ∧ hi ≤ 300) :
    (∃ e M', sNum L lo hi p = .inl e ∧ m_X3_readNumber (hp S z M) (z + 37) (jI lo) (jI hi) = some (jI (-1), hp S z M') ∧ EC M' e ∧ FX M M') ∨
    (∃ v M', sNum L lo hi p = .inr v ∧ lo ≤ v ∧ v ≤ hi ∧ m_X3_readNumber (hp S z M) (z + 37) (jI lo) (jI hi) = some (jI v, hp S z M') ∧ CT M' L p ∧ FV M M') := by
  have hl := hT.2.2.1
  obtain ⟨M1, r1, ⟨h3, h4', h5⟩, r3⟩ := X3_adv (S := S) (z := z) hT hp' h4
  have hk' : 0 ≤ tK L p ∧ tK L p ≤ 4 := eK_in
  unfold sNum
  by_cases e2 : tK L p = 2
  · rw [if_pos e2]
    obtain ⟨n1, n2, n3, n4, n5⟩ := nV_in e2
    have hN := tN_le hp'
    have eN' : tN L p = tS L p + (tN L p - tS L p) := by omega
    have lp := X3_nl (S := S) (z := z) (lo := lo) (hi := hi) (s := tS L p) (n := tN L p - tS L p) (hT.v r3) (by rw [h4', ← eN']) (by omega) (tN L p - tS L p) 0 hN_f (by omega) (by unfold hN_f; omega)
    rw [show tS L p + 0 = tS L p from rfl, ← eN'] at lp
    obtain ⟨f', hf'⟩ : ∃ f', hN_f - (tN L p - tS L p) = f' + 1 := ⟨hN_f - (tN L p - tS L p) - 1, by unfold hN_f; omega⟩
    rw [hf'] at lp
    have pre : ∀ r, (if nV L p < lo then (mo_cv (hp S z M1) (z + 37) 3 (m_X3_fail (hp S z M1) (z + 37) (jI 3)) fun x11 σ10 => some (jI (-1), σ10)) else if hi < nV L p then (mo_cv (hp S z M1) (z + 37) 3 (m_X3_fail (hp S z M1) (z + 37) (jI 3)) fun x11 σ10 => some (jI (-1), σ10)) else some (jI (nV L p), hp S z M1)) = r → m_X3_readNumber (hp S z M) (z + 37) (jI lo) (jI hi) = r := by
      intro r hr
      rw [← hr]
      have g : ¬ ((tN L p : Nat) : Int) < tN L p := by omega
      unfold m_X3_readNumber
      simp (disch := omega) only [ji1, ji2, ji3, ji4, ji5, ji6, ji7, ji8, ji9, ji10, ji11, ji12, ji13, ji14, ji15, ji16, ji19, ji20, ji24, ji31, ji32, ji39, ji45, ji48, ji57, ji58, ji59, ji60, ji97, ji100, ji119, ji120, ji122, ji144, ji200, ji226, ji240, ji255, ji300, ji366, ji400, ji500, ji1000, jI_z, ↓jI_m1, jI_add, jI_sub, jI_mul, ↓hg37_0, ↓hg37_1, hw37_1, ↓hg37_2, hw37_2, ↓hg37_3, hw37_3, ↓hg37_4, hw37_4, ↓hg37_5, hw37_5, ↓hg37_6, hw37_6, ↓hg37_7, hw37_7, ↓hg37_8, hw37_8, ↓hg37_9, ↓hv37, ↓hx37, ha38, hu38, ↓hl38]
      rw [r1]
      simp (disch := omega) only [↓mo_ns_r, ↓hn0, ↓mo_cs_s, ↓mo_xs_r, ↓mo_xs_l, ↓mo_nl_s, mo_z_0, mo_z_1, ↓hg37_0, ↓hg37_1, hw37_1, ↓hg37_2, hw37_2, ↓hg37_3, hw37_3, ↓hg37_4, hw37_4, ↓hg37_5, hw37_5, ↓hg37_6, hw37_6, ↓hg37_7, hw37_7, ↓hg37_8, hw37_8, ↓hg37_9, ↓hv37, ↓hx37, ha38, hu38, ↓hl38, h5, jI_eq, e2, if_true, h3, ji1, ji2, ji3, ji4, ji5, ji6, ji7, ji8, ji9, ji10, ji11, ji12, ji13, ji14, ji15, ji16, ji19, ji20, ji24, ji31, ji32, ji39, ji45, ji48, ji57, ji58, ji59, ji60, ji97, ji100, ji119, ji120, ji122, ji144, ji200, ji226, ji240, ji255, ji300, ji366, ji400, ji500, ji1000, jI_z, ↓jI_m1, jI_add, jI_sub, jI_mul]
      rw [show jI 0 = jI (numV L (tS L p) 0) from rfl, lp]
      unfold m_X3_readNumber_l28
      show _ = (if nV L p < lo then _ else _)
      unfold nV at n1 n2 ⊢
      simp (disch := omega) only [ji1, ji2, ji3, ji4, ji5, ji6, ji7, ji8, ji9, ji10, ji11, ji12, ji13, ji14, ji15, ji16, ji19, ji20, ji24, ji31, ji32, ji39, ji45, ji48, ji57, ji58, ji59, ji60, ji97, ji100, ji119, ji120, ji122, ji144, ji200, ji226, ji240, ji255, ji300, ji366, ji400, ji500, ji1000, jI_z, ↓jI_m1, jI_add, jI_sub, jI_mul, ↓hg37_0, ↓hg37_1, hw37_1, ↓hg37_2, hw37_2, ↓hg37_3, hw37_3, ↓hg37_4, hw37_4, ↓hg37_5, hw37_5, ↓hg37_6, hw37_6, ↓hg37_7, hw37_7, ↓hg37_8, hw37_8, ↓hg37_9, ↓hv37, ↓hx37, ha38, hu38, ↓hl38, h4', jI_lt, g, if_false]
    by_cases hv : lo ≤ nV L p ∧ nV L p ≤ hi
    · rw [if_pos hv]
      exact Or.inr ⟨_, M1, rfl, hv.1, hv.2, pre _ (by rw [if_neg (by omega), if_neg (by omega)]), ⟨h3, h4', h5⟩, r3⟩
    · rw [if_neg hv]
      obtain ⟨M2, s1, s2, s3⟩ := X3_fl (S := S) (z := z) (c := 3) h3
      refine Or.inl ⟨_, M2, rfl, pre _ ?_, s2, r3.x.trans s3⟩
      simp only [↓hg37_0, ↓hg37_1, hw37_1, ↓hg37_2, hw37_2, ↓hg37_3, hw37_3, ↓hg37_4, hw37_4, ↓hg37_5, hw37_5, ↓hg37_6, hw37_6, ↓hg37_7, hw37_7, ↓hg37_8, hw37_8, ↓hg37_9, ↓hv37, ↓hx37, ha38, hu38, ↓hl38]
      rw [s1]
      by_cases g1 : nV L p < lo
      · rw [if_pos g1]; rfl
      · rw [if_neg g1, if_pos (by omega)]; rfl
  · rw [if_neg e2]
    obtain ⟨M2, s1, s2, s3⟩ := X3_fl (S := S) (z := z) (c := 1) h3
    refine Or.inl ⟨_, M2, rfl, ?_, s2, r3.x.trans s3⟩
    unfold m_X3_readNumber
    simp (disch := omega) only [ji1, ji2, ji3, ji4, ji5, ji6, ji7, ji8, ji9, ji10, ji11, ji12, ji13, ji14, ji15, ji16, ji19, ji20, ji24, ji31, ji32, ji39, ji45, ji48, ji57, ji58, ji59, ji60, ji97, ji100, ji119, ji120, ji122, ji144, ji200, ji226, ji240, ji255, ji300, ji366, ji400, ji500, ji1000, jI_z, ↓jI_m1, jI_add, jI_sub, jI_mul, ↓hg37_0, ↓hg37_1, hw37_1, ↓hg37_2, hw37_2, ↓hg37_3, hw37_3, ↓hg37_4, hw37_4, ↓hg37_5, hw37_5, ↓hg37_6, hw37_6, ↓hg37_7, hw37_7, ↓hg37_8, hw37_8, ↓hg37_9, ↓hv37, ↓hx37, ha38, hu38, ↓hl38]
    rw [r1]
    simp (disch := omega) only [↓mo_ns_r, ↓hn0, ↓mo_cs_s, ↓mo_xs_r, ↓mo_xs_l, ↓mo_nl_s, mo_z_0, mo_z_1, ↓hg37_0, ↓hg37_1, hw37_1, ↓hg37_2, hw37_2, ↓hg37_3, hw37_3, ↓hg37_4, hw37_4, ↓hg37_5, hw37_5, ↓hg37_6, hw37_6, ↓hg37_7, hw37_7, ↓hg37_8, hw37_8, ↓hg37_9, ↓hv37, ↓hx37, ha38, hu38, ↓hl38, h5, jI_eq, e2, if_false]
    rw [s1]
    rfl
theorem X3_set {z : Nat} {L : List Int} {M : hM} {s : hP} {k : Int} (hT : TX M L) (ho : okP L s) (h : PC M s) (hk : 0 ≤ k ∧ k ≤ 7) : RX S z M (m_X3_readSetting (hp S z M) (z + 37) (jI k)) (sSet L k s) := by
  obtain ⟨b1, b2, b3, b4⟩ := lh_in hk
  have n0 : ¬ k < 0 := by omega
  have n8 : k < 8 := by omega
  have pre : ∀ r, (mo_cs (m_X3_readNumber (hp S z M) (z + 37) (jI (loV k)) (jI (hiV k))) fun x4 σ3 => if x4 = jI (-1) then some (jI 0, σ3) else mo_gr σ3 (z + 37) 3 9 fun x5 => mo_cv σ3 x5 0 (m_X0_changeSetting σ3 x5 (jI k) x4) fun _ σ6 => some (jI 1, σ6)) = r → m_X3_readSetting (hp S z M) (z + 37) (jI k) = r := by
    intro r hr
    rw [← hr]
    unfold m_X3_readSetting
    simp (disch := omega) only [ji1, ji2, ji3, ji4, ji5, ji6, ji7, ji8, ji9, ji10, ji11, ji12, ji13, ji14, ji15, ji16, ji19, ji20, ji24, ji31, ji32, ji39, ji45, ji48, ji57, ji58, ji59, ji60, ji97, ji100, ji119, ji120, ji122, ji144, ji200, ji226, ji240, ji255, ji300, ji366, ji400, ji500, ji1000, jI_z, ↓jI_m1, jI_add, jI_sub, jI_mul, jI_lt, n0, n8, if_true, if_false, mo_tj, ↓hg37_0, ↓hg37_1, hw37_1, ↓hg37_2, hw37_2, ↓hg37_3, hw37_3, ↓hg37_4, hw37_4, ↓hg37_5, hw37_5, ↓hg37_6, hw37_6, ↓hg37_7, hw37_7, ↓hg37_8, hw37_8, ↓hg37_9, ↓hv37, ↓hx37, ha38, hu38, ↓hl38, ↓mo_ns_r, ↓hn0, ↓mo_cs_s, ↓mo_xs_r, ↓mo_xs_l, ↓mo_nl_s, mo_z_0, mo_z_1]
    rfl
  unfold sSet
  rcases X3_num (S := S) (z := z) (lo := loV k) (hi := hiV k) hT ho.2 h.2 (by omega) (by omega) with ⟨e, M1, r1, r2, r3, r4⟩ | ⟨v, M1, r1, r2, r3, r4, r5, r6⟩
  · rw [r1]
    refine ⟨M1, pre _ ?_, r3, r4⟩
    rw [r2]
    simp (disch := omega) only [↓mo_ns_r, ↓hn0, ↓mo_cs_s, ↓mo_xs_r, ↓mo_xs_l, ↓mo_nl_s, mo_z_0, mo_z_1, if_true]
  · rw [r1]
    have h1 := h.1.v r6
    obtain ⟨M2, s1, s2, s3, s4⟩ := X0_chs (S := S) (z := z) (b := 39) (v := v) (k := k) rfl h1.1 (by omega) (by omega)
    have hs3 : Fr 39 44 M1 M2 := s3
    have F2 := FX_of hs3 s4
    obtain ⟨n, w1, w2⟩ := h1.2.1
    have g37 : ∀ j, gI M2 37 j = gI M1 37 j := fun j => (hs3 37 (by omega)).1 j
    refine ⟨M2, pre _ ?_, ⟨⟨s2, ⟨n, by rw [g37]; exact w1, w2⟩, by rw [g37]; exact h1.2.2.1, by rw [g37]; exact h1.2.2.2⟩, by rw [g37]; exact r5.2.1⟩, r6.x.trans F2⟩
    rw [r4]
    simp (disch := omega) only [↓mo_ns_r, ↓hn0, ↓mo_cs_s, ↓mo_xs_r, ↓mo_xs_l, ↓mo_nl_s, mo_z_0, mo_z_1, jI_eq, show ¬ v = -1 by omega, if_false, ↓hg37_0, ↓hg37_1, hw37_1, ↓hg37_2, hw37_2, ↓hg37_3, hw37_3, ↓hg37_4, hw37_4, ↓hg37_5, hw37_5, ↓hg37_6, hw37_6, ↓hg37_7, hw37_7, ↓hg37_8, hw37_8, ↓hg37_9, ↓hv37, ↓hx37, ha38, hu38, ↓hl38, ↓Bv (b := 39) rfl]
    rw [s1]
    rfl
theorem X3_semi {z : Nat} {L : List Int} {M : hM} {s : hP} (hT : TX M L) (ho : okP L s) (h : PC M s) : RX S z M (m_X3_readSemicolon (hp S z M) (z + 37)) (sSemi L s) := by
  obtain ⟨M1, r1, ⟨h3, h4, h5⟩, r3⟩ := X3_adv (S := S) (z := z) hT ho.2 h.2
  have hk' : 0 ≤ tK L s.2.2 ∧ tK L s.2.2 ≤ 4 := eK_in
  unfold sSemi
  by_cases e : tK L s.2.2 = 3
  · rw [if_pos e]
    refine ⟨M1, ?_, ⟨h.1.v r3, h4⟩, r3.x⟩
    unfold m_X3_readSemicolon
    simp (disch := omega) only [ji1, ji2, ji3, ji4, ji5, ji6, ji7, ji8, ji9, ji10, ji11, ji12, ji13, ji14, ji15, ji16, ji19, ji20, ji24, ji31, ji32, ji39, ji45, ji48, ji57, ji58, ji59, ji60, ji97, ji100, ji119, ji120, ji122, ji144, ji200, ji226, ji240, ji255, ji300, ji366, ji400, ji500, ji1000, jI_z, ↓jI_m1, jI_add, jI_sub, jI_mul, ↓hg37_0, ↓hg37_1, hw37_1, ↓hg37_2, hw37_2, ↓hg37_3, hw37_3, ↓hg37_4, hw37_4, ↓hg37_5, hw37_5, ↓hg37_6, hw37_6, ↓hg37_7, hw37_7, ↓hg37_8, hw37_8, ↓hg37_9, ↓hv37, ↓hx37, ha38, hu38, ↓hl38]
    rw [r1]
    simp (disch := omega) only [↓mo_ns_r, ↓hn0, ↓mo_cs_s, ↓mo_xs_r, ↓mo_xs_l, ↓mo_nl_s, mo_z_0, mo_z_1, ↓hg37_0, ↓hg37_1, hw37_1, ↓hg37_2, hw37_2, ↓hg37_3, hw37_3, ↓hg37_4, hw37_4, ↓hg37_5, hw37_5, ↓hg37_6, hw37_6, ↓hg37_7, hw37_7, ↓hg37_8, hw37_8, ↓hg37_9, ↓hv37, ↓hx37, ha38, hu38, ↓hl38, h5, jI_eq, e, if_true]
  · rw [if_neg e]
    obtain ⟨M2, s1, s2, s3⟩ := X3_fl (S := S) (z := z) (c := 1) h3
    refine ⟨M2, ?_, s2, r3.x.trans s3⟩
    unfold m_X3_readSemicolon
    simp (disch := omega) only [ji1, ji2, ji3, ji4, ji5, ji6, ji7, ji8, ji9, ji10, ji11, ji12, ji13, ji14, ji15, ji16, ji19, ji20, ji24, ji31, ji32, ji39, ji45, ji48, ji57, ji58, ji59, ji60, ji97, ji100, ji119, ji120, ji122, ji144, ji200, ji226, ji240, ji255, ji300, ji366, ji400, ji500, ji1000, jI_z, ↓jI_m1, jI_add, jI_sub, jI_mul, ↓hg37_0, ↓hg37_1, hw37_1, ↓hg37_2, hw37_2, ↓hg37_3, hw37_3, ↓hg37_4, hw37_4, ↓hg37_5, hw37_5, ↓hg37_6, hw37_6, ↓hg37_7, hw37_7, ↓hg37_8, hw37_8, ↓hg37_9, ↓hv37, ↓hx37, ha38, hu38, ↓hl38]
    rw [r1]
    simp (disch := omega) only [↓mo_ns_r, ↓hn0, ↓mo_cs_s, ↓mo_xs_r, ↓mo_xs_l, ↓mo_nl_s, mo_z_0, mo_z_1, ↓hg37_0, ↓hg37_1, hw37_1, ↓hg37_2, hw37_2, ↓hg37_3, hw37_3, ↓hg37_4, hw37_4, ↓hg37_5, hw37_5, ↓hg37_6, hw37_6, ↓hg37_7, hw37_7, ↓hg37_8, hw37_8, ↓hg37_9, ↓hv37, ↓hx37, ha38, hu38, ↓hl38, h5, jI_eq, e, if_false]
    rw [s1]
    simp (disch := omega) only [↓mo_ns_r, ↓hn0, ↓mo_cs_s, ↓mo_xs_r, ↓mo_xs_l, ↓mo_nl_s, mo_z_0, mo_z_1, if_true]


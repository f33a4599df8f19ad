variable {S : hSh}
/-! BENCHES of the class: their settings and faults, by lists. -/
abbrev hF : Type := Int × Int × Int
abbrev hCf : Type := (Nat → Int) × List hF
/-- the Bench at b describes c -/
def BR (M : hM) (b : Nat) (c : hCf) : Prop := (∀ k, k < 8 → gA M (b + 1) k = c.1 k) ∧ gI M b 4 = c.2.length ∧ ∀ i x, c.2[i]? = some x → gA M (b + 2) i = x.1 ∧ gA M (b + 3) i = x.2.1 ∧ gA M (b + 4) i = x.2.2
/-- a fault, a setting within their bounds -/
def okF (x : hF) : Prop := 0 ≤ x.1 ∧ x.1 ≤ 2 ∧ 0 ≤ x.2.1 ∧ x.2.1 < 120 ∧ 0 ≤ x.2.2 ∧ x.2.2 ≤ 20
def okC (c : hCf) : Prop := c.2.length ≤ 10 ∧ (∀ x ∈ c.2, okF x) ∧ ∀ k, k < 8 → ((ac_T 1).getD k 0).toInt ≤ c.1 k ∧ c.1 k ≤ ((ac_T 2).getD k 0).toInt
def okW (v : Int) : Prop := -2147483648 ≤ v ∧ v < 2147483648
theorem okC.at {c : hCf} (h : okC c) {i : Nat} {x : hF} (hi : c.2[i]? = some x) : okF x := h.2.1 x (List.mem_of_getElem? hi)
/-- what an operation leaves as it was -/
def Fr (lo hi : Nat) (M M' : hM) : Prop := ∀ a, a < lo ∨ hi ≤ a → (∀ k, gI M' a k = gI M a k) ∧ ∀ k, gA M' a k = gA M a k
def Vr (M M' : hM) : Prop := ∀ k, gV M' k = gV M k
theorem Fr.rfl' {lo hi : Nat} {M : hM} : Fr lo hi M M := fun _ _ => ⟨fun _ => rfl, fun _ => rfl⟩
theorem Fr.trans {lo hi : Nat} {M M' M'' : hM} (h : Fr lo hi M M') (h' : Fr lo hi M' M'') : Fr lo hi M M'' := fun a ha => ⟨fun k => ((h' a ha).1 k).trans ((h a ha).1 k), fun k => ((h' a ha).2 k).trans ((h a ha).2 k)⟩
theorem Fr.mono {lo hi lo' hi' : Nat} {M M' : hM} (h : Fr lo hi M M') (h1 : lo' ≤ lo) (h2 : hi ≤ hi') : Fr lo' hi' M M' := fun a ha => h a (by omega)
theorem Fr.sI {lo hi a k : Nat} {v : Int} {M : hM} (h : lo ≤ a ∧ a < hi) : Fr lo hi M (sI M a k v) := fun b hb => ⟨fun j => by rw [gI_sI, if_neg (by omega)], fun j => gA_sI⟩
theorem Fr.sA {lo hi a k : Nat} {v : Int} {M : hM} (h : lo ≤ a ∧ a < hi) : Fr lo hi M (sA M a k v) := fun b hb => ⟨fun j => gI_sA, fun j => by rw [gA_sA, if_neg (by omega)]⟩
theorem Vr.rfl' {M : hM} : Vr M M := fun _ => rfl
theorem Vr.trans {M M' M'' : hM} (h : Vr M M') (h' : Vr M' M'') : Vr M M'' := fun k => (h' k).trans (h k)
theorem BR.keep {M M' : hM} {b lo hi : Nat} {c : hCf} (h : BR M b c) (hf : Fr lo hi M M') (hd : b + 5 ≤ lo ∨ hi ≤ b) : BR M' b c := by
  refine ⟨fun k hk => ?_, ?_, fun i x hx => ?_⟩
  · rw [(hf (b + 1) (by omega)).2, h.1 k hk]
  · rw [(hf b (by omega)).1, h.2.1]
  · rw [(hf (b + 2) (by omega)).2, (hf (b + 3) (by omega)).2, (hf (b + 4) (by omega)).2]; exact h.2.2 i x hx
theorem X0_setting {z b : Nat} {M : hM} {k : Int} (hb : isB b = true) (h0 : 0 ≤ k) (h1 : k < 8) : m_X0_setting (hp S z M) (z + b) (jI k) = some (jI (gA M (b + 1) k.toNat), hp S z M) := by
  unfold m_X0_setting
  rw [if_neg (jI_nonneg h0 (by omega))]
  simp (disch := omega) only [ji1, ji2, ji3, ji4, ji5, ji6, ji7, ji8, ji9, ji10, ji11, ji12, ji13, ji14, ji15, ji16, ji19, ji20, ji24, ji31, ji32, ji39, ji45, ji48, ji57, ji58, ji59, ji60, ji97, ji100, ji119, ji120, ji122, ji144, ji200, ji226, ji240, ji255, ji300, ji366, ji400, ji500, ji1000, jI_z, ↓jI_m1, jI_add, jI_sub, jI_mul, jI_lt, ↓Bg0 hb, ↓Bg1 hb, ↓Bg2 hb, ↓Bg3 hb, ↓Bg5 hb, ↓Bg4 hb, Bw4 hb, ↓Bv hb, Ba1 hb, Bu1 hb, Ba2 hb, Bu2 hb, Ba3 hb, Bu3 hb, Ba4 hb, Bu4 hb, h1, if_true]
theorem X0_count {z b : Nat} {M : hM} (hb : isB b = true) : m_X0_faultCount (hp S z M) (z + b) = some (jI (gI M b 4), hp S z M) := by
  unfold m_X0_faultCount
  simp (disch := omega) only [↓Bg0 hb, ↓Bg1 hb, ↓Bg2 hb, ↓Bg3 hb, ↓Bg5 hb, ↓Bg4 hb, Bw4 hb, ↓Bv hb, Ba1 hb, Bu1 hb, Ba2 hb, Bu2 hb, Ba3 hb, Bu3 hb, Ba4 hb, Bu4 hb]
theorem X0_rec {z b : Nat} {M : hM} (hb : isB b = true) : m_X0_recordedStates (hp S z M) (z + b) = some (z + (b + 5), hp S z M) := by
  unfold m_X0_recordedStates
  simp (disch := omega) only [↓Bg0 hb, ↓Bg1 hb, ↓Bg2 hb, ↓Bg3 hb, ↓Bg5 hb, ↓Bg4 hb, Bw4 hb, ↓Bv hb, Ba1 hb, Bu1 hb, Ba2 hb, Bu2 hb, Ba3 hb, Bu3 hb, Ba4 hb, Bu4 hb]
def fnd (kd nm : Int) : List hF → Nat → Int
  | [], _ => -1
  | x :: t, i => if x.2.1 = nm ∧ x.1 = kd then i else fnd kd nm t (i + 1)
theorem X0_find_l {z b : Nat} {M : hM} {c : hCf} {kd nm : Int} (hb : isB b = true) (h : BR M b c) (hc : okC c) (hk : okW kd) (hn : okW nm) : ∀ (l : List hF) (i n : Nat), c.2.drop i = l → l.length < n → i ≤ c.2.length → m_X0_findFault_l2 (z + b) (jI kd) (jI nm) n (hp S z M) (jI i) = some (jI (fnd kd nm l i), hp S z M) := by
  obtain ⟨hk0, hk1⟩ := hk
  obtain ⟨hn0, hn1⟩ := hn
  have hlen := hc.1
  intro l
  induction l with
  | nil =>
    intro i n hl hn hi
    have hi' : c.2.length ≤ i := by simpa using hl
    obtain ⟨n, rfl⟩ : ∃ k, n = k + 1 := ⟨n - 1, by simp at hn; omega⟩
    unfold m_X0_findFault_l2
    have e : gI M b 4 = c.2.length := h.2.1
    by_cases h10 : (i : Int) < 10
    · simp (disch := omega) only [ji1, ji2, ji3, ji4, ji5, ji6, ji7, ji8, ji9, ji10, ji11, ji12, ji13, ji14, ji15, ji16, ji19, ji20, ji24, ji31, ji32, ji39, ji45, ji48, ji57, ji58, ji59, ji60, ji97, ji100, ji119, ji120, ji122, ji144, ji200, ji226, ji240, ji255, ji300, ji366, ji400, ji500, ji1000, jI_z, ↓jI_m1, jI_add, jI_sub, jI_mul, jI_lt, ↓Bg0 hb, ↓Bg1 hb, ↓Bg2 hb, ↓Bg3 hb, ↓Bg5 hb, ↓Bg4 hb, Bw4 hb, ↓Bv hb, Ba1 hb, Bu1 hb, Ba2 hb, Bu2 hb, Ba3 hb, Bu3 hb, Ba4 hb, Bu4 hb, h10, if_true, e]
      rw [if_neg (by omega)]; rfl
    · simp (disch := omega) only [ji1, ji2, ji3, ji4, ji5, ji6, ji7, ji8, ji9, ji10, ji11, ji12, ji13, ji14, ji15, ji16, ji19, ji20, ji24, ji31, ji32, ji39, ji45, ji48, ji57, ji58, ji59, ji60, ji97, ji100, ji119, ji120, ji122, ji144, ji200, ji226, ji240, ji255, ji300, ji366, ji400, ji500, ji1000, jI_z, ↓jI_m1, jI_add, jI_sub, jI_mul, jI_lt, ↓Bg0 hb, ↓Bg1 hb, ↓Bg2 hb, ↓Bg3 hb, ↓Bg5 hb, ↓Bg4 hb, Bw4 hb, ↓Bv hb, Ba1 hb, Bu1 hb, Ba2 hb, Bu2 hb, Ba3 hb, Bu3 hb, Ba4 hb, Bu4 hb, h10, if_false]; rfl
  | cons x t ih =>
    intro i n hl hn hi
    have hx : c.2[i]? = some x := by
      have := congrArg (fun l => l[0]?) hl
      simpa using this
    have hi' : i < c.2.length := (List.getElem?_eq_some_iff.mp hx).1
    have ht : c.2.drop (i + 1) = t := by
      have := congrArg List.tail hl
      simpa using this
    obtain ⟨n, rfl⟩ : ∃ k, n = k + 1 := ⟨n - 1, by simp at hn; omega⟩
    obtain ⟨e1, e2, e3⟩ := h.2.2 i x hx
    obtain ⟨o1, o2, o3, o4, o5, o6⟩ := hc.at hx
    have e : gI M b 4 = c.2.length := h.2.1
    have IH := ih (i + 1) n ht (by simp at hn; omega) (by omega)
    have ec : ((i + 1 : Nat) : Int) = (i : Int) + 1 := by omega
    rw [ec] at IH
    have h10 : (i : Int) < 10 := by omega
    have hil : (i : Int) < c.2.length := by omega
    unfold m_X0_findFault_l2
    simp (disch := omega) only [ji1, ji2, ji3, ji4, ji5, ji6, ji7, ji8, ji9, ji10, ji11, ji12, ji13, ji14, ji15, ji16, ji19, ji20, ji24, ji31, ji32, ji39, ji45, ji48, ji57, ji58, ji59, ji60, ji97, ji100, ji119, ji120, ji122, ji144, ji200, ji226, ji240, ji255, ji300, ji366, ji400, ji500, ji1000, jI_z, ↓jI_m1, jI_add, jI_sub, jI_mul, jI_lt, jI_eq, ↓Bg0 hb, ↓Bg1 hb, ↓Bg2 hb, ↓Bg3 hb, ↓Bg5 hb, ↓Bg4 hb, Bw4 hb, ↓Bv hb, Ba1 hb, Bu1 hb, Ba2 hb, Bu2 hb, Ba3 hb, Bu3 hb, Ba4 hb, Bu4 hb, h10, if_true, e, hil, Int.toNat_natCast, e1, e2]
    by_cases g1 : x.2.1 = nm
    · by_cases g2 : x.1 = kd
      · rw [if_pos g1, if_pos g2]; simp only [fnd, g1, g2, and_self, if_true]
      · rw [if_pos g1, if_neg g2, IH]; simp only [fnd, g2, and_false, if_false]
    · rw [if_neg g1, IH]; simp only [fnd, g1, false_and, if_false]
theorem X0_find {z b : Nat} {M : hM} {c : hCf} {kd nm : Int} (hb : isB b = true) (h : BR M b c) (hc : okC c) (hk : okW kd) (hn : okW nm) : m_X0_findFault (hp S z M) (z + b) (jI kd) (jI nm) = some (jI (fnd kd nm c.2 0), hp S z M) := by
  unfold m_X0_findFault
  exact X0_find_l hb h hc hk hn c.2 0 hN_f (by simp) (by have := hc.1; unfold hN_f; omega) (by omega)


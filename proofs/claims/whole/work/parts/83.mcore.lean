/-! THE MODEL'S CORE: the part that comes ahead of all others. -/
theorem ahd_00 : ∀ N, ahd N 0 0 = false := by
  intro N
  induction N with
  | zero => rfl
  | succ N ih => simp only [ahd, Nat.zero_mod, Nat.zero_div, if_true]; exact ih
theorem ahd_ext : ∀ (n N a b : Nat), n ≤ N → a < 2 ^ n → b < 2 ^ n → ahd N a b = ahd n a b := by
  intro n
  induction n with
  | zero =>
    intro N a b _ ha hb
    have ha0 : a = 0 := by simpa using ha
    have hb0 : b = 0 := by simpa using hb
    subst ha0; subst hb0
    rw [ahd_00, ahd_00]
  | succ n ih =>
    intro N a b hN ha hb
    obtain ⟨N, rfl⟩ : ∃ k, N = k + 1 := ⟨N - 1, by omega⟩
    rw [Nat.pow_succ] at ha hb
    have IH := ih N (a / 2) (b / 2) (by omega) (by omega) (by omega)
    simp only [ahd, IH]
theorem neg_mask {x d : Nat} (hx : x < 1024) (hd : d < 1024) : x &&& ((2 ^ 32 - d) % 2 ^ 32) = x &&& ((1024 - d) % 1024) := by
  have e1 : ∀ y, x &&& y = x &&& (y % 1024) := by
    intro y
    have h1 : x &&& y ≤ x := Nat.and_le_left
    have h2 : (x &&& y) % 2 ^ 10 = x &&& y := Nat.mod_eq_of_lt (by omega)
    rw [← h2, Nat.and_mod_two_pow, Nat.mod_eq_of_lt (show x < 2 ^ 10 from hx)]
  rw [e1]
  congr 1
  omega
theorem jI_negand {x d : Nat} (hx : x < 1024) (hd : d < 1024) : (jI (x : Int) &&& -(jI (d : Int))) = jI ((x &&& ((1024 - d) % 1024) : Nat) : Int) := by
  rw [jI_nat, jI_nat, jI_nat, ← neg_mask hx hd]
  apply Int32.toBitVec_inj.mp
  apply BitVec.eq_of_toNat_eq
  have h1 : x &&& ((2 ^ 32 - d) % 2 ^ 32) ≤ x := Nat.and_le_left
  show (BitVec.ofNat 32 x &&& -(BitVec.ofNat 32 d)).toNat = (BitVec.ofNat 32 (x &&& ((2 ^ 32 - d) % 2 ^ 32))).toNat
  rw [BitVec.toNat_and, BitVec.toNat_neg, BitVec.toNat_ofNat, BitVec.toNat_ofNat, BitVec.toNat_ofNat, Nat.mod_eq_of_lt (show x < 2 ^ 32 by omega), Nat.mod_eq_of_lt (show d < 2 ^ 32 by omega), Nat.mod_eq_of_lt (show x &&& ((2 ^ 32 - d) % 2 ^ 32) < 2 ^ 32 by omega)]
theorem X7_ahead {σ : ac_H} {a b : Nat} (ha : a < 1024) (hb : b < 1024) : m_X7_comesAhead σ (jI a) (jI b) = some (jI (b2i (ahd 10 a b)), σ) := by
  have hx : a ^^^ b < 2 ^ 10 := Nat.xor_lt_two_pow ha hb
  have hy : a &&& (a ^^^ b) ≤ a := Nat.and_le_left
  have e : (a &&& (a ^^^ b)) &&& ((1024 - (a ^^^ b)) % 1024) = a &&& low 10 (a ^^^ b) := by
    rw [Nat.and_assoc, loT_at 1024 loT_ok (a ^^^ b) (by omega)]
  have h := low_ahd 10 a b
  have hz : a &&& low 10 (a ^^^ b) ≤ a := Nat.and_le_left
  unfold m_X7_comesAhead
  rw [jI_xor (by omega) (by omega), jI_and (by omega) (by omega), jI_negand (by omega) (by omega), e]
  cases hq : ahd 10 a b with
  | true =>
    rw [hq] at h
    have h1 : a &&& low 10 (a ^^^ b) ≠ 0 := h.mpr rfl
    rw [if_neg (by rw [jI_z, jI_eq (by omega) (by omega) (by omega) (by omega)]; omega), ji1, mo_z_1]; rfl
  | false =>
    rw [hq] at h
    have h1 : a &&& low 10 (a ^^^ b) = 0 := Classical.byContradiction (fun g => by simpa using h.mp g)
    rw [if_pos (by rw [h1]; rfl), jI_z, mo_z_0]; rfl
/-- what a question leaves as it was: all but the trial row, the run, whose run it is -/
def FQ (M M' : hM) : Prop := (∀ a, a ≠ 133 → (a < 137 ∨ 144 < a) → (∀ k, gI M' a k = gI M a k) ∧ ∀ k, gA M' a k = gA M a k) ∧ (∀ k, k < 21 ∨ 35 < k → gI M' 133 k = gI M 133 k) ∧ Vx 1 M M'
theorem FQ.rfl' {M : hM} : FQ M M := ⟨fun _ _ _ => ⟨fun _ => rfl, fun _ => rfl⟩, fun _ _ => rfl, fun _ _ => rfl⟩
theorem FQ.trans {M M' M'' : hM} (h : FQ M M') (h' : FQ M' M'') : FQ M M'' := ⟨fun a h1 h2 => ⟨fun k => ((h'.1 a h1 h2).1 k).trans ((h.1 a h1 h2).1 k), fun k => ((h'.1 a h1 h2).2 k).trans ((h.1 a h1 h2).2 k)⟩, fun k hk => (h'.2.1 k hk).trans (h.2.1 k hk), fun k hk => (h'.2.2 k hk).trans (h.2.2 k hk)⟩
theorem FrT.q {M M' : hM} (h : FrT M M') : FQ M M' := ⟨fun a _ h2 => ⟨fun k => h.2.1 a k, fun k => h.1 a k (by omega)⟩, fun k _ => h.2.1 133 k, fun k _ => h.2.2 k⟩
theorem FrM.q {M M' : hM} (h : FrM M M') (hv : Vx 1 M M') : FQ M M' := ⟨fun a h1 h2 => h.1 a h1 (by omega), fun k hk => h.2 k (by omega), hv⟩
theorem FQ.sI {M : hM} {k : Nat} {v : Int} (h : 21 ≤ k ∧ k ≤ 35) : FQ M (sI M 133 k v) := ⟨fun a h1 h2 => ⟨fun j => by rw [gI_sI, if_neg (by omega)], fun j => gA_sI⟩, fun j hj => by rw [gI_sI, if_neg (by omega)], fun _ _ => gV_sI⟩
theorem FQ.row {M M' : hM} {c : hCf} (h : FQ M M') (hR : RR (gA M 134) c) : RR (gA M' 134) c := hR.keep ((h.1 134 (by omega) (by omega)).2)
theorem RR.ok8 {f : Nat → Int} {c : hCf} (h : RR f c) : f (8 : Int).toNat = c.2.length := h.2.1
theorem okC_prt0 {c : hCf} (h : okC c) (p : Nat → Bool) : okC (c.1, prt p c.2 0) := h.prt p 0
theorem X7_try {z m p : Nat} {M : hM} {c : hCf} (hR : RR (gA M 134) c) (hc : okC c) (hm : m < 2147483648) (hp' : p < 4) :
    ∃ M1 M2, m_X7_triesPart (hp z M) (z + 133) (jI m) = some ((), hp z M1) ∧ m_X7_breaksBy (hp z M1) (z + 133) (z + 137) (jI p) = some (jI (b2i (cP c p m)), hp z M2) ∧ FQ M M2 := by
  obtain ⟨M1, r1, r2, r3⟩ := X7_tp (z := z) hc hR (bits_nat hm)
  obtain ⟨M2, s1, s2, s3, s4⟩ := X7_brk (z := z) (p := p) (Or.inr (Or.inr rfl)) (okC_prt0 hc _) r2 hp'
  exact ⟨M1, M2, r1, s1, r3.q.trans (s3.q s4)⟩
/-- the best of the parts below i -/
def isBest (n : Nat) (P : Nat → Bool) (i : Nat) : Option Nat → Prop
  | none => ∀ m, m < i → P m = false
  | some m => m < i ∧ P m = true ∧ ∀ m', m' < i → P m' = true → m' ≠ m → bef n m m'
def oI : Option Nat → Int
  | none => -1
  | some m => m
theorem X7_c57a {z p i : Nat} {o : Option Nat} {M : hM} {K : ac_H → Int32 → Int32 → Option (Int32 × ac_H)} :
    m_X7_coreOf_j57 K (z + 133) (jI p) (hp z M) (jI (oI o)) (jI i) (0 : Int32) = K (hp z M) (jI (oI o)) (jI (i + 1 : Nat)) := by
  unfold m_X7_coreOf_j57
  rw [if_pos rfl, ji1, jI_add]; rfl
theorem X7_c57b {z p i : Nat} {o : Option Nat} {M : hM} {c : hCf} {K : ac_H → Int32 → Int32 → Option (Int32 × ac_H)} (hR : RR (gA M 134) c) (hc : okC c) (hi : i < 2147483648) (hp' : p < 4) :
    ∃ M', m_X7_coreOf_j57 K (z + 133) (jI p) (hp z M) (jI (oI o)) (jI i) (1 : Int32) = K (hp z M') (jI (oI (if cP c p i = true then some i else o))) (jI (i + 1 : Nat)) ∧ FQ M M' := by
  obtain ⟨M1, M2, r1, r2, r3⟩ := X7_try (z := z) hR hc hi hp'
  refine ⟨M2, ?_, r3⟩
  unfold m_X7_coreOf_j57
  rw [if_neg (by decide)]
  simp (disch := omega) only [ji1, ji2, ji3, ji4, ji5, ji6, ji7, ji8, ji9, ji10, ji11, ji12, ji13, ji14, ji15, ji16, ji19, ji20, ji39, ji119, ji144, ji366, ji24, ji31, ji32, ji45, ji48, ji57, ji58, ji59, ji97, ji120, ji122, ji183, ji200, ji226, ji240, ji255, ji500, jI_z, ↓jI_m1, jI_add, jI_sub, jI_mul, ↓hg133_0, hw133_0, ↓hg133_1, ↓hg133_2, ↓hg133_3, hw133_3, ↓hg133_4, hw133_4, ↓hg133_5, hw133_5, ↓hg133_6, hw133_6, ↓hg133_7, hw133_7, ↓hg133_8, hw133_8, ↓hg133_9, hw133_9, ↓hg133_10, hw133_10, ↓hg133_11, hw133_11, ↓hg133_12, hw133_12, ↓hg133_13, ↓hg133_14, hw133_14, ↓hg133_15, ↓hg133_16, ↓hg133_17, ↓hg133_18, ↓hg133_19, ↓hg133_20, ↓hg133_21, hw133_21, ↓hg133_22, ↓hg133_23, hw133_23, ↓hg133_24, hw133_24, ↓hg133_25, hw133_25, ↓hg133_26, hw133_26, ↓hg133_27, hw133_27, ↓hg133_28, ↓hg133_29, hw133_29, ↓hg133_30, hw133_30, ↓hg133_31, hw133_31, ↓hg133_32, hw133_32, ↓hg133_33, hw133_33, ↓hg133_34, hw133_34, ↓hg133_35, hw133_35, ↓hg133_36, hw133_36, ↓hg133_37, ↓hg133_38, ↓hg133_39, ↓hv133, ↓hx133, ha134, hu134, ↓hl134, ha135, hu135, ↓hl135, ha136, hu136, ↓hl136, ha137, hu137, ↓hl137, ha138, hu138, ↓hl138, ha139, hu139, ↓hl139, ha140, hu140, ↓hl140, ha141, hu141, ↓hl141, ha142, hu142, ↓hl142, ha143, hu143, ↓hl143, ha144, hu144, ↓hl144, ha145, hu145, ↓hl145, ha146, hu146, ↓hl146, ha147, hu147, ↓hl147]
  rw [r1]
  simp (disch := omega) only [ji1, ji2, ji3, ji4, ji5, ji6, ji7, ji8, ji9, ji10, ji11, ji12, ji13, ji14, ji15, ji16, ji19, ji20, ji39, ji119, ji144, ji366, ji24, ji31, ji32, ji45, ji48, ji57, ji58, ji59, ji97, ji120, ji122, ji183, ji200, ji226, ji240, ji255, ji500, jI_z, ↓jI_m1, jI_add, jI_sub, jI_mul, ↓mo_cs_s, ↓mo_xs_r, ↓mo_xs_l, ↓mo_nl_s, mo_z_0, mo_z_1, ↓hg133_0, hw133_0, ↓hg133_1, ↓hg133_2, ↓hg133_3, hw133_3, ↓hg133_4, hw133_4, ↓hg133_5, hw133_5, ↓hg133_6, hw133_6, ↓hg133_7, hw133_7, ↓hg133_8, hw133_8, ↓hg133_9, hw133_9, ↓hg133_10, hw133_10, ↓hg133_11, hw133_11, ↓hg133_12, hw133_12, ↓hg133_13, ↓hg133_14, hw133_14, ↓hg133_15, ↓hg133_16, ↓hg133_17, ↓hg133_18, ↓hg133_19, ↓hg133_20, ↓hg133_21, hw133_21, ↓hg133_22, ↓hg133_23, hw133_23, ↓hg133_24, hw133_24, ↓hg133_25, hw133_25, ↓hg133_26, hw133_26, ↓hg133_27, hw133_27, ↓hg133_28, ↓hg133_29, hw133_29, ↓hg133_30, hw133_30, ↓hg133_31, hw133_31, ↓hg133_32, hw133_32, ↓hg133_33, hw133_33, ↓hg133_34, hw133_34, ↓hg133_35, hw133_35, ↓hg133_36, hw133_36, ↓hg133_37, ↓hg133_38, ↓hg133_39, ↓hv133, ↓hx133, ha134, hu134, ↓hl134, ha135, hu135, ↓hl135, ha136, hu136, ↓hl136, ha137, hu137, ↓hl137, ha138, hu138, ↓hl138, ha139, hu139, ↓hl139, ha140, hu140, ↓hl140, ha141, hu141, ↓hl141, ha142, hu142, ↓hl142, ha143, hu143, ↓hl143, ha144, hu144, ↓hl144, ha145, hu145, ↓hl145, ha146, hu146, ↓hl146, ha147, hu147, ↓hl147]
  rw [r2]
  simp (disch := omega) only [ji1, ji2, ji3, ji4, ji5, ji6, ji7, ji8, ji9, ji10, ji11, ji12, ji13, ji14, ji15, ji16, ji19, ji20, ji39, ji119, ji144, ji366, ji24, ji31, ji32, ji45, ji48, ji57, ji58, ji59, ji97, ji120, ji122, ji183, ji200, ji226, ji240, ji255, ji500, jI_z, ↓jI_m1, jI_add, jI_sub, jI_mul, ↓mo_cs_s, ↓mo_xs_r, ↓mo_xs_l, ↓mo_nl_s, mo_z_0, mo_z_1, b2i_0]
  cases cP c p i with
  | true => simp only [Bool.true_eq_false, if_false, if_true]; rfl
  | false => simp only [Bool.false_eq_true, if_true, if_false]; rfl
theorem isBest.skip {n i m : Nat} {P : Nat → Bool} (h : isBest n P i (some m)) (hb : P i = true → bef n m i) : isBest n P (i + 1) (some m) := by
  refine ⟨by have := h.1; omega, h.2.1, fun m' h1 h2 h3 => ?_⟩
  by_cases e : m' = i
  · subst e; exact hb h2
  · exact h.2.2 m' (by omega) h2 h3
theorem isBest.take {n i : Nat} {P : Nat → Bool} {o : Option Nat} (h : isBest n P i o) (hb : ∀ m, o = some m → bef n i m) : isBest n P (i + 1) (if P i = true then some i else o) := by
  cases hP : P i with
  | true =>
    rw [if_pos rfl]
    refine ⟨by omega, hP, fun m' h1 h2 h3 => ?_⟩
    cases o with
    | none =>
      have := h m' (by omega)
      rw [h2] at this; exact absurd this (by decide)
    | some m =>
      by_cases e : m' = m
      · subst e; exact hb m' rfl
      · exact bef_tr (hb m rfl) (h.2.2 m' (by omega) h2 e)
  | false =>
    rw [if_neg (by decide)]
    cases o with
    | none =>
      intro m hm
      by_cases e : m = i
      · subst e; exact hP
      · exact h m (by omega)
    | some m => exact h.skip (fun g => by rw [hP] at g; exact absurd g (by decide))
theorem ahd_bef {n a b : Nat} (hn : n ≤ 10) (ha : a < 2 ^ n) (hb : b < 2 ^ n) (hpp : pop a = pop b) : ahd 10 a b = true ↔ bef n a b := by
  rw [ahd_ext n 10 a b hn ha hb, ahd_mir]
  unfold bef; omega
theorem X7_core_l {z n p : Nat} {c : hCf} (hc : okC c) (hn : c.2.length = n) (hp' : p < 4) : ∀ (d i f : Nat) (o : Option Nat) (M : hM), i + d = 2 ^ n → d < f → RR (gA M 134) c → isBest n (cP c p) i o →
    ∃ M' o', m_X7_coreOf_l4 (z + 133) (jI p) f (hp z M) (jI (oI o)) (jI i) = some (jI (oI o'), hp z M') ∧ FQ M M' ∧ isBest n (cP c p) (2 ^ n) o' := by
  have hn10 : n ≤ 10 := by have := hc.1; omega
  have hp2 : (2 : Nat) ^ n ≤ 2 ^ 10 := Nat.pow_le_pow_right (by omega) hn10
  intro d
  induction d with
  | zero =>
    intro i f o M hi hf hR hb
    obtain ⟨f, rfl⟩ : ∃ g, f = g + 1 := ⟨f - 1, by omega⟩
    have e8 : gA M 134 (8 : Int).toNat = (n : Int) := by rw [hR.ok8, hn]
    refine ⟨M, o, ?_, FQ.rfl', by rw [show 2 ^ n = i by omega]; exact hb⟩
    unfold m_X7_coreOf_l4
    simp (disch := omega) only [ji1, ji2, ji3, ji4, ji5, ji6, ji7, ji8, ji9, ji10, ji11, ji12, ji13, ji14, ji15, ji16, ji19, ji20, ji39, ji119, ji144, ji366, ji24, ji31, ji32, ji45, ji48, ji57, ji58, ji59, ji97, ji120, ji122, ji183, ji200, ji226, ji240, ji255, ji500, jI_z, ↓jI_m1, jI_add, jI_sub, jI_mul, ↓hg133_0, hw133_0, ↓hg133_1, ↓hg133_2, ↓hg133_3, hw133_3, ↓hg133_4, hw133_4, ↓hg133_5, hw133_5, ↓hg133_6, hw133_6, ↓hg133_7, hw133_7, ↓hg133_8, hw133_8, ↓hg133_9, hw133_9, ↓hg133_10, hw133_10, ↓hg133_11, hw133_11, ↓hg133_12, hw133_12, ↓hg133_13, ↓hg133_14, hw133_14, ↓hg133_15, ↓hg133_16, ↓hg133_17, ↓hg133_18, ↓hg133_19, ↓hg133_20, ↓hg133_21, hw133_21, ↓hg133_22, ↓hg133_23, hw133_23, ↓hg133_24, hw133_24, ↓hg133_25, hw133_25, ↓hg133_26, hw133_26, ↓hg133_27, hw133_27, ↓hg133_28, ↓hg133_29, hw133_29, ↓hg133_30, hw133_30, ↓hg133_31, hw133_31, ↓hg133_32, hw133_32, ↓hg133_33, hw133_33, ↓hg133_34, hw133_34, ↓hg133_35, hw133_35, ↓hg133_36, hw133_36, ↓hg133_37, ↓hg133_38, ↓hg133_39, ↓hv133, ↓hx133, ha134, hu134, ↓hl134, ha135, hu135, ↓hl135, ha136, hu136, ↓hl136, ha137, hu137, ↓hl137, ha138, hu138, ↓hl138, ha139, hu139, ↓hl139, ha140, hu140, ↓hl140, ha141, hu141, ↓hl141, ha142, hu142, ↓hl142, ha143, hu143, ↓hl143, ha144, hu144, ↓hl144, ha145, hu145, ↓hl145, ha146, hu146, ↓hl146, ha147, hu147, ↓hl147, e8]
    rw [jS (by omega) (by omega), Int.toNat_natCast, if_neg (by rw [jI_lt (by omega) (by omega) (by omega) (by omega)]; omega)]
  | succ d ih =>
    intro i f o M hi hf hR hb
    obtain ⟨f, rfl⟩ : ∃ g, f = g + 1 := ⟨f - 1, by omega⟩
    have e8 : gA M 134 (8 : Int).toNat = (n : Int) := by rw [hR.ok8, hn]
    have hpi := pop_le i
    have on1 := fun σ => X7_ones (σ := σ) (m := i) (by omega)
    have pre : ∀ r, (if jI (oI o) = jI (-1) then m_X7_coreOf_j57 (fun ρ y0 y1 => m_X7_coreOf_l4 (z + 133) (jI p) f ρ y0 y1) (z + 133) (jI p) (hp z M) (jI (oI o)) (jI i) (1 : Int32) else (mo_cs (m_X7_ones (hp z M) (jI i)) fun x7 σ6 =>
    mo_cs (m_X7_ones σ6 (jI (oI o))) fun x9 σ8 =>
    if x7 < x9 then
    (m_X7_coreOf_j57 (fun ρ y0 y1 => m_X7_coreOf_l4 (z + 133) (jI p) f ρ y0 y1) (z + 133) (jI p) σ8 (jI (oI o)) (jI i) (1 : Int32))
    else
    (mo_cs (m_X7_ones σ8 (jI i)) fun x11 σ10 =>
    mo_cs (m_X7_ones σ10 (jI (oI o))) fun x13 σ12 =>
    if x11 = x13 then
    (mo_cs (m_X7_comesAhead σ12 (jI i) (jI (oI o))) fun x15 σ14 =>
    if x15 = 0 then
    (m_X7_coreOf_j57 (fun ρ y0 y1 => m_X7_coreOf_l4 (z + 133) (jI p) f ρ y0 y1) (z + 133) (jI p) σ14 (jI (oI o)) (jI i) (0 : Int32))
    else
    (m_X7_coreOf_j57 (fun ρ y0 y1 => m_X7_coreOf_l4 (z + 133) (jI p) f ρ y0 y1) (z + 133) (jI p) σ14 (jI (oI o)) (jI i) (1 : Int32)))
    else
    (m_X7_coreOf_j57 (fun ρ y0 y1 => m_X7_coreOf_l4 (z + 133) (jI p) f ρ y0 y1) (z + 133) (jI p) σ12 (jI (oI o)) (jI i) (0 : Int32))))) = r → m_X7_coreOf_l4 (z + 133) (jI p) (f + 1) (hp z M) (jI (oI o)) (jI i) = r := by
      intro r hr
      rw [← hr]
      conv => lhs; unfold m_X7_coreOf_l4
      rw [hg133_1, ji8, Ra (Or.inl rfl) (by omega) (by omega), e8, ji1, ji31, jS (by omega) (by omega), Int.toNat_natCast, if_pos (by rw [jI_lt (by omega) (by omega) (by omega) (by omega)]; omega)]
      rfl
    have yes : ∀ M1, FQ M M1 → (∀ m, o = some m → bef n i m) → ∃ M' o', m_X7_coreOf_j57 (fun ρ y0 y1 => m_X7_coreOf_l4 (z + 133) (jI p) f ρ y0 y1) (z + 133) (jI p) (hp z M1) (jI (oI o)) (jI i) (1 : Int32) = some (jI (oI o'), hp z M') ∧ FQ M M' ∧ isBest n (cP c p) (2 ^ n) o' := by
      intro M1 hF hbe
      obtain ⟨M2, r1, r2⟩ := X7_c57b (z := z) (p := p) (i := i) (o := o) (K := fun ρ y0 y1 => m_X7_coreOf_l4 (z + 133) (jI p) f ρ y0 y1) (hF.row hR) hc (by omega) hp'
      obtain ⟨M3, o', s1, s2, s3⟩ := ih (i + 1) f (if cP c p i = true then some i else o) M2 (by omega) (by omega) (r2.row (hF.row hR)) (hb.take hbe)
      exact ⟨M3, o', r1.trans s1, (hF.trans r2).trans s2, s3⟩
    cases o with
    | none =>
      obtain ⟨M', o', r1, r2, r3⟩ := yes M FQ.rfl' (fun m h => by cases h)
      exact ⟨M', o', pre _ (by rw [if_pos (show jI (oI none) = jI (-1) from rfl)]; exact r1), r2, r3⟩
    | some m =>
      have hm := hb.1
      have hpm := pop_le m
      have on2 := fun σ => X7_ones (σ := σ) (m := m) (by omega)
      have ahe := fun σ => X7_ahead (σ := σ) (a := i) (b := m) (by omega) (by omega)
      have no : bef n m i → ∃ M' o', m_X7_coreOf_j57 (fun ρ y0 y1 => m_X7_coreOf_l4 (z + 133) (jI p) f ρ y0 y1) (z + 133) (jI p) (hp z M) (jI (oI (some m))) (jI i) (0 : Int32) = some (jI (oI o'), hp z M') ∧ FQ M M' ∧ isBest n (cP c p) (2 ^ n) o' := by
        intro hbe
        obtain ⟨M3, o', s1, s2, s3⟩ := ih (i + 1) f (some m) M (by omega) (by omega) hR (hb.skip (fun _ => hbe))
        exact ⟨M3, o', X7_c57a.trans s1, s2, s3⟩
      have hne : ¬ jI (oI (some m)) = jI (-1) := by
        show ¬ jI (m : Int) = jI (-1)
        rw [jI_eq (by omega) (by omega) (by omega) (by omega)]; omega
      have om : oI (some m) = (m : Int) := rfl
      rw [if_neg hne] at pre
      simp only [om, on1, on2, mo_cs_s] at pre yes no ⊢
      simp only [ahe, mo_cs_s] at pre
      have q1 : (jI (pop i : Nat) < jI (pop m : Nat)) ↔ pop i < pop m := by rw [jI_lt (by omega) (by omega) (by omega) (by omega)]; omega
      have q2 : (jI (pop i : Nat) = jI (pop m : Nat)) ↔ pop i = pop m := by rw [jI_eq (by omega) (by omega) (by omega) (by omega)]; omega
      by_cases g1 : pop i < pop m
      · obtain ⟨M', o', r1, r2, r3⟩ := yes M FQ.rfl' (fun m' h => by cases h; exact Or.inl g1)
        exact ⟨M', o', pre _ (by rw [if_pos (q1.mpr g1)]; exact r1), r2, r3⟩
      · rw [if_neg (fun h => g1 (q1.mp h))] at pre
        by_cases g2 : pop i = pop m
        · rw [if_pos (q2.mpr g2)] at pre
          have hab := ahd_bef hn10 (a := i) (b := m) (by omega) (by omega) g2
          cases ha : ahd 10 i m with
          | true =>
            obtain ⟨M', o', r1, r2, r3⟩ := yes M FQ.rfl' (fun m' h => by cases h; exact hab.mp ha)
            exact ⟨M', o', pre _ (by rw [ha, if_neg (by decide)]; exact r1), r2, r3⟩
          | false =>
            have hbe : bef n m i := by
              rcases bef_tot (n := n) (a := i) (b := m) (by omega) (by omega) (by omega) with h | h
              · rw [hab.mpr h] at ha; exact absurd ha (by decide)
              · exact h
            obtain ⟨M', o', r1, r2, r3⟩ := no hbe
            exact ⟨M', o', pre _ (by rw [ha, if_pos (by decide)]; exact r1), r2, r3⟩
        · rw [if_neg (fun h => g2 (q2.mp h))] at pre
          obtain ⟨M', o', r1, r2, r3⟩ := no (Or.inl (by omega))
          exact ⟨M', o', pre _ r1, r2, r3⟩
/-- the core, or none -/
def isCo (c : hCf) (p : Nat) : Option Nat → Prop
  | none => ∀ m, m < 2 ^ c.2.length → cP c p m = false
  | some m => isCore c.2.length (cP c p) m
theorem isCo_u {c : hCf} {p : Nat} {o o' : Option Nat} (h : isCo c p o) (h' : isCo c p o') : o = o' := by
  cases o with
  | none =>
    cases o' with
    | none => rfl
    | some m => exact absurd (h m h'.1) (by rw [h'.2.1]; decide)
  | some m =>
    cases o' with
    | none => exact absurd (h' m h.1) (by rw [h.2.1]; decide)
    | some m' => exact congrArg some (isCore_u h h')
theorem X7_core {z p : Nat} {M : hM} {c : hCf} (hR : RR (gA M 134) c) (hc : okC c) (hp' : p < 4) :
    ∃ M' o, m_X7_coreOf (hp z M) (z + 133) (jI p) = some (jI (oI o), hp z M') ∧ FQ M M' ∧ isCo c p o := by
  have hp2 : (2 : Nat) ^ c.2.length ≤ 2 ^ 10 := Nat.pow_le_pow_right (by omega) hc.1
  obtain ⟨M', o, r1, r2, r3⟩ := X7_core_l (z := z) hc rfl hp' (2 ^ c.2.length) 0 hN_f none M (by omega) (by unfold hN_f; omega) hR (fun m hm => by omega)
  refine ⟨M', o, r1, r2, ?_⟩
  cases o with
  | none => exact r3
  | some m => exact r3
theorem X6_co {z p : Nat} {M : hM} {c : hCf} (hB : BR M 1 c) (hc : okC c) (hp' : p < 4) :
    ∃ M' o, m_X6_findCore (hp z M) z (jI p) = some (jI (oI o), hp z M') ∧ FC M M' ∧ isCo c p o := by
  rcases X6_core (z := z) hB hc hp' with ⟨M', r1, r2, r3⟩ | ⟨M', m, r1, r2, r3⟩
  · exact ⟨M', none, r1, r2, r3⟩
  · exact ⟨M', some m, r1, r2, r3⟩

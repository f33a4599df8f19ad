/-! MIRRORED PARTS and their order. -/
def mir : Nat → Nat → Nat
  | 0, _ => 0
  | n + 1, m => (m % 2) * 2 ^ n + mir n (m / 2)
theorem mir_lt : ∀ (n m : Nat), mir n m < 2 ^ n := by
  intro n
  induction n with
  | zero => intro m; simp [mir]
  | succ n ih =>
    intro m
    have h := ih (m / 2)
    have h2 : m % 2 < 2 := Nat.mod_lt _ (by decide)
    simp only [mir]
    rw [Nat.pow_succ]
    rcases (show m % 2 = 0 ∨ m % 2 = 1 by omega) with g | g
    · rw [g]; omega
    · rw [g]; omega
theorem mir_inj : ∀ (n a b : Nat), a < 2 ^ n → b < 2 ^ n → mir n a = mir n b → a = b := by
  intro n
  induction n with
  | zero => intro a b ha hb _; simp at ha hb; omega
  | succ n ih =>
    intro a b ha hb h
    simp only [mir] at h
    rw [Nat.pow_succ] at ha hb
    have h1 := mir_lt n (a / 2)
    have h2 := mir_lt n (b / 2)
    rcases (show a % 2 = 0 ∨ a % 2 = 1 by omega) with g | g <;> rcases (show b % 2 = 0 ∨ b % 2 = 1 by omega) with g' | g' <;> rw [g, g'] at h
    · have := ih (a / 2) (b / 2) (by omega) (by omega) (by omega); omega
    · omega
    · omega
    · have := ih (a / 2) (b / 2) (by omega) (by omega) (by omega); omega
/-- the lowest differing bit -/
def ahd : Nat → Nat → Nat → Bool
  | 0, _, _ => false
  | n + 1, a, b => if a % 2 = b % 2 then ahd n (a / 2) (b / 2) else decide (a % 2 = 1)
theorem ahd_mir : ∀ (n a b : Nat), ahd n a b = true ↔ mir n b < mir n a := by
  intro n
  induction n with
  | zero => intro a b; simp [ahd, mir]
  | succ n ih =>
    intro a b
    have h1 := mir_lt n (a / 2)
    have h2 := mir_lt n (b / 2)
    simp only [ahd, mir]
    by_cases g : a % 2 = b % 2
    · rw [if_pos g, ih, g]; omega
    · rw [if_neg g]
      rcases (show a % 2 = 0 ∨ a % 2 = 1 by omega) with ga | ga
      · have gb : b % 2 = 1 := by omega
        rw [ga, gb]; simp; omega
      · have gb : b % 2 = 0 := by omega
        rw [ga, gb]; simp; omega
/-- one part before another one -/
def bef (n a b : Nat) : Prop := pop a < pop b ∨ (pop a = pop b ∧ mir n b < mir n a)
theorem bef_irr {n a : Nat} : ¬ bef n a a := by unfold bef; omega
theorem bef_tr {n a b d : Nat} (h : bef n a b) (h' : bef n b d) : bef n a d := by unfold bef at *; omega
theorem bef_tot {n a b : Nat} (ha : a < 2 ^ n) (hb : b < 2 ^ n) (hne : a ≠ b) : bef n a b ∨ bef n b a := by
  have : mir n a ≠ mir n b := fun h => hne (mir_inj n a b ha hb h)
  unfold bef; omega
/-- the least part that breaks -/
def isCore (n : Nat) (P : Nat → Bool) (m : Nat) : Prop := m < 2 ^ n ∧ P m = true ∧ ∀ m', m' < 2 ^ n → P m' = true → m' ≠ m → bef n m m'
theorem isCore_u {n m m' : Nat} {P : Nat → Bool} (h : isCore n P m) (h' : isCore n P m') : m = m' := by
  rcases Nat.decEq m m' with g | g
  · exact absurd (bef_tr (h.2.2 m' h'.1 h'.2.1 (fun e => g e.symm)) (h'.2.2 m h.1 h.2.1 g)) bef_irr
  · exact g
theorem mir_sn : ∀ (k m : Nat), mir (k + 1) m = 2 * mir k m + m / 2 ^ k % 2 := by
  intro k
  induction k with
  | zero => intro m; simp [mir]
  | succ k ih =>
    intro m
    have h := ih (m / 2)
    have e1 : mir (k + 1 + 1) m = (m % 2) * 2 ^ (k + 1) + mir (k + 1) (m / 2) := rfl
    have e2 : mir (k + 1) m = (m % 2) * 2 ^ k + mir k (m / 2) := rfl
    have e3 : m / 2 / 2 ^ k = m / 2 ^ (k + 1) := by rw [Nat.div_div_eq_div_mul, Nat.pow_succ, Nat.mul_comm]
    rw [e1, h, e2, e3, Nat.pow_succ, Nat.mul_add, ← Nat.mul_assoc, Nat.mul_comm 2 (m % 2 * 2 ^ k), Nat.mul_assoc (m % 2) (2 ^ k) 2]
    omega
theorem jI_dbl {v b : Nat} (hv : v < 1073741824) (hb : b < 2) : ((jI (v : Int) <<< (jI 1 &&& jI 31)) ||| jI (b : Int)) = jI ((2 * v + b : Nat) : Int) := by
  have h1 : (jI (v : Int) <<< (jI 1 &&& jI 31)) = jI ((2 * v : Nat) : Int) := by
    have e : (jI 1 &&& jI 31) = (1 : Int32) := by decide
    rw [e, jI_nat, jI_nat]
    apply Int32.toBitVec_inj.mp
    apply BitVec.eq_of_toNat_eq
    simp [Int32.toBitVec_shiftLeft, Nat.shiftLeft_eq]
    omega
  rw [h1, jI_or (by omega) (by omega)]
  congr 2
  have := Nat.shiftLeft_add_eq_or_of_lt (i := 1) (b := b) (by omega) v
  rw [Nat.shiftLeft_eq, Nat.pow_one] at this
  rw [Nat.mul_comm 2 v]; omega
theorem X6_mir_l {m n : Nat} {σ : ac_H} (hn : n ≤ 10) (hm : m < 2147483648) : ∀ (d k f : Nat), k + d = n → d < f → m_X6_mirror_l4 (jI m) (jI n) f σ (jI (mir k m : Nat)) (jI k) = some (jI (mir n m : Nat), σ) := by
  intro d
  induction d with
  | zero =>
    intro k f hk hf
    obtain ⟨f, rfl⟩ : ∃ g, f = g + 1 := ⟨f - 1, by omega⟩
    have : k = n := by omega
    subst this
    unfold m_X6_mirror_l4
    rw [if_neg (by rw [jI_lt (by omega) (by omega) (by omega) (by omega)]; omega)]
  | succ d ih =>
    intro k f hk hf
    obtain ⟨f, rfl⟩ : ∃ g, f = g + 1 := ⟨f - 1, by omega⟩
    have hmk := mir_lt k m
    have hp2 : (2 : Nat) ^ k ≤ 2 ^ 10 := Nat.pow_le_pow_right (by omega) (by omega)
    have hs := mir_sn k m
    have hb : (if m.testBit k then (1 : Int) else 0) = ((m / 2 ^ k % 2 : Nat) : Int) := by
      rw [Nat.testBit_eq_decide_div_mod_eq]
      rcases (show m / 2 ^ k % 2 = 0 ∨ m / 2 ^ k % 2 = 1 by omega) with g | g
      · rw [g]; rfl
      · rw [g]; rfl
    have IH := ih (k + 1) f (by omega) (by omega)
    have ec : ((k + 1 : Nat) : Int) = (k : Int) + 1 := by omega
    rw [hs, ec] at IH
    unfold m_X6_mirror_l4
    rw [if_pos (by rw [jI_lt (by omega) (by omega) (by omega) (by omega)]; omega)]
    simp (disch := omega) only [ji1, ji2, ji3, ji4, ji5, ji6, ji7, ji8, ji9, ji10, ji11, ji12, ji13, ji14, ji15, ji16, ji19, ji20, ji24, ji31, ji32, ji39, ji45, ji48, ji57, ji58, ji59, ji60, ji97, ji100, ji119, ji120, ji122, ji144, ji200, ji226, ji240, ji255, ji300, ji366, ji400, ji500, ji1000, jI_z, ↓jI_m1, jI_add, jI_sub, jI_mul, jT, Int.toNat_natCast, hb, jI_dbl]
    exact IH
theorem X6_mir {m n : Nat} {σ : ac_H} (hn : n ≤ 10) (hm : m < 2147483648) : m_X6_mirror σ (jI m) (jI n) = some (jI (mir n m : Nat), σ) := by
  have := X6_mir_l (σ := σ) hn hm n 0 hN_f (by omega) (by unfold hN_f; omega)
  rw [show mir 0 m = 0 from rfl, Int.natCast_zero] at this
  unfold m_X6_mirror
  rw [jI_z]; exact this


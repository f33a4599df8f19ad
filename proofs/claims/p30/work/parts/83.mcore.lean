variable {S : hSh}
/-! THE MODEL'S CORE: the part that comes ahead of all others. -/
theorem ahd_00 : ∀ N, ahd N 0 0 = false := by
  intro N
  induction N with
  | zero => rfl
  | succ N ih => simp only [ahd, Nat.zero_mod, Nat.zero_div, if_true]; exact ih
theorem ahd_ext : ∀ (n N a b : Nat), n ≤ N → a < 2 ^ n → b < 2 ^ n → ahd N a b = ahd n a b := by
  intro n
  induction n with
  | zero =>
    intro N a b _ ha hb
    have ha0 : a = 0 := by simpa using ha
    have hb0 : b = 0 := by simpa using hb
    subst ha0; subst hb0
    rw [ahd_00, ahd_00]
  | succ n ih =>
    intro N a b hN ha hb
    obtain ⟨N, rfl⟩ : ∃ k, N = k + 1 := ⟨N - 1, by omega⟩
    rw [Nat.pow_succ] at ha hb
    have IH := ih N (a / 2) (b / 2) (by omega) (by omega) (by omega)
    simp only [ahd, IH]
theorem neg_mask {x d : Nat} (hx : x < 1024) (hd : d < 1024) : x &&& ((2 ^ 32 - d) % 2 ^ 32) = x &&& ((1024 - d) % 1024) := by
  have e1 : ∀ y, x &&& y = x &&& (y % 1024) := by
    intro y
    have h1 : x &&& y ≤ x := Nat.and_le_left
    have h2 : (x &&& y) % 2 ^ 10 = x &&& y := Nat.mod_eq_of_lt (by omega)
    rw [← h2, Nat.and_mod_two_pow, Nat.mod_eq_of_lt (show x < 2 ^ 10 from hx)]
  rw [e1]
  congr 1
  omega
theorem jI_negand {x d : Nat} (hx : x < 1024) (hd : d < 1024) : (jI (x : Int) &&& -(jI (d : Int))) = jI ((x &&& ((1024 - d) % 1024) : Nat) : Int) := by
  rw [jI_nat, jI_nat, jI_nat, ← neg_mask hx hd]
  apply Int32.toBitVec_inj.mp
  apply BitVec.eq_of_toNat_eq
  have h1 : x &&& ((2 ^ 32 - d) % 2 ^ 32) ≤ x := Nat.and_le_left
  show (BitVec.ofNat 32 x &&& -(BitVec.ofNat 32 d)).toNat = (BitVec.ofNat 32 (x &&& ((2 ^ 32 - d) % 2 ^ 32))).toNat
  rw [BitVec.toNat_and, BitVec.toNat_neg, BitVec.toNat_ofNat, BitVec.toNat_ofNat, BitVec.toNat_ofNat, Nat.mod_eq_of_lt (show x < 2 ^ 32 by omega), Nat.mod_eq_of_lt (show d < 2 ^ 32 by omega), Nat.mod_eq_of_lt (show x &&& ((2 ^ 32 - d) % 2 ^ 32) < 2 ^ 32 by omega)]
theorem okC_prt0 {c : hCf} (h : okC c) (p : Nat → Bool) : okC (c.1, prt p c.2 0) := h.prt p 0
/-- the best of the parts below i -/
def isBest (n : Nat) (P : Nat → Bool) (i : Nat) : Option Nat → Prop
  | none => ∀ m, m < i → P m = false
  | some m => m < i ∧ P m = true ∧ ∀ m', m' < i → P m' = true → m' ≠ m → bef n m m'
def oI : Option Nat → Int
  | none => -1
  | some m => m
theorem isBest.skip {n i m : Nat} {P : Nat → Bool} (h : isBest n P i (some m)) (hb : P i = true → bef n m i) : isBest n P (i + 1) (some m) := by
  refine ⟨by have := h.1; omega, h.2.1, fun m' h1 h2 h3 => ?_⟩
  by_cases e : m' = i
  · subst e; exact hb h2
  · exact h.2.2 m' (by omega) h2 h3
theorem isBest.take {n i : Nat} {P : Nat → Bool} {o : Option Nat} (h : isBest n P i o) (hb : ∀ m, o = some m → bef n i m) : isBest n P (i + 1) (if P i = true then some i else o) := by
  cases hP : P i with
  | true =>
    rw [if_pos rfl]
    refine ⟨by omega, hP, fun m' h1 h2 h3 => ?_⟩
    cases o with
    | none =>
      have := h m' (by omega)
      rw [h2] at this; exact absurd this (by decide)
    | some m =>
      by_cases e : m' = m
      · subst e; exact hb m' rfl
      · exact bef_tr (hb m rfl) (h.2.2 m' (by omega) h2 e)
  | false =>
    rw [if_neg (by decide)]
    cases o with
    | none =>
      intro m hm
      by_cases e : m = i
      · subst e; exact hP
      · exact h m (by omega)
    | some m => exact h.skip (fun g => by rw [hP] at g; exact absurd g (by decide))
theorem ahd_bef {n a b : Nat} (hn : n ≤ 10) (ha : a < 2 ^ n) (hb : b < 2 ^ n) (hpp : pop a = pop b) : ahd 10 a b = true ↔ bef n a b := by
  rw [ahd_ext n 10 a b hn ha hb, ahd_mir]
  unfold bef; omega
/-- the core, or none -/
def isCo (c : hCf) (p : Nat) : Option Nat → Prop
  | none => ∀ m, m < 2 ^ c.2.length → cP c p m = false
  | some m => isCore c.2.length (cP c p) m
theorem isCo_u {c : hCf} {p : Nat} {o o' : Option Nat} (h : isCo c p o) (h' : isCo c p o') : o = o' := by
  cases o with
  | none =>
    cases o' with
    | none => rfl
    | some m => exact absurd (h m h'.1) (by rw [h'.2.1]; decide)
  | some m =>
    cases o' with
    | none => exact absurd (h' m h.1) (by rw [h.2.1]; decide)
    | some m' => exact congrArg some (isCore_u h h')
theorem X6_co {z p : Nat} {M : hM} {c : hCf} (hB : BR M 1 c) (hc : okC c) (hp' : p < 4) :
    ∃ M' o, m_X6_findCore (hp S z M) z (jI p) = some (jI (oI o), hp S z M') ∧ FC M M' ∧ isCo c p o := by
  rcases X6_core (S := S) (z := z) hB hc hp' with ⟨M', r1, r2, r3⟩ | ⟨M', m, r1, r2, r3⟩
  · exact ⟨M', none, r1, r2, r3⟩
  · exact ⟨M', some m, r1, r2, r3⟩


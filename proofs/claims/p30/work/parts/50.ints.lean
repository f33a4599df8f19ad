/-! INTEGERS: memory holds integers, a word of the machine is jI of one. -/
def jI (v : Int) : Int32 := Int32.ofInt v
theorem jI_of (x : Int32) : jI x.toInt = x := Int32.ofInt_toInt x
theorem jI_in {v : Int} (h0 : -2147483648 ≤ v) (h1 : v < 2147483648) : (jI v).toInt = v := by
  unfold jI; rw [Int32.toInt_ofInt]; simp [Int.bmod]; omega
theorem jI_add {a b : Int} : jI a + jI b = jI (a + b) := (Int32.ofInt_add a b).symm
theorem jI_sub {a b : Int} : jI a - jI b = jI (a - b) := (Int32.ofInt_sub a b).symm
theorem jI_mul {a b : Int} : jI a * jI b = jI (a * b) := (Int32.ofInt_mul a b).symm
theorem jI_lt {a b : Int} (h0 : -2147483648 ≤ a) (h1 : a < 2147483648) (h2 : -2147483648 ≤ b) (h3 : b < 2147483648) : (jI a < jI b) = (a < b) := by
  rw [Int32.lt_iff_toInt_lt, jI_in h0 h1, jI_in h2 h3]
theorem jI_eq {a b : Int} (h0 : -2147483648 ≤ a) (h1 : a < 2147483648) (h2 : -2147483648 ≤ b) (h3 : b < 2147483648) : (jI a = jI b) = (a = b) := by
  apply propext; constructor
  · intro h; rw [← jI_in h0 h1, ← jI_in h2 h3, h]
  · intro h; rw [h]
theorem jI_ix {v : Int} (h0 : 0 ≤ v) (h1 : v < 2147483648) : (jI v).toNatClampNeg = v.toNat := by
  unfold Int32.toNatClampNeg; rw [jI_in (by omega) h1]
theorem jI_z : (0 : Int32) = jI 0 := id rfl
theorem jI_m1 : (-1 : Int32) = jI (-1) := id rfl
theorem jI_n (n : Nat) : nI n = jI n := by simp [nI, jI, Int32.ofInt_eq_ofNat]
theorem jI_nat (n : Nat) : jI (n : Int) = Int32.ofNat n := by simp [jI, Int32.ofInt_eq_ofNat]
theorem jI_nonneg {a : Int} (h0 : 0 ≤ a) (h1 : a < 2147483648) : ¬ jI a < 0 := by
  rw [jI_z, jI_lt (by omega) h1 (by decide) (by decide)]; omega
theorem mo_dv_j {α : Type} {F : Int32 → Option α} {a b : Int} (h0 : 0 ≤ a) (h1 : a < 2147483648) (h2 : 0 < b) (h3 : b < 2147483648) : mo_dv (jI a) (jI b) F = F (jI (a / b)) := by
  have hb : ¬ jI b = 0 := by rw [jI_z, jI_eq (by omega) h3 (by decide) (by decide)]; omega
  have hq : jI a / jI b = jI (a / b) := by
    apply Int32.toInt_inj.mp
    have h4 : a / b ≤ a := Int.ediv_le_self b h0
    have h5 : 0 ≤ a / b := Int.ediv_nonneg h0 (by omega)
    rw [Int32.toInt_div, jI_in (by omega) h1, jI_in (by omega) h3, jI_in (by omega) (by omega), Int.tdiv_eq_ediv_of_nonneg h0]
    simp [Int.bmod]; omega
  unfold mo_dv; rw [if_neg hb, hq]
theorem mo_rm_j {α : Type} {F : Int32 → Option α} {a b : Int} (h0 : 0 ≤ a) (h1 : a < 2147483648) (h2 : 0 < b) (h3 : b < 2147483648) : mo_rm (jI a) (jI b) F = F (jI (a % b)) := by
  have hb : ¬ jI b = 0 := by rw [jI_z, jI_eq (by omega) h3 (by decide) (by decide)]; omega
  have hq : jI a / jI b = jI (a / b) := by
    apply Int32.toInt_inj.mp
    have h4 : a / b ≤ a := Int.ediv_le_self b h0
    have h5 : 0 ≤ a / b := Int.ediv_nonneg h0 (by omega)
    rw [Int32.toInt_div, jI_in (by omega) h1, jI_in (by omega) h3, jI_in (by omega) (by omega), Int.tdiv_eq_ediv_of_nonneg h0]
    simp [Int.bmod]; omega
  unfold mo_rm; rw [if_neg hb, hq, jI_mul, jI_sub]
  congr 2
  have := Int.emod_add_mul_ediv a b
  rw [Int.mul_comm (a / b) b]; omega
theorem jI_shl1_n : ∀ k : Fin 31, ((1 : Int32) <<< (Int32.ofNat k.val &&& 31)) = Int32.ofNat (2 ^ k.val) := by decide
theorem jI_shl1 {k : Int} (h0 : 0 ≤ k) (h1 : k < 31) : ((1 : Int32) <<< (jI k &&& 31)) = jI ((2 ^ k.toNat : Nat) : Int) := by
  have h := jI_shl1_n ⟨k.toNat, by omega⟩
  rw [jI_nat, ← h]
  show _ = (1 : Int32) <<< (Int32.ofNat k.toNat &&& 31)
  rw [← jI_nat, Int.toNat_of_nonneg h0]
theorem jI_or {a b : Nat} (ha : a < 2147483648) (hb : b < 2147483648) : jI (a : Int) ||| jI (b : Int) = jI ((a ||| b : Nat) : Int) := by
  rw [jI_nat, jI_nat, jI_nat]
  apply Int32.toBitVec_inj.mp
  simp
theorem jI_and {a b : Nat} (ha : a < 2147483648) (hb : b < 2147483648) : jI (a : Int) &&& jI (b : Int) = jI ((a &&& b : Nat) : Int) := by
  rw [jI_nat, jI_nat, jI_nat]
  apply Int32.toBitVec_inj.mp
  simp
theorem jI_xor {a b : Nat} (ha : a < 2147483648) (hb : b < 2147483648) : jI (a : Int) ^^^ jI (b : Int) = jI ((a ^^^ b : Nat) : Int) := by
  rw [jI_nat, jI_nat, jI_nat]
  apply Int32.toBitVec_inj.mp
  simp
theorem jI_m31 : ∀ k : Fin 32, (Int32.ofNat k.val &&& 31) = Int32.ofNat k.val := by decide
theorem jI_sm : ∀ k : Fin 32, ((BitVec.ofNat 32 k.val).smod 32#32).toNat = k.val := by decide
theorem jI_shr {m : Nat} {k : Int} (hm : m < 2147483648) (h0 : 0 ≤ k) (h1 : k < 32) : (jI (m : Int) >>> (jI k &&& 31)) = jI ((m >>> k.toNat : Nat) : Int) := by
  have hk := jI_m31 ⟨k.toNat, by omega⟩
  have hk' : jI k = Int32.ofNat k.toNat := by rw [← jI_nat, Int.toNat_of_nonneg h0]
  rw [hk', hk, jI_nat, jI_nat]
  apply Int32.toBitVec_inj.mp
  have hmm : (BitVec.ofNat 32 m).msb = false := by
    rw [BitVec.msb_eq_decide]; simp; omega
  simp [Int32.toBitVec_shiftRight, BitVec.sshiftRight_eq_of_msb_false hmm]
  have h9 := jI_sm ⟨k.toNat, by omega⟩
  simp only at h9
  rw [h9]
  apply BitVec.eq_of_toNat_eq
  have h2 : m >>> k.toNat < 2147483648 := Nat.lt_of_le_of_lt (Nat.shiftRight_le _ _) hm
  rw [BitVec.toNat_ushiftRight, BitVec.toNat_ofNat, BitVec.toNat_ofNat, Nat.mod_eq_of_lt (by omega), Nat.mod_eq_of_lt (by omega)]
theorem jI_tb {m : Nat} {k : Int} (hm : m < 2147483648) (h0 : 0 ≤ k) (h1 : k < 32) : ((jI (m : Int) >>> (jI k &&& 31)) &&& (1 : Int32)) = jI (if m.testBit k.toNat then 1 else 0) := by
  rw [jI_shr hm h0 h1]
  have h2 : m >>> k.toNat < 2147483648 := Nat.lt_of_le_of_lt (Nat.shiftRight_le _ _) hm
  show _ &&& jI ((1 : Nat) : Int) = _
  rw [jI_and h2 (by decide), Nat.and_one_is_mod]
  unfold Nat.testBit
  rw [Nat.one_and_eq_mod_two]
  rcases Nat.mod_two_eq_zero_or_one (m >>> k.toNat) with h | h <;> simp [h]

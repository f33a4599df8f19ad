/-! THE JDK's bitCount below 65536, number by number. -/
def bcW (a0 : Int32) : Int32 := match m_J6_bitCount_0f7a4 (fun _ => none) a0 with
  | some (x, _) => x
  | none => 0
def popG : Nat → Nat → Nat
  | 0, _ => 0
  | k + 1, m => m % 2 + popG k (m / 2)
def bcT : Nat → Nat → Bool
  | 0, _ => true
  | n + 1, b => decide (bcW (Int32.ofNat (b + n)) = Int32.ofNat (popG 16 (b + n))) && bcT n b
def bcU : Nat → Nat → Bool
  | 0, _ => true
  | n + 1, b => bcT 256 (256 * (b + n)) && bcU n b
theorem bcU0 : bcU 32 0 = true := by decide +kernel
theorem bcU1 : bcU 32 32 = true := by decide +kernel
theorem bcU2 : bcU 32 64 = true := by decide +kernel
theorem bcU3 : bcU 32 96 = true := by decide +kernel
theorem bcU4 : bcU 32 128 = true := by decide +kernel
theorem bcU5 : bcU 32 160 = true := by decide +kernel
theorem bcU6 : bcU 32 192 = true := by decide +kernel
theorem bcU7 : bcU 32 224 = true := by decide +kernel
theorem bcT_at : ∀ (n b : Nat), bcT n b = true → ∀ m, m < n → bcW (Int32.ofNat (b + m)) = Int32.ofNat (popG 16 (b + m)) := by
  intro n
  induction n with
  | zero => intro b _ m hm; omega
  | succ n ih =>
    intro b h m hm
    simp only [bcT, Bool.and_eq_true, decide_eq_true_eq] at h
    by_cases e : m = n
    · subst e; exact h.1
    · exact ih b h.2 m (by omega)
theorem bcU_at : ∀ (n b : Nat), bcU n b = true → ∀ k, k < n → bcT 256 (256 * (b + k)) = true := by
  intro n
  induction n with
  | zero => intro b _ m hm; omega
  | succ n ih =>
    intro b h m hm
    simp only [bcU, Bool.and_eq_true] at h
    by_cases e : m = n
    · subst e; exact h.1
    · exact ih b h.2 m (by omega)
theorem bcU_all (k : Nat) (hk : k < 256) : bcT 256 (256 * k) = true := by
  have h := fun (b : Nat) (g : bcU 32 b = true) (h1 : b ≤ k) (h2 : k < b + 32) => bcU_at 32 b g (k - b) (by omega)
  rcases (show k < 32 ∨ (32 ≤ k ∧ k < 64) ∨ (64 ≤ k ∧ k < 96) ∨ (96 ≤ k ∧ k < 128) ∨ (128 ≤ k ∧ k < 160) ∨ (160 ≤ k ∧ k < 192) ∨ (192 ≤ k ∧ k < 224) ∨ (224 ≤ k ∧ k < 256) by omega) with g | g | g | g | g | g | g | g
  · have := h 0 bcU0 (by omega) (by omega); rwa [show 0 + (k - 0) = k by omega] at this
  · have := h 32 bcU1 (by omega) (by omega); rwa [show 32 + (k - 32) = k by omega] at this
  · have := h 64 bcU2 (by omega) (by omega); rwa [show 64 + (k - 64) = k by omega] at this
  · have := h 96 bcU3 (by omega) (by omega); rwa [show 96 + (k - 96) = k by omega] at this
  · have := h 128 bcU4 (by omega) (by omega); rwa [show 128 + (k - 128) = k by omega] at this
  · have := h 160 bcU5 (by omega) (by omega); rwa [show 160 + (k - 160) = k by omega] at this
  · have := h 192 bcU6 (by omega) (by omega); rwa [show 192 + (k - 192) = k by omega] at this
  · have := h 224 bcU7 (by omega) (by omega); rwa [show 224 + (k - 224) = k by omega] at this
theorem bc_all (m : Nat) (hm : m < 65536) : bcW (Int32.ofNat m) = Int32.ofNat (popG 16 m) := by
  have h := bcT_at 256 (256 * (m / 256)) (bcU_all (m / 256) (by omega)) (m % 256) (by omega)
  rwa [Nat.div_add_mod] at h


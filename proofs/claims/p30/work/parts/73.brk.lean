variable {S : hSh}
/-! WHETHER A SCHEDULE BREAKS A PROMISE: class and model answer the same. -/
theorem mo_zb {α : Type} {X : Option α} {v : Bool} : mo_z (jI (b2i v)) X = X := by
  cases v
  · exact mo_z_0
  · exact mo_z_1
theorem b2i_0 {v : Bool} : (jI (b2i v) = jI 0) = (v = false) := by
  cases v
  · exact propext ⟨fun _ => rfl, fun _ => rfl⟩
  · exact propext ⟨fun h => absurd h (by decide), fun h => absurd h (by decide)⟩
def brk (c : hCf) (p : Nat) : Bool := zBrk c (zR c).2 p
theorem zBits_lt {c : hCf} {s : hS} : zBits c s < 16 := by
  unfold zBits
  cases zBrk c s 0 <;> cases zBrk c s 1 <;> cases zBrk c s 2 <;> cases zBrk c s 3 <;> decide
theorem zBits_tb {c : hCf} {s : hS} {p : Nat} (hp' : p < 4) : (zBits c s).testBit p = zBrk c s p := by
  unfold zBits
  rcases (show p = 0 ∨ p = 1 ∨ p = 2 ∨ p = 3 by omega) with g | g | g | g <;> subst g <;> cases zBrk c s 0 <;> cases zBrk c s 1 <;> cases zBrk c s 2 <;> cases zBrk c s 3 <;> decide
theorem zJ_run {c : hCf} (hc : okC c) : ∀ (n : Nat) (t : Int) (s : hS), 0 ≤ t → zJ c t 0 s → zJ c (zRun c n t s).1 0 (zRun c n t s).2 ∧ t ≤ (zRun c n t s).1 ∧ (zRun c n t s).1 ≤ t + n := by
  intro n
  induction n with
  | zero => intro t s _ h; exact ⟨h, by simp [zRun], by simp [zRun]⟩
  | succ n ih =>
    intro t s ht h
    simp only [zRun]
    have h1 := zJ_tick hc h ht
    by_cases g : zOver c t (zTick c t s) = true
    · rw [if_pos g]; exact ⟨h1, by simp only; omega, by simp only; omega⟩
    · rw [if_neg g]
      obtain ⟨k1, k2, k3⟩ := ih (t + 1) _ (by omega) h1
      exact ⟨k1, by omega, by omega⟩
theorem zJ_R {c : hCf} (hc : okC c) : zJ c (zR c).1 0 (zR c).2 ∧ 0 ≤ (zR c).1 ∧ (zR c).1 ≤ 200 := by
  have hcs := hc.s
  obtain ⟨k1, k2, k3⟩ := zJ_run hc (c.1 2).toNat 0 z0 (by omega) (zJ_0 hc)
  exact ⟨k1, k2, by unfold zR; omega⟩
/-- the references but the one that a run changes -/
def Vx (j : Nat) (M M' : hM) : Prop := ∀ k, k ≠ j → gV M' k = gV M k
theorem X6_brk {z b p : Nat} {M : hM} {c : hCf} (hb : b = 1 ∨ b = 8) (hB : BR M b c) (hc : okC c) (hp' : p < 4) :
    ∃ M', m_X6_isBroken (hp S z M) z (z + b) (jI p) = some (jI (b2i (brk c p)), hp S z M') ∧ PR M' c (zR c) ∧ Fr 15 30 M M' ∧ Vx 0 M M' := by
  obtain ⟨M', r1, r2, r3, r4⟩ := X4_play (S := S) (z := z) hb hB hc
  refine ⟨M', ?_, r2, r3, r4⟩
  have h16 := zBits_lt (c := c) (s := (zR c).2)
  have htb := zBits_tb (c := c) (s := (zR c).2) hp'
  unfold m_X6_isBroken
  simp (disch := omega) only [ji1, ji2, ji3, ji4, ji5, ji6, ji7, ji8, ji9, ji10, ji11, ji12, ji13, ji14, ji15, ji16, ji19, ji20, ji24, ji31, ji32, ji39, ji45, ji48, ji57, ji58, ji59, ji60, ji97, ji100, ji119, ji120, ji122, ji144, ji200, ji226, ji240, ji255, ji300, ji366, ji400, ji500, ji1000, jI_z, ↓jI_m1, jI_add, jI_sub, jI_mul, ↓hg0_0, ↓hg0_1, ↓hg0_2, ↓hg0_3, ↓hg0_4, ↓hg0_5, hw0_5, ↓hg0_6, ↓hg0_7, ↓hv0, ↓hx0, ha132, hu132, ↓hl132, ↓hg15_0, ↓hg15_1, ↓hg15_2, ↓hg15_3, hw15_3, ↓hg15_4, hw15_4, ↓hg15_5, hw15_5, ↓hg15_6, hw15_6, ↓hg15_7, hw15_7, ↓hg15_8, hw15_8, ↓hg15_9, hw15_9, ↓hg15_10, hw15_10, ↓hg15_11, hw15_11, ↓hg15_12, hw15_12, ↓hg15_13, hw15_13, ↓hg15_14, hw15_14, ↓hv15, ↓hx15, ha29, hu29, ↓hl29]
  rw [r1]
  simp (disch := omega) only [ji1, ji2, ji3, ji4, ji5, ji6, ji7, ji8, ji9, ji10, ji11, ji12, ji13, ji14, ji15, ji16, ji19, ji20, ji24, ji31, ji32, ji39, ji45, ji48, ji57, ji58, ji59, ji60, ji97, ji100, ji119, ji120, ji122, ji144, ji200, ji226, ji240, ji255, ji300, ji366, ji400, ji500, ji1000, jI_z, ↓jI_m1, jI_add, jI_sub, jI_mul, ↓mo_ns_r, ↓hn0, ↓mo_cs_s, ↓mo_xs_r, ↓mo_xs_l, ↓mo_nl_s, mo_z_0, mo_z_1, jT, Int.toNat_natCast, htb]
  unfold brk
  cases zBrk c (zR c).2 p
  · rw [if_pos (by decide)]; rfl
  · rw [if_neg (by decide)]; rfl

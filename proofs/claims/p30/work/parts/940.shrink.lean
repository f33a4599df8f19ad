variable {S : hSh}
/-! shrink -/
def shrL (p : Nat) : Nat → Nat → hCf → hCf
  | 0, _, c => c
  | n + 1, k, c => shrL p n (k + 1) (if leastV c p k = -1 then c else cA c k (leastV c p k))
theorem shr1_len {c : hCf} {p k : Nat} : (if leastV c p k = -1 then c else cA c k (leastV c p k)).2.length = c.2.length := by
  split
  · rfl
  · show (c.2.modify k _).length = _
    rw [List.length_modify]
theorem shr1_ok {c : hCf} {p k : Nat} (hc : okC c) : okC (if leastV c p k = -1 then c else cA c k (leastV c p k)) := by
  split
  · exact hc
  · next h => exact hc.amt (by rcases leastV_in (p := p) (f := k) hc with g | g <;> omega)
theorem shrL_ok {p : Nat} : ∀ (n k : Nat) (c : hCf), okC c → okC (shrL p n k c) := by
  intro n
  induction n with
  | zero => intro k c h; exact h
  | succ n ih => intro k c h; exact ih _ _ (shr1_ok h)
theorem X6_sh_l {z p n : Nat} {r : Nat → Nat} (hp' : p < 4) : ∀ (d k f : Nat) (c : hCf) (M : hM), k + d = n → d < f → okC c → c.2.length = n → BR M 1 c → RS M 6 r →
    ∃ M', m_X6_shrink_l48 z (jI p) f (hp S z M) (jI n) (jI k) = some (.inr (jI n), hp S z M') ∧ BR M' 1 (shrL p d k c) ∧ RS M' 6 r ∧ FE M M' := by
  intro d
  induction d with
  | zero =>
    intro k f c M hk hf hc hl hB hr
    have hl10 := hc.1
    obtain ⟨f, rfl⟩ : ∃ g, f = g + 1 := ⟨f - 1, by omega⟩
    have g : ¬ (k : Int) < n := by omega
    refine ⟨M, ?_, hB, hr, FE.rfl'⟩
    unfold m_X6_shrink_l48
    simp (disch := omega) only [ji1, ji2, ji3, ji4, ji5, ji6, ji7, ji8, ji9, ji10, ji11, ji12, ji13, ji14, ji15, ji16, ji19, ji20, ji24, ji31, ji32, ji39, ji45, ji48, ji57, ji58, ji59, ji60, ji97, ji100, ji119, ji120, ji122, ji144, ji200, ji226, ji240, ji255, ji300, ji366, ji400, ji500, ji1000, jI_z, ↓jI_m1, jI_add, jI_sub, jI_mul, jI_lt, g, if_false]
  | succ d ih =>
    intro k f c M hk hf hc hl hB hr
    have hl10 := hc.1
    obtain ⟨f, rfl⟩ : ∃ g, f = g + 1 := ⟨f - 1, by omega⟩
    have g : (k : Int) < n := by omega
    have ek : (k : Int) + 1 = ((k + 1 : Nat) : Int) := by omega
    obtain ⟨M1, r1, r2⟩ := X6_la (S := S) (z := z) (f := k) hB hr hc (by omega) hp'
    have li := leastV_in (p := p) (f := k) hc
    by_cases h1 : leastV c p k = -1
    · obtain ⟨M2, s1, s2, s3, s4⟩ := ih (k + 1) f c M1 (by omega) (by omega) hc hl (r2.br hB) (r2.rs hr)
      refine ⟨M2, ?_, by simp only [shrL]; rw [if_pos h1]; exact s2, s3, r2.e.trans s4⟩
      unfold m_X6_shrink_l48
      simp (disch := omega) only [ji1, ji2, ji3, ji4, ji5, ji6, ji7, ji8, ji9, ji10, ji11, ji12, ji13, ji14, ji15, ji16, ji19, ji20, ji24, ji31, ji32, ji39, ji45, ji48, ji57, ji58, ji59, ji60, ji97, ji100, ji119, ji120, ji122, ji144, ji200, ji226, ji240, ji255, ji300, ji366, ji400, ji500, ji1000, jI_z, ↓jI_m1, jI_add, jI_sub, jI_mul, jI_lt, g, if_true, ↓hg0_0, ↓hg0_1, ↓hg0_2, ↓hg0_3, ↓hg0_4, ↓hg0_5, hw0_5, ↓hg0_6, ↓hg0_7, ↓hv0, ↓hx0, ha132, hu132, ↓hl132]
      rw [r1, h1]
      simp (disch := omega) only [↓mo_ns_r, ↓hn0, ↓mo_cs_s, ↓mo_xs_r, ↓mo_xs_l, ↓mo_nl_s, mo_z_0, mo_z_1, if_true, ek, ji1, ji2, ji3, ji4, ji5, ji6, ji7, ji8, ji9, ji10, ji11, ji12, ji13, ji14, ji15, ji16, ji19, ji20, ji24, ji31, ji32, ji39, ji45, ji48, ji57, ji58, ji59, ji60, ji97, ji100, ji119, ji120, ji122, ji144, ji200, ji226, ji240, ji255, ji300, ji366, ji400, ji500, ji1000, jI_z, ↓jI_m1, jI_add, jI_sub, jI_mul]
      exact s1
    · obtain ⟨M2, s1, s2, s3, s4⟩ := X0_cha (S := S) (z := z) (b := 1) (i := k) (v := leastV c p k) rfl (r2.br hB) hc (by omega)
      have hlen : (cA c k (leastV c p k)).2.length = n := by show (c.2.modify k _).length = n; rw [List.length_modify]; exact hl
      obtain ⟨M3, t1, t2, t3, t4⟩ := ih (k + 1) f (cA c k (leastV c p k)) M2 (by omega) (by omega) (hc.amt (by omega)) hlen s2 ((r2.rs hr).keep s3 (by omega))
      refine ⟨M3, ?_, by simp only [shrL]; rw [if_neg h1]; exact t2, t3, (r2.e.trans (FE.of s3 s4 (by omega) (by omega))).trans t4⟩
      unfold m_X6_shrink_l48
      simp (disch := omega) only [ji1, ji2, ji3, ji4, ji5, ji6, ji7, ji8, ji9, ji10, ji11, ji12, ji13, ji14, ji15, ji16, ji19, ji20, ji24, ji31, ji32, ji39, ji45, ji48, ji57, ji58, ji59, ji60, ji97, ji100, ji119, ji120, ji122, ji144, ji200, ji226, ji240, ji255, ji300, ji366, ji400, ji500, ji1000, jI_z, ↓jI_m1, jI_add, jI_sub, jI_mul, jI_lt, g, if_true, ↓hg0_0, ↓hg0_1, ↓hg0_2, ↓hg0_3, ↓hg0_4, ↓hg0_5, hw0_5, ↓hg0_6, ↓hg0_7, ↓hv0, ↓hx0, ha132, hu132, ↓hl132]
      rw [r1]
      simp (disch := omega) only [↓mo_ns_r, ↓hn0, ↓mo_cs_s, ↓mo_xs_r, ↓mo_xs_l, ↓mo_nl_s, mo_z_0, mo_z_1, jI_eq, h1, if_false, ↓hg0_0, ↓hg0_1, ↓hg0_2, ↓hg0_3, ↓hg0_4, ↓hg0_5, hw0_5, ↓hg0_6, ↓hg0_7, ↓hv0, ↓hx0, ha132, hu132, ↓hl132, ↓Bv (b := 1) rfl]
      rw [s1]
      simp (disch := omega) only [↓mo_ns_r, ↓hn0, ↓mo_cs_s, ↓mo_xs_r, ↓mo_xs_l, ↓mo_nl_s, mo_z_0, mo_z_1, ek, ji1, ji2, ji3, ji4, ji5, ji6, ji7, ji8, ji9, ji10, ji11, ji12, ji13, ji14, ji15, ji16, ji19, ji20, ji24, ji31, ji32, ji39, ji45, ji48, ji57, ji58, ji59, ji60, ji97, ji100, ji119, ji120, ji122, ji144, ji200, ji226, ji240, ji255, ji300, ji366, ji400, ji500, ji1000, jI_z, ↓jI_m1, jI_add, jI_sub, jI_mul]
      exact t1
/-- promise 24 -/
def shrC (c : hCf) (p m : Nat) : hCf := shrL p (prt (fun i => m.testBit i) c.2 0).length 0 (c.1, prt (fun i => m.testBit i) c.2 0)
noncomputable def rShrink (q : hQ) (p : Int) : hR := if 0 ≤ p ∧ p < 4 then (match coreV q.1.1 p.toNat with
  | none => (2, 0, q)
  | some m => (0, (prt (fun i => m.testBit i) q.1.1.2 0).length, (shrC q.1.1 p.toNat m, q.1.2), keepsV q.2.1 q.1, q.2.2)) else (1, 0, q)
theorem FH.of_d {M M1 M2 : hM} (f : FD M M1) (h : FH M1 M2) : (∀ a, 117 ≤ a ∨ a = 37 ∨ a = 38 → (∀ k, gI M2 a k = gI M a k) ∧ ∀ k, gA M2 a k = gA M a k) := fun a ha => ⟨fun k => by rw [(h.1 a (by omega)).1 k (by omega), (f.1 a (by omega)).1], fun k => by rw [(h.1 a (by omega)).2, (f.1 a (by omega)).2]⟩
theorem C_shrink {z : Nat} {M : hM} {q : hQ} {p : Int} (h : CI M q) (ho : okQ q) (hp' : okW p) : OC S z M (m_X6_shrink (hp S z M) z (jI p)) eS (rShrink q p) := by
  have hc := ho.1.1
  unfold rShrink
  by_cases g : 0 ≤ p ∧ p < 4
  · rw [if_pos g]
    obtain ⟨p, rfl⟩ : ∃ i : Nat, p = i := ⟨p.toNat, by omega⟩
    obtain ⟨M1, r1, r2, r3⟩ := X6_cv (S := S) (z := z) (p := p) h.1.1 hc (by omega)
    have h1 : CI M1 q := r2.ci h ho
    simp only [Int.toNat_natCast]
    revert r1 r3
    cases hcv : coreV q.1.1 p with
    | none =>
      intro r1 r3
      refine ⟨M1, ?_, h1, r2.km⟩
      unfold m_X6_shrink
      rw [X6_cp1 (by omega)]
      simp (disch := omega) only [↓mo_ns_r, ↓hn0, ↓mo_cs_s, ↓mo_xs_r, ↓mo_xs_l, ↓mo_nl_s, mo_z_0, mo_z_1, ↓hg0_0, ↓hg0_1, ↓hg0_2, ↓hg0_3, ↓hg0_4, ↓hg0_5, hw0_5, ↓hg0_6, ↓hg0_7, ↓hv0, ↓hx0, ha132, hu132, ↓hl132]
      rw [r1]
      simp (disch := omega) only [↓mo_ns_r, ↓hn0, ↓mo_cs_s, ↓mo_xs_r, ↓mo_xs_l, ↓mo_nl_s, mo_z_0, mo_z_1, ji1, ji2, ji3, ji4, ji5, ji6, ji7, ji8, ji9, ji10, ji11, ji12, ji13, ji14, ji15, ji16, ji19, ji20, ji24, ji31, ji32, ji39, ji45, ji48, ji57, ji58, ji59, ji60, ji97, ji100, ji119, ji120, ji122, ji144, ji200, ji226, ji240, ji255, ji300, ji366, ji400, ji500, ji1000, jI_z, ↓jI_m1, jI_add, jI_sub, jI_mul]
      rfl
    | some m =>
      intro r1 r3
      have hm := coreV_lt hc r3
      obtain ⟨M2, s1, s2, s3, s4⟩ := X6_keep (S := S) (z := z) h1 ho
      obtain ⟨M3, t1, t2, t3, t4⟩ := X0_tp (S := S) (z := z) (a := 1) (b := 1) rfl rfl s4.1 hc (bits_nat (m := m) (by omega))
      have hok : okC (q.1.1.1, prt (fun i => m.testBit i) q.1.1.2 0) := okC_prt0 hc _
      have hl10 : (prt (fun i => m.testBit i) q.1.1.2 0).length ≤ 10 := hok.1
      obtain ⟨M4, u1, u2, u3, u4⟩ := X6_sh_l (S := S) (z := z) (p := p) (n := (prt (fun i => m.testBit i) q.1.1.2 0).length) (by omega) (prt (fun i => m.testBit i) q.1.1.2 0).length 0 hN_f (q.1.1.1, prt (fun i => m.testBit i) q.1.1.2 0) M3 (by omega) (by unfold hN_f; omega) hok rfl t2 (s4.2.keep t3 (by omega))
      obtain ⟨w1, w2⟩ := CI_chg (u' := (shrC q.1.1 p m, q.1.2)) h1 s2 (keepsV_len ho.2.2.1) s3 ((FE.of t3 t4 (by omega) (by omega)).trans u4) ⟨u2, u3⟩
      refine ⟨M4, ?_, w1, r2.km.trans w2⟩
      have e8 := t2.2.1
      unfold m_X6_shrink
      rw [X6_cp1 (by omega)]
      simp (disch := omega) only [↓mo_ns_r, ↓hn0, ↓mo_cs_s, ↓mo_xs_r, ↓mo_xs_l, ↓mo_nl_s, mo_z_0, mo_z_1, ↓hg0_0, ↓hg0_1, ↓hg0_2, ↓hg0_3, ↓hg0_4, ↓hg0_5, hw0_5, ↓hg0_6, ↓hg0_7, ↓hv0, ↓hx0, ha132, hu132, ↓hl132]
      rw [r1]
      simp (disch := omega) only [↓mo_ns_r, ↓hn0, ↓mo_cs_s, ↓mo_xs_r, ↓mo_xs_l, ↓mo_nl_s, mo_z_0, mo_z_1, ji1, ji2, ji3, ji4, ji5, ji6, ji7, ji8, ji9, ji10, ji11, ji12, ji13, ji14, ji15, ji16, ji19, ji20, ji24, ji31, ji32, ji39, ji45, ji48, ji57, ji58, ji59, ji60, ji97, ji100, ji119, ji120, ji122, ji144, ji200, ji226, ji240, ji255, ji300, ji366, ji400, ji500, ji1000, jI_z, ↓jI_m1, jI_add, jI_sub, jI_mul, oI_ne hm, if_false, ↓hg0_0, ↓hg0_1, ↓hg0_2, ↓hg0_3, ↓hg0_4, ↓hg0_5, hw0_5, ↓hg0_6, ↓hg0_7, ↓hv0, ↓hx0, ha132, hu132, ↓hl132]
      rw [s1]
      unfold m_X0_keepPart
      simp (disch := omega) only [↓mo_ns_r, ↓hn0, ↓mo_cs_s, ↓mo_xs_r, ↓mo_xs_l, ↓mo_nl_s, mo_z_0, mo_z_1, ↓hg0_0, ↓hg0_1, ↓hg0_2, ↓hg0_3, ↓hg0_4, ↓hg0_5, hw0_5, ↓hg0_6, ↓hg0_7, ↓hv0, ↓hx0, ha132, hu132, ↓hl132, ↓Bv (b := 1) rfl]
      show mo_cs (mo_cs (m_X0_takePart (hp S z M2) (z + 1) (z + 1) (jI (m : Int))) _) _ = _
      rw [t1]
      simp (disch := omega) only [↓mo_ns_r, ↓hn0, ↓mo_cs_s, ↓mo_xs_r, ↓mo_xs_l, ↓mo_nl_s, mo_z_0, mo_z_1, ↓hg0_0, ↓hg0_1, ↓hg0_2, ↓hg0_3, ↓hg0_4, ↓hg0_5, hw0_5, ↓hg0_6, ↓hg0_7, ↓hv0, ↓hx0, ha132, hu132, ↓hl132, ↓Bv (b := 1) rfl]
      rw [X0_count (b := 1) rfl]
      simp (disch := omega) only [↓mo_ns_r, ↓hn0, ↓mo_cs_s, ↓mo_xs_r, ↓mo_xs_l, ↓mo_nl_s, mo_z_0, mo_z_1, e8]
      exact u1
  · rw [if_neg g]
    refine OC.no h (by decide) ?_
    unfold m_X6_shrink
    rw [X6_cp0 hp' g]
    simp only [↓mo_ns_r, ↓hn0, ↓mo_cs_s, ↓mo_xs_r, ↓mo_xs_l, ↓mo_nl_s, mo_z_0, mo_z_1]
    rfl

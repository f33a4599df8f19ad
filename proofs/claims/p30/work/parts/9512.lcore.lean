variable {S : hSh}
/-! THE LAW'S STEPS: what they leave, calls of the class, draws, cores. -/
def KL (M M' : hM) : Prop := (∀ a, a < 133 → (∀ k, gI M' a k = gI M a k) ∧ ∀ k, gA M' a k = gA M a k) ∧ Vr M M'
theorem CI.kl {M M' : hM} {q : hQ} (h : CI M q) (ho : okQ q) (k : KL M M') : CI M' q :=
  ⟨h.1.cg (fun a _ _ => k.1 a (by omega)), h.2.1.cg ho.2.2.1 ((k.1 0 (by omega)).1 5) (fun a _ _ => k.1 a (by omega)) (fun j _ _ => k.2 j), h.2.2.1.cg (fun a _ _ => k.1 a (by omega)), h.2.2.2.cg (fun a _ => k.1 a (by omega))⟩
/-- what runs of the law at r and new cells from n on leave -/
def FL (r n : Nat) (M M' : hM) : Prop := (∀ b, (b < r ∨ r + 9 ≤ b) → b < n → (∀ k, gI M' b k = gI M b k) ∧ ∀ k, gA M' b k = gA M b k) ∧ Vr M M'
theorem FL.rfl' {r n : Nat} {M : hM} : FL r n M M := ⟨fun _ _ _ => ⟨fun _ => rfl, fun _ => rfl⟩, Vr.rfl'⟩
theorem FL.trans {r n n' : Nat} {M M' M'' : hM} (h : FL r n M M') (h' : FL r n' M' M'') (hn : n ≤ n') : FL r n M M'' :=
  ⟨fun b h1 h2 => ⟨fun k => ((h'.1 b h1 (by omega)).1 k).trans ((h.1 b h1 h2).1 k), fun k => ((h'.1 b h1 (by omega)).2 k).trans ((h.1 b h1 h2).2 k)⟩, h.2.trans h'.2⟩
theorem FL.ofR {r n : Nat} {M M' : hM} (h : Fr r (r + 9) M M') (hv : Vr M M') : FL r n M M' := ⟨fun b h1 _ => h b (by omega), hv⟩
theorem FL.ofN {r n m : Nat} {M M' : hM} (h : Fr n m M M') (hv : Vr M M') : FL r n M M' := ⟨fun b _ h2 => h b (by omega), hv⟩
theorem FL.kl {r n : Nat} {M M' : hM} (h : FL r n M M') (hr : 133 ≤ r) (hn : 133 ≤ n) : KL M M' := ⟨fun a ha => h.1 a (by omega) (by omega), h.2⟩
theorem PE.cg2 {M M' : hM} {p : Nat} {o E : Nat → Int} (h : PE M p o E) (e : ∀ b, p ≤ b → b < p + 5 → ∀ k, gA M' b k = gA M b k) : PE M' p o E :=
  ⟨fun k hk => by rw [e (p + 1) (by omega) (by omega)]; exact h.1 k hk, fun k hk => by rw [e (p + 3) (by omega) (by omega), e (p + 4) (by omega) (by omega), e (p + 2) (by omega) (by omega)]; exact h.2 k hk⟩
theorem PE.fl {M M' : hM} {p r n : Nat} {o E : Nat → Int} (h : PE M p o E) (f : FL r n M M') (hd : p + 5 ≤ r ∨ r + 9 ≤ p) (hn : p + 5 ≤ n) : PE M' p o E := h.cg2 (fun b h1 h2 k => (f.1 b (by omega) (by omega)).2 k)
theorem PL.fl {M M' : hM} {p r n : Nat} {c : hCf} (h : PL M p c) (f : FL r n M M') (hd : p + 5 ≤ r ∨ r + 9 ≤ p) (hn : p + 5 ≤ n) : PL M' p c := by
  obtain ⟨E, h1, h2, h3⟩ := h
  exact ⟨E, h1, h2.fl f hd hn, h3⟩
theorem PL.km {M M' : hM} {p : Nat} {c : hCf} (h : PL M p c) (k : KM M M') (hp' : 133 ≤ p) : PL M' p c := by
  obtain ⟨E, h1, h2, h3⟩ := h
  exact ⟨E, h1, h2.cg2 (fun b h1 _ j => (k b (by omega)).2 j), h3⟩
theorem WR.cg {M M' : hM} {r p : Nat} {c : hCf} {t : Int} {s : hS} (h : WR M r p c t s) (e : ∀ b, r ≤ b → b < r + 9 → (∀ k, gI M' b k = gI M b k) ∧ ∀ k, gA M' b k = gA M b k) (hP : PL M' p c) : WR M' r p c t s := by
  obtain ⟨T, O, W, B, N, J, K, C⟩ := s
  obtain ⟨h0, _, h11, hT', hO, hW, hB, hN, hJ, h16⟩ := h
  have i : ∀ k, gI M' r k = gI M r k := (e r (by omega) (by omega)).1
  refine ⟨by rw [i]; exact h0, hP, by rw [i]; exact h11, ⟨by rw [i]; exact hT'.1, fun k x hk => ?_, fun k hk => ?_⟩, hO.cg (i 10) (i 12) (e (r + 6) (by omega) (by omega)).2, hW.cg (e (r + 8) (by omega) (by omega)).2, by rw [i]; exact hB, by rw [i]; exact hN, hJ.cg (i 17) (i 15), by rw [i]; exact h16⟩
  · rw [(e (r + 1) (by omega) (by omega)).2, (e (r + 2) (by omega) (by omega)).2, (e (r + 3) (by omega) (by omega)).2, (e (r + 4) (by omega) (by omega)).2, (e (r + 5) (by omega) (by omega)).2]
    exact hT'.2.1 k x hk
  · rw [(e (r + 7) (by omega) (by omega)).2]; exact hT'.2.2 k hk
theorem nvC {z : Nat} {M : hM} {o : Option ((String ⊕ Int32) × ac_H)} {e : Int → String} {r : hR} (h : OC S z M o e r) (h0 : r.1 = 0) :
    ∃ M', (∀ {α : Type} (F : Int32 → ac_H → Option α), mo_nv (hp S z M) z 6 o F = F (jI r.2.1) (hp S z M')) ∧ CI M' r.2.2 ∧ KM M M' := by
  obtain ⟨M', h1, h2, h3⟩ := h
  refine ⟨M', fun F => ?_, h2, h3⟩
  rw [hn0, h1]
  unfold xo
  rw [if_pos h0]; rfl
theorem cvD {z : Nat} {M : hM} {o : Option (Int32 × ac_H)} {r : hR} (h : OD S z M o r) :
    ∃ M', (∀ {α : Type} (F : Int32 → ac_H → Option α), mo_cv (hp S z M) z 6 o F = F (jI r.2.1) (hp S z M')) ∧ CI M' r.2.2 ∧ KM M M' := by
  obtain ⟨M', h1, h2, h3⟩ := h
  refine ⟨M', fun F => ?_, h2, h3⟩
  rw [hv0, h1]; rfl
/-- a draw -/
theorem shr8 (x : Int32) : ∃ a : Int, ((x).toUInt32 >>> ((jI 8).toUInt32 &&& (jI 31).toUInt32)).toInt32 = jI a ∧ 0 ≤ a ∧ a < 16777216 := by
  have e : ((jI 8).toUInt32 &&& (jI 31).toUInt32) = (8 : UInt32) := by decide
  rw [e]
  generalize hy : x.toUInt32 >>> 8 = y
  have hl : y.toNat < 16777216 := by
    rw [← hy, UInt32.toNat_shiftRight]
    have := x.toUInt32.toNat_lt
    rw [show (8 : UInt32).toNat % 32 = 8 from rfl, Nat.shiftRight_eq_div_pow]
    omega
  refine ⟨y.toNat, ?_, by omega, by omega⟩
  rw [jI_nat]
  apply Int32.toBitVec_inj.mp
  apply BitVec.eq_of_toNat_eq
  simp
theorem L_draw {z g : Nat} {M : hM} {m : Int} (hg : lA S g 0 1) (h0 : 0 < m) (h1 : m < 2147483648) : ∃ v u : Int, m_L_draw (hp S z M) (z + g) (jI m) = some (jI v, hp S z (sA M g 0 u)) ∧ 0 ≤ v ∧ v < m := by
  obtain ⟨a, e, a0, a1⟩ := shr8 (jI (gA M g 0 * 1664525 + 1013904223))
  refine ⟨a % m, gA M g 0 * 1664525 + 1013904223, ?_, Int.emod_nonneg _ (by omega), Int.emod_lt_of_pos _ h0⟩
  have r0 : ∀ {α : Type} {M : hM} {F : Int32 → Option α}, mo_ai (hp S z M) (z + g) 0 (jI 0) F = F (jI (gA M g (0 : Int).toNat)) := fun {α M F} => hl_ai hg (by decide) (by decide) (by decide)
  have w0 : ∀ {α : Type} {M : hM} {v : Int} {F : ac_H → Option α}, mo_ui (hp S z M) (z + g) 0 (jI 0) (jI v) F = F (hp S z (sA M g (0 : Int).toNat v)) := fun {α M v F} => hl_ui hg (by decide) (by decide) (by decide)
  unfold m_L_draw
  simp only [ji1, ji2, ji3, ji4, ji5, ji6, ji7, ji8, ji9, ji10, ji11, ji12, ji13, ji14, ji15, ji16, ji19, ji20, ji24, ji31, ji32, ji39, ji45, ji48, ji57, ji58, ji59, ji60, ji97, ji100, ji119, ji120, ji122, ji144, ji200, ji226, ji240, ji255, ji300, ji366, ji400, ji500, ji1000, jI_z, ↓jI_m1, jI_add, jI_sub, jI_mul, ↓jm1000, ↓jm100, ↓jm10, ↓jm9, ji50, ji65280, ji1664525, ji252645135, ji858993459, ji1013904223, ji1431655765, ji2147483639, ji2147483647]
  rw [r0]
  simp only [ji1, ji2, ji3, ji4, ji5, ji6, ji7, ji8, ji9, ji10, ji11, ji12, ji13, ji14, ji15, ji16, ji19, ji20, ji24, ji31, ji32, ji39, ji45, ji48, ji57, ji58, ji59, ji60, ji97, ji100, ji119, ji120, ji122, ji144, ji200, ji226, ji240, ji255, ji300, ji366, ji400, ji500, ji1000, jI_z, ↓jI_m1, jI_add, jI_sub, jI_mul, ↓jm1000, ↓jm100, ↓jm10, ↓jm9, ji50, ji65280, ji1664525, ji252645135, ji858993459, ji1013904223, ji1431655765, ji2147483639, ji2147483647]
  rw [w0, r0]
  rw [show (0 : Int).toNat = 0 from rfl, gA_eq, e]
  rw [mo_rm_j a0 (by omega) h0 h1]
/-- the JDK's reverse below 64 -/
def rvW (a : Int32) : Int32 := match m_J6_reverse_0f7a4 (fun _ => none) a with
  | some (x, _) => ((x).toUInt32 >>> ((jI 1).toUInt32 &&& (jI 31).toUInt32)).toInt32
  | none => 0
theorem rv_all : ∀ m : Fin 64, rvW (Int32.ofNat m.val) = Int32.ofNat (mir 6 m.val * 33554432) := by decide +kernel
theorem mir_6 : ∀ n : Fin 7, ∀ m : Fin 64, m.val < 2 ^ n.val → mir 6 m.val = mir n.val m.val * 2 ^ (6 - n.val) := by decide +kernel
theorem J6_rv {σ : ac_H} {m : Nat} (hm : m < 64) : ∃ x, m_J6_reverse_0f7a4 σ (jI m) = some (x, σ) ∧ ((x).toUInt32 >>> ((jI 1).toUInt32 &&& (jI 31).toUInt32)).toInt32 = jI ((mir 6 m * 33554432 : Nat) : Int) := by
  have h := rv_all ⟨m, hm⟩
  simp only at h
  rw [← jI_nat, ← jI_nat] at h
  exact ⟨_, rfl, h⟩
def cB (n : Nat) (P : Nat → Bool) (m : Nat) : Option Nat → Prop
  | none => ∀ m', m' < m → P m' = false
  | some b => b < m ∧ P b = true ∧ ∀ m', m' < m → P m' = true → m' ≠ b → bef n b m'
theorem L_j63 {z p r n m pr : Nat} {M : hM} {c : hCf} {best : Int} {K5 : ac_H → Nat → Int32 → Int32 → Option ((Int32 × Nat) × ac_H)} (hq : isP S p) (hr : isR S r) (hd : p + 5 ≤ r ∨ r + 9 ≤ p) (hpn : p + 5 ≤ n) (hrn : r + 9 ≤ n) (h133 : 133 ≤ n) (hc : okC c) (hP : PL M p c) (hpr : pr < 4) (hm : m < 2147483648) :
    ∃ S' M', m_L_core_j63 K5 (z + p) (z + r) (jI pr) (hp S z M) (z + n) (jI best) (jI m) = K5 (hp S' z M') (z + (n + 5)) (jI (if cP c pr m = true then (m : Int) else best)) (jI ((m + 1 : Nat) : Int)) ∧ SK n S S' ∧ FL r n M M' := by
  obtain ⟨E, hE, hPE, hcE⟩ := hP
  have hlen : (fl E 360 0).length ≤ 30 := by rw [← hcE]; have := hc.1; omega
  obtain ⟨S1, M1, a1, a2, a3, a4, a5, a6⟩ := X7_part (S := S) (z := z) (m := m) hq hpn h133 hE hPE hm hlen
  have hc1 : okC (c.1, prt (fun i => m.testBit i) c.2 0) := hc.prt _ _
  have hP1 : PL M1 n (c.1, prt (fun i => m.testBit i) c.2 0) := ⟨_, eOK_pE hE, a6, by simp only; rw [hcE, fl_part]⟩
  have hr1 := hr.sk a3 hrn
  obtain ⟨M2, b1, b2, b3, b4, b5⟩ := X8_gb (z := z) (pr := pr) hr1 a2 (by omega) hc1 hP1 hpr
  refine ⟨S1, M2, ?_, a3, (FL.ofN a4 a5).trans (FL.ofR (n := n) b4 b5) (Nat.le_refl _)⟩
  have eb : brk (c.1, prt (fun i => m.testBit i) c.2 0) pr = cP c pr m := rfl
  unfold m_L_core_j63
  simp only [↓Pv hq, a1, ↓mo_cs_s, ↓Rv hr1, b1, b2, eb, show (jI (m : Int)) + 1 = jI ((m + 1 : Nat) : Int) from by rw [show (1 : Int32) = jI 1 from rfl, jI_add]; rfl]
  cases cP c pr m
  · rw [if_pos (show jI (b2i false) = 0 from rfl), if_neg (by decide)]
  · rw [if_neg (show ¬ jI (b2i true) = 0 by decide), if_pos rfl]
theorem L_core_l {z p r pr : Nat} {c : hCf} (hd : p + 5 ≤ r ∨ r + 9 ≤ p) (hc : okC c) (hl : c.2.length ≤ 6) (hpr : pr < 4) : ∀ (d m f n : Nat) (S : hSh) (M : hM) (o : Option Nat), m + d = 2 ^ c.2.length → d < f → isP S p → isR S r → p + 5 ≤ n → r + 9 ≤ n → 133 ≤ n → PL M p c → cB c.2.length (cP c pr) m o →
    ∃ S' M' n' o', m_L_core_l5 (z + p) (z + r) (jI pr) f (hp S z M) (z + n) (jI (oI o)) (jI m) = some ((jI (oI o'), z + n'), hp S' z M') ∧ isCo c pr o' ∧ n ≤ n' ∧ SK n S S' ∧ FL r n M M' := by
  have h64 : 2 ^ c.2.length ≤ 2 ^ 6 := Nat.pow_le_pow_right (by omega) hl
  intro d
  induction d with
  | zero =>
    intro m f n S M o hm hf hq hr hpn hrn h133 hP hB
    obtain ⟨f, rfl⟩ : ∃ g, f = g + 1 := ⟨f - 1, by omega⟩
    obtain ⟨E, hE, hPE, hcE⟩ := hP
    have hmm : m = 2 ^ c.2.length := by omega
    refine ⟨S, M, n, o, ?_, ?_, Nat.le_refl _, SK.rfl', FL.rfl'⟩
    · have hmany := X7_many (z := z) hq hPE hE
      rw [← hcE] at hmany
      have g : ¬ (m : Int) < ((2 ^ c.2.length : Nat) : Int) := by omega
      unfold m_L_core_l5
      simp (disch := omega) only [↓Pv hq, hmany, ↓mo_cs_s, ji1, ji2, ji3, ji4, ji5, ji6, ji7, ji8, ji9, ji10, ji11, ji12, ji13, ji14, ji15, ji16, ji19, ji20, ji24, ji31, ji32, ji39, ji45, ji48, ji57, ji58, ji59, ji60, ji97, ji100, ji119, ji120, ji122, ji144, ji200, ji226, ji240, ji255, ji300, ji366, ji400, ji500, ji1000, jI_z, ↓jI_m1, jI_add, jI_sub, jI_mul, ↓jm1000, ↓jm100, ↓jm10, ↓jm9, ji50, ji65280, ji1664525, ji252645135, ji858993459, ji1013904223, ji1431655765, ji2147483639, ji2147483647, jS, Int.toNat_natCast, jI_lt, g, if_false]
    · cases o with
      | none => intro m' h'; exact hB m' (by omega)
      | some b => exact ⟨by rw [← hmm]; exact hB.1, hB.2.1, fun m' h1 h2 h3 => hB.2.2 m' (by omega) h2 h3⟩
  | succ d ih =>
    intro m f n S M o hm hf hq hr hpn hrn h133 hP hB
    obtain ⟨f, rfl⟩ : ∃ g, f = g + 1 := ⟨f - 1, by omega⟩
    obtain ⟨E, hE, hPE, hcE⟩ := hP
    have hmany := X7_many (z := z) hq hPE hE
    rw [← hcE] at hmany
    have g : (m : Int) < ((2 ^ c.2.length : Nat) : Int) := by omega
    have ek : (m : Int) + 1 = ((m + 1 : Nat) : Int) := by omega
    have hP : PL M p c := ⟨E, hE, hPE, hcE⟩
    -- a part tried
    have go : (∀ b, o = some b → pop m < pop b ∨ (pop m = pop b ∧ mir c.2.length b < mir c.2.length m)) →
        ∃ S' M' n' o', m_L_core_j63 (fun ρ y0 y1 y2 => m_L_core_l5 (z + p) (z + r) (jI pr) f ρ y0 y1 y2) (z + p) (z + r) (jI pr) (hp S z M) (z + n) (jI (oI o)) (jI m) = some ((jI (oI o'), z + n'), hp S' z M') ∧ isCo c pr o' ∧ n ≤ n' ∧ SK n S S' ∧ FL r n M M' := by
      intro hb
      obtain ⟨S1, M1, a1, a2, a3⟩ := L_j63 (z := z) (m := m) (best := oI o) (K5 := fun ρ y0 y1 y2 => m_L_core_l5 (z + p) (z + r) (jI pr) f ρ y0 y1 y2) hq hr hd hpn hrn h133 hc hP hpr (by omega)
      have hB1 : cB c.2.length (cP c pr) (m + 1) (if cP c pr m = true then some m else o) := by
        by_cases hc' : cP c pr m = true
        · rw [if_pos hc']
          refine ⟨by omega, hc', fun m' h1 h2 h3 => ?_⟩
          cases o with
          | none => have := hB m' (by omega); rw [this] at h2; exact absurd h2 (by decide)
          | some b =>
            have hbm : bef c.2.length m b := hb b rfl
            by_cases e : m' = b
            · rw [e]; exact hbm
            · exact bef_tr hbm (hB.2.2 m' (by omega) h2 e)
        · rw [if_neg hc']
          have hc'' : cP c pr m = false := by simpa using hc'
          cases o with
          | none =>
            intro m' h1
            rcases Nat.lt_succ_iff_lt_or_eq.mp h1 with h2 | h2
            · exact hB m' h2
            · rw [h2]; exact hc''
          | some b =>
            refine ⟨by have := hB.1; omega, hB.2.1, fun m' h1 h2 h3 => ?_⟩
            rcases Nat.lt_succ_iff_lt_or_eq.mp h1 with h4 | h4
            · exact hB.2.2 m' h4 h2 h3
            · rw [h4, hc''] at h2; exact absurd h2 (by decide)
      have eo : (if cP c pr m = true then (m : Int) else oI o) = oI (if cP c pr m = true then some m else o) := by split <;> rfl
      obtain ⟨S2, M2, n', o', b1, b2, b3, b4, b5⟩ := ih (m + 1) f (n + 5) S1 M1 (if cP c pr m = true then some m else o) (by omega) (by omega) (hq.sk a2 hpn) (hr.sk a2 hrn) (by omega) (by omega) (by omega) (hP.fl a3 hd hpn) hB1
      refine ⟨S2, M2, n', o', ?_, b2, by omega, a2.trans (b4.mono (by omega)), a3.trans b5 (by omega)⟩
      rw [a1, eo]; exact b1
    -- a part passed over
    have skip : (∀ b, o = some b → cP c pr m = true → m ≠ b → bef c.2.length b m) → (∃ b, o = some b) →
        ∃ S' M' n' o', m_L_core_l5 (z + p) (z + r) (jI pr) f (hp S z M) (z + n) (jI (oI o)) (jI ((m + 1 : Nat) : Int)) = some ((jI (oI o'), z + n'), hp S' z M') ∧ isCo c pr o' ∧ n ≤ n' ∧ SK n S S' ∧ FL r n M M' := by
      rintro hb ⟨b, rfl⟩
      refine ih (m + 1) f n S M (some b) (by omega) (by omega) hq hr hpn hrn h133 hP ⟨by have := hB.1; omega, hB.2.1, fun m' h1 h2 h3 => ?_⟩
      rcases Nat.lt_succ_iff_lt_or_eq.mp h1 with h4 | h4
      · exact hB.2.2 m' h4 h2 h3
      · subst h4; exact hb b rfl h2 h3
    unfold m_L_core_l5
    simp (disch := omega) only [↓Pv hq, hmany, ↓mo_cs_s, ji1, ji2, ji3, ji4, ji5, ji6, ji7, ji8, ji9, ji10, ji11, ji12, ji13, ji14, ji15, ji16, ji19, ji20, ji24, ji31, ji32, ji39, ji45, ji48, ji57, ji58, ji59, ji60, ji97, ji100, ji119, ji120, ji122, ji144, ji200, ji226, ji240, ji255, ji300, ji366, ji400, ji500, ji1000, jI_z, ↓jI_m1, jI_add, jI_sub, jI_mul, ↓jm1000, ↓jm100, ↓jm10, ↓jm9, ji50, ji65280, ji1664525, ji252645135, ji858993459, ji1013904223, ji1431655765, ji2147483639, ji2147483647, jS, Int.toNat_natCast, jI_lt, g, if_true]
    cases o with
    | none =>
      rw [if_pos (show jI (oI none) < jI 0 by decide)]
      exact go (fun b hb => by cases hb)
    | some b =>
      have hb64 : b < 64 := by have := hB.1; omega
      have hm64 : m < 64 := by omega
      have pm := pop_le m
      have pb := pop_le b
      have gb : ¬ jI (oI (some b)) < jI 0 := by
        show ¬ jI (b : Int) < jI 0
        rw [jI_lt (by omega) (by omega) (by omega) (by omega)]; omega
      rw [if_neg gb]
      have eob : oI (some b) = (b : Int) := rfl
      rw [eob] at go skip ⊢
      rw [J6_bc (show m < 65536 by omega)]
      simp only [↓mo_cs_s]
      rw [J6_bc (show b < 65536 by omega)]
      simp (disch := omega) only [↓mo_cs_s, jI_lt]
      by_cases g1 : pop b < pop m
      · rw [if_pos (by omega)]
        rw [ek]
        exact skip (fun b' hb' _ _ => by cases hb'; exact Or.inl g1) ⟨b, rfl⟩
      · rw [if_neg (by omega)]
        rw [J6_bc (show m < 65536 by omega)]
        simp only [↓mo_cs_s]
        rw [J6_bc (show b < 65536 by omega)]
        simp (disch := omega) only [↓mo_cs_s, jI_eq]
        by_cases g2 : pop m = pop b
        · rw [if_pos (by omega)]
          obtain ⟨x, x1, x2⟩ := J6_rv (σ := hp S z M) hm64
          obtain ⟨y, y1, y2⟩ := J6_rv (σ := hp S z M) hb64
          rw [x1]
          simp only [↓mo_cs_s]
          rw [y1]
          simp only [↓mo_cs_s]
          rw [x2, y2]
          have m6 := mir_6 ⟨c.2.length, by omega⟩ ⟨m, hm64⟩ (by show m < 2 ^ c.2.length; omega)
          have b6 := mir_6 ⟨c.2.length, by omega⟩ ⟨b, hb64⟩ (by show b < 2 ^ c.2.length; have := hB.1; omega)
          simp only at m6 b6
          have l1 := mir_lt 6 m
          have l2 := mir_lt 6 b
          have hlt : (mir 6 b < mir 6 m) ↔ (mir c.2.length b < mir c.2.length m) := by
            rw [m6, b6]
            exact Nat.mul_lt_mul_right (Nat.two_pow_pos _)
          have hj := jI_lt (a := ((mir 6 b * 33554432 : Nat) : Int)) (b := ((mir 6 m * 33554432 : Nat) : Int)) (by omega) (by omega) (by omega) (by omega)
          by_cases g3 : mir 6 b < mir 6 m
          · rw [if_pos (by rw [hj]; omega)]
            exact go (fun b' hb' => by cases hb'; exact Or.inr ⟨g2, hlt.mp g3⟩)
          · rw [if_neg (by rw [hj]; omega)]
            rw [ek]
            refine skip (fun b' hb' _ hne => ?_) ⟨b, rfl⟩
            cases hb'
            refine Or.inr ⟨g2.symm, ?_⟩
            have hne2 : mir c.2.length m ≠ mir c.2.length b := fun h => hne (mir_inj _ m b (by omega) (by have := hB.1; omega) h)
            have : ¬ mir c.2.length b < mir c.2.length m := fun h => g3 (hlt.mpr h)
            omega
        · rw [if_neg (by omega)]
          exact go (fun b' hb' => by cases hb'; exact Or.inl (by omega))
theorem L_core {z p r pr n : Nat} {M : hM} {c : hCf} (hd : p + 5 ≤ r ∨ r + 9 ≤ p) (hc : okC c) (hl : c.2.length ≤ 6) (hpr : pr < 4) (hq : isP S p) (hr : isR S r) (hpn : p + 5 ≤ n) (hrn : r + 9 ≤ n) (h133 : 133 ≤ n) (hP : PL M p c) :
    ∃ S' M' n', m_L_core (hp S z M) (z + p) (z + r) (jI pr) (z + n) = some ((jI (oI (coreV c pr)), z + n'), hp S' z M') ∧ isCo c pr (coreV c pr) ∧ n ≤ n' ∧ SK n S S' ∧ FL r n M M' := by
  have h64 : 2 ^ c.2.length ≤ 2 ^ 6 := Nat.pow_le_pow_right (by omega) hl
  obtain ⟨S', M', n', o', r1, r2, r3, r4, r5⟩ := L_core_l (z := z) hd hc hl hpr (2 ^ c.2.length) 0 66 n S M none (by omega) (by omega) hq hr hpn hrn h133 hP (fun m' h => by omega)
  have e := coreV_eq r2
  subst e
  refine ⟨S', M', n', ?_, r2, r3, r4, r5⟩
  unfold m_L_core
  exact r1

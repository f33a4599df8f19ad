variable {S : hSh}
/-! THE LAW'S RUN: a transmission. -/
def PL (M : hM) (p : Nat) (c : hCf) : Prop := ∃ E, eOK E ∧ PE M p c.1 E ∧ c.2 = fl E 360 0
theorem PL.keep {M M' : hM} {p lo hi : Nat} {c : hCf} (h : PL M p c) (hf : Fr lo hi M M') (hd : p + 5 ≤ lo ∨ hi ≤ p) : PL M' p c := by
  obtain ⟨E, h1, h2, h3⟩ := h
  exact ⟨E, h1, h2.keep hf hd, h3⟩
theorem PL.s {M : hM} {p k : Nat} {c : hCf} (h : PL M p c) (hk : k < 8) : gA M (p + 1) k = c.1 k := by
  obtain ⟨E, h1, h2, h3⟩ := h
  exact h2.1 k hk
theorem PL.d {M : hM} {p k : Nat} {c : hCf} (h : PL M p c) (hk : k < 120) : gA M (p + 3) k = if fnd 0 k c.2 0 = -1 then 0 else 1 := by
  obtain ⟨E, h1, h2, h3⟩ := h
  have b := h1 (3 * k) (by omega)
  rw [(h2.2 k hk).1, h3]
  simp only [fl_d hk]
  split
  · assumption
  · have := b.2.2 (by omega); omega
theorem PL.t {M : hM} {p k : Nat} {c : hCf} (h : PL M p c) (hk : k < 120) : gA M (p + 4) k = if fnd 1 k c.2 0 = -1 then 0 else 1 := by
  obtain ⟨E, h1, h2, h3⟩ := h
  have b := h1 (3 * k + 1) (by omega)
  rw [(h2.2 k hk).2.1, h3]
  simp only [fl_t hk]
  split
  · assumption
  · have := b.2.2 (by omega); omega
theorem PL.l {M : hM} {p k : Nat} {c : hCf} (h : PL M p c) (hk : k < 120) : gA M (p + 2) k = cAmt c k := by
  obtain ⟨E, h1, h2, h3⟩ := h
  have e : cAmt c k = cAmt (c.1, fl E 360 0) k := by unfold cAmt; rw [h3]
  rw [(h2.2 k hk).2.2, e, fl_amt hk]
def dueB (T : List hT) (k : Nat) : Bool := T.any (fun x => decide (x.2.2.2.1 = (k : Int)) || decide (x.2.2.2.2 = (k : Int)))
def wT (M : hM) (r : Nat) (T : List hT) : Prop := gI M r 9 = T.length ∧ (∀ k x, T[k]? = some x → gA M (r + 1) k = x.1 ∧ gA M (r + 2) k = x.2.1 ∧ gA M (r + 3) k = x.2.2.1 ∧ gA M (r + 4) k = x.2.2.2.1 ∧ gA M (r + 5) k = x.2.2.2.2) ∧ ∀ k, k < 400 → gA M (r + 7) k = b2i (dueB T k)
def wO (M : hM) (r : Nat) (O : List Int) (C : Int) : Prop := gI M r 10 = O.length ∧ (∀ k x, O[k]? = some x → gA M (r + 6) k = x) ∧ gI M r 12 = C
def wW (M : hM) (r : Nat) (W : Nat → Nat) : Prop := ∀ s t, s < 9 → t < 16 → gA M (r + 8) (16 * s + t) = if (W s).testBit t = true then 1 else 0
def wJ (M : hM) (r : Nat) (c : hCf) (B N J : Int) : Prop := (c.1 0 = 1 → gI M r 17 = (if J = -1 then 1 else 0) ∧ (J ≠ -1 → gI M r 15 = J)) ∧ (c.1 0 = 2 → B < N → gI M r 15 = J)
/-- the Run at r, of the plan at p, stands at s in tick t -/
def WR (M : hM) (r p : Nat) (c : hCf) (t : Int) : hS → Prop := fun ⟨T, O, W, B, N, J, K, C⟩ => gI M r 0 = p ∧ PL M p c ∧ gI M r 11 = t ∧ wT M r T ∧ wO M r O C ∧ wW M r W ∧ gI M r 13 = B ∧ gI M r 14 = N ∧ wJ M r c B N J ∧ gI M r 16 = K
def dM (M : hM) (r : Nat) (v : Int) : hM := if v < 0 then M else sA M (r + 7) v.toNat 1
theorem gI_dM {M : hM} {r b k : Nat} {v : Int} : gI (dM M r v) b k = gI M b k := by unfold dM; split <;> rfl
theorem gA_dM {M : hM} {r b k : Nat} {v : Int} (h : b ≠ r + 7) : gA (dM M r v) b k = gA M b k := by
  unfold dM; split
  · rfl
  · rw [gA_ne (by omega)]
theorem Fr_dM {M : hM} {r : Nat} {v : Int} : Fr r (r + 9) M (dM M r v) := by
  unfold dM; split
  · exact Fr.rfl'
  · exact Fr.sA (by omega)
theorem Vr_dM {M : hM} {r : Nat} {v : Int} : Vr M (dM M r v) := by
  unfold dM; split <;> exact fun _ => rfl
theorem X8_s179 {z r n : Nat} {M : hM} {sec : Int} (hr : isR S r) (hn : n < 120) (h9 : gI M r 9 = n) (h5 : gA M (r + 5) n = sec) (hs : -1 ≤ sec ∧ sec < 400) :
    m_X8_send_j179 (z + r) (hp S z M) = some ((), hp S z (sI (dM M r sec) r 9 (n + 1))) := by
  unfold m_X8_send_j179
  simp (disch := omega) only [ji1, ji2, ji3, ji4, ji5, ji6, ji7, ji8, ji9, ji10, ji11, ji12, ji13, ji14, ji15, ji16, ji19, ji20, ji24, ji31, ji32, ji39, ji45, ji48, ji57, ji58, ji59, ji60, ji97, ji100, ji119, ji120, ji122, ji144, ji200, ji226, ji240, ji255, ji300, ji366, ji400, ji500, ji1000, jI_z, ↓jI_m1, jI_add, jI_sub, jI_mul, ↓jm1000, ↓jm100, ↓jm10, ↓jm9, ji50, ji65280, ji1664525, ji252645135, ji858993459, ji1013904223, ji1431655765, ji2147483639, ji2147483647, ↓Rg0 hr, Rw0 hr, ↓Rg1 hr, ↓Rg2 hr, ↓Rg3 hr, ↓Rg4 hr, ↓Rg5 hr, ↓Rg6 hr, ↓Rg7 hr, ↓Rg8 hr, ↓Rg9 hr, Rw9 hr, ↓Rg10 hr, Rw10 hr, ↓Rg11 hr, Rw11 hr, ↓Rg12 hr, Rw12 hr, ↓Rg13 hr, Rw13 hr, ↓Rg14 hr, Rw14 hr, ↓Rg15 hr, Rw15 hr, ↓Rg16 hr, Rw16 hr, ↓Rg17 hr, Rw17 hr, ↓Rv hr, Ra1 hr, Ru1 hr, Ra2 hr, Ru2 hr, Ra3 hr, Ru3 hr, Ra4 hr, Ru4 hr, Ra5 hr, Ru5 hr, Ra6 hr, Ru6 hr, Ra7 hr, Ru7 hr, Ra8 hr, Ru8 hr, h9, Int.toNat_natCast, h5, jI_lt]
  unfold dM
  by_cases g : sec < 0
  · rw [if_pos g, if_pos g]
  · rw [if_neg g, if_neg g]
    simp (disch := omega) only [ji1, ji2, ji3, ji4, ji5, ji6, ji7, ji8, ji9, ji10, ji11, ji12, ji13, ji14, ji15, ji16, ji19, ji20, ji24, ji31, ji32, ji39, ji45, ji48, ji57, ji58, ji59, ji60, ji97, ji100, ji119, ji120, ji122, ji144, ji200, ji226, ji240, ji255, ji300, ji366, ji400, ji500, ji1000, jI_z, ↓jI_m1, jI_add, jI_sub, jI_mul, ↓jm1000, ↓jm100, ↓jm10, ↓jm9, ji50, ji65280, ji1664525, ji252645135, ji858993459, ji1013904223, ji1431655765, ji2147483639, ji2147483647, ↓Rg0 hr, Rw0 hr, ↓Rg1 hr, ↓Rg2 hr, ↓Rg3 hr, ↓Rg4 hr, ↓Rg5 hr, ↓Rg6 hr, ↓Rg7 hr, ↓Rg8 hr, ↓Rg9 hr, Rw9 hr, ↓Rg10 hr, Rw10 hr, ↓Rg11 hr, Rw11 hr, ↓Rg12 hr, Rw12 hr, ↓Rg13 hr, Rw13 hr, ↓Rg14 hr, Rw14 hr, ↓Rg15 hr, Rw15 hr, ↓Rg16 hr, Rw16 hr, ↓Rg17 hr, Rw17 hr, ↓Rv hr, Ra1 hr, Ru1 hr, Ra2 hr, Ru2 hr, Ra3 hr, Ru3 hr, Ra4 hr, Ru4 hr, Ra5 hr, Ru5 hr, Ra6 hr, Ru6 hr, Ra7 hr, Ru7 hr, Ra8 hr, Ru8 hr, gI_sA, gA_sI, gI_eq, gI_ne, gA_eq, gA_ne, nneg, if_false, if_true, Int.toNat_natCast, h9, h5, nar_z1]
theorem X8_s151 {z r n : Nat} {M : hM} {fst sec : Int} (hr : isR S r) (hn : n < 120) (h9 : gI M r 9 = n) (h4 : gA M (r + 4) n = fst) (hf : -1 ≤ fst ∧ fst < 400) (hs : -1 ≤ sec ∧ sec < 400) :
    m_X8_send_j151 (z + r) (hp S z M) (jI sec) (jI n) (z + (r + 5)) = some ((), hp S z (sI (dM (dM (sA M (r + 5) n sec) r fst) r sec) r 9 (n + 1))) := by
  have e9 : gI (sA M (r + 5) n sec) r 9 = n := h9
  have e4 : gA (sA M (r + 5) n sec) (r + 4) n = fst := by rw [gA_ne (by omega), h4]
  have e5 : gA (sA M (r + 5) n sec) (r + 5) n = sec := gA_eq
  unfold m_X8_send_j151
  simp (disch := omega) only [ji1, ji2, ji3, ji4, ji5, ji6, ji7, ji8, ji9, ji10, ji11, ji12, ji13, ji14, ji15, ji16, ji19, ji20, ji24, ji31, ji32, ji39, ji45, ji48, ji57, ji58, ji59, ji60, ji97, ji100, ji119, ji120, ji122, ji144, ji200, ji226, ji240, ji255, ji300, ji366, ji400, ji500, ji1000, jI_z, ↓jI_m1, jI_add, jI_sub, jI_mul, ↓jm1000, ↓jm100, ↓jm10, ↓jm9, ji50, ji65280, ji1664525, ji252645135, ji858993459, ji1013904223, ji1431655765, ji2147483639, ji2147483647, ↓Rg0 hr, Rw0 hr, ↓Rg1 hr, ↓Rg2 hr, ↓Rg3 hr, ↓Rg4 hr, ↓Rg5 hr, ↓Rg6 hr, ↓Rg7 hr, ↓Rg8 hr, ↓Rg9 hr, Rw9 hr, ↓Rg10 hr, Rw10 hr, ↓Rg11 hr, Rw11 hr, ↓Rg12 hr, Rw12 hr, ↓Rg13 hr, Rw13 hr, ↓Rg14 hr, Rw14 hr, ↓Rg15 hr, Rw15 hr, ↓Rg16 hr, Rw16 hr, ↓Rg17 hr, Rw17 hr, ↓Rv hr, Ra1 hr, Ru1 hr, Ra2 hr, Ru2 hr, Ra3 hr, Ru3 hr, Ra4 hr, Ru4 hr, Ra5 hr, Ru5 hr, Ra6 hr, Ru6 hr, Ra7 hr, Ru7 hr, Ra8 hr, Ru8 hr, h9, Int.toNat_natCast, e4, e9, jI_lt, gI_sA]
  generalize sA M (r + 5) n sec = M1 at e9 e4 e5
  by_cases g : fst < 0
  · rw [if_pos g]
    have : dM M1 r fst = M1 := by unfold dM; rw [if_pos g]
    rw [this]
    exact X8_s179 hr hn e9 e5 hs
  · rw [if_neg g]
    have : dM M1 r fst = sA M1 (r + 7) fst.toNat 1 := by unfold dM; rw [if_neg g]
    rw [this]
    simp (disch := omega) only [ji1, ji2, ji3, ji4, ji5, ji6, ji7, ji8, ji9, ji10, ji11, ji12, ji13, ji14, ji15, ji16, ji19, ji20, ji24, ji31, ji32, ji39, ji45, ji48, ji57, ji58, ji59, ji60, ji97, ji100, ji119, ji120, ji122, ji144, ji200, ji226, ji240, ji255, ji300, ji366, ji400, ji500, ji1000, jI_z, ↓jI_m1, jI_add, jI_sub, jI_mul, ↓jm1000, ↓jm100, ↓jm10, ↓jm9, ji50, ji65280, ji1664525, ji252645135, ji858993459, ji1013904223, ji1431655765, ji2147483639, ji2147483647, ↓Rg0 hr, Rw0 hr, ↓Rg1 hr, ↓Rg2 hr, ↓Rg3 hr, ↓Rg4 hr, ↓Rg5 hr, ↓Rg6 hr, ↓Rg7 hr, ↓Rg8 hr, ↓Rg9 hr, Rw9 hr, ↓Rg10 hr, Rw10 hr, ↓Rg11 hr, Rw11 hr, ↓Rg12 hr, Rw12 hr, ↓Rg13 hr, Rw13 hr, ↓Rg14 hr, Rw14 hr, ↓Rg15 hr, Rw15 hr, ↓Rg16 hr, Rw16 hr, ↓Rg17 hr, Rw17 hr, ↓Rv hr, Ra1 hr, Ru1 hr, Ra2 hr, Ru2 hr, Ra3 hr, Ru3 hr, Ra4 hr, Ru4 hr, Ra5 hr, Ru5 hr, Ra6 hr, Ru6 hr, Ra7 hr, Ru7 hr, Ra8 hr, Ru8 hr, Int.toNat_natCast, e4, e9, nar_z1]
    exact X8_s179 hr hn e9 (by rw [gA_ne (by omega)]; exact e5) hs
theorem X8_s97 {z r p n : Nat} {M : hM} {c : hCf} {t : Int} (hr : isR S r) (hq : isP S p) (hd : p + 5 ≤ r ∨ r + 9 ≤ p) (hc : okC c) (ht : 0 ≤ t ∧ t < 200) (hn : n < 120) (h0 : gI M r 0 = p) (hP : PL M p c) (h9 : gI M r 9 = n) :
    m_X8_send_j97 (z + r) (hp S z M) (jI (tFst c t n)) (jI n) (z + (r + 4)) = some ((), hp S z (sI (dM (dM (sA (sA M (r + 4) n (tFst c t n)) (r + 5) n (tSnd c t n)) r (tFst c t n)) r (tSnd c t n)) r 9 (n + 1))) := by
  have ha := cAmt_in hc n
  have hcs := hc.s
  have hf : -1 ≤ tFst c t n ∧ tFst c t n < 400 := by unfold tFst; split <;> omega
  have hs : -1 ≤ tSnd c t n ∧ tSnd c t n < 400 := by unfold tSnd; split <;> (try split) <;> omega
  have e9 : gI (sA M (r + 4) n (tFst c t n)) r 9 = n := h9
  have e0 : gI (sA M (r + 4) n (tFst c t n)) r 0 = p := h0
  have hP1 : PL (sA M (r + 4) n (tFst c t n)) p c := hP.keep (Fr.sA (lo := r) (hi := r + 9) (by omega)) (by omega)
  have e4 : gA (sA M (r + 4) n (tFst c t n)) (r + 4) n = tFst c t n := gA_eq
  have ed := hP1.d hn
  have et := hP1.t hn
  unfold m_X8_send_j97
  simp (disch := omega) only [ji1, ji2, ji3, ji4, ji5, ji6, ji7, ji8, ji9, ji10, ji11, ji12, ji13, ji14, ji15, ji16, ji19, ji20, ji24, ji31, ji32, ji39, ji45, ji48, ji57, ji58, ji59, ji60, ji97, ji100, ji119, ji120, ji122, ji144, ji200, ji226, ji240, ji255, ji300, ji366, ji400, ji500, ji1000, jI_z, ↓jI_m1, jI_add, jI_sub, jI_mul, ↓jm1000, ↓jm100, ↓jm10, ↓jm9, ji50, ji65280, ji1664525, ji252645135, ji858993459, ji1013904223, ji1431655765, ji2147483639, ji2147483647, ↓Rg0 hr, Rw0 hr, ↓Rg1 hr, ↓Rg2 hr, ↓Rg3 hr, ↓Rg4 hr, ↓Rg5 hr, ↓Rg6 hr, ↓Rg7 hr, ↓Rg8 hr, ↓Rg9 hr, Rw9 hr, ↓Rg10 hr, Rw10 hr, ↓Rg11 hr, Rw11 hr, ↓Rg12 hr, Rw12 hr, ↓Rg13 hr, Rw13 hr, ↓Rg14 hr, Rw14 hr, ↓Rg15 hr, Rw15 hr, ↓Rg16 hr, Rw16 hr, ↓Rg17 hr, Rw17 hr, ↓Rv hr, Ra1 hr, Ru1 hr, Ra2 hr, Ru2 hr, Ra3 hr, Ru3 hr, Ra4 hr, Ru4 hr, Ra5 hr, Ru5 hr, Ra6 hr, Ru6 hr, Ra7 hr, Ru7 hr, Ra8 hr, Ru8 hr, Int.toNat_natCast]
  generalize sA M (r + 4) n (tFst c t n) = M1 at e9 e0 hP1 e4 ed et
  simp (disch := omega) only [ji1, ji2, ji3, ji4, ji5, ji6, ji7, ji8, ji9, ji10, ji11, ji12, ji13, ji14, ji15, ji16, ji19, ji20, ji24, ji31, ji32, ji39, ji45, ji48, ji57, ji58, ji59, ji60, ji97, ji100, ji119, ji120, ji122, ji144, ji200, ji226, ji240, ji255, ji300, ji366, ji400, ji500, ji1000, jI_z, ↓jI_m1, jI_add, jI_sub, jI_mul, ↓jm1000, ↓jm100, ↓jm10, ↓jm9, ji50, ji65280, ji1664525, ji252645135, ji858993459, ji1013904223, ji1431655765, ji2147483639, ji2147483647, ↓Rg0 hr, Rw0 hr, ↓Rg1 hr, ↓Rg2 hr, ↓Rg3 hr, ↓Rg4 hr, ↓Rg5 hr, ↓Rg6 hr, ↓Rg7 hr, ↓Rg8 hr, ↓Rg9 hr, Rw9 hr, ↓Rg10 hr, Rw10 hr, ↓Rg11 hr, Rw11 hr, ↓Rg12 hr, Rw12 hr, ↓Rg13 hr, Rw13 hr, ↓Rg14 hr, Rw14 hr, ↓Rg15 hr, Rw15 hr, ↓Rg16 hr, Rw16 hr, ↓Rg17 hr, Rw17 hr, ↓Rv hr, Ra1 hr, Ru1 hr, Ra2 hr, Ru2 hr, Ra3 hr, Ru3 hr, Ra4 hr, Ru4 hr, Ra5 hr, Ru5 hr, Ra6 hr, Ru6 hr, Ra7 hr, Ru7 hr, Ra8 hr, Ru8 hr, ↓Pg0 hq, ↓Pg1 hq, ↓Pg2 hq, ↓Pg3 hq, ↓Pv hq, Pa1 hq, Pu1 hq, Pa2 hq, Pu2 hq, Pa3 hq, Pu3 hq, Pa4 hq, Pu4 hq, Int.toNat_natCast, e9, e0, nneg, if_false, et]
  have fin := X8_s151 (z := z) (M := M1) (sec := tSnd c t n) hr hn e9 e4 hf hs
  by_cases g1 : fnd 1 n c.2 0 = -1
  · have es : tSnd c t n = -1 := by unfold tSnd; split <;> rfl
    rw [es] at fin ⊢
    rw [if_pos g1, if_pos rfl]
    exact fin
  · rw [if_neg g1, if_neg (by decide)]
    simp (disch := omega) only [ji1, ji2, ji3, ji4, ji5, ji6, ji7, ji8, ji9, ji10, ji11, ji12, ji13, ji14, ji15, ji16, ji19, ji20, ji24, ji31, ji32, ji39, ji45, ji48, ji57, ji58, ji59, ji60, ji97, ji100, ji119, ji120, ji122, ji144, ji200, ji226, ji240, ji255, ji300, ji366, ji400, ji500, ji1000, jI_z, ↓jI_m1, jI_add, jI_sub, jI_mul, ↓jm1000, ↓jm100, ↓jm10, ↓jm9, ji50, ji65280, ji1664525, ji252645135, ji858993459, ji1013904223, ji1431655765, ji2147483639, ji2147483647, ↓Rg0 hr, Rw0 hr, ↓Rg1 hr, ↓Rg2 hr, ↓Rg3 hr, ↓Rg4 hr, ↓Rg5 hr, ↓Rg6 hr, ↓Rg7 hr, ↓Rg8 hr, ↓Rg9 hr, Rw9 hr, ↓Rg10 hr, Rw10 hr, ↓Rg11 hr, Rw11 hr, ↓Rg12 hr, Rw12 hr, ↓Rg13 hr, Rw13 hr, ↓Rg14 hr, Rw14 hr, ↓Rg15 hr, Rw15 hr, ↓Rg16 hr, Rw16 hr, ↓Rg17 hr, Rw17 hr, ↓Rv hr, Ra1 hr, Ru1 hr, Ra2 hr, Ru2 hr, Ra3 hr, Ru3 hr, Ra4 hr, Ru4 hr, Ra5 hr, Ru5 hr, Ra6 hr, Ru6 hr, Ra7 hr, Ru7 hr, Ra8 hr, Ru8 hr, ↓Pg0 hq, ↓Pg1 hq, ↓Pg2 hq, ↓Pg3 hq, ↓Pv hq, Pa1 hq, Pu1 hq, Pa2 hq, Pu2 hq, Pa3 hq, Pu3 hq, Pa4 hq, Pu4 hq, Int.toNat_natCast, e9, e0, nneg, if_false, ed]
    by_cases g2 : fnd 0 n c.2 0 = -1
    · have es : tSnd c t n = tFst c t n + 1 := by unfold tSnd tFst; rw [if_pos g2, if_neg g1, if_pos g2]
      rw [es] at fin ⊢
      rw [if_pos g2, if_pos rfl]
      simp (disch := omega) only [ji1, ji2, ji3, ji4, ji5, ji6, ji7, ji8, ji9, ji10, ji11, ji12, ji13, ji14, ji15, ji16, ji19, ji20, ji24, ji31, ji32, ji39, ji45, ji48, ji57, ji58, ji59, ji60, ji97, ji100, ji119, ji120, ji122, ji144, ji200, ji226, ji240, ji255, ji300, ji366, ji400, ji500, ji1000, jI_z, ↓jI_m1, jI_add, jI_sub, jI_mul, ↓jm1000, ↓jm100, ↓jm10, ↓jm9, ji50, ji65280, ji1664525, ji252645135, ji858993459, ji1013904223, ji1431655765, ji2147483639, ji2147483647, ↓Rg0 hr, Rw0 hr, ↓Rg1 hr, ↓Rg2 hr, ↓Rg3 hr, ↓Rg4 hr, ↓Rg5 hr, ↓Rg6 hr, ↓Rg7 hr, ↓Rg8 hr, ↓Rg9 hr, Rw9 hr, ↓Rg10 hr, Rw10 hr, ↓Rg11 hr, Rw11 hr, ↓Rg12 hr, Rw12 hr, ↓Rg13 hr, Rw13 hr, ↓Rg14 hr, Rw14 hr, ↓Rg15 hr, Rw15 hr, ↓Rg16 hr, Rw16 hr, ↓Rg17 hr, Rw17 hr, ↓Rv hr, Ra1 hr, Ru1 hr, Ra2 hr, Ru2 hr, Ra3 hr, Ru3 hr, Ra4 hr, Ru4 hr, Ra5 hr, Ru5 hr, Ra6 hr, Ru6 hr, Ra7 hr, Ru7 hr, Ra8 hr, Ru8 hr, Int.toNat_natCast, e9, e4]
      exact fin
    · have es : tSnd c t n = -1 := by unfold tSnd; rw [if_neg g2]
      rw [es] at fin ⊢
      rw [if_neg g2, if_neg (by decide)]
      exact fin
theorem dueB_s {T : List hT} {x : hT} {k : Nat} : dueB (T ++ [x]) k = (dueB T k || (decide (x.2.2.2.1 = (k : Int)) || decide (x.2.2.2.2 = (k : Int)))) := by
  unfold dueB; rw [List.any_append]; simp only [List.any_cons, List.any_nil, Bool.or_false]
theorem X8_send {z r p : Nat} {M : hM} {c : hCf} {s : hS} {t kd w : Int} (hr : isR S r) (hq : isP S p) (hd : p + 5 ≤ r ∨ r + 9 ≤ p) (hc : okC c) (ht : 0 ≤ t ∧ t < 200) (hT : s.1.length ≤ 120) (h : WR M r p c t s) :
    ∃ M', m_X8_send (hp S z M) (z + r) (jI kd) (jI w) = some ((), hp S z M') ∧ WR M' r p c t (zSend c t kd w s) ∧ Fr r (r + 9) M M' ∧ Vr M M' := by
  obtain ⟨T, O, W, B, N, J, K, C⟩ := s
  obtain ⟨h0, hP, h11, ⟨h9, hA, hD⟩, ⟨o1, o2, o3⟩, hW, hB, hN, hJ, hK⟩ := h
  simp only at hT
  by_cases hl : T.length = 120
  · refine ⟨M, ?_, ?_, Fr.rfl', Vr.rfl'⟩
    · have : gI M r 9 = 120 := by rw [h9]; omega
      unfold m_X8_send
      simp (disch := omega) only [ji1, ji2, ji3, ji4, ji5, ji6, ji7, ji8, ji9, ji10, ji11, ji12, ji13, ji14, ji15, ji16, ji19, ji20, ji24, ji31, ji32, ji39, ji45, ji48, ji57, ji58, ji59, ji60, ji97, ji100, ji119, ji120, ji122, ji144, ji200, ji226, ji240, ji255, ji300, ji366, ji400, ji500, ji1000, jI_z, ↓jI_m1, jI_add, jI_sub, jI_mul, ↓jm1000, ↓jm100, ↓jm10, ↓jm9, ji50, ji65280, ji1664525, ji252645135, ji858993459, ji1013904223, ji1431655765, ji2147483639, ji2147483647, ↓Rg0 hr, Rw0 hr, ↓Rg1 hr, ↓Rg2 hr, ↓Rg3 hr, ↓Rg4 hr, ↓Rg5 hr, ↓Rg6 hr, ↓Rg7 hr, ↓Rg8 hr, ↓Rg9 hr, Rw9 hr, ↓Rg10 hr, Rw10 hr, ↓Rg11 hr, Rw11 hr, ↓Rg12 hr, Rw12 hr, ↓Rg13 hr, Rw13 hr, ↓Rg14 hr, Rw14 hr, ↓Rg15 hr, Rw15 hr, ↓Rg16 hr, Rw16 hr, ↓Rg17 hr, Rw17 hr, ↓Rv hr, Ra1 hr, Ru1 hr, Ra2 hr, Ru2 hr, Ra3 hr, Ru3 hr, Ra4 hr, Ru4 hr, Ra5 hr, Ru5 hr, Ra6 hr, Ru6 hr, Ra7 hr, Ru7 hr, Ra8 hr, Ru8 hr, this, if_true]
    · unfold zSend; rw [if_pos hl]; exact ⟨h0, hP, h11, ⟨h9, hA, hD⟩, ⟨o1, o2, o3⟩, hW, hB, hN, hJ, hK⟩
  · generalize hn : T.length = n at h9 hT hl
    have hz : zSend c t kd w (T, O, W, B, N, J, K, C) = (T ++ [(t, kd, w, tFst c t n, tSnd c t n)], O, W, B, N, J, K, C) := by unfold zSend; simp only [hn]; rw [if_neg hl]
    rw [hz]
    have hcs := hc.s
    have hca := cAmt_in hc n
    have hf : -1 ≤ tFst c t n ∧ tFst c t n < 400 := by unfold tFst; split <;> omega
    have hs : -1 ≤ tSnd c t n ∧ tSnd c t n < 400 := by unfold tSnd; split <;> (try split) <;> omega
    generalize hM1 : sA (sA (sA M (r + 1) n t) (r + 2) n kd) (r + 3) n w = M1
    have hF1 : Fr r (r + 9) M M1 := by rw [← hM1]; exact ((Fr.sA (by omega)).trans (Fr.sA (by omega))).trans (Fr.sA (by omega))
    have hV1 : Vr M M1 := by rw [← hM1]; exact fun _ => rfl
    have i1 : ∀ b k, gI M1 b k = gI M b k := fun b k => by rw [← hM1]; rfl
    have hP1 : PL M1 p c := hP.keep hF1 (by omega)
    have r97 := X8_s97 (z := z) (t := t) (n := n) hr hq hd hc ht (by omega) (by rw [i1]; exact h0) hP1 (by rw [i1]; exact h9)
    have e3 := hP1.s (k := 3) (by omega)
    have el := hP1.l (k := n) (by omega)
    have ed := hP1.d (k := n) (by omega)
    generalize hM2 : sA (sA M1 (r + 4) n (tFst c t n)) (r + 5) n (tSnd c t n) = M2 at r97
    refine ⟨sI (dM (dM M2 r (tFst c t n)) r (tSnd c t n)) r 9 (n + 1), ?_, ?_, ?_, ?_⟩
    · unfold m_X8_send
      have hl' : ¬ (n : Int) = 120 := by omega
      simp (disch := omega) only [ji1, ji2, ji3, ji4, ji5, ji6, ji7, ji8, ji9, ji10, ji11, ji12, ji13, ji14, ji15, ji16, ji19, ji20, ji24, ji31, ji32, ji39, ji45, ji48, ji57, ji58, ji59, ji60, ji97, ji100, ji119, ji120, ji122, ji144, ji200, ji226, ji240, ji255, ji300, ji366, ji400, ji500, ji1000, jI_z, ↓jI_m1, jI_add, jI_sub, jI_mul, ↓jm1000, ↓jm100, ↓jm10, ↓jm9, ji50, ji65280, ji1664525, ji252645135, ji858993459, ji1013904223, ji1431655765, ji2147483639, ji2147483647, ↓Rg0 hr, Rw0 hr, ↓Rg1 hr, ↓Rg2 hr, ↓Rg3 hr, ↓Rg4 hr, ↓Rg5 hr, ↓Rg6 hr, ↓Rg7 hr, ↓Rg8 hr, ↓Rg9 hr, Rw9 hr, ↓Rg10 hr, Rw10 hr, ↓Rg11 hr, Rw11 hr, ↓Rg12 hr, Rw12 hr, ↓Rg13 hr, Rw13 hr, ↓Rg14 hr, Rw14 hr, ↓Rg15 hr, Rw15 hr, ↓Rg16 hr, Rw16 hr, ↓Rg17 hr, Rw17 hr, ↓Rv hr, Ra1 hr, Ru1 hr, Ra2 hr, Ru2 hr, Ra3 hr, Ru3 hr, Ra4 hr, Ru4 hr, Ra5 hr, Ru5 hr, Ra6 hr, Ru6 hr, Ra7 hr, Ru7 hr, Ra8 hr, Ru8 hr, gI_sA, gA_sI, gI_eq, gI_ne, gA_eq, gA_ne, nneg, if_false, if_true, Int.toNat_natCast, h9, jI_eq, hl', h11, hM1]
      simp (disch := omega) only [↓Rg0 hr, Rw0 hr, ↓Rg1 hr, ↓Rg2 hr, ↓Rg3 hr, ↓Rg4 hr, ↓Rg5 hr, ↓Rg6 hr, ↓Rg7 hr, ↓Rg8 hr, ↓Rg9 hr, Rw9 hr, ↓Rg10 hr, Rw10 hr, ↓Rg11 hr, Rw11 hr, ↓Rg12 hr, Rw12 hr, ↓Rg13 hr, Rw13 hr, ↓Rg14 hr, Rw14 hr, ↓Rg15 hr, Rw15 hr, ↓Rg16 hr, Rw16 hr, ↓Rg17 hr, Rw17 hr, ↓Rv hr, Ra1 hr, Ru1 hr, Ra2 hr, Ru2 hr, Ra3 hr, Ru3 hr, Ra4 hr, Ru4 hr, Ra5 hr, Ru5 hr, Ra6 hr, Ru6 hr, Ra7 hr, Ru7 hr, Ra8 hr, Ru8 hr, ↓Pg0 hq, ↓Pg1 hq, ↓Pg2 hq, ↓Pg3 hq, ↓Pv hq, Pa1 hq, Pu1 hq, Pa2 hq, Pu2 hq, Pa3 hq, Pu3 hq, Pa4 hq, Pu4 hq, i1, h0, h9, h11, nneg, if_false, Int.toNat_natCast, ed]
      by_cases g : fnd 0 n c.2 0 = -1
      · have ef : tFst c t n = t + c.1 3 + cAmt c n := by unfold tFst; rw [if_pos g]
        have e3' : gA M1 (p + 1) (3 : Int).toNat = c.1 3 := e3
        rw [if_pos g, if_pos rfl]
        simp (disch := omega) only [ji1, ji2, ji3, ji4, ji5, ji6, ji7, ji8, ji9, ji10, ji11, ji12, ji13, ji14, ji15, ji16, ji19, ji20, ji24, ji31, ji32, ji39, ji45, ji48, ji57, ji58, ji59, ji60, ji97, ji100, ji119, ji120, ji122, ji144, ji200, ji226, ji240, ji255, ji300, ji366, ji400, ji500, ji1000, jI_z, ↓jI_m1, jI_add, jI_sub, jI_mul, ↓jm1000, ↓jm100, ↓jm10, ↓jm9, ji50, ji65280, ji1664525, ji252645135, ji858993459, ji1013904223, ji1431655765, ji2147483639, ji2147483647, ↓Rg0 hr, Rw0 hr, ↓Rg1 hr, ↓Rg2 hr, ↓Rg3 hr, ↓Rg4 hr, ↓Rg5 hr, ↓Rg6 hr, ↓Rg7 hr, ↓Rg8 hr, ↓Rg9 hr, Rw9 hr, ↓Rg10 hr, Rw10 hr, ↓Rg11 hr, Rw11 hr, ↓Rg12 hr, Rw12 hr, ↓Rg13 hr, Rw13 hr, ↓Rg14 hr, Rw14 hr, ↓Rg15 hr, Rw15 hr, ↓Rg16 hr, Rw16 hr, ↓Rg17 hr, Rw17 hr, ↓Rv hr, Ra1 hr, Ru1 hr, Ra2 hr, Ru2 hr, Ra3 hr, Ru3 hr, Ra4 hr, Ru4 hr, Ra5 hr, Ru5 hr, Ra6 hr, Ru6 hr, Ra7 hr, Ru7 hr, Ra8 hr, Ru8 hr, ↓Pg0 hq, ↓Pg1 hq, ↓Pg2 hq, ↓Pg3 hq, ↓Pv hq, Pa1 hq, Pu1 hq, Pa2 hq, Pu2 hq, Pa3 hq, Pu3 hq, Pa4 hq, Pu4 hq, i1, h0, h9, h11, nneg, if_false, Int.toNat_natCast, e3', el]
        rw [ef] at r97 ⊢
        exact r97
      · have ef : tFst c t n = -1 := by unfold tFst; rw [if_neg g]
        rw [if_neg g, if_neg (by decide)]
        rw [ef] at r97 ⊢
        exact r97
    · have hF2 : Fr r (r + 9) M M2 := by rw [← hM2]; exact hF1.trans ((Fr.sA (by omega)).trans (Fr.sA (by omega)))
      have hF3 : Fr r (r + 9) M (sI (dM (dM M2 r (tFst c t n)) r (tSnd c t n)) r 9 (n + 1)) := ((hF2.trans Fr_dM).trans Fr_dM).trans (Fr.sI (by omega))
      have i2 : ∀ k, k ≠ 9 → gI (sI (dM (dM M2 r (tFst c t n)) r (tSnd c t n)) r 9 (n + 1)) r k = gI M r k := by
        intro k hk
        rw [gI_ne (by omega), gI_dM, gI_dM, ← hM2, gI_sA, gI_sA, i1]
      have a2 : ∀ b k, b ≠ r + 7 → gA (sI (dM (dM M2 r (tFst c t n)) r (tSnd c t n)) r 9 (n + 1)) b k = gA M2 b k := by
        intro b k hb
        rw [gA_sI, gA_dM hb, gA_dM hb]
      have m2 : ∀ b k, (b < r + 1 ∨ r + 5 < b ∨ k ≠ n) → gA M2 b k = gA M b k := by
        intro b k hb
        rw [← hM2, gA_ne (by omega), gA_ne (by omega), ← hM1, gA_ne (by omega), gA_ne (by omega), gA_ne (by omega)]
      refine ⟨by rw [i2 0 (by omega)]; exact h0, hP.keep hF3 (by omega), by rw [i2 11 (by omega)]; exact h11, ⟨?_, ?_, ?_⟩, ⟨by rw [i2 10 (by omega)]; exact o1, fun k x hk => by rw [a2 _ _ (by omega), m2 _ _ (by omega)]; exact o2 k x hk, by rw [i2 12 (by omega)]; exact o3⟩, fun s' t' h1 h2 => by rw [a2 _ _ (by omega), m2 _ _ (by omega)]; exact hW s' t' h1 h2, by rw [i2 13 (by omega)]; exact hB, by rw [i2 14 (by omega)]; exact hN, ?_, by rw [i2 16 (by omega)]; exact hK⟩
      · rw [gI_eq, List.length_append, hn]; simp
      · intro k x hk
        by_cases hkn : k < T.length
        · rw [List.getElem?_append_left hkn] at hk
          rw [a2 _ _ (by omega), a2 _ _ (by omega), a2 _ _ (by omega), a2 _ _ (by omega), a2 _ _ (by omega), m2 _ _ (by omega), m2 _ _ (by omega), m2 _ _ (by omega), m2 _ _ (by omega), m2 _ _ (by omega)]
          exact hA k x hk
        · have hkl := (List.getElem?_eq_some_iff.mp hk).1
          simp only [List.length_append, List.length_cons, List.length_nil] at hkl
          rw [List.getElem?_append_right (by omega), show k - T.length = 0 from by omega] at hk
          simp only [List.getElem?_cons_zero, Option.some.injEq] at hk
          subst hk
          rw [show k = n from by omega]
          rw [a2 _ _ (by omega), a2 _ _ (by omega), a2 _ _ (by omega), a2 _ _ (by omega), a2 _ _ (by omega), ← hM2, ← hM1]
          simp only
          refine ⟨?_, ?_, ?_, ?_, ?_⟩
          · rw [gA_ne (by omega), gA_ne (by omega), gA_ne (by omega), gA_ne (by omega), gA_eq]
          · rw [gA_ne (by omega), gA_ne (by omega), gA_ne (by omega), gA_eq]
          · rw [gA_ne (by omega), gA_ne (by omega), gA_eq]
          · rw [gA_ne (by omega), gA_eq]
          · rw [gA_eq]
      · intro k hk
        rw [dueB_s, gA_sI]
        have d0 := hD k hk
        have e7 : gA M2 (r + 7) k = b2i (dueB T k) := by rw [m2 _ _ (by omega)]; exact d0
        simp only
        have step : ∀ (M3 : hM) (v : Int) (q : Bool), -1 ≤ v → gA M3 (r + 7) k = b2i q → gA (dM M3 r v) (r + 7) k = b2i (q || decide (v = (k : Int))) := by
          intro M3 v q hv h3
          unfold dM
          by_cases g : v < 0
          · rw [if_pos g, h3, decide_eq_false (by omega), Bool.or_false]
          · rw [if_neg g]
            by_cases g2 : v = (k : Int)
            · rw [decide_eq_true g2, Bool.or_true, g2, Int.toNat_natCast, gA_eq]; rfl
            · rw [decide_eq_false g2, Bool.or_false, gA_ne (by omega), h3]
        rw [step _ _ _ hs.1 (step _ _ _ hf.1 e7), Bool.or_assoc]
      · exact ⟨fun hp' => by rw [i2 17 (by omega), i2 15 (by omega)]; exact hJ.1 hp', fun hp' hbn => by rw [i2 15 (by omega)]; exact hJ.2 hp' hbn⟩
    · rw [← hM2]; exact ((((hF1.trans (Fr.sA (by omega))).trans (Fr.sA (by omega))).trans Fr_dM).trans Fr_dM).trans (Fr.sI (by omega))
    · rw [← hM2]
      have v1 : Vr M (sA (sA M1 (r + 4) n (tFst c t n)) (r + 5) n (tSnd c t n)) := hV1
      have v2 := (v1.trans (Vr_dM (r := r) (v := tFst c t n))).trans (Vr_dM (r := r) (v := tSnd c t n))
      exact fun k => v2 k

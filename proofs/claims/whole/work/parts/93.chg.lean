/-! CHANGES: addFault, removeFault, clearFaults, set. -/
def FE (M M' : hM) : Prop := (∀ a, a = 0 ∨ 30 ≤ a → (∀ k, gI M' a k = gI M a k) ∧ ∀ k, gA M' a k = gA M a k) ∧ Vx 0 M M'
theorem FE.rfl' {M : hM} : FE M M := ⟨fun _ _ => ⟨fun _ => rfl, fun _ => rfl⟩, fun _ _ => rfl⟩
theorem FE.trans {M M' M'' : hM} (h : FE M M') (h' : FE M' M'') : FE M M'' := ⟨fun a ha => ⟨fun k => ((h'.1 a ha).1 k).trans ((h.1 a ha).1 k), fun k => ((h'.1 a ha).2 k).trans ((h.1 a ha).2 k)⟩, fun k hk => (h'.2 k hk).trans (h.2 k hk)⟩
theorem FD.e {M M' : hM} (h : FD M M') : FE M M' := ⟨fun a ha => h.1 a (by omega), h.2⟩
theorem FE.of {M M' : hM} {lo hi : Nat} (h : Fr lo hi M M') (hv : Vr M M') (h1 : 1 ≤ lo) (h2 : hi ≤ 30) : FE M M' := ⟨fun a ha => h a (by omega), fun k _ => hv k⟩
def FN (M M' : hM) : Prop := (∀ a, a < 133 ∨ a = 148 → (∀ k, gI M' a k = gI M a k) ∧ ∀ k, gA M' a k = gA M a k) ∧ (∀ k, 2 ≤ k → gV M' k = gV M k) ∧ (∀ k, k < 21 ∨ 35 < k → gI M' 133 k = gI M 133 k) ∧ ∀ a, a = 135 ∨ 145 ≤ a → ∀ k, gA M' a k = gA M a k
theorem FN.rfl' {M : hM} : FN M M := ⟨fun _ _ => ⟨fun _ => rfl, fun _ => rfl⟩, fun _ _ => rfl, fun _ _ => rfl, fun _ _ _ => rfl⟩
theorem FN.trans {M M' M'' : hM} (h : FN M M') (h' : FN M' M'') : FN M M'' := ⟨fun a ha => ⟨fun k => ((h'.1 a ha).1 k).trans ((h.1 a ha).1 k), fun k => ((h'.1 a ha).2 k).trans ((h.1 a ha).2 k)⟩, fun k hk => (h'.2.1 k hk).trans (h.2.1 k hk), fun k hk => (h'.2.2.1 k hk).trans (h.2.2.1 k hk), fun a ha k => (h'.2.2.2 a ha k).trans (h.2.2.2 a ha k)⟩
theorem FQ.n {M M' : hM} (h : FQ M M') : FN M M' := ⟨fun a ha => h.1 a (by omega) (by omega), fun k hk => h.2.2 k (by omega), fun k hk => h.2.1 k hk, fun a ha => (h.1 a (by omega) (by omega)).2⟩
theorem FrR.n {M M' : hM} (h : FrR 134 M M') : FN M M' := ⟨fun a ha => ⟨fun k => h.2.1 a k, fun k => h.1 a k (by omega)⟩, fun k _ => h.2.2 k, fun k _ => h.2.1 133 k, fun a ha k => h.1 a k (by omega)⟩
theorem FNsA {M : hM} {k : Nat} {v : Int} : FN M (sA M 134 k v) := ⟨fun a ha => ⟨fun _ => rfl, fun j => by rw [gA_sA, if_neg (by omega)]⟩, fun _ _ => rfl, fun _ _ => rfl, fun a ha j => by rw [gA_sA, if_neg (by omega)]⟩
theorem CI_chg {M M1 M2 : hM} {q : hQ} {u' : hU} {h1 : List hU} (h : CI M q) (hH : HC M1 h1) (hl : h1.length ≤ 10) (F : FH M M1) (F2 : FE M1 M2) (hu : UB M2 1 u') : CI M2 (u', h1, q.2.2) ∧ KM M M2 := by
  refine ⟨⟨hu, hH.cg hl ((F2.1 0 (by omega)).1 5) (fun a _ _ => F2.1 a (by omega)) (fun k h1 _ => F2.2 k (by omega)), ?_, ?_⟩, fun a ha => ?_⟩
  · exact h.2.2.1.cg (fun a g1 g2 => ⟨fun k => by rw [(F2.1 a (by omega)).1, (F.1 a (by omega)).1 k (by omega)], fun k => by rw [(F2.1 a (by omega)).2, (F.1 a (by omega)).2 k]⟩)
  · exact h.2.2.2.cg (fun a g1 => ⟨fun k => by rw [(F2.1 a (by omega)).1, (F.1 a (by omega)).1 k (by omega)], fun k => by rw [(F2.1 a (by omega)).2, (F.1 a (by omega)).2 k]⟩)
  · exact ⟨fun k => by rw [(F2.1 a (by omega)).1, (F.1 a (by omega)).1 k (by omega)], fun k => by rw [(F2.1 a (by omega)).2, (F.1 a (by omega)).2 k]⟩
theorem MI_chg {M M1 M2 : hM} {q : hQ} {u' : hU} {h1 : List hU} (h : MI M q) (hH : MH M1 h1) (F : FK M M1) (F2 : FN M1 M2) (hu : UR (gA M2 134) u') : MI M2 (u', h1, q.2.2) ∧ KC M M2 ∧ gI M2 133 0 = gI M 133 0 := by
  refine ⟨⟨hu, hH.cg (F2.2.2.1 36 (by omega)) (F2.2.2.2 145 (by omega)), ?_, ?_⟩, ⟨fun a ha => ?_, fun k hk => ?_⟩, ?_⟩
  · exact h.2.2.1.cg (fun k => by rw [F2.2.2.2 146 (by omega), F.1 146 k (by omega)]) (fun k => by rw [F2.2.2.2 147 (by omega), F.1 147 k (by omega)])
  · exact h.2.2.2.cg (by rw [F2.2.2.1 3 (by omega), F.2.1 133 3 (by omega)]) (by rw [F2.2.2.1 10 (by omega), F.2.1 133 10 (by omega)]) (fun k => by rw [F2.2.2.2 135 (by omega), F.1 135 k (by omega)])
  · exact ⟨fun k => by rw [(F2.1 a ha).1, F.2.1 a k (by omega)], fun k => by rw [(F2.1 a ha).2, F.1 a k (by omega)]⟩
  · rw [F2.2.1 k hk, F.2.2 k]
  · rw [F2.2.2.1 0 (by omega), F.2.1 133 0 (by omega)]
theorem keepsV_len {h : List hU} {u : hU} (hl : h.length ≤ 10) : (keepsV h u).length ≤ 10 := by
  unfold keepsV
  split
  · rw [List.length_append, List.length_tail]; simp; omega
  · rw [List.length_append]; simp; omega
theorem keepsV_mem {h : List hU} {u v : hU} (hv : v ∈ keepsV h u) : v = u ∨ v ∈ h := by
  unfold keepsV at hv
  rcases List.mem_append.mp hv with h1 | h1
  · right
    split at h1
    · exact List.mem_of_mem_tail h1
    · exact h1
  · left; simpa using h1
theorem okQ_chg {q : hQ} {u' : hU} (ho : okQ q) (hu : okU u') : okQ (u', keepsV q.2.1 q.1, q.2.2) :=
  ⟨hu, fun v hv => by
    rcases keepsV_mem hv with h | h
    · rw [h]; exact ho.1
    · exact ho.2.1 v h, keepsV_len ho.2.2.1, ho.2.2.2⟩
theorem UR_fr {M M' : hM} {u : hU} {c' : hCf} (hu : UR (gA M 134) u) (F : FrR 134 M M') (hR : RR (gA M' 134) c') : UR (gA M' 134) (c', u.2) :=
  ⟨hR, fun s t hs ht => by
    have := hu.2 s t hs ht
    simp only at this ⊢
    rw [F.1 134 _ (by omega)]; exact this⟩
theorem X6_keep {z : Nat} {M : hM} {q : hQ} (h : CI M q) (ho : okQ q) : ∃ M1, m_X6_remember (hp z M) z = some ((), hp z M1) ∧ HC M1 (keepsV q.2.1 q.1) ∧ FH M M1 ∧ UB M1 1 q.1 := by
  obtain ⟨M1, r1, r2, r3⟩ := X6_rem (z := z) h.2.1 ho.2.2.1 h.1 ho.1
  exact ⟨M1, r1, r2, r3, h.1.cg (fun a g1 g2 => ⟨fun k => (r3.1 a (by omega)).1 k (by omega), (r3.1 a (by omega)).2⟩)⟩
theorem X7_keep {z : Nat} {M : hM} {q : hQ} (h : MI M q) (ho : okQ q) : ∃ M1, m_X7_keeps (hp z M) (z + 133) = some ((), hp z M1) ∧ MH M1 (keepsV q.2.1 q.1) ∧ FK M M1 ∧ UR (gA M1 134) q.1 := by
  obtain ⟨M1, r1, r2, r3⟩ := X7_ke (z := z) h.2.1 ho.2.2.1 h.1 ho.1 ho.2.1
  exact ⟨M1, r1, r2, r3, h.1.kp (fun k => r3.1 134 k (by omega))⟩
/-- .. put together -/
theorem oc_c {z : Nat} {M M1 M2 : hM} {q : hQ} {u' : hU} {o : Option ((String ⊕ Int32) × ac_H)} {e : Int → String} {v : Int} (h : CI M q) (ho : okQ q) (hH : HC M1 (keepsV q.2.1 q.1)) (F : FH M M1) (F2 : FE M1 M2) (hu : UB M2 1 u') (r : o = some (.inr (jI v), hp z M2)) : OC z M o e (0, v, (u', keepsV q.2.1 q.1, q.2.2)) := ⟨M2, by rw [r]; rfl, (CI_chg h hH (keepsV_len ho.2.2.1) F F2 hu).1, (CI_chg h hH (keepsV_len ho.2.2.1) F F2 hu).2⟩
theorem od_c {z : Nat} {M M1 M2 : hM} {q : hQ} {u' : hU} {o : Option (Int32 × ac_H)} {v : Int} (h : CI M q) (ho : okQ q) (hH : HC M1 (keepsV q.2.1 q.1)) (F : FH M M1) (F2 : FE M1 M2) (hu : UB M2 1 u') (r : o = some (jI v, hp z M2)) : OD z M o (0, v, (u', keepsV q.2.1 q.1, q.2.2)) := ⟨M2, r, (CI_chg h hH (keepsV_len ho.2.2.1) F F2 hu).1, (CI_chg h hH (keepsV_len ho.2.2.1) F F2 hu).2⟩
theorem om_c {z : Nat} {M M1 M2 : hM} {q : hQ} {u' : hU} {o : Option (Int32 × ac_H)} {v : Int} (h : MI M q) (hH : MH M1 (keepsV q.2.1 q.1)) (F : FK (sI M 133 0 0) M1) (F2 : FN M1 M2) (hu : UR (gA M2 134) u') (r : o = some (jI v, hp z M2)) : OM z M o (0, v, (u', keepsV q.2.1 q.1, q.2.2)) := by
  obtain ⟨a, b, c⟩ := MI_chg (h.sI0 (v := 0)) hH F F2 hu
  exact ⟨M2, v, r, fun _ => rfl, c.trans sI00, a, KC.sI.trans b⟩
/-- promise 22 -/
def rClear (q : hQ) : hR := (0, q.1.1.2.length, ((q.1.1.1, []), q.1.2), keepsV q.2.1 q.1, q.2.2)
theorem C_clear {z : Nat} {M : hM} {q : hQ} (h : CI M q) (ho : okQ q) : OD z M (m_X6_clearFaults (hp z M) z) (rClear q) := by
  obtain ⟨M1, r1, r2, r3, r4⟩ := X6_keep (z := z) h ho
  obtain ⟨M2, s1, s2, s3, s4⟩ := X0_delA (z := z) (b := 1) rfl r4.1
  refine od_c (u' := ((q.1.1.1, []), q.1.2)) h ho r2 r3 (FE.of s3 s4 (by omega) (by omega)) ⟨s2, r4.2.keep s3 (by omega)⟩ ?_
  have e := r4.1.2.1
  unfold m_X6_clearFaults
  simp (disch := omega) only [↓hg0_0, ↓hg0_1, ↓hg0_2, ↓hg0_3, ↓hg0_4, ↓hg0_5, hw0_5, ↓hg0_6, ↓hg0_7, ↓hv0, ↓hx0, ha132, hu132, ↓hl132]
  rw [r1]
  simp (disch := omega) only [↓mo_cs_s, ↓mo_xs_r, ↓mo_xs_l, ↓mo_nl_s, mo_z_0, mo_z_1, ↓hg0_0, ↓hg0_1, ↓hg0_2, ↓hg0_3, ↓hg0_4, ↓hg0_5, hw0_5, ↓hg0_6, ↓hg0_7, ↓hv0, ↓hx0, ha132, hu132, ↓hl132, ↓Bv (b := 1) rfl]
  rw [X0_count (b := 1) rfl]
  simp (disch := omega) only [↓mo_cs_s, ↓mo_xs_r, ↓mo_xs_l, ↓mo_nl_s, mo_z_0, mo_z_1, e, ↓hg0_0, ↓hg0_1, ↓hg0_2, ↓hg0_3, ↓hg0_4, ↓hg0_5, hw0_5, ↓hg0_6, ↓hg0_7, ↓hv0, ↓hx0, ha132, hu132, ↓hl132, ↓Bv (b := 1) rfl]
  rw [s1]
  simp (disch := omega) only [↓mo_cs_s, ↓mo_xs_r, ↓mo_xs_l, ↓mo_nl_s, mo_z_0, mo_z_1]
theorem RR.nil {f : Nat → Int} {c : hCf} (h : RR f c) : RR (fun k => if k = 8 then 0 else f k) (c.1, []) :=
  ⟨fun k hk => by simp only; rw [if_neg (by omega)]; exact h.1 k hk, by simp, fun i x hx => by simp at hx⟩
theorem M_clear {z : Nat} {M : hM} {q : hQ} (h : MI M q) (ho : okQ q) : OM z M (m_X7_clearFaults (hp z M) (z + 133)) (rClear q) := by
  obtain ⟨M1, r1, r2, r3, r4⟩ := X7_keep (z := z) (h.sI0 (v := 0)) ho
  have hn : UR (gA (sA M1 134 8 0) 134) ((q.1.1.1, []), q.1.2) :=
    ⟨r4.1.nil.keep (fun k => by rw [gA_sA]; by_cases hk : k = 8 <;> simp [hk]), fun s t hs ht => by
      have := r4.2 s t hs ht
      simp only at this ⊢
      rw [gA_sA, if_neg (by omega)]; exact this⟩
  refine om_c h r2 r3 FNsA hn ?_
  have e8 := r4.1.ok8
  unfold m_X7_clearFaults
  simp (disch := omega) only [ji1, ji2, ji3, ji4, ji5, ji6, ji7, ji8, ji9, ji10, ji11, ji12, ji13, ji14, ji15, ji16, ji19, ji20, ji39, ji119, ji144, ji366, ji24, ji31, ji32, ji45, ji48, ji57, ji58, ji59, ji97, ji120, ji122, ji183, ji200, ji226, ji240, ji255, ji500, jI_z, ↓jI_m1, jI_add, jI_sub, jI_mul, ↓hg133_0, hw133_0, ↓hg133_1, ↓hg133_2, ↓hg133_3, hw133_3, ↓hg133_4, hw133_4, ↓hg133_5, hw133_5, ↓hg133_6, hw133_6, ↓hg133_7, hw133_7, ↓hg133_8, hw133_8, ↓hg133_9, hw133_9, ↓hg133_10, hw133_10, ↓hg133_11, hw133_11, ↓hg133_12, hw133_12, ↓hg133_13, ↓hg133_14, hw133_14, ↓hg133_15, ↓hg133_16, ↓hg133_17, ↓hg133_18, ↓hg133_19, ↓hg133_20, ↓hg133_21, hw133_21, ↓hg133_22, ↓hg133_23, hw133_23, ↓hg133_24, hw133_24, ↓hg133_25, hw133_25, ↓hg133_26, hw133_26, ↓hg133_27, hw133_27, ↓hg133_28, ↓hg133_29, hw133_29, ↓hg133_30, hw133_30, ↓hg133_31, hw133_31, ↓hg133_32, hw133_32, ↓hg133_33, hw133_33, ↓hg133_34, hw133_34, ↓hg133_35, hw133_35, ↓hg133_36, hw133_36, ↓hg133_37, ↓hg133_38, ↓hg133_39, ↓hv133, ↓hx133, ha134, hu134, ↓hl134, ha135, hu135, ↓hl135, ha136, hu136, ↓hl136, ha137, hu137, ↓hl137, ha138, hu138, ↓hl138, ha139, hu139, ↓hl139, ha140, hu140, ↓hl140, ha141, hu141, ↓hl141, ha142, hu142, ↓hl142, ha143, hu143, ↓hl143, ha144, hu144, ↓hl144, ha145, hu145, ↓hl145, ha146, hu146, ↓hl146, ha147, hu147, ↓hl147]
  rw [r1]
  simp (disch := omega) only [↓mo_cs_s, ↓mo_xs_r, ↓mo_xs_l, ↓mo_nl_s, mo_z_0, mo_z_1, ↓hg133_0, hw133_0, ↓hg133_1, ↓hg133_2, ↓hg133_3, hw133_3, ↓hg133_4, hw133_4, ↓hg133_5, hw133_5, ↓hg133_6, hw133_6, ↓hg133_7, hw133_7, ↓hg133_8, hw133_8, ↓hg133_9, hw133_9, ↓hg133_10, hw133_10, ↓hg133_11, hw133_11, ↓hg133_12, hw133_12, ↓hg133_13, ↓hg133_14, hw133_14, ↓hg133_15, ↓hg133_16, ↓hg133_17, ↓hg133_18, ↓hg133_19, ↓hg133_20, ↓hg133_21, hw133_21, ↓hg133_22, ↓hg133_23, hw133_23, ↓hg133_24, hw133_24, ↓hg133_25, hw133_25, ↓hg133_26, hw133_26, ↓hg133_27, hw133_27, ↓hg133_28, ↓hg133_29, hw133_29, ↓hg133_30, hw133_30, ↓hg133_31, hw133_31, ↓hg133_32, hw133_32, ↓hg133_33, hw133_33, ↓hg133_34, hw133_34, ↓hg133_35, hw133_35, ↓hg133_36, hw133_36, ↓hg133_37, ↓hg133_38, ↓hg133_39, ↓hv133, ↓hx133, ha134, hu134, ↓hl134, ha135, hu135, ↓hl135, ha136, hu136, ↓hl136, ha137, hu137, ↓hl137, ha138, hu138, ↓hl138, ha139, hu139, ↓hl139, ha140, hu140, ↓hl140, ha141, hu141, ↓hl141, ha142, hu142, ↓hl142, ha143, hu143, ↓hl143, ha144, hu144, ↓hl144, ha145, hu145, ↓hl145, ha146, hu146, ↓hl146, ha147, hu147, ↓hl147, e8]
  rfl
/-- promise 21 -/
def rRem (q : hQ) (f : Int) : hR := if 0 ≤ f ∧ f < q.1.1.2.length then (0, (q.1.1.2.eraseIdx f.toNat).length, ((q.1.1.1, q.1.1.2.eraseIdx f.toNat), q.1.2), keepsV q.2.1 q.1, q.2.2) else (1, 0, q)
theorem C_rem {z : Nat} {M : hM} {q : hQ} {f : Int} (h : CI M q) (ho : okQ q) (hf : okW f) : OC z M (m_X6_removeFault (hp z M) z (jI f)) eO (rRem q f) := by
  have hB := h.1.1
  have hc := ho.1.1
  unfold rRem
  by_cases g1 : 0 ≤ f ∧ f < q.1.1.2.length
  · rw [if_pos g1]
    obtain ⟨f, rfl⟩ : ∃ i : Nat, f = i := ⟨f.toNat, by omega⟩
    obtain ⟨M1, r1, r2, r3, r4⟩ := X6_keep (z := z) h ho
    obtain ⟨M2, s1, s2, s3, s4⟩ := X0_del (z := z) (b := 1) rfl r4.1 hc (f := f) (by omega)
    refine oc_c (u' := ((q.1.1.1, q.1.1.2.eraseIdx f), q.1.2)) h ho r2 r3 (FE.of s3 s4 (by omega) (by omega)) ⟨s2, r4.2.keep s3 (by omega)⟩ ?_
    have e := s2.2.1
    unfold m_X6_removeFault
    simp (disch := omega) only [↓hg0_0, ↓hg0_1, ↓hg0_2, ↓hg0_3, ↓hg0_4, ↓hg0_5, hw0_5, ↓hg0_6, ↓hg0_7, ↓hv0, ↓hx0, ha132, hu132, ↓hl132]
    rw [X6_cf1 hB hc (by omega)]
    simp (disch := omega) only [↓mo_cs_s, ↓mo_xs_r, ↓mo_xs_l, ↓mo_nl_s, mo_z_0, mo_z_1, ↓hg0_0, ↓hg0_1, ↓hg0_2, ↓hg0_3, ↓hg0_4, ↓hg0_5, hw0_5, ↓hg0_6, ↓hg0_7, ↓hv0, ↓hx0, ha132, hu132, ↓hl132]
    rw [r1]
    simp (disch := omega) only [↓mo_cs_s, ↓mo_xs_r, ↓mo_xs_l, ↓mo_nl_s, mo_z_0, mo_z_1, ↓hg0_0, ↓hg0_1, ↓hg0_2, ↓hg0_3, ↓hg0_4, ↓hg0_5, hw0_5, ↓hg0_6, ↓hg0_7, ↓hv0, ↓hx0, ha132, hu132, ↓hl132, ↓Bv (b := 1) rfl]
    rw [s1]
    simp (disch := omega) only [↓mo_cs_s, ↓mo_xs_r, ↓mo_xs_l, ↓mo_nl_s, mo_z_0, mo_z_1, ↓hg0_0, ↓hg0_1, ↓hg0_2, ↓hg0_3, ↓hg0_4, ↓hg0_5, hw0_5, ↓hg0_6, ↓hg0_7, ↓hv0, ↓hx0, ha132, hu132, ↓hl132, ↓Bv (b := 1) rfl]
    rw [X0_count (b := 1) rfl]
    simp (disch := omega) only [↓mo_cs_s, ↓mo_xs_r, ↓mo_xs_l, ↓mo_nl_s, mo_z_0, mo_z_1, e]
    rfl
  · rw [if_neg g1]
    refine OC.no h (by decide) ?_
    unfold m_X6_removeFault
    simp (disch := omega) only [↓hg0_0, ↓hg0_1, ↓hg0_2, ↓hg0_3, ↓hg0_4, ↓hg0_5, hw0_5, ↓hg0_6, ↓hg0_7, ↓hv0, ↓hx0, ha132, hu132, ↓hl132]
    rw [X6_cf0 hB hc hf g1]
    simp (disch := omega) only [↓mo_cs_s, ↓mo_xs_r, ↓mo_xs_l, ↓mo_nl_s, mo_z_0, mo_z_1]
    rfl
theorem M_rem {z : Nat} {M : hM} {q : hQ} {f : Int} (h : MI M q) (ho : okQ q) (hf : okW f) : OM z M (m_X7_removeFault (hp z M) (z + 133) (jI f)) (rRem q f) := by
  have hR := h.1.1
  have hc := ho.1.1
  unfold rRem
  by_cases g1 : 0 ≤ f ∧ f < q.1.1.2.length
  · rw [if_pos g1]
    obtain ⟨f, rfl⟩ : ∃ i : Nat, f = i := ⟨f.toNat, by omega⟩
    obtain ⟨M1, r1, r2, r3, r4⟩ := X7_keep (z := z) (h.sI0 (v := 0)) ho
    obtain ⟨M2, s1, s2, s3⟩ := X7_go (z := z) (a := 134) (f := f) (Or.inl rfl) hc r4.1 (by omega)
    refine om_c h r2 r3 s3.n (UR_fr r4 s3 s2) ?_
    have e8 := s2.ok8
    unfold m_X7_removeFault
    simp (disch := omega) only [ji1, ji2, ji3, ji4, ji5, ji6, ji7, ji8, ji9, ji10, ji11, ji12, ji13, ji14, ji15, ji16, ji19, ji20, ji39, ji119, ji144, ji366, ji24, ji31, ji32, ji45, ji48, ji57, ji58, ji59, ji97, ji120, ji122, ji183, ji200, ji226, ji240, ji255, ji500, jI_z, ↓jI_m1, jI_add, jI_sub, jI_mul, ↓hg133_0, hw133_0, ↓hg133_1, ↓hg133_2, ↓hg133_3, hw133_3, ↓hg133_4, hw133_4, ↓hg133_5, hw133_5, ↓hg133_6, hw133_6, ↓hg133_7, hw133_7, ↓hg133_8, hw133_8, ↓hg133_9, hw133_9, ↓hg133_10, hw133_10, ↓hg133_11, hw133_11, ↓hg133_12, hw133_12, ↓hg133_13, ↓hg133_14, hw133_14, ↓hg133_15, ↓hg133_16, ↓hg133_17, ↓hg133_18, ↓hg133_19, ↓hg133_20, ↓hg133_21, hw133_21, ↓hg133_22, ↓hg133_23, hw133_23, ↓hg133_24, hw133_24, ↓hg133_25, hw133_25, ↓hg133_26, hw133_26, ↓hg133_27, hw133_27, ↓hg133_28, ↓hg133_29, hw133_29, ↓hg133_30, hw133_30, ↓hg133_31, hw133_31, ↓hg133_32, hw133_32, ↓hg133_33, hw133_33, ↓hg133_34, hw133_34, ↓hg133_35, hw133_35, ↓hg133_36, hw133_36, ↓hg133_37, ↓hg133_38, ↓hg133_39, ↓hv133, ↓hx133, ha134, hu134, ↓hl134, ha135, hu135, ↓hl135, ha136, hu136, ↓hl136, ha137, hu137, ↓hl137, ha138, hu138, ↓hl138, ha139, hu139, ↓hl139, ha140, hu140, ↓hl140, ha141, hu141, ↓hl141, ha142, hu142, ↓hl142, ha143, hu143, ↓hl143, ha144, hu144, ↓hl144, ha145, hu145, ↓hl145, ha146, hu146, ↓hl146, ha147, hu147, ↓hl147]
    rw [X7_nf0 hR hc (by omega)]
    simp (disch := omega) only [↓mo_cs_s, ↓mo_xs_r, ↓mo_xs_l, ↓mo_nl_s, mo_z_0, mo_z_1, if_true, ↓hg133_0, hw133_0, ↓hg133_1, ↓hg133_2, ↓hg133_3, hw133_3, ↓hg133_4, hw133_4, ↓hg133_5, hw133_5, ↓hg133_6, hw133_6, ↓hg133_7, hw133_7, ↓hg133_8, hw133_8, ↓hg133_9, hw133_9, ↓hg133_10, hw133_10, ↓hg133_11, hw133_11, ↓hg133_12, hw133_12, ↓hg133_13, ↓hg133_14, hw133_14, ↓hg133_15, ↓hg133_16, ↓hg133_17, ↓hg133_18, ↓hg133_19, ↓hg133_20, ↓hg133_21, hw133_21, ↓hg133_22, ↓hg133_23, hw133_23, ↓hg133_24, hw133_24, ↓hg133_25, hw133_25, ↓hg133_26, hw133_26, ↓hg133_27, hw133_27, ↓hg133_28, ↓hg133_29, hw133_29, ↓hg133_30, hw133_30, ↓hg133_31, hw133_31, ↓hg133_32, hw133_32, ↓hg133_33, hw133_33, ↓hg133_34, hw133_34, ↓hg133_35, hw133_35, ↓hg133_36, hw133_36, ↓hg133_37, ↓hg133_38, ↓hg133_39, ↓hv133, ↓hx133, ha134, hu134, ↓hl134, ha135, hu135, ↓hl135, ha136, hu136, ↓hl136, ha137, hu137, ↓hl137, ha138, hu138, ↓hl138, ha139, hu139, ↓hl139, ha140, hu140, ↓hl140, ha141, hu141, ↓hl141, ha142, hu142, ↓hl142, ha143, hu143, ↓hl143, ha144, hu144, ↓hl144, ha145, hu145, ↓hl145, ha146, hu146, ↓hl146, ha147, hu147, ↓hl147]
    rw [r1]
    simp (disch := omega) only [↓mo_cs_s, ↓mo_xs_r, ↓mo_xs_l, ↓mo_nl_s, mo_z_0, mo_z_1, ↓hg133_0, hw133_0, ↓hg133_1, ↓hg133_2, ↓hg133_3, hw133_3, ↓hg133_4, hw133_4, ↓hg133_5, hw133_5, ↓hg133_6, hw133_6, ↓hg133_7, hw133_7, ↓hg133_8, hw133_8, ↓hg133_9, hw133_9, ↓hg133_10, hw133_10, ↓hg133_11, hw133_11, ↓hg133_12, hw133_12, ↓hg133_13, ↓hg133_14, hw133_14, ↓hg133_15, ↓hg133_16, ↓hg133_17, ↓hg133_18, ↓hg133_19, ↓hg133_20, ↓hg133_21, hw133_21, ↓hg133_22, ↓hg133_23, hw133_23, ↓hg133_24, hw133_24, ↓hg133_25, hw133_25, ↓hg133_26, hw133_26, ↓hg133_27, hw133_27, ↓hg133_28, ↓hg133_29, hw133_29, ↓hg133_30, hw133_30, ↓hg133_31, hw133_31, ↓hg133_32, hw133_32, ↓hg133_33, hw133_33, ↓hg133_34, hw133_34, ↓hg133_35, hw133_35, ↓hg133_36, hw133_36, ↓hg133_37, ↓hg133_38, ↓hg133_39, ↓hv133, ↓hx133, ha134, hu134, ↓hl134, ha135, hu135, ↓hl135, ha136, hu136, ↓hl136, ha137, hu137, ↓hl137, ha138, hu138, ↓hl138, ha139, hu139, ↓hl139, ha140, hu140, ↓hl140, ha141, hu141, ↓hl141, ha142, hu142, ↓hl142, ha143, hu143, ↓hl143, ha144, hu144, ↓hl144, ha145, hu145, ↓hl145, ha146, hu146, ↓hl146, ha147, hu147, ↓hl147]
    rw [s1]
    simp (disch := omega) only [↓mo_cs_s, ↓mo_xs_r, ↓mo_xs_l, ↓mo_nl_s, mo_z_0, mo_z_1, ↓hg133_0, hw133_0, ↓hg133_1, ↓hg133_2, ↓hg133_3, hw133_3, ↓hg133_4, hw133_4, ↓hg133_5, hw133_5, ↓hg133_6, hw133_6, ↓hg133_7, hw133_7, ↓hg133_8, hw133_8, ↓hg133_9, hw133_9, ↓hg133_10, hw133_10, ↓hg133_11, hw133_11, ↓hg133_12, hw133_12, ↓hg133_13, ↓hg133_14, hw133_14, ↓hg133_15, ↓hg133_16, ↓hg133_17, ↓hg133_18, ↓hg133_19, ↓hg133_20, ↓hg133_21, hw133_21, ↓hg133_22, ↓hg133_23, hw133_23, ↓hg133_24, hw133_24, ↓hg133_25, hw133_25, ↓hg133_26, hw133_26, ↓hg133_27, hw133_27, ↓hg133_28, ↓hg133_29, hw133_29, ↓hg133_30, hw133_30, ↓hg133_31, hw133_31, ↓hg133_32, hw133_32, ↓hg133_33, hw133_33, ↓hg133_34, hw133_34, ↓hg133_35, hw133_35, ↓hg133_36, hw133_36, ↓hg133_37, ↓hg133_38, ↓hg133_39, ↓hv133, ↓hx133, ha134, hu134, ↓hl134, ha135, hu135, ↓hl135, ha136, hu136, ↓hl136, ha137, hu137, ↓hl137, ha138, hu138, ↓hl138, ha139, hu139, ↓hl139, ha140, hu140, ↓hl140, ha141, hu141, ↓hl141, ha142, hu142, ↓hl142, ha143, hu143, ↓hl143, ha144, hu144, ↓hl144, ha145, hu145, ↓hl145, ha146, hu146, ↓hl146, ha147, hu147, ↓hl147, e8]
    rfl
  · rw [if_neg g1]
    refine OM.no h (by decide) ?_
    unfold m_X7_removeFault
    simp (disch := omega) only [ji1, ji2, ji3, ji4, ji5, ji6, ji7, ji8, ji9, ji10, ji11, ji12, ji13, ji14, ji15, ji16, ji19, ji20, ji39, ji119, ji144, ji366, ji24, ji31, ji32, ji45, ji48, ji57, ji58, ji59, ji97, ji120, ji122, ji183, ji200, ji226, ji240, ji255, ji500, jI_z, ↓jI_m1, jI_add, jI_sub, jI_mul, ↓hg133_0, hw133_0, ↓hg133_1, ↓hg133_2, ↓hg133_3, hw133_3, ↓hg133_4, hw133_4, ↓hg133_5, hw133_5, ↓hg133_6, hw133_6, ↓hg133_7, hw133_7, ↓hg133_8, hw133_8, ↓hg133_9, hw133_9, ↓hg133_10, hw133_10, ↓hg133_11, hw133_11, ↓hg133_12, hw133_12, ↓hg133_13, ↓hg133_14, hw133_14, ↓hg133_15, ↓hg133_16, ↓hg133_17, ↓hg133_18, ↓hg133_19, ↓hg133_20, ↓hg133_21, hw133_21, ↓hg133_22, ↓hg133_23, hw133_23, ↓hg133_24, hw133_24, ↓hg133_25, hw133_25, ↓hg133_26, hw133_26, ↓hg133_27, hw133_27, ↓hg133_28, ↓hg133_29, hw133_29, ↓hg133_30, hw133_30, ↓hg133_31, hw133_31, ↓hg133_32, hw133_32, ↓hg133_33, hw133_33, ↓hg133_34, hw133_34, ↓hg133_35, hw133_35, ↓hg133_36, hw133_36, ↓hg133_37, ↓hg133_38, ↓hg133_39, ↓hv133, ↓hx133, ha134, hu134, ↓hl134, ha135, hu135, ↓hl135, ha136, hu136, ↓hl136, ha137, hu137, ↓hl137, ha138, hu138, ↓hl138, ha139, hu139, ↓hl139, ha140, hu140, ↓hl140, ha141, hu141, ↓hl141, ha142, hu142, ↓hl142, ha143, hu143, ↓hl143, ha144, hu144, ↓hl144, ha145, hu145, ↓hl145, ha146, hu146, ↓hl146, ha147, hu147, ↓hl147]
    rw [X7_nf1 hR hc hf g1]
    simp (disch := omega) only [↓mo_cs_s, ↓mo_xs_r, ↓mo_xs_l, ↓mo_nl_s, mo_z_0, mo_z_1, j10, if_false]
/-- promise 23 -/
def loV (w : Int) : Int := ((ac_T 1).getD w.toNat 0).toInt
def hiV (w : Int) : Int := ((ac_T 2).getD w.toNat 0).toInt
def cS (c : hCf) (w v : Int) : hCf := (fun j => if j = w.toNat then v else c.1 j, c.2)
def rSet (q : hQ) (w v : Int) : hR := if (0 ≤ w ∧ w ≤ 7) ∧ loV w ≤ v ∧ v ≤ hiV w then (0, q.1.1.1 w.toNat, (cS q.1.1 w v, q.1.2), keepsV q.2.1 q.1, q.2.2) else (1, 0, q)
theorem okC.set {c : hCf} (h : okC c) {w v : Int} (hw : 0 ≤ w ∧ w ≤ 7) (hv : loV w ≤ v ∧ v ≤ hiV w) : okC (cS c w v) := by
  refine ⟨h.1, h.2.1, fun k hk => ?_⟩
  by_cases e : k = w.toNat
  · subst e
    have e' : (cS c w v).1 w.toNat = v := by simp [cS]
    rw [e']; exact hv
  · have e' : (cS c w v).1 k = c.1 k := by simp [cS, e]
    rw [e']; exact h.2.2 k hk
theorem mo_tj {α : Type} {i : Nat} {w : Int} {F : Int32 → Option α} (h0 : 0 ≤ w) (h1 : w < 8) : mo_t i (jI w) F = F (jI ((ac_T i).getD w.toNat 0).toInt) := by
  unfold mo_t
  rw [jI_ix h0 (by omega), if_neg, jI_of]
  intro h
  rcases h with h | h
  · exact jI_nonneg h0 (by omega) h
  · omega
theorem lh_in {w : Int} (h : 0 ≤ w ∧ w ≤ 7) : 0 ≤ loV w ∧ loV w ≤ 10 ∧ 2 ≤ hiV w ∧ hiV w ≤ 200 := by
  have : ∀ x : Fin 8, 0 ≤ loV x.val ∧ loV x.val ≤ 10 ∧ 2 ≤ hiV x.val ∧ hiV x.val ≤ 200 := by decide
  have := this ⟨w.toNat, by omega⟩
  simp only [Int.toNat_of_nonneg h.1] at this
  exact this
theorem C_set {z : Nat} {M : hM} {q : hQ} {w v : Int} (h : CI M q) (ho : okQ q) (hw : okW w) (hv : okW v) : OC z M (m_X6_set (hp z M) z (jI w) (jI v)) eA (rSet q w v) := by
  obtain ⟨w0, w1⟩ := hw
  obtain ⟨v0, v1⟩ := hv
  have hB := h.1.1
  have hc := ho.1.1
  unfold rSet
  by_cases g : 0 ≤ w ∧ w ≤ 7
  · have n0 : ¬ w < 0 := by omega
    have n8 : w < 8 := by omega
    obtain ⟨b1, b2, b3, b4⟩ := lh_in g
    have pre : ∀ r, (if v < loV w then some (.inl "java/lang/IllegalArgumentException", hp z M) else if hiV w < v then some (.inl "java/lang/IllegalArgumentException", hp z M) else mo_cv (hp z M) z 6 (m_X6_remember (hp z M) z) fun _ σ3 => mo_gr σ3 z 6 0 fun x4 => mo_cv σ3 x4 0 (m_X0_setting σ3 x4 (jI w)) fun x6 σ5 => mo_gr σ5 z 6 0 fun x7 => mo_cv σ5 x7 0 (m_X0_changeSetting σ5 x7 (jI w) (jI v)) fun _ σ8 => some (.inr x6, σ8)) = r → m_X6_set (hp z M) z (jI w) (jI v) = r := by
      intro r hr
      rw [← hr]
      unfold m_X6_set
      rw [if_neg (show ¬ jI w < (0 : Int32) by rw [jI_z, jI_lt (by omega) (by omega) (by omega) (by omega)]; exact n0), if_pos (show jI w < (8 : Int32) by rw [ji8, jI_lt (by omega) (by omega) (by omega) (by omega)]; exact n8), mo_tj g.1 n8, mo_tj g.1 n8]
      show (if jI v < jI (loV w) then _ else if jI (hiV w) < jI v then _ else _) = _
      by_cases e1 : v < loV w
      · rw [if_pos e1, if_pos (by rw [jI_lt (by omega) (by omega) (by omega) (by omega)]; exact e1)]
      · rw [if_neg e1, if_neg (by rw [jI_lt (by omega) (by omega) (by omega) (by omega)]; exact e1)]
        by_cases e2 : hiV w < v
        · rw [if_pos e2, if_pos (by rw [jI_lt (by omega) (by omega) (by omega) (by omega)]; exact e2)]
        · rw [if_neg e2, if_neg (by rw [jI_lt (by omega) (by omega) (by omega) (by omega)]; exact e2)]
    by_cases g2 : loV w ≤ v ∧ v ≤ hiV w
    · rw [if_pos ⟨g, g2⟩]
      obtain ⟨M1, r1, r2, r3, r4⟩ := X6_keep (z := z) h ho
      obtain ⟨M2, s1, s2, s3, s4⟩ := X0_chs (z := z) (b := 1) (v := v) rfl r4.1 g.1 n8
      refine oc_c (u' := (cS q.1.1 w v, q.1.2)) h ho r2 r3 (FE.of s3 s4 (by omega) (by omega)) ⟨s2, r4.2.keep s3 (by omega)⟩ (pre _ ?_)
      rw [if_neg (by omega), if_neg (by omega)]
      simp (disch := omega) only [↓hg0_0, ↓hg0_1, ↓hg0_2, ↓hg0_3, ↓hg0_4, ↓hg0_5, hw0_5, ↓hg0_6, ↓hg0_7, ↓hv0, ↓hx0, ha132, hu132, ↓hl132]
      rw [r1]
      simp (disch := omega) only [↓mo_cs_s, ↓mo_xs_r, ↓mo_xs_l, ↓mo_nl_s, mo_z_0, mo_z_1, ↓hg0_0, ↓hg0_1, ↓hg0_2, ↓hg0_3, ↓hg0_4, ↓hg0_5, hw0_5, ↓hg0_6, ↓hg0_7, ↓hv0, ↓hx0, ha132, hu132, ↓hl132, ↓Bv (b := 1) rfl]
      rw [X0_setting (b := 1) rfl g.1 n8, r4.1.1 _ (by omega)]
      simp (disch := omega) only [↓mo_cs_s, ↓mo_xs_r, ↓mo_xs_l, ↓mo_nl_s, mo_z_0, mo_z_1, ↓hg0_0, ↓hg0_1, ↓hg0_2, ↓hg0_3, ↓hg0_4, ↓hg0_5, hw0_5, ↓hg0_6, ↓hg0_7, ↓hv0, ↓hx0, ha132, hu132, ↓hl132, ↓Bv (b := 1) rfl]
      rw [s1]
      simp (disch := omega) only [↓mo_cs_s, ↓mo_xs_r, ↓mo_xs_l, ↓mo_nl_s, mo_z_0, mo_z_1]
    · rw [if_neg (fun hh => g2 hh.2)]
      refine OC.no h (by decide) (pre _ ?_)
      by_cases e1 : v < loV w
      · rw [if_pos e1]; rfl
      · rw [if_neg e1, if_pos (by omega)]; rfl
  · rw [if_neg (fun hh => g hh.1)]
    refine OC.no h (by decide) ?_
    unfold m_X6_set
    by_cases n0 : w < 0
    · rw [if_pos (show jI w < (0 : Int32) by rw [jI_z, jI_lt (by omega) (by omega) (by omega) (by omega)]; exact n0)]; rfl
    · rw [if_neg (show ¬ jI w < (0 : Int32) by rw [jI_z, jI_lt (by omega) (by omega) (by omega) (by omega)]; exact n0), if_neg (show ¬ jI w < (8 : Int32) by rw [ji8, jI_lt (by omega) (by omega) (by omega) (by omega)]; omega)]; rfl
theorem X7_low {w : Int} (h : 0 ≤ w ∧ w ≤ 7) (σ : ac_H) : m_X7_lowOf σ (jI w) = some (jI (loV w), σ) := by
  rcases (show w = 0 ∨ w = 1 ∨ w = 2 ∨ w = 3 ∨ w = 4 ∨ w = 5 ∨ w = 6 ∨ w = 7 by omega) with e | e | e | e | e | e | e | e <;> subst e <;> rfl
theorem X7_high {w : Int} (h : 0 ≤ w ∧ w ≤ 7) (σ : ac_H) : m_X7_highOf σ (jI w) = some (jI (hiV w), σ) := by
  rcases (show w = 0 ∨ w = 1 ∨ w = 2 ∨ w = 3 ∨ w = 4 ∨ w = 5 ∨ w = 6 ∨ w = 7 by omega) with e | e | e | e | e | e | e | e <;> subst e <;> rfl
theorem RR.set {f : Nat → Int} {c : hCf} {w v : Int} (h : RR f c) (hw : 0 ≤ w ∧ w ≤ 7) : RR (fun k => if k = w.toNat then v else f k) (cS c w v) := by
  refine ⟨fun k hk => ?_, ?_, fun i x hx => ?_⟩
  · show (if k = w.toNat then v else f k) = if k = w.toNat then v else c.1 k
    rw [h.1 k hk]
  · simp only; rw [if_neg (by omega)]; exact h.2.1
  · simp only; rw [if_neg (by omega), if_neg (by omega), if_neg (by omega)]; exact h.2.2 i x hx
theorem M_set {z : Nat} {M : hM} {q : hQ} {w v : Int} (h : MI M q) (ho : okQ q) (hw : okW w) (hv : okW v) : OM z M (m_X7_set (hp z M) (z + 133) (jI w) (jI v)) (rSet q w v) := by
  unfold rSet
  by_cases g : 0 ≤ w ∧ w ≤ 7
  · have wi := X7_wi1 (v := w) (lo := 0) (hi := 7) hw (okW_n (by omega) (by omega)) (okW_n (by omega) (by omega)) g (hp z (sI M 133 0 0))
    obtain ⟨b1, b2, b3, b4⟩ := lh_in g
    by_cases g2 : loV w ≤ v ∧ v ≤ hiV w
    · rw [if_pos ⟨g, g2⟩]
      have wj := X7_wi1 (v := v) (lo := loV w) (hi := hiV w) hv (okW_n (by omega) (by omega)) (okW_n (by omega) (by omega)) g2 (hp z (sI M 133 0 0))
      obtain ⟨M1, r1, r2, r3, r4⟩ := X7_keep (z := z) (h.sI0 (v := 0)) ho
      have hn : UR (gA (sA M1 134 w.toNat v) 134) (cS q.1.1 w v, q.1.2) :=
        ⟨(r4.1.set g).keep (fun k => by rw [gA_sA]; by_cases hk : k = w.toNat <;> simp [hk]), fun s t hs ht => by
          have := r4.2 s t hs ht
          simp only at this ⊢
          rw [gA_sA, if_neg (by omega)]; exact this⟩
      refine om_c h r2 r3 FNsA hn ?_
      have ew := r4.1.1 w.toNat (by omega)
      unfold m_X7_set m_X7_set_j36
      simp (disch := omega) only [ji1, ji2, ji3, ji4, ji5, ji6, ji7, ji8, ji9, ji10, ji11, ji12, ji13, ji14, ji15, ji16, ji19, ji20, ji39, ji119, ji144, ji366, ji24, ji31, ji32, ji45, ji48, ji57, ji58, ji59, ji97, ji120, ji122, ji183, ji200, ji226, ji240, ji255, ji500, jI_z, ↓jI_m1, jI_add, jI_sub, jI_mul, ↓hg133_0, hw133_0, ↓hg133_1, ↓hg133_2, ↓hg133_3, hw133_3, ↓hg133_4, hw133_4, ↓hg133_5, hw133_5, ↓hg133_6, hw133_6, ↓hg133_7, hw133_7, ↓hg133_8, hw133_8, ↓hg133_9, hw133_9, ↓hg133_10, hw133_10, ↓hg133_11, hw133_11, ↓hg133_12, hw133_12, ↓hg133_13, ↓hg133_14, hw133_14, ↓hg133_15, ↓hg133_16, ↓hg133_17, ↓hg133_18, ↓hg133_19, ↓hg133_20, ↓hg133_21, hw133_21, ↓hg133_22, ↓hg133_23, hw133_23, ↓hg133_24, hw133_24, ↓hg133_25, hw133_25, ↓hg133_26, hw133_26, ↓hg133_27, hw133_27, ↓hg133_28, ↓hg133_29, hw133_29, ↓hg133_30, hw133_30, ↓hg133_31, hw133_31, ↓hg133_32, hw133_32, ↓hg133_33, hw133_33, ↓hg133_34, hw133_34, ↓hg133_35, hw133_35, ↓hg133_36, hw133_36, ↓hg133_37, ↓hg133_38, ↓hg133_39, ↓hv133, ↓hx133, ha134, hu134, ↓hl134, ha135, hu135, ↓hl135, ha136, hu136, ↓hl136, ha137, hu137, ↓hl137, ha138, hu138, ↓hl138, ha139, hu139, ↓hl139, ha140, hu140, ↓hl140, ha141, hu141, ↓hl141, ha142, hu142, ↓hl142, ha143, hu143, ↓hl143, ha144, hu144, ↓hl144, ha145, hu145, ↓hl145, ha146, hu146, ↓hl146, ha147, hu147, ↓hl147]
      rw [wi]
      simp (disch := omega) only [↓mo_cs_s, ↓mo_xs_r, ↓mo_xs_l, ↓mo_nl_s, mo_z_0, mo_z_1, j10, if_false]
      rw [X7_low g]
      simp (disch := omega) only [↓mo_cs_s, ↓mo_xs_r, ↓mo_xs_l, ↓mo_nl_s, mo_z_0, mo_z_1]
      rw [X7_high g]
      simp (disch := omega) only [↓mo_cs_s, ↓mo_xs_r, ↓mo_xs_l, ↓mo_nl_s, mo_z_0, mo_z_1]
      rw [wj]
      simp (disch := omega) only [↓mo_cs_s, ↓mo_xs_r, ↓mo_xs_l, ↓mo_nl_s, mo_z_0, mo_z_1, j10, if_false, ↓hg133_0, hw133_0, ↓hg133_1, ↓hg133_2, ↓hg133_3, hw133_3, ↓hg133_4, hw133_4, ↓hg133_5, hw133_5, ↓hg133_6, hw133_6, ↓hg133_7, hw133_7, ↓hg133_8, hw133_8, ↓hg133_9, hw133_9, ↓hg133_10, hw133_10, ↓hg133_11, hw133_11, ↓hg133_12, hw133_12, ↓hg133_13, ↓hg133_14, hw133_14, ↓hg133_15, ↓hg133_16, ↓hg133_17, ↓hg133_18, ↓hg133_19, ↓hg133_20, ↓hg133_21, hw133_21, ↓hg133_22, ↓hg133_23, hw133_23, ↓hg133_24, hw133_24, ↓hg133_25, hw133_25, ↓hg133_26, hw133_26, ↓hg133_27, hw133_27, ↓hg133_28, ↓hg133_29, hw133_29, ↓hg133_30, hw133_30, ↓hg133_31, hw133_31, ↓hg133_32, hw133_32, ↓hg133_33, hw133_33, ↓hg133_34, hw133_34, ↓hg133_35, hw133_35, ↓hg133_36, hw133_36, ↓hg133_37, ↓hg133_38, ↓hg133_39, ↓hv133, ↓hx133, ha134, hu134, ↓hl134, ha135, hu135, ↓hl135, ha136, hu136, ↓hl136, ha137, hu137, ↓hl137, ha138, hu138, ↓hl138, ha139, hu139, ↓hl139, ha140, hu140, ↓hl140, ha141, hu141, ↓hl141, ha142, hu142, ↓hl142, ha143, hu143, ↓hl143, ha144, hu144, ↓hl144, ha145, hu145, ↓hl145, ha146, hu146, ↓hl146, ha147, hu147, ↓hl147]
      rw [X7_th0 sI00]
      simp (disch := omega) only [↓mo_cs_s, ↓mo_xs_r, ↓mo_xs_l, ↓mo_nl_s, mo_z_0, mo_z_1, if_true, ↓hg133_0, hw133_0, ↓hg133_1, ↓hg133_2, ↓hg133_3, hw133_3, ↓hg133_4, hw133_4, ↓hg133_5, hw133_5, ↓hg133_6, hw133_6, ↓hg133_7, hw133_7, ↓hg133_8, hw133_8, ↓hg133_9, hw133_9, ↓hg133_10, hw133_10, ↓hg133_11, hw133_11, ↓hg133_12, hw133_12, ↓hg133_13, ↓hg133_14, hw133_14, ↓hg133_15, ↓hg133_16, ↓hg133_17, ↓hg133_18, ↓hg133_19, ↓hg133_20, ↓hg133_21, hw133_21, ↓hg133_22, ↓hg133_23, hw133_23, ↓hg133_24, hw133_24, ↓hg133_25, hw133_25, ↓hg133_26, hw133_26, ↓hg133_27, hw133_27, ↓hg133_28, ↓hg133_29, hw133_29, ↓hg133_30, hw133_30, ↓hg133_31, hw133_31, ↓hg133_32, hw133_32, ↓hg133_33, hw133_33, ↓hg133_34, hw133_34, ↓hg133_35, hw133_35, ↓hg133_36, hw133_36, ↓hg133_37, ↓hg133_38, ↓hg133_39, ↓hv133, ↓hx133, ha134, hu134, ↓hl134, ha135, hu135, ↓hl135, ha136, hu136, ↓hl136, ha137, hu137, ↓hl137, ha138, hu138, ↓hl138, ha139, hu139, ↓hl139, ha140, hu140, ↓hl140, ha141, hu141, ↓hl141, ha142, hu142, ↓hl142, ha143, hu143, ↓hl143, ha144, hu144, ↓hl144, ha145, hu145, ↓hl145, ha146, hu146, ↓hl146, ha147, hu147, ↓hl147]
      rw [r1]
      simp (disch := omega) only [↓mo_cs_s, ↓mo_xs_r, ↓mo_xs_l, ↓mo_nl_s, mo_z_0, mo_z_1, ↓hg133_0, hw133_0, ↓hg133_1, ↓hg133_2, ↓hg133_3, hw133_3, ↓hg133_4, hw133_4, ↓hg133_5, hw133_5, ↓hg133_6, hw133_6, ↓hg133_7, hw133_7, ↓hg133_8, hw133_8, ↓hg133_9, hw133_9, ↓hg133_10, hw133_10, ↓hg133_11, hw133_11, ↓hg133_12, hw133_12, ↓hg133_13, ↓hg133_14, hw133_14, ↓hg133_15, ↓hg133_16, ↓hg133_17, ↓hg133_18, ↓hg133_19, ↓hg133_20, ↓hg133_21, hw133_21, ↓hg133_22, ↓hg133_23, hw133_23, ↓hg133_24, hw133_24, ↓hg133_25, hw133_25, ↓hg133_26, hw133_26, ↓hg133_27, hw133_27, ↓hg133_28, ↓hg133_29, hw133_29, ↓hg133_30, hw133_30, ↓hg133_31, hw133_31, ↓hg133_32, hw133_32, ↓hg133_33, hw133_33, ↓hg133_34, hw133_34, ↓hg133_35, hw133_35, ↓hg133_36, hw133_36, ↓hg133_37, ↓hg133_38, ↓hg133_39, ↓hv133, ↓hx133, ha134, hu134, ↓hl134, ha135, hu135, ↓hl135, ha136, hu136, ↓hl136, ha137, hu137, ↓hl137, ha138, hu138, ↓hl138, ha139, hu139, ↓hl139, ha140, hu140, ↓hl140, ha141, hu141, ↓hl141, ha142, hu142, ↓hl142, ha143, hu143, ↓hl143, ha144, hu144, ↓hl144, ha145, hu145, ↓hl145, ha146, hu146, ↓hl146, ha147, hu147, ↓hl147, ew]
    · rw [if_neg (fun hh => g2 hh.2)]
      have wj := X7_wi0 (v := v) (lo := loV w) (hi := hiV w) hv (okW_n (by omega) (by omega)) (okW_n (by omega) (by omega)) g2 (hp z (sI M 133 0 0))
      refine OM.no h (by decide) ?_
      unfold m_X7_set m_X7_set_j36
      simp (disch := omega) only [ji1, ji2, ji3, ji4, ji5, ji6, ji7, ji8, ji9, ji10, ji11, ji12, ji13, ji14, ji15, ji16, ji19, ji20, ji39, ji119, ji144, ji366, ji24, ji31, ji32, ji45, ji48, ji57, ji58, ji59, ji97, ji120, ji122, ji183, ji200, ji226, ji240, ji255, ji500, jI_z, ↓jI_m1, jI_add, jI_sub, jI_mul, ↓hg133_0, hw133_0, ↓hg133_1, ↓hg133_2, ↓hg133_3, hw133_3, ↓hg133_4, hw133_4, ↓hg133_5, hw133_5, ↓hg133_6, hw133_6, ↓hg133_7, hw133_7, ↓hg133_8, hw133_8, ↓hg133_9, hw133_9, ↓hg133_10, hw133_10, ↓hg133_11, hw133_11, ↓hg133_12, hw133_12, ↓hg133_13, ↓hg133_14, hw133_14, ↓hg133_15, ↓hg133_16, ↓hg133_17, ↓hg133_18, ↓hg133_19, ↓hg133_20, ↓hg133_21, hw133_21, ↓hg133_22, ↓hg133_23, hw133_23, ↓hg133_24, hw133_24, ↓hg133_25, hw133_25, ↓hg133_26, hw133_26, ↓hg133_27, hw133_27, ↓hg133_28, ↓hg133_29, hw133_29, ↓hg133_30, hw133_30, ↓hg133_31, hw133_31, ↓hg133_32, hw133_32, ↓hg133_33, hw133_33, ↓hg133_34, hw133_34, ↓hg133_35, hw133_35, ↓hg133_36, hw133_36, ↓hg133_37, ↓hg133_38, ↓hg133_39, ↓hv133, ↓hx133, ha134, hu134, ↓hl134, ha135, hu135, ↓hl135, ha136, hu136, ↓hl136, ha137, hu137, ↓hl137, ha138, hu138, ↓hl138, ha139, hu139, ↓hl139, ha140, hu140, ↓hl140, ha141, hu141, ↓hl141, ha142, hu142, ↓hl142, ha143, hu143, ↓hl143, ha144, hu144, ↓hl144, ha145, hu145, ↓hl145, ha146, hu146, ↓hl146, ha147, hu147, ↓hl147]
      rw [wi]
      simp (disch := omega) only [↓mo_cs_s, ↓mo_xs_r, ↓mo_xs_l, ↓mo_nl_s, mo_z_0, mo_z_1, j10, if_false]
      rw [X7_low g]
      simp (disch := omega) only [↓mo_cs_s, ↓mo_xs_r, ↓mo_xs_l, ↓mo_nl_s, mo_z_0, mo_z_1]
      rw [X7_high g]
      simp (disch := omega) only [↓mo_cs_s, ↓mo_xs_r, ↓mo_xs_l, ↓mo_nl_s, mo_z_0, mo_z_1]
      rw [wj]
      simp (disch := omega) only [↓mo_cs_s, ↓mo_xs_r, ↓mo_xs_l, ↓mo_nl_s, mo_z_0, mo_z_1, if_true, ↓hg133_0, hw133_0, ↓hg133_1, ↓hg133_2, ↓hg133_3, hw133_3, ↓hg133_4, hw133_4, ↓hg133_5, hw133_5, ↓hg133_6, hw133_6, ↓hg133_7, hw133_7, ↓hg133_8, hw133_8, ↓hg133_9, hw133_9, ↓hg133_10, hw133_10, ↓hg133_11, hw133_11, ↓hg133_12, hw133_12, ↓hg133_13, ↓hg133_14, hw133_14, ↓hg133_15, ↓hg133_16, ↓hg133_17, ↓hg133_18, ↓hg133_19, ↓hg133_20, ↓hg133_21, hw133_21, ↓hg133_22, ↓hg133_23, hw133_23, ↓hg133_24, hw133_24, ↓hg133_25, hw133_25, ↓hg133_26, hw133_26, ↓hg133_27, hw133_27, ↓hg133_28, ↓hg133_29, hw133_29, ↓hg133_30, hw133_30, ↓hg133_31, hw133_31, ↓hg133_32, hw133_32, ↓hg133_33, hw133_33, ↓hg133_34, hw133_34, ↓hg133_35, hw133_35, ↓hg133_36, hw133_36, ↓hg133_37, ↓hg133_38, ↓hg133_39, ↓hv133, ↓hx133, ha134, hu134, ↓hl134, ha135, hu135, ↓hl135, ha136, hu136, ↓hl136, ha137, hu137, ↓hl137, ha138, hu138, ↓hl138, ha139, hu139, ↓hl139, ha140, hu140, ↓hl140, ha141, hu141, ↓hl141, ha142, hu142, ↓hl142, ha143, hu143, ↓hl143, ha144, hu144, ↓hl144, ha145, hu145, ↓hl145, ha146, hu146, ↓hl146, ha147, hu147, ↓hl147]
      rw [X7_th1 sI00 (by omega)]
      simp (disch := omega) only [↓mo_cs_s, ↓mo_xs_r, ↓mo_xs_l, ↓mo_nl_s, mo_z_0, mo_z_1, j10, if_false]
  · rw [if_neg (fun hh => g hh.1)]
    have wi := X7_wi0 (v := w) (lo := 0) (hi := 7) hw (okW_n (by omega) (by omega)) (okW_n (by omega) (by omega)) g (hp z (sI M 133 0 0))
    refine OM.no h (by decide) ?_
    unfold m_X7_set m_X7_set_j36
    simp (disch := omega) only [ji1, ji2, ji3, ji4, ji5, ji6, ji7, ji8, ji9, ji10, ji11, ji12, ji13, ji14, ji15, ji16, ji19, ji20, ji39, ji119, ji144, ji366, ji24, ji31, ji32, ji45, ji48, ji57, ji58, ji59, ji97, ji120, ji122, ji183, ji200, ji226, ji240, ji255, ji500, jI_z, ↓jI_m1, jI_add, jI_sub, jI_mul, ↓hg133_0, hw133_0, ↓hg133_1, ↓hg133_2, ↓hg133_3, hw133_3, ↓hg133_4, hw133_4, ↓hg133_5, hw133_5, ↓hg133_6, hw133_6, ↓hg133_7, hw133_7, ↓hg133_8, hw133_8, ↓hg133_9, hw133_9, ↓hg133_10, hw133_10, ↓hg133_11, hw133_11, ↓hg133_12, hw133_12, ↓hg133_13, ↓hg133_14, hw133_14, ↓hg133_15, ↓hg133_16, ↓hg133_17, ↓hg133_18, ↓hg133_19, ↓hg133_20, ↓hg133_21, hw133_21, ↓hg133_22, ↓hg133_23, hw133_23, ↓hg133_24, hw133_24, ↓hg133_25, hw133_25, ↓hg133_26, hw133_26, ↓hg133_27, hw133_27, ↓hg133_28, ↓hg133_29, hw133_29, ↓hg133_30, hw133_30, ↓hg133_31, hw133_31, ↓hg133_32, hw133_32, ↓hg133_33, hw133_33, ↓hg133_34, hw133_34, ↓hg133_35, hw133_35, ↓hg133_36, hw133_36, ↓hg133_37, ↓hg133_38, ↓hg133_39, ↓hv133, ↓hx133, ha134, hu134, ↓hl134, ha135, hu135, ↓hl135, ha136, hu136, ↓hl136, ha137, hu137, ↓hl137, ha138, hu138, ↓hl138, ha139, hu139, ↓hl139, ha140, hu140, ↓hl140, ha141, hu141, ↓hl141, ha142, hu142, ↓hl142, ha143, hu143, ↓hl143, ha144, hu144, ↓hl144, ha145, hu145, ↓hl145, ha146, hu146, ↓hl146, ha147, hu147, ↓hl147]
    rw [wi]
    simp (disch := omega) only [↓mo_cs_s, ↓mo_xs_r, ↓mo_xs_l, ↓mo_nl_s, mo_z_0, mo_z_1, if_true, ↓hg133_0, hw133_0, ↓hg133_1, ↓hg133_2, ↓hg133_3, hw133_3, ↓hg133_4, hw133_4, ↓hg133_5, hw133_5, ↓hg133_6, hw133_6, ↓hg133_7, hw133_7, ↓hg133_8, hw133_8, ↓hg133_9, hw133_9, ↓hg133_10, hw133_10, ↓hg133_11, hw133_11, ↓hg133_12, hw133_12, ↓hg133_13, ↓hg133_14, hw133_14, ↓hg133_15, ↓hg133_16, ↓hg133_17, ↓hg133_18, ↓hg133_19, ↓hg133_20, ↓hg133_21, hw133_21, ↓hg133_22, ↓hg133_23, hw133_23, ↓hg133_24, hw133_24, ↓hg133_25, hw133_25, ↓hg133_26, hw133_26, ↓hg133_27, hw133_27, ↓hg133_28, ↓hg133_29, hw133_29, ↓hg133_30, hw133_30, ↓hg133_31, hw133_31, ↓hg133_32, hw133_32, ↓hg133_33, hw133_33, ↓hg133_34, hw133_34, ↓hg133_35, hw133_35, ↓hg133_36, hw133_36, ↓hg133_37, ↓hg133_38, ↓hg133_39, ↓hv133, ↓hx133, ha134, hu134, ↓hl134, ha135, hu135, ↓hl135, ha136, hu136, ↓hl136, ha137, hu137, ↓hl137, ha138, hu138, ↓hl138, ha139, hu139, ↓hl139, ha140, hu140, ↓hl140, ha141, hu141, ↓hl141, ha142, hu142, ↓hl142, ha143, hu143, ↓hl143, ha144, hu144, ↓hl144, ha145, hu145, ↓hl145, ha146, hu146, ↓hl146, ha147, hu147, ↓hl147]
    rw [X7_th1 sI00 (by omega)]
    simp (disch := omega) only [↓mo_cs_s, ↓mo_xs_r, ↓mo_xs_l, ↓mo_nl_s, mo_z_0, mo_z_1, j10, if_false]

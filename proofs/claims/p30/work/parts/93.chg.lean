variable {S : hSh}
/-! CHANGES: addFault, removeFault, clearFaults, set. -/
def FE (M M' : hM) : Prop := (∀ a, a = 0 ∨ 30 ≤ a → (∀ k, gI M' a k = gI M a k) ∧ ∀ k, gA M' a k = gA M a k) ∧ Vx 0 M M'
theorem FE.rfl' {M : hM} : FE M M := ⟨fun _ _ => ⟨fun _ => rfl, fun _ => rfl⟩, fun _ _ => rfl⟩
theorem FE.trans {M M' M'' : hM} (h : FE M M') (h' : FE M' M'') : FE M M'' := ⟨fun a ha => ⟨fun k => ((h'.1 a ha).1 k).trans ((h.1 a ha).1 k), fun k => ((h'.1 a ha).2 k).trans ((h.1 a ha).2 k)⟩, fun k hk => (h'.2 k hk).trans (h.2 k hk)⟩
theorem FD.e {M M' : hM} (h : FD M M') : FE M M' := ⟨fun a ha => h.1 a (by omega), h.2⟩
theorem FE.of {M M' : hM} {lo hi : Nat} (h : Fr lo hi M M') (hv : Vr M M') (h1 : 1 ≤ lo) (h2 : hi ≤ 30) : FE M M' := ⟨fun a ha => h a (by omega), fun k _ => hv k⟩
theorem CI_chg {M M1 M2 : hM} {q : hQ} {u' : hU} {h1 : List hU} (h : CI M q) (hH : HC M1 h1) (hl : h1.length ≤ 10) (F : FH M M1) (F2 : FE M1 M2) (hu : UB M2 1 u') : CI M2 (u', h1, q.2.2) ∧ KM M M2 := by
  refine ⟨⟨hu, hH.cg hl ((F2.1 0 (by omega)).1 5) (fun a _ _ => F2.1 a (by omega)) (fun k h1 _ => F2.2 k (by omega)), ?_, ?_⟩, fun a ha => ?_⟩
  · exact h.2.2.1.cg (fun a g1 g2 => ⟨fun k => by rw [(F2.1 a (by omega)).1, (F.1 a (by omega)).1 k (by omega)], fun k => by rw [(F2.1 a (by omega)).2, (F.1 a (by omega)).2 k]⟩)
  · exact h.2.2.2.cg (fun a g1 => ⟨fun k => by rw [(F2.1 a (by omega)).1, (F.1 a (by omega)).1 k (by omega)], fun k => by rw [(F2.1 a (by omega)).2, (F.1 a (by omega)).2 k]⟩)
  · exact ⟨fun k => by rw [(F2.1 a (by omega)).1, (F.1 a (by omega)).1 k (by omega)], fun k => by rw [(F2.1 a (by omega)).2, (F.1 a (by omega)).2 k]⟩
theorem keepsV_len {h : List hU} {u : hU} (hl : h.length ≤ 10) : (keepsV h u).length ≤ 10 := by
  unfold keepsV
  split
  · rw [List.length_append, List.length_tail]; simp; omega
  · rw [List.length_append]; simp; omega
theorem keepsV_mem {h : List hU} {u v : hU} (hv : v ∈ keepsV h u) : v = u ∨ v ∈ h := by
  unfold keepsV at hv
  rcases List.mem_append.mp hv with h1 | h1
  · right
    split at h1
    · exact List.mem_of_mem_tail h1
    · exact h1
  · left; simpa using h1
theorem okQ_chg {q : hQ} {u' : hU} (ho : okQ q) (hu : okU u') : okQ (u', keepsV q.2.1 q.1, q.2.2) :=
  ⟨hu, fun v hv => by
    rcases keepsV_mem hv with h | h
    · rw [h]; exact ho.1
    · exact ho.2.1 v h, keepsV_len ho.2.2.1, ho.2.2.2⟩
theorem X6_keep {z : Nat} {M : hM} {q : hQ} (h : CI M q) (ho : okQ q) : ∃ M1, m_X6_remember (hp S z M) z = some ((), hp S z M1) ∧ HC M1 (keepsV q.2.1 q.1) ∧ FH M M1 ∧ UB M1 1 q.1 := by
  obtain ⟨M1, r1, r2, r3⟩ := X6_rem (S := S) (z := z) h.2.1 ho.2.2.1 h.1 ho.1
  exact ⟨M1, r1, r2, r3, h.1.cg (fun a g1 g2 => ⟨fun k => (r3.1 a (by omega)).1 k (by omega), (r3.1 a (by omega)).2⟩)⟩
/-- .. put together -/
theorem oc_c {z : Nat} {M M1 M2 : hM} {q : hQ} {u' : hU} {o : Option ((String ⊕ Int32) × ac_H)} {e : Int → String} {v : Int} (h : CI M q) (ho : okQ q) (hH : HC M1 (keepsV q.2.1 q.1)) (F : FH M M1) (F2 : FE M1 M2) (hu : UB M2 1 u') (r : o = some (.inr (jI v), hp S z M2)) : OC S z M o e (0, v, (u', keepsV q.2.1 q.1, q.2.2)) := ⟨M2, by rw [r]; rfl, (CI_chg h hH (keepsV_len ho.2.2.1) F F2 hu).1, (CI_chg h hH (keepsV_len ho.2.2.1) F F2 hu).2⟩
theorem od_c {z : Nat} {M M1 M2 : hM} {q : hQ} {u' : hU} {o : Option (Int32 × ac_H)} {v : Int} (h : CI M q) (ho : okQ q) (hH : HC M1 (keepsV q.2.1 q.1)) (F : FH M M1) (F2 : FE M1 M2) (hu : UB M2 1 u') (r : o = some (jI v, hp S z M2)) : OD S z M o (0, v, (u', keepsV q.2.1 q.1, q.2.2)) := ⟨M2, r, (CI_chg h hH (keepsV_len ho.2.2.1) F F2 hu).1, (CI_chg h hH (keepsV_len ho.2.2.1) F F2 hu).2⟩
/-- promise 22 -/
def rClear (q : hQ) : hR := (0, q.1.1.2.length, ((q.1.1.1, []), q.1.2), keepsV q.2.1 q.1, q.2.2)
theorem C_clear {z : Nat} {M : hM} {q : hQ} (h : CI M q) (ho : okQ q) : OD S z M (m_X6_clearFaults (hp S z M) z) (rClear q) := by
  obtain ⟨M1, r1, r2, r3, r4⟩ := X6_keep (S := S) (z := z) h ho
  obtain ⟨M2, s1, s2, s3, s4⟩ := X0_delA (S := S) (z := z) (b := 1) rfl r4.1
  refine od_c (u' := ((q.1.1.1, []), q.1.2)) h ho r2 r3 (FE.of s3 s4 (by omega) (by omega)) ⟨s2, r4.2.keep s3 (by omega)⟩ ?_
  have e := r4.1.2.1
  unfold m_X6_clearFaults
  simp (disch := omega) only [↓hg0_0, ↓hg0_1, ↓hg0_2, ↓hg0_3, ↓hg0_4, ↓hg0_5, hw0_5, ↓hg0_6, ↓hg0_7, ↓hv0, ↓hx0, ha132, hu132, ↓hl132]
  rw [r1]
  simp (disch := omega) only [↓mo_ns_r, ↓hn0, ↓mo_cs_s, ↓mo_xs_r, ↓mo_xs_l, ↓mo_nl_s, mo_z_0, mo_z_1, ↓hg0_0, ↓hg0_1, ↓hg0_2, ↓hg0_3, ↓hg0_4, ↓hg0_5, hw0_5, ↓hg0_6, ↓hg0_7, ↓hv0, ↓hx0, ha132, hu132, ↓hl132, ↓Bv (b := 1) rfl]
  rw [X0_count (b := 1) rfl]
  simp (disch := omega) only [↓mo_ns_r, ↓hn0, ↓mo_cs_s, ↓mo_xs_r, ↓mo_xs_l, ↓mo_nl_s, mo_z_0, mo_z_1, e, ↓hg0_0, ↓hg0_1, ↓hg0_2, ↓hg0_3, ↓hg0_4, ↓hg0_5, hw0_5, ↓hg0_6, ↓hg0_7, ↓hv0, ↓hx0, ha132, hu132, ↓hl132, ↓Bv (b := 1) rfl]
  rw [s1]
  simp (disch := omega) only [↓mo_ns_r, ↓hn0, ↓mo_cs_s, ↓mo_xs_r, ↓mo_xs_l, ↓mo_nl_s, mo_z_0, mo_z_1]
/-- promise 21 -/
def rRem (q : hQ) (f : Int) : hR := if 0 ≤ f ∧ f < q.1.1.2.length then (0, (q.1.1.2.eraseIdx f.toNat).length, ((q.1.1.1, q.1.1.2.eraseIdx f.toNat), q.1.2), keepsV q.2.1 q.1, q.2.2) else (1, 0, q)
theorem C_rem {z : Nat} {M : hM} {q : hQ} {f : Int} (h : CI M q) (ho : okQ q) (hf : okW f) : OC S z M (m_X6_removeFault (hp S z M) z (jI f)) eO (rRem q f) := by
  have hB := h.1.1
  have hc := ho.1.1
  unfold rRem
  by_cases g1 : 0 ≤ f ∧ f < q.1.1.2.length
  · rw [if_pos g1]
    obtain ⟨f, rfl⟩ : ∃ i : Nat, f = i := ⟨f.toNat, by omega⟩
    obtain ⟨M1, r1, r2, r3, r4⟩ := X6_keep (S := S) (z := z) h ho
    obtain ⟨M2, s1, s2, s3, s4⟩ := X0_del (S := S) (z := z) (b := 1) rfl r4.1 hc (f := f) (by omega)
    refine oc_c (u' := ((q.1.1.1, q.1.1.2.eraseIdx f), q.1.2)) h ho r2 r3 (FE.of s3 s4 (by omega) (by omega)) ⟨s2, r4.2.keep s3 (by omega)⟩ ?_
    have e := s2.2.1
    unfold m_X6_removeFault
    simp (disch := omega) only [↓hg0_0, ↓hg0_1, ↓hg0_2, ↓hg0_3, ↓hg0_4, ↓hg0_5, hw0_5, ↓hg0_6, ↓hg0_7, ↓hv0, ↓hx0, ha132, hu132, ↓hl132]
    rw [X6_cf1 hB hc (by omega)]
    simp (disch := omega) only [↓mo_ns_r, ↓hn0, ↓mo_cs_s, ↓mo_xs_r, ↓mo_xs_l, ↓mo_nl_s, mo_z_0, mo_z_1, ↓hg0_0, ↓hg0_1, ↓hg0_2, ↓hg0_3, ↓hg0_4, ↓hg0_5, hw0_5, ↓hg0_6, ↓hg0_7, ↓hv0, ↓hx0, ha132, hu132, ↓hl132]
    rw [r1]
    simp (disch := omega) only [↓mo_ns_r, ↓hn0, ↓mo_cs_s, ↓mo_xs_r, ↓mo_xs_l, ↓mo_nl_s, mo_z_0, mo_z_1, ↓hg0_0, ↓hg0_1, ↓hg0_2, ↓hg0_3, ↓hg0_4, ↓hg0_5, hw0_5, ↓hg0_6, ↓hg0_7, ↓hv0, ↓hx0, ha132, hu132, ↓hl132, ↓Bv (b := 1) rfl]
    rw [s1]
    simp (disch := omega) only [↓mo_ns_r, ↓hn0, ↓mo_cs_s, ↓mo_xs_r, ↓mo_xs_l, ↓mo_nl_s, mo_z_0, mo_z_1, ↓hg0_0, ↓hg0_1, ↓hg0_2, ↓hg0_3, ↓hg0_4, ↓hg0_5, hw0_5, ↓hg0_6, ↓hg0_7, ↓hv0, ↓hx0, ha132, hu132, ↓hl132, ↓Bv (b := 1) rfl]
    rw [X0_count (b := 1) rfl]
    simp (disch := omega) only [↓mo_ns_r, ↓hn0, ↓mo_cs_s, ↓mo_xs_r, ↓mo_xs_l, ↓mo_nl_s, mo_z_0, mo_z_1, e]
    rfl
  · rw [if_neg g1]
    refine OC.no h (by decide) ?_
    unfold m_X6_removeFault
    simp (disch := omega) only [↓hg0_0, ↓hg0_1, ↓hg0_2, ↓hg0_3, ↓hg0_4, ↓hg0_5, hw0_5, ↓hg0_6, ↓hg0_7, ↓hv0, ↓hx0, ha132, hu132, ↓hl132]
    rw [X6_cf0 hB hc hf g1]
    simp (disch := omega) only [↓mo_ns_r, ↓hn0, ↓mo_cs_s, ↓mo_xs_r, ↓mo_xs_l, ↓mo_nl_s, mo_z_0, mo_z_1]
    rfl
/-- promise 23 -/
def loV (w : Int) : Int := ((ac_T 1).getD w.toNat 0).toInt
def hiV (w : Int) : Int := ((ac_T 2).getD w.toNat 0).toInt
def cS (c : hCf) (w v : Int) : hCf := (fun j => if j = w.toNat then v else c.1 j, c.2)
def rSet (q : hQ) (w v : Int) : hR := if (0 ≤ w ∧ w ≤ 7) ∧ loV w ≤ v ∧ v ≤ hiV w then (0, q.1.1.1 w.toNat, (cS q.1.1 w v, q.1.2), keepsV q.2.1 q.1, q.2.2) else (1, 0, q)
theorem okC.set {c : hCf} (h : okC c) {w v : Int} (hw : 0 ≤ w ∧ w ≤ 7) (hv : loV w ≤ v ∧ v ≤ hiV w) : okC (cS c w v) := by
  refine ⟨h.1, h.2.1, fun k hk => ?_⟩
  by_cases e : k = w.toNat
  · subst e
    have e' : (cS c w v).1 w.toNat = v := by simp [cS]
    rw [e']; exact hv
  · have e' : (cS c w v).1 k = c.1 k := by simp [cS, e]
    rw [e']; exact h.2.2 k hk
theorem mo_tj {α : Type} {i : Nat} {w : Int} {F : Int32 → Option α} (h0 : 0 ≤ w) (h1 : w < 8) : mo_t i (jI w) F = F (jI ((ac_T i).getD w.toNat 0).toInt) := by
  unfold mo_t
  rw [jI_ix h0 (by omega), if_neg, jI_of]
  intro h
  rcases h with h | h
  · exact jI_nonneg h0 (by omega) h
  · omega
theorem lh_in {w : Int} (h : 0 ≤ w ∧ w ≤ 7) : 0 ≤ loV w ∧ loV w ≤ 10 ∧ 2 ≤ hiV w ∧ hiV w ≤ 200 := by
  have : ∀ x : Fin 8, 0 ≤ loV x.val ∧ loV x.val ≤ 10 ∧ 2 ≤ hiV x.val ∧ hiV x.val ≤ 200 := by decide
  have := this ⟨w.toNat, by omega⟩
  simp only [Int.toNat_of_nonneg h.1] at this
  exact this
theorem C_set {z : Nat} {M : hM} {q : hQ} {w v : Int} (h : CI M q) (ho : okQ q) (hw : okW w) (hv : okW v) : OC S z M (m_X6_set (hp S z M) z (jI w) (jI v)) eA (rSet q w v) := by
  obtain ⟨w0, w1⟩ := hw
  obtain ⟨v0, v1⟩ := hv
  have hB := h.1.1
  have hc := ho.1.1
  unfold rSet
  by_cases g : 0 ≤ w ∧ w ≤ 7
  · have n0 : ¬ w < 0 := by omega
    have n8 : w < 8 := by omega
    obtain ⟨b1, b2, b3, b4⟩ := lh_in g
    have pre : ∀ r, (if v < loV w then some (.inl "java/lang/IllegalArgumentException", hp S z M) else if hiV w < v then some (.inl "java/lang/IllegalArgumentException", hp S z M) else mo_cv (hp S z M) z 6 (m_X6_remember (hp S z M) z) fun _ σ3 => mo_gr σ3 z 6 0 fun x4 => mo_cv σ3 x4 0 (m_X0_setting σ3 x4 (jI w)) fun x6 σ5 => mo_gr σ5 z 6 0 fun x7 => mo_cv σ5 x7 0 (m_X0_changeSetting σ5 x7 (jI w) (jI v)) fun _ σ8 => some (.inr x6, σ8)) = r → m_X6_set (hp S z M) z (jI w) (jI v) = r := by
      intro r hr
      rw [← hr]
      unfold m_X6_set
      rw [if_neg (show ¬ jI w < (0 : Int32) by rw [jI_z, jI_lt (by omega) (by omega) (by omega) (by omega)]; exact n0), if_pos (show jI w < (8 : Int32) by rw [ji8, jI_lt (by omega) (by omega) (by omega) (by omega)]; exact n8), mo_tj g.1 n8, mo_tj g.1 n8]
      show (if jI v < jI (loV w) then _ else if jI (hiV w) < jI v then _ else _) = _
      by_cases e1 : v < loV w
      · rw [if_pos e1, if_pos (by rw [jI_lt (by omega) (by omega) (by omega) (by omega)]; exact e1)]
      · rw [if_neg e1, if_neg (by rw [jI_lt (by omega) (by omega) (by omega) (by omega)]; exact e1)]
        by_cases e2 : hiV w < v
        · rw [if_pos e2, if_pos (by rw [jI_lt (by omega) (by omega) (by omega) (by omega)]; exact e2)]
        · rw [if_neg e2, if_neg (by rw [jI_lt (by omega) (by omega) (by omega) (by omega)]; exact e2)]
    by_cases g2 : loV w ≤ v ∧ v ≤ hiV w
    · rw [if_pos ⟨g, g2⟩]
      obtain ⟨M1, r1, r2, r3, r4⟩ := X6_keep (S := S) (z := z) h ho
      obtain ⟨M2, s1, s2, s3, s4⟩ := X0_chs (S := S) (z := z) (b := 1) (v := v) rfl r4.1 g.1 n8
      refine oc_c (u' := (cS q.1.1 w v, q.1.2)) h ho r2 r3 (FE.of s3 s4 (by omega) (by omega)) ⟨s2, r4.2.keep s3 (by omega)⟩ (pre _ ?_)
      rw [if_neg (by omega), if_neg (by omega)]
      simp (disch := omega) only [↓hg0_0, ↓hg0_1, ↓hg0_2, ↓hg0_3, ↓hg0_4, ↓hg0_5, hw0_5, ↓hg0_6, ↓hg0_7, ↓hv0, ↓hx0, ha132, hu132, ↓hl132]
      rw [r1]
      simp (disch := omega) only [↓mo_ns_r, ↓hn0, ↓mo_cs_s, ↓mo_xs_r, ↓mo_xs_l, ↓mo_nl_s, mo_z_0, mo_z_1, ↓hg0_0, ↓hg0_1, ↓hg0_2, ↓hg0_3, ↓hg0_4, ↓hg0_5, hw0_5, ↓hg0_6, ↓hg0_7, ↓hv0, ↓hx0, ha132, hu132, ↓hl132, ↓Bv (b := 1) rfl]
      rw [X0_setting (b := 1) rfl g.1 n8, r4.1.1 _ (by omega)]
      simp (disch := omega) only [↓mo_ns_r, ↓hn0, ↓mo_cs_s, ↓mo_xs_r, ↓mo_xs_l, ↓mo_nl_s, mo_z_0, mo_z_1, ↓hg0_0, ↓hg0_1, ↓hg0_2, ↓hg0_3, ↓hg0_4, ↓hg0_5, hw0_5, ↓hg0_6, ↓hg0_7, ↓hv0, ↓hx0, ha132, hu132, ↓hl132, ↓Bv (b := 1) rfl]
      rw [s1]
      simp (disch := omega) only [↓mo_ns_r, ↓hn0, ↓mo_cs_s, ↓mo_xs_r, ↓mo_xs_l, ↓mo_nl_s, mo_z_0, mo_z_1]
    · rw [if_neg (fun hh => g2 hh.2)]
      refine OC.no h (by decide) (pre _ ?_)
      by_cases e1 : v < loV w
      · rw [if_pos e1]; rfl
      · rw [if_neg e1, if_pos (by omega)]; rfl
  · rw [if_neg (fun hh => g hh.1)]
    refine OC.no h (by decide) ?_
    unfold m_X6_set
    by_cases n0 : w < 0
    · rw [if_pos (show jI w < (0 : Int32) by rw [jI_z, jI_lt (by omega) (by omega) (by omega) (by omega)]; exact n0)]; rfl
    · rw [if_neg (show ¬ jI w < (0 : Int32) by rw [jI_z, jI_lt (by omega) (by omega) (by omega) (by omega)]; exact n0), if_neg (show ¬ jI w < (8 : Int32) by rw [ji8, jI_lt (by omega) (by omega) (by omega) (by omega)]; omega)]; rfl

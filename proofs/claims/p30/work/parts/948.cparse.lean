variable {S : hSh}
/-! parse of the class -/
theorem X3_chs {z : Nat} {M : hM} {s : hP} {k v : Int} (h : PC M s) (hk : 0 ≤ k ∧ k ≤ 7) :
    ∃ M', m_X0_changeSetting (hp S z M) (z + 39) (jI k) (jI v) = some ((), hp S z M') ∧ PC M' (cS s.1 k v, s.2.1, s.2.2) ∧ FX M M' := by
  obtain ⟨M1, r1, r2, r3, r4⟩ := X0_chs (S := S) (z := z) (b := 39) (v := v) (k := k) rfl h.1.1 (by omega) (by omega)
  have hr3 : Fr 39 44 M M1 := r3
  have g37 : ∀ j, gI M1 37 j = gI M 37 j := fun j => (hr3 37 (by omega)).1 j
  obtain ⟨n, w1, w2⟩ := h.1.2.1
  exact ⟨M1, r1, ⟨⟨r2, ⟨n, by rw [g37]; exact w1, w2⟩, by rw [g37]; exact h.1.2.2.1, by rw [g37]; exact h.1.2.2.2⟩, by rw [g37]; exact h.2⟩, FX_of hr3 r4⟩
theorem X3_head {z : Nat} {L : List Int} {M : hM} (hT : TX M L) (h : PC M (c0, fun _ => false, 0)) : RX S z M (m_X3_readHead (hp S z M) (z + 37)) (sHead L) := by
  obtain ⟨M1, r1, r2, r3⟩ := X3_adv (S := S) (z := z) hT (p := 0) (by omega) h.2
  have hT1 := hT.v r3
  have w0 := X3_wd (S := S) (z := z) (i := 0) hT1 (by omega) (by omega) r2
  have h1 := h.1.v r3
  unfold sHead
  by_cases g : wdB L 0 0 = true
  · rw [if_pos g]
    have hp1 : tN L 0 ≤ L.length := tN_le (by omega)
    obtain ⟨M2, s1, s2, s3⟩ := X3_adv (S := S) (z := z) hT1 hp1 r2.2.1
    have hT2 := hT1.v s3
    have h2 := h1.v s3
    have pw := X3_pw (S := S) (z := z) hT2 hp1 s2
    cases hpr : prot L (tN L 0) with
    | none =>
      obtain ⟨M3, t1, t2, t3⟩ := X3_fl (S := S) (z := z) (c := 1) s2.1
      refine ⟨M3, ?_, t2, (r3.x.trans s3.x).trans t3⟩
      rw [hpr] at pw
      unfold m_X3_readHead
      simp (disch := omega) only [ji1, ji2, ji3, ji4, ji5, ji6, ji7, ji8, ji9, ji10, ji11, ji12, ji13, ji14, ji15, ji16, ji19, ji20, ji24, ji31, ji32, ji39, ji45, ji48, ji57, ji58, ji59, ji60, ji97, ji100, ji119, ji120, ji122, ji144, ji200, ji226, ji240, ji255, ji300, ji366, ji400, ji500, ji1000, jI_z, ↓jI_m1, jI_add, jI_sub, jI_mul, ↓hg37_0, ↓hg37_1, hw37_1, ↓hg37_2, hw37_2, ↓hg37_3, hw37_3, ↓hg37_4, hw37_4, ↓hg37_5, hw37_5, ↓hg37_6, hw37_6, ↓hg37_7, hw37_7, ↓hg37_8, hw37_8, ↓hg37_9, ↓hv37, ↓hx37, ha38, hu38, ↓hl38]
      rw [r1]
      simp (disch := omega) only [↓mo_ns_r, ↓hn0, ↓mo_cs_s, ↓mo_xs_r, ↓mo_xs_l, ↓mo_nl_s, mo_z_0, mo_z_1, ↓hg37_0, ↓hg37_1, hw37_1, ↓hg37_2, hw37_2, ↓hg37_3, hw37_3, ↓hg37_4, hw37_4, ↓hg37_5, hw37_5, ↓hg37_6, hw37_6, ↓hg37_7, hw37_7, ↓hg37_8, hw37_8, ↓hg37_9, ↓hv37, ↓hx37, ha38, hu38, ↓hl38]
      rw [w0, g]
      simp (disch := omega) only [↓mo_ns_r, ↓hn0, ↓mo_cs_s, ↓mo_xs_r, ↓mo_xs_l, ↓mo_nl_s, mo_z_0, mo_z_1, b2i_0, Bool.true_eq_false, if_false, ↓hg37_0, ↓hg37_1, hw37_1, ↓hg37_2, hw37_2, ↓hg37_3, hw37_3, ↓hg37_4, hw37_4, ↓hg37_5, hw37_5, ↓hg37_6, hw37_6, ↓hg37_7, hw37_7, ↓hg37_8, hw37_8, ↓hg37_9, ↓hv37, ↓hx37, ha38, hu38, ↓hl38]
      rw [s1]
      simp (disch := omega) only [↓mo_ns_r, ↓hn0, ↓mo_cs_s, ↓mo_xs_r, ↓mo_xs_l, ↓mo_nl_s, mo_z_0, mo_z_1, ↓hg37_0, ↓hg37_1, hw37_1, ↓hg37_2, hw37_2, ↓hg37_3, hw37_3, ↓hg37_4, hw37_4, ↓hg37_5, hw37_5, ↓hg37_6, hw37_6, ↓hg37_7, hw37_7, ↓hg37_8, hw37_8, ↓hg37_9, ↓hv37, ↓hx37, ha38, hu38, ↓hl38]
      rw [pw]
      simp (disch := omega) only [↓mo_ns_r, ↓hn0, ↓mo_cs_s, ↓mo_xs_r, ↓mo_xs_l, ↓mo_nl_s, mo_z_0, mo_z_1, opI, if_true, ↓hg37_0, ↓hg37_1, hw37_1, ↓hg37_2, hw37_2, ↓hg37_3, hw37_3, ↓hg37_4, hw37_4, ↓hg37_5, hw37_5, ↓hg37_6, hw37_6, ↓hg37_7, hw37_7, ↓hg37_8, hw37_8, ↓hg37_9, ↓hv37, ↓hx37, ha38, hu38, ↓hl38]
      rw [t1]
      simp (disch := omega) only [↓mo_ns_r, ↓hn0, ↓mo_cs_s, ↓mo_xs_r, ↓mo_xs_l, ↓mo_nl_s, mo_z_0, mo_z_1]
    | some v =>
      have hv := prot_in hpr
      rw [hpr] at pw
      have hP2 : PC M2 (c0, fun _ => false, tN L (tN L 0)) := ⟨h2, s2.2.1⟩
      obtain ⟨M3, t1, t2, t3⟩ := X3_chs (S := S) (z := z) (k := 0) (v := v) hP2 (by omega)
      have hT3 := hT2.x t3
      have ho3 : okP L (cS c0 0 v, fun _ => false, tN L (tN L 0)) := ⟨okC_c0.set (by omega) (by show (0 : Int) ≤ v ∧ v ≤ 2; exact hv), tN_le hp1⟩
      have F3 := (r3.x.trans s3.x).trans t3
      have pre : ∀ r, (mo_cs (m_X3_readSetting (hp S z M3) (z + 37) (jI 1)) fun x10 σ9 => if x10 = jI 0 then some (jI 0, σ9) else mo_cv σ9 (z + 37) 3 (m_X3_readSetting σ9 (z + 37) (jI 2)) fun x12 σ11 => if x12 = jI 0 then some (jI 0, σ11) else mo_cv σ11 (z + 37) 3 (m_X3_readSemicolon σ11 (z + 37)) fun x14 σ13 => if x14 = jI 0 then some (jI 0, σ13) else some (jI 1, σ13)) = r → m_X3_readHead (hp S z M) (z + 37) = r := by
        intro r hr
        rw [← hr]
        unfold m_X3_readHead
        simp (disch := omega) only [ji1, ji2, ji3, ji4, ji5, ji6, ji7, ji8, ji9, ji10, ji11, ji12, ji13, ji14, ji15, ji16, ji19, ji20, ji24, ji31, ji32, ji39, ji45, ji48, ji57, ji58, ji59, ji60, ji97, ji100, ji119, ji120, ji122, ji144, ji200, ji226, ji240, ji255, ji300, ji366, ji400, ji500, ji1000, jI_z, ↓jI_m1, jI_add, jI_sub, jI_mul, ↓hg37_0, ↓hg37_1, hw37_1, ↓hg37_2, hw37_2, ↓hg37_3, hw37_3, ↓hg37_4, hw37_4, ↓hg37_5, hw37_5, ↓hg37_6, hw37_6, ↓hg37_7, hw37_7, ↓hg37_8, hw37_8, ↓hg37_9, ↓hv37, ↓hx37, ha38, hu38, ↓hl38]
        rw [r1]
        simp (disch := omega) only [↓mo_ns_r, ↓hn0, ↓mo_cs_s, ↓mo_xs_r, ↓mo_xs_l, ↓mo_nl_s, mo_z_0, mo_z_1, ↓hg37_0, ↓hg37_1, hw37_1, ↓hg37_2, hw37_2, ↓hg37_3, hw37_3, ↓hg37_4, hw37_4, ↓hg37_5, hw37_5, ↓hg37_6, hw37_6, ↓hg37_7, hw37_7, ↓hg37_8, hw37_8, ↓hg37_9, ↓hv37, ↓hx37, ha38, hu38, ↓hl38]
        rw [w0, g]
        simp (disch := omega) only [↓mo_ns_r, ↓hn0, ↓mo_cs_s, ↓mo_xs_r, ↓mo_xs_l, ↓mo_nl_s, mo_z_0, mo_z_1, b2i_0, Bool.true_eq_false, if_false, ↓hg37_0, ↓hg37_1, hw37_1, ↓hg37_2, hw37_2, ↓hg37_3, hw37_3, ↓hg37_4, hw37_4, ↓hg37_5, hw37_5, ↓hg37_6, hw37_6, ↓hg37_7, hw37_7, ↓hg37_8, hw37_8, ↓hg37_9, ↓hv37, ↓hx37, ha38, hu38, ↓hl38]
        rw [s1]
        simp (disch := omega) only [↓mo_ns_r, ↓hn0, ↓mo_cs_s, ↓mo_xs_r, ↓mo_xs_l, ↓mo_nl_s, mo_z_0, mo_z_1, ↓hg37_0, ↓hg37_1, hw37_1, ↓hg37_2, hw37_2, ↓hg37_3, hw37_3, ↓hg37_4, hw37_4, ↓hg37_5, hw37_5, ↓hg37_6, hw37_6, ↓hg37_7, hw37_7, ↓hg37_8, hw37_8, ↓hg37_9, ↓hv37, ↓hx37, ha38, hu38, ↓hl38]
        rw [pw]
        simp (disch := omega) only [↓mo_ns_r, ↓hn0, ↓mo_cs_s, ↓mo_xs_r, ↓mo_xs_l, ↓mo_nl_s, mo_z_0, mo_z_1, opI, jI_eq, show ¬ v = -1 by omega, if_false, ↓hg37_0, ↓hg37_1, hw37_1, ↓hg37_2, hw37_2, ↓hg37_3, hw37_3, ↓hg37_4, hw37_4, ↓hg37_5, hw37_5, ↓hg37_6, hw37_6, ↓hg37_7, hw37_7, ↓hg37_8, hw37_8, ↓hg37_9, ↓hv37, ↓hx37, ha38, hu38, ↓hl38, ↓Bv (b := 39) rfl]
        rw [t1]
        simp (disch := omega) only [↓mo_ns_r, ↓hn0, ↓mo_cs_s, ↓mo_xs_r, ↓mo_xs_l, ↓mo_nl_s, mo_z_0, mo_z_1, ↓hg37_0, ↓hg37_1, hw37_1, ↓hg37_2, hw37_2, ↓hg37_3, hw37_3, ↓hg37_4, hw37_4, ↓hg37_5, hw37_5, ↓hg37_6, hw37_6, ↓hg37_7, hw37_7, ↓hg37_8, hw37_8, ↓hg37_9, ↓hv37, ↓hx37, ha38, hu38, ↓hl38]
      have hs1 := X3_set (S := S) (z := z) (k := 1) hT3 ho3 t2 (by omega)
      show RX S z M _ (eB (sSet L 1 (cS c0 0 v, fun _ => false, tN L (tN L 0))) fun s => eB (sSet L 2 s) (sSemi L))
      cases e1 : sSet L 1 (cS c0 0 v, fun _ => false, tN L (tN L 0)) with
      | inl e =>
        rw [e1] at hs1
        obtain ⟨M4, u1, u2, u3⟩ := hs1
        refine ⟨M4, pre _ ?_, u2, F3.trans u3⟩
        rw [u1]
        simp (disch := omega) only [↓mo_ns_r, ↓hn0, ↓mo_cs_s, ↓mo_xs_r, ↓mo_xs_l, ↓mo_nl_s, mo_z_0, mo_z_1, if_true]
      | inr q1 =>
        rw [e1] at hs1
        obtain ⟨M4, u1, u2, u3⟩ := hs1
        have hT4 := hT3.x u3
        have ho4 := (sSet_ok ho3 (by omega) e1).1
        rw [u1] at pre
        simp (disch := omega) only [↓mo_ns_r, ↓hn0, ↓mo_cs_s, ↓mo_xs_r, ↓mo_xs_l, ↓mo_nl_s, mo_z_0, mo_z_1, j10, if_false, ↓hg37_0, ↓hg37_1, hw37_1, ↓hg37_2, hw37_2, ↓hg37_3, hw37_3, ↓hg37_4, hw37_4, ↓hg37_5, hw37_5, ↓hg37_6, hw37_6, ↓hg37_7, hw37_7, ↓hg37_8, hw37_8, ↓hg37_9, ↓hv37, ↓hx37, ha38, hu38, ↓hl38] at pre
        have hs2 := X3_set (S := S) (z := z) (k := 2) hT4 ho4 u2 (by omega)
        show RX S z M _ (eB (sSet L 2 q1) (sSemi L))
        cases e2 : sSet L 2 q1 with
        | inl e =>
          rw [e2] at hs2
          obtain ⟨M5, v1, v2, v3⟩ := hs2
          refine ⟨M5, pre _ ?_, v2, (F3.trans u3).trans v3⟩
          rw [v1]
          simp (disch := omega) only [↓mo_ns_r, ↓hn0, ↓mo_cs_s, ↓mo_xs_r, ↓mo_xs_l, ↓mo_nl_s, mo_z_0, mo_z_1, if_true]
        | inr q2 =>
          rw [e2] at hs2
          obtain ⟨M5, v1, v2, v3⟩ := hs2
          have hT5 := hT4.x v3
          have ho5 := (sSet_ok ho4 (by omega) e2).1
          rw [v1] at pre
          simp (disch := omega) only [↓mo_ns_r, ↓hn0, ↓mo_cs_s, ↓mo_xs_r, ↓mo_xs_l, ↓mo_nl_s, mo_z_0, mo_z_1, j10, if_false, ↓hg37_0, ↓hg37_1, hw37_1, ↓hg37_2, hw37_2, ↓hg37_3, hw37_3, ↓hg37_4, hw37_4, ↓hg37_5, hw37_5, ↓hg37_6, hw37_6, ↓hg37_7, hw37_7, ↓hg37_8, hw37_8, ↓hg37_9, ↓hv37, ↓hx37, ha38, hu38, ↓hl38] at pre
          have hm := X3_semi (S := S) (z := z) hT5 ho5 v2
          show RX S z M _ (sSemi L q2)
          cases e3 : sSemi L q2 with
          | inl e =>
            rw [e3] at hm
            obtain ⟨M6, x1, x2, x3⟩ := hm
            refine ⟨M6, pre _ ?_, x2, ((F3.trans u3).trans v3).trans x3⟩
            rw [x1]
            simp (disch := omega) only [↓mo_ns_r, ↓hn0, ↓mo_cs_s, ↓mo_xs_r, ↓mo_xs_l, ↓mo_nl_s, mo_z_0, mo_z_1, if_true]
          | inr q3 =>
            rw [e3] at hm
            obtain ⟨M6, x1, x2, x3⟩ := hm
            refine ⟨M6, pre _ ?_, x2, ((F3.trans u3).trans v3).trans x3⟩
            rw [x1]
            simp (disch := omega) only [↓mo_ns_r, ↓hn0, ↓mo_cs_s, ↓mo_xs_r, ↓mo_xs_l, ↓mo_nl_s, mo_z_0, mo_z_1, j10, if_false]
  · rw [if_neg g]
    have g' : wdB L 0 0 = false := by simpa using g
    obtain ⟨M2, s1, s2, s3⟩ := X3_fl (S := S) (z := z) (c := 1) r2.1
    refine ⟨M2, ?_, s2, r3.x.trans s3⟩
    unfold m_X3_readHead
    simp (disch := omega) only [ji1, ji2, ji3, ji4, ji5, ji6, ji7, ji8, ji9, ji10, ji11, ji12, ji13, ji14, ji15, ji16, ji19, ji20, ji24, ji31, ji32, ji39, ji45, ji48, ji57, ji58, ji59, ji60, ji97, ji100, ji119, ji120, ji122, ji144, ji200, ji226, ji240, ji255, ji300, ji366, ji400, ji500, ji1000, jI_z, ↓jI_m1, jI_add, jI_sub, jI_mul, ↓hg37_0, ↓hg37_1, hw37_1, ↓hg37_2, hw37_2, ↓hg37_3, hw37_3, ↓hg37_4, hw37_4, ↓hg37_5, hw37_5, ↓hg37_6, hw37_6, ↓hg37_7, hw37_7, ↓hg37_8, hw37_8, ↓hg37_9, ↓hv37, ↓hx37, ha38, hu38, ↓hl38]
    rw [r1]
    simp (disch := omega) only [↓mo_ns_r, ↓hn0, ↓mo_cs_s, ↓mo_xs_r, ↓mo_xs_l, ↓mo_nl_s, mo_z_0, mo_z_1, ↓hg37_0, ↓hg37_1, hw37_1, ↓hg37_2, hw37_2, ↓hg37_3, hw37_3, ↓hg37_4, hw37_4, ↓hg37_5, hw37_5, ↓hg37_6, hw37_6, ↓hg37_7, hw37_7, ↓hg37_8, hw37_8, ↓hg37_9, ↓hv37, ↓hx37, ha38, hu38, ↓hl38]
    rw [w0, g']
    simp (disch := omega) only [↓mo_ns_r, ↓hn0, ↓mo_cs_s, ↓mo_xs_r, ↓mo_xs_l, ↓mo_nl_s, mo_z_0, mo_z_1, b2i_0, if_true, ↓hg37_0, ↓hg37_1, hw37_1, ↓hg37_2, hw37_2, ↓hg37_3, hw37_3, ↓hg37_4, hw37_4, ↓hg37_5, hw37_5, ↓hg37_6, hw37_6, ↓hg37_7, hw37_7, ↓hg37_8, hw37_8, ↓hg37_9, ↓hv37, ↓hx37, ha38, hu38, ↓hl38]
    rw [s1]
    simp (disch := omega) only [↓mo_ns_r, ↓hn0, ↓mo_cs_s, ↓mo_xs_r, ↓mo_xs_l, ↓mo_nl_s, mo_z_0, mo_z_1]
theorem sHead_ok {L : List Int} {s : hP} (h : sHead L = .inr s) : okP L s := by
  unfold sHead at h
  split at h
  · split at h
    · cases h
    · next v hv =>
      have hv' := prot_in hv
      obtain ⟨s1, e1, h⟩ := eB_r h
      obtain ⟨s2, e2, h⟩ := eB_r h
      have ho3 : okP L (cS c0 0 v, fun _ => false, tN L (tN L 0)) := ⟨okC_c0.set (by omega) (by show (0 : Int) ≤ v ∧ v ≤ 2; exact hv'), tN_le (tN_le (by omega))⟩
      exact (sSemi_ok (sSet_ok (sSet_ok ho3 (by omega) e1).1 (by omega) e2).1 h).1
  · cases h
/-- the outcome of reading a text -/
def RLo (S : hSh) (z : Nat) (M : hM) (o : Option (Int32 × ac_H)) : hE → Prop
  | .inl e => ∃ M', o = some (jI e.1, hp S z (sI M' 37 1 0)) ∧ EC M' e ∧ FX M M'
  | .inr s => ∃ M', o = some (jI 0, hp S z (sI M' 37 1 0)) ∧ BR M' 39 s.1 ∧ gI M' 37 8 = -1 ∧ FX M M'
theorem X3_stop {z f : Nat} {M : hM} {j : Nat} {e : Int} (hj : j ≤ 501) (h7 : gI M 37 7 = e) : m_X3_read_l39 (z + 37) (f + 1) (hp S z M) (jI 0) (jI j) = some (jI e, hp S z (sI M 37 1 0)) := by
  have h7' : gI (sI M 37 1 0) 37 7 = e := by rw [gI_sI, if_neg (by omega), h7]
  unfold m_X3_read_l39
  by_cases g : (j : Int) < 500
  · simp (disch := omega) only [ji1, ji2, ji3, ji4, ji5, ji6, ji7, ji8, ji9, ji10, ji11, ji12, ji13, ji14, ji15, ji16, ji19, ji20, ji24, ji31, ji32, ji39, ji45, ji48, ji57, ji58, ji59, ji60, ji97, ji100, ji119, ji120, ji122, ji144, ji200, ji226, ji240, ji255, ji300, ji366, ji400, ji500, ji1000, jI_z, ↓jI_m1, jI_add, jI_sub, jI_mul, jI_lt, g, if_true, ↓hg37_0, ↓hg37_1, hw37_1, ↓hg37_2, hw37_2, ↓hg37_3, hw37_3, ↓hg37_4, hw37_4, ↓hg37_5, hw37_5, ↓hg37_6, hw37_6, ↓hg37_7, hw37_7, ↓hg37_8, hw37_8, ↓hg37_9, ↓hv37, ↓hx37, ha38, hu38, ↓hl38, h7']
  · simp (disch := omega) only [ji1, ji2, ji3, ji4, ji5, ji6, ji7, ji8, ji9, ji10, ji11, ji12, ji13, ji14, ji15, ji16, ji19, ji20, ji24, ji31, ji32, ji39, ji45, ji48, ji57, ji58, ji59, ji60, ji97, ji100, ji119, ji120, ji122, ji144, ji200, ji226, ji240, ji255, ji300, ji366, ji400, ji500, ji1000, jI_z, ↓jI_m1, jI_add, jI_sub, jI_mul, jI_lt, g, if_false, ↓hg37_0, ↓hg37_1, hw37_1, ↓hg37_2, hw37_2, ↓hg37_3, hw37_3, ↓hg37_4, hw37_4, ↓hg37_5, hw37_5, ↓hg37_6, hw37_6, ↓hg37_7, hw37_7, ↓hg37_8, hw37_8, ↓hg37_9, ↓hv37, ↓hx37, ha38, hu38, ↓hl38, h7']
theorem X3_loop {z : Nat} {L : List Int} : ∀ (d j f : Nat) (M : hM) (s : hP), L.length < s.2.2 + d → j ≤ s.2.2 → d < f → TX M L → okP L s → PC M s →
    RLo S z M (m_X3_read_l39 (z + 37) f (hp S z M) (jI 1) (jI j)) (sLoop L d s) := by
  intro d
  induction d with
  | zero => intro j f M s hd hj hf hT ho h; have := ho.2; omega
  | succ d ih =>
    intro j f M s hd hj hf hT ho h
    obtain ⟨f, rfl⟩ : ∃ g, f = g + 1 := ⟨f - 1, by omega⟩
    have hl := hT.2.2.1
    have hpl := ho.2
    obtain ⟨M1, r1, r2, r3⟩ := X3_adv (S := S) (z := z) hT ho.2 h.2
    have hk' : 0 ≤ tK L s.2.2 ∧ tK L s.2.2 ≤ 4 := eK_in
    unfold sLoop
    by_cases g : (j : Int) < 500
    · by_cases e0 : tK L s.2.2 = 0
      · rw [if_pos e0]
        have h1 := h.1.v r3
        have h7' : gI (sI M1 37 1 0) 37 7 = 0 := by rw [gI_sI, if_neg (by omega)]; exact h1.2.2.1
        refine ⟨M1, ?_, h1.1, h1.2.2.2, r3.x⟩
        have k5 := r2.2.2
        unfold m_X3_read_l39
        simp (disch := omega) only [ji1, ji2, ji3, ji4, ji5, ji6, ji7, ji8, ji9, ji10, ji11, ji12, ji13, ji14, ji15, ji16, ji19, ji20, ji24, ji31, ji32, ji39, ji45, ji48, ji57, ji58, ji59, ji60, ji97, ji100, ji119, ji120, ji122, ji144, ji200, ji226, ji240, ji255, ji300, ji366, ji400, ji500, ji1000, jI_z, ↓jI_m1, jI_add, jI_sub, jI_mul, jI_lt, g, if_true, j10, if_false, ↓hg37_0, ↓hg37_1, hw37_1, ↓hg37_2, hw37_2, ↓hg37_3, hw37_3, ↓hg37_4, hw37_4, ↓hg37_5, hw37_5, ↓hg37_6, hw37_6, ↓hg37_7, hw37_7, ↓hg37_8, hw37_8, ↓hg37_9, ↓hv37, ↓hx37, ha38, hu38, ↓hl38]
        rw [r1]
        simp (disch := omega) only [↓mo_ns_r, ↓hn0, ↓mo_cs_s, ↓mo_xs_r, ↓mo_xs_l, ↓mo_nl_s, mo_z_0, mo_z_1, ↓hg37_0, ↓hg37_1, hw37_1, ↓hg37_2, hw37_2, ↓hg37_3, hw37_3, ↓hg37_4, hw37_4, ↓hg37_5, hw37_5, ↓hg37_6, hw37_6, ↓hg37_7, hw37_7, ↓hg37_8, hw37_8, ↓hg37_9, ↓hv37, ↓hx37, ha38, hu38, ↓hl38, k5, e0, if_true, h7']
      · rw [if_neg e0]
        have hT1 := hT.v r3
        have hst := X3_stmt (S := S) (z := z) hT1 ho ⟨h.1.v r3, r2⟩
        have k5 := r2.2.2
        have pre : ∀ r, (mo_cs (m_X3_readStatement (hp S z M1) (z + 37)) fun x20 σ19 => m_X3_read_l39 (z + 37) f σ19 x20 (jI (j + 1 : Nat))) = r → m_X3_read_l39 (z + 37) (f + 1) (hp S z M) (jI 1) (jI j) = r := by
          intro r hr
          rw [← hr]
          have ek : (j : Int) + 1 = ((j + 1 : Nat) : Int) := by omega
          conv => lhs; unfold m_X3_read_l39
          simp (disch := omega) only [ji1, ji2, ji3, ji4, ji5, ji6, ji7, ji8, ji9, ji10, ji11, ji12, ji13, ji14, ji15, ji16, ji19, ji20, ji24, ji31, ji32, ji39, ji45, ji48, ji57, ji58, ji59, ji60, ji97, ji100, ji119, ji120, ji122, ji144, ji200, ji226, ji240, ji255, ji300, ji366, ji400, ji500, ji1000, jI_z, ↓jI_m1, jI_add, jI_sub, jI_mul, jI_lt, g, if_true, j10, if_false, ↓hg37_0, ↓hg37_1, hw37_1, ↓hg37_2, hw37_2, ↓hg37_3, hw37_3, ↓hg37_4, hw37_4, ↓hg37_5, hw37_5, ↓hg37_6, hw37_6, ↓hg37_7, hw37_7, ↓hg37_8, hw37_8, ↓hg37_9, ↓hv37, ↓hx37, ha38, hu38, ↓hl38]
          rw [r1]
          simp (disch := omega) only [↓mo_ns_r, ↓hn0, ↓mo_cs_s, ↓mo_xs_r, ↓mo_xs_l, ↓mo_nl_s, mo_z_0, mo_z_1, ↓hg37_0, ↓hg37_1, hw37_1, ↓hg37_2, hw37_2, ↓hg37_3, hw37_3, ↓hg37_4, hw37_4, ↓hg37_5, hw37_5, ↓hg37_6, hw37_6, ↓hg37_7, hw37_7, ↓hg37_8, hw37_8, ↓hg37_9, ↓hv37, ↓hx37, ha38, hu38, ↓hl38, k5, jI_eq, e0, if_false, ek]
        cases hss : sStmt L s with
        | inl e =>
          rw [hss] at hst
          obtain ⟨M2, s1, s2, s3⟩ := hst
          obtain ⟨f', rfl⟩ : ∃ g, f = g + 1 := ⟨f - 1, by omega⟩
          refine ⟨M2, pre _ ?_, s2, r3.x.trans s3⟩
          rw [s1]
          simp (disch := omega) only [↓mo_ns_r, ↓hn0, ↓mo_cs_s, ↓mo_xs_r, ↓mo_xs_l, ↓mo_nl_s, mo_z_0, mo_z_1]
          exact X3_stop (by omega) s2.1
        | inr s' =>
          rw [hss] at hst
          obtain ⟨M2, s1, s2, s3⟩ := hst
          obtain ⟨o2, g2⟩ := sStmt_ok ho e0 hss
          have IH := ih (j + 1) f M2 s' (by omega) (by omega) (by omega) (hT1.x s3) o2 s2
          rw [s1] at pre
          simp (disch := omega) only [↓mo_ns_r, ↓hn0, ↓mo_cs_s, ↓mo_xs_r, ↓mo_xs_l, ↓mo_nl_s, mo_z_0, mo_z_1] at pre
          show RLo S z M _ (sLoop L d s')
          cases hsl : sLoop L d s' with
          | inl e =>
            rw [hsl] at IH
            obtain ⟨M3, t1, t2, t3⟩ := IH
            exact ⟨M3, pre _ t1, t2, (r3.x.trans s3).trans t3⟩
          | inr s3' =>
            rw [hsl] at IH
            obtain ⟨M3, t1, t2, t3, t4⟩ := IH
            exact ⟨M3, pre _ t1, t2, t3, (r3.x.trans s3).trans t4⟩
    · have e0 : tK L s.2.2 = 0 := tK_end (by omega)
      rw [if_pos e0]
      have h7' : gI (sI M 37 1 0) 37 7 = 0 := by rw [gI_sI, if_neg (by omega)]; exact h.1.2.2.1
      refine ⟨M, ?_, h.1.1, h.1.2.2.2, FX.rfl'⟩
      unfold m_X3_read_l39
      simp (disch := omega) only [ji1, ji2, ji3, ji4, ji5, ji6, ji7, ji8, ji9, ji10, ji11, ji12, ji13, ji14, ji15, ji16, ji19, ji20, ji24, ji31, ji32, ji39, ji45, ji48, ji57, ji58, ji59, ji60, ji97, ji100, ji119, ji120, ji122, ji144, ji200, ji226, ji240, ji255, ji300, ji366, ji400, ji500, ji1000, jI_z, ↓jI_m1, jI_add, jI_sub, jI_mul, jI_lt, g, if_false, ↓hg37_0, ↓hg37_1, hw37_1, ↓hg37_2, hw37_2, ↓hg37_3, hw37_3, ↓hg37_4, hw37_4, ↓hg37_5, hw37_5, ↓hg37_6, hw37_6, ↓hg37_7, hw37_7, ↓hg37_8, hw37_8, ↓hg37_9, ↓hv37, ↓hx37, ha38, hu38, ↓hl38, h7']
theorem X0_bg_l {z b : Nat} {M0 : hM} (hb : isB b = true) : ∀ (d i n : Nat) (M : hM), i + d = 8 → d < n → (∀ k, k < i → gA M (b + 1) k = c0.1 k) → Fr b (b + 7) M0 M → Vr M0 M →
    ∃ M', m_X0_begin_l2 (z + b) n (hp S z M) (jI i) = some ((), hp S z M') ∧ BR M' b c0 ∧ RS M' (b + 5) (fun _ => 0) ∧ Fr b (b + 7) M0 M' ∧ Vr M0 M' := by
  have hs := B_s hb
  intro d
  induction d with
  | zero =>
    intro i n M hi hn hS hF hV
    obtain ⟨n, rfl⟩ : ∃ k, n = k + 1 := ⟨n - 1, by omega⟩
    have hi8 : i = 8 := by omega
    subst hi8
    obtain ⟨M1, r1, r2, r3, r4⟩ := X5_ra (S := S) (z := z) (s := b + 5) (M := sI M b 4 0) hs
    refine ⟨M1, ?_, ⟨fun k hk => ?_, ?_, fun i x hx => by simp [c0] at hx⟩, r2, (hF.trans (Fr.sI (by omega))).trans (r3.mono (by omega) (by omega)), (hV.trans (fun _ => gV_sI)).trans r4⟩
    · have g : ¬ ((8 : Nat) : Int) < 8 := by omega
      unfold m_X0_begin_l2
      simp (disch := omega) only [ji1, ji2, ji3, ji4, ji5, ji6, ji7, ji8, ji9, ji10, ji11, ji12, ji13, ji14, ji15, ji16, ji19, ji20, ji24, ji31, ji32, ji39, ji45, ji48, ji57, ji58, ji59, ji60, ji97, ji100, ji119, ji120, ji122, ji144, ji200, ji226, ji240, ji255, ji300, ji366, ji400, ji500, ji1000, jI_z, ↓jI_m1, jI_add, jI_sub, jI_mul, jI_lt, g, if_false, ↓Bg0 hb, ↓Bg1 hb, ↓Bg2 hb, ↓Bg3 hb, ↓Bg5 hb, ↓Bg4 hb, Bw4 hb, ↓Bv hb, Ba1 hb, Bu1 hb, Ba2 hb, Bu2 hb, Ba3 hb, Bu3 hb, Ba4 hb, Bu4 hb, ↓Sg0 hs, ↓Sv hs, Sa hs, Su hs]
      rw [r1]
      rfl
    · rw [(r3 (b + 1) (by omega)).2, gA_sI]; exact hS k hk
    · rw [(r3 b (by omega)).1, gI_sI, if_pos ⟨rfl, rfl⟩]; rfl
  | succ d ih =>
    intro i n M hi hn hS hF hV
    obtain ⟨n, rfl⟩ : ∃ k, n = k + 1 := ⟨n - 1, by omega⟩
    obtain ⟨M1, r1, r2⟩ := ih (i + 1) n (sA M (b + 1) i (c0.1 i)) (by omega) (by omega) (fun k hk => by
      rw [gA_sA]
      by_cases e : k = i
      · subst e; rw [if_pos ⟨rfl, rfl⟩]
      · rw [if_neg (by omega)]; exact hS k (by omega)) (hF.trans (Fr.sA (by omega))) (hV.trans (fun _ => gV_sA))
    refine ⟨M1, ?_, r2⟩
    rw [← r1]
    have g : (i : Int) < 8 := by omega
    have ek : (i : Int) + 1 = ((i + 1 : Nat) : Int) := by omega
    conv => lhs; unfold m_X0_begin_l2
    simp (disch := omega) only [ji1, ji2, ji3, ji4, ji5, ji6, ji7, ji8, ji9, ji10, ji11, ji12, ji13, ji14, ji15, ji16, ji19, ji20, ji24, ji31, ji32, ji39, ji45, ji48, ji57, ji58, ji59, ji60, ji97, ji100, ji119, ji120, ji122, ji144, ji200, ji226, ji240, ji255, ji300, ji366, ji400, ji500, ji1000, jI_z, ↓jI_m1, jI_add, jI_sub, jI_mul, jI_lt, g, if_true, ↓Bg0 hb, ↓Bg1 hb, ↓Bg2 hb, ↓Bg3 hb, ↓Bg5 hb, ↓Bg4 hb, Bw4 hb, ↓Bv hb, Ba1 hb, Bu1 hb, Ba2 hb, Bu2 hb, Ba3 hb, Bu3 hb, Ba4 hb, Bu4 hb, mo_tj, Int.toNat_natCast, ek]
    rfl
theorem X0_bg {z b : Nat} {M : hM} (hb : isB b = true) : ∃ M', m_X0_begin (hp S z M) (z + b) = some ((), hp S z M') ∧ BR M' b c0 ∧ RS M' (b + 5) (fun _ => 0) ∧ Fr b (b + 7) M M' ∧ Vr M M' :=
  X0_bg_l (S := S) (z := z) (M0 := M) hb 8 0 hN_f M (by omega) (by unfold hN_f; omega) (fun k hk => by omega) Fr.rfl' Vr.rfl'
theorem X3_read {z n : Nat} {T : List Int} {e0 : Int} {M : hM} (h : RC M (T, e0)) (hn : n ≤ T.length) (hl : T.length ≤ 500) (hb : ∀ v ∈ T, 0 ≤ v ∧ v ≤ 255) :
    match sParse (T.take n) with
    | .inl e => ∃ M', m_X3_read (hp S z M) (z + 37) (jI n) = some (jI e.1, hp S z M') ∧ RC M' ([], e.2) ∧ (∀ a, a < 37 ∨ 46 ≤ a → (∀ k, gI M' a k = gI M a k) ∧ ∀ k, gA M' a k = gA M a k) ∧ Vr M M'
    | .inr s => ∃ M', m_X3_read (hp S z M) (z + 37) (jI n) = some (jI 0, hp S z M') ∧ RC M' ([], -1) ∧ BR M' 39 s.1 ∧ RS M' 44 (fun _ => 0) ∧ (∀ a, a < 37 ∨ 46 ≤ a → (∀ k, gI M' a k = gI M a k) ∧ ∀ k, gA M' a k = gA M a k) ∧ Vr M M' := by
  have hlen : (T.take n).length = n := by rw [List.length_take]; omega
  have F0 : (∀ a, a ≠ 37 → ∀ k, gI (sI (sI (sI (sI (sI M 37 2 n) 37 4 0) 37 6 0) 37 7 0) 37 8 (-1)) a k = gI M a k) := fun a ha k => by
    rw [gI_sI, if_neg (by omega), gI_sI, if_neg (by omega), gI_sI, if_neg (by omega), gI_sI, if_neg (by omega), gI_sI, if_neg (by omega)]
  have g2 : gI (sI (sI (sI (sI (sI M 37 2 n) 37 4 0) 37 6 0) 37 7 0) 37 8 (-1)) 37 2 = n := by
    rw [gI_sI, if_neg (by omega), gI_sI, if_neg (by omega), gI_sI, if_neg (by omega), gI_sI, if_neg (by omega), gI_sI, if_pos ⟨rfl, rfl⟩]
  have g4 : gI (sI (sI (sI (sI (sI M 37 2 n) 37 4 0) 37 6 0) 37 7 0) 37 8 (-1)) 37 4 = 0 := by
    rw [gI_sI, if_neg (by omega), gI_sI, if_neg (by omega), gI_sI, if_neg (by omega), gI_sI, if_pos ⟨rfl, rfl⟩]
  have g6 : gI (sI (sI (sI (sI (sI M 37 2 n) 37 4 0) 37 6 0) 37 7 0) 37 8 (-1)) 37 6 = 0 := by
    rw [gI_sI, if_neg (by omega), gI_sI, if_neg (by omega), gI_sI, if_pos ⟨rfl, rfl⟩]
  have g7 : gI (sI (sI (sI (sI (sI M 37 2 n) 37 4 0) 37 6 0) 37 7 0) 37 8 (-1)) 37 7 = 0 := by
    rw [gI_sI, if_neg (by omega), gI_sI, if_pos ⟨rfl, rfl⟩]
  have g8 : gI (sI (sI (sI (sI (sI M 37 2 n) 37 4 0) 37 6 0) 37 7 0) 37 8 (-1)) 37 8 = -1 := by
    rw [gI_sI, if_pos ⟨rfl, rfl⟩]
  have gA0 : ∀ a k, gA (sI (sI (sI (sI (sI M 37 2 n) 37 4 0) 37 6 0) 37 7 0) 37 8 (-1)) a k = gA M a k := fun a k => rfl
  have gV0 : Vr M (sI (sI (sI (sI (sI M 37 2 n) 37 4 0) 37 6 0) 37 7 0) 37 8 (-1)) := fun k => rfl
  revert F0 g2 g4 g6 g7 g8 gA0 gV0
  generalize hM0 : (sI (sI (sI (sI (sI M 37 2 n) 37 4 0) 37 6 0) 37 7 0) 37 8 (-1)) = M0
  intro F0 g2 g4 g6 g7 g8 gA0 gV0
  obtain ⟨M1, r1, r2, r3, r4, r5⟩ := X0_bg (S := S) (z := z) (M := M0) (b := 39) rfl
  have hr4 : Fr 39 46 M0 M1 := r4
  have k37 : ∀ k, gI M1 37 k = gI M0 37 k := fun k => (hr4 37 (by omega)).1 k
  have hT0 : ∀ k v, (T.take n)[k]? = some v → gA M1 38 k = v := by
    intro k v hv
    rw [(hr4 38 (by omega)).2, gA0]
    rw [List.getElem?_take] at hv
    split at hv
    · exact h.2.1 k v hv
    · cases hv
  have hT1 : TX M1 (T.take n) := ⟨by rw [k37, g2, hlen], hT0, by omega, fun v hv => hb v (List.mem_of_mem_take hv)⟩
  have hP1 : PC M1 (c0, fun _ => false, 0) := ⟨⟨r2, ⟨0, by rw [k37, g6]; rfl, by omega, fun k _ => Nat.zero_testBit k⟩, by rw [k37, g7], by rw [k37, g8]⟩, by rw [k37, g4]; rfl⟩
  have hd := X3_head (S := S) (z := z) hT1 hP1
  have same : ∀ M2, FX M1 M2 → (∀ a, a < 37 ∨ 46 ≤ a → (∀ k, gI (sI M2 37 1 0) a k = gI M a k) ∧ ∀ k, gA (sI M2 37 1 0) a k = gA M a k) := fun M2 hF a ha => ⟨fun k => by rw [gI_sI, if_neg (by omega), (hF.1 a (by omega)).1, (hr4 a (by omega)).1, F0 a (by omega)], fun k => by rw [gA_sI, (hF.1 a (by omega)).2, (hr4 a (by omega)).2, gA0]⟩
  have vr : ∀ M2, FX M1 M2 → Vr M (sI M2 37 1 0) := fun M2 hF k => by rw [gV_sI, hF.2.2.2, r5, gV0]
  have rc : ∀ (M2 : hM) (x : Int), gI M2 37 8 = x → RC (sI M2 37 1 0) ([], x) := fun M2 x hx => ⟨by rw [gI_sI, if_pos ⟨rfl, rfl⟩]; rfl, fun i v hv => by simp at hv, by rw [gI_sI, if_neg (by omega), hx]⟩
  have pre : ∀ r, (mo_cs (m_X3_readHead (hp S z M1) (z + 37)) fun x9 σ8 => m_X3_read_l39 (z + 37) hN_f σ8 x9 (jI (0 : Nat))) = r → m_X3_read (hp S z M) (z + 37) (jI n) = r := by
    intro r hr
    rw [← hr]
    unfold m_X3_read
    simp (disch := omega) only [ji1, ji2, ji3, ji4, ji5, ji6, ji7, ji8, ji9, ji10, ji11, ji12, ji13, ji14, ji15, ji16, ji19, ji20, ji24, ji31, ji32, ji39, ji45, ji48, ji57, ji58, ji59, ji60, ji97, ji100, ji119, ji120, ji122, ji144, ji200, ji226, ji240, ji255, ji300, ji366, ji400, ji500, ji1000, jI_z, ↓jI_m1, jI_add, jI_sub, jI_mul, ↓hg37_0, ↓hg37_1, hw37_1, ↓hg37_2, hw37_2, ↓hg37_3, hw37_3, ↓hg37_4, hw37_4, ↓hg37_5, hw37_5, ↓hg37_6, hw37_6, ↓hg37_7, hw37_7, ↓hg37_8, hw37_8, ↓hg37_9, ↓hv37, ↓hx37, ha38, hu38, ↓hl38, ↓Bv (b := 39) rfl, hM0]
    rw [r1]
    simp (disch := omega) only [↓mo_ns_r, ↓hn0, ↓mo_cs_s, ↓mo_xs_r, ↓mo_xs_l, ↓mo_nl_s, mo_z_0, mo_z_1, ↓hg37_0, ↓hg37_1, hw37_1, ↓hg37_2, hw37_2, ↓hg37_3, hw37_3, ↓hg37_4, hw37_4, ↓hg37_5, hw37_5, ↓hg37_6, hw37_6, ↓hg37_7, hw37_7, ↓hg37_8, hw37_8, ↓hg37_9, ↓hv37, ↓hx37, ha38, hu38, ↓hl38]
    rfl
  unfold sParse
  cases hsh : sHead (T.take n) with
  | inl e =>
    rw [hsh] at hd
    obtain ⟨M2, s1, s2, s3⟩ := hd
    refine ⟨sI M2 37 1 0, pre _ ?_, rc M2 e.2 s2.2, same M2 s3, vr M2 s3⟩
    rw [s1]
    simp (disch := omega) only [↓mo_ns_r, ↓hn0, ↓mo_cs_s, ↓mo_xs_r, ↓mo_xs_l, ↓mo_nl_s, mo_z_0, mo_z_1]
    exact X3_stop (f := 99999) (by omega) s2.1
  | inr s =>
    rw [hsh] at hd
    obtain ⟨M2, s1, s2, s3⟩ := hd
    have o2 := sHead_ok hsh
    have lp := X3_loop (S := S) (z := z) (L := T.take n) 501 0 hN_f M2 s (by omega) (by omega) (by unfold hN_f; omega) (hT1.x s3) o2 s2
    rw [s1] at pre
    simp (disch := omega) only [↓mo_ns_r, ↓hn0, ↓mo_cs_s, ↓mo_xs_r, ↓mo_xs_l, ↓mo_nl_s, mo_z_0, mo_z_1] at pre
    show match sLoop (T.take n) 501 s with
      | .inl e => _
      | .inr s => _
    cases hsl : sLoop (T.take n) 501 s with
    | inl e =>
      rw [hsl] at lp
      obtain ⟨M3, t1, t2, t3⟩ := lp
      exact ⟨sI M3 37 1 0, pre _ t1, rc M3 e.2 t2.2, same M3 (s3.trans t3), vr M3 (s3.trans t3)⟩
    | inr s' =>
      rw [hsl] at lp
      obtain ⟨M3, t1, t2, t3, t4⟩ := lp
      have F := s3.trans t4
      exact ⟨sI M3 37 1 0, pre _ t1, rc M3 (-1) t3, t2.cg (fun a g1 g2 => ⟨fun k => by rw [gI_sI, if_neg (by omega)], fun k => gA_sI⟩), fun k hk => by rw [gA_sI, (F.1 45 (by omega)).2]; exact r3 k hk, same M3 F, vr M3 F⟩


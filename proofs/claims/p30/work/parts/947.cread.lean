variable {S : hSh}
/-! READING of the class: head, faults, statements. -/
theorem tN_ge {L : List Int} {p : Nat} : p ≤ tN L p := by
  by_cases h : tK L p = 0
  · unfold tN
    unfold tK eK at h
    unfold eN
    have : p ≤ tS L p := by unfold tS; omega
    split
    · exact this
    · split
      · omega
      · split <;> omega
  · have := tN_gt h; omega
theorem sNum_v {L : List Int} {lo hi : Int} {p : Nat} {v : Int} (h : sNum L lo hi p = .inr v) : lo ≤ v ∧ v ≤ hi ∧ v = nV L p ∧ tK L p = 2 := by
  unfold sNum at h
  split at h
  · next h2 =>
    split at h
    · next h3 => cases h; exact ⟨h3.1, h3.2, rfl, h2⟩
    · cases h
  · cases h
theorem sSet_ok {L : List Int} {k : Int} {s s' : hP} (ho : okP L s) (hk : 0 ≤ k ∧ k ≤ 7) (h : sSet L k s = .inr s') : okP L s' ∧ s'.2.2 = tN L s.2.2 ∧ s'.2.1 = s.2.1 := by
  unfold sSet at h
  split at h
  · cases h
  · next v hv =>
    cases h
    obtain ⟨h1, h2, _⟩ := sNum_v hv
    exact ⟨⟨ho.1.set hk ⟨h1, h2⟩, tN_le ho.2⟩, rfl, rfl⟩
theorem sSemi_ok {L : List Int} {s s' : hP} (ho : okP L s) (h : sSemi L s = .inr s') : okP L s' ∧ s'.2.2 = tN L s.2.2 ∧ s'.1 = s.1 := by
  unfold sSemi at h
  split at h
  · cases h; exact ⟨⟨ho.1, tN_le ho.2⟩, rfl, rfl⟩
  · cases h
theorem okC_c0 : okC c0 := ⟨by decide, by simp [c0], by
  intro k hk
  have : ∀ k : Fin 8, ((ac_T 1).getD k.val 0).toInt ≤ c0.1 k.val ∧ c0.1 k.val ≤ ((ac_T 2).getD k.val 0).toInt := by decide
  exact this ⟨k, hk⟩⟩
theorem kindOf_in {L : List Int} {p : Nat} {kd : Int} (h : kindOf L p = some kd) : 0 ≤ kd ∧ kd ≤ 2 := by
  unfold kindOf at h
  split at h
  · cases h; omega
  · split at h
    · cases h; omega
    · split at h
      · cases h; omega
      · cases h
theorem setOf_in {L : List Int} {p k : Nat} (h : setOf L p = some k) : wK k := by
  unfold setOf at h
  split at h
  · cases h; exact Or.inl rfl
  · split at h
    · cases h; exact Or.inr (Or.inl rfl)
    · split at h
      · cases h; exact Or.inr (Or.inr (Or.inl rfl))
      · split at h
        · cases h; exact Or.inr (Or.inr (Or.inr rfl))
        · cases h
theorem prot_in {L : List Int} {p : Nat} {v : Int} (h : prot L p = some v) : 0 ≤ v ∧ v ≤ 2 := by
  unfold prot at h
  split at h
  · cases h; omega
  · split at h
    · cases h; omega
    · split at h
      · cases h; omega
      · cases h
theorem sAmt_ok {L : List Int} {kd nm : Int} {s s' : hP} (ho : okP L s) (hk : 0 ≤ kd ∧ kd ≤ 2) (hn : 0 ≤ nm ∧ nm ≤ 119) (hl : s.1.2.length < 10) (h : sAmt L kd nm s = .inr s') : okP L s' ∧ s.2.2 ≤ s'.2.2 := by
  unfold sAmt at h
  split at h
  · next e2 =>
    split at h
    · cases h
    · next am ha =>
      cases h
      obtain ⟨h1, h2, _⟩ := sNum_v ha
      exact ⟨⟨ho.1.ins plc_in hl (okA_F ⟨⟨hn.1, by omega⟩, Or.inl ⟨e2, h1, h2⟩⟩), tN_le ho.2⟩, tN_ge⟩
  · next e2 =>
    cases h
    exact ⟨⟨ho.1.ins plc_in hl (okA_F ⟨⟨hn.1, by omega⟩, Or.inr ⟨by omega, rfl⟩⟩), ho.2⟩, Nat.le_refl _⟩
theorem sFault_ok {L : List Int} {s s' : hP} (ho : okP L s) (h : sFault L s = .inr s') : okP L s' ∧ tN L s.2.2 ≤ s'.2.2 := by
  unfold sFault at h
  split at h
  · cases h
  · next kd hkd =>
    split at h
    · next hl =>
      split at h
      · cases h
      · next nm hn =>
        split at h
        · obtain ⟨h1, h2, _⟩ := sNum_v hn
          obtain ⟨a, b⟩ := sAmt_ok (s := (s.1, s.2.1, tN L (tN L s.2.2))) ⟨ho.1, tN_le (tN_le ho.2)⟩ (kindOf_in hkd) ⟨h1, h2⟩ hl h
          exact ⟨a, Nat.le_trans tN_ge b⟩
        · cases h
    · cases h
theorem eB_r {e : hE} {f : hP → hE} {s' : hP} (h : eB e f = .inr s') : ∃ s, e = .inr s ∧ f s = .inr s' := by
  cases e with
  | inl x => cases h
  | inr s => exact ⟨s, rfl, h⟩
theorem sStmt_ok {L : List Int} {s s' : hP} (ho : okP L s) (hK : tK L s.2.2 ≠ 0) (h : sStmt L s = .inr s') : okP L s' ∧ s.2.2 < s'.2.2 := by
  have hgt := tN_gt hK
  unfold sStmt at h
  split at h
  · next k hk =>
    have hw := setOf_in hk
    have hk7 : 0 ≤ (k : Int) ∧ (k : Int) ≤ 7 := by unfold wK at hw; omega
    split at h
    · cases h
    · obtain ⟨s1, e1, h⟩ := eB_r h
      obtain ⟨o1, p1, _⟩ := sSet_ok (s := (s.1, fun j => if j = k then true else s.2.1 j, tN L s.2.2)) ⟨ho.1, tN_le ho.2⟩ hk7 e1
      have g1 : tN L s.2.2 ≤ s1.2.2 := by rw [p1]; exact tN_ge
      split at h
      · obtain ⟨s2, e2, h⟩ := eB_r h
        obtain ⟨o2, p2, _⟩ := sSet_ok o1 (by omega) e2
        have g2 : s1.2.2 ≤ s2.2.2 := by rw [p2]; exact tN_ge
        obtain ⟨o3, p3, _⟩ := sSemi_ok o2 h
        have g3 : s2.2.2 ≤ s'.2.2 := by rw [p3]; exact tN_ge
        exact ⟨o3, by omega⟩
      · obtain ⟨o3, p3, _⟩ := sSemi_ok o1 h
        have g3 : s1.2.2 ≤ s'.2.2 := by rw [p3]; exact tN_ge
        exact ⟨o3, by omega⟩
  · obtain ⟨s1, e1, h⟩ := eB_r h
    obtain ⟨o1, g1⟩ := sFault_ok ho e1
    obtain ⟨o3, p3, _⟩ := sSemi_ok o1 h
    have g3 : s1.2.2 ≤ s'.2.2 := by rw [p3]; exact tN_ge
    exact ⟨o3, by omega⟩
/-- words -/
def opI (o : Option Int) : Int := match o with
  | none => -1
  | some v => v
def opN (o : Option Nat) : Int := match o with
  | none => -1
  | some v => v
theorem X3_pw {z p : Nat} {L : List Int} {M : hM} (hT : TX M L) (hp' : p ≤ L.length) (h : CT M L p) : m_X3_protocolOfWord (hp S z M) (z + 37) = some (jI (opI (prot L p)), hp S z M) := by
  have w1 := X3_wd (S := S) (z := z) (i := 1) hT (by omega) hp' h
  have w2 := X3_wd (S := S) (z := z) (i := 2) hT (by omega) hp' h
  have w3 := X3_wd (S := S) (z := z) (i := 3) hT (by omega) hp' h
  unfold m_X3_protocolOfWord prot
  simp (disch := omega) only [ji1, ji2, ji3, ji4, ji5, ji6, ji7, ji8, ji9, ji10, ji11, ji12, ji13, ji14, ji15, ji16, ji19, ji20, ji24, ji31, ji32, ji39, ji45, ji48, ji57, ji58, ji59, ji60, ji97, ji100, ji119, ji120, ji122, ji144, ji200, ji226, ji240, ji255, ji300, ji366, ji400, ji500, ji1000, jI_z, ↓jI_m1, jI_add, jI_sub, jI_mul, ↓hg37_0, ↓hg37_1, hw37_1, ↓hg37_2, hw37_2, ↓hg37_3, hw37_3, ↓hg37_4, hw37_4, ↓hg37_5, hw37_5, ↓hg37_6, hw37_6, ↓hg37_7, hw37_7, ↓hg37_8, hw37_8, ↓hg37_9, ↓hv37, ↓hx37, ha38, hu38, ↓hl38, w1, w2, w3, ↓mo_ns_r, ↓hn0, ↓mo_cs_s, ↓mo_xs_r, ↓mo_xs_l, ↓mo_nl_s, mo_z_0, mo_z_1, b2i_0]
  cases wdB L p 1 <;> cases wdB L p 2 <;> cases wdB L p 3 <;> rfl
theorem X3_kw {z p : Nat} {L : List Int} {M : hM} (hT : TX M L) (hp' : p ≤ L.length) (h : CT M L p) : m_X3_kindOfWord (hp S z M) (z + 37) = some (jI (opI (kindOf L p)), hp S z M) := by
  have w1 := X3_wd (S := S) (z := z) (i := 8) hT (by omega) hp' h
  have w2 := X3_wd (S := S) (z := z) (i := 9) hT (by omega) hp' h
  have w3 := X3_wd (S := S) (z := z) (i := 10) hT (by omega) hp' h
  unfold m_X3_kindOfWord kindOf
  simp (disch := omega) only [ji1, ji2, ji3, ji4, ji5, ji6, ji7, ji8, ji9, ji10, ji11, ji12, ji13, ji14, ji15, ji16, ji19, ji20, ji24, ji31, ji32, ji39, ji45, ji48, ji57, ji58, ji59, ji60, ji97, ji100, ji119, ji120, ji122, ji144, ji200, ji226, ji240, ji255, ji300, ji366, ji400, ji500, ji1000, jI_z, ↓jI_m1, jI_add, jI_sub, jI_mul, ↓hg37_0, ↓hg37_1, hw37_1, ↓hg37_2, hw37_2, ↓hg37_3, hw37_3, ↓hg37_4, hw37_4, ↓hg37_5, hw37_5, ↓hg37_6, hw37_6, ↓hg37_7, hw37_7, ↓hg37_8, hw37_8, ↓hg37_9, ↓hv37, ↓hx37, ha38, hu38, ↓hl38, w1, w2, w3, ↓mo_ns_r, ↓hn0, ↓mo_cs_s, ↓mo_xs_r, ↓mo_xs_l, ↓mo_nl_s, mo_z_0, mo_z_1, b2i_0]
  cases wdB L p 8 <;> cases wdB L p 9 <;> cases wdB L p 10 <;> rfl
theorem X3_sw {z p : Nat} {L : List Int} {M : hM} (hT : TX M L) (hp' : p ≤ L.length) (h : CT M L p) : m_X3_settingOfWord (hp S z M) (z + 37) = some (jI (opN (setOf L p)), hp S z M) := by
  have w1 := X3_wd (S := S) (z := z) (i := 4) hT (by omega) hp' h
  have w2 := X3_wd (S := S) (z := z) (i := 5) hT (by omega) hp' h
  have w3 := X3_wd (S := S) (z := z) (i := 6) hT (by omega) hp' h
  have w4 := X3_wd (S := S) (z := z) (i := 7) hT (by omega) hp' h
  unfold m_X3_settingOfWord setOf
  simp (disch := omega) only [ji1, ji2, ji3, ji4, ji5, ji6, ji7, ji8, ji9, ji10, ji11, ji12, ji13, ji14, ji15, ji16, ji19, ji20, ji24, ji31, ji32, ji39, ji45, ji48, ji57, ji58, ji59, ji60, ji97, ji100, ji119, ji120, ji122, ji144, ji200, ji226, ji240, ji255, ji300, ji366, ji400, ji500, ji1000, jI_z, ↓jI_m1, jI_add, jI_sub, jI_mul, ↓hg37_0, ↓hg37_1, hw37_1, ↓hg37_2, hw37_2, ↓hg37_3, hw37_3, ↓hg37_4, hw37_4, ↓hg37_5, hw37_5, ↓hg37_6, hw37_6, ↓hg37_7, hw37_7, ↓hg37_8, hw37_8, ↓hg37_9, ↓hv37, ↓hx37, ha38, hu38, ↓hl38, w1, w2, w3, w4, ↓mo_ns_r, ↓hn0, ↓mo_cs_s, ↓mo_xs_r, ↓mo_xs_l, ↓mo_nl_s, mo_z_0, mo_z_1, b2i_0]
  cases wdB L p 4 <;> cases wdB L p 5 <;> cases wdB L p 6 <;> cases wdB L p 7 <;> rfl
/-- at a token -/
def PT (M : hM) (L : List Int) (s : hP) : Prop := PC0 M s ∧ CT M L s.2.2
theorem CT.w {M M' : hM} {L : List Int} {p : Nat} (h : CT M L p) (e : ∀ k, k = 3 ∨ k = 4 ∨ k = 5 → gI M' 37 k = gI M 37 k) : CT M' L p := ⟨(e 3 (by omega)).trans h.1, (e 4 (by omega)).trans h.2.1, (e 5 (by omega)).trans h.2.2⟩
/-- a fault comes into the class's bench -/
theorem X3_ins {z : Nat} {M : hM} {s : hP} {kd nm am : Int} (h : PC M s) (hc : okC s.1) (hl : s.1.2.length < 10) (hk : okW kd) (hn : okW nm) :
    ∃ M' v, m_X0_insert (hp S z M) (z + 39) (jI kd) (jI nm) (jI am) = some (v, hp S z M') ∧ PC M' (cI s.1 kd nm am, s.2.1, s.2.2) ∧ FX M M' := by
  obtain ⟨M1, r1, r2, r3, r4⟩ := X0_ins (S := S) (z := z) (b := 39) (am := am) rfl h.1.1 hc hl hk hn
  have hr3 : Fr 39 44 M M1 := r3
  have g37 : ∀ j, gI M1 37 j = gI M 37 j := fun j => (hr3 37 (by omega)).1 j
  obtain ⟨n, w1, w2⟩ := h.1.2.1
  exact ⟨M1, _, r1, ⟨⟨r2, ⟨n, by rw [g37]; exact w1, w2⟩, by rw [g37]; exact h.1.2.2.1, by rw [g37]; exact h.1.2.2.2⟩, by rw [g37]; exact h.2⟩, FX_of hr3 r4⟩
theorem X3_fault {z : Nat} {L : List Int} {M : hM} {s : hP} (hT : TX M L) (ho : okP L s) (h : PT M L s) : RX S z M (m_X3_readFault (hp S z M) (z + 37)) (sFault L s) := by
  have kw := X3_kw (S := S) (z := z) hT ho.2 h.2
  have e8 := h.1.1.2.1
  have hl10 := ho.1.1
  unfold sFault
  revert kw
  cases hkd : kindOf L s.2.2 with
  | none =>
    intro kw
    obtain ⟨M2, s1, s2, s3⟩ := X3_fl (S := S) (z := z) (c := 1) h.2.1
    refine ⟨M2, ?_, s2, s3⟩
    unfold m_X3_readFault
    simp (disch := omega) only [ji1, ji2, ji3, ji4, ji5, ji6, ji7, ji8, ji9, ji10, ji11, ji12, ji13, ji14, ji15, ji16, ji19, ji20, ji24, ji31, ji32, ji39, ji45, ji48, ji57, ji58, ji59, ji60, ji97, ji100, ji119, ji120, ji122, ji144, ji200, ji226, ji240, ji255, ji300, ji366, ji400, ji500, ji1000, jI_z, ↓jI_m1, jI_add, jI_sub, jI_mul, ↓hg37_0, ↓hg37_1, hw37_1, ↓hg37_2, hw37_2, ↓hg37_3, hw37_3, ↓hg37_4, hw37_4, ↓hg37_5, hw37_5, ↓hg37_6, hw37_6, ↓hg37_7, hw37_7, ↓hg37_8, hw37_8, ↓hg37_9, ↓hv37, ↓hx37, ha38, hu38, ↓hl38]
    rw [kw]
    simp (disch := omega) only [↓mo_ns_r, ↓hn0, ↓mo_cs_s, ↓mo_xs_r, ↓mo_xs_l, ↓mo_nl_s, mo_z_0, mo_z_1, opI, if_true, ↓hg37_0, ↓hg37_1, hw37_1, ↓hg37_2, hw37_2, ↓hg37_3, hw37_3, ↓hg37_4, hw37_4, ↓hg37_5, hw37_5, ↓hg37_6, hw37_6, ↓hg37_7, hw37_7, ↓hg37_8, hw37_8, ↓hg37_9, ↓hv37, ↓hx37, ha38, hu38, ↓hl38]
    rw [s1]
    simp (disch := omega) only [↓mo_ns_r, ↓hn0, ↓mo_cs_s, ↓mo_xs_r, ↓mo_xs_l, ↓mo_nl_s, mo_z_0, mo_z_1]
  | some kd =>
    intro kw
    have hk := kindOf_in hkd
    simp only
    by_cases g10 : s.1.2.length < 10
    · rw [if_pos g10]
      have g10' : (s.1.2.length : Int) < 10 := by omega
      have hpN : tN L s.2.2 ≤ L.length := tN_le ho.2
      have pre : ∀ r, (mo_cs (m_X3_readNumber (hp S z M) (z + 37) (jI 0) (jI 119)) fun x7 σ6 => if x7 = jI (-1) then some (jI 0, σ6) else mo_gr σ6 (z + 37) 3 9 fun x8 => mo_cv σ6 x8 0 (m_X0_findFault σ6 x8 (jI kd) x7) fun x10 σ9 => if x10 = jI (-1) then (if kd = 2 then mo_cv σ9 (z + 37) 3 (m_X3_readNumber σ9 (z + 37) (jI 1) (jI 20)) fun x12 σ11 => m_X3_readFault_j84 (z + 37) σ11 (jI kd) x7 x12 else m_X3_readFault_j84 (z + 37) σ9 (jI kd) x7 (jI 0)) else mo_cv σ9 (z + 37) 3 (m_X3_fail σ9 (z + 37) (jI 2)) fun x14 σ13 => mo_z x14 (some (x14, σ13))) = r → m_X3_readFault (hp S z M) (z + 37) = r := by
        intro r hr
        rw [← hr]
        unfold m_X3_readFault
        simp (disch := omega) only [ji1, ji2, ji3, ji4, ji5, ji6, ji7, ji8, ji9, ji10, ji11, ji12, ji13, ji14, ji15, ji16, ji19, ji20, ji24, ji31, ji32, ji39, ji45, ji48, ji57, ji58, ji59, ji60, ji97, ji100, ji119, ji120, ji122, ji144, ji200, ji226, ji240, ji255, ji300, ji366, ji400, ji500, ji1000, jI_z, ↓jI_m1, jI_add, jI_sub, jI_mul, ↓hg37_0, ↓hg37_1, hw37_1, ↓hg37_2, hw37_2, ↓hg37_3, hw37_3, ↓hg37_4, hw37_4, ↓hg37_5, hw37_5, ↓hg37_6, hw37_6, ↓hg37_7, hw37_7, ↓hg37_8, hw37_8, ↓hg37_9, ↓hv37, ↓hx37, ha38, hu38, ↓hl38]
        rw [kw]
        simp (disch := omega) only [↓mo_ns_r, ↓hn0, ↓mo_cs_s, ↓mo_xs_r, ↓mo_xs_l, ↓mo_nl_s, mo_z_0, mo_z_1, opI, jI_eq, show ¬ kd = -1 by omega, if_false, ↓hg37_0, ↓hg37_1, hw37_1, ↓hg37_2, hw37_2, ↓hg37_3, hw37_3, ↓hg37_4, hw37_4, ↓hg37_5, hw37_5, ↓hg37_6, hw37_6, ↓hg37_7, hw37_7, ↓hg37_8, hw37_8, ↓hg37_9, ↓hv37, ↓hx37, ha38, hu38, ↓hl38, ↓Bv (b := 39) rfl]
        rw [X0_count (b := 39) rfl]
        simp (disch := omega) only [↓mo_ns_r, ↓hn0, ↓mo_cs_s, ↓mo_xs_r, ↓mo_xs_l, ↓mo_nl_s, mo_z_0, mo_z_1, e8, jI_lt, g10', if_true, ↓hg37_0, ↓hg37_1, hw37_1, ↓hg37_2, hw37_2, ↓hg37_3, hw37_3, ↓hg37_4, hw37_4, ↓hg37_5, hw37_5, ↓hg37_6, hw37_6, ↓hg37_7, hw37_7, ↓hg37_8, hw37_8, ↓hg37_9, ↓hv37, ↓hx37, ha38, hu38, ↓hl38]
      rcases X3_num (S := S) (z := z) (lo := 0) (hi := 119) hT hpN h.2.2.1 (by omega) (by omega) with ⟨e, M1, r1, r2, r3, r4⟩ | ⟨nm, M1, r1, r2, r3, r4, r5, r6⟩
      · rw [r1]
        refine ⟨M1, pre _ ?_, r3, r4⟩
        rw [r2]
        simp (disch := omega) only [↓mo_ns_r, ↓hn0, ↓mo_cs_s, ↓mo_xs_r, ↓mo_xs_l, ↓mo_nl_s, mo_z_0, mo_z_1, if_true]
      · rw [r1]
        have h1 := h.1.v r6
        have hf := X0_find (S := S) (z := z) (b := 39) (kd := kd) (nm := nm) rfl h1.1 ho.1 (okW_n (by omega) (by omega)) (okW_n (by omega) (by omega))
        have hfi := fnd_in (kd := kd) (nm := nm) hl10
        have ho1 : okP L (s.1, s.2.1, tN L (tN L s.2.2)) := ⟨ho.1, tN_le hpN⟩
        have hP1 : PC M1 (s.1, s.2.1, tN L (tN L s.2.2)) := ⟨h1, r5.2.1⟩
        simp only
        by_cases gf : fnd kd nm s.1.2 0 = -1
        · rw [if_pos gf]
          unfold sAmt
          by_cases e2 : kd = 2
          · rw [if_pos e2]
            rcases X3_num (S := S) (z := z) (lo := 1) (hi := 20) (hT.v r6) ho1.2 r5.2.1 (by omega) (by omega) with ⟨e, M2, q1, q2, q3, q4⟩ | ⟨am, M2, q1, q2, q3, q4, q5, q6⟩
            · rw [q1]
              refine ⟨M2, pre _ ?_, q3, r6.x.trans q4⟩
              rw [r4]
              simp (disch := omega) only [↓mo_ns_r, ↓hn0, ↓mo_cs_s, ↓mo_xs_r, ↓mo_xs_l, ↓mo_nl_s, mo_z_0, mo_z_1, jI_eq, show ¬ nm = -1 by omega, if_false, ↓hg37_0, ↓hg37_1, hw37_1, ↓hg37_2, hw37_2, ↓hg37_3, hw37_3, ↓hg37_4, hw37_4, ↓hg37_5, hw37_5, ↓hg37_6, hw37_6, ↓hg37_7, hw37_7, ↓hg37_8, hw37_8, ↓hg37_9, ↓hv37, ↓hx37, ha38, hu38, ↓hl38, ↓Bv (b := 39) rfl]
              rw [hf]
              simp (disch := omega) only [↓mo_ns_r, ↓hn0, ↓mo_cs_s, ↓mo_xs_r, ↓mo_xs_l, ↓mo_nl_s, mo_z_0, mo_z_1, jI_eq, gf, if_true, ↓hg37_0, ↓hg37_1, hw37_1, ↓hg37_2, hw37_2, ↓hg37_3, hw37_3, ↓hg37_4, hw37_4, ↓hg37_5, hw37_5, ↓hg37_6, hw37_6, ↓hg37_7, hw37_7, ↓hg37_8, hw37_8, ↓hg37_9, ↓hv37, ↓hx37, ha38, hu38, ↓hl38]
              rw [if_pos e2]
              rw [q2]
              unfold m_X3_readFault_j84
              simp (disch := omega) only [↓mo_ns_r, ↓hn0, ↓mo_cs_s, ↓mo_xs_r, ↓mo_xs_l, ↓mo_nl_s, mo_z_0, mo_z_1, ji1, ji2, ji3, ji4, ji5, ji6, ji7, ji8, ji9, ji10, ji11, ji12, ji13, ji14, ji15, ji16, ji19, ji20, ji24, ji31, ji32, ji39, ji45, ji48, ji57, ji58, ji59, ji60, ji97, ji100, ji119, ji120, ji122, ji144, ji200, ji226, ji240, ji255, ji300, ji366, ji400, ji500, ji1000, jI_z, ↓jI_m1, jI_add, jI_sub, jI_mul, if_true]
            · rw [q1]
              have hP2 : PC M2 (s.1, s.2.1, tN L (tN L (tN L s.2.2))) := ⟨h1.v q6, q5.2.1⟩
              obtain ⟨M3, v, t1, t2, t3⟩ := X3_ins (S := S) (z := z) (kd := kd) (nm := nm) (am := am) hP2 ho.1 g10 (okW_n (by omega) (by omega)) (okW_n (by omega) (by omega))
              refine ⟨M3, pre _ ?_, t2, (r6.x.trans q6.x).trans t3⟩
              rw [r4]
              simp (disch := omega) only [↓mo_ns_r, ↓hn0, ↓mo_cs_s, ↓mo_xs_r, ↓mo_xs_l, ↓mo_nl_s, mo_z_0, mo_z_1, jI_eq, show ¬ nm = -1 by omega, if_false, ↓hg37_0, ↓hg37_1, hw37_1, ↓hg37_2, hw37_2, ↓hg37_3, hw37_3, ↓hg37_4, hw37_4, ↓hg37_5, hw37_5, ↓hg37_6, hw37_6, ↓hg37_7, hw37_7, ↓hg37_8, hw37_8, ↓hg37_9, ↓hv37, ↓hx37, ha38, hu38, ↓hl38, ↓Bv (b := 39) rfl]
              rw [hf]
              simp (disch := omega) only [↓mo_ns_r, ↓hn0, ↓mo_cs_s, ↓mo_xs_r, ↓mo_xs_l, ↓mo_nl_s, mo_z_0, mo_z_1, jI_eq, gf, if_true, ↓hg37_0, ↓hg37_1, hw37_1, ↓hg37_2, hw37_2, ↓hg37_3, hw37_3, ↓hg37_4, hw37_4, ↓hg37_5, hw37_5, ↓hg37_6, hw37_6, ↓hg37_7, hw37_7, ↓hg37_8, hw37_8, ↓hg37_9, ↓hv37, ↓hx37, ha38, hu38, ↓hl38]
              rw [if_pos e2]
              rw [q4]
              unfold m_X3_readFault_j84
              simp (disch := omega) only [↓mo_ns_r, ↓hn0, ↓mo_cs_s, ↓mo_xs_r, ↓mo_xs_l, ↓mo_nl_s, mo_z_0, mo_z_1, ji1, ji2, ji3, ji4, ji5, ji6, ji7, ji8, ji9, ji10, ji11, ji12, ji13, ji14, ji15, ji16, ji19, ji20, ji24, ji31, ji32, ji39, ji45, ji48, ji57, ji58, ji59, ji60, ji97, ji100, ji119, ji120, ji122, ji144, ji200, ji226, ji240, ji255, ji300, ji366, ji400, ji500, ji1000, jI_z, ↓jI_m1, jI_add, jI_sub, jI_mul, jI_eq, show ¬ am = -1 by omega, if_false, ↓hg37_0, ↓hg37_1, hw37_1, ↓hg37_2, hw37_2, ↓hg37_3, hw37_3, ↓hg37_4, hw37_4, ↓hg37_5, hw37_5, ↓hg37_6, hw37_6, ↓hg37_7, hw37_7, ↓hg37_8, hw37_8, ↓hg37_9, ↓hv37, ↓hx37, ha38, hu38, ↓hl38, ↓Bv (b := 39) rfl]
              rw [t1]
              simp (disch := omega) only [↓mo_ns_r, ↓hn0, ↓mo_cs_s, ↓mo_xs_r, ↓mo_xs_l, ↓mo_nl_s, mo_z_0, mo_z_1]
          · rw [if_neg e2]
            obtain ⟨M3, v, t1, t2, t3⟩ := X3_ins (S := S) (z := z) (kd := kd) (nm := nm) (am := 0) hP1 ho.1 g10 (okW_n (by omega) (by omega)) (okW_n (by omega) (by omega))
            refine ⟨M3, pre _ ?_, t2, r6.x.trans t3⟩
            rw [r4]
            simp (disch := omega) only [↓mo_ns_r, ↓hn0, ↓mo_cs_s, ↓mo_xs_r, ↓mo_xs_l, ↓mo_nl_s, mo_z_0, mo_z_1, jI_eq, show ¬ nm = -1 by omega, if_false, ↓hg37_0, ↓hg37_1, hw37_1, ↓hg37_2, hw37_2, ↓hg37_3, hw37_3, ↓hg37_4, hw37_4, ↓hg37_5, hw37_5, ↓hg37_6, hw37_6, ↓hg37_7, hw37_7, ↓hg37_8, hw37_8, ↓hg37_9, ↓hv37, ↓hx37, ha38, hu38, ↓hl38, ↓Bv (b := 39) rfl]
            rw [hf]
            simp (disch := omega) only [↓mo_ns_r, ↓hn0, ↓mo_cs_s, ↓mo_xs_r, ↓mo_xs_l, ↓mo_nl_s, mo_z_0, mo_z_1, jI_eq, gf, if_true, e2, if_false]
            unfold m_X3_readFault_j84
            simp (disch := omega) only [↓mo_ns_r, ↓hn0, ↓mo_cs_s, ↓mo_xs_r, ↓mo_xs_l, ↓mo_nl_s, mo_z_0, mo_z_1, ji1, ji2, ji3, ji4, ji5, ji6, ji7, ji8, ji9, ji10, ji11, ji12, ji13, ji14, ji15, ji16, ji19, ji20, ji24, ji31, ji32, ji39, ji45, ji48, ji57, ji58, ji59, ji60, ji97, ji100, ji119, ji120, ji122, ji144, ji200, ji226, ji240, ji255, ji300, ji366, ji400, ji500, ji1000, jI_z, ↓jI_m1, jI_add, jI_sub, jI_mul, jI_eq, show ¬ (0 : Int) = -1 by omega, if_false, ↓hg37_0, ↓hg37_1, hw37_1, ↓hg37_2, hw37_2, ↓hg37_3, hw37_3, ↓hg37_4, hw37_4, ↓hg37_5, hw37_5, ↓hg37_6, hw37_6, ↓hg37_7, hw37_7, ↓hg37_8, hw37_8, ↓hg37_9, ↓hv37, ↓hx37, ha38, hu38, ↓hl38, ↓Bv (b := 39) rfl]
            rw [t1]
            simp (disch := omega) only [↓mo_ns_r, ↓hn0, ↓mo_cs_s, ↓mo_xs_r, ↓mo_xs_l, ↓mo_nl_s, mo_z_0, mo_z_1]
        · rw [if_neg gf]
          obtain ⟨M2, s1, s2, s3⟩ := X3_fl (S := S) (z := z) (c := 2) r5.1
          refine ⟨M2, pre _ ?_, s2, r6.x.trans s3⟩
          rw [r4]
          simp (disch := omega) only [↓mo_ns_r, ↓hn0, ↓mo_cs_s, ↓mo_xs_r, ↓mo_xs_l, ↓mo_nl_s, mo_z_0, mo_z_1, jI_eq, show ¬ nm = -1 by omega, if_false, ↓hg37_0, ↓hg37_1, hw37_1, ↓hg37_2, hw37_2, ↓hg37_3, hw37_3, ↓hg37_4, hw37_4, ↓hg37_5, hw37_5, ↓hg37_6, hw37_6, ↓hg37_7, hw37_7, ↓hg37_8, hw37_8, ↓hg37_9, ↓hv37, ↓hx37, ha38, hu38, ↓hl38, ↓Bv (b := 39) rfl]
          rw [hf]
          simp (disch := omega) only [↓mo_ns_r, ↓hn0, ↓mo_cs_s, ↓mo_xs_r, ↓mo_xs_l, ↓mo_nl_s, mo_z_0, mo_z_1, jI_eq, gf, if_false, ↓hg37_0, ↓hg37_1, hw37_1, ↓hg37_2, hw37_2, ↓hg37_3, hw37_3, ↓hg37_4, hw37_4, ↓hg37_5, hw37_5, ↓hg37_6, hw37_6, ↓hg37_7, hw37_7, ↓hg37_8, hw37_8, ↓hg37_9, ↓hv37, ↓hx37, ha38, hu38, ↓hl38]
          rw [s1]
          simp (disch := omega) only [↓mo_ns_r, ↓hn0, ↓mo_cs_s, ↓mo_xs_r, ↓mo_xs_l, ↓mo_nl_s, mo_z_0, mo_z_1]
    · rw [if_neg g10]
      have g10' : ¬ (s.1.2.length : Int) < 10 := by omega
      obtain ⟨M2, s1, s2, s3⟩ := X3_fl (S := S) (z := z) (c := 4) h.2.1
      refine ⟨M2, ?_, s2, s3⟩
      unfold m_X3_readFault
      simp (disch := omega) only [ji1, ji2, ji3, ji4, ji5, ji6, ji7, ji8, ji9, ji10, ji11, ji12, ji13, ji14, ji15, ji16, ji19, ji20, ji24, ji31, ji32, ji39, ji45, ji48, ji57, ji58, ji59, ji60, ji97, ji100, ji119, ji120, ji122, ji144, ji200, ji226, ji240, ji255, ji300, ji366, ji400, ji500, ji1000, jI_z, ↓jI_m1, jI_add, jI_sub, jI_mul, ↓hg37_0, ↓hg37_1, hw37_1, ↓hg37_2, hw37_2, ↓hg37_3, hw37_3, ↓hg37_4, hw37_4, ↓hg37_5, hw37_5, ↓hg37_6, hw37_6, ↓hg37_7, hw37_7, ↓hg37_8, hw37_8, ↓hg37_9, ↓hv37, ↓hx37, ha38, hu38, ↓hl38]
      rw [kw]
      simp (disch := omega) only [↓mo_ns_r, ↓hn0, ↓mo_cs_s, ↓mo_xs_r, ↓mo_xs_l, ↓mo_nl_s, mo_z_0, mo_z_1, opI, jI_eq, show ¬ kd = -1 by omega, if_false, ↓hg37_0, ↓hg37_1, hw37_1, ↓hg37_2, hw37_2, ↓hg37_3, hw37_3, ↓hg37_4, hw37_4, ↓hg37_5, hw37_5, ↓hg37_6, hw37_6, ↓hg37_7, hw37_7, ↓hg37_8, hw37_8, ↓hg37_9, ↓hv37, ↓hx37, ha38, hu38, ↓hl38, ↓Bv (b := 39) rfl]
      rw [X0_count (b := 39) rfl]
      simp (disch := omega) only [↓mo_ns_r, ↓hn0, ↓mo_cs_s, ↓mo_xs_r, ↓mo_xs_l, ↓mo_nl_s, mo_z_0, mo_z_1, e8, jI_lt, g10', if_false, ↓hg37_0, ↓hg37_1, hw37_1, ↓hg37_2, hw37_2, ↓hg37_3, hw37_3, ↓hg37_4, hw37_4, ↓hg37_5, hw37_5, ↓hg37_6, hw37_6, ↓hg37_7, hw37_7, ↓hg37_8, hw37_8, ↓hg37_9, ↓hv37, ↓hx37, ha38, hu38, ↓hl38]
      rw [s1]
      simp (disch := omega) only [↓mo_ns_r, ↓hn0, ↓mo_cs_s, ↓mo_xs_r, ↓mo_xs_l, ↓mo_nl_s, mo_z_0, mo_z_1]
theorem X3_stmt {z : Nat} {L : List Int} {M : hM} {s : hP} (hT : TX M L) (ho : okP L s) (h : PT M L s) : RX S z M (m_X3_readStatement (hp S z M) (z + 37)) (sStmt L s) := by
  have sw := X3_sw (S := S) (z := z) hT ho.2 h.2
  unfold sStmt
  revert sw
  cases hso : setOf L s.2.2 with
  | none =>
    intro sw
    have hf := X3_fault (S := S) (z := z) hT ho h
    simp only
    cases hsf : sFault L s with
    | inl e =>
      rw [hsf] at hf
      obtain ⟨M1, r1, r2, r3⟩ := hf
      refine ⟨M1, ?_, r2, r3⟩
      unfold m_X3_readStatement
      simp (disch := omega) only [ji1, ji2, ji3, ji4, ji5, ji6, ji7, ji8, ji9, ji10, ji11, ji12, ji13, ji14, ji15, ji16, ji19, ji20, ji24, ji31, ji32, ji39, ji45, ji48, ji57, ji58, ji59, ji60, ji97, ji100, ji119, ji120, ji122, ji144, ji200, ji226, ji240, ji255, ji300, ji366, ji400, ji500, ji1000, jI_z, ↓jI_m1, jI_add, jI_sub, jI_mul, ↓hg37_0, ↓hg37_1, hw37_1, ↓hg37_2, hw37_2, ↓hg37_3, hw37_3, ↓hg37_4, hw37_4, ↓hg37_5, hw37_5, ↓hg37_6, hw37_6, ↓hg37_7, hw37_7, ↓hg37_8, hw37_8, ↓hg37_9, ↓hv37, ↓hx37, ha38, hu38, ↓hl38]
      rw [sw]
      simp (disch := omega) only [↓mo_ns_r, ↓hn0, ↓mo_cs_s, ↓mo_xs_r, ↓mo_xs_l, ↓mo_nl_s, mo_z_0, mo_z_1, opN, if_true, ↓hg37_0, ↓hg37_1, hw37_1, ↓hg37_2, hw37_2, ↓hg37_3, hw37_3, ↓hg37_4, hw37_4, ↓hg37_5, hw37_5, ↓hg37_6, hw37_6, ↓hg37_7, hw37_7, ↓hg37_8, hw37_8, ↓hg37_9, ↓hv37, ↓hx37, ha38, hu38, ↓hl38]
      rw [r1]
      simp (disch := omega) only [↓mo_ns_r, ↓hn0, ↓mo_cs_s, ↓mo_xs_r, ↓mo_xs_l, ↓mo_nl_s, mo_z_0, mo_z_1, if_true]
    | inr s1 =>
      rw [hsf] at hf
      obtain ⟨M1, r1, r2, r3⟩ := hf
      have o1 := (sFault_ok ho hsf).1
      have hm := X3_semi (S := S) (z := z) (hT.x r3) o1 r2
      have fin : ∀ (b : Int) (M2 : hM), (b = 0 ∨ b = 1) → m_X3_readSemicolon (hp S z M1) (z + 37) = some (jI b, hp S z M2) → m_X3_readStatement (hp S z M) (z + 37) = some (jI b, hp S z M2) := by
        intro b M2 hb hr
        unfold m_X3_readStatement
        simp (disch := omega) only [ji1, ji2, ji3, ji4, ji5, ji6, ji7, ji8, ji9, ji10, ji11, ji12, ji13, ji14, ji15, ji16, ji19, ji20, ji24, ji31, ji32, ji39, ji45, ji48, ji57, ji58, ji59, ji60, ji97, ji100, ji119, ji120, ji122, ji144, ji200, ji226, ji240, ji255, ji300, ji366, ji400, ji500, ji1000, jI_z, ↓jI_m1, jI_add, jI_sub, jI_mul, ↓hg37_0, ↓hg37_1, hw37_1, ↓hg37_2, hw37_2, ↓hg37_3, hw37_3, ↓hg37_4, hw37_4, ↓hg37_5, hw37_5, ↓hg37_6, hw37_6, ↓hg37_7, hw37_7, ↓hg37_8, hw37_8, ↓hg37_9, ↓hv37, ↓hx37, ha38, hu38, ↓hl38]
        rw [sw]
        simp (disch := omega) only [↓mo_ns_r, ↓hn0, ↓mo_cs_s, ↓mo_xs_r, ↓mo_xs_l, ↓mo_nl_s, mo_z_0, mo_z_1, opN, if_true, ↓hg37_0, ↓hg37_1, hw37_1, ↓hg37_2, hw37_2, ↓hg37_3, hw37_3, ↓hg37_4, hw37_4, ↓hg37_5, hw37_5, ↓hg37_6, hw37_6, ↓hg37_7, hw37_7, ↓hg37_8, hw37_8, ↓hg37_9, ↓hv37, ↓hx37, ha38, hu38, ↓hl38]
        rw [r1]
        simp (disch := omega) only [↓mo_ns_r, ↓hn0, ↓mo_cs_s, ↓mo_xs_r, ↓mo_xs_l, ↓mo_nl_s, mo_z_0, mo_z_1, j10, if_false, ↓hg37_0, ↓hg37_1, hw37_1, ↓hg37_2, hw37_2, ↓hg37_3, hw37_3, ↓hg37_4, hw37_4, ↓hg37_5, hw37_5, ↓hg37_6, hw37_6, ↓hg37_7, hw37_7, ↓hg37_8, hw37_8, ↓hg37_9, ↓hv37, ↓hx37, ha38, hu38, ↓hl38]
        rw [hr]
        rcases hb with rfl | rfl
        · simp (disch := omega) only [↓mo_ns_r, ↓hn0, ↓mo_cs_s, ↓mo_xs_r, ↓mo_xs_l, ↓mo_nl_s, mo_z_0, mo_z_1, if_true]
        · simp (disch := omega) only [↓mo_ns_r, ↓hn0, ↓mo_cs_s, ↓mo_xs_r, ↓mo_xs_l, ↓mo_nl_s, mo_z_0, mo_z_1, j10, if_false]
      show RX S z M _ (sSemi L s1)
      cases hss : sSemi L s1 with
      | inl e =>
        rw [hss] at hm
        obtain ⟨M2, t1, t2, t3⟩ := hm
        exact ⟨M2, fin 0 M2 (Or.inl rfl) t1, t2, r3.trans t3⟩
      | inr s2 =>
        rw [hss] at hm
        obtain ⟨M2, t1, t2, t3⟩ := hm
        exact ⟨M2, fin 1 M2 (Or.inr rfl) t1, t2, r3.trans t3⟩
  | some k =>
    intro sw
    have hwk := setOf_in hso
    have hk7 : 0 ≤ (k : Int) ∧ (k : Int) ≤ 7 := by unfold wK at hwk; omega
    obtain ⟨n, w1, w2, w3⟩ := h.1.2.1
    have wb := w3 k hwk
    simp only
    by_cases gw : s.2.1 k = true
    · rw [if_pos gw]
      obtain ⟨M2, s1, s2, s3⟩ := X3_fl (S := S) (z := z) (c := 2) h.2.1
      refine ⟨M2, ?_, s2, s3⟩
      unfold m_X3_readStatement
      simp (disch := omega) only [ji1, ji2, ji3, ji4, ji5, ji6, ji7, ji8, ji9, ji10, ji11, ji12, ji13, ji14, ji15, ji16, ji19, ji20, ji24, ji31, ji32, ji39, ji45, ji48, ji57, ji58, ji59, ji60, ji97, ji100, ji119, ji120, ji122, ji144, ji200, ji226, ji240, ji255, ji300, ji366, ji400, ji500, ji1000, jI_z, ↓jI_m1, jI_add, jI_sub, jI_mul, ↓hg37_0, ↓hg37_1, hw37_1, ↓hg37_2, hw37_2, ↓hg37_3, hw37_3, ↓hg37_4, hw37_4, ↓hg37_5, hw37_5, ↓hg37_6, hw37_6, ↓hg37_7, hw37_7, ↓hg37_8, hw37_8, ↓hg37_9, ↓hv37, ↓hx37, ha38, hu38, ↓hl38]
      rw [sw]
      simp (disch := omega) only [↓mo_ns_r, ↓hn0, ↓mo_cs_s, ↓mo_xs_r, ↓mo_xs_l, ↓mo_nl_s, mo_z_0, mo_z_1, opN, jI_eq, show ¬ (k : Int) = -1 by omega, if_false, ↓hg37_0, ↓hg37_1, hw37_1, ↓hg37_2, hw37_2, ↓hg37_3, hw37_3, ↓hg37_4, hw37_4, ↓hg37_5, hw37_5, ↓hg37_6, hw37_6, ↓hg37_7, hw37_7, ↓hg37_8, hw37_8, ↓hg37_9, ↓hv37, ↓hx37, ha38, hu38, ↓hl38, w1, jT, Int.toNat_natCast, wb, gw, if_true, j10, i10]
      rw [s1]
      simp (disch := omega) only [↓mo_ns_r, ↓hn0, ↓mo_cs_s, ↓mo_xs_r, ↓mo_xs_l, ↓mo_nl_s, mo_z_0, mo_z_1]
    · rw [if_neg gw]
      have hpw := pow_7 (j := k) (by omega)
      have hor := or_b8 w2 (j := k) (by omega)
      have hTw := hT.x (FX_sI (k := 6) (v := (n ||| 2 ^ k : Nat)) (by omega))
      have hP1 : PC (sI M 37 6 (n ||| 2 ^ k : Nat)) (s.1, fun j => if j = k then true else s.2.1 j, tN L s.2.2) := by
        refine ⟨⟨h.1.1.cg (fun a g1 g2 => ⟨fun j => by rw [gI_sI, if_neg (by omega)], fun _ => rfl⟩), ⟨n ||| 2 ^ k, by rw [gI_sI, if_pos ⟨rfl, rfl⟩], hor, fun j hj => ?_⟩, by rw [gI_sI, if_neg (by omega)]; exact h.1.2.2.1, by rw [gI_sI, if_neg (by omega)]; exact h.1.2.2.2⟩, by rw [gI_sI, if_neg (by omega)]; exact h.2.2.1⟩
        rw [Nat.testBit_or, w3 j hj, Nat.testBit_two_pow]
        by_cases e : j = k
        · subst e; simp
        · have : ¬ k = j := fun h => e h.symm
          simp [e, this]
      have ho1 : okP L (s.1, fun j => if j = k then true else s.2.1 j, tN L s.2.2) := ⟨ho.1, tN_le ho.2⟩
      have hs := X3_set (S := S) (z := z) (k := k) hTw ho1 hP1 hk7
      have F1 : FX M (sI M 37 6 (n ||| 2 ^ k : Nat)) := FX_sI (by omega)
      have pre : ∀ r, (mo_cs (m_X3_readSetting (hp S z (sI M 37 6 (n ||| 2 ^ k : Nat))) (z + 37) (jI k)) fun x7 σ6 => if x7 = jI 0 then some (jI 0, σ6) else if (k : Int) = 5 then mo_cv σ6 (z + 37) 3 (m_X3_readSetting σ6 (z + 37) (jI 6)) fun x11 σ10 => if x11 = jI 0 then some (jI 0, σ10) else mo_cv σ10 (z + 37) 3 (m_X3_readSemicolon σ10 (z + 37)) fun x13 σ12 => mo_z x13 (some (x13, σ12)) else mo_cv σ6 (z + 37) 3 (m_X3_readSemicolon σ6 (z + 37)) fun x9 σ8 => mo_z x9 (some (x9, σ8))) = r → m_X3_readStatement (hp S z M) (z + 37) = r := by
        intro r hr
        rw [← hr]
        unfold m_X3_readStatement
        simp (disch := omega) only [ji1, ji2, ji3, ji4, ji5, ji6, ji7, ji8, ji9, ji10, ji11, ji12, ji13, ji14, ji15, ji16, ji19, ji20, ji24, ji31, ji32, ji39, ji45, ji48, ji57, ji58, ji59, ji60, ji97, ji100, ji119, ji120, ji122, ji144, ji200, ji226, ji240, ji255, ji300, ji366, ji400, ji500, ji1000, jI_z, ↓jI_m1, jI_add, jI_sub, jI_mul, ↓hg37_0, ↓hg37_1, hw37_1, ↓hg37_2, hw37_2, ↓hg37_3, hw37_3, ↓hg37_4, hw37_4, ↓hg37_5, hw37_5, ↓hg37_6, hw37_6, ↓hg37_7, hw37_7, ↓hg37_8, hw37_8, ↓hg37_9, ↓hv37, ↓hx37, ha38, hu38, ↓hl38]
        rw [sw]
        simp (disch := omega) only [↓mo_ns_r, ↓hn0, ↓mo_cs_s, ↓mo_xs_r, ↓mo_xs_l, ↓mo_nl_s, mo_z_0, mo_z_1, opN, jI_eq, show ¬ (k : Int) = -1 by omega, if_false, ↓hg37_0, ↓hg37_1, hw37_1, ↓hg37_2, hw37_2, ↓hg37_3, hw37_3, ↓hg37_4, hw37_4, ↓hg37_5, hw37_5, ↓hg37_6, hw37_6, ↓hg37_7, hw37_7, ↓hg37_8, hw37_8, ↓hg37_9, ↓hv37, ↓hx37, ha38, hu38, ↓hl38, w1, jT, jS, jI_or, Int.toNat_natCast, wb, gw, Bool.false_eq_true, if_true]
      cases hss : sSet L k (s.1, fun j => if j = k then true else s.2.1 j, tN L s.2.2) with
      | inl e =>
        rw [hss] at hs
        obtain ⟨M1, r1, r2, r3⟩ := hs
        refine ⟨M1, pre _ ?_, r2, F1.trans r3⟩
        rw [r1]
        simp (disch := omega) only [↓mo_ns_r, ↓hn0, ↓mo_cs_s, ↓mo_xs_r, ↓mo_xs_l, ↓mo_nl_s, mo_z_0, mo_z_1, if_true]
      | inr s1 =>
        rw [hss] at hs
        obtain ⟨M1, r1, r2, r3⟩ := hs
        have o1 := (sSet_ok ho1 hk7 hss).1
        have hT1 := hTw.x r3
        rw [r1] at pre
        simp (disch := omega) only [↓mo_ns_r, ↓hn0, ↓mo_cs_s, ↓mo_xs_r, ↓mo_xs_l, ↓mo_nl_s, mo_z_0, mo_z_1, j10, if_false, ↓hg37_0, ↓hg37_1, hw37_1, ↓hg37_2, hw37_2, ↓hg37_3, hw37_3, ↓hg37_4, hw37_4, ↓hg37_5, hw37_5, ↓hg37_6, hw37_6, ↓hg37_7, hw37_7, ↓hg37_8, hw37_8, ↓hg37_9, ↓hv37, ↓hx37, ha38, hu38, ↓hl38] at pre
        show RX S z M _ (if k = 5 then eB (sSet L 6 s1) (sSemi L) else sSemi L s1)
        by_cases e5 : k = 5
        · rw [if_pos e5]
          rw [if_pos (show (k : Int) = 5 by omega)] at pre
          have hs6 := X3_set (S := S) (z := z) (k := 6) hT1 o1 r2 (by omega)
          cases hs6' : sSet L 6 s1 with
          | inl e =>
            rw [hs6'] at hs6
            obtain ⟨M2, t1, t2, t3⟩ := hs6
            refine ⟨M2, pre _ ?_, t2, (F1.trans r3).trans t3⟩
            rw [t1]
            simp (disch := omega) only [↓mo_ns_r, ↓hn0, ↓mo_cs_s, ↓mo_xs_r, ↓mo_xs_l, ↓mo_nl_s, mo_z_0, mo_z_1, if_true]
          | inr s2 =>
            rw [hs6'] at hs6
            obtain ⟨M2, t1, t2, t3⟩ := hs6
            have o2 := (sSet_ok o1 (by omega) hs6').1
            have hm := X3_semi (S := S) (z := z) (hT1.x t3) o2 t2
            rw [t1] at pre
            simp (disch := omega) only [↓mo_ns_r, ↓hn0, ↓mo_cs_s, ↓mo_xs_r, ↓mo_xs_l, ↓mo_nl_s, mo_z_0, mo_z_1, j10, if_false, ↓hg37_0, ↓hg37_1, hw37_1, ↓hg37_2, hw37_2, ↓hg37_3, hw37_3, ↓hg37_4, hw37_4, ↓hg37_5, hw37_5, ↓hg37_6, hw37_6, ↓hg37_7, hw37_7, ↓hg37_8, hw37_8, ↓hg37_9, ↓hv37, ↓hx37, ha38, hu38, ↓hl38] at pre
            show RX S z M _ (sSemi L s2)
            cases hsm : sSemi L s2 with
            | inl e =>
              rw [hsm] at hm
              obtain ⟨M3, u1, u2, u3⟩ := hm
              refine ⟨M3, pre _ ?_, u2, ((F1.trans r3).trans t3).trans u3⟩
              rw [u1]
              simp (disch := omega) only [↓mo_ns_r, ↓hn0, ↓mo_cs_s, ↓mo_xs_r, ↓mo_xs_l, ↓mo_nl_s, mo_z_0, mo_z_1]
            | inr s3 =>
              rw [hsm] at hm
              obtain ⟨M3, u1, u2, u3⟩ := hm
              refine ⟨M3, pre _ ?_, u2, ((F1.trans r3).trans t3).trans u3⟩
              rw [u1]
              simp (disch := omega) only [↓mo_ns_r, ↓hn0, ↓mo_cs_s, ↓mo_xs_r, ↓mo_xs_l, ↓mo_nl_s, mo_z_0, mo_z_1]
        · rw [if_neg e5]
          rw [if_neg (show ¬ (k : Int) = 5 by omega)] at pre
          have hm := X3_semi (S := S) (z := z) hT1 o1 r2
          cases hsm : sSemi L s1 with
          | inl e =>
            rw [hsm] at hm
            obtain ⟨M3, u1, u2, u3⟩ := hm
            refine ⟨M3, pre _ ?_, u2, (F1.trans r3).trans u3⟩
            rw [u1]
            simp (disch := omega) only [↓mo_ns_r, ↓hn0, ↓mo_cs_s, ↓mo_xs_r, ↓mo_xs_l, ↓mo_nl_s, mo_z_0, mo_z_1]
          | inr s3 =>
            rw [hsm] at hm
            obtain ⟨M3, u1, u2, u3⟩ := hm
            refine ⟨M3, pre _ ?_, u2, (F1.trans r3).trans u3⟩
            rw [u1]
            simp (disch := omega) only [↓mo_ns_r, ↓hn0, ↓mo_cs_s, ↓mo_xs_r, ↓mo_xs_l, ↓mo_nl_s, mo_z_0, mo_z_1]


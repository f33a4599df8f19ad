variable {S : hSh}
/-! addFault -/
theorem i10 : ((1 : Int) = 0) = False := eq_false (by decide)
abbrev okA (kd nm am : Int) : Prop := (0 ≤ nm ∧ nm < 120) ∧ ((kd = 2 ∧ 1 ≤ am ∧ am ≤ 20) ∨ ((kd = 0 ∨ kd = 1) ∧ am = 0))
theorem X6_if1 {kd nm am : Int} (h : okA kd nm am) (σ : ac_H) : m_X6_isFault σ (jI kd) (jI nm) (jI am) = some (jI 1, σ) := by
  obtain ⟨h1, h2⟩ := h
  unfold m_X6_isFault m_X6_isFault_j43
  simp (disch := omega) only [ji1, ji2, ji3, ji4, ji5, ji6, ji7, ji8, ji9, ji10, ji11, ji12, ji13, ji14, ji15, ji16, ji19, ji20, ji24, ji31, ji32, ji39, ji45, ji48, ji57, ji58, ji59, ji60, ji97, ji100, ji119, ji120, ji122, ji144, ji200, ji226, ji240, ji255, ji300, ji366, ji400, ji500, ji1000, jI_z, ↓jI_m1, jI_add, jI_sub, jI_mul, jI_lt, jI_eq, ↓mo_ns_r, ↓hn0, ↓mo_cs_s, ↓mo_xs_r, ↓mo_xs_l, ↓mo_nl_s, mo_z_0, mo_z_1]
  repeat' split
  all_goals first | (exfalso; omega) | rfl
theorem X6_if0 {kd nm am : Int} (hk : okW kd) (hn : okW nm) (ha : okW am) (h : ¬ okA kd nm am) (σ : ac_H) : m_X6_isFault σ (jI kd) (jI nm) (jI am) = some (jI 0, σ) := by
  have h' : ¬ ((0 ≤ nm ∧ nm < 120) ∧ ((kd = 2 ∧ 1 ≤ am ∧ am ≤ 20) ∨ ((kd = 0 ∨ kd = 1) ∧ am = 0))) := h
  obtain ⟨k0, k1⟩ := hk
  obtain ⟨n0, n1⟩ := hn
  obtain ⟨a0, a1⟩ := ha
  unfold m_X6_isFault m_X6_isFault_j43
  simp (disch := omega) only [ji1, ji2, ji3, ji4, ji5, ji6, ji7, ji8, ji9, ji10, ji11, ji12, ji13, ji14, ji15, ji16, ji19, ji20, ji24, ji31, ji32, ji39, ji45, ji48, ji57, ji58, ji59, ji60, ji97, ji100, ji119, ji120, ji122, ji144, ji200, ji226, ji240, ji255, ji300, ji366, ji400, ji500, ji1000, jI_z, ↓jI_m1, jI_add, jI_sub, jI_mul, jI_lt, jI_eq, ↓mo_ns_r, ↓hn0, ↓mo_cs_s, ↓mo_xs_r, ↓mo_xs_l, ↓mo_nl_s, mo_z_0, mo_z_1]
  repeat' split
  all_goals first | (exfalso; omega) | rfl
theorem fnd_in {kd nm : Int} {l : List hF} (hl : l.length ≤ 10) : -1 ≤ fnd kd nm l 0 ∧ fnd kd nm l 0 ≤ 10 := by
  rcases fnd_get (kd := kd) (nm := nm) l 0 with h | ⟨j, x, h1, h2, _⟩
  · omega
  · have := (List.getElem?_eq_some_iff.mp h2).1
    omega
theorem plc_in {kd nm : Int} {l : List hF} : plc kd nm l 0 0 ≤ l.length := by
  have := plc_le (kd := kd) (nm := nm) l 0 0 (Nat.le_refl _)
  omega
theorem okC.ins {c : hCf} (h : okC c) {p : Nat} {x : hF} (hp' : p ≤ c.2.length) (hl : c.2.length < 10) (hx : okF x) : okC (c.1, c.2.insertIdx p x) := by
  refine ⟨by show (c.2.insertIdx p x).length ≤ 10; rw [List.length_insertIdx]; split <;> omega, fun y hy => ?_, h.2.2⟩
  rcases (List.mem_insertIdx hp').mp hy with e | e
  · rw [e]; exact hx
  · exact h.2.1 y e
theorem okA_F {kd nm am : Int} (h : okA kd nm am) : okF (kd, nm, am) := by
  obtain ⟨h1, h2⟩ := h
  exact ⟨by show 0 ≤ kd; omega, by show kd ≤ 2; omega, h1.1, h1.2, by show 0 ≤ am; omega, by show am ≤ 20; omega⟩
/-- promise 20 -/
def cI (c : hCf) (kd nm am : Int) : hCf := (c.1, c.2.insertIdx (plc kd nm c.2 0 0) (kd, nm, am))
def rAdd (q : hQ) (kd nm am : Int) : hR := if okA kd nm am then (if fnd kd nm q.1.1.2 0 = -1 ∧ q.1.1.2.length < 10 then (0, (plc kd nm q.1.1.2 0 0 : Nat), (cI q.1.1 kd nm am, q.1.2), keepsV q.2.1 q.1, q.2.2) else (2, 0, q)) else (1, 0, q)
theorem C_add {z : Nat} {M : hM} {q : hQ} {kd nm am : Int} (h : CI M q) (ho : okQ q) (hk : okW kd) (hn : okW nm) (ha : okW am) : OC S z M (m_X6_addFault (hp S z M) z (jI kd) (jI nm) (jI am)) eS (rAdd q kd nm am) := by
  have hB := h.1.1
  have hc := ho.1.1
  have hl := hc.1
  have e8 := hB.2.1
  have hfi := fnd_in (kd := kd) (nm := nm) hl
  unfold rAdd
  by_cases g : okA kd nm am
  · rw [if_pos g]
    have hF := okA_F g
    have pre : ∀ r, (if (q.1.1.2.length : Int) < 10 then (if fnd kd nm q.1.1.2 0 = -1 then (mo_cs (m_X6_remember (hp S z M) z) fun _ σ9 => mo_gr σ9 z 6 0 fun x10 => mo_cv σ9 x10 0 (m_X0_insert σ9 x10 (jI kd) (jI nm) (jI am)) fun x12 σ11 => some (.inr x12, σ11)) else some (.inl "java/lang/IllegalStateException", hp S z M)) else some (.inl "java/lang/IllegalStateException", hp S z M)) = r → m_X6_addFault (hp S z M) z (jI kd) (jI nm) (jI am) = r := by
      intro r hr
      rw [← hr]
      unfold m_X6_addFault
      rw [X6_if1 g]
      simp (disch := omega) only [↓mo_ns_r, ↓hn0, ↓mo_cs_s, ↓mo_xs_r, ↓mo_xs_l, ↓mo_nl_s, mo_z_0, mo_z_1, ji1, ji2, ji3, ji4, ji5, ji6, ji7, ji8, ji9, ji10, ji11, ji12, ji13, ji14, ji15, ji16, ji19, ji20, ji24, ji31, ji32, ji39, ji45, ji48, ji57, ji58, ji59, ji60, ji97, ji100, ji119, ji120, ji122, ji144, ji200, ji226, ji240, ji255, ji300, ji366, ji400, ji500, ji1000, jI_z, ↓jI_m1, jI_add, jI_sub, jI_mul, j10, if_false, ↓hg0_0, ↓hg0_1, ↓hg0_2, ↓hg0_3, ↓hg0_4, ↓hg0_5, hw0_5, ↓hg0_6, ↓hg0_7, ↓hv0, ↓hx0, ha132, hu132, ↓hl132, ↓Bv (b := 1) rfl]
      rw [X0_count (b := 1) rfl]
      simp (disch := omega) only [↓mo_ns_r, ↓hn0, ↓mo_cs_s, ↓mo_xs_r, ↓mo_xs_l, ↓mo_nl_s, mo_z_0, mo_z_1, e8, jI_lt, ↓hg0_0, ↓hg0_1, ↓hg0_2, ↓hg0_3, ↓hg0_4, ↓hg0_5, hw0_5, ↓hg0_6, ↓hg0_7, ↓hv0, ↓hx0, ha132, hu132, ↓hl132, ↓Bv (b := 1) rfl]
      rw [X0_find (b := 1) rfl hB hc hk hn]
      simp (disch := omega) only [↓mo_ns_r, ↓hn0, ↓mo_cs_s, ↓mo_xs_r, ↓mo_xs_l, ↓mo_nl_s, mo_z_0, mo_z_1, jI_eq, ↓hg0_0, ↓hg0_1, ↓hg0_2, ↓hg0_3, ↓hg0_4, ↓hg0_5, hw0_5, ↓hg0_6, ↓hg0_7, ↓hv0, ↓hx0, ha132, hu132, ↓hl132]
    by_cases g2 : fnd kd nm q.1.1.2 0 = -1 ∧ q.1.1.2.length < 10
    · rw [if_pos g2]
      obtain ⟨M1, r1, r2, r3, r4⟩ := X6_keep (S := S) (z := z) h ho
      obtain ⟨M2, s1, s2, s3, s4⟩ := X0_ins (S := S) (z := z) (b := 1) (am := am) rfl r4.1 hc g2.2 hk hn
      refine oc_c (u' := (cI q.1.1 kd nm am, q.1.2)) h ho r2 r3 (FE.of s3 s4 (by omega) (by omega)) ⟨s2, r4.2.keep s3 (by omega)⟩ (pre _ ?_)
      rw [if_pos (by omega), if_pos g2.1, r1]
      simp (disch := omega) only [↓mo_ns_r, ↓hn0, ↓mo_cs_s, ↓mo_xs_r, ↓mo_xs_l, ↓mo_nl_s, mo_z_0, mo_z_1, ↓hg0_0, ↓hg0_1, ↓hg0_2, ↓hg0_3, ↓hg0_4, ↓hg0_5, hw0_5, ↓hg0_6, ↓hg0_7, ↓hv0, ↓hx0, ha132, hu132, ↓hl132, ↓Bv (b := 1) rfl]
      rw [s1]
      simp (disch := omega) only [↓mo_ns_r, ↓hn0, ↓mo_cs_s, ↓mo_xs_r, ↓mo_xs_l, ↓mo_nl_s, mo_z_0, mo_z_1]
    · rw [if_neg g2]
      refine OC.no h (by decide) (pre _ ?_)
      by_cases g3 : (q.1.1.2.length : Int) < 10
      · rw [if_pos g3, if_neg (fun hh => g2 ⟨hh, by omega⟩)]; rfl
      · rw [if_neg g3]; rfl
  · rw [if_neg g]
    refine OC.no h (by decide) ?_
    unfold m_X6_addFault
    rw [X6_if0 hk hn ha g]
    simp (disch := omega) only [↓mo_ns_r, ↓hn0, ↓mo_cs_s, ↓mo_xs_r, ↓mo_xs_l, ↓mo_nl_s, mo_z_0, mo_z_1, ji1, ji2, ji3, ji4, ji5, ji6, ji7, ji8, ji9, ji10, ji11, ji12, ji13, ji14, ji15, ji16, ji19, ji20, ji24, ji31, ji32, ji39, ji45, ji48, ji57, ji58, ji59, ji60, ji97, ji100, ji119, ji120, ji122, ji144, ji200, ji226, ji240, ji255, ji300, ji366, ji400, ji500, ji1000, jI_z, ↓jI_m1, jI_add, jI_sub, jI_mul, if_true]
    rfl

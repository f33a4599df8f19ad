/-! record, undo, snapshots -/
def orW (r W : Nat → Nat) : Nat → Nat := fun k => r k ||| W k
def rRecord (q : hQ) : hR := (0, ((sum9 (fun k => pop (orW q.1.2 (zR q.1.1).2.2.2.1 k)) 9 : Nat) : Int) - (sum9 (fun k => pop (q.1.2 k)) 9 : Nat), (q.1.1, orW q.1.2 (zR q.1.1).2.2.2.1), keepsV q.2.1 q.1, q.2.2)
theorem C_record {z : Nat} {M : hM} {q : hQ} (h : CI M q) (ho : okQ q) : OD z M (m_X6_record (hp z M) z) (rRecord q) := by
  have hc := ho.1.1
  obtain ⟨M1, r1, r2, r3, r4⟩ := X4_play (z := z) (b := 1) (Or.inl rfl) h.1.1 hc
  have F1 : FD M M1 := FD.of15 r3 r4
  have h1 : CI M1 q := F1.ci h ho
  obtain ⟨M2, s1, s2, s3, s4⟩ := X6_keep (z := z) h1 ho
  have hW : RS M2 28 (zR q.1.1).2.2.2.1 := fun k hk => by rw [(s3.1 29 (by omega)).2]; exact r2.2.2.2 k hk
  obtain ⟨M3, t1, t2, t3, t4⟩ := X5_aa (z := z) (s := 6) (a := 28) rfl rfl (by omega) s4.2 hW
  obtain ⟨w1, w2⟩ := CI_chg (u' := (q.1.1, orW q.1.2 (zR q.1.1).2.2.2.1)) h1 s2 (keepsV_len ho.2.2.1) s3 (FE.of t3 t4 (by omega) (by omega)) ⟨s4.1.keep t3 (by omega), t2⟩
  refine ⟨M3, ?_, w1, F1.km.trans w2⟩
  unfold m_X6_record
  simp (disch := omega) only [↓hg0_0, ↓hg0_1, ↓hg0_2, ↓hg0_3, ↓hg0_4, ↓hg0_5, hw0_5, ↓hg0_6, ↓hg0_7, ↓hv0, ↓hx0, ha132, hu132, ↓hl132, ↓hg15_0, ↓hg15_1, ↓hg15_2, ↓hg15_3, hw15_3, ↓hg15_4, hw15_4, ↓hg15_5, hw15_5, ↓hg15_6, hw15_6, ↓hg15_7, hw15_7, ↓hg15_8, hw15_8, ↓hg15_9, hw15_9, ↓hg15_10, hw15_10, ↓hg15_11, hw15_11, ↓hg15_12, hw15_12, ↓hg15_13, hw15_13, ↓hg15_14, hw15_14, ↓hv15, ↓hx15, ha29, hu29, ↓hl29]
  rw [r1]
  simp (disch := omega) only [↓mo_cs_s, ↓mo_xs_r, ↓mo_xs_l, ↓mo_nl_s, mo_z_0, mo_z_1, ↓hg0_0, ↓hg0_1, ↓hg0_2, ↓hg0_3, ↓hg0_4, ↓hg0_5, hw0_5, ↓hg0_6, ↓hg0_7, ↓hv0, ↓hx0, ha132, hu132, ↓hl132]
  rw [s1]
  unfold m_X4_states
  simp (disch := omega) only [↓mo_cs_s, ↓mo_xs_r, ↓mo_xs_l, ↓mo_nl_s, mo_z_0, mo_z_1, ↓hg0_0, ↓hg0_1, ↓hg0_2, ↓hg0_3, ↓hg0_4, ↓hg0_5, hw0_5, ↓hg0_6, ↓hg0_7, ↓hv0, ↓hx0, ha132, hu132, ↓hl132, ↓Bv (b := 1) rfl]
  rw [X0_rec (b := 1) rfl]
  simp (disch := omega) only [↓mo_cs_s, ↓mo_xs_r, ↓mo_xs_l, ↓mo_nl_s, mo_z_0, mo_z_1, ↓hg0_0, ↓hg0_1, ↓hg0_2, ↓hg0_3, ↓hg0_4, ↓hg0_5, hw0_5, ↓hg0_6, ↓hg0_7, ↓hv0, ↓hx0, ha132, hu132, ↓hl132, ↓hg15_0, ↓hg15_1, ↓hg15_2, ↓hg15_3, hw15_3, ↓hg15_4, hw15_4, ↓hg15_5, hw15_5, ↓hg15_6, hw15_6, ↓hg15_7, hw15_7, ↓hg15_8, hw15_8, ↓hg15_9, hw15_9, ↓hg15_10, hw15_10, ↓hg15_11, hw15_11, ↓hg15_12, hw15_12, ↓hg15_13, hw15_13, ↓hg15_14, hw15_14, ↓hv15, ↓hx15, ha29, hu29, ↓hl29, ↓Sv6]
  show mo_cs (m_X5_addAll (hp z M2) (z + 6) (z + 28)) _ = _
  rw [t1]
  rfl
def bitV (V : Nat → Nat) (k : Nat) : Int := if (V (k / 16)).testBit (k % 16) = true then 1 else 0
theorem St_of {F : Nat → Int} {W : Nat → Nat} (h : ∀ k, k < 144 → F k = bitV W k) : St F W := fun s t hs ht => by
  rw [h (16 * s + t) (by omega)]
  unfold bitV
  rw [show (16 * s + t) / 16 = s by omega, show (16 * s + t) % 16 = t by omega]
theorem bitV_or {r W : Nat → Nat} {k : Nat} : bitV (orW r W) k = if bitV W k = 1 then 1 else bitV r k := by
  unfold bitV orW
  rw [Nat.testBit_or]
  cases (r (k / 16)).testBit (k % 16) <;> cases (W (k / 16)).testBit (k % 16) <;> simp
theorem X7_rc_l {z : Nat} {c : hCf} {r W : Nat → Nat} {v : Int} (hc : okC c) : ∀ (d k f : Nat) (M : hM), k + d = 144 → d < f → MS M W → RR (gA M 134) c → (∀ j, j < 144 → gA M 134 (39 + j) = if j < k then bitV (orW r W) j else bitV r j) →
    ∃ M', m_X7_record_l24 (z + 133) f (hp z M) (jI v) (jI k) = some (jI ((sum9 (fun k => pop (orW r W k)) 9 : Nat) - v), hp z M') ∧ UR (gA M' 134) (c, orW r W) ∧ FN M M' := by
  intro d
  induction d with
  | zero =>
    intro k f M hk hf hS hR hG
    obtain ⟨f, rfl⟩ : ∃ g, f = g + 1 := ⟨f - 1, by omega⟩
    have hk' : k = 144 := by omega
    subst hk'
    have g : ¬ ((144 : Nat) : Int) < 144 := by omega
    have hSt : St (fun k => gA M 134 (39 + k)) (orW r W) := St_of (fun j hj => by rw [hG j hj, if_pos hj])
    have rm := X7_rm (z := z) hSt
    refine ⟨M, ?_, ⟨hR, hSt⟩, FN.rfl'⟩
    unfold m_X7_record_l24
    simp (disch := omega) only [ji1, ji2, ji3, ji4, ji5, ji6, ji7, ji8, ji9, ji10, ji11, ji12, ji13, ji14, ji15, ji16, ji19, ji20, ji39, ji119, ji144, ji366, ji24, ji31, ji32, ji45, ji48, ji57, ji58, ji59, ji97, ji120, ji122, ji183, ji200, ji226, ji240, ji255, ji500, jI_z, ↓jI_m1, jI_add, jI_sub, jI_mul, jI_lt, g, if_false, ↓hg133_0, hw133_0, ↓hg133_1, ↓hg133_2, ↓hg133_3, hw133_3, ↓hg133_4, hw133_4, ↓hg133_5, hw133_5, ↓hg133_6, hw133_6, ↓hg133_7, hw133_7, ↓hg133_8, hw133_8, ↓hg133_9, hw133_9, ↓hg133_10, hw133_10, ↓hg133_11, hw133_11, ↓hg133_12, hw133_12, ↓hg133_13, ↓hg133_14, hw133_14, ↓hg133_15, ↓hg133_16, ↓hg133_17, ↓hg133_18, ↓hg133_19, ↓hg133_20, ↓hg133_21, hw133_21, ↓hg133_22, ↓hg133_23, hw133_23, ↓hg133_24, hw133_24, ↓hg133_25, hw133_25, ↓hg133_26, hw133_26, ↓hg133_27, hw133_27, ↓hg133_28, ↓hg133_29, hw133_29, ↓hg133_30, hw133_30, ↓hg133_31, hw133_31, ↓hg133_32, hw133_32, ↓hg133_33, hw133_33, ↓hg133_34, hw133_34, ↓hg133_35, hw133_35, ↓hg133_36, hw133_36, ↓hg133_37, ↓hg133_38, ↓hg133_39, ↓hv133, ↓hx133, ha134, hu134, ↓hl134, ha135, hu135, ↓hl135, ha136, hu136, ↓hl136, ha137, hu137, ↓hl137, ha138, hu138, ↓hl138, ha139, hu139, ↓hl139, ha140, hu140, ↓hl140, ha141, hu141, ↓hl141, ha142, hu142, ↓hl142, ha143, hu143, ↓hl143, ha144, hu144, ↓hl144, ha145, hu145, ↓hl145, ha146, hu146, ↓hl146, ha147, hu147, ↓hl147]
    rw [rm]
    simp (disch := omega) only [↓mo_cs_s, ↓mo_xs_r, ↓mo_xs_l, ↓mo_nl_s, mo_z_0, mo_z_1, ji1, ji2, ji3, ji4, ji5, ji6, ji7, ji8, ji9, ji10, ji11, ji12, ji13, ji14, ji15, ji16, ji19, ji20, ji39, ji119, ji144, ji366, ji24, ji31, ji32, ji45, ji48, ji57, ji58, ji59, ji97, ji120, ji122, ji183, ji200, ji226, ji240, ji255, ji500, jI_z, ↓jI_m1, jI_add, jI_sub, jI_mul]
  | succ d ih =>
    intro k f M hk hf hS hR hG
    obtain ⟨f, rfl⟩ : ∃ g, f = g + 1 := ⟨f - 1, by omega⟩
    have g : (k : Int) < 144 := by omega
    have ek : (k : Int) + 1 = ((k + 1 : Nat) : Int) := by omega
    have ei : (39 + (k : Int)).toNat = 39 + k := by omega
    have hb : gA M 144 k = bitV W k := St.b (F := gA M 144) hS (by omega)
    have hg := hG k (by omega)
    rw [if_neg (by omega)] at hg
    have step : ∀ x, x = bitV (orW r W) k → ∃ M', m_X7_record_l24 (z + 133) f (hp z (sA M 134 (39 + k) x)) (jI v) (jI (k + 1 : Nat)) = some (jI ((sum9 (fun k => pop (orW r W k)) 9 : Nat) - v), hp z M') ∧ UR (gA M' 134) (c, orW r W) ∧ FN M M' := by
      intro x hx
      obtain ⟨M', r1, r2, r3⟩ := ih (k + 1) f (sA M 134 (39 + k) x) (by omega) (by omega) (fun s t hs ht => by rw [gA_sA, if_neg (by omega)]; exact hS s t hs ht) (hR.cg hc.1 (fun j hj => by rw [gA_sA, if_neg (by omega)])) (fun j hj => by
        rw [gA_sA]
        by_cases e : j = k
        · subst e; rw [if_pos ⟨rfl, rfl⟩, if_pos (by omega), hx]
        · rw [if_neg (by omega), hG j hj]
          by_cases e2 : j < k
          · rw [if_pos e2, if_pos (by omega)]
          · rw [if_neg e2, if_neg (by omega)])
      exact ⟨M', r1, r2, FNsA.trans r3⟩
    have ho := bitV_or (r := r) (W := W) (k := k)
    by_cases hw : bitV W k = 1
    · rw [if_pos hw] at ho
      obtain ⟨M', r1, r2⟩ := step 1 ho.symm
      refine ⟨M', ?_, r2⟩
      unfold m_X7_record_l24
      simp (disch := omega) only [ji1, ji2, ji3, ji4, ji5, ji6, ji7, ji8, ji9, ji10, ji11, ji12, ji13, ji14, ji15, ji16, ji19, ji20, ji39, ji119, ji144, ji366, ji24, ji31, ji32, ji45, ji48, ji57, ji58, ji59, ji97, ji120, ji122, ji183, ji200, ji226, ji240, ji255, ji500, jI_z, ↓jI_m1, jI_add, jI_sub, jI_mul, jI_lt, g, if_true, ↓hg133_0, hw133_0, ↓hg133_1, ↓hg133_2, ↓hg133_3, hw133_3, ↓hg133_4, hw133_4, ↓hg133_5, hw133_5, ↓hg133_6, hw133_6, ↓hg133_7, hw133_7, ↓hg133_8, hw133_8, ↓hg133_9, hw133_9, ↓hg133_10, hw133_10, ↓hg133_11, hw133_11, ↓hg133_12, hw133_12, ↓hg133_13, ↓hg133_14, hw133_14, ↓hg133_15, ↓hg133_16, ↓hg133_17, ↓hg133_18, ↓hg133_19, ↓hg133_20, ↓hg133_21, hw133_21, ↓hg133_22, ↓hg133_23, hw133_23, ↓hg133_24, hw133_24, ↓hg133_25, hw133_25, ↓hg133_26, hw133_26, ↓hg133_27, hw133_27, ↓hg133_28, ↓hg133_29, hw133_29, ↓hg133_30, hw133_30, ↓hg133_31, hw133_31, ↓hg133_32, hw133_32, ↓hg133_33, hw133_33, ↓hg133_34, hw133_34, ↓hg133_35, hw133_35, ↓hg133_36, hw133_36, ↓hg133_37, ↓hg133_38, ↓hg133_39, ↓hv133, ↓hx133, ha134, hu134, ↓hl134, ha135, hu135, ↓hl135, ha136, hu136, ↓hl136, ha137, hu137, ↓hl137, ha138, hu138, ↓hl138, ha139, hu139, ↓hl139, ha140, hu140, ↓hl140, ha141, hu141, ↓hl141, ha142, hu142, ↓hl142, ha143, hu143, ↓hl143, ha144, hu144, ↓hl144, ha145, hu145, ↓hl145, ha146, hu146, ↓hl146, ha147, hu147, ↓hl147, Int.toNat_natCast, hb, hw, j10, if_false, ei, ek]
      exact r1
    · have hw0 : bitV W k = 0 := by unfold bitV at hw ⊢; split at hw <;> simp_all
      rw [if_neg hw] at ho
      obtain ⟨M', r1, r2⟩ := step (bitV r k) ho.symm
      refine ⟨M', ?_, r2⟩
      unfold m_X7_record_l24
      simp (disch := omega) only [ji1, ji2, ji3, ji4, ji5, ji6, ji7, ji8, ji9, ji10, ji11, ji12, ji13, ji14, ji15, ji16, ji19, ji20, ji39, ji119, ji144, ji366, ji24, ji31, ji32, ji45, ji48, ji57, ji58, ji59, ji97, ji120, ji122, ji183, ji200, ji226, ji240, ji255, ji500, jI_z, ↓jI_m1, jI_add, jI_sub, jI_mul, jI_lt, g, if_true, ↓hg133_0, hw133_0, ↓hg133_1, ↓hg133_2, ↓hg133_3, hw133_3, ↓hg133_4, hw133_4, ↓hg133_5, hw133_5, ↓hg133_6, hw133_6, ↓hg133_7, hw133_7, ↓hg133_8, hw133_8, ↓hg133_9, hw133_9, ↓hg133_10, hw133_10, ↓hg133_11, hw133_11, ↓hg133_12, hw133_12, ↓hg133_13, ↓hg133_14, hw133_14, ↓hg133_15, ↓hg133_16, ↓hg133_17, ↓hg133_18, ↓hg133_19, ↓hg133_20, ↓hg133_21, hw133_21, ↓hg133_22, ↓hg133_23, hw133_23, ↓hg133_24, hw133_24, ↓hg133_25, hw133_25, ↓hg133_26, hw133_26, ↓hg133_27, hw133_27, ↓hg133_28, ↓hg133_29, hw133_29, ↓hg133_30, hw133_30, ↓hg133_31, hw133_31, ↓hg133_32, hw133_32, ↓hg133_33, hw133_33, ↓hg133_34, hw133_34, ↓hg133_35, hw133_35, ↓hg133_36, hw133_36, ↓hg133_37, ↓hg133_38, ↓hg133_39, ↓hv133, ↓hx133, ha134, hu134, ↓hl134, ha135, hu135, ↓hl135, ha136, hu136, ↓hl136, ha137, hu137, ↓hl137, ha138, hu138, ↓hl138, ha139, hu139, ↓hl139, ha140, hu140, ↓hl140, ha141, hu141, ↓hl141, ha142, hu142, ↓hl142, ha143, hu143, ↓hl143, ha144, hu144, ↓hl144, ha145, hu145, ↓hl145, ha146, hu146, ↓hl146, ha147, hu147, ↓hl147, Int.toNat_natCast, hb, hw0, if_false, ei, ek, hg]
      exact r1
theorem M_record {z : Nat} {M : hM} {q : hQ} (h : MI M q) (ho : okQ q) : OM z M (m_X7_record (hp z M) (z + 133)) (rRecord q) := by
  have hc := ho.1.1
  obtain ⟨M1, r1, r2, r3, r4⟩ := X7_keep (z := z) (h.sI0 (v := 0)) ho
  have rm := X7_rm (z := z) r4.2
  obtain ⟨M2, s1, s2, s3, s4⟩ := X7_runs (z := z) (M := M1) (Or.inl rfl) hc r4.1
  obtain ⟨d0, d1, d2, d3⟩ := MR_d s2
  have hU2 : UR (gA M2 134) q.1 := r4.kp (fun j => ((s3.q s4).1 134 (by omega) (by omega)).2 j)
  obtain ⟨M3, t1, t2, t3⟩ := X7_rc_l (z := z) (r := q.1.2) (v := (sum9 (fun k => pop (q.1.2 k)) 9 : Nat)) hc 144 0 hN_f M2 (by omega) (by unfold hN_f; omega) d3 hU2.1 (fun j hj => by
    rw [if_neg (by omega)]
    exact St.b (F := fun k => gA M2 134 (39 + k)) hU2.2 hj)
  refine om_c (u' := (q.1.1, orW q.1.2 (zR q.1.1).2.2.2.1)) h r2 r3 ((s3.q s4).n.trans t3) t2 ?_
  unfold m_X7_record
  simp (disch := omega) only [ji1, ji2, ji3, ji4, ji5, ji6, ji7, ji8, ji9, ji10, ji11, ji12, ji13, ji14, ji15, ji16, ji19, ji20, ji39, ji119, ji144, ji366, ji24, ji31, ji32, ji45, ji48, ji57, ji58, ji59, ji97, ji120, ji122, ji183, ji200, ji226, ji240, ji255, ji500, jI_z, ↓jI_m1, jI_add, jI_sub, jI_mul, ↓hg133_0, hw133_0, ↓hg133_1, ↓hg133_2, ↓hg133_3, hw133_3, ↓hg133_4, hw133_4, ↓hg133_5, hw133_5, ↓hg133_6, hw133_6, ↓hg133_7, hw133_7, ↓hg133_8, hw133_8, ↓hg133_9, hw133_9, ↓hg133_10, hw133_10, ↓hg133_11, hw133_11, ↓hg133_12, hw133_12, ↓hg133_13, ↓hg133_14, hw133_14, ↓hg133_15, ↓hg133_16, ↓hg133_17, ↓hg133_18, ↓hg133_19, ↓hg133_20, ↓hg133_21, hw133_21, ↓hg133_22, ↓hg133_23, hw133_23, ↓hg133_24, hw133_24, ↓hg133_25, hw133_25, ↓hg133_26, hw133_26, ↓hg133_27, hw133_27, ↓hg133_28, ↓hg133_29, hw133_29, ↓hg133_30, hw133_30, ↓hg133_31, hw133_31, ↓hg133_32, hw133_32, ↓hg133_33, hw133_33, ↓hg133_34, hw133_34, ↓hg133_35, hw133_35, ↓hg133_36, hw133_36, ↓hg133_37, ↓hg133_38, ↓hg133_39, ↓hv133, ↓hx133, ha134, hu134, ↓hl134, ha135, hu135, ↓hl135, ha136, hu136, ↓hl136, ha137, hu137, ↓hl137, ha138, hu138, ↓hl138, ha139, hu139, ↓hl139, ha140, hu140, ↓hl140, ha141, hu141, ↓hl141, ha142, hu142, ↓hl142, ha143, hu143, ↓hl143, ha144, hu144, ↓hl144, ha145, hu145, ↓hl145, ha146, hu146, ↓hl146, ha147, hu147, ↓hl147]
  rw [r1]
  simp (disch := omega) only [↓mo_cs_s, ↓mo_xs_r, ↓mo_xs_l, ↓mo_nl_s, mo_z_0, mo_z_1, ↓hg133_0, hw133_0, ↓hg133_1, ↓hg133_2, ↓hg133_3, hw133_3, ↓hg133_4, hw133_4, ↓hg133_5, hw133_5, ↓hg133_6, hw133_6, ↓hg133_7, hw133_7, ↓hg133_8, hw133_8, ↓hg133_9, hw133_9, ↓hg133_10, hw133_10, ↓hg133_11, hw133_11, ↓hg133_12, hw133_12, ↓hg133_13, ↓hg133_14, hw133_14, ↓hg133_15, ↓hg133_16, ↓hg133_17, ↓hg133_18, ↓hg133_19, ↓hg133_20, ↓hg133_21, hw133_21, ↓hg133_22, ↓hg133_23, hw133_23, ↓hg133_24, hw133_24, ↓hg133_25, hw133_25, ↓hg133_26, hw133_26, ↓hg133_27, hw133_27, ↓hg133_28, ↓hg133_29, hw133_29, ↓hg133_30, hw133_30, ↓hg133_31, hw133_31, ↓hg133_32, hw133_32, ↓hg133_33, hw133_33, ↓hg133_34, hw133_34, ↓hg133_35, hw133_35, ↓hg133_36, hw133_36, ↓hg133_37, ↓hg133_38, ↓hg133_39, ↓hv133, ↓hx133, ha134, hu134, ↓hl134, ha135, hu135, ↓hl135, ha136, hu136, ↓hl136, ha137, hu137, ↓hl137, ha138, hu138, ↓hl138, ha139, hu139, ↓hl139, ha140, hu140, ↓hl140, ha141, hu141, ↓hl141, ha142, hu142, ↓hl142, ha143, hu143, ↓hl143, ha144, hu144, ↓hl144, ha145, hu145, ↓hl145, ha146, hu146, ↓hl146, ha147, hu147, ↓hl147]
  rw [rm]
  simp (disch := omega) only [↓mo_cs_s, ↓mo_xs_r, ↓mo_xs_l, ↓mo_nl_s, mo_z_0, mo_z_1, ↓hg133_0, hw133_0, ↓hg133_1, ↓hg133_2, ↓hg133_3, hw133_3, ↓hg133_4, hw133_4, ↓hg133_5, hw133_5, ↓hg133_6, hw133_6, ↓hg133_7, hw133_7, ↓hg133_8, hw133_8, ↓hg133_9, hw133_9, ↓hg133_10, hw133_10, ↓hg133_11, hw133_11, ↓hg133_12, hw133_12, ↓hg133_13, ↓hg133_14, hw133_14, ↓hg133_15, ↓hg133_16, ↓hg133_17, ↓hg133_18, ↓hg133_19, ↓hg133_20, ↓hg133_21, hw133_21, ↓hg133_22, ↓hg133_23, hw133_23, ↓hg133_24, hw133_24, ↓hg133_25, hw133_25, ↓hg133_26, hw133_26, ↓hg133_27, hw133_27, ↓hg133_28, ↓hg133_29, hw133_29, ↓hg133_30, hw133_30, ↓hg133_31, hw133_31, ↓hg133_32, hw133_32, ↓hg133_33, hw133_33, ↓hg133_34, hw133_34, ↓hg133_35, hw133_35, ↓hg133_36, hw133_36, ↓hg133_37, ↓hg133_38, ↓hg133_39, ↓hv133, ↓hx133, ha134, hu134, ↓hl134, ha135, hu135, ↓hl135, ha136, hu136, ↓hl136, ha137, hu137, ↓hl137, ha138, hu138, ↓hl138, ha139, hu139, ↓hl139, ha140, hu140, ↓hl140, ha141, hu141, ↓hl141, ha142, hu142, ↓hl142, ha143, hu143, ↓hl143, ha144, hu144, ↓hl144, ha145, hu145, ↓hl145, ha146, hu146, ↓hl146, ha147, hu147, ↓hl147]
  rw [s1]
  simp (disch := omega) only [↓mo_cs_s, ↓mo_xs_r, ↓mo_xs_l, ↓mo_nl_s, mo_z_0, mo_z_1]
  exact t1
theorem okU_rec {q : hQ} (ho : okQ q) : okU (q.1.1, orW q.1.2 (zR q.1.1).2.2.2.1) := by
  refine ⟨ho.1.1, fun k hk => ?_⟩
  have h := (zJ_R ho.1.1).1.1
  have hw : (zR q.1.1).2.2.2.1 k < 65536 := by
    generalize (zR q.1.1).2 = s at h ⊢
    obtain ⟨T, O, W, B, N, J, K, C⟩ := s
    exact h.2.2.2.2.2.2.2.2 k
  exact Nat.or_lt_two_pow (n := 16) (ho.1.2 k hk) hw
/-! undo -/
def rUndo (q : hQ) : hR := match q.2.1.getLast? with
  | none => (0, -1, q)
  | some u => (0, (q.2.1.length : Int) - 1, u, q.2.1.dropLast, q.2.2)
theorem C_undo {z : Nat} {M : hM} {q : hQ} (h : CI M q) (ho : okQ q) : OD z M (m_X6_undo (hp z M) z) (rUndo q) := by
  obtain ⟨u0, hs, rest⟩ := q
  have e0 := h.2.1.1
  have hl := ho.2.2.1
  simp only at e0 hl
  unfold rUndo
  rcases List.eq_nil_or_concat hs with e | ⟨t, u, e⟩
  · subst e
    refine od_q FD.rfl' h ho ?_
    have g : ¬ (0 : Int) < 0 := by omega
    have e0' : gI M 0 5 = 0 := e0
    unfold m_X6_undo
    simp (disch := omega) only [ji1, ji2, ji3, ji4, ji5, ji6, ji7, ji8, ji9, ji10, ji11, ji12, ji13, ji14, ji15, ji16, ji19, ji20, ji39, ji119, ji144, ji366, ji24, ji31, ji32, ji45, ji48, ji57, ji58, ji59, ji97, ji120, ji122, ji183, ji200, ji226, ji240, ji255, ji500, jI_z, ↓jI_m1, jI_add, jI_sub, jI_mul, ↓hg0_0, ↓hg0_1, ↓hg0_2, ↓hg0_3, ↓hg0_4, ↓hg0_5, hw0_5, ↓hg0_6, ↓hg0_7, ↓hv0, ↓hx0, ha132, hu132, ↓hl132, e0', jI_lt, g, if_false]
  · rw [List.concat_eq_append] at e
    subst e
    have hl' : t.length + 1 ≤ 10 := by simpa using hl
    have e0' : gI M 0 5 = (t.length : Int) + 1 := by rw [e0, List.length_append]; rfl
    obtain ⟨k, hk, hV⟩ := h.2.1.2.1 t.length (by omega)
    have hb : isB (47 + 7 * k) = true := isB_h hk
    have hu := h.2.1.2.2.2 t.length u (by simp)
    rw [hV] at hu
    have hou : okU u := ho.2.1 u (by simp)
    have hu1 : UB (sI M 0 5 t.length) (47 + 7 * k) u := hu.cg (fun a g1 g2 => ⟨fun j => by rw [gI_sI, if_neg (by omega)], fun j => by rw [gA_sI]⟩)
    obtain ⟨M1, r1, r2, r3, r4, r5⟩ := X0_ta (z := z) (a := 47 + 7 * k) (b := 1) hb rfl (by omega) hu1.1 hu1.2 hou.1
    have e1 : gI M1 0 5 = (t.length : Int) := by rw [(r4 0 (by omega)).1, gI_sI, if_pos ⟨rfl, rfl⟩]
    have same : ∀ a, 8 ≤ a → (∀ j, gI M1 a j = gI M a j) ∧ ∀ j, gA M1 a j = gA M a j := fun a ha => ⟨fun j => by rw [(r4 a (by omega)).1, gI_sI, if_neg (by omega)], fun j => by rw [(r4 a (by omega)).2, gA_sI]⟩
    rw [List.getLast?_concat, List.dropLast_concat]
    refine ⟨M1, ?_, ⟨⟨r2, r3⟩, ⟨e1, fun i hi => ?_, fun i j hi hj hij => ?_, fun i v hv => ?_⟩, h.2.2.1.cg (fun a g1 _ => same a (by omega)), h.2.2.2.cg (fun a g1 => same a (by omega))⟩, fun a ha => same a (by omega)⟩
    · have g0 : (0 : Int) < t.length + 1 := by omega
      have g1 : ¬ (10 : Int) < t.length + 1 := by omega
      unfold m_X6_undo
      simp (disch := omega) only [ji1, ji2, ji3, ji4, ji5, ji6, ji7, ji8, ji9, ji10, ji11, ji12, ji13, ji14, ji15, ji16, ji19, ji20, ji39, ji119, ji144, ji366, ji24, ji31, ji32, ji45, ji48, ji57, ji58, ji59, ji97, ji120, ji122, ji183, ji200, ji226, ji240, ji255, ji500, jI_z, ↓jI_m1, jI_add, jI_sub, jI_mul, ↓hg0_0, ↓hg0_1, ↓hg0_2, ↓hg0_3, ↓hg0_4, ↓hg0_5, hw0_5, ↓hg0_6, ↓hg0_7, ↓hv0, ↓hx0, ha132, hu132, ↓hl132, e0', jI_lt, g0, if_true, g1, if_false, show (t.length : Int) + 1 - 1 = t.length by omega, gI_sI, and_self, hp_aq, Int.toNat_natCast, gV_sI, hV, ↓mo_cs_s, ↓mo_xs_r, ↓mo_xs_l, ↓mo_nl_s, mo_z_0, mo_z_1, ↓Bv (b := 1) rfl]
      rw [r1]
      simp (disch := omega) only [↓mo_cs_s, ↓mo_xs_r, ↓mo_xs_l, ↓mo_nl_s, mo_z_0, mo_z_1, ↓hg0_0, ↓hg0_1, ↓hg0_2, ↓hg0_3, ↓hg0_4, ↓hg0_5, hw0_5, ↓hg0_6, ↓hg0_7, ↓hv0, ↓hx0, ha132, hu132, ↓hl132, e1]
      simp only [List.length_append, List.length_singleton]
      rw [show ((t.length + 1 : Nat) : Int) - 1 = t.length by omega]
    · rw [r5, gV_sI]; exact h.2.1.2.1 i hi
    · rw [r5, r5, gV_sI, gV_sI] at hij; exact h.2.1.2.2.1 i j hi hj hij
    · have hi : i < t.length := (List.getElem?_eq_some_iff.mp hv).1
      rw [r5, gV_sI]
      obtain ⟨k', hk', hV'⟩ := h.2.1.2.1 i (by omega)
      have h0 := h.2.1.2.2.2 i v (by simp only; rw [List.getElem?_append_left hi]; exact hv)
      rw [hV'] at h0 ⊢
      exact h0.cg (fun a g1 g2 => same a (by omega))
theorem M_undo {z : Nat} {M : hM} {q : hQ} (h : MI M q) (ho : okQ q) : OM z M (m_X7_undo (hp z M) (z + 133)) (rUndo q) := by
  obtain ⟨u0, hs, rest⟩ := q
  have h0 := h.sI0 (v := 0)
  have e0 := h0.2.1.1
  have hl := ho.2.2.1
  simp only at e0 hl
  unfold rUndo
  rcases List.eq_nil_or_concat hs with e | ⟨t, u, e⟩
  · subst e
    refine omq FQ.rfl' h ?_
    have e0' : gI (sI M 133 0 0) 133 36 = 0 := e0
    unfold m_X7_undo
    simp (disch := omega) only [ji1, ji2, ji3, ji4, ji5, ji6, ji7, ji8, ji9, ji10, ji11, ji12, ji13, ji14, ji15, ji16, ji19, ji20, ji39, ji119, ji144, ji366, ji24, ji31, ji32, ji45, ji48, ji57, ji58, ji59, ji97, ji120, ji122, ji183, ji200, ji226, ji240, ji255, ji500, jI_z, ↓jI_m1, jI_add, jI_sub, jI_mul, ↓hg133_0, hw133_0, ↓hg133_1, ↓hg133_2, ↓hg133_3, hw133_3, ↓hg133_4, hw133_4, ↓hg133_5, hw133_5, ↓hg133_6, hw133_6, ↓hg133_7, hw133_7, ↓hg133_8, hw133_8, ↓hg133_9, hw133_9, ↓hg133_10, hw133_10, ↓hg133_11, hw133_11, ↓hg133_12, hw133_12, ↓hg133_13, ↓hg133_14, hw133_14, ↓hg133_15, ↓hg133_16, ↓hg133_17, ↓hg133_18, ↓hg133_19, ↓hg133_20, ↓hg133_21, hw133_21, ↓hg133_22, ↓hg133_23, hw133_23, ↓hg133_24, hw133_24, ↓hg133_25, hw133_25, ↓hg133_26, hw133_26, ↓hg133_27, hw133_27, ↓hg133_28, ↓hg133_29, hw133_29, ↓hg133_30, hw133_30, ↓hg133_31, hw133_31, ↓hg133_32, hw133_32, ↓hg133_33, hw133_33, ↓hg133_34, hw133_34, ↓hg133_35, hw133_35, ↓hg133_36, hw133_36, ↓hg133_37, ↓hg133_38, ↓hg133_39, ↓hv133, ↓hx133, ha134, hu134, ↓hl134, ha135, hu135, ↓hl135, ha136, hu136, ↓hl136, ha137, hu137, ↓hl137, ha138, hu138, ↓hl138, ha139, hu139, ↓hl139, ha140, hu140, ↓hl140, ha141, hu141, ↓hl141, ha142, hu142, ↓hl142, ha143, hu143, ↓hl143, ha144, hu144, ↓hl144, ha145, hu145, ↓hl145, ha146, hu146, ↓hl146, ha147, hu147, ↓hl147, e0', if_true]
  · rw [List.concat_eq_append] at e
    subst e
    have hl' : t.length + 1 ≤ 10 := by simpa using hl
    have e0' : gI (sI M 133 0 0) 133 36 = (t.length : Int) + 1 := by rw [e0, List.length_append]; rfl
    have hou : okU u := ho.2.1 u (by simp)
    have hu := h0.2.1.2 t.length u (by simp)
    obtain ⟨M1, r1, r2, r3, r4, r5⟩ := X7_cp (z := z) (M := sI (sI M 133 0 0) 133 36 t.length) (a := 145) (b := 134) (o := 183 * t.length) (q := 0) (na := 1830) (nb := 183) rfl rfl (by decide) (by decide) (by omega) (by omega) (Or.inl (by omega))
    have e1 : gI M1 133 36 = (t.length : Int) := by rw [r3, gI_sI, if_pos ⟨rfl, rfl⟩]
    have eI : ∀ k, k ≠ 36 → gI M1 133 k = gI (sI M 133 0 0) 133 k := fun k hk => by rw [r3, gI_sI, if_neg (by omega)]
    have eA : ∀ a, a ≠ 134 → ∀ k, gA M1 a k = gA M a k := fun a ha k => by rw [r4 a k (Or.inl ha), gA_sI, gA_sI]
    rw [List.getLast?_concat, List.dropLast_concat]
    refine ⟨M1, _, ?_, fun _ => rfl, (eI 0 (by omega)).trans sI00, ⟨?_, ⟨e1, fun i v hv => ?_⟩, ?_, ?_⟩, ⟨fun a ha => ⟨fun k => ?_, fun k => eA a (by omega) k⟩, fun k hk => ?_⟩⟩
    · have g0 : ¬ (t.length : Int) + 1 = 0 := by omega
      have em : (183 : Int) * (t.length : Int) = ((183 * t.length : Nat) : Int) := by omega
      unfold m_X7_undo
      simp (disch := omega) only [ji1, ji2, ji3, ji4, ji5, ji6, ji7, ji8, ji9, ji10, ji11, ji12, ji13, ji14, ji15, ji16, ji19, ji20, ji39, ji119, ji144, ji366, ji24, ji31, ji32, ji45, ji48, ji57, ji58, ji59, ji97, ji120, ji122, ji183, ji200, ji226, ji240, ji255, ji500, jI_z, ↓jI_m1, jI_add, jI_sub, jI_mul, ↓hg133_0, hw133_0, ↓hg133_1, ↓hg133_2, ↓hg133_3, hw133_3, ↓hg133_4, hw133_4, ↓hg133_5, hw133_5, ↓hg133_6, hw133_6, ↓hg133_7, hw133_7, ↓hg133_8, hw133_8, ↓hg133_9, hw133_9, ↓hg133_10, hw133_10, ↓hg133_11, hw133_11, ↓hg133_12, hw133_12, ↓hg133_13, ↓hg133_14, hw133_14, ↓hg133_15, ↓hg133_16, ↓hg133_17, ↓hg133_18, ↓hg133_19, ↓hg133_20, ↓hg133_21, hw133_21, ↓hg133_22, ↓hg133_23, hw133_23, ↓hg133_24, hw133_24, ↓hg133_25, hw133_25, ↓hg133_26, hw133_26, ↓hg133_27, hw133_27, ↓hg133_28, ↓hg133_29, hw133_29, ↓hg133_30, hw133_30, ↓hg133_31, hw133_31, ↓hg133_32, hw133_32, ↓hg133_33, hw133_33, ↓hg133_34, hw133_34, ↓hg133_35, hw133_35, ↓hg133_36, hw133_36, ↓hg133_37, ↓hg133_38, ↓hg133_39, ↓hv133, ↓hx133, ha134, hu134, ↓hl134, ha135, hu135, ↓hl135, ha136, hu136, ↓hl136, ha137, hu137, ↓hl137, ha138, hu138, ↓hl138, ha139, hu139, ↓hl139, ha140, hu140, ↓hl140, ha141, hu141, ↓hl141, ha142, hu142, ↓hl142, ha143, hu143, ↓hl143, ha144, hu144, ↓hl144, ha145, hu145, ↓hl145, ha146, hu146, ↓hl146, ha147, hu147, ↓hl147, e0', jI_eq, g0, if_false, show (t.length : Int) + 1 - 1 = t.length by omega, gI_sI, and_self, if_true, em]
      rw [show jI 0 = jI ((0 : Nat) : Int) from rfl, r1]
      simp (disch := omega) only [↓mo_cs_s, ↓mo_xs_r, ↓mo_xs_l, ↓mo_nl_s, mo_z_0, mo_z_1, ↓hg133_0, hw133_0, ↓hg133_1, ↓hg133_2, ↓hg133_3, hw133_3, ↓hg133_4, hw133_4, ↓hg133_5, hw133_5, ↓hg133_6, hw133_6, ↓hg133_7, hw133_7, ↓hg133_8, hw133_8, ↓hg133_9, hw133_9, ↓hg133_10, hw133_10, ↓hg133_11, hw133_11, ↓hg133_12, hw133_12, ↓hg133_13, ↓hg133_14, hw133_14, ↓hg133_15, ↓hg133_16, ↓hg133_17, ↓hg133_18, ↓hg133_19, ↓hg133_20, ↓hg133_21, hw133_21, ↓hg133_22, ↓hg133_23, hw133_23, ↓hg133_24, hw133_24, ↓hg133_25, hw133_25, ↓hg133_26, hw133_26, ↓hg133_27, hw133_27, ↓hg133_28, ↓hg133_29, hw133_29, ↓hg133_30, hw133_30, ↓hg133_31, hw133_31, ↓hg133_32, hw133_32, ↓hg133_33, hw133_33, ↓hg133_34, hw133_34, ↓hg133_35, hw133_35, ↓hg133_36, hw133_36, ↓hg133_37, ↓hg133_38, ↓hg133_39, ↓hv133, ↓hx133, ha134, hu134, ↓hl134, ha135, hu135, ↓hl135, ha136, hu136, ↓hl136, ha137, hu137, ↓hl137, ha138, hu138, ↓hl138, ha139, hu139, ↓hl139, ha140, hu140, ↓hl140, ha141, hu141, ↓hl141, ha142, hu142, ↓hl142, ha143, hu143, ↓hl143, ha144, hu144, ↓hl144, ha145, hu145, ↓hl145, ha146, hu146, ↓hl146, ha147, hu147, ↓hl147, e1]
      simp only [List.length_append, List.length_singleton]
      rw [show ((t.length + 1 : Nat) : Int) - 1 = t.length by omega]
    · exact hu.cg hou (fun k hk => by
        have := r2 k hk
        rw [Nat.zero_add] at this
        rw [this]; rfl)
    · have hi : i < t.length := (List.getElem?_eq_some_iff.mp hv).1
      exact (h.2.1.2 i v (by simp only; rw [List.getElem?_append_left hi]; exact hv)).kp (fun k => eA 145 (by omega) _)
    · exact h.2.2.1.cg (eA 146 (by omega)) (eA 147 (by omega))
    · exact h.2.2.2.cg ((eI 3 (by omega)).trans (by rw [gI_sI, if_neg (by omega)])) ((eI 10 (by omega)).trans (by rw [gI_sI, if_neg (by omega)])) (eA 135 (by omega))
    · rw [r3, gI_sI, if_neg (by omega), gI_sI, if_neg (by omega)]
    · rw [r5]; rfl

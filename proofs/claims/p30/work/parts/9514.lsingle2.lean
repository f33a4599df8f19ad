variable {S : hSh}
theorem L_s42 {z r w pr q0 N : Nat} {q : hQ} (hr : isR S r) (hw : isP S w) (hd : r + 9 ≤ w) (h133 : 133 ≤ r) (ho : okQ q) (hpr : pr < 4) (hN : N ≤ 120) (hwk : weakV q.1.1 pr = (cntW (wkP q.1.1 pr) N : Nat)) : ∀ (d k fu : Nat) (M : hM) (o : Option hF), k + d = N → d < fu → CI M q → PE M w q.1.1.1 zE → okA3 o → o.or (at3 (atP q.1.1 pr) d k) = atkV q.1.1 pr →
    ∃ M', m_L_single_l42 z (z + r) (jI pr) fu (hp S z M) q0 (z + w) (jI N) (jI (cntW (wkP q.1.1 pr) k : Nat)) (jI (aI o)) (jI (mI o)) (jI k) = some ((jI 1, q0), hp S z M') ∧ CI M' q ∧ FZ r w M M' := by
  have hc := ho.1.1
  intro d
  induction d with
  | zero =>
    intro k fu M o hk hf hCI hP hoA hat
    obtain ⟨fu, rfl⟩ : ∃ g, fu = g + 1 := ⟨fu - 1, by omega⟩
    have hkN : k = N := by omega
    subst hkN
    have e : o.or (at3 (atP q.1.1 pr) 0 k) = o := by cases o <;> rfl
    rw [e] at hat
    have g : ¬ (k : Int) < k := by omega
    have ipr : 0 ≤ (pr : Int) ∧ (pr : Int) < 4 := by omega
    have wpr : okW (pr : Int) := ⟨by omega, by omega⟩
    have c1 := C_weak (S := S) (z := z) hCI ho wpr
    rw [show rWeak q pr = (0, weakV q.1.1 pr, q) from by unfold rWeak; rw [if_pos ipr, Int.toNat_natCast]] at c1
    obtain ⟨M1, n1, i1, k1⟩ := nvC c1 rfl
    have at' : ∀ (w : Nat), w ≤ 2 → ∀ M1, CI M1 q → OC S z M1 (m_X6_attack (hp S z M1) z (jI pr) (jI w)) eA (0, atI o w, q) := by
      intro w hw M1 hM1
      have := C_attack (S := S) (z := z) hM1 ho wpr (w := (w : Int)) ⟨by omega, by omega⟩
      rw [show rAttack q pr w = (0, atI o w, q) from by unfold rAttack; rw [if_pos ipr, if_pos (by omega), Int.toNat_natCast, hat]] at this
      exact this
    obtain ⟨M2, n2, i2, k2⟩ := nvC (at' 0 (by omega) M1 i1) rfl
    obtain ⟨M3, n3, i3, k3⟩ := nvC (at' 1 (by omega) M2 i2) rfl
    obtain ⟨M4, n4, i4, k4⟩ := nvC (at' 2 (by omega) M3 i3) rfl
    refine ⟨M4, ?_, i4, ((k1.fz.trans k2.fz (Nat.le_refl _)).trans k3.fz (Nat.le_refl _)).trans k4.fz (Nat.le_refl _)⟩
    have ew : weakV q.1.1 pr = ((cntW (wkP q.1.1 pr) k : Nat) : Int) := hwk
    unfold m_L_single_l42
    simp (disch := omega) only [ji1, ji2, ji3, ji4, ji5, ji6, ji7, ji8, ji9, ji10, ji11, ji12, ji13, ji14, ji15, ji16, ji19, ji20, ji24, ji31, ji32, ji39, ji45, ji48, ji57, ji58, ji59, ji60, ji97, ji100, ji119, ji120, ji122, ji144, ji200, ji226, ji240, ji255, ji300, ji366, ji400, ji500, ji1000, jI_z, ↓jI_m1, jI_add, jI_sub, jI_mul, ↓jm1000, ↓jm100, ↓jm10, ↓jm9, ji50, ji65280, ji1664525, ji252645135, ji858993459, ji1013904223, ji1431655765, ji2147483639, ji2147483647, jI_lt, g, if_false]
    rw [n1]
    simp only [ew, if_true]
    rw [show jI 0 = jI ((0 : Nat) : Int) from rfl, n2]
    have fin : ∀ a b : Int, a = b → m_L_single_j297 (hp S z M4) q0 (jI a) (jI b) = some ((jI 1, q0), hp S z M4) := by
      intro a b h
      subst h
      unfold m_L_single_j297
      simp only [if_true, ji1, ji2, ji3, ji4, ji5, ji6, ji7, ji8, ji9, ji10, ji11, ji12, ji13, ji14, ji15, ji16, ji19, ji20, ji24, ji31, ji32, ji39, ji45, ji48, ji57, ji58, ji59, ji60, ji97, ji100, ji119, ji120, ji122, ji144, ji200, ji226, ji240, ji255, ji300, ji366, ji400, ji500, ji1000, jI_z, ↓jI_m1, jI_add, jI_sub, jI_mul, ↓jm1000, ↓jm100, ↓jm10, ↓jm9, ji50, ji65280, ji1664525, ji252645135, ji858993459, ji1013904223, ji1431655765, ji2147483639, ji2147483647]
      exact mo_z_1
    cases o with
    | none =>
      rw [show aI none = -1 from rfl, show mI none = 0 from rfl]
      rw [if_pos (show jI (-1) < jI ((0 : Nat) : Int) by decide)]
      unfold m_L_single_j253
      simp only [ji1, ji2, ji3, ji4, ji5, ji6, ji7, ji8, ji9, ji10, ji11, ji12, ji13, ji14, ji15, ji16, ji19, ji20, ji24, ji31, ji32, ji39, ji45, ji48, ji57, ji58, ji59, ji60, ji97, ji100, ji119, ji120, ji122, ji144, ji200, ji226, ji240, ji255, ji300, ji366, ji400, ji500, ji1000, jI_z, ↓jI_m1, jI_add, jI_sub, jI_mul, ↓jm1000, ↓jm100, ↓jm10, ↓jm9, ji50, ji65280, ji1664525, ji252645135, ji858993459, ji1013904223, ji1431655765, ji2147483639, ji2147483647]
      rw [if_pos (show jI (atI none ((0 : Nat) : Int)) = jI (-1) from rfl), show jI 1 = jI ((1 : Nat) : Int) from rfl, n3, if_pos (show jI (-1) < jI 0 by decide)]
      unfold m_L_single_j277
      simp only [ji1, ji2, ji3, ji4, ji5, ji6, ji7, ji8, ji9, ji10, ji11, ji12, ji13, ji14, ji15, ji16, ji19, ji20, ji24, ji31, ji32, ji39, ji45, ji48, ji57, ji58, ji59, ji60, ji97, ji100, ji119, ji120, ji122, ji144, ji200, ji226, ji240, ji255, ji300, ji366, ji400, ji500, ji1000, jI_z, ↓jI_m1, jI_add, jI_sub, jI_mul, ↓jm1000, ↓jm100, ↓jm10, ↓jm9, ji50, ji65280, ji1664525, ji252645135, ji858993459, ji1013904223, ji1431655765, ji2147483639, ji2147483647]
      rw [if_pos (show jI (atI none ((1 : Nat) : Int)) = jI (-1) from rfl), show jI 2 = jI ((2 : Nat) : Int) from rfl, n4, if_pos (show jI (-1) < jI 0 by decide)]
      exact fin _ _ rfl
    | some x =>
      have hx := hoA x rfl
      obtain ⟨x1, x2, x3, x4, x5, x6⟩ := hx
      rw [show aI (some x) = 1000 * x.2.1 + x.1 from rfl, show mI (some x) = x.2.2 from rfl]
      have gn : ¬ jI (1000 * x.2.1 + x.1) < jI 0 := by rw [jI_lt (by omega) (by omega) (by omega) (by omega)]; omega
      rw [show jI ((0 : Nat) : Int) = jI 0 from rfl, if_neg gn]
      simp (disch := omega) only [mo_rm_j, show (1000 * x.2.1 + x.1) % 1000 = x.1 from by omega]
      unfold m_L_single_j253
      simp only [ji1, ji2, ji3, ji4, ji5, ji6, ji7, ji8, ji9, ji10, ji11, ji12, ji13, ji14, ji15, ji16, ji19, ji20, ji24, ji31, ji32, ji39, ji45, ji48, ji57, ji58, ji59, ji60, ji97, ji100, ji119, ji120, ji122, ji144, ji200, ji226, ji240, ji255, ji300, ji366, ji400, ji500, ji1000, jI_z, ↓jI_m1, jI_add, jI_sub, jI_mul, ↓jm1000, ↓jm100, ↓jm10, ↓jm9, ji50, ji65280, ji1664525, ji252645135, ji858993459, ji1013904223, ji1431655765, ji2147483639, ji2147483647]
      rw [if_pos (show jI (atI (some x) ((0 : Nat) : Int)) = jI x.1 from rfl), show jI 1 = jI ((1 : Nat) : Int) from rfl, n3, if_neg gn]
      simp (disch := omega) only [mo_dv_j, show (1000 * x.2.1 + x.1) / 1000 = x.2.1 from by omega]
      unfold m_L_single_j277
      simp only [ji1, ji2, ji3, ji4, ji5, ji6, ji7, ji8, ji9, ji10, ji11, ji12, ji13, ji14, ji15, ji16, ji19, ji20, ji24, ji31, ji32, ji39, ji45, ji48, ji57, ji58, ji59, ji60, ji97, ji100, ji119, ji120, ji122, ji144, ji200, ji226, ji240, ji255, ji300, ji366, ji400, ji500, ji1000, jI_z, ↓jI_m1, jI_add, jI_sub, jI_mul, ↓jm1000, ↓jm100, ↓jm10, ↓jm9, ji50, ji65280, ji1664525, ji252645135, ji858993459, ji1013904223, ji1431655765, ji2147483639, ji2147483647]
      rw [if_pos (show jI (atI (some x) ((1 : Nat) : Int)) = jI x.2.1 from rfl), show jI 2 = jI ((2 : Nat) : Int) from rfl, n4, if_neg gn]
      exact fin _ _ rfl
  | succ d ih =>
    intro k fu M o hk hf hCI hP hoA hat
    obtain ⟨fu, rfl⟩ : ∃ g, fu = g + 1 := ⟨fu - 1, by omega⟩
    have g : (k : Int) < N := by omega
    have hk120 : k < 120 := by omega
    have hP1 := hP.d (v := 1) hk120
    have f1 : FL r w M (sA M (w + 3) k 1) := FL.ofN (m := w + 5) (Fr.sA (by omega)) (fun _ => rfl)
    obtain ⟨M2, b1, b2, b4, b5⟩ := L_one (z := z) (pr := pr) hr hw hd hc hpr (by omega) (by omega) (by omega) (fun x => by omega) hP1
    rw [mk_d] at b2
    have hP2 := (hP1.keep b4 (by omega)).d (v := 0) hk120
    rw [pt_pt, pt_id (E := zE) (j := 3 * k) (v := 0) rfl] at hP2
    have f3 : FL r w M2 (sA M2 (w + 3) k 0) := FL.ofN (m := w + 5) (Fr.sA (by omega)) (fun _ => rfl)
    have f4 := (f1.trans (FL.ofR (n := w) b4 b5) (Nat.le_refl _)).trans f3 (Nat.le_refl _)
    have hok1 : okA3 (at0 (atP q.1.1 pr) 0 k 1 0) := at0_ok (by omega) (by omega) 1 0 (by omega) (by omega)
    have hokR : okA3 ((at0 (atP q.1.1 pr) 1 k 1 0).or (at0 (atP q.1.1 pr) 2 k 20 1)) := (at0_ok (by omega) (by omega) 1 0 (by omega) (by omega)).or (at0_ok (by omega) (by omega) 20 1 (by omega) (by omega))
    have ho1 := hoA.or hok1
    obtain ⟨M3, c1, c2, c3⟩ := L_s100 (z := z) (q0 := q0) (N := (N : Int)) (we := ((cntW (wkP q.1.1 pr) (k + 1) : Nat) : Int)) (K42 := fun ρ y0 y1 y2 y3 y4 y5 y6 => m_L_single_l42 z (z + r) (jI pr) fu ρ y0 y1 y2 y3 y4 y5 y6) hr hw hd hc hpr hk120 ho1 hP2
    have f5 := f4.trans c3 (Nat.le_refl _)
    have hCI3 := hCI.kl ho (f5.kl h133 (by omega))
    have hat3 : ((o.or (at0 (atP q.1.1 pr) 0 k 1 0)).or ((at0 (atP q.1.1 pr) 1 k 1 0).or (at0 (atP q.1.1 pr) 2 k 20 1))).or (at3 (atP q.1.1 pr) d ((k + 1 : Nat) : Int)) = atkV q.1.1 pr := by
      rw [← hat]
      show _ = o.or ((at2 (atP q.1.1 pr) k).or (at3 (atP q.1.1 pr) d ((k : Int) + 1)))
      unfold at2
      simp only [Option.or_assoc]; rfl
    obtain ⟨M', r1, r2, r3⟩ := ih (k + 1) fu M3 _ (by omega) (by omega) hCI3 c2 (ho1.or hokR) hat3
    refine ⟨M', ?_, r2, f5.fz.trans r3 (Nat.le_refl _)⟩
    rw [r1] at c1
    unfold m_L_single_l42
    simp (disch := omega) only [ji1, ji2, ji3, ji4, ji5, ji6, ji7, ji8, ji9, ji10, ji11, ji12, ji13, ji14, ji15, ji16, ji19, ji20, ji24, ji31, ji32, ji39, ji45, ji48, ji57, ji58, ji59, ji60, ji97, ji100, ji119, ji120, ji122, ji144, ji200, ji226, ji240, ji255, ji300, ji366, ji400, ji500, ji1000, jI_z, ↓jI_m1, jI_add, jI_sub, jI_mul, ↓jm1000, ↓jm100, ↓jm10, ↓jm9, ji50, ji65280, ji1664525, ji252645135, ji858993459, ji1013904223, ji1431655765, ji2147483639, ji2147483647, jI_lt, g, if_true, ↓Pg0 hw, ↓Pg1 hw, ↓Pg2 hw, ↓Pg3 hw, ↓Pv hw, Pa1 hw, Pu1 hw, Pa2 hw, Pu2 hw, Pa3 hw, Pu3 hw, Pa4 hw, Pu4 hw, Int.toNat_natCast, nar_z1, ↓Rv hr]
    rw [b1]
    simp only [↓mo_cs_s, ↓Rv hr]
    rw [b2]
    simp (disch := omega) only [↓mo_cs_s, ↓Pg0 hw, ↓Pg1 hw, ↓Pg2 hw, ↓Pg3 hw, ↓Pv hw, Pa1 hw, Pu1 hw, Pa2 hw, Pu2 hw, Pa3 hw, Pu3 hw, Pa4 hw, Pu4 hw, nar_z0, Int.toNat_natCast]
    have ecn : cntW (wkP q.1.1 pr) (k + 1) = cntW (wkP q.1.1 pr) k + if wkP q.1.1 pr k = true then 1 else 0 := rfl
    have eat : at0 (atP q.1.1 pr) 0 k 1 0 = if wkP q.1.1 pr k = true then some (0, (k : Int), 0) else none := rfl
    have ewk : atP q.1.1 pr (0, (k : Int), 0) = wkP q.1.1 pr k := rfl
    rw [ewk]
    by_cases hb : wkP q.1.1 pr k = true
    · rw [bT hb]
      rw [eat, if_pos hb] at c1
      rw [ecn, if_pos hb] at c1
      cases o with
      | none =>
        rw [if_pos (show jI (aI none) < jI 0 by decide)]
        simp only [Option.none_or, aI, mI, Int.add_zero] at c1
        rw [show ((cntW (wkP q.1.1 pr) k : Nat) : Int) + 1 = ((cntW (wkP q.1.1 pr) k + 1 : Nat) : Int) from rfl]
        exact c1
      | some x =>
        have hx := hoA x rfl
        obtain ⟨x1, x2, x3, x4, x5, x6⟩ := hx
        rw [if_neg (show ¬ jI (aI (some x)) < jI 0 by show ¬ jI (1000 * x.2.1 + x.1) < jI 0; rw [jI_lt (by omega) (by omega) (by omega) (by omega)]; omega)]
        rw [show ((cntW (wkP q.1.1 pr) k : Nat) : Int) + 1 = ((cntW (wkP q.1.1 pr) k + 1 : Nat) : Int) from rfl]
        exact c1
    · have hb : wkP q.1.1 pr k = false := by simpa using hb
      rw [bF hb]
      rw [eat, if_neg (by rw [hb]; decide), Option.or_none] at c1
      rw [ecn, if_neg (by rw [hb]; decide), Nat.add_zero] at c1
      exact c1
theorem L_single {z p r n pr : Nat} {M : hM} {q : hQ} (hq : isP S p) (hr : isR S r) (hd : p + 5 ≤ r ∨ r + 9 ≤ p) (hpn : p + 5 ≤ n) (hrn : r + 9 ≤ n) (h133 : 133 ≤ r) (ho : okQ q) (hCI : CI M q) (hP : PL M p q.1.1) (hpr : pr < 4) :
    ∃ S' M', m_L_single (hp S z M) z (z + p) (z + r) (jI pr) (z + n) = some ((jI 1, z + (n + 5)), hp S' z M') ∧ CI M' q ∧ SK n S S' ∧ FZ r n M M' := by
  have hc := ho.1.1
  obtain ⟨E, hE, hPE, hcE⟩ := hP
  have hlen : (fl E 360 0).length ≤ 30 := by rw [← hcE]; have := hc.1; omega
  obtain ⟨S1, M1, a1, a2, a3, a4, a5, a6⟩ := X7_part (S := S) (z := z) (m := 0) hq hpn (by omega) hE hPE (by omega) hlen
  have hz : PE M1 n q.1.1.1 zE := a6.cg (fun j _ => by unfold pE zE; simp [Nat.zero_testBit])
  have hr1 := hr.sk a3 hrn
  obtain ⟨M2, b1, b2, b3, b4, b5⟩ := X8_gb (z := z) (pr := pr) hr1 a2 (by omega) hc.nil (PL_0 hz) hpr
  have f2 : FL r n M M2 := (FL.ofN a4 a5).trans (FL.ofR (n := n) b4 b5) (Nat.le_refl _)
  have hz2 := hz.keep b4 (by omega)
  have hCI2 := hCI.kl ho (f2.kl h133 (by omega))
  have hN := zN_le hc.nil
  have h9 : gI M2 r 9 = ((zR (q.1.1.1, [])).2.1.length : Nat) := (WR_get b3).2.2.2.1.1
  by_cases hb : brk (q.1.1.1, []) pr = true
  · obtain ⟨M', r1, r2, r3⟩ := L_s42 (z := z) (pr := pr) (q0 := z + (n + 5)) (N := 0) hr1 a2 hrn h133 ho hpr (by omega) (by unfold weakV; rw [if_pos hb]; rfl) 0 0 hN_f M2 none (by omega) (by unfold hN_f; omega) hCI2 hz2 (fun x hx => by cases hx) (by unfold atkV; rw [if_pos hb]; rfl)
    refine ⟨S1, M', ?_, r2, a3, f2.fz.trans r3 (Nat.le_refl _)⟩
    unfold m_L_single
    simp only [↓Pv hq, ji1, ji2, ji3, ji4, ji5, ji6, ji7, ji8, ji9, ji10, ji11, ji12, ji13, ji14, ji15, ji16, ji19, ji20, ji24, ji31, ji32, ji39, ji45, ji48, ji57, ji58, ji59, ji60, ji97, ji100, ji119, ji120, ji122, ji144, ji200, ji226, ji240, ji255, ji300, ji366, ji400, ji500, ji1000, jI_z, ↓jI_m1, jI_add, jI_sub, jI_mul, ↓jm1000, ↓jm100, ↓jm10, ↓jm9, ji50, ji65280, ji1664525, ji252645135, ji858993459, ji1013904223, ji1431655765, ji2147483639, ji2147483647]
    rw [show jI 0 = jI ((0 : Nat) : Int) from rfl, a1]
    simp only [↓mo_cs_s, ↓Rv hr1]
    rw [b1]
    simp only [↓mo_cs_s, ↓Rv hr1]
    rw [b2]
    simp only [↓mo_cs_s]
    rw [show jI ((0 : Nat) : Int) = jI 0 from rfl, bT hb]
    unfold m_L_single_j28
    simp only [ji1, ji2, ji3, ji4, ji5, ji6, ji7, ji8, ji9, ji10, ji11, ji12, ji13, ji14, ji15, ji16, ji19, ji20, ji24, ji31, ji32, ji39, ji45, ji48, ji57, ji58, ji59, ji60, ji97, ji100, ji119, ji120, ji122, ji144, ji200, ji226, ji240, ji255, ji300, ji366, ji400, ji500, ji1000, jI_z, ↓jI_m1, jI_add, jI_sub, jI_mul, ↓jm1000, ↓jm100, ↓jm10, ↓jm9, ji50, ji65280, ji1664525, ji252645135, ji858993459, ji1013904223, ji1431655765, ji2147483639, ji2147483647]
    exact r1
  · have hb : brk (q.1.1.1, []) pr = false := by simpa using hb
    obtain ⟨M', r1, r2, r3⟩ := L_s42 (z := z) (pr := pr) (q0 := z + (n + 5)) (N := (zR (q.1.1.1, [])).2.1.length) hr1 a2 hrn h133 ho hpr hN (by unfold weakV; rw [if_neg (by rw [hb]; decide), ← wk_far hb hc]) (zR (q.1.1.1, [])).2.1.length 0 hN_f M2 none (by omega) (by unfold hN_f; omega) hCI2 hz2 (fun x hx => by cases hx) (by unfold atkV; rw [if_neg (by rw [hb]; decide)]; rfl)
    refine ⟨S1, M', ?_, r2, a3, f2.fz.trans r3 (Nat.le_refl _)⟩
    unfold m_L_single
    simp only [↓Pv hq, ji1, ji2, ji3, ji4, ji5, ji6, ji7, ji8, ji9, ji10, ji11, ji12, ji13, ji14, ji15, ji16, ji19, ji20, ji24, ji31, ji32, ji39, ji45, ji48, ji57, ji58, ji59, ji60, ji97, ji100, ji119, ji120, ji122, ji144, ji200, ji226, ji240, ji255, ji300, ji366, ji400, ji500, ji1000, jI_z, ↓jI_m1, jI_add, jI_sub, jI_mul, ↓jm1000, ↓jm100, ↓jm10, ↓jm9, ji50, ji65280, ji1664525, ji252645135, ji858993459, ji1013904223, ji1431655765, ji2147483639, ji2147483647]
    rw [show jI 0 = jI ((0 : Nat) : Int) from rfl, a1]
    simp only [↓mo_cs_s, ↓Rv hr1]
    rw [b1]
    simp only [↓mo_cs_s, ↓Rv hr1]
    rw [b2]
    simp only [↓mo_cs_s]
    rw [show jI ((0 : Nat) : Int) = jI 0 from rfl, bF hb]
    simp only [↓Rg9 hr1, h9]
    unfold m_L_single_j28
    simp only [ji1, ji2, ji3, ji4, ji5, ji6, ji7, ji8, ji9, ji10, ji11, ji12, ji13, ji14, ji15, ji16, ji19, ji20, ji24, ji31, ji32, ji39, ji45, ji48, ji57, ji58, ji59, ji60, ji97, ji100, ji119, ji120, ji122, ji144, ji200, ji226, ji240, ji255, ji300, ji366, ji400, ji500, ji1000, jI_z, ↓jI_m1, jI_add, jI_sub, jI_mul, ↓jm1000, ↓jm100, ↓jm10, ↓jm9, ji50, ji65280, ji1664525, ji252645135, ji858993459, ji1013904223, ji1431655765, ji2147483639, ji2147483647]
    exact r1
/-! THE LAW'S THINGS between its steps: plan, run, recorded states, seed. -/
def wD (M : hM) (e : Nat) (W : Nat → Nat) : Prop := ∀ s t, s < 9 → t < 16 → gA M e (16 * s + t) = if (W s).testBit t = true then 1 else 0
def LX (S : hSh) (M : hM) (p r e g n : Nat) (q : hQ) : Prop := isP S p ∧ isR S r ∧ lA S e 2 144 ∧ lA S g 0 1 ∧ (133 ≤ g ∧ g < p ∧ p + 5 ≤ e ∧ e < r ∧ r + 9 ≤ n) ∧ PL M p q.1.1 ∧ wD M e q.1.2 ∧ CI M q ∧ okQ q ∧ q.1.1.2.length ≤ 6 ∧ q.2.2.2.1 = []
theorem LX.fz {S S' : hSh} {M M' : hM} {p r e g n n' : Nat} {q : hQ} (h : LX S M p r e g n q) (hf : FZ r n M M') (hCI : CI M' q) (hs : SK n S S') (hn : n ≤ n') : LX S' M' p r e g n' q := by
  obtain ⟨h1, h2, h3, h4, h5, h6, h7, h8, h9, h10⟩ := h
  exact ⟨h1.sk hs (by omega), h2.sk hs (by omega), h3.sk hs (by omega), h4.sk hs (by omega), by omega, h6.fz hf (by omega) (by omega) (by omega), fun s t a b => by rw [(hf e (by omega) (by omega) (by omega)).2]; exact h7 s t a b, hCI, h9, h10⟩
theorem LX.fl {S S' : hSh} {M M' : hM} {p r e g n n' : Nat} {q : hQ} (h : LX S M p r e g n q) (hf : FL r n M M') (hs : SK n S S') (hn : n ≤ n') : LX S' M' p r e g n' q :=
  h.fz hf.fz (h.2.2.2.2.2.2.2.1.kl h.2.2.2.2.2.2.2.2.1 (hf.kl (by have := h.2.2.2.2.1; omega) (by have := h.2.2.2.2.1; omega))) hs hn
theorem LX.km {S : hSh} {M M' : hM} {p r e g n : Nat} {q : hQ} (h : LX S M p r e g n q) (hk : KM M M') (hCI : CI M' q) : LX S M' p r e g n q := h.fz hk.fz hCI SK.rfl' (Nat.le_refl _)
theorem LX.dr {S : hSh} {M : hM} {p r e g n : Nat} {q : hQ} (h : LX S M p r e g n q) (u : Int) : LX S (sA M g 0 u) p r e g n q := by
  obtain ⟨h1, h2, h3, h4, h5, h6, h7, h8, h9, h10⟩ := h
  have f : Fr g (g + 1) M (sA M g 0 u) := Fr.sA (by omega)
  exact ⟨h1, h2, h3, h4, h5, h6.keep f (by omega), fun s t a b => by rw [gA_ne (by omega)]; exact h7 s t a b, h8.kl h9 (show KL M (sA M g 0 u) from ⟨fun a ha => f a (by omega), fun _ => rfl⟩), h9, h10⟩
/-- a draw between -/
theorem LX.draw {S : hSh} {z : Nat} {M : hM} {p r e g n : Nat} {q : hQ} {m : Int} (h : LX S M p r e g n q) (h0 : 0 < m) (h1 : m < 2147483648) : ∃ v u : Int, m_L_draw (hp S z M) (z + g) (jI m) = some (jI v, hp S z (sA M g 0 u)) ∧ 0 ≤ v ∧ v < m ∧ LX S (sA M g 0 u) p r e g n q := by
  obtain ⟨v, u, d1, d2, d3⟩ := L_draw (z := z) (M := M) h.2.2.2.1 h0 h1
  exact ⟨v, u, d1, d2, d3, h.dr u⟩

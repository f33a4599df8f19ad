variable {S : hSh}
/-! TRIALS: the least amount, the least timer. -/
/-- what a question of the class leaves as it was -/
def FD (M M' : hM) : Prop := (∀ a, a < 8 ∨ 30 ≤ a → (∀ k, gI M' a k = gI M a k) ∧ ∀ k, gA M' a k = gA M a k) ∧ Vx 0 M M'
theorem FD.rfl' {M : hM} : FD M M := ⟨fun _ _ => ⟨fun _ => rfl, fun _ => rfl⟩, fun _ _ => rfl⟩
theorem FD.trans {M M' M'' : hM} (h : FD M M') (h' : FD M' M'') : FD M M'' := ⟨fun a ha => ⟨fun k => ((h'.1 a ha).1 k).trans ((h.1 a ha).1 k), fun k => ((h'.1 a ha).2 k).trans ((h.1 a ha).2 k)⟩, fun k hk => (h'.2 k hk).trans (h.2 k hk)⟩
theorem FC.d {M M' : hM} (h : FC M M') : FD M M' := ⟨fun a ha => h.1 a (by omega), h.2⟩
theorem FD.of {M M' : hM} {lo hi : Nat} (h : Fr lo hi M M') (hv : Vr M M') (h1 : 8 ≤ lo) (h2 : hi ≤ 30) : FD M M' := ⟨fun a ha => h a (by omega), fun k _ => hv k⟩
theorem FD.of15 {M M' : hM} (h : Fr 15 30 M M') (hv : Vx 0 M M') : FD M M' := ⟨fun a ha => h a (by omega), hv⟩
theorem BR.cg {M M' : hM} {b : Nat} {c : hCf} (h : BR M b c) (e : ∀ a, b ≤ a → a < b + 5 → (∀ k, gI M' a k = gI M a k) ∧ ∀ k, gA M' a k = gA M a k) : BR M' b c :=
  ⟨fun k hk => by rw [(e (b + 1) (by omega) (by omega)).2, h.1 k hk], by rw [(e b (by omega) (by omega)).1, h.2.1], fun i x hx => by
    rw [(e (b + 2) (by omega) (by omega)).2, (e (b + 3) (by omega) (by omega)).2, (e (b + 4) (by omega) (by omega)).2]; exact h.2.2 i x hx⟩
theorem FD.br {M M' : hM} {c : hCf} (h : FD M M') (hB : BR M 1 c) : BR M' 1 c := hB.cg (fun a _ _ => h.1 a (by omega))
theorem FD.rs {M M' : hM} {r : Nat → Nat} (h : FD M M') (hB : RS M 6 r) : RS M' 6 r := fun k hk => by rw [(h.1 7 (by omega)).2]; exact hB k hk
theorem X0_ta {z a b : Nat} {M : hM} {c : hCf} {r : Nat → Nat} (ha : isB a = true) (hb : isB b = true) (hne : a ≠ b) (hA : BR M a c) (hr : RS M (a + 5) r) (hc : okC c) :
    ∃ M', m_X0_takeAll (hp S z M) (z + b) (z + a) = some ((), hp S z M') ∧ BR M' b c ∧ RS M' (b + 5) r ∧ Fr b (b + 7) M M' ∧ Vr M M' := by
  obtain ⟨M1, r1, r2, r3, r4⟩ := X0_tp (S := S) (z := z) ha hb hA hc bits_all
  rw [prt_all] at r2
  have hf := isB_far ha hb hne
  have hs := B_s hb
  have hr1 : RS M1 (a + 5) r := hr.keep r3 (by omega)
  obtain ⟨M2, s1, s2, s3, s4⟩ := X5_ta (S := S) (z := z) (s := b + 5) (a := a + 5) hs (B_s ha) hr1
  refine ⟨M2, ?_, r2.keep s3 (by omega), s2, (r3.mono (by omega) (by omega)).trans (s3.mono (by omega) (by omega)), r4.trans s4⟩
  unfold m_X0_takeAll
  simp (disch := omega) only [ji1, ji2, ji3, ji4, ji5, ji6, ji7, ji8, ji9, ji10, ji11, ji12, ji13, ji14, ji15, ji16, ji19, ji20, ji24, ji31, ji32, ji39, ji45, ji48, ji57, ji58, ji59, ji60, ji97, ji100, ji119, ji120, ji122, ji144, ji200, ji226, ji240, ji255, ji300, ji366, ji400, ji500, ji1000, jI_z, ↓jI_m1, jI_add, jI_sub, jI_mul, ↓Bg0 hb, ↓Bg1 hb, ↓Bg2 hb, ↓Bg3 hb, ↓Bg5 hb, ↓Bg4 hb, Bw4 hb, ↓Bv hb, Ba1 hb, Bu1 hb, Ba2 hb, Bu2 hb, Ba3 hb, Bu3 hb, Ba4 hb, Bu4 hb]
  rw [r1]
  simp (disch := omega) only [ji1, ji2, ji3, ji4, ji5, ji6, ji7, ji8, ji9, ji10, ji11, ji12, ji13, ji14, ji15, ji16, ji19, ji20, ji24, ji31, ji32, ji39, ji45, ji48, ji57, ji58, ji59, ji60, ji97, ji100, ji119, ji120, ji122, ji144, ji200, ji226, ji240, ji255, ji300, ji366, ji400, ji500, ji1000, jI_z, ↓jI_m1, jI_add, jI_sub, jI_mul, ↓mo_ns_r, ↓hn0, ↓mo_cs_s, ↓mo_xs_r, ↓mo_xs_l, ↓mo_nl_s, mo_z_0, mo_z_1, ↓Bg0 hb, ↓Bg1 hb, ↓Bg2 hb, ↓Bg3 hb, ↓Bg5 hb, ↓Bg4 hb, Bw4 hb, ↓Bv hb, Ba1 hb, Bu1 hb, Ba2 hb, Bu2 hb, Ba3 hb, Bu3 hb, Ba4 hb, Bu4 hb, ↓Bg0 ha, ↓Bg1 ha, ↓Bg2 ha, ↓Bg3 ha, ↓Bg5 ha, ↓Bg4 ha, Bw4 ha, ↓Bv ha, Ba1 ha, Bu1 ha, Ba2 ha, Bu2 ha, Ba3 ha, Bu3 ha, Ba4 ha, Bu4 ha, ↓Sg0 hs, ↓Sv hs, Sa hs, Su hs]
  rw [s1]
  rfl
def lsA (P : Int → Bool) : Nat → Int → Int
  | 0, _ => -1
  | n + 1, a => if P a = true then a else lsA P n (a + 1)
theorem lsA_in {P : Int → Bool} : ∀ (n : Nat) (a : Int), lsA P n a = -1 ∨ (a ≤ lsA P n a ∧ lsA P n a < a + n) := by
  intro n
  induction n with
  | zero => intro a; exact Or.inl rfl
  | succ n ih =>
    intro a
    simp only [lsA]
    split
    · right; omega
    · rcases ih (a + 1) with h | h
      · exact Or.inl h
      · right; omega
def amtF (v : Int) (x : hF) : hF := (x.1, x.2.1, v)
def cA (c : hCf) (f : Nat) (v : Int) : hCf := (c.1, c.2.modify f (amtF v))
theorem amt2 {l : List hF} {f : Nat} {v w : Int} : (l.modify f (amtF v)).modify f (amtF w) = l.modify f (amtF w) := by
  apply List.ext_getElem?
  intro i
  simp only [List.getElem?_modify]
  cases l[i]? with
  | none => simp
  | some x => by_cases h : f = i <;> simp [h, amtF]
theorem amt1 {l : List hF} {f : Nat} {x : hF} (h : l[f]? = some x) : l.modify f (amtF x.2.2) = l := by
  apply List.ext_getElem?
  intro i
  simp only [List.getElem?_modify]
  by_cases e : f = i
  · subst e; rw [h]; simp [amtF]
  · cases l[i]? with
    | none => simp
    | some y => simp [e]
theorem okC.amt {c : hCf} (h : okC c) {f : Nat} {v : Int} (hv : 0 ≤ v ∧ v ≤ 20) : okC (cA c f v) := by
  refine ⟨by show (c.2.modify f (amtF v)).length ≤ 10; rw [List.length_modify]; exact h.1, fun x hx => ?_, h.2.2⟩
  obtain ⟨i, hi⟩ := List.mem_iff_getElem?.mp hx
  simp only [cA, List.getElem?_modify] at hi
  cases hq : c.2[i]? with
  | none => rw [hq] at hi; simp at hi
  | some y =>
    rw [hq] at hi
    have hy := h.at hq
    by_cases e : f = i
    · simp [e] at hi; subst hi; exact ⟨hy.1, hy.2.1, hy.2.2.1, hy.2.2.2.1, hv.1, hv.2⟩
    · simp [e] at hi; subst hi; exact hy
theorem jI_2ne {v : Int} (h0 : 0 ≤ v) (h1 : v ≤ 20) : (jI v = jI 2) = (v = 2) := jI_eq (by omega) (by omega) (by omega) (by omega)
theorem X6_la_l {z f p : Nat} {most : Int} {c : hCf} (hc : okC c) (hf : f < c.2.length) (hp' : p < 4) (hm : most ≤ 20) : ∀ (n : Nat) (a : Int) (fu : Nat) (M : hM) (l : List hF), a + n = most + 1 → 1 ≤ a → n < fu → BR M 8 (c.1, l) → okC (c.1, l) → l.length = c.2.length → (∀ v, l.modify f (amtF v) = c.2.modify f (amtF v)) →
    ∃ M', m_X6_findLeastAmount_l39 z (jI f) (jI p) fu (hp S z M) (jI most) (jI a) = some (jI (lsA (fun v => brk (cA c f v) p) n a), hp S z M') ∧ FD M M' := by
  intro n
  induction n with
  | zero =>
    intro a fu M l ha h1 hfu hB hl hlen hmod
    obtain ⟨fu, rfl⟩ : ∃ k, fu = k + 1 := ⟨fu - 1, by omega⟩
    refine ⟨M, ?_, FD.rfl'⟩
    have g : most < a := by omega
    unfold m_X6_findLeastAmount_l39
    simp (disch := omega) only [ji1, ji2, ji3, ji4, ji5, ji6, ji7, ji8, ji9, ji10, ji11, ji12, ji13, ji14, ji15, ji16, ji19, ji20, ji24, ji31, ji32, ji39, ji45, ji48, ji57, ji58, ji59, ji60, ji97, ji100, ji119, ji120, ji122, ji144, ji200, ji226, ji240, ji255, ji300, ji366, ji400, ji500, ji1000, jI_z, ↓jI_m1, jI_add, jI_sub, jI_mul, jI_lt, g, if_true]
    rfl
  | succ n ih =>
    intro a fu M l ha h1 hfu hB hl hlen hmod
    obtain ⟨fu, rfl⟩ : ∃ k, fu = k + 1 := ⟨fu - 1, by omega⟩
    obtain ⟨M1, r1, r2, r3, r4⟩ := X0_cha (S := S) (z := z) (v := a) (b := 8) rfl hB hl (i := f) (by show f < l.length; omega)
    have r2' : BR M1 8 (cA c f a) := by
      have : l.modify f (amtF a) = c.2.modify f (amtF a) := hmod a
      unfold cA; rw [← this]; exact r2
    have ok1 : okC (cA c f a) := hc.amt (by omega)
    obtain ⟨M2, s1, s2, s3, s4⟩ := X6_brk (S := S) (z := z) (b := 8) (p := p) (Or.inr rfl) r2' ok1 hp'
    have g : ¬ most < a := by omega
    have F2 : FD M M2 := (FD.of r3 r4 (by omega) (by omega)).trans (FD.of15 s3 s4)
    cases hb : brk (cA c f a) p with
    | true =>
      refine ⟨M2, ?_, F2⟩
      unfold m_X6_findLeastAmount_l39
      simp (disch := omega) only [ji1, ji2, ji3, ji4, ji5, ji6, ji7, ji8, ji9, ji10, ji11, ji12, ji13, ji14, ji15, ji16, ji19, ji20, ji24, ji31, ji32, ji39, ji45, ji48, ji57, ji58, ji59, ji60, ji97, ji100, ji119, ji120, ji122, ji144, ji200, ji226, ji240, ji255, ji300, ji366, ji400, ji500, ji1000, jI_z, ↓jI_m1, jI_add, jI_sub, jI_mul, jI_lt, g, if_false, ↓hg0_0, ↓hg0_1, ↓hg0_2, ↓hg0_3, ↓hg0_4, ↓hg0_5, hw0_5, ↓hg0_6, ↓hg0_7, ↓hv0, ↓hx0, ha132, hu132, ↓hl132, ↓Bv (b := 8) rfl]
      rw [r1]
      simp (disch := omega) only [ji1, ji2, ji3, ji4, ji5, ji6, ji7, ji8, ji9, ji10, ji11, ji12, ji13, ji14, ji15, ji16, ji19, ji20, ji24, ji31, ji32, ji39, ji45, ji48, ji57, ji58, ji59, ji60, ji97, ji100, ji119, ji120, ji122, ji144, ji200, ji226, ji240, ji255, ji300, ji366, ji400, ji500, ji1000, jI_z, ↓jI_m1, jI_add, jI_sub, jI_mul, ↓mo_ns_r, ↓hn0, ↓mo_cs_s, ↓mo_xs_r, ↓mo_xs_l, ↓mo_nl_s, mo_z_0, mo_z_1, ↓hg0_0, ↓hg0_1, ↓hg0_2, ↓hg0_3, ↓hg0_4, ↓hg0_5, hw0_5, ↓hg0_6, ↓hg0_7, ↓hv0, ↓hx0, ha132, hu132, ↓hl132]
      rw [s1, hb]
      simp (disch := omega) only [ji1, ji2, ji3, ji4, ji5, ji6, ji7, ji8, ji9, ji10, ji11, ji12, ji13, ji14, ji15, ji16, ji19, ji20, ji24, ji31, ji32, ji39, ji45, ji48, ji57, ji58, ji59, ji60, ji97, ji100, ji119, ji120, ji122, ji144, ji200, ji226, ji240, ji255, ji300, ji366, ji400, ji500, ji1000, jI_z, ↓jI_m1, jI_add, jI_sub, jI_mul, ↓mo_ns_r, ↓hn0, ↓mo_cs_s, ↓mo_xs_r, ↓mo_xs_l, ↓mo_nl_s, mo_z_0, mo_z_1, b2i_0, Bool.true_eq_false, if_false]
      simp only [lsA, hb, if_true]
    | false =>
      obtain ⟨M3, t1, t2⟩ := ih (a + 1) fu M2 (c.2.modify f (amtF a)) (by omega) (by omega) (by omega) (r2'.keep s3 (by omega)) ok1 (by rw [List.length_modify]) (fun v => amt2)
      refine ⟨M3, ?_, F2.trans t2⟩
      unfold m_X6_findLeastAmount_l39
      simp (disch := omega) only [ji1, ji2, ji3, ji4, ji5, ji6, ji7, ji8, ji9, ji10, ji11, ji12, ji13, ji14, ji15, ji16, ji19, ji20, ji24, ji31, ji32, ji39, ji45, ji48, ji57, ji58, ji59, ji60, ji97, ji100, ji119, ji120, ji122, ji144, ji200, ji226, ji240, ji255, ji300, ji366, ji400, ji500, ji1000, jI_z, ↓jI_m1, jI_add, jI_sub, jI_mul, jI_lt, g, if_false, ↓hg0_0, ↓hg0_1, ↓hg0_2, ↓hg0_3, ↓hg0_4, ↓hg0_5, hw0_5, ↓hg0_6, ↓hg0_7, ↓hv0, ↓hx0, ha132, hu132, ↓hl132, ↓Bv (b := 8) rfl]
      rw [r1]
      simp (disch := omega) only [ji1, ji2, ji3, ji4, ji5, ji6, ji7, ji8, ji9, ji10, ji11, ji12, ji13, ji14, ji15, ji16, ji19, ji20, ji24, ji31, ji32, ji39, ji45, ji48, ji57, ji58, ji59, ji60, ji97, ji100, ji119, ji120, ji122, ji144, ji200, ji226, ji240, ji255, ji300, ji366, ji400, ji500, ji1000, jI_z, ↓jI_m1, jI_add, jI_sub, jI_mul, ↓mo_ns_r, ↓hn0, ↓mo_cs_s, ↓mo_xs_r, ↓mo_xs_l, ↓mo_nl_s, mo_z_0, mo_z_1, ↓hg0_0, ↓hg0_1, ↓hg0_2, ↓hg0_3, ↓hg0_4, ↓hg0_5, hw0_5, ↓hg0_6, ↓hg0_7, ↓hv0, ↓hx0, ha132, hu132, ↓hl132]
      rw [s1, hb]
      simp (disch := omega) only [ji1, ji2, ji3, ji4, ji5, ji6, ji7, ji8, ji9, ji10, ji11, ji12, ji13, ji14, ji15, ji16, ji19, ji20, ji24, ji31, ji32, ji39, ji45, ji48, ji57, ji58, ji59, ji60, ji97, ji100, ji119, ji120, ji122, ji144, ji200, ji226, ji240, ji255, ji300, ji366, ji400, ji500, ji1000, jI_z, ↓jI_m1, jI_add, jI_sub, jI_mul, ↓mo_ns_r, ↓hn0, ↓mo_cs_s, ↓mo_xs_r, ↓mo_xs_l, ↓mo_nl_s, mo_z_0, mo_z_1, b2i_0, if_true]
      rw [t1]
      simp only [lsA, hb, Bool.false_eq_true, if_false]
def leastV (c : hCf) (p f : Nat) : Int := match c.2[f]? with
  | some x => if x.1 = 2 then lsA (fun v => brk (cA c f v) p) x.2.2.toNat 1 else -1
  | none => -1
theorem leastV_in {c : hCf} (hc : okC c) {p f : Nat} : leastV c p f = -1 ∨ (1 ≤ leastV c p f ∧ leastV c p f ≤ 20) := by
  unfold leastV
  split
  · next x hx =>
    have ho := hc.at hx
    split
    · rcases lsA_in (P := fun v => brk (cA c f v) p) x.2.2.toNat 1 with h | h
      · exact Or.inl h
      · right
        have := ho.2.2.2.2
        omega
    · exact Or.inl rfl
  · exact Or.inl rfl
theorem X6_la {z f p : Nat} {M : hM} {c : hCf} {r : Nat → Nat} (hB : BR M 1 c) (hr : RS M 6 r) (hc : okC c) (hf : f < c.2.length) (hp' : p < 4) :
    ∃ M', m_X6_findLeastAmount (hp S z M) z (jI f) (jI p) = some (jI (leastV c p f), hp S z M') ∧ FD M M' := by
  have hx : c.2[f]? = some c.2[f] := List.getElem?_eq_getElem hf
  have e0 := X0_part (S := S) (z := z) (b := 1) (p := 0) rfl hB hc hx (by omega) (by omega)
  have ho := hc.at hx
  rw [if_pos rfl] at e0
  by_cases h2 : c.2[f].1 = 2
  · obtain ⟨M1, r1, r2, r3, r4, r5⟩ := X0_ta (S := S) (z := z) (a := 1) (b := 8) rfl rfl (by omega) hB hr hc
    have F1 : FD M M1 := FD.of r4 r5 (by omega) (by omega)
    have e2 := X0_part (S := S) (z := z) (b := 1) (p := 2) rfl (F1.br hB) hc hx (by omega) (by omega)
    rw [if_neg (by omega), if_neg (by omega)] at e2
    obtain ⟨M2, s1, s2⟩ := X6_la_l (S := S) (z := z) hc hf hp' (most := c.2[f].2.2) (by have := ho.2.2.2.2; omega) c.2[f].2.2.toNat 1 hN_f M1 c.2 (by have := ho.2.2.2.2; omega) (by omega) (by have := ho.2.2.2.2; unfold hN_f; omega) r2 hc rfl (fun v => rfl)
    refine ⟨M2, ?_, F1.trans s2⟩
    unfold m_X6_findLeastAmount
    simp (disch := omega) only [ji1, ji2, ji3, ji4, ji5, ji6, ji7, ji8, ji9, ji10, ji11, ji12, ji13, ji14, ji15, ji16, ji19, ji20, ji24, ji31, ji32, ji39, ji45, ji48, ji57, ji58, ji59, ji60, ji97, ji100, ji119, ji120, ji122, ji144, ji200, ji226, ji240, ji255, ji300, ji366, ji400, ji500, ji1000, jI_z, ↓jI_m1, jI_add, jI_sub, jI_mul, ↓hg0_0, ↓hg0_1, ↓hg0_2, ↓hg0_3, ↓hg0_4, ↓hg0_5, hw0_5, ↓hg0_6, ↓hg0_7, ↓hv0, ↓hx0, ha132, hu132, ↓hl132, ↓Bv (b := 1) rfl]
    rw [e0]
    simp (disch := omega) only [↓mo_ns_r, ↓hn0, ↓mo_cs_s, ↓mo_xs_r, ↓mo_xs_l, ↓mo_nl_s, mo_z_0, mo_z_1, jI_2ne, h2, if_true, ↓hg0_0, ↓hg0_1, ↓hg0_2, ↓hg0_3, ↓hg0_4, ↓hg0_5, hw0_5, ↓hg0_6, ↓hg0_7, ↓hv0, ↓hx0, ha132, hu132, ↓hl132, ↓Bv (b := 8) rfl]
    rw [r1]
    simp (disch := omega) only [↓mo_ns_r, ↓hn0, ↓mo_cs_s, ↓mo_xs_r, ↓mo_xs_l, ↓mo_nl_s, mo_z_0, mo_z_1, ↓hg0_0, ↓hg0_1, ↓hg0_2, ↓hg0_3, ↓hg0_4, ↓hg0_5, hw0_5, ↓hg0_6, ↓hg0_7, ↓hv0, ↓hx0, ha132, hu132, ↓hl132, ↓Bv (b := 1) rfl]
    rw [e2]
    simp (disch := omega) only [↓mo_ns_r, ↓hn0, ↓mo_cs_s, ↓mo_xs_r, ↓mo_xs_l, ↓mo_nl_s, mo_z_0, mo_z_1]
    rw [s1]
    unfold leastV; rw [hx]; simp only [h2, if_true]
  · refine ⟨M, ?_, FD.rfl'⟩
    have h2' : ¬ jI c.2[f].1 = jI 2 := by rw [jI_eq (by have := ho.1; omega) (by have := ho.2.1; omega) (by omega) (by omega)]; exact h2
    unfold m_X6_findLeastAmount
    simp (disch := omega) only [ji1, ji2, ji3, ji4, ji5, ji6, ji7, ji8, ji9, ji10, ji11, ji12, ji13, ji14, ji15, ji16, ji19, ji20, ji24, ji31, ji32, ji39, ji45, ji48, ji57, ji58, ji59, ji60, ji97, ji100, ji119, ji120, ji122, ji144, ji200, ji226, ji240, ji255, ji300, ji366, ji400, ji500, ji1000, jI_z, ↓jI_m1, jI_add, jI_sub, jI_mul, ↓hg0_0, ↓hg0_1, ↓hg0_2, ↓hg0_3, ↓hg0_4, ↓hg0_5, hw0_5, ↓hg0_6, ↓hg0_7, ↓hv0, ↓hx0, ha132, hu132, ↓hl132, ↓Bv (b := 1) rfl]
    rw [e0]
    simp (disch := omega) only [↓mo_ns_r, ↓hn0, ↓mo_cs_s, ↓mo_xs_r, ↓mo_xs_l, ↓mo_nl_s, mo_z_0, mo_z_1, h2', if_false]
    unfold leastV; rw [hx]; simp only [h2, if_false]
/-! the least timer -/
def cT (c : hCf) (v : Int) : hCf := (fun j => if j = 4 then v else c.1 j, c.2)
theorem cT2 {c : hCf} {v w : Int} : cT (cT c v) w = cT c w := by
  unfold cT; refine Prod.ext ?_ rfl; funext j; by_cases h : j = 4 <;> simp [h]
theorem cT1 {c : hCf} : cT c (c.1 4) = c := by
  unfold cT; refine Prod.ext ?_ rfl; funext j; by_cases h : j = 4 <;> simp [h]
theorem okC.tm {c : hCf} (h : okC c) {v : Int} (hv : 1 ≤ v ∧ v ≤ 20) : okC (cT c v) := by
  refine ⟨h.1, h.2.1, fun k hk => ?_⟩
  by_cases e : k = 4
  · subst e; exact hv
  · have e' : (cT c v).1 k = c.1 k := by simp [cT, e]
    rw [e']; exact h.2.2 k hk
theorem mo_t4a {α : Type} {F : Int32 → Option α} : mo_t 1 (jI 4) F = F (jI 1) := id rfl
theorem mo_t4b {α : Type} {F : Int32 → Option α} : mo_t 2 (jI 4) F = F (jI 20) := id rfl
def timerV (c : hCf) (p : Nat) : Int := lsA (fun v => !brk (cT c v) p) 20 1
theorem X6_ti_l {z p : Nat} {c : hCf} (hc : okC c) (hp' : p < 4) : ∀ (n : Nat) (a : Int) (fu : Nat) (M : hM) (v : Int), a + n = 21 → 1 ≤ a → n < fu → BR M 8 (cT c v) →
    ∃ M', m_X6_timerFor_l21 z (jI p) fu (hp S z M) (jI a) = some (.inr (jI (lsA (fun v => !brk (cT c v) p) n a)), hp S z M') ∧ FD M M' := by
  intro n
  induction n with
  | zero =>
    intro a fu M v ha h1 hfu hB
    obtain ⟨fu, rfl⟩ : ∃ k, fu = k + 1 := ⟨fu - 1, by omega⟩
    refine ⟨M, ?_, FD.rfl'⟩
    have g : 20 < a := by omega
    unfold m_X6_timerFor_l21
    simp (disch := omega) only [ji1, ji2, ji3, ji4, ji5, ji6, ji7, ji8, ji9, ji10, ji11, ji12, ji13, ji14, ji15, ji16, ji19, ji20, ji24, ji31, ji32, ji39, ji45, ji48, ji57, ji58, ji59, ji60, ji97, ji100, ji119, ji120, ji122, ji144, ji200, ji226, ji240, ji255, ji300, ji366, ji400, ji500, ji1000, jI_z, ↓jI_m1, jI_add, jI_sub, jI_mul, mo_t4b, jI_lt, g, if_true]
    rfl
  | succ n ih =>
    intro a fu M v ha h1 hfu hB
    obtain ⟨fu, rfl⟩ : ∃ k, fu = k + 1 := ⟨fu - 1, by omega⟩
    obtain ⟨M1, r1, r2, r3, r4⟩ := X0_chs (S := S) (z := z) (k := 4) (v := a) (b := 8) rfl hB (by omega) (by omega)
    have r2' : BR M1 8 (cT c a) := by rw [← cT2 (v := v)]; exact r2
    obtain ⟨M2, s1, s2, s3, s4⟩ := X6_brk (S := S) (z := z) (b := 8) (p := p) (Or.inr rfl) r2' (hc.tm (by omega)) hp'
    have g : ¬ 20 < a := by omega
    have F2 : FD M M2 := (FD.of r3 r4 (by omega) (by omega)).trans (FD.of15 s3 s4)
    have pre : ∀ r, (if jI (b2i (brk (cT c a) p)) = jI 0 then some (.inr (jI a), hp S z M2) else m_X6_timerFor_l21 z (jI p) fu (hp S z M2) (jI (a + 1))) = r → m_X6_timerFor_l21 z (jI p) (fu + 1) (hp S z M) (jI a) = r := by
      intro r hr
      rw [← hr]
      conv => lhs; unfold m_X6_timerFor_l21
      simp (disch := omega) only [ji1, ji2, ji3, ji4, ji5, ji6, ji7, ji8, ji9, ji10, ji11, ji12, ji13, ji14, ji15, ji16, ji19, ji20, ji24, ji31, ji32, ji39, ji45, ji48, ji57, ji58, ji59, ji60, ji97, ji100, ji119, ji120, ji122, ji144, ji200, ji226, ji240, ji255, ji300, ji366, ji400, ji500, ji1000, jI_z, ↓jI_m1, jI_add, jI_sub, jI_mul, mo_t4b, jI_lt, g, if_false, ↓hg0_0, ↓hg0_1, ↓hg0_2, ↓hg0_3, ↓hg0_4, ↓hg0_5, hw0_5, ↓hg0_6, ↓hg0_7, ↓hv0, ↓hx0, ha132, hu132, ↓hl132, ↓Bv (b := 8) rfl]
      rw [r1]
      simp (disch := omega) only [ji1, ji2, ji3, ji4, ji5, ji6, ji7, ji8, ji9, ji10, ji11, ji12, ji13, ji14, ji15, ji16, ji19, ji20, ji24, ji31, ji32, ji39, ji45, ji48, ji57, ji58, ji59, ji60, ji97, ji100, ji119, ji120, ji122, ji144, ji200, ji226, ji240, ji255, ji300, ji366, ji400, ji500, ji1000, jI_z, ↓jI_m1, jI_add, jI_sub, jI_mul, ↓mo_ns_r, ↓hn0, ↓mo_cs_s, ↓mo_xs_r, ↓mo_xs_l, ↓mo_nl_s, mo_z_0, mo_z_1, ↓hg0_0, ↓hg0_1, ↓hg0_2, ↓hg0_3, ↓hg0_4, ↓hg0_5, hw0_5, ↓hg0_6, ↓hg0_7, ↓hv0, ↓hx0, ha132, hu132, ↓hl132]
      rw [s1]
      simp (disch := omega) only [ji1, ji2, ji3, ji4, ji5, ji6, ji7, ji8, ji9, ji10, ji11, ji12, ji13, ji14, ji15, ji16, ji19, ji20, ji24, ji31, ji32, ji39, ji45, ji48, ji57, ji58, ji59, ji60, ji97, ji100, ji119, ji120, ji122, ji144, ji200, ji226, ji240, ji255, ji300, ji366, ji400, ji500, ji1000, jI_z, ↓jI_m1, jI_add, jI_sub, jI_mul, ↓mo_ns_r, ↓hn0, ↓mo_cs_s, ↓mo_xs_r, ↓mo_xs_l, ↓mo_nl_s, mo_z_0, mo_z_1]
    cases hb : brk (cT c a) p with
    | false =>
      refine ⟨M2, pre _ ?_, F2⟩
      rw [hb, if_pos (by decide)]
      simp only [lsA, hb, Bool.not_false, if_true]
    | true =>
      obtain ⟨M3, t1, t2⟩ := ih (a + 1) fu M2 a (by omega) (by omega) (by omega) (r2'.keep s3 (by omega))
      refine ⟨M3, pre _ ?_, F2.trans t2⟩
      rw [hb, if_neg (by decide), t1]
      simp only [lsA, hb, Bool.not_true, Bool.false_eq_true, if_false]

variable {S : hSh}
theorem L_r282 {z p r e g n : Nat} {M : hM} {q : hQ} {a b : Int32} (h : LW S M p r e g n q) : ∀ (d k f : Nat), k + d = 144 → d < f →
    m_L_run_l282 z (z + g) f (hp S z M) (z + n) (z + r) a b (jI (cs (zR q.1.1).2.2.2.1 k : Nat)) (jI k) = m_L_run_l323 z (z + g) hN_f (hp S z M) (z + n) (z + r) a b (jI (sum9 (fun k => pop ((zR q.1.1).2.2.2.1 k)) 9 : Nat)) (jI 0) (jI 0) := by
  have hr := h.1.2.1
  obtain ⟨e1, e2, e3, e4⟩ := h.okT
  intro d
  induction d with
  | zero =>
    intro k f hk hf
    obtain ⟨f, rfl⟩ : ∃ g, f = g + 1 := ⟨f - 1, by omega⟩
    have gi : ¬ (k : Int) < 144 := by omega
    unfold m_L_run_l282
    simp (disch := omega) only [ji1, ji2, ji3, ji4, ji5, ji6, ji7, ji8, ji9, ji10, ji11, ji12, ji13, ji14, ji15, ji16, ji19, ji20, ji24, ji31, ji32, ji39, ji45, ji48, ji57, ji58, ji59, ji60, ji97, ji100, ji119, ji120, ji122, ji144, ji200, ji226, ji240, ji255, ji300, ji366, ji400, ji500, ji1000, jI_z, ↓jI_m1, jI_add, jI_sub, jI_mul, ↓jm1000, ↓jm100, ↓jm10, ↓jm9, ji50, ji65280, ji1664525, ji252645135, ji858993459, ji1013904223, ji1431655765, ji2147483639, ji2147483647, jI_lt, gi, if_false]
    rw [show k = 16 * 9 from by omega, cs_sum]
  | succ d ih =>
    intro k f hk hf
    obtain ⟨f, rfl⟩ : ∃ g, f = g + 1 := ⟨f - 1, by omega⟩
    have gi : (k : Int) < 144 := by omega
    have ek : (k : Int) + 1 = ((k + 1 : Nat) : Int) := by omega
    have hw := wD_k (M := M) (e := r + 8) (W := (zR q.1.1).2.2.2.1) e3 (k := k) (by omega)
    have IH := ih (k + 1) f (by omega) (by omega)
    have ecs : cs (zR q.1.1).2.2.2.1 (k + 1) = cs (zR q.1.1).2.2.2.1 k + bt (zR q.1.1).2.2.2.1 k := rfl
    rw [ecs] at IH
    unfold m_L_run_l282
    simp (disch := omega) only [ji1, ji2, ji3, ji4, ji5, ji6, ji7, ji8, ji9, ji10, ji11, ji12, ji13, ji14, ji15, ji16, ji19, ji20, ji24, ji31, ji32, ji39, ji45, ji48, ji57, ji58, ji59, ji60, ji97, ji100, ji119, ji120, ji122, ji144, ji200, ji226, ji240, ji255, ji300, ji366, ji400, ji500, ji1000, jI_z, ↓jI_m1, jI_add, jI_sub, jI_mul, ↓jm1000, ↓jm100, ↓jm10, ↓jm9, ji50, ji65280, ji1664525, ji252645135, ji858993459, ji1013904223, ji1431655765, ji2147483639, ji2147483647, jI_lt, gi, if_true, ↓Rg0 hr, Rw0 hr, ↓Rg1 hr, ↓Rg2 hr, ↓Rg3 hr, ↓Rg4 hr, ↓Rg5 hr, ↓Rg6 hr, ↓Rg7 hr, ↓Rg8 hr, ↓Rg9 hr, Rw9 hr, ↓Rg10 hr, Rw10 hr, ↓Rg11 hr, Rw11 hr, ↓Rg12 hr, Rw12 hr, ↓Rg13 hr, Rw13 hr, ↓Rg14 hr, Rw14 hr, ↓Rg15 hr, Rw15 hr, ↓Rg16 hr, Rw16 hr, ↓Rg17 hr, Rw17 hr, ↓Rv hr, Ra1 hr, Ru1 hr, Ra2 hr, Ru2 hr, Ra3 hr, Ru3 hr, Ra4 hr, Ru4 hr, Ra5 hr, Ru5 hr, Ra6 hr, Ru6 hr, Ra7 hr, Ru7 hr, Ra8 hr, Ru8 hr, Int.toNat_natCast, hw]
    have hbt : bt (zR q.1.1).2.2.2.1 k = 0 ∨ bt (zR q.1.1).2.2.2.1 k = 1 := by unfold bt; split <;> simp
    rcases hbt with hb | hb
    · rw [hb] at IH ⊢
      rw [if_pos (show jI ((0 : Nat) : Int) = jI 0 from rfl), ek]; exact IH
    · rw [hb] at IH ⊢
      rw [if_neg (show ¬ jI ((1 : Nat) : Int) = jI 0 by decide), ek]; exact IH
theorem any_cg {α : Type} {p q : α → Bool} : ∀ l : List α, (∀ y ∈ l, p y = q y) → l.any p = l.any q := by
  intro l
  induction l with
  | nil => intro _; rfl
  | cons x t ih =>
    intro h
    simp only [List.any_cons]
    rw [h x (by simp), ih (fun y hy => h y (by simp [hy]))]
def hadP (x y : hT) : Bool := decide (y.2.1 = 0) && decide (x.2.1 = 0) && decide (y.2.2.1 = x.2.2.1)
theorem L_r189 {z p r e g n k : Nat} {M : hM} {q : hQ} {x : hT} {rp an : Int} {K160 : ac_H → Nat → Nat → Int32 → Int32 → Int32 → Option ((Int32 × Nat) × ac_H)} (h : LW S M p r e g n q) (hx : (zR q.1.1).2.1[k]? = some x) : ∀ (l : List hT) (i f : Nat) (v : Bool), ((zR q.1.1).2.1.take k).drop i = l → l.length < f → i ≤ k →
    m_L_run_l189 K160 z (z + g) f (hp S z M) (z + n) (z + r) (jI rp) (jI an) (jI k) (jI (b2i v)) (jI i) = K160 (hp S z M) (z + n) (z + r) (jI (rp + b2i (v || l.any (hadP x)))) (jI an) (jI ((k + 1 : Nat) : Int)) := by
  have hr := h.1.2.1
  have hc := h.1.2.2.2.2.2.2.2.2.1.1.1
  have hN := zN_le hc
  have hts := okTs_R hc
  obtain ⟨e1, e2, e3, e4⟩ := h.okT
  have hk : k < (zR q.1.1).2.1.length := (List.getElem?_eq_some_iff.mp hx).1
  obtain ⟨x1, x2, x3, x4, x5⟩ := e1.2.1 k x hx
  obtain ⟨tx1, tx2, tx3⟩ := hts x (List.mem_of_getElem? hx)
  have ek : (k : Int) + 1 = ((k + 1 : Nat) : Int) := by omega
  intro l
  induction l with
  | nil =>
    intro i f v hd hf hi
    obtain ⟨f, rfl⟩ : ∃ g, f = g + 1 := ⟨f - 1, by simp at hf; omega⟩
    have hi' : k ≤ i := by
      have := congrArg List.length hd
      simp only [List.length_drop, List.length_take, List.length_nil] at this
      omega
    have gi : ¬ (i : Int) < k := by omega
    unfold m_L_run_l189
    simp (disch := omega) only [ji1, ji2, ji3, ji4, ji5, ji6, ji7, ji8, ji9, ji10, ji11, ji12, ji13, ji14, ji15, ji16, ji19, ji20, ji24, ji31, ji32, ji39, ji45, ji48, ji57, ji58, ji59, ji60, ji97, ji100, ji119, ji120, ji122, ji144, ji200, ji226, ji240, ji255, ji300, ji366, ji400, ji500, ji1000, jI_z, ↓jI_m1, jI_add, jI_sub, jI_mul, ↓jm1000, ↓jm100, ↓jm10, ↓jm9, ji50, ji65280, ji1664525, ji252645135, ji858993459, ji1013904223, ji1431655765, ji2147483639, ji2147483647, jI_lt, gi, if_false, ek, List.any_nil, Bool.or_false]
    cases v
    · rw [if_pos (show jI (b2i false) = jI 0 from rfl)]; rfl
    · rw [if_neg (show ¬ jI (b2i true) = jI 0 by decide)]; rfl
  | cons y t ih =>
    intro i f v hd hf hi
    obtain ⟨f, rfl⟩ : ∃ g, f = g + 1 := ⟨f - 1, by simp at hf; omega⟩
    have hlen := congrArg List.length hd
    simp only [List.length_drop, List.length_take, List.length_cons] at hlen
    have hy : (zR q.1.1).2.1[i]? = some y := by
      have := congrArg (fun l => l[0]?) hd
      simp only [List.getElem?_drop, List.getElem?_cons_zero, Nat.add_zero] at this
      rw [List.getElem?_take_of_lt (by omega)] at this
      exact this
    have hdr : ((zR q.1.1).2.1.take k).drop (i + 1) = t := by
      have := congrArg List.tail hd
      simpa using this
    obtain ⟨y1, y2, y3, y4, y5⟩ := e1.2.1 i y hy
    obtain ⟨ty1, ty2, ty3⟩ := hts y (List.mem_of_getElem? hy)
    have gi : (i : Int) < k := by omega
    have ei : (i : Int) + 1 = ((i + 1 : Nat) : Int) := by omega
    have IH := fun v => ih (i + 1) f v hdr (by simp at hf; omega) (by omega)
    have I0 := IH false
    have I1 := IH true
    rw [show b2i false = 0 from rfl] at I0
    rw [show b2i true = 1 from rfl] at I1
    simp only [List.any_cons]
    unfold m_L_run_l189
    simp (disch := omega) only [ji1, ji2, ji3, ji4, ji5, ji6, ji7, ji8, ji9, ji10, ji11, ji12, ji13, ji14, ji15, ji16, ji19, ji20, ji24, ji31, ji32, ji39, ji45, ji48, ji57, ji58, ji59, ji60, ji97, ji100, ji119, ji120, ji122, ji144, ji200, ji226, ji240, ji255, ji300, ji366, ji400, ji500, ji1000, jI_z, ↓jI_m1, jI_add, jI_sub, jI_mul, ↓jm1000, ↓jm100, ↓jm10, ↓jm9, ji50, ji65280, ji1664525, ji252645135, ji858993459, ji1013904223, ji1431655765, ji2147483639, ji2147483647, jI_lt, gi, if_true, ↓Rg0 hr, Rw0 hr, ↓Rg1 hr, ↓Rg2 hr, ↓Rg3 hr, ↓Rg4 hr, ↓Rg5 hr, ↓Rg6 hr, ↓Rg7 hr, ↓Rg8 hr, ↓Rg9 hr, Rw9 hr, ↓Rg10 hr, Rw10 hr, ↓Rg11 hr, Rw11 hr, ↓Rg12 hr, Rw12 hr, ↓Rg13 hr, Rw13 hr, ↓Rg14 hr, Rw14 hr, ↓Rg15 hr, Rw15 hr, ↓Rg16 hr, Rw16 hr, ↓Rg17 hr, Rw17 hr, ↓Rv hr, Ra1 hr, Ru1 hr, Ra2 hr, Ru2 hr, Ra3 hr, Ru3 hr, Ra4 hr, Ru4 hr, Ra5 hr, Ru5 hr, Ra6 hr, Ru6 hr, Ra7 hr, Ru7 hr, Ra8 hr, Ru8 hr, Int.toNat_natCast, x2, x3, y2, y3, jI_eq, ei]
    cases v
    · rw [if_pos (show jI (b2i false) = jI 0 from rfl)]
      by_cases q1 : y.2.1 = 0
      · rw [if_pos q1]
        by_cases q2 : x.2.1 = 0
        · rw [if_pos q2]
          by_cases q3 : y.2.2.1 = x.2.2.1
          · rw [if_pos q3, I1]
            have : hadP x y = true := by unfold hadP; simp [q1, q2, q3]
            rw [this]; simp
          · rw [if_neg q3, I0]
            have : hadP x y = false := by unfold hadP; simp [q3]
            rw [this]; simp
        · rw [if_neg q2, I0]
          have : hadP x y = false := by unfold hadP; simp [q2]
          rw [this]; simp
      · rw [if_neg q1, I0]
        have : hadP x y = false := by unfold hadP; simp [q1]
        rw [this]; simp
    · rw [if_neg (show ¬ jI (b2i true) = jI 0 by decide), I1]; simp
theorem L_r160 {z p r e g n : Nat} {M : hM} {q : hQ} (h : LW S M p r e g n q) : ∀ (l : List hT) (k f s rp an : Nat), (zR q.1.1).2.1.drop k = l → l.length < f → k ≤ (zR q.1.1).2.1.length → (∀ w : Nat, s.testBit w = ((zR q.1.1).2.1.take k).any (fun y => decide (y.2.1 = 0) && decide (y.2.2.1.toNat = w))) →
    m_L_run_l160 z (z + g) f (hp S z M) (z + n) (z + r) (jI rp) (jI an) (jI k) = m_L_run_l282 z (z + g) hN_f (hp S z M) (z + n) (z + r) (jI (repT l s rp : Nat)) (jI (ansT l an : Nat)) (jI 0) (jI 0) := by
  have hr := h.1.2.1
  have hc := h.1.2.2.2.2.2.2.2.2.1.1.1
  have hN := zN_le hc
  have hts := okTs_R hc
  obtain ⟨e1, e2, e3, e4⟩ := h.okT
  intro l
  induction l with
  | nil =>
    intro k f s rp an hd hf hk hs
    obtain ⟨f, rfl⟩ : ∃ g, f = g + 1 := ⟨f - 1, by simp at hf; omega⟩
    have hk' : (zR q.1.1).2.1.length ≤ k := by simpa using hd
    have gi : ¬ (k : Int) < (zR q.1.1).2.1.length := by omega
    unfold m_L_run_l160
    simp (disch := omega) only [ji1, ji2, ji3, ji4, ji5, ji6, ji7, ji8, ji9, ji10, ji11, ji12, ji13, ji14, ji15, ji16, ji19, ji20, ji24, ji31, ji32, ji39, ji45, ji48, ji57, ji58, ji59, ji60, ji97, ji100, ji119, ji120, ji122, ji144, ji200, ji226, ji240, ji255, ji300, ji366, ji400, ji500, ji1000, jI_z, ↓jI_m1, jI_add, jI_sub, jI_mul, ↓jm1000, ↓jm100, ↓jm10, ↓jm9, ji50, ji65280, ji1664525, ji252645135, ji858993459, ji1013904223, ji1431655765, ji2147483639, ji2147483647, ↓Rg0 hr, Rw0 hr, ↓Rg1 hr, ↓Rg2 hr, ↓Rg3 hr, ↓Rg4 hr, ↓Rg5 hr, ↓Rg6 hr, ↓Rg7 hr, ↓Rg8 hr, ↓Rg9 hr, Rw9 hr, ↓Rg10 hr, Rw10 hr, ↓Rg11 hr, Rw11 hr, ↓Rg12 hr, Rw12 hr, ↓Rg13 hr, Rw13 hr, ↓Rg14 hr, Rw14 hr, ↓Rg15 hr, Rw15 hr, ↓Rg16 hr, Rw16 hr, ↓Rg17 hr, Rw17 hr, ↓Rv hr, Ra1 hr, Ru1 hr, Ra2 hr, Ru2 hr, Ra3 hr, Ru3 hr, Ra4 hr, Ru4 hr, Ra5 hr, Ru5 hr, Ra6 hr, Ru6 hr, Ra7 hr, Ru7 hr, Ra8 hr, Ru8 hr, e1.1, jI_lt, gi, if_false]
    rfl
  | cons x t ih =>
    intro k f s rp an hd hf hk hs
    obtain ⟨f, rfl⟩ : ∃ g, f = g + 1 := ⟨f - 1, by simp at hf; omega⟩
    obtain ⟨hx, hdr, hkl⟩ := drop_c hd
    obtain ⟨x1, x2, x3, x4, x5⟩ := e1.2.1 k x hx
    obtain ⟨tx1, tx2, tx3⟩ := hts x (List.mem_of_getElem? hx)
    have gi : (k : Int) < (zR q.1.1).2.1.length := by omega
    have inner := L_r189 (z := z) (rp := (rp : Int)) (an := ((an + if x.2.1 = 1 then 1 else 0 : Nat) : Int)) (K160 := fun ρ y0 y1 y2 y3 y4 => m_L_run_l160 z (z + g) f ρ y0 y1 y2 y3 y4) h hx ((zR q.1.1).2.1.take k) 0 hN_f false rfl (by rw [List.length_take]; unfold hN_f; omega) (by omega)
    rw [show b2i false = 0 from rfl] at inner
    have ean : (an : Int) + x.2.1 = ((an + if x.2.1 = 1 then 1 else 0 : Nat) : Int) := by split <;> omega
    have tk : (zR q.1.1).2.1.take (k + 1) = (zR q.1.1).2.1.take k ++ [x] := by rw [List.take_succ, hx]; rfl
    unfold m_L_run_l160
    simp (disch := omega) only [ji1, ji2, ji3, ji4, ji5, ji6, ji7, ji8, ji9, ji10, ji11, ji12, ji13, ji14, ji15, ji16, ji19, ji20, ji24, ji31, ji32, ji39, ji45, ji48, ji57, ji58, ji59, ji60, ji97, ji100, ji119, ji120, ji122, ji144, ji200, ji226, ji240, ji255, ji300, ji366, ji400, ji500, ji1000, jI_z, ↓jI_m1, jI_add, jI_sub, jI_mul, ↓jm1000, ↓jm100, ↓jm10, ↓jm9, ji50, ji65280, ji1664525, ji252645135, ji858993459, ji1013904223, ji1431655765, ji2147483639, ji2147483647, ↓Rg0 hr, Rw0 hr, ↓Rg1 hr, ↓Rg2 hr, ↓Rg3 hr, ↓Rg4 hr, ↓Rg5 hr, ↓Rg6 hr, ↓Rg7 hr, ↓Rg8 hr, ↓Rg9 hr, Rw9 hr, ↓Rg10 hr, Rw10 hr, ↓Rg11 hr, Rw11 hr, ↓Rg12 hr, Rw12 hr, ↓Rg13 hr, Rw13 hr, ↓Rg14 hr, Rw14 hr, ↓Rg15 hr, Rw15 hr, ↓Rg16 hr, Rw16 hr, ↓Rg17 hr, Rw17 hr, ↓Rv hr, Ra1 hr, Ru1 hr, Ra2 hr, Ru2 hr, Ra3 hr, Ru3 hr, Ra4 hr, Ru4 hr, Ra5 hr, Ru5 hr, Ra6 hr, Ru6 hr, Ra7 hr, Ru7 hr, Ra8 hr, Ru8 hr, e1.1, jI_lt, gi, if_true, Int.toNat_natCast, x2, ean]
    rw [show jI 0 = jI ((0 : Nat) : Int) from rfl] at inner
    rw [show jI 0 = jI ((0 : Nat) : Int) from rfl, inner]
    simp only [repT, ansT, Bool.false_or]
    by_cases q0 : x.2.1 = 0
    · rw [if_pos q0]
      have hany : ((zR q.1.1).2.1.take k).any (hadP x) = s.testBit x.2.2.1.toNat := by
        rw [hs]
        apply any_cg
        intro y hy
        obtain ⟨ty1, ty2, ty3⟩ := hts y (List.mem_of_mem_take hy)
        unfold hadP
        rw [decide_eq_true q0, Bool.and_true]
        congr 1
        exact decide_eq_decide.mpr (by omega)
      rw [hany]
      have er : (rp : Int) + b2i (s.testBit x.2.2.1.toNat) = ((rp + if s.testBit x.2.2.1.toNat = true then 1 else 0 : Nat) : Int) := by
        cases s.testBit x.2.2.1.toNat <;> rfl
      rw [er]
      exact ih (k + 1) f (s ||| 2 ^ x.2.2.1.toNat) _ _ hdr (by simp at hf; omega) (by omega) (fun w => by
        rw [tk, List.any_append, ← hs, Nat.testBit_or]
        congr 1
        simp only [List.any_cons, List.any_nil, Bool.or_false]
        rw [decide_eq_true q0, Bool.true_and]
        by_cases ew : x.2.2.1.toNat = w
        · rw [ew, Nat.testBit_two_pow_self, decide_eq_true rfl]
        · rw [Nat.testBit_two_pow_of_ne ew, decide_eq_false ew])
    · rw [if_neg q0]
      have hany : ((zR q.1.1).2.1.take k).any (hadP x) = false := by
        rw [List.any_eq_false]
        intro y _
        unfold hadP
        rw [decide_eq_false q0]; simp
      rw [hany, show (rp : Int) + b2i false = (rp : Int) from by show (rp : Int) + 0 = rp; omega]
      exact ih (k + 1) f s _ _ hdr (by simp at hf; omega) (by omega) (fun w => by
        rw [tk, List.any_append, ← hs]
        simp only [List.any_cons, List.any_nil, Bool.or_false]
        rw [decide_eq_false q0]; simp)
theorem L_r59 {z p r e g n : Nat} {q : hQ} : ∀ (d f fu : Nat) (M : hM), f + d = q.1.1.2.length → d < fu → LW S M p r e g n q →
    ∃ S' M', m_L_run_l59 z (z + p) (z + g) fu (hp S z M) (z + n) (z + r) (jI f) = some ((jI 1, z + (n + 1)), hp S' z M') ∧ LX S' M' p r e g (n + 1) q := by
  intro d
  induction d with
  | zero =>
    intro f fu M hf hfu h
    obtain ⟨fu, rfl⟩ : ∃ g, fu = g + 1 := ⟨fu - 1, by omega⟩
    have hq := h.1.1
    have hN := zN_le h.1.2.2.2.2.2.2.2.2.1.1.1
    obtain ⟨E, hE, hPE, hcE⟩ := h.1.2.2.2.2.2.1
    have hmany := X7_many (z := z) hq hPE hE
    rw [← hcE] at hmany
    have hl := h.1.2.2.2.2.2.2.2.2.2
    have gi : ¬ (f : Int) < (q.1.1.2.length : Nat) := by omega
    obtain ⟨S', M', r1, r2⟩ := L_r323 (z := z) h
    refine ⟨S', M', ?_, r2⟩
    unfold m_L_run_l59
    simp only [↓Pv hq]
    rw [hmany]
    simp (disch := omega) only [↓mo_cs_s, jI_lt, gi, if_false, ji1, ji2, ji3, ji4, ji5, ji6, ji7, ji8, ji9, ji10, ji11, ji12, ji13, ji14, ji15, ji16, ji19, ji20, ji24, ji31, ji32, ji39, ji45, ji48, ji57, ji58, ji59, ji60, ji97, ji100, ji119, ji120, ji122, ji144, ji200, ji226, ji240, ji255, ji300, ji366, ji400, ji500, ji1000, jI_z, ↓jI_m1, jI_add, jI_sub, jI_mul, ↓jm1000, ↓jm100, ↓jm10, ↓jm9, ji50, ji65280, ji1664525, ji252645135, ji858993459, ji1013904223, ji1431655765, ji2147483639, ji2147483647]
    have a := L_r160 (z := z) h (zR q.1.1).2.1 0 hN_f 0 0 0 (by simp) (by unfold hN_f; omega) (by omega) (fun w => by simp)
    rw [show jI ((0 : Nat) : Int) = jI 0 from rfl] at a
    rw [a]
    have b := L_r282 (z := z) (a := jI (repT (zR q.1.1).2.1 0 0 : Nat)) (b := jI (ansT (zR q.1.1).2.1 0 : Nat)) h 144 0 hN_f (by omega) (by unfold hN_f; omega)
    rw [show jI ((cs (zR q.1.1).2.2.2.1 0 : Nat) : Int) = jI 0 from rfl, show jI ((0 : Nat) : Int) = jI 0 from rfl] at b
    rw [b]
    exact r1
  | succ d ih =>
    intro f fu M hf hfu h
    obtain ⟨fu, rfl⟩ : ∃ g, fu = g + 1 := ⟨fu - 1, by omega⟩
    have hq := h.1.1
    have ho := h.1.2.2.2.2.2.2.2.2.1
    obtain ⟨E, hE, hPE, hcE⟩ := h.1.2.2.2.2.2.1
    have hmany := X7_many (z := z) hq hPE hE
    rw [← hcE] at hmany
    have hl := h.1.2.2.2.2.2.2.2.2.2
    have gi : (f : Int) < (q.1.1.2.length : Nat) := by omega
    have ei : (f : Int) + 1 = ((f + 1 : Nat) : Int) := by omega
    obtain ⟨j, j1, j2, j3, j4, j5⟩ := ftV_j (E := E) (f := f) (by rw [← hcE]; omega)
    have hft := X7_fault (z := z) (f := f) hq hPE hE (by omega)
    have cF : ∀ (w : Int), 0 ≤ w ∧ w ≤ 2 → ∀ M1, LW S M1 p r e g n q → ∃ M', (∀ {α : Type} (F : Int32 → ac_H → Option α), mo_nv (hp S z M1) z 6 (m_X6_fault (hp S z M1) z (jI f) (jI w)) F = F (jI (prtF (mkF j (E j)) w)) (hp S z M')) ∧ LW S M' p r e g n q := by
      intro w hw M1 h1
      have c1 := C_fault (S := S) (z := z) (f := (f : Int)) (p := w) h1.1.2.2.2.2.2.2.2.1 ho ⟨by omega, by omega⟩ ⟨by omega, by omega⟩
      rw [show rFault q f w = (0, prtF (mkF j (E j)) w, q) from by
        unfold rFault
        rw [if_pos (by omega), if_pos hw, Int.toNat_natCast, List.getD_eq_getElem?_getD]
        rw [hcE, j5]; rfl] at c1
      obtain ⟨M', n1, i1, k1⟩ := nvC c1 rfl
      exact ⟨M', n1, h1.km k1 i1⟩
    obtain ⟨M1, n1, h1⟩ := cF 0 (by omega) M h
    obtain ⟨M2, n2, h2⟩ := cF 1 (by omega) M1 h1
    obtain ⟨M3, n3, h3⟩ := cF 2 (by omega) M2 h2
    obtain ⟨S', M', r1, r2⟩ := ih (f + 1) fu M3 (by omega) (by omega) h3
    refine ⟨S', M', ?_, r2⟩
    have p0 : prtF (mkF j (E j)) 0 = ((j % 3 : Nat) : Int) := rfl
    have p1 : prtF (mkF j (E j)) 1 = ((j / 3 : Nat) : Int) := rfl
    have p2 : prtF (mkF j (E j)) 2 = if j % 3 = 2 then E j else 0 := rfl
    have hEj := hE j j1
    unfold m_L_run_l59
    simp only [↓Pv hq]
    rw [hmany]
    simp (disch := omega) only [↓mo_cs_s, jI_lt, gi, if_true, ji1, ji2, ji3, ji4, ji5, ji6, ji7, ji8, ji9, ji10, ji11, ji12, ji13, ji14, ji15, ji16, ji19, ji20, ji24, ji31, ji32, ji39, ji45, ji48, ji57, ji58, ji59, ji60, ji97, ji100, ji119, ji120, ji122, ji144, ji200, ji226, ji240, ji255, ji300, ji366, ji400, ji500, ji1000, jI_z, ↓jI_m1, jI_add, jI_sub, jI_mul, ↓jm1000, ↓jm100, ↓jm10, ↓jm9, ji50, ji65280, ji1664525, ji252645135, ji858993459, ji1013904223, ji1431655765, ji2147483639, ji2147483647, ↓Pv hq]
    rw [hft, j4]
    simp only [↓mo_cs_s]
    rw [n1]
    simp (disch := omega) only [mo_rm_j, show (1000 * ((j / 3 : Nat) : Int) + ((j % 3 : Nat) : Int)) % 1000 = ((j % 3 : Nat) : Int) from by omega, p0, if_true]
    rw [n2]
    simp (disch := omega) only [mo_dv_j, show (1000 * ((j / 3 : Nat) : Int) + ((j % 3 : Nat) : Int)) / 1000 = ((j / 3 : Nat) : Int) from by omega, p1, if_true]
    rw [n3]
    simp (disch := omega) only [jI_eq, p2]
    unfold m_L_run_j140
    by_cases g3 : j % 3 = 2
    · rw [if_pos (by omega), if_pos g3]
      simp (disch := omega) only [↓Pg0 hq, ↓Pg1 hq, ↓Pg2 hq, ↓Pg3 hq, ↓Pv hq, Pa1 hq, Pu1 hq, Pa2 hq, Pu2 hq, Pa3 hq, Pu3 hq, Pa4 hq, Pu4 hq, Int.toNat_natCast]
      obtain ⟨E3, hE3, hPE3, hcE3⟩ := h3.1.2.2.2.2.2.1
      have e2 := (h3.1.2.2.2.2.2.1).l (k := j / 3) (by omega)
      have e3 : cAmt q.1.1 (j / 3) = E j := by
        have : cAmt q.1.1 (j / 3) = cAmt (q.1.1.1, fl E 360 0) (j / 3) := by unfold cAmt; rw [hcE]
        rw [this, fl_amt (by omega), show 3 * (j / 3) + 2 = j from by omega]
      rw [if_pos (by rw [e2, e3])]
      simp only [ji1, ji2, ji3, ji4, ji5, ji6, ji7, ji8, ji9, ji10, ji11, ji12, ji13, ji14, ji15, ji16, ji19, ji20, ji24, ji31, ji32, ji39, ji45, ji48, ji57, ji58, ji59, ji60, ji97, ji100, ji119, ji120, ji122, ji144, ji200, ji226, ji240, ji255, ji300, ji366, ji400, ji500, ji1000, jI_z, ↓jI_m1, jI_add, jI_sub, jI_mul, ↓jm1000, ↓jm100, ↓jm10, ↓jm9, ji50, ji65280, ji1664525, ji252645135, ji858993459, ji1013904223, ji1431655765, ji2147483639, ji2147483647, ei]
      exact r1
    · rw [if_neg (by omega), if_neg g3, if_pos rfl]
      simp only [ji1, ji2, ji3, ji4, ji5, ji6, ji7, ji8, ji9, ji10, ji11, ji12, ji13, ji14, ji15, ji16, ji19, ji20, ji24, ji31, ji32, ji39, ji45, ji48, ji57, ji58, ji59, ji60, ji97, ji100, ji119, ji120, ji122, ji144, ji200, ji226, ji240, ji255, ji300, ji366, ji400, ji500, ji1000, jI_z, ↓jI_m1, jI_add, jI_sub, jI_mul, ↓jm1000, ↓jm100, ↓jm10, ↓jm9, ji50, ji65280, ji1664525, ji252645135, ji858993459, ji1013904223, ji1431655765, ji2147483639, ji2147483647, ei]
      exact r1
theorem L_r10 {z p r e g n : Nat} {q : hQ} : ∀ (d k f : Nat) (M : hM), k + d = 8 → d < f → LW S M p r e g n q →
    ∃ S' M', m_L_run_l10 z (z + p) (z + g) f (hp S z M) (z + n) (z + r) (jI k) = some ((jI 1, z + (n + 1)), hp S' z M') ∧ LX S' M' p r e g (n + 1) q := by
  intro d
  induction d with
  | zero =>
    intro k f M hk hf h
    obtain ⟨f, rfl⟩ : ∃ g, f = g + 1 := ⟨f - 1, by omega⟩
    have gi : ¬ (k : Int) < 8 := by omega
    have ho := h.1.2.2.2.2.2.2.2.2.1
    have c1 := C_size (S := S) (z := z) (w := 8) h.1.2.2.2.2.2.2.2.1 ho ⟨by omega, by omega⟩
    rw [show rSize q 8 = (0, (q.1.1.2.length : Int), q) from by unfold rSize sizeV; rw [if_pos (by omega), if_neg (by omega), if_pos rfl]] at c1
    obtain ⟨M1, n1, i1, k1⟩ := nvC c1 rfl
    have h1 := h.km k1 i1
    obtain ⟨E, hE, hPE, hcE⟩ := h1.1.2.2.2.2.2.1
    have hmany := X7_many (z := z) h1.1.1 hPE hE
    rw [← hcE] at hmany
    have hl := h.1.2.2.2.2.2.2.2.2.2
    obtain ⟨S', M', r1, r2⟩ := L_r59 (z := z) q.1.1.2.length 0 hN_f M1 (by omega) (by unfold hN_f; omega) h1
    refine ⟨S', M', ?_, r2⟩
    unfold m_L_run_l10
    simp (disch := omega) only [ji1, ji2, ji3, ji4, ji5, ji6, ji7, ji8, ji9, ji10, ji11, ji12, ji13, ji14, ji15, ji16, ji19, ji20, ji24, ji31, ji32, ji39, ji45, ji48, ji57, ji58, ji59, ji60, ji97, ji100, ji119, ji120, ji122, ji144, ji200, ji226, ji240, ji255, ji300, ji366, ji400, ji500, ji1000, jI_z, ↓jI_m1, jI_add, jI_sub, jI_mul, ↓jm1000, ↓jm100, ↓jm10, ↓jm9, ji50, ji65280, ji1664525, ji252645135, ji858993459, ji1013904223, ji1431655765, ji2147483639, ji2147483647, jI_lt, gi, if_false]
    rw [n1]
    simp only [↓Pv h1.1.1]
    rw [hmany]
    simp only [↓mo_cs_s, if_true]
    exact r1
  | succ d ih =>
    intro k f M hk hf h
    obtain ⟨f, rfl⟩ : ∃ g, f = g + 1 := ⟨f - 1, by omega⟩
    have gi : (k : Int) < 8 := by omega
    have ek : (k : Int) + 1 = ((k + 1 : Nat) : Int) := by omega
    have ho := h.1.2.2.2.2.2.2.2.2.1
    have c1 := C_size (S := S) (z := z) (w := (k : Int)) h.1.2.2.2.2.2.2.2.1 ho ⟨by omega, by omega⟩
    rw [show rSize q k = (0, q.1.1.1 k, q) from by unfold rSize sizeV; rw [if_pos (by omega), if_pos gi, Int.toNat_natCast]] at c1
    obtain ⟨M1, n1, i1, k1⟩ := nvC c1 rfl
    have h1 := h.km k1 i1
    have hq := h1.1.1
    have es := h1.1.2.2.2.2.2.1.s (k := k) (by omega)
    obtain ⟨S', M', r1, r2⟩ := ih (k + 1) f M1 (by omega) (by omega) h1
    refine ⟨S', M', ?_, r2⟩
    unfold m_L_run_l10
    simp (disch := omega) only [ji1, ji2, ji3, ji4, ji5, ji6, ji7, ji8, ji9, ji10, ji11, ji12, ji13, ji14, ji15, ji16, ji19, ji20, ji24, ji31, ji32, ji39, ji45, ji48, ji57, ji58, ji59, ji60, ji97, ji100, ji119, ji120, ji122, ji144, ji200, ji226, ji240, ji255, ji300, ji366, ji400, ji500, ji1000, jI_z, ↓jI_m1, jI_add, jI_sub, jI_mul, ↓jm1000, ↓jm100, ↓jm10, ↓jm9, ji50, ji65280, ji1664525, ji252645135, ji858993459, ji1013904223, ji1431655765, ji2147483639, ji2147483647, jI_lt, gi, if_true]
    rw [n1]
    simp (disch := omega) only [↓Pg0 hq, ↓Pg1 hq, ↓Pg2 hq, ↓Pg3 hq, ↓Pv hq, Pa1 hq, Pu1 hq, Pa2 hq, Pu2 hq, Pa3 hq, Pu3 hq, Pa4 hq, Pu4 hq, Int.toNat_natCast, es, if_true, ek]
    exact r1
theorem L_run {z p r e g n : Nat} {M : hM} {q : hQ} (h : LX S M p r e g n q) :
    ∃ S' M', m_L_run (hp S z M) z (z + p) (z + r) (z + g) (z + n) = some ((jI 1, z + (n + 1)), hp S' z M') ∧ LX S' M' p r e g (n + 1) q := by
  have h' := h
  obtain ⟨g1, g2, g3, g4, g5, g6, g7, g8, g9, g10⟩ := h'
  obtain ⟨M1, b1, b2, _, b4, b5⟩ := X8_go (z := z) g2 g1 (by omega) g9.1.1 g6
  have h1 : LX S M1 p r e g n q := h.fl (FL.ofR b4 b5) SK.rfl' (Nat.le_refl _)
  obtain ⟨S', M', r1, r2⟩ := L_r10 (z := z) 8 0 hN_f M1 (by omega) (by unfold hN_f; omega) ⟨h1, b2⟩
  refine ⟨S', M', ?_, r2⟩
  unfold m_L_run
  simp only [↓Rv g2]
  rw [b1]
  simp only [↓mo_cs_s, ji1, ji2, ji3, ji4, ji5, ji6, ji7, ji8, ji9, ji10, ji11, ji12, ji13, ji14, ji15, ji16, ji19, ji20, ji24, ji31, ji32, ji39, ji45, ji48, ji57, ji58, ji59, ji60, ji97, ji100, ji119, ji120, ji122, ji144, ji200, ji226, ji240, ji255, ji300, ji366, ji400, ji500, ji1000, jI_z, ↓jI_m1, jI_add, jI_sub, jI_mul, ↓jm1000, ↓jm100, ↓jm10, ↓jm9, ji50, ji65280, ji1664525, ji252645135, ji858993459, ji1013904223, ji1431655765, ji2147483639, ji2147483647]
  exact r1

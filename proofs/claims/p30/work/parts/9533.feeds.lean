variable {S : hSh}
/-! THE TEXT, FED in pieces of twenty bytes. -/
def bn (t : List Int) (i : Nat) : Nat := if i < t.length then (t.getD i 0).toNat else 32
def wk (t : List Int) (p : Nat) : Nat → Nat
  | 0 => 0
  | c + 1 => 256 * wk t p c + bn t (p + c)
theorem bn_lt {t : List Int} (hv : ∀ i, 0 ≤ t.getD i 0 ∧ t.getD i 0 < 128) (i : Nat) : bn t i < 128 := by
  unfold bn
  have := hv i
  split <;> omega
theorem wk_lt {t : List Int} (hv : ∀ i, 0 ≤ t.getD i 0 ∧ t.getD i 0 < 128) (p c : Nat) (hc : c ≤ 3) : wk t p c < 8388608 := by
  have b0 := bn_lt hv (p + 0)
  have b1 := bn_lt hv (p + 1)
  have b2 := bn_lt hv (p + 2)
  rcases (show c = 0 ∨ c = 1 ∨ c = 2 ∨ c = 3 by omega) with rfl | rfl | rfl | rfl <;> simp only [wk] <;> omega
theorem jI_pk {v b : Nat} (hv : v < 8388608) (hb : b < 256) : ((jI (v : Int) <<< (jI 8 &&& jI 31)) ||| jI (b : Int)) = jI ((256 * v + b : Nat) : Int) := by
  have h1 : (jI (v : Int) <<< (jI 8 &&& jI 31)) = jI ((256 * v : Nat) : Int) := by
    have e : (jI 8 &&& jI 31) = (8 : Int32) := by decide
    rw [e, jI_nat, jI_nat]
    apply Int32.toBitVec_inj.mp
    apply BitVec.eq_of_toNat_eq
    simp [Int32.toBitVec_shiftLeft, Nat.shiftLeft_eq]
    omega
  rw [h1, jI_or (by omega) (by omega)]
  congr 2
  have := Nat.shiftLeft_add_eq_or_of_lt (i := 8) (b := b) (by omega) v
  rw [Nat.shiftLeft_eq, show (2 ^ 8 : Nat) = 256 from by decide] at this
  rw [Nat.mul_comm 256 v]; omega
theorem bL_w {t : List Int} (hv : ∀ i, 0 ≤ t.getD i 0 ∧ t.getD i 0 < 128) (p : Nat) : bL (jI (wk t p 4)) = [((bn t p : Nat) : Int), ((bn t (p + 1) : Nat) : Int), ((bn t (p + 2) : Nat) : Int), ((bn t (p + 3) : Nat) : Int)] := by
  have b0 := bn_lt hv p
  have b1 := bn_lt hv (p + 1)
  have b2 := bn_lt hv (p + 2)
  have b3 := bn_lt hv (p + 3)
  have e : wk t p 4 = 256 * (256 * (256 * bn t p + bn t (p + 1)) + bn t (p + 2)) + bn t (p + 3) := by simp only [wk, Nat.add_zero, Nat.mul_zero, Nat.zero_add]
  unfold bL beB
  rw [jI_in (by omega) (by omega), e]
  have p24 : ((2 ^ 24 : Nat) : Int) = 16777216 := by decide
  have p16 : ((2 ^ 16 : Nat) : Int) = 65536 := by decide
  have p8 : ((2 ^ 8 : Nat) : Int) = 256 := by decide
  have p0 : ((2 ^ 0 : Nat) : Int) = 1 := by decide
  rw [p24, p16, p8, p0]
  generalize bn t p = a0 at *
  generalize bn t (p + 1) = a1 at *
  generalize bn t (p + 2) = a2 at *
  generalize bn t (p + 3) = a3 at *
  congr 1
  · omega
  · congr 1
    · omega
    · congr 1
      · omega
      · congr 1; omega
/-- between 133 and n nothing changes -/
def FY (n : Nat) (M M' : hM) : Prop := ∀ a, 133 ≤ a → a < n → (∀ k, gI M' a k = gI M a k) ∧ ∀ k, gA M' a k = gA M a k
theorem FY.rfl' {n : Nat} {M : hM} : FY n M M := fun _ _ _ => ⟨fun _ => rfl, fun _ => rfl⟩
theorem FY.trans {n : Nat} {M M' M'' : hM} (h : FY n M M') (h' : FY n M' M'') : FY n M M'' := fun a h1 h2 => ⟨fun k => ((h' a h1 h2).1 k).trans ((h a h1 h2).1 k), fun k => ((h' a h1 h2).2 k).trans ((h a h1 h2).2 k)⟩
theorem FY.mono {n m : Nat} {M M' : hM} (h : FY n M M') (hm : m ≤ n) : FY m M M' := fun a h1 h2 => h a h1 (by omega)
theorem KM.fy {n : Nat} {M M' : hM} (h : KM M M') : FY n M M' := fun a h1 _ => h a h1
theorem Fr.fy {n lo hi : Nat} {M M' : hM} (h : Fr lo hi M M') (hl : n ≤ lo) : FY n M M' := fun a _ h2 => h a (by omega)
theorem ST.fy {S' : hSh} {M M' : hM} {s n : Nat} {t : List Int} (h : ST S M s t) (hs : SK n S S') (hf : FY n M M') (hn : s + 2 ≤ n) : ST S' M' s t := by
  have h133 := h.o.1
  have f0 := hf s (by omega) (by omega)
  have f1 := hf (s + 1) (by omega) (by omega)
  exact ⟨h.o.sk hs (by omega), by rw [hs s (by omega)]; exact h.r, by rw [hs s (by omega)]; exact h.i, by rw [f0.1]; exact h.k0, by rw [f0.1]; exact h.k1, h.a.sk hs (by omega), fun i hi => by rw [f1.2]; exact h.b i hi, h.v⟩
theorem L_f20 {z s x z7 v8 o : Nat} {t : List Int} {K : ac_H → Nat → Int32 → Int32 → Option ((Int32 × Nat) × ac_H)} (hx : lA S x 0 5) (hsx : s + 1 < x) (hl : t.length ≤ 200) (ho : o ≤ 200) : ∀ (d j f : Nat) (M : hM), j + d = 20 → d < f → ST S M s t → (∀ k, k < 5 → gA M x k = ((wk t (o + 4 * k) (min 4 (j - 4 * k)) : Nat) : Int)) →
    ∃ M', m_L_feeds_l20 K z (z + s) f (hp S z M) z7 (jI v8) (jI o) (z + x) (jI j) = m_L_feeds_l20 K z (z + s) (f - d) (hp S z M') z7 (jI v8) (jI o) (z + x) (jI 20) ∧ (∀ k, k < 5 → gA M' x k = ((wk t (o + 4 * k) 4 : Nat) : Int)) ∧ (∀ a k, gI M' a k = gI M a k) ∧ (∀ a k, a ≠ x → gA M' a k = gA M a k) ∧ Vr M M' := by
  intro d
  induction d with
  | zero =>
    intro j f M hj hf hST hA
    have e : j = 20 := by omega
    subst e
    exact ⟨M, rfl, fun k hk => by rw [hA k hk, show min 4 (20 - 4 * k) = 4 by omega], fun _ _ => rfl, fun _ _ _ => rfl, fun _ => rfl⟩
  | succ d ih =>
    intro j f M hj hf hST hA
    obtain ⟨f, rfl⟩ : ∃ g, f = g + 1 := ⟨f - 1, by omega⟩
    have hv := hST.v
    have hj4 : j / 4 < 5 := by omega
    have hm : min 4 (j - 4 * (j / 4)) = j % 4 := by omega
    have hw := hA (j / 4) hj4
    rw [hm] at hw
    have hwl := wk_lt hv (o + 4 * (j / 4)) (j % 4) (by omega)
    have hb := bn_lt hv (o + j)
    have ej : o + 4 * (j / 4) + j % 4 = o + j := by omega
    have hnew : 256 * wk t (o + 4 * (j / 4)) (j % 4) + bn t (o + j) = wk t (o + 4 * (j / 4)) (j % 4 + 1) := by simp only [wk, ej]
    have g1 : (j : Int) < 20 := by omega
    have dv : ∀ {α : Type} (F : Int32 → Option α), mo_dv (jI j) (jI 4) F = F (jI ((j / 4 : Nat) : Int)) := by
      intro α F
      exact mo_dv_j (F := F) (a := j) (b := 4) (by omega) (by omega) (by omega) (by omega)
    have hST2 : ST S (sA M x (j / 4) ((wk t (o + 4 * (j / 4)) (j % 4 + 1) : Nat) : Int)) s t :=
      ⟨hST.o, hST.r, hST.i, hST.k0, hST.k1, hST.a, fun i hi => by rw [gA_ne (by omega)]; exact hST.b i hi, hST.v⟩
    obtain ⟨M', r1, r2, r3, r4, r5⟩ := ih (j + 1) f (sA M x (j / 4) ((wk t (o + 4 * (j / 4)) (j % 4 + 1) : Nat) : Int)) (by omega) (by omega) hST2 (fun k hk => by
      rw [gA_sA]
      by_cases hk' : k = j / 4
      · rw [if_pos ⟨rfl, hk'⟩, hk', show min 4 (j + 1 - 4 * (j / 4)) = j % 4 + 1 by omega]
      · rw [if_neg (by omega), hA k hk, show min 4 (j + 1 - 4 * k) = min 4 (j - 4 * k) by omega])
    refine ⟨M', ?_, r2, fun a k => by rw [r3]; rfl, fun a k ha => by rw [r4 a k ha, gA_ne (by omega)], fun k => r5 k⟩
    rw [show f + 1 - (d + 1) = f - d by omega, ← r1]
    conv => lhs; unfold m_L_feeds_l20
    simp (disch := omega) only [ji1, ji2, ji3, ji4, ji5, ji6, ji7, ji8, ji9, ji10, ji11, ji12, ji13, ji14, ji15, ji16, ji19, ji20, ji24, ji31, ji32, ji39, ji45, ji48, ji57, ji58, ji59, ji60, ji97, ji100, ji119, ji120, ji122, ji144, ji200, ji226, ji240, ji255, ji300, ji366, ji400, ji500, ji1000, jI_z, ↓jI_m1, jI_add, jI_sub, jI_mul, ↓jm1000, ↓jm100, ↓jm10, ↓jm9, ji50, ji65280, ji1664525, ji252645135, ji858993459, ji1013904223, ji1431655765, ji2147483639, ji2147483647, jI_lt, g1, if_true, dv]
    rw [hl_ai hx (by omega) (by omega) (by omega), Int.toNat_natCast, hw, hl_cv hST.o, J0_len hST]
    simp (disch := omega) only [↓mo_ns_r, ↓hn0, ↓mo_cs_s, ↓mo_xs_r, ↓mo_xs_l, ↓mo_nl_s, mo_z_0, mo_z_1, ji1, ji2, ji3, ji4, ji5, ji6, ji7, ji8, ji9, ji10, ji11, ji12, ji13, ji14, ji15, ji16, ji19, ji20, ji24, ji31, ji32, ji39, ji45, ji48, ji57, ji58, ji59, ji60, ji97, ji100, ji119, ji120, ji122, ji144, ji200, ji226, ji240, ji255, ji300, ji366, ji400, ji500, ji1000, jI_z, ↓jI_m1, jI_add, jI_sub, jI_mul, ↓jm1000, ↓jm100, ↓jm10, ↓jm9, ji50, ji65280, ji1664525, ji252645135, ji858993459, ji1013904223, ji1431655765, ji2147483639, ji2147483647, jI_lt]
    by_cases hi : o + j < t.length
    · have eb : t.getD (o + j) 0 = ((bn t (o + j) : Nat) : Int) := by unfold bn; rw [if_pos hi]; have := hv (o + j); omega
      rw [if_pos (by omega), hl_cv hST.o, show (o : Int) + j = ((o + j : Nat) : Int) by omega, J0_at hST hi (by omega), eb]
      simp only [↓mo_ns_r, ↓hn0, ↓mo_cs_s, ↓mo_xs_r, ↓mo_xs_l, ↓mo_nl_s, mo_z_0, mo_z_1]
      rw [jI_pk hwl (by omega), hl_ui hx (by omega) (by omega) (by omega), Int.toNat_natCast, hnew]
      rfl
    · have eb : bn t (o + j) = 32 := by unfold bn; rw [if_neg hi]
      rw [if_neg (by omega), show jI 32 = jI ((32 : Nat) : Int) from rfl, ← eb, jI_pk hwl (by omega), hl_ui hx (by omega) (by omega) (by omega), Int.toNat_natCast, hnew]
      rfl
def bnL (t : List Int) (m : Nat) : List Int := (List.range m).map fun k => ((bn t k : Nat) : Int)
theorem bnL_s {t : List Int} (hv : ∀ i, 0 ≤ t.getD i 0 ∧ t.getD i 0 < 128) (i : Nat) : bnL t (20 * i) ++ bL (jI (wk t (20 * i + 4 * 0) 4)) ++ bL (jI (wk t (20 * i + 4 * 1) 4)) ++ bL (jI (wk t (20 * i + 4 * 2) 4)) ++ bL (jI (wk t (20 * i + 4 * 3) 4)) ++ bL (jI (wk t (20 * i + 4 * 4) 4)) = bnL t (20 * (i + 1)) := by
  rw [bL_w hv, bL_w hv, bL_w hv, bL_w hv, bL_w hv, show 20 * (i + 1) = 20 * i + 20 by omega]
  unfold bnL
  rw [List.range_add, List.map_append]
  simp only [List.append_assoc]
  rfl
theorem bnL_len {t : List Int} {m : Nat} : (bnL t m).length = m := by unfold bnL; simp
theorem bnL_take {t : List Int} {m : Nat} (hv : ∀ i, 0 ≤ t.getD i 0 ∧ t.getD i 0 < 128) (h : t.length ≤ m) : (bnL t m).take t.length = t := by
  apply List.ext_getElem?
  intro i
  rw [List.getElem?_take]
  by_cases hi : i < t.length
  · rw [if_pos hi]
    unfold bnL
    rw [List.getElem?_map, List.getElem?_range (by omega)]
    have := hv i
    rw [List.getElem?_eq_getElem hi]
    simp only [Option.map_some]
    unfold bn
    rw [if_pos hi]
    rw [List.getD_eq_getElem?_getD, List.getElem?_eq_getElem hi, Option.getD_some] at this ⊢
    congr 1; omega
  · rw [if_neg hi, List.getElem?_eq_none (by omega)]
theorem L_f4 {z s : Nat} {t : List Int} (hl : t.length ≤ 120) : ∀ (f i n : Nat) (S : hSh) (M : hM) (q : hQ), t.length + 20 ≤ 20 * (i + f) → 20 * i ≤ t.length + 19 → s + 2 ≤ n → ST S M s t → CI M q → okQ q → q.2.2.2.1 = bnL t (20 * i) →
    ∃ S' M' n' q' m, m_L_feeds_l4 z (z + s) f (hp S z M) (z + n) (jI ((20 * i : Nat) : Int)) (jI ((20 * i : Nat) : Int)) = some ((jI 1, z + n'), hp S' z M') ∧ n ≤ n' ∧ SK n S S' ∧ FY n M M' ∧ CI M' q' ∧ okQ q' ∧ q'.2.2.2.1 = bnL t m ∧ t.length ≤ m := by
  intro f
  induction f with
  | zero => intro i n S M q h1 h1' _ hST; omega
  | succ f ih =>
    intro i n S M q h1 h1' h2 hST hC hO hq
    have h133 := hST.o.1
    by_cases hi : 20 * i < t.length
    · have hn := hl_na (S := S) (z := z) (a := n) (kd := 0) (n := 5) (M := M) (by omega) (by decide)
      have sk : SK n S (sS S n (20 + 0, 5, fun _ => 0)) := fun x hx => sS_n (by omega)
      have a2 : lA (sS S n (20 + 0, 5, fun _ => 0)) n 0 5 := by unfold lA; rw [sS_a]; exact ⟨by omega, rfl, by decide, rfl⟩
      generalize sS S n (20 + 0, 5, fun _ => 0) = S1 at hn sk a2
      have fy1 : FY n M (zM M n) := (Fr_zM (lo := n) (hi := n + 1) (by omega)).fy (by omega)
      have hST1 : ST S1 (zM M n) s t := hST.fy sk fy1 h2
      have kl1 : KL M (zM M n) := ⟨fun a ha => ⟨fun k => by rw [gI_zM, if_neg (by omega)], fun k => by rw [gA_zM, if_neg (by omega)]⟩, fun _ => rfl⟩
      obtain ⟨M2, r1, r2, r3, r4, r5⟩ := L_f20 (z := z) (s := s) (x := n) (z7 := z + (n + 1)) (v8 := 20 * i) (o := 20 * i) (t := t) (K := fun ρ y0 y1 y2 => m_L_feeds_l4 z (z + s) f ρ y0 y1 y2) a2 (by omega) (by omega) (by omega) 20 0 hN_f (zM M n) (by omega) (by unfold hN_f; omega) hST1 (fun k hk => by rw [gA_zM, if_pos rfl, show min 4 (0 - 4 * k) = 0 by omega]; rfl)
      have fy2 : FY n (zM M n) M2 := fun a _ ha => ⟨r3 a, fun k => r4 a k (by omega)⟩
      have kl2 : KL (zM M n) M2 := ⟨fun a ha => ⟨r3 a, fun k => r4 a k (by omega)⟩, r5⟩
      have hC2 : CI M2 q := (hC.kl hO kl1).kl hO kl2
      have hv := hST.v
      obtain ⟨M3, c1, c2, c3⟩ := cvD (C_append (S := S1) (z := z) (a := jI (wk t (20 * i + 4 * 0) 4)) (b := jI (wk t (20 * i + 4 * 1) 4)) (c := jI (wk t (20 * i + 4 * 2) 4)) (d := jI (wk t (20 * i + 4 * 3) 4)) (e := jI (wk t (20 * i + 4 * 4) 4)) hC2 hO)
      have hql : q.2.2.2.1.length = 20 * i := by rw [hq, bnL_len]
      have eR : rAppend q (jI (wk t (20 * i + 4 * 0) 4)) (jI (wk t (20 * i + 4 * 1) 4)) (jI (wk t (20 * i + 4 * 2) 4)) (jI (wk t (20 * i + 4 * 3) 4)) (jI (wk t (20 * i + 4 * 4) 4)) = (0, ((20 * (i + 1) : Nat) : Int), q.1, q.2.1, q.2.2.1, bnL t (20 * (i + 1)), q.2.2.2.2) := by
        unfold rAppend
        rw [if_neg (by omega), hql, hq, bnL_s hv, show ((20 * i : Nat) : Int) + 20 = ((20 * (i + 1) : Nat) : Int) by omega]
      have hO3 := okQ_append (a := jI (wk t (20 * i + 4 * 0) 4)) (b := jI (wk t (20 * i + 4 * 1) 4)) (c := jI (wk t (20 * i + 4 * 2) 4)) (d := jI (wk t (20 * i + 4 * 3) 4)) (e := jI (wk t (20 * i + 4 * 4) 4)) hO
      rw [eR] at c1 c2 hO3
      have fy3 : FY n M M3 := (fy1.trans fy2).trans c3.fy
      obtain ⟨S4, M4, n4, q4, m4, d1, d2, d3, d4, d5, d6, d7, d8⟩ := ih (i + 1) (n + 1) S1 M3 _ (by omega) (by omega) (by omega) (hST.fy sk fy3 h2) c2 hO3 rfl
      refine ⟨S4, M4, n4, q4, m4, ?_, by omega, sk.trans (d3.mono (by omega)), fy3.trans (d4.mono (by omega)), d5, d6, d7, d8⟩
      unfold m_L_feeds_l4
      rw [hl_cv hST.o, J0_len hST]
      simp (disch := omega) only [↓mo_ns_r, ↓hn0, ↓mo_cs_s, ↓mo_xs_r, ↓mo_xs_l, ↓mo_nl_s, mo_z_0, mo_z_1, jI_lt]
      rw [if_pos (by omega), hn]
      simp only [ji1, ji2, ji3, ji4, ji5, ji6, ji7, ji8, ji9, ji10, ji11, ji12, ji13, ji14, ji15, ji16, ji19, ji20, ji24, ji31, ji32, ji39, ji45, ji48, ji57, ji58, ji59, ji60, ji97, ji100, ji119, ji120, ji122, ji144, ji200, ji226, ji240, ji255, ji300, ji366, ji400, ji500, ji1000, jI_z, ↓jI_m1, jI_add, jI_sub, jI_mul, ↓jm1000, ↓jm100, ↓jm10, ↓jm9, ji50, ji65280, ji1664525, ji252645135, ji858993459, ji1013904223, ji1431655765, ji2147483639, ji2147483647]
      show m_L_feeds_l20 _ z (z + s) hN_f (hp S1 z (zM M n)) (z + (n + 1)) (jI ((20 * i : Nat) : Int)) (jI ((20 * i : Nat) : Int)) (z + n) (jI ((0 : Nat) : Int)) = _
      rw [r1, show hN_f - 20 = 99979 + 1 from rfl]
      unfold m_L_feeds_l20
      simp only [ji1, ji2, ji3, ji4, ji5, ji6, ji7, ji8, ji9, ji10, ji11, ji12, ji13, ji14, ji15, ji16, ji19, ji20, ji24, ji31, ji32, ji39, ji45, ji48, ji57, ji58, ji59, ji60, ji97, ji100, ji119, ji120, ji122, ji144, ji200, ji226, ji240, ji255, ji300, ji366, ji400, ji500, ji1000, jI_z, ↓jI_m1, jI_add, jI_sub, jI_mul, ↓jm1000, ↓jm100, ↓jm10, ↓jm9, ji50, ji65280, ji1664525, ji252645135, ji858993459, ji1013904223, ji1431655765, ji2147483639, ji2147483647]
      rw [if_neg (by decide), hl_ai a2 (by omega) (by omega) (by omega), hl_ai a2 (by omega) (by omega) (by omega), hl_ai a2 (by omega) (by omega) (by omega), hl_ai a2 (by omega) (by omega) (by omega), hl_ai a2 (by omega) (by omega) (by omega),
        show (0 : Int).toNat = 0 from rfl, show (1 : Int).toNat = 1 from rfl, show (2 : Int).toNat = 2 from rfl, show (3 : Int).toNat = 3 from rfl, show (4 : Int).toNat = 4 from rfl, r2 0 (by omega), r2 1 (by omega), r2 2 (by omega), r2 3 (by omega), r2 4 (by omega), c1]
      have e20 : ((20 * i : Nat) : Int) + 20 = ((20 * (i + 1) : Nat) : Int) := by omega
      simp only [e20, if_true]
      exact d1
    · refine ⟨S, M, n, q, 20 * i, ?_, Nat.le_refl _, SK.rfl', FY.rfl', hC, hO, hq, by omega⟩
      unfold m_L_feeds_l4
      rw [hl_cv hST.o, J0_len hST]
      simp (disch := omega) only [↓mo_ns_r, ↓hn0, ↓mo_cs_s, ↓mo_xs_r, ↓mo_xs_l, ↓mo_nl_s, mo_z_0, mo_z_1, jI_lt]
      rw [if_neg (by omega)]
      simp only [ji1, ji2, ji3, ji4, ji5, ji6, ji7, ji8, ji9, ji10, ji11, ji12, ji13, ji14, ji15, ji16, ji19, ji20, ji24, ji31, ji32, ji39, ji45, ji48, ji57, ji58, ji59, ji60, ji97, ji100, ji119, ji120, ji122, ji144, ji200, ji226, ji240, ji255, ji300, ji366, ji400, ji500, ji1000, jI_z, ↓jI_m1, jI_add, jI_sub, jI_mul, ↓jm1000, ↓jm100, ↓jm10, ↓jm9, ji50, ji65280, ji1664525, ji252645135, ji858993459, ji1013904223, ji1431655765, ji2147483639, ji2147483647, ↓mo_ns_r, ↓hn0, ↓mo_cs_s, ↓mo_xs_r, ↓mo_xs_l, ↓mo_nl_s, mo_z_0, mo_z_1]

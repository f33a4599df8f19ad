variable {S : hSh}
/-! ONE SCRIPT of the law. -/
theorem BB.fy {S' : hSh} {M M' : hM} {b lo n n' c : Nat} {t : List Int} (h : BB S M b lo n t c) (hs : SK n S S') (hf : FY n M M') (hn : n ≤ n') : BB S' M' b lo n' t c := by
  obtain ⟨w, x, w1, w2, w3, w4, w5, w6, w7, w8, w9⟩ := h.w
  have hbl := h.bl
  have hln := h.ln
  have h133 := h.o.1
  have f0 := hf b (by omega) (by omega)
  have f1 := hf w w2.1 (by omega)
  exact ⟨h.o.sk hs (by omega), by rw [hs b (by omega)]; exact h.r, by rw [hs b (by omega)]; exact h.i, by rw [f0.1]; exact h.k1, by rw [f0.1]; exact h.k3, h.tc, h.bl, by omega, w, x, by rw [f0.1]; exact w1, w2.sk hs (by omega), w3, w4, w5, fun i => by rw [f1.2]; exact w6 i, fun i hi => by rw [f1.2]; exact w7 i hi, w8, by omega⟩
theorem J4_len {z b lo n c : Nat} {M : hM} {t : List Int} (h : BB S M b lo n t c) : m_J4_length_8abf5 (hp S z M) (z + b) = some (jI t.length, hp S z M) := by
  unfold m_J4_length_8abf5 m_J5_length_8abf5
  rw [Dv h, Dg3 h]
  simp only [↓mo_ns_r, ↓hn0, ↓mo_cs_s, ↓mo_xs_r, ↓mo_xs_l, ↓mo_nl_s, mo_z_0, mo_z_1]
theorem fEn_len : ∀ (fs : List (Nat × Nat × Nat)) (E : Nat → Int), fAll E fs → (fl (fEn E fs) 360 0).length = (fl E 360 0).length + fs.length := by
  intro fs
  induction fs with
  | nil => intro E _; rfl
  | cons x t ih =>
    intro E h
    obtain ⟨v1, v2, v3, v4, _⟩ := fV_in h.1
    show (fl (fEn (pt E (fK x) (fV x)) t) 360 0).length = _
    rw [ih _ h.2, fl_insl (by omega) h.1.2.2.2 (by omega), List.length_cons]; omega
theorem Fr.kl {lo hi : Nat} {M M' : hM} (h : Fr lo hi M M') (hv : Vr M M') (hl : 133 ≤ lo) : KL M M' := ⟨fun a ha => h a (by omega), hv⟩
theorem PE.fy {n p : Nat} {M M' : hM} {o E : Nat → Int} (h : PE M p o E) (f : FY n M M') (h1 : 133 ≤ p) (h2 : p + 5 ≤ n) : PE M' p o E :=
  h.cg2 (fun b g1 g2 k => (f b (by omega) (by omega)).2 k)
/-- the law's invariant between scripts -/
def LB (M : hM) (q : hQ) : Prop := CI M q ∧ okQ q ∧ q.2.2.2.1 = []
theorem L_plays {z g n : Nat} {M : hM} {q : hQ} (h : LB M q) (hg : lA S g 0 1) (hgn : g < n) : ∃ S' M' n' q', m_L_plays (hp S z M) z (z + g) (z + n) = some ((jI 1, z + n'), hp S' z M') ∧ LB M' q' ∧ 133 ≤ n' := by
  obtain ⟨hC, hO, hin⟩ := h
  have hg1 := hg.1
  obtain ⟨S1, M1, a1, a2, a3, a4, a5⟩ := J4_new (S := S) (z := z) (n := n) (M := M) (by omega)
  obtain ⟨o, hoR, S2, M2, n2, fs, b1, b2, b3, b4, b5, b6, b7⟩ := L_bench (z := z) (b := n) (g := g) (n := n + 2) (a2 (n + 2) (n + 2) (by omega) (by omega)) (hg.sk a3 (by omega)) hgn (Nat.le_refl _)
  obtain ⟨x1, x2, x3, x4, x5, x6, x7, x8⟩ := b2
  have hln := x1.ln
  have na := hl_na (S := S2) (z := z) (a := n2) (kd := 2) (n := 144) (M := M2) (by omega) (by decide)
  have sk2 : SK n2 S2 (sS S2 n2 (20 + 2, 144, fun _ => 0)) := fun x hx => sS_n (by omega)
  have he : lA (sS S2 n2 (20 + 2, 144, fun _ => 0)) n2 2 144 := by unfold lA; rw [sS_a]; exact ⟨by omega, rfl, by decide, rfl⟩
  generalize sS S2 n2 (20 + 2, 144, fun _ => 0) = S3 at na sk2 he
  obtain ⟨S4, M4, r1, r2, r3, r4, r5⟩ := X8_new (S := S3) (z := z) (n := n2 + 1) (M := zM M2 n2) (by omega)
  have fz : Fr n2 (n2 + 1) M2 (zM M2 n2) := Fr_zM (by omega)
  have f24 : FY n2 M2 M4 := (fz.fy (Nat.le_refl _)).trans (r4.fy (by omega))
  have s24 : SK n2 S2 S4 := sk2.trans (r3.mono (by omega))
  obtain ⟨S5, M5, t1, t2, t3, t4, t5⟩ := J4_str (z := z) (x1.fy s24 f24 (show n2 ≤ n2 + 10 by omega))
  have kl1 : KL M M1 := a4.kl a5 (by omega)
  have kl2 : KL M1 M2 := ⟨fun a ha => b7.1 a (by omega) (by omega) (by omega) (by omega), b7.2⟩
  have kl3 : KL M2 (zM M2 n2) := fz.kl (fun _ => rfl) (by omega)
  have kl4 : KL (zM M2 n2) M4 := r4.kl r5 (by omega)
  have kl5 : KL M4 M5 := t4.kl t5 (by omega)
  have hC5 : CI M5 q := ((((hC.kl hO kl1).kl hO kl2).kl hO kl3).kl hO kl4).kl hO kl5
  have hlen := x2
  obtain ⟨S6, M6, n6, q6, m6, c1, c2, c3, c4, c5, c6, c7, c8⟩ := L_f4 (z := z) (s := n2 + 10) (t := bT0 o fs) (by omega) 12 0 (n2 + 12) S5 M5 q (by omega) (by omega) (by omega) t2 hC5 hO (by rw [hin]; rfl)
  have hv := t2.v
  have htk : (q6.2.2.2.1.take (bT0 o fs).length) = bT0 o fs := by rw [c7]; exact bnL_take hv c8
  obtain ⟨w, p', o', hp1, hp2⟩ := rBench (o := o) (fs := fs) hoR b3 b4
  have hl6 : q6.2.2.2.1.length = m6 := by rw [c7, bnL_len]
  have hpr : rParse q6 ((bT0 o fs).length : Nat) = (0, 0, ((o', fl (fEn (fun _ => 0) fs) 360 0), fun _ => 0), [], fun _ => none, [], -1) := by
    unfold rParse
    rw [if_pos ⟨by omega, by rw [hl6]; omega⟩, Int.toNat_natCast, htk, hp1]
  have pc := C_parse (S := S6) (z := z) (n := ((bT0 o fs).length : Nat)) c5 c6 ⟨by omega, by omega⟩
  have po := okQ_parse (n := ((bT0 o fs).length : Nat)) c6
  rw [hpr] at pc po
  obtain ⟨M7, d1, d2, d3⟩ := nvC pc rfl
  have f45 : FY (n2 + 10) M4 M5 := t4.fy (by omega)
  have f56 : FY (n2 + 12) M5 M6 := c4
  have f67 : FY (n2 + 12) M6 M7 := d3.fy
  have f47 : FY (n2 + 10) M4 M7 := (f45.trans (f56.mono (by omega))).trans (f67.mono (by omega))
  have f27 : FY n2 M2 M7 := f24.trans (f47.mono (by omega))
  have s46 : SK (n2 + 10) S4 S6 := t3.trans (c3.mono (by omega))
  have s26 : SK n2 S2 S6 := s24.trans (s46.mono (by omega))
  have eE := fEn_ok fs (fun _ => 0) (fun j _ => ⟨by show (0 : Int) ≤ 0; decide, by show (0 : Int) ≤ 20; decide, fun _ => by show (0 : Int) ≤ 1; decide⟩) b3
  have hX : LX S6 M7 (n + 2) (n2 + 1) n2 g n6 (((o', fl (fEn (fun _ => 0) fs) 360 0), fun _ => 0), [], fun _ => none, [], -1) := by
    refine ⟨x6.sk s26 (by omega), r2.sk s46 (by omega), (he.sk (r3.mono (by omega : n2 + 1 ≤ n2 + 1)) (by omega)).sk s46 (by omega), x5.sk s26 (by omega), by omega, ⟨fEn (fun _ => 0) fs, eE, ?_, rfl⟩, ?_, d2, po, ?_, rfl⟩
    · have := x7.fy f27 (by omega) (by omega)
      exact ⟨fun k hk => by rw [this.1 k hk]; exact (hp2 k hk).symm, this.2⟩
    · intro s t hs ht
      rw [(f47 n2 (by omega) (by omega)).2, (r4 n2 (by omega)).2, gA_zM, if_pos rfl]
      show (0 : Int) = if (0 : Nat).testBit t = true then 1 else 0
      rw [Nat.zero_testBit, if_neg (by decide)]
    · show (fl (fEn (fun _ => 0) fs) 360 0).length ≤ 6
      rw [fEn_len fs _ b3, fl_0]; simp; omega
  obtain ⟨S8, M8, n8, q8, e1, e2⟩ := L_l57 (z := z) 7 0 9 n6 S6 M7 _ (by omega) (by omega) hX
  refine ⟨S8, M8, n8, q8, ?_, ⟨e2.2.2.2.2.2.2.2.1, e2.2.2.2.2.2.2.2.2.1, e2.2.2.2.2.2.2.2.2.2.2⟩, by have := e2.2.2.2.2.1; omega⟩
  unfold m_L_plays
  show mo_cs (m_J4_init_da8c8 _ _ (z + n + 1)) _ = _
  rw [a1]
  simp only [↓mo_ns_r, ↓hn0, ↓mo_cs_s, ↓mo_xs_r, ↓mo_xs_l, ↓mo_nl_s, mo_z_0, mo_z_1]
  rw [b1]
  simp only [↓mo_ns_r, ↓hn0, ↓mo_cs_s, ↓mo_xs_r, ↓mo_xs_l, ↓mo_nl_s, mo_z_0, mo_z_1]
  rw [na]
  show mo_cs (m_X8_init (ac_up (hp S3 z (zM M2 n2)) (z + (n2 + 1)) _) (z + (n2 + 1)) (z + (n2 + 1) + 1)) _ = _
  rw [r1]
  simp only [↓mo_ns_r, ↓hn0, ↓mo_cs_s, ↓mo_xs_r, ↓mo_xs_l, ↓mo_nl_s, mo_z_0, mo_z_1]
  show mo_cv _ _ 10 (m_J4_toString_0e30d (hp S4 z M4) (z + n) (z + (n2 + 10))) _ = _
  rw [Dv (x1.fy s24 f24 (show n2 ≤ n2 + 10 by omega)), t1]
  simp only [↓mo_ns_r, ↓hn0, ↓mo_cs_s, ↓mo_xs_r, ↓mo_xs_l, ↓mo_nl_s, mo_z_0, mo_z_1]
  unfold m_L_feeds
  show mo_cs (m_L_feeds_l4 z (z + (n2 + 10)) 12 (hp S5 z M5) (z + (n2 + 12)) (jI ((20 * 0 : Nat) : Int)) (jI ((20 * 0 : Nat) : Int))) _ = _
  rw [c1]
  simp only [↓mo_ns_r, ↓hn0, ↓mo_cs_s, ↓mo_xs_r, ↓mo_xs_l, ↓mo_nl_s, mo_z_0, mo_z_1]
  have hB6 : BB S6 M6 n (n + 2 + 6) n6 (bT0 o fs) (bT0 o fs).length := (x1.fy s26 ((f24.trans (f45.mono (by omega))).trans (f56.mono (by omega))) (show n2 ≤ n6 by omega))
  rw [if_neg (by decide), Dv hB6, J4_len hB6]
  simp only [↓mo_cs_s]
  rw [d1]
  show (if jI 0 = 0 then _ else _) = _
  rw [if_pos (by decide)]
  exact e1

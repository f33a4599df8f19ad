variable {S : hSh}
theorem L_c2 {z p r e g n : Nat} {M : hM} {q : hQ} (h : LX S M p r e g n q) : G1 S z p r e g (mo_cv (hp S z M) (z + r) 8 (m_X8_go (hp S z M) (z + r) (z + p)) fun x52 σ51 => m_L_changes_l269 z (z + e) hN_f σ51 (z + n) x52 (jI 0) (jI 0)) := by
  have h' := h
  obtain ⟨g1, g2, g3, g4, g5, g6, g7, g8, g9, g10⟩ := h'
  obtain ⟨M1, b1, b2, _, b4, b5⟩ := X8_go (z := z) g2 g1 (by omega) g9.1.1 g6
  have h1 : LX S M1 p r e g n q := h.fl (FL.ofR b4 b5) SK.rfl' (Nat.le_refl _)
  simp only [↓Rv g2]
  rw [b1]
  simp only [↓mo_cs_s]
  obtain ⟨M', r1, r2, r3, r4⟩ := L_c269 (z := z) (g := g) (n := n) (W := q.1.2) g3 g2 (by omega) (p := p) (by omega) (by omega) 144 0 hN_f M1 (by omega) (by unfold hN_f; omega) h1.2.2.2.2.2.2.2.1 g9 b2 rfl (fun j hj => by rw [if_neg (by omega)]; exact wD_k h1.2.2.2.2.2.2.1 hj)
  rw [show jI (((cs (orW q.1.2 (zR q.1.1).2.2.2.1) 0 : Nat) : Int) - (cs q.1.2 0 : Nat)) = jI 0 from rfl, show jI ((0 : Nat) : Int) = jI 0 from rfl] at r1
  refine ⟨S, M', n, (rRecord q).2.2, r1, h1.new ?_ ?_ r2 (okQ_record g9) g10.1⟩
  · show PL M' p q.1.1
    obtain ⟨E, hE, hPE, hcE⟩ := h1.2.2.2.2.2.1
    exact ⟨E, hE, hPE.cg2 (fun b x0 x1 k => (r4 b (by omega) (by omega)).2 k), hcE⟩
  · show wD M' e (orW q.1.2 (zR q.1.1).2.2.2.1)
    intro s t hs ht
    have := r3 (16 * s + t) (by omega)
    rw [this]
    unfold bt
    rw [show (16 * s + t) / 16 = s from by omega, show (16 * s + t) % 16 = t from by omega]
    split <;> rfl
theorem L_c4 {z p r e g n j : Nat} {M : hM} {q : hQ} {v am : Int} {E : Nat → Int} (h : LX S M p r e g n q) (hj : j < 360) (hE : eOK E) (hcE : q.1.1.2 = fl E 360 0) (h0 : E j = 0) (hv : 0 < v ∧ v ≤ 20) (hv2 : j % 3 ≠ 2 → v = 1) (ham : am = if j % 3 = 2 then v else 0) (hl5 : q.1.1.2.length ≤ 5) {M1 : hM} (hPE : PE M1 p q.1.1.1 (pt E j v)) (hf : Fr p (p + 5) M M1) (hV : Vr M M1) :
    G1 S z p r e g (m_L_changes_l676 z (z + p) hN_f (hp S z M1) (z + n) (jI (j / 3 : Nat)) (jI (j % 3 : Nat)) (jI am) (jI 0)) := by
  have h' := h
  obtain ⟨g1, g2, g3, g4, g5, g6, g7, g8, g9, g10⟩ := h'
  have hCI1 : CI M1 q := g8.kl g9 ⟨fun a ha => hf a (by omega), hV⟩
  have hx : ix E j < 400 := by have := fl_len (E := E) j 0; unfold ix; omega
  obtain ⟨M', r1, r2, r3, r4⟩ := L_c676 (z := z) (p := p) (n := n) (am0 := 0) (r := r) (e := e) (g := g) hj hE h0 hv hv2 ham hcE hl5 (ix E j) 0 hN_f M1 (by omega) (by unfold hN_f; omega) g1 hPE hCI1 g9
  have ok1 := okQ_add (kd := (j % 3 : Nat)) (nm := (j / 3 : Nat)) (am := am) g9
  rw [r4] at r2 ok1
  have hins := fl_ins (n := 360) (v := v) hj h0 (by omega)
  have hix : ix E j ≤ (fl E 360 0).length := by unfold ix; rw [fl_cut hj, List.length_append]; omega
  refine ⟨S, M', n, _, r1, h.new (q' := ((((q.1.1.1, fl (pt E j v) 360 0) : hCf), q.1.2), keepsV q.2.1 q.1, q.2.2)) ⟨pt E j v, eOK_pt hE (by omega) hv.2 (fun x => by have := hv2 x; omega), hPE.cg2 (fun b x0 x1 k => (r3 b (by omega)).2 k), rfl⟩ (g7.cg (fun k => by rw [(r3 e (by omega)).2, (hf e (by omega)).2])) r2 ok1 ?_⟩
  show (fl (pt E j v) 360 0).length ≤ 6
  rw [hins, List.length_insertIdx_of_le_length hix, ← hcE]
  omega

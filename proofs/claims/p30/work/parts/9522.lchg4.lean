variable {S : hSh}
theorem L_c3 {z p r e g n pr : Nat} {M : hM} {q : hQ} (hpr : pr < 4) (h : LX S M p r e g n q) : G1 S z p r e g (mo_cs (m_L_core (hp S z M) (z + p) (z + r) (jI pr) (z + n)) fun x57 σ56 =>
    if x57.1 < jI 0 then mo_z (jI 1) (some ((jI 1, x57.2), σ56)) else mo_cv σ56 (z + p) 7 (m_X7_part σ56 (z + p) x57.1 x57.2) fun x60 σ59 => m_L_changes_l388 z (z + p) (z + r) hN_f σ59 x60.2 (jI pr) x60.1 (jI 0)) := by
  have h' := h
  obtain ⟨g1, g2, g3, g4, g5, g6, g7, g8, g9, g10⟩ := h'
  obtain ⟨S3, M3, n3, c1, c2, c3, c4, c5⟩ := L_core (z := z) (n := n) (pr := pr) (by omega) g9.1.1 g10.1 hpr g1 g2 (by omega) (by omega) (by omega) g6
  have h3 := h.fl c5 c4 c3
  rw [c1]
  simp only [↓mo_cs_s]
  cases hco : coreV q.1.1 pr with
  | none =>
    rw [if_pos (show jI (oI none) < jI 0 by decide)]
    exact ⟨S3, M3, n3, q, mo_z_1, h3⟩
  | some m =>
    rw [hco] at c2
    have hm := coreV_lt g9.1.1 c2
    rw [show oI (some m) = (m : Int) from rfl, if_neg (by rw [jI_lt (by omega) (by omega) (by omega) (by omega)]; omega)]
    have h3' := h3
    obtain ⟨k1, k2, k3, k4, k5, k6, k7, k8, k9, k10⟩ := h3'
    obtain ⟨E, hE, hPE, hcE⟩ := k6
    obtain ⟨S4, M4, a1, a2, a3, a4, a5, a6⟩ := X7_part (S := S3) (z := z) (m := m) (n := n3) k1 (by omega) (by omega) hE hPE (by omega) (by rw [← hcE]; omega)
    have h4 : LX S4 M4 p r e g (n3 + 5) q := h3.fl (FL.ofN a4 a5) a3 (by omega)
    have hPE4 : PE M4 p q.1.1.1 E := hPE.keep a4 (by omega)
    simp only [↓Pv k1]
    rw [a1]
    simp only [↓mo_cs_s]
    have hEp := eOK_pE (b := fun i => m.testBit i) hE
    obtain ⟨M5, b1, b2, b3, b4⟩ := L_c388 (z := z) (r := r) (n0 := 0) (n := n3 + 5) (pr := pr) h4.1 a2 (by omega) hEp 120 0 hN_f M4 E (by omega) (by unfold hN_f; omega) a6 hPE4 (fun j hj => by omega)
    rw [show jI 0 = jI ((0 : Nat) : Int) from rfl, b1]
    have efl : fl (pE E (fun i => m.testBit i)) 360 0 = prt (fun i => m.testBit i) q.1.1.2 0 := by rw [fl_part, hcE]
    have okp : okC (q.1.1.1, fl (pE E (fun i => m.testBit i)) 360 0) := by rw [efl]; exact g9.1.1.prt _ _
    have hle : (fl (pE E (fun i => m.testBit i)) 360 0).length ≤ 6 := by rw [efl]; exact Nat.le_trans (prt_len _ _) g10.1
    have hY : LY S4 M5 p r e g (n3 + 5) q (pE E (fun i => m.testBit i)) := ⟨h4.1, h4.2.1, h4.2.2.1, h4.2.2.2.1, h4.2.2.2.2.1, ⟨hEp, b2, okp, hle⟩, h4.2.2.2.2.2.2.1.cg (b3 e (by omega)).2, h4.2.2.2.2.2.2.2.1.kl g9 ⟨fun a ha => b3 a (by omega), b4⟩, g9⟩
    have R := L_c434 (z := z) hpr hco h.2.2.2.2.2.2.2.2.2.2 (fl (pE E (fun i => m.testBit i)) 360 0).length 0 8 (n3 + 5) S4 M5 _ (by omega) (by rw [efl]) (by omega) hY (by rw [efl]; exact c2.2.1) (by rw [efl]; rfl)
    exact R

variable {S : hSh}
/-! record, undo, snapshots -/
def orW (r W : Nat → Nat) : Nat → Nat := fun k => r k ||| W k
def rRecord (q : hQ) : hR := (0, ((sum9 (fun k => pop (orW q.1.2 (zR q.1.1).2.2.2.1 k)) 9 : Nat) : Int) - (sum9 (fun k => pop (q.1.2 k)) 9 : Nat), (q.1.1, orW q.1.2 (zR q.1.1).2.2.2.1), keepsV q.2.1 q.1, q.2.2)
theorem C_record {z : Nat} {M : hM} {q : hQ} (h : CI M q) (ho : okQ q) : OD S z M (m_X6_record (hp S z M) z) (rRecord q) := by
  have hc := ho.1.1
  obtain ⟨M1, r1, r2, r3, r4⟩ := X4_play (S := S) (z := z) (b := 1) (Or.inl rfl) h.1.1 hc
  have F1 : FD M M1 := FD.of15 r3 r4
  have h1 : CI M1 q := F1.ci h ho
  obtain ⟨M2, s1, s2, s3, s4⟩ := X6_keep (S := S) (z := z) h1 ho
  have hW : RS M2 28 (zR q.1.1).2.2.2.1 := fun k hk => by rw [(s3.1 29 (by omega)).2]; exact r2.2.2.2 k hk
  obtain ⟨M3, t1, t2, t3, t4⟩ := X5_aa (S := S) (z := z) (s := 6) (a := 28) rfl rfl (by omega) s4.2 hW
  obtain ⟨w1, w2⟩ := CI_chg (u' := (q.1.1, orW q.1.2 (zR q.1.1).2.2.2.1)) h1 s2 (keepsV_len ho.2.2.1) s3 (FE.of t3 t4 (by omega) (by omega)) ⟨s4.1.keep t3 (by omega), t2⟩
  refine ⟨M3, ?_, w1, F1.km.trans w2⟩
  unfold m_X6_record
  simp (disch := omega) only [↓hg0_0, ↓hg0_1, ↓hg0_2, ↓hg0_3, ↓hg0_4, ↓hg0_5, hw0_5, ↓hg0_6, ↓hg0_7, ↓hv0, ↓hx0, ha132, hu132, ↓hl132, ↓hg15_0, ↓hg15_1, ↓hg15_2, ↓hg15_3, hw15_3, ↓hg15_4, hw15_4, ↓hg15_5, hw15_5, ↓hg15_6, hw15_6, ↓hg15_7, hw15_7, ↓hg15_8, hw15_8, ↓hg15_9, hw15_9, ↓hg15_10, hw15_10, ↓hg15_11, hw15_11, ↓hg15_12, hw15_12, ↓hg15_13, hw15_13, ↓hg15_14, hw15_14, ↓hv15, ↓hx15, ha29, hu29, ↓hl29]
  rw [r1]
  simp (disch := omega) only [↓mo_ns_r, ↓hn0, ↓mo_cs_s, ↓mo_xs_r, ↓mo_xs_l, ↓mo_nl_s, mo_z_0, mo_z_1, ↓hg0_0, ↓hg0_1, ↓hg0_2, ↓hg0_3, ↓hg0_4, ↓hg0_5, hw0_5, ↓hg0_6, ↓hg0_7, ↓hv0, ↓hx0, ha132, hu132, ↓hl132]
  rw [s1]
  unfold m_X4_states
  simp (disch := omega) only [↓mo_ns_r, ↓hn0, ↓mo_cs_s, ↓mo_xs_r, ↓mo_xs_l, ↓mo_nl_s, mo_z_0, mo_z_1, ↓hg0_0, ↓hg0_1, ↓hg0_2, ↓hg0_3, ↓hg0_4, ↓hg0_5, hw0_5, ↓hg0_6, ↓hg0_7, ↓hv0, ↓hx0, ha132, hu132, ↓hl132, ↓Bv (b := 1) rfl]
  rw [X0_rec (b := 1) rfl]
  simp (disch := omega) only [↓mo_ns_r, ↓hn0, ↓mo_cs_s, ↓mo_xs_r, ↓mo_xs_l, ↓mo_nl_s, mo_z_0, mo_z_1, ↓hg0_0, ↓hg0_1, ↓hg0_2, ↓hg0_3, ↓hg0_4, ↓hg0_5, hw0_5, ↓hg0_6, ↓hg0_7, ↓hv0, ↓hx0, ha132, hu132, ↓hl132, ↓hg15_0, ↓hg15_1, ↓hg15_2, ↓hg15_3, hw15_3, ↓hg15_4, hw15_4, ↓hg15_5, hw15_5, ↓hg15_6, hw15_6, ↓hg15_7, hw15_7, ↓hg15_8, hw15_8, ↓hg15_9, hw15_9, ↓hg15_10, hw15_10, ↓hg15_11, hw15_11, ↓hg15_12, hw15_12, ↓hg15_13, hw15_13, ↓hg15_14, hw15_14, ↓hv15, ↓hx15, ha29, hu29, ↓hl29, ↓Sv6]
  show mo_cs (m_X5_addAll (hp S z M2) (z + 6) (z + 28)) _ = _
  rw [t1]
  rfl
def bitV (V : Nat → Nat) (k : Nat) : Int := if (V (k / 16)).testBit (k % 16) = true then 1 else 0
theorem St_of {F : Nat → Int} {W : Nat → Nat} (h : ∀ k, k < 144 → F k = bitV W k) : St F W := fun s t hs ht => by
  rw [h (16 * s + t) (by omega)]
  unfold bitV
  rw [show (16 * s + t) / 16 = s by omega, show (16 * s + t) % 16 = t by omega]
theorem bitV_or {r W : Nat → Nat} {k : Nat} : bitV (orW r W) k = if bitV W k = 1 then 1 else bitV r k := by
  unfold bitV orW
  rw [Nat.testBit_or]
  cases (r (k / 16)).testBit (k % 16) <;> cases (W (k / 16)).testBit (k % 16) <;> simp
theorem okU_rec {q : hQ} (ho : okQ q) : okU (q.1.1, orW q.1.2 (zR q.1.1).2.2.2.1) := by
  refine ⟨ho.1.1, fun k hk => ?_⟩
  have h := (zJ_R ho.1.1).1.1
  have hw : (zR q.1.1).2.2.2.1 k < 65536 := by
    generalize (zR q.1.1).2 = s at h ⊢
    obtain ⟨T, O, W, B, N, J, K, C⟩ := s
    exact h.2.2.2.2.2.2.2.2 k
  exact Nat.or_lt_two_pow (n := 16) (ho.1.2 k hk) hw
/-! undo -/
def rUndo (q : hQ) : hR := match q.2.1.getLast? with
  | none => (0, -1, q)
  | some u => (0, (q.2.1.length : Int) - 1, u, q.2.1.dropLast, q.2.2)

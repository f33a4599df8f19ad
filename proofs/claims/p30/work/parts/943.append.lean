variable {S : hSh}
/-! append -/
theorem jI_m8 : (-8 : Int32) = jI (-8) := id rfl
def beB (a : Int32) (s : Nat) : Int := (a.toInt / (2 ^ s : Nat)) % 256
theorem beB_in {a : Int32} {s : Nat} : 0 ≤ beB a s ∧ beB a s ≤ 255 := by
  have h1 := Int.emod_nonneg (a.toInt / (2 ^ s : Nat)) (show (256 : Int) ≠ 0 by decide)
  have h2 := Int.emod_lt_of_pos (a.toInt / (2 ^ s : Nat)) (show (0 : Int) < 256 by decide)
  unfold beB; omega
theorem u_and255 (x : UInt32) : (x.toInt32 &&& jI 255) = jI ((x.toNat % 256 : Nat) : Int) := by
  rw [jI_nat, show jI 255 = Int32.ofNat 255 from rfl]
  apply Int32.toBitVec_inj.mp
  apply BitVec.eq_of_toNat_eq
  show (x.toBitVec &&& BitVec.ofNat 32 255).toNat = (BitVec.ofNat 32 (x.toNat % 256)).toNat
  rw [BitVec.toNat_and, BitVec.toNat_ofNat, BitVec.toNat_ofNat, show 255 % 2 ^ 32 = 2 ^ 8 - 1 from rfl, Nat.and_two_pow_sub_one_eq_mod, Nat.mod_eq_of_lt (a := x.toNat % 256) (by omega)]
  rfl
theorem u_int (a : Int32) : (a.toUInt32.toNat : Int) = a.toInt % 4294967296 := by
  have h1 : a.toInt = (a.toBitVec.toNat : Int).bmod (2 ^ 32) := BitVec.toInt_eq_toNat_bmod a.toBitVec
  have h2 : a.toBitVec.toNat < 2 ^ 32 := a.toBitVec.isLt
  have h3 : a.toUInt32.toNat = a.toBitVec.toNat := rfl
  rw [h3, h1]
  simp only [Int.bmod]
  omega
theorem X3_by {a : Int32} {s : Nat} (hs : s = 24 ∨ s = 16 ∨ s = 8 ∨ s = 0) : ((a.toUInt32 >>> ((jI s).toUInt32 &&& Int32.toUInt32 (jI 31))).toInt32 &&& jI 255) = jI (beB a s) := by
  rw [u_and255]
  congr 1
  have hN := u_int a
  unfold beB
  rcases hs with rfl | rfl | rfl | rfl
  · rw [show ((jI ((24 : Nat) : Int)).toUInt32 &&& Int32.toUInt32 (jI 31)) = (24 : UInt32) by decide, UInt32.toNat_shiftRight]
    rw [show (24 : UInt32).toNat % 32 = 24 from rfl, Nat.shiftRight_eq_div_pow]
    omega
  · rw [show ((jI ((16 : Nat) : Int)).toUInt32 &&& Int32.toUInt32 (jI 31)) = (16 : UInt32) by decide, UInt32.toNat_shiftRight]
    rw [show (16 : UInt32).toNat % 32 = 16 from rfl, Nat.shiftRight_eq_div_pow]
    omega
  · rw [show ((jI ((8 : Nat) : Int)).toUInt32 &&& Int32.toUInt32 (jI 31)) = (8 : UInt32) by decide, UInt32.toNat_shiftRight]
    rw [show (8 : UInt32).toNat % 32 = 8 from rfl, Nat.shiftRight_eq_div_pow]
    omega
  · rw [show ((jI ((0 : Nat) : Int)).toUInt32 &&& Int32.toUInt32 (jI 31)) = (0 : UInt32) by decide, UInt32.toNat_shiftRight]
    rw [show (0 : UInt32).toNat % 32 = 0 from rfl, Nat.shiftRight_eq_div_pow]
    omega
theorem sby_bmod {x : Int} : (x.bmod (2 ^ 8)).bmod (2 ^ 8) = sby (x % 256) := by
  rw [Int.bmod_bmod]
  simp only [Int.bmod, sby]
  split <;> split <;> omega
theorem sby_w {v : Int} (h : 0 ≤ v ∧ v ≤ 255) : -128 ≤ sby v ∧ sby v ≤ 127 := by unfold sby; split <;> omega
theorem sar_int {a : Int32} {s : Nat} (hs : s < 32) : (a >>> (jI s &&& jI 31)).toInt = a.toInt / (2 ^ s : Nat) := by
  have hk : (jI (s : Int) &&& jI 31) = Int32.ofNat s := by
    have := jI_m31 ⟨s, hs⟩
    rw [jI_nat]; exact this
  rw [hk]
  have h9 : (BitVec.ofNat 32 s).smod 32#32 = BitVec.ofNat 32 s := by
    have := jI_sm ⟨s, hs⟩
    simp only at this
    apply BitVec.eq_of_toNat_eq
    rw [this, BitVec.toNat_ofNat, Nat.mod_eq_of_lt (by omega)]
  show (a.toBitVec.sshiftRight ((BitVec.ofNat 32 s).smod 32#32).toNat).toInt = a.toBitVec.toInt / (2 ^ s : Nat)
  rw [h9, BitVec.toInt_sshiftRight, BitVec.toNat_ofNat, Nat.mod_eq_of_lt (by omega), Int.shiftRight_eq_div_pow]
def bL (a : Int32) : List Int := [beB a 24, beB a 16, beB a 8, beB a 0]
theorem RC.put {M : hM} {T : List Int} {e v : Int} (h : RC M (T, e)) : RC (sI (sA M 38 T.length v) 37 1 ((T.length : Int) + 1)) (T ++ [v], e) := by
  refine ⟨?_, fun i x hx => ?_, ?_⟩
  · rw [gI_sI, if_pos ⟨rfl, rfl⟩]; simp
  · rw [gA_sI, gA_sA]
    by_cases hi : i = T.length
    · subst hi
      simp at hx; subst hx
      rw [if_pos ⟨rfl, rfl⟩]
    · have hlt : i < (T ++ [v]).length := (List.getElem?_eq_some_iff.mp hx).1
      have hlt' : i < T.length := by simp at hlt; omega
      rw [if_neg (by omega)]
      rw [List.getElem?_append_left hlt'] at hx
      exact h.2.1 i x hx
  · rw [gI_sI, if_neg (by omega), gI_sA]; exact h.2.2
/-- what holding bytes leaves as it was -/
def FB (M M' : hM) : Prop := (∀ a k, a ≠ 37 ∨ k ≠ 1 → gI M' a k = gI M a k) ∧ (∀ a k, a ≠ 38 → gA M' a k = gA M a k) ∧ Vr M M'
theorem FB.rfl' {M : hM} : FB M M := ⟨fun _ _ _ => rfl, fun _ _ _ => rfl, fun _ => rfl⟩
theorem FB.trans {M M' M'' : hM} (h : FB M M') (h' : FB M' M'') : FB M M'' := ⟨fun a k e => (h'.1 a k e).trans (h.1 a k e), fun a k e => (h'.2.1 a k e).trans (h.2.1 a k e), h.2.2.trans h'.2.2⟩
def FBm (M M' : hM) : Prop := (∀ a k, a ≠ 133 ∨ k ≠ 3 → gI M' a k = gI M a k) ∧ (∀ a k, a ≠ 135 → gA M' a k = gA M a k) ∧ Vr M M'
theorem FBm.rfl' {M : hM} : FBm M M := ⟨fun _ _ _ => rfl, fun _ _ _ => rfl, fun _ => rfl⟩
theorem FBm.trans {M M' M'' : hM} (h : FBm M M') (h' : FBm M' M'') : FBm M M'' := ⟨fun a k e => (h'.1 a k e).trans (h.1 a k e), fun a k e => (h'.2.1 a k e).trans (h.2.1 a k e), h.2.2.trans h'.2.2⟩
theorem X3_h1 {z s f : Nat} {M : hM} {T : List Int} {e : Int} {a : Int32} (hs : s = 24 ∨ s = 16 ∨ s = 8 ∨ s = 0) (h : RC M (T, e)) (hl : T.length < 500) :
    ∃ M', m_X3_hold_l3 (z + 37) a (f + 1) (hp S z M) (jI s) = m_X3_hold_l3 (z + 37) a f (hp S z M') (jI ((s : Int) + -8)) ∧ RC M' (T ++ [beB a s], e) ∧ FB M M' := by
  refine ⟨sI (sA M 38 T.length (beB a s)) 37 1 ((T.length : Int) + 1), ?_, h.put, fun b k hb => by rw [gI_sI, if_neg (by omega), gI_sA], fun b k hb => by rw [gA_sI, gA_sA, if_neg (by omega)], fun k => by rw [gV_sI, gV_sA]⟩
  have e1 : gI M 37 1 = (T.length : Int) := h.1
  have n0 : ¬ (s : Int) < 0 := by omega
  have n1 : ¬ (T.length : Int) < 0 := by omega
  have n2 : (T.length : Int) < 500 := by omega
  conv => lhs; unfold m_X3_hold_l3
  simp (disch := omega) only [↓jI_m8, ji1, ji2, ji3, ji4, ji5, ji6, ji7, ji8, ji9, ji10, ji11, ji12, ji13, ji14, ji15, ji16, ji19, ji20, ji24, ji31, ji32, ji39, ji45, ji48, ji57, ji58, ji59, ji60, ji97, ji100, ji119, ji120, ji122, ji144, ji200, ji226, ji240, ji255, ji300, ji366, ji400, ji500, ji1000, jI_z, ↓jI_m1, jI_add, jI_sub, jI_mul, jI_lt, n0, n1, n2, if_true, if_false, ↓hg37_0, ↓hg37_1, hw37_1, ↓hg37_2, hw37_2, ↓hg37_3, hw37_3, ↓hg37_4, hw37_4, ↓hg37_5, hw37_5, ↓hg37_6, hw37_6, ↓hg37_7, hw37_7, ↓hg37_8, hw37_8, ↓hg37_9, ↓hv37, ↓hx37, ha38, hu38, ↓hl38, e1, X3_by hs, Int.toNat_natCast, gI_sA]
theorem X3_h0 {z f : Nat} {M : hM} {a : Int32} : m_X3_hold_l3 (z + 37) a (f + 1) (hp S z M) (jI (((0 : Nat) : Int) + -8)) = some ((), hp S z M) := by
  unfold m_X3_hold_l3
  rw [if_pos (by decide)]
theorem X3_hold {z : Nat} {M : hM} {T : List Int} {e : Int} {a : Int32} (h : RC M (T, e)) (hl : T.length + 4 ≤ 500) :
    ∃ M', m_X3_hold (hp S z M) (z + 37) a = some ((), hp S z M') ∧ RC M' (T ++ bL a, e) ∧ FB M M' := by
  obtain ⟨M1, a1, a2, a3⟩ := X3_h1 (S := S) (z := z) (s := 24) (f := 99999) (a := a) (by omega) h (by omega)
  obtain ⟨M2, b1, b2, b3⟩ := X3_h1 (S := S) (z := z) (s := 16) (f := 99998) (a := a) (by omega) a2 (by simp; omega)
  obtain ⟨M3, c1, c2, c3⟩ := X3_h1 (S := S) (z := z) (s := 8) (f := 99997) (a := a) (by omega) b2 (by simp; omega)
  obtain ⟨M4, d1, d2, d3⟩ := X3_h1 (S := S) (z := z) (s := 0) (f := 99996) (a := a) (by omega) c2 (by simp; omega)
  refine ⟨M4, ?_, by simpa [bL] using d2, ((a3.trans b3).trans c3).trans d3⟩
  unfold m_X3_hold
  rw [show hN_f = 99999 + 1 from rfl, show (24 : Int32) = jI ((24 : Nat) : Int) from rfl, a1]
  rw [show ((24 : Nat) : Int) + -8 = ((16 : Nat) : Int) from rfl, show 99999 = 99998 + 1 from rfl, b1]
  rw [show ((16 : Nat) : Int) + -8 = ((8 : Nat) : Int) from rfl, show 99998 = 99997 + 1 from rfl, c1]
  rw [show ((8 : Nat) : Int) + -8 = ((0 : Nat) : Int) from rfl, show 99997 = 99996 + 1 from rfl, d1]
  rw [show 99996 = 99995 + 1 from rfl]
  exact X3_h0
/-- promise 2 -/
def rAppend (q : hQ) (a b c d e : Int32) : hR := if 500 < (q.2.2.2.1.length : Int) + 20 then (0, -1, q) else (0, (q.2.2.2.1.length : Int) + 20, q.1, q.2.1, q.2.2.1, q.2.2.2.1 ++ bL a ++ bL b ++ bL c ++ bL d ++ bL e, q.2.2.2.2)
theorem bL_len {a : Int32} : (bL a).length = 4 := rfl
theorem C_append {z : Nat} {M : hM} {q : hQ} {a b c d e : Int32} (h : CI M q) (ho : okQ q) : OD S z M (m_X6_append (hp S z M) z a b c d e) (rAppend q a b c d e) := by
  have e1 := h.2.2.2.1
  have hT := ho.2.2.2.2.1
  unfold rAppend
  by_cases g : 500 < (q.2.2.2.1.length : Int) + 20
  · rw [if_pos g]
    refine od_q FD.rfl' h ho ?_
    unfold m_X6_append m_X3_heldBytes
    simp (disch := omega) only [ji1, ji2, ji3, ji4, ji5, ji6, ji7, ji8, ji9, ji10, ji11, ji12, ji13, ji14, ji15, ji16, ji19, ji20, ji24, ji31, ji32, ji39, ji45, ji48, ji57, ji58, ji59, ji60, ji97, ji100, ji119, ji120, ji122, ji144, ji200, ji226, ji240, ji255, ji300, ji366, ji400, ji500, ji1000, jI_z, ↓jI_m1, jI_add, jI_sub, jI_mul, ↓hg0_0, ↓hg0_1, ↓hg0_2, ↓hg0_3, ↓hg0_4, ↓hg0_5, hw0_5, ↓hg0_6, ↓hg0_7, ↓hv0, ↓hx0, ha132, hu132, ↓hl132, ↓hg37_0, ↓hg37_1, hw37_1, ↓hg37_2, hw37_2, ↓hg37_3, hw37_3, ↓hg37_4, hw37_4, ↓hg37_5, hw37_5, ↓hg37_6, hw37_6, ↓hg37_7, hw37_7, ↓hg37_8, hw37_8, ↓hg37_9, ↓hv37, ↓hx37, ha38, hu38, ↓hl38, ↓mo_ns_r, ↓hn0, ↓mo_cs_s, ↓mo_xs_r, ↓mo_xs_l, ↓mo_nl_s, mo_z_0, mo_z_1, e1, jI_lt, g, if_true]
  · rw [if_neg g]
    obtain ⟨M1, a1, a2, a3⟩ := X3_hold (S := S) (z := z) (a := a) (T := q.2.2.2.1) (e := q.2.2.2.2) h.2.2.2 (by omega)
    obtain ⟨M2, b1, b2, b3⟩ := X3_hold (S := S) (z := z) (a := b) a2 (by simp only [List.length_append, bL_len]; omega)
    obtain ⟨M3, c1, c2, c3⟩ := X3_hold (S := S) (z := z) (a := c) b2 (by simp only [List.length_append, bL_len]; omega)
    obtain ⟨M4, d1, d2, d3⟩ := X3_hold (S := S) (z := z) (a := d) c2 (by simp only [List.length_append, bL_len]; omega)
    obtain ⟨M5, f1, f2, f3⟩ := X3_hold (S := S) (z := z) (a := e) d2 (by simp only [List.length_append, bL_len]; omega)
    have F := (((a3.trans b3).trans c3).trans d3).trans f3
    have same : ∀ x, x ≠ 37 → x ≠ 38 → (∀ k, gI M5 x k = gI M x k) ∧ ∀ k, gA M5 x k = gA M x k := fun x h1 h2 => ⟨fun k => F.1 x k (Or.inl h1), fun k => F.2.1 x k h2⟩
    refine ⟨M5, ?_, ⟨h.1.cg (fun x _ _ => same x (by omega) (by omega)), h.2.1.cg ho.2.2.1 (F.1 0 5 (by omega)) (fun x _ _ => same x (by omega) (by omega)) (fun k _ _ => F.2.2 k), h.2.2.1.cg (fun x _ _ => same x (by omega) (by omega)), f2⟩, fun x hx => same x (by omega) (by omega)⟩
    have e5 : gI M5 37 1 = (q.2.2.2.1.length : Int) + 20 := by
      rw [f2.1]; simp only [List.length_append, bL_len]; omega
    unfold m_X6_append m_X3_heldBytes
    simp (disch := omega) only [ji1, ji2, ji3, ji4, ji5, ji6, ji7, ji8, ji9, ji10, ji11, ji12, ji13, ji14, ji15, ji16, ji19, ji20, ji24, ji31, ji32, ji39, ji45, ji48, ji57, ji58, ji59, ji60, ji97, ji100, ji119, ji120, ji122, ji144, ji200, ji226, ji240, ji255, ji300, ji366, ji400, ji500, ji1000, jI_z, ↓jI_m1, jI_add, jI_sub, jI_mul, ↓hg0_0, ↓hg0_1, ↓hg0_2, ↓hg0_3, ↓hg0_4, ↓hg0_5, hw0_5, ↓hg0_6, ↓hg0_7, ↓hv0, ↓hx0, ha132, hu132, ↓hl132, ↓hg37_0, ↓hg37_1, hw37_1, ↓hg37_2, hw37_2, ↓hg37_3, hw37_3, ↓hg37_4, hw37_4, ↓hg37_5, hw37_5, ↓hg37_6, hw37_6, ↓hg37_7, hw37_7, ↓hg37_8, hw37_8, ↓hg37_9, ↓hv37, ↓hx37, ha38, hu38, ↓hl38, ↓mo_ns_r, ↓hn0, ↓mo_cs_s, ↓mo_xs_r, ↓mo_xs_l, ↓mo_nl_s, mo_z_0, mo_z_1, e1, jI_lt, g, if_false]
    rw [a1]
    simp (disch := omega) only [↓hg0_0, ↓hg0_1, ↓hg0_2, ↓hg0_3, ↓hg0_4, ↓hg0_5, hw0_5, ↓hg0_6, ↓hg0_7, ↓hv0, ↓hx0, ha132, hu132, ↓hl132, ↓hg37_0, ↓hg37_1, hw37_1, ↓hg37_2, hw37_2, ↓hg37_3, hw37_3, ↓hg37_4, hw37_4, ↓hg37_5, hw37_5, ↓hg37_6, hw37_6, ↓hg37_7, hw37_7, ↓hg37_8, hw37_8, ↓hg37_9, ↓hv37, ↓hx37, ha38, hu38, ↓hl38, ↓mo_ns_r, ↓hn0, ↓mo_cs_s, ↓mo_xs_r, ↓mo_xs_l, ↓mo_nl_s, mo_z_0, mo_z_1]
    rw [b1]
    simp (disch := omega) only [↓hg0_0, ↓hg0_1, ↓hg0_2, ↓hg0_3, ↓hg0_4, ↓hg0_5, hw0_5, ↓hg0_6, ↓hg0_7, ↓hv0, ↓hx0, ha132, hu132, ↓hl132, ↓hg37_0, ↓hg37_1, hw37_1, ↓hg37_2, hw37_2, ↓hg37_3, hw37_3, ↓hg37_4, hw37_4, ↓hg37_5, hw37_5, ↓hg37_6, hw37_6, ↓hg37_7, hw37_7, ↓hg37_8, hw37_8, ↓hg37_9, ↓hv37, ↓hx37, ha38, hu38, ↓hl38, ↓mo_ns_r, ↓hn0, ↓mo_cs_s, ↓mo_xs_r, ↓mo_xs_l, ↓mo_nl_s, mo_z_0, mo_z_1]
    rw [c1]
    simp (disch := omega) only [↓hg0_0, ↓hg0_1, ↓hg0_2, ↓hg0_3, ↓hg0_4, ↓hg0_5, hw0_5, ↓hg0_6, ↓hg0_7, ↓hv0, ↓hx0, ha132, hu132, ↓hl132, ↓hg37_0, ↓hg37_1, hw37_1, ↓hg37_2, hw37_2, ↓hg37_3, hw37_3, ↓hg37_4, hw37_4, ↓hg37_5, hw37_5, ↓hg37_6, hw37_6, ↓hg37_7, hw37_7, ↓hg37_8, hw37_8, ↓hg37_9, ↓hv37, ↓hx37, ha38, hu38, ↓hl38, ↓mo_ns_r, ↓hn0, ↓mo_cs_s, ↓mo_xs_r, ↓mo_xs_l, ↓mo_nl_s, mo_z_0, mo_z_1]
    rw [d1]
    simp (disch := omega) only [↓hg0_0, ↓hg0_1, ↓hg0_2, ↓hg0_3, ↓hg0_4, ↓hg0_5, hw0_5, ↓hg0_6, ↓hg0_7, ↓hv0, ↓hx0, ha132, hu132, ↓hl132, ↓hg37_0, ↓hg37_1, hw37_1, ↓hg37_2, hw37_2, ↓hg37_3, hw37_3, ↓hg37_4, hw37_4, ↓hg37_5, hw37_5, ↓hg37_6, hw37_6, ↓hg37_7, hw37_7, ↓hg37_8, hw37_8, ↓hg37_9, ↓hv37, ↓hx37, ha38, hu38, ↓hl38, ↓mo_ns_r, ↓hn0, ↓mo_cs_s, ↓mo_xs_r, ↓mo_xs_l, ↓mo_nl_s, mo_z_0, mo_z_1]
    rw [f1]
    simp (disch := omega) only [↓hg0_0, ↓hg0_1, ↓hg0_2, ↓hg0_3, ↓hg0_4, ↓hg0_5, hw0_5, ↓hg0_6, ↓hg0_7, ↓hv0, ↓hx0, ha132, hu132, ↓hl132, ↓hg37_0, ↓hg37_1, hw37_1, ↓hg37_2, hw37_2, ↓hg37_3, hw37_3, ↓hg37_4, hw37_4, ↓hg37_5, hw37_5, ↓hg37_6, hw37_6, ↓hg37_7, hw37_7, ↓hg37_8, hw37_8, ↓hg37_9, ↓hv37, ↓hx37, ha38, hu38, ↓hl38, ↓mo_ns_r, ↓hn0, ↓mo_cs_s, ↓mo_xs_r, ↓mo_xs_l, ↓mo_nl_s, mo_z_0, mo_z_1, e5]
theorem okQ_append {q : hQ} {a b c d e : Int32} (ho : okQ q) : okQ (rAppend q a b c d e).2.2 := by
  unfold rAppend
  split
  · exact ho
  · next g =>
    refine ⟨ho.1, ho.2.1, ho.2.2.1, ho.2.2.2.1, ?_, ?_, ho.2.2.2.2.2.2⟩
    · simp only [List.length_append, bL_len]; omega
    · have hb : ∀ (x : Int32) (v : Int), v ∈ bL x → 0 ≤ v ∧ v ≤ 255 := by
        intro x v hv
        simp only [bL, List.mem_cons, List.not_mem_nil, or_false] at hv
        rcases hv with h | h | h | h <;> rw [h] <;> exact beB_in
      intro v hv
      simp only [List.mem_append] at hv
      rcases hv with ((((hv | hv) | hv) | hv) | hv) | hv
      · exact ho.2.2.2.2.2.1 v hv
      all_goals exact hb _ v hv


variable {S : hSh}
/-! PLANS, RUNS of the law at any place. -/
/-- a Plan at p: of, late, drop, twice -/
def isP (S : hSh) (p : Nat) : Prop := lO S p 7 4 ∧ (∀ k, k < 4 → (S p).2.2 k = p + 1 + k + 3) ∧ lA S (p + 1) 0 8 ∧ lA S (p + 2) 0 120 ∧ lA S (p + 3) 2 120 ∧ lA S (p + 4) 2 120
/-- a Run at r: at, kind, what, first, second, out, due, seen -/
def isR (S : hSh) (r : Nat) : Prop := lO S r 8 18 ∧ (S r).2.2 0 = 1 ∧ (∀ k, 0 < k → k < 9 → (S r).2.2 k = r + k + 3) ∧ (∀ k, 9 ≤ k → (S r).2.2 k = 0) ∧ lA S (r + 1) 0 120 ∧ lA S (r + 2) 0 120 ∧ lA S (r + 3) 0 120 ∧ lA S (r + 4) 0 120 ∧ lA S (r + 5) 0 120 ∧ lA S (r + 6) 0 240 ∧ lA S (r + 7) 2 400 ∧ lA S (r + 8) 2 144
theorem Pg0 {α : Type} {z p : Nat} {M : hM} {F : Nat → Option α} (h : isP S p) : mo_gr (hp S z M) (z + p) 7 0 F = F (z + (p + 1)) := hl_gr h.1 (by decide) (by rw [h.2.1 0 (by decide)])
theorem Pg1 {α : Type} {z p : Nat} {M : hM} {F : Nat → Option α} (h : isP S p) : mo_gr (hp S z M) (z + p) 7 1 F = F (z + (p + 2)) := hl_gr h.1 (by decide) (by rw [h.2.1 1 (by decide)])
theorem Pg2 {α : Type} {z p : Nat} {M : hM} {F : Nat → Option α} (h : isP S p) : mo_gr (hp S z M) (z + p) 7 2 F = F (z + (p + 3)) := hl_gr h.1 (by decide) (by rw [h.2.1 2 (by decide)])
theorem Pg3 {α : Type} {z p : Nat} {M : hM} {F : Nat → Option α} (h : isP S p) : mo_gr (hp S z M) (z + p) 7 3 F = F (z + (p + 4)) := hl_gr h.1 (by decide) (by rw [h.2.1 3 (by decide)])
theorem Pv {α ρ : Type} {z p : Nat} {M : hM} {m : Option (ρ × ac_H)} {F : ρ → ac_H → Option α} (h : isP S p) : mo_cv (hp S z M) (z + p) 7 m F = mo_cs m F := hl_cv h.1
theorem Pa1 {α : Type} {z p : Nat} {M : hM} {i : Int} {F : Int32 → Option α} (h : isP S p) (h0 : 0 ≤ i) (h1 : i < 8) : mo_ai (hp S z M) (z + (p + 1)) 0 (jI i) F = F (jI (gA M (p + 1) i.toNat)) := hl_ai h.2.2.1 (by decide) h0 h1
theorem Pu1 {α : Type} {z p : Nat} {M : hM} {i v : Int} {F : ac_H → Option α} (h : isP S p) (h0 : 0 ≤ i) (h1 : i < 8) : mo_ui (hp S z M) (z + (p + 1)) 0 (jI i) (jI v) F = F (hp S z (sA M (p + 1) i.toNat v)) := hl_ui h.2.2.1 (by decide) h0 h1
theorem Pa2 {α : Type} {z p : Nat} {M : hM} {i : Int} {F : Int32 → Option α} (h : isP S p) (h0 : 0 ≤ i) (h1 : i < 120) : mo_ai (hp S z M) (z + (p + 2)) 0 (jI i) F = F (jI (gA M (p + 2) i.toNat)) := hl_ai h.2.2.2.1 (by decide) h0 h1
theorem Pu2 {α : Type} {z p : Nat} {M : hM} {i v : Int} {F : ac_H → Option α} (h : isP S p) (h0 : 0 ≤ i) (h1 : i < 120) : mo_ui (hp S z M) (z + (p + 2)) 0 (jI i) (jI v) F = F (hp S z (sA M (p + 2) i.toNat v)) := hl_ui h.2.2.2.1 (by decide) h0 h1
theorem Pa3 {α : Type} {z p : Nat} {M : hM} {i : Int} {F : Int32 → Option α} (h : isP S p) (h0 : 0 ≤ i) (h1 : i < 120) : mo_ai (hp S z M) (z + (p + 3)) 2 (jI i) F = F (jI (gA M (p + 3) i.toNat)) := hl_ai h.2.2.2.2.1 (by decide) h0 h1
theorem Pu3 {α : Type} {z p : Nat} {M : hM} {i v : Int} {F : ac_H → Option α} (h : isP S p) (h0 : 0 ≤ i) (h1 : i < 120) : mo_ui (hp S z M) (z + (p + 3)) 2 (jI i) (jI v) F = F (hp S z (sA M (p + 3) i.toNat v)) := hl_ui h.2.2.2.2.1 (by decide) h0 h1
theorem Pa4 {α : Type} {z p : Nat} {M : hM} {i : Int} {F : Int32 → Option α} (h : isP S p) (h0 : 0 ≤ i) (h1 : i < 120) : mo_ai (hp S z M) (z + (p + 4)) 2 (jI i) F = F (jI (gA M (p + 4) i.toNat)) := hl_ai h.2.2.2.2.2 (by decide) h0 h1
theorem Pu4 {α : Type} {z p : Nat} {M : hM} {i v : Int} {F : ac_H → Option α} (h : isP S p) (h0 : 0 ≤ i) (h1 : i < 120) : mo_ui (hp S z M) (z + (p + 4)) 2 (jI i) (jI v) F = F (hp S z (sA M (p + 4) i.toNat v)) := hl_ui h.2.2.2.2.2 (by decide) h0 h1
theorem Rg0 {α : Type} {z r : Nat} {M : hM} {F : Nat → Option α} (h : isR S r) : mo_gr (hp S z M) (z + r) 8 0 F = if gI M r 0 < 0 then none else F (z + (gI M r 0).toNat) := hl_gu h.1 (by decide) h.2.1
theorem Rw0 {α : Type} {z r v : Nat} {M : hM} {F : ac_H → Option α} (h : isR S r) : mo_pv (hp S z M) (z + r) 8 0 (.ref (z + v)) F = F (hp S z (sI M r 0 v)) := hl_pr h.1 (by decide) h.2.1
theorem Rg1 {α : Type} {z r : Nat} {M : hM} {F : Nat → Option α} (h : isR S r) : mo_gr (hp S z M) (z + r) 8 1 F = F (z + (r + 1)) := hl_gr h.1 (by decide) (by rw [h.2.2.1 1 (by decide) (by decide)])
theorem Rg2 {α : Type} {z r : Nat} {M : hM} {F : Nat → Option α} (h : isR S r) : mo_gr (hp S z M) (z + r) 8 2 F = F (z + (r + 2)) := hl_gr h.1 (by decide) (by rw [h.2.2.1 2 (by decide) (by decide)])
theorem Rg3 {α : Type} {z r : Nat} {M : hM} {F : Nat → Option α} (h : isR S r) : mo_gr (hp S z M) (z + r) 8 3 F = F (z + (r + 3)) := hl_gr h.1 (by decide) (by rw [h.2.2.1 3 (by decide) (by decide)])
theorem Rg4 {α : Type} {z r : Nat} {M : hM} {F : Nat → Option α} (h : isR S r) : mo_gr (hp S z M) (z + r) 8 4 F = F (z + (r + 4)) := hl_gr h.1 (by decide) (by rw [h.2.2.1 4 (by decide) (by decide)])
theorem Rg5 {α : Type} {z r : Nat} {M : hM} {F : Nat → Option α} (h : isR S r) : mo_gr (hp S z M) (z + r) 8 5 F = F (z + (r + 5)) := hl_gr h.1 (by decide) (by rw [h.2.2.1 5 (by decide) (by decide)])
theorem Rg6 {α : Type} {z r : Nat} {M : hM} {F : Nat → Option α} (h : isR S r) : mo_gr (hp S z M) (z + r) 8 6 F = F (z + (r + 6)) := hl_gr h.1 (by decide) (by rw [h.2.2.1 6 (by decide) (by decide)])
theorem Rg7 {α : Type} {z r : Nat} {M : hM} {F : Nat → Option α} (h : isR S r) : mo_gr (hp S z M) (z + r) 8 7 F = F (z + (r + 7)) := hl_gr h.1 (by decide) (by rw [h.2.2.1 7 (by decide) (by decide)])
theorem Rg8 {α : Type} {z r : Nat} {M : hM} {F : Nat → Option α} (h : isR S r) : mo_gr (hp S z M) (z + r) 8 8 F = F (z + (r + 8)) := hl_gr h.1 (by decide) (by rw [h.2.2.1 8 (by decide) (by decide)])
theorem Rg9 {α : Type} {z r : Nat} {M : hM} {F : Int32 → Option α} (h : isR S r) : mo_gi (hp S z M) (z + r) 8 9 F = F (jI (gI M r 9)) := hl_gi h.1 (by decide) (h.2.2.2.1 9 (by decide))
theorem Rw9 {α : Type} {z r : Nat} {M : hM} {v : Int} {F : ac_H → Option α} (h : isR S r) : mo_pv (hp S z M) (z + r) 8 9 (.int (jI v)) F = F (hp S z (sI M r 9 v)) := hl_pi h.1 (by decide) (h.2.2.2.1 9 (by decide))
theorem Rg10 {α : Type} {z r : Nat} {M : hM} {F : Int32 → Option α} (h : isR S r) : mo_gi (hp S z M) (z + r) 8 10 F = F (jI (gI M r 10)) := hl_gi h.1 (by decide) (h.2.2.2.1 10 (by decide))
theorem Rw10 {α : Type} {z r : Nat} {M : hM} {v : Int} {F : ac_H → Option α} (h : isR S r) : mo_pv (hp S z M) (z + r) 8 10 (.int (jI v)) F = F (hp S z (sI M r 10 v)) := hl_pi h.1 (by decide) (h.2.2.2.1 10 (by decide))
theorem Rg11 {α : Type} {z r : Nat} {M : hM} {F : Int32 → Option α} (h : isR S r) : mo_gi (hp S z M) (z + r) 8 11 F = F (jI (gI M r 11)) := hl_gi h.1 (by decide) (h.2.2.2.1 11 (by decide))
theorem Rw11 {α : Type} {z r : Nat} {M : hM} {v : Int} {F : ac_H → Option α} (h : isR S r) : mo_pv (hp S z M) (z + r) 8 11 (.int (jI v)) F = F (hp S z (sI M r 11 v)) := hl_pi h.1 (by decide) (h.2.2.2.1 11 (by decide))
theorem Rg12 {α : Type} {z r : Nat} {M : hM} {F : Int32 → Option α} (h : isR S r) : mo_gi (hp S z M) (z + r) 8 12 F = F (jI (gI M r 12)) := hl_gi h.1 (by decide) (h.2.2.2.1 12 (by decide))
theorem Rw12 {α : Type} {z r : Nat} {M : hM} {v : Int} {F : ac_H → Option α} (h : isR S r) : mo_pv (hp S z M) (z + r) 8 12 (.int (jI v)) F = F (hp S z (sI M r 12 v)) := hl_pi h.1 (by decide) (h.2.2.2.1 12 (by decide))
theorem Rg13 {α : Type} {z r : Nat} {M : hM} {F : Int32 → Option α} (h : isR S r) : mo_gi (hp S z M) (z + r) 8 13 F = F (jI (gI M r 13)) := hl_gi h.1 (by decide) (h.2.2.2.1 13 (by decide))
theorem Rw13 {α : Type} {z r : Nat} {M : hM} {v : Int} {F : ac_H → Option α} (h : isR S r) : mo_pv (hp S z M) (z + r) 8 13 (.int (jI v)) F = F (hp S z (sI M r 13 v)) := hl_pi h.1 (by decide) (h.2.2.2.1 13 (by decide))
theorem Rg14 {α : Type} {z r : Nat} {M : hM} {F : Int32 → Option α} (h : isR S r) : mo_gi (hp S z M) (z + r) 8 14 F = F (jI (gI M r 14)) := hl_gi h.1 (by decide) (h.2.2.2.1 14 (by decide))
theorem Rw14 {α : Type} {z r : Nat} {M : hM} {v : Int} {F : ac_H → Option α} (h : isR S r) : mo_pv (hp S z M) (z + r) 8 14 (.int (jI v)) F = F (hp S z (sI M r 14 v)) := hl_pi h.1 (by decide) (h.2.2.2.1 14 (by decide))
theorem Rg15 {α : Type} {z r : Nat} {M : hM} {F : Int32 → Option α} (h : isR S r) : mo_gi (hp S z M) (z + r) 8 15 F = F (jI (gI M r 15)) := hl_gi h.1 (by decide) (h.2.2.2.1 15 (by decide))
theorem Rw15 {α : Type} {z r : Nat} {M : hM} {v : Int} {F : ac_H → Option α} (h : isR S r) : mo_pv (hp S z M) (z + r) 8 15 (.int (jI v)) F = F (hp S z (sI M r 15 v)) := hl_pi h.1 (by decide) (h.2.2.2.1 15 (by decide))
theorem Rg16 {α : Type} {z r : Nat} {M : hM} {F : Int32 → Option α} (h : isR S r) : mo_gi (hp S z M) (z + r) 8 16 F = F (jI (gI M r 16)) := hl_gi h.1 (by decide) (h.2.2.2.1 16 (by decide))
theorem Rw16 {α : Type} {z r : Nat} {M : hM} {v : Int} {F : ac_H → Option α} (h : isR S r) : mo_pv (hp S z M) (z + r) 8 16 (.int (jI v)) F = F (hp S z (sI M r 16 v)) := hl_pi h.1 (by decide) (h.2.2.2.1 16 (by decide))
theorem Rg17 {α : Type} {z r : Nat} {M : hM} {F : Int32 → Option α} (h : isR S r) : mo_gi (hp S z M) (z + r) 8 17 F = F (jI (gI M r 17)) := hl_gi h.1 (by decide) (h.2.2.2.1 17 (by decide))
theorem Rw17 {α : Type} {z r : Nat} {M : hM} {v : Int} {F : ac_H → Option α} (h : isR S r) : mo_pv (hp S z M) (z + r) 8 17 (.int (jI v)) F = F (hp S z (sI M r 17 v)) := hl_pi h.1 (by decide) (h.2.2.2.1 17 (by decide))
theorem Rv {α ρ : Type} {z r : Nat} {M : hM} {m : Option (ρ × ac_H)} {F : ρ → ac_H → Option α} (h : isR S r) : mo_cv (hp S z M) (z + r) 8 m F = mo_cs m F := hl_cv h.1
theorem Ra1 {α : Type} {z r : Nat} {M : hM} {i : Int} {F : Int32 → Option α} (h : isR S r) (h0 : 0 ≤ i) (h1 : i < 120) : mo_ai (hp S z M) (z + (r + 1)) 0 (jI i) F = F (jI (gA M (r + 1) i.toNat)) := hl_ai h.2.2.2.2.1 (by decide) h0 h1
theorem Ru1 {α : Type} {z r : Nat} {M : hM} {i v : Int} {F : ac_H → Option α} (h : isR S r) (h0 : 0 ≤ i) (h1 : i < 120) : mo_ui (hp S z M) (z + (r + 1)) 0 (jI i) (jI v) F = F (hp S z (sA M (r + 1) i.toNat v)) := hl_ui h.2.2.2.2.1 (by decide) h0 h1
theorem Ra2 {α : Type} {z r : Nat} {M : hM} {i : Int} {F : Int32 → Option α} (h : isR S r) (h0 : 0 ≤ i) (h1 : i < 120) : mo_ai (hp S z M) (z + (r + 2)) 0 (jI i) F = F (jI (gA M (r + 2) i.toNat)) := hl_ai h.2.2.2.2.2.1 (by decide) h0 h1
theorem Ru2 {α : Type} {z r : Nat} {M : hM} {i v : Int} {F : ac_H → Option α} (h : isR S r) (h0 : 0 ≤ i) (h1 : i < 120) : mo_ui (hp S z M) (z + (r + 2)) 0 (jI i) (jI v) F = F (hp S z (sA M (r + 2) i.toNat v)) := hl_ui h.2.2.2.2.2.1 (by decide) h0 h1
theorem Ra3 {α : Type} {z r : Nat} {M : hM} {i : Int} {F : Int32 → Option α} (h : isR S r) (h0 : 0 ≤ i) (h1 : i < 120) : mo_ai (hp S z M) (z + (r + 3)) 0 (jI i) F = F (jI (gA M (r + 3) i.toNat)) := hl_ai h.2.2.2.2.2.2.1 (by decide) h0 h1
theorem Ru3 {α : Type} {z r : Nat} {M : hM} {i v : Int} {F : ac_H → Option α} (h : isR S r) (h0 : 0 ≤ i) (h1 : i < 120) : mo_ui (hp S z M) (z + (r + 3)) 0 (jI i) (jI v) F = F (hp S z (sA M (r + 3) i.toNat v)) := hl_ui h.2.2.2.2.2.2.1 (by decide) h0 h1
theorem Ra4 {α : Type} {z r : Nat} {M : hM} {i : Int} {F : Int32 → Option α} (h : isR S r) (h0 : 0 ≤ i) (h1 : i < 120) : mo_ai (hp S z M) (z + (r + 4)) 0 (jI i) F = F (jI (gA M (r + 4) i.toNat)) := hl_ai h.2.2.2.2.2.2.2.1 (by decide) h0 h1
theorem Ru4 {α : Type} {z r : Nat} {M : hM} {i v : Int} {F : ac_H → Option α} (h : isR S r) (h0 : 0 ≤ i) (h1 : i < 120) : mo_ui (hp S z M) (z + (r + 4)) 0 (jI i) (jI v) F = F (hp S z (sA M (r + 4) i.toNat v)) := hl_ui h.2.2.2.2.2.2.2.1 (by decide) h0 h1
theorem Ra5 {α : Type} {z r : Nat} {M : hM} {i : Int} {F : Int32 → Option α} (h : isR S r) (h0 : 0 ≤ i) (h1 : i < 120) : mo_ai (hp S z M) (z + (r + 5)) 0 (jI i) F = F (jI (gA M (r + 5) i.toNat)) := hl_ai h.2.2.2.2.2.2.2.2.1 (by decide) h0 h1
theorem Ru5 {α : Type} {z r : Nat} {M : hM} {i v : Int} {F : ac_H → Option α} (h : isR S r) (h0 : 0 ≤ i) (h1 : i < 120) : mo_ui (hp S z M) (z + (r + 5)) 0 (jI i) (jI v) F = F (hp S z (sA M (r + 5) i.toNat v)) := hl_ui h.2.2.2.2.2.2.2.2.1 (by decide) h0 h1
theorem Ra6 {α : Type} {z r : Nat} {M : hM} {i : Int} {F : Int32 → Option α} (h : isR S r) (h0 : 0 ≤ i) (h1 : i < 240) : mo_ai (hp S z M) (z + (r + 6)) 0 (jI i) F = F (jI (gA M (r + 6) i.toNat)) := hl_ai h.2.2.2.2.2.2.2.2.2.1 (by decide) h0 h1
theorem Ru6 {α : Type} {z r : Nat} {M : hM} {i v : Int} {F : ac_H → Option α} (h : isR S r) (h0 : 0 ≤ i) (h1 : i < 240) : mo_ui (hp S z M) (z + (r + 6)) 0 (jI i) (jI v) F = F (hp S z (sA M (r + 6) i.toNat v)) := hl_ui h.2.2.2.2.2.2.2.2.2.1 (by decide) h0 h1
theorem Ra7 {α : Type} {z r : Nat} {M : hM} {i : Int} {F : Int32 → Option α} (h : isR S r) (h0 : 0 ≤ i) (h1 : i < 400) : mo_ai (hp S z M) (z + (r + 7)) 2 (jI i) F = F (jI (gA M (r + 7) i.toNat)) := hl_ai h.2.2.2.2.2.2.2.2.2.2.1 (by decide) h0 h1
theorem Ru7 {α : Type} {z r : Nat} {M : hM} {i v : Int} {F : ac_H → Option α} (h : isR S r) (h0 : 0 ≤ i) (h1 : i < 400) : mo_ui (hp S z M) (z + (r + 7)) 2 (jI i) (jI v) F = F (hp S z (sA M (r + 7) i.toNat v)) := hl_ui h.2.2.2.2.2.2.2.2.2.2.1 (by decide) h0 h1
theorem Ra8 {α : Type} {z r : Nat} {M : hM} {i : Int} {F : Int32 → Option α} (h : isR S r) (h0 : 0 ≤ i) (h1 : i < 144) : mo_ai (hp S z M) (z + (r + 8)) 2 (jI i) F = F (jI (gA M (r + 8) i.toNat)) := hl_ai h.2.2.2.2.2.2.2.2.2.2.2 (by decide) h0 h1
theorem Ru8 {α : Type} {z r : Nat} {M : hM} {i v : Int} {F : ac_H → Option α} (h : isR S r) (h0 : 0 ≤ i) (h1 : i < 144) : mo_ui (hp S z M) (z + (r + 8)) 2 (jI i) (jI v) F = F (hp S z (sA M (r + 8) i.toNat v)) := hl_ui h.2.2.2.2.2.2.2.2.2.2.2 (by decide) h0 h1
theorem jm1000 : (-1000 : Int32) = jI (-1000) := id rfl
theorem jm100 : (-100 : Int32) = jI (-100) := id rfl
theorem jm10 : (-10 : Int32) = jI (-10) := id rfl
theorem jm9 : (-9 : Int32) = jI (-9) := id rfl
theorem ji50 : (50 : Int32) = jI 50 := id rfl
theorem ji65280 : (65280 : Int32) = jI 65280 := id rfl
theorem ji1664525 : (1664525 : Int32) = jI 1664525 := id rfl
theorem ji252645135 : (252645135 : Int32) = jI 252645135 := id rfl
theorem ji858993459 : (858993459 : Int32) = jI 858993459 := id rfl
theorem ji1013904223 : (1013904223 : Int32) = jI 1013904223 := id rfl
theorem ji1431655765 : (1431655765 : Int32) = jI 1431655765 := id rfl
theorem ji2147483639 : (2147483639 : Int32) = jI 2147483639 := id rfl
theorem ji2147483647 : (2147483647 : Int32) = jI 2147483647 := id rfl
theorem gI_eq {M : hM} {a k : Nat} {v : Int} : gI (sI M a k v) a k = v := by rw [gI_sI, if_pos ⟨rfl, rfl⟩]
theorem gI_ne {M : hM} {a k b j : Nat} {v : Int} (h : b ≠ a ∨ j ≠ k) : gI (sI M a k v) b j = gI M b j := by rw [gI_sI, if_neg (by omega)]
theorem gA_eq {M : hM} {a k : Nat} {v : Int} : gA (sA M a k v) a k = v := by rw [gA_sA, if_pos ⟨rfl, rfl⟩]
theorem gA_ne {M : hM} {a k b j : Nat} {v : Int} (h : b ≠ a ∨ j ≠ k) : gA (sA M a k v) b j = gA M b j := by rw [gA_sA, if_neg (by omega)]
theorem nneg {p : Nat} : ((p : Int) < 0) = False := eq_false (by omega)

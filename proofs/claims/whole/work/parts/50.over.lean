/-! OVERLAYS: the rest of the heap with an object of ours and its arrays laid over it. Equations for the mirror operations on it. -/
def uA (A : Nat → Nat → Int32) (j k : Nat) (x : Int32) : Nat → Nat → Int32 := fun i => if i = j then upd (A j) k x else A i
theorem uA_eq {A : Nat → Nat → Int32} {j k : Nat} {x : Int32} : uA A j k x j = upd (A j) k x := by simp [uA]
theorem uA_ne {A : Nat → Nat → Int32} {j k i : Nat} {x : Int32} (h : i ≠ j) : uA A j k x i = A i := by simp [uA, h]
/-- a static call or one by a receiver that is there -/
theorem mo_cs_some {α ρ : Type} {x : ρ} {σ : ac_H} {F : ρ → ac_H → Option α} : mo_cs (some (x, σ)) F = F x σ := rfl
theorem mo_xs_inr {ρ' ρ : Type} {x : ρ} {σ : ac_H} {F : ρ → ac_H → Option ((String ⊕ ρ') × ac_H)} : mo_xs (some (.inr x, σ)) F = F x σ := rfl
theorem mo_xs_inl {ρ' ρ : Type} {E : String} {σ : ac_H} {F : ρ → ac_H → Option ((String ⊕ ρ') × ac_H)} : mo_xs (some (.inl E, σ)) F = some (.inl E, σ) := rfl
theorem mo_z0 {α : Type} {A : Option α} : mo_z 0 A = A := by simp [mo_z]
theorem mo_z1 {α : Type} {A : Option α} : mo_z 1 A = A := by simp [mo_z]
theorem mo_zc {α : Type} {c : Prop} [Decidable c] {A : Option α} : mo_z (if c then 1 else 0) A = A := by by_cases h : c <;> simp [h, mo_z]
def om_f (m : Nat) (I : Nat → Int32) (b : Nat) : List Value := [.int (I 0), .ref (m + 1), .ref (m + 2), .int (I 3), .int (I 4), .int (I 5), .int (I 6), .int (I 7), .int (I 8), .int (I 9), .int (I 10), .int (I 11), .int (I 12), .ref (m + 3), .ref b, .ref (m + 4), .ref (m + 5), .ref (m + 6), .ref (m + 7), .ref (m + 8), .ref (m + 9), .int (I 21), .ref (m + 10), .int (I 23), .int (I 24), .int (I 25), .int (I 26), .int (I 27), .ref (m + 11), .int (I 29), .int (I 30), .int (I 31), .int (I 32), .int (I 33), .int (I 34), .int (I 35), .int (I 36), .ref (m + 12), .ref (m + 13), .ref (m + 14)]
def om (σ : ac_H) (m : Nat) (I : Nat → Int32) (b : Nat) (A : Nat → Nat → Int32) : ac_H := fun q => if q = m then some (.inr (7, om_f m I b)) else if q = m + 1 then some (.inl (0, 183, .inl (A 1))) else if q = m + 2 then some (.inl (1, 500, .inl (A 2))) else if q = m + 3 then some (.inl (0, 183, .inl (A 3))) else if q = m + 4 then some (.inl (0, 183, .inl (A 4))) else if q = m + 5 then some (.inl (0, 120, .inl (A 5))) else if q = m + 6 then some (.inl (0, 120, .inl (A 6))) else if q = m + 7 then some (.inl (0, 120, .inl (A 7))) else if q = m + 8 then some (.inl (0, 120, .inl (A 8))) else if q = m + 9 then some (.inl (0, 120, .inl (A 9))) else if q = m + 10 then some (.inl (0, 240, .inl (A 10))) else if q = m + 11 then some (.inl (2, 144, .inl (A 11))) else if q = m + 12 then some (.inl (0, 1830, .inl (A 12))) else if q = m + 13 then some (.inl (0, 366, .inl (A 13))) else if q = m + 14 then some (.inl (2, 2, .inl (A 14))) else σ q
theorem om_o {σ : ac_H} {m : Nat} {I : Nat → Int32} {b : Nat} {A : Nat → Nat → Int32} : (om σ m I b A) m = some (.inr (7, om_f m I b)) := by simp [om]
theorem om_a1 {σ : ac_H} {m : Nat} {I : Nat → Int32} {b : Nat} {A : Nat → Nat → Int32} : (om σ m I b A) (m + 1) = some (.inl (0, 183, .inl (A 1))) := by simp [om]
theorem om_a2 {σ : ac_H} {m : Nat} {I : Nat → Int32} {b : Nat} {A : Nat → Nat → Int32} : (om σ m I b A) (m + 2) = some (.inl (1, 500, .inl (A 2))) := by simp [om]
theorem om_a3 {σ : ac_H} {m : Nat} {I : Nat → Int32} {b : Nat} {A : Nat → Nat → Int32} : (om σ m I b A) (m + 3) = some (.inl (0, 183, .inl (A 3))) := by simp [om]
theorem om_a4 {σ : ac_H} {m : Nat} {I : Nat → Int32} {b : Nat} {A : Nat → Nat → Int32} : (om σ m I b A) (m + 4) = some (.inl (0, 183, .inl (A 4))) := by simp [om]
theorem om_a5 {σ : ac_H} {m : Nat} {I : Nat → Int32} {b : Nat} {A : Nat → Nat → Int32} : (om σ m I b A) (m + 5) = some (.inl (0, 120, .inl (A 5))) := by simp [om]
theorem om_a6 {σ : ac_H} {m : Nat} {I : Nat → Int32} {b : Nat} {A : Nat → Nat → Int32} : (om σ m I b A) (m + 6) = some (.inl (0, 120, .inl (A 6))) := by simp [om]
theorem om_a7 {σ : ac_H} {m : Nat} {I : Nat → Int32} {b : Nat} {A : Nat → Nat → Int32} : (om σ m I b A) (m + 7) = some (.inl (0, 120, .inl (A 7))) := by simp [om]
theorem om_a8 {σ : ac_H} {m : Nat} {I : Nat → Int32} {b : Nat} {A : Nat → Nat → Int32} : (om σ m I b A) (m + 8) = some (.inl (0, 120, .inl (A 8))) := by simp [om]
theorem om_a9 {σ : ac_H} {m : Nat} {I : Nat → Int32} {b : Nat} {A : Nat → Nat → Int32} : (om σ m I b A) (m + 9) = some (.inl (0, 120, .inl (A 9))) := by simp [om]
theorem om_a10 {σ : ac_H} {m : Nat} {I : Nat → Int32} {b : Nat} {A : Nat → Nat → Int32} : (om σ m I b A) (m + 10) = some (.inl (0, 240, .inl (A 10))) := by simp [om]
theorem om_a11 {σ : ac_H} {m : Nat} {I : Nat → Int32} {b : Nat} {A : Nat → Nat → Int32} : (om σ m I b A) (m + 11) = some (.inl (2, 144, .inl (A 11))) := by simp [om]
theorem om_a12 {σ : ac_H} {m : Nat} {I : Nat → Int32} {b : Nat} {A : Nat → Nat → Int32} : (om σ m I b A) (m + 12) = some (.inl (0, 1830, .inl (A 12))) := by simp [om]
theorem om_a13 {σ : ac_H} {m : Nat} {I : Nat → Int32} {b : Nat} {A : Nat → Nat → Int32} : (om σ m I b A) (m + 13) = some (.inl (0, 366, .inl (A 13))) := by simp [om]
theorem om_a14 {σ : ac_H} {m : Nat} {I : Nat → Int32} {b : Nat} {A : Nat → Nat → Int32} : (om σ m I b A) (m + 14) = some (.inl (2, 2, .inl (A 14))) := by simp [om]
theorem om_r {σ : ac_H} {m : Nat} {I : Nat → Int32} {b : Nat} {A : Nat → Nat → Int32} {q : Nat} (h0 : q ≠ m) (h1 : q ≠ m + 1) (h2 : q ≠ m + 2) (h3 : q ≠ m + 3) (h4 : q ≠ m + 4) (h5 : q ≠ m + 5) (h6 : q ≠ m + 6) (h7 : q ≠ m + 7) (h8 : q ≠ m + 8) (h9 : q ≠ m + 9) (h10 : q ≠ m + 10) (h11 : q ≠ m + 11) (h12 : q ≠ m + 12) (h13 : q ≠ m + 13) (h14 : q ≠ m + 14) : (om σ m I b A) q = σ q := by simp [om, h0, h1, h2, h3, h4, h5, h6, h7, h8, h9, h10, h11, h12, h13, h14]
theorem om_g0 {α : Type} {σ : ac_H} {m : Nat} {I : Nat → Int32} {b : Nat} {A : Nat → Nat → Int32} {F : Int32 → Option α} : mo_gi (om σ m I b A) m 7 0 F = F (I 0) := by unfold mo_gi; rw [om_o]; rfl
theorem om_p0 {α : Type} {σ : ac_H} {m : Nat} {I : Nat → Int32} {b : Nat} {A : Nat → Nat → Int32} {v : Int32} {F : ac_H → Option α} : mo_pv (om σ m I b A) m 7 0 (.int v) F = F (om σ m (upd I 0 v) b A) := by
  unfold mo_pv
  rw [om_o]
  show F (ac_up _ _ _) = _
  congr 1
  funext q
  by_cases h : q = m
  · subst h; rw [om_o]; simp [ac_up]; rfl
  · simp [ac_up, om, h]
theorem om_g1 {α : Type} {σ : ac_H} {m : Nat} {I : Nat → Int32} {b : Nat} {A : Nat → Nat → Int32} {F : Nat → Option α} : mo_gr (om σ m I b A) m 7 1 F = F (m + 1) := by unfold mo_gr; rw [om_o]; rfl
theorem om_g2 {α : Type} {σ : ac_H} {m : Nat} {I : Nat → Int32} {b : Nat} {A : Nat → Nat → Int32} {F : Nat → Option α} : mo_gr (om σ m I b A) m 7 2 F = F (m + 2) := by unfold mo_gr; rw [om_o]; rfl
theorem om_g3 {α : Type} {σ : ac_H} {m : Nat} {I : Nat → Int32} {b : Nat} {A : Nat → Nat → Int32} {F : Int32 → Option α} : mo_gi (om σ m I b A) m 7 3 F = F (I 3) := by unfold mo_gi; rw [om_o]; rfl
theorem om_p3 {α : Type} {σ : ac_H} {m : Nat} {I : Nat → Int32} {b : Nat} {A : Nat → Nat → Int32} {v : Int32} {F : ac_H → Option α} : mo_pv (om σ m I b A) m 7 3 (.int v) F = F (om σ m (upd I 3 v) b A) := by
  unfold mo_pv
  rw [om_o]
  show F (ac_up _ _ _) = _
  congr 1
  funext q
  by_cases h : q = m
  · subst h; rw [om_o]; simp [ac_up]; rfl
  · simp [ac_up, om, h]
theorem om_g4 {α : Type} {σ : ac_H} {m : Nat} {I : Nat → Int32} {b : Nat} {A : Nat → Nat → Int32} {F : Int32 → Option α} : mo_gi (om σ m I b A) m 7 4 F = F (I 4) := by unfold mo_gi; rw [om_o]; rfl
theorem om_p4 {α : Type} {σ : ac_H} {m : Nat} {I : Nat → Int32} {b : Nat} {A : Nat → Nat → Int32} {v : Int32} {F : ac_H → Option α} : mo_pv (om σ m I b A) m 7 4 (.int v) F = F (om σ m (upd I 4 v) b A) := by
  unfold mo_pv
  rw [om_o]
  show F (ac_up _ _ _) = _
  congr 1
  funext q
  by_cases h : q = m
  · subst h; rw [om_o]; simp [ac_up]; rfl
  · simp [ac_up, om, h]
theorem om_g5 {α : Type} {σ : ac_H} {m : Nat} {I : Nat → Int32} {b : Nat} {A : Nat → Nat → Int32} {F : Int32 → Option α} : mo_gi (om σ m I b A) m 7 5 F = F (I 5) := by unfold mo_gi; rw [om_o]; rfl
theorem om_p5 {α : Type} {σ : ac_H} {m : Nat} {I : Nat → Int32} {b : Nat} {A : Nat → Nat → Int32} {v : Int32} {F : ac_H → Option α} : mo_pv (om σ m I b A) m 7 5 (.int v) F = F (om σ m (upd I 5 v) b A) := by
  unfold mo_pv
  rw [om_o]
  show F (ac_up _ _ _) = _
  congr 1
  funext q
  by_cases h : q = m
  · subst h; rw [om_o]; simp [ac_up]; rfl
  · simp [ac_up, om, h]
theorem om_g6 {α : Type} {σ : ac_H} {m : Nat} {I : Nat → Int32} {b : Nat} {A : Nat → Nat → Int32} {F : Int32 → Option α} : mo_gi (om σ m I b A) m 7 6 F = F (I 6) := by unfold mo_gi; rw [om_o]; rfl
theorem om_p6 {α : Type} {σ : ac_H} {m : Nat} {I : Nat → Int32} {b : Nat} {A : Nat → Nat → Int32} {v : Int32} {F : ac_H → Option α} : mo_pv (om σ m I b A) m 7 6 (.int v) F = F (om σ m (upd I 6 v) b A) := by
  unfold mo_pv
  rw [om_o]
  show F (ac_up _ _ _) = _
  congr 1
  funext q
  by_cases h : q = m
  · subst h; rw [om_o]; simp [ac_up]; rfl
  · simp [ac_up, om, h]
theorem om_g7 {α : Type} {σ : ac_H} {m : Nat} {I : Nat → Int32} {b : Nat} {A : Nat → Nat → Int32} {F : Int32 → Option α} : mo_gi (om σ m I b A) m 7 7 F = F (I 7) := by unfold mo_gi; rw [om_o]; rfl
theorem om_p7 {α : Type} {σ : ac_H} {m : Nat} {I : Nat → Int32} {b : Nat} {A : Nat → Nat → Int32} {v : Int32} {F : ac_H → Option α} : mo_pv (om σ m I b A) m 7 7 (.int v) F = F (om σ m (upd I 7 v) b A) := by
  unfold mo_pv
  rw [om_o]
  show F (ac_up _ _ _) = _
  congr 1
  funext q
  by_cases h : q = m
  · subst h; rw [om_o]; simp [ac_up]; rfl
  · simp [ac_up, om, h]
theorem om_g8 {α : Type} {σ : ac_H} {m : Nat} {I : Nat → Int32} {b : Nat} {A : Nat → Nat → Int32} {F : Int32 → Option α} : mo_gi (om σ m I b A) m 7 8 F = F (I 8) := by unfold mo_gi; rw [om_o]; rfl
theorem om_p8 {α : Type} {σ : ac_H} {m : Nat} {I : Nat → Int32} {b : Nat} {A : Nat → Nat → Int32} {v : Int32} {F : ac_H → Option α} : mo_pv (om σ m I b A) m 7 8 (.int v) F = F (om σ m (upd I 8 v) b A) := by
  unfold mo_pv
  rw [om_o]
  show F (ac_up _ _ _) = _
  congr 1
  funext q
  by_cases h : q = m
  · subst h; rw [om_o]; simp [ac_up]; rfl
  · simp [ac_up, om, h]
theorem om_g9 {α : Type} {σ : ac_H} {m : Nat} {I : Nat → Int32} {b : Nat} {A : Nat → Nat → Int32} {F : Int32 → Option α} : mo_gi (om σ m I b A) m 7 9 F = F (I 9) := by unfold mo_gi; rw [om_o]; rfl
theorem om_p9 {α : Type} {σ : ac_H} {m : Nat} {I : Nat → Int32} {b : Nat} {A : Nat → Nat → Int32} {v : Int32} {F : ac_H → Option α} : mo_pv (om σ m I b A) m 7 9 (.int v) F = F (om σ m (upd I 9 v) b A) := by
  unfold mo_pv
  rw [om_o]
  show F (ac_up _ _ _) = _
  congr 1
  funext q
  by_cases h : q = m
  · subst h; rw [om_o]; simp [ac_up]; rfl
  · simp [ac_up, om, h]
theorem om_g10 {α : Type} {σ : ac_H} {m : Nat} {I : Nat → Int32} {b : Nat} {A : Nat → Nat → Int32} {F : Int32 → Option α} : mo_gi (om σ m I b A) m 7 10 F = F (I 10) := by unfold mo_gi; rw [om_o]; rfl
theorem om_p10 {α : Type} {σ : ac_H} {m : Nat} {I : Nat → Int32} {b : Nat} {A : Nat → Nat → Int32} {v : Int32} {F : ac_H → Option α} : mo_pv (om σ m I b A) m 7 10 (.int v) F = F (om σ m (upd I 10 v) b A) := by
  unfold mo_pv
  rw [om_o]
  show F (ac_up _ _ _) = _
  congr 1
  funext q
  by_cases h : q = m
  · subst h; rw [om_o]; simp [ac_up]; rfl
  · simp [ac_up, om, h]
theorem om_g11 {α : Type} {σ : ac_H} {m : Nat} {I : Nat → Int32} {b : Nat} {A : Nat → Nat → Int32} {F : Int32 → Option α} : mo_gi (om σ m I b A) m 7 11 F = F (I 11) := by unfold mo_gi; rw [om_o]; rfl
theorem om_p11 {α : Type} {σ : ac_H} {m : Nat} {I : Nat → Int32} {b : Nat} {A : Nat → Nat → Int32} {v : Int32} {F : ac_H → Option α} : mo_pv (om σ m I b A) m 7 11 (.int v) F = F (om σ m (upd I 11 v) b A) := by
  unfold mo_pv
  rw [om_o]
  show F (ac_up _ _ _) = _
  congr 1
  funext q
  by_cases h : q = m
  · subst h; rw [om_o]; simp [ac_up]; rfl
  · simp [ac_up, om, h]
theorem om_g12 {α : Type} {σ : ac_H} {m : Nat} {I : Nat → Int32} {b : Nat} {A : Nat → Nat → Int32} {F : Int32 → Option α} : mo_gi (om σ m I b A) m 7 12 F = F (I 12) := by unfold mo_gi; rw [om_o]; rfl
theorem om_p12 {α : Type} {σ : ac_H} {m : Nat} {I : Nat → Int32} {b : Nat} {A : Nat → Nat → Int32} {v : Int32} {F : ac_H → Option α} : mo_pv (om σ m I b A) m 7 12 (.int v) F = F (om σ m (upd I 12 v) b A) := by
  unfold mo_pv
  rw [om_o]
  show F (ac_up _ _ _) = _
  congr 1
  funext q
  by_cases h : q = m
  · subst h; rw [om_o]; simp [ac_up]; rfl
  · simp [ac_up, om, h]
theorem om_g13 {α : Type} {σ : ac_H} {m : Nat} {I : Nat → Int32} {b : Nat} {A : Nat → Nat → Int32} {F : Nat → Option α} : mo_gr (om σ m I b A) m 7 13 F = F (m + 3) := by unfold mo_gr; rw [om_o]; rfl
theorem om_g14 {α : Type} {σ : ac_H} {m : Nat} {I : Nat → Int32} {b : Nat} {A : Nat → Nat → Int32} {F : Nat → Option α} : mo_gr (om σ m I b A) m 7 14 F = F b := by unfold mo_gr; rw [om_o]; rfl
theorem om_p14 {α : Type} {σ : ac_H} {m : Nat} {I : Nat → Int32} {b : Nat} {A : Nat → Nat → Int32} {v : Nat} {F : ac_H → Option α} : mo_pv (om σ m I b A) m 7 14 (.ref v) F = F (om σ m I v A) := by
  unfold mo_pv
  rw [om_o]
  show F (ac_up _ _ _) = _
  congr 1
  funext q
  by_cases h : q = m
  · subst h; rw [om_o]; simp [ac_up]; rfl
  · simp [ac_up, om, h]
theorem om_g15 {α : Type} {σ : ac_H} {m : Nat} {I : Nat → Int32} {b : Nat} {A : Nat → Nat → Int32} {F : Nat → Option α} : mo_gr (om σ m I b A) m 7 15 F = F (m + 4) := by unfold mo_gr; rw [om_o]; rfl
theorem om_g16 {α : Type} {σ : ac_H} {m : Nat} {I : Nat → Int32} {b : Nat} {A : Nat → Nat → Int32} {F : Nat → Option α} : mo_gr (om σ m I b A) m 7 16 F = F (m + 5) := by unfold mo_gr; rw [om_o]; rfl
theorem om_g17 {α : Type} {σ : ac_H} {m : Nat} {I : Nat → Int32} {b : Nat} {A : Nat → Nat → Int32} {F : Nat → Option α} : mo_gr (om σ m I b A) m 7 17 F = F (m + 6) := by unfold mo_gr; rw [om_o]; rfl
theorem om_g18 {α : Type} {σ : ac_H} {m : Nat} {I : Nat → Int32} {b : Nat} {A : Nat → Nat → Int32} {F : Nat → Option α} : mo_gr (om σ m I b A) m 7 18 F = F (m + 7) := by unfold mo_gr; rw [om_o]; rfl
theorem om_g19 {α : Type} {σ : ac_H} {m : Nat} {I : Nat → Int32} {b : Nat} {A : Nat → Nat → Int32} {F : Nat → Option α} : mo_gr (om σ m I b A) m 7 19 F = F (m + 8) := by unfold mo_gr; rw [om_o]; rfl
theorem om_g20 {α : Type} {σ : ac_H} {m : Nat} {I : Nat → Int32} {b : Nat} {A : Nat → Nat → Int32} {F : Nat → Option α} : mo_gr (om σ m I b A) m 7 20 F = F (m + 9) := by unfold mo_gr; rw [om_o]; rfl
theorem om_g21 {α : Type} {σ : ac_H} {m : Nat} {I : Nat → Int32} {b : Nat} {A : Nat → Nat → Int32} {F : Int32 → Option α} : mo_gi (om σ m I b A) m 7 21 F = F (I 21) := by unfold mo_gi; rw [om_o]; rfl
theorem om_p21 {α : Type} {σ : ac_H} {m : Nat} {I : Nat → Int32} {b : Nat} {A : Nat → Nat → Int32} {v : Int32} {F : ac_H → Option α} : mo_pv (om σ m I b A) m 7 21 (.int v) F = F (om σ m (upd I 21 v) b A) := by
  unfold mo_pv
  rw [om_o]
  show F (ac_up _ _ _) = _
  congr 1
  funext q
  by_cases h : q = m
  · subst h; rw [om_o]; simp [ac_up]; rfl
  · simp [ac_up, om, h]
theorem om_g22 {α : Type} {σ : ac_H} {m : Nat} {I : Nat → Int32} {b : Nat} {A : Nat → Nat → Int32} {F : Nat → Option α} : mo_gr (om σ m I b A) m 7 22 F = F (m + 10) := by unfold mo_gr; rw [om_o]; rfl
theorem om_g23 {α : Type} {σ : ac_H} {m : Nat} {I : Nat → Int32} {b : Nat} {A : Nat → Nat → Int32} {F : Int32 → Option α} : mo_gi (om σ m I b A) m 7 23 F = F (I 23) := by unfold mo_gi; rw [om_o]; rfl
theorem om_p23 {α : Type} {σ : ac_H} {m : Nat} {I : Nat → Int32} {b : Nat} {A : Nat → Nat → Int32} {v : Int32} {F : ac_H → Option α} : mo_pv (om σ m I b A) m 7 23 (.int v) F = F (om σ m (upd I 23 v) b A) := by
  unfold mo_pv
  rw [om_o]
  show F (ac_up _ _ _) = _
  congr 1
  funext q
  by_cases h : q = m
  · subst h; rw [om_o]; simp [ac_up]; rfl
  · simp [ac_up, om, h]
theorem om_g24 {α : Type} {σ : ac_H} {m : Nat} {I : Nat → Int32} {b : Nat} {A : Nat → Nat → Int32} {F : Int32 → Option α} : mo_gi (om σ m I b A) m 7 24 F = F (I 24) := by unfold mo_gi; rw [om_o]; rfl
theorem om_p24 {α : Type} {σ : ac_H} {m : Nat} {I : Nat → Int32} {b : Nat} {A : Nat → Nat → Int32} {v : Int32} {F : ac_H → Option α} : mo_pv (om σ m I b A) m 7 24 (.int v) F = F (om σ m (upd I 24 v) b A) := by
  unfold mo_pv
  rw [om_o]
  show F (ac_up _ _ _) = _
  congr 1
  funext q
  by_cases h : q = m
  · subst h; rw [om_o]; simp [ac_up]; rfl
  · simp [ac_up, om, h]
theorem om_g25 {α : Type} {σ : ac_H} {m : Nat} {I : Nat → Int32} {b : Nat} {A : Nat → Nat → Int32} {F : Int32 → Option α} : mo_gi (om σ m I b A) m 7 25 F = F (I 25) := by unfold mo_gi; rw [om_o]; rfl
theorem om_p25 {α : Type} {σ : ac_H} {m : Nat} {I : Nat → Int32} {b : Nat} {A : Nat → Nat → Int32} {v : Int32} {F : ac_H → Option α} : mo_pv (om σ m I b A) m 7 25 (.int v) F = F (om σ m (upd I 25 v) b A) := by
  unfold mo_pv
  rw [om_o]
  show F (ac_up _ _ _) = _
  congr 1
  funext q
  by_cases h : q = m
  · subst h; rw [om_o]; simp [ac_up]; rfl
  · simp [ac_up, om, h]
theorem om_g26 {α : Type} {σ : ac_H} {m : Nat} {I : Nat → Int32} {b : Nat} {A : Nat → Nat → Int32} {F : Int32 → Option α} : mo_gi (om σ m I b A) m 7 26 F = F (I 26) := by unfold mo_gi; rw [om_o]; rfl
theorem om_p26 {α : Type} {σ : ac_H} {m : Nat} {I : Nat → Int32} {b : Nat} {A : Nat → Nat → Int32} {v : Int32} {F : ac_H → Option α} : mo_pv (om σ m I b A) m 7 26 (.int v) F = F (om σ m (upd I 26 v) b A) := by
  unfold mo_pv
  rw [om_o]
  show F (ac_up _ _ _) = _
  congr 1
  funext q
  by_cases h : q = m
  · subst h; rw [om_o]; simp [ac_up]; rfl
  · simp [ac_up, om, h]
theorem om_g27 {α : Type} {σ : ac_H} {m : Nat} {I : Nat → Int32} {b : Nat} {A : Nat → Nat → Int32} {F : Int32 → Option α} : mo_gi (om σ m I b A) m 7 27 F = F (I 27) := by unfold mo_gi; rw [om_o]; rfl
theorem om_p27 {α : Type} {σ : ac_H} {m : Nat} {I : Nat → Int32} {b : Nat} {A : Nat → Nat → Int32} {v : Int32} {F : ac_H → Option α} : mo_pv (om σ m I b A) m 7 27 (.int v) F = F (om σ m (upd I 27 v) b A) := by
  unfold mo_pv
  rw [om_o]
  show F (ac_up _ _ _) = _
  congr 1
  funext q
  by_cases h : q = m
  · subst h; rw [om_o]; simp [ac_up]; rfl
  · simp [ac_up, om, h]
theorem om_g28 {α : Type} {σ : ac_H} {m : Nat} {I : Nat → Int32} {b : Nat} {A : Nat → Nat → Int32} {F : Nat → Option α} : mo_gr (om σ m I b A) m 7 28 F = F (m + 11) := by unfold mo_gr; rw [om_o]; rfl
theorem om_g29 {α : Type} {σ : ac_H} {m : Nat} {I : Nat → Int32} {b : Nat} {A : Nat → Nat → Int32} {F : Int32 → Option α} : mo_gi (om σ m I b A) m 7 29 F = F (I 29) := by unfold mo_gi; rw [om_o]; rfl
theorem om_p29 {α : Type} {σ : ac_H} {m : Nat} {I : Nat → Int32} {b : Nat} {A : Nat → Nat → Int32} {v : Int32} {F : ac_H → Option α} : mo_pv (om σ m I b A) m 7 29 (.int v) F = F (om σ m (upd I 29 v) b A) := by
  unfold mo_pv
  rw [om_o]
  show F (ac_up _ _ _) = _
  congr 1
  funext q
  by_cases h : q = m
  · subst h; rw [om_o]; simp [ac_up]; rfl
  · simp [ac_up, om, h]
theorem om_g30 {α : Type} {σ : ac_H} {m : Nat} {I : Nat → Int32} {b : Nat} {A : Nat → Nat → Int32} {F : Int32 → Option α} : mo_gi (om σ m I b A) m 7 30 F = F (I 30) := by unfold mo_gi; rw [om_o]; rfl
theorem om_p30 {α : Type} {σ : ac_H} {m : Nat} {I : Nat → Int32} {b : Nat} {A : Nat → Nat → Int32} {v : Int32} {F : ac_H → Option α} : mo_pv (om σ m I b A) m 7 30 (.int v) F = F (om σ m (upd I 30 v) b A) := by
  unfold mo_pv
  rw [om_o]
  show F (ac_up _ _ _) = _
  congr 1
  funext q
  by_cases h : q = m
  · subst h; rw [om_o]; simp [ac_up]; rfl
  · simp [ac_up, om, h]
theorem om_g31 {α : Type} {σ : ac_H} {m : Nat} {I : Nat → Int32} {b : Nat} {A : Nat → Nat → Int32} {F : Int32 → Option α} : mo_gi (om σ m I b A) m 7 31 F = F (I 31) := by unfold mo_gi; rw [om_o]; rfl
theorem om_p31 {α : Type} {σ : ac_H} {m : Nat} {I : Nat → Int32} {b : Nat} {A : Nat → Nat → Int32} {v : Int32} {F : ac_H → Option α} : mo_pv (om σ m I b A) m 7 31 (.int v) F = F (om σ m (upd I 31 v) b A) := by
  unfold mo_pv
  rw [om_o]
  show F (ac_up _ _ _) = _
  congr 1
  funext q
  by_cases h : q = m
  · subst h; rw [om_o]; simp [ac_up]; rfl
  · simp [ac_up, om, h]
theorem om_g32 {α : Type} {σ : ac_H} {m : Nat} {I : Nat → Int32} {b : Nat} {A : Nat → Nat → Int32} {F : Int32 → Option α} : mo_gi (om σ m I b A) m 7 32 F = F (I 32) := by unfold mo_gi; rw [om_o]; rfl
theorem om_p32 {α : Type} {σ : ac_H} {m : Nat} {I : Nat → Int32} {b : Nat} {A : Nat → Nat → Int32} {v : Int32} {F : ac_H → Option α} : mo_pv (om σ m I b A) m 7 32 (.int v) F = F (om σ m (upd I 32 v) b A) := by
  unfold mo_pv
  rw [om_o]
  show F (ac_up _ _ _) = _
  congr 1
  funext q
  by_cases h : q = m
  · subst h; rw [om_o]; simp [ac_up]; rfl
  · simp [ac_up, om, h]
theorem om_g33 {α : Type} {σ : ac_H} {m : Nat} {I : Nat → Int32} {b : Nat} {A : Nat → Nat → Int32} {F : Int32 → Option α} : mo_gi (om σ m I b A) m 7 33 F = F (I 33) := by unfold mo_gi; rw [om_o]; rfl
theorem om_p33 {α : Type} {σ : ac_H} {m : Nat} {I : Nat → Int32} {b : Nat} {A : Nat → Nat → Int32} {v : Int32} {F : ac_H → Option α} : mo_pv (om σ m I b A) m 7 33 (.int v) F = F (om σ m (upd I 33 v) b A) := by
  unfold mo_pv
  rw [om_o]
  show F (ac_up _ _ _) = _
  congr 1
  funext q
  by_cases h : q = m
  · subst h; rw [om_o]; simp [ac_up]; rfl
  · simp [ac_up, om, h]
theorem om_g34 {α : Type} {σ : ac_H} {m : Nat} {I : Nat → Int32} {b : Nat} {A : Nat → Nat → Int32} {F : Int32 → Option α} : mo_gi (om σ m I b A) m 7 34 F = F (I 34) := by unfold mo_gi; rw [om_o]; rfl
theorem om_p34 {α : Type} {σ : ac_H} {m : Nat} {I : Nat → Int32} {b : Nat} {A : Nat → Nat → Int32} {v : Int32} {F : ac_H → Option α} : mo_pv (om σ m I b A) m 7 34 (.int v) F = F (om σ m (upd I 34 v) b A) := by
  unfold mo_pv
  rw [om_o]
  show F (ac_up _ _ _) = _
  congr 1
  funext q
  by_cases h : q = m
  · subst h; rw [om_o]; simp [ac_up]; rfl
  · simp [ac_up, om, h]
theorem om_g35 {α : Type} {σ : ac_H} {m : Nat} {I : Nat → Int32} {b : Nat} {A : Nat → Nat → Int32} {F : Int32 → Option α} : mo_gi (om σ m I b A) m 7 35 F = F (I 35) := by unfold mo_gi; rw [om_o]; rfl
theorem om_p35 {α : Type} {σ : ac_H} {m : Nat} {I : Nat → Int32} {b : Nat} {A : Nat → Nat → Int32} {v : Int32} {F : ac_H → Option α} : mo_pv (om σ m I b A) m 7 35 (.int v) F = F (om σ m (upd I 35 v) b A) := by
  unfold mo_pv
  rw [om_o]
  show F (ac_up _ _ _) = _
  congr 1
  funext q
  by_cases h : q = m
  · subst h; rw [om_o]; simp [ac_up]; rfl
  · simp [ac_up, om, h]
theorem om_g36 {α : Type} {σ : ac_H} {m : Nat} {I : Nat → Int32} {b : Nat} {A : Nat → Nat → Int32} {F : Int32 → Option α} : mo_gi (om σ m I b A) m 7 36 F = F (I 36) := by unfold mo_gi; rw [om_o]; rfl
theorem om_p36 {α : Type} {σ : ac_H} {m : Nat} {I : Nat → Int32} {b : Nat} {A : Nat → Nat → Int32} {v : Int32} {F : ac_H → Option α} : mo_pv (om σ m I b A) m 7 36 (.int v) F = F (om σ m (upd I 36 v) b A) := by
  unfold mo_pv
  rw [om_o]
  show F (ac_up _ _ _) = _
  congr 1
  funext q
  by_cases h : q = m
  · subst h; rw [om_o]; simp [ac_up]; rfl
  · simp [ac_up, om, h]
theorem om_g37 {α : Type} {σ : ac_H} {m : Nat} {I : Nat → Int32} {b : Nat} {A : Nat → Nat → Int32} {F : Nat → Option α} : mo_gr (om σ m I b A) m 7 37 F = F (m + 12) := by unfold mo_gr; rw [om_o]; rfl
theorem om_g38 {α : Type} {σ : ac_H} {m : Nat} {I : Nat → Int32} {b : Nat} {A : Nat → Nat → Int32} {F : Nat → Option α} : mo_gr (om σ m I b A) m 7 38 F = F (m + 13) := by unfold mo_gr; rw [om_o]; rfl
theorem om_g39 {α : Type} {σ : ac_H} {m : Nat} {I : Nat → Int32} {b : Nat} {A : Nat → Nat → Int32} {F : Nat → Option α} : mo_gr (om σ m I b A) m 7 39 F = F (m + 14) := by unfold mo_gr; rw [om_o]; rfl
theorem om_ai1 {α : Type} {σ : ac_H} {m : Nat} {I : Nat → Int32} {b : Nat} {A : Nat → Nat → Int32} {i : Int32} {F : Int32 → Option α} : mo_ai (om σ m I b A) (m + 1) 0 i F = if i < 0 ∨ 183 ≤ i.toNatClampNeg then none else F (A 1 i.toNatClampNeg) := by unfold mo_ai; rw [om_a1]; rfl
theorem om_ui1 {α : Type} {σ : ac_H} {m : Nat} {I : Nat → Int32} {b : Nat} {A : Nat → Nat → Int32} {i x : Int32} {F : ac_H → Option α} : mo_ui (om σ m I b A) (m + 1) 0 i x F = if i < 0 ∨ 183 ≤ i.toNatClampNeg then none else F (om σ m I b (uA A 1 i.toNatClampNeg x)) := by
  unfold mo_ui
  rw [om_a1]
  show (if _ then none else F (ac_up _ _ _)) = _
  by_cases hi : i < 0 ∨ 183 ≤ i.toNatClampNeg
  · rw [if_pos hi, if_pos hi]
  · rw [if_neg hi, if_neg hi]
    congr 1
    funext q
    by_cases h : q = m + 1
    · subst h; rw [om_a1]; simp [ac_up, uA]
    · simp [ac_up, om, h, uA]
theorem om_ln1 {α : Type} {σ : ac_H} {m : Nat} {I : Nat → Int32} {b : Nat} {A : Nat → Nat → Int32} {F : Int32 → Option α} : mo_ln (om σ m I b A) (m + 1) F = F (Int32.ofNat 183) := by unfold mo_ln; rw [om_a1]; rfl
theorem om_ai2 {α : Type} {σ : ac_H} {m : Nat} {I : Nat → Int32} {b : Nat} {A : Nat → Nat → Int32} {i : Int32} {F : Int32 → Option α} : mo_ai (om σ m I b A) (m + 2) 1 i F = if i < 0 ∨ 500 ≤ i.toNatClampNeg then none else F (A 2 i.toNatClampNeg) := by unfold mo_ai; rw [om_a2]; rfl
theorem om_ui2 {α : Type} {σ : ac_H} {m : Nat} {I : Nat → Int32} {b : Nat} {A : Nat → Nat → Int32} {i x : Int32} {F : ac_H → Option α} : mo_ui (om σ m I b A) (m + 2) 1 i x F = if i < 0 ∨ 500 ≤ i.toNatClampNeg then none else F (om σ m I b (uA A 2 i.toNatClampNeg x)) := by
  unfold mo_ui
  rw [om_a2]
  show (if _ then none else F (ac_up _ _ _)) = _
  by_cases hi : i < 0 ∨ 500 ≤ i.toNatClampNeg
  · rw [if_pos hi, if_pos hi]
  · rw [if_neg hi, if_neg hi]
    congr 1
    funext q
    by_cases h : q = m + 2
    · subst h; rw [om_a2]; simp [ac_up, uA]
    · simp [ac_up, om, h, uA]
theorem om_ln2 {α : Type} {σ : ac_H} {m : Nat} {I : Nat → Int32} {b : Nat} {A : Nat → Nat → Int32} {F : Int32 → Option α} : mo_ln (om σ m I b A) (m + 2) F = F (Int32.ofNat 500) := by unfold mo_ln; rw [om_a2]; rfl
theorem om_ai3 {α : Type} {σ : ac_H} {m : Nat} {I : Nat → Int32} {b : Nat} {A : Nat → Nat → Int32} {i : Int32} {F : Int32 → Option α} : mo_ai (om σ m I b A) (m + 3) 0 i F = if i < 0 ∨ 183 ≤ i.toNatClampNeg then none else F (A 3 i.toNatClampNeg) := by unfold mo_ai; rw [om_a3]; rfl
theorem om_ui3 {α : Type} {σ : ac_H} {m : Nat} {I : Nat → Int32} {b : Nat} {A : Nat → Nat → Int32} {i x : Int32} {F : ac_H → Option α} : mo_ui (om σ m I b A) (m + 3) 0 i x F = if i < 0 ∨ 183 ≤ i.toNatClampNeg then none else F (om σ m I b (uA A 3 i.toNatClampNeg x)) := by
  unfold mo_ui
  rw [om_a3]
  show (if _ then none else F (ac_up _ _ _)) = _
  by_cases hi : i < 0 ∨ 183 ≤ i.toNatClampNeg
  · rw [if_pos hi, if_pos hi]
  · rw [if_neg hi, if_neg hi]
    congr 1
    funext q
    by_cases h : q = m + 3
    · subst h; rw [om_a3]; simp [ac_up, uA]
    · simp [ac_up, om, h, uA]
theorem om_ln3 {α : Type} {σ : ac_H} {m : Nat} {I : Nat → Int32} {b : Nat} {A : Nat → Nat → Int32} {F : Int32 → Option α} : mo_ln (om σ m I b A) (m + 3) F = F (Int32.ofNat 183) := by unfold mo_ln; rw [om_a3]; rfl
theorem om_ai4 {α : Type} {σ : ac_H} {m : Nat} {I : Nat → Int32} {b : Nat} {A : Nat → Nat → Int32} {i : Int32} {F : Int32 → Option α} : mo_ai (om σ m I b A) (m + 4) 0 i F = if i < 0 ∨ 183 ≤ i.toNatClampNeg then none else F (A 4 i.toNatClampNeg) := by unfold mo_ai; rw [om_a4]; rfl
theorem om_ui4 {α : Type} {σ : ac_H} {m : Nat} {I : Nat → Int32} {b : Nat} {A : Nat → Nat → Int32} {i x : Int32} {F : ac_H → Option α} : mo_ui (om σ m I b A) (m + 4) 0 i x F = if i < 0 ∨ 183 ≤ i.toNatClampNeg then none else F (om σ m I b (uA A 4 i.toNatClampNeg x)) := by
  unfold mo_ui
  rw [om_a4]
  show (if _ then none else F (ac_up _ _ _)) = _
  by_cases hi : i < 0 ∨ 183 ≤ i.toNatClampNeg
  · rw [if_pos hi, if_pos hi]
  · rw [if_neg hi, if_neg hi]
    congr 1
    funext q
    by_cases h : q = m + 4
    · subst h; rw [om_a4]; simp [ac_up, uA]
    · simp [ac_up, om, h, uA]
theorem om_ln4 {α : Type} {σ : ac_H} {m : Nat} {I : Nat → Int32} {b : Nat} {A : Nat → Nat → Int32} {F : Int32 → Option α} : mo_ln (om σ m I b A) (m + 4) F = F (Int32.ofNat 183) := by unfold mo_ln; rw [om_a4]; rfl
theorem om_ai5 {α : Type} {σ : ac_H} {m : Nat} {I : Nat → Int32} {b : Nat} {A : Nat → Nat → Int32} {i : Int32} {F : Int32 → Option α} : mo_ai (om σ m I b A) (m + 5) 0 i F = if i < 0 ∨ 120 ≤ i.toNatClampNeg then none else F (A 5 i.toNatClampNeg) := by unfold mo_ai; rw [om_a5]; rfl
theorem om_ui5 {α : Type} {σ : ac_H} {m : Nat} {I : Nat → Int32} {b : Nat} {A : Nat → Nat → Int32} {i x : Int32} {F : ac_H → Option α} : mo_ui (om σ m I b A) (m + 5) 0 i x F = if i < 0 ∨ 120 ≤ i.toNatClampNeg then none else F (om σ m I b (uA A 5 i.toNatClampNeg x)) := by
  unfold mo_ui
  rw [om_a5]
  show (if _ then none else F (ac_up _ _ _)) = _
  by_cases hi : i < 0 ∨ 120 ≤ i.toNatClampNeg
  · rw [if_pos hi, if_pos hi]
  · rw [if_neg hi, if_neg hi]
    congr 1
    funext q
    by_cases h : q = m + 5
    · subst h; rw [om_a5]; simp [ac_up, uA]
    · simp [ac_up, om, h, uA]
theorem om_ln5 {α : Type} {σ : ac_H} {m : Nat} {I : Nat → Int32} {b : Nat} {A : Nat → Nat → Int32} {F : Int32 → Option α} : mo_ln (om σ m I b A) (m + 5) F = F (Int32.ofNat 120) := by unfold mo_ln; rw [om_a5]; rfl
theorem om_ai6 {α : Type} {σ : ac_H} {m : Nat} {I : Nat → Int32} {b : Nat} {A : Nat → Nat → Int32} {i : Int32} {F : Int32 → Option α} : mo_ai (om σ m I b A) (m + 6) 0 i F = if i < 0 ∨ 120 ≤ i.toNatClampNeg then none else F (A 6 i.toNatClampNeg) := by unfold mo_ai; rw [om_a6]; rfl
theorem om_ui6 {α : Type} {σ : ac_H} {m : Nat} {I : Nat → Int32} {b : Nat} {A : Nat → Nat → Int32} {i x : Int32} {F : ac_H → Option α} : mo_ui (om σ m I b A) (m + 6) 0 i x F = if i < 0 ∨ 120 ≤ i.toNatClampNeg then none else F (om σ m I b (uA A 6 i.toNatClampNeg x)) := by
  unfold mo_ui
  rw [om_a6]
  show (if _ then none else F (ac_up _ _ _)) = _
  by_cases hi : i < 0 ∨ 120 ≤ i.toNatClampNeg
  · rw [if_pos hi, if_pos hi]
  · rw [if_neg hi, if_neg hi]
    congr 1
    funext q
    by_cases h : q = m + 6
    · subst h; rw [om_a6]; simp [ac_up, uA]
    · simp [ac_up, om, h, uA]
theorem om_ln6 {α : Type} {σ : ac_H} {m : Nat} {I : Nat → Int32} {b : Nat} {A : Nat → Nat → Int32} {F : Int32 → Option α} : mo_ln (om σ m I b A) (m + 6) F = F (Int32.ofNat 120) := by unfold mo_ln; rw [om_a6]; rfl
theorem om_ai7 {α : Type} {σ : ac_H} {m : Nat} {I : Nat → Int32} {b : Nat} {A : Nat → Nat → Int32} {i : Int32} {F : Int32 → Option α} : mo_ai (om σ m I b A) (m + 7) 0 i F = if i < 0 ∨ 120 ≤ i.toNatClampNeg then none else F (A 7 i.toNatClampNeg) := by unfold mo_ai; rw [om_a7]; rfl
theorem om_ui7 {α : Type} {σ : ac_H} {m : Nat} {I : Nat → Int32} {b : Nat} {A : Nat → Nat → Int32} {i x : Int32} {F : ac_H → Option α} : mo_ui (om σ m I b A) (m + 7) 0 i x F = if i < 0 ∨ 120 ≤ i.toNatClampNeg then none else F (om σ m I b (uA A 7 i.toNatClampNeg x)) := by
  unfold mo_ui
  rw [om_a7]
  show (if _ then none else F (ac_up _ _ _)) = _
  by_cases hi : i < 0 ∨ 120 ≤ i.toNatClampNeg
  · rw [if_pos hi, if_pos hi]
  · rw [if_neg hi, if_neg hi]
    congr 1
    funext q
    by_cases h : q = m + 7
    · subst h; rw [om_a7]; simp [ac_up, uA]
    · simp [ac_up, om, h, uA]
theorem om_ln7 {α : Type} {σ : ac_H} {m : Nat} {I : Nat → Int32} {b : Nat} {A : Nat → Nat → Int32} {F : Int32 → Option α} : mo_ln (om σ m I b A) (m + 7) F = F (Int32.ofNat 120) := by unfold mo_ln; rw [om_a7]; rfl
theorem om_ai8 {α : Type} {σ : ac_H} {m : Nat} {I : Nat → Int32} {b : Nat} {A : Nat → Nat → Int32} {i : Int32} {F : Int32 → Option α} : mo_ai (om σ m I b A) (m + 8) 0 i F = if i < 0 ∨ 120 ≤ i.toNatClampNeg then none else F (A 8 i.toNatClampNeg) := by unfold mo_ai; rw [om_a8]; rfl
theorem om_ui8 {α : Type} {σ : ac_H} {m : Nat} {I : Nat → Int32} {b : Nat} {A : Nat → Nat → Int32} {i x : Int32} {F : ac_H → Option α} : mo_ui (om σ m I b A) (m + 8) 0 i x F = if i < 0 ∨ 120 ≤ i.toNatClampNeg then none else F (om σ m I b (uA A 8 i.toNatClampNeg x)) := by
  unfold mo_ui
  rw [om_a8]
  show (if _ then none else F (ac_up _ _ _)) = _
  by_cases hi : i < 0 ∨ 120 ≤ i.toNatClampNeg
  · rw [if_pos hi, if_pos hi]
  · rw [if_neg hi, if_neg hi]
    congr 1
    funext q
    by_cases h : q = m + 8
    · subst h; rw [om_a8]; simp [ac_up, uA]
    · simp [ac_up, om, h, uA]
theorem om_ln8 {α : Type} {σ : ac_H} {m : Nat} {I : Nat → Int32} {b : Nat} {A : Nat → Nat → Int32} {F : Int32 → Option α} : mo_ln (om σ m I b A) (m + 8) F = F (Int32.ofNat 120) := by unfold mo_ln; rw [om_a8]; rfl
theorem om_ai9 {α : Type} {σ : ac_H} {m : Nat} {I : Nat → Int32} {b : Nat} {A : Nat → Nat → Int32} {i : Int32} {F : Int32 → Option α} : mo_ai (om σ m I b A) (m + 9) 0 i F = if i < 0 ∨ 120 ≤ i.toNatClampNeg then none else F (A 9 i.toNatClampNeg) := by unfold mo_ai; rw [om_a9]; rfl
theorem om_ui9 {α : Type} {σ : ac_H} {m : Nat} {I : Nat → Int32} {b : Nat} {A : Nat → Nat → Int32} {i x : Int32} {F : ac_H → Option α} : mo_ui (om σ m I b A) (m + 9) 0 i x F = if i < 0 ∨ 120 ≤ i.toNatClampNeg then none else F (om σ m I b (uA A 9 i.toNatClampNeg x)) := by
  unfold mo_ui
  rw [om_a9]
  show (if _ then none else F (ac_up _ _ _)) = _
  by_cases hi : i < 0 ∨ 120 ≤ i.toNatClampNeg
  · rw [if_pos hi, if_pos hi]
  · rw [if_neg hi, if_neg hi]
    congr 1
    funext q
    by_cases h : q = m + 9
    · subst h; rw [om_a9]; simp [ac_up, uA]
    · simp [ac_up, om, h, uA]
theorem om_ln9 {α : Type} {σ : ac_H} {m : Nat} {I : Nat → Int32} {b : Nat} {A : Nat → Nat → Int32} {F : Int32 → Option α} : mo_ln (om σ m I b A) (m + 9) F = F (Int32.ofNat 120) := by unfold mo_ln; rw [om_a9]; rfl
theorem om_ai10 {α : Type} {σ : ac_H} {m : Nat} {I : Nat → Int32} {b : Nat} {A : Nat → Nat → Int32} {i : Int32} {F : Int32 → Option α} : mo_ai (om σ m I b A) (m + 10) 0 i F = if i < 0 ∨ 240 ≤ i.toNatClampNeg then none else F (A 10 i.toNatClampNeg) := by unfold mo_ai; rw [om_a10]; rfl
theorem om_ui10 {α : Type} {σ : ac_H} {m : Nat} {I : Nat → Int32} {b : Nat} {A : Nat → Nat → Int32} {i x : Int32} {F : ac_H → Option α} : mo_ui (om σ m I b A) (m + 10) 0 i x F = if i < 0 ∨ 240 ≤ i.toNatClampNeg then none else F (om σ m I b (uA A 10 i.toNatClampNeg x)) := by
  unfold mo_ui
  rw [om_a10]
  show (if _ then none else F (ac_up _ _ _)) = _
  by_cases hi : i < 0 ∨ 240 ≤ i.toNatClampNeg
  · rw [if_pos hi, if_pos hi]
  · rw [if_neg hi, if_neg hi]
    congr 1
    funext q
    by_cases h : q = m + 10
    · subst h; rw [om_a10]; simp [ac_up, uA]
    · simp [ac_up, om, h, uA]
theorem om_ln10 {α : Type} {σ : ac_H} {m : Nat} {I : Nat → Int32} {b : Nat} {A : Nat → Nat → Int32} {F : Int32 → Option α} : mo_ln (om σ m I b A) (m + 10) F = F (Int32.ofNat 240) := by unfold mo_ln; rw [om_a10]; rfl
theorem om_ai11 {α : Type} {σ : ac_H} {m : Nat} {I : Nat → Int32} {b : Nat} {A : Nat → Nat → Int32} {i : Int32} {F : Int32 → Option α} : mo_ai (om σ m I b A) (m + 11) 2 i F = if i < 0 ∨ 144 ≤ i.toNatClampNeg then none else F (A 11 i.toNatClampNeg) := by unfold mo_ai; rw [om_a11]; rfl
theorem om_ui11 {α : Type} {σ : ac_H} {m : Nat} {I : Nat → Int32} {b : Nat} {A : Nat → Nat → Int32} {i x : Int32} {F : ac_H → Option α} : mo_ui (om σ m I b A) (m + 11) 2 i x F = if i < 0 ∨ 144 ≤ i.toNatClampNeg then none else F (om σ m I b (uA A 11 i.toNatClampNeg x)) := by
  unfold mo_ui
  rw [om_a11]
  show (if _ then none else F (ac_up _ _ _)) = _
  by_cases hi : i < 0 ∨ 144 ≤ i.toNatClampNeg
  · rw [if_pos hi, if_pos hi]
  · rw [if_neg hi, if_neg hi]
    congr 1
    funext q
    by_cases h : q = m + 11
    · subst h; rw [om_a11]; simp [ac_up, uA]
    · simp [ac_up, om, h, uA]
theorem om_ln11 {α : Type} {σ : ac_H} {m : Nat} {I : Nat → Int32} {b : Nat} {A : Nat → Nat → Int32} {F : Int32 → Option α} : mo_ln (om σ m I b A) (m + 11) F = F (Int32.ofNat 144) := by unfold mo_ln; rw [om_a11]; rfl
theorem om_ai12 {α : Type} {σ : ac_H} {m : Nat} {I : Nat → Int32} {b : Nat} {A : Nat → Nat → Int32} {i : Int32} {F : Int32 → Option α} : mo_ai (om σ m I b A) (m + 12) 0 i F = if i < 0 ∨ 1830 ≤ i.toNatClampNeg then none else F (A 12 i.toNatClampNeg) := by unfold mo_ai; rw [om_a12]; rfl
theorem om_ui12 {α : Type} {σ : ac_H} {m : Nat} {I : Nat → Int32} {b : Nat} {A : Nat → Nat → Int32} {i x : Int32} {F : ac_H → Option α} : mo_ui (om σ m I b A) (m + 12) 0 i x F = if i < 0 ∨ 1830 ≤ i.toNatClampNeg then none else F (om σ m I b (uA A 12 i.toNatClampNeg x)) := by
  unfold mo_ui
  rw [om_a12]
  show (if _ then none else F (ac_up _ _ _)) = _
  by_cases hi : i < 0 ∨ 1830 ≤ i.toNatClampNeg
  · rw [if_pos hi, if_pos hi]
  · rw [if_neg hi, if_neg hi]
    congr 1
    funext q
    by_cases h : q = m + 12
    · subst h; rw [om_a12]; simp [ac_up, uA]
    · simp [ac_up, om, h, uA]
theorem om_ln12 {α : Type} {σ : ac_H} {m : Nat} {I : Nat → Int32} {b : Nat} {A : Nat → Nat → Int32} {F : Int32 → Option α} : mo_ln (om σ m I b A) (m + 12) F = F (Int32.ofNat 1830) := by unfold mo_ln; rw [om_a12]; rfl
theorem om_ai13 {α : Type} {σ : ac_H} {m : Nat} {I : Nat → Int32} {b : Nat} {A : Nat → Nat → Int32} {i : Int32} {F : Int32 → Option α} : mo_ai (om σ m I b A) (m + 13) 0 i F = if i < 0 ∨ 366 ≤ i.toNatClampNeg then none else F (A 13 i.toNatClampNeg) := by unfold mo_ai; rw [om_a13]; rfl
theorem om_ui13 {α : Type} {σ : ac_H} {m : Nat} {I : Nat → Int32} {b : Nat} {A : Nat → Nat → Int32} {i x : Int32} {F : ac_H → Option α} : mo_ui (om σ m I b A) (m + 13) 0 i x F = if i < 0 ∨ 366 ≤ i.toNatClampNeg then none else F (om σ m I b (uA A 13 i.toNatClampNeg x)) := by
  unfold mo_ui
  rw [om_a13]
  show (if _ then none else F (ac_up _ _ _)) = _
  by_cases hi : i < 0 ∨ 366 ≤ i.toNatClampNeg
  · rw [if_pos hi, if_pos hi]
  · rw [if_neg hi, if_neg hi]
    congr 1
    funext q
    by_cases h : q = m + 13
    · subst h; rw [om_a13]; simp [ac_up, uA]
    · simp [ac_up, om, h, uA]
theorem om_ln13 {α : Type} {σ : ac_H} {m : Nat} {I : Nat → Int32} {b : Nat} {A : Nat → Nat → Int32} {F : Int32 → Option α} : mo_ln (om σ m I b A) (m + 13) F = F (Int32.ofNat 366) := by unfold mo_ln; rw [om_a13]; rfl
theorem om_ai14 {α : Type} {σ : ac_H} {m : Nat} {I : Nat → Int32} {b : Nat} {A : Nat → Nat → Int32} {i : Int32} {F : Int32 → Option α} : mo_ai (om σ m I b A) (m + 14) 2 i F = if i < 0 ∨ 2 ≤ i.toNatClampNeg then none else F (A 14 i.toNatClampNeg) := by unfold mo_ai; rw [om_a14]; rfl
theorem om_ui14 {α : Type} {σ : ac_H} {m : Nat} {I : Nat → Int32} {b : Nat} {A : Nat → Nat → Int32} {i x : Int32} {F : ac_H → Option α} : mo_ui (om σ m I b A) (m + 14) 2 i x F = if i < 0 ∨ 2 ≤ i.toNatClampNeg then none else F (om σ m I b (uA A 14 i.toNatClampNeg x)) := by
  unfold mo_ui
  rw [om_a14]
  show (if _ then none else F (ac_up _ _ _)) = _
  by_cases hi : i < 0 ∨ 2 ≤ i.toNatClampNeg
  · rw [if_pos hi, if_pos hi]
  · rw [if_neg hi, if_neg hi]
    congr 1
    funext q
    by_cases h : q = m + 14
    · subst h; rw [om_a14]; simp [ac_up, uA]
    · simp [ac_up, om, h, uA]
theorem om_ln14 {α : Type} {σ : ac_H} {m : Nat} {I : Nat → Int32} {b : Nat} {A : Nat → Nat → Int32} {F : Int32 → Option α} : mo_ln (om σ m I b A) (m + 14) F = F (Int32.ofNat 2) := by unfold mo_ln; rw [om_a14]; rfl
theorem om_cv {α : Type} {σ : ac_H} {m : Nat} {I : Nat → Int32} {b : Nat} {A : Nat → Nat → Int32} {ρ : Type} {M : Option (ρ × ac_H)} {F : ρ → ac_H → Option α} : mo_cv (om σ m I b A) m 7 M F = mo_cs M F := by unfold mo_cv; rw [om_o]; rfl
theorem om_id {σ : ac_H} {m : Nat} {I : Nat → Int32} {b : Nat} {A : Nat → Nat → Int32} {τ : ac_H} (h0 : τ m = some (.inr (7, om_f m I b))) (h1 : τ (m + 1) = some (.inl (0, 183, .inl (A 1)))) (h2 : τ (m + 2) = some (.inl (1, 500, .inl (A 2)))) (h3 : τ (m + 3) = some (.inl (0, 183, .inl (A 3)))) (h4 : τ (m + 4) = some (.inl (0, 183, .inl (A 4)))) (h5 : τ (m + 5) = some (.inl (0, 120, .inl (A 5)))) (h6 : τ (m + 6) = some (.inl (0, 120, .inl (A 6)))) (h7 : τ (m + 7) = some (.inl (0, 120, .inl (A 7)))) (h8 : τ (m + 8) = some (.inl (0, 120, .inl (A 8)))) (h9 : τ (m + 9) = some (.inl (0, 120, .inl (A 9)))) (h10 : τ (m + 10) = some (.inl (0, 240, .inl (A 10)))) (h11 : τ (m + 11) = some (.inl (2, 144, .inl (A 11)))) (h12 : τ (m + 12) = some (.inl (0, 1830, .inl (A 12)))) (h13 : τ (m + 13) = some (.inl (0, 366, .inl (A 13)))) (h14 : τ (m + 14) = some (.inl (2, 2, .inl (A 14)))) : om τ m I b A = τ := by
  funext q
  unfold om
  split
  · rename_i h; rw [h, h0]
  all_goals (repeat (split; (rename_i h; rw [h]; first | exact h0.symm | exact h1.symm | exact h2.symm | exact h3.symm | exact h4.symm | exact h5.symm | exact h6.symm | exact h7.symm | exact h8.symm | exact h9.symm | exact h10.symm | exact h11.symm | exact h12.symm | exact h13.symm | exact h14.symm))) 
  all_goals rfl

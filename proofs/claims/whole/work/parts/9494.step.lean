/-! THE LAW: its helpers, a step. -/
theorem hhA {c : Int} (hc : c = 0 ∨ c = 1) : ¬ c = 0 → ∀ σ : ac_H, (fun (E : String) (σ8 : ac_H) => if E = "java/lang/IllegalArgumentException" then (some ((1 : Int32), σ8)) else (none)) (eA c) σ = some (jI c, σ) := by
  intro h σ
  have e : c = 1 := by omega
  subst e
  rfl
theorem hhO {c : Int} (hc : c = 0 ∨ c = 1) : ¬ c = 0 → ∀ σ : ac_H, (fun (E : String) (σ8 : ac_H) => if E = "java/lang/IndexOutOfBoundsException" then (some ((1 : Int32), σ8)) else (none)) (eO c) σ = some (jI c, σ) := by
  intro h σ
  have e : c = 1 := by omega
  subst e
  rfl
theorem hhX {c : Int} (hc : c = 0 ∨ c = 1 ∨ c = 2) : ¬ c = 0 → ∀ σ : ac_H, (fun (E : String) (σ8 : ac_H) => if E = "java/lang/IndexOutOfBoundsException" then (some ((1 : Int32), σ8)) else (if E = "java/lang/IllegalArgumentException" then (some ((2 : Int32), σ8)) else (none))) (eX c) σ = some (jI c, σ) := by
  intro h σ
  rcases (show c = 1 ∨ c = 2 by omega) with e | e
  · subst e; rfl
  · subst e; rfl
theorem hhS {c : Int} (hc : c = 0 ∨ c = 1 ∨ c = 2) : ¬ c = 0 → ∀ σ : ac_H, (fun (E : String) (σ8 : ac_H) => if E = "java/lang/IllegalArgumentException" then (some ((1 : Int32), σ8)) else (if E = "java/lang/IllegalStateException" then (some ((2 : Int32), σ8)) else (none))) (eS c) σ = some (jI c, σ) := by
  intro h σ
  rcases (show c = 1 ∨ c = 2 by omega) with e | e
  · subst e; rfl
  · subst e; rfl
theorem hhT {c : Int} (hc : c = 0 ∨ c = 1 ∨ c = 2) : ¬ c = 0 → ∀ σ : ac_H, (fun (E : String) (σ8 : ac_H) => if E = "java/lang/IndexOutOfBoundsException" then (some ((1 : Int32), σ8)) else (if E = "java/lang/IllegalStateException" then (some ((2 : Int32), σ8)) else (none))) (eT c) σ = some (jI c, σ) := by
  intro h σ
  rcases (show c = 1 ∨ c = 2 by omega) with e | e
  · subst e; rfl
  · subst e; rfl
theorem rParse_c {q : hQ} {a1 : Int} : (rParse q a1).1 = 0 ∨ (rParse q a1).1 = 1 := by
  unfold rParse
  repeat' split
  all_goals first | exact Or.inl rfl | exact Or.inr rfl
theorem rParse_c2 {q : hQ} {a1 : Int} : 0 ≤ (rParse q a1).1 ∧ (rParse q a1).1 ≤ 2 := by
  rcases rParse_c (q := q) (a1 := a1) with h | h <;> omega
theorem L_parse {z : Nat} {M : hM} {q : hQ} {a1 : Int} (h : INV M q) (w1 : okW a1) : OH z M (m_L_parse (hp z M) z (jI a1) (z + 148)) (rParse q a1) := by
  unfold m_L_parse
  exact help_B (C_parse h.1 h.2.2 w1) (okQ_parse h.2.2) (hhA rParse_c)
theorem rSize_c {q : hQ} {a1 : Int} : (rSize q a1).1 = 0 ∨ (rSize q a1).1 = 1 := by
  unfold rSize
  repeat' split
  all_goals first | exact Or.inl rfl | exact Or.inr rfl
theorem rSize_c2 {q : hQ} {a1 : Int} : 0 ≤ (rSize q a1).1 ∧ (rSize q a1).1 ≤ 2 := by
  rcases rSize_c (q := q) (a1 := a1) with h | h <;> omega
theorem rSize_o {q : hQ} {a1 : Int} (ho : okQ q) : okQ (rSize q a1).2.2 := by
  unfold rSize
  repeat' split
  all_goals exact ho
theorem L_size {z : Nat} {M : hM} {q : hQ} {a1 : Int} (h : INV M q) (w1 : okW a1) : OH z M (m_L_size (hp z M) z (jI a1) (z + 148)) (rSize q a1) := by
  unfold m_L_size
  exact help_B (C_size h.1 h.2.2 w1) (rSize_o h.2.2) (hhA rSize_c)
theorem rFault_c {q : hQ} {a1 : Int} {a2 : Int} : (rFault q a1 a2).1 = 0 ∨ (rFault q a1 a2).1 = 1 ∨ (rFault q a1 a2).1 = 2 := by
  unfold rFault
  repeat' split
  all_goals first | exact Or.inl rfl | exact Or.inr (Or.inl rfl) | exact Or.inr (Or.inr rfl)
theorem rFault_c2 {q : hQ} {a1 : Int} {a2 : Int} : 0 ≤ (rFault q a1 a2).1 ∧ (rFault q a1 a2).1 ≤ 2 := by
  rcases rFault_c (q := q) (a1 := a1) (a2 := a2) with h | h | h <;> omega
theorem rFault_o {q : hQ} {a1 : Int} {a2 : Int} (ho : okQ q) : okQ (rFault q a1 a2).2.2 := by
  unfold rFault
  repeat' split
  all_goals exact ho
theorem L_fault {z : Nat} {M : hM} {q : hQ} {a1 : Int} {a2 : Int} (h : INV M q) (w1 : okW a1) (w2 : okW a2) : OH z M (m_L_fault (hp z M) z (jI a1) (jI a2) (z + 148)) (rFault q a1 a2) := by
  unfold m_L_fault
  exact help_B (C_fault h.1 h.2.2 w1 w2) (rFault_o h.2.2) (hhX rFault_c)
theorem rResult_c {q : hQ} {a1 : Int} : (rResult q a1).1 = 0 ∨ (rResult q a1).1 = 1 := by
  unfold rResult
  repeat' split
  all_goals first | exact Or.inl rfl | exact Or.inr rfl
theorem rResult_c2 {q : hQ} {a1 : Int} : 0 ≤ (rResult q a1).1 ∧ (rResult q a1).1 ≤ 2 := by
  rcases rResult_c (q := q) (a1 := a1) with h | h <;> omega
theorem rResult_o {q : hQ} {a1 : Int} (ho : okQ q) : okQ (rResult q a1).2.2 := by
  unfold rResult
  repeat' split
  all_goals exact ho
theorem L_result {z : Nat} {M : hM} {q : hQ} {a1 : Int} (h : INV M q) (w1 : okW a1) : OH z M (m_L_result (hp z M) z (jI a1) (z + 148)) (rResult q a1) := by
  unfold m_L_result
  exact help_B (C_result h.1 h.2.2 w1) (rResult_o h.2.2) (hhA rResult_c)
theorem rSent_c {q : hQ} {a1 : Int} {a2 : Int} : (rSent q a1 a2).1 = 0 ∨ (rSent q a1 a2).1 = 1 := by
  unfold rSent
  repeat' split
  all_goals first | exact Or.inl rfl | exact Or.inr rfl
theorem rSent_c2 {q : hQ} {a1 : Int} {a2 : Int} : 0 ≤ (rSent q a1 a2).1 ∧ (rSent q a1 a2).1 ≤ 2 := by
  rcases rSent_c (q := q) (a1 := a1) (a2 := a2) with h | h <;> omega
theorem rSent_o {q : hQ} {a1 : Int} {a2 : Int} (ho : okQ q) : okQ (rSent q a1 a2).2.2 := by
  unfold rSent
  repeat' split
  all_goals exact ho
theorem L_sent {z : Nat} {M : hM} {q : hQ} {a1 : Int} {a2 : Int} (h : INV M q) (w1 : okW a1) (w2 : okW a2) : OH z M (m_L_sent (hp z M) z (jI a1) (jI a2) (z + 148)) (rSent q a1 a2) := by
  unfold m_L_sent
  exact help_B (C_sent h.1 h.2.2 w1 w2) (rSent_o h.2.2) (hhA rSent_c)
theorem rSmallest_c {q : hQ} {a1 : Int} : (rSmallest q a1).1 = 0 ∨ (rSmallest q a1).1 = 1 := by
  unfold rSmallest
  repeat' split
  all_goals first | exact Or.inl rfl | exact Or.inr rfl
theorem rSmallest_c2 {q : hQ} {a1 : Int} : 0 ≤ (rSmallest q a1).1 ∧ (rSmallest q a1).1 ≤ 2 := by
  rcases rSmallest_c (q := q) (a1 := a1) with h | h <;> omega
theorem rSmallest_o {q : hQ} {a1 : Int} (ho : okQ q) : okQ (rSmallest q a1).2.2 := by
  unfold rSmallest
  repeat' split
  all_goals exact ho
theorem L_smallest {z : Nat} {M : hM} {q : hQ} {a1 : Int} (h : INV M q) (w1 : okW a1) : OH z M (m_L_smallest (hp z M) z (jI a1) (z + 148)) (rSmallest q a1) := by
  unfold m_L_smallest
  exact help_B (C_smallest h.1 h.2.2 w1) (rSmallest_o h.2.2) (hhA rSmallest_c)
theorem rCore_c {q : hQ} {a1 : Int} : (rCore q a1).1 = 0 ∨ (rCore q a1).1 = 1 := by
  unfold rCore
  repeat' split
  all_goals first | exact Or.inl rfl | exact Or.inr rfl
theorem rCore_c2 {q : hQ} {a1 : Int} : 0 ≤ (rCore q a1).1 ∧ (rCore q a1).1 ≤ 2 := by
  rcases rCore_c (q := q) (a1 := a1) with h | h <;> omega
theorem rCore_o {q : hQ} {a1 : Int} (ho : okQ q) : okQ (rCore q a1).2.2 := by
  unfold rCore
  repeat' split
  all_goals exact ho
theorem L_core {z : Nat} {M : hM} {q : hQ} {a1 : Int} (h : INV M q) (w1 : okW a1) : OH z M (m_L_core (hp z M) z (jI a1) (z + 148)) (rCore q a1) := by
  unfold m_L_core
  exact help_B (C_core h.1 h.2.2 w1) (rCore_o h.2.2) (hhA rCore_c)
theorem rLeast_c {q : hQ} {a1 : Int} {a2 : Int} : (rLeast q a1 a2).1 = 0 ∨ (rLeast q a1 a2).1 = 1 ∨ (rLeast q a1 a2).1 = 2 := by
  unfold rLeast
  repeat' split
  all_goals first | exact Or.inl rfl | exact Or.inr (Or.inl rfl) | exact Or.inr (Or.inr rfl)
theorem rLeast_c2 {q : hQ} {a1 : Int} {a2 : Int} : 0 ≤ (rLeast q a1 a2).1 ∧ (rLeast q a1 a2).1 ≤ 2 := by
  rcases rLeast_c (q := q) (a1 := a1) (a2 := a2) with h | h | h <;> omega
theorem rLeast_o {q : hQ} {a1 : Int} {a2 : Int} (ho : okQ q) : okQ (rLeast q a1 a2).2.2 := by
  unfold rLeast
  repeat' split
  all_goals exact ho
theorem L_least {z : Nat} {M : hM} {q : hQ} {a1 : Int} {a2 : Int} (h : INV M q) (w1 : okW a1) (w2 : okW a2) : OH z M (m_L_leastAmount (hp z M) z (jI a1) (jI a2) (z + 148)) (rLeast q a1 a2) := by
  unfold m_L_leastAmount
  exact help_B (C_least h.1 h.2.2 w1 w2) (rLeast_o h.2.2) (hhX rLeast_c)
theorem rAttack_c {q : hQ} {a1 : Int} {a2 : Int} : (rAttack q a1 a2).1 = 0 ∨ (rAttack q a1 a2).1 = 1 := by
  unfold rAttack
  repeat' split
  all_goals first | exact Or.inl rfl | exact Or.inr rfl
theorem rAttack_c2 {q : hQ} {a1 : Int} {a2 : Int} : 0 ≤ (rAttack q a1 a2).1 ∧ (rAttack q a1 a2).1 ≤ 2 := by
  rcases rAttack_c (q := q) (a1 := a1) (a2 := a2) with h | h <;> omega
theorem rAttack_o {q : hQ} {a1 : Int} {a2 : Int} (ho : okQ q) : okQ (rAttack q a1 a2).2.2 := by
  unfold rAttack
  repeat' split
  all_goals exact ho
theorem L_attack {z : Nat} {M : hM} {q : hQ} {a1 : Int} {a2 : Int} (h : INV M q) (w1 : okW a1) (w2 : okW a2) : OH z M (m_L_attack (hp z M) z (jI a1) (jI a2) (z + 148)) (rAttack q a1 a2) := by
  unfold m_L_attack
  exact help_B (C_attack h.1 h.2.2 w1 w2) (rAttack_o h.2.2) (hhA rAttack_c)
theorem rWeak_c {q : hQ} {a1 : Int} : (rWeak q a1).1 = 0 ∨ (rWeak q a1).1 = 1 := by
  unfold rWeak
  repeat' split
  all_goals first | exact Or.inl rfl | exact Or.inr rfl
theorem rWeak_c2 {q : hQ} {a1 : Int} : 0 ≤ (rWeak q a1).1 ∧ (rWeak q a1).1 ≤ 2 := by
  rcases rWeak_c (q := q) (a1 := a1) with h | h <;> omega
theorem rWeak_o {q : hQ} {a1 : Int} (ho : okQ q) : okQ (rWeak q a1).2.2 := by
  unfold rWeak
  repeat' split
  all_goals exact ho
theorem L_weak {z : Nat} {M : hM} {q : hQ} {a1 : Int} (h : INV M q) (w1 : okW a1) : OH z M (m_L_weakPoints (hp z M) z (jI a1) (z + 148)) (rWeak q a1) := by
  unfold m_L_weakPoints
  exact help_B (C_weak h.1 h.2.2 w1) (rWeak_o h.2.2) (hhA rWeak_c)
theorem rTimer_c {q : hQ} {a1 : Int} : (rTimer q a1).1 = 0 ∨ (rTimer q a1).1 = 1 := by
  unfold rTimer
  repeat' split
  all_goals first | exact Or.inl rfl | exact Or.inr rfl
theorem rTimer_c2 {q : hQ} {a1 : Int} : 0 ≤ (rTimer q a1).1 ∧ (rTimer q a1).1 ≤ 2 := by
  rcases rTimer_c (q := q) (a1 := a1) with h | h <;> omega
theorem rTimer_o {q : hQ} {a1 : Int} (ho : okQ q) : okQ (rTimer q a1).2.2 := by
  unfold rTimer
  repeat' split
  all_goals exact ho
theorem L_timer {z : Nat} {M : hM} {q : hQ} {a1 : Int} (h : INV M q) (w1 : okW a1) : OH z M (m_L_timerFor (hp z M) z (jI a1) (z + 148)) (rTimer q a1) := by
  unfold m_L_timerFor
  exact help_B (C_timer h.1 h.2.2 w1) (rTimer_o h.2.2) (hhA rTimer_c)
theorem rAdd_c {q : hQ} {a1 : Int} {a2 : Int} {a3 : Int} : (rAdd q a1 a2 a3).1 = 0 ∨ (rAdd q a1 a2 a3).1 = 1 ∨ (rAdd q a1 a2 a3).1 = 2 := by
  unfold rAdd
  repeat' split
  all_goals first | exact Or.inl rfl | exact Or.inr (Or.inl rfl) | exact Or.inr (Or.inr rfl)
theorem rAdd_c2 {q : hQ} {a1 : Int} {a2 : Int} {a3 : Int} : 0 ≤ (rAdd q a1 a2 a3).1 ∧ (rAdd q a1 a2 a3).1 ≤ 2 := by
  rcases rAdd_c (q := q) (a1 := a1) (a2 := a2) (a3 := a3) with h | h | h <;> omega
theorem L_add {z : Nat} {M : hM} {q : hQ} {a1 : Int} {a2 : Int} {a3 : Int} (h : INV M q) (w1 : okW a1) (w2 : okW a2) (w3 : okW a3) : OH z M (m_L_addFault (hp z M) z (jI a1) (jI a2) (jI a3) (z + 148)) (rAdd q a1 a2 a3) := by
  unfold m_L_addFault
  exact help_B (C_add h.1 h.2.2 w1 w2 w3) (okQ_add h.2.2) (hhS rAdd_c)
theorem rRem_c {q : hQ} {a1 : Int} : (rRem q a1).1 = 0 ∨ (rRem q a1).1 = 1 := by
  unfold rRem
  repeat' split
  all_goals first | exact Or.inl rfl | exact Or.inr rfl
theorem rRem_c2 {q : hQ} {a1 : Int} : 0 ≤ (rRem q a1).1 ∧ (rRem q a1).1 ≤ 2 := by
  rcases rRem_c (q := q) (a1 := a1) with h | h <;> omega
theorem L_rem {z : Nat} {M : hM} {q : hQ} {a1 : Int} (h : INV M q) (w1 : okW a1) : OH z M (m_L_removeFault (hp z M) z (jI a1) (z + 148)) (rRem q a1) := by
  unfold m_L_removeFault
  exact help_B (C_rem h.1 h.2.2 w1) (okQ_rem h.2.2) (hhO rRem_c)
theorem rSet_c {q : hQ} {a1 : Int} {a2 : Int} : (rSet q a1 a2).1 = 0 ∨ (rSet q a1 a2).1 = 1 := by
  unfold rSet
  repeat' split
  all_goals first | exact Or.inl rfl | exact Or.inr rfl
theorem rSet_c2 {q : hQ} {a1 : Int} {a2 : Int} : 0 ≤ (rSet q a1 a2).1 ∧ (rSet q a1 a2).1 ≤ 2 := by
  rcases rSet_c (q := q) (a1 := a1) (a2 := a2) with h | h <;> omega
theorem L_set {z : Nat} {M : hM} {q : hQ} {a1 : Int} {a2 : Int} (h : INV M q) (w1 : okW a1) (w2 : okW a2) : OH z M (m_L_set (hp z M) z (jI a1) (jI a2) (z + 148)) (rSet q a1 a2) := by
  unfold m_L_set
  exact help_B (C_set h.1 h.2.2 w1 w2) (okQ_set h.2.2) (hhA rSet_c)
theorem rShrink_c {q : hQ} {a1 : Int} : (rShrink q a1).1 = 0 ∨ (rShrink q a1).1 = 1 ∨ (rShrink q a1).1 = 2 := by
  unfold rShrink
  repeat' split
  all_goals first | exact Or.inl rfl | exact Or.inr (Or.inl rfl) | exact Or.inr (Or.inr rfl)
theorem rShrink_c2 {q : hQ} {a1 : Int} : 0 ≤ (rShrink q a1).1 ∧ (rShrink q a1).1 ≤ 2 := by
  rcases rShrink_c (q := q) (a1 := a1) with h | h | h <;> omega
theorem L_shrink {z : Nat} {M : hM} {q : hQ} {a1 : Int} (h : INV M q) (w1 : okW a1) : OH z M (m_L_shrink (hp z M) z (jI a1) (z + 148)) (rShrink q a1) := by
  unfold m_L_shrink
  exact help_B (C_shrink h.1 h.2.2 w1) (okQ_shrink h.2.2) (hhS rShrink_c)
theorem rRest_c {q : hQ} {a1 : Int} : (rRest q a1).1 = 0 ∨ (rRest q a1).1 = 1 ∨ (rRest q a1).1 = 2 := by
  unfold rRest
  repeat' split
  all_goals first | exact Or.inl rfl | exact Or.inr (Or.inl rfl) | exact Or.inr (Or.inr rfl)
theorem rRest_c2 {q : hQ} {a1 : Int} : 0 ≤ (rRest q a1).1 ∧ (rRest q a1).1 ≤ 2 := by
  rcases rRest_c (q := q) (a1 := a1) with h | h | h <;> omega
theorem L_rest {z : Nat} {M : hM} {q : hQ} {a1 : Int} (h : INV M q) (w1 : okW a1) : OH z M (m_L_restoreSnapshot (hp z M) z (jI a1) (z + 148)) (rRest q a1) := by
  unfold m_L_restoreSnapshot
  exact help_B (C_rest h.1 h.2.2 w1) (okQ_rest h.2.2) (hhT rRest_c)
theorem rBreaks_c {q : hQ} {a1 : Int} : (rBreaks q a1).1 = 0 ∨ (rBreaks q a1).1 = 1 := by
  unfold rBreaks
  repeat' split
  all_goals first | exact Or.inl rfl | exact Or.inr rfl
theorem rBreaks_c2 {q : hQ} {a1 : Int} : 0 ≤ (rBreaks q a1).1 ∧ (rBreaks q a1).1 ≤ 2 := by
  rcases rBreaks_c (q := q) (a1 := a1) with h | h <;> omega
theorem rBreaks_o {q : hQ} {a1 : Int} (ho : okQ q) : okQ (rBreaks q a1).2.2 := by
  unfold rBreaks
  repeat' split
  all_goals exact ho
theorem rBreaks_b {q : hQ} {a1 : Int} : (rBreaks q a1).1 = 0 → (rBreaks q a1).2.1 = 0 ∨ (rBreaks q a1).2.1 = 1 := by
  unfold rBreaks
  repeat' split
  all_goals first | exact fun _ => b2i_w | exact fun _ => Or.inl rfl
theorem L_breaks {z : Nat} {M : hM} {q : hQ} {a1 : Int} (h : INV M q) (w1 : okW a1) : OH z M (m_L_breaks (hp z M) z (jI a1) (z + 148)) (rBreaks q a1) := by
  unfold m_L_breaks
  exact help_C (C_breaks h.1 h.2.2 w1) (rBreaks_o h.2.2) rBreaks_b (hhA rBreaks_c)
theorem rMatters_c {q : hQ} {a1 : Int} {a2 : Int} : (rMatters q a1 a2).1 = 0 ∨ (rMatters q a1 a2).1 = 1 ∨ (rMatters q a1 a2).1 = 2 := by
  unfold rMatters
  repeat' split
  all_goals first | exact Or.inl rfl | exact Or.inr (Or.inl rfl) | exact Or.inr (Or.inr rfl)
theorem rMatters_c2 {q : hQ} {a1 : Int} {a2 : Int} : 0 ≤ (rMatters q a1 a2).1 ∧ (rMatters q a1 a2).1 ≤ 2 := by
  rcases rMatters_c (q := q) (a1 := a1) (a2 := a2) with h | h | h <;> omega
theorem rMatters_o {q : hQ} {a1 : Int} {a2 : Int} (ho : okQ q) : okQ (rMatters q a1 a2).2.2 := by
  unfold rMatters
  repeat' split
  all_goals exact ho
theorem rMatters_b {q : hQ} {a1 : Int} {a2 : Int} : (rMatters q a1 a2).1 = 0 → (rMatters q a1 a2).2.1 = 0 ∨ (rMatters q a1 a2).2.1 = 1 := by
  unfold rMatters
  repeat' split
  all_goals first | exact fun _ => b2i_w | exact fun _ => Or.inl rfl
theorem L_matters {z : Nat} {M : hM} {q : hQ} {a1 : Int} {a2 : Int} (h : INV M q) (w1 : okW a1) (w2 : okW a2) : OH z M (m_L_matters (hp z M) z (jI a1) (jI a2) (z + 148)) (rMatters q a1 a2) := by
  unfold m_L_matters
  exact help_C (C_matters h.1 h.2.2 w1 w2) (rMatters_o h.2.2) rMatters_b (hhX rMatters_c)
theorem rSave_c {q : hQ} {a1 : Int} : (rSave q a1).1 = 0 ∨ (rSave q a1).1 = 1 := by
  unfold rSave
  repeat' split
  all_goals first | exact Or.inl rfl | exact Or.inr rfl
theorem rSave_c2 {q : hQ} {a1 : Int} : 0 ≤ (rSave q a1).1 ∧ (rSave q a1).1 ≤ 2 := by
  rcases rSave_c (q := q) (a1 := a1) with h | h <;> omega
theorem rSave_b {q : hQ} {a1 : Int} : (rSave q a1).1 = 0 → (rSave q a1).2.1 = 0 ∨ (rSave q a1).2.1 = 1 := by
  unfold rSave
  repeat' split
  all_goals first | exact fun _ => b2i_w | exact fun _ => Or.inl rfl
theorem L_save {z : Nat} {M : hM} {q : hQ} {a1 : Int} (h : INV M q) (w1 : okW a1) : OH z M (m_L_saveSnapshot (hp z M) z (jI a1) (z + 148)) (rSave q a1) := by
  unfold m_L_saveSnapshot
  exact help_C (C_save h.1 h.2.2 w1) (okQ_save h.2.2) rSave_b (hhO rSave_c)
theorem law_step {xs : Nat → Int32} {L i f z : Nat} {M : hM} {q : hQ} (hL : L ≤ 3072) (hi : i + 6 ≤ L) (h : INV M q) :
    ∃ M' q', m_L_law_l23 xs L (f + 1) (hp z M) z (z + 133) (z + 148) (jI i) = m_L_law_l23 xs L f (hp z M') z (z + 133) (z + 148) (jI (i + 6 : Nat)) ∧ INV M' q' := by
  have e6 : jI (i : Int) + 6 = jI ((i + 6 : Nat) : Int) := by rw [ji6, jI_add]; rfl
  have m0 : ∀ F : Int32 → Option (Unit × ac_H), mo_s xs L (jI i) F = F (xs i) := fun F => mo_s_j (by omega) hL
  have m1 : ∀ F : Int32 → Option (Unit × ac_H), mo_s xs L (jI i + (1 : Int32)) F = F (xs (i + 1)) := fun F => ms 1 (by omega) hL
  have m2 : ∀ F : Int32 → Option (Unit × ac_H), mo_s xs L (jI i + (2 : Int32)) F = F (xs (i + 2)) := fun F => ms 2 (by omega) hL
  have m3 : ∀ F : Int32 → Option (Unit × ac_H), mo_s xs L (jI i + (3 : Int32)) F = F (xs (i + 3)) := fun F => ms 3 (by omega) hL
  have m4 : ∀ F : Int32 → Option (Unit × ac_H), mo_s xs L (jI i + (4 : Int32)) F = F (xs (i + 4)) := fun F => ms 4 (by omega) hL
  have m5 : ∀ F : Int32 → Option (Unit × ac_H), mo_s xs L (jI i + (5 : Int32)) F = F (xs (i + 5)) := fun F => ms 5 (by omega) hL
  obtain ⟨a1, w1, x1⟩ : ∃ a : Int, okW a ∧ xs (i + 1) = jI a := ⟨_, okW_x (xs (i + 1)), (jI_of _).symm⟩
  obtain ⟨a2, w2, x2⟩ : ∃ a : Int, okW a ∧ xs (i + 2) = jI a := ⟨_, okW_x (xs (i + 2)), (jI_of _).symm⟩
  obtain ⟨a3, w3, x3⟩ : ∃ a : Int, okW a ∧ xs (i + 3) = jI a := ⟨_, okW_x (xs (i + 3)), (jI_of _).symm⟩
  have c0 : ¬ ((Int32.ofNat L) - (6 : Int32)) < jI (i : Int) := by
    rw [← jI_nat, ji6, jI_sub, jI_lt (by omega) (by omega) (by omega) (by omega)]; omega
  rw [m_L_law_l23, if_neg c0, m0]
  by_cases op0 : xs i &&& (31 : Int32) = (0 : Int32)
  · rw [if_pos op0]
    simp only [m1, m2, m3, m4, m5, e6]
    obtain ⟨M', e, inv⟩ := law_A (f6 := fun σ => m_X6_append σ z (xs (i + 1)) (xs (i + 2)) (xs (i + 3)) (xs (i + 4)) (xs (i + 5))) (f7 := fun σ => m_X7_append σ (z + 133) (xs (i + 1)) (xs (i + 2)) (xs (i + 3)) (xs (i + 4)) (xs (i + 5))) (K := fun σ => m_L_law_l23 xs L f σ z (z + 133) (z + 148) (jI (i + 6 : Nat))) (r := rAppend q (xs (i + 1)) (xs (i + 2)) (xs (i + 3)) (xs (i + 4)) (xs (i + 5))) h (by unfold rAppend; split <;> rfl) (okQ_append h.2.2) (C_append h.1 h.2.2) (fun M1 m => M_append m h.2.2)
    exact ⟨M', _, e, inv⟩
  rw [if_neg op0]
  by_cases op1 : xs i &&& (31 : Int32) = (1 : Int32)
  · rw [if_pos op1]
    simp only [m1, e6, x1]
    obtain ⟨M', e, inv⟩ := law_B (f7 := fun σ => m_X7_parse σ (z + 133) (jI a1)) (K := fun σ => m_L_law_l23 xs L f σ z (z + 133) (z + 148) (jI (i + 6 : Nat))) (r := rParse q a1) h rParse_c2 (okQ_parse h.2.2) (L_parse (z := z) h w1) (fun M1 m => M_parse m h.2.2 w1)
    exact ⟨M', _, e, inv⟩
  rw [if_neg op1]
  by_cases op2 : xs i &&& (31 : Int32) = (2 : Int32)
  · rw [if_pos op2]
    simp only [e6]
    obtain ⟨M', e, inv⟩ := law_A (f6 := fun σ => m_X6_errorPosition σ z ) (f7 := fun σ => m_X7_errorPosition σ (z + 133) ) (K := fun σ => m_L_law_l23 xs L f σ z (z + 133) (z + 148) (jI (i + 6 : Nat))) (r := rErr q) h rfl (h.2.2) (C_err h.1) (fun M1 m => M_err m)
    exact ⟨M', _, e, inv⟩
  rw [if_neg op2]
  by_cases op3 : xs i &&& (31 : Int32) = (3 : Int32)
  · rw [if_pos op3]
    simp only [m1, e6, x1]
    obtain ⟨M', e, inv⟩ := law_B (f7 := fun σ => m_X7_size σ (z + 133) (jI a1)) (K := fun σ => m_L_law_l23 xs L f σ z (z + 133) (z + 148) (jI (i + 6 : Nat))) (r := rSize q a1) h rSize_c2 (rSize_o h.2.2) (L_size (z := z) h w1) (fun M1 m => M_size m h.2.2 w1)
    exact ⟨M', _, e, inv⟩
  rw [if_neg op3]
  by_cases op4 : xs i &&& (31 : Int32) = (4 : Int32)
  · rw [if_pos op4]
    simp only [m1, m2, e6, x1, x2]
    obtain ⟨M', e, inv⟩ := law_B (f7 := fun σ => m_X7_fault σ (z + 133) (jI a1) (jI a2)) (K := fun σ => m_L_law_l23 xs L f σ z (z + 133) (z + 148) (jI (i + 6 : Nat))) (r := rFault q a1 a2) h rFault_c2 (rFault_o h.2.2) (L_fault (z := z) h w1 w2) (fun M1 m => M_fault m h.2.2 w1 w2)
    exact ⟨M', _, e, inv⟩
  rw [if_neg op4]
  by_cases op5 : xs i &&& (31 : Int32) = (5 : Int32)
  · rw [if_pos op5]
    simp only [m1, e6, x1]
    obtain ⟨M', e, inv⟩ := law_B (f7 := fun σ => m_X7_result σ (z + 133) (jI a1)) (K := fun σ => m_L_law_l23 xs L f σ z (z + 133) (z + 148) (jI (i + 6 : Nat))) (r := rResult q a1) h rResult_c2 (rResult_o h.2.2) (L_result (z := z) h w1) (fun M1 m => M_result m h.2.2 w1)
    exact ⟨M', _, e, inv⟩
  rw [if_neg op5]
  by_cases op6 : xs i &&& (31 : Int32) = (6 : Int32)
  · rw [if_pos op6]
    simp only [m1, e6, x1]
    obtain ⟨M', e, inv⟩ := law_A (f6 := fun σ => m_X6_delivered σ z (jI a1)) (f7 := fun σ => m_X7_delivered σ (z + 133) (jI a1)) (K := fun σ => m_L_law_l23 xs L f σ z (z + 133) (z + 148) (jI (i + 6 : Nat))) (r := rDelivered q a1) h rfl (h.2.2) (C_delivered h.1 h.2.2 w1) (fun M1 m => M_delivered m h.2.2 w1)
    exact ⟨M', _, e, inv⟩
  rw [if_neg op6]
  by_cases op7 : xs i &&& (31 : Int32) = (7 : Int32)
  · rw [if_pos op7]
    simp only [m1, m2, e6, x1, x2]
    obtain ⟨M', e, inv⟩ := law_B (f7 := fun σ => m_X7_sent σ (z + 133) (jI a1) (jI a2)) (K := fun σ => m_L_law_l23 xs L f σ z (z + 133) (z + 148) (jI (i + 6 : Nat))) (r := rSent q a1 a2) h rSent_c2 (rSent_o h.2.2) (L_sent (z := z) h w1 w2) (fun M1 m => M_sent m h.2.2 w1 w2)
    exact ⟨M', _, e, inv⟩
  rw [if_neg op7]
  by_cases op8 : xs i &&& (31 : Int32) = (8 : Int32)
  · rw [if_pos op8]
    simp only [m1, e6, x1]
    obtain ⟨M', e, inv⟩ := law_C (J := fun σ a b => m_L_law_j633 (fun ρ y0 y1 y2 y3 => m_L_law_l23 xs L f ρ y0 y1 y2 y3) xs L σ z (z + 133) (z + 148) (jI i) a b) (f7 := fun σ => m_X7_breaks σ (z + 133) (jI a1)) (K := fun σ => m_L_law_l23 xs L f σ z (z + 133) (z + 148) (jI (i + 6 : Nat))) (r := rBreaks q a1) (fun σ a b => by unfold m_L_law_j633; rw [e6]) h rBreaks_c2 rBreaks_b (rBreaks_o h.2.2) (L_breaks (z := z) h w1) (fun M1 m => M_breaks m h.2.2 w1)
    exact ⟨M', _, e, inv⟩
  rw [if_neg op8]
  by_cases op9 : xs i &&& (31 : Int32) = (9 : Int32)
  · rw [if_pos op9]
    simp only [m1, m2, e6, x1, x2]
    obtain ⟨M', e, inv⟩ := law_A (f6 := fun σ => m_X6_reaches σ z (jI a1) (jI a2)) (f7 := fun σ => m_X7_reaches σ (z + 133) (jI a1) (jI a2)) (K := fun σ => m_L_law_l23 xs L f σ z (z + 133) (z + 148) (jI (i + 6 : Nat))) (r := rReaches q a1 a2) h rfl (h.2.2) (C_reaches h.1 h.2.2 w1 w2) (fun M1 m => M_reaches m h.2.2 w1 w2)
    exact ⟨M', _, e, inv⟩
  rw [if_neg op9]
  by_cases op10 : xs i &&& (31 : Int32) = (10 : Int32)
  · rw [if_pos op10]
    simp only [m1, m2, e6, x1, x2]
    obtain ⟨M', e, inv⟩ := law_C (J := fun σ a b => m_L_law_j745 (fun ρ y0 y1 y2 y3 => m_L_law_l23 xs L f ρ y0 y1 y2 y3) xs L σ z (z + 133) (z + 148) (jI i) a b) (f7 := fun σ => m_X7_matters σ (z + 133) (jI a1) (jI a2)) (K := fun σ => m_L_law_l23 xs L f σ z (z + 133) (z + 148) (jI (i + 6 : Nat))) (r := rMatters q a1 a2) (fun σ a b => by unfold m_L_law_j745; rw [e6]) h rMatters_c2 rMatters_b (rMatters_o h.2.2) (L_matters (z := z) h w1 w2) (fun M1 m => M_matters m h.2.2 w1 w2)
    exact ⟨M', _, e, inv⟩
  rw [if_neg op10]
  by_cases op11 : xs i &&& (31 : Int32) = (11 : Int32)
  · rw [if_pos op11]
    simp only [m1, e6, x1]
    obtain ⟨M', e, inv⟩ := law_B (f7 := fun σ => m_X7_smallest σ (z + 133) (jI a1)) (K := fun σ => m_L_law_l23 xs L f σ z (z + 133) (z + 148) (jI (i + 6 : Nat))) (r := rSmallest q a1) h rSmallest_c2 (rSmallest_o h.2.2) (L_smallest (z := z) h w1) (fun M1 m => M_smallest m h.2.2 w1)
    exact ⟨M', _, e, inv⟩
  rw [if_neg op11]
  by_cases op12 : xs i &&& (31 : Int32) = (12 : Int32)
  · rw [if_pos op12]
    simp only [m1, e6, x1]
    obtain ⟨M', e, inv⟩ := law_B (f7 := fun σ => m_X7_core σ (z + 133) (jI a1)) (K := fun σ => m_L_law_l23 xs L f σ z (z + 133) (z + 148) (jI (i + 6 : Nat))) (r := rCore q a1) h rCore_c2 (rCore_o h.2.2) (L_core (z := z) h w1) (fun M1 m => M_core m h.2.2 w1)
    exact ⟨M', _, e, inv⟩
  rw [if_neg op12]
  by_cases op13 : xs i &&& (31 : Int32) = (13 : Int32)
  · rw [if_pos op13]
    simp only [m1, m2, e6, x1, x2]
    obtain ⟨M', e, inv⟩ := law_B (f7 := fun σ => m_X7_leastAmount σ (z + 133) (jI a1) (jI a2)) (K := fun σ => m_L_law_l23 xs L f σ z (z + 133) (z + 148) (jI (i + 6 : Nat))) (r := rLeast q a1 a2) h rLeast_c2 (rLeast_o h.2.2) (L_least (z := z) h w1 w2) (fun M1 m => M_least m h.2.2 w1 w2)
    exact ⟨M', _, e, inv⟩
  rw [if_neg op13]
  by_cases op14 : xs i &&& (31 : Int32) = (14 : Int32)
  · rw [if_pos op14]
    simp only [m1, m2, e6, x1, x2]
    obtain ⟨M', e, inv⟩ := law_B (f7 := fun σ => m_X7_attack σ (z + 133) (jI a1) (jI a2)) (K := fun σ => m_L_law_l23 xs L f σ z (z + 133) (z + 148) (jI (i + 6 : Nat))) (r := rAttack q a1 a2) h rAttack_c2 (rAttack_o h.2.2) (L_attack (z := z) h w1 w2) (fun M1 m => M_attack m h.2.2 w1 w2)
    exact ⟨M', _, e, inv⟩
  rw [if_neg op14]
  by_cases op15 : xs i &&& (31 : Int32) = (15 : Int32)
  · rw [if_pos op15]
    simp only [m1, e6, x1]
    obtain ⟨M', e, inv⟩ := law_B (f7 := fun σ => m_X7_weakPoints σ (z + 133) (jI a1)) (K := fun σ => m_L_law_l23 xs L f σ z (z + 133) (z + 148) (jI (i + 6 : Nat))) (r := rWeak q a1) h rWeak_c2 (rWeak_o h.2.2) (L_weak (z := z) h w1) (fun M1 m => M_weak m h.2.2 w1)
    exact ⟨M', _, e, inv⟩
  rw [if_neg op15]
  by_cases op16 : xs i &&& (31 : Int32) = (16 : Int32)
  · rw [if_pos op16]
    simp only [m1, e6, x1]
    obtain ⟨M', e, inv⟩ := law_B (f7 := fun σ => m_X7_timerFor σ (z + 133) (jI a1)) (K := fun σ => m_L_law_l23 xs L f σ z (z + 133) (z + 148) (jI (i + 6 : Nat))) (r := rTimer q a1) h rTimer_c2 (rTimer_o h.2.2) (L_timer (z := z) h w1) (fun M1 m => M_timer m h.2.2 w1)
    exact ⟨M', _, e, inv⟩
  rw [if_neg op16]
  by_cases op17 : xs i &&& (31 : Int32) = (17 : Int32)
  · rw [if_pos op17]
    simp only [m1, m2, e6, x1, x2]
    obtain ⟨M', e, inv⟩ := law_A (f6 := fun σ => m_X6_isRecorded σ z (jI a1) (jI a2)) (f7 := fun σ => m_X7_isRecorded σ (z + 133) (jI a1) (jI a2)) (K := fun σ => m_L_law_l23 xs L f σ z (z + 133) (z + 148) (jI (i + 6 : Nat))) (r := rIsRec q a1 a2) h rfl (h.2.2) (C_isRec h.1 h.2.2 w1 w2) (fun M1 m => M_isRec m h.2.2 w1 w2)
    exact ⟨M', _, e, inv⟩
  rw [if_neg op17]
  by_cases op18 : xs i &&& (31 : Int32) = (18 : Int32)
  · rw [if_pos op18]
    simp only [m1, m2, m3, e6, x1, x2, x3]
    obtain ⟨M', e, inv⟩ := law_B (f7 := fun σ => m_X7_addFault σ (z + 133) (jI a1) (jI a2) (jI a3)) (K := fun σ => m_L_law_l23 xs L f σ z (z + 133) (z + 148) (jI (i + 6 : Nat))) (r := rAdd q a1 a2 a3) h rAdd_c2 (okQ_add h.2.2) (L_add (z := z) h w1 w2 w3) (fun M1 m => M_add m h.2.2 w1 w2 w3)
    exact ⟨M', _, e, inv⟩
  rw [if_neg op18]
  by_cases op19 : xs i &&& (31 : Int32) = (19 : Int32)
  · rw [if_pos op19]
    simp only [m1, e6, x1]
    obtain ⟨M', e, inv⟩ := law_B (f7 := fun σ => m_X7_removeFault σ (z + 133) (jI a1)) (K := fun σ => m_L_law_l23 xs L f σ z (z + 133) (z + 148) (jI (i + 6 : Nat))) (r := rRem q a1) h rRem_c2 (okQ_rem h.2.2) (L_rem (z := z) h w1) (fun M1 m => M_rem m h.2.2 w1)
    exact ⟨M', _, e, inv⟩
  rw [if_neg op19]
  by_cases op20 : xs i &&& (31 : Int32) = (20 : Int32)
  · rw [if_pos op20]
    simp only [e6]
    obtain ⟨M', e, inv⟩ := law_A (f6 := fun σ => m_X6_clearFaults σ z ) (f7 := fun σ => m_X7_clearFaults σ (z + 133) ) (K := fun σ => m_L_law_l23 xs L f σ z (z + 133) (z + 148) (jI (i + 6 : Nat))) (r := rClear q) h rfl (okQ_clear h.2.2) (C_clear h.1 h.2.2) (fun M1 m => M_clear m h.2.2)
    exact ⟨M', _, e, inv⟩
  rw [if_neg op20]
  by_cases op21 : xs i &&& (31 : Int32) = (21 : Int32)
  · rw [if_pos op21]
    simp only [m1, m2, e6, x1, x2]
    obtain ⟨M', e, inv⟩ := law_B (f7 := fun σ => m_X7_set σ (z + 133) (jI a1) (jI a2)) (K := fun σ => m_L_law_l23 xs L f σ z (z + 133) (z + 148) (jI (i + 6 : Nat))) (r := rSet q a1 a2) h rSet_c2 (okQ_set h.2.2) (L_set (z := z) h w1 w2) (fun M1 m => M_set m h.2.2 w1 w2)
    exact ⟨M', _, e, inv⟩
  rw [if_neg op21]
  by_cases op22 : xs i &&& (31 : Int32) = (22 : Int32)
  · rw [if_pos op22]
    simp only [m1, e6, x1]
    obtain ⟨M', e, inv⟩ := law_B (f7 := fun σ => m_X7_shrink σ (z + 133) (jI a1)) (K := fun σ => m_L_law_l23 xs L f σ z (z + 133) (z + 148) (jI (i + 6 : Nat))) (r := rShrink q a1) h rShrink_c2 (okQ_shrink h.2.2) (L_shrink (z := z) h w1) (fun M1 m => M_shrink m h.2.2 w1)
    exact ⟨M', _, e, inv⟩
  rw [if_neg op22]
  by_cases op23 : xs i &&& (31 : Int32) = (23 : Int32)
  · rw [if_pos op23]
    simp only [e6]
    obtain ⟨M', e, inv⟩ := law_A (f6 := fun σ => m_X6_record σ z ) (f7 := fun σ => m_X7_record σ (z + 133) ) (K := fun σ => m_L_law_l23 xs L f σ z (z + 133) (z + 148) (jI (i + 6 : Nat))) (r := rRecord q) h rfl (okQ_record h.2.2) (C_record h.1 h.2.2) (fun M1 m => M_record m h.2.2)
    exact ⟨M', _, e, inv⟩
  rw [if_neg op23]
  by_cases op24 : xs i &&& (31 : Int32) = (24 : Int32)
  · rw [if_pos op24]
    simp only [e6]
    obtain ⟨M', e, inv⟩ := law_A (f6 := fun σ => m_X6_undo σ z ) (f7 := fun σ => m_X7_undo σ (z + 133) ) (K := fun σ => m_L_law_l23 xs L f σ z (z + 133) (z + 148) (jI (i + 6 : Nat))) (r := rUndo q) h (by unfold rUndo; split <;> rfl) (okQ_undo h.2.2) (C_undo h.1 h.2.2) (fun M1 m => M_undo m h.2.2)
    exact ⟨M', _, e, inv⟩
  rw [if_neg op24]
  by_cases op25 : xs i &&& (31 : Int32) = (25 : Int32)
  · rw [if_pos op25]
    simp only [m1, e6, x1]
    obtain ⟨M', e, inv⟩ := law_C (J := fun σ a b => m_L_law_j1504 (fun ρ y0 y1 y2 y3 => m_L_law_l23 xs L f ρ y0 y1 y2 y3) xs L σ z (z + 133) (z + 148) (jI i) a b) (f7 := fun σ => m_X7_saveSnapshot σ (z + 133) (jI a1)) (K := fun σ => m_L_law_l23 xs L f σ z (z + 133) (z + 148) (jI (i + 6 : Nat))) (r := rSave q a1) (fun σ a b => by unfold m_L_law_j1504; rw [e6]) h rSave_c2 rSave_b (okQ_save h.2.2) (L_save (z := z) h w1) (fun M1 m => M_save m h.2.2 w1)
    exact ⟨M', _, e, inv⟩
  rw [if_neg op25]
  by_cases op26 : xs i &&& (31 : Int32) = (26 : Int32)
  · rw [if_pos op26]
    simp only [m1, e6, x1]
    obtain ⟨M', e, inv⟩ := law_B (f7 := fun σ => m_X7_restoreSnapshot σ (z + 133) (jI a1)) (K := fun σ => m_L_law_l23 xs L f σ z (z + 133) (z + 148) (jI (i + 6 : Nat))) (r := rRest q a1) h rRest_c2 (okQ_rest h.2.2) (L_rest (z := z) h w1) (fun M1 m => M_rest m h.2.2 w1)
    exact ⟨M', _, e, inv⟩
  rw [if_neg op26]
  exact ⟨M, q, by rw [e6], h⟩
theorem law_loop {xs : Nat → Int32} {L z : Nat} (hL : L ≤ 3072) : ∀ (f i : Nat) (M : hM) (q : hQ), i ≤ L → L + 6 < i + 6 * f → INV M q →
    ∃ σ', m_L_law_l23 xs L f (hp z M) z (z + 133) (z + 148) (jI i) = some ((), σ') := by
  intro f
  induction f with
  | zero => intro i M q hi hf h; omega
  | succ f ih =>
    intro i M q hi hf h
    by_cases g : i + 6 ≤ L
    · obtain ⟨M', q', e, h'⟩ := law_step (xs := xs) (f := f) (z := z) hL g h
      rw [e]
      exact ih (i + 6) M' q' g (by omega) h'
    · refine ⟨hp z M, ?_⟩
      rw [m_L_law_l23, if_pos]
      rw [← jI_nat, ji6, jI_sub, jI_lt (by omega) (by omega) (by omega) (by omega)]
      omega

/-! THE LAW: every state stays in bounds; a call of both sides. -/
theorem okQ_add {q : hQ} {kd nm am : Int} (ho : okQ q) : okQ (rAdd q kd nm am).2.2 := by
  unfold rAdd
  split
  · next g =>
    split
    · next g2 => exact okQ_chg ho ⟨ho.1.1.ins plc_in g2.2 (okA_F g), ho.1.2⟩
    · exact ho
  · exact ho
theorem okQ_rem {q : hQ} {f : Int} (ho : okQ q) : okQ (rRem q f).2.2 := by
  unfold rRem
  split
  · exact okQ_chg ho ⟨ho.1.1.era _, ho.1.2⟩
  · exact ho
theorem okQ_clear {q : hQ} (ho : okQ q) : okQ (rClear q).2.2 := okQ_chg ho ⟨ho.1.1.nil, ho.1.2⟩
theorem okQ_set {q : hQ} {w v : Int} (ho : okQ q) : okQ (rSet q w v).2.2 := by
  unfold rSet
  split
  · next g => exact okQ_chg ho ⟨ho.1.1.set g.1 g.2, ho.1.2⟩
  · exact ho
theorem okQ_shrink {q : hQ} {p : Int} (ho : okQ q) : okQ (rShrink q p).2.2 := by
  unfold rShrink
  split
  · split
    · exact ho
    · exact okQ_chg ho ⟨shrL_ok _ _ _ (okC_prt0 ho.1.1 _), ho.1.2⟩
  · exact ho
theorem okQ_record {q : hQ} (ho : okQ q) : okQ (rRecord q).2.2 := okQ_chg ho (okU_rec ho)
theorem okQ_undo {q : hQ} (ho : okQ q) : okQ (rUndo q).2.2 := by
  unfold rUndo
  split
  · exact ho
  · next u hu =>
    exact ⟨ho.2.1 u (List.mem_of_getLast? hu), fun v hv => ho.2.1 v ((List.dropLast_sublist q.2.1).subset hv), by have := ho.2.2.1; simp only [List.length_dropLast]; omega, ho.2.2.2⟩
theorem okQ_save {q : hQ} {s : Int} (ho : okQ q) : okQ (rSave q s).2.2 := by
  unfold rSave
  split
  · refine ⟨ho.1, ho.2.1, ho.2.2.1, fun i u hi hu => ?_, ho.2.2.2.2⟩
    have hu' : slS q.2.2.1 s.toNat q.1 i = some u := hu
    by_cases e : i = s.toNat
    · subst e; rw [slS1] at hu'; cases hu'; exact ho.1
    · rw [slS0 e] at hu'; exact ho.2.2.2.1 i u hi hu'
  · exact ho
theorem okQ_rest {q : hQ} {s : Int} (ho : okQ q) : okQ (rRest q s).2.2 := by
  unfold rRest
  split
  · next g =>
    split
    · exact ho
    · next u hu => exact ⟨ho.2.2.2.1 s.toNat u (by omega) hu, by simp, by simp, ho.2.2.2⟩
  · exact ho
theorem okW_x (x : Int32) : okW x.toInt := ⟨Int32.le_toInt x, Int32.toInt_lt x⟩


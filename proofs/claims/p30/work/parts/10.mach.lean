/-! THE ABSTRACT CONFIGURATION: a heap of abstract cells by their addresses, a program counter, listed locals, a stack; every row moves it by one instruction. Own words: ac_, ex_, kx_. -/
/-- an abstract cell: an array (its kind, its length and contents) or an object (its class by its place in vwCl, its fields) -/
abbrev ac_E : Type := (Nat × vp_A) ⊕ (Nat × List Value)
abbrev ac_H : Type := Nat → Option ac_E
def ac_e (ct : Nat → ClassId) (e : ac_E) : va_E := match e with
  | .inl q => .inl (ct q.1, q.2)
  | .inr q => .inr q
def ac_up (σ : ac_H) (a : Nat) (e : ac_E) : ac_H := fun q => if q = a then some e else σ q
/-- what stays through the whole run: the launch, where classes and fields lie, the array classes by their kinds (0 int, 1 byte, 2 boolean, 3 long, 4 Bench), the first address of the law's own cells, the addresses of the tables and of the String constants -/
abbrev ex_L : Type := Launch × va_G × (Nat → ClassId) × Nat × (Nat → Nat) × (Nat → Nat) × (Nat → Nat)
abbrev ex_l (Λ : ex_L) : Launch := Λ.1
abbrev ex_D (Λ : ex_L) : va_G := Λ.2.1
abbrev ex_c (Λ : ex_L) : Nat → ClassId := Λ.2.2.1
abbrev ex_z (Λ : ex_L) : Nat := Λ.2.2.2.1
abbrev ex_t (Λ : ex_L) : Nat → Nat := Λ.2.2.2.2.1
abbrev ex_k (Λ : ex_L) : Nat → Nat := Λ.2.2.2.2.2.1
abbrev ex_v (Λ : ex_L) : Nat → Nat := Λ.2.2.2.2.2.2
def ac_t (Λ : ex_L) : List (ClassId × FieldType) := [(ex_c Λ 0, .int), (ex_c Λ 1, .byte), (ex_c Λ 2, .boolean), (ex_c Λ 3, .int), (ex_c Λ 4, .object RX0)]
def ex_A (Λ : ex_L) : Nat → Prop := fun q => ex_z Λ ≤ q
/-- the heap holds the abstract cells -/
def ac_R (Λ : ex_L) (σ : ac_H) (H : Heap) : Prop := ∀ (a : Nat) (e : ac_E), σ a = some e → ex_z Λ ≤ a ∧ va_at (ex_D Λ) vwCl (a, ac_e (ex_c Λ) e) H
abbrev kx_T : Type := Program × Env × Room × State × MethodId × Array Value × List Frame × Method × Code × (State → Prop)
abbrev kx_p (Γ : kx_T) : Program := Γ.1
abbrev kx_e (Γ : kx_T) : Env := Γ.2.1
abbrev kx_R (Γ : kx_T) : Room := Γ.2.2.1
abbrev kx_s (Γ : kx_T) : State := Γ.2.2.2.1
abbrev kx_m (Γ : kx_T) : MethodId := Γ.2.2.2.2.1
abbrev kx_a (Γ : kx_T) : Array Value := Γ.2.2.2.2.2.1
abbrev kx_b (Γ : kx_T) : List Frame := Γ.2.2.2.2.2.2.1
abbrev kx_h (Γ : kx_T) : Method := Γ.2.2.2.2.2.2.2.1
abbrev kx_c (Γ : kx_T) : Code := Γ.2.2.2.2.2.2.2.2.1
abbrev kx_q (Γ : kx_T) : State → Prop := Γ.2.2.2.2.2.2.2.2.2
/-- from every heap that holds σ (its size as N says), at pc with these locals and this stack, the method comes to what it owes -/
def kx_S (Λ : ex_L) (Γ : kx_T) (nL : Nat) (N : Nat → Prop) (σ : ac_H) (k n : Nat) (pc : Nat) (lv : List (Nat × Value)) (st : List Value) : Prop :=
  ∀ (H : Heap) (locs : List Loc) (ls : Array Slot), ac_R Λ σ H → N H.size → va_S (ex_A Λ) (kx_s Γ).heap H locs → lv_has ls nL lv →
    W (kx_p Γ) (ex_l Λ) (kx_e Γ) (kx_R Γ) (kx_s Γ) (kx_m Γ) (kx_a Γ) (kx_b Γ) (kx_h Γ) (kx_c Γ) H locs k n (kx_q Γ) (F0 (kx_m Γ) pc ls st)
/-- the tables FIRST_VALUE, LEAST_VALUE, MOST_VALUE -/
def ac_T (i : Nat) : List Int32 := match i with
  | 0 => [0, 1, 10, 1, 8, 2, 4, 50]
  | 1 => [0, 1, 10, 1, 1, 1, 2, 1]
  | _ => [2, 8, 200, 5, 20, 4, 8, 200]
def ac_D (i j : Nat) : Int32 := if i = 0 then Int32.ofNat (48 + j % 10) else Int32.ofNat (48 + j / 10)
def ac_Dn (i : Nat) : String := match i with
  | 0 => "DigitOnes"
  | _ => "DigitTens"
def ac_Tn (i : Nat) : String := match i with
  | 0 => "FIRST_VALUE"
  | 1 => "LEAST_VALUE"
  | _ => "MOST_VALUE"
/-- the words of the texts, by their places -/
def ac_B (i : Nat) : List Int32 := match i with
  | 0 => [98, 101, 110, 99, 104]
  | 1 => [112, 108, 97, 105, 110]
  | 2 => [97, 108, 116, 101, 114, 110, 97, 116, 101]
  | 3 => [119, 105, 110, 100, 111, 119]
  | 4 => [108, 97, 116, 101, 110, 99, 121]
  | 5 => [116, 105, 109, 101, 114]
  | 6 => [115, 105, 122, 101]
  | 7 => [98, 117, 100, 103, 101, 116]
  | 8 => [100, 114, 111, 112]
  | 9 => [116, 119, 105, 99, 101]
  | 10 => [108, 97, 116, 101]
  | 11 => [98, 101, 110, 99, 104, 32]
  | 12 => [59, 108, 97, 116, 101, 110, 99, 121, 32]
  | 13 => [59, 116, 105, 109, 101, 114, 32]
  | 14 => [59, 115, 105, 122, 101, 32]
  | 15 => [59, 98, 117, 100, 103, 101, 116, 32]
  | 16 => [100, 114, 111, 112, 32]
  | 17 => [116, 119, 105, 99, 101, 32]
  | _ => [108, 97, 116, 101, 32]
def ac_Bs (i : Nat) : String := match i with
  | 0 => "bench"
  | 1 => "plain"
  | 2 => "alternate"
  | 3 => "window"
  | 4 => "latency"
  | 5 => "timer"
  | 6 => "size"
  | 7 => "budget"
  | 8 => "drop"
  | 9 => "twice"
  | 10 => "late"
  | 11 => "bench "
  | 12 => ";latency "
  | 13 => ";timer "
  | 14 => ";size "
  | 15 => ";budget "
  | 16 => "drop "
  | 17 => "twice "
  | _ => "late "
def ac_Wr (i : Nat) : String × Nat × Nat := match i with
  | 0 => (RX3, 57, 0)
  | 1 => (RX3, 117, 1)
  | 2 => (RX3, 119, 2)
  | 3 => (RX3, 121, 3)
  | 4 => (RX3, 123, 4)
  | 5 => (RX3, 125, 5)
  | 6 => (RX3, 127, 6)
  | 7 => (RX3, 129, 7)
  | 8 => (RX3, 131, 8)
  | 9 => (RX3, 133, 9)
  | 10 => (RX3, 135, 10)
  | 11 => (RL, 49, 11)
  | 12 => (RL, 56, 1)
  | 13 => (RL, 58, 2)
  | 14 => (RL, 60, 3)
  | 15 => (RL, 68, 12)
  | 16 => (RL, 70, 13)
  | 17 => (RL, 72, 14)
  | 18 => (RL, 74, 15)
  | 19 => (RL, 80, 16)
  | 20 => (RL, 85, 17)
  | _ => (RL, 90, 18)
/-- the texts of the exceptions, by class and entry -/
def ac_Xr (i : Nat) : Nat × String := match i with
  | 0 => (61, "length is out of range")
  | 1 => (96, "what is not 0 to 10")
  | 2 => (101, "part is not 0 to 2")
  | 3 => (107, "what is not 0 to 7")
  | 4 => (147, "part is not 0 to 4")
  | 5 => (203, "kind, number or amount is out of range")
  | 6 => (210, "there is such a fault, or there are 10 faults")
  | 7 => (223, "value is out of range")
  | 8 => (225, "no part of the schedule breaks the promise")
  | 9 => (244, "there is no such fault")
  | _ => (247, "there is no such promise")
/-- what no run of the law changes: tables, String constants, what the exceptions' making needs -/
def ac_Z (Λ : ex_L) (U : State) (H : Heap) : Prop :=
  ((∀ i : Nat, i < 3 → va_Z RX6 (ac_Tn i) "[I" (.ref (ex_t Λ i)) (ex_A Λ) U H ∧ va_T .int (ex_t Λ i) 8 (fun j => .int ((ac_T i).getD j 0)) (ex_A Λ) U H) ∧ (∀ i : Nat, i < 2 → va_Z "java/lang/Integer" (ac_Dn i) "[B" (.ref (ex_t Λ (3 + i))) (ex_A Λ) U H ∧ va_T .byte (ex_t Λ (3 + i)) 100 (fun j => .int (ac_D i j)) (ex_A Λ) U H)) ∧
  (∀ i : Nat, i < 19 → va_O "java/lang/String" (ex_k Λ i) (ex_A Λ) U H ∧ va_OF "java/lang/String" "coder" "B" (.int 0) (ex_k Λ i) (ex_A Λ) U H ∧ va_OF "java/lang/String" "value" "[B" (.ref (ex_v Λ i)) (ex_k Λ i) (ex_A Λ) U H ∧ va_T .byte (ex_v Λ i) (ac_B i).length (fun j => .int ((ac_B i).getD j 0)) (ex_A Λ) U H) ∧
  va_Z "java/lang/String" "COMPACT_STRINGS" "Z" (.int 1) (ex_A Λ) U H ∧
  va_Zq "jdk/internal/util/Preconditions" "SIOOBE_FORMATTER" "Ljava/util/function/BiFunction;" (ex_A Λ) U H ∧
  vx_Zq Bundle.tN "UNASSIGNED_STACK" Bundle.steD (ex_A Λ) U H ∧ vx_Zq Bundle.tN "SUPPRESSED_SENTINEL" Bundle.listD (ex_A Λ) U H
/-- words that no table row keeps by itself: castable, declared -/
def ac_Nw (i : Nat) : Cond := match i with
  | 0 => .castable "java/lang/IllegalArgumentException" "java/lang/IllegalArgumentException"
  | 1 => .castable "java/lang/IllegalStateException" "java/lang/IllegalStateException"
  | 2 => .castable "java/lang/IndexOutOfBoundsException" "java/lang/IndexOutOfBoundsException"
  | 3 => .declares (Bundle.initS "java/lang/RuntimeException")
  | 4 => .declares (Bundle.initS "java/lang/Exception")
  | 5 => .declares (Bundle.initS "java/lang/Throwable")
  | _ => .castable "[B" "java/lang/Cloneable"
theorem ac_Nw.warm {s U : State} (hW : s.WarmedH U.vm) (i : Nat) (h : va_Nw (ac_Nw i) s) : va_Nw (ac_Nw i) U := by
  unfold ac_Nw at h ⊢
  split at h
  · exact va_Nw.warmC hW h
  · exact va_Nw.warmC hW h
  · exact va_Nw.warmC hW h
  · exact va_Nw.warmD hW h
  · exact va_Nw.warmD hW h
  · exact va_Nw.warmD hW h
  · exact va_Nw.warmC hW h
def ac_Fn (i : Nat) : Cond := match i with
  | 0 => .fieldLinkNest RX0 35 "FaultBench" "FIRST_VALUE" "[I" "FaultBench"
  | 1 => .fieldLinkNest RX8 68 "FaultBenchLaw$Plan" "of" "[I" "FaultBenchLaw"
  | 2 => .fieldLinkNest RL 39 "FaultBenchLaw$Plan" "of" "[I" "FaultBenchLaw"
  | 3 => .fieldLinkNest RX8 85 "FaultBenchLaw$Plan" "late" "[I" "FaultBenchLaw"
  | 4 => .fieldLinkNest RL 87 "FaultBenchLaw$Plan" "late" "[I" "FaultBenchLaw"
  | 5 => .fieldLinkNest RX8 82 "FaultBenchLaw$Plan" "drop" "[Z" "FaultBenchLaw"
  | 6 => .fieldLinkNest RL 76 "FaultBenchLaw$Plan" "drop" "[Z" "FaultBenchLaw"
  | 7 => .fieldLinkNest RX8 88 "FaultBenchLaw$Plan" "twice" "[Z" "FaultBenchLaw"
  | 8 => .fieldLinkNest RL 82 "FaultBenchLaw$Plan" "twice" "[Z" "FaultBenchLaw"
  | 9 => .fieldLinkNest RL 171 "FaultBenchLaw$Run" "at" "[I" "FaultBenchLaw"
  | 10 => .fieldLinkNest RL 144 "FaultBenchLaw$Run" "kind" "[I" "FaultBenchLaw"
  | 11 => .fieldLinkNest RL 147 "FaultBenchLaw$Run" "what" "[I" "FaultBenchLaw"
  | 12 => .fieldLinkNest RL 174 "FaultBenchLaw$Run" "first" "[I" "FaultBenchLaw"
  | 13 => .fieldLinkNest RL 177 "FaultBenchLaw$Run" "second" "[I" "FaultBenchLaw"
  | 14 => .fieldLinkNest RL 183 "FaultBenchLaw$Run" "out" "[I" "FaultBenchLaw"
  | 15 => .fieldLinkNest RL 150 "FaultBenchLaw$Run" "seen" "[Z" "FaultBenchLaw"
  | 16 => .fieldLinkNest RL 140 "FaultBenchLaw$Run" "sent" "I" "FaultBenchLaw"
  | 17 => .fieldLinkNest RL 160 "FaultBenchLaw$Run" "outs" "I" "FaultBenchLaw"
  | 18 => .fieldLinkNest RL 157 "FaultBenchLaw$Run" "ticks" "I" "FaultBenchLaw"
  | 19 => .fieldLinkNest RL 163 "FaultBenchLaw$Run" "all" "I" "FaultBenchLaw"
  | 20 => .fieldLinkNest RX3 104 "FaultBench" "LEAST_VALUE" "[I" "FaultBench"
  | 21 => .fieldLinkNest RX3 107 "FaultBench" "MOST_VALUE" "[I" "FaultBench"
  | 22 => .methodLinkNest RL 34 yX7_init "FaultBenchLaw"
  | _ => .methodLinkNest RL 99 yX8_init "FaultBenchLaw"
theorem ac_Fn.warm {s U : State} (hW : s.WarmedH U.vm) (i : Nat) (h : va_Nw (ac_Fn i) s) : va_Nw (ac_Fn i) U := by
  unfold ac_Fn at h ⊢
  split at h
  · exact va_Nw.warmF hW h
  · exact va_Nw.warmF hW h
  · exact va_Nw.warmF hW h
  · exact va_Nw.warmF hW h
  · exact va_Nw.warmF hW h
  · exact va_Nw.warmF hW h
  · exact va_Nw.warmF hW h
  · exact va_Nw.warmF hW h
  · exact va_Nw.warmF hW h
  · exact va_Nw.warmF hW h
  · exact va_Nw.warmF hW h
  · exact va_Nw.warmF hW h
  · exact va_Nw.warmF hW h
  · exact va_Nw.warmF hW h
  · exact va_Nw.warmF hW h
  · exact va_Nw.warmF hW h
  · exact va_Nw.warmF hW h
  · exact va_Nw.warmF hW h
  · exact va_Nw.warmF hW h
  · exact va_Nw.warmF hW h
  · exact va_Nw.warmF hW h
  · exact va_Nw.warmF hW h
  · exact va_Nw.warmM hW h
  · exact va_Nw.warmM hW h
def ac_V (Λ : ex_L) (U : State) : Prop :=
  (ex_l Λ).stackTraces = false ∧ va_K (ex_D Λ) vwCl (ac_t Λ) U ∧ (∀ i : Nat, i < 22 → vk_R (ac_Wr i).1 (ac_Wr i).2.1 (ac_Bs (ac_Wr i).2.2) (ex_k Λ (ac_Wr i).2.2) U) ∧ (∀ i : Nat, i < 11 → ∃ a : Nat, vk_R RX6 (ac_Xr i).1 (ac_Xr i).2 a U) ∧
  (∀ i : Nat, i < 24 → va_Nw (ac_Fn i) U) ∧ va_AO RX0 U ∧ (∀ i : Nat, i < 7 → va_Nw (ac_Nw i) U)
def ac_K (Λ : ex_L) (U : State) : Prop := ac_V Λ U ∧ ac_Z Λ U U.heap ∧ ex_z Λ ≤ U.heap.size
theorem ac_Z.kept {Λ : ex_L} {U : State} {H H1 : Heap} (h : ac_Z Λ U H) (hq : ∀ a : Nat, a < H.size → ¬ ex_A Λ a → H1[a]? = H[a]?) : ac_Z Λ U H1 :=
  ⟨⟨fun i hi => ⟨(h.1.1 i hi).1.kept hq, (h.1.1 i hi).2.kept hq⟩, fun i hi => ⟨(h.1.2 i hi).1.kept hq, (h.1.2 i hi).2.kept hq⟩⟩, fun i hi => ⟨(h.2.1 i hi).1.kept hq, (h.2.1 i hi).2.1.kept hq, (h.2.1 i hi).2.2.1.kept hq, (h.2.1 i hi).2.2.2.kept hq⟩, h.2.2.1.kept hq, h.2.2.2.1.kept hq, h.2.2.2.2.1.kept hq, h.2.2.2.2.2.kept hq⟩
theorem ac_Z.moved {Λ : ex_L} {u U : State} {H : Heap} (hvm : u.vm.Alike U.vm) (h : ac_Z Λ u H) : ac_Z Λ U H :=
  ⟨⟨fun i hi => ⟨va_Z.moved hvm (h.1.1 i hi).1, va_T.moved hvm (h.1.1 i hi).2⟩, fun i hi => ⟨va_Z.moved hvm (h.1.2 i hi).1, va_T.moved hvm (h.1.2 i hi).2⟩⟩, fun i hi => ⟨va_O.moved hvm (h.2.1 i hi).1, va_OF.moved hvm (h.2.1 i hi).2.1, va_OF.moved hvm (h.2.1 i hi).2.2.1, va_T.moved hvm (h.2.1 i hi).2.2.2⟩, va_Z.moved hvm h.2.2.1, va_Zq.moved hvm h.2.2.2.1, vx_Zq.moved hvm h.2.2.2.2.1, vx_Zq.moved hvm h.2.2.2.2.2⟩
theorem ac_V.warm {Λ : ex_L} {s U : State} (hW : s.WarmedH U.vm) (h : ac_V Λ s) : ac_V Λ U := by
  obtain ⟨h1, h2, h3, h4, h5, h8, h9⟩ := h
  refine ⟨h1, va_K.moved hW.alike h2, fun i hi => vk_R.warm hW (h3 i hi), fun i hi => ?_, fun i hi => ac_Fn.warm hW i (h5 i hi), va_AO.moved hW.alike h8, fun i hi => ac_Nw.warm hW i (h9 i hi)⟩
  obtain ⟨a, ha⟩ := h4 i hi
  exact ⟨a, vk_R.warm hW ha⟩
theorem ac_V.same {Λ : ex_L} {u U : State} (hv : U.vm = u.vm) (h : ac_V Λ u) : ac_V Λ U := ac_V.warm (s := u) (by rw [hv]; exact State.WarmedH.refl u) h
/-- at a state that the method comes to -/
theorem ac_K.at {Λ : ex_L} {s U : State} {H : Heap} {locs : List Loc} (h : ac_K Λ s) (hS : va_S (ex_A Λ) s.heap H locs) (hU : U.heap = H) (hW : s.WarmedH U.vm) : ac_K Λ U :=
  ⟨ac_V.warm hW h.1, by rw [hU]; exact (ac_Z.moved hW.alike h.2.1).kept hS.2.1, by rw [hU]; exact Nat.le_trans h.2.2 hS.1⟩
theorem ac_K.blind {Λ : ex_L} {U : State} {g : JFrame} {mk : MethodId} {a : Array Value} (h : ac_K Λ U) : ac_K Λ (U.calling g mk a) :=
  ⟨ac_V.same (u := U) (U := U.calling g mk a) rfl h.1, ac_Z.moved (u := U) (U := U.calling g mk a) (Vm.Alike.refl U.vm) h.2.1, h.2.2⟩
/-- what holds at a method's start: the machine, its class, code, locals, answer, room, handlers -/
def kx_K (Λ : ex_L) (Γ : kx_T) (own : String) (cc : ByteArray) (nL : Nat) (ret : Option FieldType) (rm : Room) (tb : List ExceptionTableEntry) : Prop :=
  (kx_p Γ).tables.exec = Jvm.exec ∧ (kx_c Γ).code = cc ∧ (kx_c Γ).maxLocals = nL ∧ (kx_s Γ).vm.findClass own = some (kx_m Γ).cls ∧ (∀ w ∈ wsL_law, w.before (kx_a Γ) (kx_s Γ) = true) ∧ ac_K Λ (kx_s Γ) ∧ (kx_h Γ).sig.returnType = ret ∧ (kx_h Γ).locks = false ∧ kx_R Γ = rm ∧ (kx_c Γ).exceptionTable.toList = tb
section KX1
variable {Λ : ex_L} {Γ : kx_T} {own : String} {cc : ByteArray} {nL : Nat} {ret : Option FieldType} {rm : Room} {tb : List ExceptionTableEntry} {N : Nat → Prop} {σ : ac_H} {k n pc : Nat} {lv : List (Nat × Value)} {st : List Value} {α : Type} {r : α}
theorem kx_iconst (K : kx_K Λ Γ own cc nL ret rm tb) {q : Int} {v : Int32} (hd : decode cc pc = .ok (.iconst q, 1)) (hv : Int32.ofInt q = v) (kk : kx_S Λ Γ nL N σ k n (pc + 1) lv (.int v :: st)) : kx_S Λ Γ nL N σ k n pc lv st := fun H locs ls hR hN hS hl => lv_iconst K.1 K.2.1 hd hv (kk H locs ls hR hN hS hl)
theorem kx_bipush (K : kx_K Λ Γ own cc nL ret rm tb) {q : Int} {v : Int32} (hd : decode cc pc = .ok (.bipush q, 2)) (hv : (Int8.ofInt q).toInt32 = v) (kk : kx_S Λ Γ nL N σ k n (pc + 2) lv (.int v :: st)) : kx_S Λ Γ nL N σ k n pc lv st := fun H locs ls hR hN hS hl => lv_bipush K.1 K.2.1 hd hv (kk H locs ls hR hN hS hl)
theorem kx_sipush (K : kx_K Λ Γ own cc nL ret rm tb) {q : Int} {v : Int32} (hd : decode cc pc = .ok (.sipush q, 3)) (hv : (Int16.ofInt q).toInt32 = v) (kk : kx_S Λ Γ nL N σ k n (pc + 3) lv (.int v :: st)) : kx_S Λ Γ nL N σ k n pc lv st := fun H locs ls hR hN hS hl => lv_sipush K.1 K.2.1 hd hv (kk H locs ls hR hN hS hl)
theorem kx_lconst (K : kx_K Λ Γ own cc nL ret rm tb) {q : Fin 2} {v : Int64} (hd : decode cc pc = .ok (.lconst q, 1)) (hv : Int64.ofNat (q : Nat) = v) (kk : kx_S Λ Γ nL N σ k n (pc + 1) lv (.long v :: st)) : kx_S Λ Γ nL N σ k n pc lv st := fun H locs ls hR hN hS hl => lv_lconst K.1 K.2.1 hd hv (kk H locs ls hR hN hS hl)
theorem kx_ldc (K : kx_K Λ Γ own cc nL ret rm tb) {q : Nat} {v : Int32} (hd : decode cc pc = .ok (.ldc q, 2)) (hw : Cond.constant own q v ∈ wsL_law) (kk : kx_S Λ Γ nL N σ k n (pc + 2) lv (.int v :: st)) : kx_S Λ Γ nL N σ k n pc lv st := fun H locs ls hR hN hS hl => lv_ldc K.1 K.2.1 K.2.2.2.1 (K.2.2.2.2.1 _ hw) hd (kk H locs ls hR hN hS hl)
theorem kx_iload_n (K : kx_K Λ Γ own cc nL ret rm tb) {q : Fin 4} {i : Nat} {v : Int32} (hd : decode cc pc = .ok (.iload_n q, 1)) (hi : (q : Nat) = i) (j : Nat) (hj : lv[j]? = some (i, .int v)) (kk : kx_S Λ Γ nL N σ k n (pc + 1) lv (.int v :: st)) : kx_S Λ Γ nL N σ k n pc lv st := fun H locs ls hR hN hS hl => lv_iload_n K.1 K.2.1 hd hi (lv_at hl j hj) (kk H locs ls hR hN hS hl)
theorem kx_iload (K : kx_K Λ Γ own cc nL ret rm tb) {i : Nat} {v : Int32} (hd : decode cc pc = .ok (.iload i, 2)) (j : Nat) (hj : lv[j]? = some (i, .int v)) (kk : kx_S Λ Γ nL N σ k n (pc + 2) lv (.int v :: st)) : kx_S Λ Γ nL N σ k n pc lv st := fun H locs ls hR hN hS hl => lv_iload K.1 K.2.1 hd (lv_at hl j hj) (kk H locs ls hR hN hS hl)
theorem kx_istore_n (K : kx_K Λ Γ own cc nL ret rm tb) {q : Fin 4} {i : Nat} {v : Int32} (lv' : List (Nat × Value)) (hd : decode cc pc = .ok (.istore_n q, 1)) (hi : (q : Nat) = i) (hn : i < nL) (hv : (i, Value.int v) :: lv.filter (fun q => !(q.1 == i) && !(q.1 + 1 == i && q.2.category == 2)) = lv') (kk : kx_S Λ Γ nL N σ k n (pc + 1) lv' st) : kx_S Λ Γ nL N σ k n pc lv (.int v :: st) := fun H locs ls hR hN hS hl => lv_istore_n K.1 K.2.1 hd hi hl hn hv (fun ls' hl' => kk H locs ls' hR hN hS hl')
theorem kx_istore (K : kx_K Λ Γ own cc nL ret rm tb) {i : Nat} {v : Int32} (lv' : List (Nat × Value)) (hd : decode cc pc = .ok (.istore i, 2)) (hn : i < nL) (hv : (i, Value.int v) :: lv.filter (fun q => !(q.1 == i) && !(q.1 + 1 == i && q.2.category == 2)) = lv') (kk : kx_S Λ Γ nL N σ k n (pc + 2) lv' st) : kx_S Λ Γ nL N σ k n pc lv (.int v :: st) := fun H locs ls hR hN hS hl => lv_istore K.1 K.2.1 hd hl hn hv (fun ls' hl' => kk H locs ls' hR hN hS hl')
theorem kx_aload_n (K : kx_K Λ Γ own cc nL ret rm tb) {q : Fin 4} {i : Nat} {v : Nat} (hd : decode cc pc = .ok (.aload_n q, 1)) (hi : (q : Nat) = i) (j : Nat) (hj : lv[j]? = some (i, .ref v)) (kk : kx_S Λ Γ nL N σ k n (pc + 1) lv (.ref v :: st)) : kx_S Λ Γ nL N σ k n pc lv st := fun H locs ls hR hN hS hl => lv_aload_n K.1 K.2.1 hd hi (lv_at hl j hj) (kk H locs ls hR hN hS hl)
theorem kx_aload (K : kx_K Λ Γ own cc nL ret rm tb) {i : Nat} {v : Nat} (hd : decode cc pc = .ok (.aload i, 2)) (j : Nat) (hj : lv[j]? = some (i, .ref v)) (kk : kx_S Λ Γ nL N σ k n (pc + 2) lv (.ref v :: st)) : kx_S Λ Γ nL N σ k n pc lv st := fun H locs ls hR hN hS hl => lv_aload K.1 K.2.1 hd (lv_at hl j hj) (kk H locs ls hR hN hS hl)
theorem kx_astore_n (K : kx_K Λ Γ own cc nL ret rm tb) {q : Fin 4} {i : Nat} {v : Nat} (lv' : List (Nat × Value)) (hd : decode cc pc = .ok (.astore_n q, 1)) (hi : (q : Nat) = i) (hn : i < nL) (hv : (i, Value.ref v) :: lv.filter (fun q => !(q.1 == i) && !(q.1 + 1 == i && q.2.category == 2)) = lv') (kk : kx_S Λ Γ nL N σ k n (pc + 1) lv' st) : kx_S Λ Γ nL N σ k n pc lv (.ref v :: st) := fun H locs ls hR hN hS hl => lv_astore_n K.1 K.2.1 hd hi hl hn hv (fun ls' hl' => kk H locs ls' hR hN hS hl')
theorem kx_astore (K : kx_K Λ Γ own cc nL ret rm tb) {i : Nat} {v : Nat} (lv' : List (Nat × Value)) (hd : decode cc pc = .ok (.astore i, 2)) (hn : i < nL) (hv : (i, Value.ref v) :: lv.filter (fun q => !(q.1 == i) && !(q.1 + 1 == i && q.2.category == 2)) = lv') (kk : kx_S Λ Γ nL N σ k n (pc + 2) lv' st) : kx_S Λ Γ nL N σ k n pc lv (.ref v :: st) := fun H locs ls hR hN hS hl => lv_astore K.1 K.2.1 hd hl hn hv (fun ls' hl' => kk H locs ls' hR hN hS hl')
theorem kx_iinc (K : kx_K Λ Γ own cc nL ret rm tb) {i : Nat} {q : Int} {x v : Int32} (lv' : List (Nat × Value)) (hd : decode cc pc = .ok (.iinc i q, 3)) (j : Nat) (hj : lv[j]? = some (i, .int x)) (hv : x + Int32.ofInt q = v) (hn : i < nL) (hl9 : (i, Value.int v) :: lv.filter (fun q => !(q.1 == i) && !(q.1 + 1 == i && q.2.category == 2)) = lv') (kk : kx_S Λ Γ nL N σ k n (pc + 3) lv' st) : kx_S Λ Γ nL N σ k n pc lv st := fun H locs ls hR hN hS hl => lv_iinc K.1 K.2.1 hd hl hj hv hn hl9 (fun ls' hl' => kk H locs ls' hR hN hS hl')
theorem kx_iadd (K : kx_K Λ Γ own cc nL ret rm tb) {x y : Int32} (hd : decode cc pc = .ok (.iadd, 1))  (kk : kx_S Λ Γ nL N σ k n (pc + 1) lv (.int (x + y) :: st)) : kx_S Λ Γ nL N σ k n pc lv (.int y :: .int x :: st) := fun H locs ls hR hN hS hl => lv_iadd K.1 K.2.1 hd (kk H locs ls hR hN hS hl)
theorem kx_isub (K : kx_K Λ Γ own cc nL ret rm tb) {x y : Int32} (hd : decode cc pc = .ok (.isub, 1))  (kk : kx_S Λ Γ nL N σ k n (pc + 1) lv (.int (x - y) :: st)) : kx_S Λ Γ nL N σ k n pc lv (.int y :: .int x :: st) := fun H locs ls hR hN hS hl => lv_isub K.1 K.2.1 hd (kk H locs ls hR hN hS hl)
theorem kx_imul (K : kx_K Λ Γ own cc nL ret rm tb) {x y : Int32} (hd : decode cc pc = .ok (.imul, 1))  (kk : kx_S Λ Γ nL N σ k n (pc + 1) lv (.int (x * y) :: st)) : kx_S Λ Γ nL N σ k n pc lv (.int y :: .int x :: st) := fun H locs ls hR hN hS hl => lv_imul K.1 K.2.1 hd (kk H locs ls hR hN hS hl)
theorem kx_iand (K : kx_K Λ Γ own cc nL ret rm tb) {x y : Int32} (hd : decode cc pc = .ok (.iand, 1))  (kk : kx_S Λ Γ nL N σ k n (pc + 1) lv (.int (x &&& y) :: st)) : kx_S Λ Γ nL N σ k n pc lv (.int y :: .int x :: st) := fun H locs ls hR hN hS hl => lv_iand K.1 K.2.1 hd (kk H locs ls hR hN hS hl)
theorem kx_ior (K : kx_K Λ Γ own cc nL ret rm tb) {x y : Int32} (hd : decode cc pc = .ok (.ior, 1))  (kk : kx_S Λ Γ nL N σ k n (pc + 1) lv (.int (x ||| y) :: st)) : kx_S Λ Γ nL N σ k n pc lv (.int y :: .int x :: st) := fun H locs ls hR hN hS hl => lv_ior K.1 K.2.1 hd (kk H locs ls hR hN hS hl)
theorem kx_ixor (K : kx_K Λ Γ own cc nL ret rm tb) {x y : Int32} (hd : decode cc pc = .ok (.ixor, 1))  (kk : kx_S Λ Γ nL N σ k n (pc + 1) lv (.int (x ^^^ y) :: st)) : kx_S Λ Γ nL N σ k n pc lv (.int y :: .int x :: st) := fun H locs ls hR hN hS hl => lv_ixor K.1 K.2.1 hd (kk H locs ls hR hN hS hl)
theorem kx_ishl (K : kx_K Λ Γ own cc nL ret rm tb) {x y : Int32} (hd : decode cc pc = .ok (.ishl, 1))  (kk : kx_S Λ Γ nL N σ k n (pc + 1) lv (.int (x <<< (y &&& 31)) :: st)) : kx_S Λ Γ nL N σ k n pc lv (.int y :: .int x :: st) := fun H locs ls hR hN hS hl => lv_ishl K.1 K.2.1 hd (kk H locs ls hR hN hS hl)
theorem kx_ishr (K : kx_K Λ Γ own cc nL ret rm tb) {x y : Int32} (hd : decode cc pc = .ok (.ishr, 1))  (kk : kx_S Λ Γ nL N σ k n (pc + 1) lv (.int (x >>> (y &&& 31)) :: st)) : kx_S Λ Γ nL N σ k n pc lv (.int y :: .int x :: st) := fun H locs ls hR hN hS hl => lv_ishr K.1 K.2.1 hd (kk H locs ls hR hN hS hl)
theorem kx_iushr (K : kx_K Λ Γ own cc nL ret rm tb) {x y : Int32} (hd : decode cc pc = .ok (.iushr, 1))  (kk : kx_S Λ Γ nL N σ k n (pc + 1) lv (.int ((x.toUInt32 >>> (y.toUInt32 &&& Int32.toUInt32 31)).toInt32) :: st)) : kx_S Λ Γ nL N σ k n pc lv (.int y :: .int x :: st) := fun H locs ls hR hN hS hl => lv_iushr K.1 K.2.1 hd rfl (kk H locs ls hR hN hS hl)
theorem kx_ineg (K : kx_K Λ Γ own cc nL ret rm tb) {x : Int32} (hd : decode cc pc = .ok (.ineg, 1))  (kk : kx_S Λ Γ nL N σ k n (pc + 1) lv (.int (-x) :: st)) : kx_S Λ Γ nL N σ k n pc lv (.int x :: st) := fun H locs ls hR hN hS hl => lv_ineg K.1 K.2.1 hd (kk H locs ls hR hN hS hl)
theorem kx_i2l (K : kx_K Λ Γ own cc nL ret rm tb) {x : Int32} (hd : decode cc pc = .ok (.i2l, 1))  (kk : kx_S Λ Γ nL N σ k n (pc + 1) lv (.long x.toInt64 :: st)) : kx_S Λ Γ nL N σ k n pc lv (.int x :: st) := fun H locs ls hR hN hS hl => lv_i2l K.1 K.2.1 hd rfl (kk H locs ls hR hN hS hl)
theorem kx_i2b (K : kx_K Λ Γ own cc nL ret rm tb) {x : Int32} (hd : decode cc pc = .ok (.i2b, 1))  (kk : kx_S Λ Γ nL N σ k n (pc + 1) lv (.int x.toInt8.toInt32 :: st)) : kx_S Λ Γ nL N σ k n pc lv (.int x :: st) := fun H locs ls hR hN hS hl => lv_i2b K.1 K.2.1 hd rfl (kk H locs ls hR hN hS hl)
theorem kx_lcmp (K : kx_K Λ Γ own cc nL ret rm tb) {x y : Int64} (hd : decode cc pc = .ok (.lcmp, 1))  (kk : kx_S Λ Γ nL N σ k n (pc + 1) lv (.int (lg_cmp x y) :: st)) : kx_S Λ Γ nL N σ k n pc lv (.long y :: .long x :: st) := fun H locs ls hR hN hS hl => W.lcmp K.1 K.2.1 hd (kk H locs ls hR hN hS hl)
theorem kx_dup (K : kx_K Λ Γ own cc nL ret rm tb) {v : Value} (hd : decode cc pc = .ok (.dup, 1)) (hv : v.category = 1) (kk : kx_S Λ Γ nL N σ k n (pc + 1) lv (v :: v :: st)) : kx_S Λ Γ nL N σ k n pc lv (v :: st) := fun H locs ls hR hN hS hl => lv_dup K.1 K.2.1 hd hv (kk H locs ls hR hN hS hl)
theorem kx_pop (K : kx_K Λ Γ own cc nL ret rm tb) {v : Value} (hd : decode cc pc = .ok (.pop, 1)) (hv : v.category = 1) (kk : kx_S Λ Γ nL N σ k n (pc + 1) lv st) : kx_S Λ Γ nL N σ k n pc lv (v :: st) := fun H locs ls hR hN hS hl => lv_pop K.1 K.2.1 hd hv (kk H locs ls hR hN hS hl)
theorem kx_dup2 (K : kx_K Λ Γ own cc nL ret rm tb) {v w : Value} (hd : decode cc pc = .ok (.dup2, 1)) (hv : v.category = 1) (hw : w.category = 1) (kk : kx_S Λ Γ nL N σ k n (pc + 1) lv (v :: w :: v :: w :: st)) : kx_S Λ Γ nL N σ k n pc lv (v :: w :: st) := fun H locs ls hR hN hS hl => lv_dup2_11 K.1 K.2.1 hd hv hw (kk H locs ls hR hN hS hl)
theorem kx_goto (K : kx_K Λ Γ own cc nL ret rm tb) {off : Int} (tgt : Nat) (hd : decode cc pc = .ok (.goto off, 3)) (ht : (pc : Int) + off = (tgt : Int)) (kk : kx_S Λ Γ nL N σ k n tgt lv st) : kx_S Λ Γ nL N σ k n pc lv st := fun H locs ls hR hN hS hl => lv_goto K.1 K.2.1 hd ht (kk H locs ls hR hN hS hl)
theorem kx_sub (lv' : List (Nat × Value)) (ks : List Nat) (hl9 : lv_pick lv ks = lv') (kk : kx_S Λ Γ nL N σ k n pc lv' st) : kx_S Λ Γ nL N σ k n pc lv st := fun H locs ls hR hN hS hl => kk H locs ls hR hN hS (lv_sub hl ks hl9)
theorem kx_if_eq (K : kx_K Λ Γ own cc nL ret rm tb) {x : Int32} {A B : Option α} {off : Int} (tgt : Nat) (hf : (if x = 0 then A else B) = some r) (hd : decode cc pc = .ok (.ifCond .eq off, 3)) (ht : (pc : Int) + off = (tgt : Int)) (kt : A = some r → kx_S Λ Γ nL N σ k n tgt lv st) (kf : B = some r → kx_S Λ Γ nL N σ k n (pc + 3) lv st) : kx_S Λ Γ nL N σ k n pc lv (.int x :: st) := fun H locs ls hR hN hS hl => lv_if_eq K.1 K.2.1 hd ht (fun q => kt (by rw [if_pos q] at hf; exact hf) H locs ls hR hN hS hl) (fun q => kf (by rw [if_neg q] at hf; exact hf) H locs ls hR hN hS hl)
theorem kx_if_ne (K : kx_K Λ Γ own cc nL ret rm tb) {x : Int32} {A B : Option α} {off : Int} (tgt : Nat) (hf : (if x = 0 then A else B) = some r) (hd : decode cc pc = .ok (.ifCond .ne off, 3)) (ht : (pc : Int) + off = (tgt : Int)) (kt : B = some r → kx_S Λ Γ nL N σ k n tgt lv st) (kf : A = some r → kx_S Λ Γ nL N σ k n (pc + 3) lv st) : kx_S Λ Γ nL N σ k n pc lv (.int x :: st) := fun H locs ls hR hN hS hl => lv_if_ne K.1 K.2.1 hd ht (fun q => kt (by rw [if_neg q] at hf; exact hf) H locs ls hR hN hS hl) (fun q => kf (by rw [if_pos q] at hf; exact hf) H locs ls hR hN hS hl)
theorem kx_if_lt (K : kx_K Λ Γ own cc nL ret rm tb) {x : Int32} {A B : Option α} {off : Int} (tgt : Nat) (hf : (if x < 0 then A else B) = some r) (hd : decode cc pc = .ok (.ifCond .lt off, 3)) (ht : (pc : Int) + off = (tgt : Int)) (kt : A = some r → kx_S Λ Γ nL N σ k n tgt lv st) (kf : B = some r → kx_S Λ Γ nL N σ k n (pc + 3) lv st) : kx_S Λ Γ nL N σ k n pc lv (.int x :: st) := fun H locs ls hR hN hS hl => lv_if_lt K.1 K.2.1 hd ht (fun q => kt (by rw [if_pos q] at hf; exact hf) H locs ls hR hN hS hl) (fun q => kf (by rw [if_neg q] at hf; exact hf) H locs ls hR hN hS hl)
theorem kx_if_ge (K : kx_K Λ Γ own cc nL ret rm tb) {x : Int32} {A B : Option α} {off : Int} (tgt : Nat) (hf : (if x < 0 then A else B) = some r) (hd : decode cc pc = .ok (.ifCond .ge off, 3)) (ht : (pc : Int) + off = (tgt : Int)) (kt : B = some r → kx_S Λ Γ nL N σ k n tgt lv st) (kf : A = some r → kx_S Λ Γ nL N σ k n (pc + 3) lv st) : kx_S Λ Γ nL N σ k n pc lv (.int x :: st) := fun H locs ls hR hN hS hl => lv_if_ge K.1 K.2.1 hd ht (fun q => kt (by rw [if_neg (Int32.not_lt.mpr q)] at hf; exact hf) H locs ls hR hN hS hl) (fun q => kf (by rw [if_pos (Int32.not_le.mp q)] at hf; exact hf) H locs ls hR hN hS hl)
theorem kx_if_gt (K : kx_K Λ Γ own cc nL ret rm tb) {x : Int32} {A B : Option α} {off : Int} (tgt : Nat) (hf : (if 0 < x then A else B) = some r) (hd : decode cc pc = .ok (.ifCond .gt off, 3)) (ht : (pc : Int) + off = (tgt : Int)) (kt : A = some r → kx_S Λ Γ nL N σ k n tgt lv st) (kf : B = some r → kx_S Λ Γ nL N σ k n (pc + 3) lv st) : kx_S Λ Γ nL N σ k n pc lv (.int x :: st) := fun H locs ls hR hN hS hl => lv_if_gt K.1 K.2.1 hd ht (fun q => kt (by rw [if_pos q] at hf; exact hf) H locs ls hR hN hS hl) (fun q => kf (by rw [if_neg q] at hf; exact hf) H locs ls hR hN hS hl)
theorem kx_if_le (K : kx_K Λ Γ own cc nL ret rm tb) {x : Int32} {A B : Option α} {off : Int} (tgt : Nat) (hf : (if 0 < x then A else B) = some r) (hd : decode cc pc = .ok (.ifCond .le off, 3)) (ht : (pc : Int) + off = (tgt : Int)) (kt : B = some r → kx_S Λ Γ nL N σ k n tgt lv st) (kf : A = some r → kx_S Λ Γ nL N σ k n (pc + 3) lv st) : kx_S Λ Γ nL N σ k n pc lv (.int x :: st) := fun H locs ls hR hN hS hl => lv_if_le K.1 K.2.1 hd ht (fun q => kt (by rw [if_neg (Int32.not_lt.mpr q)] at hf; exact hf) H locs ls hR hN hS hl) (fun q => kf (by rw [if_pos (Int32.not_le.mp q)] at hf; exact hf) H locs ls hR hN hS hl)
theorem kx_icmp_eq (K : kx_K Λ Γ own cc nL ret rm tb) {x y : Int32} {A B : Option α} {off : Int} (tgt : Nat) (hf : (if x = y then A else B) = some r) (hd : decode cc pc = .ok (.if_icmp .eq off, 3)) (ht : (pc : Int) + off = (tgt : Int)) (kt : A = some r → kx_S Λ Γ nL N σ k n tgt lv st) (kf : B = some r → kx_S Λ Γ nL N σ k n (pc + 3) lv st) : kx_S Λ Γ nL N σ k n pc lv (.int y :: .int x :: st) := fun H locs ls hR hN hS hl => lv_icmp_eq K.1 K.2.1 hd ht (fun q => kt (by rw [if_pos q] at hf; exact hf) H locs ls hR hN hS hl) (fun q => kf (by rw [if_neg q] at hf; exact hf) H locs ls hR hN hS hl)
theorem kx_icmp_ne (K : kx_K Λ Γ own cc nL ret rm tb) {x y : Int32} {A B : Option α} {off : Int} (tgt : Nat) (hf : (if x = y then A else B) = some r) (hd : decode cc pc = .ok (.if_icmp .ne off, 3)) (ht : (pc : Int) + off = (tgt : Int)) (kt : B = some r → kx_S Λ Γ nL N σ k n tgt lv st) (kf : A = some r → kx_S Λ Γ nL N σ k n (pc + 3) lv st) : kx_S Λ Γ nL N σ k n pc lv (.int y :: .int x :: st) := fun H locs ls hR hN hS hl => lv_icmp_ne K.1 K.2.1 hd ht (fun q => kt (by rw [if_neg q] at hf; exact hf) H locs ls hR hN hS hl) (fun q => kf (by rw [if_pos q] at hf; exact hf) H locs ls hR hN hS hl)
theorem kx_icmp_lt (K : kx_K Λ Γ own cc nL ret rm tb) {x y : Int32} {A B : Option α} {off : Int} (tgt : Nat) (hf : (if x < y then A else B) = some r) (hd : decode cc pc = .ok (.if_icmp .lt off, 3)) (ht : (pc : Int) + off = (tgt : Int)) (kt : A = some r → kx_S Λ Γ nL N σ k n tgt lv st) (kf : B = some r → kx_S Λ Γ nL N σ k n (pc + 3) lv st) : kx_S Λ Γ nL N σ k n pc lv (.int y :: .int x :: st) := fun H locs ls hR hN hS hl => lv_icmp_lt K.1 K.2.1 hd ht (fun q => kt (by rw [if_pos q] at hf; exact hf) H locs ls hR hN hS hl) (fun q => kf (by rw [if_neg q] at hf; exact hf) H locs ls hR hN hS hl)
theorem kx_icmp_ge (K : kx_K Λ Γ own cc nL ret rm tb) {x y : Int32} {A B : Option α} {off : Int} (tgt : Nat) (hf : (if x < y then A else B) = some r) (hd : decode cc pc = .ok (.if_icmp .ge off, 3)) (ht : (pc : Int) + off = (tgt : Int)) (kt : B = some r → kx_S Λ Γ nL N σ k n tgt lv st) (kf : A = some r → kx_S Λ Γ nL N σ k n (pc + 3) lv st) : kx_S Λ Γ nL N σ k n pc lv (.int y :: .int x :: st) := fun H locs ls hR hN hS hl => lv_icmp_ge K.1 K.2.1 hd ht (fun q => kt (by rw [if_neg (Int32.not_lt.mpr q)] at hf; exact hf) H locs ls hR hN hS hl) (fun q => kf (by rw [if_pos (Int32.not_le.mp q)] at hf; exact hf) H locs ls hR hN hS hl)
theorem kx_icmp_gt (K : kx_K Λ Γ own cc nL ret rm tb) {x y : Int32} {A B : Option α} {off : Int} (tgt : Nat) (hf : (if y < x then A else B) = some r) (hd : decode cc pc = .ok (.if_icmp .gt off, 3)) (ht : (pc : Int) + off = (tgt : Int)) (kt : A = some r → kx_S Λ Γ nL N σ k n tgt lv st) (kf : B = some r → kx_S Λ Γ nL N σ k n (pc + 3) lv st) : kx_S Λ Γ nL N σ k n pc lv (.int y :: .int x :: st) := fun H locs ls hR hN hS hl => lv_icmp_gt K.1 K.2.1 hd ht (fun q => kt (by rw [if_pos q] at hf; exact hf) H locs ls hR hN hS hl) (fun q => kf (by rw [if_neg q] at hf; exact hf) H locs ls hR hN hS hl)
theorem kx_icmp_le (K : kx_K Λ Γ own cc nL ret rm tb) {x y : Int32} {A B : Option α} {off : Int} (tgt : Nat) (hf : (if y < x then A else B) = some r) (hd : decode cc pc = .ok (.if_icmp .le off, 3)) (ht : (pc : Int) + off = (tgt : Int)) (kt : B = some r → kx_S Λ Γ nL N σ k n tgt lv st) (kf : A = some r → kx_S Λ Γ nL N σ k n (pc + 3) lv st) : kx_S Λ Γ nL N σ k n pc lv (.int y :: .int x :: st) := fun H locs ls hR hN hS hl => lv_icmp_le K.1 K.2.1 hd ht (fun q => kt (by rw [if_neg (Int32.not_lt.mpr q)] at hf; exact hf) H locs ls hR hN hS hl) (fun q => kf (by rw [if_pos (Int32.not_le.mp q)] at hf; exact hf) H locs ls hR hN hS hl)
theorem kx_dup_x1 (K : kx_K Λ Γ own cc nL ret rm tb) {v w : Value} (hd : decode cc pc = .ok (.dup_x1, 1)) (hv : v.category = 1) (hw : w.category = 1) (kk : kx_S Λ Γ nL N σ k n (pc + 1) lv (v :: w :: v :: st)) : kx_S Λ Γ nL N σ k n pc lv (v :: w :: st) := fun H locs ls hR hN hS hl => lv_dup_x1 K.1 K.2.1 hd hv hw (kk H locs ls hR hN hS hl)
end KX1

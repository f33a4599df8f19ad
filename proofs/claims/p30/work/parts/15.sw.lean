/-! ROWS: switches, wide constants. -/
section KX6
variable {Λ : ex_L} {Γ : kx_T} {own : String} {cc : ByteArray} {nL : Nat} {ret : Option FieldType} {rm : Room} {tb : List ExceptionTableEntry} {N N' : Nat → Prop} {σ σ' : ac_H} {k n pc : Nat} {lv : List (Nat × Value)} {st : List Value} {α ρ ρ' : Type} {r : α}
theorem kx_swI (K : kx_K Λ Γ own cc nL ret rm tb) {dflt lo hi off : Int} {offs : Array Int} {len : Nat} {x c : Int32} {A B : Option α} (tgt : Nat) (hd : decode cc pc = .ok (.tableswitch dflt lo hi offs, len)) (h1 : ¬ c.toInt < lo) (h2 : ¬ hi < c.toInt) (ho : offs[(c.toInt - lo).toNat]? = some off) (ht : (pc : Int) + off = (tgt : Int)) (hf : (if x = c then A else B) = some r) (kt : A = some r → kx_S Λ Γ nL N σ k n tgt lv st) (kf : ¬ x = c → B = some r → kx_S Λ Γ nL N σ k n pc lv (.int x :: st)) : kx_S Λ Γ nL N σ k n pc lv (.int x :: st) := by
  split at hf
  · rename_i h
    subst h
    exact fun H locs ls hR hN hS hl => lv_tableIn K.1 K.2.1 hd h1 h2 ho ht (kt hf H locs ls hR hN hS hl)
  · rename_i h
    exact kf h hf
theorem kx_swD (K : kx_K Λ Γ own cc nL ret rm tb) {dflt lo hi : Int} {offs : Array Int} {len : Nat} {x : Int32} (tgt : Nat) (hd : decode cc pc = .ok (.tableswitch dflt lo hi offs, len)) (h : x.toInt < lo ∨ hi < x.toInt) (ht : (pc : Int) + dflt = (tgt : Int)) (kk : kx_S Λ Γ nL N σ k n tgt lv st) : kx_S Λ Γ nL N σ k n pc lv (.int x :: st) := fun H locs ls hR hN hS hl => lv_tableOut K.1 K.2.1 hd h ht (kk H locs ls hR hN hS hl)
theorem kx_lwI (K : kx_K Λ Γ own cc nL ret rm tb) {dflt off : Int} {ps : Array (Int × Int)} {len : Nat} {x c : Int32} {A B : Option α} (tgt : Nat) (hd : decode cc pc = .ok (.lookupswitch dflt ps, len)) (hp : (ps.toList.zip (ps.toList.drop 1)).all (fun (a, next) => a.1 < next.1) = true) (ho : Op.lookupswitch.offset ps.toList dflt c.toInt = off) (ht : (pc : Int) + off = (tgt : Int)) (hf : (if x = c then A else B) = some r) (kt : A = some r → kx_S Λ Γ nL N σ k n tgt lv st) (kf : ¬ x = c → B = some r → kx_S Λ Γ nL N σ k n pc lv (.int x :: st)) : kx_S Λ Γ nL N σ k n pc lv (.int x :: st) := by
  split at hf
  · rename_i h
    subst h
    exact fun H locs ls hR hN hS hl => lv_lookup K.1 K.2.1 hd hp ho ht (kt hf H locs ls hR hN hS hl)
  · rename_i h
    exact kf h hf
theorem kx_lwD (K : kx_K Λ Γ own cc nL ret rm tb) {dflt : Int} {ps : Array (Int × Int)} {len : Nat} {x : Int32} (tgt : Nat) (hd : decode cc pc = .ok (.lookupswitch dflt ps, len)) (hp : (ps.toList.zip (ps.toList.drop 1)).all (fun (a, next) => a.1 < next.1) = true) (ho : Op.lookupswitch.offset ps.toList dflt x.toInt = dflt) (ht : (pc : Int) + dflt = (tgt : Int)) (kk : kx_S Λ Γ nL N σ k n tgt lv st) : kx_S Λ Γ nL N σ k n pc lv (.int x :: st) := fun H locs ls hR hN hS hl => lv_lookup K.1 K.2.1 hd hp ho ht (kk H locs ls hR hN hS hl)
theorem kx_ldcw (K : kx_K Λ Γ own cc nL ret rm tb) {q : Nat} {v : Int32} (hd : decode cc pc = .ok (.ldc_w q, 3)) (hw : Cond.constant own q v ∈ wsL_law) (kk : kx_S Λ Γ nL N σ k n (pc + 3) lv (.int v :: st)) : kx_S Λ Γ nL N σ k n pc lv st := fun H locs ls hR hN hS hl => lv_ldcw K.1 K.2.1 K.2.2.2.1 (K.2.2.2.2.1 _ hw) hd (kk H locs ls hR hN hS hl)
/-- a word of the texts -/
theorem kx_ldcS (K : kx_K Λ Γ own cc nL ret rm tb) {q : Nat} (i : Nat) (hi : i < 22) (h1 : (ac_Wr i).1 = own) (h2 : (ac_Wr i).2.1 = q) (hd : decode cc pc = .ok (.ldc q, 2)) (kk : kx_S Λ Γ nL N σ k n (pc + 2) lv (.ref (ex_k Λ (ac_Wr i).2.2) :: st)) : kx_S Λ Γ nL N σ k n pc lv st := fun H locs ls hR hN hS hl => by
  have hZ := K.2.2.2.2.2.1.1.2.2.1 i hi
  rw [h1, h2] at hZ
  exact va_ldcS K.1 K.2.1 K.2.2.2.1 hZ hd (kk H locs ls hR hN hS hl)
end KX6

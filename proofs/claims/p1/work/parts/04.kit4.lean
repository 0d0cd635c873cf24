/-! MY OWN LAYER, fourth part: new arrays, of the one class that each kind of array has -/
section MyNews
variable {p : Program} {l : Launch} {e : Env} {R : Room} {s : State} {m : MethodId} {args : Array Value} {below : List Frame} {meth : Method} {c : Code} {H H0 : Heap} {locs : List Loc} {cells slots : Nat} {Q : State → Prop} {A : Nat → Prop}
variable {cc : ByteArray} {nL : Nat} {D : va_G} {cI cB : ClassId} {rest : List Value} {wsN ws : va_W} {own : String} {pc : Nat} {ls : Array Slot}
theorem RA_int {U : State} {cA : ClassId} (h : va_RA U cA .int) : U.vm.findClass "[I" = some cA := h
theorem RA_byte {U : State} {cA : ClassId} (h : va_RA U cA .byte) : U.vm.findClass "[B" = some cA := h
theorem p_newI {n : Int32} {N' : Nat} (FX : CallFix p m c cc nL s args bigW own) (harr : Cond.arrayClass .int ∈ bigW) (hK : va_K D KL (TY cI cB) s) (hP : va_P D KL ws H) (hD : va_D A ws) (hS : va_S A H0 H locs) (hA : ∀ q, H0.size ≤ q → A q)
    (hn : ¬ n < 0) (hN : n.toNatClampNeg = N') (hbytes : N' * 4 ≤ 536870912) (hcells : cells + 1 ≤ R.cells) (hslots : slots + N' ≤ R.slots) (hdg : decode cc pc = .ok (.newarray .int, 2))
    (kk : ∀ (q : Nat) (H1 : Heap), va_P D KL (ws ++ [(q, .inl (cI, N', .inl (fun _ => 0)))]) H1 → va_D A (ws ++ [(q, .inl (cI, N', .inl (fun _ => 0)))]) → va_S A H0 H1 locs →
      W p l e R s m args below meth c H1 locs (cells + 1) (slots + N') Q (F0 m (pc + 2) ls (.ref q :: rest))) : W p l e R s m args below meth c H locs cells slots Q (F0 m pc ls (.int n :: rest)) := by
  refine va_newa (atype := .int) (ty := .int) (a0 := (N', .inl (fun _ => 0))) FX.1 FX.2.1 (FX.2.2.2.2 _ harr) rfl hK hP hD hS hA (fun _ => rfl) hn hN hbytes hcells hslots hdg (fun q cA H1 hK1 hP1 hD1 hS1 => ?_)
  have h1 := (hK.2 0 (cI, .int) rfl).2
  have h2 := (hK1.2 2 (cA, .int) rfl).2
  have e1 : cA = cI := Option.some.inj ((RA_int h2).symm.trans (RA_int h1))
  subst e1
  exact kk q H1 hP1 hD1 hS1
theorem p_newB {n : Int32} {N' : Nat} (FX : CallFix p m c cc nL s args bigW own) (harr : Cond.arrayClass .byte ∈ bigW) (hK : va_K D KL (TY cI cB) s) (hP : va_P D KL ws H) (hD : va_D A ws) (hS : va_S A H0 H locs) (hA : ∀ q, H0.size ≤ q → A q)
    (hn : ¬ n < 0) (hN : n.toNatClampNeg = N') (hbytes : N' * 1 ≤ 536870912) (hcells : cells + 1 ≤ R.cells) (hslots : slots + N' ≤ R.slots) (hdg : decode cc pc = .ok (.newarray .byte, 2))
    (kk : ∀ (q : Nat) (H1 : Heap), va_P D KL (ws ++ [(q, .inl (cB, N', .inl (fun _ => 0)))]) H1 → va_D A (ws ++ [(q, .inl (cB, N', .inl (fun _ => 0)))]) → va_S A H0 H1 locs →
      W p l e R s m args below meth c H1 locs (cells + 1) (slots + N') Q (F0 m (pc + 2) ls (.ref q :: rest))) : W p l e R s m args below meth c H locs cells slots Q (F0 m pc ls (.int n :: rest)) := by
  refine va_newa (atype := .byte) (ty := .byte) (a0 := (N', .inl (fun _ => 0))) FX.1 FX.2.1 (FX.2.2.2.2 _ harr) rfl hK hP hD hS hA (fun _ => rfl) hn hN hbytes hcells hslots hdg (fun q cA H1 hK1 hP1 hD1 hS1 => ?_)
  have h1 := (hK.2 1 (cB, .byte) rfl).2
  have h2 := (hK1.2 2 (cA, .byte) rfl).2
  have e1 : cA = cB := Option.some.inj ((RA_byte h2).symm.trans (RA_byte h1))
  subst e1
  exact kk q H1 hP1 hD1 hS1
end MyNews

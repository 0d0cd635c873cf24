/-! MY OWN LAYER, second part: writers; throwers. -/
abbrev wX (cI : ClassId) (x bx px tx : Nat) (f g : Nat → Int32) (a s gt lf rf kn : Int32) : va_W := [(x, .inr (2, [.ref bx, .ref px, .ref tx, .int a, .int s, .int gt, .int lf, .int rf, .int kn])), (bx, .inl (cI, 6, .inl f)), (px, .inl (cI, 2, .inl g))]
abbrev wM (cI : ClassId) (o bo po : Nat) (th : Int32) (f g : Nat → Int32) (a s gt lf rf kn : Int32) : va_W := [(o, .inr (4, [.int th, .ref bo, .ref po, .int a, .int s, .int gt, .int lf, .int rf, .int kn])), (bo, .inl (cI, 6, .inl f)), (po, .inl (cI, 2, .inl g))]
theorem inX0 : ∀ w ∈ u_ws RX0 TX0 9, w ∈ bigW := by decide +kernel
theorem inX1 : ∀ w ∈ u_ws RX1 TX1 2, w ∈ bigW := by decide +kernel
theorem inX2 : ∀ w ∈ u_ws RX2 TX2 9, w ∈ bigW := by decide +kernel
theorem inJ0 : ∀ w ∈ u_ws RJ0 TJ0 4, w ∈ bigW := by decide +kernel
theorem inJ4 : ∀ w ∈ u_ws RJ4 TJ4 4, w ∈ bigW := by decide +kernel
theorem RMok.mk {rm R : Room} {n mc ms : Nat} (h : (decide (rm.cells = mc) && decide (rm.slots = ms) && Nat.ble (rm.frames + 1) R.frames && Nat.ble (8 + (n + 11) + rm.locals) R.locals) = true := by rfl) : RMok rm R n mc ms := by
  simp only [Bool.and_eq_true, decide_eq_true_eq] at h
  exact ⟨h.1.1.1, h.1.1.2, Nat.le_of_ble_eq_true h.1.2, Nat.le_of_ble_eq_true h.2⟩
theorem RMk.mk {rm R : Room} {n a b : Nat} (h1 : a ≤ R.frames) (h2 : b ≤ R.locals) (h : (decide (rm.cells = 0) && decide (rm.slots = 0) && Nat.ble (rm.frames + 1) a && Nat.ble (8 + (n + 11) + rm.locals) b) = true := by rfl) : RMok rm R n 0 0 := by
  simp only [Bool.and_eq_true, decide_eq_true_eq] at h
  exact ⟨h.1.1.1, h.1.1.2, Nat.le_trans (Nat.le_of_ble_eq_true h.1.2) h1, Nat.le_trans (Nat.le_of_ble_eq_true h.2) h2⟩
theorem RMk2.mk {rm R : Room} {n a b mc ms : Nat} (h1 : a ≤ R.frames) (h2 : b ≤ R.locals) (h : (decide (rm.cells = mc) && decide (rm.slots = ms) && Nat.ble (rm.frames + 1) a && Nat.ble (8 + (n + 11) + rm.locals) b) = true := by rfl) : RMok rm R n mc ms := by
  simp only [Bool.and_eq_true, decide_eq_true_eq] at h
  exact ⟨h.1.1.1, h.1.1.2, Nat.le_trans (Nat.le_of_ble_eq_true h.1.2) h1, Nat.le_trans (Nat.le_of_ble_eq_true h.2) h2⟩
theorem i32_ne {x : Int32} {k : Nat} (hk : k < 2 ^ 31) (h : ¬ x = Int32.ofNat k) : x.toInt ≠ (k : Int) := fun z => h (Int32.toInt_inj.mp (by rw [z]; exact (nI_toInt hk).symm))
theorem tabOut5 {x : Int32} (h0 : ¬ x = 0) (h1 : ¬ x = 1) (h2 : ¬ x = 2) (h3 : ¬ x = 3) (h4 : ¬ x = 4) : x.toInt < 0 ∨ (4 : Int) < x.toInt := by
  have e0 := i32_ne (k := 0) (by decide) h0; have e1 := i32_ne (k := 1) (by decide) h1; have e2 := i32_ne (k := 2) (by decide) h2; have e3 := i32_ne (k := 3) (by decide) h3; have e4 := i32_ne (k := 4) (by decide) h4
  omega
theorem tabOut4 {x : Int32} (h0 : ¬ x = 0) (h1 : ¬ x = 1) (h2 : ¬ x = 2) (h3 : ¬ x = 3) : x.toInt < 0 ∨ (3 : Int) < x.toInt := by
  have e0 := i32_ne (k := 0) (by decide) h0; have e1 := i32_ne (k := 1) (by decide) h1; have e2 := i32_ne (k := 2) (by decide) h2; have e3 := i32_ne (k := 3) (by decide) h3
  omega
theorem tabOut3 {x : Int32} (h0 : ¬ x = 0) (h1 : ¬ x = 1) (h2 : ¬ x = 2) : x.toInt < 0 ∨ (2 : Int) < x.toInt := by
  have e0 := i32_ne (k := 0) (by decide) h0; have e1 := i32_ne (k := 1) (by decide) h1; have e2 := i32_ne (k := 2) (by decide) h2
  omega
theorem tabOut8 {x : Int32} (h0 : ¬ x = 0) (h1 : ¬ x = 1) (h2 : ¬ x = 2) (h3 : ¬ x = 3) (h4 : ¬ x = 4) (h5 : ¬ x = 5) (h6 : ¬ x = 6) (h7 : ¬ x = 7) : x.toInt < 0 ∨ (7 : Int) < x.toInt := by
  have e0 := i32_ne (k := 0) (by decide) h0; have e1 := i32_ne (k := 1) (by decide) h1; have e2 := i32_ne (k := 2) (by decide) h2; have e3 := i32_ne (k := 3) (by decide) h3; have e4 := i32_ne (k := 4) (by decide) h4
  have e5 := i32_ne (k := 5) (by decide) h5; have e6 := i32_ne (k := 6) (by decide) h6; have e7 := i32_ne (k := 7) (by decide) h7
  omega
section MyWrites
variable {p : Program} {l : Launch} {e : Env} {R : Room} {s : State} {m : MethodId} {args : Array Value} {below : List Frame} {meth : Method} {c : Code} {H H0 : Heap} {locs : List Loc} {cells slots : Nat} {Q : State → Prop} {A : Nat → Prop}
variable {y : MethodName} {b cc : ByteArray} {n nL k idx mc ms : Nat} {r : Option FieldType} {rm : Room} {D : va_G} {cI cB : ClassId} {av rest st : List Value} {W0 W1 wr wsN : va_W} {ws : va_W} {own C ref : String} {pc : Nat} {ls : Array Slot}
theorem p_iald {a : Nat} {nn : Nat} {f : Nat → Int32} {i v : Int32} (FX : CallFix p m c cc nL s args bigW own) (hK : va_K D KL (TY cI cB) s) (hP : va_P D KL ws H) (q0 : Nat) (ha : ws[q0]? = some (a, .inl (cI, nn, .inl f))) (hin : vp_in i nn) (hdg : decode cc pc = .ok (.iaload, 1)) (hv : f i.toNatClampNeg = v)
    (kk : W p l e R s m args below meth c H locs cells slots Q (F0 m (pc + 1) ls (.int v :: rest))) : W p l e R s m args below meth c H locs cells slots Q (F0 m pc ls (.int i :: .ref a :: rest)) :=
  va_iald FX.1 FX.2.1 hK hP q0 0 ha rfl hin hdg (by rw [hv]; exact kk)
theorem p_iast {a : Nat} {nn : Nat} {f : Nat → Int32} {i x : Int32} (FX : CallFix p m c cc nL s args bigW own) (hK : va_K D KL (TY cI cB) s) (hP : va_P D KL ws H) (hD : va_D A ws) (hS : va_S A H0 H locs) (q0 : Nat) (ha : ws[q0]? = some (a, .inl (cI, nn, .inl f))) (hin : vp_in i nn) (hdg : decode cc pc = .ok (.iastore, 1)) (hN : ws.set q0 (a, .inl (cI, nn, .inl (upd f i.toNatClampNeg x))) = wsN)
    (kk : ∀ (H1 : Heap) (locs1 : List Loc), va_P D KL wsN H1 → va_D A wsN → va_S A H0 H1 locs1 → W p l e R s m args below meth c H1 locs1 cells slots Q (F0 m (pc + 1) ls rest)) : W p l e R s m args below meth c H locs cells slots Q (F0 m pc ls (.int x :: .int i :: .ref a :: rest)) := by
  subst hN
  exact va_iast FX.1 FX.2.1 hK hP hD hS q0 0 ha rfl hin hdg kk
theorem p_put {T : u_T} {N ci index : Nat} {a : Nat} (FX : CallFix p m c cc nL s args bigW own) (hin : ∀ w ∈ u_ws C T N, w ∈ bigW) {ty0 : Nat → FieldType} (hty : ∀ k, k < N → parseFieldDescriptor (T k).2.2.1 = some (ty0 k)) (hnm : ∀ a, a < N → ∀ b, b < N → a ≠ b → (T a).2.1 ≠ (T b).2.1) (hK : va_K D KL (TY cI cB) s) (hP : va_P D KL ws H) (hD : va_D A ws) (hS : va_S A H0 H locs) (q0 : Nat) {fs : List Value} (he : ws[q0]? = some (a, .inr (ci, fs))) (hc : KL[ci]? = some (C, T, N)) (k : Nat) (hk : k < N) (hlink : (Cond.fieldLink own index (T k).1 (T k).2.1 (T k).2.2.1).before args s = true) (hfin : (T k).2.2.2 = false) {ty : FieldType} {v : Value} (hd : parseFieldDescriptor (T k).2.2.1 = some ty) (hn : narrow ty v = v) (hfit : fits ty v = true) (hl : k < fs.length)
    (hdg : decode cc pc = .ok (.putfield index, 3)) (hN : ws.set q0 (a, .inr (ci, fs.set k v)) = wsN) (kk : ∀ (H1 : Heap) (locs1 : List Loc), va_P D KL wsN H1 → va_D A wsN → va_S A H0 H1 locs1 → W p l e R s m args below meth c H1 locs1 cells slots Q (F0 m (pc + 3) ls rest)) : W p l e R s m args below meth c H locs cells slots Q (F0 m pc ls (v :: .ref a :: rest)) := by
  subst hN
  exact va_put FX.1 FX.2.1 FX.2.2.2.2 hin ty0 hty hnm FX.2.2.2.1 hK hP hD hS q0 he hc k hk hlink (fun _ h => h) hfin hd hn hfit hl hdg kk
/-- a writer's world at its start -/
def PW (D : va_G) (cI cB : ClassId) (W0 : va_W) (sz : Nat) : State → Prop := fun U => U.heap.size = sz ∧ va_P D KL W0 U.heap ∧ va_K D KL (TY cI cB) U ∧ va_D (fun _ => True) W0
theorem PW.blind {W0 : va_W} {sz : Nat} : FrameBlind (va_Pc av (PW D cI cB W0 sz)) := fun a U g mk q => by
  obtain ⟨q0, q1, qP, qK, qD⟩ := q
  exact ⟨q0, q1, qP, va_K.moved (u := U) (U := U.calling g mk a) (Vm.Alike.refl U.vm) qK, qD⟩
/-- and at its end -/
def BW (D : va_G) (cI cB : ClassId) (W1 : va_W) (A : Nat → Prop) : State → Prop := fun t => va_P D KL W1 t.heap ∧ va_K D KL (TY cI cB) t ∧ va_D A W1
def WR (l : Launch) (y : MethodName) (b : ByteArray) (n : Nat) (r : Option FieldType) (rm : Room) (D : va_G) (cI cB : ClassId) (av : List Value) (W0 : va_W) (v : Int32) (W1 : va_W) (mc ms : Nat) : Prop :=
  ∀ sz : Nat, Met l y (mW y b n r) rm (va_Pc av (PW D cI cB W0 sz)) (va_Qi (fun (q : Int32) (_ : Unit) => q = v) (fun _ => BW D cI cB W1 (va_A W0 sz)) (va_A W0 sz)) mc ms (va_A W0 sz)
def WRl (l : Launch) (y : MethodName) (b : ByteArray) (n : Nat) (r : Option FieldType) (rm : Room) (D : va_G) (cI cB : ClassId) (av : List Value) (W0 : va_W) (v : Int64) (W1 : va_W) (mc ms : Nat) : Prop :=
  ∀ sz : Nat, Met l y (mW y b n r) rm (va_Pc av (PW D cI cB W0 sz)) (va_Ql (fun (q : Int64) (_ : Unit) => q = v) (fun _ => BW D cI cB W1 (va_A W0 sz)) (va_A W0 sz)) mc ms (va_A W0 sz)
def WRv (l : Launch) (y : MethodName) (b : ByteArray) (n : Nat) (r : Option FieldType) (rm : Room) (D : va_G) (cI cB : ClassId) (av : List Value) (W0 : va_W) (W1 : va_W) (mc ms : Nat) : Prop :=
  ∀ sz : Nat, Met l y (mW y b n r) rm (va_Pc av (PW D cI cB W0 sz)) (va_Qv (fun (_ : Unit) => True) (fun _ => BW D cI cB W1 (va_A W0 sz)) (va_A W0 sz)) mc ms (va_A W0 sz)
/-- what a writer's body starts from -/
abbrev WST (p : Program) (l : Launch) (e : Env) (s : State) (m : MethodId) (args : Array Value) (below : List Frame) (meth : Method) (c : Code) (ls : Array Slot) (A : Nat → Prop) (y : MethodName) (b : ByteArray) (n : Nat) (r : Option FieldType) (D : va_G) (cI cB : ClassId) (av : List Value) (W0 : va_W) : Prop :=
  CallFix p m c b n s args bigW y.cls ∧ meth.sig.returnType = r ∧ meth.locks = false ∧ va_K D KL (TY cI cB) s ∧ va_P D KL W0 s.heap ∧ va_D A W0 ∧ va_S A s.heap s.heap [] ∧ (∀ q : Nat, s.heap.size ≤ q → A q) ∧ lv_has ls n (lv_args 0 av)
theorem bodyWR {v : Int32} (hy : plainFor y = true) (hlen : (lg_sl av).length ≤ n)
    (body : ∀ (p : Program) (e : Env) (s : State) (m : MethodId) (args : Array Value) (below : List Frame) (meth : Method) (c : Code) (ls : Array Slot) (A : Nat → Prop), WST p l e s m args below meth c ls A y b n r D cI cB av W0 →
      W p l e rm s m args below meth c s.heap [] 0 0 (MQ below (va_Qi (fun (q : Int32) (_ : Unit) => q = v) (fun _ => BW D cI cB W1 A) A) args s mc ms A) (F0 m 0 ls [])) : WR l y b n r rm D cI cB av W0 v W1 mc ms := by
  intro sz
  refine my_ofW (cc := b) (maxL := n) (ret := r) hy rfl ?_
  intro p e s m args below meth c s₁ B hml hv
  obtain ⟨rfl, hsz, hP, hK, hD0⟩ := hv
  subst hsz
  have hts := atoms_spec (ws := mW y b n r) B.pre
  rw [lg_entry_eq]
  exact body p e s m _ below meth c _ _ ⟨⟨B.exec, B.bytes, hml, findClass_of_methodNamed B.named, fun w h => hts w (List.mem_cons_of_mem _ h)⟩, B.returns, B.notSynchronized, hK, hP, hD0.self, va_S.rf, fun q h => Or.inr h, lv_entry av hlen⟩
theorem bodyWRl {v : Int64} (hy : plainFor y = true) (hlen : (lg_sl av).length ≤ n)
    (body : ∀ (p : Program) (e : Env) (s : State) (m : MethodId) (args : Array Value) (below : List Frame) (meth : Method) (c : Code) (ls : Array Slot) (A : Nat → Prop), WST p l e s m args below meth c ls A y b n r D cI cB av W0 →
      W p l e rm s m args below meth c s.heap [] 0 0 (MQ below (va_Ql (fun (q : Int64) (_ : Unit) => q = v) (fun _ => BW D cI cB W1 A) A) args s mc ms A) (F0 m 0 ls [])) : WRl l y b n r rm D cI cB av W0 v W1 mc ms := by
  intro sz
  refine my_ofW (cc := b) (maxL := n) (ret := r) hy rfl ?_
  intro p e s m args below meth c s₁ B hml hv
  obtain ⟨rfl, hsz, hP, hK, hD0⟩ := hv
  subst hsz
  have hts := atoms_spec (ws := mW y b n r) B.pre
  rw [lg_entry_eq]
  exact body p e s m _ below meth c _ _ ⟨⟨B.exec, B.bytes, hml, findClass_of_methodNamed B.named, fun w h => hts w (List.mem_cons_of_mem _ h)⟩, B.returns, B.notSynchronized, hK, hP, hD0.self, va_S.rf, fun q h => Or.inr h, lv_entry av hlen⟩
theorem bodyWRv (hy : plainFor y = true) (hlen : (lg_sl av).length ≤ n)
    (body : ∀ (p : Program) (e : Env) (s : State) (m : MethodId) (args : Array Value) (below : List Frame) (meth : Method) (c : Code) (ls : Array Slot) (A : Nat → Prop), WST p l e s m args below meth c ls A y b n r D cI cB av W0 →
      W p l e rm s m args below meth c s.heap [] 0 0 (MQ below (va_Qv (fun (_ : Unit) => True) (fun _ => BW D cI cB W1 A) A) args s mc ms A) (F0 m 0 ls [])) : WRv l y b n r rm D cI cB av W0 W1 mc ms := by
  intro sz
  refine my_ofW (cc := b) (maxL := n) (ret := r) hy rfl ?_
  intro p e s m args below meth c s₁ B hml hv
  obtain ⟨rfl, hsz, hP, hK, hD0⟩ := hv
  subst hsz
  have hts := atoms_spec (ws := mW y b n r) B.pre
  rw [lg_entry_eq]
  exact body p e s m _ below meth c _ _ ⟨⟨B.exec, B.bytes, hml, findClass_of_methodNamed B.named, fun w h => hts w (List.mem_cons_of_mem _ h)⟩, B.returns, B.notSynchronized, hK, hP, hD0.self, va_S.rf, fun q h => Or.inr h, lv_entry av hlen⟩
theorem retWR {v v' : Int32} {ty : FieldType} (FX : CallFix p m c cc nL s args bigW own) (hr : meth.sig.returnType = some ty) (hlk : meth.locks = false) (hdg : decode cc pc = .ok (.ireturn, 1)) (hn : narrow ty (.int v') = .int v') (hP : va_P D KL ws H) (hK : va_K D KL (TY cI cB) s) (hD : va_D A ws) (hS : va_S A s.heap H locs) (h1 : cells ≤ mc) (h2 : slots ≤ ms) (ev : v' = v) (ew : ws = W1) :
    W p l e R s m args below meth c H locs cells slots (MQ below (va_Qi (fun (q : Int32) (_ : Unit) => q = v) (fun _ => BW D cI cB W1 A) A) args s mc ms A) (F0 m pc ls [.int v']) := by
  subst ew
  exact W.widen h1 h2 (W.zret FX.1 FX.2.1 hr hn (fun t ht hW => ⟨⟨v', (), rfl, ev, by rw [ht]; exact hP, va_K.moved hW.alike hK, hD⟩, hS.F ht⟩) hS.2.2 hdg hlk)
theorem retWRl {v v' : Int64} (FX : CallFix p m c cc nL s args bigW own) (hr : meth.sig.returnType = some .long) (hlk : meth.locks = false) (hdg : decode cc pc = .ok (.lreturn, 1)) (hP : va_P D KL ws H) (hK : va_K D KL (TY cI cB) s) (hD : va_D A ws) (hS : va_S A s.heap H locs) (h1 : cells ≤ mc) (h2 : slots ≤ ms) (ev : v' = v) (ew : ws = W1) :
    W p l e R s m args below meth c H locs cells slots (MQ below (va_Ql (fun (q : Int64) (_ : Unit) => q = v) (fun _ => BW D cI cB W1 A) A) args s mc ms A) (F0 m pc ls [.long v']) := by
  subst ew
  exact W.widen h1 h2 (W.lret FX.1 FX.2.1 hr (fun t ht hW => ⟨⟨v', (), rfl, ev, by rw [ht]; exact hP, va_K.moved hW.alike hK, hD⟩, hS.F ht⟩) hS.2.2 hdg hlk)
theorem retWRv (FX : CallFix p m c cc nL s args bigW own) (hr : meth.sig.returnType = none) (hlk : meth.locks = false) (hdg : decode cc pc = .ok (.return_, 1)) (hP : va_P D KL ws H) (hK : va_K D KL (TY cI cB) s) (hD : va_D A ws) (hS : va_S A s.heap H locs) (h1 : cells ≤ mc) (h2 : slots ≤ ms) (ew : ws = W1) :
    W p l e R s m args below meth c H locs cells slots (MQ below (va_Qv (fun (_ : Unit) => True) (fun _ => BW D cI cB W1 A) A) args s mc ms A) (F0 m pc ls []) := by
  subst ew
  exact W.widen h1 h2 (W.vret FX.1 FX.2.1 hr (fun t ht hW => ⟨⟨(), rfl, trivial, by rw [ht]; exact hP, va_K.moved hW.alike hK, hD⟩, hS.F ht⟩) hS.2.2 hdg hlk)
/-- the world behind a call, in the order that is asked for -/
theorem my_join {H1 : Heap} (hP : va_P D KL ws H) (hD : va_D A ws) (isC isR : List Nat) (hC : isC.map (fun i => ws[i]?) = W0.map some) (hR : isR.map (fun i => ws[i]?) = wr.map some) (hn : va_nd isR = true) (hdis : ∀ i ∈ isR, i ∉ isC)
    (hk : ∀ q : Nat, q < H.size → ¬ va_A W0 H.size q → H1[q]? = H[q]?) (hF : ∀ q, va_A W0 H.size q → A q) (hP1 : va_P D KL W1 H1) (hD1 : va_D (va_A W0 H.size) W1) (isN : List Nat) (hN : isN.map (fun i => (wr ++ W1)[i]?) = wsN.map some) (hnN : va_nd isN = true) : va_P D KL wsN H1 ∧ va_D A wsN := by
  obtain ⟨a, b⟩ := va_join hP hD isC isR hC hR hn hdis hk hF hP1 hD1
  refine ⟨fun k q hq => ?_, b.sub isN hnN hN⟩
  have h1 : (isN.map (fun i => (wr ++ W1)[i]?))[k]? = some (some q) := by rw [hN, List.getElem?_map, hq]; rfl
  rw [List.getElem?_map] at h1
  cases hi : isN[k]? with
  | none => rw [hi] at h1; cases h1
  | some i => rw [hi] at h1; exact a i q (Option.some.inj h1)
theorem my_preW (hK : va_K D KL (TY cI cB) s) (hP : va_P D KL ws H) (hD : va_D A ws) (isC : List Nat) (hC : isC.map (fun i => ws[i]?) = W0.map some) (hnC : va_nd isC = true) (U : State) (hU : U.heap = H) (hWm : s.WarmedH U.vm) : PW D cI cB W0 H.size U := by
  have hD1 : va_D A W0 := hD.sub isC hnC hC
  refine ⟨by rw [hU], ?_, va_K.moved hWm.alike hK, hD1.weaken (fun _ _ _ _ => trivial)⟩
  rw [hU]
  intro k q hq
  have h1 : (isC.map (fun i => ws[i]?))[k]? = some (some q) := by rw [hC, List.getElem?_map, hq]; rfl
  rw [List.getElem?_map] at h1
  cases hi : isC[k]? with
  | none => rw [hi] at h1; cases h1
  | some i => rw [hi] at h1; exact hP i q (Option.some.inj h1)
theorem c_WRV {v : Int32} {b0 i0 ci : Nat} {q : vw_C} {fs : List Value} (FX : CallFix p m c cc nL s args bigW own) (hM : WR l y b n r rm D cI cB (.ref b0 :: av) W0 v W1 mc ms) (hI : MIv C y b n r k) (hk : av.length = k) (hl : Cond.methodLink own idx y ∈ bigW) (hR : RMok rm R n mc ms)
    (hls : ls.size = nL) (hst : st = av.reverse ++ .ref b0 :: rest) (hcat : (rest.map fun v => v.category).sum ≤ 8) (hdg : decode cc pc = .ok (.invokevirtual idx, 3)) (hf : cells + mc ≤ R.cells ∧ slots + ms ≤ R.slots)
    (hK : va_K D KL (TY cI cB) s) (hP : va_P D KL ws H) (hD : va_D A ws) (hS : va_S A H0 H locs) (hA : ∀ q : Nat, H0.size ≤ q → A q) (isC : List Nat) (hC : isC.map (fun i => ws[i]?) = W0.map some) (isR : List Nat) (hRr : isR.map (fun i => ws[i]?) = wr.map some) (hnC : va_nd isC = true) (hnd : va_nd isR = true ∧ ∀ i ∈ isR, i ∉ isC) (isN : List Nat) (hN : isN.map (fun i => (wr ++ W1)[i]?) = wsN.map some) (hnN : va_nd isN = true)
    (he : ws[i0]? = some (b0, .inr (ci, fs))) (hc : KL[ci]? = some q) (hq : q.1 = C)
    (kk : ∀ (H1 : Heap) (locs1 : List Loc), va_P D KL wsN H1 → va_D A wsN → va_S A H0 H1 locs1 → W p l e R s m args below meth c H1 locs1 (cells + mc) (slots + ms) Q (F0 m (pc + 3) ls (.int v :: rest))) : W p l e R s m args below meth c H locs cells slots Q (F0 m pc ls st) := by
  have hF := va_free hD hS hA isC hC
  refine va_calli (va_runV FX (hM H.size) (my_cwV FX.2.2.2.2 hI hl hR) ⟨PW.blind, my_recv hK hP hc hq he, fun U hU hWm => ⟨rfl, my_preW hK hP hD isC hC hnC U hU hWm⟩⟩ rfl hk hls hst (lv_room hcat) hdg hf) hS (fun q _ h => hF q h) hF (fun z u t H1 locs1 ht hvm hw hB hz1 hk1 hS1 => ?_)
  obtain ⟨hP1, hK1, hD1⟩ := hB
  rw [ht] at hP1
  obtain ⟨a, b⟩ := my_join hP hD isC isR hC hRr hnd.1 hnd.2 hk1 hF hP1 hD1 isN hN hnN
  have e9 : z = v := hw
  subst e9
  exact kk H1 locs1 a b hS1
theorem c_WRlV {v : Int64} {b0 i0 ci : Nat} {q : vw_C} {fs : List Value} (FX : CallFix p m c cc nL s args bigW own) (hM : WRl l y b n r rm D cI cB (.ref b0 :: av) W0 v W1 mc ms) (hI : MIv C y b n r k) (hk : av.length = k) (hl : Cond.methodLink own idx y ∈ bigW) (hR : RMok rm R n mc ms)
    (hls : ls.size = nL) (hst : st = av.reverse ++ .ref b0 :: rest) (hcat : (rest.map fun v => v.category).sum ≤ 8) (hdg : decode cc pc = .ok (.invokevirtual idx, 3)) (hf : cells + mc ≤ R.cells ∧ slots + ms ≤ R.slots)
    (hK : va_K D KL (TY cI cB) s) (hP : va_P D KL ws H) (hD : va_D A ws) (hS : va_S A H0 H locs) (hA : ∀ q : Nat, H0.size ≤ q → A q) (isC : List Nat) (hC : isC.map (fun i => ws[i]?) = W0.map some) (isR : List Nat) (hRr : isR.map (fun i => ws[i]?) = wr.map some) (hnC : va_nd isC = true) (hnd : va_nd isR = true ∧ ∀ i ∈ isR, i ∉ isC) (isN : List Nat) (hN : isN.map (fun i => (wr ++ W1)[i]?) = wsN.map some) (hnN : va_nd isN = true)
    (he : ws[i0]? = some (b0, .inr (ci, fs))) (hc : KL[ci]? = some q) (hq : q.1 = C)
    (kk : ∀ (H1 : Heap) (locs1 : List Loc), va_P D KL wsN H1 → va_D A wsN → va_S A H0 H1 locs1 → W p l e R s m args below meth c H1 locs1 (cells + mc) (slots + ms) Q (F0 m (pc + 3) ls (.long v :: rest))) : W p l e R s m args below meth c H locs cells slots Q (F0 m pc ls st) := by
  have hF := va_free hD hS hA isC hC
  refine va_calll (va_runV FX (hM H.size) (my_cwV FX.2.2.2.2 hI hl hR) ⟨PW.blind, my_recv hK hP hc hq he, fun U hU hWm => ⟨rfl, my_preW hK hP hD isC hC hnC U hU hWm⟩⟩ rfl hk hls hst (lv_room hcat) hdg hf) hS (fun q _ h => hF q h) hF (fun z u t H1 locs1 ht hvm hw hB hz1 hk1 hS1 => ?_)
  obtain ⟨hP1, hK1, hD1⟩ := hB
  rw [ht] at hP1
  obtain ⟨a, b⟩ := my_join hP hD isC isR hC hRr hnd.1 hnd.2 hk1 hF hP1 hD1 isN hN hnN
  have e9 : z = v := hw
  subst e9
  exact kk H1 locs1 a b hS1
theorem c_WRvV {b0 i0 ci : Nat} {q : vw_C} {fs : List Value} (FX : CallFix p m c cc nL s args bigW own) (hM : WRv l y b n r rm D cI cB (.ref b0 :: av) W0 W1 mc ms) (hI : MIv C y b n r k) (hk : av.length = k) (hl : Cond.methodLink own idx y ∈ bigW) (hR : RMok rm R n mc ms)
    (hls : ls.size = nL) (hst : st = av.reverse ++ .ref b0 :: rest) (hcat : (rest.map fun v => v.category).sum ≤ 8) (hdg : decode cc pc = .ok (.invokevirtual idx, 3)) (hf : cells + mc ≤ R.cells ∧ slots + ms ≤ R.slots)
    (hK : va_K D KL (TY cI cB) s) (hP : va_P D KL ws H) (hD : va_D A ws) (hS : va_S A H0 H locs) (hA : ∀ q : Nat, H0.size ≤ q → A q) (isC : List Nat) (hC : isC.map (fun i => ws[i]?) = W0.map some) (isR : List Nat) (hRr : isR.map (fun i => ws[i]?) = wr.map some) (hnC : va_nd isC = true) (hnd : va_nd isR = true ∧ ∀ i ∈ isR, i ∉ isC) (isN : List Nat) (hN : isN.map (fun i => (wr ++ W1)[i]?) = wsN.map some) (hnN : va_nd isN = true)
    (he : ws[i0]? = some (b0, .inr (ci, fs))) (hc : KL[ci]? = some q) (hq : q.1 = C)
    (kk : ∀ (H1 : Heap) (locs1 : List Loc), va_P D KL wsN H1 → va_D A wsN → va_S A H0 H1 locs1 → W p l e R s m args below meth c H1 locs1 (cells + mc) (slots + ms) Q (F0 m (pc + 3) ls rest)) : W p l e R s m args below meth c H locs cells slots Q (F0 m pc ls st) := by
  have hF := va_free hD hS hA isC hC
  refine va_callv (va_runV FX (hM H.size) (my_cwV FX.2.2.2.2 hI hl hR) ⟨PW.blind, my_recv hK hP hc hq he, fun U hU hWm => ⟨rfl, my_preW hK hP hD isC hC hnC U hU hWm⟩⟩ rfl hk hls hst (lv_room hcat) hdg hf) hS (fun q _ h => hF q h) hF (fun u t H1 locs1 ht hvm hw hB hz1 hk1 hS1 => ?_)
  obtain ⟨hP1, hK1, hD1⟩ := hB
  rw [ht] at hP1
  obtain ⟨a, b⟩ := my_join hP hD isC isR hC hRr hnd.1 hnd.2 hk1 hF hP1 hD1 isN hN hnN
  exact kk H1 locs1 a b hS1
end MyWrites

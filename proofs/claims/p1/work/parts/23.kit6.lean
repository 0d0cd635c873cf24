/-! MY OWN LAYER, sixth part: methods with an exception table (the law's helpers), and calls of them; calls that throw and are caught -/
def hW (y : MethodName) (b : ByteArray) (n : Nat) (r : Option FieldType) (hh : List (Nat × Nat × Nat × Nat)) : List Cond := .codeWith y b n r hh :: bigW
theorem gih {y : MethodName} {b : ByteArray} {n : Nat} {r : Option FieldType} {hh : List (Nat × Nat × Nat × Nat)} (h : Cond.codeWith y b n r hh ∈ bigW) : GoodIn bigW (hW y b n r hh) := fun w hw => by
  rcases List.mem_cons.mp hw with e | e
  · subst e; exact ⟨h, good_of_word (bigW_good _ h)⟩
  · exact ⟨e, good_of_word (bigW_good _ e)⟩
abbrev MIh (y : MethodName) (b : ByteArray) (n : Nat) (r : Option FieldType) (hh : List (Nat × Nat × Nat × Nat)) (k : Nat) : Prop :=
  Cond.codeWith y b n r hh ∈ bigW ∧ Cond.initialized y.cls ∈ bigW ∧ Cond.static y ∈ bigW ∧ (y.cls ≠ "java/lang/invoke/MethodHandle" ∧ y.cls ≠ "java/lang/invoke/VarHandle" ∧ (parseMethodDescriptor y.desc).map (fun d => d.parameters.length) = some k)
/-- which exceptions are none of a handler's kind -/
def ncs : List (String × String) := [("java/lang/IllegalArgumentException", "java/lang/IndexOutOfBoundsException"), ("java/lang/IllegalStateException", "java/lang/IndexOutOfBoundsException"), ("java/lang/IndexOutOfBoundsException", "java/lang/IllegalArgumentException")]
def zN : (Nat → Prop) → State → Heap → Prop := fun _ U _ => ∀ q ∈ ncs, va_Nc q.1 q.2 U
theorem zN_ok : ZOK zN := ⟨fun _ _ _ _ a _ z q hq => va_Nc.moved a (z q hq), fun _ u _ _ e z q hq => va_Nc.moved (by rw [e]; exact Vm.Alike.refl u.vm) (z q hq), fun _ _ _ _ z _ => z, fun _ _ _ _ z _ => z⟩
/-- a field of a nest mate -/
def zF (own : String) (k : Nat) (C n d host : String) : (Nat → Prop) → State → Heap → Prop := fun _ U _ => va_Nw (.fieldLinkNest own k C n d host) U
theorem zF_ok {own C n d host : String} {k : Nat} : ZOK (zF own k C n d host) := ⟨fun _ _ _ _ _ w z => va_Nw.warmF w z, fun _ _ _ _ e z => va_Nw.same rfl e.symm z, fun _ _ _ _ z _ => z, fun _ _ _ _ z _ => z⟩
def JH {S : Type} (l : Launch) (y : MethodName) (b : ByteArray) (n : Nat) (r : Option FieldType) (hh : List (Nat × Nat × Nat × Nat)) (rm : Room) (D : va_G) (cI cB : ClassId) (av : List Value) (W0 : va_W) (Z : (Nat → Prop) → State → Heap → Prop) (ret : S → Option Value) (P : S → Prop) (W1 : S → va_W) (mc ms : Nat) : Prop :=
  ∀ sz : Nat, Met l y (hW y b n r hh) rm (va_Pc av (PJ D cI cB W0 Z sz)) (QJ ret P D cI cB W1 (va_A W0 sz)) mc ms (va_A W0 sz)
theorem my_ofWH {l : Launch} {y : MethodName} {ws ws' : List Cond} {rm : Room} {Pc : Array Value → State → Prop} {Qc : Array Value → State → Outcome → State → Prop} {mc ms : Nat} {free : Addr → Prop} {cc : ByteArray} {maxL : Nat} {ret : Option FieldType} {hh : List (Nat × Nat × Nat × Nat)}
    (hy : plainName y.cls = true) (hw : ws = Cond.codeWith y cc maxL ret hh :: ws')
    (body : ∀ p e s m args below meth c s₁, BodyLoose p l y (headSpec ws rm) cc maxL ret e s m args below meth c s₁ → c.maxLocals = maxL → Pc args s →
      W p l e (headSpec ws rm).room s m args below meth c s.heap [] 0 0 (MQ below Qc args s mc ms free) (entryFrame m args maxL)) : Met l y ws rm Pc Qc mc ms free := by
  refine MetFree.of_bodyS (code := cc) (maxLocals := maxL) (ret := ret) hy ?_ ?_
  · intro args s m h hn
    obtain ⟨m9, meth, c, hn9, h1, h2, h3, h4, -, h5, h6, -⟩ := Cond.codeWith_spec (atoms_spec (ws := ws) h _ (by rw [hw]; exact List.mem_cons_self))
    cases hn.symm.trans hn9
    exact ⟨meth, c, h1, h2, h3, h4, h5, h6⟩
  · intro p e s m args below meth c s₁ B hml hP _
    have hh0 : s₁.heap = s.heap := by rw [B.state]; rfl
    obtain ⟨t, a1, o, b1, b2, b3⟩ := body p e s m args below meth c s₁ B hml hP s₁ hh0 (Stand.of_body B)
    exact ⟨t, o, a1, b1, b2, ⟨b3.1, b3.2⟩⟩
abbrev HST (p : Program) (l : Launch) (e : Env) (s : State) (m : MethodId) (args : Array Value) (below : List Frame) (meth : Method) (c : Code) (ls : Array Slot) (A : Nat → Prop) (y : MethodName) (b : ByteArray) (n : Nat) (r : Option FieldType) (hh : List (Nat × Nat × Nat × Nat)) (D : va_G) (cI cB : ClassId) (av : List Value) (W0 : va_W) (Z : (Nat → Prop) → State → Heap → Prop) : Prop :=
  CallFix p m c b n s args bigW y.cls ∧ meth.sig.returnType = r ∧ meth.locks = false ∧ va_K D KL (TY cI cB) s ∧ va_P D KL W0 s.heap ∧ va_D A W0 ∧ va_S A s.heap s.heap [] ∧ (∀ q : Nat, s.heap.size ≤ q → A q) ∧ Z A s s.heap ∧ c.exceptionTable.toList = tableOf hh ∧ lv_has ls n (lv_args 0 av)
section MyH
variable {S : Type} {p : Program} {l : Launch} {e : Env} {R : Room} {s : State} {m : MethodId} {args : Array Value} {below : List Frame} {meth : Method} {c : Code} {H H0 : Heap} {locs : List Loc} {cells slots : Nat} {Q : State → Prop} {A : Nat → Prop}
variable {x y : MethodName} {b cc : ByteArray} {n nL k idx mc ms ek : Nat} {r : Option FieldType} {hh : List (Nat × Nat × Nat × Nat)} {rm : Room} {D : va_G} {cI cB : ClassId} {av rest st : List Value} {W0 wr : va_W} {W1 wsN : S → va_W} {ws : va_W} {own C owner : String} {pc : Nat} {ls : Array Slot} {Z : (Nat → Prop) → State → Heap → Prop} {ret : S → Option Value} {P : S → Prop}
theorem bodyJH (hy : plainName y.cls = true) (hlen : (lg_sl av).length ≤ n)
    (body : ∀ (p : Program) (e : Env) (s : State) (m : MethodId) (args : Array Value) (below : List Frame) (meth : Method) (c : Code) (ls : Array Slot) (A : Nat → Prop), HST p l e s m args below meth c ls A y b n r hh D cI cB av W0 Z →
      W p l e rm s m args below meth c s.heap [] 0 0 (MQ below (QJ ret P D cI cB W1 A) args s mc ms A) (F0 m 0 ls [])) : JH l y b n r hh rm D cI cB av W0 Z ret P W1 mc ms := by
  intro sz
  refine my_ofWH (cc := b) (maxL := n) (ret := r) (hh := hh) hy rfl ?_
  intro p e s m args below meth c s₁ B hml hv
  obtain ⟨rfl, hsz, hP, hK, hD0, hz⟩ := hv
  subst hsz
  have hts := atoms_spec (ws := hW y b n r hh) B.pre
  have htb := vx_table (x := y) B (hts _ List.mem_cons_self)
  rw [lg_entry_eq]
  exact body p e s m _ below meth c _ _ ⟨⟨B.exec, B.bytes, hml, findClass_of_methodNamed B.named, fun w h => hts w (List.mem_cons_of_mem _ h)⟩, B.returns, B.notSynchronized, hK, hP, hD0.self, va_S.rf, fun q h => Or.inr h, hz, htb, lv_entry av hlen⟩
theorem my_cwSW (hT : ∀ w ∈ bigW, w.before args s = true) (hM : MIh y b n r hh k) (hl : Cond.methodLink own idx y ∈ bigW) (hR : RMok rm R n mc ms) : vx_CSW R s args own idx y b n r hh (hW y b n r hh) rm mc ms k :=
  vx_cwSW k hT (gi_app (a := [.methodLink own idx y, .static y, .initialized y.cls]) (fun w hw => by
    rcases List.mem_cons.mp hw with e | hw
    · rw [e]; exact hl
    rcases List.mem_cons.mp hw with e | hw
    · rw [e]; exact hM.2.2.1
    rw [List.mem_singleton.mp hw]; exact hM.2.1) (gih hM.1)) rfl hR.1 hR.2.1 hM.2.2.2 ⟨hR.2.2.1, hR.2.2.2⟩
theorem p_putN {T : u_T} {N ci index : Nat} {a : Nat} {host : String} (FX : CallFix p m c cc nL s args bigW own) (hin : ∀ w ∈ u_ws C T N, w ∈ bigW) {ty0 : Nat → FieldType} (hty : ∀ k, k < N → parseFieldDescriptor (T k).2.2.1 = some (ty0 k)) (hnm : ∀ a, a < N → ∀ b, b < N → a ≠ b → (T a).2.1 ≠ (T b).2.1) (hK : va_K D KL (TY cI cB) s) (hP : va_P D KL ws H) (hD : va_D A ws) (hS : va_S A H0 H locs) (q0 : Nat) {fs : List Value} (he : ws[q0]? = some (a, .inr (ci, fs))) (hc : KL[ci]? = some (C, T, N)) (k : Nat) (hk : k < N) (hlink : va_Nw (.fieldLinkNest own index (T k).1 (T k).2.1 (T k).2.2.1 host) s) (hfin : (T k).2.2.2 = false) {ty : FieldType} {v : Value} (hd : parseFieldDescriptor (T k).2.2.1 = some ty) (hn : narrow ty v = v) (hfit : fits ty v = true) (hl : k < fs.length) {wsN : va_W}
    (hdg : decode cc pc = .ok (.putfield index, 3)) (hN : ws.set q0 (a, .inr (ci, fs.set k v)) = wsN) (kk : ∀ (H1 : Heap) (locs1 : List Loc), va_P D KL wsN H1 → va_D A wsN → va_S A H0 H1 locs1 → W p l e R s m args below meth c H1 locs1 cells slots Q (F0 m (pc + 3) ls rest)) : W p l e R s m args below meth c H locs cells slots Q (F0 m pc ls (v :: .ref a :: rest)) := by
  subst hN
  exact va_putN (host := host) FX.1 FX.2.1 FX.2.2.2.2 hin ty0 hty hnm FX.2.2.2.1 hK hP hD hS q0 he hc k hk (va_Nw.use rfl hlink) (fun _ h => h) hfin hd hn hfit hl hdg kk
theorem p_getN {T : u_T} {N ci index : Nat} {a : Nat} {host : String} (FX : CallFix p m c cc nL s args bigW own) (hin : ∀ w ∈ u_ws C T N, w ∈ bigW) (hK : va_K D KL (TY cI cB) s) (hP : va_P D KL ws H) (q0 : Nat) {fs : List Value} (he : ws[q0]? = some (a, .inr (ci, fs))) (hc : KL[ci]? = some (C, T, N)) (k : Nat) (hk : k < N) (hlink : va_Nw (.fieldLinkNest own index (T k).1 (T k).2.1 (T k).2.2.1 host) s) {v : Value} (hv : fs[k]? = some v)
    (hdg : decode cc pc = .ok (.getfield index, 3)) (kk : W p l e R s m args below meth c H locs cells slots Q (F0 m (pc + 3) ls (v :: rest))) : W p l e R s m args below meth c H locs cells slots Q (F0 m pc ls (.ref a :: rest)) :=
  va_getN (host := host) FX.1 FX.2.1 FX.2.2.2.2 hin FX.2.2.2.1 hK hP q0 he hc k hk (va_Nw.use rfl hlink) (fun _ h => h) hv hdg kk
/-- a call of an object's method that throws, caught by the first handler -/
theorem c_XV1 {b0 i0 ci k2 : Nat} {q : vw_C} {fs : List Value} {h1 : Nat × Nat × Nat × Nat} {hs : List (Nat × Nat × Nat × Nat)} (FX : CallFix p m c cc nL s args bigW own) (hM : XT l y b n r rm D cI cB (.ref b0 :: av) W0 ek) (hek : ek = k2) (hI : MIv C y b n r k) (hk : av.length = k) (hl : Cond.methodLink own idx y ∈ bigW) (hR : RMok rm R n 1 6)
    (hls : ls.size = nL) (hst : st = av.reverse ++ .ref b0 :: rest) (hcat : (rest.map fun v => v.category).sum ≤ 8) (hdg : decode cc pc = .ok (.invokevirtual idx, 3)) (hf : 0 + 1 ≤ R.cells ∧ 0 + 6 ≤ R.slots)
    (hK : va_K D KL (TY cI cB) s) (hP : va_P D KL ws s.heap) (hA : ∀ q : Nat, s.heap.size ≤ q → A q) (is : List Nat) (hW : is.filterMap (fun i => ws[i]?) = W0) (he : ws[i0]? = some (b0, .inr (ci, fs))) (hc : KL[ci]? = some q) (hq : q.1 = C) (hz : zz A s s.heap)
    (htb : c.exceptionTable.toList = tableOf (h1 :: hs)) (hcov : covers ⟨h1.1, h1.2.1, h1.2.2.1, h1.2.2.2⟩ pc = true) (hct : h1.2.2.2 ≠ 0) (hcl : Cond.classLink own h1.2.2.2 (exn k2) ∈ bigW) (hcs : (exn k2, exn k2) ∈ cst3)
    (kk : ∀ (q9 : Nat) (H1 : Heap) (locs1 : List Loc), va_P D KL ws H1 → va_S A s.heap H1 locs1 → W p l e R s m args below meth c H1 locs1 (0 + 1) (0 + 6) Q (F0 m h1.2.2.1 ls [.ref q9])) :
    W p l e R s m args below meth c s.heap [] 0 0 Q (F0 m pc ls st) := by
  subst hek
  have hS : va_S (fun q => s.heap.size ≤ q) s.heap s.heap [] := va_S.rf
  have hz0 : zz (fun q => s.heap.size ≤ q) s s.heap := zz.narrow hz hA
  refine my_callX (vx_runV FX (hM s.heap.size) (my_cwV FX.2.2.2.2 hI hl hR) ⟨PX.blind, my_recv hK hP hc hq he, fun U hU hWm => ⟨rfl, by rw [hU], by rw [hU]; exact hP.sub is hW, va_K.moved hWm.alike hK, by rw [hU]; exact zz.warm hWm hz0⟩⟩ rfl hk hls hst (lv_room hcat) hdg hf) hS (fun _ h => h) (fun _ _ h => h) (fun E ce q9 u t H1 locs1 ht hvm hp hb hz1 hk1 hS1 hce hcv hcl9 => ?_)
  have hb : E = exn ek := hb
  subst hb
  exact vx_catch FX.2.2.2.1 [] ⟨h1.1, h1.2.1, h1.2.2.1, h1.2.2.2⟩ (tableOf hs) htb (fun z hz => nomatch hz) hcov hct (FX.2.2.2.2 _ hcl) (va_Nw.use rfl (hz.2.2.1 _ hcs)) hce hcv hcl9
    (kk q9 H1 locs1 (hP.kept (fun k q hq => hk1 q.1 (hP k q hq).lt (Nat.not_le.mpr (hP k q hq).lt))) ⟨hS1.1, fun q h1 _ => hS1.2.1 q h1 (Nat.not_le.mpr h1), fun l hl => hA _ (hS1.2.2 l hl)⟩)
/-- caught by the second handler -/
theorem c_XV2 {b0 i0 ci k1 k2 : Nat} {q : vw_C} {fs : List Value} {h1 h2 : Nat × Nat × Nat × Nat} {hs : List (Nat × Nat × Nat × Nat)} (FX : CallFix p m c cc nL s args bigW own) (hM : XT l y b n r rm D cI cB (.ref b0 :: av) W0 ek) (hek : ek = k2) (hI : MIv C y b n r k) (hk : av.length = k) (hl : Cond.methodLink own idx y ∈ bigW) (hR : RMok rm R n 1 6)
    (hls : ls.size = nL) (hst : st = av.reverse ++ .ref b0 :: rest) (hcat : (rest.map fun v => v.category).sum ≤ 8) (hdg : decode cc pc = .ok (.invokevirtual idx, 3)) (hf : 0 + 1 ≤ R.cells ∧ 0 + 6 ≤ R.slots)
    (hK : va_K D KL (TY cI cB) s) (hP : va_P D KL ws s.heap) (hA : ∀ q : Nat, s.heap.size ≤ q → A q) (is : List Nat) (hW : is.filterMap (fun i => ws[i]?) = W0) (he : ws[i0]? = some (b0, .inr (ci, fs))) (hc : KL[ci]? = some q) (hq : q.1 = C) (hz : zz A s s.heap) (hzN : zN A s s.heap)
    (htb : c.exceptionTable.toList = tableOf (h1 :: h2 :: hs)) (hct1 : h1.2.2.2 ≠ 0) (hcl1 : Cond.classLink own h1.2.2.2 (exn k1) ∈ bigW) (hnc : (exn k2, exn k1) ∈ ncs) (hcov : covers ⟨h2.1, h2.2.1, h2.2.2.1, h2.2.2.2⟩ pc = true) (hct : h2.2.2.2 ≠ 0) (hcl : Cond.classLink own h2.2.2.2 (exn k2) ∈ bigW) (hcs : (exn k2, exn k2) ∈ cst3)
    (kk : ∀ (q9 : Nat) (H1 : Heap) (locs1 : List Loc), va_P D KL ws H1 → va_S A s.heap H1 locs1 → W p l e R s m args below meth c H1 locs1 (0 + 1) (0 + 6) Q (F0 m h2.2.2.1 ls [.ref q9])) :
    W p l e R s m args below meth c s.heap [] 0 0 Q (F0 m pc ls st) := by
  subst hek
  have hS : va_S (fun q => s.heap.size ≤ q) s.heap s.heap [] := va_S.rf
  have hz0 : zz (fun q => s.heap.size ≤ q) s s.heap := zz.narrow hz hA
  refine my_callX (vx_runV FX (hM s.heap.size) (my_cwV FX.2.2.2.2 hI hl hR) ⟨PX.blind, my_recv hK hP hc hq he, fun U hU hWm => ⟨rfl, by rw [hU], by rw [hU]; exact hP.sub is hW, va_K.moved hWm.alike hK, by rw [hU]; exact zz.warm hWm hz0⟩⟩ rfl hk hls hst (lv_room hcat) hdg hf) hS (fun _ h => h) (fun _ _ h => h) (fun E ce q9 u t H1 locs1 ht hvm hp hb hz1 hk1 hS1 hce hcv hcl9 => ?_)
  have hb : E = exn ek := hb
  subst hb
  exact vx_catch FX.2.2.2.1 [⟨h1.1, h1.2.1, h1.2.2.1, h1.2.2.2⟩] ⟨h2.1, h2.2.1, h2.2.2.1, h2.2.2.2⟩ (tableOf hs) htb (fun z hz => by
      rw [List.mem_singleton.mp hz]
      exact Or.inr ⟨hct1, exn k1, FX.2.2.2.2 _ hcl1, hzN _ hnc⟩) hcov hct (FX.2.2.2.2 _ hcl) (va_Nw.use rfl (hz.2.2.1 _ hcs)) hce hcv hcl9
    (kk q9 H1 locs1 (hP.kept (fun k q hq => hk1 q.1 (hP k q hq).lt (Nat.not_le.mpr (hP k q hq).lt))) ⟨hS1.1, fun q h1 _ => hS1.2.1 q h1 (Nat.not_le.mpr h1), fun l hl => hA _ (hS1.2.2 l hl)⟩)
end MyH
/-- a nest mate's constructor -/
theorem my_cnI {R : Room} {s : State} {args : Array Value} {own host : String} {y : MethodName} {b : ByteArray} {n k idx mc ms : Nat} {rm : Room} (hT : ∀ w ∈ bigW, w.before args s = true) (hM : MIi y b n k) (hl : va_Nw (.methodLinkNest own idx y host) s) (hR : RMok rm R n mc ms) : va_CN R s args own idx y host b n none (mW y b n none) rm mc ms k ∧ y.name = "<init>" ∧ (Cond.instanceMethod y).before args s = true :=
  ⟨va_cnB k hT (gi hM.1.1) rfl hR.1 hR.2.1 hl (hT _ hM.1.2.1) ⟨hM.1.2.2.1, hM.1.2.2.2.1, hM.1.2.2.2.2⟩ ⟨hR.2.2.1, hR.2.2.2⟩, hM.2.2, hT _ hM.2.1⟩
/-- a String constant of N Latin-1 letters, as the premises have it -/
theorem zS_of {args : Array Value} {s : State} {tm : Term} {N : Nat} {f : Nat → Int32} {A : Nat → Prop} (hN : N < 2 ^ 31) (hex : (Cond.exactly tm "java/lang/String").before args s = true) (hco : (Cond.eq (.field tm "java/lang/String" "coder" "B") (.int 0)).before args s = true) (har : (Cond.arrayOf (.field tm "java/lang/String" "value" "[B") .byte).before args s = true) (hle : (Cond.eq (.length (.field tm "java/lang/String" "value" "[B")) (.int (Int32.ofNat N))).before args s = true)
    (hel : ∀ j : Nat, j < N → (Cond.eq (.elem (.field tm "java/lang/String" "value" "[B") (.int (Int32.ofNat j))) (.int (f j))).before args s = true) (hA : ∀ a : Nat, a < s.heap.size → ¬ A a) : ∃ a v : Nat, tm.eval args s none [] s = some (.ref a) ∧ zS a v N f A s s.heap := by
  obtain ⟨a, c, cA, kA, q1, q2, q3, q4, q5, q6, -⟩ := Cond.exactly_spec (args := args) (first := s) (o := none) (s := s) (idx := []) (t := tm) (cls := "java/lang/String") hex
  obtain ⟨t, ht, hT⟩ := va_Tof (f := fun j => .int (f j)) (A := A) hN har (va_eqt hle) (fun j hj => va_eqt (hel j hj)) hA
  exact ⟨a, t, q1, ⟨cA, q3, q5, by rw [q6]; exact q2, hA a (Array.getElem?_eq_some_iff.mp q3).1⟩, vk_OFof q1 (va_eqt hco) hA, vk_OFof q1 ht hA, hT⟩
theorem exact_ref {args : Array Value} {s : State} {tm : Term} {cls : String} (hex : (Cond.exactly tm cls).before args s = true) : ∃ a : Nat, tm.eval args s none [] s = some (.ref a) := by
  obtain ⟨a, c, cA, kA, q1, -⟩ := Cond.exactly_spec (args := args) (first := s) (o := none) (s := s) (idx := []) (t := tm) (cls := cls) hex
  exact ⟨a, q1⟩
/-- the class of the arrays of ints, of bytes -/
theorem arr_I {args : Array Value} {s : State} (h : (Cond.arrayClass .int).before args s = true) : ∃ cI : ClassId, ArrOfT s cI .int ∧ va_RA s cI .int := by
  obtain ⟨c, k, comp, h1, h2, h3⟩ := Cond.arrayClass_spec h
  exact ⟨c, fun n z => ⟨fun k h => (by cases h), k, h2, comp, h3⟩, h1⟩
theorem arr_B {args : Array Value} {s : State} (h : (Cond.arrayClass .byte).before args s = true) : ∃ cI : ClassId, ArrOfT s cI .byte ∧ va_RA s cI .byte := by
  obtain ⟨c, k, comp, h1, h2, h3⟩ := Cond.arrayClass_spec h
  exact ⟨c, fun n z => ⟨fun k h => (by cases h), k, h2, comp, h3⟩, h1⟩
/-- the script's place i + k, as the law reads it: aload_0, iload 4, iconst k, iadd, iaload -/
theorem p_rd {p : Program} {l : Launch} {e : Env} {R : Room} {s : State} {m : MethodId} {args : Array Value} {below : List Frame} {meth : Method} {c : Code} {H : Heap} {locs : List Loc} {cells slots : Nat} {Q : State → Prop} {A : Nat → Prop} {cc : ByteArray} {nL b L i k pc : Nat} {xs : Nat → Int32} {v : Int32} {kz : Int} {own : String} {rest : List Value} {ls : Array Slot}
    (FX : CallFix p m c cc nL s args bigW own) (hX : va_X b L xs s s.heap) (hbl : b < s.heap.size) (hbA : ¬ A b) (hS : va_S A s.heap H locs) (h0 : ls[0]? = some (.val (.ref b))) (h4 : ls[4]? = some (.val (.int (nI i))))
    (d0 : decode cc pc = .ok (.aload_n 0, 1)) (d1 : decode cc (pc + 1) = .ok (.iload 4, 2)) (d3 : decode cc (pc + 3) = .ok (.iconst kz, 1)) (d4 : decode cc (pc + 4) = .ok (.iadd, 1)) (d5 : decode cc (pc + 5) = .ok (.iaload, 1)) (hk : Int32.ofInt kz = nI k) (hin : i + k < L ∧ L < 2 ^ 31) (hv : xs (i + k) = v)
    (kk : W p l e R s m args below meth c H locs cells slots Q (F0 m (pc + 6) ls (.int v :: rest))) : W p l e R s m args below meth c H locs cells slots Q (F0 m pc ls rest) := by
  refine lv_aload_n FX.1 FX.2.1 d0 rfl h0 ?_
  refine lv_iload FX.1 FX.2.1 d1 h4 ?_
  refine lv_iconst FX.1 FX.2.1 d3 hk ?_
  refine lv_iadd FX.1 FX.2.1 d4 ?_
  rw [nI_add]
  refine va_sld FX.1 FX.2.1 hX hbl hbA hS (vp_in_nI hin.1 hin.2) d5 ?_
  rw [nI_clamp (Nat.lt_trans hin.1 hin.2), hv]
  exact kk

/-! MY OWN LAYER over the kit: one list of words for every method; contracts that leave the heap as it is; calls of them as one row each. -/
/-- an inherited private method, called on a StringBuilder: it is the one that runs (it follows from the tables; the tables hold no word for it) -/
def jpr : List MethodName := [⟨"java/lang/AbstractStringBuilder", "ensureCapacityInternal", "(I)V"⟩, ⟨"java/lang/AbstractStringBuilder", "putStringAt", "(ILjava/lang/String;)V"⟩, ⟨"java/lang/AbstractStringBuilder", "inflateIfNeededFor", "(Ljava/lang/String;)V"⟩]
def jsl : List Cond := jpr.map fun y => Cond.selects "java/lang/StringBuilder" y y
theorem sel_priv {C : String} {y y0 : MethodName} {s : State} {args : Array Value} (hy : y.cls ≠ "java/lang/invoke/MethodHandle" ∧ y.cls ≠ "java/lang/invoke/VarHandle") (h0 : (Cond.selects C y0 y0).before args s = true) (hc0 : y0.cls = y.cls)
    (hpriv : (Cond.privateMethod y).before args s = true) (hinst : (Cond.instanceMethod y).before args s = true) : (Cond.selects C y y).before args s = true := by
  obtain ⟨mk, methM, hnamed, hmethM, -, -⟩ := Cond.instanceMethod_spec hinst
  have hfound : s.methodFound? y.cls y.name y.desc = some mk := State.methodFound?_of_named hnamed hy
  obtain ⟨c2, r2, m2, q1, q2, q3, q4, kP, hkP, hkPi⟩ := Cond.selects_spec h0
  have hm2 : m2.cls = mk.cls := by
    have a1 := findClass_of_methodNamed q3
    have a2 := findClass_of_methodNamed hnamed
    rw [hc0] at a1
    exact Option.some.inj (a1.symm.trans a2)
  have hsel : selectMethod {} s.vm c2 mk = .method mk := selectMethod_private hmethM (Cond.privateMethod_at hpriv mk methM hnamed hmethM)
  rw [hm2] at hkP
  simp only [Cond.before, Cond.holds, Cond.value, q1, hfound, hnamed, hsel, hkP]
  simp; exact hkPi
def bigW : List Cond := (jsl ++ lw_tbl).filter goodWord
theorem bt0 {w : Cond} (i : Nat) (h : (k2_sels lw_privs)[i]? = some w) (g : goodWord w = true) : w ∈ bigW := List.mem_filter.mpr ⟨List.mem_append_right _ (List.mem_append_left _ (List.mem_of_getElem? h)), g⟩
theorem bt1 {w : Cond} (i : Nat) (h : tables_1_1[i]? = some w) (g : goodWord w = true) : w ∈ bigW := List.mem_filter.mpr ⟨List.mem_append_right _ (List.mem_append_right _ (show w ∈ tables_1_1 ++ (tables_1_2 ++ (tables_1_3 ++ (tables_1_4 ++ (tables_1_5 ++ tables_1_6)))) from List.mem_append_left _ (List.mem_of_getElem? h))), g⟩
theorem bt2 {w : Cond} (i : Nat) (h : tables_1_2[i]? = some w) (g : goodWord w = true) : w ∈ bigW := List.mem_filter.mpr ⟨List.mem_append_right _ (List.mem_append_right _ (show w ∈ tables_1_1 ++ (tables_1_2 ++ (tables_1_3 ++ (tables_1_4 ++ (tables_1_5 ++ tables_1_6)))) from List.mem_append_right _ (List.mem_append_left _ (List.mem_of_getElem? h)))), g⟩
theorem bt3 {w : Cond} (i : Nat) (h : tables_1_3[i]? = some w) (g : goodWord w = true) : w ∈ bigW := List.mem_filter.mpr ⟨List.mem_append_right _ (List.mem_append_right _ (show w ∈ tables_1_1 ++ (tables_1_2 ++ (tables_1_3 ++ (tables_1_4 ++ (tables_1_5 ++ tables_1_6)))) from List.mem_append_right _ (List.mem_append_right _ (List.mem_append_left _ (List.mem_of_getElem? h))))), g⟩
theorem bt4 {w : Cond} (i : Nat) (h : tables_1_4[i]? = some w) (g : goodWord w = true) : w ∈ bigW := List.mem_filter.mpr ⟨List.mem_append_right _ (List.mem_append_right _ (show w ∈ tables_1_1 ++ (tables_1_2 ++ (tables_1_3 ++ (tables_1_4 ++ (tables_1_5 ++ tables_1_6)))) from List.mem_append_right _ (List.mem_append_right _ (List.mem_append_right _ (List.mem_append_left _ (List.mem_of_getElem? h)))))), g⟩
theorem bt5 {w : Cond} (i : Nat) (h : tables_1_5[i]? = some w) (g : goodWord w = true) : w ∈ bigW := List.mem_filter.mpr ⟨List.mem_append_right _ (List.mem_append_right _ (show w ∈ tables_1_1 ++ (tables_1_2 ++ (tables_1_3 ++ (tables_1_4 ++ (tables_1_5 ++ tables_1_6)))) from List.mem_append_right _ (List.mem_append_right _ (List.mem_append_right _ (List.mem_append_right _ (List.mem_append_left _ (List.mem_of_getElem? h))))))), g⟩
theorem bt6 {w : Cond} (i : Nat) (h : tables_1_6[i]? = some w) (g : goodWord w = true) : w ∈ bigW := List.mem_filter.mpr ⟨List.mem_append_right _ (List.mem_append_right _ (show w ∈ tables_1_1 ++ (tables_1_2 ++ (tables_1_3 ++ (tables_1_4 ++ (tables_1_5 ++ tables_1_6)))) from List.mem_append_right _ (List.mem_append_right _ (List.mem_append_right _ (List.mem_append_right _ (List.mem_append_right _ (List.mem_of_getElem? h))))))), g⟩
theorem bt9 {w : Cond} (i : Nat) (h : jsl[i]? = some w) (g : goodWord w = true) : w ∈ bigW := List.mem_filter.mpr ⟨List.mem_append_left _ (List.mem_of_getElem? h), g⟩
theorem of_tbl {args : Array Value} {s : State} (hts : ∀ w ∈ lw_tbl, w.before args s = true) (h0 : Cond.selects "java/lang/StringBuilder" ⟨"java/lang/AbstractStringBuilder", "isLatin1", "()Z"⟩ ⟨"java/lang/AbstractStringBuilder", "isLatin1", "()Z"⟩ ∈ lw_tbl)
    (hp : ∀ y ∈ jpr, y.cls = "java/lang/AbstractStringBuilder" ∧ Cond.privateMethod y ∈ lw_tbl ∧ Cond.instanceMethod y ∈ lw_tbl) : ∀ w ∈ bigW, w.before args s = true := by
  intro w hw
  rcases List.mem_append.mp (List.mem_filter.mp hw).1 with h | h
  · obtain ⟨y, hy, rfl⟩ := List.mem_map.mp h
    obtain ⟨h1, h2, h3⟩ := hp y hy
    exact sel_priv (by rw [h1]; decide) (hts _ h0) h1.symm (hts _ h2) (hts _ h3)
  · exact hts w h
theorem bigW_good : ∀ w ∈ bigW, goodWord w = true := fun _ h => (List.mem_filter.mp h).2
def mW (y : MethodName) (b : ByteArray) (n : Nat) (r : Option FieldType) : List Cond := .code y b n r :: bigW
theorem gi {y : MethodName} {b : ByteArray} {n : Nat} {r : Option FieldType} (h : Cond.code y b n r ∈ bigW) : GoodIn bigW (mW y b n r) := fun w hw => by
  rcases List.mem_cons.mp hw with e | e
  · subst e; exact ⟨h, good_of_word (bigW_good _ h)⟩
  · exact ⟨e, good_of_word (bigW_good _ e)⟩
abbrev KL : List vw_C := [(RJ0, TJ0, 4), (RJ4, TJ4, 4), (RX0, TX0, 9), (RX1, TX1, 2), (RX2, TX2, 9)]
abbrev TY (cI cB : ClassId) : List (ClassId × FieldType) := [(cI, .int), (cB, .byte)]
/-- what the tables say of a method that is called: its code, its class, its count of parameters -/
abbrev MI (y : MethodName) (b : ByteArray) (n : Nat) (r : Option FieldType) (k : Nat) : Prop :=
  Cond.code y b n r ∈ bigW ∧ Cond.initialized y.cls ∈ bigW ∧ (y.cls ≠ "java/lang/invoke/MethodHandle" ∧ y.cls ≠ "java/lang/invoke/VarHandle" ∧ (parseMethodDescriptor y.desc).map (fun d => d.parameters.length) = some k)
abbrev MIs (y : MethodName) (b : ByteArray) (n : Nat) (r : Option FieldType) (k : Nat) : Prop := MI y b n r k ∧ Cond.static y ∈ bigW
abbrev MIv (C : String) (y : MethodName) (b : ByteArray) (n : Nat) (r : Option FieldType) (k : Nat) : Prop := MI y b n r k ∧ Cond.instanceMethod y ∈ bigW ∧ Cond.selects C y y ∈ bigW
abbrev RMok (rm R : Room) (n mc ms : Nat) : Prop := rm.cells = mc ∧ rm.slots = ms ∧ rm.frames + 1 ≤ R.frames ∧ 8 + (n + 11) + rm.locals ≤ R.locals
/-- as the kit's own row, by the method's name (Math's own methods too) -/
theorem my_ofW {l : Launch} {y : MethodName} {ws ws' : List Cond} {rm : Room} {Pc : Array Value → State → Prop} {Qc : Array Value → State → Outcome → State → Prop} {mc ms : Nat} {free : Addr → Prop} {cc : ByteArray} {maxL : Nat} {ret : Option FieldType}
    (hy : plainFor y = true) (hw : ws = Cond.code y cc maxL ret :: ws')
    (body : ∀ p e s m args below meth c s₁, BodyLoose p l y (headSpec ws rm) cc maxL ret e s m args below meth c s₁ → c.maxLocals = maxL → Pc args s →
      W p l e (headSpec ws rm).room s m args below meth c s.heap [] 0 0 (MQ below Qc args s mc ms free) (entryFrame m args maxL)) : Met l y ws rm Pc Qc mc ms free := by
  refine MetFree.of_bodySF (code := cc) (maxLocals := maxL) (ret := ret) hy ?_ ?_
  · intro args s m h hn
    obtain ⟨meth, c, h1, h2, h3, h4, h5, h6, -, -⟩ := Cond.code_spec hn (atoms_spec (ws := ws) h _ (by rw [hw]; exact List.mem_cons_self))
    exact ⟨meth, c, h1, h2, h3, h4, h5, h6⟩
  · intro p e s m args below meth c s₁ B hml hP _
    have hh0 : s₁.heap = s.heap := by rw [B.state]; rfl
    obtain ⟨t, a1, o, b1, b2, b3⟩ := body p e s m args below meth c s₁ B hml hP s₁ hh0 (Stand.of_body B)
    exact ⟨t, o, a1, b1, b2, ⟨b3.1, b3.2⟩⟩
section MyCalls
variable {p : Program} {l : Launch} {e : Env} {R : Room} {s : State} {m : MethodId} {args : Array Value} {below : List Frame} {meth : Method} {c : Code} {H : Heap} {locs : List Loc} {cells slots : Nat} {Q : State → Prop}
variable {y : MethodName} {b cc : ByteArray} {n nL k idx : Nat} {r : Option FieldType} {rm : Room} {D : va_G} {cI cB : ClassId} {av rest st : List Value} {W0 : va_W} {ws : va_W} {own C : String} {pc : Nat} {ls : Array Slot}
theorem my_callB {mc ms : Nat} (hT : ∀ w ∈ bigW, w.before args s = true) (hM : MI y b n r k) (hl : Cond.methodLink own idx y ∈ bigW) (hR : RMok rm R n mc ms) : CallB R s args own idx y b n r (mW y b n r) rm mc ms k :=
  callB_of k hT (gi hM.1) rfl hR.1 hR.2.1 (hT _ hM.2.1) (hT _ hl) hM.2.2 ⟨hR.2.2.1, hR.2.2.2⟩
theorem my_cwS {mc ms : Nat} (hT : ∀ w ∈ bigW, w.before args s = true) (hM : MIs y b n r k) (hl : Cond.methodLink own idx y ∈ bigW) (hR : RMok rm R n mc ms) : CallB R s args own idx y b n r (mW y b n r) rm mc ms k ∧ (Cond.static y).before args s = true :=
  ⟨my_callB hT hM.1 hl hR, hT _ hM.2⟩
theorem my_cwV {mc ms : Nat} (hT : ∀ w ∈ bigW, w.before args s = true) (hM : MIv C y b n r k) (hl : Cond.methodLink own idx y ∈ bigW) (hR : RMok rm R n mc ms) : CallW R s args own C idx y b n r (mW y b n r) rm mc ms k :=
  ⟨my_callB hT hM.1 hl hR, hT _ hM.2.1, hT _ hM.2.2⟩
/-- the world that a contract asks for, and the tables of its classes -/
def PB (D : va_G) (cI cB : ClassId) (W : va_W) : State → Prop := fun U => va_P D KL W U.heap ∧ va_K D KL (TY cI cB) U
theorem PB.blind {D : va_G} {cI cB : ClassId} {W : va_W} : FrameBlind (va_Pc av (PB D cI cB W)) := fun a U g mk q => by
  obtain ⟨q0, qP, qK⟩ := q
  exact ⟨q0, qP, va_K.moved (u := U) (U := U.calling g mk a) (Vm.Alike.refl U.vm) qK⟩
/-- READERS: the heap stays; the answer is v -/
def RD (l : Launch) (y : MethodName) (b : ByteArray) (n : Nat) (r : Option FieldType) (rm : Room) (D : va_G) (cI cB : ClassId) (av : List Value) (W : va_W) (v : Int32) : Prop :=
  Met l y (mW y b n r) rm (va_Pc av (PB D cI cB W)) (vp_Si (fun q => q = v)) 0 0 (fun _ => False)
def RDl (l : Launch) (y : MethodName) (b : ByteArray) (n : Nat) (r : Option FieldType) (rm : Room) (D : va_G) (cI cB : ClassId) (av : List Value) (W : va_W) (v : Int64) : Prop :=
  Met l y (mW y b n r) rm (va_Pc av (PB D cI cB W)) (vp_Sl (fun q => q = v)) 0 0 (fun _ => False)
def RDv (l : Launch) (y : MethodName) (b : ByteArray) (n : Nat) (r : Option FieldType) (rm : Room) (D : va_G) (cI cB : ClassId) (av : List Value) (W : va_W) : Prop :=
  Met l y (mW y b n r) rm (va_Pc av (PB D cI cB W)) (va_Sv (fun _ => True)) 0 0 (fun _ => False)
theorem c_RDs {v : Int32} (FX : CallFix p m c cc nL s args bigW own) (hM : RD l y b n r rm D cI cB av W0 v) (hI : MIs y b n r k) (hk : av.length = k) (hl : Cond.methodLink own idx y ∈ bigW) (hR : RMok rm R n 0 0)
    (hls : ls.size = nL) (hst : st = av.reverse ++ rest) (hcat : (rest.map fun v => v.category).sum ≤ 8) (hdg : decode cc pc = .ok (.invokestatic idx, 3)) (hf : cells ≤ R.cells ∧ slots ≤ R.slots)
    (hK : va_K D KL (TY cI cB) s) (hP : va_P D KL ws H) (is : List Nat) (hW : is.filterMap (fun i => ws[i]?) = W0)
    (kk : W p l e R s m args below meth c H locs cells slots Q (F0 m (pc + 3) ls (.int v :: rest))) : W p l e R s m args below meth c H locs cells slots Q (F0 m pc ls st) := by
  refine vp_callSi (W.runS FX hM (my_cwS FX.2.2.2.2 hI hl hR) ⟨PB.blind, fun U hU hWm => ⟨rfl, by rw [hU]; exact hP.sub is hW, va_K.moved hWm.alike hK⟩⟩ rfl hk hls hst (lv_room hcat) hdg hf) (fun q hq => ?_)
  rw [hq]; exact kk
theorem c_RDls {v : Int64} (FX : CallFix p m c cc nL s args bigW own) (hM : RDl l y b n r rm D cI cB av W0 v) (hI : MIs y b n r k) (hk : av.length = k) (hl : Cond.methodLink own idx y ∈ bigW) (hR : RMok rm R n 0 0)
    (hls : ls.size = nL) (hst : st = av.reverse ++ rest) (hcat : (rest.map fun v => v.category).sum ≤ 8) (hdg : decode cc pc = .ok (.invokestatic idx, 3)) (hf : cells ≤ R.cells ∧ slots ≤ R.slots)
    (hK : va_K D KL (TY cI cB) s) (hP : va_P D KL ws H) (is : List Nat) (hW : is.filterMap (fun i => ws[i]?) = W0)
    (kk : W p l e R s m args below meth c H locs cells slots Q (F0 m (pc + 3) ls (.long v :: rest))) : W p l e R s m args below meth c H locs cells slots Q (F0 m pc ls st) := by
  refine vp_callSl (W.runS FX hM (my_cwS FX.2.2.2.2 hI hl hR) ⟨PB.blind, fun U hU hWm => ⟨rfl, by rw [hU]; exact hP.sub is hW, va_K.moved hWm.alike hK⟩⟩ rfl hk hls hst (lv_room hcat) hdg hf) (fun q hq => ?_)
  rw [hq]; exact kk
theorem c_RDvs (FX : CallFix p m c cc nL s args bigW own) (hM : RDv l y b n r rm D cI cB av W0) (hI : MIs y b n r k) (hk : av.length = k) (hl : Cond.methodLink own idx y ∈ bigW) (hR : RMok rm R n 0 0)
    (hls : ls.size = nL) (hst : st = av.reverse ++ rest) (hcat : (rest.map fun v => v.category).sum ≤ 8) (hdg : decode cc pc = .ok (.invokestatic idx, 3)) (hf : cells ≤ R.cells ∧ slots ≤ R.slots)
    (hK : va_K D KL (TY cI cB) s) (hP : va_P D KL ws H) (is : List Nat) (hW : is.filterMap (fun i => ws[i]?) = W0)
    (kk : W p l e R s m args below meth c H locs cells slots Q (F0 m (pc + 3) ls rest)) : W p l e R s m args below meth c H locs cells slots Q (F0 m pc ls st) := by
  exact va_csv (W.runS FX hM (my_cwS FX.2.2.2.2 hI hl hR) ⟨PB.blind, fun U hU hWm => ⟨rfl, by rw [hU]; exact hP.sub is hW, va_K.moved hWm.alike hK⟩⟩ rfl hk hls hst (lv_room hcat) hdg hf) (fun _ => kk)
/-- the receiver's class, from the world -/
theorem my_recv {b0 i0 ci : Nat} {q : vw_C} {fs : List Value} (hK : va_K D KL (TY cI cB) s) (hP : va_P D KL ws H) (hc : KL[ci]? = some q) (hq : q.1 = C) (he : ws[i0]? = some (b0, .inr (ci, fs))) : ∃ cellB : Cell, H[b0]? = some cellB ∧ cellB.vm.isStatics = false ∧ s.vm.findClass C = some cellB.cls := by
  subst hq
  exact va_recv hK hP hc he
theorem c_RDV {v : Int32} {b0 i0 ci : Nat} {q : vw_C} {fs : List Value} (FX : CallFix p m c cc nL s args bigW own) (hM : RD l y b n r rm D cI cB (.ref b0 :: av) W0 v) (hI : MIv C y b n r k) (hk : av.length = k) (hl : Cond.methodLink own idx y ∈ bigW) (hR : RMok rm R n 0 0)
    (hls : ls.size = nL) (hst : st = av.reverse ++ .ref b0 :: rest) (hcat : (rest.map fun v => v.category).sum ≤ 8) (hdg : decode cc pc = .ok (.invokevirtual idx, 3)) (hf : cells ≤ R.cells ∧ slots ≤ R.slots)
    (hK : va_K D KL (TY cI cB) s) (hP : va_P D KL ws H) (is : List Nat) (hW : is.filterMap (fun i => ws[i]?) = W0) (he : ws[i0]? = some (b0, .inr (ci, fs))) (hc : KL[ci]? = some q) (hq : q.1 = C)
    (kk : W p l e R s m args below meth c H locs cells slots Q (F0 m (pc + 3) ls (.int v :: rest))) : W p l e R s m args below meth c H locs cells slots Q (F0 m pc ls st) := by
  refine vp_callSi (W.runV FX hM (my_cwV FX.2.2.2.2 hI hl hR) ⟨PB.blind, my_recv hK hP hc hq he, fun U hU hWm => ⟨rfl, by rw [hU]; exact hP.sub is hW, va_K.moved hWm.alike hK⟩⟩ rfl hk hls hst (lv_room hcat) hdg hf) (fun z hz => ?_)
  rw [hz]; exact kk
/-- a reader's body -/
theorem bodyRD {v : Int32} (hy : plainFor y = true) (hlen : (lg_sl av).length ≤ n)
    (body : ∀ (p : Program) (e : Env) (s : State) (m : MethodId) (args : Array Value) (below : List Frame) (meth : Method) (c : Code) (ls : Array Slot), CallFix p m c b n s args bigW y.cls → meth.sig.returnType = r → meth.locks = false → va_K D KL (TY cI cB) s → va_P D KL W0 s.heap → lv_has ls n (lv_args 0 av) →
      W p l e rm s m args below meth c s.heap [] 0 0 (MQ below (vp_Si (fun q => q = v)) args s 0 0 (fun _ => False)) (F0 m 0 ls [])) : RD l y b n r rm D cI cB av W0 v := by
  refine my_ofW (cc := b) (maxL := n) (ret := r) hy rfl ?_
  intro p e s m args below meth c s₁ B hml hv
  obtain ⟨rfl, hP, hK⟩ := hv
  have hts := atoms_spec (ws := mW y b n r) B.pre
  rw [lg_entry_eq]
  exact body p e s m _ below meth c _ ⟨B.exec, B.bytes, hml, findClass_of_methodNamed B.named, fun w h => hts w (List.mem_cons_of_mem _ h)⟩ B.returns B.notSynchronized hK hP (lv_entry av hlen)
theorem bodyRDl {v : Int64} (hy : plainFor y = true) (hlen : (lg_sl av).length ≤ n)
    (body : ∀ (p : Program) (e : Env) (s : State) (m : MethodId) (args : Array Value) (below : List Frame) (meth : Method) (c : Code) (ls : Array Slot), CallFix p m c b n s args bigW y.cls → meth.sig.returnType = r → meth.locks = false → va_K D KL (TY cI cB) s → va_P D KL W0 s.heap → lv_has ls n (lv_args 0 av) →
      W p l e rm s m args below meth c s.heap [] 0 0 (MQ below (vp_Sl (fun q => q = v)) args s 0 0 (fun _ => False)) (F0 m 0 ls [])) : RDl l y b n r rm D cI cB av W0 v := by
  refine my_ofW (cc := b) (maxL := n) (ret := r) hy rfl ?_
  intro p e s m args below meth c s₁ B hml hv
  obtain ⟨rfl, hP, hK⟩ := hv
  have hts := atoms_spec (ws := mW y b n r) B.pre
  rw [lg_entry_eq]
  exact body p e s m _ below meth c _ ⟨B.exec, B.bytes, hml, findClass_of_methodNamed B.named, fun w h => hts w (List.mem_cons_of_mem _ h)⟩ B.returns B.notSynchronized hK hP (lv_entry av hlen)
theorem bodyRDv (hy : plainFor y = true) (hlen : (lg_sl av).length ≤ n)
    (body : ∀ (p : Program) (e : Env) (s : State) (m : MethodId) (args : Array Value) (below : List Frame) (meth : Method) (c : Code) (ls : Array Slot), CallFix p m c b n s args bigW y.cls → meth.sig.returnType = r → meth.locks = false → va_K D KL (TY cI cB) s → va_P D KL W0 s.heap → lv_has ls n (lv_args 0 av) →
      W p l e rm s m args below meth c s.heap [] 0 0 (MQ below (va_Sv (fun _ => True)) args s 0 0 (fun _ => False)) (F0 m 0 ls [])) : RDv l y b n r rm D cI cB av W0 := by
  refine my_ofW (cc := b) (maxL := n) (ret := r) hy rfl ?_
  intro p e s m args below meth c s₁ B hml hv
  obtain ⟨rfl, hP, hK⟩ := hv
  have hts := atoms_spec (ws := mW y b n r) B.pre
  rw [lg_entry_eq]
  exact body p e s m _ below meth c _ ⟨B.exec, B.bytes, hml, findClass_of_methodNamed B.named, fun w h => hts w (List.mem_cons_of_mem _ h)⟩ B.returns B.notSynchronized hK hP (lv_entry av hlen)
theorem retRD {v v' : Int32} {ty : FieldType} (FX : CallFix p m c cc nL s args bigW own) (hr : meth.sig.returnType = some ty) (hlk : meth.locks = false) (hdg : decode cc pc = .ok (.ireturn, 1)) (hn : narrow ty (.int v') = .int v') (ev : v' = v) :
    W p l e R s m args below meth c s.heap [] 0 0 (MQ below (vp_Si (fun q => q = v)) args s 0 0 (fun _ => False)) (F0 m pc ls [.int v']) :=
  W.zret FX.1 FX.2.1 hr hn (fun t ht _ => ⟨v', rfl, ev, ht⟩) (fun _ h => nomatch h) hdg hlk
theorem retRDl {v v' : Int64} (FX : CallFix p m c cc nL s args bigW own) (hr : meth.sig.returnType = some .long) (hlk : meth.locks = false) (hdg : decode cc pc = .ok (.lreturn, 1)) (ev : v' = v) :
    W p l e R s m args below meth c s.heap [] 0 0 (MQ below (vp_Sl (fun q => q = v)) args s 0 0 (fun _ => False)) (F0 m pc ls [.long v']) :=
  W.lret FX.1 FX.2.1 hr (fun t ht _ => ⟨v', rfl, ev, ht⟩) (fun _ h => nomatch h) hdg hlk
theorem retRDv (FX : CallFix p m c cc nL s args bigW own) (hr : meth.sig.returnType = none) (hlk : meth.locks = false) (hdg : decode cc pc = .ok (.return_, 1)) :
    W p l e R s m args below meth c s.heap [] 0 0 (MQ below (va_Sv (fun _ => True)) args s 0 0 (fun _ => False)) (F0 m pc ls []) :=
  W.vret FX.1 FX.2.1 hr (fun t ht _ => ⟨rfl, trivial, ht⟩) (fun _ h => nomatch h) hdg hlk
/-- 0 or 1, as a boolean is -/
def is01 (v : Int32) : Prop := v = 0 ∨ v = 1
theorem nz {v : Int32} (h : is01 v) : narrow .boolean (.int v) = .int v := by
  rcases h with h | h <;> rw [h] <;> rfl
end MyCalls

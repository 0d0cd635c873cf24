/-! MY OWN LAYER, fifth part: one shape for all that writes, makes or reads what lies outside its world: premises Z of statics and constants, an answer and a world by a value u that is only known to be there -/
def ZOK (Z : (Nat → Prop) → State → Heap → Prop) : Prop :=
  (∀ (A : Nat → Prop) (s U : State) (H : Heap), s.vm.Alike U.vm → s.WarmedH U.vm → Z A s H → Z A U H) ∧ (∀ (A : Nat → Prop) (u U : State) (H : Heap), U.vm = u.vm → Z A u H → Z A U H) ∧ (∀ (A : Nat → Prop) (U : State) (H H1 : Heap), Z A U H → (∀ a : Nat, a < H.size → ¬ A a → H1[a]? = H[a]?) → Z A U H1) ∧ (∀ (A B : Nat → Prop) (U : State) (H : Heap), Z A U H → (∀ q, B q → A q) → Z B U H)
def zT : (Nat → Prop) → State → Heap → Prop := fun _ _ _ => True
theorem zT_ok : ZOK zT := ⟨fun _ _ _ _ _ _ _ => trivial, fun _ _ _ _ _ _ => trivial, fun _ _ _ _ _ _ => trivial, fun _ _ _ _ _ _ => trivial⟩
def zAnd (Z1 Z2 : (Nat → Prop) → State → Heap → Prop) : (Nat → Prop) → State → Heap → Prop := fun A U H => Z1 A U H ∧ Z2 A U H
theorem zAnd_ok {Z1 Z2 : (Nat → Prop) → State → Heap → Prop} (h1 : ZOK Z1) (h2 : ZOK Z2) : ZOK (zAnd Z1 Z2) :=
  ⟨fun A s U H a w z => ⟨h1.1 A s U H a w z.1, h2.1 A s U H a w z.2⟩, fun A u U H a z => ⟨h1.2.1 A u U H a z.1, h2.2.1 A u U H a z.2⟩, fun A U H H1 z q => ⟨h1.2.2.1 A U H H1 z.1 q, h2.2.2.1 A U H H1 z.2 q⟩, fun A B U H z q => ⟨h1.2.2.2 A B U H z.1 q, h2.2.2.2 A B U H z.2 q⟩⟩
/-- compact strings are on -/
def zC : (Nat → Prop) → State → Heap → Prop := fun A U H => va_Z "java/lang/String" "COMPACT_STRINGS" "Z" (.int 1) A U H
/-- a String of n Latin-1 letters f, not of A -/
def zS (a v n : Nat) (f : Nat → Int32) : (Nat → Prop) → State → Heap → Prop := fun A U H =>
  va_O "java/lang/String" a A U H ∧ va_OF "java/lang/String" "coder" "B" (.int 0) a A U H ∧ va_OF "java/lang/String" "value" "[B" (.ref v) a A U H ∧ va_T .byte v n (fun j => .int (f j)) A U H
/-- the digits' two rows -/
def zDg (nm : String) (t : Nat) (f : Nat → Int32) : (Nat → Prop) → State → Heap → Prop := fun A U H => va_Z "java/lang/Integer" nm "[B" (.ref t) A U H ∧ va_T .byte t 100 (fun j => .int (f j)) A U H
theorem zC_ok : ZOK zC := ⟨fun _ _ _ _ a _ z => va_Z.moved a z, fun _ u _ _ e z => va_Z.moved (by rw [e]; exact Vm.Alike.refl u.vm) z, fun _ _ _ _ z q => va_Z.kept z q, fun _ _ _ _ z q => va_Z.narrow z q⟩
theorem zS_ok {a v n : Nat} {f : Nat → Int32} : ZOK (zS a v n f) :=
  ⟨fun _ _ _ _ e _ z => ⟨va_O.moved e z.1, va_OF.moved e z.2.1, va_OF.moved e z.2.2.1, va_T.moved e z.2.2.2⟩,
   fun _ u U _ e z => by
    have e : u.vm.Alike U.vm := by rw [e]; exact Vm.Alike.refl u.vm
    exact ⟨va_O.moved e z.1, va_OF.moved e z.2.1, va_OF.moved e z.2.2.1, va_T.moved e z.2.2.2⟩,
   fun _ _ _ _ z q => ⟨z.1.kept q, z.2.1.kept q, z.2.2.1.kept q, z.2.2.2.kept q⟩, fun _ _ _ _ z q => ⟨z.1.narrow q, z.2.1.narrow q, z.2.2.1.narrow q, z.2.2.2.narrow q⟩⟩
theorem zDg_ok {nm : String} {t : Nat} {f : Nat → Int32} : ZOK (zDg nm t f) :=
  ⟨fun _ _ _ _ e _ z => ⟨va_Z.moved e z.1, va_T.moved e z.2⟩, fun _ u U _ e z => by
    have e : u.vm.Alike U.vm := by rw [e]; exact Vm.Alike.refl u.vm
    exact ⟨va_Z.moved e z.1, va_T.moved e z.2⟩, fun _ _ _ _ z q => ⟨va_Z.kept z.1 q, z.2.kept q⟩, fun _ _ _ _ z q => ⟨va_Z.narrow z.1 q, z.2.narrow q⟩⟩
/-- the place of a String constant -/
def zR (own : String) (k : Nat) (tx : String) (a : Nat) : (Nat → Prop) → State → Heap → Prop := fun _ U _ => vk_R own k tx a U
theorem zR_ok {own tx : String} {k a : Nat} : ZOK (zR own k tx a) := ⟨fun _ _ _ _ _ w z => vk_R.warm w z, fun _ _ _ _ e z => vk_R.same e z, fun _ _ _ _ z _ => z, fun _ _ _ _ z _ => z⟩
theorem zz_ok : ZOK zz := ⟨fun _ _ _ _ _ w z => zz.warm w z, fun _ _ _ _ e z => zz.same e z, fun _ _ _ _ z q => zz.kept z q, fun _ _ _ _ z q => zz.narrow z q⟩
def PJ (D : va_G) (cI cB : ClassId) (W0 : va_W) (Z : (Nat → Prop) → State → Heap → Prop) (sz : Nat) : State → Prop := fun U => U.heap.size = sz ∧ va_P D KL W0 U.heap ∧ va_K D KL (TY cI cB) U ∧ va_D (fun _ => True) W0 ∧ Z (va_A W0 sz) U U.heap
theorem PJ.blind {D : va_G} {cI cB : ClassId} {av : List Value} {W0 : va_W} {Z : (Nat → Prop) → State → Heap → Prop} {sz : Nat} (hZ : ZOK Z) : FrameBlind (va_Pc av (PJ D cI cB W0 Z sz)) := fun a U g mk q => by
  obtain ⟨q0, q1, qP, qK, qD, qZ⟩ := q
  exact ⟨q0, q1, qP, va_K.moved (u := U) (U := U.calling g mk a) (Vm.Alike.refl U.vm) qK, qD, hZ.2.1 _ U (U.calling g mk a) _ rfl qZ⟩
def QJ {S : Type} (ret : S → Option Value) (P : S → Prop) (D : va_G) (cI cB : ClassId) (W1 : S → va_W) (A : Nat → Prop) : Array Value → State → Outcome → State → Prop := fun _ st oc t => (∃ u : S, oc = .returned (ret u) ∧ P u ∧ BW D cI cB (W1 u) A t) ∧ va_F A st t
def JW {S : Type} (l : Launch) (y : MethodName) (b : ByteArray) (n : Nat) (r : Option FieldType) (rm : Room) (D : va_G) (cI cB : ClassId) (av : List Value) (W0 : va_W) (Z : (Nat → Prop) → State → Heap → Prop) (ret : S → Option Value) (P : S → Prop) (W1 : S → va_W) (mc ms : Nat) : Prop :=
  ∀ sz : Nat, Met l y (mW y b n r) rm (va_Pc av (PJ D cI cB W0 Z sz)) (QJ ret P D cI cB W1 (va_A W0 sz)) mc ms (va_A W0 sz)
abbrev JST (p : Program) (l : Launch) (e : Env) (s : State) (m : MethodId) (args : Array Value) (below : List Frame) (meth : Method) (c : Code) (ls : Array Slot) (A : Nat → Prop) (y : MethodName) (b : ByteArray) (n : Nat) (r : Option FieldType) (D : va_G) (cI cB : ClassId) (av : List Value) (W0 : va_W) (Z : (Nat → Prop) → State → Heap → Prop) : Prop :=
  CallFix p m c b n s args bigW y.cls ∧ meth.sig.returnType = r ∧ meth.locks = false ∧ va_K D KL (TY cI cB) s ∧ va_P D KL W0 s.heap ∧ va_D A W0 ∧ va_S A s.heap s.heap [] ∧ (∀ q : Nat, s.heap.size ≤ q → A q) ∧ Z A s s.heap ∧ meth.name = y.name ∧ lv_has ls n (lv_args 0 av)
/-- a callee that is inherited: what the tables say of x, asked of an object of class C, which runs y of 'owner' -/
abbrev MIu (C owner : String) (x y : MethodName) (b : ByteArray) (n : Nat) (r : Option FieldType) (k : Nat) : Prop :=
  Cond.code y b n r ∈ bigW ∧ Cond.initialized y.cls ∈ bigW ∧ Cond.sameMethod x.cls owner x.name x.desc ∈ bigW ∧ Cond.selects C x y ∈ bigW ∧ Cond.instanceMethod y ∈ bigW ∧ y = ⟨owner, x.name, x.desc⟩ ∧ (owner ≠ "java/lang/invoke/MethodHandle" ∧ owner ≠ "java/lang/invoke/VarHandle" ∧ (parseMethodDescriptor x.desc).map (fun d => d.parameters.length) = some k)
/-- a super's method, by its name -/
abbrev MIp (own : String) (y : MethodName) (b : ByteArray) (n : Nat) (r : Option FieldType) (k : Nat) : Prop :=
  Cond.code y b n r ∈ bigW ∧ Cond.initialized y.cls ∈ bigW ∧ Cond.sameMethod y.cls y.cls y.name y.desc ∈ bigW ∧ Cond.superclass own y.cls ∈ bigW ∧ Cond.instanceMethod y ∈ bigW ∧ (y.name ≠ "<init>" ∧ (parseMethodDescriptor y.desc).map (fun d => d.parameters.length) = some k)
/-- a constructor -/
abbrev MIi (y : MethodName) (b : ByteArray) (n : Nat) (k : Nat) : Prop := MI y b n none k ∧ Cond.instanceMethod y ∈ bigW ∧ y.name = "<init>"
section MyJ
variable {S : Type} {p : Program} {l : Launch} {e : Env} {R : Room} {s : State} {m : MethodId} {args : Array Value} {below : List Frame} {meth : Method} {c : Code} {H H0 : Heap} {locs : List Loc} {cells slots : Nat} {Q : State → Prop} {A : Nat → Prop}
variable {x y : MethodName} {b cc : ByteArray} {n nL k idx mc ms : Nat} {r : Option FieldType} {rm : Room} {D : va_G} {cI cB : ClassId} {av rest st : List Value} {W0 wr : va_W} {W1 wsN : S → va_W} {ws : va_W} {own C owner : String} {pc : Nat} {ls : Array Slot} {Z : (Nat → Prop) → State → Heap → Prop} {ret : S → Option Value} {P : S → Prop}
theorem gi_app {a ws : List Cond} (ha : ∀ w ∈ a, w ∈ bigW) (h : GoodIn bigW ws) : GoodIn bigW (a ++ ws) := fun w hw => by
  rcases List.mem_append.mp hw with e | e
  · exact ⟨ha w e, good_of_word (bigW_good _ (ha w e))⟩
  · exact h w e
theorem my_cwU (hT : ∀ w ∈ bigW, w.before args s = true) (hM : MIu C owner x y b n r k) (hl : Cond.methodLink own idx x ∈ bigW) (hR : RMok rm R n mc ms) : va_CU R s args own C owner idx x y b n r (mW y b n r) rm mc ms k :=
  va_cwU k hT (gi_app (a := [.methodLink own idx x, .sameMethod x.cls owner x.name x.desc, .selects C x y, .instanceMethod y, .initialized y.cls]) (fun w hw => by
    rcases List.mem_cons.mp hw with e | hw
    · rw [e]; exact hl
    rcases List.mem_cons.mp hw with e | hw
    · rw [e]; exact hM.2.2.1
    rcases List.mem_cons.mp hw with e | hw
    · rw [e]; exact hM.2.2.2.1
    rcases List.mem_cons.mp hw with e | hw
    · rw [e]; exact hM.2.2.2.2.1
    rw [List.mem_singleton.mp hw]; exact hM.2.1) (gi hM.1)) rfl hR.1 hR.2.1 hM.2.2.2.2.2.1 hM.2.2.2.2.2.2 ⟨hR.2.2.1, hR.2.2.2⟩
theorem my_cwSU (hT : ∀ w ∈ bigW, w.before args s = true) (hM : MIp own y b n r k) (hl : Cond.methodLink own idx y ∈ bigW) (hR : RMok rm R n mc ms) : va_CS R s args own idx y b n r (mW y b n r) rm mc ms k :=
  va_cwSU k hT (gi_app (a := [.methodLink own idx y, .sameMethod y.cls y.cls y.name y.desc, .superclass own y.cls, .instanceMethod y, .initialized y.cls]) (fun w hw => by
    rcases List.mem_cons.mp hw with e | hw
    · rw [e]; exact hl
    rcases List.mem_cons.mp hw with e | hw
    · rw [e]; exact hM.2.2.1
    rcases List.mem_cons.mp hw with e | hw
    · rw [e]; exact hM.2.2.2.1
    rcases List.mem_cons.mp hw with e | hw
    · rw [e]; exact hM.2.2.2.2.1
    rw [List.mem_singleton.mp hw]; exact hM.2.1) (gi hM.1)) rfl hR.1 hR.2.1 hM.2.2.2.2.2 ⟨hR.2.2.1, hR.2.2.2⟩
theorem my_cwI (hT : ∀ w ∈ bigW, w.before args s = true) (hM : MIi y b n k) (hl : Cond.methodLink own idx y ∈ bigW) (hR : RMok rm R n mc ms) : CallB R s args own idx y b n none (mW y b n none) rm mc ms k ∧ y.name = "<init>" ∧ (Cond.instanceMethod y).before args s = true :=
  cwI k hT (gi hM.1.1) rfl hR.1 hR.2.1 (hT _ hM.1.2.1) (hT _ hl) (hT _ hM.2.1) hM.2.2 ⟨hM.1.2.2.1, hM.1.2.2.2.1, hM.1.2.2.2.2⟩ ⟨hR.2.2.1, hR.2.2.2⟩
theorem my_preJ (hZ : ZOK Z) (hz : Z A s s.heap) (hS : va_S A s.heap H locs) (hA : ∀ q : Nat, s.heap.size ≤ q → A q) (hK : va_K D KL (TY cI cB) s) (hP : va_P D KL ws H) (hD : va_D A ws) (isC : List Nat) (hC : isC.map (fun i => ws[i]?) = W0.map some) (hnC : va_nd isC = true) (U : State) (hU : U.heap = H) (hWm : s.WarmedH U.vm) : PJ D cI cB W0 Z H.size U := by
  obtain ⟨a, b, c9, d⟩ := my_preW hK hP hD isC hC hnC U hU hWm
  refine ⟨a, b, c9, d, ?_⟩
  rw [hU]
  exact hZ.1 _ s U H hWm.alike hWm (hZ.2.2.2 _ _ s H (hZ.2.2.1 _ s _ _ hz hS.2.1) (va_free hD hS hA isC hC))
theorem bodyJ (hy : plainFor y = true) (hlen : (lg_sl av).length ≤ n)
    (body : ∀ (p : Program) (e : Env) (s : State) (m : MethodId) (args : Array Value) (below : List Frame) (meth : Method) (c : Code) (ls : Array Slot) (A : Nat → Prop), JST p l e s m args below meth c ls A y b n r D cI cB av W0 Z →
      W p l e rm s m args below meth c s.heap [] 0 0 (MQ below (QJ ret P D cI cB W1 A) args s mc ms A) (F0 m 0 ls [])) : JW l y b n r rm D cI cB av W0 Z ret P W1 mc ms := by
  intro sz
  refine my_ofW (cc := b) (maxL := n) (ret := r) hy rfl ?_
  intro p e s m args below meth c s₁ B hml hv
  obtain ⟨rfl, hsz, hP, hK, hD0, hz⟩ := hv
  subst hsz
  have hts := atoms_spec (ws := mW y b n r) B.pre
  rw [lg_entry_eq]
  exact body p e s m _ below meth c _ _ ⟨⟨B.exec, B.bytes, hml, findClass_of_methodNamed B.named, fun w h => hts w (List.mem_cons_of_mem _ h)⟩, B.returns, B.notSynchronized, hK, hP, hD0.self, va_S.rf, fun q h => Or.inr h, hz, (name_of_methodNamed B.named B.method).1, lv_entry av hlen⟩
/-- behind a call of such a method -/
theorem c_J {a0 : Array Value} {st0 : List Value} (hr : va_Run p l e R s m args below meth c H locs cells slots mc ms (F0 m pc ls st0) rest (QJ ret P D cI cB W1 (va_A W0 H.size) a0) (va_A W0 H.size))
    (hP : va_P D KL ws H) (hD : va_D A ws) (hS : va_S A H0 H locs) (hA : ∀ q : Nat, H0.size ≤ q → A q) (isC : List Nat) (hC : isC.map (fun i => ws[i]?) = W0.map some) (isR : List Nat) (hRr : isR.map (fun i => ws[i]?) = wr.map some) (hnd : va_nd isR = true ∧ ∀ i ∈ isR, i ∉ isC) (isN : List Nat) (hN : ∀ u : S, isN.map (fun i => (wr ++ W1 u)[i]?) = (wsN u).map some) (hnN : va_nd isN = true)
    (kk : ∀ (u : S) (H1 : Heap) (locs1 : List Loc), P u → va_P D KL (wsN u) H1 → va_D A (wsN u) → va_S A H0 H1 locs1 → W p l e R s m args below meth c H1 locs1 (cells + mc) (slots + ms) Q (F0 m (pc + 3) ls ((ret u).toList ++ rest))) : W p l e R s m args below meth c H locs cells slots Q (F0 m pc ls st0) := by
  have hF := va_free hD hS hA isC hC
  intro T hT X
  obtain ⟨v, st₀, t, T', L, h0, X', hL, e1, e2, ⟨⟨u, hv, hp, hB⟩, hFr⟩, st⟩ := hr T hT X
  cases hv
  obtain ⟨hP1, hK1, hD1⟩ := hB
  obtain ⟨hz, hk⟩ := hFr
  rw [h0] at hz hk
  rw [← e1] at hP1 hz hk
  obtain ⟨a, b⟩ := my_join hP hD isC isR hC hRr hnd.1 hnd.2 hk hF hP1 hD1 isN (hN u) hnN
  have hS1 : va_S A H0 T'.heap (locs ++ L) := ⟨Nat.le_trans hS.1 hz, fun q h1 h2 => by rw [hk q (Nat.lt_of_lt_of_le h1 hS.1) (fun z => h2 (hF q z))]; exact hS.2.1 q h1 h2, fun q hq => by
    rcases List.mem_append.mp hq with h | h
    · exact hS.2.2 q h
    · exact hF _ (hL q h)⟩
  obtain ⟨t2, a1, b1⟩ := kk u T'.heap (locs ++ L) hp a b hS1 T' rfl X'
  exact ⟨t2, st t2 a1, b1⟩
theorem retJi {v : Int32} {ty : FieldType} (u : S) (FX : CallFix p m c cc nL s args bigW own) (hr : meth.sig.returnType = some ty) (hlk : meth.locks = false) (hdg : decode cc pc = .ok (.ireturn, 1)) (hn : narrow ty (.int v) = .int v) (hP : va_P D KL (W1 u) H) (hK : va_K D KL (TY cI cB) s) (hD : va_D A (W1 u)) (hS : va_S A s.heap H locs) (h1 : cells ≤ mc) (h2 : slots ≤ ms) (ev : some (Value.int v) = ret u) (hp : P u) :
    W p l e R s m args below meth c H locs cells slots (MQ below (QJ ret P D cI cB W1 A) args s mc ms A) (F0 m pc ls [.int v]) :=
  W.widen h1 h2 (W.zret FX.1 FX.2.1 hr hn (fun t ht hW => ⟨⟨u, by rw [← ev], hp, by rw [ht]; exact hP, va_K.moved hW.alike hK, hD⟩, hS.F ht⟩) hS.2.2 hdg hlk)
theorem retJl {v : Int64} (u : S) (FX : CallFix p m c cc nL s args bigW own) (hr : meth.sig.returnType = some .long) (hlk : meth.locks = false) (hdg : decode cc pc = .ok (.lreturn, 1)) (hP : va_P D KL (W1 u) H) (hK : va_K D KL (TY cI cB) s) (hD : va_D A (W1 u)) (hS : va_S A s.heap H locs) (h1 : cells ≤ mc) (h2 : slots ≤ ms) (ev : some (Value.long v) = ret u) (hp : P u) :
    W p l e R s m args below meth c H locs cells slots (MQ below (QJ ret P D cI cB W1 A) args s mc ms A) (F0 m pc ls [.long v]) :=
  W.widen h1 h2 (W.lret FX.1 FX.2.1 hr (fun t ht hW => ⟨⟨u, by rw [← ev], hp, by rw [ht]; exact hP, va_K.moved hW.alike hK, hD⟩, hS.F ht⟩) hS.2.2 hdg hlk)
theorem retJv (u : S) (FX : CallFix p m c cc nL s args bigW own) (hr : meth.sig.returnType = none) (hlk : meth.locks = false) (hdg : decode cc pc = .ok (.return_, 1)) (hP : va_P D KL (W1 u) H) (hK : va_K D KL (TY cI cB) s) (hD : va_D A (W1 u)) (hS : va_S A s.heap H locs) (h1 : cells ≤ mc) (h2 : slots ≤ ms) (ev : none = ret u) (hp : P u) :
    W p l e R s m args below meth c H locs cells slots (MQ below (QJ ret P D cI cB W1 A) args s mc ms A) (F0 m pc ls []) :=
  W.widen h1 h2 (W.vret FX.1 FX.2.1 hr (fun t ht hW => ⟨⟨u, by rw [← ev], hp, by rw [ht]; exact hP, va_K.moved hW.alike hK, hD⟩, hS.F ht⟩) hS.2.2 hdg hlk)
theorem retJa {v : Nat} {rt : FieldType} (u : S) (FX : CallFix p m c cc nL s args bigW own) (hr : meth.sig.returnType = some rt) (hrt : (∃ n, rt = .object n) ∨ ∃ t, rt = .array t) (hlk : meth.locks = false) (hdg : decode cc pc = .ok (.areturn, 1)) (hP : va_P D KL (W1 u) H) (hK : va_K D KL (TY cI cB) s) (hD : va_D A (W1 u)) (hS : va_S A s.heap H locs) (h1 : cells ≤ mc) (h2 : slots ≤ ms) (ev : some (Value.ref v) = ret u) (hp : P u) :
    W p l e R s m args below meth c H locs cells slots (MQ below (QJ ret P D cI cB W1 A) args s mc ms A) (F0 m pc ls [.ref v]) :=
  W.widen h1 h2 (W.aret FX.1 FX.2.1 hr hrt (Or.inr ⟨v, rfl⟩) (fun t ht hW => ⟨⟨u, by rw [← ev], hp, by rw [ht]; exact hP, va_K.moved hW.alike hK, hD⟩, hS.F ht⟩) hS.2.2 hdg hlk)
theorem p_ishr0 {x : Int32} (FX : CallFix p m c cc nL s args bigW own) (hdg : decode cc pc = .ok (.ishr, 1)) (kk : W p l e R s m args below meth c H locs cells slots Q (F0 m (pc + 1) ls (.int x :: rest))) : W p l e R s m args below meth c H locs cells slots Q (F0 m pc ls (.int 0 :: .int x :: rest)) :=
  lv_ishr FX.1 FX.2.1 hdg (by rw [sb_shr0]; exact kk)
theorem p_ishl0 {x : Int32} (FX : CallFix p m c cc nL s args bigW own) (hdg : decode cc pc = .ok (.ishl, 1)) (kk : W p l e R s m args below meth c H locs cells slots Q (F0 m (pc + 1) ls (.int x :: rest))) : W p l e R s m args below meth c H locs cells slots Q (F0 m pc ls (.int 0 :: .int x :: rest)) :=
  lv_ishl FX.1 FX.2.1 hdg (by rw [sb_shl0]; exact kk)
end MyJ
/-- a StringBuilder of Latin-1 letters, with room for 16 -/
abbrev wB (cB : ClassId) (t bt : Nat) (ml cn : Int32) (bs : Nat → Int32) : va_W := [(t, .inr (1, [.ref bt, .int 0, .int ml, .int cn])), (bt, .inl (cB, 16, .inl bs))]
section MyJ2
variable {p : Program} {l : Launch} {e : Env} {R : Room} {s : State} {m : MethodId} {args : Array Value} {below : List Frame} {meth : Method} {c : Code} {H H0 : Heap} {locs : List Loc} {cells slots : Nat} {Q : State → Prop} {A : Nat → Prop}
variable {cc : ByteArray} {nL idx : Nat} {D : va_G} {cI cB : ClassId} {rest : List Value} {wsN ws : va_W} {own C : String} {pc : Nat} {ls : Array Slot}
theorem p_bast {a : Nat} {nn : Nat} {f : Nat → Int32} {i x : Int32} (FX : CallFix p m c cc nL s args bigW own) (hK : va_K D KL (TY cI cB) s) (hP : va_P D KL ws H) (hD : va_D A ws) (hS : va_S A H0 H locs) (q0 : Nat) (ha : ws[q0]? = some (a, .inl (cB, nn, .inl f))) (hin : vp_in i nn) (hdg : decode cc pc = .ok (.bastore, 1)) (hN : ws.set q0 (a, .inl (cB, nn, .inl (upd f i.toNatClampNeg (vp_nar .byte x)))) = wsN)
    (kk : ∀ (H1 : Heap) (locs1 : List Loc), va_P D KL wsN H1 → va_D A wsN → va_S A H0 H1 locs1 → W p l e R s m args below meth c H1 locs1 cells slots Q (F0 m (pc + 1) ls rest)) : W p l e R s m args below meth c H locs cells slots Q (F0 m pc ls (.int x :: .int i :: .ref a :: rest)) := by
  subst hN
  exact va_bast FX.1 FX.2.1 hK hP hD hS q0 1 ha rfl hin hdg kk
theorem p_bald {a : Nat} {nn : Nat} {f : Nat → Int32} {i v : Int32} (FX : CallFix p m c cc nL s args bigW own) (hK : va_K D KL (TY cI cB) s) (hP : va_P D KL ws H) (q0 : Nat) (ha : ws[q0]? = some (a, .inl (cB, nn, .inl f))) (hin : vp_in i nn) (hdg : decode cc pc = .ok (.baload, 1)) (hv : f i.toNatClampNeg = v)
    (kk : W p l e R s m args below meth c H locs cells slots Q (F0 m (pc + 1) ls (.int v :: rest))) : W p l e R s m args below meth c H locs cells slots Q (F0 m pc ls (.int i :: .ref a :: rest)) := by
  subst hv
  exact va_bald FX.1 FX.2.1 hK hP q0 1 ha rfl hin hdg kk
theorem p_putF {T : u_T} {N ci index : Nat} {a : Nat} (FX : CallFix p m c cc nL s args bigW own) (hin : ∀ w ∈ u_ws C T N, w ∈ bigW) {ty0 : Nat → FieldType} (hty : ∀ k, k < N → parseFieldDescriptor (T k).2.2.1 = some (ty0 k)) (hnm : ∀ a, a < N → ∀ b, b < N → a ≠ b → (T a).2.1 ≠ (T b).2.1) (hK : va_K D KL (TY cI cB) s) (hP : va_P D KL ws H) (hD : va_D A ws) (hS : va_S A H0 H locs) (hin2 : meth.name = "<init>") (q0 : Nat) {fs : List Value} (he : ws[q0]? = some (a, .inr (ci, fs))) (hc : KL[ci]? = some (C, T, N)) (k : Nat) (hk : k < N) (hlink : (Cond.fieldLink own index (T k).1 (T k).2.1 (T k).2.2.1).before args s = true) (hfin : (T k).2.2.2 = true) (hdecl : (T k).1 = own) {ty : FieldType} {v : Value} (hd : parseFieldDescriptor (T k).2.2.1 = some ty) (hn : narrow ty v = v) (hfit : fits ty v = true) (hl : k < fs.length)
    (hdg : decode cc pc = .ok (.putfield index, 3)) (hN : ws.set q0 (a, .inr (ci, fs.set k v)) = wsN) (kk : ∀ (H1 : Heap) (locs1 : List Loc), va_P D KL wsN H1 → va_D A wsN → va_S A H0 H1 locs1 → W p l e R s m args below meth c H1 locs1 cells slots Q (F0 m (pc + 3) ls rest)) : W p l e R s m args below meth c H locs cells slots Q (F0 m pc ls (v :: .ref a :: rest)) := by
  subst hN
  exact va_putF FX.1 FX.2.1 FX.2.2.2.2 hin ty0 hty hnm FX.2.2.2.1 hK hP hD hS q0 he hc k hk hlink (fun _ h => h) hfin hin2 hdecl hd hn hfit hl hdg kk
theorem zS_recv {a v n : Nat} {f : Nat → Int32} (hz : zS a v n f A s s.heap) (hS : va_S A s.heap H locs) : ∃ cellB : Cell, H[a]? = some cellB ∧ cellB.vm.isStatics = false ∧ s.vm.findClass "java/lang/String" = some cellB.cls := by
  obtain ⟨cell, h1, h2, h3, h4⟩ := hz.1
  exact ⟨cell, by rw [hS.2.1 a (Array.getElem?_eq_some_iff.mp h1).1 h4]; exact h1, h2, h3⟩
theorem p_ldcS {a : Nat} {tx : String} (FX : CallFix p m c cc nL s args bigW own) (hR : vk_R own idx tx a s) (hdg : decode cc pc = .ok (.ldc idx, 2))
    (kk : W p l e R s m args below meth c H locs cells slots Q (F0 m (pc + 2) ls (.ref a :: rest))) : W p l e R s m args below meth c H locs cells slots Q (F0 m pc ls rest) := va_ldcS FX.1 FX.2.1 FX.2.2.2.1 hR hdg kk
theorem p_min {x y v : Int32} (FX : CallFix p m c cc nL s args bigW own) (hls : ls.size = nL) (hl : Cond.methodLink own idx Lib.Math.min.name ∈ bigW) (hs : Cond.static Lib.Math.min.name ∈ bigW) (hi : Cond.initialized "java/lang/Math" ∈ bigW) (hc : Cond.code Lib.Math.min.name Lib.Math.min.code 2 (some .int) ∈ bigW)
    (h1 : 1 ≤ R.frames) (h2 : (rest.map fun v => v.category).sum + 13 ≤ R.locals) (hce : cells ≤ R.cells) (hse : slots ≤ R.slots) (hdg : decode cc pc = .ok (.invokestatic idx, 3)) (hv : (if y < x then y else x) = v)
    (kk : W p l e R s m args below meth c H locs cells slots Q (F0 m (pc + 3) ls (.int v :: rest))) : W p l e R s m args below meth c H locs cells slots Q (F0 m pc ls (.int y :: .int x :: rest)) :=
  va_mmin FX.1 FX.2.1 (FX.2.2.1.trans hls.symm) FX.2.2.2.1 (FX.2.2.2.2 _ hl) (FX.2.2.2.2 _ hs) (FX.2.2.2.2 _ hi) (FX.2.2.2.2 _ hc) h1 h2 hce hse hdg (by rw [hv]; exact kk)
end MyJ2
/-- an inherited method that the receiver's class has anew -/
abbrev MIo (C owner : String) (x y : MethodName) (b : ByteArray) (n : Nat) (r : Option FieldType) (b0 : ByteArray) (n0 : Nat) (r0 : Option FieldType) (k : Nat) : Prop :=
  Cond.code y b n r ∈ bigW ∧ Cond.initialized y.cls ∈ bigW ∧ Cond.sameMethod x.cls owner x.name x.desc ∈ bigW ∧ Cond.instanceMethod ⟨owner, x.name, x.desc⟩ ∈ bigW ∧ Cond.selects C x y ∈ bigW ∧ Cond.instanceMethod y ∈ bigW ∧ Cond.code ⟨owner, x.name, x.desc⟩ b0 n0 r0 ∈ bigW ∧ (owner ≠ "java/lang/invoke/MethodHandle" ∧ owner ≠ "java/lang/invoke/VarHandle" ∧ (parseMethodDescriptor x.desc).map (fun d => d.parameters.length) = some k)
theorem my_cwO {R : Room} {s : State} {args : Array Value} {own C owner : String} {x y : MethodName} {b b0 : ByteArray} {n n0 k idx mc ms : Nat} {r r0 : Option FieldType} {rm : Room} (hT : ∀ w ∈ bigW, w.before args s = true) (hM : MIo C owner x y b n r b0 n0 r0 k) (hl : Cond.methodLink own idx x ∈ bigW) (hR : RMok rm R n mc ms) : va_CU R s args own C owner idx x y b n r (mW y b n r) rm mc ms k :=
  va_cwO k hT (gi_app (a := [.methodLink own idx x, .sameMethod x.cls owner x.name x.desc, .instanceMethod ⟨owner, x.name, x.desc⟩, .selects C x y, .instanceMethod y, .initialized y.cls]) (fun w hw => by
    rcases List.mem_cons.mp hw with e | hw
    · rw [e]; exact hl
    rcases List.mem_cons.mp hw with e | hw
    · rw [e]; exact hM.2.2.1
    rcases List.mem_cons.mp hw with e | hw
    · rw [e]; exact hM.2.2.2.1
    rcases List.mem_cons.mp hw with e | hw
    · rw [e]; exact hM.2.2.2.2.1
    rcases List.mem_cons.mp hw with e | hw
    · rw [e]; exact hM.2.2.2.2.2.1
    rw [List.mem_singleton.mp hw]; exact hM.2.1) (gi hM.1)) rfl hR.1 hR.2.1 hM.2.2.2.2.2.2.1 hM.2.2.2.2.2.2.2 ⟨hR.2.2.1, hR.2.2.2⟩

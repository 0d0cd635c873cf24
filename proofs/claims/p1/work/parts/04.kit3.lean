/-! MY OWN LAYER, third part: methods that throw, and the law's helpers that catch. -/
def exn : Nat → String := fun k => if k = 1 then "java/lang/IndexOutOfBoundsException" else if k = 2 then "java/lang/IllegalArgumentException" else "java/lang/IllegalStateException"
def cst3 : List (String × String) := [("java/lang/IndexOutOfBoundsException", "java/lang/IndexOutOfBoundsException"), ("java/lang/IllegalArgumentException", "java/lang/IllegalArgumentException"), ("java/lang/IllegalStateException", "java/lang/IllegalStateException")]
def txt7 : List (Nat × String) := [(163, "there is no such box"), (165, "there is no such plain box"), (170, "the number is not -999 to 999"), (172, "there is no such kind"), (73, "the box is empty"), (100, "the length is not 0 to 999"), (105, "the place is not 0 to length - 1")]
def dcl3 : List MethodName := [⟨"java/lang/RuntimeException", "<init>", "(Ljava/lang/String;)V"⟩, ⟨"java/lang/Exception", "<init>", "(Ljava/lang/String;)V"⟩, ⟨"java/lang/Throwable", "<init>", "(Ljava/lang/String;)V"⟩]
/-- what a throw needs beside the words: two statics of Throwable (outside A), casts, texts -/
def zz (A : Nat → Prop) (U : State) (H : Heap) : Prop :=
  vx_Zq Bundle.tN "UNASSIGNED_STACK" Bundle.steD A U H ∧ vx_Zq Bundle.tN "SUPPRESSED_SENTINEL" Bundle.listD A U H ∧ (∀ q ∈ cst3, va_Nw (.castable q.1 q.2) U) ∧ (∀ q ∈ txt7, ∃ sa, vk_R RX0 q.1 q.2 sa U) ∧ ∀ q ∈ dcl3, va_Nw (.declares q) U
theorem zz.warm {A : Nat → Prop} {s U : State} {H : Heap} (hW : s.WarmedH U.vm) (h : zz A s H) : zz A U H :=
  ⟨vx_Zq.moved hW.alike h.1, vx_Zq.moved hW.alike h.2.1, fun q hq => va_Nw.warmC hW (h.2.2.1 q hq), fun q hq => by
    obtain ⟨sa, hs⟩ := h.2.2.2.1 q hq
    exact ⟨sa, vk_R.warm hW hs⟩, fun q hq => va_Nw.warmD hW (h.2.2.2.2 q hq)⟩
theorem zz.same {A : Nat → Prop} {u U : State} {H : Heap} (hv : U.vm = u.vm) (h : zz A u H) : zz A U H :=
  ⟨vx_Zq.moved (by rw [hv]; exact Vm.Alike.refl u.vm) h.1, vx_Zq.moved (by rw [hv]; exact Vm.Alike.refl u.vm) h.2.1, fun q hq => va_Nw.same rfl hv.symm (h.2.2.1 q hq), fun q hq => by
    obtain ⟨sa, hs⟩ := h.2.2.2.1 q hq
    exact ⟨sa, vk_R.same hv hs⟩, fun q hq => va_Nw.same rfl hv.symm (h.2.2.2.2 q hq)⟩
theorem zz.kept {A : Nat → Prop} {U : State} {H H1 : Heap} (h : zz A U H) (hq : ∀ a : Nat, a < H.size → ¬ A a → H1[a]? = H[a]?) : zz A U H1 := ⟨vx_Zq.kept h.1 hq, vx_Zq.kept h.2.1 hq, h.2.2⟩
theorem zz.narrow {A B : Nat → Prop} {U : State} {H : Heap} (h : zz A U H) (hAB : ∀ q, B q → A q) : zz B U H := ⟨vx_Zq.narrow h.1 hAB, vx_Zq.narrow h.2.1 hAB, h.2.2⟩
def PX (D : va_G) (cI cB : ClassId) (W0 : va_W) (sz : Nat) : State → Prop := fun U => U.heap.size = sz ∧ va_P D KL W0 U.heap ∧ va_K D KL (TY cI cB) U ∧ zz (fun q => sz ≤ q) U U.heap
theorem PX.blind {D : va_G} {cI cB : ClassId} {av : List Value} {W0 : va_W} {sz : Nat} : FrameBlind (va_Pc av (PX D cI cB W0 sz)) := fun a U g mk q => by
  obtain ⟨q0, q1, qP, qK, qz⟩ := q
  exact ⟨q0, q1, qP, va_K.moved (u := U) (U := U.calling g mk a) (Vm.Alike.refl U.vm) qK, zz.same (u := U) (U := U.calling g mk a) rfl qz⟩
def XK (ek : Nat) (sz : Nat) : String → State → State → Prop := vx_X (fun _ : Unit => True) (fun E _ _ => E = exn ek) (fun q => sz ≤ q)
/-- it throws the exception of number ek; nothing that was there changes -/
def XT (l : Launch) (y : MethodName) (b : ByteArray) (n : Nat) (r : Option FieldType) (rm : Room) (D : va_G) (cI cB : ClassId) (av : List Value) (W0 : va_W) (ek : Nat) : Prop :=
  ∀ sz : Nat, vx_Met l y (mW y b n r) rm (va_Pc av (PX D cI cB W0 sz)) (fun _ _ _ _ => False) (XK ek sz) 1 6 (fun q => sz ≤ q)
abbrev XST (p : Program) (l : Launch) (e : Env) (s : State) (m : MethodId) (args : Array Value) (below : List Frame) (meth : Method) (c : Code) (ls : Array Slot) (y : MethodName) (b : ByteArray) (n : Nat) (r : Option FieldType) (D : va_G) (cI cB : ClassId) (av : List Value) (W0 : va_W) : Prop :=
  CallFix p m c b n s args bigW y.cls ∧ meth.sig.returnType = r ∧ meth.locks = false ∧ va_K D KL (TY cI cB) s ∧ va_P D KL W0 s.heap ∧ zz (fun q => s.heap.size ≤ q) s s.heap ∧ (∀ x ∈ c.exceptionTable.toList, False) ∧ lv_has ls n (lv_args 0 av)
abbrev XQ (below : List Frame) (args : Array Value) (s : State) (ek : Nat) : State → Prop := vx_MQ below (fun _ _ _ _ => False) (XK ek s.heap.size) args s 1 6 (fun q => s.heap.size ≤ q)
def iabs (x : Int32) : Int32 := if 0 ≤ x then x else 0 - x
section MyThrows
variable {p : Program} {l : Launch} {e : Env} {R : Room} {s : State} {m : MethodId} {args : Array Value} {below : List Frame} {meth : Method} {c : Code} {H H0 : Heap} {locs : List Loc} {cells slots : Nat} {Q : State → Prop} {A : Nat → Prop}
variable {y : MethodName} {b cc : ByteArray} {n nL k idx mc ms ek ek' : Nat} {r : Option FieldType} {rm : Room} {D : va_G} {cI cB : ClassId} {av rest st : List Value} {W0 W1 wr wsN : va_W} {ws : va_W} {own C ref : String} {pc : Nat} {ls : Array Slot}
theorem bodyXT (hy : plainName y.cls = true) (hlen : (lg_sl av).length ≤ n)
    (body : ∀ (p : Program) (e : Env) (s : State) (m : MethodId) (args : Array Value) (below : List Frame) (meth : Method) (c : Code) (ls : Array Slot), XST p l e s m args below meth c ls y b n r D cI cB av W0 →
      W p l e rm s m args below meth c s.heap [] 0 0 (XQ below args s ek) (F0 m 0 ls [])) : XT l y b n r rm D cI cB av W0 ek := by
  intro sz
  refine vx_ofW (cc := b) (maxL := n) (ret := r) hy rfl ?_
  intro p e s m args below meth c s₁ B hml htab hv
  obtain ⟨rfl, hsz, hP, hK, hz⟩ := hv
  subst hsz
  have hts := atoms_spec (ws := mW y b n r) B.pre
  rw [lg_entry_eq]
  exact body p e s m _ below meth c _ ⟨⟨B.exec, B.bytes, hml, findClass_of_methodNamed B.named, fun w h => hts w (List.mem_cons_of_mem _ h)⟩, B.returns, B.notSynchronized, hK, hP, hz, htab, lv_entry av hlen⟩
/-- a call that throws: what comes behind it -/
theorem my_callX {S : Type} {px : S → Prop} {BX : String → S → State → Prop} {AX : Nat → Prop} {free : Addr → Prop} {st0 : List Value} (hr : vx_Run p l e R s m args below meth c H locs cells slots mc ms (F0 m pc ls st0) rest (fun _ _ _ => False) (vx_X px BX AX) free) (hS : va_S A H0 H locs) (hf : ∀ q, free q → A q) (hAX : ∀ q, q < H.size → AX q → A q)
    (kx : ∀ (E : String) (ce : Cell) (q9 : Addr) (u : S) (t : State) (H1 : Heap) (locs1 : List Loc), t.heap = H1 → s.vm.Alike t.vm → px u → BX E u t → H.size ≤ H1.size → (∀ q : Nat, q < H.size → ¬ AX q → H1[q]? = H[q]?) → va_S A H0 H1 locs1 → H1[q9]? = some ce → ce.vm = .none → s.vm.findClass E = some ce.cls → vx_W p l e R s m args below meth c H1 locs1 (cells + mc) (slots + ms) Q (F0 m pc ls rest) q9) : W p l e R s m args below meth c H locs cells slots Q (F0 m pc ls st0) := by
  intro T hT X
  rcases hr T hT X with ⟨v, st₀, t, T', L, h0, X', hL, e1, e2, hq, st⟩ | ⟨q, st₀, t, T', L, E, ce, h0, X', hL, e1, e2, ⟨u, hp, hb, hF⟩, hce, hcv, hcl, st⟩
  · exact hq.elim
  · obtain ⟨k1, k2, k3⟩ := vx_keep h0 e1 hS hAX hf hL hF
    obtain ⟨t2, a1, b1⟩ := kx E ce q u t T'.heap (locs ++ L) e1.symm (by rw [← e2]; exact X'.warmed.alike) hp hb k1 k2 k3 (by rw [e1]; exact hce) hcv hcl T' rfl X'
    exact ⟨t2, st.trans a1, b1⟩
/-- a static call that throws, in a method that doesn't catch -/
theorem thr_s (FX : CallFix p m c cc nL s args bigW own) (htab : ∀ x ∈ c.exceptionTable.toList, False) (hlk : meth.locks = false) (hM : XT l y b n r rm D cI cB av W0 ek) (hI : MIs y b n r k) (hk : av.length = k) (hl : Cond.methodLink own idx y ∈ bigW) (hR : RMok rm R n 1 6)
    (hls : ls.size = nL) (hst : st = av.reverse ++ rest) (hcat : (rest.map fun v => v.category).sum ≤ 8) (hdg : decode cc pc = .ok (.invokestatic idx, 3)) (hf : 0 + 1 ≤ R.cells ∧ 0 + 6 ≤ R.slots)
    (hK : va_K D KL (TY cI cB) s) (hP : va_P D KL ws s.heap) (is : List Nat) (hW : is.filterMap (fun i => ws[i]?) = W0) (hz : zz (fun q => s.heap.size ≤ q) s s.heap) (hek : ek = ek') :
    W p l e R s m args below meth c s.heap [] 0 0 (XQ below args s ek') (F0 m pc ls st) := by
  subst hek
  have hS : va_S (fun q => s.heap.size ≤ q) s.heap s.heap [] := va_S.rf
  refine my_callX (vx_runS FX (hM s.heap.size) (my_cwS FX.2.2.2.2 hI hl hR) ⟨PX.blind, fun U hU hWm => ⟨rfl, by rw [hU], by rw [hU]; exact hP.sub is hW, va_K.moved hWm.alike hK, by rw [hU]; exact zz.warm hWm hz⟩⟩ rfl hk hls hst (lv_room hcat) hdg hf) hS (fun _ h => h) (fun _ _ h => h) (fun E ce q9 u t H1 locs1 ht hvm hp hb hz1 hk1 hS1 hce hcv hcl => ?_)
  exact vx_out (fun x hx => (htab x hx).elim) hlk hce hcv hcl (fun t9 ht9 _ => ⟨(), trivial, hb, by rw [ht9]; exact hS1.1, fun q h1 h2 => by rw [ht9]; exact hS1.2.1 q h1 h2⟩) hS1.2.2 (Nat.le_refl _) (Nat.le_refl _)
/-- 'throw new E("text")' -/
theorem thr_new {ik is ic : Nat} {cls text : String} (FX : CallFix p m c cc nL s args bigW RX0) (htab : ∀ x ∈ c.exceptionTable.toList, False) (hlk : meth.locks = false) (hl : l.stackTraces = false)
    (hcls : Bundle.fit cls = true) (hk : Cond.classLink RX0 ik cls ∈ bigW) (hini : Cond.initialized cls ∈ bigW) (htx : (is, text) ∈ txt7)
    (h1 : ∀ w ∈ (vx_atS RX0 ic cls ["java/lang/RuntimeException", "java/lang/Exception"]).filter goodWord, w ∈ bigW)
    (h2 : ∀ w ∈ (vx_atS RX0 ic cls ["java/lang/RuntimeException", "java/lang/Exception"]).filter (fun w => !goodWord w), w ∈ Cond.castable cls cls :: dcl3.map Cond.declares) (h3 : (cls, cls) ∈ cst3)
    (hgood : ∀ w ∈ Cond.classLink RX0 ik cls :: Cond.initialized cls :: vx_atS RX0 ic cls ["java/lang/RuntimeException", "java/lang/Exception"], vx_ot w = true)
    (hz : zz (fun q => s.heap.size ≤ q) s s.heap) (hls : ls.size = nL)
    (d0 : decode cc pc = .ok (.new ik, 3)) (d3 : decode cc (pc + 3) = .ok (.dup, 1)) (d4 : decode cc (pc + 4) = .ok (.ldc is, 2)) (d6 : decode cc (pc + 6) = .ok (.invokespecial ic, 3)) (d9 : decode cc (pc + 9) = .ok (.athrow, 1))
    (hRf : 5 < R.frames) (hRl : (rest.map fun v => v.category).sum + 82 ≤ R.locals) (hRc : 0 + 1 ≤ R.cells) (hRs : 0 + 6 ≤ R.slots) (hek : cls = exn ek) :
    W p l e R s m args below meth c s.heap [] 0 0 (XQ below args s ek) (F0 m pc ls rest) := by
  obtain ⟨sa, hsa⟩ := hz.2.2.2.1 _ htx
  have hn : ∀ n ∈ ["java/lang/RuntimeException", "java/lang/Exception"], Bundle.fit n = true := by decide +kernel
  exact vx_throwS FX.1 FX.2.1 hl FX.2.2.2.1 hcls hn (FX.2.2.2.2 _ hk) (FX.2.2.2.2 _ hini) hsa
    (vx_hat (fun w hw => FX.2.2.2.2 _ (h1 w hw)) h2 (fun w hw => by
      rcases List.mem_cons.mp hw with e | e
      · rw [e]; exact va_Nw.use rfl (hz.2.2.1 _ h3)
      · obtain ⟨q, hq, rfl⟩ := List.mem_map.mp e
        exact va_Nw.use rfl (hz.2.2.2.2 q hq))) hgood hz.1 hz.2.1 va_S.rf (hls.trans FX.2.2.1.symm) d0 d3 d4 d6 d9 (fun x hx => (htab x hx).elim) hRf hRl hRc hRs hlk
    (fun t _ h1 h2 => ⟨(), trivial, hek, h1, fun q a b => h2 q a⟩) (fun _ h => nomatch h) (Nat.le_refl _) (Nat.le_refl _)
theorem p_abs {x : Int32} (FX : CallFix p m c cc nL s args bigW own) (hls : ls.size = nL) (hl : Cond.methodLink own idx Lib.Math.abs.name ∈ bigW) (hs : Cond.static Lib.Math.abs.name ∈ bigW) (hi : Cond.initialized "java/lang/Math" ∈ bigW) (hc : Cond.code Lib.Math.abs.name Lib.Math.abs.code 1 (some .int) ∈ bigW)
    (h1 : 1 ≤ R.frames) (h2 : (rest.map fun v => v.category).sum + 13 ≤ R.locals) (hce : cells ≤ R.cells) (hse : slots ≤ R.slots) (hdg : decode cc pc = .ok (.invokestatic idx, 3))
    (kk : W p l e R s m args below meth c H locs cells slots Q (F0 m (pc + 3) ls (.int (iabs x) :: rest))) : W p l e R s m args below meth c H locs cells slots Q (F0 m pc ls (.int x :: rest)) :=
  va_mabs FX.1 FX.2.1 (FX.2.2.1.trans hls.symm) FX.2.2.2.1 (FX.2.2.2.2 _ hl) (FX.2.2.2.2 _ hs) (FX.2.2.2.2 _ hi) (FX.2.2.2.2 _ hc) h1 h2 hce hse hdg kk
end MyThrows

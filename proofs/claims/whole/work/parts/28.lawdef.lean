/-! THE CLAIM OUT OF ONE WALK OF THE LAW'S BODY. Your part is whole_start (and what it stands on); all else here is the same for every law, but numbers. -/
def R_law : String := "MaybehallLaw"
def lw_P (b : Addr) (xs : List Int32) (args : Array Value) (s : State) : Prop := args = #[.ref b] ∧ s.IntsAt b xs ∧ xs.length ≤ 3072 ∧ (Jvm.Cond.and given_1 narrow_1).before args s = true
def lw_Q (_ : Array Value) (s : State) (o : Outcome) (t : State) : Prop := o = .returned (some (.int 1)) ∧ Framed s o t [] 601024 7293034
def lw_Z (below : List Frame) (a : Array Value) (s : State) : State → Prop := fun t => ∃ o, t.status = .running ∧ Ended t below o ∧ lw_Q a s o t
/-- the law's own end, with 1 on the stack, nothing written that was there before, its room as the claim has it -/
theorem lw_ret {p : Program} {l : Launch} {e : Env} {s : State} {m : MethodId} {below : List Frame} {meth : Method} {c : Code} {b : Nat} (hx : p.tables.exec = Jvm.exec) (hb : c.code = code) (hr : meth.sig.returnType = ret) (hlocks : meth.locks = false) {pc : Nat} {H : Heap} {ls : Array Slot} (hdg : decode code pc = .ok (.ireturn, 1)) : W p l e room_1 s m #[Value.ref b] below meth c H [] 601024 7293034 (lw_Z below #[Value.ref b] s) (F0 m pc ls [.int 1]) := by
  intro T hT X
  obtain ⟨fs, hret, hrun, hended, hW, hframe⟩ := X.leave (v := some (.int 1)) (hlocks := hlocks) (fun h => by rw [hr] at h; cases h)
  have hmeth' : T.vm.method? m = some meth := X.method'
  refine ⟨T.setFrames fs, ?_, .returned (some (.int 1)), hrun, hended, rfl, ⟨_, rfl⟩, hW, hframe⟩
  jvm_step X.here [X.here.top, hx, hb, hdg, hmeth', hr, ret, narrow_b1]
  (try refine ⟨rfl, ?_⟩); (try refine ⟨rfl, ?_⟩)
  first | (intro acts; rw [hret _ acts rfl rfl rfl]) | rw [hret _ _ rfl rfl rfl]
  exact Steps.refl _
/-- what holds at the law's entry: the machine, the code, the tables' words (any of lw_tbl by 'hts w (by decide +kernel)'), the script of L ints xs at the cell b, what the Statement gives of the start (any of its parts by flat_of_before) -/
def lw_At (p : Program) (s : State) (m : MethodId) (meth : Method) (c : Code) (b L : Nat) (xs : Nat → Int32) : Prop :=
  p.tables.exec = Jvm.exec ∧ c.code = code ∧ meth.sig.returnType = ret ∧ c.maxLocals = 7 ∧ s.vm.findClass R_law = some m.cls ∧ (∀ w ∈ lw_tbl, w.before #[Value.ref b] s = true) ∧ va_X b L xs s s.heap ∧ b < s.heap.size ∧ meth.locks = false ∧ (Jvm.Cond.and given_1 narrow_1).before #[Value.ref b] s = true

theorem lg_self (x : Int64) : lg_cmp x x = 0 := by simp [lg_cmp]
def zLaw (to tt : Nat) (go gu : Nat → Int32) (na nv : Nat) (nf : Nat → Int32) (nb nw : Nat) (nh : Nat → Int32) (ea ew : Nat) (ef : Nat → Int32) : (Nat → Prop) → State → Heap → Prop := zAnd (zAnd (zAnd zz zN) (zAnd (zF RL 13 RX1 "n" "J" RL) (zF RL 141 RX1 "s" "Ljava/lang/String;" RL))) (zAnd (zAnd zC (zAnd (zAnd (zDg "DigitOnes" to go) (zDg "DigitTens" tt gu)) (zAnd (zR RX0 201 "none" na) (zS na nv 4 nf)))) (zAnd zC (zAnd (zAnd (zDg "DigitOnes" to go) (zDg "DigitTens" tt gu)) (zAnd (zAnd (zR RX2 124 "none" nb) (zS nb nw 4 nh)) (zAnd (zR RX2 129 "" ea) (zS ea ew 0 ef))))))
theorem told_c {f g h j : Nat → Int32} {ak su gt lf rf kn ak' su' gt' lf' rf' kn' b : Int32} (hI : Inv f g ak su gt lf rf kn h j ak' su' gt' lf' rf' kn') (hE : e_X0_told b = 0) : v_X2_fails (v_X2_isNone b) 0 = 0 ∧ ((f b.toNatClampNeg = -10000 ∧ h b.toNatClampNeg = -100000) ∨ (f b.toNatClampNeg = h b.toNatClampNeg ∧ -999 ≤ h b.toNatClampNeg ∧ h b.toNatClampNeg ≤ 999)) := by
  rcases bx b with ⟨a1, a2, a3⟩ | ⟨a1, -, -⟩
  · refine ⟨by rw [a2]; decide, ?_⟩
    rcases relv_c (at6 hI.1 a3) with ⟨r1, r2⟩ | ⟨r1, -, -, r4⟩
    · exact Or.inl ⟨r1, r2⟩
    · exact Or.inr ⟨r1, r4⟩
  · exact absurd (told_nb hE) (by rw [a1]; decide)
theorem told_x {b : Int32} (hE : ¬ e_X0_told b = 0) : ¬ v_X2_fails (v_X2_isNone b) 0 = 0 := by
  rcases bx b with ⟨a1, -, -⟩ | ⟨-, a2, -⟩
  · exact absurd (by unfold e_X0_told; rw [if_pos a1]) hE
  · rw [a2]; decide
theorem zLaw_ok {to tt : Nat} {go gu : Nat → Int32} {na nv : Nat} {nf : Nat → Int32} {nb nw : Nat} {nh : Nat → Int32} {ea ew : Nat} {ef : Nat → Int32} : ZOK (zLaw to tt go gu na nv nf nb nw nh ea ew ef) := zAnd_ok (zAnd_ok (zAnd_ok zz_ok zN_ok) (zAnd_ok zF_ok zF_ok)) (zAnd_ok (zAnd_ok zC_ok (zAnd_ok (zAnd_ok zDg_ok zDg_ok) (zAnd_ok zR_ok zS_ok))) (zAnd_ok zC_ok (zAnd_ok (zAnd_ok zDg_ok zDg_ok) (zAnd_ok (zAnd_ok zR_ok zS_ok) (zAnd_ok zR_ok zS_ok)))))
abbrev wL (cI cB : ClassId) (x bx px t bt o bo po q : Nat) (f g : Nat → Int32) (ak su gt lf rf kn ml cn : Int32) (bs : Nat → Int32) (th : Int32) (h j : Nat → Int32) (ak' su' gt' lf' rf' kn' : Int32) (n0 : Int64) (sv : Value) : va_W := [(x, .inr (2, [.ref bx, .ref px, .ref t, .int ak, .int su, .int gt, .int lf, .int rf, .int kn])), (bx, .inl (cI, 6, .inl f)), (px, .inl (cI, 2, .inl g)), (t, .inr (1, [.ref bt, .int 0, .int ml, .int cn])), (bt, .inl (cB, 16, .inl bs)), (o, .inr (4, [.int th, .ref bo, .ref po, .int ak', .int su', .int gt', .int lf', .int rf', .int kn'])), (bo, .inl (cI, 6, .inl h)), (po, .inl (cI, 2, .inl j)), (q, .inr (3, [.long n0, sv]))]
/-- the law stands at pc, at script place i, whatever the class's state and the reference's are, if they belong together -/
def LGo (p : Program) (l : Launch) (e : Env) (s : State) (m : MethodId) (below : List Frame) (meth : Method) (c : Code) (D : va_G) (cI cB : ClassId) (b : Nat) (x bx px t bt o bo po q : Nat) (i pc cells slots : Nat) : Prop :=
  ∀ (H : Heap) (locs : List Loc) (f g : Nat → Int32) (ak su gt lf rf kn ml cn : Int32) (bs : Nat → Int32) (th : Int32) (h j : Nat → Int32) (ak' su' gt' lf' rf' kn' : Int32) (n0 : Int64) (sv : Value) (ls : Array Slot), Inv f g ak su gt lf rf kn h j ak' su' gt' lf' rf' kn' → sb_Fit bs → 0 ≤ cn → va_P D KL (wL cI cB x bx px t bt o bo po q f g ak su gt lf rf kn ml cn bs th h j ak' su' gt' lf' rf' kn' n0 sv) H → va_D (fun q => s.heap.size ≤ q) (wL cI cB x bx px t bt o bo po q f g ak su gt lf rf kn ml cn bs th h j ak' su' gt' lf' rf' kn' n0 sv) → va_S (fun q => s.heap.size ≤ q) s.heap H locs → lv_has ls 7 [(4, .int (nI i)), (3, .ref q), (2, .ref o), (1, .ref x), (0, .ref b)] → W p l e room_1 s m #[.ref b] below meth c H locs cells slots (lw_Z below #[.ref b] s) (F0 m pc ls [])

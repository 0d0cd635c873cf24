set_option maxRecDepth 20000 in
theorem cl_RL_8 : Cond.classLink RL 8 "Maybehall" ∈ bigW := bt1 23 rfl rfl
set_option maxRecDepth 20000 in
theorem is_RX0 : Cond.instantiable RX0 9 ∈ bigW := bt1 24 rfl rfl
set_option maxRecDepth 20000 in
theorem in_RX0 : Cond.initialized RX0 ∈ bigW := bt1 1 rfl rfl
set_option maxRecDepth 20000 in
theorem ml_RL_151 : Cond.methodLink RL 151 yX0_init ∈ bigW := bt1 25 rfl rfl
set_option maxRecDepth 20000 in
theorem mn_X0_init : MIi yX0_init cX0_init 2 0 := ⟨⟨bt1 27 rfl rfl, bt1 1 rfl rfl, by decide, by decide, by decide +kernel⟩, bt1 26 rfl rfl, rfl⟩
set_option maxRecDepth 20000 in
theorem cl_RL_152 : Cond.classLink RL 152 "MaybehallModel" ∈ bigW := bt4 189 rfl rfl
set_option maxRecDepth 20000 in
theorem is_RX2 : Cond.instantiable RX2 9 ∈ bigW := bt4 190 rfl rfl
set_option maxRecDepth 20000 in
theorem in_RX2 : Cond.initialized RX2 ∈ bigW := bt1 6 rfl rfl
set_option maxRecDepth 20000 in
theorem ml_RL_154 : Cond.methodLink RL 154 yX2_init ∈ bigW := bt4 191 rfl rfl
set_option maxRecDepth 20000 in
theorem mn_X2_init : MIi yX2_init cX2_init 1 0 := ⟨⟨bt4 193 rfl rfl, bt1 6 rfl rfl, by decide, by decide, by decide +kernel⟩, bt4 192 rfl rfl, rfl⟩
set_option maxRecDepth 20000 in
theorem cl_RL_14 : Cond.classLink RL 14 "MaybehallLaw$Out" ∈ bigW := bt3 120 rfl rfl
set_option maxRecDepth 20000 in
theorem is_RX1 : Cond.instantiable RX1 2 ∈ bigW := bt3 121 rfl rfl
set_option maxRecDepth 20000 in
theorem in_RX1 : Cond.initialized RX1 ∈ bigW := bt1 7 rfl rfl
set_option maxRecDepth 20000 in
theorem mn_X1_init : MIi yX1_init cX1_init 1 0 := ⟨⟨bt3 124 rfl rfl, bt1 7 rfl rfl, by decide, by decide, by decide +kernel⟩, bt3 123 rfl rfl, rfl⟩
theorem dL_law_0 : decode cL_law 0 = .ok (.new 8, 3) := dc_row (B := pc_L_law_w0) (a := 0) (p := 0) pc_L_law_a0 (by decide +kernel)
theorem dL_law_3 : decode cL_law 3 = .ok (.dup, 1) := dc_row (B := pc_L_law_w0) (a := 0) (p := 3) pc_L_law_a0 (by decide +kernel)
theorem dL_law_4 : decode cL_law 4 = .ok (.invokespecial 151, 3) := dc_row (B := pc_L_law_w0) (a := 0) (p := 4) pc_L_law_a0 (by decide +kernel)
theorem dL_law_7 : decode cL_law 7 = .ok (.astore_n 1, 1) := dc_row (B := pc_L_law_w0) (a := 0) (p := 7) pc_L_law_a0 (by decide +kernel)
theorem dL_law_8 : decode cL_law 8 = .ok (.new 152, 3) := dc_row (B := pc_L_law_w0) (a := 0) (p := 8) pc_L_law_a0 (by decide +kernel)
theorem dL_law_11 : decode cL_law 11 = .ok (.dup, 1) := dc_row (B := pc_L_law_w0) (a := 0) (p := 11) pc_L_law_a0 (by decide +kernel)
theorem dL_law_12 : decode cL_law 12 = .ok (.invokespecial 154, 3) := dc_row (B := pc_L_law_w0) (a := 0) (p := 12) pc_L_law_a0 (by decide +kernel)
theorem dL_law_15 : decode cL_law 15 = .ok (.astore_n 2, 1) := dc_row (B := pc_L_law_w0) (a := 0) (p := 15) pc_L_law_a0 (by decide +kernel)
theorem dL_law_16 : decode cL_law 16 = .ok (.new 14, 3) := dc_row (B := pc_L_law_w0) (a := 0) (p := 16) pc_L_law_a0 (by decide +kernel)
theorem dL_law_19 : decode cL_law 19 = .ok (.dup, 1) := dc_row (B := pc_L_law_w0) (a := 0) (p := 19) pc_L_law_a0 (by decide +kernel)
theorem dL_law_20 : decode cL_law 20 = .ok (.invokespecial 155, 3) := dc_row (B := pc_L_law_w0) (a := 0) (p := 20) pc_L_law_a0 (by decide +kernel)
theorem dL_law_23 : decode cL_law 23 = .ok (.astore_n 3, 1) := dc_row (B := pc_L_law_w0) (a := 0) (p := 23) pc_L_law_a0 (by decide +kernel)
theorem dL_law_24 : decode cL_law 24 = .ok (.iconst 0, 1) := dc_row (B := pc_L_law_w1) (a := 24) (p := 0) pc_L_law_a1 (by decide +kernel)
theorem dL_law_25 : decode cL_law 25 = .ok (.istore 4, 2) := dc_row (B := pc_L_law_w1) (a := 24) (p := 1) pc_L_law_a1 (by decide +kernel)
theorem tw_nest : Cond.methodLinkNest "MaybehallLaw" 155 ⟨"MaybehallLaw$Out", "<init>", "()V"⟩ "MaybehallLaw" ∈ lw_tbl := List.mem_append_right _ (List.mem_of_getElem? (i := 602) (by decide +kernel))
theorem tw_p0 : Cond.privateMethod ⟨"java/lang/AbstractStringBuilder", "ensureCapacityInternal", "(I)V"⟩ ∈ lw_tbl := List.mem_append_right _ (List.mem_of_getElem? (i := 343) (by decide +kernel))
theorem tw_i0 : Cond.instanceMethod ⟨"java/lang/AbstractStringBuilder", "ensureCapacityInternal", "(I)V"⟩ ∈ lw_tbl := List.mem_append_right _ (List.mem_of_getElem? (i := 344) (by decide +kernel))
theorem tw_p1 : Cond.privateMethod ⟨"java/lang/AbstractStringBuilder", "putStringAt", "(ILjava/lang/String;)V"⟩ ∈ lw_tbl := List.mem_append_right _ (List.mem_of_getElem? (i := 418) (by decide +kernel))
theorem tw_i1 : Cond.instanceMethod ⟨"java/lang/AbstractStringBuilder", "putStringAt", "(ILjava/lang/String;)V"⟩ ∈ lw_tbl := List.mem_append_right _ (List.mem_of_getElem? (i := 419) (by decide +kernel))
theorem tw_p2 : Cond.privateMethod ⟨"java/lang/AbstractStringBuilder", "inflateIfNeededFor", "(Ljava/lang/String;)V"⟩ ∈ lw_tbl := List.mem_append_right _ (List.mem_of_getElem? (i := 422) (by decide +kernel))
theorem tw_i2 : Cond.instanceMethod ⟨"java/lang/AbstractStringBuilder", "inflateIfNeededFor", "(Ljava/lang/String;)V"⟩ ∈ lw_tbl := List.mem_append_right _ (List.mem_of_getElem? (i := 423) (by decide +kernel))
theorem tw_sel : Cond.selects "java/lang/StringBuilder" ⟨"java/lang/AbstractStringBuilder", "isLatin1", "()Z"⟩ ⟨"java/lang/AbstractStringBuilder", "isLatin1", "()Z"⟩ ∈ lw_tbl := List.mem_append_right _ (List.mem_of_getElem? (i := 380) (by decide +kernel))
theorem tw_jpr : ∀ y ∈ jpr, y.cls = "java/lang/AbstractStringBuilder" ∧ Cond.privateMethod y ∈ lw_tbl ∧ Cond.instanceMethod y ∈ lw_tbl := by
  intro y hy
  rcases List.mem_cons.mp hy with e | hy
  · rw [e]; exact ⟨rfl, tw_p0, tw_i0⟩
  rcases List.mem_cons.mp hy with e | hy
  · rw [e]; exact ⟨rfl, tw_p1, tw_i1⟩
  rw [List.mem_singleton.mp hy]; exact ⟨rfl, tw_p2, tw_i2⟩
theorem inv0 : Inv iX6 iX2 0 0 0 0 0 0 iM6 iM2 0 0 0 0 0 0 := by
  refine ⟨fun i hi => Or.inl ?_, fun i hi => Or.inl ?_, rfl, rfl, rfl, rfl, rfl, rfl⟩
  · rcases (show i = 0 ∨ i = 1 ∨ i = 2 ∨ i = 3 ∨ i = 4 ∨ i = 5 by omega) with rfl | rfl | rfl | rfl | rfl | rfl <;> exact ⟨by decide, by decide⟩
  · rcases (show i = 0 ∨ i = 1 by omega) with rfl | rfl <;> exact ⟨by decide, by decide⟩
set_option maxRecDepth 100000 in
set_option maxHeartbeats 4000000 in
theorem whole_start {p : Program} {e : Env} {s : State} {m : MethodId} {below : List Frame} {meth : Method} {c : Code} (l : Launch) (hflags : l.flags = flags0) {b L : Nat} {xs : Nat → Int32} (hL : L ≤ 3072) (C0 : lw_At p s m meth c b L xs) : W p l e room_1 s m #[Value.ref b] below meth c s.heap [] 0 0 (lw_Z below #[Value.ref b] s) (entryFrame m ([Value.ref b] : List Value).toArray 7) := by
  obtain ⟨hx, hbc, hr, hml, hown, hts, hX, hbl, hlocks, hgv⟩ := id C0
  have hl0 : l.stackTraces = false := by rw [Launch.stackTraces, hflags]; decide +kernel
  have hT : ∀ w ∈ bigW, w.before #[Value.ref b] s = true := of_tbl hts tw_sel tw_jpr
  have FX : CallFix p m c cL_law 7 s #[.ref b] bigW RL := ⟨hx, hbc, hml, hown, hT⟩
  obtain ⟨c0, iS0, hKn0⟩ := u_known (C := RJ0) (T := TJ0) (N := 4) (n := 4) hT inJ0 (hT _ is_RJ0)
  obtain ⟨c1, iS1, hKn1⟩ := u_known (C := RJ4) (T := TJ4) (N := 4) (n := 4) hT inJ4 (hT _ is_RJ4)
  obtain ⟨c2, iS2, hKn2⟩ := u_known (C := RX0) (T := TX0) (N := 9) (n := 9) hT inX0 (hT _ is_RX0)
  obtain ⟨c3, iS3, hKn3⟩ := u_known (C := RX1) (T := TX1) (N := 2) (n := 2) hT inX1 (hT _ is_RX1)
  obtain ⟨c4, iS4, hKn4⟩ := u_known (C := RX2) (T := TX2) (N := 9) (n := 9) hT inX2 (hT _ is_RX2)
  obtain ⟨cI, hI1, hI2⟩ := arr_I (hT _ ac_int)
  obtain ⟨cB, hB1, hB2⟩ := arr_B (hT _ ac_byte)
  obtain ⟨D, hK⟩ : ∃ D : va_G, va_K D KL (TY cI cB) s := by
    refine ⟨(fun k => if k = 0 then c0 else if k = 1 then c1 else if k = 2 then c2 else if k = 3 then c3 else c4, fun k => if k = 0 then iS0 else if k = 1 then iS1 else if k = 2 then iS2 else if k = 3 then iS3 else iS4), fun k q hq => ?_, fun k q hq => ?_⟩
    · match k, hq with
      | 0, hq => cases hq; exact hKn0
      | 1, hq => cases hq; exact hKn1
      | 2, hq => cases hq; exact hKn2
      | 3, hq => cases hq; exact hKn3
      | 4, hq => cases hq; exact hKn4
      | k + 5, hq => simp [KL] at hq
    · match k, hq with
      | 0, hq => cases hq; exact ⟨hI1, hI2⟩
      | 1, hq => cases hq; exact ⟨hB1, hB2⟩
      | k + 2, hq => simp [TY] at hq
  obtain ⟨to, tt, go, gu, na, nv, nf, nb, nw, nh, ea, ew, ef, hz, hfn, hfe, hnn⟩ := start_z hts hgv
  have hnest : va_Nw (.methodLinkNest RL 155 yX1_init RL) s := va_Nw.of rfl (hts _ tw_nest)
  have hA : ∀ q : Nat, s.heap.size ≤ q → (fun q : Nat => s.heap.size ≤ q) q := fun _ h => h
  have hS : va_S (fun q : Nat => s.heap.size ≤ q) s.heap s.heap [] := va_S.rf
  have hP : va_P D KL [] s.heap := fun k q h => by simp at h
  have hD : va_D (fun q : Nat => s.heap.size ≤ q) [] := ⟨fun i j p q h => by simp at h, fun k q h => by simp at h⟩
  have hl := lv_entry ([.ref b]) (n := 7) (Nat.le_of_ble_eq_true rfl)
  rw [lg_entry_eq]
  generalize (lg_sl ([.ref b]) ++ List.replicate (7 - (lg_sl ([.ref b])).length) Slot.unset).toArray = ls at hl ⊢
  have hl : lv_has ls 7 [(0, .ref b)] := hl
  refine va_new (ci := 2) (fs := [.null, .null, .null, .int 0, .int 0, .int 0, .int 0, .int 0, .int 0]) (C := RX0) (T := TX0) (N := 9) FX.1 FX.2.1 FX.2.2.2.2 inX0 tyX0 tyX0_ok FX.2.2.2.1 (FX.2.2.2.2 _ cl_RL_8) (FX.2.2.2.2 _ is_RX0) (FX.2.2.2.2 _ in_RX0) hK hP hD hS hA rfl (fun j hj => by rcases (show j = 0 ∨ j = 1 ∨ j = 2 ∨ j = 3 ∨ j = 4 ∨ j = 5 ∨ j = 6 ∨ j = 7 ∨ j = 8 by omega) with rfl | rfl | rfl | rfl | rfl | rfl | rfl | rfl | rfl <;> rfl) (by decide) (by decide) dL_law_0 (fun q1 H hP hD hS => ?_)
  have hP : va_P D KL [(q1, .inr (2, [.null, .null, .null, .int 0, .int 0, .int 0, .int 0, .int 0, .int 0]))] H := hP
  have hD : va_D (fun q : Nat => s.heap.size ≤ q) [(q1, .inr (2, [.null, .null, .null, .int 0, .int 0, .int 0, .int 0, .int 0, .int 0]))] := hD
  refine lv_dup FX.1 FX.2.1 dL_law_3 rfl ?_
  refine c_J (W0 := [(q1, .inr (2, [.null, .null, .null, .int 0, .int 0, .int 0, .int 0, .int 0, .int 0]))]) (wr := []) (wsN := fun u1 => [(q1, .inr (2, [.ref u1.1, .ref u1.2.1, .ref u1.2.2.1, .int 0, .int 0, .int 0, .int 0, .int 0, .int 0])), (u1.1, .inl (cI, 6, .inl iX6)), (u1.2.1, .inl (cI, 2, .inl iX2)), (u1.2.2.1, .inr (1, [.ref u1.2.2.2, .int 0, .int 0, .int 0])), (u1.2.2.2, .inl (cB, 16, .inl ((fun _ => 0))))]) (va_runI FX ((j_X0_init l D cI cB q1) H.size) (my_cwI FX.2.2.2.2 mn_X0_init ml_RL_151 (RMok.mk)) ⟨PJ.blind zC_ok, fun U hU hW => ⟨rfl, my_preJ zC_ok hz.2.1.1 hS hA hK hP hD [0] rfl rfl U hU hW⟩⟩ rfl rfl hl.1 rfl (lv_room (Nat.le_of_ble_eq_true rfl)) dL_law_4 (by decide)) hP hD hS hA [0] rfl [] rfl (by decide) [0, 1, 2, 3, 4] (fun _ => rfl) rfl (fun u1 H locs hp_1 hP hD hS => ?_)
  have hP : va_P D KL [(q1, .inr (2, [.ref u1.1, .ref u1.2.1, .ref u1.2.2.1, .int 0, .int 0, .int 0, .int 0, .int 0, .int 0])), (u1.1, .inl (cI, 6, .inl iX6)), (u1.2.1, .inl (cI, 2, .inl iX2)), (u1.2.2.1, .inr (1, [.ref u1.2.2.2, .int 0, .int 0, .int 0])), (u1.2.2.2, .inl (cB, 16, .inl ((fun _ => 0))))] H := hP
  have hD : va_D (fun q : Nat => s.heap.size ≤ q) [(q1, .inr (2, [.ref u1.1, .ref u1.2.1, .ref u1.2.2.1, .int 0, .int 0, .int 0, .int 0, .int 0, .int 0])), (u1.1, .inl (cI, 6, .inl iX6)), (u1.2.1, .inl (cI, 2, .inl iX2)), (u1.2.2.1, .inr (1, [.ref u1.2.2.2, .int 0, .int 0, .int 0])), (u1.2.2.2, .inl (cB, 16, .inl ((fun _ => 0))))] := hD
  refine W.eq (g2 := F0 m 7 ls [.ref q1]) rfl ?_
  refine lv_astore_n (lv' := [(1, .ref q1), (0, .ref b)]) FX.1 FX.2.1 dL_law_7 rfl hl (by decide) rfl (fun ls hl => ?_)
  refine va_new (ci := 4) (fs := [.int 0, .null, .null, .int 0, .int 0, .int 0, .int 0, .int 0, .int 0]) (C := RX2) (T := TX2) (N := 9) FX.1 FX.2.1 FX.2.2.2.2 inX2 tyX2 tyX2_ok FX.2.2.2.1 (FX.2.2.2.2 _ cl_RL_152) (FX.2.2.2.2 _ is_RX2) (FX.2.2.2.2 _ in_RX2) hK hP hD hS hA rfl (fun j hj => by rcases (show j = 0 ∨ j = 1 ∨ j = 2 ∨ j = 3 ∨ j = 4 ∨ j = 5 ∨ j = 6 ∨ j = 7 ∨ j = 8 by omega) with rfl | rfl | rfl | rfl | rfl | rfl | rfl | rfl | rfl <;> rfl) (by decide) (by decide) dL_law_8 (fun q2 H hP hD hS => ?_)
  have hP : va_P D KL [(q1, .inr (2, [.ref u1.1, .ref u1.2.1, .ref u1.2.2.1, .int 0, .int 0, .int 0, .int 0, .int 0, .int 0])), (u1.1, .inl (cI, 6, .inl iX6)), (u1.2.1, .inl (cI, 2, .inl iX2)), (u1.2.2.1, .inr (1, [.ref u1.2.2.2, .int 0, .int 0, .int 0])), (u1.2.2.2, .inl (cB, 16, .inl ((fun _ => 0)))), (q2, .inr (4, [.int 0, .null, .null, .int 0, .int 0, .int 0, .int 0, .int 0, .int 0]))] H := hP
  have hD : va_D (fun q : Nat => s.heap.size ≤ q) [(q1, .inr (2, [.ref u1.1, .ref u1.2.1, .ref u1.2.2.1, .int 0, .int 0, .int 0, .int 0, .int 0, .int 0])), (u1.1, .inl (cI, 6, .inl iX6)), (u1.2.1, .inl (cI, 2, .inl iX2)), (u1.2.2.1, .inr (1, [.ref u1.2.2.2, .int 0, .int 0, .int 0])), (u1.2.2.2, .inl (cB, 16, .inl ((fun _ => 0)))), (q2, .inr (4, [.int 0, .null, .null, .int 0, .int 0, .int 0, .int 0, .int 0, .int 0]))] := hD
  refine lv_dup FX.1 FX.2.1 dL_law_11 rfl ?_
  refine c_J (W0 := [(q2, .inr (4, [.int 0, .null, .null, .int 0, .int 0, .int 0, .int 0, .int 0, .int 0]))]) (wr := [(q1, .inr (2, [.ref u1.1, .ref u1.2.1, .ref u1.2.2.1, .int 0, .int 0, .int 0, .int 0, .int 0, .int 0])), (u1.1, .inl (cI, 6, .inl iX6)), (u1.2.1, .inl (cI, 2, .inl iX2)), (u1.2.2.1, .inr (1, [.ref u1.2.2.2, .int 0, .int 0, .int 0])), (u1.2.2.2, .inl (cB, 16, .inl ((fun _ => 0))))]) (wsN := fun u2 => [(q1, .inr (2, [.ref u1.1, .ref u1.2.1, .ref u1.2.2.1, .int 0, .int 0, .int 0, .int 0, .int 0, .int 0])), (u1.1, .inl (cI, 6, .inl iX6)), (u1.2.1, .inl (cI, 2, .inl iX2)), (u1.2.2.1, .inr (1, [.ref u1.2.2.2, .int 0, .int 0, .int 0])), (u1.2.2.2, .inl (cB, 16, .inl ((fun _ => 0)))), (q2, .inr (4, [.int 0, .ref u2.1, .ref u2.2, .int 0, .int 0, .int 0, .int 0, .int 0, .int 0])), (u2.1, .inl (cI, 6, .inl iM6)), (u2.2, .inl (cI, 2, .inl iM2))]) (va_runI FX ((j_X2_init l D cI cB q2) H.size) (my_cwI FX.2.2.2.2 mn_X2_init ml_RL_154 (RMok.mk)) ⟨PJ.blind zT_ok, fun U hU hW => ⟨rfl, my_preJ zT_ok trivial hS hA hK hP hD [5] rfl rfl U hU hW⟩⟩ rfl rfl hl.1 rfl (lv_room (Nat.le_of_ble_eq_true rfl)) dL_law_12 (by decide)) hP hD hS hA [5] rfl [0, 1, 2, 3, 4] rfl (by decide) [0, 1, 2, 3, 4, 5, 6, 7] (fun _ => rfl) rfl (fun u2 H locs hp_2 hP hD hS => ?_)
  have hP : va_P D KL [(q1, .inr (2, [.ref u1.1, .ref u1.2.1, .ref u1.2.2.1, .int 0, .int 0, .int 0, .int 0, .int 0, .int 0])), (u1.1, .inl (cI, 6, .inl iX6)), (u1.2.1, .inl (cI, 2, .inl iX2)), (u1.2.2.1, .inr (1, [.ref u1.2.2.2, .int 0, .int 0, .int 0])), (u1.2.2.2, .inl (cB, 16, .inl ((fun _ => 0)))), (q2, .inr (4, [.int 0, .ref u2.1, .ref u2.2, .int 0, .int 0, .int 0, .int 0, .int 0, .int 0])), (u2.1, .inl (cI, 6, .inl iM6)), (u2.2, .inl (cI, 2, .inl iM2))] H := hP
  have hD : va_D (fun q : Nat => s.heap.size ≤ q) [(q1, .inr (2, [.ref u1.1, .ref u1.2.1, .ref u1.2.2.1, .int 0, .int 0, .int 0, .int 0, .int 0, .int 0])), (u1.1, .inl (cI, 6, .inl iX6)), (u1.2.1, .inl (cI, 2, .inl iX2)), (u1.2.2.1, .inr (1, [.ref u1.2.2.2, .int 0, .int 0, .int 0])), (u1.2.2.2, .inl (cB, 16, .inl ((fun _ => 0)))), (q2, .inr (4, [.int 0, .ref u2.1, .ref u2.2, .int 0, .int 0, .int 0, .int 0, .int 0, .int 0])), (u2.1, .inl (cI, 6, .inl iM6)), (u2.2, .inl (cI, 2, .inl iM2))] := hD
  refine W.eq (g2 := F0 m 15 ls [.ref q2]) rfl ?_
  refine lv_astore_n (lv' := [(2, .ref q2), (1, .ref q1), (0, .ref b)]) FX.1 FX.2.1 dL_law_15 rfl hl (by decide) rfl (fun ls hl => ?_)
  refine va_new (ci := 3) (fs := [.long 0, .null]) (C := RX1) (T := TX1) (N := 2) FX.1 FX.2.1 FX.2.2.2.2 inX1 tyX1 tyX1_ok FX.2.2.2.1 (FX.2.2.2.2 _ cl_RL_14) (FX.2.2.2.2 _ is_RX1) (FX.2.2.2.2 _ in_RX1) hK hP hD hS hA rfl (fun j hj => by rcases (show j = 0 ∨ j = 1 by omega) with rfl | rfl <;> rfl) (by decide) (by decide) dL_law_16 (fun q3 H hP hD hS => ?_)
  have hP : va_P D KL [(q1, .inr (2, [.ref u1.1, .ref u1.2.1, .ref u1.2.2.1, .int 0, .int 0, .int 0, .int 0, .int 0, .int 0])), (u1.1, .inl (cI, 6, .inl iX6)), (u1.2.1, .inl (cI, 2, .inl iX2)), (u1.2.2.1, .inr (1, [.ref u1.2.2.2, .int 0, .int 0, .int 0])), (u1.2.2.2, .inl (cB, 16, .inl ((fun _ => 0)))), (q2, .inr (4, [.int 0, .ref u2.1, .ref u2.2, .int 0, .int 0, .int 0, .int 0, .int 0, .int 0])), (u2.1, .inl (cI, 6, .inl iM6)), (u2.2, .inl (cI, 2, .inl iM2)), (q3, .inr (3, [.long 0, .null]))] H := hP
  have hD : va_D (fun q : Nat => s.heap.size ≤ q) [(q1, .inr (2, [.ref u1.1, .ref u1.2.1, .ref u1.2.2.1, .int 0, .int 0, .int 0, .int 0, .int 0, .int 0])), (u1.1, .inl (cI, 6, .inl iX6)), (u1.2.1, .inl (cI, 2, .inl iX2)), (u1.2.2.1, .inr (1, [.ref u1.2.2.2, .int 0, .int 0, .int 0])), (u1.2.2.2, .inl (cB, 16, .inl ((fun _ => 0)))), (q2, .inr (4, [.int 0, .ref u2.1, .ref u2.2, .int 0, .int 0, .int 0, .int 0, .int 0, .int 0])), (u2.1, .inl (cI, 6, .inl iM6)), (u2.2, .inl (cI, 2, .inl iM2)), (q3, .inr (3, [.long 0, .null]))] := hD
  refine lv_dup FX.1 FX.2.1 dL_law_19 rfl ?_
  refine c_J (W0 := [(q3, .inr (3, [.long 0, .null]))]) (wr := [(q1, .inr (2, [.ref u1.1, .ref u1.2.1, .ref u1.2.2.1, .int 0, .int 0, .int 0, .int 0, .int 0, .int 0])), (u1.1, .inl (cI, 6, .inl iX6)), (u1.2.1, .inl (cI, 2, .inl iX2)), (u1.2.2.1, .inr (1, [.ref u1.2.2.2, .int 0, .int 0, .int 0])), (u1.2.2.2, .inl (cB, 16, .inl ((fun _ => 0)))), (q2, .inr (4, [.int 0, .ref u2.1, .ref u2.2, .int 0, .int 0, .int 0, .int 0, .int 0, .int 0])), (u2.1, .inl (cI, 6, .inl iM6)), (u2.2, .inl (cI, 2, .inl iM2))]) (wsN := fun _ => [(q1, .inr (2, [.ref u1.1, .ref u1.2.1, .ref u1.2.2.1, .int 0, .int 0, .int 0, .int 0, .int 0, .int 0])), (u1.1, .inl (cI, 6, .inl iX6)), (u1.2.1, .inl (cI, 2, .inl iX2)), (u1.2.2.1, .inr (1, [.ref u1.2.2.2, .int 0, .int 0, .int 0])), (u1.2.2.2, .inl (cB, 16, .inl ((fun _ => 0)))), (q2, .inr (4, [.int 0, .ref u2.1, .ref u2.2, .int 0, .int 0, .int 0, .int 0, .int 0, .int 0])), (u2.1, .inl (cI, 6, .inl iM6)), (u2.2, .inl (cI, 2, .inl iM2)), (q3, .inr (3, [.long 0, .null]))]) (va_runIN FX ((j_X1_init l D cI cB q3) H.size) (my_cnI FX.2.2.2.2 mn_X1_init hnest (RMok.mk)) ⟨PJ.blind zT_ok, fun U hU hW => ⟨rfl, my_preJ zT_ok trivial hS hA hK hP hD [8] rfl rfl U hU hW⟩⟩ rfl rfl hl.1 rfl (lv_room (Nat.le_of_ble_eq_true rfl)) dL_law_20 (by decide)) hP hD hS hA [8] rfl [0, 1, 2, 3, 4, 5, 6, 7] rfl (by decide) [0, 1, 2, 3, 4, 5, 6, 7, 8] (fun _ => rfl) rfl (fun u3 H locs hp_3 hP hD hS => ?_)
  have hP : va_P D KL [(q1, .inr (2, [.ref u1.1, .ref u1.2.1, .ref u1.2.2.1, .int 0, .int 0, .int 0, .int 0, .int 0, .int 0])), (u1.1, .inl (cI, 6, .inl iX6)), (u1.2.1, .inl (cI, 2, .inl iX2)), (u1.2.2.1, .inr (1, [.ref u1.2.2.2, .int 0, .int 0, .int 0])), (u1.2.2.2, .inl (cB, 16, .inl ((fun _ => 0)))), (q2, .inr (4, [.int 0, .ref u2.1, .ref u2.2, .int 0, .int 0, .int 0, .int 0, .int 0, .int 0])), (u2.1, .inl (cI, 6, .inl iM6)), (u2.2, .inl (cI, 2, .inl iM2)), (q3, .inr (3, [.long 0, .null]))] H := hP
  have hD : va_D (fun q : Nat => s.heap.size ≤ q) [(q1, .inr (2, [.ref u1.1, .ref u1.2.1, .ref u1.2.2.1, .int 0, .int 0, .int 0, .int 0, .int 0, .int 0])), (u1.1, .inl (cI, 6, .inl iX6)), (u1.2.1, .inl (cI, 2, .inl iX2)), (u1.2.2.1, .inr (1, [.ref u1.2.2.2, .int 0, .int 0, .int 0])), (u1.2.2.2, .inl (cB, 16, .inl ((fun _ => 0)))), (q2, .inr (4, [.int 0, .ref u2.1, .ref u2.2, .int 0, .int 0, .int 0, .int 0, .int 0, .int 0])), (u2.1, .inl (cI, 6, .inl iM6)), (u2.2, .inl (cI, 2, .inl iM2)), (q3, .inr (3, [.long 0, .null]))] := hD
  refine W.eq (g2 := F0 m 23 ls [.ref q3]) rfl ?_
  refine lv_astore_n (lv' := [(3, .ref q3), (2, .ref q2), (1, .ref q1), (0, .ref b)]) FX.1 FX.2.1 dL_law_23 rfl hl (by decide) rfl (fun ls hl => ?_)
  refine lv_iconst (v := 0) FX.1 FX.2.1 dL_law_24 (by decide) ?_
  refine lv_istore (lv' := [(4, .int 0), (3, .ref q3), (2, .ref q2), (1, .ref q1), (0, .ref b)]) FX.1 FX.2.1 dL_law_25 hl (by decide) rfl (fun ls hl => ?_)
  refine W.widen (k := 9) (n := 56) (by decide) (by decide) ?_
  exact law_loop hl0 D cI cB b L xs q1 u1.1 u1.2.1 u1.2.2.1 u1.2.2.2 q2 u2.1 u2.2 q3 to tt go gu na nv nf nb nw nh ea ew ef hr hlocks hL FX hK hX hbl hz hfn hfe hnn 512 0 9 56 (Nat.zero_le _) (by omega) (Nat.le_of_ble_eq_true rfl) (Nat.le_of_ble_eq_true rfl) _ _ iX6 iX2 0 0 0 0 0 0 0 0 (fun _ => 0) 0 iM6 iM2 0 0 0 0 0 0 0 .null ls inv0 sb_fit0 (by decide) hP hD hS (lv_sub hl [0, 1, 2, 3, 4] rfl)
set_option maxHeartbeats 4000000 in
theorem lw_walk (l : Launch) (hflags : l.flags = flags0) (b : Addr) (xs : List Int32) : MetFree l x (headSpec (Jvm.Cond.code x code maxLocals ret :: tables_1) room_1) (lw_P b xs) (fun _ _ _ _ _ => True) lw_Q := by
  refine MetFree.of_bodyS (code := code) (maxLocals := maxLocals) (ret := ret) (by decide) ?_ ?_
  · intro args s m h hn
    obtain ⟨meth, c, h1, h2, h3, h4, h5, h6, -, -⟩ := Cond.code_spec hn (atoms_spec (ws := Jvm.Cond.code x code maxLocals ret :: tables_1) h _ List.mem_cons_self)
    exact ⟨meth, c, h1, h2, h3, h4, h5, h6⟩
  · intro p e s m args below meth c s₁ B hml0 hP _
    obtain ⟨rfl, hx, hbd, hgv⟩ := hP
    obtain ⟨scr, harrAt, hlist, hof, hsmall⟩ := hx
    obtain ⟨hcb, hkn, -, -⟩ := State.arrayAt?_spec harrAt
    have hown : s.vm.findClass R_law = some m.cls := findClass_of_methodNamed B.named
    have hts0 : ∀ c ∈ (Jvm.Cond.code x code maxLocals ret :: tables_1), c.before #[Value.ref b] s = true := atoms_spec (ws := Jvm.Cond.code x code maxLocals ret :: tables_1) B.pre
    have hts : ∀ w ∈ lw_tbl, w.before #[Value.ref b] s = true := k2_hts_sels lw_privs (fun w hw => hts0 w (List.mem_cons_of_mem _ hw)) lw_privs_ok
    have hml : c.maxLocals = 7 := B.maxLocals_eq (hts0 _ List.mem_cons_self)
    have X₀ : Stand p l e room_1 s m #[Value.ref b] below meth c s₁ [] 0 0 := Stand.of_body B
    have hh0 : s₁.heap = s.heap := by rw [B.state]; rfl
    have hsz : scr.slots.size = xs.length := by rw [← Array.length_toList, hlist, List.length_map]
    have hval : ∀ j : Nat, j < xs.length → scr.slots[j]? = some (.int (xs.getD j 0)) := fun j hj => by
      rw [← Array.getElem?_toList, hlist]
      simp [hj]
    have hbl : b < s.heap.size := (Array.getElem?_eq_some_iff.mp hcb).1
    have hX : va_X b xs.length (fun j => xs.getD j 0) s s.heap := ⟨scr, hcb, hof, hkn, hsz, hval⟩
    have K : W p l e room_1 s m #[Value.ref b] below meth c s₁.heap [] 0 0 (lw_Z below #[Value.ref b] s) (entryFrame m ([Value.ref b] : List Value).toArray 7) := by
      rw [hh0]
      exact whole_start l hflags hbd ⟨B.exec, B.bytes, B.returns, hml, hown, hts, hX, hbl, B.notSynchronized, hgv⟩
    obtain ⟨t, a1, o, b1, b2, b3⟩ := K s₁ rfl X₀
    exact ⟨t, o, a1, b1, b2, b3⟩
theorem lw_pre_spec {args : Array Value} {s : State} (h : (Jvm.Cond.and given_1 narrow_1).before args s = true) (hr : rest_1_c.before args s = true) : ∃ (b : Addr) (xs : List Int32), lw_P b xs args s := by
  have hs := flat_of_before _ h
  have hq := flat_of_before _ hr
  have hc : (Cond.count 1).before args s = true := hs _ (by decide +kernel)
  have harr : (Cond.arrayOf (.arg 0) .int).before args s = true := hs _ (by decide +kernel)
  have hle : (Cond.le (.length (.arg 0)) (.int 3072)).before args s = true := hs _ (by decide +kernel)
  have hlen : (Cond.isInt (.length (.arg 0))).before args s = true := hq _ (by decide +kernel)
  have hall : (Cond.all (.arg 0) (.isInt (.elem (.arg 0) (.index 0)))).before args s = true := hq _ (by decide +kernel)
  obtain ⟨b, xs, hb, hx⟩ := State.ints_of_pre rfl harr hlen hall
  have hsm : xs.length < 2 ^ 31 := hx.choose_spec.2.2.2
  have hev : (Term.length (.arg 0)).eval args s none [] s = some (.int xs.length.toInt32) := hx.length_eval hb
  have hv := Cond.le_ints hev (show (Term.int 3072).eval args s none [] s = some (.int 3072) from rfl)
  have hd : xs.length.toInt32 ≤ 3072 := by
    simpa [Cond.before, Cond.holds, hv] using hle
  have hN : xs.length ≤ 3072 := (Int32.ofNat_le_ofNat hsm (by decide)).mp (show Int32.ofNat xs.length ≤ Int32.ofNat 3072 from hd)
  exact ⟨b, xs, Cond.one_arg hc (show args[0]? = some (.ref b) from hb), hx, hN, h⟩
theorem lw_comes (l : Launch) (hflags : l.flags = flags0) : Comes l x (Jvm.Cond.code x code maxLocals ret :: tables_1) room_1 (fun tb e args s => Calls_1 tb e args s ∧ rest_1 tb e args s ∧ Pre_1 tb e args s)
    (fun _ _ args s o t => lw_Q args s o t) := by
  intro p e ha hc hk s m args below hf hfit hheap happ hpre
  obtain ⟨b, xs, hP⟩ := lw_pre_spec hpre.2.2 hpre.2.1
  obtain ⟨k, o, h1, h2, h3, hQ⟩ := lw_walk l hflags b xs p e ha hc hk s m args below hf ((Spec.applies_iff_loose hf).mp happ).1 hP trivial
  exact ⟨k, o, h1, h2, h3, hQ⟩
theorem lw_frame {s t : State} {o : Outcome} {args : Array Value} (h : Framed s o t [] 601024 7293034) :
    Framed s o t (fieldLocs frame_1_writes args s ++ arrayLocs frame_1_arrays args s ++ staticLocs frame_1_statics s) 601024 7293034 := h
theorem lw_limb (L : Cond) (hL : ∀ (args : Array Value) (s t : State), L.after args s (.returned (some (.int 1))) t = true) :
    ArmFor flags0 classFile x code maxLocals ret World_1 tables_1 room_1 Calls_1 rest_1 Pre_1
      (fun tb e a s o t => postC L tb e a s o t ∧ Framed s o t (fieldLocs frame_1_writes a s ++ arrayLocs frame_1_arrays a s ++ staticLocs frame_1_statics s) 601024 7293034) := by
  intro l hflags _ _ p e ha hc hk s m args below hf hfit hheap happ hpre
  obtain ⟨k, o, h1, h2, h3, rfl, hF⟩ := lw_comes l hflags p e ha hc hk s m args below hf hfit hheap happ hpre
  exact ⟨k, _, h1, h2, h3, hL args s _, lw_frame hF⟩
theorem i_vc : Claimed_1_1 ∧ Claimed_1_2 := ⟨lw_limb limb_1_1 (fun args s t => by simp [limb_1_1, Cond.after, Cond.holds, Cond.value]), lw_limb limb_1_2 (fun args s t => Cond.after_iff.mpr (by
  first | (rw [show limb_1_2 = Cond.eq .result (.int 1) from rfl, Cond.eq_ints (x := 1) (y := 1) rfl rfl]; simp; done) | (simp [limb_1_2, Cond.value, Term.eval]; done)))⟩


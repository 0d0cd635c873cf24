set_option maxRecDepth 20000 in
theorem cl_RX2_126 : Cond.classLink RX2 126 "java/lang/StringBuilder" ∈ bigW := bt5 211 rfl rfl
set_option maxRecDepth 20000 in
theorem ml_RX2_128 : Cond.methodLink RX2 128 yJ4_init_da8c8 ∈ bigW := bt5 212 rfl rfl
set_option maxRecDepth 20000 in
theorem ml_RX2_131 : Cond.methodLink RX2 131 yJ4_append_15ec4 ∈ bigW := bt5 213 rfl rfl
set_option maxRecDepth 20000 in
theorem ml_RX2_135 : Cond.methodLink RX2 135 yJ4_append_bf812 ∈ bigW := bt5 214 rfl rfl
set_option maxRecDepth 20000 in
theorem ml_RX2_138 : Cond.methodLink RX2 138 yJ4_toString_0e30d ∈ bigW := bt5 215 rfl rfl
set_option maxRecDepth 20000 in
theorem ml_RX2_142 : Cond.methodLink RX2 142 yX2_toldOf ∈ bigW := bt5 207 rfl rfl
set_option maxRecDepth 20000 in
theorem mi_X2_toldOf : MIs yX2_toldOf cX2_toldOf 1 (some (.object "java/lang/String")) 1 := ⟨⟨bt5 209 rfl rfl, bt1 6 rfl rfl, by decide, by decide, by decide +kernel⟩, bt5 208 rfl rfl⟩
theorem dX2_told_0 : decode cX2_told 0 = .ok (.aload_n 0, 1) := by decide +kernel
theorem dX2_told_1 : decode cX2_told 1 = .ok (.iload_n 1, 1) := by decide +kernel
theorem dX2_told_2 : decode cX2_told 2 = .ok (.invokestatic 40, 3) := by decide +kernel
theorem dX2_told_5 : decode cX2_told 5 = .ok (.iconst 0, 1) := by decide +kernel
theorem dX2_told_6 : decode cX2_told 6 = .ok (.invokevirtual 43, 3) := by decide +kernel
theorem dX2_told_9 : decode cX2_told 9 = .ok (.ifCond .eq 8, 3) := by decide +kernel
theorem dX2_told_12 : decode cX2_told 12 = .ok (.ldc 129, 2) := by decide +kernel
theorem dX2_told_14 : decode cX2_told 14 = .ok (.goto 12, 3) := by decide +kernel
theorem dX2_told_17 : decode cX2_told 17 = .ok (.aload_n 0, 1) := by decide +kernel
theorem dX2_told_18 : decode cX2_told 18 = .ok (.getfield 10, 3) := by decide +kernel
theorem dX2_told_21 : decode cX2_told 21 = .ok (.iload_n 1, 1) := by decide +kernel
theorem dX2_told_22 : decode cX2_told 22 = .ok (.iaload, 1) := by decide +kernel
theorem dX2_told_23 : decode cX2_told 23 = .ok (.invokestatic 142, 3) := by decide +kernel
theorem dX2_told_26 : decode cX2_told 26 = .ok (.areturn, 1) := by decide +kernel
theorem dX2_toldOf_0 : decode cX2_toldOf 0 = .ok (.iload_n 0, 1) := by decide +kernel
theorem dX2_toldOf_1 : decode cX2_toldOf 1 = .ok (.ldc 9, 2) := by decide +kernel
theorem dX2_toldOf_3 : decode cX2_toldOf 3 = .ok (.if_icmp .ne 8, 3) := by decide +kernel
theorem dX2_toldOf_6 : decode cX2_toldOf 6 = .ok (.ldc 124, 2) := by decide +kernel
theorem dX2_toldOf_8 : decode cX2_toldOf 8 = .ok (.goto 22, 3) := by decide +kernel
theorem dX2_toldOf_11 : decode cX2_toldOf 11 = .ok (.new 126, 3) := by decide +kernel
theorem dX2_toldOf_14 : decode cX2_toldOf 14 = .ok (.dup, 1) := by decide +kernel
theorem dX2_toldOf_15 : decode cX2_toldOf 15 = .ok (.invokespecial 128, 3) := by decide +kernel
theorem dX2_toldOf_18 : decode cX2_toldOf 18 = .ok (.ldc 129, 2) := by decide +kernel
theorem dX2_toldOf_20 : decode cX2_toldOf 20 = .ok (.invokevirtual 131, 3) := by decide +kernel
theorem dX2_toldOf_23 : decode cX2_toldOf 23 = .ok (.iload_n 0, 1) := by decide +kernel
theorem dX2_toldOf_24 : decode cX2_toldOf 24 = .ok (.invokevirtual 135, 3) := by decide +kernel
theorem dX2_toldOf_27 : decode cX2_toldOf 27 = .ok (.invokevirtual 138, 3) := by decide +kernel
theorem dX2_toldOf_30 : decode cX2_toldOf 30 = .ok (.areturn, 1) := by decide +kernel
set_option maxRecDepth 100000 in
set_option maxHeartbeats 4000000 in
theorem j_X2_toldOf_0 (l : Launch) (D : va_G) (cI cB : ClassId) (to tt : Nat) (go gu : Nat → Int32) (na nv : Nat) (nf : Nat → Int32) (ea ew : Nat) (ef : Nat → Int32) : JW (S := Unit) l yX2_toldOf cX2_toldOf 1 (some (.object "java/lang/String")) ({ frames := 0, cells := 0, slots := 0, locals := 0 } : Room) D cI cB [.int (-100000)] [] (zAnd zC (zAnd (zAnd (zDg "DigitOnes" to go) (zDg "DigitTens" tt gu)) (zAnd (zAnd (zR RX2 124 "none" na) (zS na nv 4 nf)) (zAnd (zR RX2 129 "" ea) (zS ea ew 0 ef))))) (fun _ => some (.ref na)) (fun _ => True) (fun _ => []) 0 0 := by
  refine bodyJ (by decide +kernel) (Nat.le_of_ble_eq_true rfl) (fun p e s m args below meth c ls A ZZ => ?_)
  obtain ⟨FX, hr, hlk, hK, hP, hD, hS, hA, hz, hnm, hl⟩ := ZZ
  have hl : lv_has ls 1 [(0, .int (-100000))] := hl
  have hP : va_P D KL [] s.heap := hP
  refine lv_iload_n FX.1 FX.2.1 dX2_toldOf_0 rfl (lv_at hl 0 rfl) ?_
  refine lv_ldc (v := (-100000)) FX.1 FX.2.1 FX.2.2.2.1 (FX.2.2.2.2 _ co_RX2_9) dX2_toldOf_1 ?_
  refine lv_icmp_ne (tgt := 11) FX.1 FX.2.1 dX2_toldOf_3 (by decide) (fun c_1 => ?_) (fun c_1 => ?_)
  · exact absurd c_1 (by decide)
  · refine p_ldcS FX hz.2.2.1.1 dX2_toldOf_6 ?_
    refine lv_goto (tgt := 30) FX.1 FX.2.1 dX2_toldOf_8 (by decide) ?_
    exact retJa () FX hr (Or.inl ⟨_, rfl⟩) hlk dX2_toldOf_30 hP hK hD hS (by decide) (by decide) rfl trivial
theorem nmm {v : Int32} (h : -999 ≤ v ∧ v ≤ 999) : ¬ v = -100000 := fun z => by
  rw [z] at h
  exact absurd h (by decide)
set_option maxRecDepth 100000 in
set_option maxHeartbeats 4000000 in
theorem j_X2_toldOf_1 (l : Launch) (D : va_G) (cI cB : ClassId) (v : Int32) (k : Nat) (to tt : Nat) (go gu : Nat → Int32) (na nv : Nat) (nf : Nat → Int32) (ea ew : Nat) (ef : Nat → Int32) (hv : -999 ≤ v ∧ v ≤ 999) (hk : k ≤ 4) (ek : v_J6_stringSize_0f7a4 v = nI k) (hfe : sb_Fit ef) : JW (S := Nat × Nat × (Nat → Int32)) l yX2_toldOf cX2_toldOf 1 (some (.object "java/lang/String")) ({ frames := 6, cells := 4, slots := 40, locals := 171 } : Room) D cI cB [.int v] [] (zAnd zC (zAnd (zAnd (zDg "DigitOnes" to go) (zDg "DigitTens" tt gu)) (zAnd (zAnd (zR RX2 124 "none" na) (zS na nv 4 nf)) (zAnd (zR RX2 129 "" ea) (zS ea ew 0 ef))))) (fun u => some (.ref u.1)) (fun u => TL k u.2.2 (tc v go gu)) (fun u => [(u.1, .inr (0, [.ref u.2.1, .int 0, .int 0, .int 0])), (u.2.1, .inl (cB, k, .inl u.2.2))]) 4 40 := by
  refine bodyJ (by decide +kernel) (Nat.le_of_ble_eq_true rfl) (fun p e s m args below meth c ls A ZZ => ?_)
  obtain ⟨FX, hr, hlk, hK, hP, hD, hS, hA, hz, hnm, hl⟩ := ZZ
  have hl : lv_has ls 1 [(0, .int v)] := hl
  have hP : va_P D KL [] s.heap := hP
  refine lv_iload_n FX.1 FX.2.1 dX2_toldOf_0 rfl (lv_at hl 0 rfl) ?_
  refine lv_ldc (v := (-100000)) FX.1 FX.2.1 FX.2.2.2.1 (FX.2.2.2.2 _ co_RX2_9) dX2_toldOf_1 ?_
  refine lv_icmp_ne (tgt := 11) FX.1 FX.2.1 dX2_toldOf_3 (by decide) (fun c_1 => ?_) (fun c_1 => ?_)
  · refine va_new (ci := 1) (fs := [.null, .int 0, .int 0, .int 0]) (C := RJ4) (T := TJ4) (N := 4) FX.1 FX.2.1 FX.2.2.2.2 inJ4 tyJ4 tyJ4_ok FX.2.2.2.1 (FX.2.2.2.2 _ cl_RX2_126) (FX.2.2.2.2 _ is_RJ4) (FX.2.2.2.2 _ in_RJ4) hK hP hD hS hA rfl (fun j hj => by rcases (show j = 0 ∨ j = 1 ∨ j = 2 ∨ j = 3 by omega) with rfl | rfl | rfl | rfl <;> rfl) (by decide) (by decide) dX2_toldOf_11 (fun q2 H hP hD hS => ?_)
    have hP : va_P D KL [(q2, .inr (1, [.null, .int 0, .int 0, .int 0]))] H := hP
    have hD : va_D A [(q2, .inr (1, [.null, .int 0, .int 0, .int 0]))] := hD
    refine lv_dup FX.1 FX.2.1 dX2_toldOf_14 rfl ?_
    refine c_J (W0 := [(q2, .inr (1, [.null, .int 0, .int 0, .int 0]))]) (wr := []) (wsN := fun u1 => [(q2, .inr (1, [.ref u1, .int 0, .int 0, .int 0])), (u1, .inl (cB, 16, .inl ((fun _ => 0))))]) (va_runI FX ((j_J4_init_da8c8 l D cI cB q2) H.size) (my_cwI FX.2.2.2.2 mn_J4_init_da8c8 ml_RX2_128 (RMok.mk)) ⟨PJ.blind zC_ok, fun U hU hW => ⟨rfl, my_preJ zC_ok hz.1 hS hA hK hP hD [0] rfl rfl U hU hW⟩⟩ rfl rfl hl.1 rfl (lv_room (Nat.le_of_ble_eq_true rfl)) dX2_toldOf_15 (by decide)) hP hD hS hA [0] rfl [] rfl (by decide) [0, 1] (fun _ => rfl) rfl (fun u1 H locs hp_1 hP hD hS => ?_)
    have hP : va_P D KL [(q2, .inr (1, [.ref u1, .int 0, .int 0, .int 0])), (u1, .inl (cB, 16, .inl ((fun _ => 0))))] H := hP
    have hD : va_D A [(q2, .inr (1, [.ref u1, .int 0, .int 0, .int 0])), (u1, .inl (cB, 16, .inl ((fun _ => 0))))] := hD
    refine W.eq (g2 := F0 m 18 ls [.ref q2]) rfl ?_
    refine p_ldcS FX hz.2.2.2.1 dX2_toldOf_18 ?_
    refine c_J (W0 := [(q2, .inr (1, [.ref u1, .int 0, .int 0, .int 0])), (u1, .inl (cB, 16, .inl ((fun _ => 0))))]) (wr := []) (wsN := fun u2 => [(q2, .inr (1, [.ref u1, .int 0, .int 0, .int 0])), (u1, .inl (cB, 16, .inl u2))]) (va_runV FX ((j_J4_append_15ec4 l D cI cB q2 u1 0 ((fun _ => 0)) ea ew 0 ef (by decide) hfe sb_fit0) H.size) (my_cwV FX.2.2.2.2 mi_J4_append_15ec4 ml_RX2_131 (RMok.mk)) ⟨PJ.blind (zAnd_ok zC_ok zS_ok), (my_recv (i0 := 0) (ci := 1) hK hP rfl rfl rfl), fun U hU hW => ⟨rfl, my_preJ (zAnd_ok zC_ok zS_ok) ⟨hz.1, hz.2.2.2.2⟩ hS hA hK hP hD [0, 1] rfl rfl U hU hW⟩⟩ rfl rfl hl.1 rfl (lv_room (Nat.le_of_ble_eq_true rfl)) dX2_toldOf_20 (by decide)) hP hD hS hA [0, 1] rfl [] rfl (by decide) [0, 1] (fun _ => rfl) rfl (fun u2 H locs hp_2 hP hD hS => ?_)
    have hP : va_P D KL [(q2, .inr (1, [.ref u1, .int 0, .int 0, .int 0])), (u1, .inl (cB, 16, .inl u2))] H := hP
    have hD : va_D A [(q2, .inr (1, [.ref u1, .int 0, .int 0, .int 0])), (u1, .inl (cB, 16, .inl u2))] := hD
    refine W.eq (g2 := F0 m 23 ls [.ref q2]) rfl ?_
    refine lv_iload_n FX.1 FX.2.1 dX2_toldOf_23 rfl (lv_at hl 0 rfl) ?_
    refine c_J (W0 := [(q2, .inr (1, [.ref u1, .int 0, .int 0, .int 0])), (u1, .inl (cB, 16, .inl u2))]) (wr := []) (wsN := fun u3 => [(q2, .inr (1, [.ref u1, .int 0, .int 0, .int (v_J6_stringSize_0f7a4 v)])), (u1, .inl (cB, 16, .inl u3))]) (va_runV FX ((j_J4_append_bf812 l D cI cB q2 u1 0 u2 v to tt go gu hv hp_2.1) H.size) (my_cwV FX.2.2.2.2 mi_J4_append_bf812 ml_RX2_135 (RMok.mk)) ⟨PJ.blind (zAnd_ok zC_ok (zAnd_ok zDg_ok zDg_ok)), (my_recv (i0 := 0) (ci := 1) hK hP rfl rfl rfl), fun U hU hW => ⟨rfl, my_preJ (zAnd_ok zC_ok (zAnd_ok zDg_ok zDg_ok)) ⟨hz.1, hz.2.1.1, hz.2.1.2⟩ hS hA hK hP hD [0, 1] rfl rfl U hU hW⟩⟩ rfl rfl hl.1 rfl (lv_room (Nat.le_of_ble_eq_true rfl)) dX2_toldOf_24 (by decide)) hP hD hS hA [0, 1] rfl [] rfl (by decide) [0, 1] (fun _ => rfl) rfl (fun u3 H locs hp_3 hP hD hS => ?_)
    have hP : va_P D KL [(q2, .inr (1, [.ref u1, .int 0, .int 0, .int (v_J6_stringSize_0f7a4 v)])), (u1, .inl (cB, 16, .inl u3))] H := hP
    have hD : va_D A [(q2, .inr (1, [.ref u1, .int 0, .int 0, .int (v_J6_stringSize_0f7a4 v)])), (u1, .inl (cB, 16, .inl u3))] := hD
    refine W.eq (g2 := F0 m 27 ls [.ref q2]) rfl ?_
    rw [ek] at hP hD
    have hP : va_P D KL [(q2, .inr (1, [.ref u1, .int 0, .int 0, .int (nI k)])), (u1, .inl (cB, 16, .inl u3))] H := hP
    have hD : va_D A [(q2, .inr (1, [.ref u1, .int 0, .int 0, .int (nI k)])), (u1, .inl (cB, 16, .inl u3))] := hD
    refine c_J (W0 := [(q2, .inr (1, [.ref u1, .int 0, .int 0, .int (nI k)])), (u1, .inl (cB, 16, .inl u3))]) (wr := []) (wsN := fun u4 => [(q2, .inr (1, [.ref u1, .int 0, .int 0, .int (nI k)])), (u1, .inl (cB, 16, .inl u3)), (u4.1, .inr (0, [.ref u4.2.1, .int 0, .int 0, .int 0])), (u4.2.1, .inl (cB, k, .inl u4.2.2))]) (va_runV FX ((j_J4_toString_0e30d l D cI cB q2 u1 k 0 u3 hk hp_3.1) H.size) (my_cwV FX.2.2.2.2 mi_J4_toString_0e30d ml_RX2_138 (RMok.mk)) ⟨PJ.blind zC_ok, (my_recv (i0 := 0) (ci := 1) hK hP rfl rfl rfl), fun U hU hW => ⟨rfl, my_preJ zC_ok hz.1 hS hA hK hP hD [0, 1] rfl rfl U hU hW⟩⟩ rfl rfl hl.1 rfl (lv_room (Nat.le_of_ble_eq_true rfl)) dX2_toldOf_27 (by decide)) hP hD hS hA [0, 1] rfl [] rfl (by decide) [0, 1, 2, 3] (fun _ => rfl) rfl (fun u4 H locs hp_4 hP hD hS => ?_)
    have hP : va_P D KL [(q2, .inr (1, [.ref u1, .int 0, .int 0, .int (nI k)])), (u1, .inl (cB, 16, .inl u3)), (u4.1, .inr (0, [.ref u4.2.1, .int 0, .int 0, .int 0])), (u4.2.1, .inl (cB, k, .inl u4.2.2))] H := hP
    have hD : va_D A [(q2, .inr (1, [.ref u1, .int 0, .int 0, .int (nI k)])), (u1, .inl (cB, 16, .inl u3)), (u4.1, .inr (0, [.ref u4.2.1, .int 0, .int 0, .int 0])), (u4.2.1, .inl (cB, k, .inl u4.2.2))] := hD
    refine W.eq (g2 := F0 m 30 ls [.ref u4.1]) rfl ?_
    exact retJa (u4.1, u4.2.1, u4.2.2) FX hr (Or.inl ⟨_, rfl⟩) hlk dX2_toldOf_30 (hP.sub (ws' := [(u4.1, .inr (0, [.ref u4.2.1, .int 0, .int 0, .int 0])), (u4.2.1, .inl (cB, k, .inl u4.2.2))]) [2, 3] rfl) hK (hD.sub (ws' := [(u4.1, .inr (0, [.ref u4.2.1, .int 0, .int 0, .int 0])), (u4.2.1, .inl (cB, k, .inl u4.2.2))]) [2, 3] (by decide) rfl) hS (by decide) (by decide) rfl (fun j hj => (hp_4.2 j hj).trans (hp_3.2 k hk ek j hj))
  · exact absurd c_1 (nmm hv)
def wth_X2_told (b1 : Int32) : Int32 := wth_X2_fails (v_X2_isNone b1) 0
theorem okm_at {f : Nat → Int32} {b : Int32} (h : okm6 f) (hb : vp_in b 6) : okm (f b.toNatClampNeg) := by
  obtain ⟨j, hj, rfl⟩ := vp_in_of hb (by decide)
  rw [nI_clamp (by omega)]; exact h j hj
set_option maxRecDepth 100000 in
set_option maxHeartbeats 4000000 in
theorem j_X2_told_f (l : Launch) (D : va_G) (cI cB : ClassId) (o bo po : Nat) (th : Int32) (f g : Nat → Int32) (ak su gt lf rf kn : Int32) (b1 : Int32) (to tt : Nat) (go gu : Nat → Int32) (na nv : Nat) (nf : Nat → Int32) (ea ew : Nat) (ef : Nat → Int32) (hF : ¬ v_X2_fails (v_X2_isNone b1) 0 = 0) : JW (S := Unit) l yX2_told cX2_told 2 (some (.object "java/lang/String")) ({ frames := 2, cells := 0, slots := 0, locals := 42 } : Room) D cI cB [.ref o, .int b1] [(o, .inr (4, [.int th, .ref bo, .ref po, .int ak, .int su, .int gt, .int lf, .int rf, .int kn])), (bo, .inl (cI, 6, .inl f)), (po, .inl (cI, 2, .inl g))] (zAnd zC (zAnd (zAnd (zDg "DigitOnes" to go) (zDg "DigitTens" tt gu)) (zAnd (zAnd (zR RX2 124 "none" na) (zS na nv 4 nf)) (zAnd (zR RX2 129 "" ea) (zS ea ew 0 ef))))) (fun _ => some (.ref ea)) (fun _ => True) (fun _ => [(o, .inr (4, [.int (wth_X2_told b1), .ref bo, .ref po, .int ak, .int su, .int gt, .int lf, .int rf, .int kn])), (bo, .inl (cI, 6, .inl f)), (po, .inl (cI, 2, .inl g))]) 0 0 := by
  refine bodyJ (by decide +kernel) (Nat.le_of_ble_eq_true rfl) (fun p e s m args below meth c ls A ZZ => ?_)
  obtain ⟨FX, hr, hlk, hK, hP, hD, hS, hA, hz, hnm, hl⟩ := ZZ
  have hl : lv_has ls 2 [(0, .ref o), (1, .int b1)] := hl
  have hP : va_P D KL [(o, .inr (4, [.int th, .ref bo, .ref po, .int ak, .int su, .int gt, .int lf, .int rf, .int kn])), (bo, .inl (cI, 6, .inl f)), (po, .inl (cI, 2, .inl g))] s.heap := hP
  refine lv_aload_n FX.1 FX.2.1 dX2_told_0 rfl (lv_at hl 0 rfl) ?_
  refine lv_iload_n FX.1 FX.2.1 dX2_told_1 rfl (lv_at hl 1 rfl) ?_
  refine c_RDs FX (r_X2_isNone l D cI cB b1) mi_X2_isNone rfl ml_RX2_40 (RMok.mk) hl.1 rfl (Nat.le_of_ble_eq_true rfl) dX2_told_2 (by decide) hK hP [] rfl ?_
  refine lv_iconst (v := 0) FX.1 FX.2.1 dX2_told_5 (by decide) ?_
  refine c_WRV (wr := []) (wsN := [(o, .inr (4, [.int (wth_X2_fails (v_X2_isNone b1) 0), .ref bo, .ref po, .int ak, .int su, .int gt, .int lf, .int rf, .int kn])), (bo, .inl (cI, 6, .inl f)), (po, .inl (cI, 2, .inl g))]) (i0 := 0) (ci := 4) FX (k_X2_fails l D cI cB o bo po th f g ak su gt lf rf kn (v_X2_isNone b1) 0) mi_X2_fails rfl ml_RX2_43 (RMok.mk) hl.1 rfl (Nat.le_of_ble_eq_true rfl) dX2_told_6 (by decide) hK hP hD hS hA [0, 1, 2] rfl [] rfl rfl (by decide) [0, 1, 2] rfl rfl rfl rfl rfl (fun H locs hP hD hS => ?_)
  refine lv_if_eq (tgt := 17) FX.1 FX.2.1 dX2_told_9 (by decide) (fun c_1 => ?_) (fun c_1 => ?_)
  · exact absurd c_1 hF
  · refine p_ldcS FX hz.2.2.2.1 dX2_told_12 ?_
    refine lv_goto (tgt := 26) FX.1 FX.2.1 dX2_told_14 (by decide) ?_
    exact retJa () FX hr (Or.inl ⟨_, rfl⟩) hlk dX2_told_26 hP hK hD hS (by decide) (by decide) rfl trivial
set_option maxRecDepth 100000 in
set_option maxHeartbeats 4000000 in
theorem j_X2_told_0 (l : Launch) (D : va_G) (cI cB : ClassId) (o bo po : Nat) (th : Int32) (f g : Nat → Int32) (ak su gt lf rf kn : Int32) (b1 : Int32) (to tt : Nat) (go gu : Nat → Int32) (na nv : Nat) (nf : Nat → Int32) (ea ew : Nat) (ef : Nat → Int32) (hF : v_X2_fails (v_X2_isNone b1) 0 = 0) (hm : f b1.toNatClampNeg = -100000) : JW (S := Unit) l yX2_told cX2_told 2 (some (.object "java/lang/String")) ({ frames := 2, cells := 0, slots := 0, locals := 42 } : Room) D cI cB [.ref o, .int b1] [(o, .inr (4, [.int th, .ref bo, .ref po, .int ak, .int su, .int gt, .int lf, .int rf, .int kn])), (bo, .inl (cI, 6, .inl f)), (po, .inl (cI, 2, .inl g))] (zAnd zC (zAnd (zAnd (zDg "DigitOnes" to go) (zDg "DigitTens" tt gu)) (zAnd (zAnd (zR RX2 124 "none" na) (zS na nv 4 nf)) (zAnd (zR RX2 129 "" ea) (zS ea ew 0 ef))))) (fun _ => some (.ref na)) (fun _ => True) (fun _ => [(o, .inr (4, [.int (wth_X2_told b1), .ref bo, .ref po, .int ak, .int su, .int gt, .int lf, .int rf, .int kn])), (bo, .inl (cI, 6, .inl f)), (po, .inl (cI, 2, .inl g))]) 0 0 := by
  refine bodyJ (by decide +kernel) (Nat.le_of_ble_eq_true rfl) (fun p e s m args below meth c ls A ZZ => ?_)
  obtain ⟨FX, hr, hlk, hK, hP, hD, hS, hA, hz, hnm, hl⟩ := ZZ
  have hl : lv_has ls 2 [(0, .ref o), (1, .int b1)] := hl
  have hP : va_P D KL [(o, .inr (4, [.int th, .ref bo, .ref po, .int ak, .int su, .int gt, .int lf, .int rf, .int kn])), (bo, .inl (cI, 6, .inl f)), (po, .inl (cI, 2, .inl g))] s.heap := hP
  refine lv_aload_n FX.1 FX.2.1 dX2_told_0 rfl (lv_at hl 0 rfl) ?_
  refine lv_iload_n FX.1 FX.2.1 dX2_told_1 rfl (lv_at hl 1 rfl) ?_
  refine c_RDs FX (r_X2_isNone l D cI cB b1) mi_X2_isNone rfl ml_RX2_40 (RMok.mk) hl.1 rfl (Nat.le_of_ble_eq_true rfl) dX2_told_2 (by decide) hK hP [] rfl ?_
  refine lv_iconst (v := 0) FX.1 FX.2.1 dX2_told_5 (by decide) ?_
  refine c_WRV (wr := []) (wsN := [(o, .inr (4, [.int (wth_X2_fails (v_X2_isNone b1) 0), .ref bo, .ref po, .int ak, .int su, .int gt, .int lf, .int rf, .int kn])), (bo, .inl (cI, 6, .inl f)), (po, .inl (cI, 2, .inl g))]) (i0 := 0) (ci := 4) FX (k_X2_fails l D cI cB o bo po th f g ak su gt lf rf kn (v_X2_isNone b1) 0) mi_X2_fails rfl ml_RX2_43 (RMok.mk) hl.1 rfl (Nat.le_of_ble_eq_true rfl) dX2_told_6 (by decide) hK hP hD hS hA [0, 1, 2] rfl [] rfl rfl (by decide) [0, 1, 2] rfl rfl rfl rfl rfl (fun H locs hP hD hS => ?_)
  refine lv_if_eq (tgt := 17) FX.1 FX.2.1 dX2_told_9 (by decide) (fun c_1 => ?_) (fun c_1 => ?_)
  · refine lv_aload_n FX.1 FX.2.1 dX2_told_17 rfl (lv_at hl 0 rfl) ?_
    refine va_get (D := D) (ci := 4) (v := .ref bo) (C := RX2) (T := TX2) (N := 9) FX.1 FX.2.1 FX.2.2.2.2 inX2 FX.2.2.2.1 hK hP 0 rfl rfl 1 (by decide) (FX.2.2.2.2 _ fl_RX2_10) (fun _ h9 => h9) rfl dX2_told_18 ?_
    refine lv_iload_n FX.1 FX.2.1 dX2_told_21 rfl (lv_at hl 1 rfl) ?_
    refine p_iald (v := f b1.toNatClampNeg) FX hK hP 1 rfl (in_v_X2_isNone (fails_1 hF)) dX2_told_22 rfl ?_
    refine W.eq (g2 := F0 m 23 ls [.int (-100000)]) (by rw [hm]) ?_
    refine c_J (W0 := []) (wr := [(o, .inr (4, [.int (wth_X2_fails (v_X2_isNone b1) 0), .ref bo, .ref po, .int ak, .int su, .int gt, .int lf, .int rf, .int kn])), (bo, .inl (cI, 6, .inl f)), (po, .inl (cI, 2, .inl g))]) (wsN := fun _ => [(o, .inr (4, [.int (wth_X2_fails (v_X2_isNone b1) 0), .ref bo, .ref po, .int ak, .int su, .int gt, .int lf, .int rf, .int kn])), (bo, .inl (cI, 6, .inl f)), (po, .inl (cI, 2, .inl g))]) (va_runS FX ((j_X2_toldOf_0 l D cI cB to tt go gu na nv nf ea ew ef) H.size) (my_cwS FX.2.2.2.2 mi_X2_toldOf ml_RX2_142 (RMok.mk)) ⟨PJ.blind (zAnd_ok zC_ok (zAnd_ok (zAnd_ok zDg_ok zDg_ok) (zAnd_ok (zAnd_ok zR_ok zS_ok) (zAnd_ok zR_ok zS_ok)))), fun U hU hW => ⟨rfl, my_preJ (zAnd_ok zC_ok (zAnd_ok (zAnd_ok zDg_ok zDg_ok) (zAnd_ok (zAnd_ok zR_ok zS_ok) (zAnd_ok zR_ok zS_ok)))) hz hS hA hK hP hD [] rfl rfl U hU hW⟩⟩ rfl rfl hl.1 rfl (lv_room (Nat.le_of_ble_eq_true rfl)) dX2_told_23 (by decide)) hP hD hS hA [] rfl [0, 1, 2] rfl (by decide) [0, 1, 2] (fun _ => rfl) rfl (fun u1 H locs hp_1 hP hD hS => ?_)
    have hP : va_P D KL [(o, .inr (4, [.int (wth_X2_fails (v_X2_isNone b1) 0), .ref bo, .ref po, .int ak, .int su, .int gt, .int lf, .int rf, .int kn])), (bo, .inl (cI, 6, .inl f)), (po, .inl (cI, 2, .inl g))] H := hP
    have hD : va_D A [(o, .inr (4, [.int (wth_X2_fails (v_X2_isNone b1) 0), .ref bo, .ref po, .int ak, .int su, .int gt, .int lf, .int rf, .int kn])), (bo, .inl (cI, 6, .inl f)), (po, .inl (cI, 2, .inl g))] := hD
    refine W.eq (g2 := F0 m 26 ls [.ref na]) rfl ?_
    exact retJa () FX hr (Or.inl ⟨_, rfl⟩) hlk dX2_told_26 hP hK hD hS (by decide) (by decide) rfl trivial
  · exact absurd hF c_1
set_option maxRecDepth 100000 in
set_option maxHeartbeats 4000000 in
theorem j_X2_told_1 (l : Launch) (D : va_G) (cI cB : ClassId) (o bo po : Nat) (th : Int32) (f g : Nat → Int32) (ak su gt lf rf kn : Int32) (b1 : Int32) (k : Nat) (to tt : Nat) (go gu : Nat → Int32) (na nv : Nat) (nf : Nat → Int32) (ea ew : Nat) (ef : Nat → Int32) (hF : v_X2_fails (v_X2_isNone b1) 0 = 0) (hv : -999 ≤ f b1.toNatClampNeg ∧ f b1.toNatClampNeg ≤ 999) (hk : k ≤ 4) (ek : v_J6_stringSize_0f7a4 (f b1.toNatClampNeg) = nI k) (hfe : sb_Fit ef) : JW (S := Nat × Nat × (Nat → Int32)) l yX2_told cX2_told 2 (some (.object "java/lang/String")) ({ frames := 7, cells := 4, slots := 40, locals := 191 } : Room) D cI cB [.ref o, .int b1] [(o, .inr (4, [.int th, .ref bo, .ref po, .int ak, .int su, .int gt, .int lf, .int rf, .int kn])), (bo, .inl (cI, 6, .inl f)), (po, .inl (cI, 2, .inl g))] (zAnd zC (zAnd (zAnd (zDg "DigitOnes" to go) (zDg "DigitTens" tt gu)) (zAnd (zAnd (zR RX2 124 "none" na) (zS na nv 4 nf)) (zAnd (zR RX2 129 "" ea) (zS ea ew 0 ef))))) (fun u => some (.ref u.1)) (fun u => TL k u.2.2 (tc (f b1.toNatClampNeg) go gu)) (fun u => [(o, .inr (4, [.int (wth_X2_told b1), .ref bo, .ref po, .int ak, .int su, .int gt, .int lf, .int rf, .int kn])), (bo, .inl (cI, 6, .inl f)), (po, .inl (cI, 2, .inl g)), (u.1, .inr (0, [.ref u.2.1, .int 0, .int 0, .int 0])), (u.2.1, .inl (cB, k, .inl u.2.2))]) 4 40 := by
  refine bodyJ (by decide +kernel) (Nat.le_of_ble_eq_true rfl) (fun p e s m args below meth c ls A ZZ => ?_)
  obtain ⟨FX, hr, hlk, hK, hP, hD, hS, hA, hz, hnm, hl⟩ := ZZ
  have hl : lv_has ls 2 [(0, .ref o), (1, .int b1)] := hl
  have hP : va_P D KL [(o, .inr (4, [.int th, .ref bo, .ref po, .int ak, .int su, .int gt, .int lf, .int rf, .int kn])), (bo, .inl (cI, 6, .inl f)), (po, .inl (cI, 2, .inl g))] s.heap := hP
  refine lv_aload_n FX.1 FX.2.1 dX2_told_0 rfl (lv_at hl 0 rfl) ?_
  refine lv_iload_n FX.1 FX.2.1 dX2_told_1 rfl (lv_at hl 1 rfl) ?_
  refine c_RDs FX (r_X2_isNone l D cI cB b1) mi_X2_isNone rfl ml_RX2_40 (RMok.mk) hl.1 rfl (Nat.le_of_ble_eq_true rfl) dX2_told_2 (by decide) hK hP [] rfl ?_
  refine lv_iconst (v := 0) FX.1 FX.2.1 dX2_told_5 (by decide) ?_
  refine c_WRV (wr := []) (wsN := [(o, .inr (4, [.int (wth_X2_fails (v_X2_isNone b1) 0), .ref bo, .ref po, .int ak, .int su, .int gt, .int lf, .int rf, .int kn])), (bo, .inl (cI, 6, .inl f)), (po, .inl (cI, 2, .inl g))]) (i0 := 0) (ci := 4) FX (k_X2_fails l D cI cB o bo po th f g ak su gt lf rf kn (v_X2_isNone b1) 0) mi_X2_fails rfl ml_RX2_43 (RMok.mk) hl.1 rfl (Nat.le_of_ble_eq_true rfl) dX2_told_6 (by decide) hK hP hD hS hA [0, 1, 2] rfl [] rfl rfl (by decide) [0, 1, 2] rfl rfl rfl rfl rfl (fun H locs hP hD hS => ?_)
  refine lv_if_eq (tgt := 17) FX.1 FX.2.1 dX2_told_9 (by decide) (fun c_1 => ?_) (fun c_1 => ?_)
  · refine lv_aload_n FX.1 FX.2.1 dX2_told_17 rfl (lv_at hl 0 rfl) ?_
    refine va_get (D := D) (ci := 4) (v := .ref bo) (C := RX2) (T := TX2) (N := 9) FX.1 FX.2.1 FX.2.2.2.2 inX2 FX.2.2.2.1 hK hP 0 rfl rfl 1 (by decide) (FX.2.2.2.2 _ fl_RX2_10) (fun _ h9 => h9) rfl dX2_told_18 ?_
    refine lv_iload_n FX.1 FX.2.1 dX2_told_21 rfl (lv_at hl 1 rfl) ?_
    refine p_iald (v := f b1.toNatClampNeg) FX hK hP 1 rfl (in_v_X2_isNone (fails_1 hF)) dX2_told_22 rfl ?_
    refine c_J (W0 := []) (wr := [(o, .inr (4, [.int (wth_X2_fails (v_X2_isNone b1) 0), .ref bo, .ref po, .int ak, .int su, .int gt, .int lf, .int rf, .int kn])), (bo, .inl (cI, 6, .inl f)), (po, .inl (cI, 2, .inl g))]) (wsN := fun u1 => [(o, .inr (4, [.int (wth_X2_fails (v_X2_isNone b1) 0), .ref bo, .ref po, .int ak, .int su, .int gt, .int lf, .int rf, .int kn])), (bo, .inl (cI, 6, .inl f)), (po, .inl (cI, 2, .inl g)), (u1.1, .inr (0, [.ref u1.2.1, .int 0, .int 0, .int 0])), (u1.2.1, .inl (cB, k, .inl u1.2.2))]) (va_runS FX ((j_X2_toldOf_1 l D cI cB (f b1.toNatClampNeg) k to tt go gu na nv nf ea ew ef hv hk ek hfe) H.size) (my_cwS FX.2.2.2.2 mi_X2_toldOf ml_RX2_142 (RMok.mk)) ⟨PJ.blind (zAnd_ok zC_ok (zAnd_ok (zAnd_ok zDg_ok zDg_ok) (zAnd_ok (zAnd_ok zR_ok zS_ok) (zAnd_ok zR_ok zS_ok)))), fun U hU hW => ⟨rfl, my_preJ (zAnd_ok zC_ok (zAnd_ok (zAnd_ok zDg_ok zDg_ok) (zAnd_ok (zAnd_ok zR_ok zS_ok) (zAnd_ok zR_ok zS_ok)))) hz hS hA hK hP hD [] rfl rfl U hU hW⟩⟩ rfl rfl hl.1 rfl (lv_room (Nat.le_of_ble_eq_true rfl)) dX2_told_23 (by decide)) hP hD hS hA [] rfl [0, 1, 2] rfl (by decide) [0, 1, 2, 3, 4] (fun _ => rfl) rfl (fun u1 H locs hp_1 hP hD hS => ?_)
    have hP : va_P D KL [(o, .inr (4, [.int (wth_X2_fails (v_X2_isNone b1) 0), .ref bo, .ref po, .int ak, .int su, .int gt, .int lf, .int rf, .int kn])), (bo, .inl (cI, 6, .inl f)), (po, .inl (cI, 2, .inl g)), (u1.1, .inr (0, [.ref u1.2.1, .int 0, .int 0, .int 0])), (u1.2.1, .inl (cB, k, .inl u1.2.2))] H := hP
    have hD : va_D A [(o, .inr (4, [.int (wth_X2_fails (v_X2_isNone b1) 0), .ref bo, .ref po, .int ak, .int su, .int gt, .int lf, .int rf, .int kn])), (bo, .inl (cI, 6, .inl f)), (po, .inl (cI, 2, .inl g)), (u1.1, .inr (0, [.ref u1.2.1, .int 0, .int 0, .int 0])), (u1.2.1, .inl (cB, k, .inl u1.2.2))] := hD
    refine W.eq (g2 := F0 m 26 ls [.ref u1.1]) rfl ?_
    exact retJa (u1.1, u1.2.1, u1.2.2) FX hr (Or.inl ⟨_, rfl⟩) hlk dX2_told_26 hP hK hD hS (by decide) (by decide) rfl hp_1
  · exact absurd hF c_1

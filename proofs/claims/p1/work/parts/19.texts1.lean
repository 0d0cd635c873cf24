set_option maxRecDepth 20000 in
theorem fl_RX0_19 : Cond.fieldLink RX0 19 "Maybehall" "text" "Ljava/lang/StringBuilder;" ∈ bigW := bt1 67 rfl rfl
set_option maxRecDepth 20000 in
theorem ml_RX0_198 : Cond.methodLink RX0 198 yJ4_setLength_d00df ∈ bigW := bt2 76 rfl rfl
set_option maxRecDepth 20000 in
theorem mi_J4_setLength_d00df : MIv RJ4 yJ4_setLength_d00df cJ4_setLength_d00df 2 none 1 := ⟨⟨bt2 79 rfl rfl, bt1 3 rfl rfl, by decide, by decide, by decide +kernel⟩, bt2 77 rfl rfl, bt2 78 rfl rfl⟩
set_option maxRecDepth 20000 in
theorem ml_RX0_207 : Cond.methodLink RX0 207 yJ4_append_bf812 ∈ bigW := bt3 113 rfl rfl
set_option maxRecDepth 20000 in
theorem mi_J4_append_bf812 : MIv RJ4 yJ4_append_bf812 cJ4_append_bf812 2 (some (.object "java/lang/StringBuilder")) 1 := ⟨⟨bt2 214 rfl rfl, bt1 3 rfl rfl, by decide, by decide, by decide +kernel⟩, bt2 212 rfl rfl, bt2 213 rfl rfl⟩
set_option maxRecDepth 20000 in
theorem ml_RX0_203 : Cond.methodLink RX0 203 yJ4_append_15ec4 ∈ bigW := bt3 112 rfl rfl
set_option maxRecDepth 20000 in
theorem mi_J4_append_15ec4 : MIv RJ4 yJ4_append_15ec4 cJ4_append_15ec4 2 (some (.object "java/lang/StringBuilder")) 1 := ⟨⟨bt2 94 rfl rfl, bt1 3 rfl rfl, by decide, by decide, by decide +kernel⟩, bt2 92 rfl rfl, bt2 93 rfl rfl⟩
set_option maxRecDepth 20000 in
theorem ml_RX0_91 : Cond.methodLink RX0 91 yX0_tell ∈ bigW := bt2 72 rfl rfl
set_option maxRecDepth 20000 in
theorem mi_X0_tell : MIv RX0 yX0_tell cX0_tell 2 none 1 := ⟨⟨bt2 75 rfl rfl, bt1 1 rfl rfl, by decide, by decide, by decide +kernel⟩, bt2 74 rfl rfl, bt0 8 rfl rfl⟩
set_option maxRecDepth 20000 in
theorem ml_RX0_94 : Cond.methodLink RX0 94 yJ4_toString_0e30d ∈ bigW := bt4 175 rfl rfl
set_option maxRecDepth 20000 in
theorem mi_J4_toString_0e30d : MIv RJ4 yJ4_toString_0e30d cJ4_toString_0e30d 1 (some (.object "java/lang/String")) 0 := ⟨⟨bt2 239 rfl rfl, bt1 3 rfl rfl, by decide, by decide, by decide +kernel⟩, bt2 237 rfl rfl, bt2 238 rfl rfl⟩
set_option maxRecDepth 20000 in
theorem ml_RX0_148 : Cond.methodLink RX0 148 yX0_mixed ∈ bigW := bt2 64 rfl rfl
set_option maxRecDepth 20000 in
theorem mi_X0_mixed : MIs yX0_mixed cX0_mixed 4 (some .long) 2 := ⟨⟨bt2 66 rfl rfl, bt1 1 rfl rfl, by decide, by decide, by decide +kernel⟩, bt2 65 rfl rfl⟩
set_option maxRecDepth 20000 in
theorem ml_RX0_227 : Cond.methodLink RX0 227 yJ4_length_8abf5 ∈ bigW := bt3 114 rfl rfl
set_option maxRecDepth 20000 in
theorem mi_J4_length_8abf5 : MIv RJ4 yJ4_length_8abf5 cJ4_length_8abf5 1 (some .int) 0 := ⟨⟨bt3 19 rfl rfl, bt1 3 rfl rfl, by decide, by decide, by decide +kernel⟩, bt3 18 rfl rfl, bt6 28 rfl rfl⟩
theorem dX0_mixedWithBox_0 : decode cX0_mixedWithBox 0 = .ok (.aload_n 0, 1) := by decide +kernel
theorem dX0_mixedWithBox_1 : decode cX0_mixedWithBox 1 = .ok (.aload_n 0, 1) := by decide +kernel
theorem dX0_mixedWithBox_2 : decode cX0_mixedWithBox 2 = .ok (.getfield 9, 3) := by decide +kernel
theorem dX0_mixedWithBox_5 : decode cX0_mixedWithBox 5 = .ok (.iload_n 3, 1) := by decide +kernel
theorem dX0_mixedWithBox_6 : decode cX0_mixedWithBox 6 = .ok (.iaload, 1) := by decide +kernel
theorem dX0_mixedWithBox_7 : decode cX0_mixedWithBox 7 = .ok (.invokevirtual 91, 3) := by decide +kernel
theorem dX0_mixedWithBox_10 : decode cX0_mixedWithBox 10 = .ok (.lload_n 1, 1) := by decide +kernel
theorem dX0_mixedWithBox_11 : decode cX0_mixedWithBox 11 = .ok (.aload_n 0, 1) := by decide +kernel
theorem dX0_mixedWithBox_12 : decode cX0_mixedWithBox 12 = .ok (.getfield 9, 3) := by decide +kernel
theorem dX0_mixedWithBox_15 : decode cX0_mixedWithBox 15 = .ok (.iload_n 3, 1) := by decide +kernel
theorem dX0_mixedWithBox_16 : decode cX0_mixedWithBox 16 = .ok (.iaload, 1) := by decide +kernel
theorem dX0_mixedWithBox_17 : decode cX0_mixedWithBox 17 = .ok (.invokestatic 30, 3) := by decide +kernel
theorem dX0_mixedWithBox_20 : decode cX0_mixedWithBox 20 = .ok (.i2l, 1) := by decide +kernel
theorem dX0_mixedWithBox_21 : decode cX0_mixedWithBox 21 = .ok (.invokestatic 148, 3) := by decide +kernel
theorem dX0_mixedWithBox_24 : decode cX0_mixedWithBox 24 = .ok (.lstore 4, 2) := by decide +kernel
theorem dX0_mixedWithBox_26 : decode cX0_mixedWithBox 26 = .ok (.lload 4, 2) := by decide +kernel
theorem dX0_mixedWithBox_28 : decode cX0_mixedWithBox 28 = .ok (.aload_n 0, 1) := by decide +kernel
theorem dX0_mixedWithBox_29 : decode cX0_mixedWithBox 29 = .ok (.getfield 9, 3) := by decide +kernel
theorem dX0_mixedWithBox_32 : decode cX0_mixedWithBox 32 = .ok (.iload_n 3, 1) := by decide +kernel
theorem dX0_mixedWithBox_33 : decode cX0_mixedWithBox 33 = .ok (.iaload, 1) := by decide +kernel
theorem dX0_mixedWithBox_34 : decode cX0_mixedWithBox 34 = .ok (.invokestatic 82, 3) := by decide +kernel
theorem dX0_mixedWithBox_37 : decode cX0_mixedWithBox 37 = .ok (.i2l, 1) := by decide +kernel
theorem dX0_mixedWithBox_38 : decode cX0_mixedWithBox 38 = .ok (.invokestatic 148, 3) := by decide +kernel
theorem dX0_mixedWithBox_41 : decode cX0_mixedWithBox 41 = .ok (.lstore 4, 2) := by decide +kernel
theorem dX0_mixedWithBox_43 : decode cX0_mixedWithBox 43 = .ok (.lload 4, 2) := by decide +kernel
theorem dX0_mixedWithBox_45 : decode cX0_mixedWithBox 45 = .ok (.aload_n 0, 1) := by decide +kernel
theorem dX0_mixedWithBox_46 : decode cX0_mixedWithBox 46 = .ok (.getfield 19, 3) := by decide +kernel
theorem dX0_mixedWithBox_49 : decode cX0_mixedWithBox 49 = .ok (.invokevirtual 227, 3) := by decide +kernel
theorem dX0_mixedWithBox_52 : decode cX0_mixedWithBox 52 = .ok (.i2l, 1) := by decide +kernel
theorem dX0_mixedWithBox_53 : decode cX0_mixedWithBox 53 = .ok (.invokestatic 148, 3) := by decide +kernel
theorem dX0_mixedWithBox_56 : decode cX0_mixedWithBox 56 = .ok (.lstore 4, 2) := by decide +kernel
theorem dX0_mixedWithBox_58 : decode cX0_mixedWithBox 58 = .ok (.iconst 0, 1) := by decide +kernel
theorem dX0_mixedWithBox_59 : decode cX0_mixedWithBox 59 = .ok (.istore 6, 2) := by decide +kernel
theorem dX0_mixedWithBox_61 : decode cX0_mixedWithBox 61 = .ok (.iload 6, 2) := by decide +kernel
theorem dX0_mixedWithBox_63 : decode cX0_mixedWithBox 63 = .ok (.bipush 6, 2) := by decide +kernel
theorem dX0_mixedWithBox_65 : decode cX0_mixedWithBox 65 = .ok (.if_icmp .ge 41, 3) := by decide +kernel
theorem dX0_mixedWithBox_68 : decode cX0_mixedWithBox 68 = .ok (.iconst 0, 1) := by decide +kernel
theorem dX0_mixedWithBox_69 : decode cX0_mixedWithBox 69 = .ok (.istore 7, 2) := by decide +kernel
theorem dX0_mixedWithBox_71 : decode cX0_mixedWithBox 71 = .ok (.iload 7, 2) := by decide +kernel
theorem dX0_mixedWithBox_73 : decode cX0_mixedWithBox 73 = .ok (.iconst 3, 1) := by decide +kernel
theorem dX0_mixedWithBox_74 : decode cX0_mixedWithBox 74 = .ok (.if_icmp .ge 26, 3) := by decide +kernel
theorem dX0_mixedWithBox_77 : decode cX0_mixedWithBox 77 = .ok (.lload 4, 2) := by decide +kernel
theorem dX0_mixedWithBox_79 : decode cX0_mixedWithBox 79 = .ok (.aload_n 0, 1) := by decide +kernel
theorem dX0_mixedWithBox_80 : decode cX0_mixedWithBox 80 = .ok (.iload_n 3, 1) := by decide +kernel
theorem dX0_mixedWithBox_81 : decode cX0_mixedWithBox 81 = .ok (.iload 6, 2) := by decide +kernel
theorem dX0_mixedWithBox_83 : decode cX0_mixedWithBox 83 = .ok (.iload 7, 2) := by decide +kernel
theorem dX0_mixedWithBox_85 : decode cX0_mixedWithBox 85 = .ok (.invokevirtual 222, 3) := by decide +kernel
theorem dX0_mixedWithBox_88 : decode cX0_mixedWithBox 88 = .ok (.i2l, 1) := by decide +kernel
theorem dX0_mixedWithBox_89 : decode cX0_mixedWithBox 89 = .ok (.invokestatic 148, 3) := by decide +kernel
theorem dX0_mixedWithBox_92 : decode cX0_mixedWithBox 92 = .ok (.lstore 4, 2) := by decide +kernel
theorem dX0_mixedWithBox_94 : decode cX0_mixedWithBox 94 = .ok (.iinc 7 1, 3) := by decide +kernel
theorem dX0_mixedWithBox_97 : decode cX0_mixedWithBox 97 = .ok (.goto (-26), 3) := by decide +kernel
theorem dX0_mixedWithBox_100 : decode cX0_mixedWithBox 100 = .ok (.iinc 6 1, 3) := by decide +kernel
theorem dX0_mixedWithBox_103 : decode cX0_mixedWithBox 103 = .ok (.goto (-42), 3) := by decide +kernel
theorem dX0_mixedWithBox_106 : decode cX0_mixedWithBox 106 = .ok (.lload 4, 2) := by decide +kernel
theorem dX0_mixedWithBox_108 : decode cX0_mixedWithBox 108 = .ok (.lreturn, 1) := by decide +kernel
theorem dX0_tell_0 : decode cX0_tell 0 = .ok (.aload_n 0, 1) := by decide +kernel
theorem dX0_tell_1 : decode cX0_tell 1 = .ok (.getfield 19, 3) := by decide +kernel
theorem dX0_tell_4 : decode cX0_tell 4 = .ok (.iconst 0, 1) := by decide +kernel
theorem dX0_tell_5 : decode cX0_tell 5 = .ok (.invokevirtual 198, 3) := by decide +kernel
theorem dX0_tell_8 : decode cX0_tell 8 = .ok (.iload_n 1, 1) := by decide +kernel
theorem dX0_tell_9 : decode cX0_tell 9 = .ok (.sipush (-10000), 3) := by decide +kernel
theorem dX0_tell_12 : decode cX0_tell 12 = .ok (.if_icmp .ne 16, 3) := by decide +kernel
theorem dX0_tell_15 : decode cX0_tell 15 = .ok (.aload_n 0, 1) := by decide +kernel
theorem dX0_tell_16 : decode cX0_tell 16 = .ok (.getfield 19, 3) := by decide +kernel
theorem dX0_tell_19 : decode cX0_tell 19 = .ok (.ldc 201, 2) := by decide +kernel
theorem dX0_tell_21 : decode cX0_tell 21 = .ok (.invokevirtual 203, 3) := by decide +kernel
theorem dX0_tell_24 : decode cX0_tell 24 = .ok (.pop, 1) := by decide +kernel
theorem dX0_tell_25 : decode cX0_tell 25 = .ok (.goto 12, 3) := by decide +kernel
theorem dX0_tell_28 : decode cX0_tell 28 = .ok (.aload_n 0, 1) := by decide +kernel
theorem dX0_tell_29 : decode cX0_tell 29 = .ok (.getfield 19, 3) := by decide +kernel
theorem dX0_tell_32 : decode cX0_tell 32 = .ok (.iload_n 1, 1) := by decide +kernel
theorem dX0_tell_33 : decode cX0_tell 33 = .ok (.invokevirtual 207, 3) := by decide +kernel
theorem dX0_tell_36 : decode cX0_tell 36 = .ok (.pop, 1) := by decide +kernel
theorem dX0_tell_37 : decode cX0_tell 37 = .ok (.return_, 1) := by decide +kernel
theorem dX0_told_0 : decode cX0_told 0 = .ok (.iload_n 1, 1) := by decide +kernel
theorem dX0_told_1 : decode cX0_told 1 = .ok (.invokestatic 23, 3) := by decide +kernel
theorem dX0_told_4 : decode cX0_told 4 = .ok (.aload_n 0, 1) := by decide +kernel
theorem dX0_told_5 : decode cX0_told 5 = .ok (.aload_n 0, 1) := by decide +kernel
theorem dX0_told_6 : decode cX0_told 6 = .ok (.getfield 9, 3) := by decide +kernel
theorem dX0_told_9 : decode cX0_told 9 = .ok (.iload_n 1, 1) := by decide +kernel
theorem dX0_told_10 : decode cX0_told 10 = .ok (.iaload, 1) := by decide +kernel
theorem dX0_told_11 : decode cX0_told 11 = .ok (.invokevirtual 91, 3) := by decide +kernel
theorem dX0_told_14 : decode cX0_told 14 = .ok (.aload_n 0, 1) := by decide +kernel
theorem dX0_told_15 : decode cX0_told 15 = .ok (.getfield 19, 3) := by decide +kernel
theorem dX0_told_18 : decode cX0_told 18 = .ok (.invokevirtual 94, 3) := by decide +kernel
theorem dX0_told_21 : decode cX0_told 21 = .ok (.areturn, 1) := by decide +kernel
def tlen (v : Int32) : Int32 := if v = -10000 then 4 else v_J6_stringSize_0f7a4 v
theorem okc_n {v : Int32} (h : okc v) (hn : ¬ v = -10000) : -999 ≤ v ∧ v ≤ 999 := h.resolve_left hn
theorem tlen_k {v : Int32} (h : okc v) : ∃ k : Nat, k ≤ 4 ∧ tlen v = nI k := by
  unfold tlen
  split
  · exact ⟨4, by decide, rfl⟩
  · rename_i hn
    obtain ⟨k, _, h2, h3⟩ := size_in (okc_n h hn)
    exact ⟨k, h2, h3⟩
theorem tlen_0 {v : Int32} (h : okc v) : 0 ≤ tlen v := by
  obtain ⟨k, h1, h2⟩ := tlen_k h
  rw [h2]; exact nI_pos' (by omega)
set_option maxRecDepth 100000 in
set_option maxHeartbeats 4000000 in
theorem j_X0_tell (l : Launch) (D : va_G) (cI cB : ClassId) (x bx px t bt : Nat) (f g : Nat → Int32) (ak su gt lf rf kn ml cn : Int32) (bs : Nat → Int32) (v : Int32) (to tt : Nat) (go gu : Nat → Int32) (na nv : Nat) (nf : Nat → Int32) (hf : sb_Fit nf) (hb : sb_Fit bs) (hc : 0 ≤ cn) (ho : okc v) : JW (S := Int32 × (Nat → Int32)) l yX0_tell cX0_tell 2 none ({ frames := 5, cells := 0, slots := 0, locals := 148 } : Room) D cI cB [.ref x, .int v] [(x, .inr (2, [.ref bx, .ref px, .ref t, .int ak, .int su, .int gt, .int lf, .int rf, .int kn])), (bx, .inl (cI, 6, .inl f)), (px, .inl (cI, 2, .inl g)), (t, .inr (1, [.ref bt, .int 0, .int ml, .int cn])), (bt, .inl (cB, 16, .inl bs))] (zAnd zC (zAnd (zAnd (zDg "DigitOnes" to go) (zDg "DigitTens" tt gu)) (zAnd (zR RX0 201 "none" na) (zS na nv 4 nf)))) (fun u => none) (fun u => sb_Fit u.2) (fun u => [(x, .inr (2, [.ref bx, .ref px, .ref t, .int ak, .int su, .int gt, .int lf, .int rf, .int kn])), (bx, .inl (cI, 6, .inl f)), (px, .inl (cI, 2, .inl g)), (t, .inr (1, [.ref bt, .int 0, .int u.1, .int (tlen v)])), (bt, .inl (cB, 16, .inl u.2))]) 0 0 := by
  refine bodyJ (by decide +kernel) (Nat.le_of_ble_eq_true rfl) (fun p e s m args below meth c ls A ZZ => ?_)
  obtain ⟨FX, hr, hlk, hK, hP, hD, hS, hA, hz, hnm, hl⟩ := ZZ
  have hl : lv_has ls 2 [(0, .ref x), (1, .int v)] := hl
  have hP : va_P D KL [(x, .inr (2, [.ref bx, .ref px, .ref t, .int ak, .int su, .int gt, .int lf, .int rf, .int kn])), (bx, .inl (cI, 6, .inl f)), (px, .inl (cI, 2, .inl g)), (t, .inr (1, [.ref bt, .int 0, .int ml, .int cn])), (bt, .inl (cB, 16, .inl bs))] s.heap := hP
  refine lv_aload_n FX.1 FX.2.1 dX0_tell_0 rfl (lv_at hl 0 rfl) ?_
  refine va_get (D := D) (ci := 2) (v := .ref t) (C := RX0) (T := TX0) (N := 9) FX.1 FX.2.1 FX.2.2.2.2 inX0 FX.2.2.2.1 hK hP 0 rfl rfl 2 (by decide) (FX.2.2.2.2 _ fl_RX0_19) (fun _ h9 => h9) rfl dX0_tell_1 ?_
  refine lv_iconst (v := 0) FX.1 FX.2.1 dX0_tell_4 (by decide) ?_
  refine c_J (W0 := [(t, .inr (1, [.ref bt, .int 0, .int ml, .int cn])), (bt, .inl (cB, 16, .inl bs))]) (wr := [(x, .inr (2, [.ref bx, .ref px, .ref t, .int ak, .int su, .int gt, .int lf, .int rf, .int kn])), (bx, .inl (cI, 6, .inl f)), (px, .inl (cI, 2, .inl g))]) (wsN := fun u1 => [(x, .inr (2, [.ref bx, .ref px, .ref t, .int ak, .int su, .int gt, .int lf, .int rf, .int kn])), (bx, .inl (cI, 6, .inl f)), (px, .inl (cI, 2, .inl g)), (t, .inr (1, [.ref bt, .int 0, .int u1, .int 0])), (bt, .inl (cB, 16, .inl bs))]) (va_runV FX ((j_J4_setLength_d00df l D cI cB t bt ml cn bs hc) s.heap.size) (my_cwV FX.2.2.2.2 mi_J4_setLength_d00df ml_RX0_198 (RMok.mk)) ⟨PJ.blind zT_ok, (my_recv (i0 := 3) (ci := 1) hK hP rfl rfl rfl), fun U hU hW => ⟨rfl, my_preJ zT_ok trivial hS hA hK hP hD [3, 4] rfl rfl U hU hW⟩⟩ rfl rfl hl.1 rfl (lv_room (Nat.le_of_ble_eq_true rfl)) dX0_tell_5 (by decide)) hP hD hS hA [3, 4] rfl [0, 1, 2] rfl (by decide) [0, 1, 2, 3, 4] (fun _ => rfl) rfl (fun u1 H locs hp_1 hP hD hS => ?_)
  have hP : va_P D KL [(x, .inr (2, [.ref bx, .ref px, .ref t, .int ak, .int su, .int gt, .int lf, .int rf, .int kn])), (bx, .inl (cI, 6, .inl f)), (px, .inl (cI, 2, .inl g)), (t, .inr (1, [.ref bt, .int 0, .int u1, .int 0])), (bt, .inl (cB, 16, .inl bs))] H := hP
  have hD : va_D A [(x, .inr (2, [.ref bx, .ref px, .ref t, .int ak, .int su, .int gt, .int lf, .int rf, .int kn])), (bx, .inl (cI, 6, .inl f)), (px, .inl (cI, 2, .inl g)), (t, .inr (1, [.ref bt, .int 0, .int u1, .int 0])), (bt, .inl (cB, 16, .inl bs))] := hD
  refine W.eq (g2 := F0 m 8 ls []) rfl ?_
  refine lv_iload_n FX.1 FX.2.1 dX0_tell_8 rfl (lv_at hl 1 rfl) ?_
  refine lv_sipush (v := (-10000)) FX.1 FX.2.1 dX0_tell_9 (by decide) ?_
  refine lv_icmp_ne (tgt := 28) FX.1 FX.2.1 dX0_tell_12 (by decide) (fun c_1 => ?_) (fun c_1 => ?_)
  · refine lv_aload_n FX.1 FX.2.1 dX0_tell_28 rfl (lv_at hl 0 rfl) ?_
    refine va_get (D := D) (ci := 2) (v := .ref t) (C := RX0) (T := TX0) (N := 9) FX.1 FX.2.1 FX.2.2.2.2 inX0 FX.2.2.2.1 hK hP 0 rfl rfl 2 (by decide) (FX.2.2.2.2 _ fl_RX0_19) (fun _ h9 => h9) rfl dX0_tell_29 ?_
    refine lv_iload_n FX.1 FX.2.1 dX0_tell_32 rfl (lv_at hl 1 rfl) ?_
    refine c_J (W0 := [(t, .inr (1, [.ref bt, .int 0, .int u1, .int 0])), (bt, .inl (cB, 16, .inl bs))]) (wr := [(x, .inr (2, [.ref bx, .ref px, .ref t, .int ak, .int su, .int gt, .int lf, .int rf, .int kn])), (bx, .inl (cI, 6, .inl f)), (px, .inl (cI, 2, .inl g))]) (wsN := fun u2 => [(x, .inr (2, [.ref bx, .ref px, .ref t, .int ak, .int su, .int gt, .int lf, .int rf, .int kn])), (bx, .inl (cI, 6, .inl f)), (px, .inl (cI, 2, .inl g)), (t, .inr (1, [.ref bt, .int 0, .int u1, .int (v_J6_stringSize_0f7a4 v)])), (bt, .inl (cB, 16, .inl u2))]) (va_runV FX ((j_J4_append_bf812 l D cI cB t bt u1 bs v to tt go gu (okc_n ho c_1) hb) H.size) (my_cwV FX.2.2.2.2 mi_J4_append_bf812 ml_RX0_207 (RMok.mk)) ⟨PJ.blind (zAnd_ok zC_ok (zAnd_ok zDg_ok zDg_ok)), (my_recv (i0 := 3) (ci := 1) hK hP rfl rfl rfl), fun U hU hW => ⟨rfl, my_preJ (zAnd_ok zC_ok (zAnd_ok zDg_ok zDg_ok)) ⟨hz.1, hz.2.1.1, hz.2.1.2⟩ hS hA hK hP hD [3, 4] rfl rfl U hU hW⟩⟩ rfl rfl hl.1 rfl (lv_room (Nat.le_of_ble_eq_true rfl)) dX0_tell_33 (by decide)) hP hD hS hA [3, 4] rfl [0, 1, 2] rfl (by decide) [0, 1, 2, 3, 4] (fun _ => rfl) rfl (fun u2 H locs hp_2 hP hD hS => ?_)
    have hP : va_P D KL [(x, .inr (2, [.ref bx, .ref px, .ref t, .int ak, .int su, .int gt, .int lf, .int rf, .int kn])), (bx, .inl (cI, 6, .inl f)), (px, .inl (cI, 2, .inl g)), (t, .inr (1, [.ref bt, .int 0, .int u1, .int (v_J6_stringSize_0f7a4 v)])), (bt, .inl (cB, 16, .inl u2))] H := hP
    have hD : va_D A [(x, .inr (2, [.ref bx, .ref px, .ref t, .int ak, .int su, .int gt, .int lf, .int rf, .int kn])), (bx, .inl (cI, 6, .inl f)), (px, .inl (cI, 2, .inl g)), (t, .inr (1, [.ref bt, .int 0, .int u1, .int (v_J6_stringSize_0f7a4 v)])), (bt, .inl (cB, 16, .inl u2))] := hD
    refine W.eq (g2 := F0 m 36 ls [.ref t]) rfl ?_
    refine lv_pop FX.1 FX.2.1 dX0_tell_36 rfl ?_
    exact retJv (u1, u2) FX hr hlk dX0_tell_37 (by rw [tlen, if_neg c_1]; exact hP) hK (by rw [tlen, if_neg c_1]; exact hD) hS (by decide) (by decide) rfl hp_2.1
  · refine lv_aload_n FX.1 FX.2.1 dX0_tell_15 rfl (lv_at hl 0 rfl) ?_
    refine va_get (D := D) (ci := 2) (v := .ref t) (C := RX0) (T := TX0) (N := 9) FX.1 FX.2.1 FX.2.2.2.2 inX0 FX.2.2.2.1 hK hP 0 rfl rfl 2 (by decide) (FX.2.2.2.2 _ fl_RX0_19) (fun _ h9 => h9) rfl dX0_tell_16 ?_
    refine p_ldcS FX hz.2.2.1 dX0_tell_19 ?_
    refine c_J (W0 := [(t, .inr (1, [.ref bt, .int 0, .int u1, .int 0])), (bt, .inl (cB, 16, .inl bs))]) (wr := [(x, .inr (2, [.ref bx, .ref px, .ref t, .int ak, .int su, .int gt, .int lf, .int rf, .int kn])), (bx, .inl (cI, 6, .inl f)), (px, .inl (cI, 2, .inl g))]) (wsN := fun u3 => [(x, .inr (2, [.ref bx, .ref px, .ref t, .int ak, .int su, .int gt, .int lf, .int rf, .int kn])), (bx, .inl (cI, 6, .inl f)), (px, .inl (cI, 2, .inl g)), (t, .inr (1, [.ref bt, .int 0, .int u1, .int 4])), (bt, .inl (cB, 16, .inl u3))]) (va_runV FX ((j_J4_append_15ec4 l D cI cB t bt u1 bs na nv 4 nf (by decide) hf hb) H.size) (my_cwV FX.2.2.2.2 mi_J4_append_15ec4 ml_RX0_203 (RMok.mk)) ⟨PJ.blind (zAnd_ok zC_ok zS_ok), (my_recv (i0 := 3) (ci := 1) hK hP rfl rfl rfl), fun U hU hW => ⟨rfl, my_preJ (zAnd_ok zC_ok zS_ok) ⟨hz.1, hz.2.2.2⟩ hS hA hK hP hD [3, 4] rfl rfl U hU hW⟩⟩ rfl rfl hl.1 rfl (lv_room (Nat.le_of_ble_eq_true rfl)) dX0_tell_21 (by decide)) hP hD hS hA [3, 4] rfl [0, 1, 2] rfl (by decide) [0, 1, 2, 3, 4] (fun _ => rfl) rfl (fun u3 H locs hp_3 hP hD hS => ?_)
    have hP : va_P D KL [(x, .inr (2, [.ref bx, .ref px, .ref t, .int ak, .int su, .int gt, .int lf, .int rf, .int kn])), (bx, .inl (cI, 6, .inl f)), (px, .inl (cI, 2, .inl g)), (t, .inr (1, [.ref bt, .int 0, .int u1, .int 4])), (bt, .inl (cB, 16, .inl u3))] H := hP
    have hD : va_D A [(x, .inr (2, [.ref bx, .ref px, .ref t, .int ak, .int su, .int gt, .int lf, .int rf, .int kn])), (bx, .inl (cI, 6, .inl f)), (px, .inl (cI, 2, .inl g)), (t, .inr (1, [.ref bt, .int 0, .int u1, .int 4])), (bt, .inl (cB, 16, .inl u3))] := hD
    refine W.eq (g2 := F0 m 24 ls [.ref t]) rfl ?_
    refine lv_pop FX.1 FX.2.1 dX0_tell_24 rfl ?_
    refine lv_goto (tgt := 37) FX.1 FX.2.1 dX0_tell_25 (by decide) ?_
    exact retJv (u1, u3) FX hr hlk dX0_tell_37 (by rw [tlen, if_pos c_1]; exact hP) hK (by rw [tlen, if_pos c_1]; exact hD) hS (by decide) (by decide) rfl hp_3.1
def e_X0_told (b1 : Int32) : Nat := if e_X0_needBox b1 = 0 then 0 else e_X0_needBox b1
theorem told_nb {b : Int32} (h : e_X0_told b = 0) : e_X0_needBox b = 0 := by
  unfold e_X0_told at h
  split at h
  · assumption
  · exact h
set_option maxRecDepth 100000 in
set_option maxHeartbeats 4000000 in
theorem x_X0_told (l : Launch) (hl0 : l.stackTraces = false) (D : va_G) (cI cB : ClassId) (x bx px tx : Nat) (f g : Nat → Int32) (ak su gt lf rf kn : Int32) (b1 : Int32) (h : ¬ e_X0_told b1 = 0) : XT l yX0_told cX0_told 2 (some (.object "java/lang/String")) ({ frames := 7, cells := 1, slots := 6, locals := 110 } : Room) D cI cB [.ref x, .int b1] (wX cI x bx px tx f g ak su gt lf rf kn) (e_X0_told b1) := by
  refine bodyXT (by decide) (Nat.le_of_ble_eq_true rfl) (fun p e s m args below meth c ls Z => ?_)
  obtain ⟨FX, hr, hlk, hK, hP, hz, htab, hl⟩ := Z
  have hl : lv_has ls 2 [(0, .ref x), (1, .int b1)] := hl
  refine lv_iload_n FX.1 FX.2.1 dX0_told_0 rfl (lv_at hl 1 rfl) ?_
  by_cases q_1 : (e_X0_needBox b1) = 0
  · refine c_RDvs FX (r_X0_needBox l D cI cB b1 q_1) mi_X0_needBox rfl ml_RX0_23 (RMok.mk) hl.1 rfl (Nat.le_of_ble_eq_true rfl) dX0_told_1 (by decide) hK hP [] rfl ?_
    exact absurd (by rw [e_X0_told, if_pos q_1]) h
  · exact thr_s FX htab hlk (x_X0_needBox l hl0 D cI cB b1 q_1) mi_X0_needBox rfl ml_RX0_23 (RMok.mk) hl.1 rfl (Nat.le_of_ble_eq_true rfl) dX0_told_1 (by decide) hK hP [] rfl hz (by rw [e_X0_told, if_neg q_1])
set_option maxRecDepth 100000 in
set_option maxHeartbeats 4000000 in
theorem j_X0_tell_0 (l : Launch) (D : va_G) (cI cB : ClassId) (x bx px t bt : Nat) (f g : Nat → Int32) (ak su gt lf rf kn ml cn : Int32) (bs : Nat → Int32) (to tt : Nat) (go gu : Nat → Int32) (na nv : Nat) (nf : Nat → Int32) (hf : sb_Fit nf) (hb : sb_Fit bs) (hc : 0 ≤ cn) : JW (S := Int32 × (Nat → Int32)) l yX0_tell cX0_tell 2 none ({ frames := 5, cells := 0, slots := 0, locals := 148 } : Room) D cI cB [.ref x, .int (-10000)] [(x, .inr (2, [.ref bx, .ref px, .ref t, .int ak, .int su, .int gt, .int lf, .int rf, .int kn])), (bx, .inl (cI, 6, .inl f)), (px, .inl (cI, 2, .inl g)), (t, .inr (1, [.ref bt, .int 0, .int ml, .int cn])), (bt, .inl (cB, 16, .inl bs))] (zAnd zC (zAnd (zAnd (zDg "DigitOnes" to go) (zDg "DigitTens" tt gu)) (zAnd (zR RX0 201 "none" na) (zS na nv 4 nf)))) (fun u => none) (fun u => sb_Fit u.2 ∧ TL 4 u.2 nf) (fun u => [(x, .inr (2, [.ref bx, .ref px, .ref t, .int ak, .int su, .int gt, .int lf, .int rf, .int kn])), (bx, .inl (cI, 6, .inl f)), (px, .inl (cI, 2, .inl g)), (t, .inr (1, [.ref bt, .int 0, .int u.1, .int 4])), (bt, .inl (cB, 16, .inl u.2))]) 0 0 := by
  refine bodyJ (by decide +kernel) (Nat.le_of_ble_eq_true rfl) (fun p e s m args below meth c ls A ZZ => ?_)
  obtain ⟨FX, hr, hlk, hK, hP, hD, hS, hA, hz, hnm, hl⟩ := ZZ
  have hl : lv_has ls 2 [(0, .ref x), (1, .int (-10000))] := hl
  have hP : va_P D KL [(x, .inr (2, [.ref bx, .ref px, .ref t, .int ak, .int su, .int gt, .int lf, .int rf, .int kn])), (bx, .inl (cI, 6, .inl f)), (px, .inl (cI, 2, .inl g)), (t, .inr (1, [.ref bt, .int 0, .int ml, .int cn])), (bt, .inl (cB, 16, .inl bs))] s.heap := hP
  refine lv_aload_n FX.1 FX.2.1 dX0_tell_0 rfl (lv_at hl 0 rfl) ?_
  refine va_get (D := D) (ci := 2) (v := .ref t) (C := RX0) (T := TX0) (N := 9) FX.1 FX.2.1 FX.2.2.2.2 inX0 FX.2.2.2.1 hK hP 0 rfl rfl 2 (by decide) (FX.2.2.2.2 _ fl_RX0_19) (fun _ h9 => h9) rfl dX0_tell_1 ?_
  refine lv_iconst (v := 0) FX.1 FX.2.1 dX0_tell_4 (by decide) ?_
  refine c_J (W0 := [(t, .inr (1, [.ref bt, .int 0, .int ml, .int cn])), (bt, .inl (cB, 16, .inl bs))]) (wr := [(x, .inr (2, [.ref bx, .ref px, .ref t, .int ak, .int su, .int gt, .int lf, .int rf, .int kn])), (bx, .inl (cI, 6, .inl f)), (px, .inl (cI, 2, .inl g))]) (wsN := fun u1 => [(x, .inr (2, [.ref bx, .ref px, .ref t, .int ak, .int su, .int gt, .int lf, .int rf, .int kn])), (bx, .inl (cI, 6, .inl f)), (px, .inl (cI, 2, .inl g)), (t, .inr (1, [.ref bt, .int 0, .int u1, .int 0])), (bt, .inl (cB, 16, .inl bs))]) (va_runV FX ((j_J4_setLength_d00df l D cI cB t bt ml cn bs hc) s.heap.size) (my_cwV FX.2.2.2.2 mi_J4_setLength_d00df ml_RX0_198 (RMok.mk)) ⟨PJ.blind zT_ok, (my_recv (i0 := 3) (ci := 1) hK hP rfl rfl rfl), fun U hU hW => ⟨rfl, my_preJ zT_ok trivial hS hA hK hP hD [3, 4] rfl rfl U hU hW⟩⟩ rfl rfl hl.1 rfl (lv_room (Nat.le_of_ble_eq_true rfl)) dX0_tell_5 (by decide)) hP hD hS hA [3, 4] rfl [0, 1, 2] rfl (by decide) [0, 1, 2, 3, 4] (fun _ => rfl) rfl (fun u1 H locs hp_1 hP hD hS => ?_)
  have hP : va_P D KL [(x, .inr (2, [.ref bx, .ref px, .ref t, .int ak, .int su, .int gt, .int lf, .int rf, .int kn])), (bx, .inl (cI, 6, .inl f)), (px, .inl (cI, 2, .inl g)), (t, .inr (1, [.ref bt, .int 0, .int u1, .int 0])), (bt, .inl (cB, 16, .inl bs))] H := hP
  have hD : va_D A [(x, .inr (2, [.ref bx, .ref px, .ref t, .int ak, .int su, .int gt, .int lf, .int rf, .int kn])), (bx, .inl (cI, 6, .inl f)), (px, .inl (cI, 2, .inl g)), (t, .inr (1, [.ref bt, .int 0, .int u1, .int 0])), (bt, .inl (cB, 16, .inl bs))] := hD
  refine W.eq (g2 := F0 m 8 ls []) rfl ?_
  refine lv_iload_n FX.1 FX.2.1 dX0_tell_8 rfl (lv_at hl 1 rfl) ?_
  refine lv_sipush (v := (-10000)) FX.1 FX.2.1 dX0_tell_9 (by decide) ?_
  refine lv_icmp_ne (tgt := 28) FX.1 FX.2.1 dX0_tell_12 (by decide) (fun c_1 => ?_) (fun c_1 => ?_)
  · exact absurd c_1 (by decide)
  · refine lv_aload_n FX.1 FX.2.1 dX0_tell_15 rfl (lv_at hl 0 rfl) ?_
    refine va_get (D := D) (ci := 2) (v := .ref t) (C := RX0) (T := TX0) (N := 9) FX.1 FX.2.1 FX.2.2.2.2 inX0 FX.2.2.2.1 hK hP 0 rfl rfl 2 (by decide) (FX.2.2.2.2 _ fl_RX0_19) (fun _ h9 => h9) rfl dX0_tell_16 ?_
    refine p_ldcS FX hz.2.2.1 dX0_tell_19 ?_
    refine c_J (W0 := [(t, .inr (1, [.ref bt, .int 0, .int u1, .int 0])), (bt, .inl (cB, 16, .inl bs))]) (wr := [(x, .inr (2, [.ref bx, .ref px, .ref t, .int ak, .int su, .int gt, .int lf, .int rf, .int kn])), (bx, .inl (cI, 6, .inl f)), (px, .inl (cI, 2, .inl g))]) (wsN := fun u2 => [(x, .inr (2, [.ref bx, .ref px, .ref t, .int ak, .int su, .int gt, .int lf, .int rf, .int kn])), (bx, .inl (cI, 6, .inl f)), (px, .inl (cI, 2, .inl g)), (t, .inr (1, [.ref bt, .int 0, .int u1, .int 4])), (bt, .inl (cB, 16, .inl u2))]) (va_runV FX ((j_J4_append_15ec4 l D cI cB t bt u1 bs na nv 4 nf (by decide) hf hb) H.size) (my_cwV FX.2.2.2.2 mi_J4_append_15ec4 ml_RX0_203 (RMok.mk)) ⟨PJ.blind (zAnd_ok zC_ok zS_ok), (my_recv (i0 := 3) (ci := 1) hK hP rfl rfl rfl), fun U hU hW => ⟨rfl, my_preJ (zAnd_ok zC_ok zS_ok) ⟨hz.1, hz.2.2.2⟩ hS hA hK hP hD [3, 4] rfl rfl U hU hW⟩⟩ rfl rfl hl.1 rfl (lv_room (Nat.le_of_ble_eq_true rfl)) dX0_tell_21 (by decide)) hP hD hS hA [3, 4] rfl [0, 1, 2] rfl (by decide) [0, 1, 2, 3, 4] (fun _ => rfl) rfl (fun u2 H locs hp_2 hP hD hS => ?_)
    have hP : va_P D KL [(x, .inr (2, [.ref bx, .ref px, .ref t, .int ak, .int su, .int gt, .int lf, .int rf, .int kn])), (bx, .inl (cI, 6, .inl f)), (px, .inl (cI, 2, .inl g)), (t, .inr (1, [.ref bt, .int 0, .int u1, .int 4])), (bt, .inl (cB, 16, .inl u2))] H := hP
    have hD : va_D A [(x, .inr (2, [.ref bx, .ref px, .ref t, .int ak, .int su, .int gt, .int lf, .int rf, .int kn])), (bx, .inl (cI, 6, .inl f)), (px, .inl (cI, 2, .inl g)), (t, .inr (1, [.ref bt, .int 0, .int u1, .int 4])), (bt, .inl (cB, 16, .inl u2))] := hD
    refine W.eq (g2 := F0 m 24 ls [.ref t]) rfl ?_
    refine lv_pop FX.1 FX.2.1 dX0_tell_24 rfl ?_
    refine lv_goto (tgt := 37) FX.1 FX.2.1 dX0_tell_25 (by decide) ?_
    exact retJv (u1, u2) FX hr hlk dX0_tell_37 hP hK hD hS (by decide) (by decide) rfl hp_2
theorem nmt {v : Int32} (h : -999 ≤ v ∧ v ≤ 999) : ¬ v = -10000 := fun z => by
  rw [z] at h
  exact absurd h (by decide)
set_option maxRecDepth 100000 in
set_option maxHeartbeats 4000000 in
theorem j_X0_tell_1 (l : Launch) (D : va_G) (cI cB : ClassId) (x bx px t bt : Nat) (f g : Nat → Int32) (ak su gt lf rf kn ml cn : Int32) (bs : Nat → Int32) (v : Int32) (k : Nat) (to tt : Nat) (go gu : Nat → Int32) (na nv : Nat) (nf : Nat → Int32) (hf : sb_Fit nf) (hb : sb_Fit bs) (hc : 0 ≤ cn) (hv : -999 ≤ v ∧ v ≤ 999) (hk : k ≤ 4) (ek : v_J6_stringSize_0f7a4 v = nI k) : JW (S := Int32 × (Nat → Int32)) l yX0_tell cX0_tell 2 none ({ frames := 3, cells := 0, slots := 0, locals := 70 } : Room) D cI cB [.ref x, .int v] [(x, .inr (2, [.ref bx, .ref px, .ref t, .int ak, .int su, .int gt, .int lf, .int rf, .int kn])), (bx, .inl (cI, 6, .inl f)), (px, .inl (cI, 2, .inl g)), (t, .inr (1, [.ref bt, .int 0, .int ml, .int cn])), (bt, .inl (cB, 16, .inl bs))] (zAnd zC (zAnd (zAnd (zDg "DigitOnes" to go) (zDg "DigitTens" tt gu)) (zAnd (zR RX0 201 "none" na) (zS na nv 4 nf)))) (fun u => none) (fun u => sb_Fit u.2 ∧ TL k u.2 (tc v go gu)) (fun u => [(x, .inr (2, [.ref bx, .ref px, .ref t, .int ak, .int su, .int gt, .int lf, .int rf, .int kn])), (bx, .inl (cI, 6, .inl f)), (px, .inl (cI, 2, .inl g)), (t, .inr (1, [.ref bt, .int 0, .int u.1, .int (nI k)])), (bt, .inl (cB, 16, .inl u.2))]) 0 0 := by
  refine bodyJ (by decide +kernel) (Nat.le_of_ble_eq_true rfl) (fun p e s m args below meth c ls A ZZ => ?_)
  obtain ⟨FX, hr, hlk, hK, hP, hD, hS, hA, hz, hnm, hl⟩ := ZZ
  have hl : lv_has ls 2 [(0, .ref x), (1, .int v)] := hl
  have hP : va_P D KL [(x, .inr (2, [.ref bx, .ref px, .ref t, .int ak, .int su, .int gt, .int lf, .int rf, .int kn])), (bx, .inl (cI, 6, .inl f)), (px, .inl (cI, 2, .inl g)), (t, .inr (1, [.ref bt, .int 0, .int ml, .int cn])), (bt, .inl (cB, 16, .inl bs))] s.heap := hP
  refine lv_aload_n FX.1 FX.2.1 dX0_tell_0 rfl (lv_at hl 0 rfl) ?_
  refine va_get (D := D) (ci := 2) (v := .ref t) (C := RX0) (T := TX0) (N := 9) FX.1 FX.2.1 FX.2.2.2.2 inX0 FX.2.2.2.1 hK hP 0 rfl rfl 2 (by decide) (FX.2.2.2.2 _ fl_RX0_19) (fun _ h9 => h9) rfl dX0_tell_1 ?_
  refine lv_iconst (v := 0) FX.1 FX.2.1 dX0_tell_4 (by decide) ?_
  refine c_J (W0 := [(t, .inr (1, [.ref bt, .int 0, .int ml, .int cn])), (bt, .inl (cB, 16, .inl bs))]) (wr := [(x, .inr (2, [.ref bx, .ref px, .ref t, .int ak, .int su, .int gt, .int lf, .int rf, .int kn])), (bx, .inl (cI, 6, .inl f)), (px, .inl (cI, 2, .inl g))]) (wsN := fun u1 => [(x, .inr (2, [.ref bx, .ref px, .ref t, .int ak, .int su, .int gt, .int lf, .int rf, .int kn])), (bx, .inl (cI, 6, .inl f)), (px, .inl (cI, 2, .inl g)), (t, .inr (1, [.ref bt, .int 0, .int u1, .int 0])), (bt, .inl (cB, 16, .inl bs))]) (va_runV FX ((j_J4_setLength_d00df l D cI cB t bt ml cn bs hc) s.heap.size) (my_cwV FX.2.2.2.2 mi_J4_setLength_d00df ml_RX0_198 (RMok.mk)) ⟨PJ.blind zT_ok, (my_recv (i0 := 3) (ci := 1) hK hP rfl rfl rfl), fun U hU hW => ⟨rfl, my_preJ zT_ok trivial hS hA hK hP hD [3, 4] rfl rfl U hU hW⟩⟩ rfl rfl hl.1 rfl (lv_room (Nat.le_of_ble_eq_true rfl)) dX0_tell_5 (by decide)) hP hD hS hA [3, 4] rfl [0, 1, 2] rfl (by decide) [0, 1, 2, 3, 4] (fun _ => rfl) rfl (fun u1 H locs hp_1 hP hD hS => ?_)
  have hP : va_P D KL [(x, .inr (2, [.ref bx, .ref px, .ref t, .int ak, .int su, .int gt, .int lf, .int rf, .int kn])), (bx, .inl (cI, 6, .inl f)), (px, .inl (cI, 2, .inl g)), (t, .inr (1, [.ref bt, .int 0, .int u1, .int 0])), (bt, .inl (cB, 16, .inl bs))] H := hP
  have hD : va_D A [(x, .inr (2, [.ref bx, .ref px, .ref t, .int ak, .int su, .int gt, .int lf, .int rf, .int kn])), (bx, .inl (cI, 6, .inl f)), (px, .inl (cI, 2, .inl g)), (t, .inr (1, [.ref bt, .int 0, .int u1, .int 0])), (bt, .inl (cB, 16, .inl bs))] := hD
  refine W.eq (g2 := F0 m 8 ls []) rfl ?_
  refine lv_iload_n FX.1 FX.2.1 dX0_tell_8 rfl (lv_at hl 1 rfl) ?_
  refine lv_sipush (v := (-10000)) FX.1 FX.2.1 dX0_tell_9 (by decide) ?_
  refine lv_icmp_ne (tgt := 28) FX.1 FX.2.1 dX0_tell_12 (by decide) (fun c_1 => ?_) (fun c_1 => ?_)
  · refine lv_aload_n FX.1 FX.2.1 dX0_tell_28 rfl (lv_at hl 0 rfl) ?_
    refine va_get (D := D) (ci := 2) (v := .ref t) (C := RX0) (T := TX0) (N := 9) FX.1 FX.2.1 FX.2.2.2.2 inX0 FX.2.2.2.1 hK hP 0 rfl rfl 2 (by decide) (FX.2.2.2.2 _ fl_RX0_19) (fun _ h9 => h9) rfl dX0_tell_29 ?_
    refine lv_iload_n FX.1 FX.2.1 dX0_tell_32 rfl (lv_at hl 1 rfl) ?_
    refine c_J (W0 := [(t, .inr (1, [.ref bt, .int 0, .int u1, .int 0])), (bt, .inl (cB, 16, .inl bs))]) (wr := [(x, .inr (2, [.ref bx, .ref px, .ref t, .int ak, .int su, .int gt, .int lf, .int rf, .int kn])), (bx, .inl (cI, 6, .inl f)), (px, .inl (cI, 2, .inl g))]) (wsN := fun u2 => [(x, .inr (2, [.ref bx, .ref px, .ref t, .int ak, .int su, .int gt, .int lf, .int rf, .int kn])), (bx, .inl (cI, 6, .inl f)), (px, .inl (cI, 2, .inl g)), (t, .inr (1, [.ref bt, .int 0, .int u1, .int (v_J6_stringSize_0f7a4 v)])), (bt, .inl (cB, 16, .inl u2))]) (va_runV FX ((j_J4_append_bf812 l D cI cB t bt u1 bs v to tt go gu hv hb) H.size) (my_cwV FX.2.2.2.2 mi_J4_append_bf812 ml_RX0_207 (RMok.mk)) ⟨PJ.blind (zAnd_ok zC_ok (zAnd_ok zDg_ok zDg_ok)), (my_recv (i0 := 3) (ci := 1) hK hP rfl rfl rfl), fun U hU hW => ⟨rfl, my_preJ (zAnd_ok zC_ok (zAnd_ok zDg_ok zDg_ok)) ⟨hz.1, hz.2.1.1, hz.2.1.2⟩ hS hA hK hP hD [3, 4] rfl rfl U hU hW⟩⟩ rfl rfl hl.1 rfl (lv_room (Nat.le_of_ble_eq_true rfl)) dX0_tell_33 (by decide)) hP hD hS hA [3, 4] rfl [0, 1, 2] rfl (by decide) [0, 1, 2, 3, 4] (fun _ => rfl) rfl (fun u2 H locs hp_2 hP hD hS => ?_)
    have hP : va_P D KL [(x, .inr (2, [.ref bx, .ref px, .ref t, .int ak, .int su, .int gt, .int lf, .int rf, .int kn])), (bx, .inl (cI, 6, .inl f)), (px, .inl (cI, 2, .inl g)), (t, .inr (1, [.ref bt, .int 0, .int u1, .int (v_J6_stringSize_0f7a4 v)])), (bt, .inl (cB, 16, .inl u2))] H := hP
    have hD : va_D A [(x, .inr (2, [.ref bx, .ref px, .ref t, .int ak, .int su, .int gt, .int lf, .int rf, .int kn])), (bx, .inl (cI, 6, .inl f)), (px, .inl (cI, 2, .inl g)), (t, .inr (1, [.ref bt, .int 0, .int u1, .int (v_J6_stringSize_0f7a4 v)])), (bt, .inl (cB, 16, .inl u2))] := hD
    refine W.eq (g2 := F0 m 36 ls [.ref t]) rfl ?_
    rw [ek] at hP hD
    have hP : va_P D KL [(x, .inr (2, [.ref bx, .ref px, .ref t, .int ak, .int su, .int gt, .int lf, .int rf, .int kn])), (bx, .inl (cI, 6, .inl f)), (px, .inl (cI, 2, .inl g)), (t, .inr (1, [.ref bt, .int 0, .int u1, .int (nI k)])), (bt, .inl (cB, 16, .inl u2))] H := hP
    have hD : va_D A [(x, .inr (2, [.ref bx, .ref px, .ref t, .int ak, .int su, .int gt, .int lf, .int rf, .int kn])), (bx, .inl (cI, 6, .inl f)), (px, .inl (cI, 2, .inl g)), (t, .inr (1, [.ref bt, .int 0, .int u1, .int (nI k)])), (bt, .inl (cB, 16, .inl u2))] := hD
    refine lv_pop FX.1 FX.2.1 dX0_tell_36 rfl ?_
    exact retJv (u1, u2) FX hr hlk dX0_tell_37 hP hK hD hS (by decide) (by decide) rfl ⟨hp_2.1, hp_2.2 k hk ek⟩
  · exact absurd c_1 (nmt hv)
set_option maxRecDepth 100000 in
set_option maxHeartbeats 4000000 in
theorem j_X0_told_0 (l : Launch) (D : va_G) (cI cB : ClassId) (x bx px t bt : Nat) (f g : Nat → Int32) (ak su gt lf rf kn ml cn : Int32) (bs : Nat → Int32) (b1 : Int32) (to tt : Nat) (go gu : Nat → Int32) (na nv : Nat) (nf : Nat → Int32) (hf : sb_Fit nf) (hb : sb_Fit bs) (hc : 0 ≤ cn) (h : e_X0_told b1 = 0) (hn0 : f b1.toNatClampNeg = -10000) : JW (S := Int32 × (Nat → Int32) × Nat × Nat × (Nat → Int32)) l yX0_told cX0_told 2 (some (.object "java/lang/String")) ({ frames := 6, cells := 2, slots := 20, locals := 171 } : Room) D cI cB [.ref x, .int b1] [(x, .inr (2, [.ref bx, .ref px, .ref t, .int ak, .int su, .int gt, .int lf, .int rf, .int kn])), (bx, .inl (cI, 6, .inl f)), (px, .inl (cI, 2, .inl g)), (t, .inr (1, [.ref bt, .int 0, .int ml, .int cn])), (bt, .inl (cB, 16, .inl bs))] (zAnd zC (zAnd (zAnd (zDg "DigitOnes" to go) (zDg "DigitTens" tt gu)) (zAnd (zR RX0 201 "none" na) (zS na nv 4 nf)))) (fun u => some (.ref u.2.2.1)) (fun u => sb_Fit u.2.1 ∧ TL 4 u.2.2.2.2 nf) (fun u => [(x, .inr (2, [.ref bx, .ref px, .ref t, .int ak, .int su, .int gt, .int lf, .int rf, .int kn])), (bx, .inl (cI, 6, .inl f)), (px, .inl (cI, 2, .inl g)), (t, .inr (1, [.ref bt, .int 0, .int u.1, .int 4])), (bt, .inl (cB, 16, .inl u.2.1)), (u.2.2.1, .inr (0, [.ref u.2.2.2.1, .int 0, .int 0, .int 0])), (u.2.2.2.1, .inl (cB, 4, .inl u.2.2.2.2))]) 2 20 := by
  refine bodyJ (by decide +kernel) (Nat.le_of_ble_eq_true rfl) (fun p e s m args below meth c ls A ZZ => ?_)
  obtain ⟨FX, hr, hlk, hK, hP, hD, hS, hA, hz, hnm, hl⟩ := ZZ
  have hl : lv_has ls 2 [(0, .ref x), (1, .int b1)] := hl
  have hP : va_P D KL [(x, .inr (2, [.ref bx, .ref px, .ref t, .int ak, .int su, .int gt, .int lf, .int rf, .int kn])), (bx, .inl (cI, 6, .inl f)), (px, .inl (cI, 2, .inl g)), (t, .inr (1, [.ref bt, .int 0, .int ml, .int cn])), (bt, .inl (cB, 16, .inl bs))] s.heap := hP
  refine lv_iload_n FX.1 FX.2.1 dX0_told_0 rfl (lv_at hl 1 rfl) ?_
  have q_1 : (e_X0_needBox b1) = 0 := (told_nb h)
  refine c_RDvs FX (r_X0_needBox l D cI cB b1 q_1) mi_X0_needBox rfl ml_RX0_23 (RMok.mk) hl.1 rfl (Nat.le_of_ble_eq_true rfl) dX0_told_1 (by decide) hK hP [] rfl ?_
  refine lv_aload_n FX.1 FX.2.1 dX0_told_4 rfl (lv_at hl 0 rfl) ?_
  refine lv_aload_n FX.1 FX.2.1 dX0_told_5 rfl (lv_at hl 0 rfl) ?_
  refine va_get (D := D) (ci := 2) (v := .ref bx) (C := RX0) (T := TX0) (N := 9) FX.1 FX.2.1 FX.2.2.2.2 inX0 FX.2.2.2.1 hK hP 0 rfl rfl 0 (by decide) (FX.2.2.2.2 _ fl_RX0_9) (fun _ h9 => h9) rfl dX0_told_6 ?_
  refine lv_iload_n FX.1 FX.2.1 dX0_told_9 rfl (lv_at hl 1 rfl) ?_
  refine p_iald (v := f b1.toNatClampNeg) FX hK hP 1 rfl (in_X0_needBox (told_nb h)) dX0_told_10 rfl ?_
  refine W.eq (g2 := F0 m 11 ls [.int (-10000), .ref x]) (by rw [hn0]) ?_
  refine c_J (W0 := [(x, .inr (2, [.ref bx, .ref px, .ref t, .int ak, .int su, .int gt, .int lf, .int rf, .int kn])), (bx, .inl (cI, 6, .inl f)), (px, .inl (cI, 2, .inl g)), (t, .inr (1, [.ref bt, .int 0, .int ml, .int cn])), (bt, .inl (cB, 16, .inl bs))]) (wr := []) (wsN := fun u1 => [(x, .inr (2, [.ref bx, .ref px, .ref t, .int ak, .int su, .int gt, .int lf, .int rf, .int kn])), (bx, .inl (cI, 6, .inl f)), (px, .inl (cI, 2, .inl g)), (t, .inr (1, [.ref bt, .int 0, .int u1.1, .int 4])), (bt, .inl (cB, 16, .inl u1.2))]) (va_runV FX ((j_X0_tell_0 l D cI cB x bx px t bt f g ak su gt lf rf kn ml cn bs to tt go gu na nv nf hf hb hc) s.heap.size) (my_cwV FX.2.2.2.2 mi_X0_tell ml_RX0_91 (RMok.mk)) ⟨PJ.blind (zAnd_ok zC_ok (zAnd_ok (zAnd_ok zDg_ok zDg_ok) (zAnd_ok zR_ok zS_ok))), (my_recv (i0 := 0) (ci := 2) hK hP rfl rfl rfl), fun U hU hW => ⟨rfl, my_preJ (zAnd_ok zC_ok (zAnd_ok (zAnd_ok zDg_ok zDg_ok) (zAnd_ok zR_ok zS_ok))) hz hS hA hK hP hD [0, 1, 2, 3, 4] rfl rfl U hU hW⟩⟩ rfl rfl hl.1 rfl (lv_room (Nat.le_of_ble_eq_true rfl)) dX0_told_11 (by decide)) hP hD hS hA [0, 1, 2, 3, 4] rfl [] rfl (by decide) [0, 1, 2, 3, 4] (fun _ => rfl) rfl (fun u1 H locs hp_1 hP hD hS => ?_)
  have hP : va_P D KL [(x, .inr (2, [.ref bx, .ref px, .ref t, .int ak, .int su, .int gt, .int lf, .int rf, .int kn])), (bx, .inl (cI, 6, .inl f)), (px, .inl (cI, 2, .inl g)), (t, .inr (1, [.ref bt, .int 0, .int u1.1, .int 4])), (bt, .inl (cB, 16, .inl u1.2))] H := hP
  have hD : va_D A [(x, .inr (2, [.ref bx, .ref px, .ref t, .int ak, .int su, .int gt, .int lf, .int rf, .int kn])), (bx, .inl (cI, 6, .inl f)), (px, .inl (cI, 2, .inl g)), (t, .inr (1, [.ref bt, .int 0, .int u1.1, .int 4])), (bt, .inl (cB, 16, .inl u1.2))] := hD
  refine W.eq (g2 := F0 m 14 ls []) rfl ?_
  refine lv_aload_n FX.1 FX.2.1 dX0_told_14 rfl (lv_at hl 0 rfl) ?_
  refine va_get (D := D) (ci := 2) (v := .ref t) (C := RX0) (T := TX0) (N := 9) FX.1 FX.2.1 FX.2.2.2.2 inX0 FX.2.2.2.1 hK hP 0 rfl rfl 2 (by decide) (FX.2.2.2.2 _ fl_RX0_19) (fun _ h9 => h9) rfl dX0_told_15 ?_
  refine c_J (W0 := [(t, .inr (1, [.ref bt, .int 0, .int u1.1, .int 4])), (bt, .inl (cB, 16, .inl u1.2))]) (wr := [(x, .inr (2, [.ref bx, .ref px, .ref t, .int ak, .int su, .int gt, .int lf, .int rf, .int kn])), (bx, .inl (cI, 6, .inl f)), (px, .inl (cI, 2, .inl g))]) (wsN := fun u2 => [(x, .inr (2, [.ref bx, .ref px, .ref t, .int ak, .int su, .int gt, .int lf, .int rf, .int kn])), (bx, .inl (cI, 6, .inl f)), (px, .inl (cI, 2, .inl g)), (t, .inr (1, [.ref bt, .int 0, .int u1.1, .int 4])), (bt, .inl (cB, 16, .inl u1.2)), (u2.1, .inr (0, [.ref u2.2.1, .int 0, .int 0, .int 0])), (u2.2.1, .inl (cB, 4, .inl u2.2.2))]) (va_runV FX ((j_J4_toString_0e30d l D cI cB t bt 4 u1.1 u1.2 (by decide) hp_1.1) H.size) (my_cwV FX.2.2.2.2 mi_J4_toString_0e30d ml_RX0_94 (RMok.mk)) ⟨PJ.blind zC_ok, (my_recv (i0 := 3) (ci := 1) hK hP rfl rfl rfl), fun U hU hW => ⟨rfl, my_preJ zC_ok hz.1 hS hA hK hP hD [3, 4] rfl rfl U hU hW⟩⟩ rfl rfl hl.1 rfl (lv_room (Nat.le_of_ble_eq_true rfl)) dX0_told_18 (by decide)) hP hD hS hA [3, 4] rfl [0, 1, 2] rfl (by decide) [0, 1, 2, 3, 4, 5, 6] (fun _ => rfl) rfl (fun u2 H locs hp_2 hP hD hS => ?_)
  have hP : va_P D KL [(x, .inr (2, [.ref bx, .ref px, .ref t, .int ak, .int su, .int gt, .int lf, .int rf, .int kn])), (bx, .inl (cI, 6, .inl f)), (px, .inl (cI, 2, .inl g)), (t, .inr (1, [.ref bt, .int 0, .int u1.1, .int 4])), (bt, .inl (cB, 16, .inl u1.2)), (u2.1, .inr (0, [.ref u2.2.1, .int 0, .int 0, .int 0])), (u2.2.1, .inl (cB, 4, .inl u2.2.2))] H := hP
  have hD : va_D A [(x, .inr (2, [.ref bx, .ref px, .ref t, .int ak, .int su, .int gt, .int lf, .int rf, .int kn])), (bx, .inl (cI, 6, .inl f)), (px, .inl (cI, 2, .inl g)), (t, .inr (1, [.ref bt, .int 0, .int u1.1, .int 4])), (bt, .inl (cB, 16, .inl u1.2)), (u2.1, .inr (0, [.ref u2.2.1, .int 0, .int 0, .int 0])), (u2.2.1, .inl (cB, 4, .inl u2.2.2))] := hD
  refine W.eq (g2 := F0 m 21 ls [.ref u2.1]) rfl ?_
  exact retJa (u1.1, u1.2, u2.1, u2.2.1, u2.2.2) FX hr (Or.inl ⟨_, rfl⟩) hlk dX0_told_21 hP hK hD hS (by decide) (by decide) rfl ⟨hp_1.1, fun j hj => (hp_2.2 j hj).trans (hp_1.2 j hj)⟩
set_option maxRecDepth 100000 in
set_option maxHeartbeats 4000000 in
theorem j_X0_told_1 (l : Launch) (D : va_G) (cI cB : ClassId) (x bx px t bt : Nat) (f g : Nat → Int32) (ak su gt lf rf kn ml cn : Int32) (bs : Nat → Int32) (b1 : Int32) (k : Nat) (to tt : Nat) (go gu : Nat → Int32) (na nv : Nat) (nf : Nat → Int32) (hf : sb_Fit nf) (hb : sb_Fit bs) (hc : 0 ≤ cn) (h : e_X0_told b1 = 0) (hv : -999 ≤ f b1.toNatClampNeg ∧ f b1.toNatClampNeg ≤ 999) (hk : k ≤ 4) (ek : v_J6_stringSize_0f7a4 (f b1.toNatClampNeg) = nI k) : JW (S := Int32 × (Nat → Int32) × Nat × Nat × (Nat → Int32)) l yX0_told cX0_told 2 (some (.object "java/lang/String")) ({ frames := 6, cells := 2, slots := 20, locals := 171 } : Room) D cI cB [.ref x, .int b1] [(x, .inr (2, [.ref bx, .ref px, .ref t, .int ak, .int su, .int gt, .int lf, .int rf, .int kn])), (bx, .inl (cI, 6, .inl f)), (px, .inl (cI, 2, .inl g)), (t, .inr (1, [.ref bt, .int 0, .int ml, .int cn])), (bt, .inl (cB, 16, .inl bs))] (zAnd zC (zAnd (zAnd (zDg "DigitOnes" to go) (zDg "DigitTens" tt gu)) (zAnd (zR RX0 201 "none" na) (zS na nv 4 nf)))) (fun u => some (.ref u.2.2.1)) (fun u => sb_Fit u.2.1 ∧ TL k u.2.2.2.2 (tc (f b1.toNatClampNeg) go gu)) (fun u => [(x, .inr (2, [.ref bx, .ref px, .ref t, .int ak, .int su, .int gt, .int lf, .int rf, .int kn])), (bx, .inl (cI, 6, .inl f)), (px, .inl (cI, 2, .inl g)), (t, .inr (1, [.ref bt, .int 0, .int u.1, .int (nI k)])), (bt, .inl (cB, 16, .inl u.2.1)), (u.2.2.1, .inr (0, [.ref u.2.2.2.1, .int 0, .int 0, .int 0])), (u.2.2.2.1, .inl (cB, k, .inl u.2.2.2.2))]) 2 20 := by
  refine bodyJ (by decide +kernel) (Nat.le_of_ble_eq_true rfl) (fun p e s m args below meth c ls A ZZ => ?_)
  obtain ⟨FX, hr, hlk, hK, hP, hD, hS, hA, hz, hnm, hl⟩ := ZZ
  have hl : lv_has ls 2 [(0, .ref x), (1, .int b1)] := hl
  have hP : va_P D KL [(x, .inr (2, [.ref bx, .ref px, .ref t, .int ak, .int su, .int gt, .int lf, .int rf, .int kn])), (bx, .inl (cI, 6, .inl f)), (px, .inl (cI, 2, .inl g)), (t, .inr (1, [.ref bt, .int 0, .int ml, .int cn])), (bt, .inl (cB, 16, .inl bs))] s.heap := hP
  refine lv_iload_n FX.1 FX.2.1 dX0_told_0 rfl (lv_at hl 1 rfl) ?_
  have q_1 : (e_X0_needBox b1) = 0 := (told_nb h)
  refine c_RDvs FX (r_X0_needBox l D cI cB b1 q_1) mi_X0_needBox rfl ml_RX0_23 (RMok.mk) hl.1 rfl (Nat.le_of_ble_eq_true rfl) dX0_told_1 (by decide) hK hP [] rfl ?_
  refine lv_aload_n FX.1 FX.2.1 dX0_told_4 rfl (lv_at hl 0 rfl) ?_
  refine lv_aload_n FX.1 FX.2.1 dX0_told_5 rfl (lv_at hl 0 rfl) ?_
  refine va_get (D := D) (ci := 2) (v := .ref bx) (C := RX0) (T := TX0) (N := 9) FX.1 FX.2.1 FX.2.2.2.2 inX0 FX.2.2.2.1 hK hP 0 rfl rfl 0 (by decide) (FX.2.2.2.2 _ fl_RX0_9) (fun _ h9 => h9) rfl dX0_told_6 ?_
  refine lv_iload_n FX.1 FX.2.1 dX0_told_9 rfl (lv_at hl 1 rfl) ?_
  refine p_iald (v := f b1.toNatClampNeg) FX hK hP 1 rfl (in_X0_needBox (told_nb h)) dX0_told_10 rfl ?_
  refine c_J (W0 := [(x, .inr (2, [.ref bx, .ref px, .ref t, .int ak, .int su, .int gt, .int lf, .int rf, .int kn])), (bx, .inl (cI, 6, .inl f)), (px, .inl (cI, 2, .inl g)), (t, .inr (1, [.ref bt, .int 0, .int ml, .int cn])), (bt, .inl (cB, 16, .inl bs))]) (wr := []) (wsN := fun u1 => [(x, .inr (2, [.ref bx, .ref px, .ref t, .int ak, .int su, .int gt, .int lf, .int rf, .int kn])), (bx, .inl (cI, 6, .inl f)), (px, .inl (cI, 2, .inl g)), (t, .inr (1, [.ref bt, .int 0, .int u1.1, .int (nI k)])), (bt, .inl (cB, 16, .inl u1.2))]) (va_runV FX ((j_X0_tell_1 l D cI cB x bx px t bt f g ak su gt lf rf kn ml cn bs (f b1.toNatClampNeg) k to tt go gu na nv nf hf hb hc hv hk ek) s.heap.size) (my_cwV FX.2.2.2.2 mi_X0_tell ml_RX0_91 (RMok.mk)) ⟨PJ.blind (zAnd_ok zC_ok (zAnd_ok (zAnd_ok zDg_ok zDg_ok) (zAnd_ok zR_ok zS_ok))), (my_recv (i0 := 0) (ci := 2) hK hP rfl rfl rfl), fun U hU hW => ⟨rfl, my_preJ (zAnd_ok zC_ok (zAnd_ok (zAnd_ok zDg_ok zDg_ok) (zAnd_ok zR_ok zS_ok))) hz hS hA hK hP hD [0, 1, 2, 3, 4] rfl rfl U hU hW⟩⟩ rfl rfl hl.1 rfl (lv_room (Nat.le_of_ble_eq_true rfl)) dX0_told_11 (by decide)) hP hD hS hA [0, 1, 2, 3, 4] rfl [] rfl (by decide) [0, 1, 2, 3, 4] (fun _ => rfl) rfl (fun u1 H locs hp_1 hP hD hS => ?_)
  have hP : va_P D KL [(x, .inr (2, [.ref bx, .ref px, .ref t, .int ak, .int su, .int gt, .int lf, .int rf, .int kn])), (bx, .inl (cI, 6, .inl f)), (px, .inl (cI, 2, .inl g)), (t, .inr (1, [.ref bt, .int 0, .int u1.1, .int (nI k)])), (bt, .inl (cB, 16, .inl u1.2))] H := hP
  have hD : va_D A [(x, .inr (2, [.ref bx, .ref px, .ref t, .int ak, .int su, .int gt, .int lf, .int rf, .int kn])), (bx, .inl (cI, 6, .inl f)), (px, .inl (cI, 2, .inl g)), (t, .inr (1, [.ref bt, .int 0, .int u1.1, .int (nI k)])), (bt, .inl (cB, 16, .inl u1.2))] := hD
  refine W.eq (g2 := F0 m 14 ls []) rfl ?_
  refine lv_aload_n FX.1 FX.2.1 dX0_told_14 rfl (lv_at hl 0 rfl) ?_
  refine va_get (D := D) (ci := 2) (v := .ref t) (C := RX0) (T := TX0) (N := 9) FX.1 FX.2.1 FX.2.2.2.2 inX0 FX.2.2.2.1 hK hP 0 rfl rfl 2 (by decide) (FX.2.2.2.2 _ fl_RX0_19) (fun _ h9 => h9) rfl dX0_told_15 ?_
  refine c_J (W0 := [(t, .inr (1, [.ref bt, .int 0, .int u1.1, .int (nI k)])), (bt, .inl (cB, 16, .inl u1.2))]) (wr := [(x, .inr (2, [.ref bx, .ref px, .ref t, .int ak, .int su, .int gt, .int lf, .int rf, .int kn])), (bx, .inl (cI, 6, .inl f)), (px, .inl (cI, 2, .inl g))]) (wsN := fun u2 => [(x, .inr (2, [.ref bx, .ref px, .ref t, .int ak, .int su, .int gt, .int lf, .int rf, .int kn])), (bx, .inl (cI, 6, .inl f)), (px, .inl (cI, 2, .inl g)), (t, .inr (1, [.ref bt, .int 0, .int u1.1, .int (nI k)])), (bt, .inl (cB, 16, .inl u1.2)), (u2.1, .inr (0, [.ref u2.2.1, .int 0, .int 0, .int 0])), (u2.2.1, .inl (cB, k, .inl u2.2.2))]) (va_runV FX ((j_J4_toString_0e30d l D cI cB t bt k u1.1 u1.2 hk hp_1.1) H.size) (my_cwV FX.2.2.2.2 mi_J4_toString_0e30d ml_RX0_94 (RMok.mk)) ⟨PJ.blind zC_ok, (my_recv (i0 := 3) (ci := 1) hK hP rfl rfl rfl), fun U hU hW => ⟨rfl, my_preJ zC_ok hz.1 hS hA hK hP hD [3, 4] rfl rfl U hU hW⟩⟩ rfl rfl hl.1 rfl (lv_room (Nat.le_of_ble_eq_true rfl)) dX0_told_18 (by decide)) hP hD hS hA [3, 4] rfl [0, 1, 2] rfl (by decide) [0, 1, 2, 3, 4, 5, 6] (fun _ => rfl) rfl (fun u2 H locs hp_2 hP hD hS => ?_)
  have hP : va_P D KL [(x, .inr (2, [.ref bx, .ref px, .ref t, .int ak, .int su, .int gt, .int lf, .int rf, .int kn])), (bx, .inl (cI, 6, .inl f)), (px, .inl (cI, 2, .inl g)), (t, .inr (1, [.ref bt, .int 0, .int u1.1, .int (nI k)])), (bt, .inl (cB, 16, .inl u1.2)), (u2.1, .inr (0, [.ref u2.2.1, .int 0, .int 0, .int 0])), (u2.2.1, .inl (cB, k, .inl u2.2.2))] H := hP
  have hD : va_D A [(x, .inr (2, [.ref bx, .ref px, .ref t, .int ak, .int su, .int gt, .int lf, .int rf, .int kn])), (bx, .inl (cI, 6, .inl f)), (px, .inl (cI, 2, .inl g)), (t, .inr (1, [.ref bt, .int 0, .int u1.1, .int (nI k)])), (bt, .inl (cB, 16, .inl u1.2)), (u2.1, .inr (0, [.ref u2.2.1, .int 0, .int 0, .int 0])), (u2.2.1, .inl (cB, k, .inl u2.2.2))] := hD
  refine W.eq (g2 := F0 m 21 ls [.ref u2.1]) rfl ?_
  exact retJa (u1.1, u1.2, u2.1, u2.2.1, u2.2.2) FX hr (Or.inl ⟨_, rfl⟩) hlk dX0_told_21 hP hK hD hS (by decide) (by decide) rfl ⟨hp_1.1, fun j hj => (hp_2.2 j hj).trans (hp_1.2 j hj)⟩
def y_in (f : Nat → Int32) (b o : Int32) (d : Int64) : Nat → Int64
  | 0 => d
  | n + 1 => v_X0_mixed (y_in f b o d n) (v_X0_compare b o (nI n) f).toInt64
def y_out (f : Nat → Int32) (b : Int32) (d : Int64) : Nat → Int64
  | 0 => d
  | n + 1 => y_in f b (nI n) (y_out f b d n) 3
def y_box (f : Nat → Int32) (b : Int32) (d : Int64) : Int64 :=
  y_out f b (v_X0_mixed (v_X0_mixed (v_X0_mixed d (v_X0_fullness (f b.toNatClampNeg)).toInt64) (v_X0_numberOrZero (f b.toNatClampNeg)).toInt64) (tlen (f b.toNatClampNeg)).toInt64) 6
set_option maxRecDepth 100000 in
set_option maxHeartbeats 4000000 in
theorem L_X0_mixedWithBox_71 {p : Program} {l : Launch} {e : Env} {R : Room} {s : State} {m : MethodId} {args : Array Value} {below : List Frame} {meth : Method} {c : Code} {H : Heap} {locs : List Loc} {cells slots : Nat} {Q : State → Prop} (D : va_G) (cI cB : ClassId) (x bx px tx : Nat) (f g : Nat → Int32) (ak su gt lf rf kn : Int32) (d1 : Int64) (b1 : Int32) (i : Nat) (hlt0 : i < 6) (hi : vp_in b1 6) (d0 : Int64) (hRf : 3 ≤ R.frames) (hRl : 71 ≤ R.locals) (hf : cells ≤ R.cells ∧ slots ≤ R.slots) (FX : CallFix p m c cX0_mixedWithBox 8 s args bigW RX0) (hK : va_K D KL (TY cI cB) s) (hP : va_P D KL (wX cI x bx px tx f g ak su gt lf rf kn) H)
    (kk : ∀ ls : Array Slot, lv_has ls 8 [(7, .int 3), (0, .ref x), (1, .long d1), (3, .int b1), (4, .long (y_in f b1 (nI i) d0 (3))), (6, .int (nI i))] → W p l e R s m args below meth c H locs cells slots Q (F0 m 100 ls [])) : ∀ (j k : Nat), k + j = 3 → ∀ ls : Array Slot, lv_has ls 8 [(7, .int (nI k)), (0, .ref x), (1, .long d1), (3, .int b1), (4, .long (y_in f b1 (nI i) d0 (k))), (6, .int (nI i))] → W p l e R s m args below meth c H locs cells slots Q (F0 m 71 ls []) := by
  intro j
  induction j with
  | zero =>
    intro k hij ls hl
    obtain rfl : k = 3 := by omega
    have hl : lv_has ls 8 [(7, .int 3), (0, .ref x), (1, .long d1), (3, .int b1), (4, .long (y_in f b1 (nI i) d0 (3))), (6, .int (nI i))] := hl
    refine lv_iload FX.1 FX.2.1 dX0_mixedWithBox_71 (lv_at hl 0 rfl) ?_
    refine lv_iconst (v := 3) FX.1 FX.2.1 dX0_mixedWithBox_73 (by decide) ?_
    refine lv_icmp_ge (tgt := 100) FX.1 FX.2.1 dX0_mixedWithBox_74 (by decide) (fun c_101 => ?_) (fun c_101 => ?_)
    · exact kk ls (lv_sub hl [0, 1, 2, 3, 4, 5] rfl)
    · exact absurd c_101 (by decide)
  | succ j ih =>
    intro k hij ls hl
    have hlt : k < 3 := by omega
    refine lv_iload FX.1 FX.2.1 dX0_mixedWithBox_71 (lv_at hl 0 rfl) ?_
    refine lv_iconst (v := 3) FX.1 FX.2.1 dX0_mixedWithBox_73 (by decide) ?_
    refine lv_icmp_ge (tgt := 100) FX.1 FX.2.1 dX0_mixedWithBox_74 (by decide) (fun c_1 => ?_) (fun c_1 => ?_)
    · exact absurd c_1 (nI_ge (b := 3) hlt (by decide))
    · refine lv_lload FX.1 FX.2.1 dX0_mixedWithBox_77 (lv_at hl 4 rfl) ?_
      refine lv_aload_n FX.1 FX.2.1 dX0_mixedWithBox_79 rfl (lv_at hl 1 rfl) ?_
      refine lv_iload_n FX.1 FX.2.1 dX0_mixedWithBox_80 rfl (lv_at hl 3 rfl) ?_
      refine lv_iload FX.1 FX.2.1 dX0_mixedWithBox_81 (lv_at hl 5 rfl) ?_
      refine lv_iload FX.1 FX.2.1 dX0_mixedWithBox_83 (lv_at hl 0 rfl) ?_
      have q_2 : (e_X0_compare b1 (nI i) (nI k)) = 0 := (e0_X0_compare hi (vp_in_nI hlt0 (by decide)) (vp_in_nI hlt (by decide)))
      refine c_RDV (i0 := 0) (ci := 2) FX (r_X0_compare l D cI cB x bx px tx f g ak su gt lf rf kn b1 (nI i) (nI k) q_2) mi_X0_compare rfl ml_RX0_222 (RMk.mk hRf hRl) hl.1 rfl (Nat.le_of_ble_eq_true rfl) dX0_mixedWithBox_85 hf hK hP [0, 1, 2] rfl rfl rfl rfl ?_
      refine lv_i2l (v := (v_X0_compare b1 (nI i) (nI k) f).toInt64) FX.1 FX.2.1 dX0_mixedWithBox_88 rfl ?_
      refine c_RDls FX (r_X0_mixed l D cI cB (y_in f b1 (nI i) d0 (k)) ((v_X0_compare b1 (nI i) (nI k) f).toInt64)) mi_X0_mixed rfl ml_RX0_148 (RMk.mk hRf hRl) hl.1 rfl (Nat.le_of_ble_eq_true rfl) dX0_mixedWithBox_89 hf hK hP [] rfl ?_
      refine lv_lstore (lv' := [(4, .long (v_X0_mixed (y_in f b1 (nI i) d0 (k)) ((v_X0_compare b1 (nI i) (nI k) f).toInt64))), (7, .int (nI k)), (0, .ref x), (1, .long d1), (3, .int b1), (6, .int (nI i))]) FX.1 FX.2.1 dX0_mixedWithBox_92 hl (by decide) rfl (fun ls hl => ?_)
      refine lv_iinc (v := nI (k + 1)) (lv' := [(7, .int (nI (k + 1))), (4, .long (v_X0_mixed (y_in f b1 (nI i) d0 (k)) ((v_X0_compare b1 (nI i) (nI k) f).toInt64))), (0, .ref x), (1, .long d1), (3, .int b1), (6, .int (nI i))]) FX.1 FX.2.1 dX0_mixedWithBox_94 hl (k := 1) rfl (by exact nI_1 _) (by decide) rfl (fun ls hl => ?_)
      refine lv_goto (tgt := 71) FX.1 FX.2.1 dX0_mixedWithBox_97 (by decide) ?_
      exact ih (k + 1) (by omega) ls (lv_sub hl [0, 2, 3, 4, 1, 5] rfl)
set_option maxRecDepth 100000 in
set_option maxHeartbeats 4000000 in
theorem L_X0_mixedWithBox_61 {p : Program} {l : Launch} {e : Env} {R : Room} {s : State} {m : MethodId} {args : Array Value} {below : List Frame} {meth : Method} {c : Code} {H : Heap} {locs : List Loc} {cells slots : Nat} {Q : State → Prop} (D : va_G) (cI cB : ClassId) (x bx px tx : Nat) (f g : Nat → Int32) (ak su gt lf rf kn : Int32) (d1 : Int64) (b1 : Int32) (hi : vp_in b1 6) (d9 : Int64) (hRf : 3 ≤ R.frames) (hRl : 71 ≤ R.locals) (hf : cells ≤ R.cells ∧ slots ≤ R.slots) (FX : CallFix p m c cX0_mixedWithBox 8 s args bigW RX0) (hK : va_K D KL (TY cI cB) s) (hP : va_P D KL (wX cI x bx px tx f g ak su gt lf rf kn) H)
    (kk : ∀ ls : Array Slot, lv_has ls 8 [(6, .int 6), (0, .ref x), (1, .long d1), (3, .int b1), (4, .long (y_out f b1 d9 (6)))] → W p l e R s m args below meth c H locs cells slots Q (F0 m 106 ls [])) : ∀ (j i : Nat), i + j = 6 → ∀ ls : Array Slot, lv_has ls 8 [(6, .int (nI i)), (0, .ref x), (1, .long d1), (3, .int b1), (4, .long (y_out f b1 d9 (i)))] → W p l e R s m args below meth c H locs cells slots Q (F0 m 61 ls []) := by
  intro j
  induction j with
  | zero =>
    intro i hij ls hl
    obtain rfl : i = 6 := by omega
    have hl : lv_has ls 8 [(6, .int 6), (0, .ref x), (1, .long d1), (3, .int b1), (4, .long (y_out f b1 d9 (6)))] := hl
    refine lv_iload FX.1 FX.2.1 dX0_mixedWithBox_61 (lv_at hl 0 rfl) ?_
    refine lv_bipush (v := 6) FX.1 FX.2.1 dX0_mixedWithBox_63 (by decide) ?_
    refine lv_icmp_ge (tgt := 106) FX.1 FX.2.1 dX0_mixedWithBox_65 (by decide) (fun c_101 => ?_) (fun c_101 => ?_)
    · exact kk ls (lv_sub hl [0, 1, 2, 3, 4] rfl)
    · exact absurd c_101 (by decide)
  | succ j ih =>
    intro i hij ls hl
    have hlt : i < 6 := by omega
    refine lv_iload FX.1 FX.2.1 dX0_mixedWithBox_61 (lv_at hl 0 rfl) ?_
    refine lv_bipush (v := 6) FX.1 FX.2.1 dX0_mixedWithBox_63 (by decide) ?_
    refine lv_icmp_ge (tgt := 106) FX.1 FX.2.1 dX0_mixedWithBox_65 (by decide) (fun c_1 => ?_) (fun c_1 => ?_)
    · exact absurd c_1 (nI_ge (b := 6) hlt (by decide))
    · refine lv_iconst (v := 0) FX.1 FX.2.1 dX0_mixedWithBox_68 (by decide) ?_
      refine lv_istore (lv' := [(7, .int 0), (6, .int (nI i)), (0, .ref x), (1, .long d1), (3, .int b1), (4, .long (y_out f b1 d9 (i)))]) FX.1 FX.2.1 dX0_mixedWithBox_69 hl (by decide) rfl (fun ls hl => ?_)
      refine L_X0_mixedWithBox_71 D cI cB x bx px tx f g ak su gt lf rf kn d1 b1 i hlt hi (y_out f b1 d9 (i)) (Nat.le_trans (Nat.le_of_ble_eq_true rfl) hRf) (Nat.le_trans (Nat.le_of_ble_eq_true rfl) hRl) hf FX hK hP (fun ls hl => ?_) 3 0 (by omega) ls (lv_sub hl [0, 2, 3, 4, 5, 1] rfl)
      refine lv_iinc (v := nI (i + 1)) (lv' := [(6, .int (nI (i + 1))), (7, .int 3), (0, .ref x), (1, .long d1), (3, .int b1), (4, .long (y_in f b1 (nI i) (y_out f b1 d9 (i)) (3)))]) FX.1 FX.2.1 dX0_mixedWithBox_100 hl (k := 5) rfl (by exact nI_1 _) (by decide) rfl (fun ls hl => ?_)
      refine lv_goto (tgt := 61) FX.1 FX.2.1 dX0_mixedWithBox_103 (by decide) ?_
      exact ih (i + 1) (by omega) ls (lv_sub hl [0, 2, 3, 4, 5] rfl)
set_option maxRecDepth 100000 in
set_option maxHeartbeats 4000000 in
theorem j_X0_mixedWithBox (l : Launch) (D : va_G) (cI cB : ClassId) (x bx px t bt : Nat) (f g : Nat → Int32) (ak su gt lf rf kn ml cn : Int32) (bs : Nat → Int32) (d1 : Int64) (b1 : Int32) (to tt : Nat) (go gu : Nat → Int32) (na nv : Nat) (nf : Nat → Int32) (hf : sb_Fit nf) (hb : sb_Fit bs) (hc : 0 ≤ cn) (ho6 : ok6 f) (hi : vp_in b1 6) : JW (S := Int32 × (Nat → Int32)) l yX0_mixedWithBox cX0_mixedWithBox 8 (some .long) ({ frames := 6, cells := 0, slots := 0, locals := 169 } : Room) D cI cB [.ref x, .long d1, .int b1] [(x, .inr (2, [.ref bx, .ref px, .ref t, .int ak, .int su, .int gt, .int lf, .int rf, .int kn])), (bx, .inl (cI, 6, .inl f)), (px, .inl (cI, 2, .inl g)), (t, .inr (1, [.ref bt, .int 0, .int ml, .int cn])), (bt, .inl (cB, 16, .inl bs))] (zAnd zC (zAnd (zAnd (zDg "DigitOnes" to go) (zDg "DigitTens" tt gu)) (zAnd (zR RX0 201 "none" na) (zS na nv 4 nf)))) (fun u => some (.long (y_box f b1 d1))) (fun u => sb_Fit u.2) (fun u => [(x, .inr (2, [.ref bx, .ref px, .ref t, .int ak, .int su, .int gt, .int lf, .int rf, .int kn])), (bx, .inl (cI, 6, .inl f)), (px, .inl (cI, 2, .inl g)), (t, .inr (1, [.ref bt, .int 0, .int u.1, .int (tlen (f b1.toNatClampNeg))])), (bt, .inl (cB, 16, .inl u.2))]) 0 0 := by
  refine bodyJ (by decide +kernel) (Nat.le_of_ble_eq_true rfl) (fun p e s m args below meth c ls A ZZ => ?_)
  obtain ⟨FX, hr, hlk, hK, hP, hD, hS, hA, hz, hnm, hl⟩ := ZZ
  have hl : lv_has ls 8 [(0, .ref x), (1, .long d1), (3, .int b1)] := hl
  have hP : va_P D KL [(x, .inr (2, [.ref bx, .ref px, .ref t, .int ak, .int su, .int gt, .int lf, .int rf, .int kn])), (bx, .inl (cI, 6, .inl f)), (px, .inl (cI, 2, .inl g)), (t, .inr (1, [.ref bt, .int 0, .int ml, .int cn])), (bt, .inl (cB, 16, .inl bs))] s.heap := hP
  refine lv_aload_n FX.1 FX.2.1 dX0_mixedWithBox_0 rfl (lv_at hl 0 rfl) ?_
  refine lv_aload_n FX.1 FX.2.1 dX0_mixedWithBox_1 rfl (lv_at hl 0 rfl) ?_
  refine va_get (D := D) (ci := 2) (v := .ref bx) (C := RX0) (T := TX0) (N := 9) FX.1 FX.2.1 FX.2.2.2.2 inX0 FX.2.2.2.1 hK hP 0 rfl rfl 0 (by decide) (FX.2.2.2.2 _ fl_RX0_9) (fun _ h9 => h9) rfl dX0_mixedWithBox_2 ?_
  refine lv_iload_n FX.1 FX.2.1 dX0_mixedWithBox_5 rfl (lv_at hl 2 rfl) ?_
  refine p_iald (v := f b1.toNatClampNeg) FX hK hP 1 rfl hi dX0_mixedWithBox_6 rfl ?_
  refine c_J (W0 := [(x, .inr (2, [.ref bx, .ref px, .ref t, .int ak, .int su, .int gt, .int lf, .int rf, .int kn])), (bx, .inl (cI, 6, .inl f)), (px, .inl (cI, 2, .inl g)), (t, .inr (1, [.ref bt, .int 0, .int ml, .int cn])), (bt, .inl (cB, 16, .inl bs))]) (wr := []) (wsN := fun u1 => [(x, .inr (2, [.ref bx, .ref px, .ref t, .int ak, .int su, .int gt, .int lf, .int rf, .int kn])), (bx, .inl (cI, 6, .inl f)), (px, .inl (cI, 2, .inl g)), (t, .inr (1, [.ref bt, .int 0, .int u1.1, .int (tlen (f b1.toNatClampNeg))])), (bt, .inl (cB, 16, .inl u1.2))]) (va_runV FX ((j_X0_tell l D cI cB x bx px t bt f g ak su gt lf rf kn ml cn bs (f b1.toNatClampNeg) to tt go gu na nv nf hf hb hc (ok_at ho6 hi)) s.heap.size) (my_cwV FX.2.2.2.2 mi_X0_tell ml_RX0_91 (RMok.mk)) ⟨PJ.blind (zAnd_ok zC_ok (zAnd_ok (zAnd_ok zDg_ok zDg_ok) (zAnd_ok zR_ok zS_ok))), (my_recv (i0 := 0) (ci := 2) hK hP rfl rfl rfl), fun U hU hW => ⟨rfl, my_preJ (zAnd_ok zC_ok (zAnd_ok (zAnd_ok zDg_ok zDg_ok) (zAnd_ok zR_ok zS_ok))) hz hS hA hK hP hD [0, 1, 2, 3, 4] rfl rfl U hU hW⟩⟩ rfl rfl hl.1 rfl (lv_room (Nat.le_of_ble_eq_true rfl)) dX0_mixedWithBox_7 (by decide)) hP hD hS hA [0, 1, 2, 3, 4] rfl [] rfl (by decide) [0, 1, 2, 3, 4] (fun _ => rfl) rfl (fun u1 H locs hp_1 hP hD hS => ?_)
  have hP : va_P D KL [(x, .inr (2, [.ref bx, .ref px, .ref t, .int ak, .int su, .int gt, .int lf, .int rf, .int kn])), (bx, .inl (cI, 6, .inl f)), (px, .inl (cI, 2, .inl g)), (t, .inr (1, [.ref bt, .int 0, .int u1.1, .int (tlen (f b1.toNatClampNeg))])), (bt, .inl (cB, 16, .inl u1.2))] H := hP
  have hD : va_D A [(x, .inr (2, [.ref bx, .ref px, .ref t, .int ak, .int su, .int gt, .int lf, .int rf, .int kn])), (bx, .inl (cI, 6, .inl f)), (px, .inl (cI, 2, .inl g)), (t, .inr (1, [.ref bt, .int 0, .int u1.1, .int (tlen (f b1.toNatClampNeg))])), (bt, .inl (cB, 16, .inl u1.2))] := hD
  refine W.eq (g2 := F0 m 10 ls []) rfl ?_
  refine lv_lload_n FX.1 FX.2.1 dX0_mixedWithBox_10 rfl (lv_at hl 1 rfl) ?_
  refine lv_aload_n FX.1 FX.2.1 dX0_mixedWithBox_11 rfl (lv_at hl 0 rfl) ?_
  refine va_get (D := D) (ci := 2) (v := .ref bx) (C := RX0) (T := TX0) (N := 9) FX.1 FX.2.1 FX.2.2.2.2 inX0 FX.2.2.2.1 hK hP 0 rfl rfl 0 (by decide) (FX.2.2.2.2 _ fl_RX0_9) (fun _ h9 => h9) rfl dX0_mixedWithBox_12 ?_
  refine lv_iload_n FX.1 FX.2.1 dX0_mixedWithBox_15 rfl (lv_at hl 2 rfl) ?_
  refine p_iald (v := f b1.toNatClampNeg) FX hK hP 1 rfl hi dX0_mixedWithBox_16 rfl ?_
  refine c_RDs FX (r_X0_fullness l D cI cB (f b1.toNatClampNeg)) mi_X0_fullness rfl ml_RX0_30 (RMok.mk) hl.1 rfl (Nat.le_of_ble_eq_true rfl) dX0_mixedWithBox_17 (by decide) hK hP [] rfl ?_
  refine lv_i2l (v := (v_X0_fullness (f b1.toNatClampNeg)).toInt64) FX.1 FX.2.1 dX0_mixedWithBox_20 rfl ?_
  refine c_RDls FX (r_X0_mixed l D cI cB d1 ((v_X0_fullness (f b1.toNatClampNeg)).toInt64)) mi_X0_mixed rfl ml_RX0_148 (RMok.mk) hl.1 rfl (Nat.le_of_ble_eq_true rfl) dX0_mixedWithBox_21 (by decide) hK hP [] rfl ?_
  refine lv_lstore (lv' := [(4, .long (v_X0_mixed d1 ((v_X0_fullness (f b1.toNatClampNeg)).toInt64))), (0, .ref x), (1, .long d1), (3, .int b1)]) FX.1 FX.2.1 dX0_mixedWithBox_24 hl (by decide) rfl (fun ls hl => ?_)
  refine lv_lload FX.1 FX.2.1 dX0_mixedWithBox_26 (lv_at hl 0 rfl) ?_
  refine lv_aload_n FX.1 FX.2.1 dX0_mixedWithBox_28 rfl (lv_at hl 1 rfl) ?_
  refine va_get (D := D) (ci := 2) (v := .ref bx) (C := RX0) (T := TX0) (N := 9) FX.1 FX.2.1 FX.2.2.2.2 inX0 FX.2.2.2.1 hK hP 0 rfl rfl 0 (by decide) (FX.2.2.2.2 _ fl_RX0_9) (fun _ h9 => h9) rfl dX0_mixedWithBox_29 ?_
  refine lv_iload_n FX.1 FX.2.1 dX0_mixedWithBox_32 rfl (lv_at hl 3 rfl) ?_
  refine p_iald (v := f b1.toNatClampNeg) FX hK hP 1 rfl hi dX0_mixedWithBox_33 rfl ?_
  refine c_RDs FX (r_X0_numberOrZero l D cI cB (f b1.toNatClampNeg)) mi_X0_numberOrZero rfl ml_RX0_82 (RMok.mk) hl.1 rfl (Nat.le_of_ble_eq_true rfl) dX0_mixedWithBox_34 (by decide) hK hP [] rfl ?_
  refine lv_i2l (v := (v_X0_numberOrZero (f b1.toNatClampNeg)).toInt64) FX.1 FX.2.1 dX0_mixedWithBox_37 rfl ?_
  refine c_RDls FX (r_X0_mixed l D cI cB (v_X0_mixed d1 ((v_X0_fullness (f b1.toNatClampNeg)).toInt64)) ((v_X0_numberOrZero (f b1.toNatClampNeg)).toInt64)) mi_X0_mixed rfl ml_RX0_148 (RMok.mk) hl.1 rfl (Nat.le_of_ble_eq_true rfl) dX0_mixedWithBox_38 (by decide) hK hP [] rfl ?_
  refine lv_lstore (lv' := [(4, .long (v_X0_mixed (v_X0_mixed d1 ((v_X0_fullness (f b1.toNatClampNeg)).toInt64)) ((v_X0_numberOrZero (f b1.toNatClampNeg)).toInt64))), (0, .ref x), (1, .long d1), (3, .int b1)]) FX.1 FX.2.1 dX0_mixedWithBox_41 hl (by decide) rfl (fun ls hl => ?_)
  refine lv_lload FX.1 FX.2.1 dX0_mixedWithBox_43 (lv_at hl 0 rfl) ?_
  refine lv_aload_n FX.1 FX.2.1 dX0_mixedWithBox_45 rfl (lv_at hl 1 rfl) ?_
  refine va_get (D := D) (ci := 2) (v := .ref t) (C := RX0) (T := TX0) (N := 9) FX.1 FX.2.1 FX.2.2.2.2 inX0 FX.2.2.2.1 hK hP 0 rfl rfl 2 (by decide) (FX.2.2.2.2 _ fl_RX0_19) (fun _ h9 => h9) rfl dX0_mixedWithBox_46 ?_
  refine c_J (W0 := [(t, .inr (1, [.ref bt, .int 0, .int u1.1, .int (tlen (f b1.toNatClampNeg))])), (bt, .inl (cB, 16, .inl u1.2))]) (wr := [(x, .inr (2, [.ref bx, .ref px, .ref t, .int ak, .int su, .int gt, .int lf, .int rf, .int kn])), (bx, .inl (cI, 6, .inl f)), (px, .inl (cI, 2, .inl g))]) (wsN := fun _ => [(x, .inr (2, [.ref bx, .ref px, .ref t, .int ak, .int su, .int gt, .int lf, .int rf, .int kn])), (bx, .inl (cI, 6, .inl f)), (px, .inl (cI, 2, .inl g)), (t, .inr (1, [.ref bt, .int 0, .int u1.1, .int (tlen (f b1.toNatClampNeg))])), (bt, .inl (cB, 16, .inl u1.2))]) (va_runV FX ((j_J4_length_8abf5 l D cI cB t bt u1.1 (tlen (f b1.toNatClampNeg)) u1.2) H.size) (my_cwV FX.2.2.2.2 mi_J4_length_8abf5 ml_RX0_227 (RMok.mk)) ⟨PJ.blind zT_ok, (my_recv (i0 := 3) (ci := 1) hK hP rfl rfl rfl), fun U hU hW => ⟨rfl, my_preJ zT_ok trivial hS hA hK hP hD [3, 4] rfl rfl U hU hW⟩⟩ rfl rfl hl.1 rfl (lv_room (Nat.le_of_ble_eq_true rfl)) dX0_mixedWithBox_49 (by decide)) hP hD hS hA [3, 4] rfl [0, 1, 2] rfl (by decide) [0, 1, 2, 3, 4] (fun _ => rfl) rfl (fun u2 H locs hp_2 hP hD hS => ?_)
  have hP : va_P D KL [(x, .inr (2, [.ref bx, .ref px, .ref t, .int ak, .int su, .int gt, .int lf, .int rf, .int kn])), (bx, .inl (cI, 6, .inl f)), (px, .inl (cI, 2, .inl g)), (t, .inr (1, [.ref bt, .int 0, .int u1.1, .int (tlen (f b1.toNatClampNeg))])), (bt, .inl (cB, 16, .inl u1.2))] H := hP
  have hD : va_D A [(x, .inr (2, [.ref bx, .ref px, .ref t, .int ak, .int su, .int gt, .int lf, .int rf, .int kn])), (bx, .inl (cI, 6, .inl f)), (px, .inl (cI, 2, .inl g)), (t, .inr (1, [.ref bt, .int 0, .int u1.1, .int (tlen (f b1.toNatClampNeg))])), (bt, .inl (cB, 16, .inl u1.2))] := hD
  refine W.eq (g2 := F0 m 52 ls [.int (tlen (f b1.toNatClampNeg)), .long (v_X0_mixed (v_X0_mixed d1 ((v_X0_fullness (f b1.toNatClampNeg)).toInt64)) ((v_X0_numberOrZero (f b1.toNatClampNeg)).toInt64))]) rfl ?_
  refine lv_i2l (v := (tlen (f b1.toNatClampNeg)).toInt64) FX.1 FX.2.1 dX0_mixedWithBox_52 rfl ?_
  refine c_RDls FX (r_X0_mixed l D cI cB (v_X0_mixed (v_X0_mixed d1 ((v_X0_fullness (f b1.toNatClampNeg)).toInt64)) ((v_X0_numberOrZero (f b1.toNatClampNeg)).toInt64)) ((tlen (f b1.toNatClampNeg)).toInt64)) mi_X0_mixed rfl ml_RX0_148 (RMok.mk) hl.1 rfl (Nat.le_of_ble_eq_true rfl) dX0_mixedWithBox_53 (by decide) hK hP [] rfl ?_
  refine lv_lstore (lv' := [(4, .long (v_X0_mixed (v_X0_mixed (v_X0_mixed d1 ((v_X0_fullness (f b1.toNatClampNeg)).toInt64)) ((v_X0_numberOrZero (f b1.toNatClampNeg)).toInt64)) ((tlen (f b1.toNatClampNeg)).toInt64))), (0, .ref x), (1, .long d1), (3, .int b1)]) FX.1 FX.2.1 dX0_mixedWithBox_56 hl (by decide) rfl (fun ls hl => ?_)
  refine lv_iconst (v := 0) FX.1 FX.2.1 dX0_mixedWithBox_58 (by decide) ?_
  refine lv_istore (lv' := [(6, .int 0), (4, .long (v_X0_mixed (v_X0_mixed (v_X0_mixed d1 ((v_X0_fullness (f b1.toNatClampNeg)).toInt64)) ((v_X0_numberOrZero (f b1.toNatClampNeg)).toInt64)) ((tlen (f b1.toNatClampNeg)).toInt64))), (0, .ref x), (1, .long d1), (3, .int b1)]) FX.1 FX.2.1 dX0_mixedWithBox_59 hl (by decide) rfl (fun ls hl => ?_)
  refine L_X0_mixedWithBox_61 D cI cB x bx px t f g ak su gt lf rf kn d1 b1 hi (v_X0_mixed (v_X0_mixed (v_X0_mixed d1 ((v_X0_fullness (f b1.toNatClampNeg)).toInt64)) ((v_X0_numberOrZero (f b1.toNatClampNeg)).toInt64)) ((tlen (f b1.toNatClampNeg)).toInt64)) (Nat.le_of_ble_eq_true rfl) (Nat.le_of_ble_eq_true rfl) (by decide) FX hK (hP.sub (ws' := (wX cI x bx px t f g ak su gt lf rf kn)) [0, 1, 2] rfl) (fun ls hl => ?_) 6 0 (by omega) ls (lv_sub hl [0, 2, 3, 4, 1] rfl)
  refine lv_lload FX.1 FX.2.1 dX0_mixedWithBox_106 (lv_at hl 4 rfl) ?_
  exact retJl (u1.1, u1.2) FX hr hlk dX0_mixedWithBox_108 hP hK hD hS (by decide) (by decide) rfl hp_1

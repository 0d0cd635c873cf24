set_option maxRecDepth 20000 in
theorem fl_RX2_17 : Cond.fieldLink RX2 17 "MaybehallModel" "thrown" "I" ∈ bigW := bt4 196 rfl rfl
set_option maxRecDepth 20000 in
theorem fl_RX2_29 : Cond.fieldLink RX2 29 "MaybehallModel" "refused" "I" ∈ bigW := bt4 203 rfl rfl
set_option maxRecDepth 20000 in
theorem fl_RX2_10 : Cond.fieldLink RX2 10 "MaybehallModel" "boxes" "[I" ∈ bigW := bt4 197 rfl rfl
set_option maxRecDepth 20000 in
theorem fl_RX2_55 : Cond.fieldLink RX2 55 "MaybehallModel" "asked" "I" ∈ bigW := bt4 199 rfl rfl
set_option maxRecDepth 20000 in
theorem fl_RX2_71 : Cond.fieldLink RX2 71 "MaybehallModel" "got" "I" ∈ bigW := bt4 201 rfl rfl
set_option maxRecDepth 20000 in
theorem fl_RX2_74 : Cond.fieldLink RX2 74 "MaybehallModel" "sum" "I" ∈ bigW := bt4 200 rfl rfl
set_option maxRecDepth 20000 in
theorem ml_RX2_88 : Cond.methodLink RX2 88 yX2_codeTold ∈ bigW := bt5 114 rfl rfl
set_option maxRecDepth 20000 in
theorem mi_X2_codeTold : MIs yX2_codeTold cX2_codeTold 1 (some .int) 1 := ⟨⟨bt5 116 rfl rfl, bt1 6 rfl rfl, by decide, by decide, by decide +kernel⟩, bt5 115 rfl rfl⟩
set_option maxRecDepth 20000 in
theorem ml_RX2_40 : Cond.methodLink RX2 40 yX2_isNone ∈ bigW := bt4 232 rfl rfl
set_option maxRecDepth 20000 in
theorem mi_X2_isNone : MIs yX2_isNone cX2_isNone 1 (some .boolean) 1 := ⟨⟨bt4 234 rfl rfl, bt1 6 rfl rfl, by decide, by decide, by decide +kernel⟩, bt4 233 rfl rfl⟩
set_option maxRecDepth 20000 in
theorem ml_RX2_43 : Cond.methodLink RX2 43 yX2_fails ∈ bigW := bt5 1 rfl rfl
set_option maxRecDepth 20000 in
theorem mi_X2_fails : MIv RX2 yX2_fails cX2_fails 3 (some .boolean) 2 := ⟨⟨bt5 4 rfl rfl, bt1 6 rfl rfl, by decide, by decide, by decide +kernel⟩, bt5 3 rfl rfl, bt0 11 rfl rfl⟩
theorem dX2_become_0 : decode cX2_become 0 = .ok (.aload_n 0, 1) := by decide +kernel
theorem dX2_become_1 : decode cX2_become 1 = .ok (.getfield 10, 3) := by decide +kernel
theorem dX2_become_4 : decode cX2_become 4 = .ok (.iload_n 1, 1) := by decide +kernel
theorem dX2_become_5 : decode cX2_become 5 = .ok (.iload_n 2, 1) := by decide +kernel
theorem dX2_become_6 : decode cX2_become 6 = .ok (.iastore, 1) := by decide +kernel
theorem dX2_become_7 : decode cX2_become 7 = .ok (.iload_n 2, 1) := by decide +kernel
theorem dX2_become_8 : decode cX2_become 8 = .ok (.ldc 9, 2) := by decide +kernel
theorem dX2_become_10 : decode cX2_become 10 = .ok (.if_icmp .eq 7, 3) := by decide +kernel
theorem dX2_become_13 : decode cX2_become 13 = .ok (.iconst 1, 1) := by decide +kernel
theorem dX2_become_14 : decode cX2_become 14 = .ok (.goto 4, 3) := by decide +kernel
theorem dX2_become_17 : decode cX2_become 17 = .ok (.iconst 0, 1) := by decide +kernel
theorem dX2_become_18 : decode cX2_become 18 = .ok (.invokestatic 32, 3) := by decide +kernel
theorem dX2_become_21 : decode cX2_become 21 = .ok (.ireturn, 1) := by decide +kernel
theorem dX2_codesTold_0 : decode cX2_codesTold 0 = .ok (.bipush 31, 2) := by decide +kernel
theorem dX2_codesTold_2 : decode cX2_codesTold 2 = .ok (.aload_n 0, 1) := by decide +kernel
theorem dX2_codesTold_3 : decode cX2_codesTold 3 = .ok (.getfield 10, 3) := by decide +kernel
theorem dX2_codesTold_6 : decode cX2_codesTold 6 = .ok (.iload_n 1, 1) := by decide +kernel
theorem dX2_codesTold_7 : decode cX2_codesTold 7 = .ok (.iaload, 1) := by decide +kernel
theorem dX2_codesTold_8 : decode cX2_codesTold 8 = .ok (.invokestatic 88, 3) := by decide +kernel
theorem dX2_codesTold_11 : decode cX2_codesTold 11 = .ok (.iadd, 1) := by decide +kernel
theorem dX2_codesTold_12 : decode cX2_codesTold 12 = .ok (.bipush 31, 2) := by decide +kernel
theorem dX2_codesTold_14 : decode cX2_codesTold 14 = .ok (.imul, 1) := by decide +kernel
theorem dX2_codesTold_15 : decode cX2_codesTold 15 = .ok (.aload_n 0, 1) := by decide +kernel
theorem dX2_codesTold_16 : decode cX2_codesTold 16 = .ok (.getfield 10, 3) := by decide +kernel
theorem dX2_codesTold_19 : decode cX2_codesTold 19 = .ok (.iload_n 2, 1) := by decide +kernel
theorem dX2_codesTold_20 : decode cX2_codesTold 20 = .ok (.iaload, 1) := by decide +kernel
theorem dX2_codesTold_21 : decode cX2_codesTold 21 = .ok (.invokestatic 88, 3) := by decide +kernel
theorem dX2_codesTold_24 : decode cX2_codesTold 24 = .ok (.iadd, 1) := by decide +kernel
theorem dX2_codesTold_25 : decode cX2_codesTold 25 = .ok (.bipush 31, 2) := by decide +kernel
theorem dX2_codesTold_27 : decode cX2_codesTold 27 = .ok (.imul, 1) := by decide +kernel
theorem dX2_codesTold_28 : decode cX2_codesTold 28 = .ok (.aload_n 0, 1) := by decide +kernel
theorem dX2_codesTold_29 : decode cX2_codesTold 29 = .ok (.getfield 10, 3) := by decide +kernel
theorem dX2_codesTold_32 : decode cX2_codesTold 32 = .ok (.iload_n 3, 1) := by decide +kernel
theorem dX2_codesTold_33 : decode cX2_codesTold 33 = .ok (.iaload, 1) := by decide +kernel
theorem dX2_codesTold_34 : decode cX2_codesTold 34 = .ok (.invokestatic 88, 3) := by decide +kernel
theorem dX2_codesTold_37 : decode cX2_codesTold 37 = .ok (.iadd, 1) := by decide +kernel
theorem dX2_codesTold_38 : decode cX2_codesTold 38 = .ok (.ireturn, 1) := by decide +kernel
theorem dX2_fails_0 : decode cX2_fails 0 = .ok (.aload_n 0, 1) := by decide +kernel
theorem dX2_fails_1 : decode cX2_fails 1 = .ok (.iload_n 1, 1) := by decide +kernel
theorem dX2_fails_2 : decode cX2_fails 2 = .ok (.ifCond .eq 7, 3) := by decide +kernel
theorem dX2_fails_5 : decode cX2_fails 5 = .ok (.iconst 1, 1) := by decide +kernel
theorem dX2_fails_6 : decode cX2_fails 6 = .ok (.goto 12, 3) := by decide +kernel
theorem dX2_fails_9 : decode cX2_fails 9 = .ok (.iload_n 2, 1) := by decide +kernel
theorem dX2_fails_10 : decode cX2_fails 10 = .ok (.ifCond .eq 7, 3) := by decide +kernel
theorem dX2_fails_13 : decode cX2_fails 13 = .ok (.iconst 2, 1) := by decide +kernel
theorem dX2_fails_14 : decode cX2_fails 14 = .ok (.goto 4, 3) := by decide +kernel
theorem dX2_fails_17 : decode cX2_fails 17 = .ok (.iconst 0, 1) := by decide +kernel
theorem dX2_fails_18 : decode cX2_fails 18 = .ok (.putfield 17, 3) := by decide +kernel
theorem dX2_fails_21 : decode cX2_fails 21 = .ok (.aload_n 0, 1) := by decide +kernel
theorem dX2_fails_22 : decode cX2_fails 22 = .ok (.getfield 17, 3) := by decide +kernel
theorem dX2_fails_25 : decode cX2_fails 25 = .ok (.ifCond .le 7, 3) := by decide +kernel
theorem dX2_fails_28 : decode cX2_fails 28 = .ok (.iconst 1, 1) := by decide +kernel
theorem dX2_fails_29 : decode cX2_fails 29 = .ok (.goto 4, 3) := by decide +kernel
theorem dX2_fails_32 : decode cX2_fails 32 = .ok (.iconst 0, 1) := by decide +kernel
theorem dX2_fails_33 : decode cX2_fails 33 = .ok (.ireturn, 1) := by decide +kernel
theorem dX2_give_0 : decode cX2_give 0 = .ok (.aload_n 0, 1) := by decide +kernel
theorem dX2_give_1 : decode cX2_give 1 = .ok (.dup, 1) := by decide +kernel
theorem dX2_give_2 : decode cX2_give 2 = .ok (.getfield 55, 3) := by decide +kernel
theorem dX2_give_5 : decode cX2_give 5 = .ok (.iconst 1, 1) := by decide +kernel
theorem dX2_give_6 : decode cX2_give 6 = .ok (.iadd, 1) := by decide +kernel
theorem dX2_give_7 : decode cX2_give 7 = .ok (.putfield 55, 3) := by decide +kernel
theorem dX2_give_10 : decode cX2_give 10 = .ok (.aload_n 0, 1) := by decide +kernel
theorem dX2_give_11 : decode cX2_give 11 = .ok (.dup, 1) := by decide +kernel
theorem dX2_give_12 : decode cX2_give 12 = .ok (.getfield 71, 3) := by decide +kernel
theorem dX2_give_15 : decode cX2_give 15 = .ok (.iconst 1, 1) := by decide +kernel
theorem dX2_give_16 : decode cX2_give 16 = .ok (.iadd, 1) := by decide +kernel
theorem dX2_give_17 : decode cX2_give 17 = .ok (.putfield 71, 3) := by decide +kernel
theorem dX2_give_20 : decode cX2_give 20 = .ok (.aload_n 0, 1) := by decide +kernel
theorem dX2_give_21 : decode cX2_give 21 = .ok (.dup, 1) := by decide +kernel
theorem dX2_give_22 : decode cX2_give 22 = .ok (.getfield 74, 3) := by decide +kernel
theorem dX2_give_25 : decode cX2_give 25 = .ok (.iload_n 1, 1) := by decide +kernel
theorem dX2_give_26 : decode cX2_give 26 = .ok (.iadd, 1) := by decide +kernel
theorem dX2_give_27 : decode cX2_give 27 = .ok (.putfield 74, 3) := by decide +kernel
theorem dX2_give_30 : decode cX2_give 30 = .ok (.return_, 1) := by decide +kernel
theorem dX2_isNoTwo_0 : decode cX2_isNoTwo 0 = .ok (.aload_n 0, 1) := by decide +kernel
theorem dX2_isNoTwo_1 : decode cX2_isNoTwo 1 = .ok (.iload_n 1, 1) := by decide +kernel
theorem dX2_isNoTwo_2 : decode cX2_isNoTwo 2 = .ok (.invokestatic 40, 3) := by decide +kernel
theorem dX2_isNoTwo_5 : decode cX2_isNoTwo 5 = .ok (.ifCond .ne 10, 3) := by decide +kernel
theorem dX2_isNoTwo_8 : decode cX2_isNoTwo 8 = .ok (.iload_n 2, 1) := by decide +kernel
theorem dX2_isNoTwo_9 : decode cX2_isNoTwo 9 = .ok (.invokestatic 40, 3) := by decide +kernel
theorem dX2_isNoTwo_12 : decode cX2_isNoTwo 12 = .ok (.ifCond .eq 7, 3) := by decide +kernel
theorem dX2_isNoTwo_15 : decode cX2_isNoTwo 15 = .ok (.iconst 1, 1) := by decide +kernel
theorem dX2_isNoTwo_16 : decode cX2_isNoTwo 16 = .ok (.goto 4, 3) := by decide +kernel
theorem dX2_isNoTwo_19 : decode cX2_isNoTwo 19 = .ok (.iconst 0, 1) := by decide +kernel
theorem dX2_isNoTwo_20 : decode cX2_isNoTwo 20 = .ok (.iload_n 3, 1) := by decide +kernel
theorem dX2_isNoTwo_21 : decode cX2_isNoTwo 21 = .ok (.iconst 0, 1) := by decide +kernel
theorem dX2_isNoTwo_22 : decode cX2_isNoTwo 22 = .ok (.iload 4, 2) := by decide +kernel
theorem dX2_isNoTwo_24 : decode cX2_isNoTwo 24 = .ok (.invokestatic 21, 3) := by decide +kernel
theorem dX2_isNoTwo_27 : decode cX2_isNoTwo 27 = .ok (.ifCond .eq 11, 3) := by decide +kernel
theorem dX2_isNoTwo_30 : decode cX2_isNoTwo 30 = .ok (.iload 5, 2) := by decide +kernel
theorem dX2_isNoTwo_32 : decode cX2_isNoTwo 32 = .ok (.invokestatic 25, 3) := by decide +kernel
theorem dX2_isNoTwo_35 : decode cX2_isNoTwo 35 = .ok (.ifCond .eq 7, 3) := by decide +kernel
theorem dX2_isNoTwo_38 : decode cX2_isNoTwo 38 = .ok (.iconst 1, 1) := by decide +kernel
theorem dX2_isNoTwo_39 : decode cX2_isNoTwo 39 = .ok (.goto 4, 3) := by decide +kernel
theorem dX2_isNoTwo_42 : decode cX2_isNoTwo 42 = .ok (.iconst 0, 1) := by decide +kernel
theorem dX2_isNoTwo_43 : decode cX2_isNoTwo 43 = .ok (.invokevirtual 43, 3) := by decide +kernel
theorem dX2_isNoTwo_46 : decode cX2_isNoTwo 46 = .ok (.ireturn, 1) := by decide +kernel
theorem dX2_refuse_0 : decode cX2_refuse 0 = .ok (.aload_n 0, 1) := by decide +kernel
theorem dX2_refuse_1 : decode cX2_refuse 1 = .ok (.dup, 1) := by decide +kernel
theorem dX2_refuse_2 : decode cX2_refuse 2 = .ok (.getfield 29, 3) := by decide +kernel
theorem dX2_refuse_5 : decode cX2_refuse 5 = .ok (.iconst 1, 1) := by decide +kernel
theorem dX2_refuse_6 : decode cX2_refuse 6 = .ok (.iadd, 1) := by decide +kernel
theorem dX2_refuse_7 : decode cX2_refuse 7 = .ok (.putfield 29, 3) := by decide +kernel
theorem dX2_refuse_10 : decode cX2_refuse 10 = .ok (.sipush (-9999), 3) := by decide +kernel
theorem dX2_refuse_13 : decode cX2_refuse 13 = .ok (.ireturn, 1) := by decide +kernel
theorem dX2_thrown_0 : decode cX2_thrown 0 = .ok (.aload_n 0, 1) := by decide +kernel
theorem dX2_thrown_1 : decode cX2_thrown 1 = .ok (.getfield 17, 3) := by decide +kernel
theorem dX2_thrown_4 : decode cX2_thrown 4 = .ok (.ireturn, 1) := by decide +kernel
theorem dX2_turned_0 : decode cX2_turned 0 = .ok (.iload_n 1, 1) := by decide +kernel
theorem dX2_turned_1 : decode cX2_turned 1 = .ok (.ifCond .ne 9, 3) := by decide +kernel
theorem dX2_turned_4 : decode cX2_turned 4 = .ok (.iload_n 2, 1) := by decide +kernel
theorem dX2_turned_5 : decode cX2_turned 5 = .ok (.iload_n 3, 1) := by decide +kernel
theorem dX2_turned_6 : decode cX2_turned 6 = .ok (.iadd, 1) := by decide +kernel
theorem dX2_turned_7 : decode cX2_turned 7 = .ok (.goto 6, 3) := by decide +kernel
theorem dX2_turned_10 : decode cX2_turned 10 = .ok (.iload_n 2, 1) := by decide +kernel
theorem dX2_turned_11 : decode cX2_turned 11 = .ok (.iload_n 3, 1) := by decide +kernel
theorem dX2_turned_12 : decode cX2_turned 12 = .ok (.isub, 1) := by decide +kernel
theorem dX2_turned_13 : decode cX2_turned 13 = .ok (.istore 4, 2) := by decide +kernel
theorem dX2_turned_15 : decode cX2_turned 15 = .ok (.iload_n 1, 1) := by decide +kernel
theorem dX2_turned_16 : decode cX2_turned 16 = .ok (.tableswitch 76 0 4 #[36, 56, 36, 71, 74], 36) := by decide +kernel
theorem dX2_turned_52 : decode cX2_turned 52 = .ok (.iload 4, 2) := by decide +kernel
theorem dX2_turned_54 : decode cX2_turned 54 = .ok (.iconst 0, 1) := by decide +kernel
theorem dX2_turned_55 : decode cX2_turned 55 = .ok (.sipush 999, 3) := by decide +kernel
theorem dX2_turned_58 : decode cX2_turned 58 = .ok (.invokestatic 21, 3) := by decide +kernel
theorem dX2_turned_61 : decode cX2_turned 61 = .ok (.ifCond .eq 8, 3) := by decide +kernel
theorem dX2_turned_64 : decode cX2_turned 64 = .ok (.iload 4, 2) := by decide +kernel
theorem dX2_turned_66 : decode cX2_turned 66 = .ok (.goto 5, 3) := by decide +kernel
theorem dX2_turned_69 : decode cX2_turned 69 = .ok (.ldc 9, 2) := by decide +kernel
theorem dX2_turned_71 : decode cX2_turned 71 = .ok (.ireturn, 1) := by decide +kernel
theorem dX2_turned_72 : decode cX2_turned 72 = .ok (.iload_n 2, 1) := by decide +kernel
theorem dX2_turned_73 : decode cX2_turned 73 = .ok (.iconst 2, 1) := by decide +kernel
theorem dX2_turned_74 : decode cX2_turned 74 = .ok (.irem, 1) := by decide +kernel
theorem dX2_turned_75 : decode cX2_turned 75 = .ok (.ifCond .ne 9, 3) := by decide +kernel
theorem dX2_turned_78 : decode cX2_turned 78 = .ok (.iload_n 2, 1) := by decide +kernel
theorem dX2_turned_79 : decode cX2_turned 79 = .ok (.iconst 2, 1) := by decide +kernel
theorem dX2_turned_80 : decode cX2_turned 80 = .ok (.idiv, 1) := by decide +kernel
theorem dX2_turned_81 : decode cX2_turned 81 = .ok (.goto 5, 3) := by decide +kernel
theorem dX2_turned_84 : decode cX2_turned 84 = .ok (.ldc 9, 2) := by decide +kernel
theorem dX2_turned_86 : decode cX2_turned 86 = .ok (.ireturn, 1) := by decide +kernel
theorem dX2_turned_87 : decode cX2_turned 87 = .ok (.ldc 9, 2) := by decide +kernel
theorem dX2_turned_89 : decode cX2_turned 89 = .ok (.ireturn, 1) := by decide +kernel
theorem dX2_turned_90 : decode cX2_turned 90 = .ok (.iload_n 2, 1) := by decide +kernel
theorem dX2_turned_91 : decode cX2_turned 91 = .ok (.ireturn, 1) := by decide +kernel
theorem dX2_turned_92 : decode cX2_turned 92 = .ok (.aload_n 0, 1) := by decide +kernel
theorem dX2_turned_93 : decode cX2_turned 93 = .ok (.getfield 10, 3) := by decide +kernel
theorem dX2_turned_96 : decode cX2_turned 96 = .ok (.iload_n 2, 1) := by decide +kernel
theorem dX2_turned_97 : decode cX2_turned 97 = .ok (.bipush 6, 2) := by decide +kernel
theorem dX2_turned_99 : decode cX2_turned 99 = .ok (.irem, 1) := by decide +kernel
theorem dX2_turned_100 : decode cX2_turned 100 = .ok (.bipush 6, 2) := by decide +kernel
theorem dX2_turned_102 : decode cX2_turned 102 = .ok (.iadd, 1) := by decide +kernel
theorem dX2_turned_103 : decode cX2_turned 103 = .ok (.bipush 6, 2) := by decide +kernel
theorem dX2_turned_105 : decode cX2_turned 105 = .ok (.irem, 1) := by decide +kernel
theorem dX2_turned_106 : decode cX2_turned 106 = .ok (.iaload, 1) := by decide +kernel
theorem dX2_turned_107 : decode cX2_turned 107 = .ok (.ireturn, 1) := by decide +kernel
def v_X2_thrown (th : Int32) : Int32 := th
set_option maxRecDepth 100000 in
set_option maxHeartbeats 4000000 in
theorem r_X2_thrown (l : Launch) (D : va_G) (cI cB : ClassId) (o bo po : Nat) (th : Int32) (f g : Nat → Int32) (ak su gt lf rf kn : Int32) : RD l yX2_thrown cX2_thrown 1 (some .int) ({ frames := 0, cells := 0, slots := 0, locals := 0 } : Room) D cI cB [.ref o] (wM cI o bo po th f g ak su gt lf rf kn) (v_X2_thrown th) := by
  refine bodyRD (by decide +kernel) (Nat.le_of_ble_eq_true rfl) (fun p e s m args below meth c ls FX hr hlk hK hP hl => ?_)
  have hl : lv_has ls 1 [(0, .ref o)] := hl
  refine lv_aload_n FX.1 FX.2.1 dX2_thrown_0 rfl (lv_at hl 0 rfl) ?_
  refine va_get (D := D) (ci := 4) (v := .int th) (C := RX2) (T := TX2) (N := 9) FX.1 FX.2.1 FX.2.2.2.2 inX2 FX.2.2.2.1 hK hP 0 rfl rfl 0 (by decide) (FX.2.2.2.2 _ fl_RX2_17) (fun _ h9 => h9) rfl dX2_thrown_1 ?_
  exact retRD FX hr hlk dX2_thrown_4 rfl (by rw [v_X2_thrown])
def v_X2_fails (a1 : Int32) (a2 : Int32) : Int32 := if a1 = 0 then (if a2 = 0 then 0 else 1) else 1
def wth_X2_fails (a1 : Int32) (a2 : Int32) : Int32 := if a1 = 0 then (if a2 = 0 then 0 else 2) else 1
set_option maxRecDepth 100000 in
set_option maxHeartbeats 4000000 in
theorem k_X2_fails (l : Launch) (D : va_G) (cI cB : ClassId) (o bo po : Nat) (th : Int32) (f g : Nat → Int32) (ak su gt lf rf kn : Int32) (a1 : Int32) (a2 : Int32) : WR l yX2_fails cX2_fails 3 (some .boolean) ({ frames := 0, cells := 0, slots := 0, locals := 0 } : Room) D cI cB [.ref o, .int a1, .int a2] (wM cI o bo po th f g ak su gt lf rf kn) (v_X2_fails a1 a2) (wM cI o bo po (wth_X2_fails a1 a2) f g ak su gt lf rf kn) 0 0 := by
  refine bodyWR (by decide +kernel) (Nat.le_of_ble_eq_true rfl) (fun p e s m args below meth c ls A Z => ?_)
  obtain ⟨FX, hr, hlk, hK, hP, hD, hS, hA, hl⟩ := Z
  have hl : lv_has ls 3 [(0, .ref o), (1, .int a1), (2, .int a2)] := hl
  refine lv_aload_n FX.1 FX.2.1 dX2_fails_0 rfl (lv_at hl 0 rfl) ?_
  refine lv_iload_n FX.1 FX.2.1 dX2_fails_1 rfl (lv_at hl 1 rfl) ?_
  refine lv_if_eq (tgt := 9) FX.1 FX.2.1 dX2_fails_2 (by decide) (fun c_1 => ?_) (fun c_1 => ?_)
  · refine lv_iload_n FX.1 FX.2.1 dX2_fails_9 rfl (lv_at hl 2 rfl) ?_
    refine lv_if_eq (tgt := 17) FX.1 FX.2.1 dX2_fails_10 (by decide) (fun c_2 => ?_) (fun c_2 => ?_)
    · refine lv_iconst (v := 0) FX.1 FX.2.1 dX2_fails_17 (by decide) ?_
      refine p_put (wsN := (wM cI o bo po 0 f g ak su gt lf rf kn)) (ci := 4) (v := .int 0) (ty := .int) FX inX2 tyX2_ok nmX2 hK hP hD hS 0 rfl rfl 0 (by decide) (FX.2.2.2.2 _ fl_RX2_17) rfl (by decide +kernel) rfl rfl (Nat.le_of_ble_eq_true rfl) dX2_fails_18 rfl (fun H locs hP hD hS => ?_)
      refine lv_aload_n FX.1 FX.2.1 dX2_fails_21 rfl (lv_at hl 0 rfl) ?_
      refine va_get (D := D) (ci := 4) (v := .int 0) (C := RX2) (T := TX2) (N := 9) FX.1 FX.2.1 FX.2.2.2.2 inX2 FX.2.2.2.1 hK hP 0 rfl rfl 0 (by decide) (FX.2.2.2.2 _ fl_RX2_17) (fun _ h9 => h9) rfl dX2_fails_22 ?_
      refine lv_if_le (tgt := 32) FX.1 FX.2.1 dX2_fails_25 (by decide) (fun c_3 => ?_) (fun c_3 => ?_)
      · refine lv_iconst (v := 0) FX.1 FX.2.1 dX2_fails_32 (by decide) ?_
        exact retWR FX hr hlk dX2_fails_33 rfl hP hK hD hS (by decide) (by decide) (by rw [v_X2_fails, if_pos c_1, if_pos c_2]) (by rw [wth_X2_fails, if_pos c_1, if_pos c_2])
      · exact absurd c_3 (by decide)
    · refine lv_iconst (v := 2) FX.1 FX.2.1 dX2_fails_13 (by decide) ?_
      refine lv_goto (tgt := 18) FX.1 FX.2.1 dX2_fails_14 (by decide) ?_
      refine p_put (wsN := (wM cI o bo po 2 f g ak su gt lf rf kn)) (ci := 4) (v := .int 2) (ty := .int) FX inX2 tyX2_ok nmX2 hK hP hD hS 0 rfl rfl 0 (by decide) (FX.2.2.2.2 _ fl_RX2_17) rfl (by decide +kernel) rfl rfl (Nat.le_of_ble_eq_true rfl) dX2_fails_18 rfl (fun H locs hP hD hS => ?_)
      refine lv_aload_n FX.1 FX.2.1 dX2_fails_21 rfl (lv_at hl 0 rfl) ?_
      refine va_get (D := D) (ci := 4) (v := .int 2) (C := RX2) (T := TX2) (N := 9) FX.1 FX.2.1 FX.2.2.2.2 inX2 FX.2.2.2.1 hK hP 0 rfl rfl 0 (by decide) (FX.2.2.2.2 _ fl_RX2_17) (fun _ h9 => h9) rfl dX2_fails_22 ?_
      refine lv_if_le (tgt := 32) FX.1 FX.2.1 dX2_fails_25 (by decide) (fun c_4 => ?_) (fun c_4 => ?_)
      · exact absurd c_4 (by decide)
      · refine lv_iconst (v := 1) FX.1 FX.2.1 dX2_fails_28 (by decide) ?_
        refine lv_goto (tgt := 33) FX.1 FX.2.1 dX2_fails_29 (by decide) ?_
        exact retWR FX hr hlk dX2_fails_33 rfl hP hK hD hS (by decide) (by decide) (by rw [v_X2_fails, if_pos c_1, if_neg c_2]) (by rw [wth_X2_fails, if_pos c_1, if_neg c_2])
  · refine lv_iconst (v := 1) FX.1 FX.2.1 dX2_fails_5 (by decide) ?_
    refine lv_goto (tgt := 18) FX.1 FX.2.1 dX2_fails_6 (by decide) ?_
    refine p_put (wsN := (wM cI o bo po 1 f g ak su gt lf rf kn)) (ci := 4) (v := .int 1) (ty := .int) FX inX2 tyX2_ok nmX2 hK hP hD hS 0 rfl rfl 0 (by decide) (FX.2.2.2.2 _ fl_RX2_17) rfl (by decide +kernel) rfl rfl (Nat.le_of_ble_eq_true rfl) dX2_fails_18 rfl (fun H locs hP hD hS => ?_)
    refine lv_aload_n FX.1 FX.2.1 dX2_fails_21 rfl (lv_at hl 0 rfl) ?_
    refine va_get (D := D) (ci := 4) (v := .int 1) (C := RX2) (T := TX2) (N := 9) FX.1 FX.2.1 FX.2.2.2.2 inX2 FX.2.2.2.1 hK hP 0 rfl rfl 0 (by decide) (FX.2.2.2.2 _ fl_RX2_17) (fun _ h9 => h9) rfl dX2_fails_22 ?_
    refine lv_if_le (tgt := 32) FX.1 FX.2.1 dX2_fails_25 (by decide) (fun c_5 => ?_) (fun c_5 => ?_)
    · exact absurd c_5 (by decide)
    · refine lv_iconst (v := 1) FX.1 FX.2.1 dX2_fails_28 (by decide) ?_
      refine lv_goto (tgt := 33) FX.1 FX.2.1 dX2_fails_29 (by decide) ?_
      exact retWR FX hr hlk dX2_fails_33 rfl hP hK hD hS (by decide) (by decide) (by rw [v_X2_fails, if_neg c_1]) (by rw [wth_X2_fails, if_neg c_1])
theorem b01_v_X2_fails (a1 : Int32) (a2 : Int32) : is01 (v_X2_fails a1 a2) := by
  unfold v_X2_fails
  repeat' split
  all_goals first | exact Or.inl rfl | exact Or.inr rfl
def v_X2_refuse  : Int32 := (-9999)
def wrf_X2_refuse (rf : Int32) : Int32 := rf + 1
set_option maxRecDepth 100000 in
set_option maxHeartbeats 4000000 in
theorem k_X2_refuse (l : Launch) (D : va_G) (cI cB : ClassId) (o bo po : Nat) (th : Int32) (f g : Nat → Int32) (ak su gt lf rf kn : Int32) : WR l yX2_refuse cX2_refuse 1 (some .int) ({ frames := 0, cells := 0, slots := 0, locals := 0 } : Room) D cI cB [.ref o] (wM cI o bo po th f g ak su gt lf rf kn) v_X2_refuse (wM cI o bo po th f g ak su gt lf (wrf_X2_refuse rf) kn) 0 0 := by
  refine bodyWR (by decide +kernel) (Nat.le_of_ble_eq_true rfl) (fun p e s m args below meth c ls A Z => ?_)
  obtain ⟨FX, hr, hlk, hK, hP, hD, hS, hA, hl⟩ := Z
  have hl : lv_has ls 1 [(0, .ref o)] := hl
  refine lv_aload_n FX.1 FX.2.1 dX2_refuse_0 rfl (lv_at hl 0 rfl) ?_
  refine lv_dup FX.1 FX.2.1 dX2_refuse_1 rfl ?_
  refine va_get (D := D) (ci := 4) (v := .int rf) (C := RX2) (T := TX2) (N := 9) FX.1 FX.2.1 FX.2.2.2.2 inX2 FX.2.2.2.1 hK hP 0 rfl rfl 7 (by decide) (FX.2.2.2.2 _ fl_RX2_29) (fun _ h9 => h9) rfl dX2_refuse_2 ?_
  refine lv_iconst (v := 1) FX.1 FX.2.1 dX2_refuse_5 (by decide) ?_
  refine lv_iadd FX.1 FX.2.1 dX2_refuse_6 ?_
  refine p_put (wsN := (wM cI o bo po th f g ak su gt lf (rf + 1) kn)) (ci := 4) (v := .int (rf + 1)) (ty := .int) FX inX2 tyX2_ok nmX2 hK hP hD hS 0 rfl rfl 7 (by decide) (FX.2.2.2.2 _ fl_RX2_29) rfl (by decide +kernel) rfl rfl (Nat.le_of_ble_eq_true rfl) dX2_refuse_7 rfl (fun H locs hP hD hS => ?_)
  refine lv_sipush (v := (-9999)) FX.1 FX.2.1 dX2_refuse_10 (by decide) ?_
  exact retWR FX hr hlk dX2_refuse_13 rfl hP hK hD hS (by decide) (by decide) (by rw [v_X2_refuse]) (by rw [wrf_X2_refuse])
def v_X2_become (v1 : Int32) : Int32 := if v1 = (-100000) then v_X2_one 0 else v_X2_one 1
def wf_X2_become (b1 : Int32) (v1 : Int32) (f : Nat → Int32) : Nat → Int32 := upd f b1.toNatClampNeg v1
set_option maxRecDepth 100000 in
set_option maxHeartbeats 4000000 in
theorem k_X2_become (l : Launch) (D : va_G) (cI cB : ClassId) (o bo po : Nat) (th : Int32) (f g : Nat → Int32) (ak su gt lf rf kn : Int32) (b1 : Int32) (v1 : Int32) (hi : vp_in b1 6) : WR l yX2_become cX2_become 3 (some .int) ({ frames := 1, cells := 0, slots := 0, locals := 20 } : Room) D cI cB [.ref o, .int b1, .int v1] (wM cI o bo po th f g ak su gt lf rf kn) (v_X2_become v1) (wM cI o bo po th (wf_X2_become b1 v1 f) g ak su gt lf rf kn) 0 0 := by
  refine bodyWR (by decide +kernel) (Nat.le_of_ble_eq_true rfl) (fun p e s m args below meth c ls A Z => ?_)
  obtain ⟨FX, hr, hlk, hK, hP, hD, hS, hA, hl⟩ := Z
  have hl : lv_has ls 3 [(0, .ref o), (1, .int b1), (2, .int v1)] := hl
  refine lv_aload_n FX.1 FX.2.1 dX2_become_0 rfl (lv_at hl 0 rfl) ?_
  refine va_get (D := D) (ci := 4) (v := .ref bo) (C := RX2) (T := TX2) (N := 9) FX.1 FX.2.1 FX.2.2.2.2 inX2 FX.2.2.2.1 hK hP 0 rfl rfl 1 (by decide) (FX.2.2.2.2 _ fl_RX2_10) (fun _ h9 => h9) rfl dX2_become_1 ?_
  refine lv_iload_n FX.1 FX.2.1 dX2_become_4 rfl (lv_at hl 1 rfl) ?_
  refine lv_iload_n FX.1 FX.2.1 dX2_become_5 rfl (lv_at hl 2 rfl) ?_
  refine p_iast (wsN := (wM cI o bo po th (upd f b1.toNatClampNeg v1) g ak su gt lf rf kn)) FX hK hP hD hS 1 rfl hi dX2_become_6 rfl (fun H locs hP hD hS => ?_)
  refine lv_iload_n FX.1 FX.2.1 dX2_become_7 rfl (lv_at hl 2 rfl) ?_
  refine lv_ldc (v := (-100000)) FX.1 FX.2.1 FX.2.2.2.1 (FX.2.2.2.2 _ co_RX2_9) dX2_become_8 ?_
  refine lv_icmp_eq (tgt := 17) FX.1 FX.2.1 dX2_become_10 (by decide) (fun c_1 => ?_) (fun c_1 => ?_)
  · refine lv_iconst (v := 0) FX.1 FX.2.1 dX2_become_17 (by decide) ?_
    refine c_RDs FX (r_X2_one l D cI cB 0) mi_X2_one rfl ml_RX2_32 (RMok.mk) hl.1 rfl (Nat.le_of_ble_eq_true rfl) dX2_become_18 (by decide) hK hP [] rfl ?_
    exact retWR FX hr hlk dX2_become_21 rfl hP hK hD hS (by decide) (by decide) (by rw [v_X2_become, if_pos c_1]) (by rw [wf_X2_become])
  · refine lv_iconst (v := 1) FX.1 FX.2.1 dX2_become_13 (by decide) ?_
    refine lv_goto (tgt := 18) FX.1 FX.2.1 dX2_become_14 (by decide) ?_
    refine c_RDs FX (r_X2_one l D cI cB 1) mi_X2_one rfl ml_RX2_32 (RMok.mk) hl.1 rfl (Nat.le_of_ble_eq_true rfl) dX2_become_18 (by decide) hK hP [] rfl ?_
    exact retWR FX hr hlk dX2_become_21 rfl hP hK hD hS (by decide) (by decide) (by rw [v_X2_become, if_neg c_1]) (by rw [wf_X2_become])
def v_X2_turned (k1 : Int32) (n1 : Int32) (y1 : Int32) (f : Nat → Int32) : Int32 := if k1 = 0 then (if (v_X2_isIn (n1 + y1) 0 999) = 0 then (-100000) else n1 + y1) else (if k1 = 1 then (if (n1 - ((n1 / 2) * 2)) = 0 then n1 / 2 else (-100000)) else (if k1 = 2 then (if (v_X2_isIn (n1 - y1) 0 999) = 0 then (-100000) else n1 - y1) else (if k1 = 3 then (-100000) else (if k1 = 4 then n1 else f (((n1 - ((n1 / 6) * 6)) + 6) - ((((n1 - ((n1 / 6) * 6)) + 6) / 6) * 6)).toNatClampNeg))))
set_option maxRecDepth 100000 in
set_option maxHeartbeats 4000000 in
theorem r_X2_turned (l : Launch) (D : va_G) (cI cB : ClassId) (o bo po : Nat) (th : Int32) (f g : Nat → Int32) (ak su gt lf rf kn : Int32) (k1 : Int32) (n1 : Int32) (y1 : Int32) : RD l yX2_turned cX2_turned 5 (some .int) ({ frames := 1, cells := 0, slots := 0, locals := 22 } : Room) D cI cB [.ref o, .int k1, .int n1, .int y1] (wM cI o bo po th f g ak su gt lf rf kn) (v_X2_turned k1 n1 y1 f) := by
  refine bodyRD (by decide +kernel) (Nat.le_of_ble_eq_true rfl) (fun p e s m args below meth c ls FX hr hlk hK hP hl => ?_)
  have hl : lv_has ls 5 [(0, .ref o), (1, .int k1), (2, .int n1), (3, .int y1)] := hl
  refine lv_iload_n FX.1 FX.2.1 dX2_turned_0 rfl (lv_at hl 1 rfl) ?_
  refine lv_if_ne (tgt := 10) FX.1 FX.2.1 dX2_turned_1 (by decide) (fun c_1 => ?_) (fun c_1 => ?_)
  · refine lv_iload_n FX.1 FX.2.1 dX2_turned_10 rfl (lv_at hl 2 rfl) ?_
    refine lv_iload_n FX.1 FX.2.1 dX2_turned_11 rfl (lv_at hl 3 rfl) ?_
    refine lv_isub FX.1 FX.2.1 dX2_turned_12 ?_
    refine lv_istore (lv' := [(4, .int (n1 - y1)), (0, .ref o), (1, .int k1), (2, .int n1), (3, .int y1)]) FX.1 FX.2.1 dX2_turned_13 hl (by decide) rfl (fun ls hl => ?_)
    refine lv_iload_n FX.1 FX.2.1 dX2_turned_15 rfl (lv_at hl 2 rfl) ?_
    by_cases c_2 : k1 = 1
    · refine lv_tableIn (off := 56) (tgt := 72) FX.1 FX.2.1 dX2_turned_16 (by rw [c_2]; decide) (by rw [c_2]; decide) (by rw [c_2]; rfl) (by decide) ?_
      refine lv_iload_n FX.1 FX.2.1 dX2_turned_72 rfl (lv_at hl 3 rfl) ?_
      refine lv_iconst (v := 2) FX.1 FX.2.1 dX2_turned_73 (by decide) ?_
      refine lv_irem FX.1 FX.2.1 dX2_turned_74 (by decide) ?_
      refine lv_if_ne (tgt := 84) FX.1 FX.2.1 dX2_turned_75 (by decide) (fun c_3 => ?_) (fun c_3 => ?_)
      · refine lv_ldc (v := (-100000)) FX.1 FX.2.1 FX.2.2.2.1 (FX.2.2.2.2 _ co_RX2_9) dX2_turned_84 ?_
        exact retRD FX hr hlk dX2_turned_86 rfl (by rw [v_X2_turned, if_neg c_1, if_pos c_2, if_neg c_3])
      · refine lv_iload_n FX.1 FX.2.1 dX2_turned_78 rfl (lv_at hl 3 rfl) ?_
        refine lv_iconst (v := 2) FX.1 FX.2.1 dX2_turned_79 (by decide) ?_
        refine lv_idiv FX.1 FX.2.1 dX2_turned_80 (by decide) ?_
        refine lv_goto (tgt := 86) FX.1 FX.2.1 dX2_turned_81 (by decide) ?_
        exact retRD FX hr hlk dX2_turned_86 rfl (by rw [v_X2_turned, if_neg c_1, if_pos c_2, if_pos c_3])
    · by_cases c_4 : k1 = 2
      · refine lv_tableIn (off := 36) (tgt := 52) FX.1 FX.2.1 dX2_turned_16 (by rw [c_4]; decide) (by rw [c_4]; decide) (by rw [c_4]; rfl) (by decide) ?_
        refine lv_iload FX.1 FX.2.1 dX2_turned_52 (lv_at hl 0 rfl) ?_
        refine lv_iconst (v := 0) FX.1 FX.2.1 dX2_turned_54 (by decide) ?_
        refine lv_sipush (v := 999) FX.1 FX.2.1 dX2_turned_55 (by decide) ?_
        refine c_RDs FX (r_X2_isIn l D cI cB (n1 - y1) 0 999) mi_X2_isIn rfl ml_RX2_21 (RMok.mk) hl.1 rfl (Nat.le_of_ble_eq_true rfl) dX2_turned_58 (by decide) hK hP [] rfl ?_
        refine lv_if_eq (tgt := 69) FX.1 FX.2.1 dX2_turned_61 (by decide) (fun c_5 => ?_) (fun c_5 => ?_)
        · refine lv_ldc (v := (-100000)) FX.1 FX.2.1 FX.2.2.2.1 (FX.2.2.2.2 _ co_RX2_9) dX2_turned_69 ?_
          exact retRD FX hr hlk dX2_turned_71 rfl (by rw [v_X2_turned, if_neg c_1, if_neg c_2, if_pos c_4, if_pos c_5])
        · refine lv_iload FX.1 FX.2.1 dX2_turned_64 (lv_at hl 0 rfl) ?_
          refine lv_goto (tgt := 71) FX.1 FX.2.1 dX2_turned_66 (by decide) ?_
          exact retRD FX hr hlk dX2_turned_71 rfl (by rw [v_X2_turned, if_neg c_1, if_neg c_2, if_pos c_4, if_neg c_5])
      · by_cases c_6 : k1 = 3
        · refine lv_tableIn (off := 71) (tgt := 87) FX.1 FX.2.1 dX2_turned_16 (by rw [c_6]; decide) (by rw [c_6]; decide) (by rw [c_6]; rfl) (by decide) ?_
          refine lv_ldc (v := (-100000)) FX.1 FX.2.1 FX.2.2.2.1 (FX.2.2.2.2 _ co_RX2_9) dX2_turned_87 ?_
          exact retRD FX hr hlk dX2_turned_89 rfl (by rw [v_X2_turned, if_neg c_1, if_neg c_2, if_neg c_4, if_pos c_6])
        · by_cases c_7 : k1 = 4
          · refine lv_tableIn (off := 74) (tgt := 90) FX.1 FX.2.1 dX2_turned_16 (by rw [c_7]; decide) (by rw [c_7]; decide) (by rw [c_7]; rfl) (by decide) ?_
            refine lv_iload_n FX.1 FX.2.1 dX2_turned_90 rfl (lv_at hl 3 rfl) ?_
            exact retRD FX hr hlk dX2_turned_91 rfl (by rw [v_X2_turned, if_neg c_1, if_neg c_2, if_neg c_4, if_neg c_6, if_pos c_7])
          · refine lv_tableOut (tgt := 92) FX.1 FX.2.1 dX2_turned_16 (tabOut5 c_1 c_2 c_4 c_6 c_7) (by decide) ?_
            refine lv_aload_n FX.1 FX.2.1 dX2_turned_92 rfl (lv_at hl 1 rfl) ?_
            refine va_get (D := D) (ci := 4) (v := .ref bo) (C := RX2) (T := TX2) (N := 9) FX.1 FX.2.1 FX.2.2.2.2 inX2 FX.2.2.2.1 hK hP 0 rfl rfl 1 (by decide) (FX.2.2.2.2 _ fl_RX2_10) (fun _ h9 => h9) rfl dX2_turned_93 ?_
            refine lv_iload_n FX.1 FX.2.1 dX2_turned_96 rfl (lv_at hl 3 rfl) ?_
            refine lv_bipush (v := 6) FX.1 FX.2.1 dX2_turned_97 (by decide) ?_
            refine lv_irem FX.1 FX.2.1 dX2_turned_99 (by decide) ?_
            refine lv_bipush (v := 6) FX.1 FX.2.1 dX2_turned_100 (by decide) ?_
            refine lv_iadd FX.1 FX.2.1 dX2_turned_102 ?_
            refine lv_bipush (v := 6) FX.1 FX.2.1 dX2_turned_103 (by decide) ?_
            refine lv_irem FX.1 FX.2.1 dX2_turned_105 (by decide) ?_
            refine p_iald (v := f (((n1 - ((n1 / 6) * 6)) + 6) - ((((n1 - ((n1 / 6) * 6)) + 6) / 6) * 6)).toNatClampNeg) FX hK hP 1 rfl (in_mod66 n1) dX2_turned_106 rfl ?_
            exact retRD FX hr hlk dX2_turned_107 rfl (by rw [v_X2_turned, if_neg c_1, if_neg c_2, if_neg c_4, if_neg c_6, if_neg c_7])
  · refine lv_iload_n FX.1 FX.2.1 dX2_turned_4 rfl (lv_at hl 2 rfl) ?_
    refine lv_iload_n FX.1 FX.2.1 dX2_turned_5 rfl (lv_at hl 3 rfl) ?_
    refine lv_iadd FX.1 FX.2.1 dX2_turned_6 ?_
    refine lv_goto (tgt := 13) FX.1 FX.2.1 dX2_turned_7 (by decide) ?_
    refine lv_istore (lv' := [(4, .int (n1 + y1)), (0, .ref o), (1, .int k1), (2, .int n1), (3, .int y1)]) FX.1 FX.2.1 dX2_turned_13 hl (by decide) rfl (fun ls hl => ?_)
    refine lv_iload_n FX.1 FX.2.1 dX2_turned_15 rfl (lv_at hl 2 rfl) ?_
    refine lv_tableIn (off := 36) (tgt := 52) FX.1 FX.2.1 dX2_turned_16 (by rw [c_1]; decide) (by rw [c_1]; decide) (by rw [c_1]; rfl) (by decide) ?_
    refine lv_iload FX.1 FX.2.1 dX2_turned_52 (lv_at hl 0 rfl) ?_
    refine lv_iconst (v := 0) FX.1 FX.2.1 dX2_turned_54 (by decide) ?_
    refine lv_sipush (v := 999) FX.1 FX.2.1 dX2_turned_55 (by decide) ?_
    refine c_RDs FX (r_X2_isIn l D cI cB (n1 + y1) 0 999) mi_X2_isIn rfl ml_RX2_21 (RMok.mk) hl.1 rfl (Nat.le_of_ble_eq_true rfl) dX2_turned_58 (by decide) hK hP [] rfl ?_
    refine lv_if_eq (tgt := 69) FX.1 FX.2.1 dX2_turned_61 (by decide) (fun c_8 => ?_) (fun c_8 => ?_)
    · refine lv_ldc (v := (-100000)) FX.1 FX.2.1 FX.2.2.2.1 (FX.2.2.2.2 _ co_RX2_9) dX2_turned_69 ?_
      exact retRD FX hr hlk dX2_turned_71 rfl (by rw [v_X2_turned, if_pos c_1, if_pos c_8])
    · refine lv_iload FX.1 FX.2.1 dX2_turned_64 (lv_at hl 0 rfl) ?_
      refine lv_goto (tgt := 71) FX.1 FX.2.1 dX2_turned_66 (by decide) ?_
      exact retRD FX hr hlk dX2_turned_71 rfl (by rw [v_X2_turned, if_pos c_1, if_neg c_8])
def wak_X2_give (ak : Int32) : Int32 := ak + 1
def wsu_X2_give (n1 : Int32) (su : Int32) : Int32 := su + n1
def wgt_X2_give (gt : Int32) : Int32 := gt + 1
set_option maxRecDepth 100000 in
set_option maxHeartbeats 4000000 in
theorem k_X2_give (l : Launch) (D : va_G) (cI cB : ClassId) (o bo po : Nat) (th : Int32) (f g : Nat → Int32) (ak su gt lf rf kn : Int32) (n1 : Int32) : WRv l yX2_give cX2_give 2 none ({ frames := 0, cells := 0, slots := 0, locals := 0 } : Room) D cI cB [.ref o, .int n1] (wM cI o bo po th f g ak su gt lf rf kn) (wM cI o bo po th f g (wak_X2_give ak) (wsu_X2_give n1 su) (wgt_X2_give gt) lf rf kn) 0 0 := by
  refine bodyWRv (by decide +kernel) (Nat.le_of_ble_eq_true rfl) (fun p e s m args below meth c ls A Z => ?_)
  obtain ⟨FX, hr, hlk, hK, hP, hD, hS, hA, hl⟩ := Z
  have hl : lv_has ls 2 [(0, .ref o), (1, .int n1)] := hl
  refine lv_aload_n FX.1 FX.2.1 dX2_give_0 rfl (lv_at hl 0 rfl) ?_
  refine lv_dup FX.1 FX.2.1 dX2_give_1 rfl ?_
  refine va_get (D := D) (ci := 4) (v := .int ak) (C := RX2) (T := TX2) (N := 9) FX.1 FX.2.1 FX.2.2.2.2 inX2 FX.2.2.2.1 hK hP 0 rfl rfl 3 (by decide) (FX.2.2.2.2 _ fl_RX2_55) (fun _ h9 => h9) rfl dX2_give_2 ?_
  refine lv_iconst (v := 1) FX.1 FX.2.1 dX2_give_5 (by decide) ?_
  refine lv_iadd FX.1 FX.2.1 dX2_give_6 ?_
  refine p_put (wsN := (wM cI o bo po th f g (ak + 1) su gt lf rf kn)) (ci := 4) (v := .int (ak + 1)) (ty := .int) FX inX2 tyX2_ok nmX2 hK hP hD hS 0 rfl rfl 3 (by decide) (FX.2.2.2.2 _ fl_RX2_55) rfl (by decide +kernel) rfl rfl (Nat.le_of_ble_eq_true rfl) dX2_give_7 rfl (fun H locs hP hD hS => ?_)
  refine lv_aload_n FX.1 FX.2.1 dX2_give_10 rfl (lv_at hl 0 rfl) ?_
  refine lv_dup FX.1 FX.2.1 dX2_give_11 rfl ?_
  refine va_get (D := D) (ci := 4) (v := .int gt) (C := RX2) (T := TX2) (N := 9) FX.1 FX.2.1 FX.2.2.2.2 inX2 FX.2.2.2.1 hK hP 0 rfl rfl 5 (by decide) (FX.2.2.2.2 _ fl_RX2_71) (fun _ h9 => h9) rfl dX2_give_12 ?_
  refine lv_iconst (v := 1) FX.1 FX.2.1 dX2_give_15 (by decide) ?_
  refine lv_iadd FX.1 FX.2.1 dX2_give_16 ?_
  refine p_put (wsN := (wM cI o bo po th f g (ak + 1) su (gt + 1) lf rf kn)) (ci := 4) (v := .int (gt + 1)) (ty := .int) FX inX2 tyX2_ok nmX2 hK hP hD hS 0 rfl rfl 5 (by decide) (FX.2.2.2.2 _ fl_RX2_71) rfl (by decide +kernel) rfl rfl (Nat.le_of_ble_eq_true rfl) dX2_give_17 rfl (fun H locs hP hD hS => ?_)
  refine lv_aload_n FX.1 FX.2.1 dX2_give_20 rfl (lv_at hl 0 rfl) ?_
  refine lv_dup FX.1 FX.2.1 dX2_give_21 rfl ?_
  refine va_get (D := D) (ci := 4) (v := .int su) (C := RX2) (T := TX2) (N := 9) FX.1 FX.2.1 FX.2.2.2.2 inX2 FX.2.2.2.1 hK hP 0 rfl rfl 4 (by decide) (FX.2.2.2.2 _ fl_RX2_74) (fun _ h9 => h9) rfl dX2_give_22 ?_
  refine lv_iload_n FX.1 FX.2.1 dX2_give_25 rfl (lv_at hl 1 rfl) ?_
  refine lv_iadd FX.1 FX.2.1 dX2_give_26 ?_
  refine p_put (wsN := (wM cI o bo po th f g (ak + 1) (su + n1) (gt + 1) lf rf kn)) (ci := 4) (v := .int (su + n1)) (ty := .int) FX inX2 tyX2_ok nmX2 hK hP hD hS 0 rfl rfl 4 (by decide) (FX.2.2.2.2 _ fl_RX2_74) rfl (by decide +kernel) rfl rfl (Nat.le_of_ble_eq_true rfl) dX2_give_27 rfl (fun H locs hP hD hS => ?_)
  exact retWRv FX hr hlk dX2_give_30 hP hK hD hS (by decide) (by decide) (by rw [wak_X2_give, wsu_X2_give, wgt_X2_give])
def v_X2_codesTold (b1 : Int32) (b2 : Int32) (b3 : Int32) (f : Nat → Int32) : Int32 := ((((31 + (v_X2_codeTold (f b1.toNatClampNeg))) * 31) + (v_X2_codeTold (f b2.toNatClampNeg))) * 31) + (v_X2_codeTold (f b3.toNatClampNeg))
set_option maxRecDepth 100000 in
set_option maxHeartbeats 4000000 in
theorem r_X2_codesTold (l : Launch) (D : va_G) (cI cB : ClassId) (o bo po : Nat) (th : Int32) (f g : Nat → Int32) (ak su gt lf rf kn : Int32) (b1 : Int32) (b2 : Int32) (b3 : Int32) (hi : vp_in b1 6) (hj : vp_in b2 6) (hk : vp_in b3 6) : RD l yX2_codesTold cX2_codesTold 4 (some .int) ({ frames := 1, cells := 0, slots := 0, locals := 20 } : Room) D cI cB [.ref o, .int b1, .int b2, .int b3] (wM cI o bo po th f g ak su gt lf rf kn) (v_X2_codesTold b1 b2 b3 f) := by
  refine bodyRD (by decide +kernel) (Nat.le_of_ble_eq_true rfl) (fun p e s m args below meth c ls FX hr hlk hK hP hl => ?_)
  have hl : lv_has ls 4 [(0, .ref o), (1, .int b1), (2, .int b2), (3, .int b3)] := hl
  refine lv_bipush (v := 31) FX.1 FX.2.1 dX2_codesTold_0 (by decide) ?_
  refine lv_aload_n FX.1 FX.2.1 dX2_codesTold_2 rfl (lv_at hl 0 rfl) ?_
  refine va_get (D := D) (ci := 4) (v := .ref bo) (C := RX2) (T := TX2) (N := 9) FX.1 FX.2.1 FX.2.2.2.2 inX2 FX.2.2.2.1 hK hP 0 rfl rfl 1 (by decide) (FX.2.2.2.2 _ fl_RX2_10) (fun _ h9 => h9) rfl dX2_codesTold_3 ?_
  refine lv_iload_n FX.1 FX.2.1 dX2_codesTold_6 rfl (lv_at hl 1 rfl) ?_
  refine p_iald (v := f b1.toNatClampNeg) FX hK hP 1 rfl hi dX2_codesTold_7 rfl ?_
  refine c_RDs FX (r_X2_codeTold l D cI cB (f b1.toNatClampNeg)) mi_X2_codeTold rfl ml_RX2_88 (RMok.mk) hl.1 rfl (Nat.le_of_ble_eq_true rfl) dX2_codesTold_8 (by decide) hK hP [] rfl ?_
  refine lv_iadd FX.1 FX.2.1 dX2_codesTold_11 ?_
  refine lv_bipush (v := 31) FX.1 FX.2.1 dX2_codesTold_12 (by decide) ?_
  refine lv_imul FX.1 FX.2.1 dX2_codesTold_14 ?_
  refine lv_aload_n FX.1 FX.2.1 dX2_codesTold_15 rfl (lv_at hl 0 rfl) ?_
  refine va_get (D := D) (ci := 4) (v := .ref bo) (C := RX2) (T := TX2) (N := 9) FX.1 FX.2.1 FX.2.2.2.2 inX2 FX.2.2.2.1 hK hP 0 rfl rfl 1 (by decide) (FX.2.2.2.2 _ fl_RX2_10) (fun _ h9 => h9) rfl dX2_codesTold_16 ?_
  refine lv_iload_n FX.1 FX.2.1 dX2_codesTold_19 rfl (lv_at hl 2 rfl) ?_
  refine p_iald (v := f b2.toNatClampNeg) FX hK hP 1 rfl hj dX2_codesTold_20 rfl ?_
  refine c_RDs FX (r_X2_codeTold l D cI cB (f b2.toNatClampNeg)) mi_X2_codeTold rfl ml_RX2_88 (RMok.mk) hl.1 rfl (Nat.le_of_ble_eq_true rfl) dX2_codesTold_21 (by decide) hK hP [] rfl ?_
  refine lv_iadd FX.1 FX.2.1 dX2_codesTold_24 ?_
  refine lv_bipush (v := 31) FX.1 FX.2.1 dX2_codesTold_25 (by decide) ?_
  refine lv_imul FX.1 FX.2.1 dX2_codesTold_27 ?_
  refine lv_aload_n FX.1 FX.2.1 dX2_codesTold_28 rfl (lv_at hl 0 rfl) ?_
  refine va_get (D := D) (ci := 4) (v := .ref bo) (C := RX2) (T := TX2) (N := 9) FX.1 FX.2.1 FX.2.2.2.2 inX2 FX.2.2.2.1 hK hP 0 rfl rfl 1 (by decide) (FX.2.2.2.2 _ fl_RX2_10) (fun _ h9 => h9) rfl dX2_codesTold_29 ?_
  refine lv_iload_n FX.1 FX.2.1 dX2_codesTold_32 rfl (lv_at hl 3 rfl) ?_
  refine p_iald (v := f b3.toNatClampNeg) FX hK hP 1 rfl hk dX2_codesTold_33 rfl ?_
  refine c_RDs FX (r_X2_codeTold l D cI cB (f b3.toNatClampNeg)) mi_X2_codeTold rfl ml_RX2_88 (RMok.mk) hl.1 rfl (Nat.le_of_ble_eq_true rfl) dX2_codesTold_34 (by decide) hK hP [] rfl ?_
  refine lv_iadd FX.1 FX.2.1 dX2_codesTold_37 ?_
  exact retRD FX hr hlk dX2_codesTold_38 rfl (by rw [v_X2_codesTold])
def v_X2_isNoTwo (b1 : Int32) (b2 : Int32) (k1 : Int32) (k2 : Int32) (y1 : Int32) : Int32 := if (v_X2_isNone b1) = 0 then (if (v_X2_isNone b2) = 0 then (if (v_X2_isIn k1 0 k2) = 0 then v_X2_fails 0 1 else (if (v_X2_isNoNumber y1) = 0 then v_X2_fails 0 0 else v_X2_fails 0 1)) else (if (v_X2_isIn k1 0 k2) = 0 then v_X2_fails 1 1 else (if (v_X2_isNoNumber y1) = 0 then v_X2_fails 1 0 else v_X2_fails 1 1))) else (if (v_X2_isIn k1 0 k2) = 0 then v_X2_fails 1 1 else (if (v_X2_isNoNumber y1) = 0 then v_X2_fails 1 0 else v_X2_fails 1 1))
def wth_X2_isNoTwo (b1 : Int32) (b2 : Int32) (k1 : Int32) (k2 : Int32) (y1 : Int32) : Int32 := if (v_X2_isNone b1) = 0 then (if (v_X2_isNone b2) = 0 then (if (v_X2_isIn k1 0 k2) = 0 then wth_X2_fails 0 1 else (if (v_X2_isNoNumber y1) = 0 then wth_X2_fails 0 0 else wth_X2_fails 0 1)) else (if (v_X2_isIn k1 0 k2) = 0 then wth_X2_fails 1 1 else (if (v_X2_isNoNumber y1) = 0 then wth_X2_fails 1 0 else wth_X2_fails 1 1))) else (if (v_X2_isIn k1 0 k2) = 0 then wth_X2_fails 1 1 else (if (v_X2_isNoNumber y1) = 0 then wth_X2_fails 1 0 else wth_X2_fails 1 1))
set_option maxRecDepth 100000 in
set_option maxHeartbeats 4000000 in
theorem k_X2_isNoTwo (l : Launch) (D : va_G) (cI cB : ClassId) (o bo po : Nat) (th : Int32) (f g : Nat → Int32) (ak su gt lf rf kn : Int32) (b1 : Int32) (b2 : Int32) (k1 : Int32) (k2 : Int32) (y1 : Int32) : WR l yX2_isNoTwo cX2_isNoTwo 6 (some .boolean) ({ frames := 2, cells := 0, slots := 0, locals := 42 } : Room) D cI cB [.ref o, .int b1, .int b2, .int k1, .int k2, .int y1] (wM cI o bo po th f g ak su gt lf rf kn) (v_X2_isNoTwo b1 b2 k1 k2 y1) (wM cI o bo po (wth_X2_isNoTwo b1 b2 k1 k2 y1) f g ak su gt lf rf kn) 0 0 := by
  refine bodyWR (by decide +kernel) (Nat.le_of_ble_eq_true rfl) (fun p e s m args below meth c ls A Z => ?_)
  obtain ⟨FX, hr, hlk, hK, hP, hD, hS, hA, hl⟩ := Z
  have hl : lv_has ls 6 [(0, .ref o), (1, .int b1), (2, .int b2), (3, .int k1), (4, .int k2), (5, .int y1)] := hl
  refine lv_aload_n FX.1 FX.2.1 dX2_isNoTwo_0 rfl (lv_at hl 0 rfl) ?_
  refine lv_iload_n FX.1 FX.2.1 dX2_isNoTwo_1 rfl (lv_at hl 1 rfl) ?_
  refine c_RDs FX (r_X2_isNone l D cI cB b1) mi_X2_isNone rfl ml_RX2_40 (RMok.mk) hl.1 rfl (Nat.le_of_ble_eq_true rfl) dX2_isNoTwo_2 (by decide) hK hP [] rfl ?_
  refine lv_if_ne (tgt := 15) FX.1 FX.2.1 dX2_isNoTwo_5 (by decide) (fun c_1 => ?_) (fun c_1 => ?_)
  · refine lv_iconst (v := 1) FX.1 FX.2.1 dX2_isNoTwo_15 (by decide) ?_
    refine lv_goto (tgt := 20) FX.1 FX.2.1 dX2_isNoTwo_16 (by decide) ?_
    refine lv_iload_n FX.1 FX.2.1 dX2_isNoTwo_20 rfl (lv_at hl 3 rfl) ?_
    refine lv_iconst (v := 0) FX.1 FX.2.1 dX2_isNoTwo_21 (by decide) ?_
    refine lv_iload FX.1 FX.2.1 dX2_isNoTwo_22 (lv_at hl 4 rfl) ?_
    refine c_RDs FX (r_X2_isIn l D cI cB k1 0 k2) mi_X2_isIn rfl ml_RX2_21 (RMok.mk) hl.1 rfl (Nat.le_of_ble_eq_true rfl) dX2_isNoTwo_24 (by decide) hK hP [] rfl ?_
    refine lv_if_eq (tgt := 38) FX.1 FX.2.1 dX2_isNoTwo_27 (by decide) (fun c_2 => ?_) (fun c_2 => ?_)
    · refine lv_iconst (v := 1) FX.1 FX.2.1 dX2_isNoTwo_38 (by decide) ?_
      refine lv_goto (tgt := 43) FX.1 FX.2.1 dX2_isNoTwo_39 (by decide) ?_
      refine c_WRV (wr := []) (wsN := (wM cI o bo po (wth_X2_fails 1 1) f g ak su gt lf rf kn)) (i0 := 0) (ci := 4) FX (k_X2_fails l D cI cB o bo po th f g ak su gt lf rf kn 1 1) mi_X2_fails rfl ml_RX2_43 (RMok.mk) hl.1 rfl (Nat.le_of_ble_eq_true rfl) dX2_isNoTwo_43 (by decide) hK hP hD hS hA [0, 1, 2] rfl [] rfl rfl (by decide) [0, 1, 2] rfl rfl rfl rfl rfl (fun H locs hP hD hS => ?_)
      exact retWR FX hr hlk dX2_isNoTwo_46 (nz (b01_v_X2_fails _ _)) hP hK hD hS (by decide) (by decide) (by rw [v_X2_isNoTwo, if_neg c_1, if_pos c_2]) (by rw [wth_X2_isNoTwo, if_neg c_1, if_pos c_2])
    · refine lv_iload FX.1 FX.2.1 dX2_isNoTwo_30 (lv_at hl 5 rfl) ?_
      refine c_RDs FX (r_X2_isNoNumber l D cI cB y1) mi_X2_isNoNumber rfl ml_RX2_25 (RMok.mk) hl.1 rfl (Nat.le_of_ble_eq_true rfl) dX2_isNoTwo_32 (by decide) hK hP [] rfl ?_
      refine lv_if_eq (tgt := 42) FX.1 FX.2.1 dX2_isNoTwo_35 (by decide) (fun c_3 => ?_) (fun c_3 => ?_)
      · refine lv_iconst (v := 0) FX.1 FX.2.1 dX2_isNoTwo_42 (by decide) ?_
        refine c_WRV (wr := []) (wsN := (wM cI o bo po (wth_X2_fails 1 0) f g ak su gt lf rf kn)) (i0 := 0) (ci := 4) FX (k_X2_fails l D cI cB o bo po th f g ak su gt lf rf kn 1 0) mi_X2_fails rfl ml_RX2_43 (RMok.mk) hl.1 rfl (Nat.le_of_ble_eq_true rfl) dX2_isNoTwo_43 (by decide) hK hP hD hS hA [0, 1, 2] rfl [] rfl rfl (by decide) [0, 1, 2] rfl rfl rfl rfl rfl (fun H locs hP hD hS => ?_)
        exact retWR FX hr hlk dX2_isNoTwo_46 (nz (b01_v_X2_fails _ _)) hP hK hD hS (by decide) (by decide) (by rw [v_X2_isNoTwo, if_neg c_1, if_neg c_2, if_pos c_3]) (by rw [wth_X2_isNoTwo, if_neg c_1, if_neg c_2, if_pos c_3])
      · refine lv_iconst (v := 1) FX.1 FX.2.1 dX2_isNoTwo_38 (by decide) ?_
        refine lv_goto (tgt := 43) FX.1 FX.2.1 dX2_isNoTwo_39 (by decide) ?_
        refine c_WRV (wr := []) (wsN := (wM cI o bo po (wth_X2_fails 1 1) f g ak su gt lf rf kn)) (i0 := 0) (ci := 4) FX (k_X2_fails l D cI cB o bo po th f g ak su gt lf rf kn 1 1) mi_X2_fails rfl ml_RX2_43 (RMok.mk) hl.1 rfl (Nat.le_of_ble_eq_true rfl) dX2_isNoTwo_43 (by decide) hK hP hD hS hA [0, 1, 2] rfl [] rfl rfl (by decide) [0, 1, 2] rfl rfl rfl rfl rfl (fun H locs hP hD hS => ?_)
        exact retWR FX hr hlk dX2_isNoTwo_46 (nz (b01_v_X2_fails _ _)) hP hK hD hS (by decide) (by decide) (by rw [v_X2_isNoTwo, if_neg c_1, if_neg c_2, if_neg c_3]) (by rw [wth_X2_isNoTwo, if_neg c_1, if_neg c_2, if_neg c_3])
  · refine lv_iload_n FX.1 FX.2.1 dX2_isNoTwo_8 rfl (lv_at hl 2 rfl) ?_
    refine c_RDs FX (r_X2_isNone l D cI cB b2) mi_X2_isNone rfl ml_RX2_40 (RMok.mk) hl.1 rfl (Nat.le_of_ble_eq_true rfl) dX2_isNoTwo_9 (by decide) hK hP [] rfl ?_
    refine lv_if_eq (tgt := 19) FX.1 FX.2.1 dX2_isNoTwo_12 (by decide) (fun c_4 => ?_) (fun c_4 => ?_)
    · refine lv_iconst (v := 0) FX.1 FX.2.1 dX2_isNoTwo_19 (by decide) ?_
      refine lv_iload_n FX.1 FX.2.1 dX2_isNoTwo_20 rfl (lv_at hl 3 rfl) ?_
      refine lv_iconst (v := 0) FX.1 FX.2.1 dX2_isNoTwo_21 (by decide) ?_
      refine lv_iload FX.1 FX.2.1 dX2_isNoTwo_22 (lv_at hl 4 rfl) ?_
      refine c_RDs FX (r_X2_isIn l D cI cB k1 0 k2) mi_X2_isIn rfl ml_RX2_21 (RMok.mk) hl.1 rfl (Nat.le_of_ble_eq_true rfl) dX2_isNoTwo_24 (by decide) hK hP [] rfl ?_
      refine lv_if_eq (tgt := 38) FX.1 FX.2.1 dX2_isNoTwo_27 (by decide) (fun c_5 => ?_) (fun c_5 => ?_)
      · refine lv_iconst (v := 1) FX.1 FX.2.1 dX2_isNoTwo_38 (by decide) ?_
        refine lv_goto (tgt := 43) FX.1 FX.2.1 dX2_isNoTwo_39 (by decide) ?_
        refine c_WRV (wr := []) (wsN := (wM cI o bo po (wth_X2_fails 0 1) f g ak su gt lf rf kn)) (i0 := 0) (ci := 4) FX (k_X2_fails l D cI cB o bo po th f g ak su gt lf rf kn 0 1) mi_X2_fails rfl ml_RX2_43 (RMok.mk) hl.1 rfl (Nat.le_of_ble_eq_true rfl) dX2_isNoTwo_43 (by decide) hK hP hD hS hA [0, 1, 2] rfl [] rfl rfl (by decide) [0, 1, 2] rfl rfl rfl rfl rfl (fun H locs hP hD hS => ?_)
        exact retWR FX hr hlk dX2_isNoTwo_46 (nz (b01_v_X2_fails _ _)) hP hK hD hS (by decide) (by decide) (by rw [v_X2_isNoTwo, if_pos c_1, if_pos c_4, if_pos c_5]) (by rw [wth_X2_isNoTwo, if_pos c_1, if_pos c_4, if_pos c_5])
      · refine lv_iload FX.1 FX.2.1 dX2_isNoTwo_30 (lv_at hl 5 rfl) ?_
        refine c_RDs FX (r_X2_isNoNumber l D cI cB y1) mi_X2_isNoNumber rfl ml_RX2_25 (RMok.mk) hl.1 rfl (Nat.le_of_ble_eq_true rfl) dX2_isNoTwo_32 (by decide) hK hP [] rfl ?_
        refine lv_if_eq (tgt := 42) FX.1 FX.2.1 dX2_isNoTwo_35 (by decide) (fun c_6 => ?_) (fun c_6 => ?_)
        · refine lv_iconst (v := 0) FX.1 FX.2.1 dX2_isNoTwo_42 (by decide) ?_
          refine c_WRV (wr := []) (wsN := (wM cI o bo po (wth_X2_fails 0 0) f g ak su gt lf rf kn)) (i0 := 0) (ci := 4) FX (k_X2_fails l D cI cB o bo po th f g ak su gt lf rf kn 0 0) mi_X2_fails rfl ml_RX2_43 (RMok.mk) hl.1 rfl (Nat.le_of_ble_eq_true rfl) dX2_isNoTwo_43 (by decide) hK hP hD hS hA [0, 1, 2] rfl [] rfl rfl (by decide) [0, 1, 2] rfl rfl rfl rfl rfl (fun H locs hP hD hS => ?_)
          exact retWR FX hr hlk dX2_isNoTwo_46 (nz (b01_v_X2_fails _ _)) hP hK hD hS (by decide) (by decide) (by rw [v_X2_isNoTwo, if_pos c_1, if_pos c_4, if_neg c_5, if_pos c_6]) (by rw [wth_X2_isNoTwo, if_pos c_1, if_pos c_4, if_neg c_5, if_pos c_6])
        · refine lv_iconst (v := 1) FX.1 FX.2.1 dX2_isNoTwo_38 (by decide) ?_
          refine lv_goto (tgt := 43) FX.1 FX.2.1 dX2_isNoTwo_39 (by decide) ?_
          refine c_WRV (wr := []) (wsN := (wM cI o bo po (wth_X2_fails 0 1) f g ak su gt lf rf kn)) (i0 := 0) (ci := 4) FX (k_X2_fails l D cI cB o bo po th f g ak su gt lf rf kn 0 1) mi_X2_fails rfl ml_RX2_43 (RMok.mk) hl.1 rfl (Nat.le_of_ble_eq_true rfl) dX2_isNoTwo_43 (by decide) hK hP hD hS hA [0, 1, 2] rfl [] rfl rfl (by decide) [0, 1, 2] rfl rfl rfl rfl rfl (fun H locs hP hD hS => ?_)
          exact retWR FX hr hlk dX2_isNoTwo_46 (nz (b01_v_X2_fails _ _)) hP hK hD hS (by decide) (by decide) (by rw [v_X2_isNoTwo, if_pos c_1, if_pos c_4, if_neg c_5, if_neg c_6]) (by rw [wth_X2_isNoTwo, if_pos c_1, if_pos c_4, if_neg c_5, if_neg c_6])
    · refine lv_iconst (v := 1) FX.1 FX.2.1 dX2_isNoTwo_15 (by decide) ?_
      refine lv_goto (tgt := 20) FX.1 FX.2.1 dX2_isNoTwo_16 (by decide) ?_
      refine lv_iload_n FX.1 FX.2.1 dX2_isNoTwo_20 rfl (lv_at hl 3 rfl) ?_
      refine lv_iconst (v := 0) FX.1 FX.2.1 dX2_isNoTwo_21 (by decide) ?_
      refine lv_iload FX.1 FX.2.1 dX2_isNoTwo_22 (lv_at hl 4 rfl) ?_
      refine c_RDs FX (r_X2_isIn l D cI cB k1 0 k2) mi_X2_isIn rfl ml_RX2_21 (RMok.mk) hl.1 rfl (Nat.le_of_ble_eq_true rfl) dX2_isNoTwo_24 (by decide) hK hP [] rfl ?_
      refine lv_if_eq (tgt := 38) FX.1 FX.2.1 dX2_isNoTwo_27 (by decide) (fun c_7 => ?_) (fun c_7 => ?_)
      · refine lv_iconst (v := 1) FX.1 FX.2.1 dX2_isNoTwo_38 (by decide) ?_
        refine lv_goto (tgt := 43) FX.1 FX.2.1 dX2_isNoTwo_39 (by decide) ?_
        refine c_WRV (wr := []) (wsN := (wM cI o bo po (wth_X2_fails 1 1) f g ak su gt lf rf kn)) (i0 := 0) (ci := 4) FX (k_X2_fails l D cI cB o bo po th f g ak su gt lf rf kn 1 1) mi_X2_fails rfl ml_RX2_43 (RMok.mk) hl.1 rfl (Nat.le_of_ble_eq_true rfl) dX2_isNoTwo_43 (by decide) hK hP hD hS hA [0, 1, 2] rfl [] rfl rfl (by decide) [0, 1, 2] rfl rfl rfl rfl rfl (fun H locs hP hD hS => ?_)
        exact retWR FX hr hlk dX2_isNoTwo_46 (nz (b01_v_X2_fails _ _)) hP hK hD hS (by decide) (by decide) (by rw [v_X2_isNoTwo, if_pos c_1, if_neg c_4, if_pos c_7]) (by rw [wth_X2_isNoTwo, if_pos c_1, if_neg c_4, if_pos c_7])
      · refine lv_iload FX.1 FX.2.1 dX2_isNoTwo_30 (lv_at hl 5 rfl) ?_
        refine c_RDs FX (r_X2_isNoNumber l D cI cB y1) mi_X2_isNoNumber rfl ml_RX2_25 (RMok.mk) hl.1 rfl (Nat.le_of_ble_eq_true rfl) dX2_isNoTwo_32 (by decide) hK hP [] rfl ?_
        refine lv_if_eq (tgt := 42) FX.1 FX.2.1 dX2_isNoTwo_35 (by decide) (fun c_8 => ?_) (fun c_8 => ?_)
        · refine lv_iconst (v := 0) FX.1 FX.2.1 dX2_isNoTwo_42 (by decide) ?_
          refine c_WRV (wr := []) (wsN := (wM cI o bo po (wth_X2_fails 1 0) f g ak su gt lf rf kn)) (i0 := 0) (ci := 4) FX (k_X2_fails l D cI cB o bo po th f g ak su gt lf rf kn 1 0) mi_X2_fails rfl ml_RX2_43 (RMok.mk) hl.1 rfl (Nat.le_of_ble_eq_true rfl) dX2_isNoTwo_43 (by decide) hK hP hD hS hA [0, 1, 2] rfl [] rfl rfl (by decide) [0, 1, 2] rfl rfl rfl rfl rfl (fun H locs hP hD hS => ?_)
          exact retWR FX hr hlk dX2_isNoTwo_46 (nz (b01_v_X2_fails _ _)) hP hK hD hS (by decide) (by decide) (by rw [v_X2_isNoTwo, if_pos c_1, if_neg c_4, if_neg c_7, if_pos c_8]) (by rw [wth_X2_isNoTwo, if_pos c_1, if_neg c_4, if_neg c_7, if_pos c_8])
        · refine lv_iconst (v := 1) FX.1 FX.2.1 dX2_isNoTwo_38 (by decide) ?_
          refine lv_goto (tgt := 43) FX.1 FX.2.1 dX2_isNoTwo_39 (by decide) ?_
          refine c_WRV (wr := []) (wsN := (wM cI o bo po (wth_X2_fails 1 1) f g ak su gt lf rf kn)) (i0 := 0) (ci := 4) FX (k_X2_fails l D cI cB o bo po th f g ak su gt lf rf kn 1 1) mi_X2_fails rfl ml_RX2_43 (RMok.mk) hl.1 rfl (Nat.le_of_ble_eq_true rfl) dX2_isNoTwo_43 (by decide) hK hP hD hS hA [0, 1, 2] rfl [] rfl rfl (by decide) [0, 1, 2] rfl rfl rfl rfl rfl (fun H locs hP hD hS => ?_)
          exact retWR FX hr hlk dX2_isNoTwo_46 (nz (b01_v_X2_fails _ _)) hP hK hD hS (by decide) (by decide) (by rw [v_X2_isNoTwo, if_pos c_1, if_neg c_4, if_neg c_7, if_neg c_8]) (by rw [wth_X2_isNoTwo, if_pos c_1, if_neg c_4, if_neg c_7, if_neg c_8])
theorem b01_v_X2_isNoTwo (b1 : Int32) (b2 : Int32) (k1 : Int32) (k2 : Int32) (y1 : Int32) : is01 (v_X2_isNoTwo b1 b2 k1 k2 y1) := by
  unfold v_X2_isNoTwo
  repeat' split
  all_goals first | with_reducible exact b01_v_X2_fails _ _ | exact Or.inl rfl | exact Or.inr rfl

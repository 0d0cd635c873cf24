set_option maxRecDepth 20000 in
theorem ml_RX0_145 : Cond.methodLink RX0 145 yX0_house ∈ bigW := bt2 51 rfl rfl
set_option maxRecDepth 20000 in
theorem mi_X0_house : MIv RX0 yX0_house cX0_house 2 (some .int) 1 := ⟨⟨bt2 54 rfl rfl, bt1 1 rfl rfl, by decide, by decide, by decide +kernel⟩, bt2 52 rfl rfl, bt2 53 rfl rfl⟩
set_option maxRecDepth 20000 in
theorem ml_RX0_152 : Cond.methodLink RX0 152 yX0_mixedWithBox ∈ bigW := bt2 68 rfl rfl
set_option maxRecDepth 20000 in
theorem mi_X0_mixedWithBox : MIv RX0 yX0_mixedWithBox cX0_mixedWithBox 8 (some .long) 2 := ⟨⟨bt2 71 rfl rfl, bt1 1 rfl rfl, by decide, by decide, by decide +kernel⟩, bt2 70 rfl rfl, bt0 7 rfl rfl⟩
set_option maxRecDepth 20000 in
theorem cL_RX0_143 : Cond.constantLong RX0 143 (7715) ∈ bigW := bt2 50 rfl rfl
set_option maxRecDepth 20000 in
theorem ml_RX0_156 : Cond.methodLink RX0 156 yX0_codes ∈ bigW := bt3 115 rfl rfl
set_option maxRecDepth 20000 in
theorem mi_X0_codes : MIv RX0 yX0_codes cX0_codes 5 (some .int) 3 := ⟨⟨bt3 118 rfl rfl, bt1 1 rfl rfl, by decide, by decide, by decide +kernel⟩, bt3 116 rfl rfl, bt3 117 rfl rfl⟩
set_option maxRecDepth 20000 in
theorem ml_RX0_159 : Cond.methodLink RX0 159 yX0_isSound ∈ bigW := bt3 119 rfl rfl
set_option maxRecDepth 20000 in
theorem mi_X0_isSound : MIv RX0 yX0_isSound cX0_isSound 4 (some .boolean) 0 := ⟨⟨bt1 107 rfl rfl, bt1 1 rfl rfl, by decide, by decide, by decide +kernel⟩, bt1 105 rfl rfl, bt1 106 rfl rfl⟩
set_option maxRecDepth 20000 in
theorem ml_RX0_1 : Cond.methodLink RX0 1 Lib.objectInit ∈ bigW := bt1 28 rfl rfl
set_option maxRecDepth 20000 in
theorem cl_RX0_16 : Cond.classLink RX0 16 "java/lang/StringBuilder" ∈ bigW := bt1 31 rfl rfl
set_option maxRecDepth 20000 in
theorem is_RJ4 : Cond.instantiable RJ4 4 ∈ bigW := bt1 32 rfl rfl
set_option maxRecDepth 20000 in
theorem in_RJ4 : Cond.initialized RJ4 ∈ bigW := bt1 3 rfl rfl
set_option maxRecDepth 20000 in
theorem ml_RX0_18 : Cond.methodLink RX0 18 yJ4_init_da8c8 ∈ bigW := bt1 33 rfl rfl
set_option maxRecDepth 20000 in
theorem mn_J4_init_da8c8 : MIi yJ4_init_da8c8 cJ4_init_da8c8 1 0 := ⟨⟨bt1 35 rfl rfl, bt1 3 rfl rfl, by decide, by decide, by decide +kernel⟩, bt1 34 rfl rfl, rfl⟩
set_option maxRecDepth 20000 in
theorem ml_RX2_1 : Cond.methodLink RX2 1 Lib.objectInit ∈ bigW := bt4 194 rfl rfl
set_option maxRecDepth 20000 in
theorem ml_RX1_1 : Cond.methodLink RX1 1 Lib.objectInit ∈ bigW := bt3 125 rfl rfl
theorem dX0_digest_0 : decode cX0_digest 0 = .ok (.ldc2_w 143, 3) := by decide +kernel
theorem dX0_digest_3 : decode cX0_digest 3 = .ok (.lstore_n 1, 1) := by decide +kernel
theorem dX0_digest_4 : decode cX0_digest 4 = .ok (.iconst 0, 1) := by decide +kernel
theorem dX0_digest_5 : decode cX0_digest 5 = .ok (.istore_n 3, 1) := by decide +kernel
theorem dX0_digest_6 : decode cX0_digest 6 = .ok (.iload_n 3, 1) := by decide +kernel
theorem dX0_digest_7 : decode cX0_digest 7 = .ok (.bipush 9, 2) := by decide +kernel
theorem dX0_digest_9 : decode cX0_digest 9 = .ok (.if_icmp .ge 20, 3) := by decide +kernel
theorem dX0_digest_12 : decode cX0_digest 12 = .ok (.lload_n 1, 1) := by decide +kernel
theorem dX0_digest_13 : decode cX0_digest 13 = .ok (.aload_n 0, 1) := by decide +kernel
theorem dX0_digest_14 : decode cX0_digest 14 = .ok (.iload_n 3, 1) := by decide +kernel
theorem dX0_digest_15 : decode cX0_digest 15 = .ok (.invokevirtual 145, 3) := by decide +kernel
theorem dX0_digest_18 : decode cX0_digest 18 = .ok (.i2l, 1) := by decide +kernel
theorem dX0_digest_19 : decode cX0_digest 19 = .ok (.invokestatic 148, 3) := by decide +kernel
theorem dX0_digest_22 : decode cX0_digest 22 = .ok (.lstore_n 1, 1) := by decide +kernel
theorem dX0_digest_23 : decode cX0_digest 23 = .ok (.iinc 3 1, 3) := by decide +kernel
theorem dX0_digest_26 : decode cX0_digest 26 = .ok (.goto (-20), 3) := by decide +kernel
theorem dX0_digest_29 : decode cX0_digest 29 = .ok (.iconst 0, 1) := by decide +kernel
theorem dX0_digest_30 : decode cX0_digest 30 = .ok (.istore_n 3, 1) := by decide +kernel
theorem dX0_digest_31 : decode cX0_digest 31 = .ok (.iload_n 3, 1) := by decide +kernel
theorem dX0_digest_32 : decode cX0_digest 32 = .ok (.bipush 6, 2) := by decide +kernel
theorem dX0_digest_34 : decode cX0_digest 34 = .ok (.if_icmp .ge 16, 3) := by decide +kernel
theorem dX0_digest_37 : decode cX0_digest 37 = .ok (.aload_n 0, 1) := by decide +kernel
theorem dX0_digest_38 : decode cX0_digest 38 = .ok (.lload_n 1, 1) := by decide +kernel
theorem dX0_digest_39 : decode cX0_digest 39 = .ok (.iload_n 3, 1) := by decide +kernel
theorem dX0_digest_40 : decode cX0_digest 40 = .ok (.invokevirtual 152, 3) := by decide +kernel
theorem dX0_digest_43 : decode cX0_digest 43 = .ok (.lstore_n 1, 1) := by decide +kernel
theorem dX0_digest_44 : decode cX0_digest 44 = .ok (.iinc 3 1, 3) := by decide +kernel
theorem dX0_digest_47 : decode cX0_digest 47 = .ok (.goto (-16), 3) := by decide +kernel
theorem dX0_digest_50 : decode cX0_digest 50 = .ok (.lload_n 1, 1) := by decide +kernel
theorem dX0_digest_51 : decode cX0_digest 51 = .ok (.aload_n 0, 1) := by decide +kernel
theorem dX0_digest_52 : decode cX0_digest 52 = .ok (.iconst 0, 1) := by decide +kernel
theorem dX0_digest_53 : decode cX0_digest 53 = .ok (.iconst 1, 1) := by decide +kernel
theorem dX0_digest_54 : decode cX0_digest 54 = .ok (.iconst 2, 1) := by decide +kernel
theorem dX0_digest_55 : decode cX0_digest 55 = .ok (.invokevirtual 156, 3) := by decide +kernel
theorem dX0_digest_58 : decode cX0_digest 58 = .ok (.i2l, 1) := by decide +kernel
theorem dX0_digest_59 : decode cX0_digest 59 = .ok (.invokestatic 148, 3) := by decide +kernel
theorem dX0_digest_62 : decode cX0_digest 62 = .ok (.lstore_n 1, 1) := by decide +kernel
theorem dX0_digest_63 : decode cX0_digest 63 = .ok (.lload_n 1, 1) := by decide +kernel
theorem dX0_digest_64 : decode cX0_digest 64 = .ok (.aload_n 0, 1) := by decide +kernel
theorem dX0_digest_65 : decode cX0_digest 65 = .ok (.iconst 3, 1) := by decide +kernel
theorem dX0_digest_66 : decode cX0_digest 66 = .ok (.iconst 4, 1) := by decide +kernel
theorem dX0_digest_67 : decode cX0_digest 67 = .ok (.iconst 5, 1) := by decide +kernel
theorem dX0_digest_68 : decode cX0_digest 68 = .ok (.invokevirtual 156, 3) := by decide +kernel
theorem dX0_digest_71 : decode cX0_digest 71 = .ok (.i2l, 1) := by decide +kernel
theorem dX0_digest_72 : decode cX0_digest 72 = .ok (.invokestatic 148, 3) := by decide +kernel
theorem dX0_digest_75 : decode cX0_digest 75 = .ok (.lstore_n 1, 1) := by decide +kernel
theorem dX0_digest_76 : decode cX0_digest 76 = .ok (.iconst 0, 1) := by decide +kernel
theorem dX0_digest_77 : decode cX0_digest 77 = .ok (.istore_n 3, 1) := by decide +kernel
theorem dX0_digest_78 : decode cX0_digest 78 = .ok (.iload_n 3, 1) := by decide +kernel
theorem dX0_digest_79 : decode cX0_digest 79 = .ok (.iconst 2, 1) := by decide +kernel
theorem dX0_digest_80 : decode cX0_digest 80 = .ok (.if_icmp .ge 39, 3) := by decide +kernel
theorem dX0_digest_83 : decode cX0_digest 83 = .ok (.lload_n 1, 1) := by decide +kernel
theorem dX0_digest_84 : decode cX0_digest 84 = .ok (.aload_n 0, 1) := by decide +kernel
theorem dX0_digest_85 : decode cX0_digest 85 = .ok (.getfield 13, 3) := by decide +kernel
theorem dX0_digest_88 : decode cX0_digest 88 = .ok (.iload_n 3, 1) := by decide +kernel
theorem dX0_digest_89 : decode cX0_digest 89 = .ok (.iaload, 1) := by decide +kernel
theorem dX0_digest_90 : decode cX0_digest 90 = .ok (.invokestatic 30, 3) := by decide +kernel
theorem dX0_digest_93 : decode cX0_digest 93 = .ok (.i2l, 1) := by decide +kernel
theorem dX0_digest_94 : decode cX0_digest 94 = .ok (.invokestatic 148, 3) := by decide +kernel
theorem dX0_digest_97 : decode cX0_digest 97 = .ok (.lstore_n 1, 1) := by decide +kernel
theorem dX0_digest_98 : decode cX0_digest 98 = .ok (.lload_n 1, 1) := by decide +kernel
theorem dX0_digest_99 : decode cX0_digest 99 = .ok (.aload_n 0, 1) := by decide +kernel
theorem dX0_digest_100 : decode cX0_digest 100 = .ok (.getfield 13, 3) := by decide +kernel
theorem dX0_digest_103 : decode cX0_digest 103 = .ok (.iload_n 3, 1) := by decide +kernel
theorem dX0_digest_104 : decode cX0_digest 104 = .ok (.iaload, 1) := by decide +kernel
theorem dX0_digest_105 : decode cX0_digest 105 = .ok (.invokestatic 82, 3) := by decide +kernel
theorem dX0_digest_108 : decode cX0_digest 108 = .ok (.i2l, 1) := by decide +kernel
theorem dX0_digest_109 : decode cX0_digest 109 = .ok (.invokestatic 148, 3) := by decide +kernel
theorem dX0_digest_112 : decode cX0_digest 112 = .ok (.lstore_n 1, 1) := by decide +kernel
theorem dX0_digest_113 : decode cX0_digest 113 = .ok (.iinc 3 1, 3) := by decide +kernel
theorem dX0_digest_116 : decode cX0_digest 116 = .ok (.goto (-38), 3) := by decide +kernel
theorem dX0_digest_119 : decode cX0_digest 119 = .ok (.lload_n 1, 1) := by decide +kernel
theorem dX0_digest_120 : decode cX0_digest 120 = .ok (.aload_n 0, 1) := by decide +kernel
theorem dX0_digest_121 : decode cX0_digest 121 = .ok (.invokevirtual 159, 3) := by decide +kernel
theorem dX0_digest_124 : decode cX0_digest 124 = .ok (.ifCond .eq 7, 3) := by decide +kernel
theorem dX0_digest_127 : decode cX0_digest 127 = .ok (.lconst 1, 1) := by decide +kernel
theorem dX0_digest_128 : decode cX0_digest 128 = .ok (.goto 4, 3) := by decide +kernel
theorem dX0_digest_132 : decode cX0_digest 132 = .ok (.invokestatic 148, 3) := by decide +kernel
theorem dX0_digest_135 : decode cX0_digest 135 = .ok (.lreturn, 1) := by decide +kernel
theorem dX0_init_0 : decode cX0_init 0 = .ok (.aload_n 0, 1) := by decide +kernel
theorem dX0_init_1 : decode cX0_init 1 = .ok (.invokespecial 1, 3) := by decide +kernel
theorem dX0_init_4 : decode cX0_init 4 = .ok (.aload_n 0, 1) := by decide +kernel
theorem dX0_init_5 : decode cX0_init 5 = .ok (.bipush 6, 2) := by decide +kernel
theorem dX0_init_7 : decode cX0_init 7 = .ok (.newarray .int, 2) := by decide +kernel
theorem dX0_init_9 : decode cX0_init 9 = .ok (.putfield 9, 3) := by decide +kernel
theorem dX0_init_12 : decode cX0_init 12 = .ok (.iconst 0, 1) := by decide +kernel
theorem dX0_init_13 : decode cX0_init 13 = .ok (.istore_n 1, 1) := by decide +kernel
theorem dX0_init_14 : decode cX0_init 14 = .ok (.iload_n 1, 1) := by decide +kernel
theorem dX0_init_15 : decode cX0_init 15 = .ok (.bipush 6, 2) := by decide +kernel
theorem dX0_init_17 : decode cX0_init 17 = .ok (.if_icmp .ge 18, 3) := by decide +kernel
theorem dX0_init_20 : decode cX0_init 20 = .ok (.aload_n 0, 1) := by decide +kernel
theorem dX0_init_21 : decode cX0_init 21 = .ok (.getfield 9, 3) := by decide +kernel
theorem dX0_init_24 : decode cX0_init 24 = .ok (.iload_n 1, 1) := by decide +kernel
theorem dX0_init_25 : decode cX0_init 25 = .ok (.sipush (-10000), 3) := by decide +kernel
theorem dX0_init_28 : decode cX0_init 28 = .ok (.iastore, 1) := by decide +kernel
theorem dX0_init_29 : decode cX0_init 29 = .ok (.iinc 1 1, 3) := by decide +kernel
theorem dX0_init_32 : decode cX0_init 32 = .ok (.goto (-18), 3) := by decide +kernel
theorem dX0_init_35 : decode cX0_init 35 = .ok (.aload_n 0, 1) := by decide +kernel
theorem dX0_init_36 : decode cX0_init 36 = .ok (.iconst 2, 1) := by decide +kernel
theorem dX0_init_37 : decode cX0_init 37 = .ok (.newarray .int, 2) := by decide +kernel
theorem dX0_init_39 : decode cX0_init 39 = .ok (.putfield 13, 3) := by decide +kernel
theorem dX0_init_42 : decode cX0_init 42 = .ok (.iconst 0, 1) := by decide +kernel
theorem dX0_init_43 : decode cX0_init 43 = .ok (.istore_n 1, 1) := by decide +kernel
theorem dX0_init_44 : decode cX0_init 44 = .ok (.iload_n 1, 1) := by decide +kernel
theorem dX0_init_45 : decode cX0_init 45 = .ok (.iconst 2, 1) := by decide +kernel
theorem dX0_init_46 : decode cX0_init 46 = .ok (.if_icmp .ge 18, 3) := by decide +kernel
theorem dX0_init_49 : decode cX0_init 49 = .ok (.aload_n 0, 1) := by decide +kernel
theorem dX0_init_50 : decode cX0_init 50 = .ok (.getfield 13, 3) := by decide +kernel
theorem dX0_init_53 : decode cX0_init 53 = .ok (.iload_n 1, 1) := by decide +kernel
theorem dX0_init_54 : decode cX0_init 54 = .ok (.sipush (-10000), 3) := by decide +kernel
theorem dX0_init_57 : decode cX0_init 57 = .ok (.iastore, 1) := by decide +kernel
theorem dX0_init_58 : decode cX0_init 58 = .ok (.iinc 1 1, 3) := by decide +kernel
theorem dX0_init_61 : decode cX0_init 61 = .ok (.goto (-17), 3) := by decide +kernel
theorem dX0_init_64 : decode cX0_init 64 = .ok (.aload_n 0, 1) := by decide +kernel
theorem dX0_init_65 : decode cX0_init 65 = .ok (.new 16, 3) := by decide +kernel
theorem dX0_init_68 : decode cX0_init 68 = .ok (.dup, 1) := by decide +kernel
theorem dX0_init_69 : decode cX0_init 69 = .ok (.invokespecial 18, 3) := by decide +kernel
theorem dX0_init_72 : decode cX0_init 72 = .ok (.putfield 19, 3) := by decide +kernel
theorem dX0_init_75 : decode cX0_init 75 = .ok (.return_, 1) := by decide +kernel
theorem dX1_init_0 : decode cX1_init 0 = .ok (.aload_n 0, 1) := by decide +kernel
theorem dX1_init_1 : decode cX1_init 1 = .ok (.invokespecial 1, 3) := by decide +kernel
theorem dX1_init_4 : decode cX1_init 4 = .ok (.return_, 1) := by decide +kernel
theorem dX2_init_0 : decode cX2_init 0 = .ok (.aload_n 0, 1) := by decide +kernel
theorem dX2_init_1 : decode cX2_init 1 = .ok (.invokespecial 1, 3) := by decide +kernel
theorem dX2_init_4 : decode cX2_init 4 = .ok (.aload_n 0, 1) := by decide +kernel
theorem dX2_init_5 : decode cX2_init 5 = .ok (.bipush 6, 2) := by decide +kernel
theorem dX2_init_7 : decode cX2_init 7 = .ok (.newarray .int, 2) := by decide +kernel
theorem dX2_init_9 : decode cX2_init 9 = .ok (.dup, 1) := by decide +kernel
theorem dX2_init_10 : decode cX2_init 10 = .ok (.iconst 0, 1) := by decide +kernel
theorem dX2_init_11 : decode cX2_init 11 = .ok (.ldc 9, 2) := by decide +kernel
theorem dX2_init_13 : decode cX2_init 13 = .ok (.iastore, 1) := by decide +kernel
theorem dX2_init_14 : decode cX2_init 14 = .ok (.dup, 1) := by decide +kernel
theorem dX2_init_15 : decode cX2_init 15 = .ok (.iconst 1, 1) := by decide +kernel
theorem dX2_init_16 : decode cX2_init 16 = .ok (.ldc 9, 2) := by decide +kernel
theorem dX2_init_18 : decode cX2_init 18 = .ok (.iastore, 1) := by decide +kernel
theorem dX2_init_19 : decode cX2_init 19 = .ok (.dup, 1) := by decide +kernel
theorem dX2_init_20 : decode cX2_init 20 = .ok (.iconst 2, 1) := by decide +kernel
theorem dX2_init_21 : decode cX2_init 21 = .ok (.ldc 9, 2) := by decide +kernel
theorem dX2_init_23 : decode cX2_init 23 = .ok (.iastore, 1) := by decide +kernel
theorem dX2_init_24 : decode cX2_init 24 = .ok (.dup, 1) := by decide +kernel
theorem dX2_init_25 : decode cX2_init 25 = .ok (.iconst 3, 1) := by decide +kernel
theorem dX2_init_26 : decode cX2_init 26 = .ok (.ldc 9, 2) := by decide +kernel
theorem dX2_init_28 : decode cX2_init 28 = .ok (.iastore, 1) := by decide +kernel
theorem dX2_init_29 : decode cX2_init 29 = .ok (.dup, 1) := by decide +kernel
theorem dX2_init_30 : decode cX2_init 30 = .ok (.iconst 4, 1) := by decide +kernel
theorem dX2_init_31 : decode cX2_init 31 = .ok (.ldc 9, 2) := by decide +kernel
theorem dX2_init_33 : decode cX2_init 33 = .ok (.iastore, 1) := by decide +kernel
theorem dX2_init_34 : decode cX2_init 34 = .ok (.dup, 1) := by decide +kernel
theorem dX2_init_35 : decode cX2_init 35 = .ok (.iconst 5, 1) := by decide +kernel
theorem dX2_init_36 : decode cX2_init 36 = .ok (.ldc 9, 2) := by decide +kernel
theorem dX2_init_38 : decode cX2_init 38 = .ok (.iastore, 1) := by decide +kernel
theorem dX2_init_39 : decode cX2_init 39 = .ok (.putfield 10, 3) := by decide +kernel
theorem dX2_init_42 : decode cX2_init 42 = .ok (.aload_n 0, 1) := by decide +kernel
theorem dX2_init_43 : decode cX2_init 43 = .ok (.iconst 2, 1) := by decide +kernel
theorem dX2_init_44 : decode cX2_init 44 = .ok (.newarray .int, 2) := by decide +kernel
theorem dX2_init_46 : decode cX2_init 46 = .ok (.dup, 1) := by decide +kernel
theorem dX2_init_47 : decode cX2_init 47 = .ok (.iconst 0, 1) := by decide +kernel
theorem dX2_init_48 : decode cX2_init 48 = .ok (.ldc 9, 2) := by decide +kernel
theorem dX2_init_50 : decode cX2_init 50 = .ok (.iastore, 1) := by decide +kernel
theorem dX2_init_51 : decode cX2_init 51 = .ok (.dup, 1) := by decide +kernel
theorem dX2_init_52 : decode cX2_init 52 = .ok (.iconst 1, 1) := by decide +kernel
theorem dX2_init_53 : decode cX2_init 53 = .ok (.ldc 9, 2) := by decide +kernel
theorem dX2_init_55 : decode cX2_init 55 = .ok (.iastore, 1) := by decide +kernel
theorem dX2_init_56 : decode cX2_init 56 = .ok (.putfield 14, 3) := by decide +kernel
theorem dX2_init_59 : decode cX2_init 59 = .ok (.return_, 1) := by decide +kernel
def y_hs (f g : Nat → Int32) (ak su gt lf rf kn : Int32) : Nat → Int64
  | 0 => 7715
  | n + 1 => v_X0_mixed (y_hs f g ak su gt lf rf kn n) (v_X0_house (nI n) f g ak su gt lf rf kn).toInt64
def y_bx (f : Nat → Int32) (d : Int64) : Nat → Int64
  | 0 => d
  | n + 1 => y_box f (nI n) (y_bx f d n)
def y_pl (g : Nat → Int32) (d : Int64) : Nat → Int64
  | 0 => d
  | n + 1 => v_X0_mixed (v_X0_mixed (y_pl g d n) (v_X0_fullness (g n)).toInt64) (v_X0_numberOrZero (g n)).toInt64
def y_dig (f g : Nat → Int32) (ak su gt lf rf kn : Int32) : Int64 :=
  v_X0_mixed (y_pl g (v_X0_mixed (v_X0_mixed (y_bx f (y_hs f g ak su gt lf rf kn 9) 6) (v_X0_codes 0 1 2 f).toInt64) (v_X0_codes 3 4 5 f).toInt64) 2) 1
set_option maxRecDepth 100000 in
set_option maxHeartbeats 4000000 in
theorem L_X0_digest_6 {p : Program} {l : Launch} {e : Env} {R : Room} {s : State} {m : MethodId} {args : Array Value} {below : List Frame} {meth : Method} {c : Code} {H : Heap} {locs : List Loc} {cells slots : Nat} {Q : State → Prop} (D : va_G) (cI cB : ClassId) (x bx px tx : Nat) (f g : Nat → Int32) (ak su gt lf rf kn : Int32) (hRf : 3 ≤ R.frames) (hRl : 66 ≤ R.locals) (hf : cells ≤ R.cells ∧ slots ≤ R.slots) (FX : CallFix p m c cX0_digest 4 s args bigW RX0) (hK : va_K D KL (TY cI cB) s) (hP : va_P D KL (wX cI x bx px tx f g ak su gt lf rf kn) H)
    (kk : ∀ ls : Array Slot, lv_has ls 4 [(3, .int 9), (0, .ref x), (1, .long (y_hs f g ak su gt lf rf kn (9)))] → W p l e R s m args below meth c H locs cells slots Q (F0 m 29 ls [])) : ∀ (j i : Nat), i + j = 9 → ∀ ls : Array Slot, lv_has ls 4 [(3, .int (nI i)), (0, .ref x), (1, .long (y_hs f g ak su gt lf rf kn (i)))] → W p l e R s m args below meth c H locs cells slots Q (F0 m 6 ls []) := by
  intro j
  induction j with
  | zero =>
    intro i hij ls hl
    obtain rfl : i = 9 := by omega
    have hl : lv_has ls 4 [(3, .int 9), (0, .ref x), (1, .long (y_hs f g ak su gt lf rf kn (9)))] := hl
    refine lv_iload_n FX.1 FX.2.1 dX0_digest_6 rfl (lv_at hl 0 rfl) ?_
    refine lv_bipush (v := 9) FX.1 FX.2.1 dX0_digest_7 (by decide) ?_
    refine lv_icmp_ge (tgt := 29) FX.1 FX.2.1 dX0_digest_9 (by decide) (fun c_101 => ?_) (fun c_101 => ?_)
    · exact kk ls (lv_sub hl [0, 1, 2] rfl)
    · exact absurd c_101 (by decide)
  | succ j ih =>
    intro i hij ls hl
    have hlt : i < 9 := by omega
    refine lv_iload_n FX.1 FX.2.1 dX0_digest_6 rfl (lv_at hl 0 rfl) ?_
    refine lv_bipush (v := 9) FX.1 FX.2.1 dX0_digest_7 (by decide) ?_
    refine lv_icmp_ge (tgt := 29) FX.1 FX.2.1 dX0_digest_9 (by decide) (fun c_1 => ?_) (fun c_1 => ?_)
    · exact absurd c_1 (nI_ge (b := 9) hlt (by decide))
    · refine lv_lload_n FX.1 FX.2.1 dX0_digest_12 rfl (lv_at hl 2 rfl) ?_
      refine lv_aload_n FX.1 FX.2.1 dX0_digest_13 rfl (lv_at hl 1 rfl) ?_
      refine lv_iload_n FX.1 FX.2.1 dX0_digest_14 rfl (lv_at hl 0 rfl) ?_
      have q_2 : (e_X0_house (nI i)) = 0 := (e0_X0_house (vp_in_nI hlt (by decide)))
      refine c_RDV (i0 := 0) (ci := 2) FX (r_X0_house l D cI cB x bx px tx f g ak su gt lf rf kn (nI i) q_2) mi_X0_house rfl ml_RX0_145 (RMk.mk hRf hRl) hl.1 rfl (Nat.le_of_ble_eq_true rfl) dX0_digest_15 hf hK hP [0, 1, 2] rfl rfl rfl rfl ?_
      refine lv_i2l (v := (v_X0_house (nI i) f g ak su gt lf rf kn).toInt64) FX.1 FX.2.1 dX0_digest_18 rfl ?_
      refine c_RDls FX (r_X0_mixed l D cI cB (y_hs f g ak su gt lf rf kn (i)) ((v_X0_house (nI i) f g ak su gt lf rf kn).toInt64)) mi_X0_mixed rfl ml_RX0_148 (RMk.mk hRf hRl) hl.1 rfl (Nat.le_of_ble_eq_true rfl) dX0_digest_19 hf hK hP [] rfl ?_
      refine lv_lstore_n (lv' := [(1, .long (v_X0_mixed (y_hs f g ak su gt lf rf kn (i)) ((v_X0_house (nI i) f g ak su gt lf rf kn).toInt64))), (3, .int (nI i)), (0, .ref x)]) FX.1 FX.2.1 dX0_digest_22 rfl hl (by decide) rfl (fun ls hl => ?_)
      refine lv_iinc (v := nI (i + 1)) (lv' := [(3, .int (nI (i + 1))), (1, .long (v_X0_mixed (y_hs f g ak su gt lf rf kn (i)) ((v_X0_house (nI i) f g ak su gt lf rf kn).toInt64))), (0, .ref x)]) FX.1 FX.2.1 dX0_digest_23 hl (k := 1) rfl (by exact nI_1 _) (by decide) rfl (fun ls hl => ?_)
      refine lv_goto (tgt := 6) FX.1 FX.2.1 dX0_digest_26 (by decide) ?_
      exact ih (i + 1) (by omega) ls (lv_sub hl [0, 2, 1] rfl)
set_option maxRecDepth 100000 in
set_option maxHeartbeats 4000000 in
theorem L_X0_digest_78 {p : Program} {l : Launch} {e : Env} {R : Room} {s : State} {m : MethodId} {args : Array Value} {below : List Frame} {meth : Method} {c : Code} {H : Heap} {locs : List Loc} {cells slots : Nat} {Q : State → Prop} (D : va_G) (cI cB : ClassId) (x bx px tx : Nat) (f g : Nat → Int32) (ak su gt lf rf kn : Int32) (d9 : Int64) (hRf : 1 ≤ R.frames) (hRl : 23 ≤ R.locals) (hf : cells ≤ R.cells ∧ slots ≤ R.slots) (FX : CallFix p m c cX0_digest 4 s args bigW RX0) (hK : va_K D KL (TY cI cB) s) (hP : va_P D KL (wX cI x bx px tx f g ak su gt lf rf kn) H)
    (kk : ∀ ls : Array Slot, lv_has ls 4 [(3, .int 2), (0, .ref x), (1, .long (y_pl g d9 (2)))] → W p l e R s m args below meth c H locs cells slots Q (F0 m 119 ls [])) : ∀ (j i : Nat), i + j = 2 → ∀ ls : Array Slot, lv_has ls 4 [(3, .int (nI i)), (0, .ref x), (1, .long (y_pl g d9 (i)))] → W p l e R s m args below meth c H locs cells slots Q (F0 m 78 ls []) := by
  intro j
  induction j with
  | zero =>
    intro i hij ls hl
    obtain rfl : i = 2 := by omega
    have hl : lv_has ls 4 [(3, .int 2), (0, .ref x), (1, .long (y_pl g d9 (2)))] := hl
    refine lv_iload_n FX.1 FX.2.1 dX0_digest_78 rfl (lv_at hl 0 rfl) ?_
    refine lv_iconst (v := 2) FX.1 FX.2.1 dX0_digest_79 (by decide) ?_
    refine lv_icmp_ge (tgt := 119) FX.1 FX.2.1 dX0_digest_80 (by decide) (fun c_101 => ?_) (fun c_101 => ?_)
    · exact kk ls (lv_sub hl [0, 1, 2] rfl)
    · exact absurd c_101 (by decide)
  | succ j ih =>
    intro i hij ls hl
    have hlt : i < 2 := by omega
    refine lv_iload_n FX.1 FX.2.1 dX0_digest_78 rfl (lv_at hl 0 rfl) ?_
    refine lv_iconst (v := 2) FX.1 FX.2.1 dX0_digest_79 (by decide) ?_
    refine lv_icmp_ge (tgt := 119) FX.1 FX.2.1 dX0_digest_80 (by decide) (fun c_1 => ?_) (fun c_1 => ?_)
    · exact absurd c_1 (nI_ge (b := 2) hlt (by decide))
    · refine lv_lload_n FX.1 FX.2.1 dX0_digest_83 rfl (lv_at hl 2 rfl) ?_
      refine lv_aload_n FX.1 FX.2.1 dX0_digest_84 rfl (lv_at hl 1 rfl) ?_
      refine va_get (D := D) (ci := 2) (v := .ref px) (C := RX0) (T := TX0) (N := 9) FX.1 FX.2.1 FX.2.2.2.2 inX0 FX.2.2.2.1 hK hP 0 rfl rfl 1 (by decide) (FX.2.2.2.2 _ fl_RX0_13) (fun _ h9 => h9) rfl dX0_digest_85 ?_
      refine lv_iload_n FX.1 FX.2.1 dX0_digest_88 rfl (lv_at hl 0 rfl) ?_
      refine p_iald (v := g i) FX hK hP 2 rfl (vp_in_nI hlt (by decide)) dX0_digest_89 (congrArg g (nI_clamp (by omega))) ?_
      refine c_RDs FX (r_X0_fullness l D cI cB (g i)) mi_X0_fullness rfl ml_RX0_30 (RMk.mk hRf hRl) hl.1 rfl (Nat.le_of_ble_eq_true rfl) dX0_digest_90 hf hK hP [] rfl ?_
      refine lv_i2l (v := (v_X0_fullness (g i)).toInt64) FX.1 FX.2.1 dX0_digest_93 rfl ?_
      refine c_RDls FX (r_X0_mixed l D cI cB (y_pl g d9 (i)) ((v_X0_fullness (g i)).toInt64)) mi_X0_mixed rfl ml_RX0_148 (RMk.mk hRf hRl) hl.1 rfl (Nat.le_of_ble_eq_true rfl) dX0_digest_94 hf hK hP [] rfl ?_
      refine lv_lstore_n (lv' := [(1, .long (v_X0_mixed (y_pl g d9 (i)) ((v_X0_fullness (g i)).toInt64))), (3, .int (nI i)), (0, .ref x)]) FX.1 FX.2.1 dX0_digest_97 rfl hl (by decide) rfl (fun ls hl => ?_)
      refine lv_lload_n FX.1 FX.2.1 dX0_digest_98 rfl (lv_at hl 0 rfl) ?_
      refine lv_aload_n FX.1 FX.2.1 dX0_digest_99 rfl (lv_at hl 2 rfl) ?_
      refine va_get (D := D) (ci := 2) (v := .ref px) (C := RX0) (T := TX0) (N := 9) FX.1 FX.2.1 FX.2.2.2.2 inX0 FX.2.2.2.1 hK hP 0 rfl rfl 1 (by decide) (FX.2.2.2.2 _ fl_RX0_13) (fun _ h9 => h9) rfl dX0_digest_100 ?_
      refine lv_iload_n FX.1 FX.2.1 dX0_digest_103 rfl (lv_at hl 1 rfl) ?_
      refine p_iald (v := g i) FX hK hP 2 rfl (vp_in_nI hlt (by decide)) dX0_digest_104 (congrArg g (nI_clamp (by omega))) ?_
      refine c_RDs FX (r_X0_numberOrZero l D cI cB (g i)) mi_X0_numberOrZero rfl ml_RX0_82 (RMk.mk hRf hRl) hl.1 rfl (Nat.le_of_ble_eq_true rfl) dX0_digest_105 hf hK hP [] rfl ?_
      refine lv_i2l (v := (v_X0_numberOrZero (g i)).toInt64) FX.1 FX.2.1 dX0_digest_108 rfl ?_
      refine c_RDls FX (r_X0_mixed l D cI cB (v_X0_mixed (y_pl g d9 (i)) ((v_X0_fullness (g i)).toInt64)) ((v_X0_numberOrZero (g i)).toInt64)) mi_X0_mixed rfl ml_RX0_148 (RMk.mk hRf hRl) hl.1 rfl (Nat.le_of_ble_eq_true rfl) dX0_digest_109 hf hK hP [] rfl ?_
      refine lv_lstore_n (lv' := [(1, .long (v_X0_mixed (v_X0_mixed (y_pl g d9 (i)) ((v_X0_fullness (g i)).toInt64)) ((v_X0_numberOrZero (g i)).toInt64))), (3, .int (nI i)), (0, .ref x)]) FX.1 FX.2.1 dX0_digest_112 rfl hl (by decide) rfl (fun ls hl => ?_)
      refine lv_iinc (v := nI (i + 1)) (lv' := [(3, .int (nI (i + 1))), (1, .long (v_X0_mixed (v_X0_mixed (y_pl g d9 (i)) ((v_X0_fullness (g i)).toInt64)) ((v_X0_numberOrZero (g i)).toInt64))), (0, .ref x)]) FX.1 FX.2.1 dX0_digest_113 hl (k := 1) rfl (by exact nI_1 _) (by decide) rfl (fun ls hl => ?_)
      refine lv_goto (tgt := 78) FX.1 FX.2.1 dX0_digest_116 (by decide) ?_
      exact ih (i + 1) (by omega) ls (lv_sub hl [0, 2, 1] rfl)
set_option maxRecDepth 100000 in
set_option maxHeartbeats 4000000 in
theorem LJ_X0_digest {p : Program} {l : Launch} {e : Env} {R : Room} {s : State} {m : MethodId} {args : Array Value} {below : List Frame} {meth : Method} {c : Code} {Q : State → Prop} {A : Nat → Prop} (D : va_G) (cI cB : ClassId) (x bx px t bt : Nat) (f g : Nat → Int32) (ak su gt lf rf kn : Int32) (to tt : Nat) (go gu : Nat → Int32) (na nv : Nat) (nf : Nat → Int32) (d9 : Int64) (hRf : 7 ≤ R.frames) (hRl : 196 ≤ R.locals) (FX : CallFix p m c cX0_digest 4 s args bigW RX0) (hK : va_K D KL (TY cI cB) s) (hA : ∀ q : Nat, s.heap.size ≤ q → A q) (hz : (zAnd zC (zAnd (zAnd (zDg "DigitOnes" to go) (zDg "DigitTens" tt gu)) (zAnd (zR RX0 201 "none" na) (zS na nv 4 nf)))) A s s.heap) (hf : sb_Fit nf) (ho6 : ok6 f)
    (kk : ∀ (ls : Array Slot) (H : Heap) (locs : List Loc) (ml cn : Int32) (bs : Nat → Int32), sb_Fit bs → 0 ≤ cn → va_P D KL [(x, .inr (2, [.ref bx, .ref px, .ref t, .int ak, .int su, .int gt, .int lf, .int rf, .int kn])), (bx, .inl (cI, 6, .inl f)), (px, .inl (cI, 2, .inl g)), (t, .inr (1, [.ref bt, .int 0, .int ml, .int cn])), (bt, .inl (cB, 16, .inl bs))] H → va_D A [(x, .inr (2, [.ref bx, .ref px, .ref t, .int ak, .int su, .int gt, .int lf, .int rf, .int kn])), (bx, .inl (cI, 6, .inl f)), (px, .inl (cI, 2, .inl g)), (t, .inr (1, [.ref bt, .int 0, .int ml, .int cn])), (bt, .inl (cB, 16, .inl bs))] → va_S A s.heap H locs → lv_has ls 4 [(3, .int 6), (0, .ref x), (1, .long (y_bx f d9 (6)))] → W p l e R s m args below meth c H locs 0 0 Q (F0 m 50 ls [])) : ∀ (j i : Nat), i + j = 6 → ∀ (H : Heap) (locs : List Loc) (ml cn : Int32) (bs : Nat → Int32), sb_Fit bs → 0 ≤ cn → va_P D KL [(x, .inr (2, [.ref bx, .ref px, .ref t, .int ak, .int su, .int gt, .int lf, .int rf, .int kn])), (bx, .inl (cI, 6, .inl f)), (px, .inl (cI, 2, .inl g)), (t, .inr (1, [.ref bt, .int 0, .int ml, .int cn])), (bt, .inl (cB, 16, .inl bs))] H → va_D A [(x, .inr (2, [.ref bx, .ref px, .ref t, .int ak, .int su, .int gt, .int lf, .int rf, .int kn])), (bx, .inl (cI, 6, .inl f)), (px, .inl (cI, 2, .inl g)), (t, .inr (1, [.ref bt, .int 0, .int ml, .int cn])), (bt, .inl (cB, 16, .inl bs))] → va_S A s.heap H locs → ∀ ls : Array Slot, lv_has ls 4 [(3, .int (nI i)), (0, .ref x), (1, .long (y_bx f d9 (i)))] → W p l e R s m args below meth c H locs 0 0 Q (F0 m 31 ls []) := by
  intro j
  induction j with
  | zero =>
    intro i hij H locs ml cn bs hb hc hP hD hS ls hl
    obtain rfl : i = 6 := by omega
    have hl : lv_has ls 4 [(3, .int 6), (0, .ref x), (1, .long (y_bx f d9 (6)))] := hl
    refine lv_iload_n FX.1 FX.2.1 dX0_digest_31 rfl (lv_at hl 0 rfl) ?_
    refine lv_bipush (v := 6) FX.1 FX.2.1 dX0_digest_32 (by decide) ?_
    refine lv_icmp_ge (tgt := 50) FX.1 FX.2.1 dX0_digest_34 (by decide) (fun c_601 => ?_) (fun c_601 => ?_)
    · exact kk ls H locs ml cn bs hb hc hP hD hS (lv_sub hl [0, 1, 2] rfl)
    · exact absurd c_601 (by decide)
  | succ j ih =>
    intro i hij H locs ml cn bs hb hc hP hD hS ls hl
    have hlt : i < 6 := by omega
    refine lv_iload_n FX.1 FX.2.1 dX0_digest_31 rfl (lv_at hl 0 rfl) ?_
    refine lv_bipush (v := 6) FX.1 FX.2.1 dX0_digest_32 (by decide) ?_
    refine lv_icmp_ge (tgt := 50) FX.1 FX.2.1 dX0_digest_34 (by decide) (fun c_501 => ?_) (fun c_501 => ?_)
    · exact absurd c_501 (nI_ge (b := 6) hlt (by decide))
    · refine lv_aload_n FX.1 FX.2.1 dX0_digest_37 rfl (lv_at hl 1 rfl) ?_
      refine lv_lload_n FX.1 FX.2.1 dX0_digest_38 rfl (lv_at hl 2 rfl) ?_
      refine lv_iload_n FX.1 FX.2.1 dX0_digest_39 rfl (lv_at hl 0 rfl) ?_
      refine c_J (W0 := [(x, .inr (2, [.ref bx, .ref px, .ref t, .int ak, .int su, .int gt, .int lf, .int rf, .int kn])), (bx, .inl (cI, 6, .inl f)), (px, .inl (cI, 2, .inl g)), (t, .inr (1, [.ref bt, .int 0, .int ml, .int cn])), (bt, .inl (cB, 16, .inl bs))]) (wr := []) (wsN := fun u1 => [(x, .inr (2, [.ref bx, .ref px, .ref t, .int ak, .int su, .int gt, .int lf, .int rf, .int kn])), (bx, .inl (cI, 6, .inl f)), (px, .inl (cI, 2, .inl g)), (t, .inr (1, [.ref bt, .int 0, .int u1.1, .int (tlen (f (nI i).toNatClampNeg))])), (bt, .inl (cB, 16, .inl u1.2))]) (va_runV FX ((j_X0_mixedWithBox l D cI cB x bx px t bt f g ak su gt lf rf kn ml cn bs (y_bx f d9 (i)) (nI i) to tt go gu na nv nf hf hb hc ho6 (vp_in_nI hlt (by decide))) H.size) (my_cwV FX.2.2.2.2 mi_X0_mixedWithBox ml_RX0_152 (RMk.mk hRf hRl)) ⟨PJ.blind (zAnd_ok zC_ok (zAnd_ok (zAnd_ok zDg_ok zDg_ok) (zAnd_ok zR_ok zS_ok))), (my_recv (i0 := 0) (ci := 2) hK hP rfl rfl rfl), fun U hU hW => ⟨rfl, my_preJ (zAnd_ok zC_ok (zAnd_ok (zAnd_ok zDg_ok zDg_ok) (zAnd_ok zR_ok zS_ok))) hz hS hA hK hP hD [0, 1, 2, 3, 4] rfl rfl U hU hW⟩⟩ rfl rfl hl.1 rfl (lv_room (Nat.le_of_ble_eq_true rfl)) dX0_digest_40 ⟨Nat.zero_le _, Nat.zero_le _⟩) hP hD hS hA [0, 1, 2, 3, 4] rfl [] rfl (by decide) [0, 1, 2, 3, 4] (fun _ => rfl) rfl (fun u1 H locs hp_1 hP hD hS => ?_)
      have hP : va_P D KL [(x, .inr (2, [.ref bx, .ref px, .ref t, .int ak, .int su, .int gt, .int lf, .int rf, .int kn])), (bx, .inl (cI, 6, .inl f)), (px, .inl (cI, 2, .inl g)), (t, .inr (1, [.ref bt, .int 0, .int u1.1, .int (tlen (f (nI i).toNatClampNeg))])), (bt, .inl (cB, 16, .inl u1.2))] H := hP
      have hD : va_D A [(x, .inr (2, [.ref bx, .ref px, .ref t, .int ak, .int su, .int gt, .int lf, .int rf, .int kn])), (bx, .inl (cI, 6, .inl f)), (px, .inl (cI, 2, .inl g)), (t, .inr (1, [.ref bt, .int 0, .int u1.1, .int (tlen (f (nI i).toNatClampNeg))])), (bt, .inl (cB, 16, .inl u1.2))] := hD
      refine W.eq (g2 := F0 m 43 ls [.long (y_box f (nI i) (y_bx f d9 (i)))]) rfl ?_
      refine lv_lstore_n (lv' := [(1, .long (y_box f (nI i) (y_bx f d9 (i)))), (3, .int (nI i)), (0, .ref x)]) FX.1 FX.2.1 dX0_digest_43 rfl hl (by decide) rfl (fun ls hl => ?_)
      refine lv_iinc (v := nI (i + 1)) (lv' := [(3, .int (nI (i + 1))), (1, .long (y_box f (nI i) (y_bx f d9 (i)))), (0, .ref x)]) FX.1 FX.2.1 dX0_digest_44 hl (k := 1) rfl (by exact nI_1 _) (by decide) rfl (fun ls hl => ?_)
      refine lv_goto (tgt := 31) FX.1 FX.2.1 dX0_digest_47 (by decide) ?_
      exact ih (i + 1) (by omega) _ _ _ _ _ hp_1 (tlen_0 (ok_at ho6 (vp_in_nI hlt (by decide)))) hP hD hS ls (lv_sub hl [0, 2, 1] rfl)
set_option maxRecDepth 100000 in
set_option maxHeartbeats 4000000 in
theorem j_X0_digest (l : Launch) (D : va_G) (cI cB : ClassId) (x bx px t bt : Nat) (f g : Nat → Int32) (ak su gt lf rf kn ml cn : Int32) (bs : Nat → Int32) (to tt : Nat) (go gu : Nat → Int32) (na nv : Nat) (nf : Nat → Int32) (hf : sb_Fit nf) (hb : sb_Fit bs) (hc : 0 ≤ cn) (ho6 : ok6 f) : JW (S := Int32 × Int32 × (Nat → Int32)) l yX0_digest cX0_digest 4 (some .long) ({ frames := 7, cells := 0, slots := 0, locals := 196 } : Room) D cI cB [.ref x] [(x, .inr (2, [.ref bx, .ref px, .ref t, .int ak, .int su, .int gt, .int lf, .int rf, .int kn])), (bx, .inl (cI, 6, .inl f)), (px, .inl (cI, 2, .inl g)), (t, .inr (1, [.ref bt, .int 0, .int ml, .int cn])), (bt, .inl (cB, 16, .inl bs))] (zAnd zC (zAnd (zAnd (zDg "DigitOnes" to go) (zDg "DigitTens" tt gu)) (zAnd (zR RX0 201 "none" na) (zS na nv 4 nf)))) (fun u => some (.long (y_dig f g ak su gt lf rf kn))) (fun u => sb_Fit u.2.2 ∧ 0 ≤ u.2.1) (fun u => [(x, .inr (2, [.ref bx, .ref px, .ref t, .int ak, .int su, .int gt, .int lf, .int rf, .int kn])), (bx, .inl (cI, 6, .inl f)), (px, .inl (cI, 2, .inl g)), (t, .inr (1, [.ref bt, .int 0, .int u.1, .int u.2.1])), (bt, .inl (cB, 16, .inl u.2.2))]) 0 0 := by
  refine bodyJ (by decide +kernel) (Nat.le_of_ble_eq_true rfl) (fun p e s m args below meth c ls A ZZ => ?_)
  obtain ⟨FX, hr, hlk, hK, hP, hD, hS, hA, hz, hnm, hl⟩ := ZZ
  have hl : lv_has ls 4 [(0, .ref x)] := hl
  have hP : va_P D KL [(x, .inr (2, [.ref bx, .ref px, .ref t, .int ak, .int su, .int gt, .int lf, .int rf, .int kn])), (bx, .inl (cI, 6, .inl f)), (px, .inl (cI, 2, .inl g)), (t, .inr (1, [.ref bt, .int 0, .int ml, .int cn])), (bt, .inl (cB, 16, .inl bs))] s.heap := hP
  refine lv_ldc2 (v := 7715) FX.1 FX.2.1 FX.2.2.2.1 (FX.2.2.2.2 _ cL_RX0_143) dX0_digest_0 ?_
  refine lv_lstore_n (lv' := [(1, .long 7715), (0, .ref x)]) FX.1 FX.2.1 dX0_digest_3 rfl hl (by decide) rfl (fun ls hl => ?_)
  refine lv_iconst (v := 0) FX.1 FX.2.1 dX0_digest_4 (by decide) ?_
  refine lv_istore_n (lv' := [(3, .int 0), (1, .long 7715), (0, .ref x)]) FX.1 FX.2.1 dX0_digest_5 rfl hl (by decide) rfl (fun ls hl => ?_)
  refine L_X0_digest_6 D cI cB x bx px t f g ak su gt lf rf kn  (Nat.le_of_ble_eq_true rfl) (Nat.le_of_ble_eq_true rfl) (by decide) FX hK (hP.sub (ws' := (wX cI x bx px t f g ak su gt lf rf kn)) [0, 1, 2] rfl) (fun ls hl => ?_) 9 0 (by omega) ls (lv_sub hl [0, 2, 1] rfl)
  refine lv_iconst (v := 0) FX.1 FX.2.1 dX0_digest_29 (by decide) ?_
  refine lv_istore_n (lv' := [(3, .int 0), (0, .ref x), (1, .long (y_hs f g ak su gt lf rf kn (9)))]) FX.1 FX.2.1 dX0_digest_30 rfl hl (by decide) rfl (fun ls hl => ?_)
  refine LJ_X0_digest D cI cB x bx px t bt f g ak su gt lf rf kn to tt go gu na nv nf (y_hs f g ak su gt lf rf kn (9)) (Nat.le_of_ble_eq_true rfl) (Nat.le_of_ble_eq_true rfl) FX hK hA hz hf ho6 (fun ls H locs ml cn bs hb hc hP hD hS hl => ?_) 6 0 (by omega) _ _ ml cn bs hb hc hP hD hS ls (lv_sub hl [0, 1, 2] rfl)
  have hP : va_P D KL [(x, .inr (2, [.ref bx, .ref px, .ref t, .int ak, .int su, .int gt, .int lf, .int rf, .int kn])), (bx, .inl (cI, 6, .inl f)), (px, .inl (cI, 2, .inl g)), (t, .inr (1, [.ref bt, .int 0, .int ml, .int cn])), (bt, .inl (cB, 16, .inl bs))] H := hP
  have hD : va_D A [(x, .inr (2, [.ref bx, .ref px, .ref t, .int ak, .int su, .int gt, .int lf, .int rf, .int kn])), (bx, .inl (cI, 6, .inl f)), (px, .inl (cI, 2, .inl g)), (t, .inr (1, [.ref bt, .int 0, .int ml, .int cn])), (bt, .inl (cB, 16, .inl bs))] := hD
  have hl : lv_has ls 4 [(3, .int 6), (0, .ref x), (1, .long (y_bx f (y_hs f g ak su gt lf rf kn (9)) (6)))] := hl
  refine lv_lload_n FX.1 FX.2.1 dX0_digest_50 rfl (lv_at hl 2 rfl) ?_
  refine lv_aload_n FX.1 FX.2.1 dX0_digest_51 rfl (lv_at hl 1 rfl) ?_
  refine lv_iconst (v := 0) FX.1 FX.2.1 dX0_digest_52 (by decide) ?_
  refine lv_iconst (v := 1) FX.1 FX.2.1 dX0_digest_53 (by decide) ?_
  refine lv_iconst (v := 2) FX.1 FX.2.1 dX0_digest_54 (by decide) ?_
  have q_1 : (e_X0_codes 0 1 2) = 0 := (e0_X0_codes (vp_in_iff.mpr ⟨by decide, by decide⟩) (vp_in_iff.mpr ⟨by decide, by decide⟩) (vp_in_iff.mpr ⟨by decide, by decide⟩))
  refine c_RDV (i0 := 0) (ci := 2) FX (r_X0_codes l D cI cB x bx px t f g ak su gt lf rf kn 0 1 2 q_1) mi_X0_codes rfl ml_RX0_156 (RMok.mk) hl.1 rfl (Nat.le_of_ble_eq_true rfl) dX0_digest_55 (by decide) hK hP [0, 1, 2] rfl rfl rfl rfl ?_
  refine lv_i2l (v := (v_X0_codes 0 1 2 f).toInt64) FX.1 FX.2.1 dX0_digest_58 rfl ?_
  refine c_RDls FX (r_X0_mixed l D cI cB (y_bx f (y_hs f g ak su gt lf rf kn (9)) (6)) ((v_X0_codes 0 1 2 f).toInt64)) mi_X0_mixed rfl ml_RX0_148 (RMok.mk) hl.1 rfl (Nat.le_of_ble_eq_true rfl) dX0_digest_59 (by decide) hK hP [] rfl ?_
  refine lv_lstore_n (lv' := [(1, .long (v_X0_mixed (y_bx f (y_hs f g ak su gt lf rf kn (9)) (6)) ((v_X0_codes 0 1 2 f).toInt64))), (3, .int 6), (0, .ref x)]) FX.1 FX.2.1 dX0_digest_62 rfl hl (by decide) rfl (fun ls hl => ?_)
  refine lv_lload_n FX.1 FX.2.1 dX0_digest_63 rfl (lv_at hl 0 rfl) ?_
  refine lv_aload_n FX.1 FX.2.1 dX0_digest_64 rfl (lv_at hl 2 rfl) ?_
  refine lv_iconst (v := 3) FX.1 FX.2.1 dX0_digest_65 (by decide) ?_
  refine lv_iconst (v := 4) FX.1 FX.2.1 dX0_digest_66 (by decide) ?_
  refine lv_iconst (v := 5) FX.1 FX.2.1 dX0_digest_67 (by decide) ?_
  have q_2 : (e_X0_codes 3 4 5) = 0 := (e0_X0_codes (vp_in_iff.mpr ⟨by decide, by decide⟩) (vp_in_iff.mpr ⟨by decide, by decide⟩) (vp_in_iff.mpr ⟨by decide, by decide⟩))
  refine c_RDV (i0 := 0) (ci := 2) FX (r_X0_codes l D cI cB x bx px t f g ak su gt lf rf kn 3 4 5 q_2) mi_X0_codes rfl ml_RX0_156 (RMok.mk) hl.1 rfl (Nat.le_of_ble_eq_true rfl) dX0_digest_68 (by decide) hK hP [0, 1, 2] rfl rfl rfl rfl ?_
  refine lv_i2l (v := (v_X0_codes 3 4 5 f).toInt64) FX.1 FX.2.1 dX0_digest_71 rfl ?_
  refine c_RDls FX (r_X0_mixed l D cI cB (v_X0_mixed (y_bx f (y_hs f g ak su gt lf rf kn (9)) (6)) ((v_X0_codes 0 1 2 f).toInt64)) ((v_X0_codes 3 4 5 f).toInt64)) mi_X0_mixed rfl ml_RX0_148 (RMok.mk) hl.1 rfl (Nat.le_of_ble_eq_true rfl) dX0_digest_72 (by decide) hK hP [] rfl ?_
  refine lv_lstore_n (lv' := [(1, .long (v_X0_mixed (v_X0_mixed (y_bx f (y_hs f g ak su gt lf rf kn (9)) (6)) ((v_X0_codes 0 1 2 f).toInt64)) ((v_X0_codes 3 4 5 f).toInt64))), (3, .int 6), (0, .ref x)]) FX.1 FX.2.1 dX0_digest_75 rfl hl (by decide) rfl (fun ls hl => ?_)
  refine lv_iconst (v := 0) FX.1 FX.2.1 dX0_digest_76 (by decide) ?_
  refine lv_istore_n (lv' := [(3, .int 0), (1, .long (v_X0_mixed (v_X0_mixed (y_bx f (y_hs f g ak su gt lf rf kn (9)) (6)) ((v_X0_codes 0 1 2 f).toInt64)) ((v_X0_codes 3 4 5 f).toInt64))), (0, .ref x)]) FX.1 FX.2.1 dX0_digest_77 rfl hl (by decide) rfl (fun ls hl => ?_)
  refine L_X0_digest_78 D cI cB x bx px t f g ak su gt lf rf kn (v_X0_mixed (v_X0_mixed (y_bx f (y_hs f g ak su gt lf rf kn (9)) (6)) ((v_X0_codes 0 1 2 f).toInt64)) ((v_X0_codes 3 4 5 f).toInt64)) (Nat.le_of_ble_eq_true rfl) (Nat.le_of_ble_eq_true rfl) (by decide) FX hK (hP.sub (ws' := (wX cI x bx px t f g ak su gt lf rf kn)) [0, 1, 2] rfl) (fun ls hl => ?_) 2 0 (by omega) ls (lv_sub hl [0, 2, 1] rfl)
  refine lv_lload_n FX.1 FX.2.1 dX0_digest_119 rfl (lv_at hl 2 rfl) ?_
  refine lv_aload_n FX.1 FX.2.1 dX0_digest_120 rfl (lv_at hl 1 rfl) ?_
  refine c_RDV (i0 := 0) (ci := 2) FX (r_X0_isSound l D cI cB x bx px t f g ak su gt lf rf kn ho6) mi_X0_isSound rfl ml_RX0_159 (RMok.mk) hl.1 rfl (Nat.le_of_ble_eq_true rfl) dX0_digest_121 (by decide) hK hP [0, 1, 2] rfl rfl rfl rfl ?_
  refine lv_if_eq (tgt := 131) FX.1 FX.2.1 dX0_digest_124 (by decide) (fun c_3 => ?_) (fun c_3 => ?_)
  · exact absurd c_3 (by decide)
  · refine lv_lconst (v := 1) FX.1 FX.2.1 dX0_digest_127 (by decide) ?_
    refine lv_goto (tgt := 132) FX.1 FX.2.1 dX0_digest_128 (by decide) ?_
    refine c_RDls FX (r_X0_mixed l D cI cB (y_pl g (v_X0_mixed (v_X0_mixed (y_bx f (y_hs f g ak su gt lf rf kn (9)) (6)) ((v_X0_codes 0 1 2 f).toInt64)) ((v_X0_codes 3 4 5 f).toInt64)) (2)) 1) mi_X0_mixed rfl ml_RX0_148 (RMok.mk) hl.1 rfl (Nat.le_of_ble_eq_true rfl) dX0_digest_132 (by decide) hK hP [] rfl ?_
    exact retJl (ml, cn, bs) FX hr hlk dX0_digest_135 hP hK hD hS (by decide) (by decide) rfl ⟨hb, hc⟩
def iX6 : Nat → Int32 := upd (upd (upd (upd (upd (upd (fun _ => 0) 0 (-10000)) 1 (-10000)) 2 (-10000)) 3 (-10000)) 4 (-10000)) 5 (-10000)
def iX2 : Nat → Int32 := upd (upd (fun _ => 0) 0 (-10000)) 1 (-10000)
def iM6 : Nat → Int32 := upd (upd (upd (upd (upd (upd (fun _ => 0) 0 (-100000)) 1 (-100000)) 2 (-100000)) 3 (-100000)) 4 (-100000)) 5 (-100000)
def iM2 : Nat → Int32 := upd (upd (fun _ => 0) 0 (-100000)) 1 (-100000)
set_option maxRecDepth 100000 in
set_option maxHeartbeats 4000000 in
theorem j_X0_init (l : Launch) (D : va_G) (cI cB : ClassId) (x : Nat) : JW (S := Nat × Nat × Nat × Nat) l yX0_init cX0_init 2 none ({ frames := 3, cells := 4, slots := 28, locals := 65 } : Room) D cI cB [.ref x] [(x, .inr (2, [.null, .null, .null, .int 0, .int 0, .int 0, .int 0, .int 0, .int 0]))] zC (fun u => none) (fun u => True) (fun u => [(x, .inr (2, [.ref u.1, .ref u.2.1, .ref u.2.2.1, .int 0, .int 0, .int 0, .int 0, .int 0, .int 0])), (u.1, .inl (cI, 6, .inl iX6)), (u.2.1, .inl (cI, 2, .inl iX2)), (u.2.2.1, .inr (1, [.ref u.2.2.2, .int 0, .int 0, .int 0])), (u.2.2.2, .inl (cB, 16, .inl ((fun _ => 0))))]) 4 28 := by
  refine bodyJ (by decide +kernel) (Nat.le_of_ble_eq_true rfl) (fun p e s m args below meth c ls A ZZ => ?_)
  obtain ⟨FX, hr, hlk, hK, hP, hD, hS, hA, hz, hnm, hl⟩ := ZZ
  have hl : lv_has ls 2 [(0, .ref x)] := hl
  have hP : va_P D KL [(x, .inr (2, [.null, .null, .null, .int 0, .int 0, .int 0, .int 0, .int 0, .int 0]))] s.heap := hP
  refine lv_aload_n FX.1 FX.2.1 dX0_init_0 rfl (lv_at hl 0 rfl) ?_
  refine W.objInit FX.1 FX.2.1 FX.2.2.2.1 (FX.2.2.2.2 _ ml_RX0_1) (FX.2.2.2.2 _ oi_i) (FX.2.2.2.2 _ oi_c) rfl (by rw [FX.2.2.1]; exact hl.1) rfl dX0_init_1 (Nat.le_of_ble_eq_true rfl) (Nat.le_of_ble_eq_true rfl) ?_
  refine W.eq (g2 := F0 m 4 ls []) rfl ?_
  refine lv_aload_n FX.1 FX.2.1 dX0_init_4 rfl (lv_at hl 0 rfl) ?_
  refine lv_bipush (v := 6) FX.1 FX.2.1 dX0_init_5 (by decide) ?_
  refine p_newI (N' := 6) FX ac_int hK hP hD hS hA (by decide) (by decide) (Nat.le_of_ble_eq_true rfl) (by decide) (by decide) dX0_init_7 (fun q1 H hP hD hS => ?_)
  have hP : va_P D KL [(x, .inr (2, [.null, .null, .null, .int 0, .int 0, .int 0, .int 0, .int 0, .int 0])), (q1, .inl (cI, 6, .inl (fun _ => 0)))] H := hP
  have hD : va_D A [(x, .inr (2, [.null, .null, .null, .int 0, .int 0, .int 0, .int 0, .int 0, .int 0])), (q1, .inl (cI, 6, .inl (fun _ => 0)))] := hD
  refine p_putF (wsN := [(x, .inr (2, [.ref q1, .null, .null, .int 0, .int 0, .int 0, .int 0, .int 0, .int 0])), (q1, .inl (cI, 6, .inl (fun _ => 0)))]) (ci := 2) (v := .ref q1) (ty := .array .int) FX inX0 tyX0_ok nmX0 hK hP hD hS (hnm.trans rfl) 0 rfl rfl 0 (by decide) (FX.2.2.2.2 _ fl_RX0_9) rfl rfl (by decide +kernel) rfl rfl (Nat.le_of_ble_eq_true rfl) dX0_init_9 rfl (fun H locs hP hD hS => ?_)
  refine lv_iconst (v := 0) FX.1 FX.2.1 dX0_init_12 (by decide) ?_
  refine lv_istore_n (lv' := [(1, .int 0), (0, .ref x)]) FX.1 FX.2.1 dX0_init_13 rfl hl (by decide) rfl (fun ls hl => ?_)
  refine lv_iload_n FX.1 FX.2.1 dX0_init_14 rfl (lv_at hl 0 rfl) ?_
  refine lv_bipush (v := 6) FX.1 FX.2.1 dX0_init_15 (by decide) ?_
  refine lv_icmp_ge (tgt := 35) FX.1 FX.2.1 dX0_init_17 (by decide) (fun c_2 => ?_) (fun c_2 => ?_)
  · exact absurd c_2 (by decide)
  · refine lv_aload_n FX.1 FX.2.1 dX0_init_20 rfl (lv_at hl 1 rfl) ?_
    refine va_get (D := D) (ci := 2) (v := .ref q1) (C := RX0) (T := TX0) (N := 9) FX.1 FX.2.1 FX.2.2.2.2 inX0 FX.2.2.2.1 hK hP 0 rfl rfl 0 (by decide) (FX.2.2.2.2 _ fl_RX0_9) (fun _ h9 => h9) rfl dX0_init_21 ?_
    refine lv_iload_n FX.1 FX.2.1 dX0_init_24 rfl (lv_at hl 0 rfl) ?_
    refine lv_sipush (v := (-10000)) FX.1 FX.2.1 dX0_init_25 (by decide) ?_
    refine p_iast (wsN := [(x, .inr (2, [.ref q1, .null, .null, .int 0, .int 0, .int 0, .int 0, .int 0, .int 0])), (q1, .inl (cI, 6, .inl (upd (fun _ => 0) 0 (-10000))))]) FX hK hP hD hS 1 rfl (vp_in_iff.mpr ⟨by decide, by decide⟩) dX0_init_28 rfl (fun H locs hP hD hS => ?_)
    refine lv_iinc (v := 1) (lv' := [(1, .int 1), (0, .ref x)]) FX.1 FX.2.1 dX0_init_29 hl (k := 0) rfl (by decide) (by decide) rfl (fun ls hl => ?_)
    refine lv_goto (tgt := 14) FX.1 FX.2.1 dX0_init_32 (by decide) ?_
    refine lv_iload_n FX.1 FX.2.1 dX0_init_14 rfl (lv_at hl 0 rfl) ?_
    refine lv_bipush (v := 6) FX.1 FX.2.1 dX0_init_15 (by decide) ?_
    refine lv_icmp_ge (tgt := 35) FX.1 FX.2.1 dX0_init_17 (by decide) (fun c_3 => ?_) (fun c_3 => ?_)
    · exact absurd c_3 (by decide)
    · refine lv_aload_n FX.1 FX.2.1 dX0_init_20 rfl (lv_at hl 1 rfl) ?_
      refine va_get (D := D) (ci := 2) (v := .ref q1) (C := RX0) (T := TX0) (N := 9) FX.1 FX.2.1 FX.2.2.2.2 inX0 FX.2.2.2.1 hK hP 0 rfl rfl 0 (by decide) (FX.2.2.2.2 _ fl_RX0_9) (fun _ h9 => h9) rfl dX0_init_21 ?_
      refine lv_iload_n FX.1 FX.2.1 dX0_init_24 rfl (lv_at hl 0 rfl) ?_
      refine lv_sipush (v := (-10000)) FX.1 FX.2.1 dX0_init_25 (by decide) ?_
      refine p_iast (wsN := [(x, .inr (2, [.ref q1, .null, .null, .int 0, .int 0, .int 0, .int 0, .int 0, .int 0])), (q1, .inl (cI, 6, .inl (upd (upd (fun _ => 0) 0 (-10000)) 1 (-10000))))]) FX hK hP hD hS 1 rfl (vp_in_iff.mpr ⟨by decide, by decide⟩) dX0_init_28 rfl (fun H locs hP hD hS => ?_)
      refine lv_iinc (v := 2) (lv' := [(1, .int 2), (0, .ref x)]) FX.1 FX.2.1 dX0_init_29 hl (k := 0) rfl (by decide) (by decide) rfl (fun ls hl => ?_)
      refine lv_goto (tgt := 14) FX.1 FX.2.1 dX0_init_32 (by decide) ?_
      refine lv_iload_n FX.1 FX.2.1 dX0_init_14 rfl (lv_at hl 0 rfl) ?_
      refine lv_bipush (v := 6) FX.1 FX.2.1 dX0_init_15 (by decide) ?_
      refine lv_icmp_ge (tgt := 35) FX.1 FX.2.1 dX0_init_17 (by decide) (fun c_4 => ?_) (fun c_4 => ?_)
      · exact absurd c_4 (by decide)
      · refine lv_aload_n FX.1 FX.2.1 dX0_init_20 rfl (lv_at hl 1 rfl) ?_
        refine va_get (D := D) (ci := 2) (v := .ref q1) (C := RX0) (T := TX0) (N := 9) FX.1 FX.2.1 FX.2.2.2.2 inX0 FX.2.2.2.1 hK hP 0 rfl rfl 0 (by decide) (FX.2.2.2.2 _ fl_RX0_9) (fun _ h9 => h9) rfl dX0_init_21 ?_
        refine lv_iload_n FX.1 FX.2.1 dX0_init_24 rfl (lv_at hl 0 rfl) ?_
        refine lv_sipush (v := (-10000)) FX.1 FX.2.1 dX0_init_25 (by decide) ?_
        refine p_iast (wsN := [(x, .inr (2, [.ref q1, .null, .null, .int 0, .int 0, .int 0, .int 0, .int 0, .int 0])), (q1, .inl (cI, 6, .inl (upd (upd (upd (fun _ => 0) 0 (-10000)) 1 (-10000)) 2 (-10000))))]) FX hK hP hD hS 1 rfl (vp_in_iff.mpr ⟨by decide, by decide⟩) dX0_init_28 rfl (fun H locs hP hD hS => ?_)
        refine lv_iinc (v := 3) (lv' := [(1, .int 3), (0, .ref x)]) FX.1 FX.2.1 dX0_init_29 hl (k := 0) rfl (by decide) (by decide) rfl (fun ls hl => ?_)
        refine lv_goto (tgt := 14) FX.1 FX.2.1 dX0_init_32 (by decide) ?_
        refine lv_iload_n FX.1 FX.2.1 dX0_init_14 rfl (lv_at hl 0 rfl) ?_
        refine lv_bipush (v := 6) FX.1 FX.2.1 dX0_init_15 (by decide) ?_
        refine lv_icmp_ge (tgt := 35) FX.1 FX.2.1 dX0_init_17 (by decide) (fun c_5 => ?_) (fun c_5 => ?_)
        · exact absurd c_5 (by decide)
        · refine lv_aload_n FX.1 FX.2.1 dX0_init_20 rfl (lv_at hl 1 rfl) ?_
          refine va_get (D := D) (ci := 2) (v := .ref q1) (C := RX0) (T := TX0) (N := 9) FX.1 FX.2.1 FX.2.2.2.2 inX0 FX.2.2.2.1 hK hP 0 rfl rfl 0 (by decide) (FX.2.2.2.2 _ fl_RX0_9) (fun _ h9 => h9) rfl dX0_init_21 ?_
          refine lv_iload_n FX.1 FX.2.1 dX0_init_24 rfl (lv_at hl 0 rfl) ?_
          refine lv_sipush (v := (-10000)) FX.1 FX.2.1 dX0_init_25 (by decide) ?_
          refine p_iast (wsN := [(x, .inr (2, [.ref q1, .null, .null, .int 0, .int 0, .int 0, .int 0, .int 0, .int 0])), (q1, .inl (cI, 6, .inl (upd (upd (upd (upd (fun _ => 0) 0 (-10000)) 1 (-10000)) 2 (-10000)) 3 (-10000))))]) FX hK hP hD hS 1 rfl (vp_in_iff.mpr ⟨by decide, by decide⟩) dX0_init_28 rfl (fun H locs hP hD hS => ?_)
          refine lv_iinc (v := 4) (lv' := [(1, .int 4), (0, .ref x)]) FX.1 FX.2.1 dX0_init_29 hl (k := 0) rfl (by decide) (by decide) rfl (fun ls hl => ?_)
          refine lv_goto (tgt := 14) FX.1 FX.2.1 dX0_init_32 (by decide) ?_
          refine lv_iload_n FX.1 FX.2.1 dX0_init_14 rfl (lv_at hl 0 rfl) ?_
          refine lv_bipush (v := 6) FX.1 FX.2.1 dX0_init_15 (by decide) ?_
          refine lv_icmp_ge (tgt := 35) FX.1 FX.2.1 dX0_init_17 (by decide) (fun c_6 => ?_) (fun c_6 => ?_)
          · exact absurd c_6 (by decide)
          · refine lv_aload_n FX.1 FX.2.1 dX0_init_20 rfl (lv_at hl 1 rfl) ?_
            refine va_get (D := D) (ci := 2) (v := .ref q1) (C := RX0) (T := TX0) (N := 9) FX.1 FX.2.1 FX.2.2.2.2 inX0 FX.2.2.2.1 hK hP 0 rfl rfl 0 (by decide) (FX.2.2.2.2 _ fl_RX0_9) (fun _ h9 => h9) rfl dX0_init_21 ?_
            refine lv_iload_n FX.1 FX.2.1 dX0_init_24 rfl (lv_at hl 0 rfl) ?_
            refine lv_sipush (v := (-10000)) FX.1 FX.2.1 dX0_init_25 (by decide) ?_
            refine p_iast (wsN := [(x, .inr (2, [.ref q1, .null, .null, .int 0, .int 0, .int 0, .int 0, .int 0, .int 0])), (q1, .inl (cI, 6, .inl (upd (upd (upd (upd (upd (fun _ => 0) 0 (-10000)) 1 (-10000)) 2 (-10000)) 3 (-10000)) 4 (-10000))))]) FX hK hP hD hS 1 rfl (vp_in_iff.mpr ⟨by decide, by decide⟩) dX0_init_28 rfl (fun H locs hP hD hS => ?_)
            refine lv_iinc (v := 5) (lv' := [(1, .int 5), (0, .ref x)]) FX.1 FX.2.1 dX0_init_29 hl (k := 0) rfl (by decide) (by decide) rfl (fun ls hl => ?_)
            refine lv_goto (tgt := 14) FX.1 FX.2.1 dX0_init_32 (by decide) ?_
            refine lv_iload_n FX.1 FX.2.1 dX0_init_14 rfl (lv_at hl 0 rfl) ?_
            refine lv_bipush (v := 6) FX.1 FX.2.1 dX0_init_15 (by decide) ?_
            refine lv_icmp_ge (tgt := 35) FX.1 FX.2.1 dX0_init_17 (by decide) (fun c_7 => ?_) (fun c_7 => ?_)
            · exact absurd c_7 (by decide)
            · refine lv_aload_n FX.1 FX.2.1 dX0_init_20 rfl (lv_at hl 1 rfl) ?_
              refine va_get (D := D) (ci := 2) (v := .ref q1) (C := RX0) (T := TX0) (N := 9) FX.1 FX.2.1 FX.2.2.2.2 inX0 FX.2.2.2.1 hK hP 0 rfl rfl 0 (by decide) (FX.2.2.2.2 _ fl_RX0_9) (fun _ h9 => h9) rfl dX0_init_21 ?_
              refine lv_iload_n FX.1 FX.2.1 dX0_init_24 rfl (lv_at hl 0 rfl) ?_
              refine lv_sipush (v := (-10000)) FX.1 FX.2.1 dX0_init_25 (by decide) ?_
              refine p_iast (wsN := [(x, .inr (2, [.ref q1, .null, .null, .int 0, .int 0, .int 0, .int 0, .int 0, .int 0])), (q1, .inl (cI, 6, .inl (upd (upd (upd (upd (upd (upd (fun _ => 0) 0 (-10000)) 1 (-10000)) 2 (-10000)) 3 (-10000)) 4 (-10000)) 5 (-10000))))]) FX hK hP hD hS 1 rfl (vp_in_iff.mpr ⟨by decide, by decide⟩) dX0_init_28 rfl (fun H locs hP hD hS => ?_)
              refine lv_iinc (v := 6) (lv' := [(1, .int 6), (0, .ref x)]) FX.1 FX.2.1 dX0_init_29 hl (k := 0) rfl (by decide) (by decide) rfl (fun ls hl => ?_)
              refine lv_goto (tgt := 14) FX.1 FX.2.1 dX0_init_32 (by decide) ?_
              refine lv_iload_n FX.1 FX.2.1 dX0_init_14 rfl (lv_at hl 0 rfl) ?_
              refine lv_bipush (v := 6) FX.1 FX.2.1 dX0_init_15 (by decide) ?_
              refine lv_icmp_ge (tgt := 35) FX.1 FX.2.1 dX0_init_17 (by decide) (fun c_8 => ?_) (fun c_8 => ?_)
              · refine lv_aload_n FX.1 FX.2.1 dX0_init_35 rfl (lv_at hl 1 rfl) ?_
                refine lv_iconst (v := 2) FX.1 FX.2.1 dX0_init_36 (by decide) ?_
                refine p_newI (N' := 2) FX ac_int hK hP hD hS hA (by decide) (by decide) (Nat.le_of_ble_eq_true rfl) (by decide) (by decide) dX0_init_37 (fun q9 H hP hD hS => ?_)
                have hP : va_P D KL [(x, .inr (2, [.ref q1, .null, .null, .int 0, .int 0, .int 0, .int 0, .int 0, .int 0])), (q1, .inl (cI, 6, .inl (upd (upd (upd (upd (upd (upd (fun _ => 0) 0 (-10000)) 1 (-10000)) 2 (-10000)) 3 (-10000)) 4 (-10000)) 5 (-10000)))), (q9, .inl (cI, 2, .inl (fun _ => 0)))] H := hP
                have hD : va_D A [(x, .inr (2, [.ref q1, .null, .null, .int 0, .int 0, .int 0, .int 0, .int 0, .int 0])), (q1, .inl (cI, 6, .inl (upd (upd (upd (upd (upd (upd (fun _ => 0) 0 (-10000)) 1 (-10000)) 2 (-10000)) 3 (-10000)) 4 (-10000)) 5 (-10000)))), (q9, .inl (cI, 2, .inl (fun _ => 0)))] := hD
                refine p_putF (wsN := [(x, .inr (2, [.ref q1, .ref q9, .null, .int 0, .int 0, .int 0, .int 0, .int 0, .int 0])), (q1, .inl (cI, 6, .inl (upd (upd (upd (upd (upd (upd (fun _ => 0) 0 (-10000)) 1 (-10000)) 2 (-10000)) 3 (-10000)) 4 (-10000)) 5 (-10000)))), (q9, .inl (cI, 2, .inl (fun _ => 0)))]) (ci := 2) (v := .ref q9) (ty := .array .int) FX inX0 tyX0_ok nmX0 hK hP hD hS (hnm.trans rfl) 0 rfl rfl 1 (by decide) (FX.2.2.2.2 _ fl_RX0_13) rfl rfl (by decide +kernel) rfl rfl (Nat.le_of_ble_eq_true rfl) dX0_init_39 rfl (fun H locs hP hD hS => ?_)
                refine lv_iconst (v := 0) FX.1 FX.2.1 dX0_init_42 (by decide) ?_
                refine lv_istore_n (lv' := [(1, .int 0), (0, .ref x)]) FX.1 FX.2.1 dX0_init_43 rfl hl (by decide) rfl (fun ls hl => ?_)
                refine lv_iload_n FX.1 FX.2.1 dX0_init_44 rfl (lv_at hl 0 rfl) ?_
                refine lv_iconst (v := 2) FX.1 FX.2.1 dX0_init_45 (by decide) ?_
                refine lv_icmp_ge (tgt := 64) FX.1 FX.2.1 dX0_init_46 (by decide) (fun c_10 => ?_) (fun c_10 => ?_)
                · exact absurd c_10 (by decide)
                · refine lv_aload_n FX.1 FX.2.1 dX0_init_49 rfl (lv_at hl 1 rfl) ?_
                  refine va_get (D := D) (ci := 2) (v := .ref q9) (C := RX0) (T := TX0) (N := 9) FX.1 FX.2.1 FX.2.2.2.2 inX0 FX.2.2.2.1 hK hP 0 rfl rfl 1 (by decide) (FX.2.2.2.2 _ fl_RX0_13) (fun _ h9 => h9) rfl dX0_init_50 ?_
                  refine lv_iload_n FX.1 FX.2.1 dX0_init_53 rfl (lv_at hl 0 rfl) ?_
                  refine lv_sipush (v := (-10000)) FX.1 FX.2.1 dX0_init_54 (by decide) ?_
                  refine p_iast (wsN := [(x, .inr (2, [.ref q1, .ref q9, .null, .int 0, .int 0, .int 0, .int 0, .int 0, .int 0])), (q1, .inl (cI, 6, .inl (upd (upd (upd (upd (upd (upd (fun _ => 0) 0 (-10000)) 1 (-10000)) 2 (-10000)) 3 (-10000)) 4 (-10000)) 5 (-10000)))), (q9, .inl (cI, 2, .inl (upd (fun _ => 0) 0 (-10000))))]) FX hK hP hD hS 2 rfl (vp_in_iff.mpr ⟨by decide, by decide⟩) dX0_init_57 rfl (fun H locs hP hD hS => ?_)
                  refine lv_iinc (v := 1) (lv' := [(1, .int 1), (0, .ref x)]) FX.1 FX.2.1 dX0_init_58 hl (k := 0) rfl (by decide) (by decide) rfl (fun ls hl => ?_)
                  refine lv_goto (tgt := 44) FX.1 FX.2.1 dX0_init_61 (by decide) ?_
                  refine lv_iload_n FX.1 FX.2.1 dX0_init_44 rfl (lv_at hl 0 rfl) ?_
                  refine lv_iconst (v := 2) FX.1 FX.2.1 dX0_init_45 (by decide) ?_
                  refine lv_icmp_ge (tgt := 64) FX.1 FX.2.1 dX0_init_46 (by decide) (fun c_11 => ?_) (fun c_11 => ?_)
                  · exact absurd c_11 (by decide)
                  · refine lv_aload_n FX.1 FX.2.1 dX0_init_49 rfl (lv_at hl 1 rfl) ?_
                    refine va_get (D := D) (ci := 2) (v := .ref q9) (C := RX0) (T := TX0) (N := 9) FX.1 FX.2.1 FX.2.2.2.2 inX0 FX.2.2.2.1 hK hP 0 rfl rfl 1 (by decide) (FX.2.2.2.2 _ fl_RX0_13) (fun _ h9 => h9) rfl dX0_init_50 ?_
                    refine lv_iload_n FX.1 FX.2.1 dX0_init_53 rfl (lv_at hl 0 rfl) ?_
                    refine lv_sipush (v := (-10000)) FX.1 FX.2.1 dX0_init_54 (by decide) ?_
                    refine p_iast (wsN := [(x, .inr (2, [.ref q1, .ref q9, .null, .int 0, .int 0, .int 0, .int 0, .int 0, .int 0])), (q1, .inl (cI, 6, .inl (upd (upd (upd (upd (upd (upd (fun _ => 0) 0 (-10000)) 1 (-10000)) 2 (-10000)) 3 (-10000)) 4 (-10000)) 5 (-10000)))), (q9, .inl (cI, 2, .inl (upd (upd (fun _ => 0) 0 (-10000)) 1 (-10000))))]) FX hK hP hD hS 2 rfl (vp_in_iff.mpr ⟨by decide, by decide⟩) dX0_init_57 rfl (fun H locs hP hD hS => ?_)
                    refine lv_iinc (v := 2) (lv' := [(1, .int 2), (0, .ref x)]) FX.1 FX.2.1 dX0_init_58 hl (k := 0) rfl (by decide) (by decide) rfl (fun ls hl => ?_)
                    refine lv_goto (tgt := 44) FX.1 FX.2.1 dX0_init_61 (by decide) ?_
                    refine lv_iload_n FX.1 FX.2.1 dX0_init_44 rfl (lv_at hl 0 rfl) ?_
                    refine lv_iconst (v := 2) FX.1 FX.2.1 dX0_init_45 (by decide) ?_
                    refine lv_icmp_ge (tgt := 64) FX.1 FX.2.1 dX0_init_46 (by decide) (fun c_12 => ?_) (fun c_12 => ?_)
                    · refine lv_aload_n FX.1 FX.2.1 dX0_init_64 rfl (lv_at hl 1 rfl) ?_
                      refine va_new (ci := 1) (fs := [.null, .int 0, .int 0, .int 0]) (C := RJ4) (T := TJ4) (N := 4) FX.1 FX.2.1 FX.2.2.2.2 inJ4 tyJ4 tyJ4_ok FX.2.2.2.1 (FX.2.2.2.2 _ cl_RX0_16) (FX.2.2.2.2 _ is_RJ4) (FX.2.2.2.2 _ in_RJ4) hK hP hD hS hA rfl (fun j hj => by rcases (show j = 0 ∨ j = 1 ∨ j = 2 ∨ j = 3 by omega) with rfl | rfl | rfl | rfl <;> rfl) (by decide) (by decide) dX0_init_65 (fun q13 H hP hD hS => ?_)
                      have hP : va_P D KL [(x, .inr (2, [.ref q1, .ref q9, .null, .int 0, .int 0, .int 0, .int 0, .int 0, .int 0])), (q1, .inl (cI, 6, .inl (upd (upd (upd (upd (upd (upd (fun _ => 0) 0 (-10000)) 1 (-10000)) 2 (-10000)) 3 (-10000)) 4 (-10000)) 5 (-10000)))), (q9, .inl (cI, 2, .inl (upd (upd (fun _ => 0) 0 (-10000)) 1 (-10000)))), (q13, .inr (1, [.null, .int 0, .int 0, .int 0]))] H := hP
                      have hD : va_D A [(x, .inr (2, [.ref q1, .ref q9, .null, .int 0, .int 0, .int 0, .int 0, .int 0, .int 0])), (q1, .inl (cI, 6, .inl (upd (upd (upd (upd (upd (upd (fun _ => 0) 0 (-10000)) 1 (-10000)) 2 (-10000)) 3 (-10000)) 4 (-10000)) 5 (-10000)))), (q9, .inl (cI, 2, .inl (upd (upd (fun _ => 0) 0 (-10000)) 1 (-10000)))), (q13, .inr (1, [.null, .int 0, .int 0, .int 0]))] := hD
                      refine lv_dup FX.1 FX.2.1 dX0_init_68 rfl ?_
                      refine c_J (W0 := [(q13, .inr (1, [.null, .int 0, .int 0, .int 0]))]) (wr := [(x, .inr (2, [.ref q1, .ref q9, .null, .int 0, .int 0, .int 0, .int 0, .int 0, .int 0])), (q1, .inl (cI, 6, .inl (upd (upd (upd (upd (upd (upd (fun _ => 0) 0 (-10000)) 1 (-10000)) 2 (-10000)) 3 (-10000)) 4 (-10000)) 5 (-10000)))), (q9, .inl (cI, 2, .inl (upd (upd (fun _ => 0) 0 (-10000)) 1 (-10000))))]) (wsN := fun u1 => [(x, .inr (2, [.ref q1, .ref q9, .null, .int 0, .int 0, .int 0, .int 0, .int 0, .int 0])), (q1, .inl (cI, 6, .inl (upd (upd (upd (upd (upd (upd (fun _ => 0) 0 (-10000)) 1 (-10000)) 2 (-10000)) 3 (-10000)) 4 (-10000)) 5 (-10000)))), (q9, .inl (cI, 2, .inl (upd (upd (fun _ => 0) 0 (-10000)) 1 (-10000)))), (q13, .inr (1, [.ref u1, .int 0, .int 0, .int 0])), (u1, .inl (cB, 16, .inl ((fun _ => 0))))]) (va_runI FX ((j_J4_init_da8c8 l D cI cB q13) H.size) (my_cwI FX.2.2.2.2 mn_J4_init_da8c8 ml_RX0_18 (RMok.mk)) ⟨PJ.blind zC_ok, fun U hU hW => ⟨rfl, my_preJ zC_ok hz hS hA hK hP hD [3] rfl rfl U hU hW⟩⟩ rfl rfl hl.1 rfl (lv_room (Nat.le_of_ble_eq_true rfl)) dX0_init_69 (by decide)) hP hD hS hA [3] rfl [0, 1, 2] rfl (by decide) [0, 1, 2, 3, 4] (fun _ => rfl) rfl (fun u1 H locs hp_1 hP hD hS => ?_)
                      have hP : va_P D KL [(x, .inr (2, [.ref q1, .ref q9, .null, .int 0, .int 0, .int 0, .int 0, .int 0, .int 0])), (q1, .inl (cI, 6, .inl (upd (upd (upd (upd (upd (upd (fun _ => 0) 0 (-10000)) 1 (-10000)) 2 (-10000)) 3 (-10000)) 4 (-10000)) 5 (-10000)))), (q9, .inl (cI, 2, .inl (upd (upd (fun _ => 0) 0 (-10000)) 1 (-10000)))), (q13, .inr (1, [.ref u1, .int 0, .int 0, .int 0])), (u1, .inl (cB, 16, .inl ((fun _ => 0))))] H := hP
                      have hD : va_D A [(x, .inr (2, [.ref q1, .ref q9, .null, .int 0, .int 0, .int 0, .int 0, .int 0, .int 0])), (q1, .inl (cI, 6, .inl (upd (upd (upd (upd (upd (upd (fun _ => 0) 0 (-10000)) 1 (-10000)) 2 (-10000)) 3 (-10000)) 4 (-10000)) 5 (-10000)))), (q9, .inl (cI, 2, .inl (upd (upd (fun _ => 0) 0 (-10000)) 1 (-10000)))), (q13, .inr (1, [.ref u1, .int 0, .int 0, .int 0])), (u1, .inl (cB, 16, .inl ((fun _ => 0))))] := hD
                      refine W.eq (g2 := F0 m 72 ls [.ref q13, .ref x]) rfl ?_
                      refine p_putF (wsN := [(x, .inr (2, [.ref q1, .ref q9, .ref q13, .int 0, .int 0, .int 0, .int 0, .int 0, .int 0])), (q1, .inl (cI, 6, .inl (upd (upd (upd (upd (upd (upd (fun _ => 0) 0 (-10000)) 1 (-10000)) 2 (-10000)) 3 (-10000)) 4 (-10000)) 5 (-10000)))), (q9, .inl (cI, 2, .inl (upd (upd (fun _ => 0) 0 (-10000)) 1 (-10000)))), (q13, .inr (1, [.ref u1, .int 0, .int 0, .int 0])), (u1, .inl (cB, 16, .inl ((fun _ => 0))))]) (ci := 2) (v := .ref q13) (ty := .object "java/lang/StringBuilder") FX inX0 tyX0_ok nmX0 hK hP hD hS (hnm.trans rfl) 0 rfl rfl 2 (by decide) (FX.2.2.2.2 _ fl_RX0_19) rfl rfl (by decide +kernel) rfl rfl (Nat.le_of_ble_eq_true rfl) dX0_init_72 rfl (fun H locs hP hD hS => ?_)
                      exact retJv (q1, q9, q13, u1) FX hr hlk dX0_init_75 hP hK hD hS (by decide) (by decide) rfl trivial
                    · exact absurd c_12 (by decide)
              · exact absurd c_8 (by decide)
set_option maxRecDepth 100000 in
set_option maxHeartbeats 4000000 in
theorem j_X2_init (l : Launch) (D : va_G) (cI cB : ClassId) (o : Nat) : JW (S := Nat × Nat) l yX2_init cX2_init 1 none ({ frames := 1, cells := 2, slots := 8, locals := 24 } : Room) D cI cB [.ref o] [(o, .inr (4, [.int 0, .null, .null, .int 0, .int 0, .int 0, .int 0, .int 0, .int 0]))] zT (fun u => none) (fun u => True) (fun u => [(o, .inr (4, [.int 0, .ref u.1, .ref u.2, .int 0, .int 0, .int 0, .int 0, .int 0, .int 0])), (u.1, .inl (cI, 6, .inl iM6)), (u.2, .inl (cI, 2, .inl iM2))]) 2 8 := by
  refine bodyJ (by decide +kernel) (Nat.le_of_ble_eq_true rfl) (fun p e s m args below meth c ls A ZZ => ?_)
  obtain ⟨FX, hr, hlk, hK, hP, hD, hS, hA, hz, hnm, hl⟩ := ZZ
  have hl : lv_has ls 1 [(0, .ref o)] := hl
  have hP : va_P D KL [(o, .inr (4, [.int 0, .null, .null, .int 0, .int 0, .int 0, .int 0, .int 0, .int 0]))] s.heap := hP
  refine lv_aload_n FX.1 FX.2.1 dX2_init_0 rfl (lv_at hl 0 rfl) ?_
  refine W.objInit FX.1 FX.2.1 FX.2.2.2.1 (FX.2.2.2.2 _ ml_RX2_1) (FX.2.2.2.2 _ oi_i) (FX.2.2.2.2 _ oi_c) rfl (by rw [FX.2.2.1]; exact hl.1) rfl dX2_init_1 (Nat.le_of_ble_eq_true rfl) (Nat.le_of_ble_eq_true rfl) ?_
  refine W.eq (g2 := F0 m 4 ls []) rfl ?_
  refine lv_aload_n FX.1 FX.2.1 dX2_init_4 rfl (lv_at hl 0 rfl) ?_
  refine lv_bipush (v := 6) FX.1 FX.2.1 dX2_init_5 (by decide) ?_
  refine p_newI (N' := 6) FX ac_int hK hP hD hS hA (by decide) (by decide) (Nat.le_of_ble_eq_true rfl) (by decide) (by decide) dX2_init_7 (fun q1 H hP hD hS => ?_)
  have hP : va_P D KL [(o, .inr (4, [.int 0, .null, .null, .int 0, .int 0, .int 0, .int 0, .int 0, .int 0])), (q1, .inl (cI, 6, .inl (fun _ => 0)))] H := hP
  have hD : va_D A [(o, .inr (4, [.int 0, .null, .null, .int 0, .int 0, .int 0, .int 0, .int 0, .int 0])), (q1, .inl (cI, 6, .inl (fun _ => 0)))] := hD
  refine lv_dup FX.1 FX.2.1 dX2_init_9 rfl ?_
  refine lv_iconst (v := 0) FX.1 FX.2.1 dX2_init_10 (by decide) ?_
  refine lv_ldc (v := (-100000)) FX.1 FX.2.1 FX.2.2.2.1 (FX.2.2.2.2 _ co_RX2_9) dX2_init_11 ?_
  refine p_iast (wsN := [(o, .inr (4, [.int 0, .null, .null, .int 0, .int 0, .int 0, .int 0, .int 0, .int 0])), (q1, .inl (cI, 6, .inl (upd (fun _ => 0) 0 (-100000))))]) FX hK hP hD hS 1 rfl (vp_in_iff.mpr ⟨by decide, by decide⟩) dX2_init_13 rfl (fun H locs hP hD hS => ?_)
  refine lv_dup FX.1 FX.2.1 dX2_init_14 rfl ?_
  refine lv_iconst (v := 1) FX.1 FX.2.1 dX2_init_15 (by decide) ?_
  refine lv_ldc (v := (-100000)) FX.1 FX.2.1 FX.2.2.2.1 (FX.2.2.2.2 _ co_RX2_9) dX2_init_16 ?_
  refine p_iast (wsN := [(o, .inr (4, [.int 0, .null, .null, .int 0, .int 0, .int 0, .int 0, .int 0, .int 0])), (q1, .inl (cI, 6, .inl (upd (upd (fun _ => 0) 0 (-100000)) 1 (-100000))))]) FX hK hP hD hS 1 rfl (vp_in_iff.mpr ⟨by decide, by decide⟩) dX2_init_18 rfl (fun H locs hP hD hS => ?_)
  refine lv_dup FX.1 FX.2.1 dX2_init_19 rfl ?_
  refine lv_iconst (v := 2) FX.1 FX.2.1 dX2_init_20 (by decide) ?_
  refine lv_ldc (v := (-100000)) FX.1 FX.2.1 FX.2.2.2.1 (FX.2.2.2.2 _ co_RX2_9) dX2_init_21 ?_
  refine p_iast (wsN := [(o, .inr (4, [.int 0, .null, .null, .int 0, .int 0, .int 0, .int 0, .int 0, .int 0])), (q1, .inl (cI, 6, .inl (upd (upd (upd (fun _ => 0) 0 (-100000)) 1 (-100000)) 2 (-100000))))]) FX hK hP hD hS 1 rfl (vp_in_iff.mpr ⟨by decide, by decide⟩) dX2_init_23 rfl (fun H locs hP hD hS => ?_)
  refine lv_dup FX.1 FX.2.1 dX2_init_24 rfl ?_
  refine lv_iconst (v := 3) FX.1 FX.2.1 dX2_init_25 (by decide) ?_
  refine lv_ldc (v := (-100000)) FX.1 FX.2.1 FX.2.2.2.1 (FX.2.2.2.2 _ co_RX2_9) dX2_init_26 ?_
  refine p_iast (wsN := [(o, .inr (4, [.int 0, .null, .null, .int 0, .int 0, .int 0, .int 0, .int 0, .int 0])), (q1, .inl (cI, 6, .inl (upd (upd (upd (upd (fun _ => 0) 0 (-100000)) 1 (-100000)) 2 (-100000)) 3 (-100000))))]) FX hK hP hD hS 1 rfl (vp_in_iff.mpr ⟨by decide, by decide⟩) dX2_init_28 rfl (fun H locs hP hD hS => ?_)
  refine lv_dup FX.1 FX.2.1 dX2_init_29 rfl ?_
  refine lv_iconst (v := 4) FX.1 FX.2.1 dX2_init_30 (by decide) ?_
  refine lv_ldc (v := (-100000)) FX.1 FX.2.1 FX.2.2.2.1 (FX.2.2.2.2 _ co_RX2_9) dX2_init_31 ?_
  refine p_iast (wsN := [(o, .inr (4, [.int 0, .null, .null, .int 0, .int 0, .int 0, .int 0, .int 0, .int 0])), (q1, .inl (cI, 6, .inl (upd (upd (upd (upd (upd (fun _ => 0) 0 (-100000)) 1 (-100000)) 2 (-100000)) 3 (-100000)) 4 (-100000))))]) FX hK hP hD hS 1 rfl (vp_in_iff.mpr ⟨by decide, by decide⟩) dX2_init_33 rfl (fun H locs hP hD hS => ?_)
  refine lv_dup FX.1 FX.2.1 dX2_init_34 rfl ?_
  refine lv_iconst (v := 5) FX.1 FX.2.1 dX2_init_35 (by decide) ?_
  refine lv_ldc (v := (-100000)) FX.1 FX.2.1 FX.2.2.2.1 (FX.2.2.2.2 _ co_RX2_9) dX2_init_36 ?_
  refine p_iast (wsN := [(o, .inr (4, [.int 0, .null, .null, .int 0, .int 0, .int 0, .int 0, .int 0, .int 0])), (q1, .inl (cI, 6, .inl (upd (upd (upd (upd (upd (upd (fun _ => 0) 0 (-100000)) 1 (-100000)) 2 (-100000)) 3 (-100000)) 4 (-100000)) 5 (-100000))))]) FX hK hP hD hS 1 rfl (vp_in_iff.mpr ⟨by decide, by decide⟩) dX2_init_38 rfl (fun H locs hP hD hS => ?_)
  refine p_putF (wsN := [(o, .inr (4, [.int 0, .ref q1, .null, .int 0, .int 0, .int 0, .int 0, .int 0, .int 0])), (q1, .inl (cI, 6, .inl (upd (upd (upd (upd (upd (upd (fun _ => 0) 0 (-100000)) 1 (-100000)) 2 (-100000)) 3 (-100000)) 4 (-100000)) 5 (-100000))))]) (ci := 4) (v := .ref q1) (ty := .array .int) FX inX2 tyX2_ok nmX2 hK hP hD hS (hnm.trans rfl) 0 rfl rfl 1 (by decide) (FX.2.2.2.2 _ fl_RX2_10) rfl rfl (by decide +kernel) rfl rfl (Nat.le_of_ble_eq_true rfl) dX2_init_39 rfl (fun H locs hP hD hS => ?_)
  refine lv_aload_n FX.1 FX.2.1 dX2_init_42 rfl (lv_at hl 0 rfl) ?_
  refine lv_iconst (v := 2) FX.1 FX.2.1 dX2_init_43 (by decide) ?_
  refine p_newI (N' := 2) FX ac_int hK hP hD hS hA (by decide) (by decide) (Nat.le_of_ble_eq_true rfl) (by decide) (by decide) dX2_init_44 (fun q2 H hP hD hS => ?_)
  have hP : va_P D KL [(o, .inr (4, [.int 0, .ref q1, .null, .int 0, .int 0, .int 0, .int 0, .int 0, .int 0])), (q1, .inl (cI, 6, .inl (upd (upd (upd (upd (upd (upd (fun _ => 0) 0 (-100000)) 1 (-100000)) 2 (-100000)) 3 (-100000)) 4 (-100000)) 5 (-100000)))), (q2, .inl (cI, 2, .inl (fun _ => 0)))] H := hP
  have hD : va_D A [(o, .inr (4, [.int 0, .ref q1, .null, .int 0, .int 0, .int 0, .int 0, .int 0, .int 0])), (q1, .inl (cI, 6, .inl (upd (upd (upd (upd (upd (upd (fun _ => 0) 0 (-100000)) 1 (-100000)) 2 (-100000)) 3 (-100000)) 4 (-100000)) 5 (-100000)))), (q2, .inl (cI, 2, .inl (fun _ => 0)))] := hD
  refine lv_dup FX.1 FX.2.1 dX2_init_46 rfl ?_
  refine lv_iconst (v := 0) FX.1 FX.2.1 dX2_init_47 (by decide) ?_
  refine lv_ldc (v := (-100000)) FX.1 FX.2.1 FX.2.2.2.1 (FX.2.2.2.2 _ co_RX2_9) dX2_init_48 ?_
  refine p_iast (wsN := [(o, .inr (4, [.int 0, .ref q1, .null, .int 0, .int 0, .int 0, .int 0, .int 0, .int 0])), (q1, .inl (cI, 6, .inl (upd (upd (upd (upd (upd (upd (fun _ => 0) 0 (-100000)) 1 (-100000)) 2 (-100000)) 3 (-100000)) 4 (-100000)) 5 (-100000)))), (q2, .inl (cI, 2, .inl (upd (fun _ => 0) 0 (-100000))))]) FX hK hP hD hS 2 rfl (vp_in_iff.mpr ⟨by decide, by decide⟩) dX2_init_50 rfl (fun H locs hP hD hS => ?_)
  refine lv_dup FX.1 FX.2.1 dX2_init_51 rfl ?_
  refine lv_iconst (v := 1) FX.1 FX.2.1 dX2_init_52 (by decide) ?_
  refine lv_ldc (v := (-100000)) FX.1 FX.2.1 FX.2.2.2.1 (FX.2.2.2.2 _ co_RX2_9) dX2_init_53 ?_
  refine p_iast (wsN := [(o, .inr (4, [.int 0, .ref q1, .null, .int 0, .int 0, .int 0, .int 0, .int 0, .int 0])), (q1, .inl (cI, 6, .inl (upd (upd (upd (upd (upd (upd (fun _ => 0) 0 (-100000)) 1 (-100000)) 2 (-100000)) 3 (-100000)) 4 (-100000)) 5 (-100000)))), (q2, .inl (cI, 2, .inl (upd (upd (fun _ => 0) 0 (-100000)) 1 (-100000))))]) FX hK hP hD hS 2 rfl (vp_in_iff.mpr ⟨by decide, by decide⟩) dX2_init_55 rfl (fun H locs hP hD hS => ?_)
  refine p_putF (wsN := [(o, .inr (4, [.int 0, .ref q1, .ref q2, .int 0, .int 0, .int 0, .int 0, .int 0, .int 0])), (q1, .inl (cI, 6, .inl (upd (upd (upd (upd (upd (upd (fun _ => 0) 0 (-100000)) 1 (-100000)) 2 (-100000)) 3 (-100000)) 4 (-100000)) 5 (-100000)))), (q2, .inl (cI, 2, .inl (upd (upd (fun _ => 0) 0 (-100000)) 1 (-100000))))]) (ci := 4) (v := .ref q2) (ty := .array .int) FX inX2 tyX2_ok nmX2 hK hP hD hS (hnm.trans rfl) 0 rfl rfl 2 (by decide) (FX.2.2.2.2 _ fl_RX2_14) rfl rfl (by decide +kernel) rfl rfl (Nat.le_of_ble_eq_true rfl) dX2_init_56 rfl (fun H locs hP hD hS => ?_)
  exact retJv (q1, q2) FX hr hlk dX2_init_59 hP hK hD hS (by decide) (by decide) rfl trivial
set_option maxRecDepth 100000 in
set_option maxHeartbeats 4000000 in
theorem j_X1_init (l : Launch) (D : va_G) (cI cB : ClassId) (q : Nat) : JW (S := Unit) l yX1_init cX1_init 1 none ({ frames := 1, cells := 0, slots := 0, locals := 24 } : Room) D cI cB [.ref q] [(q, .inr (3, [.long 0, .null]))] zT (fun _ => none) (fun _ => True) (fun _ => [(q, .inr (3, [.long 0, .null]))]) 0 0 := by
  refine bodyJ (by decide +kernel) (Nat.le_of_ble_eq_true rfl) (fun p e s m args below meth c ls A ZZ => ?_)
  obtain ⟨FX, hr, hlk, hK, hP, hD, hS, hA, hz, hnm, hl⟩ := ZZ
  have hl : lv_has ls 1 [(0, .ref q)] := hl
  have hP : va_P D KL [(q, .inr (3, [.long 0, .null]))] s.heap := hP
  refine lv_aload_n FX.1 FX.2.1 dX1_init_0 rfl (lv_at hl 0 rfl) ?_
  refine W.objInit FX.1 FX.2.1 FX.2.2.2.1 (FX.2.2.2.2 _ ml_RX1_1) (FX.2.2.2.2 _ oi_i) (FX.2.2.2.2 _ oi_c) rfl (by rw [FX.2.2.1]; exact hl.1) rfl dX1_init_1 (Nat.le_of_ble_eq_true rfl) (Nat.le_of_ble_eq_true rfl) ?_
  refine W.eq (g2 := F0 m 4 ls []) rfl ?_
  exact retJv () FX hr hlk dX1_init_4 hP hK hD hS (by decide) (by decide) rfl trivial

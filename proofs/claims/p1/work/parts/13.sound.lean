set_option maxRecDepth 20000 in
theorem ml_RX0_124 : Cond.methodLink RX0 124 yX0_areTurnsSound ∈ bigW := bt1 108 rfl rfl
set_option maxRecDepth 20000 in
theorem mi_X0_areTurnsSound : MIv RX0 yX0_areTurnsSound cX0_areTurnsSound 4 (some .boolean) 1 := ⟨⟨bt1 111 rfl rfl, bt1 1 rfl rfl, by decide, by decide, by decide +kernel⟩, bt1 110 rfl rfl, bt0 0 rfl rfl⟩
set_option maxRecDepth 20000 in
theorem ml_RX0_128 : Cond.methodLink RX0 128 yX0_areChainsSound ∈ bigW := bt1 129 rfl rfl
set_option maxRecDepth 20000 in
theorem mi_X0_areChainsSound : MIv RX0 yX0_areChainsSound cX0_areChainsSound 5 (some .boolean) 1 := ⟨⟨bt1 132 rfl rfl, bt1 1 rfl rfl, by decide, by decide, by decide +kernel⟩, bt1 131 rfl rfl, bt0 3 rfl rfl⟩
set_option maxRecDepth 20000 in
theorem ml_RX0_131 : Cond.methodLink RX0 131 yX0_areRulesSound ∈ bigW := bt1 137 rfl rfl
set_option maxRecDepth 20000 in
theorem mi_X0_areRulesSound : MIs yX0_areRulesSound cX0_areRulesSound 2 (some .boolean) 1 := ⟨⟨bt1 139 rfl rfl, bt1 1 rfl rfl, by decide, by decide, by decide +kernel⟩, bt1 138 rfl rfl⟩
set_option maxRecDepth 20000 in
theorem ml_RX0_134 : Cond.methodLink RX0 134 yX0_areTestsSound ∈ bigW := bt1 155 rfl rfl
set_option maxRecDepth 20000 in
theorem mi_X0_areTestsSound : MIs yX0_areTestsSound cX0_areTestsSound 5 (some .boolean) 1 := ⟨⟨bt1 157 rfl rfl, bt1 1 rfl rfl, by decide, by decide, by decide +kernel⟩, bt1 156 rfl rfl⟩
set_option maxRecDepth 20000 in
theorem ml_RX0_137 : Cond.methodLink RX0 137 yX0_isOrSound ∈ bigW := bt1 164 rfl rfl
set_option maxRecDepth 20000 in
theorem mi_X0_isOrSound : MIs yX0_isOrSound cX0_isOrSound 1 (some .boolean) 1 := ⟨⟨bt1 166 rfl rfl, bt1 1 rfl rfl, by decide, by decide, by decide +kernel⟩, bt1 165 rfl rfl⟩
set_option maxRecDepth 20000 in
theorem ml_RX0_140 : Cond.methodLink RX0 140 yX0_arePairsSound ∈ bigW := bt1 173 rfl rfl
set_option maxRecDepth 20000 in
theorem mi_X0_arePairsSound : MIv RX0 yX0_arePairsSound cX0_arePairsSound 4 (some .boolean) 1 := ⟨⟨bt1 176 rfl rfl, bt1 1 rfl rfl, by decide, by decide, by decide +kernel⟩, bt1 175 rfl rfl, bt0 5 rfl rfl⟩
set_option maxRecDepth 20000 in
theorem ml_RX0_111 : Cond.methodLink RX0 111 yX0_howManyFull ∈ bigW := bt2 55 rfl rfl
set_option maxRecDepth 20000 in
theorem mi_X0_howManyFull : MIs yX0_howManyFull cX0_howManyFull 6 (some .int) 1 := ⟨⟨bt2 57 rfl rfl, bt1 1 rfl rfl, by decide, by decide, by decide +kernel⟩, bt2 56 rfl rfl⟩
set_option maxRecDepth 20000 in
theorem ml_RX0_115 : Cond.methodLink RX0 115 yX0_sumOfNumbers ∈ bigW := bt2 61 rfl rfl
set_option maxRecDepth 20000 in
theorem mi_X0_sumOfNumbers : MIs yX0_sumOfNumbers cX0_sumOfNumbers 6 (some .int) 1 := ⟨⟨bt2 63 rfl rfl, bt1 1 rfl rfl, by decide, by decide, by decide +kernel⟩, bt2 62 rfl rfl⟩
set_option maxRecDepth 20000 in
theorem ml_RX2_152 : Cond.methodLink RX2 152 yX2_isTrue ∈ bigW := bt5 236 rfl rfl
set_option maxRecDepth 20000 in
theorem mi_X2_isTrue : MIv RX2 yX2_isTrue cX2_isTrue 9 (some .boolean) 0 := ⟨⟨bt5 239 rfl rfl, bt1 6 rfl rfl, by decide, by decide, by decide +kernel⟩, bt5 238 rfl rfl, bt0 19 rfl rfl⟩
theorem dX0_house_0 : decode cX0_house 0 = .ok (.iload_n 1, 1) := by decide +kernel
theorem dX0_house_1 : decode cX0_house 1 = .ok (.bipush 9, 2) := by decide +kernel
theorem dX0_house_3 : decode cX0_house 3 = .ok (.invokestatic 34, 3) := by decide +kernel
theorem dX0_house_6 : decode cX0_house 6 = .ok (.iload_n 1, 1) := by decide +kernel
theorem dX0_house_7 : decode cX0_house 7 = .ok (.tableswitch 91 0 7 #[45, 53, 61, 66, 71, 76, 81, 86], 45) := by decide +kernel
theorem dX0_house_52 : decode cX0_house 52 = .ok (.aload_n 0, 1) := by decide +kernel
theorem dX0_house_53 : decode cX0_house 53 = .ok (.getfield 9, 3) := by decide +kernel
theorem dX0_house_56 : decode cX0_house 56 = .ok (.invokestatic 111, 3) := by decide +kernel
theorem dX0_house_59 : decode cX0_house 59 = .ok (.ireturn, 1) := by decide +kernel
theorem dX0_house_60 : decode cX0_house 60 = .ok (.aload_n 0, 1) := by decide +kernel
theorem dX0_house_61 : decode cX0_house 61 = .ok (.getfield 9, 3) := by decide +kernel
theorem dX0_house_64 : decode cX0_house 64 = .ok (.invokestatic 115, 3) := by decide +kernel
theorem dX0_house_67 : decode cX0_house 67 = .ok (.ireturn, 1) := by decide +kernel
theorem dX0_house_68 : decode cX0_house 68 = .ok (.aload_n 0, 1) := by decide +kernel
theorem dX0_house_69 : decode cX0_house 69 = .ok (.getfield 38, 3) := by decide +kernel
theorem dX0_house_72 : decode cX0_house 72 = .ok (.ireturn, 1) := by decide +kernel
theorem dX0_house_73 : decode cX0_house 73 = .ok (.aload_n 0, 1) := by decide +kernel
theorem dX0_house_74 : decode cX0_house 74 = .ok (.getfield 62, 3) := by decide +kernel
theorem dX0_house_77 : decode cX0_house 77 = .ok (.ireturn, 1) := by decide +kernel
theorem dX0_house_78 : decode cX0_house 78 = .ok (.aload_n 0, 1) := by decide +kernel
theorem dX0_house_79 : decode cX0_house 79 = .ok (.getfield 118, 3) := by decide +kernel
theorem dX0_house_82 : decode cX0_house 82 = .ok (.ireturn, 1) := by decide +kernel
theorem dX0_house_83 : decode cX0_house 83 = .ok (.aload_n 0, 1) := by decide +kernel
theorem dX0_house_84 : decode cX0_house 84 = .ok (.getfield 65, 3) := by decide +kernel
theorem dX0_house_87 : decode cX0_house 87 = .ok (.ireturn, 1) := by decide +kernel
theorem dX0_house_88 : decode cX0_house 88 = .ok (.aload_n 0, 1) := by decide +kernel
theorem dX0_house_89 : decode cX0_house 89 = .ok (.getfield 121, 3) := by decide +kernel
theorem dX0_house_92 : decode cX0_house 92 = .ok (.ireturn, 1) := by decide +kernel
theorem dX0_house_93 : decode cX0_house 93 = .ok (.aload_n 0, 1) := by decide +kernel
theorem dX0_house_94 : decode cX0_house 94 = .ok (.getfield 108, 3) := by decide +kernel
theorem dX0_house_97 : decode cX0_house 97 = .ok (.ireturn, 1) := by decide +kernel
theorem dX0_house_98 : decode cX0_house 98 = .ok (.aload_n 0, 1) := by decide +kernel
theorem dX0_house_99 : decode cX0_house 99 = .ok (.getfield 13, 3) := by decide +kernel
theorem dX0_house_102 : decode cX0_house 102 = .ok (.invokestatic 111, 3) := by decide +kernel
theorem dX0_house_105 : decode cX0_house 105 = .ok (.ireturn, 1) := by decide +kernel
theorem dX0_isSound_0 : decode cX0_isSound 0 = .ok (.iconst 0, 1) := by decide +kernel
theorem dX0_isSound_1 : decode cX0_isSound 1 = .ok (.istore_n 1, 1) := by decide +kernel
theorem dX0_isSound_2 : decode cX0_isSound 2 = .ok (.iload_n 1, 1) := by decide +kernel
theorem dX0_isSound_3 : decode cX0_isSound 3 = .ok (.bipush 6, 2) := by decide +kernel
theorem dX0_isSound_5 : decode cX0_isSound 5 = .ok (.if_icmp .ge 84, 3) := by decide +kernel
theorem dX0_isSound_8 : decode cX0_isSound 8 = .ok (.aload_n 0, 1) := by decide +kernel
theorem dX0_isSound_9 : decode cX0_isSound 9 = .ok (.getfield 9, 3) := by decide +kernel
theorem dX0_isSound_12 : decode cX0_isSound 12 = .ok (.iload_n 1, 1) := by decide +kernel
theorem dX0_isSound_13 : decode cX0_isSound 13 = .ok (.iaload, 1) := by decide +kernel
theorem dX0_isSound_14 : decode cX0_isSound 14 = .ok (.istore_n 2, 1) := by decide +kernel
theorem dX0_isSound_15 : decode cX0_isSound 15 = .ok (.aload_n 0, 1) := by decide +kernel
theorem dX0_isSound_16 : decode cX0_isSound 16 = .ok (.iload_n 2, 1) := by decide +kernel
theorem dX0_isSound_17 : decode cX0_isSound 17 = .ok (.invokevirtual 124, 3) := by decide +kernel
theorem dX0_isSound_20 : decode cX0_isSound 20 = .ok (.ifCond .eq 55, 3) := by decide +kernel
theorem dX0_isSound_23 : decode cX0_isSound 23 = .ok (.aload_n 0, 1) := by decide +kernel
theorem dX0_isSound_24 : decode cX0_isSound 24 = .ok (.iload_n 2, 1) := by decide +kernel
theorem dX0_isSound_25 : decode cX0_isSound 25 = .ok (.invokevirtual 128, 3) := by decide +kernel
theorem dX0_isSound_28 : decode cX0_isSound 28 = .ok (.ifCond .eq 47, 3) := by decide +kernel
theorem dX0_isSound_31 : decode cX0_isSound 31 = .ok (.iload_n 2, 1) := by decide +kernel
theorem dX0_isSound_32 : decode cX0_isSound 32 = .ok (.invokestatic 131, 3) := by decide +kernel
theorem dX0_isSound_35 : decode cX0_isSound 35 = .ok (.ifCond .eq 40, 3) := by decide +kernel
theorem dX0_isSound_38 : decode cX0_isSound 38 = .ok (.iload_n 2, 1) := by decide +kernel
theorem dX0_isSound_39 : decode cX0_isSound 39 = .ok (.invokestatic 134, 3) := by decide +kernel
theorem dX0_isSound_42 : decode cX0_isSound 42 = .ok (.ifCond .eq 33, 3) := by decide +kernel
theorem dX0_isSound_45 : decode cX0_isSound 45 = .ok (.iload_n 2, 1) := by decide +kernel
theorem dX0_isSound_46 : decode cX0_isSound 46 = .ok (.invokestatic 137, 3) := by decide +kernel
theorem dX0_isSound_49 : decode cX0_isSound 49 = .ok (.ifCond .eq 26, 3) := by decide +kernel
theorem dX0_isSound_52 : decode cX0_isSound 52 = .ok (.iload_n 2, 1) := by decide +kernel
theorem dX0_isSound_53 : decode cX0_isSound 53 = .ok (.invokestatic 56, 3) := by decide +kernel
theorem dX0_isSound_56 : decode cX0_isSound 56 = .ok (.iload_n 2, 1) := by decide +kernel
theorem dX0_isSound_57 : decode cX0_isSound 57 = .ok (.invokestatic 78, 3) := by decide +kernel
theorem dX0_isSound_60 : decode cX0_isSound 60 = .ok (.ifCond .eq 15, 3) := by decide +kernel
theorem dX0_isSound_63 : decode cX0_isSound 63 = .ok (.aload_n 0, 1) := by decide +kernel
theorem dX0_isSound_64 : decode cX0_isSound 64 = .ok (.iload_n 1, 1) := by decide +kernel
theorem dX0_isSound_65 : decode cX0_isSound 65 = .ok (.invokevirtual 140, 3) := by decide +kernel
theorem dX0_isSound_68 : decode cX0_isSound 68 = .ok (.ifCond .eq 7, 3) := by decide +kernel
theorem dX0_isSound_71 : decode cX0_isSound 71 = .ok (.iconst 1, 1) := by decide +kernel
theorem dX0_isSound_72 : decode cX0_isSound 72 = .ok (.goto 4, 3) := by decide +kernel
theorem dX0_isSound_76 : decode cX0_isSound 76 = .ok (.istore_n 3, 1) := by decide +kernel
theorem dX0_isSound_77 : decode cX0_isSound 77 = .ok (.iload_n 3, 1) := by decide +kernel
theorem dX0_isSound_78 : decode cX0_isSound 78 = .ok (.ifCond .ne 5, 3) := by decide +kernel
theorem dX0_isSound_83 : decode cX0_isSound 83 = .ok (.iinc 1 1, 3) := by decide +kernel
theorem dX0_isSound_86 : decode cX0_isSound 86 = .ok (.goto (-84), 3) := by decide +kernel
theorem dX0_isSound_89 : decode cX0_isSound 89 = .ok (.iconst 1, 1) := by decide +kernel
theorem dX0_isSound_90 : decode cX0_isSound 90 = .ok (.ireturn, 1) := by decide +kernel
theorem dX2_isSound_0 : decode cX2_isSound 0 = .ok (.aload_n 0, 1) := by decide +kernel
theorem dX2_isSound_1 : decode cX2_isSound 1 = .ok (.iconst 0, 1) := by decide +kernel
theorem dX2_isSound_2 : decode cX2_isSound 2 = .ok (.putfield 17, 3) := by decide +kernel
theorem dX2_isSound_5 : decode cX2_isSound 5 = .ok (.aload_n 0, 1) := by decide +kernel
theorem dX2_isSound_6 : decode cX2_isSound 6 = .ok (.invokevirtual 152, 3) := by decide +kernel
theorem dX2_isSound_9 : decode cX2_isSound 9 = .ok (.ireturn, 1) := by decide +kernel
theorem dX2_isTrue_0 : decode cX2_isTrue 0 = .ok (.aload_n 0, 1) := by decide +kernel
theorem dX2_isTrue_1 : decode cX2_isTrue 1 = .ok (.getfield 10, 3) := by decide +kernel
theorem dX2_isTrue_4 : decode cX2_isTrue 4 = .ok (.astore_n 1, 1) := by decide +kernel
theorem dX2_isTrue_5 : decode cX2_isTrue 5 = .ok (.aload_n 1, 1) := by decide +kernel
theorem dX2_isTrue_6 : decode cX2_isTrue 6 = .ok (.arraylength, 1) := by decide +kernel
theorem dX2_isTrue_7 : decode cX2_isTrue 7 = .ok (.istore_n 2, 1) := by decide +kernel
theorem dX2_isTrue_8 : decode cX2_isTrue 8 = .ok (.iconst 0, 1) := by decide +kernel
theorem dX2_isTrue_9 : decode cX2_isTrue 9 = .ok (.istore_n 3, 1) := by decide +kernel
theorem dX2_isTrue_10 : decode cX2_isTrue 10 = .ok (.iload_n 3, 1) := by decide +kernel
theorem dX2_isTrue_11 : decode cX2_isTrue 11 = .ok (.iload_n 2, 1) := by decide +kernel
theorem dX2_isTrue_12 : decode cX2_isTrue 12 = .ok (.if_icmp .ge 101, 3) := by decide +kernel
theorem dX2_isTrue_15 : decode cX2_isTrue 15 = .ok (.aload_n 1, 1) := by decide +kernel
theorem dX2_isTrue_16 : decode cX2_isTrue 16 = .ok (.iload_n 3, 1) := by decide +kernel
theorem dX2_isTrue_17 : decode cX2_isTrue 17 = .ok (.iaload, 1) := by decide +kernel
theorem dX2_isTrue_18 : decode cX2_isTrue 18 = .ok (.istore 4, 2) := by decide +kernel
theorem dX2_isTrue_20 : decode cX2_isTrue 20 = .ok (.aload_n 0, 1) := by decide +kernel
theorem dX2_isTrue_21 : decode cX2_isTrue 21 = .ok (.getfield 10, 3) := by decide +kernel
theorem dX2_isTrue_24 : decode cX2_isTrue 24 = .ok (.astore 5, 2) := by decide +kernel
theorem dX2_isTrue_26 : decode cX2_isTrue 26 = .ok (.aload 5, 2) := by decide +kernel
theorem dX2_isTrue_28 : decode cX2_isTrue 28 = .ok (.arraylength, 1) := by decide +kernel
theorem dX2_isTrue_29 : decode cX2_isTrue 29 = .ok (.istore 6, 2) := by decide +kernel
theorem dX2_isTrue_31 : decode cX2_isTrue 31 = .ok (.iconst 0, 1) := by decide +kernel
theorem dX2_isTrue_32 : decode cX2_isTrue 32 = .ok (.istore 7, 2) := by decide +kernel
theorem dX2_isTrue_34 : decode cX2_isTrue 34 = .ok (.iload 7, 2) := by decide +kernel
theorem dX2_isTrue_36 : decode cX2_isTrue 36 = .ok (.iload 6, 2) := by decide +kernel
theorem dX2_isTrue_38 : decode cX2_isTrue 38 = .ok (.if_icmp .ge 69, 3) := by decide +kernel
theorem dX2_isTrue_41 : decode cX2_isTrue 41 = .ok (.aload 5, 2) := by decide +kernel
theorem dX2_isTrue_43 : decode cX2_isTrue 43 = .ok (.iload 7, 2) := by decide +kernel
theorem dX2_isTrue_45 : decode cX2_isTrue 45 = .ok (.iaload, 1) := by decide +kernel
theorem dX2_isTrue_46 : decode cX2_isTrue 46 = .ok (.istore 8, 2) := by decide +kernel
theorem dX2_isTrue_48 : decode cX2_isTrue 48 = .ok (.iload 4, 2) := by decide +kernel
theorem dX2_isTrue_50 : decode cX2_isTrue 50 = .ok (.iload 8, 2) := by decide +kernel
theorem dX2_isTrue_52 : decode cX2_isTrue 52 = .ok (.iconst 0, 1) := by decide +kernel
theorem dX2_isTrue_53 : decode cX2_isTrue 53 = .ok (.invokestatic 103, 3) := by decide +kernel
theorem dX2_isTrue_56 : decode cX2_isTrue 56 = .ok (.ifCond .ne 7, 3) := by decide +kernel
theorem dX2_isTrue_59 : decode cX2_isTrue 59 = .ok (.iconst 1, 1) := by decide +kernel
theorem dX2_isTrue_60 : decode cX2_isTrue 60 = .ok (.goto 4, 3) := by decide +kernel
theorem dX2_isTrue_63 : decode cX2_isTrue 63 = .ok (.iconst 0, 1) := by decide +kernel
theorem dX2_isTrue_64 : decode cX2_isTrue 64 = .ok (.iload 4, 2) := by decide +kernel
theorem dX2_isTrue_66 : decode cX2_isTrue 66 = .ok (.iload 8, 2) := by decide +kernel
theorem dX2_isTrue_68 : decode cX2_isTrue 68 = .ok (.if_icmp .ne 7, 3) := by decide +kernel
theorem dX2_isTrue_71 : decode cX2_isTrue 71 = .ok (.iconst 1, 1) := by decide +kernel
theorem dX2_isTrue_72 : decode cX2_isTrue 72 = .ok (.goto 4, 3) := by decide +kernel
theorem dX2_isTrue_75 : decode cX2_isTrue 75 = .ok (.iconst 0, 1) := by decide +kernel
theorem dX2_isTrue_76 : decode cX2_isTrue 76 = .ok (.if_icmp .ne 23, 3) := by decide +kernel
theorem dX2_isTrue_79 : decode cX2_isTrue 79 = .ok (.iload 4, 2) := by decide +kernel
theorem dX2_isTrue_81 : decode cX2_isTrue 81 = .ok (.iload 8, 2) := by decide +kernel
theorem dX2_isTrue_83 : decode cX2_isTrue 83 = .ok (.iconst 1, 1) := by decide +kernel
theorem dX2_isTrue_84 : decode cX2_isTrue 84 = .ok (.invokestatic 103, 3) := by decide +kernel
theorem dX2_isTrue_87 : decode cX2_isTrue 87 = .ok (.iload 4, 2) := by decide +kernel
theorem dX2_isTrue_89 : decode cX2_isTrue 89 = .ok (.iload 8, 2) := by decide +kernel
theorem dX2_isTrue_91 : decode cX2_isTrue 91 = .ok (.iconst 0, 1) := by decide +kernel
theorem dX2_isTrue_92 : decode cX2_isTrue 92 = .ok (.invokestatic 103, 3) := by decide +kernel
theorem dX2_isTrue_95 : decode cX2_isTrue 95 = .ok (.ineg, 1) := by decide +kernel
theorem dX2_isTrue_96 : decode cX2_isTrue 96 = .ok (.if_icmp .eq 5, 3) := by decide +kernel
theorem dX2_isTrue_101 : decode cX2_isTrue 101 = .ok (.iinc 7 1, 3) := by decide +kernel
theorem dX2_isTrue_104 : decode cX2_isTrue 104 = .ok (.goto (-70), 3) := by decide +kernel
theorem dX2_isTrue_107 : decode cX2_isTrue 107 = .ok (.iinc 3 1, 3) := by decide +kernel
theorem dX2_isTrue_110 : decode cX2_isTrue 110 = .ok (.goto (-100), 3) := by decide +kernel
theorem dX2_isTrue_113 : decode cX2_isTrue 113 = .ok (.iconst 1, 1) := by decide +kernel
theorem dX2_isTrue_114 : decode cX2_isTrue 114 = .ok (.ireturn, 1) := by decide +kernel
theorem snd_lit : ¬ (1 : Int32) = 0 := by decide
theorem snd_turns (v : Int32) (f : Nat → Int32) : ¬ v_X0_areTurnsSound v f = 0 := by
  unfold v_X0_areTurnsSound
  refine alike_ne ?_
  by_cases h : v = -10000
  · rw [h]; exact turned_no 4 f
  · rw [v_X0_turned, if_neg h]; rfl
theorem snd_or (v : Int32) : ¬ v_X0_isOrSound v = 0 := by
  have e1 : v_X0_firstFull v (-10000) = v := by
    unfold v_X0_firstFull
    split
    · rename_i h; exact h.symm
    · rfl
  have e2 : v_X0_firstFull (-10000) v = v := by
    unfold v_X0_firstFull
    rw [if_pos rfl]
  unfold v_X0_isOrSound
  rw [e1, e2, alike_self, if_neg (by decide), if_neg (by decide)]
  decide
theorem snd_wrap (v : Int32) : ¬ v_X0_alike (v_X0_rewrapped v) v = 0 := alike_ne rfl
set_option maxRecDepth 100000 in
set_option maxHeartbeats 4000000 in
theorem L_X0_isSound_2 {p : Program} {l : Launch} {e : Env} {R : Room} {s : State} {m : MethodId} {args : Array Value} {below : List Frame} {meth : Method} {c : Code} {H : Heap} {locs : List Loc} {cells slots : Nat} {Q : State → Prop} (D : va_G) (cI cB : ClassId) (x bx px tx : Nat) (f g : Nat → Int32) (ak su gt lf rf kn : Int32) (ho6 : ok6 f) (hRf : 5 ≤ R.frames) (hRl : 115 ≤ R.locals) (hf : cells ≤ R.cells ∧ slots ≤ R.slots) (FX : CallFix p m c cX0_isSound 4 s args bigW RX0) (hK : va_K D KL (TY cI cB) s) (hP : va_P D KL (wX cI x bx px tx f g ak su gt lf rf kn) H)
    (kk : ∀ ls : Array Slot, lv_has ls 4 [(1, .int 6), (0, .ref x)] → W p l e R s m args below meth c H locs cells slots Q (F0 m 89 ls [])) : ∀ (j i : Nat), i + j = 6 → ∀ ls : Array Slot, lv_has ls 4 [(1, .int (nI i)), (0, .ref x)] → W p l e R s m args below meth c H locs cells slots Q (F0 m 2 ls []) := by
  intro j
  induction j with
  | zero =>
    intro i hij ls hl
    obtain rfl : i = 6 := by omega
    have hl : lv_has ls 4 [(1, .int 6), (0, .ref x)] := hl
    refine lv_iload_n FX.1 FX.2.1 dX0_isSound_2 rfl (lv_at hl 0 rfl) ?_
    refine lv_bipush (v := 6) FX.1 FX.2.1 dX0_isSound_3 (by decide) ?_
    refine lv_icmp_ge (tgt := 89) FX.1 FX.2.1 dX0_isSound_5 (by decide) (fun c_101 => ?_) (fun c_101 => ?_)
    · exact kk ls (lv_sub hl [0, 1] rfl)
    · exact absurd c_101 (by decide)
  | succ j ih =>
    intro i hij ls hl
    have hlt : i < 6 := by omega
    refine lv_iload_n FX.1 FX.2.1 dX0_isSound_2 rfl (lv_at hl 0 rfl) ?_
    refine lv_bipush (v := 6) FX.1 FX.2.1 dX0_isSound_3 (by decide) ?_
    refine lv_icmp_ge (tgt := 89) FX.1 FX.2.1 dX0_isSound_5 (by decide) (fun c_1 => ?_) (fun c_1 => ?_)
    · exact absurd c_1 (nI_ge (b := 6) hlt (by decide))
    · refine lv_aload_n FX.1 FX.2.1 dX0_isSound_8 rfl (lv_at hl 1 rfl) ?_
      refine va_get (D := D) (ci := 2) (v := .ref bx) (C := RX0) (T := TX0) (N := 9) FX.1 FX.2.1 FX.2.2.2.2 inX0 FX.2.2.2.1 hK hP 0 rfl rfl 0 (by decide) (FX.2.2.2.2 _ fl_RX0_9) (fun _ h9 => h9) rfl dX0_isSound_9 ?_
      refine lv_iload_n FX.1 FX.2.1 dX0_isSound_12 rfl (lv_at hl 0 rfl) ?_
      refine p_iald (v := f i) FX hK hP 1 rfl (vp_in_nI hlt (by decide)) dX0_isSound_13 (congrArg f (nI_clamp (by omega))) ?_
      refine lv_istore_n (lv' := [(2, .int (f i)), (1, .int (nI i)), (0, .ref x)]) FX.1 FX.2.1 dX0_isSound_14 rfl hl (by decide) rfl (fun ls hl => ?_)
      refine lv_aload_n FX.1 FX.2.1 dX0_isSound_15 rfl (lv_at hl 2 rfl) ?_
      refine lv_iload_n FX.1 FX.2.1 dX0_isSound_16 rfl (lv_at hl 0 rfl) ?_
      refine c_RDV (i0 := 0) (ci := 2) FX (r_X0_areTurnsSound l D cI cB x bx px tx f g ak su gt lf rf kn (f i)) mi_X0_areTurnsSound rfl ml_RX0_124 (RMk.mk hRf hRl) hl.1 rfl (Nat.le_of_ble_eq_true rfl) dX0_isSound_17 hf hK hP [0, 1, 2] rfl rfl rfl rfl ?_
      refine lv_if_eq (tgt := 75) FX.1 FX.2.1 dX0_isSound_20 (by decide) (fun c_2 => ?_) (fun c_2 => ?_)
      · exact absurd c_2 (snd_turns _ _)
      · refine lv_aload_n FX.1 FX.2.1 dX0_isSound_23 rfl (lv_at hl 2 rfl) ?_
        refine lv_iload_n FX.1 FX.2.1 dX0_isSound_24 rfl (lv_at hl 0 rfl) ?_
        refine c_RDV (i0 := 0) (ci := 2) FX (r_X0_areChainsSound l D cI cB x bx px tx f g ak su gt lf rf kn (f i)) mi_X0_areChainsSound rfl ml_RX0_128 (RMk.mk hRf hRl) hl.1 rfl (Nat.le_of_ble_eq_true rfl) dX0_isSound_25 hf hK hP [0, 1, 2] rfl rfl rfl rfl ?_
        refine lv_if_eq (tgt := 75) FX.1 FX.2.1 dX0_isSound_28 (by decide) (fun c_3 => ?_) (fun c_3 => ?_)
        · exact absurd c_3 (by decide)
        · refine lv_iload_n FX.1 FX.2.1 dX0_isSound_31 rfl (lv_at hl 0 rfl) ?_
          refine c_RDs FX (r_X0_areRulesSound l D cI cB (f i) (ho6 i hlt)) mi_X0_areRulesSound rfl ml_RX0_131 (RMk.mk hRf hRl) hl.1 rfl (Nat.le_of_ble_eq_true rfl) dX0_isSound_32 hf hK hP [] rfl ?_
          refine lv_if_eq (tgt := 75) FX.1 FX.2.1 dX0_isSound_35 (by decide) (fun c_4 => ?_) (fun c_4 => ?_)
          · exact absurd c_4 (by decide)
          · refine lv_iload_n FX.1 FX.2.1 dX0_isSound_38 rfl (lv_at hl 0 rfl) ?_
            refine c_RDs FX (r_X0_areTestsSound l D cI cB (f i)) mi_X0_areTestsSound rfl ml_RX0_134 (RMk.mk hRf hRl) hl.1 rfl (Nat.le_of_ble_eq_true rfl) dX0_isSound_39 hf hK hP [] rfl ?_
            refine lv_if_eq (tgt := 75) FX.1 FX.2.1 dX0_isSound_42 (by decide) (fun c_5 => ?_) (fun c_5 => ?_)
            · exact absurd c_5 (by decide)
            · refine lv_iload_n FX.1 FX.2.1 dX0_isSound_45 rfl (lv_at hl 0 rfl) ?_
              refine c_RDs FX (r_X0_isOrSound l D cI cB (f i)) mi_X0_isOrSound rfl ml_RX0_137 (RMk.mk hRf hRl) hl.1 rfl (Nat.le_of_ble_eq_true rfl) dX0_isSound_46 hf hK hP [] rfl ?_
              refine lv_if_eq (tgt := 75) FX.1 FX.2.1 dX0_isSound_49 (by decide) (fun c_6 => ?_) (fun c_6 => ?_)
              · exact absurd c_6 (snd_or _)
              · refine lv_iload_n FX.1 FX.2.1 dX0_isSound_52 rfl (lv_at hl 0 rfl) ?_
                refine c_RDs FX (r_X0_rewrapped l D cI cB (f i)) mi_X0_rewrapped rfl ml_RX0_56 (RMk.mk hRf hRl) hl.1 rfl (Nat.le_of_ble_eq_true rfl) dX0_isSound_53 hf hK hP [] rfl ?_
                refine lv_iload_n FX.1 FX.2.1 dX0_isSound_56 rfl (lv_at hl 0 rfl) ?_
                refine c_RDs FX (r_X0_alike l D cI cB (v_X0_rewrapped (f i)) (f i)) mi_X0_alike rfl ml_RX0_78 (RMk.mk hRf hRl) hl.1 rfl (Nat.le_of_ble_eq_true rfl) dX0_isSound_57 hf hK hP [] rfl ?_
                refine lv_if_eq (tgt := 75) FX.1 FX.2.1 dX0_isSound_60 (by decide) (fun c_7 => ?_) (fun c_7 => ?_)
                · exact absurd c_7 (snd_wrap _)
                · refine lv_aload_n FX.1 FX.2.1 dX0_isSound_63 rfl (lv_at hl 2 rfl) ?_
                  refine lv_iload_n FX.1 FX.2.1 dX0_isSound_64 rfl (lv_at hl 1 rfl) ?_
                  refine c_RDV (i0 := 0) (ci := 2) FX (r_X0_arePairsSound l D cI cB x bx px tx f g ak su gt lf rf kn (nI i) ho6 (vp_in_nI hlt (by decide))) mi_X0_arePairsSound rfl ml_RX0_140 (RMk.mk hRf hRl) hl.1 rfl (Nat.le_of_ble_eq_true rfl) dX0_isSound_65 hf hK hP [0, 1, 2] rfl rfl rfl rfl ?_
                  refine lv_if_eq (tgt := 75) FX.1 FX.2.1 dX0_isSound_68 (by decide) (fun c_8 => ?_) (fun c_8 => ?_)
                  · exact absurd c_8 (by decide)
                  · refine lv_iconst (v := 1) FX.1 FX.2.1 dX0_isSound_71 (by decide) ?_
                    refine lv_goto (tgt := 76) FX.1 FX.2.1 dX0_isSound_72 (by decide) ?_
                    refine lv_istore_n (lv' := [(3, .int 1), (2, .int (f i)), (1, .int (nI i)), (0, .ref x)]) FX.1 FX.2.1 dX0_isSound_76 rfl hl (by decide) rfl (fun ls hl => ?_)
                    refine lv_iload_n FX.1 FX.2.1 dX0_isSound_77 rfl (lv_at hl 0 rfl) ?_
                    refine lv_if_ne (tgt := 83) FX.1 FX.2.1 dX0_isSound_78 (by decide) (fun c_9 => ?_) (fun c_9 => ?_)
                    · refine lv_iinc (v := nI (i + 1)) (lv' := [(1, .int (nI (i + 1))), (3, .int 1), (2, .int (f i)), (0, .ref x)]) FX.1 FX.2.1 dX0_isSound_83 hl (k := 2) rfl (by exact nI_1 _) (by decide) rfl (fun ls hl => ?_)
                      refine lv_goto (tgt := 2) FX.1 FX.2.1 dX0_isSound_86 (by decide) ?_
                      exact ih (i + 1) (by omega) ls (lv_sub hl [0, 3] rfl)
                    · exact absurd c_9 (by decide)
def v_X0_isSound  : Int32 := 1
set_option maxRecDepth 100000 in
set_option maxHeartbeats 4000000 in
theorem r_X0_isSound (l : Launch) (D : va_G) (cI cB : ClassId) (x bx px tx : Nat) (f g : Nat → Int32) (ak su gt lf rf kn : Int32) (ho6 : ok6 f) : RD l yX0_isSound cX0_isSound 4 (some .boolean) ({ frames := 5, cells := 0, slots := 0, locals := 115 } : Room) D cI cB [.ref x] (wX cI x bx px tx f g ak su gt lf rf kn) v_X0_isSound := by
  refine bodyRD (by decide +kernel) (Nat.le_of_ble_eq_true rfl) (fun p e s m args below meth c ls FX hr hlk hK hP hl => ?_)
  have hl : lv_has ls 4 [(0, .ref x)] := hl
  refine lv_iconst (v := 0) FX.1 FX.2.1 dX0_isSound_0 (by decide) ?_
  refine lv_istore_n (lv' := [(1, .int 0), (0, .ref x)]) FX.1 FX.2.1 dX0_isSound_1 rfl hl (by decide) rfl (fun ls hl => ?_)
  refine L_X0_isSound_2 D cI cB x bx px tx f g ak su gt lf rf kn ho6  (Nat.le_of_ble_eq_true rfl) (Nat.le_of_ble_eq_true rfl) (by decide) FX hK hP (fun ls hl => ?_) 6 0 (by omega) ls (lv_sub hl [0, 1] rfl)
  refine lv_iconst (v := 1) FX.1 FX.2.1 dX0_isSound_89 (by decide) ?_
  exact retRD FX hr hlk dX0_isSound_90 rfl (by rw [v_X0_isSound])
theorem b01_v_X0_isSound  : is01 v_X0_isSound := by
  unfold v_X0_isSound
  repeat' split
  all_goals first | exact Or.inl rfl | exact Or.inr rfl
def e_X0_house (k1 : Int32) : Nat := if (e_X0_needKind k1 9) = 0 then 0 else e_X0_needKind k1 9
def v_X0_house (k1 : Int32) (f : Nat → Int32) (g : Nat → Int32) (ak : Int32) (su : Int32) (gt : Int32) (lf : Int32) (rf : Int32) (kn : Int32) : Int32 := if k1 = 0 then v_X0_howManyFull_6 f else (if k1 = 1 then v_X0_sumOfNumbers_6 f else (if k1 = 2 then ak else (if k1 = 3 then su else (if k1 = 4 then gt else (if k1 = 5 then lf else (if k1 = 6 then rf else (if k1 = 7 then kn else v_X0_howManyFull_2 g)))))))
set_option maxRecDepth 100000 in
set_option maxHeartbeats 4000000 in
theorem r_X0_house (l : Launch) (D : va_G) (cI cB : ClassId) (x bx px tx : Nat) (f g : Nat → Int32) (ak su gt lf rf kn : Int32) (k1 : Int32) (h : e_X0_house k1 = 0) : RD l yX0_house cX0_house 2 (some .int) ({ frames := 2, cells := 0, slots := 0, locals := 45 } : Room) D cI cB [.ref x, .int k1] (wX cI x bx px tx f g ak su gt lf rf kn) (v_X0_house k1 f g ak su gt lf rf kn) := by
  refine bodyRD (by decide +kernel) (Nat.le_of_ble_eq_true rfl) (fun p e s m args below meth c ls FX hr hlk hK hP hl => ?_)
  have hl : lv_has ls 2 [(0, .ref x), (1, .int k1)] := hl
  refine lv_iload_n FX.1 FX.2.1 dX0_house_0 rfl (lv_at hl 1 rfl) ?_
  refine lv_bipush (v := 9) FX.1 FX.2.1 dX0_house_1 (by decide) ?_
  have q_1 : (e_X0_needKind k1 9) = 0 := Decidable.byContradiction (fun z => absurd h (by rw [e_X0_house, if_neg z]; exact z))
  refine c_RDvs FX (r_X0_needKind l D cI cB k1 9 q_1) mi_X0_needKind rfl ml_RX0_34 (RMok.mk) hl.1 rfl (Nat.le_of_ble_eq_true rfl) dX0_house_3 (by decide) hK hP [] rfl ?_
  refine lv_iload_n FX.1 FX.2.1 dX0_house_6 rfl (lv_at hl 1 rfl) ?_
  by_cases c_2 : k1 = 0
  · refine lv_tableIn (off := 45) (tgt := 52) FX.1 FX.2.1 dX0_house_7 (by rw [c_2]; decide) (by rw [c_2]; decide) (by rw [c_2]; rfl) (by decide) ?_
    refine lv_aload_n FX.1 FX.2.1 dX0_house_52 rfl (lv_at hl 0 rfl) ?_
    refine va_get (D := D) (ci := 2) (v := .ref bx) (C := RX0) (T := TX0) (N := 9) FX.1 FX.2.1 FX.2.2.2.2 inX0 FX.2.2.2.1 hK hP 0 rfl rfl 0 (by decide) (FX.2.2.2.2 _ fl_RX0_9) (fun _ h9 => h9) rfl dX0_house_53 ?_
    refine c_RDs FX (r_X0_howManyFull_6 l D cI cB bx f) mi_X0_howManyFull rfl ml_RX0_111 (RMok.mk) hl.1 rfl (Nat.le_of_ble_eq_true rfl) dX0_house_56 (by decide) hK hP [1] rfl ?_
    exact retRD FX hr hlk dX0_house_59 rfl (by rw [v_X0_house, if_pos c_2])
  · by_cases c_3 : k1 = 1
    · refine lv_tableIn (off := 53) (tgt := 60) FX.1 FX.2.1 dX0_house_7 (by rw [c_3]; decide) (by rw [c_3]; decide) (by rw [c_3]; rfl) (by decide) ?_
      refine lv_aload_n FX.1 FX.2.1 dX0_house_60 rfl (lv_at hl 0 rfl) ?_
      refine va_get (D := D) (ci := 2) (v := .ref bx) (C := RX0) (T := TX0) (N := 9) FX.1 FX.2.1 FX.2.2.2.2 inX0 FX.2.2.2.1 hK hP 0 rfl rfl 0 (by decide) (FX.2.2.2.2 _ fl_RX0_9) (fun _ h9 => h9) rfl dX0_house_61 ?_
      refine c_RDs FX (r_X0_sumOfNumbers_6 l D cI cB bx f) mi_X0_sumOfNumbers rfl ml_RX0_115 (RMok.mk) hl.1 rfl (Nat.le_of_ble_eq_true rfl) dX0_house_64 (by decide) hK hP [1] rfl ?_
      exact retRD FX hr hlk dX0_house_67 rfl (by rw [v_X0_house, if_neg c_2, if_pos c_3])
    · by_cases c_4 : k1 = 2
      · refine lv_tableIn (off := 61) (tgt := 68) FX.1 FX.2.1 dX0_house_7 (by rw [c_4]; decide) (by rw [c_4]; decide) (by rw [c_4]; rfl) (by decide) ?_
        refine lv_aload_n FX.1 FX.2.1 dX0_house_68 rfl (lv_at hl 0 rfl) ?_
        refine va_get (D := D) (ci := 2) (v := .int ak) (C := RX0) (T := TX0) (N := 9) FX.1 FX.2.1 FX.2.2.2.2 inX0 FX.2.2.2.1 hK hP 0 rfl rfl 3 (by decide) (FX.2.2.2.2 _ fl_RX0_38) (fun _ h9 => h9) rfl dX0_house_69 ?_
        exact retRD FX hr hlk dX0_house_72 rfl (by rw [v_X0_house, if_neg c_2, if_neg c_3, if_pos c_4])
      · by_cases c_5 : k1 = 3
        · refine lv_tableIn (off := 66) (tgt := 73) FX.1 FX.2.1 dX0_house_7 (by rw [c_5]; decide) (by rw [c_5]; decide) (by rw [c_5]; rfl) (by decide) ?_
          refine lv_aload_n FX.1 FX.2.1 dX0_house_73 rfl (lv_at hl 0 rfl) ?_
          refine va_get (D := D) (ci := 2) (v := .int su) (C := RX0) (T := TX0) (N := 9) FX.1 FX.2.1 FX.2.2.2.2 inX0 FX.2.2.2.1 hK hP 0 rfl rfl 4 (by decide) (FX.2.2.2.2 _ fl_RX0_62) (fun _ h9 => h9) rfl dX0_house_74 ?_
          exact retRD FX hr hlk dX0_house_77 rfl (by rw [v_X0_house, if_neg c_2, if_neg c_3, if_neg c_4, if_pos c_5])
        · by_cases c_6 : k1 = 4
          · refine lv_tableIn (off := 71) (tgt := 78) FX.1 FX.2.1 dX0_house_7 (by rw [c_6]; decide) (by rw [c_6]; decide) (by rw [c_6]; rfl) (by decide) ?_
            refine lv_aload_n FX.1 FX.2.1 dX0_house_78 rfl (lv_at hl 0 rfl) ?_
            refine va_get (D := D) (ci := 2) (v := .int gt) (C := RX0) (T := TX0) (N := 9) FX.1 FX.2.1 FX.2.2.2.2 inX0 FX.2.2.2.1 hK hP 0 rfl rfl 5 (by decide) (FX.2.2.2.2 _ fl_RX0_118) (fun _ h9 => h9) rfl dX0_house_79 ?_
            exact retRD FX hr hlk dX0_house_82 rfl (by rw [v_X0_house, if_neg c_2, if_neg c_3, if_neg c_4, if_neg c_5, if_pos c_6])
          · by_cases c_7 : k1 = 5
            · refine lv_tableIn (off := 76) (tgt := 83) FX.1 FX.2.1 dX0_house_7 (by rw [c_7]; decide) (by rw [c_7]; decide) (by rw [c_7]; rfl) (by decide) ?_
              refine lv_aload_n FX.1 FX.2.1 dX0_house_83 rfl (lv_at hl 0 rfl) ?_
              refine va_get (D := D) (ci := 2) (v := .int lf) (C := RX0) (T := TX0) (N := 9) FX.1 FX.2.1 FX.2.2.2.2 inX0 FX.2.2.2.1 hK hP 0 rfl rfl 6 (by decide) (FX.2.2.2.2 _ fl_RX0_65) (fun _ h9 => h9) rfl dX0_house_84 ?_
              exact retRD FX hr hlk dX0_house_87 rfl (by rw [v_X0_house, if_neg c_2, if_neg c_3, if_neg c_4, if_neg c_5, if_neg c_6, if_pos c_7])
            · by_cases c_8 : k1 = 6
              · refine lv_tableIn (off := 81) (tgt := 88) FX.1 FX.2.1 dX0_house_7 (by rw [c_8]; decide) (by rw [c_8]; decide) (by rw [c_8]; rfl) (by decide) ?_
                refine lv_aload_n FX.1 FX.2.1 dX0_house_88 rfl (lv_at hl 0 rfl) ?_
                refine va_get (D := D) (ci := 2) (v := .int rf) (C := RX0) (T := TX0) (N := 9) FX.1 FX.2.1 FX.2.2.2.2 inX0 FX.2.2.2.1 hK hP 0 rfl rfl 7 (by decide) (FX.2.2.2.2 _ fl_RX0_121) (fun _ h9 => h9) rfl dX0_house_89 ?_
                exact retRD FX hr hlk dX0_house_92 rfl (by rw [v_X0_house, if_neg c_2, if_neg c_3, if_neg c_4, if_neg c_5, if_neg c_6, if_neg c_7, if_pos c_8])
              · by_cases c_9 : k1 = 7
                · refine lv_tableIn (off := 86) (tgt := 93) FX.1 FX.2.1 dX0_house_7 (by rw [c_9]; decide) (by rw [c_9]; decide) (by rw [c_9]; rfl) (by decide) ?_
                  refine lv_aload_n FX.1 FX.2.1 dX0_house_93 rfl (lv_at hl 0 rfl) ?_
                  refine va_get (D := D) (ci := 2) (v := .int kn) (C := RX0) (T := TX0) (N := 9) FX.1 FX.2.1 FX.2.2.2.2 inX0 FX.2.2.2.1 hK hP 0 rfl rfl 8 (by decide) (FX.2.2.2.2 _ fl_RX0_108) (fun _ h9 => h9) rfl dX0_house_94 ?_
                  exact retRD FX hr hlk dX0_house_97 rfl (by rw [v_X0_house, if_neg c_2, if_neg c_3, if_neg c_4, if_neg c_5, if_neg c_6, if_neg c_7, if_neg c_8, if_pos c_9])
                · refine lv_tableOut (tgt := 98) FX.1 FX.2.1 dX0_house_7 (tabOut8 c_2 c_3 c_4 c_5 c_6 c_7 c_8 c_9) (by decide) ?_
                  refine lv_aload_n FX.1 FX.2.1 dX0_house_98 rfl (lv_at hl 0 rfl) ?_
                  refine va_get (D := D) (ci := 2) (v := .ref px) (C := RX0) (T := TX0) (N := 9) FX.1 FX.2.1 FX.2.2.2.2 inX0 FX.2.2.2.1 hK hP 0 rfl rfl 1 (by decide) (FX.2.2.2.2 _ fl_RX0_13) (fun _ h9 => h9) rfl dX0_house_99 ?_
                  refine c_RDs FX (r_X0_howManyFull_2 l D cI cB px g) mi_X0_howManyFull rfl ml_RX0_111 (RMok.mk) hl.1 rfl (Nat.le_of_ble_eq_true rfl) dX0_house_102 (by decide) hK hP [2] rfl ?_
                  exact retRD FX hr hlk dX0_house_105 rfl (by rw [v_X0_house, if_neg c_2, if_neg c_3, if_neg c_4, if_neg c_5, if_neg c_6, if_neg c_7, if_neg c_8, if_neg c_9])
set_option maxRecDepth 100000 in
set_option maxHeartbeats 4000000 in
theorem x_X0_house (l : Launch) (hl0 : l.stackTraces = false) (D : va_G) (cI cB : ClassId) (x bx px tx : Nat) (f g : Nat → Int32) (ak su gt lf rf kn : Int32) (k1 : Int32) (h : ¬ e_X0_house k1 = 0) : XT l yX0_house cX0_house 2 (some .int) ({ frames := 7, cells := 1, slots := 6, locals := 111 } : Room) D cI cB [.ref x, .int k1] (wX cI x bx px tx f g ak su gt lf rf kn) (e_X0_house k1) := by
  refine bodyXT (by decide) (Nat.le_of_ble_eq_true rfl) (fun p e s m args below meth c ls Z => ?_)
  obtain ⟨FX, hr, hlk, hK, hP, hz, htab, hl⟩ := Z
  have hl : lv_has ls 2 [(0, .ref x), (1, .int k1)] := hl
  refine lv_iload_n FX.1 FX.2.1 dX0_house_0 rfl (lv_at hl 1 rfl) ?_
  refine lv_bipush (v := 9) FX.1 FX.2.1 dX0_house_1 (by decide) ?_
  by_cases q_1 : (e_X0_needKind k1 9) = 0
  · refine c_RDvs FX (r_X0_needKind l D cI cB k1 9 q_1) mi_X0_needKind rfl ml_RX0_34 (RMok.mk) hl.1 rfl (Nat.le_of_ble_eq_true rfl) dX0_house_3 (by decide) hK hP [] rfl ?_
    exact absurd (by rw [e_X0_house, if_pos q_1]) h
  · exact thr_s FX htab hlk (x_X0_needKind l hl0 D cI cB k1 9 q_1) mi_X0_needKind rfl ml_RX0_34 (RMok.mk) hl.1 rfl (Nat.le_of_ble_eq_true rfl) dX0_house_3 (by decide) hK hP [] rfl hz (by rw [e_X0_house, if_neg q_1])
theorem e0_X0_house {k : Int32} (h : vp_in k 9) : e_X0_house k = 0 := by rw [e_X0_house, if_pos (nk9_0 h)]
set_option maxRecDepth 100000 in
set_option maxHeartbeats 4000000 in
theorem L_X2_isTrue_34 {p : Program} {l : Launch} {e : Env} {R : Room} {s : State} {m : MethodId} {args : Array Value} {below : List Frame} {meth : Method} {c : Code} {H : Heap} {locs : List Loc} {cells slots : Nat} {Q : State → Prop} (D : va_G) (cI cB : ClassId) (o bo po : Nat) (th : Int32) (f g : Nat → Int32) (ak su gt lf rf kn : Int32) (i : Nat) (hlt0 : i < 6) (hRf : 2 ≤ R.frames) (hRl : 49 ≤ R.locals) (hf : cells ≤ R.cells ∧ slots ≤ R.slots) (FX : CallFix p m c cX2_isTrue 9 s args bigW RX2) (hK : va_K D KL (TY cI cB) s) (hP : va_P D KL (wM cI o bo po th f g ak su gt lf rf kn) H)
    (kk : ∀ ls : Array Slot, lv_has ls 9 [(7, .int 6), (0, .ref o), (1, .ref bo), (2, .int 6), (3, .int (nI i)), (4, .int (f i)), (5, .ref bo), (6, .int 6)] → W p l e R s m args below meth c H locs cells slots Q (F0 m 107 ls [])) : ∀ (j k : Nat), k + j = 6 → ∀ ls : Array Slot, lv_has ls 9 [(7, .int (nI k)), (0, .ref o), (1, .ref bo), (2, .int 6), (3, .int (nI i)), (4, .int (f i)), (5, .ref bo), (6, .int 6)] → W p l e R s m args below meth c H locs cells slots Q (F0 m 34 ls []) := by
  intro j
  induction j with
  | zero =>
    intro k hij ls hl
    obtain rfl : k = 6 := by omega
    have hl : lv_has ls 9 [(7, .int 6), (0, .ref o), (1, .ref bo), (2, .int 6), (3, .int (nI i)), (4, .int (f i)), (5, .ref bo), (6, .int 6)] := hl
    refine lv_iload FX.1 FX.2.1 dX2_isTrue_34 (lv_at hl 0 rfl) ?_
    refine lv_iload FX.1 FX.2.1 dX2_isTrue_36 (lv_at hl 7 rfl) ?_
    refine lv_icmp_ge (tgt := 107) FX.1 FX.2.1 dX2_isTrue_38 (by decide) (fun c_101 => ?_) (fun c_101 => ?_)
    · exact kk ls (lv_sub hl [0, 1, 2, 3, 4, 5, 6, 7] rfl)
    · exact absurd c_101 (by decide)
  | succ j ih =>
    intro k hij ls hl
    have hlt : k < 6 := by omega
    refine lv_iload FX.1 FX.2.1 dX2_isTrue_34 (lv_at hl 0 rfl) ?_
    refine lv_iload FX.1 FX.2.1 dX2_isTrue_36 (lv_at hl 7 rfl) ?_
    refine lv_icmp_ge (tgt := 107) FX.1 FX.2.1 dX2_isTrue_38 (by decide) (fun c_1 => ?_) (fun c_1 => ?_)
    · exact absurd c_1 (nI_ge (b := 6) hlt (by decide))
    · refine lv_aload FX.1 FX.2.1 dX2_isTrue_41 (lv_at hl 6 rfl) ?_
      refine lv_iload FX.1 FX.2.1 dX2_isTrue_43 (lv_at hl 0 rfl) ?_
      refine p_iald (v := f k) FX hK hP 1 rfl (vp_in_nI hlt (by decide)) dX2_isTrue_45 (congrArg f (nI_clamp (by omega))) ?_
      refine lv_istore (lv' := [(8, .int (f k)), (7, .int (nI k)), (0, .ref o), (1, .ref bo), (2, .int 6), (3, .int (nI i)), (4, .int (f i)), (5, .ref bo), (6, .int 6)]) FX.1 FX.2.1 dX2_isTrue_46 hl (by decide) rfl (fun ls hl => ?_)
      refine lv_iload FX.1 FX.2.1 dX2_isTrue_48 (lv_at hl 6 rfl) ?_
      refine lv_iload FX.1 FX.2.1 dX2_isTrue_50 (lv_at hl 0 rfl) ?_
      refine lv_iconst (v := 0) FX.1 FX.2.1 dX2_isTrue_52 (by decide) ?_
      refine c_RDs FX (r_X2_compared l D cI cB (f i) (f k) 0) mi_X2_compared rfl ml_RX2_103 (RMk.mk hRf hRl) hl.1 rfl (Nat.le_of_ble_eq_true rfl) dX2_isTrue_53 hf hK hP [] rfl ?_
      refine lv_if_ne (tgt := 63) FX.1 FX.2.1 dX2_isTrue_56 (by decide) (fun c_2 => ?_) (fun c_2 => ?_)
      · refine lv_iconst (v := 0) FX.1 FX.2.1 dX2_isTrue_63 (by decide) ?_
        refine lv_iload FX.1 FX.2.1 dX2_isTrue_64 (lv_at hl 6 rfl) ?_
        refine lv_iload FX.1 FX.2.1 dX2_isTrue_66 (lv_at hl 0 rfl) ?_
        refine lv_icmp_ne (tgt := 75) FX.1 FX.2.1 dX2_isTrue_68 (by decide) (fun c_3 => ?_) (fun c_3 => ?_)
        · refine lv_iconst (v := 0) FX.1 FX.2.1 dX2_isTrue_75 (by decide) ?_
          refine lv_icmp_ne (tgt := 99) FX.1 FX.2.1 dX2_isTrue_76 (by decide) (fun c_4 => ?_) (fun c_4 => ?_)
          · exact absurd c_4 (by decide)
          · refine lv_iload FX.1 FX.2.1 dX2_isTrue_79 (lv_at hl 6 rfl) ?_
            refine lv_iload FX.1 FX.2.1 dX2_isTrue_81 (lv_at hl 0 rfl) ?_
            refine lv_iconst (v := 1) FX.1 FX.2.1 dX2_isTrue_83 (by decide) ?_
            refine c_RDs FX (r_X2_compared l D cI cB (f i) (f k) 1) mi_X2_compared rfl ml_RX2_103 (RMk.mk hRf hRl) hl.1 rfl (Nat.le_of_ble_eq_true rfl) dX2_isTrue_84 hf hK hP [] rfl ?_
            refine lv_iload FX.1 FX.2.1 dX2_isTrue_87 (lv_at hl 6 rfl) ?_
            refine lv_iload FX.1 FX.2.1 dX2_isTrue_89 (lv_at hl 0 rfl) ?_
            refine lv_iconst (v := 0) FX.1 FX.2.1 dX2_isTrue_91 (by decide) ?_
            refine c_RDs FX (r_X2_compared l D cI cB (f i) (f k) 0) mi_X2_compared rfl ml_RX2_103 (RMk.mk hRf hRl) hl.1 rfl (Nat.le_of_ble_eq_true rfl) dX2_isTrue_92 hf hK hP [] rfl ?_
            refine lv_ineg FX.1 FX.2.1 dX2_isTrue_95 ?_
            refine lv_icmp_eq (tgt := 101) FX.1 FX.2.1 dX2_isTrue_96 (by decide) (fun c_5 => ?_) (fun c_5 => ?_)
            · refine lv_iinc (v := nI (k + 1)) (lv' := [(7, .int (nI (k + 1))), (8, .int (f k)), (0, .ref o), (1, .ref bo), (2, .int 6), (3, .int (nI i)), (4, .int (f i)), (5, .ref bo), (6, .int 6)]) FX.1 FX.2.1 dX2_isTrue_101 hl (k := 1) rfl (by exact nI_1 _) (by decide) rfl (fun ls hl => ?_)
              refine lv_goto (tgt := 34) FX.1 FX.2.1 dX2_isTrue_104 (by decide) ?_
              exact ih (k + 1) (by omega) ls (lv_sub hl [0, 2, 3, 4, 5, 6, 7, 8] rfl)
            · exact absurd mcmp_neg c_5
        · exact absurd c_3 (fun z => c_2 (mcmp_eq.mpr z))
      · refine lv_iconst (v := 1) FX.1 FX.2.1 dX2_isTrue_59 (by decide) ?_
        refine lv_goto (tgt := 64) FX.1 FX.2.1 dX2_isTrue_60 (by decide) ?_
        refine lv_iload FX.1 FX.2.1 dX2_isTrue_64 (lv_at hl 6 rfl) ?_
        refine lv_iload FX.1 FX.2.1 dX2_isTrue_66 (lv_at hl 0 rfl) ?_
        refine lv_icmp_ne (tgt := 75) FX.1 FX.2.1 dX2_isTrue_68 (by decide) (fun c_6 => ?_) (fun c_6 => ?_)
        · exact absurd (mcmp_eq.mp c_2) c_6
        · refine lv_iconst (v := 1) FX.1 FX.2.1 dX2_isTrue_71 (by decide) ?_
          refine lv_goto (tgt := 76) FX.1 FX.2.1 dX2_isTrue_72 (by decide) ?_
          refine lv_icmp_ne (tgt := 99) FX.1 FX.2.1 dX2_isTrue_76 (by decide) (fun c_7 => ?_) (fun c_7 => ?_)
          · exact absurd c_7 (by decide)
          · refine lv_iload FX.1 FX.2.1 dX2_isTrue_79 (lv_at hl 6 rfl) ?_
            refine lv_iload FX.1 FX.2.1 dX2_isTrue_81 (lv_at hl 0 rfl) ?_
            refine lv_iconst (v := 1) FX.1 FX.2.1 dX2_isTrue_83 (by decide) ?_
            refine c_RDs FX (r_X2_compared l D cI cB (f i) (f k) 1) mi_X2_compared rfl ml_RX2_103 (RMk.mk hRf hRl) hl.1 rfl (Nat.le_of_ble_eq_true rfl) dX2_isTrue_84 hf hK hP [] rfl ?_
            refine lv_iload FX.1 FX.2.1 dX2_isTrue_87 (lv_at hl 6 rfl) ?_
            refine lv_iload FX.1 FX.2.1 dX2_isTrue_89 (lv_at hl 0 rfl) ?_
            refine lv_iconst (v := 0) FX.1 FX.2.1 dX2_isTrue_91 (by decide) ?_
            refine c_RDs FX (r_X2_compared l D cI cB (f i) (f k) 0) mi_X2_compared rfl ml_RX2_103 (RMk.mk hRf hRl) hl.1 rfl (Nat.le_of_ble_eq_true rfl) dX2_isTrue_92 hf hK hP [] rfl ?_
            refine lv_ineg FX.1 FX.2.1 dX2_isTrue_95 ?_
            refine lv_icmp_eq (tgt := 101) FX.1 FX.2.1 dX2_isTrue_96 (by decide) (fun c_8 => ?_) (fun c_8 => ?_)
            · refine lv_iinc (v := nI (k + 1)) (lv' := [(7, .int (nI (k + 1))), (8, .int (f k)), (0, .ref o), (1, .ref bo), (2, .int 6), (3, .int (nI i)), (4, .int (f i)), (5, .ref bo), (6, .int 6)]) FX.1 FX.2.1 dX2_isTrue_101 hl (k := 1) rfl (by exact nI_1 _) (by decide) rfl (fun ls hl => ?_)
              refine lv_goto (tgt := 34) FX.1 FX.2.1 dX2_isTrue_104 (by decide) ?_
              exact ih (k + 1) (by omega) ls (lv_sub hl [0, 2, 3, 4, 5, 6, 7, 8] rfl)
            · exact absurd mcmp_neg c_8
set_option maxRecDepth 100000 in
set_option maxHeartbeats 4000000 in
theorem L_X2_isTrue_10 {p : Program} {l : Launch} {e : Env} {R : Room} {s : State} {m : MethodId} {args : Array Value} {below : List Frame} {meth : Method} {c : Code} {H : Heap} {locs : List Loc} {cells slots : Nat} {Q : State → Prop} (D : va_G) (cI cB : ClassId) (o bo po : Nat) (th : Int32) (f g : Nat → Int32) (ak su gt lf rf kn : Int32) (hRf : 2 ≤ R.frames) (hRl : 49 ≤ R.locals) (hf : cells ≤ R.cells ∧ slots ≤ R.slots) (FX : CallFix p m c cX2_isTrue 9 s args bigW RX2) (hK : va_K D KL (TY cI cB) s) (hP : va_P D KL (wM cI o bo po th f g ak su gt lf rf kn) H)
    (kk : ∀ ls : Array Slot, lv_has ls 9 [(3, .int 6), (0, .ref o), (1, .ref bo), (2, .int 6)] → W p l e R s m args below meth c H locs cells slots Q (F0 m 113 ls [])) : ∀ (j i : Nat), i + j = 6 → ∀ ls : Array Slot, lv_has ls 9 [(3, .int (nI i)), (0, .ref o), (1, .ref bo), (2, .int 6)] → W p l e R s m args below meth c H locs cells slots Q (F0 m 10 ls []) := by
  intro j
  induction j with
  | zero =>
    intro i hij ls hl
    obtain rfl : i = 6 := by omega
    have hl : lv_has ls 9 [(3, .int 6), (0, .ref o), (1, .ref bo), (2, .int 6)] := hl
    refine lv_iload_n FX.1 FX.2.1 dX2_isTrue_10 rfl (lv_at hl 0 rfl) ?_
    refine lv_iload_n FX.1 FX.2.1 dX2_isTrue_11 rfl (lv_at hl 3 rfl) ?_
    refine lv_icmp_ge (tgt := 113) FX.1 FX.2.1 dX2_isTrue_12 (by decide) (fun c_101 => ?_) (fun c_101 => ?_)
    · exact kk ls (lv_sub hl [0, 1, 2, 3] rfl)
    · exact absurd c_101 (by decide)
  | succ j ih =>
    intro i hij ls hl
    have hlt : i < 6 := by omega
    refine lv_iload_n FX.1 FX.2.1 dX2_isTrue_10 rfl (lv_at hl 0 rfl) ?_
    refine lv_iload_n FX.1 FX.2.1 dX2_isTrue_11 rfl (lv_at hl 3 rfl) ?_
    refine lv_icmp_ge (tgt := 113) FX.1 FX.2.1 dX2_isTrue_12 (by decide) (fun c_1 => ?_) (fun c_1 => ?_)
    · exact absurd c_1 (nI_ge (b := 6) hlt (by decide))
    · refine lv_aload_n FX.1 FX.2.1 dX2_isTrue_15 rfl (lv_at hl 2 rfl) ?_
      refine lv_iload_n FX.1 FX.2.1 dX2_isTrue_16 rfl (lv_at hl 0 rfl) ?_
      refine p_iald (v := f i) FX hK hP 1 rfl (vp_in_nI hlt (by decide)) dX2_isTrue_17 (congrArg f (nI_clamp (by omega))) ?_
      refine lv_istore (lv' := [(4, .int (f i)), (3, .int (nI i)), (0, .ref o), (1, .ref bo), (2, .int 6)]) FX.1 FX.2.1 dX2_isTrue_18 hl (by decide) rfl (fun ls hl => ?_)
      refine lv_aload_n FX.1 FX.2.1 dX2_isTrue_20 rfl (lv_at hl 2 rfl) ?_
      refine va_get (D := D) (ci := 4) (v := .ref bo) (C := RX2) (T := TX2) (N := 9) FX.1 FX.2.1 FX.2.2.2.2 inX2 FX.2.2.2.1 hK hP 0 rfl rfl 1 (by decide) (FX.2.2.2.2 _ fl_RX2_10) (fun _ h9 => h9) rfl dX2_isTrue_21 ?_
      refine lv_astore (lv' := [(5, .ref bo), (4, .int (f i)), (3, .int (nI i)), (0, .ref o), (1, .ref bo), (2, .int 6)]) FX.1 FX.2.1 dX2_isTrue_24 hl (by decide) rfl (fun ls hl => ?_)
      refine lv_aload FX.1 FX.2.1 dX2_isTrue_26 (lv_at hl 0 rfl) ?_
      refine va_alen FX.1 FX.2.1 hK hP 1 0 rfl rfl (v := 6) (by rfl) dX2_isTrue_28 ?_
      refine lv_istore (lv' := [(6, .int 6), (5, .ref bo), (4, .int (f i)), (3, .int (nI i)), (0, .ref o), (1, .ref bo), (2, .int 6)]) FX.1 FX.2.1 dX2_isTrue_29 hl (by decide) rfl (fun ls hl => ?_)
      refine lv_iconst (v := 0) FX.1 FX.2.1 dX2_isTrue_31 (by decide) ?_
      refine lv_istore (lv' := [(7, .int 0), (6, .int 6), (5, .ref bo), (4, .int (f i)), (3, .int (nI i)), (0, .ref o), (1, .ref bo), (2, .int 6)]) FX.1 FX.2.1 dX2_isTrue_32 hl (by decide) rfl (fun ls hl => ?_)
      refine L_X2_isTrue_34 D cI cB o bo po th f g ak su gt lf rf kn i hlt  (Nat.le_trans (Nat.le_of_ble_eq_true rfl) hRf) (Nat.le_trans (Nat.le_of_ble_eq_true rfl) hRl) hf FX hK hP (fun ls hl => ?_) 6 0 (by omega) ls (lv_sub hl [0, 5, 6, 7, 4, 3, 2, 1] rfl)
      refine lv_iinc (v := nI (i + 1)) (lv' := [(3, .int (nI (i + 1))), (7, .int 6), (0, .ref o), (1, .ref bo), (2, .int 6), (4, .int (f i)), (5, .ref bo), (6, .int 6)]) FX.1 FX.2.1 dX2_isTrue_107 hl (k := 4) rfl (by exact nI_1 _) (by decide) rfl (fun ls hl => ?_)
      refine lv_goto (tgt := 10) FX.1 FX.2.1 dX2_isTrue_110 (by decide) ?_
      exact ih (i + 1) (by omega) ls (lv_sub hl [0, 2, 3, 4] rfl)
def v_X2_isTrue  : Int32 := 1
set_option maxRecDepth 100000 in
set_option maxHeartbeats 4000000 in
theorem r_X2_isTrue (l : Launch) (D : va_G) (cI cB : ClassId) (o bo po : Nat) (th : Int32) (f g : Nat → Int32) (ak su gt lf rf kn : Int32) : RD l yX2_isTrue cX2_isTrue 9 (some .boolean) ({ frames := 2, cells := 0, slots := 0, locals := 49 } : Room) D cI cB [.ref o] (wM cI o bo po th f g ak su gt lf rf kn) v_X2_isTrue := by
  refine bodyRD (by decide +kernel) (Nat.le_of_ble_eq_true rfl) (fun p e s m args below meth c ls FX hr hlk hK hP hl => ?_)
  have hl : lv_has ls 9 [(0, .ref o)] := hl
  refine lv_aload_n FX.1 FX.2.1 dX2_isTrue_0 rfl (lv_at hl 0 rfl) ?_
  refine va_get (D := D) (ci := 4) (v := .ref bo) (C := RX2) (T := TX2) (N := 9) FX.1 FX.2.1 FX.2.2.2.2 inX2 FX.2.2.2.1 hK hP 0 rfl rfl 1 (by decide) (FX.2.2.2.2 _ fl_RX2_10) (fun _ h9 => h9) rfl dX2_isTrue_1 ?_
  refine lv_astore_n (lv' := [(1, .ref bo), (0, .ref o)]) FX.1 FX.2.1 dX2_isTrue_4 rfl hl (by decide) rfl (fun ls hl => ?_)
  refine lv_aload_n FX.1 FX.2.1 dX2_isTrue_5 rfl (lv_at hl 0 rfl) ?_
  refine va_alen FX.1 FX.2.1 hK hP 1 0 rfl rfl (v := 6) (by rfl) dX2_isTrue_6 ?_
  refine lv_istore_n (lv' := [(2, .int 6), (1, .ref bo), (0, .ref o)]) FX.1 FX.2.1 dX2_isTrue_7 rfl hl (by decide) rfl (fun ls hl => ?_)
  refine lv_iconst (v := 0) FX.1 FX.2.1 dX2_isTrue_8 (by decide) ?_
  refine lv_istore_n (lv' := [(3, .int 0), (2, .int 6), (1, .ref bo), (0, .ref o)]) FX.1 FX.2.1 dX2_isTrue_9 rfl hl (by decide) rfl (fun ls hl => ?_)
  refine L_X2_isTrue_10 D cI cB o bo po th f g ak su gt lf rf kn  (Nat.le_of_ble_eq_true rfl) (Nat.le_of_ble_eq_true rfl) (by decide) FX hK hP (fun ls hl => ?_) 6 0 (by omega) ls (lv_sub hl [0, 3, 2, 1] rfl)
  refine lv_iconst (v := 1) FX.1 FX.2.1 dX2_isTrue_113 (by decide) ?_
  exact retRD FX hr hlk dX2_isTrue_114 rfl (by rw [v_X2_isTrue])
theorem b01_v_X2_isTrue  : is01 v_X2_isTrue := by
  unfold v_X2_isTrue
  repeat' split
  all_goals first | exact Or.inl rfl | exact Or.inr rfl
def v_X2_isSound  : Int32 := v_X2_isTrue
def wth_X2_isSound  : Int32 := 0
set_option maxRecDepth 100000 in
set_option maxHeartbeats 4000000 in
theorem k_X2_isSound (l : Launch) (D : va_G) (cI cB : ClassId) (o bo po : Nat) (th : Int32) (f g : Nat → Int32) (ak su gt lf rf kn : Int32) : WR l yX2_isSound cX2_isSound 1 (some .boolean) ({ frames := 3, cells := 0, slots := 0, locals := 77 } : Room) D cI cB [.ref o] (wM cI o bo po th f g ak su gt lf rf kn) v_X2_isSound (wM cI o bo po wth_X2_isSound f g ak su gt lf rf kn) 0 0 := by
  refine bodyWR (by decide +kernel) (Nat.le_of_ble_eq_true rfl) (fun p e s m args below meth c ls A Z => ?_)
  obtain ⟨FX, hr, hlk, hK, hP, hD, hS, hA, hl⟩ := Z
  have hl : lv_has ls 1 [(0, .ref o)] := hl
  refine lv_aload_n FX.1 FX.2.1 dX2_isSound_0 rfl (lv_at hl 0 rfl) ?_
  refine lv_iconst (v := 0) FX.1 FX.2.1 dX2_isSound_1 (by decide) ?_
  refine p_put (wsN := (wM cI o bo po 0 f g ak su gt lf rf kn)) (ci := 4) (v := .int 0) (ty := .int) FX inX2 tyX2_ok nmX2 hK hP hD hS 0 rfl rfl 0 (by decide) (FX.2.2.2.2 _ fl_RX2_17) rfl (by decide +kernel) rfl rfl (Nat.le_of_ble_eq_true rfl) dX2_isSound_2 rfl (fun H locs hP hD hS => ?_)
  refine lv_aload_n FX.1 FX.2.1 dX2_isSound_5 rfl (lv_at hl 0 rfl) ?_
  refine c_RDV (i0 := 0) (ci := 4) FX (r_X2_isTrue l D cI cB o bo po 0 f g ak su gt lf rf kn) mi_X2_isTrue rfl ml_RX2_152 (RMok.mk) hl.1 rfl (Nat.le_of_ble_eq_true rfl) dX2_isSound_6 (by decide) hK hP [0, 1, 2] rfl rfl rfl rfl ?_
  exact retWR FX hr hlk dX2_isSound_9 (nz (b01_v_X2_isTrue )) hP hK hD hS (by decide) (by decide) (by rw [v_X2_isSound]) (by rw [wth_X2_isSound])
theorem b01_v_X2_isSound  : is01 v_X2_isSound := by
  unfold v_X2_isSound
  repeat' split
  all_goals first | with_reducible exact b01_v_X2_isTrue  | exact Or.inl rfl | exact Or.inr rfl

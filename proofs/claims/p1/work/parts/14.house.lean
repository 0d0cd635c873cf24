set_option maxRecDepth 20000 in
theorem ac_int : Cond.arrayClass .int ∈ bigW := bt1 63 rfl rfl
set_option maxRecDepth 20000 in
theorem ml_RX2_149 : Cond.methodLink RX2 149 yX2_houseTold ∈ bigW := bt5 228 rfl rfl
set_option maxRecDepth 20000 in
theorem mi_X2_houseTold : MIv RX2 yX2_houseTold cX2_houseTold 8 (some .int) 1 := ⟨⟨bt5 231 rfl rfl, bt1 6 rfl rfl, by decide, by decide, by decide +kernel⟩, bt5 230 rfl rfl, bt0 18 rfl rfl⟩
theorem dX2_house_0 : decode cX2_house 0 = .ok (.aload_n 0, 1) := by decide +kernel
theorem dX2_house_1 : decode cX2_house 1 = .ok (.iload_n 1, 1) := by decide +kernel
theorem dX2_house_2 : decode cX2_house 2 = .ok (.iconst 0, 1) := by decide +kernel
theorem dX2_house_3 : decode cX2_house 3 = .ok (.bipush 8, 2) := by decide +kernel
theorem dX2_house_5 : decode cX2_house 5 = .ok (.invokestatic 21, 3) := by decide +kernel
theorem dX2_house_8 : decode cX2_house 8 = .ok (.ifCond .ne 7, 3) := by decide +kernel
theorem dX2_house_11 : decode cX2_house 11 = .ok (.iconst 1, 1) := by decide +kernel
theorem dX2_house_12 : decode cX2_house 12 = .ok (.goto 4, 3) := by decide +kernel
theorem dX2_house_15 : decode cX2_house 15 = .ok (.iconst 0, 1) := by decide +kernel
theorem dX2_house_16 : decode cX2_house 16 = .ok (.iconst 0, 1) := by decide +kernel
theorem dX2_house_17 : decode cX2_house 17 = .ok (.invokevirtual 43, 3) := by decide +kernel
theorem dX2_house_20 : decode cX2_house 20 = .ok (.ifCond .eq 7, 3) := by decide +kernel
theorem dX2_house_23 : decode cX2_house 23 = .ok (.iconst 0, 1) := by decide +kernel
theorem dX2_house_24 : decode cX2_house 24 = .ok (.goto 8, 3) := by decide +kernel
theorem dX2_house_27 : decode cX2_house 27 = .ok (.aload_n 0, 1) := by decide +kernel
theorem dX2_house_28 : decode cX2_house 28 = .ok (.iload_n 1, 1) := by decide +kernel
theorem dX2_house_29 : decode cX2_house 29 = .ok (.invokevirtual 149, 3) := by decide +kernel
theorem dX2_house_32 : decode cX2_house 32 = .ok (.ireturn, 1) := by decide +kernel
theorem dX2_houseTold_0 : decode cX2_houseTold 0 = .ok (.iconst 0, 1) := by decide +kernel
theorem dX2_houseTold_1 : decode cX2_houseTold 1 = .ok (.istore_n 2, 1) := by decide +kernel
theorem dX2_houseTold_2 : decode cX2_houseTold 2 = .ok (.iconst 0, 1) := by decide +kernel
theorem dX2_houseTold_3 : decode cX2_houseTold 3 = .ok (.istore_n 3, 1) := by decide +kernel
theorem dX2_houseTold_4 : decode cX2_houseTold 4 = .ok (.aload_n 0, 1) := by decide +kernel
theorem dX2_houseTold_5 : decode cX2_houseTold 5 = .ok (.getfield 10, 3) := by decide +kernel
theorem dX2_houseTold_8 : decode cX2_houseTold 8 = .ok (.astore 4, 2) := by decide +kernel
theorem dX2_houseTold_10 : decode cX2_houseTold 10 = .ok (.aload 4, 2) := by decide +kernel
theorem dX2_houseTold_12 : decode cX2_houseTold 12 = .ok (.arraylength, 1) := by decide +kernel
theorem dX2_houseTold_13 : decode cX2_houseTold 13 = .ok (.istore 5, 2) := by decide +kernel
theorem dX2_houseTold_15 : decode cX2_houseTold 15 = .ok (.iconst 0, 1) := by decide +kernel
theorem dX2_houseTold_16 : decode cX2_houseTold 16 = .ok (.istore 6, 2) := by decide +kernel
theorem dX2_houseTold_18 : decode cX2_houseTold 18 = .ok (.iload 6, 2) := by decide +kernel
theorem dX2_houseTold_20 : decode cX2_houseTold 20 = .ok (.iload 5, 2) := by decide +kernel
theorem dX2_houseTold_22 : decode cX2_houseTold 22 = .ok (.if_icmp .ge 42, 3) := by decide +kernel
theorem dX2_houseTold_25 : decode cX2_houseTold 25 = .ok (.aload 4, 2) := by decide +kernel
theorem dX2_houseTold_27 : decode cX2_houseTold 27 = .ok (.iload 6, 2) := by decide +kernel
theorem dX2_houseTold_29 : decode cX2_houseTold 29 = .ok (.iaload, 1) := by decide +kernel
theorem dX2_houseTold_30 : decode cX2_houseTold 30 = .ok (.istore 7, 2) := by decide +kernel
theorem dX2_houseTold_32 : decode cX2_houseTold 32 = .ok (.iload_n 2, 1) := by decide +kernel
theorem dX2_houseTold_33 : decode cX2_houseTold 33 = .ok (.iload 7, 2) := by decide +kernel
theorem dX2_houseTold_35 : decode cX2_houseTold 35 = .ok (.ldc 9, 2) := by decide +kernel
theorem dX2_houseTold_37 : decode cX2_houseTold 37 = .ok (.if_icmp .eq 7, 3) := by decide +kernel
theorem dX2_houseTold_40 : decode cX2_houseTold 40 = .ok (.iconst 1, 1) := by decide +kernel
theorem dX2_houseTold_41 : decode cX2_houseTold 41 = .ok (.goto 4, 3) := by decide +kernel
theorem dX2_houseTold_44 : decode cX2_houseTold 44 = .ok (.iconst 0, 1) := by decide +kernel
theorem dX2_houseTold_45 : decode cX2_houseTold 45 = .ok (.invokestatic 32, 3) := by decide +kernel
theorem dX2_houseTold_48 : decode cX2_houseTold 48 = .ok (.iadd, 1) := by decide +kernel
theorem dX2_houseTold_49 : decode cX2_houseTold 49 = .ok (.istore_n 2, 1) := by decide +kernel
theorem dX2_houseTold_50 : decode cX2_houseTold 50 = .ok (.iload_n 3, 1) := by decide +kernel
theorem dX2_houseTold_51 : decode cX2_houseTold 51 = .ok (.iload 7, 2) := by decide +kernel
theorem dX2_houseTold_53 : decode cX2_houseTold 53 = .ok (.invokestatic 88, 3) := by decide +kernel
theorem dX2_houseTold_56 : decode cX2_houseTold 56 = .ok (.iadd, 1) := by decide +kernel
theorem dX2_houseTold_57 : decode cX2_houseTold 57 = .ok (.istore_n 3, 1) := by decide +kernel
theorem dX2_houseTold_58 : decode cX2_houseTold 58 = .ok (.iinc 6 1, 3) := by decide +kernel
theorem dX2_houseTold_61 : decode cX2_houseTold 61 = .ok (.goto (-43), 3) := by decide +kernel
theorem dX2_houseTold_64 : decode cX2_houseTold 64 = .ok (.bipush 9, 2) := by decide +kernel
theorem dX2_houseTold_66 : decode cX2_houseTold 66 = .ok (.newarray .int, 2) := by decide +kernel
theorem dX2_houseTold_68 : decode cX2_houseTold 68 = .ok (.dup, 1) := by decide +kernel
theorem dX2_houseTold_69 : decode cX2_houseTold 69 = .ok (.iconst 0, 1) := by decide +kernel
theorem dX2_houseTold_70 : decode cX2_houseTold 70 = .ok (.iload_n 2, 1) := by decide +kernel
theorem dX2_houseTold_71 : decode cX2_houseTold 71 = .ok (.iastore, 1) := by decide +kernel
theorem dX2_houseTold_72 : decode cX2_houseTold 72 = .ok (.dup, 1) := by decide +kernel
theorem dX2_houseTold_73 : decode cX2_houseTold 73 = .ok (.iconst 1, 1) := by decide +kernel
theorem dX2_houseTold_74 : decode cX2_houseTold 74 = .ok (.iload_n 3, 1) := by decide +kernel
theorem dX2_houseTold_75 : decode cX2_houseTold 75 = .ok (.iastore, 1) := by decide +kernel
theorem dX2_houseTold_76 : decode cX2_houseTold 76 = .ok (.dup, 1) := by decide +kernel
theorem dX2_houseTold_77 : decode cX2_houseTold 77 = .ok (.iconst 2, 1) := by decide +kernel
theorem dX2_houseTold_78 : decode cX2_houseTold 78 = .ok (.aload_n 0, 1) := by decide +kernel
theorem dX2_houseTold_79 : decode cX2_houseTold 79 = .ok (.getfield 55, 3) := by decide +kernel
theorem dX2_houseTold_82 : decode cX2_houseTold 82 = .ok (.iastore, 1) := by decide +kernel
theorem dX2_houseTold_83 : decode cX2_houseTold 83 = .ok (.dup, 1) := by decide +kernel
theorem dX2_houseTold_84 : decode cX2_houseTold 84 = .ok (.iconst 3, 1) := by decide +kernel
theorem dX2_houseTold_85 : decode cX2_houseTold 85 = .ok (.aload_n 0, 1) := by decide +kernel
theorem dX2_houseTold_86 : decode cX2_houseTold 86 = .ok (.getfield 74, 3) := by decide +kernel
theorem dX2_houseTold_89 : decode cX2_houseTold 89 = .ok (.iastore, 1) := by decide +kernel
theorem dX2_houseTold_90 : decode cX2_houseTold 90 = .ok (.dup, 1) := by decide +kernel
theorem dX2_houseTold_91 : decode cX2_houseTold 91 = .ok (.iconst 4, 1) := by decide +kernel
theorem dX2_houseTold_92 : decode cX2_houseTold 92 = .ok (.aload_n 0, 1) := by decide +kernel
theorem dX2_houseTold_93 : decode cX2_houseTold 93 = .ok (.getfield 71, 3) := by decide +kernel
theorem dX2_houseTold_96 : decode cX2_houseTold 96 = .ok (.iastore, 1) := by decide +kernel
theorem dX2_houseTold_97 : decode cX2_houseTold 97 = .ok (.dup, 1) := by decide +kernel
theorem dX2_houseTold_98 : decode cX2_houseTold 98 = .ok (.iconst 5, 1) := by decide +kernel
theorem dX2_houseTold_99 : decode cX2_houseTold 99 = .ok (.aload_n 0, 1) := by decide +kernel
theorem dX2_houseTold_100 : decode cX2_houseTold 100 = .ok (.getfield 81, 3) := by decide +kernel
theorem dX2_houseTold_103 : decode cX2_houseTold 103 = .ok (.iastore, 1) := by decide +kernel
theorem dX2_houseTold_104 : decode cX2_houseTold 104 = .ok (.dup, 1) := by decide +kernel
theorem dX2_houseTold_105 : decode cX2_houseTold 105 = .ok (.bipush 6, 2) := by decide +kernel
theorem dX2_houseTold_107 : decode cX2_houseTold 107 = .ok (.aload_n 0, 1) := by decide +kernel
theorem dX2_houseTold_108 : decode cX2_houseTold 108 = .ok (.getfield 29, 3) := by decide +kernel
theorem dX2_houseTold_111 : decode cX2_houseTold 111 = .ok (.iastore, 1) := by decide +kernel
theorem dX2_houseTold_112 : decode cX2_houseTold 112 = .ok (.dup, 1) := by decide +kernel
theorem dX2_houseTold_113 : decode cX2_houseTold 113 = .ok (.bipush 7, 2) := by decide +kernel
theorem dX2_houseTold_115 : decode cX2_houseTold 115 = .ok (.aload_n 0, 1) := by decide +kernel
theorem dX2_houseTold_116 : decode cX2_houseTold 116 = .ok (.getfield 146, 3) := by decide +kernel
theorem dX2_houseTold_119 : decode cX2_houseTold 119 = .ok (.iastore, 1) := by decide +kernel
theorem dX2_houseTold_120 : decode cX2_houseTold 120 = .ok (.dup, 1) := by decide +kernel
theorem dX2_houseTold_121 : decode cX2_houseTold 121 = .ok (.bipush 8, 2) := by decide +kernel
theorem dX2_houseTold_123 : decode cX2_houseTold 123 = .ok (.aload_n 0, 1) := by decide +kernel
theorem dX2_houseTold_124 : decode cX2_houseTold 124 = .ok (.getfield 14, 3) := by decide +kernel
theorem dX2_houseTold_127 : decode cX2_houseTold 127 = .ok (.iconst 0, 1) := by decide +kernel
theorem dX2_houseTold_128 : decode cX2_houseTold 128 = .ok (.iaload, 1) := by decide +kernel
theorem dX2_houseTold_129 : decode cX2_houseTold 129 = .ok (.ldc 9, 2) := by decide +kernel
theorem dX2_houseTold_131 : decode cX2_houseTold 131 = .ok (.if_icmp .eq 7, 3) := by decide +kernel
theorem dX2_houseTold_134 : decode cX2_houseTold 134 = .ok (.iconst 1, 1) := by decide +kernel
theorem dX2_houseTold_135 : decode cX2_houseTold 135 = .ok (.goto 4, 3) := by decide +kernel
theorem dX2_houseTold_138 : decode cX2_houseTold 138 = .ok (.iconst 0, 1) := by decide +kernel
theorem dX2_houseTold_139 : decode cX2_houseTold 139 = .ok (.invokestatic 32, 3) := by decide +kernel
theorem dX2_houseTold_142 : decode cX2_houseTold 142 = .ok (.aload_n 0, 1) := by decide +kernel
theorem dX2_houseTold_143 : decode cX2_houseTold 143 = .ok (.getfield 14, 3) := by decide +kernel
theorem dX2_houseTold_146 : decode cX2_houseTold 146 = .ok (.iconst 1, 1) := by decide +kernel
theorem dX2_houseTold_147 : decode cX2_houseTold 147 = .ok (.iaload, 1) := by decide +kernel
theorem dX2_houseTold_148 : decode cX2_houseTold 148 = .ok (.ldc 9, 2) := by decide +kernel
theorem dX2_houseTold_150 : decode cX2_houseTold 150 = .ok (.if_icmp .eq 7, 3) := by decide +kernel
theorem dX2_houseTold_153 : decode cX2_houseTold 153 = .ok (.iconst 1, 1) := by decide +kernel
theorem dX2_houseTold_154 : decode cX2_houseTold 154 = .ok (.goto 4, 3) := by decide +kernel
theorem dX2_houseTold_157 : decode cX2_houseTold 157 = .ok (.iconst 0, 1) := by decide +kernel
theorem dX2_houseTold_158 : decode cX2_houseTold 158 = .ok (.invokestatic 32, 3) := by decide +kernel
theorem dX2_houseTold_161 : decode cX2_houseTold 161 = .ok (.iadd, 1) := by decide +kernel
theorem dX2_houseTold_162 : decode cX2_houseTold 162 = .ok (.iastore, 1) := by decide +kernel
theorem dX2_houseTold_163 : decode cX2_houseTold 163 = .ok (.astore 4, 2) := by decide +kernel
theorem dX2_houseTold_165 : decode cX2_houseTold 165 = .ok (.aload 4, 2) := by decide +kernel
theorem dX2_houseTold_167 : decode cX2_houseTold 167 = .ok (.iload_n 1, 1) := by decide +kernel
theorem dX2_houseTold_168 : decode cX2_houseTold 168 = .ok (.iaload, 1) := by decide +kernel
theorem dX2_houseTold_169 : decode cX2_houseTold 169 = .ok (.ireturn, 1) := by decide +kernel
def mfull (v : Int32) : Int32 := if v = -100000 then v_X2_one 0 else v_X2_one 1
def y_mfull (f : Nat → Int32) : Nat → Int32
  | 0 => 0
  | n + 1 => y_mfull f n + mfull (f n)
def y_mall (f : Nat → Int32) : Nat → Int32
  | 0 => 0
  | n + 1 => y_mall f n + v_X2_codeTold (f n)
set_option maxRecDepth 100000 in
set_option maxHeartbeats 4000000 in
theorem L_X2_houseTold_18 {p : Program} {l : Launch} {e : Env} {R : Room} {s : State} {m : MethodId} {args : Array Value} {below : List Frame} {meth : Method} {c : Code} {H : Heap} {locs : List Loc} {cells slots : Nat} {Q : State → Prop} (D : va_G) (cI cB : ClassId) (o bo po : Nat) (th : Int32) (f g : Nat → Int32) (ak su gt lf rf kn : Int32) (k1 : Int32) (hRf : 1 ≤ R.frames) (hRl : 20 ≤ R.locals) (hf : cells ≤ R.cells ∧ slots ≤ R.slots) (FX : CallFix p m c cX2_houseTold 8 s args bigW RX2) (hK : va_K D KL (TY cI cB) s) (hP : va_P D KL (wM cI o bo po th f g ak su gt lf rf kn) H)
    (kk : ∀ ls : Array Slot, lv_has ls 8 [(6, .int 6), (0, .ref o), (1, .int k1), (2, .int (y_mfull f (6))), (3, .int (y_mall f (6))), (4, .ref bo), (5, .int 6)] → W p l e R s m args below meth c H locs cells slots Q (F0 m 64 ls [])) : ∀ (j i : Nat), i + j = 6 → ∀ ls : Array Slot, lv_has ls 8 [(6, .int (nI i)), (0, .ref o), (1, .int k1), (2, .int (y_mfull f (i))), (3, .int (y_mall f (i))), (4, .ref bo), (5, .int 6)] → W p l e R s m args below meth c H locs cells slots Q (F0 m 18 ls []) := by
  intro j
  induction j with
  | zero =>
    intro i hij ls hl
    obtain rfl : i = 6 := by omega
    have hl : lv_has ls 8 [(6, .int 6), (0, .ref o), (1, .int k1), (2, .int (y_mfull f (6))), (3, .int (y_mall f (6))), (4, .ref bo), (5, .int 6)] := hl
    refine lv_iload FX.1 FX.2.1 dX2_houseTold_18 (lv_at hl 0 rfl) ?_
    refine lv_iload FX.1 FX.2.1 dX2_houseTold_20 (lv_at hl 6 rfl) ?_
    refine lv_icmp_ge (tgt := 64) FX.1 FX.2.1 dX2_houseTold_22 (by decide) (fun c_101 => ?_) (fun c_101 => ?_)
    · exact kk ls (lv_sub hl [0, 1, 2, 3, 4, 5, 6] rfl)
    · exact absurd c_101 (by decide)
  | succ j ih =>
    intro i hij ls hl
    have hlt : i < 6 := by omega
    refine lv_iload FX.1 FX.2.1 dX2_houseTold_18 (lv_at hl 0 rfl) ?_
    refine lv_iload FX.1 FX.2.1 dX2_houseTold_20 (lv_at hl 6 rfl) ?_
    refine lv_icmp_ge (tgt := 64) FX.1 FX.2.1 dX2_houseTold_22 (by decide) (fun c_1 => ?_) (fun c_1 => ?_)
    · exact absurd c_1 (nI_ge (b := 6) hlt (by decide))
    · refine lv_aload FX.1 FX.2.1 dX2_houseTold_25 (lv_at hl 5 rfl) ?_
      refine lv_iload FX.1 FX.2.1 dX2_houseTold_27 (lv_at hl 0 rfl) ?_
      refine p_iald (v := f i) FX hK hP 1 rfl (vp_in_nI hlt (by decide)) dX2_houseTold_29 (congrArg f (nI_clamp (by omega))) ?_
      refine lv_istore (lv' := [(7, .int (f i)), (6, .int (nI i)), (0, .ref o), (1, .int k1), (2, .int (y_mfull f (i))), (3, .int (y_mall f (i))), (4, .ref bo), (5, .int 6)]) FX.1 FX.2.1 dX2_houseTold_30 hl (by decide) rfl (fun ls hl => ?_)
      refine lv_iload_n FX.1 FX.2.1 dX2_houseTold_32 rfl (lv_at hl 4 rfl) ?_
      refine lv_iload FX.1 FX.2.1 dX2_houseTold_33 (lv_at hl 0 rfl) ?_
      refine lv_ldc (v := (-100000)) FX.1 FX.2.1 FX.2.2.2.1 (FX.2.2.2.2 _ co_RX2_9) dX2_houseTold_35 ?_
      refine lv_icmp_eq (tgt := 44) FX.1 FX.2.1 dX2_houseTold_37 (by decide) (fun c_2 => ?_) (fun c_2 => ?_)
      · refine lv_iconst (v := 0) FX.1 FX.2.1 dX2_houseTold_44 (by decide) ?_
        refine c_RDs FX (r_X2_one l D cI cB 0) mi_X2_one rfl ml_RX2_32 (RMk.mk hRf hRl) hl.1 rfl (Nat.le_of_ble_eq_true rfl) dX2_houseTold_45 hf hK hP [] rfl ?_
        refine lv_iadd FX.1 FX.2.1 dX2_houseTold_48 ?_
        refine lv_istore_n (lv' := [(2, .int ((y_mfull f (i)) + (v_X2_one 0))), (7, .int (f i)), (6, .int (nI i)), (0, .ref o), (1, .int k1), (3, .int (y_mall f (i))), (4, .ref bo), (5, .int 6)]) FX.1 FX.2.1 dX2_houseTold_49 rfl hl (by decide) rfl (fun ls hl => ?_)
        refine lv_iload_n FX.1 FX.2.1 dX2_houseTold_50 rfl (lv_at hl 5 rfl) ?_
        refine lv_iload FX.1 FX.2.1 dX2_houseTold_51 (lv_at hl 1 rfl) ?_
        refine c_RDs FX (r_X2_codeTold l D cI cB (f i)) mi_X2_codeTold rfl ml_RX2_88 (RMk.mk hRf hRl) hl.1 rfl (Nat.le_of_ble_eq_true rfl) dX2_houseTold_53 hf hK hP [] rfl ?_
        refine lv_iadd FX.1 FX.2.1 dX2_houseTold_56 ?_
        refine lv_istore_n (lv' := [(3, .int ((y_mall f (i)) + (v_X2_codeTold (f i)))), (2, .int ((y_mfull f (i)) + (v_X2_one 0))), (7, .int (f i)), (6, .int (nI i)), (0, .ref o), (1, .int k1), (4, .ref bo), (5, .int 6)]) FX.1 FX.2.1 dX2_houseTold_57 rfl hl (by decide) rfl (fun ls hl => ?_)
        refine lv_iinc (v := nI (i + 1)) (lv' := [(6, .int (nI (i + 1))), (3, .int ((y_mall f (i)) + (v_X2_codeTold (f i)))), (2, .int ((y_mfull f (i)) + (v_X2_one 0))), (7, .int (f i)), (0, .ref o), (1, .int k1), (4, .ref bo), (5, .int 6)]) FX.1 FX.2.1 dX2_houseTold_58 hl (k := 3) rfl (by exact nI_1 _) (by decide) rfl (fun ls hl => ?_)
        refine lv_goto (tgt := 18) FX.1 FX.2.1 dX2_houseTold_61 (by decide) ?_
        have ez : y_mfull f i + v_X2_one 0 = y_mfull f (i + 1) := by rw [y_mfull, mfull, if_pos c_2]
        rw [ez] at hl
        exact ih (i + 1) (by omega) ls (lv_sub hl [0, 4, 5, 2, 1, 6, 7] rfl)
      · refine lv_iconst (v := 1) FX.1 FX.2.1 dX2_houseTold_40 (by decide) ?_
        refine lv_goto (tgt := 45) FX.1 FX.2.1 dX2_houseTold_41 (by decide) ?_
        refine c_RDs FX (r_X2_one l D cI cB 1) mi_X2_one rfl ml_RX2_32 (RMk.mk hRf hRl) hl.1 rfl (Nat.le_of_ble_eq_true rfl) dX2_houseTold_45 hf hK hP [] rfl ?_
        refine lv_iadd FX.1 FX.2.1 dX2_houseTold_48 ?_
        refine lv_istore_n (lv' := [(2, .int ((y_mfull f (i)) + (v_X2_one 1))), (7, .int (f i)), (6, .int (nI i)), (0, .ref o), (1, .int k1), (3, .int (y_mall f (i))), (4, .ref bo), (5, .int 6)]) FX.1 FX.2.1 dX2_houseTold_49 rfl hl (by decide) rfl (fun ls hl => ?_)
        refine lv_iload_n FX.1 FX.2.1 dX2_houseTold_50 rfl (lv_at hl 5 rfl) ?_
        refine lv_iload FX.1 FX.2.1 dX2_houseTold_51 (lv_at hl 1 rfl) ?_
        refine c_RDs FX (r_X2_codeTold l D cI cB (f i)) mi_X2_codeTold rfl ml_RX2_88 (RMk.mk hRf hRl) hl.1 rfl (Nat.le_of_ble_eq_true rfl) dX2_houseTold_53 hf hK hP [] rfl ?_
        refine lv_iadd FX.1 FX.2.1 dX2_houseTold_56 ?_
        refine lv_istore_n (lv' := [(3, .int ((y_mall f (i)) + (v_X2_codeTold (f i)))), (2, .int ((y_mfull f (i)) + (v_X2_one 1))), (7, .int (f i)), (6, .int (nI i)), (0, .ref o), (1, .int k1), (4, .ref bo), (5, .int 6)]) FX.1 FX.2.1 dX2_houseTold_57 rfl hl (by decide) rfl (fun ls hl => ?_)
        refine lv_iinc (v := nI (i + 1)) (lv' := [(6, .int (nI (i + 1))), (3, .int ((y_mall f (i)) + (v_X2_codeTold (f i)))), (2, .int ((y_mfull f (i)) + (v_X2_one 1))), (7, .int (f i)), (0, .ref o), (1, .int k1), (4, .ref bo), (5, .int 6)]) FX.1 FX.2.1 dX2_houseTold_58 hl (k := 3) rfl (by exact nI_1 _) (by decide) rfl (fun ls hl => ?_)
        refine lv_goto (tgt := 18) FX.1 FX.2.1 dX2_houseTold_61 (by decide) ?_
        have ez : y_mfull f i + v_X2_one 1 = y_mfull f (i + 1) := by rw [y_mfull, mfull, if_neg c_2]
        rw [ez] at hl
        exact ih (i + 1) (by omega) ls (lv_sub hl [0, 4, 5, 2, 1, 6, 7] rfl)
def v_X2_houseTold (k1 : Int32) (f : Nat → Int32) (g : Nat → Int32) (ak : Int32) (su : Int32) (gt : Int32) (lf : Int32) (rf : Int32) (kn : Int32) : Int32 := if (g 0) = (-100000) then (if (g 1) = (-100000) then (upd (upd (upd (upd (upd (upd (upd (upd (upd (fun _ => 0) 0 (y_mfull f (6))) 1 (y_mall f (6))) 2 ak) 3 su) 4 gt) 5 lf) 6 rf) 7 kn) 8 ((v_X2_one 0) + (v_X2_one 0))) k1.toNatClampNeg else (upd (upd (upd (upd (upd (upd (upd (upd (upd (fun _ => 0) 0 (y_mfull f (6))) 1 (y_mall f (6))) 2 ak) 3 su) 4 gt) 5 lf) 6 rf) 7 kn) 8 ((v_X2_one 0) + (v_X2_one 1))) k1.toNatClampNeg) else (if (g 1) = (-100000) then (upd (upd (upd (upd (upd (upd (upd (upd (upd (fun _ => 0) 0 (y_mfull f (6))) 1 (y_mall f (6))) 2 ak) 3 su) 4 gt) 5 lf) 6 rf) 7 kn) 8 ((v_X2_one 1) + (v_X2_one 0))) k1.toNatClampNeg else (upd (upd (upd (upd (upd (upd (upd (upd (upd (fun _ => 0) 0 (y_mfull f (6))) 1 (y_mall f (6))) 2 ak) 3 su) 4 gt) 5 lf) 6 rf) 7 kn) 8 ((v_X2_one 1) + (v_X2_one 1))) k1.toNatClampNeg)
set_option maxRecDepth 100000 in
set_option maxHeartbeats 4000000 in
theorem k_X2_houseTold (l : Launch) (D : va_G) (cI cB : ClassId) (o bo po : Nat) (th : Int32) (f g : Nat → Int32) (ak su gt lf rf kn : Int32) (k1 : Int32) (hi : vp_in k1 9) : WR l yX2_houseTold cX2_houseTold 8 (some .int) ({ frames := 1, cells := 1, slots := 9, locals := 20 } : Room) D cI cB [.ref o, .int k1] (wM cI o bo po th f g ak su gt lf rf kn) (v_X2_houseTold k1 f g ak su gt lf rf kn) (wM cI o bo po th f g ak su gt lf rf kn) 1 9 := by
  refine bodyWR (by decide +kernel) (Nat.le_of_ble_eq_true rfl) (fun p e s m args below meth c ls A Z => ?_)
  obtain ⟨FX, hr, hlk, hK, hP, hD, hS, hA, hl⟩ := Z
  have hl : lv_has ls 8 [(0, .ref o), (1, .int k1)] := hl
  refine lv_iconst (v := 0) FX.1 FX.2.1 dX2_houseTold_0 (by decide) ?_
  refine lv_istore_n (lv' := [(2, .int 0), (0, .ref o), (1, .int k1)]) FX.1 FX.2.1 dX2_houseTold_1 rfl hl (by decide) rfl (fun ls hl => ?_)
  refine lv_iconst (v := 0) FX.1 FX.2.1 dX2_houseTold_2 (by decide) ?_
  refine lv_istore_n (lv' := [(3, .int 0), (2, .int 0), (0, .ref o), (1, .int k1)]) FX.1 FX.2.1 dX2_houseTold_3 rfl hl (by decide) rfl (fun ls hl => ?_)
  refine lv_aload_n FX.1 FX.2.1 dX2_houseTold_4 rfl (lv_at hl 2 rfl) ?_
  refine va_get (D := D) (ci := 4) (v := .ref bo) (C := RX2) (T := TX2) (N := 9) FX.1 FX.2.1 FX.2.2.2.2 inX2 FX.2.2.2.1 hK hP 0 rfl rfl 1 (by decide) (FX.2.2.2.2 _ fl_RX2_10) (fun _ h9 => h9) rfl dX2_houseTold_5 ?_
  refine lv_astore (lv' := [(4, .ref bo), (3, .int 0), (2, .int 0), (0, .ref o), (1, .int k1)]) FX.1 FX.2.1 dX2_houseTold_8 hl (by decide) rfl (fun ls hl => ?_)
  refine lv_aload FX.1 FX.2.1 dX2_houseTold_10 (lv_at hl 0 rfl) ?_
  refine va_alen FX.1 FX.2.1 hK hP 1 0 rfl rfl (v := 6) (by rfl) dX2_houseTold_12 ?_
  refine lv_istore (lv' := [(5, .int 6), (4, .ref bo), (3, .int 0), (2, .int 0), (0, .ref o), (1, .int k1)]) FX.1 FX.2.1 dX2_houseTold_13 hl (by decide) rfl (fun ls hl => ?_)
  refine lv_iconst (v := 0) FX.1 FX.2.1 dX2_houseTold_15 (by decide) ?_
  refine lv_istore (lv' := [(6, .int 0), (5, .int 6), (4, .ref bo), (3, .int 0), (2, .int 0), (0, .ref o), (1, .int k1)]) FX.1 FX.2.1 dX2_houseTold_16 hl (by decide) rfl (fun ls hl => ?_)
  refine L_X2_houseTold_18 D cI cB o bo po th f g ak su gt lf rf kn k1  (Nat.le_of_ble_eq_true rfl) (Nat.le_of_ble_eq_true rfl) (by decide) FX hK hP (fun ls hl => ?_) 6 0 (by omega) ls (lv_sub hl [0, 5, 6, 4, 3, 2, 1] rfl)
  refine lv_bipush (v := 9) FX.1 FX.2.1 dX2_houseTold_64 (by decide) ?_
  refine p_newI (N' := 9) FX ac_int hK hP hD hS hA (by decide) (by decide) (Nat.le_of_ble_eq_true rfl) (by decide) (by decide) dX2_houseTold_66 (fun q1 H hP hD hS => ?_)
  have hP : va_P D KL ((wM cI o bo po th f g ak su gt lf rf kn) ++ [(q1, .inl (cI, 9, .inl (fun _ => 0)))]) H := hP
  have hD : va_D A ((wM cI o bo po th f g ak su gt lf rf kn) ++ [(q1, .inl (cI, 9, .inl (fun _ => 0)))]) := hD
  refine lv_dup FX.1 FX.2.1 dX2_houseTold_68 rfl ?_
  refine lv_iconst (v := 0) FX.1 FX.2.1 dX2_houseTold_69 (by decide) ?_
  refine lv_iload_n FX.1 FX.2.1 dX2_houseTold_70 rfl (lv_at hl 3 rfl) ?_
  refine p_iast (wsN := ((wM cI o bo po th f g ak su gt lf rf kn) ++ [(q1, .inl (cI, 9, .inl (upd (fun _ => 0) 0 (y_mfull f (6)))))])) FX hK hP hD hS 3 rfl (vp_in_iff.mpr ⟨by decide, by decide⟩) dX2_houseTold_71 rfl (fun H locs hP hD hS => ?_)
  refine lv_dup FX.1 FX.2.1 dX2_houseTold_72 rfl ?_
  refine lv_iconst (v := 1) FX.1 FX.2.1 dX2_houseTold_73 (by decide) ?_
  refine lv_iload_n FX.1 FX.2.1 dX2_houseTold_74 rfl (lv_at hl 4 rfl) ?_
  refine p_iast (wsN := ((wM cI o bo po th f g ak su gt lf rf kn) ++ [(q1, .inl (cI, 9, .inl (upd (upd (fun _ => 0) 0 (y_mfull f (6))) 1 (y_mall f (6)))))])) FX hK hP hD hS 3 rfl (vp_in_iff.mpr ⟨by decide, by decide⟩) dX2_houseTold_75 rfl (fun H locs hP hD hS => ?_)
  refine lv_dup FX.1 FX.2.1 dX2_houseTold_76 rfl ?_
  refine lv_iconst (v := 2) FX.1 FX.2.1 dX2_houseTold_77 (by decide) ?_
  refine lv_aload_n FX.1 FX.2.1 dX2_houseTold_78 rfl (lv_at hl 1 rfl) ?_
  refine va_get (D := D) (ci := 4) (v := .int ak) (C := RX2) (T := TX2) (N := 9) FX.1 FX.2.1 FX.2.2.2.2 inX2 FX.2.2.2.1 hK hP 0 rfl rfl 3 (by decide) (FX.2.2.2.2 _ fl_RX2_55) (fun _ h9 => h9) rfl dX2_houseTold_79 ?_
  refine p_iast (wsN := ((wM cI o bo po th f g ak su gt lf rf kn) ++ [(q1, .inl (cI, 9, .inl (upd (upd (upd (fun _ => 0) 0 (y_mfull f (6))) 1 (y_mall f (6))) 2 ak)))])) FX hK hP hD hS 3 rfl (vp_in_iff.mpr ⟨by decide, by decide⟩) dX2_houseTold_82 rfl (fun H locs hP hD hS => ?_)
  refine lv_dup FX.1 FX.2.1 dX2_houseTold_83 rfl ?_
  refine lv_iconst (v := 3) FX.1 FX.2.1 dX2_houseTold_84 (by decide) ?_
  refine lv_aload_n FX.1 FX.2.1 dX2_houseTold_85 rfl (lv_at hl 1 rfl) ?_
  refine va_get (D := D) (ci := 4) (v := .int su) (C := RX2) (T := TX2) (N := 9) FX.1 FX.2.1 FX.2.2.2.2 inX2 FX.2.2.2.1 hK hP 0 rfl rfl 4 (by decide) (FX.2.2.2.2 _ fl_RX2_74) (fun _ h9 => h9) rfl dX2_houseTold_86 ?_
  refine p_iast (wsN := ((wM cI o bo po th f g ak su gt lf rf kn) ++ [(q1, .inl (cI, 9, .inl (upd (upd (upd (upd (fun _ => 0) 0 (y_mfull f (6))) 1 (y_mall f (6))) 2 ak) 3 su)))])) FX hK hP hD hS 3 rfl (vp_in_iff.mpr ⟨by decide, by decide⟩) dX2_houseTold_89 rfl (fun H locs hP hD hS => ?_)
  refine lv_dup FX.1 FX.2.1 dX2_houseTold_90 rfl ?_
  refine lv_iconst (v := 4) FX.1 FX.2.1 dX2_houseTold_91 (by decide) ?_
  refine lv_aload_n FX.1 FX.2.1 dX2_houseTold_92 rfl (lv_at hl 1 rfl) ?_
  refine va_get (D := D) (ci := 4) (v := .int gt) (C := RX2) (T := TX2) (N := 9) FX.1 FX.2.1 FX.2.2.2.2 inX2 FX.2.2.2.1 hK hP 0 rfl rfl 5 (by decide) (FX.2.2.2.2 _ fl_RX2_71) (fun _ h9 => h9) rfl dX2_houseTold_93 ?_
  refine p_iast (wsN := ((wM cI o bo po th f g ak su gt lf rf kn) ++ [(q1, .inl (cI, 9, .inl (upd (upd (upd (upd (upd (fun _ => 0) 0 (y_mfull f (6))) 1 (y_mall f (6))) 2 ak) 3 su) 4 gt)))])) FX hK hP hD hS 3 rfl (vp_in_iff.mpr ⟨by decide, by decide⟩) dX2_houseTold_96 rfl (fun H locs hP hD hS => ?_)
  refine lv_dup FX.1 FX.2.1 dX2_houseTold_97 rfl ?_
  refine lv_iconst (v := 5) FX.1 FX.2.1 dX2_houseTold_98 (by decide) ?_
  refine lv_aload_n FX.1 FX.2.1 dX2_houseTold_99 rfl (lv_at hl 1 rfl) ?_
  refine va_get (D := D) (ci := 4) (v := .int lf) (C := RX2) (T := TX2) (N := 9) FX.1 FX.2.1 FX.2.2.2.2 inX2 FX.2.2.2.1 hK hP 0 rfl rfl 6 (by decide) (FX.2.2.2.2 _ fl_RX2_81) (fun _ h9 => h9) rfl dX2_houseTold_100 ?_
  refine p_iast (wsN := ((wM cI o bo po th f g ak su gt lf rf kn) ++ [(q1, .inl (cI, 9, .inl (upd (upd (upd (upd (upd (upd (fun _ => 0) 0 (y_mfull f (6))) 1 (y_mall f (6))) 2 ak) 3 su) 4 gt) 5 lf)))])) FX hK hP hD hS 3 rfl (vp_in_iff.mpr ⟨by decide, by decide⟩) dX2_houseTold_103 rfl (fun H locs hP hD hS => ?_)
  refine lv_dup FX.1 FX.2.1 dX2_houseTold_104 rfl ?_
  refine lv_bipush (v := 6) FX.1 FX.2.1 dX2_houseTold_105 (by decide) ?_
  refine lv_aload_n FX.1 FX.2.1 dX2_houseTold_107 rfl (lv_at hl 1 rfl) ?_
  refine va_get (D := D) (ci := 4) (v := .int rf) (C := RX2) (T := TX2) (N := 9) FX.1 FX.2.1 FX.2.2.2.2 inX2 FX.2.2.2.1 hK hP 0 rfl rfl 7 (by decide) (FX.2.2.2.2 _ fl_RX2_29) (fun _ h9 => h9) rfl dX2_houseTold_108 ?_
  refine p_iast (wsN := ((wM cI o bo po th f g ak su gt lf rf kn) ++ [(q1, .inl (cI, 9, .inl (upd (upd (upd (upd (upd (upd (upd (fun _ => 0) 0 (y_mfull f (6))) 1 (y_mall f (6))) 2 ak) 3 su) 4 gt) 5 lf) 6 rf)))])) FX hK hP hD hS 3 rfl (vp_in_iff.mpr ⟨by decide, by decide⟩) dX2_houseTold_111 rfl (fun H locs hP hD hS => ?_)
  refine lv_dup FX.1 FX.2.1 dX2_houseTold_112 rfl ?_
  refine lv_bipush (v := 7) FX.1 FX.2.1 dX2_houseTold_113 (by decide) ?_
  refine lv_aload_n FX.1 FX.2.1 dX2_houseTold_115 rfl (lv_at hl 1 rfl) ?_
  refine va_get (D := D) (ci := 4) (v := .int kn) (C := RX2) (T := TX2) (N := 9) FX.1 FX.2.1 FX.2.2.2.2 inX2 FX.2.2.2.1 hK hP 0 rfl rfl 8 (by decide) (FX.2.2.2.2 _ fl_RX2_146) (fun _ h9 => h9) rfl dX2_houseTold_116 ?_
  refine p_iast (wsN := ((wM cI o bo po th f g ak su gt lf rf kn) ++ [(q1, .inl (cI, 9, .inl (upd (upd (upd (upd (upd (upd (upd (upd (fun _ => 0) 0 (y_mfull f (6))) 1 (y_mall f (6))) 2 ak) 3 su) 4 gt) 5 lf) 6 rf) 7 kn)))])) FX hK hP hD hS 3 rfl (vp_in_iff.mpr ⟨by decide, by decide⟩) dX2_houseTold_119 rfl (fun H locs hP hD hS => ?_)
  refine lv_dup FX.1 FX.2.1 dX2_houseTold_120 rfl ?_
  refine lv_bipush (v := 8) FX.1 FX.2.1 dX2_houseTold_121 (by decide) ?_
  refine lv_aload_n FX.1 FX.2.1 dX2_houseTold_123 rfl (lv_at hl 1 rfl) ?_
  refine va_get (D := D) (ci := 4) (v := .ref po) (C := RX2) (T := TX2) (N := 9) FX.1 FX.2.1 FX.2.2.2.2 inX2 FX.2.2.2.1 hK hP 0 rfl rfl 2 (by decide) (FX.2.2.2.2 _ fl_RX2_14) (fun _ h9 => h9) rfl dX2_houseTold_124 ?_
  refine lv_iconst (v := 0) FX.1 FX.2.1 dX2_houseTold_127 (by decide) ?_
  refine p_iald (v := g 0) FX hK hP 2 rfl (vp_in_iff.mpr ⟨by decide, by decide⟩) dX2_houseTold_128 rfl ?_
  refine lv_ldc (v := (-100000)) FX.1 FX.2.1 FX.2.2.2.1 (FX.2.2.2.2 _ co_RX2_9) dX2_houseTold_129 ?_
  refine lv_icmp_eq (tgt := 138) FX.1 FX.2.1 dX2_houseTold_131 (by decide) (fun c_2 => ?_) (fun c_2 => ?_)
  · refine lv_iconst (v := 0) FX.1 FX.2.1 dX2_houseTold_138 (by decide) ?_
    refine c_RDs FX (r_X2_one l D cI cB 0) mi_X2_one rfl ml_RX2_32 (RMok.mk) hl.1 rfl (Nat.le_of_ble_eq_true rfl) dX2_houseTold_139 (by decide) hK hP [] rfl ?_
    refine lv_aload_n FX.1 FX.2.1 dX2_houseTold_142 rfl (lv_at hl 1 rfl) ?_
    refine va_get (D := D) (ci := 4) (v := .ref po) (C := RX2) (T := TX2) (N := 9) FX.1 FX.2.1 FX.2.2.2.2 inX2 FX.2.2.2.1 hK hP 0 rfl rfl 2 (by decide) (FX.2.2.2.2 _ fl_RX2_14) (fun _ h9 => h9) rfl dX2_houseTold_143 ?_
    refine lv_iconst (v := 1) FX.1 FX.2.1 dX2_houseTold_146 (by decide) ?_
    refine p_iald (v := g 1) FX hK hP 2 rfl (vp_in_iff.mpr ⟨by decide, by decide⟩) dX2_houseTold_147 rfl ?_
    refine lv_ldc (v := (-100000)) FX.1 FX.2.1 FX.2.2.2.1 (FX.2.2.2.2 _ co_RX2_9) dX2_houseTold_148 ?_
    refine lv_icmp_eq (tgt := 157) FX.1 FX.2.1 dX2_houseTold_150 (by decide) (fun c_3 => ?_) (fun c_3 => ?_)
    · refine lv_iconst (v := 0) FX.1 FX.2.1 dX2_houseTold_157 (by decide) ?_
      refine c_RDs FX (r_X2_one l D cI cB 0) mi_X2_one rfl ml_RX2_32 (RMok.mk) hl.1 rfl (Nat.le_of_ble_eq_true rfl) dX2_houseTold_158 (by decide) hK hP [] rfl ?_
      refine lv_iadd FX.1 FX.2.1 dX2_houseTold_161 ?_
      refine p_iast (wsN := ((wM cI o bo po th f g ak su gt lf rf kn) ++ [(q1, .inl (cI, 9, .inl (upd (upd (upd (upd (upd (upd (upd (upd (upd (fun _ => 0) 0 (y_mfull f (6))) 1 (y_mall f (6))) 2 ak) 3 su) 4 gt) 5 lf) 6 rf) 7 kn) 8 ((v_X2_one 0) + (v_X2_one 0)))))])) FX hK hP hD hS 3 rfl (vp_in_iff.mpr ⟨by decide, by decide⟩) dX2_houseTold_162 rfl (fun H locs hP hD hS => ?_)
      refine lv_astore (lv' := [(4, .ref q1), (6, .int 6), (0, .ref o), (1, .int k1), (2, .int (y_mfull f (6))), (3, .int (y_mall f (6))), (5, .int 6)]) FX.1 FX.2.1 dX2_houseTold_163 hl (by decide) rfl (fun ls hl => ?_)
      refine lv_aload FX.1 FX.2.1 dX2_houseTold_165 (lv_at hl 0 rfl) ?_
      refine lv_iload_n FX.1 FX.2.1 dX2_houseTold_167 rfl (lv_at hl 3 rfl) ?_
      refine p_iald (v := (upd (upd (upd (upd (upd (upd (upd (upd (upd (fun _ => 0) 0 (y_mfull f (6))) 1 (y_mall f (6))) 2 ak) 3 su) 4 gt) 5 lf) 6 rf) 7 kn) 8 ((v_X2_one 0) + (v_X2_one 0))) k1.toNatClampNeg) FX hK hP 3 rfl hi dX2_houseTold_168 rfl ?_
      exact retWR FX hr hlk dX2_houseTold_169 rfl (hP.sub (ws' := (wM cI o bo po th f g ak su gt lf rf kn)) [0, 1, 2] rfl) hK (hD.sub (ws' := (wM cI o bo po th f g ak su gt lf rf kn)) [0, 1, 2] (by decide) rfl) hS (by decide) (by decide) (by rw [v_X2_houseTold, if_pos c_2, if_pos c_3]) rfl
    · refine lv_iconst (v := 1) FX.1 FX.2.1 dX2_houseTold_153 (by decide) ?_
      refine lv_goto (tgt := 158) FX.1 FX.2.1 dX2_houseTold_154 (by decide) ?_
      refine c_RDs FX (r_X2_one l D cI cB 1) mi_X2_one rfl ml_RX2_32 (RMok.mk) hl.1 rfl (Nat.le_of_ble_eq_true rfl) dX2_houseTold_158 (by decide) hK hP [] rfl ?_
      refine lv_iadd FX.1 FX.2.1 dX2_houseTold_161 ?_
      refine p_iast (wsN := ((wM cI o bo po th f g ak su gt lf rf kn) ++ [(q1, .inl (cI, 9, .inl (upd (upd (upd (upd (upd (upd (upd (upd (upd (fun _ => 0) 0 (y_mfull f (6))) 1 (y_mall f (6))) 2 ak) 3 su) 4 gt) 5 lf) 6 rf) 7 kn) 8 ((v_X2_one 0) + (v_X2_one 1)))))])) FX hK hP hD hS 3 rfl (vp_in_iff.mpr ⟨by decide, by decide⟩) dX2_houseTold_162 rfl (fun H locs hP hD hS => ?_)
      refine lv_astore (lv' := [(4, .ref q1), (6, .int 6), (0, .ref o), (1, .int k1), (2, .int (y_mfull f (6))), (3, .int (y_mall f (6))), (5, .int 6)]) FX.1 FX.2.1 dX2_houseTold_163 hl (by decide) rfl (fun ls hl => ?_)
      refine lv_aload FX.1 FX.2.1 dX2_houseTold_165 (lv_at hl 0 rfl) ?_
      refine lv_iload_n FX.1 FX.2.1 dX2_houseTold_167 rfl (lv_at hl 3 rfl) ?_
      refine p_iald (v := (upd (upd (upd (upd (upd (upd (upd (upd (upd (fun _ => 0) 0 (y_mfull f (6))) 1 (y_mall f (6))) 2 ak) 3 su) 4 gt) 5 lf) 6 rf) 7 kn) 8 ((v_X2_one 0) + (v_X2_one 1))) k1.toNatClampNeg) FX hK hP 3 rfl hi dX2_houseTold_168 rfl ?_
      exact retWR FX hr hlk dX2_houseTold_169 rfl (hP.sub (ws' := (wM cI o bo po th f g ak su gt lf rf kn)) [0, 1, 2] rfl) hK (hD.sub (ws' := (wM cI o bo po th f g ak su gt lf rf kn)) [0, 1, 2] (by decide) rfl) hS (by decide) (by decide) (by rw [v_X2_houseTold, if_pos c_2, if_neg c_3]) rfl
  · refine lv_iconst (v := 1) FX.1 FX.2.1 dX2_houseTold_134 (by decide) ?_
    refine lv_goto (tgt := 139) FX.1 FX.2.1 dX2_houseTold_135 (by decide) ?_
    refine c_RDs FX (r_X2_one l D cI cB 1) mi_X2_one rfl ml_RX2_32 (RMok.mk) hl.1 rfl (Nat.le_of_ble_eq_true rfl) dX2_houseTold_139 (by decide) hK hP [] rfl ?_
    refine lv_aload_n FX.1 FX.2.1 dX2_houseTold_142 rfl (lv_at hl 1 rfl) ?_
    refine va_get (D := D) (ci := 4) (v := .ref po) (C := RX2) (T := TX2) (N := 9) FX.1 FX.2.1 FX.2.2.2.2 inX2 FX.2.2.2.1 hK hP 0 rfl rfl 2 (by decide) (FX.2.2.2.2 _ fl_RX2_14) (fun _ h9 => h9) rfl dX2_houseTold_143 ?_
    refine lv_iconst (v := 1) FX.1 FX.2.1 dX2_houseTold_146 (by decide) ?_
    refine p_iald (v := g 1) FX hK hP 2 rfl (vp_in_iff.mpr ⟨by decide, by decide⟩) dX2_houseTold_147 rfl ?_
    refine lv_ldc (v := (-100000)) FX.1 FX.2.1 FX.2.2.2.1 (FX.2.2.2.2 _ co_RX2_9) dX2_houseTold_148 ?_
    refine lv_icmp_eq (tgt := 157) FX.1 FX.2.1 dX2_houseTold_150 (by decide) (fun c_4 => ?_) (fun c_4 => ?_)
    · refine lv_iconst (v := 0) FX.1 FX.2.1 dX2_houseTold_157 (by decide) ?_
      refine c_RDs FX (r_X2_one l D cI cB 0) mi_X2_one rfl ml_RX2_32 (RMok.mk) hl.1 rfl (Nat.le_of_ble_eq_true rfl) dX2_houseTold_158 (by decide) hK hP [] rfl ?_
      refine lv_iadd FX.1 FX.2.1 dX2_houseTold_161 ?_
      refine p_iast (wsN := ((wM cI o bo po th f g ak su gt lf rf kn) ++ [(q1, .inl (cI, 9, .inl (upd (upd (upd (upd (upd (upd (upd (upd (upd (fun _ => 0) 0 (y_mfull f (6))) 1 (y_mall f (6))) 2 ak) 3 su) 4 gt) 5 lf) 6 rf) 7 kn) 8 ((v_X2_one 1) + (v_X2_one 0)))))])) FX hK hP hD hS 3 rfl (vp_in_iff.mpr ⟨by decide, by decide⟩) dX2_houseTold_162 rfl (fun H locs hP hD hS => ?_)
      refine lv_astore (lv' := [(4, .ref q1), (6, .int 6), (0, .ref o), (1, .int k1), (2, .int (y_mfull f (6))), (3, .int (y_mall f (6))), (5, .int 6)]) FX.1 FX.2.1 dX2_houseTold_163 hl (by decide) rfl (fun ls hl => ?_)
      refine lv_aload FX.1 FX.2.1 dX2_houseTold_165 (lv_at hl 0 rfl) ?_
      refine lv_iload_n FX.1 FX.2.1 dX2_houseTold_167 rfl (lv_at hl 3 rfl) ?_
      refine p_iald (v := (upd (upd (upd (upd (upd (upd (upd (upd (upd (fun _ => 0) 0 (y_mfull f (6))) 1 (y_mall f (6))) 2 ak) 3 su) 4 gt) 5 lf) 6 rf) 7 kn) 8 ((v_X2_one 1) + (v_X2_one 0))) k1.toNatClampNeg) FX hK hP 3 rfl hi dX2_houseTold_168 rfl ?_
      exact retWR FX hr hlk dX2_houseTold_169 rfl (hP.sub (ws' := (wM cI o bo po th f g ak su gt lf rf kn)) [0, 1, 2] rfl) hK (hD.sub (ws' := (wM cI o bo po th f g ak su gt lf rf kn)) [0, 1, 2] (by decide) rfl) hS (by decide) (by decide) (by rw [v_X2_houseTold, if_neg c_2, if_pos c_4]) rfl
    · refine lv_iconst (v := 1) FX.1 FX.2.1 dX2_houseTold_153 (by decide) ?_
      refine lv_goto (tgt := 158) FX.1 FX.2.1 dX2_houseTold_154 (by decide) ?_
      refine c_RDs FX (r_X2_one l D cI cB 1) mi_X2_one rfl ml_RX2_32 (RMok.mk) hl.1 rfl (Nat.le_of_ble_eq_true rfl) dX2_houseTold_158 (by decide) hK hP [] rfl ?_
      refine lv_iadd FX.1 FX.2.1 dX2_houseTold_161 ?_
      refine p_iast (wsN := ((wM cI o bo po th f g ak su gt lf rf kn) ++ [(q1, .inl (cI, 9, .inl (upd (upd (upd (upd (upd (upd (upd (upd (upd (fun _ => 0) 0 (y_mfull f (6))) 1 (y_mall f (6))) 2 ak) 3 su) 4 gt) 5 lf) 6 rf) 7 kn) 8 ((v_X2_one 1) + (v_X2_one 1)))))])) FX hK hP hD hS 3 rfl (vp_in_iff.mpr ⟨by decide, by decide⟩) dX2_houseTold_162 rfl (fun H locs hP hD hS => ?_)
      refine lv_astore (lv' := [(4, .ref q1), (6, .int 6), (0, .ref o), (1, .int k1), (2, .int (y_mfull f (6))), (3, .int (y_mall f (6))), (5, .int 6)]) FX.1 FX.2.1 dX2_houseTold_163 hl (by decide) rfl (fun ls hl => ?_)
      refine lv_aload FX.1 FX.2.1 dX2_houseTold_165 (lv_at hl 0 rfl) ?_
      refine lv_iload_n FX.1 FX.2.1 dX2_houseTold_167 rfl (lv_at hl 3 rfl) ?_
      refine p_iald (v := (upd (upd (upd (upd (upd (upd (upd (upd (upd (fun _ => 0) 0 (y_mfull f (6))) 1 (y_mall f (6))) 2 ak) 3 su) 4 gt) 5 lf) 6 rf) 7 kn) 8 ((v_X2_one 1) + (v_X2_one 1))) k1.toNatClampNeg) FX hK hP 3 rfl hi dX2_houseTold_168 rfl ?_
      exact retWR FX hr hlk dX2_houseTold_169 rfl (hP.sub (ws' := (wM cI o bo po th f g ak su gt lf rf kn)) [0, 1, 2] rfl) hK (hD.sub (ws' := (wM cI o bo po th f g ak su gt lf rf kn)) [0, 1, 2] (by decide) rfl) hS (by decide) (by decide) (by rw [v_X2_houseTold, if_neg c_2, if_neg c_4]) rfl
theorem in9_isIn {k : Int32} (h : ¬ v_X2_isIn k 0 8 = 0) : vp_in k 9 := by
  rcases isIn_1 (v := k) (a := 0) (b := 8) with h1 | ⟨h1, h2, h3⟩
  · exact absurd h1 h
  · rw [Int32.le_iff_toInt_le] at h1 h2
    have : (8 : Int32).toInt = 8 := by decide
    rw [i32_0] at h1; rw [this] at h2
    exact vp_in_iff.mpr ⟨by omega, by omega⟩
def v_X2_house (k1 : Int32) (f : Nat → Int32) (g : Nat → Int32) (ak : Int32) (su : Int32) (gt : Int32) (lf : Int32) (rf : Int32) (kn : Int32) : Int32 := if (v_X2_isIn k1 0 8) = 0 then 0 else v_X2_houseTold k1 f g ak su gt lf rf kn
def wth_X2_house (k1 : Int32) : Int32 := if (v_X2_isIn k1 0 8) = 0 then wth_X2_fails 1 0 else wth_X2_fails 0 0
set_option maxRecDepth 100000 in
set_option maxHeartbeats 4000000 in
theorem k_X2_house (l : Launch) (D : va_G) (cI cB : ClassId) (o bo po : Nat) (th : Int32) (f g : Nat → Int32) (ak su gt lf rf kn : Int32) (k1 : Int32) : WR l yX2_house cX2_house 2 (some .int) ({ frames := 2, cells := 1, slots := 9, locals := 47 } : Room) D cI cB [.ref o, .int k1] (wM cI o bo po th f g ak su gt lf rf kn) (v_X2_house k1 f g ak su gt lf rf kn) (wM cI o bo po (wth_X2_house k1) f g ak su gt lf rf kn) 1 9 := by
  refine bodyWR (by decide +kernel) (Nat.le_of_ble_eq_true rfl) (fun p e s m args below meth c ls A Z => ?_)
  obtain ⟨FX, hr, hlk, hK, hP, hD, hS, hA, hl⟩ := Z
  have hl : lv_has ls 2 [(0, .ref o), (1, .int k1)] := hl
  refine lv_aload_n FX.1 FX.2.1 dX2_house_0 rfl (lv_at hl 0 rfl) ?_
  refine lv_iload_n FX.1 FX.2.1 dX2_house_1 rfl (lv_at hl 1 rfl) ?_
  refine lv_iconst (v := 0) FX.1 FX.2.1 dX2_house_2 (by decide) ?_
  refine lv_bipush (v := 8) FX.1 FX.2.1 dX2_house_3 (by decide) ?_
  refine c_RDs FX (r_X2_isIn l D cI cB k1 0 8) mi_X2_isIn rfl ml_RX2_21 (RMok.mk) hl.1 rfl (Nat.le_of_ble_eq_true rfl) dX2_house_5 (by decide) hK hP [] rfl ?_
  refine lv_if_ne (tgt := 15) FX.1 FX.2.1 dX2_house_8 (by decide) (fun c_1 => ?_) (fun c_1 => ?_)
  · refine lv_iconst (v := 0) FX.1 FX.2.1 dX2_house_15 (by decide) ?_
    refine lv_iconst (v := 0) FX.1 FX.2.1 dX2_house_16 (by decide) ?_
    refine c_WRV (wr := []) (wsN := (wM cI o bo po (wth_X2_fails 0 0) f g ak su gt lf rf kn)) (i0 := 0) (ci := 4) FX (k_X2_fails l D cI cB o bo po th f g ak su gt lf rf kn 0 0) mi_X2_fails rfl ml_RX2_43 (RMok.mk) hl.1 rfl (Nat.le_of_ble_eq_true rfl) dX2_house_17 (by decide) hK hP hD hS hA [0, 1, 2] rfl [] rfl rfl (by decide) [0, 1, 2] rfl rfl rfl rfl rfl (fun H locs hP hD hS => ?_)
    refine lv_if_eq (tgt := 27) FX.1 FX.2.1 dX2_house_20 (by decide) (fun c_2 => ?_) (fun c_2 => ?_)
    · refine lv_aload_n FX.1 FX.2.1 dX2_house_27 rfl (lv_at hl 0 rfl) ?_
      refine lv_iload_n FX.1 FX.2.1 dX2_house_28 rfl (lv_at hl 1 rfl) ?_
      refine c_WRV (wr := []) (wsN := (wM cI o bo po (wth_X2_fails 0 0) f g ak su gt lf rf kn)) (i0 := 0) (ci := 4) FX (k_X2_houseTold l D cI cB o bo po (wth_X2_fails 0 0) f g ak su gt lf rf kn k1 (in9_isIn c_1)) mi_X2_houseTold rfl ml_RX2_149 (RMok.mk) hl.1 rfl (Nat.le_of_ble_eq_true rfl) dX2_house_29 (by decide) hK hP hD hS hA [0, 1, 2] rfl [] rfl rfl (by decide) [0, 1, 2] rfl rfl rfl rfl rfl (fun H locs hP hD hS => ?_)
      exact retWR FX hr hlk dX2_house_32 rfl hP hK hD hS (by decide) (by decide) (by rw [v_X2_house, if_neg c_1]) (by rw [wth_X2_house, if_neg c_1])
    · exact absurd c_2 (by decide)
  · refine lv_iconst (v := 1) FX.1 FX.2.1 dX2_house_11 (by decide) ?_
    refine lv_goto (tgt := 16) FX.1 FX.2.1 dX2_house_12 (by decide) ?_
    refine lv_iconst (v := 0) FX.1 FX.2.1 dX2_house_16 (by decide) ?_
    refine c_WRV (wr := []) (wsN := (wM cI o bo po (wth_X2_fails 1 0) f g ak su gt lf rf kn)) (i0 := 0) (ci := 4) FX (k_X2_fails l D cI cB o bo po th f g ak su gt lf rf kn 1 0) mi_X2_fails rfl ml_RX2_43 (RMok.mk) hl.1 rfl (Nat.le_of_ble_eq_true rfl) dX2_house_17 (by decide) hK hP hD hS hA [0, 1, 2] rfl [] rfl rfl (by decide) [0, 1, 2] rfl rfl rfl rfl rfl (fun H locs hP hD hS => ?_)
    refine lv_if_eq (tgt := 27) FX.1 FX.2.1 dX2_house_20 (by decide) (fun c_3 => ?_) (fun c_3 => ?_)
    · exact absurd c_3 (by decide)
    · refine lv_iconst (v := 0) FX.1 FX.2.1 dX2_house_23 (by decide) ?_
      refine lv_goto (tgt := 32) FX.1 FX.2.1 dX2_house_24 (by decide) ?_
      exact retWR FX hr hlk dX2_house_32 rfl hP hK hD hS (by decide) (by decide) (by rw [v_X2_house, if_pos c_1]) (by rw [wth_X2_house, if_pos c_1])
